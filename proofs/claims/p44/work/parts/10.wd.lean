section zz10_w18
/-! the W layer, 18 -/
theorem q10w18_0_0 : (cX12_findHeard.data.toList.drop 0).take 24 = [3, 62, 29, 42, 180, 0, 121, 162, 0, 71, 3, 54, 4, 21, 4, 42, 29, 182, 0, 203, 162, 0, 52, 42] := by decide +kernel
theorem q10w18_0_24 : (cX12_findHeard.data.toList.drop 24).take 24 = [180, 0, 96, 16, 24, 29, 104, 21, 4, 96, 42, 29, 31, 21, 4, 133, 97, 182, 0, 225, 42, 180, 0, 32] := by decide +kernel
theorem q10w18_0_48 : (cX12_findHeard.data.toList.drop 48).take 24 = [29, 46, 126, 42, 180, 0, 32, 29, 46, 160, 0, 7, 4, 167, 0, 4, 3, 84, 132, 4, 1, 167, 255, 200] := by decide +kernel
theorem q10w18_0_72 : (cX12_findHeard.data.toList.drop 72).take 7 = [132, 3, 1, 167, 255, 183, 177] := by decide +kernel
theorem dX12_findHeard_0 : decode cX12_findHeard 0 = .ok (.iconst 0, 1) := dz_3 (dz_at q10w18_0_0 0)
theorem dX12_findHeard_1 : decode cX12_findHeard 1 = .ok (.istore_n 3, 1) := dz_62 (dz_at q10w18_0_0 1)
theorem dX12_findHeard_10 : decode cX12_findHeard 10 = .ok (.iconst 0, 1) := dz_3 (dz_at q10w18_0_0 10)
theorem dX12_findHeard_11 : decode cX12_findHeard 11 = .ok (.istore 4, 2) := dz_54 (dz_at q10w18_0_0 11)
theorem dX12_findHeard_13 : decode cX12_findHeard 13 = .ok (.iload 4, 2) := dz_21 (dz_at q10w18_0_0 13)
theorem dX12_findHeard_15 : decode cX12_findHeard 15 = .ok (.aload_n 0, 1) := dz_42 (dz_at q10w18_0_0 15)
theorem dX12_findHeard_16 : decode cX12_findHeard 16 = .ok (.iload_n 3, 1) := dz_29 (dz_at q10w18_0_0 16)
theorem dX12_findHeard_17 : decode cX12_findHeard 17 = .ok (.invokevirtual 203, 3) := dz_182 (dz_at q10w18_0_0 17) rfl
theorem dX12_findHeard_2 : decode cX12_findHeard 2 = .ok (.iload_n 3, 1) := dz_29 (dz_at q10w18_0_0 2)
theorem dX12_findHeard_20 : decode cX12_findHeard 20 = .ok (.if_icmp .ge 52, 3) := dz_162 (dz_at q10w18_0_0 20) (by decide +kernel)
theorem dX12_findHeard_23 : decode cX12_findHeard 23 = .ok (.aload_n 0, 1) := dz_42 (dz_at q10w18_0_0 23)
theorem dX12_findHeard_24 : decode cX12_findHeard 24 = .ok (.getfield 96, 3) := dz_180 (dz_at q10w18_0_24 0) rfl
theorem dX12_findHeard_27 : decode cX12_findHeard 27 = .ok (.bipush 24, 2) := dz_16 (dz_at q10w18_0_24 3) (by decide +kernel)
theorem dX12_findHeard_29 : decode cX12_findHeard 29 = .ok (.iload_n 3, 1) := dz_29 (dz_at q10w18_0_24 5)
theorem dX12_findHeard_3 : decode cX12_findHeard 3 = .ok (.aload_n 0, 1) := dz_42 (dz_at q10w18_0_0 3)
theorem dX12_findHeard_30 : decode cX12_findHeard 30 = .ok (.imul, 1) := dz_104 (dz_at q10w18_0_24 6)
theorem dX12_findHeard_31 : decode cX12_findHeard 31 = .ok (.iload 4, 2) := dz_21 (dz_at q10w18_0_24 7)
theorem dX12_findHeard_33 : decode cX12_findHeard 33 = .ok (.iadd, 1) := dz_96 (dz_at q10w18_0_24 9)
theorem dX12_findHeard_34 : decode cX12_findHeard 34 = .ok (.aload_n 0, 1) := dz_42 (dz_at q10w18_0_24 10)
theorem dX12_findHeard_35 : decode cX12_findHeard 35 = .ok (.iload_n 3, 1) := dz_29 (dz_at q10w18_0_24 11)
theorem dX12_findHeard_36 : decode cX12_findHeard 36 = .ok (.lload_n 1, 1) := dz_31 (dz_at q10w18_0_24 12)
theorem dX12_findHeard_37 : decode cX12_findHeard 37 = .ok (.iload 4, 2) := dz_21 (dz_at q10w18_0_24 13)
theorem dX12_findHeard_39 : decode cX12_findHeard 39 = .ok (.i2l, 1) := dz_133 (dz_at q10w18_0_24 15)
theorem dX12_findHeard_4 : decode cX12_findHeard 4 = .ok (.getfield 121, 3) := dz_180 (dz_at q10w18_0_0 4) rfl
theorem dX12_findHeard_40 : decode cX12_findHeard 40 = .ok (.ladd, 1) := dz_97 (dz_at q10w18_0_24 16)
theorem dX12_findHeard_41 : decode cX12_findHeard 41 = .ok (.invokevirtual 225, 3) := dz_182 (dz_at q10w18_0_24 17) rfl
theorem dX12_findHeard_44 : decode cX12_findHeard 44 = .ok (.aload_n 0, 1) := dz_42 (dz_at q10w18_0_24 20)
theorem dX12_findHeard_45 : decode cX12_findHeard 45 = .ok (.getfield 32, 3) := dz_180 (dz_at q10w18_0_24 21) rfl
theorem dX12_findHeard_48 : decode cX12_findHeard 48 = .ok (.iload_n 3, 1) := dz_29 (dz_at q10w18_0_48 0)
theorem dX12_findHeard_49 : decode cX12_findHeard 49 = .ok (.iaload, 1) := dz_46 (dz_at q10w18_0_48 1)
theorem dX12_findHeard_50 : decode cX12_findHeard 50 = .ok (.iand, 1) := dz_126 (dz_at q10w18_0_48 2)
theorem dX12_findHeard_51 : decode cX12_findHeard 51 = .ok (.aload_n 0, 1) := dz_42 (dz_at q10w18_0_48 3)
theorem dX12_findHeard_52 : decode cX12_findHeard 52 = .ok (.getfield 32, 3) := dz_180 (dz_at q10w18_0_48 4) rfl
theorem dX12_findHeard_55 : decode cX12_findHeard 55 = .ok (.iload_n 3, 1) := dz_29 (dz_at q10w18_0_48 7)
theorem dX12_findHeard_56 : decode cX12_findHeard 56 = .ok (.iaload, 1) := dz_46 (dz_at q10w18_0_48 8)
theorem dX12_findHeard_57 : decode cX12_findHeard 57 = .ok (.if_icmp .ne 7, 3) := dz_160 (dz_at q10w18_0_48 9) (by decide +kernel)
theorem dX12_findHeard_60 : decode cX12_findHeard 60 = .ok (.iconst 1, 1) := dz_4 (dz_at q10w18_0_48 12)
theorem dX12_findHeard_61 : decode cX12_findHeard 61 = .ok (.goto 4, 3) := dz_167 (dz_at q10w18_0_48 13) (by decide +kernel)
theorem dX12_findHeard_64 : decode cX12_findHeard 64 = .ok (.iconst 0, 1) := dz_3 (dz_at q10w18_0_48 16)
theorem dX12_findHeard_65 : decode cX12_findHeard 65 = .ok (.bastore, 1) := dz_84 (dz_at q10w18_0_48 17)
theorem dX12_findHeard_66 : decode cX12_findHeard 66 = .ok (.iinc 4 1, 3) := dz_132 (dz_at q10w18_0_48 18) (by decide +kernel)
theorem dX12_findHeard_69 : decode cX12_findHeard 69 = .ok (.goto (-56), 3) := dz_167 (dz_at q10w18_0_48 21) (by decide +kernel)
theorem dX12_findHeard_7 : decode cX12_findHeard 7 = .ok (.if_icmp .ge 71, 3) := dz_162 (dz_at q10w18_0_0 7) (by decide +kernel)
theorem dX12_findHeard_72 : decode cX12_findHeard 72 = .ok (.iinc 3 1, 3) := dz_132 (dz_at q10w18_0_72 0) (by decide +kernel)
theorem dX12_findHeard_75 : decode cX12_findHeard 75 = .ok (.goto (-73), 3) := dz_167 (dz_at q10w18_0_72 3) (by decide +kernel)
theorem dX12_findHeard_78 : decode cX12_findHeard 78 = .ok (.return_, 1) := dz_177 (dz_at q10w18_0_72 6)
theorem q10w18_1_0 : (cX12_mark.data.toList.drop 0).take 23 = [42, 3, 181, 0, 118, 27, 3, 19, 1, 6, 184, 0, 124, 153, 0, 22, 28, 4, 16, 9, 184, 0, 124] := by decide +kernel
theorem q10w18_1_23 : (cX12_mark.data.toList.drop 23).take 24 = [153, 0, 12, 42, 180, 0, 176, 16, 6, 160, 0, 5, 2, 172, 42, 180, 0, 44, 42, 180, 0, 176, 27, 79] := by decide +kernel
theorem q10w18_1_47 : (cX12_mark.data.toList.drop 47).take 24 = [42, 180, 0, 47, 42, 180, 0, 176, 28, 79, 42, 89, 180, 0, 176, 4, 96, 181, 0, 176, 42, 180, 0, 176] := by decide +kernel
theorem q10w18_1_71 : (cX12_mark.data.toList.drop 71).take 1 = [172] := by decide +kernel
theorem dX12_mark_0 : decode cX12_mark 0 = .ok (.aload_n 0, 1) := dz_42 (dz_at q10w18_1_0 0)
theorem dX12_mark_1 : decode cX12_mark 1 = .ok (.iconst 0, 1) := dz_3 (dz_at q10w18_1_0 1)
theorem dX12_mark_10 : decode cX12_mark 10 = .ok (.invokestatic 124, 3) := dz_184 (dz_at q10w18_1_0 10) rfl
theorem dX12_mark_13 : decode cX12_mark 13 = .ok (.ifCond .eq 22, 3) := dz_153 (dz_at q10w18_1_0 13) (by decide +kernel)
theorem dX12_mark_16 : decode cX12_mark 16 = .ok (.iload_n 2, 1) := dz_28 (dz_at q10w18_1_0 16)
theorem dX12_mark_17 : decode cX12_mark 17 = .ok (.iconst 1, 1) := dz_4 (dz_at q10w18_1_0 17)
theorem dX12_mark_18 : decode cX12_mark 18 = .ok (.bipush 9, 2) := dz_16 (dz_at q10w18_1_0 18) (by decide +kernel)
theorem dX12_mark_2 : decode cX12_mark 2 = .ok (.putfield 118, 3) := dz_181 (dz_at q10w18_1_0 2) rfl
theorem dX12_mark_20 : decode cX12_mark 20 = .ok (.invokestatic 124, 3) := dz_184 (dz_at q10w18_1_0 20) rfl
theorem dX12_mark_23 : decode cX12_mark 23 = .ok (.ifCond .eq 12, 3) := dz_153 (dz_at q10w18_1_23 0) (by decide +kernel)
theorem dX12_mark_26 : decode cX12_mark 26 = .ok (.aload_n 0, 1) := dz_42 (dz_at q10w18_1_23 3)
theorem dX12_mark_27 : decode cX12_mark 27 = .ok (.getfield 176, 3) := dz_180 (dz_at q10w18_1_23 4) rfl
theorem dX12_mark_30 : decode cX12_mark 30 = .ok (.bipush 6, 2) := dz_16 (dz_at q10w18_1_23 7) (by decide +kernel)
theorem dX12_mark_32 : decode cX12_mark 32 = .ok (.if_icmp .ne 5, 3) := dz_160 (dz_at q10w18_1_23 9) (by decide +kernel)
theorem dX12_mark_35 : decode cX12_mark 35 = .ok (.iconst (-1), 1) := dz_2 (dz_at q10w18_1_23 12)
theorem dX12_mark_36 : decode cX12_mark 36 = .ok (.ireturn, 1) := dz_172 (dz_at q10w18_1_23 13)
theorem dX12_mark_37 : decode cX12_mark 37 = .ok (.aload_n 0, 1) := dz_42 (dz_at q10w18_1_23 14)
theorem dX12_mark_38 : decode cX12_mark 38 = .ok (.getfield 44, 3) := dz_180 (dz_at q10w18_1_23 15) rfl
theorem dX12_mark_41 : decode cX12_mark 41 = .ok (.aload_n 0, 1) := dz_42 (dz_at q10w18_1_23 18)
theorem dX12_mark_42 : decode cX12_mark 42 = .ok (.getfield 176, 3) := dz_180 (dz_at q10w18_1_23 19) rfl
theorem dX12_mark_45 : decode cX12_mark 45 = .ok (.iload_n 1, 1) := dz_27 (dz_at q10w18_1_23 22)
theorem dX12_mark_46 : decode cX12_mark 46 = .ok (.iastore, 1) := dz_79 (dz_at q10w18_1_23 23)
theorem dX12_mark_47 : decode cX12_mark 47 = .ok (.aload_n 0, 1) := dz_42 (dz_at q10w18_1_47 0)
theorem dX12_mark_48 : decode cX12_mark 48 = .ok (.getfield 47, 3) := dz_180 (dz_at q10w18_1_47 1) rfl
theorem dX12_mark_5 : decode cX12_mark 5 = .ok (.iload_n 1, 1) := dz_27 (dz_at q10w18_1_0 5)
theorem dX12_mark_51 : decode cX12_mark 51 = .ok (.aload_n 0, 1) := dz_42 (dz_at q10w18_1_47 4)
theorem dX12_mark_52 : decode cX12_mark 52 = .ok (.getfield 176, 3) := dz_180 (dz_at q10w18_1_47 5) rfl
theorem dX12_mark_55 : decode cX12_mark 55 = .ok (.iload_n 2, 1) := dz_28 (dz_at q10w18_1_47 8)
theorem dX12_mark_56 : decode cX12_mark 56 = .ok (.iastore, 1) := dz_79 (dz_at q10w18_1_47 9)
theorem dX12_mark_57 : decode cX12_mark 57 = .ok (.aload_n 0, 1) := dz_42 (dz_at q10w18_1_47 10)
theorem dX12_mark_58 : decode cX12_mark 58 = .ok (.dup, 1) := dz_89 (dz_at q10w18_1_47 11)
theorem dX12_mark_59 : decode cX12_mark 59 = .ok (.getfield 176, 3) := dz_180 (dz_at q10w18_1_47 12) rfl
theorem dX12_mark_6 : decode cX12_mark 6 = .ok (.iconst 0, 1) := dz_3 (dz_at q10w18_1_0 6)
theorem dX12_mark_62 : decode cX12_mark 62 = .ok (.iconst 1, 1) := dz_4 (dz_at q10w18_1_47 15)
theorem dX12_mark_63 : decode cX12_mark 63 = .ok (.iadd, 1) := dz_96 (dz_at q10w18_1_47 16)
theorem dX12_mark_64 : decode cX12_mark 64 = .ok (.putfield 176, 3) := dz_181 (dz_at q10w18_1_47 17) rfl
theorem dX12_mark_67 : decode cX12_mark 67 = .ok (.aload_n 0, 1) := dz_42 (dz_at q10w18_1_47 20)
theorem dX12_mark_68 : decode cX12_mark 68 = .ok (.getfield 176, 3) := dz_180 (dz_at q10w18_1_47 21) rfl
theorem dX12_mark_7 : decode cX12_mark 7 = .ok (.ldc_w 262, 3) := dz_19 (dz_at q10w18_1_0 7) rfl
theorem dX12_mark_71 : decode cX12_mark 71 = .ok (.ireturn, 1) := dz_172 (dz_at q10w18_1_71 0)
theorem q10w18_2_0 : (cX12_meetsAt.data.toList.drop 0).take 24 = [3, 62, 29, 42, 180, 0, 121, 162, 0, 33, 42, 29, 31, 182, 0, 225, 42, 180, 0, 32, 29, 46, 126, 42] := by decide +kernel
theorem q10w18_2_24 : (cX12_meetsAt.data.toList.drop 24).take 18 = [180, 0, 32, 29, 46, 159, 0, 5, 3, 172, 132, 3, 1, 167, 255, 221, 4, 172] := by decide +kernel
theorem dX12_meetsAt_0 : decode cX12_meetsAt 0 = .ok (.iconst 0, 1) := dz_3 (dz_at q10w18_2_0 0)
theorem dX12_meetsAt_1 : decode cX12_meetsAt 1 = .ok (.istore_n 3, 1) := dz_62 (dz_at q10w18_2_0 1)
theorem dX12_meetsAt_10 : decode cX12_meetsAt 10 = .ok (.aload_n 0, 1) := dz_42 (dz_at q10w18_2_0 10)
theorem dX12_meetsAt_11 : decode cX12_meetsAt 11 = .ok (.iload_n 3, 1) := dz_29 (dz_at q10w18_2_0 11)
theorem dX12_meetsAt_12 : decode cX12_meetsAt 12 = .ok (.lload_n 1, 1) := dz_31 (dz_at q10w18_2_0 12)
theorem dX12_meetsAt_13 : decode cX12_meetsAt 13 = .ok (.invokevirtual 225, 3) := dz_182 (dz_at q10w18_2_0 13) rfl
theorem dX12_meetsAt_16 : decode cX12_meetsAt 16 = .ok (.aload_n 0, 1) := dz_42 (dz_at q10w18_2_0 16)
theorem dX12_meetsAt_17 : decode cX12_meetsAt 17 = .ok (.getfield 32, 3) := dz_180 (dz_at q10w18_2_0 17) rfl
theorem dX12_meetsAt_2 : decode cX12_meetsAt 2 = .ok (.iload_n 3, 1) := dz_29 (dz_at q10w18_2_0 2)
theorem dX12_meetsAt_20 : decode cX12_meetsAt 20 = .ok (.iload_n 3, 1) := dz_29 (dz_at q10w18_2_0 20)
theorem dX12_meetsAt_21 : decode cX12_meetsAt 21 = .ok (.iaload, 1) := dz_46 (dz_at q10w18_2_0 21)
theorem dX12_meetsAt_22 : decode cX12_meetsAt 22 = .ok (.iand, 1) := dz_126 (dz_at q10w18_2_0 22)
theorem dX12_meetsAt_23 : decode cX12_meetsAt 23 = .ok (.aload_n 0, 1) := dz_42 (dz_at q10w18_2_0 23)
theorem dX12_meetsAt_24 : decode cX12_meetsAt 24 = .ok (.getfield 32, 3) := dz_180 (dz_at q10w18_2_24 0) rfl
theorem dX12_meetsAt_27 : decode cX12_meetsAt 27 = .ok (.iload_n 3, 1) := dz_29 (dz_at q10w18_2_24 3)
theorem dX12_meetsAt_28 : decode cX12_meetsAt 28 = .ok (.iaload, 1) := dz_46 (dz_at q10w18_2_24 4)
theorem dX12_meetsAt_29 : decode cX12_meetsAt 29 = .ok (.if_icmp .eq 5, 3) := dz_159 (dz_at q10w18_2_24 5) (by decide +kernel)
theorem dX12_meetsAt_3 : decode cX12_meetsAt 3 = .ok (.aload_n 0, 1) := dz_42 (dz_at q10w18_2_0 3)
theorem dX12_meetsAt_32 : decode cX12_meetsAt 32 = .ok (.iconst 0, 1) := dz_3 (dz_at q10w18_2_24 8)
theorem dX12_meetsAt_33 : decode cX12_meetsAt 33 = .ok (.ireturn, 1) := dz_172 (dz_at q10w18_2_24 9)
theorem dX12_meetsAt_34 : decode cX12_meetsAt 34 = .ok (.iinc 3 1, 3) := dz_132 (dz_at q10w18_2_24 10) (by decide +kernel)
theorem dX12_meetsAt_37 : decode cX12_meetsAt 37 = .ok (.goto (-35), 3) := dz_167 (dz_at q10w18_2_24 13) (by decide +kernel)
theorem dX12_meetsAt_4 : decode cX12_meetsAt 4 = .ok (.getfield 121, 3) := dz_180 (dz_at q10w18_2_0 4) rfl
theorem dX12_meetsAt_40 : decode cX12_meetsAt 40 = .ok (.iconst 1, 1) := dz_4 (dz_at q10w18_2_24 16)
theorem dX12_meetsAt_41 : decode cX12_meetsAt 41 = .ok (.ireturn, 1) := dz_172 (dz_at q10w18_2_24 17)
theorem dX12_meetsAt_7 : decode cX12_meetsAt 7 = .ok (.if_icmp .ge 33, 3) := dz_162 (dz_at q10w18_2_0 7) (by decide +kernel)
theorem q10w18_3_0 : (cX12_meetsBehind.data.toList.drop 0).take 24 = [3, 61, 28, 42, 180, 0, 121, 162, 0, 31, 42, 180, 0, 96, 16, 24, 28, 104, 27, 42, 28, 182, 0, 203] := by decide +kernel
theorem q10w18_3_24 : (cX12_meetsBehind.data.toList.drop 24).take 16 = [112, 96, 51, 154, 0, 5, 3, 172, 132, 2, 1, 167, 255, 223, 4, 172] := by decide +kernel
theorem dX12_meetsBehind_0 : decode cX12_meetsBehind 0 = .ok (.iconst 0, 1) := dz_3 (dz_at q10w18_3_0 0)
theorem dX12_meetsBehind_1 : decode cX12_meetsBehind 1 = .ok (.istore_n 2, 1) := dz_61 (dz_at q10w18_3_0 1)
theorem dX12_meetsBehind_10 : decode cX12_meetsBehind 10 = .ok (.aload_n 0, 1) := dz_42 (dz_at q10w18_3_0 10)
theorem dX12_meetsBehind_11 : decode cX12_meetsBehind 11 = .ok (.getfield 96, 3) := dz_180 (dz_at q10w18_3_0 11) rfl
theorem dX12_meetsBehind_14 : decode cX12_meetsBehind 14 = .ok (.bipush 24, 2) := dz_16 (dz_at q10w18_3_0 14) (by decide +kernel)
theorem dX12_meetsBehind_16 : decode cX12_meetsBehind 16 = .ok (.iload_n 2, 1) := dz_28 (dz_at q10w18_3_0 16)
theorem dX12_meetsBehind_17 : decode cX12_meetsBehind 17 = .ok (.imul, 1) := dz_104 (dz_at q10w18_3_0 17)
theorem dX12_meetsBehind_18 : decode cX12_meetsBehind 18 = .ok (.iload_n 1, 1) := dz_27 (dz_at q10w18_3_0 18)
theorem dX12_meetsBehind_19 : decode cX12_meetsBehind 19 = .ok (.aload_n 0, 1) := dz_42 (dz_at q10w18_3_0 19)
theorem dX12_meetsBehind_2 : decode cX12_meetsBehind 2 = .ok (.iload_n 2, 1) := dz_28 (dz_at q10w18_3_0 2)
theorem dX12_meetsBehind_20 : decode cX12_meetsBehind 20 = .ok (.iload_n 2, 1) := dz_28 (dz_at q10w18_3_0 20)
theorem dX12_meetsBehind_21 : decode cX12_meetsBehind 21 = .ok (.invokevirtual 203, 3) := dz_182 (dz_at q10w18_3_0 21) rfl
theorem dX12_meetsBehind_24 : decode cX12_meetsBehind 24 = .ok (.irem, 1) := dz_112 (dz_at q10w18_3_24 0)
theorem dX12_meetsBehind_25 : decode cX12_meetsBehind 25 = .ok (.iadd, 1) := dz_96 (dz_at q10w18_3_24 1)
theorem dX12_meetsBehind_26 : decode cX12_meetsBehind 26 = .ok (.baload, 1) := dz_51 (dz_at q10w18_3_24 2)
theorem dX12_meetsBehind_27 : decode cX12_meetsBehind 27 = .ok (.ifCond .ne 5, 3) := dz_154 (dz_at q10w18_3_24 3) (by decide +kernel)
theorem dX12_meetsBehind_3 : decode cX12_meetsBehind 3 = .ok (.aload_n 0, 1) := dz_42 (dz_at q10w18_3_0 3)
theorem dX12_meetsBehind_30 : decode cX12_meetsBehind 30 = .ok (.iconst 0, 1) := dz_3 (dz_at q10w18_3_24 6)
theorem dX12_meetsBehind_31 : decode cX12_meetsBehind 31 = .ok (.ireturn, 1) := dz_172 (dz_at q10w18_3_24 7)
theorem dX12_meetsBehind_32 : decode cX12_meetsBehind 32 = .ok (.iinc 2 1, 3) := dz_132 (dz_at q10w18_3_24 8) (by decide +kernel)
theorem dX12_meetsBehind_35 : decode cX12_meetsBehind 35 = .ok (.goto (-33), 3) := dz_167 (dz_at q10w18_3_24 11) (by decide +kernel)
theorem dX12_meetsBehind_38 : decode cX12_meetsBehind 38 = .ok (.iconst 1, 1) := dz_4 (dz_at q10w18_3_24 14)
theorem dX12_meetsBehind_39 : decode cX12_meetsBehind 39 = .ok (.ireturn, 1) := dz_172 (dz_at q10w18_3_24 15)
theorem dX12_meetsBehind_4 : decode cX12_meetsBehind 4 = .ok (.getfield 121, 3) := dz_180 (dz_at q10w18_3_0 4) rfl
theorem dX12_meetsBehind_7 : decode cX12_meetsBehind 7 = .ok (.if_icmp .ge 31, 3) := dz_162 (dz_at q10w18_3_0 7) (by decide +kernel)
theorem q10w18_4_0 : (cX12_meets.data.toList.drop 0).take 24 = [42, 3, 181, 0, 118, 31, 9, 148, 155, 0, 11, 31, 20, 0, 243, 148, 158, 0, 7, 20, 0, 245, 173, 31] := by decide +kernel
theorem q10w18_4_24 : (cX12_meets.data.toList.drop 24).take 24 = [66, 33, 42, 182, 0, 247, 133, 148, 156, 0, 20, 42, 33, 182, 0, 251, 153, 0, 5, 33, 173, 33, 10, 97] := by decide +kernel
theorem q10w18_4_48 : (cX12_meets.data.toList.drop 48).take 23 = [66, 167, 255, 232, 42, 33, 182, 0, 255, 42, 182, 0, 233, 136, 54, 5, 3, 54, 6, 21, 6, 21, 5] := by decide +kernel
theorem q10w18_4_71 : (cX12_meets.data.toList.drop 71).take 24 = [162, 0, 24, 42, 21, 6, 182, 1, 3, 153, 0, 9, 33, 21, 6, 133, 97, 173, 132, 6, 1, 167, 255, 231] := by decide +kernel
theorem q10w18_4_95 : (cX12_meets.data.toList.drop 95).take 4 = [20, 0, 245, 173] := by decide +kernel
theorem dX12_meets_0 : decode cX12_meets 0 = .ok (.aload_n 0, 1) := dz_42 (dz_at q10w18_4_0 0)
theorem dX12_meets_1 : decode cX12_meets 1 = .ok (.iconst 0, 1) := dz_3 (dz_at q10w18_4_0 1)
theorem dX12_meets_11 : decode cX12_meets 11 = .ok (.lload_n 1, 1) := dz_31 (dz_at q10w18_4_0 11)
theorem dX12_meets_12 : decode cX12_meets 12 = .ok (.ldc2_w 243, 3) := dz_20 (dz_at q10w18_4_0 12) rfl
theorem dX12_meets_15 : decode cX12_meets 15 = .ok (.lcmp, 1) := dz_148 (dz_at q10w18_4_0 15)
theorem dX12_meets_16 : decode cX12_meets 16 = .ok (.ifCond .le 7, 3) := dz_158 (dz_at q10w18_4_0 16) (by decide +kernel)
theorem dX12_meets_19 : decode cX12_meets 19 = .ok (.ldc2_w 245, 3) := dz_20 (dz_at q10w18_4_0 19) rfl
theorem dX12_meets_2 : decode cX12_meets 2 = .ok (.putfield 118, 3) := dz_181 (dz_at q10w18_4_0 2) rfl
theorem dX12_meets_22 : decode cX12_meets 22 = .ok (.lreturn, 1) := dz_173 (dz_at q10w18_4_0 22)
theorem dX12_meets_23 : decode cX12_meets 23 = .ok (.lload_n 1, 1) := dz_31 (dz_at q10w18_4_0 23)
theorem dX12_meets_24 : decode cX12_meets 24 = .ok (.lstore_n 3, 1) := dz_66 (dz_at q10w18_4_24 0)
theorem dX12_meets_25 : decode cX12_meets 25 = .ok (.lload_n 3, 1) := dz_33 (dz_at q10w18_4_24 1)
theorem dX12_meets_26 : decode cX12_meets 26 = .ok (.aload_n 0, 1) := dz_42 (dz_at q10w18_4_24 2)
theorem dX12_meets_27 : decode cX12_meets 27 = .ok (.invokevirtual 247, 3) := dz_182 (dz_at q10w18_4_24 3) rfl
theorem dX12_meets_30 : decode cX12_meets 30 = .ok (.i2l, 1) := dz_133 (dz_at q10w18_4_24 6)
theorem dX12_meets_31 : decode cX12_meets 31 = .ok (.lcmp, 1) := dz_148 (dz_at q10w18_4_24 7)
theorem dX12_meets_32 : decode cX12_meets 32 = .ok (.ifCond .ge 20, 3) := dz_156 (dz_at q10w18_4_24 8) (by decide +kernel)
theorem dX12_meets_35 : decode cX12_meets 35 = .ok (.aload_n 0, 1) := dz_42 (dz_at q10w18_4_24 11)
theorem dX12_meets_36 : decode cX12_meets 36 = .ok (.lload_n 3, 1) := dz_33 (dz_at q10w18_4_24 12)
theorem dX12_meets_37 : decode cX12_meets 37 = .ok (.invokevirtual 251, 3) := dz_182 (dz_at q10w18_4_24 13) rfl
theorem dX12_meets_40 : decode cX12_meets 40 = .ok (.ifCond .eq 5, 3) := dz_153 (dz_at q10w18_4_24 16) (by decide +kernel)
theorem dX12_meets_43 : decode cX12_meets 43 = .ok (.lload_n 3, 1) := dz_33 (dz_at q10w18_4_24 19)
theorem dX12_meets_44 : decode cX12_meets 44 = .ok (.lreturn, 1) := dz_173 (dz_at q10w18_4_24 20)
theorem dX12_meets_45 : decode cX12_meets 45 = .ok (.lload_n 3, 1) := dz_33 (dz_at q10w18_4_24 21)
theorem dX12_meets_46 : decode cX12_meets 46 = .ok (.lconst 1, 1) := dz_10 (dz_at q10w18_4_24 22)
theorem dX12_meets_47 : decode cX12_meets 47 = .ok (.ladd, 1) := dz_97 (dz_at q10w18_4_24 23)
theorem dX12_meets_48 : decode cX12_meets 48 = .ok (.lstore_n 3, 1) := dz_66 (dz_at q10w18_4_48 0)
theorem dX12_meets_49 : decode cX12_meets 49 = .ok (.goto (-24), 3) := dz_167 (dz_at q10w18_4_48 1) (by decide +kernel)
theorem dX12_meets_5 : decode cX12_meets 5 = .ok (.lload_n 1, 1) := dz_31 (dz_at q10w18_4_0 5)
theorem dX12_meets_52 : decode cX12_meets 52 = .ok (.aload_n 0, 1) := dz_42 (dz_at q10w18_4_48 4)
theorem dX12_meets_53 : decode cX12_meets 53 = .ok (.lload_n 3, 1) := dz_33 (dz_at q10w18_4_48 5)
theorem dX12_meets_54 : decode cX12_meets 54 = .ok (.invokevirtual 255, 3) := dz_182 (dz_at q10w18_4_48 6) rfl
theorem dX12_meets_57 : decode cX12_meets 57 = .ok (.aload_n 0, 1) := dz_42 (dz_at q10w18_4_48 9)
theorem dX12_meets_58 : decode cX12_meets 58 = .ok (.invokevirtual 233, 3) := dz_182 (dz_at q10w18_4_48 10) rfl
theorem dX12_meets_6 : decode cX12_meets 6 = .ok (.lconst 0, 1) := dz_9 (dz_at q10w18_4_0 6)
theorem dX12_meets_61 : decode cX12_meets 61 = .ok (.l2i, 1) := dz_136 (dz_at q10w18_4_48 13)
theorem dX12_meets_62 : decode cX12_meets 62 = .ok (.istore 5, 2) := dz_54 (dz_at q10w18_4_48 14)
theorem dX12_meets_64 : decode cX12_meets 64 = .ok (.iconst 0, 1) := dz_3 (dz_at q10w18_4_48 16)
theorem dX12_meets_65 : decode cX12_meets 65 = .ok (.istore 6, 2) := dz_54 (dz_at q10w18_4_48 17)
theorem dX12_meets_67 : decode cX12_meets 67 = .ok (.iload 6, 2) := dz_21 (dz_at q10w18_4_48 19)
theorem dX12_meets_69 : decode cX12_meets 69 = .ok (.iload 5, 2) := dz_21 (dz_at q10w18_4_48 21)
theorem dX12_meets_7 : decode cX12_meets 7 = .ok (.lcmp, 1) := dz_148 (dz_at q10w18_4_0 7)
theorem dX12_meets_71 : decode cX12_meets 71 = .ok (.if_icmp .ge 24, 3) := dz_162 (dz_at q10w18_4_71 0) (by decide +kernel)
theorem dX12_meets_74 : decode cX12_meets 74 = .ok (.aload_n 0, 1) := dz_42 (dz_at q10w18_4_71 3)
theorem dX12_meets_75 : decode cX12_meets 75 = .ok (.iload 6, 2) := dz_21 (dz_at q10w18_4_71 4)
theorem dX12_meets_77 : decode cX12_meets 77 = .ok (.invokevirtual 259, 3) := dz_182 (dz_at q10w18_4_71 6) rfl
theorem dX12_meets_8 : decode cX12_meets 8 = .ok (.ifCond .lt 11, 3) := dz_155 (dz_at q10w18_4_0 8) (by decide +kernel)
theorem dX12_meets_80 : decode cX12_meets 80 = .ok (.ifCond .eq 9, 3) := dz_153 (dz_at q10w18_4_71 9) (by decide +kernel)
theorem dX12_meets_83 : decode cX12_meets 83 = .ok (.lload_n 3, 1) := dz_33 (dz_at q10w18_4_71 12)
theorem dX12_meets_84 : decode cX12_meets 84 = .ok (.iload 6, 2) := dz_21 (dz_at q10w18_4_71 13)
theorem dX12_meets_86 : decode cX12_meets 86 = .ok (.i2l, 1) := dz_133 (dz_at q10w18_4_71 15)
theorem dX12_meets_87 : decode cX12_meets 87 = .ok (.ladd, 1) := dz_97 (dz_at q10w18_4_71 16)
theorem dX12_meets_88 : decode cX12_meets 88 = .ok (.lreturn, 1) := dz_173 (dz_at q10w18_4_71 17)
theorem dX12_meets_89 : decode cX12_meets 89 = .ok (.iinc 6 1, 3) := dz_132 (dz_at q10w18_4_71 18) (by decide +kernel)
theorem dX12_meets_92 : decode cX12_meets 92 = .ok (.goto (-25), 3) := dz_167 (dz_at q10w18_4_71 21) (by decide +kernel)
theorem dX12_meets_95 : decode cX12_meets 95 = .ok (.ldc2_w 245, 3) := dz_20 (dz_at q10w18_4_95 0) rfl
theorem dX12_meets_98 : decode cX12_meets 98 = .ok (.lreturn, 1) := dz_173 (dz_at q10w18_4_95 3)
theorem q10w18_5_0 : (cX12_often.data.toList.drop 0).take 23 = [42, 3, 181, 0, 118, 42, 42, 182, 0, 247, 133, 182, 0, 255, 42, 182, 0, 233, 136, 60, 9, 65, 3] := by decide +kernel
theorem q10w18_5_23 : (cX12_often.data.toList.drop 23).take 24 = [54, 4, 21, 4, 27, 162, 0, 22, 42, 21, 4, 182, 1, 3, 153, 0, 7, 32, 10, 97, 65, 132, 4, 1] := by decide +kernel
theorem q10w18_5_47 : (cX12_often.data.toList.drop 47).take 5 = [167, 255, 234, 32, 173] := by decide +kernel
theorem dX12_often_0 : decode cX12_often 0 = .ok (.aload_n 0, 1) := dz_42 (dz_at q10w18_5_0 0)
theorem dX12_often_1 : decode cX12_often 1 = .ok (.iconst 0, 1) := dz_3 (dz_at q10w18_5_0 1)
theorem dX12_often_10 : decode cX12_often 10 = .ok (.i2l, 1) := dz_133 (dz_at q10w18_5_0 10)
theorem dX12_often_11 : decode cX12_often 11 = .ok (.invokevirtual 255, 3) := dz_182 (dz_at q10w18_5_0 11) rfl
theorem dX12_often_14 : decode cX12_often 14 = .ok (.aload_n 0, 1) := dz_42 (dz_at q10w18_5_0 14)
theorem dX12_often_15 : decode cX12_often 15 = .ok (.invokevirtual 233, 3) := dz_182 (dz_at q10w18_5_0 15) rfl
theorem dX12_often_18 : decode cX12_often 18 = .ok (.l2i, 1) := dz_136 (dz_at q10w18_5_0 18)
theorem dX12_often_19 : decode cX12_often 19 = .ok (.istore_n 1, 1) := dz_60 (dz_at q10w18_5_0 19)
theorem dX12_often_2 : decode cX12_often 2 = .ok (.putfield 118, 3) := dz_181 (dz_at q10w18_5_0 2) rfl
theorem dX12_often_20 : decode cX12_often 20 = .ok (.lconst 0, 1) := dz_9 (dz_at q10w18_5_0 20)
theorem dX12_often_21 : decode cX12_often 21 = .ok (.lstore_n 2, 1) := dz_65 (dz_at q10w18_5_0 21)
theorem dX12_often_22 : decode cX12_often 22 = .ok (.iconst 0, 1) := dz_3 (dz_at q10w18_5_0 22)
theorem dX12_often_23 : decode cX12_often 23 = .ok (.istore 4, 2) := dz_54 (dz_at q10w18_5_23 0)
theorem dX12_often_25 : decode cX12_often 25 = .ok (.iload 4, 2) := dz_21 (dz_at q10w18_5_23 2)
theorem dX12_often_27 : decode cX12_often 27 = .ok (.iload_n 1, 1) := dz_27 (dz_at q10w18_5_23 4)
theorem dX12_often_28 : decode cX12_often 28 = .ok (.if_icmp .ge 22, 3) := dz_162 (dz_at q10w18_5_23 5) (by decide +kernel)
theorem dX12_often_31 : decode cX12_often 31 = .ok (.aload_n 0, 1) := dz_42 (dz_at q10w18_5_23 8)
theorem dX12_often_32 : decode cX12_often 32 = .ok (.iload 4, 2) := dz_21 (dz_at q10w18_5_23 9)
theorem dX12_often_34 : decode cX12_often 34 = .ok (.invokevirtual 259, 3) := dz_182 (dz_at q10w18_5_23 11) rfl
theorem dX12_often_37 : decode cX12_often 37 = .ok (.ifCond .eq 7, 3) := dz_153 (dz_at q10w18_5_23 14) (by decide +kernel)
theorem dX12_often_40 : decode cX12_often 40 = .ok (.lload_n 2, 1) := dz_32 (dz_at q10w18_5_23 17)
theorem dX12_often_41 : decode cX12_often 41 = .ok (.lconst 1, 1) := dz_10 (dz_at q10w18_5_23 18)
theorem dX12_often_42 : decode cX12_often 42 = .ok (.ladd, 1) := dz_97 (dz_at q10w18_5_23 19)
theorem dX12_often_43 : decode cX12_often 43 = .ok (.lstore_n 2, 1) := dz_65 (dz_at q10w18_5_23 20)
theorem dX12_often_44 : decode cX12_often 44 = .ok (.iinc 4 1, 3) := dz_132 (dz_at q10w18_5_23 21) (by decide +kernel)
theorem dX12_often_47 : decode cX12_often 47 = .ok (.goto (-22), 3) := dz_167 (dz_at q10w18_5_47 0) (by decide +kernel)
theorem dX12_often_5 : decode cX12_often 5 = .ok (.aload_n 0, 1) := dz_42 (dz_at q10w18_5_0 5)
theorem dX12_often_50 : decode cX12_often 50 = .ok (.lload_n 2, 1) := dz_32 (dz_at q10w18_5_47 3)
theorem dX12_often_51 : decode cX12_often 51 = .ok (.lreturn, 1) := dz_173 (dz_at q10w18_5_47 4)
theorem dX12_often_6 : decode cX12_often 6 = .ok (.aload_n 0, 1) := dz_42 (dz_at q10w18_5_0 6)
theorem dX12_often_7 : decode cX12_often 7 = .ok (.invokevirtual 247, 3) := dz_182 (dz_at q10w18_5_0 7) rfl
theorem q10w18_6_0 : (cX12_steadyAll.data.toList.drop 0).take 14 = [42, 3, 182, 0, 211, 42, 4, 182, 0, 211, 184, 0, 240, 172] := by decide +kernel
theorem dX12_steadyAll_0 : decode cX12_steadyAll 0 = .ok (.aload_n 0, 1) := dz_42 (dz_at q10w18_6_0 0)
theorem dX12_steadyAll_1 : decode cX12_steadyAll 1 = .ok (.iconst 0, 1) := dz_3 (dz_at q10w18_6_0 1)
theorem dX12_steadyAll_10 : decode cX12_steadyAll 10 = .ok (.invokestatic 240, 3) := dz_184 (dz_at q10w18_6_0 10) rfl
theorem dX12_steadyAll_13 : decode cX12_steadyAll 13 = .ok (.ireturn, 1) := dz_172 (dz_at q10w18_6_0 13)
theorem dX12_steadyAll_2 : decode cX12_steadyAll 2 = .ok (.invokevirtual 211, 3) := dz_182 (dz_at q10w18_6_0 2) rfl
theorem dX12_steadyAll_5 : decode cX12_steadyAll 5 = .ok (.aload_n 0, 1) := dz_42 (dz_at q10w18_6_0 5)
theorem dX12_steadyAll_6 : decode cX12_steadyAll 6 = .ok (.iconst 1, 1) := dz_4 (dz_at q10w18_6_0 6)
theorem dX12_steadyAll_7 : decode cX12_steadyAll 7 = .ok (.invokevirtual 211, 3) := dz_182 (dz_at q10w18_6_0 7) rfl
theorem q10w18_7_0 : (cX12_truths.data.toList.drop 0).take 22 = [42, 180, 0, 20, 27, 46, 28, 100, 54, 4, 3, 54, 5, 3, 54, 6, 21, 6, 42, 180, 0, 176] := by decide +kernel
theorem q10w18_7_22 : (cX12_truths.data.toList.drop 22).take 24 = [162, 0, 125, 29, 42, 42, 180, 0, 23, 27, 46, 42, 180, 0, 44, 21, 6, 46, 133, 21, 4, 182, 0, 218] := by decide +kernel
theorem q10w18_7_46 : (cX12_truths.data.toList.drop 46).take 24 = [96, 54, 7, 3, 54, 8, 3, 54, 9, 21, 9, 16, 24, 162, 0, 68, 42, 180, 0, 29, 27, 46, 21, 9] := by decide +kernel
theorem q10w18_7_70 : (cX12_truths.data.toList.drop 70).take 24 = [122, 4, 126, 4, 160, 0, 47, 21, 8, 154, 0, 35, 42, 180, 0, 17, 16, 24, 27, 104, 21, 7, 21, 9] := by decide +kernel
theorem q10w18_7_94 : (cX12_truths.data.toList.drop 94).take 24 = [96, 21, 4, 112, 96, 46, 42, 180, 0, 47, 21, 6, 46, 122, 4, 126, 4, 160, 0, 7, 4, 167, 0, 4] := by decide +kernel
theorem q10w18_7_118 : (cX12_truths.data.toList.drop 118).take 23 = [3, 54, 8, 132, 9, 1, 167, 255, 187, 21, 8, 153, 0, 12, 21, 5, 4, 21, 6, 120, 128, 54, 5] := by decide +kernel
theorem q10w18_7_141 : (cX12_truths.data.toList.drop 141).take 9 = [132, 6, 1, 167, 255, 128, 21, 5, 172] := by decide +kernel
theorem dX12_truths_0 : decode cX12_truths 0 = .ok (.aload_n 0, 1) := dz_42 (dz_at q10w18_7_0 0)
theorem dX12_truths_1 : decode cX12_truths 1 = .ok (.getfield 20, 3) := dz_180 (dz_at q10w18_7_0 1) rfl
theorem dX12_truths_10 : decode cX12_truths 10 = .ok (.iconst 0, 1) := dz_3 (dz_at q10w18_7_0 10)
theorem dX12_truths_100 : decode cX12_truths 100 = .ok (.aload_n 0, 1) := dz_42 (dz_at q10w18_7_94 6)
theorem dX12_truths_101 : decode cX12_truths 101 = .ok (.getfield 47, 3) := dz_180 (dz_at q10w18_7_94 7) rfl
theorem dX12_truths_104 : decode cX12_truths 104 = .ok (.iload 6, 2) := dz_21 (dz_at q10w18_7_94 10)
theorem dX12_truths_106 : decode cX12_truths 106 = .ok (.iaload, 1) := dz_46 (dz_at q10w18_7_94 12)
theorem dX12_truths_107 : decode cX12_truths 107 = .ok (.ishr, 1) := dz_122 (dz_at q10w18_7_94 13)
theorem dX12_truths_108 : decode cX12_truths 108 = .ok (.iconst 1, 1) := dz_4 (dz_at q10w18_7_94 14)
theorem dX12_truths_109 : decode cX12_truths 109 = .ok (.iand, 1) := dz_126 (dz_at q10w18_7_94 15)
theorem dX12_truths_11 : decode cX12_truths 11 = .ok (.istore 5, 2) := dz_54 (dz_at q10w18_7_0 11)
theorem dX12_truths_110 : decode cX12_truths 110 = .ok (.iconst 1, 1) := dz_4 (dz_at q10w18_7_94 16)
theorem dX12_truths_111 : decode cX12_truths 111 = .ok (.if_icmp .ne 7, 3) := dz_160 (dz_at q10w18_7_94 17) (by decide +kernel)
theorem dX12_truths_114 : decode cX12_truths 114 = .ok (.iconst 1, 1) := dz_4 (dz_at q10w18_7_94 20)
theorem dX12_truths_115 : decode cX12_truths 115 = .ok (.goto 4, 3) := dz_167 (dz_at q10w18_7_94 21) (by decide +kernel)
theorem dX12_truths_118 : decode cX12_truths 118 = .ok (.iconst 0, 1) := dz_3 (dz_at q10w18_7_118 0)
theorem dX12_truths_119 : decode cX12_truths 119 = .ok (.istore 8, 2) := dz_54 (dz_at q10w18_7_118 1)
theorem dX12_truths_121 : decode cX12_truths 121 = .ok (.iinc 9 1, 3) := dz_132 (dz_at q10w18_7_118 3) (by decide +kernel)
theorem dX12_truths_124 : decode cX12_truths 124 = .ok (.goto (-69), 3) := dz_167 (dz_at q10w18_7_118 6) (by decide +kernel)
theorem dX12_truths_127 : decode cX12_truths 127 = .ok (.iload 8, 2) := dz_21 (dz_at q10w18_7_118 9)
theorem dX12_truths_129 : decode cX12_truths 129 = .ok (.ifCond .eq 12, 3) := dz_153 (dz_at q10w18_7_118 11) (by decide +kernel)
theorem dX12_truths_13 : decode cX12_truths 13 = .ok (.iconst 0, 1) := dz_3 (dz_at q10w18_7_0 13)
theorem dX12_truths_132 : decode cX12_truths 132 = .ok (.iload 5, 2) := dz_21 (dz_at q10w18_7_118 14)
theorem dX12_truths_134 : decode cX12_truths 134 = .ok (.iconst 1, 1) := dz_4 (dz_at q10w18_7_118 16)
theorem dX12_truths_135 : decode cX12_truths 135 = .ok (.iload 6, 2) := dz_21 (dz_at q10w18_7_118 17)
theorem dX12_truths_137 : decode cX12_truths 137 = .ok (.ishl, 1) := dz_120 (dz_at q10w18_7_118 19)
theorem dX12_truths_138 : decode cX12_truths 138 = .ok (.ior, 1) := dz_128 (dz_at q10w18_7_118 20)
theorem dX12_truths_139 : decode cX12_truths 139 = .ok (.istore 5, 2) := dz_54 (dz_at q10w18_7_118 21)
theorem dX12_truths_14 : decode cX12_truths 14 = .ok (.istore 6, 2) := dz_54 (dz_at q10w18_7_0 14)
theorem dX12_truths_141 : decode cX12_truths 141 = .ok (.iinc 6 1, 3) := dz_132 (dz_at q10w18_7_141 0) (by decide +kernel)
theorem dX12_truths_144 : decode cX12_truths 144 = .ok (.goto (-128), 3) := dz_167 (dz_at q10w18_7_141 3) (by decide +kernel)
theorem dX12_truths_147 : decode cX12_truths 147 = .ok (.iload 5, 2) := dz_21 (dz_at q10w18_7_141 6)
theorem dX12_truths_149 : decode cX12_truths 149 = .ok (.ireturn, 1) := dz_172 (dz_at q10w18_7_141 8)
theorem dX12_truths_16 : decode cX12_truths 16 = .ok (.iload 6, 2) := dz_21 (dz_at q10w18_7_0 16)
theorem dX12_truths_18 : decode cX12_truths 18 = .ok (.aload_n 0, 1) := dz_42 (dz_at q10w18_7_0 18)
theorem dX12_truths_19 : decode cX12_truths 19 = .ok (.getfield 176, 3) := dz_180 (dz_at q10w18_7_0 19) rfl
theorem dX12_truths_22 : decode cX12_truths 22 = .ok (.if_icmp .ge 125, 3) := dz_162 (dz_at q10w18_7_22 0) (by decide +kernel)
theorem dX12_truths_25 : decode cX12_truths 25 = .ok (.iload_n 3, 1) := dz_29 (dz_at q10w18_7_22 3)
theorem dX12_truths_26 : decode cX12_truths 26 = .ok (.aload_n 0, 1) := dz_42 (dz_at q10w18_7_22 4)
theorem dX12_truths_27 : decode cX12_truths 27 = .ok (.aload_n 0, 1) := dz_42 (dz_at q10w18_7_22 5)
theorem dX12_truths_28 : decode cX12_truths 28 = .ok (.getfield 23, 3) := dz_180 (dz_at q10w18_7_22 6) rfl
theorem dX12_truths_31 : decode cX12_truths 31 = .ok (.iload_n 1, 1) := dz_27 (dz_at q10w18_7_22 9)
theorem dX12_truths_32 : decode cX12_truths 32 = .ok (.iaload, 1) := dz_46 (dz_at q10w18_7_22 10)
theorem dX12_truths_33 : decode cX12_truths 33 = .ok (.aload_n 0, 1) := dz_42 (dz_at q10w18_7_22 11)
theorem dX12_truths_34 : decode cX12_truths 34 = .ok (.getfield 44, 3) := dz_180 (dz_at q10w18_7_22 12) rfl
theorem dX12_truths_37 : decode cX12_truths 37 = .ok (.iload 6, 2) := dz_21 (dz_at q10w18_7_22 15)
theorem dX12_truths_39 : decode cX12_truths 39 = .ok (.iaload, 1) := dz_46 (dz_at q10w18_7_22 17)
theorem dX12_truths_4 : decode cX12_truths 4 = .ok (.iload_n 1, 1) := dz_27 (dz_at q10w18_7_0 4)
theorem dX12_truths_40 : decode cX12_truths 40 = .ok (.i2l, 1) := dz_133 (dz_at q10w18_7_22 18)
theorem dX12_truths_41 : decode cX12_truths 41 = .ok (.iload 4, 2) := dz_21 (dz_at q10w18_7_22 19)
theorem dX12_truths_43 : decode cX12_truths 43 = .ok (.invokevirtual 218, 3) := dz_182 (dz_at q10w18_7_22 21) rfl
theorem dX12_truths_46 : decode cX12_truths 46 = .ok (.iadd, 1) := dz_96 (dz_at q10w18_7_46 0)
theorem dX12_truths_47 : decode cX12_truths 47 = .ok (.istore 7, 2) := dz_54 (dz_at q10w18_7_46 1)
theorem dX12_truths_49 : decode cX12_truths 49 = .ok (.iconst 0, 1) := dz_3 (dz_at q10w18_7_46 3)
theorem dX12_truths_5 : decode cX12_truths 5 = .ok (.iaload, 1) := dz_46 (dz_at q10w18_7_0 5)
theorem dX12_truths_50 : decode cX12_truths 50 = .ok (.istore 8, 2) := dz_54 (dz_at q10w18_7_46 4)
theorem dX12_truths_52 : decode cX12_truths 52 = .ok (.iconst 0, 1) := dz_3 (dz_at q10w18_7_46 6)
theorem dX12_truths_53 : decode cX12_truths 53 = .ok (.istore 9, 2) := dz_54 (dz_at q10w18_7_46 7)
theorem dX12_truths_55 : decode cX12_truths 55 = .ok (.iload 9, 2) := dz_21 (dz_at q10w18_7_46 9)
theorem dX12_truths_57 : decode cX12_truths 57 = .ok (.bipush 24, 2) := dz_16 (dz_at q10w18_7_46 11) (by decide +kernel)
theorem dX12_truths_59 : decode cX12_truths 59 = .ok (.if_icmp .ge 68, 3) := dz_162 (dz_at q10w18_7_46 13) (by decide +kernel)
theorem dX12_truths_6 : decode cX12_truths 6 = .ok (.iload_n 2, 1) := dz_28 (dz_at q10w18_7_0 6)
theorem dX12_truths_62 : decode cX12_truths 62 = .ok (.aload_n 0, 1) := dz_42 (dz_at q10w18_7_46 16)
theorem dX12_truths_63 : decode cX12_truths 63 = .ok (.getfield 29, 3) := dz_180 (dz_at q10w18_7_46 17) rfl
theorem dX12_truths_66 : decode cX12_truths 66 = .ok (.iload_n 1, 1) := dz_27 (dz_at q10w18_7_46 20)
theorem dX12_truths_67 : decode cX12_truths 67 = .ok (.iaload, 1) := dz_46 (dz_at q10w18_7_46 21)
theorem dX12_truths_68 : decode cX12_truths 68 = .ok (.iload 9, 2) := dz_21 (dz_at q10w18_7_46 22)
theorem dX12_truths_7 : decode cX12_truths 7 = .ok (.isub, 1) := dz_100 (dz_at q10w18_7_0 7)
theorem dX12_truths_70 : decode cX12_truths 70 = .ok (.ishr, 1) := dz_122 (dz_at q10w18_7_70 0)
theorem dX12_truths_71 : decode cX12_truths 71 = .ok (.iconst 1, 1) := dz_4 (dz_at q10w18_7_70 1)
theorem dX12_truths_72 : decode cX12_truths 72 = .ok (.iand, 1) := dz_126 (dz_at q10w18_7_70 2)
theorem dX12_truths_73 : decode cX12_truths 73 = .ok (.iconst 1, 1) := dz_4 (dz_at q10w18_7_70 3)
theorem dX12_truths_74 : decode cX12_truths 74 = .ok (.if_icmp .ne 47, 3) := dz_160 (dz_at q10w18_7_70 4) (by decide +kernel)
theorem dX12_truths_77 : decode cX12_truths 77 = .ok (.iload 8, 2) := dz_21 (dz_at q10w18_7_70 7)
theorem dX12_truths_79 : decode cX12_truths 79 = .ok (.ifCond .ne 35, 3) := dz_154 (dz_at q10w18_7_70 9) (by decide +kernel)
theorem dX12_truths_8 : decode cX12_truths 8 = .ok (.istore 4, 2) := dz_54 (dz_at q10w18_7_0 8)
theorem dX12_truths_82 : decode cX12_truths 82 = .ok (.aload_n 0, 1) := dz_42 (dz_at q10w18_7_70 12)
theorem dX12_truths_83 : decode cX12_truths 83 = .ok (.getfield 17, 3) := dz_180 (dz_at q10w18_7_70 13) rfl
theorem dX12_truths_86 : decode cX12_truths 86 = .ok (.bipush 24, 2) := dz_16 (dz_at q10w18_7_70 16) (by decide +kernel)
theorem dX12_truths_88 : decode cX12_truths 88 = .ok (.iload_n 1, 1) := dz_27 (dz_at q10w18_7_70 18)
theorem dX12_truths_89 : decode cX12_truths 89 = .ok (.imul, 1) := dz_104 (dz_at q10w18_7_70 19)
theorem dX12_truths_90 : decode cX12_truths 90 = .ok (.iload 7, 2) := dz_21 (dz_at q10w18_7_70 20)
theorem dX12_truths_92 : decode cX12_truths 92 = .ok (.iload 9, 2) := dz_21 (dz_at q10w18_7_70 22)
theorem dX12_truths_94 : decode cX12_truths 94 = .ok (.iadd, 1) := dz_96 (dz_at q10w18_7_94 0)
theorem dX12_truths_95 : decode cX12_truths 95 = .ok (.iload 4, 2) := dz_21 (dz_at q10w18_7_94 1)
theorem dX12_truths_97 : decode cX12_truths 97 = .ok (.irem, 1) := dz_112 (dz_at q10w18_7_94 3)
theorem dX12_truths_98 : decode cX12_truths 98 = .ok (.iadd, 1) := dz_96 (dz_at q10w18_7_94 4)
theorem dX12_truths_99 : decode cX12_truths 99 = .ok (.iaload, 1) := dz_46 (dz_at q10w18_7_94 5)
theorem dm_X12_steadyAll : yX12_steadyAll.cls = RX12 ∧ yX12_steadyAll.cls ≠ "java/lang/invoke/MethodHandle" ∧ yX12_steadyAll.cls ≠ "java/lang/invoke/VarHandle" ∧ (parseMethodDescriptor yX12_steadyAll.desc).map (fun d => d.parameters.length) = some 0 := by decide +kernel
theorem dm_X12_findHeard : yX12_findHeard.cls = RX12 ∧ yX12_findHeard.cls ≠ "java/lang/invoke/MethodHandle" ∧ yX12_findHeard.cls ≠ "java/lang/invoke/VarHandle" ∧ (parseMethodDescriptor yX12_findHeard.desc).map (fun d => d.parameters.length) = some 1 := by decide +kernel
theorem dm_X12_meetsBehind : yX12_meetsBehind.cls = RX12 ∧ yX12_meetsBehind.cls ≠ "java/lang/invoke/MethodHandle" ∧ yX12_meetsBehind.cls ≠ "java/lang/invoke/VarHandle" ∧ (parseMethodDescriptor yX12_meetsBehind.desc).map (fun d => d.parameters.length) = some 1 := by decide +kernel
theorem dm_X12_meetsAt : yX12_meetsAt.cls = RX12 ∧ yX12_meetsAt.cls ≠ "java/lang/invoke/MethodHandle" ∧ yX12_meetsAt.cls ≠ "java/lang/invoke/VarHandle" ∧ (parseMethodDescriptor yX12_meetsAt.desc).map (fun d => d.parameters.length) = some 1 := by decide +kernel
set_option maxRecDepth 100000 in
def wR_meetsAt (a0 : Int) (M : zM) (Q : Int → Prop) : Prop := pL1 (fun K2 x1 => ((sI (M 0 10)) ≤ (sI x1) → Q 1) ∧ ((sI x1) < (sI (M 0 10)) → wR_heardOf x1 a0 M (fun z11 => ((0 ≤ (sI x1) ∧ (sI x1) < 4) ∧ ((0 ≤ (sI x1) ∧ (sI x1) < 4) ∧ ((andI z11 (M 8 (sI x1).toNat)) = (sI (M 8 (sI x1).toNat)) → K2 (x1 + 1)) ∧ ((andI z11 (M 8 (sI x1).toNat)) ≠ (sI (M 8 (sI x1).toNat)) → Q 0)))))) 0
set_option maxHeartbeats 4000000 in
set_option maxRecDepth 100000 in
theorem cR_meetsAt (l : Launch) (D : va_G) (dA : Nat → ClassId) (b : Nat) (M : zM) (a0 : Int)  (Q : Int → Prop) (h : wR_meetsAt a0 M Q) : Met l yX12_meetsAt (.code yX12_meetsAt cX12_meetsAt 4 (some .boolean) :: zt) (z_rm 3) (va_Pc [.ref (b + 0), .long (iL a0)] (wPre D dA vwCl (z_tys dA) wR nR b M)) (va_Qi (wQz (fun z9 u9 => u9 = M ∧ Q z9)) (zB D dA vwCl wR nR b) (zA nR b)) 0 0 (zA nR b) := by
  unfold wR_meetsAt at h
  refine Met.ofW (cc := cX12_meetsAt) (maxL := 4) (ret := (some .boolean)) (by decide) rfl ?_
  intro p e s m args below meth c s₁ B hml hv
  obtain ⟨hargs, hS, hK⟩ := hv
  have hx := B.exec
  have hb := B.bytes
  have hr := B.returns
  have hts := atoms_spec (ws := .code yX12_meetsAt cX12_meetsAt 4 (some .boolean) :: zt) B.pre
  have hown : s.vm.findClass RX12 = some m.cls := findClass_of_methodNamed B.named
  have hlocks := B.notSynchronized
  have hS0 : va_S (zA nR b) s.heap s.heap [] := va_S.rf
  have hl := lv_entry ([.ref (b + 0), .long (iL a0)]) (n := 4) (Nat.le_of_ble_eq_true rfl)
  have hent : entryFrame m args 4 = F0 m 0 ((lg_sl ([.ref (b + 0), .long (iL a0)]) ++ List.replicate (4 - (lg_sl ([.ref (b + 0), .long (iL a0)])).length) Slot.unset).toArray) [] := by rw [hargs]; exact lg_entry_eq m ([.ref (b + 0), .long (iL a0)]) 4
  rw [hent]
  generalize (lg_sl ([.ref (b + 0), .long (iL a0)]) ++ List.replicate (4 - (lg_sl ([.ref (b + 0), .long (iL a0)])).length) Slot.unset).toArray = ls at hl ⊢
  have hl : lv_has ls 4 [(0, .ref (b + 0)), (1, .long (iL a0))] := hl
  refine z_iconst hx hb dX12_meetsAt_0 ?_
  refine lv_istore_n (lv' := [(3, .int (iI 0)), (0, .ref (b + 0)), (1, .long (iL a0))]) hx hb dX12_meetsAt_1 rfl hl (by decide) rfl (fun ls hl => ?_)
  obtain ⟨I2, ⟨n3, h4⟩, h5⟩ := h
  have L6 : ∀ (n7 : Nat) (x1 : Int) (H : Heap) (locs : List Loc) (ls : Array Slot), I2 n7 x1 → zR D dA vwCl wR nR b M H → va_S (zA nR b) s.heap H locs → lv_has ls 4 [(0, .ref (b + 0)), (1, .long (iL a0)), (3, .int (iI x1))] → W p l e (headSpec (.code yX12_meetsAt cX12_meetsAt 4 (some .boolean) :: zt) (z_rm 3)).room s m args below meth c H locs 0 0 (MQ below (va_Qi (wQz (fun z9 u9 => u9 = M ∧ Q z9)) (zB D dA vwCl wR nR b) (zA nR b)) args s 0 0 (zA nR b)) (F0 m 2 ls []) := by
    intro n7
    induction n7 using Nat.strongRecOn with
    | ind n7 i8 =>
      intro x1 H locs ls h hS hS0 hl
      have h := h5 n7 x1 h
      refine lv_iload_n hx hb dX12_meetsAt_2 rfl (lv_at hl 2 rfl) ?_
      refine lv_aload_n hx hb dX12_meetsAt_3 rfl (lv_at hl 0 rfl) ?_
      refine w_geti hx hb hts (z_memU u12) hown hK.1 hS f12_10 (by decide) (zkd_of (rfl : zcd wR 0 = 50) rfl) (Or.inl (hts _ (z_mem k954))) dX12_meetsAt_4 ?_
      refine w_icmp_ge (tgt := 40) hx hb rfl rfl dX12_meetsAt_7 (by decide) (fun c9 => ?_) (fun c9 => ?_)
      · skip
        have h := h.1 c9
        refine z_iconst hx hb dX12_meetsAt_40 ?_
        exact w_zret hx hb hr hlocks hS hS0 (sI_of (by decide)) (by decide) ⟨rfl, h⟩ dX12_meetsAt_41
      · skip
        have h := h.2 c9
        refine lv_aload_n hx hb dX12_meetsAt_10 rfl (lv_at hl 0 rfl) ?_
        refine lv_iload_n hx hb dX12_meetsAt_11 rfl (lv_at hl 2 rfl) ?_
        refine lv_lload_n hx hb dX12_meetsAt_12 rfl (lv_at hl 1 rfl) ?_
        refine w_calli (va_runV (As := [.int (iI x1), .long (iL a0)]) (rest := []) ⟨hx, hb, hml, hown, hts⟩ (cR_heardOf l D dA b M x1 a0 _ h) (cwV 2 hts (z_gV k1154 k1155 k1402 k14 k1156) rfl rfl rfl dm_X12_heardOf ⟨Nat.le_of_ble_eq_true rfl, Nat.le_of_ble_eq_true rfl⟩) ⟨wPre_blind, (w_recv hS hK.1 (by decide) (zkd_of (rfl : zcd wR 0 = 50) rfl) (by decide) (rfl : vwCl[12]? = some (RX12, TX12, 50))), w_pre hS hK⟩ rfl rfl hl.1 rfl (lv_room (Nat.le_of_ble_eq_true rfl)) dX12_meetsAt_13 ⟨Nat.le_refl _, Nat.le_refl _⟩) hS0 (fun z11 M10 H locs r12 h hS hS0 => ?_)
        obtain ⟨e13, h⟩ := h
        rw [e13] at hS
        refine lv_aload_n hx hb dX12_meetsAt_16 rfl (lv_at hl 0 rfl) ?_
        refine w_getr (j2 := 8) hx hb hts (z_memU u12) hown hK.1 hS f12_9 (by decide) (zkd_of (rfl : zcd wR 0 = 50) rfl) (zrf_of (rfl : zcd wR 0 = 50) rfl) (Or.inl (hts _ (z_mem k953))) dX12_meetsAt_17 ?_
        refine lv_iload_n hx hb dX12_meetsAt_20 rfl (lv_at hl 2 rfl) ?_
        obtain ⟨o14, h⟩ := h
        refine w_iald (n := 4) (i := (sI x1)) hx hb hK.1 (t0 := 0) rfl hS (by decide) (zkd_of (rfl : zcd wR 8 = 58) rfl) (zln_of (rfl : zcd wR 8 = 58) rfl) rfl o14.1 o14.2 (by decide) dX12_meetsAt_21 ?_
        refine w_iand hx hb dX12_meetsAt_22 ?_
        refine lv_aload_n hx hb dX12_meetsAt_23 rfl (lv_at hl 0 rfl) ?_
        refine w_getr (j2 := 8) hx hb hts (z_memU u12) hown hK.1 hS f12_9 (by decide) (zkd_of (rfl : zcd wR 0 = 50) rfl) (zrf_of (rfl : zcd wR 0 = 50) rfl) (Or.inl (hts _ (z_mem k953))) dX12_meetsAt_24 ?_
        refine lv_iload_n hx hb dX12_meetsAt_27 rfl (lv_at hl 2 rfl) ?_
        obtain ⟨o15, h⟩ := h
        refine w_iald (n := 4) (i := (sI x1)) hx hb hK.1 (t0 := 0) rfl hS (by decide) (zkd_of (rfl : zcd wR 8 = 58) rfl) (zln_of (rfl : zcd wR 8 = 58) rfl) rfl o15.1 o15.2 (by decide) dX12_meetsAt_28 ?_
        refine w_icmp_eq (tgt := 34) hx hb (sI_of (andI_R _ _)) rfl dX12_meetsAt_29 (by decide) (fun c16 => ?_) (fun c16 => ?_)
        · skip
          have h := h.1 c16
          refine z_iinc (lv' := [(3, .int (iI (x1 + 1))), (0, .ref (b + 0)), (1, .long (iL a0))]) hx hb dX12_meetsAt_34 hl (k := 2) rfl (by decide) rfl (fun ls hl => ?_)
          refine lv_goto (tgt := 2) hx hb dX12_meetsAt_37 (by decide) ?_
          obtain ⟨n17, h18, h⟩ := h
          exact i8 n17 h18 (x1 + 1) _ _ _ h hS hS0 (lv_sub hl [1, 2, 0] rfl)
        · skip
          have h := h.2 c16
          refine z_iconst hx hb dX12_meetsAt_32 ?_
          exact w_zret hx hb hr hlocks hS hS0 (sI_of (by decide)) (by decide) ⟨rfl, h⟩ dX12_meetsAt_33
  exact L6 n3 0 _ _ _ h4 hS hS0 (lv_sub hl [1, 2, 0] rfl)

set_option maxRecDepth 100000 in
def wR_steadyAll  (M : zM) (Q : Int → Prop) : Prop := wR_steady 0 M (fun z2 => wR_steady 1 M (fun z6 => Q (max z2 z6)))
set_option maxHeartbeats 4000000 in
set_option maxRecDepth 100000 in
theorem cR_steadyAll (l : Launch) (D : va_G) (dA : Nat → ClassId) (b : Nat) (M : zM)   (Q : Int → Prop) (h : wR_steadyAll  M Q) : Met l yX12_steadyAll (.code yX12_steadyAll cX12_steadyAll 1 (some .int) :: zt) (z_rm 1) (va_Pc [.ref (b + 0)] (wPre D dA vwCl (z_tys dA) wR nR b M)) (va_Qi (wQi (fun z9 u9 => u9 = M ∧ Q z9)) (zB D dA vwCl wR nR b) (zA nR b)) 0 0 (zA nR b) := by
  unfold wR_steadyAll at h
  refine Met.ofW (cc := cX12_steadyAll) (maxL := 1) (ret := (some .int)) (by decide) rfl ?_
  intro p e s m args below meth c s₁ B hml hv
  obtain ⟨hargs, hS, hK⟩ := hv
  have hx := B.exec
  have hb := B.bytes
  have hr := B.returns
  have hts := atoms_spec (ws := .code yX12_steadyAll cX12_steadyAll 1 (some .int) :: zt) B.pre
  have hown : s.vm.findClass RX12 = some m.cls := findClass_of_methodNamed B.named
  have hlocks := B.notSynchronized
  have hS0 : va_S (zA nR b) s.heap s.heap [] := va_S.rf
  have hl := lv_entry ([.ref (b + 0)]) (n := 1) (Nat.le_of_ble_eq_true rfl)
  have hent : entryFrame m args 1 = F0 m 0 ((lg_sl ([.ref (b + 0)]) ++ List.replicate (1 - (lg_sl ([.ref (b + 0)])).length) Slot.unset).toArray) [] := by rw [hargs]; exact lg_entry_eq m ([.ref (b + 0)]) 1
  rw [hent]
  generalize (lg_sl ([.ref (b + 0)]) ++ List.replicate (1 - (lg_sl ([.ref (b + 0)])).length) Slot.unset).toArray = ls at hl ⊢
  have hl : lv_has ls 1 [(0, .ref (b + 0))] := hl
  refine lv_aload_n hx hb dX12_steadyAll_0 rfl (lv_at hl 0 rfl) ?_
  refine z_iconst hx hb dX12_steadyAll_1 ?_
  refine w_calli (va_runV (As := [.int (iI 0)]) (rest := []) ⟨hx, hb, hml, hown, hts⟩ (cR_steady l D dA b M 0 _ h) (cwV 1 hts (z_gV k1160 k1161 k1404 k14 k1162) rfl rfl rfl dm_X12_steady ⟨Nat.le_of_ble_eq_true rfl, Nat.le_of_ble_eq_true rfl⟩) ⟨wPre_blind, (w_recv hS hK.1 (by decide) (zkd_of (rfl : zcd wR 0 = 50) rfl) (by decide) (rfl : vwCl[12]? = some (RX12, TX12, 50))), w_pre hS hK⟩ rfl rfl hl.1 rfl (lv_room (Nat.le_of_ble_eq_true rfl)) dX12_steadyAll_2 ⟨Nat.le_refl _, Nat.le_refl _⟩) hS0 (fun z2 M1 H locs r3 h hS hS0 => ?_)
  obtain ⟨e4, h⟩ := h
  rw [e4] at hS
  refine lv_aload_n hx hb dX12_steadyAll_5 rfl (lv_at hl 0 rfl) ?_
  refine z_iconst hx hb dX12_steadyAll_6 ?_
  refine w_calli (va_runV (As := [.int (iI 1)]) (rest := [.int (iI z2)]) ⟨hx, hb, hml, hown, hts⟩ (cR_steady l D dA b M 1 _ h) (cwV 1 hts (z_gV k1160 k1161 k1404 k14 k1162) rfl rfl rfl dm_X12_steady ⟨Nat.le_of_ble_eq_true rfl, Nat.le_of_ble_eq_true rfl⟩) ⟨wPre_blind, (w_recv hS hK.1 (by decide) (zkd_of (rfl : zcd wR 0 = 50) rfl) (by decide) (rfl : vwCl[12]? = some (RX12, TX12, 50))), w_pre hS hK⟩ rfl rfl hl.1 rfl (lv_room (Nat.le_of_ble_eq_true rfl)) dX12_steadyAll_7 ⟨Nat.le_refl _, Nat.le_refl _⟩) hS0 (fun z6 M5 H locs r7 h hS hS0 => ?_)
  obtain ⟨e8, h⟩ := h
  rw [e8] at hS
  refine w_mmax hx hb (hml.trans hl.1.symm) hown (hts _ (z_mem k1192)) (hts _ (z_mem k341)) (hts _ (z_mem k15)) (hts _ (z_mem k342)) (by exact Nat.le_of_ble_eq_true rfl) (by exact Nat.le_of_ble_eq_true rfl) (by exact Nat.le_refl _) (by exact Nat.le_refl _) (sI_of r3) (sI_of r7) dX12_steadyAll_10 ?_
  exact w_iret hx hb hr hlocks hS hS0 (sI_of (R_max (sI_c (x := z2) (sI_of r3)) (sI_c (x := z6) (sI_of r7)))) ⟨rfl, h⟩ dX12_steadyAll_13

set_option maxRecDepth 100000 in
def wR_findHeard (a0 : Int) (M : zM) (Q : zM → Prop) : Prop := wL1 (fun K2 x1 M2 => ((sI (M2 0 10)) ≤ (sI x1) → Q M2) ∧ ((sI x1) < (sI (M2 0 10)) → wL1 (fun K13 x11 M12 => wR_round x1 M12 (fun z21 => (z21 ≤ (sI x11) → K2 (x1 + 1) M12) ∧ ((sI x11) < z21 → wR_heardOf x1 (a0 + (sI x11)) M12 (fun z28 => ((0 ≤ (sI x1) ∧ (sI x1) < 4) ∧ ((0 ≤ (sI x1) ∧ (sI x1) < 4) ∧ ((andI z28 (M12 8 (sI x1).toNat)) ≠ (sI (M12 8 (sI x1).toNat)) → ((0 ≤ (sI ((24 * x1) + x11)) ∧ (sI ((24 * x1) + x11)) < 96) ∧ (∀ M35 : zM, M35 = zup M12 27 (sI ((24 * x1) + x11)).toNat 0 → K13 (x11 + 1) M35))) ∧ ((andI z28 (M12 8 (sI x1).toNat)) = (sI (M12 8 (sI x1).toNat)) → ((0 ≤ (sI ((24 * x1) + x11)) ∧ (sI ((24 * x1) + x11)) < 96) ∧ (∀ M40 : zM, M40 = zup M12 27 (sI ((24 * x1) + x11)).toNat 1 → K13 (x11 + 1) M40))))))))) 0 M2)) 0 M
set_option maxHeartbeats 4000000 in
set_option maxRecDepth 100000 in
theorem cR_findHeard (l : Launch) (D : va_G) (dA : Nat → ClassId) (b : Nat) (M : zM) (a0 : Int)  (Q : zM → Prop) (h : wR_findHeard a0 M Q) : Met l yX12_findHeard (.code yX12_findHeard cX12_findHeard 5 none :: zt) (z_rm 50) (va_Pc [.ref (b + 0), .long (iL a0)] (wPre D dA vwCl (z_tys dA) wR nR b M)) (va_Qv (wQv Q) (zB D dA vwCl wR nR b) (zA nR b)) 0 0 (zA nR b) := by
  unfold wR_findHeard at h
  refine Met.ofW (cc := cX12_findHeard) (maxL := 5) (ret := none) (by decide) rfl ?_
  intro p e s m args below meth c s₁ B hml hv
  obtain ⟨hargs, hS, hK⟩ := hv
  have hx := B.exec
  have hb := B.bytes
  have hr := B.returns
  have hts := atoms_spec (ws := .code yX12_findHeard cX12_findHeard 5 none :: zt) B.pre
  have hown : s.vm.findClass RX12 = some m.cls := findClass_of_methodNamed B.named
  have hlocks := B.notSynchronized
  have hS0 : va_S (zA nR b) s.heap s.heap [] := va_S.rf
  have hl := lv_entry ([.ref (b + 0), .long (iL a0)]) (n := 5) (Nat.le_of_ble_eq_true rfl)
  have hent : entryFrame m args 5 = F0 m 0 ((lg_sl ([.ref (b + 0), .long (iL a0)]) ++ List.replicate (5 - (lg_sl ([.ref (b + 0), .long (iL a0)])).length) Slot.unset).toArray) [] := by rw [hargs]; exact lg_entry_eq m ([.ref (b + 0), .long (iL a0)]) 5
  rw [hent]
  generalize (lg_sl ([.ref (b + 0), .long (iL a0)]) ++ List.replicate (5 - (lg_sl ([.ref (b + 0), .long (iL a0)])).length) Slot.unset).toArray = ls at hl ⊢
  have hl : lv_has ls 5 [(0, .ref (b + 0)), (1, .long (iL a0))] := hl
  refine z_iconst hx hb dX12_findHeard_0 ?_
  refine lv_istore_n (lv' := [(3, .int (iI 0)), (0, .ref (b + 0)), (1, .long (iL a0))]) hx hb dX12_findHeard_1 rfl hl (by decide) rfl (fun ls hl => ?_)
  obtain ⟨I3, ⟨n4, h5⟩, h6⟩ := h
  have L7 : ∀ (n8 : Nat) (x1 : Int) (M2 : zM) (H : Heap) (locs : List Loc) (ls : Array Slot), I3 n8 x1 M2 → zR D dA vwCl wR nR b M2 H → va_S (zA nR b) s.heap H locs → lv_has ls 5 [(0, .ref (b + 0)), (1, .long (iL a0)), (3, .int (iI x1))] → W p l e (headSpec (.code yX12_findHeard cX12_findHeard 5 none :: zt) (z_rm 50)).room s m args below meth c H locs 0 0 (MQ below (va_Qv (wQv Q) (zB D dA vwCl wR nR b) (zA nR b)) args s 0 0 (zA nR b)) (F0 m 2 ls []) := by
    intro n8
    induction n8 using Nat.strongRecOn with
    | ind n8 i9 =>
      intro x1 M2 H locs ls h hS hS0 hl
      have h := h6 n8 x1 M2 h
      refine lv_iload_n hx hb dX12_findHeard_2 rfl (lv_at hl 2 rfl) ?_
      refine lv_aload_n hx hb dX12_findHeard_3 rfl (lv_at hl 0 rfl) ?_
      refine w_geti hx hb hts (z_memU u12) hown hK.1 hS f12_10 (by decide) (zkd_of (rfl : zcd wR 0 = 50) rfl) (Or.inl (hts _ (z_mem k954))) dX12_findHeard_4 ?_
      refine w_icmp_ge (tgt := 78) hx hb rfl rfl dX12_findHeard_7 (by decide) (fun c10 => ?_) (fun c10 => ?_)
      · skip
        have h := h.1 c10
        exact w_vret hx hb hr hlocks hS hS0 h dX12_findHeard_78
      · skip
        have h := h.2 c10
        refine z_iconst hx hb dX12_findHeard_10 ?_
        refine lv_istore (lv' := [(4, .int (iI 0)), (0, .ref (b + 0)), (1, .long (iL a0)), (3, .int (iI x1))]) hx hb dX12_findHeard_11 hl (by decide) rfl (fun ls hl => ?_)
        obtain ⟨I13, ⟨n14, h15⟩, h16⟩ := h
        have L17 : ∀ (n18 : Nat) (x11 : Int) (M12 : zM) (H : Heap) (locs : List Loc) (ls : Array Slot), I13 n18 x11 M12 → zR D dA vwCl wR nR b M12 H → va_S (zA nR b) s.heap H locs → lv_has ls 5 [(0, .ref (b + 0)), (1, .long (iL a0)), (3, .int (iI x1)), (4, .int (iI x11))] → W p l e (headSpec (.code yX12_findHeard cX12_findHeard 5 none :: zt) (z_rm 50)).room s m args below meth c H locs 0 0 (MQ below (va_Qv (wQv Q) (zB D dA vwCl wR nR b) (zA nR b)) args s 0 0 (zA nR b)) (F0 m 13 ls []) := by
          intro n18
          induction n18 using Nat.strongRecOn with
          | ind n18 i19 =>
            intro x11 M12 H locs ls h hS hS0 hl
            have h := h16 n18 x11 M12 h
            refine lv_iload hx hb dX12_findHeard_13 (lv_at hl 3 rfl) ?_
            refine lv_aload_n hx hb dX12_findHeard_15 rfl (lv_at hl 0 rfl) ?_
            refine lv_iload_n hx hb dX12_findHeard_16 rfl (lv_at hl 2 rfl) ?_
            refine w_calli (va_runV (As := [.int (iI x1)]) (rest := [.int (iI x11)]) ⟨hx, hb, hml, hown, hts⟩ (cR_round l D dA b M12 x1 _ h) (cwV 1 hts (z_gV k1125 k1126 k1398 k14 k1127) rfl rfl rfl dm_X12_round ⟨Nat.le_of_ble_eq_true rfl, Nat.le_of_ble_eq_true rfl⟩) ⟨wPre_blind, (w_recv hS hK.1 (by decide) (zkd_of (rfl : zcd wR 0 = 50) rfl) (by decide) (rfl : vwCl[12]? = some (RX12, TX12, 50))), w_pre hS hK⟩ rfl rfl hl.1 rfl (lv_room (Nat.le_of_ble_eq_true rfl)) dX12_findHeard_17 ⟨Nat.le_refl _, Nat.le_refl _⟩) hS0 (fun z21 M20 H locs r22 h hS hS0 => ?_)
            obtain ⟨e23, h⟩ := h
            rw [e23] at hS
            refine w_icmp_ge (tgt := 72) hx hb rfl (sI_of r22) dX12_findHeard_20 (by decide) (fun c24 => ?_) (fun c24 => ?_)
            · skip
              have h := h.1 c24
              refine z_iinc (lv' := [(3, .int (iI (x1 + 1))), (0, .ref (b + 0)), (1, .long (iL a0)), (4, .int (iI x11))]) hx hb dX12_findHeard_72 hl (k := 2) rfl (by decide) rfl (fun ls hl => ?_)
              refine lv_goto (tgt := 2) hx hb dX12_findHeard_75 (by decide) ?_
              obtain ⟨n25, h26, h⟩ := h
              exact i9 n25 h26 (x1 + 1) M12 _ _ _ h hS hS0 (lv_sub hl [1, 2, 0] rfl)
            · skip
              have h := h.2 c24
              refine lv_aload_n hx hb dX12_findHeard_23 rfl (lv_at hl 0 rfl) ?_
              refine w_getr (j2 := 27) hx hb hts (z_memU u12) hown hK.1 hS f12_42 (by decide) (zkd_of (rfl : zcd wR 0 = 50) rfl) (zrf_of (rfl : zcd wR 0 = 50) rfl) (Or.inl (hts _ (z_mem k986))) dX12_findHeard_24 ?_
              refine z_bipush hx hb (by decide) dX12_findHeard_27 ?_
              refine lv_iload_n hx hb dX12_findHeard_29 rfl (lv_at hl 2 rfl) ?_
              refine z_imul hx hb dX12_findHeard_30 ?_
              refine lv_iload hx hb dX12_findHeard_31 (lv_at hl 3 rfl) ?_
              refine z_iadd hx hb dX12_findHeard_33 ?_
              refine lv_aload_n hx hb dX12_findHeard_34 rfl (lv_at hl 0 rfl) ?_
              refine lv_iload_n hx hb dX12_findHeard_35 rfl (lv_at hl 2 rfl) ?_
              refine lv_lload_n hx hb dX12_findHeard_36 rfl (lv_at hl 1 rfl) ?_
              refine lv_iload hx hb dX12_findHeard_37 (lv_at hl 3 rfl) ?_
              refine w_i2l hx hb rfl dX12_findHeard_39 ?_
              refine z_ladd hx hb dX12_findHeard_40 ?_
              refine w_calli (va_runV (As := [.int (iI x1), .long (iL (a0 + (sI x11)))]) (rest := [.int (iI ((24 * x1) + x11)), .ref (b + 27)]) ⟨hx, hb, hml, hown, hts⟩ (cR_heardOf l D dA b M12 x1 (a0 + (sI x11)) _ h) (cwV 2 hts (z_gV k1154 k1155 k1402 k14 k1156) rfl rfl rfl dm_X12_heardOf ⟨Nat.le_of_ble_eq_true rfl, Nat.le_of_ble_eq_true rfl⟩) ⟨wPre_blind, (w_recv hS hK.1 (by decide) (zkd_of (rfl : zcd wR 0 = 50) rfl) (by decide) (rfl : vwCl[12]? = some (RX12, TX12, 50))), w_pre hS hK⟩ rfl rfl hl.1 rfl (lv_room (Nat.le_of_ble_eq_true rfl)) dX12_findHeard_41 ⟨Nat.le_refl _, Nat.le_refl _⟩) hS0 (fun z28 M27 H locs r29 h hS hS0 => ?_)
              obtain ⟨e30, h⟩ := h
              rw [e30] at hS
              refine lv_aload_n hx hb dX12_findHeard_44 rfl (lv_at hl 0 rfl) ?_
              refine w_getr (j2 := 8) hx hb hts (z_memU u12) hown hK.1 hS f12_9 (by decide) (zkd_of (rfl : zcd wR 0 = 50) rfl) (zrf_of (rfl : zcd wR 0 = 50) rfl) (Or.inl (hts _ (z_mem k953))) dX12_findHeard_45 ?_
              refine lv_iload_n hx hb dX12_findHeard_48 rfl (lv_at hl 2 rfl) ?_
              obtain ⟨o31, h⟩ := h
              refine w_iald (n := 4) (i := (sI x1)) hx hb hK.1 (t0 := 0) rfl hS (by decide) (zkd_of (rfl : zcd wR 8 = 58) rfl) (zln_of (rfl : zcd wR 8 = 58) rfl) rfl o31.1 o31.2 (by decide) dX12_findHeard_49 ?_
              refine w_iand hx hb dX12_findHeard_50 ?_
              refine lv_aload_n hx hb dX12_findHeard_51 rfl (lv_at hl 0 rfl) ?_
              refine w_getr (j2 := 8) hx hb hts (z_memU u12) hown hK.1 hS f12_9 (by decide) (zkd_of (rfl : zcd wR 0 = 50) rfl) (zrf_of (rfl : zcd wR 0 = 50) rfl) (Or.inl (hts _ (z_mem k953))) dX12_findHeard_52 ?_
              refine lv_iload_n hx hb dX12_findHeard_55 rfl (lv_at hl 2 rfl) ?_
              obtain ⟨o32, h⟩ := h
              refine w_iald (n := 4) (i := (sI x1)) hx hb hK.1 (t0 := 0) rfl hS (by decide) (zkd_of (rfl : zcd wR 8 = 58) rfl) (zln_of (rfl : zcd wR 8 = 58) rfl) rfl o32.1 o32.2 (by decide) dX12_findHeard_56 ?_
              refine w_icmp_ne (tgt := 64) hx hb (sI_of (andI_R _ _)) rfl dX12_findHeard_57 (by decide) (fun c33 => ?_) (fun c33 => ?_)
              · skip
                have h := h.1 c33
                refine z_iconst hx hb dX12_findHeard_64 ?_
                obtain ⟨o34, h⟩ := h
                refine w_zast (z := 0) (n := 96) (i := (sI ((24 * x1) + x11))) hx hb hK.1 (t0 := 3) rfl hS hS0 (by decide) (zkd_of (rfl : zcd wR 27 = 77) rfl) (zln_of (rfl : zcd wR 27 = 77) rfl) rfl (sI_of (by decide)) o34.1 o34.2 (by decide) (by decide) dX12_findHeard_65 (fun H locs hS hS0 => ?_)
                obtain ⟨M35, e36⟩ : ∃ M35 : zM, M35 = zup M12 27 (sI ((24 * x1) + x11)).toNat 0 := ⟨_, rfl⟩
                rw [← e36] at hS
                have h := h M35 e36
                refine z_iinc (lv' := [(4, .int (iI (x11 + 1))), (0, .ref (b + 0)), (1, .long (iL a0)), (3, .int (iI x1))]) hx hb dX12_findHeard_66 hl (k := 3) rfl (by decide) rfl (fun ls hl => ?_)
                refine lv_goto (tgt := 13) hx hb dX12_findHeard_69 (by decide) ?_
                obtain ⟨n37, h38, h⟩ := h
                exact i19 n37 h38 (x11 + 1) M35 _ _ _ h hS hS0 (lv_sub hl [1, 2, 3, 0] rfl)
              · skip
                have h := h.2 c33
                refine z_iconst hx hb dX12_findHeard_60 ?_
                refine lv_goto (tgt := 65) hx hb dX12_findHeard_61 (by decide) ?_
                obtain ⟨o39, h⟩ := h
                refine w_zast (z := 1) (n := 96) (i := (sI ((24 * x1) + x11))) hx hb hK.1 (t0 := 3) rfl hS hS0 (by decide) (zkd_of (rfl : zcd wR 27 = 77) rfl) (zln_of (rfl : zcd wR 27 = 77) rfl) rfl (sI_of (by decide)) o39.1 o39.2 (by decide) (by decide) dX12_findHeard_65 (fun H locs hS hS0 => ?_)
                obtain ⟨M40, e41⟩ : ∃ M40 : zM, M40 = zup M12 27 (sI ((24 * x1) + x11)).toNat 1 := ⟨_, rfl⟩
                rw [← e41] at hS
                have h := h M40 e41
                refine z_iinc (lv' := [(4, .int (iI (x11 + 1))), (0, .ref (b + 0)), (1, .long (iL a0)), (3, .int (iI x1))]) hx hb dX12_findHeard_66 hl (k := 3) rfl (by decide) rfl (fun ls hl => ?_)
                refine lv_goto (tgt := 13) hx hb dX12_findHeard_69 (by decide) ?_
                obtain ⟨n42, h43, h⟩ := h
                exact i19 n42 h43 (x11 + 1) M40 _ _ _ h hS hS0 (lv_sub hl [1, 2, 3, 0] rfl)
        exact L17 n14 0 M2 _ _ _ h15 hS hS0 (lv_sub hl [1, 2, 3, 0] rfl)
  exact L7 n4 0 M _ _ _ h5 hS hS0 (lv_sub hl [1, 2, 0] rfl)

set_option maxRecDepth 100000 in
def wR_meetsBehind (a0 : Int) (M : zM) (Q : Int → Prop) : Prop := pL1 (fun K2 x1 => ((sI (M 0 10)) ≤ (sI x1) → Q 1) ∧ ((sI x1) < (sI (M 0 10)) → wR_round x1 M (fun z11 => ((z11 ≠ 0) ∧ ((0 ≤ (sI ((24 * x1) + ((sI a0).tmod z11))) ∧ (sI ((24 * x1) + ((sI a0).tmod z11))) < 96) ∧ ((sI (M 27 (sI ((24 * x1) + ((sI a0).tmod z11))).toNat)) ≠ 0 → K2 (x1 + 1)) ∧ ((sI (M 27 (sI ((24 * x1) + ((sI a0).tmod z11))).toNat)) = 0 → Q 0)))))) 0
set_option maxHeartbeats 4000000 in
set_option maxRecDepth 100000 in
theorem cR_meetsBehind (l : Launch) (D : va_G) (dA : Nat → ClassId) (b : Nat) (M : zM) (a0 : Int)  (Q : Int → Prop) (h : wR_meetsBehind a0 M Q) : Met l yX12_meetsBehind (.code yX12_meetsBehind cX12_meetsBehind 3 (some .boolean) :: zt) (z_rm 50) (va_Pc [.ref (b + 0), .int (iI a0)] (wPre D dA vwCl (z_tys dA) wR nR b M)) (va_Qi (wQz (fun z9 u9 => u9 = M ∧ Q z9)) (zB D dA vwCl wR nR b) (zA nR b)) 0 0 (zA nR b) := by
  unfold wR_meetsBehind at h
  refine Met.ofW (cc := cX12_meetsBehind) (maxL := 3) (ret := (some .boolean)) (by decide) rfl ?_
  intro p e s m args below meth c s₁ B hml hv
  obtain ⟨hargs, hS, hK⟩ := hv
  have hx := B.exec
  have hb := B.bytes
  have hr := B.returns
  have hts := atoms_spec (ws := .code yX12_meetsBehind cX12_meetsBehind 3 (some .boolean) :: zt) B.pre
  have hown : s.vm.findClass RX12 = some m.cls := findClass_of_methodNamed B.named
  have hlocks := B.notSynchronized
  have hS0 : va_S (zA nR b) s.heap s.heap [] := va_S.rf
  have hl := lv_entry ([.ref (b + 0), .int (iI a0)]) (n := 3) (Nat.le_of_ble_eq_true rfl)
  have hent : entryFrame m args 3 = F0 m 0 ((lg_sl ([.ref (b + 0), .int (iI a0)]) ++ List.replicate (3 - (lg_sl ([.ref (b + 0), .int (iI a0)])).length) Slot.unset).toArray) [] := by rw [hargs]; exact lg_entry_eq m ([.ref (b + 0), .int (iI a0)]) 3
  rw [hent]
  generalize (lg_sl ([.ref (b + 0), .int (iI a0)]) ++ List.replicate (3 - (lg_sl ([.ref (b + 0), .int (iI a0)])).length) Slot.unset).toArray = ls at hl ⊢
  have hl : lv_has ls 3 [(0, .ref (b + 0)), (1, .int (iI a0))] := hl
  refine z_iconst hx hb dX12_meetsBehind_0 ?_
  refine lv_istore_n (lv' := [(2, .int (iI 0)), (0, .ref (b + 0)), (1, .int (iI a0))]) hx hb dX12_meetsBehind_1 rfl hl (by decide) rfl (fun ls hl => ?_)
  obtain ⟨I2, ⟨n3, h4⟩, h5⟩ := h
  have L6 : ∀ (n7 : Nat) (x1 : Int) (H : Heap) (locs : List Loc) (ls : Array Slot), I2 n7 x1 → zR D dA vwCl wR nR b M H → va_S (zA nR b) s.heap H locs → lv_has ls 3 [(0, .ref (b + 0)), (1, .int (iI a0)), (2, .int (iI x1))] → W p l e (headSpec (.code yX12_meetsBehind cX12_meetsBehind 3 (some .boolean) :: zt) (z_rm 50)).room s m args below meth c H locs 0 0 (MQ below (va_Qi (wQz (fun z9 u9 => u9 = M ∧ Q z9)) (zB D dA vwCl wR nR b) (zA nR b)) args s 0 0 (zA nR b)) (F0 m 2 ls []) := by
    intro n7
    induction n7 using Nat.strongRecOn with
    | ind n7 i8 =>
      intro x1 H locs ls h hS hS0 hl
      have h := h5 n7 x1 h
      refine lv_iload_n hx hb dX12_meetsBehind_2 rfl (lv_at hl 2 rfl) ?_
      refine lv_aload_n hx hb dX12_meetsBehind_3 rfl (lv_at hl 0 rfl) ?_
      refine w_geti hx hb hts (z_memU u12) hown hK.1 hS f12_10 (by decide) (zkd_of (rfl : zcd wR 0 = 50) rfl) (Or.inl (hts _ (z_mem k954))) dX12_meetsBehind_4 ?_
      refine w_icmp_ge (tgt := 38) hx hb rfl rfl dX12_meetsBehind_7 (by decide) (fun c9 => ?_) (fun c9 => ?_)
      · skip
        have h := h.1 c9
        refine z_iconst hx hb dX12_meetsBehind_38 ?_
        exact w_zret hx hb hr hlocks hS hS0 (sI_of (by decide)) (by decide) ⟨rfl, h⟩ dX12_meetsBehind_39
      · skip
        have h := h.2 c9
        refine lv_aload_n hx hb dX12_meetsBehind_10 rfl (lv_at hl 0 rfl) ?_
        refine w_getr (j2 := 27) hx hb hts (z_memU u12) hown hK.1 hS f12_42 (by decide) (zkd_of (rfl : zcd wR 0 = 50) rfl) (zrf_of (rfl : zcd wR 0 = 50) rfl) (Or.inl (hts _ (z_mem k986))) dX12_meetsBehind_11 ?_
        refine z_bipush hx hb (by decide) dX12_meetsBehind_14 ?_
        refine lv_iload_n hx hb dX12_meetsBehind_16 rfl (lv_at hl 2 rfl) ?_
        refine z_imul hx hb dX12_meetsBehind_17 ?_
        refine lv_iload_n hx hb dX12_meetsBehind_18 rfl (lv_at hl 1 rfl) ?_
        refine lv_aload_n hx hb dX12_meetsBehind_19 rfl (lv_at hl 0 rfl) ?_
        refine lv_iload_n hx hb dX12_meetsBehind_20 rfl (lv_at hl 2 rfl) ?_
        refine w_calli (va_runV (As := [.int (iI x1)]) (rest := [.int (iI a0), .int (iI (24 * x1)), .ref (b + 27)]) ⟨hx, hb, hml, hown, hts⟩ (cR_round l D dA b M x1 _ h) (cwV 1 hts (z_gV k1125 k1126 k1398 k14 k1127) rfl rfl rfl dm_X12_round ⟨Nat.le_of_ble_eq_true rfl, Nat.le_of_ble_eq_true rfl⟩) ⟨wPre_blind, (w_recv hS hK.1 (by decide) (zkd_of (rfl : zcd wR 0 = 50) rfl) (by decide) (rfl : vwCl[12]? = some (RX12, TX12, 50))), w_pre hS hK⟩ rfl rfl hl.1 rfl (lv_room (Nat.le_of_ble_eq_true rfl)) dX12_meetsBehind_21 ⟨Nat.le_refl _, Nat.le_refl _⟩) hS0 (fun z11 M10 H locs r12 h hS hS0 => ?_)
        obtain ⟨e13, h⟩ := h
        rw [e13] at hS
        obtain ⟨o14, h⟩ := h
        refine w_irem hx hb rfl (sI_of r12) o14 dX12_meetsBehind_24 ?_
        refine z_iadd hx hb dX12_meetsBehind_25 ?_
        obtain ⟨o15, h⟩ := h
        refine w_zald (n := 96) (i := (sI ((24 * x1) + ((sI a0).tmod z11)))) hx hb hK.1 (t0 := 3) rfl hS (by decide) (zkd_of (rfl : zcd wR 27 = 77) rfl) (zln_of (rfl : zcd wR 27 = 77) rfl) rfl o15.1 o15.2 (by decide) dX12_meetsBehind_26 ?_
        refine w_if_ne (tgt := 32) hx hb rfl dX12_meetsBehind_27 (by decide) (fun c16 => ?_) (fun c16 => ?_)
        · skip
          have h := h.1 c16
          refine z_iinc (lv' := [(2, .int (iI (x1 + 1))), (0, .ref (b + 0)), (1, .int (iI a0))]) hx hb dX12_meetsBehind_32 hl (k := 2) rfl (by decide) rfl (fun ls hl => ?_)
          refine lv_goto (tgt := 2) hx hb dX12_meetsBehind_35 (by decide) ?_
          obtain ⟨n17, h18, h⟩ := h
          exact i8 n17 h18 (x1 + 1) _ _ _ h hS hS0 (lv_sub hl [1, 2, 0] rfl)
        · skip
          have h := h.2 c16
          refine z_iconst hx hb dX12_meetsBehind_30 ?_
          exact w_zret hx hb hr hlocks hS hS0 (sI_of (by decide)) (by decide) ⟨rfl, h⟩ dX12_meetsBehind_31
  exact L6 n3 0 _ _ _ h4 hS hS0 (lv_sub hl [1, 2, 0] rfl)

set_option maxRecDepth 100000 in
def wR_meets (a0 : Int) (M : zM) (Q : Int → zM → Prop) : Prop := (∀ M1 : zM, M1 = zup M 0 35 0 → ((sL a0) < 0 → Q (-1) M1) ∧ (0 ≤ (sL a0) → ((sL a0) ≤ 1152921504606846976 → pL1 (fun K25 x5 => wR_steadyAll  M1 (fun z14 => (z14 ≤ (sL x5) → wR_findHeard x5 M1 (fun M18 => wR_allRounds  M18 (fun z20 => pL1 (fun K67 x23 => ((sI z20) ≤ (sI x23) → Q (-1) M18) ∧ ((sI x23) < (sI z20) → wR_meetsBehind x23 M18 (fun z33 => (z33 = 0 → K67 (x23 + 1)) ∧ (z33 ≠ 0 → Q (sL (x5 + (sI x23))) M18)))) 0))) ∧ ((sL x5) < z14 → wR_meetsAt x5 M1 (fun z40 => (z40 = 0 → K25 (x5 + 1)) ∧ (z40 ≠ 0 → Q (sL x5) M1))))) a0) ∧ (1152921504606846976 < (sL a0) → Q (-1) M1)))
set_option maxHeartbeats 4000000 in
set_option maxRecDepth 100000 in
theorem cR_meets (l : Launch) (D : va_G) (dA : Nat → ClassId) (b : Nat) (M : zM) (a0 : Int)  (Q : Int → zM → Prop) (h : wR_meets a0 M Q) : Met l yX12_meets (.code yX12_meets cX12_meets 7 (some .long) :: zt) (z_rm 51) (va_Pc [.ref (b + 0), .long (iL a0)] (wPre D dA vwCl (z_tys dA) wR nR b M)) (va_Ql (wQl Q) (zB D dA vwCl wR nR b) (zA nR b)) 0 0 (zA nR b) := by
  unfold wR_meets at h
  refine Met.ofW (cc := cX12_meets) (maxL := 7) (ret := (some .long)) (by decide) rfl ?_
  intro p e s m args below meth c s₁ B hml hv
  obtain ⟨hargs, hS, hK⟩ := hv
  have hx := B.exec
  have hb := B.bytes
  have hr := B.returns
  have hts := atoms_spec (ws := .code yX12_meets cX12_meets 7 (some .long) :: zt) B.pre
  have hown : s.vm.findClass RX12 = some m.cls := findClass_of_methodNamed B.named
  have hlocks := B.notSynchronized
  have hS0 : va_S (zA nR b) s.heap s.heap [] := va_S.rf
  have hl := lv_entry ([.ref (b + 0), .long (iL a0)]) (n := 7) (Nat.le_of_ble_eq_true rfl)
  have hent : entryFrame m args 7 = F0 m 0 ((lg_sl ([.ref (b + 0), .long (iL a0)]) ++ List.replicate (7 - (lg_sl ([.ref (b + 0), .long (iL a0)])).length) Slot.unset).toArray) [] := by rw [hargs]; exact lg_entry_eq m ([.ref (b + 0), .long (iL a0)]) 7
  rw [hent]
  generalize (lg_sl ([.ref (b + 0), .long (iL a0)]) ++ List.replicate (7 - (lg_sl ([.ref (b + 0), .long (iL a0)])).length) Slot.unset).toArray = ls at hl ⊢
  have hl : lv_has ls 7 [(0, .ref (b + 0)), (1, .long (iL a0))] := hl
  refine lv_aload_n hx hb dX12_meets_0 rfl (lv_at hl 0 rfl) ?_
  refine z_iconst hx hb dX12_meets_1 ?_
  refine w_puti hx hb hts (z_memU u12) tyX12 tyX12_ok nmX12 hown hK.1 hS hS0 f12_35 (by decide) (zkd_of (rfl : zcd wR 0 = 50) rfl) (Or.inl (hts _ (z_mem k979))) rfl (z := 0) (by decide +kernel) dX12_meets_2 (fun H locs hS hS0 => ?_)
  obtain ⟨M1, e2⟩ : ∃ M1 : zM, M1 = zup M 0 35 0 := ⟨_, rfl⟩
  rw [← e2] at hS
  have h := h M1 e2
  refine lv_lload_n hx hb dX12_meets_5 rfl (lv_at hl 1 rfl) ?_
  refine z_lconst0 hx hb dX12_meets_6 ?_
  refine w_lcmp_lt hx hb rfl (sL_of (by decide)) dX12_meets_7 dX12_meets_8 (tgt := 19) (by decide) (fun c3 => ?_) (fun c3 => ?_)
  · skip
    have h := h.1 c3
    refine z_ldc2 (n := -1) hx hb hown (hts _ (z_mem k1188)) (by decide) dX12_meets_19 ?_
    exact w_lret hx hb hr hlocks hS hS0 (sL_of (by decide)) h dX12_meets_22
  · skip
    have h := h.2 c3
    refine lv_lload_n hx hb dX12_meets_11 rfl (lv_at hl 1 rfl) ?_
    refine z_ldc2 (n := 1152921504606846976) hx hb hown (hts _ (z_mem k1187)) (by decide) dX12_meets_12 ?_
    refine w_lcmp_le hx hb rfl (sL_of (by decide)) dX12_meets_15 dX12_meets_16 (tgt := 23) (by decide) (fun c4 => ?_) (fun c4 => ?_)
    · skip
      have h := h.1 c4
      refine lv_lload_n hx hb dX12_meets_23 rfl (lv_at hl 1 rfl) ?_
      refine lv_lstore_n (lv' := [(3, .long (iL a0)), (0, .ref (b + 0)), (1, .long (iL a0))]) hx hb dX12_meets_24 rfl hl (by decide) rfl (fun ls hl => ?_)
      obtain ⟨I6, ⟨n7, h8⟩, h9⟩ := h
      have L10 : ∀ (n11 : Nat) (x5 : Int) (H : Heap) (locs : List Loc) (ls : Array Slot), I6 n11 x5 → zR D dA vwCl wR nR b M1 H → va_S (zA nR b) s.heap H locs → lv_has ls 7 [(0, .ref (b + 0)), (3, .long (iL x5))] → W p l e (headSpec (.code yX12_meets cX12_meets 7 (some .long) :: zt) (z_rm 51)).room s m args below meth c H locs 0 0 (MQ below (va_Ql (wQl Q) (zB D dA vwCl wR nR b) (zA nR b)) args s 0 0 (zA nR b)) (F0 m 25 ls []) := by
        intro n11
        induction n11 using Nat.strongRecOn with
        | ind n11 i12 =>
          intro x5 H locs ls h hS hS0 hl
          have h := h9 n11 x5 h
          refine lv_lload_n hx hb dX12_meets_25 rfl (lv_at hl 1 rfl) ?_
          refine lv_aload_n hx hb dX12_meets_26 rfl (lv_at hl 0 rfl) ?_
          refine w_calli (va_runV (As := []) (rest := [.long (iL x5)]) ⟨hx, hb, hml, hown, hts⟩ (cR_steadyAll l D dA b M1  _ h) (cwV 0 hts (z_gV k1189 k1190 k1407 k14 k1191) rfl rfl rfl dm_X12_steadyAll ⟨Nat.le_of_ble_eq_true rfl, Nat.le_of_ble_eq_true rfl⟩) ⟨wPre_blind, (w_recv hS hK.1 (by decide) (zkd_of (rfl : zcd wR 0 = 50) rfl) (by decide) (rfl : vwCl[12]? = some (RX12, TX12, 50))), w_pre hS hK⟩ rfl rfl hl.1 rfl (lv_room (Nat.le_of_ble_eq_true rfl)) dX12_meets_27 ⟨Nat.le_refl _, Nat.le_refl _⟩) hS0 (fun z14 M13 H locs r15 h hS hS0 => ?_)
          obtain ⟨e16, h⟩ := h
          rw [e16] at hS
          refine w_i2l hx hb (sI_of r15) dX12_meets_30 ?_
          refine w_lcmp_ge hx hb rfl (sL_ofI (sI_of r15)) dX12_meets_31 dX12_meets_32 (tgt := 52) (by decide) (fun c17 => ?_) (fun c17 => ?_)
          · skip
            have h := h.1 c17
            refine lv_aload_n hx hb dX12_meets_52 rfl (lv_at hl 0 rfl) ?_
            refine lv_lload_n hx hb dX12_meets_53 rfl (lv_at hl 1 rfl) ?_
            refine w_callv (va_runV (As := [.long (iL x5)]) (rest := []) ⟨hx, hb, hml, hown, hts⟩ (cR_findHeard l D dA b M1 x5 _ h) (cwV 1 hts (z_gV k1196 k1197 k1409 k14 k1198) rfl rfl rfl dm_X12_findHeard ⟨Nat.le_of_ble_eq_true rfl, Nat.le_of_ble_eq_true rfl⟩) ⟨wPre_blind, (w_recv hS hK.1 (by decide) (zkd_of (rfl : zcd wR 0 = 50) rfl) (by decide) (rfl : vwCl[12]? = some (RX12, TX12, 50))), w_pre hS hK⟩ rfl rfl hl.1 rfl (lv_room (Nat.le_of_ble_eq_true rfl)) dX12_meets_54 ⟨Nat.le_refl _, Nat.le_refl _⟩) hS0 (fun M18 H locs h hS hS0 => ?_)
            refine lv_aload_n hx hb dX12_meets_57 rfl (lv_at hl 0 rfl) ?_
            refine w_calll (va_runV (As := []) (rest := []) ⟨hx, hb, hml, hown, hts⟩ (cR_allRounds l D dA b M18  _ h) (cwV 0 hts (z_gV k1173 k1174 k1406 k14 k1175) rfl rfl rfl dm_X12_allRounds ⟨Nat.le_of_ble_eq_true rfl, Nat.le_of_ble_eq_true rfl⟩) ⟨wPre_blind, (w_recv hS hK.1 (by decide) (zkd_of (rfl : zcd wR 0 = 50) rfl) (by decide) (rfl : vwCl[12]? = some (RX12, TX12, 50))), w_pre hS hK⟩ rfl rfl hl.1 rfl (lv_room (Nat.le_of_ble_eq_true rfl)) dX12_meets_58 ⟨Nat.le_refl _, Nat.le_refl _⟩) hS0 (fun z20 M19 H locs r21 h hS hS0 => ?_)
            obtain ⟨e22, h⟩ := h
            rw [e22] at hS
            refine z_l2i hx hb dX12_meets_61 ?_
            refine lv_istore (lv' := [(5, .int (iI z20)), (0, .ref (b + 0)), (3, .long (iL x5))]) hx hb dX12_meets_62 hl (by decide) rfl (fun ls hl => ?_)
            refine z_iconst hx hb dX12_meets_64 ?_
            refine lv_istore (lv' := [(6, .int (iI 0)), (5, .int (iI z20)), (0, .ref (b + 0)), (3, .long (iL x5))]) hx hb dX12_meets_65 hl (by decide) rfl (fun ls hl => ?_)
            obtain ⟨I24, ⟨n25, h26⟩, h27⟩ := h
            have L28 : ∀ (n29 : Nat) (x23 : Int) (H : Heap) (locs : List Loc) (ls : Array Slot), I24 n29 x23 → zR D dA vwCl wR nR b M18 H → va_S (zA nR b) s.heap H locs → lv_has ls 7 [(0, .ref (b + 0)), (3, .long (iL x5)), (5, .int (iI z20)), (6, .int (iI x23))] → W p l e (headSpec (.code yX12_meets cX12_meets 7 (some .long) :: zt) (z_rm 51)).room s m args below meth c H locs 0 0 (MQ below (va_Ql (wQl Q) (zB D dA vwCl wR nR b) (zA nR b)) args s 0 0 (zA nR b)) (F0 m 67 ls []) := by
              intro n29
              induction n29 using Nat.strongRecOn with
              | ind n29 i30 =>
                intro x23 H locs ls h hS hS0 hl
                have h := h27 n29 x23 h
                refine lv_iload hx hb dX12_meets_67 (lv_at hl 3 rfl) ?_
                refine lv_iload hx hb dX12_meets_69 (lv_at hl 2 rfl) ?_
                refine w_icmp_ge (tgt := 95) hx hb rfl rfl dX12_meets_71 (by decide) (fun c31 => ?_) (fun c31 => ?_)
                · skip
                  have h := h.1 c31
                  refine z_ldc2 (n := -1) hx hb hown (hts _ (z_mem k1188)) (by decide) dX12_meets_95 ?_
                  exact w_lret hx hb hr hlocks hS hS0 (sL_of (by decide)) h dX12_meets_98
                · skip
                  have h := h.2 c31
                  refine lv_aload_n hx hb dX12_meets_74 rfl (lv_at hl 0 rfl) ?_
                  refine lv_iload hx hb dX12_meets_75 (lv_at hl 3 rfl) ?_
                  refine w_callz (va_runV (As := [.int (iI x23)]) (rest := []) ⟨hx, hb, hml, hown, hts⟩ (cR_meetsBehind l D dA b M18 x23 _ h) (cwV 1 hts (z_gV k1199 k1200 k1410 k14 k1201) rfl rfl rfl dm_X12_meetsBehind ⟨Nat.le_of_ble_eq_true rfl, Nat.le_of_ble_eq_true rfl⟩) ⟨wPre_blind, (w_recv hS hK.1 (by decide) (zkd_of (rfl : zcd wR 0 = 50) rfl) (by decide) (rfl : vwCl[12]? = some (RX12, TX12, 50))), w_pre hS hK⟩ rfl rfl hl.1 rfl (lv_room (Nat.le_of_ble_eq_true rfl)) dX12_meets_77 ⟨Nat.le_refl _, Nat.le_refl _⟩) hS0 (fun z33 M32 H locs r34 h hS hS0 => ?_)
                  obtain ⟨e35, h⟩ := h
                  rw [e35] at hS
                  refine w_if_eq (tgt := 89) hx hb (sI_01 r34) dX12_meets_80 (by decide) (fun c36 => ?_) (fun c36 => ?_)
                  · skip
                    have h := h.1 c36
                    refine z_iinc (lv' := [(6, .int (iI (x23 + 1))), (0, .ref (b + 0)), (3, .long (iL x5)), (5, .int (iI z20))]) hx hb dX12_meets_89 hl (k := 3) rfl (by decide) rfl (fun ls hl => ?_)
                    refine lv_goto (tgt := 67) hx hb dX12_meets_92 (by decide) ?_
                    obtain ⟨n37, h38, h⟩ := h
                    exact i30 n37 h38 (x23 + 1) _ _ _ h hS hS0 (lv_sub hl [1, 2, 3, 0] rfl)
                  · skip
                    have h := h.2 c36
                    refine lv_lload_n hx hb dX12_meets_83 rfl (lv_at hl 1 rfl) ?_
                    refine lv_iload hx hb dX12_meets_84 (lv_at hl 3 rfl) ?_
                    refine w_i2l hx hb rfl dX12_meets_86 ?_
                    refine z_ladd hx hb dX12_meets_87 ?_
                    exact w_lret hx hb hr hlocks hS hS0 rfl h dX12_meets_88
            exact L28 n25 0 _ _ _ h26 hS hS0 (lv_sub hl [2, 3, 1, 0] rfl)
          · skip
            have h := h.2 c17
            refine lv_aload_n hx hb dX12_meets_35 rfl (lv_at hl 0 rfl) ?_
            refine lv_lload_n hx hb dX12_meets_36 rfl (lv_at hl 1 rfl) ?_
            refine w_callz (va_runV (As := [.long (iL x5)]) (rest := []) ⟨hx, hb, hml, hown, hts⟩ (cR_meetsAt l D dA b M1 x5 _ h) (cwV 1 hts (z_gV k1193 k1194 k1408 k14 k1195) rfl rfl rfl dm_X12_meetsAt ⟨Nat.le_of_ble_eq_true rfl, Nat.le_of_ble_eq_true rfl⟩) ⟨wPre_blind, (w_recv hS hK.1 (by decide) (zkd_of (rfl : zcd wR 0 = 50) rfl) (by decide) (rfl : vwCl[12]? = some (RX12, TX12, 50))), w_pre hS hK⟩ rfl rfl hl.1 rfl (lv_room (Nat.le_of_ble_eq_true rfl)) dX12_meets_37 ⟨Nat.le_refl _, Nat.le_refl _⟩) hS0 (fun z40 M39 H locs r41 h hS hS0 => ?_)
            obtain ⟨e42, h⟩ := h
            rw [e42] at hS
            refine w_if_eq (tgt := 45) hx hb (sI_01 r41) dX12_meets_40 (by decide) (fun c43 => ?_) (fun c43 => ?_)
            · skip
              have h := h.1 c43
              refine lv_lload_n hx hb dX12_meets_45 rfl (lv_at hl 1 rfl) ?_
              refine z_lconst1 hx hb dX12_meets_46 ?_
              refine z_ladd hx hb dX12_meets_47 ?_
              refine lv_lstore_n (lv' := [(3, .long (iL (x5 + 1))), (0, .ref (b + 0))]) hx hb dX12_meets_48 rfl hl (by decide) rfl (fun ls hl => ?_)
              refine lv_goto (tgt := 25) hx hb dX12_meets_49 (by decide) ?_
              obtain ⟨n44, h45, h⟩ := h
              exact i12 n44 h45 (x5 + 1) _ _ _ h hS hS0 (lv_sub hl [1, 0] rfl)
            · skip
              have h := h.2 c43
              refine lv_lload_n hx hb dX12_meets_43 rfl (lv_at hl 1 rfl) ?_
              exact w_lret hx hb hr hlocks hS hS0 rfl h dX12_meets_44
      exact L10 n7 a0 _ _ _ h8 hS hS0 (lv_sub hl [1, 0] rfl)
    · skip
      have h := h.2 c4
      refine z_ldc2 (n := -1) hx hb hown (hts _ (z_mem k1188)) (by decide) dX12_meets_19 ?_
      exact w_lret hx hb hr hlocks hS hS0 (sL_of (by decide)) h dX12_meets_22

set_option maxRecDepth 100000 in
def wR_often  (M : zM) (Q : Int → zM → Prop) : Prop := (∀ M1 : zM, M1 = zup M 0 35 0 → wR_steadyAll  M1 (fun z4 => wR_findHeard z4 M1 (fun M7 => wR_allRounds  M7 (fun z9 => pL2 (fun K25 x12 x13 => ((sI z9) ≤ (sI x13) → Q (sL x12) M7) ∧ ((sI x13) < (sI z9) → wR_meetsBehind x13 M7 (fun z23 => (z23 = 0 → K25 x12 (x13 + 1)) ∧ (z23 ≠ 0 → K25 (x12 + 1) (x13 + 1))))) 0 0))))
set_option maxHeartbeats 4000000 in
set_option maxRecDepth 100000 in
theorem cR_often (l : Launch) (D : va_G) (dA : Nat → ClassId) (b : Nat) (M : zM)   (Q : Int → zM → Prop) (h : wR_often  M Q) : Met l yX12_often (.code yX12_often cX12_often 5 (some .long) :: zt) (z_rm 51) (va_Pc [.ref (b + 0)] (wPre D dA vwCl (z_tys dA) wR nR b M)) (va_Ql (wQl Q) (zB D dA vwCl wR nR b) (zA nR b)) 0 0 (zA nR b) := by
  unfold wR_often at h
  refine Met.ofW (cc := cX12_often) (maxL := 5) (ret := (some .long)) (by decide) rfl ?_
  intro p e s m args below meth c s₁ B hml hv
  obtain ⟨hargs, hS, hK⟩ := hv
  have hx := B.exec
  have hb := B.bytes
  have hr := B.returns
  have hts := atoms_spec (ws := .code yX12_often cX12_often 5 (some .long) :: zt) B.pre
  have hown : s.vm.findClass RX12 = some m.cls := findClass_of_methodNamed B.named
  have hlocks := B.notSynchronized
  have hS0 : va_S (zA nR b) s.heap s.heap [] := va_S.rf
  have hl := lv_entry ([.ref (b + 0)]) (n := 5) (Nat.le_of_ble_eq_true rfl)
  have hent : entryFrame m args 5 = F0 m 0 ((lg_sl ([.ref (b + 0)]) ++ List.replicate (5 - (lg_sl ([.ref (b + 0)])).length) Slot.unset).toArray) [] := by rw [hargs]; exact lg_entry_eq m ([.ref (b + 0)]) 5
  rw [hent]
  generalize (lg_sl ([.ref (b + 0)]) ++ List.replicate (5 - (lg_sl ([.ref (b + 0)])).length) Slot.unset).toArray = ls at hl ⊢
  have hl : lv_has ls 5 [(0, .ref (b + 0))] := hl
  refine lv_aload_n hx hb dX12_often_0 rfl (lv_at hl 0 rfl) ?_
  refine z_iconst hx hb dX12_often_1 ?_
  refine w_puti hx hb hts (z_memU u12) tyX12 tyX12_ok nmX12 hown hK.1 hS hS0 f12_35 (by decide) (zkd_of (rfl : zcd wR 0 = 50) rfl) (Or.inl (hts _ (z_mem k979))) rfl (z := 0) (by decide +kernel) dX12_often_2 (fun H locs hS hS0 => ?_)
  obtain ⟨M1, e2⟩ : ∃ M1 : zM, M1 = zup M 0 35 0 := ⟨_, rfl⟩
  rw [← e2] at hS
  have h := h M1 e2
  refine lv_aload_n hx hb dX12_often_5 rfl (lv_at hl 0 rfl) ?_
  refine lv_aload_n hx hb dX12_often_6 rfl (lv_at hl 0 rfl) ?_
  refine w_calli (va_runV (As := []) (rest := [.ref (b + 0)]) ⟨hx, hb, hml, hown, hts⟩ (cR_steadyAll l D dA b M1  _ h) (cwV 0 hts (z_gV k1189 k1190 k1407 k14 k1191) rfl rfl rfl dm_X12_steadyAll ⟨Nat.le_of_ble_eq_true rfl, Nat.le_of_ble_eq_true rfl⟩) ⟨wPre_blind, (w_recv hS hK.1 (by decide) (zkd_of (rfl : zcd wR 0 = 50) rfl) (by decide) (rfl : vwCl[12]? = some (RX12, TX12, 50))), w_pre hS hK⟩ rfl rfl hl.1 rfl (lv_room (Nat.le_of_ble_eq_true rfl)) dX12_often_7 ⟨Nat.le_refl _, Nat.le_refl _⟩) hS0 (fun z4 M3 H locs r5 h hS hS0 => ?_)
  obtain ⟨e6, h⟩ := h
  rw [e6] at hS
  refine w_i2l hx hb (sI_of r5) dX12_often_10 ?_
  refine w_callv (va_runV (As := [.long (iL z4)]) (rest := []) ⟨hx, hb, hml, hown, hts⟩ (cR_findHeard l D dA b M1 z4 _ h) (cwV 1 hts (z_gV k1196 k1197 k1409 k14 k1198) rfl rfl rfl dm_X12_findHeard ⟨Nat.le_of_ble_eq_true rfl, Nat.le_of_ble_eq_true rfl⟩) ⟨wPre_blind, (w_recv hS hK.1 (by decide) (zkd_of (rfl : zcd wR 0 = 50) rfl) (by decide) (rfl : vwCl[12]? = some (RX12, TX12, 50))), w_pre hS hK⟩ rfl rfl hl.1 rfl (lv_room (Nat.le_of_ble_eq_true rfl)) dX12_often_11 ⟨Nat.le_refl _, Nat.le_refl _⟩) hS0 (fun M7 H locs h hS hS0 => ?_)
  refine lv_aload_n hx hb dX12_often_14 rfl (lv_at hl 0 rfl) ?_
  refine w_calll (va_runV (As := []) (rest := []) ⟨hx, hb, hml, hown, hts⟩ (cR_allRounds l D dA b M7  _ h) (cwV 0 hts (z_gV k1173 k1174 k1406 k14 k1175) rfl rfl rfl dm_X12_allRounds ⟨Nat.le_of_ble_eq_true rfl, Nat.le_of_ble_eq_true rfl⟩) ⟨wPre_blind, (w_recv hS hK.1 (by decide) (zkd_of (rfl : zcd wR 0 = 50) rfl) (by decide) (rfl : vwCl[12]? = some (RX12, TX12, 50))), w_pre hS hK⟩ rfl rfl hl.1 rfl (lv_room (Nat.le_of_ble_eq_true rfl)) dX12_often_15 ⟨Nat.le_refl _, Nat.le_refl _⟩) hS0 (fun z9 M8 H locs r10 h hS hS0 => ?_)
  obtain ⟨e11, h⟩ := h
  rw [e11] at hS
  refine z_l2i hx hb dX12_often_18 ?_
  refine lv_istore_n (lv' := [(1, .int (iI z9)), (0, .ref (b + 0))]) hx hb dX12_often_19 rfl hl (by decide) rfl (fun ls hl => ?_)
  refine z_lconst0 hx hb dX12_often_20 ?_
  refine lv_lstore_n (lv' := [(2, .long (iL 0)), (1, .int (iI z9)), (0, .ref (b + 0))]) hx hb dX12_often_21 rfl hl (by decide) rfl (fun ls hl => ?_)
  refine z_iconst hx hb dX12_often_22 ?_
  refine lv_istore (lv' := [(4, .int (iI 0)), (2, .long (iL 0)), (1, .int (iI z9)), (0, .ref (b + 0))]) hx hb dX12_often_23 hl (by decide) rfl (fun ls hl => ?_)
  obtain ⟨I14, ⟨n15, h16⟩, h17⟩ := h
  have L18 : ∀ (n19 : Nat) (x12 x13 : Int) (H : Heap) (locs : List Loc) (ls : Array Slot), I14 n19 x12 x13 → zR D dA vwCl wR nR b M7 H → va_S (zA nR b) s.heap H locs → lv_has ls 5 [(0, .ref (b + 0)), (1, .int (iI z9)), (2, .long (iL x12)), (4, .int (iI x13))] → W p l e (headSpec (.code yX12_often cX12_often 5 (some .long) :: zt) (z_rm 51)).room s m args below meth c H locs 0 0 (MQ below (va_Ql (wQl Q) (zB D dA vwCl wR nR b) (zA nR b)) args s 0 0 (zA nR b)) (F0 m 25 ls []) := by
    intro n19
    induction n19 using Nat.strongRecOn with
    | ind n19 i20 =>
      intro x12 x13 H locs ls h hS hS0 hl
      have h := h17 n19 x12 x13 h
      refine lv_iload hx hb dX12_often_25 (lv_at hl 3 rfl) ?_
      refine lv_iload_n hx hb dX12_often_27 rfl (lv_at hl 1 rfl) ?_
      refine w_icmp_ge (tgt := 50) hx hb rfl rfl dX12_often_28 (by decide) (fun c21 => ?_) (fun c21 => ?_)
      · skip
        have h := h.1 c21
        refine lv_lload_n hx hb dX12_often_50 rfl (lv_at hl 2 rfl) ?_
        exact w_lret hx hb hr hlocks hS hS0 rfl h dX12_often_51
      · skip
        have h := h.2 c21
        refine lv_aload_n hx hb dX12_often_31 rfl (lv_at hl 0 rfl) ?_
        refine lv_iload hx hb dX12_often_32 (lv_at hl 3 rfl) ?_
        refine w_callz (va_runV (As := [.int (iI x13)]) (rest := []) ⟨hx, hb, hml, hown, hts⟩ (cR_meetsBehind l D dA b M7 x13 _ h) (cwV 1 hts (z_gV k1199 k1200 k1410 k14 k1201) rfl rfl rfl dm_X12_meetsBehind ⟨Nat.le_of_ble_eq_true rfl, Nat.le_of_ble_eq_true rfl⟩) ⟨wPre_blind, (w_recv hS hK.1 (by decide) (zkd_of (rfl : zcd wR 0 = 50) rfl) (by decide) (rfl : vwCl[12]? = some (RX12, TX12, 50))), w_pre hS hK⟩ rfl rfl hl.1 rfl (lv_room (Nat.le_of_ble_eq_true rfl)) dX12_often_34 ⟨Nat.le_refl _, Nat.le_refl _⟩) hS0 (fun z23 M22 H locs r24 h hS hS0 => ?_)
        obtain ⟨e25, h⟩ := h
        rw [e25] at hS
        refine w_if_eq (tgt := 44) hx hb (sI_01 r24) dX12_often_37 (by decide) (fun c26 => ?_) (fun c26 => ?_)
        · skip
          have h := h.1 c26
          refine z_iinc (lv' := [(4, .int (iI (x13 + 1))), (0, .ref (b + 0)), (1, .int (iI z9)), (2, .long (iL x12))]) hx hb dX12_often_44 hl (k := 3) rfl (by decide) rfl (fun ls hl => ?_)
          refine lv_goto (tgt := 25) hx hb dX12_often_47 (by decide) ?_
          obtain ⟨n27, h28, h⟩ := h
          exact i20 n27 h28 x12 (x13 + 1) _ _ _ h hS hS0 (lv_sub hl [1, 2, 3, 0] rfl)
        · skip
          have h := h.2 c26
          refine lv_lload_n hx hb dX12_often_40 rfl (lv_at hl 2 rfl) ?_
          refine z_lconst1 hx hb dX12_often_41 ?_
          refine z_ladd hx hb dX12_often_42 ?_
          refine lv_lstore_n (lv' := [(2, .long (iL (x12 + 1))), (0, .ref (b + 0)), (1, .int (iI z9)), (4, .int (iI x13))]) hx hb dX12_often_43 rfl hl (by decide) rfl (fun ls hl => ?_)
          refine z_iinc (lv' := [(4, .int (iI (x13 + 1))), (2, .long (iL (x12 + 1))), (0, .ref (b + 0)), (1, .int (iI z9))]) hx hb dX12_often_44 hl (k := 3) rfl (by decide) rfl (fun ls hl => ?_)
          refine lv_goto (tgt := 25) hx hb dX12_often_47 (by decide) ?_
          obtain ⟨n29, h30, h⟩ := h
          exact i20 n29 h30 (x12 + 1) (x13 + 1) _ _ _ h hS hS0 (lv_sub hl [2, 3, 1, 0] rfl)
  exact L18 n15 0 0 _ _ _ h16 hS hS0 (lv_sub hl [3, 2, 1, 0] rfl)

set_option maxRecDepth 100000 in
def wR_mark (a0 : Int) (a1 : Int) (M : zM) (Q : Int → zM → Prop) : Prop := (∀ M1 : zM, M1 = zup M 0 35 0 → wR_in a0 0 100000 M1 (fun z4 => (z4 = 0 → Q (-1) M1) ∧ (z4 ≠ 0 → wR_in a1 1 9 M1 (fun z9 => (z9 = 0 → Q (-1) M1) ∧ (z9 ≠ 0 → ((sI (M1 0 16)) ≠ 6 → ((0 ≤ (sI (M1 0 16)) ∧ (sI (M1 0 16)) < 6) ∧ (∀ M15 : zM, M15 = zup M1 12 (sI (M1 0 16)).toNat a0 → ((0 ≤ (sI (M15 0 16)) ∧ (sI (M15 0 16)) < 6) ∧ (∀ M18 : zM, M18 = zup M15 13 (sI (M15 0 16)).toNat a1 → (∀ M20 : zM, M20 = zup M18 0 16 ((M18 0 16) + 1) → Q (sI (M20 0 16)) M20)))))) ∧ ((sI (M1 0 16)) = 6 → Q (-1) M1))))))
set_option maxHeartbeats 4000000 in
set_option maxRecDepth 100000 in
theorem cR_mark (l : Launch) (D : va_G) (dA : Nat → ClassId) (b : Nat) (M : zM) (a0 : Int) (a1 : Int)  (Q : Int → zM → Prop) (h : wR_mark a0 a1 M Q) : Met l yX12_mark (.code yX12_mark cX12_mark 3 (some .int) :: zt) (z_rm 1) (va_Pc [.ref (b + 0), .int (iI a0), .int (iI a1)] (wPre D dA vwCl (z_tys dA) wR nR b M)) (va_Qi (wQi Q) (zB D dA vwCl wR nR b) (zA nR b)) 0 0 (zA nR b) := by
  unfold wR_mark at h
  refine Met.ofW (cc := cX12_mark) (maxL := 3) (ret := (some .int)) (by decide) rfl ?_
  intro p e s m args below meth c s₁ B hml hv
  obtain ⟨hargs, hS, hK⟩ := hv
  have hx := B.exec
  have hb := B.bytes
  have hr := B.returns
  have hts := atoms_spec (ws := .code yX12_mark cX12_mark 3 (some .int) :: zt) B.pre
  have hown : s.vm.findClass RX12 = some m.cls := findClass_of_methodNamed B.named
  have hlocks := B.notSynchronized
  have hS0 : va_S (zA nR b) s.heap s.heap [] := va_S.rf
  have hl := lv_entry ([.ref (b + 0), .int (iI a0), .int (iI a1)]) (n := 3) (Nat.le_of_ble_eq_true rfl)
  have hent : entryFrame m args 3 = F0 m 0 ((lg_sl ([.ref (b + 0), .int (iI a0), .int (iI a1)]) ++ List.replicate (3 - (lg_sl ([.ref (b + 0), .int (iI a0), .int (iI a1)])).length) Slot.unset).toArray) [] := by rw [hargs]; exact lg_entry_eq m ([.ref (b + 0), .int (iI a0), .int (iI a1)]) 3
  rw [hent]
  generalize (lg_sl ([.ref (b + 0), .int (iI a0), .int (iI a1)]) ++ List.replicate (3 - (lg_sl ([.ref (b + 0), .int (iI a0), .int (iI a1)])).length) Slot.unset).toArray = ls at hl ⊢
  have hl : lv_has ls 3 [(0, .ref (b + 0)), (1, .int (iI a0)), (2, .int (iI a1))] := hl
  refine lv_aload_n hx hb dX12_mark_0 rfl (lv_at hl 0 rfl) ?_
  refine z_iconst hx hb dX12_mark_1 ?_
  refine w_puti hx hb hts (z_memU u12) tyX12 tyX12_ok nmX12 hown hK.1 hS hS0 f12_35 (by decide) (zkd_of (rfl : zcd wR 0 = 50) rfl) (Or.inl (hts _ (z_mem k979))) rfl (z := 0) (by decide +kernel) dX12_mark_2 (fun H locs hS hS0 => ?_)
  obtain ⟨M1, e2⟩ : ∃ M1 : zM, M1 = zup M 0 35 0 := ⟨_, rfl⟩
  rw [← e2] at hS
  have h := h M1 e2
  refine lv_iload_n hx hb dX12_mark_5 rfl (lv_at hl 1 rfl) ?_
  refine z_iconst hx hb dX12_mark_6 ?_
  refine z_ldcw (n := 100000) hx hb hown (hts _ (z_mem k1210)) (by decide) dX12_mark_7 ?_
  refine w_callz (va_runS (As := [.int (iI a0), .int (iI 0), .int (iI 100000)]) (rest := []) ⟨hx, hb, hml, hown, hts⟩ (cR_in l D dA b M1 a0 0 100000 _ h) (va_cwS 3 hts (z_gS k1083 k1084 k14 k1085) rfl rfl rfl dm_X12_in.2 ⟨Nat.le_of_ble_eq_true rfl, Nat.le_of_ble_eq_true rfl⟩) ⟨wPre_blind, w_pre hS hK⟩ rfl rfl hl.1 rfl (lv_room (Nat.le_of_ble_eq_true rfl)) dX12_mark_10 ⟨Nat.le_refl _, Nat.le_refl _⟩) hS0 (fun z4 M3 H locs r5 h hS hS0 => ?_)
  obtain ⟨e6, h⟩ := h
  rw [e6] at hS
  refine w_if_eq (tgt := 35) hx hb (sI_01 r5) dX12_mark_13 (by decide) (fun c7 => ?_) (fun c7 => ?_)
  · skip
    have h := h.1 c7
    refine z_iconst hx hb dX12_mark_35 ?_
    exact w_iret hx hb hr hlocks hS hS0 (sI_of (by decide)) h dX12_mark_36
  · skip
    have h := h.2 c7
    refine lv_iload_n hx hb dX12_mark_16 rfl (lv_at hl 2 rfl) ?_
    refine z_iconst hx hb dX12_mark_17 ?_
    refine z_bipush hx hb (by decide) dX12_mark_18 ?_
    refine w_callz (va_runS (As := [.int (iI a1), .int (iI 1), .int (iI 9)]) (rest := []) ⟨hx, hb, hml, hown, hts⟩ (cR_in l D dA b M1 a1 1 9 _ h) (va_cwS 3 hts (z_gS k1083 k1084 k14 k1085) rfl rfl rfl dm_X12_in.2 ⟨Nat.le_of_ble_eq_true rfl, Nat.le_of_ble_eq_true rfl⟩) ⟨wPre_blind, w_pre hS hK⟩ rfl rfl hl.1 rfl (lv_room (Nat.le_of_ble_eq_true rfl)) dX12_mark_20 ⟨Nat.le_refl _, Nat.le_refl _⟩) hS0 (fun z9 M8 H locs r10 h hS hS0 => ?_)
    obtain ⟨e11, h⟩ := h
    rw [e11] at hS
    refine w_if_eq (tgt := 35) hx hb (sI_01 r10) dX12_mark_23 (by decide) (fun c12 => ?_) (fun c12 => ?_)
    · skip
      have h := h.1 c12
      refine z_iconst hx hb dX12_mark_35 ?_
      exact w_iret hx hb hr hlocks hS hS0 (sI_of (by decide)) h dX12_mark_36
    · skip
      have h := h.2 c12
      refine lv_aload_n hx hb dX12_mark_26 rfl (lv_at hl 0 rfl) ?_
      refine w_geti hx hb hts (z_memU u12) hown hK.1 hS f12_16 (by decide) (zkd_of (rfl : zcd wR 0 = 50) rfl) (Or.inl (hts _ (z_mem k960))) dX12_mark_27 ?_
      refine z_bipush hx hb (by decide) dX12_mark_30 ?_
      refine w_icmp_ne (tgt := 37) hx hb rfl (sI_of (by decide)) dX12_mark_32 (by decide) (fun c13 => ?_) (fun c13 => ?_)
      · skip
        have h := h.1 c13
        refine lv_aload_n hx hb dX12_mark_37 rfl (lv_at hl 0 rfl) ?_
        refine w_getr (j2 := 12) hx hb hts (z_memU u12) hown hK.1 hS f12_14 (by decide) (zkd_of (rfl : zcd wR 0 = 50) rfl) (zrf_of (rfl : zcd wR 0 = 50) rfl) (Or.inl (hts _ (z_mem k958))) dX12_mark_38 ?_
        refine lv_aload_n hx hb dX12_mark_41 rfl (lv_at hl 0 rfl) ?_
        refine w_geti hx hb hts (z_memU u12) hown hK.1 hS f12_16 (by decide) (zkd_of (rfl : zcd wR 0 = 50) rfl) (Or.inl (hts _ (z_mem k960))) dX12_mark_42 ?_
        refine lv_iload_n hx hb dX12_mark_45 rfl (lv_at hl 1 rfl) ?_
        obtain ⟨o14, h⟩ := h
        refine w_iast (z := a0) (n := 6) (i := (sI (M1 0 16))) hx hb hK.1 (t0 := 0) rfl hS hS0 (by decide) (zkd_of (rfl : zcd wR 12 = 62) rfl) (zln_of (rfl : zcd wR 12 = 62) rfl) rfl o14.1 o14.2 (by decide) dX12_mark_46 (fun H locs hS hS0 => ?_)
        obtain ⟨M15, e16⟩ : ∃ M15 : zM, M15 = zup M1 12 (sI (M1 0 16)).toNat a0 := ⟨_, rfl⟩
        rw [← e16] at hS
        have h := h M15 e16
        refine lv_aload_n hx hb dX12_mark_47 rfl (lv_at hl 0 rfl) ?_
        refine w_getr (j2 := 13) hx hb hts (z_memU u12) hown hK.1 hS f12_15 (by decide) (zkd_of (rfl : zcd wR 0 = 50) rfl) (zrf_of (rfl : zcd wR 0 = 50) rfl) (Or.inl (hts _ (z_mem k959))) dX12_mark_48 ?_
        refine lv_aload_n hx hb dX12_mark_51 rfl (lv_at hl 0 rfl) ?_
        refine w_geti hx hb hts (z_memU u12) hown hK.1 hS f12_16 (by decide) (zkd_of (rfl : zcd wR 0 = 50) rfl) (Or.inl (hts _ (z_mem k960))) dX12_mark_52 ?_
        refine lv_iload_n hx hb dX12_mark_55 rfl (lv_at hl 2 rfl) ?_
        obtain ⟨o17, h⟩ := h
        refine w_iast (z := a1) (n := 6) (i := (sI (M15 0 16))) hx hb hK.1 (t0 := 0) rfl hS hS0 (by decide) (zkd_of (rfl : zcd wR 13 = 63) rfl) (zln_of (rfl : zcd wR 13 = 63) rfl) rfl o17.1 o17.2 (by decide) dX12_mark_56 (fun H locs hS hS0 => ?_)
        obtain ⟨M18, e19⟩ : ∃ M18 : zM, M18 = zup M15 13 (sI (M15 0 16)).toNat a1 := ⟨_, rfl⟩
        rw [← e19] at hS
        have h := h M18 e19
        refine lv_aload_n hx hb dX12_mark_57 rfl (lv_at hl 0 rfl) ?_
        refine lv_dup hx hb dX12_mark_58 rfl ?_
        refine w_geti hx hb hts (z_memU u12) hown hK.1 hS f12_16 (by decide) (zkd_of (rfl : zcd wR 0 = 50) rfl) (Or.inl (hts _ (z_mem k960))) dX12_mark_59 ?_
        refine z_iconst hx hb dX12_mark_62 ?_
        refine z_iadd hx hb dX12_mark_63 ?_
        refine w_puti hx hb hts (z_memU u12) tyX12 tyX12_ok nmX12 hown hK.1 hS hS0 f12_16 (by decide) (zkd_of (rfl : zcd wR 0 = 50) rfl) (Or.inl (hts _ (z_mem k960))) rfl (z := ((M18 0 16) + 1)) (by decide +kernel) dX12_mark_64 (fun H locs hS hS0 => ?_)
        obtain ⟨M20, e21⟩ : ∃ M20 : zM, M20 = zup M18 0 16 ((M18 0 16) + 1) := ⟨_, rfl⟩
        rw [← e21] at hS
        have h := h M20 e21
        refine lv_aload_n hx hb dX12_mark_67 rfl (lv_at hl 0 rfl) ?_
        refine w_geti hx hb hts (z_memU u12) hown hK.1 hS f12_16 (by decide) (zkd_of (rfl : zcd wR 0 = 50) rfl) (Or.inl (hts _ (z_mem k960))) dX12_mark_68 ?_
        exact w_iret hx hb hr hlocks hS hS0 rfl h dX12_mark_71
      · skip
        have h := h.2 c13
        refine z_iconst hx hb dX12_mark_35 ?_
        exact w_iret hx hb hr hlocks hS hS0 (sI_of (by decide)) h dX12_mark_36

set_option maxRecDepth 100000 in
def wR_truths (a0 : Int) (a1 : Int) (a2 : Int) (M : zM) (Q : Int → Prop) : Prop := ((0 ≤ (sI a0) ∧ (sI a0) < 4) ∧ pL2 (fun K16 x2 x3 => ((sI (M 0 16)) ≤ (sI x3) → Q (sI x2)) ∧ ((sI x3) < (sI (M 0 16)) → ((0 ≤ (sI a0) ∧ (sI a0) < 4) ∧ ((0 ≤ (sI x3) ∧ (sI x3) < 6) ∧ wR_wayBy (M 5 (sI a0).toNat) (sI (M 12 (sI x3).toNat)) ((M 4 (sI a0).toNat) - a1) M (fun z15 => pL2 (fun K55 x18 x19 => (24 ≤ (sI x19) → ((sI x18) = 0 → K16 x2 (x3 + 1)) ∧ ((sI x18) ≠ 0 → K16 (orI x2 (shlI 1 x3)) (x3 + 1))) ∧ ((sI x19) < 24 → ((0 ≤ (sI a0) ∧ (sI a0) < 4) ∧ ((andI (shrI (M 7 (sI a0).toNat) x19) 1) ≠ 1 → K55 x18 (x19 + 1)) ∧ ((andI (shrI (M 7 (sI a0).toNat) x19) 1) = 1 → ((sI x18) ≠ 0 → K55 1 (x19 + 1)) ∧ ((sI x18) = 0 → (((sI ((M 4 (sI a0).toNat) - a1)) ≠ 0) ∧ ((0 ≤ (sI ((24 * a0) + ((sI ((a2 + z15) + x19)).tmod (sI ((M 4 (sI a0).toNat) - a1))))) ∧ (sI ((24 * a0) + ((sI ((a2 + z15) + x19)).tmod (sI ((M 4 (sI a0).toNat) - a1))))) < 96) ∧ ((0 ≤ (sI x3) ∧ (sI x3) < 6) ∧ ((andI (shrI (M 3 (sI ((24 * a0) + ((sI ((a2 + z15) + x19)).tmod (sI ((M 4 (sI a0).toNat) - a1))))).toNat) (M 13 (sI x3).toNat)) 1) ≠ 1 → K55 0 (x19 + 1)) ∧ ((andI (shrI (M 3 (sI ((24 * a0) + ((sI ((a2 + z15) + x19)).tmod (sI ((M 4 (sI a0).toNat) - a1))))).toNat) (M 13 (sI x3).toNat)) 1) = 1 → K55 1 (x19 + 1)))))))))) 0 0))))) 0 0)
set_option maxHeartbeats 4000000 in
set_option maxRecDepth 100000 in
theorem cR_truths (l : Launch) (D : va_G) (dA : Nat → ClassId) (b : Nat) (M : zM) (a0 : Int) (a1 : Int) (a2 : Int)  (Q : Int → Prop) (h : wR_truths a0 a1 a2 M Q) : Met l yX12_truths (.code yX12_truths cX12_truths 10 (some .int) :: zt) (z_rm 2) (va_Pc [.ref (b + 0), .int (iI a0), .int (iI a1), .int (iI a2)] (wPre D dA vwCl (z_tys dA) wR nR b M)) (va_Qi (wQi (fun z9 u9 => u9 = M ∧ Q z9)) (zB D dA vwCl wR nR b) (zA nR b)) 0 0 (zA nR b) := by
  unfold wR_truths at h
  refine Met.ofW (cc := cX12_truths) (maxL := 10) (ret := (some .int)) (by decide) rfl ?_
  intro p e s m args below meth c s₁ B hml hv
  obtain ⟨hargs, hS, hK⟩ := hv
  have hx := B.exec
  have hb := B.bytes
  have hr := B.returns
  have hts := atoms_spec (ws := .code yX12_truths cX12_truths 10 (some .int) :: zt) B.pre
  have hown : s.vm.findClass RX12 = some m.cls := findClass_of_methodNamed B.named
  have hlocks := B.notSynchronized
  have hS0 : va_S (zA nR b) s.heap s.heap [] := va_S.rf
  have hl := lv_entry ([.ref (b + 0), .int (iI a0), .int (iI a1), .int (iI a2)]) (n := 10) (Nat.le_of_ble_eq_true rfl)
  have hent : entryFrame m args 10 = F0 m 0 ((lg_sl ([.ref (b + 0), .int (iI a0), .int (iI a1), .int (iI a2)]) ++ List.replicate (10 - (lg_sl ([.ref (b + 0), .int (iI a0), .int (iI a1), .int (iI a2)])).length) Slot.unset).toArray) [] := by rw [hargs]; exact lg_entry_eq m ([.ref (b + 0), .int (iI a0), .int (iI a1), .int (iI a2)]) 10
  rw [hent]
  generalize (lg_sl ([.ref (b + 0), .int (iI a0), .int (iI a1), .int (iI a2)]) ++ List.replicate (10 - (lg_sl ([.ref (b + 0), .int (iI a0), .int (iI a1), .int (iI a2)])).length) Slot.unset).toArray = ls at hl ⊢
  have hl : lv_has ls 10 [(0, .ref (b + 0)), (1, .int (iI a0)), (2, .int (iI a1)), (3, .int (iI a2))] := hl
  refine lv_aload_n hx hb dX12_truths_0 rfl (lv_at hl 0 rfl) ?_
  refine w_getr (j2 := 4) hx hb hts (z_memU u12) hown hK.1 hS f12_5 (by decide) (zkd_of (rfl : zcd wR 0 = 50) rfl) (zrf_of (rfl : zcd wR 0 = 50) rfl) (Or.inl (hts _ (z_mem k949))) dX12_truths_1 ?_
  refine lv_iload_n hx hb dX12_truths_4 rfl (lv_at hl 1 rfl) ?_
  obtain ⟨o1, h⟩ := h
  refine w_iald (n := 4) (i := (sI a0)) hx hb hK.1 (t0 := 0) rfl hS (by decide) (zkd_of (rfl : zcd wR 4 = 54) rfl) (zln_of (rfl : zcd wR 4 = 54) rfl) rfl o1.1 o1.2 (by decide) dX12_truths_5 ?_
  refine lv_iload_n hx hb dX12_truths_6 rfl (lv_at hl 2 rfl) ?_
  refine z_isub hx hb dX12_truths_7 ?_
  refine lv_istore (lv' := [(4, .int (iI ((M 4 (sI a0).toNat) - a1))), (0, .ref (b + 0)), (1, .int (iI a0)), (2, .int (iI a1)), (3, .int (iI a2))]) hx hb dX12_truths_8 hl (by decide) rfl (fun ls hl => ?_)
  refine z_iconst hx hb dX12_truths_10 ?_
  refine lv_istore (lv' := [(5, .int (iI 0)), (4, .int (iI ((M 4 (sI a0).toNat) - a1))), (0, .ref (b + 0)), (1, .int (iI a0)), (2, .int (iI a1)), (3, .int (iI a2))]) hx hb dX12_truths_11 hl (by decide) rfl (fun ls hl => ?_)
  refine z_iconst hx hb dX12_truths_13 ?_
  refine lv_istore (lv' := [(6, .int (iI 0)), (5, .int (iI 0)), (4, .int (iI ((M 4 (sI a0).toNat) - a1))), (0, .ref (b + 0)), (1, .int (iI a0)), (2, .int (iI a1)), (3, .int (iI a2))]) hx hb dX12_truths_14 hl (by decide) rfl (fun ls hl => ?_)
  obtain ⟨I4, ⟨n5, h6⟩, h7⟩ := h
  have L8 : ∀ (n9 : Nat) (x2 x3 : Int) (H : Heap) (locs : List Loc) (ls : Array Slot), I4 n9 x2 x3 → zR D dA vwCl wR nR b M H → va_S (zA nR b) s.heap H locs → lv_has ls 10 [(0, .ref (b + 0)), (1, .int (iI a0)), (3, .int (iI a2)), (4, .int (iI ((M 4 (sI a0).toNat) - a1))), (5, .int (iI x2)), (6, .int (iI x3))] → W p l e (headSpec (.code yX12_truths cX12_truths 10 (some .int) :: zt) (z_rm 2)).room s m args below meth c H locs 0 0 (MQ below (va_Qi (wQi (fun z9 u9 => u9 = M ∧ Q z9)) (zB D dA vwCl wR nR b) (zA nR b)) args s 0 0 (zA nR b)) (F0 m 16 ls []) := by
    intro n9
    induction n9 using Nat.strongRecOn with
    | ind n9 i10 =>
      intro x2 x3 H locs ls h hS hS0 hl
      have h := h7 n9 x2 x3 h
      refine lv_iload hx hb dX12_truths_16 (lv_at hl 5 rfl) ?_
      refine lv_aload_n hx hb dX12_truths_18 rfl (lv_at hl 0 rfl) ?_
      refine w_geti hx hb hts (z_memU u12) hown hK.1 hS f12_16 (by decide) (zkd_of (rfl : zcd wR 0 = 50) rfl) (Or.inl (hts _ (z_mem k960))) dX12_truths_19 ?_
      refine w_icmp_ge (tgt := 147) hx hb rfl rfl dX12_truths_22 (by decide) (fun c11 => ?_) (fun c11 => ?_)
      · skip
        have h := h.1 c11
        refine lv_iload hx hb dX12_truths_147 (lv_at hl 4 rfl) ?_
        exact w_iret hx hb hr hlocks hS hS0 rfl ⟨rfl, h⟩ dX12_truths_149
      · skip
        have h := h.2 c11
        refine lv_iload_n hx hb dX12_truths_25 rfl (lv_at hl 2 rfl) ?_
        refine lv_aload_n hx hb dX12_truths_26 rfl (lv_at hl 0 rfl) ?_
        refine lv_aload_n hx hb dX12_truths_27 rfl (lv_at hl 0 rfl) ?_
        refine w_getr (j2 := 5) hx hb hts (z_memU u12) hown hK.1 hS f12_6 (by decide) (zkd_of (rfl : zcd wR 0 = 50) rfl) (zrf_of (rfl : zcd wR 0 = 50) rfl) (Or.inl (hts _ (z_mem k950))) dX12_truths_28 ?_
        refine lv_iload_n hx hb dX12_truths_31 rfl (lv_at hl 1 rfl) ?_
        obtain ⟨o12, h⟩ := h
        refine w_iald (n := 4) (i := (sI a0)) hx hb hK.1 (t0 := 0) rfl hS (by decide) (zkd_of (rfl : zcd wR 5 = 55) rfl) (zln_of (rfl : zcd wR 5 = 55) rfl) rfl o12.1 o12.2 (by decide) dX12_truths_32 ?_
        refine lv_aload_n hx hb dX12_truths_33 rfl (lv_at hl 0 rfl) ?_
        refine w_getr (j2 := 12) hx hb hts (z_memU u12) hown hK.1 hS f12_14 (by decide) (zkd_of (rfl : zcd wR 0 = 50) rfl) (zrf_of (rfl : zcd wR 0 = 50) rfl) (Or.inl (hts _ (z_mem k958))) dX12_truths_34 ?_
        refine lv_iload hx hb dX12_truths_37 (lv_at hl 5 rfl) ?_
        obtain ⟨o13, h⟩ := h
        refine w_iald (n := 6) (i := (sI x3)) hx hb hK.1 (t0 := 0) rfl hS (by decide) (zkd_of (rfl : zcd wR 12 = 62) rfl) (zln_of (rfl : zcd wR 12 = 62) rfl) rfl o13.1 o13.2 (by decide) dX12_truths_39 ?_
        refine w_i2l hx hb rfl dX12_truths_40 ?_
        refine lv_iload hx hb dX12_truths_41 (lv_at hl 3 rfl) ?_
        refine w_calli (va_runV (As := [.int (iI (M 5 (sI a0).toNat)), .long (iL (sI (M 12 (sI x3).toNat))), .int (iI ((M 4 (sI a0).toNat) - a1))]) (rest := [.int (iI a2)]) ⟨hx, hb, hml, hown, hts⟩ (cR_wayBy l D dA b M (M 5 (sI a0).toNat) (sI (M 12 (sI x3).toNat)) ((M 4 (sI a0).toNat) - a1) _ h) (cwV 3 hts (z_gV k1157 k1158 k1403 k14 k1159) rfl rfl rfl dm_X12_wayBy ⟨Nat.le_of_ble_eq_true rfl, Nat.le_of_ble_eq_true rfl⟩) ⟨wPre_blind, (w_recv hS hK.1 (by decide) (zkd_of (rfl : zcd wR 0 = 50) rfl) (by decide) (rfl : vwCl[12]? = some (RX12, TX12, 50))), w_pre hS hK⟩ rfl rfl hl.1 rfl (lv_room (Nat.le_of_ble_eq_true rfl)) dX12_truths_43 ⟨Nat.le_refl _, Nat.le_refl _⟩) hS0 (fun z15 M14 H locs r16 h hS hS0 => ?_)
        obtain ⟨e17, h⟩ := h
        rw [e17] at hS
        refine z_iadd hx hb dX12_truths_46 ?_
        refine lv_istore (lv' := [(7, .int (iI (a2 + z15))), (0, .ref (b + 0)), (1, .int (iI a0)), (3, .int (iI a2)), (4, .int (iI ((M 4 (sI a0).toNat) - a1))), (5, .int (iI x2)), (6, .int (iI x3))]) hx hb dX12_truths_47 hl (by decide) rfl (fun ls hl => ?_)
        refine z_iconst hx hb dX12_truths_49 ?_
        refine lv_istore (lv' := [(8, .int (iI 0)), (7, .int (iI (a2 + z15))), (0, .ref (b + 0)), (1, .int (iI a0)), (3, .int (iI a2)), (4, .int (iI ((M 4 (sI a0).toNat) - a1))), (5, .int (iI x2)), (6, .int (iI x3))]) hx hb dX12_truths_50 hl (by decide) rfl (fun ls hl => ?_)
        refine z_iconst hx hb dX12_truths_52 ?_
        refine lv_istore (lv' := [(9, .int (iI 0)), (8, .int (iI 0)), (7, .int (iI (a2 + z15))), (0, .ref (b + 0)), (1, .int (iI a0)), (3, .int (iI a2)), (4, .int (iI ((M 4 (sI a0).toNat) - a1))), (5, .int (iI x2)), (6, .int (iI x3))]) hx hb dX12_truths_53 hl (by decide) rfl (fun ls hl => ?_)
        obtain ⟨I20, ⟨n21, h22⟩, h23⟩ := h
        have L24 : ∀ (n25 : Nat) (x18 x19 : Int) (H : Heap) (locs : List Loc) (ls : Array Slot), I20 n25 x18 x19 → zR D dA vwCl wR nR b M H → va_S (zA nR b) s.heap H locs → lv_has ls 10 [(0, .ref (b + 0)), (1, .int (iI a0)), (3, .int (iI a2)), (4, .int (iI ((M 4 (sI a0).toNat) - a1))), (5, .int (iI x2)), (6, .int (iI x3)), (7, .int (iI (a2 + z15))), (8, .int (iI x18)), (9, .int (iI x19))] → W p l e (headSpec (.code yX12_truths cX12_truths 10 (some .int) :: zt) (z_rm 2)).room s m args below meth c H locs 0 0 (MQ below (va_Qi (wQi (fun z9 u9 => u9 = M ∧ Q z9)) (zB D dA vwCl wR nR b) (zA nR b)) args s 0 0 (zA nR b)) (F0 m 55 ls []) := by
          intro n25
          induction n25 using Nat.strongRecOn with
          | ind n25 i26 =>
            intro x18 x19 H locs ls h hS hS0 hl
            have h := h23 n25 x18 x19 h
            refine lv_iload hx hb dX12_truths_55 (lv_at hl 8 rfl) ?_
            refine z_bipush hx hb (by decide) dX12_truths_57 ?_
            refine w_icmp_ge (tgt := 127) hx hb rfl (sI_of (by decide)) dX12_truths_59 (by decide) (fun c27 => ?_) (fun c27 => ?_)
            · skip
              have h := h.1 c27
              refine lv_iload hx hb dX12_truths_127 (lv_at hl 7 rfl) ?_
              refine w_if_eq (tgt := 141) hx hb rfl dX12_truths_129 (by decide) (fun c28 => ?_) (fun c28 => ?_)
              · skip
                have h := h.1 c28
                refine z_iinc (lv' := [(6, .int (iI (x3 + 1))), (0, .ref (b + 0)), (1, .int (iI a0)), (3, .int (iI a2)), (4, .int (iI ((M 4 (sI a0).toNat) - a1))), (5, .int (iI x2)), (7, .int (iI (a2 + z15))), (8, .int (iI x18)), (9, .int (iI x19))]) hx hb dX12_truths_141 hl (k := 5) rfl (by decide) rfl (fun ls hl => ?_)
                refine lv_goto (tgt := 16) hx hb dX12_truths_144 (by decide) ?_
                obtain ⟨n29, h30, h⟩ := h
                exact i10 n29 h30 x2 (x3 + 1) _ _ _ h hS hS0 (lv_sub hl [1, 2, 3, 4, 5, 0] rfl)
              · skip
                have h := h.2 c28
                refine lv_iload hx hb dX12_truths_132 (lv_at hl 4 rfl) ?_
                refine z_iconst hx hb dX12_truths_134 ?_
                refine lv_iload hx hb dX12_truths_135 (lv_at hl 5 rfl) ?_
                refine w_ishl hx hb dX12_truths_137 ?_
                refine w_ior hx hb dX12_truths_138 ?_
                refine lv_istore (lv' := [(5, .int (iI (orI x2 (shlI 1 x3)))), (0, .ref (b + 0)), (1, .int (iI a0)), (3, .int (iI a2)), (4, .int (iI ((M 4 (sI a0).toNat) - a1))), (6, .int (iI x3)), (7, .int (iI (a2 + z15))), (8, .int (iI x18)), (9, .int (iI x19))]) hx hb dX12_truths_139 hl (by decide) rfl (fun ls hl => ?_)
                refine z_iinc (lv' := [(6, .int (iI (x3 + 1))), (5, .int (iI (orI x2 (shlI 1 x3)))), (0, .ref (b + 0)), (1, .int (iI a0)), (3, .int (iI a2)), (4, .int (iI ((M 4 (sI a0).toNat) - a1))), (7, .int (iI (a2 + z15))), (8, .int (iI x18)), (9, .int (iI x19))]) hx hb dX12_truths_141 hl (k := 5) rfl (by decide) rfl (fun ls hl => ?_)
                refine lv_goto (tgt := 16) hx hb dX12_truths_144 (by decide) ?_
                obtain ⟨n31, h32, h⟩ := h
                exact i10 n31 h32 (orI x2 (shlI 1 x3)) (x3 + 1) _ _ _ h hS hS0 (lv_sub hl [2, 3, 4, 5, 1, 0] rfl)
            · skip
              have h := h.2 c27
              refine lv_aload_n hx hb dX12_truths_62 rfl (lv_at hl 0 rfl) ?_
              refine w_getr (j2 := 7) hx hb hts (z_memU u12) hown hK.1 hS f12_8 (by decide) (zkd_of (rfl : zcd wR 0 = 50) rfl) (zrf_of (rfl : zcd wR 0 = 50) rfl) (Or.inl (hts _ (z_mem k952))) dX12_truths_63 ?_
              refine lv_iload_n hx hb dX12_truths_66 rfl (lv_at hl 1 rfl) ?_
              obtain ⟨o33, h⟩ := h
              refine w_iald (n := 4) (i := (sI a0)) hx hb hK.1 (t0 := 0) rfl hS (by decide) (zkd_of (rfl : zcd wR 7 = 57) rfl) (zln_of (rfl : zcd wR 7 = 57) rfl) rfl o33.1 o33.2 (by decide) dX12_truths_67 ?_
              refine lv_iload hx hb dX12_truths_68 (lv_at hl 8 rfl) ?_
              refine w_ishr hx hb dX12_truths_70 ?_
              refine z_iconst hx hb dX12_truths_71 ?_
              refine w_iand hx hb dX12_truths_72 ?_
              refine z_iconst hx hb dX12_truths_73 ?_
              refine w_icmp_ne (tgt := 121) hx hb (sI_of (andI_R _ _)) (sI_of (by decide)) dX12_truths_74 (by decide) (fun c34 => ?_) (fun c34 => ?_)
              · skip
                have h := h.1 c34
                refine z_iinc (lv' := [(9, .int (iI (x19 + 1))), (0, .ref (b + 0)), (1, .int (iI a0)), (3, .int (iI a2)), (4, .int (iI ((M 4 (sI a0).toNat) - a1))), (5, .int (iI x2)), (6, .int (iI x3)), (7, .int (iI (a2 + z15))), (8, .int (iI x18))]) hx hb dX12_truths_121 hl (k := 8) rfl (by decide) rfl (fun ls hl => ?_)
                refine lv_goto (tgt := 55) hx hb dX12_truths_124 (by decide) ?_
                obtain ⟨n35, h36, h⟩ := h
                exact i26 n35 h36 x18 (x19 + 1) _ _ _ h hS hS0 (lv_sub hl [1, 2, 3, 4, 5, 6, 7, 8, 0] rfl)
              · skip
                have h := h.2 c34
                refine lv_iload hx hb dX12_truths_77 (lv_at hl 7 rfl) ?_
                refine w_if_ne (tgt := 114) hx hb rfl dX12_truths_79 (by decide) (fun c37 => ?_) (fun c37 => ?_)
                · skip
                  have h := h.1 c37
                  refine z_iconst hx hb dX12_truths_114 ?_
                  refine lv_goto (tgt := 119) hx hb dX12_truths_115 (by decide) ?_
                  refine lv_istore (lv' := [(8, .int (iI 1)), (0, .ref (b + 0)), (1, .int (iI a0)), (3, .int (iI a2)), (4, .int (iI ((M 4 (sI a0).toNat) - a1))), (5, .int (iI x2)), (6, .int (iI x3)), (7, .int (iI (a2 + z15))), (9, .int (iI x19))]) hx hb dX12_truths_119 hl (by decide) rfl (fun ls hl => ?_)
                  refine z_iinc (lv' := [(9, .int (iI (x19 + 1))), (8, .int (iI 1)), (0, .ref (b + 0)), (1, .int (iI a0)), (3, .int (iI a2)), (4, .int (iI ((M 4 (sI a0).toNat) - a1))), (5, .int (iI x2)), (6, .int (iI x3)), (7, .int (iI (a2 + z15)))]) hx hb dX12_truths_121 hl (k := 8) rfl (by decide) rfl (fun ls hl => ?_)
                  refine lv_goto (tgt := 55) hx hb dX12_truths_124 (by decide) ?_
                  obtain ⟨n38, h39, h⟩ := h
                  exact i26 n38 h39 1 (x19 + 1) _ _ _ h hS hS0 (lv_sub hl [2, 3, 4, 5, 6, 7, 8, 1, 0] rfl)
                · skip
                  have h := h.2 c37
                  refine lv_aload_n hx hb dX12_truths_82 rfl (lv_at hl 0 rfl) ?_
                  refine w_getr (j2 := 3) hx hb hts (z_memU u12) hown hK.1 hS f12_4 (by decide) (zkd_of (rfl : zcd wR 0 = 50) rfl) (zrf_of (rfl : zcd wR 0 = 50) rfl) (Or.inl (hts _ (z_mem k948))) dX12_truths_83 ?_
                  refine z_bipush hx hb (by decide) dX12_truths_86 ?_
                  refine lv_iload_n hx hb dX12_truths_88 rfl (lv_at hl 1 rfl) ?_
                  refine z_imul hx hb dX12_truths_89 ?_
                  refine lv_iload hx hb dX12_truths_90 (lv_at hl 6 rfl) ?_
                  refine lv_iload hx hb dX12_truths_92 (lv_at hl 8 rfl) ?_
                  refine z_iadd hx hb dX12_truths_94 ?_
                  refine lv_iload hx hb dX12_truths_95 (lv_at hl 3 rfl) ?_
                  obtain ⟨o40, h⟩ := h
                  refine w_irem hx hb rfl rfl o40 dX12_truths_97 ?_
                  refine z_iadd hx hb dX12_truths_98 ?_
                  obtain ⟨o41, h⟩ := h
                  refine w_iald (n := 96) (i := (sI ((24 * a0) + ((sI ((a2 + z15) + x19)).tmod (sI ((M 4 (sI a0).toNat) - a1)))))) hx hb hK.1 (t0 := 0) rfl hS (by decide) (zkd_of (rfl : zcd wR 3 = 53) rfl) (zln_of (rfl : zcd wR 3 = 53) rfl) rfl o41.1 o41.2 (by decide) dX12_truths_99 ?_
                  refine lv_aload_n hx hb dX12_truths_100 rfl (lv_at hl 0 rfl) ?_
                  refine w_getr (j2 := 13) hx hb hts (z_memU u12) hown hK.1 hS f12_15 (by decide) (zkd_of (rfl : zcd wR 0 = 50) rfl) (zrf_of (rfl : zcd wR 0 = 50) rfl) (Or.inl (hts _ (z_mem k959))) dX12_truths_101 ?_
                  refine lv_iload hx hb dX12_truths_104 (lv_at hl 5 rfl) ?_
                  obtain ⟨o42, h⟩ := h
                  refine w_iald (n := 6) (i := (sI x3)) hx hb hK.1 (t0 := 0) rfl hS (by decide) (zkd_of (rfl : zcd wR 13 = 63) rfl) (zln_of (rfl : zcd wR 13 = 63) rfl) rfl o42.1 o42.2 (by decide) dX12_truths_106 ?_
                  refine w_ishr hx hb dX12_truths_107 ?_
                  refine z_iconst hx hb dX12_truths_108 ?_
                  refine w_iand hx hb dX12_truths_109 ?_
                  refine z_iconst hx hb dX12_truths_110 ?_
                  refine w_icmp_ne (tgt := 118) hx hb (sI_of (andI_R _ _)) (sI_of (by decide)) dX12_truths_111 (by decide) (fun c43 => ?_) (fun c43 => ?_)
                  · skip
                    have h := h.1 c43
                    refine z_iconst hx hb dX12_truths_118 ?_
                    refine lv_istore (lv' := [(8, .int (iI 0)), (0, .ref (b + 0)), (1, .int (iI a0)), (3, .int (iI a2)), (4, .int (iI ((M 4 (sI a0).toNat) - a1))), (5, .int (iI x2)), (6, .int (iI x3)), (7, .int (iI (a2 + z15))), (9, .int (iI x19))]) hx hb dX12_truths_119 hl (by decide) rfl (fun ls hl => ?_)
                    refine z_iinc (lv' := [(9, .int (iI (x19 + 1))), (8, .int (iI 0)), (0, .ref (b + 0)), (1, .int (iI a0)), (3, .int (iI a2)), (4, .int (iI ((M 4 (sI a0).toNat) - a1))), (5, .int (iI x2)), (6, .int (iI x3)), (7, .int (iI (a2 + z15)))]) hx hb dX12_truths_121 hl (k := 8) rfl (by decide) rfl (fun ls hl => ?_)
                    refine lv_goto (tgt := 55) hx hb dX12_truths_124 (by decide) ?_
                    obtain ⟨n44, h45, h⟩ := h
                    exact i26 n44 h45 0 (x19 + 1) _ _ _ h hS hS0 (lv_sub hl [2, 3, 4, 5, 6, 7, 8, 1, 0] rfl)
                  · skip
                    have h := h.2 c43
                    refine z_iconst hx hb dX12_truths_114 ?_
                    refine lv_goto (tgt := 119) hx hb dX12_truths_115 (by decide) ?_
                    refine lv_istore (lv' := [(8, .int (iI 1)), (0, .ref (b + 0)), (1, .int (iI a0)), (3, .int (iI a2)), (4, .int (iI ((M 4 (sI a0).toNat) - a1))), (5, .int (iI x2)), (6, .int (iI x3)), (7, .int (iI (a2 + z15))), (9, .int (iI x19))]) hx hb dX12_truths_119 hl (by decide) rfl (fun ls hl => ?_)
                    refine z_iinc (lv' := [(9, .int (iI (x19 + 1))), (8, .int (iI 1)), (0, .ref (b + 0)), (1, .int (iI a0)), (3, .int (iI a2)), (4, .int (iI ((M 4 (sI a0).toNat) - a1))), (5, .int (iI x2)), (6, .int (iI x3)), (7, .int (iI (a2 + z15)))]) hx hb dX12_truths_121 hl (k := 8) rfl (by decide) rfl (fun ls hl => ?_)
                    refine lv_goto (tgt := 55) hx hb dX12_truths_124 (by decide) ?_
                    obtain ⟨n46, h47, h⟩ := h
                    exact i26 n46 h47 1 (x19 + 1) _ _ _ h hS hS0 (lv_sub hl [2, 3, 4, 5, 6, 7, 8, 1, 0] rfl)
        exact L24 n21 0 0 _ _ _ h22 hS hS0 (lv_sub hl [3, 4, 5, 6, 7, 8, 2, 1, 0] rfl)
  exact L8 n5 0 0 _ _ _ h6 hS hS0 (lv_sub hl [3, 4, 6, 2, 1, 0] rfl)
end zz10_w18
section zz10_w19
/-! the W layer, 19 -/
theorem q10w19_0_0 : (cX12_costOf.data.toList.drop 0).take 16 = [8, 28, 104, 29, 42, 180, 0, 26, 27, 46, 100, 184, 0, 198, 96, 172] := by decide +kernel
theorem dX12_costOf_0 : decode cX12_costOf 0 = .ok (.iconst 5, 1) := dz_8 (dz_at q10w19_0_0 0)
theorem dX12_costOf_1 : decode cX12_costOf 1 = .ok (.iload_n 2, 1) := dz_28 (dz_at q10w19_0_0 1)
theorem dX12_costOf_10 : decode cX12_costOf 10 = .ok (.isub, 1) := dz_100 (dz_at q10w19_0_0 10)
theorem dX12_costOf_11 : decode cX12_costOf 11 = .ok (.invokestatic 198, 3) := dz_184 (dz_at q10w19_0_0 11) rfl
theorem dX12_costOf_14 : decode cX12_costOf 14 = .ok (.iadd, 1) := dz_96 (dz_at q10w19_0_0 14)
theorem dX12_costOf_15 : decode cX12_costOf 15 = .ok (.ireturn, 1) := dz_172 (dz_at q10w19_0_0 15)
theorem dX12_costOf_2 : decode cX12_costOf 2 = .ok (.imul, 1) := dz_104 (dz_at q10w19_0_0 2)
theorem dX12_costOf_3 : decode cX12_costOf 3 = .ok (.iload_n 3, 1) := dz_29 (dz_at q10w19_0_0 3)
theorem dX12_costOf_4 : decode cX12_costOf 4 = .ok (.aload_n 0, 1) := dz_42 (dz_at q10w19_0_0 4)
theorem dX12_costOf_5 : decode cX12_costOf 5 = .ok (.getfield 26, 3) := dz_180 (dz_at q10w19_0_0 5) rfl
theorem dX12_costOf_8 : decode cX12_costOf 8 = .ok (.iload_n 1, 1) := dz_27 (dz_at q10w19_0_0 8)
theorem dX12_costOf_9 : decode cX12_costOf 9 = .ok (.iaload, 1) := dz_46 (dz_at q10w19_0_0 9)
theorem q10w19_1_0 : (cX12_findPlan.data.toList.drop 0).take 24 = [4, 42, 180, 0, 176, 120, 60, 3, 61, 28, 27, 162, 0, 34, 42, 180, 0, 100, 16, 64, 42, 180, 0, 121] := by decide +kernel
theorem q10w19_1_24 : (cX12_findPlan.data.toList.drop 24).take 22 = [104, 28, 96, 28, 154, 0, 7, 3, 167, 0, 6, 19, 1, 11, 79, 132, 2, 1, 167, 255, 223, 42] := by decide +kernel
theorem q10w19_1_46 : (cX12_findPlan.data.toList.drop 46).take 24 = [180, 0, 121, 4, 100, 61, 28, 155, 0, 179, 3, 62, 29, 27, 162, 0, 23, 42, 180, 0, 100, 16, 64, 28] := by decide +kernel
theorem q10w19_1_70 : (cX12_findPlan.data.toList.drop 70).take 22 = [104, 29, 96, 19, 1, 11, 79, 132, 3, 1, 167, 255, 234, 3, 62, 29, 42, 180, 0, 20, 28, 46] := by decide +kernel
theorem q10w19_1_92 : (cX12_findPlan.data.toList.drop 92).take 24 = [162, 0, 134, 3, 54, 4, 21, 4, 42, 180, 0, 20, 28, 46, 29, 100, 162, 0, 112, 42, 28, 29, 21, 4] := by decide +kernel
theorem q10w19_1_116 : (cX12_findPlan.data.toList.drop 116).take 24 = [182, 1, 7, 54, 5, 42, 180, 0, 103, 16, 24, 16, 24, 28, 104, 29, 96, 104, 21, 4, 96, 21, 5, 79] := by decide +kernel
theorem q10w19_1_140 : (cX12_findPlan.data.toList.drop 140).take 24 = [3, 54, 6, 21, 6, 27, 162, 0, 68, 42, 28, 29, 21, 4, 182, 1, 12, 42, 180, 0, 100, 16, 64, 28] := by decide +kernel
theorem q10w19_1_164 : (cX12_findPlan.data.toList.drop 164).take 23 = [4, 96, 104, 21, 6, 21, 5, 2, 130, 126, 96, 46, 96, 54, 7, 42, 180, 0, 100, 16, 64, 28, 104] := by decide +kernel
theorem q10w19_1_187 : (cX12_findPlan.data.toList.drop 187).take 24 = [21, 6, 96, 42, 180, 0, 100, 16, 64, 28, 104, 21, 6, 96, 46, 21, 7, 184, 1, 15, 79, 132, 6, 1] := by decide +kernel
theorem q10w19_1_211 : (cX12_findPlan.data.toList.drop 211).take 22 = [167, 255, 188, 132, 4, 1, 167, 255, 137, 132, 3, 1, 167, 255, 118, 132, 2, 255, 167, 255, 79, 42] := by decide +kernel
theorem q10w19_1_233 : (cX12_findPlan.data.toList.drop 233).take 24 = [180, 0, 100, 27, 4, 100, 46, 61, 28, 19, 1, 11, 161, 0, 5, 2, 172, 27, 4, 100, 62, 3, 54, 4] := by decide +kernel
theorem q10w19_1_257 : (cX12_findPlan.data.toList.drop 257).take 24 = [21, 4, 42, 180, 0, 121, 162, 0, 166, 3, 54, 5, 3, 54, 6, 21, 6, 42, 180, 0, 20, 21, 4, 46] := by decide +kernel
theorem q10w19_1_281 : (cX12_findPlan.data.toList.drop 281).take 23 = [162, 0, 142, 21, 5, 154, 0, 137, 3, 54, 7, 21, 7, 42, 180, 0, 20, 21, 4, 46, 21, 6, 100] := by decide +kernel
theorem q10w19_1_304 : (cX12_findPlan.data.toList.drop 304).take 24 = [162, 0, 113, 21, 5, 154, 0, 108, 29, 42, 180, 0, 103, 16, 24, 16, 24, 21, 4, 104, 21, 6, 96, 104] := by decide +kernel
theorem q10w19_1_328 : (cX12_findPlan.data.toList.drop 328).take 23 = [21, 7, 96, 46, 2, 130, 126, 54, 8, 42, 21, 4, 21, 6, 21, 7, 182, 1, 12, 42, 180, 0, 100] := by decide +kernel
theorem q10w19_1_351 : (cX12_findPlan.data.toList.drop 351).take 24 = [16, 64, 21, 4, 4, 96, 104, 21, 8, 96, 46, 96, 42, 180, 0, 100, 16, 64, 21, 4, 104, 29, 96, 46] := by decide +kernel
theorem q10w19_1_375 : (cX12_findPlan.data.toList.drop 375).take 24 = [159, 0, 6, 167, 0, 33, 42, 180, 0, 81, 5, 21, 4, 104, 21, 6, 79, 42, 180, 0, 81, 5, 21, 4] := by decide +kernel
theorem q10w19_1_399 : (cX12_findPlan.data.toList.drop 399).take 24 = [104, 4, 96, 21, 7, 79, 21, 8, 62, 4, 54, 5, 132, 7, 1, 167, 255, 134, 132, 6, 1, 167, 255, 108] := by decide +kernel
theorem q10w19_1_423 : (cX12_findPlan.data.toList.drop 423).take 18 = [132, 4, 1, 167, 255, 87, 42, 5, 42, 180, 0, 121, 104, 181, 0, 188, 28, 172] := by decide +kernel
theorem dX12_findPlan_0 : decode cX12_findPlan 0 = .ok (.iconst 1, 1) := dz_4 (dz_at q10w19_1_0 0)
theorem dX12_findPlan_1 : decode cX12_findPlan 1 = .ok (.aload_n 0, 1) := dz_42 (dz_at q10w19_1_0 1)
theorem dX12_findPlan_10 : decode cX12_findPlan 10 = .ok (.iload_n 1, 1) := dz_27 (dz_at q10w19_1_0 10)
theorem dX12_findPlan_100 : decode cX12_findPlan 100 = .ok (.aload_n 0, 1) := dz_42 (dz_at q10w19_1_92 8)
theorem dX12_findPlan_101 : decode cX12_findPlan 101 = .ok (.getfield 20, 3) := dz_180 (dz_at q10w19_1_92 9) rfl
theorem dX12_findPlan_104 : decode cX12_findPlan 104 = .ok (.iload_n 2, 1) := dz_28 (dz_at q10w19_1_92 12)
theorem dX12_findPlan_105 : decode cX12_findPlan 105 = .ok (.iaload, 1) := dz_46 (dz_at q10w19_1_92 13)
theorem dX12_findPlan_106 : decode cX12_findPlan 106 = .ok (.iload_n 3, 1) := dz_29 (dz_at q10w19_1_92 14)
theorem dX12_findPlan_107 : decode cX12_findPlan 107 = .ok (.isub, 1) := dz_100 (dz_at q10w19_1_92 15)
theorem dX12_findPlan_108 : decode cX12_findPlan 108 = .ok (.if_icmp .ge 112, 3) := dz_162 (dz_at q10w19_1_92 16) (by decide +kernel)
theorem dX12_findPlan_11 : decode cX12_findPlan 11 = .ok (.if_icmp .ge 34, 3) := dz_162 (dz_at q10w19_1_0 11) (by decide +kernel)
theorem dX12_findPlan_111 : decode cX12_findPlan 111 = .ok (.aload_n 0, 1) := dz_42 (dz_at q10w19_1_92 19)
theorem dX12_findPlan_112 : decode cX12_findPlan 112 = .ok (.iload_n 2, 1) := dz_28 (dz_at q10w19_1_92 20)
theorem dX12_findPlan_113 : decode cX12_findPlan 113 = .ok (.iload_n 3, 1) := dz_29 (dz_at q10w19_1_92 21)
theorem dX12_findPlan_114 : decode cX12_findPlan 114 = .ok (.iload 4, 2) := dz_21 (dz_at q10w19_1_92 22)
theorem dX12_findPlan_116 : decode cX12_findPlan 116 = .ok (.invokevirtual 263, 3) := dz_182 (dz_at q10w19_1_116 0) rfl
theorem dX12_findPlan_119 : decode cX12_findPlan 119 = .ok (.istore 5, 2) := dz_54 (dz_at q10w19_1_116 3)
theorem dX12_findPlan_121 : decode cX12_findPlan 121 = .ok (.aload_n 0, 1) := dz_42 (dz_at q10w19_1_116 5)
theorem dX12_findPlan_122 : decode cX12_findPlan 122 = .ok (.getfield 103, 3) := dz_180 (dz_at q10w19_1_116 6) rfl
theorem dX12_findPlan_125 : decode cX12_findPlan 125 = .ok (.bipush 24, 2) := dz_16 (dz_at q10w19_1_116 9) (by decide +kernel)
theorem dX12_findPlan_127 : decode cX12_findPlan 127 = .ok (.bipush 24, 2) := dz_16 (dz_at q10w19_1_116 11) (by decide +kernel)
theorem dX12_findPlan_129 : decode cX12_findPlan 129 = .ok (.iload_n 2, 1) := dz_28 (dz_at q10w19_1_116 13)
theorem dX12_findPlan_130 : decode cX12_findPlan 130 = .ok (.imul, 1) := dz_104 (dz_at q10w19_1_116 14)
theorem dX12_findPlan_131 : decode cX12_findPlan 131 = .ok (.iload_n 3, 1) := dz_29 (dz_at q10w19_1_116 15)
theorem dX12_findPlan_132 : decode cX12_findPlan 132 = .ok (.iadd, 1) := dz_96 (dz_at q10w19_1_116 16)
theorem dX12_findPlan_133 : decode cX12_findPlan 133 = .ok (.imul, 1) := dz_104 (dz_at q10w19_1_116 17)
theorem dX12_findPlan_134 : decode cX12_findPlan 134 = .ok (.iload 4, 2) := dz_21 (dz_at q10w19_1_116 18)
theorem dX12_findPlan_136 : decode cX12_findPlan 136 = .ok (.iadd, 1) := dz_96 (dz_at q10w19_1_116 20)
theorem dX12_findPlan_137 : decode cX12_findPlan 137 = .ok (.iload 5, 2) := dz_21 (dz_at q10w19_1_116 21)
theorem dX12_findPlan_139 : decode cX12_findPlan 139 = .ok (.iastore, 1) := dz_79 (dz_at q10w19_1_116 23)
theorem dX12_findPlan_14 : decode cX12_findPlan 14 = .ok (.aload_n 0, 1) := dz_42 (dz_at q10w19_1_0 14)
theorem dX12_findPlan_140 : decode cX12_findPlan 140 = .ok (.iconst 0, 1) := dz_3 (dz_at q10w19_1_140 0)
theorem dX12_findPlan_141 : decode cX12_findPlan 141 = .ok (.istore 6, 2) := dz_54 (dz_at q10w19_1_140 1)
theorem dX12_findPlan_143 : decode cX12_findPlan 143 = .ok (.iload 6, 2) := dz_21 (dz_at q10w19_1_140 3)
theorem dX12_findPlan_145 : decode cX12_findPlan 145 = .ok (.iload_n 1, 1) := dz_27 (dz_at q10w19_1_140 5)
theorem dX12_findPlan_146 : decode cX12_findPlan 146 = .ok (.if_icmp .ge 68, 3) := dz_162 (dz_at q10w19_1_140 6) (by decide +kernel)
theorem dX12_findPlan_149 : decode cX12_findPlan 149 = .ok (.aload_n 0, 1) := dz_42 (dz_at q10w19_1_140 9)
theorem dX12_findPlan_15 : decode cX12_findPlan 15 = .ok (.getfield 100, 3) := dz_180 (dz_at q10w19_1_0 15) rfl
theorem dX12_findPlan_150 : decode cX12_findPlan 150 = .ok (.iload_n 2, 1) := dz_28 (dz_at q10w19_1_140 10)
theorem dX12_findPlan_151 : decode cX12_findPlan 151 = .ok (.iload_n 3, 1) := dz_29 (dz_at q10w19_1_140 11)
theorem dX12_findPlan_152 : decode cX12_findPlan 152 = .ok (.iload 4, 2) := dz_21 (dz_at q10w19_1_140 12)
theorem dX12_findPlan_154 : decode cX12_findPlan 154 = .ok (.invokevirtual 268, 3) := dz_182 (dz_at q10w19_1_140 14) rfl
theorem dX12_findPlan_157 : decode cX12_findPlan 157 = .ok (.aload_n 0, 1) := dz_42 (dz_at q10w19_1_140 17)
theorem dX12_findPlan_158 : decode cX12_findPlan 158 = .ok (.getfield 100, 3) := dz_180 (dz_at q10w19_1_140 18) rfl
theorem dX12_findPlan_161 : decode cX12_findPlan 161 = .ok (.bipush 64, 2) := dz_16 (dz_at q10w19_1_140 21) (by decide +kernel)
theorem dX12_findPlan_163 : decode cX12_findPlan 163 = .ok (.iload_n 2, 1) := dz_28 (dz_at q10w19_1_140 23)
theorem dX12_findPlan_164 : decode cX12_findPlan 164 = .ok (.iconst 1, 1) := dz_4 (dz_at q10w19_1_164 0)
theorem dX12_findPlan_165 : decode cX12_findPlan 165 = .ok (.iadd, 1) := dz_96 (dz_at q10w19_1_164 1)
theorem dX12_findPlan_166 : decode cX12_findPlan 166 = .ok (.imul, 1) := dz_104 (dz_at q10w19_1_164 2)
theorem dX12_findPlan_167 : decode cX12_findPlan 167 = .ok (.iload 6, 2) := dz_21 (dz_at q10w19_1_164 3)
theorem dX12_findPlan_169 : decode cX12_findPlan 169 = .ok (.iload 5, 2) := dz_21 (dz_at q10w19_1_164 5)
theorem dX12_findPlan_171 : decode cX12_findPlan 171 = .ok (.iconst (-1), 1) := dz_2 (dz_at q10w19_1_164 7)
theorem dX12_findPlan_172 : decode cX12_findPlan 172 = .ok (.ixor, 1) := dz_130 (dz_at q10w19_1_164 8)
theorem dX12_findPlan_173 : decode cX12_findPlan 173 = .ok (.iand, 1) := dz_126 (dz_at q10w19_1_164 9)
theorem dX12_findPlan_174 : decode cX12_findPlan 174 = .ok (.iadd, 1) := dz_96 (dz_at q10w19_1_164 10)
theorem dX12_findPlan_175 : decode cX12_findPlan 175 = .ok (.iaload, 1) := dz_46 (dz_at q10w19_1_164 11)
theorem dX12_findPlan_176 : decode cX12_findPlan 176 = .ok (.iadd, 1) := dz_96 (dz_at q10w19_1_164 12)
theorem dX12_findPlan_177 : decode cX12_findPlan 177 = .ok (.istore 7, 2) := dz_54 (dz_at q10w19_1_164 13)
theorem dX12_findPlan_179 : decode cX12_findPlan 179 = .ok (.aload_n 0, 1) := dz_42 (dz_at q10w19_1_164 15)
theorem dX12_findPlan_18 : decode cX12_findPlan 18 = .ok (.bipush 64, 2) := dz_16 (dz_at q10w19_1_0 18) (by decide +kernel)
theorem dX12_findPlan_180 : decode cX12_findPlan 180 = .ok (.getfield 100, 3) := dz_180 (dz_at q10w19_1_164 16) rfl
theorem dX12_findPlan_183 : decode cX12_findPlan 183 = .ok (.bipush 64, 2) := dz_16 (dz_at q10w19_1_164 19) (by decide +kernel)
theorem dX12_findPlan_185 : decode cX12_findPlan 185 = .ok (.iload_n 2, 1) := dz_28 (dz_at q10w19_1_164 21)
theorem dX12_findPlan_186 : decode cX12_findPlan 186 = .ok (.imul, 1) := dz_104 (dz_at q10w19_1_164 22)
theorem dX12_findPlan_187 : decode cX12_findPlan 187 = .ok (.iload 6, 2) := dz_21 (dz_at q10w19_1_187 0)
theorem dX12_findPlan_189 : decode cX12_findPlan 189 = .ok (.iadd, 1) := dz_96 (dz_at q10w19_1_187 2)
theorem dX12_findPlan_190 : decode cX12_findPlan 190 = .ok (.aload_n 0, 1) := dz_42 (dz_at q10w19_1_187 3)
theorem dX12_findPlan_191 : decode cX12_findPlan 191 = .ok (.getfield 100, 3) := dz_180 (dz_at q10w19_1_187 4) rfl
theorem dX12_findPlan_194 : decode cX12_findPlan 194 = .ok (.bipush 64, 2) := dz_16 (dz_at q10w19_1_187 7) (by decide +kernel)
theorem dX12_findPlan_196 : decode cX12_findPlan 196 = .ok (.iload_n 2, 1) := dz_28 (dz_at q10w19_1_187 9)
theorem dX12_findPlan_197 : decode cX12_findPlan 197 = .ok (.imul, 1) := dz_104 (dz_at q10w19_1_187 10)
theorem dX12_findPlan_198 : decode cX12_findPlan 198 = .ok (.iload 6, 2) := dz_21 (dz_at q10w19_1_187 11)
theorem dX12_findPlan_2 : decode cX12_findPlan 2 = .ok (.getfield 176, 3) := dz_180 (dz_at q10w19_1_0 2) rfl
theorem dX12_findPlan_20 : decode cX12_findPlan 20 = .ok (.aload_n 0, 1) := dz_42 (dz_at q10w19_1_0 20)
theorem dX12_findPlan_200 : decode cX12_findPlan 200 = .ok (.iadd, 1) := dz_96 (dz_at q10w19_1_187 13)
theorem dX12_findPlan_201 : decode cX12_findPlan 201 = .ok (.iaload, 1) := dz_46 (dz_at q10w19_1_187 14)
theorem dX12_findPlan_202 : decode cX12_findPlan 202 = .ok (.iload 7, 2) := dz_21 (dz_at q10w19_1_187 15)
theorem dX12_findPlan_204 : decode cX12_findPlan 204 = .ok (.invokestatic 271, 3) := dz_184 (dz_at q10w19_1_187 17) rfl
theorem dX12_findPlan_207 : decode cX12_findPlan 207 = .ok (.iastore, 1) := dz_79 (dz_at q10w19_1_187 20)
theorem dX12_findPlan_208 : decode cX12_findPlan 208 = .ok (.iinc 6 1, 3) := dz_132 (dz_at q10w19_1_187 21) (by decide +kernel)
theorem dX12_findPlan_21 : decode cX12_findPlan 21 = .ok (.getfield 121, 3) := dz_180 (dz_at q10w19_1_0 21) rfl
theorem dX12_findPlan_211 : decode cX12_findPlan 211 = .ok (.goto (-68), 3) := dz_167 (dz_at q10w19_1_211 0) (by decide +kernel)
theorem dX12_findPlan_214 : decode cX12_findPlan 214 = .ok (.iinc 4 1, 3) := dz_132 (dz_at q10w19_1_211 3) (by decide +kernel)
theorem dX12_findPlan_217 : decode cX12_findPlan 217 = .ok (.goto (-119), 3) := dz_167 (dz_at q10w19_1_211 6) (by decide +kernel)
theorem dX12_findPlan_220 : decode cX12_findPlan 220 = .ok (.iinc 3 1, 3) := dz_132 (dz_at q10w19_1_211 9) (by decide +kernel)
theorem dX12_findPlan_223 : decode cX12_findPlan 223 = .ok (.goto (-138), 3) := dz_167 (dz_at q10w19_1_211 12) (by decide +kernel)
theorem dX12_findPlan_226 : decode cX12_findPlan 226 = .ok (.iinc 2 (-1), 3) := dz_132 (dz_at q10w19_1_211 15) (by decide +kernel)
theorem dX12_findPlan_229 : decode cX12_findPlan 229 = .ok (.goto (-177), 3) := dz_167 (dz_at q10w19_1_211 18) (by decide +kernel)
theorem dX12_findPlan_232 : decode cX12_findPlan 232 = .ok (.aload_n 0, 1) := dz_42 (dz_at q10w19_1_211 21)
theorem dX12_findPlan_233 : decode cX12_findPlan 233 = .ok (.getfield 100, 3) := dz_180 (dz_at q10w19_1_233 0) rfl
theorem dX12_findPlan_236 : decode cX12_findPlan 236 = .ok (.iload_n 1, 1) := dz_27 (dz_at q10w19_1_233 3)
theorem dX12_findPlan_237 : decode cX12_findPlan 237 = .ok (.iconst 1, 1) := dz_4 (dz_at q10w19_1_233 4)
theorem dX12_findPlan_238 : decode cX12_findPlan 238 = .ok (.isub, 1) := dz_100 (dz_at q10w19_1_233 5)
theorem dX12_findPlan_239 : decode cX12_findPlan 239 = .ok (.iaload, 1) := dz_46 (dz_at q10w19_1_233 6)
theorem dX12_findPlan_24 : decode cX12_findPlan 24 = .ok (.imul, 1) := dz_104 (dz_at q10w19_1_24 0)
theorem dX12_findPlan_240 : decode cX12_findPlan 240 = .ok (.istore_n 2, 1) := dz_61 (dz_at q10w19_1_233 7)
theorem dX12_findPlan_241 : decode cX12_findPlan 241 = .ok (.iload_n 2, 1) := dz_28 (dz_at q10w19_1_233 8)
theorem dX12_findPlan_242 : decode cX12_findPlan 242 = .ok (.ldc_w 267, 3) := dz_19 (dz_at q10w19_1_233 9) rfl
theorem dX12_findPlan_245 : decode cX12_findPlan 245 = .ok (.if_icmp .lt 5, 3) := dz_161 (dz_at q10w19_1_233 12) (by decide +kernel)
theorem dX12_findPlan_248 : decode cX12_findPlan 248 = .ok (.iconst (-1), 1) := dz_2 (dz_at q10w19_1_233 15)
theorem dX12_findPlan_249 : decode cX12_findPlan 249 = .ok (.ireturn, 1) := dz_172 (dz_at q10w19_1_233 16)
theorem dX12_findPlan_25 : decode cX12_findPlan 25 = .ok (.iload_n 2, 1) := dz_28 (dz_at q10w19_1_24 1)
theorem dX12_findPlan_250 : decode cX12_findPlan 250 = .ok (.iload_n 1, 1) := dz_27 (dz_at q10w19_1_233 17)
theorem dX12_findPlan_251 : decode cX12_findPlan 251 = .ok (.iconst 1, 1) := dz_4 (dz_at q10w19_1_233 18)
theorem dX12_findPlan_252 : decode cX12_findPlan 252 = .ok (.isub, 1) := dz_100 (dz_at q10w19_1_233 19)
theorem dX12_findPlan_253 : decode cX12_findPlan 253 = .ok (.istore_n 3, 1) := dz_62 (dz_at q10w19_1_233 20)
theorem dX12_findPlan_254 : decode cX12_findPlan 254 = .ok (.iconst 0, 1) := dz_3 (dz_at q10w19_1_233 21)
theorem dX12_findPlan_255 : decode cX12_findPlan 255 = .ok (.istore 4, 2) := dz_54 (dz_at q10w19_1_233 22)
theorem dX12_findPlan_257 : decode cX12_findPlan 257 = .ok (.iload 4, 2) := dz_21 (dz_at q10w19_1_257 0)
theorem dX12_findPlan_259 : decode cX12_findPlan 259 = .ok (.aload_n 0, 1) := dz_42 (dz_at q10w19_1_257 2)
theorem dX12_findPlan_26 : decode cX12_findPlan 26 = .ok (.iadd, 1) := dz_96 (dz_at q10w19_1_24 2)
theorem dX12_findPlan_260 : decode cX12_findPlan 260 = .ok (.getfield 121, 3) := dz_180 (dz_at q10w19_1_257 3) rfl
theorem dX12_findPlan_263 : decode cX12_findPlan 263 = .ok (.if_icmp .ge 166, 3) := dz_162 (dz_at q10w19_1_257 6) (by decide +kernel)
theorem dX12_findPlan_266 : decode cX12_findPlan 266 = .ok (.iconst 0, 1) := dz_3 (dz_at q10w19_1_257 9)
theorem dX12_findPlan_267 : decode cX12_findPlan 267 = .ok (.istore 5, 2) := dz_54 (dz_at q10w19_1_257 10)
theorem dX12_findPlan_269 : decode cX12_findPlan 269 = .ok (.iconst 0, 1) := dz_3 (dz_at q10w19_1_257 12)
theorem dX12_findPlan_27 : decode cX12_findPlan 27 = .ok (.iload_n 2, 1) := dz_28 (dz_at q10w19_1_24 3)
theorem dX12_findPlan_270 : decode cX12_findPlan 270 = .ok (.istore 6, 2) := dz_54 (dz_at q10w19_1_257 13)
theorem dX12_findPlan_272 : decode cX12_findPlan 272 = .ok (.iload 6, 2) := dz_21 (dz_at q10w19_1_257 15)
theorem dX12_findPlan_274 : decode cX12_findPlan 274 = .ok (.aload_n 0, 1) := dz_42 (dz_at q10w19_1_257 17)
theorem dX12_findPlan_275 : decode cX12_findPlan 275 = .ok (.getfield 20, 3) := dz_180 (dz_at q10w19_1_257 18) rfl
theorem dX12_findPlan_278 : decode cX12_findPlan 278 = .ok (.iload 4, 2) := dz_21 (dz_at q10w19_1_257 21)
theorem dX12_findPlan_28 : decode cX12_findPlan 28 = .ok (.ifCond .ne 7, 3) := dz_154 (dz_at q10w19_1_24 4) (by decide +kernel)
theorem dX12_findPlan_280 : decode cX12_findPlan 280 = .ok (.iaload, 1) := dz_46 (dz_at q10w19_1_257 23)
theorem dX12_findPlan_281 : decode cX12_findPlan 281 = .ok (.if_icmp .ge 142, 3) := dz_162 (dz_at q10w19_1_281 0) (by decide +kernel)
theorem dX12_findPlan_284 : decode cX12_findPlan 284 = .ok (.iload 5, 2) := dz_21 (dz_at q10w19_1_281 3)
theorem dX12_findPlan_286 : decode cX12_findPlan 286 = .ok (.ifCond .ne 137, 3) := dz_154 (dz_at q10w19_1_281 5) (by decide +kernel)
theorem dX12_findPlan_289 : decode cX12_findPlan 289 = .ok (.iconst 0, 1) := dz_3 (dz_at q10w19_1_281 8)
theorem dX12_findPlan_290 : decode cX12_findPlan 290 = .ok (.istore 7, 2) := dz_54 (dz_at q10w19_1_281 9)
theorem dX12_findPlan_292 : decode cX12_findPlan 292 = .ok (.iload 7, 2) := dz_21 (dz_at q10w19_1_281 11)
theorem dX12_findPlan_294 : decode cX12_findPlan 294 = .ok (.aload_n 0, 1) := dz_42 (dz_at q10w19_1_281 13)
theorem dX12_findPlan_295 : decode cX12_findPlan 295 = .ok (.getfield 20, 3) := dz_180 (dz_at q10w19_1_281 14) rfl
theorem dX12_findPlan_298 : decode cX12_findPlan 298 = .ok (.iload 4, 2) := dz_21 (dz_at q10w19_1_281 17)
theorem dX12_findPlan_300 : decode cX12_findPlan 300 = .ok (.iaload, 1) := dz_46 (dz_at q10w19_1_281 19)
theorem dX12_findPlan_301 : decode cX12_findPlan 301 = .ok (.iload 6, 2) := dz_21 (dz_at q10w19_1_281 20)
theorem dX12_findPlan_303 : decode cX12_findPlan 303 = .ok (.isub, 1) := dz_100 (dz_at q10w19_1_281 22)
theorem dX12_findPlan_304 : decode cX12_findPlan 304 = .ok (.if_icmp .ge 113, 3) := dz_162 (dz_at q10w19_1_304 0) (by decide +kernel)
theorem dX12_findPlan_307 : decode cX12_findPlan 307 = .ok (.iload 5, 2) := dz_21 (dz_at q10w19_1_304 3)
theorem dX12_findPlan_309 : decode cX12_findPlan 309 = .ok (.ifCond .ne 108, 3) := dz_154 (dz_at q10w19_1_304 5) (by decide +kernel)
theorem dX12_findPlan_31 : decode cX12_findPlan 31 = .ok (.iconst 0, 1) := dz_3 (dz_at q10w19_1_24 7)
theorem dX12_findPlan_312 : decode cX12_findPlan 312 = .ok (.iload_n 3, 1) := dz_29 (dz_at q10w19_1_304 8)
theorem dX12_findPlan_313 : decode cX12_findPlan 313 = .ok (.aload_n 0, 1) := dz_42 (dz_at q10w19_1_304 9)
theorem dX12_findPlan_314 : decode cX12_findPlan 314 = .ok (.getfield 103, 3) := dz_180 (dz_at q10w19_1_304 10) rfl
theorem dX12_findPlan_317 : decode cX12_findPlan 317 = .ok (.bipush 24, 2) := dz_16 (dz_at q10w19_1_304 13) (by decide +kernel)
theorem dX12_findPlan_319 : decode cX12_findPlan 319 = .ok (.bipush 24, 2) := dz_16 (dz_at q10w19_1_304 15) (by decide +kernel)
theorem dX12_findPlan_32 : decode cX12_findPlan 32 = .ok (.goto 6, 3) := dz_167 (dz_at q10w19_1_24 8) (by decide +kernel)
theorem dX12_findPlan_321 : decode cX12_findPlan 321 = .ok (.iload 4, 2) := dz_21 (dz_at q10w19_1_304 17)
theorem dX12_findPlan_323 : decode cX12_findPlan 323 = .ok (.imul, 1) := dz_104 (dz_at q10w19_1_304 19)
theorem dX12_findPlan_324 : decode cX12_findPlan 324 = .ok (.iload 6, 2) := dz_21 (dz_at q10w19_1_304 20)
theorem dX12_findPlan_326 : decode cX12_findPlan 326 = .ok (.iadd, 1) := dz_96 (dz_at q10w19_1_304 22)
theorem dX12_findPlan_327 : decode cX12_findPlan 327 = .ok (.imul, 1) := dz_104 (dz_at q10w19_1_304 23)
theorem dX12_findPlan_328 : decode cX12_findPlan 328 = .ok (.iload 7, 2) := dz_21 (dz_at q10w19_1_328 0)
theorem dX12_findPlan_330 : decode cX12_findPlan 330 = .ok (.iadd, 1) := dz_96 (dz_at q10w19_1_328 2)
theorem dX12_findPlan_331 : decode cX12_findPlan 331 = .ok (.iaload, 1) := dz_46 (dz_at q10w19_1_328 3)
theorem dX12_findPlan_332 : decode cX12_findPlan 332 = .ok (.iconst (-1), 1) := dz_2 (dz_at q10w19_1_328 4)
theorem dX12_findPlan_333 : decode cX12_findPlan 333 = .ok (.ixor, 1) := dz_130 (dz_at q10w19_1_328 5)
theorem dX12_findPlan_334 : decode cX12_findPlan 334 = .ok (.iand, 1) := dz_126 (dz_at q10w19_1_328 6)
theorem dX12_findPlan_335 : decode cX12_findPlan 335 = .ok (.istore 8, 2) := dz_54 (dz_at q10w19_1_328 7)
theorem dX12_findPlan_337 : decode cX12_findPlan 337 = .ok (.aload_n 0, 1) := dz_42 (dz_at q10w19_1_328 9)
theorem dX12_findPlan_338 : decode cX12_findPlan 338 = .ok (.iload 4, 2) := dz_21 (dz_at q10w19_1_328 10)
theorem dX12_findPlan_340 : decode cX12_findPlan 340 = .ok (.iload 6, 2) := dz_21 (dz_at q10w19_1_328 12)
theorem dX12_findPlan_342 : decode cX12_findPlan 342 = .ok (.iload 7, 2) := dz_21 (dz_at q10w19_1_328 14)
theorem dX12_findPlan_344 : decode cX12_findPlan 344 = .ok (.invokevirtual 268, 3) := dz_182 (dz_at q10w19_1_328 16) rfl
theorem dX12_findPlan_347 : decode cX12_findPlan 347 = .ok (.aload_n 0, 1) := dz_42 (dz_at q10w19_1_328 19)
theorem dX12_findPlan_348 : decode cX12_findPlan 348 = .ok (.getfield 100, 3) := dz_180 (dz_at q10w19_1_328 20) rfl
theorem dX12_findPlan_35 : decode cX12_findPlan 35 = .ok (.ldc_w 267, 3) := dz_19 (dz_at q10w19_1_24 11) rfl
theorem dX12_findPlan_351 : decode cX12_findPlan 351 = .ok (.bipush 64, 2) := dz_16 (dz_at q10w19_1_351 0) (by decide +kernel)
theorem dX12_findPlan_353 : decode cX12_findPlan 353 = .ok (.iload 4, 2) := dz_21 (dz_at q10w19_1_351 2)
theorem dX12_findPlan_355 : decode cX12_findPlan 355 = .ok (.iconst 1, 1) := dz_4 (dz_at q10w19_1_351 4)
theorem dX12_findPlan_356 : decode cX12_findPlan 356 = .ok (.iadd, 1) := dz_96 (dz_at q10w19_1_351 5)
theorem dX12_findPlan_357 : decode cX12_findPlan 357 = .ok (.imul, 1) := dz_104 (dz_at q10w19_1_351 6)
theorem dX12_findPlan_358 : decode cX12_findPlan 358 = .ok (.iload 8, 2) := dz_21 (dz_at q10w19_1_351 7)
theorem dX12_findPlan_360 : decode cX12_findPlan 360 = .ok (.iadd, 1) := dz_96 (dz_at q10w19_1_351 9)
theorem dX12_findPlan_361 : decode cX12_findPlan 361 = .ok (.iaload, 1) := dz_46 (dz_at q10w19_1_351 10)
theorem dX12_findPlan_362 : decode cX12_findPlan 362 = .ok (.iadd, 1) := dz_96 (dz_at q10w19_1_351 11)
theorem dX12_findPlan_363 : decode cX12_findPlan 363 = .ok (.aload_n 0, 1) := dz_42 (dz_at q10w19_1_351 12)
theorem dX12_findPlan_364 : decode cX12_findPlan 364 = .ok (.getfield 100, 3) := dz_180 (dz_at q10w19_1_351 13) rfl
theorem dX12_findPlan_367 : decode cX12_findPlan 367 = .ok (.bipush 64, 2) := dz_16 (dz_at q10w19_1_351 16) (by decide +kernel)
theorem dX12_findPlan_369 : decode cX12_findPlan 369 = .ok (.iload 4, 2) := dz_21 (dz_at q10w19_1_351 18)
theorem dX12_findPlan_371 : decode cX12_findPlan 371 = .ok (.imul, 1) := dz_104 (dz_at q10w19_1_351 20)
theorem dX12_findPlan_372 : decode cX12_findPlan 372 = .ok (.iload_n 3, 1) := dz_29 (dz_at q10w19_1_351 21)
theorem dX12_findPlan_373 : decode cX12_findPlan 373 = .ok (.iadd, 1) := dz_96 (dz_at q10w19_1_351 22)
theorem dX12_findPlan_374 : decode cX12_findPlan 374 = .ok (.iaload, 1) := dz_46 (dz_at q10w19_1_351 23)
theorem dX12_findPlan_375 : decode cX12_findPlan 375 = .ok (.if_icmp .eq 6, 3) := dz_159 (dz_at q10w19_1_375 0) (by decide +kernel)
theorem dX12_findPlan_378 : decode cX12_findPlan 378 = .ok (.goto 33, 3) := dz_167 (dz_at q10w19_1_375 3) (by decide +kernel)
theorem dX12_findPlan_38 : decode cX12_findPlan 38 = .ok (.iastore, 1) := dz_79 (dz_at q10w19_1_24 14)
theorem dX12_findPlan_381 : decode cX12_findPlan 381 = .ok (.aload_n 0, 1) := dz_42 (dz_at q10w19_1_375 6)
theorem dX12_findPlan_382 : decode cX12_findPlan 382 = .ok (.getfield 81, 3) := dz_180 (dz_at q10w19_1_375 7) rfl
theorem dX12_findPlan_385 : decode cX12_findPlan 385 = .ok (.iconst 2, 1) := dz_5 (dz_at q10w19_1_375 10)
theorem dX12_findPlan_386 : decode cX12_findPlan 386 = .ok (.iload 4, 2) := dz_21 (dz_at q10w19_1_375 11)
theorem dX12_findPlan_388 : decode cX12_findPlan 388 = .ok (.imul, 1) := dz_104 (dz_at q10w19_1_375 13)
theorem dX12_findPlan_389 : decode cX12_findPlan 389 = .ok (.iload 6, 2) := dz_21 (dz_at q10w19_1_375 14)
theorem dX12_findPlan_39 : decode cX12_findPlan 39 = .ok (.iinc 2 1, 3) := dz_132 (dz_at q10w19_1_24 15) (by decide +kernel)
theorem dX12_findPlan_391 : decode cX12_findPlan 391 = .ok (.iastore, 1) := dz_79 (dz_at q10w19_1_375 16)
theorem dX12_findPlan_392 : decode cX12_findPlan 392 = .ok (.aload_n 0, 1) := dz_42 (dz_at q10w19_1_375 17)
theorem dX12_findPlan_393 : decode cX12_findPlan 393 = .ok (.getfield 81, 3) := dz_180 (dz_at q10w19_1_375 18) rfl
theorem dX12_findPlan_396 : decode cX12_findPlan 396 = .ok (.iconst 2, 1) := dz_5 (dz_at q10w19_1_375 21)
theorem dX12_findPlan_397 : decode cX12_findPlan 397 = .ok (.iload 4, 2) := dz_21 (dz_at q10w19_1_375 22)
theorem dX12_findPlan_399 : decode cX12_findPlan 399 = .ok (.imul, 1) := dz_104 (dz_at q10w19_1_399 0)
theorem dX12_findPlan_400 : decode cX12_findPlan 400 = .ok (.iconst 1, 1) := dz_4 (dz_at q10w19_1_399 1)
theorem dX12_findPlan_401 : decode cX12_findPlan 401 = .ok (.iadd, 1) := dz_96 (dz_at q10w19_1_399 2)
theorem dX12_findPlan_402 : decode cX12_findPlan 402 = .ok (.iload 7, 2) := dz_21 (dz_at q10w19_1_399 3)
theorem dX12_findPlan_404 : decode cX12_findPlan 404 = .ok (.iastore, 1) := dz_79 (dz_at q10w19_1_399 5)
theorem dX12_findPlan_405 : decode cX12_findPlan 405 = .ok (.iload 8, 2) := dz_21 (dz_at q10w19_1_399 6)
theorem dX12_findPlan_407 : decode cX12_findPlan 407 = .ok (.istore_n 3, 1) := dz_62 (dz_at q10w19_1_399 8)
theorem dX12_findPlan_408 : decode cX12_findPlan 408 = .ok (.iconst 1, 1) := dz_4 (dz_at q10w19_1_399 9)
theorem dX12_findPlan_409 : decode cX12_findPlan 409 = .ok (.istore 5, 2) := dz_54 (dz_at q10w19_1_399 10)
theorem dX12_findPlan_411 : decode cX12_findPlan 411 = .ok (.iinc 7 1, 3) := dz_132 (dz_at q10w19_1_399 12) (by decide +kernel)
theorem dX12_findPlan_414 : decode cX12_findPlan 414 = .ok (.goto (-122), 3) := dz_167 (dz_at q10w19_1_399 15) (by decide +kernel)
theorem dX12_findPlan_417 : decode cX12_findPlan 417 = .ok (.iinc 6 1, 3) := dz_132 (dz_at q10w19_1_399 18) (by decide +kernel)
theorem dX12_findPlan_42 : decode cX12_findPlan 42 = .ok (.goto (-33), 3) := dz_167 (dz_at q10w19_1_24 18) (by decide +kernel)
theorem dX12_findPlan_420 : decode cX12_findPlan 420 = .ok (.goto (-148), 3) := dz_167 (dz_at q10w19_1_399 21) (by decide +kernel)
theorem dX12_findPlan_423 : decode cX12_findPlan 423 = .ok (.iinc 4 1, 3) := dz_132 (dz_at q10w19_1_423 0) (by decide +kernel)
theorem dX12_findPlan_426 : decode cX12_findPlan 426 = .ok (.goto (-169), 3) := dz_167 (dz_at q10w19_1_423 3) (by decide +kernel)
theorem dX12_findPlan_429 : decode cX12_findPlan 429 = .ok (.aload_n 0, 1) := dz_42 (dz_at q10w19_1_423 6)
theorem dX12_findPlan_430 : decode cX12_findPlan 430 = .ok (.iconst 2, 1) := dz_5 (dz_at q10w19_1_423 7)
theorem dX12_findPlan_431 : decode cX12_findPlan 431 = .ok (.aload_n 0, 1) := dz_42 (dz_at q10w19_1_423 8)
theorem dX12_findPlan_432 : decode cX12_findPlan 432 = .ok (.getfield 121, 3) := dz_180 (dz_at q10w19_1_423 9) rfl
theorem dX12_findPlan_435 : decode cX12_findPlan 435 = .ok (.imul, 1) := dz_104 (dz_at q10w19_1_423 12)
theorem dX12_findPlan_436 : decode cX12_findPlan 436 = .ok (.putfield 188, 3) := dz_181 (dz_at q10w19_1_423 13) rfl
theorem dX12_findPlan_439 : decode cX12_findPlan 439 = .ok (.iload_n 2, 1) := dz_28 (dz_at q10w19_1_423 16)
theorem dX12_findPlan_440 : decode cX12_findPlan 440 = .ok (.ireturn, 1) := dz_172 (dz_at q10w19_1_423 17)
theorem dX12_findPlan_45 : decode cX12_findPlan 45 = .ok (.aload_n 0, 1) := dz_42 (dz_at q10w19_1_24 21)
theorem dX12_findPlan_46 : decode cX12_findPlan 46 = .ok (.getfield 121, 3) := dz_180 (dz_at q10w19_1_46 0) rfl
theorem dX12_findPlan_49 : decode cX12_findPlan 49 = .ok (.iconst 1, 1) := dz_4 (dz_at q10w19_1_46 3)
theorem dX12_findPlan_5 : decode cX12_findPlan 5 = .ok (.ishl, 1) := dz_120 (dz_at q10w19_1_0 5)
theorem dX12_findPlan_50 : decode cX12_findPlan 50 = .ok (.isub, 1) := dz_100 (dz_at q10w19_1_46 4)
theorem dX12_findPlan_51 : decode cX12_findPlan 51 = .ok (.istore_n 2, 1) := dz_61 (dz_at q10w19_1_46 5)
theorem dX12_findPlan_52 : decode cX12_findPlan 52 = .ok (.iload_n 2, 1) := dz_28 (dz_at q10w19_1_46 6)
theorem dX12_findPlan_53 : decode cX12_findPlan 53 = .ok (.ifCond .lt 179, 3) := dz_155 (dz_at q10w19_1_46 7) (by decide +kernel)
theorem dX12_findPlan_56 : decode cX12_findPlan 56 = .ok (.iconst 0, 1) := dz_3 (dz_at q10w19_1_46 10)
theorem dX12_findPlan_57 : decode cX12_findPlan 57 = .ok (.istore_n 3, 1) := dz_62 (dz_at q10w19_1_46 11)
theorem dX12_findPlan_58 : decode cX12_findPlan 58 = .ok (.iload_n 3, 1) := dz_29 (dz_at q10w19_1_46 12)
theorem dX12_findPlan_59 : decode cX12_findPlan 59 = .ok (.iload_n 1, 1) := dz_27 (dz_at q10w19_1_46 13)
theorem dX12_findPlan_6 : decode cX12_findPlan 6 = .ok (.istore_n 1, 1) := dz_60 (dz_at q10w19_1_0 6)
theorem dX12_findPlan_60 : decode cX12_findPlan 60 = .ok (.if_icmp .ge 23, 3) := dz_162 (dz_at q10w19_1_46 14) (by decide +kernel)
theorem dX12_findPlan_63 : decode cX12_findPlan 63 = .ok (.aload_n 0, 1) := dz_42 (dz_at q10w19_1_46 17)
theorem dX12_findPlan_64 : decode cX12_findPlan 64 = .ok (.getfield 100, 3) := dz_180 (dz_at q10w19_1_46 18) rfl
theorem dX12_findPlan_67 : decode cX12_findPlan 67 = .ok (.bipush 64, 2) := dz_16 (dz_at q10w19_1_46 21) (by decide +kernel)
theorem dX12_findPlan_69 : decode cX12_findPlan 69 = .ok (.iload_n 2, 1) := dz_28 (dz_at q10w19_1_46 23)
theorem dX12_findPlan_7 : decode cX12_findPlan 7 = .ok (.iconst 0, 1) := dz_3 (dz_at q10w19_1_0 7)
theorem dX12_findPlan_70 : decode cX12_findPlan 70 = .ok (.imul, 1) := dz_104 (dz_at q10w19_1_70 0)
theorem dX12_findPlan_71 : decode cX12_findPlan 71 = .ok (.iload_n 3, 1) := dz_29 (dz_at q10w19_1_70 1)
theorem dX12_findPlan_72 : decode cX12_findPlan 72 = .ok (.iadd, 1) := dz_96 (dz_at q10w19_1_70 2)
theorem dX12_findPlan_73 : decode cX12_findPlan 73 = .ok (.ldc_w 267, 3) := dz_19 (dz_at q10w19_1_70 3) rfl
theorem dX12_findPlan_76 : decode cX12_findPlan 76 = .ok (.iastore, 1) := dz_79 (dz_at q10w19_1_70 6)
theorem dX12_findPlan_77 : decode cX12_findPlan 77 = .ok (.iinc 3 1, 3) := dz_132 (dz_at q10w19_1_70 7) (by decide +kernel)
theorem dX12_findPlan_8 : decode cX12_findPlan 8 = .ok (.istore_n 2, 1) := dz_61 (dz_at q10w19_1_0 8)
theorem dX12_findPlan_80 : decode cX12_findPlan 80 = .ok (.goto (-22), 3) := dz_167 (dz_at q10w19_1_70 10) (by decide +kernel)
theorem dX12_findPlan_83 : decode cX12_findPlan 83 = .ok (.iconst 0, 1) := dz_3 (dz_at q10w19_1_70 13)
theorem dX12_findPlan_84 : decode cX12_findPlan 84 = .ok (.istore_n 3, 1) := dz_62 (dz_at q10w19_1_70 14)
theorem dX12_findPlan_85 : decode cX12_findPlan 85 = .ok (.iload_n 3, 1) := dz_29 (dz_at q10w19_1_70 15)
theorem dX12_findPlan_86 : decode cX12_findPlan 86 = .ok (.aload_n 0, 1) := dz_42 (dz_at q10w19_1_70 16)
theorem dX12_findPlan_87 : decode cX12_findPlan 87 = .ok (.getfield 20, 3) := dz_180 (dz_at q10w19_1_70 17) rfl
theorem dX12_findPlan_9 : decode cX12_findPlan 9 = .ok (.iload_n 2, 1) := dz_28 (dz_at q10w19_1_0 9)
theorem dX12_findPlan_90 : decode cX12_findPlan 90 = .ok (.iload_n 2, 1) := dz_28 (dz_at q10w19_1_70 20)
theorem dX12_findPlan_91 : decode cX12_findPlan 91 = .ok (.iaload, 1) := dz_46 (dz_at q10w19_1_70 21)
theorem dX12_findPlan_92 : decode cX12_findPlan 92 = .ok (.if_icmp .ge 134, 3) := dz_162 (dz_at q10w19_1_92 0) (by decide +kernel)
theorem dX12_findPlan_95 : decode cX12_findPlan 95 = .ok (.iconst 0, 1) := dz_3 (dz_at q10w19_1_92 3)
theorem dX12_findPlan_96 : decode cX12_findPlan 96 = .ok (.istore 4, 2) := dz_54 (dz_at q10w19_1_92 4)
theorem dX12_findPlan_98 : decode cX12_findPlan 98 = .ok (.iload 4, 2) := dz_21 (dz_at q10w19_1_92 6)
theorem q10w19_2_0 : (cX12_kept.data.toList.drop 0).take 22 = [42, 3, 181, 0, 118, 3, 60, 3, 61, 28, 42, 180, 0, 121, 162, 0, 24, 27, 42, 28, 3, 42] := by decide +kernel
theorem q10w19_2_22 : (cX12_kept.data.toList.drop 22).take 18 = [180, 0, 26, 28, 46, 182, 1, 7, 128, 60, 132, 2, 1, 167, 255, 230, 27, 172] := by decide +kernel
theorem dX12_kept_0 : decode cX12_kept 0 = .ok (.aload_n 0, 1) := dz_42 (dz_at q10w19_2_0 0)
theorem dX12_kept_1 : decode cX12_kept 1 = .ok (.iconst 0, 1) := dz_3 (dz_at q10w19_2_0 1)
theorem dX12_kept_10 : decode cX12_kept 10 = .ok (.aload_n 0, 1) := dz_42 (dz_at q10w19_2_0 10)
theorem dX12_kept_11 : decode cX12_kept 11 = .ok (.getfield 121, 3) := dz_180 (dz_at q10w19_2_0 11) rfl
theorem dX12_kept_14 : decode cX12_kept 14 = .ok (.if_icmp .ge 24, 3) := dz_162 (dz_at q10w19_2_0 14) (by decide +kernel)
theorem dX12_kept_17 : decode cX12_kept 17 = .ok (.iload_n 1, 1) := dz_27 (dz_at q10w19_2_0 17)
theorem dX12_kept_18 : decode cX12_kept 18 = .ok (.aload_n 0, 1) := dz_42 (dz_at q10w19_2_0 18)
theorem dX12_kept_19 : decode cX12_kept 19 = .ok (.iload_n 2, 1) := dz_28 (dz_at q10w19_2_0 19)
theorem dX12_kept_2 : decode cX12_kept 2 = .ok (.putfield 118, 3) := dz_181 (dz_at q10w19_2_0 2) rfl
theorem dX12_kept_20 : decode cX12_kept 20 = .ok (.iconst 0, 1) := dz_3 (dz_at q10w19_2_0 20)
theorem dX12_kept_21 : decode cX12_kept 21 = .ok (.aload_n 0, 1) := dz_42 (dz_at q10w19_2_0 21)
theorem dX12_kept_22 : decode cX12_kept 22 = .ok (.getfield 26, 3) := dz_180 (dz_at q10w19_2_22 0) rfl
theorem dX12_kept_25 : decode cX12_kept 25 = .ok (.iload_n 2, 1) := dz_28 (dz_at q10w19_2_22 3)
theorem dX12_kept_26 : decode cX12_kept 26 = .ok (.iaload, 1) := dz_46 (dz_at q10w19_2_22 4)
theorem dX12_kept_27 : decode cX12_kept 27 = .ok (.invokevirtual 263, 3) := dz_182 (dz_at q10w19_2_22 5) rfl
theorem dX12_kept_30 : decode cX12_kept 30 = .ok (.ior, 1) := dz_128 (dz_at q10w19_2_22 8)
theorem dX12_kept_31 : decode cX12_kept 31 = .ok (.istore_n 1, 1) := dz_60 (dz_at q10w19_2_22 9)
theorem dX12_kept_32 : decode cX12_kept 32 = .ok (.iinc 2 1, 3) := dz_132 (dz_at q10w19_2_22 10) (by decide +kernel)
theorem dX12_kept_35 : decode cX12_kept 35 = .ok (.goto (-26), 3) := dz_167 (dz_at q10w19_2_22 13) (by decide +kernel)
theorem dX12_kept_38 : decode cX12_kept 38 = .ok (.iload_n 1, 1) := dz_27 (dz_at q10w19_2_22 16)
theorem dX12_kept_39 : decode cX12_kept 39 = .ok (.ireturn, 1) := dz_172 (dz_at q10w19_2_22 17)
theorem dX12_kept_5 : decode cX12_kept 5 = .ok (.iconst 0, 1) := dz_3 (dz_at q10w19_2_0 5)
theorem dX12_kept_6 : decode cX12_kept 6 = .ok (.istore_n 1, 1) := dz_60 (dz_at q10w19_2_0 6)
theorem dX12_kept_7 : decode cX12_kept 7 = .ok (.iconst 0, 1) := dz_3 (dz_at q10w19_2_0 7)
theorem dX12_kept_8 : decode cX12_kept 8 = .ok (.istore_n 2, 1) := dz_61 (dz_at q10w19_2_0 8)
theorem dX12_kept_9 : decode cX12_kept 9 = .ok (.iload_n 2, 1) := dz_28 (dz_at q10w19_2_0 9)
theorem q10w19_3_0 : (cX12_plan.data.toList.drop 0).take 10 = [42, 3, 181, 0, 118, 42, 182, 1, 18, 172] := by decide +kernel
theorem dX12_plan_0 : decode cX12_plan 0 = .ok (.aload_n 0, 1) := dz_42 (dz_at q10w19_3_0 0)
theorem dX12_plan_1 : decode cX12_plan 1 = .ok (.iconst 0, 1) := dz_3 (dz_at q10w19_3_0 1)
theorem dX12_plan_2 : decode cX12_plan 2 = .ok (.putfield 118, 3) := dz_181 (dz_at q10w19_3_0 2) rfl
theorem dX12_plan_5 : decode cX12_plan 5 = .ok (.aload_n 0, 1) := dz_42 (dz_at q10w19_3_0 5)
theorem dX12_plan_6 : decode cX12_plan 6 = .ok (.invokevirtual 274, 3) := dz_182 (dz_at q10w19_3_0 6) rfl
theorem dX12_plan_9 : decode cX12_plan 9 = .ok (.ireturn, 1) := dz_172 (dz_at q10w19_3_0 9)
theorem dm_X12_truths : yX12_truths.cls = RX12 ∧ yX12_truths.cls ≠ "java/lang/invoke/MethodHandle" ∧ yX12_truths.cls ≠ "java/lang/invoke/VarHandle" ∧ (parseMethodDescriptor yX12_truths.desc).map (fun d => d.parameters.length) = some 3 := by decide +kernel
theorem dm_X12_costOf : yX12_costOf.cls = RX12 ∧ yX12_costOf.cls ≠ "java/lang/invoke/MethodHandle" ∧ yX12_costOf.cls ≠ "java/lang/invoke/VarHandle" ∧ (parseMethodDescriptor yX12_costOf.desc).map (fun d => d.parameters.length) = some 3 := by decide +kernel
theorem dm_X12_findPlan : yX12_findPlan.cls = RX12 ∧ yX12_findPlan.cls ≠ "java/lang/invoke/MethodHandle" ∧ yX12_findPlan.cls ≠ "java/lang/invoke/VarHandle" ∧ (parseMethodDescriptor yX12_findPlan.desc).map (fun d => d.parameters.length) = some 0 := by decide +kernel
set_option maxRecDepth 100000 in
def wR_keptM  (M : zM) (Q : Int → zM → Prop) : Prop := (∀ M1 : zM, M1 = zup M 0 35 0 → pL2 (fun K9 x3 x4 => ((sI (M1 0 10)) ≤ (sI x4) → Q (sI x3) M1) ∧ ((sI x4) < (sI (M1 0 10)) → ((0 ≤ (sI x4) ∧ (sI x4) < 4) ∧ wR_truths x4 0 (M1 6 (sI x4).toNat) M1 (fun z15 => K9 (orI x3 z15) (x4 + 1))))) 0 0)
set_option maxHeartbeats 4000000 in
set_option maxRecDepth 100000 in
theorem cR_keptM (l : Launch) (D : va_G) (dA : Nat → ClassId) (b : Nat) (M : zM)   (Q : Int → zM → Prop) (h : wR_keptM  M Q) : Met l yX12_kept (.code yX12_kept cX12_kept 3 (some .int) :: zt) (z_rm 3) (va_Pc [.ref (b + 0)] (wPre D dA vwCl (z_tys dA) wR nR b M)) (va_Qi (wQi Q) (zB D dA vwCl wR nR b) (zA nR b)) 0 0 (zA nR b) := by
  unfold wR_keptM at h
  refine Met.ofW (cc := cX12_kept) (maxL := 3) (ret := (some .int)) (by decide) rfl ?_
  intro p e s m args below meth c s₁ B hml hv
  obtain ⟨hargs, hS, hK⟩ := hv
  have hx := B.exec
  have hb := B.bytes
  have hr := B.returns
  have hts := atoms_spec (ws := .code yX12_kept cX12_kept 3 (some .int) :: zt) B.pre
  have hown : s.vm.findClass RX12 = some m.cls := findClass_of_methodNamed B.named
  have hlocks := B.notSynchronized
  have hS0 : va_S (zA nR b) s.heap s.heap [] := va_S.rf
  have hl := lv_entry ([.ref (b + 0)]) (n := 3) (Nat.le_of_ble_eq_true rfl)
  have hent : entryFrame m args 3 = F0 m 0 ((lg_sl ([.ref (b + 0)]) ++ List.replicate (3 - (lg_sl ([.ref (b + 0)])).length) Slot.unset).toArray) [] := by rw [hargs]; exact lg_entry_eq m ([.ref (b + 0)]) 3
  rw [hent]
  generalize (lg_sl ([.ref (b + 0)]) ++ List.replicate (3 - (lg_sl ([.ref (b + 0)])).length) Slot.unset).toArray = ls at hl ⊢
  have hl : lv_has ls 3 [(0, .ref (b + 0))] := hl
  refine lv_aload_n hx hb dX12_kept_0 rfl (lv_at hl 0 rfl) ?_
  refine z_iconst hx hb dX12_kept_1 ?_
  refine w_puti hx hb hts (z_memU u12) tyX12 tyX12_ok nmX12 hown hK.1 hS hS0 f12_35 (by decide) (zkd_of (rfl : zcd wR 0 = 50) rfl) (Or.inl (hts _ (z_mem k979))) rfl (z := 0) (by decide +kernel) dX12_kept_2 (fun H locs hS hS0 => ?_)
  obtain ⟨M1, e2⟩ : ∃ M1 : zM, M1 = zup M 0 35 0 := ⟨_, rfl⟩
  rw [← e2] at hS
  have h := h M1 e2
  refine z_iconst hx hb dX12_kept_5 ?_
  refine lv_istore_n (lv' := [(1, .int (iI 0)), (0, .ref (b + 0))]) hx hb dX12_kept_6 rfl hl (by decide) rfl (fun ls hl => ?_)
  refine z_iconst hx hb dX12_kept_7 ?_
  refine lv_istore_n (lv' := [(2, .int (iI 0)), (1, .int (iI 0)), (0, .ref (b + 0))]) hx hb dX12_kept_8 rfl hl (by decide) rfl (fun ls hl => ?_)
  obtain ⟨I5, ⟨n6, h7⟩, h8⟩ := h
  have L9 : ∀ (n10 : Nat) (x3 x4 : Int) (H : Heap) (locs : List Loc) (ls : Array Slot), I5 n10 x3 x4 → zR D dA vwCl wR nR b M1 H → va_S (zA nR b) s.heap H locs → lv_has ls 3 [(0, .ref (b + 0)), (1, .int (iI x3)), (2, .int (iI x4))] → W p l e (headSpec (.code yX12_kept cX12_kept 3 (some .int) :: zt) (z_rm 3)).room s m args below meth c H locs 0 0 (MQ below (va_Qi (wQi Q) (zB D dA vwCl wR nR b) (zA nR b)) args s 0 0 (zA nR b)) (F0 m 9 ls []) := by
    intro n10
    induction n10 using Nat.strongRecOn with
    | ind n10 i11 =>
      intro x3 x4 H locs ls h hS hS0 hl
      have h := h8 n10 x3 x4 h
      refine lv_iload_n hx hb dX12_kept_9 rfl (lv_at hl 2 rfl) ?_
      refine lv_aload_n hx hb dX12_kept_10 rfl (lv_at hl 0 rfl) ?_
      refine w_geti hx hb hts (z_memU u12) hown hK.1 hS f12_10 (by decide) (zkd_of (rfl : zcd wR 0 = 50) rfl) (Or.inl (hts _ (z_mem k954))) dX12_kept_11 ?_
      refine w_icmp_ge (tgt := 38) hx hb rfl rfl dX12_kept_14 (by decide) (fun c12 => ?_) (fun c12 => ?_)
      · skip
        have h := h.1 c12
        refine lv_iload_n hx hb dX12_kept_38 rfl (lv_at hl 1 rfl) ?_
        exact w_iret hx hb hr hlocks hS hS0 rfl h dX12_kept_39
      · skip
        have h := h.2 c12
        refine lv_iload_n hx hb dX12_kept_17 rfl (lv_at hl 1 rfl) ?_
        refine lv_aload_n hx hb dX12_kept_18 rfl (lv_at hl 0 rfl) ?_
        refine lv_iload_n hx hb dX12_kept_19 rfl (lv_at hl 2 rfl) ?_
        refine z_iconst hx hb dX12_kept_20 ?_
        refine lv_aload_n hx hb dX12_kept_21 rfl (lv_at hl 0 rfl) ?_
        refine w_getr (j2 := 6) hx hb hts (z_memU u12) hown hK.1 hS f12_7 (by decide) (zkd_of (rfl : zcd wR 0 = 50) rfl) (zrf_of (rfl : zcd wR 0 = 50) rfl) (Or.inl (hts _ (z_mem k951))) dX12_kept_22 ?_
        refine lv_iload_n hx hb dX12_kept_25 rfl (lv_at hl 2 rfl) ?_
        obtain ⟨o13, h⟩ := h
        refine w_iald (n := 4) (i := (sI x4)) hx hb hK.1 (t0 := 0) rfl hS (by decide) (zkd_of (rfl : zcd wR 6 = 56) rfl) (zln_of (rfl : zcd wR 6 = 56) rfl) rfl o13.1 o13.2 (by decide) dX12_kept_26 ?_
        refine w_calli (va_runV (As := [.int (iI x4), .int (iI 0), .int (iI (M1 6 (sI x4).toNat))]) (rest := [.int (iI x3)]) ⟨hx, hb, hml, hown, hts⟩ (cR_truths l D dA b M1 x4 0 (M1 6 (sI x4).toNat) _ h) (cwV 3 hts (z_gV k1215 k1216 k1411 k14 k1217) rfl rfl rfl dm_X12_truths ⟨Nat.le_of_ble_eq_true rfl, Nat.le_of_ble_eq_true rfl⟩) ⟨wPre_blind, (w_recv hS hK.1 (by decide) (zkd_of (rfl : zcd wR 0 = 50) rfl) (by decide) (rfl : vwCl[12]? = some (RX12, TX12, 50))), w_pre hS hK⟩ rfl rfl hl.1 rfl (lv_room (Nat.le_of_ble_eq_true rfl)) dX12_kept_27 ⟨Nat.le_refl _, Nat.le_refl _⟩) hS0 (fun z15 M14 H locs r16 h hS hS0 => ?_)
        obtain ⟨e17, h⟩ := h
        rw [e17] at hS
        refine w_ior hx hb dX12_kept_30 ?_
        refine lv_istore_n (lv' := [(1, .int (iI (orI x3 z15))), (0, .ref (b + 0)), (2, .int (iI x4))]) hx hb dX12_kept_31 rfl hl (by decide) rfl (fun ls hl => ?_)
        refine z_iinc (lv' := [(2, .int (iI (x4 + 1))), (1, .int (iI (orI x3 z15))), (0, .ref (b + 0))]) hx hb dX12_kept_32 hl (k := 2) rfl (by decide) rfl (fun ls hl => ?_)
        refine lv_goto (tgt := 9) hx hb dX12_kept_35 (by decide) ?_
        obtain ⟨n18, h19, h⟩ := h
        exact i11 n18 h19 (orI x3 z15) (x4 + 1) _ _ _ h hS hS0 (lv_sub hl [2, 1, 0] rfl)
  exact L9 n6 0 0 _ _ _ h7 hS hS0 (lv_sub hl [2, 1, 0] rfl)

set_option maxRecDepth 100000 in
def wR_costOf (a0 : Int) (a1 : Int) (a2 : Int) (M : zM) (Q : Int → Prop) : Prop := ((0 ≤ (sI a0) ∧ (sI a0) < 4) ∧ Q (sI ((5 * a1) + (absI (sI (a2 - (M 6 (sI a0).toNat)))))))
set_option maxHeartbeats 4000000 in
set_option maxRecDepth 100000 in
theorem cR_costOf (l : Launch) (D : va_G) (dA : Nat → ClassId) (b : Nat) (M : zM) (a0 : Int) (a1 : Int) (a2 : Int)  (Q : Int → Prop) (h : wR_costOf a0 a1 a2 M Q) : Met l yX12_costOf (.code yX12_costOf cX12_costOf 4 (some .int) :: zt) (z_rm 1) (va_Pc [.ref (b + 0), .int (iI a0), .int (iI a1), .int (iI a2)] (wPre D dA vwCl (z_tys dA) wR nR b M)) (va_Qi (wQi (fun z9 u9 => u9 = M ∧ Q z9)) (zB D dA vwCl wR nR b) (zA nR b)) 0 0 (zA nR b) := by
  unfold wR_costOf at h
  refine Met.ofW (cc := cX12_costOf) (maxL := 4) (ret := (some .int)) (by decide) rfl ?_
  intro p e s m args below meth c s₁ B hml hv
  obtain ⟨hargs, hS, hK⟩ := hv
  have hx := B.exec
  have hb := B.bytes
  have hr := B.returns
  have hts := atoms_spec (ws := .code yX12_costOf cX12_costOf 4 (some .int) :: zt) B.pre
  have hown : s.vm.findClass RX12 = some m.cls := findClass_of_methodNamed B.named
  have hlocks := B.notSynchronized
  have hS0 : va_S (zA nR b) s.heap s.heap [] := va_S.rf
  have hl := lv_entry ([.ref (b + 0), .int (iI a0), .int (iI a1), .int (iI a2)]) (n := 4) (Nat.le_of_ble_eq_true rfl)
  have hent : entryFrame m args 4 = F0 m 0 ((lg_sl ([.ref (b + 0), .int (iI a0), .int (iI a1), .int (iI a2)]) ++ List.replicate (4 - (lg_sl ([.ref (b + 0), .int (iI a0), .int (iI a1), .int (iI a2)])).length) Slot.unset).toArray) [] := by rw [hargs]; exact lg_entry_eq m ([.ref (b + 0), .int (iI a0), .int (iI a1), .int (iI a2)]) 4
  rw [hent]
  generalize (lg_sl ([.ref (b + 0), .int (iI a0), .int (iI a1), .int (iI a2)]) ++ List.replicate (4 - (lg_sl ([.ref (b + 0), .int (iI a0), .int (iI a1), .int (iI a2)])).length) Slot.unset).toArray = ls at hl ⊢
  have hl : lv_has ls 4 [(0, .ref (b + 0)), (1, .int (iI a0)), (2, .int (iI a1)), (3, .int (iI a2))] := hl
  refine z_iconst hx hb dX12_costOf_0 ?_
  refine lv_iload_n hx hb dX12_costOf_1 rfl (lv_at hl 2 rfl) ?_
  refine z_imul hx hb dX12_costOf_2 ?_
  refine lv_iload_n hx hb dX12_costOf_3 rfl (lv_at hl 3 rfl) ?_
  refine lv_aload_n hx hb dX12_costOf_4 rfl (lv_at hl 0 rfl) ?_
  refine w_getr (j2 := 6) hx hb hts (z_memU u12) hown hK.1 hS f12_7 (by decide) (zkd_of (rfl : zcd wR 0 = 50) rfl) (zrf_of (rfl : zcd wR 0 = 50) rfl) (Or.inl (hts _ (z_mem k951))) dX12_costOf_5 ?_
  refine lv_iload_n hx hb dX12_costOf_8 rfl (lv_at hl 1 rfl) ?_
  obtain ⟨o1, h⟩ := h
  refine w_iald (n := 4) (i := (sI a0)) hx hb hK.1 (t0 := 0) rfl hS (by decide) (zkd_of (rfl : zcd wR 6 = 56) rfl) (zln_of (rfl : zcd wR 6 = 56) rfl) rfl o1.1 o1.2 (by decide) dX12_costOf_9 ?_
  refine z_isub hx hb dX12_costOf_10 ?_
  refine w_mabs hx hb (hml.trans hl.1.symm) hown (hts _ (z_mem k1131)) (hts _ (z_mem k644)) (hts _ (z_mem k15)) (hts _ (z_mem k645)) (by exact Nat.le_of_ble_eq_true rfl) (by exact Nat.le_of_ble_eq_true rfl) (by exact Nat.le_refl _) (by exact Nat.le_refl _) rfl dX12_costOf_11 ?_
  refine z_iadd hx hb dX12_costOf_14 ?_
  exact w_iret hx hb hr hlocks hS hS0 rfl ⟨rfl, h⟩ dX12_costOf_15

set_option maxRecDepth 100000 in
def wR_findPlan  (M : zM) (Q : Int → zM → Prop) : Prop := wL1 (fun K9 x1 M2 => ((shlI 1 (M 0 16)) ≤ (sI x1) → wL1 (fun K52 x11 M12 => ((sI x11) < 0 → ((0 ≤ (sI ((shlI 1 (M 0 16)) - 1)) ∧ (sI ((shlI 1 (M 0 16)) - 1)) < 320) ∧ (∀ t22 : Int, t22 = (M12 28 (sI ((shlI 1 (M 0 16)) - 1)).toNat) → ((sI t22) < 268435456 → wL2 (fun K257 x25 x26 M27 => ((sI (M27 0 10)) ≤ (sI x26) → (∀ M36 : zM, M36 = zup M27 0 34 (2 * (M27 0 10)) → Q (sI t22) M36)) ∧ ((sI x26) < (sI (M27 0 10)) → wL3 (fun K272 x38 x39 x40 M41 => ((0 ≤ (sI x26) ∧ (sI x26) < 4) ∧ ((sI (M41 4 (sI x26).toNat)) ≤ (sI x40) → K257 x38 (x26 + 1) M41) ∧ ((sI x40) < (sI (M41 4 (sI x26).toNat)) → ((sI x39) ≠ 0 → K257 x38 (x26 + 1) M41) ∧ ((sI x39) = 0 → wL3 (fun K292 x56 x57 x58 M59 => ((0 ≤ (sI x26) ∧ (sI x26) < 4) ∧ ((sI ((M59 4 (sI x26).toNat) - x40)) ≤ (sI x58) → K272 x56 x57 (x40 + 1) M59) ∧ ((sI x58) < (sI ((M59 4 (sI x26).toNat) - x40)) → ((sI x57) ≠ 0 → K272 x56 x57 (x40 + 1) M59) ∧ ((sI x57) = 0 → ((0 ≤ (sI ((24 * ((24 * x26) + x40)) + x58)) ∧ (sI ((24 * ((24 * x26) + x40)) + x58)) < 2304) ∧ (∀ t75 : Int, t75 = (andI x56 (xorI (M59 29 (sI ((24 * ((24 * x26) + x40)) + x58)).toNat) (-1))) → wR_costOf x26 x40 x58 M59 (fun z78 => ((0 ≤ (sI ((64 * (x26 + 1)) + t75)) ∧ (sI ((64 * (x26 + 1)) + t75)) < 320) ∧ ((0 ≤ (sI ((64 * x26) + x56)) ∧ (sI ((64 * x26) + x56)) < 320) ∧ ((sI (z78 + (M59 28 (sI ((64 * (x26 + 1)) + t75)).toNat))) = (sI (M59 28 (sI ((64 * x26) + x56)).toNat)) → ((0 ≤ (sI (2 * x26)) ∧ (sI (2 * x26)) < 64) ∧ (∀ M85 : zM, M85 = zup M59 22 (sI (2 * x26)).toNat x40 → ((0 ≤ (sI ((2 * x26) + 1)) ∧ (sI ((2 * x26) + 1)) < 64) ∧ (∀ M88 : zM, M88 = zup M85 22 (sI ((2 * x26) + 1)).toNat x58 → K292 t75 1 (x58 + 1) M88))))) ∧ ((sI (z78 + (M59 28 (sI ((64 * (x26 + 1)) + t75)).toNat))) ≠ (sI (M59 28 (sI ((64 * x26) + x56)).toNat)) → K292 x56 x57 (x58 + 1) M59)))))))))) x38 x39 0 M41)))) x25 0 0 M27)) ((shlI 1 (M 0 16)) - 1) 0 M12) ∧ (268435456 ≤ (sI t22) → Q (-1) M12)))) ∧ (0 ≤ (sI x11) → wL1 (fun K58 x94 M95 => ((shlI 1 (M 0 16)) ≤ (sI x94) → wL1 (fun K85 x104 M105 => ((0 ≤ (sI x11) ∧ (sI x11) < 4) ∧ ((sI (M105 4 (sI x11).toNat)) ≤ (sI x104) → K52 (x11 + (-1)) M105) ∧ ((sI x104) < (sI (M105 4 (sI x11).toNat)) → wL1 (fun K98 x117 M118 => ((0 ≤ (sI x11) ∧ (sI x11) < 4) ∧ ((sI ((M118 4 (sI x11).toNat) - x104)) ≤ (sI x117) → K85 (x104 + 1) M118) ∧ ((sI x117) < (sI ((M118 4 (sI x11).toNat) - x104)) → wR_truths x11 x104 x117 M118 (fun z131 => ((0 ≤ (sI ((24 * ((24 * x11) + x104)) + x117)) ∧ (sI ((24 * ((24 * x11) + x104)) + x117)) < 2304) ∧ (∀ M135 : zM, M135 = zup M118 29 (sI ((24 * ((24 * x11) + x104)) + x117)).toNat z131 → wL1 (fun K143 x137 M138 => ((shlI 1 (M 0 16)) ≤ (sI x137) → K98 (x117 + 1) M138) ∧ ((sI x137) < (shlI 1 (M 0 16)) → wR_costOf x11 x104 x117 M138 (fun z150 => ((0 ≤ (sI ((64 * (x11 + 1)) + (andI x137 (xorI z131 (-1))))) ∧ (sI ((64 * (x11 + 1)) + (andI x137 (xorI z131 (-1))))) < 320) ∧ (∀ t154 : Int, t154 = (z150 + (M138 28 (sI ((64 * (x11 + 1)) + (andI x137 (xorI z131 (-1))))).toNat)) → ((0 ≤ (sI ((64 * x11) + x137)) ∧ (sI ((64 * x11) + x137)) < 320) ∧ ((0 ≤ (sI ((64 * x11) + x137)) ∧ (sI ((64 * x11) + x137)) < 320) ∧ (∀ M158 : zM, M158 = zup M138 28 (sI ((64 * x11) + x137)).toNat (min (sI (M138 28 (sI ((64 * x11) + x137)).toNat)) (sI t154)) → K143 (x137 + 1) M158)))))))) 0 M135)))))) 0 M105))) 0 M95) ∧ ((sI x94) < (shlI 1 (M 0 16)) → ((0 ≤ (sI ((64 * x11) + x94)) ∧ (sI ((64 * x11) + x94)) < 320) ∧ (∀ M163 : zM, M163 = zup M95 28 (sI ((64 * x11) + x94)).toNat 268435456 → K58 (x94 + 1) M163)))) 0 M12)) ((M2 0 10) - 1) M2) ∧ ((sI x1) < (shlI 1 (M 0 16)) → ((sI x1) ≠ 0 → ((0 ≤ (sI ((64 * (M2 0 10)) + x1)) ∧ (sI ((64 * (M2 0 10)) + x1)) < 320) ∧ (∀ M169 : zM, M169 = zup M2 28 (sI ((64 * (M2 0 10)) + x1)).toNat 268435456 → K9 (x1 + 1) M169))) ∧ ((sI x1) = 0 → ((0 ≤ (sI ((64 * (M2 0 10)) + x1)) ∧ (sI ((64 * (M2 0 10)) + x1)) < 320) ∧ (∀ M174 : zM, M174 = zup M2 28 (sI ((64 * (M2 0 10)) + x1)).toNat 0 → K9 (x1 + 1) M174))))) 0 M
set_option maxHeartbeats 4000000 in
set_option maxRecDepth 100000 in
theorem cR_findPlan (l : Launch) (D : va_G) (dA : Nat → ClassId) (b : Nat) (M : zM)   (Q : Int → zM → Prop) (h : wR_findPlan  M Q) : Met l yX12_findPlan (.code yX12_findPlan cX12_findPlan 9 (some .int) :: zt) (z_rm 3) (va_Pc [.ref (b + 0)] (wPre D dA vwCl (z_tys dA) wR nR b M)) (va_Qi (wQi Q) (zB D dA vwCl wR nR b) (zA nR b)) 0 0 (zA nR b) := by
  unfold wR_findPlan at h
  refine Met.ofW (cc := cX12_findPlan) (maxL := 9) (ret := (some .int)) (by decide) rfl ?_
  intro p e s m args below meth c s₁ B hml hv
  obtain ⟨hargs, hS, hK⟩ := hv
  have hx := B.exec
  have hb := B.bytes
  have hr := B.returns
  have hts := atoms_spec (ws := .code yX12_findPlan cX12_findPlan 9 (some .int) :: zt) B.pre
  have hown : s.vm.findClass RX12 = some m.cls := findClass_of_methodNamed B.named
  have hlocks := B.notSynchronized
  have hS0 : va_S (zA nR b) s.heap s.heap [] := va_S.rf
  have hl := lv_entry ([.ref (b + 0)]) (n := 9) (Nat.le_of_ble_eq_true rfl)
  have hent : entryFrame m args 9 = F0 m 0 ((lg_sl ([.ref (b + 0)]) ++ List.replicate (9 - (lg_sl ([.ref (b + 0)])).length) Slot.unset).toArray) [] := by rw [hargs]; exact lg_entry_eq m ([.ref (b + 0)]) 9
  rw [hent]
  generalize (lg_sl ([.ref (b + 0)]) ++ List.replicate (9 - (lg_sl ([.ref (b + 0)])).length) Slot.unset).toArray = ls at hl ⊢
  have hl : lv_has ls 9 [(0, .ref (b + 0))] := hl
  refine z_iconst hx hb dX12_findPlan_0 ?_
  refine lv_aload_n hx hb dX12_findPlan_1 rfl (lv_at hl 0 rfl) ?_
  refine w_geti hx hb hts (z_memU u12) hown hK.1 hS f12_16 (by decide) (zkd_of (rfl : zcd wR 0 = 50) rfl) (Or.inl (hts _ (z_mem k960))) dX12_findPlan_2 ?_
  refine w_ishl hx hb dX12_findPlan_5 ?_
  refine lv_istore_n (lv' := [(1, .int (iI (shlI 1 (M 0 16)))), (0, .ref (b + 0))]) hx hb dX12_findPlan_6 rfl hl (by decide) rfl (fun ls hl => ?_)
  refine z_iconst hx hb dX12_findPlan_7 ?_
  refine lv_istore_n (lv' := [(2, .int (iI 0)), (1, .int (iI (shlI 1 (M 0 16)))), (0, .ref (b + 0))]) hx hb dX12_findPlan_8 rfl hl (by decide) rfl (fun ls hl => ?_)
  obtain ⟨I3, ⟨n4, h5⟩, h6⟩ := h
  have L7 : ∀ (n8 : Nat) (x1 : Int) (M2 : zM) (H : Heap) (locs : List Loc) (ls : Array Slot), I3 n8 x1 M2 → zR D dA vwCl wR nR b M2 H → va_S (zA nR b) s.heap H locs → lv_has ls 9 [(0, .ref (b + 0)), (1, .int (iI (shlI 1 (M 0 16)))), (2, .int (iI x1))] → W p l e (headSpec (.code yX12_findPlan cX12_findPlan 9 (some .int) :: zt) (z_rm 3)).room s m args below meth c H locs 0 0 (MQ below (va_Qi (wQi Q) (zB D dA vwCl wR nR b) (zA nR b)) args s 0 0 (zA nR b)) (F0 m 9 ls []) := by
    intro n8
    induction n8 using Nat.strongRecOn with
    | ind n8 i9 =>
      intro x1 M2 H locs ls h hS hS0 hl
      have h := h6 n8 x1 M2 h
      refine lv_iload_n hx hb dX12_findPlan_9 rfl (lv_at hl 2 rfl) ?_
      refine lv_iload_n hx hb dX12_findPlan_10 rfl (lv_at hl 1 rfl) ?_
      refine w_icmp_ge (tgt := 45) hx hb rfl (sI_of (shlI_R _ _)) dX12_findPlan_11 (by decide) (fun c10 => ?_) (fun c10 => ?_)
      · skip
        have h := h.1 c10
        refine lv_aload_n hx hb dX12_findPlan_45 rfl (lv_at hl 0 rfl) ?_
        refine w_geti hx hb hts (z_memU u12) hown hK.1 hS f12_10 (by decide) (zkd_of (rfl : zcd wR 0 = 50) rfl) (Or.inl (hts _ (z_mem k954))) dX12_findPlan_46 ?_
        refine z_iconst hx hb dX12_findPlan_49 ?_
        refine z_isub hx hb dX12_findPlan_50 ?_
        refine lv_istore_n (lv' := [(2, .int (iI ((M2 0 10) - 1))), (0, .ref (b + 0)), (1, .int (iI (shlI 1 (M 0 16))))]) hx hb dX12_findPlan_51 rfl hl (by decide) rfl (fun ls hl => ?_)
        obtain ⟨I13, ⟨n14, h15⟩, h16⟩ := h
        have L17 : ∀ (n18 : Nat) (x11 : Int) (M12 : zM) (H : Heap) (locs : List Loc) (ls : Array Slot), I13 n18 x11 M12 → zR D dA vwCl wR nR b M12 H → va_S (zA nR b) s.heap H locs → lv_has ls 9 [(0, .ref (b + 0)), (1, .int (iI (shlI 1 (M 0 16)))), (2, .int (iI x11))] → W p l e (headSpec (.code yX12_findPlan cX12_findPlan 9 (some .int) :: zt) (z_rm 3)).room s m args below meth c H locs 0 0 (MQ below (va_Qi (wQi Q) (zB D dA vwCl wR nR b) (zA nR b)) args s 0 0 (zA nR b)) (F0 m 52 ls []) := by
          intro n18
          induction n18 using Nat.strongRecOn with
          | ind n18 i19 =>
            intro x11 M12 H locs ls h hS hS0 hl
            have h := h16 n18 x11 M12 h
            refine lv_iload_n hx hb dX12_findPlan_52 rfl (lv_at hl 2 rfl) ?_
            refine w_if_lt (tgt := 232) hx hb rfl dX12_findPlan_53 (by decide) (fun c20 => ?_) (fun c20 => ?_)
            · skip
              have h := h.1 c20
              refine lv_aload_n hx hb dX12_findPlan_232 rfl (lv_at hl 0 rfl) ?_
              refine w_getr (j2 := 28) hx hb hts (z_memU u12) hown hK.1 hS f12_43 (by decide) (zkd_of (rfl : zcd wR 0 = 50) rfl) (zrf_of (rfl : zcd wR 0 = 50) rfl) (Or.inl (hts _ (z_mem k987))) dX12_findPlan_233 ?_
              refine lv_iload_n hx hb dX12_findPlan_236 rfl (lv_at hl 1 rfl) ?_
              refine z_iconst hx hb dX12_findPlan_237 ?_
              refine z_isub hx hb dX12_findPlan_238 ?_
              obtain ⟨o21, h⟩ := h
              refine w_iald (n := 320) (i := (sI ((shlI 1 (M 0 16)) - 1))) hx hb hK.1 (t0 := 0) rfl hS (by decide) (zkd_of (rfl : zcd wR 28 = 78) rfl) (zln_of (rfl : zcd wR 28 = 78) rfl) rfl o21.1 o21.2 (by decide) dX12_findPlan_239 ?_
              obtain ⟨t22, e23⟩ : ∃ t22 : Int, t22 = (M12 28 (sI ((shlI 1 (M 0 16)) - 1)).toNat) := ⟨_, rfl⟩
              refine z_top (y := t22) e23.symm ?_
              have h := h t22 e23
              refine lv_istore_n (lv' := [(2, .int (iI t22)), (0, .ref (b + 0)), (1, .int (iI (shlI 1 (M 0 16))))]) hx hb dX12_findPlan_240 rfl hl (by decide) rfl (fun ls hl => ?_)
              refine lv_iload_n hx hb dX12_findPlan_241 rfl (lv_at hl 0 rfl) ?_
              refine z_ldcw (n := 268435456) hx hb hown (hts _ (z_mem k1225)) (by decide) dX12_findPlan_242 ?_
              refine w_icmp_lt (tgt := 250) hx hb rfl (sI_of (by decide)) dX12_findPlan_245 (by decide) (fun c24 => ?_) (fun c24 => ?_)
              · skip
                have h := h.1 c24
                refine lv_iload_n hx hb dX12_findPlan_250 rfl (lv_at hl 2 rfl) ?_
                refine z_iconst hx hb dX12_findPlan_251 ?_
                refine z_isub hx hb dX12_findPlan_252 ?_
                refine lv_istore_n (lv' := [(3, .int (iI ((shlI 1 (M 0 16)) - 1))), (2, .int (iI t22)), (0, .ref (b + 0)), (1, .int (iI (shlI 1 (M 0 16))))]) hx hb dX12_findPlan_253 rfl hl (by decide) rfl (fun ls hl => ?_)
                refine z_iconst hx hb dX12_findPlan_254 ?_
                refine lv_istore (lv' := [(4, .int (iI 0)), (3, .int (iI ((shlI 1 (M 0 16)) - 1))), (2, .int (iI t22)), (0, .ref (b + 0)), (1, .int (iI (shlI 1 (M 0 16))))]) hx hb dX12_findPlan_255 hl (by decide) rfl (fun ls hl => ?_)
                obtain ⟨I28, ⟨n29, h30⟩, h31⟩ := h
                have L32 : ∀ (n33 : Nat) (x25 x26 : Int) (M27 : zM) (H : Heap) (locs : List Loc) (ls : Array Slot), I28 n33 x25 x26 M27 → zR D dA vwCl wR nR b M27 H → va_S (zA nR b) s.heap H locs → lv_has ls 9 [(0, .ref (b + 0)), (2, .int (iI t22)), (3, .int (iI x25)), (4, .int (iI x26))] → W p l e (headSpec (.code yX12_findPlan cX12_findPlan 9 (some .int) :: zt) (z_rm 3)).room s m args below meth c H locs 0 0 (MQ below (va_Qi (wQi Q) (zB D dA vwCl wR nR b) (zA nR b)) args s 0 0 (zA nR b)) (F0 m 257 ls []) := by
                  intro n33
                  induction n33 using Nat.strongRecOn with
                  | ind n33 i34 =>
                    intro x25 x26 M27 H locs ls h hS hS0 hl
                    have h := h31 n33 x25 x26 M27 h
                    refine lv_iload hx hb dX12_findPlan_257 (lv_at hl 3 rfl) ?_
                    refine lv_aload_n hx hb dX12_findPlan_259 rfl (lv_at hl 0 rfl) ?_
                    refine w_geti hx hb hts (z_memU u12) hown hK.1 hS f12_10 (by decide) (zkd_of (rfl : zcd wR 0 = 50) rfl) (Or.inl (hts _ (z_mem k954))) dX12_findPlan_260 ?_
                    refine w_icmp_ge (tgt := 429) hx hb rfl rfl dX12_findPlan_263 (by decide) (fun c35 => ?_) (fun c35 => ?_)
                    · skip
                      have h := h.1 c35
                      refine lv_aload_n hx hb dX12_findPlan_429 rfl (lv_at hl 0 rfl) ?_
                      refine z_iconst hx hb dX12_findPlan_430 ?_
                      refine lv_aload_n hx hb dX12_findPlan_431 rfl (lv_at hl 0 rfl) ?_
                      refine w_geti hx hb hts (z_memU u12) hown hK.1 hS f12_10 (by decide) (zkd_of (rfl : zcd wR 0 = 50) rfl) (Or.inl (hts _ (z_mem k954))) dX12_findPlan_432 ?_
                      refine z_imul hx hb dX12_findPlan_435 ?_
                      refine w_puti hx hb hts (z_memU u12) tyX12 tyX12_ok nmX12 hown hK.1 hS hS0 f12_34 (by decide) (zkd_of (rfl : zcd wR 0 = 50) rfl) (Or.inl (hts _ (z_mem k978))) rfl (z := (2 * (M27 0 10))) (by decide +kernel) dX12_findPlan_436 (fun H locs hS hS0 => ?_)
                      obtain ⟨M36, e37⟩ : ∃ M36 : zM, M36 = zup M27 0 34 (2 * (M27 0 10)) := ⟨_, rfl⟩
                      rw [← e37] at hS
                      have h := h M36 e37
                      refine lv_iload_n hx hb dX12_findPlan_439 rfl (lv_at hl 1 rfl) ?_
                      exact w_iret hx hb hr hlocks hS hS0 rfl h dX12_findPlan_440
                    · skip
                      have h := h.2 c35
                      refine z_iconst hx hb dX12_findPlan_266 ?_
                      refine lv_istore (lv' := [(5, .int (iI 0)), (0, .ref (b + 0)), (2, .int (iI t22)), (3, .int (iI x25)), (4, .int (iI x26))]) hx hb dX12_findPlan_267 hl (by decide) rfl (fun ls hl => ?_)
                      refine z_iconst hx hb dX12_findPlan_269 ?_
                      refine lv_istore (lv' := [(6, .int (iI 0)), (5, .int (iI 0)), (0, .ref (b + 0)), (2, .int (iI t22)), (3, .int (iI x25)), (4, .int (iI x26))]) hx hb dX12_findPlan_270 hl (by decide) rfl (fun ls hl => ?_)
                      obtain ⟨I42, ⟨n43, h44⟩, h45⟩ := h
                      have L46 : ∀ (n47 : Nat) (x38 x39 x40 : Int) (M41 : zM) (H : Heap) (locs : List Loc) (ls : Array Slot), I42 n47 x38 x39 x40 M41 → zR D dA vwCl wR nR b M41 H → va_S (zA nR b) s.heap H locs → lv_has ls 9 [(0, .ref (b + 0)), (2, .int (iI t22)), (3, .int (iI x38)), (4, .int (iI x26)), (5, .int (iI x39)), (6, .int (iI x40))] → W p l e (headSpec (.code yX12_findPlan cX12_findPlan 9 (some .int) :: zt) (z_rm 3)).room s m args below meth c H locs 0 0 (MQ below (va_Qi (wQi Q) (zB D dA vwCl wR nR b) (zA nR b)) args s 0 0 (zA nR b)) (F0 m 272 ls []) := by
                        intro n47
                        induction n47 using Nat.strongRecOn with
                        | ind n47 i48 =>
                          intro x38 x39 x40 M41 H locs ls h hS hS0 hl
                          have h := h45 n47 x38 x39 x40 M41 h
                          refine lv_iload hx hb dX12_findPlan_272 (lv_at hl 5 rfl) ?_
                          refine lv_aload_n hx hb dX12_findPlan_274 rfl (lv_at hl 0 rfl) ?_
                          refine w_getr (j2 := 4) hx hb hts (z_memU u12) hown hK.1 hS f12_5 (by decide) (zkd_of (rfl : zcd wR 0 = 50) rfl) (zrf_of (rfl : zcd wR 0 = 50) rfl) (Or.inl (hts _ (z_mem k949))) dX12_findPlan_275 ?_
                          refine lv_iload hx hb dX12_findPlan_278 (lv_at hl 3 rfl) ?_
                          obtain ⟨o49, h⟩ := h
                          refine w_iald (n := 4) (i := (sI x26)) hx hb hK.1 (t0 := 0) rfl hS (by decide) (zkd_of (rfl : zcd wR 4 = 54) rfl) (zln_of (rfl : zcd wR 4 = 54) rfl) rfl o49.1 o49.2 (by decide) dX12_findPlan_280 ?_
                          refine w_icmp_ge (tgt := 423) hx hb rfl rfl dX12_findPlan_281 (by decide) (fun c50 => ?_) (fun c50 => ?_)
                          · skip
                            have h := h.1 c50
                            refine z_iinc (lv' := [(4, .int (iI (x26 + 1))), (0, .ref (b + 0)), (2, .int (iI t22)), (3, .int (iI x38)), (5, .int (iI x39)), (6, .int (iI x40))]) hx hb dX12_findPlan_423 hl (k := 3) rfl (by decide) rfl (fun ls hl => ?_)
                            refine lv_goto (tgt := 257) hx hb dX12_findPlan_426 (by decide) ?_
                            obtain ⟨n51, h52, h⟩ := h
                            exact i34 n51 h52 x38 (x26 + 1) M41 _ _ _ h hS hS0 (lv_sub hl [1, 2, 3, 0] rfl)
                          · skip
                            have h := h.2 c50
                            refine lv_iload hx hb dX12_findPlan_284 (lv_at hl 4 rfl) ?_
                            refine w_if_ne (tgt := 423) hx hb rfl dX12_findPlan_286 (by decide) (fun c53 => ?_) (fun c53 => ?_)
                            · skip
                              have h := h.1 c53
                              refine z_iinc (lv' := [(4, .int (iI (x26 + 1))), (0, .ref (b + 0)), (2, .int (iI t22)), (3, .int (iI x38)), (5, .int (iI x39)), (6, .int (iI x40))]) hx hb dX12_findPlan_423 hl (k := 3) rfl (by decide) rfl (fun ls hl => ?_)
                              refine lv_goto (tgt := 257) hx hb dX12_findPlan_426 (by decide) ?_
                              obtain ⟨n54, h55, h⟩ := h
                              exact i34 n54 h55 x38 (x26 + 1) M41 _ _ _ h hS hS0 (lv_sub hl [1, 2, 3, 0] rfl)
                            · skip
                              have h := h.2 c53
                              refine z_iconst hx hb dX12_findPlan_289 ?_
                              refine lv_istore (lv' := [(7, .int (iI 0)), (0, .ref (b + 0)), (2, .int (iI t22)), (3, .int (iI x38)), (4, .int (iI x26)), (5, .int (iI x39)), (6, .int (iI x40))]) hx hb dX12_findPlan_290 hl (by decide) rfl (fun ls hl => ?_)
                              obtain ⟨I60, ⟨n61, h62⟩, h63⟩ := h
                              have L64 : ∀ (n65 : Nat) (x56 x57 x58 : Int) (M59 : zM) (H : Heap) (locs : List Loc) (ls : Array Slot), I60 n65 x56 x57 x58 M59 → zR D dA vwCl wR nR b M59 H → va_S (zA nR b) s.heap H locs → lv_has ls 9 [(0, .ref (b + 0)), (2, .int (iI t22)), (3, .int (iI x56)), (4, .int (iI x26)), (5, .int (iI x57)), (6, .int (iI x40)), (7, .int (iI x58))] → W p l e (headSpec (.code yX12_findPlan cX12_findPlan 9 (some .int) :: zt) (z_rm 3)).room s m args below meth c H locs 0 0 (MQ below (va_Qi (wQi Q) (zB D dA vwCl wR nR b) (zA nR b)) args s 0 0 (zA nR b)) (F0 m 292 ls []) := by
                                intro n65
                                induction n65 using Nat.strongRecOn with
                                | ind n65 i66 =>
                                  intro x56 x57 x58 M59 H locs ls h hS hS0 hl
                                  have h := h63 n65 x56 x57 x58 M59 h
                                  refine lv_iload hx hb dX12_findPlan_292 (lv_at hl 6 rfl) ?_
                                  refine lv_aload_n hx hb dX12_findPlan_294 rfl (lv_at hl 0 rfl) ?_
                                  refine w_getr (j2 := 4) hx hb hts (z_memU u12) hown hK.1 hS f12_5 (by decide) (zkd_of (rfl : zcd wR 0 = 50) rfl) (zrf_of (rfl : zcd wR 0 = 50) rfl) (Or.inl (hts _ (z_mem k949))) dX12_findPlan_295 ?_
                                  refine lv_iload hx hb dX12_findPlan_298 (lv_at hl 3 rfl) ?_
                                  obtain ⟨o67, h⟩ := h
                                  refine w_iald (n := 4) (i := (sI x26)) hx hb hK.1 (t0 := 0) rfl hS (by decide) (zkd_of (rfl : zcd wR 4 = 54) rfl) (zln_of (rfl : zcd wR 4 = 54) rfl) rfl o67.1 o67.2 (by decide) dX12_findPlan_300 ?_
                                  refine lv_iload hx hb dX12_findPlan_301 (lv_at hl 5 rfl) ?_
                                  refine z_isub hx hb dX12_findPlan_303 ?_
                                  refine w_icmp_ge (tgt := 417) hx hb rfl rfl dX12_findPlan_304 (by decide) (fun c68 => ?_) (fun c68 => ?_)
                                  · skip
                                    have h := h.1 c68
                                    refine z_iinc (lv' := [(6, .int (iI (x40 + 1))), (0, .ref (b + 0)), (2, .int (iI t22)), (3, .int (iI x56)), (4, .int (iI x26)), (5, .int (iI x57)), (7, .int (iI x58))]) hx hb dX12_findPlan_417 hl (k := 5) rfl (by decide) rfl (fun ls hl => ?_)
                                    refine lv_goto (tgt := 272) hx hb dX12_findPlan_420 (by decide) ?_
                                    obtain ⟨n69, h70, h⟩ := h
                                    exact i48 n69 h70 x56 x57 (x40 + 1) M59 _ _ _ h hS hS0 (lv_sub hl [1, 2, 3, 4, 5, 0] rfl)
                                  · skip
                                    have h := h.2 c68
                                    refine lv_iload hx hb dX12_findPlan_307 (lv_at hl 4 rfl) ?_
                                    refine w_if_ne (tgt := 417) hx hb rfl dX12_findPlan_309 (by decide) (fun c71 => ?_) (fun c71 => ?_)
                                    · skip
                                      have h := h.1 c71
                                      refine z_iinc (lv' := [(6, .int (iI (x40 + 1))), (0, .ref (b + 0)), (2, .int (iI t22)), (3, .int (iI x56)), (4, .int (iI x26)), (5, .int (iI x57)), (7, .int (iI x58))]) hx hb dX12_findPlan_417 hl (k := 5) rfl (by decide) rfl (fun ls hl => ?_)
                                      refine lv_goto (tgt := 272) hx hb dX12_findPlan_420 (by decide) ?_
                                      obtain ⟨n72, h73, h⟩ := h
                                      exact i48 n72 h73 x56 x57 (x40 + 1) M59 _ _ _ h hS hS0 (lv_sub hl [1, 2, 3, 4, 5, 0] rfl)
                                    · skip
                                      have h := h.2 c71
                                      refine lv_iload_n hx hb dX12_findPlan_312 rfl (lv_at hl 2 rfl) ?_
                                      refine lv_aload_n hx hb dX12_findPlan_313 rfl (lv_at hl 0 rfl) ?_
                                      refine w_getr (j2 := 29) hx hb hts (z_memU u12) hown hK.1 hS f12_44 (by decide) (zkd_of (rfl : zcd wR 0 = 50) rfl) (zrf_of (rfl : zcd wR 0 = 50) rfl) (Or.inl (hts _ (z_mem k988))) dX12_findPlan_314 ?_
                                      refine z_bipush hx hb (by decide) dX12_findPlan_317 ?_
                                      refine z_bipush hx hb (by decide) dX12_findPlan_319 ?_
                                      refine lv_iload hx hb dX12_findPlan_321 (lv_at hl 3 rfl) ?_
                                      refine z_imul hx hb dX12_findPlan_323 ?_
                                      refine lv_iload hx hb dX12_findPlan_324 (lv_at hl 5 rfl) ?_
                                      refine z_iadd hx hb dX12_findPlan_326 ?_
                                      refine z_imul hx hb dX12_findPlan_327 ?_
                                      refine lv_iload hx hb dX12_findPlan_328 (lv_at hl 6 rfl) ?_
                                      refine z_iadd hx hb dX12_findPlan_330 ?_
                                      obtain ⟨o74, h⟩ := h
                                      refine w_iald (n := 2304) (i := (sI ((24 * ((24 * x26) + x40)) + x58))) hx hb hK.1 (t0 := 0) rfl hS (by decide) (zkd_of (rfl : zcd wR 29 = 79) rfl) (zln_of (rfl : zcd wR 29 = 79) rfl) rfl o74.1 o74.2 (by decide) dX12_findPlan_331 ?_
                                      refine z_iconst hx hb dX12_findPlan_332 ?_
                                      refine w_ixor hx hb dX12_findPlan_333 ?_
                                      refine w_iand hx hb dX12_findPlan_334 ?_
                                      obtain ⟨t75, e76⟩ : ∃ t75 : Int, t75 = (andI x56 (xorI (M59 29 (sI ((24 * ((24 * x26) + x40)) + x58)).toNat) (-1))) := ⟨_, rfl⟩
                                      refine z_top (y := t75) e76.symm ?_
                                      have h := h t75 e76
                                      refine lv_istore (lv' := [(8, .int (iI t75)), (0, .ref (b + 0)), (2, .int (iI t22)), (3, .int (iI x56)), (4, .int (iI x26)), (5, .int (iI x57)), (6, .int (iI x40)), (7, .int (iI x58))]) hx hb dX12_findPlan_335 hl (by decide) rfl (fun ls hl => ?_)
                                      refine lv_aload_n hx hb dX12_findPlan_337 rfl (lv_at hl 1 rfl) ?_
                                      refine lv_iload hx hb dX12_findPlan_338 (lv_at hl 4 rfl) ?_
                                      refine lv_iload hx hb dX12_findPlan_340 (lv_at hl 6 rfl) ?_
                                      refine lv_iload hx hb dX12_findPlan_342 (lv_at hl 7 rfl) ?_
                                      refine w_calli (va_runV (As := [.int (iI x26), .int (iI x40), .int (iI x58)]) (rest := []) ⟨hx, hb, hml, hown, hts⟩ (cR_costOf l D dA b M59 x26 x40 x58 _ h) (cwV 3 hts (z_gV k1226 k1227 k1413 k14 k1228) rfl rfl rfl dm_X12_costOf ⟨Nat.le_of_ble_eq_true rfl, Nat.le_of_ble_eq_true rfl⟩) ⟨wPre_blind, (w_recv hS hK.1 (by decide) (zkd_of (rfl : zcd wR 0 = 50) rfl) (by decide) (rfl : vwCl[12]? = some (RX12, TX12, 50))), w_pre hS hK⟩ rfl rfl hl.1 rfl (lv_room (Nat.le_of_ble_eq_true rfl)) dX12_findPlan_344 ⟨Nat.le_refl _, Nat.le_refl _⟩) hS0 (fun z78 M77 H locs r79 h hS hS0 => ?_)
                                      obtain ⟨e80, h⟩ := h
                                      rw [e80] at hS
                                      refine lv_aload_n hx hb dX12_findPlan_347 rfl (lv_at hl 1 rfl) ?_
                                      refine w_getr (j2 := 28) hx hb hts (z_memU u12) hown hK.1 hS f12_43 (by decide) (zkd_of (rfl : zcd wR 0 = 50) rfl) (zrf_of (rfl : zcd wR 0 = 50) rfl) (Or.inl (hts _ (z_mem k987))) dX12_findPlan_348 ?_
                                      refine z_bipush hx hb (by decide) dX12_findPlan_351 ?_
                                      refine lv_iload hx hb dX12_findPlan_353 (lv_at hl 4 rfl) ?_
                                      refine z_iconst hx hb dX12_findPlan_355 ?_
                                      refine z_iadd hx hb dX12_findPlan_356 ?_
                                      refine z_imul hx hb dX12_findPlan_357 ?_
                                      refine lv_iload hx hb dX12_findPlan_358 (lv_at hl 0 rfl) ?_
                                      refine z_iadd hx hb dX12_findPlan_360 ?_
                                      obtain ⟨o81, h⟩ := h
                                      refine w_iald (n := 320) (i := (sI ((64 * (x26 + 1)) + t75))) hx hb hK.1 (t0 := 0) rfl hS (by decide) (zkd_of (rfl : zcd wR 28 = 78) rfl) (zln_of (rfl : zcd wR 28 = 78) rfl) rfl o81.1 o81.2 (by decide) dX12_findPlan_361 ?_
                                      refine z_iadd hx hb dX12_findPlan_362 ?_
                                      refine lv_aload_n hx hb dX12_findPlan_363 rfl (lv_at hl 1 rfl) ?_
                                      refine w_getr (j2 := 28) hx hb hts (z_memU u12) hown hK.1 hS f12_43 (by decide) (zkd_of (rfl : zcd wR 0 = 50) rfl) (zrf_of (rfl : zcd wR 0 = 50) rfl) (Or.inl (hts _ (z_mem k987))) dX12_findPlan_364 ?_
                                      refine z_bipush hx hb (by decide) dX12_findPlan_367 ?_
                                      refine lv_iload hx hb dX12_findPlan_369 (lv_at hl 4 rfl) ?_
                                      refine z_imul hx hb dX12_findPlan_371 ?_
                                      refine lv_iload_n hx hb dX12_findPlan_372 rfl (lv_at hl 3 rfl) ?_
                                      refine z_iadd hx hb dX12_findPlan_373 ?_
                                      obtain ⟨o82, h⟩ := h
                                      refine w_iald (n := 320) (i := (sI ((64 * x26) + x56))) hx hb hK.1 (t0 := 0) rfl hS (by decide) (zkd_of (rfl : zcd wR 28 = 78) rfl) (zln_of (rfl : zcd wR 28 = 78) rfl) rfl o82.1 o82.2 (by decide) dX12_findPlan_374 ?_
                                      refine w_icmp_eq (tgt := 381) hx hb rfl rfl dX12_findPlan_375 (by decide) (fun c83 => ?_) (fun c83 => ?_)
                                      · skip
                                        have h := h.1 c83
                                        refine lv_aload_n hx hb dX12_findPlan_381 rfl (lv_at hl 1 rfl) ?_
                                        refine w_getr (j2 := 22) hx hb hts (z_memU u12) hown hK.1 hS f12_33 (by decide) (zkd_of (rfl : zcd wR 0 = 50) rfl) (zrf_of (rfl : zcd wR 0 = 50) rfl) (Or.inl (hts _ (z_mem k977))) dX12_findPlan_382 ?_
                                        refine z_iconst hx hb dX12_findPlan_385 ?_
                                        refine lv_iload hx hb dX12_findPlan_386 (lv_at hl 4 rfl) ?_
                                        refine z_imul hx hb dX12_findPlan_388 ?_
                                        refine lv_iload hx hb dX12_findPlan_389 (lv_at hl 6 rfl) ?_
                                        obtain ⟨o84, h⟩ := h
                                        refine w_iast (z := x40) (n := 64) (i := (sI (2 * x26))) hx hb hK.1 (t0 := 0) rfl hS hS0 (by decide) (zkd_of (rfl : zcd wR 22 = 72) rfl) (zln_of (rfl : zcd wR 22 = 72) rfl) rfl o84.1 o84.2 (by decide) dX12_findPlan_391 (fun H locs hS hS0 => ?_)
                                        obtain ⟨M85, e86⟩ : ∃ M85 : zM, M85 = zup M59 22 (sI (2 * x26)).toNat x40 := ⟨_, rfl⟩
                                        rw [← e86] at hS
                                        have h := h M85 e86
                                        refine lv_aload_n hx hb dX12_findPlan_392 rfl (lv_at hl 1 rfl) ?_
                                        refine w_getr (j2 := 22) hx hb hts (z_memU u12) hown hK.1 hS f12_33 (by decide) (zkd_of (rfl : zcd wR 0 = 50) rfl) (zrf_of (rfl : zcd wR 0 = 50) rfl) (Or.inl (hts _ (z_mem k977))) dX12_findPlan_393 ?_
                                        refine z_iconst hx hb dX12_findPlan_396 ?_
                                        refine lv_iload hx hb dX12_findPlan_397 (lv_at hl 4 rfl) ?_
                                        refine z_imul hx hb dX12_findPlan_399 ?_
                                        refine z_iconst hx hb dX12_findPlan_400 ?_
                                        refine z_iadd hx hb dX12_findPlan_401 ?_
                                        refine lv_iload hx hb dX12_findPlan_402 (lv_at hl 7 rfl) ?_
                                        obtain ⟨o87, h⟩ := h
                                        refine w_iast (z := x58) (n := 64) (i := (sI ((2 * x26) + 1))) hx hb hK.1 (t0 := 0) rfl hS hS0 (by decide) (zkd_of (rfl : zcd wR 22 = 72) rfl) (zln_of (rfl : zcd wR 22 = 72) rfl) rfl o87.1 o87.2 (by decide) dX12_findPlan_404 (fun H locs hS hS0 => ?_)
                                        obtain ⟨M88, e89⟩ : ∃ M88 : zM, M88 = zup M85 22 (sI ((2 * x26) + 1)).toNat x58 := ⟨_, rfl⟩
                                        rw [← e89] at hS
                                        have h := h M88 e89
                                        refine lv_iload hx hb dX12_findPlan_405 (lv_at hl 0 rfl) ?_
                                        refine lv_istore_n (lv' := [(3, .int (iI t75)), (8, .int (iI t75)), (0, .ref (b + 0)), (2, .int (iI t22)), (4, .int (iI x26)), (5, .int (iI x57)), (6, .int (iI x40)), (7, .int (iI x58))]) hx hb dX12_findPlan_407 rfl hl (by decide) rfl (fun ls hl => ?_)
                                        refine z_iconst hx hb dX12_findPlan_408 ?_
                                        refine lv_istore (lv' := [(5, .int (iI 1)), (3, .int (iI t75)), (8, .int (iI t75)), (0, .ref (b + 0)), (2, .int (iI t22)), (4, .int (iI x26)), (6, .int (iI x40)), (7, .int (iI x58))]) hx hb dX12_findPlan_409 hl (by decide) rfl (fun ls hl => ?_)
                                        refine z_iinc (lv' := [(7, .int (iI (x58 + 1))), (5, .int (iI 1)), (3, .int (iI t75)), (8, .int (iI t75)), (0, .ref (b + 0)), (2, .int (iI t22)), (4, .int (iI x26)), (6, .int (iI x40))]) hx hb dX12_findPlan_411 hl (k := 7) rfl (by decide) rfl (fun ls hl => ?_)
                                        refine lv_goto (tgt := 292) hx hb dX12_findPlan_414 (by decide) ?_
                                        obtain ⟨n90, h91, h⟩ := h
                                        exact i66 n90 h91 t75 1 (x58 + 1) M88 _ _ _ h hS hS0 (lv_sub hl [4, 5, 2, 6, 1, 7, 0] rfl)
                                      · skip
                                        have h := h.2 c83
                                        refine lv_goto (tgt := 411) hx hb dX12_findPlan_378 (by decide) ?_
                                        refine z_iinc (lv' := [(7, .int (iI (x58 + 1))), (8, .int (iI t75)), (0, .ref (b + 0)), (2, .int (iI t22)), (3, .int (iI x56)), (4, .int (iI x26)), (5, .int (iI x57)), (6, .int (iI x40))]) hx hb dX12_findPlan_411 hl (k := 7) rfl (by decide) rfl (fun ls hl => ?_)
                                        refine lv_goto (tgt := 292) hx hb dX12_findPlan_414 (by decide) ?_
                                        obtain ⟨n92, h93, h⟩ := h
                                        exact i66 n92 h93 x56 x57 (x58 + 1) M59 _ _ _ h hS hS0 (lv_sub hl [2, 3, 4, 5, 6, 7, 0] rfl)
                              exact L64 n61 x38 x39 0 M41 _ _ _ h62 hS hS0 (lv_sub hl [1, 2, 3, 4, 5, 6, 0] rfl)
                      exact L46 n43 x25 0 0 M27 _ _ _ h44 hS hS0 (lv_sub hl [2, 3, 4, 5, 1, 0] rfl)
                exact L32 n29 ((shlI 1 (M 0 16)) - 1) 0 M12 _ _ _ h30 hS hS0 (lv_sub hl [3, 2, 1, 0] rfl)
              · skip
                have h := h.2 c24
                refine z_iconst hx hb dX12_findPlan_248 ?_
                exact w_iret hx hb hr hlocks hS hS0 (sI_of (by decide)) h dX12_findPlan_249
            · skip
              have h := h.2 c20
              refine z_iconst hx hb dX12_findPlan_56 ?_
              refine lv_istore_n (lv' := [(3, .int (iI 0)), (0, .ref (b + 0)), (1, .int (iI (shlI 1 (M 0 16)))), (2, .int (iI x11))]) hx hb dX12_findPlan_57 rfl hl (by decide) rfl (fun ls hl => ?_)
              obtain ⟨I96, ⟨n97, h98⟩, h99⟩ := h
              have L100 : ∀ (n101 : Nat) (x94 : Int) (M95 : zM) (H : Heap) (locs : List Loc) (ls : Array Slot), I96 n101 x94 M95 → zR D dA vwCl wR nR b M95 H → va_S (zA nR b) s.heap H locs → lv_has ls 9 [(0, .ref (b + 0)), (1, .int (iI (shlI 1 (M 0 16)))), (2, .int (iI x11)), (3, .int (iI x94))] → W p l e (headSpec (.code yX12_findPlan cX12_findPlan 9 (some .int) :: zt) (z_rm 3)).room s m args below meth c H locs 0 0 (MQ below (va_Qi (wQi Q) (zB D dA vwCl wR nR b) (zA nR b)) args s 0 0 (zA nR b)) (F0 m 58 ls []) := by
                intro n101
                induction n101 using Nat.strongRecOn with
                | ind n101 i102 =>
                  intro x94 M95 H locs ls h hS hS0 hl
                  have h := h99 n101 x94 M95 h
                  refine lv_iload_n hx hb dX12_findPlan_58 rfl (lv_at hl 3 rfl) ?_
                  refine lv_iload_n hx hb dX12_findPlan_59 rfl (lv_at hl 1 rfl) ?_
                  refine w_icmp_ge (tgt := 83) hx hb rfl (sI_of (shlI_R _ _)) dX12_findPlan_60 (by decide) (fun c103 => ?_) (fun c103 => ?_)
                  · skip
                    have h := h.1 c103
                    refine z_iconst hx hb dX12_findPlan_83 ?_
                    refine lv_istore_n (lv' := [(3, .int (iI 0)), (0, .ref (b + 0)), (1, .int (iI (shlI 1 (M 0 16)))), (2, .int (iI x11))]) hx hb dX12_findPlan_84 rfl hl (by decide) rfl (fun ls hl => ?_)
                    obtain ⟨I106, ⟨n107, h108⟩, h109⟩ := h
                    have L110 : ∀ (n111 : Nat) (x104 : Int) (M105 : zM) (H : Heap) (locs : List Loc) (ls : Array Slot), I106 n111 x104 M105 → zR D dA vwCl wR nR b M105 H → va_S (zA nR b) s.heap H locs → lv_has ls 9 [(0, .ref (b + 0)), (1, .int (iI (shlI 1 (M 0 16)))), (2, .int (iI x11)), (3, .int (iI x104))] → W p l e (headSpec (.code yX12_findPlan cX12_findPlan 9 (some .int) :: zt) (z_rm 3)).room s m args below meth c H locs 0 0 (MQ below (va_Qi (wQi Q) (zB D dA vwCl wR nR b) (zA nR b)) args s 0 0 (zA nR b)) (F0 m 85 ls []) := by
                      intro n111
                      induction n111 using Nat.strongRecOn with
                      | ind n111 i112 =>
                        intro x104 M105 H locs ls h hS hS0 hl
                        have h := h109 n111 x104 M105 h
                        refine lv_iload_n hx hb dX12_findPlan_85 rfl (lv_at hl 3 rfl) ?_
                        refine lv_aload_n hx hb dX12_findPlan_86 rfl (lv_at hl 0 rfl) ?_
                        refine w_getr (j2 := 4) hx hb hts (z_memU u12) hown hK.1 hS f12_5 (by decide) (zkd_of (rfl : zcd wR 0 = 50) rfl) (zrf_of (rfl : zcd wR 0 = 50) rfl) (Or.inl (hts _ (z_mem k949))) dX12_findPlan_87 ?_
                        refine lv_iload_n hx hb dX12_findPlan_90 rfl (lv_at hl 2 rfl) ?_
                        obtain ⟨o113, h⟩ := h
                        refine w_iald (n := 4) (i := (sI x11)) hx hb hK.1 (t0 := 0) rfl hS (by decide) (zkd_of (rfl : zcd wR 4 = 54) rfl) (zln_of (rfl : zcd wR 4 = 54) rfl) rfl o113.1 o113.2 (by decide) dX12_findPlan_91 ?_
                        refine w_icmp_ge (tgt := 226) hx hb rfl rfl dX12_findPlan_92 (by decide) (fun c114 => ?_) (fun c114 => ?_)
                        · skip
                          have h := h.1 c114
                          refine z_iinc (lv' := [(2, .int (iI (x11 + (-1)))), (0, .ref (b + 0)), (1, .int (iI (shlI 1 (M 0 16)))), (3, .int (iI x104))]) hx hb dX12_findPlan_226 hl (k := 2) rfl (by decide) rfl (fun ls hl => ?_)
                          refine lv_goto (tgt := 52) hx hb dX12_findPlan_229 (by decide) ?_
                          obtain ⟨n115, h116, h⟩ := h
                          exact i19 n115 h116 (x11 + (-1)) M105 _ _ _ h hS hS0 (lv_sub hl [1, 2, 0] rfl)
                        · skip
                          have h := h.2 c114
                          refine z_iconst hx hb dX12_findPlan_95 ?_
                          refine lv_istore (lv' := [(4, .int (iI 0)), (0, .ref (b + 0)), (1, .int (iI (shlI 1 (M 0 16)))), (2, .int (iI x11)), (3, .int (iI x104))]) hx hb dX12_findPlan_96 hl (by decide) rfl (fun ls hl => ?_)
                          obtain ⟨I119, ⟨n120, h121⟩, h122⟩ := h
                          have L123 : ∀ (n124 : Nat) (x117 : Int) (M118 : zM) (H : Heap) (locs : List Loc) (ls : Array Slot), I119 n124 x117 M118 → zR D dA vwCl wR nR b M118 H → va_S (zA nR b) s.heap H locs → lv_has ls 9 [(0, .ref (b + 0)), (1, .int (iI (shlI 1 (M 0 16)))), (2, .int (iI x11)), (3, .int (iI x104)), (4, .int (iI x117))] → W p l e (headSpec (.code yX12_findPlan cX12_findPlan 9 (some .int) :: zt) (z_rm 3)).room s m args below meth c H locs 0 0 (MQ below (va_Qi (wQi Q) (zB D dA vwCl wR nR b) (zA nR b)) args s 0 0 (zA nR b)) (F0 m 98 ls []) := by
                            intro n124
                            induction n124 using Nat.strongRecOn with
                            | ind n124 i125 =>
                              intro x117 M118 H locs ls h hS hS0 hl
                              have h := h122 n124 x117 M118 h
                              refine lv_iload hx hb dX12_findPlan_98 (lv_at hl 4 rfl) ?_
                              refine lv_aload_n hx hb dX12_findPlan_100 rfl (lv_at hl 0 rfl) ?_
                              refine w_getr (j2 := 4) hx hb hts (z_memU u12) hown hK.1 hS f12_5 (by decide) (zkd_of (rfl : zcd wR 0 = 50) rfl) (zrf_of (rfl : zcd wR 0 = 50) rfl) (Or.inl (hts _ (z_mem k949))) dX12_findPlan_101 ?_
                              refine lv_iload_n hx hb dX12_findPlan_104 rfl (lv_at hl 2 rfl) ?_
                              obtain ⟨o126, h⟩ := h
                              refine w_iald (n := 4) (i := (sI x11)) hx hb hK.1 (t0 := 0) rfl hS (by decide) (zkd_of (rfl : zcd wR 4 = 54) rfl) (zln_of (rfl : zcd wR 4 = 54) rfl) rfl o126.1 o126.2 (by decide) dX12_findPlan_105 ?_
                              refine lv_iload_n hx hb dX12_findPlan_106 rfl (lv_at hl 3 rfl) ?_
                              refine z_isub hx hb dX12_findPlan_107 ?_
                              refine w_icmp_ge (tgt := 220) hx hb rfl rfl dX12_findPlan_108 (by decide) (fun c127 => ?_) (fun c127 => ?_)
                              · skip
                                have h := h.1 c127
                                refine z_iinc (lv' := [(3, .int (iI (x104 + 1))), (0, .ref (b + 0)), (1, .int (iI (shlI 1 (M 0 16)))), (2, .int (iI x11)), (4, .int (iI x117))]) hx hb dX12_findPlan_220 hl (k := 3) rfl (by decide) rfl (fun ls hl => ?_)
                                refine lv_goto (tgt := 85) hx hb dX12_findPlan_223 (by decide) ?_
                                obtain ⟨n128, h129, h⟩ := h
                                exact i112 n128 h129 (x104 + 1) M118 _ _ _ h hS hS0 (lv_sub hl [1, 2, 3, 0] rfl)
                              · skip
                                have h := h.2 c127
                                refine lv_aload_n hx hb dX12_findPlan_111 rfl (lv_at hl 0 rfl) ?_
                                refine lv_iload_n hx hb dX12_findPlan_112 rfl (lv_at hl 2 rfl) ?_
                                refine lv_iload_n hx hb dX12_findPlan_113 rfl (lv_at hl 3 rfl) ?_
                                refine lv_iload hx hb dX12_findPlan_114 (lv_at hl 4 rfl) ?_
                                refine w_calli (va_runV (As := [.int (iI x11), .int (iI x104), .int (iI x117)]) (rest := []) ⟨hx, hb, hml, hown, hts⟩ (cR_truths l D dA b M118 x11 x104 x117 _ h) (cwV 3 hts (z_gV k1215 k1216 k1411 k14 k1217) rfl rfl rfl dm_X12_truths ⟨Nat.le_of_ble_eq_true rfl, Nat.le_of_ble_eq_true rfl⟩) ⟨wPre_blind, (w_recv hS hK.1 (by decide) (zkd_of (rfl : zcd wR 0 = 50) rfl) (by decide) (rfl : vwCl[12]? = some (RX12, TX12, 50))), w_pre hS hK⟩ rfl rfl hl.1 rfl (lv_room (Nat.le_of_ble_eq_true rfl)) dX12_findPlan_116 ⟨Nat.le_refl _, Nat.le_refl _⟩) hS0 (fun z131 M130 H locs r132 h hS hS0 => ?_)
                                obtain ⟨e133, h⟩ := h
                                rw [e133] at hS
                                refine lv_istore (lv' := [(5, .int (iI z131)), (0, .ref (b + 0)), (1, .int (iI (shlI 1 (M 0 16)))), (2, .int (iI x11)), (3, .int (iI x104)), (4, .int (iI x117))]) hx hb dX12_findPlan_119 hl (by decide) rfl (fun ls hl => ?_)
                                refine lv_aload_n hx hb dX12_findPlan_121 rfl (lv_at hl 1 rfl) ?_
                                refine w_getr (j2 := 29) hx hb hts (z_memU u12) hown hK.1 hS f12_44 (by decide) (zkd_of (rfl : zcd wR 0 = 50) rfl) (zrf_of (rfl : zcd wR 0 = 50) rfl) (Or.inl (hts _ (z_mem k988))) dX12_findPlan_122 ?_
                                refine z_bipush hx hb (by decide) dX12_findPlan_125 ?_
                                refine z_bipush hx hb (by decide) dX12_findPlan_127 ?_
                                refine lv_iload_n hx hb dX12_findPlan_129 rfl (lv_at hl 3 rfl) ?_
                                refine z_imul hx hb dX12_findPlan_130 ?_
                                refine lv_iload_n hx hb dX12_findPlan_131 rfl (lv_at hl 4 rfl) ?_
                                refine z_iadd hx hb dX12_findPlan_132 ?_
                                refine z_imul hx hb dX12_findPlan_133 ?_
                                refine lv_iload hx hb dX12_findPlan_134 (lv_at hl 5 rfl) ?_
                                refine z_iadd hx hb dX12_findPlan_136 ?_
                                refine lv_iload hx hb dX12_findPlan_137 (lv_at hl 0 rfl) ?_
                                obtain ⟨o134, h⟩ := h
                                refine w_iast (z := z131) (n := 2304) (i := (sI ((24 * ((24 * x11) + x104)) + x117))) hx hb hK.1 (t0 := 0) rfl hS hS0 (by decide) (zkd_of (rfl : zcd wR 29 = 79) rfl) (zln_of (rfl : zcd wR 29 = 79) rfl) rfl o134.1 o134.2 (by decide) dX12_findPlan_139 (fun H locs hS hS0 => ?_)
                                obtain ⟨M135, e136⟩ : ∃ M135 : zM, M135 = zup M118 29 (sI ((24 * ((24 * x11) + x104)) + x117)).toNat z131 := ⟨_, rfl⟩
                                rw [← e136] at hS
                                have h := h M135 e136
                                refine z_iconst hx hb dX12_findPlan_140 ?_
                                refine lv_istore (lv' := [(6, .int (iI 0)), (5, .int (iI z131)), (0, .ref (b + 0)), (1, .int (iI (shlI 1 (M 0 16)))), (2, .int (iI x11)), (3, .int (iI x104)), (4, .int (iI x117))]) hx hb dX12_findPlan_141 hl (by decide) rfl (fun ls hl => ?_)
                                obtain ⟨I139, ⟨n140, h141⟩, h142⟩ := h
                                have L143 : ∀ (n144 : Nat) (x137 : Int) (M138 : zM) (H : Heap) (locs : List Loc) (ls : Array Slot), I139 n144 x137 M138 → zR D dA vwCl wR nR b M138 H → va_S (zA nR b) s.heap H locs → lv_has ls 9 [(0, .ref (b + 0)), (1, .int (iI (shlI 1 (M 0 16)))), (2, .int (iI x11)), (3, .int (iI x104)), (4, .int (iI x117)), (5, .int (iI z131)), (6, .int (iI x137))] → W p l e (headSpec (.code yX12_findPlan cX12_findPlan 9 (some .int) :: zt) (z_rm 3)).room s m args below meth c H locs 0 0 (MQ below (va_Qi (wQi Q) (zB D dA vwCl wR nR b) (zA nR b)) args s 0 0 (zA nR b)) (F0 m 143 ls []) := by
                                  intro n144
                                  induction n144 using Nat.strongRecOn with
                                  | ind n144 i145 =>
                                    intro x137 M138 H locs ls h hS hS0 hl
                                    have h := h142 n144 x137 M138 h
                                    refine lv_iload hx hb dX12_findPlan_143 (lv_at hl 6 rfl) ?_
                                    refine lv_iload_n hx hb dX12_findPlan_145 rfl (lv_at hl 1 rfl) ?_
                                    refine w_icmp_ge (tgt := 214) hx hb rfl (sI_of (shlI_R _ _)) dX12_findPlan_146 (by decide) (fun c146 => ?_) (fun c146 => ?_)
                                    · skip
                                      have h := h.1 c146
                                      refine z_iinc (lv' := [(4, .int (iI (x117 + 1))), (0, .ref (b + 0)), (1, .int (iI (shlI 1 (M 0 16)))), (2, .int (iI x11)), (3, .int (iI x104)), (5, .int (iI z131)), (6, .int (iI x137))]) hx hb dX12_findPlan_214 hl (k := 4) rfl (by decide) rfl (fun ls hl => ?_)
                                      refine lv_goto (tgt := 98) hx hb dX12_findPlan_217 (by decide) ?_
                                      obtain ⟨n147, h148, h⟩ := h
                                      exact i125 n147 h148 (x117 + 1) M138 _ _ _ h hS hS0 (lv_sub hl [1, 2, 3, 4, 0] rfl)
                                    · skip
                                      have h := h.2 c146
                                      refine lv_aload_n hx hb dX12_findPlan_149 rfl (lv_at hl 0 rfl) ?_
                                      refine lv_iload_n hx hb dX12_findPlan_150 rfl (lv_at hl 2 rfl) ?_
                                      refine lv_iload_n hx hb dX12_findPlan_151 rfl (lv_at hl 3 rfl) ?_
                                      refine lv_iload hx hb dX12_findPlan_152 (lv_at hl 4 rfl) ?_
                                      refine w_calli (va_runV (As := [.int (iI x11), .int (iI x104), .int (iI x117)]) (rest := []) ⟨hx, hb, hml, hown, hts⟩ (cR_costOf l D dA b M138 x11 x104 x117 _ h) (cwV 3 hts (z_gV k1226 k1227 k1413 k14 k1228) rfl rfl rfl dm_X12_costOf ⟨Nat.le_of_ble_eq_true rfl, Nat.le_of_ble_eq_true rfl⟩) ⟨wPre_blind, (w_recv hS hK.1 (by decide) (zkd_of (rfl : zcd wR 0 = 50) rfl) (by decide) (rfl : vwCl[12]? = some (RX12, TX12, 50))), w_pre hS hK⟩ rfl rfl hl.1 rfl (lv_room (Nat.le_of_ble_eq_true rfl)) dX12_findPlan_154 ⟨Nat.le_refl _, Nat.le_refl _⟩) hS0 (fun z150 M149 H locs r151 h hS hS0 => ?_)
                                      obtain ⟨e152, h⟩ := h
                                      rw [e152] at hS
                                      refine lv_aload_n hx hb dX12_findPlan_157 rfl (lv_at hl 0 rfl) ?_
                                      refine w_getr (j2 := 28) hx hb hts (z_memU u12) hown hK.1 hS f12_43 (by decide) (zkd_of (rfl : zcd wR 0 = 50) rfl) (zrf_of (rfl : zcd wR 0 = 50) rfl) (Or.inl (hts _ (z_mem k987))) dX12_findPlan_158 ?_
                                      refine z_bipush hx hb (by decide) dX12_findPlan_161 ?_
                                      refine lv_iload_n hx hb dX12_findPlan_163 rfl (lv_at hl 2 rfl) ?_
                                      refine z_iconst hx hb dX12_findPlan_164 ?_
                                      refine z_iadd hx hb dX12_findPlan_165 ?_
                                      refine z_imul hx hb dX12_findPlan_166 ?_
                                      refine lv_iload hx hb dX12_findPlan_167 (lv_at hl 6 rfl) ?_
                                      refine lv_iload hx hb dX12_findPlan_169 (lv_at hl 5 rfl) ?_
                                      refine z_iconst hx hb dX12_findPlan_171 ?_
                                      refine w_ixor hx hb dX12_findPlan_172 ?_
                                      refine w_iand hx hb dX12_findPlan_173 ?_
                                      refine z_iadd hx hb dX12_findPlan_174 ?_
                                      obtain ⟨o153, h⟩ := h
                                      refine w_iald (n := 320) (i := (sI ((64 * (x11 + 1)) + (andI x137 (xorI z131 (-1)))))) hx hb hK.1 (t0 := 0) rfl hS (by decide) (zkd_of (rfl : zcd wR 28 = 78) rfl) (zln_of (rfl : zcd wR 28 = 78) rfl) rfl o153.1 o153.2 (by decide) dX12_findPlan_175 ?_
                                      refine z_iadd hx hb dX12_findPlan_176 ?_
                                      obtain ⟨t154, e155⟩ : ∃ t154 : Int, t154 = (z150 + (M138 28 (sI ((64 * (x11 + 1)) + (andI x137 (xorI z131 (-1))))).toNat)) := ⟨_, rfl⟩
                                      refine z_top (y := t154) e155.symm ?_
                                      have h := h t154 e155
                                      refine lv_istore (lv' := [(7, .int (iI t154)), (0, .ref (b + 0)), (1, .int (iI (shlI 1 (M 0 16)))), (2, .int (iI x11)), (3, .int (iI x104)), (4, .int (iI x117)), (5, .int (iI z131)), (6, .int (iI x137))]) hx hb dX12_findPlan_177 hl (by decide) rfl (fun ls hl => ?_)
                                      refine lv_aload_n hx hb dX12_findPlan_179 rfl (lv_at hl 1 rfl) ?_
                                      refine w_getr (j2 := 28) hx hb hts (z_memU u12) hown hK.1 hS f12_43 (by decide) (zkd_of (rfl : zcd wR 0 = 50) rfl) (zrf_of (rfl : zcd wR 0 = 50) rfl) (Or.inl (hts _ (z_mem k987))) dX12_findPlan_180 ?_
                                      refine z_bipush hx hb (by decide) dX12_findPlan_183 ?_
                                      refine lv_iload_n hx hb dX12_findPlan_185 rfl (lv_at hl 3 rfl) ?_
                                      refine z_imul hx hb dX12_findPlan_186 ?_
                                      refine lv_iload hx hb dX12_findPlan_187 (lv_at hl 7 rfl) ?_
                                      refine z_iadd hx hb dX12_findPlan_189 ?_
                                      refine lv_aload_n hx hb dX12_findPlan_190 rfl (lv_at hl 1 rfl) ?_
                                      refine w_getr (j2 := 28) hx hb hts (z_memU u12) hown hK.1 hS f12_43 (by decide) (zkd_of (rfl : zcd wR 0 = 50) rfl) (zrf_of (rfl : zcd wR 0 = 50) rfl) (Or.inl (hts _ (z_mem k987))) dX12_findPlan_191 ?_
                                      refine z_bipush hx hb (by decide) dX12_findPlan_194 ?_
                                      refine lv_iload_n hx hb dX12_findPlan_196 rfl (lv_at hl 3 rfl) ?_
                                      refine z_imul hx hb dX12_findPlan_197 ?_
                                      refine lv_iload hx hb dX12_findPlan_198 (lv_at hl 7 rfl) ?_
                                      refine z_iadd hx hb dX12_findPlan_200 ?_
                                      obtain ⟨o156, h⟩ := h
                                      refine w_iald (n := 320) (i := (sI ((64 * x11) + x137))) hx hb hK.1 (t0 := 0) rfl hS (by decide) (zkd_of (rfl : zcd wR 28 = 78) rfl) (zln_of (rfl : zcd wR 28 = 78) rfl) rfl o156.1 o156.2 (by decide) dX12_findPlan_201 ?_
                                      refine lv_iload hx hb dX12_findPlan_202 (lv_at hl 0 rfl) ?_
                                      refine w_mmin hx hb (hml.trans hl.1.symm) hown (hts _ (z_mem k1229)) (hts _ (z_mem k320)) (hts _ (z_mem k15)) (hts _ (z_mem k321)) (by exact Nat.le_of_ble_eq_true rfl) (by exact Nat.le_of_ble_eq_true rfl) (by exact Nat.le_refl _) (by exact Nat.le_refl _) rfl rfl dX12_findPlan_204 ?_
                                      obtain ⟨o157, h⟩ := h
                                      refine w_iast (z := (min (sI (M138 28 (sI ((64 * x11) + x137)).toNat)) (sI t154))) (n := 320) (i := (sI ((64 * x11) + x137))) hx hb hK.1 (t0 := 0) rfl hS hS0 (by decide) (zkd_of (rfl : zcd wR 28 = 78) rfl) (zln_of (rfl : zcd wR 28 = 78) rfl) rfl o157.1 o157.2 (by decide) dX12_findPlan_207 (fun H locs hS hS0 => ?_)
                                      obtain ⟨M158, e159⟩ : ∃ M158 : zM, M158 = zup M138 28 (sI ((64 * x11) + x137)).toNat (min (sI (M138 28 (sI ((64 * x11) + x137)).toNat)) (sI t154)) := ⟨_, rfl⟩
                                      rw [← e159] at hS
                                      have h := h M158 e159
                                      refine z_iinc (lv' := [(6, .int (iI (x137 + 1))), (7, .int (iI t154)), (0, .ref (b + 0)), (1, .int (iI (shlI 1 (M 0 16)))), (2, .int (iI x11)), (3, .int (iI x104)), (4, .int (iI x117)), (5, .int (iI z131))]) hx hb dX12_findPlan_208 hl (k := 7) rfl (by decide) rfl (fun ls hl => ?_)
                                      refine lv_goto (tgt := 143) hx hb dX12_findPlan_211 (by decide) ?_
                                      obtain ⟨n160, h161, h⟩ := h
                                      exact i145 n160 h161 (x137 + 1) M158 _ _ _ h hS hS0 (lv_sub hl [2, 3, 4, 5, 6, 7, 0] rfl)
                                exact L143 n140 0 M135 _ _ _ h141 hS hS0 (lv_sub hl [2, 3, 4, 5, 6, 1, 0] rfl)
                          exact L123 n120 0 M105 _ _ _ h121 hS hS0 (lv_sub hl [1, 2, 3, 4, 0] rfl)
                    exact L110 n107 0 M95 _ _ _ h108 hS hS0 (lv_sub hl [1, 2, 3, 0] rfl)
                  · skip
                    have h := h.2 c103
                    refine lv_aload_n hx hb dX12_findPlan_63 rfl (lv_at hl 0 rfl) ?_
                    refine w_getr (j2 := 28) hx hb hts (z_memU u12) hown hK.1 hS f12_43 (by decide) (zkd_of (rfl : zcd wR 0 = 50) rfl) (zrf_of (rfl : zcd wR 0 = 50) rfl) (Or.inl (hts _ (z_mem k987))) dX12_findPlan_64 ?_
                    refine z_bipush hx hb (by decide) dX12_findPlan_67 ?_
                    refine lv_iload_n hx hb dX12_findPlan_69 rfl (lv_at hl 2 rfl) ?_
                    refine z_imul hx hb dX12_findPlan_70 ?_
                    refine lv_iload_n hx hb dX12_findPlan_71 rfl (lv_at hl 3 rfl) ?_
                    refine z_iadd hx hb dX12_findPlan_72 ?_
                    refine z_ldcw (n := 268435456) hx hb hown (hts _ (z_mem k1225)) (by decide) dX12_findPlan_73 ?_
                    obtain ⟨o162, h⟩ := h
                    refine w_iast (z := 268435456) (n := 320) (i := (sI ((64 * x11) + x94))) hx hb hK.1 (t0 := 0) rfl hS hS0 (by decide) (zkd_of (rfl : zcd wR 28 = 78) rfl) (zln_of (rfl : zcd wR 28 = 78) rfl) rfl o162.1 o162.2 (by decide) dX12_findPlan_76 (fun H locs hS hS0 => ?_)
                    obtain ⟨M163, e164⟩ : ∃ M163 : zM, M163 = zup M95 28 (sI ((64 * x11) + x94)).toNat 268435456 := ⟨_, rfl⟩
                    rw [← e164] at hS
                    have h := h M163 e164
                    refine z_iinc (lv' := [(3, .int (iI (x94 + 1))), (0, .ref (b + 0)), (1, .int (iI (shlI 1 (M 0 16)))), (2, .int (iI x11))]) hx hb dX12_findPlan_77 hl (k := 3) rfl (by decide) rfl (fun ls hl => ?_)
                    refine lv_goto (tgt := 58) hx hb dX12_findPlan_80 (by decide) ?_
                    obtain ⟨n165, h166, h⟩ := h
                    exact i102 n165 h166 (x94 + 1) M163 _ _ _ h hS hS0 (lv_sub hl [1, 2, 3, 0] rfl)
              exact L100 n97 0 M12 _ _ _ h98 hS hS0 (lv_sub hl [1, 2, 3, 0] rfl)
        exact L17 n14 ((M2 0 10) - 1) M2 _ _ _ h15 hS hS0 (lv_sub hl [1, 2, 0] rfl)
      · skip
        have h := h.2 c10
        refine lv_aload_n hx hb dX12_findPlan_14 rfl (lv_at hl 0 rfl) ?_
        refine w_getr (j2 := 28) hx hb hts (z_memU u12) hown hK.1 hS f12_43 (by decide) (zkd_of (rfl : zcd wR 0 = 50) rfl) (zrf_of (rfl : zcd wR 0 = 50) rfl) (Or.inl (hts _ (z_mem k987))) dX12_findPlan_15 ?_
        refine z_bipush hx hb (by decide) dX12_findPlan_18 ?_
        refine lv_aload_n hx hb dX12_findPlan_20 rfl (lv_at hl 0 rfl) ?_
        refine w_geti hx hb hts (z_memU u12) hown hK.1 hS f12_10 (by decide) (zkd_of (rfl : zcd wR 0 = 50) rfl) (Or.inl (hts _ (z_mem k954))) dX12_findPlan_21 ?_
        refine z_imul hx hb dX12_findPlan_24 ?_
        refine lv_iload_n hx hb dX12_findPlan_25 rfl (lv_at hl 2 rfl) ?_
        refine z_iadd hx hb dX12_findPlan_26 ?_
        refine lv_iload_n hx hb dX12_findPlan_27 rfl (lv_at hl 2 rfl) ?_
        refine w_if_ne (tgt := 35) hx hb rfl dX12_findPlan_28 (by decide) (fun c167 => ?_) (fun c167 => ?_)
        · skip
          have h := h.1 c167
          refine z_ldcw (n := 268435456) hx hb hown (hts _ (z_mem k1225)) (by decide) dX12_findPlan_35 ?_
          obtain ⟨o168, h⟩ := h
          refine w_iast (z := 268435456) (n := 320) (i := (sI ((64 * (M2 0 10)) + x1))) hx hb hK.1 (t0 := 0) rfl hS hS0 (by decide) (zkd_of (rfl : zcd wR 28 = 78) rfl) (zln_of (rfl : zcd wR 28 = 78) rfl) rfl o168.1 o168.2 (by decide) dX12_findPlan_38 (fun H locs hS hS0 => ?_)
          obtain ⟨M169, e170⟩ : ∃ M169 : zM, M169 = zup M2 28 (sI ((64 * (M2 0 10)) + x1)).toNat 268435456 := ⟨_, rfl⟩
          rw [← e170] at hS
          have h := h M169 e170
          refine z_iinc (lv' := [(2, .int (iI (x1 + 1))), (0, .ref (b + 0)), (1, .int (iI (shlI 1 (M 0 16))))]) hx hb dX12_findPlan_39 hl (k := 2) rfl (by decide) rfl (fun ls hl => ?_)
          refine lv_goto (tgt := 9) hx hb dX12_findPlan_42 (by decide) ?_
          obtain ⟨n171, h172, h⟩ := h
          exact i9 n171 h172 (x1 + 1) M169 _ _ _ h hS hS0 (lv_sub hl [1, 2, 0] rfl)
        · skip
          have h := h.2 c167
          refine z_iconst hx hb dX12_findPlan_31 ?_
          refine lv_goto (tgt := 38) hx hb dX12_findPlan_32 (by decide) ?_
          obtain ⟨o173, h⟩ := h
          refine w_iast (z := 0) (n := 320) (i := (sI ((64 * (M2 0 10)) + x1))) hx hb hK.1 (t0 := 0) rfl hS hS0 (by decide) (zkd_of (rfl : zcd wR 28 = 78) rfl) (zln_of (rfl : zcd wR 28 = 78) rfl) rfl o173.1 o173.2 (by decide) dX12_findPlan_38 (fun H locs hS hS0 => ?_)
          obtain ⟨M174, e175⟩ : ∃ M174 : zM, M174 = zup M2 28 (sI ((64 * (M2 0 10)) + x1)).toNat 0 := ⟨_, rfl⟩
          rw [← e175] at hS
          have h := h M174 e175
          refine z_iinc (lv' := [(2, .int (iI (x1 + 1))), (0, .ref (b + 0)), (1, .int (iI (shlI 1 (M 0 16))))]) hx hb dX12_findPlan_39 hl (k := 2) rfl (by decide) rfl (fun ls hl => ?_)
          refine lv_goto (tgt := 9) hx hb dX12_findPlan_42 (by decide) ?_
          obtain ⟨n176, h177, h⟩ := h
          exact i9 n176 h177 (x1 + 1) M174 _ _ _ h hS hS0 (lv_sub hl [1, 2, 0] rfl)
  exact L7 n4 0 M _ _ _ h5 hS hS0 (lv_sub hl [2, 1, 0] rfl)

set_option maxRecDepth 100000 in
def wR_plan  (M : zM) (Q : Int → zM → Prop) : Prop := (∀ M1 : zM, M1 = zup M 0 35 0 → wR_findPlan  M1 (fun z4 M3 => Q z4 M3))
set_option maxHeartbeats 4000000 in
set_option maxRecDepth 100000 in
theorem cR_plan (l : Launch) (D : va_G) (dA : Nat → ClassId) (b : Nat) (M : zM)   (Q : Int → zM → Prop) (h : wR_plan  M Q) : Met l yX12_plan (.code yX12_plan cX12_plan 1 (some .int) :: zt) (z_rm 4) (va_Pc [.ref (b + 0)] (wPre D dA vwCl (z_tys dA) wR nR b M)) (va_Qi (wQi Q) (zB D dA vwCl wR nR b) (zA nR b)) 0 0 (zA nR b) := by
  unfold wR_plan at h
  refine Met.ofW (cc := cX12_plan) (maxL := 1) (ret := (some .int)) (by decide) rfl ?_
  intro p e s m args below meth c s₁ B hml hv
  obtain ⟨hargs, hS, hK⟩ := hv
  have hx := B.exec
  have hb := B.bytes
  have hr := B.returns
  have hts := atoms_spec (ws := .code yX12_plan cX12_plan 1 (some .int) :: zt) B.pre
  have hown : s.vm.findClass RX12 = some m.cls := findClass_of_methodNamed B.named
  have hlocks := B.notSynchronized
  have hS0 : va_S (zA nR b) s.heap s.heap [] := va_S.rf
  have hl := lv_entry ([.ref (b + 0)]) (n := 1) (Nat.le_of_ble_eq_true rfl)
  have hent : entryFrame m args 1 = F0 m 0 ((lg_sl ([.ref (b + 0)]) ++ List.replicate (1 - (lg_sl ([.ref (b + 0)])).length) Slot.unset).toArray) [] := by rw [hargs]; exact lg_entry_eq m ([.ref (b + 0)]) 1
  rw [hent]
  generalize (lg_sl ([.ref (b + 0)]) ++ List.replicate (1 - (lg_sl ([.ref (b + 0)])).length) Slot.unset).toArray = ls at hl ⊢
  have hl : lv_has ls 1 [(0, .ref (b + 0))] := hl
  refine lv_aload_n hx hb dX12_plan_0 rfl (lv_at hl 0 rfl) ?_
  refine z_iconst hx hb dX12_plan_1 ?_
  refine w_puti hx hb hts (z_memU u12) tyX12 tyX12_ok nmX12 hown hK.1 hS hS0 f12_35 (by decide) (zkd_of (rfl : zcd wR 0 = 50) rfl) (Or.inl (hts _ (z_mem k979))) rfl (z := 0) (by decide +kernel) dX12_plan_2 (fun H locs hS hS0 => ?_)
  obtain ⟨M1, e2⟩ : ∃ M1 : zM, M1 = zup M 0 35 0 := ⟨_, rfl⟩
  rw [← e2] at hS
  have h := h M1 e2
  refine lv_aload_n hx hb dX12_plan_5 rfl (lv_at hl 0 rfl) ?_
  refine w_calli (va_runV (As := []) (rest := []) ⟨hx, hb, hml, hown, hts⟩ (cR_findPlan l D dA b M1  _ h) (cwV 0 hts (z_gV k1222 k1223 k1412 k14 k1224) rfl rfl rfl dm_X12_findPlan ⟨Nat.le_of_ble_eq_true rfl, Nat.le_of_ble_eq_true rfl⟩) ⟨wPre_blind, (w_recv hS hK.1 (by decide) (zkd_of (rfl : zcd wR 0 = 50) rfl) (by decide) (rfl : vwCl[12]? = some (RX12, TX12, 50))), w_pre hS hK⟩ rfl rfl hl.1 rfl (lv_room (Nat.le_of_ble_eq_true rfl)) dX12_plan_6 ⟨Nat.le_refl _, Nat.le_refl _⟩) hS0 (fun z4 M3 H locs r5 h hS hS0 => ?_)
  exact w_iret hx hb hr hlocks hS hS0 (sI_of r5) h dX12_plan_9
end zz10_w19
section zz10_w20
/-! the W layer, 20 -/
theorem q10w20_0_0 : (cX12_areAlike.data.toList.drop 0).take 24 = [3, 62, 29, 16, 20, 162, 0, 30, 42, 180, 0, 106, 27, 29, 96, 46, 42, 180, 0, 106, 28, 29, 96, 46] := by decide +kernel
theorem q10w20_0_24 : (cX12_areAlike.data.toList.drop 24).take 13 = [159, 0, 5, 3, 172, 132, 3, 1, 167, 255, 226, 4, 172] := by decide +kernel
theorem dX12_areAlike_0 : decode cX12_areAlike 0 = .ok (.iconst 0, 1) := dz_3 (dz_at q10w20_0_0 0)
theorem dX12_areAlike_1 : decode cX12_areAlike 1 = .ok (.istore_n 3, 1) := dz_62 (dz_at q10w20_0_0 1)
theorem dX12_areAlike_12 : decode cX12_areAlike 12 = .ok (.iload_n 1, 1) := dz_27 (dz_at q10w20_0_0 12)
theorem dX12_areAlike_13 : decode cX12_areAlike 13 = .ok (.iload_n 3, 1) := dz_29 (dz_at q10w20_0_0 13)
theorem dX12_areAlike_14 : decode cX12_areAlike 14 = .ok (.iadd, 1) := dz_96 (dz_at q10w20_0_0 14)
theorem dX12_areAlike_15 : decode cX12_areAlike 15 = .ok (.iaload, 1) := dz_46 (dz_at q10w20_0_0 15)
theorem dX12_areAlike_16 : decode cX12_areAlike 16 = .ok (.aload_n 0, 1) := dz_42 (dz_at q10w20_0_0 16)
theorem dX12_areAlike_17 : decode cX12_areAlike 17 = .ok (.getfield 106, 3) := dz_180 (dz_at q10w20_0_0 17) rfl
theorem dX12_areAlike_2 : decode cX12_areAlike 2 = .ok (.iload_n 3, 1) := dz_29 (dz_at q10w20_0_0 2)
theorem dX12_areAlike_20 : decode cX12_areAlike 20 = .ok (.iload_n 2, 1) := dz_28 (dz_at q10w20_0_0 20)
theorem dX12_areAlike_21 : decode cX12_areAlike 21 = .ok (.iload_n 3, 1) := dz_29 (dz_at q10w20_0_0 21)
theorem dX12_areAlike_22 : decode cX12_areAlike 22 = .ok (.iadd, 1) := dz_96 (dz_at q10w20_0_0 22)
theorem dX12_areAlike_23 : decode cX12_areAlike 23 = .ok (.iaload, 1) := dz_46 (dz_at q10w20_0_0 23)
theorem dX12_areAlike_24 : decode cX12_areAlike 24 = .ok (.if_icmp .eq 5, 3) := dz_159 (dz_at q10w20_0_24 0) (by decide +kernel)
theorem dX12_areAlike_27 : decode cX12_areAlike 27 = .ok (.iconst 0, 1) := dz_3 (dz_at q10w20_0_24 3)
theorem dX12_areAlike_28 : decode cX12_areAlike 28 = .ok (.ireturn, 1) := dz_172 (dz_at q10w20_0_24 4)
theorem dX12_areAlike_29 : decode cX12_areAlike 29 = .ok (.iinc 3 1, 3) := dz_132 (dz_at q10w20_0_24 5) (by decide +kernel)
theorem dX12_areAlike_3 : decode cX12_areAlike 3 = .ok (.bipush 20, 2) := dz_16 (dz_at q10w20_0_0 3) (by decide +kernel)
theorem dX12_areAlike_32 : decode cX12_areAlike 32 = .ok (.goto (-30), 3) := dz_167 (dz_at q10w20_0_24 8) (by decide +kernel)
theorem dX12_areAlike_35 : decode cX12_areAlike 35 = .ok (.iconst 1, 1) := dz_4 (dz_at q10w20_0_24 11)
theorem dX12_areAlike_36 : decode cX12_areAlike 36 = .ok (.ireturn, 1) := dz_172 (dz_at q10w20_0_24 12)
theorem dX12_areAlike_5 : decode cX12_areAlike 5 = .ok (.if_icmp .ge 30, 3) := dz_162 (dz_at q10w20_0_0 5) (by decide +kernel)
theorem dX12_areAlike_8 : decode cX12_areAlike 8 = .ok (.aload_n 0, 1) := dz_42 (dz_at q10w20_0_0 8)
theorem dX12_areAlike_9 : decode cX12_areAlike 9 = .ok (.getfield 106, 3) := dz_180 (dz_at q10w20_0_0 9) rfl
theorem q10w20_1_0 : (cX12_cut.data.toList.drop 0).take 23 = [42, 3, 181, 0, 118, 42, 27, 182, 0, 168, 153, 0, 19, 28, 3, 42, 180, 0, 20, 27, 46, 4, 100] := by decide +kernel
theorem q10w20_1_23 : (cX12_cut.data.toList.drop 23).take 24 = [184, 0, 124, 154, 0, 5, 2, 172, 42, 180, 0, 20, 27, 92, 46, 28, 100, 79, 42, 180, 0, 26, 27, 92] := by decide +kernel
theorem q10w20_1_47 : (cX12_cut.data.toList.drop 47).take 16 = [46, 42, 180, 0, 20, 27, 46, 112, 79, 42, 180, 0, 20, 27, 46, 172] := by decide +kernel
theorem dX12_cut_0 : decode cX12_cut 0 = .ok (.aload_n 0, 1) := dz_42 (dz_at q10w20_1_0 0)
theorem dX12_cut_1 : decode cX12_cut 1 = .ok (.iconst 0, 1) := dz_3 (dz_at q10w20_1_0 1)
theorem dX12_cut_10 : decode cX12_cut 10 = .ok (.ifCond .eq 19, 3) := dz_153 (dz_at q10w20_1_0 10) (by decide +kernel)
theorem dX12_cut_13 : decode cX12_cut 13 = .ok (.iload_n 2, 1) := dz_28 (dz_at q10w20_1_0 13)
theorem dX12_cut_14 : decode cX12_cut 14 = .ok (.iconst 0, 1) := dz_3 (dz_at q10w20_1_0 14)
theorem dX12_cut_15 : decode cX12_cut 15 = .ok (.aload_n 0, 1) := dz_42 (dz_at q10w20_1_0 15)
theorem dX12_cut_16 : decode cX12_cut 16 = .ok (.getfield 20, 3) := dz_180 (dz_at q10w20_1_0 16) rfl
theorem dX12_cut_19 : decode cX12_cut 19 = .ok (.iload_n 1, 1) := dz_27 (dz_at q10w20_1_0 19)
theorem dX12_cut_2 : decode cX12_cut 2 = .ok (.putfield 118, 3) := dz_181 (dz_at q10w20_1_0 2) rfl
theorem dX12_cut_20 : decode cX12_cut 20 = .ok (.iaload, 1) := dz_46 (dz_at q10w20_1_0 20)
theorem dX12_cut_21 : decode cX12_cut 21 = .ok (.iconst 1, 1) := dz_4 (dz_at q10w20_1_0 21)
theorem dX12_cut_22 : decode cX12_cut 22 = .ok (.isub, 1) := dz_100 (dz_at q10w20_1_0 22)
theorem dX12_cut_23 : decode cX12_cut 23 = .ok (.invokestatic 124, 3) := dz_184 (dz_at q10w20_1_23 0) rfl
theorem dX12_cut_26 : decode cX12_cut 26 = .ok (.ifCond .ne 5, 3) := dz_154 (dz_at q10w20_1_23 3) (by decide +kernel)
theorem dX12_cut_29 : decode cX12_cut 29 = .ok (.iconst (-1), 1) := dz_2 (dz_at q10w20_1_23 6)
theorem dX12_cut_30 : decode cX12_cut 30 = .ok (.ireturn, 1) := dz_172 (dz_at q10w20_1_23 7)
theorem dX12_cut_31 : decode cX12_cut 31 = .ok (.aload_n 0, 1) := dz_42 (dz_at q10w20_1_23 8)
theorem dX12_cut_32 : decode cX12_cut 32 = .ok (.getfield 20, 3) := dz_180 (dz_at q10w20_1_23 9) rfl
theorem dX12_cut_35 : decode cX12_cut 35 = .ok (.iload_n 1, 1) := dz_27 (dz_at q10w20_1_23 12)
theorem dX12_cut_36 : decode cX12_cut 36 = .ok (.dup2, 1) := dz_92 (dz_at q10w20_1_23 13)
theorem dX12_cut_37 : decode cX12_cut 37 = .ok (.iaload, 1) := dz_46 (dz_at q10w20_1_23 14)
theorem dX12_cut_38 : decode cX12_cut 38 = .ok (.iload_n 2, 1) := dz_28 (dz_at q10w20_1_23 15)
theorem dX12_cut_39 : decode cX12_cut 39 = .ok (.isub, 1) := dz_100 (dz_at q10w20_1_23 16)
theorem dX12_cut_40 : decode cX12_cut 40 = .ok (.iastore, 1) := dz_79 (dz_at q10w20_1_23 17)
theorem dX12_cut_41 : decode cX12_cut 41 = .ok (.aload_n 0, 1) := dz_42 (dz_at q10w20_1_23 18)
theorem dX12_cut_42 : decode cX12_cut 42 = .ok (.getfield 26, 3) := dz_180 (dz_at q10w20_1_23 19) rfl
theorem dX12_cut_45 : decode cX12_cut 45 = .ok (.iload_n 1, 1) := dz_27 (dz_at q10w20_1_23 22)
theorem dX12_cut_46 : decode cX12_cut 46 = .ok (.dup2, 1) := dz_92 (dz_at q10w20_1_23 23)
theorem dX12_cut_47 : decode cX12_cut 47 = .ok (.iaload, 1) := dz_46 (dz_at q10w20_1_47 0)
theorem dX12_cut_48 : decode cX12_cut 48 = .ok (.aload_n 0, 1) := dz_42 (dz_at q10w20_1_47 1)
theorem dX12_cut_49 : decode cX12_cut 49 = .ok (.getfield 20, 3) := dz_180 (dz_at q10w20_1_47 2) rfl
theorem dX12_cut_5 : decode cX12_cut 5 = .ok (.aload_n 0, 1) := dz_42 (dz_at q10w20_1_0 5)
theorem dX12_cut_52 : decode cX12_cut 52 = .ok (.iload_n 1, 1) := dz_27 (dz_at q10w20_1_47 5)
theorem dX12_cut_53 : decode cX12_cut 53 = .ok (.iaload, 1) := dz_46 (dz_at q10w20_1_47 6)
theorem dX12_cut_54 : decode cX12_cut 54 = .ok (.irem, 1) := dz_112 (dz_at q10w20_1_47 7)
theorem dX12_cut_55 : decode cX12_cut 55 = .ok (.iastore, 1) := dz_79 (dz_at q10w20_1_47 8)
theorem dX12_cut_56 : decode cX12_cut 56 = .ok (.aload_n 0, 1) := dz_42 (dz_at q10w20_1_47 9)
theorem dX12_cut_57 : decode cX12_cut 57 = .ok (.getfield 20, 3) := dz_180 (dz_at q10w20_1_47 10) rfl
theorem dX12_cut_6 : decode cX12_cut 6 = .ok (.iload_n 1, 1) := dz_27 (dz_at q10w20_1_0 6)
theorem dX12_cut_60 : decode cX12_cut 60 = .ok (.iload_n 1, 1) := dz_27 (dz_at q10w20_1_47 13)
theorem dX12_cut_61 : decode cX12_cut 61 = .ok (.iaload, 1) := dz_46 (dz_at q10w20_1_47 14)
theorem dX12_cut_62 : decode cX12_cut 62 = .ok (.ireturn, 1) := dz_172 (dz_at q10w20_1_47 15)
theorem dX12_cut_7 : decode cX12_cut 7 = .ok (.invokevirtual 168, 3) := dz_182 (dz_at q10w20_1_0 7) rfl
theorem q10w20_2_0 : (cX12_dies.data.toList.drop 0).take 23 = [42, 3, 181, 0, 118, 42, 17, 15, 160, 182, 1, 30, 3, 60, 42, 180, 1, 27, 61, 28, 17, 15, 160] := by decide +kernel
theorem q10w20_2_23 : (cX12_dies.data.toList.drop 23).take 23 = [163, 0, 39, 42, 180, 0, 106, 28, 46, 154, 0, 9, 27, 4, 96, 167, 0, 4, 3, 60, 27, 16, 20] := by decide +kernel
theorem q10w20_2_46 : (cX12_dies.data.toList.drop 46).take 24 = [160, 0, 10, 28, 16, 20, 100, 4, 96, 172, 132, 2, 1, 167, 255, 216, 17, 15, 141, 61, 28, 4, 100, 62] := by decide +kernel
theorem q10w20_2_70 : (cX12_dies.data.toList.drop 70).take 24 = [29, 42, 180, 1, 27, 161, 0, 18, 42, 29, 28, 182, 1, 34, 154, 0, 9, 132, 3, 255, 167, 255, 236, 29] := by decide +kernel
theorem q10w20_2_94 : (cX12_dies.data.toList.drop 94).take 24 = [42, 180, 1, 27, 162, 0, 6, 16, 253, 172, 28, 29, 100, 54, 4, 29, 54, 5, 21, 5, 42, 180, 1, 27] := by decide +kernel
theorem q10w20_2_118 : (cX12_dies.data.toList.drop 118).take 24 = [164, 0, 33, 42, 180, 0, 106, 21, 5, 4, 100, 46, 42, 180, 0, 106, 21, 5, 4, 100, 21, 4, 96, 46] := by decide +kernel
theorem q10w20_2_142 : (cX12_dies.data.toList.drop 142).take 24 = [160, 0, 9, 132, 5, 255, 167, 255, 220, 42, 180, 0, 81, 3, 21, 5, 79, 42, 180, 0, 81, 4, 21, 4] := by decide +kernel
theorem q10w20_2_166 : (cX12_dies.data.toList.drop 166).take 9 = [79, 42, 5, 181, 0, 188, 16, 254, 172] := by decide +kernel
theorem dX12_dies_0 : decode cX12_dies 0 = .ok (.aload_n 0, 1) := dz_42 (dz_at q10w20_2_0 0)
theorem dX12_dies_1 : decode cX12_dies 1 = .ok (.iconst 0, 1) := dz_3 (dz_at q10w20_2_0 1)
theorem dX12_dies_101 : decode cX12_dies 101 = .ok (.bipush (-3), 2) := dz_16 (dz_at q10w20_2_94 7) (by decide +kernel)
theorem dX12_dies_103 : decode cX12_dies 103 = .ok (.ireturn, 1) := dz_172 (dz_at q10w20_2_94 9)
theorem dX12_dies_104 : decode cX12_dies 104 = .ok (.iload_n 2, 1) := dz_28 (dz_at q10w20_2_94 10)
theorem dX12_dies_105 : decode cX12_dies 105 = .ok (.iload_n 3, 1) := dz_29 (dz_at q10w20_2_94 11)
theorem dX12_dies_106 : decode cX12_dies 106 = .ok (.isub, 1) := dz_100 (dz_at q10w20_2_94 12)
theorem dX12_dies_107 : decode cX12_dies 107 = .ok (.istore 4, 2) := dz_54 (dz_at q10w20_2_94 13)
theorem dX12_dies_109 : decode cX12_dies 109 = .ok (.iload_n 3, 1) := dz_29 (dz_at q10w20_2_94 15)
theorem dX12_dies_110 : decode cX12_dies 110 = .ok (.istore 5, 2) := dz_54 (dz_at q10w20_2_94 16)
theorem dX12_dies_112 : decode cX12_dies 112 = .ok (.iload 5, 2) := dz_21 (dz_at q10w20_2_94 18)
theorem dX12_dies_114 : decode cX12_dies 114 = .ok (.aload_n 0, 1) := dz_42 (dz_at q10w20_2_94 20)
theorem dX12_dies_115 : decode cX12_dies 115 = .ok (.getfield 283, 3) := dz_180 (dz_at q10w20_2_94 21) rfl
theorem dX12_dies_118 : decode cX12_dies 118 = .ok (.if_icmp .le 33, 3) := dz_164 (dz_at q10w20_2_118 0) (by decide +kernel)
theorem dX12_dies_12 : decode cX12_dies 12 = .ok (.iconst 0, 1) := dz_3 (dz_at q10w20_2_0 12)
theorem dX12_dies_121 : decode cX12_dies 121 = .ok (.aload_n 0, 1) := dz_42 (dz_at q10w20_2_118 3)
theorem dX12_dies_122 : decode cX12_dies 122 = .ok (.getfield 106, 3) := dz_180 (dz_at q10w20_2_118 4) rfl
theorem dX12_dies_125 : decode cX12_dies 125 = .ok (.iload 5, 2) := dz_21 (dz_at q10w20_2_118 7)
theorem dX12_dies_127 : decode cX12_dies 127 = .ok (.iconst 1, 1) := dz_4 (dz_at q10w20_2_118 9)
theorem dX12_dies_128 : decode cX12_dies 128 = .ok (.isub, 1) := dz_100 (dz_at q10w20_2_118 10)
theorem dX12_dies_129 : decode cX12_dies 129 = .ok (.iaload, 1) := dz_46 (dz_at q10w20_2_118 11)
theorem dX12_dies_13 : decode cX12_dies 13 = .ok (.istore_n 1, 1) := dz_60 (dz_at q10w20_2_0 13)
theorem dX12_dies_130 : decode cX12_dies 130 = .ok (.aload_n 0, 1) := dz_42 (dz_at q10w20_2_118 12)
theorem dX12_dies_131 : decode cX12_dies 131 = .ok (.getfield 106, 3) := dz_180 (dz_at q10w20_2_118 13) rfl
theorem dX12_dies_134 : decode cX12_dies 134 = .ok (.iload 5, 2) := dz_21 (dz_at q10w20_2_118 16)
theorem dX12_dies_136 : decode cX12_dies 136 = .ok (.iconst 1, 1) := dz_4 (dz_at q10w20_2_118 18)
theorem dX12_dies_137 : decode cX12_dies 137 = .ok (.isub, 1) := dz_100 (dz_at q10w20_2_118 19)
theorem dX12_dies_138 : decode cX12_dies 138 = .ok (.iload 4, 2) := dz_21 (dz_at q10w20_2_118 20)
theorem dX12_dies_14 : decode cX12_dies 14 = .ok (.aload_n 0, 1) := dz_42 (dz_at q10w20_2_0 14)
theorem dX12_dies_140 : decode cX12_dies 140 = .ok (.iadd, 1) := dz_96 (dz_at q10w20_2_118 22)
theorem dX12_dies_141 : decode cX12_dies 141 = .ok (.iaload, 1) := dz_46 (dz_at q10w20_2_118 23)
theorem dX12_dies_142 : decode cX12_dies 142 = .ok (.if_icmp .ne 9, 3) := dz_160 (dz_at q10w20_2_142 0) (by decide +kernel)
theorem dX12_dies_145 : decode cX12_dies 145 = .ok (.iinc 5 (-1), 3) := dz_132 (dz_at q10w20_2_142 3) (by decide +kernel)
theorem dX12_dies_148 : decode cX12_dies 148 = .ok (.goto (-36), 3) := dz_167 (dz_at q10w20_2_142 6) (by decide +kernel)
theorem dX12_dies_15 : decode cX12_dies 15 = .ok (.getfield 283, 3) := dz_180 (dz_at q10w20_2_0 15) rfl
theorem dX12_dies_151 : decode cX12_dies 151 = .ok (.aload_n 0, 1) := dz_42 (dz_at q10w20_2_142 9)
theorem dX12_dies_152 : decode cX12_dies 152 = .ok (.getfield 81, 3) := dz_180 (dz_at q10w20_2_142 10) rfl
theorem dX12_dies_155 : decode cX12_dies 155 = .ok (.iconst 0, 1) := dz_3 (dz_at q10w20_2_142 13)
theorem dX12_dies_156 : decode cX12_dies 156 = .ok (.iload 5, 2) := dz_21 (dz_at q10w20_2_142 14)
theorem dX12_dies_158 : decode cX12_dies 158 = .ok (.iastore, 1) := dz_79 (dz_at q10w20_2_142 16)
theorem dX12_dies_159 : decode cX12_dies 159 = .ok (.aload_n 0, 1) := dz_42 (dz_at q10w20_2_142 17)
theorem dX12_dies_160 : decode cX12_dies 160 = .ok (.getfield 81, 3) := dz_180 (dz_at q10w20_2_142 18) rfl
theorem dX12_dies_163 : decode cX12_dies 163 = .ok (.iconst 1, 1) := dz_4 (dz_at q10w20_2_142 21)
theorem dX12_dies_164 : decode cX12_dies 164 = .ok (.iload 4, 2) := dz_21 (dz_at q10w20_2_142 22)
theorem dX12_dies_166 : decode cX12_dies 166 = .ok (.iastore, 1) := dz_79 (dz_at q10w20_2_166 0)
theorem dX12_dies_167 : decode cX12_dies 167 = .ok (.aload_n 0, 1) := dz_42 (dz_at q10w20_2_166 1)
theorem dX12_dies_168 : decode cX12_dies 168 = .ok (.iconst 2, 1) := dz_5 (dz_at q10w20_2_166 2)
theorem dX12_dies_169 : decode cX12_dies 169 = .ok (.putfield 188, 3) := dz_181 (dz_at q10w20_2_166 3) rfl
theorem dX12_dies_172 : decode cX12_dies 172 = .ok (.bipush (-2), 2) := dz_16 (dz_at q10w20_2_166 6) (by decide +kernel)
theorem dX12_dies_174 : decode cX12_dies 174 = .ok (.ireturn, 1) := dz_172 (dz_at q10w20_2_166 8)
theorem dX12_dies_18 : decode cX12_dies 18 = .ok (.istore_n 2, 1) := dz_61 (dz_at q10w20_2_0 18)
theorem dX12_dies_19 : decode cX12_dies 19 = .ok (.iload_n 2, 1) := dz_28 (dz_at q10w20_2_0 19)
theorem dX12_dies_2 : decode cX12_dies 2 = .ok (.putfield 118, 3) := dz_181 (dz_at q10w20_2_0 2) rfl
theorem dX12_dies_20 : decode cX12_dies 20 = .ok (.sipush 4000, 3) := dz_17 (dz_at q10w20_2_0 20) (by decide +kernel)
theorem dX12_dies_23 : decode cX12_dies 23 = .ok (.if_icmp .gt 39, 3) := dz_163 (dz_at q10w20_2_23 0) (by decide +kernel)
theorem dX12_dies_26 : decode cX12_dies 26 = .ok (.aload_n 0, 1) := dz_42 (dz_at q10w20_2_23 3)
theorem dX12_dies_27 : decode cX12_dies 27 = .ok (.getfield 106, 3) := dz_180 (dz_at q10w20_2_23 4) rfl
theorem dX12_dies_30 : decode cX12_dies 30 = .ok (.iload_n 2, 1) := dz_28 (dz_at q10w20_2_23 7)
theorem dX12_dies_31 : decode cX12_dies 31 = .ok (.iaload, 1) := dz_46 (dz_at q10w20_2_23 8)
theorem dX12_dies_32 : decode cX12_dies 32 = .ok (.ifCond .ne 9, 3) := dz_154 (dz_at q10w20_2_23 9) (by decide +kernel)
theorem dX12_dies_35 : decode cX12_dies 35 = .ok (.iload_n 1, 1) := dz_27 (dz_at q10w20_2_23 12)
theorem dX12_dies_36 : decode cX12_dies 36 = .ok (.iconst 1, 1) := dz_4 (dz_at q10w20_2_23 13)
theorem dX12_dies_37 : decode cX12_dies 37 = .ok (.iadd, 1) := dz_96 (dz_at q10w20_2_23 14)
theorem dX12_dies_38 : decode cX12_dies 38 = .ok (.goto 4, 3) := dz_167 (dz_at q10w20_2_23 15) (by decide +kernel)
theorem dX12_dies_41 : decode cX12_dies 41 = .ok (.iconst 0, 1) := dz_3 (dz_at q10w20_2_23 18)
theorem dX12_dies_42 : decode cX12_dies 42 = .ok (.istore_n 1, 1) := dz_60 (dz_at q10w20_2_23 19)
theorem dX12_dies_43 : decode cX12_dies 43 = .ok (.iload_n 1, 1) := dz_27 (dz_at q10w20_2_23 20)
theorem dX12_dies_44 : decode cX12_dies 44 = .ok (.bipush 20, 2) := dz_16 (dz_at q10w20_2_23 21) (by decide +kernel)
theorem dX12_dies_46 : decode cX12_dies 46 = .ok (.if_icmp .ne 10, 3) := dz_160 (dz_at q10w20_2_46 0) (by decide +kernel)
theorem dX12_dies_49 : decode cX12_dies 49 = .ok (.iload_n 2, 1) := dz_28 (dz_at q10w20_2_46 3)
theorem dX12_dies_5 : decode cX12_dies 5 = .ok (.aload_n 0, 1) := dz_42 (dz_at q10w20_2_0 5)
theorem dX12_dies_50 : decode cX12_dies 50 = .ok (.bipush 20, 2) := dz_16 (dz_at q10w20_2_46 4) (by decide +kernel)
theorem dX12_dies_52 : decode cX12_dies 52 = .ok (.isub, 1) := dz_100 (dz_at q10w20_2_46 6)
theorem dX12_dies_53 : decode cX12_dies 53 = .ok (.iconst 1, 1) := dz_4 (dz_at q10w20_2_46 7)
theorem dX12_dies_54 : decode cX12_dies 54 = .ok (.iadd, 1) := dz_96 (dz_at q10w20_2_46 8)
theorem dX12_dies_55 : decode cX12_dies 55 = .ok (.ireturn, 1) := dz_172 (dz_at q10w20_2_46 9)
theorem dX12_dies_56 : decode cX12_dies 56 = .ok (.iinc 2 1, 3) := dz_132 (dz_at q10w20_2_46 10) (by decide +kernel)
theorem dX12_dies_59 : decode cX12_dies 59 = .ok (.goto (-40), 3) := dz_167 (dz_at q10w20_2_46 13) (by decide +kernel)
theorem dX12_dies_6 : decode cX12_dies 6 = .ok (.sipush 4000, 3) := dz_17 (dz_at q10w20_2_0 6) (by decide +kernel)
theorem dX12_dies_62 : decode cX12_dies 62 = .ok (.sipush 3981, 3) := dz_17 (dz_at q10w20_2_46 16) (by decide +kernel)
theorem dX12_dies_65 : decode cX12_dies 65 = .ok (.istore_n 2, 1) := dz_61 (dz_at q10w20_2_46 19)
theorem dX12_dies_66 : decode cX12_dies 66 = .ok (.iload_n 2, 1) := dz_28 (dz_at q10w20_2_46 20)
theorem dX12_dies_67 : decode cX12_dies 67 = .ok (.iconst 1, 1) := dz_4 (dz_at q10w20_2_46 21)
theorem dX12_dies_68 : decode cX12_dies 68 = .ok (.isub, 1) := dz_100 (dz_at q10w20_2_46 22)
theorem dX12_dies_69 : decode cX12_dies 69 = .ok (.istore_n 3, 1) := dz_62 (dz_at q10w20_2_46 23)
theorem dX12_dies_70 : decode cX12_dies 70 = .ok (.iload_n 3, 1) := dz_29 (dz_at q10w20_2_70 0)
theorem dX12_dies_71 : decode cX12_dies 71 = .ok (.aload_n 0, 1) := dz_42 (dz_at q10w20_2_70 1)
theorem dX12_dies_72 : decode cX12_dies 72 = .ok (.getfield 283, 3) := dz_180 (dz_at q10w20_2_70 2) rfl
theorem dX12_dies_75 : decode cX12_dies 75 = .ok (.if_icmp .lt 18, 3) := dz_161 (dz_at q10w20_2_70 5) (by decide +kernel)
theorem dX12_dies_78 : decode cX12_dies 78 = .ok (.aload_n 0, 1) := dz_42 (dz_at q10w20_2_70 8)
theorem dX12_dies_79 : decode cX12_dies 79 = .ok (.iload_n 3, 1) := dz_29 (dz_at q10w20_2_70 9)
theorem dX12_dies_80 : decode cX12_dies 80 = .ok (.iload_n 2, 1) := dz_28 (dz_at q10w20_2_70 10)
theorem dX12_dies_81 : decode cX12_dies 81 = .ok (.invokevirtual 290, 3) := dz_182 (dz_at q10w20_2_70 11) rfl
theorem dX12_dies_84 : decode cX12_dies 84 = .ok (.ifCond .ne 9, 3) := dz_154 (dz_at q10w20_2_70 14) (by decide +kernel)
theorem dX12_dies_87 : decode cX12_dies 87 = .ok (.iinc 3 (-1), 3) := dz_132 (dz_at q10w20_2_70 17) (by decide +kernel)
theorem dX12_dies_9 : decode cX12_dies 9 = .ok (.invokevirtual 286, 3) := dz_182 (dz_at q10w20_2_0 9) rfl
theorem dX12_dies_90 : decode cX12_dies 90 = .ok (.goto (-20), 3) := dz_167 (dz_at q10w20_2_70 20) (by decide +kernel)
theorem dX12_dies_93 : decode cX12_dies 93 = .ok (.iload_n 3, 1) := dz_29 (dz_at q10w20_2_70 23)
theorem dX12_dies_94 : decode cX12_dies 94 = .ok (.aload_n 0, 1) := dz_42 (dz_at q10w20_2_94 0)
theorem dX12_dies_95 : decode cX12_dies 95 = .ok (.getfield 283, 3) := dz_180 (dz_at q10w20_2_94 1) rfl
theorem dX12_dies_98 : decode cX12_dies 98 = .ok (.if_icmp .ge 6, 3) := dz_162 (dz_at q10w20_2_94 4) (by decide +kernel)
theorem q10w20_3_0 : (cX12_findOuts.data.toList.drop 0).take 23 = [3, 61, 28, 27, 163, 0, 137, 3, 62, 28, 42, 180, 1, 27, 162, 0, 48, 42, 28, 133, 182, 0, 229] := by decide +kernel
theorem q10w20_3_23 : (cX12_findOuts.data.toList.drop 23).take 24 = [54, 4, 4, 54, 5, 21, 5, 16, 10, 162, 0, 30, 21, 4, 21, 5, 122, 4, 126, 4, 160, 0, 13, 29] := by decide +kernel
theorem q10w20_3_47 : (cX12_findOuts.data.toList.drop 47).take 24 = [42, 180, 0, 50, 21, 5, 46, 96, 62, 132, 5, 1, 167, 255, 225, 28, 42, 180, 0, 53, 161, 0, 25, 29] := by decide +kernel
theorem q10w20_3_71 : (cX12_findOuts.data.toList.drop 71).take 23 = [42, 180, 1, 21, 42, 180, 0, 106, 28, 42, 180, 0, 53, 100, 46, 104, 16, 100, 108, 96, 62, 28, 42] := by decide +kernel
theorem q10w20_3_94 : (cX12_findOuts.data.toList.drop 94).take 23 = [180, 0, 57, 161, 0, 25, 29, 42, 180, 1, 24, 42, 180, 0, 106, 28, 42, 180, 0, 57, 100, 46, 104] := by decide +kernel
theorem q10w20_3_117 : (cX12_findOuts.data.toList.drop 117).take 24 = [16, 100, 108, 96, 62, 42, 180, 0, 106, 28, 29, 17, 19, 136, 184, 1, 15, 79, 132, 2, 1, 167, 255, 120] := by decide +kernel
theorem q10w20_3_141 : (cX12_findOuts.data.toList.drop 141).take 1 = [177] := by decide +kernel
theorem dX12_findOuts_0 : decode cX12_findOuts 0 = .ok (.iconst 0, 1) := dz_3 (dz_at q10w20_3_0 0)
theorem dX12_findOuts_1 : decode cX12_findOuts 1 = .ok (.istore_n 2, 1) := dz_61 (dz_at q10w20_3_0 1)
theorem dX12_findOuts_10 : decode cX12_findOuts 10 = .ok (.aload_n 0, 1) := dz_42 (dz_at q10w20_3_0 10)
theorem dX12_findOuts_100 : decode cX12_findOuts 100 = .ok (.iload_n 3, 1) := dz_29 (dz_at q10w20_3_94 6)
theorem dX12_findOuts_101 : decode cX12_findOuts 101 = .ok (.aload_n 0, 1) := dz_42 (dz_at q10w20_3_94 7)
theorem dX12_findOuts_102 : decode cX12_findOuts 102 = .ok (.getfield 280, 3) := dz_180 (dz_at q10w20_3_94 8) rfl
theorem dX12_findOuts_105 : decode cX12_findOuts 105 = .ok (.aload_n 0, 1) := dz_42 (dz_at q10w20_3_94 11)
theorem dX12_findOuts_106 : decode cX12_findOuts 106 = .ok (.getfield 106, 3) := dz_180 (dz_at q10w20_3_94 12) rfl
theorem dX12_findOuts_109 : decode cX12_findOuts 109 = .ok (.iload_n 2, 1) := dz_28 (dz_at q10w20_3_94 15)
theorem dX12_findOuts_11 : decode cX12_findOuts 11 = .ok (.getfield 283, 3) := dz_180 (dz_at q10w20_3_0 11) rfl
theorem dX12_findOuts_110 : decode cX12_findOuts 110 = .ok (.aload_n 0, 1) := dz_42 (dz_at q10w20_3_94 16)
theorem dX12_findOuts_111 : decode cX12_findOuts 111 = .ok (.getfield 57, 3) := dz_180 (dz_at q10w20_3_94 17) rfl
theorem dX12_findOuts_114 : decode cX12_findOuts 114 = .ok (.isub, 1) := dz_100 (dz_at q10w20_3_94 20)
theorem dX12_findOuts_115 : decode cX12_findOuts 115 = .ok (.iaload, 1) := dz_46 (dz_at q10w20_3_94 21)
theorem dX12_findOuts_116 : decode cX12_findOuts 116 = .ok (.imul, 1) := dz_104 (dz_at q10w20_3_94 22)
theorem dX12_findOuts_117 : decode cX12_findOuts 117 = .ok (.bipush 100, 2) := dz_16 (dz_at q10w20_3_117 0) (by decide +kernel)
theorem dX12_findOuts_119 : decode cX12_findOuts 119 = .ok (.idiv, 1) := dz_108 (dz_at q10w20_3_117 2)
theorem dX12_findOuts_120 : decode cX12_findOuts 120 = .ok (.iadd, 1) := dz_96 (dz_at q10w20_3_117 3)
theorem dX12_findOuts_121 : decode cX12_findOuts 121 = .ok (.istore_n 3, 1) := dz_62 (dz_at q10w20_3_117 4)
theorem dX12_findOuts_122 : decode cX12_findOuts 122 = .ok (.aload_n 0, 1) := dz_42 (dz_at q10w20_3_117 5)
theorem dX12_findOuts_123 : decode cX12_findOuts 123 = .ok (.getfield 106, 3) := dz_180 (dz_at q10w20_3_117 6) rfl
theorem dX12_findOuts_126 : decode cX12_findOuts 126 = .ok (.iload_n 2, 1) := dz_28 (dz_at q10w20_3_117 9)
theorem dX12_findOuts_127 : decode cX12_findOuts 127 = .ok (.iload_n 3, 1) := dz_29 (dz_at q10w20_3_117 10)
theorem dX12_findOuts_128 : decode cX12_findOuts 128 = .ok (.sipush 5000, 3) := dz_17 (dz_at q10w20_3_117 11) (by decide +kernel)
theorem dX12_findOuts_131 : decode cX12_findOuts 131 = .ok (.invokestatic 271, 3) := dz_184 (dz_at q10w20_3_117 14) rfl
theorem dX12_findOuts_134 : decode cX12_findOuts 134 = .ok (.iastore, 1) := dz_79 (dz_at q10w20_3_117 17)
theorem dX12_findOuts_135 : decode cX12_findOuts 135 = .ok (.iinc 2 1, 3) := dz_132 (dz_at q10w20_3_117 18) (by decide +kernel)
theorem dX12_findOuts_138 : decode cX12_findOuts 138 = .ok (.goto (-136), 3) := dz_167 (dz_at q10w20_3_117 21) (by decide +kernel)
theorem dX12_findOuts_14 : decode cX12_findOuts 14 = .ok (.if_icmp .ge 48, 3) := dz_162 (dz_at q10w20_3_0 14) (by decide +kernel)
theorem dX12_findOuts_141 : decode cX12_findOuts 141 = .ok (.return_, 1) := dz_177 (dz_at q10w20_3_141 0)
theorem dX12_findOuts_17 : decode cX12_findOuts 17 = .ok (.aload_n 0, 1) := dz_42 (dz_at q10w20_3_0 17)
theorem dX12_findOuts_18 : decode cX12_findOuts 18 = .ok (.iload_n 2, 1) := dz_28 (dz_at q10w20_3_0 18)
theorem dX12_findOuts_19 : decode cX12_findOuts 19 = .ok (.i2l, 1) := dz_133 (dz_at q10w20_3_0 19)
theorem dX12_findOuts_2 : decode cX12_findOuts 2 = .ok (.iload_n 2, 1) := dz_28 (dz_at q10w20_3_0 2)
theorem dX12_findOuts_20 : decode cX12_findOuts 20 = .ok (.invokevirtual 229, 3) := dz_182 (dz_at q10w20_3_0 20) rfl
theorem dX12_findOuts_23 : decode cX12_findOuts 23 = .ok (.istore 4, 2) := dz_54 (dz_at q10w20_3_23 0)
theorem dX12_findOuts_25 : decode cX12_findOuts 25 = .ok (.iconst 1, 1) := dz_4 (dz_at q10w20_3_23 2)
theorem dX12_findOuts_26 : decode cX12_findOuts 26 = .ok (.istore 5, 2) := dz_54 (dz_at q10w20_3_23 3)
theorem dX12_findOuts_28 : decode cX12_findOuts 28 = .ok (.iload 5, 2) := dz_21 (dz_at q10w20_3_23 5)
theorem dX12_findOuts_3 : decode cX12_findOuts 3 = .ok (.iload_n 1, 1) := dz_27 (dz_at q10w20_3_0 3)
theorem dX12_findOuts_30 : decode cX12_findOuts 30 = .ok (.bipush 10, 2) := dz_16 (dz_at q10w20_3_23 7) (by decide +kernel)
theorem dX12_findOuts_32 : decode cX12_findOuts 32 = .ok (.if_icmp .ge 30, 3) := dz_162 (dz_at q10w20_3_23 9) (by decide +kernel)
theorem dX12_findOuts_35 : decode cX12_findOuts 35 = .ok (.iload 4, 2) := dz_21 (dz_at q10w20_3_23 12)
theorem dX12_findOuts_37 : decode cX12_findOuts 37 = .ok (.iload 5, 2) := dz_21 (dz_at q10w20_3_23 14)
theorem dX12_findOuts_39 : decode cX12_findOuts 39 = .ok (.ishr, 1) := dz_122 (dz_at q10w20_3_23 16)
theorem dX12_findOuts_4 : decode cX12_findOuts 4 = .ok (.if_icmp .gt 137, 3) := dz_163 (dz_at q10w20_3_0 4) (by decide +kernel)
theorem dX12_findOuts_40 : decode cX12_findOuts 40 = .ok (.iconst 1, 1) := dz_4 (dz_at q10w20_3_23 17)
theorem dX12_findOuts_41 : decode cX12_findOuts 41 = .ok (.iand, 1) := dz_126 (dz_at q10w20_3_23 18)
theorem dX12_findOuts_42 : decode cX12_findOuts 42 = .ok (.iconst 1, 1) := dz_4 (dz_at q10w20_3_23 19)
theorem dX12_findOuts_43 : decode cX12_findOuts 43 = .ok (.if_icmp .ne 13, 3) := dz_160 (dz_at q10w20_3_23 20) (by decide +kernel)
theorem dX12_findOuts_46 : decode cX12_findOuts 46 = .ok (.iload_n 3, 1) := dz_29 (dz_at q10w20_3_23 23)
theorem dX12_findOuts_47 : decode cX12_findOuts 47 = .ok (.aload_n 0, 1) := dz_42 (dz_at q10w20_3_47 0)
theorem dX12_findOuts_48 : decode cX12_findOuts 48 = .ok (.getfield 50, 3) := dz_180 (dz_at q10w20_3_47 1) rfl
theorem dX12_findOuts_51 : decode cX12_findOuts 51 = .ok (.iload 5, 2) := dz_21 (dz_at q10w20_3_47 4)
theorem dX12_findOuts_53 : decode cX12_findOuts 53 = .ok (.iaload, 1) := dz_46 (dz_at q10w20_3_47 6)
theorem dX12_findOuts_54 : decode cX12_findOuts 54 = .ok (.iadd, 1) := dz_96 (dz_at q10w20_3_47 7)
theorem dX12_findOuts_55 : decode cX12_findOuts 55 = .ok (.istore_n 3, 1) := dz_62 (dz_at q10w20_3_47 8)
theorem dX12_findOuts_56 : decode cX12_findOuts 56 = .ok (.iinc 5 1, 3) := dz_132 (dz_at q10w20_3_47 9) (by decide +kernel)
theorem dX12_findOuts_59 : decode cX12_findOuts 59 = .ok (.goto (-31), 3) := dz_167 (dz_at q10w20_3_47 12) (by decide +kernel)
theorem dX12_findOuts_62 : decode cX12_findOuts 62 = .ok (.iload_n 2, 1) := dz_28 (dz_at q10w20_3_47 15)
theorem dX12_findOuts_63 : decode cX12_findOuts 63 = .ok (.aload_n 0, 1) := dz_42 (dz_at q10w20_3_47 16)
theorem dX12_findOuts_64 : decode cX12_findOuts 64 = .ok (.getfield 53, 3) := dz_180 (dz_at q10w20_3_47 17) rfl
theorem dX12_findOuts_67 : decode cX12_findOuts 67 = .ok (.if_icmp .lt 25, 3) := dz_161 (dz_at q10w20_3_47 20) (by decide +kernel)
theorem dX12_findOuts_7 : decode cX12_findOuts 7 = .ok (.iconst 0, 1) := dz_3 (dz_at q10w20_3_0 7)
theorem dX12_findOuts_70 : decode cX12_findOuts 70 = .ok (.iload_n 3, 1) := dz_29 (dz_at q10w20_3_47 23)
theorem dX12_findOuts_71 : decode cX12_findOuts 71 = .ok (.aload_n 0, 1) := dz_42 (dz_at q10w20_3_71 0)
theorem dX12_findOuts_72 : decode cX12_findOuts 72 = .ok (.getfield 277, 3) := dz_180 (dz_at q10w20_3_71 1) rfl
theorem dX12_findOuts_75 : decode cX12_findOuts 75 = .ok (.aload_n 0, 1) := dz_42 (dz_at q10w20_3_71 4)
theorem dX12_findOuts_76 : decode cX12_findOuts 76 = .ok (.getfield 106, 3) := dz_180 (dz_at q10w20_3_71 5) rfl
theorem dX12_findOuts_79 : decode cX12_findOuts 79 = .ok (.iload_n 2, 1) := dz_28 (dz_at q10w20_3_71 8)
theorem dX12_findOuts_8 : decode cX12_findOuts 8 = .ok (.istore_n 3, 1) := dz_62 (dz_at q10w20_3_0 8)
theorem dX12_findOuts_80 : decode cX12_findOuts 80 = .ok (.aload_n 0, 1) := dz_42 (dz_at q10w20_3_71 9)
theorem dX12_findOuts_81 : decode cX12_findOuts 81 = .ok (.getfield 53, 3) := dz_180 (dz_at q10w20_3_71 10) rfl
theorem dX12_findOuts_84 : decode cX12_findOuts 84 = .ok (.isub, 1) := dz_100 (dz_at q10w20_3_71 13)
theorem dX12_findOuts_85 : decode cX12_findOuts 85 = .ok (.iaload, 1) := dz_46 (dz_at q10w20_3_71 14)
theorem dX12_findOuts_86 : decode cX12_findOuts 86 = .ok (.imul, 1) := dz_104 (dz_at q10w20_3_71 15)
theorem dX12_findOuts_87 : decode cX12_findOuts 87 = .ok (.bipush 100, 2) := dz_16 (dz_at q10w20_3_71 16) (by decide +kernel)
theorem dX12_findOuts_89 : decode cX12_findOuts 89 = .ok (.idiv, 1) := dz_108 (dz_at q10w20_3_71 18)
theorem dX12_findOuts_9 : decode cX12_findOuts 9 = .ok (.iload_n 2, 1) := dz_28 (dz_at q10w20_3_0 9)
theorem dX12_findOuts_90 : decode cX12_findOuts 90 = .ok (.iadd, 1) := dz_96 (dz_at q10w20_3_71 19)
theorem dX12_findOuts_91 : decode cX12_findOuts 91 = .ok (.istore_n 3, 1) := dz_62 (dz_at q10w20_3_71 20)
theorem dX12_findOuts_92 : decode cX12_findOuts 92 = .ok (.iload_n 2, 1) := dz_28 (dz_at q10w20_3_71 21)
theorem dX12_findOuts_93 : decode cX12_findOuts 93 = .ok (.aload_n 0, 1) := dz_42 (dz_at q10w20_3_71 22)
theorem dX12_findOuts_94 : decode cX12_findOuts 94 = .ok (.getfield 57, 3) := dz_180 (dz_at q10w20_3_94 0) rfl
theorem dX12_findOuts_97 : decode cX12_findOuts 97 = .ok (.if_icmp .lt 25, 3) := dz_161 (dz_at q10w20_3_94 3) (by decide +kernel)
theorem q10w20_4_0 : (cX12_heads.data.toList.drop 0).take 22 = [42, 3, 181, 0, 118, 27, 4, 16, 20, 184, 0, 124, 153, 0, 34, 28, 3, 16, 100, 184, 0, 124] := by decide +kernel
theorem q10w20_4_22 : (cX12_heads.data.toList.drop 22).take 24 = [153, 0, 24, 29, 4, 16, 20, 184, 0, 124, 153, 0, 14, 21, 4, 3, 16, 100, 184, 0, 124, 154, 0, 5] := by decide +kernel
theorem q10w20_4_46 : (cX12_heads.data.toList.drop 46).take 24 = [3, 172, 42, 27, 181, 0, 53, 42, 28, 181, 1, 21, 42, 29, 181, 0, 57, 42, 21, 4, 181, 1, 24, 4] := by decide +kernel
theorem q10w20_4_70 : (cX12_heads.data.toList.drop 70).take 1 = [172] := by decide +kernel
theorem dX12_heads_0 : decode cX12_heads 0 = .ok (.aload_n 0, 1) := dz_42 (dz_at q10w20_4_0 0)
theorem dX12_heads_1 : decode cX12_heads 1 = .ok (.iconst 0, 1) := dz_3 (dz_at q10w20_4_0 1)
theorem dX12_heads_12 : decode cX12_heads 12 = .ok (.ifCond .eq 34, 3) := dz_153 (dz_at q10w20_4_0 12) (by decide +kernel)
theorem dX12_heads_15 : decode cX12_heads 15 = .ok (.iload_n 2, 1) := dz_28 (dz_at q10w20_4_0 15)
theorem dX12_heads_16 : decode cX12_heads 16 = .ok (.iconst 0, 1) := dz_3 (dz_at q10w20_4_0 16)
theorem dX12_heads_17 : decode cX12_heads 17 = .ok (.bipush 100, 2) := dz_16 (dz_at q10w20_4_0 17) (by decide +kernel)
theorem dX12_heads_19 : decode cX12_heads 19 = .ok (.invokestatic 124, 3) := dz_184 (dz_at q10w20_4_0 19) rfl
theorem dX12_heads_2 : decode cX12_heads 2 = .ok (.putfield 118, 3) := dz_181 (dz_at q10w20_4_0 2) rfl
theorem dX12_heads_22 : decode cX12_heads 22 = .ok (.ifCond .eq 24, 3) := dz_153 (dz_at q10w20_4_22 0) (by decide +kernel)
theorem dX12_heads_25 : decode cX12_heads 25 = .ok (.iload_n 3, 1) := dz_29 (dz_at q10w20_4_22 3)
theorem dX12_heads_26 : decode cX12_heads 26 = .ok (.iconst 1, 1) := dz_4 (dz_at q10w20_4_22 4)
theorem dX12_heads_27 : decode cX12_heads 27 = .ok (.bipush 20, 2) := dz_16 (dz_at q10w20_4_22 5) (by decide +kernel)
theorem dX12_heads_29 : decode cX12_heads 29 = .ok (.invokestatic 124, 3) := dz_184 (dz_at q10w20_4_22 7) rfl
theorem dX12_heads_32 : decode cX12_heads 32 = .ok (.ifCond .eq 14, 3) := dz_153 (dz_at q10w20_4_22 10) (by decide +kernel)
theorem dX12_heads_35 : decode cX12_heads 35 = .ok (.iload 4, 2) := dz_21 (dz_at q10w20_4_22 13)
theorem dX12_heads_37 : decode cX12_heads 37 = .ok (.iconst 0, 1) := dz_3 (dz_at q10w20_4_22 15)
theorem dX12_heads_38 : decode cX12_heads 38 = .ok (.bipush 100, 2) := dz_16 (dz_at q10w20_4_22 16) (by decide +kernel)
theorem dX12_heads_40 : decode cX12_heads 40 = .ok (.invokestatic 124, 3) := dz_184 (dz_at q10w20_4_22 18) rfl
theorem dX12_heads_43 : decode cX12_heads 43 = .ok (.ifCond .ne 5, 3) := dz_154 (dz_at q10w20_4_22 21) (by decide +kernel)
theorem dX12_heads_46 : decode cX12_heads 46 = .ok (.iconst 0, 1) := dz_3 (dz_at q10w20_4_46 0)
theorem dX12_heads_47 : decode cX12_heads 47 = .ok (.ireturn, 1) := dz_172 (dz_at q10w20_4_46 1)
theorem dX12_heads_48 : decode cX12_heads 48 = .ok (.aload_n 0, 1) := dz_42 (dz_at q10w20_4_46 2)
theorem dX12_heads_49 : decode cX12_heads 49 = .ok (.iload_n 1, 1) := dz_27 (dz_at q10w20_4_46 3)
theorem dX12_heads_5 : decode cX12_heads 5 = .ok (.iload_n 1, 1) := dz_27 (dz_at q10w20_4_0 5)
theorem dX12_heads_50 : decode cX12_heads 50 = .ok (.putfield 53, 3) := dz_181 (dz_at q10w20_4_46 4) rfl
theorem dX12_heads_53 : decode cX12_heads 53 = .ok (.aload_n 0, 1) := dz_42 (dz_at q10w20_4_46 7)
theorem dX12_heads_54 : decode cX12_heads 54 = .ok (.iload_n 2, 1) := dz_28 (dz_at q10w20_4_46 8)
theorem dX12_heads_55 : decode cX12_heads 55 = .ok (.putfield 277, 3) := dz_181 (dz_at q10w20_4_46 9) rfl
theorem dX12_heads_58 : decode cX12_heads 58 = .ok (.aload_n 0, 1) := dz_42 (dz_at q10w20_4_46 12)
theorem dX12_heads_59 : decode cX12_heads 59 = .ok (.iload_n 3, 1) := dz_29 (dz_at q10w20_4_46 13)
theorem dX12_heads_6 : decode cX12_heads 6 = .ok (.iconst 1, 1) := dz_4 (dz_at q10w20_4_0 6)
theorem dX12_heads_60 : decode cX12_heads 60 = .ok (.putfield 57, 3) := dz_181 (dz_at q10w20_4_46 14) rfl
theorem dX12_heads_63 : decode cX12_heads 63 = .ok (.aload_n 0, 1) := dz_42 (dz_at q10w20_4_46 17)
theorem dX12_heads_64 : decode cX12_heads 64 = .ok (.iload 4, 2) := dz_21 (dz_at q10w20_4_46 18)
theorem dX12_heads_66 : decode cX12_heads 66 = .ok (.putfield 280, 3) := dz_181 (dz_at q10w20_4_46 20) rfl
theorem dX12_heads_69 : decode cX12_heads 69 = .ok (.iconst 1, 1) := dz_4 (dz_at q10w20_4_46 23)
theorem dX12_heads_7 : decode cX12_heads 7 = .ok (.bipush 20, 2) := dz_16 (dz_at q10w20_4_0 7) (by decide +kernel)
theorem dX12_heads_70 : decode cX12_heads 70 = .ok (.ireturn, 1) := dz_172 (dz_at q10w20_4_70 0)
theorem dX12_heads_9 : decode cX12_heads 9 = .ok (.invokestatic 124, 3) := dz_184 (dz_at q10w20_4_0 9) rfl
theorem q10w20_5_0 : (cX12_make.data.toList.drop 0).take 22 = [42, 3, 181, 0, 118, 42, 182, 1, 18, 60, 3, 61, 28, 42, 180, 0, 121, 162, 0, 47, 27, 2] := by decide +kernel
theorem q10w20_5_22 : (cX12_make.data.toList.drop 22).take 24 = [159, 0, 42, 42, 180, 0, 20, 28, 92, 46, 42, 180, 0, 81, 5, 28, 104, 46, 100, 79, 42, 180, 0, 26] := by decide +kernel
theorem q10w20_5_46 : (cX12_make.data.toList.drop 46).take 20 = [28, 42, 180, 0, 81, 5, 28, 104, 4, 96, 46, 79, 132, 2, 1, 167, 255, 207, 27, 172] := by decide +kernel
theorem dX12_make_0 : decode cX12_make 0 = .ok (.aload_n 0, 1) := dz_42 (dz_at q10w20_5_0 0)
theorem dX12_make_1 : decode cX12_make 1 = .ok (.iconst 0, 1) := dz_3 (dz_at q10w20_5_0 1)
theorem dX12_make_10 : decode cX12_make 10 = .ok (.iconst 0, 1) := dz_3 (dz_at q10w20_5_0 10)
theorem dX12_make_11 : decode cX12_make 11 = .ok (.istore_n 2, 1) := dz_61 (dz_at q10w20_5_0 11)
theorem dX12_make_12 : decode cX12_make 12 = .ok (.iload_n 2, 1) := dz_28 (dz_at q10w20_5_0 12)
theorem dX12_make_13 : decode cX12_make 13 = .ok (.aload_n 0, 1) := dz_42 (dz_at q10w20_5_0 13)
theorem dX12_make_14 : decode cX12_make 14 = .ok (.getfield 121, 3) := dz_180 (dz_at q10w20_5_0 14) rfl
theorem dX12_make_17 : decode cX12_make 17 = .ok (.if_icmp .ge 47, 3) := dz_162 (dz_at q10w20_5_0 17) (by decide +kernel)
theorem dX12_make_2 : decode cX12_make 2 = .ok (.putfield 118, 3) := dz_181 (dz_at q10w20_5_0 2) rfl
theorem dX12_make_20 : decode cX12_make 20 = .ok (.iload_n 1, 1) := dz_27 (dz_at q10w20_5_0 20)
theorem dX12_make_21 : decode cX12_make 21 = .ok (.iconst (-1), 1) := dz_2 (dz_at q10w20_5_0 21)
theorem dX12_make_22 : decode cX12_make 22 = .ok (.if_icmp .eq 42, 3) := dz_159 (dz_at q10w20_5_22 0) (by decide +kernel)
theorem dX12_make_25 : decode cX12_make 25 = .ok (.aload_n 0, 1) := dz_42 (dz_at q10w20_5_22 3)
theorem dX12_make_26 : decode cX12_make 26 = .ok (.getfield 20, 3) := dz_180 (dz_at q10w20_5_22 4) rfl
theorem dX12_make_29 : decode cX12_make 29 = .ok (.iload_n 2, 1) := dz_28 (dz_at q10w20_5_22 7)
theorem dX12_make_30 : decode cX12_make 30 = .ok (.dup2, 1) := dz_92 (dz_at q10w20_5_22 8)
theorem dX12_make_31 : decode cX12_make 31 = .ok (.iaload, 1) := dz_46 (dz_at q10w20_5_22 9)
theorem dX12_make_32 : decode cX12_make 32 = .ok (.aload_n 0, 1) := dz_42 (dz_at q10w20_5_22 10)
theorem dX12_make_33 : decode cX12_make 33 = .ok (.getfield 81, 3) := dz_180 (dz_at q10w20_5_22 11) rfl
theorem dX12_make_36 : decode cX12_make 36 = .ok (.iconst 2, 1) := dz_5 (dz_at q10w20_5_22 14)
theorem dX12_make_37 : decode cX12_make 37 = .ok (.iload_n 2, 1) := dz_28 (dz_at q10w20_5_22 15)
theorem dX12_make_38 : decode cX12_make 38 = .ok (.imul, 1) := dz_104 (dz_at q10w20_5_22 16)
theorem dX12_make_39 : decode cX12_make 39 = .ok (.iaload, 1) := dz_46 (dz_at q10w20_5_22 17)
theorem dX12_make_40 : decode cX12_make 40 = .ok (.isub, 1) := dz_100 (dz_at q10w20_5_22 18)
theorem dX12_make_41 : decode cX12_make 41 = .ok (.iastore, 1) := dz_79 (dz_at q10w20_5_22 19)
theorem dX12_make_42 : decode cX12_make 42 = .ok (.aload_n 0, 1) := dz_42 (dz_at q10w20_5_22 20)
theorem dX12_make_43 : decode cX12_make 43 = .ok (.getfield 26, 3) := dz_180 (dz_at q10w20_5_22 21) rfl
theorem dX12_make_46 : decode cX12_make 46 = .ok (.iload_n 2, 1) := dz_28 (dz_at q10w20_5_46 0)
theorem dX12_make_47 : decode cX12_make 47 = .ok (.aload_n 0, 1) := dz_42 (dz_at q10w20_5_46 1)
theorem dX12_make_48 : decode cX12_make 48 = .ok (.getfield 81, 3) := dz_180 (dz_at q10w20_5_46 2) rfl
theorem dX12_make_5 : decode cX12_make 5 = .ok (.aload_n 0, 1) := dz_42 (dz_at q10w20_5_0 5)
theorem dX12_make_51 : decode cX12_make 51 = .ok (.iconst 2, 1) := dz_5 (dz_at q10w20_5_46 5)
theorem dX12_make_52 : decode cX12_make 52 = .ok (.iload_n 2, 1) := dz_28 (dz_at q10w20_5_46 6)
theorem dX12_make_53 : decode cX12_make 53 = .ok (.imul, 1) := dz_104 (dz_at q10w20_5_46 7)
theorem dX12_make_54 : decode cX12_make 54 = .ok (.iconst 1, 1) := dz_4 (dz_at q10w20_5_46 8)
theorem dX12_make_55 : decode cX12_make 55 = .ok (.iadd, 1) := dz_96 (dz_at q10w20_5_46 9)
theorem dX12_make_56 : decode cX12_make 56 = .ok (.iaload, 1) := dz_46 (dz_at q10w20_5_46 10)
theorem dX12_make_57 : decode cX12_make 57 = .ok (.iastore, 1) := dz_79 (dz_at q10w20_5_46 11)
theorem dX12_make_58 : decode cX12_make 58 = .ok (.iinc 2 1, 3) := dz_132 (dz_at q10w20_5_46 12) (by decide +kernel)
theorem dX12_make_6 : decode cX12_make 6 = .ok (.invokevirtual 274, 3) := dz_182 (dz_at q10w20_5_0 6) rfl
theorem dX12_make_61 : decode cX12_make 61 = .ok (.goto (-49), 3) := dz_167 (dz_at q10w20_5_46 15) (by decide +kernel)
theorem dX12_make_64 : decode cX12_make 64 = .ok (.iload_n 1, 1) := dz_27 (dz_at q10w20_5_46 18)
theorem dX12_make_65 : decode cX12_make 65 = .ok (.ireturn, 1) := dz_172 (dz_at q10w20_5_46 19)
theorem dX12_make_9 : decode cX12_make 9 = .ok (.istore_n 1, 1) := dz_60 (dz_at q10w20_5_0 9)
theorem q10w20_6_0 : (cX12_out.data.toList.drop 0).take 24 = [42, 3, 181, 0, 118, 27, 3, 17, 15, 160, 184, 0, 124, 154, 0, 5, 2, 172, 42, 27, 182, 1, 30, 42] := by decide +kernel
theorem q10w20_6_24 : (cX12_out.data.toList.drop 24).take 6 = [180, 0, 106, 27, 46, 172] := by decide +kernel
theorem dX12_out_0 : decode cX12_out 0 = .ok (.aload_n 0, 1) := dz_42 (dz_at q10w20_6_0 0)
theorem dX12_out_1 : decode cX12_out 1 = .ok (.iconst 0, 1) := dz_3 (dz_at q10w20_6_0 1)
theorem dX12_out_10 : decode cX12_out 10 = .ok (.invokestatic 124, 3) := dz_184 (dz_at q10w20_6_0 10) rfl
theorem dX12_out_13 : decode cX12_out 13 = .ok (.ifCond .ne 5, 3) := dz_154 (dz_at q10w20_6_0 13) (by decide +kernel)
theorem dX12_out_16 : decode cX12_out 16 = .ok (.iconst (-1), 1) := dz_2 (dz_at q10w20_6_0 16)
theorem dX12_out_17 : decode cX12_out 17 = .ok (.ireturn, 1) := dz_172 (dz_at q10w20_6_0 17)
theorem dX12_out_18 : decode cX12_out 18 = .ok (.aload_n 0, 1) := dz_42 (dz_at q10w20_6_0 18)
theorem dX12_out_19 : decode cX12_out 19 = .ok (.iload_n 1, 1) := dz_27 (dz_at q10w20_6_0 19)
theorem dX12_out_2 : decode cX12_out 2 = .ok (.putfield 118, 3) := dz_181 (dz_at q10w20_6_0 2) rfl
theorem dX12_out_20 : decode cX12_out 20 = .ok (.invokevirtual 286, 3) := dz_182 (dz_at q10w20_6_0 20) rfl
theorem dX12_out_23 : decode cX12_out 23 = .ok (.aload_n 0, 1) := dz_42 (dz_at q10w20_6_0 23)
theorem dX12_out_24 : decode cX12_out 24 = .ok (.getfield 106, 3) := dz_180 (dz_at q10w20_6_24 0) rfl
theorem dX12_out_27 : decode cX12_out 27 = .ok (.iload_n 1, 1) := dz_27 (dz_at q10w20_6_24 3)
theorem dX12_out_28 : decode cX12_out 28 = .ok (.iaload, 1) := dz_46 (dz_at q10w20_6_24 4)
theorem dX12_out_29 : decode cX12_out 29 = .ok (.ireturn, 1) := dz_172 (dz_at q10w20_6_24 5)
theorem dX12_out_5 : decode cX12_out 5 = .ok (.iload_n 1, 1) := dz_27 (dz_at q10w20_6_0 5)
theorem dX12_out_6 : decode cX12_out 6 = .ok (.iconst 0, 1) := dz_3 (dz_at q10w20_6_0 6)
theorem dX12_out_7 : decode cX12_out 7 = .ok (.sipush 4000, 3) := dz_17 (dz_at q10w20_6_0 7) (by decide +kernel)
theorem q10w20_7_0 : (cX12_stop.data.toList.drop 0).take 24 = [42, 3, 181, 0, 118, 27, 3, 17, 7, 208, 184, 0, 124, 154, 0, 5, 2, 172, 42, 180, 1, 27, 61, 42] := by decide +kernel
theorem q10w20_7_24 : (cX12_stop.data.toList.drop 24).take 6 = [27, 181, 1, 27, 28, 172] := by decide +kernel
theorem dX12_stop_0 : decode cX12_stop 0 = .ok (.aload_n 0, 1) := dz_42 (dz_at q10w20_7_0 0)
theorem dX12_stop_1 : decode cX12_stop 1 = .ok (.iconst 0, 1) := dz_3 (dz_at q10w20_7_0 1)
theorem dX12_stop_10 : decode cX12_stop 10 = .ok (.invokestatic 124, 3) := dz_184 (dz_at q10w20_7_0 10) rfl
theorem dX12_stop_13 : decode cX12_stop 13 = .ok (.ifCond .ne 5, 3) := dz_154 (dz_at q10w20_7_0 13) (by decide +kernel)
theorem dX12_stop_16 : decode cX12_stop 16 = .ok (.iconst (-1), 1) := dz_2 (dz_at q10w20_7_0 16)
theorem dX12_stop_17 : decode cX12_stop 17 = .ok (.ireturn, 1) := dz_172 (dz_at q10w20_7_0 17)
theorem dX12_stop_18 : decode cX12_stop 18 = .ok (.aload_n 0, 1) := dz_42 (dz_at q10w20_7_0 18)
theorem dX12_stop_19 : decode cX12_stop 19 = .ok (.getfield 283, 3) := dz_180 (dz_at q10w20_7_0 19) rfl
theorem dX12_stop_2 : decode cX12_stop 2 = .ok (.putfield 118, 3) := dz_181 (dz_at q10w20_7_0 2) rfl
theorem dX12_stop_22 : decode cX12_stop 22 = .ok (.istore_n 2, 1) := dz_61 (dz_at q10w20_7_0 22)
theorem dX12_stop_23 : decode cX12_stop 23 = .ok (.aload_n 0, 1) := dz_42 (dz_at q10w20_7_0 23)
theorem dX12_stop_24 : decode cX12_stop 24 = .ok (.iload_n 1, 1) := dz_27 (dz_at q10w20_7_24 0)
theorem dX12_stop_25 : decode cX12_stop 25 = .ok (.putfield 283, 3) := dz_181 (dz_at q10w20_7_24 1) rfl
theorem dX12_stop_28 : decode cX12_stop 28 = .ok (.iload_n 2, 1) := dz_28 (dz_at q10w20_7_24 4)
theorem dX12_stop_29 : decode cX12_stop 29 = .ok (.ireturn, 1) := dz_172 (dz_at q10w20_7_24 5)
theorem dX12_stop_5 : decode cX12_stop 5 = .ok (.iload_n 1, 1) := dz_27 (dz_at q10w20_7_0 5)
theorem dX12_stop_6 : decode cX12_stop 6 = .ok (.iconst 0, 1) := dz_3 (dz_at q10w20_7_0 6)
theorem dX12_stop_7 : decode cX12_stop 7 = .ok (.sipush 2000, 3) := dz_17 (dz_at q10w20_7_0 7) (by decide +kernel)
theorem q10w20_8_0 : (cX12_weight.data.toList.drop 0).take 23 = [42, 3, 181, 0, 118, 27, 4, 16, 9, 184, 0, 124, 153, 0, 14, 28, 3, 17, 0, 200, 184, 0, 124] := by decide +kernel
theorem q10w20_8_23 : (cX12_weight.data.toList.drop 23).take 21 = [154, 0, 5, 2, 172, 42, 180, 0, 50, 27, 46, 62, 42, 180, 0, 50, 27, 28, 79, 29, 172] := by decide +kernel
theorem dX12_weight_0 : decode cX12_weight 0 = .ok (.aload_n 0, 1) := dz_42 (dz_at q10w20_8_0 0)
theorem dX12_weight_1 : decode cX12_weight 1 = .ok (.iconst 0, 1) := dz_3 (dz_at q10w20_8_0 1)
theorem dX12_weight_12 : decode cX12_weight 12 = .ok (.ifCond .eq 14, 3) := dz_153 (dz_at q10w20_8_0 12) (by decide +kernel)
theorem dX12_weight_15 : decode cX12_weight 15 = .ok (.iload_n 2, 1) := dz_28 (dz_at q10w20_8_0 15)
theorem dX12_weight_16 : decode cX12_weight 16 = .ok (.iconst 0, 1) := dz_3 (dz_at q10w20_8_0 16)
theorem dX12_weight_17 : decode cX12_weight 17 = .ok (.sipush 200, 3) := dz_17 (dz_at q10w20_8_0 17) (by decide +kernel)
theorem dX12_weight_2 : decode cX12_weight 2 = .ok (.putfield 118, 3) := dz_181 (dz_at q10w20_8_0 2) rfl
theorem dX12_weight_20 : decode cX12_weight 20 = .ok (.invokestatic 124, 3) := dz_184 (dz_at q10w20_8_0 20) rfl
theorem dX12_weight_23 : decode cX12_weight 23 = .ok (.ifCond .ne 5, 3) := dz_154 (dz_at q10w20_8_23 0) (by decide +kernel)
theorem dX12_weight_26 : decode cX12_weight 26 = .ok (.iconst (-1), 1) := dz_2 (dz_at q10w20_8_23 3)
theorem dX12_weight_27 : decode cX12_weight 27 = .ok (.ireturn, 1) := dz_172 (dz_at q10w20_8_23 4)
theorem dX12_weight_28 : decode cX12_weight 28 = .ok (.aload_n 0, 1) := dz_42 (dz_at q10w20_8_23 5)
theorem dX12_weight_29 : decode cX12_weight 29 = .ok (.getfield 50, 3) := dz_180 (dz_at q10w20_8_23 6) rfl
theorem dX12_weight_32 : decode cX12_weight 32 = .ok (.iload_n 1, 1) := dz_27 (dz_at q10w20_8_23 9)
theorem dX12_weight_33 : decode cX12_weight 33 = .ok (.iaload, 1) := dz_46 (dz_at q10w20_8_23 10)
theorem dX12_weight_34 : decode cX12_weight 34 = .ok (.istore_n 3, 1) := dz_62 (dz_at q10w20_8_23 11)
theorem dX12_weight_35 : decode cX12_weight 35 = .ok (.aload_n 0, 1) := dz_42 (dz_at q10w20_8_23 12)
theorem dX12_weight_36 : decode cX12_weight 36 = .ok (.getfield 50, 3) := dz_180 (dz_at q10w20_8_23 13) rfl
theorem dX12_weight_39 : decode cX12_weight 39 = .ok (.iload_n 1, 1) := dz_27 (dz_at q10w20_8_23 16)
theorem dX12_weight_40 : decode cX12_weight 40 = .ok (.iload_n 2, 1) := dz_28 (dz_at q10w20_8_23 17)
theorem dX12_weight_41 : decode cX12_weight 41 = .ok (.iastore, 1) := dz_79 (dz_at q10w20_8_23 18)
theorem dX12_weight_42 : decode cX12_weight 42 = .ok (.iload_n 3, 1) := dz_29 (dz_at q10w20_8_23 19)
theorem dX12_weight_43 : decode cX12_weight 43 = .ok (.ireturn, 1) := dz_172 (dz_at q10w20_8_23 20)
theorem dX12_weight_5 : decode cX12_weight 5 = .ok (.iload_n 1, 1) := dz_27 (dz_at q10w20_8_0 5)
theorem dX12_weight_6 : decode cX12_weight 6 = .ok (.iconst 1, 1) := dz_4 (dz_at q10w20_8_0 6)
theorem dX12_weight_7 : decode cX12_weight 7 = .ok (.bipush 9, 2) := dz_16 (dz_at q10w20_8_0 7) (by decide +kernel)
theorem dX12_weight_9 : decode cX12_weight 9 = .ok (.invokestatic 124, 3) := dz_184 (dz_at q10w20_8_0 9) rfl
theorem dm_X12_findOuts : yX12_findOuts.cls = RX12 ∧ yX12_findOuts.cls ≠ "java/lang/invoke/MethodHandle" ∧ yX12_findOuts.cls ≠ "java/lang/invoke/VarHandle" ∧ (parseMethodDescriptor yX12_findOuts.desc).map (fun d => d.parameters.length) = some 1 := by decide +kernel
theorem dm_X12_areAlike : yX12_areAlike.cls = RX12 ∧ yX12_areAlike.cls ≠ "java/lang/invoke/MethodHandle" ∧ yX12_areAlike.cls ≠ "java/lang/invoke/VarHandle" ∧ (parseMethodDescriptor yX12_areAlike.desc).map (fun d => d.parameters.length) = some 2 := by decide +kernel
set_option maxRecDepth 100000 in
def wR_make  (M : zM) (Q : Int → zM → Prop) : Prop := (∀ M1 : zM, M1 = zup M 0 35 0 → wR_findPlan  M1 (fun z4 M3 => wL1 (fun K12 x6 M7 => ((sI (M7 0 10)) ≤ (sI x6) → Q z4 M7) ∧ ((sI x6) < (sI (M7 0 10)) → (z4 = (-1) → Q z4 M7) ∧ (z4 ≠ (-1) → ((0 ≤ (sI x6) ∧ (sI x6) < 4) ∧ ((0 ≤ (sI (2 * x6)) ∧ (sI (2 * x6)) < 64) ∧ ((0 ≤ (sI x6) ∧ (sI x6) < 4) ∧ (∀ M20 : zM, M20 = zup M7 4 (sI x6).toNat ((M7 4 (sI x6).toNat) - (M7 22 (sI (2 * x6)).toNat)) → ((0 ≤ (sI ((2 * x6) + 1)) ∧ (sI ((2 * x6) + 1)) < 64) ∧ ((0 ≤ (sI x6) ∧ (sI x6) < 4) ∧ (∀ M24 : zM, M24 = zup M20 6 (sI x6).toNat (M20 22 (sI ((2 * x6) + 1)).toNat) → K12 (x6 + 1) M24)))))))))) 0 M3))
set_option maxHeartbeats 4000000 in
set_option maxRecDepth 100000 in
theorem cR_make (l : Launch) (D : va_G) (dA : Nat → ClassId) (b : Nat) (M : zM)   (Q : Int → zM → Prop) (h : wR_make  M Q) : Met l yX12_make (.code yX12_make cX12_make 3 (some .int) :: zt) (z_rm 4) (va_Pc [.ref (b + 0)] (wPre D dA vwCl (z_tys dA) wR nR b M)) (va_Qi (wQi Q) (zB D dA vwCl wR nR b) (zA nR b)) 0 0 (zA nR b) := by
  unfold wR_make at h
  refine Met.ofW (cc := cX12_make) (maxL := 3) (ret := (some .int)) (by decide) rfl ?_
  intro p e s m args below meth c s₁ B hml hv
  obtain ⟨hargs, hS, hK⟩ := hv
  have hx := B.exec
  have hb := B.bytes
  have hr := B.returns
  have hts := atoms_spec (ws := .code yX12_make cX12_make 3 (some .int) :: zt) B.pre
  have hown : s.vm.findClass RX12 = some m.cls := findClass_of_methodNamed B.named
  have hlocks := B.notSynchronized
  have hS0 : va_S (zA nR b) s.heap s.heap [] := va_S.rf
  have hl := lv_entry ([.ref (b + 0)]) (n := 3) (Nat.le_of_ble_eq_true rfl)
  have hent : entryFrame m args 3 = F0 m 0 ((lg_sl ([.ref (b + 0)]) ++ List.replicate (3 - (lg_sl ([.ref (b + 0)])).length) Slot.unset).toArray) [] := by rw [hargs]; exact lg_entry_eq m ([.ref (b + 0)]) 3
  rw [hent]
  generalize (lg_sl ([.ref (b + 0)]) ++ List.replicate (3 - (lg_sl ([.ref (b + 0)])).length) Slot.unset).toArray = ls at hl ⊢
  have hl : lv_has ls 3 [(0, .ref (b + 0))] := hl
  refine lv_aload_n hx hb dX12_make_0 rfl (lv_at hl 0 rfl) ?_
  refine z_iconst hx hb dX12_make_1 ?_
  refine w_puti hx hb hts (z_memU u12) tyX12 tyX12_ok nmX12 hown hK.1 hS hS0 f12_35 (by decide) (zkd_of (rfl : zcd wR 0 = 50) rfl) (Or.inl (hts _ (z_mem k979))) rfl (z := 0) (by decide +kernel) dX12_make_2 (fun H locs hS hS0 => ?_)
  obtain ⟨M1, e2⟩ : ∃ M1 : zM, M1 = zup M 0 35 0 := ⟨_, rfl⟩
  rw [← e2] at hS
  have h := h M1 e2
  refine lv_aload_n hx hb dX12_make_5 rfl (lv_at hl 0 rfl) ?_
  refine w_calli (va_runV (As := []) (rest := []) ⟨hx, hb, hml, hown, hts⟩ (cR_findPlan l D dA b M1  _ h) (cwV 0 hts (z_gV k1222 k1223 k1412 k14 k1224) rfl rfl rfl dm_X12_findPlan ⟨Nat.le_of_ble_eq_true rfl, Nat.le_of_ble_eq_true rfl⟩) ⟨wPre_blind, (w_recv hS hK.1 (by decide) (zkd_of (rfl : zcd wR 0 = 50) rfl) (by decide) (rfl : vwCl[12]? = some (RX12, TX12, 50))), w_pre hS hK⟩ rfl rfl hl.1 rfl (lv_room (Nat.le_of_ble_eq_true rfl)) dX12_make_6 ⟨Nat.le_refl _, Nat.le_refl _⟩) hS0 (fun z4 M3 H locs r5 h hS hS0 => ?_)
  refine lv_istore_n (lv' := [(1, .int (iI z4)), (0, .ref (b + 0))]) hx hb dX12_make_9 rfl hl (by decide) rfl (fun ls hl => ?_)
  refine z_iconst hx hb dX12_make_10 ?_
  refine lv_istore_n (lv' := [(2, .int (iI 0)), (1, .int (iI z4)), (0, .ref (b + 0))]) hx hb dX12_make_11 rfl hl (by decide) rfl (fun ls hl => ?_)
  obtain ⟨I8, ⟨n9, h10⟩, h11⟩ := h
  have L12 : ∀ (n13 : Nat) (x6 : Int) (M7 : zM) (H : Heap) (locs : List Loc) (ls : Array Slot), I8 n13 x6 M7 → zR D dA vwCl wR nR b M7 H → va_S (zA nR b) s.heap H locs → lv_has ls 3 [(0, .ref (b + 0)), (1, .int (iI z4)), (2, .int (iI x6))] → W p l e (headSpec (.code yX12_make cX12_make 3 (some .int) :: zt) (z_rm 4)).room s m args below meth c H locs 0 0 (MQ below (va_Qi (wQi Q) (zB D dA vwCl wR nR b) (zA nR b)) args s 0 0 (zA nR b)) (F0 m 12 ls []) := by
    intro n13
    induction n13 using Nat.strongRecOn with
    | ind n13 i14 =>
      intro x6 M7 H locs ls h hS hS0 hl
      have h := h11 n13 x6 M7 h
      refine lv_iload_n hx hb dX12_make_12 rfl (lv_at hl 2 rfl) ?_
      refine lv_aload_n hx hb dX12_make_13 rfl (lv_at hl 0 rfl) ?_
      refine w_geti hx hb hts (z_memU u12) hown hK.1 hS f12_10 (by decide) (zkd_of (rfl : zcd wR 0 = 50) rfl) (Or.inl (hts _ (z_mem k954))) dX12_make_14 ?_
      refine w_icmp_ge (tgt := 64) hx hb rfl rfl dX12_make_17 (by decide) (fun c15 => ?_) (fun c15 => ?_)
      · skip
        have h := h.1 c15
        refine lv_iload_n hx hb dX12_make_64 rfl (lv_at hl 1 rfl) ?_
        exact w_iret hx hb hr hlocks hS hS0 (sI_of r5) h dX12_make_65
      · skip
        have h := h.2 c15
        refine lv_iload_n hx hb dX12_make_20 rfl (lv_at hl 1 rfl) ?_
        refine z_iconst hx hb dX12_make_21 ?_
        refine w_icmp_eq (tgt := 64) hx hb (sI_of r5) (sI_of (by decide)) dX12_make_22 (by decide) (fun c16 => ?_) (fun c16 => ?_)
        · skip
          have h := h.1 c16
          refine lv_iload_n hx hb dX12_make_64 rfl (lv_at hl 1 rfl) ?_
          exact w_iret hx hb hr hlocks hS hS0 (sI_of r5) h dX12_make_65
        · skip
          have h := h.2 c16
          refine lv_aload_n hx hb dX12_make_25 rfl (lv_at hl 0 rfl) ?_
          refine w_getr (j2 := 4) hx hb hts (z_memU u12) hown hK.1 hS f12_5 (by decide) (zkd_of (rfl : zcd wR 0 = 50) rfl) (zrf_of (rfl : zcd wR 0 = 50) rfl) (Or.inl (hts _ (z_mem k949))) dX12_make_26 ?_
          refine lv_iload_n hx hb dX12_make_29 rfl (lv_at hl 2 rfl) ?_
          refine lv_dup2_11 hx hb dX12_make_30 rfl rfl ?_
          obtain ⟨o17, h⟩ := h
          refine w_iald (n := 4) (i := (sI x6)) hx hb hK.1 (t0 := 0) rfl hS (by decide) (zkd_of (rfl : zcd wR 4 = 54) rfl) (zln_of (rfl : zcd wR 4 = 54) rfl) rfl o17.1 o17.2 (by decide) dX12_make_31 ?_
          refine lv_aload_n hx hb dX12_make_32 rfl (lv_at hl 0 rfl) ?_
          refine w_getr (j2 := 22) hx hb hts (z_memU u12) hown hK.1 hS f12_33 (by decide) (zkd_of (rfl : zcd wR 0 = 50) rfl) (zrf_of (rfl : zcd wR 0 = 50) rfl) (Or.inl (hts _ (z_mem k977))) dX12_make_33 ?_
          refine z_iconst hx hb dX12_make_36 ?_
          refine lv_iload_n hx hb dX12_make_37 rfl (lv_at hl 2 rfl) ?_
          refine z_imul hx hb dX12_make_38 ?_
          obtain ⟨o18, h⟩ := h
          refine w_iald (n := 64) (i := (sI (2 * x6))) hx hb hK.1 (t0 := 0) rfl hS (by decide) (zkd_of (rfl : zcd wR 22 = 72) rfl) (zln_of (rfl : zcd wR 22 = 72) rfl) rfl o18.1 o18.2 (by decide) dX12_make_39 ?_
          refine z_isub hx hb dX12_make_40 ?_
          obtain ⟨o19, h⟩ := h
          refine w_iast (z := ((M7 4 (sI x6).toNat) - (M7 22 (sI (2 * x6)).toNat))) (n := 4) (i := (sI x6)) hx hb hK.1 (t0 := 0) rfl hS hS0 (by decide) (zkd_of (rfl : zcd wR 4 = 54) rfl) (zln_of (rfl : zcd wR 4 = 54) rfl) rfl o19.1 o19.2 (by decide) dX12_make_41 (fun H locs hS hS0 => ?_)
          obtain ⟨M20, e21⟩ : ∃ M20 : zM, M20 = zup M7 4 (sI x6).toNat ((M7 4 (sI x6).toNat) - (M7 22 (sI (2 * x6)).toNat)) := ⟨_, rfl⟩
          rw [← e21] at hS
          have h := h M20 e21
          refine lv_aload_n hx hb dX12_make_42 rfl (lv_at hl 0 rfl) ?_
          refine w_getr (j2 := 6) hx hb hts (z_memU u12) hown hK.1 hS f12_7 (by decide) (zkd_of (rfl : zcd wR 0 = 50) rfl) (zrf_of (rfl : zcd wR 0 = 50) rfl) (Or.inl (hts _ (z_mem k951))) dX12_make_43 ?_
          refine lv_iload_n hx hb dX12_make_46 rfl (lv_at hl 2 rfl) ?_
          refine lv_aload_n hx hb dX12_make_47 rfl (lv_at hl 0 rfl) ?_
          refine w_getr (j2 := 22) hx hb hts (z_memU u12) hown hK.1 hS f12_33 (by decide) (zkd_of (rfl : zcd wR 0 = 50) rfl) (zrf_of (rfl : zcd wR 0 = 50) rfl) (Or.inl (hts _ (z_mem k977))) dX12_make_48 ?_
          refine z_iconst hx hb dX12_make_51 ?_
          refine lv_iload_n hx hb dX12_make_52 rfl (lv_at hl 2 rfl) ?_
          refine z_imul hx hb dX12_make_53 ?_
          refine z_iconst hx hb dX12_make_54 ?_
          refine z_iadd hx hb dX12_make_55 ?_
          obtain ⟨o22, h⟩ := h
          refine w_iald (n := 64) (i := (sI ((2 * x6) + 1))) hx hb hK.1 (t0 := 0) rfl hS (by decide) (zkd_of (rfl : zcd wR 22 = 72) rfl) (zln_of (rfl : zcd wR 22 = 72) rfl) rfl o22.1 o22.2 (by decide) dX12_make_56 ?_
          obtain ⟨o23, h⟩ := h
          refine w_iast (z := (M20 22 (sI ((2 * x6) + 1)).toNat)) (n := 4) (i := (sI x6)) hx hb hK.1 (t0 := 0) rfl hS hS0 (by decide) (zkd_of (rfl : zcd wR 6 = 56) rfl) (zln_of (rfl : zcd wR 6 = 56) rfl) rfl o23.1 o23.2 (by decide) dX12_make_57 (fun H locs hS hS0 => ?_)
          obtain ⟨M24, e25⟩ : ∃ M24 : zM, M24 = zup M20 6 (sI x6).toNat (M20 22 (sI ((2 * x6) + 1)).toNat) := ⟨_, rfl⟩
          rw [← e25] at hS
          have h := h M24 e25
          refine z_iinc (lv' := [(2, .int (iI (x6 + 1))), (0, .ref (b + 0)), (1, .int (iI z4))]) hx hb dX12_make_58 hl (k := 2) rfl (by decide) rfl (fun ls hl => ?_)
          refine lv_goto (tgt := 12) hx hb dX12_make_61 (by decide) ?_
          obtain ⟨n26, h27, h⟩ := h
          exact i14 n26 h27 (x6 + 1) M24 _ _ _ h hS hS0 (lv_sub hl [1, 2, 0] rfl)
  exact L12 n9 0 M3 _ _ _ h10 hS hS0 (lv_sub hl [2, 1, 0] rfl)

set_option maxRecDepth 100000 in
def wR_cut (a0 : Int) (a1 : Int) (M : zM) (Q : Int → zM → Prop) : Prop := (∀ M1 : zM, M1 = zup M 0 35 0 → wR_isRing a0 M1 (fun z4 => (z4 = 0 → Q (-1) M1) ∧ (z4 ≠ 0 → ((0 ≤ (sI a0) ∧ (sI a0) < 4) ∧ wR_in a1 0 ((M1 4 (sI a0).toNat) - 1) M1 (fun z10 => (z10 ≠ 0 → ((0 ≤ (sI a0) ∧ (sI a0) < 4) ∧ ((0 ≤ (sI a0) ∧ (sI a0) < 4) ∧ (∀ M16 : zM, M16 = zup M1 4 (sI a0).toNat ((M1 4 (sI a0).toNat) - a1) → ((0 ≤ (sI a0) ∧ (sI a0) < 4) ∧ ((0 ≤ (sI a0) ∧ (sI a0) < 4) ∧ (((sI (M16 4 (sI a0).toNat)) ≠ 0) ∧ ((0 ≤ (sI a0) ∧ (sI a0) < 4) ∧ (∀ M22 : zM, M22 = zup M16 6 (sI a0).toNat ((sI (M16 6 (sI a0).toNat)).tmod (sI (M16 4 (sI a0).toNat))) → ((0 ≤ (sI a0) ∧ (sI a0) < 4) ∧ Q (sI (M22 4 (sI a0).toNat)) M22)))))))))) ∧ (z10 = 0 → Q (-1) M1))))))
set_option maxHeartbeats 4000000 in
set_option maxRecDepth 100000 in
theorem cR_cut (l : Launch) (D : va_G) (dA : Nat → ClassId) (b : Nat) (M : zM) (a0 : Int) (a1 : Int)  (Q : Int → zM → Prop) (h : wR_cut a0 a1 M Q) : Met l yX12_cut (.code yX12_cut cX12_cut 3 (some .int) :: zt) (z_rm 2) (va_Pc [.ref (b + 0), .int (iI a0), .int (iI a1)] (wPre D dA vwCl (z_tys dA) wR nR b M)) (va_Qi (wQi Q) (zB D dA vwCl wR nR b) (zA nR b)) 0 0 (zA nR b) := by
  unfold wR_cut at h
  refine Met.ofW (cc := cX12_cut) (maxL := 3) (ret := (some .int)) (by decide) rfl ?_
  intro p e s m args below meth c s₁ B hml hv
  obtain ⟨hargs, hS, hK⟩ := hv
  have hx := B.exec
  have hb := B.bytes
  have hr := B.returns
  have hts := atoms_spec (ws := .code yX12_cut cX12_cut 3 (some .int) :: zt) B.pre
  have hown : s.vm.findClass RX12 = some m.cls := findClass_of_methodNamed B.named
  have hlocks := B.notSynchronized
  have hS0 : va_S (zA nR b) s.heap s.heap [] := va_S.rf
  have hl := lv_entry ([.ref (b + 0), .int (iI a0), .int (iI a1)]) (n := 3) (Nat.le_of_ble_eq_true rfl)
  have hent : entryFrame m args 3 = F0 m 0 ((lg_sl ([.ref (b + 0), .int (iI a0), .int (iI a1)]) ++ List.replicate (3 - (lg_sl ([.ref (b + 0), .int (iI a0), .int (iI a1)])).length) Slot.unset).toArray) [] := by rw [hargs]; exact lg_entry_eq m ([.ref (b + 0), .int (iI a0), .int (iI a1)]) 3
  rw [hent]
  generalize (lg_sl ([.ref (b + 0), .int (iI a0), .int (iI a1)]) ++ List.replicate (3 - (lg_sl ([.ref (b + 0), .int (iI a0), .int (iI a1)])).length) Slot.unset).toArray = ls at hl ⊢
  have hl : lv_has ls 3 [(0, .ref (b + 0)), (1, .int (iI a0)), (2, .int (iI a1))] := hl
  refine lv_aload_n hx hb dX12_cut_0 rfl (lv_at hl 0 rfl) ?_
  refine z_iconst hx hb dX12_cut_1 ?_
  refine w_puti hx hb hts (z_memU u12) tyX12 tyX12_ok nmX12 hown hK.1 hS hS0 f12_35 (by decide) (zkd_of (rfl : zcd wR 0 = 50) rfl) (Or.inl (hts _ (z_mem k979))) rfl (z := 0) (by decide +kernel) dX12_cut_2 (fun H locs hS hS0 => ?_)
  obtain ⟨M1, e2⟩ : ∃ M1 : zM, M1 = zup M 0 35 0 := ⟨_, rfl⟩
  rw [← e2] at hS
  have h := h M1 e2
  refine lv_aload_n hx hb dX12_cut_5 rfl (lv_at hl 0 rfl) ?_
  refine lv_iload_n hx hb dX12_cut_6 rfl (lv_at hl 1 rfl) ?_
  refine w_callz (va_runV (As := [.int (iI a0)]) (rest := []) ⟨hx, hb, hml, hown, hts⟩ (cR_isRing l D dA b M1 a0 _ h) (cwV 1 hts (z_gV k1097 k1098 k1397 k14 k1099) rfl rfl rfl dm_X12_isRing ⟨Nat.le_of_ble_eq_true rfl, Nat.le_of_ble_eq_true rfl⟩) ⟨wPre_blind, (w_recv hS hK.1 (by decide) (zkd_of (rfl : zcd wR 0 = 50) rfl) (by decide) (rfl : vwCl[12]? = some (RX12, TX12, 50))), w_pre hS hK⟩ rfl rfl hl.1 rfl (lv_room (Nat.le_of_ble_eq_true rfl)) dX12_cut_7 ⟨Nat.le_refl _, Nat.le_refl _⟩) hS0 (fun z4 M3 H locs r5 h hS hS0 => ?_)
  obtain ⟨e6, h⟩ := h
  rw [e6] at hS
  refine w_if_eq (tgt := 29) hx hb (sI_01 r5) dX12_cut_10 (by decide) (fun c7 => ?_) (fun c7 => ?_)
  · skip
    have h := h.1 c7
    refine z_iconst hx hb dX12_cut_29 ?_
    exact w_iret hx hb hr hlocks hS hS0 (sI_of (by decide)) h dX12_cut_30
  · skip
    have h := h.2 c7
    refine lv_iload_n hx hb dX12_cut_13 rfl (lv_at hl 2 rfl) ?_
    refine z_iconst hx hb dX12_cut_14 ?_
    refine lv_aload_n hx hb dX12_cut_15 rfl (lv_at hl 0 rfl) ?_
    refine w_getr (j2 := 4) hx hb hts (z_memU u12) hown hK.1 hS f12_5 (by decide) (zkd_of (rfl : zcd wR 0 = 50) rfl) (zrf_of (rfl : zcd wR 0 = 50) rfl) (Or.inl (hts _ (z_mem k949))) dX12_cut_16 ?_
    refine lv_iload_n hx hb dX12_cut_19 rfl (lv_at hl 1 rfl) ?_
    obtain ⟨o8, h⟩ := h
    refine w_iald (n := 4) (i := (sI a0)) hx hb hK.1 (t0 := 0) rfl hS (by decide) (zkd_of (rfl : zcd wR 4 = 54) rfl) (zln_of (rfl : zcd wR 4 = 54) rfl) rfl o8.1 o8.2 (by decide) dX12_cut_20 ?_
    refine z_iconst hx hb dX12_cut_21 ?_
    refine z_isub hx hb dX12_cut_22 ?_
    refine w_callz (va_runS (As := [.int (iI a1), .int (iI 0), .int (iI ((M1 4 (sI a0).toNat) - 1))]) (rest := []) ⟨hx, hb, hml, hown, hts⟩ (cR_in l D dA b M1 a1 0 ((M1 4 (sI a0).toNat) - 1) _ h) (va_cwS 3 hts (z_gS k1083 k1084 k14 k1085) rfl rfl rfl dm_X12_in.2 ⟨Nat.le_of_ble_eq_true rfl, Nat.le_of_ble_eq_true rfl⟩) ⟨wPre_blind, w_pre hS hK⟩ rfl rfl hl.1 rfl (lv_room (Nat.le_of_ble_eq_true rfl)) dX12_cut_23 ⟨Nat.le_refl _, Nat.le_refl _⟩) hS0 (fun z10 M9 H locs r11 h hS hS0 => ?_)
    obtain ⟨e12, h⟩ := h
    rw [e12] at hS
    refine w_if_ne (tgt := 31) hx hb (sI_01 r11) dX12_cut_26 (by decide) (fun c13 => ?_) (fun c13 => ?_)
    · skip
      have h := h.1 c13
      refine lv_aload_n hx hb dX12_cut_31 rfl (lv_at hl 0 rfl) ?_
      refine w_getr (j2 := 4) hx hb hts (z_memU u12) hown hK.1 hS f12_5 (by decide) (zkd_of (rfl : zcd wR 0 = 50) rfl) (zrf_of (rfl : zcd wR 0 = 50) rfl) (Or.inl (hts _ (z_mem k949))) dX12_cut_32 ?_
      refine lv_iload_n hx hb dX12_cut_35 rfl (lv_at hl 1 rfl) ?_
      refine lv_dup2_11 hx hb dX12_cut_36 rfl rfl ?_
      obtain ⟨o14, h⟩ := h
      refine w_iald (n := 4) (i := (sI a0)) hx hb hK.1 (t0 := 0) rfl hS (by decide) (zkd_of (rfl : zcd wR 4 = 54) rfl) (zln_of (rfl : zcd wR 4 = 54) rfl) rfl o14.1 o14.2 (by decide) dX12_cut_37 ?_
      refine lv_iload_n hx hb dX12_cut_38 rfl (lv_at hl 2 rfl) ?_
      refine z_isub hx hb dX12_cut_39 ?_
      obtain ⟨o15, h⟩ := h
      refine w_iast (z := ((M1 4 (sI a0).toNat) - a1)) (n := 4) (i := (sI a0)) hx hb hK.1 (t0 := 0) rfl hS hS0 (by decide) (zkd_of (rfl : zcd wR 4 = 54) rfl) (zln_of (rfl : zcd wR 4 = 54) rfl) rfl o15.1 o15.2 (by decide) dX12_cut_40 (fun H locs hS hS0 => ?_)
      obtain ⟨M16, e17⟩ : ∃ M16 : zM, M16 = zup M1 4 (sI a0).toNat ((M1 4 (sI a0).toNat) - a1) := ⟨_, rfl⟩
      rw [← e17] at hS
      have h := h M16 e17
      refine lv_aload_n hx hb dX12_cut_41 rfl (lv_at hl 0 rfl) ?_
      refine w_getr (j2 := 6) hx hb hts (z_memU u12) hown hK.1 hS f12_7 (by decide) (zkd_of (rfl : zcd wR 0 = 50) rfl) (zrf_of (rfl : zcd wR 0 = 50) rfl) (Or.inl (hts _ (z_mem k951))) dX12_cut_42 ?_
      refine lv_iload_n hx hb dX12_cut_45 rfl (lv_at hl 1 rfl) ?_
      refine lv_dup2_11 hx hb dX12_cut_46 rfl rfl ?_
      obtain ⟨o18, h⟩ := h
      refine w_iald (n := 4) (i := (sI a0)) hx hb hK.1 (t0 := 0) rfl hS (by decide) (zkd_of (rfl : zcd wR 6 = 56) rfl) (zln_of (rfl : zcd wR 6 = 56) rfl) rfl o18.1 o18.2 (by decide) dX12_cut_47 ?_
      refine lv_aload_n hx hb dX12_cut_48 rfl (lv_at hl 0 rfl) ?_
      refine w_getr (j2 := 4) hx hb hts (z_memU u12) hown hK.1 hS f12_5 (by decide) (zkd_of (rfl : zcd wR 0 = 50) rfl) (zrf_of (rfl : zcd wR 0 = 50) rfl) (Or.inl (hts _ (z_mem k949))) dX12_cut_49 ?_
      refine lv_iload_n hx hb dX12_cut_52 rfl (lv_at hl 1 rfl) ?_
      obtain ⟨o19, h⟩ := h
      refine w_iald (n := 4) (i := (sI a0)) hx hb hK.1 (t0 := 0) rfl hS (by decide) (zkd_of (rfl : zcd wR 4 = 54) rfl) (zln_of (rfl : zcd wR 4 = 54) rfl) rfl o19.1 o19.2 (by decide) dX12_cut_53 ?_
      obtain ⟨o20, h⟩ := h
      refine w_irem hx hb rfl rfl o20 dX12_cut_54 ?_
      obtain ⟨o21, h⟩ := h
      refine w_iast (z := ((sI (M16 6 (sI a0).toNat)).tmod (sI (M16 4 (sI a0).toNat)))) (n := 4) (i := (sI a0)) hx hb hK.1 (t0 := 0) rfl hS hS0 (by decide) (zkd_of (rfl : zcd wR 6 = 56) rfl) (zln_of (rfl : zcd wR 6 = 56) rfl) rfl o21.1 o21.2 (by decide) dX12_cut_55 (fun H locs hS hS0 => ?_)
      obtain ⟨M22, e23⟩ : ∃ M22 : zM, M22 = zup M16 6 (sI a0).toNat ((sI (M16 6 (sI a0).toNat)).tmod (sI (M16 4 (sI a0).toNat))) := ⟨_, rfl⟩
      rw [← e23] at hS
      have h := h M22 e23
      refine lv_aload_n hx hb dX12_cut_56 rfl (lv_at hl 0 rfl) ?_
      refine w_getr (j2 := 4) hx hb hts (z_memU u12) hown hK.1 hS f12_5 (by decide) (zkd_of (rfl : zcd wR 0 = 50) rfl) (zrf_of (rfl : zcd wR 0 = 50) rfl) (Or.inl (hts _ (z_mem k949))) dX12_cut_57 ?_
      refine lv_iload_n hx hb dX12_cut_60 rfl (lv_at hl 1 rfl) ?_
      obtain ⟨o24, h⟩ := h
      refine w_iald (n := 4) (i := (sI a0)) hx hb hK.1 (t0 := 0) rfl hS (by decide) (zkd_of (rfl : zcd wR 4 = 54) rfl) (zln_of (rfl : zcd wR 4 = 54) rfl) rfl o24.1 o24.2 (by decide) dX12_cut_61 ?_
      exact w_iret hx hb hr hlocks hS hS0 rfl h dX12_cut_62
    · skip
      have h := h.2 c13
      refine z_iconst hx hb dX12_cut_29 ?_
      exact w_iret hx hb hr hlocks hS hS0 (sI_of (by decide)) h dX12_cut_30

set_option maxRecDepth 100000 in
def wR_weight (a0 : Int) (a1 : Int) (M : zM) (Q : Int → zM → Prop) : Prop := (∀ M1 : zM, M1 = zup M 0 35 0 → wR_in a0 1 9 M1 (fun z4 => (z4 = 0 → Q (-1) M1) ∧ (z4 ≠ 0 → wR_in a1 0 200 M1 (fun z9 => (z9 ≠ 0 → ((0 ≤ (sI a0) ∧ (sI a0) < 10) ∧ ((0 ≤ (sI a0) ∧ (sI a0) < 10) ∧ (∀ M15 : zM, M15 = zup M1 14 (sI a0).toNat a1 → Q (sI (M1 14 (sI a0).toNat)) M15)))) ∧ (z9 = 0 → Q (-1) M1)))))
set_option maxHeartbeats 4000000 in
set_option maxRecDepth 100000 in
theorem cR_weight (l : Launch) (D : va_G) (dA : Nat → ClassId) (b : Nat) (M : zM) (a0 : Int) (a1 : Int)  (Q : Int → zM → Prop) (h : wR_weight a0 a1 M Q) : Met l yX12_weight (.code yX12_weight cX12_weight 4 (some .int) :: zt) (z_rm 1) (va_Pc [.ref (b + 0), .int (iI a0), .int (iI a1)] (wPre D dA vwCl (z_tys dA) wR nR b M)) (va_Qi (wQi Q) (zB D dA vwCl wR nR b) (zA nR b)) 0 0 (zA nR b) := by
  unfold wR_weight at h
  refine Met.ofW (cc := cX12_weight) (maxL := 4) (ret := (some .int)) (by decide) rfl ?_
  intro p e s m args below meth c s₁ B hml hv
  obtain ⟨hargs, hS, hK⟩ := hv
  have hx := B.exec
  have hb := B.bytes
  have hr := B.returns
  have hts := atoms_spec (ws := .code yX12_weight cX12_weight 4 (some .int) :: zt) B.pre
  have hown : s.vm.findClass RX12 = some m.cls := findClass_of_methodNamed B.named
  have hlocks := B.notSynchronized
  have hS0 : va_S (zA nR b) s.heap s.heap [] := va_S.rf
  have hl := lv_entry ([.ref (b + 0), .int (iI a0), .int (iI a1)]) (n := 4) (Nat.le_of_ble_eq_true rfl)
  have hent : entryFrame m args 4 = F0 m 0 ((lg_sl ([.ref (b + 0), .int (iI a0), .int (iI a1)]) ++ List.replicate (4 - (lg_sl ([.ref (b + 0), .int (iI a0), .int (iI a1)])).length) Slot.unset).toArray) [] := by rw [hargs]; exact lg_entry_eq m ([.ref (b + 0), .int (iI a0), .int (iI a1)]) 4
  rw [hent]
  generalize (lg_sl ([.ref (b + 0), .int (iI a0), .int (iI a1)]) ++ List.replicate (4 - (lg_sl ([.ref (b + 0), .int (iI a0), .int (iI a1)])).length) Slot.unset).toArray = ls at hl ⊢
  have hl : lv_has ls 4 [(0, .ref (b + 0)), (1, .int (iI a0)), (2, .int (iI a1))] := hl
  refine lv_aload_n hx hb dX12_weight_0 rfl (lv_at hl 0 rfl) ?_
  refine z_iconst hx hb dX12_weight_1 ?_
  refine w_puti hx hb hts (z_memU u12) tyX12 tyX12_ok nmX12 hown hK.1 hS hS0 f12_35 (by decide) (zkd_of (rfl : zcd wR 0 = 50) rfl) (Or.inl (hts _ (z_mem k979))) rfl (z := 0) (by decide +kernel) dX12_weight_2 (fun H locs hS hS0 => ?_)
  obtain ⟨M1, e2⟩ : ∃ M1 : zM, M1 = zup M 0 35 0 := ⟨_, rfl⟩
  rw [← e2] at hS
  have h := h M1 e2
  refine lv_iload_n hx hb dX12_weight_5 rfl (lv_at hl 1 rfl) ?_
  refine z_iconst hx hb dX12_weight_6 ?_
  refine z_bipush hx hb (by decide) dX12_weight_7 ?_
  refine w_callz (va_runS (As := [.int (iI a0), .int (iI 1), .int (iI 9)]) (rest := []) ⟨hx, hb, hml, hown, hts⟩ (cR_in l D dA b M1 a0 1 9 _ h) (va_cwS 3 hts (z_gS k1083 k1084 k14 k1085) rfl rfl rfl dm_X12_in.2 ⟨Nat.le_of_ble_eq_true rfl, Nat.le_of_ble_eq_true rfl⟩) ⟨wPre_blind, w_pre hS hK⟩ rfl rfl hl.1 rfl (lv_room (Nat.le_of_ble_eq_true rfl)) dX12_weight_9 ⟨Nat.le_refl _, Nat.le_refl _⟩) hS0 (fun z4 M3 H locs r5 h hS hS0 => ?_)
  obtain ⟨e6, h⟩ := h
  rw [e6] at hS
  refine w_if_eq (tgt := 26) hx hb (sI_01 r5) dX12_weight_12 (by decide) (fun c7 => ?_) (fun c7 => ?_)
  · skip
    have h := h.1 c7
    refine z_iconst hx hb dX12_weight_26 ?_
    exact w_iret hx hb hr hlocks hS hS0 (sI_of (by decide)) h dX12_weight_27
  · skip
    have h := h.2 c7
    refine lv_iload_n hx hb dX12_weight_15 rfl (lv_at hl 2 rfl) ?_
    refine z_iconst hx hb dX12_weight_16 ?_
    refine z_sipush hx hb (by decide) dX12_weight_17 ?_
    refine w_callz (va_runS (As := [.int (iI a1), .int (iI 0), .int (iI 200)]) (rest := []) ⟨hx, hb, hml, hown, hts⟩ (cR_in l D dA b M1 a1 0 200 _ h) (va_cwS 3 hts (z_gS k1083 k1084 k14 k1085) rfl rfl rfl dm_X12_in.2 ⟨Nat.le_of_ble_eq_true rfl, Nat.le_of_ble_eq_true rfl⟩) ⟨wPre_blind, w_pre hS hK⟩ rfl rfl hl.1 rfl (lv_room (Nat.le_of_ble_eq_true rfl)) dX12_weight_20 ⟨Nat.le_refl _, Nat.le_refl _⟩) hS0 (fun z9 M8 H locs r10 h hS hS0 => ?_)
    obtain ⟨e11, h⟩ := h
    rw [e11] at hS
    refine w_if_ne (tgt := 28) hx hb (sI_01 r10) dX12_weight_23 (by decide) (fun c12 => ?_) (fun c12 => ?_)
    · skip
      have h := h.1 c12
      refine lv_aload_n hx hb dX12_weight_28 rfl (lv_at hl 0 rfl) ?_
      refine w_getr (j2 := 14) hx hb hts (z_memU u12) hown hK.1 hS f12_17 (by decide) (zkd_of (rfl : zcd wR 0 = 50) rfl) (zrf_of (rfl : zcd wR 0 = 50) rfl) (Or.inl (hts _ (z_mem k961))) dX12_weight_29 ?_
      refine lv_iload_n hx hb dX12_weight_32 rfl (lv_at hl 1 rfl) ?_
      obtain ⟨o13, h⟩ := h
      refine w_iald (n := 10) (i := (sI a0)) hx hb hK.1 (t0 := 0) rfl hS (by decide) (zkd_of (rfl : zcd wR 14 = 64) rfl) (zln_of (rfl : zcd wR 14 = 64) rfl) rfl o13.1 o13.2 (by decide) dX12_weight_33 ?_
      refine lv_istore_n (lv' := [(3, .int (iI (M1 14 (sI a0).toNat))), (0, .ref (b + 0)), (1, .int (iI a0)), (2, .int (iI a1))]) hx hb dX12_weight_34 rfl hl (by decide) rfl (fun ls hl => ?_)
      refine lv_aload_n hx hb dX12_weight_35 rfl (lv_at hl 1 rfl) ?_
      refine w_getr (j2 := 14) hx hb hts (z_memU u12) hown hK.1 hS f12_17 (by decide) (zkd_of (rfl : zcd wR 0 = 50) rfl) (zrf_of (rfl : zcd wR 0 = 50) rfl) (Or.inl (hts _ (z_mem k961))) dX12_weight_36 ?_
      refine lv_iload_n hx hb dX12_weight_39 rfl (lv_at hl 2 rfl) ?_
      refine lv_iload_n hx hb dX12_weight_40 rfl (lv_at hl 3 rfl) ?_
      obtain ⟨o14, h⟩ := h
      refine w_iast (z := a1) (n := 10) (i := (sI a0)) hx hb hK.1 (t0 := 0) rfl hS hS0 (by decide) (zkd_of (rfl : zcd wR 14 = 64) rfl) (zln_of (rfl : zcd wR 14 = 64) rfl) rfl o14.1 o14.2 (by decide) dX12_weight_41 (fun H locs hS hS0 => ?_)
      obtain ⟨M15, e16⟩ : ∃ M15 : zM, M15 = zup M1 14 (sI a0).toNat a1 := ⟨_, rfl⟩
      rw [← e16] at hS
      have h := h M15 e16
      refine lv_iload_n hx hb dX12_weight_42 rfl (lv_at hl 0 rfl) ?_
      exact w_iret hx hb hr hlocks hS hS0 rfl h dX12_weight_43
    · skip
      have h := h.2 c12
      refine z_iconst hx hb dX12_weight_26 ?_
      exact w_iret hx hb hr hlocks hS hS0 (sI_of (by decide)) h dX12_weight_27

set_option maxRecDepth 100000 in
def wR_heads (a0 : Int) (a1 : Int) (a2 : Int) (a3 : Int) (M : zM) (Q : Int → zM → Prop) : Prop := (∀ M1 : zM, M1 = zup M 0 35 0 → wR_in a0 1 20 M1 (fun z4 => (z4 = 0 → Q 0 M1) ∧ (z4 ≠ 0 → wR_in a1 0 100 M1 (fun z9 => (z9 = 0 → Q 0 M1) ∧ (z9 ≠ 0 → wR_in a2 1 20 M1 (fun z14 => (z14 = 0 → Q 0 M1) ∧ (z14 ≠ 0 → wR_in a3 0 100 M1 (fun z19 => (z19 ≠ 0 → (∀ M23 : zM, M23 = zup M1 0 18 a0 → (∀ M25 : zM, M25 = zup M23 0 19 a1 → (∀ M27 : zM, M27 = zup M25 0 20 a2 → (∀ M29 : zM, M29 = zup M27 0 21 a3 → Q 1 M29))))) ∧ (z19 = 0 → Q 0 M1)))))))))
set_option maxHeartbeats 4000000 in
set_option maxRecDepth 100000 in
theorem cR_heads (l : Launch) (D : va_G) (dA : Nat → ClassId) (b : Nat) (M : zM) (a0 : Int) (a1 : Int) (a2 : Int) (a3 : Int)  (Q : Int → zM → Prop) (h : wR_heads a0 a1 a2 a3 M Q) : Met l yX12_heads (.code yX12_heads cX12_heads 5 (some .boolean) :: zt) (z_rm 1) (va_Pc [.ref (b + 0), .int (iI a0), .int (iI a1), .int (iI a2), .int (iI a3)] (wPre D dA vwCl (z_tys dA) wR nR b M)) (va_Qi (wQz Q) (zB D dA vwCl wR nR b) (zA nR b)) 0 0 (zA nR b) := by
  unfold wR_heads at h
  refine Met.ofW (cc := cX12_heads) (maxL := 5) (ret := (some .boolean)) (by decide) rfl ?_
  intro p e s m args below meth c s₁ B hml hv
  obtain ⟨hargs, hS, hK⟩ := hv
  have hx := B.exec
  have hb := B.bytes
  have hr := B.returns
  have hts := atoms_spec (ws := .code yX12_heads cX12_heads 5 (some .boolean) :: zt) B.pre
  have hown : s.vm.findClass RX12 = some m.cls := findClass_of_methodNamed B.named
  have hlocks := B.notSynchronized
  have hS0 : va_S (zA nR b) s.heap s.heap [] := va_S.rf
  have hl := lv_entry ([.ref (b + 0), .int (iI a0), .int (iI a1), .int (iI a2), .int (iI a3)]) (n := 5) (Nat.le_of_ble_eq_true rfl)
  have hent : entryFrame m args 5 = F0 m 0 ((lg_sl ([.ref (b + 0), .int (iI a0), .int (iI a1), .int (iI a2), .int (iI a3)]) ++ List.replicate (5 - (lg_sl ([.ref (b + 0), .int (iI a0), .int (iI a1), .int (iI a2), .int (iI a3)])).length) Slot.unset).toArray) [] := by rw [hargs]; exact lg_entry_eq m ([.ref (b + 0), .int (iI a0), .int (iI a1), .int (iI a2), .int (iI a3)]) 5
  rw [hent]
  generalize (lg_sl ([.ref (b + 0), .int (iI a0), .int (iI a1), .int (iI a2), .int (iI a3)]) ++ List.replicate (5 - (lg_sl ([.ref (b + 0), .int (iI a0), .int (iI a1), .int (iI a2), .int (iI a3)])).length) Slot.unset).toArray = ls at hl ⊢
  have hl : lv_has ls 5 [(0, .ref (b + 0)), (1, .int (iI a0)), (2, .int (iI a1)), (3, .int (iI a2)), (4, .int (iI a3))] := hl
  refine lv_aload_n hx hb dX12_heads_0 rfl (lv_at hl 0 rfl) ?_
  refine z_iconst hx hb dX12_heads_1 ?_
  refine w_puti hx hb hts (z_memU u12) tyX12 tyX12_ok nmX12 hown hK.1 hS hS0 f12_35 (by decide) (zkd_of (rfl : zcd wR 0 = 50) rfl) (Or.inl (hts _ (z_mem k979))) rfl (z := 0) (by decide +kernel) dX12_heads_2 (fun H locs hS hS0 => ?_)
  obtain ⟨M1, e2⟩ : ∃ M1 : zM, M1 = zup M 0 35 0 := ⟨_, rfl⟩
  rw [← e2] at hS
  have h := h M1 e2
  refine lv_iload_n hx hb dX12_heads_5 rfl (lv_at hl 1 rfl) ?_
  refine z_iconst hx hb dX12_heads_6 ?_
  refine z_bipush hx hb (by decide) dX12_heads_7 ?_
  refine w_callz (va_runS (As := [.int (iI a0), .int (iI 1), .int (iI 20)]) (rest := []) ⟨hx, hb, hml, hown, hts⟩ (cR_in l D dA b M1 a0 1 20 _ h) (va_cwS 3 hts (z_gS k1083 k1084 k14 k1085) rfl rfl rfl dm_X12_in.2 ⟨Nat.le_of_ble_eq_true rfl, Nat.le_of_ble_eq_true rfl⟩) ⟨wPre_blind, w_pre hS hK⟩ rfl rfl hl.1 rfl (lv_room (Nat.le_of_ble_eq_true rfl)) dX12_heads_9 ⟨Nat.le_refl _, Nat.le_refl _⟩) hS0 (fun z4 M3 H locs r5 h hS hS0 => ?_)
  obtain ⟨e6, h⟩ := h
  rw [e6] at hS
  refine w_if_eq (tgt := 46) hx hb (sI_01 r5) dX12_heads_12 (by decide) (fun c7 => ?_) (fun c7 => ?_)
  · skip
    have h := h.1 c7
    refine z_iconst hx hb dX12_heads_46 ?_
    exact w_zret hx hb hr hlocks hS hS0 (sI_of (by decide)) (by decide) h dX12_heads_47
  · skip
    have h := h.2 c7
    refine lv_iload_n hx hb dX12_heads_15 rfl (lv_at hl 2 rfl) ?_
    refine z_iconst hx hb dX12_heads_16 ?_
    refine z_bipush hx hb (by decide) dX12_heads_17 ?_
    refine w_callz (va_runS (As := [.int (iI a1), .int (iI 0), .int (iI 100)]) (rest := []) ⟨hx, hb, hml, hown, hts⟩ (cR_in l D dA b M1 a1 0 100 _ h) (va_cwS 3 hts (z_gS k1083 k1084 k14 k1085) rfl rfl rfl dm_X12_in.2 ⟨Nat.le_of_ble_eq_true rfl, Nat.le_of_ble_eq_true rfl⟩) ⟨wPre_blind, w_pre hS hK⟩ rfl rfl hl.1 rfl (lv_room (Nat.le_of_ble_eq_true rfl)) dX12_heads_19 ⟨Nat.le_refl _, Nat.le_refl _⟩) hS0 (fun z9 M8 H locs r10 h hS hS0 => ?_)
    obtain ⟨e11, h⟩ := h
    rw [e11] at hS
    refine w_if_eq (tgt := 46) hx hb (sI_01 r10) dX12_heads_22 (by decide) (fun c12 => ?_) (fun c12 => ?_)
    · skip
      have h := h.1 c12
      refine z_iconst hx hb dX12_heads_46 ?_
      exact w_zret hx hb hr hlocks hS hS0 (sI_of (by decide)) (by decide) h dX12_heads_47
    · skip
      have h := h.2 c12
      refine lv_iload_n hx hb dX12_heads_25 rfl (lv_at hl 3 rfl) ?_
      refine z_iconst hx hb dX12_heads_26 ?_
      refine z_bipush hx hb (by decide) dX12_heads_27 ?_
      refine w_callz (va_runS (As := [.int (iI a2), .int (iI 1), .int (iI 20)]) (rest := []) ⟨hx, hb, hml, hown, hts⟩ (cR_in l D dA b M1 a2 1 20 _ h) (va_cwS 3 hts (z_gS k1083 k1084 k14 k1085) rfl rfl rfl dm_X12_in.2 ⟨Nat.le_of_ble_eq_true rfl, Nat.le_of_ble_eq_true rfl⟩) ⟨wPre_blind, w_pre hS hK⟩ rfl rfl hl.1 rfl (lv_room (Nat.le_of_ble_eq_true rfl)) dX12_heads_29 ⟨Nat.le_refl _, Nat.le_refl _⟩) hS0 (fun z14 M13 H locs r15 h hS hS0 => ?_)
      obtain ⟨e16, h⟩ := h
      rw [e16] at hS
      refine w_if_eq (tgt := 46) hx hb (sI_01 r15) dX12_heads_32 (by decide) (fun c17 => ?_) (fun c17 => ?_)
      · skip
        have h := h.1 c17
        refine z_iconst hx hb dX12_heads_46 ?_
        exact w_zret hx hb hr hlocks hS hS0 (sI_of (by decide)) (by decide) h dX12_heads_47
      · skip
        have h := h.2 c17
        refine lv_iload hx hb dX12_heads_35 (lv_at hl 4 rfl) ?_
        refine z_iconst hx hb dX12_heads_37 ?_
        refine z_bipush hx hb (by decide) dX12_heads_38 ?_
        refine w_callz (va_runS (As := [.int (iI a3), .int (iI 0), .int (iI 100)]) (rest := []) ⟨hx, hb, hml, hown, hts⟩ (cR_in l D dA b M1 a3 0 100 _ h) (va_cwS 3 hts (z_gS k1083 k1084 k14 k1085) rfl rfl rfl dm_X12_in.2 ⟨Nat.le_of_ble_eq_true rfl, Nat.le_of_ble_eq_true rfl⟩) ⟨wPre_blind, w_pre hS hK⟩ rfl rfl hl.1 rfl (lv_room (Nat.le_of_ble_eq_true rfl)) dX12_heads_40 ⟨Nat.le_refl _, Nat.le_refl _⟩) hS0 (fun z19 M18 H locs r20 h hS hS0 => ?_)
        obtain ⟨e21, h⟩ := h
        rw [e21] at hS
        refine w_if_ne (tgt := 48) hx hb (sI_01 r20) dX12_heads_43 (by decide) (fun c22 => ?_) (fun c22 => ?_)
        · skip
          have h := h.1 c22
          refine lv_aload_n hx hb dX12_heads_48 rfl (lv_at hl 0 rfl) ?_
          refine lv_iload_n hx hb dX12_heads_49 rfl (lv_at hl 1 rfl) ?_
          refine w_puti hx hb hts (z_memU u12) tyX12 tyX12_ok nmX12 hown hK.1 hS hS0 f12_18 (by decide) (zkd_of (rfl : zcd wR 0 = 50) rfl) (Or.inl (hts _ (z_mem k962))) rfl (z := a0) (by decide +kernel) dX12_heads_50 (fun H locs hS hS0 => ?_)
          obtain ⟨M23, e24⟩ : ∃ M23 : zM, M23 = zup M1 0 18 a0 := ⟨_, rfl⟩
          rw [← e24] at hS
          have h := h M23 e24
          refine lv_aload_n hx hb dX12_heads_53 rfl (lv_at hl 0 rfl) ?_
          refine lv_iload_n hx hb dX12_heads_54 rfl (lv_at hl 2 rfl) ?_
          refine w_puti hx hb hts (z_memU u12) tyX12 tyX12_ok nmX12 hown hK.1 hS hS0 f12_19 (by decide) (zkd_of (rfl : zcd wR 0 = 50) rfl) (Or.inl (hts _ (z_mem k963))) rfl (z := a1) (by decide +kernel) dX12_heads_55 (fun H locs hS hS0 => ?_)
          obtain ⟨M25, e26⟩ : ∃ M25 : zM, M25 = zup M23 0 19 a1 := ⟨_, rfl⟩
          rw [← e26] at hS
          have h := h M25 e26
          refine lv_aload_n hx hb dX12_heads_58 rfl (lv_at hl 0 rfl) ?_
          refine lv_iload_n hx hb dX12_heads_59 rfl (lv_at hl 3 rfl) ?_
          refine w_puti hx hb hts (z_memU u12) tyX12 tyX12_ok nmX12 hown hK.1 hS hS0 f12_20 (by decide) (zkd_of (rfl : zcd wR 0 = 50) rfl) (Or.inl (hts _ (z_mem k964))) rfl (z := a2) (by decide +kernel) dX12_heads_60 (fun H locs hS hS0 => ?_)
          obtain ⟨M27, e28⟩ : ∃ M27 : zM, M27 = zup M25 0 20 a2 := ⟨_, rfl⟩
          rw [← e28] at hS
          have h := h M27 e28
          refine lv_aload_n hx hb dX12_heads_63 rfl (lv_at hl 0 rfl) ?_
          refine lv_iload hx hb dX12_heads_64 (lv_at hl 4 rfl) ?_
          refine w_puti hx hb hts (z_memU u12) tyX12 tyX12_ok nmX12 hown hK.1 hS hS0 f12_21 (by decide) (zkd_of (rfl : zcd wR 0 = 50) rfl) (Or.inl (hts _ (z_mem k965))) rfl (z := a3) (by decide +kernel) dX12_heads_66 (fun H locs hS hS0 => ?_)
          obtain ⟨M29, e30⟩ : ∃ M29 : zM, M29 = zup M27 0 21 a3 := ⟨_, rfl⟩
          rw [← e30] at hS
          have h := h M29 e30
          refine z_iconst hx hb dX12_heads_69 ?_
          exact w_zret hx hb hr hlocks hS hS0 (sI_of (by decide)) (by decide) h dX12_heads_70
        · skip
          have h := h.2 c22
          refine z_iconst hx hb dX12_heads_46 ?_
          exact w_zret hx hb hr hlocks hS hS0 (sI_of (by decide)) (by decide) h dX12_heads_47

set_option maxRecDepth 100000 in
def wR_stop (a0 : Int) (M : zM) (Q : Int → zM → Prop) : Prop := (∀ M1 : zM, M1 = zup M 0 35 0 → wR_in a0 0 2000 M1 (fun z4 => (z4 ≠ 0 → (∀ M8 : zM, M8 = zup M1 0 22 a0 → Q (sI (M1 0 22)) M8)) ∧ (z4 = 0 → Q (-1) M1)))
set_option maxHeartbeats 4000000 in
set_option maxRecDepth 100000 in
theorem cR_stop (l : Launch) (D : va_G) (dA : Nat → ClassId) (b : Nat) (M : zM) (a0 : Int)  (Q : Int → zM → Prop) (h : wR_stop a0 M Q) : Met l yX12_stop (.code yX12_stop cX12_stop 3 (some .int) :: zt) (z_rm 1) (va_Pc [.ref (b + 0), .int (iI a0)] (wPre D dA vwCl (z_tys dA) wR nR b M)) (va_Qi (wQi Q) (zB D dA vwCl wR nR b) (zA nR b)) 0 0 (zA nR b) := by
  unfold wR_stop at h
  refine Met.ofW (cc := cX12_stop) (maxL := 3) (ret := (some .int)) (by decide) rfl ?_
  intro p e s m args below meth c s₁ B hml hv
  obtain ⟨hargs, hS, hK⟩ := hv
  have hx := B.exec
  have hb := B.bytes
  have hr := B.returns
  have hts := atoms_spec (ws := .code yX12_stop cX12_stop 3 (some .int) :: zt) B.pre
  have hown : s.vm.findClass RX12 = some m.cls := findClass_of_methodNamed B.named
  have hlocks := B.notSynchronized
  have hS0 : va_S (zA nR b) s.heap s.heap [] := va_S.rf
  have hl := lv_entry ([.ref (b + 0), .int (iI a0)]) (n := 3) (Nat.le_of_ble_eq_true rfl)
  have hent : entryFrame m args 3 = F0 m 0 ((lg_sl ([.ref (b + 0), .int (iI a0)]) ++ List.replicate (3 - (lg_sl ([.ref (b + 0), .int (iI a0)])).length) Slot.unset).toArray) [] := by rw [hargs]; exact lg_entry_eq m ([.ref (b + 0), .int (iI a0)]) 3
  rw [hent]
  generalize (lg_sl ([.ref (b + 0), .int (iI a0)]) ++ List.replicate (3 - (lg_sl ([.ref (b + 0), .int (iI a0)])).length) Slot.unset).toArray = ls at hl ⊢
  have hl : lv_has ls 3 [(0, .ref (b + 0)), (1, .int (iI a0))] := hl
  refine lv_aload_n hx hb dX12_stop_0 rfl (lv_at hl 0 rfl) ?_
  refine z_iconst hx hb dX12_stop_1 ?_
  refine w_puti hx hb hts (z_memU u12) tyX12 tyX12_ok nmX12 hown hK.1 hS hS0 f12_35 (by decide) (zkd_of (rfl : zcd wR 0 = 50) rfl) (Or.inl (hts _ (z_mem k979))) rfl (z := 0) (by decide +kernel) dX12_stop_2 (fun H locs hS hS0 => ?_)
  obtain ⟨M1, e2⟩ : ∃ M1 : zM, M1 = zup M 0 35 0 := ⟨_, rfl⟩
  rw [← e2] at hS
  have h := h M1 e2
  refine lv_iload_n hx hb dX12_stop_5 rfl (lv_at hl 1 rfl) ?_
  refine z_iconst hx hb dX12_stop_6 ?_
  refine z_sipush hx hb (by decide) dX12_stop_7 ?_
  refine w_callz (va_runS (As := [.int (iI a0), .int (iI 0), .int (iI 2000)]) (rest := []) ⟨hx, hb, hml, hown, hts⟩ (cR_in l D dA b M1 a0 0 2000 _ h) (va_cwS 3 hts (z_gS k1083 k1084 k14 k1085) rfl rfl rfl dm_X12_in.2 ⟨Nat.le_of_ble_eq_true rfl, Nat.le_of_ble_eq_true rfl⟩) ⟨wPre_blind, w_pre hS hK⟩ rfl rfl hl.1 rfl (lv_room (Nat.le_of_ble_eq_true rfl)) dX12_stop_10 ⟨Nat.le_refl _, Nat.le_refl _⟩) hS0 (fun z4 M3 H locs r5 h hS hS0 => ?_)
  obtain ⟨e6, h⟩ := h
  rw [e6] at hS
  refine w_if_ne (tgt := 18) hx hb (sI_01 r5) dX12_stop_13 (by decide) (fun c7 => ?_) (fun c7 => ?_)
  · skip
    have h := h.1 c7
    refine lv_aload_n hx hb dX12_stop_18 rfl (lv_at hl 0 rfl) ?_
    refine w_geti hx hb hts (z_memU u12) hown hK.1 hS f12_22 (by decide) (zkd_of (rfl : zcd wR 0 = 50) rfl) (Or.inl (hts _ (z_mem k966))) dX12_stop_19 ?_
    refine lv_istore_n (lv' := [(2, .int (iI (M1 0 22))), (0, .ref (b + 0)), (1, .int (iI a0))]) hx hb dX12_stop_22 rfl hl (by decide) rfl (fun ls hl => ?_)
    refine lv_aload_n hx hb dX12_stop_23 rfl (lv_at hl 1 rfl) ?_
    refine lv_iload_n hx hb dX12_stop_24 rfl (lv_at hl 2 rfl) ?_
    refine w_puti hx hb hts (z_memU u12) tyX12 tyX12_ok nmX12 hown hK.1 hS hS0 f12_22 (by decide) (zkd_of (rfl : zcd wR 0 = 50) rfl) (Or.inl (hts _ (z_mem k966))) rfl (z := a0) (by decide +kernel) dX12_stop_25 (fun H locs hS hS0 => ?_)
    obtain ⟨M8, e9⟩ : ∃ M8 : zM, M8 = zup M1 0 22 a0 := ⟨_, rfl⟩
    rw [← e9] at hS
    have h := h M8 e9
    refine lv_iload_n hx hb dX12_stop_28 rfl (lv_at hl 0 rfl) ?_
    exact w_iret hx hb hr hlocks hS hS0 rfl h dX12_stop_29
  · skip
    have h := h.2 c7
    refine z_iconst hx hb dX12_stop_16 ?_
    exact w_iret hx hb hr hlocks hS hS0 (sI_of (by decide)) h dX12_stop_17

set_option maxRecDepth 100000 in
def wR_findOuts (a0 : Int) (M : zM) (Q : zM → Prop) : Prop := wL1 (fun K2 x1 M2 => ((sI a0) < (sI x1) → Q M2) ∧ ((sI x1) ≤ (sI a0) → pJ1 (fun J62 => ((sI (M2 0 22)) ≤ (sI x1) → J62 0) ∧ ((sI x1) < (sI (M2 0 22)) → wR_heardInAll (sI x1) M2 (fun z64 => pL2 (fun K28 x67 x68 => (10 ≤ (sI x68) → J62 x67) ∧ ((sI x68) < 10 → ((andI (shrI z64 x68) 1) ≠ 1 → K28 x67 (x68 + 1)) ∧ ((andI (shrI z64 x68) 1) = 1 → ((0 ≤ (sI x68) ∧ (sI x68) < 10) ∧ K28 (x67 + (M2 14 (sI x68).toNat)) (x68 + 1))))) 0 1))) (fun (x32 : Int) => pJ1 (fun J92 => ((sI x1) < (sI (M2 0 18)) → J92 x32) ∧ ((sI (M2 0 18)) ≤ (sI x1) → ((0 ≤ (sI (x1 - (M2 0 18))) ∧ (sI (x1 - (M2 0 18))) < 4001) ∧ (∀ t60 : Int, t60 = (x32 + ((sI ((M2 0 19) * (M2 30 (sI (x1 - (M2 0 18))).toNat))).tdiv 100)) → J92 t60)))) (fun (x39 : Int) => pJ1 (fun J122 => ((sI x1) < (sI (M2 0 20)) → J122 x39) ∧ ((sI (M2 0 20)) ≤ (sI x1) → ((0 ≤ (sI (x1 - (M2 0 20))) ∧ (sI (x1 - (M2 0 20))) < 4001) ∧ (∀ t56 : Int, t56 = (x39 + ((sI ((M2 0 21) * (M2 30 (sI (x1 - (M2 0 20))).toNat))).tdiv 100)) → J122 t56)))) (fun (x46 : Int) => ((0 ≤ (sI x1) ∧ (sI x1) < 4001) ∧ (∀ M50 : zM, M50 = zup M2 30 (sI x1).toNat (min (sI x46) 5000) → K2 (x1 + 1) M50))))))) 0 M
set_option maxHeartbeats 4000000 in
set_option maxRecDepth 100000 in
theorem cR_findOuts (l : Launch) (D : va_G) (dA : Nat → ClassId) (b : Nat) (M : zM) (a0 : Int)  (Q : zM → Prop) (h : wR_findOuts a0 M Q) : Met l yX12_findOuts (.code yX12_findOuts cX12_findOuts 6 none :: zt) (z_rm 4) (va_Pc [.ref (b + 0), .int (iI a0)] (wPre D dA vwCl (z_tys dA) wR nR b M)) (va_Qv (wQv Q) (zB D dA vwCl wR nR b) (zA nR b)) 0 0 (zA nR b) := by
  unfold wR_findOuts at h
  refine Met.ofW (cc := cX12_findOuts) (maxL := 6) (ret := none) (by decide) rfl ?_
  intro p e s m args below meth c s₁ B hml hv
  obtain ⟨hargs, hS, hK⟩ := hv
  have hx := B.exec
  have hb := B.bytes
  have hr := B.returns
  have hts := atoms_spec (ws := .code yX12_findOuts cX12_findOuts 6 none :: zt) B.pre
  have hown : s.vm.findClass RX12 = some m.cls := findClass_of_methodNamed B.named
  have hlocks := B.notSynchronized
  have hS0 : va_S (zA nR b) s.heap s.heap [] := va_S.rf
  have hl := lv_entry ([.ref (b + 0), .int (iI a0)]) (n := 6) (Nat.le_of_ble_eq_true rfl)
  have hent : entryFrame m args 6 = F0 m 0 ((lg_sl ([.ref (b + 0), .int (iI a0)]) ++ List.replicate (6 - (lg_sl ([.ref (b + 0), .int (iI a0)])).length) Slot.unset).toArray) [] := by rw [hargs]; exact lg_entry_eq m ([.ref (b + 0), .int (iI a0)]) 6
  rw [hent]
  generalize (lg_sl ([.ref (b + 0), .int (iI a0)]) ++ List.replicate (6 - (lg_sl ([.ref (b + 0), .int (iI a0)])).length) Slot.unset).toArray = ls at hl ⊢
  have hl : lv_has ls 6 [(0, .ref (b + 0)), (1, .int (iI a0))] := hl
  refine z_iconst hx hb dX12_findOuts_0 ?_
  refine lv_istore_n (lv' := [(2, .int (iI 0)), (0, .ref (b + 0)), (1, .int (iI a0))]) hx hb dX12_findOuts_1 rfl hl (by decide) rfl (fun ls hl => ?_)
  obtain ⟨I3, ⟨n4, h5⟩, h6⟩ := h
  have L7 : ∀ (n8 : Nat) (x1 : Int) (M2 : zM) (H : Heap) (locs : List Loc) (ls : Array Slot), I3 n8 x1 M2 → zR D dA vwCl wR nR b M2 H → va_S (zA nR b) s.heap H locs → lv_has ls 6 [(0, .ref (b + 0)), (1, .int (iI a0)), (2, .int (iI x1))] → W p l e (headSpec (.code yX12_findOuts cX12_findOuts 6 none :: zt) (z_rm 4)).room s m args below meth c H locs 0 0 (MQ below (va_Qv (wQv Q) (zB D dA vwCl wR nR b) (zA nR b)) args s 0 0 (zA nR b)) (F0 m 2 ls []) := by
    intro n8
    induction n8 using Nat.strongRecOn with
    | ind n8 i9 =>
      intro x1 M2 H locs ls h hS hS0 hl
      have h := h6 n8 x1 M2 h
      refine lv_iload_n hx hb dX12_findOuts_2 rfl (lv_at hl 2 rfl) ?_
      refine lv_iload_n hx hb dX12_findOuts_3 rfl (lv_at hl 1 rfl) ?_
      refine w_icmp_gt (tgt := 141) hx hb rfl rfl dX12_findOuts_4 (by decide) (fun c10 => ?_) (fun c10 => ?_)
      · skip
        have h := h.1 c10
        exact w_vret hx hb hr hlocks hS hS0 h dX12_findOuts_141
      · skip
        have h := h.2 c10
        refine z_iconst hx hb dX12_findOuts_7 ?_
        refine lv_istore_n (lv' := [(3, .int (iI 0)), (0, .ref (b + 0)), (1, .int (iI a0)), (2, .int (iI x1))]) hx hb dX12_findOuts_8 rfl hl (by decide) rfl (fun ls hl => ?_)
        refine lv_iload_n hx hb dX12_findOuts_9 rfl (lv_at hl 3 rfl) ?_
        refine lv_aload_n hx hb dX12_findOuts_10 rfl (lv_at hl 1 rfl) ?_
        refine w_geti hx hb hts (z_memU u12) hown hK.1 hS f12_22 (by decide) (zkd_of (rfl : zcd wR 0 = 50) rfl) (Or.inl (hts _ (z_mem k966))) dX12_findOuts_11 ?_
        obtain ⟨J62, B34, h⟩ := h
        have L33 : ∀ (x32 : Int) (H : Heap) (locs : List Loc) (ls : Array Slot), J62 x32 → zR D dA vwCl wR nR b M2 H → va_S (zA nR b) s.heap H locs → lv_has ls 6 [(0, .ref (b + 0)), (1, .int (iI a0)), (2, .int (iI x1)), (3, .int (iI x32))] → W p l e (headSpec (.code yX12_findOuts cX12_findOuts 6 none :: zt) (z_rm 4)).room s m args below meth c H locs 0 0 (MQ below (va_Qv (wQv Q) (zB D dA vwCl wR nR b) (zA nR b)) args s 0 0 (zA nR b)) (F0 m 62 ls []) := by
          intro x32 H locs ls h hS hS0 hl
          have h := B34 x32 h
          refine lv_iload_n hx hb dX12_findOuts_62 rfl (lv_at hl 2 rfl) ?_
          refine lv_aload_n hx hb dX12_findOuts_63 rfl (lv_at hl 0 rfl) ?_
          refine w_geti hx hb hts (z_memU u12) hown hK.1 hS f12_18 (by decide) (zkd_of (rfl : zcd wR 0 = 50) rfl) (Or.inl (hts _ (z_mem k962))) dX12_findOuts_64 ?_
          obtain ⟨J92, B41, h⟩ := h
          have L40 : ∀ (x39 : Int) (H : Heap) (locs : List Loc) (ls : Array Slot), J92 x39 → zR D dA vwCl wR nR b M2 H → va_S (zA nR b) s.heap H locs → lv_has ls 6 [(0, .ref (b + 0)), (1, .int (iI a0)), (2, .int (iI x1)), (3, .int (iI x39))] → W p l e (headSpec (.code yX12_findOuts cX12_findOuts 6 none :: zt) (z_rm 4)).room s m args below meth c H locs 0 0 (MQ below (va_Qv (wQv Q) (zB D dA vwCl wR nR b) (zA nR b)) args s 0 0 (zA nR b)) (F0 m 92 ls []) := by
            intro x39 H locs ls h hS hS0 hl
            have h := B41 x39 h
            refine lv_iload_n hx hb dX12_findOuts_92 rfl (lv_at hl 2 rfl) ?_
            refine lv_aload_n hx hb dX12_findOuts_93 rfl (lv_at hl 0 rfl) ?_
            refine w_geti hx hb hts (z_memU u12) hown hK.1 hS f12_20 (by decide) (zkd_of (rfl : zcd wR 0 = 50) rfl) (Or.inl (hts _ (z_mem k964))) dX12_findOuts_94 ?_
            obtain ⟨J122, B48, h⟩ := h
            have L47 : ∀ (x46 : Int) (H : Heap) (locs : List Loc) (ls : Array Slot), J122 x46 → zR D dA vwCl wR nR b M2 H → va_S (zA nR b) s.heap H locs → lv_has ls 6 [(0, .ref (b + 0)), (1, .int (iI a0)), (2, .int (iI x1)), (3, .int (iI x46))] → W p l e (headSpec (.code yX12_findOuts cX12_findOuts 6 none :: zt) (z_rm 4)).room s m args below meth c H locs 0 0 (MQ below (va_Qv (wQv Q) (zB D dA vwCl wR nR b) (zA nR b)) args s 0 0 (zA nR b)) (F0 m 122 ls []) := by
              intro x46 H locs ls h hS hS0 hl
              have h := B48 x46 h
              refine lv_aload_n hx hb dX12_findOuts_122 rfl (lv_at hl 0 rfl) ?_
              refine w_getr (j2 := 30) hx hb hts (z_memU u12) hown hK.1 hS f12_45 (by decide) (zkd_of (rfl : zcd wR 0 = 50) rfl) (zrf_of (rfl : zcd wR 0 = 50) rfl) (Or.inl (hts _ (z_mem k989))) dX12_findOuts_123 ?_
              refine lv_iload_n hx hb dX12_findOuts_126 rfl (lv_at hl 2 rfl) ?_
              refine lv_iload_n hx hb dX12_findOuts_127 rfl (lv_at hl 3 rfl) ?_
              refine z_sipush hx hb (by decide) dX12_findOuts_128 ?_
              refine w_mmin hx hb (hml.trans hl.1.symm) hown (hts _ (z_mem k1229)) (hts _ (z_mem k320)) (hts _ (z_mem k15)) (hts _ (z_mem k321)) (by exact Nat.le_of_ble_eq_true rfl) (by exact Nat.le_of_ble_eq_true rfl) (by exact Nat.le_refl _) (by exact Nat.le_refl _) rfl (sI_of (by decide)) dX12_findOuts_131 ?_
              obtain ⟨o49, h⟩ := h
              refine w_iast (z := (min (sI x46) 5000)) (n := 4001) (i := (sI x1)) hx hb hK.1 (t0 := 0) rfl hS hS0 (by decide) (zkd_of (rfl : zcd wR 30 = 80) rfl) (zln_of (rfl : zcd wR 30 = 80) rfl) rfl o49.1 o49.2 (by decide) dX12_findOuts_134 (fun H locs hS hS0 => ?_)
              obtain ⟨M50, e51⟩ : ∃ M50 : zM, M50 = zup M2 30 (sI x1).toNat (min (sI x46) 5000) := ⟨_, rfl⟩
              rw [← e51] at hS
              have h := h M50 e51
              refine z_iinc (lv' := [(2, .int (iI (x1 + 1))), (0, .ref (b + 0)), (1, .int (iI a0)), (3, .int (iI x46))]) hx hb dX12_findOuts_135 hl (k := 2) rfl (by decide) rfl (fun ls hl => ?_)
              refine lv_goto (tgt := 2) hx hb dX12_findOuts_138 (by decide) ?_
              obtain ⟨n52, h53, h⟩ := h
              exact i9 n52 h53 (x1 + 1) M50 _ _ _ h hS hS0 (lv_sub hl [1, 2, 0] rfl)
            refine w_icmp_lt (tgt := 122) hx hb rfl rfl dX12_findOuts_97 (by decide) (fun c54 => ?_) (fun c54 => ?_)
            · skip
              have h := h.1 c54
              exact L47 x39 _ _ _ h hS hS0 (lv_sub hl [0, 1, 2, 3] rfl)
            · skip
              have h := h.2 c54
              refine lv_iload_n hx hb dX12_findOuts_100 rfl (lv_at hl 3 rfl) ?_
              refine lv_aload_n hx hb dX12_findOuts_101 rfl (lv_at hl 0 rfl) ?_
              refine w_geti hx hb hts (z_memU u12) hown hK.1 hS f12_21 (by decide) (zkd_of (rfl : zcd wR 0 = 50) rfl) (Or.inl (hts _ (z_mem k965))) dX12_findOuts_102 ?_
              refine lv_aload_n hx hb dX12_findOuts_105 rfl (lv_at hl 0 rfl) ?_
              refine w_getr (j2 := 30) hx hb hts (z_memU u12) hown hK.1 hS f12_45 (by decide) (zkd_of (rfl : zcd wR 0 = 50) rfl) (zrf_of (rfl : zcd wR 0 = 50) rfl) (Or.inl (hts _ (z_mem k989))) dX12_findOuts_106 ?_
              refine lv_iload_n hx hb dX12_findOuts_109 rfl (lv_at hl 2 rfl) ?_
              refine lv_aload_n hx hb dX12_findOuts_110 rfl (lv_at hl 0 rfl) ?_
              refine w_geti hx hb hts (z_memU u12) hown hK.1 hS f12_20 (by decide) (zkd_of (rfl : zcd wR 0 = 50) rfl) (Or.inl (hts _ (z_mem k964))) dX12_findOuts_111 ?_
              refine z_isub hx hb dX12_findOuts_114 ?_
              obtain ⟨o55, h⟩ := h
              refine w_iald (n := 4001) (i := (sI (x1 - (M2 0 20)))) hx hb hK.1 (t0 := 0) rfl hS (by decide) (zkd_of (rfl : zcd wR 30 = 80) rfl) (zln_of (rfl : zcd wR 30 = 80) rfl) rfl o55.1 o55.2 (by decide) dX12_findOuts_115 ?_
              refine z_imul hx hb dX12_findOuts_116 ?_
              refine z_bipush hx hb (by decide) dX12_findOuts_117 ?_
              refine w_idiv hx hb rfl (sI_of (by decide)) (by decide) dX12_findOuts_119 ?_
              refine z_iadd hx hb dX12_findOuts_120 ?_
              obtain ⟨t56, e57⟩ : ∃ t56 : Int, t56 = (x39 + ((sI ((M2 0 21) * (M2 30 (sI (x1 - (M2 0 20))).toNat))).tdiv 100)) := ⟨_, rfl⟩
              refine z_top (y := t56) e57.symm ?_
              have h := h t56 e57
              refine lv_istore_n (lv' := [(3, .int (iI t56)), (0, .ref (b + 0)), (1, .int (iI a0)), (2, .int (iI x1))]) hx hb dX12_findOuts_121 rfl hl (by decide) rfl (fun ls hl => ?_)
              exact L47 t56 _ _ _ h hS hS0 (lv_sub hl [1, 2, 3, 0] rfl)
          refine w_icmp_lt (tgt := 92) hx hb rfl rfl dX12_findOuts_67 (by decide) (fun c58 => ?_) (fun c58 => ?_)
          · skip
            have h := h.1 c58
            exact L40 x32 _ _ _ h hS hS0 (lv_sub hl [0, 1, 2, 3] rfl)
          · skip
            have h := h.2 c58
            refine lv_iload_n hx hb dX12_findOuts_70 rfl (lv_at hl 3 rfl) ?_
            refine lv_aload_n hx hb dX12_findOuts_71 rfl (lv_at hl 0 rfl) ?_
            refine w_geti hx hb hts (z_memU u12) hown hK.1 hS f12_19 (by decide) (zkd_of (rfl : zcd wR 0 = 50) rfl) (Or.inl (hts _ (z_mem k963))) dX12_findOuts_72 ?_
            refine lv_aload_n hx hb dX12_findOuts_75 rfl (lv_at hl 0 rfl) ?_
            refine w_getr (j2 := 30) hx hb hts (z_memU u12) hown hK.1 hS f12_45 (by decide) (zkd_of (rfl : zcd wR 0 = 50) rfl) (zrf_of (rfl : zcd wR 0 = 50) rfl) (Or.inl (hts _ (z_mem k989))) dX12_findOuts_76 ?_
            refine lv_iload_n hx hb dX12_findOuts_79 rfl (lv_at hl 2 rfl) ?_
            refine lv_aload_n hx hb dX12_findOuts_80 rfl (lv_at hl 0 rfl) ?_
            refine w_geti hx hb hts (z_memU u12) hown hK.1 hS f12_18 (by decide) (zkd_of (rfl : zcd wR 0 = 50) rfl) (Or.inl (hts _ (z_mem k962))) dX12_findOuts_81 ?_
            refine z_isub hx hb dX12_findOuts_84 ?_
            obtain ⟨o59, h⟩ := h
            refine w_iald (n := 4001) (i := (sI (x1 - (M2 0 18)))) hx hb hK.1 (t0 := 0) rfl hS (by decide) (zkd_of (rfl : zcd wR 30 = 80) rfl) (zln_of (rfl : zcd wR 30 = 80) rfl) rfl o59.1 o59.2 (by decide) dX12_findOuts_85 ?_
            refine z_imul hx hb dX12_findOuts_86 ?_
            refine z_bipush hx hb (by decide) dX12_findOuts_87 ?_
            refine w_idiv hx hb rfl (sI_of (by decide)) (by decide) dX12_findOuts_89 ?_
            refine z_iadd hx hb dX12_findOuts_90 ?_
            obtain ⟨t60, e61⟩ : ∃ t60 : Int, t60 = (x32 + ((sI ((M2 0 19) * (M2 30 (sI (x1 - (M2 0 18))).toNat))).tdiv 100)) := ⟨_, rfl⟩
            refine z_top (y := t60) e61.symm ?_
            have h := h t60 e61
            refine lv_istore_n (lv' := [(3, .int (iI t60)), (0, .ref (b + 0)), (1, .int (iI a0)), (2, .int (iI x1))]) hx hb dX12_findOuts_91 rfl hl (by decide) rfl (fun ls hl => ?_)
            exact L40 t60 _ _ _ h hS hS0 (lv_sub hl [1, 2, 3, 0] rfl)
        refine w_icmp_ge (tgt := 62) hx hb rfl rfl dX12_findOuts_14 (by decide) (fun c62 => ?_) (fun c62 => ?_)
        · skip
          have h := h.1 c62
          exact L33 0 _ _ _ h hS hS0 (lv_sub hl [1, 2, 3, 0] rfl)
        · skip
          have h := h.2 c62
          refine lv_aload_n hx hb dX12_findOuts_17 rfl (lv_at hl 1 rfl) ?_
          refine lv_iload_n hx hb dX12_findOuts_18 rfl (lv_at hl 3 rfl) ?_
          refine w_i2l hx hb rfl dX12_findOuts_19 ?_
          refine w_calli (va_runV (As := [.long (iL (sI x1))]) (rest := []) ⟨hx, hb, hml, hown, hts⟩ (cR_heardInAll l D dA b M2 (sI x1) _ h) (cwV 1 hts (z_gV k1151 k1152 k1401 k14 k1153) rfl rfl rfl dm_X12_heardInAll ⟨Nat.le_of_ble_eq_true rfl, Nat.le_of_ble_eq_true rfl⟩) ⟨wPre_blind, (w_recv hS hK.1 (by decide) (zkd_of (rfl : zcd wR 0 = 50) rfl) (by decide) (rfl : vwCl[12]? = some (RX12, TX12, 50))), w_pre hS hK⟩ rfl rfl hl.1 rfl (lv_room (Nat.le_of_ble_eq_true rfl)) dX12_findOuts_20 ⟨Nat.le_refl _, Nat.le_refl _⟩) hS0 (fun z64 M63 H locs r65 h hS hS0 => ?_)
          obtain ⟨e66, h⟩ := h
          rw [e66] at hS
          refine lv_istore (lv' := [(4, .int (iI z64)), (3, .int (iI 0)), (0, .ref (b + 0)), (1, .int (iI a0)), (2, .int (iI x1))]) hx hb dX12_findOuts_23 hl (by decide) rfl (fun ls hl => ?_)
          refine z_iconst hx hb dX12_findOuts_25 ?_
          refine lv_istore (lv' := [(5, .int (iI 1)), (4, .int (iI z64)), (3, .int (iI 0)), (0, .ref (b + 0)), (1, .int (iI a0)), (2, .int (iI x1))]) hx hb dX12_findOuts_26 hl (by decide) rfl (fun ls hl => ?_)
          obtain ⟨I69, ⟨n70, h71⟩, h72⟩ := h
          have L73 : ∀ (n74 : Nat) (x67 x68 : Int) (H : Heap) (locs : List Loc) (ls : Array Slot), I69 n74 x67 x68 → zR D dA vwCl wR nR b M2 H → va_S (zA nR b) s.heap H locs → lv_has ls 6 [(0, .ref (b + 0)), (1, .int (iI a0)), (2, .int (iI x1)), (3, .int (iI x67)), (4, .int (iI z64)), (5, .int (iI x68))] → W p l e (headSpec (.code yX12_findOuts cX12_findOuts 6 none :: zt) (z_rm 4)).room s m args below meth c H locs 0 0 (MQ below (va_Qv (wQv Q) (zB D dA vwCl wR nR b) (zA nR b)) args s 0 0 (zA nR b)) (F0 m 28 ls []) := by
            intro n74
            induction n74 using Nat.strongRecOn with
            | ind n74 i75 =>
              intro x67 x68 H locs ls h hS hS0 hl
              have h := h72 n74 x67 x68 h
              refine lv_iload hx hb dX12_findOuts_28 (lv_at hl 5 rfl) ?_
              refine z_bipush hx hb (by decide) dX12_findOuts_30 ?_
              refine w_icmp_ge (tgt := 62) hx hb rfl (sI_of (by decide)) dX12_findOuts_32 (by decide) (fun c76 => ?_) (fun c76 => ?_)
              · skip
                have h := h.1 c76
                exact L33 x67 _ _ _ h hS hS0 (lv_sub hl [0, 1, 2, 3] rfl)
              · skip
                have h := h.2 c76
                refine lv_iload hx hb dX12_findOuts_35 (lv_at hl 4 rfl) ?_
                refine lv_iload hx hb dX12_findOuts_37 (lv_at hl 5 rfl) ?_
                refine w_ishr hx hb dX12_findOuts_39 ?_
                refine z_iconst hx hb dX12_findOuts_40 ?_
                refine w_iand hx hb dX12_findOuts_41 ?_
                refine z_iconst hx hb dX12_findOuts_42 ?_
                refine w_icmp_ne (tgt := 56) hx hb (sI_of (andI_R _ _)) (sI_of (by decide)) dX12_findOuts_43 (by decide) (fun c77 => ?_) (fun c77 => ?_)
                · skip
                  have h := h.1 c77
                  refine z_iinc (lv' := [(5, .int (iI (x68 + 1))), (0, .ref (b + 0)), (1, .int (iI a0)), (2, .int (iI x1)), (3, .int (iI x67)), (4, .int (iI z64))]) hx hb dX12_findOuts_56 hl (k := 5) rfl (by decide) rfl (fun ls hl => ?_)
                  refine lv_goto (tgt := 28) hx hb dX12_findOuts_59 (by decide) ?_
                  obtain ⟨n78, h79, h⟩ := h
                  exact i75 n78 h79 x67 (x68 + 1) _ _ _ h hS hS0 (lv_sub hl [1, 2, 3, 4, 5, 0] rfl)
                · skip
                  have h := h.2 c77
                  refine lv_iload_n hx hb dX12_findOuts_46 rfl (lv_at hl 3 rfl) ?_
                  refine lv_aload_n hx hb dX12_findOuts_47 rfl (lv_at hl 0 rfl) ?_
                  refine w_getr (j2 := 14) hx hb hts (z_memU u12) hown hK.1 hS f12_17 (by decide) (zkd_of (rfl : zcd wR 0 = 50) rfl) (zrf_of (rfl : zcd wR 0 = 50) rfl) (Or.inl (hts _ (z_mem k961))) dX12_findOuts_48 ?_
                  refine lv_iload hx hb dX12_findOuts_51 (lv_at hl 5 rfl) ?_
                  obtain ⟨o80, h⟩ := h
                  refine w_iald (n := 10) (i := (sI x68)) hx hb hK.1 (t0 := 0) rfl hS (by decide) (zkd_of (rfl : zcd wR 14 = 64) rfl) (zln_of (rfl : zcd wR 14 = 64) rfl) rfl o80.1 o80.2 (by decide) dX12_findOuts_53 ?_
                  refine z_iadd hx hb dX12_findOuts_54 ?_
                  refine lv_istore_n (lv' := [(3, .int (iI (x67 + (M2 14 (sI x68).toNat)))), (0, .ref (b + 0)), (1, .int (iI a0)), (2, .int (iI x1)), (4, .int (iI z64)), (5, .int (iI x68))]) hx hb dX12_findOuts_55 rfl hl (by decide) rfl (fun ls hl => ?_)
                  refine z_iinc (lv' := [(5, .int (iI (x68 + 1))), (3, .int (iI (x67 + (M2 14 (sI x68).toNat)))), (0, .ref (b + 0)), (1, .int (iI a0)), (2, .int (iI x1)), (4, .int (iI z64))]) hx hb dX12_findOuts_56 hl (k := 5) rfl (by decide) rfl (fun ls hl => ?_)
                  refine lv_goto (tgt := 28) hx hb dX12_findOuts_59 (by decide) ?_
                  obtain ⟨n81, h82, h⟩ := h
                  exact i75 n81 h82 (x67 + (M2 14 (sI x68).toNat)) (x68 + 1) _ _ _ h hS hS0 (lv_sub hl [2, 3, 4, 1, 5, 0] rfl)
          exact L73 n70 0 1 _ _ _ h71 hS hS0 (lv_sub hl [3, 4, 5, 2, 1, 0] rfl)
  exact L7 n4 0 M _ _ _ h5 hS hS0 (lv_sub hl [1, 2, 0] rfl)

set_option maxRecDepth 100000 in
def wR_out (a0 : Int) (M : zM) (Q : Int → zM → Prop) : Prop := (∀ M1 : zM, M1 = zup M 0 35 0 → wR_in a0 0 4000 M1 (fun z4 => (z4 ≠ 0 → wR_findOuts a0 M1 (fun M8 => ((0 ≤ (sI a0) ∧ (sI a0) < 4001) ∧ Q (sI (M8 30 (sI a0).toNat)) M8))) ∧ (z4 = 0 → Q (-1) M1)))
set_option maxHeartbeats 4000000 in
set_option maxRecDepth 100000 in
theorem cR_out (l : Launch) (D : va_G) (dA : Nat → ClassId) (b : Nat) (M : zM) (a0 : Int)  (Q : Int → zM → Prop) (h : wR_out a0 M Q) : Met l yX12_out (.code yX12_out cX12_out 2 (some .int) :: zt) (z_rm 5) (va_Pc [.ref (b + 0), .int (iI a0)] (wPre D dA vwCl (z_tys dA) wR nR b M)) (va_Qi (wQi Q) (zB D dA vwCl wR nR b) (zA nR b)) 0 0 (zA nR b) := by
  unfold wR_out at h
  refine Met.ofW (cc := cX12_out) (maxL := 2) (ret := (some .int)) (by decide) rfl ?_
  intro p e s m args below meth c s₁ B hml hv
  obtain ⟨hargs, hS, hK⟩ := hv
  have hx := B.exec
  have hb := B.bytes
  have hr := B.returns
  have hts := atoms_spec (ws := .code yX12_out cX12_out 2 (some .int) :: zt) B.pre
  have hown : s.vm.findClass RX12 = some m.cls := findClass_of_methodNamed B.named
  have hlocks := B.notSynchronized
  have hS0 : va_S (zA nR b) s.heap s.heap [] := va_S.rf
  have hl := lv_entry ([.ref (b + 0), .int (iI a0)]) (n := 2) (Nat.le_of_ble_eq_true rfl)
  have hent : entryFrame m args 2 = F0 m 0 ((lg_sl ([.ref (b + 0), .int (iI a0)]) ++ List.replicate (2 - (lg_sl ([.ref (b + 0), .int (iI a0)])).length) Slot.unset).toArray) [] := by rw [hargs]; exact lg_entry_eq m ([.ref (b + 0), .int (iI a0)]) 2
  rw [hent]
  generalize (lg_sl ([.ref (b + 0), .int (iI a0)]) ++ List.replicate (2 - (lg_sl ([.ref (b + 0), .int (iI a0)])).length) Slot.unset).toArray = ls at hl ⊢
  have hl : lv_has ls 2 [(0, .ref (b + 0)), (1, .int (iI a0))] := hl
  refine lv_aload_n hx hb dX12_out_0 rfl (lv_at hl 0 rfl) ?_
  refine z_iconst hx hb dX12_out_1 ?_
  refine w_puti hx hb hts (z_memU u12) tyX12 tyX12_ok nmX12 hown hK.1 hS hS0 f12_35 (by decide) (zkd_of (rfl : zcd wR 0 = 50) rfl) (Or.inl (hts _ (z_mem k979))) rfl (z := 0) (by decide +kernel) dX12_out_2 (fun H locs hS hS0 => ?_)
  obtain ⟨M1, e2⟩ : ∃ M1 : zM, M1 = zup M 0 35 0 := ⟨_, rfl⟩
  rw [← e2] at hS
  have h := h M1 e2
  refine lv_iload_n hx hb dX12_out_5 rfl (lv_at hl 1 rfl) ?_
  refine z_iconst hx hb dX12_out_6 ?_
  refine z_sipush hx hb (by decide) dX12_out_7 ?_
  refine w_callz (va_runS (As := [.int (iI a0), .int (iI 0), .int (iI 4000)]) (rest := []) ⟨hx, hb, hml, hown, hts⟩ (cR_in l D dA b M1 a0 0 4000 _ h) (va_cwS 3 hts (z_gS k1083 k1084 k14 k1085) rfl rfl rfl dm_X12_in.2 ⟨Nat.le_of_ble_eq_true rfl, Nat.le_of_ble_eq_true rfl⟩) ⟨wPre_blind, w_pre hS hK⟩ rfl rfl hl.1 rfl (lv_room (Nat.le_of_ble_eq_true rfl)) dX12_out_10 ⟨Nat.le_refl _, Nat.le_refl _⟩) hS0 (fun z4 M3 H locs r5 h hS hS0 => ?_)
  obtain ⟨e6, h⟩ := h
  rw [e6] at hS
  refine w_if_ne (tgt := 18) hx hb (sI_01 r5) dX12_out_13 (by decide) (fun c7 => ?_) (fun c7 => ?_)
  · skip
    have h := h.1 c7
    refine lv_aload_n hx hb dX12_out_18 rfl (lv_at hl 0 rfl) ?_
    refine lv_iload_n hx hb dX12_out_19 rfl (lv_at hl 1 rfl) ?_
    refine w_callv (va_runV (As := [.int (iI a0)]) (rest := []) ⟨hx, hb, hml, hown, hts⟩ (cR_findOuts l D dA b M1 a0 _ h) (cwV 1 hts (z_gV k1254 k1255 k1414 k14 k1256) rfl rfl rfl dm_X12_findOuts ⟨Nat.le_of_ble_eq_true rfl, Nat.le_of_ble_eq_true rfl⟩) ⟨wPre_blind, (w_recv hS hK.1 (by decide) (zkd_of (rfl : zcd wR 0 = 50) rfl) (by decide) (rfl : vwCl[12]? = some (RX12, TX12, 50))), w_pre hS hK⟩ rfl rfl hl.1 rfl (lv_room (Nat.le_of_ble_eq_true rfl)) dX12_out_20 ⟨Nat.le_refl _, Nat.le_refl _⟩) hS0 (fun M8 H locs h hS hS0 => ?_)
    refine lv_aload_n hx hb dX12_out_23 rfl (lv_at hl 0 rfl) ?_
    refine w_getr (j2 := 30) hx hb hts (z_memU u12) hown hK.1 hS f12_45 (by decide) (zkd_of (rfl : zcd wR 0 = 50) rfl) (zrf_of (rfl : zcd wR 0 = 50) rfl) (Or.inl (hts _ (z_mem k989))) dX12_out_24 ?_
    refine lv_iload_n hx hb dX12_out_27 rfl (lv_at hl 1 rfl) ?_
    obtain ⟨o9, h⟩ := h
    refine w_iald (n := 4001) (i := (sI a0)) hx hb hK.1 (t0 := 0) rfl hS (by decide) (zkd_of (rfl : zcd wR 30 = 80) rfl) (zln_of (rfl : zcd wR 30 = 80) rfl) rfl o9.1 o9.2 (by decide) dX12_out_28 ?_
    exact w_iret hx hb hr hlocks hS hS0 rfl h dX12_out_29
  · skip
    have h := h.2 c7
    refine z_iconst hx hb dX12_out_16 ?_
    exact w_iret hx hb hr hlocks hS hS0 (sI_of (by decide)) h dX12_out_17

set_option maxRecDepth 100000 in
def wR_areAlike (a0 : Int) (a1 : Int) (M : zM) (Q : Int → Prop) : Prop := pL1 (fun K2 x1 => (20 ≤ (sI x1) → Q 1) ∧ ((sI x1) < 20 → ((0 ≤ (sI (a0 + x1)) ∧ (sI (a0 + x1)) < 4001) ∧ ((0 ≤ (sI (a1 + x1)) ∧ (sI (a1 + x1)) < 4001) ∧ ((sI (M 30 (sI (a0 + x1)).toNat)) = (sI (M 30 (sI (a1 + x1)).toNat)) → K2 (x1 + 1)) ∧ ((sI (M 30 (sI (a0 + x1)).toNat)) ≠ (sI (M 30 (sI (a1 + x1)).toNat)) → Q 0))))) 0
set_option maxHeartbeats 4000000 in
set_option maxRecDepth 100000 in
theorem cR_areAlike (l : Launch) (D : va_G) (dA : Nat → ClassId) (b : Nat) (M : zM) (a0 : Int) (a1 : Int)  (Q : Int → Prop) (h : wR_areAlike a0 a1 M Q) : Met l yX12_areAlike (.code yX12_areAlike cX12_areAlike 4 (some .boolean) :: zt) (z_rm 0) (va_Pc [.ref (b + 0), .int (iI a0), .int (iI a1)] (wPre D dA vwCl (z_tys dA) wR nR b M)) (va_Qi (wQz (fun z9 u9 => u9 = M ∧ Q z9)) (zB D dA vwCl wR nR b) (zA nR b)) 0 0 (zA nR b) := by
  unfold wR_areAlike at h
  refine Met.ofW (cc := cX12_areAlike) (maxL := 4) (ret := (some .boolean)) (by decide) rfl ?_
  intro p e s m args below meth c s₁ B hml hv
  obtain ⟨hargs, hS, hK⟩ := hv
  have hx := B.exec
  have hb := B.bytes
  have hr := B.returns
  have hts := atoms_spec (ws := .code yX12_areAlike cX12_areAlike 4 (some .boolean) :: zt) B.pre
  have hown : s.vm.findClass RX12 = some m.cls := findClass_of_methodNamed B.named
  have hlocks := B.notSynchronized
  have hS0 : va_S (zA nR b) s.heap s.heap [] := va_S.rf
  have hl := lv_entry ([.ref (b + 0), .int (iI a0), .int (iI a1)]) (n := 4) (Nat.le_of_ble_eq_true rfl)
  have hent : entryFrame m args 4 = F0 m 0 ((lg_sl ([.ref (b + 0), .int (iI a0), .int (iI a1)]) ++ List.replicate (4 - (lg_sl ([.ref (b + 0), .int (iI a0), .int (iI a1)])).length) Slot.unset).toArray) [] := by rw [hargs]; exact lg_entry_eq m ([.ref (b + 0), .int (iI a0), .int (iI a1)]) 4
  rw [hent]
  generalize (lg_sl ([.ref (b + 0), .int (iI a0), .int (iI a1)]) ++ List.replicate (4 - (lg_sl ([.ref (b + 0), .int (iI a0), .int (iI a1)])).length) Slot.unset).toArray = ls at hl ⊢
  have hl : lv_has ls 4 [(0, .ref (b + 0)), (1, .int (iI a0)), (2, .int (iI a1))] := hl
  refine z_iconst hx hb dX12_areAlike_0 ?_
  refine lv_istore_n (lv' := [(3, .int (iI 0)), (0, .ref (b + 0)), (1, .int (iI a0)), (2, .int (iI a1))]) hx hb dX12_areAlike_1 rfl hl (by decide) rfl (fun ls hl => ?_)
  obtain ⟨I2, ⟨n3, h4⟩, h5⟩ := h
  have L6 : ∀ (n7 : Nat) (x1 : Int) (H : Heap) (locs : List Loc) (ls : Array Slot), I2 n7 x1 → zR D dA vwCl wR nR b M H → va_S (zA nR b) s.heap H locs → lv_has ls 4 [(0, .ref (b + 0)), (1, .int (iI a0)), (2, .int (iI a1)), (3, .int (iI x1))] → W p l e (headSpec (.code yX12_areAlike cX12_areAlike 4 (some .boolean) :: zt) (z_rm 0)).room s m args below meth c H locs 0 0 (MQ below (va_Qi (wQz (fun z9 u9 => u9 = M ∧ Q z9)) (zB D dA vwCl wR nR b) (zA nR b)) args s 0 0 (zA nR b)) (F0 m 2 ls []) := by
    intro n7
    induction n7 using Nat.strongRecOn with
    | ind n7 i8 =>
      intro x1 H locs ls h hS hS0 hl
      have h := h5 n7 x1 h
      refine lv_iload_n hx hb dX12_areAlike_2 rfl (lv_at hl 3 rfl) ?_
      refine z_bipush hx hb (by decide) dX12_areAlike_3 ?_
      refine w_icmp_ge (tgt := 35) hx hb rfl (sI_of (by decide)) dX12_areAlike_5 (by decide) (fun c9 => ?_) (fun c9 => ?_)
      · skip
        have h := h.1 c9
        refine z_iconst hx hb dX12_areAlike_35 ?_
        exact w_zret hx hb hr hlocks hS hS0 (sI_of (by decide)) (by decide) ⟨rfl, h⟩ dX12_areAlike_36
      · skip
        have h := h.2 c9
        refine lv_aload_n hx hb dX12_areAlike_8 rfl (lv_at hl 0 rfl) ?_
        refine w_getr (j2 := 30) hx hb hts (z_memU u12) hown hK.1 hS f12_45 (by decide) (zkd_of (rfl : zcd wR 0 = 50) rfl) (zrf_of (rfl : zcd wR 0 = 50) rfl) (Or.inl (hts _ (z_mem k989))) dX12_areAlike_9 ?_
        refine lv_iload_n hx hb dX12_areAlike_12 rfl (lv_at hl 1 rfl) ?_
        refine lv_iload_n hx hb dX12_areAlike_13 rfl (lv_at hl 3 rfl) ?_
        refine z_iadd hx hb dX12_areAlike_14 ?_
        obtain ⟨o10, h⟩ := h
        refine w_iald (n := 4001) (i := (sI (a0 + x1))) hx hb hK.1 (t0 := 0) rfl hS (by decide) (zkd_of (rfl : zcd wR 30 = 80) rfl) (zln_of (rfl : zcd wR 30 = 80) rfl) rfl o10.1 o10.2 (by decide) dX12_areAlike_15 ?_
        refine lv_aload_n hx hb dX12_areAlike_16 rfl (lv_at hl 0 rfl) ?_
        refine w_getr (j2 := 30) hx hb hts (z_memU u12) hown hK.1 hS f12_45 (by decide) (zkd_of (rfl : zcd wR 0 = 50) rfl) (zrf_of (rfl : zcd wR 0 = 50) rfl) (Or.inl (hts _ (z_mem k989))) dX12_areAlike_17 ?_
        refine lv_iload_n hx hb dX12_areAlike_20 rfl (lv_at hl 2 rfl) ?_
        refine lv_iload_n hx hb dX12_areAlike_21 rfl (lv_at hl 3 rfl) ?_
        refine z_iadd hx hb dX12_areAlike_22 ?_
        obtain ⟨o11, h⟩ := h
        refine w_iald (n := 4001) (i := (sI (a1 + x1))) hx hb hK.1 (t0 := 0) rfl hS (by decide) (zkd_of (rfl : zcd wR 30 = 80) rfl) (zln_of (rfl : zcd wR 30 = 80) rfl) rfl o11.1 o11.2 (by decide) dX12_areAlike_23 ?_
        refine w_icmp_eq (tgt := 29) hx hb rfl rfl dX12_areAlike_24 (by decide) (fun c12 => ?_) (fun c12 => ?_)
        · skip
          have h := h.1 c12
          refine z_iinc (lv' := [(3, .int (iI (x1 + 1))), (0, .ref (b + 0)), (1, .int (iI a0)), (2, .int (iI a1))]) hx hb dX12_areAlike_29 hl (k := 3) rfl (by decide) rfl (fun ls hl => ?_)
          refine lv_goto (tgt := 2) hx hb dX12_areAlike_32 (by decide) ?_
          obtain ⟨n13, h14, h⟩ := h
          exact i8 n13 h14 (x1 + 1) _ _ _ h hS hS0 (lv_sub hl [1, 2, 3, 0] rfl)
        · skip
          have h := h.2 c12
          refine z_iconst hx hb dX12_areAlike_27 ?_
          exact w_zret hx hb hr hlocks hS hS0 (sI_of (by decide)) (by decide) ⟨rfl, h⟩ dX12_areAlike_28
  exact L6 n3 0 _ _ _ h4 hS hS0 (lv_sub hl [1, 2, 3, 0] rfl)

set_option maxRecDepth 100000 in
def wR_dies  (M : zM) (Q : Int → zM → Prop) : Prop := (∀ M1 : zM, M1 = zup M 0 35 0 → wR_findOuts 4000 M1 (fun M3 => pL2 (fun K19 x4 x5 => (4000 < (sI x5) → pL1 (fun K70 x14 => pJ0 (fun J93 => ((sI x14) < (sI (M3 0 22)) → J93) ∧ ((sI (M3 0 22)) ≤ (sI x14) → wR_areAlike x14 3981 M3 (fun z63 => (z63 ≠ 0 → J93) ∧ (z63 = 0 → K70 (x14 + (-1)))))) (((sI (M3 0 22)) ≤ (sI x14) → pL1 (fun K112 x33 => pJ0 (fun J151 => ((sI x33) ≤ (sI (M3 0 22)) → J151) ∧ ((sI (M3 0 22)) < (sI x33) → ((0 ≤ (sI (x33 - 1)) ∧ (sI (x33 - 1)) < 4001) ∧ ((0 ≤ (sI ((x33 - 1) + (3981 - x14))) ∧ (sI ((x33 - 1) + (3981 - x14))) < 4001) ∧ ((sI (M3 30 (sI (x33 - 1)).toNat)) ≠ (sI (M3 30 (sI ((x33 - 1) + (3981 - x14))).toNat)) → J151) ∧ ((sI (M3 30 (sI (x33 - 1)).toNat)) = (sI (M3 30 (sI ((x33 - 1) + (3981 - x14))).toNat)) → K112 (x33 + (-1))))))) ((∀ M49 : zM, M49 = zup M3 22 0 x33 → (∀ M51 : zM, M51 = zup M49 22 1 (3981 - x14) → (∀ M53 : zM, M53 = zup M51 0 34 2 → Q (-2) M53))))) x14) ∧ ((sI x14) < (sI (M3 0 22)) → Q (-3) M3))) 3980) ∧ ((sI x5) ≤ 4000 → ((0 ≤ (sI x5) ∧ (sI x5) < 4001) ∧ pJ1 (fun J42 => ((sI (M3 30 (sI x5).toNat)) ≠ 0 → J42 0) ∧ ((sI (M3 30 (sI x5).toNat)) = 0 → J42 (x4 + 1))) (fun (x71 : Int) => ((sI x71) ≠ 20 → K19 x71 (x5 + 1)) ∧ ((sI x71) = 20 → Q (sI ((x5 - 20) + 1)) M3))))) 0 (M3 0 22)))
set_option maxHeartbeats 4000000 in
set_option maxRecDepth 100000 in
theorem cR_dies (l : Launch) (D : va_G) (dA : Nat → ClassId) (b : Nat) (M : zM)   (Q : Int → zM → Prop) (h : wR_dies  M Q) : Met l yX12_dies (.code yX12_dies cX12_dies 6 (some .int) :: zt) (z_rm 5) (va_Pc [.ref (b + 0)] (wPre D dA vwCl (z_tys dA) wR nR b M)) (va_Qi (wQi Q) (zB D dA vwCl wR nR b) (zA nR b)) 0 0 (zA nR b) := by
  unfold wR_dies at h
  refine Met.ofW (cc := cX12_dies) (maxL := 6) (ret := (some .int)) (by decide) rfl ?_
  intro p e s m args below meth c s₁ B hml hv
  obtain ⟨hargs, hS, hK⟩ := hv
  have hx := B.exec
  have hb := B.bytes
  have hr := B.returns
  have hts := atoms_spec (ws := .code yX12_dies cX12_dies 6 (some .int) :: zt) B.pre
  have hown : s.vm.findClass RX12 = some m.cls := findClass_of_methodNamed B.named
  have hlocks := B.notSynchronized
  have hS0 : va_S (zA nR b) s.heap s.heap [] := va_S.rf
  have hl := lv_entry ([.ref (b + 0)]) (n := 6) (Nat.le_of_ble_eq_true rfl)
  have hent : entryFrame m args 6 = F0 m 0 ((lg_sl ([.ref (b + 0)]) ++ List.replicate (6 - (lg_sl ([.ref (b + 0)])).length) Slot.unset).toArray) [] := by rw [hargs]; exact lg_entry_eq m ([.ref (b + 0)]) 6
  rw [hent]
  generalize (lg_sl ([.ref (b + 0)]) ++ List.replicate (6 - (lg_sl ([.ref (b + 0)])).length) Slot.unset).toArray = ls at hl ⊢
  have hl : lv_has ls 6 [(0, .ref (b + 0))] := hl
  refine lv_aload_n hx hb dX12_dies_0 rfl (lv_at hl 0 rfl) ?_
  refine z_iconst hx hb dX12_dies_1 ?_
  refine w_puti hx hb hts (z_memU u12) tyX12 tyX12_ok nmX12 hown hK.1 hS hS0 f12_35 (by decide) (zkd_of (rfl : zcd wR 0 = 50) rfl) (Or.inl (hts _ (z_mem k979))) rfl (z := 0) (by decide +kernel) dX12_dies_2 (fun H locs hS hS0 => ?_)
  obtain ⟨M1, e2⟩ : ∃ M1 : zM, M1 = zup M 0 35 0 := ⟨_, rfl⟩
  rw [← e2] at hS
  have h := h M1 e2
  refine lv_aload_n hx hb dX12_dies_5 rfl (lv_at hl 0 rfl) ?_
  refine z_sipush hx hb (by decide) dX12_dies_6 ?_
  refine w_callv (va_runV (As := [.int (iI 4000)]) (rest := []) ⟨hx, hb, hml, hown, hts⟩ (cR_findOuts l D dA b M1 4000 _ h) (cwV 1 hts (z_gV k1254 k1255 k1414 k14 k1256) rfl rfl rfl dm_X12_findOuts ⟨Nat.le_of_ble_eq_true rfl, Nat.le_of_ble_eq_true rfl⟩) ⟨wPre_blind, (w_recv hS hK.1 (by decide) (zkd_of (rfl : zcd wR 0 = 50) rfl) (by decide) (rfl : vwCl[12]? = some (RX12, TX12, 50))), w_pre hS hK⟩ rfl rfl hl.1 rfl (lv_room (Nat.le_of_ble_eq_true rfl)) dX12_dies_9 ⟨Nat.le_refl _, Nat.le_refl _⟩) hS0 (fun M3 H locs h hS hS0 => ?_)
  refine z_iconst hx hb dX12_dies_12 ?_
  refine lv_istore_n (lv' := [(1, .int (iI 0)), (0, .ref (b + 0))]) hx hb dX12_dies_13 rfl hl (by decide) rfl (fun ls hl => ?_)
  refine lv_aload_n hx hb dX12_dies_14 rfl (lv_at hl 1 rfl) ?_
  refine w_geti hx hb hts (z_memU u12) hown hK.1 hS f12_22 (by decide) (zkd_of (rfl : zcd wR 0 = 50) rfl) (Or.inl (hts _ (z_mem k966))) dX12_dies_15 ?_
  refine lv_istore_n (lv' := [(2, .int (iI (M3 0 22))), (1, .int (iI 0)), (0, .ref (b + 0))]) hx hb dX12_dies_18 rfl hl (by decide) rfl (fun ls hl => ?_)
  obtain ⟨I6, ⟨n7, h8⟩, h9⟩ := h
  have L10 : ∀ (n11 : Nat) (x4 x5 : Int) (H : Heap) (locs : List Loc) (ls : Array Slot), I6 n11 x4 x5 → zR D dA vwCl wR nR b M3 H → va_S (zA nR b) s.heap H locs → lv_has ls 6 [(0, .ref (b + 0)), (1, .int (iI x4)), (2, .int (iI x5))] → W p l e (headSpec (.code yX12_dies cX12_dies 6 (some .int) :: zt) (z_rm 5)).room s m args below meth c H locs 0 0 (MQ below (va_Qi (wQi Q) (zB D dA vwCl wR nR b) (zA nR b)) args s 0 0 (zA nR b)) (F0 m 19 ls []) := by
    intro n11
    induction n11 using Nat.strongRecOn with
    | ind n11 i12 =>
      intro x4 x5 H locs ls h hS hS0 hl
      have h := h9 n11 x4 x5 h
      refine lv_iload_n hx hb dX12_dies_19 rfl (lv_at hl 2 rfl) ?_
      refine z_sipush hx hb (by decide) dX12_dies_20 ?_
      refine w_icmp_gt (tgt := 62) hx hb rfl (sI_of (by decide)) dX12_dies_23 (by decide) (fun c13 => ?_) (fun c13 => ?_)
      · skip
        have h := h.1 c13
        refine z_sipush hx hb (by decide) dX12_dies_62 ?_
        refine lv_istore_n (lv' := [(2, .int (iI 3981)), (0, .ref (b + 0)), (1, .int (iI x4))]) hx hb dX12_dies_65 rfl hl (by decide) rfl (fun ls hl => ?_)
        refine lv_iload_n hx hb dX12_dies_66 rfl (lv_at hl 0 rfl) ?_
        refine z_iconst hx hb dX12_dies_67 ?_
        refine z_isub hx hb dX12_dies_68 ?_
        refine z_top (show ((3981 - 1) : Int) = 3980 from by decide) ?_
        refine lv_istore_n (lv' := [(3, .int (iI 3980)), (2, .int (iI 3981)), (0, .ref (b + 0)), (1, .int (iI x4))]) hx hb dX12_dies_69 rfl hl (by decide) rfl (fun ls hl => ?_)
        obtain ⟨I15, ⟨n16, h17⟩, h18⟩ := h
        have L19 : ∀ (n20 : Nat) (x14 : Int) (H : Heap) (locs : List Loc) (ls : Array Slot), I15 n20 x14 → zR D dA vwCl wR nR b M3 H → va_S (zA nR b) s.heap H locs → lv_has ls 6 [(0, .ref (b + 0)), (2, .int (iI 3981)), (3, .int (iI x14))] → W p l e (headSpec (.code yX12_dies cX12_dies 6 (some .int) :: zt) (z_rm 5)).room s m args below meth c H locs 0 0 (MQ below (va_Qi (wQi Q) (zB D dA vwCl wR nR b) (zA nR b)) args s 0 0 (zA nR b)) (F0 m 70 ls []) := by
          intro n20
          induction n20 using Nat.strongRecOn with
          | ind n20 i21 =>
            intro x14 H locs ls h hS hS0 hl
            have h := h18 n20 x14 h
            refine lv_iload_n hx hb dX12_dies_70 rfl (lv_at hl 2 rfl) ?_
            refine lv_aload_n hx hb dX12_dies_71 rfl (lv_at hl 0 rfl) ?_
            refine w_geti hx hb hts (z_memU u12) hown hK.1 hS f12_22 (by decide) (zkd_of (rfl : zcd wR 0 = 50) rfl) (Or.inl (hts _ (z_mem k966))) dX12_dies_72 ?_
            obtain ⟨J93, B31, h⟩ := h
            have L30 : ∀ (H : Heap) (locs : List Loc) (ls : Array Slot), J93 → zR D dA vwCl wR nR b M3 H → va_S (zA nR b) s.heap H locs → lv_has ls 6 [(0, .ref (b + 0)), (2, .int (iI 3981)), (3, .int (iI x14))] → W p l e (headSpec (.code yX12_dies cX12_dies 6 (some .int) :: zt) (z_rm 5)).room s m args below meth c H locs 0 0 (MQ below (va_Qi (wQi Q) (zB D dA vwCl wR nR b) (zA nR b)) args s 0 0 (zA nR b)) (F0 m 93 ls []) := by
              intro  H locs ls h hS hS0 hl
              have h := B31 h
              refine lv_iload_n hx hb dX12_dies_93 rfl (lv_at hl 2 rfl) ?_
              refine lv_aload_n hx hb dX12_dies_94 rfl (lv_at hl 0 rfl) ?_
              refine w_geti hx hb hts (z_memU u12) hown hK.1 hS f12_22 (by decide) (zkd_of (rfl : zcd wR 0 = 50) rfl) (Or.inl (hts _ (z_mem k966))) dX12_dies_95 ?_
              refine w_icmp_ge (tgt := 104) hx hb rfl rfl dX12_dies_98 (by decide) (fun c32 => ?_) (fun c32 => ?_)
              · skip
                have h := h.1 c32
                refine lv_iload_n hx hb dX12_dies_104 rfl (lv_at hl 1 rfl) ?_
                refine lv_iload_n hx hb dX12_dies_105 rfl (lv_at hl 2 rfl) ?_
                refine z_isub hx hb dX12_dies_106 ?_
                refine lv_istore (lv' := [(4, .int (iI (3981 - x14))), (0, .ref (b + 0)), (2, .int (iI 3981)), (3, .int (iI x14))]) hx hb dX12_dies_107 hl (by decide) rfl (fun ls hl => ?_)
                refine lv_iload_n hx hb dX12_dies_109 rfl (lv_at hl 3 rfl) ?_
                refine lv_istore (lv' := [(5, .int (iI x14)), (4, .int (iI (3981 - x14))), (0, .ref (b + 0)), (2, .int (iI 3981)), (3, .int (iI x14))]) hx hb dX12_dies_110 hl (by decide) rfl (fun ls hl => ?_)
                obtain ⟨I34, ⟨n35, h36⟩, h37⟩ := h
                have L38 : ∀ (n39 : Nat) (x33 : Int) (H : Heap) (locs : List Loc) (ls : Array Slot), I34 n39 x33 → zR D dA vwCl wR nR b M3 H → va_S (zA nR b) s.heap H locs → lv_has ls 6 [(0, .ref (b + 0)), (4, .int (iI (3981 - x14))), (5, .int (iI x33))] → W p l e (headSpec (.code yX12_dies cX12_dies 6 (some .int) :: zt) (z_rm 5)).room s m args below meth c H locs 0 0 (MQ below (va_Qi (wQi Q) (zB D dA vwCl wR nR b) (zA nR b)) args s 0 0 (zA nR b)) (F0 m 112 ls []) := by
                  intro n39
                  induction n39 using Nat.strongRecOn with
                  | ind n39 i40 =>
                    intro x33 H locs ls h hS hS0 hl
                    have h := h37 n39 x33 h
                    refine lv_iload hx hb dX12_dies_112 (lv_at hl 2 rfl) ?_
                    refine lv_aload_n hx hb dX12_dies_114 rfl (lv_at hl 0 rfl) ?_
                    refine w_geti hx hb hts (z_memU u12) hown hK.1 hS f12_22 (by decide) (zkd_of (rfl : zcd wR 0 = 50) rfl) (Or.inl (hts _ (z_mem k966))) dX12_dies_115 ?_
                    obtain ⟨J151, B48, h⟩ := h
                    have L47 : ∀ (H : Heap) (locs : List Loc) (ls : Array Slot), J151 → zR D dA vwCl wR nR b M3 H → va_S (zA nR b) s.heap H locs → lv_has ls 6 [(0, .ref (b + 0)), (4, .int (iI (3981 - x14))), (5, .int (iI x33))] → W p l e (headSpec (.code yX12_dies cX12_dies 6 (some .int) :: zt) (z_rm 5)).room s m args below meth c H locs 0 0 (MQ below (va_Qi (wQi Q) (zB D dA vwCl wR nR b) (zA nR b)) args s 0 0 (zA nR b)) (F0 m 151 ls []) := by
                      intro  H locs ls h hS hS0 hl
                      have h := B48 h
                      refine lv_aload_n hx hb dX12_dies_151 rfl (lv_at hl 0 rfl) ?_
                      refine w_getr (j2 := 22) hx hb hts (z_memU u12) hown hK.1 hS f12_33 (by decide) (zkd_of (rfl : zcd wR 0 = 50) rfl) (zrf_of (rfl : zcd wR 0 = 50) rfl) (Or.inl (hts _ (z_mem k977))) dX12_dies_152 ?_
                      refine z_iconst hx hb dX12_dies_155 ?_
                      refine lv_iload hx hb dX12_dies_156 (lv_at hl 2 rfl) ?_
                      refine w_iast (z := x33) (n := 64) (i := 0) hx hb hK.1 (t0 := 0) rfl hS hS0 (by decide) (zkd_of (rfl : zcd wR 22 = 72) rfl) (zln_of (rfl : zcd wR 22 = 72) rfl) (sI_of (by decide)) (by decide) (by decide) (by decide) dX12_dies_158 (fun H locs hS hS0 => ?_)
                      rw [show ((0 : Int).toNat) = 0 from rfl] at hS
                      obtain ⟨M49, e50⟩ : ∃ M49 : zM, M49 = zup M3 22 0 x33 := ⟨_, rfl⟩
                      rw [← e50] at hS
                      have h := h M49 e50
                      refine lv_aload_n hx hb dX12_dies_159 rfl (lv_at hl 0 rfl) ?_
                      refine w_getr (j2 := 22) hx hb hts (z_memU u12) hown hK.1 hS f12_33 (by decide) (zkd_of (rfl : zcd wR 0 = 50) rfl) (zrf_of (rfl : zcd wR 0 = 50) rfl) (Or.inl (hts _ (z_mem k977))) dX12_dies_160 ?_
                      refine z_iconst hx hb dX12_dies_163 ?_
                      refine lv_iload hx hb dX12_dies_164 (lv_at hl 1 rfl) ?_
                      refine w_iast (z := (3981 - x14)) (n := 64) (i := 1) hx hb hK.1 (t0 := 0) rfl hS hS0 (by decide) (zkd_of (rfl : zcd wR 22 = 72) rfl) (zln_of (rfl : zcd wR 22 = 72) rfl) (sI_of (by decide)) (by decide) (by decide) (by decide) dX12_dies_166 (fun H locs hS hS0 => ?_)
                      rw [show ((1 : Int).toNat) = 1 from rfl] at hS
                      obtain ⟨M51, e52⟩ : ∃ M51 : zM, M51 = zup M49 22 1 (3981 - x14) := ⟨_, rfl⟩
                      rw [← e52] at hS
                      have h := h M51 e52
                      refine lv_aload_n hx hb dX12_dies_167 rfl (lv_at hl 0 rfl) ?_
                      refine z_iconst hx hb dX12_dies_168 ?_
                      refine w_puti hx hb hts (z_memU u12) tyX12 tyX12_ok nmX12 hown hK.1 hS hS0 f12_34 (by decide) (zkd_of (rfl : zcd wR 0 = 50) rfl) (Or.inl (hts _ (z_mem k978))) rfl (z := 2) (by decide +kernel) dX12_dies_169 (fun H locs hS hS0 => ?_)
                      obtain ⟨M53, e54⟩ : ∃ M53 : zM, M53 = zup M51 0 34 2 := ⟨_, rfl⟩
                      rw [← e54] at hS
                      have h := h M53 e54
                      refine z_bipush hx hb (by decide) dX12_dies_172 ?_
                      exact w_iret hx hb hr hlocks hS hS0 (sI_of (by decide)) h dX12_dies_174
                    refine w_icmp_le (tgt := 151) hx hb rfl rfl dX12_dies_118 (by decide) (fun c55 => ?_) (fun c55 => ?_)
                    · skip
                      have h := h.1 c55
                      exact L47 _ _ _ h hS hS0 (lv_sub hl [0, 1, 2] rfl)
                    · skip
                      have h := h.2 c55
                      refine lv_aload_n hx hb dX12_dies_121 rfl (lv_at hl 0 rfl) ?_
                      refine w_getr (j2 := 30) hx hb hts (z_memU u12) hown hK.1 hS f12_45 (by decide) (zkd_of (rfl : zcd wR 0 = 50) rfl) (zrf_of (rfl : zcd wR 0 = 50) rfl) (Or.inl (hts _ (z_mem k989))) dX12_dies_122 ?_
                      refine lv_iload hx hb dX12_dies_125 (lv_at hl 2 rfl) ?_
                      refine z_iconst hx hb dX12_dies_127 ?_
                      refine z_isub hx hb dX12_dies_128 ?_
                      obtain ⟨o56, h⟩ := h
                      refine w_iald (n := 4001) (i := (sI (x33 - 1))) hx hb hK.1 (t0 := 0) rfl hS (by decide) (zkd_of (rfl : zcd wR 30 = 80) rfl) (zln_of (rfl : zcd wR 30 = 80) rfl) rfl o56.1 o56.2 (by decide) dX12_dies_129 ?_
                      refine lv_aload_n hx hb dX12_dies_130 rfl (lv_at hl 0 rfl) ?_
                      refine w_getr (j2 := 30) hx hb hts (z_memU u12) hown hK.1 hS f12_45 (by decide) (zkd_of (rfl : zcd wR 0 = 50) rfl) (zrf_of (rfl : zcd wR 0 = 50) rfl) (Or.inl (hts _ (z_mem k989))) dX12_dies_131 ?_
                      refine lv_iload hx hb dX12_dies_134 (lv_at hl 2 rfl) ?_
                      refine z_iconst hx hb dX12_dies_136 ?_
                      refine z_isub hx hb dX12_dies_137 ?_
                      refine lv_iload hx hb dX12_dies_138 (lv_at hl 1 rfl) ?_
                      refine z_iadd hx hb dX12_dies_140 ?_
                      obtain ⟨o57, h⟩ := h
                      refine w_iald (n := 4001) (i := (sI ((x33 - 1) + (3981 - x14)))) hx hb hK.1 (t0 := 0) rfl hS (by decide) (zkd_of (rfl : zcd wR 30 = 80) rfl) (zln_of (rfl : zcd wR 30 = 80) rfl) rfl o57.1 o57.2 (by decide) dX12_dies_141 ?_
                      refine w_icmp_ne (tgt := 151) hx hb rfl rfl dX12_dies_142 (by decide) (fun c58 => ?_) (fun c58 => ?_)
                      · skip
                        have h := h.1 c58
                        exact L47 _ _ _ h hS hS0 (lv_sub hl [0, 1, 2] rfl)
                      · skip
                        have h := h.2 c58
                        refine z_iinc (lv' := [(5, .int (iI (x33 + (-1)))), (0, .ref (b + 0)), (4, .int (iI (3981 - x14)))]) hx hb dX12_dies_145 hl (k := 2) rfl (by decide) rfl (fun ls hl => ?_)
                        refine lv_goto (tgt := 112) hx hb dX12_dies_148 (by decide) ?_
                        obtain ⟨n59, h60, h⟩ := h
                        exact i40 n59 h60 (x33 + (-1)) _ _ _ h hS hS0 (lv_sub hl [1, 2, 0] rfl)
                exact L38 n35 x14 _ _ _ h36 hS hS0 (lv_sub hl [2, 1, 0] rfl)
              · skip
                have h := h.2 c32
                refine z_bipush hx hb (by decide) dX12_dies_101 ?_
                exact w_iret hx hb hr hlocks hS hS0 (sI_of (by decide)) h dX12_dies_103
            refine w_icmp_lt (tgt := 93) hx hb rfl rfl dX12_dies_75 (by decide) (fun c61 => ?_) (fun c61 => ?_)
            · skip
              have h := h.1 c61
              exact L30 _ _ _ h hS hS0 (lv_sub hl [0, 1, 2] rfl)
            · skip
              have h := h.2 c61
              refine lv_aload_n hx hb dX12_dies_78 rfl (lv_at hl 0 rfl) ?_
              refine lv_iload_n hx hb dX12_dies_79 rfl (lv_at hl 2 rfl) ?_
              refine lv_iload_n hx hb dX12_dies_80 rfl (lv_at hl 1 rfl) ?_
              refine w_callz (va_runV (As := [.int (iI x14), .int (iI 3981)]) (rest := []) ⟨hx, hb, hml, hown, hts⟩ (cR_areAlike l D dA b M3 x14 3981 _ h) (cwV 2 hts (z_gV k1261 k1262 k1415 k14 k1263) rfl rfl rfl dm_X12_areAlike ⟨Nat.le_of_ble_eq_true rfl, Nat.le_of_ble_eq_true rfl⟩) ⟨wPre_blind, (w_recv hS hK.1 (by decide) (zkd_of (rfl : zcd wR 0 = 50) rfl) (by decide) (rfl : vwCl[12]? = some (RX12, TX12, 50))), w_pre hS hK⟩ rfl rfl hl.1 rfl (lv_room (Nat.le_of_ble_eq_true rfl)) dX12_dies_81 ⟨Nat.le_refl _, Nat.le_refl _⟩) hS0 (fun z63 M62 H locs r64 h hS hS0 => ?_)
              obtain ⟨e65, h⟩ := h
              rw [e65] at hS
              refine w_if_ne (tgt := 93) hx hb (sI_01 r64) dX12_dies_84 (by decide) (fun c66 => ?_) (fun c66 => ?_)
              · skip
                have h := h.1 c66
                exact L30 _ _ _ h hS hS0 (lv_sub hl [0, 1, 2] rfl)
              · skip
                have h := h.2 c66
                refine z_iinc (lv' := [(3, .int (iI (x14 + (-1)))), (0, .ref (b + 0)), (2, .int (iI 3981))]) hx hb dX12_dies_87 hl (k := 2) rfl (by decide) rfl (fun ls hl => ?_)
                refine lv_goto (tgt := 70) hx hb dX12_dies_90 (by decide) ?_
                obtain ⟨n67, h68, h⟩ := h
                exact i21 n67 h68 (x14 + (-1)) _ _ _ h hS hS0 (lv_sub hl [1, 2, 0] rfl)
        exact L19 n16 3980 _ _ _ h17 hS hS0 (lv_sub hl [2, 1, 0] rfl)
      · skip
        have h := h.2 c13
        refine lv_aload_n hx hb dX12_dies_26 rfl (lv_at hl 0 rfl) ?_
        refine w_getr (j2 := 30) hx hb hts (z_memU u12) hown hK.1 hS f12_45 (by decide) (zkd_of (rfl : zcd wR 0 = 50) rfl) (zrf_of (rfl : zcd wR 0 = 50) rfl) (Or.inl (hts _ (z_mem k989))) dX12_dies_27 ?_
        refine lv_iload_n hx hb dX12_dies_30 rfl (lv_at hl 2 rfl) ?_
        obtain ⟨o69, h⟩ := h
        refine w_iald (n := 4001) (i := (sI x5)) hx hb hK.1 (t0 := 0) rfl hS (by decide) (zkd_of (rfl : zcd wR 30 = 80) rfl) (zln_of (rfl : zcd wR 30 = 80) rfl) rfl o69.1 o69.2 (by decide) dX12_dies_31 ?_
        obtain ⟨J42, B73, h⟩ := h
        have L72 : ∀ (x71 : Int) (H : Heap) (locs : List Loc) (ls : Array Slot), J42 x71 → zR D dA vwCl wR nR b M3 H → va_S (zA nR b) s.heap H locs → lv_has ls 6 [(0, .ref (b + 0)), (2, .int (iI x5))] → W p l e (headSpec (.code yX12_dies cX12_dies 6 (some .int) :: zt) (z_rm 5)).room s m args below meth c H locs 0 0 (MQ below (va_Qi (wQi Q) (zB D dA vwCl wR nR b) (zA nR b)) args s 0 0 (zA nR b)) (F0 m 42 ls [.int (iI x71)]) := by
          intro x71 H locs ls h hS hS0 hl
          have h := B73 x71 h
          refine lv_istore_n (lv' := [(1, .int (iI x71)), (0, .ref (b + 0)), (2, .int (iI x5))]) hx hb dX12_dies_42 rfl hl (by decide) rfl (fun ls hl => ?_)
          refine lv_iload_n hx hb dX12_dies_43 rfl (lv_at hl 0 rfl) ?_
          refine z_bipush hx hb (by decide) dX12_dies_44 ?_
          refine w_icmp_ne (tgt := 56) hx hb rfl (sI_of (by decide)) dX12_dies_46 (by decide) (fun c74 => ?_) (fun c74 => ?_)
          · skip
            have h := h.1 c74
            refine z_iinc (lv' := [(2, .int (iI (x5 + 1))), (1, .int (iI x71)), (0, .ref (b + 0))]) hx hb dX12_dies_56 hl (k := 2) rfl (by decide) rfl (fun ls hl => ?_)
            refine lv_goto (tgt := 19) hx hb dX12_dies_59 (by decide) ?_
            obtain ⟨n75, h76, h⟩ := h
            exact i12 n75 h76 x71 (x5 + 1) _ _ _ h hS hS0 (lv_sub hl [2, 1, 0] rfl)
          · skip
            have h := h.2 c74
            refine lv_iload_n hx hb dX12_dies_49 rfl (lv_at hl 2 rfl) ?_
            refine z_bipush hx hb (by decide) dX12_dies_50 ?_
            refine z_isub hx hb dX12_dies_52 ?_
            refine z_iconst hx hb dX12_dies_53 ?_
            refine z_iadd hx hb dX12_dies_54 ?_
            exact w_iret hx hb hr hlocks hS hS0 rfl h dX12_dies_55
        refine w_if_ne (tgt := 41) hx hb rfl dX12_dies_32 (by decide) (fun c77 => ?_) (fun c77 => ?_)
        · skip
          have h := h.1 c77
          refine z_iconst hx hb dX12_dies_41 ?_
          exact L72 0 _ _ _ h hS hS0 (lv_sub hl [0, 2] rfl)
        · skip
          have h := h.2 c77
          refine lv_iload_n hx hb dX12_dies_35 rfl (lv_at hl 1 rfl) ?_
          refine z_iconst hx hb dX12_dies_36 ?_
          refine z_iadd hx hb dX12_dies_37 ?_
          refine lv_goto (tgt := 42) hx hb dX12_dies_38 (by decide) ?_
          exact L72 (x4 + 1) _ _ _ h hS hS0 (lv_sub hl [0, 2] rfl)
  exact L10 n7 0 (M3 0 22) _ _ _ h8 hS hS0 (lv_sub hl [2, 1, 0] rfl)
end zz10_w20
section zz10_w21
/-! the W layer, 21 -/
theorem q10w21_0_0 : (cX12_gap.data.toList.drop 0).take 22 = [42, 3, 181, 0, 118, 27, 3, 42, 180, 0, 179, 4, 100, 184, 0, 124, 154, 0, 5, 3, 172, 42] := by decide +kernel
theorem q10w21_0_22 : (cX12_gap.data.toList.drop 22).take 8 = [180, 0, 60, 27, 2, 79, 4, 172] := by decide +kernel
theorem dX12_gap_0 : decode cX12_gap 0 = .ok (.aload_n 0, 1) := dz_42 (dz_at q10w21_0_0 0)
theorem dX12_gap_1 : decode cX12_gap 1 = .ok (.iconst 0, 1) := dz_3 (dz_at q10w21_0_0 1)
theorem dX12_gap_11 : decode cX12_gap 11 = .ok (.iconst 1, 1) := dz_4 (dz_at q10w21_0_0 11)
theorem dX12_gap_12 : decode cX12_gap 12 = .ok (.isub, 1) := dz_100 (dz_at q10w21_0_0 12)
theorem dX12_gap_13 : decode cX12_gap 13 = .ok (.invokestatic 124, 3) := dz_184 (dz_at q10w21_0_0 13) rfl
theorem dX12_gap_16 : decode cX12_gap 16 = .ok (.ifCond .ne 5, 3) := dz_154 (dz_at q10w21_0_0 16) (by decide +kernel)
theorem dX12_gap_19 : decode cX12_gap 19 = .ok (.iconst 0, 1) := dz_3 (dz_at q10w21_0_0 19)
theorem dX12_gap_2 : decode cX12_gap 2 = .ok (.putfield 118, 3) := dz_181 (dz_at q10w21_0_0 2) rfl
theorem dX12_gap_20 : decode cX12_gap 20 = .ok (.ireturn, 1) := dz_172 (dz_at q10w21_0_0 20)
theorem dX12_gap_21 : decode cX12_gap 21 = .ok (.aload_n 0, 1) := dz_42 (dz_at q10w21_0_0 21)
theorem dX12_gap_22 : decode cX12_gap 22 = .ok (.getfield 60, 3) := dz_180 (dz_at q10w21_0_22 0) rfl
theorem dX12_gap_25 : decode cX12_gap 25 = .ok (.iload_n 1, 1) := dz_27 (dz_at q10w21_0_22 3)
theorem dX12_gap_26 : decode cX12_gap 26 = .ok (.iconst (-1), 1) := dz_2 (dz_at q10w21_0_22 4)
theorem dX12_gap_27 : decode cX12_gap 27 = .ok (.iastore, 1) := dz_79 (dz_at q10w21_0_22 5)
theorem dX12_gap_28 : decode cX12_gap 28 = .ok (.iconst 1, 1) := dz_4 (dz_at q10w21_0_22 6)
theorem dX12_gap_29 : decode cX12_gap 29 = .ok (.ireturn, 1) := dz_172 (dz_at q10w21_0_22 7)
theorem dX12_gap_5 : decode cX12_gap 5 = .ok (.iload_n 1, 1) := dz_27 (dz_at q10w21_0_0 5)
theorem dX12_gap_6 : decode cX12_gap 6 = .ok (.iconst 0, 1) := dz_3 (dz_at q10w21_0_0 6)
theorem dX12_gap_7 : decode cX12_gap 7 = .ok (.aload_n 0, 1) := dz_42 (dz_at q10w21_0_0 7)
theorem dX12_gap_8 : decode cX12_gap 8 = .ok (.getfield 179, 3) := dz_180 (dz_at q10w21_0_0 8) rfl
theorem q10w21_1_0 : (cX12_isPair.data.toList.drop 0).take 23 = [3, 62, 29, 42, 180, 0, 179, 162, 0, 43, 42, 180, 0, 60, 29, 46, 2, 159, 0, 27, 42, 27, 29] := by decide +kernel
theorem q10w21_1_23 : (cX12_isPair.data.toList.drop 23).take 24 = [182, 1, 40, 42, 28, 29, 182, 1, 40, 128, 42, 180, 0, 60, 29, 46, 159, 0, 5, 3, 172, 132, 3, 1] := by decide +kernel
theorem q10w21_1_47 : (cX12_isPair.data.toList.drop 47).take 5 = [167, 255, 211, 4, 172] := by decide +kernel
theorem dX12_isPair_0 : decode cX12_isPair 0 = .ok (.iconst 0, 1) := dz_3 (dz_at q10w21_1_0 0)
theorem dX12_isPair_1 : decode cX12_isPair 1 = .ok (.istore_n 3, 1) := dz_62 (dz_at q10w21_1_0 1)
theorem dX12_isPair_10 : decode cX12_isPair 10 = .ok (.aload_n 0, 1) := dz_42 (dz_at q10w21_1_0 10)
theorem dX12_isPair_11 : decode cX12_isPair 11 = .ok (.getfield 60, 3) := dz_180 (dz_at q10w21_1_0 11) rfl
theorem dX12_isPair_14 : decode cX12_isPair 14 = .ok (.iload_n 3, 1) := dz_29 (dz_at q10w21_1_0 14)
theorem dX12_isPair_15 : decode cX12_isPair 15 = .ok (.iaload, 1) := dz_46 (dz_at q10w21_1_0 15)
theorem dX12_isPair_16 : decode cX12_isPair 16 = .ok (.iconst (-1), 1) := dz_2 (dz_at q10w21_1_0 16)
theorem dX12_isPair_17 : decode cX12_isPair 17 = .ok (.if_icmp .eq 27, 3) := dz_159 (dz_at q10w21_1_0 17) (by decide +kernel)
theorem dX12_isPair_2 : decode cX12_isPair 2 = .ok (.iload_n 3, 1) := dz_29 (dz_at q10w21_1_0 2)
theorem dX12_isPair_20 : decode cX12_isPair 20 = .ok (.aload_n 0, 1) := dz_42 (dz_at q10w21_1_0 20)
theorem dX12_isPair_21 : decode cX12_isPair 21 = .ok (.iload_n 1, 1) := dz_27 (dz_at q10w21_1_0 21)
theorem dX12_isPair_22 : decode cX12_isPair 22 = .ok (.iload_n 3, 1) := dz_29 (dz_at q10w21_1_0 22)
theorem dX12_isPair_23 : decode cX12_isPair 23 = .ok (.invokevirtual 296, 3) := dz_182 (dz_at q10w21_1_23 0) rfl
theorem dX12_isPair_26 : decode cX12_isPair 26 = .ok (.aload_n 0, 1) := dz_42 (dz_at q10w21_1_23 3)
theorem dX12_isPair_27 : decode cX12_isPair 27 = .ok (.iload_n 2, 1) := dz_28 (dz_at q10w21_1_23 4)
theorem dX12_isPair_28 : decode cX12_isPair 28 = .ok (.iload_n 3, 1) := dz_29 (dz_at q10w21_1_23 5)
theorem dX12_isPair_29 : decode cX12_isPair 29 = .ok (.invokevirtual 296, 3) := dz_182 (dz_at q10w21_1_23 6) rfl
theorem dX12_isPair_3 : decode cX12_isPair 3 = .ok (.aload_n 0, 1) := dz_42 (dz_at q10w21_1_0 3)
theorem dX12_isPair_32 : decode cX12_isPair 32 = .ok (.ior, 1) := dz_128 (dz_at q10w21_1_23 9)
theorem dX12_isPair_33 : decode cX12_isPair 33 = .ok (.aload_n 0, 1) := dz_42 (dz_at q10w21_1_23 10)
theorem dX12_isPair_34 : decode cX12_isPair 34 = .ok (.getfield 60, 3) := dz_180 (dz_at q10w21_1_23 11) rfl
theorem dX12_isPair_37 : decode cX12_isPair 37 = .ok (.iload_n 3, 1) := dz_29 (dz_at q10w21_1_23 14)
theorem dX12_isPair_38 : decode cX12_isPair 38 = .ok (.iaload, 1) := dz_46 (dz_at q10w21_1_23 15)
theorem dX12_isPair_39 : decode cX12_isPair 39 = .ok (.if_icmp .eq 5, 3) := dz_159 (dz_at q10w21_1_23 16) (by decide +kernel)
theorem dX12_isPair_4 : decode cX12_isPair 4 = .ok (.getfield 179, 3) := dz_180 (dz_at q10w21_1_0 4) rfl
theorem dX12_isPair_42 : decode cX12_isPair 42 = .ok (.iconst 0, 1) := dz_3 (dz_at q10w21_1_23 19)
theorem dX12_isPair_43 : decode cX12_isPair 43 = .ok (.ireturn, 1) := dz_172 (dz_at q10w21_1_23 20)
theorem dX12_isPair_44 : decode cX12_isPair 44 = .ok (.iinc 3 1, 3) := dz_132 (dz_at q10w21_1_23 21) (by decide +kernel)
theorem dX12_isPair_47 : decode cX12_isPair 47 = .ok (.goto (-45), 3) := dz_167 (dz_at q10w21_1_47 0) (by decide +kernel)
theorem dX12_isPair_50 : decode cX12_isPair 50 = .ok (.iconst 1, 1) := dz_4 (dz_at q10w21_1_47 3)
theorem dX12_isPair_51 : decode cX12_isPair 51 = .ok (.ireturn, 1) := dz_172 (dz_at q10w21_1_47 4)
theorem dX12_isPair_7 : decode cX12_isPair 7 = .ok (.if_icmp .ge 43, 3) := dz_162 (dz_at q10w21_1_0 7) (by decide +kernel)
theorem q10w21_2_0 : (cX12_isSpan.data.toList.drop 0).take 23 = [3, 61, 28, 42, 180, 0, 179, 162, 0, 65, 28, 27, 96, 62, 29, 42, 180, 0, 179, 162, 0, 47, 42] := by decide +kernel
theorem q10w21_2_23 : (cX12_isSpan.data.toList.drop 23).take 24 = [180, 0, 60, 28, 46, 2, 159, 0, 30, 42, 180, 0, 60, 29, 46, 2, 159, 0, 20, 42, 180, 0, 60, 28] := by decide +kernel
theorem q10w21_2_47 : (cX12_isSpan.data.toList.drop 47).take 22 = [46, 42, 180, 0, 60, 29, 46, 159, 0, 5, 3, 172, 29, 27, 96, 62, 167, 255, 207, 132, 2, 1] := by decide +kernel
theorem q10w21_2_69 : (cX12_isSpan.data.toList.drop 69).take 5 = [167, 255, 189, 4, 172] := by decide +kernel
theorem dX12_isSpan_0 : decode cX12_isSpan 0 = .ok (.iconst 0, 1) := dz_3 (dz_at q10w21_2_0 0)
theorem dX12_isSpan_1 : decode cX12_isSpan 1 = .ok (.istore_n 2, 1) := dz_61 (dz_at q10w21_2_0 1)
theorem dX12_isSpan_10 : decode cX12_isSpan 10 = .ok (.iload_n 2, 1) := dz_28 (dz_at q10w21_2_0 10)
theorem dX12_isSpan_11 : decode cX12_isSpan 11 = .ok (.iload_n 1, 1) := dz_27 (dz_at q10w21_2_0 11)
theorem dX12_isSpan_12 : decode cX12_isSpan 12 = .ok (.iadd, 1) := dz_96 (dz_at q10w21_2_0 12)
theorem dX12_isSpan_13 : decode cX12_isSpan 13 = .ok (.istore_n 3, 1) := dz_62 (dz_at q10w21_2_0 13)
theorem dX12_isSpan_14 : decode cX12_isSpan 14 = .ok (.iload_n 3, 1) := dz_29 (dz_at q10w21_2_0 14)
theorem dX12_isSpan_15 : decode cX12_isSpan 15 = .ok (.aload_n 0, 1) := dz_42 (dz_at q10w21_2_0 15)
theorem dX12_isSpan_16 : decode cX12_isSpan 16 = .ok (.getfield 179, 3) := dz_180 (dz_at q10w21_2_0 16) rfl
theorem dX12_isSpan_19 : decode cX12_isSpan 19 = .ok (.if_icmp .ge 47, 3) := dz_162 (dz_at q10w21_2_0 19) (by decide +kernel)
theorem dX12_isSpan_2 : decode cX12_isSpan 2 = .ok (.iload_n 2, 1) := dz_28 (dz_at q10w21_2_0 2)
theorem dX12_isSpan_22 : decode cX12_isSpan 22 = .ok (.aload_n 0, 1) := dz_42 (dz_at q10w21_2_0 22)
theorem dX12_isSpan_23 : decode cX12_isSpan 23 = .ok (.getfield 60, 3) := dz_180 (dz_at q10w21_2_23 0) rfl
theorem dX12_isSpan_26 : decode cX12_isSpan 26 = .ok (.iload_n 2, 1) := dz_28 (dz_at q10w21_2_23 3)
theorem dX12_isSpan_27 : decode cX12_isSpan 27 = .ok (.iaload, 1) := dz_46 (dz_at q10w21_2_23 4)
theorem dX12_isSpan_28 : decode cX12_isSpan 28 = .ok (.iconst (-1), 1) := dz_2 (dz_at q10w21_2_23 5)
theorem dX12_isSpan_29 : decode cX12_isSpan 29 = .ok (.if_icmp .eq 30, 3) := dz_159 (dz_at q10w21_2_23 6) (by decide +kernel)
theorem dX12_isSpan_3 : decode cX12_isSpan 3 = .ok (.aload_n 0, 1) := dz_42 (dz_at q10w21_2_0 3)
theorem dX12_isSpan_32 : decode cX12_isSpan 32 = .ok (.aload_n 0, 1) := dz_42 (dz_at q10w21_2_23 9)
theorem dX12_isSpan_33 : decode cX12_isSpan 33 = .ok (.getfield 60, 3) := dz_180 (dz_at q10w21_2_23 10) rfl
theorem dX12_isSpan_36 : decode cX12_isSpan 36 = .ok (.iload_n 3, 1) := dz_29 (dz_at q10w21_2_23 13)
theorem dX12_isSpan_37 : decode cX12_isSpan 37 = .ok (.iaload, 1) := dz_46 (dz_at q10w21_2_23 14)
theorem dX12_isSpan_38 : decode cX12_isSpan 38 = .ok (.iconst (-1), 1) := dz_2 (dz_at q10w21_2_23 15)
theorem dX12_isSpan_39 : decode cX12_isSpan 39 = .ok (.if_icmp .eq 20, 3) := dz_159 (dz_at q10w21_2_23 16) (by decide +kernel)
theorem dX12_isSpan_4 : decode cX12_isSpan 4 = .ok (.getfield 179, 3) := dz_180 (dz_at q10w21_2_0 4) rfl
theorem dX12_isSpan_42 : decode cX12_isSpan 42 = .ok (.aload_n 0, 1) := dz_42 (dz_at q10w21_2_23 19)
theorem dX12_isSpan_43 : decode cX12_isSpan 43 = .ok (.getfield 60, 3) := dz_180 (dz_at q10w21_2_23 20) rfl
theorem dX12_isSpan_46 : decode cX12_isSpan 46 = .ok (.iload_n 2, 1) := dz_28 (dz_at q10w21_2_23 23)
theorem dX12_isSpan_47 : decode cX12_isSpan 47 = .ok (.iaload, 1) := dz_46 (dz_at q10w21_2_47 0)
theorem dX12_isSpan_48 : decode cX12_isSpan 48 = .ok (.aload_n 0, 1) := dz_42 (dz_at q10w21_2_47 1)
theorem dX12_isSpan_49 : decode cX12_isSpan 49 = .ok (.getfield 60, 3) := dz_180 (dz_at q10w21_2_47 2) rfl
theorem dX12_isSpan_52 : decode cX12_isSpan 52 = .ok (.iload_n 3, 1) := dz_29 (dz_at q10w21_2_47 5)
theorem dX12_isSpan_53 : decode cX12_isSpan 53 = .ok (.iaload, 1) := dz_46 (dz_at q10w21_2_47 6)
theorem dX12_isSpan_54 : decode cX12_isSpan 54 = .ok (.if_icmp .eq 5, 3) := dz_159 (dz_at q10w21_2_47 7) (by decide +kernel)
theorem dX12_isSpan_57 : decode cX12_isSpan 57 = .ok (.iconst 0, 1) := dz_3 (dz_at q10w21_2_47 10)
theorem dX12_isSpan_58 : decode cX12_isSpan 58 = .ok (.ireturn, 1) := dz_172 (dz_at q10w21_2_47 11)
theorem dX12_isSpan_59 : decode cX12_isSpan 59 = .ok (.iload_n 3, 1) := dz_29 (dz_at q10w21_2_47 12)
theorem dX12_isSpan_60 : decode cX12_isSpan 60 = .ok (.iload_n 1, 1) := dz_27 (dz_at q10w21_2_47 13)
theorem dX12_isSpan_61 : decode cX12_isSpan 61 = .ok (.iadd, 1) := dz_96 (dz_at q10w21_2_47 14)
theorem dX12_isSpan_62 : decode cX12_isSpan 62 = .ok (.istore_n 3, 1) := dz_62 (dz_at q10w21_2_47 15)
theorem dX12_isSpan_63 : decode cX12_isSpan 63 = .ok (.goto (-49), 3) := dz_167 (dz_at q10w21_2_47 16) (by decide +kernel)
theorem dX12_isSpan_66 : decode cX12_isSpan 66 = .ok (.iinc 2 1, 3) := dz_132 (dz_at q10w21_2_47 19) (by decide +kernel)
theorem dX12_isSpan_69 : decode cX12_isSpan 69 = .ok (.goto (-67), 3) := dz_167 (dz_at q10w21_2_69 0) (by decide +kernel)
theorem dX12_isSpan_7 : decode cX12_isSpan 7 = .ok (.if_icmp .ge 65, 3) := dz_162 (dz_at q10w21_2_0 7) (by decide +kernel)
theorem dX12_isSpan_72 : decode cX12_isSpan 72 = .ok (.iconst 1, 1) := dz_4 (dz_at q10w21_2_69 3)
theorem dX12_isSpan_73 : decode cX12_isSpan 73 = .ok (.ireturn, 1) := dz_172 (dz_at q10w21_2_69 4)
theorem q10w21_3_0 : (cX12_mended.data.toList.drop 0).take 23 = [42, 3, 181, 0, 118, 27, 3, 42, 180, 0, 179, 4, 100, 184, 0, 124, 154, 0, 5, 2, 172, 42, 3] := by decide +kernel
theorem q10w21_3_23 : (cX12_mended.data.toList.drop 23).take 24 = [182, 1, 46, 61, 28, 2, 160, 0, 7, 2, 167, 0, 22, 42, 28, 16, 100, 108, 27, 182, 1, 40, 42, 28] := by decide +kernel
theorem q10w21_3_47 : (cX12_mended.data.toList.drop 47).take 9 = [16, 100, 112, 27, 182, 1, 40, 128, 172] := by decide +kernel
theorem dX12_mended_0 : decode cX12_mended 0 = .ok (.aload_n 0, 1) := dz_42 (dz_at q10w21_3_0 0)
theorem dX12_mended_1 : decode cX12_mended 1 = .ok (.iconst 0, 1) := dz_3 (dz_at q10w21_3_0 1)
theorem dX12_mended_11 : decode cX12_mended 11 = .ok (.iconst 1, 1) := dz_4 (dz_at q10w21_3_0 11)
theorem dX12_mended_12 : decode cX12_mended 12 = .ok (.isub, 1) := dz_100 (dz_at q10w21_3_0 12)
theorem dX12_mended_13 : decode cX12_mended 13 = .ok (.invokestatic 124, 3) := dz_184 (dz_at q10w21_3_0 13) rfl
theorem dX12_mended_16 : decode cX12_mended 16 = .ok (.ifCond .ne 5, 3) := dz_154 (dz_at q10w21_3_0 16) (by decide +kernel)
theorem dX12_mended_19 : decode cX12_mended 19 = .ok (.iconst (-1), 1) := dz_2 (dz_at q10w21_3_0 19)
theorem dX12_mended_2 : decode cX12_mended 2 = .ok (.putfield 118, 3) := dz_181 (dz_at q10w21_3_0 2) rfl
theorem dX12_mended_20 : decode cX12_mended 20 = .ok (.ireturn, 1) := dz_172 (dz_at q10w21_3_0 20)
theorem dX12_mended_21 : decode cX12_mended 21 = .ok (.aload_n 0, 1) := dz_42 (dz_at q10w21_3_0 21)
theorem dX12_mended_22 : decode cX12_mended 22 = .ok (.iconst 0, 1) := dz_3 (dz_at q10w21_3_0 22)
theorem dX12_mended_23 : decode cX12_mended 23 = .ok (.invokevirtual 302, 3) := dz_182 (dz_at q10w21_3_23 0) rfl
theorem dX12_mended_26 : decode cX12_mended 26 = .ok (.istore_n 2, 1) := dz_61 (dz_at q10w21_3_23 3)
theorem dX12_mended_27 : decode cX12_mended 27 = .ok (.iload_n 2, 1) := dz_28 (dz_at q10w21_3_23 4)
theorem dX12_mended_28 : decode cX12_mended 28 = .ok (.iconst (-1), 1) := dz_2 (dz_at q10w21_3_23 5)
theorem dX12_mended_29 : decode cX12_mended 29 = .ok (.if_icmp .ne 7, 3) := dz_160 (dz_at q10w21_3_23 6) (by decide +kernel)
theorem dX12_mended_32 : decode cX12_mended 32 = .ok (.iconst (-1), 1) := dz_2 (dz_at q10w21_3_23 9)
theorem dX12_mended_33 : decode cX12_mended 33 = .ok (.goto 22, 3) := dz_167 (dz_at q10w21_3_23 10) (by decide +kernel)
theorem dX12_mended_36 : decode cX12_mended 36 = .ok (.aload_n 0, 1) := dz_42 (dz_at q10w21_3_23 13)
theorem dX12_mended_37 : decode cX12_mended 37 = .ok (.iload_n 2, 1) := dz_28 (dz_at q10w21_3_23 14)
theorem dX12_mended_38 : decode cX12_mended 38 = .ok (.bipush 100, 2) := dz_16 (dz_at q10w21_3_23 15) (by decide +kernel)
theorem dX12_mended_40 : decode cX12_mended 40 = .ok (.idiv, 1) := dz_108 (dz_at q10w21_3_23 17)
theorem dX12_mended_41 : decode cX12_mended 41 = .ok (.iload_n 1, 1) := dz_27 (dz_at q10w21_3_23 18)
theorem dX12_mended_42 : decode cX12_mended 42 = .ok (.invokevirtual 296, 3) := dz_182 (dz_at q10w21_3_23 19) rfl
theorem dX12_mended_45 : decode cX12_mended 45 = .ok (.aload_n 0, 1) := dz_42 (dz_at q10w21_3_23 22)
theorem dX12_mended_46 : decode cX12_mended 46 = .ok (.iload_n 2, 1) := dz_28 (dz_at q10w21_3_23 23)
theorem dX12_mended_47 : decode cX12_mended 47 = .ok (.bipush 100, 2) := dz_16 (dz_at q10w21_3_47 0) (by decide +kernel)
theorem dX12_mended_49 : decode cX12_mended 49 = .ok (.irem, 1) := dz_112 (dz_at q10w21_3_47 2)
theorem dX12_mended_5 : decode cX12_mended 5 = .ok (.iload_n 1, 1) := dz_27 (dz_at q10w21_3_0 5)
theorem dX12_mended_50 : decode cX12_mended 50 = .ok (.iload_n 1, 1) := dz_27 (dz_at q10w21_3_47 3)
theorem dX12_mended_51 : decode cX12_mended 51 = .ok (.invokevirtual 296, 3) := dz_182 (dz_at q10w21_3_47 4) rfl
theorem dX12_mended_54 : decode cX12_mended 54 = .ok (.ior, 1) := dz_128 (dz_at q10w21_3_47 7)
theorem dX12_mended_55 : decode cX12_mended 55 = .ok (.ireturn, 1) := dz_172 (dz_at q10w21_3_47 8)
theorem dX12_mended_6 : decode cX12_mended 6 = .ok (.iconst 0, 1) := dz_3 (dz_at q10w21_3_0 6)
theorem dX12_mended_7 : decode cX12_mended 7 = .ok (.aload_n 0, 1) := dz_42 (dz_at q10w21_3_0 7)
theorem dX12_mended_8 : decode cX12_mended 8 = .ok (.getfield 179, 3) := dz_180 (dz_at q10w21_3_0 8) rfl
theorem q10w21_4_0 : (cX12_most.data.toList.drop 0).take 24 = [17, 3, 254, 62, 28, 27, 112, 54, 4, 21, 4, 42, 180, 0, 179, 162, 0, 33, 42, 180, 0, 60, 21, 4] := by decide +kernel
theorem q10w21_4_24 : (cX12_most.data.toList.drop 24).take 24 = [46, 2, 159, 0, 13, 29, 42, 180, 0, 60, 21, 4, 46, 126, 62, 21, 4, 27, 96, 54, 4, 167, 255, 220] := by decide +kernel
theorem q10w21_4_48 : (cX12_most.data.toList.drop 48).take 2 = [29, 172] := by decide +kernel
theorem dX12_most_0 : decode cX12_most 0 = .ok (.sipush 1022, 3) := dz_17 (dz_at q10w21_4_0 0) (by decide +kernel)
theorem dX12_most_11 : decode cX12_most 11 = .ok (.aload_n 0, 1) := dz_42 (dz_at q10w21_4_0 11)
theorem dX12_most_12 : decode cX12_most 12 = .ok (.getfield 179, 3) := dz_180 (dz_at q10w21_4_0 12) rfl
theorem dX12_most_15 : decode cX12_most 15 = .ok (.if_icmp .ge 33, 3) := dz_162 (dz_at q10w21_4_0 15) (by decide +kernel)
theorem dX12_most_18 : decode cX12_most 18 = .ok (.aload_n 0, 1) := dz_42 (dz_at q10w21_4_0 18)
theorem dX12_most_19 : decode cX12_most 19 = .ok (.getfield 60, 3) := dz_180 (dz_at q10w21_4_0 19) rfl
theorem dX12_most_22 : decode cX12_most 22 = .ok (.iload 4, 2) := dz_21 (dz_at q10w21_4_0 22)
theorem dX12_most_24 : decode cX12_most 24 = .ok (.iaload, 1) := dz_46 (dz_at q10w21_4_24 0)
theorem dX12_most_25 : decode cX12_most 25 = .ok (.iconst (-1), 1) := dz_2 (dz_at q10w21_4_24 1)
theorem dX12_most_26 : decode cX12_most 26 = .ok (.if_icmp .eq 13, 3) := dz_159 (dz_at q10w21_4_24 2) (by decide +kernel)
theorem dX12_most_29 : decode cX12_most 29 = .ok (.iload_n 3, 1) := dz_29 (dz_at q10w21_4_24 5)
theorem dX12_most_3 : decode cX12_most 3 = .ok (.istore_n 3, 1) := dz_62 (dz_at q10w21_4_0 3)
theorem dX12_most_30 : decode cX12_most 30 = .ok (.aload_n 0, 1) := dz_42 (dz_at q10w21_4_24 6)
theorem dX12_most_31 : decode cX12_most 31 = .ok (.getfield 60, 3) := dz_180 (dz_at q10w21_4_24 7) rfl
theorem dX12_most_34 : decode cX12_most 34 = .ok (.iload 4, 2) := dz_21 (dz_at q10w21_4_24 10)
theorem dX12_most_36 : decode cX12_most 36 = .ok (.iaload, 1) := dz_46 (dz_at q10w21_4_24 12)
theorem dX12_most_37 : decode cX12_most 37 = .ok (.iand, 1) := dz_126 (dz_at q10w21_4_24 13)
theorem dX12_most_38 : decode cX12_most 38 = .ok (.istore_n 3, 1) := dz_62 (dz_at q10w21_4_24 14)
theorem dX12_most_39 : decode cX12_most 39 = .ok (.iload 4, 2) := dz_21 (dz_at q10w21_4_24 15)
theorem dX12_most_4 : decode cX12_most 4 = .ok (.iload_n 2, 1) := dz_28 (dz_at q10w21_4_0 4)
theorem dX12_most_41 : decode cX12_most 41 = .ok (.iload_n 1, 1) := dz_27 (dz_at q10w21_4_24 17)
theorem dX12_most_42 : decode cX12_most 42 = .ok (.iadd, 1) := dz_96 (dz_at q10w21_4_24 18)
theorem dX12_most_43 : decode cX12_most 43 = .ok (.istore 4, 2) := dz_54 (dz_at q10w21_4_24 19)
theorem dX12_most_45 : decode cX12_most 45 = .ok (.goto (-36), 3) := dz_167 (dz_at q10w21_4_24 21) (by decide +kernel)
theorem dX12_most_48 : decode cX12_most 48 = .ok (.iload_n 3, 1) := dz_29 (dz_at q10w21_4_48 0)
theorem dX12_most_49 : decode cX12_most 49 = .ok (.ireturn, 1) := dz_172 (dz_at q10w21_4_48 1)
theorem dX12_most_5 : decode cX12_most 5 = .ok (.iload_n 1, 1) := dz_27 (dz_at q10w21_4_0 5)
theorem dX12_most_6 : decode cX12_most 6 = .ok (.irem, 1) := dz_112 (dz_at q10w21_4_0 6)
theorem dX12_most_7 : decode cX12_most 7 = .ok (.istore 4, 2) := dz_54 (dz_at q10w21_4_0 7)
theorem dX12_most_9 : decode cX12_most 9 = .ok (.iload 4, 2) := dz_21 (dz_at q10w21_4_0 9)
theorem q10w21_5_0 : (cX12_pairAt.data.toList.drop 0).take 24 = [27, 61, 5, 62, 29, 16, 48, 163, 0, 67, 4, 29, 16, 24, 100, 184, 0, 240, 54, 4, 5, 21, 4, 104] := by decide +kernel
theorem q10w21_5_24 : (cX12_pairAt.data.toList.drop 24).take 24 = [29, 163, 0, 43, 42, 21, 4, 29, 21, 4, 100, 182, 1, 43, 154, 0, 6, 167, 0, 21, 28, 154, 0, 14] := by decide +kernel
theorem q10w21_5_48 : (cX12_pairAt.data.toList.drop 48).take 23 = [16, 100, 21, 4, 104, 29, 96, 21, 4, 100, 172, 132, 2, 255, 132, 4, 1, 167, 255, 211, 132, 3, 1] := by decide +kernel
theorem q10w21_5_71 : (cX12_pairAt.data.toList.drop 71).take 5 = [167, 255, 189, 2, 172] := by decide +kernel
theorem dX12_pairAt_0 : decode cX12_pairAt 0 = .ok (.iload_n 1, 1) := dz_27 (dz_at q10w21_5_0 0)
theorem dX12_pairAt_1 : decode cX12_pairAt 1 = .ok (.istore_n 2, 1) := dz_61 (dz_at q10w21_5_0 1)
theorem dX12_pairAt_10 : decode cX12_pairAt 10 = .ok (.iconst 1, 1) := dz_4 (dz_at q10w21_5_0 10)
theorem dX12_pairAt_11 : decode cX12_pairAt 11 = .ok (.iload_n 3, 1) := dz_29 (dz_at q10w21_5_0 11)
theorem dX12_pairAt_12 : decode cX12_pairAt 12 = .ok (.bipush 24, 2) := dz_16 (dz_at q10w21_5_0 12) (by decide +kernel)
theorem dX12_pairAt_14 : decode cX12_pairAt 14 = .ok (.isub, 1) := dz_100 (dz_at q10w21_5_0 14)
theorem dX12_pairAt_15 : decode cX12_pairAt 15 = .ok (.invokestatic 240, 3) := dz_184 (dz_at q10w21_5_0 15) rfl
theorem dX12_pairAt_18 : decode cX12_pairAt 18 = .ok (.istore 4, 2) := dz_54 (dz_at q10w21_5_0 18)
theorem dX12_pairAt_2 : decode cX12_pairAt 2 = .ok (.iconst 2, 1) := dz_5 (dz_at q10w21_5_0 2)
theorem dX12_pairAt_20 : decode cX12_pairAt 20 = .ok (.iconst 2, 1) := dz_5 (dz_at q10w21_5_0 20)
theorem dX12_pairAt_21 : decode cX12_pairAt 21 = .ok (.iload 4, 2) := dz_21 (dz_at q10w21_5_0 21)
theorem dX12_pairAt_23 : decode cX12_pairAt 23 = .ok (.imul, 1) := dz_104 (dz_at q10w21_5_0 23)
theorem dX12_pairAt_24 : decode cX12_pairAt 24 = .ok (.iload_n 3, 1) := dz_29 (dz_at q10w21_5_24 0)
theorem dX12_pairAt_25 : decode cX12_pairAt 25 = .ok (.if_icmp .gt 43, 3) := dz_163 (dz_at q10w21_5_24 1) (by decide +kernel)
theorem dX12_pairAt_28 : decode cX12_pairAt 28 = .ok (.aload_n 0, 1) := dz_42 (dz_at q10w21_5_24 4)
theorem dX12_pairAt_29 : decode cX12_pairAt 29 = .ok (.iload 4, 2) := dz_21 (dz_at q10w21_5_24 5)
theorem dX12_pairAt_3 : decode cX12_pairAt 3 = .ok (.istore_n 3, 1) := dz_62 (dz_at q10w21_5_0 3)
theorem dX12_pairAt_31 : decode cX12_pairAt 31 = .ok (.iload_n 3, 1) := dz_29 (dz_at q10w21_5_24 7)
theorem dX12_pairAt_32 : decode cX12_pairAt 32 = .ok (.iload 4, 2) := dz_21 (dz_at q10w21_5_24 8)
theorem dX12_pairAt_34 : decode cX12_pairAt 34 = .ok (.isub, 1) := dz_100 (dz_at q10w21_5_24 10)
theorem dX12_pairAt_35 : decode cX12_pairAt 35 = .ok (.invokevirtual 299, 3) := dz_182 (dz_at q10w21_5_24 11) rfl
theorem dX12_pairAt_38 : decode cX12_pairAt 38 = .ok (.ifCond .ne 6, 3) := dz_154 (dz_at q10w21_5_24 14) (by decide +kernel)
theorem dX12_pairAt_4 : decode cX12_pairAt 4 = .ok (.iload_n 3, 1) := dz_29 (dz_at q10w21_5_0 4)
theorem dX12_pairAt_41 : decode cX12_pairAt 41 = .ok (.goto 21, 3) := dz_167 (dz_at q10w21_5_24 17) (by decide +kernel)
theorem dX12_pairAt_44 : decode cX12_pairAt 44 = .ok (.iload_n 2, 1) := dz_28 (dz_at q10w21_5_24 20)
theorem dX12_pairAt_45 : decode cX12_pairAt 45 = .ok (.ifCond .ne 14, 3) := dz_154 (dz_at q10w21_5_24 21) (by decide +kernel)
theorem dX12_pairAt_48 : decode cX12_pairAt 48 = .ok (.bipush 100, 2) := dz_16 (dz_at q10w21_5_48 0) (by decide +kernel)
theorem dX12_pairAt_5 : decode cX12_pairAt 5 = .ok (.bipush 48, 2) := dz_16 (dz_at q10w21_5_0 5) (by decide +kernel)
theorem dX12_pairAt_50 : decode cX12_pairAt 50 = .ok (.iload 4, 2) := dz_21 (dz_at q10w21_5_48 2)
theorem dX12_pairAt_52 : decode cX12_pairAt 52 = .ok (.imul, 1) := dz_104 (dz_at q10w21_5_48 4)
theorem dX12_pairAt_53 : decode cX12_pairAt 53 = .ok (.iload_n 3, 1) := dz_29 (dz_at q10w21_5_48 5)
theorem dX12_pairAt_54 : decode cX12_pairAt 54 = .ok (.iadd, 1) := dz_96 (dz_at q10w21_5_48 6)
theorem dX12_pairAt_55 : decode cX12_pairAt 55 = .ok (.iload 4, 2) := dz_21 (dz_at q10w21_5_48 7)
theorem dX12_pairAt_57 : decode cX12_pairAt 57 = .ok (.isub, 1) := dz_100 (dz_at q10w21_5_48 9)
theorem dX12_pairAt_58 : decode cX12_pairAt 58 = .ok (.ireturn, 1) := dz_172 (dz_at q10w21_5_48 10)
theorem dX12_pairAt_59 : decode cX12_pairAt 59 = .ok (.iinc 2 (-1), 3) := dz_132 (dz_at q10w21_5_48 11) (by decide +kernel)
theorem dX12_pairAt_62 : decode cX12_pairAt 62 = .ok (.iinc 4 1, 3) := dz_132 (dz_at q10w21_5_48 14) (by decide +kernel)
theorem dX12_pairAt_65 : decode cX12_pairAt 65 = .ok (.goto (-45), 3) := dz_167 (dz_at q10w21_5_48 17) (by decide +kernel)
theorem dX12_pairAt_68 : decode cX12_pairAt 68 = .ok (.iinc 3 1, 3) := dz_132 (dz_at q10w21_5_48 20) (by decide +kernel)
theorem dX12_pairAt_7 : decode cX12_pairAt 7 = .ok (.if_icmp .gt 67, 3) := dz_163 (dz_at q10w21_5_0 7) (by decide +kernel)
theorem dX12_pairAt_71 : decode cX12_pairAt 71 = .ok (.goto (-67), 3) := dz_167 (dz_at q10w21_5_71 0) (by decide +kernel)
theorem dX12_pairAt_74 : decode cX12_pairAt 74 = .ok (.iconst (-1), 1) := dz_2 (dz_at q10w21_5_71 3)
theorem dX12_pairAt_75 : decode cX12_pairAt 75 = .ok (.ireturn, 1) := dz_172 (dz_at q10w21_5_71 4)
theorem q10w21_6_0 : (cX12_pair.data.toList.drop 0).take 19 = [42, 3, 181, 0, 118, 27, 156, 0, 7, 2, 167, 0, 8, 42, 27, 182, 1, 46, 172] := by decide +kernel
theorem dX12_pair_0 : decode cX12_pair 0 = .ok (.aload_n 0, 1) := dz_42 (dz_at q10w21_6_0 0)
theorem dX12_pair_1 : decode cX12_pair 1 = .ok (.iconst 0, 1) := dz_3 (dz_at q10w21_6_0 1)
theorem dX12_pair_10 : decode cX12_pair 10 = .ok (.goto 8, 3) := dz_167 (dz_at q10w21_6_0 10) (by decide +kernel)
theorem dX12_pair_13 : decode cX12_pair 13 = .ok (.aload_n 0, 1) := dz_42 (dz_at q10w21_6_0 13)
theorem dX12_pair_14 : decode cX12_pair 14 = .ok (.iload_n 1, 1) := dz_27 (dz_at q10w21_6_0 14)
theorem dX12_pair_15 : decode cX12_pair 15 = .ok (.invokevirtual 302, 3) := dz_182 (dz_at q10w21_6_0 15) rfl
theorem dX12_pair_18 : decode cX12_pair 18 = .ok (.ireturn, 1) := dz_172 (dz_at q10w21_6_0 18)
theorem dX12_pair_2 : decode cX12_pair 2 = .ok (.putfield 118, 3) := dz_181 (dz_at q10w21_6_0 2) rfl
theorem dX12_pair_5 : decode cX12_pair 5 = .ok (.iload_n 1, 1) := dz_27 (dz_at q10w21_6_0 5)
theorem dX12_pair_6 : decode cX12_pair 6 = .ok (.ifCond .ge 7, 3) := dz_156 (dz_at q10w21_6_0 6) (by decide +kernel)
theorem dX12_pair_9 : decode cX12_pair 9 = .ok (.iconst (-1), 1) := dz_2 (dz_at q10w21_6_0 9)
theorem q10w21_7_0 : (cX12_span.data.toList.drop 0).take 24 = [42, 3, 181, 0, 118, 27, 61, 4, 62, 29, 16, 24, 163, 0, 33, 28, 155, 0, 29, 42, 29, 182, 1, 37] := by decide +kernel
theorem q10w21_7_24 : (cX12_span.data.toList.drop 24).take 23 = [154, 0, 6, 167, 0, 12, 28, 154, 0, 5, 29, 172, 132, 2, 255, 132, 3, 1, 167, 255, 223, 2, 172] := by decide +kernel
theorem dX12_span_0 : decode cX12_span 0 = .ok (.aload_n 0, 1) := dz_42 (dz_at q10w21_7_0 0)
theorem dX12_span_1 : decode cX12_span 1 = .ok (.iconst 0, 1) := dz_3 (dz_at q10w21_7_0 1)
theorem dX12_span_10 : decode cX12_span 10 = .ok (.bipush 24, 2) := dz_16 (dz_at q10w21_7_0 10) (by decide +kernel)
theorem dX12_span_12 : decode cX12_span 12 = .ok (.if_icmp .gt 33, 3) := dz_163 (dz_at q10w21_7_0 12) (by decide +kernel)
theorem dX12_span_15 : decode cX12_span 15 = .ok (.iload_n 2, 1) := dz_28 (dz_at q10w21_7_0 15)
theorem dX12_span_16 : decode cX12_span 16 = .ok (.ifCond .lt 29, 3) := dz_155 (dz_at q10w21_7_0 16) (by decide +kernel)
theorem dX12_span_19 : decode cX12_span 19 = .ok (.aload_n 0, 1) := dz_42 (dz_at q10w21_7_0 19)
theorem dX12_span_2 : decode cX12_span 2 = .ok (.putfield 118, 3) := dz_181 (dz_at q10w21_7_0 2) rfl
theorem dX12_span_20 : decode cX12_span 20 = .ok (.iload_n 3, 1) := dz_29 (dz_at q10w21_7_0 20)
theorem dX12_span_21 : decode cX12_span 21 = .ok (.invokevirtual 293, 3) := dz_182 (dz_at q10w21_7_0 21) rfl
theorem dX12_span_24 : decode cX12_span 24 = .ok (.ifCond .ne 6, 3) := dz_154 (dz_at q10w21_7_24 0) (by decide +kernel)
theorem dX12_span_27 : decode cX12_span 27 = .ok (.goto 12, 3) := dz_167 (dz_at q10w21_7_24 3) (by decide +kernel)
theorem dX12_span_30 : decode cX12_span 30 = .ok (.iload_n 2, 1) := dz_28 (dz_at q10w21_7_24 6)
theorem dX12_span_31 : decode cX12_span 31 = .ok (.ifCond .ne 5, 3) := dz_154 (dz_at q10w21_7_24 7) (by decide +kernel)
theorem dX12_span_34 : decode cX12_span 34 = .ok (.iload_n 3, 1) := dz_29 (dz_at q10w21_7_24 10)
theorem dX12_span_35 : decode cX12_span 35 = .ok (.ireturn, 1) := dz_172 (dz_at q10w21_7_24 11)
theorem dX12_span_36 : decode cX12_span 36 = .ok (.iinc 2 (-1), 3) := dz_132 (dz_at q10w21_7_24 12) (by decide +kernel)
theorem dX12_span_39 : decode cX12_span 39 = .ok (.iinc 3 1, 3) := dz_132 (dz_at q10w21_7_24 15) (by decide +kernel)
theorem dX12_span_42 : decode cX12_span 42 = .ok (.goto (-33), 3) := dz_167 (dz_at q10w21_7_24 18) (by decide +kernel)
theorem dX12_span_45 : decode cX12_span 45 = .ok (.iconst (-1), 1) := dz_2 (dz_at q10w21_7_24 21)
theorem dX12_span_46 : decode cX12_span 46 = .ok (.ireturn, 1) := dz_172 (dz_at q10w21_7_24 22)
theorem dX12_span_5 : decode cX12_span 5 = .ok (.iload_n 1, 1) := dz_27 (dz_at q10w21_7_0 5)
theorem dX12_span_6 : decode cX12_span 6 = .ok (.istore_n 2, 1) := dz_61 (dz_at q10w21_7_0 6)
theorem dX12_span_7 : decode cX12_span 7 = .ok (.iconst 1, 1) := dz_4 (dz_at q10w21_7_0 7)
theorem dX12_span_8 : decode cX12_span 8 = .ok (.istore_n 3, 1) := dz_62 (dz_at q10w21_7_0 8)
theorem dX12_span_9 : decode cX12_span 9 = .ok (.iload_n 3, 1) := dz_29 (dz_at q10w21_7_0 9)
theorem q10w21_8_0 : (cX12_take.data.toList.drop 0).take 23 = [42, 3, 181, 0, 118, 27, 3, 19, 1, 6, 184, 0, 124, 153, 0, 13, 28, 3, 16, 60, 184, 0, 124] := by decide +kernel
theorem q10w21_8_23 : (cX12_take.data.toList.drop 23).take 22 = [154, 0, 5, 3, 172, 3, 62, 29, 28, 162, 0, 23, 42, 180, 0, 60, 29, 42, 27, 29, 96, 133] := by decide +kernel
theorem q10w21_8_45 : (cX12_take.data.toList.drop 45).take 17 = [182, 0, 229, 79, 132, 3, 1, 167, 255, 234, 42, 28, 181, 0, 179, 4, 172] := by decide +kernel
theorem dX12_take_0 : decode cX12_take 0 = .ok (.aload_n 0, 1) := dz_42 (dz_at q10w21_8_0 0)
theorem dX12_take_1 : decode cX12_take 1 = .ok (.iconst 0, 1) := dz_3 (dz_at q10w21_8_0 1)
theorem dX12_take_10 : decode cX12_take 10 = .ok (.invokestatic 124, 3) := dz_184 (dz_at q10w21_8_0 10) rfl
theorem dX12_take_13 : decode cX12_take 13 = .ok (.ifCond .eq 13, 3) := dz_153 (dz_at q10w21_8_0 13) (by decide +kernel)
theorem dX12_take_16 : decode cX12_take 16 = .ok (.iload_n 2, 1) := dz_28 (dz_at q10w21_8_0 16)
theorem dX12_take_17 : decode cX12_take 17 = .ok (.iconst 0, 1) := dz_3 (dz_at q10w21_8_0 17)
theorem dX12_take_18 : decode cX12_take 18 = .ok (.bipush 60, 2) := dz_16 (dz_at q10w21_8_0 18) (by decide +kernel)
theorem dX12_take_2 : decode cX12_take 2 = .ok (.putfield 118, 3) := dz_181 (dz_at q10w21_8_0 2) rfl
theorem dX12_take_20 : decode cX12_take 20 = .ok (.invokestatic 124, 3) := dz_184 (dz_at q10w21_8_0 20) rfl
theorem dX12_take_23 : decode cX12_take 23 = .ok (.ifCond .ne 5, 3) := dz_154 (dz_at q10w21_8_23 0) (by decide +kernel)
theorem dX12_take_26 : decode cX12_take 26 = .ok (.iconst 0, 1) := dz_3 (dz_at q10w21_8_23 3)
theorem dX12_take_27 : decode cX12_take 27 = .ok (.ireturn, 1) := dz_172 (dz_at q10w21_8_23 4)
theorem dX12_take_28 : decode cX12_take 28 = .ok (.iconst 0, 1) := dz_3 (dz_at q10w21_8_23 5)
theorem dX12_take_29 : decode cX12_take 29 = .ok (.istore_n 3, 1) := dz_62 (dz_at q10w21_8_23 6)
theorem dX12_take_30 : decode cX12_take 30 = .ok (.iload_n 3, 1) := dz_29 (dz_at q10w21_8_23 7)
theorem dX12_take_31 : decode cX12_take 31 = .ok (.iload_n 2, 1) := dz_28 (dz_at q10w21_8_23 8)
theorem dX12_take_32 : decode cX12_take 32 = .ok (.if_icmp .ge 23, 3) := dz_162 (dz_at q10w21_8_23 9) (by decide +kernel)
theorem dX12_take_35 : decode cX12_take 35 = .ok (.aload_n 0, 1) := dz_42 (dz_at q10w21_8_23 12)
theorem dX12_take_36 : decode cX12_take 36 = .ok (.getfield 60, 3) := dz_180 (dz_at q10w21_8_23 13) rfl
theorem dX12_take_39 : decode cX12_take 39 = .ok (.iload_n 3, 1) := dz_29 (dz_at q10w21_8_23 16)
theorem dX12_take_40 : decode cX12_take 40 = .ok (.aload_n 0, 1) := dz_42 (dz_at q10w21_8_23 17)
theorem dX12_take_41 : decode cX12_take 41 = .ok (.iload_n 1, 1) := dz_27 (dz_at q10w21_8_23 18)
theorem dX12_take_42 : decode cX12_take 42 = .ok (.iload_n 3, 1) := dz_29 (dz_at q10w21_8_23 19)
theorem dX12_take_43 : decode cX12_take 43 = .ok (.iadd, 1) := dz_96 (dz_at q10w21_8_23 20)
theorem dX12_take_44 : decode cX12_take 44 = .ok (.i2l, 1) := dz_133 (dz_at q10w21_8_23 21)
theorem dX12_take_45 : decode cX12_take 45 = .ok (.invokevirtual 229, 3) := dz_182 (dz_at q10w21_8_45 0) rfl
theorem dX12_take_48 : decode cX12_take 48 = .ok (.iastore, 1) := dz_79 (dz_at q10w21_8_45 3)
theorem dX12_take_49 : decode cX12_take 49 = .ok (.iinc 3 1, 3) := dz_132 (dz_at q10w21_8_45 4) (by decide +kernel)
theorem dX12_take_5 : decode cX12_take 5 = .ok (.iload_n 1, 1) := dz_27 (dz_at q10w21_8_0 5)
theorem dX12_take_52 : decode cX12_take 52 = .ok (.goto (-22), 3) := dz_167 (dz_at q10w21_8_45 7) (by decide +kernel)
theorem dX12_take_55 : decode cX12_take 55 = .ok (.aload_n 0, 1) := dz_42 (dz_at q10w21_8_45 10)
theorem dX12_take_56 : decode cX12_take 56 = .ok (.iload_n 2, 1) := dz_28 (dz_at q10w21_8_45 11)
theorem dX12_take_57 : decode cX12_take 57 = .ok (.putfield 179, 3) := dz_181 (dz_at q10w21_8_45 12) rfl
theorem dX12_take_6 : decode cX12_take 6 = .ok (.iconst 0, 1) := dz_3 (dz_at q10w21_8_0 6)
theorem dX12_take_60 : decode cX12_take 60 = .ok (.iconst 1, 1) := dz_4 (dz_at q10w21_8_45 15)
theorem dX12_take_61 : decode cX12_take 61 = .ok (.ireturn, 1) := dz_172 (dz_at q10w21_8_45 16)
theorem dX12_take_7 : decode cX12_take 7 = .ok (.ldc_w 262, 3) := dz_19 (dz_at q10w21_8_0 7) rfl
theorem q10w21_9_0 : (cX12_tape.data.toList.drop 0).take 23 = [42, 3, 181, 0, 118, 27, 2, 159, 0, 10, 27, 184, 0, 237, 153, 0, 12, 42, 180, 0, 179, 16, 60] := by decide +kernel
theorem q10w21_9_23 : (cX12_tape.data.toList.drop 23).take 22 = [160, 0, 5, 2, 172, 42, 180, 0, 60, 42, 180, 0, 179, 27, 79, 42, 89, 180, 0, 179, 4, 96] := by decide +kernel
theorem q10w21_9_45 : (cX12_tape.data.toList.drop 45).take 8 = [181, 0, 179, 42, 180, 0, 179, 172] := by decide +kernel
theorem dX12_tape_0 : decode cX12_tape 0 = .ok (.aload_n 0, 1) := dz_42 (dz_at q10w21_9_0 0)
theorem dX12_tape_1 : decode cX12_tape 1 = .ok (.iconst 0, 1) := dz_3 (dz_at q10w21_9_0 1)
theorem dX12_tape_10 : decode cX12_tape 10 = .ok (.iload_n 1, 1) := dz_27 (dz_at q10w21_9_0 10)
theorem dX12_tape_11 : decode cX12_tape 11 = .ok (.invokestatic 237, 3) := dz_184 (dz_at q10w21_9_0 11) rfl
theorem dX12_tape_14 : decode cX12_tape 14 = .ok (.ifCond .eq 12, 3) := dz_153 (dz_at q10w21_9_0 14) (by decide +kernel)
theorem dX12_tape_17 : decode cX12_tape 17 = .ok (.aload_n 0, 1) := dz_42 (dz_at q10w21_9_0 17)
theorem dX12_tape_18 : decode cX12_tape 18 = .ok (.getfield 179, 3) := dz_180 (dz_at q10w21_9_0 18) rfl
theorem dX12_tape_2 : decode cX12_tape 2 = .ok (.putfield 118, 3) := dz_181 (dz_at q10w21_9_0 2) rfl
theorem dX12_tape_21 : decode cX12_tape 21 = .ok (.bipush 60, 2) := dz_16 (dz_at q10w21_9_0 21) (by decide +kernel)
theorem dX12_tape_23 : decode cX12_tape 23 = .ok (.if_icmp .ne 5, 3) := dz_160 (dz_at q10w21_9_23 0) (by decide +kernel)
theorem dX12_tape_26 : decode cX12_tape 26 = .ok (.iconst (-1), 1) := dz_2 (dz_at q10w21_9_23 3)
theorem dX12_tape_27 : decode cX12_tape 27 = .ok (.ireturn, 1) := dz_172 (dz_at q10w21_9_23 4)
theorem dX12_tape_28 : decode cX12_tape 28 = .ok (.aload_n 0, 1) := dz_42 (dz_at q10w21_9_23 5)
theorem dX12_tape_29 : decode cX12_tape 29 = .ok (.getfield 60, 3) := dz_180 (dz_at q10w21_9_23 6) rfl
theorem dX12_tape_32 : decode cX12_tape 32 = .ok (.aload_n 0, 1) := dz_42 (dz_at q10w21_9_23 9)
theorem dX12_tape_33 : decode cX12_tape 33 = .ok (.getfield 179, 3) := dz_180 (dz_at q10w21_9_23 10) rfl
theorem dX12_tape_36 : decode cX12_tape 36 = .ok (.iload_n 1, 1) := dz_27 (dz_at q10w21_9_23 13)
theorem dX12_tape_37 : decode cX12_tape 37 = .ok (.iastore, 1) := dz_79 (dz_at q10w21_9_23 14)
theorem dX12_tape_38 : decode cX12_tape 38 = .ok (.aload_n 0, 1) := dz_42 (dz_at q10w21_9_23 15)
theorem dX12_tape_39 : decode cX12_tape 39 = .ok (.dup, 1) := dz_89 (dz_at q10w21_9_23 16)
theorem dX12_tape_40 : decode cX12_tape 40 = .ok (.getfield 179, 3) := dz_180 (dz_at q10w21_9_23 17) rfl
theorem dX12_tape_43 : decode cX12_tape 43 = .ok (.iconst 1, 1) := dz_4 (dz_at q10w21_9_23 20)
theorem dX12_tape_44 : decode cX12_tape 44 = .ok (.iadd, 1) := dz_96 (dz_at q10w21_9_23 21)
theorem dX12_tape_45 : decode cX12_tape 45 = .ok (.putfield 179, 3) := dz_181 (dz_at q10w21_9_45 0) rfl
theorem dX12_tape_48 : decode cX12_tape 48 = .ok (.aload_n 0, 1) := dz_42 (dz_at q10w21_9_45 3)
theorem dX12_tape_49 : decode cX12_tape 49 = .ok (.getfield 179, 3) := dz_180 (dz_at q10w21_9_45 4) rfl
theorem dX12_tape_5 : decode cX12_tape 5 = .ok (.iload_n 1, 1) := dz_27 (dz_at q10w21_9_0 5)
theorem dX12_tape_52 : decode cX12_tape 52 = .ok (.ireturn, 1) := dz_172 (dz_at q10w21_9_45 7)
theorem dX12_tape_6 : decode cX12_tape 6 = .ok (.iconst (-1), 1) := dz_2 (dz_at q10w21_9_0 6)
theorem dX12_tape_7 : decode cX12_tape 7 = .ok (.if_icmp .eq 10, 3) := dz_159 (dz_at q10w21_9_0 7) (by decide +kernel)
theorem q10w21_10_0 : (cX12_wipe.data.toList.drop 0).take 17 = [42, 3, 181, 0, 118, 42, 180, 0, 179, 60, 42, 3, 181, 0, 179, 27, 172] := by decide +kernel
theorem dX12_wipe_0 : decode cX12_wipe 0 = .ok (.aload_n 0, 1) := dz_42 (dz_at q10w21_10_0 0)
theorem dX12_wipe_1 : decode cX12_wipe 1 = .ok (.iconst 0, 1) := dz_3 (dz_at q10w21_10_0 1)
theorem dX12_wipe_10 : decode cX12_wipe 10 = .ok (.aload_n 0, 1) := dz_42 (dz_at q10w21_10_0 10)
theorem dX12_wipe_11 : decode cX12_wipe 11 = .ok (.iconst 0, 1) := dz_3 (dz_at q10w21_10_0 11)
theorem dX12_wipe_12 : decode cX12_wipe 12 = .ok (.putfield 179, 3) := dz_181 (dz_at q10w21_10_0 12) rfl
theorem dX12_wipe_15 : decode cX12_wipe 15 = .ok (.iload_n 1, 1) := dz_27 (dz_at q10w21_10_0 15)
theorem dX12_wipe_16 : decode cX12_wipe 16 = .ok (.ireturn, 1) := dz_172 (dz_at q10w21_10_0 16)
theorem dX12_wipe_2 : decode cX12_wipe 2 = .ok (.putfield 118, 3) := dz_181 (dz_at q10w21_10_0 2) rfl
theorem dX12_wipe_5 : decode cX12_wipe 5 = .ok (.aload_n 0, 1) := dz_42 (dz_at q10w21_10_0 5)
theorem dX12_wipe_6 : decode cX12_wipe 6 = .ok (.getfield 179, 3) := dz_180 (dz_at q10w21_10_0 6) rfl
theorem dX12_wipe_9 : decode cX12_wipe 9 = .ok (.istore_n 1, 1) := dz_60 (dz_at q10w21_10_0 9)
theorem dm_X12_isSpan : yX12_isSpan.cls = RX12 ∧ yX12_isSpan.cls ≠ "java/lang/invoke/MethodHandle" ∧ yX12_isSpan.cls ≠ "java/lang/invoke/VarHandle" ∧ (parseMethodDescriptor yX12_isSpan.desc).map (fun d => d.parameters.length) = some 1 := by decide +kernel
theorem dm_X12_most : yX12_most.cls = RX12 ∧ yX12_most.cls ≠ "java/lang/invoke/MethodHandle" ∧ yX12_most.cls ≠ "java/lang/invoke/VarHandle" ∧ (parseMethodDescriptor yX12_most.desc).map (fun d => d.parameters.length) = some 2 := by decide +kernel
theorem dm_X12_isPair : yX12_isPair.cls = RX12 ∧ yX12_isPair.cls ≠ "java/lang/invoke/MethodHandle" ∧ yX12_isPair.cls ≠ "java/lang/invoke/VarHandle" ∧ (parseMethodDescriptor yX12_isPair.desc).map (fun d => d.parameters.length) = some 2 := by decide +kernel
theorem dm_X12_pairAt : yX12_pairAt.cls = RX12 ∧ yX12_pairAt.cls ≠ "java/lang/invoke/MethodHandle" ∧ yX12_pairAt.cls ≠ "java/lang/invoke/VarHandle" ∧ (parseMethodDescriptor yX12_pairAt.desc).map (fun d => d.parameters.length) = some 1 := by decide +kernel
set_option maxRecDepth 100000 in
def wR_tape (a0 : Int) (M : zM) (Q : Int → zM → Prop) : Prop := (∀ M1 : zM, M1 = zup M 0 35 0 → pJ0 (fun J17 => ((sI a0) = (-1) → J17) ∧ ((sI a0) ≠ (-1) → wR_areSounds a0 M1 (fun z19 => (z19 = 0 → Q (-1) M1) ∧ (z19 ≠ 0 → J17)))) (((sI (M1 0 24)) ≠ 60 → ((0 ≤ (sI (M1 0 24)) ∧ (sI (M1 0 24)) < 60) ∧ (∀ M13 : zM, M13 = zup M1 15 (sI (M1 0 24)).toNat a0 → (∀ M15 : zM, M15 = zup M13 0 24 ((M13 0 24) + 1) → Q (sI (M15 0 24)) M15)))) ∧ ((sI (M1 0 24)) = 60 → Q (-1) M1)))
set_option maxHeartbeats 4000000 in
set_option maxRecDepth 100000 in
theorem cR_tape (l : Launch) (D : va_G) (dA : Nat → ClassId) (b : Nat) (M : zM) (a0 : Int)  (Q : Int → zM → Prop) (h : wR_tape a0 M Q) : Met l yX12_tape (.code yX12_tape cX12_tape 2 (some .int) :: zt) (z_rm 1) (va_Pc [.ref (b + 0), .int (iI a0)] (wPre D dA vwCl (z_tys dA) wR nR b M)) (va_Qi (wQi Q) (zB D dA vwCl wR nR b) (zA nR b)) 0 0 (zA nR b) := by
  unfold wR_tape at h
  refine Met.ofW (cc := cX12_tape) (maxL := 2) (ret := (some .int)) (by decide) rfl ?_
  intro p e s m args below meth c s₁ B hml hv
  obtain ⟨hargs, hS, hK⟩ := hv
  have hx := B.exec
  have hb := B.bytes
  have hr := B.returns
  have hts := atoms_spec (ws := .code yX12_tape cX12_tape 2 (some .int) :: zt) B.pre
  have hown : s.vm.findClass RX12 = some m.cls := findClass_of_methodNamed B.named
  have hlocks := B.notSynchronized
  have hS0 : va_S (zA nR b) s.heap s.heap [] := va_S.rf
  have hl := lv_entry ([.ref (b + 0), .int (iI a0)]) (n := 2) (Nat.le_of_ble_eq_true rfl)
  have hent : entryFrame m args 2 = F0 m 0 ((lg_sl ([.ref (b + 0), .int (iI a0)]) ++ List.replicate (2 - (lg_sl ([.ref (b + 0), .int (iI a0)])).length) Slot.unset).toArray) [] := by rw [hargs]; exact lg_entry_eq m ([.ref (b + 0), .int (iI a0)]) 2
  rw [hent]
  generalize (lg_sl ([.ref (b + 0), .int (iI a0)]) ++ List.replicate (2 - (lg_sl ([.ref (b + 0), .int (iI a0)])).length) Slot.unset).toArray = ls at hl ⊢
  have hl : lv_has ls 2 [(0, .ref (b + 0)), (1, .int (iI a0))] := hl
  refine lv_aload_n hx hb dX12_tape_0 rfl (lv_at hl 0 rfl) ?_
  refine z_iconst hx hb dX12_tape_1 ?_
  refine w_puti hx hb hts (z_memU u12) tyX12 tyX12_ok nmX12 hown hK.1 hS hS0 f12_35 (by decide) (zkd_of (rfl : zcd wR 0 = 50) rfl) (Or.inl (hts _ (z_mem k979))) rfl (z := 0) (by decide +kernel) dX12_tape_2 (fun H locs hS hS0 => ?_)
  obtain ⟨M1, e2⟩ : ∃ M1 : zM, M1 = zup M 0 35 0 := ⟨_, rfl⟩
  rw [← e2] at hS
  have h := h M1 e2
  refine lv_iload_n hx hb dX12_tape_5 rfl (lv_at hl 1 rfl) ?_
  refine z_iconst hx hb dX12_tape_6 ?_
  obtain ⟨J17, B10, h⟩ := h
  have L9 : ∀ (H : Heap) (locs : List Loc) (ls : Array Slot), J17 → zR D dA vwCl wR nR b M1 H → va_S (zA nR b) s.heap H locs → lv_has ls 2 [(0, .ref (b + 0)), (1, .int (iI a0))] → W p l e (headSpec (.code yX12_tape cX12_tape 2 (some .int) :: zt) (z_rm 1)).room s m args below meth c H locs 0 0 (MQ below (va_Qi (wQi Q) (zB D dA vwCl wR nR b) (zA nR b)) args s 0 0 (zA nR b)) (F0 m 17 ls []) := by
    intro  H locs ls h hS hS0 hl
    have h := B10 h
    refine lv_aload_n hx hb dX12_tape_17 rfl (lv_at hl 0 rfl) ?_
    refine w_geti hx hb hts (z_memU u12) hown hK.1 hS f12_24 (by decide) (zkd_of (rfl : zcd wR 0 = 50) rfl) (Or.inl (hts _ (z_mem k968))) dX12_tape_18 ?_
    refine z_bipush hx hb (by decide) dX12_tape_21 ?_
    refine w_icmp_ne (tgt := 28) hx hb rfl (sI_of (by decide)) dX12_tape_23 (by decide) (fun c11 => ?_) (fun c11 => ?_)
    · skip
      have h := h.1 c11
      refine lv_aload_n hx hb dX12_tape_28 rfl (lv_at hl 0 rfl) ?_
      refine w_getr (j2 := 15) hx hb hts (z_memU u12) hown hK.1 hS f12_23 (by decide) (zkd_of (rfl : zcd wR 0 = 50) rfl) (zrf_of (rfl : zcd wR 0 = 50) rfl) (Or.inl (hts _ (z_mem k967))) dX12_tape_29 ?_
      refine lv_aload_n hx hb dX12_tape_32 rfl (lv_at hl 0 rfl) ?_
      refine w_geti hx hb hts (z_memU u12) hown hK.1 hS f12_24 (by decide) (zkd_of (rfl : zcd wR 0 = 50) rfl) (Or.inl (hts _ (z_mem k968))) dX12_tape_33 ?_
      refine lv_iload_n hx hb dX12_tape_36 rfl (lv_at hl 1 rfl) ?_
      obtain ⟨o12, h⟩ := h
      refine w_iast (z := a0) (n := 60) (i := (sI (M1 0 24))) hx hb hK.1 (t0 := 0) rfl hS hS0 (by decide) (zkd_of (rfl : zcd wR 15 = 65) rfl) (zln_of (rfl : zcd wR 15 = 65) rfl) rfl o12.1 o12.2 (by decide) dX12_tape_37 (fun H locs hS hS0 => ?_)
      obtain ⟨M13, e14⟩ : ∃ M13 : zM, M13 = zup M1 15 (sI (M1 0 24)).toNat a0 := ⟨_, rfl⟩
      rw [← e14] at hS
      have h := h M13 e14
      refine lv_aload_n hx hb dX12_tape_38 rfl (lv_at hl 0 rfl) ?_
      refine lv_dup hx hb dX12_tape_39 rfl ?_
      refine w_geti hx hb hts (z_memU u12) hown hK.1 hS f12_24 (by decide) (zkd_of (rfl : zcd wR 0 = 50) rfl) (Or.inl (hts _ (z_mem k968))) dX12_tape_40 ?_
      refine z_iconst hx hb dX12_tape_43 ?_
      refine z_iadd hx hb dX12_tape_44 ?_
      refine w_puti hx hb hts (z_memU u12) tyX12 tyX12_ok nmX12 hown hK.1 hS hS0 f12_24 (by decide) (zkd_of (rfl : zcd wR 0 = 50) rfl) (Or.inl (hts _ (z_mem k968))) rfl (z := ((M13 0 24) + 1)) (by decide +kernel) dX12_tape_45 (fun H locs hS hS0 => ?_)
      obtain ⟨M15, e16⟩ : ∃ M15 : zM, M15 = zup M13 0 24 ((M13 0 24) + 1) := ⟨_, rfl⟩
      rw [← e16] at hS
      have h := h M15 e16
      refine lv_aload_n hx hb dX12_tape_48 rfl (lv_at hl 0 rfl) ?_
      refine w_geti hx hb hts (z_memU u12) hown hK.1 hS f12_24 (by decide) (zkd_of (rfl : zcd wR 0 = 50) rfl) (Or.inl (hts _ (z_mem k968))) dX12_tape_49 ?_
      exact w_iret hx hb hr hlocks hS hS0 rfl h dX12_tape_52
    · skip
      have h := h.2 c11
      refine z_iconst hx hb dX12_tape_26 ?_
      exact w_iret hx hb hr hlocks hS hS0 (sI_of (by decide)) h dX12_tape_27
  refine w_icmp_eq (tgt := 17) hx hb rfl (sI_of (by decide)) dX12_tape_7 (by decide) (fun c17 => ?_) (fun c17 => ?_)
  · skip
    have h := h.1 c17
    exact L9 _ _ _ h hS hS0 (lv_sub hl [0, 1] rfl)
  · skip
    have h := h.2 c17
    refine lv_iload_n hx hb dX12_tape_10 rfl (lv_at hl 1 rfl) ?_
    refine w_callz (va_runS (As := [.int (iI a0)]) (rest := []) ⟨hx, hb, hml, hown, hts⟩ (cR_areSounds l D dA b M1 a0 _ h) (va_cwS 1 hts (z_gS k1180 k1181 k14 k1182) rfl rfl rfl dm_X12_areSounds.2 ⟨Nat.le_of_ble_eq_true rfl, Nat.le_of_ble_eq_true rfl⟩) ⟨wPre_blind, w_pre hS hK⟩ rfl rfl hl.1 rfl (lv_room (Nat.le_of_ble_eq_true rfl)) dX12_tape_11 ⟨Nat.le_refl _, Nat.le_refl _⟩) hS0 (fun z19 M18 H locs r20 h hS hS0 => ?_)
    obtain ⟨e21, h⟩ := h
    rw [e21] at hS
    refine w_if_eq (tgt := 26) hx hb (sI_01 r20) dX12_tape_14 (by decide) (fun c22 => ?_) (fun c22 => ?_)
    · skip
      have h := h.1 c22
      refine z_iconst hx hb dX12_tape_26 ?_
      exact w_iret hx hb hr hlocks hS hS0 (sI_of (by decide)) h dX12_tape_27
    · skip
      have h := h.2 c22
      exact L9 _ _ _ h hS hS0 (lv_sub hl [0, 1] rfl)

set_option maxRecDepth 100000 in
def wR_take (a0 : Int) (a1 : Int) (M : zM) (Q : Int → zM → Prop) : Prop := (∀ M1 : zM, M1 = zup M 0 35 0 → wR_in a0 0 100000 M1 (fun z4 => (z4 = 0 → Q 0 M1) ∧ (z4 ≠ 0 → wR_in a1 0 60 M1 (fun z9 => (z9 ≠ 0 → wL1 (fun K30 x13 M14 => ((sI a1) ≤ (sI x13) → (∀ M23 : zM, M23 = zup M14 0 24 a1 → Q 1 M23)) ∧ ((sI x13) < (sI a1) → wR_heardInAll (sI (a0 + x13)) M14 (fun z26 => ((0 ≤ (sI x13) ∧ (sI x13) < 60) ∧ (∀ M30 : zM, M30 = zup M14 15 (sI x13).toNat z26 → K30 (x13 + 1) M30))))) 0 M1) ∧ (z9 = 0 → Q 0 M1)))))
set_option maxHeartbeats 4000000 in
set_option maxRecDepth 100000 in
theorem cR_take (l : Launch) (D : va_G) (dA : Nat → ClassId) (b : Nat) (M : zM) (a0 : Int) (a1 : Int)  (Q : Int → zM → Prop) (h : wR_take a0 a1 M Q) : Met l yX12_take (.code yX12_take cX12_take 4 (some .boolean) :: zt) (z_rm 4) (va_Pc [.ref (b + 0), .int (iI a0), .int (iI a1)] (wPre D dA vwCl (z_tys dA) wR nR b M)) (va_Qi (wQz Q) (zB D dA vwCl wR nR b) (zA nR b)) 0 0 (zA nR b) := by
  unfold wR_take at h
  refine Met.ofW (cc := cX12_take) (maxL := 4) (ret := (some .boolean)) (by decide) rfl ?_
  intro p e s m args below meth c s₁ B hml hv
  obtain ⟨hargs, hS, hK⟩ := hv
  have hx := B.exec
  have hb := B.bytes
  have hr := B.returns
  have hts := atoms_spec (ws := .code yX12_take cX12_take 4 (some .boolean) :: zt) B.pre
  have hown : s.vm.findClass RX12 = some m.cls := findClass_of_methodNamed B.named
  have hlocks := B.notSynchronized
  have hS0 : va_S (zA nR b) s.heap s.heap [] := va_S.rf
  have hl := lv_entry ([.ref (b + 0), .int (iI a0), .int (iI a1)]) (n := 4) (Nat.le_of_ble_eq_true rfl)
  have hent : entryFrame m args 4 = F0 m 0 ((lg_sl ([.ref (b + 0), .int (iI a0), .int (iI a1)]) ++ List.replicate (4 - (lg_sl ([.ref (b + 0), .int (iI a0), .int (iI a1)])).length) Slot.unset).toArray) [] := by rw [hargs]; exact lg_entry_eq m ([.ref (b + 0), .int (iI a0), .int (iI a1)]) 4
  rw [hent]
  generalize (lg_sl ([.ref (b + 0), .int (iI a0), .int (iI a1)]) ++ List.replicate (4 - (lg_sl ([.ref (b + 0), .int (iI a0), .int (iI a1)])).length) Slot.unset).toArray = ls at hl ⊢
  have hl : lv_has ls 4 [(0, .ref (b + 0)), (1, .int (iI a0)), (2, .int (iI a1))] := hl
  refine lv_aload_n hx hb dX12_take_0 rfl (lv_at hl 0 rfl) ?_
  refine z_iconst hx hb dX12_take_1 ?_
  refine w_puti hx hb hts (z_memU u12) tyX12 tyX12_ok nmX12 hown hK.1 hS hS0 f12_35 (by decide) (zkd_of (rfl : zcd wR 0 = 50) rfl) (Or.inl (hts _ (z_mem k979))) rfl (z := 0) (by decide +kernel) dX12_take_2 (fun H locs hS hS0 => ?_)
  obtain ⟨M1, e2⟩ : ∃ M1 : zM, M1 = zup M 0 35 0 := ⟨_, rfl⟩
  rw [← e2] at hS
  have h := h M1 e2
  refine lv_iload_n hx hb dX12_take_5 rfl (lv_at hl 1 rfl) ?_
  refine z_iconst hx hb dX12_take_6 ?_
  refine z_ldcw (n := 100000) hx hb hown (hts _ (z_mem k1210)) (by decide) dX12_take_7 ?_
  refine w_callz (va_runS (As := [.int (iI a0), .int (iI 0), .int (iI 100000)]) (rest := []) ⟨hx, hb, hml, hown, hts⟩ (cR_in l D dA b M1 a0 0 100000 _ h) (va_cwS 3 hts (z_gS k1083 k1084 k14 k1085) rfl rfl rfl dm_X12_in.2 ⟨Nat.le_of_ble_eq_true rfl, Nat.le_of_ble_eq_true rfl⟩) ⟨wPre_blind, w_pre hS hK⟩ rfl rfl hl.1 rfl (lv_room (Nat.le_of_ble_eq_true rfl)) dX12_take_10 ⟨Nat.le_refl _, Nat.le_refl _⟩) hS0 (fun z4 M3 H locs r5 h hS hS0 => ?_)
  obtain ⟨e6, h⟩ := h
  rw [e6] at hS
  refine w_if_eq (tgt := 26) hx hb (sI_01 r5) dX12_take_13 (by decide) (fun c7 => ?_) (fun c7 => ?_)
  · skip
    have h := h.1 c7
    refine z_iconst hx hb dX12_take_26 ?_
    exact w_zret hx hb hr hlocks hS hS0 (sI_of (by decide)) (by decide) h dX12_take_27
  · skip
    have h := h.2 c7
    refine lv_iload_n hx hb dX12_take_16 rfl (lv_at hl 2 rfl) ?_
    refine z_iconst hx hb dX12_take_17 ?_
    refine z_bipush hx hb (by decide) dX12_take_18 ?_
    refine w_callz (va_runS (As := [.int (iI a1), .int (iI 0), .int (iI 60)]) (rest := []) ⟨hx, hb, hml, hown, hts⟩ (cR_in l D dA b M1 a1 0 60 _ h) (va_cwS 3 hts (z_gS k1083 k1084 k14 k1085) rfl rfl rfl dm_X12_in.2 ⟨Nat.le_of_ble_eq_true rfl, Nat.le_of_ble_eq_true rfl⟩) ⟨wPre_blind, w_pre hS hK⟩ rfl rfl hl.1 rfl (lv_room (Nat.le_of_ble_eq_true rfl)) dX12_take_20 ⟨Nat.le_refl _, Nat.le_refl _⟩) hS0 (fun z9 M8 H locs r10 h hS hS0 => ?_)
    obtain ⟨e11, h⟩ := h
    rw [e11] at hS
    refine w_if_ne (tgt := 28) hx hb (sI_01 r10) dX12_take_23 (by decide) (fun c12 => ?_) (fun c12 => ?_)
    · skip
      have h := h.1 c12
      refine z_iconst hx hb dX12_take_28 ?_
      refine lv_istore_n (lv' := [(3, .int (iI 0)), (0, .ref (b + 0)), (1, .int (iI a0)), (2, .int (iI a1))]) hx hb dX12_take_29 rfl hl (by decide) rfl (fun ls hl => ?_)
      obtain ⟨I15, ⟨n16, h17⟩, h18⟩ := h
      have L19 : ∀ (n20 : Nat) (x13 : Int) (M14 : zM) (H : Heap) (locs : List Loc) (ls : Array Slot), I15 n20 x13 M14 → zR D dA vwCl wR nR b M14 H → va_S (zA nR b) s.heap H locs → lv_has ls 4 [(0, .ref (b + 0)), (1, .int (iI a0)), (2, .int (iI a1)), (3, .int (iI x13))] → W p l e (headSpec (.code yX12_take cX12_take 4 (some .boolean) :: zt) (z_rm 4)).room s m args below meth c H locs 0 0 (MQ below (va_Qi (wQz Q) (zB D dA vwCl wR nR b) (zA nR b)) args s 0 0 (zA nR b)) (F0 m 30 ls []) := by
        intro n20
        induction n20 using Nat.strongRecOn with
        | ind n20 i21 =>
          intro x13 M14 H locs ls h hS hS0 hl
          have h := h18 n20 x13 M14 h
          refine lv_iload_n hx hb dX12_take_30 rfl (lv_at hl 3 rfl) ?_
          refine lv_iload_n hx hb dX12_take_31 rfl (lv_at hl 2 rfl) ?_
          refine w_icmp_ge (tgt := 55) hx hb rfl rfl dX12_take_32 (by decide) (fun c22 => ?_) (fun c22 => ?_)
          · skip
            have h := h.1 c22
            refine lv_aload_n hx hb dX12_take_55 rfl (lv_at hl 0 rfl) ?_
            refine lv_iload_n hx hb dX12_take_56 rfl (lv_at hl 2 rfl) ?_
            refine w_puti hx hb hts (z_memU u12) tyX12 tyX12_ok nmX12 hown hK.1 hS hS0 f12_24 (by decide) (zkd_of (rfl : zcd wR 0 = 50) rfl) (Or.inl (hts _ (z_mem k968))) rfl (z := a1) (by decide +kernel) dX12_take_57 (fun H locs hS hS0 => ?_)
            obtain ⟨M23, e24⟩ : ∃ M23 : zM, M23 = zup M14 0 24 a1 := ⟨_, rfl⟩
            rw [← e24] at hS
            have h := h M23 e24
            refine z_iconst hx hb dX12_take_60 ?_
            exact w_zret hx hb hr hlocks hS hS0 (sI_of (by decide)) (by decide) h dX12_take_61
          · skip
            have h := h.2 c22
            refine lv_aload_n hx hb dX12_take_35 rfl (lv_at hl 0 rfl) ?_
            refine w_getr (j2 := 15) hx hb hts (z_memU u12) hown hK.1 hS f12_23 (by decide) (zkd_of (rfl : zcd wR 0 = 50) rfl) (zrf_of (rfl : zcd wR 0 = 50) rfl) (Or.inl (hts _ (z_mem k967))) dX12_take_36 ?_
            refine lv_iload_n hx hb dX12_take_39 rfl (lv_at hl 3 rfl) ?_
            refine lv_aload_n hx hb dX12_take_40 rfl (lv_at hl 0 rfl) ?_
            refine lv_iload_n hx hb dX12_take_41 rfl (lv_at hl 1 rfl) ?_
            refine lv_iload_n hx hb dX12_take_42 rfl (lv_at hl 3 rfl) ?_
            refine z_iadd hx hb dX12_take_43 ?_
            refine w_i2l hx hb rfl dX12_take_44 ?_
            refine w_calli (va_runV (As := [.long (iL (sI (a0 + x13)))]) (rest := [.int (iI x13), .ref (b + 15)]) ⟨hx, hb, hml, hown, hts⟩ (cR_heardInAll l D dA b M14 (sI (a0 + x13)) _ h) (cwV 1 hts (z_gV k1151 k1152 k1401 k14 k1153) rfl rfl rfl dm_X12_heardInAll ⟨Nat.le_of_ble_eq_true rfl, Nat.le_of_ble_eq_true rfl⟩) ⟨wPre_blind, (w_recv hS hK.1 (by decide) (zkd_of (rfl : zcd wR 0 = 50) rfl) (by decide) (rfl : vwCl[12]? = some (RX12, TX12, 50))), w_pre hS hK⟩ rfl rfl hl.1 rfl (lv_room (Nat.le_of_ble_eq_true rfl)) dX12_take_45 ⟨Nat.le_refl _, Nat.le_refl _⟩) hS0 (fun z26 M25 H locs r27 h hS hS0 => ?_)
            obtain ⟨e28, h⟩ := h
            rw [e28] at hS
            obtain ⟨o29, h⟩ := h
            refine w_iast (z := z26) (n := 60) (i := (sI x13)) hx hb hK.1 (t0 := 0) rfl hS hS0 (by decide) (zkd_of (rfl : zcd wR 15 = 65) rfl) (zln_of (rfl : zcd wR 15 = 65) rfl) rfl o29.1 o29.2 (by decide) dX12_take_48 (fun H locs hS hS0 => ?_)
            obtain ⟨M30, e31⟩ : ∃ M30 : zM, M30 = zup M14 15 (sI x13).toNat z26 := ⟨_, rfl⟩
            rw [← e31] at hS
            have h := h M30 e31
            refine z_iinc (lv' := [(3, .int (iI (x13 + 1))), (0, .ref (b + 0)), (1, .int (iI a0)), (2, .int (iI a1))]) hx hb dX12_take_49 hl (k := 3) rfl (by decide) rfl (fun ls hl => ?_)
            refine lv_goto (tgt := 30) hx hb dX12_take_52 (by decide) ?_
            obtain ⟨n32, h33, h⟩ := h
            exact i21 n32 h33 (x13 + 1) M30 _ _ _ h hS hS0 (lv_sub hl [1, 2, 3, 0] rfl)
      exact L19 n16 0 M1 _ _ _ h17 hS hS0 (lv_sub hl [1, 2, 3, 0] rfl)
    · skip
      have h := h.2 c12
      refine z_iconst hx hb dX12_take_26 ?_
      exact w_zret hx hb hr hlocks hS hS0 (sI_of (by decide)) (by decide) h dX12_take_27

set_option maxRecDepth 100000 in
def wR_gap (a0 : Int) (M : zM) (Q : Int → zM → Prop) : Prop := (∀ M1 : zM, M1 = zup M 0 35 0 → wR_in a0 0 ((M1 0 24) - 1) M1 (fun z4 => (z4 ≠ 0 → ((0 ≤ (sI a0) ∧ (sI a0) < 60) ∧ (∀ M9 : zM, M9 = zup M1 15 (sI a0).toNat (-1) → Q 1 M9))) ∧ (z4 = 0 → Q 0 M1)))
set_option maxHeartbeats 4000000 in
set_option maxRecDepth 100000 in
theorem cR_gap (l : Launch) (D : va_G) (dA : Nat → ClassId) (b : Nat) (M : zM) (a0 : Int)  (Q : Int → zM → Prop) (h : wR_gap a0 M Q) : Met l yX12_gap (.code yX12_gap cX12_gap 2 (some .boolean) :: zt) (z_rm 1) (va_Pc [.ref (b + 0), .int (iI a0)] (wPre D dA vwCl (z_tys dA) wR nR b M)) (va_Qi (wQz Q) (zB D dA vwCl wR nR b) (zA nR b)) 0 0 (zA nR b) := by
  unfold wR_gap at h
  refine Met.ofW (cc := cX12_gap) (maxL := 2) (ret := (some .boolean)) (by decide) rfl ?_
  intro p e s m args below meth c s₁ B hml hv
  obtain ⟨hargs, hS, hK⟩ := hv
  have hx := B.exec
  have hb := B.bytes
  have hr := B.returns
  have hts := atoms_spec (ws := .code yX12_gap cX12_gap 2 (some .boolean) :: zt) B.pre
  have hown : s.vm.findClass RX12 = some m.cls := findClass_of_methodNamed B.named
  have hlocks := B.notSynchronized
  have hS0 : va_S (zA nR b) s.heap s.heap [] := va_S.rf
  have hl := lv_entry ([.ref (b + 0), .int (iI a0)]) (n := 2) (Nat.le_of_ble_eq_true rfl)
  have hent : entryFrame m args 2 = F0 m 0 ((lg_sl ([.ref (b + 0), .int (iI a0)]) ++ List.replicate (2 - (lg_sl ([.ref (b + 0), .int (iI a0)])).length) Slot.unset).toArray) [] := by rw [hargs]; exact lg_entry_eq m ([.ref (b + 0), .int (iI a0)]) 2
  rw [hent]
  generalize (lg_sl ([.ref (b + 0), .int (iI a0)]) ++ List.replicate (2 - (lg_sl ([.ref (b + 0), .int (iI a0)])).length) Slot.unset).toArray = ls at hl ⊢
  have hl : lv_has ls 2 [(0, .ref (b + 0)), (1, .int (iI a0))] := hl
  refine lv_aload_n hx hb dX12_gap_0 rfl (lv_at hl 0 rfl) ?_
  refine z_iconst hx hb dX12_gap_1 ?_
  refine w_puti hx hb hts (z_memU u12) tyX12 tyX12_ok nmX12 hown hK.1 hS hS0 f12_35 (by decide) (zkd_of (rfl : zcd wR 0 = 50) rfl) (Or.inl (hts _ (z_mem k979))) rfl (z := 0) (by decide +kernel) dX12_gap_2 (fun H locs hS hS0 => ?_)
  obtain ⟨M1, e2⟩ : ∃ M1 : zM, M1 = zup M 0 35 0 := ⟨_, rfl⟩
  rw [← e2] at hS
  have h := h M1 e2
  refine lv_iload_n hx hb dX12_gap_5 rfl (lv_at hl 1 rfl) ?_
  refine z_iconst hx hb dX12_gap_6 ?_
  refine lv_aload_n hx hb dX12_gap_7 rfl (lv_at hl 0 rfl) ?_
  refine w_geti hx hb hts (z_memU u12) hown hK.1 hS f12_24 (by decide) (zkd_of (rfl : zcd wR 0 = 50) rfl) (Or.inl (hts _ (z_mem k968))) dX12_gap_8 ?_
  refine z_iconst hx hb dX12_gap_11 ?_
  refine z_isub hx hb dX12_gap_12 ?_
  refine w_callz (va_runS (As := [.int (iI a0), .int (iI 0), .int (iI ((M1 0 24) - 1))]) (rest := []) ⟨hx, hb, hml, hown, hts⟩ (cR_in l D dA b M1 a0 0 ((M1 0 24) - 1) _ h) (va_cwS 3 hts (z_gS k1083 k1084 k14 k1085) rfl rfl rfl dm_X12_in.2 ⟨Nat.le_of_ble_eq_true rfl, Nat.le_of_ble_eq_true rfl⟩) ⟨wPre_blind, w_pre hS hK⟩ rfl rfl hl.1 rfl (lv_room (Nat.le_of_ble_eq_true rfl)) dX12_gap_13 ⟨Nat.le_refl _, Nat.le_refl _⟩) hS0 (fun z4 M3 H locs r5 h hS hS0 => ?_)
  obtain ⟨e6, h⟩ := h
  rw [e6] at hS
  refine w_if_ne (tgt := 21) hx hb (sI_01 r5) dX12_gap_16 (by decide) (fun c7 => ?_) (fun c7 => ?_)
  · skip
    have h := h.1 c7
    refine lv_aload_n hx hb dX12_gap_21 rfl (lv_at hl 0 rfl) ?_
    refine w_getr (j2 := 15) hx hb hts (z_memU u12) hown hK.1 hS f12_23 (by decide) (zkd_of (rfl : zcd wR 0 = 50) rfl) (zrf_of (rfl : zcd wR 0 = 50) rfl) (Or.inl (hts _ (z_mem k967))) dX12_gap_22 ?_
    refine lv_iload_n hx hb dX12_gap_25 rfl (lv_at hl 1 rfl) ?_
    refine z_iconst hx hb dX12_gap_26 ?_
    obtain ⟨o8, h⟩ := h
    refine w_iast (z := (-1)) (n := 60) (i := (sI a0)) hx hb hK.1 (t0 := 0) rfl hS hS0 (by decide) (zkd_of (rfl : zcd wR 15 = 65) rfl) (zln_of (rfl : zcd wR 15 = 65) rfl) rfl o8.1 o8.2 (by decide) dX12_gap_27 (fun H locs hS hS0 => ?_)
    obtain ⟨M9, e10⟩ : ∃ M9 : zM, M9 = zup M1 15 (sI a0).toNat (-1) := ⟨_, rfl⟩
    rw [← e10] at hS
    have h := h M9 e10
    refine z_iconst hx hb dX12_gap_28 ?_
    exact w_zret hx hb hr hlocks hS hS0 (sI_of (by decide)) (by decide) h dX12_gap_29
  · skip
    have h := h.2 c7
    refine z_iconst hx hb dX12_gap_19 ?_
    exact w_zret hx hb hr hlocks hS hS0 (sI_of (by decide)) (by decide) h dX12_gap_20

set_option maxRecDepth 100000 in
def wR_wipe  (M : zM) (Q : Int → zM → Prop) : Prop := (∀ M1 : zM, M1 = zup M 0 35 0 → (∀ M3 : zM, M3 = zup M1 0 24 0 → Q (sI (M1 0 24)) M3))
set_option maxHeartbeats 4000000 in
set_option maxRecDepth 100000 in
theorem cR_wipe (l : Launch) (D : va_G) (dA : Nat → ClassId) (b : Nat) (M : zM)   (Q : Int → zM → Prop) (h : wR_wipe  M Q) : Met l yX12_wipe (.code yX12_wipe cX12_wipe 2 (some .int) :: zt) (z_rm 0) (va_Pc [.ref (b + 0)] (wPre D dA vwCl (z_tys dA) wR nR b M)) (va_Qi (wQi Q) (zB D dA vwCl wR nR b) (zA nR b)) 0 0 (zA nR b) := by
  unfold wR_wipe at h
  refine Met.ofW (cc := cX12_wipe) (maxL := 2) (ret := (some .int)) (by decide) rfl ?_
  intro p e s m args below meth c s₁ B hml hv
  obtain ⟨hargs, hS, hK⟩ := hv
  have hx := B.exec
  have hb := B.bytes
  have hr := B.returns
  have hts := atoms_spec (ws := .code yX12_wipe cX12_wipe 2 (some .int) :: zt) B.pre
  have hown : s.vm.findClass RX12 = some m.cls := findClass_of_methodNamed B.named
  have hlocks := B.notSynchronized
  have hS0 : va_S (zA nR b) s.heap s.heap [] := va_S.rf
  have hl := lv_entry ([.ref (b + 0)]) (n := 2) (Nat.le_of_ble_eq_true rfl)
  have hent : entryFrame m args 2 = F0 m 0 ((lg_sl ([.ref (b + 0)]) ++ List.replicate (2 - (lg_sl ([.ref (b + 0)])).length) Slot.unset).toArray) [] := by rw [hargs]; exact lg_entry_eq m ([.ref (b + 0)]) 2
  rw [hent]
  generalize (lg_sl ([.ref (b + 0)]) ++ List.replicate (2 - (lg_sl ([.ref (b + 0)])).length) Slot.unset).toArray = ls at hl ⊢
  have hl : lv_has ls 2 [(0, .ref (b + 0))] := hl
  refine lv_aload_n hx hb dX12_wipe_0 rfl (lv_at hl 0 rfl) ?_
  refine z_iconst hx hb dX12_wipe_1 ?_
  refine w_puti hx hb hts (z_memU u12) tyX12 tyX12_ok nmX12 hown hK.1 hS hS0 f12_35 (by decide) (zkd_of (rfl : zcd wR 0 = 50) rfl) (Or.inl (hts _ (z_mem k979))) rfl (z := 0) (by decide +kernel) dX12_wipe_2 (fun H locs hS hS0 => ?_)
  obtain ⟨M1, e2⟩ : ∃ M1 : zM, M1 = zup M 0 35 0 := ⟨_, rfl⟩
  rw [← e2] at hS
  have h := h M1 e2
  refine lv_aload_n hx hb dX12_wipe_5 rfl (lv_at hl 0 rfl) ?_
  refine w_geti hx hb hts (z_memU u12) hown hK.1 hS f12_24 (by decide) (zkd_of (rfl : zcd wR 0 = 50) rfl) (Or.inl (hts _ (z_mem k968))) dX12_wipe_6 ?_
  refine lv_istore_n (lv' := [(1, .int (iI (M1 0 24))), (0, .ref (b + 0))]) hx hb dX12_wipe_9 rfl hl (by decide) rfl (fun ls hl => ?_)
  refine lv_aload_n hx hb dX12_wipe_10 rfl (lv_at hl 1 rfl) ?_
  refine z_iconst hx hb dX12_wipe_11 ?_
  refine w_puti hx hb hts (z_memU u12) tyX12 tyX12_ok nmX12 hown hK.1 hS hS0 f12_24 (by decide) (zkd_of (rfl : zcd wR 0 = 50) rfl) (Or.inl (hts _ (z_mem k968))) rfl (z := 0) (by decide +kernel) dX12_wipe_12 (fun H locs hS hS0 => ?_)
  obtain ⟨M3, e4⟩ : ∃ M3 : zM, M3 = zup M1 0 24 0 := ⟨_, rfl⟩
  rw [← e4] at hS
  have h := h M3 e4
  refine lv_iload_n hx hb dX12_wipe_15 rfl (lv_at hl 0 rfl) ?_
  exact w_iret hx hb hr hlocks hS hS0 rfl h dX12_wipe_16

set_option maxRecDepth 100000 in
def wR_isSpan (a0 : Int) (M : zM) (Q : Int → Prop) : Prop := pL1 (fun K2 x1 => ((sI (M 0 24)) ≤ (sI x1) → Q 1) ∧ ((sI x1) < (sI (M 0 24)) → pL1 (fun K14 x10 => ((sI (M 0 24)) ≤ (sI x10) → K2 (x1 + 1)) ∧ ((sI x10) < (sI (M 0 24)) → ((0 ≤ (sI x1) ∧ (sI x1) < 60) ∧ ((sI (M 15 (sI x1).toNat)) = (-1) → K14 (x10 + a0)) ∧ ((sI (M 15 (sI x1).toNat)) ≠ (-1) → ((0 ≤ (sI x10) ∧ (sI x10) < 60) ∧ ((sI (M 15 (sI x10).toNat)) = (-1) → K14 (x10 + a0)) ∧ ((sI (M 15 (sI x10).toNat)) ≠ (-1) → ((0 ≤ (sI x1) ∧ (sI x1) < 60) ∧ ((0 ≤ (sI x10) ∧ (sI x10) < 60) ∧ ((sI (M 15 (sI x1).toNat)) = (sI (M 15 (sI x10).toNat)) → K14 (x10 + a0)) ∧ ((sI (M 15 (sI x1).toNat)) ≠ (sI (M 15 (sI x10).toNat)) → Q 0))))))))) (x1 + a0))) 0
set_option maxHeartbeats 4000000 in
set_option maxRecDepth 100000 in
theorem cR_isSpan (l : Launch) (D : va_G) (dA : Nat → ClassId) (b : Nat) (M : zM) (a0 : Int)  (Q : Int → Prop) (h : wR_isSpan a0 M Q) : Met l yX12_isSpan (.code yX12_isSpan cX12_isSpan 4 (some .boolean) :: zt) (z_rm 0) (va_Pc [.ref (b + 0), .int (iI a0)] (wPre D dA vwCl (z_tys dA) wR nR b M)) (va_Qi (wQz (fun z9 u9 => u9 = M ∧ Q z9)) (zB D dA vwCl wR nR b) (zA nR b)) 0 0 (zA nR b) := by
  unfold wR_isSpan at h
  refine Met.ofW (cc := cX12_isSpan) (maxL := 4) (ret := (some .boolean)) (by decide) rfl ?_
  intro p e s m args below meth c s₁ B hml hv
  obtain ⟨hargs, hS, hK⟩ := hv
  have hx := B.exec
  have hb := B.bytes
  have hr := B.returns
  have hts := atoms_spec (ws := .code yX12_isSpan cX12_isSpan 4 (some .boolean) :: zt) B.pre
  have hown : s.vm.findClass RX12 = some m.cls := findClass_of_methodNamed B.named
  have hlocks := B.notSynchronized
  have hS0 : va_S (zA nR b) s.heap s.heap [] := va_S.rf
  have hl := lv_entry ([.ref (b + 0), .int (iI a0)]) (n := 4) (Nat.le_of_ble_eq_true rfl)
  have hent : entryFrame m args 4 = F0 m 0 ((lg_sl ([.ref (b + 0), .int (iI a0)]) ++ List.replicate (4 - (lg_sl ([.ref (b + 0), .int (iI a0)])).length) Slot.unset).toArray) [] := by rw [hargs]; exact lg_entry_eq m ([.ref (b + 0), .int (iI a0)]) 4
  rw [hent]
  generalize (lg_sl ([.ref (b + 0), .int (iI a0)]) ++ List.replicate (4 - (lg_sl ([.ref (b + 0), .int (iI a0)])).length) Slot.unset).toArray = ls at hl ⊢
  have hl : lv_has ls 4 [(0, .ref (b + 0)), (1, .int (iI a0))] := hl
  refine z_iconst hx hb dX12_isSpan_0 ?_
  refine lv_istore_n (lv' := [(2, .int (iI 0)), (0, .ref (b + 0)), (1, .int (iI a0))]) hx hb dX12_isSpan_1 rfl hl (by decide) rfl (fun ls hl => ?_)
  obtain ⟨I2, ⟨n3, h4⟩, h5⟩ := h
  have L6 : ∀ (n7 : Nat) (x1 : Int) (H : Heap) (locs : List Loc) (ls : Array Slot), I2 n7 x1 → zR D dA vwCl wR nR b M H → va_S (zA nR b) s.heap H locs → lv_has ls 4 [(0, .ref (b + 0)), (1, .int (iI a0)), (2, .int (iI x1))] → W p l e (headSpec (.code yX12_isSpan cX12_isSpan 4 (some .boolean) :: zt) (z_rm 0)).room s m args below meth c H locs 0 0 (MQ below (va_Qi (wQz (fun z9 u9 => u9 = M ∧ Q z9)) (zB D dA vwCl wR nR b) (zA nR b)) args s 0 0 (zA nR b)) (F0 m 2 ls []) := by
    intro n7
    induction n7 using Nat.strongRecOn with
    | ind n7 i8 =>
      intro x1 H locs ls h hS hS0 hl
      have h := h5 n7 x1 h
      refine lv_iload_n hx hb dX12_isSpan_2 rfl (lv_at hl 2 rfl) ?_
      refine lv_aload_n hx hb dX12_isSpan_3 rfl (lv_at hl 0 rfl) ?_
      refine w_geti hx hb hts (z_memU u12) hown hK.1 hS f12_24 (by decide) (zkd_of (rfl : zcd wR 0 = 50) rfl) (Or.inl (hts _ (z_mem k968))) dX12_isSpan_4 ?_
      refine w_icmp_ge (tgt := 72) hx hb rfl rfl dX12_isSpan_7 (by decide) (fun c9 => ?_) (fun c9 => ?_)
      · skip
        have h := h.1 c9
        refine z_iconst hx hb dX12_isSpan_72 ?_
        exact w_zret hx hb hr hlocks hS hS0 (sI_of (by decide)) (by decide) ⟨rfl, h⟩ dX12_isSpan_73
      · skip
        have h := h.2 c9
        refine lv_iload_n hx hb dX12_isSpan_10 rfl (lv_at hl 2 rfl) ?_
        refine lv_iload_n hx hb dX12_isSpan_11 rfl (lv_at hl 1 rfl) ?_
        refine z_iadd hx hb dX12_isSpan_12 ?_
        refine lv_istore_n (lv' := [(3, .int (iI (x1 + a0))), (0, .ref (b + 0)), (1, .int (iI a0)), (2, .int (iI x1))]) hx hb dX12_isSpan_13 rfl hl (by decide) rfl (fun ls hl => ?_)
        obtain ⟨I11, ⟨n12, h13⟩, h14⟩ := h
        have L15 : ∀ (n16 : Nat) (x10 : Int) (H : Heap) (locs : List Loc) (ls : Array Slot), I11 n16 x10 → zR D dA vwCl wR nR b M H → va_S (zA nR b) s.heap H locs → lv_has ls 4 [(0, .ref (b + 0)), (1, .int (iI a0)), (2, .int (iI x1)), (3, .int (iI x10))] → W p l e (headSpec (.code yX12_isSpan cX12_isSpan 4 (some .boolean) :: zt) (z_rm 0)).room s m args below meth c H locs 0 0 (MQ below (va_Qi (wQz (fun z9 u9 => u9 = M ∧ Q z9)) (zB D dA vwCl wR nR b) (zA nR b)) args s 0 0 (zA nR b)) (F0 m 14 ls []) := by
          intro n16
          induction n16 using Nat.strongRecOn with
          | ind n16 i17 =>
            intro x10 H locs ls h hS hS0 hl
            have h := h14 n16 x10 h
            refine lv_iload_n hx hb dX12_isSpan_14 rfl (lv_at hl 3 rfl) ?_
            refine lv_aload_n hx hb dX12_isSpan_15 rfl (lv_at hl 0 rfl) ?_
            refine w_geti hx hb hts (z_memU u12) hown hK.1 hS f12_24 (by decide) (zkd_of (rfl : zcd wR 0 = 50) rfl) (Or.inl (hts _ (z_mem k968))) dX12_isSpan_16 ?_
            refine w_icmp_ge (tgt := 66) hx hb rfl rfl dX12_isSpan_19 (by decide) (fun c18 => ?_) (fun c18 => ?_)
            · skip
              have h := h.1 c18
              refine z_iinc (lv' := [(2, .int (iI (x1 + 1))), (0, .ref (b + 0)), (1, .int (iI a0)), (3, .int (iI x10))]) hx hb dX12_isSpan_66 hl (k := 2) rfl (by decide) rfl (fun ls hl => ?_)
              refine lv_goto (tgt := 2) hx hb dX12_isSpan_69 (by decide) ?_
              obtain ⟨n19, h20, h⟩ := h
              exact i8 n19 h20 (x1 + 1) _ _ _ h hS hS0 (lv_sub hl [1, 2, 0] rfl)
            · skip
              have h := h.2 c18
              refine lv_aload_n hx hb dX12_isSpan_22 rfl (lv_at hl 0 rfl) ?_
              refine w_getr (j2 := 15) hx hb hts (z_memU u12) hown hK.1 hS f12_23 (by decide) (zkd_of (rfl : zcd wR 0 = 50) rfl) (zrf_of (rfl : zcd wR 0 = 50) rfl) (Or.inl (hts _ (z_mem k967))) dX12_isSpan_23 ?_
              refine lv_iload_n hx hb dX12_isSpan_26 rfl (lv_at hl 2 rfl) ?_
              obtain ⟨o21, h⟩ := h
              refine w_iald (n := 60) (i := (sI x1)) hx hb hK.1 (t0 := 0) rfl hS (by decide) (zkd_of (rfl : zcd wR 15 = 65) rfl) (zln_of (rfl : zcd wR 15 = 65) rfl) rfl o21.1 o21.2 (by decide) dX12_isSpan_27 ?_
              refine z_iconst hx hb dX12_isSpan_28 ?_
              refine w_icmp_eq (tgt := 59) hx hb rfl (sI_of (by decide)) dX12_isSpan_29 (by decide) (fun c22 => ?_) (fun c22 => ?_)
              · skip
                have h := h.1 c22
                refine lv_iload_n hx hb dX12_isSpan_59 rfl (lv_at hl 3 rfl) ?_
                refine lv_iload_n hx hb dX12_isSpan_60 rfl (lv_at hl 1 rfl) ?_
                refine z_iadd hx hb dX12_isSpan_61 ?_
                refine lv_istore_n (lv' := [(3, .int (iI (x10 + a0))), (0, .ref (b + 0)), (1, .int (iI a0)), (2, .int (iI x1))]) hx hb dX12_isSpan_62 rfl hl (by decide) rfl (fun ls hl => ?_)
                refine lv_goto (tgt := 14) hx hb dX12_isSpan_63 (by decide) ?_
                obtain ⟨n23, h24, h⟩ := h
                exact i17 n23 h24 (x10 + a0) _ _ _ h hS hS0 (lv_sub hl [1, 2, 3, 0] rfl)
              · skip
                have h := h.2 c22
                refine lv_aload_n hx hb dX12_isSpan_32 rfl (lv_at hl 0 rfl) ?_
                refine w_getr (j2 := 15) hx hb hts (z_memU u12) hown hK.1 hS f12_23 (by decide) (zkd_of (rfl : zcd wR 0 = 50) rfl) (zrf_of (rfl : zcd wR 0 = 50) rfl) (Or.inl (hts _ (z_mem k967))) dX12_isSpan_33 ?_
                refine lv_iload_n hx hb dX12_isSpan_36 rfl (lv_at hl 3 rfl) ?_
                obtain ⟨o25, h⟩ := h
                refine w_iald (n := 60) (i := (sI x10)) hx hb hK.1 (t0 := 0) rfl hS (by decide) (zkd_of (rfl : zcd wR 15 = 65) rfl) (zln_of (rfl : zcd wR 15 = 65) rfl) rfl o25.1 o25.2 (by decide) dX12_isSpan_37 ?_
                refine z_iconst hx hb dX12_isSpan_38 ?_
                refine w_icmp_eq (tgt := 59) hx hb rfl (sI_of (by decide)) dX12_isSpan_39 (by decide) (fun c26 => ?_) (fun c26 => ?_)
                · skip
                  have h := h.1 c26
                  refine lv_iload_n hx hb dX12_isSpan_59 rfl (lv_at hl 3 rfl) ?_
                  refine lv_iload_n hx hb dX12_isSpan_60 rfl (lv_at hl 1 rfl) ?_
                  refine z_iadd hx hb dX12_isSpan_61 ?_
                  refine lv_istore_n (lv' := [(3, .int (iI (x10 + a0))), (0, .ref (b + 0)), (1, .int (iI a0)), (2, .int (iI x1))]) hx hb dX12_isSpan_62 rfl hl (by decide) rfl (fun ls hl => ?_)
                  refine lv_goto (tgt := 14) hx hb dX12_isSpan_63 (by decide) ?_
                  obtain ⟨n27, h28, h⟩ := h
                  exact i17 n27 h28 (x10 + a0) _ _ _ h hS hS0 (lv_sub hl [1, 2, 3, 0] rfl)
                · skip
                  have h := h.2 c26
                  refine lv_aload_n hx hb dX12_isSpan_42 rfl (lv_at hl 0 rfl) ?_
                  refine w_getr (j2 := 15) hx hb hts (z_memU u12) hown hK.1 hS f12_23 (by decide) (zkd_of (rfl : zcd wR 0 = 50) rfl) (zrf_of (rfl : zcd wR 0 = 50) rfl) (Or.inl (hts _ (z_mem k967))) dX12_isSpan_43 ?_
                  refine lv_iload_n hx hb dX12_isSpan_46 rfl (lv_at hl 2 rfl) ?_
                  obtain ⟨o29, h⟩ := h
                  refine w_iald (n := 60) (i := (sI x1)) hx hb hK.1 (t0 := 0) rfl hS (by decide) (zkd_of (rfl : zcd wR 15 = 65) rfl) (zln_of (rfl : zcd wR 15 = 65) rfl) rfl o29.1 o29.2 (by decide) dX12_isSpan_47 ?_
                  refine lv_aload_n hx hb dX12_isSpan_48 rfl (lv_at hl 0 rfl) ?_
                  refine w_getr (j2 := 15) hx hb hts (z_memU u12) hown hK.1 hS f12_23 (by decide) (zkd_of (rfl : zcd wR 0 = 50) rfl) (zrf_of (rfl : zcd wR 0 = 50) rfl) (Or.inl (hts _ (z_mem k967))) dX12_isSpan_49 ?_
                  refine lv_iload_n hx hb dX12_isSpan_52 rfl (lv_at hl 3 rfl) ?_
                  obtain ⟨o30, h⟩ := h
                  refine w_iald (n := 60) (i := (sI x10)) hx hb hK.1 (t0 := 0) rfl hS (by decide) (zkd_of (rfl : zcd wR 15 = 65) rfl) (zln_of (rfl : zcd wR 15 = 65) rfl) rfl o30.1 o30.2 (by decide) dX12_isSpan_53 ?_
                  refine w_icmp_eq (tgt := 59) hx hb rfl rfl dX12_isSpan_54 (by decide) (fun c31 => ?_) (fun c31 => ?_)
                  · skip
                    have h := h.1 c31
                    refine lv_iload_n hx hb dX12_isSpan_59 rfl (lv_at hl 3 rfl) ?_
                    refine lv_iload_n hx hb dX12_isSpan_60 rfl (lv_at hl 1 rfl) ?_
                    refine z_iadd hx hb dX12_isSpan_61 ?_
                    refine lv_istore_n (lv' := [(3, .int (iI (x10 + a0))), (0, .ref (b + 0)), (1, .int (iI a0)), (2, .int (iI x1))]) hx hb dX12_isSpan_62 rfl hl (by decide) rfl (fun ls hl => ?_)
                    refine lv_goto (tgt := 14) hx hb dX12_isSpan_63 (by decide) ?_
                    obtain ⟨n32, h33, h⟩ := h
                    exact i17 n32 h33 (x10 + a0) _ _ _ h hS hS0 (lv_sub hl [1, 2, 3, 0] rfl)
                  · skip
                    have h := h.2 c31
                    refine z_iconst hx hb dX12_isSpan_57 ?_
                    exact w_zret hx hb hr hlocks hS hS0 (sI_of (by decide)) (by decide) ⟨rfl, h⟩ dX12_isSpan_58
        exact L15 n12 (x1 + a0) _ _ _ h13 hS hS0 (lv_sub hl [1, 2, 3, 0] rfl)
  exact L6 n3 0 _ _ _ h4 hS hS0 (lv_sub hl [1, 2, 0] rfl)

set_option maxRecDepth 100000 in
def wR_span (a0 : Int) (M : zM) (Q : Int → zM → Prop) : Prop := (∀ M1 : zM, M1 = zup M 0 35 0 → pL2 (fun K9 x3 x4 => (24 < (sI x4) → Q (-1) M1) ∧ ((sI x4) ≤ 24 → ((sI x3) < 0 → Q (-1) M1) ∧ (0 ≤ (sI x3) → wR_isSpan x4 M1 (fun z15 => (z15 ≠ 0 → ((sI x3) ≠ 0 → K9 (x3 + (-1)) (x4 + 1)) ∧ ((sI x3) = 0 → Q (sI x4) M1)) ∧ (z15 = 0 → K9 x3 (x4 + 1)))))) a0 1)
set_option maxHeartbeats 4000000 in
set_option maxRecDepth 100000 in
theorem cR_span (l : Launch) (D : va_G) (dA : Nat → ClassId) (b : Nat) (M : zM) (a0 : Int)  (Q : Int → zM → Prop) (h : wR_span a0 M Q) : Met l yX12_span (.code yX12_span cX12_span 4 (some .int) :: zt) (z_rm 1) (va_Pc [.ref (b + 0), .int (iI a0)] (wPre D dA vwCl (z_tys dA) wR nR b M)) (va_Qi (wQi Q) (zB D dA vwCl wR nR b) (zA nR b)) 0 0 (zA nR b) := by
  unfold wR_span at h
  refine Met.ofW (cc := cX12_span) (maxL := 4) (ret := (some .int)) (by decide) rfl ?_
  intro p e s m args below meth c s₁ B hml hv
  obtain ⟨hargs, hS, hK⟩ := hv
  have hx := B.exec
  have hb := B.bytes
  have hr := B.returns
  have hts := atoms_spec (ws := .code yX12_span cX12_span 4 (some .int) :: zt) B.pre
  have hown : s.vm.findClass RX12 = some m.cls := findClass_of_methodNamed B.named
  have hlocks := B.notSynchronized
  have hS0 : va_S (zA nR b) s.heap s.heap [] := va_S.rf
  have hl := lv_entry ([.ref (b + 0), .int (iI a0)]) (n := 4) (Nat.le_of_ble_eq_true rfl)
  have hent : entryFrame m args 4 = F0 m 0 ((lg_sl ([.ref (b + 0), .int (iI a0)]) ++ List.replicate (4 - (lg_sl ([.ref (b + 0), .int (iI a0)])).length) Slot.unset).toArray) [] := by rw [hargs]; exact lg_entry_eq m ([.ref (b + 0), .int (iI a0)]) 4
  rw [hent]
  generalize (lg_sl ([.ref (b + 0), .int (iI a0)]) ++ List.replicate (4 - (lg_sl ([.ref (b + 0), .int (iI a0)])).length) Slot.unset).toArray = ls at hl ⊢
  have hl : lv_has ls 4 [(0, .ref (b + 0)), (1, .int (iI a0))] := hl
  refine lv_aload_n hx hb dX12_span_0 rfl (lv_at hl 0 rfl) ?_
  refine z_iconst hx hb dX12_span_1 ?_
  refine w_puti hx hb hts (z_memU u12) tyX12 tyX12_ok nmX12 hown hK.1 hS hS0 f12_35 (by decide) (zkd_of (rfl : zcd wR 0 = 50) rfl) (Or.inl (hts _ (z_mem k979))) rfl (z := 0) (by decide +kernel) dX12_span_2 (fun H locs hS hS0 => ?_)
  obtain ⟨M1, e2⟩ : ∃ M1 : zM, M1 = zup M 0 35 0 := ⟨_, rfl⟩
  rw [← e2] at hS
  have h := h M1 e2
  refine lv_iload_n hx hb dX12_span_5 rfl (lv_at hl 1 rfl) ?_
  refine lv_istore_n (lv' := [(2, .int (iI a0)), (0, .ref (b + 0)), (1, .int (iI a0))]) hx hb dX12_span_6 rfl hl (by decide) rfl (fun ls hl => ?_)
  refine z_iconst hx hb dX12_span_7 ?_
  refine lv_istore_n (lv' := [(3, .int (iI 1)), (2, .int (iI a0)), (0, .ref (b + 0)), (1, .int (iI a0))]) hx hb dX12_span_8 rfl hl (by decide) rfl (fun ls hl => ?_)
  obtain ⟨I5, ⟨n6, h7⟩, h8⟩ := h
  have L9 : ∀ (n10 : Nat) (x3 x4 : Int) (H : Heap) (locs : List Loc) (ls : Array Slot), I5 n10 x3 x4 → zR D dA vwCl wR nR b M1 H → va_S (zA nR b) s.heap H locs → lv_has ls 4 [(0, .ref (b + 0)), (2, .int (iI x3)), (3, .int (iI x4))] → W p l e (headSpec (.code yX12_span cX12_span 4 (some .int) :: zt) (z_rm 1)).room s m args below meth c H locs 0 0 (MQ below (va_Qi (wQi Q) (zB D dA vwCl wR nR b) (zA nR b)) args s 0 0 (zA nR b)) (F0 m 9 ls []) := by
    intro n10
    induction n10 using Nat.strongRecOn with
    | ind n10 i11 =>
      intro x3 x4 H locs ls h hS hS0 hl
      have h := h8 n10 x3 x4 h
      refine lv_iload_n hx hb dX12_span_9 rfl (lv_at hl 2 rfl) ?_
      refine z_bipush hx hb (by decide) dX12_span_10 ?_
      refine w_icmp_gt (tgt := 45) hx hb rfl (sI_of (by decide)) dX12_span_12 (by decide) (fun c12 => ?_) (fun c12 => ?_)
      · skip
        have h := h.1 c12
        refine z_iconst hx hb dX12_span_45 ?_
        exact w_iret hx hb hr hlocks hS hS0 (sI_of (by decide)) h dX12_span_46
      · skip
        have h := h.2 c12
        refine lv_iload_n hx hb dX12_span_15 rfl (lv_at hl 1 rfl) ?_
        refine w_if_lt (tgt := 45) hx hb rfl dX12_span_16 (by decide) (fun c13 => ?_) (fun c13 => ?_)
        · skip
          have h := h.1 c13
          refine z_iconst hx hb dX12_span_45 ?_
          exact w_iret hx hb hr hlocks hS hS0 (sI_of (by decide)) h dX12_span_46
        · skip
          have h := h.2 c13
          refine lv_aload_n hx hb dX12_span_19 rfl (lv_at hl 0 rfl) ?_
          refine lv_iload_n hx hb dX12_span_20 rfl (lv_at hl 2 rfl) ?_
          refine w_callz (va_runV (As := [.int (iI x4)]) (rest := []) ⟨hx, hb, hml, hown, hts⟩ (cR_isSpan l D dA b M1 x4 _ h) (cwV 1 hts (z_gV k1284 k1285 k1416 k14 k1286) rfl rfl rfl dm_X12_isSpan ⟨Nat.le_of_ble_eq_true rfl, Nat.le_of_ble_eq_true rfl⟩) ⟨wPre_blind, (w_recv hS hK.1 (by decide) (zkd_of (rfl : zcd wR 0 = 50) rfl) (by decide) (rfl : vwCl[12]? = some (RX12, TX12, 50))), w_pre hS hK⟩ rfl rfl hl.1 rfl (lv_room (Nat.le_of_ble_eq_true rfl)) dX12_span_21 ⟨Nat.le_refl _, Nat.le_refl _⟩) hS0 (fun z15 M14 H locs r16 h hS hS0 => ?_)
          obtain ⟨e17, h⟩ := h
          rw [e17] at hS
          refine w_if_ne (tgt := 30) hx hb (sI_01 r16) dX12_span_24 (by decide) (fun c18 => ?_) (fun c18 => ?_)
          · skip
            have h := h.1 c18
            refine lv_iload_n hx hb dX12_span_30 rfl (lv_at hl 1 rfl) ?_
            refine w_if_ne (tgt := 36) hx hb rfl dX12_span_31 (by decide) (fun c19 => ?_) (fun c19 => ?_)
            · skip
              have h := h.1 c19
              refine z_iinc (lv' := [(2, .int (iI (x3 + (-1)))), (0, .ref (b + 0)), (3, .int (iI x4))]) hx hb dX12_span_36 hl (k := 1) rfl (by decide) rfl (fun ls hl => ?_)
              refine z_iinc (lv' := [(3, .int (iI (x4 + 1))), (2, .int (iI (x3 + (-1)))), (0, .ref (b + 0))]) hx hb dX12_span_39 hl (k := 2) rfl (by decide) rfl (fun ls hl => ?_)
              refine lv_goto (tgt := 9) hx hb dX12_span_42 (by decide) ?_
              obtain ⟨n20, h21, h⟩ := h
              exact i11 n20 h21 (x3 + (-1)) (x4 + 1) _ _ _ h hS hS0 (lv_sub hl [2, 1, 0] rfl)
            · skip
              have h := h.2 c19
              refine lv_iload_n hx hb dX12_span_34 rfl (lv_at hl 2 rfl) ?_
              exact w_iret hx hb hr hlocks hS hS0 rfl h dX12_span_35
          · skip
            have h := h.2 c18
            refine lv_goto (tgt := 39) hx hb dX12_span_27 (by decide) ?_
            refine z_iinc (lv' := [(3, .int (iI (x4 + 1))), (0, .ref (b + 0)), (2, .int (iI x3))]) hx hb dX12_span_39 hl (k := 2) rfl (by decide) rfl (fun ls hl => ?_)
            refine lv_goto (tgt := 9) hx hb dX12_span_42 (by decide) ?_
            obtain ⟨n22, h23, h⟩ := h
            exact i11 n22 h23 x3 (x4 + 1) _ _ _ h hS hS0 (lv_sub hl [1, 2, 0] rfl)
  exact L9 n6 a0 1 _ _ _ h7 hS hS0 (lv_sub hl [2, 1, 0] rfl)

set_option maxRecDepth 100000 in
def wR_most (a0 : Int) (a1 : Int) (M : zM) (Q : Int → Prop) : Prop := (((sI a0) ≠ 0) ∧ pL2 (fun K9 x2 x3 => ((sI (M 0 24)) ≤ (sI x3) → Q (sI x2)) ∧ ((sI x3) < (sI (M 0 24)) → ((0 ≤ (sI x3) ∧ (sI x3) < 60) ∧ ((sI (M 15 (sI x3).toNat)) = (-1) → K9 x2 (x3 + a0)) ∧ ((sI (M 15 (sI x3).toNat)) ≠ (-1) → ((0 ≤ (sI x3) ∧ (sI x3) < 60) ∧ K9 (andI x2 (M 15 (sI x3).toNat)) (x3 + a0)))))) 1022 ((sI a1).tmod (sI a0)))
set_option maxHeartbeats 4000000 in
set_option maxRecDepth 100000 in
theorem cR_most (l : Launch) (D : va_G) (dA : Nat → ClassId) (b : Nat) (M : zM) (a0 : Int) (a1 : Int)  (Q : Int → Prop) (h : wR_most a0 a1 M Q) : Met l yX12_most (.code yX12_most cX12_most 5 (some .int) :: zt) (z_rm 0) (va_Pc [.ref (b + 0), .int (iI a0), .int (iI a1)] (wPre D dA vwCl (z_tys dA) wR nR b M)) (va_Qi (wQi (fun z9 u9 => u9 = M ∧ Q z9)) (zB D dA vwCl wR nR b) (zA nR b)) 0 0 (zA nR b) := by
  unfold wR_most at h
  refine Met.ofW (cc := cX12_most) (maxL := 5) (ret := (some .int)) (by decide) rfl ?_
  intro p e s m args below meth c s₁ B hml hv
  obtain ⟨hargs, hS, hK⟩ := hv
  have hx := B.exec
  have hb := B.bytes
  have hr := B.returns
  have hts := atoms_spec (ws := .code yX12_most cX12_most 5 (some .int) :: zt) B.pre
  have hown : s.vm.findClass RX12 = some m.cls := findClass_of_methodNamed B.named
  have hlocks := B.notSynchronized
  have hS0 : va_S (zA nR b) s.heap s.heap [] := va_S.rf
  have hl := lv_entry ([.ref (b + 0), .int (iI a0), .int (iI a1)]) (n := 5) (Nat.le_of_ble_eq_true rfl)
  have hent : entryFrame m args 5 = F0 m 0 ((lg_sl ([.ref (b + 0), .int (iI a0), .int (iI a1)]) ++ List.replicate (5 - (lg_sl ([.ref (b + 0), .int (iI a0), .int (iI a1)])).length) Slot.unset).toArray) [] := by rw [hargs]; exact lg_entry_eq m ([.ref (b + 0), .int (iI a0), .int (iI a1)]) 5
  rw [hent]
  generalize (lg_sl ([.ref (b + 0), .int (iI a0), .int (iI a1)]) ++ List.replicate (5 - (lg_sl ([.ref (b + 0), .int (iI a0), .int (iI a1)])).length) Slot.unset).toArray = ls at hl ⊢
  have hl : lv_has ls 5 [(0, .ref (b + 0)), (1, .int (iI a0)), (2, .int (iI a1))] := hl
  refine z_sipush hx hb (by decide) dX12_most_0 ?_
  refine lv_istore_n (lv' := [(3, .int (iI 1022)), (0, .ref (b + 0)), (1, .int (iI a0)), (2, .int (iI a1))]) hx hb dX12_most_3 rfl hl (by decide) rfl (fun ls hl => ?_)
  refine lv_iload_n hx hb dX12_most_4 rfl (lv_at hl 3 rfl) ?_
  refine lv_iload_n hx hb dX12_most_5 rfl (lv_at hl 2 rfl) ?_
  obtain ⟨o1, h⟩ := h
  refine w_irem hx hb rfl rfl o1 dX12_most_6 ?_
  refine lv_istore (lv' := [(4, .int (iI ((sI a1).tmod (sI a0)))), (3, .int (iI 1022)), (0, .ref (b + 0)), (1, .int (iI a0)), (2, .int (iI a1))]) hx hb dX12_most_7 hl (by decide) rfl (fun ls hl => ?_)
  obtain ⟨I4, ⟨n5, h6⟩, h7⟩ := h
  have L8 : ∀ (n9 : Nat) (x2 x3 : Int) (H : Heap) (locs : List Loc) (ls : Array Slot), I4 n9 x2 x3 → zR D dA vwCl wR nR b M H → va_S (zA nR b) s.heap H locs → lv_has ls 5 [(0, .ref (b + 0)), (1, .int (iI a0)), (3, .int (iI x2)), (4, .int (iI x3))] → W p l e (headSpec (.code yX12_most cX12_most 5 (some .int) :: zt) (z_rm 0)).room s m args below meth c H locs 0 0 (MQ below (va_Qi (wQi (fun z9 u9 => u9 = M ∧ Q z9)) (zB D dA vwCl wR nR b) (zA nR b)) args s 0 0 (zA nR b)) (F0 m 9 ls []) := by
    intro n9
    induction n9 using Nat.strongRecOn with
    | ind n9 i10 =>
      intro x2 x3 H locs ls h hS hS0 hl
      have h := h7 n9 x2 x3 h
      refine lv_iload hx hb dX12_most_9 (lv_at hl 3 rfl) ?_
      refine lv_aload_n hx hb dX12_most_11 rfl (lv_at hl 0 rfl) ?_
      refine w_geti hx hb hts (z_memU u12) hown hK.1 hS f12_24 (by decide) (zkd_of (rfl : zcd wR 0 = 50) rfl) (Or.inl (hts _ (z_mem k968))) dX12_most_12 ?_
      refine w_icmp_ge (tgt := 48) hx hb rfl rfl dX12_most_15 (by decide) (fun c11 => ?_) (fun c11 => ?_)
      · skip
        have h := h.1 c11
        refine lv_iload_n hx hb dX12_most_48 rfl (lv_at hl 2 rfl) ?_
        exact w_iret hx hb hr hlocks hS hS0 rfl ⟨rfl, h⟩ dX12_most_49
      · skip
        have h := h.2 c11
        refine lv_aload_n hx hb dX12_most_18 rfl (lv_at hl 0 rfl) ?_
        refine w_getr (j2 := 15) hx hb hts (z_memU u12) hown hK.1 hS f12_23 (by decide) (zkd_of (rfl : zcd wR 0 = 50) rfl) (zrf_of (rfl : zcd wR 0 = 50) rfl) (Or.inl (hts _ (z_mem k967))) dX12_most_19 ?_
        refine lv_iload hx hb dX12_most_22 (lv_at hl 3 rfl) ?_
        obtain ⟨o12, h⟩ := h
        refine w_iald (n := 60) (i := (sI x3)) hx hb hK.1 (t0 := 0) rfl hS (by decide) (zkd_of (rfl : zcd wR 15 = 65) rfl) (zln_of (rfl : zcd wR 15 = 65) rfl) rfl o12.1 o12.2 (by decide) dX12_most_24 ?_
        refine z_iconst hx hb dX12_most_25 ?_
        refine w_icmp_eq (tgt := 39) hx hb rfl (sI_of (by decide)) dX12_most_26 (by decide) (fun c13 => ?_) (fun c13 => ?_)
        · skip
          have h := h.1 c13
          refine lv_iload hx hb dX12_most_39 (lv_at hl 3 rfl) ?_
          refine lv_iload_n hx hb dX12_most_41 rfl (lv_at hl 1 rfl) ?_
          refine z_iadd hx hb dX12_most_42 ?_
          refine lv_istore (lv' := [(4, .int (iI (x3 + a0))), (0, .ref (b + 0)), (1, .int (iI a0)), (3, .int (iI x2))]) hx hb dX12_most_43 hl (by decide) rfl (fun ls hl => ?_)
          refine lv_goto (tgt := 9) hx hb dX12_most_45 (by decide) ?_
          obtain ⟨n14, h15, h⟩ := h
          exact i10 n14 h15 x2 (x3 + a0) _ _ _ h hS hS0 (lv_sub hl [1, 2, 3, 0] rfl)
        · skip
          have h := h.2 c13
          refine lv_iload_n hx hb dX12_most_29 rfl (lv_at hl 2 rfl) ?_
          refine lv_aload_n hx hb dX12_most_30 rfl (lv_at hl 0 rfl) ?_
          refine w_getr (j2 := 15) hx hb hts (z_memU u12) hown hK.1 hS f12_23 (by decide) (zkd_of (rfl : zcd wR 0 = 50) rfl) (zrf_of (rfl : zcd wR 0 = 50) rfl) (Or.inl (hts _ (z_mem k967))) dX12_most_31 ?_
          refine lv_iload hx hb dX12_most_34 (lv_at hl 3 rfl) ?_
          obtain ⟨o16, h⟩ := h
          refine w_iald (n := 60) (i := (sI x3)) hx hb hK.1 (t0 := 0) rfl hS (by decide) (zkd_of (rfl : zcd wR 15 = 65) rfl) (zln_of (rfl : zcd wR 15 = 65) rfl) rfl o16.1 o16.2 (by decide) dX12_most_36 ?_
          refine w_iand hx hb dX12_most_37 ?_
          refine lv_istore_n (lv' := [(3, .int (iI (andI x2 (M 15 (sI x3).toNat)))), (0, .ref (b + 0)), (1, .int (iI a0)), (4, .int (iI x3))]) hx hb dX12_most_38 rfl hl (by decide) rfl (fun ls hl => ?_)
          refine lv_iload hx hb dX12_most_39 (lv_at hl 3 rfl) ?_
          refine lv_iload_n hx hb dX12_most_41 rfl (lv_at hl 2 rfl) ?_
          refine z_iadd hx hb dX12_most_42 ?_
          refine lv_istore (lv' := [(4, .int (iI (x3 + a0))), (3, .int (iI (andI x2 (M 15 (sI x3).toNat)))), (0, .ref (b + 0)), (1, .int (iI a0))]) hx hb dX12_most_43 hl (by decide) rfl (fun ls hl => ?_)
          refine lv_goto (tgt := 9) hx hb dX12_most_45 (by decide) ?_
          obtain ⟨n17, h18, h⟩ := h
          exact i10 n17 h18 (andI x2 (M 15 (sI x3).toNat)) (x3 + a0) _ _ _ h hS hS0 (lv_sub hl [2, 3, 1, 0] rfl)
  exact L8 n5 1022 ((sI a1).tmod (sI a0)) _ _ _ h6 hS hS0 (lv_sub hl [2, 3, 1, 0] rfl)

set_option maxRecDepth 100000 in
def wR_isPair (a0 : Int) (a1 : Int) (M : zM) (Q : Int → Prop) : Prop := pL1 (fun K2 x1 => ((sI (M 0 24)) ≤ (sI x1) → Q 1) ∧ ((sI x1) < (sI (M 0 24)) → ((0 ≤ (sI x1) ∧ (sI x1) < 60) ∧ ((sI (M 15 (sI x1).toNat)) = (-1) → K2 (x1 + 1)) ∧ ((sI (M 15 (sI x1).toNat)) ≠ (-1) → wR_most a0 x1 M (fun z15 => wR_most a1 x1 M (fun z19 => ((0 ≤ (sI x1) ∧ (sI x1) < 60) ∧ ((orI z15 z19) = (sI (M 15 (sI x1).toNat)) → K2 (x1 + 1)) ∧ ((orI z15 z19) ≠ (sI (M 15 (sI x1).toNat)) → Q 0)))))))) 0
set_option maxHeartbeats 4000000 in
set_option maxRecDepth 100000 in
theorem cR_isPair (l : Launch) (D : va_G) (dA : Nat → ClassId) (b : Nat) (M : zM) (a0 : Int) (a1 : Int)  (Q : Int → Prop) (h : wR_isPair a0 a1 M Q) : Met l yX12_isPair (.code yX12_isPair cX12_isPair 4 (some .boolean) :: zt) (z_rm 1) (va_Pc [.ref (b + 0), .int (iI a0), .int (iI a1)] (wPre D dA vwCl (z_tys dA) wR nR b M)) (va_Qi (wQz (fun z9 u9 => u9 = M ∧ Q z9)) (zB D dA vwCl wR nR b) (zA nR b)) 0 0 (zA nR b) := by
  unfold wR_isPair at h
  refine Met.ofW (cc := cX12_isPair) (maxL := 4) (ret := (some .boolean)) (by decide) rfl ?_
  intro p e s m args below meth c s₁ B hml hv
  obtain ⟨hargs, hS, hK⟩ := hv
  have hx := B.exec
  have hb := B.bytes
  have hr := B.returns
  have hts := atoms_spec (ws := .code yX12_isPair cX12_isPair 4 (some .boolean) :: zt) B.pre
  have hown : s.vm.findClass RX12 = some m.cls := findClass_of_methodNamed B.named
  have hlocks := B.notSynchronized
  have hS0 : va_S (zA nR b) s.heap s.heap [] := va_S.rf
  have hl := lv_entry ([.ref (b + 0), .int (iI a0), .int (iI a1)]) (n := 4) (Nat.le_of_ble_eq_true rfl)
  have hent : entryFrame m args 4 = F0 m 0 ((lg_sl ([.ref (b + 0), .int (iI a0), .int (iI a1)]) ++ List.replicate (4 - (lg_sl ([.ref (b + 0), .int (iI a0), .int (iI a1)])).length) Slot.unset).toArray) [] := by rw [hargs]; exact lg_entry_eq m ([.ref (b + 0), .int (iI a0), .int (iI a1)]) 4
  rw [hent]
  generalize (lg_sl ([.ref (b + 0), .int (iI a0), .int (iI a1)]) ++ List.replicate (4 - (lg_sl ([.ref (b + 0), .int (iI a0), .int (iI a1)])).length) Slot.unset).toArray = ls at hl ⊢
  have hl : lv_has ls 4 [(0, .ref (b + 0)), (1, .int (iI a0)), (2, .int (iI a1))] := hl
  refine z_iconst hx hb dX12_isPair_0 ?_
  refine lv_istore_n (lv' := [(3, .int (iI 0)), (0, .ref (b + 0)), (1, .int (iI a0)), (2, .int (iI a1))]) hx hb dX12_isPair_1 rfl hl (by decide) rfl (fun ls hl => ?_)
  obtain ⟨I2, ⟨n3, h4⟩, h5⟩ := h
  have L6 : ∀ (n7 : Nat) (x1 : Int) (H : Heap) (locs : List Loc) (ls : Array Slot), I2 n7 x1 → zR D dA vwCl wR nR b M H → va_S (zA nR b) s.heap H locs → lv_has ls 4 [(0, .ref (b + 0)), (1, .int (iI a0)), (2, .int (iI a1)), (3, .int (iI x1))] → W p l e (headSpec (.code yX12_isPair cX12_isPair 4 (some .boolean) :: zt) (z_rm 1)).room s m args below meth c H locs 0 0 (MQ below (va_Qi (wQz (fun z9 u9 => u9 = M ∧ Q z9)) (zB D dA vwCl wR nR b) (zA nR b)) args s 0 0 (zA nR b)) (F0 m 2 ls []) := by
    intro n7
    induction n7 using Nat.strongRecOn with
    | ind n7 i8 =>
      intro x1 H locs ls h hS hS0 hl
      have h := h5 n7 x1 h
      refine lv_iload_n hx hb dX12_isPair_2 rfl (lv_at hl 3 rfl) ?_
      refine lv_aload_n hx hb dX12_isPair_3 rfl (lv_at hl 0 rfl) ?_
      refine w_geti hx hb hts (z_memU u12) hown hK.1 hS f12_24 (by decide) (zkd_of (rfl : zcd wR 0 = 50) rfl) (Or.inl (hts _ (z_mem k968))) dX12_isPair_4 ?_
      refine w_icmp_ge (tgt := 50) hx hb rfl rfl dX12_isPair_7 (by decide) (fun c9 => ?_) (fun c9 => ?_)
      · skip
        have h := h.1 c9
        refine z_iconst hx hb dX12_isPair_50 ?_
        exact w_zret hx hb hr hlocks hS hS0 (sI_of (by decide)) (by decide) ⟨rfl, h⟩ dX12_isPair_51
      · skip
        have h := h.2 c9
        refine lv_aload_n hx hb dX12_isPair_10 rfl (lv_at hl 0 rfl) ?_
        refine w_getr (j2 := 15) hx hb hts (z_memU u12) hown hK.1 hS f12_23 (by decide) (zkd_of (rfl : zcd wR 0 = 50) rfl) (zrf_of (rfl : zcd wR 0 = 50) rfl) (Or.inl (hts _ (z_mem k967))) dX12_isPair_11 ?_
        refine lv_iload_n hx hb dX12_isPair_14 rfl (lv_at hl 3 rfl) ?_
        obtain ⟨o10, h⟩ := h
        refine w_iald (n := 60) (i := (sI x1)) hx hb hK.1 (t0 := 0) rfl hS (by decide) (zkd_of (rfl : zcd wR 15 = 65) rfl) (zln_of (rfl : zcd wR 15 = 65) rfl) rfl o10.1 o10.2 (by decide) dX12_isPair_15 ?_
        refine z_iconst hx hb dX12_isPair_16 ?_
        refine w_icmp_eq (tgt := 44) hx hb rfl (sI_of (by decide)) dX12_isPair_17 (by decide) (fun c11 => ?_) (fun c11 => ?_)
        · skip
          have h := h.1 c11
          refine z_iinc (lv' := [(3, .int (iI (x1 + 1))), (0, .ref (b + 0)), (1, .int (iI a0)), (2, .int (iI a1))]) hx hb dX12_isPair_44 hl (k := 3) rfl (by decide) rfl (fun ls hl => ?_)
          refine lv_goto (tgt := 2) hx hb dX12_isPair_47 (by decide) ?_
          obtain ⟨n12, h13, h⟩ := h
          exact i8 n12 h13 (x1 + 1) _ _ _ h hS hS0 (lv_sub hl [1, 2, 3, 0] rfl)
        · skip
          have h := h.2 c11
          refine lv_aload_n hx hb dX12_isPair_20 rfl (lv_at hl 0 rfl) ?_
          refine lv_iload_n hx hb dX12_isPair_21 rfl (lv_at hl 1 rfl) ?_
          refine lv_iload_n hx hb dX12_isPair_22 rfl (lv_at hl 3 rfl) ?_
          refine w_calli (va_runV (As := [.int (iI a0), .int (iI x1)]) (rest := []) ⟨hx, hb, hml, hown, hts⟩ (cR_most l D dA b M a0 x1 _ h) (cwV 2 hts (z_gV k1297 k1298 k1419 k14 k1299) rfl rfl rfl dm_X12_most ⟨Nat.le_of_ble_eq_true rfl, Nat.le_of_ble_eq_true rfl⟩) ⟨wPre_blind, (w_recv hS hK.1 (by decide) (zkd_of (rfl : zcd wR 0 = 50) rfl) (by decide) (rfl : vwCl[12]? = some (RX12, TX12, 50))), w_pre hS hK⟩ rfl rfl hl.1 rfl (lv_room (Nat.le_of_ble_eq_true rfl)) dX12_isPair_23 ⟨Nat.le_refl _, Nat.le_refl _⟩) hS0 (fun z15 M14 H locs r16 h hS hS0 => ?_)
          obtain ⟨e17, h⟩ := h
          rw [e17] at hS
          refine lv_aload_n hx hb dX12_isPair_26 rfl (lv_at hl 0 rfl) ?_
          refine lv_iload_n hx hb dX12_isPair_27 rfl (lv_at hl 2 rfl) ?_
          refine lv_iload_n hx hb dX12_isPair_28 rfl (lv_at hl 3 rfl) ?_
          refine w_calli (va_runV (As := [.int (iI a1), .int (iI x1)]) (rest := [.int (iI z15)]) ⟨hx, hb, hml, hown, hts⟩ (cR_most l D dA b M a1 x1 _ h) (cwV 2 hts (z_gV k1297 k1298 k1419 k14 k1299) rfl rfl rfl dm_X12_most ⟨Nat.le_of_ble_eq_true rfl, Nat.le_of_ble_eq_true rfl⟩) ⟨wPre_blind, (w_recv hS hK.1 (by decide) (zkd_of (rfl : zcd wR 0 = 50) rfl) (by decide) (rfl : vwCl[12]? = some (RX12, TX12, 50))), w_pre hS hK⟩ rfl rfl hl.1 rfl (lv_room (Nat.le_of_ble_eq_true rfl)) dX12_isPair_29 ⟨Nat.le_refl _, Nat.le_refl _⟩) hS0 (fun z19 M18 H locs r20 h hS hS0 => ?_)
          obtain ⟨e21, h⟩ := h
          rw [e21] at hS
          refine w_ior hx hb dX12_isPair_32 ?_
          refine lv_aload_n hx hb dX12_isPair_33 rfl (lv_at hl 0 rfl) ?_
          refine w_getr (j2 := 15) hx hb hts (z_memU u12) hown hK.1 hS f12_23 (by decide) (zkd_of (rfl : zcd wR 0 = 50) rfl) (zrf_of (rfl : zcd wR 0 = 50) rfl) (Or.inl (hts _ (z_mem k967))) dX12_isPair_34 ?_
          refine lv_iload_n hx hb dX12_isPair_37 rfl (lv_at hl 3 rfl) ?_
          obtain ⟨o22, h⟩ := h
          refine w_iald (n := 60) (i := (sI x1)) hx hb hK.1 (t0 := 0) rfl hS (by decide) (zkd_of (rfl : zcd wR 15 = 65) rfl) (zln_of (rfl : zcd wR 15 = 65) rfl) rfl o22.1 o22.2 (by decide) dX12_isPair_38 ?_
          refine w_icmp_eq (tgt := 44) hx hb (sI_of (orI_R _ _)) rfl dX12_isPair_39 (by decide) (fun c23 => ?_) (fun c23 => ?_)
          · skip
            have h := h.1 c23
            refine z_iinc (lv' := [(3, .int (iI (x1 + 1))), (0, .ref (b + 0)), (1, .int (iI a0)), (2, .int (iI a1))]) hx hb dX12_isPair_44 hl (k := 3) rfl (by decide) rfl (fun ls hl => ?_)
            refine lv_goto (tgt := 2) hx hb dX12_isPair_47 (by decide) ?_
            obtain ⟨n24, h25, h⟩ := h
            exact i8 n24 h25 (x1 + 1) _ _ _ h hS hS0 (lv_sub hl [1, 2, 3, 0] rfl)
          · skip
            have h := h.2 c23
            refine z_iconst hx hb dX12_isPair_42 ?_
            exact w_zret hx hb hr hlocks hS hS0 (sI_of (by decide)) (by decide) ⟨rfl, h⟩ dX12_isPair_43
  exact L6 n3 0 _ _ _ h4 hS hS0 (lv_sub hl [1, 2, 3, 0] rfl)

set_option maxRecDepth 100000 in
def wR_pairAt (a0 : Int) (M : zM) (Q : Int → Prop) : Prop := pL2 (fun K4 x1 x2 => (48 < (sI x2) → Q (-1)) ∧ ((sI x2) ≤ 48 → pL2 (fun K20 x11 x12 => ((sI x2) < (sI (2 * x12)) → K4 x11 (x2 + 1)) ∧ ((sI (2 * x12)) ≤ (sI x2) → wR_isPair x12 (x2 - x12) M (fun z24 => (z24 ≠ 0 → ((sI x11) ≠ 0 → K20 (x11 + (-1)) (x12 + 1)) ∧ ((sI x11) = 0 → Q (sI (((100 * x12) + x2) - x12)))) ∧ (z24 = 0 → K20 x11 (x12 + 1))))) x1 (max 1 (sI (x2 - 24))))) a0 2
set_option maxHeartbeats 4000000 in
set_option maxRecDepth 100000 in
theorem cR_pairAt (l : Launch) (D : va_G) (dA : Nat → ClassId) (b : Nat) (M : zM) (a0 : Int)  (Q : Int → Prop) (h : wR_pairAt a0 M Q) : Met l yX12_pairAt (.code yX12_pairAt cX12_pairAt 5 (some .int) :: zt) (z_rm 2) (va_Pc [.ref (b + 0), .int (iI a0)] (wPre D dA vwCl (z_tys dA) wR nR b M)) (va_Qi (wQi (fun z9 u9 => u9 = M ∧ Q z9)) (zB D dA vwCl wR nR b) (zA nR b)) 0 0 (zA nR b) := by
  unfold wR_pairAt at h
  refine Met.ofW (cc := cX12_pairAt) (maxL := 5) (ret := (some .int)) (by decide) rfl ?_
  intro p e s m args below meth c s₁ B hml hv
  obtain ⟨hargs, hS, hK⟩ := hv
  have hx := B.exec
  have hb := B.bytes
  have hr := B.returns
  have hts := atoms_spec (ws := .code yX12_pairAt cX12_pairAt 5 (some .int) :: zt) B.pre
  have hown : s.vm.findClass RX12 = some m.cls := findClass_of_methodNamed B.named
  have hlocks := B.notSynchronized
  have hS0 : va_S (zA nR b) s.heap s.heap [] := va_S.rf
  have hl := lv_entry ([.ref (b + 0), .int (iI a0)]) (n := 5) (Nat.le_of_ble_eq_true rfl)
  have hent : entryFrame m args 5 = F0 m 0 ((lg_sl ([.ref (b + 0), .int (iI a0)]) ++ List.replicate (5 - (lg_sl ([.ref (b + 0), .int (iI a0)])).length) Slot.unset).toArray) [] := by rw [hargs]; exact lg_entry_eq m ([.ref (b + 0), .int (iI a0)]) 5
  rw [hent]
  generalize (lg_sl ([.ref (b + 0), .int (iI a0)]) ++ List.replicate (5 - (lg_sl ([.ref (b + 0), .int (iI a0)])).length) Slot.unset).toArray = ls at hl ⊢
  have hl : lv_has ls 5 [(0, .ref (b + 0)), (1, .int (iI a0))] := hl
  refine lv_iload_n hx hb dX12_pairAt_0 rfl (lv_at hl 1 rfl) ?_
  refine lv_istore_n (lv' := [(2, .int (iI a0)), (0, .ref (b + 0)), (1, .int (iI a0))]) hx hb dX12_pairAt_1 rfl hl (by decide) rfl (fun ls hl => ?_)
  refine z_iconst hx hb dX12_pairAt_2 ?_
  refine lv_istore_n (lv' := [(3, .int (iI 2)), (2, .int (iI a0)), (0, .ref (b + 0)), (1, .int (iI a0))]) hx hb dX12_pairAt_3 rfl hl (by decide) rfl (fun ls hl => ?_)
  obtain ⟨I3, ⟨n4, h5⟩, h6⟩ := h
  have L7 : ∀ (n8 : Nat) (x1 x2 : Int) (H : Heap) (locs : List Loc) (ls : Array Slot), I3 n8 x1 x2 → zR D dA vwCl wR nR b M H → va_S (zA nR b) s.heap H locs → lv_has ls 5 [(0, .ref (b + 0)), (2, .int (iI x1)), (3, .int (iI x2))] → W p l e (headSpec (.code yX12_pairAt cX12_pairAt 5 (some .int) :: zt) (z_rm 2)).room s m args below meth c H locs 0 0 (MQ below (va_Qi (wQi (fun z9 u9 => u9 = M ∧ Q z9)) (zB D dA vwCl wR nR b) (zA nR b)) args s 0 0 (zA nR b)) (F0 m 4 ls []) := by
    intro n8
    induction n8 using Nat.strongRecOn with
    | ind n8 i9 =>
      intro x1 x2 H locs ls h hS hS0 hl
      have h := h6 n8 x1 x2 h
      refine lv_iload_n hx hb dX12_pairAt_4 rfl (lv_at hl 2 rfl) ?_
      refine z_bipush hx hb (by decide) dX12_pairAt_5 ?_
      refine w_icmp_gt (tgt := 74) hx hb rfl (sI_of (by decide)) dX12_pairAt_7 (by decide) (fun c10 => ?_) (fun c10 => ?_)
      · skip
        have h := h.1 c10
        refine z_iconst hx hb dX12_pairAt_74 ?_
        exact w_iret hx hb hr hlocks hS hS0 (sI_of (by decide)) ⟨rfl, h⟩ dX12_pairAt_75
      · skip
        have h := h.2 c10
        refine z_iconst hx hb dX12_pairAt_10 ?_
        refine lv_iload_n hx hb dX12_pairAt_11 rfl (lv_at hl 2 rfl) ?_
        refine z_bipush hx hb (by decide) dX12_pairAt_12 ?_
        refine z_isub hx hb dX12_pairAt_14 ?_
        refine w_mmax hx hb (hml.trans hl.1.symm) hown (hts _ (z_mem k1192)) (hts _ (z_mem k341)) (hts _ (z_mem k15)) (hts _ (z_mem k342)) (by exact Nat.le_of_ble_eq_true rfl) (by exact Nat.le_of_ble_eq_true rfl) (by exact Nat.le_refl _) (by exact Nat.le_refl _) (sI_of (by decide)) rfl dX12_pairAt_15 ?_
        refine lv_istore (lv' := [(4, .int (iI (max 1 (sI (x2 - 24))))), (0, .ref (b + 0)), (2, .int (iI x1)), (3, .int (iI x2))]) hx hb dX12_pairAt_18 hl (by decide) rfl (fun ls hl => ?_)
        obtain ⟨I13, ⟨n14, h15⟩, h16⟩ := h
        have L17 : ∀ (n18 : Nat) (x11 x12 : Int) (H : Heap) (locs : List Loc) (ls : Array Slot), I13 n18 x11 x12 → zR D dA vwCl wR nR b M H → va_S (zA nR b) s.heap H locs → lv_has ls 5 [(0, .ref (b + 0)), (2, .int (iI x11)), (3, .int (iI x2)), (4, .int (iI x12))] → W p l e (headSpec (.code yX12_pairAt cX12_pairAt 5 (some .int) :: zt) (z_rm 2)).room s m args below meth c H locs 0 0 (MQ below (va_Qi (wQi (fun z9 u9 => u9 = M ∧ Q z9)) (zB D dA vwCl wR nR b) (zA nR b)) args s 0 0 (zA nR b)) (F0 m 20 ls []) := by
          intro n18
          induction n18 using Nat.strongRecOn with
          | ind n18 i19 =>
            intro x11 x12 H locs ls h hS hS0 hl
            have h := h16 n18 x11 x12 h
            refine z_iconst hx hb dX12_pairAt_20 ?_
            refine lv_iload hx hb dX12_pairAt_21 (lv_at hl 3 rfl) ?_
            refine z_imul hx hb dX12_pairAt_23 ?_
            refine lv_iload_n hx hb dX12_pairAt_24 rfl (lv_at hl 2 rfl) ?_
            refine w_icmp_gt (tgt := 68) hx hb rfl rfl dX12_pairAt_25 (by decide) (fun c20 => ?_) (fun c20 => ?_)
            · skip
              have h := h.1 c20
              refine z_iinc (lv' := [(3, .int (iI (x2 + 1))), (0, .ref (b + 0)), (2, .int (iI x11)), (4, .int (iI x12))]) hx hb dX12_pairAt_68 hl (k := 2) rfl (by decide) rfl (fun ls hl => ?_)
              refine lv_goto (tgt := 4) hx hb dX12_pairAt_71 (by decide) ?_
              obtain ⟨n21, h22, h⟩ := h
              exact i9 n21 h22 x11 (x2 + 1) _ _ _ h hS hS0 (lv_sub hl [1, 2, 0] rfl)
            · skip
              have h := h.2 c20
              refine lv_aload_n hx hb dX12_pairAt_28 rfl (lv_at hl 0 rfl) ?_
              refine lv_iload hx hb dX12_pairAt_29 (lv_at hl 3 rfl) ?_
              refine lv_iload_n hx hb dX12_pairAt_31 rfl (lv_at hl 2 rfl) ?_
              refine lv_iload hx hb dX12_pairAt_32 (lv_at hl 3 rfl) ?_
              refine z_isub hx hb dX12_pairAt_34 ?_
              refine w_callz (va_runV (As := [.int (iI x12), .int (iI (x2 - x12))]) (rest := []) ⟨hx, hb, hml, hown, hts⟩ (cR_isPair l D dA b M x12 (x2 - x12) _ h) (cwV 2 hts (z_gV k1294 k1295 k1418 k14 k1296) rfl rfl rfl dm_X12_isPair ⟨Nat.le_of_ble_eq_true rfl, Nat.le_of_ble_eq_true rfl⟩) ⟨wPre_blind, (w_recv hS hK.1 (by decide) (zkd_of (rfl : zcd wR 0 = 50) rfl) (by decide) (rfl : vwCl[12]? = some (RX12, TX12, 50))), w_pre hS hK⟩ rfl rfl hl.1 rfl (lv_room (Nat.le_of_ble_eq_true rfl)) dX12_pairAt_35 ⟨Nat.le_refl _, Nat.le_refl _⟩) hS0 (fun z24 M23 H locs r25 h hS hS0 => ?_)
              obtain ⟨e26, h⟩ := h
              rw [e26] at hS
              refine w_if_ne (tgt := 44) hx hb (sI_01 r25) dX12_pairAt_38 (by decide) (fun c27 => ?_) (fun c27 => ?_)
              · skip
                have h := h.1 c27
                refine lv_iload_n hx hb dX12_pairAt_44 rfl (lv_at hl 1 rfl) ?_
                refine w_if_ne (tgt := 59) hx hb rfl dX12_pairAt_45 (by decide) (fun c28 => ?_) (fun c28 => ?_)
                · skip
                  have h := h.1 c28
                  refine z_iinc (lv' := [(2, .int (iI (x11 + (-1)))), (0, .ref (b + 0)), (3, .int (iI x2)), (4, .int (iI x12))]) hx hb dX12_pairAt_59 hl (k := 1) rfl (by decide) rfl (fun ls hl => ?_)
                  refine z_iinc (lv' := [(4, .int (iI (x12 + 1))), (2, .int (iI (x11 + (-1)))), (0, .ref (b + 0)), (3, .int (iI x2))]) hx hb dX12_pairAt_62 hl (k := 3) rfl (by decide) rfl (fun ls hl => ?_)
                  refine lv_goto (tgt := 20) hx hb dX12_pairAt_65 (by decide) ?_
                  obtain ⟨n29, h30, h⟩ := h
                  exact i19 n29 h30 (x11 + (-1)) (x12 + 1) _ _ _ h hS hS0 (lv_sub hl [2, 1, 3, 0] rfl)
                · skip
                  have h := h.2 c28
                  refine z_bipush hx hb (by decide) dX12_pairAt_48 ?_
                  refine lv_iload hx hb dX12_pairAt_50 (lv_at hl 3 rfl) ?_
                  refine z_imul hx hb dX12_pairAt_52 ?_
                  refine lv_iload_n hx hb dX12_pairAt_53 rfl (lv_at hl 2 rfl) ?_
                  refine z_iadd hx hb dX12_pairAt_54 ?_
                  refine lv_iload hx hb dX12_pairAt_55 (lv_at hl 3 rfl) ?_
                  refine z_isub hx hb dX12_pairAt_57 ?_
                  exact w_iret hx hb hr hlocks hS hS0 rfl ⟨rfl, h⟩ dX12_pairAt_58
              · skip
                have h := h.2 c27
                refine lv_goto (tgt := 62) hx hb dX12_pairAt_41 (by decide) ?_
                refine z_iinc (lv' := [(4, .int (iI (x12 + 1))), (0, .ref (b + 0)), (2, .int (iI x11)), (3, .int (iI x2))]) hx hb dX12_pairAt_62 hl (k := 3) rfl (by decide) rfl (fun ls hl => ?_)
                refine lv_goto (tgt := 20) hx hb dX12_pairAt_65 (by decide) ?_
                obtain ⟨n31, h32, h⟩ := h
                exact i19 n31 h32 x11 (x12 + 1) _ _ _ h hS hS0 (lv_sub hl [1, 2, 3, 0] rfl)
        exact L17 n14 x1 (max 1 (sI (x2 - 24))) _ _ _ h15 hS hS0 (lv_sub hl [1, 2, 3, 0] rfl)
  exact L7 n4 a0 2 _ _ _ h5 hS hS0 (lv_sub hl [2, 1, 0] rfl)

set_option maxRecDepth 100000 in
def wR_pair (a0 : Int) (M : zM) (Q : Int → zM → Prop) : Prop := (∀ M1 : zM, M1 = zup M 0 35 0 → (0 ≤ (sI a0) → wR_pairAt a0 M1 (fun z5 => Q z5 M1)) ∧ ((sI a0) < 0 → Q (-1) M1))
set_option maxHeartbeats 4000000 in
set_option maxRecDepth 100000 in
theorem cR_pair (l : Launch) (D : va_G) (dA : Nat → ClassId) (b : Nat) (M : zM) (a0 : Int)  (Q : Int → zM → Prop) (h : wR_pair a0 M Q) : Met l yX12_pair (.code yX12_pair cX12_pair 2 (some .int) :: zt) (z_rm 3) (va_Pc [.ref (b + 0), .int (iI a0)] (wPre D dA vwCl (z_tys dA) wR nR b M)) (va_Qi (wQi Q) (zB D dA vwCl wR nR b) (zA nR b)) 0 0 (zA nR b) := by
  unfold wR_pair at h
  refine Met.ofW (cc := cX12_pair) (maxL := 2) (ret := (some .int)) (by decide) rfl ?_
  intro p e s m args below meth c s₁ B hml hv
  obtain ⟨hargs, hS, hK⟩ := hv
  have hx := B.exec
  have hb := B.bytes
  have hr := B.returns
  have hts := atoms_spec (ws := .code yX12_pair cX12_pair 2 (some .int) :: zt) B.pre
  have hown : s.vm.findClass RX12 = some m.cls := findClass_of_methodNamed B.named
  have hlocks := B.notSynchronized
  have hS0 : va_S (zA nR b) s.heap s.heap [] := va_S.rf
  have hl := lv_entry ([.ref (b + 0), .int (iI a0)]) (n := 2) (Nat.le_of_ble_eq_true rfl)
  have hent : entryFrame m args 2 = F0 m 0 ((lg_sl ([.ref (b + 0), .int (iI a0)]) ++ List.replicate (2 - (lg_sl ([.ref (b + 0), .int (iI a0)])).length) Slot.unset).toArray) [] := by rw [hargs]; exact lg_entry_eq m ([.ref (b + 0), .int (iI a0)]) 2
  rw [hent]
  generalize (lg_sl ([.ref (b + 0), .int (iI a0)]) ++ List.replicate (2 - (lg_sl ([.ref (b + 0), .int (iI a0)])).length) Slot.unset).toArray = ls at hl ⊢
  have hl : lv_has ls 2 [(0, .ref (b + 0)), (1, .int (iI a0))] := hl
  refine lv_aload_n hx hb dX12_pair_0 rfl (lv_at hl 0 rfl) ?_
  refine z_iconst hx hb dX12_pair_1 ?_
  refine w_puti hx hb hts (z_memU u12) tyX12 tyX12_ok nmX12 hown hK.1 hS hS0 f12_35 (by decide) (zkd_of (rfl : zcd wR 0 = 50) rfl) (Or.inl (hts _ (z_mem k979))) rfl (z := 0) (by decide +kernel) dX12_pair_2 (fun H locs hS hS0 => ?_)
  obtain ⟨M1, e2⟩ : ∃ M1 : zM, M1 = zup M 0 35 0 := ⟨_, rfl⟩
  rw [← e2] at hS
  have h := h M1 e2
  refine lv_iload_n hx hb dX12_pair_5 rfl (lv_at hl 1 rfl) ?_
  refine w_if_ge (tgt := 13) hx hb rfl dX12_pair_6 (by decide) (fun c3 => ?_) (fun c3 => ?_)
  · skip
    have h := h.1 c3
    refine lv_aload_n hx hb dX12_pair_13 rfl (lv_at hl 0 rfl) ?_
    refine lv_iload_n hx hb dX12_pair_14 rfl (lv_at hl 1 rfl) ?_
    refine w_calli (va_runV (As := [.int (iI a0)]) (rest := []) ⟨hx, hb, hml, hown, hts⟩ (cR_pairAt l D dA b M1 a0 _ h) (cwV 1 hts (z_gV k1291 k1292 k1417 k14 k1293) rfl rfl rfl dm_X12_pairAt ⟨Nat.le_of_ble_eq_true rfl, Nat.le_of_ble_eq_true rfl⟩) ⟨wPre_blind, (w_recv hS hK.1 (by decide) (zkd_of (rfl : zcd wR 0 = 50) rfl) (by decide) (rfl : vwCl[12]? = some (RX12, TX12, 50))), w_pre hS hK⟩ rfl rfl hl.1 rfl (lv_room (Nat.le_of_ble_eq_true rfl)) dX12_pair_15 ⟨Nat.le_refl _, Nat.le_refl _⟩) hS0 (fun z5 M4 H locs r6 h hS hS0 => ?_)
    obtain ⟨e7, h⟩ := h
    rw [e7] at hS
    exact w_iret hx hb hr hlocks hS hS0 (sI_of r6) h dX12_pair_18
  · skip
    have h := h.2 c3
    refine z_iconst hx hb dX12_pair_9 ?_
    refine lv_goto (tgt := 18) hx hb dX12_pair_10 (by decide) ?_
    exact w_iret hx hb hr hlocks hS hS0 (sI_of (by decide)) h dX12_pair_18

set_option maxRecDepth 100000 in
def wR_mended (a0 : Int) (M : zM) (Q : Int → zM → Prop) : Prop := (∀ M1 : zM, M1 = zup M 0 35 0 → wR_in a0 0 ((M1 0 24) - 1) M1 (fun z4 => (z4 ≠ 0 → wR_pairAt 0 M1 (fun z9 => (z9 ≠ (-1) → wR_most (z9.tdiv 100) a0 M1 (fun z14 => wR_most (z9.tmod 100) a0 M1 (fun z18 => Q (orI z14 z18) M1))) ∧ (z9 = (-1) → Q (-1) M1))) ∧ (z4 = 0 → Q (-1) M1)))
set_option maxHeartbeats 4000000 in
set_option maxRecDepth 100000 in
theorem cR_mended (l : Launch) (D : va_G) (dA : Nat → ClassId) (b : Nat) (M : zM) (a0 : Int)  (Q : Int → zM → Prop) (h : wR_mended a0 M Q) : Met l yX12_mended (.code yX12_mended cX12_mended 3 (some .int) :: zt) (z_rm 3) (va_Pc [.ref (b + 0), .int (iI a0)] (wPre D dA vwCl (z_tys dA) wR nR b M)) (va_Qi (wQi Q) (zB D dA vwCl wR nR b) (zA nR b)) 0 0 (zA nR b) := by
  unfold wR_mended at h
  refine Met.ofW (cc := cX12_mended) (maxL := 3) (ret := (some .int)) (by decide) rfl ?_
  intro p e s m args below meth c s₁ B hml hv
  obtain ⟨hargs, hS, hK⟩ := hv
  have hx := B.exec
  have hb := B.bytes
  have hr := B.returns
  have hts := atoms_spec (ws := .code yX12_mended cX12_mended 3 (some .int) :: zt) B.pre
  have hown : s.vm.findClass RX12 = some m.cls := findClass_of_methodNamed B.named
  have hlocks := B.notSynchronized
  have hS0 : va_S (zA nR b) s.heap s.heap [] := va_S.rf
  have hl := lv_entry ([.ref (b + 0), .int (iI a0)]) (n := 3) (Nat.le_of_ble_eq_true rfl)
  have hent : entryFrame m args 3 = F0 m 0 ((lg_sl ([.ref (b + 0), .int (iI a0)]) ++ List.replicate (3 - (lg_sl ([.ref (b + 0), .int (iI a0)])).length) Slot.unset).toArray) [] := by rw [hargs]; exact lg_entry_eq m ([.ref (b + 0), .int (iI a0)]) 3
  rw [hent]
  generalize (lg_sl ([.ref (b + 0), .int (iI a0)]) ++ List.replicate (3 - (lg_sl ([.ref (b + 0), .int (iI a0)])).length) Slot.unset).toArray = ls at hl ⊢
  have hl : lv_has ls 3 [(0, .ref (b + 0)), (1, .int (iI a0))] := hl
  refine lv_aload_n hx hb dX12_mended_0 rfl (lv_at hl 0 rfl) ?_
  refine z_iconst hx hb dX12_mended_1 ?_
  refine w_puti hx hb hts (z_memU u12) tyX12 tyX12_ok nmX12 hown hK.1 hS hS0 f12_35 (by decide) (zkd_of (rfl : zcd wR 0 = 50) rfl) (Or.inl (hts _ (z_mem k979))) rfl (z := 0) (by decide +kernel) dX12_mended_2 (fun H locs hS hS0 => ?_)
  obtain ⟨M1, e2⟩ : ∃ M1 : zM, M1 = zup M 0 35 0 := ⟨_, rfl⟩
  rw [← e2] at hS
  have h := h M1 e2
  refine lv_iload_n hx hb dX12_mended_5 rfl (lv_at hl 1 rfl) ?_
  refine z_iconst hx hb dX12_mended_6 ?_
  refine lv_aload_n hx hb dX12_mended_7 rfl (lv_at hl 0 rfl) ?_
  refine w_geti hx hb hts (z_memU u12) hown hK.1 hS f12_24 (by decide) (zkd_of (rfl : zcd wR 0 = 50) rfl) (Or.inl (hts _ (z_mem k968))) dX12_mended_8 ?_
  refine z_iconst hx hb dX12_mended_11 ?_
  refine z_isub hx hb dX12_mended_12 ?_
  refine w_callz (va_runS (As := [.int (iI a0), .int (iI 0), .int (iI ((M1 0 24) - 1))]) (rest := []) ⟨hx, hb, hml, hown, hts⟩ (cR_in l D dA b M1 a0 0 ((M1 0 24) - 1) _ h) (va_cwS 3 hts (z_gS k1083 k1084 k14 k1085) rfl rfl rfl dm_X12_in.2 ⟨Nat.le_of_ble_eq_true rfl, Nat.le_of_ble_eq_true rfl⟩) ⟨wPre_blind, w_pre hS hK⟩ rfl rfl hl.1 rfl (lv_room (Nat.le_of_ble_eq_true rfl)) dX12_mended_13 ⟨Nat.le_refl _, Nat.le_refl _⟩) hS0 (fun z4 M3 H locs r5 h hS hS0 => ?_)
  obtain ⟨e6, h⟩ := h
  rw [e6] at hS
  refine w_if_ne (tgt := 21) hx hb (sI_01 r5) dX12_mended_16 (by decide) (fun c7 => ?_) (fun c7 => ?_)
  · skip
    have h := h.1 c7
    refine lv_aload_n hx hb dX12_mended_21 rfl (lv_at hl 0 rfl) ?_
    refine z_iconst hx hb dX12_mended_22 ?_
    refine w_calli (va_runV (As := [.int (iI 0)]) (rest := []) ⟨hx, hb, hml, hown, hts⟩ (cR_pairAt l D dA b M1 0 _ h) (cwV 1 hts (z_gV k1291 k1292 k1417 k14 k1293) rfl rfl rfl dm_X12_pairAt ⟨Nat.le_of_ble_eq_true rfl, Nat.le_of_ble_eq_true rfl⟩) ⟨wPre_blind, (w_recv hS hK.1 (by decide) (zkd_of (rfl : zcd wR 0 = 50) rfl) (by decide) (rfl : vwCl[12]? = some (RX12, TX12, 50))), w_pre hS hK⟩ rfl rfl hl.1 rfl (lv_room (Nat.le_of_ble_eq_true rfl)) dX12_mended_23 ⟨Nat.le_refl _, Nat.le_refl _⟩) hS0 (fun z9 M8 H locs r10 h hS hS0 => ?_)
    obtain ⟨e11, h⟩ := h
    rw [e11] at hS
    refine lv_istore_n (lv' := [(2, .int (iI z9)), (0, .ref (b + 0)), (1, .int (iI a0))]) hx hb dX12_mended_26 rfl hl (by decide) rfl (fun ls hl => ?_)
    refine lv_iload_n hx hb dX12_mended_27 rfl (lv_at hl 0 rfl) ?_
    refine z_iconst hx hb dX12_mended_28 ?_
    refine w_icmp_ne (tgt := 36) hx hb (sI_of r10) (sI_of (by decide)) dX12_mended_29 (by decide) (fun c12 => ?_) (fun c12 => ?_)
    · skip
      have h := h.1 c12
      refine lv_aload_n hx hb dX12_mended_36 rfl (lv_at hl 1 rfl) ?_
      refine lv_iload_n hx hb dX12_mended_37 rfl (lv_at hl 0 rfl) ?_
      refine z_bipush hx hb (by decide) dX12_mended_38 ?_
      refine w_idiv hx hb (sI_of r10) (sI_of (by decide)) (by decide) dX12_mended_40 ?_
      refine lv_iload_n hx hb dX12_mended_41 rfl (lv_at hl 2 rfl) ?_
      refine w_calli (va_runV (As := [.int (iI (z9.tdiv 100)), .int (iI a0)]) (rest := []) ⟨hx, hb, hml, hown, hts⟩ (cR_most l D dA b M1 (z9.tdiv 100) a0 _ h) (cwV 2 hts (z_gV k1297 k1298 k1419 k14 k1299) rfl rfl rfl dm_X12_most ⟨Nat.le_of_ble_eq_true rfl, Nat.le_of_ble_eq_true rfl⟩) ⟨wPre_blind, (w_recv hS hK.1 (by decide) (zkd_of (rfl : zcd wR 0 = 50) rfl) (by decide) (rfl : vwCl[12]? = some (RX12, TX12, 50))), w_pre hS hK⟩ rfl rfl hl.1 rfl (lv_room (Nat.le_of_ble_eq_true rfl)) dX12_mended_42 ⟨Nat.le_refl _, Nat.le_refl _⟩) hS0 (fun z14 M13 H locs r15 h hS hS0 => ?_)
      obtain ⟨e16, h⟩ := h
      rw [e16] at hS
      refine lv_aload_n hx hb dX12_mended_45 rfl (lv_at hl 1 rfl) ?_
      refine lv_iload_n hx hb dX12_mended_46 rfl (lv_at hl 0 rfl) ?_
      refine z_bipush hx hb (by decide) dX12_mended_47 ?_
      refine w_irem hx hb (sI_of r10) (sI_of (by decide)) (by decide) dX12_mended_49 ?_
      refine lv_iload_n hx hb dX12_mended_50 rfl (lv_at hl 2 rfl) ?_
      refine w_calli (va_runV (As := [.int (iI (z9.tmod 100)), .int (iI a0)]) (rest := [.int (iI z14)]) ⟨hx, hb, hml, hown, hts⟩ (cR_most l D dA b M1 (z9.tmod 100) a0 _ h) (cwV 2 hts (z_gV k1297 k1298 k1419 k14 k1299) rfl rfl rfl dm_X12_most ⟨Nat.le_of_ble_eq_true rfl, Nat.le_of_ble_eq_true rfl⟩) ⟨wPre_blind, (w_recv hS hK.1 (by decide) (zkd_of (rfl : zcd wR 0 = 50) rfl) (by decide) (rfl : vwCl[12]? = some (RX12, TX12, 50))), w_pre hS hK⟩ rfl rfl hl.1 rfl (lv_room (Nat.le_of_ble_eq_true rfl)) dX12_mended_51 ⟨Nat.le_refl _, Nat.le_refl _⟩) hS0 (fun z18 M17 H locs r19 h hS hS0 => ?_)
      obtain ⟨e20, h⟩ := h
      rw [e20] at hS
      refine w_ior hx hb dX12_mended_54 ?_
      exact w_iret hx hb hr hlocks hS hS0 (sI_of (orI_R _ _)) h dX12_mended_55
    · skip
      have h := h.2 c12
      refine z_iconst hx hb dX12_mended_32 ?_
      refine lv_goto (tgt := 55) hx hb dX12_mended_33 (by decide) ?_
      exact w_iret hx hb hr hlocks hS hS0 (sI_of (by decide)) h dX12_mended_55
  · skip
    have h := h.2 c7
    refine z_iconst hx hb dX12_mended_19 ?_
    exact w_iret hx hb hr hlocks hS hS0 (sI_of (by decide)) h dX12_mended_20
end zz10_w21
section zz10_w22
/-! the W layer, 22 -/
theorem q10w22_0_0 : (cX12_burn.data.toList.drop 0).take 17 = [42, 3, 181, 0, 118, 42, 180, 0, 182, 60, 42, 3, 181, 0, 182, 27, 172] := by decide +kernel
theorem dX12_burn_0 : decode cX12_burn 0 = .ok (.aload_n 0, 1) := dz_42 (dz_at q10w22_0_0 0)
theorem dX12_burn_1 : decode cX12_burn 1 = .ok (.iconst 0, 1) := dz_3 (dz_at q10w22_0_0 1)
theorem dX12_burn_10 : decode cX12_burn 10 = .ok (.aload_n 0, 1) := dz_42 (dz_at q10w22_0_0 10)
theorem dX12_burn_11 : decode cX12_burn 11 = .ok (.iconst 0, 1) := dz_3 (dz_at q10w22_0_0 11)
theorem dX12_burn_12 : decode cX12_burn 12 = .ok (.putfield 182, 3) := dz_181 (dz_at q10w22_0_0 12) rfl
theorem dX12_burn_15 : decode cX12_burn 15 = .ok (.iload_n 1, 1) := dz_27 (dz_at q10w22_0_0 15)
theorem dX12_burn_16 : decode cX12_burn 16 = .ok (.ireturn, 1) := dz_172 (dz_at q10w22_0_0 16)
theorem dX12_burn_2 : decode cX12_burn 2 = .ok (.putfield 118, 3) := dz_181 (dz_at q10w22_0_0 2) rfl
theorem dX12_burn_5 : decode cX12_burn 5 = .ok (.aload_n 0, 1) := dz_42 (dz_at q10w22_0_0 5)
theorem dX12_burn_6 : decode cX12_burn 6 = .ok (.getfield 182, 3) := dz_180 (dz_at q10w22_0_0 6) rfl
theorem dX12_burn_9 : decode cX12_burn 9 = .ok (.istore_n 1, 1) := dz_60 (dz_at q10w22_0_0 9)
theorem q10w22_1_0 : (cX12_joinFrom.data.toList.drop 0).take 24 = [16, 40, 27, 104, 54, 4, 27, 42, 180, 0, 182, 160, 0, 145, 42, 180, 1, 49, 2, 159, 0, 11, 29, 42] := by decide +kernel
theorem q10w22_1_24 : (cX12_joinFrom.data.toList.drop 24).take 24 = [180, 1, 49, 162, 0, 7, 4, 167, 0, 4, 3, 54, 5, 3, 54, 6, 21, 6, 29, 162, 0, 69, 21, 5] := by decide +kernel
theorem q10w22_1_48 : (cX12_joinFrom.data.toList.drop 48).take 22 = [154, 0, 64, 29, 42, 180, 1, 49, 160, 0, 56, 42, 180, 0, 109, 21, 4, 21, 6, 96, 46, 42] := by decide +kernel
theorem q10w22_1_70 : (cX12_joinFrom.data.toList.drop 70).take 23 = [180, 0, 112, 21, 6, 46, 160, 0, 6, 167, 0, 27, 42, 180, 0, 109, 21, 4, 21, 6, 96, 46, 42] := by decide +kernel
theorem q10w22_1_93 : (cX12_joinFrom.data.toList.drop 93).take 24 = [180, 0, 112, 21, 6, 46, 164, 0, 4, 177, 4, 54, 5, 132, 6, 1, 167, 255, 187, 21, 5, 154, 0, 4] := by decide +kernel
theorem q10w22_1_117 : (cX12_joinFrom.data.toList.drop 117).take 22 = [177, 42, 29, 181, 1, 49, 3, 54, 6, 21, 6, 29, 162, 0, 26, 42, 180, 0, 112, 21, 6, 42] := by decide +kernel
theorem q10w22_1_139 : (cX12_joinFrom.data.toList.drop 139).take 23 = [180, 0, 109, 21, 4, 21, 6, 96, 46, 79, 132, 6, 1, 167, 255, 230, 177, 3, 54, 5, 21, 5, 42] := by decide +kernel
theorem q10w22_1_162 : (cX12_joinFrom.data.toList.drop 162).take 24 = [180, 0, 182, 162, 0, 204, 28, 21, 5, 122, 4, 126, 4, 160, 0, 6, 167, 0, 185, 3, 54, 6, 21, 6] := by decide +kernel
theorem q10w22_1_186 : (cX12_joinFrom.data.toList.drop 186).take 23 = [5, 162, 0, 176, 29, 42, 180, 0, 66, 21, 5, 46, 184, 1, 15, 54, 7, 42, 21, 4, 29, 21, 5] := by decide +kernel
theorem q10w22_1_209 : (cX12_joinFrom.data.toList.drop 209).take 22 = [21, 6, 4, 160, 0, 7, 4, 167, 0, 4, 3, 21, 7, 182, 1, 52, 154, 0, 9, 132, 7, 255] := by decide +kernel
theorem q10w22_1_231 : (cX12_joinFrom.data.toList.drop 231).take 23 = [167, 255, 228, 21, 4, 16, 40, 96, 54, 8, 3, 54, 9, 21, 9, 29, 162, 0, 29, 42, 180, 0, 109] := by decide +kernel
theorem q10w22_1_254 : (cX12_joinFrom.data.toList.drop 254).take 24 = [21, 8, 21, 9, 96, 42, 180, 0, 109, 21, 4, 21, 9, 96, 46, 79, 132, 9, 1, 167, 255, 227, 21, 7] := by decide +kernel
theorem q10w22_1_278 : (cX12_joinFrom.data.toList.drop 278).take 24 = [54, 9, 21, 9, 42, 180, 0, 66, 21, 5, 46, 162, 0, 43, 42, 180, 0, 109, 21, 8, 29, 96, 21, 9] := by decide +kernel
theorem q10w22_1_302 : (cX12_joinFrom.data.toList.drop 302).take 24 = [96, 21, 7, 100, 42, 21, 5, 21, 6, 4, 160, 0, 7, 4, 167, 0, 4, 3, 21, 9, 182, 1, 56, 79] := by decide +kernel
theorem q10w22_1_326 : (cX12_joinFrom.data.toList.drop 326).take 24 = [132, 9, 1, 167, 255, 207, 42, 27, 4, 96, 28, 4, 21, 5, 120, 128, 29, 42, 180, 0, 66, 21, 5, 46] := by decide +kernel
theorem q10w22_1_350 : (cX12_joinFrom.data.toList.drop 350).take 20 = [96, 21, 7, 100, 182, 1, 60, 132, 6, 1, 167, 255, 80, 132, 5, 1, 167, 255, 49, 177] := by decide +kernel
theorem dX12_joinFrom_0 : decode cX12_joinFrom 0 = .ok (.bipush 40, 2) := dz_16 (dz_at q10w22_1_0 0) (by decide +kernel)
theorem dX12_joinFrom_102 : decode cX12_joinFrom 102 = .ok (.return_, 1) := dz_177 (dz_at q10w22_1_93 9)
theorem dX12_joinFrom_103 : decode cX12_joinFrom 103 = .ok (.iconst 1, 1) := dz_4 (dz_at q10w22_1_93 10)
theorem dX12_joinFrom_104 : decode cX12_joinFrom 104 = .ok (.istore 5, 2) := dz_54 (dz_at q10w22_1_93 11)
theorem dX12_joinFrom_106 : decode cX12_joinFrom 106 = .ok (.iinc 6 1, 3) := dz_132 (dz_at q10w22_1_93 13) (by decide +kernel)
theorem dX12_joinFrom_109 : decode cX12_joinFrom 109 = .ok (.goto (-69), 3) := dz_167 (dz_at q10w22_1_93 16) (by decide +kernel)
theorem dX12_joinFrom_11 : decode cX12_joinFrom 11 = .ok (.if_icmp .ne 145, 3) := dz_160 (dz_at q10w22_1_0 11) (by decide +kernel)
theorem dX12_joinFrom_112 : decode cX12_joinFrom 112 = .ok (.iload 5, 2) := dz_21 (dz_at q10w22_1_93 19)
theorem dX12_joinFrom_114 : decode cX12_joinFrom 114 = .ok (.ifCond .ne 4, 3) := dz_154 (dz_at q10w22_1_93 21) (by decide +kernel)
theorem dX12_joinFrom_117 : decode cX12_joinFrom 117 = .ok (.return_, 1) := dz_177 (dz_at q10w22_1_117 0)
theorem dX12_joinFrom_118 : decode cX12_joinFrom 118 = .ok (.aload_n 0, 1) := dz_42 (dz_at q10w22_1_117 1)
theorem dX12_joinFrom_119 : decode cX12_joinFrom 119 = .ok (.iload_n 3, 1) := dz_29 (dz_at q10w22_1_117 2)
theorem dX12_joinFrom_120 : decode cX12_joinFrom 120 = .ok (.putfield 305, 3) := dz_181 (dz_at q10w22_1_117 3) rfl
theorem dX12_joinFrom_123 : decode cX12_joinFrom 123 = .ok (.iconst 0, 1) := dz_3 (dz_at q10w22_1_117 6)
theorem dX12_joinFrom_124 : decode cX12_joinFrom 124 = .ok (.istore 6, 2) := dz_54 (dz_at q10w22_1_117 7)
theorem dX12_joinFrom_126 : decode cX12_joinFrom 126 = .ok (.iload 6, 2) := dz_21 (dz_at q10w22_1_117 9)
theorem dX12_joinFrom_128 : decode cX12_joinFrom 128 = .ok (.iload_n 3, 1) := dz_29 (dz_at q10w22_1_117 11)
theorem dX12_joinFrom_129 : decode cX12_joinFrom 129 = .ok (.if_icmp .ge 26, 3) := dz_162 (dz_at q10w22_1_117 12) (by decide +kernel)
theorem dX12_joinFrom_132 : decode cX12_joinFrom 132 = .ok (.aload_n 0, 1) := dz_42 (dz_at q10w22_1_117 15)
theorem dX12_joinFrom_133 : decode cX12_joinFrom 133 = .ok (.getfield 112, 3) := dz_180 (dz_at q10w22_1_117 16) rfl
theorem dX12_joinFrom_136 : decode cX12_joinFrom 136 = .ok (.iload 6, 2) := dz_21 (dz_at q10w22_1_117 19)
theorem dX12_joinFrom_138 : decode cX12_joinFrom 138 = .ok (.aload_n 0, 1) := dz_42 (dz_at q10w22_1_117 21)
theorem dX12_joinFrom_139 : decode cX12_joinFrom 139 = .ok (.getfield 109, 3) := dz_180 (dz_at q10w22_1_139 0) rfl
theorem dX12_joinFrom_14 : decode cX12_joinFrom 14 = .ok (.aload_n 0, 1) := dz_42 (dz_at q10w22_1_0 14)
theorem dX12_joinFrom_142 : decode cX12_joinFrom 142 = .ok (.iload 4, 2) := dz_21 (dz_at q10w22_1_139 3)
theorem dX12_joinFrom_144 : decode cX12_joinFrom 144 = .ok (.iload 6, 2) := dz_21 (dz_at q10w22_1_139 5)
theorem dX12_joinFrom_146 : decode cX12_joinFrom 146 = .ok (.iadd, 1) := dz_96 (dz_at q10w22_1_139 7)
theorem dX12_joinFrom_147 : decode cX12_joinFrom 147 = .ok (.iaload, 1) := dz_46 (dz_at q10w22_1_139 8)
theorem dX12_joinFrom_148 : decode cX12_joinFrom 148 = .ok (.iastore, 1) := dz_79 (dz_at q10w22_1_139 9)
theorem dX12_joinFrom_149 : decode cX12_joinFrom 149 = .ok (.iinc 6 1, 3) := dz_132 (dz_at q10w22_1_139 10) (by decide +kernel)
theorem dX12_joinFrom_15 : decode cX12_joinFrom 15 = .ok (.getfield 305, 3) := dz_180 (dz_at q10w22_1_0 15) rfl
theorem dX12_joinFrom_152 : decode cX12_joinFrom 152 = .ok (.goto (-26), 3) := dz_167 (dz_at q10w22_1_139 13) (by decide +kernel)
theorem dX12_joinFrom_155 : decode cX12_joinFrom 155 = .ok (.return_, 1) := dz_177 (dz_at q10w22_1_139 16)
theorem dX12_joinFrom_156 : decode cX12_joinFrom 156 = .ok (.iconst 0, 1) := dz_3 (dz_at q10w22_1_139 17)
theorem dX12_joinFrom_157 : decode cX12_joinFrom 157 = .ok (.istore 5, 2) := dz_54 (dz_at q10w22_1_139 18)
theorem dX12_joinFrom_159 : decode cX12_joinFrom 159 = .ok (.iload 5, 2) := dz_21 (dz_at q10w22_1_139 20)
theorem dX12_joinFrom_161 : decode cX12_joinFrom 161 = .ok (.aload_n 0, 1) := dz_42 (dz_at q10w22_1_139 22)
theorem dX12_joinFrom_162 : decode cX12_joinFrom 162 = .ok (.getfield 182, 3) := dz_180 (dz_at q10w22_1_162 0) rfl
theorem dX12_joinFrom_165 : decode cX12_joinFrom 165 = .ok (.if_icmp .ge 204, 3) := dz_162 (dz_at q10w22_1_162 3) (by decide +kernel)
theorem dX12_joinFrom_168 : decode cX12_joinFrom 168 = .ok (.iload_n 2, 1) := dz_28 (dz_at q10w22_1_162 6)
theorem dX12_joinFrom_169 : decode cX12_joinFrom 169 = .ok (.iload 5, 2) := dz_21 (dz_at q10w22_1_162 7)
theorem dX12_joinFrom_171 : decode cX12_joinFrom 171 = .ok (.ishr, 1) := dz_122 (dz_at q10w22_1_162 9)
theorem dX12_joinFrom_172 : decode cX12_joinFrom 172 = .ok (.iconst 1, 1) := dz_4 (dz_at q10w22_1_162 10)
theorem dX12_joinFrom_173 : decode cX12_joinFrom 173 = .ok (.iand, 1) := dz_126 (dz_at q10w22_1_162 11)
theorem dX12_joinFrom_174 : decode cX12_joinFrom 174 = .ok (.iconst 1, 1) := dz_4 (dz_at q10w22_1_162 12)
theorem dX12_joinFrom_175 : decode cX12_joinFrom 175 = .ok (.if_icmp .ne 6, 3) := dz_160 (dz_at q10w22_1_162 13) (by decide +kernel)
theorem dX12_joinFrom_178 : decode cX12_joinFrom 178 = .ok (.goto 185, 3) := dz_167 (dz_at q10w22_1_162 16) (by decide +kernel)
theorem dX12_joinFrom_18 : decode cX12_joinFrom 18 = .ok (.iconst (-1), 1) := dz_2 (dz_at q10w22_1_0 18)
theorem dX12_joinFrom_181 : decode cX12_joinFrom 181 = .ok (.iconst 0, 1) := dz_3 (dz_at q10w22_1_162 19)
theorem dX12_joinFrom_182 : decode cX12_joinFrom 182 = .ok (.istore 6, 2) := dz_54 (dz_at q10w22_1_162 20)
theorem dX12_joinFrom_184 : decode cX12_joinFrom 184 = .ok (.iload 6, 2) := dz_21 (dz_at q10w22_1_162 22)
theorem dX12_joinFrom_186 : decode cX12_joinFrom 186 = .ok (.iconst 2, 1) := dz_5 (dz_at q10w22_1_186 0)
theorem dX12_joinFrom_187 : decode cX12_joinFrom 187 = .ok (.if_icmp .ge 176, 3) := dz_162 (dz_at q10w22_1_186 1) (by decide +kernel)
theorem dX12_joinFrom_19 : decode cX12_joinFrom 19 = .ok (.if_icmp .eq 11, 3) := dz_159 (dz_at q10w22_1_0 19) (by decide +kernel)
theorem dX12_joinFrom_190 : decode cX12_joinFrom 190 = .ok (.iload_n 3, 1) := dz_29 (dz_at q10w22_1_186 4)
theorem dX12_joinFrom_191 : decode cX12_joinFrom 191 = .ok (.aload_n 0, 1) := dz_42 (dz_at q10w22_1_186 5)
theorem dX12_joinFrom_192 : decode cX12_joinFrom 192 = .ok (.getfield 66, 3) := dz_180 (dz_at q10w22_1_186 6) rfl
theorem dX12_joinFrom_195 : decode cX12_joinFrom 195 = .ok (.iload 5, 2) := dz_21 (dz_at q10w22_1_186 9)
theorem dX12_joinFrom_197 : decode cX12_joinFrom 197 = .ok (.iaload, 1) := dz_46 (dz_at q10w22_1_186 11)
theorem dX12_joinFrom_198 : decode cX12_joinFrom 198 = .ok (.invokestatic 271, 3) := dz_184 (dz_at q10w22_1_186 12) rfl
theorem dX12_joinFrom_2 : decode cX12_joinFrom 2 = .ok (.iload_n 1, 1) := dz_27 (dz_at q10w22_1_0 2)
theorem dX12_joinFrom_201 : decode cX12_joinFrom 201 = .ok (.istore 7, 2) := dz_54 (dz_at q10w22_1_186 15)
theorem dX12_joinFrom_203 : decode cX12_joinFrom 203 = .ok (.aload_n 0, 1) := dz_42 (dz_at q10w22_1_186 17)
theorem dX12_joinFrom_204 : decode cX12_joinFrom 204 = .ok (.iload 4, 2) := dz_21 (dz_at q10w22_1_186 18)
theorem dX12_joinFrom_206 : decode cX12_joinFrom 206 = .ok (.iload_n 3, 1) := dz_29 (dz_at q10w22_1_186 20)
theorem dX12_joinFrom_207 : decode cX12_joinFrom 207 = .ok (.iload 5, 2) := dz_21 (dz_at q10w22_1_186 21)
theorem dX12_joinFrom_209 : decode cX12_joinFrom 209 = .ok (.iload 6, 2) := dz_21 (dz_at q10w22_1_209 0)
theorem dX12_joinFrom_211 : decode cX12_joinFrom 211 = .ok (.iconst 1, 1) := dz_4 (dz_at q10w22_1_209 2)
theorem dX12_joinFrom_212 : decode cX12_joinFrom 212 = .ok (.if_icmp .ne 7, 3) := dz_160 (dz_at q10w22_1_209 3) (by decide +kernel)
theorem dX12_joinFrom_215 : decode cX12_joinFrom 215 = .ok (.iconst 1, 1) := dz_4 (dz_at q10w22_1_209 6)
theorem dX12_joinFrom_216 : decode cX12_joinFrom 216 = .ok (.goto 4, 3) := dz_167 (dz_at q10w22_1_209 7) (by decide +kernel)
theorem dX12_joinFrom_219 : decode cX12_joinFrom 219 = .ok (.iconst 0, 1) := dz_3 (dz_at q10w22_1_209 10)
theorem dX12_joinFrom_22 : decode cX12_joinFrom 22 = .ok (.iload_n 3, 1) := dz_29 (dz_at q10w22_1_0 22)
theorem dX12_joinFrom_220 : decode cX12_joinFrom 220 = .ok (.iload 7, 2) := dz_21 (dz_at q10w22_1_209 11)
theorem dX12_joinFrom_222 : decode cX12_joinFrom 222 = .ok (.invokevirtual 308, 3) := dz_182 (dz_at q10w22_1_209 13) rfl
theorem dX12_joinFrom_225 : decode cX12_joinFrom 225 = .ok (.ifCond .ne 9, 3) := dz_154 (dz_at q10w22_1_209 16) (by decide +kernel)
theorem dX12_joinFrom_228 : decode cX12_joinFrom 228 = .ok (.iinc 7 (-1), 3) := dz_132 (dz_at q10w22_1_209 19) (by decide +kernel)
theorem dX12_joinFrom_23 : decode cX12_joinFrom 23 = .ok (.aload_n 0, 1) := dz_42 (dz_at q10w22_1_0 23)
theorem dX12_joinFrom_231 : decode cX12_joinFrom 231 = .ok (.goto (-28), 3) := dz_167 (dz_at q10w22_1_231 0) (by decide +kernel)
theorem dX12_joinFrom_234 : decode cX12_joinFrom 234 = .ok (.iload 4, 2) := dz_21 (dz_at q10w22_1_231 3)
theorem dX12_joinFrom_236 : decode cX12_joinFrom 236 = .ok (.bipush 40, 2) := dz_16 (dz_at q10w22_1_231 5) (by decide +kernel)
theorem dX12_joinFrom_238 : decode cX12_joinFrom 238 = .ok (.iadd, 1) := dz_96 (dz_at q10w22_1_231 7)
theorem dX12_joinFrom_239 : decode cX12_joinFrom 239 = .ok (.istore 8, 2) := dz_54 (dz_at q10w22_1_231 8)
theorem dX12_joinFrom_24 : decode cX12_joinFrom 24 = .ok (.getfield 305, 3) := dz_180 (dz_at q10w22_1_24 0) rfl
theorem dX12_joinFrom_241 : decode cX12_joinFrom 241 = .ok (.iconst 0, 1) := dz_3 (dz_at q10w22_1_231 10)
theorem dX12_joinFrom_242 : decode cX12_joinFrom 242 = .ok (.istore 9, 2) := dz_54 (dz_at q10w22_1_231 11)
theorem dX12_joinFrom_244 : decode cX12_joinFrom 244 = .ok (.iload 9, 2) := dz_21 (dz_at q10w22_1_231 13)
theorem dX12_joinFrom_246 : decode cX12_joinFrom 246 = .ok (.iload_n 3, 1) := dz_29 (dz_at q10w22_1_231 15)
theorem dX12_joinFrom_247 : decode cX12_joinFrom 247 = .ok (.if_icmp .ge 29, 3) := dz_162 (dz_at q10w22_1_231 16) (by decide +kernel)
theorem dX12_joinFrom_250 : decode cX12_joinFrom 250 = .ok (.aload_n 0, 1) := dz_42 (dz_at q10w22_1_231 19)
theorem dX12_joinFrom_251 : decode cX12_joinFrom 251 = .ok (.getfield 109, 3) := dz_180 (dz_at q10w22_1_231 20) rfl
theorem dX12_joinFrom_254 : decode cX12_joinFrom 254 = .ok (.iload 8, 2) := dz_21 (dz_at q10w22_1_254 0)
theorem dX12_joinFrom_256 : decode cX12_joinFrom 256 = .ok (.iload 9, 2) := dz_21 (dz_at q10w22_1_254 2)
theorem dX12_joinFrom_258 : decode cX12_joinFrom 258 = .ok (.iadd, 1) := dz_96 (dz_at q10w22_1_254 4)
theorem dX12_joinFrom_259 : decode cX12_joinFrom 259 = .ok (.aload_n 0, 1) := dz_42 (dz_at q10w22_1_254 5)
theorem dX12_joinFrom_260 : decode cX12_joinFrom 260 = .ok (.getfield 109, 3) := dz_180 (dz_at q10w22_1_254 6) rfl
theorem dX12_joinFrom_263 : decode cX12_joinFrom 263 = .ok (.iload 4, 2) := dz_21 (dz_at q10w22_1_254 9)
theorem dX12_joinFrom_265 : decode cX12_joinFrom 265 = .ok (.iload 9, 2) := dz_21 (dz_at q10w22_1_254 11)
theorem dX12_joinFrom_267 : decode cX12_joinFrom 267 = .ok (.iadd, 1) := dz_96 (dz_at q10w22_1_254 13)
theorem dX12_joinFrom_268 : decode cX12_joinFrom 268 = .ok (.iaload, 1) := dz_46 (dz_at q10w22_1_254 14)
theorem dX12_joinFrom_269 : decode cX12_joinFrom 269 = .ok (.iastore, 1) := dz_79 (dz_at q10w22_1_254 15)
theorem dX12_joinFrom_27 : decode cX12_joinFrom 27 = .ok (.if_icmp .ge 7, 3) := dz_162 (dz_at q10w22_1_24 3) (by decide +kernel)
theorem dX12_joinFrom_270 : decode cX12_joinFrom 270 = .ok (.iinc 9 1, 3) := dz_132 (dz_at q10w22_1_254 16) (by decide +kernel)
theorem dX12_joinFrom_273 : decode cX12_joinFrom 273 = .ok (.goto (-29), 3) := dz_167 (dz_at q10w22_1_254 19) (by decide +kernel)
theorem dX12_joinFrom_276 : decode cX12_joinFrom 276 = .ok (.iload 7, 2) := dz_21 (dz_at q10w22_1_254 22)
theorem dX12_joinFrom_278 : decode cX12_joinFrom 278 = .ok (.istore 9, 2) := dz_54 (dz_at q10w22_1_278 0)
theorem dX12_joinFrom_280 : decode cX12_joinFrom 280 = .ok (.iload 9, 2) := dz_21 (dz_at q10w22_1_278 2)
theorem dX12_joinFrom_282 : decode cX12_joinFrom 282 = .ok (.aload_n 0, 1) := dz_42 (dz_at q10w22_1_278 4)
theorem dX12_joinFrom_283 : decode cX12_joinFrom 283 = .ok (.getfield 66, 3) := dz_180 (dz_at q10w22_1_278 5) rfl
theorem dX12_joinFrom_286 : decode cX12_joinFrom 286 = .ok (.iload 5, 2) := dz_21 (dz_at q10w22_1_278 8)
theorem dX12_joinFrom_288 : decode cX12_joinFrom 288 = .ok (.iaload, 1) := dz_46 (dz_at q10w22_1_278 10)
theorem dX12_joinFrom_289 : decode cX12_joinFrom 289 = .ok (.if_icmp .ge 43, 3) := dz_162 (dz_at q10w22_1_278 11) (by decide +kernel)
theorem dX12_joinFrom_292 : decode cX12_joinFrom 292 = .ok (.aload_n 0, 1) := dz_42 (dz_at q10w22_1_278 14)
theorem dX12_joinFrom_293 : decode cX12_joinFrom 293 = .ok (.getfield 109, 3) := dz_180 (dz_at q10w22_1_278 15) rfl
theorem dX12_joinFrom_296 : decode cX12_joinFrom 296 = .ok (.iload 8, 2) := dz_21 (dz_at q10w22_1_278 18)
theorem dX12_joinFrom_298 : decode cX12_joinFrom 298 = .ok (.iload_n 3, 1) := dz_29 (dz_at q10w22_1_278 20)
theorem dX12_joinFrom_299 : decode cX12_joinFrom 299 = .ok (.iadd, 1) := dz_96 (dz_at q10w22_1_278 21)
theorem dX12_joinFrom_3 : decode cX12_joinFrom 3 = .ok (.imul, 1) := dz_104 (dz_at q10w22_1_0 3)
theorem dX12_joinFrom_30 : decode cX12_joinFrom 30 = .ok (.iconst 1, 1) := dz_4 (dz_at q10w22_1_24 6)
theorem dX12_joinFrom_300 : decode cX12_joinFrom 300 = .ok (.iload 9, 2) := dz_21 (dz_at q10w22_1_278 22)
theorem dX12_joinFrom_302 : decode cX12_joinFrom 302 = .ok (.iadd, 1) := dz_96 (dz_at q10w22_1_302 0)
theorem dX12_joinFrom_303 : decode cX12_joinFrom 303 = .ok (.iload 7, 2) := dz_21 (dz_at q10w22_1_302 1)
theorem dX12_joinFrom_305 : decode cX12_joinFrom 305 = .ok (.isub, 1) := dz_100 (dz_at q10w22_1_302 3)
theorem dX12_joinFrom_306 : decode cX12_joinFrom 306 = .ok (.aload_n 0, 1) := dz_42 (dz_at q10w22_1_302 4)
theorem dX12_joinFrom_307 : decode cX12_joinFrom 307 = .ok (.iload 5, 2) := dz_21 (dz_at q10w22_1_302 5)
theorem dX12_joinFrom_309 : decode cX12_joinFrom 309 = .ok (.iload 6, 2) := dz_21 (dz_at q10w22_1_302 7)
theorem dX12_joinFrom_31 : decode cX12_joinFrom 31 = .ok (.goto 4, 3) := dz_167 (dz_at q10w22_1_24 7) (by decide +kernel)
theorem dX12_joinFrom_311 : decode cX12_joinFrom 311 = .ok (.iconst 1, 1) := dz_4 (dz_at q10w22_1_302 9)
theorem dX12_joinFrom_312 : decode cX12_joinFrom 312 = .ok (.if_icmp .ne 7, 3) := dz_160 (dz_at q10w22_1_302 10) (by decide +kernel)
theorem dX12_joinFrom_315 : decode cX12_joinFrom 315 = .ok (.iconst 1, 1) := dz_4 (dz_at q10w22_1_302 13)
theorem dX12_joinFrom_316 : decode cX12_joinFrom 316 = .ok (.goto 4, 3) := dz_167 (dz_at q10w22_1_302 14) (by decide +kernel)
theorem dX12_joinFrom_319 : decode cX12_joinFrom 319 = .ok (.iconst 0, 1) := dz_3 (dz_at q10w22_1_302 17)
theorem dX12_joinFrom_320 : decode cX12_joinFrom 320 = .ok (.iload 9, 2) := dz_21 (dz_at q10w22_1_302 18)
theorem dX12_joinFrom_322 : decode cX12_joinFrom 322 = .ok (.invokevirtual 312, 3) := dz_182 (dz_at q10w22_1_302 20) rfl
theorem dX12_joinFrom_325 : decode cX12_joinFrom 325 = .ok (.iastore, 1) := dz_79 (dz_at q10w22_1_302 23)
theorem dX12_joinFrom_326 : decode cX12_joinFrom 326 = .ok (.iinc 9 1, 3) := dz_132 (dz_at q10w22_1_326 0) (by decide +kernel)
theorem dX12_joinFrom_329 : decode cX12_joinFrom 329 = .ok (.goto (-49), 3) := dz_167 (dz_at q10w22_1_326 3) (by decide +kernel)
theorem dX12_joinFrom_332 : decode cX12_joinFrom 332 = .ok (.aload_n 0, 1) := dz_42 (dz_at q10w22_1_326 6)
theorem dX12_joinFrom_333 : decode cX12_joinFrom 333 = .ok (.iload_n 1, 1) := dz_27 (dz_at q10w22_1_326 7)
theorem dX12_joinFrom_334 : decode cX12_joinFrom 334 = .ok (.iconst 1, 1) := dz_4 (dz_at q10w22_1_326 8)
theorem dX12_joinFrom_335 : decode cX12_joinFrom 335 = .ok (.iadd, 1) := dz_96 (dz_at q10w22_1_326 9)
theorem dX12_joinFrom_336 : decode cX12_joinFrom 336 = .ok (.iload_n 2, 1) := dz_28 (dz_at q10w22_1_326 10)
theorem dX12_joinFrom_337 : decode cX12_joinFrom 337 = .ok (.iconst 1, 1) := dz_4 (dz_at q10w22_1_326 11)
theorem dX12_joinFrom_338 : decode cX12_joinFrom 338 = .ok (.iload 5, 2) := dz_21 (dz_at q10w22_1_326 12)
theorem dX12_joinFrom_34 : decode cX12_joinFrom 34 = .ok (.iconst 0, 1) := dz_3 (dz_at q10w22_1_24 10)
theorem dX12_joinFrom_340 : decode cX12_joinFrom 340 = .ok (.ishl, 1) := dz_120 (dz_at q10w22_1_326 14)
theorem dX12_joinFrom_341 : decode cX12_joinFrom 341 = .ok (.ior, 1) := dz_128 (dz_at q10w22_1_326 15)
theorem dX12_joinFrom_342 : decode cX12_joinFrom 342 = .ok (.iload_n 3, 1) := dz_29 (dz_at q10w22_1_326 16)
theorem dX12_joinFrom_343 : decode cX12_joinFrom 343 = .ok (.aload_n 0, 1) := dz_42 (dz_at q10w22_1_326 17)
theorem dX12_joinFrom_344 : decode cX12_joinFrom 344 = .ok (.getfield 66, 3) := dz_180 (dz_at q10w22_1_326 18) rfl
theorem dX12_joinFrom_347 : decode cX12_joinFrom 347 = .ok (.iload 5, 2) := dz_21 (dz_at q10w22_1_326 21)
theorem dX12_joinFrom_349 : decode cX12_joinFrom 349 = .ok (.iaload, 1) := dz_46 (dz_at q10w22_1_326 23)
theorem dX12_joinFrom_35 : decode cX12_joinFrom 35 = .ok (.istore 5, 2) := dz_54 (dz_at q10w22_1_24 11)
theorem dX12_joinFrom_350 : decode cX12_joinFrom 350 = .ok (.iadd, 1) := dz_96 (dz_at q10w22_1_350 0)
theorem dX12_joinFrom_351 : decode cX12_joinFrom 351 = .ok (.iload 7, 2) := dz_21 (dz_at q10w22_1_350 1)
theorem dX12_joinFrom_353 : decode cX12_joinFrom 353 = .ok (.isub, 1) := dz_100 (dz_at q10w22_1_350 3)
theorem dX12_joinFrom_354 : decode cX12_joinFrom 354 = .ok (.invokevirtual 316, 3) := dz_182 (dz_at q10w22_1_350 4) rfl
theorem dX12_joinFrom_357 : decode cX12_joinFrom 357 = .ok (.iinc 6 1, 3) := dz_132 (dz_at q10w22_1_350 7) (by decide +kernel)
theorem dX12_joinFrom_360 : decode cX12_joinFrom 360 = .ok (.goto (-176), 3) := dz_167 (dz_at q10w22_1_350 10) (by decide +kernel)
theorem dX12_joinFrom_363 : decode cX12_joinFrom 363 = .ok (.iinc 5 1, 3) := dz_132 (dz_at q10w22_1_350 13) (by decide +kernel)
theorem dX12_joinFrom_366 : decode cX12_joinFrom 366 = .ok (.goto (-207), 3) := dz_167 (dz_at q10w22_1_350 16) (by decide +kernel)
theorem dX12_joinFrom_369 : decode cX12_joinFrom 369 = .ok (.return_, 1) := dz_177 (dz_at q10w22_1_350 19)
theorem dX12_joinFrom_37 : decode cX12_joinFrom 37 = .ok (.iconst 0, 1) := dz_3 (dz_at q10w22_1_24 13)
theorem dX12_joinFrom_38 : decode cX12_joinFrom 38 = .ok (.istore 6, 2) := dz_54 (dz_at q10w22_1_24 14)
theorem dX12_joinFrom_4 : decode cX12_joinFrom 4 = .ok (.istore 4, 2) := dz_54 (dz_at q10w22_1_0 4)
theorem dX12_joinFrom_40 : decode cX12_joinFrom 40 = .ok (.iload 6, 2) := dz_21 (dz_at q10w22_1_24 16)
theorem dX12_joinFrom_42 : decode cX12_joinFrom 42 = .ok (.iload_n 3, 1) := dz_29 (dz_at q10w22_1_24 18)
theorem dX12_joinFrom_43 : decode cX12_joinFrom 43 = .ok (.if_icmp .ge 69, 3) := dz_162 (dz_at q10w22_1_24 19) (by decide +kernel)
theorem dX12_joinFrom_46 : decode cX12_joinFrom 46 = .ok (.iload 5, 2) := dz_21 (dz_at q10w22_1_24 22)
theorem dX12_joinFrom_48 : decode cX12_joinFrom 48 = .ok (.ifCond .ne 64, 3) := dz_154 (dz_at q10w22_1_48 0) (by decide +kernel)
theorem dX12_joinFrom_51 : decode cX12_joinFrom 51 = .ok (.iload_n 3, 1) := dz_29 (dz_at q10w22_1_48 3)
theorem dX12_joinFrom_52 : decode cX12_joinFrom 52 = .ok (.aload_n 0, 1) := dz_42 (dz_at q10w22_1_48 4)
theorem dX12_joinFrom_53 : decode cX12_joinFrom 53 = .ok (.getfield 305, 3) := dz_180 (dz_at q10w22_1_48 5) rfl
theorem dX12_joinFrom_56 : decode cX12_joinFrom 56 = .ok (.if_icmp .ne 56, 3) := dz_160 (dz_at q10w22_1_48 8) (by decide +kernel)
theorem dX12_joinFrom_59 : decode cX12_joinFrom 59 = .ok (.aload_n 0, 1) := dz_42 (dz_at q10w22_1_48 11)
theorem dX12_joinFrom_6 : decode cX12_joinFrom 6 = .ok (.iload_n 1, 1) := dz_27 (dz_at q10w22_1_0 6)
theorem dX12_joinFrom_60 : decode cX12_joinFrom 60 = .ok (.getfield 109, 3) := dz_180 (dz_at q10w22_1_48 12) rfl
theorem dX12_joinFrom_63 : decode cX12_joinFrom 63 = .ok (.iload 4, 2) := dz_21 (dz_at q10w22_1_48 15)
theorem dX12_joinFrom_65 : decode cX12_joinFrom 65 = .ok (.iload 6, 2) := dz_21 (dz_at q10w22_1_48 17)
theorem dX12_joinFrom_67 : decode cX12_joinFrom 67 = .ok (.iadd, 1) := dz_96 (dz_at q10w22_1_48 19)
theorem dX12_joinFrom_68 : decode cX12_joinFrom 68 = .ok (.iaload, 1) := dz_46 (dz_at q10w22_1_48 20)
theorem dX12_joinFrom_69 : decode cX12_joinFrom 69 = .ok (.aload_n 0, 1) := dz_42 (dz_at q10w22_1_48 21)
theorem dX12_joinFrom_7 : decode cX12_joinFrom 7 = .ok (.aload_n 0, 1) := dz_42 (dz_at q10w22_1_0 7)
theorem dX12_joinFrom_70 : decode cX12_joinFrom 70 = .ok (.getfield 112, 3) := dz_180 (dz_at q10w22_1_70 0) rfl
theorem dX12_joinFrom_73 : decode cX12_joinFrom 73 = .ok (.iload 6, 2) := dz_21 (dz_at q10w22_1_70 3)
theorem dX12_joinFrom_75 : decode cX12_joinFrom 75 = .ok (.iaload, 1) := dz_46 (dz_at q10w22_1_70 5)
theorem dX12_joinFrom_76 : decode cX12_joinFrom 76 = .ok (.if_icmp .ne 6, 3) := dz_160 (dz_at q10w22_1_70 6) (by decide +kernel)
theorem dX12_joinFrom_79 : decode cX12_joinFrom 79 = .ok (.goto 27, 3) := dz_167 (dz_at q10w22_1_70 9) (by decide +kernel)
theorem dX12_joinFrom_8 : decode cX12_joinFrom 8 = .ok (.getfield 182, 3) := dz_180 (dz_at q10w22_1_0 8) rfl
theorem dX12_joinFrom_82 : decode cX12_joinFrom 82 = .ok (.aload_n 0, 1) := dz_42 (dz_at q10w22_1_70 12)
theorem dX12_joinFrom_83 : decode cX12_joinFrom 83 = .ok (.getfield 109, 3) := dz_180 (dz_at q10w22_1_70 13) rfl
theorem dX12_joinFrom_86 : decode cX12_joinFrom 86 = .ok (.iload 4, 2) := dz_21 (dz_at q10w22_1_70 16)
theorem dX12_joinFrom_88 : decode cX12_joinFrom 88 = .ok (.iload 6, 2) := dz_21 (dz_at q10w22_1_70 18)
theorem dX12_joinFrom_90 : decode cX12_joinFrom 90 = .ok (.iadd, 1) := dz_96 (dz_at q10w22_1_70 20)
theorem dX12_joinFrom_91 : decode cX12_joinFrom 91 = .ok (.iaload, 1) := dz_46 (dz_at q10w22_1_70 21)
theorem dX12_joinFrom_92 : decode cX12_joinFrom 92 = .ok (.aload_n 0, 1) := dz_42 (dz_at q10w22_1_70 22)
theorem dX12_joinFrom_93 : decode cX12_joinFrom 93 = .ok (.getfield 112, 3) := dz_180 (dz_at q10w22_1_93 0) rfl
theorem dX12_joinFrom_96 : decode cX12_joinFrom 96 = .ok (.iload 6, 2) := dz_21 (dz_at q10w22_1_93 3)
theorem dX12_joinFrom_98 : decode cX12_joinFrom 98 = .ok (.iaload, 1) := dz_46 (dz_at q10w22_1_93 5)
theorem dX12_joinFrom_99 : decode cX12_joinFrom 99 = .ok (.if_icmp .le 4, 3) := dz_164 (dz_at q10w22_1_93 6) (by decide +kernel)
theorem q10w22_2_0 : (cX12_lies.data.toList.drop 0).take 24 = [3, 54, 6, 21, 6, 21, 5, 162, 0, 37, 42, 180, 0, 109, 27, 28, 96, 21, 5, 100, 21, 6, 96, 46] := by decide +kernel
theorem q10w22_2_24 : (cX12_lies.data.toList.drop 24).take 22 = [42, 29, 21, 4, 21, 6, 182, 1, 56, 159, 0, 5, 3, 172, 132, 6, 1, 167, 255, 218, 4, 172] := by decide +kernel
theorem dX12_lies_0 : decode cX12_lies 0 = .ok (.iconst 0, 1) := dz_3 (dz_at q10w22_2_0 0)
theorem dX12_lies_1 : decode cX12_lies 1 = .ok (.istore 6, 2) := dz_54 (dz_at q10w22_2_0 1)
theorem dX12_lies_10 : decode cX12_lies 10 = .ok (.aload_n 0, 1) := dz_42 (dz_at q10w22_2_0 10)
theorem dX12_lies_11 : decode cX12_lies 11 = .ok (.getfield 109, 3) := dz_180 (dz_at q10w22_2_0 11) rfl
theorem dX12_lies_14 : decode cX12_lies 14 = .ok (.iload_n 1, 1) := dz_27 (dz_at q10w22_2_0 14)
theorem dX12_lies_15 : decode cX12_lies 15 = .ok (.iload_n 2, 1) := dz_28 (dz_at q10w22_2_0 15)
theorem dX12_lies_16 : decode cX12_lies 16 = .ok (.iadd, 1) := dz_96 (dz_at q10w22_2_0 16)
theorem dX12_lies_17 : decode cX12_lies 17 = .ok (.iload 5, 2) := dz_21 (dz_at q10w22_2_0 17)
theorem dX12_lies_19 : decode cX12_lies 19 = .ok (.isub, 1) := dz_100 (dz_at q10w22_2_0 19)
theorem dX12_lies_20 : decode cX12_lies 20 = .ok (.iload 6, 2) := dz_21 (dz_at q10w22_2_0 20)
theorem dX12_lies_22 : decode cX12_lies 22 = .ok (.iadd, 1) := dz_96 (dz_at q10w22_2_0 22)
theorem dX12_lies_23 : decode cX12_lies 23 = .ok (.iaload, 1) := dz_46 (dz_at q10w22_2_0 23)
theorem dX12_lies_24 : decode cX12_lies 24 = .ok (.aload_n 0, 1) := dz_42 (dz_at q10w22_2_24 0)
theorem dX12_lies_25 : decode cX12_lies 25 = .ok (.iload_n 3, 1) := dz_29 (dz_at q10w22_2_24 1)
theorem dX12_lies_26 : decode cX12_lies 26 = .ok (.iload 4, 2) := dz_21 (dz_at q10w22_2_24 2)
theorem dX12_lies_28 : decode cX12_lies 28 = .ok (.iload 6, 2) := dz_21 (dz_at q10w22_2_24 4)
theorem dX12_lies_3 : decode cX12_lies 3 = .ok (.iload 6, 2) := dz_21 (dz_at q10w22_2_0 3)
theorem dX12_lies_30 : decode cX12_lies 30 = .ok (.invokevirtual 312, 3) := dz_182 (dz_at q10w22_2_24 6) rfl
theorem dX12_lies_33 : decode cX12_lies 33 = .ok (.if_icmp .eq 5, 3) := dz_159 (dz_at q10w22_2_24 9) (by decide +kernel)
theorem dX12_lies_36 : decode cX12_lies 36 = .ok (.iconst 0, 1) := dz_3 (dz_at q10w22_2_24 12)
theorem dX12_lies_37 : decode cX12_lies 37 = .ok (.ireturn, 1) := dz_172 (dz_at q10w22_2_24 13)
theorem dX12_lies_38 : decode cX12_lies 38 = .ok (.iinc 6 1, 3) := dz_132 (dz_at q10w22_2_24 14) (by decide +kernel)
theorem dX12_lies_41 : decode cX12_lies 41 = .ok (.goto (-38), 3) := dz_167 (dz_at q10w22_2_24 17) (by decide +kernel)
theorem dX12_lies_44 : decode cX12_lies 44 = .ok (.iconst 1, 1) := dz_4 (dz_at q10w22_2_24 20)
theorem dX12_lies_45 : decode cX12_lies 45 = .ok (.ireturn, 1) := dz_172 (dz_at q10w22_2_24 21)
theorem dX12_lies_5 : decode cX12_lies 5 = .ok (.iload 5, 2) := dz_21 (dz_at q10w22_2_0 5)
theorem dX12_lies_7 : decode cX12_lies 7 = .ok (.if_icmp .ge 37, 3) := dz_162 (dz_at q10w22_2_0 7) (by decide +kernel)
theorem q10w22_3_0 : (cX12_piece.data.toList.drop 0).take 24 = [42, 3, 181, 0, 118, 28, 4, 16, 8, 184, 0, 124, 153, 0, 11, 42, 180, 0, 182, 8, 160, 0, 5, 2] := by decide +kernel
theorem q10w22_3_24 : (cX12_piece.data.toList.drop 24).take 24 = [172, 3, 62, 29, 28, 162, 0, 27, 27, 16, 28, 7, 29, 104, 100, 124, 16, 15, 126, 16, 9, 164, 0, 5] := by decide +kernel
theorem q10w22_3_48 : (cX12_piece.data.toList.drop 48).take 22 = [2, 172, 132, 3, 1, 167, 255, 230, 3, 62, 29, 28, 162, 0, 34, 42, 180, 0, 63, 16, 8, 42] := by decide +kernel
theorem q10w22_3_70 : (cX12_piece.data.toList.drop 70).take 24 = [180, 0, 182, 104, 29, 96, 27, 16, 28, 7, 29, 104, 100, 124, 16, 15, 126, 79, 132, 3, 1, 167, 255, 223] := by decide +kernel
theorem q10w22_3_94 : (cX12_piece.data.toList.drop 94).take 24 = [42, 180, 0, 66, 42, 180, 0, 182, 28, 79, 42, 89, 180, 0, 182, 4, 96, 181, 0, 182, 42, 180, 0, 182] := by decide +kernel
theorem q10w22_3_118 : (cX12_piece.data.toList.drop 118).take 3 = [4, 100, 172] := by decide +kernel
theorem dX12_piece_0 : decode cX12_piece 0 = .ok (.aload_n 0, 1) := dz_42 (dz_at q10w22_3_0 0)
theorem dX12_piece_1 : decode cX12_piece 1 = .ok (.iconst 0, 1) := dz_3 (dz_at q10w22_3_0 1)
theorem dX12_piece_102 : decode cX12_piece 102 = .ok (.iload_n 2, 1) := dz_28 (dz_at q10w22_3_94 8)
theorem dX12_piece_103 : decode cX12_piece 103 = .ok (.iastore, 1) := dz_79 (dz_at q10w22_3_94 9)
theorem dX12_piece_104 : decode cX12_piece 104 = .ok (.aload_n 0, 1) := dz_42 (dz_at q10w22_3_94 10)
theorem dX12_piece_105 : decode cX12_piece 105 = .ok (.dup, 1) := dz_89 (dz_at q10w22_3_94 11)
theorem dX12_piece_106 : decode cX12_piece 106 = .ok (.getfield 182, 3) := dz_180 (dz_at q10w22_3_94 12) rfl
theorem dX12_piece_109 : decode cX12_piece 109 = .ok (.iconst 1, 1) := dz_4 (dz_at q10w22_3_94 15)
theorem dX12_piece_110 : decode cX12_piece 110 = .ok (.iadd, 1) := dz_96 (dz_at q10w22_3_94 16)
theorem dX12_piece_111 : decode cX12_piece 111 = .ok (.putfield 182, 3) := dz_181 (dz_at q10w22_3_94 17) rfl
theorem dX12_piece_114 : decode cX12_piece 114 = .ok (.aload_n 0, 1) := dz_42 (dz_at q10w22_3_94 20)
theorem dX12_piece_115 : decode cX12_piece 115 = .ok (.getfield 182, 3) := dz_180 (dz_at q10w22_3_94 21) rfl
theorem dX12_piece_118 : decode cX12_piece 118 = .ok (.iconst 1, 1) := dz_4 (dz_at q10w22_3_118 0)
theorem dX12_piece_119 : decode cX12_piece 119 = .ok (.isub, 1) := dz_100 (dz_at q10w22_3_118 1)
theorem dX12_piece_12 : decode cX12_piece 12 = .ok (.ifCond .eq 11, 3) := dz_153 (dz_at q10w22_3_0 12) (by decide +kernel)
theorem dX12_piece_120 : decode cX12_piece 120 = .ok (.ireturn, 1) := dz_172 (dz_at q10w22_3_118 2)
theorem dX12_piece_15 : decode cX12_piece 15 = .ok (.aload_n 0, 1) := dz_42 (dz_at q10w22_3_0 15)
theorem dX12_piece_16 : decode cX12_piece 16 = .ok (.getfield 182, 3) := dz_180 (dz_at q10w22_3_0 16) rfl
theorem dX12_piece_19 : decode cX12_piece 19 = .ok (.iconst 5, 1) := dz_8 (dz_at q10w22_3_0 19)
theorem dX12_piece_2 : decode cX12_piece 2 = .ok (.putfield 118, 3) := dz_181 (dz_at q10w22_3_0 2) rfl
theorem dX12_piece_20 : decode cX12_piece 20 = .ok (.if_icmp .ne 5, 3) := dz_160 (dz_at q10w22_3_0 20) (by decide +kernel)
theorem dX12_piece_23 : decode cX12_piece 23 = .ok (.iconst (-1), 1) := dz_2 (dz_at q10w22_3_0 23)
theorem dX12_piece_24 : decode cX12_piece 24 = .ok (.ireturn, 1) := dz_172 (dz_at q10w22_3_24 0)
theorem dX12_piece_25 : decode cX12_piece 25 = .ok (.iconst 0, 1) := dz_3 (dz_at q10w22_3_24 1)
theorem dX12_piece_26 : decode cX12_piece 26 = .ok (.istore_n 3, 1) := dz_62 (dz_at q10w22_3_24 2)
theorem dX12_piece_27 : decode cX12_piece 27 = .ok (.iload_n 3, 1) := dz_29 (dz_at q10w22_3_24 3)
theorem dX12_piece_28 : decode cX12_piece 28 = .ok (.iload_n 2, 1) := dz_28 (dz_at q10w22_3_24 4)
theorem dX12_piece_29 : decode cX12_piece 29 = .ok (.if_icmp .ge 27, 3) := dz_162 (dz_at q10w22_3_24 5) (by decide +kernel)
theorem dX12_piece_32 : decode cX12_piece 32 = .ok (.iload_n 1, 1) := dz_27 (dz_at q10w22_3_24 8)
theorem dX12_piece_33 : decode cX12_piece 33 = .ok (.bipush 28, 2) := dz_16 (dz_at q10w22_3_24 9) (by decide +kernel)
theorem dX12_piece_35 : decode cX12_piece 35 = .ok (.iconst 4, 1) := dz_7 (dz_at q10w22_3_24 11)
theorem dX12_piece_36 : decode cX12_piece 36 = .ok (.iload_n 3, 1) := dz_29 (dz_at q10w22_3_24 12)
theorem dX12_piece_37 : decode cX12_piece 37 = .ok (.imul, 1) := dz_104 (dz_at q10w22_3_24 13)
theorem dX12_piece_38 : decode cX12_piece 38 = .ok (.isub, 1) := dz_100 (dz_at q10w22_3_24 14)
theorem dX12_piece_39 : decode cX12_piece 39 = .ok (.iushr, 1) := dz_124 (dz_at q10w22_3_24 15)
theorem dX12_piece_40 : decode cX12_piece 40 = .ok (.bipush 15, 2) := dz_16 (dz_at q10w22_3_24 16) (by decide +kernel)
theorem dX12_piece_42 : decode cX12_piece 42 = .ok (.iand, 1) := dz_126 (dz_at q10w22_3_24 18)
theorem dX12_piece_43 : decode cX12_piece 43 = .ok (.bipush 9, 2) := dz_16 (dz_at q10w22_3_24 19) (by decide +kernel)
theorem dX12_piece_45 : decode cX12_piece 45 = .ok (.if_icmp .le 5, 3) := dz_164 (dz_at q10w22_3_24 21) (by decide +kernel)
theorem dX12_piece_48 : decode cX12_piece 48 = .ok (.iconst (-1), 1) := dz_2 (dz_at q10w22_3_48 0)
theorem dX12_piece_49 : decode cX12_piece 49 = .ok (.ireturn, 1) := dz_172 (dz_at q10w22_3_48 1)
theorem dX12_piece_5 : decode cX12_piece 5 = .ok (.iload_n 2, 1) := dz_28 (dz_at q10w22_3_0 5)
theorem dX12_piece_50 : decode cX12_piece 50 = .ok (.iinc 3 1, 3) := dz_132 (dz_at q10w22_3_48 2) (by decide +kernel)
theorem dX12_piece_53 : decode cX12_piece 53 = .ok (.goto (-26), 3) := dz_167 (dz_at q10w22_3_48 5) (by decide +kernel)
theorem dX12_piece_56 : decode cX12_piece 56 = .ok (.iconst 0, 1) := dz_3 (dz_at q10w22_3_48 8)
theorem dX12_piece_57 : decode cX12_piece 57 = .ok (.istore_n 3, 1) := dz_62 (dz_at q10w22_3_48 9)
theorem dX12_piece_58 : decode cX12_piece 58 = .ok (.iload_n 3, 1) := dz_29 (dz_at q10w22_3_48 10)
theorem dX12_piece_59 : decode cX12_piece 59 = .ok (.iload_n 2, 1) := dz_28 (dz_at q10w22_3_48 11)
theorem dX12_piece_6 : decode cX12_piece 6 = .ok (.iconst 1, 1) := dz_4 (dz_at q10w22_3_0 6)
theorem dX12_piece_60 : decode cX12_piece 60 = .ok (.if_icmp .ge 34, 3) := dz_162 (dz_at q10w22_3_48 12) (by decide +kernel)
theorem dX12_piece_63 : decode cX12_piece 63 = .ok (.aload_n 0, 1) := dz_42 (dz_at q10w22_3_48 15)
theorem dX12_piece_64 : decode cX12_piece 64 = .ok (.getfield 63, 3) := dz_180 (dz_at q10w22_3_48 16) rfl
theorem dX12_piece_67 : decode cX12_piece 67 = .ok (.bipush 8, 2) := dz_16 (dz_at q10w22_3_48 19) (by decide +kernel)
theorem dX12_piece_69 : decode cX12_piece 69 = .ok (.aload_n 0, 1) := dz_42 (dz_at q10w22_3_48 21)
theorem dX12_piece_7 : decode cX12_piece 7 = .ok (.bipush 8, 2) := dz_16 (dz_at q10w22_3_0 7) (by decide +kernel)
theorem dX12_piece_70 : decode cX12_piece 70 = .ok (.getfield 182, 3) := dz_180 (dz_at q10w22_3_70 0) rfl
theorem dX12_piece_73 : decode cX12_piece 73 = .ok (.imul, 1) := dz_104 (dz_at q10w22_3_70 3)
theorem dX12_piece_74 : decode cX12_piece 74 = .ok (.iload_n 3, 1) := dz_29 (dz_at q10w22_3_70 4)
theorem dX12_piece_75 : decode cX12_piece 75 = .ok (.iadd, 1) := dz_96 (dz_at q10w22_3_70 5)
theorem dX12_piece_76 : decode cX12_piece 76 = .ok (.iload_n 1, 1) := dz_27 (dz_at q10w22_3_70 6)
theorem dX12_piece_77 : decode cX12_piece 77 = .ok (.bipush 28, 2) := dz_16 (dz_at q10w22_3_70 7) (by decide +kernel)
theorem dX12_piece_79 : decode cX12_piece 79 = .ok (.iconst 4, 1) := dz_7 (dz_at q10w22_3_70 9)
theorem dX12_piece_80 : decode cX12_piece 80 = .ok (.iload_n 3, 1) := dz_29 (dz_at q10w22_3_70 10)
theorem dX12_piece_81 : decode cX12_piece 81 = .ok (.imul, 1) := dz_104 (dz_at q10w22_3_70 11)
theorem dX12_piece_82 : decode cX12_piece 82 = .ok (.isub, 1) := dz_100 (dz_at q10w22_3_70 12)
theorem dX12_piece_83 : decode cX12_piece 83 = .ok (.iushr, 1) := dz_124 (dz_at q10w22_3_70 13)
theorem dX12_piece_84 : decode cX12_piece 84 = .ok (.bipush 15, 2) := dz_16 (dz_at q10w22_3_70 14) (by decide +kernel)
theorem dX12_piece_86 : decode cX12_piece 86 = .ok (.iand, 1) := dz_126 (dz_at q10w22_3_70 16)
theorem dX12_piece_87 : decode cX12_piece 87 = .ok (.iastore, 1) := dz_79 (dz_at q10w22_3_70 17)
theorem dX12_piece_88 : decode cX12_piece 88 = .ok (.iinc 3 1, 3) := dz_132 (dz_at q10w22_3_70 18) (by decide +kernel)
theorem dX12_piece_9 : decode cX12_piece 9 = .ok (.invokestatic 124, 3) := dz_184 (dz_at q10w22_3_0 9) rfl
theorem dX12_piece_91 : decode cX12_piece 91 = .ok (.goto (-33), 3) := dz_167 (dz_at q10w22_3_70 21) (by decide +kernel)
theorem dX12_piece_94 : decode cX12_piece 94 = .ok (.aload_n 0, 1) := dz_42 (dz_at q10w22_3_94 0)
theorem dX12_piece_95 : decode cX12_piece 95 = .ok (.getfield 66, 3) := dz_180 (dz_at q10w22_3_94 1) rfl
theorem dX12_piece_98 : decode cX12_piece 98 = .ok (.aload_n 0, 1) := dz_42 (dz_at q10w22_3_94 4)
theorem dX12_piece_99 : decode cX12_piece 99 = .ok (.getfield 182, 3) := dz_180 (dz_at q10w22_3_94 5) rfl
theorem q10w22_4_0 : (cX12_sound.data.toList.drop 0).take 22 = [42, 180, 0, 63, 16, 8, 27, 104, 28, 153, 0, 16, 42, 180, 0, 66, 27, 46, 4, 100, 29, 100] := by decide +kernel
theorem q10w22_4_22 : (cX12_sound.data.toList.drop 22).take 7 = [167, 0, 4, 29, 96, 46, 172] := by decide +kernel
theorem dX12_sound_0 : decode cX12_sound 0 = .ok (.aload_n 0, 1) := dz_42 (dz_at q10w22_4_0 0)
theorem dX12_sound_1 : decode cX12_sound 1 = .ok (.getfield 63, 3) := dz_180 (dz_at q10w22_4_0 1) rfl
theorem dX12_sound_12 : decode cX12_sound 12 = .ok (.aload_n 0, 1) := dz_42 (dz_at q10w22_4_0 12)
theorem dX12_sound_13 : decode cX12_sound 13 = .ok (.getfield 66, 3) := dz_180 (dz_at q10w22_4_0 13) rfl
theorem dX12_sound_16 : decode cX12_sound 16 = .ok (.iload_n 1, 1) := dz_27 (dz_at q10w22_4_0 16)
theorem dX12_sound_17 : decode cX12_sound 17 = .ok (.iaload, 1) := dz_46 (dz_at q10w22_4_0 17)
theorem dX12_sound_18 : decode cX12_sound 18 = .ok (.iconst 1, 1) := dz_4 (dz_at q10w22_4_0 18)
theorem dX12_sound_19 : decode cX12_sound 19 = .ok (.isub, 1) := dz_100 (dz_at q10w22_4_0 19)
theorem dX12_sound_20 : decode cX12_sound 20 = .ok (.iload_n 3, 1) := dz_29 (dz_at q10w22_4_0 20)
theorem dX12_sound_21 : decode cX12_sound 21 = .ok (.isub, 1) := dz_100 (dz_at q10w22_4_0 21)
theorem dX12_sound_22 : decode cX12_sound 22 = .ok (.goto 4, 3) := dz_167 (dz_at q10w22_4_22 0) (by decide +kernel)
theorem dX12_sound_25 : decode cX12_sound 25 = .ok (.iload_n 3, 1) := dz_29 (dz_at q10w22_4_22 3)
theorem dX12_sound_26 : decode cX12_sound 26 = .ok (.iadd, 1) := dz_96 (dz_at q10w22_4_22 4)
theorem dX12_sound_27 : decode cX12_sound 27 = .ok (.iaload, 1) := dz_46 (dz_at q10w22_4_22 5)
theorem dX12_sound_28 : decode cX12_sound 28 = .ok (.ireturn, 1) := dz_172 (dz_at q10w22_4_22 6)
theorem dX12_sound_4 : decode cX12_sound 4 = .ok (.bipush 8, 2) := dz_16 (dz_at q10w22_4_0 4) (by decide +kernel)
theorem dX12_sound_6 : decode cX12_sound 6 = .ok (.iload_n 1, 1) := dz_27 (dz_at q10w22_4_0 6)
theorem dX12_sound_7 : decode cX12_sound 7 = .ok (.imul, 1) := dz_104 (dz_at q10w22_4_0 7)
theorem dX12_sound_8 : decode cX12_sound 8 = .ok (.iload_n 2, 1) := dz_28 (dz_at q10w22_4_0 8)
theorem dX12_sound_9 : decode cX12_sound 9 = .ok (.ifCond .eq 16, 3) := dz_153 (dz_at q10w22_4_0 9) (by decide +kernel)
theorem dm_X12_sound : yX12_sound.cls = RX12 ∧ yX12_sound.cls ≠ "java/lang/invoke/MethodHandle" ∧ yX12_sound.cls ≠ "java/lang/invoke/VarHandle" ∧ (parseMethodDescriptor yX12_sound.desc).map (fun d => d.parameters.length) = some 3 := by decide +kernel
theorem dm_X12_lies : yX12_lies.cls = RX12 ∧ yX12_lies.cls ≠ "java/lang/invoke/MethodHandle" ∧ yX12_lies.cls ≠ "java/lang/invoke/VarHandle" ∧ (parseMethodDescriptor yX12_lies.desc).map (fun d => d.parameters.length) = some 5 := by decide +kernel
theorem dm_X12_joinFrom : yX12_joinFrom.cls = RX12 ∧ yX12_joinFrom.cls ≠ "java/lang/invoke/MethodHandle" ∧ yX12_joinFrom.cls ≠ "java/lang/invoke/VarHandle" ∧ (parseMethodDescriptor yX12_joinFrom.desc).map (fun d => d.parameters.length) = some 3 := by decide +kernel
set_option maxRecDepth 100000 in
def wR_piece (a0 : Int) (a1 : Int) (M : zM) (Q : Int → zM → Prop) : Prop := (∀ M1 : zM, M1 = zup M 0 35 0 → wR_in a1 1 8 M1 (fun z4 => (z4 = 0 → Q (-1) M1) ∧ (z4 ≠ 0 → ((sI (M1 0 27)) ≠ 5 → pL1 (fun K27 x9 => ((sI a1) ≤ (sI x9) → wL1 (fun K58 x18 M19 => ((sI a1) ≤ (sI x18) → ((0 ≤ (sI (M19 0 27)) ∧ (sI (M19 0 27)) < 5) ∧ (∀ M29 : zM, M29 = zup M19 17 (sI (M19 0 27)).toNat a1 → (∀ M31 : zM, M31 = zup M29 0 27 ((M29 0 27) + 1) → Q (sI ((M31 0 27) - 1)) M31)))) ∧ ((sI x18) < (sI a1) → ((0 ≤ (sI ((8 * (M19 0 27)) + x18)) ∧ (sI ((8 * (M19 0 27)) + x18)) < 40) ∧ (∀ M34 : zM, M34 = zup M19 16 (sI ((8 * (M19 0 27)) + x18)).toNat (andI (ushrI a0 (28 - (4 * x18))) 15) → K58 (x18 + 1) M34)))) 0 M1) ∧ ((sI x9) < (sI a1) → ((andI (ushrI a0 (28 - (4 * x9))) 15) ≤ 9 → K27 (x9 + 1)) ∧ (9 < (andI (ushrI a0 (28 - (4 * x9))) 15) → Q (-1) M1))) 0) ∧ ((sI (M1 0 27)) = 5 → Q (-1) M1))))
set_option maxHeartbeats 4000000 in
set_option maxRecDepth 100000 in
theorem cR_piece (l : Launch) (D : va_G) (dA : Nat → ClassId) (b : Nat) (M : zM) (a0 : Int) (a1 : Int)  (Q : Int → zM → Prop) (h : wR_piece a0 a1 M Q) : Met l yX12_piece (.code yX12_piece cX12_piece 4 (some .int) :: zt) (z_rm 1) (va_Pc [.ref (b + 0), .int (iI a0), .int (iI a1)] (wPre D dA vwCl (z_tys dA) wR nR b M)) (va_Qi (wQi Q) (zB D dA vwCl wR nR b) (zA nR b)) 0 0 (zA nR b) := by
  unfold wR_piece at h
  refine Met.ofW (cc := cX12_piece) (maxL := 4) (ret := (some .int)) (by decide) rfl ?_
  intro p e s m args below meth c s₁ B hml hv
  obtain ⟨hargs, hS, hK⟩ := hv
  have hx := B.exec
  have hb := B.bytes
  have hr := B.returns
  have hts := atoms_spec (ws := .code yX12_piece cX12_piece 4 (some .int) :: zt) B.pre
  have hown : s.vm.findClass RX12 = some m.cls := findClass_of_methodNamed B.named
  have hlocks := B.notSynchronized
  have hS0 : va_S (zA nR b) s.heap s.heap [] := va_S.rf
  have hl := lv_entry ([.ref (b + 0), .int (iI a0), .int (iI a1)]) (n := 4) (Nat.le_of_ble_eq_true rfl)
  have hent : entryFrame m args 4 = F0 m 0 ((lg_sl ([.ref (b + 0), .int (iI a0), .int (iI a1)]) ++ List.replicate (4 - (lg_sl ([.ref (b + 0), .int (iI a0), .int (iI a1)])).length) Slot.unset).toArray) [] := by rw [hargs]; exact lg_entry_eq m ([.ref (b + 0), .int (iI a0), .int (iI a1)]) 4
  rw [hent]
  generalize (lg_sl ([.ref (b + 0), .int (iI a0), .int (iI a1)]) ++ List.replicate (4 - (lg_sl ([.ref (b + 0), .int (iI a0), .int (iI a1)])).length) Slot.unset).toArray = ls at hl ⊢
  have hl : lv_has ls 4 [(0, .ref (b + 0)), (1, .int (iI a0)), (2, .int (iI a1))] := hl
  refine lv_aload_n hx hb dX12_piece_0 rfl (lv_at hl 0 rfl) ?_
  refine z_iconst hx hb dX12_piece_1 ?_
  refine w_puti hx hb hts (z_memU u12) tyX12 tyX12_ok nmX12 hown hK.1 hS hS0 f12_35 (by decide) (zkd_of (rfl : zcd wR 0 = 50) rfl) (Or.inl (hts _ (z_mem k979))) rfl (z := 0) (by decide +kernel) dX12_piece_2 (fun H locs hS hS0 => ?_)
  obtain ⟨M1, e2⟩ : ∃ M1 : zM, M1 = zup M 0 35 0 := ⟨_, rfl⟩
  rw [← e2] at hS
  have h := h M1 e2
  refine lv_iload_n hx hb dX12_piece_5 rfl (lv_at hl 2 rfl) ?_
  refine z_iconst hx hb dX12_piece_6 ?_
  refine z_bipush hx hb (by decide) dX12_piece_7 ?_
  refine w_callz (va_runS (As := [.int (iI a1), .int (iI 1), .int (iI 8)]) (rest := []) ⟨hx, hb, hml, hown, hts⟩ (cR_in l D dA b M1 a1 1 8 _ h) (va_cwS 3 hts (z_gS k1083 k1084 k14 k1085) rfl rfl rfl dm_X12_in.2 ⟨Nat.le_of_ble_eq_true rfl, Nat.le_of_ble_eq_true rfl⟩) ⟨wPre_blind, w_pre hS hK⟩ rfl rfl hl.1 rfl (lv_room (Nat.le_of_ble_eq_true rfl)) dX12_piece_9 ⟨Nat.le_refl _, Nat.le_refl _⟩) hS0 (fun z4 M3 H locs r5 h hS hS0 => ?_)
  obtain ⟨e6, h⟩ := h
  rw [e6] at hS
  refine w_if_eq (tgt := 23) hx hb (sI_01 r5) dX12_piece_12 (by decide) (fun c7 => ?_) (fun c7 => ?_)
  · skip
    have h := h.1 c7
    refine z_iconst hx hb dX12_piece_23 ?_
    exact w_iret hx hb hr hlocks hS hS0 (sI_of (by decide)) h dX12_piece_24
  · skip
    have h := h.2 c7
    refine lv_aload_n hx hb dX12_piece_15 rfl (lv_at hl 0 rfl) ?_
    refine w_geti hx hb hts (z_memU u12) hown hK.1 hS f12_27 (by decide) (zkd_of (rfl : zcd wR 0 = 50) rfl) (Or.inl (hts _ (z_mem k971))) dX12_piece_16 ?_
    refine z_iconst hx hb dX12_piece_19 ?_
    refine w_icmp_ne (tgt := 25) hx hb rfl (sI_of (by decide)) dX12_piece_20 (by decide) (fun c8 => ?_) (fun c8 => ?_)
    · skip
      have h := h.1 c8
      refine z_iconst hx hb dX12_piece_25 ?_
      refine lv_istore_n (lv' := [(3, .int (iI 0)), (0, .ref (b + 0)), (1, .int (iI a0)), (2, .int (iI a1))]) hx hb dX12_piece_26 rfl hl (by decide) rfl (fun ls hl => ?_)
      obtain ⟨I10, ⟨n11, h12⟩, h13⟩ := h
      have L14 : ∀ (n15 : Nat) (x9 : Int) (H : Heap) (locs : List Loc) (ls : Array Slot), I10 n15 x9 → zR D dA vwCl wR nR b M1 H → va_S (zA nR b) s.heap H locs → lv_has ls 4 [(0, .ref (b + 0)), (1, .int (iI a0)), (2, .int (iI a1)), (3, .int (iI x9))] → W p l e (headSpec (.code yX12_piece cX12_piece 4 (some .int) :: zt) (z_rm 1)).room s m args below meth c H locs 0 0 (MQ below (va_Qi (wQi Q) (zB D dA vwCl wR nR b) (zA nR b)) args s 0 0 (zA nR b)) (F0 m 27 ls []) := by
        intro n15
        induction n15 using Nat.strongRecOn with
        | ind n15 i16 =>
          intro x9 H locs ls h hS hS0 hl
          have h := h13 n15 x9 h
          refine lv_iload_n hx hb dX12_piece_27 rfl (lv_at hl 3 rfl) ?_
          refine lv_iload_n hx hb dX12_piece_28 rfl (lv_at hl 2 rfl) ?_
          refine w_icmp_ge (tgt := 56) hx hb rfl rfl dX12_piece_29 (by decide) (fun c17 => ?_) (fun c17 => ?_)
          · skip
            have h := h.1 c17
            refine z_iconst hx hb dX12_piece_56 ?_
            refine lv_istore_n (lv' := [(3, .int (iI 0)), (0, .ref (b + 0)), (1, .int (iI a0)), (2, .int (iI a1))]) hx hb dX12_piece_57 rfl hl (by decide) rfl (fun ls hl => ?_)
            obtain ⟨I20, ⟨n21, h22⟩, h23⟩ := h
            have L24 : ∀ (n25 : Nat) (x18 : Int) (M19 : zM) (H : Heap) (locs : List Loc) (ls : Array Slot), I20 n25 x18 M19 → zR D dA vwCl wR nR b M19 H → va_S (zA nR b) s.heap H locs → lv_has ls 4 [(0, .ref (b + 0)), (1, .int (iI a0)), (2, .int (iI a1)), (3, .int (iI x18))] → W p l e (headSpec (.code yX12_piece cX12_piece 4 (some .int) :: zt) (z_rm 1)).room s m args below meth c H locs 0 0 (MQ below (va_Qi (wQi Q) (zB D dA vwCl wR nR b) (zA nR b)) args s 0 0 (zA nR b)) (F0 m 58 ls []) := by
              intro n25
              induction n25 using Nat.strongRecOn with
              | ind n25 i26 =>
                intro x18 M19 H locs ls h hS hS0 hl
                have h := h23 n25 x18 M19 h
                refine lv_iload_n hx hb dX12_piece_58 rfl (lv_at hl 3 rfl) ?_
                refine lv_iload_n hx hb dX12_piece_59 rfl (lv_at hl 2 rfl) ?_
                refine w_icmp_ge (tgt := 94) hx hb rfl rfl dX12_piece_60 (by decide) (fun c27 => ?_) (fun c27 => ?_)
                · skip
                  have h := h.1 c27
                  refine lv_aload_n hx hb dX12_piece_94 rfl (lv_at hl 0 rfl) ?_
                  refine w_getr (j2 := 17) hx hb hts (z_memU u12) hown hK.1 hS f12_26 (by decide) (zkd_of (rfl : zcd wR 0 = 50) rfl) (zrf_of (rfl : zcd wR 0 = 50) rfl) (Or.inl (hts _ (z_mem k970))) dX12_piece_95 ?_
                  refine lv_aload_n hx hb dX12_piece_98 rfl (lv_at hl 0 rfl) ?_
                  refine w_geti hx hb hts (z_memU u12) hown hK.1 hS f12_27 (by decide) (zkd_of (rfl : zcd wR 0 = 50) rfl) (Or.inl (hts _ (z_mem k971))) dX12_piece_99 ?_
                  refine lv_iload_n hx hb dX12_piece_102 rfl (lv_at hl 2 rfl) ?_
                  obtain ⟨o28, h⟩ := h
                  refine w_iast (z := a1) (n := 5) (i := (sI (M19 0 27))) hx hb hK.1 (t0 := 0) rfl hS hS0 (by decide) (zkd_of (rfl : zcd wR 17 = 67) rfl) (zln_of (rfl : zcd wR 17 = 67) rfl) rfl o28.1 o28.2 (by decide) dX12_piece_103 (fun H locs hS hS0 => ?_)
                  obtain ⟨M29, e30⟩ : ∃ M29 : zM, M29 = zup M19 17 (sI (M19 0 27)).toNat a1 := ⟨_, rfl⟩
                  rw [← e30] at hS
                  have h := h M29 e30
                  refine lv_aload_n hx hb dX12_piece_104 rfl (lv_at hl 0 rfl) ?_
                  refine lv_dup hx hb dX12_piece_105 rfl ?_
                  refine w_geti hx hb hts (z_memU u12) hown hK.1 hS f12_27 (by decide) (zkd_of (rfl : zcd wR 0 = 50) rfl) (Or.inl (hts _ (z_mem k971))) dX12_piece_106 ?_
                  refine z_iconst hx hb dX12_piece_109 ?_
                  refine z_iadd hx hb dX12_piece_110 ?_
                  refine w_puti hx hb hts (z_memU u12) tyX12 tyX12_ok nmX12 hown hK.1 hS hS0 f12_27 (by decide) (zkd_of (rfl : zcd wR 0 = 50) rfl) (Or.inl (hts _ (z_mem k971))) rfl (z := ((M29 0 27) + 1)) (by decide +kernel) dX12_piece_111 (fun H locs hS hS0 => ?_)
                  obtain ⟨M31, e32⟩ : ∃ M31 : zM, M31 = zup M29 0 27 ((M29 0 27) + 1) := ⟨_, rfl⟩
                  rw [← e32] at hS
                  have h := h M31 e32
                  refine lv_aload_n hx hb dX12_piece_114 rfl (lv_at hl 0 rfl) ?_
                  refine w_geti hx hb hts (z_memU u12) hown hK.1 hS f12_27 (by decide) (zkd_of (rfl : zcd wR 0 = 50) rfl) (Or.inl (hts _ (z_mem k971))) dX12_piece_115 ?_
                  refine z_iconst hx hb dX12_piece_118 ?_
                  refine z_isub hx hb dX12_piece_119 ?_
                  exact w_iret hx hb hr hlocks hS hS0 rfl h dX12_piece_120
                · skip
                  have h := h.2 c27
                  refine lv_aload_n hx hb dX12_piece_63 rfl (lv_at hl 0 rfl) ?_
                  refine w_getr (j2 := 16) hx hb hts (z_memU u12) hown hK.1 hS f12_25 (by decide) (zkd_of (rfl : zcd wR 0 = 50) rfl) (zrf_of (rfl : zcd wR 0 = 50) rfl) (Or.inl (hts _ (z_mem k969))) dX12_piece_64 ?_
                  refine z_bipush hx hb (by decide) dX12_piece_67 ?_
                  refine lv_aload_n hx hb dX12_piece_69 rfl (lv_at hl 0 rfl) ?_
                  refine w_geti hx hb hts (z_memU u12) hown hK.1 hS f12_27 (by decide) (zkd_of (rfl : zcd wR 0 = 50) rfl) (Or.inl (hts _ (z_mem k971))) dX12_piece_70 ?_
                  refine z_imul hx hb dX12_piece_73 ?_
                  refine lv_iload_n hx hb dX12_piece_74 rfl (lv_at hl 3 rfl) ?_
                  refine z_iadd hx hb dX12_piece_75 ?_
                  refine lv_iload_n hx hb dX12_piece_76 rfl (lv_at hl 1 rfl) ?_
                  refine z_bipush hx hb (by decide) dX12_piece_77 ?_
                  refine z_iconst hx hb dX12_piece_79 ?_
                  refine lv_iload_n hx hb dX12_piece_80 rfl (lv_at hl 3 rfl) ?_
                  refine z_imul hx hb dX12_piece_81 ?_
                  refine z_isub hx hb dX12_piece_82 ?_
                  refine w_iushr hx hb dX12_piece_83 ?_
                  refine z_bipush hx hb (by decide) dX12_piece_84 ?_
                  refine w_iand hx hb dX12_piece_86 ?_
                  obtain ⟨o33, h⟩ := h
                  refine w_iast (z := (andI (ushrI a0 (28 - (4 * x18))) 15)) (n := 40) (i := (sI ((8 * (M19 0 27)) + x18))) hx hb hK.1 (t0 := 0) rfl hS hS0 (by decide) (zkd_of (rfl : zcd wR 16 = 66) rfl) (zln_of (rfl : zcd wR 16 = 66) rfl) rfl o33.1 o33.2 (by decide) dX12_piece_87 (fun H locs hS hS0 => ?_)
                  obtain ⟨M34, e35⟩ : ∃ M34 : zM, M34 = zup M19 16 (sI ((8 * (M19 0 27)) + x18)).toNat (andI (ushrI a0 (28 - (4 * x18))) 15) := ⟨_, rfl⟩
                  rw [← e35] at hS
                  have h := h M34 e35
                  refine z_iinc (lv' := [(3, .int (iI (x18 + 1))), (0, .ref (b + 0)), (1, .int (iI a0)), (2, .int (iI a1))]) hx hb dX12_piece_88 hl (k := 3) rfl (by decide) rfl (fun ls hl => ?_)
                  refine lv_goto (tgt := 58) hx hb dX12_piece_91 (by decide) ?_
                  obtain ⟨n36, h37, h⟩ := h
                  exact i26 n36 h37 (x18 + 1) M34 _ _ _ h hS hS0 (lv_sub hl [1, 2, 3, 0] rfl)
            exact L24 n21 0 M1 _ _ _ h22 hS hS0 (lv_sub hl [1, 2, 3, 0] rfl)
          · skip
            have h := h.2 c17
            refine lv_iload_n hx hb dX12_piece_32 rfl (lv_at hl 1 rfl) ?_
            refine z_bipush hx hb (by decide) dX12_piece_33 ?_
            refine z_iconst hx hb dX12_piece_35 ?_
            refine lv_iload_n hx hb dX12_piece_36 rfl (lv_at hl 3 rfl) ?_
            refine z_imul hx hb dX12_piece_37 ?_
            refine z_isub hx hb dX12_piece_38 ?_
            refine w_iushr hx hb dX12_piece_39 ?_
            refine z_bipush hx hb (by decide) dX12_piece_40 ?_
            refine w_iand hx hb dX12_piece_42 ?_
            refine z_bipush hx hb (by decide) dX12_piece_43 ?_
            refine w_icmp_le (tgt := 50) hx hb (sI_of (andI_R _ _)) (sI_of (by decide)) dX12_piece_45 (by decide) (fun c38 => ?_) (fun c38 => ?_)
            · skip
              have h := h.1 c38
              refine z_iinc (lv' := [(3, .int (iI (x9 + 1))), (0, .ref (b + 0)), (1, .int (iI a0)), (2, .int (iI a1))]) hx hb dX12_piece_50 hl (k := 3) rfl (by decide) rfl (fun ls hl => ?_)
              refine lv_goto (tgt := 27) hx hb dX12_piece_53 (by decide) ?_
              obtain ⟨n39, h40, h⟩ := h
              exact i16 n39 h40 (x9 + 1) _ _ _ h hS hS0 (lv_sub hl [1, 2, 3, 0] rfl)
            · skip
              have h := h.2 c38
              refine z_iconst hx hb dX12_piece_48 ?_
              exact w_iret hx hb hr hlocks hS hS0 (sI_of (by decide)) h dX12_piece_49
      exact L14 n11 0 _ _ _ h12 hS hS0 (lv_sub hl [1, 2, 3, 0] rfl)
    · skip
      have h := h.2 c8
      refine z_iconst hx hb dX12_piece_23 ?_
      exact w_iret hx hb hr hlocks hS hS0 (sI_of (by decide)) h dX12_piece_24

set_option maxRecDepth 100000 in
def wR_burn  (M : zM) (Q : Int → zM → Prop) : Prop := (∀ M1 : zM, M1 = zup M 0 35 0 → (∀ M3 : zM, M3 = zup M1 0 27 0 → Q (sI (M1 0 27)) M3))
set_option maxHeartbeats 4000000 in
set_option maxRecDepth 100000 in
theorem cR_burn (l : Launch) (D : va_G) (dA : Nat → ClassId) (b : Nat) (M : zM)   (Q : Int → zM → Prop) (h : wR_burn  M Q) : Met l yX12_burn (.code yX12_burn cX12_burn 2 (some .int) :: zt) (z_rm 0) (va_Pc [.ref (b + 0)] (wPre D dA vwCl (z_tys dA) wR nR b M)) (va_Qi (wQi Q) (zB D dA vwCl wR nR b) (zA nR b)) 0 0 (zA nR b) := by
  unfold wR_burn at h
  refine Met.ofW (cc := cX12_burn) (maxL := 2) (ret := (some .int)) (by decide) rfl ?_
  intro p e s m args below meth c s₁ B hml hv
  obtain ⟨hargs, hS, hK⟩ := hv
  have hx := B.exec
  have hb := B.bytes
  have hr := B.returns
  have hts := atoms_spec (ws := .code yX12_burn cX12_burn 2 (some .int) :: zt) B.pre
  have hown : s.vm.findClass RX12 = some m.cls := findClass_of_methodNamed B.named
  have hlocks := B.notSynchronized
  have hS0 : va_S (zA nR b) s.heap s.heap [] := va_S.rf
  have hl := lv_entry ([.ref (b + 0)]) (n := 2) (Nat.le_of_ble_eq_true rfl)
  have hent : entryFrame m args 2 = F0 m 0 ((lg_sl ([.ref (b + 0)]) ++ List.replicate (2 - (lg_sl ([.ref (b + 0)])).length) Slot.unset).toArray) [] := by rw [hargs]; exact lg_entry_eq m ([.ref (b + 0)]) 2
  rw [hent]
  generalize (lg_sl ([.ref (b + 0)]) ++ List.replicate (2 - (lg_sl ([.ref (b + 0)])).length) Slot.unset).toArray = ls at hl ⊢
  have hl : lv_has ls 2 [(0, .ref (b + 0))] := hl
  refine lv_aload_n hx hb dX12_burn_0 rfl (lv_at hl 0 rfl) ?_
  refine z_iconst hx hb dX12_burn_1 ?_
  refine w_puti hx hb hts (z_memU u12) tyX12 tyX12_ok nmX12 hown hK.1 hS hS0 f12_35 (by decide) (zkd_of (rfl : zcd wR 0 = 50) rfl) (Or.inl (hts _ (z_mem k979))) rfl (z := 0) (by decide +kernel) dX12_burn_2 (fun H locs hS hS0 => ?_)
  obtain ⟨M1, e2⟩ : ∃ M1 : zM, M1 = zup M 0 35 0 := ⟨_, rfl⟩
  rw [← e2] at hS
  have h := h M1 e2
  refine lv_aload_n hx hb dX12_burn_5 rfl (lv_at hl 0 rfl) ?_
  refine w_geti hx hb hts (z_memU u12) hown hK.1 hS f12_27 (by decide) (zkd_of (rfl : zcd wR 0 = 50) rfl) (Or.inl (hts _ (z_mem k971))) dX12_burn_6 ?_
  refine lv_istore_n (lv' := [(1, .int (iI (M1 0 27))), (0, .ref (b + 0))]) hx hb dX12_burn_9 rfl hl (by decide) rfl (fun ls hl => ?_)
  refine lv_aload_n hx hb dX12_burn_10 rfl (lv_at hl 1 rfl) ?_
  refine z_iconst hx hb dX12_burn_11 ?_
  refine w_puti hx hb hts (z_memU u12) tyX12 tyX12_ok nmX12 hown hK.1 hS hS0 f12_27 (by decide) (zkd_of (rfl : zcd wR 0 = 50) rfl) (Or.inl (hts _ (z_mem k971))) rfl (z := 0) (by decide +kernel) dX12_burn_12 (fun H locs hS hS0 => ?_)
  obtain ⟨M3, e4⟩ : ∃ M3 : zM, M3 = zup M1 0 27 0 := ⟨_, rfl⟩
  rw [← e4] at hS
  have h := h M3 e4
  refine lv_iload_n hx hb dX12_burn_15 rfl (lv_at hl 0 rfl) ?_
  exact w_iret hx hb hr hlocks hS hS0 rfl h dX12_burn_16

set_option maxRecDepth 100000 in
def wR_sound (a0 : Int) (a1 : Int) (a2 : Int) (M : zM) (Q : Int → Prop) : Prop := ((sI a1) = 0 → ((0 ≤ (sI ((8 * a0) + a2)) ∧ (sI ((8 * a0) + a2)) < 40) ∧ Q (sI (M 16 (sI ((8 * a0) + a2)).toNat)))) ∧ ((sI a1) ≠ 0 → ((0 ≤ (sI a0) ∧ (sI a0) < 5) ∧ ((0 ≤ (sI ((8 * a0) + (((M 17 (sI a0).toNat) - 1) - a2))) ∧ (sI ((8 * a0) + (((M 17 (sI a0).toNat) - 1) - a2))) < 40) ∧ Q (sI (M 16 (sI ((8 * a0) + (((M 17 (sI a0).toNat) - 1) - a2))).toNat)))))
set_option maxHeartbeats 4000000 in
set_option maxRecDepth 100000 in
theorem cR_sound (l : Launch) (D : va_G) (dA : Nat → ClassId) (b : Nat) (M : zM) (a0 : Int) (a1 : Int) (a2 : Int)  (Q : Int → Prop) (h : wR_sound a0 a1 a2 M Q) : Met l yX12_sound (.code yX12_sound cX12_sound 4 (some .int) :: zt) (z_rm 0) (va_Pc [.ref (b + 0), .int (iI a0), .int (iI a1), .int (iI a2)] (wPre D dA vwCl (z_tys dA) wR nR b M)) (va_Qi (wQi (fun z9 u9 => u9 = M ∧ Q z9)) (zB D dA vwCl wR nR b) (zA nR b)) 0 0 (zA nR b) := by
  unfold wR_sound at h
  refine Met.ofW (cc := cX12_sound) (maxL := 4) (ret := (some .int)) (by decide) rfl ?_
  intro p e s m args below meth c s₁ B hml hv
  obtain ⟨hargs, hS, hK⟩ := hv
  have hx := B.exec
  have hb := B.bytes
  have hr := B.returns
  have hts := atoms_spec (ws := .code yX12_sound cX12_sound 4 (some .int) :: zt) B.pre
  have hown : s.vm.findClass RX12 = some m.cls := findClass_of_methodNamed B.named
  have hlocks := B.notSynchronized
  have hS0 : va_S (zA nR b) s.heap s.heap [] := va_S.rf
  have hl := lv_entry ([.ref (b + 0), .int (iI a0), .int (iI a1), .int (iI a2)]) (n := 4) (Nat.le_of_ble_eq_true rfl)
  have hent : entryFrame m args 4 = F0 m 0 ((lg_sl ([.ref (b + 0), .int (iI a0), .int (iI a1), .int (iI a2)]) ++ List.replicate (4 - (lg_sl ([.ref (b + 0), .int (iI a0), .int (iI a1), .int (iI a2)])).length) Slot.unset).toArray) [] := by rw [hargs]; exact lg_entry_eq m ([.ref (b + 0), .int (iI a0), .int (iI a1), .int (iI a2)]) 4
  rw [hent]
  generalize (lg_sl ([.ref (b + 0), .int (iI a0), .int (iI a1), .int (iI a2)]) ++ List.replicate (4 - (lg_sl ([.ref (b + 0), .int (iI a0), .int (iI a1), .int (iI a2)])).length) Slot.unset).toArray = ls at hl ⊢
  have hl : lv_has ls 4 [(0, .ref (b + 0)), (1, .int (iI a0)), (2, .int (iI a1)), (3, .int (iI a2))] := hl
  refine lv_aload_n hx hb dX12_sound_0 rfl (lv_at hl 0 rfl) ?_
  refine w_getr (j2 := 16) hx hb hts (z_memU u12) hown hK.1 hS f12_25 (by decide) (zkd_of (rfl : zcd wR 0 = 50) rfl) (zrf_of (rfl : zcd wR 0 = 50) rfl) (Or.inl (hts _ (z_mem k969))) dX12_sound_1 ?_
  refine z_bipush hx hb (by decide) dX12_sound_4 ?_
  refine lv_iload_n hx hb dX12_sound_6 rfl (lv_at hl 1 rfl) ?_
  refine z_imul hx hb dX12_sound_7 ?_
  refine lv_iload_n hx hb dX12_sound_8 rfl (lv_at hl 2 rfl) ?_
  refine w_if_eq (tgt := 25) hx hb rfl dX12_sound_9 (by decide) (fun c1 => ?_) (fun c1 => ?_)
  · skip
    have h := h.1 c1
    refine lv_iload_n hx hb dX12_sound_25 rfl (lv_at hl 3 rfl) ?_
    refine z_iadd hx hb dX12_sound_26 ?_
    obtain ⟨o2, h⟩ := h
    refine w_iald (n := 40) (i := (sI ((8 * a0) + a2))) hx hb hK.1 (t0 := 0) rfl hS (by decide) (zkd_of (rfl : zcd wR 16 = 66) rfl) (zln_of (rfl : zcd wR 16 = 66) rfl) rfl o2.1 o2.2 (by decide) dX12_sound_27 ?_
    exact w_iret hx hb hr hlocks hS hS0 rfl ⟨rfl, h⟩ dX12_sound_28
  · skip
    have h := h.2 c1
    refine lv_aload_n hx hb dX12_sound_12 rfl (lv_at hl 0 rfl) ?_
    refine w_getr (j2 := 17) hx hb hts (z_memU u12) hown hK.1 hS f12_26 (by decide) (zkd_of (rfl : zcd wR 0 = 50) rfl) (zrf_of (rfl : zcd wR 0 = 50) rfl) (Or.inl (hts _ (z_mem k970))) dX12_sound_13 ?_
    refine lv_iload_n hx hb dX12_sound_16 rfl (lv_at hl 1 rfl) ?_
    obtain ⟨o3, h⟩ := h
    refine w_iald (n := 5) (i := (sI a0)) hx hb hK.1 (t0 := 0) rfl hS (by decide) (zkd_of (rfl : zcd wR 17 = 67) rfl) (zln_of (rfl : zcd wR 17 = 67) rfl) rfl o3.1 o3.2 (by decide) dX12_sound_17 ?_
    refine z_iconst hx hb dX12_sound_18 ?_
    refine z_isub hx hb dX12_sound_19 ?_
    refine lv_iload_n hx hb dX12_sound_20 rfl (lv_at hl 3 rfl) ?_
    refine z_isub hx hb dX12_sound_21 ?_
    refine lv_goto (tgt := 26) hx hb dX12_sound_22 (by decide) ?_
    refine z_iadd hx hb dX12_sound_26 ?_
    obtain ⟨o4, h⟩ := h
    refine w_iald (n := 40) (i := (sI ((8 * a0) + (((M 17 (sI a0).toNat) - 1) - a2)))) hx hb hK.1 (t0 := 0) rfl hS (by decide) (zkd_of (rfl : zcd wR 16 = 66) rfl) (zln_of (rfl : zcd wR 16 = 66) rfl) rfl o4.1 o4.2 (by decide) dX12_sound_27 ?_
    exact w_iret hx hb hr hlocks hS hS0 rfl ⟨rfl, h⟩ dX12_sound_28

set_option maxRecDepth 100000 in
def wR_lies (a0 : Int) (a1 : Int) (a2 : Int) (a3 : Int) (a4 : Int) (M : zM) (Q : Int → Prop) : Prop := pL1 (fun K3 x1 => ((sI a4) ≤ (sI x1) → Q 1) ∧ ((sI x1) < (sI a4) → ((0 ≤ (sI (((a0 + a1) - a4) + x1)) ∧ (sI (((a0 + a1) - a4) + x1)) < 240) ∧ wR_sound a2 a3 x1 M (fun z12 => ((sI (M 31 (sI (((a0 + a1) - a4) + x1)).toNat)) = z12 → K3 (x1 + 1)) ∧ ((sI (M 31 (sI (((a0 + a1) - a4) + x1)).toNat)) ≠ z12 → Q 0))))) 0
set_option maxHeartbeats 4000000 in
set_option maxRecDepth 100000 in
theorem cR_lies (l : Launch) (D : va_G) (dA : Nat → ClassId) (b : Nat) (M : zM) (a0 : Int) (a1 : Int) (a2 : Int) (a3 : Int) (a4 : Int)  (Q : Int → Prop) (h : wR_lies a0 a1 a2 a3 a4 M Q) : Met l yX12_lies (.code yX12_lies cX12_lies 7 (some .boolean) :: zt) (z_rm 1) (va_Pc [.ref (b + 0), .int (iI a0), .int (iI a1), .int (iI a2), .int (iI a3), .int (iI a4)] (wPre D dA vwCl (z_tys dA) wR nR b M)) (va_Qi (wQz (fun z9 u9 => u9 = M ∧ Q z9)) (zB D dA vwCl wR nR b) (zA nR b)) 0 0 (zA nR b) := by
  unfold wR_lies at h
  refine Met.ofW (cc := cX12_lies) (maxL := 7) (ret := (some .boolean)) (by decide) rfl ?_
  intro p e s m args below meth c s₁ B hml hv
  obtain ⟨hargs, hS, hK⟩ := hv
  have hx := B.exec
  have hb := B.bytes
  have hr := B.returns
  have hts := atoms_spec (ws := .code yX12_lies cX12_lies 7 (some .boolean) :: zt) B.pre
  have hown : s.vm.findClass RX12 = some m.cls := findClass_of_methodNamed B.named
  have hlocks := B.notSynchronized
  have hS0 : va_S (zA nR b) s.heap s.heap [] := va_S.rf
  have hl := lv_entry ([.ref (b + 0), .int (iI a0), .int (iI a1), .int (iI a2), .int (iI a3), .int (iI a4)]) (n := 7) (Nat.le_of_ble_eq_true rfl)
  have hent : entryFrame m args 7 = F0 m 0 ((lg_sl ([.ref (b + 0), .int (iI a0), .int (iI a1), .int (iI a2), .int (iI a3), .int (iI a4)]) ++ List.replicate (7 - (lg_sl ([.ref (b + 0), .int (iI a0), .int (iI a1), .int (iI a2), .int (iI a3), .int (iI a4)])).length) Slot.unset).toArray) [] := by rw [hargs]; exact lg_entry_eq m ([.ref (b + 0), .int (iI a0), .int (iI a1), .int (iI a2), .int (iI a3), .int (iI a4)]) 7
  rw [hent]
  generalize (lg_sl ([.ref (b + 0), .int (iI a0), .int (iI a1), .int (iI a2), .int (iI a3), .int (iI a4)]) ++ List.replicate (7 - (lg_sl ([.ref (b + 0), .int (iI a0), .int (iI a1), .int (iI a2), .int (iI a3), .int (iI a4)])).length) Slot.unset).toArray = ls at hl ⊢
  have hl : lv_has ls 7 [(0, .ref (b + 0)), (1, .int (iI a0)), (2, .int (iI a1)), (3, .int (iI a2)), (4, .int (iI a3)), (5, .int (iI a4))] := hl
  refine z_iconst hx hb dX12_lies_0 ?_
  refine lv_istore (lv' := [(6, .int (iI 0)), (0, .ref (b + 0)), (1, .int (iI a0)), (2, .int (iI a1)), (3, .int (iI a2)), (4, .int (iI a3)), (5, .int (iI a4))]) hx hb dX12_lies_1 hl (by decide) rfl (fun ls hl => ?_)
  obtain ⟨I2, ⟨n3, h4⟩, h5⟩ := h
  have L6 : ∀ (n7 : Nat) (x1 : Int) (H : Heap) (locs : List Loc) (ls : Array Slot), I2 n7 x1 → zR D dA vwCl wR nR b M H → va_S (zA nR b) s.heap H locs → lv_has ls 7 [(0, .ref (b + 0)), (1, .int (iI a0)), (2, .int (iI a1)), (3, .int (iI a2)), (4, .int (iI a3)), (5, .int (iI a4)), (6, .int (iI x1))] → W p l e (headSpec (.code yX12_lies cX12_lies 7 (some .boolean) :: zt) (z_rm 1)).room s m args below meth c H locs 0 0 (MQ below (va_Qi (wQz (fun z9 u9 => u9 = M ∧ Q z9)) (zB D dA vwCl wR nR b) (zA nR b)) args s 0 0 (zA nR b)) (F0 m 3 ls []) := by
    intro n7
    induction n7 using Nat.strongRecOn with
    | ind n7 i8 =>
      intro x1 H locs ls h hS hS0 hl
      have h := h5 n7 x1 h
      refine lv_iload hx hb dX12_lies_3 (lv_at hl 6 rfl) ?_
      refine lv_iload hx hb dX12_lies_5 (lv_at hl 5 rfl) ?_
      refine w_icmp_ge (tgt := 44) hx hb rfl rfl dX12_lies_7 (by decide) (fun c9 => ?_) (fun c9 => ?_)
      · skip
        have h := h.1 c9
        refine z_iconst hx hb dX12_lies_44 ?_
        exact w_zret hx hb hr hlocks hS hS0 (sI_of (by decide)) (by decide) ⟨rfl, h⟩ dX12_lies_45
      · skip
        have h := h.2 c9
        refine lv_aload_n hx hb dX12_lies_10 rfl (lv_at hl 0 rfl) ?_
        refine w_getr (j2 := 31) hx hb hts (z_memU u12) hown hK.1 hS f12_46 (by decide) (zkd_of (rfl : zcd wR 0 = 50) rfl) (zrf_of (rfl : zcd wR 0 = 50) rfl) (Or.inl (hts _ (z_mem k990))) dX12_lies_11 ?_
        refine lv_iload_n hx hb dX12_lies_14 rfl (lv_at hl 1 rfl) ?_
        refine lv_iload_n hx hb dX12_lies_15 rfl (lv_at hl 2 rfl) ?_
        refine z_iadd hx hb dX12_lies_16 ?_
        refine lv_iload hx hb dX12_lies_17 (lv_at hl 5 rfl) ?_
        refine z_isub hx hb dX12_lies_19 ?_
        refine lv_iload hx hb dX12_lies_20 (lv_at hl 6 rfl) ?_
        refine z_iadd hx hb dX12_lies_22 ?_
        obtain ⟨o10, h⟩ := h
        refine w_iald (n := 240) (i := (sI (((a0 + a1) - a4) + x1))) hx hb hK.1 (t0 := 0) rfl hS (by decide) (zkd_of (rfl : zcd wR 31 = 81) rfl) (zln_of (rfl : zcd wR 31 = 81) rfl) rfl o10.1 o10.2 (by decide) dX12_lies_23 ?_
        refine lv_aload_n hx hb dX12_lies_24 rfl (lv_at hl 0 rfl) ?_
        refine lv_iload_n hx hb dX12_lies_25 rfl (lv_at hl 3 rfl) ?_
        refine lv_iload hx hb dX12_lies_26 (lv_at hl 4 rfl) ?_
        refine lv_iload hx hb dX12_lies_28 (lv_at hl 6 rfl) ?_
        refine w_calli (va_runV (As := [.int (iI a2), .int (iI a3), .int (iI x1)]) (rest := [.int (iI (M 31 (sI (((a0 + a1) - a4) + x1)).toNat))]) ⟨hx, hb, hml, hown, hts⟩ (cR_sound l D dA b M a2 a3 x1 _ h) (cwV 3 hts (z_gV k1322 k1323 k1422 k14 k1324) rfl rfl rfl dm_X12_sound ⟨Nat.le_of_ble_eq_true rfl, Nat.le_of_ble_eq_true rfl⟩) ⟨wPre_blind, (w_recv hS hK.1 (by decide) (zkd_of (rfl : zcd wR 0 = 50) rfl) (by decide) (rfl : vwCl[12]? = some (RX12, TX12, 50))), w_pre hS hK⟩ rfl rfl hl.1 rfl (lv_room (Nat.le_of_ble_eq_true rfl)) dX12_lies_30 ⟨Nat.le_refl _, Nat.le_refl _⟩) hS0 (fun z12 M11 H locs r13 h hS hS0 => ?_)
        obtain ⟨e14, h⟩ := h
        rw [e14] at hS
        refine w_icmp_eq (tgt := 38) hx hb rfl (sI_of r13) dX12_lies_33 (by decide) (fun c15 => ?_) (fun c15 => ?_)
        · skip
          have h := h.1 c15
          refine z_iinc (lv' := [(6, .int (iI (x1 + 1))), (0, .ref (b + 0)), (1, .int (iI a0)), (2, .int (iI a1)), (3, .int (iI a2)), (4, .int (iI a3)), (5, .int (iI a4))]) hx hb dX12_lies_38 hl (k := 6) rfl (by decide) rfl (fun ls hl => ?_)
          refine lv_goto (tgt := 3) hx hb dX12_lies_41 (by decide) ?_
          obtain ⟨n16, h17, h⟩ := h
          exact i8 n16 h17 (x1 + 1) _ _ _ h hS hS0 (lv_sub hl [1, 2, 3, 4, 5, 6, 0] rfl)
        · skip
          have h := h.2 c15
          refine z_iconst hx hb dX12_lies_36 ?_
          exact w_zret hx hb hr hlocks hS hS0 (sI_of (by decide)) (by decide) ⟨rfl, h⟩ dX12_lies_37
  exact L6 n3 0 _ _ _ h4 hS hS0 (lv_sub hl [1, 2, 3, 4, 5, 6, 0] rfl)

set_option maxRecDepth 100000 in
def wR_joinFrom_F (R9 : Int → Int → Int → zM → (zM → Prop) → Prop) (a0 : Int) (a1 : Int) (a2 : Int) (M : zM) (Q : zM → Prop) : Prop := ((sI a0) ≠ (sI (M 0 27)) → wL1 (fun K159 x2 M3 => ((sI (M3 0 27)) ≤ (sI x2) → Q M3) ∧ ((sI x2) < (sI (M3 0 27)) → ((andI (shrI a1 x2) 1) ≠ 1 → wL1 (fun K184 x13 M14 => (2 ≤ (sI x13) → K159 (x2 + 1) M14) ∧ ((sI x13) < 2 → ((0 ≤ (sI x2) ∧ (sI x2) < 5) ∧ (∀ t26 : Int, t26 = (min (sI a2) (sI (M14 17 (sI x2).toNat))) → pL1 (fun K203 x28 => pJ1 (fun J220 => ((sI x13) ≠ 1 → J220 0) ∧ ((sI x13) = 1 → J220 1)) (fun (x37 : Int) => wR_lies (40 * a0) a2 x2 x37 x28 M14 (fun z41 => (z41 ≠ 0 → wL1 (fun K244 x45 M46 => ((sI a2) ≤ (sI x45) → wL1 (fun K280 x55 M56 => ((0 ≤ (sI x2) ∧ (sI x2) < 5) ∧ ((sI (M56 17 (sI x2).toNat)) ≤ (sI x55) → ((0 ≤ (sI x2) ∧ (sI x2) < 5) ∧ R9 (a0 + 1) (orI a1 (shlI 1 x2)) ((a2 + (M56 17 (sI x2).toNat)) - x28) M56 (fun M67 => K184 (x13 + 1) M67))) ∧ ((sI x55) < (sI (M56 17 (sI x2).toNat)) → ((sI x13) ≠ 1 → wR_sound x2 0 x55 M56 (fun z72 => ((0 ≤ (sI (((((40 * a0) + 40) + a2) + x55) - x28)) ∧ (sI (((((40 * a0) + 40) + a2) + x55) - x28)) < 240) ∧ (∀ M76 : zM, M76 = zup M56 31 (sI (((((40 * a0) + 40) + a2) + x55) - x28)).toNat z72 → K280 (x55 + 1) M76)))) ∧ ((sI x13) = 1 → wR_sound x2 1 x55 M56 (fun z81 => ((0 ≤ (sI (((((40 * a0) + 40) + a2) + x55) - x28)) ∧ (sI (((((40 * a0) + 40) + a2) + x55) - x28)) < 240) ∧ (∀ M85 : zM, M85 = zup M56 31 (sI (((((40 * a0) + 40) + a2) + x55) - x28)).toNat z81 → K280 (x55 + 1) M85))))))) x28 M46) ∧ ((sI x45) < (sI a2) → ((0 ≤ (sI ((40 * a0) + x45)) ∧ (sI ((40 * a0) + x45)) < 240) ∧ ((0 ≤ (sI (((40 * a0) + 40) + x45)) ∧ (sI (((40 * a0) + 40) + x45)) < 240) ∧ (∀ M91 : zM, M91 = zup M46 31 (sI (((40 * a0) + 40) + x45)).toNat (M46 31 (sI ((40 * a0) + x45)).toNat) → K244 (x45 + 1) M91))))) 0 M14) ∧ (z41 = 0 → K203 (x28 + (-1)))))) t26)))) 0 M3) ∧ ((andI (shrI a1 x2) 1) = 1 → K159 (x2 + 1) M3))) 0 M) ∧ ((sI a0) = (sI (M 0 27)) → pJ1 (fun J35 => pJ0 (fun J30 => ((sI (M 0 48)) = (-1) → J30) ∧ ((sI (M 0 48)) ≠ (-1) → ((sI (M 0 48)) ≤ (sI a2) → J35 0) ∧ ((sI a2) < (sI (M 0 48)) → J30))) (J35 1)) (fun (x102 : Int) => pL2 (fun K40 x105 x106 => pJ0 (fun J112 => ((sI a2) ≤ (sI x106) → J112) ∧ ((sI x106) < (sI a2) → ((sI x105) ≠ 0 → J112) ∧ ((sI x105) = 0 → ((sI a2) ≠ (sI (M 0 48)) → J112) ∧ ((sI a2) = (sI (M 0 48)) → ((0 ≤ (sI ((40 * a0) + x106)) ∧ (sI ((40 * a0) + x106)) < 240) ∧ ((0 ≤ (sI x106) ∧ (sI x106) < 40) ∧ ((sI (M 31 (sI ((40 * a0) + x106)).toNat)) ≠ (sI (M 32 (sI x106).toNat)) → ((0 ≤ (sI ((40 * a0) + x106)) ∧ (sI ((40 * a0) + x106)) < 240) ∧ ((0 ≤ (sI x106) ∧ (sI x106) < 40) ∧ ((sI (M 31 (sI ((40 * a0) + x106)).toNat)) ≤ (sI (M 32 (sI x106).toNat)) → K40 1 (x106 + 1)) ∧ ((sI (M 32 (sI x106).toNat)) < (sI (M 31 (sI ((40 * a0) + x106)).toNat)) → Q M)))) ∧ ((sI (M 31 (sI ((40 * a0) + x106)).toNat)) = (sI (M 32 (sI x106).toNat)) → K40 x105 (x106 + 1)))))))) (((sI x105) ≠ 0 → (∀ M130 : zM, M130 = zup M 0 48 a2 → wL1 (fun K126 x132 M133 => ((sI a2) ≤ (sI x132) → Q M133) ∧ ((sI x132) < (sI a2) → ((0 ≤ (sI ((40 * a0) + x132)) ∧ (sI ((40 * a0) + x132)) < 240) ∧ ((0 ≤ (sI x132) ∧ (sI x132) < 40) ∧ (∀ M144 : zM, M144 = zup M133 32 (sI x132).toNat (M133 31 (sI ((40 * a0) + x132)).toNat) → K126 (x132 + 1) M144))))) 0 M130)) ∧ ((sI x105) = 0 → Q M))) x102 0))
set_option maxHeartbeats 4000000 in
set_option maxRecDepth 100000 in
theorem cR_joinFrom_F (dd : Nat) (R9 : Int → Int → Int → zM → (zM → Prop) → Prop) (l : Launch) (D : va_G) (dA : Nat → ClassId) (hdd : 2 ≤ dd) (hrec : ∀ (b : Nat) (M : zM) (a0 : Int) (a1 : Int) (a2 : Int)  (Q : zM → Prop), R9 a0 a1 a2 M Q → Met l yX12_joinFrom (.code yX12_joinFrom cX12_joinFrom 10 none :: zt) (z_rm dd) (va_Pc [.ref (b + 0), .int (iI a0), .int (iI a1), .int (iI a2)] (wPre D dA vwCl (z_tys dA) wR nR b M)) (va_Qv (wQv Q) (zB D dA vwCl wR nR b) (zA nR b)) 0 0 (zA nR b)) (b : Nat) (M : zM) (a0 : Int) (a1 : Int) (a2 : Int)  (Q : zM → Prop) (h : wR_joinFrom_F R9 a0 a1 a2 M Q) : Met l yX12_joinFrom (.code yX12_joinFrom cX12_joinFrom 10 none :: zt) (z_rm (dd + 1)) (va_Pc [.ref (b + 0), .int (iI a0), .int (iI a1), .int (iI a2)] (wPre D dA vwCl (z_tys dA) wR nR b M)) (va_Qv (wQv Q) (zB D dA vwCl wR nR b) (zA nR b)) 0 0 (zA nR b) := by
  unfold wR_joinFrom_F at h
  refine Met.ofW (cc := cX12_joinFrom) (maxL := 10) (ret := none) (by decide) rfl ?_
  intro p e s m args below meth c s₁ B hml hv
  obtain ⟨hargs, hS, hK⟩ := hv
  have hx := B.exec
  have hb := B.bytes
  have hr := B.returns
  have hts := atoms_spec (ws := .code yX12_joinFrom cX12_joinFrom 10 none :: zt) B.pre
  have hown : s.vm.findClass RX12 = some m.cls := findClass_of_methodNamed B.named
  have hlocks := B.notSynchronized
  have hS0 : va_S (zA nR b) s.heap s.heap [] := va_S.rf
  have hl := lv_entry ([.ref (b + 0), .int (iI a0), .int (iI a1), .int (iI a2)]) (n := 10) (Nat.le_of_ble_eq_true rfl)
  have hent : entryFrame m args 10 = F0 m 0 ((lg_sl ([.ref (b + 0), .int (iI a0), .int (iI a1), .int (iI a2)]) ++ List.replicate (10 - (lg_sl ([.ref (b + 0), .int (iI a0), .int (iI a1), .int (iI a2)])).length) Slot.unset).toArray) [] := by rw [hargs]; exact lg_entry_eq m ([.ref (b + 0), .int (iI a0), .int (iI a1), .int (iI a2)]) 10
  rw [hent]
  generalize (lg_sl ([.ref (b + 0), .int (iI a0), .int (iI a1), .int (iI a2)]) ++ List.replicate (10 - (lg_sl ([.ref (b + 0), .int (iI a0), .int (iI a1), .int (iI a2)])).length) Slot.unset).toArray = ls at hl ⊢
  have hl : lv_has ls 10 [(0, .ref (b + 0)), (1, .int (iI a0)), (2, .int (iI a1)), (3, .int (iI a2))] := hl
  refine z_bipush hx hb (by decide) dX12_joinFrom_0 ?_
  refine lv_iload_n hx hb dX12_joinFrom_2 rfl (lv_at hl 1 rfl) ?_
  refine z_imul hx hb dX12_joinFrom_3 ?_
  refine lv_istore (lv' := [(4, .int (iI (40 * a0))), (0, .ref (b + 0)), (1, .int (iI a0)), (2, .int (iI a1)), (3, .int (iI a2))]) hx hb dX12_joinFrom_4 hl (by decide) rfl (fun ls hl => ?_)
  refine lv_iload_n hx hb dX12_joinFrom_6 rfl (lv_at hl 2 rfl) ?_
  refine lv_aload_n hx hb dX12_joinFrom_7 rfl (lv_at hl 1 rfl) ?_
  refine w_geti hx hb hts (z_memU u12) hown hK.1 hS f12_27 (by decide) (zkd_of (rfl : zcd wR 0 = 50) rfl) (Or.inl (hts _ (z_mem k971))) dX12_joinFrom_8 ?_
  refine w_icmp_ne (tgt := 156) hx hb rfl rfl dX12_joinFrom_11 (by decide) (fun c1 => ?_) (fun c1 => ?_)
  · skip
    have h := h.1 c1
    refine z_iconst hx hb dX12_joinFrom_156 ?_
    refine lv_istore (lv' := [(5, .int (iI 0)), (4, .int (iI (40 * a0))), (0, .ref (b + 0)), (1, .int (iI a0)), (2, .int (iI a1)), (3, .int (iI a2))]) hx hb dX12_joinFrom_157 hl (by decide) rfl (fun ls hl => ?_)
    obtain ⟨I4, ⟨n5, h6⟩, h7⟩ := h
    have L8 : ∀ (n9 : Nat) (x2 : Int) (M3 : zM) (H : Heap) (locs : List Loc) (ls : Array Slot), I4 n9 x2 M3 → zR D dA vwCl wR nR b M3 H → va_S (zA nR b) s.heap H locs → lv_has ls 10 [(0, .ref (b + 0)), (1, .int (iI a0)), (2, .int (iI a1)), (3, .int (iI a2)), (4, .int (iI (40 * a0))), (5, .int (iI x2))] → W p l e (headSpec (.code yX12_joinFrom cX12_joinFrom 10 none :: zt) (z_rm (dd + 1))).room s m args below meth c H locs 0 0 (MQ below (va_Qv (wQv Q) (zB D dA vwCl wR nR b) (zA nR b)) args s 0 0 (zA nR b)) (F0 m 159 ls []) := by
      intro n9
      induction n9 using Nat.strongRecOn with
      | ind n9 i10 =>
        intro x2 M3 H locs ls h hS hS0 hl
        have h := h7 n9 x2 M3 h
        refine lv_iload hx hb dX12_joinFrom_159 (lv_at hl 5 rfl) ?_
        refine lv_aload_n hx hb dX12_joinFrom_161 rfl (lv_at hl 0 rfl) ?_
        refine w_geti hx hb hts (z_memU u12) hown hK.1 hS f12_27 (by decide) (zkd_of (rfl : zcd wR 0 = 50) rfl) (Or.inl (hts _ (z_mem k971))) dX12_joinFrom_162 ?_
        refine w_icmp_ge (tgt := 369) hx hb rfl rfl dX12_joinFrom_165 (by decide) (fun c11 => ?_) (fun c11 => ?_)
        · skip
          have h := h.1 c11
          exact w_vret hx hb hr hlocks hS hS0 h dX12_joinFrom_369
        · skip
          have h := h.2 c11
          refine lv_iload_n hx hb dX12_joinFrom_168 rfl (lv_at hl 2 rfl) ?_
          refine lv_iload hx hb dX12_joinFrom_169 (lv_at hl 5 rfl) ?_
          refine w_ishr hx hb dX12_joinFrom_171 ?_
          refine z_iconst hx hb dX12_joinFrom_172 ?_
          refine w_iand hx hb dX12_joinFrom_173 ?_
          refine z_iconst hx hb dX12_joinFrom_174 ?_
          refine w_icmp_ne (tgt := 181) hx hb (sI_of (andI_R _ _)) (sI_of (by decide)) dX12_joinFrom_175 (by decide) (fun c12 => ?_) (fun c12 => ?_)
          · skip
            have h := h.1 c12
            refine z_iconst hx hb dX12_joinFrom_181 ?_
            refine lv_istore (lv' := [(6, .int (iI 0)), (0, .ref (b + 0)), (1, .int (iI a0)), (2, .int (iI a1)), (3, .int (iI a2)), (4, .int (iI (40 * a0))), (5, .int (iI x2))]) hx hb dX12_joinFrom_182 hl (by decide) rfl (fun ls hl => ?_)
            obtain ⟨I15, ⟨n16, h17⟩, h18⟩ := h
            have L19 : ∀ (n20 : Nat) (x13 : Int) (M14 : zM) (H : Heap) (locs : List Loc) (ls : Array Slot), I15 n20 x13 M14 → zR D dA vwCl wR nR b M14 H → va_S (zA nR b) s.heap H locs → lv_has ls 10 [(0, .ref (b + 0)), (1, .int (iI a0)), (2, .int (iI a1)), (3, .int (iI a2)), (4, .int (iI (40 * a0))), (5, .int (iI x2)), (6, .int (iI x13))] → W p l e (headSpec (.code yX12_joinFrom cX12_joinFrom 10 none :: zt) (z_rm (dd + 1))).room s m args below meth c H locs 0 0 (MQ below (va_Qv (wQv Q) (zB D dA vwCl wR nR b) (zA nR b)) args s 0 0 (zA nR b)) (F0 m 184 ls []) := by
              intro n20
              induction n20 using Nat.strongRecOn with
              | ind n20 i21 =>
                intro x13 M14 H locs ls h hS hS0 hl
                have h := h18 n20 x13 M14 h
                refine lv_iload hx hb dX12_joinFrom_184 (lv_at hl 6 rfl) ?_
                refine z_iconst hx hb dX12_joinFrom_186 ?_
                refine w_icmp_ge (tgt := 363) hx hb rfl (sI_of (by decide)) dX12_joinFrom_187 (by decide) (fun c22 => ?_) (fun c22 => ?_)
                · skip
                  have h := h.1 c22
                  refine z_iinc (lv' := [(5, .int (iI (x2 + 1))), (0, .ref (b + 0)), (1, .int (iI a0)), (2, .int (iI a1)), (3, .int (iI a2)), (4, .int (iI (40 * a0))), (6, .int (iI x13))]) hx hb dX12_joinFrom_363 hl (k := 5) rfl (by decide) rfl (fun ls hl => ?_)
                  refine lv_goto (tgt := 159) hx hb dX12_joinFrom_366 (by decide) ?_
                  obtain ⟨n23, h24, h⟩ := h
                  exact i10 n23 h24 (x2 + 1) M14 _ _ _ h hS hS0 (lv_sub hl [1, 2, 3, 4, 5, 0] rfl)
                · skip
                  have h := h.2 c22
                  refine lv_iload_n hx hb dX12_joinFrom_190 rfl (lv_at hl 3 rfl) ?_
                  refine lv_aload_n hx hb dX12_joinFrom_191 rfl (lv_at hl 0 rfl) ?_
                  refine w_getr (j2 := 17) hx hb hts (z_memU u12) hown hK.1 hS f12_26 (by decide) (zkd_of (rfl : zcd wR 0 = 50) rfl) (zrf_of (rfl : zcd wR 0 = 50) rfl) (Or.inl (hts _ (z_mem k970))) dX12_joinFrom_192 ?_
                  refine lv_iload hx hb dX12_joinFrom_195 (lv_at hl 5 rfl) ?_
                  obtain ⟨o25, h⟩ := h
                  refine w_iald (n := 5) (i := (sI x2)) hx hb hK.1 (t0 := 0) rfl hS (by decide) (zkd_of (rfl : zcd wR 17 = 67) rfl) (zln_of (rfl : zcd wR 17 = 67) rfl) rfl o25.1 o25.2 (by decide) dX12_joinFrom_197 ?_
                  refine w_mmin hx hb (hml.trans hl.1.symm) hown (hts _ (z_mem k1229)) (hts _ (z_mem k320)) (hts _ (z_mem k15)) (hts _ (z_mem k321)) (by simp only [z_rm, headSpec]; omega) (by simp only [z_rm, headSpec, List.map, List.sum_cons, List.sum_nil, Value.category]; omega) (by exact Nat.le_refl _) (by exact Nat.le_refl _) rfl rfl dX12_joinFrom_198 ?_
                  obtain ⟨t26, e27⟩ : ∃ t26 : Int, t26 = (min (sI a2) (sI (M14 17 (sI x2).toNat))) := ⟨_, rfl⟩
                  refine z_top (y := t26) e27.symm ?_
                  have h := h t26 e27
                  refine lv_istore (lv' := [(7, .int (iI t26)), (0, .ref (b + 0)), (1, .int (iI a0)), (2, .int (iI a1)), (3, .int (iI a2)), (4, .int (iI (40 * a0))), (5, .int (iI x2)), (6, .int (iI x13))]) hx hb dX12_joinFrom_201 hl (by decide) rfl (fun ls hl => ?_)
                  obtain ⟨I29, ⟨n30, h31⟩, h32⟩ := h
                  have L33 : ∀ (n34 : Nat) (x28 : Int) (H : Heap) (locs : List Loc) (ls : Array Slot), I29 n34 x28 → zR D dA vwCl wR nR b M14 H → va_S (zA nR b) s.heap H locs → lv_has ls 10 [(0, .ref (b + 0)), (1, .int (iI a0)), (2, .int (iI a1)), (3, .int (iI a2)), (4, .int (iI (40 * a0))), (5, .int (iI x2)), (6, .int (iI x13)), (7, .int (iI x28))] → W p l e (headSpec (.code yX12_joinFrom cX12_joinFrom 10 none :: zt) (z_rm (dd + 1))).room s m args below meth c H locs 0 0 (MQ below (va_Qv (wQv Q) (zB D dA vwCl wR nR b) (zA nR b)) args s 0 0 (zA nR b)) (F0 m 203 ls []) := by
                    intro n34
                    induction n34 using Nat.strongRecOn with
                    | ind n34 i35 =>
                      intro x28 H locs ls h hS hS0 hl
                      have h := h32 n34 x28 h
                      refine lv_aload_n hx hb dX12_joinFrom_203 rfl (lv_at hl 0 rfl) ?_
                      refine lv_iload hx hb dX12_joinFrom_204 (lv_at hl 4 rfl) ?_
                      refine lv_iload_n hx hb dX12_joinFrom_206 rfl (lv_at hl 3 rfl) ?_
                      refine lv_iload hx hb dX12_joinFrom_207 (lv_at hl 5 rfl) ?_
                      refine lv_iload hx hb dX12_joinFrom_209 (lv_at hl 6 rfl) ?_
                      refine z_iconst hx hb dX12_joinFrom_211 ?_
                      obtain ⟨J220, B39, h⟩ := h
                      have L38 : ∀ (x37 : Int) (H : Heap) (locs : List Loc) (ls : Array Slot), J220 x37 → zR D dA vwCl wR nR b M14 H → va_S (zA nR b) s.heap H locs → lv_has ls 10 [(0, .ref (b + 0)), (1, .int (iI a0)), (2, .int (iI a1)), (3, .int (iI a2)), (4, .int (iI (40 * a0))), (5, .int (iI x2)), (6, .int (iI x13)), (7, .int (iI x28))] → W p l e (headSpec (.code yX12_joinFrom cX12_joinFrom 10 none :: zt) (z_rm (dd + 1))).room s m args below meth c H locs 0 0 (MQ below (va_Qv (wQv Q) (zB D dA vwCl wR nR b) (zA nR b)) args s 0 0 (zA nR b)) (F0 m 220 ls [.int (iI x37), .int (iI x2), .int (iI a2), .int (iI (40 * a0)), .ref (b + 0)]) := by
                        intro x37 H locs ls h hS hS0 hl
                        have h := B39 x37 h
                        refine lv_iload hx hb dX12_joinFrom_220 (lv_at hl 7 rfl) ?_
                        refine w_callz (va_runV (As := [.int (iI (40 * a0)), .int (iI a2), .int (iI x2), .int (iI x37), .int (iI x28)]) (rest := []) ⟨hx, hb, hml, hown, hts⟩ (cR_lies l D dA b M14 (40 * a0) a2 x2 x37 x28 _ h) (cwV 5 hts (z_gV k1319 k1320 k1421 k14 k1321) rfl rfl rfl dm_X12_lies ⟨by simp only [z_rm, headSpec]; omega, by simp only [z_rm, headSpec]; omega⟩) ⟨wPre_blind, (w_recv hS hK.1 (by decide) (zkd_of (rfl : zcd wR 0 = 50) rfl) (by decide) (rfl : vwCl[12]? = some (RX12, TX12, 50))), w_pre hS hK⟩ rfl rfl hl.1 rfl (lv_room (Nat.le_of_ble_eq_true rfl)) dX12_joinFrom_222 ⟨Nat.le_refl _, Nat.le_refl _⟩) hS0 (fun z41 M40 H locs r42 h hS hS0 => ?_)
                        obtain ⟨e43, h⟩ := h
                        rw [e43] at hS
                        refine w_if_ne (tgt := 234) hx hb (sI_01 r42) dX12_joinFrom_225 (by decide) (fun c44 => ?_) (fun c44 => ?_)
                        · skip
                          have h := h.1 c44
                          refine lv_iload hx hb dX12_joinFrom_234 (lv_at hl 4 rfl) ?_
                          refine z_bipush hx hb (by decide) dX12_joinFrom_236 ?_
                          refine z_iadd hx hb dX12_joinFrom_238 ?_
                          refine lv_istore (lv' := [(8, .int (iI ((40 * a0) + 40))), (0, .ref (b + 0)), (1, .int (iI a0)), (2, .int (iI a1)), (3, .int (iI a2)), (4, .int (iI (40 * a0))), (5, .int (iI x2)), (6, .int (iI x13)), (7, .int (iI x28))]) hx hb dX12_joinFrom_239 hl (by decide) rfl (fun ls hl => ?_)
                          refine z_iconst hx hb dX12_joinFrom_241 ?_
                          refine lv_istore (lv' := [(9, .int (iI 0)), (8, .int (iI ((40 * a0) + 40))), (0, .ref (b + 0)), (1, .int (iI a0)), (2, .int (iI a1)), (3, .int (iI a2)), (4, .int (iI (40 * a0))), (5, .int (iI x2)), (6, .int (iI x13)), (7, .int (iI x28))]) hx hb dX12_joinFrom_242 hl (by decide) rfl (fun ls hl => ?_)
                          obtain ⟨I47, ⟨n48, h49⟩, h50⟩ := h
                          have L51 : ∀ (n52 : Nat) (x45 : Int) (M46 : zM) (H : Heap) (locs : List Loc) (ls : Array Slot), I47 n52 x45 M46 → zR D dA vwCl wR nR b M46 H → va_S (zA nR b) s.heap H locs → lv_has ls 10 [(0, .ref (b + 0)), (1, .int (iI a0)), (2, .int (iI a1)), (3, .int (iI a2)), (4, .int (iI (40 * a0))), (5, .int (iI x2)), (6, .int (iI x13)), (7, .int (iI x28)), (8, .int (iI ((40 * a0) + 40))), (9, .int (iI x45))] → W p l e (headSpec (.code yX12_joinFrom cX12_joinFrom 10 none :: zt) (z_rm (dd + 1))).room s m args below meth c H locs 0 0 (MQ below (va_Qv (wQv Q) (zB D dA vwCl wR nR b) (zA nR b)) args s 0 0 (zA nR b)) (F0 m 244 ls []) := by
                            intro n52
                            induction n52 using Nat.strongRecOn with
                            | ind n52 i53 =>
                              intro x45 M46 H locs ls h hS hS0 hl
                              have h := h50 n52 x45 M46 h
                              refine lv_iload hx hb dX12_joinFrom_244 (lv_at hl 9 rfl) ?_
                              refine lv_iload_n hx hb dX12_joinFrom_246 rfl (lv_at hl 3 rfl) ?_
                              refine w_icmp_ge (tgt := 276) hx hb rfl rfl dX12_joinFrom_247 (by decide) (fun c54 => ?_) (fun c54 => ?_)
                              · skip
                                have h := h.1 c54
                                refine lv_iload hx hb dX12_joinFrom_276 (lv_at hl 7 rfl) ?_
                                refine lv_istore (lv' := [(9, .int (iI x28)), (0, .ref (b + 0)), (1, .int (iI a0)), (2, .int (iI a1)), (3, .int (iI a2)), (4, .int (iI (40 * a0))), (5, .int (iI x2)), (6, .int (iI x13)), (7, .int (iI x28)), (8, .int (iI ((40 * a0) + 40)))]) hx hb dX12_joinFrom_278 hl (by decide) rfl (fun ls hl => ?_)
                                obtain ⟨I57, ⟨n58, h59⟩, h60⟩ := h
                                have L61 : ∀ (n62 : Nat) (x55 : Int) (M56 : zM) (H : Heap) (locs : List Loc) (ls : Array Slot), I57 n62 x55 M56 → zR D dA vwCl wR nR b M56 H → va_S (zA nR b) s.heap H locs → lv_has ls 10 [(0, .ref (b + 0)), (1, .int (iI a0)), (2, .int (iI a1)), (3, .int (iI a2)), (4, .int (iI (40 * a0))), (5, .int (iI x2)), (6, .int (iI x13)), (7, .int (iI x28)), (8, .int (iI ((40 * a0) + 40))), (9, .int (iI x55))] → W p l e (headSpec (.code yX12_joinFrom cX12_joinFrom 10 none :: zt) (z_rm (dd + 1))).room s m args below meth c H locs 0 0 (MQ below (va_Qv (wQv Q) (zB D dA vwCl wR nR b) (zA nR b)) args s 0 0 (zA nR b)) (F0 m 280 ls []) := by
                                  intro n62
                                  induction n62 using Nat.strongRecOn with
                                  | ind n62 i63 =>
                                    intro x55 M56 H locs ls h hS hS0 hl
                                    have h := h60 n62 x55 M56 h
                                    refine lv_iload hx hb dX12_joinFrom_280 (lv_at hl 9 rfl) ?_
                                    refine lv_aload_n hx hb dX12_joinFrom_282 rfl (lv_at hl 0 rfl) ?_
                                    refine w_getr (j2 := 17) hx hb hts (z_memU u12) hown hK.1 hS f12_26 (by decide) (zkd_of (rfl : zcd wR 0 = 50) rfl) (zrf_of (rfl : zcd wR 0 = 50) rfl) (Or.inl (hts _ (z_mem k970))) dX12_joinFrom_283 ?_
                                    refine lv_iload hx hb dX12_joinFrom_286 (lv_at hl 5 rfl) ?_
                                    obtain ⟨o64, h⟩ := h
                                    refine w_iald (n := 5) (i := (sI x2)) hx hb hK.1 (t0 := 0) rfl hS (by decide) (zkd_of (rfl : zcd wR 17 = 67) rfl) (zln_of (rfl : zcd wR 17 = 67) rfl) rfl o64.1 o64.2 (by decide) dX12_joinFrom_288 ?_
                                    refine w_icmp_ge (tgt := 332) hx hb rfl rfl dX12_joinFrom_289 (by decide) (fun c65 => ?_) (fun c65 => ?_)
                                    · skip
                                      have h := h.1 c65
                                      refine lv_aload_n hx hb dX12_joinFrom_332 rfl (lv_at hl 0 rfl) ?_
                                      refine lv_iload_n hx hb dX12_joinFrom_333 rfl (lv_at hl 1 rfl) ?_
                                      refine z_iconst hx hb dX12_joinFrom_334 ?_
                                      refine z_iadd hx hb dX12_joinFrom_335 ?_
                                      refine lv_iload_n hx hb dX12_joinFrom_336 rfl (lv_at hl 2 rfl) ?_
                                      refine z_iconst hx hb dX12_joinFrom_337 ?_
                                      refine lv_iload hx hb dX12_joinFrom_338 (lv_at hl 5 rfl) ?_
                                      refine w_ishl hx hb dX12_joinFrom_340 ?_
                                      refine w_ior hx hb dX12_joinFrom_341 ?_
                                      refine lv_iload_n hx hb dX12_joinFrom_342 rfl (lv_at hl 3 rfl) ?_
                                      refine lv_aload_n hx hb dX12_joinFrom_343 rfl (lv_at hl 0 rfl) ?_
                                      refine w_getr (j2 := 17) hx hb hts (z_memU u12) hown hK.1 hS f12_26 (by decide) (zkd_of (rfl : zcd wR 0 = 50) rfl) (zrf_of (rfl : zcd wR 0 = 50) rfl) (Or.inl (hts _ (z_mem k970))) dX12_joinFrom_344 ?_
                                      refine lv_iload hx hb dX12_joinFrom_347 (lv_at hl 5 rfl) ?_
                                      obtain ⟨o66, h⟩ := h
                                      refine w_iald (n := 5) (i := (sI x2)) hx hb hK.1 (t0 := 0) rfl hS (by decide) (zkd_of (rfl : zcd wR 17 = 67) rfl) (zln_of (rfl : zcd wR 17 = 67) rfl) rfl o66.1 o66.2 (by decide) dX12_joinFrom_349 ?_
                                      refine z_iadd hx hb dX12_joinFrom_350 ?_
                                      refine lv_iload hx hb dX12_joinFrom_351 (lv_at hl 7 rfl) ?_
                                      refine z_isub hx hb dX12_joinFrom_353 ?_
                                      refine w_callv (va_runV (As := [.int (iI (a0 + 1)), .int (iI (orI a1 (shlI 1 x2))), .int (iI ((a2 + (M56 17 (sI x2).toNat)) - x28))]) (rest := []) ⟨hx, hb, hml, hown, hts⟩ (hrec b M56 (a0 + 1) (orI a1 (shlI 1 x2)) ((a2 + (M56 17 (sI x2).toNat)) - x28) _ h) (cwV 3 hts (z_gV k1316 k1317 k1420 k14 k1318) rfl rfl rfl dm_X12_joinFrom ⟨by simp only [z_rm, headSpec]; omega, by simp only [z_rm, headSpec]; omega⟩) ⟨wPre_blind, (w_recv hS hK.1 (by decide) (zkd_of (rfl : zcd wR 0 = 50) rfl) (by decide) (rfl : vwCl[12]? = some (RX12, TX12, 50))), w_pre hS hK⟩ rfl rfl hl.1 rfl (lv_room (Nat.le_of_ble_eq_true rfl)) dX12_joinFrom_354 ⟨Nat.le_refl _, Nat.le_refl _⟩) hS0 (fun M67 H locs h hS hS0 => ?_)
                                      refine z_iinc (lv' := [(6, .int (iI (x13 + 1))), (0, .ref (b + 0)), (1, .int (iI a0)), (2, .int (iI a1)), (3, .int (iI a2)), (4, .int (iI (40 * a0))), (5, .int (iI x2)), (7, .int (iI x28)), (8, .int (iI ((40 * a0) + 40))), (9, .int (iI x55))]) hx hb dX12_joinFrom_357 hl (k := 6) rfl (by decide) rfl (fun ls hl => ?_)
                                      refine lv_goto (tgt := 184) hx hb dX12_joinFrom_360 (by decide) ?_
                                      obtain ⟨n68, h69, h⟩ := h
                                      exact i21 n68 h69 (x13 + 1) M67 _ _ _ h hS hS0 (lv_sub hl [1, 2, 3, 4, 5, 6, 0] rfl)
                                    · skip
                                      have h := h.2 c65
                                      refine lv_aload_n hx hb dX12_joinFrom_292 rfl (lv_at hl 0 rfl) ?_
                                      refine w_getr (j2 := 31) hx hb hts (z_memU u12) hown hK.1 hS f12_46 (by decide) (zkd_of (rfl : zcd wR 0 = 50) rfl) (zrf_of (rfl : zcd wR 0 = 50) rfl) (Or.inl (hts _ (z_mem k990))) dX12_joinFrom_293 ?_
                                      refine lv_iload hx hb dX12_joinFrom_296 (lv_at hl 8 rfl) ?_
                                      refine lv_iload_n hx hb dX12_joinFrom_298 rfl (lv_at hl 3 rfl) ?_
                                      refine z_iadd hx hb dX12_joinFrom_299 ?_
                                      refine lv_iload hx hb dX12_joinFrom_300 (lv_at hl 9 rfl) ?_
                                      refine z_iadd hx hb dX12_joinFrom_302 ?_
                                      refine lv_iload hx hb dX12_joinFrom_303 (lv_at hl 7 rfl) ?_
                                      refine z_isub hx hb dX12_joinFrom_305 ?_
                                      refine lv_aload_n hx hb dX12_joinFrom_306 rfl (lv_at hl 0 rfl) ?_
                                      refine lv_iload hx hb dX12_joinFrom_307 (lv_at hl 5 rfl) ?_
                                      refine lv_iload hx hb dX12_joinFrom_309 (lv_at hl 6 rfl) ?_
                                      refine z_iconst hx hb dX12_joinFrom_311 ?_
                                      refine w_icmp_ne (tgt := 319) hx hb rfl (sI_of (by decide)) dX12_joinFrom_312 (by decide) (fun c70 => ?_) (fun c70 => ?_)
                                      · skip
                                        have h := h.1 c70
                                        refine z_iconst hx hb dX12_joinFrom_319 ?_
                                        refine lv_iload hx hb dX12_joinFrom_320 (lv_at hl 9 rfl) ?_
                                        refine w_calli (va_runV (As := [.int (iI x2), .int (iI 0), .int (iI x55)]) (rest := [.int (iI (((((40 * a0) + 40) + a2) + x55) - x28)), .ref (b + 31)]) ⟨hx, hb, hml, hown, hts⟩ (cR_sound l D dA b M56 x2 0 x55 _ h) (cwV 3 hts (z_gV k1322 k1323 k1422 k14 k1324) rfl rfl rfl dm_X12_sound ⟨by simp only [z_rm, headSpec]; omega, by simp only [z_rm, headSpec]; omega⟩) ⟨wPre_blind, (w_recv hS hK.1 (by decide) (zkd_of (rfl : zcd wR 0 = 50) rfl) (by decide) (rfl : vwCl[12]? = some (RX12, TX12, 50))), w_pre hS hK⟩ rfl rfl hl.1 rfl (lv_room (Nat.le_of_ble_eq_true rfl)) dX12_joinFrom_322 ⟨Nat.le_refl _, Nat.le_refl _⟩) hS0 (fun z72 M71 H locs r73 h hS hS0 => ?_)
                                        obtain ⟨e74, h⟩ := h
                                        rw [e74] at hS
                                        obtain ⟨o75, h⟩ := h
                                        refine w_iast (z := z72) (n := 240) (i := (sI (((((40 * a0) + 40) + a2) + x55) - x28))) hx hb hK.1 (t0 := 0) rfl hS hS0 (by decide) (zkd_of (rfl : zcd wR 31 = 81) rfl) (zln_of (rfl : zcd wR 31 = 81) rfl) rfl o75.1 o75.2 (by decide) dX12_joinFrom_325 (fun H locs hS hS0 => ?_)
                                        obtain ⟨M76, e77⟩ : ∃ M76 : zM, M76 = zup M56 31 (sI (((((40 * a0) + 40) + a2) + x55) - x28)).toNat z72 := ⟨_, rfl⟩
                                        rw [← e77] at hS
                                        have h := h M76 e77
                                        refine z_iinc (lv' := [(9, .int (iI (x55 + 1))), (0, .ref (b + 0)), (1, .int (iI a0)), (2, .int (iI a1)), (3, .int (iI a2)), (4, .int (iI (40 * a0))), (5, .int (iI x2)), (6, .int (iI x13)), (7, .int (iI x28)), (8, .int (iI ((40 * a0) + 40)))]) hx hb dX12_joinFrom_326 hl (k := 9) rfl (by decide) rfl (fun ls hl => ?_)
                                        refine lv_goto (tgt := 280) hx hb dX12_joinFrom_329 (by decide) ?_
                                        obtain ⟨n78, h79, h⟩ := h
                                        exact i63 n78 h79 (x55 + 1) M76 _ _ _ h hS hS0 (lv_sub hl [1, 2, 3, 4, 5, 6, 7, 8, 9, 0] rfl)
                                      · skip
                                        have h := h.2 c70
                                        refine z_iconst hx hb dX12_joinFrom_315 ?_
                                        refine lv_goto (tgt := 320) hx hb dX12_joinFrom_316 (by decide) ?_
                                        refine lv_iload hx hb dX12_joinFrom_320 (lv_at hl 9 rfl) ?_
                                        refine w_calli (va_runV (As := [.int (iI x2), .int (iI 1), .int (iI x55)]) (rest := [.int (iI (((((40 * a0) + 40) + a2) + x55) - x28)), .ref (b + 31)]) ⟨hx, hb, hml, hown, hts⟩ (cR_sound l D dA b M56 x2 1 x55 _ h) (cwV 3 hts (z_gV k1322 k1323 k1422 k14 k1324) rfl rfl rfl dm_X12_sound ⟨by simp only [z_rm, headSpec]; omega, by simp only [z_rm, headSpec]; omega⟩) ⟨wPre_blind, (w_recv hS hK.1 (by decide) (zkd_of (rfl : zcd wR 0 = 50) rfl) (by decide) (rfl : vwCl[12]? = some (RX12, TX12, 50))), w_pre hS hK⟩ rfl rfl hl.1 rfl (lv_room (Nat.le_of_ble_eq_true rfl)) dX12_joinFrom_322 ⟨Nat.le_refl _, Nat.le_refl _⟩) hS0 (fun z81 M80 H locs r82 h hS hS0 => ?_)
                                        obtain ⟨e83, h⟩ := h
                                        rw [e83] at hS
                                        obtain ⟨o84, h⟩ := h
                                        refine w_iast (z := z81) (n := 240) (i := (sI (((((40 * a0) + 40) + a2) + x55) - x28))) hx hb hK.1 (t0 := 0) rfl hS hS0 (by decide) (zkd_of (rfl : zcd wR 31 = 81) rfl) (zln_of (rfl : zcd wR 31 = 81) rfl) rfl o84.1 o84.2 (by decide) dX12_joinFrom_325 (fun H locs hS hS0 => ?_)
                                        obtain ⟨M85, e86⟩ : ∃ M85 : zM, M85 = zup M56 31 (sI (((((40 * a0) + 40) + a2) + x55) - x28)).toNat z81 := ⟨_, rfl⟩
                                        rw [← e86] at hS
                                        have h := h M85 e86
                                        refine z_iinc (lv' := [(9, .int (iI (x55 + 1))), (0, .ref (b + 0)), (1, .int (iI a0)), (2, .int (iI a1)), (3, .int (iI a2)), (4, .int (iI (40 * a0))), (5, .int (iI x2)), (6, .int (iI x13)), (7, .int (iI x28)), (8, .int (iI ((40 * a0) + 40)))]) hx hb dX12_joinFrom_326 hl (k := 9) rfl (by decide) rfl (fun ls hl => ?_)
                                        refine lv_goto (tgt := 280) hx hb dX12_joinFrom_329 (by decide) ?_
                                        obtain ⟨n87, h88, h⟩ := h
                                        exact i63 n87 h88 (x55 + 1) M85 _ _ _ h hS hS0 (lv_sub hl [1, 2, 3, 4, 5, 6, 7, 8, 9, 0] rfl)
                                exact L61 n58 x28 M46 _ _ _ h59 hS hS0 (lv_sub hl [1, 2, 3, 4, 5, 6, 7, 8, 9, 0] rfl)
                              · skip
                                have h := h.2 c54
                                refine lv_aload_n hx hb dX12_joinFrom_250 rfl (lv_at hl 0 rfl) ?_
                                refine w_getr (j2 := 31) hx hb hts (z_memU u12) hown hK.1 hS f12_46 (by decide) (zkd_of (rfl : zcd wR 0 = 50) rfl) (zrf_of (rfl : zcd wR 0 = 50) rfl) (Or.inl (hts _ (z_mem k990))) dX12_joinFrom_251 ?_
                                refine lv_iload hx hb dX12_joinFrom_254 (lv_at hl 8 rfl) ?_
                                refine lv_iload hx hb dX12_joinFrom_256 (lv_at hl 9 rfl) ?_
                                refine z_iadd hx hb dX12_joinFrom_258 ?_
                                refine lv_aload_n hx hb dX12_joinFrom_259 rfl (lv_at hl 0 rfl) ?_
                                refine w_getr (j2 := 31) hx hb hts (z_memU u12) hown hK.1 hS f12_46 (by decide) (zkd_of (rfl : zcd wR 0 = 50) rfl) (zrf_of (rfl : zcd wR 0 = 50) rfl) (Or.inl (hts _ (z_mem k990))) dX12_joinFrom_260 ?_
                                refine lv_iload hx hb dX12_joinFrom_263 (lv_at hl 4 rfl) ?_
                                refine lv_iload hx hb dX12_joinFrom_265 (lv_at hl 9 rfl) ?_
                                refine z_iadd hx hb dX12_joinFrom_267 ?_
                                obtain ⟨o89, h⟩ := h
                                refine w_iald (n := 240) (i := (sI ((40 * a0) + x45))) hx hb hK.1 (t0 := 0) rfl hS (by decide) (zkd_of (rfl : zcd wR 31 = 81) rfl) (zln_of (rfl : zcd wR 31 = 81) rfl) rfl o89.1 o89.2 (by decide) dX12_joinFrom_268 ?_
                                obtain ⟨o90, h⟩ := h
                                refine w_iast (z := (M46 31 (sI ((40 * a0) + x45)).toNat)) (n := 240) (i := (sI (((40 * a0) + 40) + x45))) hx hb hK.1 (t0 := 0) rfl hS hS0 (by decide) (zkd_of (rfl : zcd wR 31 = 81) rfl) (zln_of (rfl : zcd wR 31 = 81) rfl) rfl o90.1 o90.2 (by decide) dX12_joinFrom_269 (fun H locs hS hS0 => ?_)
                                obtain ⟨M91, e92⟩ : ∃ M91 : zM, M91 = zup M46 31 (sI (((40 * a0) + 40) + x45)).toNat (M46 31 (sI ((40 * a0) + x45)).toNat) := ⟨_, rfl⟩
                                rw [← e92] at hS
                                have h := h M91 e92
                                refine z_iinc (lv' := [(9, .int (iI (x45 + 1))), (0, .ref (b + 0)), (1, .int (iI a0)), (2, .int (iI a1)), (3, .int (iI a2)), (4, .int (iI (40 * a0))), (5, .int (iI x2)), (6, .int (iI x13)), (7, .int (iI x28)), (8, .int (iI ((40 * a0) + 40)))]) hx hb dX12_joinFrom_270 hl (k := 9) rfl (by decide) rfl (fun ls hl => ?_)
                                refine lv_goto (tgt := 244) hx hb dX12_joinFrom_273 (by decide) ?_
                                obtain ⟨n93, h94, h⟩ := h
                                exact i53 n93 h94 (x45 + 1) M91 _ _ _ h hS hS0 (lv_sub hl [1, 2, 3, 4, 5, 6, 7, 8, 9, 0] rfl)
                          exact L51 n48 0 M14 _ _ _ h49 hS hS0 (lv_sub hl [2, 3, 4, 5, 6, 7, 8, 9, 1, 0] rfl)
                        · skip
                          have h := h.2 c44
                          refine z_iinc (lv' := [(7, .int (iI (x28 + (-1)))), (0, .ref (b + 0)), (1, .int (iI a0)), (2, .int (iI a1)), (3, .int (iI a2)), (4, .int (iI (40 * a0))), (5, .int (iI x2)), (6, .int (iI x13))]) hx hb dX12_joinFrom_228 hl (k := 7) rfl (by decide) rfl (fun ls hl => ?_)
                          refine lv_goto (tgt := 203) hx hb dX12_joinFrom_231 (by decide) ?_
                          obtain ⟨n95, h96, h⟩ := h
                          exact i35 n95 h96 (x28 + (-1)) _ _ _ h hS hS0 (lv_sub hl [1, 2, 3, 4, 5, 6, 7, 0] rfl)
                      refine w_icmp_ne (tgt := 219) hx hb rfl (sI_of (by decide)) dX12_joinFrom_212 (by decide) (fun c97 => ?_) (fun c97 => ?_)
                      · skip
                        have h := h.1 c97
                        refine z_iconst hx hb dX12_joinFrom_219 ?_
                        exact L38 0 _ _ _ h hS hS0 (lv_sub hl [0, 1, 2, 3, 4, 5, 6, 7] rfl)
                      · skip
                        have h := h.2 c97
                        refine z_iconst hx hb dX12_joinFrom_215 ?_
                        refine lv_goto (tgt := 220) hx hb dX12_joinFrom_216 (by decide) ?_
                        exact L38 1 _ _ _ h hS hS0 (lv_sub hl [0, 1, 2, 3, 4, 5, 6, 7] rfl)
                  exact L33 n30 t26 _ _ _ h31 hS hS0 (lv_sub hl [1, 2, 3, 4, 5, 6, 7, 0] rfl)
            exact L19 n16 0 M3 _ _ _ h17 hS hS0 (lv_sub hl [1, 2, 3, 4, 5, 6, 0] rfl)
          · skip
            have h := h.2 c12
            refine lv_goto (tgt := 363) hx hb dX12_joinFrom_178 (by decide) ?_
            refine z_iinc (lv' := [(5, .int (iI (x2 + 1))), (0, .ref (b + 0)), (1, .int (iI a0)), (2, .int (iI a1)), (3, .int (iI a2)), (4, .int (iI (40 * a0)))]) hx hb dX12_joinFrom_363 hl (k := 5) rfl (by decide) rfl (fun ls hl => ?_)
            refine lv_goto (tgt := 159) hx hb dX12_joinFrom_366 (by decide) ?_
            obtain ⟨n98, h99, h⟩ := h
            exact i10 n98 h99 (x2 + 1) M3 _ _ _ h hS hS0 (lv_sub hl [1, 2, 3, 4, 5, 0] rfl)
    exact L8 n5 0 M _ _ _ h6 hS hS0 (lv_sub hl [2, 3, 4, 5, 1, 0] rfl)
  · skip
    have h := h.2 c1
    refine lv_aload_n hx hb dX12_joinFrom_14 rfl (lv_at hl 1 rfl) ?_
    refine w_geti hx hb hts (z_memU u12) hown hK.1 hS f12_48 (by decide) (zkd_of (rfl : zcd wR 0 = 50) rfl) (Or.inl (hts _ (z_mem k992))) dX12_joinFrom_15 ?_
    refine z_iconst hx hb dX12_joinFrom_18 ?_
    obtain ⟨J35, B104, h⟩ := h
    have L103 : ∀ (x102 : Int) (H : Heap) (locs : List Loc) (ls : Array Slot), J35 x102 → zR D dA vwCl wR nR b M H → va_S (zA nR b) s.heap H locs → lv_has ls 10 [(0, .ref (b + 0)), (3, .int (iI a2)), (4, .int (iI (40 * a0)))] → W p l e (headSpec (.code yX12_joinFrom cX12_joinFrom 10 none :: zt) (z_rm (dd + 1))).room s m args below meth c H locs 0 0 (MQ below (va_Qv (wQv Q) (zB D dA vwCl wR nR b) (zA nR b)) args s 0 0 (zA nR b)) (F0 m 35 ls [.int (iI x102)]) := by
      intro x102 H locs ls h hS hS0 hl
      have h := B104 x102 h
      refine lv_istore (lv' := [(5, .int (iI x102)), (0, .ref (b + 0)), (3, .int (iI a2)), (4, .int (iI (40 * a0)))]) hx hb dX12_joinFrom_35 hl (by decide) rfl (fun ls hl => ?_)
      refine z_iconst hx hb dX12_joinFrom_37 ?_
      refine lv_istore (lv' := [(6, .int (iI 0)), (5, .int (iI x102)), (0, .ref (b + 0)), (3, .int (iI a2)), (4, .int (iI (40 * a0)))]) hx hb dX12_joinFrom_38 hl (by decide) rfl (fun ls hl => ?_)
      obtain ⟨I107, ⟨n108, h109⟩, h110⟩ := h
      have L111 : ∀ (n112 : Nat) (x105 x106 : Int) (H : Heap) (locs : List Loc) (ls : Array Slot), I107 n112 x105 x106 → zR D dA vwCl wR nR b M H → va_S (zA nR b) s.heap H locs → lv_has ls 10 [(0, .ref (b + 0)), (3, .int (iI a2)), (4, .int (iI (40 * a0))), (5, .int (iI x105)), (6, .int (iI x106))] → W p l e (headSpec (.code yX12_joinFrom cX12_joinFrom 10 none :: zt) (z_rm (dd + 1))).room s m args below meth c H locs 0 0 (MQ below (va_Qv (wQv Q) (zB D dA vwCl wR nR b) (zA nR b)) args s 0 0 (zA nR b)) (F0 m 40 ls []) := by
        intro n112
        induction n112 using Nat.strongRecOn with
        | ind n112 i113 =>
          intro x105 x106 H locs ls h hS hS0 hl
          have h := h110 n112 x105 x106 h
          refine lv_iload hx hb dX12_joinFrom_40 (lv_at hl 4 rfl) ?_
          refine lv_iload_n hx hb dX12_joinFrom_42 rfl (lv_at hl 1 rfl) ?_
          obtain ⟨J112, B128, h⟩ := h
          have L127 : ∀ (H : Heap) (locs : List Loc) (ls : Array Slot), J112 → zR D dA vwCl wR nR b M H → va_S (zA nR b) s.heap H locs → lv_has ls 10 [(0, .ref (b + 0)), (3, .int (iI a2)), (4, .int (iI (40 * a0))), (5, .int (iI x105))] → W p l e (headSpec (.code yX12_joinFrom cX12_joinFrom 10 none :: zt) (z_rm (dd + 1))).room s m args below meth c H locs 0 0 (MQ below (va_Qv (wQv Q) (zB D dA vwCl wR nR b) (zA nR b)) args s 0 0 (zA nR b)) (F0 m 112 ls []) := by
            intro  H locs ls h hS hS0 hl
            have h := B128 h
            refine lv_iload hx hb dX12_joinFrom_112 (lv_at hl 3 rfl) ?_
            refine w_if_ne (tgt := 118) hx hb rfl dX12_joinFrom_114 (by decide) (fun c129 => ?_) (fun c129 => ?_)
            · skip
              have h := h.1 c129
              refine lv_aload_n hx hb dX12_joinFrom_118 rfl (lv_at hl 0 rfl) ?_
              refine lv_iload_n hx hb dX12_joinFrom_119 rfl (lv_at hl 1 rfl) ?_
              refine w_puti hx hb hts (z_memU u12) tyX12 tyX12_ok nmX12 hown hK.1 hS hS0 f12_48 (by decide) (zkd_of (rfl : zcd wR 0 = 50) rfl) (Or.inl (hts _ (z_mem k992))) rfl (z := a2) (by decide +kernel) dX12_joinFrom_120 (fun H locs hS hS0 => ?_)
              obtain ⟨M130, e131⟩ : ∃ M130 : zM, M130 = zup M 0 48 a2 := ⟨_, rfl⟩
              rw [← e131] at hS
              have h := h M130 e131
              refine z_iconst hx hb dX12_joinFrom_123 ?_
              refine lv_istore (lv' := [(6, .int (iI 0)), (0, .ref (b + 0)), (3, .int (iI a2)), (4, .int (iI (40 * a0))), (5, .int (iI x105))]) hx hb dX12_joinFrom_124 hl (by decide) rfl (fun ls hl => ?_)
              obtain ⟨I134, ⟨n135, h136⟩, h137⟩ := h
              have L138 : ∀ (n139 : Nat) (x132 : Int) (M133 : zM) (H : Heap) (locs : List Loc) (ls : Array Slot), I134 n139 x132 M133 → zR D dA vwCl wR nR b M133 H → va_S (zA nR b) s.heap H locs → lv_has ls 10 [(0, .ref (b + 0)), (3, .int (iI a2)), (4, .int (iI (40 * a0))), (6, .int (iI x132))] → W p l e (headSpec (.code yX12_joinFrom cX12_joinFrom 10 none :: zt) (z_rm (dd + 1))).room s m args below meth c H locs 0 0 (MQ below (va_Qv (wQv Q) (zB D dA vwCl wR nR b) (zA nR b)) args s 0 0 (zA nR b)) (F0 m 126 ls []) := by
                intro n139
                induction n139 using Nat.strongRecOn with
                | ind n139 i140 =>
                  intro x132 M133 H locs ls h hS hS0 hl
                  have h := h137 n139 x132 M133 h
                  refine lv_iload hx hb dX12_joinFrom_126 (lv_at hl 3 rfl) ?_
                  refine lv_iload_n hx hb dX12_joinFrom_128 rfl (lv_at hl 1 rfl) ?_
                  refine w_icmp_ge (tgt := 155) hx hb rfl rfl dX12_joinFrom_129 (by decide) (fun c141 => ?_) (fun c141 => ?_)
                  · skip
                    have h := h.1 c141
                    exact w_vret hx hb hr hlocks hS hS0 h dX12_joinFrom_155
                  · skip
                    have h := h.2 c141
                    refine lv_aload_n hx hb dX12_joinFrom_132 rfl (lv_at hl 0 rfl) ?_
                    refine w_getr (j2 := 32) hx hb hts (z_memU u12) hown hK.1 hS f12_47 (by decide) (zkd_of (rfl : zcd wR 0 = 50) rfl) (zrf_of (rfl : zcd wR 0 = 50) rfl) (Or.inl (hts _ (z_mem k991))) dX12_joinFrom_133 ?_
                    refine lv_iload hx hb dX12_joinFrom_136 (lv_at hl 3 rfl) ?_
                    refine lv_aload_n hx hb dX12_joinFrom_138 rfl (lv_at hl 0 rfl) ?_
                    refine w_getr (j2 := 31) hx hb hts (z_memU u12) hown hK.1 hS f12_46 (by decide) (zkd_of (rfl : zcd wR 0 = 50) rfl) (zrf_of (rfl : zcd wR 0 = 50) rfl) (Or.inl (hts _ (z_mem k990))) dX12_joinFrom_139 ?_
                    refine lv_iload hx hb dX12_joinFrom_142 (lv_at hl 2 rfl) ?_
                    refine lv_iload hx hb dX12_joinFrom_144 (lv_at hl 3 rfl) ?_
                    refine z_iadd hx hb dX12_joinFrom_146 ?_
                    obtain ⟨o142, h⟩ := h
                    refine w_iald (n := 240) (i := (sI ((40 * a0) + x132))) hx hb hK.1 (t0 := 0) rfl hS (by decide) (zkd_of (rfl : zcd wR 31 = 81) rfl) (zln_of (rfl : zcd wR 31 = 81) rfl) rfl o142.1 o142.2 (by decide) dX12_joinFrom_147 ?_
                    obtain ⟨o143, h⟩ := h
                    refine w_iast (z := (M133 31 (sI ((40 * a0) + x132)).toNat)) (n := 40) (i := (sI x132)) hx hb hK.1 (t0 := 0) rfl hS hS0 (by decide) (zkd_of (rfl : zcd wR 32 = 82) rfl) (zln_of (rfl : zcd wR 32 = 82) rfl) rfl o143.1 o143.2 (by decide) dX12_joinFrom_148 (fun H locs hS hS0 => ?_)
                    obtain ⟨M144, e145⟩ : ∃ M144 : zM, M144 = zup M133 32 (sI x132).toNat (M133 31 (sI ((40 * a0) + x132)).toNat) := ⟨_, rfl⟩
                    rw [← e145] at hS
                    have h := h M144 e145
                    refine z_iinc (lv' := [(6, .int (iI (x132 + 1))), (0, .ref (b + 0)), (3, .int (iI a2)), (4, .int (iI (40 * a0)))]) hx hb dX12_joinFrom_149 hl (k := 3) rfl (by decide) rfl (fun ls hl => ?_)
                    refine lv_goto (tgt := 126) hx hb dX12_joinFrom_152 (by decide) ?_
                    obtain ⟨n146, h147, h⟩ := h
                    exact i140 n146 h147 (x132 + 1) M144 _ _ _ h hS hS0 (lv_sub hl [1, 2, 3, 0] rfl)
              exact L138 n135 0 M130 _ _ _ h136 hS hS0 (lv_sub hl [1, 2, 3, 0] rfl)
            · skip
              have h := h.2 c129
              exact w_vret hx hb hr hlocks hS hS0 h dX12_joinFrom_117
          refine w_icmp_ge (tgt := 112) hx hb rfl rfl dX12_joinFrom_43 (by decide) (fun c148 => ?_) (fun c148 => ?_)
          · skip
            have h := h.1 c148
            exact L127 _ _ _ h hS hS0 (lv_sub hl [0, 1, 2, 3] rfl)
          · skip
            have h := h.2 c148
            refine lv_iload hx hb dX12_joinFrom_46 (lv_at hl 3 rfl) ?_
            refine w_if_ne (tgt := 112) hx hb rfl dX12_joinFrom_48 (by decide) (fun c149 => ?_) (fun c149 => ?_)
            · skip
              have h := h.1 c149
              exact L127 _ _ _ h hS hS0 (lv_sub hl [0, 1, 2, 3] rfl)
            · skip
              have h := h.2 c149
              refine lv_iload_n hx hb dX12_joinFrom_51 rfl (lv_at hl 1 rfl) ?_
              refine lv_aload_n hx hb dX12_joinFrom_52 rfl (lv_at hl 0 rfl) ?_
              refine w_geti hx hb hts (z_memU u12) hown hK.1 hS f12_48 (by decide) (zkd_of (rfl : zcd wR 0 = 50) rfl) (Or.inl (hts _ (z_mem k992))) dX12_joinFrom_53 ?_
              refine w_icmp_ne (tgt := 112) hx hb rfl rfl dX12_joinFrom_56 (by decide) (fun c150 => ?_) (fun c150 => ?_)
              · skip
                have h := h.1 c150
                exact L127 _ _ _ h hS hS0 (lv_sub hl [0, 1, 2, 3] rfl)
              · skip
                have h := h.2 c150
                refine lv_aload_n hx hb dX12_joinFrom_59 rfl (lv_at hl 0 rfl) ?_
                refine w_getr (j2 := 31) hx hb hts (z_memU u12) hown hK.1 hS f12_46 (by decide) (zkd_of (rfl : zcd wR 0 = 50) rfl) (zrf_of (rfl : zcd wR 0 = 50) rfl) (Or.inl (hts _ (z_mem k990))) dX12_joinFrom_60 ?_
                refine lv_iload hx hb dX12_joinFrom_63 (lv_at hl 2 rfl) ?_
                refine lv_iload hx hb dX12_joinFrom_65 (lv_at hl 4 rfl) ?_
                refine z_iadd hx hb dX12_joinFrom_67 ?_
                obtain ⟨o151, h⟩ := h
                refine w_iald (n := 240) (i := (sI ((40 * a0) + x106))) hx hb hK.1 (t0 := 0) rfl hS (by decide) (zkd_of (rfl : zcd wR 31 = 81) rfl) (zln_of (rfl : zcd wR 31 = 81) rfl) rfl o151.1 o151.2 (by decide) dX12_joinFrom_68 ?_
                refine lv_aload_n hx hb dX12_joinFrom_69 rfl (lv_at hl 0 rfl) ?_
                refine w_getr (j2 := 32) hx hb hts (z_memU u12) hown hK.1 hS f12_47 (by decide) (zkd_of (rfl : zcd wR 0 = 50) rfl) (zrf_of (rfl : zcd wR 0 = 50) rfl) (Or.inl (hts _ (z_mem k991))) dX12_joinFrom_70 ?_
                refine lv_iload hx hb dX12_joinFrom_73 (lv_at hl 4 rfl) ?_
                obtain ⟨o152, h⟩ := h
                refine w_iald (n := 40) (i := (sI x106)) hx hb hK.1 (t0 := 0) rfl hS (by decide) (zkd_of (rfl : zcd wR 32 = 82) rfl) (zln_of (rfl : zcd wR 32 = 82) rfl) rfl o152.1 o152.2 (by decide) dX12_joinFrom_75 ?_
                refine w_icmp_ne (tgt := 82) hx hb rfl rfl dX12_joinFrom_76 (by decide) (fun c153 => ?_) (fun c153 => ?_)
                · skip
                  have h := h.1 c153
                  refine lv_aload_n hx hb dX12_joinFrom_82 rfl (lv_at hl 0 rfl) ?_
                  refine w_getr (j2 := 31) hx hb hts (z_memU u12) hown hK.1 hS f12_46 (by decide) (zkd_of (rfl : zcd wR 0 = 50) rfl) (zrf_of (rfl : zcd wR 0 = 50) rfl) (Or.inl (hts _ (z_mem k990))) dX12_joinFrom_83 ?_
                  refine lv_iload hx hb dX12_joinFrom_86 (lv_at hl 2 rfl) ?_
                  refine lv_iload hx hb dX12_joinFrom_88 (lv_at hl 4 rfl) ?_
                  refine z_iadd hx hb dX12_joinFrom_90 ?_
                  obtain ⟨o154, h⟩ := h
                  refine w_iald (n := 240) (i := (sI ((40 * a0) + x106))) hx hb hK.1 (t0 := 0) rfl hS (by decide) (zkd_of (rfl : zcd wR 31 = 81) rfl) (zln_of (rfl : zcd wR 31 = 81) rfl) rfl o154.1 o154.2 (by decide) dX12_joinFrom_91 ?_
                  refine lv_aload_n hx hb dX12_joinFrom_92 rfl (lv_at hl 0 rfl) ?_
                  refine w_getr (j2 := 32) hx hb hts (z_memU u12) hown hK.1 hS f12_47 (by decide) (zkd_of (rfl : zcd wR 0 = 50) rfl) (zrf_of (rfl : zcd wR 0 = 50) rfl) (Or.inl (hts _ (z_mem k991))) dX12_joinFrom_93 ?_
                  refine lv_iload hx hb dX12_joinFrom_96 (lv_at hl 4 rfl) ?_
                  obtain ⟨o155, h⟩ := h
                  refine w_iald (n := 40) (i := (sI x106)) hx hb hK.1 (t0 := 0) rfl hS (by decide) (zkd_of (rfl : zcd wR 32 = 82) rfl) (zln_of (rfl : zcd wR 32 = 82) rfl) rfl o155.1 o155.2 (by decide) dX12_joinFrom_98 ?_
                  refine w_icmp_le (tgt := 103) hx hb rfl rfl dX12_joinFrom_99 (by decide) (fun c156 => ?_) (fun c156 => ?_)
                  · skip
                    have h := h.1 c156
                    refine z_iconst hx hb dX12_joinFrom_103 ?_
                    refine lv_istore (lv' := [(5, .int (iI 1)), (0, .ref (b + 0)), (3, .int (iI a2)), (4, .int (iI (40 * a0))), (6, .int (iI x106))]) hx hb dX12_joinFrom_104 hl (by decide) rfl (fun ls hl => ?_)
                    refine z_iinc (lv' := [(6, .int (iI (x106 + 1))), (5, .int (iI 1)), (0, .ref (b + 0)), (3, .int (iI a2)), (4, .int (iI (40 * a0)))]) hx hb dX12_joinFrom_106 hl (k := 4) rfl (by decide) rfl (fun ls hl => ?_)
                    refine lv_goto (tgt := 40) hx hb dX12_joinFrom_109 (by decide) ?_
                    obtain ⟨n157, h158, h⟩ := h
                    exact i113 n157 h158 1 (x106 + 1) _ _ _ h hS hS0 (lv_sub hl [2, 3, 4, 1, 0] rfl)
                  · skip
                    have h := h.2 c156
                    exact w_vret hx hb hr hlocks hS hS0 h dX12_joinFrom_102
                · skip
                  have h := h.2 c153
                  refine lv_goto (tgt := 106) hx hb dX12_joinFrom_79 (by decide) ?_
                  refine z_iinc (lv' := [(6, .int (iI (x106 + 1))), (0, .ref (b + 0)), (3, .int (iI a2)), (4, .int (iI (40 * a0))), (5, .int (iI x105))]) hx hb dX12_joinFrom_106 hl (k := 4) rfl (by decide) rfl (fun ls hl => ?_)
                  refine lv_goto (tgt := 40) hx hb dX12_joinFrom_109 (by decide) ?_
                  obtain ⟨n159, h160, h⟩ := h
                  exact i113 n159 h160 x105 (x106 + 1) _ _ _ h hS hS0 (lv_sub hl [1, 2, 3, 4, 0] rfl)
      exact L111 n108 x102 0 _ _ _ h109 hS hS0 (lv_sub hl [2, 3, 4, 1, 0] rfl)
    obtain ⟨J30, B164, h⟩ := h
    have L163 : ∀ (H : Heap) (locs : List Loc) (ls : Array Slot), J30 → zR D dA vwCl wR nR b M H → va_S (zA nR b) s.heap H locs → lv_has ls 10 [(0, .ref (b + 0)), (3, .int (iI a2)), (4, .int (iI (40 * a0)))] → W p l e (headSpec (.code yX12_joinFrom cX12_joinFrom 10 none :: zt) (z_rm (dd + 1))).room s m args below meth c H locs 0 0 (MQ below (va_Qv (wQv Q) (zB D dA vwCl wR nR b) (zA nR b)) args s 0 0 (zA nR b)) (F0 m 30 ls []) := by
      intro  H locs ls h hS hS0 hl
      have h := B164 h
      refine z_iconst hx hb dX12_joinFrom_30 ?_
      refine lv_goto (tgt := 35) hx hb dX12_joinFrom_31 (by decide) ?_
      exact L103 1 _ _ _ h hS hS0 (lv_sub hl [0, 1, 2] rfl)
    refine w_icmp_eq (tgt := 30) hx hb rfl (sI_of (by decide)) dX12_joinFrom_19 (by decide) (fun c165 => ?_) (fun c165 => ?_)
    · skip
      have h := h.1 c165
      exact L163 _ _ _ h hS hS0 (lv_sub hl [1, 4, 0] rfl)
    · skip
      have h := h.2 c165
      refine lv_iload_n hx hb dX12_joinFrom_22 rfl (lv_at hl 4 rfl) ?_
      refine lv_aload_n hx hb dX12_joinFrom_23 rfl (lv_at hl 1 rfl) ?_
      refine w_geti hx hb hts (z_memU u12) hown hK.1 hS f12_48 (by decide) (zkd_of (rfl : zcd wR 0 = 50) rfl) (Or.inl (hts _ (z_mem k992))) dX12_joinFrom_24 ?_
      refine w_icmp_ge (tgt := 34) hx hb rfl rfl dX12_joinFrom_27 (by decide) (fun c166 => ?_) (fun c166 => ?_)
      · skip
        have h := h.1 c166
        refine z_iconst hx hb dX12_joinFrom_34 ?_
        exact L103 0 _ _ _ h hS hS0 (lv_sub hl [1, 4, 0] rfl)
      · skip
        have h := h.2 c166
        exact L163 _ _ _ h hS hS0 (lv_sub hl [1, 4, 0] rfl)

def wR_joinFrom : Nat → Int → Int → Int → zM → (zM → Prop) → Prop
  | 0 => fun _ _ _ _ _ => False
  | n + 1 => wR_joinFrom_F (wR_joinFrom n)
set_option maxHeartbeats 4000000 in
set_option maxRecDepth 100000 in
theorem cR_joinFrom (n : Nat) (l : Launch) (D : va_G) (dA : Nat → ClassId) : ∀ (b : Nat) (M : zM) (a0 : Int) (a1 : Int) (a2 : Int)  (Q : zM → Prop), wR_joinFrom n a0 a1 a2 M Q → Met l yX12_joinFrom (.code yX12_joinFrom cX12_joinFrom 10 none :: zt) (z_rm (1 * n + 2)) (va_Pc [.ref (b + 0), .int (iI a0), .int (iI a1), .int (iI a2)] (wPre D dA vwCl (z_tys dA) wR nR b M)) (va_Qv (wQv Q) (zB D dA vwCl wR nR b) (zA nR b)) 0 0 (zA nR b) := by
  induction n with
  | zero => intro b M a0 a1 a2  Q h; exact h.elim
  | succ n ih =>
    intro b M a0 a1 a2  Q h
    rw [show 1 * (n + 1) + 2 = 1 * n + 2 + 0 + 1 from by omega]
    exact cR_joinFrom_F (1 * n + 2) _ l D dA (by omega) ih b M a0 a1 a2  Q h
end zz10_w22
section zz10_w23
/-! the W layer, 23 -/
theorem q10w23_0_0 : (cX12_editsBy.data.toList.drop 0).take 23 = [42, 180, 0, 72, 27, 46, 54, 4, 42, 180, 0, 72, 28, 46, 54, 5, 16, 25, 54, 6, 3, 54, 7] := by decide +kernel
theorem q10w23_0_23 : (cX12_editsBy.data.toList.drop 23).take 24 = [21, 7, 21, 4, 163, 0, 188, 3, 54, 8, 21, 8, 21, 5, 163, 0, 172, 21, 7, 153, 0, 8, 21, 8] := by decide +kernel
theorem q10w23_0_47 : (cX12_editsBy.data.toList.drop 47).take 24 = [154, 0, 24, 42, 180, 0, 115, 21, 6, 21, 7, 104, 21, 8, 96, 21, 7, 21, 8, 96, 79, 167, 0, 135] := by decide +kernel
theorem q10w23_0_71 : (cX12_editsBy.data.toList.drop 71).take 24 = [42, 180, 0, 69, 16, 24, 27, 104, 21, 7, 96, 4, 100, 46, 42, 180, 0, 69, 16, 24, 28, 104, 21, 8] := by decide +kernel
theorem q10w23_0_95 : (cX12_editsBy.data.toList.drop 95).take 23 = [4, 100, 29, 96, 21, 5, 112, 96, 46, 160, 0, 7, 4, 167, 0, 4, 3, 54, 9, 42, 180, 0, 115] := by decide +kernel
theorem q10w23_0_118 : (cX12_editsBy.data.toList.drop 118).take 24 = [21, 6, 21, 7, 4, 100, 104, 21, 8, 96, 4, 100, 46, 21, 9, 153, 0, 7, 3, 167, 0, 4, 4, 96] := by decide +kernel
theorem q10w23_0_142 : (cX12_editsBy.data.toList.drop 142).take 24 = [54, 10, 21, 10, 4, 42, 180, 0, 115, 21, 6, 21, 7, 4, 100, 104, 21, 8, 96, 46, 96, 184, 1, 15] := by decide +kernel
theorem q10w23_0_166 : (cX12_editsBy.data.toList.drop 166).take 23 = [54, 10, 42, 180, 0, 115, 21, 6, 21, 7, 104, 21, 8, 96, 21, 10, 4, 42, 180, 0, 115, 21, 6] := by decide +kernel
theorem q10w23_0_189 : (cX12_editsBy.data.toList.drop 189).take 23 = [21, 7, 104, 21, 8, 96, 4, 100, 46, 96, 184, 1, 15, 79, 132, 8, 1, 167, 255, 83, 132, 7, 1] := by decide +kernel
theorem q10w23_0_212 : (cX12_editsBy.data.toList.drop 212).take 17 = [167, 255, 67, 42, 180, 0, 115, 21, 6, 21, 4, 104, 21, 5, 96, 46, 172] := by decide +kernel
theorem dX12_editsBy_0 : decode cX12_editsBy 0 = .ok (.aload_n 0, 1) := dz_42 (dz_at q10w23_0_0 0)
theorem dX12_editsBy_1 : decode cX12_editsBy 1 = .ok (.getfield 72, 3) := dz_180 (dz_at q10w23_0_0 1) rfl
theorem dX12_editsBy_101 : decode cX12_editsBy 101 = .ok (.irem, 1) := dz_112 (dz_at q10w23_0_95 6)
theorem dX12_editsBy_102 : decode cX12_editsBy 102 = .ok (.iadd, 1) := dz_96 (dz_at q10w23_0_95 7)
theorem dX12_editsBy_103 : decode cX12_editsBy 103 = .ok (.iaload, 1) := dz_46 (dz_at q10w23_0_95 8)
theorem dX12_editsBy_104 : decode cX12_editsBy 104 = .ok (.if_icmp .ne 7, 3) := dz_160 (dz_at q10w23_0_95 9) (by decide +kernel)
theorem dX12_editsBy_107 : decode cX12_editsBy 107 = .ok (.iconst 1, 1) := dz_4 (dz_at q10w23_0_95 12)
theorem dX12_editsBy_108 : decode cX12_editsBy 108 = .ok (.goto 4, 3) := dz_167 (dz_at q10w23_0_95 13) (by decide +kernel)
theorem dX12_editsBy_111 : decode cX12_editsBy 111 = .ok (.iconst 0, 1) := dz_3 (dz_at q10w23_0_95 16)
theorem dX12_editsBy_112 : decode cX12_editsBy 112 = .ok (.istore 9, 2) := dz_54 (dz_at q10w23_0_95 17)
theorem dX12_editsBy_114 : decode cX12_editsBy 114 = .ok (.aload_n 0, 1) := dz_42 (dz_at q10w23_0_95 19)
theorem dX12_editsBy_115 : decode cX12_editsBy 115 = .ok (.getfield 115, 3) := dz_180 (dz_at q10w23_0_95 20) rfl
theorem dX12_editsBy_118 : decode cX12_editsBy 118 = .ok (.iload 6, 2) := dz_21 (dz_at q10w23_0_118 0)
theorem dX12_editsBy_12 : decode cX12_editsBy 12 = .ok (.iload_n 2, 1) := dz_28 (dz_at q10w23_0_0 12)
theorem dX12_editsBy_120 : decode cX12_editsBy 120 = .ok (.iload 7, 2) := dz_21 (dz_at q10w23_0_118 2)
theorem dX12_editsBy_122 : decode cX12_editsBy 122 = .ok (.iconst 1, 1) := dz_4 (dz_at q10w23_0_118 4)
theorem dX12_editsBy_123 : decode cX12_editsBy 123 = .ok (.isub, 1) := dz_100 (dz_at q10w23_0_118 5)
theorem dX12_editsBy_124 : decode cX12_editsBy 124 = .ok (.imul, 1) := dz_104 (dz_at q10w23_0_118 6)
theorem dX12_editsBy_125 : decode cX12_editsBy 125 = .ok (.iload 8, 2) := dz_21 (dz_at q10w23_0_118 7)
theorem dX12_editsBy_127 : decode cX12_editsBy 127 = .ok (.iadd, 1) := dz_96 (dz_at q10w23_0_118 9)
theorem dX12_editsBy_128 : decode cX12_editsBy 128 = .ok (.iconst 1, 1) := dz_4 (dz_at q10w23_0_118 10)
theorem dX12_editsBy_129 : decode cX12_editsBy 129 = .ok (.isub, 1) := dz_100 (dz_at q10w23_0_118 11)
theorem dX12_editsBy_13 : decode cX12_editsBy 13 = .ok (.iaload, 1) := dz_46 (dz_at q10w23_0_0 13)
theorem dX12_editsBy_130 : decode cX12_editsBy 130 = .ok (.iaload, 1) := dz_46 (dz_at q10w23_0_118 12)
theorem dX12_editsBy_131 : decode cX12_editsBy 131 = .ok (.iload 9, 2) := dz_21 (dz_at q10w23_0_118 13)
theorem dX12_editsBy_133 : decode cX12_editsBy 133 = .ok (.ifCond .eq 7, 3) := dz_153 (dz_at q10w23_0_118 15) (by decide +kernel)
theorem dX12_editsBy_136 : decode cX12_editsBy 136 = .ok (.iconst 0, 1) := dz_3 (dz_at q10w23_0_118 18)
theorem dX12_editsBy_137 : decode cX12_editsBy 137 = .ok (.goto 4, 3) := dz_167 (dz_at q10w23_0_118 19) (by decide +kernel)
theorem dX12_editsBy_14 : decode cX12_editsBy 14 = .ok (.istore 5, 2) := dz_54 (dz_at q10w23_0_0 14)
theorem dX12_editsBy_140 : decode cX12_editsBy 140 = .ok (.iconst 1, 1) := dz_4 (dz_at q10w23_0_118 22)
theorem dX12_editsBy_141 : decode cX12_editsBy 141 = .ok (.iadd, 1) := dz_96 (dz_at q10w23_0_118 23)
theorem dX12_editsBy_142 : decode cX12_editsBy 142 = .ok (.istore 10, 2) := dz_54 (dz_at q10w23_0_142 0)
theorem dX12_editsBy_144 : decode cX12_editsBy 144 = .ok (.iload 10, 2) := dz_21 (dz_at q10w23_0_142 2)
theorem dX12_editsBy_146 : decode cX12_editsBy 146 = .ok (.iconst 1, 1) := dz_4 (dz_at q10w23_0_142 4)
theorem dX12_editsBy_147 : decode cX12_editsBy 147 = .ok (.aload_n 0, 1) := dz_42 (dz_at q10w23_0_142 5)
theorem dX12_editsBy_148 : decode cX12_editsBy 148 = .ok (.getfield 115, 3) := dz_180 (dz_at q10w23_0_142 6) rfl
theorem dX12_editsBy_151 : decode cX12_editsBy 151 = .ok (.iload 6, 2) := dz_21 (dz_at q10w23_0_142 9)
theorem dX12_editsBy_153 : decode cX12_editsBy 153 = .ok (.iload 7, 2) := dz_21 (dz_at q10w23_0_142 11)
theorem dX12_editsBy_155 : decode cX12_editsBy 155 = .ok (.iconst 1, 1) := dz_4 (dz_at q10w23_0_142 13)
theorem dX12_editsBy_156 : decode cX12_editsBy 156 = .ok (.isub, 1) := dz_100 (dz_at q10w23_0_142 14)
theorem dX12_editsBy_157 : decode cX12_editsBy 157 = .ok (.imul, 1) := dz_104 (dz_at q10w23_0_142 15)
theorem dX12_editsBy_158 : decode cX12_editsBy 158 = .ok (.iload 8, 2) := dz_21 (dz_at q10w23_0_142 16)
theorem dX12_editsBy_16 : decode cX12_editsBy 16 = .ok (.bipush 25, 2) := dz_16 (dz_at q10w23_0_0 16) (by decide +kernel)
theorem dX12_editsBy_160 : decode cX12_editsBy 160 = .ok (.iadd, 1) := dz_96 (dz_at q10w23_0_142 18)
theorem dX12_editsBy_161 : decode cX12_editsBy 161 = .ok (.iaload, 1) := dz_46 (dz_at q10w23_0_142 19)
theorem dX12_editsBy_162 : decode cX12_editsBy 162 = .ok (.iadd, 1) := dz_96 (dz_at q10w23_0_142 20)
theorem dX12_editsBy_163 : decode cX12_editsBy 163 = .ok (.invokestatic 271, 3) := dz_184 (dz_at q10w23_0_142 21) rfl
theorem dX12_editsBy_166 : decode cX12_editsBy 166 = .ok (.istore 10, 2) := dz_54 (dz_at q10w23_0_166 0)
theorem dX12_editsBy_168 : decode cX12_editsBy 168 = .ok (.aload_n 0, 1) := dz_42 (dz_at q10w23_0_166 2)
theorem dX12_editsBy_169 : decode cX12_editsBy 169 = .ok (.getfield 115, 3) := dz_180 (dz_at q10w23_0_166 3) rfl
theorem dX12_editsBy_172 : decode cX12_editsBy 172 = .ok (.iload 6, 2) := dz_21 (dz_at q10w23_0_166 6)
theorem dX12_editsBy_174 : decode cX12_editsBy 174 = .ok (.iload 7, 2) := dz_21 (dz_at q10w23_0_166 8)
theorem dX12_editsBy_176 : decode cX12_editsBy 176 = .ok (.imul, 1) := dz_104 (dz_at q10w23_0_166 10)
theorem dX12_editsBy_177 : decode cX12_editsBy 177 = .ok (.iload 8, 2) := dz_21 (dz_at q10w23_0_166 11)
theorem dX12_editsBy_179 : decode cX12_editsBy 179 = .ok (.iadd, 1) := dz_96 (dz_at q10w23_0_166 13)
theorem dX12_editsBy_18 : decode cX12_editsBy 18 = .ok (.istore 6, 2) := dz_54 (dz_at q10w23_0_0 18)
theorem dX12_editsBy_180 : decode cX12_editsBy 180 = .ok (.iload 10, 2) := dz_21 (dz_at q10w23_0_166 14)
theorem dX12_editsBy_182 : decode cX12_editsBy 182 = .ok (.iconst 1, 1) := dz_4 (dz_at q10w23_0_166 16)
theorem dX12_editsBy_183 : decode cX12_editsBy 183 = .ok (.aload_n 0, 1) := dz_42 (dz_at q10w23_0_166 17)
theorem dX12_editsBy_184 : decode cX12_editsBy 184 = .ok (.getfield 115, 3) := dz_180 (dz_at q10w23_0_166 18) rfl
theorem dX12_editsBy_187 : decode cX12_editsBy 187 = .ok (.iload 6, 2) := dz_21 (dz_at q10w23_0_166 21)
theorem dX12_editsBy_189 : decode cX12_editsBy 189 = .ok (.iload 7, 2) := dz_21 (dz_at q10w23_0_189 0)
theorem dX12_editsBy_191 : decode cX12_editsBy 191 = .ok (.imul, 1) := dz_104 (dz_at q10w23_0_189 2)
theorem dX12_editsBy_192 : decode cX12_editsBy 192 = .ok (.iload 8, 2) := dz_21 (dz_at q10w23_0_189 3)
theorem dX12_editsBy_194 : decode cX12_editsBy 194 = .ok (.iadd, 1) := dz_96 (dz_at q10w23_0_189 5)
theorem dX12_editsBy_195 : decode cX12_editsBy 195 = .ok (.iconst 1, 1) := dz_4 (dz_at q10w23_0_189 6)
theorem dX12_editsBy_196 : decode cX12_editsBy 196 = .ok (.isub, 1) := dz_100 (dz_at q10w23_0_189 7)
theorem dX12_editsBy_197 : decode cX12_editsBy 197 = .ok (.iaload, 1) := dz_46 (dz_at q10w23_0_189 8)
theorem dX12_editsBy_198 : decode cX12_editsBy 198 = .ok (.iadd, 1) := dz_96 (dz_at q10w23_0_189 9)
theorem dX12_editsBy_199 : decode cX12_editsBy 199 = .ok (.invokestatic 271, 3) := dz_184 (dz_at q10w23_0_189 10) rfl
theorem dX12_editsBy_20 : decode cX12_editsBy 20 = .ok (.iconst 0, 1) := dz_3 (dz_at q10w23_0_0 20)
theorem dX12_editsBy_202 : decode cX12_editsBy 202 = .ok (.iastore, 1) := dz_79 (dz_at q10w23_0_189 13)
theorem dX12_editsBy_203 : decode cX12_editsBy 203 = .ok (.iinc 8 1, 3) := dz_132 (dz_at q10w23_0_189 14) (by decide +kernel)
theorem dX12_editsBy_206 : decode cX12_editsBy 206 = .ok (.goto (-173), 3) := dz_167 (dz_at q10w23_0_189 17) (by decide +kernel)
theorem dX12_editsBy_209 : decode cX12_editsBy 209 = .ok (.iinc 7 1, 3) := dz_132 (dz_at q10w23_0_189 20) (by decide +kernel)
theorem dX12_editsBy_21 : decode cX12_editsBy 21 = .ok (.istore 7, 2) := dz_54 (dz_at q10w23_0_0 21)
theorem dX12_editsBy_212 : decode cX12_editsBy 212 = .ok (.goto (-189), 3) := dz_167 (dz_at q10w23_0_212 0) (by decide +kernel)
theorem dX12_editsBy_215 : decode cX12_editsBy 215 = .ok (.aload_n 0, 1) := dz_42 (dz_at q10w23_0_212 3)
theorem dX12_editsBy_216 : decode cX12_editsBy 216 = .ok (.getfield 115, 3) := dz_180 (dz_at q10w23_0_212 4) rfl
theorem dX12_editsBy_219 : decode cX12_editsBy 219 = .ok (.iload 6, 2) := dz_21 (dz_at q10w23_0_212 7)
theorem dX12_editsBy_221 : decode cX12_editsBy 221 = .ok (.iload 4, 2) := dz_21 (dz_at q10w23_0_212 9)
theorem dX12_editsBy_223 : decode cX12_editsBy 223 = .ok (.imul, 1) := dz_104 (dz_at q10w23_0_212 11)
theorem dX12_editsBy_224 : decode cX12_editsBy 224 = .ok (.iload 5, 2) := dz_21 (dz_at q10w23_0_212 12)
theorem dX12_editsBy_226 : decode cX12_editsBy 226 = .ok (.iadd, 1) := dz_96 (dz_at q10w23_0_212 14)
theorem dX12_editsBy_227 : decode cX12_editsBy 227 = .ok (.iaload, 1) := dz_46 (dz_at q10w23_0_212 15)
theorem dX12_editsBy_228 : decode cX12_editsBy 228 = .ok (.ireturn, 1) := dz_172 (dz_at q10w23_0_212 16)
theorem dX12_editsBy_23 : decode cX12_editsBy 23 = .ok (.iload 7, 2) := dz_21 (dz_at q10w23_0_23 0)
theorem dX12_editsBy_25 : decode cX12_editsBy 25 = .ok (.iload 4, 2) := dz_21 (dz_at q10w23_0_23 2)
theorem dX12_editsBy_27 : decode cX12_editsBy 27 = .ok (.if_icmp .gt 188, 3) := dz_163 (dz_at q10w23_0_23 4) (by decide +kernel)
theorem dX12_editsBy_30 : decode cX12_editsBy 30 = .ok (.iconst 0, 1) := dz_3 (dz_at q10w23_0_23 7)
theorem dX12_editsBy_31 : decode cX12_editsBy 31 = .ok (.istore 8, 2) := dz_54 (dz_at q10w23_0_23 8)
theorem dX12_editsBy_33 : decode cX12_editsBy 33 = .ok (.iload 8, 2) := dz_21 (dz_at q10w23_0_23 10)
theorem dX12_editsBy_35 : decode cX12_editsBy 35 = .ok (.iload 5, 2) := dz_21 (dz_at q10w23_0_23 12)
theorem dX12_editsBy_37 : decode cX12_editsBy 37 = .ok (.if_icmp .gt 172, 3) := dz_163 (dz_at q10w23_0_23 14) (by decide +kernel)
theorem dX12_editsBy_4 : decode cX12_editsBy 4 = .ok (.iload_n 1, 1) := dz_27 (dz_at q10w23_0_0 4)
theorem dX12_editsBy_40 : decode cX12_editsBy 40 = .ok (.iload 7, 2) := dz_21 (dz_at q10w23_0_23 17)
theorem dX12_editsBy_42 : decode cX12_editsBy 42 = .ok (.ifCond .eq 8, 3) := dz_153 (dz_at q10w23_0_23 19) (by decide +kernel)
theorem dX12_editsBy_45 : decode cX12_editsBy 45 = .ok (.iload 8, 2) := dz_21 (dz_at q10w23_0_23 22)
theorem dX12_editsBy_47 : decode cX12_editsBy 47 = .ok (.ifCond .ne 24, 3) := dz_154 (dz_at q10w23_0_47 0) (by decide +kernel)
theorem dX12_editsBy_5 : decode cX12_editsBy 5 = .ok (.iaload, 1) := dz_46 (dz_at q10w23_0_0 5)
theorem dX12_editsBy_50 : decode cX12_editsBy 50 = .ok (.aload_n 0, 1) := dz_42 (dz_at q10w23_0_47 3)
theorem dX12_editsBy_51 : decode cX12_editsBy 51 = .ok (.getfield 115, 3) := dz_180 (dz_at q10w23_0_47 4) rfl
theorem dX12_editsBy_54 : decode cX12_editsBy 54 = .ok (.iload 6, 2) := dz_21 (dz_at q10w23_0_47 7)
theorem dX12_editsBy_56 : decode cX12_editsBy 56 = .ok (.iload 7, 2) := dz_21 (dz_at q10w23_0_47 9)
theorem dX12_editsBy_58 : decode cX12_editsBy 58 = .ok (.imul, 1) := dz_104 (dz_at q10w23_0_47 11)
theorem dX12_editsBy_59 : decode cX12_editsBy 59 = .ok (.iload 8, 2) := dz_21 (dz_at q10w23_0_47 12)
theorem dX12_editsBy_6 : decode cX12_editsBy 6 = .ok (.istore 4, 2) := dz_54 (dz_at q10w23_0_0 6)
theorem dX12_editsBy_61 : decode cX12_editsBy 61 = .ok (.iadd, 1) := dz_96 (dz_at q10w23_0_47 14)
theorem dX12_editsBy_62 : decode cX12_editsBy 62 = .ok (.iload 7, 2) := dz_21 (dz_at q10w23_0_47 15)
theorem dX12_editsBy_64 : decode cX12_editsBy 64 = .ok (.iload 8, 2) := dz_21 (dz_at q10w23_0_47 17)
theorem dX12_editsBy_66 : decode cX12_editsBy 66 = .ok (.iadd, 1) := dz_96 (dz_at q10w23_0_47 19)
theorem dX12_editsBy_67 : decode cX12_editsBy 67 = .ok (.iastore, 1) := dz_79 (dz_at q10w23_0_47 20)
theorem dX12_editsBy_68 : decode cX12_editsBy 68 = .ok (.goto 135, 3) := dz_167 (dz_at q10w23_0_47 21) (by decide +kernel)
theorem dX12_editsBy_71 : decode cX12_editsBy 71 = .ok (.aload_n 0, 1) := dz_42 (dz_at q10w23_0_71 0)
theorem dX12_editsBy_72 : decode cX12_editsBy 72 = .ok (.getfield 69, 3) := dz_180 (dz_at q10w23_0_71 1) rfl
theorem dX12_editsBy_75 : decode cX12_editsBy 75 = .ok (.bipush 24, 2) := dz_16 (dz_at q10w23_0_71 4) (by decide +kernel)
theorem dX12_editsBy_77 : decode cX12_editsBy 77 = .ok (.iload_n 1, 1) := dz_27 (dz_at q10w23_0_71 6)
theorem dX12_editsBy_78 : decode cX12_editsBy 78 = .ok (.imul, 1) := dz_104 (dz_at q10w23_0_71 7)
theorem dX12_editsBy_79 : decode cX12_editsBy 79 = .ok (.iload 7, 2) := dz_21 (dz_at q10w23_0_71 8)
theorem dX12_editsBy_8 : decode cX12_editsBy 8 = .ok (.aload_n 0, 1) := dz_42 (dz_at q10w23_0_0 8)
theorem dX12_editsBy_81 : decode cX12_editsBy 81 = .ok (.iadd, 1) := dz_96 (dz_at q10w23_0_71 10)
theorem dX12_editsBy_82 : decode cX12_editsBy 82 = .ok (.iconst 1, 1) := dz_4 (dz_at q10w23_0_71 11)
theorem dX12_editsBy_83 : decode cX12_editsBy 83 = .ok (.isub, 1) := dz_100 (dz_at q10w23_0_71 12)
theorem dX12_editsBy_84 : decode cX12_editsBy 84 = .ok (.iaload, 1) := dz_46 (dz_at q10w23_0_71 13)
theorem dX12_editsBy_85 : decode cX12_editsBy 85 = .ok (.aload_n 0, 1) := dz_42 (dz_at q10w23_0_71 14)
theorem dX12_editsBy_86 : decode cX12_editsBy 86 = .ok (.getfield 69, 3) := dz_180 (dz_at q10w23_0_71 15) rfl
theorem dX12_editsBy_89 : decode cX12_editsBy 89 = .ok (.bipush 24, 2) := dz_16 (dz_at q10w23_0_71 18) (by decide +kernel)
theorem dX12_editsBy_9 : decode cX12_editsBy 9 = .ok (.getfield 72, 3) := dz_180 (dz_at q10w23_0_0 9) rfl
theorem dX12_editsBy_91 : decode cX12_editsBy 91 = .ok (.iload_n 2, 1) := dz_28 (dz_at q10w23_0_71 20)
theorem dX12_editsBy_92 : decode cX12_editsBy 92 = .ok (.imul, 1) := dz_104 (dz_at q10w23_0_71 21)
theorem dX12_editsBy_93 : decode cX12_editsBy 93 = .ok (.iload 8, 2) := dz_21 (dz_at q10w23_0_71 22)
theorem dX12_editsBy_95 : decode cX12_editsBy 95 = .ok (.iconst 1, 1) := dz_4 (dz_at q10w23_0_95 0)
theorem dX12_editsBy_96 : decode cX12_editsBy 96 = .ok (.isub, 1) := dz_100 (dz_at q10w23_0_95 1)
theorem dX12_editsBy_97 : decode cX12_editsBy 97 = .ok (.iload_n 3, 1) := dz_29 (dz_at q10w23_0_95 2)
theorem dX12_editsBy_98 : decode cX12_editsBy 98 = .ok (.iadd, 1) := dz_96 (dz_at q10w23_0_95 3)
theorem dX12_editsBy_99 : decode cX12_editsBy 99 = .ok (.iload 5, 2) := dz_21 (dz_at q10w23_0_95 4)
theorem q10w23_1_0 : (cX12_edits.data.toList.drop 0).take 22 = [42, 3, 181, 0, 118, 27, 3, 42, 180, 0, 185, 4, 100, 184, 0, 124, 153, 0, 17, 28, 3, 42] := by decide +kernel
theorem q10w23_1_22 : (cX12_edits.data.toList.drop 22).take 23 = [180, 0, 185, 4, 100, 184, 0, 124, 154, 0, 5, 2, 172, 19, 1, 11, 62, 3, 54, 4, 21, 4, 42] := by decide +kernel
theorem q10w23_1_45 : (cX12_edits.data.toList.drop 45).take 24 = [180, 0, 72, 28, 46, 162, 0, 22, 29, 42, 27, 28, 21, 4, 182, 1, 64, 184, 1, 15, 62, 132, 4, 1] := by decide +kernel
theorem q10w23_1_69 : (cX12_edits.data.toList.drop 69).take 5 = [167, 255, 229, 29, 172] := by decide +kernel
theorem dX12_edits_0 : decode cX12_edits 0 = .ok (.aload_n 0, 1) := dz_42 (dz_at q10w23_1_0 0)
theorem dX12_edits_1 : decode cX12_edits 1 = .ok (.iconst 0, 1) := dz_3 (dz_at q10w23_1_0 1)
theorem dX12_edits_11 : decode cX12_edits 11 = .ok (.iconst 1, 1) := dz_4 (dz_at q10w23_1_0 11)
theorem dX12_edits_12 : decode cX12_edits 12 = .ok (.isub, 1) := dz_100 (dz_at q10w23_1_0 12)
theorem dX12_edits_13 : decode cX12_edits 13 = .ok (.invokestatic 124, 3) := dz_184 (dz_at q10w23_1_0 13) rfl
theorem dX12_edits_16 : decode cX12_edits 16 = .ok (.ifCond .eq 17, 3) := dz_153 (dz_at q10w23_1_0 16) (by decide +kernel)
theorem dX12_edits_19 : decode cX12_edits 19 = .ok (.iload_n 2, 1) := dz_28 (dz_at q10w23_1_0 19)
theorem dX12_edits_2 : decode cX12_edits 2 = .ok (.putfield 118, 3) := dz_181 (dz_at q10w23_1_0 2) rfl
theorem dX12_edits_20 : decode cX12_edits 20 = .ok (.iconst 0, 1) := dz_3 (dz_at q10w23_1_0 20)
theorem dX12_edits_21 : decode cX12_edits 21 = .ok (.aload_n 0, 1) := dz_42 (dz_at q10w23_1_0 21)
theorem dX12_edits_22 : decode cX12_edits 22 = .ok (.getfield 185, 3) := dz_180 (dz_at q10w23_1_22 0) rfl
theorem dX12_edits_25 : decode cX12_edits 25 = .ok (.iconst 1, 1) := dz_4 (dz_at q10w23_1_22 3)
theorem dX12_edits_26 : decode cX12_edits 26 = .ok (.isub, 1) := dz_100 (dz_at q10w23_1_22 4)
theorem dX12_edits_27 : decode cX12_edits 27 = .ok (.invokestatic 124, 3) := dz_184 (dz_at q10w23_1_22 5) rfl
theorem dX12_edits_30 : decode cX12_edits 30 = .ok (.ifCond .ne 5, 3) := dz_154 (dz_at q10w23_1_22 8) (by decide +kernel)
theorem dX12_edits_33 : decode cX12_edits 33 = .ok (.iconst (-1), 1) := dz_2 (dz_at q10w23_1_22 11)
theorem dX12_edits_34 : decode cX12_edits 34 = .ok (.ireturn, 1) := dz_172 (dz_at q10w23_1_22 12)
theorem dX12_edits_35 : decode cX12_edits 35 = .ok (.ldc_w 267, 3) := dz_19 (dz_at q10w23_1_22 13) rfl
theorem dX12_edits_38 : decode cX12_edits 38 = .ok (.istore_n 3, 1) := dz_62 (dz_at q10w23_1_22 16)
theorem dX12_edits_39 : decode cX12_edits 39 = .ok (.iconst 0, 1) := dz_3 (dz_at q10w23_1_22 17)
theorem dX12_edits_40 : decode cX12_edits 40 = .ok (.istore 4, 2) := dz_54 (dz_at q10w23_1_22 18)
theorem dX12_edits_42 : decode cX12_edits 42 = .ok (.iload 4, 2) := dz_21 (dz_at q10w23_1_22 20)
theorem dX12_edits_44 : decode cX12_edits 44 = .ok (.aload_n 0, 1) := dz_42 (dz_at q10w23_1_22 22)
theorem dX12_edits_45 : decode cX12_edits 45 = .ok (.getfield 72, 3) := dz_180 (dz_at q10w23_1_45 0) rfl
theorem dX12_edits_48 : decode cX12_edits 48 = .ok (.iload_n 2, 1) := dz_28 (dz_at q10w23_1_45 3)
theorem dX12_edits_49 : decode cX12_edits 49 = .ok (.iaload, 1) := dz_46 (dz_at q10w23_1_45 4)
theorem dX12_edits_5 : decode cX12_edits 5 = .ok (.iload_n 1, 1) := dz_27 (dz_at q10w23_1_0 5)
theorem dX12_edits_50 : decode cX12_edits 50 = .ok (.if_icmp .ge 22, 3) := dz_162 (dz_at q10w23_1_45 5) (by decide +kernel)
theorem dX12_edits_53 : decode cX12_edits 53 = .ok (.iload_n 3, 1) := dz_29 (dz_at q10w23_1_45 8)
theorem dX12_edits_54 : decode cX12_edits 54 = .ok (.aload_n 0, 1) := dz_42 (dz_at q10w23_1_45 9)
theorem dX12_edits_55 : decode cX12_edits 55 = .ok (.iload_n 1, 1) := dz_27 (dz_at q10w23_1_45 10)
theorem dX12_edits_56 : decode cX12_edits 56 = .ok (.iload_n 2, 1) := dz_28 (dz_at q10w23_1_45 11)
theorem dX12_edits_57 : decode cX12_edits 57 = .ok (.iload 4, 2) := dz_21 (dz_at q10w23_1_45 12)
theorem dX12_edits_59 : decode cX12_edits 59 = .ok (.invokevirtual 320, 3) := dz_182 (dz_at q10w23_1_45 14) rfl
theorem dX12_edits_6 : decode cX12_edits 6 = .ok (.iconst 0, 1) := dz_3 (dz_at q10w23_1_0 6)
theorem dX12_edits_62 : decode cX12_edits 62 = .ok (.invokestatic 271, 3) := dz_184 (dz_at q10w23_1_45 17) rfl
theorem dX12_edits_65 : decode cX12_edits 65 = .ok (.istore_n 3, 1) := dz_62 (dz_at q10w23_1_45 20)
theorem dX12_edits_66 : decode cX12_edits 66 = .ok (.iinc 4 1, 3) := dz_132 (dz_at q10w23_1_45 21) (by decide +kernel)
theorem dX12_edits_69 : decode cX12_edits 69 = .ok (.goto (-27), 3) := dz_167 (dz_at q10w23_1_69 0) (by decide +kernel)
theorem dX12_edits_7 : decode cX12_edits 7 = .ok (.aload_n 0, 1) := dz_42 (dz_at q10w23_1_0 7)
theorem dX12_edits_72 : decode cX12_edits 72 = .ok (.iload_n 3, 1) := dz_29 (dz_at q10w23_1_69 3)
theorem dX12_edits_73 : decode cX12_edits 73 = .ok (.ireturn, 1) := dz_172 (dz_at q10w23_1_69 4)
theorem dX12_edits_8 : decode cX12_edits 8 = .ok (.getfield 185, 3) := dz_180 (dz_at q10w23_1_0 8) rfl
theorem q10w23_2_0 : (cX12_fetch.data.toList.drop 0).take 23 = [42, 3, 181, 0, 118, 27, 3, 42, 180, 0, 185, 4, 100, 184, 0, 124, 154, 0, 5, 2, 172, 42, 42] := by decide +kernel
theorem q10w23_2_23 : (cX12_fetch.data.toList.drop 23).take 24 = [180, 0, 72, 27, 46, 181, 0, 162, 3, 61, 28, 42, 180, 0, 162, 162, 0, 26, 42, 180, 0, 13, 28, 42] := by decide +kernel
theorem q10w23_2_47 : (cX12_fetch.data.toList.drop 47).take 22 = [180, 0, 69, 16, 24, 27, 104, 28, 96, 46, 79, 132, 2, 1, 167, 255, 228, 42, 180, 0, 162, 172] := by decide +kernel
theorem dX12_fetch_0 : decode cX12_fetch 0 = .ok (.aload_n 0, 1) := dz_42 (dz_at q10w23_2_0 0)
theorem dX12_fetch_1 : decode cX12_fetch 1 = .ok (.iconst 0, 1) := dz_3 (dz_at q10w23_2_0 1)
theorem dX12_fetch_11 : decode cX12_fetch 11 = .ok (.iconst 1, 1) := dz_4 (dz_at q10w23_2_0 11)
theorem dX12_fetch_12 : decode cX12_fetch 12 = .ok (.isub, 1) := dz_100 (dz_at q10w23_2_0 12)
theorem dX12_fetch_13 : decode cX12_fetch 13 = .ok (.invokestatic 124, 3) := dz_184 (dz_at q10w23_2_0 13) rfl
theorem dX12_fetch_16 : decode cX12_fetch 16 = .ok (.ifCond .ne 5, 3) := dz_154 (dz_at q10w23_2_0 16) (by decide +kernel)
theorem dX12_fetch_19 : decode cX12_fetch 19 = .ok (.iconst (-1), 1) := dz_2 (dz_at q10w23_2_0 19)
theorem dX12_fetch_2 : decode cX12_fetch 2 = .ok (.putfield 118, 3) := dz_181 (dz_at q10w23_2_0 2) rfl
theorem dX12_fetch_20 : decode cX12_fetch 20 = .ok (.ireturn, 1) := dz_172 (dz_at q10w23_2_0 20)
theorem dX12_fetch_21 : decode cX12_fetch 21 = .ok (.aload_n 0, 1) := dz_42 (dz_at q10w23_2_0 21)
theorem dX12_fetch_22 : decode cX12_fetch 22 = .ok (.aload_n 0, 1) := dz_42 (dz_at q10w23_2_0 22)
theorem dX12_fetch_23 : decode cX12_fetch 23 = .ok (.getfield 72, 3) := dz_180 (dz_at q10w23_2_23 0) rfl
theorem dX12_fetch_26 : decode cX12_fetch 26 = .ok (.iload_n 1, 1) := dz_27 (dz_at q10w23_2_23 3)
theorem dX12_fetch_27 : decode cX12_fetch 27 = .ok (.iaload, 1) := dz_46 (dz_at q10w23_2_23 4)
theorem dX12_fetch_28 : decode cX12_fetch 28 = .ok (.putfield 162, 3) := dz_181 (dz_at q10w23_2_23 5) rfl
theorem dX12_fetch_31 : decode cX12_fetch 31 = .ok (.iconst 0, 1) := dz_3 (dz_at q10w23_2_23 8)
theorem dX12_fetch_32 : decode cX12_fetch 32 = .ok (.istore_n 2, 1) := dz_61 (dz_at q10w23_2_23 9)
theorem dX12_fetch_33 : decode cX12_fetch 33 = .ok (.iload_n 2, 1) := dz_28 (dz_at q10w23_2_23 10)
theorem dX12_fetch_34 : decode cX12_fetch 34 = .ok (.aload_n 0, 1) := dz_42 (dz_at q10w23_2_23 11)
theorem dX12_fetch_35 : decode cX12_fetch 35 = .ok (.getfield 162, 3) := dz_180 (dz_at q10w23_2_23 12) rfl
theorem dX12_fetch_38 : decode cX12_fetch 38 = .ok (.if_icmp .ge 26, 3) := dz_162 (dz_at q10w23_2_23 15) (by decide +kernel)
theorem dX12_fetch_41 : decode cX12_fetch 41 = .ok (.aload_n 0, 1) := dz_42 (dz_at q10w23_2_23 18)
theorem dX12_fetch_42 : decode cX12_fetch 42 = .ok (.getfield 13, 3) := dz_180 (dz_at q10w23_2_23 19) rfl
theorem dX12_fetch_45 : decode cX12_fetch 45 = .ok (.iload_n 2, 1) := dz_28 (dz_at q10w23_2_23 22)
theorem dX12_fetch_46 : decode cX12_fetch 46 = .ok (.aload_n 0, 1) := dz_42 (dz_at q10w23_2_23 23)
theorem dX12_fetch_47 : decode cX12_fetch 47 = .ok (.getfield 69, 3) := dz_180 (dz_at q10w23_2_47 0) rfl
theorem dX12_fetch_5 : decode cX12_fetch 5 = .ok (.iload_n 1, 1) := dz_27 (dz_at q10w23_2_0 5)
theorem dX12_fetch_50 : decode cX12_fetch 50 = .ok (.bipush 24, 2) := dz_16 (dz_at q10w23_2_47 3) (by decide +kernel)
theorem dX12_fetch_52 : decode cX12_fetch 52 = .ok (.iload_n 1, 1) := dz_27 (dz_at q10w23_2_47 5)
theorem dX12_fetch_53 : decode cX12_fetch 53 = .ok (.imul, 1) := dz_104 (dz_at q10w23_2_47 6)
theorem dX12_fetch_54 : decode cX12_fetch 54 = .ok (.iload_n 2, 1) := dz_28 (dz_at q10w23_2_47 7)
theorem dX12_fetch_55 : decode cX12_fetch 55 = .ok (.iadd, 1) := dz_96 (dz_at q10w23_2_47 8)
theorem dX12_fetch_56 : decode cX12_fetch 56 = .ok (.iaload, 1) := dz_46 (dz_at q10w23_2_47 9)
theorem dX12_fetch_57 : decode cX12_fetch 57 = .ok (.iastore, 1) := dz_79 (dz_at q10w23_2_47 10)
theorem dX12_fetch_58 : decode cX12_fetch 58 = .ok (.iinc 2 1, 3) := dz_132 (dz_at q10w23_2_47 11) (by decide +kernel)
theorem dX12_fetch_6 : decode cX12_fetch 6 = .ok (.iconst 0, 1) := dz_3 (dz_at q10w23_2_0 6)
theorem dX12_fetch_61 : decode cX12_fetch 61 = .ok (.goto (-28), 3) := dz_167 (dz_at q10w23_2_47 14) (by decide +kernel)
theorem dX12_fetch_64 : decode cX12_fetch 64 = .ok (.aload_n 0, 1) := dz_42 (dz_at q10w23_2_47 17)
theorem dX12_fetch_65 : decode cX12_fetch 65 = .ok (.getfield 162, 3) := dz_180 (dz_at q10w23_2_47 18) rfl
theorem dX12_fetch_68 : decode cX12_fetch 68 = .ok (.ireturn, 1) := dz_172 (dz_at q10w23_2_47 21)
theorem dX12_fetch_7 : decode cX12_fetch 7 = .ok (.aload_n 0, 1) := dz_42 (dz_at q10w23_2_0 7)
theorem dX12_fetch_8 : decode cX12_fetch 8 = .ok (.getfield 185, 3) := dz_180 (dz_at q10w23_2_0 8) rfl
theorem q10w23_3_0 : (cX12_join.data.toList.drop 0).take 22 = [42, 3, 181, 0, 118, 42, 2, 181, 1, 49, 42, 3, 3, 3, 182, 1, 60, 42, 42, 180, 1, 49] := by decide +kernel
theorem q10w23_3_22 : (cX12_join.data.toList.drop 22).take 24 = [181, 0, 188, 3, 60, 27, 42, 180, 0, 188, 162, 0, 21, 42, 180, 0, 81, 27, 42, 180, 0, 112, 27, 46] := by decide +kernel
theorem q10w23_3_46 : (cX12_join.data.toList.drop 46).take 12 = [79, 132, 1, 1, 167, 255, 233, 42, 180, 1, 49, 172] := by decide +kernel
theorem dX12_join_0 : decode cX12_join 0 = .ok (.aload_n 0, 1) := dz_42 (dz_at q10w23_3_0 0)
theorem dX12_join_1 : decode cX12_join 1 = .ok (.iconst 0, 1) := dz_3 (dz_at q10w23_3_0 1)
theorem dX12_join_10 : decode cX12_join 10 = .ok (.aload_n 0, 1) := dz_42 (dz_at q10w23_3_0 10)
theorem dX12_join_11 : decode cX12_join 11 = .ok (.iconst 0, 1) := dz_3 (dz_at q10w23_3_0 11)
theorem dX12_join_12 : decode cX12_join 12 = .ok (.iconst 0, 1) := dz_3 (dz_at q10w23_3_0 12)
theorem dX12_join_13 : decode cX12_join 13 = .ok (.iconst 0, 1) := dz_3 (dz_at q10w23_3_0 13)
theorem dX12_join_14 : decode cX12_join 14 = .ok (.invokevirtual 316, 3) := dz_182 (dz_at q10w23_3_0 14) rfl
theorem dX12_join_17 : decode cX12_join 17 = .ok (.aload_n 0, 1) := dz_42 (dz_at q10w23_3_0 17)
theorem dX12_join_18 : decode cX12_join 18 = .ok (.aload_n 0, 1) := dz_42 (dz_at q10w23_3_0 18)
theorem dX12_join_19 : decode cX12_join 19 = .ok (.getfield 305, 3) := dz_180 (dz_at q10w23_3_0 19) rfl
theorem dX12_join_2 : decode cX12_join 2 = .ok (.putfield 118, 3) := dz_181 (dz_at q10w23_3_0 2) rfl
theorem dX12_join_22 : decode cX12_join 22 = .ok (.putfield 188, 3) := dz_181 (dz_at q10w23_3_22 0) rfl
theorem dX12_join_25 : decode cX12_join 25 = .ok (.iconst 0, 1) := dz_3 (dz_at q10w23_3_22 3)
theorem dX12_join_26 : decode cX12_join 26 = .ok (.istore_n 1, 1) := dz_60 (dz_at q10w23_3_22 4)
theorem dX12_join_27 : decode cX12_join 27 = .ok (.iload_n 1, 1) := dz_27 (dz_at q10w23_3_22 5)
theorem dX12_join_28 : decode cX12_join 28 = .ok (.aload_n 0, 1) := dz_42 (dz_at q10w23_3_22 6)
theorem dX12_join_29 : decode cX12_join 29 = .ok (.getfield 188, 3) := dz_180 (dz_at q10w23_3_22 7) rfl
theorem dX12_join_32 : decode cX12_join 32 = .ok (.if_icmp .ge 21, 3) := dz_162 (dz_at q10w23_3_22 10) (by decide +kernel)
theorem dX12_join_35 : decode cX12_join 35 = .ok (.aload_n 0, 1) := dz_42 (dz_at q10w23_3_22 13)
theorem dX12_join_36 : decode cX12_join 36 = .ok (.getfield 81, 3) := dz_180 (dz_at q10w23_3_22 14) rfl
theorem dX12_join_39 : decode cX12_join 39 = .ok (.iload_n 1, 1) := dz_27 (dz_at q10w23_3_22 17)
theorem dX12_join_40 : decode cX12_join 40 = .ok (.aload_n 0, 1) := dz_42 (dz_at q10w23_3_22 18)
theorem dX12_join_41 : decode cX12_join 41 = .ok (.getfield 112, 3) := dz_180 (dz_at q10w23_3_22 19) rfl
theorem dX12_join_44 : decode cX12_join 44 = .ok (.iload_n 1, 1) := dz_27 (dz_at q10w23_3_22 22)
theorem dX12_join_45 : decode cX12_join 45 = .ok (.iaload, 1) := dz_46 (dz_at q10w23_3_22 23)
theorem dX12_join_46 : decode cX12_join 46 = .ok (.iastore, 1) := dz_79 (dz_at q10w23_3_46 0)
theorem dX12_join_47 : decode cX12_join 47 = .ok (.iinc 1 1, 3) := dz_132 (dz_at q10w23_3_46 1) (by decide +kernel)
theorem dX12_join_5 : decode cX12_join 5 = .ok (.aload_n 0, 1) := dz_42 (dz_at q10w23_3_0 5)
theorem dX12_join_50 : decode cX12_join 50 = .ok (.goto (-23), 3) := dz_167 (dz_at q10w23_3_46 4) (by decide +kernel)
theorem dX12_join_53 : decode cX12_join 53 = .ok (.aload_n 0, 1) := dz_42 (dz_at q10w23_3_46 7)
theorem dX12_join_54 : decode cX12_join 54 = .ok (.getfield 305, 3) := dz_180 (dz_at q10w23_3_46 8) rfl
theorem dX12_join_57 : decode cX12_join 57 = .ok (.ireturn, 1) := dz_172 (dz_at q10w23_3_46 11)
theorem dX12_join_6 : decode cX12_join 6 = .ok (.iconst (-1), 1) := dz_2 (dz_at q10w23_3_0 6)
theorem dX12_join_7 : decode cX12_join 7 = .ok (.putfield 305, 3) := dz_181 (dz_at q10w23_3_0 7) rfl
theorem q10w23_4_0 : (cX12_keep.data.toList.drop 0).take 24 = [42, 3, 181, 0, 118, 42, 27, 182, 0, 168, 153, 0, 45, 28, 3, 17, 3, 231, 184, 0, 124, 153, 0, 34] := by decide +kernel
theorem q10w23_4_24 : (cX12_keep.data.toList.drop 24).take 22 = [42, 180, 0, 185, 16, 16, 159, 0, 25, 42, 180, 0, 185, 158, 0, 20, 28, 42, 180, 0, 78, 42] := by decide +kernel
theorem q10w23_4_46 : (cX12_keep.data.toList.drop 46).take 22 = [180, 0, 185, 4, 100, 46, 162, 0, 5, 2, 172, 42, 180, 0, 75, 42, 180, 0, 185, 27, 79, 42] := by decide +kernel
theorem q10w23_4_68 : (cX12_keep.data.toList.drop 68).take 24 = [180, 0, 78, 42, 180, 0, 185, 28, 79, 42, 180, 0, 72, 42, 180, 0, 185, 42, 180, 0, 20, 27, 46, 79] := by decide +kernel
theorem q10w23_4_92 : (cX12_keep.data.toList.drop 92).take 24 = [3, 62, 29, 42, 180, 0, 20, 27, 46, 162, 0, 34, 42, 180, 0, 69, 16, 24, 42, 180, 0, 185, 104, 29] := by decide +kernel
theorem q10w23_4_116 : (cX12_keep.data.toList.drop 116).take 24 = [96, 42, 180, 0, 17, 16, 24, 27, 104, 29, 96, 46, 79, 132, 3, 1, 167, 255, 218, 42, 89, 180, 0, 185] := by decide +kernel
theorem q10w23_4_140 : (cX12_keep.data.toList.drop 140).take 12 = [4, 96, 181, 0, 185, 42, 180, 0, 185, 4, 100, 172] := by decide +kernel
theorem dX12_keep_0 : decode cX12_keep 0 = .ok (.aload_n 0, 1) := dz_42 (dz_at q10w23_4_0 0)
theorem dX12_keep_1 : decode cX12_keep 1 = .ok (.iconst 0, 1) := dz_3 (dz_at q10w23_4_0 1)
theorem dX12_keep_10 : decode cX12_keep 10 = .ok (.ifCond .eq 45, 3) := dz_153 (dz_at q10w23_4_0 10) (by decide +kernel)
theorem dX12_keep_100 : decode cX12_keep 100 = .ok (.iaload, 1) := dz_46 (dz_at q10w23_4_92 8)
theorem dX12_keep_101 : decode cX12_keep 101 = .ok (.if_icmp .ge 34, 3) := dz_162 (dz_at q10w23_4_92 9) (by decide +kernel)
theorem dX12_keep_104 : decode cX12_keep 104 = .ok (.aload_n 0, 1) := dz_42 (dz_at q10w23_4_92 12)
theorem dX12_keep_105 : decode cX12_keep 105 = .ok (.getfield 69, 3) := dz_180 (dz_at q10w23_4_92 13) rfl
theorem dX12_keep_108 : decode cX12_keep 108 = .ok (.bipush 24, 2) := dz_16 (dz_at q10w23_4_92 16) (by decide +kernel)
theorem dX12_keep_110 : decode cX12_keep 110 = .ok (.aload_n 0, 1) := dz_42 (dz_at q10w23_4_92 18)
theorem dX12_keep_111 : decode cX12_keep 111 = .ok (.getfield 185, 3) := dz_180 (dz_at q10w23_4_92 19) rfl
theorem dX12_keep_114 : decode cX12_keep 114 = .ok (.imul, 1) := dz_104 (dz_at q10w23_4_92 22)
theorem dX12_keep_115 : decode cX12_keep 115 = .ok (.iload_n 3, 1) := dz_29 (dz_at q10w23_4_92 23)
theorem dX12_keep_116 : decode cX12_keep 116 = .ok (.iadd, 1) := dz_96 (dz_at q10w23_4_116 0)
theorem dX12_keep_117 : decode cX12_keep 117 = .ok (.aload_n 0, 1) := dz_42 (dz_at q10w23_4_116 1)
theorem dX12_keep_118 : decode cX12_keep 118 = .ok (.getfield 17, 3) := dz_180 (dz_at q10w23_4_116 2) rfl
theorem dX12_keep_121 : decode cX12_keep 121 = .ok (.bipush 24, 2) := dz_16 (dz_at q10w23_4_116 5) (by decide +kernel)
theorem dX12_keep_123 : decode cX12_keep 123 = .ok (.iload_n 1, 1) := dz_27 (dz_at q10w23_4_116 7)
theorem dX12_keep_124 : decode cX12_keep 124 = .ok (.imul, 1) := dz_104 (dz_at q10w23_4_116 8)
theorem dX12_keep_125 : decode cX12_keep 125 = .ok (.iload_n 3, 1) := dz_29 (dz_at q10w23_4_116 9)
theorem dX12_keep_126 : decode cX12_keep 126 = .ok (.iadd, 1) := dz_96 (dz_at q10w23_4_116 10)
theorem dX12_keep_127 : decode cX12_keep 127 = .ok (.iaload, 1) := dz_46 (dz_at q10w23_4_116 11)
theorem dX12_keep_128 : decode cX12_keep 128 = .ok (.iastore, 1) := dz_79 (dz_at q10w23_4_116 12)
theorem dX12_keep_129 : decode cX12_keep 129 = .ok (.iinc 3 1, 3) := dz_132 (dz_at q10w23_4_116 13) (by decide +kernel)
theorem dX12_keep_13 : decode cX12_keep 13 = .ok (.iload_n 2, 1) := dz_28 (dz_at q10w23_4_0 13)
theorem dX12_keep_132 : decode cX12_keep 132 = .ok (.goto (-38), 3) := dz_167 (dz_at q10w23_4_116 16) (by decide +kernel)
theorem dX12_keep_135 : decode cX12_keep 135 = .ok (.aload_n 0, 1) := dz_42 (dz_at q10w23_4_116 19)
theorem dX12_keep_136 : decode cX12_keep 136 = .ok (.dup, 1) := dz_89 (dz_at q10w23_4_116 20)
theorem dX12_keep_137 : decode cX12_keep 137 = .ok (.getfield 185, 3) := dz_180 (dz_at q10w23_4_116 21) rfl
theorem dX12_keep_14 : decode cX12_keep 14 = .ok (.iconst 0, 1) := dz_3 (dz_at q10w23_4_0 14)
theorem dX12_keep_140 : decode cX12_keep 140 = .ok (.iconst 1, 1) := dz_4 (dz_at q10w23_4_140 0)
theorem dX12_keep_141 : decode cX12_keep 141 = .ok (.iadd, 1) := dz_96 (dz_at q10w23_4_140 1)
theorem dX12_keep_142 : decode cX12_keep 142 = .ok (.putfield 185, 3) := dz_181 (dz_at q10w23_4_140 2) rfl
theorem dX12_keep_145 : decode cX12_keep 145 = .ok (.aload_n 0, 1) := dz_42 (dz_at q10w23_4_140 5)
theorem dX12_keep_146 : decode cX12_keep 146 = .ok (.getfield 185, 3) := dz_180 (dz_at q10w23_4_140 6) rfl
theorem dX12_keep_149 : decode cX12_keep 149 = .ok (.iconst 1, 1) := dz_4 (dz_at q10w23_4_140 9)
theorem dX12_keep_15 : decode cX12_keep 15 = .ok (.sipush 999, 3) := dz_17 (dz_at q10w23_4_0 15) (by decide +kernel)
theorem dX12_keep_150 : decode cX12_keep 150 = .ok (.isub, 1) := dz_100 (dz_at q10w23_4_140 10)
theorem dX12_keep_151 : decode cX12_keep 151 = .ok (.ireturn, 1) := dz_172 (dz_at q10w23_4_140 11)
theorem dX12_keep_18 : decode cX12_keep 18 = .ok (.invokestatic 124, 3) := dz_184 (dz_at q10w23_4_0 18) rfl
theorem dX12_keep_2 : decode cX12_keep 2 = .ok (.putfield 118, 3) := dz_181 (dz_at q10w23_4_0 2) rfl
theorem dX12_keep_21 : decode cX12_keep 21 = .ok (.ifCond .eq 34, 3) := dz_153 (dz_at q10w23_4_0 21) (by decide +kernel)
theorem dX12_keep_24 : decode cX12_keep 24 = .ok (.aload_n 0, 1) := dz_42 (dz_at q10w23_4_24 0)
theorem dX12_keep_25 : decode cX12_keep 25 = .ok (.getfield 185, 3) := dz_180 (dz_at q10w23_4_24 1) rfl
theorem dX12_keep_28 : decode cX12_keep 28 = .ok (.bipush 16, 2) := dz_16 (dz_at q10w23_4_24 4) (by decide +kernel)
theorem dX12_keep_30 : decode cX12_keep 30 = .ok (.if_icmp .eq 25, 3) := dz_159 (dz_at q10w23_4_24 6) (by decide +kernel)
theorem dX12_keep_33 : decode cX12_keep 33 = .ok (.aload_n 0, 1) := dz_42 (dz_at q10w23_4_24 9)
theorem dX12_keep_34 : decode cX12_keep 34 = .ok (.getfield 185, 3) := dz_180 (dz_at q10w23_4_24 10) rfl
theorem dX12_keep_37 : decode cX12_keep 37 = .ok (.ifCond .le 20, 3) := dz_158 (dz_at q10w23_4_24 13) (by decide +kernel)
theorem dX12_keep_40 : decode cX12_keep 40 = .ok (.iload_n 2, 1) := dz_28 (dz_at q10w23_4_24 16)
theorem dX12_keep_41 : decode cX12_keep 41 = .ok (.aload_n 0, 1) := dz_42 (dz_at q10w23_4_24 17)
theorem dX12_keep_42 : decode cX12_keep 42 = .ok (.getfield 78, 3) := dz_180 (dz_at q10w23_4_24 18) rfl
theorem dX12_keep_45 : decode cX12_keep 45 = .ok (.aload_n 0, 1) := dz_42 (dz_at q10w23_4_24 21)
theorem dX12_keep_46 : decode cX12_keep 46 = .ok (.getfield 185, 3) := dz_180 (dz_at q10w23_4_46 0) rfl
theorem dX12_keep_49 : decode cX12_keep 49 = .ok (.iconst 1, 1) := dz_4 (dz_at q10w23_4_46 3)
theorem dX12_keep_5 : decode cX12_keep 5 = .ok (.aload_n 0, 1) := dz_42 (dz_at q10w23_4_0 5)
theorem dX12_keep_50 : decode cX12_keep 50 = .ok (.isub, 1) := dz_100 (dz_at q10w23_4_46 4)
theorem dX12_keep_51 : decode cX12_keep 51 = .ok (.iaload, 1) := dz_46 (dz_at q10w23_4_46 5)
theorem dX12_keep_52 : decode cX12_keep 52 = .ok (.if_icmp .ge 5, 3) := dz_162 (dz_at q10w23_4_46 6) (by decide +kernel)
theorem dX12_keep_55 : decode cX12_keep 55 = .ok (.iconst (-1), 1) := dz_2 (dz_at q10w23_4_46 9)
theorem dX12_keep_56 : decode cX12_keep 56 = .ok (.ireturn, 1) := dz_172 (dz_at q10w23_4_46 10)
theorem dX12_keep_57 : decode cX12_keep 57 = .ok (.aload_n 0, 1) := dz_42 (dz_at q10w23_4_46 11)
theorem dX12_keep_58 : decode cX12_keep 58 = .ok (.getfield 75, 3) := dz_180 (dz_at q10w23_4_46 12) rfl
theorem dX12_keep_6 : decode cX12_keep 6 = .ok (.iload_n 1, 1) := dz_27 (dz_at q10w23_4_0 6)
theorem dX12_keep_61 : decode cX12_keep 61 = .ok (.aload_n 0, 1) := dz_42 (dz_at q10w23_4_46 15)
theorem dX12_keep_62 : decode cX12_keep 62 = .ok (.getfield 185, 3) := dz_180 (dz_at q10w23_4_46 16) rfl
theorem dX12_keep_65 : decode cX12_keep 65 = .ok (.iload_n 1, 1) := dz_27 (dz_at q10w23_4_46 19)
theorem dX12_keep_66 : decode cX12_keep 66 = .ok (.iastore, 1) := dz_79 (dz_at q10w23_4_46 20)
theorem dX12_keep_67 : decode cX12_keep 67 = .ok (.aload_n 0, 1) := dz_42 (dz_at q10w23_4_46 21)
theorem dX12_keep_68 : decode cX12_keep 68 = .ok (.getfield 78, 3) := dz_180 (dz_at q10w23_4_68 0) rfl
theorem dX12_keep_7 : decode cX12_keep 7 = .ok (.invokevirtual 168, 3) := dz_182 (dz_at q10w23_4_0 7) rfl
theorem dX12_keep_71 : decode cX12_keep 71 = .ok (.aload_n 0, 1) := dz_42 (dz_at q10w23_4_68 3)
theorem dX12_keep_72 : decode cX12_keep 72 = .ok (.getfield 185, 3) := dz_180 (dz_at q10w23_4_68 4) rfl
theorem dX12_keep_75 : decode cX12_keep 75 = .ok (.iload_n 2, 1) := dz_28 (dz_at q10w23_4_68 7)
theorem dX12_keep_76 : decode cX12_keep 76 = .ok (.iastore, 1) := dz_79 (dz_at q10w23_4_68 8)
theorem dX12_keep_77 : decode cX12_keep 77 = .ok (.aload_n 0, 1) := dz_42 (dz_at q10w23_4_68 9)
theorem dX12_keep_78 : decode cX12_keep 78 = .ok (.getfield 72, 3) := dz_180 (dz_at q10w23_4_68 10) rfl
theorem dX12_keep_81 : decode cX12_keep 81 = .ok (.aload_n 0, 1) := dz_42 (dz_at q10w23_4_68 13)
theorem dX12_keep_82 : decode cX12_keep 82 = .ok (.getfield 185, 3) := dz_180 (dz_at q10w23_4_68 14) rfl
theorem dX12_keep_85 : decode cX12_keep 85 = .ok (.aload_n 0, 1) := dz_42 (dz_at q10w23_4_68 17)
theorem dX12_keep_86 : decode cX12_keep 86 = .ok (.getfield 20, 3) := dz_180 (dz_at q10w23_4_68 18) rfl
theorem dX12_keep_89 : decode cX12_keep 89 = .ok (.iload_n 1, 1) := dz_27 (dz_at q10w23_4_68 21)
theorem dX12_keep_90 : decode cX12_keep 90 = .ok (.iaload, 1) := dz_46 (dz_at q10w23_4_68 22)
theorem dX12_keep_91 : decode cX12_keep 91 = .ok (.iastore, 1) := dz_79 (dz_at q10w23_4_68 23)
theorem dX12_keep_92 : decode cX12_keep 92 = .ok (.iconst 0, 1) := dz_3 (dz_at q10w23_4_92 0)
theorem dX12_keep_93 : decode cX12_keep 93 = .ok (.istore_n 3, 1) := dz_62 (dz_at q10w23_4_92 1)
theorem dX12_keep_94 : decode cX12_keep 94 = .ok (.iload_n 3, 1) := dz_29 (dz_at q10w23_4_92 2)
theorem dX12_keep_95 : decode cX12_keep 95 = .ok (.aload_n 0, 1) := dz_42 (dz_at q10w23_4_92 3)
theorem dX12_keep_96 : decode cX12_keep 96 = .ok (.getfield 20, 3) := dz_180 (dz_at q10w23_4_92 4) rfl
theorem dX12_keep_99 : decode cX12_keep 99 = .ok (.iload_n 1, 1) := dz_27 (dz_at q10w23_4_92 7)
theorem q10w23_5_0 : (cX12_known.data.toList.drop 0).take 23 = [42, 3, 181, 0, 118, 42, 180, 0, 185, 4, 100, 62, 29, 155, 0, 31, 42, 180, 0, 75, 29, 46, 27] := by decide +kernel
theorem q10w23_5_23 : (cX12_known.data.toList.drop 23).take 23 = [160, 0, 15, 42, 180, 0, 78, 29, 46, 28, 163, 0, 5, 29, 172, 132, 3, 255, 167, 255, 227, 2, 172] := by decide +kernel
theorem dX12_known_0 : decode cX12_known 0 = .ok (.aload_n 0, 1) := dz_42 (dz_at q10w23_5_0 0)
theorem dX12_known_1 : decode cX12_known 1 = .ok (.iconst 0, 1) := dz_3 (dz_at q10w23_5_0 1)
theorem dX12_known_10 : decode cX12_known 10 = .ok (.isub, 1) := dz_100 (dz_at q10w23_5_0 10)
theorem dX12_known_11 : decode cX12_known 11 = .ok (.istore_n 3, 1) := dz_62 (dz_at q10w23_5_0 11)
theorem dX12_known_12 : decode cX12_known 12 = .ok (.iload_n 3, 1) := dz_29 (dz_at q10w23_5_0 12)
theorem dX12_known_13 : decode cX12_known 13 = .ok (.ifCond .lt 31, 3) := dz_155 (dz_at q10w23_5_0 13) (by decide +kernel)
theorem dX12_known_16 : decode cX12_known 16 = .ok (.aload_n 0, 1) := dz_42 (dz_at q10w23_5_0 16)
theorem dX12_known_17 : decode cX12_known 17 = .ok (.getfield 75, 3) := dz_180 (dz_at q10w23_5_0 17) rfl
theorem dX12_known_2 : decode cX12_known 2 = .ok (.putfield 118, 3) := dz_181 (dz_at q10w23_5_0 2) rfl
theorem dX12_known_20 : decode cX12_known 20 = .ok (.iload_n 3, 1) := dz_29 (dz_at q10w23_5_0 20)
theorem dX12_known_21 : decode cX12_known 21 = .ok (.iaload, 1) := dz_46 (dz_at q10w23_5_0 21)
theorem dX12_known_22 : decode cX12_known 22 = .ok (.iload_n 1, 1) := dz_27 (dz_at q10w23_5_0 22)
theorem dX12_known_23 : decode cX12_known 23 = .ok (.if_icmp .ne 15, 3) := dz_160 (dz_at q10w23_5_23 0) (by decide +kernel)
theorem dX12_known_26 : decode cX12_known 26 = .ok (.aload_n 0, 1) := dz_42 (dz_at q10w23_5_23 3)
theorem dX12_known_27 : decode cX12_known 27 = .ok (.getfield 78, 3) := dz_180 (dz_at q10w23_5_23 4) rfl
theorem dX12_known_30 : decode cX12_known 30 = .ok (.iload_n 3, 1) := dz_29 (dz_at q10w23_5_23 7)
theorem dX12_known_31 : decode cX12_known 31 = .ok (.iaload, 1) := dz_46 (dz_at q10w23_5_23 8)
theorem dX12_known_32 : decode cX12_known 32 = .ok (.iload_n 2, 1) := dz_28 (dz_at q10w23_5_23 9)
theorem dX12_known_33 : decode cX12_known 33 = .ok (.if_icmp .gt 5, 3) := dz_163 (dz_at q10w23_5_23 10) (by decide +kernel)
theorem dX12_known_36 : decode cX12_known 36 = .ok (.iload_n 3, 1) := dz_29 (dz_at q10w23_5_23 13)
theorem dX12_known_37 : decode cX12_known 37 = .ok (.ireturn, 1) := dz_172 (dz_at q10w23_5_23 14)
theorem dX12_known_38 : decode cX12_known 38 = .ok (.iinc 3 (-1), 3) := dz_132 (dz_at q10w23_5_23 15) (by decide +kernel)
theorem dX12_known_41 : decode cX12_known 41 = .ok (.goto (-29), 3) := dz_167 (dz_at q10w23_5_23 18) (by decide +kernel)
theorem dX12_known_44 : decode cX12_known 44 = .ok (.iconst (-1), 1) := dz_2 (dz_at q10w23_5_23 21)
theorem dX12_known_45 : decode cX12_known 45 = .ok (.ireturn, 1) := dz_172 (dz_at q10w23_5_23 22)
theorem dX12_known_5 : decode cX12_known 5 = .ok (.aload_n 0, 1) := dz_42 (dz_at q10w23_5_0 5)
theorem dX12_known_6 : decode cX12_known 6 = .ok (.getfield 185, 3) := dz_180 (dz_at q10w23_5_0 6) rfl
theorem dX12_known_9 : decode cX12_known 9 = .ok (.iconst 1, 1) := dz_4 (dz_at q10w23_5_0 9)
theorem dm_X12_editsBy : yX12_editsBy.cls = RX12 ∧ yX12_editsBy.cls ≠ "java/lang/invoke/MethodHandle" ∧ yX12_editsBy.cls ≠ "java/lang/invoke/VarHandle" ∧ (parseMethodDescriptor yX12_editsBy.desc).map (fun d => d.parameters.length) = some 3 := by decide +kernel
set_option maxRecDepth 100000 in
def wR_join  (M : zM) (Q : Int → zM → Prop) : Prop := (∀ M1 : zM, M1 = zup M 0 35 0 → (∀ M3 : zM, M3 = zup M1 0 48 (-1) → wR_joinFrom 6 0 0 0 M3 (fun M5 => (∀ M6 : zM, M6 = zup M5 0 34 (M5 0 48) → wL1 (fun K27 x8 M9 => ((sI (M9 0 34)) ≤ (sI x8) → Q (sI (M9 0 48)) M9) ∧ ((sI x8) < (sI (M9 0 34)) → ((0 ≤ (sI x8) ∧ (sI x8) < 40) ∧ ((0 ≤ (sI x8) ∧ (sI x8) < 64) ∧ (∀ M20 : zM, M20 = zup M9 22 (sI x8).toNat (M9 32 (sI x8).toNat) → K27 (x8 + 1) M20))))) 0 M6))))
set_option maxHeartbeats 4000000 in
set_option maxRecDepth 100000 in
theorem cR_join (l : Launch) (D : va_G) (dA : Nat → ClassId) (b : Nat) (M : zM)   (Q : Int → zM → Prop) (h : wR_join  M Q) : Met l yX12_join (.code yX12_join cX12_join 2 (some .int) :: zt) (z_rm 9) (va_Pc [.ref (b + 0)] (wPre D dA vwCl (z_tys dA) wR nR b M)) (va_Qi (wQi Q) (zB D dA vwCl wR nR b) (zA nR b)) 0 0 (zA nR b) := by
  unfold wR_join at h
  refine Met.ofW (cc := cX12_join) (maxL := 2) (ret := (some .int)) (by decide) rfl ?_
  intro p e s m args below meth c s₁ B hml hv
  obtain ⟨hargs, hS, hK⟩ := hv
  have hx := B.exec
  have hb := B.bytes
  have hr := B.returns
  have hts := atoms_spec (ws := .code yX12_join cX12_join 2 (some .int) :: zt) B.pre
  have hown : s.vm.findClass RX12 = some m.cls := findClass_of_methodNamed B.named
  have hlocks := B.notSynchronized
  have hS0 : va_S (zA nR b) s.heap s.heap [] := va_S.rf
  have hl := lv_entry ([.ref (b + 0)]) (n := 2) (Nat.le_of_ble_eq_true rfl)
  have hent : entryFrame m args 2 = F0 m 0 ((lg_sl ([.ref (b + 0)]) ++ List.replicate (2 - (lg_sl ([.ref (b + 0)])).length) Slot.unset).toArray) [] := by rw [hargs]; exact lg_entry_eq m ([.ref (b + 0)]) 2
  rw [hent]
  generalize (lg_sl ([.ref (b + 0)]) ++ List.replicate (2 - (lg_sl ([.ref (b + 0)])).length) Slot.unset).toArray = ls at hl ⊢
  have hl : lv_has ls 2 [(0, .ref (b + 0))] := hl
  refine lv_aload_n hx hb dX12_join_0 rfl (lv_at hl 0 rfl) ?_
  refine z_iconst hx hb dX12_join_1 ?_
  refine w_puti hx hb hts (z_memU u12) tyX12 tyX12_ok nmX12 hown hK.1 hS hS0 f12_35 (by decide) (zkd_of (rfl : zcd wR 0 = 50) rfl) (Or.inl (hts _ (z_mem k979))) rfl (z := 0) (by decide +kernel) dX12_join_2 (fun H locs hS hS0 => ?_)
  obtain ⟨M1, e2⟩ : ∃ M1 : zM, M1 = zup M 0 35 0 := ⟨_, rfl⟩
  rw [← e2] at hS
  have h := h M1 e2
  refine lv_aload_n hx hb dX12_join_5 rfl (lv_at hl 0 rfl) ?_
  refine z_iconst hx hb dX12_join_6 ?_
  refine w_puti hx hb hts (z_memU u12) tyX12 tyX12_ok nmX12 hown hK.1 hS hS0 f12_48 (by decide) (zkd_of (rfl : zcd wR 0 = 50) rfl) (Or.inl (hts _ (z_mem k992))) rfl (z := (-1)) (by decide +kernel) dX12_join_7 (fun H locs hS hS0 => ?_)
  obtain ⟨M3, e4⟩ : ∃ M3 : zM, M3 = zup M1 0 48 (-1) := ⟨_, rfl⟩
  rw [← e4] at hS
  have h := h M3 e4
  refine lv_aload_n hx hb dX12_join_10 rfl (lv_at hl 0 rfl) ?_
  refine z_iconst hx hb dX12_join_11 ?_
  refine z_iconst hx hb dX12_join_12 ?_
  refine z_iconst hx hb dX12_join_13 ?_
  refine w_callv (va_runV (As := [.int (iI 0), .int (iI 0), .int (iI 0)]) (rest := []) ⟨hx, hb, hml, hown, hts⟩ (cR_joinFrom 6 l D dA b M3 0 0 0 _ h) (cwV 3 hts (z_gV k1316 k1317 k1420 k14 k1318) rfl rfl rfl dm_X12_joinFrom ⟨Nat.le_of_ble_eq_true rfl, Nat.le_of_ble_eq_true rfl⟩) ⟨wPre_blind, (w_recv hS hK.1 (by decide) (zkd_of (rfl : zcd wR 0 = 50) rfl) (by decide) (rfl : vwCl[12]? = some (RX12, TX12, 50))), w_pre hS hK⟩ rfl rfl hl.1 rfl (lv_room (Nat.le_of_ble_eq_true rfl)) dX12_join_14 ⟨Nat.le_refl _, Nat.le_refl _⟩) hS0 (fun M5 H locs h hS hS0 => ?_)
  refine lv_aload_n hx hb dX12_join_17 rfl (lv_at hl 0 rfl) ?_
  refine lv_aload_n hx hb dX12_join_18 rfl (lv_at hl 0 rfl) ?_
  refine w_geti hx hb hts (z_memU u12) hown hK.1 hS f12_48 (by decide) (zkd_of (rfl : zcd wR 0 = 50) rfl) (Or.inl (hts _ (z_mem k992))) dX12_join_19 ?_
  refine w_puti hx hb hts (z_memU u12) tyX12 tyX12_ok nmX12 hown hK.1 hS hS0 f12_34 (by decide) (zkd_of (rfl : zcd wR 0 = 50) rfl) (Or.inl (hts _ (z_mem k978))) rfl (z := (M5 0 48)) (by decide +kernel) dX12_join_22 (fun H locs hS hS0 => ?_)
  obtain ⟨M6, e7⟩ : ∃ M6 : zM, M6 = zup M5 0 34 (M5 0 48) := ⟨_, rfl⟩
  rw [← e7] at hS
  have h := h M6 e7
  refine z_iconst hx hb dX12_join_25 ?_
  refine lv_istore_n (lv' := [(1, .int (iI 0)), (0, .ref (b + 0))]) hx hb dX12_join_26 rfl hl (by decide) rfl (fun ls hl => ?_)
  obtain ⟨I10, ⟨n11, h12⟩, h13⟩ := h
  have L14 : ∀ (n15 : Nat) (x8 : Int) (M9 : zM) (H : Heap) (locs : List Loc) (ls : Array Slot), I10 n15 x8 M9 → zR D dA vwCl wR nR b M9 H → va_S (zA nR b) s.heap H locs → lv_has ls 2 [(0, .ref (b + 0)), (1, .int (iI x8))] → W p l e (headSpec (.code yX12_join cX12_join 2 (some .int) :: zt) (z_rm 9)).room s m args below meth c H locs 0 0 (MQ below (va_Qi (wQi Q) (zB D dA vwCl wR nR b) (zA nR b)) args s 0 0 (zA nR b)) (F0 m 27 ls []) := by
    intro n15
    induction n15 using Nat.strongRecOn with
    | ind n15 i16 =>
      intro x8 M9 H locs ls h hS hS0 hl
      have h := h13 n15 x8 M9 h
      refine lv_iload_n hx hb dX12_join_27 rfl (lv_at hl 1 rfl) ?_
      refine lv_aload_n hx hb dX12_join_28 rfl (lv_at hl 0 rfl) ?_
      refine w_geti hx hb hts (z_memU u12) hown hK.1 hS f12_34 (by decide) (zkd_of (rfl : zcd wR 0 = 50) rfl) (Or.inl (hts _ (z_mem k978))) dX12_join_29 ?_
      refine w_icmp_ge (tgt := 53) hx hb rfl rfl dX12_join_32 (by decide) (fun c17 => ?_) (fun c17 => ?_)
      · skip
        have h := h.1 c17
        refine lv_aload_n hx hb dX12_join_53 rfl (lv_at hl 0 rfl) ?_
        refine w_geti hx hb hts (z_memU u12) hown hK.1 hS f12_48 (by decide) (zkd_of (rfl : zcd wR 0 = 50) rfl) (Or.inl (hts _ (z_mem k992))) dX12_join_54 ?_
        exact w_iret hx hb hr hlocks hS hS0 rfl h dX12_join_57
      · skip
        have h := h.2 c17
        refine lv_aload_n hx hb dX12_join_35 rfl (lv_at hl 0 rfl) ?_
        refine w_getr (j2 := 22) hx hb hts (z_memU u12) hown hK.1 hS f12_33 (by decide) (zkd_of (rfl : zcd wR 0 = 50) rfl) (zrf_of (rfl : zcd wR 0 = 50) rfl) (Or.inl (hts _ (z_mem k977))) dX12_join_36 ?_
        refine lv_iload_n hx hb dX12_join_39 rfl (lv_at hl 1 rfl) ?_
        refine lv_aload_n hx hb dX12_join_40 rfl (lv_at hl 0 rfl) ?_
        refine w_getr (j2 := 32) hx hb hts (z_memU u12) hown hK.1 hS f12_47 (by decide) (zkd_of (rfl : zcd wR 0 = 50) rfl) (zrf_of (rfl : zcd wR 0 = 50) rfl) (Or.inl (hts _ (z_mem k991))) dX12_join_41 ?_
        refine lv_iload_n hx hb dX12_join_44 rfl (lv_at hl 1 rfl) ?_
        obtain ⟨o18, h⟩ := h
        refine w_iald (n := 40) (i := (sI x8)) hx hb hK.1 (t0 := 0) rfl hS (by decide) (zkd_of (rfl : zcd wR 32 = 82) rfl) (zln_of (rfl : zcd wR 32 = 82) rfl) rfl o18.1 o18.2 (by decide) dX12_join_45 ?_
        obtain ⟨o19, h⟩ := h
        refine w_iast (z := (M9 32 (sI x8).toNat)) (n := 64) (i := (sI x8)) hx hb hK.1 (t0 := 0) rfl hS hS0 (by decide) (zkd_of (rfl : zcd wR 22 = 72) rfl) (zln_of (rfl : zcd wR 22 = 72) rfl) rfl o19.1 o19.2 (by decide) dX12_join_46 (fun H locs hS hS0 => ?_)
        obtain ⟨M20, e21⟩ : ∃ M20 : zM, M20 = zup M9 22 (sI x8).toNat (M9 32 (sI x8).toNat) := ⟨_, rfl⟩
        rw [← e21] at hS
        have h := h M20 e21
        refine z_iinc (lv' := [(1, .int (iI (x8 + 1))), (0, .ref (b + 0))]) hx hb dX12_join_47 hl (k := 1) rfl (by decide) rfl (fun ls hl => ?_)
        refine lv_goto (tgt := 27) hx hb dX12_join_50 (by decide) ?_
        obtain ⟨n22, h23, h⟩ := h
        exact i16 n22 h23 (x8 + 1) M20 _ _ _ h hS hS0 (lv_sub hl [1, 0] rfl)
  exact L14 n11 0 M6 _ _ _ h12 hS hS0 (lv_sub hl [1, 0] rfl)

set_option maxRecDepth 100000 in
def wR_keep (a0 : Int) (a1 : Int) (M : zM) (Q : Int → zM → Prop) : Prop := (∀ M1 : zM, M1 = zup M 0 35 0 → wR_isRing a0 M1 (fun z4 => (z4 = 0 → Q (-1) M1) ∧ (z4 ≠ 0 → wR_in a1 0 999 M1 (fun z9 => (z9 = 0 → Q (-1) M1) ∧ (z9 ≠ 0 → ((sI (M1 0 32)) = 16 → Q (-1) M1) ∧ ((sI (M1 0 32)) ≠ 16 → pJ0 (fun J57 => ((sI (M1 0 32)) ≤ 0 → J57) ∧ (0 < (sI (M1 0 32)) → ((0 ≤ (sI ((M1 0 32) - 1)) ∧ (sI ((M1 0 32) - 1)) < 16) ∧ ((sI (M1 21 (sI ((M1 0 32) - 1)).toNat)) ≤ (sI a1) → J57) ∧ ((sI a1) < (sI (M1 21 (sI ((M1 0 32) - 1)).toNat)) → Q (-1) M1)))) (((0 ≤ (sI (M1 0 32)) ∧ (sI (M1 0 32)) < 16) ∧ (∀ M20 : zM, M20 = zup M1 20 (sI (M1 0 32)).toNat a0 → ((0 ≤ (sI (M20 0 32)) ∧ (sI (M20 0 32)) < 16) ∧ (∀ M23 : zM, M23 = zup M20 21 (sI (M20 0 32)).toNat a1 → ((0 ≤ (sI a0) ∧ (sI a0) < 4) ∧ ((0 ≤ (sI (M23 0 32)) ∧ (sI (M23 0 32)) < 16) ∧ (∀ M27 : zM, M27 = zup M23 19 (sI (M23 0 32)).toNat (M23 4 (sI a0).toNat) → wL1 (fun K94 x29 M30 => ((0 ≤ (sI a0) ∧ (sI a0) < 4) ∧ ((sI (M30 4 (sI a0).toNat)) ≤ (sI x29) → (∀ M40 : zM, M40 = zup M30 0 32 ((M30 0 32) + 1) → Q (sI ((M40 0 32) - 1)) M40)) ∧ ((sI x29) < (sI (M30 4 (sI a0).toNat)) → ((0 ≤ (sI ((24 * a0) + x29)) ∧ (sI ((24 * a0) + x29)) < 96) ∧ ((0 ≤ (sI ((24 * (M30 0 32)) + x29)) ∧ (sI ((24 * (M30 0 32)) + x29)) < 384) ∧ (∀ M44 : zM, M44 = zup M30 18 (sI ((24 * (M30 0 32)) + x29)).toNat (M30 3 (sI ((24 * a0) + x29)).toNat) → K94 (x29 + 1) M44)))))) 0 M27))))))))))))))
set_option maxHeartbeats 4000000 in
set_option maxRecDepth 100000 in
theorem cR_keep (l : Launch) (D : va_G) (dA : Nat → ClassId) (b : Nat) (M : zM) (a0 : Int) (a1 : Int)  (Q : Int → zM → Prop) (h : wR_keep a0 a1 M Q) : Met l yX12_keep (.code yX12_keep cX12_keep 4 (some .int) :: zt) (z_rm 2) (va_Pc [.ref (b + 0), .int (iI a0), .int (iI a1)] (wPre D dA vwCl (z_tys dA) wR nR b M)) (va_Qi (wQi Q) (zB D dA vwCl wR nR b) (zA nR b)) 0 0 (zA nR b) := by
  unfold wR_keep at h
  refine Met.ofW (cc := cX12_keep) (maxL := 4) (ret := (some .int)) (by decide) rfl ?_
  intro p e s m args below meth c s₁ B hml hv
  obtain ⟨hargs, hS, hK⟩ := hv
  have hx := B.exec
  have hb := B.bytes
  have hr := B.returns
  have hts := atoms_spec (ws := .code yX12_keep cX12_keep 4 (some .int) :: zt) B.pre
  have hown : s.vm.findClass RX12 = some m.cls := findClass_of_methodNamed B.named
  have hlocks := B.notSynchronized
  have hS0 : va_S (zA nR b) s.heap s.heap [] := va_S.rf
  have hl := lv_entry ([.ref (b + 0), .int (iI a0), .int (iI a1)]) (n := 4) (Nat.le_of_ble_eq_true rfl)
  have hent : entryFrame m args 4 = F0 m 0 ((lg_sl ([.ref (b + 0), .int (iI a0), .int (iI a1)]) ++ List.replicate (4 - (lg_sl ([.ref (b + 0), .int (iI a0), .int (iI a1)])).length) Slot.unset).toArray) [] := by rw [hargs]; exact lg_entry_eq m ([.ref (b + 0), .int (iI a0), .int (iI a1)]) 4
  rw [hent]
  generalize (lg_sl ([.ref (b + 0), .int (iI a0), .int (iI a1)]) ++ List.replicate (4 - (lg_sl ([.ref (b + 0), .int (iI a0), .int (iI a1)])).length) Slot.unset).toArray = ls at hl ⊢
  have hl : lv_has ls 4 [(0, .ref (b + 0)), (1, .int (iI a0)), (2, .int (iI a1))] := hl
  refine lv_aload_n hx hb dX12_keep_0 rfl (lv_at hl 0 rfl) ?_
  refine z_iconst hx hb dX12_keep_1 ?_
  refine w_puti hx hb hts (z_memU u12) tyX12 tyX12_ok nmX12 hown hK.1 hS hS0 f12_35 (by decide) (zkd_of (rfl : zcd wR 0 = 50) rfl) (Or.inl (hts _ (z_mem k979))) rfl (z := 0) (by decide +kernel) dX12_keep_2 (fun H locs hS hS0 => ?_)
  obtain ⟨M1, e2⟩ : ∃ M1 : zM, M1 = zup M 0 35 0 := ⟨_, rfl⟩
  rw [← e2] at hS
  have h := h M1 e2
  refine lv_aload_n hx hb dX12_keep_5 rfl (lv_at hl 0 rfl) ?_
  refine lv_iload_n hx hb dX12_keep_6 rfl (lv_at hl 1 rfl) ?_
  refine w_callz (va_runV (As := [.int (iI a0)]) (rest := []) ⟨hx, hb, hml, hown, hts⟩ (cR_isRing l D dA b M1 a0 _ h) (cwV 1 hts (z_gV k1097 k1098 k1397 k14 k1099) rfl rfl rfl dm_X12_isRing ⟨Nat.le_of_ble_eq_true rfl, Nat.le_of_ble_eq_true rfl⟩) ⟨wPre_blind, (w_recv hS hK.1 (by decide) (zkd_of (rfl : zcd wR 0 = 50) rfl) (by decide) (rfl : vwCl[12]? = some (RX12, TX12, 50))), w_pre hS hK⟩ rfl rfl hl.1 rfl (lv_room (Nat.le_of_ble_eq_true rfl)) dX12_keep_7 ⟨Nat.le_refl _, Nat.le_refl _⟩) hS0 (fun z4 M3 H locs r5 h hS hS0 => ?_)
  obtain ⟨e6, h⟩ := h
  rw [e6] at hS
  refine w_if_eq (tgt := 55) hx hb (sI_01 r5) dX12_keep_10 (by decide) (fun c7 => ?_) (fun c7 => ?_)
  · skip
    have h := h.1 c7
    refine z_iconst hx hb dX12_keep_55 ?_
    exact w_iret hx hb hr hlocks hS hS0 (sI_of (by decide)) h dX12_keep_56
  · skip
    have h := h.2 c7
    refine lv_iload_n hx hb dX12_keep_13 rfl (lv_at hl 2 rfl) ?_
    refine z_iconst hx hb dX12_keep_14 ?_
    refine z_sipush hx hb (by decide) dX12_keep_15 ?_
    refine w_callz (va_runS (As := [.int (iI a1), .int (iI 0), .int (iI 999)]) (rest := []) ⟨hx, hb, hml, hown, hts⟩ (cR_in l D dA b M1 a1 0 999 _ h) (va_cwS 3 hts (z_gS k1083 k1084 k14 k1085) rfl rfl rfl dm_X12_in.2 ⟨Nat.le_of_ble_eq_true rfl, Nat.le_of_ble_eq_true rfl⟩) ⟨wPre_blind, w_pre hS hK⟩ rfl rfl hl.1 rfl (lv_room (Nat.le_of_ble_eq_true rfl)) dX12_keep_18 ⟨Nat.le_refl _, Nat.le_refl _⟩) hS0 (fun z9 M8 H locs r10 h hS hS0 => ?_)
    obtain ⟨e11, h⟩ := h
    rw [e11] at hS
    refine w_if_eq (tgt := 55) hx hb (sI_01 r10) dX12_keep_21 (by decide) (fun c12 => ?_) (fun c12 => ?_)
    · skip
      have h := h.1 c12
      refine z_iconst hx hb dX12_keep_55 ?_
      exact w_iret hx hb hr hlocks hS hS0 (sI_of (by decide)) h dX12_keep_56
    · skip
      have h := h.2 c12
      refine lv_aload_n hx hb dX12_keep_24 rfl (lv_at hl 0 rfl) ?_
      refine w_geti hx hb hts (z_memU u12) hown hK.1 hS f12_32 (by decide) (zkd_of (rfl : zcd wR 0 = 50) rfl) (Or.inl (hts _ (z_mem k976))) dX12_keep_25 ?_
      refine z_bipush hx hb (by decide) dX12_keep_28 ?_
      refine w_icmp_eq (tgt := 55) hx hb rfl (sI_of (by decide)) dX12_keep_30 (by decide) (fun c13 => ?_) (fun c13 => ?_)
      · skip
        have h := h.1 c13
        refine z_iconst hx hb dX12_keep_55 ?_
        exact w_iret hx hb hr hlocks hS hS0 (sI_of (by decide)) h dX12_keep_56
      · skip
        have h := h.2 c13
        refine lv_aload_n hx hb dX12_keep_33 rfl (lv_at hl 0 rfl) ?_
        refine w_geti hx hb hts (z_memU u12) hown hK.1 hS f12_32 (by decide) (zkd_of (rfl : zcd wR 0 = 50) rfl) (Or.inl (hts _ (z_mem k976))) dX12_keep_34 ?_
        obtain ⟨J57, B18, h⟩ := h
        have L17 : ∀ (H : Heap) (locs : List Loc) (ls : Array Slot), J57 → zR D dA vwCl wR nR b M1 H → va_S (zA nR b) s.heap H locs → lv_has ls 4 [(0, .ref (b + 0)), (1, .int (iI a0)), (2, .int (iI a1))] → W p l e (headSpec (.code yX12_keep cX12_keep 4 (some .int) :: zt) (z_rm 2)).room s m args below meth c H locs 0 0 (MQ below (va_Qi (wQi Q) (zB D dA vwCl wR nR b) (zA nR b)) args s 0 0 (zA nR b)) (F0 m 57 ls []) := by
          intro  H locs ls h hS hS0 hl
          have h := B18 h
          refine lv_aload_n hx hb dX12_keep_57 rfl (lv_at hl 0 rfl) ?_
          refine w_getr (j2 := 20) hx hb hts (z_memU u12) hown hK.1 hS f12_30 (by decide) (zkd_of (rfl : zcd wR 0 = 50) rfl) (zrf_of (rfl : zcd wR 0 = 50) rfl) (Or.inl (hts _ (z_mem k974))) dX12_keep_58 ?_
          refine lv_aload_n hx hb dX12_keep_61 rfl (lv_at hl 0 rfl) ?_
          refine w_geti hx hb hts (z_memU u12) hown hK.1 hS f12_32 (by decide) (zkd_of (rfl : zcd wR 0 = 50) rfl) (Or.inl (hts _ (z_mem k976))) dX12_keep_62 ?_
          refine lv_iload_n hx hb dX12_keep_65 rfl (lv_at hl 1 rfl) ?_
          obtain ⟨o19, h⟩ := h
          refine w_iast (z := a0) (n := 16) (i := (sI (M1 0 32))) hx hb hK.1 (t0 := 0) rfl hS hS0 (by decide) (zkd_of (rfl : zcd wR 20 = 70) rfl) (zln_of (rfl : zcd wR 20 = 70) rfl) rfl o19.1 o19.2 (by decide) dX12_keep_66 (fun H locs hS hS0 => ?_)
          obtain ⟨M20, e21⟩ : ∃ M20 : zM, M20 = zup M1 20 (sI (M1 0 32)).toNat a0 := ⟨_, rfl⟩
          rw [← e21] at hS
          have h := h M20 e21
          refine lv_aload_n hx hb dX12_keep_67 rfl (lv_at hl 0 rfl) ?_
          refine w_getr (j2 := 21) hx hb hts (z_memU u12) hown hK.1 hS f12_31 (by decide) (zkd_of (rfl : zcd wR 0 = 50) rfl) (zrf_of (rfl : zcd wR 0 = 50) rfl) (Or.inl (hts _ (z_mem k975))) dX12_keep_68 ?_
          refine lv_aload_n hx hb dX12_keep_71 rfl (lv_at hl 0 rfl) ?_
          refine w_geti hx hb hts (z_memU u12) hown hK.1 hS f12_32 (by decide) (zkd_of (rfl : zcd wR 0 = 50) rfl) (Or.inl (hts _ (z_mem k976))) dX12_keep_72 ?_
          refine lv_iload_n hx hb dX12_keep_75 rfl (lv_at hl 2 rfl) ?_
          obtain ⟨o22, h⟩ := h
          refine w_iast (z := a1) (n := 16) (i := (sI (M20 0 32))) hx hb hK.1 (t0 := 0) rfl hS hS0 (by decide) (zkd_of (rfl : zcd wR 21 = 71) rfl) (zln_of (rfl : zcd wR 21 = 71) rfl) rfl o22.1 o22.2 (by decide) dX12_keep_76 (fun H locs hS hS0 => ?_)
          obtain ⟨M23, e24⟩ : ∃ M23 : zM, M23 = zup M20 21 (sI (M20 0 32)).toNat a1 := ⟨_, rfl⟩
          rw [← e24] at hS
          have h := h M23 e24
          refine lv_aload_n hx hb dX12_keep_77 rfl (lv_at hl 0 rfl) ?_
          refine w_getr (j2 := 19) hx hb hts (z_memU u12) hown hK.1 hS f12_29 (by decide) (zkd_of (rfl : zcd wR 0 = 50) rfl) (zrf_of (rfl : zcd wR 0 = 50) rfl) (Or.inl (hts _ (z_mem k973))) dX12_keep_78 ?_
          refine lv_aload_n hx hb dX12_keep_81 rfl (lv_at hl 0 rfl) ?_
          refine w_geti hx hb hts (z_memU u12) hown hK.1 hS f12_32 (by decide) (zkd_of (rfl : zcd wR 0 = 50) rfl) (Or.inl (hts _ (z_mem k976))) dX12_keep_82 ?_
          refine lv_aload_n hx hb dX12_keep_85 rfl (lv_at hl 0 rfl) ?_
          refine w_getr (j2 := 4) hx hb hts (z_memU u12) hown hK.1 hS f12_5 (by decide) (zkd_of (rfl : zcd wR 0 = 50) rfl) (zrf_of (rfl : zcd wR 0 = 50) rfl) (Or.inl (hts _ (z_mem k949))) dX12_keep_86 ?_
          refine lv_iload_n hx hb dX12_keep_89 rfl (lv_at hl 1 rfl) ?_
          obtain ⟨o25, h⟩ := h
          refine w_iald (n := 4) (i := (sI a0)) hx hb hK.1 (t0 := 0) rfl hS (by decide) (zkd_of (rfl : zcd wR 4 = 54) rfl) (zln_of (rfl : zcd wR 4 = 54) rfl) rfl o25.1 o25.2 (by decide) dX12_keep_90 ?_
          obtain ⟨o26, h⟩ := h
          refine w_iast (z := (M23 4 (sI a0).toNat)) (n := 16) (i := (sI (M23 0 32))) hx hb hK.1 (t0 := 0) rfl hS hS0 (by decide) (zkd_of (rfl : zcd wR 19 = 69) rfl) (zln_of (rfl : zcd wR 19 = 69) rfl) rfl o26.1 o26.2 (by decide) dX12_keep_91 (fun H locs hS hS0 => ?_)
          obtain ⟨M27, e28⟩ : ∃ M27 : zM, M27 = zup M23 19 (sI (M23 0 32)).toNat (M23 4 (sI a0).toNat) := ⟨_, rfl⟩
          rw [← e28] at hS
          have h := h M27 e28
          refine z_iconst hx hb dX12_keep_92 ?_
          refine lv_istore_n (lv' := [(3, .int (iI 0)), (0, .ref (b + 0)), (1, .int (iI a0)), (2, .int (iI a1))]) hx hb dX12_keep_93 rfl hl (by decide) rfl (fun ls hl => ?_)
          obtain ⟨I31, ⟨n32, h33⟩, h34⟩ := h
          have L35 : ∀ (n36 : Nat) (x29 : Int) (M30 : zM) (H : Heap) (locs : List Loc) (ls : Array Slot), I31 n36 x29 M30 → zR D dA vwCl wR nR b M30 H → va_S (zA nR b) s.heap H locs → lv_has ls 4 [(0, .ref (b + 0)), (1, .int (iI a0)), (3, .int (iI x29))] → W p l e (headSpec (.code yX12_keep cX12_keep 4 (some .int) :: zt) (z_rm 2)).room s m args below meth c H locs 0 0 (MQ below (va_Qi (wQi Q) (zB D dA vwCl wR nR b) (zA nR b)) args s 0 0 (zA nR b)) (F0 m 94 ls []) := by
            intro n36
            induction n36 using Nat.strongRecOn with
            | ind n36 i37 =>
              intro x29 M30 H locs ls h hS hS0 hl
              have h := h34 n36 x29 M30 h
              refine lv_iload_n hx hb dX12_keep_94 rfl (lv_at hl 2 rfl) ?_
              refine lv_aload_n hx hb dX12_keep_95 rfl (lv_at hl 0 rfl) ?_
              refine w_getr (j2 := 4) hx hb hts (z_memU u12) hown hK.1 hS f12_5 (by decide) (zkd_of (rfl : zcd wR 0 = 50) rfl) (zrf_of (rfl : zcd wR 0 = 50) rfl) (Or.inl (hts _ (z_mem k949))) dX12_keep_96 ?_
              refine lv_iload_n hx hb dX12_keep_99 rfl (lv_at hl 1 rfl) ?_
              obtain ⟨o38, h⟩ := h
              refine w_iald (n := 4) (i := (sI a0)) hx hb hK.1 (t0 := 0) rfl hS (by decide) (zkd_of (rfl : zcd wR 4 = 54) rfl) (zln_of (rfl : zcd wR 4 = 54) rfl) rfl o38.1 o38.2 (by decide) dX12_keep_100 ?_
              refine w_icmp_ge (tgt := 135) hx hb rfl rfl dX12_keep_101 (by decide) (fun c39 => ?_) (fun c39 => ?_)
              · skip
                have h := h.1 c39
                refine lv_aload_n hx hb dX12_keep_135 rfl (lv_at hl 0 rfl) ?_
                refine lv_dup hx hb dX12_keep_136 rfl ?_
                refine w_geti hx hb hts (z_memU u12) hown hK.1 hS f12_32 (by decide) (zkd_of (rfl : zcd wR 0 = 50) rfl) (Or.inl (hts _ (z_mem k976))) dX12_keep_137 ?_
                refine z_iconst hx hb dX12_keep_140 ?_
                refine z_iadd hx hb dX12_keep_141 ?_
                refine w_puti hx hb hts (z_memU u12) tyX12 tyX12_ok nmX12 hown hK.1 hS hS0 f12_32 (by decide) (zkd_of (rfl : zcd wR 0 = 50) rfl) (Or.inl (hts _ (z_mem k976))) rfl (z := ((M30 0 32) + 1)) (by decide +kernel) dX12_keep_142 (fun H locs hS hS0 => ?_)
                obtain ⟨M40, e41⟩ : ∃ M40 : zM, M40 = zup M30 0 32 ((M30 0 32) + 1) := ⟨_, rfl⟩
                rw [← e41] at hS
                have h := h M40 e41
                refine lv_aload_n hx hb dX12_keep_145 rfl (lv_at hl 0 rfl) ?_
                refine w_geti hx hb hts (z_memU u12) hown hK.1 hS f12_32 (by decide) (zkd_of (rfl : zcd wR 0 = 50) rfl) (Or.inl (hts _ (z_mem k976))) dX12_keep_146 ?_
                refine z_iconst hx hb dX12_keep_149 ?_
                refine z_isub hx hb dX12_keep_150 ?_
                exact w_iret hx hb hr hlocks hS hS0 rfl h dX12_keep_151
              · skip
                have h := h.2 c39
                refine lv_aload_n hx hb dX12_keep_104 rfl (lv_at hl 0 rfl) ?_
                refine w_getr (j2 := 18) hx hb hts (z_memU u12) hown hK.1 hS f12_28 (by decide) (zkd_of (rfl : zcd wR 0 = 50) rfl) (zrf_of (rfl : zcd wR 0 = 50) rfl) (Or.inl (hts _ (z_mem k972))) dX12_keep_105 ?_
                refine z_bipush hx hb (by decide) dX12_keep_108 ?_
                refine lv_aload_n hx hb dX12_keep_110 rfl (lv_at hl 0 rfl) ?_
                refine w_geti hx hb hts (z_memU u12) hown hK.1 hS f12_32 (by decide) (zkd_of (rfl : zcd wR 0 = 50) rfl) (Or.inl (hts _ (z_mem k976))) dX12_keep_111 ?_
                refine z_imul hx hb dX12_keep_114 ?_
                refine lv_iload_n hx hb dX12_keep_115 rfl (lv_at hl 2 rfl) ?_
                refine z_iadd hx hb dX12_keep_116 ?_
                refine lv_aload_n hx hb dX12_keep_117 rfl (lv_at hl 0 rfl) ?_
                refine w_getr (j2 := 3) hx hb hts (z_memU u12) hown hK.1 hS f12_4 (by decide) (zkd_of (rfl : zcd wR 0 = 50) rfl) (zrf_of (rfl : zcd wR 0 = 50) rfl) (Or.inl (hts _ (z_mem k948))) dX12_keep_118 ?_
                refine z_bipush hx hb (by decide) dX12_keep_121 ?_
                refine lv_iload_n hx hb dX12_keep_123 rfl (lv_at hl 1 rfl) ?_
                refine z_imul hx hb dX12_keep_124 ?_
                refine lv_iload_n hx hb dX12_keep_125 rfl (lv_at hl 2 rfl) ?_
                refine z_iadd hx hb dX12_keep_126 ?_
                obtain ⟨o42, h⟩ := h
                refine w_iald (n := 96) (i := (sI ((24 * a0) + x29))) hx hb hK.1 (t0 := 0) rfl hS (by decide) (zkd_of (rfl : zcd wR 3 = 53) rfl) (zln_of (rfl : zcd wR 3 = 53) rfl) rfl o42.1 o42.2 (by decide) dX12_keep_127 ?_
                obtain ⟨o43, h⟩ := h
                refine w_iast (z := (M30 3 (sI ((24 * a0) + x29)).toNat)) (n := 384) (i := (sI ((24 * (M30 0 32)) + x29))) hx hb hK.1 (t0 := 0) rfl hS hS0 (by decide) (zkd_of (rfl : zcd wR 18 = 68) rfl) (zln_of (rfl : zcd wR 18 = 68) rfl) rfl o43.1 o43.2 (by decide) dX12_keep_128 (fun H locs hS hS0 => ?_)
                obtain ⟨M44, e45⟩ : ∃ M44 : zM, M44 = zup M30 18 (sI ((24 * (M30 0 32)) + x29)).toNat (M30 3 (sI ((24 * a0) + x29)).toNat) := ⟨_, rfl⟩
                rw [← e45] at hS
                have h := h M44 e45
                refine z_iinc (lv' := [(3, .int (iI (x29 + 1))), (0, .ref (b + 0)), (1, .int (iI a0))]) hx hb dX12_keep_129 hl (k := 2) rfl (by decide) rfl (fun ls hl => ?_)
                refine lv_goto (tgt := 94) hx hb dX12_keep_132 (by decide) ?_
                obtain ⟨n46, h47, h⟩ := h
                exact i37 n46 h47 (x29 + 1) M44 _ _ _ h hS hS0 (lv_sub hl [1, 2, 0] rfl)
          exact L35 n32 0 M27 _ _ _ h33 hS hS0 (lv_sub hl [1, 2, 0] rfl)
        refine w_if_le (tgt := 57) hx hb rfl dX12_keep_37 (by decide) (fun c48 => ?_) (fun c48 => ?_)
        · skip
          have h := h.1 c48
          exact L17 _ _ _ h hS hS0 (lv_sub hl [0, 1, 2] rfl)
        · skip
          have h := h.2 c48
          refine lv_iload_n hx hb dX12_keep_40 rfl (lv_at hl 2 rfl) ?_
          refine lv_aload_n hx hb dX12_keep_41 rfl (lv_at hl 0 rfl) ?_
          refine w_getr (j2 := 21) hx hb hts (z_memU u12) hown hK.1 hS f12_31 (by decide) (zkd_of (rfl : zcd wR 0 = 50) rfl) (zrf_of (rfl : zcd wR 0 = 50) rfl) (Or.inl (hts _ (z_mem k975))) dX12_keep_42 ?_
          refine lv_aload_n hx hb dX12_keep_45 rfl (lv_at hl 0 rfl) ?_
          refine w_geti hx hb hts (z_memU u12) hown hK.1 hS f12_32 (by decide) (zkd_of (rfl : zcd wR 0 = 50) rfl) (Or.inl (hts _ (z_mem k976))) dX12_keep_46 ?_
          refine z_iconst hx hb dX12_keep_49 ?_
          refine z_isub hx hb dX12_keep_50 ?_
          obtain ⟨o49, h⟩ := h
          refine w_iald (n := 16) (i := (sI ((M1 0 32) - 1))) hx hb hK.1 (t0 := 0) rfl hS (by decide) (zkd_of (rfl : zcd wR 21 = 71) rfl) (zln_of (rfl : zcd wR 21 = 71) rfl) rfl o49.1 o49.2 (by decide) dX12_keep_51 ?_
          refine w_icmp_ge (tgt := 57) hx hb rfl rfl dX12_keep_52 (by decide) (fun c50 => ?_) (fun c50 => ?_)
          · skip
            have h := h.1 c50
            exact L17 _ _ _ h hS hS0 (lv_sub hl [0, 1, 2] rfl)
          · skip
            have h := h.2 c50
            refine z_iconst hx hb dX12_keep_55 ?_
            exact w_iret hx hb hr hlocks hS hS0 (sI_of (by decide)) h dX12_keep_56

set_option maxRecDepth 100000 in
def wR_known (a0 : Int) (a1 : Int) (M : zM) (Q : Int → zM → Prop) : Prop := (∀ M1 : zM, M1 = zup M 0 35 0 → pL1 (fun K12 x3 => ((sI x3) < 0 → Q (-1) M1) ∧ (0 ≤ (sI x3) → ((0 ≤ (sI x3) ∧ (sI x3) < 16) ∧ ((sI (M1 20 (sI x3).toNat)) ≠ (sI a0) → K12 (x3 + (-1))) ∧ ((sI (M1 20 (sI x3).toNat)) = (sI a0) → ((0 ≤ (sI x3) ∧ (sI x3) < 16) ∧ ((sI a1) < (sI (M1 21 (sI x3).toNat)) → K12 (x3 + (-1))) ∧ ((sI (M1 21 (sI x3).toNat)) ≤ (sI a1) → Q (sI x3) M1)))))) ((M1 0 32) - 1))
set_option maxHeartbeats 4000000 in
set_option maxRecDepth 100000 in
theorem cR_known (l : Launch) (D : va_G) (dA : Nat → ClassId) (b : Nat) (M : zM) (a0 : Int) (a1 : Int)  (Q : Int → zM → Prop) (h : wR_known a0 a1 M Q) : Met l yX12_known (.code yX12_known cX12_known 4 (some .int) :: zt) (z_rm 0) (va_Pc [.ref (b + 0), .int (iI a0), .int (iI a1)] (wPre D dA vwCl (z_tys dA) wR nR b M)) (va_Qi (wQi Q) (zB D dA vwCl wR nR b) (zA nR b)) 0 0 (zA nR b) := by
  unfold wR_known at h
  refine Met.ofW (cc := cX12_known) (maxL := 4) (ret := (some .int)) (by decide) rfl ?_
  intro p e s m args below meth c s₁ B hml hv
  obtain ⟨hargs, hS, hK⟩ := hv
  have hx := B.exec
  have hb := B.bytes
  have hr := B.returns
  have hts := atoms_spec (ws := .code yX12_known cX12_known 4 (some .int) :: zt) B.pre
  have hown : s.vm.findClass RX12 = some m.cls := findClass_of_methodNamed B.named
  have hlocks := B.notSynchronized
  have hS0 : va_S (zA nR b) s.heap s.heap [] := va_S.rf
  have hl := lv_entry ([.ref (b + 0), .int (iI a0), .int (iI a1)]) (n := 4) (Nat.le_of_ble_eq_true rfl)
  have hent : entryFrame m args 4 = F0 m 0 ((lg_sl ([.ref (b + 0), .int (iI a0), .int (iI a1)]) ++ List.replicate (4 - (lg_sl ([.ref (b + 0), .int (iI a0), .int (iI a1)])).length) Slot.unset).toArray) [] := by rw [hargs]; exact lg_entry_eq m ([.ref (b + 0), .int (iI a0), .int (iI a1)]) 4
  rw [hent]
  generalize (lg_sl ([.ref (b + 0), .int (iI a0), .int (iI a1)]) ++ List.replicate (4 - (lg_sl ([.ref (b + 0), .int (iI a0), .int (iI a1)])).length) Slot.unset).toArray = ls at hl ⊢
  have hl : lv_has ls 4 [(0, .ref (b + 0)), (1, .int (iI a0)), (2, .int (iI a1))] := hl
  refine lv_aload_n hx hb dX12_known_0 rfl (lv_at hl 0 rfl) ?_
  refine z_iconst hx hb dX12_known_1 ?_
  refine w_puti hx hb hts (z_memU u12) tyX12 tyX12_ok nmX12 hown hK.1 hS hS0 f12_35 (by decide) (zkd_of (rfl : zcd wR 0 = 50) rfl) (Or.inl (hts _ (z_mem k979))) rfl (z := 0) (by decide +kernel) dX12_known_2 (fun H locs hS hS0 => ?_)
  obtain ⟨M1, e2⟩ : ∃ M1 : zM, M1 = zup M 0 35 0 := ⟨_, rfl⟩
  rw [← e2] at hS
  have h := h M1 e2
  refine lv_aload_n hx hb dX12_known_5 rfl (lv_at hl 0 rfl) ?_
  refine w_geti hx hb hts (z_memU u12) hown hK.1 hS f12_32 (by decide) (zkd_of (rfl : zcd wR 0 = 50) rfl) (Or.inl (hts _ (z_mem k976))) dX12_known_6 ?_
  refine z_iconst hx hb dX12_known_9 ?_
  refine z_isub hx hb dX12_known_10 ?_
  refine lv_istore_n (lv' := [(3, .int (iI ((M1 0 32) - 1))), (0, .ref (b + 0)), (1, .int (iI a0)), (2, .int (iI a1))]) hx hb dX12_known_11 rfl hl (by decide) rfl (fun ls hl => ?_)
  obtain ⟨I4, ⟨n5, h6⟩, h7⟩ := h
  have L8 : ∀ (n9 : Nat) (x3 : Int) (H : Heap) (locs : List Loc) (ls : Array Slot), I4 n9 x3 → zR D dA vwCl wR nR b M1 H → va_S (zA nR b) s.heap H locs → lv_has ls 4 [(0, .ref (b + 0)), (1, .int (iI a0)), (2, .int (iI a1)), (3, .int (iI x3))] → W p l e (headSpec (.code yX12_known cX12_known 4 (some .int) :: zt) (z_rm 0)).room s m args below meth c H locs 0 0 (MQ below (va_Qi (wQi Q) (zB D dA vwCl wR nR b) (zA nR b)) args s 0 0 (zA nR b)) (F0 m 12 ls []) := by
    intro n9
    induction n9 using Nat.strongRecOn with
    | ind n9 i10 =>
      intro x3 H locs ls h hS hS0 hl
      have h := h7 n9 x3 h
      refine lv_iload_n hx hb dX12_known_12 rfl (lv_at hl 3 rfl) ?_
      refine w_if_lt (tgt := 44) hx hb rfl dX12_known_13 (by decide) (fun c11 => ?_) (fun c11 => ?_)
      · skip
        have h := h.1 c11
        refine z_iconst hx hb dX12_known_44 ?_
        exact w_iret hx hb hr hlocks hS hS0 (sI_of (by decide)) h dX12_known_45
      · skip
        have h := h.2 c11
        refine lv_aload_n hx hb dX12_known_16 rfl (lv_at hl 0 rfl) ?_
        refine w_getr (j2 := 20) hx hb hts (z_memU u12) hown hK.1 hS f12_30 (by decide) (zkd_of (rfl : zcd wR 0 = 50) rfl) (zrf_of (rfl : zcd wR 0 = 50) rfl) (Or.inl (hts _ (z_mem k974))) dX12_known_17 ?_
        refine lv_iload_n hx hb dX12_known_20 rfl (lv_at hl 3 rfl) ?_
        obtain ⟨o12, h⟩ := h
        refine w_iald (n := 16) (i := (sI x3)) hx hb hK.1 (t0 := 0) rfl hS (by decide) (zkd_of (rfl : zcd wR 20 = 70) rfl) (zln_of (rfl : zcd wR 20 = 70) rfl) rfl o12.1 o12.2 (by decide) dX12_known_21 ?_
        refine lv_iload_n hx hb dX12_known_22 rfl (lv_at hl 1 rfl) ?_
        refine w_icmp_ne (tgt := 38) hx hb rfl rfl dX12_known_23 (by decide) (fun c13 => ?_) (fun c13 => ?_)
        · skip
          have h := h.1 c13
          refine z_iinc (lv' := [(3, .int (iI (x3 + (-1)))), (0, .ref (b + 0)), (1, .int (iI a0)), (2, .int (iI a1))]) hx hb dX12_known_38 hl (k := 3) rfl (by decide) rfl (fun ls hl => ?_)
          refine lv_goto (tgt := 12) hx hb dX12_known_41 (by decide) ?_
          obtain ⟨n14, h15, h⟩ := h
          exact i10 n14 h15 (x3 + (-1)) _ _ _ h hS hS0 (lv_sub hl [1, 2, 3, 0] rfl)
        · skip
          have h := h.2 c13
          refine lv_aload_n hx hb dX12_known_26 rfl (lv_at hl 0 rfl) ?_
          refine w_getr (j2 := 21) hx hb hts (z_memU u12) hown hK.1 hS f12_31 (by decide) (zkd_of (rfl : zcd wR 0 = 50) rfl) (zrf_of (rfl : zcd wR 0 = 50) rfl) (Or.inl (hts _ (z_mem k975))) dX12_known_27 ?_
          refine lv_iload_n hx hb dX12_known_30 rfl (lv_at hl 3 rfl) ?_
          obtain ⟨o16, h⟩ := h
          refine w_iald (n := 16) (i := (sI x3)) hx hb hK.1 (t0 := 0) rfl hS (by decide) (zkd_of (rfl : zcd wR 21 = 71) rfl) (zln_of (rfl : zcd wR 21 = 71) rfl) rfl o16.1 o16.2 (by decide) dX12_known_31 ?_
          refine lv_iload_n hx hb dX12_known_32 rfl (lv_at hl 2 rfl) ?_
          refine w_icmp_gt (tgt := 38) hx hb rfl rfl dX12_known_33 (by decide) (fun c17 => ?_) (fun c17 => ?_)
          · skip
            have h := h.1 c17
            refine z_iinc (lv' := [(3, .int (iI (x3 + (-1)))), (0, .ref (b + 0)), (1, .int (iI a0)), (2, .int (iI a1))]) hx hb dX12_known_38 hl (k := 3) rfl (by decide) rfl (fun ls hl => ?_)
            refine lv_goto (tgt := 12) hx hb dX12_known_41 (by decide) ?_
            obtain ⟨n18, h19, h⟩ := h
            exact i10 n18 h19 (x3 + (-1)) _ _ _ h hS hS0 (lv_sub hl [1, 2, 3, 0] rfl)
          · skip
            have h := h.2 c17
            refine lv_iload_n hx hb dX12_known_36 rfl (lv_at hl 3 rfl) ?_
            exact w_iret hx hb hr hlocks hS hS0 rfl h dX12_known_37
  exact L8 n5 ((M1 0 32) - 1) _ _ _ h6 hS hS0 (lv_sub hl [1, 2, 3, 0] rfl)

set_option maxRecDepth 100000 in
def wR_fetch (a0 : Int) (M : zM) (Q : Int → zM → Prop) : Prop := (∀ M1 : zM, M1 = zup M 0 35 0 → wR_in a0 0 ((M1 0 32) - 1) M1 (fun z4 => (z4 ≠ 0 → ((0 ≤ (sI a0) ∧ (sI a0) < 16) ∧ (∀ M9 : zM, M9 = zup M1 0 3 (M1 19 (sI a0).toNat) → wL1 (fun K33 x11 M12 => ((sI (M12 0 3)) ≤ (sI x11) → Q (sI (M12 0 3)) M12) ∧ ((sI x11) < (sI (M12 0 3)) → ((0 ≤ (sI ((24 * a0) + x11)) ∧ (sI ((24 * a0) + x11)) < 384) ∧ ((0 ≤ (sI x11) ∧ (sI x11) < 24) ∧ (∀ M23 : zM, M23 = zup M12 2 (sI x11).toNat (M12 18 (sI ((24 * a0) + x11)).toNat) → K33 (x11 + 1) M23))))) 0 M9))) ∧ (z4 = 0 → Q (-1) M1)))
set_option maxHeartbeats 4000000 in
set_option maxRecDepth 100000 in
theorem cR_fetch (l : Launch) (D : va_G) (dA : Nat → ClassId) (b : Nat) (M : zM) (a0 : Int)  (Q : Int → zM → Prop) (h : wR_fetch a0 M Q) : Met l yX12_fetch (.code yX12_fetch cX12_fetch 3 (some .int) :: zt) (z_rm 1) (va_Pc [.ref (b + 0), .int (iI a0)] (wPre D dA vwCl (z_tys dA) wR nR b M)) (va_Qi (wQi Q) (zB D dA vwCl wR nR b) (zA nR b)) 0 0 (zA nR b) := by
  unfold wR_fetch at h
  refine Met.ofW (cc := cX12_fetch) (maxL := 3) (ret := (some .int)) (by decide) rfl ?_
  intro p e s m args below meth c s₁ B hml hv
  obtain ⟨hargs, hS, hK⟩ := hv
  have hx := B.exec
  have hb := B.bytes
  have hr := B.returns
  have hts := atoms_spec (ws := .code yX12_fetch cX12_fetch 3 (some .int) :: zt) B.pre
  have hown : s.vm.findClass RX12 = some m.cls := findClass_of_methodNamed B.named
  have hlocks := B.notSynchronized
  have hS0 : va_S (zA nR b) s.heap s.heap [] := va_S.rf
  have hl := lv_entry ([.ref (b + 0), .int (iI a0)]) (n := 3) (Nat.le_of_ble_eq_true rfl)
  have hent : entryFrame m args 3 = F0 m 0 ((lg_sl ([.ref (b + 0), .int (iI a0)]) ++ List.replicate (3 - (lg_sl ([.ref (b + 0), .int (iI a0)])).length) Slot.unset).toArray) [] := by rw [hargs]; exact lg_entry_eq m ([.ref (b + 0), .int (iI a0)]) 3
  rw [hent]
  generalize (lg_sl ([.ref (b + 0), .int (iI a0)]) ++ List.replicate (3 - (lg_sl ([.ref (b + 0), .int (iI a0)])).length) Slot.unset).toArray = ls at hl ⊢
  have hl : lv_has ls 3 [(0, .ref (b + 0)), (1, .int (iI a0))] := hl
  refine lv_aload_n hx hb dX12_fetch_0 rfl (lv_at hl 0 rfl) ?_
  refine z_iconst hx hb dX12_fetch_1 ?_
  refine w_puti hx hb hts (z_memU u12) tyX12 tyX12_ok nmX12 hown hK.1 hS hS0 f12_35 (by decide) (zkd_of (rfl : zcd wR 0 = 50) rfl) (Or.inl (hts _ (z_mem k979))) rfl (z := 0) (by decide +kernel) dX12_fetch_2 (fun H locs hS hS0 => ?_)
  obtain ⟨M1, e2⟩ : ∃ M1 : zM, M1 = zup M 0 35 0 := ⟨_, rfl⟩
  rw [← e2] at hS
  have h := h M1 e2
  refine lv_iload_n hx hb dX12_fetch_5 rfl (lv_at hl 1 rfl) ?_
  refine z_iconst hx hb dX12_fetch_6 ?_
  refine lv_aload_n hx hb dX12_fetch_7 rfl (lv_at hl 0 rfl) ?_
  refine w_geti hx hb hts (z_memU u12) hown hK.1 hS f12_32 (by decide) (zkd_of (rfl : zcd wR 0 = 50) rfl) (Or.inl (hts _ (z_mem k976))) dX12_fetch_8 ?_
  refine z_iconst hx hb dX12_fetch_11 ?_
  refine z_isub hx hb dX12_fetch_12 ?_
  refine w_callz (va_runS (As := [.int (iI a0), .int (iI 0), .int (iI ((M1 0 32) - 1))]) (rest := []) ⟨hx, hb, hml, hown, hts⟩ (cR_in l D dA b M1 a0 0 ((M1 0 32) - 1) _ h) (va_cwS 3 hts (z_gS k1083 k1084 k14 k1085) rfl rfl rfl dm_X12_in.2 ⟨Nat.le_of_ble_eq_true rfl, Nat.le_of_ble_eq_true rfl⟩) ⟨wPre_blind, w_pre hS hK⟩ rfl rfl hl.1 rfl (lv_room (Nat.le_of_ble_eq_true rfl)) dX12_fetch_13 ⟨Nat.le_refl _, Nat.le_refl _⟩) hS0 (fun z4 M3 H locs r5 h hS hS0 => ?_)
  obtain ⟨e6, h⟩ := h
  rw [e6] at hS
  refine w_if_ne (tgt := 21) hx hb (sI_01 r5) dX12_fetch_16 (by decide) (fun c7 => ?_) (fun c7 => ?_)
  · skip
    have h := h.1 c7
    refine lv_aload_n hx hb dX12_fetch_21 rfl (lv_at hl 0 rfl) ?_
    refine lv_aload_n hx hb dX12_fetch_22 rfl (lv_at hl 0 rfl) ?_
    refine w_getr (j2 := 19) hx hb hts (z_memU u12) hown hK.1 hS f12_29 (by decide) (zkd_of (rfl : zcd wR 0 = 50) rfl) (zrf_of (rfl : zcd wR 0 = 50) rfl) (Or.inl (hts _ (z_mem k973))) dX12_fetch_23 ?_
    refine lv_iload_n hx hb dX12_fetch_26 rfl (lv_at hl 1 rfl) ?_
    obtain ⟨o8, h⟩ := h
    refine w_iald (n := 16) (i := (sI a0)) hx hb hK.1 (t0 := 0) rfl hS (by decide) (zkd_of (rfl : zcd wR 19 = 69) rfl) (zln_of (rfl : zcd wR 19 = 69) rfl) rfl o8.1 o8.2 (by decide) dX12_fetch_27 ?_
    refine w_puti hx hb hts (z_memU u12) tyX12 tyX12_ok nmX12 hown hK.1 hS hS0 f12_3 (by decide) (zkd_of (rfl : zcd wR 0 = 50) rfl) (Or.inl (hts _ (z_mem k947))) rfl (z := (M1 19 (sI a0).toNat)) (by decide +kernel) dX12_fetch_28 (fun H locs hS hS0 => ?_)
    obtain ⟨M9, e10⟩ : ∃ M9 : zM, M9 = zup M1 0 3 (M1 19 (sI a0).toNat) := ⟨_, rfl⟩
    rw [← e10] at hS
    have h := h M9 e10
    refine z_iconst hx hb dX12_fetch_31 ?_
    refine lv_istore_n (lv' := [(2, .int (iI 0)), (0, .ref (b + 0)), (1, .int (iI a0))]) hx hb dX12_fetch_32 rfl hl (by decide) rfl (fun ls hl => ?_)
    obtain ⟨I13, ⟨n14, h15⟩, h16⟩ := h
    have L17 : ∀ (n18 : Nat) (x11 : Int) (M12 : zM) (H : Heap) (locs : List Loc) (ls : Array Slot), I13 n18 x11 M12 → zR D dA vwCl wR nR b M12 H → va_S (zA nR b) s.heap H locs → lv_has ls 3 [(0, .ref (b + 0)), (1, .int (iI a0)), (2, .int (iI x11))] → W p l e (headSpec (.code yX12_fetch cX12_fetch 3 (some .int) :: zt) (z_rm 1)).room s m args below meth c H locs 0 0 (MQ below (va_Qi (wQi Q) (zB D dA vwCl wR nR b) (zA nR b)) args s 0 0 (zA nR b)) (F0 m 33 ls []) := by
      intro n18
      induction n18 using Nat.strongRecOn with
      | ind n18 i19 =>
        intro x11 M12 H locs ls h hS hS0 hl
        have h := h16 n18 x11 M12 h
        refine lv_iload_n hx hb dX12_fetch_33 rfl (lv_at hl 2 rfl) ?_
        refine lv_aload_n hx hb dX12_fetch_34 rfl (lv_at hl 0 rfl) ?_
        refine w_geti hx hb hts (z_memU u12) hown hK.1 hS f12_3 (by decide) (zkd_of (rfl : zcd wR 0 = 50) rfl) (Or.inl (hts _ (z_mem k947))) dX12_fetch_35 ?_
        refine w_icmp_ge (tgt := 64) hx hb rfl rfl dX12_fetch_38 (by decide) (fun c20 => ?_) (fun c20 => ?_)
        · skip
          have h := h.1 c20
          refine lv_aload_n hx hb dX12_fetch_64 rfl (lv_at hl 0 rfl) ?_
          refine w_geti hx hb hts (z_memU u12) hown hK.1 hS f12_3 (by decide) (zkd_of (rfl : zcd wR 0 = 50) rfl) (Or.inl (hts _ (z_mem k947))) dX12_fetch_65 ?_
          exact w_iret hx hb hr hlocks hS hS0 rfl h dX12_fetch_68
        · skip
          have h := h.2 c20
          refine lv_aload_n hx hb dX12_fetch_41 rfl (lv_at hl 0 rfl) ?_
          refine w_getr (j2 := 2) hx hb hts (z_memU u12) hown hK.1 hS f12_2 (by decide) (zkd_of (rfl : zcd wR 0 = 50) rfl) (zrf_of (rfl : zcd wR 0 = 50) rfl) (Or.inl (hts _ (z_mem k946))) dX12_fetch_42 ?_
          refine lv_iload_n hx hb dX12_fetch_45 rfl (lv_at hl 2 rfl) ?_
          refine lv_aload_n hx hb dX12_fetch_46 rfl (lv_at hl 0 rfl) ?_
          refine w_getr (j2 := 18) hx hb hts (z_memU u12) hown hK.1 hS f12_28 (by decide) (zkd_of (rfl : zcd wR 0 = 50) rfl) (zrf_of (rfl : zcd wR 0 = 50) rfl) (Or.inl (hts _ (z_mem k972))) dX12_fetch_47 ?_
          refine z_bipush hx hb (by decide) dX12_fetch_50 ?_
          refine lv_iload_n hx hb dX12_fetch_52 rfl (lv_at hl 1 rfl) ?_
          refine z_imul hx hb dX12_fetch_53 ?_
          refine lv_iload_n hx hb dX12_fetch_54 rfl (lv_at hl 2 rfl) ?_
          refine z_iadd hx hb dX12_fetch_55 ?_
          obtain ⟨o21, h⟩ := h
          refine w_iald (n := 384) (i := (sI ((24 * a0) + x11))) hx hb hK.1 (t0 := 0) rfl hS (by decide) (zkd_of (rfl : zcd wR 18 = 68) rfl) (zln_of (rfl : zcd wR 18 = 68) rfl) rfl o21.1 o21.2 (by decide) dX12_fetch_56 ?_
          obtain ⟨o22, h⟩ := h
          refine w_iast (z := (M12 18 (sI ((24 * a0) + x11)).toNat)) (n := 24) (i := (sI x11)) hx hb hK.1 (t0 := 0) rfl hS hS0 (by decide) (zkd_of (rfl : zcd wR 2 = 52) rfl) (zln_of (rfl : zcd wR 2 = 52) rfl) rfl o22.1 o22.2 (by decide) dX12_fetch_57 (fun H locs hS hS0 => ?_)
          obtain ⟨M23, e24⟩ : ∃ M23 : zM, M23 = zup M12 2 (sI x11).toNat (M12 18 (sI ((24 * a0) + x11)).toNat) := ⟨_, rfl⟩
          rw [← e24] at hS
          have h := h M23 e24
          refine z_iinc (lv' := [(2, .int (iI (x11 + 1))), (0, .ref (b + 0)), (1, .int (iI a0))]) hx hb dX12_fetch_58 hl (k := 2) rfl (by decide) rfl (fun ls hl => ?_)
          refine lv_goto (tgt := 33) hx hb dX12_fetch_61 (by decide) ?_
          obtain ⟨n25, h26, h⟩ := h
          exact i19 n25 h26 (x11 + 1) M23 _ _ _ h hS hS0 (lv_sub hl [1, 2, 0] rfl)
    exact L17 n14 0 M9 _ _ _ h15 hS hS0 (lv_sub hl [1, 2, 0] rfl)
  · skip
    have h := h.2 c7
    refine z_iconst hx hb dX12_fetch_19 ?_
    exact w_iret hx hb hr hlocks hS hS0 (sI_of (by decide)) h dX12_fetch_20

set_option maxRecDepth 100000 in
def wR_editsBy (a0 : Int) (a1 : Int) (a2 : Int) (M : zM) (Q : Int → zM → Prop) : Prop := ((0 ≤ (sI a0) ∧ (sI a0) < 16) ∧ ((0 ≤ (sI a1) ∧ (sI a1) < 16) ∧ wL1 (fun K23 x3 M4 => ((sI (M 19 (sI a0).toNat)) < (sI x3) → ((0 ≤ (sI ((25 * (M 19 (sI a0).toNat)) + (M 19 (sI a1).toNat))) ∧ (sI ((25 * (M 19 (sI a0).toNat)) + (M 19 (sI a1).toNat))) < 625) ∧ Q (sI (M4 33 (sI ((25 * (M 19 (sI a0).toNat)) + (M 19 (sI a1).toNat))).toNat)) M4)) ∧ ((sI x3) ≤ (sI (M 19 (sI a0).toNat)) → wL1 (fun K33 x14 M15 => ((sI (M 19 (sI a1).toNat)) < (sI x14) → K23 (x3 + 1) M15) ∧ ((sI x14) ≤ (sI (M 19 (sI a1).toNat)) → pJ0 (fun J50 => ((sI x3) = 0 → J50) ∧ ((sI x3) ≠ 0 → ((sI x14) ≠ 0 → ((0 ≤ (sI (((24 * a0) + x3) - 1)) ∧ (sI (((24 * a0) + x3) - 1)) < 384) ∧ (((sI (M 19 (sI a1).toNat)) ≠ 0) ∧ ((0 ≤ (sI ((24 * a1) + ((sI ((x14 - 1) + a2)).tmod (sI (M 19 (sI a1).toNat))))) ∧ (sI ((24 * a1) + ((sI ((x14 - 1) + a2)).tmod (sI (M 19 (sI a1).toNat))))) < 384) ∧ pJ1 (fun J112 => ((sI (M15 18 (sI (((24 * a0) + x3) - 1)).toNat)) ≠ (sI (M15 18 (sI ((24 * a1) + ((sI ((x14 - 1) + a2)).tmod (sI (M 19 (sI a1).toNat))))).toNat)) → J112 0) ∧ ((sI (M15 18 (sI (((24 * a0) + x3) - 1)).toNat)) = (sI (M15 18 (sI ((24 * a1) + ((sI ((x14 - 1) + a2)).tmod (sI (M 19 (sI a1).toNat))))).toNat)) → J112 1)) (fun (x66 : Int) => ((0 ≤ (sI (((25 * (x3 - 1)) + x14) - 1)) ∧ (sI (((25 * (x3 - 1)) + x14) - 1)) < 625) ∧ pJ1 (fun J141 => ((sI x66) = 0 → J141 1) ∧ ((sI x66) ≠ 0 → J141 0)) (fun (x71 : Int) => (∀ t74 : Int, t74 = ((M15 33 (sI (((25 * (x3 - 1)) + x14) - 1)).toNat) + x71) → ((0 ≤ (sI ((25 * (x3 - 1)) + x14)) ∧ (sI ((25 * (x3 - 1)) + x14)) < 625) ∧ (∀ t77 : Int, t77 = (min (sI t74) (sI (1 + (M15 33 (sI ((25 * (x3 - 1)) + x14)).toNat)))) → ((0 ≤ (sI (((25 * x3) + x14) - 1)) ∧ (sI (((25 * x3) + x14) - 1)) < 625) ∧ ((0 ≤ (sI ((25 * x3) + x14)) ∧ (sI ((25 * x3) + x14)) < 625) ∧ (∀ M81 : zM, M81 = zup M15 33 (sI ((25 * x3) + x14)).toNat (min t77 (sI (1 + (M15 33 (sI (((25 * x3) + x14) - 1)).toNat)))) → K33 (x14 + 1) M81))))))))))))) ∧ ((sI x14) = 0 → J50))) (((0 ≤ (sI ((25 * x3) + x14)) ∧ (sI ((25 * x3) + x14)) < 625) ∧ (∀ M56 : zM, M56 = zup M15 33 (sI ((25 * x3) + x14)).toNat (x3 + x14) → K33 (x14 + 1) M56))))) 0 M4)) 0 M))
set_option maxHeartbeats 4000000 in
set_option maxRecDepth 100000 in
theorem cR_editsBy (l : Launch) (D : va_G) (dA : Nat → ClassId) (b : Nat) (M : zM) (a0 : Int) (a1 : Int) (a2 : Int)  (Q : Int → zM → Prop) (h : wR_editsBy a0 a1 a2 M Q) : Met l yX12_editsBy (.code yX12_editsBy cX12_editsBy 11 (some .int) :: zt) (z_rm 1) (va_Pc [.ref (b + 0), .int (iI a0), .int (iI a1), .int (iI a2)] (wPre D dA vwCl (z_tys dA) wR nR b M)) (va_Qi (wQi Q) (zB D dA vwCl wR nR b) (zA nR b)) 0 0 (zA nR b) := by
  unfold wR_editsBy at h
  refine Met.ofW (cc := cX12_editsBy) (maxL := 11) (ret := (some .int)) (by decide) rfl ?_
  intro p e s m args below meth c s₁ B hml hv
  obtain ⟨hargs, hS, hK⟩ := hv
  have hx := B.exec
  have hb := B.bytes
  have hr := B.returns
  have hts := atoms_spec (ws := .code yX12_editsBy cX12_editsBy 11 (some .int) :: zt) B.pre
  have hown : s.vm.findClass RX12 = some m.cls := findClass_of_methodNamed B.named
  have hlocks := B.notSynchronized
  have hS0 : va_S (zA nR b) s.heap s.heap [] := va_S.rf
  have hl := lv_entry ([.ref (b + 0), .int (iI a0), .int (iI a1), .int (iI a2)]) (n := 11) (Nat.le_of_ble_eq_true rfl)
  have hent : entryFrame m args 11 = F0 m 0 ((lg_sl ([.ref (b + 0), .int (iI a0), .int (iI a1), .int (iI a2)]) ++ List.replicate (11 - (lg_sl ([.ref (b + 0), .int (iI a0), .int (iI a1), .int (iI a2)])).length) Slot.unset).toArray) [] := by rw [hargs]; exact lg_entry_eq m ([.ref (b + 0), .int (iI a0), .int (iI a1), .int (iI a2)]) 11
  rw [hent]
  generalize (lg_sl ([.ref (b + 0), .int (iI a0), .int (iI a1), .int (iI a2)]) ++ List.replicate (11 - (lg_sl ([.ref (b + 0), .int (iI a0), .int (iI a1), .int (iI a2)])).length) Slot.unset).toArray = ls at hl ⊢
  have hl : lv_has ls 11 [(0, .ref (b + 0)), (1, .int (iI a0)), (2, .int (iI a1)), (3, .int (iI a2))] := hl
  refine lv_aload_n hx hb dX12_editsBy_0 rfl (lv_at hl 0 rfl) ?_
  refine w_getr (j2 := 19) hx hb hts (z_memU u12) hown hK.1 hS f12_29 (by decide) (zkd_of (rfl : zcd wR 0 = 50) rfl) (zrf_of (rfl : zcd wR 0 = 50) rfl) (Or.inl (hts _ (z_mem k973))) dX12_editsBy_1 ?_
  refine lv_iload_n hx hb dX12_editsBy_4 rfl (lv_at hl 1 rfl) ?_
  obtain ⟨o1, h⟩ := h
  refine w_iald (n := 16) (i := (sI a0)) hx hb hK.1 (t0 := 0) rfl hS (by decide) (zkd_of (rfl : zcd wR 19 = 69) rfl) (zln_of (rfl : zcd wR 19 = 69) rfl) rfl o1.1 o1.2 (by decide) dX12_editsBy_5 ?_
  refine lv_istore (lv' := [(4, .int (iI (M 19 (sI a0).toNat))), (0, .ref (b + 0)), (1, .int (iI a0)), (2, .int (iI a1)), (3, .int (iI a2))]) hx hb dX12_editsBy_6 hl (by decide) rfl (fun ls hl => ?_)
  refine lv_aload_n hx hb dX12_editsBy_8 rfl (lv_at hl 1 rfl) ?_
  refine w_getr (j2 := 19) hx hb hts (z_memU u12) hown hK.1 hS f12_29 (by decide) (zkd_of (rfl : zcd wR 0 = 50) rfl) (zrf_of (rfl : zcd wR 0 = 50) rfl) (Or.inl (hts _ (z_mem k973))) dX12_editsBy_9 ?_
  refine lv_iload_n hx hb dX12_editsBy_12 rfl (lv_at hl 3 rfl) ?_
  obtain ⟨o2, h⟩ := h
  refine w_iald (n := 16) (i := (sI a1)) hx hb hK.1 (t0 := 0) rfl hS (by decide) (zkd_of (rfl : zcd wR 19 = 69) rfl) (zln_of (rfl : zcd wR 19 = 69) rfl) rfl o2.1 o2.2 (by decide) dX12_editsBy_13 ?_
  refine lv_istore (lv' := [(5, .int (iI (M 19 (sI a1).toNat))), (4, .int (iI (M 19 (sI a0).toNat))), (0, .ref (b + 0)), (1, .int (iI a0)), (2, .int (iI a1)), (3, .int (iI a2))]) hx hb dX12_editsBy_14 hl (by decide) rfl (fun ls hl => ?_)
  refine z_bipush hx hb (by decide) dX12_editsBy_16 ?_
  refine lv_istore (lv' := [(6, .int (iI 25)), (5, .int (iI (M 19 (sI a1).toNat))), (4, .int (iI (M 19 (sI a0).toNat))), (0, .ref (b + 0)), (1, .int (iI a0)), (2, .int (iI a1)), (3, .int (iI a2))]) hx hb dX12_editsBy_18 hl (by decide) rfl (fun ls hl => ?_)
  refine z_iconst hx hb dX12_editsBy_20 ?_
  refine lv_istore (lv' := [(7, .int (iI 0)), (6, .int (iI 25)), (5, .int (iI (M 19 (sI a1).toNat))), (4, .int (iI (M 19 (sI a0).toNat))), (0, .ref (b + 0)), (1, .int (iI a0)), (2, .int (iI a1)), (3, .int (iI a2))]) hx hb dX12_editsBy_21 hl (by decide) rfl (fun ls hl => ?_)
  obtain ⟨I5, ⟨n6, h7⟩, h8⟩ := h
  have L9 : ∀ (n10 : Nat) (x3 : Int) (M4 : zM) (H : Heap) (locs : List Loc) (ls : Array Slot), I5 n10 x3 M4 → zR D dA vwCl wR nR b M4 H → va_S (zA nR b) s.heap H locs → lv_has ls 11 [(0, .ref (b + 0)), (1, .int (iI a0)), (2, .int (iI a1)), (3, .int (iI a2)), (4, .int (iI (M 19 (sI a0).toNat))), (5, .int (iI (M 19 (sI a1).toNat))), (6, .int (iI 25)), (7, .int (iI x3))] → W p l e (headSpec (.code yX12_editsBy cX12_editsBy 11 (some .int) :: zt) (z_rm 1)).room s m args below meth c H locs 0 0 (MQ below (va_Qi (wQi Q) (zB D dA vwCl wR nR b) (zA nR b)) args s 0 0 (zA nR b)) (F0 m 23 ls []) := by
    intro n10
    induction n10 using Nat.strongRecOn with
    | ind n10 i11 =>
      intro x3 M4 H locs ls h hS hS0 hl
      have h := h8 n10 x3 M4 h
      refine lv_iload hx hb dX12_editsBy_23 (lv_at hl 7 rfl) ?_
      refine lv_iload hx hb dX12_editsBy_25 (lv_at hl 4 rfl) ?_
      refine w_icmp_gt (tgt := 215) hx hb rfl rfl dX12_editsBy_27 (by decide) (fun c12 => ?_) (fun c12 => ?_)
      · skip
        have h := h.1 c12
        refine lv_aload_n hx hb dX12_editsBy_215 rfl (lv_at hl 0 rfl) ?_
        refine w_getr (j2 := 33) hx hb hts (z_memU u12) hown hK.1 hS f12_49 (by decide) (zkd_of (rfl : zcd wR 0 = 50) rfl) (zrf_of (rfl : zcd wR 0 = 50) rfl) (Or.inl (hts _ (z_mem k993))) dX12_editsBy_216 ?_
        refine lv_iload hx hb dX12_editsBy_219 (lv_at hl 6 rfl) ?_
        refine lv_iload hx hb dX12_editsBy_221 (lv_at hl 4 rfl) ?_
        refine z_imul hx hb dX12_editsBy_223 ?_
        refine lv_iload hx hb dX12_editsBy_224 (lv_at hl 5 rfl) ?_
        refine z_iadd hx hb dX12_editsBy_226 ?_
        obtain ⟨o13, h⟩ := h
        refine w_iald (n := 625) (i := (sI ((25 * (M 19 (sI a0).toNat)) + (M 19 (sI a1).toNat)))) hx hb hK.1 (t0 := 0) rfl hS (by decide) (zkd_of (rfl : zcd wR 33 = 83) rfl) (zln_of (rfl : zcd wR 33 = 83) rfl) rfl o13.1 o13.2 (by decide) dX12_editsBy_227 ?_
        exact w_iret hx hb hr hlocks hS hS0 rfl h dX12_editsBy_228
      · skip
        have h := h.2 c12
        refine z_iconst hx hb dX12_editsBy_30 ?_
        refine lv_istore (lv' := [(8, .int (iI 0)), (0, .ref (b + 0)), (1, .int (iI a0)), (2, .int (iI a1)), (3, .int (iI a2)), (4, .int (iI (M 19 (sI a0).toNat))), (5, .int (iI (M 19 (sI a1).toNat))), (6, .int (iI 25)), (7, .int (iI x3))]) hx hb dX12_editsBy_31 hl (by decide) rfl (fun ls hl => ?_)
        obtain ⟨I16, ⟨n17, h18⟩, h19⟩ := h
        have L20 : ∀ (n21 : Nat) (x14 : Int) (M15 : zM) (H : Heap) (locs : List Loc) (ls : Array Slot), I16 n21 x14 M15 → zR D dA vwCl wR nR b M15 H → va_S (zA nR b) s.heap H locs → lv_has ls 11 [(0, .ref (b + 0)), (1, .int (iI a0)), (2, .int (iI a1)), (3, .int (iI a2)), (4, .int (iI (M 19 (sI a0).toNat))), (5, .int (iI (M 19 (sI a1).toNat))), (6, .int (iI 25)), (7, .int (iI x3)), (8, .int (iI x14))] → W p l e (headSpec (.code yX12_editsBy cX12_editsBy 11 (some .int) :: zt) (z_rm 1)).room s m args below meth c H locs 0 0 (MQ below (va_Qi (wQi Q) (zB D dA vwCl wR nR b) (zA nR b)) args s 0 0 (zA nR b)) (F0 m 33 ls []) := by
          intro n21
          induction n21 using Nat.strongRecOn with
          | ind n21 i22 =>
            intro x14 M15 H locs ls h hS hS0 hl
            have h := h19 n21 x14 M15 h
            refine lv_iload hx hb dX12_editsBy_33 (lv_at hl 8 rfl) ?_
            refine lv_iload hx hb dX12_editsBy_35 (lv_at hl 5 rfl) ?_
            refine w_icmp_gt (tgt := 209) hx hb rfl rfl dX12_editsBy_37 (by decide) (fun c23 => ?_) (fun c23 => ?_)
            · skip
              have h := h.1 c23
              refine z_iinc (lv' := [(7, .int (iI (x3 + 1))), (0, .ref (b + 0)), (1, .int (iI a0)), (2, .int (iI a1)), (3, .int (iI a2)), (4, .int (iI (M 19 (sI a0).toNat))), (5, .int (iI (M 19 (sI a1).toNat))), (6, .int (iI 25)), (8, .int (iI x14))]) hx hb dX12_editsBy_209 hl (k := 7) rfl (by decide) rfl (fun ls hl => ?_)
              refine lv_goto (tgt := 23) hx hb dX12_editsBy_212 (by decide) ?_
              obtain ⟨n24, h25, h⟩ := h
              exact i11 n24 h25 (x3 + 1) M15 _ _ _ h hS hS0 (lv_sub hl [1, 2, 3, 4, 5, 6, 7, 0] rfl)
            · skip
              have h := h.2 c23
              refine lv_iload hx hb dX12_editsBy_40 (lv_at hl 7 rfl) ?_
              obtain ⟨J50, B54, h⟩ := h
              have L53 : ∀ (H : Heap) (locs : List Loc) (ls : Array Slot), J50 → zR D dA vwCl wR nR b M15 H → va_S (zA nR b) s.heap H locs → lv_has ls 11 [(0, .ref (b + 0)), (1, .int (iI a0)), (2, .int (iI a1)), (3, .int (iI a2)), (4, .int (iI (M 19 (sI a0).toNat))), (5, .int (iI (M 19 (sI a1).toNat))), (6, .int (iI 25)), (7, .int (iI x3)), (8, .int (iI x14))] → W p l e (headSpec (.code yX12_editsBy cX12_editsBy 11 (some .int) :: zt) (z_rm 1)).room s m args below meth c H locs 0 0 (MQ below (va_Qi (wQi Q) (zB D dA vwCl wR nR b) (zA nR b)) args s 0 0 (zA nR b)) (F0 m 50 ls []) := by
                intro  H locs ls h hS hS0 hl
                have h := B54 h
                refine lv_aload_n hx hb dX12_editsBy_50 rfl (lv_at hl 0 rfl) ?_
                refine w_getr (j2 := 33) hx hb hts (z_memU u12) hown hK.1 hS f12_49 (by decide) (zkd_of (rfl : zcd wR 0 = 50) rfl) (zrf_of (rfl : zcd wR 0 = 50) rfl) (Or.inl (hts _ (z_mem k993))) dX12_editsBy_51 ?_
                refine lv_iload hx hb dX12_editsBy_54 (lv_at hl 6 rfl) ?_
                refine lv_iload hx hb dX12_editsBy_56 (lv_at hl 7 rfl) ?_
                refine z_imul hx hb dX12_editsBy_58 ?_
                refine lv_iload hx hb dX12_editsBy_59 (lv_at hl 8 rfl) ?_
                refine z_iadd hx hb dX12_editsBy_61 ?_
                refine lv_iload hx hb dX12_editsBy_62 (lv_at hl 7 rfl) ?_
                refine lv_iload hx hb dX12_editsBy_64 (lv_at hl 8 rfl) ?_
                refine z_iadd hx hb dX12_editsBy_66 ?_
                obtain ⟨o55, h⟩ := h
                refine w_iast (z := (x3 + x14)) (n := 625) (i := (sI ((25 * x3) + x14))) hx hb hK.1 (t0 := 0) rfl hS hS0 (by decide) (zkd_of (rfl : zcd wR 33 = 83) rfl) (zln_of (rfl : zcd wR 33 = 83) rfl) rfl o55.1 o55.2 (by decide) dX12_editsBy_67 (fun H locs hS hS0 => ?_)
                obtain ⟨M56, e57⟩ : ∃ M56 : zM, M56 = zup M15 33 (sI ((25 * x3) + x14)).toNat (x3 + x14) := ⟨_, rfl⟩
                rw [← e57] at hS
                have h := h M56 e57
                refine lv_goto (tgt := 203) hx hb dX12_editsBy_68 (by decide) ?_
                refine z_iinc (lv' := [(8, .int (iI (x14 + 1))), (0, .ref (b + 0)), (1, .int (iI a0)), (2, .int (iI a1)), (3, .int (iI a2)), (4, .int (iI (M 19 (sI a0).toNat))), (5, .int (iI (M 19 (sI a1).toNat))), (6, .int (iI 25)), (7, .int (iI x3))]) hx hb dX12_editsBy_203 hl (k := 8) rfl (by decide) rfl (fun ls hl => ?_)
                refine lv_goto (tgt := 33) hx hb dX12_editsBy_206 (by decide) ?_
                obtain ⟨n58, h59, h⟩ := h
                exact i22 n58 h59 (x14 + 1) M56 _ _ _ h hS hS0 (lv_sub hl [1, 2, 3, 4, 5, 6, 7, 8, 0] rfl)
              refine w_if_eq (tgt := 50) hx hb rfl dX12_editsBy_42 (by decide) (fun c60 => ?_) (fun c60 => ?_)
              · skip
                have h := h.1 c60
                exact L53 _ _ _ h hS hS0 (lv_sub hl [0, 1, 2, 3, 4, 5, 6, 7, 8] rfl)
              · skip
                have h := h.2 c60
                refine lv_iload hx hb dX12_editsBy_45 (lv_at hl 8 rfl) ?_
                refine w_if_ne (tgt := 71) hx hb rfl dX12_editsBy_47 (by decide) (fun c61 => ?_) (fun c61 => ?_)
                · skip
                  have h := h.1 c61
                  refine lv_aload_n hx hb dX12_editsBy_71 rfl (lv_at hl 0 rfl) ?_
                  refine w_getr (j2 := 18) hx hb hts (z_memU u12) hown hK.1 hS f12_28 (by decide) (zkd_of (rfl : zcd wR 0 = 50) rfl) (zrf_of (rfl : zcd wR 0 = 50) rfl) (Or.inl (hts _ (z_mem k972))) dX12_editsBy_72 ?_
                  refine z_bipush hx hb (by decide) dX12_editsBy_75 ?_
                  refine lv_iload_n hx hb dX12_editsBy_77 rfl (lv_at hl 1 rfl) ?_
                  refine z_imul hx hb dX12_editsBy_78 ?_
                  refine lv_iload hx hb dX12_editsBy_79 (lv_at hl 7 rfl) ?_
                  refine z_iadd hx hb dX12_editsBy_81 ?_
                  refine z_iconst hx hb dX12_editsBy_82 ?_
                  refine z_isub hx hb dX12_editsBy_83 ?_
                  obtain ⟨o62, h⟩ := h
                  refine w_iald (n := 384) (i := (sI (((24 * a0) + x3) - 1))) hx hb hK.1 (t0 := 0) rfl hS (by decide) (zkd_of (rfl : zcd wR 18 = 68) rfl) (zln_of (rfl : zcd wR 18 = 68) rfl) rfl o62.1 o62.2 (by decide) dX12_editsBy_84 ?_
                  refine lv_aload_n hx hb dX12_editsBy_85 rfl (lv_at hl 0 rfl) ?_
                  refine w_getr (j2 := 18) hx hb hts (z_memU u12) hown hK.1 hS f12_28 (by decide) (zkd_of (rfl : zcd wR 0 = 50) rfl) (zrf_of (rfl : zcd wR 0 = 50) rfl) (Or.inl (hts _ (z_mem k972))) dX12_editsBy_86 ?_
                  refine z_bipush hx hb (by decide) dX12_editsBy_89 ?_
                  refine lv_iload_n hx hb dX12_editsBy_91 rfl (lv_at hl 2 rfl) ?_
                  refine z_imul hx hb dX12_editsBy_92 ?_
                  refine lv_iload hx hb dX12_editsBy_93 (lv_at hl 8 rfl) ?_
                  refine z_iconst hx hb dX12_editsBy_95 ?_
                  refine z_isub hx hb dX12_editsBy_96 ?_
                  refine lv_iload_n hx hb dX12_editsBy_97 rfl (lv_at hl 3 rfl) ?_
                  refine z_iadd hx hb dX12_editsBy_98 ?_
                  refine lv_iload hx hb dX12_editsBy_99 (lv_at hl 5 rfl) ?_
                  obtain ⟨o63, h⟩ := h
                  refine w_irem hx hb rfl rfl o63 dX12_editsBy_101 ?_
                  refine z_iadd hx hb dX12_editsBy_102 ?_
                  obtain ⟨o64, h⟩ := h
                  refine w_iald (n := 384) (i := (sI ((24 * a1) + ((sI ((x14 - 1) + a2)).tmod (sI (M 19 (sI a1).toNat)))))) hx hb hK.1 (t0 := 0) rfl hS (by decide) (zkd_of (rfl : zcd wR 18 = 68) rfl) (zln_of (rfl : zcd wR 18 = 68) rfl) rfl o64.1 o64.2 (by decide) dX12_editsBy_103 ?_
                  obtain ⟨J112, B68, h⟩ := h
                  have L67 : ∀ (x66 : Int) (H : Heap) (locs : List Loc) (ls : Array Slot), J112 x66 → zR D dA vwCl wR nR b M15 H → va_S (zA nR b) s.heap H locs → lv_has ls 11 [(0, .ref (b + 0)), (1, .int (iI a0)), (2, .int (iI a1)), (3, .int (iI a2)), (4, .int (iI (M 19 (sI a0).toNat))), (5, .int (iI (M 19 (sI a1).toNat))), (6, .int (iI 25)), (7, .int (iI x3)), (8, .int (iI x14))] → W p l e (headSpec (.code yX12_editsBy cX12_editsBy 11 (some .int) :: zt) (z_rm 1)).room s m args below meth c H locs 0 0 (MQ below (va_Qi (wQi Q) (zB D dA vwCl wR nR b) (zA nR b)) args s 0 0 (zA nR b)) (F0 m 112 ls [.int (iI x66)]) := by
                    intro x66 H locs ls h hS hS0 hl
                    have h := B68 x66 h
                    refine lv_istore (lv' := [(9, .int (iI x66)), (0, .ref (b + 0)), (1, .int (iI a0)), (2, .int (iI a1)), (3, .int (iI a2)), (4, .int (iI (M 19 (sI a0).toNat))), (5, .int (iI (M 19 (sI a1).toNat))), (6, .int (iI 25)), (7, .int (iI x3)), (8, .int (iI x14))]) hx hb dX12_editsBy_112 hl (by decide) rfl (fun ls hl => ?_)
                    refine lv_aload_n hx hb dX12_editsBy_114 rfl (lv_at hl 1 rfl) ?_
                    refine w_getr (j2 := 33) hx hb hts (z_memU u12) hown hK.1 hS f12_49 (by decide) (zkd_of (rfl : zcd wR 0 = 50) rfl) (zrf_of (rfl : zcd wR 0 = 50) rfl) (Or.inl (hts _ (z_mem k993))) dX12_editsBy_115 ?_
                    refine lv_iload hx hb dX12_editsBy_118 (lv_at hl 7 rfl) ?_
                    refine lv_iload hx hb dX12_editsBy_120 (lv_at hl 8 rfl) ?_
                    refine z_iconst hx hb dX12_editsBy_122 ?_
                    refine z_isub hx hb dX12_editsBy_123 ?_
                    refine z_imul hx hb dX12_editsBy_124 ?_
                    refine lv_iload hx hb dX12_editsBy_125 (lv_at hl 9 rfl) ?_
                    refine z_iadd hx hb dX12_editsBy_127 ?_
                    refine z_iconst hx hb dX12_editsBy_128 ?_
                    refine z_isub hx hb dX12_editsBy_129 ?_
                    obtain ⟨o69, h⟩ := h
                    refine w_iald (n := 625) (i := (sI (((25 * (x3 - 1)) + x14) - 1))) hx hb hK.1 (t0 := 0) rfl hS (by decide) (zkd_of (rfl : zcd wR 33 = 83) rfl) (zln_of (rfl : zcd wR 33 = 83) rfl) rfl o69.1 o69.2 (by decide) dX12_editsBy_130 ?_
                    refine lv_iload hx hb dX12_editsBy_131 (lv_at hl 0 rfl) ?_
                    obtain ⟨J141, B73, h⟩ := h
                    have L72 : ∀ (x71 : Int) (H : Heap) (locs : List Loc) (ls : Array Slot), J141 x71 → zR D dA vwCl wR nR b M15 H → va_S (zA nR b) s.heap H locs → lv_has ls 11 [(0, .ref (b + 0)), (1, .int (iI a0)), (2, .int (iI a1)), (3, .int (iI a2)), (4, .int (iI (M 19 (sI a0).toNat))), (5, .int (iI (M 19 (sI a1).toNat))), (6, .int (iI 25)), (7, .int (iI x3)), (8, .int (iI x14))] → W p l e (headSpec (.code yX12_editsBy cX12_editsBy 11 (some .int) :: zt) (z_rm 1)).room s m args below meth c H locs 0 0 (MQ below (va_Qi (wQi Q) (zB D dA vwCl wR nR b) (zA nR b)) args s 0 0 (zA nR b)) (F0 m 141 ls [.int (iI x71), .int (iI (M15 33 (sI (((25 * (x3 - 1)) + x14) - 1)).toNat))]) := by
                      intro x71 H locs ls h hS hS0 hl
                      have h := B73 x71 h
                      refine z_iadd hx hb dX12_editsBy_141 ?_
                      obtain ⟨t74, e75⟩ : ∃ t74 : Int, t74 = ((M15 33 (sI (((25 * (x3 - 1)) + x14) - 1)).toNat) + x71) := ⟨_, rfl⟩
                      refine z_top (y := t74) e75.symm ?_
                      have h := h t74 e75
                      refine lv_istore (lv' := [(10, .int (iI t74)), (0, .ref (b + 0)), (1, .int (iI a0)), (2, .int (iI a1)), (3, .int (iI a2)), (4, .int (iI (M 19 (sI a0).toNat))), (5, .int (iI (M 19 (sI a1).toNat))), (6, .int (iI 25)), (7, .int (iI x3)), (8, .int (iI x14))]) hx hb dX12_editsBy_142 hl (by decide) rfl (fun ls hl => ?_)
                      refine lv_iload hx hb dX12_editsBy_144 (lv_at hl 0 rfl) ?_
                      refine z_iconst hx hb dX12_editsBy_146 ?_
                      refine lv_aload_n hx hb dX12_editsBy_147 rfl (lv_at hl 1 rfl) ?_
                      refine w_getr (j2 := 33) hx hb hts (z_memU u12) hown hK.1 hS f12_49 (by decide) (zkd_of (rfl : zcd wR 0 = 50) rfl) (zrf_of (rfl : zcd wR 0 = 50) rfl) (Or.inl (hts _ (z_mem k993))) dX12_editsBy_148 ?_
                      refine lv_iload hx hb dX12_editsBy_151 (lv_at hl 7 rfl) ?_
                      refine lv_iload hx hb dX12_editsBy_153 (lv_at hl 8 rfl) ?_
                      refine z_iconst hx hb dX12_editsBy_155 ?_
                      refine z_isub hx hb dX12_editsBy_156 ?_
                      refine z_imul hx hb dX12_editsBy_157 ?_
                      refine lv_iload hx hb dX12_editsBy_158 (lv_at hl 9 rfl) ?_
                      refine z_iadd hx hb dX12_editsBy_160 ?_
                      obtain ⟨o76, h⟩ := h
                      refine w_iald (n := 625) (i := (sI ((25 * (x3 - 1)) + x14))) hx hb hK.1 (t0 := 0) rfl hS (by decide) (zkd_of (rfl : zcd wR 33 = 83) rfl) (zln_of (rfl : zcd wR 33 = 83) rfl) rfl o76.1 o76.2 (by decide) dX12_editsBy_161 ?_
                      refine z_iadd hx hb dX12_editsBy_162 ?_
                      refine w_mmin hx hb (hml.trans hl.1.symm) hown (hts _ (z_mem k1229)) (hts _ (z_mem k320)) (hts _ (z_mem k15)) (hts _ (z_mem k321)) (by exact Nat.le_of_ble_eq_true rfl) (by exact Nat.le_of_ble_eq_true rfl) (by exact Nat.le_refl _) (by exact Nat.le_refl _) rfl rfl dX12_editsBy_163 ?_
                      obtain ⟨t77, e78⟩ : ∃ t77 : Int, t77 = (min (sI t74) (sI (1 + (M15 33 (sI ((25 * (x3 - 1)) + x14)).toNat)))) := ⟨_, rfl⟩
                      refine z_top (y := t77) e78.symm ?_
                      have h := h t77 e78
                      refine lv_istore (lv' := [(10, .int (iI t77)), (0, .ref (b + 0)), (1, .int (iI a0)), (2, .int (iI a1)), (3, .int (iI a2)), (4, .int (iI (M 19 (sI a0).toNat))), (5, .int (iI (M 19 (sI a1).toNat))), (6, .int (iI 25)), (7, .int (iI x3)), (8, .int (iI x14))]) hx hb dX12_editsBy_166 hl (by decide) rfl (fun ls hl => ?_)
                      refine lv_aload_n hx hb dX12_editsBy_168 rfl (lv_at hl 1 rfl) ?_
                      refine w_getr (j2 := 33) hx hb hts (z_memU u12) hown hK.1 hS f12_49 (by decide) (zkd_of (rfl : zcd wR 0 = 50) rfl) (zrf_of (rfl : zcd wR 0 = 50) rfl) (Or.inl (hts _ (z_mem k993))) dX12_editsBy_169 ?_
                      refine lv_iload hx hb dX12_editsBy_172 (lv_at hl 7 rfl) ?_
                      refine lv_iload hx hb dX12_editsBy_174 (lv_at hl 8 rfl) ?_
                      refine z_imul hx hb dX12_editsBy_176 ?_
                      refine lv_iload hx hb dX12_editsBy_177 (lv_at hl 9 rfl) ?_
                      refine z_iadd hx hb dX12_editsBy_179 ?_
                      refine lv_iload hx hb dX12_editsBy_180 (lv_at hl 0 rfl) ?_
                      refine z_iconst hx hb dX12_editsBy_182 ?_
                      refine lv_aload_n hx hb dX12_editsBy_183 rfl (lv_at hl 1 rfl) ?_
                      refine w_getr (j2 := 33) hx hb hts (z_memU u12) hown hK.1 hS f12_49 (by decide) (zkd_of (rfl : zcd wR 0 = 50) rfl) (zrf_of (rfl : zcd wR 0 = 50) rfl) (Or.inl (hts _ (z_mem k993))) dX12_editsBy_184 ?_
                      refine lv_iload hx hb dX12_editsBy_187 (lv_at hl 7 rfl) ?_
                      refine lv_iload hx hb dX12_editsBy_189 (lv_at hl 8 rfl) ?_
                      refine z_imul hx hb dX12_editsBy_191 ?_
                      refine lv_iload hx hb dX12_editsBy_192 (lv_at hl 9 rfl) ?_
                      refine z_iadd hx hb dX12_editsBy_194 ?_
                      refine z_iconst hx hb dX12_editsBy_195 ?_
                      refine z_isub hx hb dX12_editsBy_196 ?_
                      obtain ⟨o79, h⟩ := h
                      refine w_iald (n := 625) (i := (sI (((25 * x3) + x14) - 1))) hx hb hK.1 (t0 := 0) rfl hS (by decide) (zkd_of (rfl : zcd wR 33 = 83) rfl) (zln_of (rfl : zcd wR 33 = 83) rfl) rfl o79.1 o79.2 (by decide) dX12_editsBy_197 ?_
                      refine z_iadd hx hb dX12_editsBy_198 ?_
                      refine w_mmin hx hb (hml.trans hl.1.symm) hown (hts _ (z_mem k1229)) (hts _ (z_mem k320)) (hts _ (z_mem k15)) (hts _ (z_mem k321)) (by exact Nat.le_of_ble_eq_true rfl) (by exact Nat.le_of_ble_eq_true rfl) (by exact Nat.le_refl _) (by exact Nat.le_refl _) (show sI t77 = t77 from by rw [e78]; exact (sI_of (R_min (sI_c (x := t74) rfl) (sI_c (x := (1 + (M15 33 (sI ((25 * (x3 - 1)) + x14)).toNat))) rfl)))) rfl dX12_editsBy_199 ?_
                      obtain ⟨o80, h⟩ := h
                      refine w_iast (z := (min t77 (sI (1 + (M15 33 (sI (((25 * x3) + x14) - 1)).toNat))))) (n := 625) (i := (sI ((25 * x3) + x14))) hx hb hK.1 (t0 := 0) rfl hS hS0 (by decide) (zkd_of (rfl : zcd wR 33 = 83) rfl) (zln_of (rfl : zcd wR 33 = 83) rfl) rfl o80.1 o80.2 (by decide) dX12_editsBy_202 (fun H locs hS hS0 => ?_)
                      obtain ⟨M81, e82⟩ : ∃ M81 : zM, M81 = zup M15 33 (sI ((25 * x3) + x14)).toNat (min t77 (sI (1 + (M15 33 (sI (((25 * x3) + x14) - 1)).toNat)))) := ⟨_, rfl⟩
                      rw [← e82] at hS
                      have h := h M81 e82
                      refine z_iinc (lv' := [(8, .int (iI (x14 + 1))), (10, .int (iI t77)), (0, .ref (b + 0)), (1, .int (iI a0)), (2, .int (iI a1)), (3, .int (iI a2)), (4, .int (iI (M 19 (sI a0).toNat))), (5, .int (iI (M 19 (sI a1).toNat))), (6, .int (iI 25)), (7, .int (iI x3))]) hx hb dX12_editsBy_203 hl (k := 9) rfl (by decide) rfl (fun ls hl => ?_)
                      refine lv_goto (tgt := 33) hx hb dX12_editsBy_206 (by decide) ?_
                      obtain ⟨n83, h84, h⟩ := h
                      exact i22 n83 h84 (x14 + 1) M81 _ _ _ h hS hS0 (lv_sub hl [2, 3, 4, 5, 6, 7, 8, 9, 0] rfl)
                    refine w_if_eq (tgt := 140) hx hb rfl dX12_editsBy_133 (by decide) (fun c85 => ?_) (fun c85 => ?_)
                    · skip
                      have h := h.1 c85
                      refine z_iconst hx hb dX12_editsBy_140 ?_
                      exact L72 1 _ _ _ h hS hS0 (lv_sub hl [1, 2, 3, 4, 5, 6, 7, 8, 9] rfl)
                    · skip
                      have h := h.2 c85
                      refine z_iconst hx hb dX12_editsBy_136 ?_
                      refine lv_goto (tgt := 141) hx hb dX12_editsBy_137 (by decide) ?_
                      exact L72 0 _ _ _ h hS hS0 (lv_sub hl [1, 2, 3, 4, 5, 6, 7, 8, 9] rfl)
                  refine w_icmp_ne (tgt := 111) hx hb rfl rfl dX12_editsBy_104 (by decide) (fun c86 => ?_) (fun c86 => ?_)
                  · skip
                    have h := h.1 c86
                    refine z_iconst hx hb dX12_editsBy_111 ?_
                    exact L67 0 _ _ _ h hS hS0 (lv_sub hl [0, 1, 2, 3, 4, 5, 6, 7, 8] rfl)
                  · skip
                    have h := h.2 c86
                    refine z_iconst hx hb dX12_editsBy_107 ?_
                    refine lv_goto (tgt := 112) hx hb dX12_editsBy_108 (by decide) ?_
                    exact L67 1 _ _ _ h hS hS0 (lv_sub hl [0, 1, 2, 3, 4, 5, 6, 7, 8] rfl)
                · skip
                  have h := h.2 c61
                  exact L53 _ _ _ h hS hS0 (lv_sub hl [0, 1, 2, 3, 4, 5, 6, 7, 8] rfl)
        exact L20 n17 0 M4 _ _ _ h18 hS hS0 (lv_sub hl [1, 2, 3, 4, 5, 6, 7, 8, 0] rfl)
  exact L9 n6 0 M _ _ _ h7 hS hS0 (lv_sub hl [4, 5, 6, 7, 3, 2, 1, 0] rfl)

set_option maxRecDepth 100000 in
def wR_edits (a0 : Int) (a1 : Int) (M : zM) (Q : Int → zM → Prop) : Prop := (∀ M1 : zM, M1 = zup M 0 35 0 → wR_in a0 0 ((M1 0 32) - 1) M1 (fun z4 => (z4 = 0 → Q (-1) M1) ∧ (z4 ≠ 0 → wR_in a1 0 ((M1 0 32) - 1) M1 (fun z9 => (z9 ≠ 0 → wL2 (fun K42 x13 x14 M15 => ((0 ≤ (sI a1) ∧ (sI a1) < 16) ∧ ((sI (M15 19 (sI a1).toNat)) ≤ (sI x14) → Q (sI x13) M15) ∧ ((sI x14) < (sI (M15 19 (sI a1).toNat)) → wR_editsBy a0 a1 x14 M15 (fun z26 M25 => K42 (min (sI x13) z26) (x14 + 1) M25)))) 268435456 0 M1) ∧ (z9 = 0 → Q (-1) M1)))))
set_option maxHeartbeats 4000000 in
set_option maxRecDepth 100000 in
theorem cR_edits (l : Launch) (D : va_G) (dA : Nat → ClassId) (b : Nat) (M : zM) (a0 : Int) (a1 : Int)  (Q : Int → zM → Prop) (h : wR_edits a0 a1 M Q) : Met l yX12_edits (.code yX12_edits cX12_edits 5 (some .int) :: zt) (z_rm 2) (va_Pc [.ref (b + 0), .int (iI a0), .int (iI a1)] (wPre D dA vwCl (z_tys dA) wR nR b M)) (va_Qi (wQi Q) (zB D dA vwCl wR nR b) (zA nR b)) 0 0 (zA nR b) := by
  unfold wR_edits at h
  refine Met.ofW (cc := cX12_edits) (maxL := 5) (ret := (some .int)) (by decide) rfl ?_
  intro p e s m args below meth c s₁ B hml hv
  obtain ⟨hargs, hS, hK⟩ := hv
  have hx := B.exec
  have hb := B.bytes
  have hr := B.returns
  have hts := atoms_spec (ws := .code yX12_edits cX12_edits 5 (some .int) :: zt) B.pre
  have hown : s.vm.findClass RX12 = some m.cls := findClass_of_methodNamed B.named
  have hlocks := B.notSynchronized
  have hS0 : va_S (zA nR b) s.heap s.heap [] := va_S.rf
  have hl := lv_entry ([.ref (b + 0), .int (iI a0), .int (iI a1)]) (n := 5) (Nat.le_of_ble_eq_true rfl)
  have hent : entryFrame m args 5 = F0 m 0 ((lg_sl ([.ref (b + 0), .int (iI a0), .int (iI a1)]) ++ List.replicate (5 - (lg_sl ([.ref (b + 0), .int (iI a0), .int (iI a1)])).length) Slot.unset).toArray) [] := by rw [hargs]; exact lg_entry_eq m ([.ref (b + 0), .int (iI a0), .int (iI a1)]) 5
  rw [hent]
  generalize (lg_sl ([.ref (b + 0), .int (iI a0), .int (iI a1)]) ++ List.replicate (5 - (lg_sl ([.ref (b + 0), .int (iI a0), .int (iI a1)])).length) Slot.unset).toArray = ls at hl ⊢
  have hl : lv_has ls 5 [(0, .ref (b + 0)), (1, .int (iI a0)), (2, .int (iI a1))] := hl
  refine lv_aload_n hx hb dX12_edits_0 rfl (lv_at hl 0 rfl) ?_
  refine z_iconst hx hb dX12_edits_1 ?_
  refine w_puti hx hb hts (z_memU u12) tyX12 tyX12_ok nmX12 hown hK.1 hS hS0 f12_35 (by decide) (zkd_of (rfl : zcd wR 0 = 50) rfl) (Or.inl (hts _ (z_mem k979))) rfl (z := 0) (by decide +kernel) dX12_edits_2 (fun H locs hS hS0 => ?_)
  obtain ⟨M1, e2⟩ : ∃ M1 : zM, M1 = zup M 0 35 0 := ⟨_, rfl⟩
  rw [← e2] at hS
  have h := h M1 e2
  refine lv_iload_n hx hb dX12_edits_5 rfl (lv_at hl 1 rfl) ?_
  refine z_iconst hx hb dX12_edits_6 ?_
  refine lv_aload_n hx hb dX12_edits_7 rfl (lv_at hl 0 rfl) ?_
  refine w_geti hx hb hts (z_memU u12) hown hK.1 hS f12_32 (by decide) (zkd_of (rfl : zcd wR 0 = 50) rfl) (Or.inl (hts _ (z_mem k976))) dX12_edits_8 ?_
  refine z_iconst hx hb dX12_edits_11 ?_
  refine z_isub hx hb dX12_edits_12 ?_
  refine w_callz (va_runS (As := [.int (iI a0), .int (iI 0), .int (iI ((M1 0 32) - 1))]) (rest := []) ⟨hx, hb, hml, hown, hts⟩ (cR_in l D dA b M1 a0 0 ((M1 0 32) - 1) _ h) (va_cwS 3 hts (z_gS k1083 k1084 k14 k1085) rfl rfl rfl dm_X12_in.2 ⟨Nat.le_of_ble_eq_true rfl, Nat.le_of_ble_eq_true rfl⟩) ⟨wPre_blind, w_pre hS hK⟩ rfl rfl hl.1 rfl (lv_room (Nat.le_of_ble_eq_true rfl)) dX12_edits_13 ⟨Nat.le_refl _, Nat.le_refl _⟩) hS0 (fun z4 M3 H locs r5 h hS hS0 => ?_)
  obtain ⟨e6, h⟩ := h
  rw [e6] at hS
  refine w_if_eq (tgt := 33) hx hb (sI_01 r5) dX12_edits_16 (by decide) (fun c7 => ?_) (fun c7 => ?_)
  · skip
    have h := h.1 c7
    refine z_iconst hx hb dX12_edits_33 ?_
    exact w_iret hx hb hr hlocks hS hS0 (sI_of (by decide)) h dX12_edits_34
  · skip
    have h := h.2 c7
    refine lv_iload_n hx hb dX12_edits_19 rfl (lv_at hl 2 rfl) ?_
    refine z_iconst hx hb dX12_edits_20 ?_
    refine lv_aload_n hx hb dX12_edits_21 rfl (lv_at hl 0 rfl) ?_
    refine w_geti hx hb hts (z_memU u12) hown hK.1 hS f12_32 (by decide) (zkd_of (rfl : zcd wR 0 = 50) rfl) (Or.inl (hts _ (z_mem k976))) dX12_edits_22 ?_
    refine z_iconst hx hb dX12_edits_25 ?_
    refine z_isub hx hb dX12_edits_26 ?_
    refine w_callz (va_runS (As := [.int (iI a1), .int (iI 0), .int (iI ((M1 0 32) - 1))]) (rest := []) ⟨hx, hb, hml, hown, hts⟩ (cR_in l D dA b M1 a1 0 ((M1 0 32) - 1) _ h) (va_cwS 3 hts (z_gS k1083 k1084 k14 k1085) rfl rfl rfl dm_X12_in.2 ⟨Nat.le_of_ble_eq_true rfl, Nat.le_of_ble_eq_true rfl⟩) ⟨wPre_blind, w_pre hS hK⟩ rfl rfl hl.1 rfl (lv_room (Nat.le_of_ble_eq_true rfl)) dX12_edits_27 ⟨Nat.le_refl _, Nat.le_refl _⟩) hS0 (fun z9 M8 H locs r10 h hS hS0 => ?_)
    obtain ⟨e11, h⟩ := h
    rw [e11] at hS
    refine w_if_ne (tgt := 35) hx hb (sI_01 r10) dX12_edits_30 (by decide) (fun c12 => ?_) (fun c12 => ?_)
    · skip
      have h := h.1 c12
      refine z_ldcw (n := 268435456) hx hb hown (hts _ (z_mem k1225)) (by decide) dX12_edits_35 ?_
      refine lv_istore_n (lv' := [(3, .int (iI 268435456)), (0, .ref (b + 0)), (1, .int (iI a0)), (2, .int (iI a1))]) hx hb dX12_edits_38 rfl hl (by decide) rfl (fun ls hl => ?_)
      refine z_iconst hx hb dX12_edits_39 ?_
      refine lv_istore (lv' := [(4, .int (iI 0)), (3, .int (iI 268435456)), (0, .ref (b + 0)), (1, .int (iI a0)), (2, .int (iI a1))]) hx hb dX12_edits_40 hl (by decide) rfl (fun ls hl => ?_)
      obtain ⟨I16, ⟨n17, h18⟩, h19⟩ := h
      have L20 : ∀ (n21 : Nat) (x13 x14 : Int) (M15 : zM) (H : Heap) (locs : List Loc) (ls : Array Slot), I16 n21 x13 x14 M15 → zR D dA vwCl wR nR b M15 H → va_S (zA nR b) s.heap H locs → lv_has ls 5 [(0, .ref (b + 0)), (1, .int (iI a0)), (2, .int (iI a1)), (3, .int (iI x13)), (4, .int (iI x14))] → W p l e (headSpec (.code yX12_edits cX12_edits 5 (some .int) :: zt) (z_rm 2)).room s m args below meth c H locs 0 0 (MQ below (va_Qi (wQi Q) (zB D dA vwCl wR nR b) (zA nR b)) args s 0 0 (zA nR b)) (F0 m 42 ls []) := by
        intro n21
        induction n21 using Nat.strongRecOn with
        | ind n21 i22 =>
          intro x13 x14 M15 H locs ls h hS hS0 hl
          have h := h19 n21 x13 x14 M15 h
          refine lv_iload hx hb dX12_edits_42 (lv_at hl 4 rfl) ?_
          refine lv_aload_n hx hb dX12_edits_44 rfl (lv_at hl 0 rfl) ?_
          refine w_getr (j2 := 19) hx hb hts (z_memU u12) hown hK.1 hS f12_29 (by decide) (zkd_of (rfl : zcd wR 0 = 50) rfl) (zrf_of (rfl : zcd wR 0 = 50) rfl) (Or.inl (hts _ (z_mem k973))) dX12_edits_45 ?_
          refine lv_iload_n hx hb dX12_edits_48 rfl (lv_at hl 2 rfl) ?_
          obtain ⟨o23, h⟩ := h
          refine w_iald (n := 16) (i := (sI a1)) hx hb hK.1 (t0 := 0) rfl hS (by decide) (zkd_of (rfl : zcd wR 19 = 69) rfl) (zln_of (rfl : zcd wR 19 = 69) rfl) rfl o23.1 o23.2 (by decide) dX12_edits_49 ?_
          refine w_icmp_ge (tgt := 72) hx hb rfl rfl dX12_edits_50 (by decide) (fun c24 => ?_) (fun c24 => ?_)
          · skip
            have h := h.1 c24
            refine lv_iload_n hx hb dX12_edits_72 rfl (lv_at hl 3 rfl) ?_
            exact w_iret hx hb hr hlocks hS hS0 rfl h dX12_edits_73
          · skip
            have h := h.2 c24
            refine lv_iload_n hx hb dX12_edits_53 rfl (lv_at hl 3 rfl) ?_
            refine lv_aload_n hx hb dX12_edits_54 rfl (lv_at hl 0 rfl) ?_
            refine lv_iload_n hx hb dX12_edits_55 rfl (lv_at hl 1 rfl) ?_
            refine lv_iload_n hx hb dX12_edits_56 rfl (lv_at hl 2 rfl) ?_
            refine lv_iload hx hb dX12_edits_57 (lv_at hl 4 rfl) ?_
            refine w_calli (va_runV (As := [.int (iI a0), .int (iI a1), .int (iI x14)]) (rest := [.int (iI x13)]) ⟨hx, hb, hml, hown, hts⟩ (cR_editsBy l D dA b M15 a0 a1 x14 _ h) (cwV 3 hts (z_gV k1341 k1342 k1423 k14 k1343) rfl rfl rfl dm_X12_editsBy ⟨Nat.le_of_ble_eq_true rfl, Nat.le_of_ble_eq_true rfl⟩) ⟨wPre_blind, (w_recv hS hK.1 (by decide) (zkd_of (rfl : zcd wR 0 = 50) rfl) (by decide) (rfl : vwCl[12]? = some (RX12, TX12, 50))), w_pre hS hK⟩ rfl rfl hl.1 rfl (lv_room (Nat.le_of_ble_eq_true rfl)) dX12_edits_59 ⟨Nat.le_refl _, Nat.le_refl _⟩) hS0 (fun z26 M25 H locs r27 h hS hS0 => ?_)
            refine w_mmin hx hb (hml.trans hl.1.symm) hown (hts _ (z_mem k1229)) (hts _ (z_mem k320)) (hts _ (z_mem k15)) (hts _ (z_mem k321)) (by exact Nat.le_of_ble_eq_true rfl) (by exact Nat.le_of_ble_eq_true rfl) (by exact Nat.le_refl _) (by exact Nat.le_refl _) rfl (sI_of r27) dX12_edits_62 ?_
            refine lv_istore_n (lv' := [(3, .int (iI (min (sI x13) z26))), (0, .ref (b + 0)), (1, .int (iI a0)), (2, .int (iI a1)), (4, .int (iI x14))]) hx hb dX12_edits_65 rfl hl (by decide) rfl (fun ls hl => ?_)
            refine z_iinc (lv' := [(4, .int (iI (x14 + 1))), (3, .int (iI (min (sI x13) z26))), (0, .ref (b + 0)), (1, .int (iI a0)), (2, .int (iI a1))]) hx hb dX12_edits_66 hl (k := 4) rfl (by decide) rfl (fun ls hl => ?_)
            refine lv_goto (tgt := 42) hx hb dX12_edits_69 (by decide) ?_
            obtain ⟨n28, h29, h⟩ := h
            exact i22 n28 h29 (min (sI x13) z26) (x14 + 1) M25 _ _ _ h hS hS0 (lv_sub hl [2, 3, 4, 1, 0] rfl)
      exact L20 n17 268435456 0 M1 _ _ _ h18 hS hS0 (lv_sub hl [2, 3, 4, 1, 0] rfl)
    · skip
      have h := h.2 c12
      refine z_iconst hx hb dX12_edits_33 ?_
      exact w_iret hx hb hr hlocks hS hS0 (sI_of (by decide)) h dX12_edits_34
end zz10_w23
section zz10_w24
/-! the W layer, 24 -/
theorem q10w24_0_0 : (cX12_row.data.toList.drop 0).take 24 = [42, 3, 181, 0, 118, 27, 3, 42, 180, 0, 188, 4, 100, 184, 0, 124, 154, 0, 10, 42, 4, 181, 0, 118] := by decide +kernel
theorem q10w24_0_24 : (cX12_row.data.toList.drop 24).take 9 = [3, 172, 42, 180, 0, 81, 27, 46, 172] := by decide +kernel
theorem dX12_row_0 : decode cX12_row 0 = .ok (.aload_n 0, 1) := dz_42 (dz_at q10w24_0_0 0)
theorem dX12_row_1 : decode cX12_row 1 = .ok (.iconst 0, 1) := dz_3 (dz_at q10w24_0_0 1)
theorem dX12_row_11 : decode cX12_row 11 = .ok (.iconst 1, 1) := dz_4 (dz_at q10w24_0_0 11)
theorem dX12_row_12 : decode cX12_row 12 = .ok (.isub, 1) := dz_100 (dz_at q10w24_0_0 12)
theorem dX12_row_13 : decode cX12_row 13 = .ok (.invokestatic 124, 3) := dz_184 (dz_at q10w24_0_0 13) rfl
theorem dX12_row_16 : decode cX12_row 16 = .ok (.ifCond .ne 10, 3) := dz_154 (dz_at q10w24_0_0 16) (by decide +kernel)
theorem dX12_row_19 : decode cX12_row 19 = .ok (.aload_n 0, 1) := dz_42 (dz_at q10w24_0_0 19)
theorem dX12_row_2 : decode cX12_row 2 = .ok (.putfield 118, 3) := dz_181 (dz_at q10w24_0_0 2) rfl
theorem dX12_row_20 : decode cX12_row 20 = .ok (.iconst 1, 1) := dz_4 (dz_at q10w24_0_0 20)
theorem dX12_row_21 : decode cX12_row 21 = .ok (.putfield 118, 3) := dz_181 (dz_at q10w24_0_0 21) rfl
theorem dX12_row_24 : decode cX12_row 24 = .ok (.iconst 0, 1) := dz_3 (dz_at q10w24_0_24 0)
theorem dX12_row_25 : decode cX12_row 25 = .ok (.ireturn, 1) := dz_172 (dz_at q10w24_0_24 1)
theorem dX12_row_26 : decode cX12_row 26 = .ok (.aload_n 0, 1) := dz_42 (dz_at q10w24_0_24 2)
theorem dX12_row_27 : decode cX12_row 27 = .ok (.getfield 81, 3) := dz_180 (dz_at q10w24_0_24 3) rfl
theorem dX12_row_30 : decode cX12_row 30 = .ok (.iload_n 1, 1) := dz_27 (dz_at q10w24_0_24 6)
theorem dX12_row_31 : decode cX12_row 31 = .ok (.iaload, 1) := dz_46 (dz_at q10w24_0_24 7)
theorem dX12_row_32 : decode cX12_row 32 = .ok (.ireturn, 1) := dz_172 (dz_at q10w24_0_24 8)
theorem dX12_row_5 : decode cX12_row 5 = .ok (.iload_n 1, 1) := dz_27 (dz_at q10w24_0_0 5)
theorem dX12_row_6 : decode cX12_row 6 = .ok (.iconst 0, 1) := dz_3 (dz_at q10w24_0_0 6)
theorem dX12_row_7 : decode cX12_row 7 = .ok (.aload_n 0, 1) := dz_42 (dz_at q10w24_0_0 7)
theorem dX12_row_8 : decode cX12_row 8 = .ok (.getfield 188, 3) := dz_180 (dz_at q10w24_0_0 8) rfl

set_option maxRecDepth 100000 in
def wR_row (a0 : Int) (M : zM) (Q : Int → zM → Prop) : Prop := (∀ M1 : zM, M1 = zup M 0 35 0 → wR_in a0 0 ((M1 0 34) - 1) M1 (fun z4 => (z4 ≠ 0 → ((0 ≤ (sI a0) ∧ (sI a0) < 64) ∧ Q (sI (M1 22 (sI a0).toNat)) M1)) ∧ (z4 = 0 → (∀ M9 : zM, M9 = zup M1 0 35 1 → Q 0 M9))))
set_option maxHeartbeats 4000000 in
set_option maxRecDepth 100000 in
theorem cR_row (l : Launch) (D : va_G) (dA : Nat → ClassId) (b : Nat) (M : zM) (a0 : Int)  (Q : Int → zM → Prop) (h : wR_row a0 M Q) : Met l yX12_row (.code yX12_row cX12_row 2 (some .int) :: zt) (z_rm 1) (va_Pc [.ref (b + 0), .int (iI a0)] (wPre D dA vwCl (z_tys dA) wR nR b M)) (va_Qi (wQi Q) (zB D dA vwCl wR nR b) (zA nR b)) 0 0 (zA nR b) := by
  unfold wR_row at h
  refine Met.ofW (cc := cX12_row) (maxL := 2) (ret := (some .int)) (by decide) rfl ?_
  intro p e s m args below meth c s₁ B hml hv
  obtain ⟨hargs, hS, hK⟩ := hv
  have hx := B.exec
  have hb := B.bytes
  have hr := B.returns
  have hts := atoms_spec (ws := .code yX12_row cX12_row 2 (some .int) :: zt) B.pre
  have hown : s.vm.findClass RX12 = some m.cls := findClass_of_methodNamed B.named
  have hlocks := B.notSynchronized
  have hS0 : va_S (zA nR b) s.heap s.heap [] := va_S.rf
  have hl := lv_entry ([.ref (b + 0), .int (iI a0)]) (n := 2) (Nat.le_of_ble_eq_true rfl)
  have hent : entryFrame m args 2 = F0 m 0 ((lg_sl ([.ref (b + 0), .int (iI a0)]) ++ List.replicate (2 - (lg_sl ([.ref (b + 0), .int (iI a0)])).length) Slot.unset).toArray) [] := by rw [hargs]; exact lg_entry_eq m ([.ref (b + 0), .int (iI a0)]) 2
  rw [hent]
  generalize (lg_sl ([.ref (b + 0), .int (iI a0)]) ++ List.replicate (2 - (lg_sl ([.ref (b + 0), .int (iI a0)])).length) Slot.unset).toArray = ls at hl ⊢
  have hl : lv_has ls 2 [(0, .ref (b + 0)), (1, .int (iI a0))] := hl
  refine lv_aload_n hx hb dX12_row_0 rfl (lv_at hl 0 rfl) ?_
  refine z_iconst hx hb dX12_row_1 ?_
  refine w_puti hx hb hts (z_memU u12) tyX12 tyX12_ok nmX12 hown hK.1 hS hS0 f12_35 (by decide) (zkd_of (rfl : zcd wR 0 = 50) rfl) (Or.inl (hts _ (z_mem k979))) rfl (z := 0) (by decide +kernel) dX12_row_2 (fun H locs hS hS0 => ?_)
  obtain ⟨M1, e2⟩ : ∃ M1 : zM, M1 = zup M 0 35 0 := ⟨_, rfl⟩
  rw [← e2] at hS
  have h := h M1 e2
  refine lv_iload_n hx hb dX12_row_5 rfl (lv_at hl 1 rfl) ?_
  refine z_iconst hx hb dX12_row_6 ?_
  refine lv_aload_n hx hb dX12_row_7 rfl (lv_at hl 0 rfl) ?_
  refine w_geti hx hb hts (z_memU u12) hown hK.1 hS f12_34 (by decide) (zkd_of (rfl : zcd wR 0 = 50) rfl) (Or.inl (hts _ (z_mem k978))) dX12_row_8 ?_
  refine z_iconst hx hb dX12_row_11 ?_
  refine z_isub hx hb dX12_row_12 ?_
  refine w_callz (va_runS (As := [.int (iI a0), .int (iI 0), .int (iI ((M1 0 34) - 1))]) (rest := []) ⟨hx, hb, hml, hown, hts⟩ (cR_in l D dA b M1 a0 0 ((M1 0 34) - 1) _ h) (va_cwS 3 hts (z_gS k1083 k1084 k14 k1085) rfl rfl rfl dm_X12_in.2 ⟨Nat.le_of_ble_eq_true rfl, Nat.le_of_ble_eq_true rfl⟩) ⟨wPre_blind, w_pre hS hK⟩ rfl rfl hl.1 rfl (lv_room (Nat.le_of_ble_eq_true rfl)) dX12_row_13 ⟨Nat.le_refl _, Nat.le_refl _⟩) hS0 (fun z4 M3 H locs r5 h hS hS0 => ?_)
  obtain ⟨e6, h⟩ := h
  rw [e6] at hS
  refine w_if_ne (tgt := 26) hx hb (sI_01 r5) dX12_row_16 (by decide) (fun c7 => ?_) (fun c7 => ?_)
  · skip
    have h := h.1 c7
    refine lv_aload_n hx hb dX12_row_26 rfl (lv_at hl 0 rfl) ?_
    refine w_getr (j2 := 22) hx hb hts (z_memU u12) hown hK.1 hS f12_33 (by decide) (zkd_of (rfl : zcd wR 0 = 50) rfl) (zrf_of (rfl : zcd wR 0 = 50) rfl) (Or.inl (hts _ (z_mem k977))) dX12_row_27 ?_
    refine lv_iload_n hx hb dX12_row_30 rfl (lv_at hl 1 rfl) ?_
    obtain ⟨o8, h⟩ := h
    refine w_iald (n := 64) (i := (sI a0)) hx hb hK.1 (t0 := 0) rfl hS (by decide) (zkd_of (rfl : zcd wR 22 = 72) rfl) (zln_of (rfl : zcd wR 22 = 72) rfl) rfl o8.1 o8.2 (by decide) dX12_row_31 ?_
    exact w_iret hx hb hr hlocks hS hS0 rfl h dX12_row_32
  · skip
    have h := h.2 c7
    refine lv_aload_n hx hb dX12_row_19 rfl (lv_at hl 0 rfl) ?_
    refine z_iconst hx hb dX12_row_20 ?_
    refine w_puti hx hb hts (z_memU u12) tyX12 tyX12_ok nmX12 hown hK.1 hS hS0 f12_35 (by decide) (zkd_of (rfl : zcd wR 0 = 50) rfl) (Or.inl (hts _ (z_mem k979))) rfl (z := 1) (by decide +kernel) dX12_row_21 (fun H locs hS hS0 => ?_)
    obtain ⟨M9, e10⟩ : ∃ M9 : zM, M9 = zup M1 0 35 1 := ⟨_, rfl⟩
    rw [← e10] at hS
    have h := h M9 e10
    refine z_iconst hx hb dX12_row_24 ?_
    exact w_iret hx hb hr hlocks hS hS0 (sI_of (by decide)) h dX12_row_25
end zz10_w24
