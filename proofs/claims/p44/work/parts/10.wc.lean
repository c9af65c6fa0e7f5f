section zz10_w13
/-! the W layer, 13 -/
theorem q10w13_0_0 : (cX10_editsTurned.data.toList.drop 0).take 24 = [3, 54, 4, 21, 4, 44, 180, 0, 36, 163, 0, 18, 42, 180, 0, 28, 21, 4, 21, 4, 79, 132, 4, 1] := by decide +kernel
theorem q10w13_0_24 : (cX10_editsTurned.data.toList.drop 24).take 24 = [167, 255, 235, 3, 54, 4, 21, 4, 43, 180, 0, 36, 162, 0, 134, 42, 180, 0, 28, 3, 46, 54, 5, 42] := by decide +kernel
theorem q10w13_0_48 : (cX10_editsTurned.data.toList.drop 48).take 22 = [180, 0, 28, 3, 21, 4, 4, 96, 79, 3, 54, 6, 21, 6, 44, 180, 0, 36, 162, 0, 98, 43] := by decide +kernel
theorem q10w13_0_70 : (cX10_editsTurned.data.toList.drop 70).take 23 = [180, 0, 52, 21, 4, 46, 44, 180, 0, 52, 29, 21, 6, 96, 133, 44, 180, 0, 36, 184, 0, 55, 46] := by decide +kernel
theorem q10w13_0_93 : (cX10_editsTurned.data.toList.drop 93).take 24 = [160, 0, 7, 4, 167, 0, 4, 3, 54, 7, 21, 7, 153, 0, 8, 21, 5, 167, 0, 7, 21, 5, 4, 96] := by decide +kernel
theorem q10w13_0_117 : (cX10_editsTurned.data.toList.drop 117).take 24 = [54, 8, 42, 180, 0, 28, 21, 6, 4, 96, 46, 54, 5, 42, 180, 0, 28, 21, 6, 4, 96, 21, 8, 4] := by decide +kernel
theorem q10w13_0_141 : (cX10_editsTurned.data.toList.drop 141).take 23 = [21, 5, 42, 180, 0, 28, 21, 6, 46, 184, 0, 49, 96, 184, 0, 49, 79, 132, 6, 1, 167, 255, 155] := by decide +kernel
theorem q10w13_0_164 : (cX10_editsTurned.data.toList.drop 164).take 16 = [132, 4, 1, 167, 255, 119, 42, 180, 0, 28, 44, 180, 0, 36, 46, 172] := by decide +kernel
theorem dX10_editsTurned_0 : decode cX10_editsTurned 0 = .ok (.iconst 0, 1) := dz_3 (dz_at q10w13_0_0 0)
theorem dX10_editsTurned_1 : decode cX10_editsTurned 1 = .ok (.istore 4, 2) := dz_54 (dz_at q10w13_0_0 1)
theorem dX10_editsTurned_100 : decode cX10_editsTurned 100 = .ok (.iconst 0, 1) := dz_3 (dz_at q10w13_0_93 7)
theorem dX10_editsTurned_101 : decode cX10_editsTurned 101 = .ok (.istore 7, 2) := dz_54 (dz_at q10w13_0_93 8)
theorem dX10_editsTurned_103 : decode cX10_editsTurned 103 = .ok (.iload 7, 2) := dz_21 (dz_at q10w13_0_93 10)
theorem dX10_editsTurned_105 : decode cX10_editsTurned 105 = .ok (.ifCond .eq 8, 3) := dz_153 (dz_at q10w13_0_93 12) (by decide +kernel)
theorem dX10_editsTurned_108 : decode cX10_editsTurned 108 = .ok (.iload 5, 2) := dz_21 (dz_at q10w13_0_93 15)
theorem dX10_editsTurned_110 : decode cX10_editsTurned 110 = .ok (.goto 7, 3) := dz_167 (dz_at q10w13_0_93 17) (by decide +kernel)
theorem dX10_editsTurned_113 : decode cX10_editsTurned 113 = .ok (.iload 5, 2) := dz_21 (dz_at q10w13_0_93 20)
theorem dX10_editsTurned_115 : decode cX10_editsTurned 115 = .ok (.iconst 1, 1) := dz_4 (dz_at q10w13_0_93 22)
theorem dX10_editsTurned_116 : decode cX10_editsTurned 116 = .ok (.iadd, 1) := dz_96 (dz_at q10w13_0_93 23)
theorem dX10_editsTurned_117 : decode cX10_editsTurned 117 = .ok (.istore 8, 2) := dz_54 (dz_at q10w13_0_117 0)
theorem dX10_editsTurned_119 : decode cX10_editsTurned 119 = .ok (.aload_n 0, 1) := dz_42 (dz_at q10w13_0_117 2)
theorem dX10_editsTurned_12 : decode cX10_editsTurned 12 = .ok (.aload_n 0, 1) := dz_42 (dz_at q10w13_0_0 12)
theorem dX10_editsTurned_120 : decode cX10_editsTurned 120 = .ok (.getfield 28, 3) := dz_180 (dz_at q10w13_0_117 3) rfl
theorem dX10_editsTurned_123 : decode cX10_editsTurned 123 = .ok (.iload 6, 2) := dz_21 (dz_at q10w13_0_117 6)
theorem dX10_editsTurned_125 : decode cX10_editsTurned 125 = .ok (.iconst 1, 1) := dz_4 (dz_at q10w13_0_117 8)
theorem dX10_editsTurned_126 : decode cX10_editsTurned 126 = .ok (.iadd, 1) := dz_96 (dz_at q10w13_0_117 9)
theorem dX10_editsTurned_127 : decode cX10_editsTurned 127 = .ok (.iaload, 1) := dz_46 (dz_at q10w13_0_117 10)
theorem dX10_editsTurned_128 : decode cX10_editsTurned 128 = .ok (.istore 5, 2) := dz_54 (dz_at q10w13_0_117 11)
theorem dX10_editsTurned_13 : decode cX10_editsTurned 13 = .ok (.getfield 28, 3) := dz_180 (dz_at q10w13_0_0 13) rfl
theorem dX10_editsTurned_130 : decode cX10_editsTurned 130 = .ok (.aload_n 0, 1) := dz_42 (dz_at q10w13_0_117 13)
theorem dX10_editsTurned_131 : decode cX10_editsTurned 131 = .ok (.getfield 28, 3) := dz_180 (dz_at q10w13_0_117 14) rfl
theorem dX10_editsTurned_134 : decode cX10_editsTurned 134 = .ok (.iload 6, 2) := dz_21 (dz_at q10w13_0_117 17)
theorem dX10_editsTurned_136 : decode cX10_editsTurned 136 = .ok (.iconst 1, 1) := dz_4 (dz_at q10w13_0_117 19)
theorem dX10_editsTurned_137 : decode cX10_editsTurned 137 = .ok (.iadd, 1) := dz_96 (dz_at q10w13_0_117 20)
theorem dX10_editsTurned_138 : decode cX10_editsTurned 138 = .ok (.iload 8, 2) := dz_21 (dz_at q10w13_0_117 21)
theorem dX10_editsTurned_140 : decode cX10_editsTurned 140 = .ok (.iconst 1, 1) := dz_4 (dz_at q10w13_0_117 23)
theorem dX10_editsTurned_141 : decode cX10_editsTurned 141 = .ok (.iload 5, 2) := dz_21 (dz_at q10w13_0_141 0)
theorem dX10_editsTurned_143 : decode cX10_editsTurned 143 = .ok (.aload_n 0, 1) := dz_42 (dz_at q10w13_0_141 2)
theorem dX10_editsTurned_144 : decode cX10_editsTurned 144 = .ok (.getfield 28, 3) := dz_180 (dz_at q10w13_0_141 3) rfl
theorem dX10_editsTurned_147 : decode cX10_editsTurned 147 = .ok (.iload 6, 2) := dz_21 (dz_at q10w13_0_141 6)
theorem dX10_editsTurned_149 : decode cX10_editsTurned 149 = .ok (.iaload, 1) := dz_46 (dz_at q10w13_0_141 8)
theorem dX10_editsTurned_150 : decode cX10_editsTurned 150 = .ok (.invokestatic 49, 3) := dz_184 (dz_at q10w13_0_141 9) rfl
theorem dX10_editsTurned_153 : decode cX10_editsTurned 153 = .ok (.iadd, 1) := dz_96 (dz_at q10w13_0_141 12)
theorem dX10_editsTurned_154 : decode cX10_editsTurned 154 = .ok (.invokestatic 49, 3) := dz_184 (dz_at q10w13_0_141 13) rfl
theorem dX10_editsTurned_157 : decode cX10_editsTurned 157 = .ok (.iastore, 1) := dz_79 (dz_at q10w13_0_141 16)
theorem dX10_editsTurned_158 : decode cX10_editsTurned 158 = .ok (.iinc 6 1, 3) := dz_132 (dz_at q10w13_0_141 17) (by decide +kernel)
theorem dX10_editsTurned_16 : decode cX10_editsTurned 16 = .ok (.iload 4, 2) := dz_21 (dz_at q10w13_0_0 16)
theorem dX10_editsTurned_161 : decode cX10_editsTurned 161 = .ok (.goto (-101), 3) := dz_167 (dz_at q10w13_0_141 20) (by decide +kernel)
theorem dX10_editsTurned_164 : decode cX10_editsTurned 164 = .ok (.iinc 4 1, 3) := dz_132 (dz_at q10w13_0_164 0) (by decide +kernel)
theorem dX10_editsTurned_167 : decode cX10_editsTurned 167 = .ok (.goto (-137), 3) := dz_167 (dz_at q10w13_0_164 3) (by decide +kernel)
theorem dX10_editsTurned_170 : decode cX10_editsTurned 170 = .ok (.aload_n 0, 1) := dz_42 (dz_at q10w13_0_164 6)
theorem dX10_editsTurned_171 : decode cX10_editsTurned 171 = .ok (.getfield 28, 3) := dz_180 (dz_at q10w13_0_164 7) rfl
theorem dX10_editsTurned_174 : decode cX10_editsTurned 174 = .ok (.aload_n 2, 1) := dz_44 (dz_at q10w13_0_164 10)
theorem dX10_editsTurned_175 : decode cX10_editsTurned 175 = .ok (.getfield 36, 3) := dz_180 (dz_at q10w13_0_164 11) rfl
theorem dX10_editsTurned_178 : decode cX10_editsTurned 178 = .ok (.iaload, 1) := dz_46 (dz_at q10w13_0_164 14)
theorem dX10_editsTurned_179 : decode cX10_editsTurned 179 = .ok (.ireturn, 1) := dz_172 (dz_at q10w13_0_164 15)
theorem dX10_editsTurned_18 : decode cX10_editsTurned 18 = .ok (.iload 4, 2) := dz_21 (dz_at q10w13_0_0 18)
theorem dX10_editsTurned_20 : decode cX10_editsTurned 20 = .ok (.iastore, 1) := dz_79 (dz_at q10w13_0_0 20)
theorem dX10_editsTurned_21 : decode cX10_editsTurned 21 = .ok (.iinc 4 1, 3) := dz_132 (dz_at q10w13_0_0 21) (by decide +kernel)
theorem dX10_editsTurned_24 : decode cX10_editsTurned 24 = .ok (.goto (-21), 3) := dz_167 (dz_at q10w13_0_24 0) (by decide +kernel)
theorem dX10_editsTurned_27 : decode cX10_editsTurned 27 = .ok (.iconst 0, 1) := dz_3 (dz_at q10w13_0_24 3)
theorem dX10_editsTurned_28 : decode cX10_editsTurned 28 = .ok (.istore 4, 2) := dz_54 (dz_at q10w13_0_24 4)
theorem dX10_editsTurned_3 : decode cX10_editsTurned 3 = .ok (.iload 4, 2) := dz_21 (dz_at q10w13_0_0 3)
theorem dX10_editsTurned_30 : decode cX10_editsTurned 30 = .ok (.iload 4, 2) := dz_21 (dz_at q10w13_0_24 6)
theorem dX10_editsTurned_32 : decode cX10_editsTurned 32 = .ok (.aload_n 1, 1) := dz_43 (dz_at q10w13_0_24 8)
theorem dX10_editsTurned_33 : decode cX10_editsTurned 33 = .ok (.getfield 36, 3) := dz_180 (dz_at q10w13_0_24 9) rfl
theorem dX10_editsTurned_36 : decode cX10_editsTurned 36 = .ok (.if_icmp .ge 134, 3) := dz_162 (dz_at q10w13_0_24 12) (by decide +kernel)
theorem dX10_editsTurned_39 : decode cX10_editsTurned 39 = .ok (.aload_n 0, 1) := dz_42 (dz_at q10w13_0_24 15)
theorem dX10_editsTurned_40 : decode cX10_editsTurned 40 = .ok (.getfield 28, 3) := dz_180 (dz_at q10w13_0_24 16) rfl
theorem dX10_editsTurned_43 : decode cX10_editsTurned 43 = .ok (.iconst 0, 1) := dz_3 (dz_at q10w13_0_24 19)
theorem dX10_editsTurned_44 : decode cX10_editsTurned 44 = .ok (.iaload, 1) := dz_46 (dz_at q10w13_0_24 20)
theorem dX10_editsTurned_45 : decode cX10_editsTurned 45 = .ok (.istore 5, 2) := dz_54 (dz_at q10w13_0_24 21)
theorem dX10_editsTurned_47 : decode cX10_editsTurned 47 = .ok (.aload_n 0, 1) := dz_42 (dz_at q10w13_0_24 23)
theorem dX10_editsTurned_48 : decode cX10_editsTurned 48 = .ok (.getfield 28, 3) := dz_180 (dz_at q10w13_0_48 0) rfl
theorem dX10_editsTurned_5 : decode cX10_editsTurned 5 = .ok (.aload_n 2, 1) := dz_44 (dz_at q10w13_0_0 5)
theorem dX10_editsTurned_51 : decode cX10_editsTurned 51 = .ok (.iconst 0, 1) := dz_3 (dz_at q10w13_0_48 3)
theorem dX10_editsTurned_52 : decode cX10_editsTurned 52 = .ok (.iload 4, 2) := dz_21 (dz_at q10w13_0_48 4)
theorem dX10_editsTurned_54 : decode cX10_editsTurned 54 = .ok (.iconst 1, 1) := dz_4 (dz_at q10w13_0_48 6)
theorem dX10_editsTurned_55 : decode cX10_editsTurned 55 = .ok (.iadd, 1) := dz_96 (dz_at q10w13_0_48 7)
theorem dX10_editsTurned_56 : decode cX10_editsTurned 56 = .ok (.iastore, 1) := dz_79 (dz_at q10w13_0_48 8)
theorem dX10_editsTurned_57 : decode cX10_editsTurned 57 = .ok (.iconst 0, 1) := dz_3 (dz_at q10w13_0_48 9)
theorem dX10_editsTurned_58 : decode cX10_editsTurned 58 = .ok (.istore 6, 2) := dz_54 (dz_at q10w13_0_48 10)
theorem dX10_editsTurned_6 : decode cX10_editsTurned 6 = .ok (.getfield 36, 3) := dz_180 (dz_at q10w13_0_0 6) rfl
theorem dX10_editsTurned_60 : decode cX10_editsTurned 60 = .ok (.iload 6, 2) := dz_21 (dz_at q10w13_0_48 12)
theorem dX10_editsTurned_62 : decode cX10_editsTurned 62 = .ok (.aload_n 2, 1) := dz_44 (dz_at q10w13_0_48 14)
theorem dX10_editsTurned_63 : decode cX10_editsTurned 63 = .ok (.getfield 36, 3) := dz_180 (dz_at q10w13_0_48 15) rfl
theorem dX10_editsTurned_66 : decode cX10_editsTurned 66 = .ok (.if_icmp .ge 98, 3) := dz_162 (dz_at q10w13_0_48 18) (by decide +kernel)
theorem dX10_editsTurned_69 : decode cX10_editsTurned 69 = .ok (.aload_n 1, 1) := dz_43 (dz_at q10w13_0_48 21)
theorem dX10_editsTurned_70 : decode cX10_editsTurned 70 = .ok (.getfield 52, 3) := dz_180 (dz_at q10w13_0_70 0) rfl
theorem dX10_editsTurned_73 : decode cX10_editsTurned 73 = .ok (.iload 4, 2) := dz_21 (dz_at q10w13_0_70 3)
theorem dX10_editsTurned_75 : decode cX10_editsTurned 75 = .ok (.iaload, 1) := dz_46 (dz_at q10w13_0_70 5)
theorem dX10_editsTurned_76 : decode cX10_editsTurned 76 = .ok (.aload_n 2, 1) := dz_44 (dz_at q10w13_0_70 6)
theorem dX10_editsTurned_77 : decode cX10_editsTurned 77 = .ok (.getfield 52, 3) := dz_180 (dz_at q10w13_0_70 7) rfl
theorem dX10_editsTurned_80 : decode cX10_editsTurned 80 = .ok (.iload_n 3, 1) := dz_29 (dz_at q10w13_0_70 10)
theorem dX10_editsTurned_81 : decode cX10_editsTurned 81 = .ok (.iload 6, 2) := dz_21 (dz_at q10w13_0_70 11)
theorem dX10_editsTurned_83 : decode cX10_editsTurned 83 = .ok (.iadd, 1) := dz_96 (dz_at q10w13_0_70 13)
theorem dX10_editsTurned_84 : decode cX10_editsTurned 84 = .ok (.i2l, 1) := dz_133 (dz_at q10w13_0_70 14)
theorem dX10_editsTurned_85 : decode cX10_editsTurned 85 = .ok (.aload_n 2, 1) := dz_44 (dz_at q10w13_0_70 15)
theorem dX10_editsTurned_86 : decode cX10_editsTurned 86 = .ok (.getfield 36, 3) := dz_180 (dz_at q10w13_0_70 16) rfl
theorem dX10_editsTurned_89 : decode cX10_editsTurned 89 = .ok (.invokestatic 55, 3) := dz_184 (dz_at q10w13_0_70 19) rfl
theorem dX10_editsTurned_9 : decode cX10_editsTurned 9 = .ok (.if_icmp .gt 18, 3) := dz_163 (dz_at q10w13_0_0 9) (by decide +kernel)
theorem dX10_editsTurned_92 : decode cX10_editsTurned 92 = .ok (.iaload, 1) := dz_46 (dz_at q10w13_0_70 22)
theorem dX10_editsTurned_93 : decode cX10_editsTurned 93 = .ok (.if_icmp .ne 7, 3) := dz_160 (dz_at q10w13_0_93 0) (by decide +kernel)
theorem dX10_editsTurned_96 : decode cX10_editsTurned 96 = .ok (.iconst 1, 1) := dz_4 (dz_at q10w13_0_93 3)
theorem dX10_editsTurned_97 : decode cX10_editsTurned 97 = .ok (.goto 4, 3) := dz_167 (dz_at q10w13_0_93 4) (by decide +kernel)
theorem q10w13_1_0 : (cX10_fewestEdits.data.toList.drop 0).take 24 = [43, 180, 0, 36, 44, 180, 0, 36, 184, 0, 39, 62, 3, 54, 4, 21, 4, 44, 180, 0, 36, 162, 0, 22] := by decide +kernel
theorem q10w13_1_24 : (cX10_fewestEdits.data.toList.drop 24).take 21 = [29, 42, 43, 44, 21, 4, 182, 0, 45, 184, 0, 49, 62, 132, 4, 1, 167, 255, 231, 29, 172] := by decide +kernel
theorem dX10_fewestEdits_0 : decode cX10_fewestEdits 0 = .ok (.aload_n 1, 1) := dz_43 (dz_at q10w13_1_0 0)
theorem dX10_fewestEdits_1 : decode cX10_fewestEdits 1 = .ok (.getfield 36, 3) := dz_180 (dz_at q10w13_1_0 1) rfl
theorem dX10_fewestEdits_11 : decode cX10_fewestEdits 11 = .ok (.istore_n 3, 1) := dz_62 (dz_at q10w13_1_0 11)
theorem dX10_fewestEdits_12 : decode cX10_fewestEdits 12 = .ok (.iconst 0, 1) := dz_3 (dz_at q10w13_1_0 12)
theorem dX10_fewestEdits_13 : decode cX10_fewestEdits 13 = .ok (.istore 4, 2) := dz_54 (dz_at q10w13_1_0 13)
theorem dX10_fewestEdits_15 : decode cX10_fewestEdits 15 = .ok (.iload 4, 2) := dz_21 (dz_at q10w13_1_0 15)
theorem dX10_fewestEdits_17 : decode cX10_fewestEdits 17 = .ok (.aload_n 2, 1) := dz_44 (dz_at q10w13_1_0 17)
theorem dX10_fewestEdits_18 : decode cX10_fewestEdits 18 = .ok (.getfield 36, 3) := dz_180 (dz_at q10w13_1_0 18) rfl
theorem dX10_fewestEdits_21 : decode cX10_fewestEdits 21 = .ok (.if_icmp .ge 22, 3) := dz_162 (dz_at q10w13_1_0 21) (by decide +kernel)
theorem dX10_fewestEdits_24 : decode cX10_fewestEdits 24 = .ok (.iload_n 3, 1) := dz_29 (dz_at q10w13_1_24 0)
theorem dX10_fewestEdits_25 : decode cX10_fewestEdits 25 = .ok (.aload_n 0, 1) := dz_42 (dz_at q10w13_1_24 1)
theorem dX10_fewestEdits_26 : decode cX10_fewestEdits 26 = .ok (.aload_n 1, 1) := dz_43 (dz_at q10w13_1_24 2)
theorem dX10_fewestEdits_27 : decode cX10_fewestEdits 27 = .ok (.aload_n 2, 1) := dz_44 (dz_at q10w13_1_24 3)
theorem dX10_fewestEdits_28 : decode cX10_fewestEdits 28 = .ok (.iload 4, 2) := dz_21 (dz_at q10w13_1_24 4)
theorem dX10_fewestEdits_30 : decode cX10_fewestEdits 30 = .ok (.invokevirtual 45, 3) := dz_182 (dz_at q10w13_1_24 6) rfl
theorem dX10_fewestEdits_33 : decode cX10_fewestEdits 33 = .ok (.invokestatic 49, 3) := dz_184 (dz_at q10w13_1_24 9) rfl
theorem dX10_fewestEdits_36 : decode cX10_fewestEdits 36 = .ok (.istore_n 3, 1) := dz_62 (dz_at q10w13_1_24 12)
theorem dX10_fewestEdits_37 : decode cX10_fewestEdits 37 = .ok (.iinc 4 1, 3) := dz_132 (dz_at q10w13_1_24 13) (by decide +kernel)
theorem dX10_fewestEdits_4 : decode cX10_fewestEdits 4 = .ok (.aload_n 2, 1) := dz_44 (dz_at q10w13_1_0 4)
theorem dX10_fewestEdits_40 : decode cX10_fewestEdits 40 = .ok (.goto (-25), 3) := dz_167 (dz_at q10w13_1_24 16) (by decide +kernel)
theorem dX10_fewestEdits_43 : decode cX10_fewestEdits 43 = .ok (.iload_n 3, 1) := dz_29 (dz_at q10w13_1_24 19)
theorem dX10_fewestEdits_44 : decode cX10_fewestEdits 44 = .ok (.ireturn, 1) := dz_172 (dz_at q10w13_1_24 20)
theorem dX10_fewestEdits_5 : decode cX10_fewestEdits 5 = .ok (.getfield 36, 3) := dz_180 (dz_at q10w13_1_0 5) rfl
theorem dX10_fewestEdits_8 : decode cX10_fewestEdits 8 = .ok (.invokestatic 39, 3) := dz_184 (dz_at q10w13_1_0 8) rfl
theorem q10w13_2_0 : (cX11_edits.data.toList.drop 0).take 23 = [42, 180, 0, 68, 27, 182, 1, 21, 78, 42, 180, 0, 68, 28, 182, 1, 21, 58, 4, 45, 198, 0, 8] := by decide +kernel
theorem q10w13_2_23 : (cX11_edits.data.toList.drop 23).take 20 = [25, 4, 199, 0, 7, 2, 167, 0, 13, 42, 180, 0, 68, 45, 25, 4, 182, 1, 28, 172] := by decide +kernel
theorem dX11_edits_0 : decode cX11_edits 0 = .ok (.aload_n 0, 1) := dz_42 (dz_at q10w13_2_0 0)
theorem dX11_edits_1 : decode cX11_edits 1 = .ok (.getfield 68, 3) := dz_180 (dz_at q10w13_2_0 1) rfl
theorem dX11_edits_10 : decode cX11_edits 10 = .ok (.getfield 68, 3) := dz_180 (dz_at q10w13_2_0 10) rfl
theorem dX11_edits_13 : decode cX11_edits 13 = .ok (.iload_n 2, 1) := dz_28 (dz_at q10w13_2_0 13)
theorem dX11_edits_14 : decode cX11_edits 14 = .ok (.invokevirtual 277, 3) := dz_182 (dz_at q10w13_2_0 14) rfl
theorem dX11_edits_17 : decode cX11_edits 17 = .ok (.astore 4, 2) := dz_58 (dz_at q10w13_2_0 17)
theorem dX11_edits_19 : decode cX11_edits 19 = .ok (.aload_n 3, 1) := dz_45 (dz_at q10w13_2_0 19)
theorem dX11_edits_20 : decode cX11_edits 20 = .ok (.ifnull 8, 3) := dz_198 (dz_at q10w13_2_0 20) (by decide +kernel)
theorem dX11_edits_23 : decode cX11_edits 23 = .ok (.aload 4, 2) := dz_25 (dz_at q10w13_2_23 0)
theorem dX11_edits_25 : decode cX11_edits 25 = .ok (.ifnonnull 7, 3) := dz_199 (dz_at q10w13_2_23 2) (by decide +kernel)
theorem dX11_edits_28 : decode cX11_edits 28 = .ok (.iconst (-1), 1) := dz_2 (dz_at q10w13_2_23 5)
theorem dX11_edits_29 : decode cX11_edits 29 = .ok (.goto 13, 3) := dz_167 (dz_at q10w13_2_23 6) (by decide +kernel)
theorem dX11_edits_32 : decode cX11_edits 32 = .ok (.aload_n 0, 1) := dz_42 (dz_at q10w13_2_23 9)
theorem dX11_edits_33 : decode cX11_edits 33 = .ok (.getfield 68, 3) := dz_180 (dz_at q10w13_2_23 10) rfl
theorem dX11_edits_36 : decode cX11_edits 36 = .ok (.aload_n 3, 1) := dz_45 (dz_at q10w13_2_23 13)
theorem dX11_edits_37 : decode cX11_edits 37 = .ok (.aload 4, 2) := dz_25 (dz_at q10w13_2_23 14)
theorem dX11_edits_39 : decode cX11_edits 39 = .ok (.invokevirtual 284, 3) := dz_182 (dz_at q10w13_2_23 16) rfl
theorem dX11_edits_4 : decode cX11_edits 4 = .ok (.iload_n 1, 1) := dz_27 (dz_at q10w13_2_0 4)
theorem dX11_edits_42 : decode cX11_edits 42 = .ok (.ireturn, 1) := dz_172 (dz_at q10w13_2_23 19)
theorem dX11_edits_5 : decode cX11_edits 5 = .ok (.invokevirtual 277, 3) := dz_182 (dz_at q10w13_2_0 5) rfl
theorem dX11_edits_8 : decode cX11_edits 8 = .ok (.astore_n 3, 1) := dz_78 (dz_at q10w13_2_0 8)
theorem dX11_edits_9 : decode cX11_edits 9 = .ok (.aload_n 0, 1) := dz_42 (dz_at q10w13_2_0 9)
theorem q10w13_3_0 : (cX11_row.data.toList.drop 0).take 24 = [27, 155, 0, 20, 27, 42, 180, 0, 76, 162, 0, 12, 27, 42, 180, 0, 72, 190, 161, 0, 11, 187, 0, 156] := by decide +kernel
theorem q10w13_3_24 : (cX11_row.data.toList.drop 24).take 12 = [89, 183, 0, 158, 191, 42, 180, 0, 72, 27, 46, 172] := by decide +kernel
theorem dX11_row_0 : decode cX11_row 0 = .ok (.iload_n 1, 1) := dz_27 (dz_at q10w13_3_0 0)
theorem dX11_row_1 : decode cX11_row 1 = .ok (.ifCond .lt 20, 3) := dz_155 (dz_at q10w13_3_0 1) (by decide +kernel)
theorem dX11_row_12 : decode cX11_row 12 = .ok (.iload_n 1, 1) := dz_27 (dz_at q10w13_3_0 12)
theorem dX11_row_13 : decode cX11_row 13 = .ok (.aload_n 0, 1) := dz_42 (dz_at q10w13_3_0 13)
theorem dX11_row_14 : decode cX11_row 14 = .ok (.getfield 72, 3) := dz_180 (dz_at q10w13_3_0 14) rfl
theorem dX11_row_17 : decode cX11_row 17 = .ok (.arraylength, 1) := dz_190 (dz_at q10w13_3_0 17)
theorem dX11_row_18 : decode cX11_row 18 = .ok (.if_icmp .lt 11, 3) := dz_161 (dz_at q10w13_3_0 18) (by decide +kernel)
theorem dX11_row_21 : decode cX11_row 21 = .ok (.new 156, 3) := dz_187 (dz_at q10w13_3_0 21) rfl
theorem dX11_row_24 : decode cX11_row 24 = .ok (.dup, 1) := dz_89 (dz_at q10w13_3_24 0)
theorem dX11_row_25 : decode cX11_row 25 = .ok (.invokespecial 158, 3) := dz_183 (dz_at q10w13_3_24 1) rfl
theorem dX11_row_28 : decode cX11_row 28 = .ok (.athrow, 1) := dz_191 (dz_at q10w13_3_24 4)
theorem dX11_row_29 : decode cX11_row 29 = .ok (.aload_n 0, 1) := dz_42 (dz_at q10w13_3_24 5)
theorem dX11_row_30 : decode cX11_row 30 = .ok (.getfield 72, 3) := dz_180 (dz_at q10w13_3_24 6) rfl
theorem dX11_row_33 : decode cX11_row 33 = .ok (.iload_n 1, 1) := dz_27 (dz_at q10w13_3_24 9)
theorem dX11_row_34 : decode cX11_row 34 = .ok (.iaload, 1) := dz_46 (dz_at q10w13_3_24 10)
theorem dX11_row_35 : decode cX11_row 35 = .ok (.ireturn, 1) := dz_172 (dz_at q10w13_3_24 11)
theorem dX11_row_4 : decode cX11_row 4 = .ok (.iload_n 1, 1) := dz_27 (dz_at q10w13_3_0 4)
theorem dX11_row_5 : decode cX11_row 5 = .ok (.aload_n 0, 1) := dz_42 (dz_at q10w13_3_0 5)
theorem dX11_row_6 : decode cX11_row 6 = .ok (.getfield 76, 3) := dz_180 (dz_at q10w13_3_0 6) rfl
theorem dX11_row_9 : decode cX11_row 9 = .ok (.if_icmp .ge 12, 3) := dz_162 (dz_at q10w13_3_0 9) (by decide +kernel)
theorem q10w13_4_0 : (cX12_areSounds.data.toList.drop 0).take 14 = [26, 17, 252, 1, 126, 154, 0, 7, 4, 167, 0, 4, 3, 172] := by decide +kernel
theorem dX12_areSounds_0 : decode cX12_areSounds 0 = .ok (.iload_n 0, 1) := dz_26 (dz_at q10w13_4_0 0)
theorem dX12_areSounds_1 : decode cX12_areSounds 1 = .ok (.sipush (-1023), 3) := dz_17 (dz_at q10w13_4_0 1) (by decide +kernel)
theorem dX12_areSounds_12 : decode cX12_areSounds 12 = .ok (.iconst 0, 1) := dz_3 (dz_at q10w13_4_0 12)
theorem dX12_areSounds_13 : decode cX12_areSounds 13 = .ok (.ireturn, 1) := dz_172 (dz_at q10w13_4_0 13)
theorem dX12_areSounds_4 : decode cX12_areSounds 4 = .ok (.iand, 1) := dz_126 (dz_at q10w13_4_0 4)
theorem dX12_areSounds_5 : decode cX12_areSounds 5 = .ok (.ifCond .ne 7, 3) := dz_154 (dz_at q10w13_4_0 5) (by decide +kernel)
theorem dX12_areSounds_8 : decode cX12_areSounds 8 = .ok (.iconst 1, 1) := dz_4 (dz_at q10w13_4_0 8)
theorem dX12_areSounds_9 : decode cX12_areSounds 9 = .ok (.goto 4, 3) := dz_167 (dz_at q10w13_4_0 9) (by decide +kernel)
theorem q10w13_5_0 : (cX12_end.data.toList.drop 0).take 24 = [42, 3, 181, 0, 118, 27, 155, 0, 11, 27, 42, 180, 0, 128, 164, 0, 5, 3, 172, 42, 27, 181, 0, 128] := by decide +kernel
theorem q10w13_5_24 : (cX12_end.data.toList.drop 24).take 2 = [4, 172] := by decide +kernel
theorem dX12_end_0 : decode cX12_end 0 = .ok (.aload_n 0, 1) := dz_42 (dz_at q10w13_5_0 0)
theorem dX12_end_1 : decode cX12_end 1 = .ok (.iconst 0, 1) := dz_3 (dz_at q10w13_5_0 1)
theorem dX12_end_10 : decode cX12_end 10 = .ok (.aload_n 0, 1) := dz_42 (dz_at q10w13_5_0 10)
theorem dX12_end_11 : decode cX12_end 11 = .ok (.getfield 128, 3) := dz_180 (dz_at q10w13_5_0 11) rfl
theorem dX12_end_14 : decode cX12_end 14 = .ok (.if_icmp .le 5, 3) := dz_164 (dz_at q10w13_5_0 14) (by decide +kernel)
theorem dX12_end_17 : decode cX12_end 17 = .ok (.iconst 0, 1) := dz_3 (dz_at q10w13_5_0 17)
theorem dX12_end_18 : decode cX12_end 18 = .ok (.ireturn, 1) := dz_172 (dz_at q10w13_5_0 18)
theorem dX12_end_19 : decode cX12_end 19 = .ok (.aload_n 0, 1) := dz_42 (dz_at q10w13_5_0 19)
theorem dX12_end_2 : decode cX12_end 2 = .ok (.putfield 118, 3) := dz_181 (dz_at q10w13_5_0 2) rfl
theorem dX12_end_20 : decode cX12_end 20 = .ok (.iload_n 1, 1) := dz_27 (dz_at q10w13_5_0 20)
theorem dX12_end_21 : decode cX12_end 21 = .ok (.putfield 128, 3) := dz_181 (dz_at q10w13_5_0 21) rfl
theorem dX12_end_24 : decode cX12_end 24 = .ok (.iconst 1, 1) := dz_4 (dz_at q10w13_5_24 0)
theorem dX12_end_25 : decode cX12_end 25 = .ok (.ireturn, 1) := dz_172 (dz_at q10w13_5_24 1)
theorem dX12_end_5 : decode cX12_end 5 = .ok (.iload_n 1, 1) := dz_27 (dz_at q10w13_5_0 5)
theorem dX12_end_6 : decode cX12_end 6 = .ok (.ifCond .lt 11, 3) := dz_155 (dz_at q10w13_5_0 6) (by decide +kernel)
theorem dX12_end_9 : decode cX12_end 9 = .ok (.iload_n 1, 1) := dz_27 (dz_at q10w13_5_0 9)
theorem q10w13_6_0 : (cX12_has.data.toList.drop 0).take 24 = [42, 180, 0, 131, 42, 180, 0, 128, 162, 0, 42, 42, 180, 0, 131, 16, 60, 162, 0, 33, 42, 180, 0, 9] := by decide +kernel
theorem q10w13_6_24 : (cX12_has.data.toList.drop 24).take 23 = [42, 180, 0, 131, 51, 27, 161, 0, 20, 42, 180, 0, 9, 42, 180, 0, 131, 51, 28, 163, 0, 7, 4] := by decide +kernel
theorem q10w13_6_47 : (cX12_has.data.toList.drop 47).take 5 = [167, 0, 4, 3, 172] := by decide +kernel
theorem dX12_has_0 : decode cX12_has 0 = .ok (.aload_n 0, 1) := dz_42 (dz_at q10w13_6_0 0)
theorem dX12_has_1 : decode cX12_has 1 = .ok (.getfield 131, 3) := dz_180 (dz_at q10w13_6_0 1) rfl
theorem dX12_has_11 : decode cX12_has 11 = .ok (.aload_n 0, 1) := dz_42 (dz_at q10w13_6_0 11)
theorem dX12_has_12 : decode cX12_has 12 = .ok (.getfield 131, 3) := dz_180 (dz_at q10w13_6_0 12) rfl
theorem dX12_has_15 : decode cX12_has 15 = .ok (.bipush 60, 2) := dz_16 (dz_at q10w13_6_0 15) (by decide +kernel)
theorem dX12_has_17 : decode cX12_has 17 = .ok (.if_icmp .ge 33, 3) := dz_162 (dz_at q10w13_6_0 17) (by decide +kernel)
theorem dX12_has_20 : decode cX12_has 20 = .ok (.aload_n 0, 1) := dz_42 (dz_at q10w13_6_0 20)
theorem dX12_has_21 : decode cX12_has 21 = .ok (.getfield 9, 3) := dz_180 (dz_at q10w13_6_0 21) rfl
theorem dX12_has_24 : decode cX12_has 24 = .ok (.aload_n 0, 1) := dz_42 (dz_at q10w13_6_24 0)
theorem dX12_has_25 : decode cX12_has 25 = .ok (.getfield 131, 3) := dz_180 (dz_at q10w13_6_24 1) rfl
theorem dX12_has_28 : decode cX12_has 28 = .ok (.baload, 1) := dz_51 (dz_at q10w13_6_24 4)
theorem dX12_has_29 : decode cX12_has 29 = .ok (.iload_n 1, 1) := dz_27 (dz_at q10w13_6_24 5)
theorem dX12_has_30 : decode cX12_has 30 = .ok (.if_icmp .lt 20, 3) := dz_161 (dz_at q10w13_6_24 6) (by decide +kernel)
theorem dX12_has_33 : decode cX12_has 33 = .ok (.aload_n 0, 1) := dz_42 (dz_at q10w13_6_24 9)
theorem dX12_has_34 : decode cX12_has 34 = .ok (.getfield 9, 3) := dz_180 (dz_at q10w13_6_24 10) rfl
theorem dX12_has_37 : decode cX12_has 37 = .ok (.aload_n 0, 1) := dz_42 (dz_at q10w13_6_24 13)
theorem dX12_has_38 : decode cX12_has 38 = .ok (.getfield 131, 3) := dz_180 (dz_at q10w13_6_24 14) rfl
theorem dX12_has_4 : decode cX12_has 4 = .ok (.aload_n 0, 1) := dz_42 (dz_at q10w13_6_0 4)
theorem dX12_has_41 : decode cX12_has 41 = .ok (.baload, 1) := dz_51 (dz_at q10w13_6_24 17)
theorem dX12_has_42 : decode cX12_has 42 = .ok (.iload_n 2, 1) := dz_28 (dz_at q10w13_6_24 18)
theorem dX12_has_43 : decode cX12_has 43 = .ok (.if_icmp .gt 7, 3) := dz_163 (dz_at q10w13_6_24 19) (by decide +kernel)
theorem dX12_has_46 : decode cX12_has 46 = .ok (.iconst 1, 1) := dz_4 (dz_at q10w13_6_24 22)
theorem dX12_has_47 : decode cX12_has 47 = .ok (.goto 4, 3) := dz_167 (dz_at q10w13_6_47 0) (by decide +kernel)
theorem dX12_has_5 : decode cX12_has 5 = .ok (.getfield 128, 3) := dz_180 (dz_at q10w13_6_0 5) rfl
theorem dX12_has_50 : decode cX12_has 50 = .ok (.iconst 0, 1) := dz_3 (dz_at q10w13_6_47 3)
theorem dX12_has_51 : decode cX12_has 51 = .ok (.ireturn, 1) := dz_172 (dz_at q10w13_6_47 4)
theorem dX12_has_8 : decode cX12_has 8 = .ok (.if_icmp .ge 42, 3) := dz_162 (dz_at q10w13_6_0 8) (by decide +kernel)
theorem q10w13_7_0 : (cX12_in.data.toList.drop 0).take 16 = [26, 27, 161, 0, 12, 26, 28, 163, 0, 7, 4, 167, 0, 4, 3, 172] := by decide +kernel
theorem dX12_in_0 : decode cX12_in 0 = .ok (.iload_n 0, 1) := dz_26 (dz_at q10w13_7_0 0)
theorem dX12_in_1 : decode cX12_in 1 = .ok (.iload_n 1, 1) := dz_27 (dz_at q10w13_7_0 1)
theorem dX12_in_10 : decode cX12_in 10 = .ok (.iconst 1, 1) := dz_4 (dz_at q10w13_7_0 10)
theorem dX12_in_11 : decode cX12_in 11 = .ok (.goto 4, 3) := dz_167 (dz_at q10w13_7_0 11) (by decide +kernel)
theorem dX12_in_14 : decode cX12_in 14 = .ok (.iconst 0, 1) := dz_3 (dz_at q10w13_7_0 14)
theorem dX12_in_15 : decode cX12_in 15 = .ok (.ireturn, 1) := dz_172 (dz_at q10w13_7_0 15)
theorem dX12_in_2 : decode cX12_in 2 = .ok (.if_icmp .lt 12, 3) := dz_161 (dz_at q10w13_7_0 2) (by decide +kernel)
theorem dX12_in_5 : decode cX12_in 5 = .ok (.iload_n 0, 1) := dz_26 (dz_at q10w13_7_0 5)
theorem dX12_in_6 : decode cX12_in 6 = .ok (.iload_n 2, 1) := dz_28 (dz_at q10w13_7_0 6)
theorem dX12_in_7 : decode cX12_in 7 = .ok (.if_icmp .gt 7, 3) := dz_163 (dz_at q10w13_7_0 7) (by decide +kernel)
theorem q10w13_8_0 : (cX12_isMotor.data.toList.drop 0).take 15 = [26, 153, 0, 8, 26, 4, 160, 0, 7, 4, 167, 0, 4, 3, 172] := by decide +kernel
theorem dX12_isMotor_0 : decode cX12_isMotor 0 = .ok (.iload_n 0, 1) := dz_26 (dz_at q10w13_8_0 0)
theorem dX12_isMotor_1 : decode cX12_isMotor 1 = .ok (.ifCond .eq 8, 3) := dz_153 (dz_at q10w13_8_0 1) (by decide +kernel)
theorem dX12_isMotor_10 : decode cX12_isMotor 10 = .ok (.goto 4, 3) := dz_167 (dz_at q10w13_8_0 10) (by decide +kernel)
theorem dX12_isMotor_13 : decode cX12_isMotor 13 = .ok (.iconst 0, 1) := dz_3 (dz_at q10w13_8_0 13)
theorem dX12_isMotor_14 : decode cX12_isMotor 14 = .ok (.ireturn, 1) := dz_172 (dz_at q10w13_8_0 14)
theorem dX12_isMotor_4 : decode cX12_isMotor 4 = .ok (.iload_n 0, 1) := dz_26 (dz_at q10w13_8_0 4)
theorem dX12_isMotor_5 : decode cX12_isMotor 5 = .ok (.iconst 1, 1) := dz_4 (dz_at q10w13_8_0 5)
theorem dX12_isMotor_6 : decode cX12_isMotor 6 = .ok (.if_icmp .ne 7, 3) := dz_160 (dz_at q10w13_8_0 6) (by decide +kernel)
theorem dX12_isMotor_9 : decode cX12_isMotor 9 = .ok (.iconst 1, 1) := dz_4 (dz_at q10w13_8_0 9)
theorem q10w13_9_0 : (cX12_isRing.data.toList.drop 0).take 12 = [27, 3, 42, 180, 0, 121, 4, 100, 184, 0, 124, 172] := by decide +kernel
theorem dX12_isRing_0 : decode cX12_isRing 0 = .ok (.iload_n 1, 1) := dz_27 (dz_at q10w13_9_0 0)
theorem dX12_isRing_1 : decode cX12_isRing 1 = .ok (.iconst 0, 1) := dz_3 (dz_at q10w13_9_0 1)
theorem dX12_isRing_11 : decode cX12_isRing 11 = .ok (.ireturn, 1) := dz_172 (dz_at q10w13_9_0 11)
theorem dX12_isRing_2 : decode cX12_isRing 2 = .ok (.aload_n 0, 1) := dz_42 (dz_at q10w13_9_0 2)
theorem dX12_isRing_3 : decode cX12_isRing 3 = .ok (.getfield 121, 3) := dz_180 (dz_at q10w13_9_0 3) rfl
theorem dX12_isRing_6 : decode cX12_isRing 6 = .ok (.iconst 1, 1) := dz_4 (dz_at q10w13_9_0 6)
theorem dX12_isRing_7 : decode cX12_isRing 7 = .ok (.isub, 1) := dz_100 (dz_at q10w13_9_0 7)
theorem dX12_isRing_8 : decode cX12_isRing 8 = .ok (.invokestatic 124, 3) := dz_184 (dz_at q10w13_9_0 8) rfl
theorem q10w13_10_0 : (cX12_sign.data.toList.drop 0).take 23 = [42, 3, 181, 0, 118, 42, 180, 0, 128, 7, 96, 16, 100, 164, 0, 5, 2, 172, 42, 180, 0, 9, 42] := by decide +kernel
theorem q10w13_10_23 : (cX12_sign.data.toList.drop 23).take 24 = [180, 0, 128, 27, 16, 24, 122, 145, 84, 42, 180, 0, 9, 42, 180, 0, 128, 4, 96, 27, 16, 16, 122, 145] := by decide +kernel
theorem q10w13_10_47 : (cX12_sign.data.toList.drop 47).take 22 = [84, 42, 180, 0, 9, 42, 180, 0, 128, 5, 96, 27, 16, 8, 122, 145, 84, 42, 180, 0, 9, 42] := by decide +kernel
theorem q10w13_10_69 : (cX12_sign.data.toList.drop 69).take 23 = [180, 0, 128, 6, 96, 27, 145, 84, 42, 89, 180, 0, 128, 7, 96, 181, 0, 128, 42, 180, 0, 128, 172] := by decide +kernel
theorem dX12_sign_0 : decode cX12_sign 0 = .ok (.aload_n 0, 1) := dz_42 (dz_at q10w13_10_0 0)
theorem dX12_sign_1 : decode cX12_sign 1 = .ok (.iconst 0, 1) := dz_3 (dz_at q10w13_10_0 1)
theorem dX12_sign_10 : decode cX12_sign 10 = .ok (.iadd, 1) := dz_96 (dz_at q10w13_10_0 10)
theorem dX12_sign_11 : decode cX12_sign 11 = .ok (.bipush 100, 2) := dz_16 (dz_at q10w13_10_0 11) (by decide +kernel)
theorem dX12_sign_13 : decode cX12_sign 13 = .ok (.if_icmp .le 5, 3) := dz_164 (dz_at q10w13_10_0 13) (by decide +kernel)
theorem dX12_sign_16 : decode cX12_sign 16 = .ok (.iconst (-1), 1) := dz_2 (dz_at q10w13_10_0 16)
theorem dX12_sign_17 : decode cX12_sign 17 = .ok (.ireturn, 1) := dz_172 (dz_at q10w13_10_0 17)
theorem dX12_sign_18 : decode cX12_sign 18 = .ok (.aload_n 0, 1) := dz_42 (dz_at q10w13_10_0 18)
theorem dX12_sign_19 : decode cX12_sign 19 = .ok (.getfield 9, 3) := dz_180 (dz_at q10w13_10_0 19) rfl
theorem dX12_sign_2 : decode cX12_sign 2 = .ok (.putfield 118, 3) := dz_181 (dz_at q10w13_10_0 2) rfl
theorem dX12_sign_22 : decode cX12_sign 22 = .ok (.aload_n 0, 1) := dz_42 (dz_at q10w13_10_0 22)
theorem dX12_sign_23 : decode cX12_sign 23 = .ok (.getfield 128, 3) := dz_180 (dz_at q10w13_10_23 0) rfl
theorem dX12_sign_26 : decode cX12_sign 26 = .ok (.iload_n 1, 1) := dz_27 (dz_at q10w13_10_23 3)
theorem dX12_sign_27 : decode cX12_sign 27 = .ok (.bipush 24, 2) := dz_16 (dz_at q10w13_10_23 4) (by decide +kernel)
theorem dX12_sign_29 : decode cX12_sign 29 = .ok (.ishr, 1) := dz_122 (dz_at q10w13_10_23 6)
theorem dX12_sign_30 : decode cX12_sign 30 = .ok (.i2b, 1) := dz_145 (dz_at q10w13_10_23 7)
theorem dX12_sign_31 : decode cX12_sign 31 = .ok (.bastore, 1) := dz_84 (dz_at q10w13_10_23 8)
theorem dX12_sign_32 : decode cX12_sign 32 = .ok (.aload_n 0, 1) := dz_42 (dz_at q10w13_10_23 9)
theorem dX12_sign_33 : decode cX12_sign 33 = .ok (.getfield 9, 3) := dz_180 (dz_at q10w13_10_23 10) rfl
theorem dX12_sign_36 : decode cX12_sign 36 = .ok (.aload_n 0, 1) := dz_42 (dz_at q10w13_10_23 13)
theorem dX12_sign_37 : decode cX12_sign 37 = .ok (.getfield 128, 3) := dz_180 (dz_at q10w13_10_23 14) rfl
theorem dX12_sign_40 : decode cX12_sign 40 = .ok (.iconst 1, 1) := dz_4 (dz_at q10w13_10_23 17)
theorem dX12_sign_41 : decode cX12_sign 41 = .ok (.iadd, 1) := dz_96 (dz_at q10w13_10_23 18)
theorem dX12_sign_42 : decode cX12_sign 42 = .ok (.iload_n 1, 1) := dz_27 (dz_at q10w13_10_23 19)
theorem dX12_sign_43 : decode cX12_sign 43 = .ok (.bipush 16, 2) := dz_16 (dz_at q10w13_10_23 20) (by decide +kernel)
theorem dX12_sign_45 : decode cX12_sign 45 = .ok (.ishr, 1) := dz_122 (dz_at q10w13_10_23 22)
theorem dX12_sign_46 : decode cX12_sign 46 = .ok (.i2b, 1) := dz_145 (dz_at q10w13_10_23 23)
theorem dX12_sign_47 : decode cX12_sign 47 = .ok (.bastore, 1) := dz_84 (dz_at q10w13_10_47 0)
theorem dX12_sign_48 : decode cX12_sign 48 = .ok (.aload_n 0, 1) := dz_42 (dz_at q10w13_10_47 1)
theorem dX12_sign_49 : decode cX12_sign 49 = .ok (.getfield 9, 3) := dz_180 (dz_at q10w13_10_47 2) rfl
theorem dX12_sign_5 : decode cX12_sign 5 = .ok (.aload_n 0, 1) := dz_42 (dz_at q10w13_10_0 5)
theorem dX12_sign_52 : decode cX12_sign 52 = .ok (.aload_n 0, 1) := dz_42 (dz_at q10w13_10_47 5)
theorem dX12_sign_53 : decode cX12_sign 53 = .ok (.getfield 128, 3) := dz_180 (dz_at q10w13_10_47 6) rfl
theorem dX12_sign_56 : decode cX12_sign 56 = .ok (.iconst 2, 1) := dz_5 (dz_at q10w13_10_47 9)
theorem dX12_sign_57 : decode cX12_sign 57 = .ok (.iadd, 1) := dz_96 (dz_at q10w13_10_47 10)
theorem dX12_sign_58 : decode cX12_sign 58 = .ok (.iload_n 1, 1) := dz_27 (dz_at q10w13_10_47 11)
theorem dX12_sign_59 : decode cX12_sign 59 = .ok (.bipush 8, 2) := dz_16 (dz_at q10w13_10_47 12) (by decide +kernel)
theorem dX12_sign_6 : decode cX12_sign 6 = .ok (.getfield 128, 3) := dz_180 (dz_at q10w13_10_0 6) rfl
theorem dX12_sign_61 : decode cX12_sign 61 = .ok (.ishr, 1) := dz_122 (dz_at q10w13_10_47 14)
theorem dX12_sign_62 : decode cX12_sign 62 = .ok (.i2b, 1) := dz_145 (dz_at q10w13_10_47 15)
theorem dX12_sign_63 : decode cX12_sign 63 = .ok (.bastore, 1) := dz_84 (dz_at q10w13_10_47 16)
theorem dX12_sign_64 : decode cX12_sign 64 = .ok (.aload_n 0, 1) := dz_42 (dz_at q10w13_10_47 17)
theorem dX12_sign_65 : decode cX12_sign 65 = .ok (.getfield 9, 3) := dz_180 (dz_at q10w13_10_47 18) rfl
theorem dX12_sign_68 : decode cX12_sign 68 = .ok (.aload_n 0, 1) := dz_42 (dz_at q10w13_10_47 21)
theorem dX12_sign_69 : decode cX12_sign 69 = .ok (.getfield 128, 3) := dz_180 (dz_at q10w13_10_69 0) rfl
theorem dX12_sign_72 : decode cX12_sign 72 = .ok (.iconst 3, 1) := dz_6 (dz_at q10w13_10_69 3)
theorem dX12_sign_73 : decode cX12_sign 73 = .ok (.iadd, 1) := dz_96 (dz_at q10w13_10_69 4)
theorem dX12_sign_74 : decode cX12_sign 74 = .ok (.iload_n 1, 1) := dz_27 (dz_at q10w13_10_69 5)
theorem dX12_sign_75 : decode cX12_sign 75 = .ok (.i2b, 1) := dz_145 (dz_at q10w13_10_69 6)
theorem dX12_sign_76 : decode cX12_sign 76 = .ok (.bastore, 1) := dz_84 (dz_at q10w13_10_69 7)
theorem dX12_sign_77 : decode cX12_sign 77 = .ok (.aload_n 0, 1) := dz_42 (dz_at q10w13_10_69 8)
theorem dX12_sign_78 : decode cX12_sign 78 = .ok (.dup, 1) := dz_89 (dz_at q10w13_10_69 9)
theorem dX12_sign_79 : decode cX12_sign 79 = .ok (.getfield 128, 3) := dz_180 (dz_at q10w13_10_69 10) rfl
theorem dX12_sign_82 : decode cX12_sign 82 = .ok (.iconst 4, 1) := dz_7 (dz_at q10w13_10_69 13)
theorem dX12_sign_83 : decode cX12_sign 83 = .ok (.iadd, 1) := dz_96 (dz_at q10w13_10_69 14)
theorem dX12_sign_84 : decode cX12_sign 84 = .ok (.putfield 128, 3) := dz_181 (dz_at q10w13_10_69 15) rfl
theorem dX12_sign_87 : decode cX12_sign 87 = .ok (.aload_n 0, 1) := dz_42 (dz_at q10w13_10_69 18)
theorem dX12_sign_88 : decode cX12_sign 88 = .ok (.getfield 128, 3) := dz_180 (dz_at q10w13_10_69 19) rfl
theorem dX12_sign_9 : decode cX12_sign 9 = .ok (.iconst 4, 1) := dz_7 (dz_at q10w13_10_0 9)
theorem dX12_sign_91 : decode cX12_sign 91 = .ok (.ireturn, 1) := dz_172 (dz_at q10w13_10_69 22)
theorem dm_X10_editsTurned : yX10_editsTurned.cls = RX10 ∧ yX10_editsTurned.cls ≠ "java/lang/invoke/MethodHandle" ∧ yX10_editsTurned.cls ≠ "java/lang/invoke/VarHandle" ∧ (parseMethodDescriptor yX10_editsTurned.desc).map (fun d => d.parameters.length) = some 3 := by decide +kernel
theorem dm_X10_fewestEdits : yX10_fewestEdits.cls = RX10 ∧ yX10_fewestEdits.cls ≠ "java/lang/invoke/MethodHandle" ∧ yX10_fewestEdits.cls ≠ "java/lang/invoke/VarHandle" ∧ (parseMethodDescriptor yX10_fewestEdits.desc).map (fun d => d.parameters.length) = some 2 := by decide +kernel
theorem dm_X12_in : yX12_in.cls = RX12 ∧ yX12_in.cls ≠ "java/lang/invoke/MethodHandle" ∧ yX12_in.cls ≠ "java/lang/invoke/VarHandle" ∧ (parseMethodDescriptor yX12_in.desc).map (fun d => d.parameters.length) = some 3 := by decide +kernel
set_option maxRecDepth 100000 in
def wC_Versions_editsTurned (a0 : Nat) (a1 : Nat) (a2 : Int) (M : zM) (Q : Int → zM → Prop) : Prop := wL1 (fun K3 x5 M6 => ((sI (M6 a1 1)) < (sI x5) → wL1 (fun K30 x15 M16 => ((sI (M16 a0 1)) ≤ (sI x15) → ((0 ≤ (sI (M16 a1 1)) ∧ (sI (M16 a1 1)) < 25) ∧ Q (sI (M16 100 (sI (M16 a1 1)).toNat)) M16)) ∧ ((sI x15) < (sI (M16 a0 1)) → (∀ M26 : zM, M26 = zup M16 100 0 (x15 + 1) → wL2 (fun K60 x28 x29 M30 => ((sI (M30 a1 1)) ≤ (sI x29) → K30 (x15 + 1) M30) ∧ ((sI x29) < (sI (M30 a1 1)) → ((0 ≤ (sI x15) ∧ (sI x15) < 24) ∧ wC_by (sI (a2 + x29)) (M30 a1 1) M30 (fun z43 => ((0 ≤ z43 ∧ z43 < 24) ∧ pJ1 (fun J101 => ((sI (M30 (a0 + 1) (sI x15).toNat)) ≠ (sI (M30 (a1 + 1) z43.toNat)) → J101 0) ∧ ((sI (M30 (a0 + 1) (sI x15).toNat)) = (sI (M30 (a1 + 1) z43.toNat)) → J101 1)) (fun (x48 : Int) => pJ1 (fun J117 => ((sI x48) = 0 → J117 (x28 + 1)) ∧ ((sI x48) ≠ 0 → J117 x28)) (fun (x52 : Int) => ((0 ≤ (sI (x29 + 1)) ∧ (sI (x29 + 1)) < 25) ∧ ((0 ≤ (sI x29) ∧ (sI x29) < 25) ∧ ((0 ≤ (sI (x29 + 1)) ∧ (sI (x29 + 1)) < 25) ∧ (∀ M58 : zM, M58 = zup M30 100 (sI (x29 + 1)).toNat (min (sI x52) (sI (1 + (min (sI (M30 100 (sI (x29 + 1)).toNat)) (sI (M30 100 (sI x29).toNat)))))) → K60 (M30 100 (sI (x29 + 1)).toNat) (x29 + 1) M58))))))))))) (M16 100 0) 0 M26))) 0 M6) ∧ ((sI x5) ≤ (sI (M6 a1 1)) → ((0 ≤ (sI x5) ∧ (sI x5) < 25) ∧ (∀ M65 : zM, M65 = zup M6 100 (sI x5).toNat x5 → K3 (x5 + 1) M65)))) 0 M
set_option maxHeartbeats 4000000 in
set_option maxRecDepth 100000 in
theorem cC_Versions_editsTurned (l : Launch) (D : va_G) (dA : Nat → ClassId) (b : Nat) (M : zM) (a0 : Nat) (a1 : Nat) (a2 : Int) (lt_a0 : a0 < nC) (cd_a0 : zcd wC a0 = 6) (lt_a1 : a1 < nC) (cd_a1 : zcd wC a1 = 6) (Q : Int → zM → Prop) (h : wC_Versions_editsTurned a0 a1 a2 M Q) : Met l yX10_editsTurned (.code yX10_editsTurned cX10_editsTurned 9 (some .int) :: zt) (z_rm 1) (va_Pc [.ref (b + 96), .ref (b + a0), .ref (b + a1), .int (iI a2)] (wPre D dA vwCl (z_tys dA) wC nC b M)) (va_Qi (wQi Q) (zB D dA vwCl wC nC b) (zA nC b)) 0 0 (zA nC b) := by
  unfold wC_Versions_editsTurned at h
  refine Met.ofW (cc := cX10_editsTurned) (maxL := 9) (ret := (some .int)) (by decide) rfl ?_
  intro p e s m args below meth c s₁ B hml hv
  obtain ⟨hargs, hS, hK⟩ := hv
  have hx := B.exec
  have hb := B.bytes
  have hr := B.returns
  have hts := atoms_spec (ws := .code yX10_editsTurned cX10_editsTurned 9 (some .int) :: zt) B.pre
  have hown : s.vm.findClass RX10 = some m.cls := findClass_of_methodNamed B.named
  have hlocks := B.notSynchronized
  have hS0 : va_S (zA nC b) s.heap s.heap [] := va_S.rf
  have hl := lv_entry ([.ref (b + 96), .ref (b + a0), .ref (b + a1), .int (iI a2)]) (n := 9) (Nat.le_of_ble_eq_true rfl)
  have hent : entryFrame m args 9 = F0 m 0 ((lg_sl ([.ref (b + 96), .ref (b + a0), .ref (b + a1), .int (iI a2)]) ++ List.replicate (9 - (lg_sl ([.ref (b + 96), .ref (b + a0), .ref (b + a1), .int (iI a2)])).length) Slot.unset).toArray) [] := by rw [hargs]; exact lg_entry_eq m ([.ref (b + 96), .ref (b + a0), .ref (b + a1), .int (iI a2)]) 9
  rw [hent]
  generalize (lg_sl ([.ref (b + 96), .ref (b + a0), .ref (b + a1), .int (iI a2)]) ++ List.replicate (9 - (lg_sl ([.ref (b + 96), .ref (b + a0), .ref (b + a1), .int (iI a2)])).length) Slot.unset).toArray = ls at hl ⊢
  have hl : lv_has ls 9 [(0, .ref (b + 96)), (1, .ref (b + a0)), (2, .ref (b + a1)), (3, .int (iI a2))] := hl
  obtain ⟨lt1, cd2⟩ := nx_strip a0 lt_a0 cd_a0
  obtain ⟨lt3, cd4⟩ := nx_strip a1 lt_a1 cd_a1
  refine z_iconst hx hb dX10_editsTurned_0 ?_
  refine lv_istore (lv' := [(4, .int (iI 0)), (0, .ref (b + 96)), (1, .ref (b + a0)), (2, .ref (b + a1)), (3, .int (iI a2))]) hx hb dX10_editsTurned_1 hl (by decide) rfl (fun ls hl => ?_)
  obtain ⟨I7, ⟨n8, h9⟩, h10⟩ := h
  have L11 : ∀ (n12 : Nat) (x5 : Int) (M6 : zM) (H : Heap) (locs : List Loc) (ls : Array Slot), I7 n12 x5 M6 → zR D dA vwCl wC nC b M6 H → va_S (zA nC b) s.heap H locs → lv_has ls 9 [(0, .ref (b + 96)), (1, .ref (b + a0)), (2, .ref (b + a1)), (3, .int (iI a2)), (4, .int (iI x5))] → W p l e (headSpec (.code yX10_editsTurned cX10_editsTurned 9 (some .int) :: zt) (z_rm 1)).room s m args below meth c H locs 0 0 (MQ below (va_Qi (wQi Q) (zB D dA vwCl wC nC b) (zA nC b)) args s 0 0 (zA nC b)) (F0 m 3 ls []) := by
    intro n12
    induction n12 using Nat.strongRecOn with
    | ind n12 i13 =>
      intro x5 M6 H locs ls h hS hS0 hl
      have h := h10 n12 x5 M6 h
      refine lv_iload hx hb dX10_editsTurned_3 (lv_at hl 4 rfl) ?_
      refine lv_aload_n hx hb dX10_editsTurned_5 rfl (lv_at hl 2 rfl) ?_
      refine w_geti hx hb hts (z_memU u8) hown hK.1 hS f8_1 lt_a1 (zkd_of cd_a1 rfl) (Or.inl (hts _ (z_mem k47))) dX10_editsTurned_6 ?_
      refine w_icmp_gt (tgt := 27) hx hb rfl rfl dX10_editsTurned_9 (by decide) (fun c14 => ?_) (fun c14 => ?_)
      · skip
        have h := h.1 c14
        refine z_iconst hx hb dX10_editsTurned_27 ?_
        refine lv_istore (lv' := [(4, .int (iI 0)), (0, .ref (b + 96)), (1, .ref (b + a0)), (2, .ref (b + a1)), (3, .int (iI a2))]) hx hb dX10_editsTurned_28 hl (by decide) rfl (fun ls hl => ?_)
        obtain ⟨I17, ⟨n18, h19⟩, h20⟩ := h
        have L21 : ∀ (n22 : Nat) (x15 : Int) (M16 : zM) (H : Heap) (locs : List Loc) (ls : Array Slot), I17 n22 x15 M16 → zR D dA vwCl wC nC b M16 H → va_S (zA nC b) s.heap H locs → lv_has ls 9 [(0, .ref (b + 96)), (1, .ref (b + a0)), (2, .ref (b + a1)), (3, .int (iI a2)), (4, .int (iI x15))] → W p l e (headSpec (.code yX10_editsTurned cX10_editsTurned 9 (some .int) :: zt) (z_rm 1)).room s m args below meth c H locs 0 0 (MQ below (va_Qi (wQi Q) (zB D dA vwCl wC nC b) (zA nC b)) args s 0 0 (zA nC b)) (F0 m 30 ls []) := by
          intro n22
          induction n22 using Nat.strongRecOn with
          | ind n22 i23 =>
            intro x15 M16 H locs ls h hS hS0 hl
            have h := h20 n22 x15 M16 h
            refine lv_iload hx hb dX10_editsTurned_30 (lv_at hl 4 rfl) ?_
            refine lv_aload_n hx hb dX10_editsTurned_32 rfl (lv_at hl 1 rfl) ?_
            refine w_geti hx hb hts (z_memU u8) hown hK.1 hS f8_1 lt_a0 (zkd_of cd_a0 rfl) (Or.inl (hts _ (z_mem k47))) dX10_editsTurned_33 ?_
            refine w_icmp_ge (tgt := 170) hx hb rfl rfl dX10_editsTurned_36 (by decide) (fun c24 => ?_) (fun c24 => ?_)
            · skip
              have h := h.1 c24
              refine lv_aload_n hx hb dX10_editsTurned_170 rfl (lv_at hl 0 rfl) ?_
              refine w_getr (j2 := 100) hx hb hts (z_memU u10) hown hK.1 hS f10_4 (by decide) (zkd_of (rfl : zcd wC 96 = 44) rfl) (zrf_of (rfl : zcd wC 96 = 44) rfl) (Or.inl (hts _ (z_mem k236))) dX10_editsTurned_171 ?_
              refine lv_aload_n hx hb dX10_editsTurned_174 rfl (lv_at hl 2 rfl) ?_
              refine w_geti hx hb hts (z_memU u8) hown hK.1 hS f8_1 lt_a1 (zkd_of cd_a1 rfl) (Or.inl (hts _ (z_mem k47))) dX10_editsTurned_175 ?_
              obtain ⟨o25, h⟩ := h
              refine w_iald (n := 25) (i := (sI (M16 a1 1))) hx hb hK.1 (t0 := 0) rfl hS (by decide) (zkd_of (rfl : zcd wC 100 = 48) rfl) (zln_of (rfl : zcd wC 100 = 48) rfl) rfl o25.1 o25.2 (by decide) dX10_editsTurned_178 ?_
              exact w_iret hx hb hr hlocks hS hS0 rfl h dX10_editsTurned_179
            · skip
              have h := h.2 c24
              refine lv_aload_n hx hb dX10_editsTurned_39 rfl (lv_at hl 0 rfl) ?_
              refine w_getr (j2 := 100) hx hb hts (z_memU u10) hown hK.1 hS f10_4 (by decide) (zkd_of (rfl : zcd wC 96 = 44) rfl) (zrf_of (rfl : zcd wC 96 = 44) rfl) (Or.inl (hts _ (z_mem k236))) dX10_editsTurned_40 ?_
              refine z_iconst hx hb dX10_editsTurned_43 ?_
              refine w_iald (n := 25) (i := 0) hx hb hK.1 (t0 := 0) rfl hS (by decide) (zkd_of (rfl : zcd wC 100 = 48) rfl) (zln_of (rfl : zcd wC 100 = 48) rfl) (sI_of (by decide)) (by decide) (by decide) (by decide) dX10_editsTurned_44 ?_
              refine lv_istore (lv' := [(5, .int (iI (M16 100 0))), (0, .ref (b + 96)), (1, .ref (b + a0)), (2, .ref (b + a1)), (3, .int (iI a2)), (4, .int (iI x15))]) hx hb dX10_editsTurned_45 hl (by decide) rfl (fun ls hl => ?_)
              refine lv_aload_n hx hb dX10_editsTurned_47 rfl (lv_at hl 1 rfl) ?_
              refine w_getr (j2 := 100) hx hb hts (z_memU u10) hown hK.1 hS f10_4 (by decide) (zkd_of (rfl : zcd wC 96 = 44) rfl) (zrf_of (rfl : zcd wC 96 = 44) rfl) (Or.inl (hts _ (z_mem k236))) dX10_editsTurned_48 ?_
              refine z_iconst hx hb dX10_editsTurned_51 ?_
              refine lv_iload hx hb dX10_editsTurned_52 (lv_at hl 5 rfl) ?_
              refine z_iconst hx hb dX10_editsTurned_54 ?_
              refine z_iadd hx hb dX10_editsTurned_55 ?_
              refine w_iast (z := (x15 + 1)) (n := 25) (i := 0) hx hb hK.1 (t0 := 0) rfl hS hS0 (by decide) (zkd_of (rfl : zcd wC 100 = 48) rfl) (zln_of (rfl : zcd wC 100 = 48) rfl) (sI_of (by decide)) (by decide) (by decide) (by decide) dX10_editsTurned_56 (fun H locs hS hS0 => ?_)
              rw [show ((0 : Int).toNat) = 0 from rfl] at hS
              obtain ⟨M26, e27⟩ : ∃ M26 : zM, M26 = zup M16 100 0 (x15 + 1) := ⟨_, rfl⟩
              rw [← e27] at hS
              have h := h M26 e27
              refine z_iconst hx hb dX10_editsTurned_57 ?_
              refine lv_istore (lv' := [(6, .int (iI 0)), (5, .int (iI (M16 100 0))), (0, .ref (b + 96)), (1, .ref (b + a0)), (2, .ref (b + a1)), (3, .int (iI a2)), (4, .int (iI x15))]) hx hb dX10_editsTurned_58 hl (by decide) rfl (fun ls hl => ?_)
              obtain ⟨I31, ⟨n32, h33⟩, h34⟩ := h
              have L35 : ∀ (n36 : Nat) (x28 x29 : Int) (M30 : zM) (H : Heap) (locs : List Loc) (ls : Array Slot), I31 n36 x28 x29 M30 → zR D dA vwCl wC nC b M30 H → va_S (zA nC b) s.heap H locs → lv_has ls 9 [(0, .ref (b + 96)), (1, .ref (b + a0)), (2, .ref (b + a1)), (3, .int (iI a2)), (4, .int (iI x15)), (5, .int (iI x28)), (6, .int (iI x29))] → W p l e (headSpec (.code yX10_editsTurned cX10_editsTurned 9 (some .int) :: zt) (z_rm 1)).room s m args below meth c H locs 0 0 (MQ below (va_Qi (wQi Q) (zB D dA vwCl wC nC b) (zA nC b)) args s 0 0 (zA nC b)) (F0 m 60 ls []) := by
                intro n36
                induction n36 using Nat.strongRecOn with
                | ind n36 i37 =>
                  intro x28 x29 M30 H locs ls h hS hS0 hl
                  have h := h34 n36 x28 x29 M30 h
                  refine lv_iload hx hb dX10_editsTurned_60 (lv_at hl 6 rfl) ?_
                  refine lv_aload_n hx hb dX10_editsTurned_62 rfl (lv_at hl 2 rfl) ?_
                  refine w_geti hx hb hts (z_memU u8) hown hK.1 hS f8_1 lt_a1 (zkd_of cd_a1 rfl) (Or.inl (hts _ (z_mem k47))) dX10_editsTurned_63 ?_
                  refine w_icmp_ge (tgt := 164) hx hb rfl rfl dX10_editsTurned_66 (by decide) (fun c38 => ?_) (fun c38 => ?_)
                  · skip
                    have h := h.1 c38
                    refine z_iinc (lv' := [(4, .int (iI (x15 + 1))), (0, .ref (b + 96)), (1, .ref (b + a0)), (2, .ref (b + a1)), (3, .int (iI a2)), (5, .int (iI x28)), (6, .int (iI x29))]) hx hb dX10_editsTurned_164 hl (k := 4) rfl (by decide) rfl (fun ls hl => ?_)
                    refine lv_goto (tgt := 30) hx hb dX10_editsTurned_167 (by decide) ?_
                    obtain ⟨n39, h40, h⟩ := h
                    exact i23 n39 h40 (x15 + 1) M30 _ _ _ h hS hS0 (lv_sub hl [1, 2, 3, 4, 0] rfl)
                  · skip
                    have h := h.2 c38
                    refine lv_aload_n hx hb dX10_editsTurned_69 rfl (lv_at hl 1 rfl) ?_
                    refine w_getr (j2 := (a0 + 1)) hx hb hts (z_memU u8) hown hK.1 hS f8_0 lt_a0 (zkd_of cd_a0 rfl) (zrf_of cd_a0 rfl) (Or.inl (hts _ (z_mem k43))) dX10_editsTurned_70 ?_
                    refine lv_iload hx hb dX10_editsTurned_73 (lv_at hl 4 rfl) ?_
                    obtain ⟨o41, h⟩ := h
                    refine w_iald (n := 24) (i := (sI x15)) hx hb hK.1 (t0 := 0) rfl hS lt1 (zkd_of cd2 rfl) (zln_of cd2 rfl) rfl o41.1 o41.2 (by decide) dX10_editsTurned_75 ?_
                    refine lv_aload_n hx hb dX10_editsTurned_76 rfl (lv_at hl 2 rfl) ?_
                    refine w_getr (j2 := (a1 + 1)) hx hb hts (z_memU u8) hown hK.1 hS f8_0 lt_a1 (zkd_of cd_a1 rfl) (zrf_of cd_a1 rfl) (Or.inl (hts _ (z_mem k43))) dX10_editsTurned_77 ?_
                    refine lv_iload_n hx hb dX10_editsTurned_80 rfl (lv_at hl 3 rfl) ?_
                    refine lv_iload hx hb dX10_editsTurned_81 (lv_at hl 6 rfl) ?_
                    refine z_iadd hx hb dX10_editsTurned_83 ?_
                    refine w_i2l hx hb rfl dX10_editsTurned_84 ?_
                    refine lv_aload_n hx hb dX10_editsTurned_85 rfl (lv_at hl 2 rfl) ?_
                    refine w_geti hx hb hts (z_memU u8) hown hK.1 hS f8_1 lt_a1 (zkd_of cd_a1 rfl) (Or.inl (hts _ (z_mem k47))) dX10_editsTurned_86 ?_
                    refine w_calli (va_runSN (As := [.long (iL (sI (a2 + x29))), .int (iI (M30 a1 1))]) (rest := [.ref (b + (a1 + 1)), .int (iI (M30 (a0 + 1) (sI x15).toNat))]) ⟨hx, hb, hml, hown, hts⟩ (cC_by l D dA b M30 (sI (a2 + x29)) (M30 a1 1) _ h) ⟨va_cnB 2 hts (z_gN k406) rfl rfl rfl (hK.2 (RX10, 55, yX11_by, RX11) (List.mem_of_getElem? (i := 18) rfl)) (hts _ (z_mem k1)) dm_X11_by.2 ⟨Nat.le_of_ble_eq_true rfl, Nat.le_of_ble_eq_true rfl⟩, (hts _ (z_mem k405)), trivial⟩ ⟨wPre_blind, w_pre hS hK⟩ rfl rfl hl.1 rfl (lv_room (Nat.le_of_ble_eq_true rfl)) dX10_editsTurned_89 ⟨Nat.le_refl _, Nat.le_refl _⟩) hS0 (fun z43 M42 H locs r44 h hS hS0 => ?_)
                    obtain ⟨e45, h⟩ := h
                    rw [e45] at hS
                    obtain ⟨o46, h⟩ := h
                    refine w_iald (n := 24) (i := z43) hx hb hK.1 (t0 := 0) rfl hS lt3 (zkd_of cd4 rfl) (zln_of cd4 rfl) (sI_of r44) o46.1 o46.2 (by decide) dX10_editsTurned_92 ?_
                    obtain ⟨J101, B50, h⟩ := h
                    have L49 : ∀ (x48 : Int) (H : Heap) (locs : List Loc) (ls : Array Slot), J101 x48 → zR D dA vwCl wC nC b M30 H → va_S (zA nC b) s.heap H locs → lv_has ls 9 [(0, .ref (b + 96)), (1, .ref (b + a0)), (2, .ref (b + a1)), (3, .int (iI a2)), (4, .int (iI x15)), (5, .int (iI x28)), (6, .int (iI x29))] → W p l e (headSpec (.code yX10_editsTurned cX10_editsTurned 9 (some .int) :: zt) (z_rm 1)).room s m args below meth c H locs 0 0 (MQ below (va_Qi (wQi Q) (zB D dA vwCl wC nC b) (zA nC b)) args s 0 0 (zA nC b)) (F0 m 101 ls [.int (iI x48)]) := by
                      intro x48 H locs ls h hS hS0 hl
                      have h := B50 x48 h
                      refine lv_istore (lv' := [(7, .int (iI x48)), (0, .ref (b + 96)), (1, .ref (b + a0)), (2, .ref (b + a1)), (3, .int (iI a2)), (4, .int (iI x15)), (5, .int (iI x28)), (6, .int (iI x29))]) hx hb dX10_editsTurned_101 hl (by decide) rfl (fun ls hl => ?_)
                      refine lv_iload hx hb dX10_editsTurned_103 (lv_at hl 0 rfl) ?_
                      obtain ⟨J117, B54, h⟩ := h
                      have L53 : ∀ (x52 : Int) (H : Heap) (locs : List Loc) (ls : Array Slot), J117 x52 → zR D dA vwCl wC nC b M30 H → va_S (zA nC b) s.heap H locs → lv_has ls 9 [(0, .ref (b + 96)), (1, .ref (b + a0)), (2, .ref (b + a1)), (3, .int (iI a2)), (4, .int (iI x15)), (6, .int (iI x29))] → W p l e (headSpec (.code yX10_editsTurned cX10_editsTurned 9 (some .int) :: zt) (z_rm 1)).room s m args below meth c H locs 0 0 (MQ below (va_Qi (wQi Q) (zB D dA vwCl wC nC b) (zA nC b)) args s 0 0 (zA nC b)) (F0 m 117 ls [.int (iI x52)]) := by
                        intro x52 H locs ls h hS hS0 hl
                        have h := B54 x52 h
                        refine lv_istore (lv' := [(8, .int (iI x52)), (0, .ref (b + 96)), (1, .ref (b + a0)), (2, .ref (b + a1)), (3, .int (iI a2)), (4, .int (iI x15)), (6, .int (iI x29))]) hx hb dX10_editsTurned_117 hl (by decide) rfl (fun ls hl => ?_)
                        refine lv_aload_n hx hb dX10_editsTurned_119 rfl (lv_at hl 1 rfl) ?_
                        refine w_getr (j2 := 100) hx hb hts (z_memU u10) hown hK.1 hS f10_4 (by decide) (zkd_of (rfl : zcd wC 96 = 44) rfl) (zrf_of (rfl : zcd wC 96 = 44) rfl) (Or.inl (hts _ (z_mem k236))) dX10_editsTurned_120 ?_
                        refine lv_iload hx hb dX10_editsTurned_123 (lv_at hl 6 rfl) ?_
                        refine z_iconst hx hb dX10_editsTurned_125 ?_
                        refine z_iadd hx hb dX10_editsTurned_126 ?_
                        obtain ⟨o55, h⟩ := h
                        refine w_iald (n := 25) (i := (sI (x29 + 1))) hx hb hK.1 (t0 := 0) rfl hS (by decide) (zkd_of (rfl : zcd wC 100 = 48) rfl) (zln_of (rfl : zcd wC 100 = 48) rfl) rfl o55.1 o55.2 (by decide) dX10_editsTurned_127 ?_
                        refine lv_istore (lv' := [(5, .int (iI (M30 100 (sI (x29 + 1)).toNat))), (8, .int (iI x52)), (0, .ref (b + 96)), (1, .ref (b + a0)), (2, .ref (b + a1)), (3, .int (iI a2)), (4, .int (iI x15)), (6, .int (iI x29))]) hx hb dX10_editsTurned_128 hl (by decide) rfl (fun ls hl => ?_)
                        refine lv_aload_n hx hb dX10_editsTurned_130 rfl (lv_at hl 2 rfl) ?_
                        refine w_getr (j2 := 100) hx hb hts (z_memU u10) hown hK.1 hS f10_4 (by decide) (zkd_of (rfl : zcd wC 96 = 44) rfl) (zrf_of (rfl : zcd wC 96 = 44) rfl) (Or.inl (hts _ (z_mem k236))) dX10_editsTurned_131 ?_
                        refine lv_iload hx hb dX10_editsTurned_134 (lv_at hl 7 rfl) ?_
                        refine z_iconst hx hb dX10_editsTurned_136 ?_
                        refine z_iadd hx hb dX10_editsTurned_137 ?_
                        refine lv_iload hx hb dX10_editsTurned_138 (lv_at hl 1 rfl) ?_
                        refine z_iconst hx hb dX10_editsTurned_140 ?_
                        refine lv_iload hx hb dX10_editsTurned_141 (lv_at hl 0 rfl) ?_
                        refine lv_aload_n hx hb dX10_editsTurned_143 rfl (lv_at hl 2 rfl) ?_
                        refine w_getr (j2 := 100) hx hb hts (z_memU u10) hown hK.1 hS f10_4 (by decide) (zkd_of (rfl : zcd wC 96 = 44) rfl) (zrf_of (rfl : zcd wC 96 = 44) rfl) (Or.inl (hts _ (z_mem k236))) dX10_editsTurned_144 ?_
                        refine lv_iload hx hb dX10_editsTurned_147 (lv_at hl 7 rfl) ?_
                        obtain ⟨o56, h⟩ := h
                        refine w_iald (n := 25) (i := (sI x29)) hx hb hK.1 (t0 := 0) rfl hS (by decide) (zkd_of (rfl : zcd wC 100 = 48) rfl) (zln_of (rfl : zcd wC 100 = 48) rfl) rfl o56.1 o56.2 (by decide) dX10_editsTurned_149 ?_
                        refine w_mmin hx hb (hml.trans hl.1.symm) hown (hts _ (z_mem k875)) (hts _ (z_mem k320)) (hts _ (z_mem k15)) (hts _ (z_mem k321)) (by exact Nat.le_of_ble_eq_true rfl) (by exact Nat.le_of_ble_eq_true rfl) (by exact Nat.le_refl _) (by exact Nat.le_refl _) rfl rfl dX10_editsTurned_150 ?_
                        refine z_iadd hx hb dX10_editsTurned_153 ?_
                        refine w_mmin hx hb (hml.trans hl.1.symm) hown (hts _ (z_mem k875)) (hts _ (z_mem k320)) (hts _ (z_mem k15)) (hts _ (z_mem k321)) (by exact Nat.le_of_ble_eq_true rfl) (by exact Nat.le_of_ble_eq_true rfl) (by exact Nat.le_refl _) (by exact Nat.le_refl _) rfl rfl dX10_editsTurned_154 ?_
                        obtain ⟨o57, h⟩ := h
                        refine w_iast (z := (min (sI x52) (sI (1 + (min (sI (M30 100 (sI (x29 + 1)).toNat)) (sI (M30 100 (sI x29).toNat))))))) (n := 25) (i := (sI (x29 + 1))) hx hb hK.1 (t0 := 0) rfl hS hS0 (by decide) (zkd_of (rfl : zcd wC 100 = 48) rfl) (zln_of (rfl : zcd wC 100 = 48) rfl) rfl o57.1 o57.2 (by decide) dX10_editsTurned_157 (fun H locs hS hS0 => ?_)
                        obtain ⟨M58, e59⟩ : ∃ M58 : zM, M58 = zup M30 100 (sI (x29 + 1)).toNat (min (sI x52) (sI (1 + (min (sI (M30 100 (sI (x29 + 1)).toNat)) (sI (M30 100 (sI x29).toNat)))))) := ⟨_, rfl⟩
                        rw [← e59] at hS
                        have h := h M58 e59
                        refine z_iinc (lv' := [(6, .int (iI (x29 + 1))), (5, .int (iI (M30 100 (sI (x29 + 1)).toNat))), (8, .int (iI x52)), (0, .ref (b + 96)), (1, .ref (b + a0)), (2, .ref (b + a1)), (3, .int (iI a2)), (4, .int (iI x15))]) hx hb dX10_editsTurned_158 hl (k := 7) rfl (by decide) rfl (fun ls hl => ?_)
                        refine lv_goto (tgt := 60) hx hb dX10_editsTurned_161 (by decide) ?_
                        obtain ⟨n60, h61, h⟩ := h
                        exact i37 n60 h61 (M30 100 (sI (x29 + 1)).toNat) (x29 + 1) M58 _ _ _ h hS hS0 (lv_sub hl [3, 4, 5, 6, 7, 1, 0] rfl)
                      refine w_if_eq (tgt := 113) hx hb rfl dX10_editsTurned_105 (by decide) (fun c62 => ?_) (fun c62 => ?_)
                      · skip
                        have h := h.1 c62
                        refine lv_iload hx hb dX10_editsTurned_113 (lv_at hl 6 rfl) ?_
                        refine z_iconst hx hb dX10_editsTurned_115 ?_
                        refine z_iadd hx hb dX10_editsTurned_116 ?_
                        exact L53 (x28 + 1) _ _ _ h hS hS0 (lv_sub hl [1, 2, 3, 4, 5, 7] rfl)
                      · skip
                        have h := h.2 c62
                        refine lv_iload hx hb dX10_editsTurned_108 (lv_at hl 6 rfl) ?_
                        refine lv_goto (tgt := 117) hx hb dX10_editsTurned_110 (by decide) ?_
                        exact L53 x28 _ _ _ h hS hS0 (lv_sub hl [1, 2, 3, 4, 5, 7] rfl)
                    refine w_icmp_ne (tgt := 100) hx hb rfl rfl dX10_editsTurned_93 (by decide) (fun c63 => ?_) (fun c63 => ?_)
                    · skip
                      have h := h.1 c63
                      refine z_iconst hx hb dX10_editsTurned_100 ?_
                      exact L49 0 _ _ _ h hS hS0 (lv_sub hl [0, 1, 2, 3, 4, 5, 6] rfl)
                    · skip
                      have h := h.2 c63
                      refine z_iconst hx hb dX10_editsTurned_96 ?_
                      refine lv_goto (tgt := 101) hx hb dX10_editsTurned_97 (by decide) ?_
                      exact L49 1 _ _ _ h hS hS0 (lv_sub hl [0, 1, 2, 3, 4, 5, 6] rfl)
              exact L35 n32 (M16 100 0) 0 M26 _ _ _ h33 hS hS0 (lv_sub hl [2, 3, 4, 5, 6, 1, 0] rfl)
        exact L21 n18 0 M6 _ _ _ h19 hS hS0 (lv_sub hl [1, 2, 3, 4, 0] rfl)
      · skip
        have h := h.2 c14
        refine lv_aload_n hx hb dX10_editsTurned_12 rfl (lv_at hl 0 rfl) ?_
        refine w_getr (j2 := 100) hx hb hts (z_memU u10) hown hK.1 hS f10_4 (by decide) (zkd_of (rfl : zcd wC 96 = 44) rfl) (zrf_of (rfl : zcd wC 96 = 44) rfl) (Or.inl (hts _ (z_mem k236))) dX10_editsTurned_13 ?_
        refine lv_iload hx hb dX10_editsTurned_16 (lv_at hl 4 rfl) ?_
        refine lv_iload hx hb dX10_editsTurned_18 (lv_at hl 4 rfl) ?_
        obtain ⟨o64, h⟩ := h
        refine w_iast (z := x5) (n := 25) (i := (sI x5)) hx hb hK.1 (t0 := 0) rfl hS hS0 (by decide) (zkd_of (rfl : zcd wC 100 = 48) rfl) (zln_of (rfl : zcd wC 100 = 48) rfl) rfl o64.1 o64.2 (by decide) dX10_editsTurned_20 (fun H locs hS hS0 => ?_)
        obtain ⟨M65, e66⟩ : ∃ M65 : zM, M65 = zup M6 100 (sI x5).toNat x5 := ⟨_, rfl⟩
        rw [← e66] at hS
        have h := h M65 e66
        refine z_iinc (lv' := [(4, .int (iI (x5 + 1))), (0, .ref (b + 96)), (1, .ref (b + a0)), (2, .ref (b + a1)), (3, .int (iI a2))]) hx hb dX10_editsTurned_21 hl (k := 4) rfl (by decide) rfl (fun ls hl => ?_)
        refine lv_goto (tgt := 3) hx hb dX10_editsTurned_24 (by decide) ?_
        obtain ⟨n67, h68, h⟩ := h
        exact i13 n67 h68 (x5 + 1) M65 _ _ _ h hS hS0 (lv_sub hl [1, 2, 3, 4, 0] rfl)
  exact L11 n8 0 M _ _ _ h9 hS hS0 (lv_sub hl [1, 2, 3, 4, 0] rfl)

set_option maxRecDepth 100000 in
def wC_Versions_fewestEdits (a0 : Nat) (a1 : Nat) (M : zM) (Q : Int → zM → Prop) : Prop := wL2 (fun K15 x5 x6 M7 => ((sI (M7 a1 1)) ≤ (sI x6) → Q (sI x5) M7) ∧ ((sI x6) < (sI (M7 a1 1)) → wC_Versions_editsTurned a0 a1 x6 M7 (fun z17 M16 => K15 (min (sI x5) z17) (x6 + 1) M16))) (max (sI (M a0 1)) (sI (M a1 1))) 0 M
set_option maxHeartbeats 4000000 in
set_option maxRecDepth 100000 in
theorem cC_Versions_fewestEdits (l : Launch) (D : va_G) (dA : Nat → ClassId) (b : Nat) (M : zM) (a0 : Nat) (a1 : Nat) (lt_a0 : a0 < nC) (cd_a0 : zcd wC a0 = 6) (lt_a1 : a1 < nC) (cd_a1 : zcd wC a1 = 6) (Q : Int → zM → Prop) (h : wC_Versions_fewestEdits a0 a1 M Q) : Met l yX10_fewestEdits (.code yX10_fewestEdits cX10_fewestEdits 5 (some .int) :: zt) (z_rm 2) (va_Pc [.ref (b + 96), .ref (b + a0), .ref (b + a1)] (wPre D dA vwCl (z_tys dA) wC nC b M)) (va_Qi (wQi Q) (zB D dA vwCl wC nC b) (zA nC b)) 0 0 (zA nC b) := by
  unfold wC_Versions_fewestEdits at h
  refine Met.ofW (cc := cX10_fewestEdits) (maxL := 5) (ret := (some .int)) (by decide) rfl ?_
  intro p e s m args below meth c s₁ B hml hv
  obtain ⟨hargs, hS, hK⟩ := hv
  have hx := B.exec
  have hb := B.bytes
  have hr := B.returns
  have hts := atoms_spec (ws := .code yX10_fewestEdits cX10_fewestEdits 5 (some .int) :: zt) B.pre
  have hown : s.vm.findClass RX10 = some m.cls := findClass_of_methodNamed B.named
  have hlocks := B.notSynchronized
  have hS0 : va_S (zA nC b) s.heap s.heap [] := va_S.rf
  have hl := lv_entry ([.ref (b + 96), .ref (b + a0), .ref (b + a1)]) (n := 5) (Nat.le_of_ble_eq_true rfl)
  have hent : entryFrame m args 5 = F0 m 0 ((lg_sl ([.ref (b + 96), .ref (b + a0), .ref (b + a1)]) ++ List.replicate (5 - (lg_sl ([.ref (b + 96), .ref (b + a0), .ref (b + a1)])).length) Slot.unset).toArray) [] := by rw [hargs]; exact lg_entry_eq m ([.ref (b + 96), .ref (b + a0), .ref (b + a1)]) 5
  rw [hent]
  generalize (lg_sl ([.ref (b + 96), .ref (b + a0), .ref (b + a1)]) ++ List.replicate (5 - (lg_sl ([.ref (b + 96), .ref (b + a0), .ref (b + a1)])).length) Slot.unset).toArray = ls at hl ⊢
  have hl : lv_has ls 5 [(0, .ref (b + 96)), (1, .ref (b + a0)), (2, .ref (b + a1))] := hl
  obtain ⟨lt1, cd2⟩ := nx_strip a0 lt_a0 cd_a0
  obtain ⟨lt3, cd4⟩ := nx_strip a1 lt_a1 cd_a1
  refine lv_aload_n hx hb dX10_fewestEdits_0 rfl (lv_at hl 1 rfl) ?_
  refine w_geti hx hb hts (z_memU u8) hown hK.1 hS f8_1 lt_a0 (zkd_of cd_a0 rfl) (Or.inl (hts _ (z_mem k47))) dX10_fewestEdits_1 ?_
  refine lv_aload_n hx hb dX10_fewestEdits_4 rfl (lv_at hl 2 rfl) ?_
  refine w_geti hx hb hts (z_memU u8) hown hK.1 hS f8_1 lt_a1 (zkd_of cd_a1 rfl) (Or.inl (hts _ (z_mem k47))) dX10_fewestEdits_5 ?_
  refine w_mmax hx hb (hml.trans hl.1.symm) hown (hts _ (z_mem k871)) (hts _ (z_mem k341)) (hts _ (z_mem k15)) (hts _ (z_mem k342)) (by exact Nat.le_of_ble_eq_true rfl) (by exact Nat.le_of_ble_eq_true rfl) (by exact Nat.le_refl _) (by exact Nat.le_refl _) rfl rfl dX10_fewestEdits_8 ?_
  refine lv_istore_n (lv' := [(3, .int (iI (max (sI (M a0 1)) (sI (M a1 1))))), (0, .ref (b + 96)), (1, .ref (b + a0)), (2, .ref (b + a1))]) hx hb dX10_fewestEdits_11 rfl hl (by decide) rfl (fun ls hl => ?_)
  refine z_iconst hx hb dX10_fewestEdits_12 ?_
  refine lv_istore (lv' := [(4, .int (iI 0)), (3, .int (iI (max (sI (M a0 1)) (sI (M a1 1))))), (0, .ref (b + 96)), (1, .ref (b + a0)), (2, .ref (b + a1))]) hx hb dX10_fewestEdits_13 hl (by decide) rfl (fun ls hl => ?_)
  obtain ⟨I8, ⟨n9, h10⟩, h11⟩ := h
  have L12 : ∀ (n13 : Nat) (x5 x6 : Int) (M7 : zM) (H : Heap) (locs : List Loc) (ls : Array Slot), I8 n13 x5 x6 M7 → zR D dA vwCl wC nC b M7 H → va_S (zA nC b) s.heap H locs → lv_has ls 5 [(0, .ref (b + 96)), (1, .ref (b + a0)), (2, .ref (b + a1)), (3, .int (iI x5)), (4, .int (iI x6))] → W p l e (headSpec (.code yX10_fewestEdits cX10_fewestEdits 5 (some .int) :: zt) (z_rm 2)).room s m args below meth c H locs 0 0 (MQ below (va_Qi (wQi Q) (zB D dA vwCl wC nC b) (zA nC b)) args s 0 0 (zA nC b)) (F0 m 15 ls []) := by
    intro n13
    induction n13 using Nat.strongRecOn with
    | ind n13 i14 =>
      intro x5 x6 M7 H locs ls h hS hS0 hl
      have h := h11 n13 x5 x6 M7 h
      refine lv_iload hx hb dX10_fewestEdits_15 (lv_at hl 4 rfl) ?_
      refine lv_aload_n hx hb dX10_fewestEdits_17 rfl (lv_at hl 2 rfl) ?_
      refine w_geti hx hb hts (z_memU u8) hown hK.1 hS f8_1 lt_a1 (zkd_of cd_a1 rfl) (Or.inl (hts _ (z_mem k47))) dX10_fewestEdits_18 ?_
      refine w_icmp_ge (tgt := 43) hx hb rfl rfl dX10_fewestEdits_21 (by decide) (fun c15 => ?_) (fun c15 => ?_)
      · skip
        have h := h.1 c15
        refine lv_iload_n hx hb dX10_fewestEdits_43 rfl (lv_at hl 3 rfl) ?_
        exact w_iret hx hb hr hlocks hS hS0 rfl h dX10_fewestEdits_44
      · skip
        have h := h.2 c15
        refine lv_iload_n hx hb dX10_fewestEdits_24 rfl (lv_at hl 3 rfl) ?_
        refine lv_aload_n hx hb dX10_fewestEdits_25 rfl (lv_at hl 0 rfl) ?_
        refine lv_aload_n hx hb dX10_fewestEdits_26 rfl (lv_at hl 1 rfl) ?_
        refine lv_aload_n hx hb dX10_fewestEdits_27 rfl (lv_at hl 2 rfl) ?_
        refine lv_iload hx hb dX10_fewestEdits_28 (lv_at hl 4 rfl) ?_
        refine w_calli (va_runV (As := [.ref (b + a0), .ref (b + a1), .int (iI x6)]) (rest := [.int (iI x5)]) ⟨hx, hb, hml, hown, hts⟩ (cC_Versions_editsTurned l D dA b M7 a0 a1 x6 lt_a0 cd_a0 lt_a1 cd_a1 _ h) (cwV 3 hts (z_gV k872 k873 k1389 k13 k874) rfl rfl rfl dm_X10_editsTurned ⟨Nat.le_of_ble_eq_true rfl, Nat.le_of_ble_eq_true rfl⟩) ⟨wPre_blind, (w_recv hS hK.1 (by decide) (zkd_of (rfl : zcd wC 96 = 44) rfl) (by decide) (rfl : vwCl[10]? = some (RX10, TX10, 5))), w_pre hS hK⟩ rfl rfl hl.1 rfl (lv_room (Nat.le_of_ble_eq_true rfl)) dX10_fewestEdits_30 ⟨Nat.le_refl _, Nat.le_refl _⟩) hS0 (fun z17 M16 H locs r18 h hS hS0 => ?_)
        refine w_mmin hx hb (hml.trans hl.1.symm) hown (hts _ (z_mem k875)) (hts _ (z_mem k320)) (hts _ (z_mem k15)) (hts _ (z_mem k321)) (by exact Nat.le_of_ble_eq_true rfl) (by exact Nat.le_of_ble_eq_true rfl) (by exact Nat.le_refl _) (by exact Nat.le_refl _) rfl (sI_of r18) dX10_fewestEdits_33 ?_
        refine lv_istore_n (lv' := [(3, .int (iI (min (sI x5) z17))), (0, .ref (b + 96)), (1, .ref (b + a0)), (2, .ref (b + a1)), (4, .int (iI x6))]) hx hb dX10_fewestEdits_36 rfl hl (by decide) rfl (fun ls hl => ?_)
        refine z_iinc (lv' := [(4, .int (iI (x6 + 1))), (3, .int (iI (min (sI x5) z17))), (0, .ref (b + 96)), (1, .ref (b + a0)), (2, .ref (b + a1))]) hx hb dX10_fewestEdits_37 hl (k := 4) rfl (by decide) rfl (fun ls hl => ?_)
        refine lv_goto (tgt := 15) hx hb dX10_fewestEdits_40 (by decide) ?_
        obtain ⟨n19, h20, h⟩ := h
        exact i14 n19 h20 (min (sI x5) z17) (x6 + 1) M16 _ _ _ h hS hS0 (lv_sub hl [2, 3, 4, 1, 0] rfl)
  exact L12 n9 (max (sI (M a0 1)) (sI (M a1 1))) 0 M _ _ _ h10 hS hS0 (lv_sub hl [2, 3, 4, 1, 0] rfl)

set_option maxRecDepth 100000 in
def wC_edits (a0 : Int) (a1 : Int) (M : zM) (Q : Int → zM → Prop) : Prop := wC_Versions_find a0 M (fun z2 => (z2 = none → wC_Versions_find a1 M (fun z8 => (z8 = none → Q (-1) M) ∧ (∀ q10, z8 = some q10 → (q10 < nC ∧ zcd wC q10 = 6) ∧ (Q (-1) M)))) ∧ (∀ q4, z2 = some q4 → (q4 < nC ∧ zcd wC q4 = 6) ∧ (wC_Versions_find a1 M (fun z18 => (z18 = none → Q (-1) M) ∧ (∀ q20, z18 = some q20 → (q20 < nC ∧ zcd wC q20 = 6) ∧ (wC_Versions_fewestEdits q4 q20 M (fun z26 M25 => Q z26 M25)))))))
set_option maxHeartbeats 4000000 in
set_option maxRecDepth 100000 in
theorem cC_edits (l : Launch) (D : va_G) (dA : Nat → ClassId) (b : Nat) (M : zM) (a0 : Int) (a1 : Int)  (Q : Int → zM → Prop) (h : wC_edits a0 a1 M Q) : Met l yX11_edits (.code yX11_edits cX11_edits 5 (some .int) :: zt) (z_rm 3) (va_Pc [.ref (b + 0), .int (iI a0), .int (iI a1)] (wPre D dA vwCl (z_tys dA) wC nC b M)) (va_Qi (wQi Q) (zB D dA vwCl wC nC b) (zA nC b)) 0 0 (zA nC b) := by
  unfold wC_edits at h
  refine Met.ofW (cc := cX11_edits) (maxL := 5) (ret := (some .int)) (by decide) rfl ?_
  intro p e s m args below meth c s₁ B hml hv
  obtain ⟨hargs, hS, hK⟩ := hv
  have hx := B.exec
  have hb := B.bytes
  have hr := B.returns
  have hts := atoms_spec (ws := .code yX11_edits cX11_edits 5 (some .int) :: zt) B.pre
  have hown : s.vm.findClass RX11 = some m.cls := findClass_of_methodNamed B.named
  have hlocks := B.notSynchronized
  have hS0 : va_S (zA nC b) s.heap s.heap [] := va_S.rf
  have hl := lv_entry ([.ref (b + 0), .int (iI a0), .int (iI a1)]) (n := 5) (Nat.le_of_ble_eq_true rfl)
  have hent : entryFrame m args 5 = F0 m 0 ((lg_sl ([.ref (b + 0), .int (iI a0), .int (iI a1)]) ++ List.replicate (5 - (lg_sl ([.ref (b + 0), .int (iI a0), .int (iI a1)])).length) Slot.unset).toArray) [] := by rw [hargs]; exact lg_entry_eq m ([.ref (b + 0), .int (iI a0), .int (iI a1)]) 5
  rw [hent]
  generalize (lg_sl ([.ref (b + 0), .int (iI a0), .int (iI a1)]) ++ List.replicate (5 - (lg_sl ([.ref (b + 0), .int (iI a0), .int (iI a1)])).length) Slot.unset).toArray = ls at hl ⊢
  have hl : lv_has ls 5 [(0, .ref (b + 0)), (1, .int (iI a0)), (2, .int (iI a1))] := hl
  refine lv_aload_n hx hb dX11_edits_0 rfl (lv_at hl 0 rfl) ?_
  refine w_getr (j2 := 96) hx hb hts (z_memU u11) hown hK.1 hS f11_8 (by decide) (zkd_of (rfl : zcd wC 0 = 0) rfl) (zrf_of (rfl : zcd wC 0 = 0) rfl) (Or.inl (hts _ (z_mem k250))) dX11_edits_1 ?_
  refine lv_iload_n hx hb dX11_edits_4 rfl (lv_at hl 1 rfl) ?_
  refine w_callq (va_runV (As := [.int (iI a0)]) (rest := []) ⟨hx, hb, hml, hown, hts⟩ (cC_Versions_find l D dA b M a0 _ h) (cwV 1 hts (z_gV k858 k859 k860 k13 k861) rfl rfl rfl dm_X10_find ⟨Nat.le_of_ble_eq_true rfl, Nat.le_of_ble_eq_true rfl⟩) ⟨wPre_blind, (w_recv hS hK.1 (by decide) (zkd_of (rfl : zcd wC 96 = 44) rfl) (by decide) (rfl : vwCl[10]? = some (RX10, TX10, 5))), w_pre hS hK⟩ rfl rfl hl.1 rfl (lv_room (Nat.le_of_ble_eq_true rfl)) dX11_edits_5 ⟨Nat.le_refl _, Nat.le_refl _⟩) hS0 (fun z2 M1 H locs h hS hS0 => ?_)
  obtain ⟨e3, h⟩ := h
  rw [e3] at hS
  rcases z2 with _ | q4
  · skip
    have h := h.1 rfl
    refine lv_astore_nN (lv' := [(3, .null), (0, .ref (b + 0)), (1, .int (iI a0)), (2, .int (iI a1))]) hx hb dX11_edits_8 rfl hl (by decide) rfl (fun ls hl => ?_)
    refine lv_aload_n hx hb dX11_edits_9 rfl (lv_at hl 1 rfl) ?_
    refine w_getr (j2 := 96) hx hb hts (z_memU u11) hown hK.1 hS f11_8 (by decide) (zkd_of (rfl : zcd wC 0 = 0) rfl) (zrf_of (rfl : zcd wC 0 = 0) rfl) (Or.inl (hts _ (z_mem k250))) dX11_edits_10 ?_
    refine lv_iload_n hx hb dX11_edits_13 rfl (lv_at hl 3 rfl) ?_
    refine w_callq (va_runV (As := [.int (iI a1)]) (rest := []) ⟨hx, hb, hml, hown, hts⟩ (cC_Versions_find l D dA b M a1 _ h) (cwV 1 hts (z_gV k858 k859 k860 k13 k861) rfl rfl rfl dm_X10_find ⟨Nat.le_of_ble_eq_true rfl, Nat.le_of_ble_eq_true rfl⟩) ⟨wPre_blind, (w_recv hS hK.1 (by decide) (zkd_of (rfl : zcd wC 96 = 44) rfl) (by decide) (rfl : vwCl[10]? = some (RX10, TX10, 5))), w_pre hS hK⟩ rfl rfl hl.1 rfl (lv_room (Nat.le_of_ble_eq_true rfl)) dX11_edits_14 ⟨Nat.le_refl _, Nat.le_refl _⟩) hS0 (fun z8 M7 H locs h hS hS0 => ?_)
    obtain ⟨e9, h⟩ := h
    rw [e9] at hS
    rcases z8 with _ | q10
    · skip
      have h := h.1 rfl
      refine lv_astoreN (lv' := [(4, .null), (3, .null), (0, .ref (b + 0)), (1, .int (iI a0)), (2, .int (iI a1))]) hx hb dX11_edits_17 hl (by decide) rfl (fun ls hl => ?_)
      refine lv_aload_nN hx hb dX11_edits_19 rfl (lv_at hl 1 rfl) ?_
      refine lv_ifnullN (tgt := 28) hx hb dX11_edits_20 (by decide) ?_
      refine z_iconst hx hb dX11_edits_28 ?_
      refine lv_goto (tgt := 42) hx hb dX11_edits_29 (by decide) ?_
      exact w_iret hx hb hr hlocks hS hS0 (sI_of (by decide)) h dX11_edits_42
    · skip
      obtain ⟨⟨lt11, cd12⟩, h⟩ := h.2 q10 rfl
      obtain ⟨lt13, cd14⟩ := nx_strip q10 lt11 cd12
      refine lv_astore (lv' := [(4, .ref (b + q10)), (3, .null), (0, .ref (b + 0)), (1, .int (iI a0)), (2, .int (iI a1))]) hx hb dX11_edits_17 hl (by decide) rfl (fun ls hl => ?_)
      refine lv_aload_nN hx hb dX11_edits_19 rfl (lv_at hl 1 rfl) ?_
      refine lv_ifnullN (tgt := 28) hx hb dX11_edits_20 (by decide) ?_
      refine z_iconst hx hb dX11_edits_28 ?_
      refine lv_goto (tgt := 42) hx hb dX11_edits_29 (by decide) ?_
      exact w_iret hx hb hr hlocks hS hS0 (sI_of (by decide)) h dX11_edits_42
  · skip
    obtain ⟨⟨lt5, cd6⟩, h⟩ := h.2 q4 rfl
    obtain ⟨lt15, cd16⟩ := nx_strip q4 lt5 cd6
    refine lv_astore_n (lv' := [(3, .ref (b + q4)), (0, .ref (b + 0)), (1, .int (iI a0)), (2, .int (iI a1))]) hx hb dX11_edits_8 rfl hl (by decide) rfl (fun ls hl => ?_)
    refine lv_aload_n hx hb dX11_edits_9 rfl (lv_at hl 1 rfl) ?_
    refine w_getr (j2 := 96) hx hb hts (z_memU u11) hown hK.1 hS f11_8 (by decide) (zkd_of (rfl : zcd wC 0 = 0) rfl) (zrf_of (rfl : zcd wC 0 = 0) rfl) (Or.inl (hts _ (z_mem k250))) dX11_edits_10 ?_
    refine lv_iload_n hx hb dX11_edits_13 rfl (lv_at hl 3 rfl) ?_
    refine w_callq (va_runV (As := [.int (iI a1)]) (rest := []) ⟨hx, hb, hml, hown, hts⟩ (cC_Versions_find l D dA b M a1 _ h) (cwV 1 hts (z_gV k858 k859 k860 k13 k861) rfl rfl rfl dm_X10_find ⟨Nat.le_of_ble_eq_true rfl, Nat.le_of_ble_eq_true rfl⟩) ⟨wPre_blind, (w_recv hS hK.1 (by decide) (zkd_of (rfl : zcd wC 96 = 44) rfl) (by decide) (rfl : vwCl[10]? = some (RX10, TX10, 5))), w_pre hS hK⟩ rfl rfl hl.1 rfl (lv_room (Nat.le_of_ble_eq_true rfl)) dX11_edits_14 ⟨Nat.le_refl _, Nat.le_refl _⟩) hS0 (fun z18 M17 H locs h hS hS0 => ?_)
    obtain ⟨e19, h⟩ := h
    rw [e19] at hS
    rcases z18 with _ | q20
    · skip
      have h := h.1 rfl
      refine lv_astoreN (lv' := [(4, .null), (3, .ref (b + q4)), (0, .ref (b + 0)), (1, .int (iI a0)), (2, .int (iI a1))]) hx hb dX11_edits_17 hl (by decide) rfl (fun ls hl => ?_)
      refine lv_aload_n hx hb dX11_edits_19 rfl (lv_at hl 1 rfl) ?_
      refine lv_ifnull hx hb dX11_edits_20 ?_
      refine lv_aloadN hx hb dX11_edits_23 (lv_at hl 0 rfl) ?_
      refine lv_ifnonnullN hx hb dX11_edits_25 ?_
      refine z_iconst hx hb dX11_edits_28 ?_
      refine lv_goto (tgt := 42) hx hb dX11_edits_29 (by decide) ?_
      exact w_iret hx hb hr hlocks hS hS0 (sI_of (by decide)) h dX11_edits_42
    · skip
      obtain ⟨⟨lt21, cd22⟩, h⟩ := h.2 q20 rfl
      obtain ⟨lt23, cd24⟩ := nx_strip q20 lt21 cd22
      refine lv_astore (lv' := [(4, .ref (b + q20)), (3, .ref (b + q4)), (0, .ref (b + 0)), (1, .int (iI a0)), (2, .int (iI a1))]) hx hb dX11_edits_17 hl (by decide) rfl (fun ls hl => ?_)
      refine lv_aload_n hx hb dX11_edits_19 rfl (lv_at hl 1 rfl) ?_
      refine lv_ifnull hx hb dX11_edits_20 ?_
      refine lv_aload hx hb dX11_edits_23 (lv_at hl 0 rfl) ?_
      refine lv_ifnonnull (tgt := 32) hx hb dX11_edits_25 (by decide) ?_
      refine lv_aload_n hx hb dX11_edits_32 rfl (lv_at hl 2 rfl) ?_
      refine w_getr (j2 := 96) hx hb hts (z_memU u11) hown hK.1 hS f11_8 (by decide) (zkd_of (rfl : zcd wC 0 = 0) rfl) (zrf_of (rfl : zcd wC 0 = 0) rfl) (Or.inl (hts _ (z_mem k250))) dX11_edits_33 ?_
      refine lv_aload_n hx hb dX11_edits_36 rfl (lv_at hl 1 rfl) ?_
      refine lv_aload hx hb dX11_edits_37 (lv_at hl 0 rfl) ?_
      refine w_calli (va_runV (As := [.ref (b + q4), .ref (b + q20)]) (rest := []) ⟨hx, hb, hml, hown, hts⟩ (cC_Versions_fewestEdits l D dA b M q4 q20 lt5 cd6 lt21 cd22 _ h) (cwV 2 hts (z_gV k867 k868 k869 k13 k870) rfl rfl rfl dm_X10_fewestEdits ⟨Nat.le_of_ble_eq_true rfl, Nat.le_of_ble_eq_true rfl⟩) ⟨wPre_blind, (w_recv hS hK.1 (by decide) (zkd_of (rfl : zcd wC 96 = 44) rfl) (by decide) (rfl : vwCl[10]? = some (RX10, TX10, 5))), w_pre hS hK⟩ rfl rfl hl.1 rfl (lv_room (Nat.le_of_ble_eq_true rfl)) dX11_edits_39 ⟨Nat.le_refl _, Nat.le_refl _⟩) hS0 (fun z26 M25 H locs r27 h hS hS0 => ?_)
      exact w_iret hx hb hr hlocks hS hS0 (sI_of r27) h dX11_edits_42

set_option maxRecDepth 100000 in
def wC_row (a0 : Int) (M : zM) (Q : Int → Prop) (X : Prop) : Prop := ((sI a0) < 0 → X) ∧ (0 ≤ (sI a0) → ((sI (M 0 10)) ≤ (sI a0) → X) ∧ ((sI a0) < (sI (M 0 10)) → ((sI a0) < 40 → ((0 ≤ (sI a0) ∧ (sI a0) < 40) ∧ Q (sI (M 133 (sI a0).toNat)))) ∧ (40 ≤ (sI a0) → X)))
set_option maxHeartbeats 4000000 in
set_option maxRecDepth 100000 in
theorem cC_row (l : Launch) (hst : l.stackTraces = false) (D : va_G) (dA : Nat → ClassId) (b : Nat) (M : zM) (a0 : Int)  (Q : Int → Prop) (X : Prop) (h : wC_row a0 M Q X) : vx_Met l yX11_row (.code yX11_row cX11_row 2 (some .int) :: zt) (z_rmT 0) (va_Pc [.ref (b + 0), .int (iI a0)] (wPreT D dA vwCl (z_tys dA) wC nC b M)) (va_Qi (wQi (fun z9 u9 => u9 = M ∧ Q z9)) (zB D dA vwCl wC nC b) (zA nC b)) (zXC D dA vwCl wC nC b M X) 1 6 (zA nC b) := by
  unfold wC_row at h
  refine vx_ofW (cc := cX11_row) (maxL := 2) (ret := (some .int)) (by decide) rfl ?_
  intro p e s m args below meth c s₁ B hml hex hv
  obtain ⟨hargs, ⟨hS, hK⟩, hZ⟩ := hv
  have hx := B.exec
  have hb := B.bytes
  have hr := B.returns
  have hts := atoms_spec (ws := .code yX11_row cX11_row 2 (some .int) :: zt) B.pre
  have hown : s.vm.findClass RX11 = some m.cls := findClass_of_methodNamed B.named
  have hlocks := B.notSynchronized
  have hS0 : va_S (zA nC b) s.heap s.heap [] := va_S.rf
  have hl := lv_entry ([.ref (b + 0), .int (iI a0)]) (n := 2) (Nat.le_of_ble_eq_true rfl)
  have hent : entryFrame m args 2 = F0 m 0 ((lg_sl ([.ref (b + 0), .int (iI a0)]) ++ List.replicate (2 - (lg_sl ([.ref (b + 0), .int (iI a0)])).length) Slot.unset).toArray) [] := by rw [hargs]; exact lg_entry_eq m ([.ref (b + 0), .int (iI a0)]) 2
  rw [hent]
  generalize (lg_sl ([.ref (b + 0), .int (iI a0)]) ++ List.replicate (2 - (lg_sl ([.ref (b + 0), .int (iI a0)])).length) Slot.unset).toArray = ls at hl ⊢
  have hl : lv_has ls 2 [(0, .ref (b + 0)), (1, .int (iI a0))] := hl
  refine lv_iload_n hx hb dX11_row_0 rfl (lv_at hl 1 rfl) ?_
  refine w_if_lt (tgt := 21) hx hb rfl dX11_row_1 (by decide) (fun c1 => ?_) (fun c1 => ?_)
  · skip
    have h := h.1 c1
    exact vx_throw0 (own := "TapeRings") (cls := "java/util/NoSuchElementException") (names := ["java/lang/RuntimeException", "java/lang/Exception"]) (ik := 156) (ic := 158) hx hb hst hown (by decide +kernel) (by decide +kernel) (hts _ (z_mem k883)) (hts _ (z_mem k21)) (tw_hat (fun w hw => hts w (z_mem hw)) hZ.1) tw_good hZ.2.1 hZ.2.2 hS0 (hl.1.trans hml.symm) dX11_row_21 dX11_row_24 dX11_row_25 dX11_row_28 (fun x hx9 => (hex x hx9).elim) (Nat.le_of_ble_eq_true rfl) (Nat.le_of_ble_eq_true rfl) (Nat.le_of_ble_eq_true rfl) (Nat.le_of_ble_eq_true rfl) hlocks (fun t _ h1 h2 => wX_of hS hS0 h1 h2 h) hS0.2.2 (Nat.le_of_ble_eq_true rfl) (Nat.le_of_ble_eq_true rfl)
  · skip
    have h := h.2 c1
    refine lv_iload_n hx hb dX11_row_4 rfl (lv_at hl 1 rfl) ?_
    refine lv_aload_n hx hb dX11_row_5 rfl (lv_at hl 0 rfl) ?_
    refine w_geti hx hb hts (z_memU u11) hown hK.1 hS f11_10 (by decide) (zkd_of (rfl : zcd wC 0 = 0) rfl) (Or.inl (hts _ (z_mem k252))) dX11_row_6 ?_
    refine w_icmp_ge (tgt := 21) hx hb rfl rfl dX11_row_9 (by decide) (fun c2 => ?_) (fun c2 => ?_)
    · skip
      have h := h.1 c2
      exact vx_throw0 (own := "TapeRings") (cls := "java/util/NoSuchElementException") (names := ["java/lang/RuntimeException", "java/lang/Exception"]) (ik := 156) (ic := 158) hx hb hst hown (by decide +kernel) (by decide +kernel) (hts _ (z_mem k883)) (hts _ (z_mem k21)) (tw_hat (fun w hw => hts w (z_mem hw)) hZ.1) tw_good hZ.2.1 hZ.2.2 hS0 (hl.1.trans hml.symm) dX11_row_21 dX11_row_24 dX11_row_25 dX11_row_28 (fun x hx9 => (hex x hx9).elim) (Nat.le_of_ble_eq_true rfl) (Nat.le_of_ble_eq_true rfl) (Nat.le_of_ble_eq_true rfl) (Nat.le_of_ble_eq_true rfl) hlocks (fun t _ h1 h2 => wX_of hS hS0 h1 h2 h) hS0.2.2 (Nat.le_of_ble_eq_true rfl) (Nat.le_of_ble_eq_true rfl)
    · skip
      have h := h.2 c2
      refine lv_iload_n hx hb dX11_row_12 rfl (lv_at hl 1 rfl) ?_
      refine lv_aload_n hx hb dX11_row_13 rfl (lv_at hl 0 rfl) ?_
      refine w_getr (j2 := 133) hx hb hts (z_memU u11) hown hK.1 hS f11_9 (by decide) (zkd_of (rfl : zcd wC 0 = 0) rfl) (zrf_of (rfl : zcd wC 0 = 0) rfl) (Or.inl (hts _ (z_mem k251))) dX11_row_14 ?_
      refine w_alen (n := 40) hx hb hK.1 (t0 := 0) rfl hS (by decide) (zkd_of (rfl : zcd wC 133 = 49) rfl) (zln_of (rfl : zcd wC 133 = 49) rfl) dX11_row_17 ?_
      refine z_top (show (((40 : Nat) : Int)) = 40 from by decide) ?_
      refine w_icmp_lt (tgt := 29) hx hb rfl (sI_of (by decide)) dX11_row_18 (by decide) (fun c3 => ?_) (fun c3 => ?_)
      · skip
        have h := h.1 c3
        refine lv_aload_n hx hb dX11_row_29 rfl (lv_at hl 0 rfl) ?_
        refine w_getr (j2 := 133) hx hb hts (z_memU u11) hown hK.1 hS f11_9 (by decide) (zkd_of (rfl : zcd wC 0 = 0) rfl) (zrf_of (rfl : zcd wC 0 = 0) rfl) (Or.inl (hts _ (z_mem k251))) dX11_row_30 ?_
        refine lv_iload_n hx hb dX11_row_33 rfl (lv_at hl 1 rfl) ?_
        obtain ⟨o4, h⟩ := h
        refine w_iald (n := 40) (i := (sI a0)) hx hb hK.1 (t0 := 0) rfl hS (by decide) (zkd_of (rfl : zcd wC 133 = 49) rfl) (zln_of (rfl : zcd wC 133 = 49) rfl) rfl o4.1 o4.2 (by decide) dX11_row_34 ?_
        refine vx_ret (W.widen (k := 1) (n := 6) (Nat.zero_le _) (Nat.zero_le _) ?_)
        exact w_iret hx hb hr hlocks hS hS0 rfl ⟨rfl, h⟩ dX11_row_35
      · skip
        have h := h.2 c3
        exact vx_throw0 (own := "TapeRings") (cls := "java/util/NoSuchElementException") (names := ["java/lang/RuntimeException", "java/lang/Exception"]) (ik := 156) (ic := 158) hx hb hst hown (by decide +kernel) (by decide +kernel) (hts _ (z_mem k883)) (hts _ (z_mem k21)) (tw_hat (fun w hw => hts w (z_mem hw)) hZ.1) tw_good hZ.2.1 hZ.2.2 hS0 (hl.1.trans hml.symm) dX11_row_21 dX11_row_24 dX11_row_25 dX11_row_28 (fun x hx9 => (hex x hx9).elim) (Nat.le_of_ble_eq_true rfl) (Nat.le_of_ble_eq_true rfl) (Nat.le_of_ble_eq_true rfl) (Nat.le_of_ble_eq_true rfl) hlocks (fun t _ h1 h2 => wX_of hS hS0 h1 h2 h) hS0.2.2 (Nat.le_of_ble_eq_true rfl) (Nat.le_of_ble_eq_true rfl)

set_option maxRecDepth 100000 in
def wR_in (a0 : Int) (a1 : Int) (a2 : Int) (M : zM) (Q : Int → Prop) : Prop := ((sI a0) < (sI a1) → Q 0) ∧ ((sI a1) ≤ (sI a0) → ((sI a2) < (sI a0) → Q 0) ∧ ((sI a0) ≤ (sI a2) → Q 1))
set_option maxHeartbeats 4000000 in
set_option maxRecDepth 100000 in
theorem cR_in (l : Launch) (D : va_G) (dA : Nat → ClassId) (b : Nat) (M : zM) (a0 : Int) (a1 : Int) (a2 : Int)  (Q : Int → Prop) (h : wR_in a0 a1 a2 M Q) : Met l yX12_in (.code yX12_in cX12_in 3 (some .boolean) :: zt) (z_rm 0) (va_Pc [.int (iI a0), .int (iI a1), .int (iI a2)] (wPre D dA vwCl (z_tys dA) wR nR b M)) (va_Qi (wQz (fun z9 u9 => u9 = M ∧ Q z9)) (zB D dA vwCl wR nR b) (zA nR b)) 0 0 (zA nR b) := by
  unfold wR_in at h
  refine Met.ofW (cc := cX12_in) (maxL := 3) (ret := (some .boolean)) (by decide) rfl ?_
  intro p e s m args below meth c s₁ B hml hv
  obtain ⟨hargs, hS, hK⟩ := hv
  have hx := B.exec
  have hb := B.bytes
  have hr := B.returns
  have hts := atoms_spec (ws := .code yX12_in cX12_in 3 (some .boolean) :: zt) B.pre
  have hown : s.vm.findClass RX12 = some m.cls := findClass_of_methodNamed B.named
  have hlocks := B.notSynchronized
  have hS0 : va_S (zA nR b) s.heap s.heap [] := va_S.rf
  have hl := lv_entry ([.int (iI a0), .int (iI a1), .int (iI a2)]) (n := 3) (Nat.le_of_ble_eq_true rfl)
  have hent : entryFrame m args 3 = F0 m 0 ((lg_sl ([.int (iI a0), .int (iI a1), .int (iI a2)]) ++ List.replicate (3 - (lg_sl ([.int (iI a0), .int (iI a1), .int (iI a2)])).length) Slot.unset).toArray) [] := by rw [hargs]; exact lg_entry_eq m ([.int (iI a0), .int (iI a1), .int (iI a2)]) 3
  rw [hent]
  generalize (lg_sl ([.int (iI a0), .int (iI a1), .int (iI a2)]) ++ List.replicate (3 - (lg_sl ([.int (iI a0), .int (iI a1), .int (iI a2)])).length) Slot.unset).toArray = ls at hl ⊢
  have hl : lv_has ls 3 [(0, .int (iI a0)), (1, .int (iI a1)), (2, .int (iI a2))] := hl
  refine lv_iload_n hx hb dX12_in_0 rfl (lv_at hl 0 rfl) ?_
  refine lv_iload_n hx hb dX12_in_1 rfl (lv_at hl 1 rfl) ?_
  refine w_icmp_lt (tgt := 14) hx hb rfl rfl dX12_in_2 (by decide) (fun c1 => ?_) (fun c1 => ?_)
  · skip
    have h := h.1 c1
    refine z_iconst hx hb dX12_in_14 ?_
    exact w_zret hx hb hr hlocks hS hS0 (sI_of (by decide)) (by decide) ⟨rfl, h⟩ dX12_in_15
  · skip
    have h := h.2 c1
    refine lv_iload_n hx hb dX12_in_5 rfl (lv_at hl 0 rfl) ?_
    refine lv_iload_n hx hb dX12_in_6 rfl (lv_at hl 2 rfl) ?_
    refine w_icmp_gt (tgt := 14) hx hb rfl rfl dX12_in_7 (by decide) (fun c2 => ?_) (fun c2 => ?_)
    · skip
      have h := h.1 c2
      refine z_iconst hx hb dX12_in_14 ?_
      exact w_zret hx hb hr hlocks hS hS0 (sI_of (by decide)) (by decide) ⟨rfl, h⟩ dX12_in_15
    · skip
      have h := h.2 c2
      refine z_iconst hx hb dX12_in_10 ?_
      refine lv_goto (tgt := 15) hx hb dX12_in_11 (by decide) ?_
      exact w_zret hx hb hr hlocks hS hS0 (sI_of (by decide)) (by decide) ⟨rfl, h⟩ dX12_in_15

set_option maxRecDepth 100000 in
def wR_areSounds (a0 : Int) (M : zM) (Q : Int → Prop) : Prop := ((andI a0 (-1023)) ≠ 0 → Q 0) ∧ ((andI a0 (-1023)) = 0 → Q 1)
set_option maxHeartbeats 4000000 in
set_option maxRecDepth 100000 in
theorem cR_areSounds (l : Launch) (D : va_G) (dA : Nat → ClassId) (b : Nat) (M : zM) (a0 : Int)  (Q : Int → Prop) (h : wR_areSounds a0 M Q) : Met l yX12_areSounds (.code yX12_areSounds cX12_areSounds 1 (some .boolean) :: zt) (z_rm 0) (va_Pc [.int (iI a0)] (wPre D dA vwCl (z_tys dA) wR nR b M)) (va_Qi (wQz (fun z9 u9 => u9 = M ∧ Q z9)) (zB D dA vwCl wR nR b) (zA nR b)) 0 0 (zA nR b) := by
  unfold wR_areSounds at h
  refine Met.ofW (cc := cX12_areSounds) (maxL := 1) (ret := (some .boolean)) (by decide) rfl ?_
  intro p e s m args below meth c s₁ B hml hv
  obtain ⟨hargs, hS, hK⟩ := hv
  have hx := B.exec
  have hb := B.bytes
  have hr := B.returns
  have hts := atoms_spec (ws := .code yX12_areSounds cX12_areSounds 1 (some .boolean) :: zt) B.pre
  have hown : s.vm.findClass RX12 = some m.cls := findClass_of_methodNamed B.named
  have hlocks := B.notSynchronized
  have hS0 : va_S (zA nR b) s.heap s.heap [] := va_S.rf
  have hl := lv_entry ([.int (iI a0)]) (n := 1) (Nat.le_of_ble_eq_true rfl)
  have hent : entryFrame m args 1 = F0 m 0 ((lg_sl ([.int (iI a0)]) ++ List.replicate (1 - (lg_sl ([.int (iI a0)])).length) Slot.unset).toArray) [] := by rw [hargs]; exact lg_entry_eq m ([.int (iI a0)]) 1
  rw [hent]
  generalize (lg_sl ([.int (iI a0)]) ++ List.replicate (1 - (lg_sl ([.int (iI a0)])).length) Slot.unset).toArray = ls at hl ⊢
  have hl : lv_has ls 1 [(0, .int (iI a0))] := hl
  refine lv_iload_n hx hb dX12_areSounds_0 rfl (lv_at hl 0 rfl) ?_
  refine z_sipush hx hb (by decide) dX12_areSounds_1 ?_
  refine w_iand hx hb dX12_areSounds_4 ?_
  refine w_if_ne (tgt := 12) hx hb (sI_of (andI_R _ _)) dX12_areSounds_5 (by decide) (fun c1 => ?_) (fun c1 => ?_)
  · skip
    have h := h.1 c1
    refine z_iconst hx hb dX12_areSounds_12 ?_
    exact w_zret hx hb hr hlocks hS hS0 (sI_of (by decide)) (by decide) ⟨rfl, h⟩ dX12_areSounds_13
  · skip
    have h := h.2 c1
    refine z_iconst hx hb dX12_areSounds_8 ?_
    refine lv_goto (tgt := 13) hx hb dX12_areSounds_9 (by decide) ?_
    exact w_zret hx hb hr hlocks hS hS0 (sI_of (by decide)) (by decide) ⟨rfl, h⟩ dX12_areSounds_13

set_option maxRecDepth 100000 in
def wR_isRing (a0 : Int) (M : zM) (Q : Int → Prop) : Prop := wR_in a0 0 ((M 0 10) - 1) M (fun z2 => Q z2)
set_option maxHeartbeats 4000000 in
set_option maxRecDepth 100000 in
theorem cR_isRing (l : Launch) (D : va_G) (dA : Nat → ClassId) (b : Nat) (M : zM) (a0 : Int)  (Q : Int → Prop) (h : wR_isRing a0 M Q) : Met l yX12_isRing (.code yX12_isRing cX12_isRing 2 (some .boolean) :: zt) (z_rm 1) (va_Pc [.ref (b + 0), .int (iI a0)] (wPre D dA vwCl (z_tys dA) wR nR b M)) (va_Qi (wQz (fun z9 u9 => u9 = M ∧ Q z9)) (zB D dA vwCl wR nR b) (zA nR b)) 0 0 (zA nR b) := by
  unfold wR_isRing at h
  refine Met.ofW (cc := cX12_isRing) (maxL := 2) (ret := (some .boolean)) (by decide) rfl ?_
  intro p e s m args below meth c s₁ B hml hv
  obtain ⟨hargs, hS, hK⟩ := hv
  have hx := B.exec
  have hb := B.bytes
  have hr := B.returns
  have hts := atoms_spec (ws := .code yX12_isRing cX12_isRing 2 (some .boolean) :: zt) B.pre
  have hown : s.vm.findClass RX12 = some m.cls := findClass_of_methodNamed B.named
  have hlocks := B.notSynchronized
  have hS0 : va_S (zA nR b) s.heap s.heap [] := va_S.rf
  have hl := lv_entry ([.ref (b + 0), .int (iI a0)]) (n := 2) (Nat.le_of_ble_eq_true rfl)
  have hent : entryFrame m args 2 = F0 m 0 ((lg_sl ([.ref (b + 0), .int (iI a0)]) ++ List.replicate (2 - (lg_sl ([.ref (b + 0), .int (iI a0)])).length) Slot.unset).toArray) [] := by rw [hargs]; exact lg_entry_eq m ([.ref (b + 0), .int (iI a0)]) 2
  rw [hent]
  generalize (lg_sl ([.ref (b + 0), .int (iI a0)]) ++ List.replicate (2 - (lg_sl ([.ref (b + 0), .int (iI a0)])).length) Slot.unset).toArray = ls at hl ⊢
  have hl : lv_has ls 2 [(0, .ref (b + 0)), (1, .int (iI a0))] := hl
  refine lv_iload_n hx hb dX12_isRing_0 rfl (lv_at hl 1 rfl) ?_
  refine z_iconst hx hb dX12_isRing_1 ?_
  refine lv_aload_n hx hb dX12_isRing_2 rfl (lv_at hl 0 rfl) ?_
  refine w_geti hx hb hts (z_memU u12) hown hK.1 hS f12_10 (by decide) (zkd_of (rfl : zcd wR 0 = 50) rfl) (Or.inl (hts _ (z_mem k954))) dX12_isRing_3 ?_
  refine z_iconst hx hb dX12_isRing_6 ?_
  refine z_isub hx hb dX12_isRing_7 ?_
  refine w_callz (va_runS (As := [.int (iI a0), .int (iI 0), .int (iI ((M 0 10) - 1))]) (rest := []) ⟨hx, hb, hml, hown, hts⟩ (cR_in l D dA b M a0 0 ((M 0 10) - 1) _ h) (va_cwS 3 hts (z_gS k1083 k1084 k14 k1085) rfl rfl rfl dm_X12_in.2 ⟨Nat.le_of_ble_eq_true rfl, Nat.le_of_ble_eq_true rfl⟩) ⟨wPre_blind, w_pre hS hK⟩ rfl rfl hl.1 rfl (lv_room (Nat.le_of_ble_eq_true rfl)) dX12_isRing_8 ⟨Nat.le_refl _, Nat.le_refl _⟩) hS0 (fun z2 M1 H locs r3 h hS hS0 => ?_)
  obtain ⟨e4, h⟩ := h
  rw [e4] at hS
  exact w_zret hx hb hr hlocks hS hS0 (sI_01 r3) r3 ⟨rfl, h⟩ dX12_isRing_11

set_option maxRecDepth 100000 in
def wR_isMotor (a0 : Int) (M : zM) (Q : Int → Prop) : Prop := ((sI a0) = 0 → Q 1) ∧ ((sI a0) ≠ 0 → ((sI a0) ≠ 1 → Q 0) ∧ ((sI a0) = 1 → Q 1))
set_option maxHeartbeats 4000000 in
set_option maxRecDepth 100000 in
theorem cR_isMotor (l : Launch) (D : va_G) (dA : Nat → ClassId) (b : Nat) (M : zM) (a0 : Int)  (Q : Int → Prop) (h : wR_isMotor a0 M Q) : Met l yX12_isMotor (.code yX12_isMotor cX12_isMotor 1 (some .boolean) :: zt) (z_rm 0) (va_Pc [.int (iI a0)] (wPre D dA vwCl (z_tys dA) wR nR b M)) (va_Qi (wQz (fun z9 u9 => u9 = M ∧ Q z9)) (zB D dA vwCl wR nR b) (zA nR b)) 0 0 (zA nR b) := by
  unfold wR_isMotor at h
  refine Met.ofW (cc := cX12_isMotor) (maxL := 1) (ret := (some .boolean)) (by decide) rfl ?_
  intro p e s m args below meth c s₁ B hml hv
  obtain ⟨hargs, hS, hK⟩ := hv
  have hx := B.exec
  have hb := B.bytes
  have hr := B.returns
  have hts := atoms_spec (ws := .code yX12_isMotor cX12_isMotor 1 (some .boolean) :: zt) B.pre
  have hown : s.vm.findClass RX12 = some m.cls := findClass_of_methodNamed B.named
  have hlocks := B.notSynchronized
  have hS0 : va_S (zA nR b) s.heap s.heap [] := va_S.rf
  have hl := lv_entry ([.int (iI a0)]) (n := 1) (Nat.le_of_ble_eq_true rfl)
  have hent : entryFrame m args 1 = F0 m 0 ((lg_sl ([.int (iI a0)]) ++ List.replicate (1 - (lg_sl ([.int (iI a0)])).length) Slot.unset).toArray) [] := by rw [hargs]; exact lg_entry_eq m ([.int (iI a0)]) 1
  rw [hent]
  generalize (lg_sl ([.int (iI a0)]) ++ List.replicate (1 - (lg_sl ([.int (iI a0)])).length) Slot.unset).toArray = ls at hl ⊢
  have hl : lv_has ls 1 [(0, .int (iI a0))] := hl
  refine lv_iload_n hx hb dX12_isMotor_0 rfl (lv_at hl 0 rfl) ?_
  refine w_if_eq (tgt := 9) hx hb rfl dX12_isMotor_1 (by decide) (fun c1 => ?_) (fun c1 => ?_)
  · skip
    have h := h.1 c1
    refine z_iconst hx hb dX12_isMotor_9 ?_
    refine lv_goto (tgt := 14) hx hb dX12_isMotor_10 (by decide) ?_
    exact w_zret hx hb hr hlocks hS hS0 (sI_of (by decide)) (by decide) ⟨rfl, h⟩ dX12_isMotor_14
  · skip
    have h := h.2 c1
    refine lv_iload_n hx hb dX12_isMotor_4 rfl (lv_at hl 0 rfl) ?_
    refine z_iconst hx hb dX12_isMotor_5 ?_
    refine w_icmp_ne (tgt := 13) hx hb rfl (sI_of (by decide)) dX12_isMotor_6 (by decide) (fun c2 => ?_) (fun c2 => ?_)
    · skip
      have h := h.1 c2
      refine z_iconst hx hb dX12_isMotor_13 ?_
      exact w_zret hx hb hr hlocks hS hS0 (sI_of (by decide)) (by decide) ⟨rfl, h⟩ dX12_isMotor_14
    · skip
      have h := h.2 c2
      refine z_iconst hx hb dX12_isMotor_9 ?_
      refine lv_goto (tgt := 14) hx hb dX12_isMotor_10 (by decide) ?_
      exact w_zret hx hb hr hlocks hS hS0 (sI_of (by decide)) (by decide) ⟨rfl, h⟩ dX12_isMotor_14

set_option maxRecDepth 100000 in
def wR_sign (a0 : Int) (M : zM) (Q : Int → zM → Prop) : Prop := (∀ M1 : zM, M1 = zup M 0 35 0 → ((sI ((M1 0 1) + 4)) ≤ 100 → ((0 ≤ (sI (M1 0 1)) ∧ (sI (M1 0 1)) < 100) ∧ (∀ M5 : zM, M5 = zup M1 1 (sI (M1 0 1)).toNat (b8I (shrI a0 24)) → ((0 ≤ (sI ((M5 0 1) + 1)) ∧ (sI ((M5 0 1) + 1)) < 100) ∧ (∀ M8 : zM, M8 = zup M5 1 (sI ((M5 0 1) + 1)).toNat (b8I (shrI a0 16)) → ((0 ≤ (sI ((M8 0 1) + 2)) ∧ (sI ((M8 0 1) + 2)) < 100) ∧ (∀ M11 : zM, M11 = zup M8 1 (sI ((M8 0 1) + 2)).toNat (b8I (shrI a0 8)) → ((0 ≤ (sI ((M11 0 1) + 3)) ∧ (sI ((M11 0 1) + 3)) < 100) ∧ (∀ M14 : zM, M14 = zup M11 1 (sI ((M11 0 1) + 3)).toNat (b8I a0) → (∀ M16 : zM, M16 = zup M14 0 1 ((M14 0 1) + 4) → Q (sI (M16 0 1)) M16)))))))))) ∧ (100 < (sI ((M1 0 1) + 4)) → Q (-1) M1))
set_option maxHeartbeats 4000000 in
set_option maxRecDepth 100000 in
theorem cR_sign (l : Launch) (D : va_G) (dA : Nat → ClassId) (b : Nat) (M : zM) (a0 : Int)  (Q : Int → zM → Prop) (h : wR_sign a0 M Q) : Met l yX12_sign (.code yX12_sign cX12_sign 2 (some .int) :: zt) (z_rm 0) (va_Pc [.ref (b + 0), .int (iI a0)] (wPre D dA vwCl (z_tys dA) wR nR b M)) (va_Qi (wQi Q) (zB D dA vwCl wR nR b) (zA nR b)) 0 0 (zA nR b) := by
  unfold wR_sign at h
  refine Met.ofW (cc := cX12_sign) (maxL := 2) (ret := (some .int)) (by decide) rfl ?_
  intro p e s m args below meth c s₁ B hml hv
  obtain ⟨hargs, hS, hK⟩ := hv
  have hx := B.exec
  have hb := B.bytes
  have hr := B.returns
  have hts := atoms_spec (ws := .code yX12_sign cX12_sign 2 (some .int) :: zt) B.pre
  have hown : s.vm.findClass RX12 = some m.cls := findClass_of_methodNamed B.named
  have hlocks := B.notSynchronized
  have hS0 : va_S (zA nR b) s.heap s.heap [] := va_S.rf
  have hl := lv_entry ([.ref (b + 0), .int (iI a0)]) (n := 2) (Nat.le_of_ble_eq_true rfl)
  have hent : entryFrame m args 2 = F0 m 0 ((lg_sl ([.ref (b + 0), .int (iI a0)]) ++ List.replicate (2 - (lg_sl ([.ref (b + 0), .int (iI a0)])).length) Slot.unset).toArray) [] := by rw [hargs]; exact lg_entry_eq m ([.ref (b + 0), .int (iI a0)]) 2
  rw [hent]
  generalize (lg_sl ([.ref (b + 0), .int (iI a0)]) ++ List.replicate (2 - (lg_sl ([.ref (b + 0), .int (iI a0)])).length) Slot.unset).toArray = ls at hl ⊢
  have hl : lv_has ls 2 [(0, .ref (b + 0)), (1, .int (iI a0))] := hl
  refine lv_aload_n hx hb dX12_sign_0 rfl (lv_at hl 0 rfl) ?_
  refine z_iconst hx hb dX12_sign_1 ?_
  refine w_puti hx hb hts (z_memU u12) tyX12 tyX12_ok nmX12 hown hK.1 hS hS0 f12_35 (by decide) (zkd_of (rfl : zcd wR 0 = 50) rfl) (Or.inl (hts _ (z_mem k979))) rfl (z := 0) (by decide +kernel) dX12_sign_2 (fun H locs hS hS0 => ?_)
  obtain ⟨M1, e2⟩ : ∃ M1 : zM, M1 = zup M 0 35 0 := ⟨_, rfl⟩
  rw [← e2] at hS
  have h := h M1 e2
  refine lv_aload_n hx hb dX12_sign_5 rfl (lv_at hl 0 rfl) ?_
  refine w_geti hx hb hts (z_memU u12) hown hK.1 hS f12_1 (by decide) (zkd_of (rfl : zcd wR 0 = 50) rfl) (Or.inl (hts _ (z_mem k945))) dX12_sign_6 ?_
  refine z_iconst hx hb dX12_sign_9 ?_
  refine z_iadd hx hb dX12_sign_10 ?_
  refine z_bipush hx hb (by decide) dX12_sign_11 ?_
  refine w_icmp_le (tgt := 18) hx hb rfl (sI_of (by decide)) dX12_sign_13 (by decide) (fun c3 => ?_) (fun c3 => ?_)
  · skip
    have h := h.1 c3
    refine lv_aload_n hx hb dX12_sign_18 rfl (lv_at hl 0 rfl) ?_
    refine w_getr (j2 := 1) hx hb hts (z_memU u12) hown hK.1 hS f12_0 (by decide) (zkd_of (rfl : zcd wR 0 = 50) rfl) (zrf_of (rfl : zcd wR 0 = 50) rfl) (Or.inl (hts _ (z_mem k944))) dX12_sign_19 ?_
    refine lv_aload_n hx hb dX12_sign_22 rfl (lv_at hl 0 rfl) ?_
    refine w_geti hx hb hts (z_memU u12) hown hK.1 hS f12_1 (by decide) (zkd_of (rfl : zcd wR 0 = 50) rfl) (Or.inl (hts _ (z_mem k945))) dX12_sign_23 ?_
    refine lv_iload_n hx hb dX12_sign_26 rfl (lv_at hl 1 rfl) ?_
    refine z_bipush hx hb (by decide) dX12_sign_27 ?_
    refine w_ishr hx hb dX12_sign_29 ?_
    refine w_i2b hx hb dX12_sign_30 ?_
    obtain ⟨o4, h⟩ := h
    refine w_bast (z := (b8I (shrI a0 24))) (n := 100) (i := (sI (M1 0 1))) hx hb hK.1 (t0 := 2) rfl hS hS0 (by decide) (zkd_of (rfl : zcd wR 1 = 51) rfl) (zln_of (rfl : zcd wR 1 = 51) rfl) rfl (sI_of (b8I_R _)) o4.1 o4.2 (by decide) (b8I_in (shrI a0 24)) dX12_sign_31 (fun H locs hS hS0 => ?_)
    obtain ⟨M5, e6⟩ : ∃ M5 : zM, M5 = zup M1 1 (sI (M1 0 1)).toNat (b8I (shrI a0 24)) := ⟨_, rfl⟩
    rw [← e6] at hS
    have h := h M5 e6
    refine lv_aload_n hx hb dX12_sign_32 rfl (lv_at hl 0 rfl) ?_
    refine w_getr (j2 := 1) hx hb hts (z_memU u12) hown hK.1 hS f12_0 (by decide) (zkd_of (rfl : zcd wR 0 = 50) rfl) (zrf_of (rfl : zcd wR 0 = 50) rfl) (Or.inl (hts _ (z_mem k944))) dX12_sign_33 ?_
    refine lv_aload_n hx hb dX12_sign_36 rfl (lv_at hl 0 rfl) ?_
    refine w_geti hx hb hts (z_memU u12) hown hK.1 hS f12_1 (by decide) (zkd_of (rfl : zcd wR 0 = 50) rfl) (Or.inl (hts _ (z_mem k945))) dX12_sign_37 ?_
    refine z_iconst hx hb dX12_sign_40 ?_
    refine z_iadd hx hb dX12_sign_41 ?_
    refine lv_iload_n hx hb dX12_sign_42 rfl (lv_at hl 1 rfl) ?_
    refine z_bipush hx hb (by decide) dX12_sign_43 ?_
    refine w_ishr hx hb dX12_sign_45 ?_
    refine w_i2b hx hb dX12_sign_46 ?_
    obtain ⟨o7, h⟩ := h
    refine w_bast (z := (b8I (shrI a0 16))) (n := 100) (i := (sI ((M5 0 1) + 1))) hx hb hK.1 (t0 := 2) rfl hS hS0 (by decide) (zkd_of (rfl : zcd wR 1 = 51) rfl) (zln_of (rfl : zcd wR 1 = 51) rfl) rfl (sI_of (b8I_R _)) o7.1 o7.2 (by decide) (b8I_in (shrI a0 16)) dX12_sign_47 (fun H locs hS hS0 => ?_)
    obtain ⟨M8, e9⟩ : ∃ M8 : zM, M8 = zup M5 1 (sI ((M5 0 1) + 1)).toNat (b8I (shrI a0 16)) := ⟨_, rfl⟩
    rw [← e9] at hS
    have h := h M8 e9
    refine lv_aload_n hx hb dX12_sign_48 rfl (lv_at hl 0 rfl) ?_
    refine w_getr (j2 := 1) hx hb hts (z_memU u12) hown hK.1 hS f12_0 (by decide) (zkd_of (rfl : zcd wR 0 = 50) rfl) (zrf_of (rfl : zcd wR 0 = 50) rfl) (Or.inl (hts _ (z_mem k944))) dX12_sign_49 ?_
    refine lv_aload_n hx hb dX12_sign_52 rfl (lv_at hl 0 rfl) ?_
    refine w_geti hx hb hts (z_memU u12) hown hK.1 hS f12_1 (by decide) (zkd_of (rfl : zcd wR 0 = 50) rfl) (Or.inl (hts _ (z_mem k945))) dX12_sign_53 ?_
    refine z_iconst hx hb dX12_sign_56 ?_
    refine z_iadd hx hb dX12_sign_57 ?_
    refine lv_iload_n hx hb dX12_sign_58 rfl (lv_at hl 1 rfl) ?_
    refine z_bipush hx hb (by decide) dX12_sign_59 ?_
    refine w_ishr hx hb dX12_sign_61 ?_
    refine w_i2b hx hb dX12_sign_62 ?_
    obtain ⟨o10, h⟩ := h
    refine w_bast (z := (b8I (shrI a0 8))) (n := 100) (i := (sI ((M8 0 1) + 2))) hx hb hK.1 (t0 := 2) rfl hS hS0 (by decide) (zkd_of (rfl : zcd wR 1 = 51) rfl) (zln_of (rfl : zcd wR 1 = 51) rfl) rfl (sI_of (b8I_R _)) o10.1 o10.2 (by decide) (b8I_in (shrI a0 8)) dX12_sign_63 (fun H locs hS hS0 => ?_)
    obtain ⟨M11, e12⟩ : ∃ M11 : zM, M11 = zup M8 1 (sI ((M8 0 1) + 2)).toNat (b8I (shrI a0 8)) := ⟨_, rfl⟩
    rw [← e12] at hS
    have h := h M11 e12
    refine lv_aload_n hx hb dX12_sign_64 rfl (lv_at hl 0 rfl) ?_
    refine w_getr (j2 := 1) hx hb hts (z_memU u12) hown hK.1 hS f12_0 (by decide) (zkd_of (rfl : zcd wR 0 = 50) rfl) (zrf_of (rfl : zcd wR 0 = 50) rfl) (Or.inl (hts _ (z_mem k944))) dX12_sign_65 ?_
    refine lv_aload_n hx hb dX12_sign_68 rfl (lv_at hl 0 rfl) ?_
    refine w_geti hx hb hts (z_memU u12) hown hK.1 hS f12_1 (by decide) (zkd_of (rfl : zcd wR 0 = 50) rfl) (Or.inl (hts _ (z_mem k945))) dX12_sign_69 ?_
    refine z_iconst hx hb dX12_sign_72 ?_
    refine z_iadd hx hb dX12_sign_73 ?_
    refine lv_iload_n hx hb dX12_sign_74 rfl (lv_at hl 1 rfl) ?_
    refine w_i2b hx hb dX12_sign_75 ?_
    obtain ⟨o13, h⟩ := h
    refine w_bast (z := (b8I a0)) (n := 100) (i := (sI ((M11 0 1) + 3))) hx hb hK.1 (t0 := 2) rfl hS hS0 (by decide) (zkd_of (rfl : zcd wR 1 = 51) rfl) (zln_of (rfl : zcd wR 1 = 51) rfl) rfl (sI_of (b8I_R _)) o13.1 o13.2 (by decide) (b8I_in a0) dX12_sign_76 (fun H locs hS hS0 => ?_)
    obtain ⟨M14, e15⟩ : ∃ M14 : zM, M14 = zup M11 1 (sI ((M11 0 1) + 3)).toNat (b8I a0) := ⟨_, rfl⟩
    rw [← e15] at hS
    have h := h M14 e15
    refine lv_aload_n hx hb dX12_sign_77 rfl (lv_at hl 0 rfl) ?_
    refine lv_dup hx hb dX12_sign_78 rfl ?_
    refine w_geti hx hb hts (z_memU u12) hown hK.1 hS f12_1 (by decide) (zkd_of (rfl : zcd wR 0 = 50) rfl) (Or.inl (hts _ (z_mem k945))) dX12_sign_79 ?_
    refine z_iconst hx hb dX12_sign_82 ?_
    refine z_iadd hx hb dX12_sign_83 ?_
    refine w_puti hx hb hts (z_memU u12) tyX12 tyX12_ok nmX12 hown hK.1 hS hS0 f12_1 (by decide) (zkd_of (rfl : zcd wR 0 = 50) rfl) (Or.inl (hts _ (z_mem k945))) rfl (z := ((M14 0 1) + 4)) (by decide +kernel) dX12_sign_84 (fun H locs hS hS0 => ?_)
    obtain ⟨M16, e17⟩ : ∃ M16 : zM, M16 = zup M14 0 1 ((M14 0 1) + 4) := ⟨_, rfl⟩
    rw [← e17] at hS
    have h := h M16 e17
    refine lv_aload_n hx hb dX12_sign_87 rfl (lv_at hl 0 rfl) ?_
    refine w_geti hx hb hts (z_memU u12) hown hK.1 hS f12_1 (by decide) (zkd_of (rfl : zcd wR 0 = 50) rfl) (Or.inl (hts _ (z_mem k945))) dX12_sign_88 ?_
    exact w_iret hx hb hr hlocks hS hS0 rfl h dX12_sign_91
  · skip
    have h := h.2 c3
    refine z_iconst hx hb dX12_sign_16 ?_
    exact w_iret hx hb hr hlocks hS hS0 (sI_of (by decide)) h dX12_sign_17

set_option maxRecDepth 100000 in
def wR_end (a0 : Int) (M : zM) (Q : Int → zM → Prop) : Prop := (∀ M1 : zM, M1 = zup M 0 35 0 → ((sI a0) < 0 → Q 0 M1) ∧ (0 ≤ (sI a0) → ((sI a0) ≤ (sI (M1 0 1)) → (∀ M5 : zM, M5 = zup M1 0 1 a0 → Q 1 M5)) ∧ ((sI (M1 0 1)) < (sI a0) → Q 0 M1)))
set_option maxHeartbeats 4000000 in
set_option maxRecDepth 100000 in
theorem cR_end (l : Launch) (D : va_G) (dA : Nat → ClassId) (b : Nat) (M : zM) (a0 : Int)  (Q : Int → zM → Prop) (h : wR_end a0 M Q) : Met l yX12_end (.code yX12_end cX12_end 2 (some .boolean) :: zt) (z_rm 0) (va_Pc [.ref (b + 0), .int (iI a0)] (wPre D dA vwCl (z_tys dA) wR nR b M)) (va_Qi (wQz Q) (zB D dA vwCl wR nR b) (zA nR b)) 0 0 (zA nR b) := by
  unfold wR_end at h
  refine Met.ofW (cc := cX12_end) (maxL := 2) (ret := (some .boolean)) (by decide) rfl ?_
  intro p e s m args below meth c s₁ B hml hv
  obtain ⟨hargs, hS, hK⟩ := hv
  have hx := B.exec
  have hb := B.bytes
  have hr := B.returns
  have hts := atoms_spec (ws := .code yX12_end cX12_end 2 (some .boolean) :: zt) B.pre
  have hown : s.vm.findClass RX12 = some m.cls := findClass_of_methodNamed B.named
  have hlocks := B.notSynchronized
  have hS0 : va_S (zA nR b) s.heap s.heap [] := va_S.rf
  have hl := lv_entry ([.ref (b + 0), .int (iI a0)]) (n := 2) (Nat.le_of_ble_eq_true rfl)
  have hent : entryFrame m args 2 = F0 m 0 ((lg_sl ([.ref (b + 0), .int (iI a0)]) ++ List.replicate (2 - (lg_sl ([.ref (b + 0), .int (iI a0)])).length) Slot.unset).toArray) [] := by rw [hargs]; exact lg_entry_eq m ([.ref (b + 0), .int (iI a0)]) 2
  rw [hent]
  generalize (lg_sl ([.ref (b + 0), .int (iI a0)]) ++ List.replicate (2 - (lg_sl ([.ref (b + 0), .int (iI a0)])).length) Slot.unset).toArray = ls at hl ⊢
  have hl : lv_has ls 2 [(0, .ref (b + 0)), (1, .int (iI a0))] := hl
  refine lv_aload_n hx hb dX12_end_0 rfl (lv_at hl 0 rfl) ?_
  refine z_iconst hx hb dX12_end_1 ?_
  refine w_puti hx hb hts (z_memU u12) tyX12 tyX12_ok nmX12 hown hK.1 hS hS0 f12_35 (by decide) (zkd_of (rfl : zcd wR 0 = 50) rfl) (Or.inl (hts _ (z_mem k979))) rfl (z := 0) (by decide +kernel) dX12_end_2 (fun H locs hS hS0 => ?_)
  obtain ⟨M1, e2⟩ : ∃ M1 : zM, M1 = zup M 0 35 0 := ⟨_, rfl⟩
  rw [← e2] at hS
  have h := h M1 e2
  refine lv_iload_n hx hb dX12_end_5 rfl (lv_at hl 1 rfl) ?_
  refine w_if_lt (tgt := 17) hx hb rfl dX12_end_6 (by decide) (fun c3 => ?_) (fun c3 => ?_)
  · skip
    have h := h.1 c3
    refine z_iconst hx hb dX12_end_17 ?_
    exact w_zret hx hb hr hlocks hS hS0 (sI_of (by decide)) (by decide) h dX12_end_18
  · skip
    have h := h.2 c3
    refine lv_iload_n hx hb dX12_end_9 rfl (lv_at hl 1 rfl) ?_
    refine lv_aload_n hx hb dX12_end_10 rfl (lv_at hl 0 rfl) ?_
    refine w_geti hx hb hts (z_memU u12) hown hK.1 hS f12_1 (by decide) (zkd_of (rfl : zcd wR 0 = 50) rfl) (Or.inl (hts _ (z_mem k945))) dX12_end_11 ?_
    refine w_icmp_le (tgt := 19) hx hb rfl rfl dX12_end_14 (by decide) (fun c4 => ?_) (fun c4 => ?_)
    · skip
      have h := h.1 c4
      refine lv_aload_n hx hb dX12_end_19 rfl (lv_at hl 0 rfl) ?_
      refine lv_iload_n hx hb dX12_end_20 rfl (lv_at hl 1 rfl) ?_
      refine w_puti hx hb hts (z_memU u12) tyX12 tyX12_ok nmX12 hown hK.1 hS hS0 f12_1 (by decide) (zkd_of (rfl : zcd wR 0 = 50) rfl) (Or.inl (hts _ (z_mem k945))) rfl (z := a0) (by decide +kernel) dX12_end_21 (fun H locs hS hS0 => ?_)
      obtain ⟨M5, e6⟩ : ∃ M5 : zM, M5 = zup M1 0 1 a0 := ⟨_, rfl⟩
      rw [← e6] at hS
      have h := h M5 e6
      refine z_iconst hx hb dX12_end_24 ?_
      exact w_zret hx hb hr hlocks hS hS0 (sI_of (by decide)) (by decide) h dX12_end_25
    · skip
      have h := h.2 c4
      refine z_iconst hx hb dX12_end_17 ?_
      exact w_zret hx hb hr hlocks hS hS0 (sI_of (by decide)) (by decide) h dX12_end_18

set_option maxRecDepth 100000 in
def wR_has (a0 : Int) (a1 : Int) (M : zM) (Q : Int → Prop) : Prop := ((sI (M 0 1)) ≤ (sI (M 0 36)) → Q 0) ∧ ((sI (M 0 36)) < (sI (M 0 1)) → (60 ≤ (sI (M 0 36)) → Q 0) ∧ ((sI (M 0 36)) < 60 → ((0 ≤ (sI (M 0 36)) ∧ (sI (M 0 36)) < 100) ∧ ((sI (M 1 (sI (M 0 36)).toNat)) < (sI a0) → Q 0) ∧ ((sI a0) ≤ (sI (M 1 (sI (M 0 36)).toNat)) → ((0 ≤ (sI (M 0 36)) ∧ (sI (M 0 36)) < 100) ∧ ((sI a1) < (sI (M 1 (sI (M 0 36)).toNat)) → Q 0) ∧ ((sI (M 1 (sI (M 0 36)).toNat)) ≤ (sI a1) → Q 1))))))
set_option maxHeartbeats 4000000 in
set_option maxRecDepth 100000 in
theorem cR_has (l : Launch) (D : va_G) (dA : Nat → ClassId) (b : Nat) (M : zM) (a0 : Int) (a1 : Int)  (Q : Int → Prop) (h : wR_has a0 a1 M Q) : Met l yX12_has (.code yX12_has cX12_has 3 (some .boolean) :: zt) (z_rm 0) (va_Pc [.ref (b + 0), .int (iI a0), .int (iI a1)] (wPre D dA vwCl (z_tys dA) wR nR b M)) (va_Qi (wQz (fun z9 u9 => u9 = M ∧ Q z9)) (zB D dA vwCl wR nR b) (zA nR b)) 0 0 (zA nR b) := by
  unfold wR_has at h
  refine Met.ofW (cc := cX12_has) (maxL := 3) (ret := (some .boolean)) (by decide) rfl ?_
  intro p e s m args below meth c s₁ B hml hv
  obtain ⟨hargs, hS, hK⟩ := hv
  have hx := B.exec
  have hb := B.bytes
  have hr := B.returns
  have hts := atoms_spec (ws := .code yX12_has cX12_has 3 (some .boolean) :: zt) B.pre
  have hown : s.vm.findClass RX12 = some m.cls := findClass_of_methodNamed B.named
  have hlocks := B.notSynchronized
  have hS0 : va_S (zA nR b) s.heap s.heap [] := va_S.rf
  have hl := lv_entry ([.ref (b + 0), .int (iI a0), .int (iI a1)]) (n := 3) (Nat.le_of_ble_eq_true rfl)
  have hent : entryFrame m args 3 = F0 m 0 ((lg_sl ([.ref (b + 0), .int (iI a0), .int (iI a1)]) ++ List.replicate (3 - (lg_sl ([.ref (b + 0), .int (iI a0), .int (iI a1)])).length) Slot.unset).toArray) [] := by rw [hargs]; exact lg_entry_eq m ([.ref (b + 0), .int (iI a0), .int (iI a1)]) 3
  rw [hent]
  generalize (lg_sl ([.ref (b + 0), .int (iI a0), .int (iI a1)]) ++ List.replicate (3 - (lg_sl ([.ref (b + 0), .int (iI a0), .int (iI a1)])).length) Slot.unset).toArray = ls at hl ⊢
  have hl : lv_has ls 3 [(0, .ref (b + 0)), (1, .int (iI a0)), (2, .int (iI a1))] := hl
  refine lv_aload_n hx hb dX12_has_0 rfl (lv_at hl 0 rfl) ?_
  refine w_geti hx hb hts (z_memU u12) hown hK.1 hS f12_36 (by decide) (zkd_of (rfl : zcd wR 0 = 50) rfl) (Or.inl (hts _ (z_mem k980))) dX12_has_1 ?_
  refine lv_aload_n hx hb dX12_has_4 rfl (lv_at hl 0 rfl) ?_
  refine w_geti hx hb hts (z_memU u12) hown hK.1 hS f12_1 (by decide) (zkd_of (rfl : zcd wR 0 = 50) rfl) (Or.inl (hts _ (z_mem k945))) dX12_has_5 ?_
  refine w_icmp_ge (tgt := 50) hx hb rfl rfl dX12_has_8 (by decide) (fun c1 => ?_) (fun c1 => ?_)
  · skip
    have h := h.1 c1
    refine z_iconst hx hb dX12_has_50 ?_
    exact w_zret hx hb hr hlocks hS hS0 (sI_of (by decide)) (by decide) ⟨rfl, h⟩ dX12_has_51
  · skip
    have h := h.2 c1
    refine lv_aload_n hx hb dX12_has_11 rfl (lv_at hl 0 rfl) ?_
    refine w_geti hx hb hts (z_memU u12) hown hK.1 hS f12_36 (by decide) (zkd_of (rfl : zcd wR 0 = 50) rfl) (Or.inl (hts _ (z_mem k980))) dX12_has_12 ?_
    refine z_bipush hx hb (by decide) dX12_has_15 ?_
    refine w_icmp_ge (tgt := 50) hx hb rfl (sI_of (by decide)) dX12_has_17 (by decide) (fun c2 => ?_) (fun c2 => ?_)
    · skip
      have h := h.1 c2
      refine z_iconst hx hb dX12_has_50 ?_
      exact w_zret hx hb hr hlocks hS hS0 (sI_of (by decide)) (by decide) ⟨rfl, h⟩ dX12_has_51
    · skip
      have h := h.2 c2
      refine lv_aload_n hx hb dX12_has_20 rfl (lv_at hl 0 rfl) ?_
      refine w_getr (j2 := 1) hx hb hts (z_memU u12) hown hK.1 hS f12_0 (by decide) (zkd_of (rfl : zcd wR 0 = 50) rfl) (zrf_of (rfl : zcd wR 0 = 50) rfl) (Or.inl (hts _ (z_mem k944))) dX12_has_21 ?_
      refine lv_aload_n hx hb dX12_has_24 rfl (lv_at hl 0 rfl) ?_
      refine w_geti hx hb hts (z_memU u12) hown hK.1 hS f12_36 (by decide) (zkd_of (rfl : zcd wR 0 = 50) rfl) (Or.inl (hts _ (z_mem k980))) dX12_has_25 ?_
      obtain ⟨o3, h⟩ := h
      refine w_bald (n := 100) (i := (sI (M 0 36))) hx hb hK.1 (t0 := 2) rfl hS (by decide) (zkd_of (rfl : zcd wR 1 = 51) rfl) (zln_of (rfl : zcd wR 1 = 51) rfl) rfl o3.1 o3.2 (by decide) dX12_has_28 ?_
      refine lv_iload_n hx hb dX12_has_29 rfl (lv_at hl 1 rfl) ?_
      refine w_icmp_lt (tgt := 50) hx hb rfl rfl dX12_has_30 (by decide) (fun c4 => ?_) (fun c4 => ?_)
      · skip
        have h := h.1 c4
        refine z_iconst hx hb dX12_has_50 ?_
        exact w_zret hx hb hr hlocks hS hS0 (sI_of (by decide)) (by decide) ⟨rfl, h⟩ dX12_has_51
      · skip
        have h := h.2 c4
        refine lv_aload_n hx hb dX12_has_33 rfl (lv_at hl 0 rfl) ?_
        refine w_getr (j2 := 1) hx hb hts (z_memU u12) hown hK.1 hS f12_0 (by decide) (zkd_of (rfl : zcd wR 0 = 50) rfl) (zrf_of (rfl : zcd wR 0 = 50) rfl) (Or.inl (hts _ (z_mem k944))) dX12_has_34 ?_
        refine lv_aload_n hx hb dX12_has_37 rfl (lv_at hl 0 rfl) ?_
        refine w_geti hx hb hts (z_memU u12) hown hK.1 hS f12_36 (by decide) (zkd_of (rfl : zcd wR 0 = 50) rfl) (Or.inl (hts _ (z_mem k980))) dX12_has_38 ?_
        obtain ⟨o5, h⟩ := h
        refine w_bald (n := 100) (i := (sI (M 0 36))) hx hb hK.1 (t0 := 2) rfl hS (by decide) (zkd_of (rfl : zcd wR 1 = 51) rfl) (zln_of (rfl : zcd wR 1 = 51) rfl) rfl o5.1 o5.2 (by decide) dX12_has_41 ?_
        refine lv_iload_n hx hb dX12_has_42 rfl (lv_at hl 2 rfl) ?_
        refine w_icmp_gt (tgt := 50) hx hb rfl rfl dX12_has_43 (by decide) (fun c6 => ?_) (fun c6 => ?_)
        · skip
          have h := h.1 c6
          refine z_iconst hx hb dX12_has_50 ?_
          exact w_zret hx hb hr hlocks hS hS0 (sI_of (by decide)) (by decide) ⟨rfl, h⟩ dX12_has_51
        · skip
          have h := h.2 c6
          refine z_iconst hx hb dX12_has_46 ?_
          refine lv_goto (tgt := 51) hx hb dX12_has_47 (by decide) ?_
          exact w_zret hx hb hr hlocks hS hS0 (sI_of (by decide)) (by decide) ⟨rfl, h⟩ dX12_has_51
end zz10_w13
section zz10_w14
/-! the W layer, 14 -/
theorem q10w14_0_0 : (cX12_isWrong.data.toList.drop 0).take 18 = [42, 180, 0, 134, 2, 160, 0, 11, 42, 42, 180, 0, 131, 181, 0, 134, 3, 172] := by decide +kernel
theorem dX12_isWrong_0 : decode cX12_isWrong 0 = .ok (.aload_n 0, 1) := dz_42 (dz_at q10w14_0_0 0)
theorem dX12_isWrong_1 : decode cX12_isWrong 1 = .ok (.getfield 134, 3) := dz_180 (dz_at q10w14_0_0 1) rfl
theorem dX12_isWrong_10 : decode cX12_isWrong 10 = .ok (.getfield 131, 3) := dz_180 (dz_at q10w14_0_0 10) rfl
theorem dX12_isWrong_13 : decode cX12_isWrong 13 = .ok (.putfield 134, 3) := dz_181 (dz_at q10w14_0_0 13) rfl
theorem dX12_isWrong_16 : decode cX12_isWrong 16 = .ok (.iconst 0, 1) := dz_3 (dz_at q10w14_0_0 16)
theorem dX12_isWrong_17 : decode cX12_isWrong 17 = .ok (.ireturn, 1) := dz_172 (dz_at q10w14_0_0 17)
theorem dX12_isWrong_4 : decode cX12_isWrong 4 = .ok (.iconst (-1), 1) := dz_2 (dz_at q10w14_0_0 4)
theorem dX12_isWrong_5 : decode cX12_isWrong 5 = .ok (.if_icmp .ne 11, 3) := dz_160 (dz_at q10w14_0_0 5) (by decide +kernel)
theorem dX12_isWrong_8 : decode cX12_isWrong 8 = .ok (.aload_n 0, 1) := dz_42 (dz_at q10w14_0_0 8)
theorem dX12_isWrong_9 : decode cX12_isWrong 9 = .ok (.aload_n 0, 1) := dz_42 (dz_at q10w14_0_0 9)
theorem q10w14_1_0 : (cX12_makeRow.data.toList.drop 0).take 24 = [42, 27, 182, 0, 155, 61, 28, 156, 0, 5, 28, 172, 42, 180, 0, 87, 27, 42, 180, 0, 93, 27, 46, 79] := by decide +kernel
theorem q10w14_1_24 : (cX12_makeRow.data.toList.drop 24).take 23 = [3, 62, 29, 42, 180, 0, 93, 27, 46, 162, 0, 31, 42, 180, 0, 84, 16, 24, 27, 104, 29, 96, 42] := by decide +kernel
theorem q10w14_1_47 : (cX12_makeRow.data.toList.drop 47).take 22 = [180, 0, 90, 16, 24, 27, 104, 29, 96, 46, 79, 132, 3, 1, 167, 255, 221, 42, 16, 47, 16, 47] := by decide +kernel
theorem q10w14_1_69 : (cX12_makeRow.data.toList.drop 69).take 22 = [182, 0, 141, 154, 0, 36, 42, 16, 48, 16, 57, 182, 0, 141, 154, 0, 25, 42, 16, 91, 16, 91] := by decide +kernel
theorem q10w14_1_91 : (cX12_makeRow.data.toList.drop 91).take 24 = [182, 0, 141, 154, 0, 14, 42, 16, 40, 16, 40, 182, 0, 141, 153, 0, 190, 3, 62, 42, 16, 47, 16, 47] := by decide +kernel
theorem q10w14_1_115 : (cX12_makeRow.data.toList.drop 115).take 23 = [182, 0, 141, 153, 0, 28, 42, 180, 0, 9, 42, 180, 0, 131, 4, 96, 51, 16, 48, 100, 62, 42, 89] := by decide +kernel
theorem q10w14_1_138 : (cX12_makeRow.data.toList.drop 138).take 22 = [180, 0, 131, 5, 96, 181, 0, 131, 42, 27, 182, 0, 155, 61, 28, 156, 0, 5, 28, 172, 29, 42] := by decide +kernel
theorem q10w14_1_160 : (cX12_makeRow.data.toList.drop 160).take 22 = [180, 0, 87, 27, 46, 163, 0, 13, 29, 42, 180, 0, 93, 27, 46, 164, 0, 6, 16, 155, 172, 42] := by decide +kernel
theorem q10w14_1_182 : (cX12_makeRow.data.toList.drop 182).take 23 = [180, 0, 87, 27, 46, 29, 100, 54, 4, 21, 4, 42, 180, 0, 93, 27, 46, 96, 16, 24, 164, 0, 6] := by decide +kernel
theorem q10w14_1_205 : (cX12_makeRow.data.toList.drop 205).take 24 = [16, 156, 172, 3, 54, 5, 21, 5, 42, 180, 0, 93, 27, 46, 162, 0, 58, 16, 24, 27, 104, 21, 4, 96] := by decide +kernel
theorem q10w14_1_229 : (cX12_makeRow.data.toList.drop 229).take 23 = [21, 5, 96, 54, 6, 42, 180, 0, 84, 21, 6, 42, 180, 0, 90, 16, 24, 27, 104, 21, 5, 96, 46] := by decide +kernel
theorem q10w14_1_252 : (cX12_makeRow.data.toList.drop 252).take 22 = [21, 5, 29, 162, 0, 13, 42, 180, 0, 84, 21, 6, 46, 167, 0, 4, 3, 128, 79, 132, 5, 1] := by decide +kernel
theorem q10w14_1_274 : (cX12_makeRow.data.toList.drop 274).take 23 = [167, 255, 193, 42, 180, 0, 87, 27, 21, 4, 42, 180, 0, 93, 27, 46, 96, 79, 167, 255, 28, 3, 172] := by decide +kernel
theorem dX12_makeRow_0 : decode cX12_makeRow 0 = .ok (.aload_n 0, 1) := dz_42 (dz_at q10w14_1_0 0)
theorem dX12_makeRow_1 : decode cX12_makeRow 1 = .ok (.iload_n 1, 1) := dz_27 (dz_at q10w14_1_0 1)
theorem dX12_makeRow_10 : decode cX12_makeRow 10 = .ok (.iload_n 2, 1) := dz_28 (dz_at q10w14_1_0 10)
theorem dX12_makeRow_100 : decode cX12_makeRow 100 = .ok (.bipush 40, 2) := dz_16 (dz_at q10w14_1_91 9) (by decide +kernel)
theorem dX12_makeRow_102 : decode cX12_makeRow 102 = .ok (.invokevirtual 141, 3) := dz_182 (dz_at q10w14_1_91 11) rfl
theorem dX12_makeRow_105 : decode cX12_makeRow 105 = .ok (.ifCond .eq 190, 3) := dz_153 (dz_at q10w14_1_91 14) (by decide +kernel)
theorem dX12_makeRow_108 : decode cX12_makeRow 108 = .ok (.iconst 0, 1) := dz_3 (dz_at q10w14_1_91 17)
theorem dX12_makeRow_109 : decode cX12_makeRow 109 = .ok (.istore_n 3, 1) := dz_62 (dz_at q10w14_1_91 18)
theorem dX12_makeRow_11 : decode cX12_makeRow 11 = .ok (.ireturn, 1) := dz_172 (dz_at q10w14_1_0 11)
theorem dX12_makeRow_110 : decode cX12_makeRow 110 = .ok (.aload_n 0, 1) := dz_42 (dz_at q10w14_1_91 19)
theorem dX12_makeRow_111 : decode cX12_makeRow 111 = .ok (.bipush 47, 2) := dz_16 (dz_at q10w14_1_91 20) (by decide +kernel)
theorem dX12_makeRow_113 : decode cX12_makeRow 113 = .ok (.bipush 47, 2) := dz_16 (dz_at q10w14_1_91 22) (by decide +kernel)
theorem dX12_makeRow_115 : decode cX12_makeRow 115 = .ok (.invokevirtual 141, 3) := dz_182 (dz_at q10w14_1_115 0) rfl
theorem dX12_makeRow_118 : decode cX12_makeRow 118 = .ok (.ifCond .eq 28, 3) := dz_153 (dz_at q10w14_1_115 3) (by decide +kernel)
theorem dX12_makeRow_12 : decode cX12_makeRow 12 = .ok (.aload_n 0, 1) := dz_42 (dz_at q10w14_1_0 12)
theorem dX12_makeRow_121 : decode cX12_makeRow 121 = .ok (.aload_n 0, 1) := dz_42 (dz_at q10w14_1_115 6)
theorem dX12_makeRow_122 : decode cX12_makeRow 122 = .ok (.getfield 9, 3) := dz_180 (dz_at q10w14_1_115 7) rfl
theorem dX12_makeRow_125 : decode cX12_makeRow 125 = .ok (.aload_n 0, 1) := dz_42 (dz_at q10w14_1_115 10)
theorem dX12_makeRow_126 : decode cX12_makeRow 126 = .ok (.getfield 131, 3) := dz_180 (dz_at q10w14_1_115 11) rfl
theorem dX12_makeRow_129 : decode cX12_makeRow 129 = .ok (.iconst 1, 1) := dz_4 (dz_at q10w14_1_115 14)
theorem dX12_makeRow_13 : decode cX12_makeRow 13 = .ok (.getfield 87, 3) := dz_180 (dz_at q10w14_1_0 13) rfl
theorem dX12_makeRow_130 : decode cX12_makeRow 130 = .ok (.iadd, 1) := dz_96 (dz_at q10w14_1_115 15)
theorem dX12_makeRow_131 : decode cX12_makeRow 131 = .ok (.baload, 1) := dz_51 (dz_at q10w14_1_115 16)
theorem dX12_makeRow_132 : decode cX12_makeRow 132 = .ok (.bipush 48, 2) := dz_16 (dz_at q10w14_1_115 17) (by decide +kernel)
theorem dX12_makeRow_134 : decode cX12_makeRow 134 = .ok (.isub, 1) := dz_100 (dz_at q10w14_1_115 19)
theorem dX12_makeRow_135 : decode cX12_makeRow 135 = .ok (.istore_n 3, 1) := dz_62 (dz_at q10w14_1_115 20)
theorem dX12_makeRow_136 : decode cX12_makeRow 136 = .ok (.aload_n 0, 1) := dz_42 (dz_at q10w14_1_115 21)
theorem dX12_makeRow_137 : decode cX12_makeRow 137 = .ok (.dup, 1) := dz_89 (dz_at q10w14_1_115 22)
theorem dX12_makeRow_138 : decode cX12_makeRow 138 = .ok (.getfield 131, 3) := dz_180 (dz_at q10w14_1_138 0) rfl
theorem dX12_makeRow_141 : decode cX12_makeRow 141 = .ok (.iconst 2, 1) := dz_5 (dz_at q10w14_1_138 3)
theorem dX12_makeRow_142 : decode cX12_makeRow 142 = .ok (.iadd, 1) := dz_96 (dz_at q10w14_1_138 4)
theorem dX12_makeRow_143 : decode cX12_makeRow 143 = .ok (.putfield 131, 3) := dz_181 (dz_at q10w14_1_138 5) rfl
theorem dX12_makeRow_146 : decode cX12_makeRow 146 = .ok (.aload_n 0, 1) := dz_42 (dz_at q10w14_1_138 8)
theorem dX12_makeRow_147 : decode cX12_makeRow 147 = .ok (.iload_n 1, 1) := dz_27 (dz_at q10w14_1_138 9)
theorem dX12_makeRow_148 : decode cX12_makeRow 148 = .ok (.invokevirtual 155, 3) := dz_182 (dz_at q10w14_1_138 10) rfl
theorem dX12_makeRow_151 : decode cX12_makeRow 151 = .ok (.istore_n 2, 1) := dz_61 (dz_at q10w14_1_138 13)
theorem dX12_makeRow_152 : decode cX12_makeRow 152 = .ok (.iload_n 2, 1) := dz_28 (dz_at q10w14_1_138 14)
theorem dX12_makeRow_153 : decode cX12_makeRow 153 = .ok (.ifCond .ge 5, 3) := dz_156 (dz_at q10w14_1_138 15) (by decide +kernel)
theorem dX12_makeRow_156 : decode cX12_makeRow 156 = .ok (.iload_n 2, 1) := dz_28 (dz_at q10w14_1_138 18)
theorem dX12_makeRow_157 : decode cX12_makeRow 157 = .ok (.ireturn, 1) := dz_172 (dz_at q10w14_1_138 19)
theorem dX12_makeRow_158 : decode cX12_makeRow 158 = .ok (.iload_n 3, 1) := dz_29 (dz_at q10w14_1_138 20)
theorem dX12_makeRow_159 : decode cX12_makeRow 159 = .ok (.aload_n 0, 1) := dz_42 (dz_at q10w14_1_138 21)
theorem dX12_makeRow_16 : decode cX12_makeRow 16 = .ok (.iload_n 1, 1) := dz_27 (dz_at q10w14_1_0 16)
theorem dX12_makeRow_160 : decode cX12_makeRow 160 = .ok (.getfield 87, 3) := dz_180 (dz_at q10w14_1_160 0) rfl
theorem dX12_makeRow_163 : decode cX12_makeRow 163 = .ok (.iload_n 1, 1) := dz_27 (dz_at q10w14_1_160 3)
theorem dX12_makeRow_164 : decode cX12_makeRow 164 = .ok (.iaload, 1) := dz_46 (dz_at q10w14_1_160 4)
theorem dX12_makeRow_165 : decode cX12_makeRow 165 = .ok (.if_icmp .gt 13, 3) := dz_163 (dz_at q10w14_1_160 5) (by decide +kernel)
theorem dX12_makeRow_168 : decode cX12_makeRow 168 = .ok (.iload_n 3, 1) := dz_29 (dz_at q10w14_1_160 8)
theorem dX12_makeRow_169 : decode cX12_makeRow 169 = .ok (.aload_n 0, 1) := dz_42 (dz_at q10w14_1_160 9)
theorem dX12_makeRow_17 : decode cX12_makeRow 17 = .ok (.aload_n 0, 1) := dz_42 (dz_at q10w14_1_0 17)
theorem dX12_makeRow_170 : decode cX12_makeRow 170 = .ok (.getfield 93, 3) := dz_180 (dz_at q10w14_1_160 10) rfl
theorem dX12_makeRow_173 : decode cX12_makeRow 173 = .ok (.iload_n 1, 1) := dz_27 (dz_at q10w14_1_160 13)
theorem dX12_makeRow_174 : decode cX12_makeRow 174 = .ok (.iaload, 1) := dz_46 (dz_at q10w14_1_160 14)
theorem dX12_makeRow_175 : decode cX12_makeRow 175 = .ok (.if_icmp .le 6, 3) := dz_164 (dz_at q10w14_1_160 15) (by decide +kernel)
theorem dX12_makeRow_178 : decode cX12_makeRow 178 = .ok (.bipush (-101), 2) := dz_16 (dz_at q10w14_1_160 18) (by decide +kernel)
theorem dX12_makeRow_18 : decode cX12_makeRow 18 = .ok (.getfield 93, 3) := dz_180 (dz_at q10w14_1_0 18) rfl
theorem dX12_makeRow_180 : decode cX12_makeRow 180 = .ok (.ireturn, 1) := dz_172 (dz_at q10w14_1_160 20)
theorem dX12_makeRow_181 : decode cX12_makeRow 181 = .ok (.aload_n 0, 1) := dz_42 (dz_at q10w14_1_160 21)
theorem dX12_makeRow_182 : decode cX12_makeRow 182 = .ok (.getfield 87, 3) := dz_180 (dz_at q10w14_1_182 0) rfl
theorem dX12_makeRow_185 : decode cX12_makeRow 185 = .ok (.iload_n 1, 1) := dz_27 (dz_at q10w14_1_182 3)
theorem dX12_makeRow_186 : decode cX12_makeRow 186 = .ok (.iaload, 1) := dz_46 (dz_at q10w14_1_182 4)
theorem dX12_makeRow_187 : decode cX12_makeRow 187 = .ok (.iload_n 3, 1) := dz_29 (dz_at q10w14_1_182 5)
theorem dX12_makeRow_188 : decode cX12_makeRow 188 = .ok (.isub, 1) := dz_100 (dz_at q10w14_1_182 6)
theorem dX12_makeRow_189 : decode cX12_makeRow 189 = .ok (.istore 4, 2) := dz_54 (dz_at q10w14_1_182 7)
theorem dX12_makeRow_191 : decode cX12_makeRow 191 = .ok (.iload 4, 2) := dz_21 (dz_at q10w14_1_182 9)
theorem dX12_makeRow_193 : decode cX12_makeRow 193 = .ok (.aload_n 0, 1) := dz_42 (dz_at q10w14_1_182 11)
theorem dX12_makeRow_194 : decode cX12_makeRow 194 = .ok (.getfield 93, 3) := dz_180 (dz_at q10w14_1_182 12) rfl
theorem dX12_makeRow_197 : decode cX12_makeRow 197 = .ok (.iload_n 1, 1) := dz_27 (dz_at q10w14_1_182 15)
theorem dX12_makeRow_198 : decode cX12_makeRow 198 = .ok (.iaload, 1) := dz_46 (dz_at q10w14_1_182 16)
theorem dX12_makeRow_199 : decode cX12_makeRow 199 = .ok (.iadd, 1) := dz_96 (dz_at q10w14_1_182 17)
theorem dX12_makeRow_2 : decode cX12_makeRow 2 = .ok (.invokevirtual 155, 3) := dz_182 (dz_at q10w14_1_0 2) rfl
theorem dX12_makeRow_200 : decode cX12_makeRow 200 = .ok (.bipush 24, 2) := dz_16 (dz_at q10w14_1_182 18) (by decide +kernel)
theorem dX12_makeRow_202 : decode cX12_makeRow 202 = .ok (.if_icmp .le 6, 3) := dz_164 (dz_at q10w14_1_182 20) (by decide +kernel)
theorem dX12_makeRow_205 : decode cX12_makeRow 205 = .ok (.bipush (-100), 2) := dz_16 (dz_at q10w14_1_205 0) (by decide +kernel)
theorem dX12_makeRow_207 : decode cX12_makeRow 207 = .ok (.ireturn, 1) := dz_172 (dz_at q10w14_1_205 2)
theorem dX12_makeRow_208 : decode cX12_makeRow 208 = .ok (.iconst 0, 1) := dz_3 (dz_at q10w14_1_205 3)
theorem dX12_makeRow_209 : decode cX12_makeRow 209 = .ok (.istore 5, 2) := dz_54 (dz_at q10w14_1_205 4)
theorem dX12_makeRow_21 : decode cX12_makeRow 21 = .ok (.iload_n 1, 1) := dz_27 (dz_at q10w14_1_0 21)
theorem dX12_makeRow_211 : decode cX12_makeRow 211 = .ok (.iload 5, 2) := dz_21 (dz_at q10w14_1_205 6)
theorem dX12_makeRow_213 : decode cX12_makeRow 213 = .ok (.aload_n 0, 1) := dz_42 (dz_at q10w14_1_205 8)
theorem dX12_makeRow_214 : decode cX12_makeRow 214 = .ok (.getfield 93, 3) := dz_180 (dz_at q10w14_1_205 9) rfl
theorem dX12_makeRow_217 : decode cX12_makeRow 217 = .ok (.iload_n 1, 1) := dz_27 (dz_at q10w14_1_205 12)
theorem dX12_makeRow_218 : decode cX12_makeRow 218 = .ok (.iaload, 1) := dz_46 (dz_at q10w14_1_205 13)
theorem dX12_makeRow_219 : decode cX12_makeRow 219 = .ok (.if_icmp .ge 58, 3) := dz_162 (dz_at q10w14_1_205 14) (by decide +kernel)
theorem dX12_makeRow_22 : decode cX12_makeRow 22 = .ok (.iaload, 1) := dz_46 (dz_at q10w14_1_0 22)
theorem dX12_makeRow_222 : decode cX12_makeRow 222 = .ok (.bipush 24, 2) := dz_16 (dz_at q10w14_1_205 17) (by decide +kernel)
theorem dX12_makeRow_224 : decode cX12_makeRow 224 = .ok (.iload_n 1, 1) := dz_27 (dz_at q10w14_1_205 19)
theorem dX12_makeRow_225 : decode cX12_makeRow 225 = .ok (.imul, 1) := dz_104 (dz_at q10w14_1_205 20)
theorem dX12_makeRow_226 : decode cX12_makeRow 226 = .ok (.iload 4, 2) := dz_21 (dz_at q10w14_1_205 21)
theorem dX12_makeRow_228 : decode cX12_makeRow 228 = .ok (.iadd, 1) := dz_96 (dz_at q10w14_1_205 23)
theorem dX12_makeRow_229 : decode cX12_makeRow 229 = .ok (.iload 5, 2) := dz_21 (dz_at q10w14_1_229 0)
theorem dX12_makeRow_23 : decode cX12_makeRow 23 = .ok (.iastore, 1) := dz_79 (dz_at q10w14_1_0 23)
theorem dX12_makeRow_231 : decode cX12_makeRow 231 = .ok (.iadd, 1) := dz_96 (dz_at q10w14_1_229 2)
theorem dX12_makeRow_232 : decode cX12_makeRow 232 = .ok (.istore 6, 2) := dz_54 (dz_at q10w14_1_229 3)
theorem dX12_makeRow_234 : decode cX12_makeRow 234 = .ok (.aload_n 0, 1) := dz_42 (dz_at q10w14_1_229 5)
theorem dX12_makeRow_235 : decode cX12_makeRow 235 = .ok (.getfield 84, 3) := dz_180 (dz_at q10w14_1_229 6) rfl
theorem dX12_makeRow_238 : decode cX12_makeRow 238 = .ok (.iload 6, 2) := dz_21 (dz_at q10w14_1_229 9)
theorem dX12_makeRow_24 : decode cX12_makeRow 24 = .ok (.iconst 0, 1) := dz_3 (dz_at q10w14_1_24 0)
theorem dX12_makeRow_240 : decode cX12_makeRow 240 = .ok (.aload_n 0, 1) := dz_42 (dz_at q10w14_1_229 11)
theorem dX12_makeRow_241 : decode cX12_makeRow 241 = .ok (.getfield 90, 3) := dz_180 (dz_at q10w14_1_229 12) rfl
theorem dX12_makeRow_244 : decode cX12_makeRow 244 = .ok (.bipush 24, 2) := dz_16 (dz_at q10w14_1_229 15) (by decide +kernel)
theorem dX12_makeRow_246 : decode cX12_makeRow 246 = .ok (.iload_n 1, 1) := dz_27 (dz_at q10w14_1_229 17)
theorem dX12_makeRow_247 : decode cX12_makeRow 247 = .ok (.imul, 1) := dz_104 (dz_at q10w14_1_229 18)
theorem dX12_makeRow_248 : decode cX12_makeRow 248 = .ok (.iload 5, 2) := dz_21 (dz_at q10w14_1_229 19)
theorem dX12_makeRow_25 : decode cX12_makeRow 25 = .ok (.istore_n 3, 1) := dz_62 (dz_at q10w14_1_24 1)
theorem dX12_makeRow_250 : decode cX12_makeRow 250 = .ok (.iadd, 1) := dz_96 (dz_at q10w14_1_229 21)
theorem dX12_makeRow_251 : decode cX12_makeRow 251 = .ok (.iaload, 1) := dz_46 (dz_at q10w14_1_229 22)
theorem dX12_makeRow_252 : decode cX12_makeRow 252 = .ok (.iload 5, 2) := dz_21 (dz_at q10w14_1_252 0)
theorem dX12_makeRow_254 : decode cX12_makeRow 254 = .ok (.iload_n 3, 1) := dz_29 (dz_at q10w14_1_252 2)
theorem dX12_makeRow_255 : decode cX12_makeRow 255 = .ok (.if_icmp .ge 13, 3) := dz_162 (dz_at q10w14_1_252 3) (by decide +kernel)
theorem dX12_makeRow_258 : decode cX12_makeRow 258 = .ok (.aload_n 0, 1) := dz_42 (dz_at q10w14_1_252 6)
theorem dX12_makeRow_259 : decode cX12_makeRow 259 = .ok (.getfield 84, 3) := dz_180 (dz_at q10w14_1_252 7) rfl
theorem dX12_makeRow_26 : decode cX12_makeRow 26 = .ok (.iload_n 3, 1) := dz_29 (dz_at q10w14_1_24 2)
theorem dX12_makeRow_262 : decode cX12_makeRow 262 = .ok (.iload 6, 2) := dz_21 (dz_at q10w14_1_252 10)
theorem dX12_makeRow_264 : decode cX12_makeRow 264 = .ok (.iaload, 1) := dz_46 (dz_at q10w14_1_252 12)
theorem dX12_makeRow_265 : decode cX12_makeRow 265 = .ok (.goto 4, 3) := dz_167 (dz_at q10w14_1_252 13) (by decide +kernel)
theorem dX12_makeRow_268 : decode cX12_makeRow 268 = .ok (.iconst 0, 1) := dz_3 (dz_at q10w14_1_252 16)
theorem dX12_makeRow_269 : decode cX12_makeRow 269 = .ok (.ior, 1) := dz_128 (dz_at q10w14_1_252 17)
theorem dX12_makeRow_27 : decode cX12_makeRow 27 = .ok (.aload_n 0, 1) := dz_42 (dz_at q10w14_1_24 3)
theorem dX12_makeRow_270 : decode cX12_makeRow 270 = .ok (.iastore, 1) := dz_79 (dz_at q10w14_1_252 18)
theorem dX12_makeRow_271 : decode cX12_makeRow 271 = .ok (.iinc 5 1, 3) := dz_132 (dz_at q10w14_1_252 19) (by decide +kernel)
theorem dX12_makeRow_274 : decode cX12_makeRow 274 = .ok (.goto (-63), 3) := dz_167 (dz_at q10w14_1_274 0) (by decide +kernel)
theorem dX12_makeRow_277 : decode cX12_makeRow 277 = .ok (.aload_n 0, 1) := dz_42 (dz_at q10w14_1_274 3)
theorem dX12_makeRow_278 : decode cX12_makeRow 278 = .ok (.getfield 87, 3) := dz_180 (dz_at q10w14_1_274 4) rfl
theorem dX12_makeRow_28 : decode cX12_makeRow 28 = .ok (.getfield 93, 3) := dz_180 (dz_at q10w14_1_24 4) rfl
theorem dX12_makeRow_281 : decode cX12_makeRow 281 = .ok (.iload_n 1, 1) := dz_27 (dz_at q10w14_1_274 7)
theorem dX12_makeRow_282 : decode cX12_makeRow 282 = .ok (.iload 4, 2) := dz_21 (dz_at q10w14_1_274 8)
theorem dX12_makeRow_284 : decode cX12_makeRow 284 = .ok (.aload_n 0, 1) := dz_42 (dz_at q10w14_1_274 10)
theorem dX12_makeRow_285 : decode cX12_makeRow 285 = .ok (.getfield 93, 3) := dz_180 (dz_at q10w14_1_274 11) rfl
theorem dX12_makeRow_288 : decode cX12_makeRow 288 = .ok (.iload_n 1, 1) := dz_27 (dz_at q10w14_1_274 14)
theorem dX12_makeRow_289 : decode cX12_makeRow 289 = .ok (.iaload, 1) := dz_46 (dz_at q10w14_1_274 15)
theorem dX12_makeRow_290 : decode cX12_makeRow 290 = .ok (.iadd, 1) := dz_96 (dz_at q10w14_1_274 16)
theorem dX12_makeRow_291 : decode cX12_makeRow 291 = .ok (.iastore, 1) := dz_79 (dz_at q10w14_1_274 17)
theorem dX12_makeRow_292 : decode cX12_makeRow 292 = .ok (.goto (-228), 3) := dz_167 (dz_at q10w14_1_274 18) (by decide +kernel)
theorem dX12_makeRow_295 : decode cX12_makeRow 295 = .ok (.iconst 0, 1) := dz_3 (dz_at q10w14_1_274 21)
theorem dX12_makeRow_296 : decode cX12_makeRow 296 = .ok (.ireturn, 1) := dz_172 (dz_at q10w14_1_274 22)
theorem dX12_makeRow_31 : decode cX12_makeRow 31 = .ok (.iload_n 1, 1) := dz_27 (dz_at q10w14_1_24 7)
theorem dX12_makeRow_32 : decode cX12_makeRow 32 = .ok (.iaload, 1) := dz_46 (dz_at q10w14_1_24 8)
theorem dX12_makeRow_33 : decode cX12_makeRow 33 = .ok (.if_icmp .ge 31, 3) := dz_162 (dz_at q10w14_1_24 9) (by decide +kernel)
theorem dX12_makeRow_36 : decode cX12_makeRow 36 = .ok (.aload_n 0, 1) := dz_42 (dz_at q10w14_1_24 12)
theorem dX12_makeRow_37 : decode cX12_makeRow 37 = .ok (.getfield 84, 3) := dz_180 (dz_at q10w14_1_24 13) rfl
theorem dX12_makeRow_40 : decode cX12_makeRow 40 = .ok (.bipush 24, 2) := dz_16 (dz_at q10w14_1_24 16) (by decide +kernel)
theorem dX12_makeRow_42 : decode cX12_makeRow 42 = .ok (.iload_n 1, 1) := dz_27 (dz_at q10w14_1_24 18)
theorem dX12_makeRow_43 : decode cX12_makeRow 43 = .ok (.imul, 1) := dz_104 (dz_at q10w14_1_24 19)
theorem dX12_makeRow_44 : decode cX12_makeRow 44 = .ok (.iload_n 3, 1) := dz_29 (dz_at q10w14_1_24 20)
theorem dX12_makeRow_45 : decode cX12_makeRow 45 = .ok (.iadd, 1) := dz_96 (dz_at q10w14_1_24 21)
theorem dX12_makeRow_46 : decode cX12_makeRow 46 = .ok (.aload_n 0, 1) := dz_42 (dz_at q10w14_1_24 22)
theorem dX12_makeRow_47 : decode cX12_makeRow 47 = .ok (.getfield 90, 3) := dz_180 (dz_at q10w14_1_47 0) rfl
theorem dX12_makeRow_5 : decode cX12_makeRow 5 = .ok (.istore_n 2, 1) := dz_61 (dz_at q10w14_1_0 5)
theorem dX12_makeRow_50 : decode cX12_makeRow 50 = .ok (.bipush 24, 2) := dz_16 (dz_at q10w14_1_47 3) (by decide +kernel)
theorem dX12_makeRow_52 : decode cX12_makeRow 52 = .ok (.iload_n 1, 1) := dz_27 (dz_at q10w14_1_47 5)
theorem dX12_makeRow_53 : decode cX12_makeRow 53 = .ok (.imul, 1) := dz_104 (dz_at q10w14_1_47 6)
theorem dX12_makeRow_54 : decode cX12_makeRow 54 = .ok (.iload_n 3, 1) := dz_29 (dz_at q10w14_1_47 7)
theorem dX12_makeRow_55 : decode cX12_makeRow 55 = .ok (.iadd, 1) := dz_96 (dz_at q10w14_1_47 8)
theorem dX12_makeRow_56 : decode cX12_makeRow 56 = .ok (.iaload, 1) := dz_46 (dz_at q10w14_1_47 9)
theorem dX12_makeRow_57 : decode cX12_makeRow 57 = .ok (.iastore, 1) := dz_79 (dz_at q10w14_1_47 10)
theorem dX12_makeRow_58 : decode cX12_makeRow 58 = .ok (.iinc 3 1, 3) := dz_132 (dz_at q10w14_1_47 11) (by decide +kernel)
theorem dX12_makeRow_6 : decode cX12_makeRow 6 = .ok (.iload_n 2, 1) := dz_28 (dz_at q10w14_1_0 6)
theorem dX12_makeRow_61 : decode cX12_makeRow 61 = .ok (.goto (-35), 3) := dz_167 (dz_at q10w14_1_47 14) (by decide +kernel)
theorem dX12_makeRow_64 : decode cX12_makeRow 64 = .ok (.aload_n 0, 1) := dz_42 (dz_at q10w14_1_47 17)
theorem dX12_makeRow_65 : decode cX12_makeRow 65 = .ok (.bipush 47, 2) := dz_16 (dz_at q10w14_1_47 18) (by decide +kernel)
theorem dX12_makeRow_67 : decode cX12_makeRow 67 = .ok (.bipush 47, 2) := dz_16 (dz_at q10w14_1_47 20) (by decide +kernel)
theorem dX12_makeRow_69 : decode cX12_makeRow 69 = .ok (.invokevirtual 141, 3) := dz_182 (dz_at q10w14_1_69 0) rfl
theorem dX12_makeRow_7 : decode cX12_makeRow 7 = .ok (.ifCond .ge 5, 3) := dz_156 (dz_at q10w14_1_0 7) (by decide +kernel)
theorem dX12_makeRow_72 : decode cX12_makeRow 72 = .ok (.ifCond .ne 36, 3) := dz_154 (dz_at q10w14_1_69 3) (by decide +kernel)
theorem dX12_makeRow_75 : decode cX12_makeRow 75 = .ok (.aload_n 0, 1) := dz_42 (dz_at q10w14_1_69 6)
theorem dX12_makeRow_76 : decode cX12_makeRow 76 = .ok (.bipush 48, 2) := dz_16 (dz_at q10w14_1_69 7) (by decide +kernel)
theorem dX12_makeRow_78 : decode cX12_makeRow 78 = .ok (.bipush 57, 2) := dz_16 (dz_at q10w14_1_69 9) (by decide +kernel)
theorem dX12_makeRow_80 : decode cX12_makeRow 80 = .ok (.invokevirtual 141, 3) := dz_182 (dz_at q10w14_1_69 11) rfl
theorem dX12_makeRow_83 : decode cX12_makeRow 83 = .ok (.ifCond .ne 25, 3) := dz_154 (dz_at q10w14_1_69 14) (by decide +kernel)
theorem dX12_makeRow_86 : decode cX12_makeRow 86 = .ok (.aload_n 0, 1) := dz_42 (dz_at q10w14_1_69 17)
theorem dX12_makeRow_87 : decode cX12_makeRow 87 = .ok (.bipush 91, 2) := dz_16 (dz_at q10w14_1_69 18) (by decide +kernel)
theorem dX12_makeRow_89 : decode cX12_makeRow 89 = .ok (.bipush 91, 2) := dz_16 (dz_at q10w14_1_69 20) (by decide +kernel)
theorem dX12_makeRow_91 : decode cX12_makeRow 91 = .ok (.invokevirtual 141, 3) := dz_182 (dz_at q10w14_1_91 0) rfl
theorem dX12_makeRow_94 : decode cX12_makeRow 94 = .ok (.ifCond .ne 14, 3) := dz_154 (dz_at q10w14_1_91 3) (by decide +kernel)
theorem dX12_makeRow_97 : decode cX12_makeRow 97 = .ok (.aload_n 0, 1) := dz_42 (dz_at q10w14_1_91 6)
theorem dX12_makeRow_98 : decode cX12_makeRow 98 = .ok (.bipush 40, 2) := dz_16 (dz_at q10w14_1_91 7) (by decide +kernel)
theorem q10w14_2_0 : (cX12_makeTerm.data.toList.drop 0).take 22 = [16, 24, 27, 104, 61, 42, 16, 48, 16, 57, 182, 0, 141, 153, 0, 61, 42, 180, 0, 90, 28, 42] := by decide +kernel
theorem q10w14_2_22 : (cX12_makeTerm.data.toList.drop 22).take 23 = [180, 0, 9, 42, 180, 0, 131, 51, 16, 48, 160, 0, 7, 3, 167, 0, 17, 4, 42, 180, 0, 9, 42] := by decide +kernel
theorem q10w14_2_45 : (cX12_makeTerm.data.toList.drop 45).take 23 = [180, 0, 131, 51, 16, 48, 100, 120, 79, 42, 180, 0, 93, 27, 4, 79, 42, 89, 180, 0, 131, 4, 96] := by decide +kernel
theorem q10w14_2_68 : (cX12_makeTerm.data.toList.drop 68).take 24 = [181, 0, 131, 167, 0, 183, 42, 16, 91, 16, 91, 182, 0, 141, 153, 0, 83, 42, 89, 180, 0, 131, 4, 96] := by decide +kernel
theorem q10w14_2_92 : (cX12_makeTerm.data.toList.drop 92).take 23 = [181, 0, 131, 3, 62, 42, 16, 49, 16, 57, 182, 0, 141, 153, 0, 33, 29, 4, 42, 180, 0, 9, 42] := by decide +kernel
theorem q10w14_2_115 : (cX12_makeTerm.data.toList.drop 115).take 24 = [180, 0, 131, 51, 16, 48, 100, 120, 128, 62, 42, 89, 180, 0, 131, 4, 96, 181, 0, 131, 167, 255, 218, 42] := by decide +kernel
theorem q10w14_2_139 : (cX12_makeTerm.data.toList.drop 139).take 23 = [89, 180, 0, 131, 4, 96, 181, 0, 131, 42, 180, 0, 90, 28, 29, 79, 42, 180, 0, 93, 27, 4, 79] := by decide +kernel
theorem q10w14_2_162 : (cX12_makeTerm.data.toList.drop 162).take 22 = [167, 0, 92, 42, 89, 180, 0, 131, 4, 96, 181, 0, 131, 42, 27, 4, 96, 182, 0, 159, 62, 29] := by decide +kernel
theorem q10w14_2_184 : (cX12_makeTerm.data.toList.drop 184).take 24 = [156, 0, 5, 29, 172, 42, 89, 180, 0, 131, 4, 96, 181, 0, 131, 42, 180, 0, 93, 27, 42, 180, 0, 87] := by decide +kernel
theorem q10w14_2_208 : (cX12_makeTerm.data.toList.drop 208).take 24 = [27, 4, 96, 46, 79, 3, 54, 4, 21, 4, 42, 180, 0, 93, 27, 46, 162, 0, 30, 42, 180, 0, 90, 28] := by decide +kernel
theorem q10w14_2_232 : (cX12_makeTerm.data.toList.drop 232).take 23 = [21, 4, 96, 42, 180, 0, 84, 28, 16, 24, 96, 21, 4, 96, 46, 79, 132, 4, 1, 167, 255, 221, 42] := by decide +kernel
theorem q10w14_2_255 : (cX12_makeTerm.data.toList.drop 255).take 22 = [16, 126, 16, 126, 182, 0, 141, 154, 0, 14, 42, 16, 42, 16, 42, 182, 0, 141, 153, 0, 188, 42] := by decide +kernel
theorem q10w14_2_277 : (cX12_makeTerm.data.toList.drop 277).take 24 = [180, 0, 93, 27, 46, 62, 42, 16, 126, 16, 126, 182, 0, 141, 153, 0, 81, 42, 89, 180, 0, 131, 4, 96] := by decide +kernel
theorem q10w14_2_301 : (cX12_makeTerm.data.toList.drop 301).take 23 = [181, 0, 131, 3, 54, 4, 21, 4, 29, 5, 108, 162, 0, 57, 42, 180, 0, 90, 28, 21, 4, 96, 46] := by decide +kernel
theorem q10w14_2_324 : (cX12_makeTerm.data.toList.drop 324).take 24 = [54, 5, 42, 180, 0, 90, 28, 21, 4, 96, 42, 180, 0, 90, 28, 29, 96, 4, 100, 21, 4, 100, 46, 79] := by decide +kernel
theorem q10w14_2_348 : (cX12_makeTerm.data.toList.drop 348).take 24 = [42, 180, 0, 90, 28, 29, 96, 4, 100, 21, 4, 100, 21, 5, 79, 132, 4, 1, 167, 255, 197, 167, 255, 141] := by decide +kernel
theorem q10w14_2_372 : (cX12_makeTerm.data.toList.drop 372).take 23 = [42, 180, 0, 9, 42, 180, 0, 131, 4, 96, 51, 16, 48, 100, 54, 4, 42, 89, 180, 0, 131, 5, 96] := by decide +kernel
theorem q10w14_2_395 : (cX12_makeTerm.data.toList.drop 395).take 24 = [181, 0, 131, 29, 21, 4, 104, 16, 24, 164, 0, 6, 16, 156, 172, 29, 54, 5, 21, 5, 29, 21, 4, 104] := by decide +kernel
theorem q10w14_2_419 : (cX12_makeTerm.data.toList.drop 419).take 23 = [162, 0, 29, 42, 180, 0, 90, 28, 21, 5, 96, 42, 180, 0, 90, 28, 21, 5, 96, 29, 100, 46, 79] := by decide +kernel
theorem q10w14_2_442 : (cX12_makeTerm.data.toList.drop 442).take 21 = [132, 5, 1, 167, 255, 224, 42, 180, 0, 93, 27, 29, 21, 4, 104, 79, 167, 255, 52, 3, 172] := by decide +kernel
theorem dX12_makeTerm_0 : decode cX12_makeTerm 0 = .ok (.bipush 24, 2) := dz_16 (dz_at q10w14_2_0 0) (by decide +kernel)
theorem dX12_makeTerm_10 : decode cX12_makeTerm 10 = .ok (.invokevirtual 141, 3) := dz_182 (dz_at q10w14_2_0 10) rfl
theorem dX12_makeTerm_100 : decode cX12_makeTerm 100 = .ok (.bipush 57, 2) := dz_16 (dz_at q10w14_2_92 8) (by decide +kernel)
theorem dX12_makeTerm_102 : decode cX12_makeTerm 102 = .ok (.invokevirtual 141, 3) := dz_182 (dz_at q10w14_2_92 10) rfl
theorem dX12_makeTerm_105 : decode cX12_makeTerm 105 = .ok (.ifCond .eq 33, 3) := dz_153 (dz_at q10w14_2_92 13) (by decide +kernel)
theorem dX12_makeTerm_108 : decode cX12_makeTerm 108 = .ok (.iload_n 3, 1) := dz_29 (dz_at q10w14_2_92 16)
theorem dX12_makeTerm_109 : decode cX12_makeTerm 109 = .ok (.iconst 1, 1) := dz_4 (dz_at q10w14_2_92 17)
theorem dX12_makeTerm_110 : decode cX12_makeTerm 110 = .ok (.aload_n 0, 1) := dz_42 (dz_at q10w14_2_92 18)
theorem dX12_makeTerm_111 : decode cX12_makeTerm 111 = .ok (.getfield 9, 3) := dz_180 (dz_at q10w14_2_92 19) rfl
theorem dX12_makeTerm_114 : decode cX12_makeTerm 114 = .ok (.aload_n 0, 1) := dz_42 (dz_at q10w14_2_92 22)
theorem dX12_makeTerm_115 : decode cX12_makeTerm 115 = .ok (.getfield 131, 3) := dz_180 (dz_at q10w14_2_115 0) rfl
theorem dX12_makeTerm_118 : decode cX12_makeTerm 118 = .ok (.baload, 1) := dz_51 (dz_at q10w14_2_115 3)
theorem dX12_makeTerm_119 : decode cX12_makeTerm 119 = .ok (.bipush 48, 2) := dz_16 (dz_at q10w14_2_115 4) (by decide +kernel)
theorem dX12_makeTerm_121 : decode cX12_makeTerm 121 = .ok (.isub, 1) := dz_100 (dz_at q10w14_2_115 6)
theorem dX12_makeTerm_122 : decode cX12_makeTerm 122 = .ok (.ishl, 1) := dz_120 (dz_at q10w14_2_115 7)
theorem dX12_makeTerm_123 : decode cX12_makeTerm 123 = .ok (.ior, 1) := dz_128 (dz_at q10w14_2_115 8)
theorem dX12_makeTerm_124 : decode cX12_makeTerm 124 = .ok (.istore_n 3, 1) := dz_62 (dz_at q10w14_2_115 9)
theorem dX12_makeTerm_125 : decode cX12_makeTerm 125 = .ok (.aload_n 0, 1) := dz_42 (dz_at q10w14_2_115 10)
theorem dX12_makeTerm_126 : decode cX12_makeTerm 126 = .ok (.dup, 1) := dz_89 (dz_at q10w14_2_115 11)
theorem dX12_makeTerm_127 : decode cX12_makeTerm 127 = .ok (.getfield 131, 3) := dz_180 (dz_at q10w14_2_115 12) rfl
theorem dX12_makeTerm_13 : decode cX12_makeTerm 13 = .ok (.ifCond .eq 61, 3) := dz_153 (dz_at q10w14_2_0 13) (by decide +kernel)
theorem dX12_makeTerm_130 : decode cX12_makeTerm 130 = .ok (.iconst 1, 1) := dz_4 (dz_at q10w14_2_115 15)
theorem dX12_makeTerm_131 : decode cX12_makeTerm 131 = .ok (.iadd, 1) := dz_96 (dz_at q10w14_2_115 16)
theorem dX12_makeTerm_132 : decode cX12_makeTerm 132 = .ok (.putfield 131, 3) := dz_181 (dz_at q10w14_2_115 17) rfl
theorem dX12_makeTerm_135 : decode cX12_makeTerm 135 = .ok (.goto (-38), 3) := dz_167 (dz_at q10w14_2_115 20) (by decide +kernel)
theorem dX12_makeTerm_138 : decode cX12_makeTerm 138 = .ok (.aload_n 0, 1) := dz_42 (dz_at q10w14_2_115 23)
theorem dX12_makeTerm_139 : decode cX12_makeTerm 139 = .ok (.dup, 1) := dz_89 (dz_at q10w14_2_139 0)
theorem dX12_makeTerm_140 : decode cX12_makeTerm 140 = .ok (.getfield 131, 3) := dz_180 (dz_at q10w14_2_139 1) rfl
theorem dX12_makeTerm_143 : decode cX12_makeTerm 143 = .ok (.iconst 1, 1) := dz_4 (dz_at q10w14_2_139 4)
theorem dX12_makeTerm_144 : decode cX12_makeTerm 144 = .ok (.iadd, 1) := dz_96 (dz_at q10w14_2_139 5)
theorem dX12_makeTerm_145 : decode cX12_makeTerm 145 = .ok (.putfield 131, 3) := dz_181 (dz_at q10w14_2_139 6) rfl
theorem dX12_makeTerm_148 : decode cX12_makeTerm 148 = .ok (.aload_n 0, 1) := dz_42 (dz_at q10w14_2_139 9)
theorem dX12_makeTerm_149 : decode cX12_makeTerm 149 = .ok (.getfield 90, 3) := dz_180 (dz_at q10w14_2_139 10) rfl
theorem dX12_makeTerm_152 : decode cX12_makeTerm 152 = .ok (.iload_n 2, 1) := dz_28 (dz_at q10w14_2_139 13)
theorem dX12_makeTerm_153 : decode cX12_makeTerm 153 = .ok (.iload_n 3, 1) := dz_29 (dz_at q10w14_2_139 14)
theorem dX12_makeTerm_154 : decode cX12_makeTerm 154 = .ok (.iastore, 1) := dz_79 (dz_at q10w14_2_139 15)
theorem dX12_makeTerm_155 : decode cX12_makeTerm 155 = .ok (.aload_n 0, 1) := dz_42 (dz_at q10w14_2_139 16)
theorem dX12_makeTerm_156 : decode cX12_makeTerm 156 = .ok (.getfield 93, 3) := dz_180 (dz_at q10w14_2_139 17) rfl
theorem dX12_makeTerm_159 : decode cX12_makeTerm 159 = .ok (.iload_n 1, 1) := dz_27 (dz_at q10w14_2_139 20)
theorem dX12_makeTerm_16 : decode cX12_makeTerm 16 = .ok (.aload_n 0, 1) := dz_42 (dz_at q10w14_2_0 16)
theorem dX12_makeTerm_160 : decode cX12_makeTerm 160 = .ok (.iconst 1, 1) := dz_4 (dz_at q10w14_2_139 21)
theorem dX12_makeTerm_161 : decode cX12_makeTerm 161 = .ok (.iastore, 1) := dz_79 (dz_at q10w14_2_139 22)
theorem dX12_makeTerm_162 : decode cX12_makeTerm 162 = .ok (.goto 92, 3) := dz_167 (dz_at q10w14_2_162 0) (by decide +kernel)
theorem dX12_makeTerm_165 : decode cX12_makeTerm 165 = .ok (.aload_n 0, 1) := dz_42 (dz_at q10w14_2_162 3)
theorem dX12_makeTerm_166 : decode cX12_makeTerm 166 = .ok (.dup, 1) := dz_89 (dz_at q10w14_2_162 4)
theorem dX12_makeTerm_167 : decode cX12_makeTerm 167 = .ok (.getfield 131, 3) := dz_180 (dz_at q10w14_2_162 5) rfl
theorem dX12_makeTerm_17 : decode cX12_makeTerm 17 = .ok (.getfield 90, 3) := dz_180 (dz_at q10w14_2_0 17) rfl
theorem dX12_makeTerm_170 : decode cX12_makeTerm 170 = .ok (.iconst 1, 1) := dz_4 (dz_at q10w14_2_162 8)
theorem dX12_makeTerm_171 : decode cX12_makeTerm 171 = .ok (.iadd, 1) := dz_96 (dz_at q10w14_2_162 9)
theorem dX12_makeTerm_172 : decode cX12_makeTerm 172 = .ok (.putfield 131, 3) := dz_181 (dz_at q10w14_2_162 10) rfl
theorem dX12_makeTerm_175 : decode cX12_makeTerm 175 = .ok (.aload_n 0, 1) := dz_42 (dz_at q10w14_2_162 13)
theorem dX12_makeTerm_176 : decode cX12_makeTerm 176 = .ok (.iload_n 1, 1) := dz_27 (dz_at q10w14_2_162 14)
theorem dX12_makeTerm_177 : decode cX12_makeTerm 177 = .ok (.iconst 1, 1) := dz_4 (dz_at q10w14_2_162 15)
theorem dX12_makeTerm_178 : decode cX12_makeTerm 178 = .ok (.iadd, 1) := dz_96 (dz_at q10w14_2_162 16)
theorem dX12_makeTerm_179 : decode cX12_makeTerm 179 = .ok (.invokevirtual 159, 3) := dz_182 (dz_at q10w14_2_162 17) rfl
theorem dX12_makeTerm_182 : decode cX12_makeTerm 182 = .ok (.istore_n 3, 1) := dz_62 (dz_at q10w14_2_162 20)
theorem dX12_makeTerm_183 : decode cX12_makeTerm 183 = .ok (.iload_n 3, 1) := dz_29 (dz_at q10w14_2_162 21)
theorem dX12_makeTerm_184 : decode cX12_makeTerm 184 = .ok (.ifCond .ge 5, 3) := dz_156 (dz_at q10w14_2_184 0) (by decide +kernel)
theorem dX12_makeTerm_187 : decode cX12_makeTerm 187 = .ok (.iload_n 3, 1) := dz_29 (dz_at q10w14_2_184 3)
theorem dX12_makeTerm_188 : decode cX12_makeTerm 188 = .ok (.ireturn, 1) := dz_172 (dz_at q10w14_2_184 4)
theorem dX12_makeTerm_189 : decode cX12_makeTerm 189 = .ok (.aload_n 0, 1) := dz_42 (dz_at q10w14_2_184 5)
theorem dX12_makeTerm_190 : decode cX12_makeTerm 190 = .ok (.dup, 1) := dz_89 (dz_at q10w14_2_184 6)
theorem dX12_makeTerm_191 : decode cX12_makeTerm 191 = .ok (.getfield 131, 3) := dz_180 (dz_at q10w14_2_184 7) rfl
theorem dX12_makeTerm_194 : decode cX12_makeTerm 194 = .ok (.iconst 1, 1) := dz_4 (dz_at q10w14_2_184 10)
theorem dX12_makeTerm_195 : decode cX12_makeTerm 195 = .ok (.iadd, 1) := dz_96 (dz_at q10w14_2_184 11)
theorem dX12_makeTerm_196 : decode cX12_makeTerm 196 = .ok (.putfield 131, 3) := dz_181 (dz_at q10w14_2_184 12) rfl
theorem dX12_makeTerm_199 : decode cX12_makeTerm 199 = .ok (.aload_n 0, 1) := dz_42 (dz_at q10w14_2_184 15)
theorem dX12_makeTerm_2 : decode cX12_makeTerm 2 = .ok (.iload_n 1, 1) := dz_27 (dz_at q10w14_2_0 2)
theorem dX12_makeTerm_20 : decode cX12_makeTerm 20 = .ok (.iload_n 2, 1) := dz_28 (dz_at q10w14_2_0 20)
theorem dX12_makeTerm_200 : decode cX12_makeTerm 200 = .ok (.getfield 93, 3) := dz_180 (dz_at q10w14_2_184 16) rfl
theorem dX12_makeTerm_203 : decode cX12_makeTerm 203 = .ok (.iload_n 1, 1) := dz_27 (dz_at q10w14_2_184 19)
theorem dX12_makeTerm_204 : decode cX12_makeTerm 204 = .ok (.aload_n 0, 1) := dz_42 (dz_at q10w14_2_184 20)
theorem dX12_makeTerm_205 : decode cX12_makeTerm 205 = .ok (.getfield 87, 3) := dz_180 (dz_at q10w14_2_184 21) rfl
theorem dX12_makeTerm_208 : decode cX12_makeTerm 208 = .ok (.iload_n 1, 1) := dz_27 (dz_at q10w14_2_208 0)
theorem dX12_makeTerm_209 : decode cX12_makeTerm 209 = .ok (.iconst 1, 1) := dz_4 (dz_at q10w14_2_208 1)
theorem dX12_makeTerm_21 : decode cX12_makeTerm 21 = .ok (.aload_n 0, 1) := dz_42 (dz_at q10w14_2_0 21)
theorem dX12_makeTerm_210 : decode cX12_makeTerm 210 = .ok (.iadd, 1) := dz_96 (dz_at q10w14_2_208 2)
theorem dX12_makeTerm_211 : decode cX12_makeTerm 211 = .ok (.iaload, 1) := dz_46 (dz_at q10w14_2_208 3)
theorem dX12_makeTerm_212 : decode cX12_makeTerm 212 = .ok (.iastore, 1) := dz_79 (dz_at q10w14_2_208 4)
theorem dX12_makeTerm_213 : decode cX12_makeTerm 213 = .ok (.iconst 0, 1) := dz_3 (dz_at q10w14_2_208 5)
theorem dX12_makeTerm_214 : decode cX12_makeTerm 214 = .ok (.istore 4, 2) := dz_54 (dz_at q10w14_2_208 6)
theorem dX12_makeTerm_216 : decode cX12_makeTerm 216 = .ok (.iload 4, 2) := dz_21 (dz_at q10w14_2_208 8)
theorem dX12_makeTerm_218 : decode cX12_makeTerm 218 = .ok (.aload_n 0, 1) := dz_42 (dz_at q10w14_2_208 10)
theorem dX12_makeTerm_219 : decode cX12_makeTerm 219 = .ok (.getfield 93, 3) := dz_180 (dz_at q10w14_2_208 11) rfl
theorem dX12_makeTerm_22 : decode cX12_makeTerm 22 = .ok (.getfield 9, 3) := dz_180 (dz_at q10w14_2_22 0) rfl
theorem dX12_makeTerm_222 : decode cX12_makeTerm 222 = .ok (.iload_n 1, 1) := dz_27 (dz_at q10w14_2_208 14)
theorem dX12_makeTerm_223 : decode cX12_makeTerm 223 = .ok (.iaload, 1) := dz_46 (dz_at q10w14_2_208 15)
theorem dX12_makeTerm_224 : decode cX12_makeTerm 224 = .ok (.if_icmp .ge 30, 3) := dz_162 (dz_at q10w14_2_208 16) (by decide +kernel)
theorem dX12_makeTerm_227 : decode cX12_makeTerm 227 = .ok (.aload_n 0, 1) := dz_42 (dz_at q10w14_2_208 19)
theorem dX12_makeTerm_228 : decode cX12_makeTerm 228 = .ok (.getfield 90, 3) := dz_180 (dz_at q10w14_2_208 20) rfl
theorem dX12_makeTerm_231 : decode cX12_makeTerm 231 = .ok (.iload_n 2, 1) := dz_28 (dz_at q10w14_2_208 23)
theorem dX12_makeTerm_232 : decode cX12_makeTerm 232 = .ok (.iload 4, 2) := dz_21 (dz_at q10w14_2_232 0)
theorem dX12_makeTerm_234 : decode cX12_makeTerm 234 = .ok (.iadd, 1) := dz_96 (dz_at q10w14_2_232 2)
theorem dX12_makeTerm_235 : decode cX12_makeTerm 235 = .ok (.aload_n 0, 1) := dz_42 (dz_at q10w14_2_232 3)
theorem dX12_makeTerm_236 : decode cX12_makeTerm 236 = .ok (.getfield 84, 3) := dz_180 (dz_at q10w14_2_232 4) rfl
theorem dX12_makeTerm_239 : decode cX12_makeTerm 239 = .ok (.iload_n 2, 1) := dz_28 (dz_at q10w14_2_232 7)
theorem dX12_makeTerm_240 : decode cX12_makeTerm 240 = .ok (.bipush 24, 2) := dz_16 (dz_at q10w14_2_232 8) (by decide +kernel)
theorem dX12_makeTerm_242 : decode cX12_makeTerm 242 = .ok (.iadd, 1) := dz_96 (dz_at q10w14_2_232 10)
theorem dX12_makeTerm_243 : decode cX12_makeTerm 243 = .ok (.iload 4, 2) := dz_21 (dz_at q10w14_2_232 11)
theorem dX12_makeTerm_245 : decode cX12_makeTerm 245 = .ok (.iadd, 1) := dz_96 (dz_at q10w14_2_232 13)
theorem dX12_makeTerm_246 : decode cX12_makeTerm 246 = .ok (.iaload, 1) := dz_46 (dz_at q10w14_2_232 14)
theorem dX12_makeTerm_247 : decode cX12_makeTerm 247 = .ok (.iastore, 1) := dz_79 (dz_at q10w14_2_232 15)
theorem dX12_makeTerm_248 : decode cX12_makeTerm 248 = .ok (.iinc 4 1, 3) := dz_132 (dz_at q10w14_2_232 16) (by decide +kernel)
theorem dX12_makeTerm_25 : decode cX12_makeTerm 25 = .ok (.aload_n 0, 1) := dz_42 (dz_at q10w14_2_22 3)
theorem dX12_makeTerm_251 : decode cX12_makeTerm 251 = .ok (.goto (-35), 3) := dz_167 (dz_at q10w14_2_232 19) (by decide +kernel)
theorem dX12_makeTerm_254 : decode cX12_makeTerm 254 = .ok (.aload_n 0, 1) := dz_42 (dz_at q10w14_2_232 22)
theorem dX12_makeTerm_255 : decode cX12_makeTerm 255 = .ok (.bipush 126, 2) := dz_16 (dz_at q10w14_2_255 0) (by decide +kernel)
theorem dX12_makeTerm_257 : decode cX12_makeTerm 257 = .ok (.bipush 126, 2) := dz_16 (dz_at q10w14_2_255 2) (by decide +kernel)
theorem dX12_makeTerm_259 : decode cX12_makeTerm 259 = .ok (.invokevirtual 141, 3) := dz_182 (dz_at q10w14_2_255 4) rfl
theorem dX12_makeTerm_26 : decode cX12_makeTerm 26 = .ok (.getfield 131, 3) := dz_180 (dz_at q10w14_2_22 4) rfl
theorem dX12_makeTerm_262 : decode cX12_makeTerm 262 = .ok (.ifCond .ne 14, 3) := dz_154 (dz_at q10w14_2_255 7) (by decide +kernel)
theorem dX12_makeTerm_265 : decode cX12_makeTerm 265 = .ok (.aload_n 0, 1) := dz_42 (dz_at q10w14_2_255 10)
theorem dX12_makeTerm_266 : decode cX12_makeTerm 266 = .ok (.bipush 42, 2) := dz_16 (dz_at q10w14_2_255 11) (by decide +kernel)
theorem dX12_makeTerm_268 : decode cX12_makeTerm 268 = .ok (.bipush 42, 2) := dz_16 (dz_at q10w14_2_255 13) (by decide +kernel)
theorem dX12_makeTerm_270 : decode cX12_makeTerm 270 = .ok (.invokevirtual 141, 3) := dz_182 (dz_at q10w14_2_255 15) rfl
theorem dX12_makeTerm_273 : decode cX12_makeTerm 273 = .ok (.ifCond .eq 188, 3) := dz_153 (dz_at q10w14_2_255 18) (by decide +kernel)
theorem dX12_makeTerm_276 : decode cX12_makeTerm 276 = .ok (.aload_n 0, 1) := dz_42 (dz_at q10w14_2_255 21)
theorem dX12_makeTerm_277 : decode cX12_makeTerm 277 = .ok (.getfield 93, 3) := dz_180 (dz_at q10w14_2_277 0) rfl
theorem dX12_makeTerm_280 : decode cX12_makeTerm 280 = .ok (.iload_n 1, 1) := dz_27 (dz_at q10w14_2_277 3)
theorem dX12_makeTerm_281 : decode cX12_makeTerm 281 = .ok (.iaload, 1) := dz_46 (dz_at q10w14_2_277 4)
theorem dX12_makeTerm_282 : decode cX12_makeTerm 282 = .ok (.istore_n 3, 1) := dz_62 (dz_at q10w14_2_277 5)
theorem dX12_makeTerm_283 : decode cX12_makeTerm 283 = .ok (.aload_n 0, 1) := dz_42 (dz_at q10w14_2_277 6)
theorem dX12_makeTerm_284 : decode cX12_makeTerm 284 = .ok (.bipush 126, 2) := dz_16 (dz_at q10w14_2_277 7) (by decide +kernel)
theorem dX12_makeTerm_286 : decode cX12_makeTerm 286 = .ok (.bipush 126, 2) := dz_16 (dz_at q10w14_2_277 9) (by decide +kernel)
theorem dX12_makeTerm_288 : decode cX12_makeTerm 288 = .ok (.invokevirtual 141, 3) := dz_182 (dz_at q10w14_2_277 11) rfl
theorem dX12_makeTerm_29 : decode cX12_makeTerm 29 = .ok (.baload, 1) := dz_51 (dz_at q10w14_2_22 7)
theorem dX12_makeTerm_291 : decode cX12_makeTerm 291 = .ok (.ifCond .eq 81, 3) := dz_153 (dz_at q10w14_2_277 14) (by decide +kernel)
theorem dX12_makeTerm_294 : decode cX12_makeTerm 294 = .ok (.aload_n 0, 1) := dz_42 (dz_at q10w14_2_277 17)
theorem dX12_makeTerm_295 : decode cX12_makeTerm 295 = .ok (.dup, 1) := dz_89 (dz_at q10w14_2_277 18)
theorem dX12_makeTerm_296 : decode cX12_makeTerm 296 = .ok (.getfield 131, 3) := dz_180 (dz_at q10w14_2_277 19) rfl
theorem dX12_makeTerm_299 : decode cX12_makeTerm 299 = .ok (.iconst 1, 1) := dz_4 (dz_at q10w14_2_277 22)
theorem dX12_makeTerm_3 : decode cX12_makeTerm 3 = .ok (.imul, 1) := dz_104 (dz_at q10w14_2_0 3)
theorem dX12_makeTerm_30 : decode cX12_makeTerm 30 = .ok (.bipush 48, 2) := dz_16 (dz_at q10w14_2_22 8) (by decide +kernel)
theorem dX12_makeTerm_300 : decode cX12_makeTerm 300 = .ok (.iadd, 1) := dz_96 (dz_at q10w14_2_277 23)
theorem dX12_makeTerm_301 : decode cX12_makeTerm 301 = .ok (.putfield 131, 3) := dz_181 (dz_at q10w14_2_301 0) rfl
theorem dX12_makeTerm_304 : decode cX12_makeTerm 304 = .ok (.iconst 0, 1) := dz_3 (dz_at q10w14_2_301 3)
theorem dX12_makeTerm_305 : decode cX12_makeTerm 305 = .ok (.istore 4, 2) := dz_54 (dz_at q10w14_2_301 4)
theorem dX12_makeTerm_307 : decode cX12_makeTerm 307 = .ok (.iload 4, 2) := dz_21 (dz_at q10w14_2_301 6)
theorem dX12_makeTerm_309 : decode cX12_makeTerm 309 = .ok (.iload_n 3, 1) := dz_29 (dz_at q10w14_2_301 8)
theorem dX12_makeTerm_310 : decode cX12_makeTerm 310 = .ok (.iconst 2, 1) := dz_5 (dz_at q10w14_2_301 9)
theorem dX12_makeTerm_311 : decode cX12_makeTerm 311 = .ok (.idiv, 1) := dz_108 (dz_at q10w14_2_301 10)
theorem dX12_makeTerm_312 : decode cX12_makeTerm 312 = .ok (.if_icmp .ge 57, 3) := dz_162 (dz_at q10w14_2_301 11) (by decide +kernel)
theorem dX12_makeTerm_315 : decode cX12_makeTerm 315 = .ok (.aload_n 0, 1) := dz_42 (dz_at q10w14_2_301 14)
theorem dX12_makeTerm_316 : decode cX12_makeTerm 316 = .ok (.getfield 90, 3) := dz_180 (dz_at q10w14_2_301 15) rfl
theorem dX12_makeTerm_319 : decode cX12_makeTerm 319 = .ok (.iload_n 2, 1) := dz_28 (dz_at q10w14_2_301 18)
theorem dX12_makeTerm_32 : decode cX12_makeTerm 32 = .ok (.if_icmp .ne 7, 3) := dz_160 (dz_at q10w14_2_22 10) (by decide +kernel)
theorem dX12_makeTerm_320 : decode cX12_makeTerm 320 = .ok (.iload 4, 2) := dz_21 (dz_at q10w14_2_301 19)
theorem dX12_makeTerm_322 : decode cX12_makeTerm 322 = .ok (.iadd, 1) := dz_96 (dz_at q10w14_2_301 21)
theorem dX12_makeTerm_323 : decode cX12_makeTerm 323 = .ok (.iaload, 1) := dz_46 (dz_at q10w14_2_301 22)
theorem dX12_makeTerm_324 : decode cX12_makeTerm 324 = .ok (.istore 5, 2) := dz_54 (dz_at q10w14_2_324 0)
theorem dX12_makeTerm_326 : decode cX12_makeTerm 326 = .ok (.aload_n 0, 1) := dz_42 (dz_at q10w14_2_324 2)
theorem dX12_makeTerm_327 : decode cX12_makeTerm 327 = .ok (.getfield 90, 3) := dz_180 (dz_at q10w14_2_324 3) rfl
theorem dX12_makeTerm_330 : decode cX12_makeTerm 330 = .ok (.iload_n 2, 1) := dz_28 (dz_at q10w14_2_324 6)
theorem dX12_makeTerm_331 : decode cX12_makeTerm 331 = .ok (.iload 4, 2) := dz_21 (dz_at q10w14_2_324 7)
theorem dX12_makeTerm_333 : decode cX12_makeTerm 333 = .ok (.iadd, 1) := dz_96 (dz_at q10w14_2_324 9)
theorem dX12_makeTerm_334 : decode cX12_makeTerm 334 = .ok (.aload_n 0, 1) := dz_42 (dz_at q10w14_2_324 10)
theorem dX12_makeTerm_335 : decode cX12_makeTerm 335 = .ok (.getfield 90, 3) := dz_180 (dz_at q10w14_2_324 11) rfl
theorem dX12_makeTerm_338 : decode cX12_makeTerm 338 = .ok (.iload_n 2, 1) := dz_28 (dz_at q10w14_2_324 14)
theorem dX12_makeTerm_339 : decode cX12_makeTerm 339 = .ok (.iload_n 3, 1) := dz_29 (dz_at q10w14_2_324 15)
theorem dX12_makeTerm_340 : decode cX12_makeTerm 340 = .ok (.iadd, 1) := dz_96 (dz_at q10w14_2_324 16)
theorem dX12_makeTerm_341 : decode cX12_makeTerm 341 = .ok (.iconst 1, 1) := dz_4 (dz_at q10w14_2_324 17)
theorem dX12_makeTerm_342 : decode cX12_makeTerm 342 = .ok (.isub, 1) := dz_100 (dz_at q10w14_2_324 18)
theorem dX12_makeTerm_343 : decode cX12_makeTerm 343 = .ok (.iload 4, 2) := dz_21 (dz_at q10w14_2_324 19)
theorem dX12_makeTerm_345 : decode cX12_makeTerm 345 = .ok (.isub, 1) := dz_100 (dz_at q10w14_2_324 21)
theorem dX12_makeTerm_346 : decode cX12_makeTerm 346 = .ok (.iaload, 1) := dz_46 (dz_at q10w14_2_324 22)
theorem dX12_makeTerm_347 : decode cX12_makeTerm 347 = .ok (.iastore, 1) := dz_79 (dz_at q10w14_2_324 23)
theorem dX12_makeTerm_348 : decode cX12_makeTerm 348 = .ok (.aload_n 0, 1) := dz_42 (dz_at q10w14_2_348 0)
theorem dX12_makeTerm_349 : decode cX12_makeTerm 349 = .ok (.getfield 90, 3) := dz_180 (dz_at q10w14_2_348 1) rfl
theorem dX12_makeTerm_35 : decode cX12_makeTerm 35 = .ok (.iconst 0, 1) := dz_3 (dz_at q10w14_2_22 13)
theorem dX12_makeTerm_352 : decode cX12_makeTerm 352 = .ok (.iload_n 2, 1) := dz_28 (dz_at q10w14_2_348 4)
theorem dX12_makeTerm_353 : decode cX12_makeTerm 353 = .ok (.iload_n 3, 1) := dz_29 (dz_at q10w14_2_348 5)
theorem dX12_makeTerm_354 : decode cX12_makeTerm 354 = .ok (.iadd, 1) := dz_96 (dz_at q10w14_2_348 6)
theorem dX12_makeTerm_355 : decode cX12_makeTerm 355 = .ok (.iconst 1, 1) := dz_4 (dz_at q10w14_2_348 7)
theorem dX12_makeTerm_356 : decode cX12_makeTerm 356 = .ok (.isub, 1) := dz_100 (dz_at q10w14_2_348 8)
theorem dX12_makeTerm_357 : decode cX12_makeTerm 357 = .ok (.iload 4, 2) := dz_21 (dz_at q10w14_2_348 9)
theorem dX12_makeTerm_359 : decode cX12_makeTerm 359 = .ok (.isub, 1) := dz_100 (dz_at q10w14_2_348 11)
theorem dX12_makeTerm_36 : decode cX12_makeTerm 36 = .ok (.goto 17, 3) := dz_167 (dz_at q10w14_2_22 14) (by decide +kernel)
theorem dX12_makeTerm_360 : decode cX12_makeTerm 360 = .ok (.iload 5, 2) := dz_21 (dz_at q10w14_2_348 12)
theorem dX12_makeTerm_362 : decode cX12_makeTerm 362 = .ok (.iastore, 1) := dz_79 (dz_at q10w14_2_348 14)
theorem dX12_makeTerm_363 : decode cX12_makeTerm 363 = .ok (.iinc 4 1, 3) := dz_132 (dz_at q10w14_2_348 15) (by decide +kernel)
theorem dX12_makeTerm_366 : decode cX12_makeTerm 366 = .ok (.goto (-59), 3) := dz_167 (dz_at q10w14_2_348 18) (by decide +kernel)
theorem dX12_makeTerm_369 : decode cX12_makeTerm 369 = .ok (.goto (-115), 3) := dz_167 (dz_at q10w14_2_348 21) (by decide +kernel)
theorem dX12_makeTerm_372 : decode cX12_makeTerm 372 = .ok (.aload_n 0, 1) := dz_42 (dz_at q10w14_2_372 0)
theorem dX12_makeTerm_373 : decode cX12_makeTerm 373 = .ok (.getfield 9, 3) := dz_180 (dz_at q10w14_2_372 1) rfl
theorem dX12_makeTerm_376 : decode cX12_makeTerm 376 = .ok (.aload_n 0, 1) := dz_42 (dz_at q10w14_2_372 4)
theorem dX12_makeTerm_377 : decode cX12_makeTerm 377 = .ok (.getfield 131, 3) := dz_180 (dz_at q10w14_2_372 5) rfl
theorem dX12_makeTerm_380 : decode cX12_makeTerm 380 = .ok (.iconst 1, 1) := dz_4 (dz_at q10w14_2_372 8)
theorem dX12_makeTerm_381 : decode cX12_makeTerm 381 = .ok (.iadd, 1) := dz_96 (dz_at q10w14_2_372 9)
theorem dX12_makeTerm_382 : decode cX12_makeTerm 382 = .ok (.baload, 1) := dz_51 (dz_at q10w14_2_372 10)
theorem dX12_makeTerm_383 : decode cX12_makeTerm 383 = .ok (.bipush 48, 2) := dz_16 (dz_at q10w14_2_372 11) (by decide +kernel)
theorem dX12_makeTerm_385 : decode cX12_makeTerm 385 = .ok (.isub, 1) := dz_100 (dz_at q10w14_2_372 13)
theorem dX12_makeTerm_386 : decode cX12_makeTerm 386 = .ok (.istore 4, 2) := dz_54 (dz_at q10w14_2_372 14)
theorem dX12_makeTerm_388 : decode cX12_makeTerm 388 = .ok (.aload_n 0, 1) := dz_42 (dz_at q10w14_2_372 16)
theorem dX12_makeTerm_389 : decode cX12_makeTerm 389 = .ok (.dup, 1) := dz_89 (dz_at q10w14_2_372 17)
theorem dX12_makeTerm_39 : decode cX12_makeTerm 39 = .ok (.iconst 1, 1) := dz_4 (dz_at q10w14_2_22 17)
theorem dX12_makeTerm_390 : decode cX12_makeTerm 390 = .ok (.getfield 131, 3) := dz_180 (dz_at q10w14_2_372 18) rfl
theorem dX12_makeTerm_393 : decode cX12_makeTerm 393 = .ok (.iconst 2, 1) := dz_5 (dz_at q10w14_2_372 21)
theorem dX12_makeTerm_394 : decode cX12_makeTerm 394 = .ok (.iadd, 1) := dz_96 (dz_at q10w14_2_372 22)
theorem dX12_makeTerm_395 : decode cX12_makeTerm 395 = .ok (.putfield 131, 3) := dz_181 (dz_at q10w14_2_395 0) rfl
theorem dX12_makeTerm_398 : decode cX12_makeTerm 398 = .ok (.iload_n 3, 1) := dz_29 (dz_at q10w14_2_395 3)
theorem dX12_makeTerm_399 : decode cX12_makeTerm 399 = .ok (.iload 4, 2) := dz_21 (dz_at q10w14_2_395 4)
theorem dX12_makeTerm_4 : decode cX12_makeTerm 4 = .ok (.istore_n 2, 1) := dz_61 (dz_at q10w14_2_0 4)
theorem dX12_makeTerm_40 : decode cX12_makeTerm 40 = .ok (.aload_n 0, 1) := dz_42 (dz_at q10w14_2_22 18)
theorem dX12_makeTerm_401 : decode cX12_makeTerm 401 = .ok (.imul, 1) := dz_104 (dz_at q10w14_2_395 6)
theorem dX12_makeTerm_402 : decode cX12_makeTerm 402 = .ok (.bipush 24, 2) := dz_16 (dz_at q10w14_2_395 7) (by decide +kernel)
theorem dX12_makeTerm_404 : decode cX12_makeTerm 404 = .ok (.if_icmp .le 6, 3) := dz_164 (dz_at q10w14_2_395 9) (by decide +kernel)
theorem dX12_makeTerm_407 : decode cX12_makeTerm 407 = .ok (.bipush (-100), 2) := dz_16 (dz_at q10w14_2_395 12) (by decide +kernel)
theorem dX12_makeTerm_409 : decode cX12_makeTerm 409 = .ok (.ireturn, 1) := dz_172 (dz_at q10w14_2_395 14)
theorem dX12_makeTerm_41 : decode cX12_makeTerm 41 = .ok (.getfield 9, 3) := dz_180 (dz_at q10w14_2_22 19) rfl
theorem dX12_makeTerm_410 : decode cX12_makeTerm 410 = .ok (.iload_n 3, 1) := dz_29 (dz_at q10w14_2_395 15)
theorem dX12_makeTerm_411 : decode cX12_makeTerm 411 = .ok (.istore 5, 2) := dz_54 (dz_at q10w14_2_395 16)
theorem dX12_makeTerm_413 : decode cX12_makeTerm 413 = .ok (.iload 5, 2) := dz_21 (dz_at q10w14_2_395 18)
theorem dX12_makeTerm_415 : decode cX12_makeTerm 415 = .ok (.iload_n 3, 1) := dz_29 (dz_at q10w14_2_395 20)
theorem dX12_makeTerm_416 : decode cX12_makeTerm 416 = .ok (.iload 4, 2) := dz_21 (dz_at q10w14_2_395 21)
theorem dX12_makeTerm_418 : decode cX12_makeTerm 418 = .ok (.imul, 1) := dz_104 (dz_at q10w14_2_395 23)
theorem dX12_makeTerm_419 : decode cX12_makeTerm 419 = .ok (.if_icmp .ge 29, 3) := dz_162 (dz_at q10w14_2_419 0) (by decide +kernel)
theorem dX12_makeTerm_422 : decode cX12_makeTerm 422 = .ok (.aload_n 0, 1) := dz_42 (dz_at q10w14_2_419 3)
theorem dX12_makeTerm_423 : decode cX12_makeTerm 423 = .ok (.getfield 90, 3) := dz_180 (dz_at q10w14_2_419 4) rfl
theorem dX12_makeTerm_426 : decode cX12_makeTerm 426 = .ok (.iload_n 2, 1) := dz_28 (dz_at q10w14_2_419 7)
theorem dX12_makeTerm_427 : decode cX12_makeTerm 427 = .ok (.iload 5, 2) := dz_21 (dz_at q10w14_2_419 8)
theorem dX12_makeTerm_429 : decode cX12_makeTerm 429 = .ok (.iadd, 1) := dz_96 (dz_at q10w14_2_419 10)
theorem dX12_makeTerm_430 : decode cX12_makeTerm 430 = .ok (.aload_n 0, 1) := dz_42 (dz_at q10w14_2_419 11)
theorem dX12_makeTerm_431 : decode cX12_makeTerm 431 = .ok (.getfield 90, 3) := dz_180 (dz_at q10w14_2_419 12) rfl
theorem dX12_makeTerm_434 : decode cX12_makeTerm 434 = .ok (.iload_n 2, 1) := dz_28 (dz_at q10w14_2_419 15)
theorem dX12_makeTerm_435 : decode cX12_makeTerm 435 = .ok (.iload 5, 2) := dz_21 (dz_at q10w14_2_419 16)
theorem dX12_makeTerm_437 : decode cX12_makeTerm 437 = .ok (.iadd, 1) := dz_96 (dz_at q10w14_2_419 18)
theorem dX12_makeTerm_438 : decode cX12_makeTerm 438 = .ok (.iload_n 3, 1) := dz_29 (dz_at q10w14_2_419 19)
theorem dX12_makeTerm_439 : decode cX12_makeTerm 439 = .ok (.isub, 1) := dz_100 (dz_at q10w14_2_419 20)
theorem dX12_makeTerm_44 : decode cX12_makeTerm 44 = .ok (.aload_n 0, 1) := dz_42 (dz_at q10w14_2_22 22)
theorem dX12_makeTerm_440 : decode cX12_makeTerm 440 = .ok (.iaload, 1) := dz_46 (dz_at q10w14_2_419 21)
theorem dX12_makeTerm_441 : decode cX12_makeTerm 441 = .ok (.iastore, 1) := dz_79 (dz_at q10w14_2_419 22)
theorem dX12_makeTerm_442 : decode cX12_makeTerm 442 = .ok (.iinc 5 1, 3) := dz_132 (dz_at q10w14_2_442 0) (by decide +kernel)
theorem dX12_makeTerm_445 : decode cX12_makeTerm 445 = .ok (.goto (-32), 3) := dz_167 (dz_at q10w14_2_442 3) (by decide +kernel)
theorem dX12_makeTerm_448 : decode cX12_makeTerm 448 = .ok (.aload_n 0, 1) := dz_42 (dz_at q10w14_2_442 6)
theorem dX12_makeTerm_449 : decode cX12_makeTerm 449 = .ok (.getfield 93, 3) := dz_180 (dz_at q10w14_2_442 7) rfl
theorem dX12_makeTerm_45 : decode cX12_makeTerm 45 = .ok (.getfield 131, 3) := dz_180 (dz_at q10w14_2_45 0) rfl
theorem dX12_makeTerm_452 : decode cX12_makeTerm 452 = .ok (.iload_n 1, 1) := dz_27 (dz_at q10w14_2_442 10)
theorem dX12_makeTerm_453 : decode cX12_makeTerm 453 = .ok (.iload_n 3, 1) := dz_29 (dz_at q10w14_2_442 11)
theorem dX12_makeTerm_454 : decode cX12_makeTerm 454 = .ok (.iload 4, 2) := dz_21 (dz_at q10w14_2_442 12)
theorem dX12_makeTerm_456 : decode cX12_makeTerm 456 = .ok (.imul, 1) := dz_104 (dz_at q10w14_2_442 14)
theorem dX12_makeTerm_457 : decode cX12_makeTerm 457 = .ok (.iastore, 1) := dz_79 (dz_at q10w14_2_442 15)
theorem dX12_makeTerm_458 : decode cX12_makeTerm 458 = .ok (.goto (-204), 3) := dz_167 (dz_at q10w14_2_442 16) (by decide +kernel)
theorem dX12_makeTerm_461 : decode cX12_makeTerm 461 = .ok (.iconst 0, 1) := dz_3 (dz_at q10w14_2_442 19)
theorem dX12_makeTerm_462 : decode cX12_makeTerm 462 = .ok (.ireturn, 1) := dz_172 (dz_at q10w14_2_442 20)
theorem dX12_makeTerm_48 : decode cX12_makeTerm 48 = .ok (.baload, 1) := dz_51 (dz_at q10w14_2_45 3)
theorem dX12_makeTerm_49 : decode cX12_makeTerm 49 = .ok (.bipush 48, 2) := dz_16 (dz_at q10w14_2_45 4) (by decide +kernel)
theorem dX12_makeTerm_5 : decode cX12_makeTerm 5 = .ok (.aload_n 0, 1) := dz_42 (dz_at q10w14_2_0 5)
theorem dX12_makeTerm_51 : decode cX12_makeTerm 51 = .ok (.isub, 1) := dz_100 (dz_at q10w14_2_45 6)
theorem dX12_makeTerm_52 : decode cX12_makeTerm 52 = .ok (.ishl, 1) := dz_120 (dz_at q10w14_2_45 7)
theorem dX12_makeTerm_53 : decode cX12_makeTerm 53 = .ok (.iastore, 1) := dz_79 (dz_at q10w14_2_45 8)
theorem dX12_makeTerm_54 : decode cX12_makeTerm 54 = .ok (.aload_n 0, 1) := dz_42 (dz_at q10w14_2_45 9)
theorem dX12_makeTerm_55 : decode cX12_makeTerm 55 = .ok (.getfield 93, 3) := dz_180 (dz_at q10w14_2_45 10) rfl
theorem dX12_makeTerm_58 : decode cX12_makeTerm 58 = .ok (.iload_n 1, 1) := dz_27 (dz_at q10w14_2_45 13)
theorem dX12_makeTerm_59 : decode cX12_makeTerm 59 = .ok (.iconst 1, 1) := dz_4 (dz_at q10w14_2_45 14)
theorem dX12_makeTerm_6 : decode cX12_makeTerm 6 = .ok (.bipush 48, 2) := dz_16 (dz_at q10w14_2_0 6) (by decide +kernel)
theorem dX12_makeTerm_60 : decode cX12_makeTerm 60 = .ok (.iastore, 1) := dz_79 (dz_at q10w14_2_45 15)
theorem dX12_makeTerm_61 : decode cX12_makeTerm 61 = .ok (.aload_n 0, 1) := dz_42 (dz_at q10w14_2_45 16)
theorem dX12_makeTerm_62 : decode cX12_makeTerm 62 = .ok (.dup, 1) := dz_89 (dz_at q10w14_2_45 17)
theorem dX12_makeTerm_63 : decode cX12_makeTerm 63 = .ok (.getfield 131, 3) := dz_180 (dz_at q10w14_2_45 18) rfl
theorem dX12_makeTerm_66 : decode cX12_makeTerm 66 = .ok (.iconst 1, 1) := dz_4 (dz_at q10w14_2_45 21)
theorem dX12_makeTerm_67 : decode cX12_makeTerm 67 = .ok (.iadd, 1) := dz_96 (dz_at q10w14_2_45 22)
theorem dX12_makeTerm_68 : decode cX12_makeTerm 68 = .ok (.putfield 131, 3) := dz_181 (dz_at q10w14_2_68 0) rfl
theorem dX12_makeTerm_71 : decode cX12_makeTerm 71 = .ok (.goto 183, 3) := dz_167 (dz_at q10w14_2_68 3) (by decide +kernel)
theorem dX12_makeTerm_74 : decode cX12_makeTerm 74 = .ok (.aload_n 0, 1) := dz_42 (dz_at q10w14_2_68 6)
theorem dX12_makeTerm_75 : decode cX12_makeTerm 75 = .ok (.bipush 91, 2) := dz_16 (dz_at q10w14_2_68 7) (by decide +kernel)
theorem dX12_makeTerm_77 : decode cX12_makeTerm 77 = .ok (.bipush 91, 2) := dz_16 (dz_at q10w14_2_68 9) (by decide +kernel)
theorem dX12_makeTerm_79 : decode cX12_makeTerm 79 = .ok (.invokevirtual 141, 3) := dz_182 (dz_at q10w14_2_68 11) rfl
theorem dX12_makeTerm_8 : decode cX12_makeTerm 8 = .ok (.bipush 57, 2) := dz_16 (dz_at q10w14_2_0 8) (by decide +kernel)
theorem dX12_makeTerm_82 : decode cX12_makeTerm 82 = .ok (.ifCond .eq 83, 3) := dz_153 (dz_at q10w14_2_68 14) (by decide +kernel)
theorem dX12_makeTerm_85 : decode cX12_makeTerm 85 = .ok (.aload_n 0, 1) := dz_42 (dz_at q10w14_2_68 17)
theorem dX12_makeTerm_86 : decode cX12_makeTerm 86 = .ok (.dup, 1) := dz_89 (dz_at q10w14_2_68 18)
theorem dX12_makeTerm_87 : decode cX12_makeTerm 87 = .ok (.getfield 131, 3) := dz_180 (dz_at q10w14_2_68 19) rfl
theorem dX12_makeTerm_90 : decode cX12_makeTerm 90 = .ok (.iconst 1, 1) := dz_4 (dz_at q10w14_2_68 22)
theorem dX12_makeTerm_91 : decode cX12_makeTerm 91 = .ok (.iadd, 1) := dz_96 (dz_at q10w14_2_68 23)
theorem dX12_makeTerm_92 : decode cX12_makeTerm 92 = .ok (.putfield 131, 3) := dz_181 (dz_at q10w14_2_92 0) rfl
theorem dX12_makeTerm_95 : decode cX12_makeTerm 95 = .ok (.iconst 0, 1) := dz_3 (dz_at q10w14_2_92 3)
theorem dX12_makeTerm_96 : decode cX12_makeTerm 96 = .ok (.istore_n 3, 1) := dz_62 (dz_at q10w14_2_92 4)
theorem dX12_makeTerm_97 : decode cX12_makeTerm 97 = .ok (.aload_n 0, 1) := dz_42 (dz_at q10w14_2_92 5)
theorem dX12_makeTerm_98 : decode cX12_makeTerm 98 = .ok (.bipush 49, 2) := dz_16 (dz_at q10w14_2_92 6) (by decide +kernel)
theorem q10w14_3_0 : (cX12_skipAtom.data.toList.drop 0).take 24 = [42, 16, 48, 16, 57, 182, 0, 141, 153, 0, 15, 42, 89, 180, 0, 131, 4, 96, 181, 0, 131, 4, 172, 42] := by decide +kernel
theorem q10w14_3_24 : (cX12_skipAtom.data.toList.drop 24).take 23 = [16, 91, 16, 91, 182, 0, 141, 153, 0, 81, 42, 89, 180, 0, 131, 4, 96, 181, 0, 131, 42, 16, 49] := by decide +kernel
theorem q10w14_3_47 : (cX12_skipAtom.data.toList.drop 47).take 24 = [16, 57, 182, 0, 141, 154, 0, 8, 42, 182, 0, 145, 172, 42, 16, 49, 16, 57, 182, 0, 141, 153, 0, 16] := by decide +kernel
theorem q10w14_3_71 : (cX12_skipAtom.data.toList.drop 71).take 24 = [42, 89, 180, 0, 131, 4, 96, 181, 0, 131, 167, 255, 235, 42, 16, 93, 16, 93, 182, 0, 141, 154, 0, 8] := by decide +kernel
theorem q10w14_3_95 : (cX12_skipAtom.data.toList.drop 95).take 22 = [42, 182, 0, 145, 172, 42, 89, 180, 0, 131, 4, 96, 181, 0, 131, 4, 172, 42, 16, 40, 16, 40] := by decide +kernel
theorem q10w14_3_117 : (cX12_skipAtom.data.toList.drop 117).take 23 = [182, 0, 141, 153, 0, 8, 27, 8, 160, 0, 8, 42, 182, 0, 145, 172, 42, 89, 180, 0, 131, 4, 96] := by decide +kernel
theorem q10w14_3_140 : (cX12_skipAtom.data.toList.drop 140).take 23 = [181, 0, 131, 42, 27, 4, 96, 182, 0, 152, 154, 0, 5, 3, 172, 42, 16, 41, 16, 41, 182, 0, 141] := by decide +kernel
theorem q10w14_3_163 : (cX12_skipAtom.data.toList.drop 163).take 20 = [154, 0, 8, 42, 182, 0, 145, 172, 42, 89, 180, 0, 131, 4, 96, 181, 0, 131, 4, 172] := by decide +kernel
theorem dX12_skipAtom_0 : decode cX12_skipAtom 0 = .ok (.aload_n 0, 1) := dz_42 (dz_at q10w14_3_0 0)
theorem dX12_skipAtom_1 : decode cX12_skipAtom 1 = .ok (.bipush 48, 2) := dz_16 (dz_at q10w14_3_0 1) (by decide +kernel)
theorem dX12_skipAtom_100 : decode cX12_skipAtom 100 = .ok (.aload_n 0, 1) := dz_42 (dz_at q10w14_3_95 5)
theorem dX12_skipAtom_101 : decode cX12_skipAtom 101 = .ok (.dup, 1) := dz_89 (dz_at q10w14_3_95 6)
theorem dX12_skipAtom_102 : decode cX12_skipAtom 102 = .ok (.getfield 131, 3) := dz_180 (dz_at q10w14_3_95 7) rfl
theorem dX12_skipAtom_105 : decode cX12_skipAtom 105 = .ok (.iconst 1, 1) := dz_4 (dz_at q10w14_3_95 10)
theorem dX12_skipAtom_106 : decode cX12_skipAtom 106 = .ok (.iadd, 1) := dz_96 (dz_at q10w14_3_95 11)
theorem dX12_skipAtom_107 : decode cX12_skipAtom 107 = .ok (.putfield 131, 3) := dz_181 (dz_at q10w14_3_95 12) rfl
theorem dX12_skipAtom_11 : decode cX12_skipAtom 11 = .ok (.aload_n 0, 1) := dz_42 (dz_at q10w14_3_0 11)
theorem dX12_skipAtom_110 : decode cX12_skipAtom 110 = .ok (.iconst 1, 1) := dz_4 (dz_at q10w14_3_95 15)
theorem dX12_skipAtom_111 : decode cX12_skipAtom 111 = .ok (.ireturn, 1) := dz_172 (dz_at q10w14_3_95 16)
theorem dX12_skipAtom_112 : decode cX12_skipAtom 112 = .ok (.aload_n 0, 1) := dz_42 (dz_at q10w14_3_95 17)
theorem dX12_skipAtom_113 : decode cX12_skipAtom 113 = .ok (.bipush 40, 2) := dz_16 (dz_at q10w14_3_95 18) (by decide +kernel)
theorem dX12_skipAtom_115 : decode cX12_skipAtom 115 = .ok (.bipush 40, 2) := dz_16 (dz_at q10w14_3_95 20) (by decide +kernel)
theorem dX12_skipAtom_117 : decode cX12_skipAtom 117 = .ok (.invokevirtual 141, 3) := dz_182 (dz_at q10w14_3_117 0) rfl
theorem dX12_skipAtom_12 : decode cX12_skipAtom 12 = .ok (.dup, 1) := dz_89 (dz_at q10w14_3_0 12)
theorem dX12_skipAtom_120 : decode cX12_skipAtom 120 = .ok (.ifCond .eq 8, 3) := dz_153 (dz_at q10w14_3_117 3) (by decide +kernel)
theorem dX12_skipAtom_123 : decode cX12_skipAtom 123 = .ok (.iload_n 1, 1) := dz_27 (dz_at q10w14_3_117 6)
theorem dX12_skipAtom_124 : decode cX12_skipAtom 124 = .ok (.iconst 5, 1) := dz_8 (dz_at q10w14_3_117 7)
theorem dX12_skipAtom_125 : decode cX12_skipAtom 125 = .ok (.if_icmp .ne 8, 3) := dz_160 (dz_at q10w14_3_117 8) (by decide +kernel)
theorem dX12_skipAtom_128 : decode cX12_skipAtom 128 = .ok (.aload_n 0, 1) := dz_42 (dz_at q10w14_3_117 11)
theorem dX12_skipAtom_129 : decode cX12_skipAtom 129 = .ok (.invokevirtual 145, 3) := dz_182 (dz_at q10w14_3_117 12) rfl
theorem dX12_skipAtom_13 : decode cX12_skipAtom 13 = .ok (.getfield 131, 3) := dz_180 (dz_at q10w14_3_0 13) rfl
theorem dX12_skipAtom_132 : decode cX12_skipAtom 132 = .ok (.ireturn, 1) := dz_172 (dz_at q10w14_3_117 15)
theorem dX12_skipAtom_133 : decode cX12_skipAtom 133 = .ok (.aload_n 0, 1) := dz_42 (dz_at q10w14_3_117 16)
theorem dX12_skipAtom_134 : decode cX12_skipAtom 134 = .ok (.dup, 1) := dz_89 (dz_at q10w14_3_117 17)
theorem dX12_skipAtom_135 : decode cX12_skipAtom 135 = .ok (.getfield 131, 3) := dz_180 (dz_at q10w14_3_117 18) rfl
theorem dX12_skipAtom_138 : decode cX12_skipAtom 138 = .ok (.iconst 1, 1) := dz_4 (dz_at q10w14_3_117 21)
theorem dX12_skipAtom_139 : decode cX12_skipAtom 139 = .ok (.iadd, 1) := dz_96 (dz_at q10w14_3_117 22)
theorem dX12_skipAtom_140 : decode cX12_skipAtom 140 = .ok (.putfield 131, 3) := dz_181 (dz_at q10w14_3_140 0) rfl
theorem dX12_skipAtom_143 : decode cX12_skipAtom 143 = .ok (.aload_n 0, 1) := dz_42 (dz_at q10w14_3_140 3)
theorem dX12_skipAtom_144 : decode cX12_skipAtom 144 = .ok (.iload_n 1, 1) := dz_27 (dz_at q10w14_3_140 4)
theorem dX12_skipAtom_145 : decode cX12_skipAtom 145 = .ok (.iconst 1, 1) := dz_4 (dz_at q10w14_3_140 5)
theorem dX12_skipAtom_146 : decode cX12_skipAtom 146 = .ok (.iadd, 1) := dz_96 (dz_at q10w14_3_140 6)
theorem dX12_skipAtom_147 : decode cX12_skipAtom 147 = .ok (.invokevirtual 152, 3) := dz_182 (dz_at q10w14_3_140 7) rfl
theorem dX12_skipAtom_150 : decode cX12_skipAtom 150 = .ok (.ifCond .ne 5, 3) := dz_154 (dz_at q10w14_3_140 10) (by decide +kernel)
theorem dX12_skipAtom_153 : decode cX12_skipAtom 153 = .ok (.iconst 0, 1) := dz_3 (dz_at q10w14_3_140 13)
theorem dX12_skipAtom_154 : decode cX12_skipAtom 154 = .ok (.ireturn, 1) := dz_172 (dz_at q10w14_3_140 14)
theorem dX12_skipAtom_155 : decode cX12_skipAtom 155 = .ok (.aload_n 0, 1) := dz_42 (dz_at q10w14_3_140 15)
theorem dX12_skipAtom_156 : decode cX12_skipAtom 156 = .ok (.bipush 41, 2) := dz_16 (dz_at q10w14_3_140 16) (by decide +kernel)
theorem dX12_skipAtom_158 : decode cX12_skipAtom 158 = .ok (.bipush 41, 2) := dz_16 (dz_at q10w14_3_140 18) (by decide +kernel)
theorem dX12_skipAtom_16 : decode cX12_skipAtom 16 = .ok (.iconst 1, 1) := dz_4 (dz_at q10w14_3_0 16)
theorem dX12_skipAtom_160 : decode cX12_skipAtom 160 = .ok (.invokevirtual 141, 3) := dz_182 (dz_at q10w14_3_140 20) rfl
theorem dX12_skipAtom_163 : decode cX12_skipAtom 163 = .ok (.ifCond .ne 8, 3) := dz_154 (dz_at q10w14_3_163 0) (by decide +kernel)
theorem dX12_skipAtom_166 : decode cX12_skipAtom 166 = .ok (.aload_n 0, 1) := dz_42 (dz_at q10w14_3_163 3)
theorem dX12_skipAtom_167 : decode cX12_skipAtom 167 = .ok (.invokevirtual 145, 3) := dz_182 (dz_at q10w14_3_163 4) rfl
theorem dX12_skipAtom_17 : decode cX12_skipAtom 17 = .ok (.iadd, 1) := dz_96 (dz_at q10w14_3_0 17)
theorem dX12_skipAtom_170 : decode cX12_skipAtom 170 = .ok (.ireturn, 1) := dz_172 (dz_at q10w14_3_163 7)
theorem dX12_skipAtom_171 : decode cX12_skipAtom 171 = .ok (.aload_n 0, 1) := dz_42 (dz_at q10w14_3_163 8)
theorem dX12_skipAtom_172 : decode cX12_skipAtom 172 = .ok (.dup, 1) := dz_89 (dz_at q10w14_3_163 9)
theorem dX12_skipAtom_173 : decode cX12_skipAtom 173 = .ok (.getfield 131, 3) := dz_180 (dz_at q10w14_3_163 10) rfl
theorem dX12_skipAtom_176 : decode cX12_skipAtom 176 = .ok (.iconst 1, 1) := dz_4 (dz_at q10w14_3_163 13)
theorem dX12_skipAtom_177 : decode cX12_skipAtom 177 = .ok (.iadd, 1) := dz_96 (dz_at q10w14_3_163 14)
theorem dX12_skipAtom_178 : decode cX12_skipAtom 178 = .ok (.putfield 131, 3) := dz_181 (dz_at q10w14_3_163 15) rfl
theorem dX12_skipAtom_18 : decode cX12_skipAtom 18 = .ok (.putfield 131, 3) := dz_181 (dz_at q10w14_3_0 18) rfl
theorem dX12_skipAtom_181 : decode cX12_skipAtom 181 = .ok (.iconst 1, 1) := dz_4 (dz_at q10w14_3_163 18)
theorem dX12_skipAtom_182 : decode cX12_skipAtom 182 = .ok (.ireturn, 1) := dz_172 (dz_at q10w14_3_163 19)
theorem dX12_skipAtom_21 : decode cX12_skipAtom 21 = .ok (.iconst 1, 1) := dz_4 (dz_at q10w14_3_0 21)
theorem dX12_skipAtom_22 : decode cX12_skipAtom 22 = .ok (.ireturn, 1) := dz_172 (dz_at q10w14_3_0 22)
theorem dX12_skipAtom_23 : decode cX12_skipAtom 23 = .ok (.aload_n 0, 1) := dz_42 (dz_at q10w14_3_0 23)
theorem dX12_skipAtom_24 : decode cX12_skipAtom 24 = .ok (.bipush 91, 2) := dz_16 (dz_at q10w14_3_24 0) (by decide +kernel)
theorem dX12_skipAtom_26 : decode cX12_skipAtom 26 = .ok (.bipush 91, 2) := dz_16 (dz_at q10w14_3_24 2) (by decide +kernel)
theorem dX12_skipAtom_28 : decode cX12_skipAtom 28 = .ok (.invokevirtual 141, 3) := dz_182 (dz_at q10w14_3_24 4) rfl
theorem dX12_skipAtom_3 : decode cX12_skipAtom 3 = .ok (.bipush 57, 2) := dz_16 (dz_at q10w14_3_0 3) (by decide +kernel)
theorem dX12_skipAtom_31 : decode cX12_skipAtom 31 = .ok (.ifCond .eq 81, 3) := dz_153 (dz_at q10w14_3_24 7) (by decide +kernel)
theorem dX12_skipAtom_34 : decode cX12_skipAtom 34 = .ok (.aload_n 0, 1) := dz_42 (dz_at q10w14_3_24 10)
theorem dX12_skipAtom_35 : decode cX12_skipAtom 35 = .ok (.dup, 1) := dz_89 (dz_at q10w14_3_24 11)
theorem dX12_skipAtom_36 : decode cX12_skipAtom 36 = .ok (.getfield 131, 3) := dz_180 (dz_at q10w14_3_24 12) rfl
theorem dX12_skipAtom_39 : decode cX12_skipAtom 39 = .ok (.iconst 1, 1) := dz_4 (dz_at q10w14_3_24 15)
theorem dX12_skipAtom_40 : decode cX12_skipAtom 40 = .ok (.iadd, 1) := dz_96 (dz_at q10w14_3_24 16)
theorem dX12_skipAtom_41 : decode cX12_skipAtom 41 = .ok (.putfield 131, 3) := dz_181 (dz_at q10w14_3_24 17) rfl
theorem dX12_skipAtom_44 : decode cX12_skipAtom 44 = .ok (.aload_n 0, 1) := dz_42 (dz_at q10w14_3_24 20)
theorem dX12_skipAtom_45 : decode cX12_skipAtom 45 = .ok (.bipush 49, 2) := dz_16 (dz_at q10w14_3_24 21) (by decide +kernel)
theorem dX12_skipAtom_47 : decode cX12_skipAtom 47 = .ok (.bipush 57, 2) := dz_16 (dz_at q10w14_3_47 0) (by decide +kernel)
theorem dX12_skipAtom_49 : decode cX12_skipAtom 49 = .ok (.invokevirtual 141, 3) := dz_182 (dz_at q10w14_3_47 2) rfl
theorem dX12_skipAtom_5 : decode cX12_skipAtom 5 = .ok (.invokevirtual 141, 3) := dz_182 (dz_at q10w14_3_0 5) rfl
theorem dX12_skipAtom_52 : decode cX12_skipAtom 52 = .ok (.ifCond .ne 8, 3) := dz_154 (dz_at q10w14_3_47 5) (by decide +kernel)
theorem dX12_skipAtom_55 : decode cX12_skipAtom 55 = .ok (.aload_n 0, 1) := dz_42 (dz_at q10w14_3_47 8)
theorem dX12_skipAtom_56 : decode cX12_skipAtom 56 = .ok (.invokevirtual 145, 3) := dz_182 (dz_at q10w14_3_47 9) rfl
theorem dX12_skipAtom_59 : decode cX12_skipAtom 59 = .ok (.ireturn, 1) := dz_172 (dz_at q10w14_3_47 12)
theorem dX12_skipAtom_60 : decode cX12_skipAtom 60 = .ok (.aload_n 0, 1) := dz_42 (dz_at q10w14_3_47 13)
theorem dX12_skipAtom_61 : decode cX12_skipAtom 61 = .ok (.bipush 49, 2) := dz_16 (dz_at q10w14_3_47 14) (by decide +kernel)
theorem dX12_skipAtom_63 : decode cX12_skipAtom 63 = .ok (.bipush 57, 2) := dz_16 (dz_at q10w14_3_47 16) (by decide +kernel)
theorem dX12_skipAtom_65 : decode cX12_skipAtom 65 = .ok (.invokevirtual 141, 3) := dz_182 (dz_at q10w14_3_47 18) rfl
theorem dX12_skipAtom_68 : decode cX12_skipAtom 68 = .ok (.ifCond .eq 16, 3) := dz_153 (dz_at q10w14_3_47 21) (by decide +kernel)
theorem dX12_skipAtom_71 : decode cX12_skipAtom 71 = .ok (.aload_n 0, 1) := dz_42 (dz_at q10w14_3_71 0)
theorem dX12_skipAtom_72 : decode cX12_skipAtom 72 = .ok (.dup, 1) := dz_89 (dz_at q10w14_3_71 1)
theorem dX12_skipAtom_73 : decode cX12_skipAtom 73 = .ok (.getfield 131, 3) := dz_180 (dz_at q10w14_3_71 2) rfl
theorem dX12_skipAtom_76 : decode cX12_skipAtom 76 = .ok (.iconst 1, 1) := dz_4 (dz_at q10w14_3_71 5)
theorem dX12_skipAtom_77 : decode cX12_skipAtom 77 = .ok (.iadd, 1) := dz_96 (dz_at q10w14_3_71 6)
theorem dX12_skipAtom_78 : decode cX12_skipAtom 78 = .ok (.putfield 131, 3) := dz_181 (dz_at q10w14_3_71 7) rfl
theorem dX12_skipAtom_8 : decode cX12_skipAtom 8 = .ok (.ifCond .eq 15, 3) := dz_153 (dz_at q10w14_3_0 8) (by decide +kernel)
theorem dX12_skipAtom_81 : decode cX12_skipAtom 81 = .ok (.goto (-21), 3) := dz_167 (dz_at q10w14_3_71 10) (by decide +kernel)
theorem dX12_skipAtom_84 : decode cX12_skipAtom 84 = .ok (.aload_n 0, 1) := dz_42 (dz_at q10w14_3_71 13)
theorem dX12_skipAtom_85 : decode cX12_skipAtom 85 = .ok (.bipush 93, 2) := dz_16 (dz_at q10w14_3_71 14) (by decide +kernel)
theorem dX12_skipAtom_87 : decode cX12_skipAtom 87 = .ok (.bipush 93, 2) := dz_16 (dz_at q10w14_3_71 16) (by decide +kernel)
theorem dX12_skipAtom_89 : decode cX12_skipAtom 89 = .ok (.invokevirtual 141, 3) := dz_182 (dz_at q10w14_3_71 18) rfl
theorem dX12_skipAtom_92 : decode cX12_skipAtom 92 = .ok (.ifCond .ne 8, 3) := dz_154 (dz_at q10w14_3_71 21) (by decide +kernel)
theorem dX12_skipAtom_95 : decode cX12_skipAtom 95 = .ok (.aload_n 0, 1) := dz_42 (dz_at q10w14_3_95 0)
theorem dX12_skipAtom_96 : decode cX12_skipAtom 96 = .ok (.invokevirtual 145, 3) := dz_182 (dz_at q10w14_3_95 1) rfl
theorem dX12_skipAtom_99 : decode cX12_skipAtom 99 = .ok (.ireturn, 1) := dz_172 (dz_at q10w14_3_95 4)
theorem q10w14_4_0 : (cX12_skipRow.data.toList.drop 0).take 23 = [42, 27, 182, 0, 137, 154, 0, 5, 3, 172, 42, 16, 47, 16, 47, 182, 0, 141, 153, 0, 49, 42, 89] := by decide +kernel
theorem q10w14_4_23 : (cX12_skipRow.data.toList.drop 23).take 24 = [180, 0, 131, 4, 96, 181, 0, 131, 42, 16, 49, 16, 57, 182, 0, 141, 154, 0, 8, 42, 182, 0, 145, 172] := by decide +kernel
theorem q10w14_4_47 : (cX12_skipRow.data.toList.drop 47).take 23 = [42, 89, 180, 0, 131, 4, 96, 181, 0, 131, 42, 27, 182, 0, 137, 154, 255, 204, 3, 172, 42, 16, 48] := by decide +kernel
theorem q10w14_4_70 : (cX12_skipRow.data.toList.drop 70).take 24 = [16, 57, 182, 0, 141, 154, 0, 25, 42, 16, 91, 16, 91, 182, 0, 141, 154, 0, 14, 42, 16, 40, 16, 40] := by decide +kernel
theorem q10w14_4_94 : (cX12_skipRow.data.toList.drop 94).take 18 = [182, 0, 141, 153, 0, 13, 42, 27, 182, 0, 137, 154, 255, 161, 3, 172, 4, 172] := by decide +kernel
theorem dX12_skipRow_0 : decode cX12_skipRow 0 = .ok (.aload_n 0, 1) := dz_42 (dz_at q10w14_4_0 0)
theorem dX12_skipRow_1 : decode cX12_skipRow 1 = .ok (.iload_n 1, 1) := dz_27 (dz_at q10w14_4_0 1)
theorem dX12_skipRow_10 : decode cX12_skipRow 10 = .ok (.aload_n 0, 1) := dz_42 (dz_at q10w14_4_0 10)
theorem dX12_skipRow_100 : decode cX12_skipRow 100 = .ok (.aload_n 0, 1) := dz_42 (dz_at q10w14_4_94 6)
theorem dX12_skipRow_101 : decode cX12_skipRow 101 = .ok (.iload_n 1, 1) := dz_27 (dz_at q10w14_4_94 7)
theorem dX12_skipRow_102 : decode cX12_skipRow 102 = .ok (.invokevirtual 137, 3) := dz_182 (dz_at q10w14_4_94 8) rfl
theorem dX12_skipRow_105 : decode cX12_skipRow 105 = .ok (.ifCond .ne (-95), 3) := dz_154 (dz_at q10w14_4_94 11) (by decide +kernel)
theorem dX12_skipRow_108 : decode cX12_skipRow 108 = .ok (.iconst 0, 1) := dz_3 (dz_at q10w14_4_94 14)
theorem dX12_skipRow_109 : decode cX12_skipRow 109 = .ok (.ireturn, 1) := dz_172 (dz_at q10w14_4_94 15)
theorem dX12_skipRow_11 : decode cX12_skipRow 11 = .ok (.bipush 47, 2) := dz_16 (dz_at q10w14_4_0 11) (by decide +kernel)
theorem dX12_skipRow_110 : decode cX12_skipRow 110 = .ok (.iconst 1, 1) := dz_4 (dz_at q10w14_4_94 16)
theorem dX12_skipRow_111 : decode cX12_skipRow 111 = .ok (.ireturn, 1) := dz_172 (dz_at q10w14_4_94 17)
theorem dX12_skipRow_13 : decode cX12_skipRow 13 = .ok (.bipush 47, 2) := dz_16 (dz_at q10w14_4_0 13) (by decide +kernel)
theorem dX12_skipRow_15 : decode cX12_skipRow 15 = .ok (.invokevirtual 141, 3) := dz_182 (dz_at q10w14_4_0 15) rfl
theorem dX12_skipRow_18 : decode cX12_skipRow 18 = .ok (.ifCond .eq 49, 3) := dz_153 (dz_at q10w14_4_0 18) (by decide +kernel)
theorem dX12_skipRow_2 : decode cX12_skipRow 2 = .ok (.invokevirtual 137, 3) := dz_182 (dz_at q10w14_4_0 2) rfl
theorem dX12_skipRow_21 : decode cX12_skipRow 21 = .ok (.aload_n 0, 1) := dz_42 (dz_at q10w14_4_0 21)
theorem dX12_skipRow_22 : decode cX12_skipRow 22 = .ok (.dup, 1) := dz_89 (dz_at q10w14_4_0 22)
theorem dX12_skipRow_23 : decode cX12_skipRow 23 = .ok (.getfield 131, 3) := dz_180 (dz_at q10w14_4_23 0) rfl
theorem dX12_skipRow_26 : decode cX12_skipRow 26 = .ok (.iconst 1, 1) := dz_4 (dz_at q10w14_4_23 3)
theorem dX12_skipRow_27 : decode cX12_skipRow 27 = .ok (.iadd, 1) := dz_96 (dz_at q10w14_4_23 4)
theorem dX12_skipRow_28 : decode cX12_skipRow 28 = .ok (.putfield 131, 3) := dz_181 (dz_at q10w14_4_23 5) rfl
theorem dX12_skipRow_31 : decode cX12_skipRow 31 = .ok (.aload_n 0, 1) := dz_42 (dz_at q10w14_4_23 8)
theorem dX12_skipRow_32 : decode cX12_skipRow 32 = .ok (.bipush 49, 2) := dz_16 (dz_at q10w14_4_23 9) (by decide +kernel)
theorem dX12_skipRow_34 : decode cX12_skipRow 34 = .ok (.bipush 57, 2) := dz_16 (dz_at q10w14_4_23 11) (by decide +kernel)
theorem dX12_skipRow_36 : decode cX12_skipRow 36 = .ok (.invokevirtual 141, 3) := dz_182 (dz_at q10w14_4_23 13) rfl
theorem dX12_skipRow_39 : decode cX12_skipRow 39 = .ok (.ifCond .ne 8, 3) := dz_154 (dz_at q10w14_4_23 16) (by decide +kernel)
theorem dX12_skipRow_42 : decode cX12_skipRow 42 = .ok (.aload_n 0, 1) := dz_42 (dz_at q10w14_4_23 19)
theorem dX12_skipRow_43 : decode cX12_skipRow 43 = .ok (.invokevirtual 145, 3) := dz_182 (dz_at q10w14_4_23 20) rfl
theorem dX12_skipRow_46 : decode cX12_skipRow 46 = .ok (.ireturn, 1) := dz_172 (dz_at q10w14_4_23 23)
theorem dX12_skipRow_47 : decode cX12_skipRow 47 = .ok (.aload_n 0, 1) := dz_42 (dz_at q10w14_4_47 0)
theorem dX12_skipRow_48 : decode cX12_skipRow 48 = .ok (.dup, 1) := dz_89 (dz_at q10w14_4_47 1)
theorem dX12_skipRow_49 : decode cX12_skipRow 49 = .ok (.getfield 131, 3) := dz_180 (dz_at q10w14_4_47 2) rfl
theorem dX12_skipRow_5 : decode cX12_skipRow 5 = .ok (.ifCond .ne 5, 3) := dz_154 (dz_at q10w14_4_0 5) (by decide +kernel)
theorem dX12_skipRow_52 : decode cX12_skipRow 52 = .ok (.iconst 1, 1) := dz_4 (dz_at q10w14_4_47 5)
theorem dX12_skipRow_53 : decode cX12_skipRow 53 = .ok (.iadd, 1) := dz_96 (dz_at q10w14_4_47 6)
theorem dX12_skipRow_54 : decode cX12_skipRow 54 = .ok (.putfield 131, 3) := dz_181 (dz_at q10w14_4_47 7) rfl
theorem dX12_skipRow_57 : decode cX12_skipRow 57 = .ok (.aload_n 0, 1) := dz_42 (dz_at q10w14_4_47 10)
theorem dX12_skipRow_58 : decode cX12_skipRow 58 = .ok (.iload_n 1, 1) := dz_27 (dz_at q10w14_4_47 11)
theorem dX12_skipRow_59 : decode cX12_skipRow 59 = .ok (.invokevirtual 137, 3) := dz_182 (dz_at q10w14_4_47 12) rfl
theorem dX12_skipRow_62 : decode cX12_skipRow 62 = .ok (.ifCond .ne (-52), 3) := dz_154 (dz_at q10w14_4_47 15) (by decide +kernel)
theorem dX12_skipRow_65 : decode cX12_skipRow 65 = .ok (.iconst 0, 1) := dz_3 (dz_at q10w14_4_47 18)
theorem dX12_skipRow_66 : decode cX12_skipRow 66 = .ok (.ireturn, 1) := dz_172 (dz_at q10w14_4_47 19)
theorem dX12_skipRow_67 : decode cX12_skipRow 67 = .ok (.aload_n 0, 1) := dz_42 (dz_at q10w14_4_47 20)
theorem dX12_skipRow_68 : decode cX12_skipRow 68 = .ok (.bipush 48, 2) := dz_16 (dz_at q10w14_4_47 21) (by decide +kernel)
theorem dX12_skipRow_70 : decode cX12_skipRow 70 = .ok (.bipush 57, 2) := dz_16 (dz_at q10w14_4_70 0) (by decide +kernel)
theorem dX12_skipRow_72 : decode cX12_skipRow 72 = .ok (.invokevirtual 141, 3) := dz_182 (dz_at q10w14_4_70 2) rfl
theorem dX12_skipRow_75 : decode cX12_skipRow 75 = .ok (.ifCond .ne 25, 3) := dz_154 (dz_at q10w14_4_70 5) (by decide +kernel)
theorem dX12_skipRow_78 : decode cX12_skipRow 78 = .ok (.aload_n 0, 1) := dz_42 (dz_at q10w14_4_70 8)
theorem dX12_skipRow_79 : decode cX12_skipRow 79 = .ok (.bipush 91, 2) := dz_16 (dz_at q10w14_4_70 9) (by decide +kernel)
theorem dX12_skipRow_8 : decode cX12_skipRow 8 = .ok (.iconst 0, 1) := dz_3 (dz_at q10w14_4_0 8)
theorem dX12_skipRow_81 : decode cX12_skipRow 81 = .ok (.bipush 91, 2) := dz_16 (dz_at q10w14_4_70 11) (by decide +kernel)
theorem dX12_skipRow_83 : decode cX12_skipRow 83 = .ok (.invokevirtual 141, 3) := dz_182 (dz_at q10w14_4_70 13) rfl
theorem dX12_skipRow_86 : decode cX12_skipRow 86 = .ok (.ifCond .ne 14, 3) := dz_154 (dz_at q10w14_4_70 16) (by decide +kernel)
theorem dX12_skipRow_89 : decode cX12_skipRow 89 = .ok (.aload_n 0, 1) := dz_42 (dz_at q10w14_4_70 19)
theorem dX12_skipRow_9 : decode cX12_skipRow 9 = .ok (.ireturn, 1) := dz_172 (dz_at q10w14_4_0 9)
theorem dX12_skipRow_90 : decode cX12_skipRow 90 = .ok (.bipush 40, 2) := dz_16 (dz_at q10w14_4_70 20) (by decide +kernel)
theorem dX12_skipRow_92 : decode cX12_skipRow 92 = .ok (.bipush 40, 2) := dz_16 (dz_at q10w14_4_70 22) (by decide +kernel)
theorem dX12_skipRow_94 : decode cX12_skipRow 94 = .ok (.invokevirtual 141, 3) := dz_182 (dz_at q10w14_4_94 0) rfl
theorem dX12_skipRow_97 : decode cX12_skipRow 97 = .ok (.ifCond .eq 13, 3) := dz_153 (dz_at q10w14_4_94 3) (by decide +kernel)
theorem q10w14_5_0 : (cX12_skipTerm.data.toList.drop 0).take 23 = [42, 27, 182, 0, 149, 154, 0, 5, 3, 172, 42, 16, 126, 16, 126, 182, 0, 141, 153, 0, 16, 42, 89] := by decide +kernel
theorem q10w14_5_23 : (cX12_skipTerm.data.toList.drop 23).take 24 = [180, 0, 131, 4, 96, 181, 0, 131, 167, 255, 235, 42, 16, 42, 16, 42, 182, 0, 141, 153, 0, 42, 42, 89] := by decide +kernel
theorem q10w14_5_47 : (cX12_skipTerm.data.toList.drop 47).take 24 = [180, 0, 131, 4, 96, 181, 0, 131, 42, 16, 50, 16, 57, 182, 0, 141, 154, 0, 8, 42, 182, 0, 145, 172] := by decide +kernel
theorem q10w14_5_71 : (cX12_skipTerm.data.toList.drop 71).take 15 = [42, 89, 180, 0, 131, 4, 96, 181, 0, 131, 167, 255, 185, 4, 172] := by decide +kernel
theorem dX12_skipTerm_0 : decode cX12_skipTerm 0 = .ok (.aload_n 0, 1) := dz_42 (dz_at q10w14_5_0 0)
theorem dX12_skipTerm_1 : decode cX12_skipTerm 1 = .ok (.iload_n 1, 1) := dz_27 (dz_at q10w14_5_0 1)
theorem dX12_skipTerm_10 : decode cX12_skipTerm 10 = .ok (.aload_n 0, 1) := dz_42 (dz_at q10w14_5_0 10)
theorem dX12_skipTerm_11 : decode cX12_skipTerm 11 = .ok (.bipush 126, 2) := dz_16 (dz_at q10w14_5_0 11) (by decide +kernel)
theorem dX12_skipTerm_13 : decode cX12_skipTerm 13 = .ok (.bipush 126, 2) := dz_16 (dz_at q10w14_5_0 13) (by decide +kernel)
theorem dX12_skipTerm_15 : decode cX12_skipTerm 15 = .ok (.invokevirtual 141, 3) := dz_182 (dz_at q10w14_5_0 15) rfl
theorem dX12_skipTerm_18 : decode cX12_skipTerm 18 = .ok (.ifCond .eq 16, 3) := dz_153 (dz_at q10w14_5_0 18) (by decide +kernel)
theorem dX12_skipTerm_2 : decode cX12_skipTerm 2 = .ok (.invokevirtual 149, 3) := dz_182 (dz_at q10w14_5_0 2) rfl
theorem dX12_skipTerm_21 : decode cX12_skipTerm 21 = .ok (.aload_n 0, 1) := dz_42 (dz_at q10w14_5_0 21)
theorem dX12_skipTerm_22 : decode cX12_skipTerm 22 = .ok (.dup, 1) := dz_89 (dz_at q10w14_5_0 22)
theorem dX12_skipTerm_23 : decode cX12_skipTerm 23 = .ok (.getfield 131, 3) := dz_180 (dz_at q10w14_5_23 0) rfl
theorem dX12_skipTerm_26 : decode cX12_skipTerm 26 = .ok (.iconst 1, 1) := dz_4 (dz_at q10w14_5_23 3)
theorem dX12_skipTerm_27 : decode cX12_skipTerm 27 = .ok (.iadd, 1) := dz_96 (dz_at q10w14_5_23 4)
theorem dX12_skipTerm_28 : decode cX12_skipTerm 28 = .ok (.putfield 131, 3) := dz_181 (dz_at q10w14_5_23 5) rfl
theorem dX12_skipTerm_31 : decode cX12_skipTerm 31 = .ok (.goto (-21), 3) := dz_167 (dz_at q10w14_5_23 8) (by decide +kernel)
theorem dX12_skipTerm_34 : decode cX12_skipTerm 34 = .ok (.aload_n 0, 1) := dz_42 (dz_at q10w14_5_23 11)
theorem dX12_skipTerm_35 : decode cX12_skipTerm 35 = .ok (.bipush 42, 2) := dz_16 (dz_at q10w14_5_23 12) (by decide +kernel)
theorem dX12_skipTerm_37 : decode cX12_skipTerm 37 = .ok (.bipush 42, 2) := dz_16 (dz_at q10w14_5_23 14) (by decide +kernel)
theorem dX12_skipTerm_39 : decode cX12_skipTerm 39 = .ok (.invokevirtual 141, 3) := dz_182 (dz_at q10w14_5_23 16) rfl
theorem dX12_skipTerm_42 : decode cX12_skipTerm 42 = .ok (.ifCond .eq 42, 3) := dz_153 (dz_at q10w14_5_23 19) (by decide +kernel)
theorem dX12_skipTerm_45 : decode cX12_skipTerm 45 = .ok (.aload_n 0, 1) := dz_42 (dz_at q10w14_5_23 22)
theorem dX12_skipTerm_46 : decode cX12_skipTerm 46 = .ok (.dup, 1) := dz_89 (dz_at q10w14_5_23 23)
theorem dX12_skipTerm_47 : decode cX12_skipTerm 47 = .ok (.getfield 131, 3) := dz_180 (dz_at q10w14_5_47 0) rfl
theorem dX12_skipTerm_5 : decode cX12_skipTerm 5 = .ok (.ifCond .ne 5, 3) := dz_154 (dz_at q10w14_5_0 5) (by decide +kernel)
theorem dX12_skipTerm_50 : decode cX12_skipTerm 50 = .ok (.iconst 1, 1) := dz_4 (dz_at q10w14_5_47 3)
theorem dX12_skipTerm_51 : decode cX12_skipTerm 51 = .ok (.iadd, 1) := dz_96 (dz_at q10w14_5_47 4)
theorem dX12_skipTerm_52 : decode cX12_skipTerm 52 = .ok (.putfield 131, 3) := dz_181 (dz_at q10w14_5_47 5) rfl
theorem dX12_skipTerm_55 : decode cX12_skipTerm 55 = .ok (.aload_n 0, 1) := dz_42 (dz_at q10w14_5_47 8)
theorem dX12_skipTerm_56 : decode cX12_skipTerm 56 = .ok (.bipush 50, 2) := dz_16 (dz_at q10w14_5_47 9) (by decide +kernel)
theorem dX12_skipTerm_58 : decode cX12_skipTerm 58 = .ok (.bipush 57, 2) := dz_16 (dz_at q10w14_5_47 11) (by decide +kernel)
theorem dX12_skipTerm_60 : decode cX12_skipTerm 60 = .ok (.invokevirtual 141, 3) := dz_182 (dz_at q10w14_5_47 13) rfl
theorem dX12_skipTerm_63 : decode cX12_skipTerm 63 = .ok (.ifCond .ne 8, 3) := dz_154 (dz_at q10w14_5_47 16) (by decide +kernel)
theorem dX12_skipTerm_66 : decode cX12_skipTerm 66 = .ok (.aload_n 0, 1) := dz_42 (dz_at q10w14_5_47 19)
theorem dX12_skipTerm_67 : decode cX12_skipTerm 67 = .ok (.invokevirtual 145, 3) := dz_182 (dz_at q10w14_5_47 20) rfl
theorem dX12_skipTerm_70 : decode cX12_skipTerm 70 = .ok (.ireturn, 1) := dz_172 (dz_at q10w14_5_47 23)
theorem dX12_skipTerm_71 : decode cX12_skipTerm 71 = .ok (.aload_n 0, 1) := dz_42 (dz_at q10w14_5_71 0)
theorem dX12_skipTerm_72 : decode cX12_skipTerm 72 = .ok (.dup, 1) := dz_89 (dz_at q10w14_5_71 1)
theorem dX12_skipTerm_73 : decode cX12_skipTerm 73 = .ok (.getfield 131, 3) := dz_180 (dz_at q10w14_5_71 2) rfl
theorem dX12_skipTerm_76 : decode cX12_skipTerm 76 = .ok (.iconst 1, 1) := dz_4 (dz_at q10w14_5_71 5)
theorem dX12_skipTerm_77 : decode cX12_skipTerm 77 = .ok (.iadd, 1) := dz_96 (dz_at q10w14_5_71 6)
theorem dX12_skipTerm_78 : decode cX12_skipTerm 78 = .ok (.putfield 131, 3) := dz_181 (dz_at q10w14_5_71 7) rfl
theorem dX12_skipTerm_8 : decode cX12_skipTerm 8 = .ok (.iconst 0, 1) := dz_3 (dz_at q10w14_5_0 8)
theorem dX12_skipTerm_81 : decode cX12_skipTerm 81 = .ok (.goto (-71), 3) := dz_167 (dz_at q10w14_5_71 10) (by decide +kernel)
theorem dX12_skipTerm_84 : decode cX12_skipTerm 84 = .ok (.iconst 1, 1) := dz_4 (dz_at q10w14_5_71 13)
theorem dX12_skipTerm_85 : decode cX12_skipTerm 85 = .ok (.ireturn, 1) := dz_172 (dz_at q10w14_5_71 14)
theorem dX12_skipTerm_9 : decode cX12_skipTerm 9 = .ok (.ireturn, 1) := dz_172 (dz_at q10w14_5_0 9)
theorem dm_X12_skipTerm : yX12_skipTerm.cls = RX12 ∧ yX12_skipTerm.cls ≠ "java/lang/invoke/MethodHandle" ∧ yX12_skipTerm.cls ≠ "java/lang/invoke/VarHandle" ∧ (parseMethodDescriptor yX12_skipTerm.desc).map (fun d => d.parameters.length) = some 1 := by decide +kernel
theorem dm_X12_has : yX12_has.cls = RX12 ∧ yX12_has.cls ≠ "java/lang/invoke/MethodHandle" ∧ yX12_has.cls ≠ "java/lang/invoke/VarHandle" ∧ (parseMethodDescriptor yX12_has.desc).map (fun d => d.parameters.length) = some 2 := by decide +kernel
theorem dm_X12_isWrong : yX12_isWrong.cls = RX12 ∧ yX12_isWrong.cls ≠ "java/lang/invoke/MethodHandle" ∧ yX12_isWrong.cls ≠ "java/lang/invoke/VarHandle" ∧ (parseMethodDescriptor yX12_isWrong.desc).map (fun d => d.parameters.length) = some 0 := by decide +kernel
theorem dm_X12_skipAtom : yX12_skipAtom.cls = RX12 ∧ yX12_skipAtom.cls ≠ "java/lang/invoke/MethodHandle" ∧ yX12_skipAtom.cls ≠ "java/lang/invoke/VarHandle" ∧ (parseMethodDescriptor yX12_skipAtom.desc).map (fun d => d.parameters.length) = some 1 := by decide +kernel
theorem dm_X12_skipRow : yX12_skipRow.cls = RX12 ∧ yX12_skipRow.cls ≠ "java/lang/invoke/MethodHandle" ∧ yX12_skipRow.cls ≠ "java/lang/invoke/VarHandle" ∧ (parseMethodDescriptor yX12_skipRow.desc).map (fun d => d.parameters.length) = some 1 := by decide +kernel
theorem dm_X12_makeTerm : yX12_makeTerm.cls = RX12 ∧ yX12_makeTerm.cls ≠ "java/lang/invoke/MethodHandle" ∧ yX12_makeTerm.cls ≠ "java/lang/invoke/VarHandle" ∧ (parseMethodDescriptor yX12_makeTerm.desc).map (fun d => d.parameters.length) = some 1 := by decide +kernel
theorem dm_X12_makeRow : yX12_makeRow.cls = RX12 ∧ yX12_makeRow.cls ≠ "java/lang/invoke/MethodHandle" ∧ yX12_makeRow.cls ≠ "java/lang/invoke/VarHandle" ∧ (parseMethodDescriptor yX12_makeRow.desc).map (fun d => d.parameters.length) = some 1 := by decide +kernel
set_option maxRecDepth 100000 in
def wR_isWrong  (M : zM) (Q : Int → zM → Prop) : Prop := ((sI (M 0 37)) ≠ (-1) → Q 0 M) ∧ ((sI (M 0 37)) = (-1) → (∀ M2 : zM, M2 = zup M 0 37 (M 0 36) → Q 0 M2))
set_option maxHeartbeats 4000000 in
set_option maxRecDepth 100000 in
theorem cR_isWrong (l : Launch) (D : va_G) (dA : Nat → ClassId) (b : Nat) (M : zM)   (Q : Int → zM → Prop) (h : wR_isWrong  M Q) : Met l yX12_isWrong (.code yX12_isWrong cX12_isWrong 1 (some .boolean) :: zt) (z_rm 0) (va_Pc [.ref (b + 0)] (wPre D dA vwCl (z_tys dA) wR nR b M)) (va_Qi (wQz Q) (zB D dA vwCl wR nR b) (zA nR b)) 0 0 (zA nR b) := by
  unfold wR_isWrong at h
  refine Met.ofW (cc := cX12_isWrong) (maxL := 1) (ret := (some .boolean)) (by decide) rfl ?_
  intro p e s m args below meth c s₁ B hml hv
  obtain ⟨hargs, hS, hK⟩ := hv
  have hx := B.exec
  have hb := B.bytes
  have hr := B.returns
  have hts := atoms_spec (ws := .code yX12_isWrong cX12_isWrong 1 (some .boolean) :: zt) B.pre
  have hown : s.vm.findClass RX12 = some m.cls := findClass_of_methodNamed B.named
  have hlocks := B.notSynchronized
  have hS0 : va_S (zA nR b) s.heap s.heap [] := va_S.rf
  have hl := lv_entry ([.ref (b + 0)]) (n := 1) (Nat.le_of_ble_eq_true rfl)
  have hent : entryFrame m args 1 = F0 m 0 ((lg_sl ([.ref (b + 0)]) ++ List.replicate (1 - (lg_sl ([.ref (b + 0)])).length) Slot.unset).toArray) [] := by rw [hargs]; exact lg_entry_eq m ([.ref (b + 0)]) 1
  rw [hent]
  generalize (lg_sl ([.ref (b + 0)]) ++ List.replicate (1 - (lg_sl ([.ref (b + 0)])).length) Slot.unset).toArray = ls at hl ⊢
  have hl : lv_has ls 1 [(0, .ref (b + 0))] := hl
  refine lv_aload_n hx hb dX12_isWrong_0 rfl (lv_at hl 0 rfl) ?_
  refine w_geti hx hb hts (z_memU u12) hown hK.1 hS f12_37 (by decide) (zkd_of (rfl : zcd wR 0 = 50) rfl) (Or.inl (hts _ (z_mem k981))) dX12_isWrong_1 ?_
  refine z_iconst hx hb dX12_isWrong_4 ?_
  refine w_icmp_ne (tgt := 16) hx hb rfl (sI_of (by decide)) dX12_isWrong_5 (by decide) (fun c1 => ?_) (fun c1 => ?_)
  · skip
    have h := h.1 c1
    refine z_iconst hx hb dX12_isWrong_16 ?_
    exact w_zret hx hb hr hlocks hS hS0 (sI_of (by decide)) (by decide) h dX12_isWrong_17
  · skip
    have h := h.2 c1
    refine lv_aload_n hx hb dX12_isWrong_8 rfl (lv_at hl 0 rfl) ?_
    refine lv_aload_n hx hb dX12_isWrong_9 rfl (lv_at hl 0 rfl) ?_
    refine w_geti hx hb hts (z_memU u12) hown hK.1 hS f12_36 (by decide) (zkd_of (rfl : zcd wR 0 = 50) rfl) (Or.inl (hts _ (z_mem k980))) dX12_isWrong_10 ?_
    refine w_puti hx hb hts (z_memU u12) tyX12 tyX12_ok nmX12 hown hK.1 hS hS0 f12_37 (by decide) (zkd_of (rfl : zcd wR 0 = 50) rfl) (Or.inl (hts _ (z_mem k981))) rfl (z := (M 0 36)) (by decide +kernel) dX12_isWrong_13 (fun H locs hS hS0 => ?_)
    obtain ⟨M2, e3⟩ : ∃ M2 : zM, M2 = zup M 0 37 (M 0 36) := ⟨_, rfl⟩
    rw [← e3] at hS
    have h := h M2 e3
    refine z_iconst hx hb dX12_isWrong_16 ?_
    exact w_zret hx hb hr hlocks hS hS0 (sI_of (by decide)) (by decide) h dX12_isWrong_17

set_option maxRecDepth 100000 in
def wR_skipRow_F (R9 : Int → zM → (Int → zM → Prop) → Prop) (a0 : Int) (M : zM) (Q : Int → zM → Prop) : Prop := R9 a0 M (fun z2 M1 => (z2 ≠ 0 → wL0 (fun K10 M5 => wR_has 47 47 M5 (fun z14 => (z14 = 0 → wR_has 48 57 M5 (fun z19 => (z19 ≠ 0 → R9 a0 M5 (fun z24 M23 => (z24 ≠ 0 → K10 M23) ∧ (z24 = 0 → Q 0 M23))) ∧ (z19 = 0 → wR_has 91 91 M5 (fun z30 => (z30 ≠ 0 → R9 a0 M5 (fun z35 M34 => (z35 ≠ 0 → K10 M34) ∧ (z35 = 0 → Q 0 M34))) ∧ (z30 = 0 → wR_has 40 40 M5 (fun z41 => (z41 = 0 → Q 1 M5) ∧ (z41 ≠ 0 → R9 a0 M5 (fun z46 M45 => (z46 ≠ 0 → K10 M45) ∧ (z46 = 0 → Q 0 M45))))))))) ∧ (z14 ≠ 0 → (∀ M51 : zM, M51 = zup M5 0 36 ((M5 0 36) + 1) → wR_has 49 57 M51 (fun z54 => (z54 ≠ 0 → (∀ M58 : zM, M58 = zup M51 0 36 ((M51 0 36) + 1) → R9 a0 M58 (fun z61 M60 => (z61 ≠ 0 → K10 M60) ∧ (z61 = 0 → Q 0 M60)))) ∧ (z54 = 0 → wR_isWrong  M51 (fun z67 M66 => Q z67 M66))))))) M1) ∧ (z2 = 0 → Q 0 M1))
set_option maxHeartbeats 4000000 in
set_option maxRecDepth 100000 in
theorem cR_skipRow_F (dd : Nat) (R9 : Int → zM → (Int → zM → Prop) → Prop) (l : Launch) (D : va_G) (dA : Nat → ClassId) (hdd : 1 ≤ dd) (hrec : ∀ (b : Nat) (M : zM) (a0 : Int)  (Q : Int → zM → Prop), R9 a0 M Q → Met l yX12_skipTerm (.code yX12_skipTerm cX12_skipTerm 2 (some .boolean) :: zt) (z_rm dd) (va_Pc [.ref (b + 0), .int (iI a0)] (wPre D dA vwCl (z_tys dA) wR nR b M)) (va_Qi (wQz Q) (zB D dA vwCl wR nR b) (zA nR b)) 0 0 (zA nR b)) (b : Nat) (M : zM) (a0 : Int)  (Q : Int → zM → Prop) (h : wR_skipRow_F R9 a0 M Q) : Met l yX12_skipRow (.code yX12_skipRow cX12_skipRow 2 (some .boolean) :: zt) (z_rm (dd + 1)) (va_Pc [.ref (b + 0), .int (iI a0)] (wPre D dA vwCl (z_tys dA) wR nR b M)) (va_Qi (wQz Q) (zB D dA vwCl wR nR b) (zA nR b)) 0 0 (zA nR b) := by
  unfold wR_skipRow_F at h
  refine Met.ofW (cc := cX12_skipRow) (maxL := 2) (ret := (some .boolean)) (by decide) rfl ?_
  intro p e s m args below meth c s₁ B hml hv
  obtain ⟨hargs, hS, hK⟩ := hv
  have hx := B.exec
  have hb := B.bytes
  have hr := B.returns
  have hts := atoms_spec (ws := .code yX12_skipRow cX12_skipRow 2 (some .boolean) :: zt) B.pre
  have hown : s.vm.findClass RX12 = some m.cls := findClass_of_methodNamed B.named
  have hlocks := B.notSynchronized
  have hS0 : va_S (zA nR b) s.heap s.heap [] := va_S.rf
  have hl := lv_entry ([.ref (b + 0), .int (iI a0)]) (n := 2) (Nat.le_of_ble_eq_true rfl)
  have hent : entryFrame m args 2 = F0 m 0 ((lg_sl ([.ref (b + 0), .int (iI a0)]) ++ List.replicate (2 - (lg_sl ([.ref (b + 0), .int (iI a0)])).length) Slot.unset).toArray) [] := by rw [hargs]; exact lg_entry_eq m ([.ref (b + 0), .int (iI a0)]) 2
  rw [hent]
  generalize (lg_sl ([.ref (b + 0), .int (iI a0)]) ++ List.replicate (2 - (lg_sl ([.ref (b + 0), .int (iI a0)])).length) Slot.unset).toArray = ls at hl ⊢
  have hl : lv_has ls 2 [(0, .ref (b + 0)), (1, .int (iI a0))] := hl
  refine lv_aload_n hx hb dX12_skipRow_0 rfl (lv_at hl 0 rfl) ?_
  refine lv_iload_n hx hb dX12_skipRow_1 rfl (lv_at hl 1 rfl) ?_
  refine w_callz (va_runV (As := [.int (iI a0)]) (rest := []) ⟨hx, hb, hml, hown, hts⟩ (hrec b M a0 _ h) (cwV 1 hts (z_gV k1061 k1062 k1391 k14 k1063) rfl rfl rfl dm_X12_skipTerm ⟨by simp only [z_rm, headSpec]; omega, by simp only [z_rm, headSpec]; omega⟩) ⟨wPre_blind, (w_recv hS hK.1 (by decide) (zkd_of (rfl : zcd wR 0 = 50) rfl) (by decide) (rfl : vwCl[12]? = some (RX12, TX12, 50))), w_pre hS hK⟩ rfl rfl hl.1 rfl (lv_room (Nat.le_of_ble_eq_true rfl)) dX12_skipRow_2 ⟨Nat.le_refl _, Nat.le_refl _⟩) hS0 (fun z2 M1 H locs r3 h hS hS0 => ?_)
  refine w_if_ne (tgt := 10) hx hb (sI_01 r3) dX12_skipRow_5 (by decide) (fun c4 => ?_) (fun c4 => ?_)
  · skip
    have h := h.1 c4
    obtain ⟨I6, ⟨n7, h8⟩, h9⟩ := h
    have L10 : ∀ (n11 : Nat) (M5 : zM) (H : Heap) (locs : List Loc) (ls : Array Slot), I6 n11 M5 → zR D dA vwCl wR nR b M5 H → va_S (zA nR b) s.heap H locs → lv_has ls 2 [(0, .ref (b + 0)), (1, .int (iI a0))] → W p l e (headSpec (.code yX12_skipRow cX12_skipRow 2 (some .boolean) :: zt) (z_rm (dd + 1))).room s m args below meth c H locs 0 0 (MQ below (va_Qi (wQz Q) (zB D dA vwCl wR nR b) (zA nR b)) args s 0 0 (zA nR b)) (F0 m 10 ls []) := by
      intro n11
      induction n11 using Nat.strongRecOn with
      | ind n11 i12 =>
        intro M5 H locs ls h hS hS0 hl
        have h := h9 n11 M5 h
        refine lv_aload_n hx hb dX12_skipRow_10 rfl (lv_at hl 0 rfl) ?_
        refine z_bipush hx hb (by decide) dX12_skipRow_11 ?_
        refine z_bipush hx hb (by decide) dX12_skipRow_13 ?_
        refine w_callz (va_runV (As := [.int (iI 47), .int (iI 47)]) (rest := []) ⟨hx, hb, hml, hown, hts⟩ (cR_has l D dA b M5 47 47 _ h) (cwV 2 hts (z_gV k1067 k1068 k1393 k14 k1069) rfl rfl rfl dm_X12_has ⟨by simp only [z_rm, headSpec]; omega, by simp only [z_rm, headSpec]; omega⟩) ⟨wPre_blind, (w_recv hS hK.1 (by decide) (zkd_of (rfl : zcd wR 0 = 50) rfl) (by decide) (rfl : vwCl[12]? = some (RX12, TX12, 50))), w_pre hS hK⟩ rfl rfl hl.1 rfl (lv_room (Nat.le_of_ble_eq_true rfl)) dX12_skipRow_15 ⟨Nat.le_refl _, Nat.le_refl _⟩) hS0 (fun z14 M13 H locs r15 h hS hS0 => ?_)
        obtain ⟨e16, h⟩ := h
        rw [e16] at hS
        refine w_if_eq (tgt := 67) hx hb (sI_01 r15) dX12_skipRow_18 (by decide) (fun c17 => ?_) (fun c17 => ?_)
        · skip
          have h := h.1 c17
          refine lv_aload_n hx hb dX12_skipRow_67 rfl (lv_at hl 0 rfl) ?_
          refine z_bipush hx hb (by decide) dX12_skipRow_68 ?_
          refine z_bipush hx hb (by decide) dX12_skipRow_70 ?_
          refine w_callz (va_runV (As := [.int (iI 48), .int (iI 57)]) (rest := []) ⟨hx, hb, hml, hown, hts⟩ (cR_has l D dA b M5 48 57 _ h) (cwV 2 hts (z_gV k1067 k1068 k1393 k14 k1069) rfl rfl rfl dm_X12_has ⟨by simp only [z_rm, headSpec]; omega, by simp only [z_rm, headSpec]; omega⟩) ⟨wPre_blind, (w_recv hS hK.1 (by decide) (zkd_of (rfl : zcd wR 0 = 50) rfl) (by decide) (rfl : vwCl[12]? = some (RX12, TX12, 50))), w_pre hS hK⟩ rfl rfl hl.1 rfl (lv_room (Nat.le_of_ble_eq_true rfl)) dX12_skipRow_72 ⟨Nat.le_refl _, Nat.le_refl _⟩) hS0 (fun z19 M18 H locs r20 h hS hS0 => ?_)
          obtain ⟨e21, h⟩ := h
          rw [e21] at hS
          refine w_if_ne (tgt := 100) hx hb (sI_01 r20) dX12_skipRow_75 (by decide) (fun c22 => ?_) (fun c22 => ?_)
          · skip
            have h := h.1 c22
            refine lv_aload_n hx hb dX12_skipRow_100 rfl (lv_at hl 0 rfl) ?_
            refine lv_iload_n hx hb dX12_skipRow_101 rfl (lv_at hl 1 rfl) ?_
            refine w_callz (va_runV (As := [.int (iI a0)]) (rest := []) ⟨hx, hb, hml, hown, hts⟩ (hrec b M5 a0 _ h) (cwV 1 hts (z_gV k1061 k1062 k1391 k14 k1063) rfl rfl rfl dm_X12_skipTerm ⟨by simp only [z_rm, headSpec]; omega, by simp only [z_rm, headSpec]; omega⟩) ⟨wPre_blind, (w_recv hS hK.1 (by decide) (zkd_of (rfl : zcd wR 0 = 50) rfl) (by decide) (rfl : vwCl[12]? = some (RX12, TX12, 50))), w_pre hS hK⟩ rfl rfl hl.1 rfl (lv_room (Nat.le_of_ble_eq_true rfl)) dX12_skipRow_102 ⟨Nat.le_refl _, Nat.le_refl _⟩) hS0 (fun z24 M23 H locs r25 h hS hS0 => ?_)
            refine w_if_ne (tgt := 10) hx hb (sI_01 r25) dX12_skipRow_105 (by decide) (fun c26 => ?_) (fun c26 => ?_)
            · skip
              have h := h.1 c26
              obtain ⟨n27, h28, h⟩ := h
              exact i12 n27 h28 M23 _ _ _ h hS hS0 (lv_sub hl [0, 1] rfl)
            · skip
              have h := h.2 c26
              refine z_iconst hx hb dX12_skipRow_108 ?_
              exact w_zret hx hb hr hlocks hS hS0 (sI_of (by decide)) (by decide) h dX12_skipRow_109
          · skip
            have h := h.2 c22
            refine lv_aload_n hx hb dX12_skipRow_78 rfl (lv_at hl 0 rfl) ?_
            refine z_bipush hx hb (by decide) dX12_skipRow_79 ?_
            refine z_bipush hx hb (by decide) dX12_skipRow_81 ?_
            refine w_callz (va_runV (As := [.int (iI 91), .int (iI 91)]) (rest := []) ⟨hx, hb, hml, hown, hts⟩ (cR_has l D dA b M5 91 91 _ h) (cwV 2 hts (z_gV k1067 k1068 k1393 k14 k1069) rfl rfl rfl dm_X12_has ⟨by simp only [z_rm, headSpec]; omega, by simp only [z_rm, headSpec]; omega⟩) ⟨wPre_blind, (w_recv hS hK.1 (by decide) (zkd_of (rfl : zcd wR 0 = 50) rfl) (by decide) (rfl : vwCl[12]? = some (RX12, TX12, 50))), w_pre hS hK⟩ rfl rfl hl.1 rfl (lv_room (Nat.le_of_ble_eq_true rfl)) dX12_skipRow_83 ⟨Nat.le_refl _, Nat.le_refl _⟩) hS0 (fun z30 M29 H locs r31 h hS hS0 => ?_)
            obtain ⟨e32, h⟩ := h
            rw [e32] at hS
            refine w_if_ne (tgt := 100) hx hb (sI_01 r31) dX12_skipRow_86 (by decide) (fun c33 => ?_) (fun c33 => ?_)
            · skip
              have h := h.1 c33
              refine lv_aload_n hx hb dX12_skipRow_100 rfl (lv_at hl 0 rfl) ?_
              refine lv_iload_n hx hb dX12_skipRow_101 rfl (lv_at hl 1 rfl) ?_
              refine w_callz (va_runV (As := [.int (iI a0)]) (rest := []) ⟨hx, hb, hml, hown, hts⟩ (hrec b M5 a0 _ h) (cwV 1 hts (z_gV k1061 k1062 k1391 k14 k1063) rfl rfl rfl dm_X12_skipTerm ⟨by simp only [z_rm, headSpec]; omega, by simp only [z_rm, headSpec]; omega⟩) ⟨wPre_blind, (w_recv hS hK.1 (by decide) (zkd_of (rfl : zcd wR 0 = 50) rfl) (by decide) (rfl : vwCl[12]? = some (RX12, TX12, 50))), w_pre hS hK⟩ rfl rfl hl.1 rfl (lv_room (Nat.le_of_ble_eq_true rfl)) dX12_skipRow_102 ⟨Nat.le_refl _, Nat.le_refl _⟩) hS0 (fun z35 M34 H locs r36 h hS hS0 => ?_)
              refine w_if_ne (tgt := 10) hx hb (sI_01 r36) dX12_skipRow_105 (by decide) (fun c37 => ?_) (fun c37 => ?_)
              · skip
                have h := h.1 c37
                obtain ⟨n38, h39, h⟩ := h
                exact i12 n38 h39 M34 _ _ _ h hS hS0 (lv_sub hl [0, 1] rfl)
              · skip
                have h := h.2 c37
                refine z_iconst hx hb dX12_skipRow_108 ?_
                exact w_zret hx hb hr hlocks hS hS0 (sI_of (by decide)) (by decide) h dX12_skipRow_109
            · skip
              have h := h.2 c33
              refine lv_aload_n hx hb dX12_skipRow_89 rfl (lv_at hl 0 rfl) ?_
              refine z_bipush hx hb (by decide) dX12_skipRow_90 ?_
              refine z_bipush hx hb (by decide) dX12_skipRow_92 ?_
              refine w_callz (va_runV (As := [.int (iI 40), .int (iI 40)]) (rest := []) ⟨hx, hb, hml, hown, hts⟩ (cR_has l D dA b M5 40 40 _ h) (cwV 2 hts (z_gV k1067 k1068 k1393 k14 k1069) rfl rfl rfl dm_X12_has ⟨by simp only [z_rm, headSpec]; omega, by simp only [z_rm, headSpec]; omega⟩) ⟨wPre_blind, (w_recv hS hK.1 (by decide) (zkd_of (rfl : zcd wR 0 = 50) rfl) (by decide) (rfl : vwCl[12]? = some (RX12, TX12, 50))), w_pre hS hK⟩ rfl rfl hl.1 rfl (lv_room (Nat.le_of_ble_eq_true rfl)) dX12_skipRow_94 ⟨Nat.le_refl _, Nat.le_refl _⟩) hS0 (fun z41 M40 H locs r42 h hS hS0 => ?_)
              obtain ⟨e43, h⟩ := h
              rw [e43] at hS
              refine w_if_eq (tgt := 110) hx hb (sI_01 r42) dX12_skipRow_97 (by decide) (fun c44 => ?_) (fun c44 => ?_)
              · skip
                have h := h.1 c44
                refine z_iconst hx hb dX12_skipRow_110 ?_
                exact w_zret hx hb hr hlocks hS hS0 (sI_of (by decide)) (by decide) h dX12_skipRow_111
              · skip
                have h := h.2 c44
                refine lv_aload_n hx hb dX12_skipRow_100 rfl (lv_at hl 0 rfl) ?_
                refine lv_iload_n hx hb dX12_skipRow_101 rfl (lv_at hl 1 rfl) ?_
                refine w_callz (va_runV (As := [.int (iI a0)]) (rest := []) ⟨hx, hb, hml, hown, hts⟩ (hrec b M5 a0 _ h) (cwV 1 hts (z_gV k1061 k1062 k1391 k14 k1063) rfl rfl rfl dm_X12_skipTerm ⟨by simp only [z_rm, headSpec]; omega, by simp only [z_rm, headSpec]; omega⟩) ⟨wPre_blind, (w_recv hS hK.1 (by decide) (zkd_of (rfl : zcd wR 0 = 50) rfl) (by decide) (rfl : vwCl[12]? = some (RX12, TX12, 50))), w_pre hS hK⟩ rfl rfl hl.1 rfl (lv_room (Nat.le_of_ble_eq_true rfl)) dX12_skipRow_102 ⟨Nat.le_refl _, Nat.le_refl _⟩) hS0 (fun z46 M45 H locs r47 h hS hS0 => ?_)
                refine w_if_ne (tgt := 10) hx hb (sI_01 r47) dX12_skipRow_105 (by decide) (fun c48 => ?_) (fun c48 => ?_)
                · skip
                  have h := h.1 c48
                  obtain ⟨n49, h50, h⟩ := h
                  exact i12 n49 h50 M45 _ _ _ h hS hS0 (lv_sub hl [0, 1] rfl)
                · skip
                  have h := h.2 c48
                  refine z_iconst hx hb dX12_skipRow_108 ?_
                  exact w_zret hx hb hr hlocks hS hS0 (sI_of (by decide)) (by decide) h dX12_skipRow_109
        · skip
          have h := h.2 c17
          refine lv_aload_n hx hb dX12_skipRow_21 rfl (lv_at hl 0 rfl) ?_
          refine lv_dup hx hb dX12_skipRow_22 rfl ?_
          refine w_geti hx hb hts (z_memU u12) hown hK.1 hS f12_36 (by decide) (zkd_of (rfl : zcd wR 0 = 50) rfl) (Or.inl (hts _ (z_mem k980))) dX12_skipRow_23 ?_
          refine z_iconst hx hb dX12_skipRow_26 ?_
          refine z_iadd hx hb dX12_skipRow_27 ?_
          refine w_puti hx hb hts (z_memU u12) tyX12 tyX12_ok nmX12 hown hK.1 hS hS0 f12_36 (by decide) (zkd_of (rfl : zcd wR 0 = 50) rfl) (Or.inl (hts _ (z_mem k980))) rfl (z := ((M5 0 36) + 1)) (by decide +kernel) dX12_skipRow_28 (fun H locs hS hS0 => ?_)
          obtain ⟨M51, e52⟩ : ∃ M51 : zM, M51 = zup M5 0 36 ((M5 0 36) + 1) := ⟨_, rfl⟩
          rw [← e52] at hS
          have h := h M51 e52
          refine lv_aload_n hx hb dX12_skipRow_31 rfl (lv_at hl 0 rfl) ?_
          refine z_bipush hx hb (by decide) dX12_skipRow_32 ?_
          refine z_bipush hx hb (by decide) dX12_skipRow_34 ?_
          refine w_callz (va_runV (As := [.int (iI 49), .int (iI 57)]) (rest := []) ⟨hx, hb, hml, hown, hts⟩ (cR_has l D dA b M51 49 57 _ h) (cwV 2 hts (z_gV k1067 k1068 k1393 k14 k1069) rfl rfl rfl dm_X12_has ⟨by simp only [z_rm, headSpec]; omega, by simp only [z_rm, headSpec]; omega⟩) ⟨wPre_blind, (w_recv hS hK.1 (by decide) (zkd_of (rfl : zcd wR 0 = 50) rfl) (by decide) (rfl : vwCl[12]? = some (RX12, TX12, 50))), w_pre hS hK⟩ rfl rfl hl.1 rfl (lv_room (Nat.le_of_ble_eq_true rfl)) dX12_skipRow_36 ⟨Nat.le_refl _, Nat.le_refl _⟩) hS0 (fun z54 M53 H locs r55 h hS hS0 => ?_)
          obtain ⟨e56, h⟩ := h
          rw [e56] at hS
          refine w_if_ne (tgt := 47) hx hb (sI_01 r55) dX12_skipRow_39 (by decide) (fun c57 => ?_) (fun c57 => ?_)
          · skip
            have h := h.1 c57
            refine lv_aload_n hx hb dX12_skipRow_47 rfl (lv_at hl 0 rfl) ?_
            refine lv_dup hx hb dX12_skipRow_48 rfl ?_
            refine w_geti hx hb hts (z_memU u12) hown hK.1 hS f12_36 (by decide) (zkd_of (rfl : zcd wR 0 = 50) rfl) (Or.inl (hts _ (z_mem k980))) dX12_skipRow_49 ?_
            refine z_iconst hx hb dX12_skipRow_52 ?_
            refine z_iadd hx hb dX12_skipRow_53 ?_
            refine w_puti hx hb hts (z_memU u12) tyX12 tyX12_ok nmX12 hown hK.1 hS hS0 f12_36 (by decide) (zkd_of (rfl : zcd wR 0 = 50) rfl) (Or.inl (hts _ (z_mem k980))) rfl (z := ((M51 0 36) + 1)) (by decide +kernel) dX12_skipRow_54 (fun H locs hS hS0 => ?_)
            obtain ⟨M58, e59⟩ : ∃ M58 : zM, M58 = zup M51 0 36 ((M51 0 36) + 1) := ⟨_, rfl⟩
            rw [← e59] at hS
            have h := h M58 e59
            refine lv_aload_n hx hb dX12_skipRow_57 rfl (lv_at hl 0 rfl) ?_
            refine lv_iload_n hx hb dX12_skipRow_58 rfl (lv_at hl 1 rfl) ?_
            refine w_callz (va_runV (As := [.int (iI a0)]) (rest := []) ⟨hx, hb, hml, hown, hts⟩ (hrec b M58 a0 _ h) (cwV 1 hts (z_gV k1061 k1062 k1391 k14 k1063) rfl rfl rfl dm_X12_skipTerm ⟨by simp only [z_rm, headSpec]; omega, by simp only [z_rm, headSpec]; omega⟩) ⟨wPre_blind, (w_recv hS hK.1 (by decide) (zkd_of (rfl : zcd wR 0 = 50) rfl) (by decide) (rfl : vwCl[12]? = some (RX12, TX12, 50))), w_pre hS hK⟩ rfl rfl hl.1 rfl (lv_room (Nat.le_of_ble_eq_true rfl)) dX12_skipRow_59 ⟨Nat.le_refl _, Nat.le_refl _⟩) hS0 (fun z61 M60 H locs r62 h hS hS0 => ?_)
            refine w_if_ne (tgt := 10) hx hb (sI_01 r62) dX12_skipRow_62 (by decide) (fun c63 => ?_) (fun c63 => ?_)
            · skip
              have h := h.1 c63
              obtain ⟨n64, h65, h⟩ := h
              exact i12 n64 h65 M60 _ _ _ h hS hS0 (lv_sub hl [0, 1] rfl)
            · skip
              have h := h.2 c63
              refine z_iconst hx hb dX12_skipRow_65 ?_
              exact w_zret hx hb hr hlocks hS hS0 (sI_of (by decide)) (by decide) h dX12_skipRow_66
          · skip
            have h := h.2 c57
            refine lv_aload_n hx hb dX12_skipRow_42 rfl (lv_at hl 0 rfl) ?_
            refine w_callz (va_runV (As := []) (rest := []) ⟨hx, hb, hml, hown, hts⟩ (cR_isWrong l D dA b M51  _ h) (cwV 0 hts (z_gV k1070 k1071 k1394 k14 k1072) rfl rfl rfl dm_X12_isWrong ⟨by simp only [z_rm, headSpec]; omega, by simp only [z_rm, headSpec]; omega⟩) ⟨wPre_blind, (w_recv hS hK.1 (by decide) (zkd_of (rfl : zcd wR 0 = 50) rfl) (by decide) (rfl : vwCl[12]? = some (RX12, TX12, 50))), w_pre hS hK⟩ rfl rfl hl.1 rfl (lv_room (Nat.le_of_ble_eq_true rfl)) dX12_skipRow_43 ⟨Nat.le_refl _, Nat.le_refl _⟩) hS0 (fun z67 M66 H locs r68 h hS hS0 => ?_)
            exact w_zret hx hb hr hlocks hS hS0 (sI_01 r68) r68 h dX12_skipRow_46
    exact L10 n7 M1 _ _ _ h8 hS hS0 (lv_sub hl [0, 1] rfl)
  · skip
    have h := h.2 c4
    refine z_iconst hx hb dX12_skipRow_8 ?_
    exact w_zret hx hb hr hlocks hS hS0 (sI_of (by decide)) (by decide) h dX12_skipRow_9

set_option maxRecDepth 100000 in
def wR_skipTerm_F (R9 : Int → zM → (Int → zM → Prop) → Prop) (a0 : Int) (M : zM) (Q : Int → zM → Prop) : Prop := R9 a0 M (fun z2 M1 => (z2 ≠ 0 → wL0 (fun K10 M5 => wR_has 126 126 M5 (fun z14 => (z14 = 0 → wR_has 42 42 M5 (fun z19 => (z19 = 0 → Q 1 M5) ∧ (z19 ≠ 0 → (∀ M23 : zM, M23 = zup M5 0 36 ((M5 0 36) + 1) → wR_has 50 57 M23 (fun z26 => (z26 ≠ 0 → (∀ M30 : zM, M30 = zup M23 0 36 ((M23 0 36) + 1) → K10 M30)) ∧ (z26 = 0 → wR_isWrong  M23 (fun z35 M34 => Q z35 M34))))))) ∧ (z14 ≠ 0 → (∀ M37 : zM, M37 = zup M5 0 36 ((M5 0 36) + 1) → K10 M37)))) M1) ∧ (z2 = 0 → Q 0 M1))
set_option maxHeartbeats 4000000 in
set_option maxRecDepth 100000 in
theorem cR_skipTerm_F (dd : Nat) (R9 : Int → zM → (Int → zM → Prop) → Prop) (l : Launch) (D : va_G) (dA : Nat → ClassId) (hdd : 1 ≤ dd) (hrec : ∀ (b : Nat) (M : zM) (a0 : Int)  (Q : Int → zM → Prop), R9 a0 M Q → Met l yX12_skipAtom (.code yX12_skipAtom cX12_skipAtom 2 (some .boolean) :: zt) (z_rm dd) (va_Pc [.ref (b + 0), .int (iI a0)] (wPre D dA vwCl (z_tys dA) wR nR b M)) (va_Qi (wQz Q) (zB D dA vwCl wR nR b) (zA nR b)) 0 0 (zA nR b)) (b : Nat) (M : zM) (a0 : Int)  (Q : Int → zM → Prop) (h : wR_skipTerm_F R9 a0 M Q) : Met l yX12_skipTerm (.code yX12_skipTerm cX12_skipTerm 2 (some .boolean) :: zt) (z_rm (dd + 1)) (va_Pc [.ref (b + 0), .int (iI a0)] (wPre D dA vwCl (z_tys dA) wR nR b M)) (va_Qi (wQz Q) (zB D dA vwCl wR nR b) (zA nR b)) 0 0 (zA nR b) := by
  unfold wR_skipTerm_F at h
  refine Met.ofW (cc := cX12_skipTerm) (maxL := 2) (ret := (some .boolean)) (by decide) rfl ?_
  intro p e s m args below meth c s₁ B hml hv
  obtain ⟨hargs, hS, hK⟩ := hv
  have hx := B.exec
  have hb := B.bytes
  have hr := B.returns
  have hts := atoms_spec (ws := .code yX12_skipTerm cX12_skipTerm 2 (some .boolean) :: zt) B.pre
  have hown : s.vm.findClass RX12 = some m.cls := findClass_of_methodNamed B.named
  have hlocks := B.notSynchronized
  have hS0 : va_S (zA nR b) s.heap s.heap [] := va_S.rf
  have hl := lv_entry ([.ref (b + 0), .int (iI a0)]) (n := 2) (Nat.le_of_ble_eq_true rfl)
  have hent : entryFrame m args 2 = F0 m 0 ((lg_sl ([.ref (b + 0), .int (iI a0)]) ++ List.replicate (2 - (lg_sl ([.ref (b + 0), .int (iI a0)])).length) Slot.unset).toArray) [] := by rw [hargs]; exact lg_entry_eq m ([.ref (b + 0), .int (iI a0)]) 2
  rw [hent]
  generalize (lg_sl ([.ref (b + 0), .int (iI a0)]) ++ List.replicate (2 - (lg_sl ([.ref (b + 0), .int (iI a0)])).length) Slot.unset).toArray = ls at hl ⊢
  have hl : lv_has ls 2 [(0, .ref (b + 0)), (1, .int (iI a0))] := hl
  refine lv_aload_n hx hb dX12_skipTerm_0 rfl (lv_at hl 0 rfl) ?_
  refine lv_iload_n hx hb dX12_skipTerm_1 rfl (lv_at hl 1 rfl) ?_
  refine w_callz (va_runV (As := [.int (iI a0)]) (rest := []) ⟨hx, hb, hml, hown, hts⟩ (hrec b M a0 _ h) (cwV 1 hts (z_gV k1064 k1065 k1392 k14 k1066) rfl rfl rfl dm_X12_skipAtom ⟨by simp only [z_rm, headSpec]; omega, by simp only [z_rm, headSpec]; omega⟩) ⟨wPre_blind, (w_recv hS hK.1 (by decide) (zkd_of (rfl : zcd wR 0 = 50) rfl) (by decide) (rfl : vwCl[12]? = some (RX12, TX12, 50))), w_pre hS hK⟩ rfl rfl hl.1 rfl (lv_room (Nat.le_of_ble_eq_true rfl)) dX12_skipTerm_2 ⟨Nat.le_refl _, Nat.le_refl _⟩) hS0 (fun z2 M1 H locs r3 h hS hS0 => ?_)
  refine w_if_ne (tgt := 10) hx hb (sI_01 r3) dX12_skipTerm_5 (by decide) (fun c4 => ?_) (fun c4 => ?_)
  · skip
    have h := h.1 c4
    obtain ⟨I6, ⟨n7, h8⟩, h9⟩ := h
    have L10 : ∀ (n11 : Nat) (M5 : zM) (H : Heap) (locs : List Loc) (ls : Array Slot), I6 n11 M5 → zR D dA vwCl wR nR b M5 H → va_S (zA nR b) s.heap H locs → lv_has ls 2 [(0, .ref (b + 0))] → W p l e (headSpec (.code yX12_skipTerm cX12_skipTerm 2 (some .boolean) :: zt) (z_rm (dd + 1))).room s m args below meth c H locs 0 0 (MQ below (va_Qi (wQz Q) (zB D dA vwCl wR nR b) (zA nR b)) args s 0 0 (zA nR b)) (F0 m 10 ls []) := by
      intro n11
      induction n11 using Nat.strongRecOn with
      | ind n11 i12 =>
        intro M5 H locs ls h hS hS0 hl
        have h := h9 n11 M5 h
        refine lv_aload_n hx hb dX12_skipTerm_10 rfl (lv_at hl 0 rfl) ?_
        refine z_bipush hx hb (by decide) dX12_skipTerm_11 ?_
        refine z_bipush hx hb (by decide) dX12_skipTerm_13 ?_
        refine w_callz (va_runV (As := [.int (iI 126), .int (iI 126)]) (rest := []) ⟨hx, hb, hml, hown, hts⟩ (cR_has l D dA b M5 126 126 _ h) (cwV 2 hts (z_gV k1067 k1068 k1393 k14 k1069) rfl rfl rfl dm_X12_has ⟨by simp only [z_rm, headSpec]; omega, by simp only [z_rm, headSpec]; omega⟩) ⟨wPre_blind, (w_recv hS hK.1 (by decide) (zkd_of (rfl : zcd wR 0 = 50) rfl) (by decide) (rfl : vwCl[12]? = some (RX12, TX12, 50))), w_pre hS hK⟩ rfl rfl hl.1 rfl (lv_room (Nat.le_of_ble_eq_true rfl)) dX12_skipTerm_15 ⟨Nat.le_refl _, Nat.le_refl _⟩) hS0 (fun z14 M13 H locs r15 h hS hS0 => ?_)
        obtain ⟨e16, h⟩ := h
        rw [e16] at hS
        refine w_if_eq (tgt := 34) hx hb (sI_01 r15) dX12_skipTerm_18 (by decide) (fun c17 => ?_) (fun c17 => ?_)
        · skip
          have h := h.1 c17
          refine lv_aload_n hx hb dX12_skipTerm_34 rfl (lv_at hl 0 rfl) ?_
          refine z_bipush hx hb (by decide) dX12_skipTerm_35 ?_
          refine z_bipush hx hb (by decide) dX12_skipTerm_37 ?_
          refine w_callz (va_runV (As := [.int (iI 42), .int (iI 42)]) (rest := []) ⟨hx, hb, hml, hown, hts⟩ (cR_has l D dA b M5 42 42 _ h) (cwV 2 hts (z_gV k1067 k1068 k1393 k14 k1069) rfl rfl rfl dm_X12_has ⟨by simp only [z_rm, headSpec]; omega, by simp only [z_rm, headSpec]; omega⟩) ⟨wPre_blind, (w_recv hS hK.1 (by decide) (zkd_of (rfl : zcd wR 0 = 50) rfl) (by decide) (rfl : vwCl[12]? = some (RX12, TX12, 50))), w_pre hS hK⟩ rfl rfl hl.1 rfl (lv_room (Nat.le_of_ble_eq_true rfl)) dX12_skipTerm_39 ⟨Nat.le_refl _, Nat.le_refl _⟩) hS0 (fun z19 M18 H locs r20 h hS hS0 => ?_)
          obtain ⟨e21, h⟩ := h
          rw [e21] at hS
          refine w_if_eq (tgt := 84) hx hb (sI_01 r20) dX12_skipTerm_42 (by decide) (fun c22 => ?_) (fun c22 => ?_)
          · skip
            have h := h.1 c22
            refine z_iconst hx hb dX12_skipTerm_84 ?_
            exact w_zret hx hb hr hlocks hS hS0 (sI_of (by decide)) (by decide) h dX12_skipTerm_85
          · skip
            have h := h.2 c22
            refine lv_aload_n hx hb dX12_skipTerm_45 rfl (lv_at hl 0 rfl) ?_
            refine lv_dup hx hb dX12_skipTerm_46 rfl ?_
            refine w_geti hx hb hts (z_memU u12) hown hK.1 hS f12_36 (by decide) (zkd_of (rfl : zcd wR 0 = 50) rfl) (Or.inl (hts _ (z_mem k980))) dX12_skipTerm_47 ?_
            refine z_iconst hx hb dX12_skipTerm_50 ?_
            refine z_iadd hx hb dX12_skipTerm_51 ?_
            refine w_puti hx hb hts (z_memU u12) tyX12 tyX12_ok nmX12 hown hK.1 hS hS0 f12_36 (by decide) (zkd_of (rfl : zcd wR 0 = 50) rfl) (Or.inl (hts _ (z_mem k980))) rfl (z := ((M5 0 36) + 1)) (by decide +kernel) dX12_skipTerm_52 (fun H locs hS hS0 => ?_)
            obtain ⟨M23, e24⟩ : ∃ M23 : zM, M23 = zup M5 0 36 ((M5 0 36) + 1) := ⟨_, rfl⟩
            rw [← e24] at hS
            have h := h M23 e24
            refine lv_aload_n hx hb dX12_skipTerm_55 rfl (lv_at hl 0 rfl) ?_
            refine z_bipush hx hb (by decide) dX12_skipTerm_56 ?_
            refine z_bipush hx hb (by decide) dX12_skipTerm_58 ?_
            refine w_callz (va_runV (As := [.int (iI 50), .int (iI 57)]) (rest := []) ⟨hx, hb, hml, hown, hts⟩ (cR_has l D dA b M23 50 57 _ h) (cwV 2 hts (z_gV k1067 k1068 k1393 k14 k1069) rfl rfl rfl dm_X12_has ⟨by simp only [z_rm, headSpec]; omega, by simp only [z_rm, headSpec]; omega⟩) ⟨wPre_blind, (w_recv hS hK.1 (by decide) (zkd_of (rfl : zcd wR 0 = 50) rfl) (by decide) (rfl : vwCl[12]? = some (RX12, TX12, 50))), w_pre hS hK⟩ rfl rfl hl.1 rfl (lv_room (Nat.le_of_ble_eq_true rfl)) dX12_skipTerm_60 ⟨Nat.le_refl _, Nat.le_refl _⟩) hS0 (fun z26 M25 H locs r27 h hS hS0 => ?_)
            obtain ⟨e28, h⟩ := h
            rw [e28] at hS
            refine w_if_ne (tgt := 71) hx hb (sI_01 r27) dX12_skipTerm_63 (by decide) (fun c29 => ?_) (fun c29 => ?_)
            · skip
              have h := h.1 c29
              refine lv_aload_n hx hb dX12_skipTerm_71 rfl (lv_at hl 0 rfl) ?_
              refine lv_dup hx hb dX12_skipTerm_72 rfl ?_
              refine w_geti hx hb hts (z_memU u12) hown hK.1 hS f12_36 (by decide) (zkd_of (rfl : zcd wR 0 = 50) rfl) (Or.inl (hts _ (z_mem k980))) dX12_skipTerm_73 ?_
              refine z_iconst hx hb dX12_skipTerm_76 ?_
              refine z_iadd hx hb dX12_skipTerm_77 ?_
              refine w_puti hx hb hts (z_memU u12) tyX12 tyX12_ok nmX12 hown hK.1 hS hS0 f12_36 (by decide) (zkd_of (rfl : zcd wR 0 = 50) rfl) (Or.inl (hts _ (z_mem k980))) rfl (z := ((M23 0 36) + 1)) (by decide +kernel) dX12_skipTerm_78 (fun H locs hS hS0 => ?_)
              obtain ⟨M30, e31⟩ : ∃ M30 : zM, M30 = zup M23 0 36 ((M23 0 36) + 1) := ⟨_, rfl⟩
              rw [← e31] at hS
              have h := h M30 e31
              refine lv_goto (tgt := 10) hx hb dX12_skipTerm_81 (by decide) ?_
              obtain ⟨n32, h33, h⟩ := h
              exact i12 n32 h33 M30 _ _ _ h hS hS0 (lv_sub hl [0] rfl)
            · skip
              have h := h.2 c29
              refine lv_aload_n hx hb dX12_skipTerm_66 rfl (lv_at hl 0 rfl) ?_
              refine w_callz (va_runV (As := []) (rest := []) ⟨hx, hb, hml, hown, hts⟩ (cR_isWrong l D dA b M23  _ h) (cwV 0 hts (z_gV k1070 k1071 k1394 k14 k1072) rfl rfl rfl dm_X12_isWrong ⟨by simp only [z_rm, headSpec]; omega, by simp only [z_rm, headSpec]; omega⟩) ⟨wPre_blind, (w_recv hS hK.1 (by decide) (zkd_of (rfl : zcd wR 0 = 50) rfl) (by decide) (rfl : vwCl[12]? = some (RX12, TX12, 50))), w_pre hS hK⟩ rfl rfl hl.1 rfl (lv_room (Nat.le_of_ble_eq_true rfl)) dX12_skipTerm_67 ⟨Nat.le_refl _, Nat.le_refl _⟩) hS0 (fun z35 M34 H locs r36 h hS hS0 => ?_)
              exact w_zret hx hb hr hlocks hS hS0 (sI_01 r36) r36 h dX12_skipTerm_70
        · skip
          have h := h.2 c17
          refine lv_aload_n hx hb dX12_skipTerm_21 rfl (lv_at hl 0 rfl) ?_
          refine lv_dup hx hb dX12_skipTerm_22 rfl ?_
          refine w_geti hx hb hts (z_memU u12) hown hK.1 hS f12_36 (by decide) (zkd_of (rfl : zcd wR 0 = 50) rfl) (Or.inl (hts _ (z_mem k980))) dX12_skipTerm_23 ?_
          refine z_iconst hx hb dX12_skipTerm_26 ?_
          refine z_iadd hx hb dX12_skipTerm_27 ?_
          refine w_puti hx hb hts (z_memU u12) tyX12 tyX12_ok nmX12 hown hK.1 hS hS0 f12_36 (by decide) (zkd_of (rfl : zcd wR 0 = 50) rfl) (Or.inl (hts _ (z_mem k980))) rfl (z := ((M5 0 36) + 1)) (by decide +kernel) dX12_skipTerm_28 (fun H locs hS hS0 => ?_)
          obtain ⟨M37, e38⟩ : ∃ M37 : zM, M37 = zup M5 0 36 ((M5 0 36) + 1) := ⟨_, rfl⟩
          rw [← e38] at hS
          have h := h M37 e38
          refine lv_goto (tgt := 10) hx hb dX12_skipTerm_31 (by decide) ?_
          obtain ⟨n39, h40, h⟩ := h
          exact i12 n39 h40 M37 _ _ _ h hS hS0 (lv_sub hl [0] rfl)
    exact L10 n7 M1 _ _ _ h8 hS hS0 (lv_sub hl [0] rfl)
  · skip
    have h := h.2 c4
    refine z_iconst hx hb dX12_skipTerm_8 ?_
    exact w_zret hx hb hr hlocks hS hS0 (sI_of (by decide)) (by decide) h dX12_skipTerm_9

set_option maxRecDepth 100000 in
def wR_skipAtom_F (R9 : Int → zM → (Int → zM → Prop) → Prop) (a0 : Int) (M : zM) (Q : Int → zM → Prop) : Prop := wR_has 48 57 M (fun z2 => (z2 = 0 → wR_has 91 91 M (fun z7 => (z7 = 0 → wR_has 40 40 M (fun z12 => (z12 = 0 → wR_isWrong  M (fun z17 M16 => Q z17 M16)) ∧ (z12 ≠ 0 → ((sI a0) ≠ 5 → (∀ M20 : zM, M20 = zup M 0 36 ((M 0 36) + 1) → R9 (a0 + 1) M20 (fun z23 M22 => (z23 ≠ 0 → wR_has 41 41 M22 (fun z27 => (z27 ≠ 0 → (∀ M31 : zM, M31 = zup M22 0 36 ((M22 0 36) + 1) → Q 1 M31)) ∧ (z27 = 0 → wR_isWrong  M22 (fun z34 M33 => Q z34 M33)))) ∧ (z23 = 0 → Q 0 M22)))) ∧ ((sI a0) = 5 → wR_isWrong  M (fun z37 M36 => Q z37 M36))))) ∧ (z7 ≠ 0 → (∀ M39 : zM, M39 = zup M 0 36 ((M 0 36) + 1) → wR_has 49 57 M39 (fun z42 => (z42 ≠ 0 → wL0 (fun K60 M46 => wR_has 49 57 M46 (fun z55 => (z55 = 0 → wR_has 93 93 M46 (fun z60 => (z60 ≠ 0 → (∀ M64 : zM, M64 = zup M46 0 36 ((M46 0 36) + 1) → Q 1 M64)) ∧ (z60 = 0 → wR_isWrong  M46 (fun z67 M66 => Q z67 M66)))) ∧ (z55 ≠ 0 → (∀ M69 : zM, M69 = zup M46 0 36 ((M46 0 36) + 1) → K60 M69)))) M39) ∧ (z42 = 0 → wR_isWrong  M39 (fun z74 M73 => Q z74 M73))))))) ∧ (z2 ≠ 0 → (∀ M76 : zM, M76 = zup M 0 36 ((M 0 36) + 1) → Q 1 M76)))
set_option maxHeartbeats 4000000 in
set_option maxRecDepth 100000 in
theorem cR_skipAtom_F (dd : Nat) (R9 : Int → zM → (Int → zM → Prop) → Prop) (l : Launch) (D : va_G) (dA : Nat → ClassId) (hdd : 1 ≤ dd) (hrec : ∀ (b : Nat) (M : zM) (a0 : Int)  (Q : Int → zM → Prop), R9 a0 M Q → Met l yX12_skipRow (.code yX12_skipRow cX12_skipRow 2 (some .boolean) :: zt) (z_rm dd) (va_Pc [.ref (b + 0), .int (iI a0)] (wPre D dA vwCl (z_tys dA) wR nR b M)) (va_Qi (wQz Q) (zB D dA vwCl wR nR b) (zA nR b)) 0 0 (zA nR b)) (b : Nat) (M : zM) (a0 : Int)  (Q : Int → zM → Prop) (h : wR_skipAtom_F R9 a0 M Q) : Met l yX12_skipAtom (.code yX12_skipAtom cX12_skipAtom 2 (some .boolean) :: zt) (z_rm (dd + 1)) (va_Pc [.ref (b + 0), .int (iI a0)] (wPre D dA vwCl (z_tys dA) wR nR b M)) (va_Qi (wQz Q) (zB D dA vwCl wR nR b) (zA nR b)) 0 0 (zA nR b) := by
  unfold wR_skipAtom_F at h
  refine Met.ofW (cc := cX12_skipAtom) (maxL := 2) (ret := (some .boolean)) (by decide) rfl ?_
  intro p e s m args below meth c s₁ B hml hv
  obtain ⟨hargs, hS, hK⟩ := hv
  have hx := B.exec
  have hb := B.bytes
  have hr := B.returns
  have hts := atoms_spec (ws := .code yX12_skipAtom cX12_skipAtom 2 (some .boolean) :: zt) B.pre
  have hown : s.vm.findClass RX12 = some m.cls := findClass_of_methodNamed B.named
  have hlocks := B.notSynchronized
  have hS0 : va_S (zA nR b) s.heap s.heap [] := va_S.rf
  have hl := lv_entry ([.ref (b + 0), .int (iI a0)]) (n := 2) (Nat.le_of_ble_eq_true rfl)
  have hent : entryFrame m args 2 = F0 m 0 ((lg_sl ([.ref (b + 0), .int (iI a0)]) ++ List.replicate (2 - (lg_sl ([.ref (b + 0), .int (iI a0)])).length) Slot.unset).toArray) [] := by rw [hargs]; exact lg_entry_eq m ([.ref (b + 0), .int (iI a0)]) 2
  rw [hent]
  generalize (lg_sl ([.ref (b + 0), .int (iI a0)]) ++ List.replicate (2 - (lg_sl ([.ref (b + 0), .int (iI a0)])).length) Slot.unset).toArray = ls at hl ⊢
  have hl : lv_has ls 2 [(0, .ref (b + 0)), (1, .int (iI a0))] := hl
  refine lv_aload_n hx hb dX12_skipAtom_0 rfl (lv_at hl 0 rfl) ?_
  refine z_bipush hx hb (by decide) dX12_skipAtom_1 ?_
  refine z_bipush hx hb (by decide) dX12_skipAtom_3 ?_
  refine w_callz (va_runV (As := [.int (iI 48), .int (iI 57)]) (rest := []) ⟨hx, hb, hml, hown, hts⟩ (cR_has l D dA b M 48 57 _ h) (cwV 2 hts (z_gV k1067 k1068 k1393 k14 k1069) rfl rfl rfl dm_X12_has ⟨by simp only [z_rm, headSpec]; omega, by simp only [z_rm, headSpec]; omega⟩) ⟨wPre_blind, (w_recv hS hK.1 (by decide) (zkd_of (rfl : zcd wR 0 = 50) rfl) (by decide) (rfl : vwCl[12]? = some (RX12, TX12, 50))), w_pre hS hK⟩ rfl rfl hl.1 rfl (lv_room (Nat.le_of_ble_eq_true rfl)) dX12_skipAtom_5 ⟨Nat.le_refl _, Nat.le_refl _⟩) hS0 (fun z2 M1 H locs r3 h hS hS0 => ?_)
  obtain ⟨e4, h⟩ := h
  rw [e4] at hS
  refine w_if_eq (tgt := 23) hx hb (sI_01 r3) dX12_skipAtom_8 (by decide) (fun c5 => ?_) (fun c5 => ?_)
  · skip
    have h := h.1 c5
    refine lv_aload_n hx hb dX12_skipAtom_23 rfl (lv_at hl 0 rfl) ?_
    refine z_bipush hx hb (by decide) dX12_skipAtom_24 ?_
    refine z_bipush hx hb (by decide) dX12_skipAtom_26 ?_
    refine w_callz (va_runV (As := [.int (iI 91), .int (iI 91)]) (rest := []) ⟨hx, hb, hml, hown, hts⟩ (cR_has l D dA b M 91 91 _ h) (cwV 2 hts (z_gV k1067 k1068 k1393 k14 k1069) rfl rfl rfl dm_X12_has ⟨by simp only [z_rm, headSpec]; omega, by simp only [z_rm, headSpec]; omega⟩) ⟨wPre_blind, (w_recv hS hK.1 (by decide) (zkd_of (rfl : zcd wR 0 = 50) rfl) (by decide) (rfl : vwCl[12]? = some (RX12, TX12, 50))), w_pre hS hK⟩ rfl rfl hl.1 rfl (lv_room (Nat.le_of_ble_eq_true rfl)) dX12_skipAtom_28 ⟨Nat.le_refl _, Nat.le_refl _⟩) hS0 (fun z7 M6 H locs r8 h hS hS0 => ?_)
    obtain ⟨e9, h⟩ := h
    rw [e9] at hS
    refine w_if_eq (tgt := 112) hx hb (sI_01 r8) dX12_skipAtom_31 (by decide) (fun c10 => ?_) (fun c10 => ?_)
    · skip
      have h := h.1 c10
      refine lv_aload_n hx hb dX12_skipAtom_112 rfl (lv_at hl 0 rfl) ?_
      refine z_bipush hx hb (by decide) dX12_skipAtom_113 ?_
      refine z_bipush hx hb (by decide) dX12_skipAtom_115 ?_
      refine w_callz (va_runV (As := [.int (iI 40), .int (iI 40)]) (rest := []) ⟨hx, hb, hml, hown, hts⟩ (cR_has l D dA b M 40 40 _ h) (cwV 2 hts (z_gV k1067 k1068 k1393 k14 k1069) rfl rfl rfl dm_X12_has ⟨by simp only [z_rm, headSpec]; omega, by simp only [z_rm, headSpec]; omega⟩) ⟨wPre_blind, (w_recv hS hK.1 (by decide) (zkd_of (rfl : zcd wR 0 = 50) rfl) (by decide) (rfl : vwCl[12]? = some (RX12, TX12, 50))), w_pre hS hK⟩ rfl rfl hl.1 rfl (lv_room (Nat.le_of_ble_eq_true rfl)) dX12_skipAtom_117 ⟨Nat.le_refl _, Nat.le_refl _⟩) hS0 (fun z12 M11 H locs r13 h hS hS0 => ?_)
      obtain ⟨e14, h⟩ := h
      rw [e14] at hS
      refine w_if_eq (tgt := 128) hx hb (sI_01 r13) dX12_skipAtom_120 (by decide) (fun c15 => ?_) (fun c15 => ?_)
      · skip
        have h := h.1 c15
        refine lv_aload_n hx hb dX12_skipAtom_128 rfl (lv_at hl 0 rfl) ?_
        refine w_callz (va_runV (As := []) (rest := []) ⟨hx, hb, hml, hown, hts⟩ (cR_isWrong l D dA b M  _ h) (cwV 0 hts (z_gV k1070 k1071 k1394 k14 k1072) rfl rfl rfl dm_X12_isWrong ⟨by simp only [z_rm, headSpec]; omega, by simp only [z_rm, headSpec]; omega⟩) ⟨wPre_blind, (w_recv hS hK.1 (by decide) (zkd_of (rfl : zcd wR 0 = 50) rfl) (by decide) (rfl : vwCl[12]? = some (RX12, TX12, 50))), w_pre hS hK⟩ rfl rfl hl.1 rfl (lv_room (Nat.le_of_ble_eq_true rfl)) dX12_skipAtom_129 ⟨Nat.le_refl _, Nat.le_refl _⟩) hS0 (fun z17 M16 H locs r18 h hS hS0 => ?_)
        exact w_zret hx hb hr hlocks hS hS0 (sI_01 r18) r18 h dX12_skipAtom_132
      · skip
        have h := h.2 c15
        refine lv_iload_n hx hb dX12_skipAtom_123 rfl (lv_at hl 1 rfl) ?_
        refine z_iconst hx hb dX12_skipAtom_124 ?_
        refine w_icmp_ne (tgt := 133) hx hb rfl (sI_of (by decide)) dX12_skipAtom_125 (by decide) (fun c19 => ?_) (fun c19 => ?_)
        · skip
          have h := h.1 c19
          refine lv_aload_n hx hb dX12_skipAtom_133 rfl (lv_at hl 0 rfl) ?_
          refine lv_dup hx hb dX12_skipAtom_134 rfl ?_
          refine w_geti hx hb hts (z_memU u12) hown hK.1 hS f12_36 (by decide) (zkd_of (rfl : zcd wR 0 = 50) rfl) (Or.inl (hts _ (z_mem k980))) dX12_skipAtom_135 ?_
          refine z_iconst hx hb dX12_skipAtom_138 ?_
          refine z_iadd hx hb dX12_skipAtom_139 ?_
          refine w_puti hx hb hts (z_memU u12) tyX12 tyX12_ok nmX12 hown hK.1 hS hS0 f12_36 (by decide) (zkd_of (rfl : zcd wR 0 = 50) rfl) (Or.inl (hts _ (z_mem k980))) rfl (z := ((M 0 36) + 1)) (by decide +kernel) dX12_skipAtom_140 (fun H locs hS hS0 => ?_)
          obtain ⟨M20, e21⟩ : ∃ M20 : zM, M20 = zup M 0 36 ((M 0 36) + 1) := ⟨_, rfl⟩
          rw [← e21] at hS
          have h := h M20 e21
          refine lv_aload_n hx hb dX12_skipAtom_143 rfl (lv_at hl 0 rfl) ?_
          refine lv_iload_n hx hb dX12_skipAtom_144 rfl (lv_at hl 1 rfl) ?_
          refine z_iconst hx hb dX12_skipAtom_145 ?_
          refine z_iadd hx hb dX12_skipAtom_146 ?_
          refine w_callz (va_runV (As := [.int (iI (a0 + 1))]) (rest := []) ⟨hx, hb, hml, hown, hts⟩ (hrec b M20 (a0 + 1) _ h) (cwV 1 hts (z_gV k1058 k1059 k1390 k14 k1060) rfl rfl rfl dm_X12_skipRow ⟨by simp only [z_rm, headSpec]; omega, by simp only [z_rm, headSpec]; omega⟩) ⟨wPre_blind, (w_recv hS hK.1 (by decide) (zkd_of (rfl : zcd wR 0 = 50) rfl) (by decide) (rfl : vwCl[12]? = some (RX12, TX12, 50))), w_pre hS hK⟩ rfl rfl hl.1 rfl (lv_room (Nat.le_of_ble_eq_true rfl)) dX12_skipAtom_147 ⟨Nat.le_refl _, Nat.le_refl _⟩) hS0 (fun z23 M22 H locs r24 h hS hS0 => ?_)
          refine w_if_ne (tgt := 155) hx hb (sI_01 r24) dX12_skipAtom_150 (by decide) (fun c25 => ?_) (fun c25 => ?_)
          · skip
            have h := h.1 c25
            refine lv_aload_n hx hb dX12_skipAtom_155 rfl (lv_at hl 0 rfl) ?_
            refine z_bipush hx hb (by decide) dX12_skipAtom_156 ?_
            refine z_bipush hx hb (by decide) dX12_skipAtom_158 ?_
            refine w_callz (va_runV (As := [.int (iI 41), .int (iI 41)]) (rest := []) ⟨hx, hb, hml, hown, hts⟩ (cR_has l D dA b M22 41 41 _ h) (cwV 2 hts (z_gV k1067 k1068 k1393 k14 k1069) rfl rfl rfl dm_X12_has ⟨by simp only [z_rm, headSpec]; omega, by simp only [z_rm, headSpec]; omega⟩) ⟨wPre_blind, (w_recv hS hK.1 (by decide) (zkd_of (rfl : zcd wR 0 = 50) rfl) (by decide) (rfl : vwCl[12]? = some (RX12, TX12, 50))), w_pre hS hK⟩ rfl rfl hl.1 rfl (lv_room (Nat.le_of_ble_eq_true rfl)) dX12_skipAtom_160 ⟨Nat.le_refl _, Nat.le_refl _⟩) hS0 (fun z27 M26 H locs r28 h hS hS0 => ?_)
            obtain ⟨e29, h⟩ := h
            rw [e29] at hS
            refine w_if_ne (tgt := 171) hx hb (sI_01 r28) dX12_skipAtom_163 (by decide) (fun c30 => ?_) (fun c30 => ?_)
            · skip
              have h := h.1 c30
              refine lv_aload_n hx hb dX12_skipAtom_171 rfl (lv_at hl 0 rfl) ?_
              refine lv_dup hx hb dX12_skipAtom_172 rfl ?_
              refine w_geti hx hb hts (z_memU u12) hown hK.1 hS f12_36 (by decide) (zkd_of (rfl : zcd wR 0 = 50) rfl) (Or.inl (hts _ (z_mem k980))) dX12_skipAtom_173 ?_
              refine z_iconst hx hb dX12_skipAtom_176 ?_
              refine z_iadd hx hb dX12_skipAtom_177 ?_
              refine w_puti hx hb hts (z_memU u12) tyX12 tyX12_ok nmX12 hown hK.1 hS hS0 f12_36 (by decide) (zkd_of (rfl : zcd wR 0 = 50) rfl) (Or.inl (hts _ (z_mem k980))) rfl (z := ((M22 0 36) + 1)) (by decide +kernel) dX12_skipAtom_178 (fun H locs hS hS0 => ?_)
              obtain ⟨M31, e32⟩ : ∃ M31 : zM, M31 = zup M22 0 36 ((M22 0 36) + 1) := ⟨_, rfl⟩
              rw [← e32] at hS
              have h := h M31 e32
              refine z_iconst hx hb dX12_skipAtom_181 ?_
              exact w_zret hx hb hr hlocks hS hS0 (sI_of (by decide)) (by decide) h dX12_skipAtom_182
            · skip
              have h := h.2 c30
              refine lv_aload_n hx hb dX12_skipAtom_166 rfl (lv_at hl 0 rfl) ?_
              refine w_callz (va_runV (As := []) (rest := []) ⟨hx, hb, hml, hown, hts⟩ (cR_isWrong l D dA b M22  _ h) (cwV 0 hts (z_gV k1070 k1071 k1394 k14 k1072) rfl rfl rfl dm_X12_isWrong ⟨by simp only [z_rm, headSpec]; omega, by simp only [z_rm, headSpec]; omega⟩) ⟨wPre_blind, (w_recv hS hK.1 (by decide) (zkd_of (rfl : zcd wR 0 = 50) rfl) (by decide) (rfl : vwCl[12]? = some (RX12, TX12, 50))), w_pre hS hK⟩ rfl rfl hl.1 rfl (lv_room (Nat.le_of_ble_eq_true rfl)) dX12_skipAtom_167 ⟨Nat.le_refl _, Nat.le_refl _⟩) hS0 (fun z34 M33 H locs r35 h hS hS0 => ?_)
              exact w_zret hx hb hr hlocks hS hS0 (sI_01 r35) r35 h dX12_skipAtom_170
          · skip
            have h := h.2 c25
            refine z_iconst hx hb dX12_skipAtom_153 ?_
            exact w_zret hx hb hr hlocks hS hS0 (sI_of (by decide)) (by decide) h dX12_skipAtom_154
        · skip
          have h := h.2 c19
          refine lv_aload_n hx hb dX12_skipAtom_128 rfl (lv_at hl 0 rfl) ?_
          refine w_callz (va_runV (As := []) (rest := []) ⟨hx, hb, hml, hown, hts⟩ (cR_isWrong l D dA b M  _ h) (cwV 0 hts (z_gV k1070 k1071 k1394 k14 k1072) rfl rfl rfl dm_X12_isWrong ⟨by simp only [z_rm, headSpec]; omega, by simp only [z_rm, headSpec]; omega⟩) ⟨wPre_blind, (w_recv hS hK.1 (by decide) (zkd_of (rfl : zcd wR 0 = 50) rfl) (by decide) (rfl : vwCl[12]? = some (RX12, TX12, 50))), w_pre hS hK⟩ rfl rfl hl.1 rfl (lv_room (Nat.le_of_ble_eq_true rfl)) dX12_skipAtom_129 ⟨Nat.le_refl _, Nat.le_refl _⟩) hS0 (fun z37 M36 H locs r38 h hS hS0 => ?_)
          exact w_zret hx hb hr hlocks hS hS0 (sI_01 r38) r38 h dX12_skipAtom_132
    · skip
      have h := h.2 c10
      refine lv_aload_n hx hb dX12_skipAtom_34 rfl (lv_at hl 0 rfl) ?_
      refine lv_dup hx hb dX12_skipAtom_35 rfl ?_
      refine w_geti hx hb hts (z_memU u12) hown hK.1 hS f12_36 (by decide) (zkd_of (rfl : zcd wR 0 = 50) rfl) (Or.inl (hts _ (z_mem k980))) dX12_skipAtom_36 ?_
      refine z_iconst hx hb dX12_skipAtom_39 ?_
      refine z_iadd hx hb dX12_skipAtom_40 ?_
      refine w_puti hx hb hts (z_memU u12) tyX12 tyX12_ok nmX12 hown hK.1 hS hS0 f12_36 (by decide) (zkd_of (rfl : zcd wR 0 = 50) rfl) (Or.inl (hts _ (z_mem k980))) rfl (z := ((M 0 36) + 1)) (by decide +kernel) dX12_skipAtom_41 (fun H locs hS hS0 => ?_)
      obtain ⟨M39, e40⟩ : ∃ M39 : zM, M39 = zup M 0 36 ((M 0 36) + 1) := ⟨_, rfl⟩
      rw [← e40] at hS
      have h := h M39 e40
      refine lv_aload_n hx hb dX12_skipAtom_44 rfl (lv_at hl 0 rfl) ?_
      refine z_bipush hx hb (by decide) dX12_skipAtom_45 ?_
      refine z_bipush hx hb (by decide) dX12_skipAtom_47 ?_
      refine w_callz (va_runV (As := [.int (iI 49), .int (iI 57)]) (rest := []) ⟨hx, hb, hml, hown, hts⟩ (cR_has l D dA b M39 49 57 _ h) (cwV 2 hts (z_gV k1067 k1068 k1393 k14 k1069) rfl rfl rfl dm_X12_has ⟨by simp only [z_rm, headSpec]; omega, by simp only [z_rm, headSpec]; omega⟩) ⟨wPre_blind, (w_recv hS hK.1 (by decide) (zkd_of (rfl : zcd wR 0 = 50) rfl) (by decide) (rfl : vwCl[12]? = some (RX12, TX12, 50))), w_pre hS hK⟩ rfl rfl hl.1 rfl (lv_room (Nat.le_of_ble_eq_true rfl)) dX12_skipAtom_49 ⟨Nat.le_refl _, Nat.le_refl _⟩) hS0 (fun z42 M41 H locs r43 h hS hS0 => ?_)
      obtain ⟨e44, h⟩ := h
      rw [e44] at hS
      refine w_if_ne (tgt := 60) hx hb (sI_01 r43) dX12_skipAtom_52 (by decide) (fun c45 => ?_) (fun c45 => ?_)
      · skip
        have h := h.1 c45
        obtain ⟨I47, ⟨n48, h49⟩, h50⟩ := h
        have L51 : ∀ (n52 : Nat) (M46 : zM) (H : Heap) (locs : List Loc) (ls : Array Slot), I47 n52 M46 → zR D dA vwCl wR nR b M46 H → va_S (zA nR b) s.heap H locs → lv_has ls 2 [(0, .ref (b + 0))] → W p l e (headSpec (.code yX12_skipAtom cX12_skipAtom 2 (some .boolean) :: zt) (z_rm (dd + 1))).room s m args below meth c H locs 0 0 (MQ below (va_Qi (wQz Q) (zB D dA vwCl wR nR b) (zA nR b)) args s 0 0 (zA nR b)) (F0 m 60 ls []) := by
          intro n52
          induction n52 using Nat.strongRecOn with
          | ind n52 i53 =>
            intro M46 H locs ls h hS hS0 hl
            have h := h50 n52 M46 h
            refine lv_aload_n hx hb dX12_skipAtom_60 rfl (lv_at hl 0 rfl) ?_
            refine z_bipush hx hb (by decide) dX12_skipAtom_61 ?_
            refine z_bipush hx hb (by decide) dX12_skipAtom_63 ?_
            refine w_callz (va_runV (As := [.int (iI 49), .int (iI 57)]) (rest := []) ⟨hx, hb, hml, hown, hts⟩ (cR_has l D dA b M46 49 57 _ h) (cwV 2 hts (z_gV k1067 k1068 k1393 k14 k1069) rfl rfl rfl dm_X12_has ⟨by simp only [z_rm, headSpec]; omega, by simp only [z_rm, headSpec]; omega⟩) ⟨wPre_blind, (w_recv hS hK.1 (by decide) (zkd_of (rfl : zcd wR 0 = 50) rfl) (by decide) (rfl : vwCl[12]? = some (RX12, TX12, 50))), w_pre hS hK⟩ rfl rfl hl.1 rfl (lv_room (Nat.le_of_ble_eq_true rfl)) dX12_skipAtom_65 ⟨Nat.le_refl _, Nat.le_refl _⟩) hS0 (fun z55 M54 H locs r56 h hS hS0 => ?_)
            obtain ⟨e57, h⟩ := h
            rw [e57] at hS
            refine w_if_eq (tgt := 84) hx hb (sI_01 r56) dX12_skipAtom_68 (by decide) (fun c58 => ?_) (fun c58 => ?_)
            · skip
              have h := h.1 c58
              refine lv_aload_n hx hb dX12_skipAtom_84 rfl (lv_at hl 0 rfl) ?_
              refine z_bipush hx hb (by decide) dX12_skipAtom_85 ?_
              refine z_bipush hx hb (by decide) dX12_skipAtom_87 ?_
              refine w_callz (va_runV (As := [.int (iI 93), .int (iI 93)]) (rest := []) ⟨hx, hb, hml, hown, hts⟩ (cR_has l D dA b M46 93 93 _ h) (cwV 2 hts (z_gV k1067 k1068 k1393 k14 k1069) rfl rfl rfl dm_X12_has ⟨by simp only [z_rm, headSpec]; omega, by simp only [z_rm, headSpec]; omega⟩) ⟨wPre_blind, (w_recv hS hK.1 (by decide) (zkd_of (rfl : zcd wR 0 = 50) rfl) (by decide) (rfl : vwCl[12]? = some (RX12, TX12, 50))), w_pre hS hK⟩ rfl rfl hl.1 rfl (lv_room (Nat.le_of_ble_eq_true rfl)) dX12_skipAtom_89 ⟨Nat.le_refl _, Nat.le_refl _⟩) hS0 (fun z60 M59 H locs r61 h hS hS0 => ?_)
              obtain ⟨e62, h⟩ := h
              rw [e62] at hS
              refine w_if_ne (tgt := 100) hx hb (sI_01 r61) dX12_skipAtom_92 (by decide) (fun c63 => ?_) (fun c63 => ?_)
              · skip
                have h := h.1 c63
                refine lv_aload_n hx hb dX12_skipAtom_100 rfl (lv_at hl 0 rfl) ?_
                refine lv_dup hx hb dX12_skipAtom_101 rfl ?_
                refine w_geti hx hb hts (z_memU u12) hown hK.1 hS f12_36 (by decide) (zkd_of (rfl : zcd wR 0 = 50) rfl) (Or.inl (hts _ (z_mem k980))) dX12_skipAtom_102 ?_
                refine z_iconst hx hb dX12_skipAtom_105 ?_
                refine z_iadd hx hb dX12_skipAtom_106 ?_
                refine w_puti hx hb hts (z_memU u12) tyX12 tyX12_ok nmX12 hown hK.1 hS hS0 f12_36 (by decide) (zkd_of (rfl : zcd wR 0 = 50) rfl) (Or.inl (hts _ (z_mem k980))) rfl (z := ((M46 0 36) + 1)) (by decide +kernel) dX12_skipAtom_107 (fun H locs hS hS0 => ?_)
                obtain ⟨M64, e65⟩ : ∃ M64 : zM, M64 = zup M46 0 36 ((M46 0 36) + 1) := ⟨_, rfl⟩
                rw [← e65] at hS
                have h := h M64 e65
                refine z_iconst hx hb dX12_skipAtom_110 ?_
                exact w_zret hx hb hr hlocks hS hS0 (sI_of (by decide)) (by decide) h dX12_skipAtom_111
              · skip
                have h := h.2 c63
                refine lv_aload_n hx hb dX12_skipAtom_95 rfl (lv_at hl 0 rfl) ?_
                refine w_callz (va_runV (As := []) (rest := []) ⟨hx, hb, hml, hown, hts⟩ (cR_isWrong l D dA b M46  _ h) (cwV 0 hts (z_gV k1070 k1071 k1394 k14 k1072) rfl rfl rfl dm_X12_isWrong ⟨by simp only [z_rm, headSpec]; omega, by simp only [z_rm, headSpec]; omega⟩) ⟨wPre_blind, (w_recv hS hK.1 (by decide) (zkd_of (rfl : zcd wR 0 = 50) rfl) (by decide) (rfl : vwCl[12]? = some (RX12, TX12, 50))), w_pre hS hK⟩ rfl rfl hl.1 rfl (lv_room (Nat.le_of_ble_eq_true rfl)) dX12_skipAtom_96 ⟨Nat.le_refl _, Nat.le_refl _⟩) hS0 (fun z67 M66 H locs r68 h hS hS0 => ?_)
                exact w_zret hx hb hr hlocks hS hS0 (sI_01 r68) r68 h dX12_skipAtom_99
            · skip
              have h := h.2 c58
              refine lv_aload_n hx hb dX12_skipAtom_71 rfl (lv_at hl 0 rfl) ?_
              refine lv_dup hx hb dX12_skipAtom_72 rfl ?_
              refine w_geti hx hb hts (z_memU u12) hown hK.1 hS f12_36 (by decide) (zkd_of (rfl : zcd wR 0 = 50) rfl) (Or.inl (hts _ (z_mem k980))) dX12_skipAtom_73 ?_
              refine z_iconst hx hb dX12_skipAtom_76 ?_
              refine z_iadd hx hb dX12_skipAtom_77 ?_
              refine w_puti hx hb hts (z_memU u12) tyX12 tyX12_ok nmX12 hown hK.1 hS hS0 f12_36 (by decide) (zkd_of (rfl : zcd wR 0 = 50) rfl) (Or.inl (hts _ (z_mem k980))) rfl (z := ((M46 0 36) + 1)) (by decide +kernel) dX12_skipAtom_78 (fun H locs hS hS0 => ?_)
              obtain ⟨M69, e70⟩ : ∃ M69 : zM, M69 = zup M46 0 36 ((M46 0 36) + 1) := ⟨_, rfl⟩
              rw [← e70] at hS
              have h := h M69 e70
              refine lv_goto (tgt := 60) hx hb dX12_skipAtom_81 (by decide) ?_
              obtain ⟨n71, h72, h⟩ := h
              exact i53 n71 h72 M69 _ _ _ h hS hS0 (lv_sub hl [0] rfl)
        exact L51 n48 M39 _ _ _ h49 hS hS0 (lv_sub hl [0] rfl)
      · skip
        have h := h.2 c45
        refine lv_aload_n hx hb dX12_skipAtom_55 rfl (lv_at hl 0 rfl) ?_
        refine w_callz (va_runV (As := []) (rest := []) ⟨hx, hb, hml, hown, hts⟩ (cR_isWrong l D dA b M39  _ h) (cwV 0 hts (z_gV k1070 k1071 k1394 k14 k1072) rfl rfl rfl dm_X12_isWrong ⟨by simp only [z_rm, headSpec]; omega, by simp only [z_rm, headSpec]; omega⟩) ⟨wPre_blind, (w_recv hS hK.1 (by decide) (zkd_of (rfl : zcd wR 0 = 50) rfl) (by decide) (rfl : vwCl[12]? = some (RX12, TX12, 50))), w_pre hS hK⟩ rfl rfl hl.1 rfl (lv_room (Nat.le_of_ble_eq_true rfl)) dX12_skipAtom_56 ⟨Nat.le_refl _, Nat.le_refl _⟩) hS0 (fun z74 M73 H locs r75 h hS hS0 => ?_)
        exact w_zret hx hb hr hlocks hS hS0 (sI_01 r75) r75 h dX12_skipAtom_59
  · skip
    have h := h.2 c5
    refine lv_aload_n hx hb dX12_skipAtom_11 rfl (lv_at hl 0 rfl) ?_
    refine lv_dup hx hb dX12_skipAtom_12 rfl ?_
    refine w_geti hx hb hts (z_memU u12) hown hK.1 hS f12_36 (by decide) (zkd_of (rfl : zcd wR 0 = 50) rfl) (Or.inl (hts _ (z_mem k980))) dX12_skipAtom_13 ?_
    refine z_iconst hx hb dX12_skipAtom_16 ?_
    refine z_iadd hx hb dX12_skipAtom_17 ?_
    refine w_puti hx hb hts (z_memU u12) tyX12 tyX12_ok nmX12 hown hK.1 hS hS0 f12_36 (by decide) (zkd_of (rfl : zcd wR 0 = 50) rfl) (Or.inl (hts _ (z_mem k980))) rfl (z := ((M 0 36) + 1)) (by decide +kernel) dX12_skipAtom_18 (fun H locs hS hS0 => ?_)
    obtain ⟨M76, e77⟩ : ∃ M76 : zM, M76 = zup M 0 36 ((M 0 36) + 1) := ⟨_, rfl⟩
    rw [← e77] at hS
    have h := h M76 e77
    refine z_iconst hx hb dX12_skipAtom_21 ?_
    exact w_zret hx hb hr hlocks hS hS0 (sI_of (by decide)) (by decide) h dX12_skipAtom_22

def wR_skipRow : Nat → Int → zM → (Int → zM → Prop) → Prop
  | 0 => fun _ _ _ => False
  | n + 1 => wR_skipRow_F (wR_skipTerm_F (wR_skipAtom_F (wR_skipRow n)))
set_option maxHeartbeats 4000000 in
set_option maxRecDepth 100000 in
theorem cR_skipRow (n : Nat) (l : Launch) (D : va_G) (dA : Nat → ClassId) : ∀ (b : Nat) (M : zM) (a0 : Int)  (Q : Int → zM → Prop), wR_skipRow n a0 M Q → Met l yX12_skipRow (.code yX12_skipRow cX12_skipRow 2 (some .boolean) :: zt) (z_rm (3 * n + 1)) (va_Pc [.ref (b + 0), .int (iI a0)] (wPre D dA vwCl (z_tys dA) wR nR b M)) (va_Qi (wQz Q) (zB D dA vwCl wR nR b) (zA nR b)) 0 0 (zA nR b) := by
  induction n with
  | zero => intro b M a0  Q h; exact h.elim
  | succ n ih =>
    intro b M a0  Q h
    rw [show 3 * (n + 1) + 1 = 3 * n + 1 + 2 + 1 from by omega]
    exact cR_skipRow_F (3 * n + 1 + 2) _ l D dA (by omega) (fun b M a0  Q h => cR_skipTerm_F (3 * n + 1 + 1) _ l D dA (by omega) (fun b M a0  Q h => cR_skipAtom_F (3 * n + 1) _ l D dA (by omega) ih b M a0  Q h) b M a0  Q h) b M a0  Q h

set_option maxRecDepth 100000 in
def wR_makeRow_F (R9 : Int → zM → (Int → zM → Prop) → Prop) (a0 : Int) (M : zM) (Q : Int → zM → Prop) : Prop := R9 a0 M (fun z2 M1 => (0 ≤ z2 → ((0 ≤ (sI a0) ∧ (sI a0) < 6) ∧ ((0 ≤ (sI a0) ∧ (sI a0) < 6) ∧ (∀ M7 : zM, M7 = zup M1 24 (sI a0).toNat (M1 26 (sI a0).toNat) → wL1 (fun K26 x9 M10 => ((0 ≤ (sI a0) ∧ (sI a0) < 6) ∧ ((sI (M10 26 (sI a0).toNat)) ≤ (sI x9) → wL0 (fun K64 M20 => wR_has 47 47 M20 (fun z29 => pJ0 (fun J108 => (z29 ≠ 0 → J108) ∧ (z29 = 0 → wR_has 48 57 M20 (fun z115 => (z115 ≠ 0 → J108) ∧ (z115 = 0 → wR_has 91 91 M20 (fun z120 => (z120 ≠ 0 → J108) ∧ (z120 = 0 → wR_has 40 40 M20 (fun z125 => (z125 = 0 → Q 0 M20) ∧ (z125 ≠ 0 → J108)))))))) (wR_has 47 47 M20 (fun z51 => wJ1 (fun J146 => (z51 = 0 → J146 0 M20) ∧ (z51 ≠ 0 → ((0 ≤ (sI ((M20 0 36) + 1)) ∧ (sI ((M20 0 36) + 1)) < 100) ∧ (∀ t109 : Int, t109 = ((M20 1 (sI ((M20 0 36) + 1)).toNat) - 48) → (∀ M111 : zM, M111 = zup M20 0 36 ((M20 0 36) + 2) → J146 t109 M111))))) (fun (x60 : Int) (M61 : zM) => R9 a0 M61 (fun z65 M64 => (0 ≤ z65 → ((0 ≤ (sI a0) ∧ (sI a0) < 6) ∧ ((sI (M64 24 (sI a0).toNat)) < (sI x60) → Q (-101) M64) ∧ ((sI x60) ≤ (sI (M64 24 (sI a0).toNat)) → ((0 ≤ (sI a0) ∧ (sI a0) < 6) ∧ ((sI x60) ≤ (sI (M64 26 (sI a0).toNat)) → ((0 ≤ (sI a0) ∧ (sI a0) < 6) ∧ ((0 ≤ (sI a0) ∧ (sI a0) < 6) ∧ ((sI (((M64 24 (sI a0).toNat) - x60) + (M64 26 (sI a0).toNat))) ≤ 24 → wL1 (fun K211 x75 M76 => ((0 ≤ (sI a0) ∧ (sI a0) < 6) ∧ ((sI (M76 26 (sI a0).toNat)) ≤ (sI x75) → ((0 ≤ (sI a0) ∧ (sI a0) < 6) ∧ ((0 ≤ (sI a0) ∧ (sI a0) < 6) ∧ (∀ M88 : zM, M88 = zup M76 24 (sI a0).toNat (((M64 24 (sI a0).toNat) - x60) + (M76 26 (sI a0).toNat)) → K64 M88)))) ∧ ((sI x75) < (sI (M76 26 (sI a0).toNat)) → (∀ t92 : Int, t92 = (((24 * a0) + ((M64 24 (sI a0).toNat) - x60)) + x75) → ((0 ≤ (sI ((24 * a0) + x75)) ∧ (sI ((24 * a0) + x75)) < 144) ∧ ((sI x60) ≤ (sI x75) → ((0 ≤ (sI t92) ∧ (sI t92) < 144) ∧ (∀ M97 : zM, M97 = zup M76 23 (sI t92).toNat (orI (M76 25 (sI ((24 * a0) + x75)).toNat) 0) → K211 (x75 + 1) M97))) ∧ ((sI x75) < (sI x60) → ((0 ≤ (sI t92) ∧ (sI t92) < 144) ∧ ((0 ≤ (sI t92) ∧ (sI t92) < 144) ∧ (∀ M103 : zM, M103 = zup M76 23 (sI t92).toNat (orI (M76 25 (sI ((24 * a0) + x75)).toNat) (M76 23 (sI t92).toNat)) → K211 (x75 + 1) M103))))))))) 0 M64) ∧ (24 < (sI (((M64 24 (sI a0).toNat) - x60) + (M64 26 (sI a0).toNat))) → Q (-100) M64)))) ∧ ((sI (M64 26 (sI a0).toNat)) < (sI x60) → Q (-101) M64))))) ∧ (z65 < 0 → Q z65 M64))))))) M10) ∧ ((sI x9) < (sI (M10 26 (sI a0).toNat)) → ((0 ≤ (sI ((24 * a0) + x9)) ∧ (sI ((24 * a0) + x9)) < 144) ∧ ((0 ≤ (sI ((24 * a0) + x9)) ∧ (sI ((24 * a0) + x9)) < 144) ∧ (∀ M131 : zM, M131 = zup M10 23 (sI ((24 * a0) + x9)).toNat (M10 25 (sI ((24 * a0) + x9)).toNat) → K26 (x9 + 1) M131)))))) 0 M7)))) ∧ (z2 < 0 → Q z2 M1))
set_option maxHeartbeats 4000000 in
set_option maxRecDepth 100000 in
theorem cR_makeRow_F (dd : Nat) (R9 : Int → zM → (Int → zM → Prop) → Prop) (l : Launch) (D : va_G) (dA : Nat → ClassId) (hdd : 1 ≤ dd) (hrec : ∀ (b : Nat) (M : zM) (a0 : Int)  (Q : Int → zM → Prop), R9 a0 M Q → Met l yX12_makeTerm (.code yX12_makeTerm cX12_makeTerm 6 (some .int) :: zt) (z_rm dd) (va_Pc [.ref (b + 0), .int (iI a0)] (wPre D dA vwCl (z_tys dA) wR nR b M)) (va_Qi (wQi Q) (zB D dA vwCl wR nR b) (zA nR b)) 0 0 (zA nR b)) (b : Nat) (M : zM) (a0 : Int)  (Q : Int → zM → Prop) (h : wR_makeRow_F R9 a0 M Q) : Met l yX12_makeRow (.code yX12_makeRow cX12_makeRow 7 (some .int) :: zt) (z_rm (dd + 1)) (va_Pc [.ref (b + 0), .int (iI a0)] (wPre D dA vwCl (z_tys dA) wR nR b M)) (va_Qi (wQi Q) (zB D dA vwCl wR nR b) (zA nR b)) 0 0 (zA nR b) := by
  unfold wR_makeRow_F at h
  refine Met.ofW (cc := cX12_makeRow) (maxL := 7) (ret := (some .int)) (by decide) rfl ?_
  intro p e s m args below meth c s₁ B hml hv
  obtain ⟨hargs, hS, hK⟩ := hv
  have hx := B.exec
  have hb := B.bytes
  have hr := B.returns
  have hts := atoms_spec (ws := .code yX12_makeRow cX12_makeRow 7 (some .int) :: zt) B.pre
  have hown : s.vm.findClass RX12 = some m.cls := findClass_of_methodNamed B.named
  have hlocks := B.notSynchronized
  have hS0 : va_S (zA nR b) s.heap s.heap [] := va_S.rf
  have hl := lv_entry ([.ref (b + 0), .int (iI a0)]) (n := 7) (Nat.le_of_ble_eq_true rfl)
  have hent : entryFrame m args 7 = F0 m 0 ((lg_sl ([.ref (b + 0), .int (iI a0)]) ++ List.replicate (7 - (lg_sl ([.ref (b + 0), .int (iI a0)])).length) Slot.unset).toArray) [] := by rw [hargs]; exact lg_entry_eq m ([.ref (b + 0), .int (iI a0)]) 7
  rw [hent]
  generalize (lg_sl ([.ref (b + 0), .int (iI a0)]) ++ List.replicate (7 - (lg_sl ([.ref (b + 0), .int (iI a0)])).length) Slot.unset).toArray = ls at hl ⊢
  have hl : lv_has ls 7 [(0, .ref (b + 0)), (1, .int (iI a0))] := hl
  refine lv_aload_n hx hb dX12_makeRow_0 rfl (lv_at hl 0 rfl) ?_
  refine lv_iload_n hx hb dX12_makeRow_1 rfl (lv_at hl 1 rfl) ?_
  refine w_calli (va_runV (As := [.int (iI a0)]) (rest := []) ⟨hx, hb, hml, hown, hts⟩ (hrec b M a0 _ h) (cwV 1 hts (z_gV k1076 k1077 k1396 k14 k1078) rfl rfl rfl dm_X12_makeTerm ⟨by simp only [z_rm, headSpec]; omega, by simp only [z_rm, headSpec]; omega⟩) ⟨wPre_blind, (w_recv hS hK.1 (by decide) (zkd_of (rfl : zcd wR 0 = 50) rfl) (by decide) (rfl : vwCl[12]? = some (RX12, TX12, 50))), w_pre hS hK⟩ rfl rfl hl.1 rfl (lv_room (Nat.le_of_ble_eq_true rfl)) dX12_makeRow_2 ⟨Nat.le_refl _, Nat.le_refl _⟩) hS0 (fun z2 M1 H locs r3 h hS hS0 => ?_)
  refine lv_istore_n (lv' := [(2, .int (iI z2)), (0, .ref (b + 0)), (1, .int (iI a0))]) hx hb dX12_makeRow_5 rfl hl (by decide) rfl (fun ls hl => ?_)
  refine lv_iload_n hx hb dX12_makeRow_6 rfl (lv_at hl 0 rfl) ?_
  refine w_if_ge (tgt := 12) hx hb (sI_of r3) dX12_makeRow_7 (by decide) (fun c4 => ?_) (fun c4 => ?_)
  · skip
    have h := h.1 c4
    refine lv_aload_n hx hb dX12_makeRow_12 rfl (lv_at hl 1 rfl) ?_
    refine w_getr (j2 := 24) hx hb hts (z_memU u12) hown hK.1 hS f12_39 (by decide) (zkd_of (rfl : zcd wR 0 = 50) rfl) (zrf_of (rfl : zcd wR 0 = 50) rfl) (Or.inl (hts _ (z_mem k983))) dX12_makeRow_13 ?_
    refine lv_iload_n hx hb dX12_makeRow_16 rfl (lv_at hl 2 rfl) ?_
    refine lv_aload_n hx hb dX12_makeRow_17 rfl (lv_at hl 1 rfl) ?_
    refine w_getr (j2 := 26) hx hb hts (z_memU u12) hown hK.1 hS f12_41 (by decide) (zkd_of (rfl : zcd wR 0 = 50) rfl) (zrf_of (rfl : zcd wR 0 = 50) rfl) (Or.inl (hts _ (z_mem k985))) dX12_makeRow_18 ?_
    refine lv_iload_n hx hb dX12_makeRow_21 rfl (lv_at hl 2 rfl) ?_
    obtain ⟨o5, h⟩ := h
    refine w_iald (n := 6) (i := (sI a0)) hx hb hK.1 (t0 := 0) rfl hS (by decide) (zkd_of (rfl : zcd wR 26 = 76) rfl) (zln_of (rfl : zcd wR 26 = 76) rfl) rfl o5.1 o5.2 (by decide) dX12_makeRow_22 ?_
    obtain ⟨o6, h⟩ := h
    refine w_iast (z := (M1 26 (sI a0).toNat)) (n := 6) (i := (sI a0)) hx hb hK.1 (t0 := 0) rfl hS hS0 (by decide) (zkd_of (rfl : zcd wR 24 = 74) rfl) (zln_of (rfl : zcd wR 24 = 74) rfl) rfl o6.1 o6.2 (by decide) dX12_makeRow_23 (fun H locs hS hS0 => ?_)
    obtain ⟨M7, e8⟩ : ∃ M7 : zM, M7 = zup M1 24 (sI a0).toNat (M1 26 (sI a0).toNat) := ⟨_, rfl⟩
    rw [← e8] at hS
    have h := h M7 e8
    refine z_iconst hx hb dX12_makeRow_24 ?_
    refine lv_istore_n (lv' := [(3, .int (iI 0)), (2, .int (iI z2)), (0, .ref (b + 0)), (1, .int (iI a0))]) hx hb dX12_makeRow_25 rfl hl (by decide) rfl (fun ls hl => ?_)
    obtain ⟨I11, ⟨n12, h13⟩, h14⟩ := h
    have L15 : ∀ (n16 : Nat) (x9 : Int) (M10 : zM) (H : Heap) (locs : List Loc) (ls : Array Slot), I11 n16 x9 M10 → zR D dA vwCl wR nR b M10 H → va_S (zA nR b) s.heap H locs → lv_has ls 7 [(0, .ref (b + 0)), (1, .int (iI a0)), (3, .int (iI x9))] → W p l e (headSpec (.code yX12_makeRow cX12_makeRow 7 (some .int) :: zt) (z_rm (dd + 1))).room s m args below meth c H locs 0 0 (MQ below (va_Qi (wQi Q) (zB D dA vwCl wR nR b) (zA nR b)) args s 0 0 (zA nR b)) (F0 m 26 ls []) := by
      intro n16
      induction n16 using Nat.strongRecOn with
      | ind n16 i17 =>
        intro x9 M10 H locs ls h hS hS0 hl
        have h := h14 n16 x9 M10 h
        refine lv_iload_n hx hb dX12_makeRow_26 rfl (lv_at hl 2 rfl) ?_
        refine lv_aload_n hx hb dX12_makeRow_27 rfl (lv_at hl 0 rfl) ?_
        refine w_getr (j2 := 26) hx hb hts (z_memU u12) hown hK.1 hS f12_41 (by decide) (zkd_of (rfl : zcd wR 0 = 50) rfl) (zrf_of (rfl : zcd wR 0 = 50) rfl) (Or.inl (hts _ (z_mem k985))) dX12_makeRow_28 ?_
        refine lv_iload_n hx hb dX12_makeRow_31 rfl (lv_at hl 1 rfl) ?_
        obtain ⟨o18, h⟩ := h
        refine w_iald (n := 6) (i := (sI a0)) hx hb hK.1 (t0 := 0) rfl hS (by decide) (zkd_of (rfl : zcd wR 26 = 76) rfl) (zln_of (rfl : zcd wR 26 = 76) rfl) rfl o18.1 o18.2 (by decide) dX12_makeRow_32 ?_
        refine w_icmp_ge (tgt := 64) hx hb rfl rfl dX12_makeRow_33 (by decide) (fun c19 => ?_) (fun c19 => ?_)
        · skip
          have h := h.1 c19
          obtain ⟨I21, ⟨n22, h23⟩, h24⟩ := h
          have L25 : ∀ (n26 : Nat) (M20 : zM) (H : Heap) (locs : List Loc) (ls : Array Slot), I21 n26 M20 → zR D dA vwCl wR nR b M20 H → va_S (zA nR b) s.heap H locs → lv_has ls 7 [(0, .ref (b + 0)), (1, .int (iI a0))] → W p l e (headSpec (.code yX12_makeRow cX12_makeRow 7 (some .int) :: zt) (z_rm (dd + 1))).room s m args below meth c H locs 0 0 (MQ below (va_Qi (wQi Q) (zB D dA vwCl wR nR b) (zA nR b)) args s 0 0 (zA nR b)) (F0 m 64 ls []) := by
            intro n26
            induction n26 using Nat.strongRecOn with
            | ind n26 i27 =>
              intro M20 H locs ls h hS hS0 hl
              have h := h24 n26 M20 h
              refine lv_aload_n hx hb dX12_makeRow_64 rfl (lv_at hl 0 rfl) ?_
              refine z_bipush hx hb (by decide) dX12_makeRow_65 ?_
              refine z_bipush hx hb (by decide) dX12_makeRow_67 ?_
              refine w_callz (va_runV (As := [.int (iI 47), .int (iI 47)]) (rest := []) ⟨hx, hb, hml, hown, hts⟩ (cR_has l D dA b M20 47 47 _ h) (cwV 2 hts (z_gV k1067 k1068 k1393 k14 k1069) rfl rfl rfl dm_X12_has ⟨by simp only [z_rm, headSpec]; omega, by simp only [z_rm, headSpec]; omega⟩) ⟨wPre_blind, (w_recv hS hK.1 (by decide) (zkd_of (rfl : zcd wR 0 = 50) rfl) (by decide) (rfl : vwCl[12]? = some (RX12, TX12, 50))), w_pre hS hK⟩ rfl rfl hl.1 rfl (lv_room (Nat.le_of_ble_eq_true rfl)) dX12_makeRow_69 ⟨Nat.le_refl _, Nat.le_refl _⟩) hS0 (fun z29 M28 H locs r30 h hS hS0 => ?_)
              obtain ⟨e31, h⟩ := h
              rw [e31] at hS
              obtain ⟨J108, B49, h⟩ := h
              have L48 : ∀ (H : Heap) (locs : List Loc) (ls : Array Slot), J108 → zR D dA vwCl wR nR b M20 H → va_S (zA nR b) s.heap H locs → lv_has ls 7 [(0, .ref (b + 0)), (1, .int (iI a0))] → W p l e (headSpec (.code yX12_makeRow cX12_makeRow 7 (some .int) :: zt) (z_rm (dd + 1))).room s m args below meth c H locs 0 0 (MQ below (va_Qi (wQi Q) (zB D dA vwCl wR nR b) (zA nR b)) args s 0 0 (zA nR b)) (F0 m 108 ls []) := by
                intro  H locs ls h hS hS0 hl
                have h := B49 h
                refine z_iconst hx hb dX12_makeRow_108 ?_
                refine lv_istore_n (lv' := [(3, .int (iI 0)), (0, .ref (b + 0)), (1, .int (iI a0))]) hx hb dX12_makeRow_109 rfl hl (by decide) rfl (fun ls hl => ?_)
                refine lv_aload_n hx hb dX12_makeRow_110 rfl (lv_at hl 1 rfl) ?_
                refine z_bipush hx hb (by decide) dX12_makeRow_111 ?_
                refine z_bipush hx hb (by decide) dX12_makeRow_113 ?_
                refine w_callz (va_runV (As := [.int (iI 47), .int (iI 47)]) (rest := []) ⟨hx, hb, hml, hown, hts⟩ (cR_has l D dA b M20 47 47 _ h) (cwV 2 hts (z_gV k1067 k1068 k1393 k14 k1069) rfl rfl rfl dm_X12_has ⟨by simp only [z_rm, headSpec]; omega, by simp only [z_rm, headSpec]; omega⟩) ⟨wPre_blind, (w_recv hS hK.1 (by decide) (zkd_of (rfl : zcd wR 0 = 50) rfl) (by decide) (rfl : vwCl[12]? = some (RX12, TX12, 50))), w_pre hS hK⟩ rfl rfl hl.1 rfl (lv_room (Nat.le_of_ble_eq_true rfl)) dX12_makeRow_115 ⟨Nat.le_refl _, Nat.le_refl _⟩) hS0 (fun z51 M50 H locs r52 h hS hS0 => ?_)
                obtain ⟨e53, h⟩ := h
                rw [e53] at hS
                obtain ⟨J146, B63, h⟩ := h
                have L62 : ∀ (x60 : Int) (M61 : zM) (H : Heap) (locs : List Loc) (ls : Array Slot), J146 x60 M61 → zR D dA vwCl wR nR b M61 H → va_S (zA nR b) s.heap H locs → lv_has ls 7 [(0, .ref (b + 0)), (1, .int (iI a0)), (3, .int (iI x60))] → W p l e (headSpec (.code yX12_makeRow cX12_makeRow 7 (some .int) :: zt) (z_rm (dd + 1))).room s m args below meth c H locs 0 0 (MQ below (va_Qi (wQi Q) (zB D dA vwCl wR nR b) (zA nR b)) args s 0 0 (zA nR b)) (F0 m 146 ls []) := by
                  intro x60 M61 H locs ls h hS hS0 hl
                  have h := B63 x60 M61 h
                  refine lv_aload_n hx hb dX12_makeRow_146 rfl (lv_at hl 0 rfl) ?_
                  refine lv_iload_n hx hb dX12_makeRow_147 rfl (lv_at hl 1 rfl) ?_
                  refine w_calli (va_runV (As := [.int (iI a0)]) (rest := []) ⟨hx, hb, hml, hown, hts⟩ (hrec b M61 a0 _ h) (cwV 1 hts (z_gV k1076 k1077 k1396 k14 k1078) rfl rfl rfl dm_X12_makeTerm ⟨by simp only [z_rm, headSpec]; omega, by simp only [z_rm, headSpec]; omega⟩) ⟨wPre_blind, (w_recv hS hK.1 (by decide) (zkd_of (rfl : zcd wR 0 = 50) rfl) (by decide) (rfl : vwCl[12]? = some (RX12, TX12, 50))), w_pre hS hK⟩ rfl rfl hl.1 rfl (lv_room (Nat.le_of_ble_eq_true rfl)) dX12_makeRow_148 ⟨Nat.le_refl _, Nat.le_refl _⟩) hS0 (fun z65 M64 H locs r66 h hS hS0 => ?_)
                  refine lv_istore_n (lv' := [(2, .int (iI z65)), (0, .ref (b + 0)), (1, .int (iI a0)), (3, .int (iI x60))]) hx hb dX12_makeRow_151 rfl hl (by decide) rfl (fun ls hl => ?_)
                  refine lv_iload_n hx hb dX12_makeRow_152 rfl (lv_at hl 0 rfl) ?_
                  refine w_if_ge (tgt := 158) hx hb (sI_of r66) dX12_makeRow_153 (by decide) (fun c67 => ?_) (fun c67 => ?_)
                  · skip
                    have h := h.1 c67
                    refine lv_iload_n hx hb dX12_makeRow_158 rfl (lv_at hl 3 rfl) ?_
                    refine lv_aload_n hx hb dX12_makeRow_159 rfl (lv_at hl 1 rfl) ?_
                    refine w_getr (j2 := 24) hx hb hts (z_memU u12) hown hK.1 hS f12_39 (by decide) (zkd_of (rfl : zcd wR 0 = 50) rfl) (zrf_of (rfl : zcd wR 0 = 50) rfl) (Or.inl (hts _ (z_mem k983))) dX12_makeRow_160 ?_
                    refine lv_iload_n hx hb dX12_makeRow_163 rfl (lv_at hl 2 rfl) ?_
                    obtain ⟨o68, h⟩ := h
                    refine w_iald (n := 6) (i := (sI a0)) hx hb hK.1 (t0 := 0) rfl hS (by decide) (zkd_of (rfl : zcd wR 24 = 74) rfl) (zln_of (rfl : zcd wR 24 = 74) rfl) rfl o68.1 o68.2 (by decide) dX12_makeRow_164 ?_
                    refine w_icmp_gt (tgt := 178) hx hb rfl rfl dX12_makeRow_165 (by decide) (fun c69 => ?_) (fun c69 => ?_)
                    · skip
                      have h := h.1 c69
                      refine z_bipush hx hb (by decide) dX12_makeRow_178 ?_
                      exact w_iret hx hb hr hlocks hS hS0 (sI_of (by decide)) h dX12_makeRow_180
                    · skip
                      have h := h.2 c69
                      refine lv_iload_n hx hb dX12_makeRow_168 rfl (lv_at hl 3 rfl) ?_
                      refine lv_aload_n hx hb dX12_makeRow_169 rfl (lv_at hl 1 rfl) ?_
                      refine w_getr (j2 := 26) hx hb hts (z_memU u12) hown hK.1 hS f12_41 (by decide) (zkd_of (rfl : zcd wR 0 = 50) rfl) (zrf_of (rfl : zcd wR 0 = 50) rfl) (Or.inl (hts _ (z_mem k985))) dX12_makeRow_170 ?_
                      refine lv_iload_n hx hb dX12_makeRow_173 rfl (lv_at hl 2 rfl) ?_
                      obtain ⟨o70, h⟩ := h
                      refine w_iald (n := 6) (i := (sI a0)) hx hb hK.1 (t0 := 0) rfl hS (by decide) (zkd_of (rfl : zcd wR 26 = 76) rfl) (zln_of (rfl : zcd wR 26 = 76) rfl) rfl o70.1 o70.2 (by decide) dX12_makeRow_174 ?_
                      refine w_icmp_le (tgt := 181) hx hb rfl rfl dX12_makeRow_175 (by decide) (fun c71 => ?_) (fun c71 => ?_)
                      · skip
                        have h := h.1 c71
                        refine lv_aload_n hx hb dX12_makeRow_181 rfl (lv_at hl 1 rfl) ?_
                        refine w_getr (j2 := 24) hx hb hts (z_memU u12) hown hK.1 hS f12_39 (by decide) (zkd_of (rfl : zcd wR 0 = 50) rfl) (zrf_of (rfl : zcd wR 0 = 50) rfl) (Or.inl (hts _ (z_mem k983))) dX12_makeRow_182 ?_
                        refine lv_iload_n hx hb dX12_makeRow_185 rfl (lv_at hl 2 rfl) ?_
                        obtain ⟨o72, h⟩ := h
                        refine w_iald (n := 6) (i := (sI a0)) hx hb hK.1 (t0 := 0) rfl hS (by decide) (zkd_of (rfl : zcd wR 24 = 74) rfl) (zln_of (rfl : zcd wR 24 = 74) rfl) rfl o72.1 o72.2 (by decide) dX12_makeRow_186 ?_
                        refine lv_iload_n hx hb dX12_makeRow_187 rfl (lv_at hl 3 rfl) ?_
                        refine z_isub hx hb dX12_makeRow_188 ?_
                        refine lv_istore (lv' := [(4, .int (iI ((M64 24 (sI a0).toNat) - x60))), (2, .int (iI z65)), (0, .ref (b + 0)), (1, .int (iI a0)), (3, .int (iI x60))]) hx hb dX12_makeRow_189 hl (by decide) rfl (fun ls hl => ?_)
                        refine lv_iload hx hb dX12_makeRow_191 (lv_at hl 0 rfl) ?_
                        refine lv_aload_n hx hb dX12_makeRow_193 rfl (lv_at hl 2 rfl) ?_
                        refine w_getr (j2 := 26) hx hb hts (z_memU u12) hown hK.1 hS f12_41 (by decide) (zkd_of (rfl : zcd wR 0 = 50) rfl) (zrf_of (rfl : zcd wR 0 = 50) rfl) (Or.inl (hts _ (z_mem k985))) dX12_makeRow_194 ?_
                        refine lv_iload_n hx hb dX12_makeRow_197 rfl (lv_at hl 3 rfl) ?_
                        obtain ⟨o73, h⟩ := h
                        refine w_iald (n := 6) (i := (sI a0)) hx hb hK.1 (t0 := 0) rfl hS (by decide) (zkd_of (rfl : zcd wR 26 = 76) rfl) (zln_of (rfl : zcd wR 26 = 76) rfl) rfl o73.1 o73.2 (by decide) dX12_makeRow_198 ?_
                        refine z_iadd hx hb dX12_makeRow_199 ?_
                        refine z_bipush hx hb (by decide) dX12_makeRow_200 ?_
                        refine w_icmp_le (tgt := 208) hx hb rfl (sI_of (by decide)) dX12_makeRow_202 (by decide) (fun c74 => ?_) (fun c74 => ?_)
                        · skip
                          have h := h.1 c74
                          refine z_iconst hx hb dX12_makeRow_208 ?_
                          refine lv_istore (lv' := [(5, .int (iI 0)), (4, .int (iI ((M64 24 (sI a0).toNat) - x60))), (2, .int (iI z65)), (0, .ref (b + 0)), (1, .int (iI a0)), (3, .int (iI x60))]) hx hb dX12_makeRow_209 hl (by decide) rfl (fun ls hl => ?_)
                          obtain ⟨I77, ⟨n78, h79⟩, h80⟩ := h
                          have L81 : ∀ (n82 : Nat) (x75 : Int) (M76 : zM) (H : Heap) (locs : List Loc) (ls : Array Slot), I77 n82 x75 M76 → zR D dA vwCl wR nR b M76 H → va_S (zA nR b) s.heap H locs → lv_has ls 7 [(0, .ref (b + 0)), (1, .int (iI a0)), (3, .int (iI x60)), (4, .int (iI ((M64 24 (sI a0).toNat) - x60))), (5, .int (iI x75))] → W p l e (headSpec (.code yX12_makeRow cX12_makeRow 7 (some .int) :: zt) (z_rm (dd + 1))).room s m args below meth c H locs 0 0 (MQ below (va_Qi (wQi Q) (zB D dA vwCl wR nR b) (zA nR b)) args s 0 0 (zA nR b)) (F0 m 211 ls []) := by
                            intro n82
                            induction n82 using Nat.strongRecOn with
                            | ind n82 i83 =>
                              intro x75 M76 H locs ls h hS hS0 hl
                              have h := h80 n82 x75 M76 h
                              refine lv_iload hx hb dX12_makeRow_211 (lv_at hl 4 rfl) ?_
                              refine lv_aload_n hx hb dX12_makeRow_213 rfl (lv_at hl 0 rfl) ?_
                              refine w_getr (j2 := 26) hx hb hts (z_memU u12) hown hK.1 hS f12_41 (by decide) (zkd_of (rfl : zcd wR 0 = 50) rfl) (zrf_of (rfl : zcd wR 0 = 50) rfl) (Or.inl (hts _ (z_mem k985))) dX12_makeRow_214 ?_
                              refine lv_iload_n hx hb dX12_makeRow_217 rfl (lv_at hl 1 rfl) ?_
                              obtain ⟨o84, h⟩ := h
                              refine w_iald (n := 6) (i := (sI a0)) hx hb hK.1 (t0 := 0) rfl hS (by decide) (zkd_of (rfl : zcd wR 26 = 76) rfl) (zln_of (rfl : zcd wR 26 = 76) rfl) rfl o84.1 o84.2 (by decide) dX12_makeRow_218 ?_
                              refine w_icmp_ge (tgt := 277) hx hb rfl rfl dX12_makeRow_219 (by decide) (fun c85 => ?_) (fun c85 => ?_)
                              · skip
                                have h := h.1 c85
                                refine lv_aload_n hx hb dX12_makeRow_277 rfl (lv_at hl 0 rfl) ?_
                                refine w_getr (j2 := 24) hx hb hts (z_memU u12) hown hK.1 hS f12_39 (by decide) (zkd_of (rfl : zcd wR 0 = 50) rfl) (zrf_of (rfl : zcd wR 0 = 50) rfl) (Or.inl (hts _ (z_mem k983))) dX12_makeRow_278 ?_
                                refine lv_iload_n hx hb dX12_makeRow_281 rfl (lv_at hl 1 rfl) ?_
                                refine lv_iload hx hb dX12_makeRow_282 (lv_at hl 3 rfl) ?_
                                refine lv_aload_n hx hb dX12_makeRow_284 rfl (lv_at hl 0 rfl) ?_
                                refine w_getr (j2 := 26) hx hb hts (z_memU u12) hown hK.1 hS f12_41 (by decide) (zkd_of (rfl : zcd wR 0 = 50) rfl) (zrf_of (rfl : zcd wR 0 = 50) rfl) (Or.inl (hts _ (z_mem k985))) dX12_makeRow_285 ?_
                                refine lv_iload_n hx hb dX12_makeRow_288 rfl (lv_at hl 1 rfl) ?_
                                obtain ⟨o86, h⟩ := h
                                refine w_iald (n := 6) (i := (sI a0)) hx hb hK.1 (t0 := 0) rfl hS (by decide) (zkd_of (rfl : zcd wR 26 = 76) rfl) (zln_of (rfl : zcd wR 26 = 76) rfl) rfl o86.1 o86.2 (by decide) dX12_makeRow_289 ?_
                                refine z_iadd hx hb dX12_makeRow_290 ?_
                                obtain ⟨o87, h⟩ := h
                                refine w_iast (z := (((M64 24 (sI a0).toNat) - x60) + (M76 26 (sI a0).toNat))) (n := 6) (i := (sI a0)) hx hb hK.1 (t0 := 0) rfl hS hS0 (by decide) (zkd_of (rfl : zcd wR 24 = 74) rfl) (zln_of (rfl : zcd wR 24 = 74) rfl) rfl o87.1 o87.2 (by decide) dX12_makeRow_291 (fun H locs hS hS0 => ?_)
                                obtain ⟨M88, e89⟩ : ∃ M88 : zM, M88 = zup M76 24 (sI a0).toNat (((M64 24 (sI a0).toNat) - x60) + (M76 26 (sI a0).toNat)) := ⟨_, rfl⟩
                                rw [← e89] at hS
                                have h := h M88 e89
                                refine lv_goto (tgt := 64) hx hb dX12_makeRow_292 (by decide) ?_
                                obtain ⟨n90, h91, h⟩ := h
                                exact i27 n90 h91 M88 _ _ _ h hS hS0 (lv_sub hl [0, 1] rfl)
                              · skip
                                have h := h.2 c85
                                refine z_bipush hx hb (by decide) dX12_makeRow_222 ?_
                                refine lv_iload_n hx hb dX12_makeRow_224 rfl (lv_at hl 1 rfl) ?_
                                refine z_imul hx hb dX12_makeRow_225 ?_
                                refine lv_iload hx hb dX12_makeRow_226 (lv_at hl 3 rfl) ?_
                                refine z_iadd hx hb dX12_makeRow_228 ?_
                                refine lv_iload hx hb dX12_makeRow_229 (lv_at hl 4 rfl) ?_
                                refine z_iadd hx hb dX12_makeRow_231 ?_
                                obtain ⟨t92, e93⟩ : ∃ t92 : Int, t92 = (((24 * a0) + ((M64 24 (sI a0).toNat) - x60)) + x75) := ⟨_, rfl⟩
                                refine z_top (y := t92) e93.symm ?_
                                have h := h t92 e93
                                refine lv_istore (lv' := [(6, .int (iI t92)), (0, .ref (b + 0)), (1, .int (iI a0)), (3, .int (iI x60)), (4, .int (iI ((M64 24 (sI a0).toNat) - x60))), (5, .int (iI x75))]) hx hb dX12_makeRow_232 hl (by decide) rfl (fun ls hl => ?_)
                                refine lv_aload_n hx hb dX12_makeRow_234 rfl (lv_at hl 1 rfl) ?_
                                refine w_getr (j2 := 23) hx hb hts (z_memU u12) hown hK.1 hS f12_38 (by decide) (zkd_of (rfl : zcd wR 0 = 50) rfl) (zrf_of (rfl : zcd wR 0 = 50) rfl) (Or.inl (hts _ (z_mem k982))) dX12_makeRow_235 ?_
                                refine lv_iload hx hb dX12_makeRow_238 (lv_at hl 0 rfl) ?_
                                refine lv_aload_n hx hb dX12_makeRow_240 rfl (lv_at hl 1 rfl) ?_
                                refine w_getr (j2 := 25) hx hb hts (z_memU u12) hown hK.1 hS f12_40 (by decide) (zkd_of (rfl : zcd wR 0 = 50) rfl) (zrf_of (rfl : zcd wR 0 = 50) rfl) (Or.inl (hts _ (z_mem k984))) dX12_makeRow_241 ?_
                                refine z_bipush hx hb (by decide) dX12_makeRow_244 ?_
                                refine lv_iload_n hx hb dX12_makeRow_246 rfl (lv_at hl 2 rfl) ?_
                                refine z_imul hx hb dX12_makeRow_247 ?_
                                refine lv_iload hx hb dX12_makeRow_248 (lv_at hl 5 rfl) ?_
                                refine z_iadd hx hb dX12_makeRow_250 ?_
                                obtain ⟨o94, h⟩ := h
                                refine w_iald (n := 144) (i := (sI ((24 * a0) + x75))) hx hb hK.1 (t0 := 0) rfl hS (by decide) (zkd_of (rfl : zcd wR 25 = 75) rfl) (zln_of (rfl : zcd wR 25 = 75) rfl) rfl o94.1 o94.2 (by decide) dX12_makeRow_251 ?_
                                refine lv_iload hx hb dX12_makeRow_252 (lv_at hl 5 rfl) ?_
                                refine lv_iload_n hx hb dX12_makeRow_254 rfl (lv_at hl 3 rfl) ?_
                                refine w_icmp_ge (tgt := 268) hx hb rfl rfl dX12_makeRow_255 (by decide) (fun c95 => ?_) (fun c95 => ?_)
                                · skip
                                  have h := h.1 c95
                                  refine z_iconst hx hb dX12_makeRow_268 ?_
                                  refine w_ior hx hb dX12_makeRow_269 ?_
                                  obtain ⟨o96, h⟩ := h
                                  refine w_iast (z := (orI (M76 25 (sI ((24 * a0) + x75)).toNat) 0)) (n := 144) (i := (sI t92)) hx hb hK.1 (t0 := 0) rfl hS hS0 (by decide) (zkd_of (rfl : zcd wR 23 = 73) rfl) (zln_of (rfl : zcd wR 23 = 73) rfl) rfl o96.1 o96.2 (by decide) dX12_makeRow_270 (fun H locs hS hS0 => ?_)
                                  obtain ⟨M97, e98⟩ : ∃ M97 : zM, M97 = zup M76 23 (sI t92).toNat (orI (M76 25 (sI ((24 * a0) + x75)).toNat) 0) := ⟨_, rfl⟩
                                  rw [← e98] at hS
                                  have h := h M97 e98
                                  refine z_iinc (lv' := [(5, .int (iI (x75 + 1))), (6, .int (iI t92)), (0, .ref (b + 0)), (1, .int (iI a0)), (3, .int (iI x60)), (4, .int (iI ((M64 24 (sI a0).toNat) - x60)))]) hx hb dX12_makeRow_271 hl (k := 5) rfl (by decide) rfl (fun ls hl => ?_)
                                  refine lv_goto (tgt := 211) hx hb dX12_makeRow_274 (by decide) ?_
                                  obtain ⟨n99, h100, h⟩ := h
                                  exact i83 n99 h100 (x75 + 1) M97 _ _ _ h hS hS0 (lv_sub hl [2, 3, 4, 5, 0] rfl)
                                · skip
                                  have h := h.2 c95
                                  refine lv_aload_n hx hb dX12_makeRow_258 rfl (lv_at hl 1 rfl) ?_
                                  refine w_getr (j2 := 23) hx hb hts (z_memU u12) hown hK.1 hS f12_38 (by decide) (zkd_of (rfl : zcd wR 0 = 50) rfl) (zrf_of (rfl : zcd wR 0 = 50) rfl) (Or.inl (hts _ (z_mem k982))) dX12_makeRow_259 ?_
                                  refine lv_iload hx hb dX12_makeRow_262 (lv_at hl 0 rfl) ?_
                                  obtain ⟨o101, h⟩ := h
                                  refine w_iald (n := 144) (i := (sI t92)) hx hb hK.1 (t0 := 0) rfl hS (by decide) (zkd_of (rfl : zcd wR 23 = 73) rfl) (zln_of (rfl : zcd wR 23 = 73) rfl) rfl o101.1 o101.2 (by decide) dX12_makeRow_264 ?_
                                  refine lv_goto (tgt := 269) hx hb dX12_makeRow_265 (by decide) ?_
                                  refine w_ior hx hb dX12_makeRow_269 ?_
                                  obtain ⟨o102, h⟩ := h
                                  refine w_iast (z := (orI (M76 25 (sI ((24 * a0) + x75)).toNat) (M76 23 (sI t92).toNat))) (n := 144) (i := (sI t92)) hx hb hK.1 (t0 := 0) rfl hS hS0 (by decide) (zkd_of (rfl : zcd wR 23 = 73) rfl) (zln_of (rfl : zcd wR 23 = 73) rfl) rfl o102.1 o102.2 (by decide) dX12_makeRow_270 (fun H locs hS hS0 => ?_)
                                  obtain ⟨M103, e104⟩ : ∃ M103 : zM, M103 = zup M76 23 (sI t92).toNat (orI (M76 25 (sI ((24 * a0) + x75)).toNat) (M76 23 (sI t92).toNat)) := ⟨_, rfl⟩
                                  rw [← e104] at hS
                                  have h := h M103 e104
                                  refine z_iinc (lv' := [(5, .int (iI (x75 + 1))), (6, .int (iI t92)), (0, .ref (b + 0)), (1, .int (iI a0)), (3, .int (iI x60)), (4, .int (iI ((M64 24 (sI a0).toNat) - x60)))]) hx hb dX12_makeRow_271 hl (k := 5) rfl (by decide) rfl (fun ls hl => ?_)
                                  refine lv_goto (tgt := 211) hx hb dX12_makeRow_274 (by decide) ?_
                                  obtain ⟨n105, h106, h⟩ := h
                                  exact i83 n105 h106 (x75 + 1) M103 _ _ _ h hS hS0 (lv_sub hl [2, 3, 4, 5, 0] rfl)
                          exact L81 n78 0 M64 _ _ _ h79 hS hS0 (lv_sub hl [3, 4, 5, 1, 0] rfl)
                        · skip
                          have h := h.2 c74
                          refine z_bipush hx hb (by decide) dX12_makeRow_205 ?_
                          exact w_iret hx hb hr hlocks hS hS0 (sI_of (by decide)) h dX12_makeRow_207
                      · skip
                        have h := h.2 c71
                        refine z_bipush hx hb (by decide) dX12_makeRow_178 ?_
                        exact w_iret hx hb hr hlocks hS hS0 (sI_of (by decide)) h dX12_makeRow_180
                  · skip
                    have h := h.2 c67
                    refine lv_iload_n hx hb dX12_makeRow_156 rfl (lv_at hl 0 rfl) ?_
                    exact w_iret hx hb hr hlocks hS hS0 (sI_of r66) h dX12_makeRow_157
                refine w_if_eq (tgt := 146) hx hb (sI_01 r52) dX12_makeRow_118 (by decide) (fun c107 => ?_) (fun c107 => ?_)
                · skip
                  have h := h.1 c107
                  exact L62 0 M20 _ _ _ h hS hS0 (lv_sub hl [1, 2, 0] rfl)
                · skip
                  have h := h.2 c107
                  refine lv_aload_n hx hb dX12_makeRow_121 rfl (lv_at hl 1 rfl) ?_
                  refine w_getr (j2 := 1) hx hb hts (z_memU u12) hown hK.1 hS f12_0 (by decide) (zkd_of (rfl : zcd wR 0 = 50) rfl) (zrf_of (rfl : zcd wR 0 = 50) rfl) (Or.inl (hts _ (z_mem k944))) dX12_makeRow_122 ?_
                  refine lv_aload_n hx hb dX12_makeRow_125 rfl (lv_at hl 1 rfl) ?_
                  refine w_geti hx hb hts (z_memU u12) hown hK.1 hS f12_36 (by decide) (zkd_of (rfl : zcd wR 0 = 50) rfl) (Or.inl (hts _ (z_mem k980))) dX12_makeRow_126 ?_
                  refine z_iconst hx hb dX12_makeRow_129 ?_
                  refine z_iadd hx hb dX12_makeRow_130 ?_
                  obtain ⟨o108, h⟩ := h
                  refine w_bald (n := 100) (i := (sI ((M20 0 36) + 1))) hx hb hK.1 (t0 := 2) rfl hS (by decide) (zkd_of (rfl : zcd wR 1 = 51) rfl) (zln_of (rfl : zcd wR 1 = 51) rfl) rfl o108.1 o108.2 (by decide) dX12_makeRow_131 ?_
                  refine z_bipush hx hb (by decide) dX12_makeRow_132 ?_
                  refine z_isub hx hb dX12_makeRow_134 ?_
                  obtain ⟨t109, e110⟩ : ∃ t109 : Int, t109 = ((M20 1 (sI ((M20 0 36) + 1)).toNat) - 48) := ⟨_, rfl⟩
                  refine z_top (y := t109) e110.symm ?_
                  have h := h t109 e110
                  refine lv_istore_n (lv' := [(3, .int (iI t109)), (0, .ref (b + 0)), (1, .int (iI a0))]) hx hb dX12_makeRow_135 rfl hl (by decide) rfl (fun ls hl => ?_)
                  refine lv_aload_n hx hb dX12_makeRow_136 rfl (lv_at hl 1 rfl) ?_
                  refine lv_dup hx hb dX12_makeRow_137 rfl ?_
                  refine w_geti hx hb hts (z_memU u12) hown hK.1 hS f12_36 (by decide) (zkd_of (rfl : zcd wR 0 = 50) rfl) (Or.inl (hts _ (z_mem k980))) dX12_makeRow_138 ?_
                  refine z_iconst hx hb dX12_makeRow_141 ?_
                  refine z_iadd hx hb dX12_makeRow_142 ?_
                  refine w_puti hx hb hts (z_memU u12) tyX12 tyX12_ok nmX12 hown hK.1 hS hS0 f12_36 (by decide) (zkd_of (rfl : zcd wR 0 = 50) rfl) (Or.inl (hts _ (z_mem k980))) rfl (z := ((M20 0 36) + 2)) (by decide +kernel) dX12_makeRow_143 (fun H locs hS hS0 => ?_)
                  obtain ⟨M111, e112⟩ : ∃ M111 : zM, M111 = zup M20 0 36 ((M20 0 36) + 2) := ⟨_, rfl⟩
                  rw [← e112] at hS
                  have h := h M111 e112
                  exact L62 t109 M111 _ _ _ h hS hS0 (lv_sub hl [1, 2, 0] rfl)
              refine w_if_ne (tgt := 108) hx hb (sI_01 r30) dX12_makeRow_72 (by decide) (fun c113 => ?_) (fun c113 => ?_)
              · skip
                have h := h.1 c113
                exact L48 _ _ _ h hS hS0 (lv_sub hl [0, 1] rfl)
              · skip
                have h := h.2 c113
                refine lv_aload_n hx hb dX12_makeRow_75 rfl (lv_at hl 0 rfl) ?_
                refine z_bipush hx hb (by decide) dX12_makeRow_76 ?_
                refine z_bipush hx hb (by decide) dX12_makeRow_78 ?_
                refine w_callz (va_runV (As := [.int (iI 48), .int (iI 57)]) (rest := []) ⟨hx, hb, hml, hown, hts⟩ (cR_has l D dA b M20 48 57 _ h) (cwV 2 hts (z_gV k1067 k1068 k1393 k14 k1069) rfl rfl rfl dm_X12_has ⟨by simp only [z_rm, headSpec]; omega, by simp only [z_rm, headSpec]; omega⟩) ⟨wPre_blind, (w_recv hS hK.1 (by decide) (zkd_of (rfl : zcd wR 0 = 50) rfl) (by decide) (rfl : vwCl[12]? = some (RX12, TX12, 50))), w_pre hS hK⟩ rfl rfl hl.1 rfl (lv_room (Nat.le_of_ble_eq_true rfl)) dX12_makeRow_80 ⟨Nat.le_refl _, Nat.le_refl _⟩) hS0 (fun z115 M114 H locs r116 h hS hS0 => ?_)
                obtain ⟨e117, h⟩ := h
                rw [e117] at hS
                refine w_if_ne (tgt := 108) hx hb (sI_01 r116) dX12_makeRow_83 (by decide) (fun c118 => ?_) (fun c118 => ?_)
                · skip
                  have h := h.1 c118
                  exact L48 _ _ _ h hS hS0 (lv_sub hl [0, 1] rfl)
                · skip
                  have h := h.2 c118
                  refine lv_aload_n hx hb dX12_makeRow_86 rfl (lv_at hl 0 rfl) ?_
                  refine z_bipush hx hb (by decide) dX12_makeRow_87 ?_
                  refine z_bipush hx hb (by decide) dX12_makeRow_89 ?_
                  refine w_callz (va_runV (As := [.int (iI 91), .int (iI 91)]) (rest := []) ⟨hx, hb, hml, hown, hts⟩ (cR_has l D dA b M20 91 91 _ h) (cwV 2 hts (z_gV k1067 k1068 k1393 k14 k1069) rfl rfl rfl dm_X12_has ⟨by simp only [z_rm, headSpec]; omega, by simp only [z_rm, headSpec]; omega⟩) ⟨wPre_blind, (w_recv hS hK.1 (by decide) (zkd_of (rfl : zcd wR 0 = 50) rfl) (by decide) (rfl : vwCl[12]? = some (RX12, TX12, 50))), w_pre hS hK⟩ rfl rfl hl.1 rfl (lv_room (Nat.le_of_ble_eq_true rfl)) dX12_makeRow_91 ⟨Nat.le_refl _, Nat.le_refl _⟩) hS0 (fun z120 M119 H locs r121 h hS hS0 => ?_)
                  obtain ⟨e122, h⟩ := h
                  rw [e122] at hS
                  refine w_if_ne (tgt := 108) hx hb (sI_01 r121) dX12_makeRow_94 (by decide) (fun c123 => ?_) (fun c123 => ?_)
                  · skip
                    have h := h.1 c123
                    exact L48 _ _ _ h hS hS0 (lv_sub hl [0, 1] rfl)
                  · skip
                    have h := h.2 c123
                    refine lv_aload_n hx hb dX12_makeRow_97 rfl (lv_at hl 0 rfl) ?_
                    refine z_bipush hx hb (by decide) dX12_makeRow_98 ?_
                    refine z_bipush hx hb (by decide) dX12_makeRow_100 ?_
                    refine w_callz (va_runV (As := [.int (iI 40), .int (iI 40)]) (rest := []) ⟨hx, hb, hml, hown, hts⟩ (cR_has l D dA b M20 40 40 _ h) (cwV 2 hts (z_gV k1067 k1068 k1393 k14 k1069) rfl rfl rfl dm_X12_has ⟨by simp only [z_rm, headSpec]; omega, by simp only [z_rm, headSpec]; omega⟩) ⟨wPre_blind, (w_recv hS hK.1 (by decide) (zkd_of (rfl : zcd wR 0 = 50) rfl) (by decide) (rfl : vwCl[12]? = some (RX12, TX12, 50))), w_pre hS hK⟩ rfl rfl hl.1 rfl (lv_room (Nat.le_of_ble_eq_true rfl)) dX12_makeRow_102 ⟨Nat.le_refl _, Nat.le_refl _⟩) hS0 (fun z125 M124 H locs r126 h hS hS0 => ?_)
                    obtain ⟨e127, h⟩ := h
                    rw [e127] at hS
                    refine w_if_eq (tgt := 295) hx hb (sI_01 r126) dX12_makeRow_105 (by decide) (fun c128 => ?_) (fun c128 => ?_)
                    · skip
                      have h := h.1 c128
                      refine z_iconst hx hb dX12_makeRow_295 ?_
                      exact w_iret hx hb hr hlocks hS hS0 (sI_of (by decide)) h dX12_makeRow_296
                    · skip
                      have h := h.2 c128
                      exact L48 _ _ _ h hS hS0 (lv_sub hl [0, 1] rfl)
          exact L25 n22 M10 _ _ _ h23 hS hS0 (lv_sub hl [0, 1] rfl)
        · skip
          have h := h.2 c19
          refine lv_aload_n hx hb dX12_makeRow_36 rfl (lv_at hl 0 rfl) ?_
          refine w_getr (j2 := 23) hx hb hts (z_memU u12) hown hK.1 hS f12_38 (by decide) (zkd_of (rfl : zcd wR 0 = 50) rfl) (zrf_of (rfl : zcd wR 0 = 50) rfl) (Or.inl (hts _ (z_mem k982))) dX12_makeRow_37 ?_
          refine z_bipush hx hb (by decide) dX12_makeRow_40 ?_
          refine lv_iload_n hx hb dX12_makeRow_42 rfl (lv_at hl 1 rfl) ?_
          refine z_imul hx hb dX12_makeRow_43 ?_
          refine lv_iload_n hx hb dX12_makeRow_44 rfl (lv_at hl 2 rfl) ?_
          refine z_iadd hx hb dX12_makeRow_45 ?_
          refine lv_aload_n hx hb dX12_makeRow_46 rfl (lv_at hl 0 rfl) ?_
          refine w_getr (j2 := 25) hx hb hts (z_memU u12) hown hK.1 hS f12_40 (by decide) (zkd_of (rfl : zcd wR 0 = 50) rfl) (zrf_of (rfl : zcd wR 0 = 50) rfl) (Or.inl (hts _ (z_mem k984))) dX12_makeRow_47 ?_
          refine z_bipush hx hb (by decide) dX12_makeRow_50 ?_
          refine lv_iload_n hx hb dX12_makeRow_52 rfl (lv_at hl 1 rfl) ?_
          refine z_imul hx hb dX12_makeRow_53 ?_
          refine lv_iload_n hx hb dX12_makeRow_54 rfl (lv_at hl 2 rfl) ?_
          refine z_iadd hx hb dX12_makeRow_55 ?_
          obtain ⟨o129, h⟩ := h
          refine w_iald (n := 144) (i := (sI ((24 * a0) + x9))) hx hb hK.1 (t0 := 0) rfl hS (by decide) (zkd_of (rfl : zcd wR 25 = 75) rfl) (zln_of (rfl : zcd wR 25 = 75) rfl) rfl o129.1 o129.2 (by decide) dX12_makeRow_56 ?_
          obtain ⟨o130, h⟩ := h
          refine w_iast (z := (M10 25 (sI ((24 * a0) + x9)).toNat)) (n := 144) (i := (sI ((24 * a0) + x9))) hx hb hK.1 (t0 := 0) rfl hS hS0 (by decide) (zkd_of (rfl : zcd wR 23 = 73) rfl) (zln_of (rfl : zcd wR 23 = 73) rfl) rfl o130.1 o130.2 (by decide) dX12_makeRow_57 (fun H locs hS hS0 => ?_)
          obtain ⟨M131, e132⟩ : ∃ M131 : zM, M131 = zup M10 23 (sI ((24 * a0) + x9)).toNat (M10 25 (sI ((24 * a0) + x9)).toNat) := ⟨_, rfl⟩
          rw [← e132] at hS
          have h := h M131 e132
          refine z_iinc (lv' := [(3, .int (iI (x9 + 1))), (0, .ref (b + 0)), (1, .int (iI a0))]) hx hb dX12_makeRow_58 hl (k := 2) rfl (by decide) rfl (fun ls hl => ?_)
          refine lv_goto (tgt := 26) hx hb dX12_makeRow_61 (by decide) ?_
          obtain ⟨n133, h134, h⟩ := h
          exact i17 n133 h134 (x9 + 1) M131 _ _ _ h hS hS0 (lv_sub hl [1, 2, 0] rfl)
    exact L15 n12 0 M7 _ _ _ h13 hS hS0 (lv_sub hl [2, 3, 0] rfl)
  · skip
    have h := h.2 c4
    refine lv_iload_n hx hb dX12_makeRow_10 rfl (lv_at hl 0 rfl) ?_
    exact w_iret hx hb hr hlocks hS hS0 (sI_of r3) h dX12_makeRow_11

set_option maxRecDepth 100000 in
def wR_makeTerm_F (R9 : Int → zM → (Int → zM → Prop) → Prop) (a0 : Int) (M : zM) (Q : Int → zM → Prop) : Prop := wR_has 48 57 M (fun z2 => (z2 = 0 → wR_has 91 91 M (fun z7 => (z7 = 0 → (∀ M11 : zM, M11 = zup M 0 36 ((M 0 36) + 1) → R9 (a0 + 1) M11 (fun z14 M13 => (0 ≤ z14 → (∀ M17 : zM, M17 = zup M13 0 36 ((M13 0 36) + 1) → ((0 ≤ (sI (a0 + 1)) ∧ (sI (a0 + 1)) < 6) ∧ ((0 ≤ (sI a0) ∧ (sI a0) < 6) ∧ (∀ M21 : zM, M21 = zup M17 26 (sI a0).toNat (M17 24 (sI (a0 + 1)).toNat) → wL1 (fun K216 x23 M24 => ((0 ≤ (sI a0) ∧ (sI a0) < 6) ∧ ((sI (M24 26 (sI a0).toNat)) ≤ (sI x23) → wL0 (fun K254 M34 => wR_has 126 126 M34 (fun z43 => pJ0 (fun J276 => (z43 ≠ 0 → J276) ∧ (z43 = 0 → wR_has 42 42 M34 (fun z113 => (z113 = 0 → Q 0 M34) ∧ (z113 ≠ 0 → J276)))) (((0 ≤ (sI a0) ∧ (sI a0) < 6) ∧ wR_has 126 126 M34 (fun z56 => (z56 = 0 → ((0 ≤ (sI ((M34 0 36) + 1)) ∧ (sI ((M34 0 36) + 1)) < 100) ∧ (∀ t61 : Int, t61 = ((M34 1 (sI ((M34 0 36) + 1)).toNat) - 48) → (∀ M63 : zM, M63 = zup M34 0 36 ((M34 0 36) + 2) → ((sI ((M34 26 (sI a0).toNat) * t61)) ≤ 24 → wL1 (fun K413 x66 M67 => ((sI ((M34 26 (sI a0).toNat) * t61)) ≤ (sI x66) → ((0 ≤ (sI a0) ∧ (sI a0) < 6) ∧ (∀ M77 : zM, M77 = zup M67 26 (sI a0).toNat ((M34 26 (sI a0).toNat) * t61) → K254 M77))) ∧ ((sI x66) < (sI ((M34 26 (sI a0).toNat) * t61)) → ((0 ≤ (sI (((24 * a0) + x66) - (M34 26 (sI a0).toNat))) ∧ (sI (((24 * a0) + x66) - (M34 26 (sI a0).toNat))) < 144) ∧ ((0 ≤ (sI ((24 * a0) + x66)) ∧ (sI ((24 * a0) + x66)) < 144) ∧ (∀ M83 : zM, M83 = zup M67 25 (sI ((24 * a0) + x66)).toNat (M67 25 (sI (((24 * a0) + x66) - (M34 26 (sI a0).toNat))).toNat) → K413 (x66 + 1) M83))))) (M34 26 (sI a0).toNat) M63) ∧ (24 < (sI ((M34 26 (sI a0).toNat) * t61)) → Q (-100) M63))))) ∧ (z56 ≠ 0 → (∀ M87 : zM, M87 = zup M34 0 36 ((M34 0 36) + 1) → wL1 (fun K307 x89 M90 => ((sI ((sI (M34 26 (sI a0).toNat)).tdiv 2)) ≤ (sI x89) → K254 M90) ∧ ((sI x89) < (sI ((sI (M34 26 (sI a0).toNat)).tdiv 2)) → ((0 ≤ (sI ((24 * a0) + x89)) ∧ (sI ((24 * a0) + x89)) < 144) ∧ ((0 ≤ (sI ((((24 * a0) + (M34 26 (sI a0).toNat)) - 1) - x89)) ∧ (sI ((((24 * a0) + (M34 26 (sI a0).toNat)) - 1) - x89)) < 144) ∧ ((0 ≤ (sI ((24 * a0) + x89)) ∧ (sI ((24 * a0) + x89)) < 144) ∧ (∀ M104 : zM, M104 = zup M90 25 (sI ((24 * a0) + x89)).toNat (M90 25 (sI ((((24 * a0) + (M34 26 (sI a0).toNat)) - 1) - x89)).toNat) → ((0 ≤ (sI ((((24 * a0) + (M34 26 (sI a0).toNat)) - 1) - x89)) ∧ (sI ((((24 * a0) + (M34 26 (sI a0).toNat)) - 1) - x89)) < 144) ∧ (∀ M107 : zM, M107 = zup M104 25 (sI ((((24 * a0) + (M34 26 (sI a0).toNat)) - 1) - x89)).toNat (M90 25 (sI ((24 * a0) + x89)).toNat) → K307 (x89 + 1) M107)))))))) 0 M87))))))) M24) ∧ ((sI x23) < (sI (M24 26 (sI a0).toNat)) → ((0 ≤ (sI (((24 * a0) + 24) + x23)) ∧ (sI (((24 * a0) + 24) + x23)) < 144) ∧ ((0 ≤ (sI ((24 * a0) + x23)) ∧ (sI ((24 * a0) + x23)) < 144) ∧ (∀ M119 : zM, M119 = zup M24 25 (sI ((24 * a0) + x23)).toNat (M24 23 (sI (((24 * a0) + 24) + x23)).toNat) → K216 (x23 + 1) M119)))))) 0 M21))))) ∧ (z14 < 0 → Q z14 M13)))) ∧ (z7 ≠ 0 → (∀ M123 : zM, M123 = zup M 0 36 ((M 0 36) + 1) → wL1 (fun K97 x125 M126 => wR_has 49 57 M126 (fun z135 => (z135 = 0 → (∀ M139 : zM, M139 = zup M126 0 36 ((M126 0 36) + 1) → ((0 ≤ (sI (24 * a0)) ∧ (sI (24 * a0)) < 144) ∧ (∀ M142 : zM, M142 = zup M139 25 (sI (24 * a0)).toNat x125 → ((0 ≤ (sI a0) ∧ (sI a0) < 6) ∧ (∀ M145 : zM, M145 = zup M142 26 (sI a0).toNat 1 → wL0 (fun K254 M147 => wR_has 126 126 M147 (fun z156 => pJ0 (fun J276 => (z156 ≠ 0 → J276) ∧ (z156 = 0 → wR_has 42 42 M147 (fun z226 => (z226 = 0 → Q 0 M147) ∧ (z226 ≠ 0 → J276)))) (((0 ≤ (sI a0) ∧ (sI a0) < 6) ∧ wR_has 126 126 M147 (fun z169 => (z169 = 0 → ((0 ≤ (sI ((M147 0 36) + 1)) ∧ (sI ((M147 0 36) + 1)) < 100) ∧ (∀ t174 : Int, t174 = ((M147 1 (sI ((M147 0 36) + 1)).toNat) - 48) → (∀ M176 : zM, M176 = zup M147 0 36 ((M147 0 36) + 2) → ((sI ((M147 26 (sI a0).toNat) * t174)) ≤ 24 → wL1 (fun K413 x179 M180 => ((sI ((M147 26 (sI a0).toNat) * t174)) ≤ (sI x179) → ((0 ≤ (sI a0) ∧ (sI a0) < 6) ∧ (∀ M190 : zM, M190 = zup M180 26 (sI a0).toNat ((M147 26 (sI a0).toNat) * t174) → K254 M190))) ∧ ((sI x179) < (sI ((M147 26 (sI a0).toNat) * t174)) → ((0 ≤ (sI (((24 * a0) + x179) - (M147 26 (sI a0).toNat))) ∧ (sI (((24 * a0) + x179) - (M147 26 (sI a0).toNat))) < 144) ∧ ((0 ≤ (sI ((24 * a0) + x179)) ∧ (sI ((24 * a0) + x179)) < 144) ∧ (∀ M196 : zM, M196 = zup M180 25 (sI ((24 * a0) + x179)).toNat (M180 25 (sI (((24 * a0) + x179) - (M147 26 (sI a0).toNat))).toNat) → K413 (x179 + 1) M196))))) (M147 26 (sI a0).toNat) M176) ∧ (24 < (sI ((M147 26 (sI a0).toNat) * t174)) → Q (-100) M176))))) ∧ (z169 ≠ 0 → (∀ M200 : zM, M200 = zup M147 0 36 ((M147 0 36) + 1) → wL1 (fun K307 x202 M203 => ((sI ((sI (M147 26 (sI a0).toNat)).tdiv 2)) ≤ (sI x202) → K254 M203) ∧ ((sI x202) < (sI ((sI (M147 26 (sI a0).toNat)).tdiv 2)) → ((0 ≤ (sI ((24 * a0) + x202)) ∧ (sI ((24 * a0) + x202)) < 144) ∧ ((0 ≤ (sI ((((24 * a0) + (M147 26 (sI a0).toNat)) - 1) - x202)) ∧ (sI ((((24 * a0) + (M147 26 (sI a0).toNat)) - 1) - x202)) < 144) ∧ ((0 ≤ (sI ((24 * a0) + x202)) ∧ (sI ((24 * a0) + x202)) < 144) ∧ (∀ M217 : zM, M217 = zup M203 25 (sI ((24 * a0) + x202)).toNat (M203 25 (sI ((((24 * a0) + (M147 26 (sI a0).toNat)) - 1) - x202)).toNat) → ((0 ≤ (sI ((((24 * a0) + (M147 26 (sI a0).toNat)) - 1) - x202)) ∧ (sI ((((24 * a0) + (M147 26 (sI a0).toNat)) - 1) - x202)) < 144) ∧ (∀ M220 : zM, M220 = zup M217 25 (sI ((((24 * a0) + (M147 26 (sI a0).toNat)) - 1) - x202)).toNat (M203 25 (sI ((24 * a0) + x202)).toNat) → K307 (x202 + 1) M220)))))))) 0 M200))))))) M145)))))) ∧ (z135 ≠ 0 → ((0 ≤ (sI (M126 0 36)) ∧ (sI (M126 0 36)) < 100) ∧ (∀ t231 : Int, t231 = (orI x125 (shlI 1 ((M126 1 (sI (M126 0 36)).toNat) - 48))) → (∀ M233 : zM, M233 = zup M126 0 36 ((M126 0 36) + 1) → K97 t231 M233)))))) 0 M123)))) ∧ (z2 ≠ 0 → ((0 ≤ (sI (M 0 36)) ∧ (sI (M 0 36)) < 100) ∧ pJ1 (fun J53 => ((sI (M 1 (sI (M 0 36)).toNat)) ≠ 48 → ((0 ≤ (sI (M 0 36)) ∧ (sI (M 0 36)) < 100) ∧ J53 (shlI 1 ((M 1 (sI (M 0 36)).toNat) - 48)))) ∧ ((sI (M 1 (sI (M 0 36)).toNat)) = 48 → J53 0)) (fun (x240 : Int) => ((0 ≤ (sI (24 * a0)) ∧ (sI (24 * a0)) < 144) ∧ (∀ M244 : zM, M244 = zup M 25 (sI (24 * a0)).toNat x240 → ((0 ≤ (sI a0) ∧ (sI a0) < 6) ∧ (∀ M247 : zM, M247 = zup M244 26 (sI a0).toNat 1 → (∀ M249 : zM, M249 = zup M247 0 36 ((M247 0 36) + 1) → wL0 (fun K254 M251 => wR_has 126 126 M251 (fun z260 => pJ0 (fun J276 => (z260 ≠ 0 → J276) ∧ (z260 = 0 → wR_has 42 42 M251 (fun z330 => (z330 = 0 → Q 0 M251) ∧ (z330 ≠ 0 → J276)))) (((0 ≤ (sI a0) ∧ (sI a0) < 6) ∧ wR_has 126 126 M251 (fun z273 => (z273 = 0 → ((0 ≤ (sI ((M251 0 36) + 1)) ∧ (sI ((M251 0 36) + 1)) < 100) ∧ (∀ t278 : Int, t278 = ((M251 1 (sI ((M251 0 36) + 1)).toNat) - 48) → (∀ M280 : zM, M280 = zup M251 0 36 ((M251 0 36) + 2) → ((sI ((M251 26 (sI a0).toNat) * t278)) ≤ 24 → wL1 (fun K413 x283 M284 => ((sI ((M251 26 (sI a0).toNat) * t278)) ≤ (sI x283) → ((0 ≤ (sI a0) ∧ (sI a0) < 6) ∧ (∀ M294 : zM, M294 = zup M284 26 (sI a0).toNat ((M251 26 (sI a0).toNat) * t278) → K254 M294))) ∧ ((sI x283) < (sI ((M251 26 (sI a0).toNat) * t278)) → ((0 ≤ (sI (((24 * a0) + x283) - (M251 26 (sI a0).toNat))) ∧ (sI (((24 * a0) + x283) - (M251 26 (sI a0).toNat))) < 144) ∧ ((0 ≤ (sI ((24 * a0) + x283)) ∧ (sI ((24 * a0) + x283)) < 144) ∧ (∀ M300 : zM, M300 = zup M284 25 (sI ((24 * a0) + x283)).toNat (M284 25 (sI (((24 * a0) + x283) - (M251 26 (sI a0).toNat))).toNat) → K413 (x283 + 1) M300))))) (M251 26 (sI a0).toNat) M280) ∧ (24 < (sI ((M251 26 (sI a0).toNat) * t278)) → Q (-100) M280))))) ∧ (z273 ≠ 0 → (∀ M304 : zM, M304 = zup M251 0 36 ((M251 0 36) + 1) → wL1 (fun K307 x306 M307 => ((sI ((sI (M251 26 (sI a0).toNat)).tdiv 2)) ≤ (sI x306) → K254 M307) ∧ ((sI x306) < (sI ((sI (M251 26 (sI a0).toNat)).tdiv 2)) → ((0 ≤ (sI ((24 * a0) + x306)) ∧ (sI ((24 * a0) + x306)) < 144) ∧ ((0 ≤ (sI ((((24 * a0) + (M251 26 (sI a0).toNat)) - 1) - x306)) ∧ (sI ((((24 * a0) + (M251 26 (sI a0).toNat)) - 1) - x306)) < 144) ∧ ((0 ≤ (sI ((24 * a0) + x306)) ∧ (sI ((24 * a0) + x306)) < 144) ∧ (∀ M321 : zM, M321 = zup M307 25 (sI ((24 * a0) + x306)).toNat (M307 25 (sI ((((24 * a0) + (M251 26 (sI a0).toNat)) - 1) - x306)).toNat) → ((0 ≤ (sI ((((24 * a0) + (M251 26 (sI a0).toNat)) - 1) - x306)) ∧ (sI ((((24 * a0) + (M251 26 (sI a0).toNat)) - 1) - x306)) < 144) ∧ (∀ M324 : zM, M324 = zup M321 25 (sI ((((24 * a0) + (M251 26 (sI a0).toNat)) - 1) - x306)).toNat (M307 25 (sI ((24 * a0) + x306)).toNat) → K307 (x306 + 1) M324)))))))) 0 M304))))))) M249)))))))))
set_option maxHeartbeats 4000000 in
set_option maxRecDepth 100000 in
theorem cR_makeTerm_F (dd : Nat) (R9 : Int → zM → (Int → zM → Prop) → Prop) (l : Launch) (D : va_G) (dA : Nat → ClassId) (hdd : 1 ≤ dd) (hrec : ∀ (b : Nat) (M : zM) (a0 : Int)  (Q : Int → zM → Prop), R9 a0 M Q → Met l yX12_makeRow (.code yX12_makeRow cX12_makeRow 7 (some .int) :: zt) (z_rm dd) (va_Pc [.ref (b + 0), .int (iI a0)] (wPre D dA vwCl (z_tys dA) wR nR b M)) (va_Qi (wQi Q) (zB D dA vwCl wR nR b) (zA nR b)) 0 0 (zA nR b)) (b : Nat) (M : zM) (a0 : Int)  (Q : Int → zM → Prop) (h : wR_makeTerm_F R9 a0 M Q) : Met l yX12_makeTerm (.code yX12_makeTerm cX12_makeTerm 6 (some .int) :: zt) (z_rm (dd + 1)) (va_Pc [.ref (b + 0), .int (iI a0)] (wPre D dA vwCl (z_tys dA) wR nR b M)) (va_Qi (wQi Q) (zB D dA vwCl wR nR b) (zA nR b)) 0 0 (zA nR b) := by
  unfold wR_makeTerm_F at h
  refine Met.ofW (cc := cX12_makeTerm) (maxL := 6) (ret := (some .int)) (by decide) rfl ?_
  intro p e s m args below meth c s₁ B hml hv
  obtain ⟨hargs, hS, hK⟩ := hv
  have hx := B.exec
  have hb := B.bytes
  have hr := B.returns
  have hts := atoms_spec (ws := .code yX12_makeTerm cX12_makeTerm 6 (some .int) :: zt) B.pre
  have hown : s.vm.findClass RX12 = some m.cls := findClass_of_methodNamed B.named
  have hlocks := B.notSynchronized
  have hS0 : va_S (zA nR b) s.heap s.heap [] := va_S.rf
  have hl := lv_entry ([.ref (b + 0), .int (iI a0)]) (n := 6) (Nat.le_of_ble_eq_true rfl)
  have hent : entryFrame m args 6 = F0 m 0 ((lg_sl ([.ref (b + 0), .int (iI a0)]) ++ List.replicate (6 - (lg_sl ([.ref (b + 0), .int (iI a0)])).length) Slot.unset).toArray) [] := by rw [hargs]; exact lg_entry_eq m ([.ref (b + 0), .int (iI a0)]) 6
  rw [hent]
  generalize (lg_sl ([.ref (b + 0), .int (iI a0)]) ++ List.replicate (6 - (lg_sl ([.ref (b + 0), .int (iI a0)])).length) Slot.unset).toArray = ls at hl ⊢
  have hl : lv_has ls 6 [(0, .ref (b + 0)), (1, .int (iI a0))] := hl
  refine z_bipush hx hb (by decide) dX12_makeTerm_0 ?_
  refine lv_iload_n hx hb dX12_makeTerm_2 rfl (lv_at hl 1 rfl) ?_
  refine z_imul hx hb dX12_makeTerm_3 ?_
  refine lv_istore_n (lv' := [(2, .int (iI (24 * a0))), (0, .ref (b + 0)), (1, .int (iI a0))]) hx hb dX12_makeTerm_4 rfl hl (by decide) rfl (fun ls hl => ?_)
  refine lv_aload_n hx hb dX12_makeTerm_5 rfl (lv_at hl 1 rfl) ?_
  refine z_bipush hx hb (by decide) dX12_makeTerm_6 ?_
  refine z_bipush hx hb (by decide) dX12_makeTerm_8 ?_
  refine w_callz (va_runV (As := [.int (iI 48), .int (iI 57)]) (rest := []) ⟨hx, hb, hml, hown, hts⟩ (cR_has l D dA b M 48 57 _ h) (cwV 2 hts (z_gV k1067 k1068 k1393 k14 k1069) rfl rfl rfl dm_X12_has ⟨by simp only [z_rm, headSpec]; omega, by simp only [z_rm, headSpec]; omega⟩) ⟨wPre_blind, (w_recv hS hK.1 (by decide) (zkd_of (rfl : zcd wR 0 = 50) rfl) (by decide) (rfl : vwCl[12]? = some (RX12, TX12, 50))), w_pre hS hK⟩ rfl rfl hl.1 rfl (lv_room (Nat.le_of_ble_eq_true rfl)) dX12_makeTerm_10 ⟨Nat.le_refl _, Nat.le_refl _⟩) hS0 (fun z2 M1 H locs r3 h hS hS0 => ?_)
  obtain ⟨e4, h⟩ := h
  rw [e4] at hS
  refine w_if_eq (tgt := 74) hx hb (sI_01 r3) dX12_makeTerm_13 (by decide) (fun c5 => ?_) (fun c5 => ?_)
  · skip
    have h := h.1 c5
    refine lv_aload_n hx hb dX12_makeTerm_74 rfl (lv_at hl 1 rfl) ?_
    refine z_bipush hx hb (by decide) dX12_makeTerm_75 ?_
    refine z_bipush hx hb (by decide) dX12_makeTerm_77 ?_
    refine w_callz (va_runV (As := [.int (iI 91), .int (iI 91)]) (rest := []) ⟨hx, hb, hml, hown, hts⟩ (cR_has l D dA b M 91 91 _ h) (cwV 2 hts (z_gV k1067 k1068 k1393 k14 k1069) rfl rfl rfl dm_X12_has ⟨by simp only [z_rm, headSpec]; omega, by simp only [z_rm, headSpec]; omega⟩) ⟨wPre_blind, (w_recv hS hK.1 (by decide) (zkd_of (rfl : zcd wR 0 = 50) rfl) (by decide) (rfl : vwCl[12]? = some (RX12, TX12, 50))), w_pre hS hK⟩ rfl rfl hl.1 rfl (lv_room (Nat.le_of_ble_eq_true rfl)) dX12_makeTerm_79 ⟨Nat.le_refl _, Nat.le_refl _⟩) hS0 (fun z7 M6 H locs r8 h hS hS0 => ?_)
    obtain ⟨e9, h⟩ := h
    rw [e9] at hS
    refine w_if_eq (tgt := 165) hx hb (sI_01 r8) dX12_makeTerm_82 (by decide) (fun c10 => ?_) (fun c10 => ?_)
    · skip
      have h := h.1 c10
      refine lv_aload_n hx hb dX12_makeTerm_165 rfl (lv_at hl 1 rfl) ?_
      refine lv_dup hx hb dX12_makeTerm_166 rfl ?_
      refine w_geti hx hb hts (z_memU u12) hown hK.1 hS f12_36 (by decide) (zkd_of (rfl : zcd wR 0 = 50) rfl) (Or.inl (hts _ (z_mem k980))) dX12_makeTerm_167 ?_
      refine z_iconst hx hb dX12_makeTerm_170 ?_
      refine z_iadd hx hb dX12_makeTerm_171 ?_
      refine w_puti hx hb hts (z_memU u12) tyX12 tyX12_ok nmX12 hown hK.1 hS hS0 f12_36 (by decide) (zkd_of (rfl : zcd wR 0 = 50) rfl) (Or.inl (hts _ (z_mem k980))) rfl (z := ((M 0 36) + 1)) (by decide +kernel) dX12_makeTerm_172 (fun H locs hS hS0 => ?_)
      obtain ⟨M11, e12⟩ : ∃ M11 : zM, M11 = zup M 0 36 ((M 0 36) + 1) := ⟨_, rfl⟩
      rw [← e12] at hS
      have h := h M11 e12
      refine lv_aload_n hx hb dX12_makeTerm_175 rfl (lv_at hl 1 rfl) ?_
      refine lv_iload_n hx hb dX12_makeTerm_176 rfl (lv_at hl 2 rfl) ?_
      refine z_iconst hx hb dX12_makeTerm_177 ?_
      refine z_iadd hx hb dX12_makeTerm_178 ?_
      refine w_calli (va_runV (As := [.int (iI (a0 + 1))]) (rest := []) ⟨hx, hb, hml, hown, hts⟩ (hrec b M11 (a0 + 1) _ h) (cwV 1 hts (z_gV k1073 k1074 k1395 k14 k1075) rfl rfl rfl dm_X12_makeRow ⟨by simp only [z_rm, headSpec]; omega, by simp only [z_rm, headSpec]; omega⟩) ⟨wPre_blind, (w_recv hS hK.1 (by decide) (zkd_of (rfl : zcd wR 0 = 50) rfl) (by decide) (rfl : vwCl[12]? = some (RX12, TX12, 50))), w_pre hS hK⟩ rfl rfl hl.1 rfl (lv_room (Nat.le_of_ble_eq_true rfl)) dX12_makeTerm_179 ⟨Nat.le_refl _, Nat.le_refl _⟩) hS0 (fun z14 M13 H locs r15 h hS hS0 => ?_)
      refine lv_istore_n (lv' := [(3, .int (iI z14)), (2, .int (iI (24 * a0))), (0, .ref (b + 0)), (1, .int (iI a0))]) hx hb dX12_makeTerm_182 rfl hl (by decide) rfl (fun ls hl => ?_)
      refine lv_iload_n hx hb dX12_makeTerm_183 rfl (lv_at hl 0 rfl) ?_
      refine w_if_ge (tgt := 189) hx hb (sI_of r15) dX12_makeTerm_184 (by decide) (fun c16 => ?_) (fun c16 => ?_)
      · skip
        have h := h.1 c16
        refine lv_aload_n hx hb dX12_makeTerm_189 rfl (lv_at hl 2 rfl) ?_
        refine lv_dup hx hb dX12_makeTerm_190 rfl ?_
        refine w_geti hx hb hts (z_memU u12) hown hK.1 hS f12_36 (by decide) (zkd_of (rfl : zcd wR 0 = 50) rfl) (Or.inl (hts _ (z_mem k980))) dX12_makeTerm_191 ?_
        refine z_iconst hx hb dX12_makeTerm_194 ?_
        refine z_iadd hx hb dX12_makeTerm_195 ?_
        refine w_puti hx hb hts (z_memU u12) tyX12 tyX12_ok nmX12 hown hK.1 hS hS0 f12_36 (by decide) (zkd_of (rfl : zcd wR 0 = 50) rfl) (Or.inl (hts _ (z_mem k980))) rfl (z := ((M13 0 36) + 1)) (by decide +kernel) dX12_makeTerm_196 (fun H locs hS hS0 => ?_)
        obtain ⟨M17, e18⟩ : ∃ M17 : zM, M17 = zup M13 0 36 ((M13 0 36) + 1) := ⟨_, rfl⟩
        rw [← e18] at hS
        have h := h M17 e18
        refine lv_aload_n hx hb dX12_makeTerm_199 rfl (lv_at hl 2 rfl) ?_
        refine w_getr (j2 := 26) hx hb hts (z_memU u12) hown hK.1 hS f12_41 (by decide) (zkd_of (rfl : zcd wR 0 = 50) rfl) (zrf_of (rfl : zcd wR 0 = 50) rfl) (Or.inl (hts _ (z_mem k985))) dX12_makeTerm_200 ?_
        refine lv_iload_n hx hb dX12_makeTerm_203 rfl (lv_at hl 3 rfl) ?_
        refine lv_aload_n hx hb dX12_makeTerm_204 rfl (lv_at hl 2 rfl) ?_
        refine w_getr (j2 := 24) hx hb hts (z_memU u12) hown hK.1 hS f12_39 (by decide) (zkd_of (rfl : zcd wR 0 = 50) rfl) (zrf_of (rfl : zcd wR 0 = 50) rfl) (Or.inl (hts _ (z_mem k983))) dX12_makeTerm_205 ?_
        refine lv_iload_n hx hb dX12_makeTerm_208 rfl (lv_at hl 3 rfl) ?_
        refine z_iconst hx hb dX12_makeTerm_209 ?_
        refine z_iadd hx hb dX12_makeTerm_210 ?_
        obtain ⟨o19, h⟩ := h
        refine w_iald (n := 6) (i := (sI (a0 + 1))) hx hb hK.1 (t0 := 0) rfl hS (by decide) (zkd_of (rfl : zcd wR 24 = 74) rfl) (zln_of (rfl : zcd wR 24 = 74) rfl) rfl o19.1 o19.2 (by decide) dX12_makeTerm_211 ?_
        obtain ⟨o20, h⟩ := h
        refine w_iast (z := (M17 24 (sI (a0 + 1)).toNat)) (n := 6) (i := (sI a0)) hx hb hK.1 (t0 := 0) rfl hS hS0 (by decide) (zkd_of (rfl : zcd wR 26 = 76) rfl) (zln_of (rfl : zcd wR 26 = 76) rfl) rfl o20.1 o20.2 (by decide) dX12_makeTerm_212 (fun H locs hS hS0 => ?_)
        obtain ⟨M21, e22⟩ : ∃ M21 : zM, M21 = zup M17 26 (sI a0).toNat (M17 24 (sI (a0 + 1)).toNat) := ⟨_, rfl⟩
        rw [← e22] at hS
        have h := h M21 e22
        refine z_iconst hx hb dX12_makeTerm_213 ?_
        refine lv_istore (lv' := [(4, .int (iI 0)), (3, .int (iI z14)), (2, .int (iI (24 * a0))), (0, .ref (b + 0)), (1, .int (iI a0))]) hx hb dX12_makeTerm_214 hl (by decide) rfl (fun ls hl => ?_)
        obtain ⟨I25, ⟨n26, h27⟩, h28⟩ := h
        have L29 : ∀ (n30 : Nat) (x23 : Int) (M24 : zM) (H : Heap) (locs : List Loc) (ls : Array Slot), I25 n30 x23 M24 → zR D dA vwCl wR nR b M24 H → va_S (zA nR b) s.heap H locs → lv_has ls 6 [(0, .ref (b + 0)), (1, .int (iI a0)), (2, .int (iI (24 * a0))), (4, .int (iI x23))] → W p l e (headSpec (.code yX12_makeTerm cX12_makeTerm 6 (some .int) :: zt) (z_rm (dd + 1))).room s m args below meth c H locs 0 0 (MQ below (va_Qi (wQi Q) (zB D dA vwCl wR nR b) (zA nR b)) args s 0 0 (zA nR b)) (F0 m 216 ls []) := by
          intro n30
          induction n30 using Nat.strongRecOn with
          | ind n30 i31 =>
            intro x23 M24 H locs ls h hS hS0 hl
            have h := h28 n30 x23 M24 h
            refine lv_iload hx hb dX12_makeTerm_216 (lv_at hl 3 rfl) ?_
            refine lv_aload_n hx hb dX12_makeTerm_218 rfl (lv_at hl 0 rfl) ?_
            refine w_getr (j2 := 26) hx hb hts (z_memU u12) hown hK.1 hS f12_41 (by decide) (zkd_of (rfl : zcd wR 0 = 50) rfl) (zrf_of (rfl : zcd wR 0 = 50) rfl) (Or.inl (hts _ (z_mem k985))) dX12_makeTerm_219 ?_
            refine lv_iload_n hx hb dX12_makeTerm_222 rfl (lv_at hl 1 rfl) ?_
            obtain ⟨o32, h⟩ := h
            refine w_iald (n := 6) (i := (sI a0)) hx hb hK.1 (t0 := 0) rfl hS (by decide) (zkd_of (rfl : zcd wR 26 = 76) rfl) (zln_of (rfl : zcd wR 26 = 76) rfl) rfl o32.1 o32.2 (by decide) dX12_makeTerm_223 ?_
            refine w_icmp_ge (tgt := 254) hx hb rfl rfl dX12_makeTerm_224 (by decide) (fun c33 => ?_) (fun c33 => ?_)
            · skip
              have h := h.1 c33
              obtain ⟨I35, ⟨n36, h37⟩, h38⟩ := h
              have L39 : ∀ (n40 : Nat) (M34 : zM) (H : Heap) (locs : List Loc) (ls : Array Slot), I35 n40 M34 → zR D dA vwCl wR nR b M34 H → va_S (zA nR b) s.heap H locs → lv_has ls 6 [(0, .ref (b + 0)), (1, .int (iI a0)), (2, .int (iI (24 * a0)))] → W p l e (headSpec (.code yX12_makeTerm cX12_makeTerm 6 (some .int) :: zt) (z_rm (dd + 1))).room s m args below meth c H locs 0 0 (MQ below (va_Qi (wQi Q) (zB D dA vwCl wR nR b) (zA nR b)) args s 0 0 (zA nR b)) (F0 m 254 ls []) := by
                intro n40
                induction n40 using Nat.strongRecOn with
                | ind n40 i41 =>
                  intro M34 H locs ls h hS hS0 hl
                  have h := h38 n40 M34 h
                  refine lv_aload_n hx hb dX12_makeTerm_254 rfl (lv_at hl 0 rfl) ?_
                  refine z_bipush hx hb (by decide) dX12_makeTerm_255 ?_
                  refine z_bipush hx hb (by decide) dX12_makeTerm_257 ?_
                  refine w_callz (va_runV (As := [.int (iI 126), .int (iI 126)]) (rest := []) ⟨hx, hb, hml, hown, hts⟩ (cR_has l D dA b M34 126 126 _ h) (cwV 2 hts (z_gV k1067 k1068 k1393 k14 k1069) rfl rfl rfl dm_X12_has ⟨by simp only [z_rm, headSpec]; omega, by simp only [z_rm, headSpec]; omega⟩) ⟨wPre_blind, (w_recv hS hK.1 (by decide) (zkd_of (rfl : zcd wR 0 = 50) rfl) (by decide) (rfl : vwCl[12]? = some (RX12, TX12, 50))), w_pre hS hK⟩ rfl rfl hl.1 rfl (lv_room (Nat.le_of_ble_eq_true rfl)) dX12_makeTerm_259 ⟨Nat.le_refl _, Nat.le_refl _⟩) hS0 (fun z43 M42 H locs r44 h hS hS0 => ?_)
                  obtain ⟨e45, h⟩ := h
                  rw [e45] at hS
                  obtain ⟨J276, B53, h⟩ := h
                  have L52 : ∀ (H : Heap) (locs : List Loc) (ls : Array Slot), J276 → zR D dA vwCl wR nR b M34 H → va_S (zA nR b) s.heap H locs → lv_has ls 6 [(0, .ref (b + 0)), (1, .int (iI a0)), (2, .int (iI (24 * a0)))] → W p l e (headSpec (.code yX12_makeTerm cX12_makeTerm 6 (some .int) :: zt) (z_rm (dd + 1))).room s m args below meth c H locs 0 0 (MQ below (va_Qi (wQi Q) (zB D dA vwCl wR nR b) (zA nR b)) args s 0 0 (zA nR b)) (F0 m 276 ls []) := by
                    intro  H locs ls h hS hS0 hl
                    have h := B53 h
                    refine lv_aload_n hx hb dX12_makeTerm_276 rfl (lv_at hl 0 rfl) ?_
                    refine w_getr (j2 := 26) hx hb hts (z_memU u12) hown hK.1 hS f12_41 (by decide) (zkd_of (rfl : zcd wR 0 = 50) rfl) (zrf_of (rfl : zcd wR 0 = 50) rfl) (Or.inl (hts _ (z_mem k985))) dX12_makeTerm_277 ?_
                    refine lv_iload_n hx hb dX12_makeTerm_280 rfl (lv_at hl 1 rfl) ?_
                    obtain ⟨o54, h⟩ := h
                    refine w_iald (n := 6) (i := (sI a0)) hx hb hK.1 (t0 := 0) rfl hS (by decide) (zkd_of (rfl : zcd wR 26 = 76) rfl) (zln_of (rfl : zcd wR 26 = 76) rfl) rfl o54.1 o54.2 (by decide) dX12_makeTerm_281 ?_
                    refine lv_istore_n (lv' := [(3, .int (iI (M34 26 (sI a0).toNat))), (0, .ref (b + 0)), (1, .int (iI a0)), (2, .int (iI (24 * a0)))]) hx hb dX12_makeTerm_282 rfl hl (by decide) rfl (fun ls hl => ?_)
                    refine lv_aload_n hx hb dX12_makeTerm_283 rfl (lv_at hl 1 rfl) ?_
                    refine z_bipush hx hb (by decide) dX12_makeTerm_284 ?_
                    refine z_bipush hx hb (by decide) dX12_makeTerm_286 ?_
                    refine w_callz (va_runV (As := [.int (iI 126), .int (iI 126)]) (rest := []) ⟨hx, hb, hml, hown, hts⟩ (cR_has l D dA b M34 126 126 _ h) (cwV 2 hts (z_gV k1067 k1068 k1393 k14 k1069) rfl rfl rfl dm_X12_has ⟨by simp only [z_rm, headSpec]; omega, by simp only [z_rm, headSpec]; omega⟩) ⟨wPre_blind, (w_recv hS hK.1 (by decide) (zkd_of (rfl : zcd wR 0 = 50) rfl) (by decide) (rfl : vwCl[12]? = some (RX12, TX12, 50))), w_pre hS hK⟩ rfl rfl hl.1 rfl (lv_room (Nat.le_of_ble_eq_true rfl)) dX12_makeTerm_288 ⟨Nat.le_refl _, Nat.le_refl _⟩) hS0 (fun z56 M55 H locs r57 h hS hS0 => ?_)
                    obtain ⟨e58, h⟩ := h
                    rw [e58] at hS
                    refine w_if_eq (tgt := 372) hx hb (sI_01 r57) dX12_makeTerm_291 (by decide) (fun c59 => ?_) (fun c59 => ?_)
                    · skip
                      have h := h.1 c59
                      refine lv_aload_n hx hb dX12_makeTerm_372 rfl (lv_at hl 1 rfl) ?_
                      refine w_getr (j2 := 1) hx hb hts (z_memU u12) hown hK.1 hS f12_0 (by decide) (zkd_of (rfl : zcd wR 0 = 50) rfl) (zrf_of (rfl : zcd wR 0 = 50) rfl) (Or.inl (hts _ (z_mem k944))) dX12_makeTerm_373 ?_
                      refine lv_aload_n hx hb dX12_makeTerm_376 rfl (lv_at hl 1 rfl) ?_
                      refine w_geti hx hb hts (z_memU u12) hown hK.1 hS f12_36 (by decide) (zkd_of (rfl : zcd wR 0 = 50) rfl) (Or.inl (hts _ (z_mem k980))) dX12_makeTerm_377 ?_
                      refine z_iconst hx hb dX12_makeTerm_380 ?_
                      refine z_iadd hx hb dX12_makeTerm_381 ?_
                      obtain ⟨o60, h⟩ := h
                      refine w_bald (n := 100) (i := (sI ((M34 0 36) + 1))) hx hb hK.1 (t0 := 2) rfl hS (by decide) (zkd_of (rfl : zcd wR 1 = 51) rfl) (zln_of (rfl : zcd wR 1 = 51) rfl) rfl o60.1 o60.2 (by decide) dX12_makeTerm_382 ?_
                      refine z_bipush hx hb (by decide) dX12_makeTerm_383 ?_
                      refine z_isub hx hb dX12_makeTerm_385 ?_
                      obtain ⟨t61, e62⟩ : ∃ t61 : Int, t61 = ((M34 1 (sI ((M34 0 36) + 1)).toNat) - 48) := ⟨_, rfl⟩
                      refine z_top (y := t61) e62.symm ?_
                      have h := h t61 e62
                      refine lv_istore (lv' := [(4, .int (iI t61)), (3, .int (iI (M34 26 (sI a0).toNat))), (0, .ref (b + 0)), (1, .int (iI a0)), (2, .int (iI (24 * a0)))]) hx hb dX12_makeTerm_386 hl (by decide) rfl (fun ls hl => ?_)
                      refine lv_aload_n hx hb dX12_makeTerm_388 rfl (lv_at hl 2 rfl) ?_
                      refine lv_dup hx hb dX12_makeTerm_389 rfl ?_
                      refine w_geti hx hb hts (z_memU u12) hown hK.1 hS f12_36 (by decide) (zkd_of (rfl : zcd wR 0 = 50) rfl) (Or.inl (hts _ (z_mem k980))) dX12_makeTerm_390 ?_
                      refine z_iconst hx hb dX12_makeTerm_393 ?_
                      refine z_iadd hx hb dX12_makeTerm_394 ?_
                      refine w_puti hx hb hts (z_memU u12) tyX12 tyX12_ok nmX12 hown hK.1 hS hS0 f12_36 (by decide) (zkd_of (rfl : zcd wR 0 = 50) rfl) (Or.inl (hts _ (z_mem k980))) rfl (z := ((M34 0 36) + 2)) (by decide +kernel) dX12_makeTerm_395 (fun H locs hS hS0 => ?_)
                      obtain ⟨M63, e64⟩ : ∃ M63 : zM, M63 = zup M34 0 36 ((M34 0 36) + 2) := ⟨_, rfl⟩
                      rw [← e64] at hS
                      have h := h M63 e64
                      refine lv_iload_n hx hb dX12_makeTerm_398 rfl (lv_at hl 1 rfl) ?_
                      refine lv_iload hx hb dX12_makeTerm_399 (lv_at hl 0 rfl) ?_
                      refine z_imul hx hb dX12_makeTerm_401 ?_
                      refine z_bipush hx hb (by decide) dX12_makeTerm_402 ?_
                      refine w_icmp_le (tgt := 410) hx hb rfl (sI_of (by decide)) dX12_makeTerm_404 (by decide) (fun c65 => ?_) (fun c65 => ?_)
                      · skip
                        have h := h.1 c65
                        refine lv_iload_n hx hb dX12_makeTerm_410 rfl (lv_at hl 1 rfl) ?_
                        refine lv_istore (lv' := [(5, .int (iI (M34 26 (sI a0).toNat))), (4, .int (iI t61)), (3, .int (iI (M34 26 (sI a0).toNat))), (0, .ref (b + 0)), (1, .int (iI a0)), (2, .int (iI (24 * a0)))]) hx hb dX12_makeTerm_411 hl (by decide) rfl (fun ls hl => ?_)
                        obtain ⟨I68, ⟨n69, h70⟩, h71⟩ := h
                        have L72 : ∀ (n73 : Nat) (x66 : Int) (M67 : zM) (H : Heap) (locs : List Loc) (ls : Array Slot), I68 n73 x66 M67 → zR D dA vwCl wR nR b M67 H → va_S (zA nR b) s.heap H locs → lv_has ls 6 [(0, .ref (b + 0)), (1, .int (iI a0)), (2, .int (iI (24 * a0))), (3, .int (iI (M34 26 (sI a0).toNat))), (4, .int (iI t61)), (5, .int (iI x66))] → W p l e (headSpec (.code yX12_makeTerm cX12_makeTerm 6 (some .int) :: zt) (z_rm (dd + 1))).room s m args below meth c H locs 0 0 (MQ below (va_Qi (wQi Q) (zB D dA vwCl wR nR b) (zA nR b)) args s 0 0 (zA nR b)) (F0 m 413 ls []) := by
                          intro n73
                          induction n73 using Nat.strongRecOn with
                          | ind n73 i74 =>
                            intro x66 M67 H locs ls h hS hS0 hl
                            have h := h71 n73 x66 M67 h
                            refine lv_iload hx hb dX12_makeTerm_413 (lv_at hl 5 rfl) ?_
                            refine lv_iload_n hx hb dX12_makeTerm_415 rfl (lv_at hl 3 rfl) ?_
                            refine lv_iload hx hb dX12_makeTerm_416 (lv_at hl 4 rfl) ?_
                            refine z_imul hx hb dX12_makeTerm_418 ?_
                            refine w_icmp_ge (tgt := 448) hx hb rfl rfl dX12_makeTerm_419 (by decide) (fun c75 => ?_) (fun c75 => ?_)
                            · skip
                              have h := h.1 c75
                              refine lv_aload_n hx hb dX12_makeTerm_448 rfl (lv_at hl 0 rfl) ?_
                              refine w_getr (j2 := 26) hx hb hts (z_memU u12) hown hK.1 hS f12_41 (by decide) (zkd_of (rfl : zcd wR 0 = 50) rfl) (zrf_of (rfl : zcd wR 0 = 50) rfl) (Or.inl (hts _ (z_mem k985))) dX12_makeTerm_449 ?_
                              refine lv_iload_n hx hb dX12_makeTerm_452 rfl (lv_at hl 1 rfl) ?_
                              refine lv_iload_n hx hb dX12_makeTerm_453 rfl (lv_at hl 3 rfl) ?_
                              refine lv_iload hx hb dX12_makeTerm_454 (lv_at hl 4 rfl) ?_
                              refine z_imul hx hb dX12_makeTerm_456 ?_
                              obtain ⟨o76, h⟩ := h
                              refine w_iast (z := ((M34 26 (sI a0).toNat) * t61)) (n := 6) (i := (sI a0)) hx hb hK.1 (t0 := 0) rfl hS hS0 (by decide) (zkd_of (rfl : zcd wR 26 = 76) rfl) (zln_of (rfl : zcd wR 26 = 76) rfl) rfl o76.1 o76.2 (by decide) dX12_makeTerm_457 (fun H locs hS hS0 => ?_)
                              obtain ⟨M77, e78⟩ : ∃ M77 : zM, M77 = zup M67 26 (sI a0).toNat ((M34 26 (sI a0).toNat) * t61) := ⟨_, rfl⟩
                              rw [← e78] at hS
                              have h := h M77 e78
                              refine lv_goto (tgt := 254) hx hb dX12_makeTerm_458 (by decide) ?_
                              obtain ⟨n79, h80, h⟩ := h
                              exact i41 n79 h80 M77 _ _ _ h hS hS0 (lv_sub hl [0, 1, 2] rfl)
                            · skip
                              have h := h.2 c75
                              refine lv_aload_n hx hb dX12_makeTerm_422 rfl (lv_at hl 0 rfl) ?_
                              refine w_getr (j2 := 25) hx hb hts (z_memU u12) hown hK.1 hS f12_40 (by decide) (zkd_of (rfl : zcd wR 0 = 50) rfl) (zrf_of (rfl : zcd wR 0 = 50) rfl) (Or.inl (hts _ (z_mem k984))) dX12_makeTerm_423 ?_
                              refine lv_iload_n hx hb dX12_makeTerm_426 rfl (lv_at hl 2 rfl) ?_
                              refine lv_iload hx hb dX12_makeTerm_427 (lv_at hl 5 rfl) ?_
                              refine z_iadd hx hb dX12_makeTerm_429 ?_
                              refine lv_aload_n hx hb dX12_makeTerm_430 rfl (lv_at hl 0 rfl) ?_
                              refine w_getr (j2 := 25) hx hb hts (z_memU u12) hown hK.1 hS f12_40 (by decide) (zkd_of (rfl : zcd wR 0 = 50) rfl) (zrf_of (rfl : zcd wR 0 = 50) rfl) (Or.inl (hts _ (z_mem k984))) dX12_makeTerm_431 ?_
                              refine lv_iload_n hx hb dX12_makeTerm_434 rfl (lv_at hl 2 rfl) ?_
                              refine lv_iload hx hb dX12_makeTerm_435 (lv_at hl 5 rfl) ?_
                              refine z_iadd hx hb dX12_makeTerm_437 ?_
                              refine lv_iload_n hx hb dX12_makeTerm_438 rfl (lv_at hl 3 rfl) ?_
                              refine z_isub hx hb dX12_makeTerm_439 ?_
                              obtain ⟨o81, h⟩ := h
                              refine w_iald (n := 144) (i := (sI (((24 * a0) + x66) - (M34 26 (sI a0).toNat)))) hx hb hK.1 (t0 := 0) rfl hS (by decide) (zkd_of (rfl : zcd wR 25 = 75) rfl) (zln_of (rfl : zcd wR 25 = 75) rfl) rfl o81.1 o81.2 (by decide) dX12_makeTerm_440 ?_
                              obtain ⟨o82, h⟩ := h
                              refine w_iast (z := (M67 25 (sI (((24 * a0) + x66) - (M34 26 (sI a0).toNat))).toNat)) (n := 144) (i := (sI ((24 * a0) + x66))) hx hb hK.1 (t0 := 0) rfl hS hS0 (by decide) (zkd_of (rfl : zcd wR 25 = 75) rfl) (zln_of (rfl : zcd wR 25 = 75) rfl) rfl o82.1 o82.2 (by decide) dX12_makeTerm_441 (fun H locs hS hS0 => ?_)
                              obtain ⟨M83, e84⟩ : ∃ M83 : zM, M83 = zup M67 25 (sI ((24 * a0) + x66)).toNat (M67 25 (sI (((24 * a0) + x66) - (M34 26 (sI a0).toNat))).toNat) := ⟨_, rfl⟩
                              rw [← e84] at hS
                              have h := h M83 e84
                              refine z_iinc (lv' := [(5, .int (iI (x66 + 1))), (0, .ref (b + 0)), (1, .int (iI a0)), (2, .int (iI (24 * a0))), (3, .int (iI (M34 26 (sI a0).toNat))), (4, .int (iI t61))]) hx hb dX12_makeTerm_442 hl (k := 5) rfl (by decide) rfl (fun ls hl => ?_)
                              refine lv_goto (tgt := 413) hx hb dX12_makeTerm_445 (by decide) ?_
                              obtain ⟨n85, h86, h⟩ := h
                              exact i74 n85 h86 (x66 + 1) M83 _ _ _ h hS hS0 (lv_sub hl [1, 2, 3, 4, 5, 0] rfl)
                        exact L72 n69 (M34 26 (sI a0).toNat) M63 _ _ _ h70 hS hS0 (lv_sub hl [3, 4, 5, 2, 1, 0] rfl)
                      · skip
                        have h := h.2 c65
                        refine z_bipush hx hb (by decide) dX12_makeTerm_407 ?_
                        exact w_iret hx hb hr hlocks hS hS0 (sI_of (by decide)) h dX12_makeTerm_409
                    · skip
                      have h := h.2 c59
                      refine lv_aload_n hx hb dX12_makeTerm_294 rfl (lv_at hl 1 rfl) ?_
                      refine lv_dup hx hb dX12_makeTerm_295 rfl ?_
                      refine w_geti hx hb hts (z_memU u12) hown hK.1 hS f12_36 (by decide) (zkd_of (rfl : zcd wR 0 = 50) rfl) (Or.inl (hts _ (z_mem k980))) dX12_makeTerm_296 ?_
                      refine z_iconst hx hb dX12_makeTerm_299 ?_
                      refine z_iadd hx hb dX12_makeTerm_300 ?_
                      refine w_puti hx hb hts (z_memU u12) tyX12 tyX12_ok nmX12 hown hK.1 hS hS0 f12_36 (by decide) (zkd_of (rfl : zcd wR 0 = 50) rfl) (Or.inl (hts _ (z_mem k980))) rfl (z := ((M34 0 36) + 1)) (by decide +kernel) dX12_makeTerm_301 (fun H locs hS hS0 => ?_)
                      obtain ⟨M87, e88⟩ : ∃ M87 : zM, M87 = zup M34 0 36 ((M34 0 36) + 1) := ⟨_, rfl⟩
                      rw [← e88] at hS
                      have h := h M87 e88
                      refine z_iconst hx hb dX12_makeTerm_304 ?_
                      refine lv_istore (lv' := [(4, .int (iI 0)), (3, .int (iI (M34 26 (sI a0).toNat))), (0, .ref (b + 0)), (1, .int (iI a0)), (2, .int (iI (24 * a0)))]) hx hb dX12_makeTerm_305 hl (by decide) rfl (fun ls hl => ?_)
                      obtain ⟨I91, ⟨n92, h93⟩, h94⟩ := h
                      have L95 : ∀ (n96 : Nat) (x89 : Int) (M90 : zM) (H : Heap) (locs : List Loc) (ls : Array Slot), I91 n96 x89 M90 → zR D dA vwCl wR nR b M90 H → va_S (zA nR b) s.heap H locs → lv_has ls 6 [(0, .ref (b + 0)), (1, .int (iI a0)), (2, .int (iI (24 * a0))), (3, .int (iI (M34 26 (sI a0).toNat))), (4, .int (iI x89))] → W p l e (headSpec (.code yX12_makeTerm cX12_makeTerm 6 (some .int) :: zt) (z_rm (dd + 1))).room s m args below meth c H locs 0 0 (MQ below (va_Qi (wQi Q) (zB D dA vwCl wR nR b) (zA nR b)) args s 0 0 (zA nR b)) (F0 m 307 ls []) := by
                        intro n96
                        induction n96 using Nat.strongRecOn with
                        | ind n96 i97 =>
                          intro x89 M90 H locs ls h hS hS0 hl
                          have h := h94 n96 x89 M90 h
                          refine lv_iload hx hb dX12_makeTerm_307 (lv_at hl 4 rfl) ?_
                          refine lv_iload_n hx hb dX12_makeTerm_309 rfl (lv_at hl 3 rfl) ?_
                          refine z_iconst hx hb dX12_makeTerm_310 ?_
                          refine w_idiv hx hb rfl (sI_of (by decide)) (by decide) dX12_makeTerm_311 ?_
                          refine w_icmp_ge (tgt := 369) hx hb rfl rfl dX12_makeTerm_312 (by decide) (fun c98 => ?_) (fun c98 => ?_)
                          · skip
                            have h := h.1 c98
                            refine lv_goto (tgt := 254) hx hb dX12_makeTerm_369 (by decide) ?_
                            obtain ⟨n99, h100, h⟩ := h
                            exact i41 n99 h100 M90 _ _ _ h hS hS0 (lv_sub hl [0, 1, 2] rfl)
                          · skip
                            have h := h.2 c98
                            refine lv_aload_n hx hb dX12_makeTerm_315 rfl (lv_at hl 0 rfl) ?_
                            refine w_getr (j2 := 25) hx hb hts (z_memU u12) hown hK.1 hS f12_40 (by decide) (zkd_of (rfl : zcd wR 0 = 50) rfl) (zrf_of (rfl : zcd wR 0 = 50) rfl) (Or.inl (hts _ (z_mem k984))) dX12_makeTerm_316 ?_
                            refine lv_iload_n hx hb dX12_makeTerm_319 rfl (lv_at hl 2 rfl) ?_
                            refine lv_iload hx hb dX12_makeTerm_320 (lv_at hl 4 rfl) ?_
                            refine z_iadd hx hb dX12_makeTerm_322 ?_
                            obtain ⟨o101, h⟩ := h
                            refine w_iald (n := 144) (i := (sI ((24 * a0) + x89))) hx hb hK.1 (t0 := 0) rfl hS (by decide) (zkd_of (rfl : zcd wR 25 = 75) rfl) (zln_of (rfl : zcd wR 25 = 75) rfl) rfl o101.1 o101.2 (by decide) dX12_makeTerm_323 ?_
                            refine lv_istore (lv' := [(5, .int (iI (M90 25 (sI ((24 * a0) + x89)).toNat))), (0, .ref (b + 0)), (1, .int (iI a0)), (2, .int (iI (24 * a0))), (3, .int (iI (M34 26 (sI a0).toNat))), (4, .int (iI x89))]) hx hb dX12_makeTerm_324 hl (by decide) rfl (fun ls hl => ?_)
                            refine lv_aload_n hx hb dX12_makeTerm_326 rfl (lv_at hl 1 rfl) ?_
                            refine w_getr (j2 := 25) hx hb hts (z_memU u12) hown hK.1 hS f12_40 (by decide) (zkd_of (rfl : zcd wR 0 = 50) rfl) (zrf_of (rfl : zcd wR 0 = 50) rfl) (Or.inl (hts _ (z_mem k984))) dX12_makeTerm_327 ?_
                            refine lv_iload_n hx hb dX12_makeTerm_330 rfl (lv_at hl 3 rfl) ?_
                            refine lv_iload hx hb dX12_makeTerm_331 (lv_at hl 5 rfl) ?_
                            refine z_iadd hx hb dX12_makeTerm_333 ?_
                            refine lv_aload_n hx hb dX12_makeTerm_334 rfl (lv_at hl 1 rfl) ?_
                            refine w_getr (j2 := 25) hx hb hts (z_memU u12) hown hK.1 hS f12_40 (by decide) (zkd_of (rfl : zcd wR 0 = 50) rfl) (zrf_of (rfl : zcd wR 0 = 50) rfl) (Or.inl (hts _ (z_mem k984))) dX12_makeTerm_335 ?_
                            refine lv_iload_n hx hb dX12_makeTerm_338 rfl (lv_at hl 3 rfl) ?_
                            refine lv_iload_n hx hb dX12_makeTerm_339 rfl (lv_at hl 4 rfl) ?_
                            refine z_iadd hx hb dX12_makeTerm_340 ?_
                            refine z_iconst hx hb dX12_makeTerm_341 ?_
                            refine z_isub hx hb dX12_makeTerm_342 ?_
                            refine lv_iload hx hb dX12_makeTerm_343 (lv_at hl 5 rfl) ?_
                            refine z_isub hx hb dX12_makeTerm_345 ?_
                            obtain ⟨o102, h⟩ := h
                            refine w_iald (n := 144) (i := (sI ((((24 * a0) + (M34 26 (sI a0).toNat)) - 1) - x89))) hx hb hK.1 (t0 := 0) rfl hS (by decide) (zkd_of (rfl : zcd wR 25 = 75) rfl) (zln_of (rfl : zcd wR 25 = 75) rfl) rfl o102.1 o102.2 (by decide) dX12_makeTerm_346 ?_
                            obtain ⟨o103, h⟩ := h
                            refine w_iast (z := (M90 25 (sI ((((24 * a0) + (M34 26 (sI a0).toNat)) - 1) - x89)).toNat)) (n := 144) (i := (sI ((24 * a0) + x89))) hx hb hK.1 (t0 := 0) rfl hS hS0 (by decide) (zkd_of (rfl : zcd wR 25 = 75) rfl) (zln_of (rfl : zcd wR 25 = 75) rfl) rfl o103.1 o103.2 (by decide) dX12_makeTerm_347 (fun H locs hS hS0 => ?_)
                            obtain ⟨M104, e105⟩ : ∃ M104 : zM, M104 = zup M90 25 (sI ((24 * a0) + x89)).toNat (M90 25 (sI ((((24 * a0) + (M34 26 (sI a0).toNat)) - 1) - x89)).toNat) := ⟨_, rfl⟩
                            rw [← e105] at hS
                            have h := h M104 e105
                            refine lv_aload_n hx hb dX12_makeTerm_348 rfl (lv_at hl 1 rfl) ?_
                            refine w_getr (j2 := 25) hx hb hts (z_memU u12) hown hK.1 hS f12_40 (by decide) (zkd_of (rfl : zcd wR 0 = 50) rfl) (zrf_of (rfl : zcd wR 0 = 50) rfl) (Or.inl (hts _ (z_mem k984))) dX12_makeTerm_349 ?_
                            refine lv_iload_n hx hb dX12_makeTerm_352 rfl (lv_at hl 3 rfl) ?_
                            refine lv_iload_n hx hb dX12_makeTerm_353 rfl (lv_at hl 4 rfl) ?_
                            refine z_iadd hx hb dX12_makeTerm_354 ?_
                            refine z_iconst hx hb dX12_makeTerm_355 ?_
                            refine z_isub hx hb dX12_makeTerm_356 ?_
                            refine lv_iload hx hb dX12_makeTerm_357 (lv_at hl 5 rfl) ?_
                            refine z_isub hx hb dX12_makeTerm_359 ?_
                            refine lv_iload hx hb dX12_makeTerm_360 (lv_at hl 0 rfl) ?_
                            obtain ⟨o106, h⟩ := h
                            refine w_iast (z := (M90 25 (sI ((24 * a0) + x89)).toNat)) (n := 144) (i := (sI ((((24 * a0) + (M34 26 (sI a0).toNat)) - 1) - x89))) hx hb hK.1 (t0 := 0) rfl hS hS0 (by decide) (zkd_of (rfl : zcd wR 25 = 75) rfl) (zln_of (rfl : zcd wR 25 = 75) rfl) rfl o106.1 o106.2 (by decide) dX12_makeTerm_362 (fun H locs hS hS0 => ?_)
                            obtain ⟨M107, e108⟩ : ∃ M107 : zM, M107 = zup M104 25 (sI ((((24 * a0) + (M34 26 (sI a0).toNat)) - 1) - x89)).toNat (M90 25 (sI ((24 * a0) + x89)).toNat) := ⟨_, rfl⟩
                            rw [← e108] at hS
                            have h := h M107 e108
                            refine z_iinc (lv' := [(4, .int (iI (x89 + 1))), (5, .int (iI (M90 25 (sI ((24 * a0) + x89)).toNat))), (0, .ref (b + 0)), (1, .int (iI a0)), (2, .int (iI (24 * a0))), (3, .int (iI (M34 26 (sI a0).toNat)))]) hx hb dX12_makeTerm_363 hl (k := 5) rfl (by decide) rfl (fun ls hl => ?_)
                            refine lv_goto (tgt := 307) hx hb dX12_makeTerm_366 (by decide) ?_
                            obtain ⟨n109, h110, h⟩ := h
                            exact i97 n109 h110 (x89 + 1) M107 _ _ _ h hS hS0 (lv_sub hl [2, 3, 4, 5, 0] rfl)
                      exact L95 n92 0 M87 _ _ _ h93 hS hS0 (lv_sub hl [2, 3, 4, 1, 0] rfl)
                  refine w_if_ne (tgt := 276) hx hb (sI_01 r44) dX12_makeTerm_262 (by decide) (fun c111 => ?_) (fun c111 => ?_)
                  · skip
                    have h := h.1 c111
                    exact L52 _ _ _ h hS hS0 (lv_sub hl [0, 1, 2] rfl)
                  · skip
                    have h := h.2 c111
                    refine lv_aload_n hx hb dX12_makeTerm_265 rfl (lv_at hl 0 rfl) ?_
                    refine z_bipush hx hb (by decide) dX12_makeTerm_266 ?_
                    refine z_bipush hx hb (by decide) dX12_makeTerm_268 ?_
                    refine w_callz (va_runV (As := [.int (iI 42), .int (iI 42)]) (rest := []) ⟨hx, hb, hml, hown, hts⟩ (cR_has l D dA b M34 42 42 _ h) (cwV 2 hts (z_gV k1067 k1068 k1393 k14 k1069) rfl rfl rfl dm_X12_has ⟨by simp only [z_rm, headSpec]; omega, by simp only [z_rm, headSpec]; omega⟩) ⟨wPre_blind, (w_recv hS hK.1 (by decide) (zkd_of (rfl : zcd wR 0 = 50) rfl) (by decide) (rfl : vwCl[12]? = some (RX12, TX12, 50))), w_pre hS hK⟩ rfl rfl hl.1 rfl (lv_room (Nat.le_of_ble_eq_true rfl)) dX12_makeTerm_270 ⟨Nat.le_refl _, Nat.le_refl _⟩) hS0 (fun z113 M112 H locs r114 h hS hS0 => ?_)
                    obtain ⟨e115, h⟩ := h
                    rw [e115] at hS
                    refine w_if_eq (tgt := 461) hx hb (sI_01 r114) dX12_makeTerm_273 (by decide) (fun c116 => ?_) (fun c116 => ?_)
                    · skip
                      have h := h.1 c116
                      refine z_iconst hx hb dX12_makeTerm_461 ?_
                      exact w_iret hx hb hr hlocks hS hS0 (sI_of (by decide)) h dX12_makeTerm_462
                    · skip
                      have h := h.2 c116
                      exact L52 _ _ _ h hS hS0 (lv_sub hl [0, 1, 2] rfl)
              exact L39 n36 M24 _ _ _ h37 hS hS0 (lv_sub hl [0, 1, 2] rfl)
            · skip
              have h := h.2 c33
              refine lv_aload_n hx hb dX12_makeTerm_227 rfl (lv_at hl 0 rfl) ?_
              refine w_getr (j2 := 25) hx hb hts (z_memU u12) hown hK.1 hS f12_40 (by decide) (zkd_of (rfl : zcd wR 0 = 50) rfl) (zrf_of (rfl : zcd wR 0 = 50) rfl) (Or.inl (hts _ (z_mem k984))) dX12_makeTerm_228 ?_
              refine lv_iload_n hx hb dX12_makeTerm_231 rfl (lv_at hl 2 rfl) ?_
              refine lv_iload hx hb dX12_makeTerm_232 (lv_at hl 3 rfl) ?_
              refine z_iadd hx hb dX12_makeTerm_234 ?_
              refine lv_aload_n hx hb dX12_makeTerm_235 rfl (lv_at hl 0 rfl) ?_
              refine w_getr (j2 := 23) hx hb hts (z_memU u12) hown hK.1 hS f12_38 (by decide) (zkd_of (rfl : zcd wR 0 = 50) rfl) (zrf_of (rfl : zcd wR 0 = 50) rfl) (Or.inl (hts _ (z_mem k982))) dX12_makeTerm_236 ?_
              refine lv_iload_n hx hb dX12_makeTerm_239 rfl (lv_at hl 2 rfl) ?_
              refine z_bipush hx hb (by decide) dX12_makeTerm_240 ?_
              refine z_iadd hx hb dX12_makeTerm_242 ?_
              refine lv_iload hx hb dX12_makeTerm_243 (lv_at hl 3 rfl) ?_
              refine z_iadd hx hb dX12_makeTerm_245 ?_
              obtain ⟨o117, h⟩ := h
              refine w_iald (n := 144) (i := (sI (((24 * a0) + 24) + x23))) hx hb hK.1 (t0 := 0) rfl hS (by decide) (zkd_of (rfl : zcd wR 23 = 73) rfl) (zln_of (rfl : zcd wR 23 = 73) rfl) rfl o117.1 o117.2 (by decide) dX12_makeTerm_246 ?_
              obtain ⟨o118, h⟩ := h
              refine w_iast (z := (M24 23 (sI (((24 * a0) + 24) + x23)).toNat)) (n := 144) (i := (sI ((24 * a0) + x23))) hx hb hK.1 (t0 := 0) rfl hS hS0 (by decide) (zkd_of (rfl : zcd wR 25 = 75) rfl) (zln_of (rfl : zcd wR 25 = 75) rfl) rfl o118.1 o118.2 (by decide) dX12_makeTerm_247 (fun H locs hS hS0 => ?_)
              obtain ⟨M119, e120⟩ : ∃ M119 : zM, M119 = zup M24 25 (sI ((24 * a0) + x23)).toNat (M24 23 (sI (((24 * a0) + 24) + x23)).toNat) := ⟨_, rfl⟩
              rw [← e120] at hS
              have h := h M119 e120
              refine z_iinc (lv' := [(4, .int (iI (x23 + 1))), (0, .ref (b + 0)), (1, .int (iI a0)), (2, .int (iI (24 * a0)))]) hx hb dX12_makeTerm_248 hl (k := 3) rfl (by decide) rfl (fun ls hl => ?_)
              refine lv_goto (tgt := 216) hx hb dX12_makeTerm_251 (by decide) ?_
              obtain ⟨n121, h122, h⟩ := h
              exact i31 n121 h122 (x23 + 1) M119 _ _ _ h hS hS0 (lv_sub hl [1, 2, 3, 0] rfl)
        exact L29 n26 0 M21 _ _ _ h27 hS hS0 (lv_sub hl [3, 4, 2, 0] rfl)
      · skip
        have h := h.2 c16
        refine lv_iload_n hx hb dX12_makeTerm_187 rfl (lv_at hl 0 rfl) ?_
        exact w_iret hx hb hr hlocks hS hS0 (sI_of r15) h dX12_makeTerm_188
    · skip
      have h := h.2 c10
      refine lv_aload_n hx hb dX12_makeTerm_85 rfl (lv_at hl 1 rfl) ?_
      refine lv_dup hx hb dX12_makeTerm_86 rfl ?_
      refine w_geti hx hb hts (z_memU u12) hown hK.1 hS f12_36 (by decide) (zkd_of (rfl : zcd wR 0 = 50) rfl) (Or.inl (hts _ (z_mem k980))) dX12_makeTerm_87 ?_
      refine z_iconst hx hb dX12_makeTerm_90 ?_
      refine z_iadd hx hb dX12_makeTerm_91 ?_
      refine w_puti hx hb hts (z_memU u12) tyX12 tyX12_ok nmX12 hown hK.1 hS hS0 f12_36 (by decide) (zkd_of (rfl : zcd wR 0 = 50) rfl) (Or.inl (hts _ (z_mem k980))) rfl (z := ((M 0 36) + 1)) (by decide +kernel) dX12_makeTerm_92 (fun H locs hS hS0 => ?_)
      obtain ⟨M123, e124⟩ : ∃ M123 : zM, M123 = zup M 0 36 ((M 0 36) + 1) := ⟨_, rfl⟩
      rw [← e124] at hS
      have h := h M123 e124
      refine z_iconst hx hb dX12_makeTerm_95 ?_
      refine lv_istore_n (lv' := [(3, .int (iI 0)), (2, .int (iI (24 * a0))), (0, .ref (b + 0)), (1, .int (iI a0))]) hx hb dX12_makeTerm_96 rfl hl (by decide) rfl (fun ls hl => ?_)
      obtain ⟨I127, ⟨n128, h129⟩, h130⟩ := h
      have L131 : ∀ (n132 : Nat) (x125 : Int) (M126 : zM) (H : Heap) (locs : List Loc) (ls : Array Slot), I127 n132 x125 M126 → zR D dA vwCl wR nR b M126 H → va_S (zA nR b) s.heap H locs → lv_has ls 6 [(0, .ref (b + 0)), (1, .int (iI a0)), (2, .int (iI (24 * a0))), (3, .int (iI x125))] → W p l e (headSpec (.code yX12_makeTerm cX12_makeTerm 6 (some .int) :: zt) (z_rm (dd + 1))).room s m args below meth c H locs 0 0 (MQ below (va_Qi (wQi Q) (zB D dA vwCl wR nR b) (zA nR b)) args s 0 0 (zA nR b)) (F0 m 97 ls []) := by
        intro n132
        induction n132 using Nat.strongRecOn with
        | ind n132 i133 =>
          intro x125 M126 H locs ls h hS hS0 hl
          have h := h130 n132 x125 M126 h
          refine lv_aload_n hx hb dX12_makeTerm_97 rfl (lv_at hl 0 rfl) ?_
          refine z_bipush hx hb (by decide) dX12_makeTerm_98 ?_
          refine z_bipush hx hb (by decide) dX12_makeTerm_100 ?_
          refine w_callz (va_runV (As := [.int (iI 49), .int (iI 57)]) (rest := []) ⟨hx, hb, hml, hown, hts⟩ (cR_has l D dA b M126 49 57 _ h) (cwV 2 hts (z_gV k1067 k1068 k1393 k14 k1069) rfl rfl rfl dm_X12_has ⟨by simp only [z_rm, headSpec]; omega, by simp only [z_rm, headSpec]; omega⟩) ⟨wPre_blind, (w_recv hS hK.1 (by decide) (zkd_of (rfl : zcd wR 0 = 50) rfl) (by decide) (rfl : vwCl[12]? = some (RX12, TX12, 50))), w_pre hS hK⟩ rfl rfl hl.1 rfl (lv_room (Nat.le_of_ble_eq_true rfl)) dX12_makeTerm_102 ⟨Nat.le_refl _, Nat.le_refl _⟩) hS0 (fun z135 M134 H locs r136 h hS hS0 => ?_)
          obtain ⟨e137, h⟩ := h
          rw [e137] at hS
          refine w_if_eq (tgt := 138) hx hb (sI_01 r136) dX12_makeTerm_105 (by decide) (fun c138 => ?_) (fun c138 => ?_)
          · skip
            have h := h.1 c138
            refine lv_aload_n hx hb dX12_makeTerm_138 rfl (lv_at hl 0 rfl) ?_
            refine lv_dup hx hb dX12_makeTerm_139 rfl ?_
            refine w_geti hx hb hts (z_memU u12) hown hK.1 hS f12_36 (by decide) (zkd_of (rfl : zcd wR 0 = 50) rfl) (Or.inl (hts _ (z_mem k980))) dX12_makeTerm_140 ?_
            refine z_iconst hx hb dX12_makeTerm_143 ?_
            refine z_iadd hx hb dX12_makeTerm_144 ?_
            refine w_puti hx hb hts (z_memU u12) tyX12 tyX12_ok nmX12 hown hK.1 hS hS0 f12_36 (by decide) (zkd_of (rfl : zcd wR 0 = 50) rfl) (Or.inl (hts _ (z_mem k980))) rfl (z := ((M126 0 36) + 1)) (by decide +kernel) dX12_makeTerm_145 (fun H locs hS hS0 => ?_)
            obtain ⟨M139, e140⟩ : ∃ M139 : zM, M139 = zup M126 0 36 ((M126 0 36) + 1) := ⟨_, rfl⟩
            rw [← e140] at hS
            have h := h M139 e140
            refine lv_aload_n hx hb dX12_makeTerm_148 rfl (lv_at hl 0 rfl) ?_
            refine w_getr (j2 := 25) hx hb hts (z_memU u12) hown hK.1 hS f12_40 (by decide) (zkd_of (rfl : zcd wR 0 = 50) rfl) (zrf_of (rfl : zcd wR 0 = 50) rfl) (Or.inl (hts _ (z_mem k984))) dX12_makeTerm_149 ?_
            refine lv_iload_n hx hb dX12_makeTerm_152 rfl (lv_at hl 2 rfl) ?_
            refine lv_iload_n hx hb dX12_makeTerm_153 rfl (lv_at hl 3 rfl) ?_
            obtain ⟨o141, h⟩ := h
            refine w_iast (z := x125) (n := 144) (i := (sI (24 * a0))) hx hb hK.1 (t0 := 0) rfl hS hS0 (by decide) (zkd_of (rfl : zcd wR 25 = 75) rfl) (zln_of (rfl : zcd wR 25 = 75) rfl) rfl o141.1 o141.2 (by decide) dX12_makeTerm_154 (fun H locs hS hS0 => ?_)
            obtain ⟨M142, e143⟩ : ∃ M142 : zM, M142 = zup M139 25 (sI (24 * a0)).toNat x125 := ⟨_, rfl⟩
            rw [← e143] at hS
            have h := h M142 e143
            refine lv_aload_n hx hb dX12_makeTerm_155 rfl (lv_at hl 0 rfl) ?_
            refine w_getr (j2 := 26) hx hb hts (z_memU u12) hown hK.1 hS f12_41 (by decide) (zkd_of (rfl : zcd wR 0 = 50) rfl) (zrf_of (rfl : zcd wR 0 = 50) rfl) (Or.inl (hts _ (z_mem k985))) dX12_makeTerm_156 ?_
            refine lv_iload_n hx hb dX12_makeTerm_159 rfl (lv_at hl 1 rfl) ?_
            refine z_iconst hx hb dX12_makeTerm_160 ?_
            obtain ⟨o144, h⟩ := h
            refine w_iast (z := 1) (n := 6) (i := (sI a0)) hx hb hK.1 (t0 := 0) rfl hS hS0 (by decide) (zkd_of (rfl : zcd wR 26 = 76) rfl) (zln_of (rfl : zcd wR 26 = 76) rfl) rfl o144.1 o144.2 (by decide) dX12_makeTerm_161 (fun H locs hS hS0 => ?_)
            obtain ⟨M145, e146⟩ : ∃ M145 : zM, M145 = zup M142 26 (sI a0).toNat 1 := ⟨_, rfl⟩
            rw [← e146] at hS
            have h := h M145 e146
            refine lv_goto (tgt := 254) hx hb dX12_makeTerm_162 (by decide) ?_
            obtain ⟨I148, ⟨n149, h150⟩, h151⟩ := h
            have L152 : ∀ (n153 : Nat) (M147 : zM) (H : Heap) (locs : List Loc) (ls : Array Slot), I148 n153 M147 → zR D dA vwCl wR nR b M147 H → va_S (zA nR b) s.heap H locs → lv_has ls 6 [(0, .ref (b + 0)), (1, .int (iI a0)), (2, .int (iI (24 * a0)))] → W p l e (headSpec (.code yX12_makeTerm cX12_makeTerm 6 (some .int) :: zt) (z_rm (dd + 1))).room s m args below meth c H locs 0 0 (MQ below (va_Qi (wQi Q) (zB D dA vwCl wR nR b) (zA nR b)) args s 0 0 (zA nR b)) (F0 m 254 ls []) := by
              intro n153
              induction n153 using Nat.strongRecOn with
              | ind n153 i154 =>
                intro M147 H locs ls h hS hS0 hl
                have h := h151 n153 M147 h
                refine lv_aload_n hx hb dX12_makeTerm_254 rfl (lv_at hl 0 rfl) ?_
                refine z_bipush hx hb (by decide) dX12_makeTerm_255 ?_
                refine z_bipush hx hb (by decide) dX12_makeTerm_257 ?_
                refine w_callz (va_runV (As := [.int (iI 126), .int (iI 126)]) (rest := []) ⟨hx, hb, hml, hown, hts⟩ (cR_has l D dA b M147 126 126 _ h) (cwV 2 hts (z_gV k1067 k1068 k1393 k14 k1069) rfl rfl rfl dm_X12_has ⟨by simp only [z_rm, headSpec]; omega, by simp only [z_rm, headSpec]; omega⟩) ⟨wPre_blind, (w_recv hS hK.1 (by decide) (zkd_of (rfl : zcd wR 0 = 50) rfl) (by decide) (rfl : vwCl[12]? = some (RX12, TX12, 50))), w_pre hS hK⟩ rfl rfl hl.1 rfl (lv_room (Nat.le_of_ble_eq_true rfl)) dX12_makeTerm_259 ⟨Nat.le_refl _, Nat.le_refl _⟩) hS0 (fun z156 M155 H locs r157 h hS hS0 => ?_)
                obtain ⟨e158, h⟩ := h
                rw [e158] at hS
                obtain ⟨J276, B166, h⟩ := h
                have L165 : ∀ (H : Heap) (locs : List Loc) (ls : Array Slot), J276 → zR D dA vwCl wR nR b M147 H → va_S (zA nR b) s.heap H locs → lv_has ls 6 [(0, .ref (b + 0)), (1, .int (iI a0)), (2, .int (iI (24 * a0)))] → W p l e (headSpec (.code yX12_makeTerm cX12_makeTerm 6 (some .int) :: zt) (z_rm (dd + 1))).room s m args below meth c H locs 0 0 (MQ below (va_Qi (wQi Q) (zB D dA vwCl wR nR b) (zA nR b)) args s 0 0 (zA nR b)) (F0 m 276 ls []) := by
                  intro  H locs ls h hS hS0 hl
                  have h := B166 h
                  refine lv_aload_n hx hb dX12_makeTerm_276 rfl (lv_at hl 0 rfl) ?_
                  refine w_getr (j2 := 26) hx hb hts (z_memU u12) hown hK.1 hS f12_41 (by decide) (zkd_of (rfl : zcd wR 0 = 50) rfl) (zrf_of (rfl : zcd wR 0 = 50) rfl) (Or.inl (hts _ (z_mem k985))) dX12_makeTerm_277 ?_
                  refine lv_iload_n hx hb dX12_makeTerm_280 rfl (lv_at hl 1 rfl) ?_
                  obtain ⟨o167, h⟩ := h
                  refine w_iald (n := 6) (i := (sI a0)) hx hb hK.1 (t0 := 0) rfl hS (by decide) (zkd_of (rfl : zcd wR 26 = 76) rfl) (zln_of (rfl : zcd wR 26 = 76) rfl) rfl o167.1 o167.2 (by decide) dX12_makeTerm_281 ?_
                  refine lv_istore_n (lv' := [(3, .int (iI (M147 26 (sI a0).toNat))), (0, .ref (b + 0)), (1, .int (iI a0)), (2, .int (iI (24 * a0)))]) hx hb dX12_makeTerm_282 rfl hl (by decide) rfl (fun ls hl => ?_)
                  refine lv_aload_n hx hb dX12_makeTerm_283 rfl (lv_at hl 1 rfl) ?_
                  refine z_bipush hx hb (by decide) dX12_makeTerm_284 ?_
                  refine z_bipush hx hb (by decide) dX12_makeTerm_286 ?_
                  refine w_callz (va_runV (As := [.int (iI 126), .int (iI 126)]) (rest := []) ⟨hx, hb, hml, hown, hts⟩ (cR_has l D dA b M147 126 126 _ h) (cwV 2 hts (z_gV k1067 k1068 k1393 k14 k1069) rfl rfl rfl dm_X12_has ⟨by simp only [z_rm, headSpec]; omega, by simp only [z_rm, headSpec]; omega⟩) ⟨wPre_blind, (w_recv hS hK.1 (by decide) (zkd_of (rfl : zcd wR 0 = 50) rfl) (by decide) (rfl : vwCl[12]? = some (RX12, TX12, 50))), w_pre hS hK⟩ rfl rfl hl.1 rfl (lv_room (Nat.le_of_ble_eq_true rfl)) dX12_makeTerm_288 ⟨Nat.le_refl _, Nat.le_refl _⟩) hS0 (fun z169 M168 H locs r170 h hS hS0 => ?_)
                  obtain ⟨e171, h⟩ := h
                  rw [e171] at hS
                  refine w_if_eq (tgt := 372) hx hb (sI_01 r170) dX12_makeTerm_291 (by decide) (fun c172 => ?_) (fun c172 => ?_)
                  · skip
                    have h := h.1 c172
                    refine lv_aload_n hx hb dX12_makeTerm_372 rfl (lv_at hl 1 rfl) ?_
                    refine w_getr (j2 := 1) hx hb hts (z_memU u12) hown hK.1 hS f12_0 (by decide) (zkd_of (rfl : zcd wR 0 = 50) rfl) (zrf_of (rfl : zcd wR 0 = 50) rfl) (Or.inl (hts _ (z_mem k944))) dX12_makeTerm_373 ?_
                    refine lv_aload_n hx hb dX12_makeTerm_376 rfl (lv_at hl 1 rfl) ?_
                    refine w_geti hx hb hts (z_memU u12) hown hK.1 hS f12_36 (by decide) (zkd_of (rfl : zcd wR 0 = 50) rfl) (Or.inl (hts _ (z_mem k980))) dX12_makeTerm_377 ?_
                    refine z_iconst hx hb dX12_makeTerm_380 ?_
                    refine z_iadd hx hb dX12_makeTerm_381 ?_
                    obtain ⟨o173, h⟩ := h
                    refine w_bald (n := 100) (i := (sI ((M147 0 36) + 1))) hx hb hK.1 (t0 := 2) rfl hS (by decide) (zkd_of (rfl : zcd wR 1 = 51) rfl) (zln_of (rfl : zcd wR 1 = 51) rfl) rfl o173.1 o173.2 (by decide) dX12_makeTerm_382 ?_
                    refine z_bipush hx hb (by decide) dX12_makeTerm_383 ?_
                    refine z_isub hx hb dX12_makeTerm_385 ?_
                    obtain ⟨t174, e175⟩ : ∃ t174 : Int, t174 = ((M147 1 (sI ((M147 0 36) + 1)).toNat) - 48) := ⟨_, rfl⟩
                    refine z_top (y := t174) e175.symm ?_
                    have h := h t174 e175
                    refine lv_istore (lv' := [(4, .int (iI t174)), (3, .int (iI (M147 26 (sI a0).toNat))), (0, .ref (b + 0)), (1, .int (iI a0)), (2, .int (iI (24 * a0)))]) hx hb dX12_makeTerm_386 hl (by decide) rfl (fun ls hl => ?_)
                    refine lv_aload_n hx hb dX12_makeTerm_388 rfl (lv_at hl 2 rfl) ?_
                    refine lv_dup hx hb dX12_makeTerm_389 rfl ?_
                    refine w_geti hx hb hts (z_memU u12) hown hK.1 hS f12_36 (by decide) (zkd_of (rfl : zcd wR 0 = 50) rfl) (Or.inl (hts _ (z_mem k980))) dX12_makeTerm_390 ?_
                    refine z_iconst hx hb dX12_makeTerm_393 ?_
                    refine z_iadd hx hb dX12_makeTerm_394 ?_
                    refine w_puti hx hb hts (z_memU u12) tyX12 tyX12_ok nmX12 hown hK.1 hS hS0 f12_36 (by decide) (zkd_of (rfl : zcd wR 0 = 50) rfl) (Or.inl (hts _ (z_mem k980))) rfl (z := ((M147 0 36) + 2)) (by decide +kernel) dX12_makeTerm_395 (fun H locs hS hS0 => ?_)
                    obtain ⟨M176, e177⟩ : ∃ M176 : zM, M176 = zup M147 0 36 ((M147 0 36) + 2) := ⟨_, rfl⟩
                    rw [← e177] at hS
                    have h := h M176 e177
                    refine lv_iload_n hx hb dX12_makeTerm_398 rfl (lv_at hl 1 rfl) ?_
                    refine lv_iload hx hb dX12_makeTerm_399 (lv_at hl 0 rfl) ?_
                    refine z_imul hx hb dX12_makeTerm_401 ?_
                    refine z_bipush hx hb (by decide) dX12_makeTerm_402 ?_
                    refine w_icmp_le (tgt := 410) hx hb rfl (sI_of (by decide)) dX12_makeTerm_404 (by decide) (fun c178 => ?_) (fun c178 => ?_)
                    · skip
                      have h := h.1 c178
                      refine lv_iload_n hx hb dX12_makeTerm_410 rfl (lv_at hl 1 rfl) ?_
                      refine lv_istore (lv' := [(5, .int (iI (M147 26 (sI a0).toNat))), (4, .int (iI t174)), (3, .int (iI (M147 26 (sI a0).toNat))), (0, .ref (b + 0)), (1, .int (iI a0)), (2, .int (iI (24 * a0)))]) hx hb dX12_makeTerm_411 hl (by decide) rfl (fun ls hl => ?_)
                      obtain ⟨I181, ⟨n182, h183⟩, h184⟩ := h
                      have L185 : ∀ (n186 : Nat) (x179 : Int) (M180 : zM) (H : Heap) (locs : List Loc) (ls : Array Slot), I181 n186 x179 M180 → zR D dA vwCl wR nR b M180 H → va_S (zA nR b) s.heap H locs → lv_has ls 6 [(0, .ref (b + 0)), (1, .int (iI a0)), (2, .int (iI (24 * a0))), (3, .int (iI (M147 26 (sI a0).toNat))), (4, .int (iI t174)), (5, .int (iI x179))] → W p l e (headSpec (.code yX12_makeTerm cX12_makeTerm 6 (some .int) :: zt) (z_rm (dd + 1))).room s m args below meth c H locs 0 0 (MQ below (va_Qi (wQi Q) (zB D dA vwCl wR nR b) (zA nR b)) args s 0 0 (zA nR b)) (F0 m 413 ls []) := by
                        intro n186
                        induction n186 using Nat.strongRecOn with
                        | ind n186 i187 =>
                          intro x179 M180 H locs ls h hS hS0 hl
                          have h := h184 n186 x179 M180 h
                          refine lv_iload hx hb dX12_makeTerm_413 (lv_at hl 5 rfl) ?_
                          refine lv_iload_n hx hb dX12_makeTerm_415 rfl (lv_at hl 3 rfl) ?_
                          refine lv_iload hx hb dX12_makeTerm_416 (lv_at hl 4 rfl) ?_
                          refine z_imul hx hb dX12_makeTerm_418 ?_
                          refine w_icmp_ge (tgt := 448) hx hb rfl rfl dX12_makeTerm_419 (by decide) (fun c188 => ?_) (fun c188 => ?_)
                          · skip
                            have h := h.1 c188
                            refine lv_aload_n hx hb dX12_makeTerm_448 rfl (lv_at hl 0 rfl) ?_
                            refine w_getr (j2 := 26) hx hb hts (z_memU u12) hown hK.1 hS f12_41 (by decide) (zkd_of (rfl : zcd wR 0 = 50) rfl) (zrf_of (rfl : zcd wR 0 = 50) rfl) (Or.inl (hts _ (z_mem k985))) dX12_makeTerm_449 ?_
                            refine lv_iload_n hx hb dX12_makeTerm_452 rfl (lv_at hl 1 rfl) ?_
                            refine lv_iload_n hx hb dX12_makeTerm_453 rfl (lv_at hl 3 rfl) ?_
                            refine lv_iload hx hb dX12_makeTerm_454 (lv_at hl 4 rfl) ?_
                            refine z_imul hx hb dX12_makeTerm_456 ?_
                            obtain ⟨o189, h⟩ := h
                            refine w_iast (z := ((M147 26 (sI a0).toNat) * t174)) (n := 6) (i := (sI a0)) hx hb hK.1 (t0 := 0) rfl hS hS0 (by decide) (zkd_of (rfl : zcd wR 26 = 76) rfl) (zln_of (rfl : zcd wR 26 = 76) rfl) rfl o189.1 o189.2 (by decide) dX12_makeTerm_457 (fun H locs hS hS0 => ?_)
                            obtain ⟨M190, e191⟩ : ∃ M190 : zM, M190 = zup M180 26 (sI a0).toNat ((M147 26 (sI a0).toNat) * t174) := ⟨_, rfl⟩
                            rw [← e191] at hS
                            have h := h M190 e191
                            refine lv_goto (tgt := 254) hx hb dX12_makeTerm_458 (by decide) ?_
                            obtain ⟨n192, h193, h⟩ := h
                            exact i154 n192 h193 M190 _ _ _ h hS hS0 (lv_sub hl [0, 1, 2] rfl)
                          · skip
                            have h := h.2 c188
                            refine lv_aload_n hx hb dX12_makeTerm_422 rfl (lv_at hl 0 rfl) ?_
                            refine w_getr (j2 := 25) hx hb hts (z_memU u12) hown hK.1 hS f12_40 (by decide) (zkd_of (rfl : zcd wR 0 = 50) rfl) (zrf_of (rfl : zcd wR 0 = 50) rfl) (Or.inl (hts _ (z_mem k984))) dX12_makeTerm_423 ?_
                            refine lv_iload_n hx hb dX12_makeTerm_426 rfl (lv_at hl 2 rfl) ?_
                            refine lv_iload hx hb dX12_makeTerm_427 (lv_at hl 5 rfl) ?_
                            refine z_iadd hx hb dX12_makeTerm_429 ?_
                            refine lv_aload_n hx hb dX12_makeTerm_430 rfl (lv_at hl 0 rfl) ?_
                            refine w_getr (j2 := 25) hx hb hts (z_memU u12) hown hK.1 hS f12_40 (by decide) (zkd_of (rfl : zcd wR 0 = 50) rfl) (zrf_of (rfl : zcd wR 0 = 50) rfl) (Or.inl (hts _ (z_mem k984))) dX12_makeTerm_431 ?_
                            refine lv_iload_n hx hb dX12_makeTerm_434 rfl (lv_at hl 2 rfl) ?_
                            refine lv_iload hx hb dX12_makeTerm_435 (lv_at hl 5 rfl) ?_
                            refine z_iadd hx hb dX12_makeTerm_437 ?_
                            refine lv_iload_n hx hb dX12_makeTerm_438 rfl (lv_at hl 3 rfl) ?_
                            refine z_isub hx hb dX12_makeTerm_439 ?_
                            obtain ⟨o194, h⟩ := h
                            refine w_iald (n := 144) (i := (sI (((24 * a0) + x179) - (M147 26 (sI a0).toNat)))) hx hb hK.1 (t0 := 0) rfl hS (by decide) (zkd_of (rfl : zcd wR 25 = 75) rfl) (zln_of (rfl : zcd wR 25 = 75) rfl) rfl o194.1 o194.2 (by decide) dX12_makeTerm_440 ?_
                            obtain ⟨o195, h⟩ := h
                            refine w_iast (z := (M180 25 (sI (((24 * a0) + x179) - (M147 26 (sI a0).toNat))).toNat)) (n := 144) (i := (sI ((24 * a0) + x179))) hx hb hK.1 (t0 := 0) rfl hS hS0 (by decide) (zkd_of (rfl : zcd wR 25 = 75) rfl) (zln_of (rfl : zcd wR 25 = 75) rfl) rfl o195.1 o195.2 (by decide) dX12_makeTerm_441 (fun H locs hS hS0 => ?_)
                            obtain ⟨M196, e197⟩ : ∃ M196 : zM, M196 = zup M180 25 (sI ((24 * a0) + x179)).toNat (M180 25 (sI (((24 * a0) + x179) - (M147 26 (sI a0).toNat))).toNat) := ⟨_, rfl⟩
                            rw [← e197] at hS
                            have h := h M196 e197
                            refine z_iinc (lv' := [(5, .int (iI (x179 + 1))), (0, .ref (b + 0)), (1, .int (iI a0)), (2, .int (iI (24 * a0))), (3, .int (iI (M147 26 (sI a0).toNat))), (4, .int (iI t174))]) hx hb dX12_makeTerm_442 hl (k := 5) rfl (by decide) rfl (fun ls hl => ?_)
                            refine lv_goto (tgt := 413) hx hb dX12_makeTerm_445 (by decide) ?_
                            obtain ⟨n198, h199, h⟩ := h
                            exact i187 n198 h199 (x179 + 1) M196 _ _ _ h hS hS0 (lv_sub hl [1, 2, 3, 4, 5, 0] rfl)
                      exact L185 n182 (M147 26 (sI a0).toNat) M176 _ _ _ h183 hS hS0 (lv_sub hl [3, 4, 5, 2, 1, 0] rfl)
                    · skip
                      have h := h.2 c178
                      refine z_bipush hx hb (by decide) dX12_makeTerm_407 ?_
                      exact w_iret hx hb hr hlocks hS hS0 (sI_of (by decide)) h dX12_makeTerm_409
                  · skip
                    have h := h.2 c172
                    refine lv_aload_n hx hb dX12_makeTerm_294 rfl (lv_at hl 1 rfl) ?_
                    refine lv_dup hx hb dX12_makeTerm_295 rfl ?_
                    refine w_geti hx hb hts (z_memU u12) hown hK.1 hS f12_36 (by decide) (zkd_of (rfl : zcd wR 0 = 50) rfl) (Or.inl (hts _ (z_mem k980))) dX12_makeTerm_296 ?_
                    refine z_iconst hx hb dX12_makeTerm_299 ?_
                    refine z_iadd hx hb dX12_makeTerm_300 ?_
                    refine w_puti hx hb hts (z_memU u12) tyX12 tyX12_ok nmX12 hown hK.1 hS hS0 f12_36 (by decide) (zkd_of (rfl : zcd wR 0 = 50) rfl) (Or.inl (hts _ (z_mem k980))) rfl (z := ((M147 0 36) + 1)) (by decide +kernel) dX12_makeTerm_301 (fun H locs hS hS0 => ?_)
                    obtain ⟨M200, e201⟩ : ∃ M200 : zM, M200 = zup M147 0 36 ((M147 0 36) + 1) := ⟨_, rfl⟩
                    rw [← e201] at hS
                    have h := h M200 e201
                    refine z_iconst hx hb dX12_makeTerm_304 ?_
                    refine lv_istore (lv' := [(4, .int (iI 0)), (3, .int (iI (M147 26 (sI a0).toNat))), (0, .ref (b + 0)), (1, .int (iI a0)), (2, .int (iI (24 * a0)))]) hx hb dX12_makeTerm_305 hl (by decide) rfl (fun ls hl => ?_)
                    obtain ⟨I204, ⟨n205, h206⟩, h207⟩ := h
                    have L208 : ∀ (n209 : Nat) (x202 : Int) (M203 : zM) (H : Heap) (locs : List Loc) (ls : Array Slot), I204 n209 x202 M203 → zR D dA vwCl wR nR b M203 H → va_S (zA nR b) s.heap H locs → lv_has ls 6 [(0, .ref (b + 0)), (1, .int (iI a0)), (2, .int (iI (24 * a0))), (3, .int (iI (M147 26 (sI a0).toNat))), (4, .int (iI x202))] → W p l e (headSpec (.code yX12_makeTerm cX12_makeTerm 6 (some .int) :: zt) (z_rm (dd + 1))).room s m args below meth c H locs 0 0 (MQ below (va_Qi (wQi Q) (zB D dA vwCl wR nR b) (zA nR b)) args s 0 0 (zA nR b)) (F0 m 307 ls []) := by
                      intro n209
                      induction n209 using Nat.strongRecOn with
                      | ind n209 i210 =>
                        intro x202 M203 H locs ls h hS hS0 hl
                        have h := h207 n209 x202 M203 h
                        refine lv_iload hx hb dX12_makeTerm_307 (lv_at hl 4 rfl) ?_
                        refine lv_iload_n hx hb dX12_makeTerm_309 rfl (lv_at hl 3 rfl) ?_
                        refine z_iconst hx hb dX12_makeTerm_310 ?_
                        refine w_idiv hx hb rfl (sI_of (by decide)) (by decide) dX12_makeTerm_311 ?_
                        refine w_icmp_ge (tgt := 369) hx hb rfl rfl dX12_makeTerm_312 (by decide) (fun c211 => ?_) (fun c211 => ?_)
                        · skip
                          have h := h.1 c211
                          refine lv_goto (tgt := 254) hx hb dX12_makeTerm_369 (by decide) ?_
                          obtain ⟨n212, h213, h⟩ := h
                          exact i154 n212 h213 M203 _ _ _ h hS hS0 (lv_sub hl [0, 1, 2] rfl)
                        · skip
                          have h := h.2 c211
                          refine lv_aload_n hx hb dX12_makeTerm_315 rfl (lv_at hl 0 rfl) ?_
                          refine w_getr (j2 := 25) hx hb hts (z_memU u12) hown hK.1 hS f12_40 (by decide) (zkd_of (rfl : zcd wR 0 = 50) rfl) (zrf_of (rfl : zcd wR 0 = 50) rfl) (Or.inl (hts _ (z_mem k984))) dX12_makeTerm_316 ?_
                          refine lv_iload_n hx hb dX12_makeTerm_319 rfl (lv_at hl 2 rfl) ?_
                          refine lv_iload hx hb dX12_makeTerm_320 (lv_at hl 4 rfl) ?_
                          refine z_iadd hx hb dX12_makeTerm_322 ?_
                          obtain ⟨o214, h⟩ := h
                          refine w_iald (n := 144) (i := (sI ((24 * a0) + x202))) hx hb hK.1 (t0 := 0) rfl hS (by decide) (zkd_of (rfl : zcd wR 25 = 75) rfl) (zln_of (rfl : zcd wR 25 = 75) rfl) rfl o214.1 o214.2 (by decide) dX12_makeTerm_323 ?_
                          refine lv_istore (lv' := [(5, .int (iI (M203 25 (sI ((24 * a0) + x202)).toNat))), (0, .ref (b + 0)), (1, .int (iI a0)), (2, .int (iI (24 * a0))), (3, .int (iI (M147 26 (sI a0).toNat))), (4, .int (iI x202))]) hx hb dX12_makeTerm_324 hl (by decide) rfl (fun ls hl => ?_)
                          refine lv_aload_n hx hb dX12_makeTerm_326 rfl (lv_at hl 1 rfl) ?_
                          refine w_getr (j2 := 25) hx hb hts (z_memU u12) hown hK.1 hS f12_40 (by decide) (zkd_of (rfl : zcd wR 0 = 50) rfl) (zrf_of (rfl : zcd wR 0 = 50) rfl) (Or.inl (hts _ (z_mem k984))) dX12_makeTerm_327 ?_
                          refine lv_iload_n hx hb dX12_makeTerm_330 rfl (lv_at hl 3 rfl) ?_
                          refine lv_iload hx hb dX12_makeTerm_331 (lv_at hl 5 rfl) ?_
                          refine z_iadd hx hb dX12_makeTerm_333 ?_
                          refine lv_aload_n hx hb dX12_makeTerm_334 rfl (lv_at hl 1 rfl) ?_
                          refine w_getr (j2 := 25) hx hb hts (z_memU u12) hown hK.1 hS f12_40 (by decide) (zkd_of (rfl : zcd wR 0 = 50) rfl) (zrf_of (rfl : zcd wR 0 = 50) rfl) (Or.inl (hts _ (z_mem k984))) dX12_makeTerm_335 ?_
                          refine lv_iload_n hx hb dX12_makeTerm_338 rfl (lv_at hl 3 rfl) ?_
                          refine lv_iload_n hx hb dX12_makeTerm_339 rfl (lv_at hl 4 rfl) ?_
                          refine z_iadd hx hb dX12_makeTerm_340 ?_
                          refine z_iconst hx hb dX12_makeTerm_341 ?_
                          refine z_isub hx hb dX12_makeTerm_342 ?_
                          refine lv_iload hx hb dX12_makeTerm_343 (lv_at hl 5 rfl) ?_
                          refine z_isub hx hb dX12_makeTerm_345 ?_
                          obtain ⟨o215, h⟩ := h
                          refine w_iald (n := 144) (i := (sI ((((24 * a0) + (M147 26 (sI a0).toNat)) - 1) - x202))) hx hb hK.1 (t0 := 0) rfl hS (by decide) (zkd_of (rfl : zcd wR 25 = 75) rfl) (zln_of (rfl : zcd wR 25 = 75) rfl) rfl o215.1 o215.2 (by decide) dX12_makeTerm_346 ?_
                          obtain ⟨o216, h⟩ := h
                          refine w_iast (z := (M203 25 (sI ((((24 * a0) + (M147 26 (sI a0).toNat)) - 1) - x202)).toNat)) (n := 144) (i := (sI ((24 * a0) + x202))) hx hb hK.1 (t0 := 0) rfl hS hS0 (by decide) (zkd_of (rfl : zcd wR 25 = 75) rfl) (zln_of (rfl : zcd wR 25 = 75) rfl) rfl o216.1 o216.2 (by decide) dX12_makeTerm_347 (fun H locs hS hS0 => ?_)
                          obtain ⟨M217, e218⟩ : ∃ M217 : zM, M217 = zup M203 25 (sI ((24 * a0) + x202)).toNat (M203 25 (sI ((((24 * a0) + (M147 26 (sI a0).toNat)) - 1) - x202)).toNat) := ⟨_, rfl⟩
                          rw [← e218] at hS
                          have h := h M217 e218
                          refine lv_aload_n hx hb dX12_makeTerm_348 rfl (lv_at hl 1 rfl) ?_
                          refine w_getr (j2 := 25) hx hb hts (z_memU u12) hown hK.1 hS f12_40 (by decide) (zkd_of (rfl : zcd wR 0 = 50) rfl) (zrf_of (rfl : zcd wR 0 = 50) rfl) (Or.inl (hts _ (z_mem k984))) dX12_makeTerm_349 ?_
                          refine lv_iload_n hx hb dX12_makeTerm_352 rfl (lv_at hl 3 rfl) ?_
                          refine lv_iload_n hx hb dX12_makeTerm_353 rfl (lv_at hl 4 rfl) ?_
                          refine z_iadd hx hb dX12_makeTerm_354 ?_
                          refine z_iconst hx hb dX12_makeTerm_355 ?_
                          refine z_isub hx hb dX12_makeTerm_356 ?_
                          refine lv_iload hx hb dX12_makeTerm_357 (lv_at hl 5 rfl) ?_
                          refine z_isub hx hb dX12_makeTerm_359 ?_
                          refine lv_iload hx hb dX12_makeTerm_360 (lv_at hl 0 rfl) ?_
                          obtain ⟨o219, h⟩ := h
                          refine w_iast (z := (M203 25 (sI ((24 * a0) + x202)).toNat)) (n := 144) (i := (sI ((((24 * a0) + (M147 26 (sI a0).toNat)) - 1) - x202))) hx hb hK.1 (t0 := 0) rfl hS hS0 (by decide) (zkd_of (rfl : zcd wR 25 = 75) rfl) (zln_of (rfl : zcd wR 25 = 75) rfl) rfl o219.1 o219.2 (by decide) dX12_makeTerm_362 (fun H locs hS hS0 => ?_)
                          obtain ⟨M220, e221⟩ : ∃ M220 : zM, M220 = zup M217 25 (sI ((((24 * a0) + (M147 26 (sI a0).toNat)) - 1) - x202)).toNat (M203 25 (sI ((24 * a0) + x202)).toNat) := ⟨_, rfl⟩
                          rw [← e221] at hS
                          have h := h M220 e221
                          refine z_iinc (lv' := [(4, .int (iI (x202 + 1))), (5, .int (iI (M203 25 (sI ((24 * a0) + x202)).toNat))), (0, .ref (b + 0)), (1, .int (iI a0)), (2, .int (iI (24 * a0))), (3, .int (iI (M147 26 (sI a0).toNat)))]) hx hb dX12_makeTerm_363 hl (k := 5) rfl (by decide) rfl (fun ls hl => ?_)
                          refine lv_goto (tgt := 307) hx hb dX12_makeTerm_366 (by decide) ?_
                          obtain ⟨n222, h223, h⟩ := h
                          exact i210 n222 h223 (x202 + 1) M220 _ _ _ h hS hS0 (lv_sub hl [2, 3, 4, 5, 0] rfl)
                    exact L208 n205 0 M200 _ _ _ h206 hS hS0 (lv_sub hl [2, 3, 4, 1, 0] rfl)
                refine w_if_ne (tgt := 276) hx hb (sI_01 r157) dX12_makeTerm_262 (by decide) (fun c224 => ?_) (fun c224 => ?_)
                · skip
                  have h := h.1 c224
                  exact L165 _ _ _ h hS hS0 (lv_sub hl [0, 1, 2] rfl)
                · skip
                  have h := h.2 c224
                  refine lv_aload_n hx hb dX12_makeTerm_265 rfl (lv_at hl 0 rfl) ?_
                  refine z_bipush hx hb (by decide) dX12_makeTerm_266 ?_
                  refine z_bipush hx hb (by decide) dX12_makeTerm_268 ?_
                  refine w_callz (va_runV (As := [.int (iI 42), .int (iI 42)]) (rest := []) ⟨hx, hb, hml, hown, hts⟩ (cR_has l D dA b M147 42 42 _ h) (cwV 2 hts (z_gV k1067 k1068 k1393 k14 k1069) rfl rfl rfl dm_X12_has ⟨by simp only [z_rm, headSpec]; omega, by simp only [z_rm, headSpec]; omega⟩) ⟨wPre_blind, (w_recv hS hK.1 (by decide) (zkd_of (rfl : zcd wR 0 = 50) rfl) (by decide) (rfl : vwCl[12]? = some (RX12, TX12, 50))), w_pre hS hK⟩ rfl rfl hl.1 rfl (lv_room (Nat.le_of_ble_eq_true rfl)) dX12_makeTerm_270 ⟨Nat.le_refl _, Nat.le_refl _⟩) hS0 (fun z226 M225 H locs r227 h hS hS0 => ?_)
                  obtain ⟨e228, h⟩ := h
                  rw [e228] at hS
                  refine w_if_eq (tgt := 461) hx hb (sI_01 r227) dX12_makeTerm_273 (by decide) (fun c229 => ?_) (fun c229 => ?_)
                  · skip
                    have h := h.1 c229
                    refine z_iconst hx hb dX12_makeTerm_461 ?_
                    exact w_iret hx hb hr hlocks hS hS0 (sI_of (by decide)) h dX12_makeTerm_462
                  · skip
                    have h := h.2 c229
                    exact L165 _ _ _ h hS hS0 (lv_sub hl [0, 1, 2] rfl)
            exact L152 n149 M145 _ _ _ h150 hS hS0 (lv_sub hl [0, 1, 2] rfl)
          · skip
            have h := h.2 c138
            refine lv_iload_n hx hb dX12_makeTerm_108 rfl (lv_at hl 3 rfl) ?_
            refine z_iconst hx hb dX12_makeTerm_109 ?_
            refine lv_aload_n hx hb dX12_makeTerm_110 rfl (lv_at hl 0 rfl) ?_
            refine w_getr (j2 := 1) hx hb hts (z_memU u12) hown hK.1 hS f12_0 (by decide) (zkd_of (rfl : zcd wR 0 = 50) rfl) (zrf_of (rfl : zcd wR 0 = 50) rfl) (Or.inl (hts _ (z_mem k944))) dX12_makeTerm_111 ?_
            refine lv_aload_n hx hb dX12_makeTerm_114 rfl (lv_at hl 0 rfl) ?_
            refine w_geti hx hb hts (z_memU u12) hown hK.1 hS f12_36 (by decide) (zkd_of (rfl : zcd wR 0 = 50) rfl) (Or.inl (hts _ (z_mem k980))) dX12_makeTerm_115 ?_
            obtain ⟨o230, h⟩ := h
            refine w_bald (n := 100) (i := (sI (M126 0 36))) hx hb hK.1 (t0 := 2) rfl hS (by decide) (zkd_of (rfl : zcd wR 1 = 51) rfl) (zln_of (rfl : zcd wR 1 = 51) rfl) rfl o230.1 o230.2 (by decide) dX12_makeTerm_118 ?_
            refine z_bipush hx hb (by decide) dX12_makeTerm_119 ?_
            refine z_isub hx hb dX12_makeTerm_121 ?_
            refine w_ishl hx hb dX12_makeTerm_122 ?_
            refine w_ior hx hb dX12_makeTerm_123 ?_
            obtain ⟨t231, e232⟩ : ∃ t231 : Int, t231 = (orI x125 (shlI 1 ((M126 1 (sI (M126 0 36)).toNat) - 48))) := ⟨_, rfl⟩
            refine z_top (y := t231) e232.symm ?_
            have h := h t231 e232
            refine lv_istore_n (lv' := [(3, .int (iI t231)), (0, .ref (b + 0)), (1, .int (iI a0)), (2, .int (iI (24 * a0)))]) hx hb dX12_makeTerm_124 rfl hl (by decide) rfl (fun ls hl => ?_)
            refine lv_aload_n hx hb dX12_makeTerm_125 rfl (lv_at hl 1 rfl) ?_
            refine lv_dup hx hb dX12_makeTerm_126 rfl ?_
            refine w_geti hx hb hts (z_memU u12) hown hK.1 hS f12_36 (by decide) (zkd_of (rfl : zcd wR 0 = 50) rfl) (Or.inl (hts _ (z_mem k980))) dX12_makeTerm_127 ?_
            refine z_iconst hx hb dX12_makeTerm_130 ?_
            refine z_iadd hx hb dX12_makeTerm_131 ?_
            refine w_puti hx hb hts (z_memU u12) tyX12 tyX12_ok nmX12 hown hK.1 hS hS0 f12_36 (by decide) (zkd_of (rfl : zcd wR 0 = 50) rfl) (Or.inl (hts _ (z_mem k980))) rfl (z := ((M126 0 36) + 1)) (by decide +kernel) dX12_makeTerm_132 (fun H locs hS hS0 => ?_)
            obtain ⟨M233, e234⟩ : ∃ M233 : zM, M233 = zup M126 0 36 ((M126 0 36) + 1) := ⟨_, rfl⟩
            rw [← e234] at hS
            have h := h M233 e234
            refine lv_goto (tgt := 97) hx hb dX12_makeTerm_135 (by decide) ?_
            obtain ⟨n235, h236, h⟩ := h
            exact i133 n235 h236 t231 M233 _ _ _ h hS hS0 (lv_sub hl [1, 2, 3, 0] rfl)
      exact L131 n128 0 M123 _ _ _ h129 hS hS0 (lv_sub hl [2, 3, 1, 0] rfl)
  · skip
    have h := h.2 c5
    refine lv_aload_n hx hb dX12_makeTerm_16 rfl (lv_at hl 1 rfl) ?_
    refine w_getr (j2 := 25) hx hb hts (z_memU u12) hown hK.1 hS f12_40 (by decide) (zkd_of (rfl : zcd wR 0 = 50) rfl) (zrf_of (rfl : zcd wR 0 = 50) rfl) (Or.inl (hts _ (z_mem k984))) dX12_makeTerm_17 ?_
    refine lv_iload_n hx hb dX12_makeTerm_20 rfl (lv_at hl 0 rfl) ?_
    refine lv_aload_n hx hb dX12_makeTerm_21 rfl (lv_at hl 1 rfl) ?_
    refine w_getr (j2 := 1) hx hb hts (z_memU u12) hown hK.1 hS f12_0 (by decide) (zkd_of (rfl : zcd wR 0 = 50) rfl) (zrf_of (rfl : zcd wR 0 = 50) rfl) (Or.inl (hts _ (z_mem k944))) dX12_makeTerm_22 ?_
    refine lv_aload_n hx hb dX12_makeTerm_25 rfl (lv_at hl 1 rfl) ?_
    refine w_geti hx hb hts (z_memU u12) hown hK.1 hS f12_36 (by decide) (zkd_of (rfl : zcd wR 0 = 50) rfl) (Or.inl (hts _ (z_mem k980))) dX12_makeTerm_26 ?_
    obtain ⟨o237, h⟩ := h
    refine w_bald (n := 100) (i := (sI (M 0 36))) hx hb hK.1 (t0 := 2) rfl hS (by decide) (zkd_of (rfl : zcd wR 1 = 51) rfl) (zln_of (rfl : zcd wR 1 = 51) rfl) rfl o237.1 o237.2 (by decide) dX12_makeTerm_29 ?_
    refine z_bipush hx hb (by decide) dX12_makeTerm_30 ?_
    obtain ⟨J53, B242, h⟩ := h
    have L241 : ∀ (x240 : Int) (H : Heap) (locs : List Loc) (ls : Array Slot), J53 x240 → zR D dA vwCl wR nR b M H → va_S (zA nR b) s.heap H locs → lv_has ls 6 [(0, .ref (b + 0)), (1, .int (iI a0)), (2, .int (iI (24 * a0)))] → W p l e (headSpec (.code yX12_makeTerm cX12_makeTerm 6 (some .int) :: zt) (z_rm (dd + 1))).room s m args below meth c H locs 0 0 (MQ below (va_Qi (wQi Q) (zB D dA vwCl wR nR b) (zA nR b)) args s 0 0 (zA nR b)) (F0 m 53 ls [.int (iI x240), .int (iI (24 * a0)), .ref (b + 25)]) := by
      intro x240 H locs ls h hS hS0 hl
      have h := B242 x240 h
      obtain ⟨o243, h⟩ := h
      refine w_iast (z := x240) (n := 144) (i := (sI (24 * a0))) hx hb hK.1 (t0 := 0) rfl hS hS0 (by decide) (zkd_of (rfl : zcd wR 25 = 75) rfl) (zln_of (rfl : zcd wR 25 = 75) rfl) rfl o243.1 o243.2 (by decide) dX12_makeTerm_53 (fun H locs hS hS0 => ?_)
      obtain ⟨M244, e245⟩ : ∃ M244 : zM, M244 = zup M 25 (sI (24 * a0)).toNat x240 := ⟨_, rfl⟩
      rw [← e245] at hS
      have h := h M244 e245
      refine lv_aload_n hx hb dX12_makeTerm_54 rfl (lv_at hl 0 rfl) ?_
      refine w_getr (j2 := 26) hx hb hts (z_memU u12) hown hK.1 hS f12_41 (by decide) (zkd_of (rfl : zcd wR 0 = 50) rfl) (zrf_of (rfl : zcd wR 0 = 50) rfl) (Or.inl (hts _ (z_mem k985))) dX12_makeTerm_55 ?_
      refine lv_iload_n hx hb dX12_makeTerm_58 rfl (lv_at hl 1 rfl) ?_
      refine z_iconst hx hb dX12_makeTerm_59 ?_
      obtain ⟨o246, h⟩ := h
      refine w_iast (z := 1) (n := 6) (i := (sI a0)) hx hb hK.1 (t0 := 0) rfl hS hS0 (by decide) (zkd_of (rfl : zcd wR 26 = 76) rfl) (zln_of (rfl : zcd wR 26 = 76) rfl) rfl o246.1 o246.2 (by decide) dX12_makeTerm_60 (fun H locs hS hS0 => ?_)
      obtain ⟨M247, e248⟩ : ∃ M247 : zM, M247 = zup M244 26 (sI a0).toNat 1 := ⟨_, rfl⟩
      rw [← e248] at hS
      have h := h M247 e248
      refine lv_aload_n hx hb dX12_makeTerm_61 rfl (lv_at hl 0 rfl) ?_
      refine lv_dup hx hb dX12_makeTerm_62 rfl ?_
      refine w_geti hx hb hts (z_memU u12) hown hK.1 hS f12_36 (by decide) (zkd_of (rfl : zcd wR 0 = 50) rfl) (Or.inl (hts _ (z_mem k980))) dX12_makeTerm_63 ?_
      refine z_iconst hx hb dX12_makeTerm_66 ?_
      refine z_iadd hx hb dX12_makeTerm_67 ?_
      refine w_puti hx hb hts (z_memU u12) tyX12 tyX12_ok nmX12 hown hK.1 hS hS0 f12_36 (by decide) (zkd_of (rfl : zcd wR 0 = 50) rfl) (Or.inl (hts _ (z_mem k980))) rfl (z := ((M247 0 36) + 1)) (by decide +kernel) dX12_makeTerm_68 (fun H locs hS hS0 => ?_)
      obtain ⟨M249, e250⟩ : ∃ M249 : zM, M249 = zup M247 0 36 ((M247 0 36) + 1) := ⟨_, rfl⟩
      rw [← e250] at hS
      have h := h M249 e250
      refine lv_goto (tgt := 254) hx hb dX12_makeTerm_71 (by decide) ?_
      obtain ⟨I252, ⟨n253, h254⟩, h255⟩ := h
      have L256 : ∀ (n257 : Nat) (M251 : zM) (H : Heap) (locs : List Loc) (ls : Array Slot), I252 n257 M251 → zR D dA vwCl wR nR b M251 H → va_S (zA nR b) s.heap H locs → lv_has ls 6 [(0, .ref (b + 0)), (1, .int (iI a0)), (2, .int (iI (24 * a0)))] → W p l e (headSpec (.code yX12_makeTerm cX12_makeTerm 6 (some .int) :: zt) (z_rm (dd + 1))).room s m args below meth c H locs 0 0 (MQ below (va_Qi (wQi Q) (zB D dA vwCl wR nR b) (zA nR b)) args s 0 0 (zA nR b)) (F0 m 254 ls []) := by
        intro n257
        induction n257 using Nat.strongRecOn with
        | ind n257 i258 =>
          intro M251 H locs ls h hS hS0 hl
          have h := h255 n257 M251 h
          refine lv_aload_n hx hb dX12_makeTerm_254 rfl (lv_at hl 0 rfl) ?_
          refine z_bipush hx hb (by decide) dX12_makeTerm_255 ?_
          refine z_bipush hx hb (by decide) dX12_makeTerm_257 ?_
          refine w_callz (va_runV (As := [.int (iI 126), .int (iI 126)]) (rest := []) ⟨hx, hb, hml, hown, hts⟩ (cR_has l D dA b M251 126 126 _ h) (cwV 2 hts (z_gV k1067 k1068 k1393 k14 k1069) rfl rfl rfl dm_X12_has ⟨by simp only [z_rm, headSpec]; omega, by simp only [z_rm, headSpec]; omega⟩) ⟨wPre_blind, (w_recv hS hK.1 (by decide) (zkd_of (rfl : zcd wR 0 = 50) rfl) (by decide) (rfl : vwCl[12]? = some (RX12, TX12, 50))), w_pre hS hK⟩ rfl rfl hl.1 rfl (lv_room (Nat.le_of_ble_eq_true rfl)) dX12_makeTerm_259 ⟨Nat.le_refl _, Nat.le_refl _⟩) hS0 (fun z260 M259 H locs r261 h hS hS0 => ?_)
          obtain ⟨e262, h⟩ := h
          rw [e262] at hS
          obtain ⟨J276, B270, h⟩ := h
          have L269 : ∀ (H : Heap) (locs : List Loc) (ls : Array Slot), J276 → zR D dA vwCl wR nR b M251 H → va_S (zA nR b) s.heap H locs → lv_has ls 6 [(0, .ref (b + 0)), (1, .int (iI a0)), (2, .int (iI (24 * a0)))] → W p l e (headSpec (.code yX12_makeTerm cX12_makeTerm 6 (some .int) :: zt) (z_rm (dd + 1))).room s m args below meth c H locs 0 0 (MQ below (va_Qi (wQi Q) (zB D dA vwCl wR nR b) (zA nR b)) args s 0 0 (zA nR b)) (F0 m 276 ls []) := by
            intro  H locs ls h hS hS0 hl
            have h := B270 h
            refine lv_aload_n hx hb dX12_makeTerm_276 rfl (lv_at hl 0 rfl) ?_
            refine w_getr (j2 := 26) hx hb hts (z_memU u12) hown hK.1 hS f12_41 (by decide) (zkd_of (rfl : zcd wR 0 = 50) rfl) (zrf_of (rfl : zcd wR 0 = 50) rfl) (Or.inl (hts _ (z_mem k985))) dX12_makeTerm_277 ?_
            refine lv_iload_n hx hb dX12_makeTerm_280 rfl (lv_at hl 1 rfl) ?_
            obtain ⟨o271, h⟩ := h
            refine w_iald (n := 6) (i := (sI a0)) hx hb hK.1 (t0 := 0) rfl hS (by decide) (zkd_of (rfl : zcd wR 26 = 76) rfl) (zln_of (rfl : zcd wR 26 = 76) rfl) rfl o271.1 o271.2 (by decide) dX12_makeTerm_281 ?_
            refine lv_istore_n (lv' := [(3, .int (iI (M251 26 (sI a0).toNat))), (0, .ref (b + 0)), (1, .int (iI a0)), (2, .int (iI (24 * a0)))]) hx hb dX12_makeTerm_282 rfl hl (by decide) rfl (fun ls hl => ?_)
            refine lv_aload_n hx hb dX12_makeTerm_283 rfl (lv_at hl 1 rfl) ?_
            refine z_bipush hx hb (by decide) dX12_makeTerm_284 ?_
            refine z_bipush hx hb (by decide) dX12_makeTerm_286 ?_
            refine w_callz (va_runV (As := [.int (iI 126), .int (iI 126)]) (rest := []) ⟨hx, hb, hml, hown, hts⟩ (cR_has l D dA b M251 126 126 _ h) (cwV 2 hts (z_gV k1067 k1068 k1393 k14 k1069) rfl rfl rfl dm_X12_has ⟨by simp only [z_rm, headSpec]; omega, by simp only [z_rm, headSpec]; omega⟩) ⟨wPre_blind, (w_recv hS hK.1 (by decide) (zkd_of (rfl : zcd wR 0 = 50) rfl) (by decide) (rfl : vwCl[12]? = some (RX12, TX12, 50))), w_pre hS hK⟩ rfl rfl hl.1 rfl (lv_room (Nat.le_of_ble_eq_true rfl)) dX12_makeTerm_288 ⟨Nat.le_refl _, Nat.le_refl _⟩) hS0 (fun z273 M272 H locs r274 h hS hS0 => ?_)
            obtain ⟨e275, h⟩ := h
            rw [e275] at hS
            refine w_if_eq (tgt := 372) hx hb (sI_01 r274) dX12_makeTerm_291 (by decide) (fun c276 => ?_) (fun c276 => ?_)
            · skip
              have h := h.1 c276
              refine lv_aload_n hx hb dX12_makeTerm_372 rfl (lv_at hl 1 rfl) ?_
              refine w_getr (j2 := 1) hx hb hts (z_memU u12) hown hK.1 hS f12_0 (by decide) (zkd_of (rfl : zcd wR 0 = 50) rfl) (zrf_of (rfl : zcd wR 0 = 50) rfl) (Or.inl (hts _ (z_mem k944))) dX12_makeTerm_373 ?_
              refine lv_aload_n hx hb dX12_makeTerm_376 rfl (lv_at hl 1 rfl) ?_
              refine w_geti hx hb hts (z_memU u12) hown hK.1 hS f12_36 (by decide) (zkd_of (rfl : zcd wR 0 = 50) rfl) (Or.inl (hts _ (z_mem k980))) dX12_makeTerm_377 ?_
              refine z_iconst hx hb dX12_makeTerm_380 ?_
              refine z_iadd hx hb dX12_makeTerm_381 ?_
              obtain ⟨o277, h⟩ := h
              refine w_bald (n := 100) (i := (sI ((M251 0 36) + 1))) hx hb hK.1 (t0 := 2) rfl hS (by decide) (zkd_of (rfl : zcd wR 1 = 51) rfl) (zln_of (rfl : zcd wR 1 = 51) rfl) rfl o277.1 o277.2 (by decide) dX12_makeTerm_382 ?_
              refine z_bipush hx hb (by decide) dX12_makeTerm_383 ?_
              refine z_isub hx hb dX12_makeTerm_385 ?_
              obtain ⟨t278, e279⟩ : ∃ t278 : Int, t278 = ((M251 1 (sI ((M251 0 36) + 1)).toNat) - 48) := ⟨_, rfl⟩
              refine z_top (y := t278) e279.symm ?_
              have h := h t278 e279
              refine lv_istore (lv' := [(4, .int (iI t278)), (3, .int (iI (M251 26 (sI a0).toNat))), (0, .ref (b + 0)), (1, .int (iI a0)), (2, .int (iI (24 * a0)))]) hx hb dX12_makeTerm_386 hl (by decide) rfl (fun ls hl => ?_)
              refine lv_aload_n hx hb dX12_makeTerm_388 rfl (lv_at hl 2 rfl) ?_
              refine lv_dup hx hb dX12_makeTerm_389 rfl ?_
              refine w_geti hx hb hts (z_memU u12) hown hK.1 hS f12_36 (by decide) (zkd_of (rfl : zcd wR 0 = 50) rfl) (Or.inl (hts _ (z_mem k980))) dX12_makeTerm_390 ?_
              refine z_iconst hx hb dX12_makeTerm_393 ?_
              refine z_iadd hx hb dX12_makeTerm_394 ?_
              refine w_puti hx hb hts (z_memU u12) tyX12 tyX12_ok nmX12 hown hK.1 hS hS0 f12_36 (by decide) (zkd_of (rfl : zcd wR 0 = 50) rfl) (Or.inl (hts _ (z_mem k980))) rfl (z := ((M251 0 36) + 2)) (by decide +kernel) dX12_makeTerm_395 (fun H locs hS hS0 => ?_)
              obtain ⟨M280, e281⟩ : ∃ M280 : zM, M280 = zup M251 0 36 ((M251 0 36) + 2) := ⟨_, rfl⟩
              rw [← e281] at hS
              have h := h M280 e281
              refine lv_iload_n hx hb dX12_makeTerm_398 rfl (lv_at hl 1 rfl) ?_
              refine lv_iload hx hb dX12_makeTerm_399 (lv_at hl 0 rfl) ?_
              refine z_imul hx hb dX12_makeTerm_401 ?_
              refine z_bipush hx hb (by decide) dX12_makeTerm_402 ?_
              refine w_icmp_le (tgt := 410) hx hb rfl (sI_of (by decide)) dX12_makeTerm_404 (by decide) (fun c282 => ?_) (fun c282 => ?_)
              · skip
                have h := h.1 c282
                refine lv_iload_n hx hb dX12_makeTerm_410 rfl (lv_at hl 1 rfl) ?_
                refine lv_istore (lv' := [(5, .int (iI (M251 26 (sI a0).toNat))), (4, .int (iI t278)), (3, .int (iI (M251 26 (sI a0).toNat))), (0, .ref (b + 0)), (1, .int (iI a0)), (2, .int (iI (24 * a0)))]) hx hb dX12_makeTerm_411 hl (by decide) rfl (fun ls hl => ?_)
                obtain ⟨I285, ⟨n286, h287⟩, h288⟩ := h
                have L289 : ∀ (n290 : Nat) (x283 : Int) (M284 : zM) (H : Heap) (locs : List Loc) (ls : Array Slot), I285 n290 x283 M284 → zR D dA vwCl wR nR b M284 H → va_S (zA nR b) s.heap H locs → lv_has ls 6 [(0, .ref (b + 0)), (1, .int (iI a0)), (2, .int (iI (24 * a0))), (3, .int (iI (M251 26 (sI a0).toNat))), (4, .int (iI t278)), (5, .int (iI x283))] → W p l e (headSpec (.code yX12_makeTerm cX12_makeTerm 6 (some .int) :: zt) (z_rm (dd + 1))).room s m args below meth c H locs 0 0 (MQ below (va_Qi (wQi Q) (zB D dA vwCl wR nR b) (zA nR b)) args s 0 0 (zA nR b)) (F0 m 413 ls []) := by
                  intro n290
                  induction n290 using Nat.strongRecOn with
                  | ind n290 i291 =>
                    intro x283 M284 H locs ls h hS hS0 hl
                    have h := h288 n290 x283 M284 h
                    refine lv_iload hx hb dX12_makeTerm_413 (lv_at hl 5 rfl) ?_
                    refine lv_iload_n hx hb dX12_makeTerm_415 rfl (lv_at hl 3 rfl) ?_
                    refine lv_iload hx hb dX12_makeTerm_416 (lv_at hl 4 rfl) ?_
                    refine z_imul hx hb dX12_makeTerm_418 ?_
                    refine w_icmp_ge (tgt := 448) hx hb rfl rfl dX12_makeTerm_419 (by decide) (fun c292 => ?_) (fun c292 => ?_)
                    · skip
                      have h := h.1 c292
                      refine lv_aload_n hx hb dX12_makeTerm_448 rfl (lv_at hl 0 rfl) ?_
                      refine w_getr (j2 := 26) hx hb hts (z_memU u12) hown hK.1 hS f12_41 (by decide) (zkd_of (rfl : zcd wR 0 = 50) rfl) (zrf_of (rfl : zcd wR 0 = 50) rfl) (Or.inl (hts _ (z_mem k985))) dX12_makeTerm_449 ?_
                      refine lv_iload_n hx hb dX12_makeTerm_452 rfl (lv_at hl 1 rfl) ?_
                      refine lv_iload_n hx hb dX12_makeTerm_453 rfl (lv_at hl 3 rfl) ?_
                      refine lv_iload hx hb dX12_makeTerm_454 (lv_at hl 4 rfl) ?_
                      refine z_imul hx hb dX12_makeTerm_456 ?_
                      obtain ⟨o293, h⟩ := h
                      refine w_iast (z := ((M251 26 (sI a0).toNat) * t278)) (n := 6) (i := (sI a0)) hx hb hK.1 (t0 := 0) rfl hS hS0 (by decide) (zkd_of (rfl : zcd wR 26 = 76) rfl) (zln_of (rfl : zcd wR 26 = 76) rfl) rfl o293.1 o293.2 (by decide) dX12_makeTerm_457 (fun H locs hS hS0 => ?_)
                      obtain ⟨M294, e295⟩ : ∃ M294 : zM, M294 = zup M284 26 (sI a0).toNat ((M251 26 (sI a0).toNat) * t278) := ⟨_, rfl⟩
                      rw [← e295] at hS
                      have h := h M294 e295
                      refine lv_goto (tgt := 254) hx hb dX12_makeTerm_458 (by decide) ?_
                      obtain ⟨n296, h297, h⟩ := h
                      exact i258 n296 h297 M294 _ _ _ h hS hS0 (lv_sub hl [0, 1, 2] rfl)
                    · skip
                      have h := h.2 c292
                      refine lv_aload_n hx hb dX12_makeTerm_422 rfl (lv_at hl 0 rfl) ?_
                      refine w_getr (j2 := 25) hx hb hts (z_memU u12) hown hK.1 hS f12_40 (by decide) (zkd_of (rfl : zcd wR 0 = 50) rfl) (zrf_of (rfl : zcd wR 0 = 50) rfl) (Or.inl (hts _ (z_mem k984))) dX12_makeTerm_423 ?_
                      refine lv_iload_n hx hb dX12_makeTerm_426 rfl (lv_at hl 2 rfl) ?_
                      refine lv_iload hx hb dX12_makeTerm_427 (lv_at hl 5 rfl) ?_
                      refine z_iadd hx hb dX12_makeTerm_429 ?_
                      refine lv_aload_n hx hb dX12_makeTerm_430 rfl (lv_at hl 0 rfl) ?_
                      refine w_getr (j2 := 25) hx hb hts (z_memU u12) hown hK.1 hS f12_40 (by decide) (zkd_of (rfl : zcd wR 0 = 50) rfl) (zrf_of (rfl : zcd wR 0 = 50) rfl) (Or.inl (hts _ (z_mem k984))) dX12_makeTerm_431 ?_
                      refine lv_iload_n hx hb dX12_makeTerm_434 rfl (lv_at hl 2 rfl) ?_
                      refine lv_iload hx hb dX12_makeTerm_435 (lv_at hl 5 rfl) ?_
                      refine z_iadd hx hb dX12_makeTerm_437 ?_
                      refine lv_iload_n hx hb dX12_makeTerm_438 rfl (lv_at hl 3 rfl) ?_
                      refine z_isub hx hb dX12_makeTerm_439 ?_
                      obtain ⟨o298, h⟩ := h
                      refine w_iald (n := 144) (i := (sI (((24 * a0) + x283) - (M251 26 (sI a0).toNat)))) hx hb hK.1 (t0 := 0) rfl hS (by decide) (zkd_of (rfl : zcd wR 25 = 75) rfl) (zln_of (rfl : zcd wR 25 = 75) rfl) rfl o298.1 o298.2 (by decide) dX12_makeTerm_440 ?_
                      obtain ⟨o299, h⟩ := h
                      refine w_iast (z := (M284 25 (sI (((24 * a0) + x283) - (M251 26 (sI a0).toNat))).toNat)) (n := 144) (i := (sI ((24 * a0) + x283))) hx hb hK.1 (t0 := 0) rfl hS hS0 (by decide) (zkd_of (rfl : zcd wR 25 = 75) rfl) (zln_of (rfl : zcd wR 25 = 75) rfl) rfl o299.1 o299.2 (by decide) dX12_makeTerm_441 (fun H locs hS hS0 => ?_)
                      obtain ⟨M300, e301⟩ : ∃ M300 : zM, M300 = zup M284 25 (sI ((24 * a0) + x283)).toNat (M284 25 (sI (((24 * a0) + x283) - (M251 26 (sI a0).toNat))).toNat) := ⟨_, rfl⟩
                      rw [← e301] at hS
                      have h := h M300 e301
                      refine z_iinc (lv' := [(5, .int (iI (x283 + 1))), (0, .ref (b + 0)), (1, .int (iI a0)), (2, .int (iI (24 * a0))), (3, .int (iI (M251 26 (sI a0).toNat))), (4, .int (iI t278))]) hx hb dX12_makeTerm_442 hl (k := 5) rfl (by decide) rfl (fun ls hl => ?_)
                      refine lv_goto (tgt := 413) hx hb dX12_makeTerm_445 (by decide) ?_
                      obtain ⟨n302, h303, h⟩ := h
                      exact i291 n302 h303 (x283 + 1) M300 _ _ _ h hS hS0 (lv_sub hl [1, 2, 3, 4, 5, 0] rfl)
                exact L289 n286 (M251 26 (sI a0).toNat) M280 _ _ _ h287 hS hS0 (lv_sub hl [3, 4, 5, 2, 1, 0] rfl)
              · skip
                have h := h.2 c282
                refine z_bipush hx hb (by decide) dX12_makeTerm_407 ?_
                exact w_iret hx hb hr hlocks hS hS0 (sI_of (by decide)) h dX12_makeTerm_409
            · skip
              have h := h.2 c276
              refine lv_aload_n hx hb dX12_makeTerm_294 rfl (lv_at hl 1 rfl) ?_
              refine lv_dup hx hb dX12_makeTerm_295 rfl ?_
              refine w_geti hx hb hts (z_memU u12) hown hK.1 hS f12_36 (by decide) (zkd_of (rfl : zcd wR 0 = 50) rfl) (Or.inl (hts _ (z_mem k980))) dX12_makeTerm_296 ?_
              refine z_iconst hx hb dX12_makeTerm_299 ?_
              refine z_iadd hx hb dX12_makeTerm_300 ?_
              refine w_puti hx hb hts (z_memU u12) tyX12 tyX12_ok nmX12 hown hK.1 hS hS0 f12_36 (by decide) (zkd_of (rfl : zcd wR 0 = 50) rfl) (Or.inl (hts _ (z_mem k980))) rfl (z := ((M251 0 36) + 1)) (by decide +kernel) dX12_makeTerm_301 (fun H locs hS hS0 => ?_)
              obtain ⟨M304, e305⟩ : ∃ M304 : zM, M304 = zup M251 0 36 ((M251 0 36) + 1) := ⟨_, rfl⟩
              rw [← e305] at hS
              have h := h M304 e305
              refine z_iconst hx hb dX12_makeTerm_304 ?_
              refine lv_istore (lv' := [(4, .int (iI 0)), (3, .int (iI (M251 26 (sI a0).toNat))), (0, .ref (b + 0)), (1, .int (iI a0)), (2, .int (iI (24 * a0)))]) hx hb dX12_makeTerm_305 hl (by decide) rfl (fun ls hl => ?_)
              obtain ⟨I308, ⟨n309, h310⟩, h311⟩ := h
              have L312 : ∀ (n313 : Nat) (x306 : Int) (M307 : zM) (H : Heap) (locs : List Loc) (ls : Array Slot), I308 n313 x306 M307 → zR D dA vwCl wR nR b M307 H → va_S (zA nR b) s.heap H locs → lv_has ls 6 [(0, .ref (b + 0)), (1, .int (iI a0)), (2, .int (iI (24 * a0))), (3, .int (iI (M251 26 (sI a0).toNat))), (4, .int (iI x306))] → W p l e (headSpec (.code yX12_makeTerm cX12_makeTerm 6 (some .int) :: zt) (z_rm (dd + 1))).room s m args below meth c H locs 0 0 (MQ below (va_Qi (wQi Q) (zB D dA vwCl wR nR b) (zA nR b)) args s 0 0 (zA nR b)) (F0 m 307 ls []) := by
                intro n313
                induction n313 using Nat.strongRecOn with
                | ind n313 i314 =>
                  intro x306 M307 H locs ls h hS hS0 hl
                  have h := h311 n313 x306 M307 h
                  refine lv_iload hx hb dX12_makeTerm_307 (lv_at hl 4 rfl) ?_
                  refine lv_iload_n hx hb dX12_makeTerm_309 rfl (lv_at hl 3 rfl) ?_
                  refine z_iconst hx hb dX12_makeTerm_310 ?_
                  refine w_idiv hx hb rfl (sI_of (by decide)) (by decide) dX12_makeTerm_311 ?_
                  refine w_icmp_ge (tgt := 369) hx hb rfl rfl dX12_makeTerm_312 (by decide) (fun c315 => ?_) (fun c315 => ?_)
                  · skip
                    have h := h.1 c315
                    refine lv_goto (tgt := 254) hx hb dX12_makeTerm_369 (by decide) ?_
                    obtain ⟨n316, h317, h⟩ := h
                    exact i258 n316 h317 M307 _ _ _ h hS hS0 (lv_sub hl [0, 1, 2] rfl)
                  · skip
                    have h := h.2 c315
                    refine lv_aload_n hx hb dX12_makeTerm_315 rfl (lv_at hl 0 rfl) ?_
                    refine w_getr (j2 := 25) hx hb hts (z_memU u12) hown hK.1 hS f12_40 (by decide) (zkd_of (rfl : zcd wR 0 = 50) rfl) (zrf_of (rfl : zcd wR 0 = 50) rfl) (Or.inl (hts _ (z_mem k984))) dX12_makeTerm_316 ?_
                    refine lv_iload_n hx hb dX12_makeTerm_319 rfl (lv_at hl 2 rfl) ?_
                    refine lv_iload hx hb dX12_makeTerm_320 (lv_at hl 4 rfl) ?_
                    refine z_iadd hx hb dX12_makeTerm_322 ?_
                    obtain ⟨o318, h⟩ := h
                    refine w_iald (n := 144) (i := (sI ((24 * a0) + x306))) hx hb hK.1 (t0 := 0) rfl hS (by decide) (zkd_of (rfl : zcd wR 25 = 75) rfl) (zln_of (rfl : zcd wR 25 = 75) rfl) rfl o318.1 o318.2 (by decide) dX12_makeTerm_323 ?_
                    refine lv_istore (lv' := [(5, .int (iI (M307 25 (sI ((24 * a0) + x306)).toNat))), (0, .ref (b + 0)), (1, .int (iI a0)), (2, .int (iI (24 * a0))), (3, .int (iI (M251 26 (sI a0).toNat))), (4, .int (iI x306))]) hx hb dX12_makeTerm_324 hl (by decide) rfl (fun ls hl => ?_)
                    refine lv_aload_n hx hb dX12_makeTerm_326 rfl (lv_at hl 1 rfl) ?_
                    refine w_getr (j2 := 25) hx hb hts (z_memU u12) hown hK.1 hS f12_40 (by decide) (zkd_of (rfl : zcd wR 0 = 50) rfl) (zrf_of (rfl : zcd wR 0 = 50) rfl) (Or.inl (hts _ (z_mem k984))) dX12_makeTerm_327 ?_
                    refine lv_iload_n hx hb dX12_makeTerm_330 rfl (lv_at hl 3 rfl) ?_
                    refine lv_iload hx hb dX12_makeTerm_331 (lv_at hl 5 rfl) ?_
                    refine z_iadd hx hb dX12_makeTerm_333 ?_
                    refine lv_aload_n hx hb dX12_makeTerm_334 rfl (lv_at hl 1 rfl) ?_
                    refine w_getr (j2 := 25) hx hb hts (z_memU u12) hown hK.1 hS f12_40 (by decide) (zkd_of (rfl : zcd wR 0 = 50) rfl) (zrf_of (rfl : zcd wR 0 = 50) rfl) (Or.inl (hts _ (z_mem k984))) dX12_makeTerm_335 ?_
                    refine lv_iload_n hx hb dX12_makeTerm_338 rfl (lv_at hl 3 rfl) ?_
                    refine lv_iload_n hx hb dX12_makeTerm_339 rfl (lv_at hl 4 rfl) ?_
                    refine z_iadd hx hb dX12_makeTerm_340 ?_
                    refine z_iconst hx hb dX12_makeTerm_341 ?_
                    refine z_isub hx hb dX12_makeTerm_342 ?_
                    refine lv_iload hx hb dX12_makeTerm_343 (lv_at hl 5 rfl) ?_
                    refine z_isub hx hb dX12_makeTerm_345 ?_
                    obtain ⟨o319, h⟩ := h
                    refine w_iald (n := 144) (i := (sI ((((24 * a0) + (M251 26 (sI a0).toNat)) - 1) - x306))) hx hb hK.1 (t0 := 0) rfl hS (by decide) (zkd_of (rfl : zcd wR 25 = 75) rfl) (zln_of (rfl : zcd wR 25 = 75) rfl) rfl o319.1 o319.2 (by decide) dX12_makeTerm_346 ?_
                    obtain ⟨o320, h⟩ := h
                    refine w_iast (z := (M307 25 (sI ((((24 * a0) + (M251 26 (sI a0).toNat)) - 1) - x306)).toNat)) (n := 144) (i := (sI ((24 * a0) + x306))) hx hb hK.1 (t0 := 0) rfl hS hS0 (by decide) (zkd_of (rfl : zcd wR 25 = 75) rfl) (zln_of (rfl : zcd wR 25 = 75) rfl) rfl o320.1 o320.2 (by decide) dX12_makeTerm_347 (fun H locs hS hS0 => ?_)
                    obtain ⟨M321, e322⟩ : ∃ M321 : zM, M321 = zup M307 25 (sI ((24 * a0) + x306)).toNat (M307 25 (sI ((((24 * a0) + (M251 26 (sI a0).toNat)) - 1) - x306)).toNat) := ⟨_, rfl⟩
                    rw [← e322] at hS
                    have h := h M321 e322
                    refine lv_aload_n hx hb dX12_makeTerm_348 rfl (lv_at hl 1 rfl) ?_
                    refine w_getr (j2 := 25) hx hb hts (z_memU u12) hown hK.1 hS f12_40 (by decide) (zkd_of (rfl : zcd wR 0 = 50) rfl) (zrf_of (rfl : zcd wR 0 = 50) rfl) (Or.inl (hts _ (z_mem k984))) dX12_makeTerm_349 ?_
                    refine lv_iload_n hx hb dX12_makeTerm_352 rfl (lv_at hl 3 rfl) ?_
                    refine lv_iload_n hx hb dX12_makeTerm_353 rfl (lv_at hl 4 rfl) ?_
                    refine z_iadd hx hb dX12_makeTerm_354 ?_
                    refine z_iconst hx hb dX12_makeTerm_355 ?_
                    refine z_isub hx hb dX12_makeTerm_356 ?_
                    refine lv_iload hx hb dX12_makeTerm_357 (lv_at hl 5 rfl) ?_
                    refine z_isub hx hb dX12_makeTerm_359 ?_
                    refine lv_iload hx hb dX12_makeTerm_360 (lv_at hl 0 rfl) ?_
                    obtain ⟨o323, h⟩ := h
                    refine w_iast (z := (M307 25 (sI ((24 * a0) + x306)).toNat)) (n := 144) (i := (sI ((((24 * a0) + (M251 26 (sI a0).toNat)) - 1) - x306))) hx hb hK.1 (t0 := 0) rfl hS hS0 (by decide) (zkd_of (rfl : zcd wR 25 = 75) rfl) (zln_of (rfl : zcd wR 25 = 75) rfl) rfl o323.1 o323.2 (by decide) dX12_makeTerm_362 (fun H locs hS hS0 => ?_)
                    obtain ⟨M324, e325⟩ : ∃ M324 : zM, M324 = zup M321 25 (sI ((((24 * a0) + (M251 26 (sI a0).toNat)) - 1) - x306)).toNat (M307 25 (sI ((24 * a0) + x306)).toNat) := ⟨_, rfl⟩
                    rw [← e325] at hS
                    have h := h M324 e325
                    refine z_iinc (lv' := [(4, .int (iI (x306 + 1))), (5, .int (iI (M307 25 (sI ((24 * a0) + x306)).toNat))), (0, .ref (b + 0)), (1, .int (iI a0)), (2, .int (iI (24 * a0))), (3, .int (iI (M251 26 (sI a0).toNat)))]) hx hb dX12_makeTerm_363 hl (k := 5) rfl (by decide) rfl (fun ls hl => ?_)
                    refine lv_goto (tgt := 307) hx hb dX12_makeTerm_366 (by decide) ?_
                    obtain ⟨n326, h327, h⟩ := h
                    exact i314 n326 h327 (x306 + 1) M324 _ _ _ h hS hS0 (lv_sub hl [2, 3, 4, 5, 0] rfl)
              exact L312 n309 0 M304 _ _ _ h310 hS hS0 (lv_sub hl [2, 3, 4, 1, 0] rfl)
          refine w_if_ne (tgt := 276) hx hb (sI_01 r261) dX12_makeTerm_262 (by decide) (fun c328 => ?_) (fun c328 => ?_)
          · skip
            have h := h.1 c328
            exact L269 _ _ _ h hS hS0 (lv_sub hl [0, 1, 2] rfl)
          · skip
            have h := h.2 c328
            refine lv_aload_n hx hb dX12_makeTerm_265 rfl (lv_at hl 0 rfl) ?_
            refine z_bipush hx hb (by decide) dX12_makeTerm_266 ?_
            refine z_bipush hx hb (by decide) dX12_makeTerm_268 ?_
            refine w_callz (va_runV (As := [.int (iI 42), .int (iI 42)]) (rest := []) ⟨hx, hb, hml, hown, hts⟩ (cR_has l D dA b M251 42 42 _ h) (cwV 2 hts (z_gV k1067 k1068 k1393 k14 k1069) rfl rfl rfl dm_X12_has ⟨by simp only [z_rm, headSpec]; omega, by simp only [z_rm, headSpec]; omega⟩) ⟨wPre_blind, (w_recv hS hK.1 (by decide) (zkd_of (rfl : zcd wR 0 = 50) rfl) (by decide) (rfl : vwCl[12]? = some (RX12, TX12, 50))), w_pre hS hK⟩ rfl rfl hl.1 rfl (lv_room (Nat.le_of_ble_eq_true rfl)) dX12_makeTerm_270 ⟨Nat.le_refl _, Nat.le_refl _⟩) hS0 (fun z330 M329 H locs r331 h hS hS0 => ?_)
            obtain ⟨e332, h⟩ := h
            rw [e332] at hS
            refine w_if_eq (tgt := 461) hx hb (sI_01 r331) dX12_makeTerm_273 (by decide) (fun c333 => ?_) (fun c333 => ?_)
            · skip
              have h := h.1 c333
              refine z_iconst hx hb dX12_makeTerm_461 ?_
              exact w_iret hx hb hr hlocks hS hS0 (sI_of (by decide)) h dX12_makeTerm_462
            · skip
              have h := h.2 c333
              exact L269 _ _ _ h hS hS0 (lv_sub hl [0, 1, 2] rfl)
      exact L256 n253 M249 _ _ _ h254 hS hS0 (lv_sub hl [0, 1, 2] rfl)
    refine w_icmp_ne (tgt := 39) hx hb rfl (sI_of (by decide)) dX12_makeTerm_32 (by decide) (fun c334 => ?_) (fun c334 => ?_)
    · skip
      have h := h.1 c334
      refine z_iconst hx hb dX12_makeTerm_39 ?_
      refine lv_aload_n hx hb dX12_makeTerm_40 rfl (lv_at hl 1 rfl) ?_
      refine w_getr (j2 := 1) hx hb hts (z_memU u12) hown hK.1 hS f12_0 (by decide) (zkd_of (rfl : zcd wR 0 = 50) rfl) (zrf_of (rfl : zcd wR 0 = 50) rfl) (Or.inl (hts _ (z_mem k944))) dX12_makeTerm_41 ?_
      refine lv_aload_n hx hb dX12_makeTerm_44 rfl (lv_at hl 1 rfl) ?_
      refine w_geti hx hb hts (z_memU u12) hown hK.1 hS f12_36 (by decide) (zkd_of (rfl : zcd wR 0 = 50) rfl) (Or.inl (hts _ (z_mem k980))) dX12_makeTerm_45 ?_
      obtain ⟨o335, h⟩ := h
      refine w_bald (n := 100) (i := (sI (M 0 36))) hx hb hK.1 (t0 := 2) rfl hS (by decide) (zkd_of (rfl : zcd wR 1 = 51) rfl) (zln_of (rfl : zcd wR 1 = 51) rfl) rfl o335.1 o335.2 (by decide) dX12_makeTerm_48 ?_
      refine z_bipush hx hb (by decide) dX12_makeTerm_49 ?_
      refine z_isub hx hb dX12_makeTerm_51 ?_
      refine w_ishl hx hb dX12_makeTerm_52 ?_
      exact L241 (shlI 1 ((M 1 (sI (M 0 36)).toNat) - 48)) _ _ _ h hS hS0 (lv_sub hl [1, 2, 0] rfl)
    · skip
      have h := h.2 c334
      refine z_iconst hx hb dX12_makeTerm_35 ?_
      refine lv_goto (tgt := 53) hx hb dX12_makeTerm_36 (by decide) ?_
      exact L241 0 _ _ _ h hS hS0 (lv_sub hl [1, 2, 0] rfl)

def wR_makeRow : Nat → Int → zM → (Int → zM → Prop) → Prop
  | 0 => fun _ _ _ => False
  | n + 1 => wR_makeRow_F (wR_makeTerm_F (wR_makeRow n))
set_option maxHeartbeats 4000000 in
set_option maxRecDepth 100000 in
theorem cR_makeRow (n : Nat) (l : Launch) (D : va_G) (dA : Nat → ClassId) : ∀ (b : Nat) (M : zM) (a0 : Int)  (Q : Int → zM → Prop), wR_makeRow n a0 M Q → Met l yX12_makeRow (.code yX12_makeRow cX12_makeRow 7 (some .int) :: zt) (z_rm (2 * n + 1)) (va_Pc [.ref (b + 0), .int (iI a0)] (wPre D dA vwCl (z_tys dA) wR nR b M)) (va_Qi (wQi Q) (zB D dA vwCl wR nR b) (zA nR b)) 0 0 (zA nR b) := by
  induction n with
  | zero => intro b M a0  Q h; exact h.elim
  | succ n ih =>
    intro b M a0  Q h
    rw [show 2 * (n + 1) + 1 = 2 * n + 1 + 1 + 1 from by omega]
    exact cR_makeRow_F (2 * n + 1 + 1) _ l D dA (by omega) (fun b M a0  Q h => cR_makeTerm_F (2 * n + 1) _ l D dA (by omega) ih b M a0  Q h) b M a0  Q h
end zz10_w14
section zz10_w15
/-! the W layer, 15 -/
theorem q10w15_0_0 : (cX12_hand.data.toList.drop 0).take 24 = [42, 3, 181, 0, 118, 27, 3, 42, 180, 0, 162, 4, 100, 184, 0, 124, 153, 0, 12, 42, 180, 0, 13, 27] := by decide +kernel
theorem q10w15_0_24 : (cX12_hand.data.toList.drop 24).take 6 = [46, 167, 0, 4, 2, 172] := by decide +kernel
theorem dX12_hand_0 : decode cX12_hand 0 = .ok (.aload_n 0, 1) := dz_42 (dz_at q10w15_0_0 0)
theorem dX12_hand_1 : decode cX12_hand 1 = .ok (.iconst 0, 1) := dz_3 (dz_at q10w15_0_0 1)
theorem dX12_hand_11 : decode cX12_hand 11 = .ok (.iconst 1, 1) := dz_4 (dz_at q10w15_0_0 11)
theorem dX12_hand_12 : decode cX12_hand 12 = .ok (.isub, 1) := dz_100 (dz_at q10w15_0_0 12)
theorem dX12_hand_13 : decode cX12_hand 13 = .ok (.invokestatic 124, 3) := dz_184 (dz_at q10w15_0_0 13) rfl
theorem dX12_hand_16 : decode cX12_hand 16 = .ok (.ifCond .eq 12, 3) := dz_153 (dz_at q10w15_0_0 16) (by decide +kernel)
theorem dX12_hand_19 : decode cX12_hand 19 = .ok (.aload_n 0, 1) := dz_42 (dz_at q10w15_0_0 19)
theorem dX12_hand_2 : decode cX12_hand 2 = .ok (.putfield 118, 3) := dz_181 (dz_at q10w15_0_0 2) rfl
theorem dX12_hand_20 : decode cX12_hand 20 = .ok (.getfield 13, 3) := dz_180 (dz_at q10w15_0_0 20) rfl
theorem dX12_hand_23 : decode cX12_hand 23 = .ok (.iload_n 1, 1) := dz_27 (dz_at q10w15_0_0 23)
theorem dX12_hand_24 : decode cX12_hand 24 = .ok (.iaload, 1) := dz_46 (dz_at q10w15_0_24 0)
theorem dX12_hand_25 : decode cX12_hand 25 = .ok (.goto 4, 3) := dz_167 (dz_at q10w15_0_24 1) (by decide +kernel)
theorem dX12_hand_28 : decode cX12_hand 28 = .ok (.iconst (-1), 1) := dz_2 (dz_at q10w15_0_24 4)
theorem dX12_hand_29 : decode cX12_hand 29 = .ok (.ireturn, 1) := dz_172 (dz_at q10w15_0_24 5)
theorem dX12_hand_5 : decode cX12_hand 5 = .ok (.iload_n 1, 1) := dz_27 (dz_at q10w15_0_0 5)
theorem dX12_hand_6 : decode cX12_hand 6 = .ok (.iconst 0, 1) := dz_3 (dz_at q10w15_0_0 6)
theorem dX12_hand_7 : decode cX12_hand 7 = .ok (.aload_n 0, 1) := dz_42 (dz_at q10w15_0_0 7)
theorem dX12_hand_8 : decode cX12_hand 8 = .ok (.getfield 162, 3) := dz_180 (dz_at q10w15_0_0 8) rfl
theorem q10w15_1_0 : (cX12_over.data.toList.drop 0).take 23 = [42, 3, 181, 0, 118, 42, 27, 182, 0, 168, 153, 0, 35, 28, 3, 42, 180, 0, 20, 27, 46, 4, 100] := by decide +kernel
theorem q10w15_1_23 : (cX12_over.data.toList.drop 23).take 24 = [184, 0, 124, 153, 0, 19, 29, 3, 4, 184, 0, 124, 153, 0, 10, 42, 180, 0, 162, 154, 0, 5, 2, 172] := by decide +kernel
theorem q10w15_1_47 : (cX12_over.data.toList.drop 47).take 24 = [3, 54, 4, 3, 54, 5, 21, 5, 42, 180, 0, 162, 162, 0, 88, 28, 21, 5, 96, 42, 180, 0, 20, 27] := by decide +kernel
theorem q10w15_1_71 : (cX12_over.data.toList.drop 71).take 23 = [46, 162, 0, 75, 16, 24, 27, 104, 28, 96, 21, 5, 96, 54, 6, 29, 154, 0, 13, 42, 180, 0, 13] := by decide +kernel
theorem q10w15_1_94 : (cX12_over.data.toList.drop 94).take 23 = [21, 5, 46, 167, 0, 18, 42, 180, 0, 17, 21, 6, 46, 42, 180, 0, 13, 21, 5, 46, 128, 54, 7] := by decide +kernel
theorem q10w15_1_117 : (cX12_over.data.toList.drop 117).take 24 = [21, 7, 42, 180, 0, 17, 21, 6, 46, 159, 0, 6, 132, 4, 1, 42, 180, 0, 17, 21, 6, 21, 7, 79] := by decide +kernel
theorem q10w15_1_141 : (cX12_over.data.toList.drop 141).take 9 = [132, 5, 1, 167, 255, 165, 21, 4, 172] := by decide +kernel
theorem dX12_over_0 : decode cX12_over 0 = .ok (.aload_n 0, 1) := dz_42 (dz_at q10w15_1_0 0)
theorem dX12_over_1 : decode cX12_over 1 = .ok (.iconst 0, 1) := dz_3 (dz_at q10w15_1_0 1)
theorem dX12_over_10 : decode cX12_over 10 = .ok (.ifCond .eq 35, 3) := dz_153 (dz_at q10w15_1_0 10) (by decide +kernel)
theorem dX12_over_100 : decode cX12_over 100 = .ok (.aload_n 0, 1) := dz_42 (dz_at q10w15_1_94 6)
theorem dX12_over_101 : decode cX12_over 101 = .ok (.getfield 17, 3) := dz_180 (dz_at q10w15_1_94 7) rfl
theorem dX12_over_104 : decode cX12_over 104 = .ok (.iload 6, 2) := dz_21 (dz_at q10w15_1_94 10)
theorem dX12_over_106 : decode cX12_over 106 = .ok (.iaload, 1) := dz_46 (dz_at q10w15_1_94 12)
theorem dX12_over_107 : decode cX12_over 107 = .ok (.aload_n 0, 1) := dz_42 (dz_at q10w15_1_94 13)
theorem dX12_over_108 : decode cX12_over 108 = .ok (.getfield 13, 3) := dz_180 (dz_at q10w15_1_94 14) rfl
theorem dX12_over_111 : decode cX12_over 111 = .ok (.iload 5, 2) := dz_21 (dz_at q10w15_1_94 17)
theorem dX12_over_113 : decode cX12_over 113 = .ok (.iaload, 1) := dz_46 (dz_at q10w15_1_94 19)
theorem dX12_over_114 : decode cX12_over 114 = .ok (.ior, 1) := dz_128 (dz_at q10w15_1_94 20)
theorem dX12_over_115 : decode cX12_over 115 = .ok (.istore 7, 2) := dz_54 (dz_at q10w15_1_94 21)
theorem dX12_over_117 : decode cX12_over 117 = .ok (.iload 7, 2) := dz_21 (dz_at q10w15_1_117 0)
theorem dX12_over_119 : decode cX12_over 119 = .ok (.aload_n 0, 1) := dz_42 (dz_at q10w15_1_117 2)
theorem dX12_over_120 : decode cX12_over 120 = .ok (.getfield 17, 3) := dz_180 (dz_at q10w15_1_117 3) rfl
theorem dX12_over_123 : decode cX12_over 123 = .ok (.iload 6, 2) := dz_21 (dz_at q10w15_1_117 6)
theorem dX12_over_125 : decode cX12_over 125 = .ok (.iaload, 1) := dz_46 (dz_at q10w15_1_117 8)
theorem dX12_over_126 : decode cX12_over 126 = .ok (.if_icmp .eq 6, 3) := dz_159 (dz_at q10w15_1_117 9) (by decide +kernel)
theorem dX12_over_129 : decode cX12_over 129 = .ok (.iinc 4 1, 3) := dz_132 (dz_at q10w15_1_117 12) (by decide +kernel)
theorem dX12_over_13 : decode cX12_over 13 = .ok (.iload_n 2, 1) := dz_28 (dz_at q10w15_1_0 13)
theorem dX12_over_132 : decode cX12_over 132 = .ok (.aload_n 0, 1) := dz_42 (dz_at q10w15_1_117 15)
theorem dX12_over_133 : decode cX12_over 133 = .ok (.getfield 17, 3) := dz_180 (dz_at q10w15_1_117 16) rfl
theorem dX12_over_136 : decode cX12_over 136 = .ok (.iload 6, 2) := dz_21 (dz_at q10w15_1_117 19)
theorem dX12_over_138 : decode cX12_over 138 = .ok (.iload 7, 2) := dz_21 (dz_at q10w15_1_117 21)
theorem dX12_over_14 : decode cX12_over 14 = .ok (.iconst 0, 1) := dz_3 (dz_at q10w15_1_0 14)
theorem dX12_over_140 : decode cX12_over 140 = .ok (.iastore, 1) := dz_79 (dz_at q10w15_1_117 23)
theorem dX12_over_141 : decode cX12_over 141 = .ok (.iinc 5 1, 3) := dz_132 (dz_at q10w15_1_141 0) (by decide +kernel)
theorem dX12_over_144 : decode cX12_over 144 = .ok (.goto (-91), 3) := dz_167 (dz_at q10w15_1_141 3) (by decide +kernel)
theorem dX12_over_147 : decode cX12_over 147 = .ok (.iload 4, 2) := dz_21 (dz_at q10w15_1_141 6)
theorem dX12_over_149 : decode cX12_over 149 = .ok (.ireturn, 1) := dz_172 (dz_at q10w15_1_141 8)
theorem dX12_over_15 : decode cX12_over 15 = .ok (.aload_n 0, 1) := dz_42 (dz_at q10w15_1_0 15)
theorem dX12_over_16 : decode cX12_over 16 = .ok (.getfield 20, 3) := dz_180 (dz_at q10w15_1_0 16) rfl
theorem dX12_over_19 : decode cX12_over 19 = .ok (.iload_n 1, 1) := dz_27 (dz_at q10w15_1_0 19)
theorem dX12_over_2 : decode cX12_over 2 = .ok (.putfield 118, 3) := dz_181 (dz_at q10w15_1_0 2) rfl
theorem dX12_over_20 : decode cX12_over 20 = .ok (.iaload, 1) := dz_46 (dz_at q10w15_1_0 20)
theorem dX12_over_21 : decode cX12_over 21 = .ok (.iconst 1, 1) := dz_4 (dz_at q10w15_1_0 21)
theorem dX12_over_22 : decode cX12_over 22 = .ok (.isub, 1) := dz_100 (dz_at q10w15_1_0 22)
theorem dX12_over_23 : decode cX12_over 23 = .ok (.invokestatic 124, 3) := dz_184 (dz_at q10w15_1_23 0) rfl
theorem dX12_over_26 : decode cX12_over 26 = .ok (.ifCond .eq 19, 3) := dz_153 (dz_at q10w15_1_23 3) (by decide +kernel)
theorem dX12_over_29 : decode cX12_over 29 = .ok (.iload_n 3, 1) := dz_29 (dz_at q10w15_1_23 6)
theorem dX12_over_30 : decode cX12_over 30 = .ok (.iconst 0, 1) := dz_3 (dz_at q10w15_1_23 7)
theorem dX12_over_31 : decode cX12_over 31 = .ok (.iconst 1, 1) := dz_4 (dz_at q10w15_1_23 8)
theorem dX12_over_32 : decode cX12_over 32 = .ok (.invokestatic 124, 3) := dz_184 (dz_at q10w15_1_23 9) rfl
theorem dX12_over_35 : decode cX12_over 35 = .ok (.ifCond .eq 10, 3) := dz_153 (dz_at q10w15_1_23 12) (by decide +kernel)
theorem dX12_over_38 : decode cX12_over 38 = .ok (.aload_n 0, 1) := dz_42 (dz_at q10w15_1_23 15)
theorem dX12_over_39 : decode cX12_over 39 = .ok (.getfield 162, 3) := dz_180 (dz_at q10w15_1_23 16) rfl
theorem dX12_over_42 : decode cX12_over 42 = .ok (.ifCond .ne 5, 3) := dz_154 (dz_at q10w15_1_23 19) (by decide +kernel)
theorem dX12_over_45 : decode cX12_over 45 = .ok (.iconst (-1), 1) := dz_2 (dz_at q10w15_1_23 22)
theorem dX12_over_46 : decode cX12_over 46 = .ok (.ireturn, 1) := dz_172 (dz_at q10w15_1_23 23)
theorem dX12_over_47 : decode cX12_over 47 = .ok (.iconst 0, 1) := dz_3 (dz_at q10w15_1_47 0)
theorem dX12_over_48 : decode cX12_over 48 = .ok (.istore 4, 2) := dz_54 (dz_at q10w15_1_47 1)
theorem dX12_over_5 : decode cX12_over 5 = .ok (.aload_n 0, 1) := dz_42 (dz_at q10w15_1_0 5)
theorem dX12_over_50 : decode cX12_over 50 = .ok (.iconst 0, 1) := dz_3 (dz_at q10w15_1_47 3)
theorem dX12_over_51 : decode cX12_over 51 = .ok (.istore 5, 2) := dz_54 (dz_at q10w15_1_47 4)
theorem dX12_over_53 : decode cX12_over 53 = .ok (.iload 5, 2) := dz_21 (dz_at q10w15_1_47 6)
theorem dX12_over_55 : decode cX12_over 55 = .ok (.aload_n 0, 1) := dz_42 (dz_at q10w15_1_47 8)
theorem dX12_over_56 : decode cX12_over 56 = .ok (.getfield 162, 3) := dz_180 (dz_at q10w15_1_47 9) rfl
theorem dX12_over_59 : decode cX12_over 59 = .ok (.if_icmp .ge 88, 3) := dz_162 (dz_at q10w15_1_47 12) (by decide +kernel)
theorem dX12_over_6 : decode cX12_over 6 = .ok (.iload_n 1, 1) := dz_27 (dz_at q10w15_1_0 6)
theorem dX12_over_62 : decode cX12_over 62 = .ok (.iload_n 2, 1) := dz_28 (dz_at q10w15_1_47 15)
theorem dX12_over_63 : decode cX12_over 63 = .ok (.iload 5, 2) := dz_21 (dz_at q10w15_1_47 16)
theorem dX12_over_65 : decode cX12_over 65 = .ok (.iadd, 1) := dz_96 (dz_at q10w15_1_47 18)
theorem dX12_over_66 : decode cX12_over 66 = .ok (.aload_n 0, 1) := dz_42 (dz_at q10w15_1_47 19)
theorem dX12_over_67 : decode cX12_over 67 = .ok (.getfield 20, 3) := dz_180 (dz_at q10w15_1_47 20) rfl
theorem dX12_over_7 : decode cX12_over 7 = .ok (.invokevirtual 168, 3) := dz_182 (dz_at q10w15_1_0 7) rfl
theorem dX12_over_70 : decode cX12_over 70 = .ok (.iload_n 1, 1) := dz_27 (dz_at q10w15_1_47 23)
theorem dX12_over_71 : decode cX12_over 71 = .ok (.iaload, 1) := dz_46 (dz_at q10w15_1_71 0)
theorem dX12_over_72 : decode cX12_over 72 = .ok (.if_icmp .ge 75, 3) := dz_162 (dz_at q10w15_1_71 1) (by decide +kernel)
theorem dX12_over_75 : decode cX12_over 75 = .ok (.bipush 24, 2) := dz_16 (dz_at q10w15_1_71 4) (by decide +kernel)
theorem dX12_over_77 : decode cX12_over 77 = .ok (.iload_n 1, 1) := dz_27 (dz_at q10w15_1_71 6)
theorem dX12_over_78 : decode cX12_over 78 = .ok (.imul, 1) := dz_104 (dz_at q10w15_1_71 7)
theorem dX12_over_79 : decode cX12_over 79 = .ok (.iload_n 2, 1) := dz_28 (dz_at q10w15_1_71 8)
theorem dX12_over_80 : decode cX12_over 80 = .ok (.iadd, 1) := dz_96 (dz_at q10w15_1_71 9)
theorem dX12_over_81 : decode cX12_over 81 = .ok (.iload 5, 2) := dz_21 (dz_at q10w15_1_71 10)
theorem dX12_over_83 : decode cX12_over 83 = .ok (.iadd, 1) := dz_96 (dz_at q10w15_1_71 12)
theorem dX12_over_84 : decode cX12_over 84 = .ok (.istore 6, 2) := dz_54 (dz_at q10w15_1_71 13)
theorem dX12_over_86 : decode cX12_over 86 = .ok (.iload_n 3, 1) := dz_29 (dz_at q10w15_1_71 15)
theorem dX12_over_87 : decode cX12_over 87 = .ok (.ifCond .ne 13, 3) := dz_154 (dz_at q10w15_1_71 16) (by decide +kernel)
theorem dX12_over_90 : decode cX12_over 90 = .ok (.aload_n 0, 1) := dz_42 (dz_at q10w15_1_71 19)
theorem dX12_over_91 : decode cX12_over 91 = .ok (.getfield 13, 3) := dz_180 (dz_at q10w15_1_71 20) rfl
theorem dX12_over_94 : decode cX12_over 94 = .ok (.iload 5, 2) := dz_21 (dz_at q10w15_1_94 0)
theorem dX12_over_96 : decode cX12_over 96 = .ok (.iaload, 1) := dz_46 (dz_at q10w15_1_94 2)
theorem dX12_over_97 : decode cX12_over 97 = .ok (.goto 18, 3) := dz_167 (dz_at q10w15_1_94 3) (by decide +kernel)
theorem q10w15_2_0 : (cX12_ring.data.toList.drop 0).take 22 = [42, 3, 181, 0, 118, 42, 180, 0, 162, 153, 0, 32, 27, 184, 0, 165, 153, 0, 25, 28, 3, 42] := by decide +kernel
theorem q10w15_2_22 : (cX12_ring.data.toList.drop 22).take 22 = [180, 0, 162, 4, 100, 184, 0, 124, 153, 0, 11, 42, 180, 0, 121, 7, 160, 0, 5, 2, 172, 42] := by decide +kernel
theorem q10w15_2_44 : (cX12_ring.data.toList.drop 44).take 23 = [180, 0, 20, 42, 180, 0, 121, 42, 180, 0, 162, 79, 3, 62, 29, 42, 180, 0, 162, 162, 0, 29, 42] := by decide +kernel
theorem q10w15_2_67 : (cX12_ring.data.toList.drop 67).take 22 = [180, 0, 17, 16, 24, 42, 180, 0, 121, 104, 29, 96, 42, 180, 0, 13, 29, 46, 79, 132, 3, 1] := by decide +kernel
theorem q10w15_2_89 : (cX12_ring.data.toList.drop 89).take 24 = [167, 255, 225, 42, 180, 0, 23, 42, 180, 0, 121, 27, 79, 42, 180, 0, 26, 42, 180, 0, 121, 28, 79, 42] := by decide +kernel
theorem q10w15_2_113 : (cX12_ring.data.toList.drop 113).take 24 = [180, 0, 29, 42, 180, 0, 121, 4, 79, 42, 180, 0, 32, 42, 180, 0, 121, 3, 79, 42, 89, 180, 0, 121] := by decide +kernel
theorem q10w15_2_137 : (cX12_ring.data.toList.drop 137).take 12 = [4, 96, 181, 0, 121, 42, 180, 0, 121, 4, 100, 172] := by decide +kernel
theorem dX12_ring_0 : decode cX12_ring 0 = .ok (.aload_n 0, 1) := dz_42 (dz_at q10w15_2_0 0)
theorem dX12_ring_1 : decode cX12_ring 1 = .ok (.iconst 0, 1) := dz_3 (dz_at q10w15_2_0 1)
theorem dX12_ring_100 : decode cX12_ring 100 = .ok (.iload_n 1, 1) := dz_27 (dz_at q10w15_2_89 11)
theorem dX12_ring_101 : decode cX12_ring 101 = .ok (.iastore, 1) := dz_79 (dz_at q10w15_2_89 12)
theorem dX12_ring_102 : decode cX12_ring 102 = .ok (.aload_n 0, 1) := dz_42 (dz_at q10w15_2_89 13)
theorem dX12_ring_103 : decode cX12_ring 103 = .ok (.getfield 26, 3) := dz_180 (dz_at q10w15_2_89 14) rfl
theorem dX12_ring_106 : decode cX12_ring 106 = .ok (.aload_n 0, 1) := dz_42 (dz_at q10w15_2_89 17)
theorem dX12_ring_107 : decode cX12_ring 107 = .ok (.getfield 121, 3) := dz_180 (dz_at q10w15_2_89 18) rfl
theorem dX12_ring_110 : decode cX12_ring 110 = .ok (.iload_n 2, 1) := dz_28 (dz_at q10w15_2_89 21)
theorem dX12_ring_111 : decode cX12_ring 111 = .ok (.iastore, 1) := dz_79 (dz_at q10w15_2_89 22)
theorem dX12_ring_112 : decode cX12_ring 112 = .ok (.aload_n 0, 1) := dz_42 (dz_at q10w15_2_89 23)
theorem dX12_ring_113 : decode cX12_ring 113 = .ok (.getfield 29, 3) := dz_180 (dz_at q10w15_2_113 0) rfl
theorem dX12_ring_116 : decode cX12_ring 116 = .ok (.aload_n 0, 1) := dz_42 (dz_at q10w15_2_113 3)
theorem dX12_ring_117 : decode cX12_ring 117 = .ok (.getfield 121, 3) := dz_180 (dz_at q10w15_2_113 4) rfl
theorem dX12_ring_12 : decode cX12_ring 12 = .ok (.iload_n 1, 1) := dz_27 (dz_at q10w15_2_0 12)
theorem dX12_ring_120 : decode cX12_ring 120 = .ok (.iconst 1, 1) := dz_4 (dz_at q10w15_2_113 7)
theorem dX12_ring_121 : decode cX12_ring 121 = .ok (.iastore, 1) := dz_79 (dz_at q10w15_2_113 8)
theorem dX12_ring_122 : decode cX12_ring 122 = .ok (.aload_n 0, 1) := dz_42 (dz_at q10w15_2_113 9)
theorem dX12_ring_123 : decode cX12_ring 123 = .ok (.getfield 32, 3) := dz_180 (dz_at q10w15_2_113 10) rfl
theorem dX12_ring_126 : decode cX12_ring 126 = .ok (.aload_n 0, 1) := dz_42 (dz_at q10w15_2_113 13)
theorem dX12_ring_127 : decode cX12_ring 127 = .ok (.getfield 121, 3) := dz_180 (dz_at q10w15_2_113 14) rfl
theorem dX12_ring_13 : decode cX12_ring 13 = .ok (.invokestatic 165, 3) := dz_184 (dz_at q10w15_2_0 13) rfl
theorem dX12_ring_130 : decode cX12_ring 130 = .ok (.iconst 0, 1) := dz_3 (dz_at q10w15_2_113 17)
theorem dX12_ring_131 : decode cX12_ring 131 = .ok (.iastore, 1) := dz_79 (dz_at q10w15_2_113 18)
theorem dX12_ring_132 : decode cX12_ring 132 = .ok (.aload_n 0, 1) := dz_42 (dz_at q10w15_2_113 19)
theorem dX12_ring_133 : decode cX12_ring 133 = .ok (.dup, 1) := dz_89 (dz_at q10w15_2_113 20)
theorem dX12_ring_134 : decode cX12_ring 134 = .ok (.getfield 121, 3) := dz_180 (dz_at q10w15_2_113 21) rfl
theorem dX12_ring_137 : decode cX12_ring 137 = .ok (.iconst 1, 1) := dz_4 (dz_at q10w15_2_137 0)
theorem dX12_ring_138 : decode cX12_ring 138 = .ok (.iadd, 1) := dz_96 (dz_at q10w15_2_137 1)
theorem dX12_ring_139 : decode cX12_ring 139 = .ok (.putfield 121, 3) := dz_181 (dz_at q10w15_2_137 2) rfl
theorem dX12_ring_142 : decode cX12_ring 142 = .ok (.aload_n 0, 1) := dz_42 (dz_at q10w15_2_137 5)
theorem dX12_ring_143 : decode cX12_ring 143 = .ok (.getfield 121, 3) := dz_180 (dz_at q10w15_2_137 6) rfl
theorem dX12_ring_146 : decode cX12_ring 146 = .ok (.iconst 1, 1) := dz_4 (dz_at q10w15_2_137 9)
theorem dX12_ring_147 : decode cX12_ring 147 = .ok (.isub, 1) := dz_100 (dz_at q10w15_2_137 10)
theorem dX12_ring_148 : decode cX12_ring 148 = .ok (.ireturn, 1) := dz_172 (dz_at q10w15_2_137 11)
theorem dX12_ring_16 : decode cX12_ring 16 = .ok (.ifCond .eq 25, 3) := dz_153 (dz_at q10w15_2_0 16) (by decide +kernel)
theorem dX12_ring_19 : decode cX12_ring 19 = .ok (.iload_n 2, 1) := dz_28 (dz_at q10w15_2_0 19)
theorem dX12_ring_2 : decode cX12_ring 2 = .ok (.putfield 118, 3) := dz_181 (dz_at q10w15_2_0 2) rfl
theorem dX12_ring_20 : decode cX12_ring 20 = .ok (.iconst 0, 1) := dz_3 (dz_at q10w15_2_0 20)
theorem dX12_ring_21 : decode cX12_ring 21 = .ok (.aload_n 0, 1) := dz_42 (dz_at q10w15_2_0 21)
theorem dX12_ring_22 : decode cX12_ring 22 = .ok (.getfield 162, 3) := dz_180 (dz_at q10w15_2_22 0) rfl
theorem dX12_ring_25 : decode cX12_ring 25 = .ok (.iconst 1, 1) := dz_4 (dz_at q10w15_2_22 3)
theorem dX12_ring_26 : decode cX12_ring 26 = .ok (.isub, 1) := dz_100 (dz_at q10w15_2_22 4)
theorem dX12_ring_27 : decode cX12_ring 27 = .ok (.invokestatic 124, 3) := dz_184 (dz_at q10w15_2_22 5) rfl
theorem dX12_ring_30 : decode cX12_ring 30 = .ok (.ifCond .eq 11, 3) := dz_153 (dz_at q10w15_2_22 8) (by decide +kernel)
theorem dX12_ring_33 : decode cX12_ring 33 = .ok (.aload_n 0, 1) := dz_42 (dz_at q10w15_2_22 11)
theorem dX12_ring_34 : decode cX12_ring 34 = .ok (.getfield 121, 3) := dz_180 (dz_at q10w15_2_22 12) rfl
theorem dX12_ring_37 : decode cX12_ring 37 = .ok (.iconst 4, 1) := dz_7 (dz_at q10w15_2_22 15)
theorem dX12_ring_38 : decode cX12_ring 38 = .ok (.if_icmp .ne 5, 3) := dz_160 (dz_at q10w15_2_22 16) (by decide +kernel)
theorem dX12_ring_41 : decode cX12_ring 41 = .ok (.iconst (-1), 1) := dz_2 (dz_at q10w15_2_22 19)
theorem dX12_ring_42 : decode cX12_ring 42 = .ok (.ireturn, 1) := dz_172 (dz_at q10w15_2_22 20)
theorem dX12_ring_43 : decode cX12_ring 43 = .ok (.aload_n 0, 1) := dz_42 (dz_at q10w15_2_22 21)
theorem dX12_ring_44 : decode cX12_ring 44 = .ok (.getfield 20, 3) := dz_180 (dz_at q10w15_2_44 0) rfl
theorem dX12_ring_47 : decode cX12_ring 47 = .ok (.aload_n 0, 1) := dz_42 (dz_at q10w15_2_44 3)
theorem dX12_ring_48 : decode cX12_ring 48 = .ok (.getfield 121, 3) := dz_180 (dz_at q10w15_2_44 4) rfl
theorem dX12_ring_5 : decode cX12_ring 5 = .ok (.aload_n 0, 1) := dz_42 (dz_at q10w15_2_0 5)
theorem dX12_ring_51 : decode cX12_ring 51 = .ok (.aload_n 0, 1) := dz_42 (dz_at q10w15_2_44 7)
theorem dX12_ring_52 : decode cX12_ring 52 = .ok (.getfield 162, 3) := dz_180 (dz_at q10w15_2_44 8) rfl
theorem dX12_ring_55 : decode cX12_ring 55 = .ok (.iastore, 1) := dz_79 (dz_at q10w15_2_44 11)
theorem dX12_ring_56 : decode cX12_ring 56 = .ok (.iconst 0, 1) := dz_3 (dz_at q10w15_2_44 12)
theorem dX12_ring_57 : decode cX12_ring 57 = .ok (.istore_n 3, 1) := dz_62 (dz_at q10w15_2_44 13)
theorem dX12_ring_58 : decode cX12_ring 58 = .ok (.iload_n 3, 1) := dz_29 (dz_at q10w15_2_44 14)
theorem dX12_ring_59 : decode cX12_ring 59 = .ok (.aload_n 0, 1) := dz_42 (dz_at q10w15_2_44 15)
theorem dX12_ring_6 : decode cX12_ring 6 = .ok (.getfield 162, 3) := dz_180 (dz_at q10w15_2_0 6) rfl
theorem dX12_ring_60 : decode cX12_ring 60 = .ok (.getfield 162, 3) := dz_180 (dz_at q10w15_2_44 16) rfl
theorem dX12_ring_63 : decode cX12_ring 63 = .ok (.if_icmp .ge 29, 3) := dz_162 (dz_at q10w15_2_44 19) (by decide +kernel)
theorem dX12_ring_66 : decode cX12_ring 66 = .ok (.aload_n 0, 1) := dz_42 (dz_at q10w15_2_44 22)
theorem dX12_ring_67 : decode cX12_ring 67 = .ok (.getfield 17, 3) := dz_180 (dz_at q10w15_2_67 0) rfl
theorem dX12_ring_70 : decode cX12_ring 70 = .ok (.bipush 24, 2) := dz_16 (dz_at q10w15_2_67 3) (by decide +kernel)
theorem dX12_ring_72 : decode cX12_ring 72 = .ok (.aload_n 0, 1) := dz_42 (dz_at q10w15_2_67 5)
theorem dX12_ring_73 : decode cX12_ring 73 = .ok (.getfield 121, 3) := dz_180 (dz_at q10w15_2_67 6) rfl
theorem dX12_ring_76 : decode cX12_ring 76 = .ok (.imul, 1) := dz_104 (dz_at q10w15_2_67 9)
theorem dX12_ring_77 : decode cX12_ring 77 = .ok (.iload_n 3, 1) := dz_29 (dz_at q10w15_2_67 10)
theorem dX12_ring_78 : decode cX12_ring 78 = .ok (.iadd, 1) := dz_96 (dz_at q10w15_2_67 11)
theorem dX12_ring_79 : decode cX12_ring 79 = .ok (.aload_n 0, 1) := dz_42 (dz_at q10w15_2_67 12)
theorem dX12_ring_80 : decode cX12_ring 80 = .ok (.getfield 13, 3) := dz_180 (dz_at q10w15_2_67 13) rfl
theorem dX12_ring_83 : decode cX12_ring 83 = .ok (.iload_n 3, 1) := dz_29 (dz_at q10w15_2_67 16)
theorem dX12_ring_84 : decode cX12_ring 84 = .ok (.iaload, 1) := dz_46 (dz_at q10w15_2_67 17)
theorem dX12_ring_85 : decode cX12_ring 85 = .ok (.iastore, 1) := dz_79 (dz_at q10w15_2_67 18)
theorem dX12_ring_86 : decode cX12_ring 86 = .ok (.iinc 3 1, 3) := dz_132 (dz_at q10w15_2_67 19) (by decide +kernel)
theorem dX12_ring_89 : decode cX12_ring 89 = .ok (.goto (-31), 3) := dz_167 (dz_at q10w15_2_89 0) (by decide +kernel)
theorem dX12_ring_9 : decode cX12_ring 9 = .ok (.ifCond .eq 32, 3) := dz_153 (dz_at q10w15_2_0 9) (by decide +kernel)
theorem dX12_ring_92 : decode cX12_ring 92 = .ok (.aload_n 0, 1) := dz_42 (dz_at q10w15_2_89 3)
theorem dX12_ring_93 : decode cX12_ring 93 = .ok (.getfield 23, 3) := dz_180 (dz_at q10w15_2_89 4) rfl
theorem dX12_ring_96 : decode cX12_ring 96 = .ok (.aload_n 0, 1) := dz_42 (dz_at q10w15_2_89 7)
theorem dX12_ring_97 : decode cX12_ring 97 = .ok (.getfield 121, 3) := dz_180 (dz_at q10w15_2_89 8) rfl
theorem q10w15_3_0 : (cX12_set.data.toList.drop 0).take 23 = [42, 3, 181, 0, 118, 42, 27, 182, 0, 168, 153, 0, 42, 28, 3, 4, 184, 0, 124, 153, 0, 33, 28] := by decide +kernel
theorem q10w15_3_23 : (cX12_set.data.toList.drop 23).take 23 = [154, 0, 13, 29, 184, 0, 165, 154, 0, 24, 167, 0, 19, 29, 3, 42, 180, 0, 20, 27, 46, 4, 100] := by decide +kernel
theorem q10w15_3_46 : (cX12_set.data.toList.drop 46).take 22 = [184, 0, 124, 154, 0, 5, 2, 172, 28, 154, 0, 12, 42, 180, 0, 23, 27, 46, 167, 0, 9, 42] := by decide +kernel
theorem q10w15_3_68 : (cX12_set.data.toList.drop 68).take 22 = [180, 0, 26, 27, 46, 54, 4, 28, 154, 0, 13, 42, 180, 0, 23, 27, 29, 79, 167, 0, 10, 42] := by decide +kernel
theorem q10w15_3_90 : (cX12_set.data.toList.drop 90).take 9 = [180, 0, 26, 27, 29, 79, 21, 4, 172] := by decide +kernel
theorem dX12_set_0 : decode cX12_set 0 = .ok (.aload_n 0, 1) := dz_42 (dz_at q10w15_3_0 0)
theorem dX12_set_1 : decode cX12_set 1 = .ok (.iconst 0, 1) := dz_3 (dz_at q10w15_3_0 1)
theorem dX12_set_10 : decode cX12_set 10 = .ok (.ifCond .eq 42, 3) := dz_153 (dz_at q10w15_3_0 10) (by decide +kernel)
theorem dX12_set_13 : decode cX12_set 13 = .ok (.iload_n 2, 1) := dz_28 (dz_at q10w15_3_0 13)
theorem dX12_set_14 : decode cX12_set 14 = .ok (.iconst 0, 1) := dz_3 (dz_at q10w15_3_0 14)
theorem dX12_set_15 : decode cX12_set 15 = .ok (.iconst 1, 1) := dz_4 (dz_at q10w15_3_0 15)
theorem dX12_set_16 : decode cX12_set 16 = .ok (.invokestatic 124, 3) := dz_184 (dz_at q10w15_3_0 16) rfl
theorem dX12_set_19 : decode cX12_set 19 = .ok (.ifCond .eq 33, 3) := dz_153 (dz_at q10w15_3_0 19) (by decide +kernel)
theorem dX12_set_2 : decode cX12_set 2 = .ok (.putfield 118, 3) := dz_181 (dz_at q10w15_3_0 2) rfl
theorem dX12_set_22 : decode cX12_set 22 = .ok (.iload_n 2, 1) := dz_28 (dz_at q10w15_3_0 22)
theorem dX12_set_23 : decode cX12_set 23 = .ok (.ifCond .ne 13, 3) := dz_154 (dz_at q10w15_3_23 0) (by decide +kernel)
theorem dX12_set_26 : decode cX12_set 26 = .ok (.iload_n 3, 1) := dz_29 (dz_at q10w15_3_23 3)
theorem dX12_set_27 : decode cX12_set 27 = .ok (.invokestatic 165, 3) := dz_184 (dz_at q10w15_3_23 4) rfl
theorem dX12_set_30 : decode cX12_set 30 = .ok (.ifCond .ne 24, 3) := dz_154 (dz_at q10w15_3_23 7) (by decide +kernel)
theorem dX12_set_33 : decode cX12_set 33 = .ok (.goto 19, 3) := dz_167 (dz_at q10w15_3_23 10) (by decide +kernel)
theorem dX12_set_36 : decode cX12_set 36 = .ok (.iload_n 3, 1) := dz_29 (dz_at q10w15_3_23 13)
theorem dX12_set_37 : decode cX12_set 37 = .ok (.iconst 0, 1) := dz_3 (dz_at q10w15_3_23 14)
theorem dX12_set_38 : decode cX12_set 38 = .ok (.aload_n 0, 1) := dz_42 (dz_at q10w15_3_23 15)
theorem dX12_set_39 : decode cX12_set 39 = .ok (.getfield 20, 3) := dz_180 (dz_at q10w15_3_23 16) rfl
theorem dX12_set_42 : decode cX12_set 42 = .ok (.iload_n 1, 1) := dz_27 (dz_at q10w15_3_23 19)
theorem dX12_set_43 : decode cX12_set 43 = .ok (.iaload, 1) := dz_46 (dz_at q10w15_3_23 20)
theorem dX12_set_44 : decode cX12_set 44 = .ok (.iconst 1, 1) := dz_4 (dz_at q10w15_3_23 21)
theorem dX12_set_45 : decode cX12_set 45 = .ok (.isub, 1) := dz_100 (dz_at q10w15_3_23 22)
theorem dX12_set_46 : decode cX12_set 46 = .ok (.invokestatic 124, 3) := dz_184 (dz_at q10w15_3_46 0) rfl
theorem dX12_set_49 : decode cX12_set 49 = .ok (.ifCond .ne 5, 3) := dz_154 (dz_at q10w15_3_46 3) (by decide +kernel)
theorem dX12_set_5 : decode cX12_set 5 = .ok (.aload_n 0, 1) := dz_42 (dz_at q10w15_3_0 5)
theorem dX12_set_52 : decode cX12_set 52 = .ok (.iconst (-1), 1) := dz_2 (dz_at q10w15_3_46 6)
theorem dX12_set_53 : decode cX12_set 53 = .ok (.ireturn, 1) := dz_172 (dz_at q10w15_3_46 7)
theorem dX12_set_54 : decode cX12_set 54 = .ok (.iload_n 2, 1) := dz_28 (dz_at q10w15_3_46 8)
theorem dX12_set_55 : decode cX12_set 55 = .ok (.ifCond .ne 12, 3) := dz_154 (dz_at q10w15_3_46 9) (by decide +kernel)
theorem dX12_set_58 : decode cX12_set 58 = .ok (.aload_n 0, 1) := dz_42 (dz_at q10w15_3_46 12)
theorem dX12_set_59 : decode cX12_set 59 = .ok (.getfield 23, 3) := dz_180 (dz_at q10w15_3_46 13) rfl
theorem dX12_set_6 : decode cX12_set 6 = .ok (.iload_n 1, 1) := dz_27 (dz_at q10w15_3_0 6)
theorem dX12_set_62 : decode cX12_set 62 = .ok (.iload_n 1, 1) := dz_27 (dz_at q10w15_3_46 16)
theorem dX12_set_63 : decode cX12_set 63 = .ok (.iaload, 1) := dz_46 (dz_at q10w15_3_46 17)
theorem dX12_set_64 : decode cX12_set 64 = .ok (.goto 9, 3) := dz_167 (dz_at q10w15_3_46 18) (by decide +kernel)
theorem dX12_set_67 : decode cX12_set 67 = .ok (.aload_n 0, 1) := dz_42 (dz_at q10w15_3_46 21)
theorem dX12_set_68 : decode cX12_set 68 = .ok (.getfield 26, 3) := dz_180 (dz_at q10w15_3_68 0) rfl
theorem dX12_set_7 : decode cX12_set 7 = .ok (.invokevirtual 168, 3) := dz_182 (dz_at q10w15_3_0 7) rfl
theorem dX12_set_71 : decode cX12_set 71 = .ok (.iload_n 1, 1) := dz_27 (dz_at q10w15_3_68 3)
theorem dX12_set_72 : decode cX12_set 72 = .ok (.iaload, 1) := dz_46 (dz_at q10w15_3_68 4)
theorem dX12_set_73 : decode cX12_set 73 = .ok (.istore 4, 2) := dz_54 (dz_at q10w15_3_68 5)
theorem dX12_set_75 : decode cX12_set 75 = .ok (.iload_n 2, 1) := dz_28 (dz_at q10w15_3_68 7)
theorem dX12_set_76 : decode cX12_set 76 = .ok (.ifCond .ne 13, 3) := dz_154 (dz_at q10w15_3_68 8) (by decide +kernel)
theorem dX12_set_79 : decode cX12_set 79 = .ok (.aload_n 0, 1) := dz_42 (dz_at q10w15_3_68 11)
theorem dX12_set_80 : decode cX12_set 80 = .ok (.getfield 23, 3) := dz_180 (dz_at q10w15_3_68 12) rfl
theorem dX12_set_83 : decode cX12_set 83 = .ok (.iload_n 1, 1) := dz_27 (dz_at q10w15_3_68 15)
theorem dX12_set_84 : decode cX12_set 84 = .ok (.iload_n 3, 1) := dz_29 (dz_at q10w15_3_68 16)
theorem dX12_set_85 : decode cX12_set 85 = .ok (.iastore, 1) := dz_79 (dz_at q10w15_3_68 17)
theorem dX12_set_86 : decode cX12_set 86 = .ok (.goto 10, 3) := dz_167 (dz_at q10w15_3_68 18) (by decide +kernel)
theorem dX12_set_89 : decode cX12_set 89 = .ok (.aload_n 0, 1) := dz_42 (dz_at q10w15_3_68 21)
theorem dX12_set_90 : decode cX12_set 90 = .ok (.getfield 26, 3) := dz_180 (dz_at q10w15_3_90 0) rfl
theorem dX12_set_93 : decode cX12_set 93 = .ok (.iload_n 1, 1) := dz_27 (dz_at q10w15_3_90 3)
theorem dX12_set_94 : decode cX12_set 94 = .ok (.iload_n 3, 1) := dz_29 (dz_at q10w15_3_90 4)
theorem dX12_set_95 : decode cX12_set 95 = .ok (.iastore, 1) := dz_79 (dz_at q10w15_3_90 5)
theorem dX12_set_96 : decode cX12_set 96 = .ok (.iload 4, 2) := dz_21 (dz_at q10w15_3_90 6)
theorem dX12_set_98 : decode cX12_set 98 = .ok (.ireturn, 1) := dz_172 (dz_at q10w15_3_90 8)
theorem q10w15_4_0 : (cX12_splice.data.toList.drop 0).take 22 = [42, 3, 181, 0, 118, 42, 3, 181, 0, 131, 42, 2, 181, 0, 134, 42, 3, 182, 0, 152, 60, 27] := by decide +kernel
theorem q10w15_4_22 : (cX12_splice.data.toList.drop 22).take 22 = [153, 0, 19, 42, 180, 0, 131, 42, 180, 0, 128, 162, 0, 8, 42, 182, 0, 145, 60, 3, 61, 27] := by decide +kernel
theorem q10w15_4_44 : (cX12_splice.data.toList.drop 44).take 24 = [153, 0, 14, 42, 3, 181, 0, 131, 42, 3, 182, 0, 159, 61, 42, 3, 181, 0, 128, 27, 154, 0, 10, 2] := by decide +kernel
theorem q10w15_4_68 : (cX12_splice.data.toList.drop 68).take 24 = [42, 180, 0, 134, 100, 172, 28, 156, 0, 5, 28, 172, 42, 42, 180, 0, 87, 3, 46, 181, 0, 162, 3, 62] := by decide +kernel
theorem q10w15_4_92 : (cX12_splice.data.toList.drop 92).take 23 = [29, 42, 180, 0, 162, 162, 0, 21, 42, 180, 0, 13, 29, 42, 180, 0, 84, 29, 46, 79, 132, 3, 1] := by decide +kernel
theorem q10w15_4_115 : (cX12_splice.data.toList.drop 115).take 8 = [167, 255, 233, 42, 180, 0, 162, 172] := by decide +kernel
theorem dX12_splice_0 : decode cX12_splice 0 = .ok (.aload_n 0, 1) := dz_42 (dz_at q10w15_4_0 0)
theorem dX12_splice_1 : decode cX12_splice 1 = .ok (.iconst 0, 1) := dz_3 (dz_at q10w15_4_0 1)
theorem dX12_splice_10 : decode cX12_splice 10 = .ok (.aload_n 0, 1) := dz_42 (dz_at q10w15_4_0 10)
theorem dX12_splice_100 : decode cX12_splice 100 = .ok (.aload_n 0, 1) := dz_42 (dz_at q10w15_4_92 8)
theorem dX12_splice_101 : decode cX12_splice 101 = .ok (.getfield 13, 3) := dz_180 (dz_at q10w15_4_92 9) rfl
theorem dX12_splice_104 : decode cX12_splice 104 = .ok (.iload_n 3, 1) := dz_29 (dz_at q10w15_4_92 12)
theorem dX12_splice_105 : decode cX12_splice 105 = .ok (.aload_n 0, 1) := dz_42 (dz_at q10w15_4_92 13)
theorem dX12_splice_106 : decode cX12_splice 106 = .ok (.getfield 84, 3) := dz_180 (dz_at q10w15_4_92 14) rfl
theorem dX12_splice_109 : decode cX12_splice 109 = .ok (.iload_n 3, 1) := dz_29 (dz_at q10w15_4_92 17)
theorem dX12_splice_11 : decode cX12_splice 11 = .ok (.iconst (-1), 1) := dz_2 (dz_at q10w15_4_0 11)
theorem dX12_splice_110 : decode cX12_splice 110 = .ok (.iaload, 1) := dz_46 (dz_at q10w15_4_92 18)
theorem dX12_splice_111 : decode cX12_splice 111 = .ok (.iastore, 1) := dz_79 (dz_at q10w15_4_92 19)
theorem dX12_splice_112 : decode cX12_splice 112 = .ok (.iinc 3 1, 3) := dz_132 (dz_at q10w15_4_92 20) (by decide +kernel)
theorem dX12_splice_115 : decode cX12_splice 115 = .ok (.goto (-23), 3) := dz_167 (dz_at q10w15_4_115 0) (by decide +kernel)
theorem dX12_splice_118 : decode cX12_splice 118 = .ok (.aload_n 0, 1) := dz_42 (dz_at q10w15_4_115 3)
theorem dX12_splice_119 : decode cX12_splice 119 = .ok (.getfield 162, 3) := dz_180 (dz_at q10w15_4_115 4) rfl
theorem dX12_splice_12 : decode cX12_splice 12 = .ok (.putfield 134, 3) := dz_181 (dz_at q10w15_4_0 12) rfl
theorem dX12_splice_122 : decode cX12_splice 122 = .ok (.ireturn, 1) := dz_172 (dz_at q10w15_4_115 7)
theorem dX12_splice_15 : decode cX12_splice 15 = .ok (.aload_n 0, 1) := dz_42 (dz_at q10w15_4_0 15)
theorem dX12_splice_16 : decode cX12_splice 16 = .ok (.iconst 0, 1) := dz_3 (dz_at q10w15_4_0 16)
theorem dX12_splice_17 : decode cX12_splice 17 = .ok (.invokevirtual 152, 3) := dz_182 (dz_at q10w15_4_0 17) rfl
theorem dX12_splice_2 : decode cX12_splice 2 = .ok (.putfield 118, 3) := dz_181 (dz_at q10w15_4_0 2) rfl
theorem dX12_splice_20 : decode cX12_splice 20 = .ok (.istore_n 1, 1) := dz_60 (dz_at q10w15_4_0 20)
theorem dX12_splice_21 : decode cX12_splice 21 = .ok (.iload_n 1, 1) := dz_27 (dz_at q10w15_4_0 21)
theorem dX12_splice_22 : decode cX12_splice 22 = .ok (.ifCond .eq 19, 3) := dz_153 (dz_at q10w15_4_22 0) (by decide +kernel)
theorem dX12_splice_25 : decode cX12_splice 25 = .ok (.aload_n 0, 1) := dz_42 (dz_at q10w15_4_22 3)
theorem dX12_splice_26 : decode cX12_splice 26 = .ok (.getfield 131, 3) := dz_180 (dz_at q10w15_4_22 4) rfl
theorem dX12_splice_29 : decode cX12_splice 29 = .ok (.aload_n 0, 1) := dz_42 (dz_at q10w15_4_22 7)
theorem dX12_splice_30 : decode cX12_splice 30 = .ok (.getfield 128, 3) := dz_180 (dz_at q10w15_4_22 8) rfl
theorem dX12_splice_33 : decode cX12_splice 33 = .ok (.if_icmp .ge 8, 3) := dz_162 (dz_at q10w15_4_22 11) (by decide +kernel)
theorem dX12_splice_36 : decode cX12_splice 36 = .ok (.aload_n 0, 1) := dz_42 (dz_at q10w15_4_22 14)
theorem dX12_splice_37 : decode cX12_splice 37 = .ok (.invokevirtual 145, 3) := dz_182 (dz_at q10w15_4_22 15) rfl
theorem dX12_splice_40 : decode cX12_splice 40 = .ok (.istore_n 1, 1) := dz_60 (dz_at q10w15_4_22 18)
theorem dX12_splice_41 : decode cX12_splice 41 = .ok (.iconst 0, 1) := dz_3 (dz_at q10w15_4_22 19)
theorem dX12_splice_42 : decode cX12_splice 42 = .ok (.istore_n 2, 1) := dz_61 (dz_at q10w15_4_22 20)
theorem dX12_splice_43 : decode cX12_splice 43 = .ok (.iload_n 1, 1) := dz_27 (dz_at q10w15_4_22 21)
theorem dX12_splice_44 : decode cX12_splice 44 = .ok (.ifCond .eq 14, 3) := dz_153 (dz_at q10w15_4_44 0) (by decide +kernel)
theorem dX12_splice_47 : decode cX12_splice 47 = .ok (.aload_n 0, 1) := dz_42 (dz_at q10w15_4_44 3)
theorem dX12_splice_48 : decode cX12_splice 48 = .ok (.iconst 0, 1) := dz_3 (dz_at q10w15_4_44 4)
theorem dX12_splice_49 : decode cX12_splice 49 = .ok (.putfield 131, 3) := dz_181 (dz_at q10w15_4_44 5) rfl
theorem dX12_splice_5 : decode cX12_splice 5 = .ok (.aload_n 0, 1) := dz_42 (dz_at q10w15_4_0 5)
theorem dX12_splice_52 : decode cX12_splice 52 = .ok (.aload_n 0, 1) := dz_42 (dz_at q10w15_4_44 8)
theorem dX12_splice_53 : decode cX12_splice 53 = .ok (.iconst 0, 1) := dz_3 (dz_at q10w15_4_44 9)
theorem dX12_splice_54 : decode cX12_splice 54 = .ok (.invokevirtual 159, 3) := dz_182 (dz_at q10w15_4_44 10) rfl
theorem dX12_splice_57 : decode cX12_splice 57 = .ok (.istore_n 2, 1) := dz_61 (dz_at q10w15_4_44 13)
theorem dX12_splice_58 : decode cX12_splice 58 = .ok (.aload_n 0, 1) := dz_42 (dz_at q10w15_4_44 14)
theorem dX12_splice_59 : decode cX12_splice 59 = .ok (.iconst 0, 1) := dz_3 (dz_at q10w15_4_44 15)
theorem dX12_splice_6 : decode cX12_splice 6 = .ok (.iconst 0, 1) := dz_3 (dz_at q10w15_4_0 6)
theorem dX12_splice_60 : decode cX12_splice 60 = .ok (.putfield 128, 3) := dz_181 (dz_at q10w15_4_44 16) rfl
theorem dX12_splice_63 : decode cX12_splice 63 = .ok (.iload_n 1, 1) := dz_27 (dz_at q10w15_4_44 19)
theorem dX12_splice_64 : decode cX12_splice 64 = .ok (.ifCond .ne 10, 3) := dz_154 (dz_at q10w15_4_44 20) (by decide +kernel)
theorem dX12_splice_67 : decode cX12_splice 67 = .ok (.iconst (-1), 1) := dz_2 (dz_at q10w15_4_44 23)
theorem dX12_splice_68 : decode cX12_splice 68 = .ok (.aload_n 0, 1) := dz_42 (dz_at q10w15_4_68 0)
theorem dX12_splice_69 : decode cX12_splice 69 = .ok (.getfield 134, 3) := dz_180 (dz_at q10w15_4_68 1) rfl
theorem dX12_splice_7 : decode cX12_splice 7 = .ok (.putfield 131, 3) := dz_181 (dz_at q10w15_4_0 7) rfl
theorem dX12_splice_72 : decode cX12_splice 72 = .ok (.isub, 1) := dz_100 (dz_at q10w15_4_68 4)
theorem dX12_splice_73 : decode cX12_splice 73 = .ok (.ireturn, 1) := dz_172 (dz_at q10w15_4_68 5)
theorem dX12_splice_74 : decode cX12_splice 74 = .ok (.iload_n 2, 1) := dz_28 (dz_at q10w15_4_68 6)
theorem dX12_splice_75 : decode cX12_splice 75 = .ok (.ifCond .ge 5, 3) := dz_156 (dz_at q10w15_4_68 7) (by decide +kernel)
theorem dX12_splice_78 : decode cX12_splice 78 = .ok (.iload_n 2, 1) := dz_28 (dz_at q10w15_4_68 10)
theorem dX12_splice_79 : decode cX12_splice 79 = .ok (.ireturn, 1) := dz_172 (dz_at q10w15_4_68 11)
theorem dX12_splice_80 : decode cX12_splice 80 = .ok (.aload_n 0, 1) := dz_42 (dz_at q10w15_4_68 12)
theorem dX12_splice_81 : decode cX12_splice 81 = .ok (.aload_n 0, 1) := dz_42 (dz_at q10w15_4_68 13)
theorem dX12_splice_82 : decode cX12_splice 82 = .ok (.getfield 87, 3) := dz_180 (dz_at q10w15_4_68 14) rfl
theorem dX12_splice_85 : decode cX12_splice 85 = .ok (.iconst 0, 1) := dz_3 (dz_at q10w15_4_68 17)
theorem dX12_splice_86 : decode cX12_splice 86 = .ok (.iaload, 1) := dz_46 (dz_at q10w15_4_68 18)
theorem dX12_splice_87 : decode cX12_splice 87 = .ok (.putfield 162, 3) := dz_181 (dz_at q10w15_4_68 19) rfl
theorem dX12_splice_90 : decode cX12_splice 90 = .ok (.iconst 0, 1) := dz_3 (dz_at q10w15_4_68 22)
theorem dX12_splice_91 : decode cX12_splice 91 = .ok (.istore_n 3, 1) := dz_62 (dz_at q10w15_4_68 23)
theorem dX12_splice_92 : decode cX12_splice 92 = .ok (.iload_n 3, 1) := dz_29 (dz_at q10w15_4_92 0)
theorem dX12_splice_93 : decode cX12_splice 93 = .ok (.aload_n 0, 1) := dz_42 (dz_at q10w15_4_92 1)
theorem dX12_splice_94 : decode cX12_splice 94 = .ok (.getfield 162, 3) := dz_180 (dz_at q10w15_4_92 2) rfl
theorem dX12_splice_97 : decode cX12_splice 97 = .ok (.if_icmp .ge 21, 3) := dz_162 (dz_at q10w15_4_92 5) (by decide +kernel)
theorem dm_X12_isMotor : yX12_isMotor.cls = RX12 ∧ yX12_isMotor.cls ≠ "java/lang/invoke/MethodHandle" ∧ yX12_isMotor.cls ≠ "java/lang/invoke/VarHandle" ∧ (parseMethodDescriptor yX12_isMotor.desc).map (fun d => d.parameters.length) = some 1 := by decide +kernel
theorem dm_X12_isRing : yX12_isRing.cls = RX12 ∧ yX12_isRing.cls ≠ "java/lang/invoke/MethodHandle" ∧ yX12_isRing.cls ≠ "java/lang/invoke/VarHandle" ∧ (parseMethodDescriptor yX12_isRing.desc).map (fun d => d.parameters.length) = some 1 := by decide +kernel
set_option maxRecDepth 100000 in
def wR_splice  (M : zM) (Q : Int → zM → Prop) : Prop := (∀ M1 : zM, M1 = zup M 0 35 0 → (∀ M3 : zM, M3 = zup M1 0 36 0 → (∀ M5 : zM, M5 = zup M3 0 37 (-1) → wR_skipRow 6 0 M5 (fun z8 M7 => wJ1 (fun J41 => (z8 = 0 → J41 z8 M7) ∧ (z8 ≠ 0 → ((sI (M7 0 1)) ≤ (sI (M7 0 36)) → J41 z8 M7) ∧ ((sI (M7 0 36)) < (sI (M7 0 1)) → wR_isWrong  M7 (fun z60 M59 => J41 z60 M59)))) (fun (x15 : Int) (M16 : zM) => wJ1 (fun J58 => ((sI x15) = 0 → J58 0 M16) ∧ ((sI x15) ≠ 0 → (∀ M52 : zM, M52 = zup M16 0 36 0 → wR_makeRow 6 0 M52 (fun z55 M54 => J58 z55 M54)))) (fun (x25 : Int) (M26 : zM) => (∀ M29 : zM, M29 = zup M26 0 1 0 → ((sI x15) ≠ 0 → (0 ≤ (sI x25) → (∀ M33 : zM, M33 = zup M29 0 3 (M29 24 0) → wL1 (fun K92 x35 M36 => ((sI (M36 0 3)) ≤ (sI x35) → Q (sI (M36 0 3)) M36) ∧ ((sI x35) < (sI (M36 0 3)) → ((0 ≤ (sI x35) ∧ (sI x35) < 144) ∧ ((0 ≤ (sI x35) ∧ (sI x35) < 24) ∧ (∀ M47 : zM, M47 = zup M36 2 (sI x35).toNat (M36 23 (sI x35).toNat) → K92 (x35 + 1) M47))))) 0 M33)) ∧ ((sI x25) < 0 → Q (sI x25) M29)) ∧ ((sI x15) = 0 → Q (sI ((-1) - (M29 0 37))) M29))))))))
set_option maxHeartbeats 4000000 in
set_option maxRecDepth 100000 in
theorem cR_splice (l : Launch) (D : va_G) (dA : Nat → ClassId) (b : Nat) (M : zM)   (Q : Int → zM → Prop) (h : wR_splice  M Q) : Met l yX12_splice (.code yX12_splice cX12_splice 4 (some .int) :: zt) (z_rm 20) (va_Pc [.ref (b + 0)] (wPre D dA vwCl (z_tys dA) wR nR b M)) (va_Qi (wQi Q) (zB D dA vwCl wR nR b) (zA nR b)) 0 0 (zA nR b) := by
  unfold wR_splice at h
  refine Met.ofW (cc := cX12_splice) (maxL := 4) (ret := (some .int)) (by decide) rfl ?_
  intro p e s m args below meth c s₁ B hml hv
  obtain ⟨hargs, hS, hK⟩ := hv
  have hx := B.exec
  have hb := B.bytes
  have hr := B.returns
  have hts := atoms_spec (ws := .code yX12_splice cX12_splice 4 (some .int) :: zt) B.pre
  have hown : s.vm.findClass RX12 = some m.cls := findClass_of_methodNamed B.named
  have hlocks := B.notSynchronized
  have hS0 : va_S (zA nR b) s.heap s.heap [] := va_S.rf
  have hl := lv_entry ([.ref (b + 0)]) (n := 4) (Nat.le_of_ble_eq_true rfl)
  have hent : entryFrame m args 4 = F0 m 0 ((lg_sl ([.ref (b + 0)]) ++ List.replicate (4 - (lg_sl ([.ref (b + 0)])).length) Slot.unset).toArray) [] := by rw [hargs]; exact lg_entry_eq m ([.ref (b + 0)]) 4
  rw [hent]
  generalize (lg_sl ([.ref (b + 0)]) ++ List.replicate (4 - (lg_sl ([.ref (b + 0)])).length) Slot.unset).toArray = ls at hl ⊢
  have hl : lv_has ls 4 [(0, .ref (b + 0))] := hl
  refine lv_aload_n hx hb dX12_splice_0 rfl (lv_at hl 0 rfl) ?_
  refine z_iconst hx hb dX12_splice_1 ?_
  refine w_puti hx hb hts (z_memU u12) tyX12 tyX12_ok nmX12 hown hK.1 hS hS0 f12_35 (by decide) (zkd_of (rfl : zcd wR 0 = 50) rfl) (Or.inl (hts _ (z_mem k979))) rfl (z := 0) (by decide +kernel) dX12_splice_2 (fun H locs hS hS0 => ?_)
  obtain ⟨M1, e2⟩ : ∃ M1 : zM, M1 = zup M 0 35 0 := ⟨_, rfl⟩
  rw [← e2] at hS
  have h := h M1 e2
  refine lv_aload_n hx hb dX12_splice_5 rfl (lv_at hl 0 rfl) ?_
  refine z_iconst hx hb dX12_splice_6 ?_
  refine w_puti hx hb hts (z_memU u12) tyX12 tyX12_ok nmX12 hown hK.1 hS hS0 f12_36 (by decide) (zkd_of (rfl : zcd wR 0 = 50) rfl) (Or.inl (hts _ (z_mem k980))) rfl (z := 0) (by decide +kernel) dX12_splice_7 (fun H locs hS hS0 => ?_)
  obtain ⟨M3, e4⟩ : ∃ M3 : zM, M3 = zup M1 0 36 0 := ⟨_, rfl⟩
  rw [← e4] at hS
  have h := h M3 e4
  refine lv_aload_n hx hb dX12_splice_10 rfl (lv_at hl 0 rfl) ?_
  refine z_iconst hx hb dX12_splice_11 ?_
  refine w_puti hx hb hts (z_memU u12) tyX12 tyX12_ok nmX12 hown hK.1 hS hS0 f12_37 (by decide) (zkd_of (rfl : zcd wR 0 = 50) rfl) (Or.inl (hts _ (z_mem k981))) rfl (z := (-1)) (by decide +kernel) dX12_splice_12 (fun H locs hS hS0 => ?_)
  obtain ⟨M5, e6⟩ : ∃ M5 : zM, M5 = zup M3 0 37 (-1) := ⟨_, rfl⟩
  rw [← e6] at hS
  have h := h M5 e6
  refine lv_aload_n hx hb dX12_splice_15 rfl (lv_at hl 0 rfl) ?_
  refine z_iconst hx hb dX12_splice_16 ?_
  refine w_callz (va_runV (As := [.int (iI 0)]) (rest := []) ⟨hx, hb, hml, hown, hts⟩ (cR_skipRow 6 l D dA b M5 0 _ h) (cwV 1 hts (z_gV k1058 k1059 k1390 k14 k1060) rfl rfl rfl dm_X12_skipRow ⟨Nat.le_of_ble_eq_true rfl, Nat.le_of_ble_eq_true rfl⟩) ⟨wPre_blind, (w_recv hS hK.1 (by decide) (zkd_of (rfl : zcd wR 0 = 50) rfl) (by decide) (rfl : vwCl[12]? = some (RX12, TX12, 50))), w_pre hS hK⟩ rfl rfl hl.1 rfl (lv_room (Nat.le_of_ble_eq_true rfl)) dX12_splice_17 ⟨Nat.le_refl _, Nat.le_refl _⟩) hS0 (fun z8 M7 H locs r9 h hS hS0 => ?_)
  refine lv_istore_n (lv' := [(1, .int (iI z8)), (0, .ref (b + 0))]) hx hb dX12_splice_20 rfl hl (by decide) rfl (fun ls hl => ?_)
  refine lv_iload_n hx hb dX12_splice_21 rfl (lv_at hl 0 rfl) ?_
  obtain ⟨J41, B18, h⟩ := h
  have L17 : ∀ (x15 : Int) (M16 : zM) (H : Heap) (locs : List Loc) (ls : Array Slot), J41 x15 M16 → zR D dA vwCl wR nR b M16 H → va_S (zA nR b) s.heap H locs → lv_has ls 4 [(0, .ref (b + 0)), (1, .int (iI x15))] → W p l e (headSpec (.code yX12_splice cX12_splice 4 (some .int) :: zt) (z_rm 20)).room s m args below meth c H locs 0 0 (MQ below (va_Qi (wQi Q) (zB D dA vwCl wR nR b) (zA nR b)) args s 0 0 (zA nR b)) (F0 m 41 ls []) := by
    intro x15 M16 H locs ls h hS hS0 hl
    have h := B18 x15 M16 h
    refine z_iconst hx hb dX12_splice_41 ?_
    refine lv_istore_n (lv' := [(2, .int (iI 0)), (0, .ref (b + 0)), (1, .int (iI x15))]) hx hb dX12_splice_42 rfl hl (by decide) rfl (fun ls hl => ?_)
    refine lv_iload_n hx hb dX12_splice_43 rfl (lv_at hl 2 rfl) ?_
    obtain ⟨J58, B28, h⟩ := h
    have L27 : ∀ (x25 : Int) (M26 : zM) (H : Heap) (locs : List Loc) (ls : Array Slot), J58 x25 M26 → zR D dA vwCl wR nR b M26 H → va_S (zA nR b) s.heap H locs → lv_has ls 4 [(0, .ref (b + 0)), (1, .int (iI x15)), (2, .int (iI x25))] → W p l e (headSpec (.code yX12_splice cX12_splice 4 (some .int) :: zt) (z_rm 20)).room s m args below meth c H locs 0 0 (MQ below (va_Qi (wQi Q) (zB D dA vwCl wR nR b) (zA nR b)) args s 0 0 (zA nR b)) (F0 m 58 ls []) := by
      intro x25 M26 H locs ls h hS hS0 hl
      have h := B28 x25 M26 h
      refine lv_aload_n hx hb dX12_splice_58 rfl (lv_at hl 0 rfl) ?_
      refine z_iconst hx hb dX12_splice_59 ?_
      refine w_puti hx hb hts (z_memU u12) tyX12 tyX12_ok nmX12 hown hK.1 hS hS0 f12_1 (by decide) (zkd_of (rfl : zcd wR 0 = 50) rfl) (Or.inl (hts _ (z_mem k945))) rfl (z := 0) (by decide +kernel) dX12_splice_60 (fun H locs hS hS0 => ?_)
      obtain ⟨M29, e30⟩ : ∃ M29 : zM, M29 = zup M26 0 1 0 := ⟨_, rfl⟩
      rw [← e30] at hS
      have h := h M29 e30
      refine lv_iload_n hx hb dX12_splice_63 rfl (lv_at hl 1 rfl) ?_
      refine w_if_ne (tgt := 74) hx hb rfl dX12_splice_64 (by decide) (fun c31 => ?_) (fun c31 => ?_)
      · skip
        have h := h.1 c31
        refine lv_iload_n hx hb dX12_splice_74 rfl (lv_at hl 2 rfl) ?_
        refine w_if_ge (tgt := 80) hx hb rfl dX12_splice_75 (by decide) (fun c32 => ?_) (fun c32 => ?_)
        · skip
          have h := h.1 c32
          refine lv_aload_n hx hb dX12_splice_80 rfl (lv_at hl 0 rfl) ?_
          refine lv_aload_n hx hb dX12_splice_81 rfl (lv_at hl 0 rfl) ?_
          refine w_getr (j2 := 24) hx hb hts (z_memU u12) hown hK.1 hS f12_39 (by decide) (zkd_of (rfl : zcd wR 0 = 50) rfl) (zrf_of (rfl : zcd wR 0 = 50) rfl) (Or.inl (hts _ (z_mem k983))) dX12_splice_82 ?_
          refine z_iconst hx hb dX12_splice_85 ?_
          refine w_iald (n := 6) (i := 0) hx hb hK.1 (t0 := 0) rfl hS (by decide) (zkd_of (rfl : zcd wR 24 = 74) rfl) (zln_of (rfl : zcd wR 24 = 74) rfl) (sI_of (by decide)) (by decide) (by decide) (by decide) dX12_splice_86 ?_
          refine w_puti hx hb hts (z_memU u12) tyX12 tyX12_ok nmX12 hown hK.1 hS hS0 f12_3 (by decide) (zkd_of (rfl : zcd wR 0 = 50) rfl) (Or.inl (hts _ (z_mem k947))) rfl (z := (M29 24 0)) (by decide +kernel) dX12_splice_87 (fun H locs hS hS0 => ?_)
          obtain ⟨M33, e34⟩ : ∃ M33 : zM, M33 = zup M29 0 3 (M29 24 0) := ⟨_, rfl⟩
          rw [← e34] at hS
          have h := h M33 e34
          refine z_iconst hx hb dX12_splice_90 ?_
          refine lv_istore_n (lv' := [(3, .int (iI 0)), (0, .ref (b + 0)), (1, .int (iI x15)), (2, .int (iI x25))]) hx hb dX12_splice_91 rfl hl (by decide) rfl (fun ls hl => ?_)
          obtain ⟨I37, ⟨n38, h39⟩, h40⟩ := h
          have L41 : ∀ (n42 : Nat) (x35 : Int) (M36 : zM) (H : Heap) (locs : List Loc) (ls : Array Slot), I37 n42 x35 M36 → zR D dA vwCl wR nR b M36 H → va_S (zA nR b) s.heap H locs → lv_has ls 4 [(0, .ref (b + 0)), (3, .int (iI x35))] → W p l e (headSpec (.code yX12_splice cX12_splice 4 (some .int) :: zt) (z_rm 20)).room s m args below meth c H locs 0 0 (MQ below (va_Qi (wQi Q) (zB D dA vwCl wR nR b) (zA nR b)) args s 0 0 (zA nR b)) (F0 m 92 ls []) := by
            intro n42
            induction n42 using Nat.strongRecOn with
            | ind n42 i43 =>
              intro x35 M36 H locs ls h hS hS0 hl
              have h := h40 n42 x35 M36 h
              refine lv_iload_n hx hb dX12_splice_92 rfl (lv_at hl 1 rfl) ?_
              refine lv_aload_n hx hb dX12_splice_93 rfl (lv_at hl 0 rfl) ?_
              refine w_geti hx hb hts (z_memU u12) hown hK.1 hS f12_3 (by decide) (zkd_of (rfl : zcd wR 0 = 50) rfl) (Or.inl (hts _ (z_mem k947))) dX12_splice_94 ?_
              refine w_icmp_ge (tgt := 118) hx hb rfl rfl dX12_splice_97 (by decide) (fun c44 => ?_) (fun c44 => ?_)
              · skip
                have h := h.1 c44
                refine lv_aload_n hx hb dX12_splice_118 rfl (lv_at hl 0 rfl) ?_
                refine w_geti hx hb hts (z_memU u12) hown hK.1 hS f12_3 (by decide) (zkd_of (rfl : zcd wR 0 = 50) rfl) (Or.inl (hts _ (z_mem k947))) dX12_splice_119 ?_
                exact w_iret hx hb hr hlocks hS hS0 rfl h dX12_splice_122
              · skip
                have h := h.2 c44
                refine lv_aload_n hx hb dX12_splice_100 rfl (lv_at hl 0 rfl) ?_
                refine w_getr (j2 := 2) hx hb hts (z_memU u12) hown hK.1 hS f12_2 (by decide) (zkd_of (rfl : zcd wR 0 = 50) rfl) (zrf_of (rfl : zcd wR 0 = 50) rfl) (Or.inl (hts _ (z_mem k946))) dX12_splice_101 ?_
                refine lv_iload_n hx hb dX12_splice_104 rfl (lv_at hl 1 rfl) ?_
                refine lv_aload_n hx hb dX12_splice_105 rfl (lv_at hl 0 rfl) ?_
                refine w_getr (j2 := 23) hx hb hts (z_memU u12) hown hK.1 hS f12_38 (by decide) (zkd_of (rfl : zcd wR 0 = 50) rfl) (zrf_of (rfl : zcd wR 0 = 50) rfl) (Or.inl (hts _ (z_mem k982))) dX12_splice_106 ?_
                refine lv_iload_n hx hb dX12_splice_109 rfl (lv_at hl 1 rfl) ?_
                obtain ⟨o45, h⟩ := h
                refine w_iald (n := 144) (i := (sI x35)) hx hb hK.1 (t0 := 0) rfl hS (by decide) (zkd_of (rfl : zcd wR 23 = 73) rfl) (zln_of (rfl : zcd wR 23 = 73) rfl) rfl o45.1 o45.2 (by decide) dX12_splice_110 ?_
                obtain ⟨o46, h⟩ := h
                refine w_iast (z := (M36 23 (sI x35).toNat)) (n := 24) (i := (sI x35)) hx hb hK.1 (t0 := 0) rfl hS hS0 (by decide) (zkd_of (rfl : zcd wR 2 = 52) rfl) (zln_of (rfl : zcd wR 2 = 52) rfl) rfl o46.1 o46.2 (by decide) dX12_splice_111 (fun H locs hS hS0 => ?_)
                obtain ⟨M47, e48⟩ : ∃ M47 : zM, M47 = zup M36 2 (sI x35).toNat (M36 23 (sI x35).toNat) := ⟨_, rfl⟩
                rw [← e48] at hS
                have h := h M47 e48
                refine z_iinc (lv' := [(3, .int (iI (x35 + 1))), (0, .ref (b + 0))]) hx hb dX12_splice_112 hl (k := 1) rfl (by decide) rfl (fun ls hl => ?_)
                refine lv_goto (tgt := 92) hx hb dX12_splice_115 (by decide) ?_
                obtain ⟨n49, h50, h⟩ := h
                exact i43 n49 h50 (x35 + 1) M47 _ _ _ h hS hS0 (lv_sub hl [1, 0] rfl)
          exact L41 n38 0 M33 _ _ _ h39 hS hS0 (lv_sub hl [1, 0] rfl)
        · skip
          have h := h.2 c32
          refine lv_iload_n hx hb dX12_splice_78 rfl (lv_at hl 2 rfl) ?_
          exact w_iret hx hb hr hlocks hS hS0 rfl h dX12_splice_79
      · skip
        have h := h.2 c31
        refine z_iconst hx hb dX12_splice_67 ?_
        refine lv_aload_n hx hb dX12_splice_68 rfl (lv_at hl 0 rfl) ?_
        refine w_geti hx hb hts (z_memU u12) hown hK.1 hS f12_37 (by decide) (zkd_of (rfl : zcd wR 0 = 50) rfl) (Or.inl (hts _ (z_mem k981))) dX12_splice_69 ?_
        refine z_isub hx hb dX12_splice_72 ?_
        exact w_iret hx hb hr hlocks hS hS0 rfl h dX12_splice_73
    refine w_if_eq (tgt := 58) hx hb rfl dX12_splice_44 (by decide) (fun c51 => ?_) (fun c51 => ?_)
    · skip
      have h := h.1 c51
      exact L27 0 M16 _ _ _ h hS hS0 (lv_sub hl [1, 2, 0] rfl)
    · skip
      have h := h.2 c51
      refine lv_aload_n hx hb dX12_splice_47 rfl (lv_at hl 1 rfl) ?_
      refine z_iconst hx hb dX12_splice_48 ?_
      refine w_puti hx hb hts (z_memU u12) tyX12 tyX12_ok nmX12 hown hK.1 hS hS0 f12_36 (by decide) (zkd_of (rfl : zcd wR 0 = 50) rfl) (Or.inl (hts _ (z_mem k980))) rfl (z := 0) (by decide +kernel) dX12_splice_49 (fun H locs hS hS0 => ?_)
      obtain ⟨M52, e53⟩ : ∃ M52 : zM, M52 = zup M16 0 36 0 := ⟨_, rfl⟩
      rw [← e53] at hS
      have h := h M52 e53
      refine lv_aload_n hx hb dX12_splice_52 rfl (lv_at hl 1 rfl) ?_
      refine z_iconst hx hb dX12_splice_53 ?_
      refine w_calli (va_runV (As := [.int (iI 0)]) (rest := []) ⟨hx, hb, hml, hown, hts⟩ (cR_makeRow 6 l D dA b M52 0 _ h) (cwV 1 hts (z_gV k1073 k1074 k1395 k14 k1075) rfl rfl rfl dm_X12_makeRow ⟨Nat.le_of_ble_eq_true rfl, Nat.le_of_ble_eq_true rfl⟩) ⟨wPre_blind, (w_recv hS hK.1 (by decide) (zkd_of (rfl : zcd wR 0 = 50) rfl) (by decide) (rfl : vwCl[12]? = some (RX12, TX12, 50))), w_pre hS hK⟩ rfl rfl hl.1 rfl (lv_room (Nat.le_of_ble_eq_true rfl)) dX12_splice_54 ⟨Nat.le_refl _, Nat.le_refl _⟩) hS0 (fun z55 M54 H locs r56 h hS hS0 => ?_)
      refine lv_istore_n (lv' := [(2, .int (iI z55)), (0, .ref (b + 0)), (1, .int (iI x15))]) hx hb dX12_splice_57 rfl hl (by decide) rfl (fun ls hl => ?_)
      exact L27 z55 M54 _ _ _ h hS hS0 (lv_sub hl [1, 2, 0] rfl)
  refine w_if_eq (tgt := 41) hx hb (sI_01 r9) dX12_splice_22 (by decide) (fun c57 => ?_) (fun c57 => ?_)
  · skip
    have h := h.1 c57
    exact L17 z8 M7 _ _ _ h hS hS0 (lv_sub hl [1, 0] rfl)
  · skip
    have h := h.2 c57
    refine lv_aload_n hx hb dX12_splice_25 rfl (lv_at hl 1 rfl) ?_
    refine w_geti hx hb hts (z_memU u12) hown hK.1 hS f12_36 (by decide) (zkd_of (rfl : zcd wR 0 = 50) rfl) (Or.inl (hts _ (z_mem k980))) dX12_splice_26 ?_
    refine lv_aload_n hx hb dX12_splice_29 rfl (lv_at hl 1 rfl) ?_
    refine w_geti hx hb hts (z_memU u12) hown hK.1 hS f12_1 (by decide) (zkd_of (rfl : zcd wR 0 = 50) rfl) (Or.inl (hts _ (z_mem k945))) dX12_splice_30 ?_
    refine w_icmp_ge (tgt := 41) hx hb rfl rfl dX12_splice_33 (by decide) (fun c58 => ?_) (fun c58 => ?_)
    · skip
      have h := h.1 c58
      exact L17 z8 M7 _ _ _ h hS hS0 (lv_sub hl [1, 0] rfl)
    · skip
      have h := h.2 c58
      refine lv_aload_n hx hb dX12_splice_36 rfl (lv_at hl 1 rfl) ?_
      refine w_callz (va_runV (As := []) (rest := []) ⟨hx, hb, hml, hown, hts⟩ (cR_isWrong l D dA b M7  _ h) (cwV 0 hts (z_gV k1070 k1071 k1394 k14 k1072) rfl rfl rfl dm_X12_isWrong ⟨Nat.le_of_ble_eq_true rfl, Nat.le_of_ble_eq_true rfl⟩) ⟨wPre_blind, (w_recv hS hK.1 (by decide) (zkd_of (rfl : zcd wR 0 = 50) rfl) (by decide) (rfl : vwCl[12]? = some (RX12, TX12, 50))), w_pre hS hK⟩ rfl rfl hl.1 rfl (lv_room (Nat.le_of_ble_eq_true rfl)) dX12_splice_37 ⟨Nat.le_refl _, Nat.le_refl _⟩) hS0 (fun z60 M59 H locs r61 h hS hS0 => ?_)
      refine lv_istore_n (lv' := [(1, .int (iI z60)), (0, .ref (b + 0))]) hx hb dX12_splice_40 rfl hl (by decide) rfl (fun ls hl => ?_)
      exact L17 z60 M59 _ _ _ h hS hS0 (lv_sub hl [1, 0] rfl)

set_option maxRecDepth 100000 in
def wR_hand (a0 : Int) (M : zM) (Q : Int → zM → Prop) : Prop := (∀ M1 : zM, M1 = zup M 0 35 0 → wR_in a0 0 ((M1 0 3) - 1) M1 (fun z4 => (z4 = 0 → Q (-1) M1) ∧ (z4 ≠ 0 → ((0 ≤ (sI a0) ∧ (sI a0) < 24) ∧ Q (sI (M1 2 (sI a0).toNat)) M1))))
set_option maxHeartbeats 4000000 in
set_option maxRecDepth 100000 in
theorem cR_hand (l : Launch) (D : va_G) (dA : Nat → ClassId) (b : Nat) (M : zM) (a0 : Int)  (Q : Int → zM → Prop) (h : wR_hand a0 M Q) : Met l yX12_hand (.code yX12_hand cX12_hand 2 (some .int) :: zt) (z_rm 1) (va_Pc [.ref (b + 0), .int (iI a0)] (wPre D dA vwCl (z_tys dA) wR nR b M)) (va_Qi (wQi Q) (zB D dA vwCl wR nR b) (zA nR b)) 0 0 (zA nR b) := by
  unfold wR_hand at h
  refine Met.ofW (cc := cX12_hand) (maxL := 2) (ret := (some .int)) (by decide) rfl ?_
  intro p e s m args below meth c s₁ B hml hv
  obtain ⟨hargs, hS, hK⟩ := hv
  have hx := B.exec
  have hb := B.bytes
  have hr := B.returns
  have hts := atoms_spec (ws := .code yX12_hand cX12_hand 2 (some .int) :: zt) B.pre
  have hown : s.vm.findClass RX12 = some m.cls := findClass_of_methodNamed B.named
  have hlocks := B.notSynchronized
  have hS0 : va_S (zA nR b) s.heap s.heap [] := va_S.rf
  have hl := lv_entry ([.ref (b + 0), .int (iI a0)]) (n := 2) (Nat.le_of_ble_eq_true rfl)
  have hent : entryFrame m args 2 = F0 m 0 ((lg_sl ([.ref (b + 0), .int (iI a0)]) ++ List.replicate (2 - (lg_sl ([.ref (b + 0), .int (iI a0)])).length) Slot.unset).toArray) [] := by rw [hargs]; exact lg_entry_eq m ([.ref (b + 0), .int (iI a0)]) 2
  rw [hent]
  generalize (lg_sl ([.ref (b + 0), .int (iI a0)]) ++ List.replicate (2 - (lg_sl ([.ref (b + 0), .int (iI a0)])).length) Slot.unset).toArray = ls at hl ⊢
  have hl : lv_has ls 2 [(0, .ref (b + 0)), (1, .int (iI a0))] := hl
  refine lv_aload_n hx hb dX12_hand_0 rfl (lv_at hl 0 rfl) ?_
  refine z_iconst hx hb dX12_hand_1 ?_
  refine w_puti hx hb hts (z_memU u12) tyX12 tyX12_ok nmX12 hown hK.1 hS hS0 f12_35 (by decide) (zkd_of (rfl : zcd wR 0 = 50) rfl) (Or.inl (hts _ (z_mem k979))) rfl (z := 0) (by decide +kernel) dX12_hand_2 (fun H locs hS hS0 => ?_)
  obtain ⟨M1, e2⟩ : ∃ M1 : zM, M1 = zup M 0 35 0 := ⟨_, rfl⟩
  rw [← e2] at hS
  have h := h M1 e2
  refine lv_iload_n hx hb dX12_hand_5 rfl (lv_at hl 1 rfl) ?_
  refine z_iconst hx hb dX12_hand_6 ?_
  refine lv_aload_n hx hb dX12_hand_7 rfl (lv_at hl 0 rfl) ?_
  refine w_geti hx hb hts (z_memU u12) hown hK.1 hS f12_3 (by decide) (zkd_of (rfl : zcd wR 0 = 50) rfl) (Or.inl (hts _ (z_mem k947))) dX12_hand_8 ?_
  refine z_iconst hx hb dX12_hand_11 ?_
  refine z_isub hx hb dX12_hand_12 ?_
  refine w_callz (va_runS (As := [.int (iI a0), .int (iI 0), .int (iI ((M1 0 3) - 1))]) (rest := []) ⟨hx, hb, hml, hown, hts⟩ (cR_in l D dA b M1 a0 0 ((M1 0 3) - 1) _ h) (va_cwS 3 hts (z_gS k1083 k1084 k14 k1085) rfl rfl rfl dm_X12_in.2 ⟨Nat.le_of_ble_eq_true rfl, Nat.le_of_ble_eq_true rfl⟩) ⟨wPre_blind, w_pre hS hK⟩ rfl rfl hl.1 rfl (lv_room (Nat.le_of_ble_eq_true rfl)) dX12_hand_13 ⟨Nat.le_refl _, Nat.le_refl _⟩) hS0 (fun z4 M3 H locs r5 h hS hS0 => ?_)
  obtain ⟨e6, h⟩ := h
  rw [e6] at hS
  refine w_if_eq (tgt := 28) hx hb (sI_01 r5) dX12_hand_16 (by decide) (fun c7 => ?_) (fun c7 => ?_)
  · skip
    have h := h.1 c7
    refine z_iconst hx hb dX12_hand_28 ?_
    exact w_iret hx hb hr hlocks hS hS0 (sI_of (by decide)) h dX12_hand_29
  · skip
    have h := h.2 c7
    refine lv_aload_n hx hb dX12_hand_19 rfl (lv_at hl 0 rfl) ?_
    refine w_getr (j2 := 2) hx hb hts (z_memU u12) hown hK.1 hS f12_2 (by decide) (zkd_of (rfl : zcd wR 0 = 50) rfl) (zrf_of (rfl : zcd wR 0 = 50) rfl) (Or.inl (hts _ (z_mem k946))) dX12_hand_20 ?_
    refine lv_iload_n hx hb dX12_hand_23 rfl (lv_at hl 1 rfl) ?_
    obtain ⟨o8, h⟩ := h
    refine w_iald (n := 24) (i := (sI a0)) hx hb hK.1 (t0 := 0) rfl hS (by decide) (zkd_of (rfl : zcd wR 2 = 52) rfl) (zln_of (rfl : zcd wR 2 = 52) rfl) rfl o8.1 o8.2 (by decide) dX12_hand_24 ?_
    refine lv_goto (tgt := 29) hx hb dX12_hand_25 (by decide) ?_
    exact w_iret hx hb hr hlocks hS hS0 rfl h dX12_hand_29

set_option maxRecDepth 100000 in
def wR_ring (a0 : Int) (a1 : Int) (M : zM) (Q : Int → zM → Prop) : Prop := (∀ M1 : zM, M1 = zup M 0 35 0 → ((sI (M1 0 3)) = 0 → Q (-1) M1) ∧ ((sI (M1 0 3)) ≠ 0 → wR_isMotor a0 M1 (fun z5 => (z5 = 0 → Q (-1) M1) ∧ (z5 ≠ 0 → wR_in a1 0 ((M1 0 3) - 1) M1 (fun z10 => (z10 = 0 → Q (-1) M1) ∧ (z10 ≠ 0 → ((sI (M1 0 10)) ≠ 4 → ((0 ≤ (sI (M1 0 10)) ∧ (sI (M1 0 10)) < 4) ∧ (∀ M16 : zM, M16 = zup M1 4 (sI (M1 0 10)).toNat (M1 0 3) → wL1 (fun K58 x18 M19 => ((sI (M19 0 3)) ≤ (sI x18) → ((0 ≤ (sI (M19 0 10)) ∧ (sI (M19 0 10)) < 4) ∧ (∀ M29 : zM, M29 = zup M19 5 (sI (M19 0 10)).toNat a0 → ((0 ≤ (sI (M29 0 10)) ∧ (sI (M29 0 10)) < 4) ∧ (∀ M32 : zM, M32 = zup M29 6 (sI (M29 0 10)).toNat a1 → ((0 ≤ (sI (M32 0 10)) ∧ (sI (M32 0 10)) < 4) ∧ (∀ M35 : zM, M35 = zup M32 7 (sI (M32 0 10)).toNat 1 → ((0 ≤ (sI (M35 0 10)) ∧ (sI (M35 0 10)) < 4) ∧ (∀ M38 : zM, M38 = zup M35 8 (sI (M35 0 10)).toNat 0 → (∀ M40 : zM, M40 = zup M38 0 10 ((M38 0 10) + 1) → Q (sI ((M40 0 10) - 1)) M40)))))))))) ∧ ((sI x18) < (sI (M19 0 3)) → ((0 ≤ (sI x18) ∧ (sI x18) < 24) ∧ ((0 ≤ (sI ((24 * (M19 0 10)) + x18)) ∧ (sI ((24 * (M19 0 10)) + x18)) < 96) ∧ (∀ M44 : zM, M44 = zup M19 3 (sI ((24 * (M19 0 10)) + x18)).toNat (M19 2 (sI x18).toNat) → K58 (x18 + 1) M44))))) 0 M16))) ∧ ((sI (M1 0 10)) = 4 → Q (-1) M1)))))))
set_option maxHeartbeats 4000000 in
set_option maxRecDepth 100000 in
theorem cR_ring (l : Launch) (D : va_G) (dA : Nat → ClassId) (b : Nat) (M : zM) (a0 : Int) (a1 : Int)  (Q : Int → zM → Prop) (h : wR_ring a0 a1 M Q) : Met l yX12_ring (.code yX12_ring cX12_ring 4 (some .int) :: zt) (z_rm 1) (va_Pc [.ref (b + 0), .int (iI a0), .int (iI a1)] (wPre D dA vwCl (z_tys dA) wR nR b M)) (va_Qi (wQi Q) (zB D dA vwCl wR nR b) (zA nR b)) 0 0 (zA nR b) := by
  unfold wR_ring at h
  refine Met.ofW (cc := cX12_ring) (maxL := 4) (ret := (some .int)) (by decide) rfl ?_
  intro p e s m args below meth c s₁ B hml hv
  obtain ⟨hargs, hS, hK⟩ := hv
  have hx := B.exec
  have hb := B.bytes
  have hr := B.returns
  have hts := atoms_spec (ws := .code yX12_ring cX12_ring 4 (some .int) :: zt) B.pre
  have hown : s.vm.findClass RX12 = some m.cls := findClass_of_methodNamed B.named
  have hlocks := B.notSynchronized
  have hS0 : va_S (zA nR b) s.heap s.heap [] := va_S.rf
  have hl := lv_entry ([.ref (b + 0), .int (iI a0), .int (iI a1)]) (n := 4) (Nat.le_of_ble_eq_true rfl)
  have hent : entryFrame m args 4 = F0 m 0 ((lg_sl ([.ref (b + 0), .int (iI a0), .int (iI a1)]) ++ List.replicate (4 - (lg_sl ([.ref (b + 0), .int (iI a0), .int (iI a1)])).length) Slot.unset).toArray) [] := by rw [hargs]; exact lg_entry_eq m ([.ref (b + 0), .int (iI a0), .int (iI a1)]) 4
  rw [hent]
  generalize (lg_sl ([.ref (b + 0), .int (iI a0), .int (iI a1)]) ++ List.replicate (4 - (lg_sl ([.ref (b + 0), .int (iI a0), .int (iI a1)])).length) Slot.unset).toArray = ls at hl ⊢
  have hl : lv_has ls 4 [(0, .ref (b + 0)), (1, .int (iI a0)), (2, .int (iI a1))] := hl
  refine lv_aload_n hx hb dX12_ring_0 rfl (lv_at hl 0 rfl) ?_
  refine z_iconst hx hb dX12_ring_1 ?_
  refine w_puti hx hb hts (z_memU u12) tyX12 tyX12_ok nmX12 hown hK.1 hS hS0 f12_35 (by decide) (zkd_of (rfl : zcd wR 0 = 50) rfl) (Or.inl (hts _ (z_mem k979))) rfl (z := 0) (by decide +kernel) dX12_ring_2 (fun H locs hS hS0 => ?_)
  obtain ⟨M1, e2⟩ : ∃ M1 : zM, M1 = zup M 0 35 0 := ⟨_, rfl⟩
  rw [← e2] at hS
  have h := h M1 e2
  refine lv_aload_n hx hb dX12_ring_5 rfl (lv_at hl 0 rfl) ?_
  refine w_geti hx hb hts (z_memU u12) hown hK.1 hS f12_3 (by decide) (zkd_of (rfl : zcd wR 0 = 50) rfl) (Or.inl (hts _ (z_mem k947))) dX12_ring_6 ?_
  refine w_if_eq (tgt := 41) hx hb rfl dX12_ring_9 (by decide) (fun c3 => ?_) (fun c3 => ?_)
  · skip
    have h := h.1 c3
    refine z_iconst hx hb dX12_ring_41 ?_
    exact w_iret hx hb hr hlocks hS hS0 (sI_of (by decide)) h dX12_ring_42
  · skip
    have h := h.2 c3
    refine lv_iload_n hx hb dX12_ring_12 rfl (lv_at hl 1 rfl) ?_
    refine w_callz (va_runS (As := [.int (iI a0)]) (rest := []) ⟨hx, hb, hml, hown, hts⟩ (cR_isMotor l D dA b M1 a0 _ h) (va_cwS 1 hts (z_gS k1090 k1091 k14 k1092) rfl rfl rfl dm_X12_isMotor.2 ⟨Nat.le_of_ble_eq_true rfl, Nat.le_of_ble_eq_true rfl⟩) ⟨wPre_blind, w_pre hS hK⟩ rfl rfl hl.1 rfl (lv_room (Nat.le_of_ble_eq_true rfl)) dX12_ring_13 ⟨Nat.le_refl _, Nat.le_refl _⟩) hS0 (fun z5 M4 H locs r6 h hS hS0 => ?_)
    obtain ⟨e7, h⟩ := h
    rw [e7] at hS
    refine w_if_eq (tgt := 41) hx hb (sI_01 r6) dX12_ring_16 (by decide) (fun c8 => ?_) (fun c8 => ?_)
    · skip
      have h := h.1 c8
      refine z_iconst hx hb dX12_ring_41 ?_
      exact w_iret hx hb hr hlocks hS hS0 (sI_of (by decide)) h dX12_ring_42
    · skip
      have h := h.2 c8
      refine lv_iload_n hx hb dX12_ring_19 rfl (lv_at hl 2 rfl) ?_
      refine z_iconst hx hb dX12_ring_20 ?_
      refine lv_aload_n hx hb dX12_ring_21 rfl (lv_at hl 0 rfl) ?_
      refine w_geti hx hb hts (z_memU u12) hown hK.1 hS f12_3 (by decide) (zkd_of (rfl : zcd wR 0 = 50) rfl) (Or.inl (hts _ (z_mem k947))) dX12_ring_22 ?_
      refine z_iconst hx hb dX12_ring_25 ?_
      refine z_isub hx hb dX12_ring_26 ?_
      refine w_callz (va_runS (As := [.int (iI a1), .int (iI 0), .int (iI ((M1 0 3) - 1))]) (rest := []) ⟨hx, hb, hml, hown, hts⟩ (cR_in l D dA b M1 a1 0 ((M1 0 3) - 1) _ h) (va_cwS 3 hts (z_gS k1083 k1084 k14 k1085) rfl rfl rfl dm_X12_in.2 ⟨Nat.le_of_ble_eq_true rfl, Nat.le_of_ble_eq_true rfl⟩) ⟨wPre_blind, w_pre hS hK⟩ rfl rfl hl.1 rfl (lv_room (Nat.le_of_ble_eq_true rfl)) dX12_ring_27 ⟨Nat.le_refl _, Nat.le_refl _⟩) hS0 (fun z10 M9 H locs r11 h hS hS0 => ?_)
      obtain ⟨e12, h⟩ := h
      rw [e12] at hS
      refine w_if_eq (tgt := 41) hx hb (sI_01 r11) dX12_ring_30 (by decide) (fun c13 => ?_) (fun c13 => ?_)
      · skip
        have h := h.1 c13
        refine z_iconst hx hb dX12_ring_41 ?_
        exact w_iret hx hb hr hlocks hS hS0 (sI_of (by decide)) h dX12_ring_42
      · skip
        have h := h.2 c13
        refine lv_aload_n hx hb dX12_ring_33 rfl (lv_at hl 0 rfl) ?_
        refine w_geti hx hb hts (z_memU u12) hown hK.1 hS f12_10 (by decide) (zkd_of (rfl : zcd wR 0 = 50) rfl) (Or.inl (hts _ (z_mem k954))) dX12_ring_34 ?_
        refine z_iconst hx hb dX12_ring_37 ?_
        refine w_icmp_ne (tgt := 43) hx hb rfl (sI_of (by decide)) dX12_ring_38 (by decide) (fun c14 => ?_) (fun c14 => ?_)
        · skip
          have h := h.1 c14
          refine lv_aload_n hx hb dX12_ring_43 rfl (lv_at hl 0 rfl) ?_
          refine w_getr (j2 := 4) hx hb hts (z_memU u12) hown hK.1 hS f12_5 (by decide) (zkd_of (rfl : zcd wR 0 = 50) rfl) (zrf_of (rfl : zcd wR 0 = 50) rfl) (Or.inl (hts _ (z_mem k949))) dX12_ring_44 ?_
          refine lv_aload_n hx hb dX12_ring_47 rfl (lv_at hl 0 rfl) ?_
          refine w_geti hx hb hts (z_memU u12) hown hK.1 hS f12_10 (by decide) (zkd_of (rfl : zcd wR 0 = 50) rfl) (Or.inl (hts _ (z_mem k954))) dX12_ring_48 ?_
          refine lv_aload_n hx hb dX12_ring_51 rfl (lv_at hl 0 rfl) ?_
          refine w_geti hx hb hts (z_memU u12) hown hK.1 hS f12_3 (by decide) (zkd_of (rfl : zcd wR 0 = 50) rfl) (Or.inl (hts _ (z_mem k947))) dX12_ring_52 ?_
          obtain ⟨o15, h⟩ := h
          refine w_iast (z := (M1 0 3)) (n := 4) (i := (sI (M1 0 10))) hx hb hK.1 (t0 := 0) rfl hS hS0 (by decide) (zkd_of (rfl : zcd wR 4 = 54) rfl) (zln_of (rfl : zcd wR 4 = 54) rfl) rfl o15.1 o15.2 (by decide) dX12_ring_55 (fun H locs hS hS0 => ?_)
          obtain ⟨M16, e17⟩ : ∃ M16 : zM, M16 = zup M1 4 (sI (M1 0 10)).toNat (M1 0 3) := ⟨_, rfl⟩
          rw [← e17] at hS
          have h := h M16 e17
          refine z_iconst hx hb dX12_ring_56 ?_
          refine lv_istore_n (lv' := [(3, .int (iI 0)), (0, .ref (b + 0)), (1, .int (iI a0)), (2, .int (iI a1))]) hx hb dX12_ring_57 rfl hl (by decide) rfl (fun ls hl => ?_)
          obtain ⟨I20, ⟨n21, h22⟩, h23⟩ := h
          have L24 : ∀ (n25 : Nat) (x18 : Int) (M19 : zM) (H : Heap) (locs : List Loc) (ls : Array Slot), I20 n25 x18 M19 → zR D dA vwCl wR nR b M19 H → va_S (zA nR b) s.heap H locs → lv_has ls 4 [(0, .ref (b + 0)), (1, .int (iI a0)), (2, .int (iI a1)), (3, .int (iI x18))] → W p l e (headSpec (.code yX12_ring cX12_ring 4 (some .int) :: zt) (z_rm 1)).room s m args below meth c H locs 0 0 (MQ below (va_Qi (wQi Q) (zB D dA vwCl wR nR b) (zA nR b)) args s 0 0 (zA nR b)) (F0 m 58 ls []) := by
            intro n25
            induction n25 using Nat.strongRecOn with
            | ind n25 i26 =>
              intro x18 M19 H locs ls h hS hS0 hl
              have h := h23 n25 x18 M19 h
              refine lv_iload_n hx hb dX12_ring_58 rfl (lv_at hl 3 rfl) ?_
              refine lv_aload_n hx hb dX12_ring_59 rfl (lv_at hl 0 rfl) ?_
              refine w_geti hx hb hts (z_memU u12) hown hK.1 hS f12_3 (by decide) (zkd_of (rfl : zcd wR 0 = 50) rfl) (Or.inl (hts _ (z_mem k947))) dX12_ring_60 ?_
              refine w_icmp_ge (tgt := 92) hx hb rfl rfl dX12_ring_63 (by decide) (fun c27 => ?_) (fun c27 => ?_)
              · skip
                have h := h.1 c27
                refine lv_aload_n hx hb dX12_ring_92 rfl (lv_at hl 0 rfl) ?_
                refine w_getr (j2 := 5) hx hb hts (z_memU u12) hown hK.1 hS f12_6 (by decide) (zkd_of (rfl : zcd wR 0 = 50) rfl) (zrf_of (rfl : zcd wR 0 = 50) rfl) (Or.inl (hts _ (z_mem k950))) dX12_ring_93 ?_
                refine lv_aload_n hx hb dX12_ring_96 rfl (lv_at hl 0 rfl) ?_
                refine w_geti hx hb hts (z_memU u12) hown hK.1 hS f12_10 (by decide) (zkd_of (rfl : zcd wR 0 = 50) rfl) (Or.inl (hts _ (z_mem k954))) dX12_ring_97 ?_
                refine lv_iload_n hx hb dX12_ring_100 rfl (lv_at hl 1 rfl) ?_
                obtain ⟨o28, h⟩ := h
                refine w_iast (z := a0) (n := 4) (i := (sI (M19 0 10))) hx hb hK.1 (t0 := 0) rfl hS hS0 (by decide) (zkd_of (rfl : zcd wR 5 = 55) rfl) (zln_of (rfl : zcd wR 5 = 55) rfl) rfl o28.1 o28.2 (by decide) dX12_ring_101 (fun H locs hS hS0 => ?_)
                obtain ⟨M29, e30⟩ : ∃ M29 : zM, M29 = zup M19 5 (sI (M19 0 10)).toNat a0 := ⟨_, rfl⟩
                rw [← e30] at hS
                have h := h M29 e30
                refine lv_aload_n hx hb dX12_ring_102 rfl (lv_at hl 0 rfl) ?_
                refine w_getr (j2 := 6) hx hb hts (z_memU u12) hown hK.1 hS f12_7 (by decide) (zkd_of (rfl : zcd wR 0 = 50) rfl) (zrf_of (rfl : zcd wR 0 = 50) rfl) (Or.inl (hts _ (z_mem k951))) dX12_ring_103 ?_
                refine lv_aload_n hx hb dX12_ring_106 rfl (lv_at hl 0 rfl) ?_
                refine w_geti hx hb hts (z_memU u12) hown hK.1 hS f12_10 (by decide) (zkd_of (rfl : zcd wR 0 = 50) rfl) (Or.inl (hts _ (z_mem k954))) dX12_ring_107 ?_
                refine lv_iload_n hx hb dX12_ring_110 rfl (lv_at hl 2 rfl) ?_
                obtain ⟨o31, h⟩ := h
                refine w_iast (z := a1) (n := 4) (i := (sI (M29 0 10))) hx hb hK.1 (t0 := 0) rfl hS hS0 (by decide) (zkd_of (rfl : zcd wR 6 = 56) rfl) (zln_of (rfl : zcd wR 6 = 56) rfl) rfl o31.1 o31.2 (by decide) dX12_ring_111 (fun H locs hS hS0 => ?_)
                obtain ⟨M32, e33⟩ : ∃ M32 : zM, M32 = zup M29 6 (sI (M29 0 10)).toNat a1 := ⟨_, rfl⟩
                rw [← e33] at hS
                have h := h M32 e33
                refine lv_aload_n hx hb dX12_ring_112 rfl (lv_at hl 0 rfl) ?_
                refine w_getr (j2 := 7) hx hb hts (z_memU u12) hown hK.1 hS f12_8 (by decide) (zkd_of (rfl : zcd wR 0 = 50) rfl) (zrf_of (rfl : zcd wR 0 = 50) rfl) (Or.inl (hts _ (z_mem k952))) dX12_ring_113 ?_
                refine lv_aload_n hx hb dX12_ring_116 rfl (lv_at hl 0 rfl) ?_
                refine w_geti hx hb hts (z_memU u12) hown hK.1 hS f12_10 (by decide) (zkd_of (rfl : zcd wR 0 = 50) rfl) (Or.inl (hts _ (z_mem k954))) dX12_ring_117 ?_
                refine z_iconst hx hb dX12_ring_120 ?_
                obtain ⟨o34, h⟩ := h
                refine w_iast (z := 1) (n := 4) (i := (sI (M32 0 10))) hx hb hK.1 (t0 := 0) rfl hS hS0 (by decide) (zkd_of (rfl : zcd wR 7 = 57) rfl) (zln_of (rfl : zcd wR 7 = 57) rfl) rfl o34.1 o34.2 (by decide) dX12_ring_121 (fun H locs hS hS0 => ?_)
                obtain ⟨M35, e36⟩ : ∃ M35 : zM, M35 = zup M32 7 (sI (M32 0 10)).toNat 1 := ⟨_, rfl⟩
                rw [← e36] at hS
                have h := h M35 e36
                refine lv_aload_n hx hb dX12_ring_122 rfl (lv_at hl 0 rfl) ?_
                refine w_getr (j2 := 8) hx hb hts (z_memU u12) hown hK.1 hS f12_9 (by decide) (zkd_of (rfl : zcd wR 0 = 50) rfl) (zrf_of (rfl : zcd wR 0 = 50) rfl) (Or.inl (hts _ (z_mem k953))) dX12_ring_123 ?_
                refine lv_aload_n hx hb dX12_ring_126 rfl (lv_at hl 0 rfl) ?_
                refine w_geti hx hb hts (z_memU u12) hown hK.1 hS f12_10 (by decide) (zkd_of (rfl : zcd wR 0 = 50) rfl) (Or.inl (hts _ (z_mem k954))) dX12_ring_127 ?_
                refine z_iconst hx hb dX12_ring_130 ?_
                obtain ⟨o37, h⟩ := h
                refine w_iast (z := 0) (n := 4) (i := (sI (M35 0 10))) hx hb hK.1 (t0 := 0) rfl hS hS0 (by decide) (zkd_of (rfl : zcd wR 8 = 58) rfl) (zln_of (rfl : zcd wR 8 = 58) rfl) rfl o37.1 o37.2 (by decide) dX12_ring_131 (fun H locs hS hS0 => ?_)
                obtain ⟨M38, e39⟩ : ∃ M38 : zM, M38 = zup M35 8 (sI (M35 0 10)).toNat 0 := ⟨_, rfl⟩
                rw [← e39] at hS
                have h := h M38 e39
                refine lv_aload_n hx hb dX12_ring_132 rfl (lv_at hl 0 rfl) ?_
                refine lv_dup hx hb dX12_ring_133 rfl ?_
                refine w_geti hx hb hts (z_memU u12) hown hK.1 hS f12_10 (by decide) (zkd_of (rfl : zcd wR 0 = 50) rfl) (Or.inl (hts _ (z_mem k954))) dX12_ring_134 ?_
                refine z_iconst hx hb dX12_ring_137 ?_
                refine z_iadd hx hb dX12_ring_138 ?_
                refine w_puti hx hb hts (z_memU u12) tyX12 tyX12_ok nmX12 hown hK.1 hS hS0 f12_10 (by decide) (zkd_of (rfl : zcd wR 0 = 50) rfl) (Or.inl (hts _ (z_mem k954))) rfl (z := ((M38 0 10) + 1)) (by decide +kernel) dX12_ring_139 (fun H locs hS hS0 => ?_)
                obtain ⟨M40, e41⟩ : ∃ M40 : zM, M40 = zup M38 0 10 ((M38 0 10) + 1) := ⟨_, rfl⟩
                rw [← e41] at hS
                have h := h M40 e41
                refine lv_aload_n hx hb dX12_ring_142 rfl (lv_at hl 0 rfl) ?_
                refine w_geti hx hb hts (z_memU u12) hown hK.1 hS f12_10 (by decide) (zkd_of (rfl : zcd wR 0 = 50) rfl) (Or.inl (hts _ (z_mem k954))) dX12_ring_143 ?_
                refine z_iconst hx hb dX12_ring_146 ?_
                refine z_isub hx hb dX12_ring_147 ?_
                exact w_iret hx hb hr hlocks hS hS0 rfl h dX12_ring_148
              · skip
                have h := h.2 c27
                refine lv_aload_n hx hb dX12_ring_66 rfl (lv_at hl 0 rfl) ?_
                refine w_getr (j2 := 3) hx hb hts (z_memU u12) hown hK.1 hS f12_4 (by decide) (zkd_of (rfl : zcd wR 0 = 50) rfl) (zrf_of (rfl : zcd wR 0 = 50) rfl) (Or.inl (hts _ (z_mem k948))) dX12_ring_67 ?_
                refine z_bipush hx hb (by decide) dX12_ring_70 ?_
                refine lv_aload_n hx hb dX12_ring_72 rfl (lv_at hl 0 rfl) ?_
                refine w_geti hx hb hts (z_memU u12) hown hK.1 hS f12_10 (by decide) (zkd_of (rfl : zcd wR 0 = 50) rfl) (Or.inl (hts _ (z_mem k954))) dX12_ring_73 ?_
                refine z_imul hx hb dX12_ring_76 ?_
                refine lv_iload_n hx hb dX12_ring_77 rfl (lv_at hl 3 rfl) ?_
                refine z_iadd hx hb dX12_ring_78 ?_
                refine lv_aload_n hx hb dX12_ring_79 rfl (lv_at hl 0 rfl) ?_
                refine w_getr (j2 := 2) hx hb hts (z_memU u12) hown hK.1 hS f12_2 (by decide) (zkd_of (rfl : zcd wR 0 = 50) rfl) (zrf_of (rfl : zcd wR 0 = 50) rfl) (Or.inl (hts _ (z_mem k946))) dX12_ring_80 ?_
                refine lv_iload_n hx hb dX12_ring_83 rfl (lv_at hl 3 rfl) ?_
                obtain ⟨o42, h⟩ := h
                refine w_iald (n := 24) (i := (sI x18)) hx hb hK.1 (t0 := 0) rfl hS (by decide) (zkd_of (rfl : zcd wR 2 = 52) rfl) (zln_of (rfl : zcd wR 2 = 52) rfl) rfl o42.1 o42.2 (by decide) dX12_ring_84 ?_
                obtain ⟨o43, h⟩ := h
                refine w_iast (z := (M19 2 (sI x18).toNat)) (n := 96) (i := (sI ((24 * (M19 0 10)) + x18))) hx hb hK.1 (t0 := 0) rfl hS hS0 (by decide) (zkd_of (rfl : zcd wR 3 = 53) rfl) (zln_of (rfl : zcd wR 3 = 53) rfl) rfl o43.1 o43.2 (by decide) dX12_ring_85 (fun H locs hS hS0 => ?_)
                obtain ⟨M44, e45⟩ : ∃ M44 : zM, M44 = zup M19 3 (sI ((24 * (M19 0 10)) + x18)).toNat (M19 2 (sI x18).toNat) := ⟨_, rfl⟩
                rw [← e45] at hS
                have h := h M44 e45
                refine z_iinc (lv' := [(3, .int (iI (x18 + 1))), (0, .ref (b + 0)), (1, .int (iI a0)), (2, .int (iI a1))]) hx hb dX12_ring_86 hl (k := 3) rfl (by decide) rfl (fun ls hl => ?_)
                refine lv_goto (tgt := 58) hx hb dX12_ring_89 (by decide) ?_
                obtain ⟨n46, h47, h⟩ := h
                exact i26 n46 h47 (x18 + 1) M44 _ _ _ h hS hS0 (lv_sub hl [1, 2, 3, 0] rfl)
          exact L24 n21 0 M16 _ _ _ h22 hS hS0 (lv_sub hl [1, 2, 3, 0] rfl)
        · skip
          have h := h.2 c14
          refine z_iconst hx hb dX12_ring_41 ?_
          exact w_iret hx hb hr hlocks hS hS0 (sI_of (by decide)) h dX12_ring_42

set_option maxRecDepth 100000 in
def wR_over (a0 : Int) (a1 : Int) (a2 : Int) (M : zM) (Q : Int → zM → Prop) : Prop := (∀ M1 : zM, M1 = zup M 0 35 0 → wR_isRing a0 M1 (fun z4 => (z4 = 0 → Q (-1) M1) ∧ (z4 ≠ 0 → ((0 ≤ (sI a0) ∧ (sI a0) < 4) ∧ wR_in a1 0 ((M1 4 (sI a0).toNat) - 1) M1 (fun z10 => (z10 = 0 → Q (-1) M1) ∧ (z10 ≠ 0 → wR_in a2 0 1 M1 (fun z15 => (z15 = 0 → Q (-1) M1) ∧ (z15 ≠ 0 → ((sI (M1 0 3)) ≠ 0 → wL2 (fun K53 x20 x21 M22 => ((sI (M22 0 3)) ≤ (sI x21) → Q (sI x20) M22) ∧ ((sI x21) < (sI (M22 0 3)) → ((0 ≤ (sI a0) ∧ (sI a0) < 4) ∧ ((sI (M22 4 (sI a0).toNat)) ≤ (sI (a1 + x21)) → Q (sI x20) M22) ∧ ((sI (a1 + x21)) < (sI (M22 4 (sI a0).toNat)) → pJ1 (fun J115 => ((sI a2) ≠ 0 → ((0 ≤ (sI (((24 * a0) + a1) + x21)) ∧ (sI (((24 * a0) + a1) + x21)) < 96) ∧ ((0 ≤ (sI x21) ∧ (sI x21) < 24) ∧ J115 (orI (M22 3 (sI (((24 * a0) + a1) + x21)).toNat) (M22 2 (sI x21).toNat))))) ∧ ((sI a2) = 0 → ((0 ≤ (sI x21) ∧ (sI x21) < 24) ∧ J115 (M22 2 (sI x21).toNat)))) (fun (x37 : Int) => ((0 ≤ (sI (((24 * a0) + a1) + x21)) ∧ (sI (((24 * a0) + a1) + x21)) < 96) ∧ ((sI x37) = (sI (M22 3 (sI (((24 * a0) + a1) + x21)).toNat)) → ((0 ≤ (sI (((24 * a0) + a1) + x21)) ∧ (sI (((24 * a0) + a1) + x21)) < 96) ∧ (∀ M43 : zM, M43 = zup M22 3 (sI (((24 * a0) + a1) + x21)).toNat x37 → K53 x20 (x21 + 1) M43))) ∧ ((sI x37) ≠ (sI (M22 3 (sI (((24 * a0) + a1) + x21)).toNat)) → ((0 ≤ (sI (((24 * a0) + a1) + x21)) ∧ (sI (((24 * a0) + a1) + x21)) < 96) ∧ (∀ M48 : zM, M48 = zup M22 3 (sI (((24 * a0) + a1) + x21)).toNat x37 → K53 (x20 + 1) (x21 + 1) M48))))))))) 0 0 M1) ∧ ((sI (M1 0 3)) = 0 → Q (-1) M1)))))))))
set_option maxHeartbeats 4000000 in
set_option maxRecDepth 100000 in
theorem cR_over (l : Launch) (D : va_G) (dA : Nat → ClassId) (b : Nat) (M : zM) (a0 : Int) (a1 : Int) (a2 : Int)  (Q : Int → zM → Prop) (h : wR_over a0 a1 a2 M Q) : Met l yX12_over (.code yX12_over cX12_over 8 (some .int) :: zt) (z_rm 2) (va_Pc [.ref (b + 0), .int (iI a0), .int (iI a1), .int (iI a2)] (wPre D dA vwCl (z_tys dA) wR nR b M)) (va_Qi (wQi Q) (zB D dA vwCl wR nR b) (zA nR b)) 0 0 (zA nR b) := by
  unfold wR_over at h
  refine Met.ofW (cc := cX12_over) (maxL := 8) (ret := (some .int)) (by decide) rfl ?_
  intro p e s m args below meth c s₁ B hml hv
  obtain ⟨hargs, hS, hK⟩ := hv
  have hx := B.exec
  have hb := B.bytes
  have hr := B.returns
  have hts := atoms_spec (ws := .code yX12_over cX12_over 8 (some .int) :: zt) B.pre
  have hown : s.vm.findClass RX12 = some m.cls := findClass_of_methodNamed B.named
  have hlocks := B.notSynchronized
  have hS0 : va_S (zA nR b) s.heap s.heap [] := va_S.rf
  have hl := lv_entry ([.ref (b + 0), .int (iI a0), .int (iI a1), .int (iI a2)]) (n := 8) (Nat.le_of_ble_eq_true rfl)
  have hent : entryFrame m args 8 = F0 m 0 ((lg_sl ([.ref (b + 0), .int (iI a0), .int (iI a1), .int (iI a2)]) ++ List.replicate (8 - (lg_sl ([.ref (b + 0), .int (iI a0), .int (iI a1), .int (iI a2)])).length) Slot.unset).toArray) [] := by rw [hargs]; exact lg_entry_eq m ([.ref (b + 0), .int (iI a0), .int (iI a1), .int (iI a2)]) 8
  rw [hent]
  generalize (lg_sl ([.ref (b + 0), .int (iI a0), .int (iI a1), .int (iI a2)]) ++ List.replicate (8 - (lg_sl ([.ref (b + 0), .int (iI a0), .int (iI a1), .int (iI a2)])).length) Slot.unset).toArray = ls at hl ⊢
  have hl : lv_has ls 8 [(0, .ref (b + 0)), (1, .int (iI a0)), (2, .int (iI a1)), (3, .int (iI a2))] := hl
  refine lv_aload_n hx hb dX12_over_0 rfl (lv_at hl 0 rfl) ?_
  refine z_iconst hx hb dX12_over_1 ?_
  refine w_puti hx hb hts (z_memU u12) tyX12 tyX12_ok nmX12 hown hK.1 hS hS0 f12_35 (by decide) (zkd_of (rfl : zcd wR 0 = 50) rfl) (Or.inl (hts _ (z_mem k979))) rfl (z := 0) (by decide +kernel) dX12_over_2 (fun H locs hS hS0 => ?_)
  obtain ⟨M1, e2⟩ : ∃ M1 : zM, M1 = zup M 0 35 0 := ⟨_, rfl⟩
  rw [← e2] at hS
  have h := h M1 e2
  refine lv_aload_n hx hb dX12_over_5 rfl (lv_at hl 0 rfl) ?_
  refine lv_iload_n hx hb dX12_over_6 rfl (lv_at hl 1 rfl) ?_
  refine w_callz (va_runV (As := [.int (iI a0)]) (rest := []) ⟨hx, hb, hml, hown, hts⟩ (cR_isRing l D dA b M1 a0 _ h) (cwV 1 hts (z_gV k1097 k1098 k1397 k14 k1099) rfl rfl rfl dm_X12_isRing ⟨Nat.le_of_ble_eq_true rfl, Nat.le_of_ble_eq_true rfl⟩) ⟨wPre_blind, (w_recv hS hK.1 (by decide) (zkd_of (rfl : zcd wR 0 = 50) rfl) (by decide) (rfl : vwCl[12]? = some (RX12, TX12, 50))), w_pre hS hK⟩ rfl rfl hl.1 rfl (lv_room (Nat.le_of_ble_eq_true rfl)) dX12_over_7 ⟨Nat.le_refl _, Nat.le_refl _⟩) hS0 (fun z4 M3 H locs r5 h hS hS0 => ?_)
  obtain ⟨e6, h⟩ := h
  rw [e6] at hS
  refine w_if_eq (tgt := 45) hx hb (sI_01 r5) dX12_over_10 (by decide) (fun c7 => ?_) (fun c7 => ?_)
  · skip
    have h := h.1 c7
    refine z_iconst hx hb dX12_over_45 ?_
    exact w_iret hx hb hr hlocks hS hS0 (sI_of (by decide)) h dX12_over_46
  · skip
    have h := h.2 c7
    refine lv_iload_n hx hb dX12_over_13 rfl (lv_at hl 2 rfl) ?_
    refine z_iconst hx hb dX12_over_14 ?_
    refine lv_aload_n hx hb dX12_over_15 rfl (lv_at hl 0 rfl) ?_
    refine w_getr (j2 := 4) hx hb hts (z_memU u12) hown hK.1 hS f12_5 (by decide) (zkd_of (rfl : zcd wR 0 = 50) rfl) (zrf_of (rfl : zcd wR 0 = 50) rfl) (Or.inl (hts _ (z_mem k949))) dX12_over_16 ?_
    refine lv_iload_n hx hb dX12_over_19 rfl (lv_at hl 1 rfl) ?_
    obtain ⟨o8, h⟩ := h
    refine w_iald (n := 4) (i := (sI a0)) hx hb hK.1 (t0 := 0) rfl hS (by decide) (zkd_of (rfl : zcd wR 4 = 54) rfl) (zln_of (rfl : zcd wR 4 = 54) rfl) rfl o8.1 o8.2 (by decide) dX12_over_20 ?_
    refine z_iconst hx hb dX12_over_21 ?_
    refine z_isub hx hb dX12_over_22 ?_
    refine w_callz (va_runS (As := [.int (iI a1), .int (iI 0), .int (iI ((M1 4 (sI a0).toNat) - 1))]) (rest := []) ⟨hx, hb, hml, hown, hts⟩ (cR_in l D dA b M1 a1 0 ((M1 4 (sI a0).toNat) - 1) _ h) (va_cwS 3 hts (z_gS k1083 k1084 k14 k1085) rfl rfl rfl dm_X12_in.2 ⟨Nat.le_of_ble_eq_true rfl, Nat.le_of_ble_eq_true rfl⟩) ⟨wPre_blind, w_pre hS hK⟩ rfl rfl hl.1 rfl (lv_room (Nat.le_of_ble_eq_true rfl)) dX12_over_23 ⟨Nat.le_refl _, Nat.le_refl _⟩) hS0 (fun z10 M9 H locs r11 h hS hS0 => ?_)
    obtain ⟨e12, h⟩ := h
    rw [e12] at hS
    refine w_if_eq (tgt := 45) hx hb (sI_01 r11) dX12_over_26 (by decide) (fun c13 => ?_) (fun c13 => ?_)
    · skip
      have h := h.1 c13
      refine z_iconst hx hb dX12_over_45 ?_
      exact w_iret hx hb hr hlocks hS hS0 (sI_of (by decide)) h dX12_over_46
    · skip
      have h := h.2 c13
      refine lv_iload_n hx hb dX12_over_29 rfl (lv_at hl 3 rfl) ?_
      refine z_iconst hx hb dX12_over_30 ?_
      refine z_iconst hx hb dX12_over_31 ?_
      refine w_callz (va_runS (As := [.int (iI a2), .int (iI 0), .int (iI 1)]) (rest := []) ⟨hx, hb, hml, hown, hts⟩ (cR_in l D dA b M1 a2 0 1 _ h) (va_cwS 3 hts (z_gS k1083 k1084 k14 k1085) rfl rfl rfl dm_X12_in.2 ⟨Nat.le_of_ble_eq_true rfl, Nat.le_of_ble_eq_true rfl⟩) ⟨wPre_blind, w_pre hS hK⟩ rfl rfl hl.1 rfl (lv_room (Nat.le_of_ble_eq_true rfl)) dX12_over_32 ⟨Nat.le_refl _, Nat.le_refl _⟩) hS0 (fun z15 M14 H locs r16 h hS hS0 => ?_)
      obtain ⟨e17, h⟩ := h
      rw [e17] at hS
      refine w_if_eq (tgt := 45) hx hb (sI_01 r16) dX12_over_35 (by decide) (fun c18 => ?_) (fun c18 => ?_)
      · skip
        have h := h.1 c18
        refine z_iconst hx hb dX12_over_45 ?_
        exact w_iret hx hb hr hlocks hS hS0 (sI_of (by decide)) h dX12_over_46
      · skip
        have h := h.2 c18
        refine lv_aload_n hx hb dX12_over_38 rfl (lv_at hl 0 rfl) ?_
        refine w_geti hx hb hts (z_memU u12) hown hK.1 hS f12_3 (by decide) (zkd_of (rfl : zcd wR 0 = 50) rfl) (Or.inl (hts _ (z_mem k947))) dX12_over_39 ?_
        refine w_if_ne (tgt := 47) hx hb rfl dX12_over_42 (by decide) (fun c19 => ?_) (fun c19 => ?_)
        · skip
          have h := h.1 c19
          refine z_iconst hx hb dX12_over_47 ?_
          refine lv_istore (lv' := [(4, .int (iI 0)), (0, .ref (b + 0)), (1, .int (iI a0)), (2, .int (iI a1)), (3, .int (iI a2))]) hx hb dX12_over_48 hl (by decide) rfl (fun ls hl => ?_)
          refine z_iconst hx hb dX12_over_50 ?_
          refine lv_istore (lv' := [(5, .int (iI 0)), (4, .int (iI 0)), (0, .ref (b + 0)), (1, .int (iI a0)), (2, .int (iI a1)), (3, .int (iI a2))]) hx hb dX12_over_51 hl (by decide) rfl (fun ls hl => ?_)
          obtain ⟨I23, ⟨n24, h25⟩, h26⟩ := h
          have L27 : ∀ (n28 : Nat) (x20 x21 : Int) (M22 : zM) (H : Heap) (locs : List Loc) (ls : Array Slot), I23 n28 x20 x21 M22 → zR D dA vwCl wR nR b M22 H → va_S (zA nR b) s.heap H locs → lv_has ls 8 [(0, .ref (b + 0)), (1, .int (iI a0)), (2, .int (iI a1)), (3, .int (iI a2)), (4, .int (iI x20)), (5, .int (iI x21))] → W p l e (headSpec (.code yX12_over cX12_over 8 (some .int) :: zt) (z_rm 2)).room s m args below meth c H locs 0 0 (MQ below (va_Qi (wQi Q) (zB D dA vwCl wR nR b) (zA nR b)) args s 0 0 (zA nR b)) (F0 m 53 ls []) := by
            intro n28
            induction n28 using Nat.strongRecOn with
            | ind n28 i29 =>
              intro x20 x21 M22 H locs ls h hS hS0 hl
              have h := h26 n28 x20 x21 M22 h
              refine lv_iload hx hb dX12_over_53 (lv_at hl 5 rfl) ?_
              refine lv_aload_n hx hb dX12_over_55 rfl (lv_at hl 0 rfl) ?_
              refine w_geti hx hb hts (z_memU u12) hown hK.1 hS f12_3 (by decide) (zkd_of (rfl : zcd wR 0 = 50) rfl) (Or.inl (hts _ (z_mem k947))) dX12_over_56 ?_
              refine w_icmp_ge (tgt := 147) hx hb rfl rfl dX12_over_59 (by decide) (fun c30 => ?_) (fun c30 => ?_)
              · skip
                have h := h.1 c30
                refine lv_iload hx hb dX12_over_147 (lv_at hl 4 rfl) ?_
                exact w_iret hx hb hr hlocks hS hS0 rfl h dX12_over_149
              · skip
                have h := h.2 c30
                refine lv_iload_n hx hb dX12_over_62 rfl (lv_at hl 2 rfl) ?_
                refine lv_iload hx hb dX12_over_63 (lv_at hl 5 rfl) ?_
                refine z_iadd hx hb dX12_over_65 ?_
                refine lv_aload_n hx hb dX12_over_66 rfl (lv_at hl 0 rfl) ?_
                refine w_getr (j2 := 4) hx hb hts (z_memU u12) hown hK.1 hS f12_5 (by decide) (zkd_of (rfl : zcd wR 0 = 50) rfl) (zrf_of (rfl : zcd wR 0 = 50) rfl) (Or.inl (hts _ (z_mem k949))) dX12_over_67 ?_
                refine lv_iload_n hx hb dX12_over_70 rfl (lv_at hl 1 rfl) ?_
                obtain ⟨o31, h⟩ := h
                refine w_iald (n := 4) (i := (sI a0)) hx hb hK.1 (t0 := 0) rfl hS (by decide) (zkd_of (rfl : zcd wR 4 = 54) rfl) (zln_of (rfl : zcd wR 4 = 54) rfl) rfl o31.1 o31.2 (by decide) dX12_over_71 ?_
                refine w_icmp_ge (tgt := 147) hx hb rfl rfl dX12_over_72 (by decide) (fun c32 => ?_) (fun c32 => ?_)
                · skip
                  have h := h.1 c32
                  refine lv_iload hx hb dX12_over_147 (lv_at hl 4 rfl) ?_
                  exact w_iret hx hb hr hlocks hS hS0 rfl h dX12_over_149
                · skip
                  have h := h.2 c32
                  refine z_bipush hx hb (by decide) dX12_over_75 ?_
                  refine lv_iload_n hx hb dX12_over_77 rfl (lv_at hl 1 rfl) ?_
                  refine z_imul hx hb dX12_over_78 ?_
                  refine lv_iload_n hx hb dX12_over_79 rfl (lv_at hl 2 rfl) ?_
                  refine z_iadd hx hb dX12_over_80 ?_
                  refine lv_iload hx hb dX12_over_81 (lv_at hl 5 rfl) ?_
                  refine z_iadd hx hb dX12_over_83 ?_
                  refine lv_istore (lv' := [(6, .int (iI (((24 * a0) + a1) + x21))), (0, .ref (b + 0)), (1, .int (iI a0)), (2, .int (iI a1)), (3, .int (iI a2)), (4, .int (iI x20)), (5, .int (iI x21))]) hx hb dX12_over_84 hl (by decide) rfl (fun ls hl => ?_)
                  refine lv_iload_n hx hb dX12_over_86 rfl (lv_at hl 4 rfl) ?_
                  obtain ⟨J115, B39, h⟩ := h
                  have L38 : ∀ (x37 : Int) (H : Heap) (locs : List Loc) (ls : Array Slot), J115 x37 → zR D dA vwCl wR nR b M22 H → va_S (zA nR b) s.heap H locs → lv_has ls 8 [(0, .ref (b + 0)), (1, .int (iI a0)), (2, .int (iI a1)), (3, .int (iI a2)), (4, .int (iI x20)), (5, .int (iI x21)), (6, .int (iI (((24 * a0) + a1) + x21)))] → W p l e (headSpec (.code yX12_over cX12_over 8 (some .int) :: zt) (z_rm 2)).room s m args below meth c H locs 0 0 (MQ below (va_Qi (wQi Q) (zB D dA vwCl wR nR b) (zA nR b)) args s 0 0 (zA nR b)) (F0 m 115 ls [.int (iI x37)]) := by
                    intro x37 H locs ls h hS hS0 hl
                    have h := B39 x37 h
                    refine lv_istore (lv' := [(7, .int (iI x37)), (0, .ref (b + 0)), (1, .int (iI a0)), (2, .int (iI a1)), (3, .int (iI a2)), (4, .int (iI x20)), (5, .int (iI x21)), (6, .int (iI (((24 * a0) + a1) + x21)))]) hx hb dX12_over_115 hl (by decide) rfl (fun ls hl => ?_)
                    refine lv_iload hx hb dX12_over_117 (lv_at hl 0 rfl) ?_
                    refine lv_aload_n hx hb dX12_over_119 rfl (lv_at hl 1 rfl) ?_
                    refine w_getr (j2 := 3) hx hb hts (z_memU u12) hown hK.1 hS f12_4 (by decide) (zkd_of (rfl : zcd wR 0 = 50) rfl) (zrf_of (rfl : zcd wR 0 = 50) rfl) (Or.inl (hts _ (z_mem k948))) dX12_over_120 ?_
                    refine lv_iload hx hb dX12_over_123 (lv_at hl 7 rfl) ?_
                    obtain ⟨o40, h⟩ := h
                    refine w_iald (n := 96) (i := (sI (((24 * a0) + a1) + x21))) hx hb hK.1 (t0 := 0) rfl hS (by decide) (zkd_of (rfl : zcd wR 3 = 53) rfl) (zln_of (rfl : zcd wR 3 = 53) rfl) rfl o40.1 o40.2 (by decide) dX12_over_125 ?_
                    refine w_icmp_eq (tgt := 132) hx hb rfl rfl dX12_over_126 (by decide) (fun c41 => ?_) (fun c41 => ?_)
                    · skip
                      have h := h.1 c41
                      refine lv_aload_n hx hb dX12_over_132 rfl (lv_at hl 1 rfl) ?_
                      refine w_getr (j2 := 3) hx hb hts (z_memU u12) hown hK.1 hS f12_4 (by decide) (zkd_of (rfl : zcd wR 0 = 50) rfl) (zrf_of (rfl : zcd wR 0 = 50) rfl) (Or.inl (hts _ (z_mem k948))) dX12_over_133 ?_
                      refine lv_iload hx hb dX12_over_136 (lv_at hl 7 rfl) ?_
                      refine lv_iload hx hb dX12_over_138 (lv_at hl 0 rfl) ?_
                      obtain ⟨o42, h⟩ := h
                      refine w_iast (z := x37) (n := 96) (i := (sI (((24 * a0) + a1) + x21))) hx hb hK.1 (t0 := 0) rfl hS hS0 (by decide) (zkd_of (rfl : zcd wR 3 = 53) rfl) (zln_of (rfl : zcd wR 3 = 53) rfl) rfl o42.1 o42.2 (by decide) dX12_over_140 (fun H locs hS hS0 => ?_)
                      obtain ⟨M43, e44⟩ : ∃ M43 : zM, M43 = zup M22 3 (sI (((24 * a0) + a1) + x21)).toNat x37 := ⟨_, rfl⟩
                      rw [← e44] at hS
                      have h := h M43 e44
                      refine z_iinc (lv' := [(5, .int (iI (x21 + 1))), (7, .int (iI x37)), (0, .ref (b + 0)), (1, .int (iI a0)), (2, .int (iI a1)), (3, .int (iI a2)), (4, .int (iI x20)), (6, .int (iI (((24 * a0) + a1) + x21)))]) hx hb dX12_over_141 hl (k := 6) rfl (by decide) rfl (fun ls hl => ?_)
                      refine lv_goto (tgt := 53) hx hb dX12_over_144 (by decide) ?_
                      obtain ⟨n45, h46, h⟩ := h
                      exact i29 n45 h46 x20 (x21 + 1) M43 _ _ _ h hS hS0 (lv_sub hl [2, 3, 4, 5, 6, 0] rfl)
                    · skip
                      have h := h.2 c41
                      refine z_iinc (lv' := [(4, .int (iI (x20 + 1))), (7, .int (iI x37)), (0, .ref (b + 0)), (1, .int (iI a0)), (2, .int (iI a1)), (3, .int (iI a2)), (5, .int (iI x21)), (6, .int (iI (((24 * a0) + a1) + x21)))]) hx hb dX12_over_129 hl (k := 5) rfl (by decide) rfl (fun ls hl => ?_)
                      refine lv_aload_n hx hb dX12_over_132 rfl (lv_at hl 2 rfl) ?_
                      refine w_getr (j2 := 3) hx hb hts (z_memU u12) hown hK.1 hS f12_4 (by decide) (zkd_of (rfl : zcd wR 0 = 50) rfl) (zrf_of (rfl : zcd wR 0 = 50) rfl) (Or.inl (hts _ (z_mem k948))) dX12_over_133 ?_
                      refine lv_iload hx hb dX12_over_136 (lv_at hl 7 rfl) ?_
                      refine lv_iload hx hb dX12_over_138 (lv_at hl 1 rfl) ?_
                      obtain ⟨o47, h⟩ := h
                      refine w_iast (z := x37) (n := 96) (i := (sI (((24 * a0) + a1) + x21))) hx hb hK.1 (t0 := 0) rfl hS hS0 (by decide) (zkd_of (rfl : zcd wR 3 = 53) rfl) (zln_of (rfl : zcd wR 3 = 53) rfl) rfl o47.1 o47.2 (by decide) dX12_over_140 (fun H locs hS hS0 => ?_)
                      obtain ⟨M48, e49⟩ : ∃ M48 : zM, M48 = zup M22 3 (sI (((24 * a0) + a1) + x21)).toNat x37 := ⟨_, rfl⟩
                      rw [← e49] at hS
                      have h := h M48 e49
                      refine z_iinc (lv' := [(5, .int (iI (x21 + 1))), (4, .int (iI (x20 + 1))), (7, .int (iI x37)), (0, .ref (b + 0)), (1, .int (iI a0)), (2, .int (iI a1)), (3, .int (iI a2)), (6, .int (iI (((24 * a0) + a1) + x21)))]) hx hb dX12_over_141 hl (k := 6) rfl (by decide) rfl (fun ls hl => ?_)
                      refine lv_goto (tgt := 53) hx hb dX12_over_144 (by decide) ?_
                      obtain ⟨n50, h51, h⟩ := h
                      exact i29 n50 h51 (x20 + 1) (x21 + 1) M48 _ _ _ h hS hS0 (lv_sub hl [3, 4, 5, 6, 1, 0] rfl)
                  refine w_if_ne (tgt := 100) hx hb rfl dX12_over_87 (by decide) (fun c52 => ?_) (fun c52 => ?_)
                  · skip
                    have h := h.1 c52
                    refine lv_aload_n hx hb dX12_over_100 rfl (lv_at hl 1 rfl) ?_
                    refine w_getr (j2 := 3) hx hb hts (z_memU u12) hown hK.1 hS f12_4 (by decide) (zkd_of (rfl : zcd wR 0 = 50) rfl) (zrf_of (rfl : zcd wR 0 = 50) rfl) (Or.inl (hts _ (z_mem k948))) dX12_over_101 ?_
                    refine lv_iload hx hb dX12_over_104 (lv_at hl 0 rfl) ?_
                    obtain ⟨o53, h⟩ := h
                    refine w_iald (n := 96) (i := (sI (((24 * a0) + a1) + x21))) hx hb hK.1 (t0 := 0) rfl hS (by decide) (zkd_of (rfl : zcd wR 3 = 53) rfl) (zln_of (rfl : zcd wR 3 = 53) rfl) rfl o53.1 o53.2 (by decide) dX12_over_106 ?_
                    refine lv_aload_n hx hb dX12_over_107 rfl (lv_at hl 1 rfl) ?_
                    refine w_getr (j2 := 2) hx hb hts (z_memU u12) hown hK.1 hS f12_2 (by decide) (zkd_of (rfl : zcd wR 0 = 50) rfl) (zrf_of (rfl : zcd wR 0 = 50) rfl) (Or.inl (hts _ (z_mem k946))) dX12_over_108 ?_
                    refine lv_iload hx hb dX12_over_111 (lv_at hl 6 rfl) ?_
                    obtain ⟨o54, h⟩ := h
                    refine w_iald (n := 24) (i := (sI x21)) hx hb hK.1 (t0 := 0) rfl hS (by decide) (zkd_of (rfl : zcd wR 2 = 52) rfl) (zln_of (rfl : zcd wR 2 = 52) rfl) rfl o54.1 o54.2 (by decide) dX12_over_113 ?_
                    refine w_ior hx hb dX12_over_114 ?_
                    exact L38 (orI (M22 3 (sI (((24 * a0) + a1) + x21)).toNat) (M22 2 (sI x21).toNat)) _ _ _ h hS hS0 (lv_sub hl [1, 2, 3, 4, 5, 6, 0] rfl)
                  · skip
                    have h := h.2 c52
                    refine lv_aload_n hx hb dX12_over_90 rfl (lv_at hl 1 rfl) ?_
                    refine w_getr (j2 := 2) hx hb hts (z_memU u12) hown hK.1 hS f12_2 (by decide) (zkd_of (rfl : zcd wR 0 = 50) rfl) (zrf_of (rfl : zcd wR 0 = 50) rfl) (Or.inl (hts _ (z_mem k946))) dX12_over_91 ?_
                    refine lv_iload hx hb dX12_over_94 (lv_at hl 6 rfl) ?_
                    obtain ⟨o55, h⟩ := h
                    refine w_iald (n := 24) (i := (sI x21)) hx hb hK.1 (t0 := 0) rfl hS (by decide) (zkd_of (rfl : zcd wR 2 = 52) rfl) (zln_of (rfl : zcd wR 2 = 52) rfl) rfl o55.1 o55.2 (by decide) dX12_over_96 ?_
                    refine lv_goto (tgt := 115) hx hb dX12_over_97 (by decide) ?_
                    exact L38 (M22 2 (sI x21).toNat) _ _ _ h hS hS0 (lv_sub hl [1, 2, 3, 4, 5, 6, 0] rfl)
          exact L27 n24 0 0 M1 _ _ _ h25 hS hS0 (lv_sub hl [2, 3, 4, 5, 1, 0] rfl)
        · skip
          have h := h.2 c19
          refine z_iconst hx hb dX12_over_45 ?_
          exact w_iret hx hb hr hlocks hS hS0 (sI_of (by decide)) h dX12_over_46

set_option maxRecDepth 100000 in
def wR_set (a0 : Int) (a1 : Int) (a2 : Int) (M : zM) (Q : Int → zM → Prop) : Prop := (∀ M1 : zM, M1 = zup M 0 35 0 → wR_isRing a0 M1 (fun z4 => (z4 = 0 → Q (-1) M1) ∧ (z4 ≠ 0 → wR_in a1 0 1 M1 (fun z9 => (z9 = 0 → Q (-1) M1) ∧ (z9 ≠ 0 → pJ0 (fun J54 => ((sI a1) ≠ 0 → ((0 ≤ (sI a0) ∧ (sI a0) < 4) ∧ wR_in a2 0 ((M1 4 (sI a0).toNat) - 1) M1 (fun z46 => (z46 ≠ 0 → J54) ∧ (z46 = 0 → Q (-1) M1)))) ∧ ((sI a1) = 0 → wR_isMotor a2 M1 (fun z51 => (z51 ≠ 0 → J54) ∧ (z51 = 0 → Q (-1) M1)))) (pJ1 (fun J73 => ((sI a1) ≠ 0 → ((0 ≤ (sI a0) ∧ (sI a0) < 4) ∧ J73 (M1 6 (sI a0).toNat))) ∧ ((sI a1) = 0 → ((0 ≤ (sI a0) ∧ (sI a0) < 4) ∧ J73 (M1 5 (sI a0).toNat)))) (fun (x30 : Int) => ((sI a1) ≠ 0 → ((0 ≤ (sI a0) ∧ (sI a0) < 4) ∧ (∀ M35 : zM, M35 = zup M1 6 (sI a0).toNat a2 → Q (sI x30) M35))) ∧ ((sI a1) = 0 → ((0 ≤ (sI a0) ∧ (sI a0) < 4) ∧ (∀ M38 : zM, M38 = zup M1 5 (sI a0).toNat a2 → Q (sI x30) M38))))))))))
set_option maxHeartbeats 4000000 in
set_option maxRecDepth 100000 in
theorem cR_set (l : Launch) (D : va_G) (dA : Nat → ClassId) (b : Nat) (M : zM) (a0 : Int) (a1 : Int) (a2 : Int)  (Q : Int → zM → Prop) (h : wR_set a0 a1 a2 M Q) : Met l yX12_set (.code yX12_set cX12_set 5 (some .int) :: zt) (z_rm 2) (va_Pc [.ref (b + 0), .int (iI a0), .int (iI a1), .int (iI a2)] (wPre D dA vwCl (z_tys dA) wR nR b M)) (va_Qi (wQi Q) (zB D dA vwCl wR nR b) (zA nR b)) 0 0 (zA nR b) := by
  unfold wR_set at h
  refine Met.ofW (cc := cX12_set) (maxL := 5) (ret := (some .int)) (by decide) rfl ?_
  intro p e s m args below meth c s₁ B hml hv
  obtain ⟨hargs, hS, hK⟩ := hv
  have hx := B.exec
  have hb := B.bytes
  have hr := B.returns
  have hts := atoms_spec (ws := .code yX12_set cX12_set 5 (some .int) :: zt) B.pre
  have hown : s.vm.findClass RX12 = some m.cls := findClass_of_methodNamed B.named
  have hlocks := B.notSynchronized
  have hS0 : va_S (zA nR b) s.heap s.heap [] := va_S.rf
  have hl := lv_entry ([.ref (b + 0), .int (iI a0), .int (iI a1), .int (iI a2)]) (n := 5) (Nat.le_of_ble_eq_true rfl)
  have hent : entryFrame m args 5 = F0 m 0 ((lg_sl ([.ref (b + 0), .int (iI a0), .int (iI a1), .int (iI a2)]) ++ List.replicate (5 - (lg_sl ([.ref (b + 0), .int (iI a0), .int (iI a1), .int (iI a2)])).length) Slot.unset).toArray) [] := by rw [hargs]; exact lg_entry_eq m ([.ref (b + 0), .int (iI a0), .int (iI a1), .int (iI a2)]) 5
  rw [hent]
  generalize (lg_sl ([.ref (b + 0), .int (iI a0), .int (iI a1), .int (iI a2)]) ++ List.replicate (5 - (lg_sl ([.ref (b + 0), .int (iI a0), .int (iI a1), .int (iI a2)])).length) Slot.unset).toArray = ls at hl ⊢
  have hl : lv_has ls 5 [(0, .ref (b + 0)), (1, .int (iI a0)), (2, .int (iI a1)), (3, .int (iI a2))] := hl
  refine lv_aload_n hx hb dX12_set_0 rfl (lv_at hl 0 rfl) ?_
  refine z_iconst hx hb dX12_set_1 ?_
  refine w_puti hx hb hts (z_memU u12) tyX12 tyX12_ok nmX12 hown hK.1 hS hS0 f12_35 (by decide) (zkd_of (rfl : zcd wR 0 = 50) rfl) (Or.inl (hts _ (z_mem k979))) rfl (z := 0) (by decide +kernel) dX12_set_2 (fun H locs hS hS0 => ?_)
  obtain ⟨M1, e2⟩ : ∃ M1 : zM, M1 = zup M 0 35 0 := ⟨_, rfl⟩
  rw [← e2] at hS
  have h := h M1 e2
  refine lv_aload_n hx hb dX12_set_5 rfl (lv_at hl 0 rfl) ?_
  refine lv_iload_n hx hb dX12_set_6 rfl (lv_at hl 1 rfl) ?_
  refine w_callz (va_runV (As := [.int (iI a0)]) (rest := []) ⟨hx, hb, hml, hown, hts⟩ (cR_isRing l D dA b M1 a0 _ h) (cwV 1 hts (z_gV k1097 k1098 k1397 k14 k1099) rfl rfl rfl dm_X12_isRing ⟨Nat.le_of_ble_eq_true rfl, Nat.le_of_ble_eq_true rfl⟩) ⟨wPre_blind, (w_recv hS hK.1 (by decide) (zkd_of (rfl : zcd wR 0 = 50) rfl) (by decide) (rfl : vwCl[12]? = some (RX12, TX12, 50))), w_pre hS hK⟩ rfl rfl hl.1 rfl (lv_room (Nat.le_of_ble_eq_true rfl)) dX12_set_7 ⟨Nat.le_refl _, Nat.le_refl _⟩) hS0 (fun z4 M3 H locs r5 h hS hS0 => ?_)
  obtain ⟨e6, h⟩ := h
  rw [e6] at hS
  refine w_if_eq (tgt := 52) hx hb (sI_01 r5) dX12_set_10 (by decide) (fun c7 => ?_) (fun c7 => ?_)
  · skip
    have h := h.1 c7
    refine z_iconst hx hb dX12_set_52 ?_
    exact w_iret hx hb hr hlocks hS hS0 (sI_of (by decide)) h dX12_set_53
  · skip
    have h := h.2 c7
    refine lv_iload_n hx hb dX12_set_13 rfl (lv_at hl 2 rfl) ?_
    refine z_iconst hx hb dX12_set_14 ?_
    refine z_iconst hx hb dX12_set_15 ?_
    refine w_callz (va_runS (As := [.int (iI a1), .int (iI 0), .int (iI 1)]) (rest := []) ⟨hx, hb, hml, hown, hts⟩ (cR_in l D dA b M1 a1 0 1 _ h) (va_cwS 3 hts (z_gS k1083 k1084 k14 k1085) rfl rfl rfl dm_X12_in.2 ⟨Nat.le_of_ble_eq_true rfl, Nat.le_of_ble_eq_true rfl⟩) ⟨wPre_blind, w_pre hS hK⟩ rfl rfl hl.1 rfl (lv_room (Nat.le_of_ble_eq_true rfl)) dX12_set_16 ⟨Nat.le_refl _, Nat.le_refl _⟩) hS0 (fun z9 M8 H locs r10 h hS hS0 => ?_)
    obtain ⟨e11, h⟩ := h
    rw [e11] at hS
    refine w_if_eq (tgt := 52) hx hb (sI_01 r10) dX12_set_19 (by decide) (fun c12 => ?_) (fun c12 => ?_)
    · skip
      have h := h.1 c12
      refine z_iconst hx hb dX12_set_52 ?_
      exact w_iret hx hb hr hlocks hS hS0 (sI_of (by decide)) h dX12_set_53
    · skip
      have h := h.2 c12
      refine lv_iload_n hx hb dX12_set_22 rfl (lv_at hl 2 rfl) ?_
      obtain ⟨J54, B26, h⟩ := h
      have L25 : ∀ (H : Heap) (locs : List Loc) (ls : Array Slot), J54 → zR D dA vwCl wR nR b M1 H → va_S (zA nR b) s.heap H locs → lv_has ls 5 [(0, .ref (b + 0)), (1, .int (iI a0)), (2, .int (iI a1)), (3, .int (iI a2))] → W p l e (headSpec (.code yX12_set cX12_set 5 (some .int) :: zt) (z_rm 2)).room s m args below meth c H locs 0 0 (MQ below (va_Qi (wQi Q) (zB D dA vwCl wR nR b) (zA nR b)) args s 0 0 (zA nR b)) (F0 m 54 ls []) := by
        intro  H locs ls h hS hS0 hl
        have h := B26 h
        refine lv_iload_n hx hb dX12_set_54 rfl (lv_at hl 2 rfl) ?_
        obtain ⟨J73, B32, h⟩ := h
        have L31 : ∀ (x30 : Int) (H : Heap) (locs : List Loc) (ls : Array Slot), J73 x30 → zR D dA vwCl wR nR b M1 H → va_S (zA nR b) s.heap H locs → lv_has ls 5 [(0, .ref (b + 0)), (1, .int (iI a0)), (2, .int (iI a1)), (3, .int (iI a2))] → W p l e (headSpec (.code yX12_set cX12_set 5 (some .int) :: zt) (z_rm 2)).room s m args below meth c H locs 0 0 (MQ below (va_Qi (wQi Q) (zB D dA vwCl wR nR b) (zA nR b)) args s 0 0 (zA nR b)) (F0 m 73 ls [.int (iI x30)]) := by
          intro x30 H locs ls h hS hS0 hl
          have h := B32 x30 h
          refine lv_istore (lv' := [(4, .int (iI x30)), (0, .ref (b + 0)), (1, .int (iI a0)), (2, .int (iI a1)), (3, .int (iI a2))]) hx hb dX12_set_73 hl (by decide) rfl (fun ls hl => ?_)
          refine lv_iload_n hx hb dX12_set_75 rfl (lv_at hl 3 rfl) ?_
          refine w_if_ne (tgt := 89) hx hb rfl dX12_set_76 (by decide) (fun c33 => ?_) (fun c33 => ?_)
          · skip
            have h := h.1 c33
            refine lv_aload_n hx hb dX12_set_89 rfl (lv_at hl 1 rfl) ?_
            refine w_getr (j2 := 6) hx hb hts (z_memU u12) hown hK.1 hS f12_7 (by decide) (zkd_of (rfl : zcd wR 0 = 50) rfl) (zrf_of (rfl : zcd wR 0 = 50) rfl) (Or.inl (hts _ (z_mem k951))) dX12_set_90 ?_
            refine lv_iload_n hx hb dX12_set_93 rfl (lv_at hl 2 rfl) ?_
            refine lv_iload_n hx hb dX12_set_94 rfl (lv_at hl 4 rfl) ?_
            obtain ⟨o34, h⟩ := h
            refine w_iast (z := a2) (n := 4) (i := (sI a0)) hx hb hK.1 (t0 := 0) rfl hS hS0 (by decide) (zkd_of (rfl : zcd wR 6 = 56) rfl) (zln_of (rfl : zcd wR 6 = 56) rfl) rfl o34.1 o34.2 (by decide) dX12_set_95 (fun H locs hS hS0 => ?_)
            obtain ⟨M35, e36⟩ : ∃ M35 : zM, M35 = zup M1 6 (sI a0).toNat a2 := ⟨_, rfl⟩
            rw [← e36] at hS
            have h := h M35 e36
            refine lv_iload hx hb dX12_set_96 (lv_at hl 0 rfl) ?_
            exact w_iret hx hb hr hlocks hS hS0 rfl h dX12_set_98
          · skip
            have h := h.2 c33
            refine lv_aload_n hx hb dX12_set_79 rfl (lv_at hl 1 rfl) ?_
            refine w_getr (j2 := 5) hx hb hts (z_memU u12) hown hK.1 hS f12_6 (by decide) (zkd_of (rfl : zcd wR 0 = 50) rfl) (zrf_of (rfl : zcd wR 0 = 50) rfl) (Or.inl (hts _ (z_mem k950))) dX12_set_80 ?_
            refine lv_iload_n hx hb dX12_set_83 rfl (lv_at hl 2 rfl) ?_
            refine lv_iload_n hx hb dX12_set_84 rfl (lv_at hl 4 rfl) ?_
            obtain ⟨o37, h⟩ := h
            refine w_iast (z := a2) (n := 4) (i := (sI a0)) hx hb hK.1 (t0 := 0) rfl hS hS0 (by decide) (zkd_of (rfl : zcd wR 5 = 55) rfl) (zln_of (rfl : zcd wR 5 = 55) rfl) rfl o37.1 o37.2 (by decide) dX12_set_85 (fun H locs hS hS0 => ?_)
            obtain ⟨M38, e39⟩ : ∃ M38 : zM, M38 = zup M1 5 (sI a0).toNat a2 := ⟨_, rfl⟩
            rw [← e39] at hS
            have h := h M38 e39
            refine lv_goto (tgt := 96) hx hb dX12_set_86 (by decide) ?_
            refine lv_iload hx hb dX12_set_96 (lv_at hl 0 rfl) ?_
            exact w_iret hx hb hr hlocks hS hS0 rfl h dX12_set_98
        refine w_if_ne (tgt := 67) hx hb rfl dX12_set_55 (by decide) (fun c40 => ?_) (fun c40 => ?_)
        · skip
          have h := h.1 c40
          refine lv_aload_n hx hb dX12_set_67 rfl (lv_at hl 0 rfl) ?_
          refine w_getr (j2 := 6) hx hb hts (z_memU u12) hown hK.1 hS f12_7 (by decide) (zkd_of (rfl : zcd wR 0 = 50) rfl) (zrf_of (rfl : zcd wR 0 = 50) rfl) (Or.inl (hts _ (z_mem k951))) dX12_set_68 ?_
          refine lv_iload_n hx hb dX12_set_71 rfl (lv_at hl 1 rfl) ?_
          obtain ⟨o41, h⟩ := h
          refine w_iald (n := 4) (i := (sI a0)) hx hb hK.1 (t0 := 0) rfl hS (by decide) (zkd_of (rfl : zcd wR 6 = 56) rfl) (zln_of (rfl : zcd wR 6 = 56) rfl) rfl o41.1 o41.2 (by decide) dX12_set_72 ?_
          exact L31 (M1 6 (sI a0).toNat) _ _ _ h hS hS0 (lv_sub hl [0, 1, 2, 3] rfl)
        · skip
          have h := h.2 c40
          refine lv_aload_n hx hb dX12_set_58 rfl (lv_at hl 0 rfl) ?_
          refine w_getr (j2 := 5) hx hb hts (z_memU u12) hown hK.1 hS f12_6 (by decide) (zkd_of (rfl : zcd wR 0 = 50) rfl) (zrf_of (rfl : zcd wR 0 = 50) rfl) (Or.inl (hts _ (z_mem k950))) dX12_set_59 ?_
          refine lv_iload_n hx hb dX12_set_62 rfl (lv_at hl 1 rfl) ?_
          obtain ⟨o42, h⟩ := h
          refine w_iald (n := 4) (i := (sI a0)) hx hb hK.1 (t0 := 0) rfl hS (by decide) (zkd_of (rfl : zcd wR 5 = 55) rfl) (zln_of (rfl : zcd wR 5 = 55) rfl) rfl o42.1 o42.2 (by decide) dX12_set_63 ?_
          refine lv_goto (tgt := 73) hx hb dX12_set_64 (by decide) ?_
          exact L31 (M1 5 (sI a0).toNat) _ _ _ h hS hS0 (lv_sub hl [0, 1, 2, 3] rfl)
      refine w_if_ne (tgt := 36) hx hb rfl dX12_set_23 (by decide) (fun c43 => ?_) (fun c43 => ?_)
      · skip
        have h := h.1 c43
        refine lv_iload_n hx hb dX12_set_36 rfl (lv_at hl 3 rfl) ?_
        refine z_iconst hx hb dX12_set_37 ?_
        refine lv_aload_n hx hb dX12_set_38 rfl (lv_at hl 0 rfl) ?_
        refine w_getr (j2 := 4) hx hb hts (z_memU u12) hown hK.1 hS f12_5 (by decide) (zkd_of (rfl : zcd wR 0 = 50) rfl) (zrf_of (rfl : zcd wR 0 = 50) rfl) (Or.inl (hts _ (z_mem k949))) dX12_set_39 ?_
        refine lv_iload_n hx hb dX12_set_42 rfl (lv_at hl 1 rfl) ?_
        obtain ⟨o44, h⟩ := h
        refine w_iald (n := 4) (i := (sI a0)) hx hb hK.1 (t0 := 0) rfl hS (by decide) (zkd_of (rfl : zcd wR 4 = 54) rfl) (zln_of (rfl : zcd wR 4 = 54) rfl) rfl o44.1 o44.2 (by decide) dX12_set_43 ?_
        refine z_iconst hx hb dX12_set_44 ?_
        refine z_isub hx hb dX12_set_45 ?_
        refine w_callz (va_runS (As := [.int (iI a2), .int (iI 0), .int (iI ((M1 4 (sI a0).toNat) - 1))]) (rest := []) ⟨hx, hb, hml, hown, hts⟩ (cR_in l D dA b M1 a2 0 ((M1 4 (sI a0).toNat) - 1) _ h) (va_cwS 3 hts (z_gS k1083 k1084 k14 k1085) rfl rfl rfl dm_X12_in.2 ⟨Nat.le_of_ble_eq_true rfl, Nat.le_of_ble_eq_true rfl⟩) ⟨wPre_blind, w_pre hS hK⟩ rfl rfl hl.1 rfl (lv_room (Nat.le_of_ble_eq_true rfl)) dX12_set_46 ⟨Nat.le_refl _, Nat.le_refl _⟩) hS0 (fun z46 M45 H locs r47 h hS hS0 => ?_)
        obtain ⟨e48, h⟩ := h
        rw [e48] at hS
        refine w_if_ne (tgt := 54) hx hb (sI_01 r47) dX12_set_49 (by decide) (fun c49 => ?_) (fun c49 => ?_)
        · skip
          have h := h.1 c49
          exact L25 _ _ _ h hS hS0 (lv_sub hl [0, 1, 2, 3] rfl)
        · skip
          have h := h.2 c49
          refine z_iconst hx hb dX12_set_52 ?_
          exact w_iret hx hb hr hlocks hS hS0 (sI_of (by decide)) h dX12_set_53
      · skip
        have h := h.2 c43
        refine lv_iload_n hx hb dX12_set_26 rfl (lv_at hl 3 rfl) ?_
        refine w_callz (va_runS (As := [.int (iI a2)]) (rest := []) ⟨hx, hb, hml, hown, hts⟩ (cR_isMotor l D dA b M1 a2 _ h) (va_cwS 1 hts (z_gS k1090 k1091 k14 k1092) rfl rfl rfl dm_X12_isMotor.2 ⟨Nat.le_of_ble_eq_true rfl, Nat.le_of_ble_eq_true rfl⟩) ⟨wPre_blind, w_pre hS hK⟩ rfl rfl hl.1 rfl (lv_room (Nat.le_of_ble_eq_true rfl)) dX12_set_27 ⟨Nat.le_refl _, Nat.le_refl _⟩) hS0 (fun z51 M50 H locs r52 h hS hS0 => ?_)
        obtain ⟨e53, h⟩ := h
        rw [e53] at hS
        refine w_if_ne (tgt := 54) hx hb (sI_01 r52) dX12_set_30 (by decide) (fun c54 => ?_) (fun c54 => ?_)
        · skip
          have h := h.1 c54
          exact L25 _ _ _ h hS hS0 (lv_sub hl [0, 1, 2, 3] rfl)
        · skip
          have h := h.2 c54
          refine lv_goto (tgt := 52) hx hb dX12_set_33 (by decide) ?_
          refine z_iconst hx hb dX12_set_52 ?_
          exact w_iret hx hb hr hlocks hS hS0 (sI_of (by decide)) h dX12_set_53

set_option maxRecDepth 100000 in
def wR_bitCount (a0 : Int) (M : zM) (Q : Int → Prop) : Prop := (∀ t1 : Int, t1 = ((andI (a0 - (andI (ushrI a0 1) 1431655765)) 858993459) + (andI (ushrI (a0 - (andI (ushrI a0 1) 1431655765)) 2) 858993459)) → (∀ t3 : Int, t3 = ((andI (t1 + (ushrI t1 4)) 252645135) + (ushrI (andI (t1 + (ushrI t1 4)) 252645135) 8)) → Q (andI (t3 + (ushrI t3 16)) 63)))
set_option maxHeartbeats 4000000 in
set_option maxRecDepth 100000 in
theorem cR_bitCount (l : Launch) (D : va_G) (dA : Nat → ClassId) (b : Nat) (M : zM) (a0 : Int)  (Q : Int → Prop) (h : wR_bitCount a0 M Q) : Met l yJ6_bitCount_0f7a4 (.code yJ6_bitCount_0f7a4 cJ6_bitCount_0f7a4 1 (some .int) :: zt) (z_rm 0) (va_Pc [.int (iI a0)] (wPre D dA vwCl (z_tys dA) wR nR b M)) (va_Qi (wQi (fun z9 u9 => u9 = M ∧ Q z9)) (zB D dA vwCl wR nR b) (zA nR b)) 0 0 (zA nR b) := by
  unfold wR_bitCount at h
  refine Met.ofW (cc := cJ6_bitCount_0f7a4) (maxL := 1) (ret := (some .int)) (by decide) rfl ?_
  intro p e s m args below meth c s₁ B hml hv
  obtain ⟨hargs, hS, hK⟩ := hv
  have hx := B.exec
  have hb := B.bytes
  have hr := B.returns
  have hts := atoms_spec (ws := .code yJ6_bitCount_0f7a4 cJ6_bitCount_0f7a4 1 (some .int) :: zt) B.pre
  have hown : s.vm.findClass RJ6 = some m.cls := findClass_of_methodNamed B.named
  have hlocks := B.notSynchronized
  have hS0 : va_S (zA nR b) s.heap s.heap [] := va_S.rf
  have hl := lv_entry ([.int (iI a0)]) (n := 1) (Nat.le_of_ble_eq_true rfl)
  have hent : entryFrame m args 1 = F0 m 0 ((lg_sl ([.int (iI a0)]) ++ List.replicate (1 - (lg_sl ([.int (iI a0)])).length) Slot.unset).toArray) [] := by rw [hargs]; exact lg_entry_eq m ([.int (iI a0)]) 1
  rw [hent]
  generalize (lg_sl ([.int (iI a0)]) ++ List.replicate (1 - (lg_sl ([.int (iI a0)])).length) Slot.unset).toArray = ls at hl ⊢
  have hl : lv_has ls 1 [(0, .int (iI a0))] := hl
  refine lv_iload_n hx hb dJ6_bitCount_0f7a4_0 rfl (lv_at hl 0 rfl) ?_
  refine lv_iload_n hx hb dJ6_bitCount_0f7a4_1 rfl (lv_at hl 0 rfl) ?_
  refine z_iconst hx hb dJ6_bitCount_0f7a4_2 ?_
  refine w_iushr hx hb dJ6_bitCount_0f7a4_3 ?_
  refine z_ldcw (n := 1431655765) hx hb hown (hts _ (z_mem k435)) (by decide) dJ6_bitCount_0f7a4_4 ?_
  refine w_iand hx hb dJ6_bitCount_0f7a4_7 ?_
  refine z_isub hx hb dJ6_bitCount_0f7a4_8 ?_
  refine lv_istore_n (lv' := [(0, .int (iI (a0 - (andI (ushrI a0 1) 1431655765))))]) hx hb dJ6_bitCount_0f7a4_9 rfl hl (by decide) rfl (fun ls hl => ?_)
  refine lv_iload_n hx hb dJ6_bitCount_0f7a4_10 rfl (lv_at hl 0 rfl) ?_
  refine z_ldcw (n := 858993459) hx hb hown (hts _ (z_mem k436)) (by decide) dJ6_bitCount_0f7a4_11 ?_
  refine w_iand hx hb dJ6_bitCount_0f7a4_14 ?_
  refine lv_iload_n hx hb dJ6_bitCount_0f7a4_15 rfl (lv_at hl 0 rfl) ?_
  refine z_iconst hx hb dJ6_bitCount_0f7a4_16 ?_
  refine w_iushr hx hb dJ6_bitCount_0f7a4_17 ?_
  refine z_ldcw (n := 858993459) hx hb hown (hts _ (z_mem k436)) (by decide) dJ6_bitCount_0f7a4_18 ?_
  refine w_iand hx hb dJ6_bitCount_0f7a4_21 ?_
  refine z_iadd hx hb dJ6_bitCount_0f7a4_22 ?_
  obtain ⟨t1, e2⟩ : ∃ t1 : Int, t1 = ((andI (a0 - (andI (ushrI a0 1) 1431655765)) 858993459) + (andI (ushrI (a0 - (andI (ushrI a0 1) 1431655765)) 2) 858993459)) := ⟨_, rfl⟩
  refine z_top (y := t1) e2.symm ?_
  have h := h t1 e2
  refine lv_istore_n (lv' := [(0, .int (iI t1))]) hx hb dJ6_bitCount_0f7a4_23 rfl hl (by decide) rfl (fun ls hl => ?_)
  refine lv_iload_n hx hb dJ6_bitCount_0f7a4_24 rfl (lv_at hl 0 rfl) ?_
  refine lv_iload_n hx hb dJ6_bitCount_0f7a4_25 rfl (lv_at hl 0 rfl) ?_
  refine z_iconst hx hb dJ6_bitCount_0f7a4_26 ?_
  refine w_iushr hx hb dJ6_bitCount_0f7a4_27 ?_
  refine z_iadd hx hb dJ6_bitCount_0f7a4_28 ?_
  refine z_ldcw (n := 252645135) hx hb hown (hts _ (z_mem k437)) (by decide) dJ6_bitCount_0f7a4_29 ?_
  refine w_iand hx hb dJ6_bitCount_0f7a4_32 ?_
  refine lv_istore_n (lv' := [(0, .int (iI (andI (t1 + (ushrI t1 4)) 252645135)))]) hx hb dJ6_bitCount_0f7a4_33 rfl hl (by decide) rfl (fun ls hl => ?_)
  refine lv_iload_n hx hb dJ6_bitCount_0f7a4_34 rfl (lv_at hl 0 rfl) ?_
  refine lv_iload_n hx hb dJ6_bitCount_0f7a4_35 rfl (lv_at hl 0 rfl) ?_
  refine z_bipush hx hb (by decide) dJ6_bitCount_0f7a4_36 ?_
  refine w_iushr hx hb dJ6_bitCount_0f7a4_38 ?_
  refine z_iadd hx hb dJ6_bitCount_0f7a4_39 ?_
  obtain ⟨t3, e4⟩ : ∃ t3 : Int, t3 = ((andI (t1 + (ushrI t1 4)) 252645135) + (ushrI (andI (t1 + (ushrI t1 4)) 252645135) 8)) := ⟨_, rfl⟩
  refine z_top (y := t3) e4.symm ?_
  have h := h t3 e4
  refine lv_istore_n (lv' := [(0, .int (iI t3))]) hx hb dJ6_bitCount_0f7a4_40 rfl hl (by decide) rfl (fun ls hl => ?_)
  refine lv_iload_n hx hb dJ6_bitCount_0f7a4_41 rfl (lv_at hl 0 rfl) ?_
  refine lv_iload_n hx hb dJ6_bitCount_0f7a4_42 rfl (lv_at hl 0 rfl) ?_
  refine z_bipush hx hb (by decide) dJ6_bitCount_0f7a4_43 ?_
  refine w_iushr hx hb dJ6_bitCount_0f7a4_45 ?_
  refine z_iadd hx hb dJ6_bitCount_0f7a4_46 ?_
  refine lv_istore_n (lv' := [(0, .int (iI (t3 + (ushrI t3 16))))]) hx hb dJ6_bitCount_0f7a4_47 rfl hl (by decide) rfl (fun ls hl => ?_)
  refine lv_iload_n hx hb dJ6_bitCount_0f7a4_48 rfl (lv_at hl 0 rfl) ?_
  refine z_bipush hx hb (by decide) dJ6_bitCount_0f7a4_49 ?_
  refine w_iand hx hb dJ6_bitCount_0f7a4_51 ?_
  exact w_iret hx hb hr hlocks hS hS0 (sI_of (andI_R _ _)) ⟨rfl, h⟩ dJ6_bitCount_0f7a4_52
end zz10_w15
section zz10_w16
/-! the W layer, 16 -/
theorem q10w16_0_0 : (cX12_clear.data.toList.drop 0).take 24 = [42, 3, 181, 0, 118, 42, 180, 0, 121, 60, 42, 3, 181, 0, 121, 42, 3, 181, 0, 176, 3, 61, 28, 5] := by decide +kernel
theorem q10w16_0_24 : (cX12_clear.data.toList.drop 24).take 18 = [162, 0, 16, 42, 180, 0, 41, 28, 3, 79, 132, 2, 1, 167, 255, 241, 27, 172] := by decide +kernel
theorem dX12_clear_0 : decode cX12_clear 0 = .ok (.aload_n 0, 1) := dz_42 (dz_at q10w16_0_0 0)
theorem dX12_clear_1 : decode cX12_clear 1 = .ok (.iconst 0, 1) := dz_3 (dz_at q10w16_0_0 1)
theorem dX12_clear_10 : decode cX12_clear 10 = .ok (.aload_n 0, 1) := dz_42 (dz_at q10w16_0_0 10)
theorem dX12_clear_11 : decode cX12_clear 11 = .ok (.iconst 0, 1) := dz_3 (dz_at q10w16_0_0 11)
theorem dX12_clear_12 : decode cX12_clear 12 = .ok (.putfield 121, 3) := dz_181 (dz_at q10w16_0_0 12) rfl
theorem dX12_clear_15 : decode cX12_clear 15 = .ok (.aload_n 0, 1) := dz_42 (dz_at q10w16_0_0 15)
theorem dX12_clear_16 : decode cX12_clear 16 = .ok (.iconst 0, 1) := dz_3 (dz_at q10w16_0_0 16)
theorem dX12_clear_17 : decode cX12_clear 17 = .ok (.putfield 176, 3) := dz_181 (dz_at q10w16_0_0 17) rfl
theorem dX12_clear_2 : decode cX12_clear 2 = .ok (.putfield 118, 3) := dz_181 (dz_at q10w16_0_0 2) rfl
theorem dX12_clear_20 : decode cX12_clear 20 = .ok (.iconst 0, 1) := dz_3 (dz_at q10w16_0_0 20)
theorem dX12_clear_21 : decode cX12_clear 21 = .ok (.istore_n 2, 1) := dz_61 (dz_at q10w16_0_0 21)
theorem dX12_clear_22 : decode cX12_clear 22 = .ok (.iload_n 2, 1) := dz_28 (dz_at q10w16_0_0 22)
theorem dX12_clear_23 : decode cX12_clear 23 = .ok (.iconst 2, 1) := dz_5 (dz_at q10w16_0_0 23)
theorem dX12_clear_24 : decode cX12_clear 24 = .ok (.if_icmp .ge 16, 3) := dz_162 (dz_at q10w16_0_24 0) (by decide +kernel)
theorem dX12_clear_27 : decode cX12_clear 27 = .ok (.aload_n 0, 1) := dz_42 (dz_at q10w16_0_24 3)
theorem dX12_clear_28 : decode cX12_clear 28 = .ok (.getfield 41, 3) := dz_180 (dz_at q10w16_0_24 4) rfl
theorem dX12_clear_31 : decode cX12_clear 31 = .ok (.iload_n 2, 1) := dz_28 (dz_at q10w16_0_24 7)
theorem dX12_clear_32 : decode cX12_clear 32 = .ok (.iconst 0, 1) := dz_3 (dz_at q10w16_0_24 8)
theorem dX12_clear_33 : decode cX12_clear 33 = .ok (.iastore, 1) := dz_79 (dz_at q10w16_0_24 9)
theorem dX12_clear_34 : decode cX12_clear 34 = .ok (.iinc 2 1, 3) := dz_132 (dz_at q10w16_0_24 10) (by decide +kernel)
theorem dX12_clear_37 : decode cX12_clear 37 = .ok (.goto (-15), 3) := dz_167 (dz_at q10w16_0_24 13) (by decide +kernel)
theorem dX12_clear_40 : decode cX12_clear 40 = .ok (.iload_n 1, 1) := dz_27 (dz_at q10w16_0_24 16)
theorem dX12_clear_41 : decode cX12_clear 41 = .ok (.ireturn, 1) := dz_172 (dz_at q10w16_0_24 17)
theorem dX12_clear_5 : decode cX12_clear 5 = .ok (.aload_n 0, 1) := dz_42 (dz_at q10w16_0_0 5)
theorem dX12_clear_6 : decode cX12_clear 6 = .ok (.getfield 121, 3) := dz_180 (dz_at q10w16_0_0 6) rfl
theorem dX12_clear_9 : decode cX12_clear 9 = .ok (.istore_n 1, 1) := dz_60 (dz_at q10w16_0_0 9)
theorem q10w16_1_0 : (cX12_common.data.toList.drop 0).take 16 = [27, 154, 0, 7, 26, 167, 0, 10, 27, 26, 27, 112, 184, 0, 191, 172] := by decide +kernel
theorem dX12_common_0 : decode cX12_common 0 = .ok (.iload_n 1, 1) := dz_27 (dz_at q10w16_1_0 0)
theorem dX12_common_1 : decode cX12_common 1 = .ok (.ifCond .ne 7, 3) := dz_154 (dz_at q10w16_1_0 1) (by decide +kernel)
theorem dX12_common_10 : decode cX12_common 10 = .ok (.iload_n 1, 1) := dz_27 (dz_at q10w16_1_0 10)
theorem dX12_common_11 : decode cX12_common 11 = .ok (.irem, 1) := dz_112 (dz_at q10w16_1_0 11)
theorem dX12_common_12 : decode cX12_common 12 = .ok (.invokestatic 191, 3) := dz_184 (dz_at q10w16_1_0 12) rfl
theorem dX12_common_15 : decode cX12_common 15 = .ok (.ireturn, 1) := dz_172 (dz_at q10w16_1_0 15)
theorem dX12_common_4 : decode cX12_common 4 = .ok (.iload_n 0, 1) := dz_26 (dz_at q10w16_1_0 4)
theorem dX12_common_5 : decode cX12_common 5 = .ok (.goto 10, 3) := dz_167 (dz_at q10w16_1_0 5) (by decide +kernel)
theorem dX12_common_8 : decode cX12_common 8 = .ok (.iload_n 1, 1) := dz_27 (dz_at q10w16_1_0 8)
theorem dX12_common_9 : decode cX12_common 9 = .ok (.iload_n 0, 1) := dz_26 (dz_at q10w16_1_0 9)
theorem q10w16_2_0 : (cX12_count.data.toList.drop 0).take 6 = [42, 3, 181, 0, 118, 27] := by decide +kernel
theorem q10w16_2_52 : (cX12_count.data.toList.drop 52).take 24 = [42, 180, 0, 121, 172, 42, 180, 0, 176, 172, 42, 180, 0, 179, 172, 42, 180, 0, 182, 172, 42, 180, 0, 185] := by decide +kernel
theorem q10w16_2_76 : (cX12_count.data.toList.drop 76).take 18 = [172, 42, 180, 0, 188, 172, 42, 180, 0, 128, 172, 42, 180, 0, 162, 172, 2, 172] := by decide +kernel
theorem dX12_count_0 : decode cX12_count 0 = .ok (.aload_n 0, 1) := dz_42 (dz_at q10w16_2_0 0)
theorem dX12_count_1 : decode cX12_count 1 = .ok (.iconst 0, 1) := dz_3 (dz_at q10w16_2_0 1)
theorem dX12_count_2 : decode cX12_count 2 = .ok (.putfield 118, 3) := dz_181 (dz_at q10w16_2_0 2) rfl
theorem dX12_count_5 : decode cX12_count 5 = .ok (.iload_n 1, 1) := dz_27 (dz_at q10w16_2_0 5)
theorem dX12_count_52 : decode cX12_count 52 = .ok (.aload_n 0, 1) := dz_42 (dz_at q10w16_2_52 0)
theorem dX12_count_53 : decode cX12_count 53 = .ok (.getfield 121, 3) := dz_180 (dz_at q10w16_2_52 1) rfl
theorem dX12_count_56 : decode cX12_count 56 = .ok (.ireturn, 1) := dz_172 (dz_at q10w16_2_52 4)
theorem dX12_count_57 : decode cX12_count 57 = .ok (.aload_n 0, 1) := dz_42 (dz_at q10w16_2_52 5)
theorem dX12_count_58 : decode cX12_count 58 = .ok (.getfield 176, 3) := dz_180 (dz_at q10w16_2_52 6) rfl
theorem dX12_count_6 : decode cX12_count 6 = .ok (.tableswitch 86 0 7 #[46, 51, 56, 61, 66, 71, 76, 81], 46) := by decide +kernel
theorem dX12_count_61 : decode cX12_count 61 = .ok (.ireturn, 1) := dz_172 (dz_at q10w16_2_52 9)
theorem dX12_count_62 : decode cX12_count 62 = .ok (.aload_n 0, 1) := dz_42 (dz_at q10w16_2_52 10)
theorem dX12_count_63 : decode cX12_count 63 = .ok (.getfield 179, 3) := dz_180 (dz_at q10w16_2_52 11) rfl
theorem dX12_count_66 : decode cX12_count 66 = .ok (.ireturn, 1) := dz_172 (dz_at q10w16_2_52 14)
theorem dX12_count_67 : decode cX12_count 67 = .ok (.aload_n 0, 1) := dz_42 (dz_at q10w16_2_52 15)
theorem dX12_count_68 : decode cX12_count 68 = .ok (.getfield 182, 3) := dz_180 (dz_at q10w16_2_52 16) rfl
theorem dX12_count_71 : decode cX12_count 71 = .ok (.ireturn, 1) := dz_172 (dz_at q10w16_2_52 19)
theorem dX12_count_72 : decode cX12_count 72 = .ok (.aload_n 0, 1) := dz_42 (dz_at q10w16_2_52 20)
theorem dX12_count_73 : decode cX12_count 73 = .ok (.getfield 185, 3) := dz_180 (dz_at q10w16_2_52 21) rfl
theorem dX12_count_76 : decode cX12_count 76 = .ok (.ireturn, 1) := dz_172 (dz_at q10w16_2_76 0)
theorem dX12_count_77 : decode cX12_count 77 = .ok (.aload_n 0, 1) := dz_42 (dz_at q10w16_2_76 1)
theorem dX12_count_78 : decode cX12_count 78 = .ok (.getfield 188, 3) := dz_180 (dz_at q10w16_2_76 2) rfl
theorem dX12_count_81 : decode cX12_count 81 = .ok (.ireturn, 1) := dz_172 (dz_at q10w16_2_76 5)
theorem dX12_count_82 : decode cX12_count 82 = .ok (.aload_n 0, 1) := dz_42 (dz_at q10w16_2_76 6)
theorem dX12_count_83 : decode cX12_count 83 = .ok (.getfield 128, 3) := dz_180 (dz_at q10w16_2_76 7) rfl
theorem dX12_count_86 : decode cX12_count 86 = .ok (.ireturn, 1) := dz_172 (dz_at q10w16_2_76 10)
theorem dX12_count_87 : decode cX12_count 87 = .ok (.aload_n 0, 1) := dz_42 (dz_at q10w16_2_76 11)
theorem dX12_count_88 : decode cX12_count 88 = .ok (.getfield 162, 3) := dz_180 (dz_at q10w16_2_76 12) rfl
theorem dX12_count_91 : decode cX12_count 91 = .ok (.ireturn, 1) := dz_172 (dz_at q10w16_2_76 15)
theorem dX12_count_92 : decode cX12_count 92 = .ok (.iconst (-1), 1) := dz_2 (dz_at q10w16_2_76 16)
theorem dX12_count_93 : decode cX12_count 93 = .ok (.ireturn, 1) := dz_172 (dz_at q10w16_2_76 17)
theorem q10w16_3_0 : (cX12_head.data.toList.drop 0).take 24 = [42, 3, 181, 0, 118, 42, 27, 182, 0, 168, 153, 0, 13, 28, 3, 16, 23, 184, 0, 124, 154, 0, 5, 2] := by decide +kernel
theorem q10w16_3_24 : (cX12_head.data.toList.drop 24).take 24 = [172, 29, 153, 0, 16, 42, 180, 0, 29, 27, 46, 4, 28, 120, 128, 167, 0, 15, 42, 180, 0, 29, 27, 46] := by decide +kernel
theorem q10w16_3_48 : (cX12_head.data.toList.drop 48).take 23 = [4, 28, 120, 2, 130, 126, 54, 4, 21, 4, 154, 0, 5, 2, 172, 42, 180, 0, 29, 27, 21, 4, 79] := by decide +kernel
theorem q10w16_3_71 : (cX12_head.data.toList.drop 71).take 6 = [21, 4, 184, 0, 171, 172] := by decide +kernel
theorem dX12_head_0 : decode cX12_head 0 = .ok (.aload_n 0, 1) := dz_42 (dz_at q10w16_3_0 0)
theorem dX12_head_1 : decode cX12_head 1 = .ok (.iconst 0, 1) := dz_3 (dz_at q10w16_3_0 1)
theorem dX12_head_10 : decode cX12_head 10 = .ok (.ifCond .eq 13, 3) := dz_153 (dz_at q10w16_3_0 10) (by decide +kernel)
theorem dX12_head_13 : decode cX12_head 13 = .ok (.iload_n 2, 1) := dz_28 (dz_at q10w16_3_0 13)
theorem dX12_head_14 : decode cX12_head 14 = .ok (.iconst 0, 1) := dz_3 (dz_at q10w16_3_0 14)
theorem dX12_head_15 : decode cX12_head 15 = .ok (.bipush 23, 2) := dz_16 (dz_at q10w16_3_0 15) (by decide +kernel)
theorem dX12_head_17 : decode cX12_head 17 = .ok (.invokestatic 124, 3) := dz_184 (dz_at q10w16_3_0 17) rfl
theorem dX12_head_2 : decode cX12_head 2 = .ok (.putfield 118, 3) := dz_181 (dz_at q10w16_3_0 2) rfl
theorem dX12_head_20 : decode cX12_head 20 = .ok (.ifCond .ne 5, 3) := dz_154 (dz_at q10w16_3_0 20) (by decide +kernel)
theorem dX12_head_23 : decode cX12_head 23 = .ok (.iconst (-1), 1) := dz_2 (dz_at q10w16_3_0 23)
theorem dX12_head_24 : decode cX12_head 24 = .ok (.ireturn, 1) := dz_172 (dz_at q10w16_3_24 0)
theorem dX12_head_25 : decode cX12_head 25 = .ok (.iload_n 3, 1) := dz_29 (dz_at q10w16_3_24 1)
theorem dX12_head_26 : decode cX12_head 26 = .ok (.ifCond .eq 16, 3) := dz_153 (dz_at q10w16_3_24 2) (by decide +kernel)
theorem dX12_head_29 : decode cX12_head 29 = .ok (.aload_n 0, 1) := dz_42 (dz_at q10w16_3_24 5)
theorem dX12_head_30 : decode cX12_head 30 = .ok (.getfield 29, 3) := dz_180 (dz_at q10w16_3_24 6) rfl
theorem dX12_head_33 : decode cX12_head 33 = .ok (.iload_n 1, 1) := dz_27 (dz_at q10w16_3_24 9)
theorem dX12_head_34 : decode cX12_head 34 = .ok (.iaload, 1) := dz_46 (dz_at q10w16_3_24 10)
theorem dX12_head_35 : decode cX12_head 35 = .ok (.iconst 1, 1) := dz_4 (dz_at q10w16_3_24 11)
theorem dX12_head_36 : decode cX12_head 36 = .ok (.iload_n 2, 1) := dz_28 (dz_at q10w16_3_24 12)
theorem dX12_head_37 : decode cX12_head 37 = .ok (.ishl, 1) := dz_120 (dz_at q10w16_3_24 13)
theorem dX12_head_38 : decode cX12_head 38 = .ok (.ior, 1) := dz_128 (dz_at q10w16_3_24 14)
theorem dX12_head_39 : decode cX12_head 39 = .ok (.goto 15, 3) := dz_167 (dz_at q10w16_3_24 15) (by decide +kernel)
theorem dX12_head_42 : decode cX12_head 42 = .ok (.aload_n 0, 1) := dz_42 (dz_at q10w16_3_24 18)
theorem dX12_head_43 : decode cX12_head 43 = .ok (.getfield 29, 3) := dz_180 (dz_at q10w16_3_24 19) rfl
theorem dX12_head_46 : decode cX12_head 46 = .ok (.iload_n 1, 1) := dz_27 (dz_at q10w16_3_24 22)
theorem dX12_head_47 : decode cX12_head 47 = .ok (.iaload, 1) := dz_46 (dz_at q10w16_3_24 23)
theorem dX12_head_48 : decode cX12_head 48 = .ok (.iconst 1, 1) := dz_4 (dz_at q10w16_3_48 0)
theorem dX12_head_49 : decode cX12_head 49 = .ok (.iload_n 2, 1) := dz_28 (dz_at q10w16_3_48 1)
theorem dX12_head_5 : decode cX12_head 5 = .ok (.aload_n 0, 1) := dz_42 (dz_at q10w16_3_0 5)
theorem dX12_head_50 : decode cX12_head 50 = .ok (.ishl, 1) := dz_120 (dz_at q10w16_3_48 2)
theorem dX12_head_51 : decode cX12_head 51 = .ok (.iconst (-1), 1) := dz_2 (dz_at q10w16_3_48 3)
theorem dX12_head_52 : decode cX12_head 52 = .ok (.ixor, 1) := dz_130 (dz_at q10w16_3_48 4)
theorem dX12_head_53 : decode cX12_head 53 = .ok (.iand, 1) := dz_126 (dz_at q10w16_3_48 5)
theorem dX12_head_54 : decode cX12_head 54 = .ok (.istore 4, 2) := dz_54 (dz_at q10w16_3_48 6)
theorem dX12_head_56 : decode cX12_head 56 = .ok (.iload 4, 2) := dz_21 (dz_at q10w16_3_48 8)
theorem dX12_head_58 : decode cX12_head 58 = .ok (.ifCond .ne 5, 3) := dz_154 (dz_at q10w16_3_48 10) (by decide +kernel)
theorem dX12_head_6 : decode cX12_head 6 = .ok (.iload_n 1, 1) := dz_27 (dz_at q10w16_3_0 6)
theorem dX12_head_61 : decode cX12_head 61 = .ok (.iconst (-1), 1) := dz_2 (dz_at q10w16_3_48 13)
theorem dX12_head_62 : decode cX12_head 62 = .ok (.ireturn, 1) := dz_172 (dz_at q10w16_3_48 14)
theorem dX12_head_63 : decode cX12_head 63 = .ok (.aload_n 0, 1) := dz_42 (dz_at q10w16_3_48 15)
theorem dX12_head_64 : decode cX12_head 64 = .ok (.getfield 29, 3) := dz_180 (dz_at q10w16_3_48 16) rfl
theorem dX12_head_67 : decode cX12_head 67 = .ok (.iload_n 1, 1) := dz_27 (dz_at q10w16_3_48 19)
theorem dX12_head_68 : decode cX12_head 68 = .ok (.iload 4, 2) := dz_21 (dz_at q10w16_3_48 20)
theorem dX12_head_7 : decode cX12_head 7 = .ok (.invokevirtual 168, 3) := dz_182 (dz_at q10w16_3_0 7) rfl
theorem dX12_head_70 : decode cX12_head 70 = .ok (.iastore, 1) := dz_79 (dz_at q10w16_3_48 22)
theorem dX12_head_71 : decode cX12_head 71 = .ok (.iload 4, 2) := dz_21 (dz_at q10w16_3_71 0)
theorem dX12_head_73 : decode cX12_head 73 = .ok (.invokestatic 171, 3) := dz_184 (dz_at q10w16_3_71 2) rfl
theorem dX12_head_76 : decode cX12_head 76 = .ok (.ireturn, 1) := dz_172 (dz_at q10w16_3_71 5)
theorem q10w16_4_0 : (cX12_lastSpeed.data.toList.drop 0).take 22 = [42, 180, 0, 41, 27, 46, 154, 0, 7, 4, 167, 0, 21, 42, 180, 0, 38, 16, 12, 27, 104, 42] := by decide +kernel
theorem q10w16_4_22 : (cX12_lastSpeed.data.toList.drop 22).take 10 = [180, 0, 41, 27, 46, 96, 4, 100, 46, 172] := by decide +kernel
theorem dX12_lastSpeed_0 : decode cX12_lastSpeed 0 = .ok (.aload_n 0, 1) := dz_42 (dz_at q10w16_4_0 0)
theorem dX12_lastSpeed_1 : decode cX12_lastSpeed 1 = .ok (.getfield 41, 3) := dz_180 (dz_at q10w16_4_0 1) rfl
theorem dX12_lastSpeed_10 : decode cX12_lastSpeed 10 = .ok (.goto 21, 3) := dz_167 (dz_at q10w16_4_0 10) (by decide +kernel)
theorem dX12_lastSpeed_13 : decode cX12_lastSpeed 13 = .ok (.aload_n 0, 1) := dz_42 (dz_at q10w16_4_0 13)
theorem dX12_lastSpeed_14 : decode cX12_lastSpeed 14 = .ok (.getfield 38, 3) := dz_180 (dz_at q10w16_4_0 14) rfl
theorem dX12_lastSpeed_17 : decode cX12_lastSpeed 17 = .ok (.bipush 12, 2) := dz_16 (dz_at q10w16_4_0 17) (by decide +kernel)
theorem dX12_lastSpeed_19 : decode cX12_lastSpeed 19 = .ok (.iload_n 1, 1) := dz_27 (dz_at q10w16_4_0 19)
theorem dX12_lastSpeed_20 : decode cX12_lastSpeed 20 = .ok (.imul, 1) := dz_104 (dz_at q10w16_4_0 20)
theorem dX12_lastSpeed_21 : decode cX12_lastSpeed 21 = .ok (.aload_n 0, 1) := dz_42 (dz_at q10w16_4_0 21)
theorem dX12_lastSpeed_22 : decode cX12_lastSpeed 22 = .ok (.getfield 41, 3) := dz_180 (dz_at q10w16_4_22 0) rfl
theorem dX12_lastSpeed_25 : decode cX12_lastSpeed 25 = .ok (.iload_n 1, 1) := dz_27 (dz_at q10w16_4_22 3)
theorem dX12_lastSpeed_26 : decode cX12_lastSpeed 26 = .ok (.iaload, 1) := dz_46 (dz_at q10w16_4_22 4)
theorem dX12_lastSpeed_27 : decode cX12_lastSpeed 27 = .ok (.iadd, 1) := dz_96 (dz_at q10w16_4_22 5)
theorem dX12_lastSpeed_28 : decode cX12_lastSpeed 28 = .ok (.iconst 1, 1) := dz_4 (dz_at q10w16_4_22 6)
theorem dX12_lastSpeed_29 : decode cX12_lastSpeed 29 = .ok (.isub, 1) := dz_100 (dz_at q10w16_4_22 7)
theorem dX12_lastSpeed_30 : decode cX12_lastSpeed 30 = .ok (.iaload, 1) := dz_46 (dz_at q10w16_4_22 8)
theorem dX12_lastSpeed_31 : decode cX12_lastSpeed 31 = .ok (.ireturn, 1) := dz_172 (dz_at q10w16_4_22 9)
theorem dX12_lastSpeed_4 : decode cX12_lastSpeed 4 = .ok (.iload_n 1, 1) := dz_27 (dz_at q10w16_4_0 4)
theorem dX12_lastSpeed_5 : decode cX12_lastSpeed 5 = .ok (.iaload, 1) := dz_46 (dz_at q10w16_4_0 5)
theorem dX12_lastSpeed_6 : decode cX12_lastSpeed 6 = .ok (.ifCond .ne 7, 3) := dz_154 (dz_at q10w16_4_0 6) (by decide +kernel)
theorem dX12_lastSpeed_9 : decode cX12_lastSpeed 9 = .ok (.iconst 1, 1) := dz_4 (dz_at q10w16_4_0 9)
theorem q10w16_5_0 : (cX12_motor.data.toList.drop 0).take 24 = [42, 3, 181, 0, 118, 27, 184, 0, 165, 153, 0, 25, 28, 3, 17, 19, 136, 184, 0, 124, 153, 0, 14, 29] := by decide +kernel
theorem q10w16_5_24 : (cX12_motor.data.toList.drop 24).take 23 = [16, 247, 16, 9, 184, 0, 124, 154, 0, 5, 3, 172, 42, 180, 0, 41, 27, 46, 54, 4, 3, 54, 5] := by decide +kernel
theorem q10w16_5_47 : (cX12_motor.data.toList.drop 47).take 23 = [21, 5, 21, 4, 162, 0, 25, 42, 180, 0, 35, 16, 12, 27, 104, 21, 5, 96, 46, 28, 162, 0, 9] := by decide +kernel
theorem q10w16_5_70 : (cX12_motor.data.toList.drop 70).take 24 = [132, 5, 1, 167, 255, 230, 21, 5, 21, 4, 159, 0, 19, 42, 180, 0, 35, 16, 12, 27, 104, 21, 5, 96] := by decide +kernel
theorem q10w16_5_94 : (cX12_motor.data.toList.drop 94).take 22 = [46, 28, 159, 0, 91, 21, 4, 16, 12, 160, 0, 5, 3, 172, 21, 4, 54, 6, 21, 6, 21, 5] := by decide +kernel
theorem q10w16_5_116 : (cX12_motor.data.toList.drop 116).take 24 = [164, 0, 61, 42, 180, 0, 35, 16, 12, 27, 104, 21, 6, 96, 42, 180, 0, 35, 16, 12, 27, 104, 21, 6] := by decide +kernel
theorem q10w16_5_140 : (cX12_motor.data.toList.drop 140).take 24 = [96, 4, 100, 46, 79, 42, 180, 0, 38, 16, 12, 27, 104, 21, 6, 96, 42, 180, 0, 38, 16, 12, 27, 104] := by decide +kernel
theorem q10w16_5_164 : (cX12_motor.data.toList.drop 164).take 24 = [21, 6, 96, 4, 100, 46, 79, 132, 6, 255, 167, 255, 194, 42, 180, 0, 41, 27, 92, 46, 4, 96, 79, 42] := by decide +kernel
theorem q10w16_5_188 : (cX12_motor.data.toList.drop 188).take 24 = [180, 0, 35, 16, 12, 27, 104, 21, 5, 96, 28, 79, 42, 180, 0, 38, 16, 12, 27, 104, 21, 5, 96, 29] := by decide +kernel
theorem q10w16_5_212 : (cX12_motor.data.toList.drop 212).take 3 = [79, 4, 172] := by decide +kernel
theorem dX12_motor_0 : decode cX12_motor 0 = .ok (.aload_n 0, 1) := dz_42 (dz_at q10w16_5_0 0)
theorem dX12_motor_1 : decode cX12_motor 1 = .ok (.iconst 0, 1) := dz_3 (dz_at q10w16_5_0 1)
theorem dX12_motor_101 : decode cX12_motor 101 = .ok (.bipush 12, 2) := dz_16 (dz_at q10w16_5_94 7) (by decide +kernel)
theorem dX12_motor_103 : decode cX12_motor 103 = .ok (.if_icmp .ne 5, 3) := dz_160 (dz_at q10w16_5_94 9) (by decide +kernel)
theorem dX12_motor_106 : decode cX12_motor 106 = .ok (.iconst 0, 1) := dz_3 (dz_at q10w16_5_94 12)
theorem dX12_motor_107 : decode cX12_motor 107 = .ok (.ireturn, 1) := dz_172 (dz_at q10w16_5_94 13)
theorem dX12_motor_108 : decode cX12_motor 108 = .ok (.iload 4, 2) := dz_21 (dz_at q10w16_5_94 14)
theorem dX12_motor_110 : decode cX12_motor 110 = .ok (.istore 6, 2) := dz_54 (dz_at q10w16_5_94 16)
theorem dX12_motor_112 : decode cX12_motor 112 = .ok (.iload 6, 2) := dz_21 (dz_at q10w16_5_94 18)
theorem dX12_motor_114 : decode cX12_motor 114 = .ok (.iload 5, 2) := dz_21 (dz_at q10w16_5_94 20)
theorem dX12_motor_116 : decode cX12_motor 116 = .ok (.if_icmp .le 61, 3) := dz_164 (dz_at q10w16_5_116 0) (by decide +kernel)
theorem dX12_motor_119 : decode cX12_motor 119 = .ok (.aload_n 0, 1) := dz_42 (dz_at q10w16_5_116 3)
theorem dX12_motor_12 : decode cX12_motor 12 = .ok (.iload_n 2, 1) := dz_28 (dz_at q10w16_5_0 12)
theorem dX12_motor_120 : decode cX12_motor 120 = .ok (.getfield 35, 3) := dz_180 (dz_at q10w16_5_116 4) rfl
theorem dX12_motor_123 : decode cX12_motor 123 = .ok (.bipush 12, 2) := dz_16 (dz_at q10w16_5_116 7) (by decide +kernel)
theorem dX12_motor_125 : decode cX12_motor 125 = .ok (.iload_n 1, 1) := dz_27 (dz_at q10w16_5_116 9)
theorem dX12_motor_126 : decode cX12_motor 126 = .ok (.imul, 1) := dz_104 (dz_at q10w16_5_116 10)
theorem dX12_motor_127 : decode cX12_motor 127 = .ok (.iload 6, 2) := dz_21 (dz_at q10w16_5_116 11)
theorem dX12_motor_129 : decode cX12_motor 129 = .ok (.iadd, 1) := dz_96 (dz_at q10w16_5_116 13)
theorem dX12_motor_13 : decode cX12_motor 13 = .ok (.iconst 0, 1) := dz_3 (dz_at q10w16_5_0 13)
theorem dX12_motor_130 : decode cX12_motor 130 = .ok (.aload_n 0, 1) := dz_42 (dz_at q10w16_5_116 14)
theorem dX12_motor_131 : decode cX12_motor 131 = .ok (.getfield 35, 3) := dz_180 (dz_at q10w16_5_116 15) rfl
theorem dX12_motor_134 : decode cX12_motor 134 = .ok (.bipush 12, 2) := dz_16 (dz_at q10w16_5_116 18) (by decide +kernel)
theorem dX12_motor_136 : decode cX12_motor 136 = .ok (.iload_n 1, 1) := dz_27 (dz_at q10w16_5_116 20)
theorem dX12_motor_137 : decode cX12_motor 137 = .ok (.imul, 1) := dz_104 (dz_at q10w16_5_116 21)
theorem dX12_motor_138 : decode cX12_motor 138 = .ok (.iload 6, 2) := dz_21 (dz_at q10w16_5_116 22)
theorem dX12_motor_14 : decode cX12_motor 14 = .ok (.sipush 5000, 3) := dz_17 (dz_at q10w16_5_0 14) (by decide +kernel)
theorem dX12_motor_140 : decode cX12_motor 140 = .ok (.iadd, 1) := dz_96 (dz_at q10w16_5_140 0)
theorem dX12_motor_141 : decode cX12_motor 141 = .ok (.iconst 1, 1) := dz_4 (dz_at q10w16_5_140 1)
theorem dX12_motor_142 : decode cX12_motor 142 = .ok (.isub, 1) := dz_100 (dz_at q10w16_5_140 2)
theorem dX12_motor_143 : decode cX12_motor 143 = .ok (.iaload, 1) := dz_46 (dz_at q10w16_5_140 3)
theorem dX12_motor_144 : decode cX12_motor 144 = .ok (.iastore, 1) := dz_79 (dz_at q10w16_5_140 4)
theorem dX12_motor_145 : decode cX12_motor 145 = .ok (.aload_n 0, 1) := dz_42 (dz_at q10w16_5_140 5)
theorem dX12_motor_146 : decode cX12_motor 146 = .ok (.getfield 38, 3) := dz_180 (dz_at q10w16_5_140 6) rfl
theorem dX12_motor_149 : decode cX12_motor 149 = .ok (.bipush 12, 2) := dz_16 (dz_at q10w16_5_140 9) (by decide +kernel)
theorem dX12_motor_151 : decode cX12_motor 151 = .ok (.iload_n 1, 1) := dz_27 (dz_at q10w16_5_140 11)
theorem dX12_motor_152 : decode cX12_motor 152 = .ok (.imul, 1) := dz_104 (dz_at q10w16_5_140 12)
theorem dX12_motor_153 : decode cX12_motor 153 = .ok (.iload 6, 2) := dz_21 (dz_at q10w16_5_140 13)
theorem dX12_motor_155 : decode cX12_motor 155 = .ok (.iadd, 1) := dz_96 (dz_at q10w16_5_140 15)
theorem dX12_motor_156 : decode cX12_motor 156 = .ok (.aload_n 0, 1) := dz_42 (dz_at q10w16_5_140 16)
theorem dX12_motor_157 : decode cX12_motor 157 = .ok (.getfield 38, 3) := dz_180 (dz_at q10w16_5_140 17) rfl
theorem dX12_motor_160 : decode cX12_motor 160 = .ok (.bipush 12, 2) := dz_16 (dz_at q10w16_5_140 20) (by decide +kernel)
theorem dX12_motor_162 : decode cX12_motor 162 = .ok (.iload_n 1, 1) := dz_27 (dz_at q10w16_5_140 22)
theorem dX12_motor_163 : decode cX12_motor 163 = .ok (.imul, 1) := dz_104 (dz_at q10w16_5_140 23)
theorem dX12_motor_164 : decode cX12_motor 164 = .ok (.iload 6, 2) := dz_21 (dz_at q10w16_5_164 0)
theorem dX12_motor_166 : decode cX12_motor 166 = .ok (.iadd, 1) := dz_96 (dz_at q10w16_5_164 2)
theorem dX12_motor_167 : decode cX12_motor 167 = .ok (.iconst 1, 1) := dz_4 (dz_at q10w16_5_164 3)
theorem dX12_motor_168 : decode cX12_motor 168 = .ok (.isub, 1) := dz_100 (dz_at q10w16_5_164 4)
theorem dX12_motor_169 : decode cX12_motor 169 = .ok (.iaload, 1) := dz_46 (dz_at q10w16_5_164 5)
theorem dX12_motor_17 : decode cX12_motor 17 = .ok (.invokestatic 124, 3) := dz_184 (dz_at q10w16_5_0 17) rfl
theorem dX12_motor_170 : decode cX12_motor 170 = .ok (.iastore, 1) := dz_79 (dz_at q10w16_5_164 6)
theorem dX12_motor_171 : decode cX12_motor 171 = .ok (.iinc 6 (-1), 3) := dz_132 (dz_at q10w16_5_164 7) (by decide +kernel)
theorem dX12_motor_174 : decode cX12_motor 174 = .ok (.goto (-62), 3) := dz_167 (dz_at q10w16_5_164 10) (by decide +kernel)
theorem dX12_motor_177 : decode cX12_motor 177 = .ok (.aload_n 0, 1) := dz_42 (dz_at q10w16_5_164 13)
theorem dX12_motor_178 : decode cX12_motor 178 = .ok (.getfield 41, 3) := dz_180 (dz_at q10w16_5_164 14) rfl
theorem dX12_motor_181 : decode cX12_motor 181 = .ok (.iload_n 1, 1) := dz_27 (dz_at q10w16_5_164 17)
theorem dX12_motor_182 : decode cX12_motor 182 = .ok (.dup2, 1) := dz_92 (dz_at q10w16_5_164 18)
theorem dX12_motor_183 : decode cX12_motor 183 = .ok (.iaload, 1) := dz_46 (dz_at q10w16_5_164 19)
theorem dX12_motor_184 : decode cX12_motor 184 = .ok (.iconst 1, 1) := dz_4 (dz_at q10w16_5_164 20)
theorem dX12_motor_185 : decode cX12_motor 185 = .ok (.iadd, 1) := dz_96 (dz_at q10w16_5_164 21)
theorem dX12_motor_186 : decode cX12_motor 186 = .ok (.iastore, 1) := dz_79 (dz_at q10w16_5_164 22)
theorem dX12_motor_187 : decode cX12_motor 187 = .ok (.aload_n 0, 1) := dz_42 (dz_at q10w16_5_164 23)
theorem dX12_motor_188 : decode cX12_motor 188 = .ok (.getfield 35, 3) := dz_180 (dz_at q10w16_5_188 0) rfl
theorem dX12_motor_191 : decode cX12_motor 191 = .ok (.bipush 12, 2) := dz_16 (dz_at q10w16_5_188 3) (by decide +kernel)
theorem dX12_motor_193 : decode cX12_motor 193 = .ok (.iload_n 1, 1) := dz_27 (dz_at q10w16_5_188 5)
theorem dX12_motor_194 : decode cX12_motor 194 = .ok (.imul, 1) := dz_104 (dz_at q10w16_5_188 6)
theorem dX12_motor_195 : decode cX12_motor 195 = .ok (.iload 5, 2) := dz_21 (dz_at q10w16_5_188 7)
theorem dX12_motor_197 : decode cX12_motor 197 = .ok (.iadd, 1) := dz_96 (dz_at q10w16_5_188 9)
theorem dX12_motor_198 : decode cX12_motor 198 = .ok (.iload_n 2, 1) := dz_28 (dz_at q10w16_5_188 10)
theorem dX12_motor_199 : decode cX12_motor 199 = .ok (.iastore, 1) := dz_79 (dz_at q10w16_5_188 11)
theorem dX12_motor_2 : decode cX12_motor 2 = .ok (.putfield 118, 3) := dz_181 (dz_at q10w16_5_0 2) rfl
theorem dX12_motor_20 : decode cX12_motor 20 = .ok (.ifCond .eq 14, 3) := dz_153 (dz_at q10w16_5_0 20) (by decide +kernel)
theorem dX12_motor_200 : decode cX12_motor 200 = .ok (.aload_n 0, 1) := dz_42 (dz_at q10w16_5_188 12)
theorem dX12_motor_201 : decode cX12_motor 201 = .ok (.getfield 38, 3) := dz_180 (dz_at q10w16_5_188 13) rfl
theorem dX12_motor_204 : decode cX12_motor 204 = .ok (.bipush 12, 2) := dz_16 (dz_at q10w16_5_188 16) (by decide +kernel)
theorem dX12_motor_206 : decode cX12_motor 206 = .ok (.iload_n 1, 1) := dz_27 (dz_at q10w16_5_188 18)
theorem dX12_motor_207 : decode cX12_motor 207 = .ok (.imul, 1) := dz_104 (dz_at q10w16_5_188 19)
theorem dX12_motor_208 : decode cX12_motor 208 = .ok (.iload 5, 2) := dz_21 (dz_at q10w16_5_188 20)
theorem dX12_motor_210 : decode cX12_motor 210 = .ok (.iadd, 1) := dz_96 (dz_at q10w16_5_188 22)
theorem dX12_motor_211 : decode cX12_motor 211 = .ok (.iload_n 3, 1) := dz_29 (dz_at q10w16_5_188 23)
theorem dX12_motor_212 : decode cX12_motor 212 = .ok (.iastore, 1) := dz_79 (dz_at q10w16_5_212 0)
theorem dX12_motor_213 : decode cX12_motor 213 = .ok (.iconst 1, 1) := dz_4 (dz_at q10w16_5_212 1)
theorem dX12_motor_214 : decode cX12_motor 214 = .ok (.ireturn, 1) := dz_172 (dz_at q10w16_5_212 2)
theorem dX12_motor_23 : decode cX12_motor 23 = .ok (.iload_n 3, 1) := dz_29 (dz_at q10w16_5_0 23)
theorem dX12_motor_24 : decode cX12_motor 24 = .ok (.bipush (-9), 2) := dz_16 (dz_at q10w16_5_24 0) (by decide +kernel)
theorem dX12_motor_26 : decode cX12_motor 26 = .ok (.bipush 9, 2) := dz_16 (dz_at q10w16_5_24 2) (by decide +kernel)
theorem dX12_motor_28 : decode cX12_motor 28 = .ok (.invokestatic 124, 3) := dz_184 (dz_at q10w16_5_24 4) rfl
theorem dX12_motor_31 : decode cX12_motor 31 = .ok (.ifCond .ne 5, 3) := dz_154 (dz_at q10w16_5_24 7) (by decide +kernel)
theorem dX12_motor_34 : decode cX12_motor 34 = .ok (.iconst 0, 1) := dz_3 (dz_at q10w16_5_24 10)
theorem dX12_motor_35 : decode cX12_motor 35 = .ok (.ireturn, 1) := dz_172 (dz_at q10w16_5_24 11)
theorem dX12_motor_36 : decode cX12_motor 36 = .ok (.aload_n 0, 1) := dz_42 (dz_at q10w16_5_24 12)
theorem dX12_motor_37 : decode cX12_motor 37 = .ok (.getfield 41, 3) := dz_180 (dz_at q10w16_5_24 13) rfl
theorem dX12_motor_40 : decode cX12_motor 40 = .ok (.iload_n 1, 1) := dz_27 (dz_at q10w16_5_24 16)
theorem dX12_motor_41 : decode cX12_motor 41 = .ok (.iaload, 1) := dz_46 (dz_at q10w16_5_24 17)
theorem dX12_motor_42 : decode cX12_motor 42 = .ok (.istore 4, 2) := dz_54 (dz_at q10w16_5_24 18)
theorem dX12_motor_44 : decode cX12_motor 44 = .ok (.iconst 0, 1) := dz_3 (dz_at q10w16_5_24 20)
theorem dX12_motor_45 : decode cX12_motor 45 = .ok (.istore 5, 2) := dz_54 (dz_at q10w16_5_24 21)
theorem dX12_motor_47 : decode cX12_motor 47 = .ok (.iload 5, 2) := dz_21 (dz_at q10w16_5_47 0)
theorem dX12_motor_49 : decode cX12_motor 49 = .ok (.iload 4, 2) := dz_21 (dz_at q10w16_5_47 2)
theorem dX12_motor_5 : decode cX12_motor 5 = .ok (.iload_n 1, 1) := dz_27 (dz_at q10w16_5_0 5)
theorem dX12_motor_51 : decode cX12_motor 51 = .ok (.if_icmp .ge 25, 3) := dz_162 (dz_at q10w16_5_47 4) (by decide +kernel)
theorem dX12_motor_54 : decode cX12_motor 54 = .ok (.aload_n 0, 1) := dz_42 (dz_at q10w16_5_47 7)
theorem dX12_motor_55 : decode cX12_motor 55 = .ok (.getfield 35, 3) := dz_180 (dz_at q10w16_5_47 8) rfl
theorem dX12_motor_58 : decode cX12_motor 58 = .ok (.bipush 12, 2) := dz_16 (dz_at q10w16_5_47 11) (by decide +kernel)
theorem dX12_motor_6 : decode cX12_motor 6 = .ok (.invokestatic 165, 3) := dz_184 (dz_at q10w16_5_0 6) rfl
theorem dX12_motor_60 : decode cX12_motor 60 = .ok (.iload_n 1, 1) := dz_27 (dz_at q10w16_5_47 13)
theorem dX12_motor_61 : decode cX12_motor 61 = .ok (.imul, 1) := dz_104 (dz_at q10w16_5_47 14)
theorem dX12_motor_62 : decode cX12_motor 62 = .ok (.iload 5, 2) := dz_21 (dz_at q10w16_5_47 15)
theorem dX12_motor_64 : decode cX12_motor 64 = .ok (.iadd, 1) := dz_96 (dz_at q10w16_5_47 17)
theorem dX12_motor_65 : decode cX12_motor 65 = .ok (.iaload, 1) := dz_46 (dz_at q10w16_5_47 18)
theorem dX12_motor_66 : decode cX12_motor 66 = .ok (.iload_n 2, 1) := dz_28 (dz_at q10w16_5_47 19)
theorem dX12_motor_67 : decode cX12_motor 67 = .ok (.if_icmp .ge 9, 3) := dz_162 (dz_at q10w16_5_47 20) (by decide +kernel)
theorem dX12_motor_70 : decode cX12_motor 70 = .ok (.iinc 5 1, 3) := dz_132 (dz_at q10w16_5_70 0) (by decide +kernel)
theorem dX12_motor_73 : decode cX12_motor 73 = .ok (.goto (-26), 3) := dz_167 (dz_at q10w16_5_70 3) (by decide +kernel)
theorem dX12_motor_76 : decode cX12_motor 76 = .ok (.iload 5, 2) := dz_21 (dz_at q10w16_5_70 6)
theorem dX12_motor_78 : decode cX12_motor 78 = .ok (.iload 4, 2) := dz_21 (dz_at q10w16_5_70 8)
theorem dX12_motor_80 : decode cX12_motor 80 = .ok (.if_icmp .eq 19, 3) := dz_159 (dz_at q10w16_5_70 10) (by decide +kernel)
theorem dX12_motor_83 : decode cX12_motor 83 = .ok (.aload_n 0, 1) := dz_42 (dz_at q10w16_5_70 13)
theorem dX12_motor_84 : decode cX12_motor 84 = .ok (.getfield 35, 3) := dz_180 (dz_at q10w16_5_70 14) rfl
theorem dX12_motor_87 : decode cX12_motor 87 = .ok (.bipush 12, 2) := dz_16 (dz_at q10w16_5_70 17) (by decide +kernel)
theorem dX12_motor_89 : decode cX12_motor 89 = .ok (.iload_n 1, 1) := dz_27 (dz_at q10w16_5_70 19)
theorem dX12_motor_9 : decode cX12_motor 9 = .ok (.ifCond .eq 25, 3) := dz_153 (dz_at q10w16_5_0 9) (by decide +kernel)
theorem dX12_motor_90 : decode cX12_motor 90 = .ok (.imul, 1) := dz_104 (dz_at q10w16_5_70 20)
theorem dX12_motor_91 : decode cX12_motor 91 = .ok (.iload 5, 2) := dz_21 (dz_at q10w16_5_70 21)
theorem dX12_motor_93 : decode cX12_motor 93 = .ok (.iadd, 1) := dz_96 (dz_at q10w16_5_70 23)
theorem dX12_motor_94 : decode cX12_motor 94 = .ok (.iaload, 1) := dz_46 (dz_at q10w16_5_94 0)
theorem dX12_motor_95 : decode cX12_motor 95 = .ok (.iload_n 2, 1) := dz_28 (dz_at q10w16_5_94 1)
theorem dX12_motor_96 : decode cX12_motor 96 = .ok (.if_icmp .eq 91, 3) := dz_159 (dz_at q10w16_5_94 2) (by decide +kernel)
theorem dX12_motor_99 : decode cX12_motor 99 = .ok (.iload 4, 2) := dz_21 (dz_at q10w16_5_94 5)
theorem q10w16_6_0 : (cX12_of.data.toList.drop 0).take 24 = [42, 3, 181, 0, 118, 42, 27, 182, 0, 168, 153, 0, 12, 28, 3, 8, 184, 0, 124, 154, 0, 10, 42, 4] := by decide +kernel
theorem q10w16_6_24 : (cX12_of.data.toList.drop 24).take 6 = [181, 0, 118, 3, 172, 28] := by decide +kernel
theorem q10w16_6_64 : (cX12_of.data.toList.drop 64).take 22 = [42, 180, 0, 20, 27, 46, 172, 42, 180, 0, 23, 27, 46, 172, 42, 180, 0, 26, 27, 46, 172, 42] := by decide +kernel
theorem q10w16_6_86 : (cX12_of.data.toList.drop 86).take 19 = [180, 0, 29, 27, 46, 172, 42, 27, 182, 0, 203, 172, 42, 180, 0, 32, 27, 46, 172] := by decide +kernel
theorem dX12_of_0 : decode cX12_of 0 = .ok (.aload_n 0, 1) := dz_42 (dz_at q10w16_6_0 0)
theorem dX12_of_1 : decode cX12_of 1 = .ok (.iconst 0, 1) := dz_3 (dz_at q10w16_6_0 1)
theorem dX12_of_10 : decode cX12_of 10 = .ok (.ifCond .eq 12, 3) := dz_153 (dz_at q10w16_6_0 10) (by decide +kernel)
theorem dX12_of_102 : decode cX12_of 102 = .ok (.iload_n 1, 1) := dz_27 (dz_at q10w16_6_86 16)
theorem dX12_of_103 : decode cX12_of 103 = .ok (.iaload, 1) := dz_46 (dz_at q10w16_6_86 17)
theorem dX12_of_104 : decode cX12_of 104 = .ok (.ireturn, 1) := dz_172 (dz_at q10w16_6_86 18)
theorem dX12_of_13 : decode cX12_of 13 = .ok (.iload_n 2, 1) := dz_28 (dz_at q10w16_6_0 13)
theorem dX12_of_14 : decode cX12_of 14 = .ok (.iconst 0, 1) := dz_3 (dz_at q10w16_6_0 14)
theorem dX12_of_15 : decode cX12_of 15 = .ok (.iconst 5, 1) := dz_8 (dz_at q10w16_6_0 15)
theorem dX12_of_16 : decode cX12_of 16 = .ok (.invokestatic 124, 3) := dz_184 (dz_at q10w16_6_0 16) rfl
theorem dX12_of_19 : decode cX12_of 19 = .ok (.ifCond .ne 10, 3) := dz_154 (dz_at q10w16_6_0 19) (by decide +kernel)
theorem dX12_of_2 : decode cX12_of 2 = .ok (.putfield 118, 3) := dz_181 (dz_at q10w16_6_0 2) rfl
theorem dX12_of_22 : decode cX12_of 22 = .ok (.aload_n 0, 1) := dz_42 (dz_at q10w16_6_0 22)
theorem dX12_of_23 : decode cX12_of 23 = .ok (.iconst 1, 1) := dz_4 (dz_at q10w16_6_0 23)
theorem dX12_of_24 : decode cX12_of 24 = .ok (.putfield 118, 3) := dz_181 (dz_at q10w16_6_24 0) rfl
theorem dX12_of_27 : decode cX12_of 27 = .ok (.iconst 0, 1) := dz_3 (dz_at q10w16_6_24 3)
theorem dX12_of_28 : decode cX12_of 28 = .ok (.ireturn, 1) := dz_172 (dz_at q10w16_6_24 4)
theorem dX12_of_29 : decode cX12_of 29 = .ok (.iload_n 2, 1) := dz_28 (dz_at q10w16_6_24 5)
theorem dX12_of_30 : decode cX12_of 30 = .ok (.tableswitch 68 0 4 #[34, 41, 48, 55, 62], 34) := by decide +kernel
theorem dX12_of_5 : decode cX12_of 5 = .ok (.aload_n 0, 1) := dz_42 (dz_at q10w16_6_0 5)
theorem dX12_of_6 : decode cX12_of 6 = .ok (.iload_n 1, 1) := dz_27 (dz_at q10w16_6_0 6)
theorem dX12_of_64 : decode cX12_of 64 = .ok (.aload_n 0, 1) := dz_42 (dz_at q10w16_6_64 0)
theorem dX12_of_65 : decode cX12_of 65 = .ok (.getfield 20, 3) := dz_180 (dz_at q10w16_6_64 1) rfl
theorem dX12_of_68 : decode cX12_of 68 = .ok (.iload_n 1, 1) := dz_27 (dz_at q10w16_6_64 4)
theorem dX12_of_69 : decode cX12_of 69 = .ok (.iaload, 1) := dz_46 (dz_at q10w16_6_64 5)
theorem dX12_of_7 : decode cX12_of 7 = .ok (.invokevirtual 168, 3) := dz_182 (dz_at q10w16_6_0 7) rfl
theorem dX12_of_70 : decode cX12_of 70 = .ok (.ireturn, 1) := dz_172 (dz_at q10w16_6_64 6)
theorem dX12_of_71 : decode cX12_of 71 = .ok (.aload_n 0, 1) := dz_42 (dz_at q10w16_6_64 7)
theorem dX12_of_72 : decode cX12_of 72 = .ok (.getfield 23, 3) := dz_180 (dz_at q10w16_6_64 8) rfl
theorem dX12_of_75 : decode cX12_of 75 = .ok (.iload_n 1, 1) := dz_27 (dz_at q10w16_6_64 11)
theorem dX12_of_76 : decode cX12_of 76 = .ok (.iaload, 1) := dz_46 (dz_at q10w16_6_64 12)
theorem dX12_of_77 : decode cX12_of 77 = .ok (.ireturn, 1) := dz_172 (dz_at q10w16_6_64 13)
theorem dX12_of_78 : decode cX12_of 78 = .ok (.aload_n 0, 1) := dz_42 (dz_at q10w16_6_64 14)
theorem dX12_of_79 : decode cX12_of 79 = .ok (.getfield 26, 3) := dz_180 (dz_at q10w16_6_64 15) rfl
theorem dX12_of_82 : decode cX12_of 82 = .ok (.iload_n 1, 1) := dz_27 (dz_at q10w16_6_64 18)
theorem dX12_of_83 : decode cX12_of 83 = .ok (.iaload, 1) := dz_46 (dz_at q10w16_6_64 19)
theorem dX12_of_84 : decode cX12_of 84 = .ok (.ireturn, 1) := dz_172 (dz_at q10w16_6_64 20)
theorem dX12_of_85 : decode cX12_of 85 = .ok (.aload_n 0, 1) := dz_42 (dz_at q10w16_6_64 21)
theorem dX12_of_86 : decode cX12_of 86 = .ok (.getfield 29, 3) := dz_180 (dz_at q10w16_6_86 0) rfl
theorem dX12_of_89 : decode cX12_of 89 = .ok (.iload_n 1, 1) := dz_27 (dz_at q10w16_6_86 3)
theorem dX12_of_90 : decode cX12_of 90 = .ok (.iaload, 1) := dz_46 (dz_at q10w16_6_86 4)
theorem dX12_of_91 : decode cX12_of 91 = .ok (.ireturn, 1) := dz_172 (dz_at q10w16_6_86 5)
theorem dX12_of_92 : decode cX12_of 92 = .ok (.aload_n 0, 1) := dz_42 (dz_at q10w16_6_86 6)
theorem dX12_of_93 : decode cX12_of 93 = .ok (.iload_n 1, 1) := dz_27 (dz_at q10w16_6_86 7)
theorem dX12_of_94 : decode cX12_of 94 = .ok (.invokevirtual 203, 3) := dz_182 (dz_at q10w16_6_86 8) rfl
theorem dX12_of_97 : decode cX12_of 97 = .ok (.ireturn, 1) := dz_172 (dz_at q10w16_6_86 11)
theorem dX12_of_98 : decode cX12_of 98 = .ok (.aload_n 0, 1) := dz_42 (dz_at q10w16_6_86 12)
theorem dX12_of_99 : decode cX12_of 99 = .ok (.getfield 32, 3) := dz_180 (dz_at q10w16_6_86 13) rfl
theorem q10w16_7_0 : (cX12_round.data.toList.drop 0).take 22 = [42, 180, 0, 20, 27, 46, 42, 180, 0, 20, 27, 46, 42, 42, 180, 0, 23, 27, 46, 182, 0, 195] := by decide +kernel
theorem q10w16_7_22 : (cX12_round.data.toList.drop 22).take 8 = [184, 0, 198, 184, 0, 191, 108, 172] := by decide +kernel
theorem dX12_round_0 : decode cX12_round 0 = .ok (.aload_n 0, 1) := dz_42 (dz_at q10w16_7_0 0)
theorem dX12_round_1 : decode cX12_round 1 = .ok (.getfield 20, 3) := dz_180 (dz_at q10w16_7_0 1) rfl
theorem dX12_round_10 : decode cX12_round 10 = .ok (.iload_n 1, 1) := dz_27 (dz_at q10w16_7_0 10)
theorem dX12_round_11 : decode cX12_round 11 = .ok (.iaload, 1) := dz_46 (dz_at q10w16_7_0 11)
theorem dX12_round_12 : decode cX12_round 12 = .ok (.aload_n 0, 1) := dz_42 (dz_at q10w16_7_0 12)
theorem dX12_round_13 : decode cX12_round 13 = .ok (.aload_n 0, 1) := dz_42 (dz_at q10w16_7_0 13)
theorem dX12_round_14 : decode cX12_round 14 = .ok (.getfield 23, 3) := dz_180 (dz_at q10w16_7_0 14) rfl
theorem dX12_round_17 : decode cX12_round 17 = .ok (.iload_n 1, 1) := dz_27 (dz_at q10w16_7_0 17)
theorem dX12_round_18 : decode cX12_round 18 = .ok (.iaload, 1) := dz_46 (dz_at q10w16_7_0 18)
theorem dX12_round_19 : decode cX12_round 19 = .ok (.invokevirtual 195, 3) := dz_182 (dz_at q10w16_7_0 19) rfl
theorem dX12_round_22 : decode cX12_round 22 = .ok (.invokestatic 198, 3) := dz_184 (dz_at q10w16_7_22 0) rfl
theorem dX12_round_25 : decode cX12_round 25 = .ok (.invokestatic 191, 3) := dz_184 (dz_at q10w16_7_22 3) rfl
theorem dX12_round_28 : decode cX12_round 28 = .ok (.idiv, 1) := dz_108 (dz_at q10w16_7_22 6)
theorem dX12_round_29 : decode cX12_round 29 = .ok (.ireturn, 1) := dz_172 (dz_at q10w16_7_22 7)
theorem dX12_round_4 : decode cX12_round 4 = .ok (.iload_n 1, 1) := dz_27 (dz_at q10w16_7_0 4)
theorem dX12_round_5 : decode cX12_round 5 = .ok (.iaload, 1) := dz_46 (dz_at q10w16_7_0 5)
theorem dX12_round_6 : decode cX12_round 6 = .ok (.aload_n 0, 1) := dz_42 (dz_at q10w16_7_0 6)
theorem dX12_round_7 : decode cX12_round 7 = .ok (.getfield 20, 3) := dz_180 (dz_at q10w16_7_0 7) rfl
theorem q10w16_8_0 : (cX12_steady.data.toList.drop 0).take 22 = [42, 180, 0, 41, 27, 46, 154, 0, 7, 3, 167, 0, 21, 42, 180, 0, 35, 16, 12, 27, 104, 42] := by decide +kernel
theorem q10w16_8_22 : (cX12_steady.data.toList.drop 22).take 10 = [180, 0, 41, 27, 46, 96, 4, 100, 46, 172] := by decide +kernel
theorem dX12_steady_0 : decode cX12_steady 0 = .ok (.aload_n 0, 1) := dz_42 (dz_at q10w16_8_0 0)
theorem dX12_steady_1 : decode cX12_steady 1 = .ok (.getfield 41, 3) := dz_180 (dz_at q10w16_8_0 1) rfl
theorem dX12_steady_10 : decode cX12_steady 10 = .ok (.goto 21, 3) := dz_167 (dz_at q10w16_8_0 10) (by decide +kernel)
theorem dX12_steady_13 : decode cX12_steady 13 = .ok (.aload_n 0, 1) := dz_42 (dz_at q10w16_8_0 13)
theorem dX12_steady_14 : decode cX12_steady 14 = .ok (.getfield 35, 3) := dz_180 (dz_at q10w16_8_0 14) rfl
theorem dX12_steady_17 : decode cX12_steady 17 = .ok (.bipush 12, 2) := dz_16 (dz_at q10w16_8_0 17) (by decide +kernel)
theorem dX12_steady_19 : decode cX12_steady 19 = .ok (.iload_n 1, 1) := dz_27 (dz_at q10w16_8_0 19)
theorem dX12_steady_20 : decode cX12_steady 20 = .ok (.imul, 1) := dz_104 (dz_at q10w16_8_0 20)
theorem dX12_steady_21 : decode cX12_steady 21 = .ok (.aload_n 0, 1) := dz_42 (dz_at q10w16_8_0 21)
theorem dX12_steady_22 : decode cX12_steady 22 = .ok (.getfield 41, 3) := dz_180 (dz_at q10w16_8_22 0) rfl
theorem dX12_steady_25 : decode cX12_steady 25 = .ok (.iload_n 1, 1) := dz_27 (dz_at q10w16_8_22 3)
theorem dX12_steady_26 : decode cX12_steady 26 = .ok (.iaload, 1) := dz_46 (dz_at q10w16_8_22 4)
theorem dX12_steady_27 : decode cX12_steady 27 = .ok (.iadd, 1) := dz_96 (dz_at q10w16_8_22 5)
theorem dX12_steady_28 : decode cX12_steady 28 = .ok (.iconst 1, 1) := dz_4 (dz_at q10w16_8_22 6)
theorem dX12_steady_29 : decode cX12_steady 29 = .ok (.isub, 1) := dz_100 (dz_at q10w16_8_22 7)
theorem dX12_steady_30 : decode cX12_steady 30 = .ok (.iaload, 1) := dz_46 (dz_at q10w16_8_22 8)
theorem dX12_steady_31 : decode cX12_steady 31 = .ok (.ireturn, 1) := dz_172 (dz_at q10w16_8_22 9)
theorem dX12_steady_4 : decode cX12_steady 4 = .ok (.iload_n 1, 1) := dz_27 (dz_at q10w16_8_0 4)
theorem dX12_steady_5 : decode cX12_steady 5 = .ok (.iaload, 1) := dz_46 (dz_at q10w16_8_0 5)
theorem dX12_steady_6 : decode cX12_steady 6 = .ok (.ifCond .ne 7, 3) := dz_154 (dz_at q10w16_8_0 6) (by decide +kernel)
theorem dX12_steady_9 : decode cX12_steady 9 = .ok (.iconst 0, 1) := dz_3 (dz_at q10w16_8_0 9)
theorem dm_X12_common : yX12_common.cls = RX12 ∧ yX12_common.cls ≠ "java/lang/invoke/MethodHandle" ∧ yX12_common.cls ≠ "java/lang/invoke/VarHandle" ∧ (parseMethodDescriptor yX12_common.desc).map (fun d => d.parameters.length) = some 2 := by decide +kernel
theorem dm_X12_lastSpeed : yX12_lastSpeed.cls = RX12 ∧ yX12_lastSpeed.cls ≠ "java/lang/invoke/MethodHandle" ∧ yX12_lastSpeed.cls ≠ "java/lang/invoke/VarHandle" ∧ (parseMethodDescriptor yX12_lastSpeed.desc).map (fun d => d.parameters.length) = some 1 := by decide +kernel
theorem dm_X12_round : yX12_round.cls = RX12 ∧ yX12_round.cls ≠ "java/lang/invoke/MethodHandle" ∧ yX12_round.cls ≠ "java/lang/invoke/VarHandle" ∧ (parseMethodDescriptor yX12_round.desc).map (fun d => d.parameters.length) = some 1 := by decide +kernel
theorem tb_0_4 (x : Int) (h0 : x ≠ 0) (h1 : x ≠ 1) (h2 : x ≠ 2) (h3 : x ≠ 3) (h4 : x ≠ 4) : x < 0 ∨ 4 < x := by omega
set_option maxRecDepth 100000 in
def wR_head (a0 : Int) (a1 : Int) (a2 : Int) (M : zM) (Q : Int → zM → Prop) : Prop := (∀ M1 : zM, M1 = zup M 0 35 0 → wR_isRing a0 M1 (fun z4 => (z4 = 0 → Q (-1) M1) ∧ (z4 ≠ 0 → wR_in a1 0 23 M1 (fun z9 => (z9 ≠ 0 → pJ1 (fun J54 => ((sI a2) = 0 → ((0 ≤ (sI a0) ∧ (sI a0) < 4) ∧ J54 (andI (M1 7 (sI a0).toNat) (xorI (shlI 1 a1) (-1))))) ∧ ((sI a2) ≠ 0 → ((0 ≤ (sI a0) ∧ (sI a0) < 4) ∧ J54 (orI (M1 7 (sI a0).toNat) (shlI 1 a1))))) (fun (x16 : Int) => ((sI x16) ≠ 0 → ((0 ≤ (sI a0) ∧ (sI a0) < 4) ∧ (∀ M21 : zM, M21 = zup M1 7 (sI a0).toNat x16 → wR_bitCount x16 M21 (fun z24 => Q z24 M21)))) ∧ ((sI x16) = 0 → Q (-1) M1))) ∧ (z9 = 0 → Q (-1) M1)))))
set_option maxHeartbeats 4000000 in
set_option maxRecDepth 100000 in
theorem cR_head (l : Launch) (D : va_G) (dA : Nat → ClassId) (b : Nat) (M : zM) (a0 : Int) (a1 : Int) (a2 : Int)  (Q : Int → zM → Prop) (h : wR_head a0 a1 a2 M Q) : Met l yX12_head (.code yX12_head cX12_head 5 (some .int) :: zt) (z_rm 2) (va_Pc [.ref (b + 0), .int (iI a0), .int (iI a1), .int (iI a2)] (wPre D dA vwCl (z_tys dA) wR nR b M)) (va_Qi (wQi Q) (zB D dA vwCl wR nR b) (zA nR b)) 0 0 (zA nR b) := by
  unfold wR_head at h
  refine Met.ofW (cc := cX12_head) (maxL := 5) (ret := (some .int)) (by decide) rfl ?_
  intro p e s m args below meth c s₁ B hml hv
  obtain ⟨hargs, hS, hK⟩ := hv
  have hx := B.exec
  have hb := B.bytes
  have hr := B.returns
  have hts := atoms_spec (ws := .code yX12_head cX12_head 5 (some .int) :: zt) B.pre
  have hown : s.vm.findClass RX12 = some m.cls := findClass_of_methodNamed B.named
  have hlocks := B.notSynchronized
  have hS0 : va_S (zA nR b) s.heap s.heap [] := va_S.rf
  have hl := lv_entry ([.ref (b + 0), .int (iI a0), .int (iI a1), .int (iI a2)]) (n := 5) (Nat.le_of_ble_eq_true rfl)
  have hent : entryFrame m args 5 = F0 m 0 ((lg_sl ([.ref (b + 0), .int (iI a0), .int (iI a1), .int (iI a2)]) ++ List.replicate (5 - (lg_sl ([.ref (b + 0), .int (iI a0), .int (iI a1), .int (iI a2)])).length) Slot.unset).toArray) [] := by rw [hargs]; exact lg_entry_eq m ([.ref (b + 0), .int (iI a0), .int (iI a1), .int (iI a2)]) 5
  rw [hent]
  generalize (lg_sl ([.ref (b + 0), .int (iI a0), .int (iI a1), .int (iI a2)]) ++ List.replicate (5 - (lg_sl ([.ref (b + 0), .int (iI a0), .int (iI a1), .int (iI a2)])).length) Slot.unset).toArray = ls at hl ⊢
  have hl : lv_has ls 5 [(0, .ref (b + 0)), (1, .int (iI a0)), (2, .int (iI a1)), (3, .int (iI a2))] := hl
  refine lv_aload_n hx hb dX12_head_0 rfl (lv_at hl 0 rfl) ?_
  refine z_iconst hx hb dX12_head_1 ?_
  refine w_puti hx hb hts (z_memU u12) tyX12 tyX12_ok nmX12 hown hK.1 hS hS0 f12_35 (by decide) (zkd_of (rfl : zcd wR 0 = 50) rfl) (Or.inl (hts _ (z_mem k979))) rfl (z := 0) (by decide +kernel) dX12_head_2 (fun H locs hS hS0 => ?_)
  obtain ⟨M1, e2⟩ : ∃ M1 : zM, M1 = zup M 0 35 0 := ⟨_, rfl⟩
  rw [← e2] at hS
  have h := h M1 e2
  refine lv_aload_n hx hb dX12_head_5 rfl (lv_at hl 0 rfl) ?_
  refine lv_iload_n hx hb dX12_head_6 rfl (lv_at hl 1 rfl) ?_
  refine w_callz (va_runV (As := [.int (iI a0)]) (rest := []) ⟨hx, hb, hml, hown, hts⟩ (cR_isRing l D dA b M1 a0 _ h) (cwV 1 hts (z_gV k1097 k1098 k1397 k14 k1099) rfl rfl rfl dm_X12_isRing ⟨Nat.le_of_ble_eq_true rfl, Nat.le_of_ble_eq_true rfl⟩) ⟨wPre_blind, (w_recv hS hK.1 (by decide) (zkd_of (rfl : zcd wR 0 = 50) rfl) (by decide) (rfl : vwCl[12]? = some (RX12, TX12, 50))), w_pre hS hK⟩ rfl rfl hl.1 rfl (lv_room (Nat.le_of_ble_eq_true rfl)) dX12_head_7 ⟨Nat.le_refl _, Nat.le_refl _⟩) hS0 (fun z4 M3 H locs r5 h hS hS0 => ?_)
  obtain ⟨e6, h⟩ := h
  rw [e6] at hS
  refine w_if_eq (tgt := 23) hx hb (sI_01 r5) dX12_head_10 (by decide) (fun c7 => ?_) (fun c7 => ?_)
  · skip
    have h := h.1 c7
    refine z_iconst hx hb dX12_head_23 ?_
    exact w_iret hx hb hr hlocks hS hS0 (sI_of (by decide)) h dX12_head_24
  · skip
    have h := h.2 c7
    refine lv_iload_n hx hb dX12_head_13 rfl (lv_at hl 2 rfl) ?_
    refine z_iconst hx hb dX12_head_14 ?_
    refine z_bipush hx hb (by decide) dX12_head_15 ?_
    refine w_callz (va_runS (As := [.int (iI a1), .int (iI 0), .int (iI 23)]) (rest := []) ⟨hx, hb, hml, hown, hts⟩ (cR_in l D dA b M1 a1 0 23 _ h) (va_cwS 3 hts (z_gS k1083 k1084 k14 k1085) rfl rfl rfl dm_X12_in.2 ⟨Nat.le_of_ble_eq_true rfl, Nat.le_of_ble_eq_true rfl⟩) ⟨wPre_blind, w_pre hS hK⟩ rfl rfl hl.1 rfl (lv_room (Nat.le_of_ble_eq_true rfl)) dX12_head_17 ⟨Nat.le_refl _, Nat.le_refl _⟩) hS0 (fun z9 M8 H locs r10 h hS hS0 => ?_)
    obtain ⟨e11, h⟩ := h
    rw [e11] at hS
    refine w_if_ne (tgt := 25) hx hb (sI_01 r10) dX12_head_20 (by decide) (fun c12 => ?_) (fun c12 => ?_)
    · skip
      have h := h.1 c12
      refine lv_iload_n hx hb dX12_head_25 rfl (lv_at hl 3 rfl) ?_
      obtain ⟨J54, B18, h⟩ := h
      have L17 : ∀ (x16 : Int) (H : Heap) (locs : List Loc) (ls : Array Slot), J54 x16 → zR D dA vwCl wR nR b M1 H → va_S (zA nR b) s.heap H locs → lv_has ls 5 [(0, .ref (b + 0)), (1, .int (iI a0))] → W p l e (headSpec (.code yX12_head cX12_head 5 (some .int) :: zt) (z_rm 2)).room s m args below meth c H locs 0 0 (MQ below (va_Qi (wQi Q) (zB D dA vwCl wR nR b) (zA nR b)) args s 0 0 (zA nR b)) (F0 m 54 ls [.int (iI x16)]) := by
        intro x16 H locs ls h hS hS0 hl
        have h := B18 x16 h
        refine lv_istore (lv' := [(4, .int (iI x16)), (0, .ref (b + 0)), (1, .int (iI a0))]) hx hb dX12_head_54 hl (by decide) rfl (fun ls hl => ?_)
        refine lv_iload hx hb dX12_head_56 (lv_at hl 0 rfl) ?_
        refine w_if_ne (tgt := 63) hx hb rfl dX12_head_58 (by decide) (fun c19 => ?_) (fun c19 => ?_)
        · skip
          have h := h.1 c19
          refine lv_aload_n hx hb dX12_head_63 rfl (lv_at hl 1 rfl) ?_
          refine w_getr (j2 := 7) hx hb hts (z_memU u12) hown hK.1 hS f12_8 (by decide) (zkd_of (rfl : zcd wR 0 = 50) rfl) (zrf_of (rfl : zcd wR 0 = 50) rfl) (Or.inl (hts _ (z_mem k952))) dX12_head_64 ?_
          refine lv_iload_n hx hb dX12_head_67 rfl (lv_at hl 2 rfl) ?_
          refine lv_iload hx hb dX12_head_68 (lv_at hl 0 rfl) ?_
          obtain ⟨o20, h⟩ := h
          refine w_iast (z := x16) (n := 4) (i := (sI a0)) hx hb hK.1 (t0 := 0) rfl hS hS0 (by decide) (zkd_of (rfl : zcd wR 7 = 57) rfl) (zln_of (rfl : zcd wR 7 = 57) rfl) rfl o20.1 o20.2 (by decide) dX12_head_70 (fun H locs hS hS0 => ?_)
          obtain ⟨M21, e22⟩ : ∃ M21 : zM, M21 = zup M1 7 (sI a0).toNat x16 := ⟨_, rfl⟩
          rw [← e22] at hS
          have h := h M21 e22
          refine lv_iload hx hb dX12_head_71 (lv_at hl 0 rfl) ?_
          refine w_calli (va_runS (As := [.int (iI x16)]) (rest := []) ⟨hx, hb, hml, hown, hts⟩ (cR_bitCount l D dA b M21 x16 _ h) (va_cwS 1 hts (z_gS k1108 k433 k17 k434) rfl rfl rfl dm_J6_bitCount_0f7a4.2 ⟨Nat.le_of_ble_eq_true rfl, Nat.le_of_ble_eq_true rfl⟩) ⟨wPre_blind, w_pre hS hK⟩ rfl rfl hl.1 rfl (lv_room (Nat.le_of_ble_eq_true rfl)) dX12_head_73 ⟨Nat.le_refl _, Nat.le_refl _⟩) hS0 (fun z24 M23 H locs r25 h hS hS0 => ?_)
          obtain ⟨e26, h⟩ := h
          rw [e26] at hS
          exact w_iret hx hb hr hlocks hS hS0 (sI_of r25) h dX12_head_76
        · skip
          have h := h.2 c19
          refine z_iconst hx hb dX12_head_61 ?_
          exact w_iret hx hb hr hlocks hS hS0 (sI_of (by decide)) h dX12_head_62
      refine w_if_eq (tgt := 42) hx hb rfl dX12_head_26 (by decide) (fun c27 => ?_) (fun c27 => ?_)
      · skip
        have h := h.1 c27
        refine lv_aload_n hx hb dX12_head_42 rfl (lv_at hl 0 rfl) ?_
        refine w_getr (j2 := 7) hx hb hts (z_memU u12) hown hK.1 hS f12_8 (by decide) (zkd_of (rfl : zcd wR 0 = 50) rfl) (zrf_of (rfl : zcd wR 0 = 50) rfl) (Or.inl (hts _ (z_mem k952))) dX12_head_43 ?_
        refine lv_iload_n hx hb dX12_head_46 rfl (lv_at hl 1 rfl) ?_
        obtain ⟨o28, h⟩ := h
        refine w_iald (n := 4) (i := (sI a0)) hx hb hK.1 (t0 := 0) rfl hS (by decide) (zkd_of (rfl : zcd wR 7 = 57) rfl) (zln_of (rfl : zcd wR 7 = 57) rfl) rfl o28.1 o28.2 (by decide) dX12_head_47 ?_
        refine z_iconst hx hb dX12_head_48 ?_
        refine lv_iload_n hx hb dX12_head_49 rfl (lv_at hl 2 rfl) ?_
        refine w_ishl hx hb dX12_head_50 ?_
        refine z_iconst hx hb dX12_head_51 ?_
        refine w_ixor hx hb dX12_head_52 ?_
        refine w_iand hx hb dX12_head_53 ?_
        exact L17 (andI (M1 7 (sI a0).toNat) (xorI (shlI 1 a1) (-1))) _ _ _ h hS hS0 (lv_sub hl [0, 1] rfl)
      · skip
        have h := h.2 c27
        refine lv_aload_n hx hb dX12_head_29 rfl (lv_at hl 0 rfl) ?_
        refine w_getr (j2 := 7) hx hb hts (z_memU u12) hown hK.1 hS f12_8 (by decide) (zkd_of (rfl : zcd wR 0 = 50) rfl) (zrf_of (rfl : zcd wR 0 = 50) rfl) (Or.inl (hts _ (z_mem k952))) dX12_head_30 ?_
        refine lv_iload_n hx hb dX12_head_33 rfl (lv_at hl 1 rfl) ?_
        obtain ⟨o29, h⟩ := h
        refine w_iald (n := 4) (i := (sI a0)) hx hb hK.1 (t0 := 0) rfl hS (by decide) (zkd_of (rfl : zcd wR 7 = 57) rfl) (zln_of (rfl : zcd wR 7 = 57) rfl) rfl o29.1 o29.2 (by decide) dX12_head_34 ?_
        refine z_iconst hx hb dX12_head_35 ?_
        refine lv_iload_n hx hb dX12_head_36 rfl (lv_at hl 2 rfl) ?_
        refine w_ishl hx hb dX12_head_37 ?_
        refine w_ior hx hb dX12_head_38 ?_
        refine lv_goto (tgt := 54) hx hb dX12_head_39 (by decide) ?_
        exact L17 (orI (M1 7 (sI a0).toNat) (shlI 1 a1)) _ _ _ h hS hS0 (lv_sub hl [0, 1] rfl)
    · skip
      have h := h.2 c12
      refine z_iconst hx hb dX12_head_23 ?_
      exact w_iret hx hb hr hlocks hS hS0 (sI_of (by decide)) h dX12_head_24

set_option maxRecDepth 100000 in
def wR_motor (a0 : Int) (a1 : Int) (a2 : Int) (M : zM) (Q : Int → zM → Prop) : Prop := (∀ M1 : zM, M1 = zup M 0 35 0 → wR_isMotor a0 M1 (fun z4 => (z4 = 0 → Q 0 M1) ∧ (z4 ≠ 0 → wR_in a1 0 5000 M1 (fun z9 => (z9 = 0 → Q 0 M1) ∧ (z9 ≠ 0 → wR_in a2 (-9) 9 M1 (fun z14 => (z14 ≠ 0 → ((0 ≤ (sI a0) ∧ (sI a0) < 2) ∧ pL1 (fun K47 x19 => pJ0 (fun J76 => ((sI (M1 11 (sI a0).toNat)) ≤ (sI x19) → J76) ∧ ((sI x19) < (sI (M1 11 (sI a0).toNat)) → ((0 ≤ (sI ((12 * a0) + x19)) ∧ (sI ((12 * a0) + x19)) < 24) ∧ ((sI a1) ≤ (sI (M1 9 (sI ((12 * a0) + x19)).toNat)) → J76) ∧ ((sI (M1 9 (sI ((12 * a0) + x19)).toNat)) < (sI a1) → K47 (x19 + 1))))) (wJ0 (fun J187 => pJ0 (fun J99 => ((sI x19) = (sI (M1 11 (sI a0).toNat)) → J99) ∧ ((sI x19) ≠ (sI (M1 11 (sI a0).toNat)) → ((0 ≤ (sI ((12 * a0) + x19)) ∧ (sI ((12 * a0) + x19)) < 24) ∧ ((sI (M1 9 (sI ((12 * a0) + x19)).toNat)) = (sI a1) → J187 M1) ∧ ((sI (M1 9 (sI ((12 * a0) + x19)).toNat)) ≠ (sI a1) → J99)))) (((sI (M1 11 (sI a0).toNat)) ≠ 12 → wL1 (fun K112 x102 M103 => ((sI x102) ≤ (sI x19) → ((0 ≤ (sI a0) ∧ (sI a0) < 2) ∧ ((0 ≤ (sI a0) ∧ (sI a0) < 2) ∧ (∀ M114 : zM, M114 = zup M103 11 (sI a0).toNat ((M103 11 (sI a0).toNat) + 1) → J187 M114)))) ∧ ((sI x19) < (sI x102) → ((0 ≤ (sI (((12 * a0) + x102) - 1)) ∧ (sI (((12 * a0) + x102) - 1)) < 24) ∧ ((0 ≤ (sI ((12 * a0) + x102)) ∧ (sI ((12 * a0) + x102)) < 24) ∧ (∀ M118 : zM, M118 = zup M103 9 (sI ((12 * a0) + x102)).toNat (M103 9 (sI (((12 * a0) + x102) - 1)).toNat) → ((0 ≤ (sI (((12 * a0) + x102) - 1)) ∧ (sI (((12 * a0) + x102) - 1)) < 24) ∧ ((0 ≤ (sI ((12 * a0) + x102)) ∧ (sI ((12 * a0) + x102)) < 24) ∧ (∀ M122 : zM, M122 = zup M118 10 (sI ((12 * a0) + x102)).toNat (M118 10 (sI (((12 * a0) + x102) - 1)).toNat) → K112 (x102 + (-1)) M122)))))))) (M1 11 (sI a0).toNat) M1) ∧ ((sI (M1 11 (sI a0).toNat)) = 12 → Q 0 M1))) (fun (M87 : zM) => ((0 ≤ (sI ((12 * a0) + x19)) ∧ (sI ((12 * a0) + x19)) < 24) ∧ (∀ M91 : zM, M91 = zup M87 9 (sI ((12 * a0) + x19)).toNat a1 → ((0 ≤ (sI ((12 * a0) + x19)) ∧ (sI ((12 * a0) + x19)) < 24) ∧ (∀ M94 : zM, M94 = zup M91 10 (sI ((12 * a0) + x19)).toNat a2 → Q 1 M94))))))) 0)) ∧ (z14 = 0 → Q 0 M1)))))))
set_option maxHeartbeats 4000000 in
set_option maxRecDepth 100000 in
theorem cR_motor (l : Launch) (D : va_G) (dA : Nat → ClassId) (b : Nat) (M : zM) (a0 : Int) (a1 : Int) (a2 : Int)  (Q : Int → zM → Prop) (h : wR_motor a0 a1 a2 M Q) : Met l yX12_motor (.code yX12_motor cX12_motor 7 (some .boolean) :: zt) (z_rm 1) (va_Pc [.ref (b + 0), .int (iI a0), .int (iI a1), .int (iI a2)] (wPre D dA vwCl (z_tys dA) wR nR b M)) (va_Qi (wQz Q) (zB D dA vwCl wR nR b) (zA nR b)) 0 0 (zA nR b) := by
  unfold wR_motor at h
  refine Met.ofW (cc := cX12_motor) (maxL := 7) (ret := (some .boolean)) (by decide) rfl ?_
  intro p e s m args below meth c s₁ B hml hv
  obtain ⟨hargs, hS, hK⟩ := hv
  have hx := B.exec
  have hb := B.bytes
  have hr := B.returns
  have hts := atoms_spec (ws := .code yX12_motor cX12_motor 7 (some .boolean) :: zt) B.pre
  have hown : s.vm.findClass RX12 = some m.cls := findClass_of_methodNamed B.named
  have hlocks := B.notSynchronized
  have hS0 : va_S (zA nR b) s.heap s.heap [] := va_S.rf
  have hl := lv_entry ([.ref (b + 0), .int (iI a0), .int (iI a1), .int (iI a2)]) (n := 7) (Nat.le_of_ble_eq_true rfl)
  have hent : entryFrame m args 7 = F0 m 0 ((lg_sl ([.ref (b + 0), .int (iI a0), .int (iI a1), .int (iI a2)]) ++ List.replicate (7 - (lg_sl ([.ref (b + 0), .int (iI a0), .int (iI a1), .int (iI a2)])).length) Slot.unset).toArray) [] := by rw [hargs]; exact lg_entry_eq m ([.ref (b + 0), .int (iI a0), .int (iI a1), .int (iI a2)]) 7
  rw [hent]
  generalize (lg_sl ([.ref (b + 0), .int (iI a0), .int (iI a1), .int (iI a2)]) ++ List.replicate (7 - (lg_sl ([.ref (b + 0), .int (iI a0), .int (iI a1), .int (iI a2)])).length) Slot.unset).toArray = ls at hl ⊢
  have hl : lv_has ls 7 [(0, .ref (b + 0)), (1, .int (iI a0)), (2, .int (iI a1)), (3, .int (iI a2))] := hl
  refine lv_aload_n hx hb dX12_motor_0 rfl (lv_at hl 0 rfl) ?_
  refine z_iconst hx hb dX12_motor_1 ?_
  refine w_puti hx hb hts (z_memU u12) tyX12 tyX12_ok nmX12 hown hK.1 hS hS0 f12_35 (by decide) (zkd_of (rfl : zcd wR 0 = 50) rfl) (Or.inl (hts _ (z_mem k979))) rfl (z := 0) (by decide +kernel) dX12_motor_2 (fun H locs hS hS0 => ?_)
  obtain ⟨M1, e2⟩ : ∃ M1 : zM, M1 = zup M 0 35 0 := ⟨_, rfl⟩
  rw [← e2] at hS
  have h := h M1 e2
  refine lv_iload_n hx hb dX12_motor_5 rfl (lv_at hl 1 rfl) ?_
  refine w_callz (va_runS (As := [.int (iI a0)]) (rest := []) ⟨hx, hb, hml, hown, hts⟩ (cR_isMotor l D dA b M1 a0 _ h) (va_cwS 1 hts (z_gS k1090 k1091 k14 k1092) rfl rfl rfl dm_X12_isMotor.2 ⟨Nat.le_of_ble_eq_true rfl, Nat.le_of_ble_eq_true rfl⟩) ⟨wPre_blind, w_pre hS hK⟩ rfl rfl hl.1 rfl (lv_room (Nat.le_of_ble_eq_true rfl)) dX12_motor_6 ⟨Nat.le_refl _, Nat.le_refl _⟩) hS0 (fun z4 M3 H locs r5 h hS hS0 => ?_)
  obtain ⟨e6, h⟩ := h
  rw [e6] at hS
  refine w_if_eq (tgt := 34) hx hb (sI_01 r5) dX12_motor_9 (by decide) (fun c7 => ?_) (fun c7 => ?_)
  · skip
    have h := h.1 c7
    refine z_iconst hx hb dX12_motor_34 ?_
    exact w_zret hx hb hr hlocks hS hS0 (sI_of (by decide)) (by decide) h dX12_motor_35
  · skip
    have h := h.2 c7
    refine lv_iload_n hx hb dX12_motor_12 rfl (lv_at hl 2 rfl) ?_
    refine z_iconst hx hb dX12_motor_13 ?_
    refine z_sipush hx hb (by decide) dX12_motor_14 ?_
    refine w_callz (va_runS (As := [.int (iI a1), .int (iI 0), .int (iI 5000)]) (rest := []) ⟨hx, hb, hml, hown, hts⟩ (cR_in l D dA b M1 a1 0 5000 _ h) (va_cwS 3 hts (z_gS k1083 k1084 k14 k1085) rfl rfl rfl dm_X12_in.2 ⟨Nat.le_of_ble_eq_true rfl, Nat.le_of_ble_eq_true rfl⟩) ⟨wPre_blind, w_pre hS hK⟩ rfl rfl hl.1 rfl (lv_room (Nat.le_of_ble_eq_true rfl)) dX12_motor_17 ⟨Nat.le_refl _, Nat.le_refl _⟩) hS0 (fun z9 M8 H locs r10 h hS hS0 => ?_)
    obtain ⟨e11, h⟩ := h
    rw [e11] at hS
    refine w_if_eq (tgt := 34) hx hb (sI_01 r10) dX12_motor_20 (by decide) (fun c12 => ?_) (fun c12 => ?_)
    · skip
      have h := h.1 c12
      refine z_iconst hx hb dX12_motor_34 ?_
      exact w_zret hx hb hr hlocks hS hS0 (sI_of (by decide)) (by decide) h dX12_motor_35
    · skip
      have h := h.2 c12
      refine lv_iload_n hx hb dX12_motor_23 rfl (lv_at hl 3 rfl) ?_
      refine z_bipush hx hb (by decide) dX12_motor_24 ?_
      refine z_bipush hx hb (by decide) dX12_motor_26 ?_
      refine w_callz (va_runS (As := [.int (iI a2), .int (iI (-9)), .int (iI 9)]) (rest := []) ⟨hx, hb, hml, hown, hts⟩ (cR_in l D dA b M1 a2 (-9) 9 _ h) (va_cwS 3 hts (z_gS k1083 k1084 k14 k1085) rfl rfl rfl dm_X12_in.2 ⟨Nat.le_of_ble_eq_true rfl, Nat.le_of_ble_eq_true rfl⟩) ⟨wPre_blind, w_pre hS hK⟩ rfl rfl hl.1 rfl (lv_room (Nat.le_of_ble_eq_true rfl)) dX12_motor_28 ⟨Nat.le_refl _, Nat.le_refl _⟩) hS0 (fun z14 M13 H locs r15 h hS hS0 => ?_)
      obtain ⟨e16, h⟩ := h
      rw [e16] at hS
      refine w_if_ne (tgt := 36) hx hb (sI_01 r15) dX12_motor_31 (by decide) (fun c17 => ?_) (fun c17 => ?_)
      · skip
        have h := h.1 c17
        refine lv_aload_n hx hb dX12_motor_36 rfl (lv_at hl 0 rfl) ?_
        refine w_getr (j2 := 11) hx hb hts (z_memU u12) hown hK.1 hS f12_13 (by decide) (zkd_of (rfl : zcd wR 0 = 50) rfl) (zrf_of (rfl : zcd wR 0 = 50) rfl) (Or.inl (hts _ (z_mem k957))) dX12_motor_37 ?_
        refine lv_iload_n hx hb dX12_motor_40 rfl (lv_at hl 1 rfl) ?_
        obtain ⟨o18, h⟩ := h
        refine w_iald (n := 2) (i := (sI a0)) hx hb hK.1 (t0 := 0) rfl hS (by decide) (zkd_of (rfl : zcd wR 11 = 61) rfl) (zln_of (rfl : zcd wR 11 = 61) rfl) rfl o18.1 o18.2 (by decide) dX12_motor_41 ?_
        refine lv_istore (lv' := [(4, .int (iI (M1 11 (sI a0).toNat))), (0, .ref (b + 0)), (1, .int (iI a0)), (2, .int (iI a1)), (3, .int (iI a2))]) hx hb dX12_motor_42 hl (by decide) rfl (fun ls hl => ?_)
        refine z_iconst hx hb dX12_motor_44 ?_
        refine lv_istore (lv' := [(5, .int (iI 0)), (4, .int (iI (M1 11 (sI a0).toNat))), (0, .ref (b + 0)), (1, .int (iI a0)), (2, .int (iI a1)), (3, .int (iI a2))]) hx hb dX12_motor_45 hl (by decide) rfl (fun ls hl => ?_)
        obtain ⟨I20, ⟨n21, h22⟩, h23⟩ := h
        have L24 : ∀ (n25 : Nat) (x19 : Int) (H : Heap) (locs : List Loc) (ls : Array Slot), I20 n25 x19 → zR D dA vwCl wR nR b M1 H → va_S (zA nR b) s.heap H locs → lv_has ls 7 [(0, .ref (b + 0)), (1, .int (iI a0)), (2, .int (iI a1)), (3, .int (iI a2)), (4, .int (iI (M1 11 (sI a0).toNat))), (5, .int (iI x19))] → W p l e (headSpec (.code yX12_motor cX12_motor 7 (some .boolean) :: zt) (z_rm 1)).room s m args below meth c H locs 0 0 (MQ below (va_Qi (wQz Q) (zB D dA vwCl wR nR b) (zA nR b)) args s 0 0 (zA nR b)) (F0 m 47 ls []) := by
          intro n25
          induction n25 using Nat.strongRecOn with
          | ind n25 i26 =>
            intro x19 H locs ls h hS hS0 hl
            have h := h23 n25 x19 h
            refine lv_iload hx hb dX12_motor_47 (lv_at hl 5 rfl) ?_
            refine lv_iload hx hb dX12_motor_49 (lv_at hl 4 rfl) ?_
            obtain ⟨J76, B33, h⟩ := h
            have L32 : ∀ (H : Heap) (locs : List Loc) (ls : Array Slot), J76 → zR D dA vwCl wR nR b M1 H → va_S (zA nR b) s.heap H locs → lv_has ls 7 [(0, .ref (b + 0)), (1, .int (iI a0)), (2, .int (iI a1)), (3, .int (iI a2)), (4, .int (iI (M1 11 (sI a0).toNat))), (5, .int (iI x19))] → W p l e (headSpec (.code yX12_motor cX12_motor 7 (some .boolean) :: zt) (z_rm 1)).room s m args below meth c H locs 0 0 (MQ below (va_Qi (wQz Q) (zB D dA vwCl wR nR b) (zA nR b)) args s 0 0 (zA nR b)) (F0 m 76 ls []) := by
              intro  H locs ls h hS hS0 hl
              have h := B33 h
              refine lv_iload hx hb dX12_motor_76 (lv_at hl 5 rfl) ?_
              refine lv_iload hx hb dX12_motor_78 (lv_at hl 4 rfl) ?_
              obtain ⟨J187, B89, h⟩ := h
              have L88 : ∀ (M87 : zM) (H : Heap) (locs : List Loc) (ls : Array Slot), J187 M87 → zR D dA vwCl wR nR b M87 H → va_S (zA nR b) s.heap H locs → lv_has ls 7 [(0, .ref (b + 0)), (1, .int (iI a0)), (2, .int (iI a1)), (3, .int (iI a2)), (5, .int (iI x19))] → W p l e (headSpec (.code yX12_motor cX12_motor 7 (some .boolean) :: zt) (z_rm 1)).room s m args below meth c H locs 0 0 (MQ below (va_Qi (wQz Q) (zB D dA vwCl wR nR b) (zA nR b)) args s 0 0 (zA nR b)) (F0 m 187 ls []) := by
                intro M87 H locs ls h hS hS0 hl
                have h := B89 M87 h
                refine lv_aload_n hx hb dX12_motor_187 rfl (lv_at hl 0 rfl) ?_
                refine w_getr (j2 := 9) hx hb hts (z_memU u12) hown hK.1 hS f12_11 (by decide) (zkd_of (rfl : zcd wR 0 = 50) rfl) (zrf_of (rfl : zcd wR 0 = 50) rfl) (Or.inl (hts _ (z_mem k955))) dX12_motor_188 ?_
                refine z_bipush hx hb (by decide) dX12_motor_191 ?_
                refine lv_iload_n hx hb dX12_motor_193 rfl (lv_at hl 1 rfl) ?_
                refine z_imul hx hb dX12_motor_194 ?_
                refine lv_iload hx hb dX12_motor_195 (lv_at hl 4 rfl) ?_
                refine z_iadd hx hb dX12_motor_197 ?_
                refine lv_iload_n hx hb dX12_motor_198 rfl (lv_at hl 2 rfl) ?_
                obtain ⟨o90, h⟩ := h
                refine w_iast (z := a1) (n := 24) (i := (sI ((12 * a0) + x19))) hx hb hK.1 (t0 := 0) rfl hS hS0 (by decide) (zkd_of (rfl : zcd wR 9 = 59) rfl) (zln_of (rfl : zcd wR 9 = 59) rfl) rfl o90.1 o90.2 (by decide) dX12_motor_199 (fun H locs hS hS0 => ?_)
                obtain ⟨M91, e92⟩ : ∃ M91 : zM, M91 = zup M87 9 (sI ((12 * a0) + x19)).toNat a1 := ⟨_, rfl⟩
                rw [← e92] at hS
                have h := h M91 e92
                refine lv_aload_n hx hb dX12_motor_200 rfl (lv_at hl 0 rfl) ?_
                refine w_getr (j2 := 10) hx hb hts (z_memU u12) hown hK.1 hS f12_12 (by decide) (zkd_of (rfl : zcd wR 0 = 50) rfl) (zrf_of (rfl : zcd wR 0 = 50) rfl) (Or.inl (hts _ (z_mem k956))) dX12_motor_201 ?_
                refine z_bipush hx hb (by decide) dX12_motor_204 ?_
                refine lv_iload_n hx hb dX12_motor_206 rfl (lv_at hl 1 rfl) ?_
                refine z_imul hx hb dX12_motor_207 ?_
                refine lv_iload hx hb dX12_motor_208 (lv_at hl 4 rfl) ?_
                refine z_iadd hx hb dX12_motor_210 ?_
                refine lv_iload_n hx hb dX12_motor_211 rfl (lv_at hl 3 rfl) ?_
                obtain ⟨o93, h⟩ := h
                refine w_iast (z := a2) (n := 24) (i := (sI ((12 * a0) + x19))) hx hb hK.1 (t0 := 0) rfl hS hS0 (by decide) (zkd_of (rfl : zcd wR 10 = 60) rfl) (zln_of (rfl : zcd wR 10 = 60) rfl) rfl o93.1 o93.2 (by decide) dX12_motor_212 (fun H locs hS hS0 => ?_)
                obtain ⟨M94, e95⟩ : ∃ M94 : zM, M94 = zup M91 10 (sI ((12 * a0) + x19)).toNat a2 := ⟨_, rfl⟩
                rw [← e95] at hS
                have h := h M94 e95
                refine z_iconst hx hb dX12_motor_213 ?_
                exact w_zret hx hb hr hlocks hS hS0 (sI_of (by decide)) (by decide) h dX12_motor_214
              obtain ⟨J99, B100, h⟩ := h
              have L99 : ∀ (H : Heap) (locs : List Loc) (ls : Array Slot), J99 → zR D dA vwCl wR nR b M1 H → va_S (zA nR b) s.heap H locs → lv_has ls 7 [(0, .ref (b + 0)), (1, .int (iI a0)), (2, .int (iI a1)), (3, .int (iI a2)), (4, .int (iI (M1 11 (sI a0).toNat))), (5, .int (iI x19))] → W p l e (headSpec (.code yX12_motor cX12_motor 7 (some .boolean) :: zt) (z_rm 1)).room s m args below meth c H locs 0 0 (MQ below (va_Qi (wQz Q) (zB D dA vwCl wR nR b) (zA nR b)) args s 0 0 (zA nR b)) (F0 m 99 ls []) := by
                intro  H locs ls h hS hS0 hl
                have h := B100 h
                refine lv_iload hx hb dX12_motor_99 (lv_at hl 4 rfl) ?_
                refine z_bipush hx hb (by decide) dX12_motor_101 ?_
                refine w_icmp_ne (tgt := 108) hx hb rfl (sI_of (by decide)) dX12_motor_103 (by decide) (fun c101 => ?_) (fun c101 => ?_)
                · skip
                  have h := h.1 c101
                  refine lv_iload hx hb dX12_motor_108 (lv_at hl 4 rfl) ?_
                  refine lv_istore (lv' := [(6, .int (iI (M1 11 (sI a0).toNat))), (0, .ref (b + 0)), (1, .int (iI a0)), (2, .int (iI a1)), (3, .int (iI a2)), (4, .int (iI (M1 11 (sI a0).toNat))), (5, .int (iI x19))]) hx hb dX12_motor_110 hl (by decide) rfl (fun ls hl => ?_)
                  obtain ⟨I104, ⟨n105, h106⟩, h107⟩ := h
                  have L108 : ∀ (n109 : Nat) (x102 : Int) (M103 : zM) (H : Heap) (locs : List Loc) (ls : Array Slot), I104 n109 x102 M103 → zR D dA vwCl wR nR b M103 H → va_S (zA nR b) s.heap H locs → lv_has ls 7 [(0, .ref (b + 0)), (1, .int (iI a0)), (2, .int (iI a1)), (3, .int (iI a2)), (5, .int (iI x19)), (6, .int (iI x102))] → W p l e (headSpec (.code yX12_motor cX12_motor 7 (some .boolean) :: zt) (z_rm 1)).room s m args below meth c H locs 0 0 (MQ below (va_Qi (wQz Q) (zB D dA vwCl wR nR b) (zA nR b)) args s 0 0 (zA nR b)) (F0 m 112 ls []) := by
                    intro n109
                    induction n109 using Nat.strongRecOn with
                    | ind n109 i110 =>
                      intro x102 M103 H locs ls h hS hS0 hl
                      have h := h107 n109 x102 M103 h
                      refine lv_iload hx hb dX12_motor_112 (lv_at hl 5 rfl) ?_
                      refine lv_iload hx hb dX12_motor_114 (lv_at hl 4 rfl) ?_
                      refine w_icmp_le (tgt := 177) hx hb rfl rfl dX12_motor_116 (by decide) (fun c111 => ?_) (fun c111 => ?_)
                      · skip
                        have h := h.1 c111
                        refine lv_aload_n hx hb dX12_motor_177 rfl (lv_at hl 0 rfl) ?_
                        refine w_getr (j2 := 11) hx hb hts (z_memU u12) hown hK.1 hS f12_13 (by decide) (zkd_of (rfl : zcd wR 0 = 50) rfl) (zrf_of (rfl : zcd wR 0 = 50) rfl) (Or.inl (hts _ (z_mem k957))) dX12_motor_178 ?_
                        refine lv_iload_n hx hb dX12_motor_181 rfl (lv_at hl 1 rfl) ?_
                        refine lv_dup2_11 hx hb dX12_motor_182 rfl rfl ?_
                        obtain ⟨o112, h⟩ := h
                        refine w_iald (n := 2) (i := (sI a0)) hx hb hK.1 (t0 := 0) rfl hS (by decide) (zkd_of (rfl : zcd wR 11 = 61) rfl) (zln_of (rfl : zcd wR 11 = 61) rfl) rfl o112.1 o112.2 (by decide) dX12_motor_183 ?_
                        refine z_iconst hx hb dX12_motor_184 ?_
                        refine z_iadd hx hb dX12_motor_185 ?_
                        obtain ⟨o113, h⟩ := h
                        refine w_iast (z := ((M103 11 (sI a0).toNat) + 1)) (n := 2) (i := (sI a0)) hx hb hK.1 (t0 := 0) rfl hS hS0 (by decide) (zkd_of (rfl : zcd wR 11 = 61) rfl) (zln_of (rfl : zcd wR 11 = 61) rfl) rfl o113.1 o113.2 (by decide) dX12_motor_186 (fun H locs hS hS0 => ?_)
                        obtain ⟨M114, e115⟩ : ∃ M114 : zM, M114 = zup M103 11 (sI a0).toNat ((M103 11 (sI a0).toNat) + 1) := ⟨_, rfl⟩
                        rw [← e115] at hS
                        have h := h M114 e115
                        exact L88 M114 _ _ _ h hS hS0 (lv_sub hl [0, 1, 2, 3, 4] rfl)
                      · skip
                        have h := h.2 c111
                        refine lv_aload_n hx hb dX12_motor_119 rfl (lv_at hl 0 rfl) ?_
                        refine w_getr (j2 := 9) hx hb hts (z_memU u12) hown hK.1 hS f12_11 (by decide) (zkd_of (rfl : zcd wR 0 = 50) rfl) (zrf_of (rfl : zcd wR 0 = 50) rfl) (Or.inl (hts _ (z_mem k955))) dX12_motor_120 ?_
                        refine z_bipush hx hb (by decide) dX12_motor_123 ?_
                        refine lv_iload_n hx hb dX12_motor_125 rfl (lv_at hl 1 rfl) ?_
                        refine z_imul hx hb dX12_motor_126 ?_
                        refine lv_iload hx hb dX12_motor_127 (lv_at hl 5 rfl) ?_
                        refine z_iadd hx hb dX12_motor_129 ?_
                        refine lv_aload_n hx hb dX12_motor_130 rfl (lv_at hl 0 rfl) ?_
                        refine w_getr (j2 := 9) hx hb hts (z_memU u12) hown hK.1 hS f12_11 (by decide) (zkd_of (rfl : zcd wR 0 = 50) rfl) (zrf_of (rfl : zcd wR 0 = 50) rfl) (Or.inl (hts _ (z_mem k955))) dX12_motor_131 ?_
                        refine z_bipush hx hb (by decide) dX12_motor_134 ?_
                        refine lv_iload_n hx hb dX12_motor_136 rfl (lv_at hl 1 rfl) ?_
                        refine z_imul hx hb dX12_motor_137 ?_
                        refine lv_iload hx hb dX12_motor_138 (lv_at hl 5 rfl) ?_
                        refine z_iadd hx hb dX12_motor_140 ?_
                        refine z_iconst hx hb dX12_motor_141 ?_
                        refine z_isub hx hb dX12_motor_142 ?_
                        obtain ⟨o116, h⟩ := h
                        refine w_iald (n := 24) (i := (sI (((12 * a0) + x102) - 1))) hx hb hK.1 (t0 := 0) rfl hS (by decide) (zkd_of (rfl : zcd wR 9 = 59) rfl) (zln_of (rfl : zcd wR 9 = 59) rfl) rfl o116.1 o116.2 (by decide) dX12_motor_143 ?_
                        obtain ⟨o117, h⟩ := h
                        refine w_iast (z := (M103 9 (sI (((12 * a0) + x102) - 1)).toNat)) (n := 24) (i := (sI ((12 * a0) + x102))) hx hb hK.1 (t0 := 0) rfl hS hS0 (by decide) (zkd_of (rfl : zcd wR 9 = 59) rfl) (zln_of (rfl : zcd wR 9 = 59) rfl) rfl o117.1 o117.2 (by decide) dX12_motor_144 (fun H locs hS hS0 => ?_)
                        obtain ⟨M118, e119⟩ : ∃ M118 : zM, M118 = zup M103 9 (sI ((12 * a0) + x102)).toNat (M103 9 (sI (((12 * a0) + x102) - 1)).toNat) := ⟨_, rfl⟩
                        rw [← e119] at hS
                        have h := h M118 e119
                        refine lv_aload_n hx hb dX12_motor_145 rfl (lv_at hl 0 rfl) ?_
                        refine w_getr (j2 := 10) hx hb hts (z_memU u12) hown hK.1 hS f12_12 (by decide) (zkd_of (rfl : zcd wR 0 = 50) rfl) (zrf_of (rfl : zcd wR 0 = 50) rfl) (Or.inl (hts _ (z_mem k956))) dX12_motor_146 ?_
                        refine z_bipush hx hb (by decide) dX12_motor_149 ?_
                        refine lv_iload_n hx hb dX12_motor_151 rfl (lv_at hl 1 rfl) ?_
                        refine z_imul hx hb dX12_motor_152 ?_
                        refine lv_iload hx hb dX12_motor_153 (lv_at hl 5 rfl) ?_
                        refine z_iadd hx hb dX12_motor_155 ?_
                        refine lv_aload_n hx hb dX12_motor_156 rfl (lv_at hl 0 rfl) ?_
                        refine w_getr (j2 := 10) hx hb hts (z_memU u12) hown hK.1 hS f12_12 (by decide) (zkd_of (rfl : zcd wR 0 = 50) rfl) (zrf_of (rfl : zcd wR 0 = 50) rfl) (Or.inl (hts _ (z_mem k956))) dX12_motor_157 ?_
                        refine z_bipush hx hb (by decide) dX12_motor_160 ?_
                        refine lv_iload_n hx hb dX12_motor_162 rfl (lv_at hl 1 rfl) ?_
                        refine z_imul hx hb dX12_motor_163 ?_
                        refine lv_iload hx hb dX12_motor_164 (lv_at hl 5 rfl) ?_
                        refine z_iadd hx hb dX12_motor_166 ?_
                        refine z_iconst hx hb dX12_motor_167 ?_
                        refine z_isub hx hb dX12_motor_168 ?_
                        obtain ⟨o120, h⟩ := h
                        refine w_iald (n := 24) (i := (sI (((12 * a0) + x102) - 1))) hx hb hK.1 (t0 := 0) rfl hS (by decide) (zkd_of (rfl : zcd wR 10 = 60) rfl) (zln_of (rfl : zcd wR 10 = 60) rfl) rfl o120.1 o120.2 (by decide) dX12_motor_169 ?_
                        obtain ⟨o121, h⟩ := h
                        refine w_iast (z := (M118 10 (sI (((12 * a0) + x102) - 1)).toNat)) (n := 24) (i := (sI ((12 * a0) + x102))) hx hb hK.1 (t0 := 0) rfl hS hS0 (by decide) (zkd_of (rfl : zcd wR 10 = 60) rfl) (zln_of (rfl : zcd wR 10 = 60) rfl) rfl o121.1 o121.2 (by decide) dX12_motor_170 (fun H locs hS hS0 => ?_)
                        obtain ⟨M122, e123⟩ : ∃ M122 : zM, M122 = zup M118 10 (sI ((12 * a0) + x102)).toNat (M118 10 (sI (((12 * a0) + x102) - 1)).toNat) := ⟨_, rfl⟩
                        rw [← e123] at hS
                        have h := h M122 e123
                        refine z_iinc (lv' := [(6, .int (iI (x102 + (-1)))), (0, .ref (b + 0)), (1, .int (iI a0)), (2, .int (iI a1)), (3, .int (iI a2)), (5, .int (iI x19))]) hx hb dX12_motor_171 hl (k := 5) rfl (by decide) rfl (fun ls hl => ?_)
                        refine lv_goto (tgt := 112) hx hb dX12_motor_174 (by decide) ?_
                        obtain ⟨n124, h125, h⟩ := h
                        exact i110 n124 h125 (x102 + (-1)) M122 _ _ _ h hS hS0 (lv_sub hl [1, 2, 3, 4, 5, 0] rfl)
                  exact L108 n105 (M1 11 (sI a0).toNat) M1 _ _ _ h106 hS hS0 (lv_sub hl [1, 2, 3, 4, 6, 0] rfl)
                · skip
                  have h := h.2 c101
                  refine z_iconst hx hb dX12_motor_106 ?_
                  exact w_zret hx hb hr hlocks hS hS0 (sI_of (by decide)) (by decide) h dX12_motor_107
              refine w_icmp_eq (tgt := 99) hx hb rfl rfl dX12_motor_80 (by decide) (fun c126 => ?_) (fun c126 => ?_)
              · skip
                have h := h.1 c126
                exact L99 _ _ _ h hS hS0 (lv_sub hl [0, 1, 2, 3, 4, 5] rfl)
              · skip
                have h := h.2 c126
                refine lv_aload_n hx hb dX12_motor_83 rfl (lv_at hl 0 rfl) ?_
                refine w_getr (j2 := 9) hx hb hts (z_memU u12) hown hK.1 hS f12_11 (by decide) (zkd_of (rfl : zcd wR 0 = 50) rfl) (zrf_of (rfl : zcd wR 0 = 50) rfl) (Or.inl (hts _ (z_mem k955))) dX12_motor_84 ?_
                refine z_bipush hx hb (by decide) dX12_motor_87 ?_
                refine lv_iload_n hx hb dX12_motor_89 rfl (lv_at hl 1 rfl) ?_
                refine z_imul hx hb dX12_motor_90 ?_
                refine lv_iload hx hb dX12_motor_91 (lv_at hl 5 rfl) ?_
                refine z_iadd hx hb dX12_motor_93 ?_
                obtain ⟨o127, h⟩ := h
                refine w_iald (n := 24) (i := (sI ((12 * a0) + x19))) hx hb hK.1 (t0 := 0) rfl hS (by decide) (zkd_of (rfl : zcd wR 9 = 59) rfl) (zln_of (rfl : zcd wR 9 = 59) rfl) rfl o127.1 o127.2 (by decide) dX12_motor_94 ?_
                refine lv_iload_n hx hb dX12_motor_95 rfl (lv_at hl 2 rfl) ?_
                refine w_icmp_eq (tgt := 187) hx hb rfl rfl dX12_motor_96 (by decide) (fun c128 => ?_) (fun c128 => ?_)
                · skip
                  have h := h.1 c128
                  exact L88 M1 _ _ _ h hS hS0 (lv_sub hl [0, 1, 2, 3, 5] rfl)
                · skip
                  have h := h.2 c128
                  exact L99 _ _ _ h hS hS0 (lv_sub hl [0, 1, 2, 3, 4, 5] rfl)
            refine w_icmp_ge (tgt := 76) hx hb rfl rfl dX12_motor_51 (by decide) (fun c129 => ?_) (fun c129 => ?_)
            · skip
              have h := h.1 c129
              exact L32 _ _ _ h hS hS0 (lv_sub hl [0, 1, 2, 3, 4, 5] rfl)
            · skip
              have h := h.2 c129
              refine lv_aload_n hx hb dX12_motor_54 rfl (lv_at hl 0 rfl) ?_
              refine w_getr (j2 := 9) hx hb hts (z_memU u12) hown hK.1 hS f12_11 (by decide) (zkd_of (rfl : zcd wR 0 = 50) rfl) (zrf_of (rfl : zcd wR 0 = 50) rfl) (Or.inl (hts _ (z_mem k955))) dX12_motor_55 ?_
              refine z_bipush hx hb (by decide) dX12_motor_58 ?_
              refine lv_iload_n hx hb dX12_motor_60 rfl (lv_at hl 1 rfl) ?_
              refine z_imul hx hb dX12_motor_61 ?_
              refine lv_iload hx hb dX12_motor_62 (lv_at hl 5 rfl) ?_
              refine z_iadd hx hb dX12_motor_64 ?_
              obtain ⟨o130, h⟩ := h
              refine w_iald (n := 24) (i := (sI ((12 * a0) + x19))) hx hb hK.1 (t0 := 0) rfl hS (by decide) (zkd_of (rfl : zcd wR 9 = 59) rfl) (zln_of (rfl : zcd wR 9 = 59) rfl) rfl o130.1 o130.2 (by decide) dX12_motor_65 ?_
              refine lv_iload_n hx hb dX12_motor_66 rfl (lv_at hl 2 rfl) ?_
              refine w_icmp_ge (tgt := 76) hx hb rfl rfl dX12_motor_67 (by decide) (fun c131 => ?_) (fun c131 => ?_)
              · skip
                have h := h.1 c131
                exact L32 _ _ _ h hS hS0 (lv_sub hl [0, 1, 2, 3, 4, 5] rfl)
              · skip
                have h := h.2 c131
                refine z_iinc (lv' := [(5, .int (iI (x19 + 1))), (0, .ref (b + 0)), (1, .int (iI a0)), (2, .int (iI a1)), (3, .int (iI a2)), (4, .int (iI (M1 11 (sI a0).toNat)))]) hx hb dX12_motor_70 hl (k := 5) rfl (by decide) rfl (fun ls hl => ?_)
                refine lv_goto (tgt := 47) hx hb dX12_motor_73 (by decide) ?_
                obtain ⟨n132, h133, h⟩ := h
                exact i26 n132 h133 (x19 + 1) _ _ _ h hS hS0 (lv_sub hl [1, 2, 3, 4, 5, 0] rfl)
        exact L24 n21 0 _ _ _ h22 hS hS0 (lv_sub hl [2, 3, 4, 5, 1, 0] rfl)
      · skip
        have h := h.2 c17
        refine z_iconst hx hb dX12_motor_34 ?_
        exact w_zret hx hb hr hlocks hS hS0 (sI_of (by decide)) (by decide) h dX12_motor_35

set_option maxRecDepth 100000 in
def wR_clear  (M : zM) (Q : Int → zM → Prop) : Prop := (∀ M1 : zM, M1 = zup M 0 35 0 → (∀ M3 : zM, M3 = zup M1 0 10 0 → (∀ M5 : zM, M5 = zup M3 0 16 0 → wL1 (fun K22 x7 M8 => (2 ≤ (sI x7) → Q (sI (M1 0 10)) M8) ∧ ((sI x7) < 2 → ((0 ≤ (sI x7) ∧ (sI x7) < 2) ∧ (∀ M18 : zM, M18 = zup M8 11 (sI x7).toNat 0 → K22 (x7 + 1) M18)))) 0 M5)))
set_option maxHeartbeats 4000000 in
set_option maxRecDepth 100000 in
theorem cR_clear (l : Launch) (D : va_G) (dA : Nat → ClassId) (b : Nat) (M : zM)   (Q : Int → zM → Prop) (h : wR_clear  M Q) : Met l yX12_clear (.code yX12_clear cX12_clear 3 (some .int) :: zt) (z_rm 0) (va_Pc [.ref (b + 0)] (wPre D dA vwCl (z_tys dA) wR nR b M)) (va_Qi (wQi Q) (zB D dA vwCl wR nR b) (zA nR b)) 0 0 (zA nR b) := by
  unfold wR_clear at h
  refine Met.ofW (cc := cX12_clear) (maxL := 3) (ret := (some .int)) (by decide) rfl ?_
  intro p e s m args below meth c s₁ B hml hv
  obtain ⟨hargs, hS, hK⟩ := hv
  have hx := B.exec
  have hb := B.bytes
  have hr := B.returns
  have hts := atoms_spec (ws := .code yX12_clear cX12_clear 3 (some .int) :: zt) B.pre
  have hown : s.vm.findClass RX12 = some m.cls := findClass_of_methodNamed B.named
  have hlocks := B.notSynchronized
  have hS0 : va_S (zA nR b) s.heap s.heap [] := va_S.rf
  have hl := lv_entry ([.ref (b + 0)]) (n := 3) (Nat.le_of_ble_eq_true rfl)
  have hent : entryFrame m args 3 = F0 m 0 ((lg_sl ([.ref (b + 0)]) ++ List.replicate (3 - (lg_sl ([.ref (b + 0)])).length) Slot.unset).toArray) [] := by rw [hargs]; exact lg_entry_eq m ([.ref (b + 0)]) 3
  rw [hent]
  generalize (lg_sl ([.ref (b + 0)]) ++ List.replicate (3 - (lg_sl ([.ref (b + 0)])).length) Slot.unset).toArray = ls at hl ⊢
  have hl : lv_has ls 3 [(0, .ref (b + 0))] := hl
  refine lv_aload_n hx hb dX12_clear_0 rfl (lv_at hl 0 rfl) ?_
  refine z_iconst hx hb dX12_clear_1 ?_
  refine w_puti hx hb hts (z_memU u12) tyX12 tyX12_ok nmX12 hown hK.1 hS hS0 f12_35 (by decide) (zkd_of (rfl : zcd wR 0 = 50) rfl) (Or.inl (hts _ (z_mem k979))) rfl (z := 0) (by decide +kernel) dX12_clear_2 (fun H locs hS hS0 => ?_)
  obtain ⟨M1, e2⟩ : ∃ M1 : zM, M1 = zup M 0 35 0 := ⟨_, rfl⟩
  rw [← e2] at hS
  have h := h M1 e2
  refine lv_aload_n hx hb dX12_clear_5 rfl (lv_at hl 0 rfl) ?_
  refine w_geti hx hb hts (z_memU u12) hown hK.1 hS f12_10 (by decide) (zkd_of (rfl : zcd wR 0 = 50) rfl) (Or.inl (hts _ (z_mem k954))) dX12_clear_6 ?_
  refine lv_istore_n (lv' := [(1, .int (iI (M1 0 10))), (0, .ref (b + 0))]) hx hb dX12_clear_9 rfl hl (by decide) rfl (fun ls hl => ?_)
  refine lv_aload_n hx hb dX12_clear_10 rfl (lv_at hl 1 rfl) ?_
  refine z_iconst hx hb dX12_clear_11 ?_
  refine w_puti hx hb hts (z_memU u12) tyX12 tyX12_ok nmX12 hown hK.1 hS hS0 f12_10 (by decide) (zkd_of (rfl : zcd wR 0 = 50) rfl) (Or.inl (hts _ (z_mem k954))) rfl (z := 0) (by decide +kernel) dX12_clear_12 (fun H locs hS hS0 => ?_)
  obtain ⟨M3, e4⟩ : ∃ M3 : zM, M3 = zup M1 0 10 0 := ⟨_, rfl⟩
  rw [← e4] at hS
  have h := h M3 e4
  refine lv_aload_n hx hb dX12_clear_15 rfl (lv_at hl 1 rfl) ?_
  refine z_iconst hx hb dX12_clear_16 ?_
  refine w_puti hx hb hts (z_memU u12) tyX12 tyX12_ok nmX12 hown hK.1 hS hS0 f12_16 (by decide) (zkd_of (rfl : zcd wR 0 = 50) rfl) (Or.inl (hts _ (z_mem k960))) rfl (z := 0) (by decide +kernel) dX12_clear_17 (fun H locs hS hS0 => ?_)
  obtain ⟨M5, e6⟩ : ∃ M5 : zM, M5 = zup M3 0 16 0 := ⟨_, rfl⟩
  rw [← e6] at hS
  have h := h M5 e6
  refine z_iconst hx hb dX12_clear_20 ?_
  refine lv_istore_n (lv' := [(2, .int (iI 0)), (1, .int (iI (M1 0 10))), (0, .ref (b + 0))]) hx hb dX12_clear_21 rfl hl (by decide) rfl (fun ls hl => ?_)
  obtain ⟨I9, ⟨n10, h11⟩, h12⟩ := h
  have L13 : ∀ (n14 : Nat) (x7 : Int) (M8 : zM) (H : Heap) (locs : List Loc) (ls : Array Slot), I9 n14 x7 M8 → zR D dA vwCl wR nR b M8 H → va_S (zA nR b) s.heap H locs → lv_has ls 3 [(0, .ref (b + 0)), (1, .int (iI (M1 0 10))), (2, .int (iI x7))] → W p l e (headSpec (.code yX12_clear cX12_clear 3 (some .int) :: zt) (z_rm 0)).room s m args below meth c H locs 0 0 (MQ below (va_Qi (wQi Q) (zB D dA vwCl wR nR b) (zA nR b)) args s 0 0 (zA nR b)) (F0 m 22 ls []) := by
    intro n14
    induction n14 using Nat.strongRecOn with
    | ind n14 i15 =>
      intro x7 M8 H locs ls h hS hS0 hl
      have h := h12 n14 x7 M8 h
      refine lv_iload_n hx hb dX12_clear_22 rfl (lv_at hl 2 rfl) ?_
      refine z_iconst hx hb dX12_clear_23 ?_
      refine w_icmp_ge (tgt := 40) hx hb rfl (sI_of (by decide)) dX12_clear_24 (by decide) (fun c16 => ?_) (fun c16 => ?_)
      · skip
        have h := h.1 c16
        refine lv_iload_n hx hb dX12_clear_40 rfl (lv_at hl 1 rfl) ?_
        exact w_iret hx hb hr hlocks hS hS0 rfl h dX12_clear_41
      · skip
        have h := h.2 c16
        refine lv_aload_n hx hb dX12_clear_27 rfl (lv_at hl 0 rfl) ?_
        refine w_getr (j2 := 11) hx hb hts (z_memU u12) hown hK.1 hS f12_13 (by decide) (zkd_of (rfl : zcd wR 0 = 50) rfl) (zrf_of (rfl : zcd wR 0 = 50) rfl) (Or.inl (hts _ (z_mem k957))) dX12_clear_28 ?_
        refine lv_iload_n hx hb dX12_clear_31 rfl (lv_at hl 2 rfl) ?_
        refine z_iconst hx hb dX12_clear_32 ?_
        obtain ⟨o17, h⟩ := h
        refine w_iast (z := 0) (n := 2) (i := (sI x7)) hx hb hK.1 (t0 := 0) rfl hS hS0 (by decide) (zkd_of (rfl : zcd wR 11 = 61) rfl) (zln_of (rfl : zcd wR 11 = 61) rfl) rfl o17.1 o17.2 (by decide) dX12_clear_33 (fun H locs hS hS0 => ?_)
        obtain ⟨M18, e19⟩ : ∃ M18 : zM, M18 = zup M8 11 (sI x7).toNat 0 := ⟨_, rfl⟩
        rw [← e19] at hS
        have h := h M18 e19
        refine z_iinc (lv' := [(2, .int (iI (x7 + 1))), (0, .ref (b + 0)), (1, .int (iI (M1 0 10)))]) hx hb dX12_clear_34 hl (k := 2) rfl (by decide) rfl (fun ls hl => ?_)
        refine lv_goto (tgt := 22) hx hb dX12_clear_37 (by decide) ?_
        obtain ⟨n20, h21, h⟩ := h
        exact i15 n20 h21 (x7 + 1) M18 _ _ _ h hS hS0 (lv_sub hl [1, 2, 0] rfl)
  exact L13 n10 0 M5 _ _ _ h11 hS hS0 (lv_sub hl [2, 1, 0] rfl)

set_option maxRecDepth 100000 in
def wR_count (a0 : Int) (M : zM) (Q : Int → zM → Prop) : Prop := (∀ M1 : zM, M1 = zup M 0 35 0 → ((sI a0) = 0 → Q (sI (M1 0 10)) M1) ∧ ((sI a0) ≠ 0 → ((sI a0) = 1 → Q (sI (M1 0 16)) M1) ∧ ((sI a0) ≠ 1 → ((sI a0) = 2 → Q (sI (M1 0 24)) M1) ∧ ((sI a0) ≠ 2 → ((sI a0) = 3 → Q (sI (M1 0 27)) M1) ∧ ((sI a0) ≠ 3 → ((sI a0) = 4 → Q (sI (M1 0 32)) M1) ∧ ((sI a0) ≠ 4 → ((sI a0) = 5 → Q (sI (M1 0 34)) M1) ∧ ((sI a0) ≠ 5 → ((sI a0) = 6 → Q (sI (M1 0 1)) M1) ∧ ((sI a0) ≠ 6 → ((sI a0) = 7 → Q (sI (M1 0 3)) M1) ∧ ((sI a0) ≠ 7 → Q (-1) M1)))))))))
set_option maxHeartbeats 4000000 in
set_option maxRecDepth 100000 in
theorem cR_count (l : Launch) (D : va_G) (dA : Nat → ClassId) (b : Nat) (M : zM) (a0 : Int)  (Q : Int → zM → Prop) (h : wR_count a0 M Q) : Met l yX12_count (.code yX12_count cX12_count 2 (some .int) :: zt) (z_rm 0) (va_Pc [.ref (b + 0), .int (iI a0)] (wPre D dA vwCl (z_tys dA) wR nR b M)) (va_Qi (wQi Q) (zB D dA vwCl wR nR b) (zA nR b)) 0 0 (zA nR b) := by
  unfold wR_count at h
  refine Met.ofW (cc := cX12_count) (maxL := 2) (ret := (some .int)) (by decide) rfl ?_
  intro p e s m args below meth c s₁ B hml hv
  obtain ⟨hargs, hS, hK⟩ := hv
  have hx := B.exec
  have hb := B.bytes
  have hr := B.returns
  have hts := atoms_spec (ws := .code yX12_count cX12_count 2 (some .int) :: zt) B.pre
  have hown : s.vm.findClass RX12 = some m.cls := findClass_of_methodNamed B.named
  have hlocks := B.notSynchronized
  have hS0 : va_S (zA nR b) s.heap s.heap [] := va_S.rf
  have hl := lv_entry ([.ref (b + 0), .int (iI a0)]) (n := 2) (Nat.le_of_ble_eq_true rfl)
  have hent : entryFrame m args 2 = F0 m 0 ((lg_sl ([.ref (b + 0), .int (iI a0)]) ++ List.replicate (2 - (lg_sl ([.ref (b + 0), .int (iI a0)])).length) Slot.unset).toArray) [] := by rw [hargs]; exact lg_entry_eq m ([.ref (b + 0), .int (iI a0)]) 2
  rw [hent]
  generalize (lg_sl ([.ref (b + 0), .int (iI a0)]) ++ List.replicate (2 - (lg_sl ([.ref (b + 0), .int (iI a0)])).length) Slot.unset).toArray = ls at hl ⊢
  have hl : lv_has ls 2 [(0, .ref (b + 0)), (1, .int (iI a0))] := hl
  refine lv_aload_n hx hb dX12_count_0 rfl (lv_at hl 0 rfl) ?_
  refine z_iconst hx hb dX12_count_1 ?_
  refine w_puti hx hb hts (z_memU u12) tyX12 tyX12_ok nmX12 hown hK.1 hS hS0 f12_35 (by decide) (zkd_of (rfl : zcd wR 0 = 50) rfl) (Or.inl (hts _ (z_mem k979))) rfl (z := 0) (by decide +kernel) dX12_count_2 (fun H locs hS hS0 => ?_)
  obtain ⟨M1, e2⟩ : ∃ M1 : zM, M1 = zup M 0 35 0 := ⟨_, rfl⟩
  rw [← e2] at hS
  have h := h M1 e2
  refine lv_iload_n hx hb dX12_count_5 rfl (lv_at hl 1 rfl) ?_
  rcases Decidable.em ((sI a0) = 0) with c3 | c3
  · skip
    have h := h.1 c3
    refine w_tabIn (tgt := 52) hx hb rfl c3 dX12_count_6 (by decide) (by decide) rfl (by decide) ?_
    refine lv_aload_n hx hb dX12_count_52 rfl (lv_at hl 0 rfl) ?_
    refine w_geti hx hb hts (z_memU u12) hown hK.1 hS f12_10 (by decide) (zkd_of (rfl : zcd wR 0 = 50) rfl) (Or.inl (hts _ (z_mem k954))) dX12_count_53 ?_
    exact w_iret hx hb hr hlocks hS hS0 rfl h dX12_count_56
  have h := h.2 c3
  rcases Decidable.em ((sI a0) = 1) with c4 | c4
  · skip
    have h := h.1 c4
    refine w_tabIn (tgt := 57) hx hb rfl c4 dX12_count_6 (by decide) (by decide) rfl (by decide) ?_
    refine lv_aload_n hx hb dX12_count_57 rfl (lv_at hl 0 rfl) ?_
    refine w_geti hx hb hts (z_memU u12) hown hK.1 hS f12_16 (by decide) (zkd_of (rfl : zcd wR 0 = 50) rfl) (Or.inl (hts _ (z_mem k960))) dX12_count_58 ?_
    exact w_iret hx hb hr hlocks hS hS0 rfl h dX12_count_61
  have h := h.2 c4
  rcases Decidable.em ((sI a0) = 2) with c5 | c5
  · skip
    have h := h.1 c5
    refine w_tabIn (tgt := 62) hx hb rfl c5 dX12_count_6 (by decide) (by decide) rfl (by decide) ?_
    refine lv_aload_n hx hb dX12_count_62 rfl (lv_at hl 0 rfl) ?_
    refine w_geti hx hb hts (z_memU u12) hown hK.1 hS f12_24 (by decide) (zkd_of (rfl : zcd wR 0 = 50) rfl) (Or.inl (hts _ (z_mem k968))) dX12_count_63 ?_
    exact w_iret hx hb hr hlocks hS hS0 rfl h dX12_count_66
  have h := h.2 c5
  rcases Decidable.em ((sI a0) = 3) with c6 | c6
  · skip
    have h := h.1 c6
    refine w_tabIn (tgt := 67) hx hb rfl c6 dX12_count_6 (by decide) (by decide) rfl (by decide) ?_
    refine lv_aload_n hx hb dX12_count_67 rfl (lv_at hl 0 rfl) ?_
    refine w_geti hx hb hts (z_memU u12) hown hK.1 hS f12_27 (by decide) (zkd_of (rfl : zcd wR 0 = 50) rfl) (Or.inl (hts _ (z_mem k971))) dX12_count_68 ?_
    exact w_iret hx hb hr hlocks hS hS0 rfl h dX12_count_71
  have h := h.2 c6
  rcases Decidable.em ((sI a0) = 4) with c7 | c7
  · skip
    have h := h.1 c7
    refine w_tabIn (tgt := 72) hx hb rfl c7 dX12_count_6 (by decide) (by decide) rfl (by decide) ?_
    refine lv_aload_n hx hb dX12_count_72 rfl (lv_at hl 0 rfl) ?_
    refine w_geti hx hb hts (z_memU u12) hown hK.1 hS f12_32 (by decide) (zkd_of (rfl : zcd wR 0 = 50) rfl) (Or.inl (hts _ (z_mem k976))) dX12_count_73 ?_
    exact w_iret hx hb hr hlocks hS hS0 rfl h dX12_count_76
  have h := h.2 c7
  rcases Decidable.em ((sI a0) = 5) with c8 | c8
  · skip
    have h := h.1 c8
    refine w_tabIn (tgt := 77) hx hb rfl c8 dX12_count_6 (by decide) (by decide) rfl (by decide) ?_
    refine lv_aload_n hx hb dX12_count_77 rfl (lv_at hl 0 rfl) ?_
    refine w_geti hx hb hts (z_memU u12) hown hK.1 hS f12_34 (by decide) (zkd_of (rfl : zcd wR 0 = 50) rfl) (Or.inl (hts _ (z_mem k978))) dX12_count_78 ?_
    exact w_iret hx hb hr hlocks hS hS0 rfl h dX12_count_81
  have h := h.2 c8
  rcases Decidable.em ((sI a0) = 6) with c9 | c9
  · skip
    have h := h.1 c9
    refine w_tabIn (tgt := 82) hx hb rfl c9 dX12_count_6 (by decide) (by decide) rfl (by decide) ?_
    refine lv_aload_n hx hb dX12_count_82 rfl (lv_at hl 0 rfl) ?_
    refine w_geti hx hb hts (z_memU u12) hown hK.1 hS f12_1 (by decide) (zkd_of (rfl : zcd wR 0 = 50) rfl) (Or.inl (hts _ (z_mem k945))) dX12_count_83 ?_
    exact w_iret hx hb hr hlocks hS hS0 rfl h dX12_count_86
  have h := h.2 c9
  rcases Decidable.em ((sI a0) = 7) with c10 | c10
  · skip
    have h := h.1 c10
    refine w_tabIn (tgt := 87) hx hb rfl c10 dX12_count_6 (by decide) (by decide) rfl (by decide) ?_
    refine lv_aload_n hx hb dX12_count_87 rfl (lv_at hl 0 rfl) ?_
    refine w_geti hx hb hts (z_memU u12) hown hK.1 hS f12_3 (by decide) (zkd_of (rfl : zcd wR 0 = 50) rfl) (Or.inl (hts _ (z_mem k947))) dX12_count_88 ?_
    exact w_iret hx hb hr hlocks hS hS0 rfl h dX12_count_91
  have h := h.2 c10
  refine w_tabOut (tgt := 92) hx hb rfl dX12_count_6 (tb_0_7 _ c3 c4 c5 c6 c7 c8 c9 c10) (by decide) ?_
  refine z_iconst hx hb dX12_count_92 ?_
  exact w_iret hx hb hr hlocks hS hS0 (sI_of (by decide)) h dX12_count_93

set_option maxRecDepth 100000 in
def wR_common_F (R9 : Int → Int → zM → (Int → Prop) → Prop) (a0 : Int) (a1 : Int) (M : zM) (Q : Int → Prop) : Prop := ((sI a1) ≠ 0 → (((sI a1) ≠ 0) ∧ R9 a1 ((sI a0).tmod (sI a1)) M (fun z4 => Q z4))) ∧ ((sI a1) = 0 → Q (sI a0))
set_option maxHeartbeats 4000000 in
set_option maxRecDepth 100000 in
theorem cR_common_F (dd : Nat) (R9 : Int → Int → zM → (Int → Prop) → Prop) (l : Launch) (D : va_G) (dA : Nat → ClassId) (hdd : 0 ≤ dd) (hrec : ∀ (b : Nat) (M : zM) (a0 : Int) (a1 : Int)  (Q : Int → Prop), R9 a0 a1 M Q → Met l yX12_common (.code yX12_common cX12_common 2 (some .int) :: zt) (z_rm dd) (va_Pc [.int (iI a0), .int (iI a1)] (wPre D dA vwCl (z_tys dA) wR nR b M)) (va_Qi (wQi (fun z9 u9 => u9 = M ∧ Q z9)) (zB D dA vwCl wR nR b) (zA nR b)) 0 0 (zA nR b)) (b : Nat) (M : zM) (a0 : Int) (a1 : Int)  (Q : Int → Prop) (h : wR_common_F R9 a0 a1 M Q) : Met l yX12_common (.code yX12_common cX12_common 2 (some .int) :: zt) (z_rm (dd + 1)) (va_Pc [.int (iI a0), .int (iI a1)] (wPre D dA vwCl (z_tys dA) wR nR b M)) (va_Qi (wQi (fun z9 u9 => u9 = M ∧ Q z9)) (zB D dA vwCl wR nR b) (zA nR b)) 0 0 (zA nR b) := by
  unfold wR_common_F at h
  refine Met.ofW (cc := cX12_common) (maxL := 2) (ret := (some .int)) (by decide) rfl ?_
  intro p e s m args below meth c s₁ B hml hv
  obtain ⟨hargs, hS, hK⟩ := hv
  have hx := B.exec
  have hb := B.bytes
  have hr := B.returns
  have hts := atoms_spec (ws := .code yX12_common cX12_common 2 (some .int) :: zt) B.pre
  have hown : s.vm.findClass RX12 = some m.cls := findClass_of_methodNamed B.named
  have hlocks := B.notSynchronized
  have hS0 : va_S (zA nR b) s.heap s.heap [] := va_S.rf
  have hl := lv_entry ([.int (iI a0), .int (iI a1)]) (n := 2) (Nat.le_of_ble_eq_true rfl)
  have hent : entryFrame m args 2 = F0 m 0 ((lg_sl ([.int (iI a0), .int (iI a1)]) ++ List.replicate (2 - (lg_sl ([.int (iI a0), .int (iI a1)])).length) Slot.unset).toArray) [] := by rw [hargs]; exact lg_entry_eq m ([.int (iI a0), .int (iI a1)]) 2
  rw [hent]
  generalize (lg_sl ([.int (iI a0), .int (iI a1)]) ++ List.replicate (2 - (lg_sl ([.int (iI a0), .int (iI a1)])).length) Slot.unset).toArray = ls at hl ⊢
  have hl : lv_has ls 2 [(0, .int (iI a0)), (1, .int (iI a1))] := hl
  refine lv_iload_n hx hb dX12_common_0 rfl (lv_at hl 1 rfl) ?_
  refine w_if_ne (tgt := 8) hx hb rfl dX12_common_1 (by decide) (fun c1 => ?_) (fun c1 => ?_)
  · skip
    have h := h.1 c1
    refine lv_iload_n hx hb dX12_common_8 rfl (lv_at hl 1 rfl) ?_
    refine lv_iload_n hx hb dX12_common_9 rfl (lv_at hl 0 rfl) ?_
    refine lv_iload_n hx hb dX12_common_10 rfl (lv_at hl 1 rfl) ?_
    obtain ⟨o2, h⟩ := h
    refine w_irem hx hb rfl rfl o2 dX12_common_11 ?_
    refine w_calli (va_runS (As := [.int (iI a1), .int (iI ((sI a0).tmod (sI a1)))]) (rest := []) ⟨hx, hb, hml, hown, hts⟩ (hrec b M a1 ((sI a0).tmod (sI a1)) _ h) (va_cwS 2 hts (z_gS k1132 k1133 k14 k1134) rfl rfl rfl dm_X12_common.2 ⟨by simp only [z_rm, headSpec]; omega, by simp only [z_rm, headSpec]; omega⟩) ⟨wPre_blind, w_pre hS hK⟩ rfl rfl hl.1 rfl (lv_room (Nat.le_of_ble_eq_true rfl)) dX12_common_12 ⟨Nat.le_refl _, Nat.le_refl _⟩) hS0 (fun z4 M3 H locs r5 h hS hS0 => ?_)
    obtain ⟨e6, h⟩ := h
    rw [e6] at hS
    exact w_iret hx hb hr hlocks hS hS0 (sI_of r5) ⟨rfl, h⟩ dX12_common_15
  · skip
    have h := h.2 c1
    refine lv_iload_n hx hb dX12_common_4 rfl (lv_at hl 0 rfl) ?_
    refine lv_goto (tgt := 15) hx hb dX12_common_5 (by decide) ?_
    exact w_iret hx hb hr hlocks hS hS0 rfl ⟨rfl, h⟩ dX12_common_15

def wR_common : Nat → Int → Int → zM → (Int → Prop) → Prop
  | 0 => fun _ _ _ _ => False
  | n + 1 => wR_common_F (wR_common n)
set_option maxHeartbeats 4000000 in
set_option maxRecDepth 100000 in
theorem cR_common (n : Nat) (l : Launch) (D : va_G) (dA : Nat → ClassId) : ∀ (b : Nat) (M : zM) (a0 : Int) (a1 : Int)  (Q : Int → Prop), wR_common n a0 a1 M Q → Met l yX12_common (.code yX12_common cX12_common 2 (some .int) :: zt) (z_rm (1 * n + 0)) (va_Pc [.int (iI a0), .int (iI a1)] (wPre D dA vwCl (z_tys dA) wR nR b M)) (va_Qi (wQi (fun z9 u9 => u9 = M ∧ Q z9)) (zB D dA vwCl wR nR b) (zA nR b)) 0 0 (zA nR b) := by
  induction n with
  | zero => intro b M a0 a1  Q h; exact h.elim
  | succ n ih =>
    intro b M a0 a1  Q h
    rw [show 1 * (n + 1) + 0 = 1 * n + 0 + 0 + 1 from by omega]
    exact cR_common_F (1 * n + 0) _ l D dA (by omega) ih b M a0 a1  Q h

set_option maxRecDepth 100000 in
def wR_steady (a0 : Int) (M : zM) (Q : Int → Prop) : Prop := ((0 ≤ (sI a0) ∧ (sI a0) < 2) ∧ ((sI (M 11 (sI a0).toNat)) ≠ 0 → ((0 ≤ (sI a0) ∧ (sI a0) < 2) ∧ ((0 ≤ (sI (((12 * a0) + (M 11 (sI a0).toNat)) - 1)) ∧ (sI (((12 * a0) + (M 11 (sI a0).toNat)) - 1)) < 24) ∧ Q (sI (M 9 (sI (((12 * a0) + (M 11 (sI a0).toNat)) - 1)).toNat))))) ∧ ((sI (M 11 (sI a0).toNat)) = 0 → Q 0))
set_option maxHeartbeats 4000000 in
set_option maxRecDepth 100000 in
theorem cR_steady (l : Launch) (D : va_G) (dA : Nat → ClassId) (b : Nat) (M : zM) (a0 : Int)  (Q : Int → Prop) (h : wR_steady a0 M Q) : Met l yX12_steady (.code yX12_steady cX12_steady 2 (some .int) :: zt) (z_rm 0) (va_Pc [.ref (b + 0), .int (iI a0)] (wPre D dA vwCl (z_tys dA) wR nR b M)) (va_Qi (wQi (fun z9 u9 => u9 = M ∧ Q z9)) (zB D dA vwCl wR nR b) (zA nR b)) 0 0 (zA nR b) := by
  unfold wR_steady at h
  refine Met.ofW (cc := cX12_steady) (maxL := 2) (ret := (some .int)) (by decide) rfl ?_
  intro p e s m args below meth c s₁ B hml hv
  obtain ⟨hargs, hS, hK⟩ := hv
  have hx := B.exec
  have hb := B.bytes
  have hr := B.returns
  have hts := atoms_spec (ws := .code yX12_steady cX12_steady 2 (some .int) :: zt) B.pre
  have hown : s.vm.findClass RX12 = some m.cls := findClass_of_methodNamed B.named
  have hlocks := B.notSynchronized
  have hS0 : va_S (zA nR b) s.heap s.heap [] := va_S.rf
  have hl := lv_entry ([.ref (b + 0), .int (iI a0)]) (n := 2) (Nat.le_of_ble_eq_true rfl)
  have hent : entryFrame m args 2 = F0 m 0 ((lg_sl ([.ref (b + 0), .int (iI a0)]) ++ List.replicate (2 - (lg_sl ([.ref (b + 0), .int (iI a0)])).length) Slot.unset).toArray) [] := by rw [hargs]; exact lg_entry_eq m ([.ref (b + 0), .int (iI a0)]) 2
  rw [hent]
  generalize (lg_sl ([.ref (b + 0), .int (iI a0)]) ++ List.replicate (2 - (lg_sl ([.ref (b + 0), .int (iI a0)])).length) Slot.unset).toArray = ls at hl ⊢
  have hl : lv_has ls 2 [(0, .ref (b + 0)), (1, .int (iI a0))] := hl
  refine lv_aload_n hx hb dX12_steady_0 rfl (lv_at hl 0 rfl) ?_
  refine w_getr (j2 := 11) hx hb hts (z_memU u12) hown hK.1 hS f12_13 (by decide) (zkd_of (rfl : zcd wR 0 = 50) rfl) (zrf_of (rfl : zcd wR 0 = 50) rfl) (Or.inl (hts _ (z_mem k957))) dX12_steady_1 ?_
  refine lv_iload_n hx hb dX12_steady_4 rfl (lv_at hl 1 rfl) ?_
  obtain ⟨o1, h⟩ := h
  refine w_iald (n := 2) (i := (sI a0)) hx hb hK.1 (t0 := 0) rfl hS (by decide) (zkd_of (rfl : zcd wR 11 = 61) rfl) (zln_of (rfl : zcd wR 11 = 61) rfl) rfl o1.1 o1.2 (by decide) dX12_steady_5 ?_
  refine w_if_ne (tgt := 13) hx hb rfl dX12_steady_6 (by decide) (fun c2 => ?_) (fun c2 => ?_)
  · skip
    have h := h.1 c2
    refine lv_aload_n hx hb dX12_steady_13 rfl (lv_at hl 0 rfl) ?_
    refine w_getr (j2 := 9) hx hb hts (z_memU u12) hown hK.1 hS f12_11 (by decide) (zkd_of (rfl : zcd wR 0 = 50) rfl) (zrf_of (rfl : zcd wR 0 = 50) rfl) (Or.inl (hts _ (z_mem k955))) dX12_steady_14 ?_
    refine z_bipush hx hb (by decide) dX12_steady_17 ?_
    refine lv_iload_n hx hb dX12_steady_19 rfl (lv_at hl 1 rfl) ?_
    refine z_imul hx hb dX12_steady_20 ?_
    refine lv_aload_n hx hb dX12_steady_21 rfl (lv_at hl 0 rfl) ?_
    refine w_getr (j2 := 11) hx hb hts (z_memU u12) hown hK.1 hS f12_13 (by decide) (zkd_of (rfl : zcd wR 0 = 50) rfl) (zrf_of (rfl : zcd wR 0 = 50) rfl) (Or.inl (hts _ (z_mem k957))) dX12_steady_22 ?_
    refine lv_iload_n hx hb dX12_steady_25 rfl (lv_at hl 1 rfl) ?_
    obtain ⟨o3, h⟩ := h
    refine w_iald (n := 2) (i := (sI a0)) hx hb hK.1 (t0 := 0) rfl hS (by decide) (zkd_of (rfl : zcd wR 11 = 61) rfl) (zln_of (rfl : zcd wR 11 = 61) rfl) rfl o3.1 o3.2 (by decide) dX12_steady_26 ?_
    refine z_iadd hx hb dX12_steady_27 ?_
    refine z_iconst hx hb dX12_steady_28 ?_
    refine z_isub hx hb dX12_steady_29 ?_
    obtain ⟨o4, h⟩ := h
    refine w_iald (n := 24) (i := (sI (((12 * a0) + (M 11 (sI a0).toNat)) - 1))) hx hb hK.1 (t0 := 0) rfl hS (by decide) (zkd_of (rfl : zcd wR 9 = 59) rfl) (zln_of (rfl : zcd wR 9 = 59) rfl) rfl o4.1 o4.2 (by decide) dX12_steady_30 ?_
    exact w_iret hx hb hr hlocks hS hS0 rfl ⟨rfl, h⟩ dX12_steady_31
  · skip
    have h := h.2 c2
    refine z_iconst hx hb dX12_steady_9 ?_
    refine lv_goto (tgt := 31) hx hb dX12_steady_10 (by decide) ?_
    exact w_iret hx hb hr hlocks hS hS0 (sI_of (by decide)) ⟨rfl, h⟩ dX12_steady_31

set_option maxRecDepth 100000 in
def wR_lastSpeed (a0 : Int) (M : zM) (Q : Int → Prop) : Prop := ((0 ≤ (sI a0) ∧ (sI a0) < 2) ∧ ((sI (M 11 (sI a0).toNat)) ≠ 0 → ((0 ≤ (sI a0) ∧ (sI a0) < 2) ∧ ((0 ≤ (sI (((12 * a0) + (M 11 (sI a0).toNat)) - 1)) ∧ (sI (((12 * a0) + (M 11 (sI a0).toNat)) - 1)) < 24) ∧ Q (sI (M 10 (sI (((12 * a0) + (M 11 (sI a0).toNat)) - 1)).toNat))))) ∧ ((sI (M 11 (sI a0).toNat)) = 0 → Q 1))
set_option maxHeartbeats 4000000 in
set_option maxRecDepth 100000 in
theorem cR_lastSpeed (l : Launch) (D : va_G) (dA : Nat → ClassId) (b : Nat) (M : zM) (a0 : Int)  (Q : Int → Prop) (h : wR_lastSpeed a0 M Q) : Met l yX12_lastSpeed (.code yX12_lastSpeed cX12_lastSpeed 2 (some .int) :: zt) (z_rm 0) (va_Pc [.ref (b + 0), .int (iI a0)] (wPre D dA vwCl (z_tys dA) wR nR b M)) (va_Qi (wQi (fun z9 u9 => u9 = M ∧ Q z9)) (zB D dA vwCl wR nR b) (zA nR b)) 0 0 (zA nR b) := by
  unfold wR_lastSpeed at h
  refine Met.ofW (cc := cX12_lastSpeed) (maxL := 2) (ret := (some .int)) (by decide) rfl ?_
  intro p e s m args below meth c s₁ B hml hv
  obtain ⟨hargs, hS, hK⟩ := hv
  have hx := B.exec
  have hb := B.bytes
  have hr := B.returns
  have hts := atoms_spec (ws := .code yX12_lastSpeed cX12_lastSpeed 2 (some .int) :: zt) B.pre
  have hown : s.vm.findClass RX12 = some m.cls := findClass_of_methodNamed B.named
  have hlocks := B.notSynchronized
  have hS0 : va_S (zA nR b) s.heap s.heap [] := va_S.rf
  have hl := lv_entry ([.ref (b + 0), .int (iI a0)]) (n := 2) (Nat.le_of_ble_eq_true rfl)
  have hent : entryFrame m args 2 = F0 m 0 ((lg_sl ([.ref (b + 0), .int (iI a0)]) ++ List.replicate (2 - (lg_sl ([.ref (b + 0), .int (iI a0)])).length) Slot.unset).toArray) [] := by rw [hargs]; exact lg_entry_eq m ([.ref (b + 0), .int (iI a0)]) 2
  rw [hent]
  generalize (lg_sl ([.ref (b + 0), .int (iI a0)]) ++ List.replicate (2 - (lg_sl ([.ref (b + 0), .int (iI a0)])).length) Slot.unset).toArray = ls at hl ⊢
  have hl : lv_has ls 2 [(0, .ref (b + 0)), (1, .int (iI a0))] := hl
  refine lv_aload_n hx hb dX12_lastSpeed_0 rfl (lv_at hl 0 rfl) ?_
  refine w_getr (j2 := 11) hx hb hts (z_memU u12) hown hK.1 hS f12_13 (by decide) (zkd_of (rfl : zcd wR 0 = 50) rfl) (zrf_of (rfl : zcd wR 0 = 50) rfl) (Or.inl (hts _ (z_mem k957))) dX12_lastSpeed_1 ?_
  refine lv_iload_n hx hb dX12_lastSpeed_4 rfl (lv_at hl 1 rfl) ?_
  obtain ⟨o1, h⟩ := h
  refine w_iald (n := 2) (i := (sI a0)) hx hb hK.1 (t0 := 0) rfl hS (by decide) (zkd_of (rfl : zcd wR 11 = 61) rfl) (zln_of (rfl : zcd wR 11 = 61) rfl) rfl o1.1 o1.2 (by decide) dX12_lastSpeed_5 ?_
  refine w_if_ne (tgt := 13) hx hb rfl dX12_lastSpeed_6 (by decide) (fun c2 => ?_) (fun c2 => ?_)
  · skip
    have h := h.1 c2
    refine lv_aload_n hx hb dX12_lastSpeed_13 rfl (lv_at hl 0 rfl) ?_
    refine w_getr (j2 := 10) hx hb hts (z_memU u12) hown hK.1 hS f12_12 (by decide) (zkd_of (rfl : zcd wR 0 = 50) rfl) (zrf_of (rfl : zcd wR 0 = 50) rfl) (Or.inl (hts _ (z_mem k956))) dX12_lastSpeed_14 ?_
    refine z_bipush hx hb (by decide) dX12_lastSpeed_17 ?_
    refine lv_iload_n hx hb dX12_lastSpeed_19 rfl (lv_at hl 1 rfl) ?_
    refine z_imul hx hb dX12_lastSpeed_20 ?_
    refine lv_aload_n hx hb dX12_lastSpeed_21 rfl (lv_at hl 0 rfl) ?_
    refine w_getr (j2 := 11) hx hb hts (z_memU u12) hown hK.1 hS f12_13 (by decide) (zkd_of (rfl : zcd wR 0 = 50) rfl) (zrf_of (rfl : zcd wR 0 = 50) rfl) (Or.inl (hts _ (z_mem k957))) dX12_lastSpeed_22 ?_
    refine lv_iload_n hx hb dX12_lastSpeed_25 rfl (lv_at hl 1 rfl) ?_
    obtain ⟨o3, h⟩ := h
    refine w_iald (n := 2) (i := (sI a0)) hx hb hK.1 (t0 := 0) rfl hS (by decide) (zkd_of (rfl : zcd wR 11 = 61) rfl) (zln_of (rfl : zcd wR 11 = 61) rfl) rfl o3.1 o3.2 (by decide) dX12_lastSpeed_26 ?_
    refine z_iadd hx hb dX12_lastSpeed_27 ?_
    refine z_iconst hx hb dX12_lastSpeed_28 ?_
    refine z_isub hx hb dX12_lastSpeed_29 ?_
    obtain ⟨o4, h⟩ := h
    refine w_iald (n := 24) (i := (sI (((12 * a0) + (M 11 (sI a0).toNat)) - 1))) hx hb hK.1 (t0 := 0) rfl hS (by decide) (zkd_of (rfl : zcd wR 10 = 60) rfl) (zln_of (rfl : zcd wR 10 = 60) rfl) rfl o4.1 o4.2 (by decide) dX12_lastSpeed_30 ?_
    exact w_iret hx hb hr hlocks hS hS0 rfl ⟨rfl, h⟩ dX12_lastSpeed_31
  · skip
    have h := h.2 c2
    refine z_iconst hx hb dX12_lastSpeed_9 ?_
    refine lv_goto (tgt := 31) hx hb dX12_lastSpeed_10 (by decide) ?_
    exact w_iret hx hb hr hlocks hS hS0 (sI_of (by decide)) ⟨rfl, h⟩ dX12_lastSpeed_31

set_option maxRecDepth 100000 in
def wR_round (a0 : Int) (M : zM) (Q : Int → Prop) : Prop := ((0 ≤ (sI a0) ∧ (sI a0) < 4) ∧ ((0 ≤ (sI a0) ∧ (sI a0) < 4) ∧ ((0 ≤ (sI a0) ∧ (sI a0) < 4) ∧ wR_lastSpeed (M 5 (sI a0).toNat) M (fun z5 => wR_common 48 (M 4 (sI a0).toNat) (absI z5) M (fun z9 => ((z9 ≠ 0) ∧ Q (sI ((sI (M 4 (sI a0).toNat)).tdiv z9))))))))
set_option maxHeartbeats 4000000 in
set_option maxRecDepth 100000 in
theorem cR_round (l : Launch) (D : va_G) (dA : Nat → ClassId) (b : Nat) (M : zM) (a0 : Int)  (Q : Int → Prop) (h : wR_round a0 M Q) : Met l yX12_round (.code yX12_round cX12_round 2 (some .int) :: zt) (z_rm 49) (va_Pc [.ref (b + 0), .int (iI a0)] (wPre D dA vwCl (z_tys dA) wR nR b M)) (va_Qi (wQi (fun z9 u9 => u9 = M ∧ Q z9)) (zB D dA vwCl wR nR b) (zA nR b)) 0 0 (zA nR b) := by
  unfold wR_round at h
  refine Met.ofW (cc := cX12_round) (maxL := 2) (ret := (some .int)) (by decide) rfl ?_
  intro p e s m args below meth c s₁ B hml hv
  obtain ⟨hargs, hS, hK⟩ := hv
  have hx := B.exec
  have hb := B.bytes
  have hr := B.returns
  have hts := atoms_spec (ws := .code yX12_round cX12_round 2 (some .int) :: zt) B.pre
  have hown : s.vm.findClass RX12 = some m.cls := findClass_of_methodNamed B.named
  have hlocks := B.notSynchronized
  have hS0 : va_S (zA nR b) s.heap s.heap [] := va_S.rf
  have hl := lv_entry ([.ref (b + 0), .int (iI a0)]) (n := 2) (Nat.le_of_ble_eq_true rfl)
  have hent : entryFrame m args 2 = F0 m 0 ((lg_sl ([.ref (b + 0), .int (iI a0)]) ++ List.replicate (2 - (lg_sl ([.ref (b + 0), .int (iI a0)])).length) Slot.unset).toArray) [] := by rw [hargs]; exact lg_entry_eq m ([.ref (b + 0), .int (iI a0)]) 2
  rw [hent]
  generalize (lg_sl ([.ref (b + 0), .int (iI a0)]) ++ List.replicate (2 - (lg_sl ([.ref (b + 0), .int (iI a0)])).length) Slot.unset).toArray = ls at hl ⊢
  have hl : lv_has ls 2 [(0, .ref (b + 0)), (1, .int (iI a0))] := hl
  refine lv_aload_n hx hb dX12_round_0 rfl (lv_at hl 0 rfl) ?_
  refine w_getr (j2 := 4) hx hb hts (z_memU u12) hown hK.1 hS f12_5 (by decide) (zkd_of (rfl : zcd wR 0 = 50) rfl) (zrf_of (rfl : zcd wR 0 = 50) rfl) (Or.inl (hts _ (z_mem k949))) dX12_round_1 ?_
  refine lv_iload_n hx hb dX12_round_4 rfl (lv_at hl 1 rfl) ?_
  obtain ⟨o1, h⟩ := h
  refine w_iald (n := 4) (i := (sI a0)) hx hb hK.1 (t0 := 0) rfl hS (by decide) (zkd_of (rfl : zcd wR 4 = 54) rfl) (zln_of (rfl : zcd wR 4 = 54) rfl) rfl o1.1 o1.2 (by decide) dX12_round_5 ?_
  refine lv_aload_n hx hb dX12_round_6 rfl (lv_at hl 0 rfl) ?_
  refine w_getr (j2 := 4) hx hb hts (z_memU u12) hown hK.1 hS f12_5 (by decide) (zkd_of (rfl : zcd wR 0 = 50) rfl) (zrf_of (rfl : zcd wR 0 = 50) rfl) (Or.inl (hts _ (z_mem k949))) dX12_round_7 ?_
  refine lv_iload_n hx hb dX12_round_10 rfl (lv_at hl 1 rfl) ?_
  obtain ⟨o2, h⟩ := h
  refine w_iald (n := 4) (i := (sI a0)) hx hb hK.1 (t0 := 0) rfl hS (by decide) (zkd_of (rfl : zcd wR 4 = 54) rfl) (zln_of (rfl : zcd wR 4 = 54) rfl) rfl o2.1 o2.2 (by decide) dX12_round_11 ?_
  refine lv_aload_n hx hb dX12_round_12 rfl (lv_at hl 0 rfl) ?_
  refine lv_aload_n hx hb dX12_round_13 rfl (lv_at hl 0 rfl) ?_
  refine w_getr (j2 := 5) hx hb hts (z_memU u12) hown hK.1 hS f12_6 (by decide) (zkd_of (rfl : zcd wR 0 = 50) rfl) (zrf_of (rfl : zcd wR 0 = 50) rfl) (Or.inl (hts _ (z_mem k950))) dX12_round_14 ?_
  refine lv_iload_n hx hb dX12_round_17 rfl (lv_at hl 1 rfl) ?_
  obtain ⟨o3, h⟩ := h
  refine w_iald (n := 4) (i := (sI a0)) hx hb hK.1 (t0 := 0) rfl hS (by decide) (zkd_of (rfl : zcd wR 5 = 55) rfl) (zln_of (rfl : zcd wR 5 = 55) rfl) rfl o3.1 o3.2 (by decide) dX12_round_18 ?_
  refine w_calli (va_runV (As := [.int (iI (M 5 (sI a0).toNat))]) (rest := [.int (iI (M 4 (sI a0).toNat)), .int (iI (M 4 (sI a0).toNat))]) ⟨hx, hb, hml, hown, hts⟩ (cR_lastSpeed l D dA b M (M 5 (sI a0).toNat) _ h) (cwV 1 hts (z_gV k1128 k1129 k1399 k14 k1130) rfl rfl rfl dm_X12_lastSpeed ⟨Nat.le_of_ble_eq_true rfl, Nat.le_of_ble_eq_true rfl⟩) ⟨wPre_blind, (w_recv hS hK.1 (by decide) (zkd_of (rfl : zcd wR 0 = 50) rfl) (by decide) (rfl : vwCl[12]? = some (RX12, TX12, 50))), w_pre hS hK⟩ rfl rfl hl.1 rfl (lv_room (Nat.le_of_ble_eq_true rfl)) dX12_round_19 ⟨Nat.le_refl _, Nat.le_refl _⟩) hS0 (fun z5 M4 H locs r6 h hS hS0 => ?_)
  obtain ⟨e7, h⟩ := h
  rw [e7] at hS
  refine w_mabs hx hb (hml.trans hl.1.symm) hown (hts _ (z_mem k1131)) (hts _ (z_mem k644)) (hts _ (z_mem k15)) (hts _ (z_mem k645)) (by exact Nat.le_of_ble_eq_true rfl) (by exact Nat.le_of_ble_eq_true rfl) (by exact Nat.le_refl _) (by exact Nat.le_refl _) (sI_of r6) dX12_round_22 ?_
  refine w_calli (va_runS (As := [.int (iI (M 4 (sI a0).toNat)), .int (iI (absI z5))]) (rest := [.int (iI (M 4 (sI a0).toNat))]) ⟨hx, hb, hml, hown, hts⟩ (cR_common 48 l D dA b M (M 4 (sI a0).toNat) (absI z5) _ h) (va_cwS 2 hts (z_gS k1132 k1133 k14 k1134) rfl rfl rfl dm_X12_common.2 ⟨Nat.le_of_ble_eq_true rfl, Nat.le_of_ble_eq_true rfl⟩) ⟨wPre_blind, w_pre hS hK⟩ rfl rfl hl.1 rfl (lv_room (Nat.le_of_ble_eq_true rfl)) dX12_round_25 ⟨Nat.le_refl _, Nat.le_refl _⟩) hS0 (fun z9 M8 H locs r10 h hS hS0 => ?_)
  obtain ⟨e11, h⟩ := h
  rw [e11] at hS
  obtain ⟨o12, h⟩ := h
  refine w_idiv hx hb rfl (sI_of r10) o12 dX12_round_28 ?_
  exact w_iret hx hb hr hlocks hS hS0 rfl ⟨rfl, h⟩ dX12_round_29

set_option maxRecDepth 100000 in
def wR_of (a0 : Int) (a1 : Int) (M : zM) (Q : Int → zM → Prop) : Prop := (∀ M1 : zM, M1 = zup M 0 35 0 → wR_isRing a0 M1 (fun z4 => (z4 = 0 → (∀ M8 : zM, M8 = zup M1 0 35 1 → Q 0 M8)) ∧ (z4 ≠ 0 → wR_in a1 0 5 M1 (fun z11 => (z11 ≠ 0 → ((sI a1) = 0 → ((0 ≤ (sI a0) ∧ (sI a0) < 4) ∧ Q (sI (M1 4 (sI a0).toNat)) M1)) ∧ ((sI a1) ≠ 0 → ((sI a1) = 1 → ((0 ≤ (sI a0) ∧ (sI a0) < 4) ∧ Q (sI (M1 5 (sI a0).toNat)) M1)) ∧ ((sI a1) ≠ 1 → ((sI a1) = 2 → ((0 ≤ (sI a0) ∧ (sI a0) < 4) ∧ Q (sI (M1 6 (sI a0).toNat)) M1)) ∧ ((sI a1) ≠ 2 → ((sI a1) = 3 → ((0 ≤ (sI a0) ∧ (sI a0) < 4) ∧ Q (sI (M1 7 (sI a0).toNat)) M1)) ∧ ((sI a1) ≠ 3 → ((sI a1) = 4 → wR_round a0 M1 (fun z25 => Q z25 M1)) ∧ ((sI a1) ≠ 4 → ((0 ≤ (sI a0) ∧ (sI a0) < 4) ∧ Q (sI (M1 8 (sI a0).toNat)) M1))))))) ∧ (z11 = 0 → (∀ M29 : zM, M29 = zup M1 0 35 1 → Q 0 M29))))))
set_option maxHeartbeats 4000000 in
set_option maxRecDepth 100000 in
theorem cR_of (l : Launch) (D : va_G) (dA : Nat → ClassId) (b : Nat) (M : zM) (a0 : Int) (a1 : Int)  (Q : Int → zM → Prop) (h : wR_of a0 a1 M Q) : Met l yX12_of (.code yX12_of cX12_of 3 (some .int) :: zt) (z_rm 50) (va_Pc [.ref (b + 0), .int (iI a0), .int (iI a1)] (wPre D dA vwCl (z_tys dA) wR nR b M)) (va_Qi (wQi Q) (zB D dA vwCl wR nR b) (zA nR b)) 0 0 (zA nR b) := by
  unfold wR_of at h
  refine Met.ofW (cc := cX12_of) (maxL := 3) (ret := (some .int)) (by decide) rfl ?_
  intro p e s m args below meth c s₁ B hml hv
  obtain ⟨hargs, hS, hK⟩ := hv
  have hx := B.exec
  have hb := B.bytes
  have hr := B.returns
  have hts := atoms_spec (ws := .code yX12_of cX12_of 3 (some .int) :: zt) B.pre
  have hown : s.vm.findClass RX12 = some m.cls := findClass_of_methodNamed B.named
  have hlocks := B.notSynchronized
  have hS0 : va_S (zA nR b) s.heap s.heap [] := va_S.rf
  have hl := lv_entry ([.ref (b + 0), .int (iI a0), .int (iI a1)]) (n := 3) (Nat.le_of_ble_eq_true rfl)
  have hent : entryFrame m args 3 = F0 m 0 ((lg_sl ([.ref (b + 0), .int (iI a0), .int (iI a1)]) ++ List.replicate (3 - (lg_sl ([.ref (b + 0), .int (iI a0), .int (iI a1)])).length) Slot.unset).toArray) [] := by rw [hargs]; exact lg_entry_eq m ([.ref (b + 0), .int (iI a0), .int (iI a1)]) 3
  rw [hent]
  generalize (lg_sl ([.ref (b + 0), .int (iI a0), .int (iI a1)]) ++ List.replicate (3 - (lg_sl ([.ref (b + 0), .int (iI a0), .int (iI a1)])).length) Slot.unset).toArray = ls at hl ⊢
  have hl : lv_has ls 3 [(0, .ref (b + 0)), (1, .int (iI a0)), (2, .int (iI a1))] := hl
  refine lv_aload_n hx hb dX12_of_0 rfl (lv_at hl 0 rfl) ?_
  refine z_iconst hx hb dX12_of_1 ?_
  refine w_puti hx hb hts (z_memU u12) tyX12 tyX12_ok nmX12 hown hK.1 hS hS0 f12_35 (by decide) (zkd_of (rfl : zcd wR 0 = 50) rfl) (Or.inl (hts _ (z_mem k979))) rfl (z := 0) (by decide +kernel) dX12_of_2 (fun H locs hS hS0 => ?_)
  obtain ⟨M1, e2⟩ : ∃ M1 : zM, M1 = zup M 0 35 0 := ⟨_, rfl⟩
  rw [← e2] at hS
  have h := h M1 e2
  refine lv_aload_n hx hb dX12_of_5 rfl (lv_at hl 0 rfl) ?_
  refine lv_iload_n hx hb dX12_of_6 rfl (lv_at hl 1 rfl) ?_
  refine w_callz (va_runV (As := [.int (iI a0)]) (rest := []) ⟨hx, hb, hml, hown, hts⟩ (cR_isRing l D dA b M1 a0 _ h) (cwV 1 hts (z_gV k1097 k1098 k1397 k14 k1099) rfl rfl rfl dm_X12_isRing ⟨Nat.le_of_ble_eq_true rfl, Nat.le_of_ble_eq_true rfl⟩) ⟨wPre_blind, (w_recv hS hK.1 (by decide) (zkd_of (rfl : zcd wR 0 = 50) rfl) (by decide) (rfl : vwCl[12]? = some (RX12, TX12, 50))), w_pre hS hK⟩ rfl rfl hl.1 rfl (lv_room (Nat.le_of_ble_eq_true rfl)) dX12_of_7 ⟨Nat.le_refl _, Nat.le_refl _⟩) hS0 (fun z4 M3 H locs r5 h hS hS0 => ?_)
  obtain ⟨e6, h⟩ := h
  rw [e6] at hS
  refine w_if_eq (tgt := 22) hx hb (sI_01 r5) dX12_of_10 (by decide) (fun c7 => ?_) (fun c7 => ?_)
  · skip
    have h := h.1 c7
    refine lv_aload_n hx hb dX12_of_22 rfl (lv_at hl 0 rfl) ?_
    refine z_iconst hx hb dX12_of_23 ?_
    refine w_puti hx hb hts (z_memU u12) tyX12 tyX12_ok nmX12 hown hK.1 hS hS0 f12_35 (by decide) (zkd_of (rfl : zcd wR 0 = 50) rfl) (Or.inl (hts _ (z_mem k979))) rfl (z := 1) (by decide +kernel) dX12_of_24 (fun H locs hS hS0 => ?_)
    obtain ⟨M8, e9⟩ : ∃ M8 : zM, M8 = zup M1 0 35 1 := ⟨_, rfl⟩
    rw [← e9] at hS
    have h := h M8 e9
    refine z_iconst hx hb dX12_of_27 ?_
    exact w_iret hx hb hr hlocks hS hS0 (sI_of (by decide)) h dX12_of_28
  · skip
    have h := h.2 c7
    refine lv_iload_n hx hb dX12_of_13 rfl (lv_at hl 2 rfl) ?_
    refine z_iconst hx hb dX12_of_14 ?_
    refine z_iconst hx hb dX12_of_15 ?_
    refine w_callz (va_runS (As := [.int (iI a1), .int (iI 0), .int (iI 5)]) (rest := []) ⟨hx, hb, hml, hown, hts⟩ (cR_in l D dA b M1 a1 0 5 _ h) (va_cwS 3 hts (z_gS k1083 k1084 k14 k1085) rfl rfl rfl dm_X12_in.2 ⟨Nat.le_of_ble_eq_true rfl, Nat.le_of_ble_eq_true rfl⟩) ⟨wPre_blind, w_pre hS hK⟩ rfl rfl hl.1 rfl (lv_room (Nat.le_of_ble_eq_true rfl)) dX12_of_16 ⟨Nat.le_refl _, Nat.le_refl _⟩) hS0 (fun z11 M10 H locs r12 h hS hS0 => ?_)
    obtain ⟨e13, h⟩ := h
    rw [e13] at hS
    refine w_if_ne (tgt := 29) hx hb (sI_01 r12) dX12_of_19 (by decide) (fun c14 => ?_) (fun c14 => ?_)
    · skip
      have h := h.1 c14
      refine lv_iload_n hx hb dX12_of_29 rfl (lv_at hl 2 rfl) ?_
      rcases Decidable.em ((sI a1) = 0) with c15 | c15
      · skip
        have h := h.1 c15
        refine w_tabIn (tgt := 64) hx hb rfl c15 dX12_of_30 (by decide) (by decide) rfl (by decide) ?_
        refine lv_aload_n hx hb dX12_of_64 rfl (lv_at hl 0 rfl) ?_
        refine w_getr (j2 := 4) hx hb hts (z_memU u12) hown hK.1 hS f12_5 (by decide) (zkd_of (rfl : zcd wR 0 = 50) rfl) (zrf_of (rfl : zcd wR 0 = 50) rfl) (Or.inl (hts _ (z_mem k949))) dX12_of_65 ?_
        refine lv_iload_n hx hb dX12_of_68 rfl (lv_at hl 1 rfl) ?_
        obtain ⟨o16, h⟩ := h
        refine w_iald (n := 4) (i := (sI a0)) hx hb hK.1 (t0 := 0) rfl hS (by decide) (zkd_of (rfl : zcd wR 4 = 54) rfl) (zln_of (rfl : zcd wR 4 = 54) rfl) rfl o16.1 o16.2 (by decide) dX12_of_69 ?_
        exact w_iret hx hb hr hlocks hS hS0 rfl h dX12_of_70
      have h := h.2 c15
      rcases Decidable.em ((sI a1) = 1) with c17 | c17
      · skip
        have h := h.1 c17
        refine w_tabIn (tgt := 71) hx hb rfl c17 dX12_of_30 (by decide) (by decide) rfl (by decide) ?_
        refine lv_aload_n hx hb dX12_of_71 rfl (lv_at hl 0 rfl) ?_
        refine w_getr (j2 := 5) hx hb hts (z_memU u12) hown hK.1 hS f12_6 (by decide) (zkd_of (rfl : zcd wR 0 = 50) rfl) (zrf_of (rfl : zcd wR 0 = 50) rfl) (Or.inl (hts _ (z_mem k950))) dX12_of_72 ?_
        refine lv_iload_n hx hb dX12_of_75 rfl (lv_at hl 1 rfl) ?_
        obtain ⟨o18, h⟩ := h
        refine w_iald (n := 4) (i := (sI a0)) hx hb hK.1 (t0 := 0) rfl hS (by decide) (zkd_of (rfl : zcd wR 5 = 55) rfl) (zln_of (rfl : zcd wR 5 = 55) rfl) rfl o18.1 o18.2 (by decide) dX12_of_76 ?_
        exact w_iret hx hb hr hlocks hS hS0 rfl h dX12_of_77
      have h := h.2 c17
      rcases Decidable.em ((sI a1) = 2) with c19 | c19
      · skip
        have h := h.1 c19
        refine w_tabIn (tgt := 78) hx hb rfl c19 dX12_of_30 (by decide) (by decide) rfl (by decide) ?_
        refine lv_aload_n hx hb dX12_of_78 rfl (lv_at hl 0 rfl) ?_
        refine w_getr (j2 := 6) hx hb hts (z_memU u12) hown hK.1 hS f12_7 (by decide) (zkd_of (rfl : zcd wR 0 = 50) rfl) (zrf_of (rfl : zcd wR 0 = 50) rfl) (Or.inl (hts _ (z_mem k951))) dX12_of_79 ?_
        refine lv_iload_n hx hb dX12_of_82 rfl (lv_at hl 1 rfl) ?_
        obtain ⟨o20, h⟩ := h
        refine w_iald (n := 4) (i := (sI a0)) hx hb hK.1 (t0 := 0) rfl hS (by decide) (zkd_of (rfl : zcd wR 6 = 56) rfl) (zln_of (rfl : zcd wR 6 = 56) rfl) rfl o20.1 o20.2 (by decide) dX12_of_83 ?_
        exact w_iret hx hb hr hlocks hS hS0 rfl h dX12_of_84
      have h := h.2 c19
      rcases Decidable.em ((sI a1) = 3) with c21 | c21
      · skip
        have h := h.1 c21
        refine w_tabIn (tgt := 85) hx hb rfl c21 dX12_of_30 (by decide) (by decide) rfl (by decide) ?_
        refine lv_aload_n hx hb dX12_of_85 rfl (lv_at hl 0 rfl) ?_
        refine w_getr (j2 := 7) hx hb hts (z_memU u12) hown hK.1 hS f12_8 (by decide) (zkd_of (rfl : zcd wR 0 = 50) rfl) (zrf_of (rfl : zcd wR 0 = 50) rfl) (Or.inl (hts _ (z_mem k952))) dX12_of_86 ?_
        refine lv_iload_n hx hb dX12_of_89 rfl (lv_at hl 1 rfl) ?_
        obtain ⟨o22, h⟩ := h
        refine w_iald (n := 4) (i := (sI a0)) hx hb hK.1 (t0 := 0) rfl hS (by decide) (zkd_of (rfl : zcd wR 7 = 57) rfl) (zln_of (rfl : zcd wR 7 = 57) rfl) rfl o22.1 o22.2 (by decide) dX12_of_90 ?_
        exact w_iret hx hb hr hlocks hS hS0 rfl h dX12_of_91
      have h := h.2 c21
      rcases Decidable.em ((sI a1) = 4) with c23 | c23
      · skip
        have h := h.1 c23
        refine w_tabIn (tgt := 92) hx hb rfl c23 dX12_of_30 (by decide) (by decide) rfl (by decide) ?_
        refine lv_aload_n hx hb dX12_of_92 rfl (lv_at hl 0 rfl) ?_
        refine lv_iload_n hx hb dX12_of_93 rfl (lv_at hl 1 rfl) ?_
        refine w_calli (va_runV (As := [.int (iI a0)]) (rest := []) ⟨hx, hb, hml, hown, hts⟩ (cR_round l D dA b M1 a0 _ h) (cwV 1 hts (z_gV k1125 k1126 k1398 k14 k1127) rfl rfl rfl dm_X12_round ⟨Nat.le_of_ble_eq_true rfl, Nat.le_of_ble_eq_true rfl⟩) ⟨wPre_blind, (w_recv hS hK.1 (by decide) (zkd_of (rfl : zcd wR 0 = 50) rfl) (by decide) (rfl : vwCl[12]? = some (RX12, TX12, 50))), w_pre hS hK⟩ rfl rfl hl.1 rfl (lv_room (Nat.le_of_ble_eq_true rfl)) dX12_of_94 ⟨Nat.le_refl _, Nat.le_refl _⟩) hS0 (fun z25 M24 H locs r26 h hS hS0 => ?_)
        obtain ⟨e27, h⟩ := h
        rw [e27] at hS
        exact w_iret hx hb hr hlocks hS hS0 (sI_of r26) h dX12_of_97
      have h := h.2 c23
      refine w_tabOut (tgt := 98) hx hb rfl dX12_of_30 (tb_0_4 _ c15 c17 c19 c21 c23) (by decide) ?_
      refine lv_aload_n hx hb dX12_of_98 rfl (lv_at hl 0 rfl) ?_
      refine w_getr (j2 := 8) hx hb hts (z_memU u12) hown hK.1 hS f12_9 (by decide) (zkd_of (rfl : zcd wR 0 = 50) rfl) (zrf_of (rfl : zcd wR 0 = 50) rfl) (Or.inl (hts _ (z_mem k953))) dX12_of_99 ?_
      refine lv_iload_n hx hb dX12_of_102 rfl (lv_at hl 1 rfl) ?_
      obtain ⟨o28, h⟩ := h
      refine w_iald (n := 4) (i := (sI a0)) hx hb hK.1 (t0 := 0) rfl hS (by decide) (zkd_of (rfl : zcd wR 8 = 58) rfl) (zln_of (rfl : zcd wR 8 = 58) rfl) rfl o28.1 o28.2 (by decide) dX12_of_103 ?_
      exact w_iret hx hb hr hlocks hS hS0 rfl h dX12_of_104
    · skip
      have h := h.2 c14
      refine lv_aload_n hx hb dX12_of_22 rfl (lv_at hl 0 rfl) ?_
      refine z_iconst hx hb dX12_of_23 ?_
      refine w_puti hx hb hts (z_memU u12) tyX12 tyX12_ok nmX12 hown hK.1 hS hS0 f12_35 (by decide) (zkd_of (rfl : zcd wR 0 = 50) rfl) (Or.inl (hts _ (z_mem k979))) rfl (z := 1) (by decide +kernel) dX12_of_24 (fun H locs hS hS0 => ?_)
      obtain ⟨M29, e30⟩ : ∃ M29 : zM, M29 = zup M1 0 35 1 := ⟨_, rfl⟩
      rw [← e30] at hS
      have h := h M29 e30
      refine z_iconst hx hb dX12_of_27 ?_
      exact w_iret hx hb hr hlocks hS hS0 (sI_of (by decide)) h dX12_of_28
end zz10_w16
section zz10_w17
/-! the W layer, 17 -/
theorem q10w17_0_0 : (cX12_allRounds.data.toList.drop 0).take 23 = [10, 64, 3, 62, 29, 42, 180, 0, 121, 162, 0, 35, 42, 29, 182, 0, 203, 54, 4, 31, 21, 4, 31] := by decide +kernel
theorem q10w17_0_23 : (cX12_allRounds.data.toList.drop 23).take 23 = [21, 4, 133, 113, 136, 184, 0, 191, 133, 109, 21, 4, 133, 105, 64, 132, 3, 1, 167, 255, 219, 31, 173] := by decide +kernel
theorem dX12_allRounds_0 : decode cX12_allRounds 0 = .ok (.lconst 1, 1) := dz_10 (dz_at q10w17_0_0 0)
theorem dX12_allRounds_1 : decode cX12_allRounds 1 = .ok (.lstore_n 1, 1) := dz_64 (dz_at q10w17_0_0 1)
theorem dX12_allRounds_12 : decode cX12_allRounds 12 = .ok (.aload_n 0, 1) := dz_42 (dz_at q10w17_0_0 12)
theorem dX12_allRounds_13 : decode cX12_allRounds 13 = .ok (.iload_n 3, 1) := dz_29 (dz_at q10w17_0_0 13)
theorem dX12_allRounds_14 : decode cX12_allRounds 14 = .ok (.invokevirtual 203, 3) := dz_182 (dz_at q10w17_0_0 14) rfl
theorem dX12_allRounds_17 : decode cX12_allRounds 17 = .ok (.istore 4, 2) := dz_54 (dz_at q10w17_0_0 17)
theorem dX12_allRounds_19 : decode cX12_allRounds 19 = .ok (.lload_n 1, 1) := dz_31 (dz_at q10w17_0_0 19)
theorem dX12_allRounds_2 : decode cX12_allRounds 2 = .ok (.iconst 0, 1) := dz_3 (dz_at q10w17_0_0 2)
theorem dX12_allRounds_20 : decode cX12_allRounds 20 = .ok (.iload 4, 2) := dz_21 (dz_at q10w17_0_0 20)
theorem dX12_allRounds_22 : decode cX12_allRounds 22 = .ok (.lload_n 1, 1) := dz_31 (dz_at q10w17_0_0 22)
theorem dX12_allRounds_23 : decode cX12_allRounds 23 = .ok (.iload 4, 2) := dz_21 (dz_at q10w17_0_23 0)
theorem dX12_allRounds_25 : decode cX12_allRounds 25 = .ok (.i2l, 1) := dz_133 (dz_at q10w17_0_23 2)
theorem dX12_allRounds_26 : decode cX12_allRounds 26 = .ok (.lrem, 1) := dz_113 (dz_at q10w17_0_23 3)
theorem dX12_allRounds_27 : decode cX12_allRounds 27 = .ok (.l2i, 1) := dz_136 (dz_at q10w17_0_23 4)
theorem dX12_allRounds_28 : decode cX12_allRounds 28 = .ok (.invokestatic 191, 3) := dz_184 (dz_at q10w17_0_23 5) rfl
theorem dX12_allRounds_3 : decode cX12_allRounds 3 = .ok (.istore_n 3, 1) := dz_62 (dz_at q10w17_0_0 3)
theorem dX12_allRounds_31 : decode cX12_allRounds 31 = .ok (.i2l, 1) := dz_133 (dz_at q10w17_0_23 8)
theorem dX12_allRounds_32 : decode cX12_allRounds 32 = .ok (.ldiv, 1) := dz_109 (dz_at q10w17_0_23 9)
theorem dX12_allRounds_33 : decode cX12_allRounds 33 = .ok (.iload 4, 2) := dz_21 (dz_at q10w17_0_23 10)
theorem dX12_allRounds_35 : decode cX12_allRounds 35 = .ok (.i2l, 1) := dz_133 (dz_at q10w17_0_23 12)
theorem dX12_allRounds_36 : decode cX12_allRounds 36 = .ok (.lmul, 1) := dz_105 (dz_at q10w17_0_23 13)
theorem dX12_allRounds_37 : decode cX12_allRounds 37 = .ok (.lstore_n 1, 1) := dz_64 (dz_at q10w17_0_23 14)
theorem dX12_allRounds_38 : decode cX12_allRounds 38 = .ok (.iinc 3 1, 3) := dz_132 (dz_at q10w17_0_23 15) (by decide +kernel)
theorem dX12_allRounds_4 : decode cX12_allRounds 4 = .ok (.iload_n 3, 1) := dz_29 (dz_at q10w17_0_0 4)
theorem dX12_allRounds_41 : decode cX12_allRounds 41 = .ok (.goto (-37), 3) := dz_167 (dz_at q10w17_0_23 18) (by decide +kernel)
theorem dX12_allRounds_44 : decode cX12_allRounds 44 = .ok (.lload_n 1, 1) := dz_31 (dz_at q10w17_0_23 21)
theorem dX12_allRounds_45 : decode cX12_allRounds 45 = .ok (.lreturn, 1) := dz_173 (dz_at q10w17_0_23 22)
theorem dX12_allRounds_5 : decode cX12_allRounds 5 = .ok (.aload_n 0, 1) := dz_42 (dz_at q10w17_0_0 5)
theorem dX12_allRounds_6 : decode cX12_allRounds 6 = .ok (.getfield 121, 3) := dz_180 (dz_at q10w17_0_0 6) rfl
theorem dX12_allRounds_9 : decode cX12_allRounds 9 = .ok (.if_icmp .ge 35, 3) := dz_162 (dz_at q10w17_0_0 9) (by decide +kernel)
theorem q10w17_1_0 : (cX12_all.data.toList.drop 0).take 10 = [42, 3, 181, 0, 118, 42, 182, 0, 233, 173] := by decide +kernel
theorem dX12_all_0 : decode cX12_all 0 = .ok (.aload_n 0, 1) := dz_42 (dz_at q10w17_1_0 0)
theorem dX12_all_1 : decode cX12_all 1 = .ok (.iconst 0, 1) := dz_3 (dz_at q10w17_1_0 1)
theorem dX12_all_2 : decode cX12_all 2 = .ok (.putfield 118, 3) := dz_181 (dz_at q10w17_1_0 2) rfl
theorem dX12_all_5 : decode cX12_all 5 = .ok (.aload_n 0, 1) := dz_42 (dz_at q10w17_1_0 5)
theorem dX12_all_6 : decode cX12_all 6 = .ok (.invokevirtual 233, 3) := dz_182 (dz_at q10w17_1_0 6) rfl
theorem dX12_all_9 : decode cX12_all 9 = .ok (.lreturn, 1) := dz_173 (dz_at q10w17_1_0 9)
theorem q10w17_2_0 : (cX12_heardAt.data.toList.drop 0).take 24 = [3, 62, 3, 54, 4, 21, 4, 16, 24, 162, 0, 48, 42, 180, 0, 29, 27, 46, 21, 4, 122, 4, 126, 4] := by decide +kernel
theorem q10w17_2_24 : (cX12_heardAt.data.toList.drop 24).take 24 = [160, 0, 27, 29, 42, 180, 0, 17, 16, 24, 27, 104, 28, 21, 4, 96, 42, 180, 0, 20, 27, 46, 112, 96] := by decide +kernel
theorem q10w17_2_48 : (cX12_heardAt.data.toList.drop 48).take 11 = [46, 128, 62, 132, 4, 1, 167, 255, 207, 29, 172] := by decide +kernel
theorem dX12_heardAt_0 : decode cX12_heardAt 0 = .ok (.iconst 0, 1) := dz_3 (dz_at q10w17_2_0 0)
theorem dX12_heardAt_1 : decode cX12_heardAt 1 = .ok (.istore_n 3, 1) := dz_62 (dz_at q10w17_2_0 1)
theorem dX12_heardAt_12 : decode cX12_heardAt 12 = .ok (.aload_n 0, 1) := dz_42 (dz_at q10w17_2_0 12)
theorem dX12_heardAt_13 : decode cX12_heardAt 13 = .ok (.getfield 29, 3) := dz_180 (dz_at q10w17_2_0 13) rfl
theorem dX12_heardAt_16 : decode cX12_heardAt 16 = .ok (.iload_n 1, 1) := dz_27 (dz_at q10w17_2_0 16)
theorem dX12_heardAt_17 : decode cX12_heardAt 17 = .ok (.iaload, 1) := dz_46 (dz_at q10w17_2_0 17)
theorem dX12_heardAt_18 : decode cX12_heardAt 18 = .ok (.iload 4, 2) := dz_21 (dz_at q10w17_2_0 18)
theorem dX12_heardAt_2 : decode cX12_heardAt 2 = .ok (.iconst 0, 1) := dz_3 (dz_at q10w17_2_0 2)
theorem dX12_heardAt_20 : decode cX12_heardAt 20 = .ok (.ishr, 1) := dz_122 (dz_at q10w17_2_0 20)
theorem dX12_heardAt_21 : decode cX12_heardAt 21 = .ok (.iconst 1, 1) := dz_4 (dz_at q10w17_2_0 21)
theorem dX12_heardAt_22 : decode cX12_heardAt 22 = .ok (.iand, 1) := dz_126 (dz_at q10w17_2_0 22)
theorem dX12_heardAt_23 : decode cX12_heardAt 23 = .ok (.iconst 1, 1) := dz_4 (dz_at q10w17_2_0 23)
theorem dX12_heardAt_24 : decode cX12_heardAt 24 = .ok (.if_icmp .ne 27, 3) := dz_160 (dz_at q10w17_2_24 0) (by decide +kernel)
theorem dX12_heardAt_27 : decode cX12_heardAt 27 = .ok (.iload_n 3, 1) := dz_29 (dz_at q10w17_2_24 3)
theorem dX12_heardAt_28 : decode cX12_heardAt 28 = .ok (.aload_n 0, 1) := dz_42 (dz_at q10w17_2_24 4)
theorem dX12_heardAt_29 : decode cX12_heardAt 29 = .ok (.getfield 17, 3) := dz_180 (dz_at q10w17_2_24 5) rfl
theorem dX12_heardAt_3 : decode cX12_heardAt 3 = .ok (.istore 4, 2) := dz_54 (dz_at q10w17_2_0 3)
theorem dX12_heardAt_32 : decode cX12_heardAt 32 = .ok (.bipush 24, 2) := dz_16 (dz_at q10w17_2_24 8) (by decide +kernel)
theorem dX12_heardAt_34 : decode cX12_heardAt 34 = .ok (.iload_n 1, 1) := dz_27 (dz_at q10w17_2_24 10)
theorem dX12_heardAt_35 : decode cX12_heardAt 35 = .ok (.imul, 1) := dz_104 (dz_at q10w17_2_24 11)
theorem dX12_heardAt_36 : decode cX12_heardAt 36 = .ok (.iload_n 2, 1) := dz_28 (dz_at q10w17_2_24 12)
theorem dX12_heardAt_37 : decode cX12_heardAt 37 = .ok (.iload 4, 2) := dz_21 (dz_at q10w17_2_24 13)
theorem dX12_heardAt_39 : decode cX12_heardAt 39 = .ok (.iadd, 1) := dz_96 (dz_at q10w17_2_24 15)
theorem dX12_heardAt_40 : decode cX12_heardAt 40 = .ok (.aload_n 0, 1) := dz_42 (dz_at q10w17_2_24 16)
theorem dX12_heardAt_41 : decode cX12_heardAt 41 = .ok (.getfield 20, 3) := dz_180 (dz_at q10w17_2_24 17) rfl
theorem dX12_heardAt_44 : decode cX12_heardAt 44 = .ok (.iload_n 1, 1) := dz_27 (dz_at q10w17_2_24 20)
theorem dX12_heardAt_45 : decode cX12_heardAt 45 = .ok (.iaload, 1) := dz_46 (dz_at q10w17_2_24 21)
theorem dX12_heardAt_46 : decode cX12_heardAt 46 = .ok (.irem, 1) := dz_112 (dz_at q10w17_2_24 22)
theorem dX12_heardAt_47 : decode cX12_heardAt 47 = .ok (.iadd, 1) := dz_96 (dz_at q10w17_2_24 23)
theorem dX12_heardAt_48 : decode cX12_heardAt 48 = .ok (.iaload, 1) := dz_46 (dz_at q10w17_2_48 0)
theorem dX12_heardAt_49 : decode cX12_heardAt 49 = .ok (.ior, 1) := dz_128 (dz_at q10w17_2_48 1)
theorem dX12_heardAt_5 : decode cX12_heardAt 5 = .ok (.iload 4, 2) := dz_21 (dz_at q10w17_2_0 5)
theorem dX12_heardAt_50 : decode cX12_heardAt 50 = .ok (.istore_n 3, 1) := dz_62 (dz_at q10w17_2_48 2)
theorem dX12_heardAt_51 : decode cX12_heardAt 51 = .ok (.iinc 4 1, 3) := dz_132 (dz_at q10w17_2_48 3) (by decide +kernel)
theorem dX12_heardAt_54 : decode cX12_heardAt 54 = .ok (.goto (-49), 3) := dz_167 (dz_at q10w17_2_48 6) (by decide +kernel)
theorem dX12_heardAt_57 : decode cX12_heardAt 57 = .ok (.iload_n 3, 1) := dz_29 (dz_at q10w17_2_48 9)
theorem dX12_heardAt_58 : decode cX12_heardAt 58 = .ok (.ireturn, 1) := dz_172 (dz_at q10w17_2_48 10)
theorem dX12_heardAt_7 : decode cX12_heardAt 7 = .ok (.bipush 24, 2) := dz_16 (dz_at q10w17_2_0 7) (by decide +kernel)
theorem dX12_heardAt_9 : decode cX12_heardAt 9 = .ok (.if_icmp .ge 48, 3) := dz_162 (dz_at q10w17_2_0 9) (by decide +kernel)
theorem q10w17_3_0 : (cX12_heardInAll.data.toList.drop 0).take 24 = [3, 62, 3, 54, 4, 21, 4, 42, 180, 0, 121, 162, 0, 19, 29, 42, 21, 4, 31, 182, 0, 225, 128, 62] := by decide +kernel
theorem q10w17_3_24 : (cX12_heardInAll.data.toList.drop 24).take 8 = [132, 4, 1, 167, 255, 234, 29, 172] := by decide +kernel
theorem dX12_heardInAll_0 : decode cX12_heardInAll 0 = .ok (.iconst 0, 1) := dz_3 (dz_at q10w17_3_0 0)
theorem dX12_heardInAll_1 : decode cX12_heardInAll 1 = .ok (.istore_n 3, 1) := dz_62 (dz_at q10w17_3_0 1)
theorem dX12_heardInAll_11 : decode cX12_heardInAll 11 = .ok (.if_icmp .ge 19, 3) := dz_162 (dz_at q10w17_3_0 11) (by decide +kernel)
theorem dX12_heardInAll_14 : decode cX12_heardInAll 14 = .ok (.iload_n 3, 1) := dz_29 (dz_at q10w17_3_0 14)
theorem dX12_heardInAll_15 : decode cX12_heardInAll 15 = .ok (.aload_n 0, 1) := dz_42 (dz_at q10w17_3_0 15)
theorem dX12_heardInAll_16 : decode cX12_heardInAll 16 = .ok (.iload 4, 2) := dz_21 (dz_at q10w17_3_0 16)
theorem dX12_heardInAll_18 : decode cX12_heardInAll 18 = .ok (.lload_n 1, 1) := dz_31 (dz_at q10w17_3_0 18)
theorem dX12_heardInAll_19 : decode cX12_heardInAll 19 = .ok (.invokevirtual 225, 3) := dz_182 (dz_at q10w17_3_0 19) rfl
theorem dX12_heardInAll_2 : decode cX12_heardInAll 2 = .ok (.iconst 0, 1) := dz_3 (dz_at q10w17_3_0 2)
theorem dX12_heardInAll_22 : decode cX12_heardInAll 22 = .ok (.ior, 1) := dz_128 (dz_at q10w17_3_0 22)
theorem dX12_heardInAll_23 : decode cX12_heardInAll 23 = .ok (.istore_n 3, 1) := dz_62 (dz_at q10w17_3_0 23)
theorem dX12_heardInAll_24 : decode cX12_heardInAll 24 = .ok (.iinc 4 1, 3) := dz_132 (dz_at q10w17_3_24 0) (by decide +kernel)
theorem dX12_heardInAll_27 : decode cX12_heardInAll 27 = .ok (.goto (-22), 3) := dz_167 (dz_at q10w17_3_24 3) (by decide +kernel)
theorem dX12_heardInAll_3 : decode cX12_heardInAll 3 = .ok (.istore 4, 2) := dz_54 (dz_at q10w17_3_0 3)
theorem dX12_heardInAll_30 : decode cX12_heardInAll 30 = .ok (.iload_n 3, 1) := dz_29 (dz_at q10w17_3_24 6)
theorem dX12_heardInAll_31 : decode cX12_heardInAll 31 = .ok (.ireturn, 1) := dz_172 (dz_at q10w17_3_24 7)
theorem dX12_heardInAll_5 : decode cX12_heardInAll 5 = .ok (.iload 4, 2) := dz_21 (dz_at q10w17_3_0 5)
theorem dX12_heardInAll_7 : decode cX12_heardInAll 7 = .ok (.aload_n 0, 1) := dz_42 (dz_at q10w17_3_0 7)
theorem dX12_heardInAll_8 : decode cX12_heardInAll 8 = .ok (.getfield 121, 3) := dz_180 (dz_at q10w17_3_0 8) rfl
theorem q10w17_4_0 : (cX12_heardOf.data.toList.drop 0).take 22 = [42, 27, 42, 180, 0, 26, 27, 46, 42, 42, 180, 0, 23, 27, 46, 32, 42, 180, 0, 20, 27, 46] := by decide +kernel
theorem q10w17_4_22 : (cX12_heardOf.data.toList.drop 22).take 15 = [182, 0, 218, 96, 42, 180, 0, 20, 27, 46, 112, 182, 0, 222, 172] := by decide +kernel
theorem dX12_heardOf_0 : decode cX12_heardOf 0 = .ok (.aload_n 0, 1) := dz_42 (dz_at q10w17_4_0 0)
theorem dX12_heardOf_1 : decode cX12_heardOf 1 = .ok (.iload_n 1, 1) := dz_27 (dz_at q10w17_4_0 1)
theorem dX12_heardOf_10 : decode cX12_heardOf 10 = .ok (.getfield 23, 3) := dz_180 (dz_at q10w17_4_0 10) rfl
theorem dX12_heardOf_13 : decode cX12_heardOf 13 = .ok (.iload_n 1, 1) := dz_27 (dz_at q10w17_4_0 13)
theorem dX12_heardOf_14 : decode cX12_heardOf 14 = .ok (.iaload, 1) := dz_46 (dz_at q10w17_4_0 14)
theorem dX12_heardOf_15 : decode cX12_heardOf 15 = .ok (.lload_n 2, 1) := dz_32 (dz_at q10w17_4_0 15)
theorem dX12_heardOf_16 : decode cX12_heardOf 16 = .ok (.aload_n 0, 1) := dz_42 (dz_at q10w17_4_0 16)
theorem dX12_heardOf_17 : decode cX12_heardOf 17 = .ok (.getfield 20, 3) := dz_180 (dz_at q10w17_4_0 17) rfl
theorem dX12_heardOf_2 : decode cX12_heardOf 2 = .ok (.aload_n 0, 1) := dz_42 (dz_at q10w17_4_0 2)
theorem dX12_heardOf_20 : decode cX12_heardOf 20 = .ok (.iload_n 1, 1) := dz_27 (dz_at q10w17_4_0 20)
theorem dX12_heardOf_21 : decode cX12_heardOf 21 = .ok (.iaload, 1) := dz_46 (dz_at q10w17_4_0 21)
theorem dX12_heardOf_22 : decode cX12_heardOf 22 = .ok (.invokevirtual 218, 3) := dz_182 (dz_at q10w17_4_22 0) rfl
theorem dX12_heardOf_25 : decode cX12_heardOf 25 = .ok (.iadd, 1) := dz_96 (dz_at q10w17_4_22 3)
theorem dX12_heardOf_26 : decode cX12_heardOf 26 = .ok (.aload_n 0, 1) := dz_42 (dz_at q10w17_4_22 4)
theorem dX12_heardOf_27 : decode cX12_heardOf 27 = .ok (.getfield 20, 3) := dz_180 (dz_at q10w17_4_22 5) rfl
theorem dX12_heardOf_3 : decode cX12_heardOf 3 = .ok (.getfield 26, 3) := dz_180 (dz_at q10w17_4_0 3) rfl
theorem dX12_heardOf_30 : decode cX12_heardOf 30 = .ok (.iload_n 1, 1) := dz_27 (dz_at q10w17_4_22 8)
theorem dX12_heardOf_31 : decode cX12_heardOf 31 = .ok (.iaload, 1) := dz_46 (dz_at q10w17_4_22 9)
theorem dX12_heardOf_32 : decode cX12_heardOf 32 = .ok (.irem, 1) := dz_112 (dz_at q10w17_4_22 10)
theorem dX12_heardOf_33 : decode cX12_heardOf 33 = .ok (.invokevirtual 222, 3) := dz_182 (dz_at q10w17_4_22 11) rfl
theorem dX12_heardOf_36 : decode cX12_heardOf 36 = .ok (.ireturn, 1) := dz_172 (dz_at q10w17_4_22 14)
theorem dX12_heardOf_6 : decode cX12_heardOf 6 = .ok (.iload_n 1, 1) := dz_27 (dz_at q10w17_4_0 6)
theorem dX12_heardOf_7 : decode cX12_heardOf 7 = .ok (.iaload, 1) := dz_46 (dz_at q10w17_4_0 7)
theorem dX12_heardOf_8 : decode cX12_heardOf 8 = .ok (.aload_n 0, 1) := dz_42 (dz_at q10w17_4_0 8)
theorem dX12_heardOf_9 : decode cX12_heardOf 9 = .ok (.aload_n 0, 1) := dz_42 (dz_at q10w17_4_0 9)
theorem q10w17_5_0 : (cX12_heard.data.toList.drop 0).take 24 = [42, 3, 181, 0, 118, 27, 2, 159, 0, 11, 42, 27, 182, 0, 168, 153, 0, 9, 32, 9, 148, 156, 0, 5] := by decide +kernel
theorem q10w17_5_24 : (cX12_heard.data.toList.drop 24).take 22 = [2, 172, 27, 2, 160, 0, 11, 42, 32, 182, 0, 229, 167, 0, 9, 42, 27, 32, 182, 0, 225, 172] := by decide +kernel
theorem dX12_heard_0 : decode cX12_heard 0 = .ok (.aload_n 0, 1) := dz_42 (dz_at q10w17_5_0 0)
theorem dX12_heard_1 : decode cX12_heard 1 = .ok (.iconst 0, 1) := dz_3 (dz_at q10w17_5_0 1)
theorem dX12_heard_10 : decode cX12_heard 10 = .ok (.aload_n 0, 1) := dz_42 (dz_at q10w17_5_0 10)
theorem dX12_heard_11 : decode cX12_heard 11 = .ok (.iload_n 1, 1) := dz_27 (dz_at q10w17_5_0 11)
theorem dX12_heard_12 : decode cX12_heard 12 = .ok (.invokevirtual 168, 3) := dz_182 (dz_at q10w17_5_0 12) rfl
theorem dX12_heard_15 : decode cX12_heard 15 = .ok (.ifCond .eq 9, 3) := dz_153 (dz_at q10w17_5_0 15) (by decide +kernel)
theorem dX12_heard_18 : decode cX12_heard 18 = .ok (.lload_n 2, 1) := dz_32 (dz_at q10w17_5_0 18)
theorem dX12_heard_19 : decode cX12_heard 19 = .ok (.lconst 0, 1) := dz_9 (dz_at q10w17_5_0 19)
theorem dX12_heard_2 : decode cX12_heard 2 = .ok (.putfield 118, 3) := dz_181 (dz_at q10w17_5_0 2) rfl
theorem dX12_heard_20 : decode cX12_heard 20 = .ok (.lcmp, 1) := dz_148 (dz_at q10w17_5_0 20)
theorem dX12_heard_21 : decode cX12_heard 21 = .ok (.ifCond .ge 5, 3) := dz_156 (dz_at q10w17_5_0 21) (by decide +kernel)
theorem dX12_heard_24 : decode cX12_heard 24 = .ok (.iconst (-1), 1) := dz_2 (dz_at q10w17_5_24 0)
theorem dX12_heard_25 : decode cX12_heard 25 = .ok (.ireturn, 1) := dz_172 (dz_at q10w17_5_24 1)
theorem dX12_heard_26 : decode cX12_heard 26 = .ok (.iload_n 1, 1) := dz_27 (dz_at q10w17_5_24 2)
theorem dX12_heard_27 : decode cX12_heard 27 = .ok (.iconst (-1), 1) := dz_2 (dz_at q10w17_5_24 3)
theorem dX12_heard_28 : decode cX12_heard 28 = .ok (.if_icmp .ne 11, 3) := dz_160 (dz_at q10w17_5_24 4) (by decide +kernel)
theorem dX12_heard_31 : decode cX12_heard 31 = .ok (.aload_n 0, 1) := dz_42 (dz_at q10w17_5_24 7)
theorem dX12_heard_32 : decode cX12_heard 32 = .ok (.lload_n 2, 1) := dz_32 (dz_at q10w17_5_24 8)
theorem dX12_heard_33 : decode cX12_heard 33 = .ok (.invokevirtual 229, 3) := dz_182 (dz_at q10w17_5_24 9) rfl
theorem dX12_heard_36 : decode cX12_heard 36 = .ok (.goto 9, 3) := dz_167 (dz_at q10w17_5_24 12) (by decide +kernel)
theorem dX12_heard_39 : decode cX12_heard 39 = .ok (.aload_n 0, 1) := dz_42 (dz_at q10w17_5_24 15)
theorem dX12_heard_40 : decode cX12_heard 40 = .ok (.iload_n 1, 1) := dz_27 (dz_at q10w17_5_24 16)
theorem dX12_heard_41 : decode cX12_heard 41 = .ok (.lload_n 2, 1) := dz_32 (dz_at q10w17_5_24 17)
theorem dX12_heard_42 : decode cX12_heard 42 = .ok (.invokevirtual 225, 3) := dz_182 (dz_at q10w17_5_24 18) rfl
theorem dX12_heard_45 : decode cX12_heard 45 = .ok (.ireturn, 1) := dz_172 (dz_at q10w17_5_24 21)
theorem dX12_heard_5 : decode cX12_heard 5 = .ok (.iload_n 1, 1) := dz_27 (dz_at q10w17_5_0 5)
theorem dX12_heard_6 : decode cX12_heard 6 = .ok (.iconst (-1), 1) := dz_2 (dz_at q10w17_5_0 6)
theorem dX12_heard_7 : decode cX12_heard 7 = .ok (.if_icmp .eq 11, 3) := dz_159 (dz_at q10w17_5_0 7) (by decide +kernel)
theorem q10w17_6_0 : (cX12_inch.data.toList.drop 0).take 23 = [42, 3, 181, 0, 118, 42, 27, 182, 0, 168, 153, 0, 33, 28, 3, 42, 180, 0, 20, 27, 46, 4, 100] := by decide +kernel
theorem q10w17_6_23 : (cX12_inch.data.toList.drop 23).take 22 = [184, 0, 124, 153, 0, 17, 42, 180, 0, 17, 16, 24, 27, 104, 28, 96, 46, 167, 0, 4, 2, 172] := by decide +kernel
theorem dX12_inch_0 : decode cX12_inch 0 = .ok (.aload_n 0, 1) := dz_42 (dz_at q10w17_6_0 0)
theorem dX12_inch_1 : decode cX12_inch 1 = .ok (.iconst 0, 1) := dz_3 (dz_at q10w17_6_0 1)
theorem dX12_inch_10 : decode cX12_inch 10 = .ok (.ifCond .eq 33, 3) := dz_153 (dz_at q10w17_6_0 10) (by decide +kernel)
theorem dX12_inch_13 : decode cX12_inch 13 = .ok (.iload_n 2, 1) := dz_28 (dz_at q10w17_6_0 13)
theorem dX12_inch_14 : decode cX12_inch 14 = .ok (.iconst 0, 1) := dz_3 (dz_at q10w17_6_0 14)
theorem dX12_inch_15 : decode cX12_inch 15 = .ok (.aload_n 0, 1) := dz_42 (dz_at q10w17_6_0 15)
theorem dX12_inch_16 : decode cX12_inch 16 = .ok (.getfield 20, 3) := dz_180 (dz_at q10w17_6_0 16) rfl
theorem dX12_inch_19 : decode cX12_inch 19 = .ok (.iload_n 1, 1) := dz_27 (dz_at q10w17_6_0 19)
theorem dX12_inch_2 : decode cX12_inch 2 = .ok (.putfield 118, 3) := dz_181 (dz_at q10w17_6_0 2) rfl
theorem dX12_inch_20 : decode cX12_inch 20 = .ok (.iaload, 1) := dz_46 (dz_at q10w17_6_0 20)
theorem dX12_inch_21 : decode cX12_inch 21 = .ok (.iconst 1, 1) := dz_4 (dz_at q10w17_6_0 21)
theorem dX12_inch_22 : decode cX12_inch 22 = .ok (.isub, 1) := dz_100 (dz_at q10w17_6_0 22)
theorem dX12_inch_23 : decode cX12_inch 23 = .ok (.invokestatic 124, 3) := dz_184 (dz_at q10w17_6_23 0) rfl
theorem dX12_inch_26 : decode cX12_inch 26 = .ok (.ifCond .eq 17, 3) := dz_153 (dz_at q10w17_6_23 3) (by decide +kernel)
theorem dX12_inch_29 : decode cX12_inch 29 = .ok (.aload_n 0, 1) := dz_42 (dz_at q10w17_6_23 6)
theorem dX12_inch_30 : decode cX12_inch 30 = .ok (.getfield 17, 3) := dz_180 (dz_at q10w17_6_23 7) rfl
theorem dX12_inch_33 : decode cX12_inch 33 = .ok (.bipush 24, 2) := dz_16 (dz_at q10w17_6_23 10) (by decide +kernel)
theorem dX12_inch_35 : decode cX12_inch 35 = .ok (.iload_n 1, 1) := dz_27 (dz_at q10w17_6_23 12)
theorem dX12_inch_36 : decode cX12_inch 36 = .ok (.imul, 1) := dz_104 (dz_at q10w17_6_23 13)
theorem dX12_inch_37 : decode cX12_inch 37 = .ok (.iload_n 2, 1) := dz_28 (dz_at q10w17_6_23 14)
theorem dX12_inch_38 : decode cX12_inch 38 = .ok (.iadd, 1) := dz_96 (dz_at q10w17_6_23 15)
theorem dX12_inch_39 : decode cX12_inch 39 = .ok (.iaload, 1) := dz_46 (dz_at q10w17_6_23 16)
theorem dX12_inch_40 : decode cX12_inch 40 = .ok (.goto 4, 3) := dz_167 (dz_at q10w17_6_23 17) (by decide +kernel)
theorem dX12_inch_43 : decode cX12_inch 43 = .ok (.iconst (-1), 1) := dz_2 (dz_at q10w17_6_23 20)
theorem dX12_inch_44 : decode cX12_inch 44 = .ok (.ireturn, 1) := dz_172 (dz_at q10w17_6_23 21)
theorem dX12_inch_5 : decode cX12_inch 5 = .ok (.aload_n 0, 1) := dz_42 (dz_at q10w17_6_0 5)
theorem dX12_inch_6 : decode cX12_inch 6 = .ok (.iload_n 1, 1) := dz_27 (dz_at q10w17_6_0 6)
theorem dX12_inch_7 : decode cX12_inch 7 = .ok (.invokevirtual 168, 3) := dz_182 (dz_at q10w17_6_0 7) rfl
theorem q10w17_7_0 : (cX12_wayBy.data.toList.drop 0).take 24 = [42, 27, 182, 0, 211, 133, 55, 5, 32, 22, 5, 148, 157, 0, 17, 42, 27, 32, 182, 0, 207, 21, 4, 133] := by decide +kernel
theorem q10w17_7_24 : (cX12_wayBy.data.toList.drop 24).take 24 = [184, 0, 214, 136, 172, 32, 22, 5, 101, 21, 4, 133, 113, 42, 27, 182, 0, 195, 133, 105, 55, 7, 42, 27] := by decide +kernel
theorem q10w17_7_48 : (cX12_wayBy.data.toList.drop 48).take 16 = [22, 5, 182, 0, 207, 22, 7, 97, 21, 4, 133, 184, 0, 214, 136, 172] := by decide +kernel
theorem dX12_wayBy_0 : decode cX12_wayBy 0 = .ok (.aload_n 0, 1) := dz_42 (dz_at q10w17_7_0 0)
theorem dX12_wayBy_1 : decode cX12_wayBy 1 = .ok (.iload_n 1, 1) := dz_27 (dz_at q10w17_7_0 1)
theorem dX12_wayBy_11 : decode cX12_wayBy 11 = .ok (.lcmp, 1) := dz_148 (dz_at q10w17_7_0 11)
theorem dX12_wayBy_12 : decode cX12_wayBy 12 = .ok (.ifCond .gt 17, 3) := dz_157 (dz_at q10w17_7_0 12) (by decide +kernel)
theorem dX12_wayBy_15 : decode cX12_wayBy 15 = .ok (.aload_n 0, 1) := dz_42 (dz_at q10w17_7_0 15)
theorem dX12_wayBy_16 : decode cX12_wayBy 16 = .ok (.iload_n 1, 1) := dz_27 (dz_at q10w17_7_0 16)
theorem dX12_wayBy_17 : decode cX12_wayBy 17 = .ok (.lload_n 2, 1) := dz_32 (dz_at q10w17_7_0 17)
theorem dX12_wayBy_18 : decode cX12_wayBy 18 = .ok (.invokevirtual 207, 3) := dz_182 (dz_at q10w17_7_0 18) rfl
theorem dX12_wayBy_2 : decode cX12_wayBy 2 = .ok (.invokevirtual 211, 3) := dz_182 (dz_at q10w17_7_0 2) rfl
theorem dX12_wayBy_21 : decode cX12_wayBy 21 = .ok (.iload 4, 2) := dz_21 (dz_at q10w17_7_0 21)
theorem dX12_wayBy_23 : decode cX12_wayBy 23 = .ok (.i2l, 1) := dz_133 (dz_at q10w17_7_0 23)
theorem dX12_wayBy_24 : decode cX12_wayBy 24 = .ok (.invokestatic 214, 3) := dz_184 (dz_at q10w17_7_24 0) rfl
theorem dX12_wayBy_27 : decode cX12_wayBy 27 = .ok (.l2i, 1) := dz_136 (dz_at q10w17_7_24 3)
theorem dX12_wayBy_28 : decode cX12_wayBy 28 = .ok (.ireturn, 1) := dz_172 (dz_at q10w17_7_24 4)
theorem dX12_wayBy_29 : decode cX12_wayBy 29 = .ok (.lload_n 2, 1) := dz_32 (dz_at q10w17_7_24 5)
theorem dX12_wayBy_30 : decode cX12_wayBy 30 = .ok (.lload 5, 2) := dz_22 (dz_at q10w17_7_24 6)
theorem dX12_wayBy_32 : decode cX12_wayBy 32 = .ok (.lsub, 1) := dz_101 (dz_at q10w17_7_24 8)
theorem dX12_wayBy_33 : decode cX12_wayBy 33 = .ok (.iload 4, 2) := dz_21 (dz_at q10w17_7_24 9)
theorem dX12_wayBy_35 : decode cX12_wayBy 35 = .ok (.i2l, 1) := dz_133 (dz_at q10w17_7_24 11)
theorem dX12_wayBy_36 : decode cX12_wayBy 36 = .ok (.lrem, 1) := dz_113 (dz_at q10w17_7_24 12)
theorem dX12_wayBy_37 : decode cX12_wayBy 37 = .ok (.aload_n 0, 1) := dz_42 (dz_at q10w17_7_24 13)
theorem dX12_wayBy_38 : decode cX12_wayBy 38 = .ok (.iload_n 1, 1) := dz_27 (dz_at q10w17_7_24 14)
theorem dX12_wayBy_39 : decode cX12_wayBy 39 = .ok (.invokevirtual 195, 3) := dz_182 (dz_at q10w17_7_24 15) rfl
theorem dX12_wayBy_42 : decode cX12_wayBy 42 = .ok (.i2l, 1) := dz_133 (dz_at q10w17_7_24 18)
theorem dX12_wayBy_43 : decode cX12_wayBy 43 = .ok (.lmul, 1) := dz_105 (dz_at q10w17_7_24 19)
theorem dX12_wayBy_44 : decode cX12_wayBy 44 = .ok (.lstore 7, 2) := dz_55 (dz_at q10w17_7_24 20)
theorem dX12_wayBy_46 : decode cX12_wayBy 46 = .ok (.aload_n 0, 1) := dz_42 (dz_at q10w17_7_24 22)
theorem dX12_wayBy_47 : decode cX12_wayBy 47 = .ok (.iload_n 1, 1) := dz_27 (dz_at q10w17_7_24 23)
theorem dX12_wayBy_48 : decode cX12_wayBy 48 = .ok (.lload 5, 2) := dz_22 (dz_at q10w17_7_48 0)
theorem dX12_wayBy_5 : decode cX12_wayBy 5 = .ok (.i2l, 1) := dz_133 (dz_at q10w17_7_0 5)
theorem dX12_wayBy_50 : decode cX12_wayBy 50 = .ok (.invokevirtual 207, 3) := dz_182 (dz_at q10w17_7_48 2) rfl
theorem dX12_wayBy_53 : decode cX12_wayBy 53 = .ok (.lload 7, 2) := dz_22 (dz_at q10w17_7_48 5)
theorem dX12_wayBy_55 : decode cX12_wayBy 55 = .ok (.ladd, 1) := dz_97 (dz_at q10w17_7_48 7)
theorem dX12_wayBy_56 : decode cX12_wayBy 56 = .ok (.iload 4, 2) := dz_21 (dz_at q10w17_7_48 8)
theorem dX12_wayBy_58 : decode cX12_wayBy 58 = .ok (.i2l, 1) := dz_133 (dz_at q10w17_7_48 10)
theorem dX12_wayBy_59 : decode cX12_wayBy 59 = .ok (.invokestatic 214, 3) := dz_184 (dz_at q10w17_7_48 11) rfl
theorem dX12_wayBy_6 : decode cX12_wayBy 6 = .ok (.lstore 5, 2) := dz_55 (dz_at q10w17_7_0 6)
theorem dX12_wayBy_62 : decode cX12_wayBy 62 = .ok (.l2i, 1) := dz_136 (dz_at q10w17_7_48 14)
theorem dX12_wayBy_63 : decode cX12_wayBy 63 = .ok (.ireturn, 1) := dz_172 (dz_at q10w17_7_48 15)
theorem dX12_wayBy_8 : decode cX12_wayBy 8 = .ok (.lload_n 2, 1) := dz_32 (dz_at q10w17_7_0 8)
theorem dX12_wayBy_9 : decode cX12_wayBy 9 = .ok (.lload 5, 2) := dz_22 (dz_at q10w17_7_0 9)
theorem q10w17_8_0 : (cX12_wayEarly.data.toList.drop 0).take 24 = [9, 55, 4, 9, 55, 6, 4, 54, 8, 3, 54, 9, 21, 9, 42, 180, 0, 41, 27, 46, 162, 0, 81, 42] := by decide +kernel
theorem q10w17_8_24 : (cX12_wayEarly.data.toList.drop 24).take 23 = [180, 0, 35, 16, 12, 27, 104, 21, 9, 96, 46, 133, 32, 148, 156, 0, 63, 22, 4, 21, 8, 133, 42] := by decide +kernel
theorem q10w17_8_47 : (cX12_wayEarly.data.toList.drop 47).take 23 = [180, 0, 35, 16, 12, 27, 104, 21, 9, 96, 46, 133, 22, 6, 101, 105, 97, 55, 4, 42, 180, 0, 35] := by decide +kernel
theorem q10w17_8_70 : (cX12_wayEarly.data.toList.drop 70).take 23 = [16, 12, 27, 104, 21, 9, 96, 46, 133, 55, 6, 42, 180, 0, 38, 16, 12, 27, 104, 21, 9, 96, 46] := by decide +kernel
theorem q10w17_8_93 : (cX12_wayEarly.data.toList.drop 93).take 20 = [54, 8, 132, 9, 1, 167, 255, 170, 22, 4, 21, 8, 133, 32, 22, 6, 101, 105, 97, 173] := by decide +kernel
theorem dX12_wayEarly_0 : decode cX12_wayEarly 0 = .ok (.lconst 0, 1) := dz_9 (dz_at q10w17_8_0 0)
theorem dX12_wayEarly_1 : decode cX12_wayEarly 1 = .ok (.lstore 4, 2) := dz_55 (dz_at q10w17_8_0 1)
theorem dX12_wayEarly_10 : decode cX12_wayEarly 10 = .ok (.istore 9, 2) := dz_54 (dz_at q10w17_8_0 10)
theorem dX12_wayEarly_101 : decode cX12_wayEarly 101 = .ok (.lload 4, 2) := dz_22 (dz_at q10w17_8_93 8)
theorem dX12_wayEarly_103 : decode cX12_wayEarly 103 = .ok (.iload 8, 2) := dz_21 (dz_at q10w17_8_93 10)
theorem dX12_wayEarly_105 : decode cX12_wayEarly 105 = .ok (.i2l, 1) := dz_133 (dz_at q10w17_8_93 12)
theorem dX12_wayEarly_106 : decode cX12_wayEarly 106 = .ok (.lload_n 2, 1) := dz_32 (dz_at q10w17_8_93 13)
theorem dX12_wayEarly_107 : decode cX12_wayEarly 107 = .ok (.lload 6, 2) := dz_22 (dz_at q10w17_8_93 14)
theorem dX12_wayEarly_109 : decode cX12_wayEarly 109 = .ok (.lsub, 1) := dz_101 (dz_at q10w17_8_93 16)
theorem dX12_wayEarly_110 : decode cX12_wayEarly 110 = .ok (.lmul, 1) := dz_105 (dz_at q10w17_8_93 17)
theorem dX12_wayEarly_111 : decode cX12_wayEarly 111 = .ok (.ladd, 1) := dz_97 (dz_at q10w17_8_93 18)
theorem dX12_wayEarly_112 : decode cX12_wayEarly 112 = .ok (.lreturn, 1) := dz_173 (dz_at q10w17_8_93 19)
theorem dX12_wayEarly_12 : decode cX12_wayEarly 12 = .ok (.iload 9, 2) := dz_21 (dz_at q10w17_8_0 12)
theorem dX12_wayEarly_14 : decode cX12_wayEarly 14 = .ok (.aload_n 0, 1) := dz_42 (dz_at q10w17_8_0 14)
theorem dX12_wayEarly_15 : decode cX12_wayEarly 15 = .ok (.getfield 41, 3) := dz_180 (dz_at q10w17_8_0 15) rfl
theorem dX12_wayEarly_18 : decode cX12_wayEarly 18 = .ok (.iload_n 1, 1) := dz_27 (dz_at q10w17_8_0 18)
theorem dX12_wayEarly_19 : decode cX12_wayEarly 19 = .ok (.iaload, 1) := dz_46 (dz_at q10w17_8_0 19)
theorem dX12_wayEarly_20 : decode cX12_wayEarly 20 = .ok (.if_icmp .ge 81, 3) := dz_162 (dz_at q10w17_8_0 20) (by decide +kernel)
theorem dX12_wayEarly_23 : decode cX12_wayEarly 23 = .ok (.aload_n 0, 1) := dz_42 (dz_at q10w17_8_0 23)
theorem dX12_wayEarly_24 : decode cX12_wayEarly 24 = .ok (.getfield 35, 3) := dz_180 (dz_at q10w17_8_24 0) rfl
theorem dX12_wayEarly_27 : decode cX12_wayEarly 27 = .ok (.bipush 12, 2) := dz_16 (dz_at q10w17_8_24 3) (by decide +kernel)
theorem dX12_wayEarly_29 : decode cX12_wayEarly 29 = .ok (.iload_n 1, 1) := dz_27 (dz_at q10w17_8_24 5)
theorem dX12_wayEarly_3 : decode cX12_wayEarly 3 = .ok (.lconst 0, 1) := dz_9 (dz_at q10w17_8_0 3)
theorem dX12_wayEarly_30 : decode cX12_wayEarly 30 = .ok (.imul, 1) := dz_104 (dz_at q10w17_8_24 6)
theorem dX12_wayEarly_31 : decode cX12_wayEarly 31 = .ok (.iload 9, 2) := dz_21 (dz_at q10w17_8_24 7)
theorem dX12_wayEarly_33 : decode cX12_wayEarly 33 = .ok (.iadd, 1) := dz_96 (dz_at q10w17_8_24 9)
theorem dX12_wayEarly_34 : decode cX12_wayEarly 34 = .ok (.iaload, 1) := dz_46 (dz_at q10w17_8_24 10)
theorem dX12_wayEarly_35 : decode cX12_wayEarly 35 = .ok (.i2l, 1) := dz_133 (dz_at q10w17_8_24 11)
theorem dX12_wayEarly_36 : decode cX12_wayEarly 36 = .ok (.lload_n 2, 1) := dz_32 (dz_at q10w17_8_24 12)
theorem dX12_wayEarly_37 : decode cX12_wayEarly 37 = .ok (.lcmp, 1) := dz_148 (dz_at q10w17_8_24 13)
theorem dX12_wayEarly_38 : decode cX12_wayEarly 38 = .ok (.ifCond .ge 63, 3) := dz_156 (dz_at q10w17_8_24 14) (by decide +kernel)
theorem dX12_wayEarly_4 : decode cX12_wayEarly 4 = .ok (.lstore 6, 2) := dz_55 (dz_at q10w17_8_0 4)
theorem dX12_wayEarly_41 : decode cX12_wayEarly 41 = .ok (.lload 4, 2) := dz_22 (dz_at q10w17_8_24 17)
theorem dX12_wayEarly_43 : decode cX12_wayEarly 43 = .ok (.iload 8, 2) := dz_21 (dz_at q10w17_8_24 19)
theorem dX12_wayEarly_45 : decode cX12_wayEarly 45 = .ok (.i2l, 1) := dz_133 (dz_at q10w17_8_24 21)
theorem dX12_wayEarly_46 : decode cX12_wayEarly 46 = .ok (.aload_n 0, 1) := dz_42 (dz_at q10w17_8_24 22)
theorem dX12_wayEarly_47 : decode cX12_wayEarly 47 = .ok (.getfield 35, 3) := dz_180 (dz_at q10w17_8_47 0) rfl
theorem dX12_wayEarly_50 : decode cX12_wayEarly 50 = .ok (.bipush 12, 2) := dz_16 (dz_at q10w17_8_47 3) (by decide +kernel)
theorem dX12_wayEarly_52 : decode cX12_wayEarly 52 = .ok (.iload_n 1, 1) := dz_27 (dz_at q10w17_8_47 5)
theorem dX12_wayEarly_53 : decode cX12_wayEarly 53 = .ok (.imul, 1) := dz_104 (dz_at q10w17_8_47 6)
theorem dX12_wayEarly_54 : decode cX12_wayEarly 54 = .ok (.iload 9, 2) := dz_21 (dz_at q10w17_8_47 7)
theorem dX12_wayEarly_56 : decode cX12_wayEarly 56 = .ok (.iadd, 1) := dz_96 (dz_at q10w17_8_47 9)
theorem dX12_wayEarly_57 : decode cX12_wayEarly 57 = .ok (.iaload, 1) := dz_46 (dz_at q10w17_8_47 10)
theorem dX12_wayEarly_58 : decode cX12_wayEarly 58 = .ok (.i2l, 1) := dz_133 (dz_at q10w17_8_47 11)
theorem dX12_wayEarly_59 : decode cX12_wayEarly 59 = .ok (.lload 6, 2) := dz_22 (dz_at q10w17_8_47 12)
theorem dX12_wayEarly_6 : decode cX12_wayEarly 6 = .ok (.iconst 1, 1) := dz_4 (dz_at q10w17_8_0 6)
theorem dX12_wayEarly_61 : decode cX12_wayEarly 61 = .ok (.lsub, 1) := dz_101 (dz_at q10w17_8_47 14)
theorem dX12_wayEarly_62 : decode cX12_wayEarly 62 = .ok (.lmul, 1) := dz_105 (dz_at q10w17_8_47 15)
theorem dX12_wayEarly_63 : decode cX12_wayEarly 63 = .ok (.ladd, 1) := dz_97 (dz_at q10w17_8_47 16)
theorem dX12_wayEarly_64 : decode cX12_wayEarly 64 = .ok (.lstore 4, 2) := dz_55 (dz_at q10w17_8_47 17)
theorem dX12_wayEarly_66 : decode cX12_wayEarly 66 = .ok (.aload_n 0, 1) := dz_42 (dz_at q10w17_8_47 19)
theorem dX12_wayEarly_67 : decode cX12_wayEarly 67 = .ok (.getfield 35, 3) := dz_180 (dz_at q10w17_8_47 20) rfl
theorem dX12_wayEarly_7 : decode cX12_wayEarly 7 = .ok (.istore 8, 2) := dz_54 (dz_at q10w17_8_0 7)
theorem dX12_wayEarly_70 : decode cX12_wayEarly 70 = .ok (.bipush 12, 2) := dz_16 (dz_at q10w17_8_70 0) (by decide +kernel)
theorem dX12_wayEarly_72 : decode cX12_wayEarly 72 = .ok (.iload_n 1, 1) := dz_27 (dz_at q10w17_8_70 2)
theorem dX12_wayEarly_73 : decode cX12_wayEarly 73 = .ok (.imul, 1) := dz_104 (dz_at q10w17_8_70 3)
theorem dX12_wayEarly_74 : decode cX12_wayEarly 74 = .ok (.iload 9, 2) := dz_21 (dz_at q10w17_8_70 4)
theorem dX12_wayEarly_76 : decode cX12_wayEarly 76 = .ok (.iadd, 1) := dz_96 (dz_at q10w17_8_70 6)
theorem dX12_wayEarly_77 : decode cX12_wayEarly 77 = .ok (.iaload, 1) := dz_46 (dz_at q10w17_8_70 7)
theorem dX12_wayEarly_78 : decode cX12_wayEarly 78 = .ok (.i2l, 1) := dz_133 (dz_at q10w17_8_70 8)
theorem dX12_wayEarly_79 : decode cX12_wayEarly 79 = .ok (.lstore 6, 2) := dz_55 (dz_at q10w17_8_70 9)
theorem dX12_wayEarly_81 : decode cX12_wayEarly 81 = .ok (.aload_n 0, 1) := dz_42 (dz_at q10w17_8_70 11)
theorem dX12_wayEarly_82 : decode cX12_wayEarly 82 = .ok (.getfield 38, 3) := dz_180 (dz_at q10w17_8_70 12) rfl
theorem dX12_wayEarly_85 : decode cX12_wayEarly 85 = .ok (.bipush 12, 2) := dz_16 (dz_at q10w17_8_70 15) (by decide +kernel)
theorem dX12_wayEarly_87 : decode cX12_wayEarly 87 = .ok (.iload_n 1, 1) := dz_27 (dz_at q10w17_8_70 17)
theorem dX12_wayEarly_88 : decode cX12_wayEarly 88 = .ok (.imul, 1) := dz_104 (dz_at q10w17_8_70 18)
theorem dX12_wayEarly_89 : decode cX12_wayEarly 89 = .ok (.iload 9, 2) := dz_21 (dz_at q10w17_8_70 19)
theorem dX12_wayEarly_9 : decode cX12_wayEarly 9 = .ok (.iconst 0, 1) := dz_3 (dz_at q10w17_8_0 9)
theorem dX12_wayEarly_91 : decode cX12_wayEarly 91 = .ok (.iadd, 1) := dz_96 (dz_at q10w17_8_70 21)
theorem dX12_wayEarly_92 : decode cX12_wayEarly 92 = .ok (.iaload, 1) := dz_46 (dz_at q10w17_8_70 22)
theorem dX12_wayEarly_93 : decode cX12_wayEarly 93 = .ok (.istore 8, 2) := dz_54 (dz_at q10w17_8_93 0)
theorem dX12_wayEarly_95 : decode cX12_wayEarly 95 = .ok (.iinc 9 1, 3) := dz_132 (dz_at q10w17_8_93 2) (by decide +kernel)
theorem dX12_wayEarly_98 : decode cX12_wayEarly 98 = .ok (.goto (-86), 3) := dz_167 (dz_at q10w17_8_93 5) (by decide +kernel)
theorem q10w17_9_0 : (cX12_way.data.toList.drop 0).take 24 = [42, 3, 181, 0, 118, 27, 184, 0, 165, 153, 0, 13, 28, 3, 18, 206, 184, 0, 124, 154, 0, 10, 42, 4] := by decide +kernel
theorem q10w17_9_24 : (cX12_way.data.toList.drop 24).take 13 = [181, 0, 118, 9, 173, 42, 27, 28, 133, 182, 0, 207, 173] := by decide +kernel
theorem dX12_way_0 : decode cX12_way 0 = .ok (.aload_n 0, 1) := dz_42 (dz_at q10w17_9_0 0)
theorem dX12_way_1 : decode cX12_way 1 = .ok (.iconst 0, 1) := dz_3 (dz_at q10w17_9_0 1)
theorem dX12_way_12 : decode cX12_way 12 = .ok (.iload_n 2, 1) := dz_28 (dz_at q10w17_9_0 12)
theorem dX12_way_13 : decode cX12_way 13 = .ok (.iconst 0, 1) := dz_3 (dz_at q10w17_9_0 13)
theorem dX12_way_14 : decode cX12_way 14 = .ok (.ldc 206, 2) := dz_18 (dz_at q10w17_9_0 14)
theorem dX12_way_16 : decode cX12_way 16 = .ok (.invokestatic 124, 3) := dz_184 (dz_at q10w17_9_0 16) rfl
theorem dX12_way_19 : decode cX12_way 19 = .ok (.ifCond .ne 10, 3) := dz_154 (dz_at q10w17_9_0 19) (by decide +kernel)
theorem dX12_way_2 : decode cX12_way 2 = .ok (.putfield 118, 3) := dz_181 (dz_at q10w17_9_0 2) rfl
theorem dX12_way_22 : decode cX12_way 22 = .ok (.aload_n 0, 1) := dz_42 (dz_at q10w17_9_0 22)
theorem dX12_way_23 : decode cX12_way 23 = .ok (.iconst 1, 1) := dz_4 (dz_at q10w17_9_0 23)
theorem dX12_way_24 : decode cX12_way 24 = .ok (.putfield 118, 3) := dz_181 (dz_at q10w17_9_24 0) rfl
theorem dX12_way_27 : decode cX12_way 27 = .ok (.lconst 0, 1) := dz_9 (dz_at q10w17_9_24 3)
theorem dX12_way_28 : decode cX12_way 28 = .ok (.lreturn, 1) := dz_173 (dz_at q10w17_9_24 4)
theorem dX12_way_29 : decode cX12_way 29 = .ok (.aload_n 0, 1) := dz_42 (dz_at q10w17_9_24 5)
theorem dX12_way_30 : decode cX12_way 30 = .ok (.iload_n 1, 1) := dz_27 (dz_at q10w17_9_24 6)
theorem dX12_way_31 : decode cX12_way 31 = .ok (.iload_n 2, 1) := dz_28 (dz_at q10w17_9_24 7)
theorem dX12_way_32 : decode cX12_way 32 = .ok (.i2l, 1) := dz_133 (dz_at q10w17_9_24 8)
theorem dX12_way_33 : decode cX12_way 33 = .ok (.invokevirtual 207, 3) := dz_182 (dz_at q10w17_9_24 9) rfl
theorem dX12_way_36 : decode cX12_way 36 = .ok (.lreturn, 1) := dz_173 (dz_at q10w17_9_24 12)
theorem dX12_way_5 : decode cX12_way 5 = .ok (.iload_n 1, 1) := dz_27 (dz_at q10w17_9_0 5)
theorem dX12_way_6 : decode cX12_way 6 = .ok (.invokestatic 165, 3) := dz_184 (dz_at q10w17_9_0 6) rfl
theorem dX12_way_9 : decode cX12_way 9 = .ok (.ifCond .eq 13, 3) := dz_153 (dz_at q10w17_9_0 9) (by decide +kernel)
theorem q10w17_10_0 : (cX12_wish.data.toList.drop 0).take 23 = [42, 3, 181, 0, 118, 42, 27, 182, 0, 168, 153, 0, 10, 28, 184, 0, 237, 154, 0, 5, 3, 172, 42] := by decide +kernel
theorem q10w17_10_23 : (cX12_wish.data.toList.drop 23).take 8 = [180, 0, 32, 27, 28, 79, 4, 172] := by decide +kernel
theorem dX12_wish_0 : decode cX12_wish 0 = .ok (.aload_n 0, 1) := dz_42 (dz_at q10w17_10_0 0)
theorem dX12_wish_1 : decode cX12_wish 1 = .ok (.iconst 0, 1) := dz_3 (dz_at q10w17_10_0 1)
theorem dX12_wish_10 : decode cX12_wish 10 = .ok (.ifCond .eq 10, 3) := dz_153 (dz_at q10w17_10_0 10) (by decide +kernel)
theorem dX12_wish_13 : decode cX12_wish 13 = .ok (.iload_n 2, 1) := dz_28 (dz_at q10w17_10_0 13)
theorem dX12_wish_14 : decode cX12_wish 14 = .ok (.invokestatic 237, 3) := dz_184 (dz_at q10w17_10_0 14) rfl
theorem dX12_wish_17 : decode cX12_wish 17 = .ok (.ifCond .ne 5, 3) := dz_154 (dz_at q10w17_10_0 17) (by decide +kernel)
theorem dX12_wish_2 : decode cX12_wish 2 = .ok (.putfield 118, 3) := dz_181 (dz_at q10w17_10_0 2) rfl
theorem dX12_wish_20 : decode cX12_wish 20 = .ok (.iconst 0, 1) := dz_3 (dz_at q10w17_10_0 20)
theorem dX12_wish_21 : decode cX12_wish 21 = .ok (.ireturn, 1) := dz_172 (dz_at q10w17_10_0 21)
theorem dX12_wish_22 : decode cX12_wish 22 = .ok (.aload_n 0, 1) := dz_42 (dz_at q10w17_10_0 22)
theorem dX12_wish_23 : decode cX12_wish 23 = .ok (.getfield 32, 3) := dz_180 (dz_at q10w17_10_23 0) rfl
theorem dX12_wish_26 : decode cX12_wish 26 = .ok (.iload_n 1, 1) := dz_27 (dz_at q10w17_10_23 3)
theorem dX12_wish_27 : decode cX12_wish 27 = .ok (.iload_n 2, 1) := dz_28 (dz_at q10w17_10_23 4)
theorem dX12_wish_28 : decode cX12_wish 28 = .ok (.iastore, 1) := dz_79 (dz_at q10w17_10_23 5)
theorem dX12_wish_29 : decode cX12_wish 29 = .ok (.iconst 1, 1) := dz_4 (dz_at q10w17_10_23 6)
theorem dX12_wish_30 : decode cX12_wish 30 = .ok (.ireturn, 1) := dz_172 (dz_at q10w17_10_23 7)
theorem dX12_wish_5 : decode cX12_wish 5 = .ok (.aload_n 0, 1) := dz_42 (dz_at q10w17_10_0 5)
theorem dX12_wish_6 : decode cX12_wish 6 = .ok (.iload_n 1, 1) := dz_27 (dz_at q10w17_10_0 6)
theorem dX12_wish_7 : decode cX12_wish 7 = .ok (.invokevirtual 168, 3) := dz_182 (dz_at q10w17_10_0 7) rfl
theorem dm_X12_wayEarly : yX12_wayEarly.cls = RX12 ∧ yX12_wayEarly.cls ≠ "java/lang/invoke/MethodHandle" ∧ yX12_wayEarly.cls ≠ "java/lang/invoke/VarHandle" ∧ (parseMethodDescriptor yX12_wayEarly.desc).map (fun d => d.parameters.length) = some 2 := by decide +kernel
theorem dm_X12_steady : yX12_steady.cls = RX12 ∧ yX12_steady.cls ≠ "java/lang/invoke/MethodHandle" ∧ yX12_steady.cls ≠ "java/lang/invoke/VarHandle" ∧ (parseMethodDescriptor yX12_steady.desc).map (fun d => d.parameters.length) = some 1 := by decide +kernel
theorem dm_X12_wayBy : yX12_wayBy.cls = RX12 ∧ yX12_wayBy.cls ≠ "java/lang/invoke/MethodHandle" ∧ yX12_wayBy.cls ≠ "java/lang/invoke/VarHandle" ∧ (parseMethodDescriptor yX12_wayBy.desc).map (fun d => d.parameters.length) = some 3 := by decide +kernel
theorem dm_X12_heardAt : yX12_heardAt.cls = RX12 ∧ yX12_heardAt.cls ≠ "java/lang/invoke/MethodHandle" ∧ yX12_heardAt.cls ≠ "java/lang/invoke/VarHandle" ∧ (parseMethodDescriptor yX12_heardAt.desc).map (fun d => d.parameters.length) = some 2 := by decide +kernel
theorem dm_X12_heardOf : yX12_heardOf.cls = RX12 ∧ yX12_heardOf.cls ≠ "java/lang/invoke/MethodHandle" ∧ yX12_heardOf.cls ≠ "java/lang/invoke/VarHandle" ∧ (parseMethodDescriptor yX12_heardOf.desc).map (fun d => d.parameters.length) = some 2 := by decide +kernel
theorem dm_X12_heardInAll : yX12_heardInAll.cls = RX12 ∧ yX12_heardInAll.cls ≠ "java/lang/invoke/MethodHandle" ∧ yX12_heardInAll.cls ≠ "java/lang/invoke/VarHandle" ∧ (parseMethodDescriptor yX12_heardInAll.desc).map (fun d => d.parameters.length) = some 1 := by decide +kernel
theorem dm_X12_allRounds : yX12_allRounds.cls = RX12 ∧ yX12_allRounds.cls ≠ "java/lang/invoke/MethodHandle" ∧ yX12_allRounds.cls ≠ "java/lang/invoke/VarHandle" ∧ (parseMethodDescriptor yX12_allRounds.desc).map (fun d => d.parameters.length) = some 0 := by decide +kernel
theorem dm_X12_areSounds : yX12_areSounds.cls = RX12 ∧ yX12_areSounds.cls ≠ "java/lang/invoke/MethodHandle" ∧ yX12_areSounds.cls ≠ "java/lang/invoke/VarHandle" ∧ (parseMethodDescriptor yX12_areSounds.desc).map (fun d => d.parameters.length) = some 1 := by decide +kernel
set_option maxRecDepth 100000 in
def wR_inch (a0 : Int) (a1 : Int) (M : zM) (Q : Int → zM → Prop) : Prop := (∀ M1 : zM, M1 = zup M 0 35 0 → wR_isRing a0 M1 (fun z4 => (z4 = 0 → Q (-1) M1) ∧ (z4 ≠ 0 → ((0 ≤ (sI a0) ∧ (sI a0) < 4) ∧ wR_in a1 0 ((M1 4 (sI a0).toNat) - 1) M1 (fun z10 => (z10 = 0 → Q (-1) M1) ∧ (z10 ≠ 0 → ((0 ≤ (sI ((24 * a0) + a1)) ∧ (sI ((24 * a0) + a1)) < 96) ∧ Q (sI (M1 3 (sI ((24 * a0) + a1)).toNat)) M1)))))))
set_option maxHeartbeats 4000000 in
set_option maxRecDepth 100000 in
theorem cR_inch (l : Launch) (D : va_G) (dA : Nat → ClassId) (b : Nat) (M : zM) (a0 : Int) (a1 : Int)  (Q : Int → zM → Prop) (h : wR_inch a0 a1 M Q) : Met l yX12_inch (.code yX12_inch cX12_inch 3 (some .int) :: zt) (z_rm 2) (va_Pc [.ref (b + 0), .int (iI a0), .int (iI a1)] (wPre D dA vwCl (z_tys dA) wR nR b M)) (va_Qi (wQi Q) (zB D dA vwCl wR nR b) (zA nR b)) 0 0 (zA nR b) := by
  unfold wR_inch at h
  refine Met.ofW (cc := cX12_inch) (maxL := 3) (ret := (some .int)) (by decide) rfl ?_
  intro p e s m args below meth c s₁ B hml hv
  obtain ⟨hargs, hS, hK⟩ := hv
  have hx := B.exec
  have hb := B.bytes
  have hr := B.returns
  have hts := atoms_spec (ws := .code yX12_inch cX12_inch 3 (some .int) :: zt) B.pre
  have hown : s.vm.findClass RX12 = some m.cls := findClass_of_methodNamed B.named
  have hlocks := B.notSynchronized
  have hS0 : va_S (zA nR b) s.heap s.heap [] := va_S.rf
  have hl := lv_entry ([.ref (b + 0), .int (iI a0), .int (iI a1)]) (n := 3) (Nat.le_of_ble_eq_true rfl)
  have hent : entryFrame m args 3 = F0 m 0 ((lg_sl ([.ref (b + 0), .int (iI a0), .int (iI a1)]) ++ List.replicate (3 - (lg_sl ([.ref (b + 0), .int (iI a0), .int (iI a1)])).length) Slot.unset).toArray) [] := by rw [hargs]; exact lg_entry_eq m ([.ref (b + 0), .int (iI a0), .int (iI a1)]) 3
  rw [hent]
  generalize (lg_sl ([.ref (b + 0), .int (iI a0), .int (iI a1)]) ++ List.replicate (3 - (lg_sl ([.ref (b + 0), .int (iI a0), .int (iI a1)])).length) Slot.unset).toArray = ls at hl ⊢
  have hl : lv_has ls 3 [(0, .ref (b + 0)), (1, .int (iI a0)), (2, .int (iI a1))] := hl
  refine lv_aload_n hx hb dX12_inch_0 rfl (lv_at hl 0 rfl) ?_
  refine z_iconst hx hb dX12_inch_1 ?_
  refine w_puti hx hb hts (z_memU u12) tyX12 tyX12_ok nmX12 hown hK.1 hS hS0 f12_35 (by decide) (zkd_of (rfl : zcd wR 0 = 50) rfl) (Or.inl (hts _ (z_mem k979))) rfl (z := 0) (by decide +kernel) dX12_inch_2 (fun H locs hS hS0 => ?_)
  obtain ⟨M1, e2⟩ : ∃ M1 : zM, M1 = zup M 0 35 0 := ⟨_, rfl⟩
  rw [← e2] at hS
  have h := h M1 e2
  refine lv_aload_n hx hb dX12_inch_5 rfl (lv_at hl 0 rfl) ?_
  refine lv_iload_n hx hb dX12_inch_6 rfl (lv_at hl 1 rfl) ?_
  refine w_callz (va_runV (As := [.int (iI a0)]) (rest := []) ⟨hx, hb, hml, hown, hts⟩ (cR_isRing l D dA b M1 a0 _ h) (cwV 1 hts (z_gV k1097 k1098 k1397 k14 k1099) rfl rfl rfl dm_X12_isRing ⟨Nat.le_of_ble_eq_true rfl, Nat.le_of_ble_eq_true rfl⟩) ⟨wPre_blind, (w_recv hS hK.1 (by decide) (zkd_of (rfl : zcd wR 0 = 50) rfl) (by decide) (rfl : vwCl[12]? = some (RX12, TX12, 50))), w_pre hS hK⟩ rfl rfl hl.1 rfl (lv_room (Nat.le_of_ble_eq_true rfl)) dX12_inch_7 ⟨Nat.le_refl _, Nat.le_refl _⟩) hS0 (fun z4 M3 H locs r5 h hS hS0 => ?_)
  obtain ⟨e6, h⟩ := h
  rw [e6] at hS
  refine w_if_eq (tgt := 43) hx hb (sI_01 r5) dX12_inch_10 (by decide) (fun c7 => ?_) (fun c7 => ?_)
  · skip
    have h := h.1 c7
    refine z_iconst hx hb dX12_inch_43 ?_
    exact w_iret hx hb hr hlocks hS hS0 (sI_of (by decide)) h dX12_inch_44
  · skip
    have h := h.2 c7
    refine lv_iload_n hx hb dX12_inch_13 rfl (lv_at hl 2 rfl) ?_
    refine z_iconst hx hb dX12_inch_14 ?_
    refine lv_aload_n hx hb dX12_inch_15 rfl (lv_at hl 0 rfl) ?_
    refine w_getr (j2 := 4) hx hb hts (z_memU u12) hown hK.1 hS f12_5 (by decide) (zkd_of (rfl : zcd wR 0 = 50) rfl) (zrf_of (rfl : zcd wR 0 = 50) rfl) (Or.inl (hts _ (z_mem k949))) dX12_inch_16 ?_
    refine lv_iload_n hx hb dX12_inch_19 rfl (lv_at hl 1 rfl) ?_
    obtain ⟨o8, h⟩ := h
    refine w_iald (n := 4) (i := (sI a0)) hx hb hK.1 (t0 := 0) rfl hS (by decide) (zkd_of (rfl : zcd wR 4 = 54) rfl) (zln_of (rfl : zcd wR 4 = 54) rfl) rfl o8.1 o8.2 (by decide) dX12_inch_20 ?_
    refine z_iconst hx hb dX12_inch_21 ?_
    refine z_isub hx hb dX12_inch_22 ?_
    refine w_callz (va_runS (As := [.int (iI a1), .int (iI 0), .int (iI ((M1 4 (sI a0).toNat) - 1))]) (rest := []) ⟨hx, hb, hml, hown, hts⟩ (cR_in l D dA b M1 a1 0 ((M1 4 (sI a0).toNat) - 1) _ h) (va_cwS 3 hts (z_gS k1083 k1084 k14 k1085) rfl rfl rfl dm_X12_in.2 ⟨Nat.le_of_ble_eq_true rfl, Nat.le_of_ble_eq_true rfl⟩) ⟨wPre_blind, w_pre hS hK⟩ rfl rfl hl.1 rfl (lv_room (Nat.le_of_ble_eq_true rfl)) dX12_inch_23 ⟨Nat.le_refl _, Nat.le_refl _⟩) hS0 (fun z10 M9 H locs r11 h hS hS0 => ?_)
    obtain ⟨e12, h⟩ := h
    rw [e12] at hS
    refine w_if_eq (tgt := 43) hx hb (sI_01 r11) dX12_inch_26 (by decide) (fun c13 => ?_) (fun c13 => ?_)
    · skip
      have h := h.1 c13
      refine z_iconst hx hb dX12_inch_43 ?_
      exact w_iret hx hb hr hlocks hS hS0 (sI_of (by decide)) h dX12_inch_44
    · skip
      have h := h.2 c13
      refine lv_aload_n hx hb dX12_inch_29 rfl (lv_at hl 0 rfl) ?_
      refine w_getr (j2 := 3) hx hb hts (z_memU u12) hown hK.1 hS f12_4 (by decide) (zkd_of (rfl : zcd wR 0 = 50) rfl) (zrf_of (rfl : zcd wR 0 = 50) rfl) (Or.inl (hts _ (z_mem k948))) dX12_inch_30 ?_
      refine z_bipush hx hb (by decide) dX12_inch_33 ?_
      refine lv_iload_n hx hb dX12_inch_35 rfl (lv_at hl 1 rfl) ?_
      refine z_imul hx hb dX12_inch_36 ?_
      refine lv_iload_n hx hb dX12_inch_37 rfl (lv_at hl 2 rfl) ?_
      refine z_iadd hx hb dX12_inch_38 ?_
      obtain ⟨o14, h⟩ := h
      refine w_iald (n := 96) (i := (sI ((24 * a0) + a1))) hx hb hK.1 (t0 := 0) rfl hS (by decide) (zkd_of (rfl : zcd wR 3 = 53) rfl) (zln_of (rfl : zcd wR 3 = 53) rfl) rfl o14.1 o14.2 (by decide) dX12_inch_39 ?_
      refine lv_goto (tgt := 44) hx hb dX12_inch_40 (by decide) ?_
      exact w_iret hx hb hr hlocks hS hS0 rfl h dX12_inch_44

set_option maxRecDepth 100000 in
def wR_wayEarly (a0 : Int) (a1 : Int) (M : zM) (Q : Int → Prop) : Prop := pL4 (fun K12 x1 x2 x3 x4 => ((0 ≤ (sI a0) ∧ (sI a0) < 2) ∧ pJ0 (fun J101 => ((sI (M 11 (sI a0).toNat)) ≤ (sI x4) → J101) ∧ ((sI x4) < (sI (M 11 (sI a0).toNat)) → ((0 ≤ (sI ((12 * a0) + x4)) ∧ (sI ((12 * a0) + x4)) < 24) ∧ ((sL a1) ≤ (sI (M 9 (sI ((12 * a0) + x4)).toNat)) → J101) ∧ ((sI (M 9 (sI ((12 * a0) + x4)).toNat)) < (sL a1) → ((0 ≤ (sI ((12 * a0) + x4)) ∧ (sI ((12 * a0) + x4)) < 24) ∧ (∀ t29 : Int, t29 = (x1 + ((sI x3) * ((sI (M 9 (sI ((12 * a0) + x4)).toNat)) - x2))) → ((0 ≤ (sI ((12 * a0) + x4)) ∧ (sI ((12 * a0) + x4)) < 24) ∧ ((0 ≤ (sI ((12 * a0) + x4)) ∧ (sI ((12 * a0) + x4)) < 24) ∧ K12 t29 (sI (M 9 (sI ((12 * a0) + x4)).toNat)) (M 10 (sI ((12 * a0) + x4)).toNat) (x4 + 1))))))))) (Q (sL (x1 + ((sI x3) * (a1 - x2))))))) 0 0 1 0
set_option maxHeartbeats 4000000 in
set_option maxRecDepth 100000 in
theorem cR_wayEarly (l : Launch) (D : va_G) (dA : Nat → ClassId) (b : Nat) (M : zM) (a0 : Int) (a1 : Int)  (Q : Int → Prop) (h : wR_wayEarly a0 a1 M Q) : Met l yX12_wayEarly (.code yX12_wayEarly cX12_wayEarly 10 (some .long) :: zt) (z_rm 0) (va_Pc [.ref (b + 0), .int (iI a0), .long (iL a1)] (wPre D dA vwCl (z_tys dA) wR nR b M)) (va_Ql (wQl (fun z9 u9 => u9 = M ∧ Q z9)) (zB D dA vwCl wR nR b) (zA nR b)) 0 0 (zA nR b) := by
  unfold wR_wayEarly at h
  refine Met.ofW (cc := cX12_wayEarly) (maxL := 10) (ret := (some .long)) (by decide) rfl ?_
  intro p e s m args below meth c s₁ B hml hv
  obtain ⟨hargs, hS, hK⟩ := hv
  have hx := B.exec
  have hb := B.bytes
  have hr := B.returns
  have hts := atoms_spec (ws := .code yX12_wayEarly cX12_wayEarly 10 (some .long) :: zt) B.pre
  have hown : s.vm.findClass RX12 = some m.cls := findClass_of_methodNamed B.named
  have hlocks := B.notSynchronized
  have hS0 : va_S (zA nR b) s.heap s.heap [] := va_S.rf
  have hl := lv_entry ([.ref (b + 0), .int (iI a0), .long (iL a1)]) (n := 10) (Nat.le_of_ble_eq_true rfl)
  have hent : entryFrame m args 10 = F0 m 0 ((lg_sl ([.ref (b + 0), .int (iI a0), .long (iL a1)]) ++ List.replicate (10 - (lg_sl ([.ref (b + 0), .int (iI a0), .long (iL a1)])).length) Slot.unset).toArray) [] := by rw [hargs]; exact lg_entry_eq m ([.ref (b + 0), .int (iI a0), .long (iL a1)]) 10
  rw [hent]
  generalize (lg_sl ([.ref (b + 0), .int (iI a0), .long (iL a1)]) ++ List.replicate (10 - (lg_sl ([.ref (b + 0), .int (iI a0), .long (iL a1)])).length) Slot.unset).toArray = ls at hl ⊢
  have hl : lv_has ls 10 [(0, .ref (b + 0)), (1, .int (iI a0)), (2, .long (iL a1))] := hl
  refine z_lconst0 hx hb dX12_wayEarly_0 ?_
  refine lv_lstore (lv' := [(4, .long (iL 0)), (0, .ref (b + 0)), (1, .int (iI a0)), (2, .long (iL a1))]) hx hb dX12_wayEarly_1 hl (by decide) rfl (fun ls hl => ?_)
  refine z_lconst0 hx hb dX12_wayEarly_3 ?_
  refine lv_lstore (lv' := [(6, .long (iL 0)), (4, .long (iL 0)), (0, .ref (b + 0)), (1, .int (iI a0)), (2, .long (iL a1))]) hx hb dX12_wayEarly_4 hl (by decide) rfl (fun ls hl => ?_)
  refine z_iconst hx hb dX12_wayEarly_6 ?_
  refine lv_istore (lv' := [(8, .int (iI 1)), (6, .long (iL 0)), (4, .long (iL 0)), (0, .ref (b + 0)), (1, .int (iI a0)), (2, .long (iL a1))]) hx hb dX12_wayEarly_7 hl (by decide) rfl (fun ls hl => ?_)
  refine z_iconst hx hb dX12_wayEarly_9 ?_
  refine lv_istore (lv' := [(9, .int (iI 0)), (8, .int (iI 1)), (6, .long (iL 0)), (4, .long (iL 0)), (0, .ref (b + 0)), (1, .int (iI a0)), (2, .long (iL a1))]) hx hb dX12_wayEarly_10 hl (by decide) rfl (fun ls hl => ?_)
  obtain ⟨I5, ⟨n6, h7⟩, h8⟩ := h
  have L9 : ∀ (n10 : Nat) (x1 x2 x3 x4 : Int) (H : Heap) (locs : List Loc) (ls : Array Slot), I5 n10 x1 x2 x3 x4 → zR D dA vwCl wR nR b M H → va_S (zA nR b) s.heap H locs → lv_has ls 10 [(0, .ref (b + 0)), (1, .int (iI a0)), (2, .long (iL a1)), (4, .long (iL x1)), (6, .long (iL x2)), (8, .int (iI x3)), (9, .int (iI x4))] → W p l e (headSpec (.code yX12_wayEarly cX12_wayEarly 10 (some .long) :: zt) (z_rm 0)).room s m args below meth c H locs 0 0 (MQ below (va_Ql (wQl (fun z9 u9 => u9 = M ∧ Q z9)) (zB D dA vwCl wR nR b) (zA nR b)) args s 0 0 (zA nR b)) (F0 m 12 ls []) := by
    intro n10
    induction n10 using Nat.strongRecOn with
    | ind n10 i11 =>
      intro x1 x2 x3 x4 H locs ls h hS hS0 hl
      have h := h8 n10 x1 x2 x3 x4 h
      refine lv_iload hx hb dX12_wayEarly_12 (lv_at hl 6 rfl) ?_
      refine lv_aload_n hx hb dX12_wayEarly_14 rfl (lv_at hl 0 rfl) ?_
      refine w_getr (j2 := 11) hx hb hts (z_memU u12) hown hK.1 hS f12_13 (by decide) (zkd_of (rfl : zcd wR 0 = 50) rfl) (zrf_of (rfl : zcd wR 0 = 50) rfl) (Or.inl (hts _ (z_mem k957))) dX12_wayEarly_15 ?_
      refine lv_iload_n hx hb dX12_wayEarly_18 rfl (lv_at hl 1 rfl) ?_
      obtain ⟨o12, h⟩ := h
      refine w_iald (n := 2) (i := (sI a0)) hx hb hK.1 (t0 := 0) rfl hS (by decide) (zkd_of (rfl : zcd wR 11 = 61) rfl) (zln_of (rfl : zcd wR 11 = 61) rfl) rfl o12.1 o12.2 (by decide) dX12_wayEarly_19 ?_
      obtain ⟨J101, B24, h⟩ := h
      have L23 : ∀ (H : Heap) (locs : List Loc) (ls : Array Slot), J101 → zR D dA vwCl wR nR b M H → va_S (zA nR b) s.heap H locs → lv_has ls 10 [(2, .long (iL a1)), (4, .long (iL x1)), (6, .long (iL x2)), (8, .int (iI x3))] → W p l e (headSpec (.code yX12_wayEarly cX12_wayEarly 10 (some .long) :: zt) (z_rm 0)).room s m args below meth c H locs 0 0 (MQ below (va_Ql (wQl (fun z9 u9 => u9 = M ∧ Q z9)) (zB D dA vwCl wR nR b) (zA nR b)) args s 0 0 (zA nR b)) (F0 m 101 ls []) := by
        intro  H locs ls h hS hS0 hl
        have h := B24 h
        refine lv_lload hx hb dX12_wayEarly_101 (lv_at hl 1 rfl) ?_
        refine lv_iload hx hb dX12_wayEarly_103 (lv_at hl 3 rfl) ?_
        refine w_i2l hx hb rfl dX12_wayEarly_105 ?_
        refine lv_lload_n hx hb dX12_wayEarly_106 rfl (lv_at hl 0 rfl) ?_
        refine lv_lload hx hb dX12_wayEarly_107 (lv_at hl 2 rfl) ?_
        refine z_lsub hx hb dX12_wayEarly_109 ?_
        refine z_lmul hx hb dX12_wayEarly_110 ?_
        refine z_ladd hx hb dX12_wayEarly_111 ?_
        exact w_lret hx hb hr hlocks hS hS0 rfl ⟨rfl, h⟩ dX12_wayEarly_112
      refine w_icmp_ge (tgt := 101) hx hb rfl rfl dX12_wayEarly_20 (by decide) (fun c25 => ?_) (fun c25 => ?_)
      · skip
        have h := h.1 c25
        exact L23 _ _ _ h hS hS0 (lv_sub hl [2, 3, 4, 5] rfl)
      · skip
        have h := h.2 c25
        refine lv_aload_n hx hb dX12_wayEarly_23 rfl (lv_at hl 0 rfl) ?_
        refine w_getr (j2 := 9) hx hb hts (z_memU u12) hown hK.1 hS f12_11 (by decide) (zkd_of (rfl : zcd wR 0 = 50) rfl) (zrf_of (rfl : zcd wR 0 = 50) rfl) (Or.inl (hts _ (z_mem k955))) dX12_wayEarly_24 ?_
        refine z_bipush hx hb (by decide) dX12_wayEarly_27 ?_
        refine lv_iload_n hx hb dX12_wayEarly_29 rfl (lv_at hl 1 rfl) ?_
        refine z_imul hx hb dX12_wayEarly_30 ?_
        refine lv_iload hx hb dX12_wayEarly_31 (lv_at hl 6 rfl) ?_
        refine z_iadd hx hb dX12_wayEarly_33 ?_
        obtain ⟨o26, h⟩ := h
        refine w_iald (n := 24) (i := (sI ((12 * a0) + x4))) hx hb hK.1 (t0 := 0) rfl hS (by decide) (zkd_of (rfl : zcd wR 9 = 59) rfl) (zln_of (rfl : zcd wR 9 = 59) rfl) rfl o26.1 o26.2 (by decide) dX12_wayEarly_34 ?_
        refine w_i2l hx hb rfl dX12_wayEarly_35 ?_
        refine lv_lload_n hx hb dX12_wayEarly_36 rfl (lv_at hl 2 rfl) ?_
        refine w_lcmp_ge hx hb (sL_ofI rfl) rfl dX12_wayEarly_37 dX12_wayEarly_38 (tgt := 101) (by decide) (fun c27 => ?_) (fun c27 => ?_)
        · skip
          have h := h.1 c27
          exact L23 _ _ _ h hS hS0 (lv_sub hl [2, 3, 4, 5] rfl)
        · skip
          have h := h.2 c27
          refine lv_lload hx hb dX12_wayEarly_41 (lv_at hl 3 rfl) ?_
          refine lv_iload hx hb dX12_wayEarly_43 (lv_at hl 5 rfl) ?_
          refine w_i2l hx hb rfl dX12_wayEarly_45 ?_
          refine lv_aload_n hx hb dX12_wayEarly_46 rfl (lv_at hl 0 rfl) ?_
          refine w_getr (j2 := 9) hx hb hts (z_memU u12) hown hK.1 hS f12_11 (by decide) (zkd_of (rfl : zcd wR 0 = 50) rfl) (zrf_of (rfl : zcd wR 0 = 50) rfl) (Or.inl (hts _ (z_mem k955))) dX12_wayEarly_47 ?_
          refine z_bipush hx hb (by decide) dX12_wayEarly_50 ?_
          refine lv_iload_n hx hb dX12_wayEarly_52 rfl (lv_at hl 1 rfl) ?_
          refine z_imul hx hb dX12_wayEarly_53 ?_
          refine lv_iload hx hb dX12_wayEarly_54 (lv_at hl 6 rfl) ?_
          refine z_iadd hx hb dX12_wayEarly_56 ?_
          obtain ⟨o28, h⟩ := h
          refine w_iald (n := 24) (i := (sI ((12 * a0) + x4))) hx hb hK.1 (t0 := 0) rfl hS (by decide) (zkd_of (rfl : zcd wR 9 = 59) rfl) (zln_of (rfl : zcd wR 9 = 59) rfl) rfl o28.1 o28.2 (by decide) dX12_wayEarly_57 ?_
          refine w_i2l hx hb rfl dX12_wayEarly_58 ?_
          refine lv_lload hx hb dX12_wayEarly_59 (lv_at hl 4 rfl) ?_
          refine z_lsub hx hb dX12_wayEarly_61 ?_
          refine z_lmul hx hb dX12_wayEarly_62 ?_
          refine z_ladd hx hb dX12_wayEarly_63 ?_
          obtain ⟨t29, e30⟩ : ∃ t29 : Int, t29 = (x1 + ((sI x3) * ((sI (M 9 (sI ((12 * a0) + x4)).toNat)) - x2))) := ⟨_, rfl⟩
          refine z_topl (y := t29) e30.symm ?_
          have h := h t29 e30
          refine lv_lstore (lv' := [(4, .long (iL t29)), (0, .ref (b + 0)), (1, .int (iI a0)), (2, .long (iL a1)), (6, .long (iL x2)), (8, .int (iI x3)), (9, .int (iI x4))]) hx hb dX12_wayEarly_64 hl (by decide) rfl (fun ls hl => ?_)
          refine lv_aload_n hx hb dX12_wayEarly_66 rfl (lv_at hl 1 rfl) ?_
          refine w_getr (j2 := 9) hx hb hts (z_memU u12) hown hK.1 hS f12_11 (by decide) (zkd_of (rfl : zcd wR 0 = 50) rfl) (zrf_of (rfl : zcd wR 0 = 50) rfl) (Or.inl (hts _ (z_mem k955))) dX12_wayEarly_67 ?_
          refine z_bipush hx hb (by decide) dX12_wayEarly_70 ?_
          refine lv_iload_n hx hb dX12_wayEarly_72 rfl (lv_at hl 2 rfl) ?_
          refine z_imul hx hb dX12_wayEarly_73 ?_
          refine lv_iload hx hb dX12_wayEarly_74 (lv_at hl 6 rfl) ?_
          refine z_iadd hx hb dX12_wayEarly_76 ?_
          obtain ⟨o31, h⟩ := h
          refine w_iald (n := 24) (i := (sI ((12 * a0) + x4))) hx hb hK.1 (t0 := 0) rfl hS (by decide) (zkd_of (rfl : zcd wR 9 = 59) rfl) (zln_of (rfl : zcd wR 9 = 59) rfl) rfl o31.1 o31.2 (by decide) dX12_wayEarly_77 ?_
          refine w_i2l hx hb rfl dX12_wayEarly_78 ?_
          refine lv_lstore (lv' := [(6, .long (iL (sI (M 9 (sI ((12 * a0) + x4)).toNat)))), (4, .long (iL t29)), (0, .ref (b + 0)), (1, .int (iI a0)), (2, .long (iL a1)), (8, .int (iI x3)), (9, .int (iI x4))]) hx hb dX12_wayEarly_79 hl (by decide) rfl (fun ls hl => ?_)
          refine lv_aload_n hx hb dX12_wayEarly_81 rfl (lv_at hl 2 rfl) ?_
          refine w_getr (j2 := 10) hx hb hts (z_memU u12) hown hK.1 hS f12_12 (by decide) (zkd_of (rfl : zcd wR 0 = 50) rfl) (zrf_of (rfl : zcd wR 0 = 50) rfl) (Or.inl (hts _ (z_mem k956))) dX12_wayEarly_82 ?_
          refine z_bipush hx hb (by decide) dX12_wayEarly_85 ?_
          refine lv_iload_n hx hb dX12_wayEarly_87 rfl (lv_at hl 3 rfl) ?_
          refine z_imul hx hb dX12_wayEarly_88 ?_
          refine lv_iload hx hb dX12_wayEarly_89 (lv_at hl 6 rfl) ?_
          refine z_iadd hx hb dX12_wayEarly_91 ?_
          obtain ⟨o32, h⟩ := h
          refine w_iald (n := 24) (i := (sI ((12 * a0) + x4))) hx hb hK.1 (t0 := 0) rfl hS (by decide) (zkd_of (rfl : zcd wR 10 = 60) rfl) (zln_of (rfl : zcd wR 10 = 60) rfl) rfl o32.1 o32.2 (by decide) dX12_wayEarly_92 ?_
          refine lv_istore (lv' := [(8, .int (iI (M 10 (sI ((12 * a0) + x4)).toNat))), (6, .long (iL (sI (M 9 (sI ((12 * a0) + x4)).toNat)))), (4, .long (iL t29)), (0, .ref (b + 0)), (1, .int (iI a0)), (2, .long (iL a1)), (9, .int (iI x4))]) hx hb dX12_wayEarly_93 hl (by decide) rfl (fun ls hl => ?_)
          refine z_iinc (lv' := [(9, .int (iI (x4 + 1))), (8, .int (iI (M 10 (sI ((12 * a0) + x4)).toNat))), (6, .long (iL (sI (M 9 (sI ((12 * a0) + x4)).toNat)))), (4, .long (iL t29)), (0, .ref (b + 0)), (1, .int (iI a0)), (2, .long (iL a1))]) hx hb dX12_wayEarly_95 hl (k := 6) rfl (by decide) rfl (fun ls hl => ?_)
          refine lv_goto (tgt := 12) hx hb dX12_wayEarly_98 (by decide) ?_
          obtain ⟨n33, h34, h⟩ := h
          exact i11 n33 h34 t29 (sI (M 9 (sI ((12 * a0) + x4)).toNat)) (M 10 (sI ((12 * a0) + x4)).toNat) (x4 + 1) _ _ _ h hS hS0 (lv_sub hl [4, 5, 6, 3, 2, 1, 0] rfl)
  exact L9 n6 0 0 1 0 _ _ _ h7 hS hS0 (lv_sub hl [4, 5, 6, 3, 2, 1, 0] rfl)

set_option maxRecDepth 100000 in
def wR_way (a0 : Int) (a1 : Int) (M : zM) (Q : Int → zM → Prop) : Prop := (∀ M1 : zM, M1 = zup M 0 35 0 → wR_isMotor a0 M1 (fun z4 => (z4 = 0 → (∀ M8 : zM, M8 = zup M1 0 35 1 → Q 0 M8)) ∧ (z4 ≠ 0 → wR_in a1 0 1000000000 M1 (fun z11 => (z11 ≠ 0 → wR_wayEarly a0 (sI a1) M1 (fun z16 => Q z16 M1)) ∧ (z11 = 0 → (∀ M19 : zM, M19 = zup M1 0 35 1 → Q 0 M19))))))
set_option maxHeartbeats 4000000 in
set_option maxRecDepth 100000 in
theorem cR_way (l : Launch) (D : va_G) (dA : Nat → ClassId) (b : Nat) (M : zM) (a0 : Int) (a1 : Int)  (Q : Int → zM → Prop) (h : wR_way a0 a1 M Q) : Met l yX12_way (.code yX12_way cX12_way 3 (some .long) :: zt) (z_rm 1) (va_Pc [.ref (b + 0), .int (iI a0), .int (iI a1)] (wPre D dA vwCl (z_tys dA) wR nR b M)) (va_Ql (wQl Q) (zB D dA vwCl wR nR b) (zA nR b)) 0 0 (zA nR b) := by
  unfold wR_way at h
  refine Met.ofW (cc := cX12_way) (maxL := 3) (ret := (some .long)) (by decide) rfl ?_
  intro p e s m args below meth c s₁ B hml hv
  obtain ⟨hargs, hS, hK⟩ := hv
  have hx := B.exec
  have hb := B.bytes
  have hr := B.returns
  have hts := atoms_spec (ws := .code yX12_way cX12_way 3 (some .long) :: zt) B.pre
  have hown : s.vm.findClass RX12 = some m.cls := findClass_of_methodNamed B.named
  have hlocks := B.notSynchronized
  have hS0 : va_S (zA nR b) s.heap s.heap [] := va_S.rf
  have hl := lv_entry ([.ref (b + 0), .int (iI a0), .int (iI a1)]) (n := 3) (Nat.le_of_ble_eq_true rfl)
  have hent : entryFrame m args 3 = F0 m 0 ((lg_sl ([.ref (b + 0), .int (iI a0), .int (iI a1)]) ++ List.replicate (3 - (lg_sl ([.ref (b + 0), .int (iI a0), .int (iI a1)])).length) Slot.unset).toArray) [] := by rw [hargs]; exact lg_entry_eq m ([.ref (b + 0), .int (iI a0), .int (iI a1)]) 3
  rw [hent]
  generalize (lg_sl ([.ref (b + 0), .int (iI a0), .int (iI a1)]) ++ List.replicate (3 - (lg_sl ([.ref (b + 0), .int (iI a0), .int (iI a1)])).length) Slot.unset).toArray = ls at hl ⊢
  have hl : lv_has ls 3 [(0, .ref (b + 0)), (1, .int (iI a0)), (2, .int (iI a1))] := hl
  refine lv_aload_n hx hb dX12_way_0 rfl (lv_at hl 0 rfl) ?_
  refine z_iconst hx hb dX12_way_1 ?_
  refine w_puti hx hb hts (z_memU u12) tyX12 tyX12_ok nmX12 hown hK.1 hS hS0 f12_35 (by decide) (zkd_of (rfl : zcd wR 0 = 50) rfl) (Or.inl (hts _ (z_mem k979))) rfl (z := 0) (by decide +kernel) dX12_way_2 (fun H locs hS hS0 => ?_)
  obtain ⟨M1, e2⟩ : ∃ M1 : zM, M1 = zup M 0 35 0 := ⟨_, rfl⟩
  rw [← e2] at hS
  have h := h M1 e2
  refine lv_iload_n hx hb dX12_way_5 rfl (lv_at hl 1 rfl) ?_
  refine w_callz (va_runS (As := [.int (iI a0)]) (rest := []) ⟨hx, hb, hml, hown, hts⟩ (cR_isMotor l D dA b M1 a0 _ h) (va_cwS 1 hts (z_gS k1090 k1091 k14 k1092) rfl rfl rfl dm_X12_isMotor.2 ⟨Nat.le_of_ble_eq_true rfl, Nat.le_of_ble_eq_true rfl⟩) ⟨wPre_blind, w_pre hS hK⟩ rfl rfl hl.1 rfl (lv_room (Nat.le_of_ble_eq_true rfl)) dX12_way_6 ⟨Nat.le_refl _, Nat.le_refl _⟩) hS0 (fun z4 M3 H locs r5 h hS hS0 => ?_)
  obtain ⟨e6, h⟩ := h
  rw [e6] at hS
  refine w_if_eq (tgt := 22) hx hb (sI_01 r5) dX12_way_9 (by decide) (fun c7 => ?_) (fun c7 => ?_)
  · skip
    have h := h.1 c7
    refine lv_aload_n hx hb dX12_way_22 rfl (lv_at hl 0 rfl) ?_
    refine z_iconst hx hb dX12_way_23 ?_
    refine w_puti hx hb hts (z_memU u12) tyX12 tyX12_ok nmX12 hown hK.1 hS hS0 f12_35 (by decide) (zkd_of (rfl : zcd wR 0 = 50) rfl) (Or.inl (hts _ (z_mem k979))) rfl (z := 1) (by decide +kernel) dX12_way_24 (fun H locs hS hS0 => ?_)
    obtain ⟨M8, e9⟩ : ∃ M8 : zM, M8 = zup M1 0 35 1 := ⟨_, rfl⟩
    rw [← e9] at hS
    have h := h M8 e9
    refine z_lconst0 hx hb dX12_way_27 ?_
    exact w_lret hx hb hr hlocks hS hS0 (sL_of (by decide)) h dX12_way_28
  · skip
    have h := h.2 c7
    refine lv_iload_n hx hb dX12_way_12 rfl (lv_at hl 2 rfl) ?_
    refine z_iconst hx hb dX12_way_13 ?_
    refine z_ldc (n := 1000000000) hx hb hown (hts _ (z_mem k1143)) (by decide) dX12_way_14 ?_
    refine w_callz (va_runS (As := [.int (iI a1), .int (iI 0), .int (iI 1000000000)]) (rest := []) ⟨hx, hb, hml, hown, hts⟩ (cR_in l D dA b M1 a1 0 1000000000 _ h) (va_cwS 3 hts (z_gS k1083 k1084 k14 k1085) rfl rfl rfl dm_X12_in.2 ⟨Nat.le_of_ble_eq_true rfl, Nat.le_of_ble_eq_true rfl⟩) ⟨wPre_blind, w_pre hS hK⟩ rfl rfl hl.1 rfl (lv_room (Nat.le_of_ble_eq_true rfl)) dX12_way_16 ⟨Nat.le_refl _, Nat.le_refl _⟩) hS0 (fun z11 M10 H locs r12 h hS hS0 => ?_)
    obtain ⟨e13, h⟩ := h
    rw [e13] at hS
    refine w_if_ne (tgt := 29) hx hb (sI_01 r12) dX12_way_19 (by decide) (fun c14 => ?_) (fun c14 => ?_)
    · skip
      have h := h.1 c14
      refine lv_aload_n hx hb dX12_way_29 rfl (lv_at hl 0 rfl) ?_
      refine lv_iload_n hx hb dX12_way_30 rfl (lv_at hl 1 rfl) ?_
      refine lv_iload_n hx hb dX12_way_31 rfl (lv_at hl 2 rfl) ?_
      refine w_i2l hx hb rfl dX12_way_32 ?_
      refine w_calll (va_runV (As := [.int (iI a0), .long (iL (sI a1))]) (rest := []) ⟨hx, hb, hml, hown, hts⟩ (cR_wayEarly l D dA b M1 a0 (sI a1) _ h) (cwV 2 hts (z_gV k1144 k1145 k1400 k14 k1146) rfl rfl rfl dm_X12_wayEarly ⟨Nat.le_of_ble_eq_true rfl, Nat.le_of_ble_eq_true rfl⟩) ⟨wPre_blind, (w_recv hS hK.1 (by decide) (zkd_of (rfl : zcd wR 0 = 50) rfl) (by decide) (rfl : vwCl[12]? = some (RX12, TX12, 50))), w_pre hS hK⟩ rfl rfl hl.1 rfl (lv_room (Nat.le_of_ble_eq_true rfl)) dX12_way_33 ⟨Nat.le_refl _, Nat.le_refl _⟩) hS0 (fun z16 M15 H locs r17 h hS hS0 => ?_)
      obtain ⟨e18, h⟩ := h
      rw [e18] at hS
      exact w_lret hx hb hr hlocks hS hS0 (sL_of r17) h dX12_way_36
    · skip
      have h := h.2 c14
      refine lv_aload_n hx hb dX12_way_22 rfl (lv_at hl 0 rfl) ?_
      refine z_iconst hx hb dX12_way_23 ?_
      refine w_puti hx hb hts (z_memU u12) tyX12 tyX12_ok nmX12 hown hK.1 hS hS0 f12_35 (by decide) (zkd_of (rfl : zcd wR 0 = 50) rfl) (Or.inl (hts _ (z_mem k979))) rfl (z := 1) (by decide +kernel) dX12_way_24 (fun H locs hS hS0 => ?_)
      obtain ⟨M19, e20⟩ : ∃ M19 : zM, M19 = zup M1 0 35 1 := ⟨_, rfl⟩
      rw [← e20] at hS
      have h := h M19 e20
      refine z_lconst0 hx hb dX12_way_27 ?_
      exact w_lret hx hb hr hlocks hS hS0 (sL_of (by decide)) h dX12_way_28

set_option maxRecDepth 100000 in
def wR_wayBy (a0 : Int) (a1 : Int) (a2 : Int) (M : zM) (Q : Int → Prop) : Prop := wR_steady a0 M (fun z2 => (z2 < (sL a1) → (((sI a2) ≠ 0) ∧ wR_lastSpeed a0 M (fun z8 => wR_wayEarly a0 z2 M (fun z12 => ((0 < (sI a2)) ∧ Q (sI ((sL (z12 + (((sL (a1 - z2)).tmod (sI a2)) * z8))) % (sI a2)))))))) ∧ ((sL a1) ≤ z2 → wR_wayEarly a0 a1 M (fun z17 => ((0 < (sI a2)) ∧ Q (sI (z17 % (sI a2)))))))
set_option maxHeartbeats 4000000 in
set_option maxRecDepth 100000 in
theorem cR_wayBy (l : Launch) (D : va_G) (dA : Nat → ClassId) (b : Nat) (M : zM) (a0 : Int) (a1 : Int) (a2 : Int)  (Q : Int → Prop) (h : wR_wayBy a0 a1 a2 M Q) : Met l yX12_wayBy (.code yX12_wayBy cX12_wayBy 9 (some .int) :: zt) (z_rm 1) (va_Pc [.ref (b + 0), .int (iI a0), .long (iL a1), .int (iI a2)] (wPre D dA vwCl (z_tys dA) wR nR b M)) (va_Qi (wQi (fun z9 u9 => u9 = M ∧ Q z9)) (zB D dA vwCl wR nR b) (zA nR b)) 0 0 (zA nR b) := by
  unfold wR_wayBy at h
  refine Met.ofW (cc := cX12_wayBy) (maxL := 9) (ret := (some .int)) (by decide) rfl ?_
  intro p e s m args below meth c s₁ B hml hv
  obtain ⟨hargs, hS, hK⟩ := hv
  have hx := B.exec
  have hb := B.bytes
  have hr := B.returns
  have hts := atoms_spec (ws := .code yX12_wayBy cX12_wayBy 9 (some .int) :: zt) B.pre
  have hown : s.vm.findClass RX12 = some m.cls := findClass_of_methodNamed B.named
  have hlocks := B.notSynchronized
  have hS0 : va_S (zA nR b) s.heap s.heap [] := va_S.rf
  have hl := lv_entry ([.ref (b + 0), .int (iI a0), .long (iL a1), .int (iI a2)]) (n := 9) (Nat.le_of_ble_eq_true rfl)
  have hent : entryFrame m args 9 = F0 m 0 ((lg_sl ([.ref (b + 0), .int (iI a0), .long (iL a1), .int (iI a2)]) ++ List.replicate (9 - (lg_sl ([.ref (b + 0), .int (iI a0), .long (iL a1), .int (iI a2)])).length) Slot.unset).toArray) [] := by rw [hargs]; exact lg_entry_eq m ([.ref (b + 0), .int (iI a0), .long (iL a1), .int (iI a2)]) 9
  rw [hent]
  generalize (lg_sl ([.ref (b + 0), .int (iI a0), .long (iL a1), .int (iI a2)]) ++ List.replicate (9 - (lg_sl ([.ref (b + 0), .int (iI a0), .long (iL a1), .int (iI a2)])).length) Slot.unset).toArray = ls at hl ⊢
  have hl : lv_has ls 9 [(0, .ref (b + 0)), (1, .int (iI a0)), (2, .long (iL a1)), (4, .int (iI a2))] := hl
  refine lv_aload_n hx hb dX12_wayBy_0 rfl (lv_at hl 0 rfl) ?_
  refine lv_iload_n hx hb dX12_wayBy_1 rfl (lv_at hl 1 rfl) ?_
  refine w_calli (va_runV (As := [.int (iI a0)]) (rest := []) ⟨hx, hb, hml, hown, hts⟩ (cR_steady l D dA b M a0 _ h) (cwV 1 hts (z_gV k1160 k1161 k1404 k14 k1162) rfl rfl rfl dm_X12_steady ⟨Nat.le_of_ble_eq_true rfl, Nat.le_of_ble_eq_true rfl⟩) ⟨wPre_blind, (w_recv hS hK.1 (by decide) (zkd_of (rfl : zcd wR 0 = 50) rfl) (by decide) (rfl : vwCl[12]? = some (RX12, TX12, 50))), w_pre hS hK⟩ rfl rfl hl.1 rfl (lv_room (Nat.le_of_ble_eq_true rfl)) dX12_wayBy_2 ⟨Nat.le_refl _, Nat.le_refl _⟩) hS0 (fun z2 M1 H locs r3 h hS hS0 => ?_)
  obtain ⟨e4, h⟩ := h
  rw [e4] at hS
  refine w_i2l hx hb (sI_of r3) dX12_wayBy_5 ?_
  refine lv_lstore (lv' := [(5, .long (iL z2)), (0, .ref (b + 0)), (1, .int (iI a0)), (2, .long (iL a1)), (4, .int (iI a2))]) hx hb dX12_wayBy_6 hl (by decide) rfl (fun ls hl => ?_)
  refine lv_lload_n hx hb dX12_wayBy_8 rfl (lv_at hl 3 rfl) ?_
  refine lv_lload hx hb dX12_wayBy_9 (lv_at hl 0 rfl) ?_
  refine w_lcmp_gt hx hb rfl (sL_ofI (sI_of r3)) dX12_wayBy_11 dX12_wayBy_12 (tgt := 29) (by decide) (fun c5 => ?_) (fun c5 => ?_)
  · skip
    have h := h.1 c5
    refine lv_lload_n hx hb dX12_wayBy_29 rfl (lv_at hl 3 rfl) ?_
    refine lv_lload hx hb dX12_wayBy_30 (lv_at hl 0 rfl) ?_
    refine z_lsub hx hb dX12_wayBy_32 ?_
    refine lv_iload hx hb dX12_wayBy_33 (lv_at hl 4 rfl) ?_
    refine w_i2l hx hb rfl dX12_wayBy_35 ?_
    obtain ⟨o6, h⟩ := h
    refine w_lrem hx hb rfl (sL_ofI rfl) o6 dX12_wayBy_36 ?_
    refine lv_aload_n hx hb dX12_wayBy_37 rfl (lv_at hl 1 rfl) ?_
    refine lv_iload_n hx hb dX12_wayBy_38 rfl (lv_at hl 2 rfl) ?_
    refine w_calli (va_runV (As := [.int (iI a0)]) (rest := [.long (iL ((sL (a1 - z2)).tmod (sI a2)))]) ⟨hx, hb, hml, hown, hts⟩ (cR_lastSpeed l D dA b M a0 _ h) (cwV 1 hts (z_gV k1128 k1129 k1399 k14 k1130) rfl rfl rfl dm_X12_lastSpeed ⟨Nat.le_of_ble_eq_true rfl, Nat.le_of_ble_eq_true rfl⟩) ⟨wPre_blind, (w_recv hS hK.1 (by decide) (zkd_of (rfl : zcd wR 0 = 50) rfl) (by decide) (rfl : vwCl[12]? = some (RX12, TX12, 50))), w_pre hS hK⟩ rfl rfl hl.1 rfl (lv_room (Nat.le_of_ble_eq_true rfl)) dX12_wayBy_39 ⟨Nat.le_refl _, Nat.le_refl _⟩) hS0 (fun z8 M7 H locs r9 h hS hS0 => ?_)
    obtain ⟨e10, h⟩ := h
    rw [e10] at hS
    refine w_i2l hx hb (sI_of r9) dX12_wayBy_42 ?_
    refine z_lmul hx hb dX12_wayBy_43 ?_
    refine lv_lstore (lv' := [(7, .long (iL (((sL (a1 - z2)).tmod (sI a2)) * z8))), (5, .long (iL z2)), (0, .ref (b + 0)), (1, .int (iI a0)), (2, .long (iL a1)), (4, .int (iI a2))]) hx hb dX12_wayBy_44 hl (by decide) rfl (fun ls hl => ?_)
    refine lv_aload_n hx hb dX12_wayBy_46 rfl (lv_at hl 2 rfl) ?_
    refine lv_iload_n hx hb dX12_wayBy_47 rfl (lv_at hl 3 rfl) ?_
    refine lv_lload hx hb dX12_wayBy_48 (lv_at hl 1 rfl) ?_
    refine w_calll (va_runV (As := [.int (iI a0), .long (iL z2)]) (rest := []) ⟨hx, hb, hml, hown, hts⟩ (cR_wayEarly l D dA b M a0 z2 _ h) (cwV 2 hts (z_gV k1144 k1145 k1400 k14 k1146) rfl rfl rfl dm_X12_wayEarly ⟨Nat.le_of_ble_eq_true rfl, Nat.le_of_ble_eq_true rfl⟩) ⟨wPre_blind, (w_recv hS hK.1 (by decide) (zkd_of (rfl : zcd wR 0 = 50) rfl) (by decide) (rfl : vwCl[12]? = some (RX12, TX12, 50))), w_pre hS hK⟩ rfl rfl hl.1 rfl (lv_room (Nat.le_of_ble_eq_true rfl)) dX12_wayBy_50 ⟨Nat.le_refl _, Nat.le_refl _⟩) hS0 (fun z12 M11 H locs r13 h hS hS0 => ?_)
    obtain ⟨e14, h⟩ := h
    rw [e14] at hS
    refine lv_lload hx hb dX12_wayBy_53 (lv_at hl 0 rfl) ?_
    refine z_ladd hx hb dX12_wayBy_55 ?_
    refine lv_iload hx hb dX12_wayBy_56 (lv_at hl 5 rfl) ?_
    refine w_i2l hx hb rfl dX12_wayBy_58 ?_
    obtain ⟨o15, h⟩ := h
    refine w_fmod hx hb (hml.trans hl.1.symm) hown (hts _ (z_mem k1163)) (hts _ (z_mem k1164)) (hts _ (z_mem k15)) (hts _ (z_mem k1165)) (by exact Nat.le_of_ble_eq_true rfl) (by exact Nat.le_of_ble_eq_true rfl) (by exact Nat.le_refl _) (by exact Nat.le_refl _) rfl (sL_ofI rfl) o15 dX12_wayBy_59 ?_
    refine z_l2i hx hb dX12_wayBy_62 ?_
    exact w_iret hx hb hr hlocks hS hS0 rfl ⟨rfl, h⟩ dX12_wayBy_63
  · skip
    have h := h.2 c5
    refine lv_aload_n hx hb dX12_wayBy_15 rfl (lv_at hl 1 rfl) ?_
    refine lv_iload_n hx hb dX12_wayBy_16 rfl (lv_at hl 2 rfl) ?_
    refine lv_lload_n hx hb dX12_wayBy_17 rfl (lv_at hl 3 rfl) ?_
    refine w_calll (va_runV (As := [.int (iI a0), .long (iL a1)]) (rest := []) ⟨hx, hb, hml, hown, hts⟩ (cR_wayEarly l D dA b M a0 a1 _ h) (cwV 2 hts (z_gV k1144 k1145 k1400 k14 k1146) rfl rfl rfl dm_X12_wayEarly ⟨Nat.le_of_ble_eq_true rfl, Nat.le_of_ble_eq_true rfl⟩) ⟨wPre_blind, (w_recv hS hK.1 (by decide) (zkd_of (rfl : zcd wR 0 = 50) rfl) (by decide) (rfl : vwCl[12]? = some (RX12, TX12, 50))), w_pre hS hK⟩ rfl rfl hl.1 rfl (lv_room (Nat.le_of_ble_eq_true rfl)) dX12_wayBy_18 ⟨Nat.le_refl _, Nat.le_refl _⟩) hS0 (fun z17 M16 H locs r18 h hS hS0 => ?_)
    obtain ⟨e19, h⟩ := h
    rw [e19] at hS
    refine lv_iload hx hb dX12_wayBy_21 (lv_at hl 4 rfl) ?_
    refine w_i2l hx hb rfl dX12_wayBy_23 ?_
    obtain ⟨o20, h⟩ := h
    refine w_fmod hx hb (hml.trans hl.1.symm) hown (hts _ (z_mem k1163)) (hts _ (z_mem k1164)) (hts _ (z_mem k15)) (hts _ (z_mem k1165)) (by exact Nat.le_of_ble_eq_true rfl) (by exact Nat.le_of_ble_eq_true rfl) (by exact Nat.le_refl _) (by exact Nat.le_refl _) (sL_of r18) (sL_ofI rfl) o20 dX12_wayBy_24 ?_
    refine z_l2i hx hb dX12_wayBy_27 ?_
    exact w_iret hx hb hr hlocks hS hS0 rfl ⟨rfl, h⟩ dX12_wayBy_28

set_option maxRecDepth 100000 in
def wR_heardAt (a0 : Int) (a1 : Int) (M : zM) (Q : Int → Prop) : Prop := pL2 (fun K5 x1 x2 => (24 ≤ (sI x2) → Q (sI x1)) ∧ ((sI x2) < 24 → ((0 ≤ (sI a0) ∧ (sI a0) < 4) ∧ ((andI (shrI (M 7 (sI a0).toNat) x2) 1) ≠ 1 → K5 x1 (x2 + 1)) ∧ ((andI (shrI (M 7 (sI a0).toNat) x2) 1) = 1 → ((0 ≤ (sI a0) ∧ (sI a0) < 4) ∧ (((sI (M 4 (sI a0).toNat)) ≠ 0) ∧ ((0 ≤ (sI ((24 * a0) + ((sI (a1 + x2)).tmod (sI (M 4 (sI a0).toNat))))) ∧ (sI ((24 * a0) + ((sI (a1 + x2)).tmod (sI (M 4 (sI a0).toNat))))) < 96) ∧ (∀ t18 : Int, t18 = (orI x1 (M 3 (sI ((24 * a0) + ((sI (a1 + x2)).tmod (sI (M 4 (sI a0).toNat))))).toNat)) → K5 t18 (x2 + 1))))))))) 0 0
set_option maxHeartbeats 4000000 in
set_option maxRecDepth 100000 in
theorem cR_heardAt (l : Launch) (D : va_G) (dA : Nat → ClassId) (b : Nat) (M : zM) (a0 : Int) (a1 : Int)  (Q : Int → Prop) (h : wR_heardAt a0 a1 M Q) : Met l yX12_heardAt (.code yX12_heardAt cX12_heardAt 5 (some .int) :: zt) (z_rm 0) (va_Pc [.ref (b + 0), .int (iI a0), .int (iI a1)] (wPre D dA vwCl (z_tys dA) wR nR b M)) (va_Qi (wQi (fun z9 u9 => u9 = M ∧ Q z9)) (zB D dA vwCl wR nR b) (zA nR b)) 0 0 (zA nR b) := by
  unfold wR_heardAt at h
  refine Met.ofW (cc := cX12_heardAt) (maxL := 5) (ret := (some .int)) (by decide) rfl ?_
  intro p e s m args below meth c s₁ B hml hv
  obtain ⟨hargs, hS, hK⟩ := hv
  have hx := B.exec
  have hb := B.bytes
  have hr := B.returns
  have hts := atoms_spec (ws := .code yX12_heardAt cX12_heardAt 5 (some .int) :: zt) B.pre
  have hown : s.vm.findClass RX12 = some m.cls := findClass_of_methodNamed B.named
  have hlocks := B.notSynchronized
  have hS0 : va_S (zA nR b) s.heap s.heap [] := va_S.rf
  have hl := lv_entry ([.ref (b + 0), .int (iI a0), .int (iI a1)]) (n := 5) (Nat.le_of_ble_eq_true rfl)
  have hent : entryFrame m args 5 = F0 m 0 ((lg_sl ([.ref (b + 0), .int (iI a0), .int (iI a1)]) ++ List.replicate (5 - (lg_sl ([.ref (b + 0), .int (iI a0), .int (iI a1)])).length) Slot.unset).toArray) [] := by rw [hargs]; exact lg_entry_eq m ([.ref (b + 0), .int (iI a0), .int (iI a1)]) 5
  rw [hent]
  generalize (lg_sl ([.ref (b + 0), .int (iI a0), .int (iI a1)]) ++ List.replicate (5 - (lg_sl ([.ref (b + 0), .int (iI a0), .int (iI a1)])).length) Slot.unset).toArray = ls at hl ⊢
  have hl : lv_has ls 5 [(0, .ref (b + 0)), (1, .int (iI a0)), (2, .int (iI a1))] := hl
  refine z_iconst hx hb dX12_heardAt_0 ?_
  refine lv_istore_n (lv' := [(3, .int (iI 0)), (0, .ref (b + 0)), (1, .int (iI a0)), (2, .int (iI a1))]) hx hb dX12_heardAt_1 rfl hl (by decide) rfl (fun ls hl => ?_)
  refine z_iconst hx hb dX12_heardAt_2 ?_
  refine lv_istore (lv' := [(4, .int (iI 0)), (3, .int (iI 0)), (0, .ref (b + 0)), (1, .int (iI a0)), (2, .int (iI a1))]) hx hb dX12_heardAt_3 hl (by decide) rfl (fun ls hl => ?_)
  obtain ⟨I3, ⟨n4, h5⟩, h6⟩ := h
  have L7 : ∀ (n8 : Nat) (x1 x2 : Int) (H : Heap) (locs : List Loc) (ls : Array Slot), I3 n8 x1 x2 → zR D dA vwCl wR nR b M H → va_S (zA nR b) s.heap H locs → lv_has ls 5 [(0, .ref (b + 0)), (1, .int (iI a0)), (2, .int (iI a1)), (3, .int (iI x1)), (4, .int (iI x2))] → W p l e (headSpec (.code yX12_heardAt cX12_heardAt 5 (some .int) :: zt) (z_rm 0)).room s m args below meth c H locs 0 0 (MQ below (va_Qi (wQi (fun z9 u9 => u9 = M ∧ Q z9)) (zB D dA vwCl wR nR b) (zA nR b)) args s 0 0 (zA nR b)) (F0 m 5 ls []) := by
    intro n8
    induction n8 using Nat.strongRecOn with
    | ind n8 i9 =>
      intro x1 x2 H locs ls h hS hS0 hl
      have h := h6 n8 x1 x2 h
      refine lv_iload hx hb dX12_heardAt_5 (lv_at hl 4 rfl) ?_
      refine z_bipush hx hb (by decide) dX12_heardAt_7 ?_
      refine w_icmp_ge (tgt := 57) hx hb rfl (sI_of (by decide)) dX12_heardAt_9 (by decide) (fun c10 => ?_) (fun c10 => ?_)
      · skip
        have h := h.1 c10
        refine lv_iload_n hx hb dX12_heardAt_57 rfl (lv_at hl 3 rfl) ?_
        exact w_iret hx hb hr hlocks hS hS0 rfl ⟨rfl, h⟩ dX12_heardAt_58
      · skip
        have h := h.2 c10
        refine lv_aload_n hx hb dX12_heardAt_12 rfl (lv_at hl 0 rfl) ?_
        refine w_getr (j2 := 7) hx hb hts (z_memU u12) hown hK.1 hS f12_8 (by decide) (zkd_of (rfl : zcd wR 0 = 50) rfl) (zrf_of (rfl : zcd wR 0 = 50) rfl) (Or.inl (hts _ (z_mem k952))) dX12_heardAt_13 ?_
        refine lv_iload_n hx hb dX12_heardAt_16 rfl (lv_at hl 1 rfl) ?_
        obtain ⟨o11, h⟩ := h
        refine w_iald (n := 4) (i := (sI a0)) hx hb hK.1 (t0 := 0) rfl hS (by decide) (zkd_of (rfl : zcd wR 7 = 57) rfl) (zln_of (rfl : zcd wR 7 = 57) rfl) rfl o11.1 o11.2 (by decide) dX12_heardAt_17 ?_
        refine lv_iload hx hb dX12_heardAt_18 (lv_at hl 4 rfl) ?_
        refine w_ishr hx hb dX12_heardAt_20 ?_
        refine z_iconst hx hb dX12_heardAt_21 ?_
        refine w_iand hx hb dX12_heardAt_22 ?_
        refine z_iconst hx hb dX12_heardAt_23 ?_
        refine w_icmp_ne (tgt := 51) hx hb (sI_of (andI_R _ _)) (sI_of (by decide)) dX12_heardAt_24 (by decide) (fun c12 => ?_) (fun c12 => ?_)
        · skip
          have h := h.1 c12
          refine z_iinc (lv' := [(4, .int (iI (x2 + 1))), (0, .ref (b + 0)), (1, .int (iI a0)), (2, .int (iI a1)), (3, .int (iI x1))]) hx hb dX12_heardAt_51 hl (k := 4) rfl (by decide) rfl (fun ls hl => ?_)
          refine lv_goto (tgt := 5) hx hb dX12_heardAt_54 (by decide) ?_
          obtain ⟨n13, h14, h⟩ := h
          exact i9 n13 h14 x1 (x2 + 1) _ _ _ h hS hS0 (lv_sub hl [1, 2, 3, 4, 0] rfl)
        · skip
          have h := h.2 c12
          refine lv_iload_n hx hb dX12_heardAt_27 rfl (lv_at hl 3 rfl) ?_
          refine lv_aload_n hx hb dX12_heardAt_28 rfl (lv_at hl 0 rfl) ?_
          refine w_getr (j2 := 3) hx hb hts (z_memU u12) hown hK.1 hS f12_4 (by decide) (zkd_of (rfl : zcd wR 0 = 50) rfl) (zrf_of (rfl : zcd wR 0 = 50) rfl) (Or.inl (hts _ (z_mem k948))) dX12_heardAt_29 ?_
          refine z_bipush hx hb (by decide) dX12_heardAt_32 ?_
          refine lv_iload_n hx hb dX12_heardAt_34 rfl (lv_at hl 1 rfl) ?_
          refine z_imul hx hb dX12_heardAt_35 ?_
          refine lv_iload_n hx hb dX12_heardAt_36 rfl (lv_at hl 2 rfl) ?_
          refine lv_iload hx hb dX12_heardAt_37 (lv_at hl 4 rfl) ?_
          refine z_iadd hx hb dX12_heardAt_39 ?_
          refine lv_aload_n hx hb dX12_heardAt_40 rfl (lv_at hl 0 rfl) ?_
          refine w_getr (j2 := 4) hx hb hts (z_memU u12) hown hK.1 hS f12_5 (by decide) (zkd_of (rfl : zcd wR 0 = 50) rfl) (zrf_of (rfl : zcd wR 0 = 50) rfl) (Or.inl (hts _ (z_mem k949))) dX12_heardAt_41 ?_
          refine lv_iload_n hx hb dX12_heardAt_44 rfl (lv_at hl 1 rfl) ?_
          obtain ⟨o15, h⟩ := h
          refine w_iald (n := 4) (i := (sI a0)) hx hb hK.1 (t0 := 0) rfl hS (by decide) (zkd_of (rfl : zcd wR 4 = 54) rfl) (zln_of (rfl : zcd wR 4 = 54) rfl) rfl o15.1 o15.2 (by decide) dX12_heardAt_45 ?_
          obtain ⟨o16, h⟩ := h
          refine w_irem hx hb rfl rfl o16 dX12_heardAt_46 ?_
          refine z_iadd hx hb dX12_heardAt_47 ?_
          obtain ⟨o17, h⟩ := h
          refine w_iald (n := 96) (i := (sI ((24 * a0) + ((sI (a1 + x2)).tmod (sI (M 4 (sI a0).toNat)))))) hx hb hK.1 (t0 := 0) rfl hS (by decide) (zkd_of (rfl : zcd wR 3 = 53) rfl) (zln_of (rfl : zcd wR 3 = 53) rfl) rfl o17.1 o17.2 (by decide) dX12_heardAt_48 ?_
          refine w_ior hx hb dX12_heardAt_49 ?_
          obtain ⟨t18, e19⟩ : ∃ t18 : Int, t18 = (orI x1 (M 3 (sI ((24 * a0) + ((sI (a1 + x2)).tmod (sI (M 4 (sI a0).toNat))))).toNat)) := ⟨_, rfl⟩
          refine z_top (y := t18) e19.symm ?_
          have h := h t18 e19
          refine lv_istore_n (lv' := [(3, .int (iI t18)), (0, .ref (b + 0)), (1, .int (iI a0)), (2, .int (iI a1)), (4, .int (iI x2))]) hx hb dX12_heardAt_50 rfl hl (by decide) rfl (fun ls hl => ?_)
          refine z_iinc (lv' := [(4, .int (iI (x2 + 1))), (3, .int (iI t18)), (0, .ref (b + 0)), (1, .int (iI a0)), (2, .int (iI a1))]) hx hb dX12_heardAt_51 hl (k := 4) rfl (by decide) rfl (fun ls hl => ?_)
          refine lv_goto (tgt := 5) hx hb dX12_heardAt_54 (by decide) ?_
          obtain ⟨n20, h21, h⟩ := h
          exact i9 n20 h21 t18 (x2 + 1) _ _ _ h hS hS0 (lv_sub hl [2, 3, 4, 1, 0] rfl)
  exact L7 n4 0 0 _ _ _ h5 hS hS0 (lv_sub hl [2, 3, 4, 1, 0] rfl)

set_option maxRecDepth 100000 in
def wR_heardOf (a0 : Int) (a1 : Int) (M : zM) (Q : Int → Prop) : Prop := ((0 ≤ (sI a0) ∧ (sI a0) < 4) ∧ ((0 ≤ (sI a0) ∧ (sI a0) < 4) ∧ ((0 ≤ (sI a0) ∧ (sI a0) < 4) ∧ wR_wayBy (M 5 (sI a0).toNat) a1 (M 4 (sI a0).toNat) M (fun z5 => ((0 ≤ (sI a0) ∧ (sI a0) < 4) ∧ (((sI (M 4 (sI a0).toNat)) ≠ 0) ∧ wR_heardAt a0 ((sI ((M 6 (sI a0).toNat) + z5)).tmod (sI (M 4 (sI a0).toNat))) M (fun z11 => Q z11)))))))
set_option maxHeartbeats 4000000 in
set_option maxRecDepth 100000 in
theorem cR_heardOf (l : Launch) (D : va_G) (dA : Nat → ClassId) (b : Nat) (M : zM) (a0 : Int) (a1 : Int)  (Q : Int → Prop) (h : wR_heardOf a0 a1 M Q) : Met l yX12_heardOf (.code yX12_heardOf cX12_heardOf 4 (some .int) :: zt) (z_rm 2) (va_Pc [.ref (b + 0), .int (iI a0), .long (iL a1)] (wPre D dA vwCl (z_tys dA) wR nR b M)) (va_Qi (wQi (fun z9 u9 => u9 = M ∧ Q z9)) (zB D dA vwCl wR nR b) (zA nR b)) 0 0 (zA nR b) := by
  unfold wR_heardOf at h
  refine Met.ofW (cc := cX12_heardOf) (maxL := 4) (ret := (some .int)) (by decide) rfl ?_
  intro p e s m args below meth c s₁ B hml hv
  obtain ⟨hargs, hS, hK⟩ := hv
  have hx := B.exec
  have hb := B.bytes
  have hr := B.returns
  have hts := atoms_spec (ws := .code yX12_heardOf cX12_heardOf 4 (some .int) :: zt) B.pre
  have hown : s.vm.findClass RX12 = some m.cls := findClass_of_methodNamed B.named
  have hlocks := B.notSynchronized
  have hS0 : va_S (zA nR b) s.heap s.heap [] := va_S.rf
  have hl := lv_entry ([.ref (b + 0), .int (iI a0), .long (iL a1)]) (n := 4) (Nat.le_of_ble_eq_true rfl)
  have hent : entryFrame m args 4 = F0 m 0 ((lg_sl ([.ref (b + 0), .int (iI a0), .long (iL a1)]) ++ List.replicate (4 - (lg_sl ([.ref (b + 0), .int (iI a0), .long (iL a1)])).length) Slot.unset).toArray) [] := by rw [hargs]; exact lg_entry_eq m ([.ref (b + 0), .int (iI a0), .long (iL a1)]) 4
  rw [hent]
  generalize (lg_sl ([.ref (b + 0), .int (iI a0), .long (iL a1)]) ++ List.replicate (4 - (lg_sl ([.ref (b + 0), .int (iI a0), .long (iL a1)])).length) Slot.unset).toArray = ls at hl ⊢
  have hl : lv_has ls 4 [(0, .ref (b + 0)), (1, .int (iI a0)), (2, .long (iL a1))] := hl
  refine lv_aload_n hx hb dX12_heardOf_0 rfl (lv_at hl 0 rfl) ?_
  refine lv_iload_n hx hb dX12_heardOf_1 rfl (lv_at hl 1 rfl) ?_
  refine lv_aload_n hx hb dX12_heardOf_2 rfl (lv_at hl 0 rfl) ?_
  refine w_getr (j2 := 6) hx hb hts (z_memU u12) hown hK.1 hS f12_7 (by decide) (zkd_of (rfl : zcd wR 0 = 50) rfl) (zrf_of (rfl : zcd wR 0 = 50) rfl) (Or.inl (hts _ (z_mem k951))) dX12_heardOf_3 ?_
  refine lv_iload_n hx hb dX12_heardOf_6 rfl (lv_at hl 1 rfl) ?_
  obtain ⟨o1, h⟩ := h
  refine w_iald (n := 4) (i := (sI a0)) hx hb hK.1 (t0 := 0) rfl hS (by decide) (zkd_of (rfl : zcd wR 6 = 56) rfl) (zln_of (rfl : zcd wR 6 = 56) rfl) rfl o1.1 o1.2 (by decide) dX12_heardOf_7 ?_
  refine lv_aload_n hx hb dX12_heardOf_8 rfl (lv_at hl 0 rfl) ?_
  refine lv_aload_n hx hb dX12_heardOf_9 rfl (lv_at hl 0 rfl) ?_
  refine w_getr (j2 := 5) hx hb hts (z_memU u12) hown hK.1 hS f12_6 (by decide) (zkd_of (rfl : zcd wR 0 = 50) rfl) (zrf_of (rfl : zcd wR 0 = 50) rfl) (Or.inl (hts _ (z_mem k950))) dX12_heardOf_10 ?_
  refine lv_iload_n hx hb dX12_heardOf_13 rfl (lv_at hl 1 rfl) ?_
  obtain ⟨o2, h⟩ := h
  refine w_iald (n := 4) (i := (sI a0)) hx hb hK.1 (t0 := 0) rfl hS (by decide) (zkd_of (rfl : zcd wR 5 = 55) rfl) (zln_of (rfl : zcd wR 5 = 55) rfl) rfl o2.1 o2.2 (by decide) dX12_heardOf_14 ?_
  refine lv_lload_n hx hb dX12_heardOf_15 rfl (lv_at hl 2 rfl) ?_
  refine lv_aload_n hx hb dX12_heardOf_16 rfl (lv_at hl 0 rfl) ?_
  refine w_getr (j2 := 4) hx hb hts (z_memU u12) hown hK.1 hS f12_5 (by decide) (zkd_of (rfl : zcd wR 0 = 50) rfl) (zrf_of (rfl : zcd wR 0 = 50) rfl) (Or.inl (hts _ (z_mem k949))) dX12_heardOf_17 ?_
  refine lv_iload_n hx hb dX12_heardOf_20 rfl (lv_at hl 1 rfl) ?_
  obtain ⟨o3, h⟩ := h
  refine w_iald (n := 4) (i := (sI a0)) hx hb hK.1 (t0 := 0) rfl hS (by decide) (zkd_of (rfl : zcd wR 4 = 54) rfl) (zln_of (rfl : zcd wR 4 = 54) rfl) rfl o3.1 o3.2 (by decide) dX12_heardOf_21 ?_
  refine w_calli (va_runV (As := [.int (iI (M 5 (sI a0).toNat)), .long (iL a1), .int (iI (M 4 (sI a0).toNat))]) (rest := [.int (iI (M 6 (sI a0).toNat)), .int (iI a0), .ref (b + 0)]) ⟨hx, hb, hml, hown, hts⟩ (cR_wayBy l D dA b M (M 5 (sI a0).toNat) a1 (M 4 (sI a0).toNat) _ h) (cwV 3 hts (z_gV k1157 k1158 k1403 k14 k1159) rfl rfl rfl dm_X12_wayBy ⟨Nat.le_of_ble_eq_true rfl, Nat.le_of_ble_eq_true rfl⟩) ⟨wPre_blind, (w_recv hS hK.1 (by decide) (zkd_of (rfl : zcd wR 0 = 50) rfl) (by decide) (rfl : vwCl[12]? = some (RX12, TX12, 50))), w_pre hS hK⟩ rfl rfl hl.1 rfl (lv_room (Nat.le_of_ble_eq_true rfl)) dX12_heardOf_22 ⟨Nat.le_refl _, Nat.le_refl _⟩) hS0 (fun z5 M4 H locs r6 h hS hS0 => ?_)
  obtain ⟨e7, h⟩ := h
  rw [e7] at hS
  refine z_iadd hx hb dX12_heardOf_25 ?_
  refine lv_aload_n hx hb dX12_heardOf_26 rfl (lv_at hl 0 rfl) ?_
  refine w_getr (j2 := 4) hx hb hts (z_memU u12) hown hK.1 hS f12_5 (by decide) (zkd_of (rfl : zcd wR 0 = 50) rfl) (zrf_of (rfl : zcd wR 0 = 50) rfl) (Or.inl (hts _ (z_mem k949))) dX12_heardOf_27 ?_
  refine lv_iload_n hx hb dX12_heardOf_30 rfl (lv_at hl 1 rfl) ?_
  obtain ⟨o8, h⟩ := h
  refine w_iald (n := 4) (i := (sI a0)) hx hb hK.1 (t0 := 0) rfl hS (by decide) (zkd_of (rfl : zcd wR 4 = 54) rfl) (zln_of (rfl : zcd wR 4 = 54) rfl) rfl o8.1 o8.2 (by decide) dX12_heardOf_31 ?_
  obtain ⟨o9, h⟩ := h
  refine w_irem hx hb rfl rfl o9 dX12_heardOf_32 ?_
  refine w_calli (va_runV (As := [.int (iI a0), .int (iI ((sI ((M 6 (sI a0).toNat) + z5)).tmod (sI (M 4 (sI a0).toNat))))]) (rest := []) ⟨hx, hb, hml, hown, hts⟩ (cR_heardAt l D dA b M a0 ((sI ((M 6 (sI a0).toNat) + z5)).tmod (sI (M 4 (sI a0).toNat))) _ h) (cwV 2 hts (z_gV k1166 k1167 k1405 k14 k1168) rfl rfl rfl dm_X12_heardAt ⟨Nat.le_of_ble_eq_true rfl, Nat.le_of_ble_eq_true rfl⟩) ⟨wPre_blind, (w_recv hS hK.1 (by decide) (zkd_of (rfl : zcd wR 0 = 50) rfl) (by decide) (rfl : vwCl[12]? = some (RX12, TX12, 50))), w_pre hS hK⟩ rfl rfl hl.1 rfl (lv_room (Nat.le_of_ble_eq_true rfl)) dX12_heardOf_33 ⟨Nat.le_refl _, Nat.le_refl _⟩) hS0 (fun z11 M10 H locs r12 h hS hS0 => ?_)
  obtain ⟨e13, h⟩ := h
  rw [e13] at hS
  exact w_iret hx hb hr hlocks hS hS0 (sI_of r12) ⟨rfl, h⟩ dX12_heardOf_36

set_option maxRecDepth 100000 in
def wR_heardInAll (a0 : Int) (M : zM) (Q : Int → Prop) : Prop := pL2 (fun K5 x1 x2 => ((sI (M 0 10)) ≤ (sI x2) → Q (sI x1)) ∧ ((sI x2) < (sI (M 0 10)) → wR_heardOf x2 a0 M (fun z12 => K5 (orI x1 z12) (x2 + 1)))) 0 0
set_option maxHeartbeats 4000000 in
set_option maxRecDepth 100000 in
theorem cR_heardInAll (l : Launch) (D : va_G) (dA : Nat → ClassId) (b : Nat) (M : zM) (a0 : Int)  (Q : Int → Prop) (h : wR_heardInAll a0 M Q) : Met l yX12_heardInAll (.code yX12_heardInAll cX12_heardInAll 5 (some .int) :: zt) (z_rm 3) (va_Pc [.ref (b + 0), .long (iL a0)] (wPre D dA vwCl (z_tys dA) wR nR b M)) (va_Qi (wQi (fun z9 u9 => u9 = M ∧ Q z9)) (zB D dA vwCl wR nR b) (zA nR b)) 0 0 (zA nR b) := by
  unfold wR_heardInAll at h
  refine Met.ofW (cc := cX12_heardInAll) (maxL := 5) (ret := (some .int)) (by decide) rfl ?_
  intro p e s m args below meth c s₁ B hml hv
  obtain ⟨hargs, hS, hK⟩ := hv
  have hx := B.exec
  have hb := B.bytes
  have hr := B.returns
  have hts := atoms_spec (ws := .code yX12_heardInAll cX12_heardInAll 5 (some .int) :: zt) B.pre
  have hown : s.vm.findClass RX12 = some m.cls := findClass_of_methodNamed B.named
  have hlocks := B.notSynchronized
  have hS0 : va_S (zA nR b) s.heap s.heap [] := va_S.rf
  have hl := lv_entry ([.ref (b + 0), .long (iL a0)]) (n := 5) (Nat.le_of_ble_eq_true rfl)
  have hent : entryFrame m args 5 = F0 m 0 ((lg_sl ([.ref (b + 0), .long (iL a0)]) ++ List.replicate (5 - (lg_sl ([.ref (b + 0), .long (iL a0)])).length) Slot.unset).toArray) [] := by rw [hargs]; exact lg_entry_eq m ([.ref (b + 0), .long (iL a0)]) 5
  rw [hent]
  generalize (lg_sl ([.ref (b + 0), .long (iL a0)]) ++ List.replicate (5 - (lg_sl ([.ref (b + 0), .long (iL a0)])).length) Slot.unset).toArray = ls at hl ⊢
  have hl : lv_has ls 5 [(0, .ref (b + 0)), (1, .long (iL a0))] := hl
  refine z_iconst hx hb dX12_heardInAll_0 ?_
  refine lv_istore_n (lv' := [(3, .int (iI 0)), (0, .ref (b + 0)), (1, .long (iL a0))]) hx hb dX12_heardInAll_1 rfl hl (by decide) rfl (fun ls hl => ?_)
  refine z_iconst hx hb dX12_heardInAll_2 ?_
  refine lv_istore (lv' := [(4, .int (iI 0)), (3, .int (iI 0)), (0, .ref (b + 0)), (1, .long (iL a0))]) hx hb dX12_heardInAll_3 hl (by decide) rfl (fun ls hl => ?_)
  obtain ⟨I3, ⟨n4, h5⟩, h6⟩ := h
  have L7 : ∀ (n8 : Nat) (x1 x2 : Int) (H : Heap) (locs : List Loc) (ls : Array Slot), I3 n8 x1 x2 → zR D dA vwCl wR nR b M H → va_S (zA nR b) s.heap H locs → lv_has ls 5 [(0, .ref (b + 0)), (1, .long (iL a0)), (3, .int (iI x1)), (4, .int (iI x2))] → W p l e (headSpec (.code yX12_heardInAll cX12_heardInAll 5 (some .int) :: zt) (z_rm 3)).room s m args below meth c H locs 0 0 (MQ below (va_Qi (wQi (fun z9 u9 => u9 = M ∧ Q z9)) (zB D dA vwCl wR nR b) (zA nR b)) args s 0 0 (zA nR b)) (F0 m 5 ls []) := by
    intro n8
    induction n8 using Nat.strongRecOn with
    | ind n8 i9 =>
      intro x1 x2 H locs ls h hS hS0 hl
      have h := h6 n8 x1 x2 h
      refine lv_iload hx hb dX12_heardInAll_5 (lv_at hl 3 rfl) ?_
      refine lv_aload_n hx hb dX12_heardInAll_7 rfl (lv_at hl 0 rfl) ?_
      refine w_geti hx hb hts (z_memU u12) hown hK.1 hS f12_10 (by decide) (zkd_of (rfl : zcd wR 0 = 50) rfl) (Or.inl (hts _ (z_mem k954))) dX12_heardInAll_8 ?_
      refine w_icmp_ge (tgt := 30) hx hb rfl rfl dX12_heardInAll_11 (by decide) (fun c10 => ?_) (fun c10 => ?_)
      · skip
        have h := h.1 c10
        refine lv_iload_n hx hb dX12_heardInAll_30 rfl (lv_at hl 2 rfl) ?_
        exact w_iret hx hb hr hlocks hS hS0 rfl ⟨rfl, h⟩ dX12_heardInAll_31
      · skip
        have h := h.2 c10
        refine lv_iload_n hx hb dX12_heardInAll_14 rfl (lv_at hl 2 rfl) ?_
        refine lv_aload_n hx hb dX12_heardInAll_15 rfl (lv_at hl 0 rfl) ?_
        refine lv_iload hx hb dX12_heardInAll_16 (lv_at hl 3 rfl) ?_
        refine lv_lload_n hx hb dX12_heardInAll_18 rfl (lv_at hl 1 rfl) ?_
        refine w_calli (va_runV (As := [.int (iI x2), .long (iL a0)]) (rest := [.int (iI x1)]) ⟨hx, hb, hml, hown, hts⟩ (cR_heardOf l D dA b M x2 a0 _ h) (cwV 2 hts (z_gV k1154 k1155 k1402 k14 k1156) rfl rfl rfl dm_X12_heardOf ⟨Nat.le_of_ble_eq_true rfl, Nat.le_of_ble_eq_true rfl⟩) ⟨wPre_blind, (w_recv hS hK.1 (by decide) (zkd_of (rfl : zcd wR 0 = 50) rfl) (by decide) (rfl : vwCl[12]? = some (RX12, TX12, 50))), w_pre hS hK⟩ rfl rfl hl.1 rfl (lv_room (Nat.le_of_ble_eq_true rfl)) dX12_heardInAll_19 ⟨Nat.le_refl _, Nat.le_refl _⟩) hS0 (fun z12 M11 H locs r13 h hS hS0 => ?_)
        obtain ⟨e14, h⟩ := h
        rw [e14] at hS
        refine w_ior hx hb dX12_heardInAll_22 ?_
        refine lv_istore_n (lv' := [(3, .int (iI (orI x1 z12))), (0, .ref (b + 0)), (1, .long (iL a0)), (4, .int (iI x2))]) hx hb dX12_heardInAll_23 rfl hl (by decide) rfl (fun ls hl => ?_)
        refine z_iinc (lv' := [(4, .int (iI (x2 + 1))), (3, .int (iI (orI x1 z12))), (0, .ref (b + 0)), (1, .long (iL a0))]) hx hb dX12_heardInAll_24 hl (k := 3) rfl (by decide) rfl (fun ls hl => ?_)
        refine lv_goto (tgt := 5) hx hb dX12_heardInAll_27 (by decide) ?_
        obtain ⟨n15, h16, h⟩ := h
        exact i9 n15 h16 (orI x1 z12) (x2 + 1) _ _ _ h hS hS0 (lv_sub hl [2, 3, 1, 0] rfl)
  exact L7 n4 0 0 _ _ _ h5 hS hS0 (lv_sub hl [2, 3, 1, 0] rfl)

set_option maxRecDepth 100000 in
def wR_heard (a0 : Int) (a1 : Int) (M : zM) (Q : Int → zM → Prop) : Prop := (∀ M1 : zM, M1 = zup M 0 35 0 → pJ0 (fun J18 => ((sI a0) = (-1) → J18) ∧ ((sI a0) ≠ (-1) → wR_isRing a0 M1 (fun z23 => (z23 = 0 → Q (-1) M1) ∧ (z23 ≠ 0 → J18)))) ((0 ≤ (sL a1) → ((sI a0) ≠ (-1) → wR_heardOf a0 a1 M1 (fun z14 => Q z14 M1)) ∧ ((sI a0) = (-1) → wR_heardInAll a1 M1 (fun z18 => Q z18 M1))) ∧ ((sL a1) < 0 → Q (-1) M1)))
set_option maxHeartbeats 4000000 in
set_option maxRecDepth 100000 in
theorem cR_heard (l : Launch) (D : va_G) (dA : Nat → ClassId) (b : Nat) (M : zM) (a0 : Int) (a1 : Int)  (Q : Int → zM → Prop) (h : wR_heard a0 a1 M Q) : Met l yX12_heard (.code yX12_heard cX12_heard 4 (some .int) :: zt) (z_rm 4) (va_Pc [.ref (b + 0), .int (iI a0), .long (iL a1)] (wPre D dA vwCl (z_tys dA) wR nR b M)) (va_Qi (wQi Q) (zB D dA vwCl wR nR b) (zA nR b)) 0 0 (zA nR b) := by
  unfold wR_heard at h
  refine Met.ofW (cc := cX12_heard) (maxL := 4) (ret := (some .int)) (by decide) rfl ?_
  intro p e s m args below meth c s₁ B hml hv
  obtain ⟨hargs, hS, hK⟩ := hv
  have hx := B.exec
  have hb := B.bytes
  have hr := B.returns
  have hts := atoms_spec (ws := .code yX12_heard cX12_heard 4 (some .int) :: zt) B.pre
  have hown : s.vm.findClass RX12 = some m.cls := findClass_of_methodNamed B.named
  have hlocks := B.notSynchronized
  have hS0 : va_S (zA nR b) s.heap s.heap [] := va_S.rf
  have hl := lv_entry ([.ref (b + 0), .int (iI a0), .long (iL a1)]) (n := 4) (Nat.le_of_ble_eq_true rfl)
  have hent : entryFrame m args 4 = F0 m 0 ((lg_sl ([.ref (b + 0), .int (iI a0), .long (iL a1)]) ++ List.replicate (4 - (lg_sl ([.ref (b + 0), .int (iI a0), .long (iL a1)])).length) Slot.unset).toArray) [] := by rw [hargs]; exact lg_entry_eq m ([.ref (b + 0), .int (iI a0), .long (iL a1)]) 4
  rw [hent]
  generalize (lg_sl ([.ref (b + 0), .int (iI a0), .long (iL a1)]) ++ List.replicate (4 - (lg_sl ([.ref (b + 0), .int (iI a0), .long (iL a1)])).length) Slot.unset).toArray = ls at hl ⊢
  have hl : lv_has ls 4 [(0, .ref (b + 0)), (1, .int (iI a0)), (2, .long (iL a1))] := hl
  refine lv_aload_n hx hb dX12_heard_0 rfl (lv_at hl 0 rfl) ?_
  refine z_iconst hx hb dX12_heard_1 ?_
  refine w_puti hx hb hts (z_memU u12) tyX12 tyX12_ok nmX12 hown hK.1 hS hS0 f12_35 (by decide) (zkd_of (rfl : zcd wR 0 = 50) rfl) (Or.inl (hts _ (z_mem k979))) rfl (z := 0) (by decide +kernel) dX12_heard_2 (fun H locs hS hS0 => ?_)
  obtain ⟨M1, e2⟩ : ∃ M1 : zM, M1 = zup M 0 35 0 := ⟨_, rfl⟩
  rw [← e2] at hS
  have h := h M1 e2
  refine lv_iload_n hx hb dX12_heard_5 rfl (lv_at hl 1 rfl) ?_
  refine z_iconst hx hb dX12_heard_6 ?_
  obtain ⟨J18, B10, h⟩ := h
  have L9 : ∀ (H : Heap) (locs : List Loc) (ls : Array Slot), J18 → zR D dA vwCl wR nR b M1 H → va_S (zA nR b) s.heap H locs → lv_has ls 4 [(0, .ref (b + 0)), (1, .int (iI a0)), (2, .long (iL a1))] → W p l e (headSpec (.code yX12_heard cX12_heard 4 (some .int) :: zt) (z_rm 4)).room s m args below meth c H locs 0 0 (MQ below (va_Qi (wQi Q) (zB D dA vwCl wR nR b) (zA nR b)) args s 0 0 (zA nR b)) (F0 m 18 ls []) := by
    intro  H locs ls h hS hS0 hl
    have h := B10 h
    refine lv_lload_n hx hb dX12_heard_18 rfl (lv_at hl 2 rfl) ?_
    refine z_lconst0 hx hb dX12_heard_19 ?_
    refine w_lcmp_ge hx hb rfl (sL_of (by decide)) dX12_heard_20 dX12_heard_21 (tgt := 26) (by decide) (fun c11 => ?_) (fun c11 => ?_)
    · skip
      have h := h.1 c11
      refine lv_iload_n hx hb dX12_heard_26 rfl (lv_at hl 1 rfl) ?_
      refine z_iconst hx hb dX12_heard_27 ?_
      refine w_icmp_ne (tgt := 39) hx hb rfl (sI_of (by decide)) dX12_heard_28 (by decide) (fun c12 => ?_) (fun c12 => ?_)
      · skip
        have h := h.1 c12
        refine lv_aload_n hx hb dX12_heard_39 rfl (lv_at hl 0 rfl) ?_
        refine lv_iload_n hx hb dX12_heard_40 rfl (lv_at hl 1 rfl) ?_
        refine lv_lload_n hx hb dX12_heard_41 rfl (lv_at hl 2 rfl) ?_
        refine w_calli (va_runV (As := [.int (iI a0), .long (iL a1)]) (rest := []) ⟨hx, hb, hml, hown, hts⟩ (cR_heardOf l D dA b M1 a0 a1 _ h) (cwV 2 hts (z_gV k1154 k1155 k1402 k14 k1156) rfl rfl rfl dm_X12_heardOf ⟨Nat.le_of_ble_eq_true rfl, Nat.le_of_ble_eq_true rfl⟩) ⟨wPre_blind, (w_recv hS hK.1 (by decide) (zkd_of (rfl : zcd wR 0 = 50) rfl) (by decide) (rfl : vwCl[12]? = some (RX12, TX12, 50))), w_pre hS hK⟩ rfl rfl hl.1 rfl (lv_room (Nat.le_of_ble_eq_true rfl)) dX12_heard_42 ⟨Nat.le_refl _, Nat.le_refl _⟩) hS0 (fun z14 M13 H locs r15 h hS hS0 => ?_)
        obtain ⟨e16, h⟩ := h
        rw [e16] at hS
        exact w_iret hx hb hr hlocks hS hS0 (sI_of r15) h dX12_heard_45
      · skip
        have h := h.2 c12
        refine lv_aload_n hx hb dX12_heard_31 rfl (lv_at hl 0 rfl) ?_
        refine lv_lload_n hx hb dX12_heard_32 rfl (lv_at hl 2 rfl) ?_
        refine w_calli (va_runV (As := [.long (iL a1)]) (rest := []) ⟨hx, hb, hml, hown, hts⟩ (cR_heardInAll l D dA b M1 a1 _ h) (cwV 1 hts (z_gV k1151 k1152 k1401 k14 k1153) rfl rfl rfl dm_X12_heardInAll ⟨Nat.le_of_ble_eq_true rfl, Nat.le_of_ble_eq_true rfl⟩) ⟨wPre_blind, (w_recv hS hK.1 (by decide) (zkd_of (rfl : zcd wR 0 = 50) rfl) (by decide) (rfl : vwCl[12]? = some (RX12, TX12, 50))), w_pre hS hK⟩ rfl rfl hl.1 rfl (lv_room (Nat.le_of_ble_eq_true rfl)) dX12_heard_33 ⟨Nat.le_refl _, Nat.le_refl _⟩) hS0 (fun z18 M17 H locs r19 h hS hS0 => ?_)
        obtain ⟨e20, h⟩ := h
        rw [e20] at hS
        refine lv_goto (tgt := 45) hx hb dX12_heard_36 (by decide) ?_
        exact w_iret hx hb hr hlocks hS hS0 (sI_of r19) h dX12_heard_45
    · skip
      have h := h.2 c11
      refine z_iconst hx hb dX12_heard_24 ?_
      exact w_iret hx hb hr hlocks hS hS0 (sI_of (by decide)) h dX12_heard_25
  refine w_icmp_eq (tgt := 18) hx hb rfl (sI_of (by decide)) dX12_heard_7 (by decide) (fun c21 => ?_) (fun c21 => ?_)
  · skip
    have h := h.1 c21
    exact L9 _ _ _ h hS hS0 (lv_sub hl [0, 1, 2] rfl)
  · skip
    have h := h.2 c21
    refine lv_aload_n hx hb dX12_heard_10 rfl (lv_at hl 0 rfl) ?_
    refine lv_iload_n hx hb dX12_heard_11 rfl (lv_at hl 1 rfl) ?_
    refine w_callz (va_runV (As := [.int (iI a0)]) (rest := []) ⟨hx, hb, hml, hown, hts⟩ (cR_isRing l D dA b M1 a0 _ h) (cwV 1 hts (z_gV k1097 k1098 k1397 k14 k1099) rfl rfl rfl dm_X12_isRing ⟨Nat.le_of_ble_eq_true rfl, Nat.le_of_ble_eq_true rfl⟩) ⟨wPre_blind, (w_recv hS hK.1 (by decide) (zkd_of (rfl : zcd wR 0 = 50) rfl) (by decide) (rfl : vwCl[12]? = some (RX12, TX12, 50))), w_pre hS hK⟩ rfl rfl hl.1 rfl (lv_room (Nat.le_of_ble_eq_true rfl)) dX12_heard_12 ⟨Nat.le_refl _, Nat.le_refl _⟩) hS0 (fun z23 M22 H locs r24 h hS hS0 => ?_)
    obtain ⟨e25, h⟩ := h
    rw [e25] at hS
    refine w_if_eq (tgt := 24) hx hb (sI_01 r24) dX12_heard_15 (by decide) (fun c26 => ?_) (fun c26 => ?_)
    · skip
      have h := h.1 c26
      refine z_iconst hx hb dX12_heard_24 ?_
      exact w_iret hx hb hr hlocks hS hS0 (sI_of (by decide)) h dX12_heard_25
    · skip
      have h := h.2 c26
      exact L9 _ _ _ h hS hS0 (lv_sub hl [0, 1, 2] rfl)

set_option maxRecDepth 100000 in
def wR_allRounds  (M : zM) (Q : Int → Prop) : Prop := pL2 (fun K4 x1 x2 => ((sI (M 0 10)) ≤ (sI x2) → Q (sL x1)) ∧ ((sI x2) < (sI (M 0 10)) → wR_round x2 M (fun z12 => ((z12 ≠ 0) ∧ wR_common 48 z12 ((sL x1).tmod z12) M (fun z17 => ((z17 ≠ 0) ∧ K4 (((sL x1).tdiv z17) * z12) (x2 + 1))))))) 1 0
set_option maxHeartbeats 4000000 in
set_option maxRecDepth 100000 in
theorem cR_allRounds (l : Launch) (D : va_G) (dA : Nat → ClassId) (b : Nat) (M : zM)   (Q : Int → Prop) (h : wR_allRounds  M Q) : Met l yX12_allRounds (.code yX12_allRounds cX12_allRounds 5 (some .long) :: zt) (z_rm 50) (va_Pc [.ref (b + 0)] (wPre D dA vwCl (z_tys dA) wR nR b M)) (va_Ql (wQl (fun z9 u9 => u9 = M ∧ Q z9)) (zB D dA vwCl wR nR b) (zA nR b)) 0 0 (zA nR b) := by
  unfold wR_allRounds at h
  refine Met.ofW (cc := cX12_allRounds) (maxL := 5) (ret := (some .long)) (by decide) rfl ?_
  intro p e s m args below meth c s₁ B hml hv
  obtain ⟨hargs, hS, hK⟩ := hv
  have hx := B.exec
  have hb := B.bytes
  have hr := B.returns
  have hts := atoms_spec (ws := .code yX12_allRounds cX12_allRounds 5 (some .long) :: zt) B.pre
  have hown : s.vm.findClass RX12 = some m.cls := findClass_of_methodNamed B.named
  have hlocks := B.notSynchronized
  have hS0 : va_S (zA nR b) s.heap s.heap [] := va_S.rf
  have hl := lv_entry ([.ref (b + 0)]) (n := 5) (Nat.le_of_ble_eq_true rfl)
  have hent : entryFrame m args 5 = F0 m 0 ((lg_sl ([.ref (b + 0)]) ++ List.replicate (5 - (lg_sl ([.ref (b + 0)])).length) Slot.unset).toArray) [] := by rw [hargs]; exact lg_entry_eq m ([.ref (b + 0)]) 5
  rw [hent]
  generalize (lg_sl ([.ref (b + 0)]) ++ List.replicate (5 - (lg_sl ([.ref (b + 0)])).length) Slot.unset).toArray = ls at hl ⊢
  have hl : lv_has ls 5 [(0, .ref (b + 0))] := hl
  refine z_lconst1 hx hb dX12_allRounds_0 ?_
  refine lv_lstore_n (lv' := [(1, .long (iL 1)), (0, .ref (b + 0))]) hx hb dX12_allRounds_1 rfl hl (by decide) rfl (fun ls hl => ?_)
  refine z_iconst hx hb dX12_allRounds_2 ?_
  refine lv_istore_n (lv' := [(3, .int (iI 0)), (1, .long (iL 1)), (0, .ref (b + 0))]) hx hb dX12_allRounds_3 rfl hl (by decide) rfl (fun ls hl => ?_)
  obtain ⟨I3, ⟨n4, h5⟩, h6⟩ := h
  have L7 : ∀ (n8 : Nat) (x1 x2 : Int) (H : Heap) (locs : List Loc) (ls : Array Slot), I3 n8 x1 x2 → zR D dA vwCl wR nR b M H → va_S (zA nR b) s.heap H locs → lv_has ls 5 [(0, .ref (b + 0)), (1, .long (iL x1)), (3, .int (iI x2))] → W p l e (headSpec (.code yX12_allRounds cX12_allRounds 5 (some .long) :: zt) (z_rm 50)).room s m args below meth c H locs 0 0 (MQ below (va_Ql (wQl (fun z9 u9 => u9 = M ∧ Q z9)) (zB D dA vwCl wR nR b) (zA nR b)) args s 0 0 (zA nR b)) (F0 m 4 ls []) := by
    intro n8
    induction n8 using Nat.strongRecOn with
    | ind n8 i9 =>
      intro x1 x2 H locs ls h hS hS0 hl
      have h := h6 n8 x1 x2 h
      refine lv_iload_n hx hb dX12_allRounds_4 rfl (lv_at hl 2 rfl) ?_
      refine lv_aload_n hx hb dX12_allRounds_5 rfl (lv_at hl 0 rfl) ?_
      refine w_geti hx hb hts (z_memU u12) hown hK.1 hS f12_10 (by decide) (zkd_of (rfl : zcd wR 0 = 50) rfl) (Or.inl (hts _ (z_mem k954))) dX12_allRounds_6 ?_
      refine w_icmp_ge (tgt := 44) hx hb rfl rfl dX12_allRounds_9 (by decide) (fun c10 => ?_) (fun c10 => ?_)
      · skip
        have h := h.1 c10
        refine lv_lload_n hx hb dX12_allRounds_44 rfl (lv_at hl 1 rfl) ?_
        exact w_lret hx hb hr hlocks hS hS0 rfl ⟨rfl, h⟩ dX12_allRounds_45
      · skip
        have h := h.2 c10
        refine lv_aload_n hx hb dX12_allRounds_12 rfl (lv_at hl 0 rfl) ?_
        refine lv_iload_n hx hb dX12_allRounds_13 rfl (lv_at hl 2 rfl) ?_
        refine w_calli (va_runV (As := [.int (iI x2)]) (rest := []) ⟨hx, hb, hml, hown, hts⟩ (cR_round l D dA b M x2 _ h) (cwV 1 hts (z_gV k1125 k1126 k1398 k14 k1127) rfl rfl rfl dm_X12_round ⟨Nat.le_of_ble_eq_true rfl, Nat.le_of_ble_eq_true rfl⟩) ⟨wPre_blind, (w_recv hS hK.1 (by decide) (zkd_of (rfl : zcd wR 0 = 50) rfl) (by decide) (rfl : vwCl[12]? = some (RX12, TX12, 50))), w_pre hS hK⟩ rfl rfl hl.1 rfl (lv_room (Nat.le_of_ble_eq_true rfl)) dX12_allRounds_14 ⟨Nat.le_refl _, Nat.le_refl _⟩) hS0 (fun z12 M11 H locs r13 h hS hS0 => ?_)
        obtain ⟨e14, h⟩ := h
        rw [e14] at hS
        refine lv_istore (lv' := [(4, .int (iI z12)), (0, .ref (b + 0)), (1, .long (iL x1)), (3, .int (iI x2))]) hx hb dX12_allRounds_17 hl (by decide) rfl (fun ls hl => ?_)
        refine lv_lload_n hx hb dX12_allRounds_19 rfl (lv_at hl 2 rfl) ?_
        refine lv_iload hx hb dX12_allRounds_20 (lv_at hl 0 rfl) ?_
        refine lv_lload_n hx hb dX12_allRounds_22 rfl (lv_at hl 2 rfl) ?_
        refine lv_iload hx hb dX12_allRounds_23 (lv_at hl 0 rfl) ?_
        refine w_i2l hx hb (sI_of r13) dX12_allRounds_25 ?_
        obtain ⟨o15, h⟩ := h
        refine w_lrem hx hb rfl (sL_ofI (sI_of r13)) o15 dX12_allRounds_26 ?_
        refine z_l2i hx hb dX12_allRounds_27 ?_
        refine w_calli (va_runS (As := [.int (iI z12), .int (iI ((sL x1).tmod z12))]) (rest := [.long (iL x1)]) ⟨hx, hb, hml, hown, hts⟩ (cR_common 48 l D dA b M z12 ((sL x1).tmod z12) _ h) (va_cwS 2 hts (z_gS k1132 k1133 k14 k1134) rfl rfl rfl dm_X12_common.2 ⟨Nat.le_of_ble_eq_true rfl, Nat.le_of_ble_eq_true rfl⟩) ⟨wPre_blind, w_pre hS hK⟩ rfl rfl hl.1 rfl (lv_room (Nat.le_of_ble_eq_true rfl)) dX12_allRounds_28 ⟨Nat.le_refl _, Nat.le_refl _⟩) hS0 (fun z17 M16 H locs r18 h hS hS0 => ?_)
        obtain ⟨e19, h⟩ := h
        rw [e19] at hS
        refine w_i2l hx hb (sI_of r18) dX12_allRounds_31 ?_
        obtain ⟨o20, h⟩ := h
        refine w_ldiv hx hb rfl (sL_ofI (sI_of r18)) o20 dX12_allRounds_32 ?_
        refine lv_iload hx hb dX12_allRounds_33 (lv_at hl 0 rfl) ?_
        refine w_i2l hx hb (sI_of r13) dX12_allRounds_35 ?_
        refine z_lmul hx hb dX12_allRounds_36 ?_
        refine lv_lstore_n (lv' := [(1, .long (iL (((sL x1).tdiv z17) * z12))), (4, .int (iI z12)), (0, .ref (b + 0)), (3, .int (iI x2))]) hx hb dX12_allRounds_37 rfl hl (by decide) rfl (fun ls hl => ?_)
        refine z_iinc (lv' := [(3, .int (iI (x2 + 1))), (1, .long (iL (((sL x1).tdiv z17) * z12))), (4, .int (iI z12)), (0, .ref (b + 0))]) hx hb dX12_allRounds_38 hl (k := 3) rfl (by decide) rfl (fun ls hl => ?_)
        refine lv_goto (tgt := 4) hx hb dX12_allRounds_41 (by decide) ?_
        obtain ⟨n21, h22, h⟩ := h
        exact i9 n21 h22 (((sL x1).tdiv z17) * z12) (x2 + 1) _ _ _ h hS hS0 (lv_sub hl [3, 1, 0] rfl)
  exact L7 n4 1 0 _ _ _ h5 hS hS0 (lv_sub hl [2, 1, 0] rfl)

set_option maxRecDepth 100000 in
def wR_all  (M : zM) (Q : Int → zM → Prop) : Prop := (∀ M1 : zM, M1 = zup M 0 35 0 → wR_allRounds  M1 (fun z4 => Q z4 M1))
set_option maxHeartbeats 4000000 in
set_option maxRecDepth 100000 in
theorem cR_all (l : Launch) (D : va_G) (dA : Nat → ClassId) (b : Nat) (M : zM)   (Q : Int → zM → Prop) (h : wR_all  M Q) : Met l yX12_all (.code yX12_all cX12_all 1 (some .long) :: zt) (z_rm 51) (va_Pc [.ref (b + 0)] (wPre D dA vwCl (z_tys dA) wR nR b M)) (va_Ql (wQl Q) (zB D dA vwCl wR nR b) (zA nR b)) 0 0 (zA nR b) := by
  unfold wR_all at h
  refine Met.ofW (cc := cX12_all) (maxL := 1) (ret := (some .long)) (by decide) rfl ?_
  intro p e s m args below meth c s₁ B hml hv
  obtain ⟨hargs, hS, hK⟩ := hv
  have hx := B.exec
  have hb := B.bytes
  have hr := B.returns
  have hts := atoms_spec (ws := .code yX12_all cX12_all 1 (some .long) :: zt) B.pre
  have hown : s.vm.findClass RX12 = some m.cls := findClass_of_methodNamed B.named
  have hlocks := B.notSynchronized
  have hS0 : va_S (zA nR b) s.heap s.heap [] := va_S.rf
  have hl := lv_entry ([.ref (b + 0)]) (n := 1) (Nat.le_of_ble_eq_true rfl)
  have hent : entryFrame m args 1 = F0 m 0 ((lg_sl ([.ref (b + 0)]) ++ List.replicate (1 - (lg_sl ([.ref (b + 0)])).length) Slot.unset).toArray) [] := by rw [hargs]; exact lg_entry_eq m ([.ref (b + 0)]) 1
  rw [hent]
  generalize (lg_sl ([.ref (b + 0)]) ++ List.replicate (1 - (lg_sl ([.ref (b + 0)])).length) Slot.unset).toArray = ls at hl ⊢
  have hl : lv_has ls 1 [(0, .ref (b + 0))] := hl
  refine lv_aload_n hx hb dX12_all_0 rfl (lv_at hl 0 rfl) ?_
  refine z_iconst hx hb dX12_all_1 ?_
  refine w_puti hx hb hts (z_memU u12) tyX12 tyX12_ok nmX12 hown hK.1 hS hS0 f12_35 (by decide) (zkd_of (rfl : zcd wR 0 = 50) rfl) (Or.inl (hts _ (z_mem k979))) rfl (z := 0) (by decide +kernel) dX12_all_2 (fun H locs hS hS0 => ?_)
  obtain ⟨M1, e2⟩ : ∃ M1 : zM, M1 = zup M 0 35 0 := ⟨_, rfl⟩
  rw [← e2] at hS
  have h := h M1 e2
  refine lv_aload_n hx hb dX12_all_5 rfl (lv_at hl 0 rfl) ?_
  refine w_calll (va_runV (As := []) (rest := []) ⟨hx, hb, hml, hown, hts⟩ (cR_allRounds l D dA b M1  _ h) (cwV 0 hts (z_gV k1173 k1174 k1406 k14 k1175) rfl rfl rfl dm_X12_allRounds ⟨Nat.le_of_ble_eq_true rfl, Nat.le_of_ble_eq_true rfl⟩) ⟨wPre_blind, (w_recv hS hK.1 (by decide) (zkd_of (rfl : zcd wR 0 = 50) rfl) (by decide) (rfl : vwCl[12]? = some (RX12, TX12, 50))), w_pre hS hK⟩ rfl rfl hl.1 rfl (lv_room (Nat.le_of_ble_eq_true rfl)) dX12_all_6 ⟨Nat.le_refl _, Nat.le_refl _⟩) hS0 (fun z4 M3 H locs r5 h hS hS0 => ?_)
  obtain ⟨e6, h⟩ := h
  rw [e6] at hS
  exact w_lret hx hb hr hlocks hS hS0 (sL_of r5) h dX12_all_9

set_option maxRecDepth 100000 in
def wR_wish (a0 : Int) (a1 : Int) (M : zM) (Q : Int → zM → Prop) : Prop := (∀ M1 : zM, M1 = zup M 0 35 0 → wR_isRing a0 M1 (fun z4 => (z4 = 0 → Q 0 M1) ∧ (z4 ≠ 0 → wR_areSounds a1 M1 (fun z9 => (z9 ≠ 0 → ((0 ≤ (sI a0) ∧ (sI a0) < 4) ∧ (∀ M14 : zM, M14 = zup M1 8 (sI a0).toNat a1 → Q 1 M14))) ∧ (z9 = 0 → Q 0 M1)))))
set_option maxHeartbeats 4000000 in
set_option maxRecDepth 100000 in
theorem cR_wish (l : Launch) (D : va_G) (dA : Nat → ClassId) (b : Nat) (M : zM) (a0 : Int) (a1 : Int)  (Q : Int → zM → Prop) (h : wR_wish a0 a1 M Q) : Met l yX12_wish (.code yX12_wish cX12_wish 3 (some .boolean) :: zt) (z_rm 2) (va_Pc [.ref (b + 0), .int (iI a0), .int (iI a1)] (wPre D dA vwCl (z_tys dA) wR nR b M)) (va_Qi (wQz Q) (zB D dA vwCl wR nR b) (zA nR b)) 0 0 (zA nR b) := by
  unfold wR_wish at h
  refine Met.ofW (cc := cX12_wish) (maxL := 3) (ret := (some .boolean)) (by decide) rfl ?_
  intro p e s m args below meth c s₁ B hml hv
  obtain ⟨hargs, hS, hK⟩ := hv
  have hx := B.exec
  have hb := B.bytes
  have hr := B.returns
  have hts := atoms_spec (ws := .code yX12_wish cX12_wish 3 (some .boolean) :: zt) B.pre
  have hown : s.vm.findClass RX12 = some m.cls := findClass_of_methodNamed B.named
  have hlocks := B.notSynchronized
  have hS0 : va_S (zA nR b) s.heap s.heap [] := va_S.rf
  have hl := lv_entry ([.ref (b + 0), .int (iI a0), .int (iI a1)]) (n := 3) (Nat.le_of_ble_eq_true rfl)
  have hent : entryFrame m args 3 = F0 m 0 ((lg_sl ([.ref (b + 0), .int (iI a0), .int (iI a1)]) ++ List.replicate (3 - (lg_sl ([.ref (b + 0), .int (iI a0), .int (iI a1)])).length) Slot.unset).toArray) [] := by rw [hargs]; exact lg_entry_eq m ([.ref (b + 0), .int (iI a0), .int (iI a1)]) 3
  rw [hent]
  generalize (lg_sl ([.ref (b + 0), .int (iI a0), .int (iI a1)]) ++ List.replicate (3 - (lg_sl ([.ref (b + 0), .int (iI a0), .int (iI a1)])).length) Slot.unset).toArray = ls at hl ⊢
  have hl : lv_has ls 3 [(0, .ref (b + 0)), (1, .int (iI a0)), (2, .int (iI a1))] := hl
  refine lv_aload_n hx hb dX12_wish_0 rfl (lv_at hl 0 rfl) ?_
  refine z_iconst hx hb dX12_wish_1 ?_
  refine w_puti hx hb hts (z_memU u12) tyX12 tyX12_ok nmX12 hown hK.1 hS hS0 f12_35 (by decide) (zkd_of (rfl : zcd wR 0 = 50) rfl) (Or.inl (hts _ (z_mem k979))) rfl (z := 0) (by decide +kernel) dX12_wish_2 (fun H locs hS hS0 => ?_)
  obtain ⟨M1, e2⟩ : ∃ M1 : zM, M1 = zup M 0 35 0 := ⟨_, rfl⟩
  rw [← e2] at hS
  have h := h M1 e2
  refine lv_aload_n hx hb dX12_wish_5 rfl (lv_at hl 0 rfl) ?_
  refine lv_iload_n hx hb dX12_wish_6 rfl (lv_at hl 1 rfl) ?_
  refine w_callz (va_runV (As := [.int (iI a0)]) (rest := []) ⟨hx, hb, hml, hown, hts⟩ (cR_isRing l D dA b M1 a0 _ h) (cwV 1 hts (z_gV k1097 k1098 k1397 k14 k1099) rfl rfl rfl dm_X12_isRing ⟨Nat.le_of_ble_eq_true rfl, Nat.le_of_ble_eq_true rfl⟩) ⟨wPre_blind, (w_recv hS hK.1 (by decide) (zkd_of (rfl : zcd wR 0 = 50) rfl) (by decide) (rfl : vwCl[12]? = some (RX12, TX12, 50))), w_pre hS hK⟩ rfl rfl hl.1 rfl (lv_room (Nat.le_of_ble_eq_true rfl)) dX12_wish_7 ⟨Nat.le_refl _, Nat.le_refl _⟩) hS0 (fun z4 M3 H locs r5 h hS hS0 => ?_)
  obtain ⟨e6, h⟩ := h
  rw [e6] at hS
  refine w_if_eq (tgt := 20) hx hb (sI_01 r5) dX12_wish_10 (by decide) (fun c7 => ?_) (fun c7 => ?_)
  · skip
    have h := h.1 c7
    refine z_iconst hx hb dX12_wish_20 ?_
    exact w_zret hx hb hr hlocks hS hS0 (sI_of (by decide)) (by decide) h dX12_wish_21
  · skip
    have h := h.2 c7
    refine lv_iload_n hx hb dX12_wish_13 rfl (lv_at hl 2 rfl) ?_
    refine w_callz (va_runS (As := [.int (iI a1)]) (rest := []) ⟨hx, hb, hml, hown, hts⟩ (cR_areSounds l D dA b M1 a1 _ h) (va_cwS 1 hts (z_gS k1180 k1181 k14 k1182) rfl rfl rfl dm_X12_areSounds.2 ⟨Nat.le_of_ble_eq_true rfl, Nat.le_of_ble_eq_true rfl⟩) ⟨wPre_blind, w_pre hS hK⟩ rfl rfl hl.1 rfl (lv_room (Nat.le_of_ble_eq_true rfl)) dX12_wish_14 ⟨Nat.le_refl _, Nat.le_refl _⟩) hS0 (fun z9 M8 H locs r10 h hS hS0 => ?_)
    obtain ⟨e11, h⟩ := h
    rw [e11] at hS
    refine w_if_ne (tgt := 22) hx hb (sI_01 r10) dX12_wish_17 (by decide) (fun c12 => ?_) (fun c12 => ?_)
    · skip
      have h := h.1 c12
      refine lv_aload_n hx hb dX12_wish_22 rfl (lv_at hl 0 rfl) ?_
      refine w_getr (j2 := 8) hx hb hts (z_memU u12) hown hK.1 hS f12_9 (by decide) (zkd_of (rfl : zcd wR 0 = 50) rfl) (zrf_of (rfl : zcd wR 0 = 50) rfl) (Or.inl (hts _ (z_mem k953))) dX12_wish_23 ?_
      refine lv_iload_n hx hb dX12_wish_26 rfl (lv_at hl 1 rfl) ?_
      refine lv_iload_n hx hb dX12_wish_27 rfl (lv_at hl 2 rfl) ?_
      obtain ⟨o13, h⟩ := h
      refine w_iast (z := a1) (n := 4) (i := (sI a0)) hx hb hK.1 (t0 := 0) rfl hS hS0 (by decide) (zkd_of (rfl : zcd wR 8 = 58) rfl) (zln_of (rfl : zcd wR 8 = 58) rfl) rfl o13.1 o13.2 (by decide) dX12_wish_28 (fun H locs hS hS0 => ?_)
      obtain ⟨M14, e15⟩ : ∃ M14 : zM, M14 = zup M1 8 (sI a0).toNat a1 := ⟨_, rfl⟩
      rw [← e15] at hS
      have h := h M14 e15
      refine z_iconst hx hb dX12_wish_29 ?_
      exact w_zret hx hb hr hlocks hS hS0 (sI_of (by decide)) (by decide) h dX12_wish_30
    · skip
      have h := h.2 c12
      refine z_iconst hx hb dX12_wish_20 ?_
      exact w_zret hx hb hr hlocks hS hS0 (sI_of (by decide)) (by decide) h dX12_wish_21
end zz10_w17
