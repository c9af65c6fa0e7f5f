/-! the W layer, 13 -/
theorem dX10_editsTurned_0 : decode cX10_editsTurned 0 = .ok (.iconst 0, 1) := by decide +kernel
theorem dX10_editsTurned_1 : decode cX10_editsTurned 1 = .ok (.istore 4, 2) := by decide +kernel
theorem dX10_editsTurned_100 : decode cX10_editsTurned 100 = .ok (.iconst 0, 1) := by decide +kernel
theorem dX10_editsTurned_101 : decode cX10_editsTurned 101 = .ok (.istore 7, 2) := by decide +kernel
theorem dX10_editsTurned_103 : decode cX10_editsTurned 103 = .ok (.iload 7, 2) := by decide +kernel
theorem dX10_editsTurned_105 : decode cX10_editsTurned 105 = .ok (.ifCond .eq 8, 3) := by decide +kernel
theorem dX10_editsTurned_108 : decode cX10_editsTurned 108 = .ok (.iload 5, 2) := by decide +kernel
theorem dX10_editsTurned_110 : decode cX10_editsTurned 110 = .ok (.goto 7, 3) := by decide +kernel
theorem dX10_editsTurned_113 : decode cX10_editsTurned 113 = .ok (.iload 5, 2) := by decide +kernel
theorem dX10_editsTurned_115 : decode cX10_editsTurned 115 = .ok (.iconst 1, 1) := by decide +kernel
theorem dX10_editsTurned_116 : decode cX10_editsTurned 116 = .ok (.iadd, 1) := by decide +kernel
theorem dX10_editsTurned_117 : decode cX10_editsTurned 117 = .ok (.istore 8, 2) := by decide +kernel
theorem dX10_editsTurned_119 : decode cX10_editsTurned 119 = .ok (.aload_n 0, 1) := by decide +kernel
theorem dX10_editsTurned_12 : decode cX10_editsTurned 12 = .ok (.aload_n 0, 1) := by decide +kernel
theorem dX10_editsTurned_120 : decode cX10_editsTurned 120 = .ok (.getfield 28, 3) := by decide +kernel
theorem dX10_editsTurned_123 : decode cX10_editsTurned 123 = .ok (.iload 6, 2) := by decide +kernel
theorem dX10_editsTurned_125 : decode cX10_editsTurned 125 = .ok (.iconst 1, 1) := by decide +kernel
theorem dX10_editsTurned_126 : decode cX10_editsTurned 126 = .ok (.iadd, 1) := by decide +kernel
theorem dX10_editsTurned_127 : decode cX10_editsTurned 127 = .ok (.iaload, 1) := by decide +kernel
theorem dX10_editsTurned_128 : decode cX10_editsTurned 128 = .ok (.istore 5, 2) := by decide +kernel
theorem dX10_editsTurned_13 : decode cX10_editsTurned 13 = .ok (.getfield 28, 3) := by decide +kernel
theorem dX10_editsTurned_130 : decode cX10_editsTurned 130 = .ok (.aload_n 0, 1) := by decide +kernel
theorem dX10_editsTurned_131 : decode cX10_editsTurned 131 = .ok (.getfield 28, 3) := by decide +kernel
theorem dX10_editsTurned_134 : decode cX10_editsTurned 134 = .ok (.iload 6, 2) := by decide +kernel
theorem dX10_editsTurned_136 : decode cX10_editsTurned 136 = .ok (.iconst 1, 1) := by decide +kernel
theorem dX10_editsTurned_137 : decode cX10_editsTurned 137 = .ok (.iadd, 1) := by decide +kernel
theorem dX10_editsTurned_138 : decode cX10_editsTurned 138 = .ok (.iload 8, 2) := by decide +kernel
theorem dX10_editsTurned_140 : decode cX10_editsTurned 140 = .ok (.iconst 1, 1) := by decide +kernel
theorem dX10_editsTurned_141 : decode cX10_editsTurned 141 = .ok (.iload 5, 2) := by decide +kernel
theorem dX10_editsTurned_143 : decode cX10_editsTurned 143 = .ok (.aload_n 0, 1) := by decide +kernel
theorem dX10_editsTurned_144 : decode cX10_editsTurned 144 = .ok (.getfield 28, 3) := by decide +kernel
theorem dX10_editsTurned_147 : decode cX10_editsTurned 147 = .ok (.iload 6, 2) := by decide +kernel
theorem dX10_editsTurned_149 : decode cX10_editsTurned 149 = .ok (.iaload, 1) := by decide +kernel
theorem dX10_editsTurned_150 : decode cX10_editsTurned 150 = .ok (.invokestatic 49, 3) := by decide +kernel
theorem dX10_editsTurned_153 : decode cX10_editsTurned 153 = .ok (.iadd, 1) := by decide +kernel
theorem dX10_editsTurned_154 : decode cX10_editsTurned 154 = .ok (.invokestatic 49, 3) := by decide +kernel
theorem dX10_editsTurned_157 : decode cX10_editsTurned 157 = .ok (.iastore, 1) := by decide +kernel
theorem dX10_editsTurned_158 : decode cX10_editsTurned 158 = .ok (.iinc 6 1, 3) := by decide +kernel
theorem dX10_editsTurned_16 : decode cX10_editsTurned 16 = .ok (.iload 4, 2) := by decide +kernel
theorem dX10_editsTurned_161 : decode cX10_editsTurned 161 = .ok (.goto (-101), 3) := by decide +kernel
theorem dX10_editsTurned_164 : decode cX10_editsTurned 164 = .ok (.iinc 4 1, 3) := by decide +kernel
theorem dX10_editsTurned_167 : decode cX10_editsTurned 167 = .ok (.goto (-137), 3) := by decide +kernel
theorem dX10_editsTurned_170 : decode cX10_editsTurned 170 = .ok (.aload_n 0, 1) := by decide +kernel
theorem dX10_editsTurned_171 : decode cX10_editsTurned 171 = .ok (.getfield 28, 3) := by decide +kernel
theorem dX10_editsTurned_174 : decode cX10_editsTurned 174 = .ok (.aload_n 2, 1) := by decide +kernel
theorem dX10_editsTurned_175 : decode cX10_editsTurned 175 = .ok (.getfield 36, 3) := by decide +kernel
theorem dX10_editsTurned_178 : decode cX10_editsTurned 178 = .ok (.iaload, 1) := by decide +kernel
theorem dX10_editsTurned_179 : decode cX10_editsTurned 179 = .ok (.ireturn, 1) := by decide +kernel
theorem dX10_editsTurned_18 : decode cX10_editsTurned 18 = .ok (.iload 4, 2) := by decide +kernel
theorem dX10_editsTurned_20 : decode cX10_editsTurned 20 = .ok (.iastore, 1) := by decide +kernel
theorem dX10_editsTurned_21 : decode cX10_editsTurned 21 = .ok (.iinc 4 1, 3) := by decide +kernel
theorem dX10_editsTurned_24 : decode cX10_editsTurned 24 = .ok (.goto (-21), 3) := by decide +kernel
theorem dX10_editsTurned_27 : decode cX10_editsTurned 27 = .ok (.iconst 0, 1) := by decide +kernel
theorem dX10_editsTurned_28 : decode cX10_editsTurned 28 = .ok (.istore 4, 2) := by decide +kernel
theorem dX10_editsTurned_3 : decode cX10_editsTurned 3 = .ok (.iload 4, 2) := by decide +kernel
theorem dX10_editsTurned_30 : decode cX10_editsTurned 30 = .ok (.iload 4, 2) := by decide +kernel
theorem dX10_editsTurned_32 : decode cX10_editsTurned 32 = .ok (.aload_n 1, 1) := by decide +kernel
theorem dX10_editsTurned_33 : decode cX10_editsTurned 33 = .ok (.getfield 36, 3) := by decide +kernel
theorem dX10_editsTurned_36 : decode cX10_editsTurned 36 = .ok (.if_icmp .ge 134, 3) := by decide +kernel
theorem dX10_editsTurned_39 : decode cX10_editsTurned 39 = .ok (.aload_n 0, 1) := by decide +kernel
theorem dX10_editsTurned_40 : decode cX10_editsTurned 40 = .ok (.getfield 28, 3) := by decide +kernel
theorem dX10_editsTurned_43 : decode cX10_editsTurned 43 = .ok (.iconst 0, 1) := by decide +kernel
theorem dX10_editsTurned_44 : decode cX10_editsTurned 44 = .ok (.iaload, 1) := by decide +kernel
theorem dX10_editsTurned_45 : decode cX10_editsTurned 45 = .ok (.istore 5, 2) := by decide +kernel
theorem dX10_editsTurned_47 : decode cX10_editsTurned 47 = .ok (.aload_n 0, 1) := by decide +kernel
theorem dX10_editsTurned_48 : decode cX10_editsTurned 48 = .ok (.getfield 28, 3) := by decide +kernel
theorem dX10_editsTurned_5 : decode cX10_editsTurned 5 = .ok (.aload_n 2, 1) := by decide +kernel
theorem dX10_editsTurned_51 : decode cX10_editsTurned 51 = .ok (.iconst 0, 1) := by decide +kernel
theorem dX10_editsTurned_52 : decode cX10_editsTurned 52 = .ok (.iload 4, 2) := by decide +kernel
theorem dX10_editsTurned_54 : decode cX10_editsTurned 54 = .ok (.iconst 1, 1) := by decide +kernel
theorem dX10_editsTurned_55 : decode cX10_editsTurned 55 = .ok (.iadd, 1) := by decide +kernel
theorem dX10_editsTurned_56 : decode cX10_editsTurned 56 = .ok (.iastore, 1) := by decide +kernel
theorem dX10_editsTurned_57 : decode cX10_editsTurned 57 = .ok (.iconst 0, 1) := by decide +kernel
theorem dX10_editsTurned_58 : decode cX10_editsTurned 58 = .ok (.istore 6, 2) := by decide +kernel
theorem dX10_editsTurned_6 : decode cX10_editsTurned 6 = .ok (.getfield 36, 3) := by decide +kernel
theorem dX10_editsTurned_60 : decode cX10_editsTurned 60 = .ok (.iload 6, 2) := by decide +kernel
theorem dX10_editsTurned_62 : decode cX10_editsTurned 62 = .ok (.aload_n 2, 1) := by decide +kernel
theorem dX10_editsTurned_63 : decode cX10_editsTurned 63 = .ok (.getfield 36, 3) := by decide +kernel
theorem dX10_editsTurned_66 : decode cX10_editsTurned 66 = .ok (.if_icmp .ge 98, 3) := by decide +kernel
theorem dX10_editsTurned_69 : decode cX10_editsTurned 69 = .ok (.aload_n 1, 1) := by decide +kernel
theorem dX10_editsTurned_70 : decode cX10_editsTurned 70 = .ok (.getfield 52, 3) := by decide +kernel
theorem dX10_editsTurned_73 : decode cX10_editsTurned 73 = .ok (.iload 4, 2) := by decide +kernel
theorem dX10_editsTurned_75 : decode cX10_editsTurned 75 = .ok (.iaload, 1) := by decide +kernel
theorem dX10_editsTurned_76 : decode cX10_editsTurned 76 = .ok (.aload_n 2, 1) := by decide +kernel
theorem dX10_editsTurned_77 : decode cX10_editsTurned 77 = .ok (.getfield 52, 3) := by decide +kernel
theorem dX10_editsTurned_80 : decode cX10_editsTurned 80 = .ok (.iload_n 3, 1) := by decide +kernel
theorem dX10_editsTurned_81 : decode cX10_editsTurned 81 = .ok (.iload 6, 2) := by decide +kernel
theorem dX10_editsTurned_83 : decode cX10_editsTurned 83 = .ok (.iadd, 1) := by decide +kernel
theorem dX10_editsTurned_84 : decode cX10_editsTurned 84 = .ok (.i2l, 1) := by decide +kernel
theorem dX10_editsTurned_85 : decode cX10_editsTurned 85 = .ok (.aload_n 2, 1) := by decide +kernel
theorem dX10_editsTurned_86 : decode cX10_editsTurned 86 = .ok (.getfield 36, 3) := by decide +kernel
theorem dX10_editsTurned_89 : decode cX10_editsTurned 89 = .ok (.invokestatic 55, 3) := by decide +kernel
theorem dX10_editsTurned_9 : decode cX10_editsTurned 9 = .ok (.if_icmp .gt 18, 3) := by decide +kernel
theorem dX10_editsTurned_92 : decode cX10_editsTurned 92 = .ok (.iaload, 1) := by decide +kernel
theorem dX10_editsTurned_93 : decode cX10_editsTurned 93 = .ok (.if_icmp .ne 7, 3) := by decide +kernel
theorem dX10_editsTurned_96 : decode cX10_editsTurned 96 = .ok (.iconst 1, 1) := by decide +kernel
theorem dX10_editsTurned_97 : decode cX10_editsTurned 97 = .ok (.goto 4, 3) := by decide +kernel
theorem dX10_fewestEdits_0 : decode cX10_fewestEdits 0 = .ok (.aload_n 1, 1) := by decide +kernel
theorem dX10_fewestEdits_1 : decode cX10_fewestEdits 1 = .ok (.getfield 36, 3) := by decide +kernel
theorem dX10_fewestEdits_11 : decode cX10_fewestEdits 11 = .ok (.istore_n 3, 1) := by decide +kernel
theorem dX10_fewestEdits_12 : decode cX10_fewestEdits 12 = .ok (.iconst 0, 1) := by decide +kernel
theorem dX10_fewestEdits_13 : decode cX10_fewestEdits 13 = .ok (.istore 4, 2) := by decide +kernel
theorem dX10_fewestEdits_15 : decode cX10_fewestEdits 15 = .ok (.iload 4, 2) := by decide +kernel
theorem dX10_fewestEdits_17 : decode cX10_fewestEdits 17 = .ok (.aload_n 2, 1) := by decide +kernel
theorem dX10_fewestEdits_18 : decode cX10_fewestEdits 18 = .ok (.getfield 36, 3) := by decide +kernel
theorem dX10_fewestEdits_21 : decode cX10_fewestEdits 21 = .ok (.if_icmp .ge 22, 3) := by decide +kernel
theorem dX10_fewestEdits_24 : decode cX10_fewestEdits 24 = .ok (.iload_n 3, 1) := by decide +kernel
theorem dX10_fewestEdits_25 : decode cX10_fewestEdits 25 = .ok (.aload_n 0, 1) := by decide +kernel
theorem dX10_fewestEdits_26 : decode cX10_fewestEdits 26 = .ok (.aload_n 1, 1) := by decide +kernel
theorem dX10_fewestEdits_27 : decode cX10_fewestEdits 27 = .ok (.aload_n 2, 1) := by decide +kernel
theorem dX10_fewestEdits_28 : decode cX10_fewestEdits 28 = .ok (.iload 4, 2) := by decide +kernel
theorem dX10_fewestEdits_30 : decode cX10_fewestEdits 30 = .ok (.invokevirtual 45, 3) := by decide +kernel
theorem dX10_fewestEdits_33 : decode cX10_fewestEdits 33 = .ok (.invokestatic 49, 3) := by decide +kernel
theorem dX10_fewestEdits_36 : decode cX10_fewestEdits 36 = .ok (.istore_n 3, 1) := by decide +kernel
theorem dX10_fewestEdits_37 : decode cX10_fewestEdits 37 = .ok (.iinc 4 1, 3) := by decide +kernel
theorem dX10_fewestEdits_4 : decode cX10_fewestEdits 4 = .ok (.aload_n 2, 1) := by decide +kernel
theorem dX10_fewestEdits_40 : decode cX10_fewestEdits 40 = .ok (.goto (-25), 3) := by decide +kernel
theorem dX10_fewestEdits_43 : decode cX10_fewestEdits 43 = .ok (.iload_n 3, 1) := by decide +kernel
theorem dX10_fewestEdits_44 : decode cX10_fewestEdits 44 = .ok (.ireturn, 1) := by decide +kernel
theorem dX10_fewestEdits_5 : decode cX10_fewestEdits 5 = .ok (.getfield 36, 3) := by decide +kernel
theorem dX10_fewestEdits_8 : decode cX10_fewestEdits 8 = .ok (.invokestatic 39, 3) := by decide +kernel
theorem dX11_edits_0 : decode cX11_edits 0 = .ok (.aload_n 0, 1) := by decide +kernel
theorem dX11_edits_1 : decode cX11_edits 1 = .ok (.getfield 68, 3) := by decide +kernel
theorem dX11_edits_10 : decode cX11_edits 10 = .ok (.getfield 68, 3) := by decide +kernel
theorem dX11_edits_13 : decode cX11_edits 13 = .ok (.iload_n 2, 1) := by decide +kernel
theorem dX11_edits_14 : decode cX11_edits 14 = .ok (.invokevirtual 277, 3) := by decide +kernel
theorem dX11_edits_17 : decode cX11_edits 17 = .ok (.astore 4, 2) := by decide +kernel
theorem dX11_edits_19 : decode cX11_edits 19 = .ok (.aload_n 3, 1) := by decide +kernel
theorem dX11_edits_20 : decode cX11_edits 20 = .ok (.ifnull 8, 3) := by decide +kernel
theorem dX11_edits_23 : decode cX11_edits 23 = .ok (.aload 4, 2) := by decide +kernel
theorem dX11_edits_25 : decode cX11_edits 25 = .ok (.ifnonnull 7, 3) := by decide +kernel
theorem dX11_edits_28 : decode cX11_edits 28 = .ok (.iconst (-1), 1) := by decide +kernel
theorem dX11_edits_29 : decode cX11_edits 29 = .ok (.goto 13, 3) := by decide +kernel
theorem dX11_edits_32 : decode cX11_edits 32 = .ok (.aload_n 0, 1) := by decide +kernel
theorem dX11_edits_33 : decode cX11_edits 33 = .ok (.getfield 68, 3) := by decide +kernel
theorem dX11_edits_36 : decode cX11_edits 36 = .ok (.aload_n 3, 1) := by decide +kernel
theorem dX11_edits_37 : decode cX11_edits 37 = .ok (.aload 4, 2) := by decide +kernel
theorem dX11_edits_39 : decode cX11_edits 39 = .ok (.invokevirtual 284, 3) := by decide +kernel
theorem dX11_edits_4 : decode cX11_edits 4 = .ok (.iload_n 1, 1) := by decide +kernel
theorem dX11_edits_42 : decode cX11_edits 42 = .ok (.ireturn, 1) := by decide +kernel
theorem dX11_edits_5 : decode cX11_edits 5 = .ok (.invokevirtual 277, 3) := by decide +kernel
theorem dX11_edits_8 : decode cX11_edits 8 = .ok (.astore_n 3, 1) := by decide +kernel
theorem dX11_edits_9 : decode cX11_edits 9 = .ok (.aload_n 0, 1) := by decide +kernel
theorem dX11_row_0 : decode cX11_row 0 = .ok (.iload_n 1, 1) := by decide +kernel
theorem dX11_row_1 : decode cX11_row 1 = .ok (.ifCond .lt 20, 3) := by decide +kernel
theorem dX11_row_12 : decode cX11_row 12 = .ok (.iload_n 1, 1) := by decide +kernel
theorem dX11_row_13 : decode cX11_row 13 = .ok (.aload_n 0, 1) := by decide +kernel
theorem dX11_row_14 : decode cX11_row 14 = .ok (.getfield 72, 3) := by decide +kernel
theorem dX11_row_17 : decode cX11_row 17 = .ok (.arraylength, 1) := by decide +kernel
theorem dX11_row_18 : decode cX11_row 18 = .ok (.if_icmp .lt 11, 3) := by decide +kernel
theorem dX11_row_21 : decode cX11_row 21 = .ok (.new 156, 3) := by decide +kernel
theorem dX11_row_24 : decode cX11_row 24 = .ok (.dup, 1) := by decide +kernel
theorem dX11_row_25 : decode cX11_row 25 = .ok (.invokespecial 158, 3) := by decide +kernel
theorem dX11_row_28 : decode cX11_row 28 = .ok (.athrow, 1) := by decide +kernel
theorem dX11_row_29 : decode cX11_row 29 = .ok (.aload_n 0, 1) := by decide +kernel
theorem dX11_row_30 : decode cX11_row 30 = .ok (.getfield 72, 3) := by decide +kernel
theorem dX11_row_33 : decode cX11_row 33 = .ok (.iload_n 1, 1) := by decide +kernel
theorem dX11_row_34 : decode cX11_row 34 = .ok (.iaload, 1) := by decide +kernel
theorem dX11_row_35 : decode cX11_row 35 = .ok (.ireturn, 1) := by decide +kernel
theorem dX11_row_4 : decode cX11_row 4 = .ok (.iload_n 1, 1) := by decide +kernel
theorem dX11_row_5 : decode cX11_row 5 = .ok (.aload_n 0, 1) := by decide +kernel
theorem dX11_row_6 : decode cX11_row 6 = .ok (.getfield 76, 3) := by decide +kernel
theorem dX11_row_9 : decode cX11_row 9 = .ok (.if_icmp .ge 12, 3) := by decide +kernel
theorem dX12_areSounds_0 : decode cX12_areSounds 0 = .ok (.iload_n 0, 1) := by decide +kernel
theorem dX12_areSounds_1 : decode cX12_areSounds 1 = .ok (.sipush (-1023), 3) := by decide +kernel
theorem dX12_areSounds_12 : decode cX12_areSounds 12 = .ok (.iconst 0, 1) := by decide +kernel
theorem dX12_areSounds_13 : decode cX12_areSounds 13 = .ok (.ireturn, 1) := by decide +kernel
theorem dX12_areSounds_4 : decode cX12_areSounds 4 = .ok (.iand, 1) := by decide +kernel
theorem dX12_areSounds_5 : decode cX12_areSounds 5 = .ok (.ifCond .ne 7, 3) := by decide +kernel
theorem dX12_areSounds_8 : decode cX12_areSounds 8 = .ok (.iconst 1, 1) := by decide +kernel
theorem dX12_areSounds_9 : decode cX12_areSounds 9 = .ok (.goto 4, 3) := by decide +kernel
theorem dX12_end_0 : decode cX12_end 0 = .ok (.aload_n 0, 1) := by decide +kernel
theorem dX12_end_1 : decode cX12_end 1 = .ok (.iconst 0, 1) := by decide +kernel
theorem dX12_end_10 : decode cX12_end 10 = .ok (.aload_n 0, 1) := by decide +kernel
theorem dX12_end_11 : decode cX12_end 11 = .ok (.getfield 128, 3) := by decide +kernel
theorem dX12_end_14 : decode cX12_end 14 = .ok (.if_icmp .le 5, 3) := by decide +kernel
theorem dX12_end_17 : decode cX12_end 17 = .ok (.iconst 0, 1) := by decide +kernel
theorem dX12_end_18 : decode cX12_end 18 = .ok (.ireturn, 1) := by decide +kernel
theorem dX12_end_19 : decode cX12_end 19 = .ok (.aload_n 0, 1) := by decide +kernel
theorem dX12_end_2 : decode cX12_end 2 = .ok (.putfield 118, 3) := by decide +kernel
theorem dX12_end_20 : decode cX12_end 20 = .ok (.iload_n 1, 1) := by decide +kernel
theorem dX12_end_21 : decode cX12_end 21 = .ok (.putfield 128, 3) := by decide +kernel
theorem dX12_end_24 : decode cX12_end 24 = .ok (.iconst 1, 1) := by decide +kernel
theorem dX12_end_25 : decode cX12_end 25 = .ok (.ireturn, 1) := by decide +kernel
theorem dX12_end_5 : decode cX12_end 5 = .ok (.iload_n 1, 1) := by decide +kernel
theorem dX12_end_6 : decode cX12_end 6 = .ok (.ifCond .lt 11, 3) := by decide +kernel
theorem dX12_end_9 : decode cX12_end 9 = .ok (.iload_n 1, 1) := by decide +kernel
theorem dX12_has_0 : decode cX12_has 0 = .ok (.aload_n 0, 1) := by decide +kernel
theorem dX12_has_1 : decode cX12_has 1 = .ok (.getfield 131, 3) := by decide +kernel
theorem dX12_has_11 : decode cX12_has 11 = .ok (.aload_n 0, 1) := by decide +kernel
theorem dX12_has_12 : decode cX12_has 12 = .ok (.getfield 131, 3) := by decide +kernel
theorem dX12_has_15 : decode cX12_has 15 = .ok (.bipush 60, 2) := by decide +kernel
theorem dX12_has_17 : decode cX12_has 17 = .ok (.if_icmp .ge 33, 3) := by decide +kernel
theorem dX12_has_20 : decode cX12_has 20 = .ok (.aload_n 0, 1) := by decide +kernel
theorem dX12_has_21 : decode cX12_has 21 = .ok (.getfield 9, 3) := by decide +kernel
theorem dX12_has_24 : decode cX12_has 24 = .ok (.aload_n 0, 1) := by decide +kernel
theorem dX12_has_25 : decode cX12_has 25 = .ok (.getfield 131, 3) := by decide +kernel
theorem dX12_has_28 : decode cX12_has 28 = .ok (.baload, 1) := by decide +kernel
theorem dX12_has_29 : decode cX12_has 29 = .ok (.iload_n 1, 1) := by decide +kernel
theorem dX12_has_30 : decode cX12_has 30 = .ok (.if_icmp .lt 20, 3) := by decide +kernel
theorem dX12_has_33 : decode cX12_has 33 = .ok (.aload_n 0, 1) := by decide +kernel
theorem dX12_has_34 : decode cX12_has 34 = .ok (.getfield 9, 3) := by decide +kernel
theorem dX12_has_37 : decode cX12_has 37 = .ok (.aload_n 0, 1) := by decide +kernel
theorem dX12_has_38 : decode cX12_has 38 = .ok (.getfield 131, 3) := by decide +kernel
theorem dX12_has_4 : decode cX12_has 4 = .ok (.aload_n 0, 1) := by decide +kernel
theorem dX12_has_41 : decode cX12_has 41 = .ok (.baload, 1) := by decide +kernel
theorem dX12_has_42 : decode cX12_has 42 = .ok (.iload_n 2, 1) := by decide +kernel
theorem dX12_has_43 : decode cX12_has 43 = .ok (.if_icmp .gt 7, 3) := by decide +kernel
theorem dX12_has_46 : decode cX12_has 46 = .ok (.iconst 1, 1) := by decide +kernel
theorem dX12_has_47 : decode cX12_has 47 = .ok (.goto 4, 3) := by decide +kernel
theorem dX12_has_5 : decode cX12_has 5 = .ok (.getfield 128, 3) := by decide +kernel
theorem dX12_has_50 : decode cX12_has 50 = .ok (.iconst 0, 1) := by decide +kernel
theorem dX12_has_51 : decode cX12_has 51 = .ok (.ireturn, 1) := by decide +kernel
theorem dX12_has_8 : decode cX12_has 8 = .ok (.if_icmp .ge 42, 3) := by decide +kernel
theorem dX12_in_0 : decode cX12_in 0 = .ok (.iload_n 0, 1) := by decide +kernel
theorem dX12_in_1 : decode cX12_in 1 = .ok (.iload_n 1, 1) := by decide +kernel
theorem dX12_in_10 : decode cX12_in 10 = .ok (.iconst 1, 1) := by decide +kernel
theorem dX12_in_11 : decode cX12_in 11 = .ok (.goto 4, 3) := by decide +kernel
theorem dX12_in_14 : decode cX12_in 14 = .ok (.iconst 0, 1) := by decide +kernel
theorem dX12_in_15 : decode cX12_in 15 = .ok (.ireturn, 1) := by decide +kernel
theorem dX12_in_2 : decode cX12_in 2 = .ok (.if_icmp .lt 12, 3) := by decide +kernel
theorem dX12_in_5 : decode cX12_in 5 = .ok (.iload_n 0, 1) := by decide +kernel
theorem dX12_in_6 : decode cX12_in 6 = .ok (.iload_n 2, 1) := by decide +kernel
theorem dX12_in_7 : decode cX12_in 7 = .ok (.if_icmp .gt 7, 3) := by decide +kernel
theorem dX12_isMotor_0 : decode cX12_isMotor 0 = .ok (.iload_n 0, 1) := by decide +kernel
theorem dX12_isMotor_1 : decode cX12_isMotor 1 = .ok (.ifCond .eq 8, 3) := by decide +kernel
theorem dX12_isMotor_10 : decode cX12_isMotor 10 = .ok (.goto 4, 3) := by decide +kernel
theorem dX12_isMotor_13 : decode cX12_isMotor 13 = .ok (.iconst 0, 1) := by decide +kernel
theorem dX12_isMotor_14 : decode cX12_isMotor 14 = .ok (.ireturn, 1) := by decide +kernel
theorem dX12_isMotor_4 : decode cX12_isMotor 4 = .ok (.iload_n 0, 1) := by decide +kernel
theorem dX12_isMotor_5 : decode cX12_isMotor 5 = .ok (.iconst 1, 1) := by decide +kernel
theorem dX12_isMotor_6 : decode cX12_isMotor 6 = .ok (.if_icmp .ne 7, 3) := by decide +kernel
theorem dX12_isMotor_9 : decode cX12_isMotor 9 = .ok (.iconst 1, 1) := by decide +kernel
theorem dX12_isRing_0 : decode cX12_isRing 0 = .ok (.iload_n 1, 1) := by decide +kernel
theorem dX12_isRing_1 : decode cX12_isRing 1 = .ok (.iconst 0, 1) := by decide +kernel
theorem dX12_isRing_11 : decode cX12_isRing 11 = .ok (.ireturn, 1) := by decide +kernel
theorem dX12_isRing_2 : decode cX12_isRing 2 = .ok (.aload_n 0, 1) := by decide +kernel
theorem dX12_isRing_3 : decode cX12_isRing 3 = .ok (.getfield 121, 3) := by decide +kernel
theorem dX12_isRing_6 : decode cX12_isRing 6 = .ok (.iconst 1, 1) := by decide +kernel
theorem dX12_isRing_7 : decode cX12_isRing 7 = .ok (.isub, 1) := by decide +kernel
theorem dX12_isRing_8 : decode cX12_isRing 8 = .ok (.invokestatic 124, 3) := by decide +kernel
theorem dX12_sign_0 : decode cX12_sign 0 = .ok (.aload_n 0, 1) := by decide +kernel
theorem dX12_sign_1 : decode cX12_sign 1 = .ok (.iconst 0, 1) := by decide +kernel
theorem dX12_sign_10 : decode cX12_sign 10 = .ok (.iadd, 1) := by decide +kernel
theorem dX12_sign_11 : decode cX12_sign 11 = .ok (.bipush 100, 2) := by decide +kernel
theorem dX12_sign_13 : decode cX12_sign 13 = .ok (.if_icmp .le 5, 3) := by decide +kernel
theorem dX12_sign_16 : decode cX12_sign 16 = .ok (.iconst (-1), 1) := by decide +kernel
theorem dX12_sign_17 : decode cX12_sign 17 = .ok (.ireturn, 1) := by decide +kernel
theorem dX12_sign_18 : decode cX12_sign 18 = .ok (.aload_n 0, 1) := by decide +kernel
theorem dX12_sign_19 : decode cX12_sign 19 = .ok (.getfield 9, 3) := by decide +kernel
theorem dX12_sign_2 : decode cX12_sign 2 = .ok (.putfield 118, 3) := by decide +kernel
theorem dX12_sign_22 : decode cX12_sign 22 = .ok (.aload_n 0, 1) := by decide +kernel
theorem dX12_sign_23 : decode cX12_sign 23 = .ok (.getfield 128, 3) := by decide +kernel
theorem dX12_sign_26 : decode cX12_sign 26 = .ok (.iload_n 1, 1) := by decide +kernel
theorem dX12_sign_27 : decode cX12_sign 27 = .ok (.bipush 24, 2) := by decide +kernel
theorem dX12_sign_29 : decode cX12_sign 29 = .ok (.ishr, 1) := by decide +kernel
theorem dX12_sign_30 : decode cX12_sign 30 = .ok (.i2b, 1) := by decide +kernel
theorem dX12_sign_31 : decode cX12_sign 31 = .ok (.bastore, 1) := by decide +kernel
theorem dX12_sign_32 : decode cX12_sign 32 = .ok (.aload_n 0, 1) := by decide +kernel
theorem dX12_sign_33 : decode cX12_sign 33 = .ok (.getfield 9, 3) := by decide +kernel
theorem dX12_sign_36 : decode cX12_sign 36 = .ok (.aload_n 0, 1) := by decide +kernel
theorem dX12_sign_37 : decode cX12_sign 37 = .ok (.getfield 128, 3) := by decide +kernel
theorem dX12_sign_40 : decode cX12_sign 40 = .ok (.iconst 1, 1) := by decide +kernel
theorem dX12_sign_41 : decode cX12_sign 41 = .ok (.iadd, 1) := by decide +kernel
theorem dX12_sign_42 : decode cX12_sign 42 = .ok (.iload_n 1, 1) := by decide +kernel
theorem dX12_sign_43 : decode cX12_sign 43 = .ok (.bipush 16, 2) := by decide +kernel
theorem dX12_sign_45 : decode cX12_sign 45 = .ok (.ishr, 1) := by decide +kernel
theorem dX12_sign_46 : decode cX12_sign 46 = .ok (.i2b, 1) := by decide +kernel
theorem dX12_sign_47 : decode cX12_sign 47 = .ok (.bastore, 1) := by decide +kernel
theorem dX12_sign_48 : decode cX12_sign 48 = .ok (.aload_n 0, 1) := by decide +kernel
theorem dX12_sign_49 : decode cX12_sign 49 = .ok (.getfield 9, 3) := by decide +kernel
theorem dX12_sign_5 : decode cX12_sign 5 = .ok (.aload_n 0, 1) := by decide +kernel
theorem dX12_sign_52 : decode cX12_sign 52 = .ok (.aload_n 0, 1) := by decide +kernel
theorem dX12_sign_53 : decode cX12_sign 53 = .ok (.getfield 128, 3) := by decide +kernel
theorem dX12_sign_56 : decode cX12_sign 56 = .ok (.iconst 2, 1) := by decide +kernel
theorem dX12_sign_57 : decode cX12_sign 57 = .ok (.iadd, 1) := by decide +kernel
theorem dX12_sign_58 : decode cX12_sign 58 = .ok (.iload_n 1, 1) := by decide +kernel
theorem dX12_sign_59 : decode cX12_sign 59 = .ok (.bipush 8, 2) := by decide +kernel
theorem dX12_sign_6 : decode cX12_sign 6 = .ok (.getfield 128, 3) := by decide +kernel
theorem dX12_sign_61 : decode cX12_sign 61 = .ok (.ishr, 1) := by decide +kernel
theorem dX12_sign_62 : decode cX12_sign 62 = .ok (.i2b, 1) := by decide +kernel
theorem dX12_sign_63 : decode cX12_sign 63 = .ok (.bastore, 1) := by decide +kernel
theorem dX12_sign_64 : decode cX12_sign 64 = .ok (.aload_n 0, 1) := by decide +kernel
theorem dX12_sign_65 : decode cX12_sign 65 = .ok (.getfield 9, 3) := by decide +kernel
theorem dX12_sign_68 : decode cX12_sign 68 = .ok (.aload_n 0, 1) := by decide +kernel
theorem dX12_sign_69 : decode cX12_sign 69 = .ok (.getfield 128, 3) := by decide +kernel
theorem dX12_sign_72 : decode cX12_sign 72 = .ok (.iconst 3, 1) := by decide +kernel
theorem dX12_sign_73 : decode cX12_sign 73 = .ok (.iadd, 1) := by decide +kernel
theorem dX12_sign_74 : decode cX12_sign 74 = .ok (.iload_n 1, 1) := by decide +kernel
theorem dX12_sign_75 : decode cX12_sign 75 = .ok (.i2b, 1) := by decide +kernel
theorem dX12_sign_76 : decode cX12_sign 76 = .ok (.bastore, 1) := by decide +kernel
theorem dX12_sign_77 : decode cX12_sign 77 = .ok (.aload_n 0, 1) := by decide +kernel
theorem dX12_sign_78 : decode cX12_sign 78 = .ok (.dup, 1) := by decide +kernel
theorem dX12_sign_79 : decode cX12_sign 79 = .ok (.getfield 128, 3) := by decide +kernel
theorem dX12_sign_82 : decode cX12_sign 82 = .ok (.iconst 4, 1) := by decide +kernel
theorem dX12_sign_83 : decode cX12_sign 83 = .ok (.iadd, 1) := by decide +kernel
theorem dX12_sign_84 : decode cX12_sign 84 = .ok (.putfield 128, 3) := by decide +kernel
theorem dX12_sign_87 : decode cX12_sign 87 = .ok (.aload_n 0, 1) := by decide +kernel
theorem dX12_sign_88 : decode cX12_sign 88 = .ok (.getfield 128, 3) := by decide +kernel
theorem dX12_sign_9 : decode cX12_sign 9 = .ok (.iconst 4, 1) := by decide +kernel
theorem dX12_sign_91 : decode cX12_sign 91 = .ok (.ireturn, 1) := by decide +kernel
theorem dm_X10_editsTurned : yX10_editsTurned.cls = RX10 ∧ yX10_editsTurned.cls ≠ "java/lang/invoke/MethodHandle" ∧ yX10_editsTurned.cls ≠ "java/lang/invoke/VarHandle" ∧ (parseMethodDescriptor yX10_editsTurned.desc).map (fun d => d.parameters.length) = some 3 := by decide +kernel
theorem dm_X10_fewestEdits : yX10_fewestEdits.cls = RX10 ∧ yX10_fewestEdits.cls ≠ "java/lang/invoke/MethodHandle" ∧ yX10_fewestEdits.cls ≠ "java/lang/invoke/VarHandle" ∧ (parseMethodDescriptor yX10_fewestEdits.desc).map (fun d => d.parameters.length) = some 2 := by decide +kernel
theorem dm_X12_in : yX12_in.cls = RX12 ∧ yX12_in.cls ≠ "java/lang/invoke/MethodHandle" ∧ yX12_in.cls ≠ "java/lang/invoke/VarHandle" ∧ (parseMethodDescriptor yX12_in.desc).map (fun d => d.parameters.length) = some 3 := by decide +kernel
set_option maxRecDepth 100000 in
def wC_Versions_editsTurned (a0 : Nat) (a1 : Nat) (a2 : Int) (M : zM) (Q : Int → zM → Prop) : Prop := wL1 (fun K3 x5 M6 => ((sI (M6 a1 1)) < (sI x5) → wL1 (fun K30 x15 M16 => ((sI (M16 a0 1)) ≤ (sI x15) → ((0 ≤ (sI (M16 a1 1)) ∧ (sI (M16 a1 1)) < 25) ∧ Q (sI (M16 100 (sI (M16 a1 1)).toNat)) M16)) ∧ ((sI x15) < (sI (M16 a0 1)) → (∀ M26 : zM, M26 = zup M16 100 0 (x15 + 1) → wL2 (fun K60 x28 x29 M30 => ((sI (M30 a1 1)) ≤ (sI x29) → K30 (x15 + 1) M30) ∧ ((sI x29) < (sI (M30 a1 1)) → ((0 ≤ (sI x15) ∧ (sI x15) < 24) ∧ wC_by (sI (a2 + x29)) (M30 a1 1) M30 (fun z43 => ((0 ≤ z43 ∧ z43 < 24) ∧ pJ1 (fun J101 => ((sI (M30 (a0 + 1) (sI x15).toNat)) ≠ (sI (M30 (a1 + 1) z43.toNat)) → J101 0) ∧ ((sI (M30 (a0 + 1) (sI x15).toNat)) = (sI (M30 (a1 + 1) z43.toNat)) → J101 1)) (fun (x48 : Int) => pJ1 (fun J117 => ((sI x48) = 0 → J117 (x28 + 1)) ∧ ((sI x48) ≠ 0 → J117 x28)) (fun (x52 : Int) => ((0 ≤ (sI (x29 + 1)) ∧ (sI (x29 + 1)) < 25) ∧ ((0 ≤ (sI x29) ∧ (sI x29) < 25) ∧ ((0 ≤ (sI (x29 + 1)) ∧ (sI (x29 + 1)) < 25) ∧ (∀ M58 : zM, M58 = zup M30 100 (sI (x29 + 1)).toNat (min (sI x52) (sI (1 + (min (sI (M30 100 (sI (x29 + 1)).toNat)) (sI (M30 100 (sI x29).toNat)))))) → K60 (M30 100 (sI (x29 + 1)).toNat) (x29 + 1) M58))))))))))) (M16 100 0) 0 M26))) 0 M6) ∧ ((sI x5) ≤ (sI (M6 a1 1)) → ((0 ≤ (sI x5) ∧ (sI x5) < 25) ∧ (∀ M65 : zM, M65 = zup M6 100 (sI x5).toNat x5 → K3 (x5 + 1) M65)))) 0 M
set_option maxHeartbeats 4000000 in
set_option maxRecDepth 100000 in
theorem cC_Versions_editsTurned (l : Launch) (D : va_G) (dA : Nat → ClassId) (b : Nat) (M : zM) (a0 : Nat) (a1 : Nat) (a2 : Int) (lt_a0 : a0 < nC) (cd_a0 : zcd wC a0 = 6) (lt_a1 : a1 < nC) (cd_a1 : zcd wC a1 = 6) (Q : Int → zM → Prop) (h : wC_Versions_editsTurned a0 a1 a2 M Q) : Met l yX10_editsTurned (.code yX10_editsTurned cX10_editsTurned 9 (some .int) :: zt) (z_rm 1) (va_Pc [.ref (b + 96), .ref (b + a0), .ref (b + a1), .int (iI a2)] (wPre D dA vwCl (z_tys dA) wC nC b M)) (va_Qi (wQi Q) (zB D dA vwCl wC nC b) (zA nC b)) 0 0 (zA nC b) := by
  unfold wC_Versions_editsTurned at h
  refine Met.ofW (cc := cX10_editsTurned) (maxL := 9) (ret := (some .int)) (by decide) rfl ?_
  intro p e s m args below meth c s₁ B hml hv
  obtain ⟨hargs, hS, hK⟩ := hv
  have hx := B.exec
  have hb := B.bytes
  have hr := B.returns
  have hts := atoms_spec (ws := .code yX10_editsTurned cX10_editsTurned 9 (some .int) :: zt) B.pre
  have hown : s.vm.findClass RX10 = some m.cls := findClass_of_methodNamed B.named
  have hlocks := B.notSynchronized
  have hS0 : va_S (zA nC b) s.heap s.heap [] := va_S.rf
  have hl := lv_entry ([.ref (b + 96), .ref (b + a0), .ref (b + a1), .int (iI a2)]) (n := 9) (Nat.le_of_ble_eq_true rfl)
  have hent : entryFrame m args 9 = F0 m 0 ((lg_sl ([.ref (b + 96), .ref (b + a0), .ref (b + a1), .int (iI a2)]) ++ List.replicate (9 - (lg_sl ([.ref (b + 96), .ref (b + a0), .ref (b + a1), .int (iI a2)])).length) Slot.unset).toArray) [] := by rw [hargs]; exact lg_entry_eq m ([.ref (b + 96), .ref (b + a0), .ref (b + a1), .int (iI a2)]) 9
  rw [hent]
  generalize (lg_sl ([.ref (b + 96), .ref (b + a0), .ref (b + a1), .int (iI a2)]) ++ List.replicate (9 - (lg_sl ([.ref (b + 96), .ref (b + a0), .ref (b + a1), .int (iI a2)])).length) Slot.unset).toArray = ls at hl ⊢
  have hl : lv_has ls 9 [(0, .ref (b + 96)), (1, .ref (b + a0)), (2, .ref (b + a1)), (3, .int (iI a2))] := hl
  obtain ⟨lt1, cd2⟩ := nx_strip a0 lt_a0 cd_a0
  obtain ⟨lt3, cd4⟩ := nx_strip a1 lt_a1 cd_a1
  refine z_iconst hx hb dX10_editsTurned_0 ?_
  refine lv_istore (lv' := [(4, .int (iI 0)), (0, .ref (b + 96)), (1, .ref (b + a0)), (2, .ref (b + a1)), (3, .int (iI a2))]) hx hb dX10_editsTurned_1 hl (by decide) rfl (fun ls hl => ?_)
  obtain ⟨I7, ⟨n8, h9⟩, h10⟩ := h
  have L11 : ∀ (n12 : Nat) (x5 : Int) (M6 : zM) (H : Heap) (locs : List Loc) (ls : Array Slot), I7 n12 x5 M6 → zR D dA vwCl wC nC b M6 H → va_S (zA nC b) s.heap H locs → lv_has ls 9 [(0, .ref (b + 96)), (1, .ref (b + a0)), (2, .ref (b + a1)), (3, .int (iI a2)), (4, .int (iI x5))] → W p l e (headSpec (.code yX10_editsTurned cX10_editsTurned 9 (some .int) :: zt) (z_rm 1)).room s m args below meth c H locs 0 0 (MQ below (va_Qi (wQi Q) (zB D dA vwCl wC nC b) (zA nC b)) args s 0 0 (zA nC b)) (F0 m 3 ls []) := by
    intro n12
    induction n12 using Nat.strongRecOn with
    | ind n12 i13 =>
      intro x5 M6 H locs ls h hS hS0 hl
      have h := h10 n12 x5 M6 h
      refine lv_iload hx hb dX10_editsTurned_3 (lv_at hl 4 rfl) ?_
      refine lv_aload_n hx hb dX10_editsTurned_5 rfl (lv_at hl 2 rfl) ?_
      refine w_geti hx hb hts (z_memU u8) hown hK.1 hS f8_1 lt_a1 (zkd_of cd_a1 rfl) (Or.inl (hts _ (z_mem k47))) dX10_editsTurned_6 ?_
      refine w_icmp_gt (tgt := 27) hx hb rfl rfl dX10_editsTurned_9 (by decide) (fun c14 => ?_) (fun c14 => ?_)
      · skip
        have h := h.1 c14
        refine z_iconst hx hb dX10_editsTurned_27 ?_
        refine lv_istore (lv' := [(4, .int (iI 0)), (0, .ref (b + 96)), (1, .ref (b + a0)), (2, .ref (b + a1)), (3, .int (iI a2))]) hx hb dX10_editsTurned_28 hl (by decide) rfl (fun ls hl => ?_)
        obtain ⟨I17, ⟨n18, h19⟩, h20⟩ := h
        have L21 : ∀ (n22 : Nat) (x15 : Int) (M16 : zM) (H : Heap) (locs : List Loc) (ls : Array Slot), I17 n22 x15 M16 → zR D dA vwCl wC nC b M16 H → va_S (zA nC b) s.heap H locs → lv_has ls 9 [(0, .ref (b + 96)), (1, .ref (b + a0)), (2, .ref (b + a1)), (3, .int (iI a2)), (4, .int (iI x15))] → W p l e (headSpec (.code yX10_editsTurned cX10_editsTurned 9 (some .int) :: zt) (z_rm 1)).room s m args below meth c H locs 0 0 (MQ below (va_Qi (wQi Q) (zB D dA vwCl wC nC b) (zA nC b)) args s 0 0 (zA nC b)) (F0 m 30 ls []) := by
          intro n22
          induction n22 using Nat.strongRecOn with
          | ind n22 i23 =>
            intro x15 M16 H locs ls h hS hS0 hl
            have h := h20 n22 x15 M16 h
            refine lv_iload hx hb dX10_editsTurned_30 (lv_at hl 4 rfl) ?_
            refine lv_aload_n hx hb dX10_editsTurned_32 rfl (lv_at hl 1 rfl) ?_
            refine w_geti hx hb hts (z_memU u8) hown hK.1 hS f8_1 lt_a0 (zkd_of cd_a0 rfl) (Or.inl (hts _ (z_mem k47))) dX10_editsTurned_33 ?_
            refine w_icmp_ge (tgt := 170) hx hb rfl rfl dX10_editsTurned_36 (by decide) (fun c24 => ?_) (fun c24 => ?_)
            · skip
              have h := h.1 c24
              refine lv_aload_n hx hb dX10_editsTurned_170 rfl (lv_at hl 0 rfl) ?_
              refine w_getr (j2 := 100) hx hb hts (z_memU u10) hown hK.1 hS f10_4 (by decide) (zkd_of (rfl : zcd wC 96 = 44) rfl) (zrf_of (rfl : zcd wC 96 = 44) rfl) (Or.inl (hts _ (z_mem k236))) dX10_editsTurned_171 ?_
              refine lv_aload_n hx hb dX10_editsTurned_174 rfl (lv_at hl 2 rfl) ?_
              refine w_geti hx hb hts (z_memU u8) hown hK.1 hS f8_1 lt_a1 (zkd_of cd_a1 rfl) (Or.inl (hts _ (z_mem k47))) dX10_editsTurned_175 ?_
              obtain ⟨o25, h⟩ := h
              refine w_iald (n := 25) (i := (sI (M16 a1 1))) hx hb hK.1 (t0 := 0) rfl hS (by decide) (zkd_of (rfl : zcd wC 100 = 48) rfl) (zln_of (rfl : zcd wC 100 = 48) rfl) rfl o25.1 o25.2 (by decide) dX10_editsTurned_178 ?_
              exact w_iret hx hb hr hlocks hS hS0 rfl h dX10_editsTurned_179
            · skip
              have h := h.2 c24
              refine lv_aload_n hx hb dX10_editsTurned_39 rfl (lv_at hl 0 rfl) ?_
              refine w_getr (j2 := 100) hx hb hts (z_memU u10) hown hK.1 hS f10_4 (by decide) (zkd_of (rfl : zcd wC 96 = 44) rfl) (zrf_of (rfl : zcd wC 96 = 44) rfl) (Or.inl (hts _ (z_mem k236))) dX10_editsTurned_40 ?_
              refine z_iconst hx hb dX10_editsTurned_43 ?_
              refine w_iald (n := 25) (i := 0) hx hb hK.1 (t0 := 0) rfl hS (by decide) (zkd_of (rfl : zcd wC 100 = 48) rfl) (zln_of (rfl : zcd wC 100 = 48) rfl) (sI_of (by decide)) (by decide) (by decide) (by decide) dX10_editsTurned_44 ?_
              refine lv_istore (lv' := [(5, .int (iI (M16 100 0))), (0, .ref (b + 96)), (1, .ref (b + a0)), (2, .ref (b + a1)), (3, .int (iI a2)), (4, .int (iI x15))]) hx hb dX10_editsTurned_45 hl (by decide) rfl (fun ls hl => ?_)
              refine lv_aload_n hx hb dX10_editsTurned_47 rfl (lv_at hl 1 rfl) ?_
              refine w_getr (j2 := 100) hx hb hts (z_memU u10) hown hK.1 hS f10_4 (by decide) (zkd_of (rfl : zcd wC 96 = 44) rfl) (zrf_of (rfl : zcd wC 96 = 44) rfl) (Or.inl (hts _ (z_mem k236))) dX10_editsTurned_48 ?_
              refine z_iconst hx hb dX10_editsTurned_51 ?_
              refine lv_iload hx hb dX10_editsTurned_52 (lv_at hl 5 rfl) ?_
              refine z_iconst hx hb dX10_editsTurned_54 ?_
              refine z_iadd hx hb dX10_editsTurned_55 ?_
              refine w_iast (z := (x15 + 1)) (n := 25) (i := 0) hx hb hK.1 (t0 := 0) rfl hS hS0 (by decide) (zkd_of (rfl : zcd wC 100 = 48) rfl) (zln_of (rfl : zcd wC 100 = 48) rfl) (sI_of (by decide)) (by decide) (by decide) (by decide) dX10_editsTurned_56 (fun H locs hS hS0 => ?_)
              rw [show ((0 : Int).toNat) = 0 from rfl] at hS
              obtain ⟨M26, e27⟩ : ∃ M26 : zM, M26 = zup M16 100 0 (x15 + 1) := ⟨_, rfl⟩
              rw [← e27] at hS
              have h := h M26 e27
              refine z_iconst hx hb dX10_editsTurned_57 ?_
              refine lv_istore (lv' := [(6, .int (iI 0)), (5, .int (iI (M16 100 0))), (0, .ref (b + 96)), (1, .ref (b + a0)), (2, .ref (b + a1)), (3, .int (iI a2)), (4, .int (iI x15))]) hx hb dX10_editsTurned_58 hl (by decide) rfl (fun ls hl => ?_)
              obtain ⟨I31, ⟨n32, h33⟩, h34⟩ := h
              have L35 : ∀ (n36 : Nat) (x28 x29 : Int) (M30 : zM) (H : Heap) (locs : List Loc) (ls : Array Slot), I31 n36 x28 x29 M30 → zR D dA vwCl wC nC b M30 H → va_S (zA nC b) s.heap H locs → lv_has ls 9 [(0, .ref (b + 96)), (1, .ref (b + a0)), (2, .ref (b + a1)), (3, .int (iI a2)), (4, .int (iI x15)), (5, .int (iI x28)), (6, .int (iI x29))] → W p l e (headSpec (.code yX10_editsTurned cX10_editsTurned 9 (some .int) :: zt) (z_rm 1)).room s m args below meth c H locs 0 0 (MQ below (va_Qi (wQi Q) (zB D dA vwCl wC nC b) (zA nC b)) args s 0 0 (zA nC b)) (F0 m 60 ls []) := by
                intro n36
                induction n36 using Nat.strongRecOn with
                | ind n36 i37 =>
                  intro x28 x29 M30 H locs ls h hS hS0 hl
                  have h := h34 n36 x28 x29 M30 h
                  refine lv_iload hx hb dX10_editsTurned_60 (lv_at hl 6 rfl) ?_
                  refine lv_aload_n hx hb dX10_editsTurned_62 rfl (lv_at hl 2 rfl) ?_
                  refine w_geti hx hb hts (z_memU u8) hown hK.1 hS f8_1 lt_a1 (zkd_of cd_a1 rfl) (Or.inl (hts _ (z_mem k47))) dX10_editsTurned_63 ?_
                  refine w_icmp_ge (tgt := 164) hx hb rfl rfl dX10_editsTurned_66 (by decide) (fun c38 => ?_) (fun c38 => ?_)
                  · skip
                    have h := h.1 c38
                    refine z_iinc (lv' := [(4, .int (iI (x15 + 1))), (0, .ref (b + 96)), (1, .ref (b + a0)), (2, .ref (b + a1)), (3, .int (iI a2)), (5, .int (iI x28)), (6, .int (iI x29))]) hx hb dX10_editsTurned_164 hl (k := 4) rfl (by decide) rfl (fun ls hl => ?_)
                    refine lv_goto (tgt := 30) hx hb dX10_editsTurned_167 (by decide) ?_
                    obtain ⟨n39, h40, h⟩ := h
                    exact i23 n39 h40 (x15 + 1) M30 _ _ _ h hS hS0 (lv_sub hl [1, 2, 3, 4, 0] rfl)
                  · skip
                    have h := h.2 c38
                    refine lv_aload_n hx hb dX10_editsTurned_69 rfl (lv_at hl 1 rfl) ?_
                    refine w_getr (j2 := (a0 + 1)) hx hb hts (z_memU u8) hown hK.1 hS f8_0 lt_a0 (zkd_of cd_a0 rfl) (zrf_of cd_a0 rfl) (Or.inl (hts _ (z_mem k43))) dX10_editsTurned_70 ?_
                    refine lv_iload hx hb dX10_editsTurned_73 (lv_at hl 4 rfl) ?_
                    obtain ⟨o41, h⟩ := h
                    refine w_iald (n := 24) (i := (sI x15)) hx hb hK.1 (t0 := 0) rfl hS lt1 (zkd_of cd2 rfl) (zln_of cd2 rfl) rfl o41.1 o41.2 (by decide) dX10_editsTurned_75 ?_
                    refine lv_aload_n hx hb dX10_editsTurned_76 rfl (lv_at hl 2 rfl) ?_
                    refine w_getr (j2 := (a1 + 1)) hx hb hts (z_memU u8) hown hK.1 hS f8_0 lt_a1 (zkd_of cd_a1 rfl) (zrf_of cd_a1 rfl) (Or.inl (hts _ (z_mem k43))) dX10_editsTurned_77 ?_
                    refine lv_iload_n hx hb dX10_editsTurned_80 rfl (lv_at hl 3 rfl) ?_
                    refine lv_iload hx hb dX10_editsTurned_81 (lv_at hl 6 rfl) ?_
                    refine z_iadd hx hb dX10_editsTurned_83 ?_
                    refine w_i2l hx hb rfl dX10_editsTurned_84 ?_
                    refine lv_aload_n hx hb dX10_editsTurned_85 rfl (lv_at hl 2 rfl) ?_
                    refine w_geti hx hb hts (z_memU u8) hown hK.1 hS f8_1 lt_a1 (zkd_of cd_a1 rfl) (Or.inl (hts _ (z_mem k47))) dX10_editsTurned_86 ?_
                    refine w_calli (va_runSN (As := [.long (iL (sI (a2 + x29))), .int (iI (M30 a1 1))]) (rest := [.ref (b + (a1 + 1)), .int (iI (M30 (a0 + 1) (sI x15).toNat))]) ⟨hx, hb, hml, hown, hts⟩ (cC_by l D dA b M30 (sI (a2 + x29)) (M30 a1 1) _ h) ⟨va_cnB 2 hts (z_gN k406) rfl rfl rfl (hK.2 (RX10, 55, yX11_by, RX11) (List.mem_of_getElem? (i := 18) rfl)) (hts _ (z_mem k1)) dm_X11_by.2 ⟨Nat.le_of_ble_eq_true rfl, Nat.le_of_ble_eq_true rfl⟩, (hts _ (z_mem k405)), trivial⟩ ⟨wPre_blind, w_pre hS hK⟩ rfl rfl hl.1 rfl (lv_room (Nat.le_of_ble_eq_true rfl)) dX10_editsTurned_89 ⟨Nat.le_refl _, Nat.le_refl _⟩) hS0 (fun z43 M42 H locs r44 h hS hS0 => ?_)
                    obtain ⟨e45, h⟩ := h
                    rw [e45] at hS
                    obtain ⟨o46, h⟩ := h
                    refine w_iald (n := 24) (i := z43) hx hb hK.1 (t0 := 0) rfl hS lt3 (zkd_of cd4 rfl) (zln_of cd4 rfl) (sI_of r44) o46.1 o46.2 (by decide) dX10_editsTurned_92 ?_
                    obtain ⟨J101, B50, h⟩ := h
                    have L49 : ∀ (x48 : Int) (H : Heap) (locs : List Loc) (ls : Array Slot), J101 x48 → zR D dA vwCl wC nC b M30 H → va_S (zA nC b) s.heap H locs → lv_has ls 9 [(0, .ref (b + 96)), (1, .ref (b + a0)), (2, .ref (b + a1)), (3, .int (iI a2)), (4, .int (iI x15)), (5, .int (iI x28)), (6, .int (iI x29))] → W p l e (headSpec (.code yX10_editsTurned cX10_editsTurned 9 (some .int) :: zt) (z_rm 1)).room s m args below meth c H locs 0 0 (MQ below (va_Qi (wQi Q) (zB D dA vwCl wC nC b) (zA nC b)) args s 0 0 (zA nC b)) (F0 m 101 ls [.int (iI x48)]) := by
                      intro x48 H locs ls h hS hS0 hl
                      have h := B50 x48 h
                      refine lv_istore (lv' := [(7, .int (iI x48)), (0, .ref (b + 96)), (1, .ref (b + a0)), (2, .ref (b + a1)), (3, .int (iI a2)), (4, .int (iI x15)), (5, .int (iI x28)), (6, .int (iI x29))]) hx hb dX10_editsTurned_101 hl (by decide) rfl (fun ls hl => ?_)
                      refine lv_iload hx hb dX10_editsTurned_103 (lv_at hl 0 rfl) ?_
                      obtain ⟨J117, B54, h⟩ := h
                      have L53 : ∀ (x52 : Int) (H : Heap) (locs : List Loc) (ls : Array Slot), J117 x52 → zR D dA vwCl wC nC b M30 H → va_S (zA nC b) s.heap H locs → lv_has ls 9 [(0, .ref (b + 96)), (1, .ref (b + a0)), (2, .ref (b + a1)), (3, .int (iI a2)), (4, .int (iI x15)), (6, .int (iI x29))] → W p l e (headSpec (.code yX10_editsTurned cX10_editsTurned 9 (some .int) :: zt) (z_rm 1)).room s m args below meth c H locs 0 0 (MQ below (va_Qi (wQi Q) (zB D dA vwCl wC nC b) (zA nC b)) args s 0 0 (zA nC b)) (F0 m 117 ls [.int (iI x52)]) := by
                        intro x52 H locs ls h hS hS0 hl
                        have h := B54 x52 h
                        refine lv_istore (lv' := [(8, .int (iI x52)), (0, .ref (b + 96)), (1, .ref (b + a0)), (2, .ref (b + a1)), (3, .int (iI a2)), (4, .int (iI x15)), (6, .int (iI x29))]) hx hb dX10_editsTurned_117 hl (by decide) rfl (fun ls hl => ?_)
                        refine lv_aload_n hx hb dX10_editsTurned_119 rfl (lv_at hl 1 rfl) ?_
                        refine w_getr (j2 := 100) hx hb hts (z_memU u10) hown hK.1 hS f10_4 (by decide) (zkd_of (rfl : zcd wC 96 = 44) rfl) (zrf_of (rfl : zcd wC 96 = 44) rfl) (Or.inl (hts _ (z_mem k236))) dX10_editsTurned_120 ?_
                        refine lv_iload hx hb dX10_editsTurned_123 (lv_at hl 6 rfl) ?_
                        refine z_iconst hx hb dX10_editsTurned_125 ?_
                        refine z_iadd hx hb dX10_editsTurned_126 ?_
                        obtain ⟨o55, h⟩ := h
                        refine w_iald (n := 25) (i := (sI (x29 + 1))) hx hb hK.1 (t0 := 0) rfl hS (by decide) (zkd_of (rfl : zcd wC 100 = 48) rfl) (zln_of (rfl : zcd wC 100 = 48) rfl) rfl o55.1 o55.2 (by decide) dX10_editsTurned_127 ?_
                        refine lv_istore (lv' := [(5, .int (iI (M30 100 (sI (x29 + 1)).toNat))), (8, .int (iI x52)), (0, .ref (b + 96)), (1, .ref (b + a0)), (2, .ref (b + a1)), (3, .int (iI a2)), (4, .int (iI x15)), (6, .int (iI x29))]) hx hb dX10_editsTurned_128 hl (by decide) rfl (fun ls hl => ?_)
                        refine lv_aload_n hx hb dX10_editsTurned_130 rfl (lv_at hl 2 rfl) ?_
                        refine w_getr (j2 := 100) hx hb hts (z_memU u10) hown hK.1 hS f10_4 (by decide) (zkd_of (rfl : zcd wC 96 = 44) rfl) (zrf_of (rfl : zcd wC 96 = 44) rfl) (Or.inl (hts _ (z_mem k236))) dX10_editsTurned_131 ?_
                        refine lv_iload hx hb dX10_editsTurned_134 (lv_at hl 7 rfl) ?_
                        refine z_iconst hx hb dX10_editsTurned_136 ?_
                        refine z_iadd hx hb dX10_editsTurned_137 ?_
                        refine lv_iload hx hb dX10_editsTurned_138 (lv_at hl 1 rfl) ?_
                        refine z_iconst hx hb dX10_editsTurned_140 ?_
                        refine lv_iload hx hb dX10_editsTurned_141 (lv_at hl 0 rfl) ?_
                        refine lv_aload_n hx hb dX10_editsTurned_143 rfl (lv_at hl 2 rfl) ?_
                        refine w_getr (j2 := 100) hx hb hts (z_memU u10) hown hK.1 hS f10_4 (by decide) (zkd_of (rfl : zcd wC 96 = 44) rfl) (zrf_of (rfl : zcd wC 96 = 44) rfl) (Or.inl (hts _ (z_mem k236))) dX10_editsTurned_144 ?_
                        refine lv_iload hx hb dX10_editsTurned_147 (lv_at hl 7 rfl) ?_
                        obtain ⟨o56, h⟩ := h
                        refine w_iald (n := 25) (i := (sI x29)) hx hb hK.1 (t0 := 0) rfl hS (by decide) (zkd_of (rfl : zcd wC 100 = 48) rfl) (zln_of (rfl : zcd wC 100 = 48) rfl) rfl o56.1 o56.2 (by decide) dX10_editsTurned_149 ?_
                        refine w_mmin hx hb (hml.trans hl.1.symm) hown (hts _ (z_mem k875)) (hts _ (z_mem k320)) (hts _ (z_mem k15)) (hts _ (z_mem k321)) (by exact Nat.le_of_ble_eq_true rfl) (by exact Nat.le_of_ble_eq_true rfl) (by exact Nat.le_refl _) (by exact Nat.le_refl _) rfl rfl dX10_editsTurned_150 ?_
                        refine z_iadd hx hb dX10_editsTurned_153 ?_
                        refine w_mmin hx hb (hml.trans hl.1.symm) hown (hts _ (z_mem k875)) (hts _ (z_mem k320)) (hts _ (z_mem k15)) (hts _ (z_mem k321)) (by exact Nat.le_of_ble_eq_true rfl) (by exact Nat.le_of_ble_eq_true rfl) (by exact Nat.le_refl _) (by exact Nat.le_refl _) rfl rfl dX10_editsTurned_154 ?_
                        obtain ⟨o57, h⟩ := h
                        refine w_iast (z := (min (sI x52) (sI (1 + (min (sI (M30 100 (sI (x29 + 1)).toNat)) (sI (M30 100 (sI x29).toNat))))))) (n := 25) (i := (sI (x29 + 1))) hx hb hK.1 (t0 := 0) rfl hS hS0 (by decide) (zkd_of (rfl : zcd wC 100 = 48) rfl) (zln_of (rfl : zcd wC 100 = 48) rfl) rfl o57.1 o57.2 (by decide) dX10_editsTurned_157 (fun H locs hS hS0 => ?_)
                        obtain ⟨M58, e59⟩ : ∃ M58 : zM, M58 = zup M30 100 (sI (x29 + 1)).toNat (min (sI x52) (sI (1 + (min (sI (M30 100 (sI (x29 + 1)).toNat)) (sI (M30 100 (sI x29).toNat)))))) := ⟨_, rfl⟩
                        rw [← e59] at hS
                        have h := h M58 e59
                        refine z_iinc (lv' := [(6, .int (iI (x29 + 1))), (5, .int (iI (M30 100 (sI (x29 + 1)).toNat))), (8, .int (iI x52)), (0, .ref (b + 96)), (1, .ref (b + a0)), (2, .ref (b + a1)), (3, .int (iI a2)), (4, .int (iI x15))]) hx hb dX10_editsTurned_158 hl (k := 7) rfl (by decide) rfl (fun ls hl => ?_)
                        refine lv_goto (tgt := 60) hx hb dX10_editsTurned_161 (by decide) ?_
                        obtain ⟨n60, h61, h⟩ := h
                        exact i37 n60 h61 (M30 100 (sI (x29 + 1)).toNat) (x29 + 1) M58 _ _ _ h hS hS0 (lv_sub hl [3, 4, 5, 6, 7, 1, 0] rfl)
                      refine w_if_eq (tgt := 113) hx hb rfl dX10_editsTurned_105 (by decide) (fun c62 => ?_) (fun c62 => ?_)
                      · skip
                        have h := h.1 c62
                        refine lv_iload hx hb dX10_editsTurned_113 (lv_at hl 6 rfl) ?_
                        refine z_iconst hx hb dX10_editsTurned_115 ?_
                        refine z_iadd hx hb dX10_editsTurned_116 ?_
                        exact L53 (x28 + 1) _ _ _ h hS hS0 (lv_sub hl [1, 2, 3, 4, 5, 7] rfl)
                      · skip
                        have h := h.2 c62
                        refine lv_iload hx hb dX10_editsTurned_108 (lv_at hl 6 rfl) ?_
                        refine lv_goto (tgt := 117) hx hb dX10_editsTurned_110 (by decide) ?_
                        exact L53 x28 _ _ _ h hS hS0 (lv_sub hl [1, 2, 3, 4, 5, 7] rfl)
                    refine w_icmp_ne (tgt := 100) hx hb rfl rfl dX10_editsTurned_93 (by decide) (fun c63 => ?_) (fun c63 => ?_)
                    · skip
                      have h := h.1 c63
                      refine z_iconst hx hb dX10_editsTurned_100 ?_
                      exact L49 0 _ _ _ h hS hS0 (lv_sub hl [0, 1, 2, 3, 4, 5, 6] rfl)
                    · skip
                      have h := h.2 c63
                      refine z_iconst hx hb dX10_editsTurned_96 ?_
                      refine lv_goto (tgt := 101) hx hb dX10_editsTurned_97 (by decide) ?_
                      exact L49 1 _ _ _ h hS hS0 (lv_sub hl [0, 1, 2, 3, 4, 5, 6] rfl)
              exact L35 n32 (M16 100 0) 0 M26 _ _ _ h33 hS hS0 (lv_sub hl [2, 3, 4, 5, 6, 1, 0] rfl)
        exact L21 n18 0 M6 _ _ _ h19 hS hS0 (lv_sub hl [1, 2, 3, 4, 0] rfl)
      · skip
        have h := h.2 c14
        refine lv_aload_n hx hb dX10_editsTurned_12 rfl (lv_at hl 0 rfl) ?_
        refine w_getr (j2 := 100) hx hb hts (z_memU u10) hown hK.1 hS f10_4 (by decide) (zkd_of (rfl : zcd wC 96 = 44) rfl) (zrf_of (rfl : zcd wC 96 = 44) rfl) (Or.inl (hts _ (z_mem k236))) dX10_editsTurned_13 ?_
        refine lv_iload hx hb dX10_editsTurned_16 (lv_at hl 4 rfl) ?_
        refine lv_iload hx hb dX10_editsTurned_18 (lv_at hl 4 rfl) ?_
        obtain ⟨o64, h⟩ := h
        refine w_iast (z := x5) (n := 25) (i := (sI x5)) hx hb hK.1 (t0 := 0) rfl hS hS0 (by decide) (zkd_of (rfl : zcd wC 100 = 48) rfl) (zln_of (rfl : zcd wC 100 = 48) rfl) rfl o64.1 o64.2 (by decide) dX10_editsTurned_20 (fun H locs hS hS0 => ?_)
        obtain ⟨M65, e66⟩ : ∃ M65 : zM, M65 = zup M6 100 (sI x5).toNat x5 := ⟨_, rfl⟩
        rw [← e66] at hS
        have h := h M65 e66
        refine z_iinc (lv' := [(4, .int (iI (x5 + 1))), (0, .ref (b + 96)), (1, .ref (b + a0)), (2, .ref (b + a1)), (3, .int (iI a2))]) hx hb dX10_editsTurned_21 hl (k := 4) rfl (by decide) rfl (fun ls hl => ?_)
        refine lv_goto (tgt := 3) hx hb dX10_editsTurned_24 (by decide) ?_
        obtain ⟨n67, h68, h⟩ := h
        exact i13 n67 h68 (x5 + 1) M65 _ _ _ h hS hS0 (lv_sub hl [1, 2, 3, 4, 0] rfl)
  exact L11 n8 0 M _ _ _ h9 hS hS0 (lv_sub hl [1, 2, 3, 4, 0] rfl)

set_option maxRecDepth 100000 in
def wC_Versions_fewestEdits (a0 : Nat) (a1 : Nat) (M : zM) (Q : Int → zM → Prop) : Prop := wL2 (fun K15 x5 x6 M7 => ((sI (M7 a1 1)) ≤ (sI x6) → Q (sI x5) M7) ∧ ((sI x6) < (sI (M7 a1 1)) → wC_Versions_editsTurned a0 a1 x6 M7 (fun z17 M16 => K15 (min (sI x5) z17) (x6 + 1) M16))) (max (sI (M a0 1)) (sI (M a1 1))) 0 M
set_option maxHeartbeats 4000000 in
set_option maxRecDepth 100000 in
theorem cC_Versions_fewestEdits (l : Launch) (D : va_G) (dA : Nat → ClassId) (b : Nat) (M : zM) (a0 : Nat) (a1 : Nat) (lt_a0 : a0 < nC) (cd_a0 : zcd wC a0 = 6) (lt_a1 : a1 < nC) (cd_a1 : zcd wC a1 = 6) (Q : Int → zM → Prop) (h : wC_Versions_fewestEdits a0 a1 M Q) : Met l yX10_fewestEdits (.code yX10_fewestEdits cX10_fewestEdits 5 (some .int) :: zt) (z_rm 2) (va_Pc [.ref (b + 96), .ref (b + a0), .ref (b + a1)] (wPre D dA vwCl (z_tys dA) wC nC b M)) (va_Qi (wQi Q) (zB D dA vwCl wC nC b) (zA nC b)) 0 0 (zA nC b) := by
  unfold wC_Versions_fewestEdits at h
  refine Met.ofW (cc := cX10_fewestEdits) (maxL := 5) (ret := (some .int)) (by decide) rfl ?_
  intro p e s m args below meth c s₁ B hml hv
  obtain ⟨hargs, hS, hK⟩ := hv
  have hx := B.exec
  have hb := B.bytes
  have hr := B.returns
  have hts := atoms_spec (ws := .code yX10_fewestEdits cX10_fewestEdits 5 (some .int) :: zt) B.pre
  have hown : s.vm.findClass RX10 = some m.cls := findClass_of_methodNamed B.named
  have hlocks := B.notSynchronized
  have hS0 : va_S (zA nC b) s.heap s.heap [] := va_S.rf
  have hl := lv_entry ([.ref (b + 96), .ref (b + a0), .ref (b + a1)]) (n := 5) (Nat.le_of_ble_eq_true rfl)
  have hent : entryFrame m args 5 = F0 m 0 ((lg_sl ([.ref (b + 96), .ref (b + a0), .ref (b + a1)]) ++ List.replicate (5 - (lg_sl ([.ref (b + 96), .ref (b + a0), .ref (b + a1)])).length) Slot.unset).toArray) [] := by rw [hargs]; exact lg_entry_eq m ([.ref (b + 96), .ref (b + a0), .ref (b + a1)]) 5
  rw [hent]
  generalize (lg_sl ([.ref (b + 96), .ref (b + a0), .ref (b + a1)]) ++ List.replicate (5 - (lg_sl ([.ref (b + 96), .ref (b + a0), .ref (b + a1)])).length) Slot.unset).toArray = ls at hl ⊢
  have hl : lv_has ls 5 [(0, .ref (b + 96)), (1, .ref (b + a0)), (2, .ref (b + a1))] := hl
  obtain ⟨lt1, cd2⟩ := nx_strip a0 lt_a0 cd_a0
  obtain ⟨lt3, cd4⟩ := nx_strip a1 lt_a1 cd_a1
  refine lv_aload_n hx hb dX10_fewestEdits_0 rfl (lv_at hl 1 rfl) ?_
  refine w_geti hx hb hts (z_memU u8) hown hK.1 hS f8_1 lt_a0 (zkd_of cd_a0 rfl) (Or.inl (hts _ (z_mem k47))) dX10_fewestEdits_1 ?_
  refine lv_aload_n hx hb dX10_fewestEdits_4 rfl (lv_at hl 2 rfl) ?_
  refine w_geti hx hb hts (z_memU u8) hown hK.1 hS f8_1 lt_a1 (zkd_of cd_a1 rfl) (Or.inl (hts _ (z_mem k47))) dX10_fewestEdits_5 ?_
  refine w_mmax hx hb (hml.trans hl.1.symm) hown (hts _ (z_mem k871)) (hts _ (z_mem k341)) (hts _ (z_mem k15)) (hts _ (z_mem k342)) (by exact Nat.le_of_ble_eq_true rfl) (by exact Nat.le_of_ble_eq_true rfl) (by exact Nat.le_refl _) (by exact Nat.le_refl _) rfl rfl dX10_fewestEdits_8 ?_
  refine lv_istore_n (lv' := [(3, .int (iI (max (sI (M a0 1)) (sI (M a1 1))))), (0, .ref (b + 96)), (1, .ref (b + a0)), (2, .ref (b + a1))]) hx hb dX10_fewestEdits_11 rfl hl (by decide) rfl (fun ls hl => ?_)
  refine z_iconst hx hb dX10_fewestEdits_12 ?_
  refine lv_istore (lv' := [(4, .int (iI 0)), (3, .int (iI (max (sI (M a0 1)) (sI (M a1 1))))), (0, .ref (b + 96)), (1, .ref (b + a0)), (2, .ref (b + a1))]) hx hb dX10_fewestEdits_13 hl (by decide) rfl (fun ls hl => ?_)
  obtain ⟨I8, ⟨n9, h10⟩, h11⟩ := h
  have L12 : ∀ (n13 : Nat) (x5 x6 : Int) (M7 : zM) (H : Heap) (locs : List Loc) (ls : Array Slot), I8 n13 x5 x6 M7 → zR D dA vwCl wC nC b M7 H → va_S (zA nC b) s.heap H locs → lv_has ls 5 [(0, .ref (b + 96)), (1, .ref (b + a0)), (2, .ref (b + a1)), (3, .int (iI x5)), (4, .int (iI x6))] → W p l e (headSpec (.code yX10_fewestEdits cX10_fewestEdits 5 (some .int) :: zt) (z_rm 2)).room s m args below meth c H locs 0 0 (MQ below (va_Qi (wQi Q) (zB D dA vwCl wC nC b) (zA nC b)) args s 0 0 (zA nC b)) (F0 m 15 ls []) := by
    intro n13
    induction n13 using Nat.strongRecOn with
    | ind n13 i14 =>
      intro x5 x6 M7 H locs ls h hS hS0 hl
      have h := h11 n13 x5 x6 M7 h
      refine lv_iload hx hb dX10_fewestEdits_15 (lv_at hl 4 rfl) ?_
      refine lv_aload_n hx hb dX10_fewestEdits_17 rfl (lv_at hl 2 rfl) ?_
      refine w_geti hx hb hts (z_memU u8) hown hK.1 hS f8_1 lt_a1 (zkd_of cd_a1 rfl) (Or.inl (hts _ (z_mem k47))) dX10_fewestEdits_18 ?_
      refine w_icmp_ge (tgt := 43) hx hb rfl rfl dX10_fewestEdits_21 (by decide) (fun c15 => ?_) (fun c15 => ?_)
      · skip
        have h := h.1 c15
        refine lv_iload_n hx hb dX10_fewestEdits_43 rfl (lv_at hl 3 rfl) ?_
        exact w_iret hx hb hr hlocks hS hS0 rfl h dX10_fewestEdits_44
      · skip
        have h := h.2 c15
        refine lv_iload_n hx hb dX10_fewestEdits_24 rfl (lv_at hl 3 rfl) ?_
        refine lv_aload_n hx hb dX10_fewestEdits_25 rfl (lv_at hl 0 rfl) ?_
        refine lv_aload_n hx hb dX10_fewestEdits_26 rfl (lv_at hl 1 rfl) ?_
        refine lv_aload_n hx hb dX10_fewestEdits_27 rfl (lv_at hl 2 rfl) ?_
        refine lv_iload hx hb dX10_fewestEdits_28 (lv_at hl 4 rfl) ?_
        refine w_calli (va_runV (As := [.ref (b + a0), .ref (b + a1), .int (iI x6)]) (rest := [.int (iI x5)]) ⟨hx, hb, hml, hown, hts⟩ (cC_Versions_editsTurned l D dA b M7 a0 a1 x6 lt_a0 cd_a0 lt_a1 cd_a1 _ h) (cwV 3 hts (z_gV k872 k873 k1389 k13 k874) rfl rfl rfl dm_X10_editsTurned ⟨Nat.le_of_ble_eq_true rfl, Nat.le_of_ble_eq_true rfl⟩) ⟨wPre_blind, (w_recv hS hK.1 (by decide) (zkd_of (rfl : zcd wC 96 = 44) rfl) (by decide) (rfl : vwCl[10]? = some (RX10, TX10, 5))), w_pre hS hK⟩ rfl rfl hl.1 rfl (lv_room (Nat.le_of_ble_eq_true rfl)) dX10_fewestEdits_30 ⟨Nat.le_refl _, Nat.le_refl _⟩) hS0 (fun z17 M16 H locs r18 h hS hS0 => ?_)
        refine w_mmin hx hb (hml.trans hl.1.symm) hown (hts _ (z_mem k875)) (hts _ (z_mem k320)) (hts _ (z_mem k15)) (hts _ (z_mem k321)) (by exact Nat.le_of_ble_eq_true rfl) (by exact Nat.le_of_ble_eq_true rfl) (by exact Nat.le_refl _) (by exact Nat.le_refl _) rfl (sI_of r18) dX10_fewestEdits_33 ?_
        refine lv_istore_n (lv' := [(3, .int (iI (min (sI x5) z17))), (0, .ref (b + 96)), (1, .ref (b + a0)), (2, .ref (b + a1)), (4, .int (iI x6))]) hx hb dX10_fewestEdits_36 rfl hl (by decide) rfl (fun ls hl => ?_)
        refine z_iinc (lv' := [(4, .int (iI (x6 + 1))), (3, .int (iI (min (sI x5) z17))), (0, .ref (b + 96)), (1, .ref (b + a0)), (2, .ref (b + a1))]) hx hb dX10_fewestEdits_37 hl (k := 4) rfl (by decide) rfl (fun ls hl => ?_)
        refine lv_goto (tgt := 15) hx hb dX10_fewestEdits_40 (by decide) ?_
        obtain ⟨n19, h20, h⟩ := h
        exact i14 n19 h20 (min (sI x5) z17) (x6 + 1) M16 _ _ _ h hS hS0 (lv_sub hl [2, 3, 4, 1, 0] rfl)
  exact L12 n9 (max (sI (M a0 1)) (sI (M a1 1))) 0 M _ _ _ h10 hS hS0 (lv_sub hl [2, 3, 4, 1, 0] rfl)

set_option maxRecDepth 100000 in
def wC_edits (a0 : Int) (a1 : Int) (M : zM) (Q : Int → zM → Prop) : Prop := wC_Versions_find a0 M (fun z2 => (z2 = none → wC_Versions_find a1 M (fun z8 => (z8 = none → Q (-1) M) ∧ (∀ q10, z8 = some q10 → (q10 < nC ∧ zcd wC q10 = 6) ∧ (Q (-1) M)))) ∧ (∀ q4, z2 = some q4 → (q4 < nC ∧ zcd wC q4 = 6) ∧ (wC_Versions_find a1 M (fun z18 => (z18 = none → Q (-1) M) ∧ (∀ q20, z18 = some q20 → (q20 < nC ∧ zcd wC q20 = 6) ∧ (wC_Versions_fewestEdits q4 q20 M (fun z26 M25 => Q z26 M25)))))))
set_option maxHeartbeats 4000000 in
set_option maxRecDepth 100000 in
theorem cC_edits (l : Launch) (D : va_G) (dA : Nat → ClassId) (b : Nat) (M : zM) (a0 : Int) (a1 : Int)  (Q : Int → zM → Prop) (h : wC_edits a0 a1 M Q) : Met l yX11_edits (.code yX11_edits cX11_edits 5 (some .int) :: zt) (z_rm 3) (va_Pc [.ref (b + 0), .int (iI a0), .int (iI a1)] (wPre D dA vwCl (z_tys dA) wC nC b M)) (va_Qi (wQi Q) (zB D dA vwCl wC nC b) (zA nC b)) 0 0 (zA nC b) := by
  unfold wC_edits at h
  refine Met.ofW (cc := cX11_edits) (maxL := 5) (ret := (some .int)) (by decide) rfl ?_
  intro p e s m args below meth c s₁ B hml hv
  obtain ⟨hargs, hS, hK⟩ := hv
  have hx := B.exec
  have hb := B.bytes
  have hr := B.returns
  have hts := atoms_spec (ws := .code yX11_edits cX11_edits 5 (some .int) :: zt) B.pre
  have hown : s.vm.findClass RX11 = some m.cls := findClass_of_methodNamed B.named
  have hlocks := B.notSynchronized
  have hS0 : va_S (zA nC b) s.heap s.heap [] := va_S.rf
  have hl := lv_entry ([.ref (b + 0), .int (iI a0), .int (iI a1)]) (n := 5) (Nat.le_of_ble_eq_true rfl)
  have hent : entryFrame m args 5 = F0 m 0 ((lg_sl ([.ref (b + 0), .int (iI a0), .int (iI a1)]) ++ List.replicate (5 - (lg_sl ([.ref (b + 0), .int (iI a0), .int (iI a1)])).length) Slot.unset).toArray) [] := by rw [hargs]; exact lg_entry_eq m ([.ref (b + 0), .int (iI a0), .int (iI a1)]) 5
  rw [hent]
  generalize (lg_sl ([.ref (b + 0), .int (iI a0), .int (iI a1)]) ++ List.replicate (5 - (lg_sl ([.ref (b + 0), .int (iI a0), .int (iI a1)])).length) Slot.unset).toArray = ls at hl ⊢
  have hl : lv_has ls 5 [(0, .ref (b + 0)), (1, .int (iI a0)), (2, .int (iI a1))] := hl
  refine lv_aload_n hx hb dX11_edits_0 rfl (lv_at hl 0 rfl) ?_
  refine w_getr (j2 := 96) hx hb hts (z_memU u11) hown hK.1 hS f11_8 (by decide) (zkd_of (rfl : zcd wC 0 = 0) rfl) (zrf_of (rfl : zcd wC 0 = 0) rfl) (Or.inl (hts _ (z_mem k250))) dX11_edits_1 ?_
  refine lv_iload_n hx hb dX11_edits_4 rfl (lv_at hl 1 rfl) ?_
  refine w_callq (va_runV (As := [.int (iI a0)]) (rest := []) ⟨hx, hb, hml, hown, hts⟩ (cC_Versions_find l D dA b M a0 _ h) (cwV 1 hts (z_gV k858 k859 k860 k13 k861) rfl rfl rfl dm_X10_find ⟨Nat.le_of_ble_eq_true rfl, Nat.le_of_ble_eq_true rfl⟩) ⟨wPre_blind, (w_recv hS hK.1 (by decide) (zkd_of (rfl : zcd wC 96 = 44) rfl) (by decide) (rfl : vwCl[10]? = some (RX10, TX10, 5))), w_pre hS hK⟩ rfl rfl hl.1 rfl (lv_room (Nat.le_of_ble_eq_true rfl)) dX11_edits_5 ⟨Nat.le_refl _, Nat.le_refl _⟩) hS0 (fun z2 M1 H locs h hS hS0 => ?_)
  obtain ⟨e3, h⟩ := h
  rw [e3] at hS
  rcases z2 with _ | q4
  · skip
    have h := h.1 rfl
    refine lv_astore_nN (lv' := [(3, .null), (0, .ref (b + 0)), (1, .int (iI a0)), (2, .int (iI a1))]) hx hb dX11_edits_8 rfl hl (by decide) rfl (fun ls hl => ?_)
    refine lv_aload_n hx hb dX11_edits_9 rfl (lv_at hl 1 rfl) ?_
    refine w_getr (j2 := 96) hx hb hts (z_memU u11) hown hK.1 hS f11_8 (by decide) (zkd_of (rfl : zcd wC 0 = 0) rfl) (zrf_of (rfl : zcd wC 0 = 0) rfl) (Or.inl (hts _ (z_mem k250))) dX11_edits_10 ?_
    refine lv_iload_n hx hb dX11_edits_13 rfl (lv_at hl 3 rfl) ?_
    refine w_callq (va_runV (As := [.int (iI a1)]) (rest := []) ⟨hx, hb, hml, hown, hts⟩ (cC_Versions_find l D dA b M a1 _ h) (cwV 1 hts (z_gV k858 k859 k860 k13 k861) rfl rfl rfl dm_X10_find ⟨Nat.le_of_ble_eq_true rfl, Nat.le_of_ble_eq_true rfl⟩) ⟨wPre_blind, (w_recv hS hK.1 (by decide) (zkd_of (rfl : zcd wC 96 = 44) rfl) (by decide) (rfl : vwCl[10]? = some (RX10, TX10, 5))), w_pre hS hK⟩ rfl rfl hl.1 rfl (lv_room (Nat.le_of_ble_eq_true rfl)) dX11_edits_14 ⟨Nat.le_refl _, Nat.le_refl _⟩) hS0 (fun z8 M7 H locs h hS hS0 => ?_)
    obtain ⟨e9, h⟩ := h
    rw [e9] at hS
    rcases z8 with _ | q10
    · skip
      have h := h.1 rfl
      refine lv_astoreN (lv' := [(4, .null), (3, .null), (0, .ref (b + 0)), (1, .int (iI a0)), (2, .int (iI a1))]) hx hb dX11_edits_17 hl (by decide) rfl (fun ls hl => ?_)
      refine lv_aload_nN hx hb dX11_edits_19 rfl (lv_at hl 1 rfl) ?_
      refine lv_ifnullN (tgt := 28) hx hb dX11_edits_20 (by decide) ?_
      refine z_iconst hx hb dX11_edits_28 ?_
      refine lv_goto (tgt := 42) hx hb dX11_edits_29 (by decide) ?_
      exact w_iret hx hb hr hlocks hS hS0 (sI_of (by decide)) h dX11_edits_42
    · skip
      obtain ⟨⟨lt11, cd12⟩, h⟩ := h.2 q10 rfl
      obtain ⟨lt13, cd14⟩ := nx_strip q10 lt11 cd12
      refine lv_astore (lv' := [(4, .ref (b + q10)), (3, .null), (0, .ref (b + 0)), (1, .int (iI a0)), (2, .int (iI a1))]) hx hb dX11_edits_17 hl (by decide) rfl (fun ls hl => ?_)
      refine lv_aload_nN hx hb dX11_edits_19 rfl (lv_at hl 1 rfl) ?_
      refine lv_ifnullN (tgt := 28) hx hb dX11_edits_20 (by decide) ?_
      refine z_iconst hx hb dX11_edits_28 ?_
      refine lv_goto (tgt := 42) hx hb dX11_edits_29 (by decide) ?_
      exact w_iret hx hb hr hlocks hS hS0 (sI_of (by decide)) h dX11_edits_42
  · skip
    obtain ⟨⟨lt5, cd6⟩, h⟩ := h.2 q4 rfl
    obtain ⟨lt15, cd16⟩ := nx_strip q4 lt5 cd6
    refine lv_astore_n (lv' := [(3, .ref (b + q4)), (0, .ref (b + 0)), (1, .int (iI a0)), (2, .int (iI a1))]) hx hb dX11_edits_8 rfl hl (by decide) rfl (fun ls hl => ?_)
    refine lv_aload_n hx hb dX11_edits_9 rfl (lv_at hl 1 rfl) ?_
    refine w_getr (j2 := 96) hx hb hts (z_memU u11) hown hK.1 hS f11_8 (by decide) (zkd_of (rfl : zcd wC 0 = 0) rfl) (zrf_of (rfl : zcd wC 0 = 0) rfl) (Or.inl (hts _ (z_mem k250))) dX11_edits_10 ?_
    refine lv_iload_n hx hb dX11_edits_13 rfl (lv_at hl 3 rfl) ?_
    refine w_callq (va_runV (As := [.int (iI a1)]) (rest := []) ⟨hx, hb, hml, hown, hts⟩ (cC_Versions_find l D dA b M a1 _ h) (cwV 1 hts (z_gV k858 k859 k860 k13 k861) rfl rfl rfl dm_X10_find ⟨Nat.le_of_ble_eq_true rfl, Nat.le_of_ble_eq_true rfl⟩) ⟨wPre_blind, (w_recv hS hK.1 (by decide) (zkd_of (rfl : zcd wC 96 = 44) rfl) (by decide) (rfl : vwCl[10]? = some (RX10, TX10, 5))), w_pre hS hK⟩ rfl rfl hl.1 rfl (lv_room (Nat.le_of_ble_eq_true rfl)) dX11_edits_14 ⟨Nat.le_refl _, Nat.le_refl _⟩) hS0 (fun z18 M17 H locs h hS hS0 => ?_)
    obtain ⟨e19, h⟩ := h
    rw [e19] at hS
    rcases z18 with _ | q20
    · skip
      have h := h.1 rfl
      refine lv_astoreN (lv' := [(4, .null), (3, .ref (b + q4)), (0, .ref (b + 0)), (1, .int (iI a0)), (2, .int (iI a1))]) hx hb dX11_edits_17 hl (by decide) rfl (fun ls hl => ?_)
      refine lv_aload_n hx hb dX11_edits_19 rfl (lv_at hl 1 rfl) ?_
      refine lv_ifnull hx hb dX11_edits_20 ?_
      refine lv_aloadN hx hb dX11_edits_23 (lv_at hl 0 rfl) ?_
      refine lv_ifnonnullN hx hb dX11_edits_25 ?_
      refine z_iconst hx hb dX11_edits_28 ?_
      refine lv_goto (tgt := 42) hx hb dX11_edits_29 (by decide) ?_
      exact w_iret hx hb hr hlocks hS hS0 (sI_of (by decide)) h dX11_edits_42
    · skip
      obtain ⟨⟨lt21, cd22⟩, h⟩ := h.2 q20 rfl
      obtain ⟨lt23, cd24⟩ := nx_strip q20 lt21 cd22
      refine lv_astore (lv' := [(4, .ref (b + q20)), (3, .ref (b + q4)), (0, .ref (b + 0)), (1, .int (iI a0)), (2, .int (iI a1))]) hx hb dX11_edits_17 hl (by decide) rfl (fun ls hl => ?_)
      refine lv_aload_n hx hb dX11_edits_19 rfl (lv_at hl 1 rfl) ?_
      refine lv_ifnull hx hb dX11_edits_20 ?_
      refine lv_aload hx hb dX11_edits_23 (lv_at hl 0 rfl) ?_
      refine lv_ifnonnull (tgt := 32) hx hb dX11_edits_25 (by decide) ?_
      refine lv_aload_n hx hb dX11_edits_32 rfl (lv_at hl 2 rfl) ?_
      refine w_getr (j2 := 96) hx hb hts (z_memU u11) hown hK.1 hS f11_8 (by decide) (zkd_of (rfl : zcd wC 0 = 0) rfl) (zrf_of (rfl : zcd wC 0 = 0) rfl) (Or.inl (hts _ (z_mem k250))) dX11_edits_33 ?_
      refine lv_aload_n hx hb dX11_edits_36 rfl (lv_at hl 1 rfl) ?_
      refine lv_aload hx hb dX11_edits_37 (lv_at hl 0 rfl) ?_
      refine w_calli (va_runV (As := [.ref (b + q4), .ref (b + q20)]) (rest := []) ⟨hx, hb, hml, hown, hts⟩ (cC_Versions_fewestEdits l D dA b M q4 q20 lt5 cd6 lt21 cd22 _ h) (cwV 2 hts (z_gV k867 k868 k869 k13 k870) rfl rfl rfl dm_X10_fewestEdits ⟨Nat.le_of_ble_eq_true rfl, Nat.le_of_ble_eq_true rfl⟩) ⟨wPre_blind, (w_recv hS hK.1 (by decide) (zkd_of (rfl : zcd wC 96 = 44) rfl) (by decide) (rfl : vwCl[10]? = some (RX10, TX10, 5))), w_pre hS hK⟩ rfl rfl hl.1 rfl (lv_room (Nat.le_of_ble_eq_true rfl)) dX11_edits_39 ⟨Nat.le_refl _, Nat.le_refl _⟩) hS0 (fun z26 M25 H locs r27 h hS hS0 => ?_)
      exact w_iret hx hb hr hlocks hS hS0 (sI_of r27) h dX11_edits_42

set_option maxRecDepth 100000 in
def wC_row (a0 : Int) (M : zM) (Q : Int → Prop) (X : Prop) : Prop := ((sI a0) < 0 → X) ∧ (0 ≤ (sI a0) → ((sI (M 0 10)) ≤ (sI a0) → X) ∧ ((sI a0) < (sI (M 0 10)) → ((sI a0) < 40 → ((0 ≤ (sI a0) ∧ (sI a0) < 40) ∧ Q (sI (M 133 (sI a0).toNat)))) ∧ (40 ≤ (sI a0) → X)))
set_option maxHeartbeats 4000000 in
set_option maxRecDepth 100000 in
theorem cC_row (l : Launch) (hst : l.stackTraces = false) (D : va_G) (dA : Nat → ClassId) (b : Nat) (M : zM) (a0 : Int)  (Q : Int → Prop) (X : Prop) (h : wC_row a0 M Q X) : vx_Met l yX11_row (.code yX11_row cX11_row 2 (some .int) :: zt) (z_rmT 0) (va_Pc [.ref (b + 0), .int (iI a0)] (wPreT D dA vwCl (z_tys dA) wC nC b M)) (va_Qi (wQi (fun z9 u9 => u9 = M ∧ Q z9)) (zB D dA vwCl wC nC b) (zA nC b)) (zXC D dA vwCl wC nC b M X) 1 6 (zA nC b) := by
  unfold wC_row at h
  refine vx_ofW (cc := cX11_row) (maxL := 2) (ret := (some .int)) (by decide) rfl ?_
  intro p e s m args below meth c s₁ B hml hex hv
  obtain ⟨hargs, ⟨hS, hK⟩, hZ⟩ := hv
  have hx := B.exec
  have hb := B.bytes
  have hr := B.returns
  have hts := atoms_spec (ws := .code yX11_row cX11_row 2 (some .int) :: zt) B.pre
  have hown : s.vm.findClass RX11 = some m.cls := findClass_of_methodNamed B.named
  have hlocks := B.notSynchronized
  have hS0 : va_S (zA nC b) s.heap s.heap [] := va_S.rf
  have hl := lv_entry ([.ref (b + 0), .int (iI a0)]) (n := 2) (Nat.le_of_ble_eq_true rfl)
  have hent : entryFrame m args 2 = F0 m 0 ((lg_sl ([.ref (b + 0), .int (iI a0)]) ++ List.replicate (2 - (lg_sl ([.ref (b + 0), .int (iI a0)])).length) Slot.unset).toArray) [] := by rw [hargs]; exact lg_entry_eq m ([.ref (b + 0), .int (iI a0)]) 2
  rw [hent]
  generalize (lg_sl ([.ref (b + 0), .int (iI a0)]) ++ List.replicate (2 - (lg_sl ([.ref (b + 0), .int (iI a0)])).length) Slot.unset).toArray = ls at hl ⊢
  have hl : lv_has ls 2 [(0, .ref (b + 0)), (1, .int (iI a0))] := hl
  refine lv_iload_n hx hb dX11_row_0 rfl (lv_at hl 1 rfl) ?_
  refine w_if_lt (tgt := 21) hx hb rfl dX11_row_1 (by decide) (fun c1 => ?_) (fun c1 => ?_)
  · skip
    have h := h.1 c1
    exact vx_throw0 (own := "TapeRings") (cls := "java/util/NoSuchElementException") (names := ["java/lang/RuntimeException", "java/lang/Exception"]) (ik := 156) (ic := 158) hx hb hst hown (by decide +kernel) (by decide +kernel) (hts _ (z_mem k883)) (hts _ (z_mem k21)) (tw_hat (fun w hw => hts w (z_mem hw)) hZ.1) tw_good hZ.2.1 hZ.2.2 hS0 (hl.1.trans hml.symm) dX11_row_21 dX11_row_24 dX11_row_25 dX11_row_28 (fun x hx9 => (hex x hx9).elim) (Nat.le_of_ble_eq_true rfl) (Nat.le_of_ble_eq_true rfl) (Nat.le_of_ble_eq_true rfl) (Nat.le_of_ble_eq_true rfl) hlocks (fun t _ h1 h2 => wX_of hS hS0 h1 h2 h) hS0.2.2 (Nat.le_of_ble_eq_true rfl) (Nat.le_of_ble_eq_true rfl)
  · skip
    have h := h.2 c1
    refine lv_iload_n hx hb dX11_row_4 rfl (lv_at hl 1 rfl) ?_
    refine lv_aload_n hx hb dX11_row_5 rfl (lv_at hl 0 rfl) ?_
    refine w_geti hx hb hts (z_memU u11) hown hK.1 hS f11_10 (by decide) (zkd_of (rfl : zcd wC 0 = 0) rfl) (Or.inl (hts _ (z_mem k252))) dX11_row_6 ?_
    refine w_icmp_ge (tgt := 21) hx hb rfl rfl dX11_row_9 (by decide) (fun c2 => ?_) (fun c2 => ?_)
    · skip
      have h := h.1 c2
      exact vx_throw0 (own := "TapeRings") (cls := "java/util/NoSuchElementException") (names := ["java/lang/RuntimeException", "java/lang/Exception"]) (ik := 156) (ic := 158) hx hb hst hown (by decide +kernel) (by decide +kernel) (hts _ (z_mem k883)) (hts _ (z_mem k21)) (tw_hat (fun w hw => hts w (z_mem hw)) hZ.1) tw_good hZ.2.1 hZ.2.2 hS0 (hl.1.trans hml.symm) dX11_row_21 dX11_row_24 dX11_row_25 dX11_row_28 (fun x hx9 => (hex x hx9).elim) (Nat.le_of_ble_eq_true rfl) (Nat.le_of_ble_eq_true rfl) (Nat.le_of_ble_eq_true rfl) (Nat.le_of_ble_eq_true rfl) hlocks (fun t _ h1 h2 => wX_of hS hS0 h1 h2 h) hS0.2.2 (Nat.le_of_ble_eq_true rfl) (Nat.le_of_ble_eq_true rfl)
    · skip
      have h := h.2 c2
      refine lv_iload_n hx hb dX11_row_12 rfl (lv_at hl 1 rfl) ?_
      refine lv_aload_n hx hb dX11_row_13 rfl (lv_at hl 0 rfl) ?_
      refine w_getr (j2 := 133) hx hb hts (z_memU u11) hown hK.1 hS f11_9 (by decide) (zkd_of (rfl : zcd wC 0 = 0) rfl) (zrf_of (rfl : zcd wC 0 = 0) rfl) (Or.inl (hts _ (z_mem k251))) dX11_row_14 ?_
      refine w_alen (n := 40) hx hb hK.1 (t0 := 0) rfl hS (by decide) (zkd_of (rfl : zcd wC 133 = 49) rfl) (zln_of (rfl : zcd wC 133 = 49) rfl) dX11_row_17 ?_
      refine z_top (show (((40 : Nat) : Int)) = 40 from by decide) ?_
      refine w_icmp_lt (tgt := 29) hx hb rfl (sI_of (by decide)) dX11_row_18 (by decide) (fun c3 => ?_) (fun c3 => ?_)
      · skip
        have h := h.1 c3
        refine lv_aload_n hx hb dX11_row_29 rfl (lv_at hl 0 rfl) ?_
        refine w_getr (j2 := 133) hx hb hts (z_memU u11) hown hK.1 hS f11_9 (by decide) (zkd_of (rfl : zcd wC 0 = 0) rfl) (zrf_of (rfl : zcd wC 0 = 0) rfl) (Or.inl (hts _ (z_mem k251))) dX11_row_30 ?_
        refine lv_iload_n hx hb dX11_row_33 rfl (lv_at hl 1 rfl) ?_
        obtain ⟨o4, h⟩ := h
        refine w_iald (n := 40) (i := (sI a0)) hx hb hK.1 (t0 := 0) rfl hS (by decide) (zkd_of (rfl : zcd wC 133 = 49) rfl) (zln_of (rfl : zcd wC 133 = 49) rfl) rfl o4.1 o4.2 (by decide) dX11_row_34 ?_
        refine vx_ret (W.widen (k := 1) (n := 6) (Nat.zero_le _) (Nat.zero_le _) ?_)
        exact w_iret hx hb hr hlocks hS hS0 rfl ⟨rfl, h⟩ dX11_row_35
      · skip
        have h := h.2 c3
        exact vx_throw0 (own := "TapeRings") (cls := "java/util/NoSuchElementException") (names := ["java/lang/RuntimeException", "java/lang/Exception"]) (ik := 156) (ic := 158) hx hb hst hown (by decide +kernel) (by decide +kernel) (hts _ (z_mem k883)) (hts _ (z_mem k21)) (tw_hat (fun w hw => hts w (z_mem hw)) hZ.1) tw_good hZ.2.1 hZ.2.2 hS0 (hl.1.trans hml.symm) dX11_row_21 dX11_row_24 dX11_row_25 dX11_row_28 (fun x hx9 => (hex x hx9).elim) (Nat.le_of_ble_eq_true rfl) (Nat.le_of_ble_eq_true rfl) (Nat.le_of_ble_eq_true rfl) (Nat.le_of_ble_eq_true rfl) hlocks (fun t _ h1 h2 => wX_of hS hS0 h1 h2 h) hS0.2.2 (Nat.le_of_ble_eq_true rfl) (Nat.le_of_ble_eq_true rfl)

set_option maxRecDepth 100000 in
def wR_in (a0 : Int) (a1 : Int) (a2 : Int) (M : zM) (Q : Int → Prop) : Prop := ((sI a0) < (sI a1) → Q 0) ∧ ((sI a1) ≤ (sI a0) → ((sI a2) < (sI a0) → Q 0) ∧ ((sI a0) ≤ (sI a2) → Q 1))
set_option maxHeartbeats 4000000 in
set_option maxRecDepth 100000 in
theorem cR_in (l : Launch) (D : va_G) (dA : Nat → ClassId) (b : Nat) (M : zM) (a0 : Int) (a1 : Int) (a2 : Int)  (Q : Int → Prop) (h : wR_in a0 a1 a2 M Q) : Met l yX12_in (.code yX12_in cX12_in 3 (some .boolean) :: zt) (z_rm 0) (va_Pc [.int (iI a0), .int (iI a1), .int (iI a2)] (wPre D dA vwCl (z_tys dA) wR nR b M)) (va_Qi (wQz (fun z9 u9 => u9 = M ∧ Q z9)) (zB D dA vwCl wR nR b) (zA nR b)) 0 0 (zA nR b) := by
  unfold wR_in at h
  refine Met.ofW (cc := cX12_in) (maxL := 3) (ret := (some .boolean)) (by decide) rfl ?_
  intro p e s m args below meth c s₁ B hml hv
  obtain ⟨hargs, hS, hK⟩ := hv
  have hx := B.exec
  have hb := B.bytes
  have hr := B.returns
  have hts := atoms_spec (ws := .code yX12_in cX12_in 3 (some .boolean) :: zt) B.pre
  have hown : s.vm.findClass RX12 = some m.cls := findClass_of_methodNamed B.named
  have hlocks := B.notSynchronized
  have hS0 : va_S (zA nR b) s.heap s.heap [] := va_S.rf
  have hl := lv_entry ([.int (iI a0), .int (iI a1), .int (iI a2)]) (n := 3) (Nat.le_of_ble_eq_true rfl)
  have hent : entryFrame m args 3 = F0 m 0 ((lg_sl ([.int (iI a0), .int (iI a1), .int (iI a2)]) ++ List.replicate (3 - (lg_sl ([.int (iI a0), .int (iI a1), .int (iI a2)])).length) Slot.unset).toArray) [] := by rw [hargs]; exact lg_entry_eq m ([.int (iI a0), .int (iI a1), .int (iI a2)]) 3
  rw [hent]
  generalize (lg_sl ([.int (iI a0), .int (iI a1), .int (iI a2)]) ++ List.replicate (3 - (lg_sl ([.int (iI a0), .int (iI a1), .int (iI a2)])).length) Slot.unset).toArray = ls at hl ⊢
  have hl : lv_has ls 3 [(0, .int (iI a0)), (1, .int (iI a1)), (2, .int (iI a2))] := hl
  refine lv_iload_n hx hb dX12_in_0 rfl (lv_at hl 0 rfl) ?_
  refine lv_iload_n hx hb dX12_in_1 rfl (lv_at hl 1 rfl) ?_
  refine w_icmp_lt (tgt := 14) hx hb rfl rfl dX12_in_2 (by decide) (fun c1 => ?_) (fun c1 => ?_)
  · skip
    have h := h.1 c1
    refine z_iconst hx hb dX12_in_14 ?_
    exact w_zret hx hb hr hlocks hS hS0 (sI_of (by decide)) (by decide) ⟨rfl, h⟩ dX12_in_15
  · skip
    have h := h.2 c1
    refine lv_iload_n hx hb dX12_in_5 rfl (lv_at hl 0 rfl) ?_
    refine lv_iload_n hx hb dX12_in_6 rfl (lv_at hl 2 rfl) ?_
    refine w_icmp_gt (tgt := 14) hx hb rfl rfl dX12_in_7 (by decide) (fun c2 => ?_) (fun c2 => ?_)
    · skip
      have h := h.1 c2
      refine z_iconst hx hb dX12_in_14 ?_
      exact w_zret hx hb hr hlocks hS hS0 (sI_of (by decide)) (by decide) ⟨rfl, h⟩ dX12_in_15
    · skip
      have h := h.2 c2
      refine z_iconst hx hb dX12_in_10 ?_
      refine lv_goto (tgt := 15) hx hb dX12_in_11 (by decide) ?_
      exact w_zret hx hb hr hlocks hS hS0 (sI_of (by decide)) (by decide) ⟨rfl, h⟩ dX12_in_15

set_option maxRecDepth 100000 in
def wR_areSounds (a0 : Int) (M : zM) (Q : Int → Prop) : Prop := ((andI a0 (-1023)) ≠ 0 → Q 0) ∧ ((andI a0 (-1023)) = 0 → Q 1)
set_option maxHeartbeats 4000000 in
set_option maxRecDepth 100000 in
theorem cR_areSounds (l : Launch) (D : va_G) (dA : Nat → ClassId) (b : Nat) (M : zM) (a0 : Int)  (Q : Int → Prop) (h : wR_areSounds a0 M Q) : Met l yX12_areSounds (.code yX12_areSounds cX12_areSounds 1 (some .boolean) :: zt) (z_rm 0) (va_Pc [.int (iI a0)] (wPre D dA vwCl (z_tys dA) wR nR b M)) (va_Qi (wQz (fun z9 u9 => u9 = M ∧ Q z9)) (zB D dA vwCl wR nR b) (zA nR b)) 0 0 (zA nR b) := by
  unfold wR_areSounds at h
  refine Met.ofW (cc := cX12_areSounds) (maxL := 1) (ret := (some .boolean)) (by decide) rfl ?_
  intro p e s m args below meth c s₁ B hml hv
  obtain ⟨hargs, hS, hK⟩ := hv
  have hx := B.exec
  have hb := B.bytes
  have hr := B.returns
  have hts := atoms_spec (ws := .code yX12_areSounds cX12_areSounds 1 (some .boolean) :: zt) B.pre
  have hown : s.vm.findClass RX12 = some m.cls := findClass_of_methodNamed B.named
  have hlocks := B.notSynchronized
  have hS0 : va_S (zA nR b) s.heap s.heap [] := va_S.rf
  have hl := lv_entry ([.int (iI a0)]) (n := 1) (Nat.le_of_ble_eq_true rfl)
  have hent : entryFrame m args 1 = F0 m 0 ((lg_sl ([.int (iI a0)]) ++ List.replicate (1 - (lg_sl ([.int (iI a0)])).length) Slot.unset).toArray) [] := by rw [hargs]; exact lg_entry_eq m ([.int (iI a0)]) 1
  rw [hent]
  generalize (lg_sl ([.int (iI a0)]) ++ List.replicate (1 - (lg_sl ([.int (iI a0)])).length) Slot.unset).toArray = ls at hl ⊢
  have hl : lv_has ls 1 [(0, .int (iI a0))] := hl
  refine lv_iload_n hx hb dX12_areSounds_0 rfl (lv_at hl 0 rfl) ?_
  refine z_sipush hx hb (by decide) dX12_areSounds_1 ?_
  refine w_iand hx hb dX12_areSounds_4 ?_
  refine w_if_ne (tgt := 12) hx hb (sI_of (andI_R _ _)) dX12_areSounds_5 (by decide) (fun c1 => ?_) (fun c1 => ?_)
  · skip
    have h := h.1 c1
    refine z_iconst hx hb dX12_areSounds_12 ?_
    exact w_zret hx hb hr hlocks hS hS0 (sI_of (by decide)) (by decide) ⟨rfl, h⟩ dX12_areSounds_13
  · skip
    have h := h.2 c1
    refine z_iconst hx hb dX12_areSounds_8 ?_
    refine lv_goto (tgt := 13) hx hb dX12_areSounds_9 (by decide) ?_
    exact w_zret hx hb hr hlocks hS hS0 (sI_of (by decide)) (by decide) ⟨rfl, h⟩ dX12_areSounds_13

set_option maxRecDepth 100000 in
def wR_isRing (a0 : Int) (M : zM) (Q : Int → Prop) : Prop := wR_in a0 0 ((M 0 10) - 1) M (fun z2 => Q z2)
set_option maxHeartbeats 4000000 in
set_option maxRecDepth 100000 in
theorem cR_isRing (l : Launch) (D : va_G) (dA : Nat → ClassId) (b : Nat) (M : zM) (a0 : Int)  (Q : Int → Prop) (h : wR_isRing a0 M Q) : Met l yX12_isRing (.code yX12_isRing cX12_isRing 2 (some .boolean) :: zt) (z_rm 1) (va_Pc [.ref (b + 0), .int (iI a0)] (wPre D dA vwCl (z_tys dA) wR nR b M)) (va_Qi (wQz (fun z9 u9 => u9 = M ∧ Q z9)) (zB D dA vwCl wR nR b) (zA nR b)) 0 0 (zA nR b) := by
  unfold wR_isRing at h
  refine Met.ofW (cc := cX12_isRing) (maxL := 2) (ret := (some .boolean)) (by decide) rfl ?_
  intro p e s m args below meth c s₁ B hml hv
  obtain ⟨hargs, hS, hK⟩ := hv
  have hx := B.exec
  have hb := B.bytes
  have hr := B.returns
  have hts := atoms_spec (ws := .code yX12_isRing cX12_isRing 2 (some .boolean) :: zt) B.pre
  have hown : s.vm.findClass RX12 = some m.cls := findClass_of_methodNamed B.named
  have hlocks := B.notSynchronized
  have hS0 : va_S (zA nR b) s.heap s.heap [] := va_S.rf
  have hl := lv_entry ([.ref (b + 0), .int (iI a0)]) (n := 2) (Nat.le_of_ble_eq_true rfl)
  have hent : entryFrame m args 2 = F0 m 0 ((lg_sl ([.ref (b + 0), .int (iI a0)]) ++ List.replicate (2 - (lg_sl ([.ref (b + 0), .int (iI a0)])).length) Slot.unset).toArray) [] := by rw [hargs]; exact lg_entry_eq m ([.ref (b + 0), .int (iI a0)]) 2
  rw [hent]
  generalize (lg_sl ([.ref (b + 0), .int (iI a0)]) ++ List.replicate (2 - (lg_sl ([.ref (b + 0), .int (iI a0)])).length) Slot.unset).toArray = ls at hl ⊢
  have hl : lv_has ls 2 [(0, .ref (b + 0)), (1, .int (iI a0))] := hl
  refine lv_iload_n hx hb dX12_isRing_0 rfl (lv_at hl 1 rfl) ?_
  refine z_iconst hx hb dX12_isRing_1 ?_
  refine lv_aload_n hx hb dX12_isRing_2 rfl (lv_at hl 0 rfl) ?_
  refine w_geti hx hb hts (z_memU u12) hown hK.1 hS f12_10 (by decide) (zkd_of (rfl : zcd wR 0 = 50) rfl) (Or.inl (hts _ (z_mem k954))) dX12_isRing_3 ?_
  refine z_iconst hx hb dX12_isRing_6 ?_
  refine z_isub hx hb dX12_isRing_7 ?_
  refine w_callz (va_runS (As := [.int (iI a0), .int (iI 0), .int (iI ((M 0 10) - 1))]) (rest := []) ⟨hx, hb, hml, hown, hts⟩ (cR_in l D dA b M a0 0 ((M 0 10) - 1) _ h) (va_cwS 3 hts (z_gS k1083 k1084 k14 k1085) rfl rfl rfl dm_X12_in.2 ⟨Nat.le_of_ble_eq_true rfl, Nat.le_of_ble_eq_true rfl⟩) ⟨wPre_blind, w_pre hS hK⟩ rfl rfl hl.1 rfl (lv_room (Nat.le_of_ble_eq_true rfl)) dX12_isRing_8 ⟨Nat.le_refl _, Nat.le_refl _⟩) hS0 (fun z2 M1 H locs r3 h hS hS0 => ?_)
  obtain ⟨e4, h⟩ := h
  rw [e4] at hS
  exact w_zret hx hb hr hlocks hS hS0 (sI_01 r3) r3 ⟨rfl, h⟩ dX12_isRing_11

set_option maxRecDepth 100000 in
def wR_isMotor (a0 : Int) (M : zM) (Q : Int → Prop) : Prop := ((sI a0) = 0 → Q 1) ∧ ((sI a0) ≠ 0 → ((sI a0) ≠ 1 → Q 0) ∧ ((sI a0) = 1 → Q 1))
set_option maxHeartbeats 4000000 in
set_option maxRecDepth 100000 in
theorem cR_isMotor (l : Launch) (D : va_G) (dA : Nat → ClassId) (b : Nat) (M : zM) (a0 : Int)  (Q : Int → Prop) (h : wR_isMotor a0 M Q) : Met l yX12_isMotor (.code yX12_isMotor cX12_isMotor 1 (some .boolean) :: zt) (z_rm 0) (va_Pc [.int (iI a0)] (wPre D dA vwCl (z_tys dA) wR nR b M)) (va_Qi (wQz (fun z9 u9 => u9 = M ∧ Q z9)) (zB D dA vwCl wR nR b) (zA nR b)) 0 0 (zA nR b) := by
  unfold wR_isMotor at h
  refine Met.ofW (cc := cX12_isMotor) (maxL := 1) (ret := (some .boolean)) (by decide) rfl ?_
  intro p e s m args below meth c s₁ B hml hv
  obtain ⟨hargs, hS, hK⟩ := hv
  have hx := B.exec
  have hb := B.bytes
  have hr := B.returns
  have hts := atoms_spec (ws := .code yX12_isMotor cX12_isMotor 1 (some .boolean) :: zt) B.pre
  have hown : s.vm.findClass RX12 = some m.cls := findClass_of_methodNamed B.named
  have hlocks := B.notSynchronized
  have hS0 : va_S (zA nR b) s.heap s.heap [] := va_S.rf
  have hl := lv_entry ([.int (iI a0)]) (n := 1) (Nat.le_of_ble_eq_true rfl)
  have hent : entryFrame m args 1 = F0 m 0 ((lg_sl ([.int (iI a0)]) ++ List.replicate (1 - (lg_sl ([.int (iI a0)])).length) Slot.unset).toArray) [] := by rw [hargs]; exact lg_entry_eq m ([.int (iI a0)]) 1
  rw [hent]
  generalize (lg_sl ([.int (iI a0)]) ++ List.replicate (1 - (lg_sl ([.int (iI a0)])).length) Slot.unset).toArray = ls at hl ⊢
  have hl : lv_has ls 1 [(0, .int (iI a0))] := hl
  refine lv_iload_n hx hb dX12_isMotor_0 rfl (lv_at hl 0 rfl) ?_
  refine w_if_eq (tgt := 9) hx hb rfl dX12_isMotor_1 (by decide) (fun c1 => ?_) (fun c1 => ?_)
  · skip
    have h := h.1 c1
    refine z_iconst hx hb dX12_isMotor_9 ?_
    refine lv_goto (tgt := 14) hx hb dX12_isMotor_10 (by decide) ?_
    exact w_zret hx hb hr hlocks hS hS0 (sI_of (by decide)) (by decide) ⟨rfl, h⟩ dX12_isMotor_14
  · skip
    have h := h.2 c1
    refine lv_iload_n hx hb dX12_isMotor_4 rfl (lv_at hl 0 rfl) ?_
    refine z_iconst hx hb dX12_isMotor_5 ?_
    refine w_icmp_ne (tgt := 13) hx hb rfl (sI_of (by decide)) dX12_isMotor_6 (by decide) (fun c2 => ?_) (fun c2 => ?_)
    · skip
      have h := h.1 c2
      refine z_iconst hx hb dX12_isMotor_13 ?_
      exact w_zret hx hb hr hlocks hS hS0 (sI_of (by decide)) (by decide) ⟨rfl, h⟩ dX12_isMotor_14
    · skip
      have h := h.2 c2
      refine z_iconst hx hb dX12_isMotor_9 ?_
      refine lv_goto (tgt := 14) hx hb dX12_isMotor_10 (by decide) ?_
      exact w_zret hx hb hr hlocks hS hS0 (sI_of (by decide)) (by decide) ⟨rfl, h⟩ dX12_isMotor_14

set_option maxRecDepth 100000 in
def wR_sign (a0 : Int) (M : zM) (Q : Int → zM → Prop) : Prop := (∀ M1 : zM, M1 = zup M 0 35 0 → ((sI ((M1 0 1) + 4)) ≤ 100 → ((0 ≤ (sI (M1 0 1)) ∧ (sI (M1 0 1)) < 100) ∧ (∀ M5 : zM, M5 = zup M1 1 (sI (M1 0 1)).toNat (b8I (shrI a0 24)) → ((0 ≤ (sI ((M5 0 1) + 1)) ∧ (sI ((M5 0 1) + 1)) < 100) ∧ (∀ M8 : zM, M8 = zup M5 1 (sI ((M5 0 1) + 1)).toNat (b8I (shrI a0 16)) → ((0 ≤ (sI ((M8 0 1) + 2)) ∧ (sI ((M8 0 1) + 2)) < 100) ∧ (∀ M11 : zM, M11 = zup M8 1 (sI ((M8 0 1) + 2)).toNat (b8I (shrI a0 8)) → ((0 ≤ (sI ((M11 0 1) + 3)) ∧ (sI ((M11 0 1) + 3)) < 100) ∧ (∀ M14 : zM, M14 = zup M11 1 (sI ((M11 0 1) + 3)).toNat (b8I a0) → (∀ M16 : zM, M16 = zup M14 0 1 ((M14 0 1) + 4) → Q (sI (M16 0 1)) M16)))))))))) ∧ (100 < (sI ((M1 0 1) + 4)) → Q (-1) M1))
set_option maxHeartbeats 4000000 in
set_option maxRecDepth 100000 in
theorem cR_sign (l : Launch) (D : va_G) (dA : Nat → ClassId) (b : Nat) (M : zM) (a0 : Int)  (Q : Int → zM → Prop) (h : wR_sign a0 M Q) : Met l yX12_sign (.code yX12_sign cX12_sign 2 (some .int) :: zt) (z_rm 0) (va_Pc [.ref (b + 0), .int (iI a0)] (wPre D dA vwCl (z_tys dA) wR nR b M)) (va_Qi (wQi Q) (zB D dA vwCl wR nR b) (zA nR b)) 0 0 (zA nR b) := by
  unfold wR_sign at h
  refine Met.ofW (cc := cX12_sign) (maxL := 2) (ret := (some .int)) (by decide) rfl ?_
  intro p e s m args below meth c s₁ B hml hv
  obtain ⟨hargs, hS, hK⟩ := hv
  have hx := B.exec
  have hb := B.bytes
  have hr := B.returns
  have hts := atoms_spec (ws := .code yX12_sign cX12_sign 2 (some .int) :: zt) B.pre
  have hown : s.vm.findClass RX12 = some m.cls := findClass_of_methodNamed B.named
  have hlocks := B.notSynchronized
  have hS0 : va_S (zA nR b) s.heap s.heap [] := va_S.rf
  have hl := lv_entry ([.ref (b + 0), .int (iI a0)]) (n := 2) (Nat.le_of_ble_eq_true rfl)
  have hent : entryFrame m args 2 = F0 m 0 ((lg_sl ([.ref (b + 0), .int (iI a0)]) ++ List.replicate (2 - (lg_sl ([.ref (b + 0), .int (iI a0)])).length) Slot.unset).toArray) [] := by rw [hargs]; exact lg_entry_eq m ([.ref (b + 0), .int (iI a0)]) 2
  rw [hent]
  generalize (lg_sl ([.ref (b + 0), .int (iI a0)]) ++ List.replicate (2 - (lg_sl ([.ref (b + 0), .int (iI a0)])).length) Slot.unset).toArray = ls at hl ⊢
  have hl : lv_has ls 2 [(0, .ref (b + 0)), (1, .int (iI a0))] := hl
  refine lv_aload_n hx hb dX12_sign_0 rfl (lv_at hl 0 rfl) ?_
  refine z_iconst hx hb dX12_sign_1 ?_
  refine w_puti hx hb hts (z_memU u12) tyX12 tyX12_ok nmX12 hown hK.1 hS hS0 f12_35 (by decide) (zkd_of (rfl : zcd wR 0 = 50) rfl) (Or.inl (hts _ (z_mem k979))) rfl (z := 0) (by decide +kernel) dX12_sign_2 (fun H locs hS hS0 => ?_)
  obtain ⟨M1, e2⟩ : ∃ M1 : zM, M1 = zup M 0 35 0 := ⟨_, rfl⟩
  rw [← e2] at hS
  have h := h M1 e2
  refine lv_aload_n hx hb dX12_sign_5 rfl (lv_at hl 0 rfl) ?_
  refine w_geti hx hb hts (z_memU u12) hown hK.1 hS f12_1 (by decide) (zkd_of (rfl : zcd wR 0 = 50) rfl) (Or.inl (hts _ (z_mem k945))) dX12_sign_6 ?_
  refine z_iconst hx hb dX12_sign_9 ?_
  refine z_iadd hx hb dX12_sign_10 ?_
  refine z_bipush hx hb (by decide) dX12_sign_11 ?_
  refine w_icmp_le (tgt := 18) hx hb rfl (sI_of (by decide)) dX12_sign_13 (by decide) (fun c3 => ?_) (fun c3 => ?_)
  · skip
    have h := h.1 c3
    refine lv_aload_n hx hb dX12_sign_18 rfl (lv_at hl 0 rfl) ?_
    refine w_getr (j2 := 1) hx hb hts (z_memU u12) hown hK.1 hS f12_0 (by decide) (zkd_of (rfl : zcd wR 0 = 50) rfl) (zrf_of (rfl : zcd wR 0 = 50) rfl) (Or.inl (hts _ (z_mem k944))) dX12_sign_19 ?_
    refine lv_aload_n hx hb dX12_sign_22 rfl (lv_at hl 0 rfl) ?_
    refine w_geti hx hb hts (z_memU u12) hown hK.1 hS f12_1 (by decide) (zkd_of (rfl : zcd wR 0 = 50) rfl) (Or.inl (hts _ (z_mem k945))) dX12_sign_23 ?_
    refine lv_iload_n hx hb dX12_sign_26 rfl (lv_at hl 1 rfl) ?_
    refine z_bipush hx hb (by decide) dX12_sign_27 ?_
    refine w_ishr hx hb dX12_sign_29 ?_
    refine w_i2b hx hb dX12_sign_30 ?_
    obtain ⟨o4, h⟩ := h
    refine w_bast (z := (b8I (shrI a0 24))) (n := 100) (i := (sI (M1 0 1))) hx hb hK.1 (t0 := 2) rfl hS hS0 (by decide) (zkd_of (rfl : zcd wR 1 = 51) rfl) (zln_of (rfl : zcd wR 1 = 51) rfl) rfl (sI_of (b8I_R _)) o4.1 o4.2 (by decide) (b8I_in (shrI a0 24)) dX12_sign_31 (fun H locs hS hS0 => ?_)
    obtain ⟨M5, e6⟩ : ∃ M5 : zM, M5 = zup M1 1 (sI (M1 0 1)).toNat (b8I (shrI a0 24)) := ⟨_, rfl⟩
    rw [← e6] at hS
    have h := h M5 e6
    refine lv_aload_n hx hb dX12_sign_32 rfl (lv_at hl 0 rfl) ?_
    refine w_getr (j2 := 1) hx hb hts (z_memU u12) hown hK.1 hS f12_0 (by decide) (zkd_of (rfl : zcd wR 0 = 50) rfl) (zrf_of (rfl : zcd wR 0 = 50) rfl) (Or.inl (hts _ (z_mem k944))) dX12_sign_33 ?_
    refine lv_aload_n hx hb dX12_sign_36 rfl (lv_at hl 0 rfl) ?_
    refine w_geti hx hb hts (z_memU u12) hown hK.1 hS f12_1 (by decide) (zkd_of (rfl : zcd wR 0 = 50) rfl) (Or.inl (hts _ (z_mem k945))) dX12_sign_37 ?_
    refine z_iconst hx hb dX12_sign_40 ?_
    refine z_iadd hx hb dX12_sign_41 ?_
    refine lv_iload_n hx hb dX12_sign_42 rfl (lv_at hl 1 rfl) ?_
    refine z_bipush hx hb (by decide) dX12_sign_43 ?_
    refine w_ishr hx hb dX12_sign_45 ?_
    refine w_i2b hx hb dX12_sign_46 ?_
    obtain ⟨o7, h⟩ := h
    refine w_bast (z := (b8I (shrI a0 16))) (n := 100) (i := (sI ((M5 0 1) + 1))) hx hb hK.1 (t0 := 2) rfl hS hS0 (by decide) (zkd_of (rfl : zcd wR 1 = 51) rfl) (zln_of (rfl : zcd wR 1 = 51) rfl) rfl (sI_of (b8I_R _)) o7.1 o7.2 (by decide) (b8I_in (shrI a0 16)) dX12_sign_47 (fun H locs hS hS0 => ?_)
    obtain ⟨M8, e9⟩ : ∃ M8 : zM, M8 = zup M5 1 (sI ((M5 0 1) + 1)).toNat (b8I (shrI a0 16)) := ⟨_, rfl⟩
    rw [← e9] at hS
    have h := h M8 e9
    refine lv_aload_n hx hb dX12_sign_48 rfl (lv_at hl 0 rfl) ?_
    refine w_getr (j2 := 1) hx hb hts (z_memU u12) hown hK.1 hS f12_0 (by decide) (zkd_of (rfl : zcd wR 0 = 50) rfl) (zrf_of (rfl : zcd wR 0 = 50) rfl) (Or.inl (hts _ (z_mem k944))) dX12_sign_49 ?_
    refine lv_aload_n hx hb dX12_sign_52 rfl (lv_at hl 0 rfl) ?_
    refine w_geti hx hb hts (z_memU u12) hown hK.1 hS f12_1 (by decide) (zkd_of (rfl : zcd wR 0 = 50) rfl) (Or.inl (hts _ (z_mem k945))) dX12_sign_53 ?_
    refine z_iconst hx hb dX12_sign_56 ?_
    refine z_iadd hx hb dX12_sign_57 ?_
    refine lv_iload_n hx hb dX12_sign_58 rfl (lv_at hl 1 rfl) ?_
    refine z_bipush hx hb (by decide) dX12_sign_59 ?_
    refine w_ishr hx hb dX12_sign_61 ?_
    refine w_i2b hx hb dX12_sign_62 ?_
    obtain ⟨o10, h⟩ := h
    refine w_bast (z := (b8I (shrI a0 8))) (n := 100) (i := (sI ((M8 0 1) + 2))) hx hb hK.1 (t0 := 2) rfl hS hS0 (by decide) (zkd_of (rfl : zcd wR 1 = 51) rfl) (zln_of (rfl : zcd wR 1 = 51) rfl) rfl (sI_of (b8I_R _)) o10.1 o10.2 (by decide) (b8I_in (shrI a0 8)) dX12_sign_63 (fun H locs hS hS0 => ?_)
    obtain ⟨M11, e12⟩ : ∃ M11 : zM, M11 = zup M8 1 (sI ((M8 0 1) + 2)).toNat (b8I (shrI a0 8)) := ⟨_, rfl⟩
    rw [← e12] at hS
    have h := h M11 e12
    refine lv_aload_n hx hb dX12_sign_64 rfl (lv_at hl 0 rfl) ?_
    refine w_getr (j2 := 1) hx hb hts (z_memU u12) hown hK.1 hS f12_0 (by decide) (zkd_of (rfl : zcd wR 0 = 50) rfl) (zrf_of (rfl : zcd wR 0 = 50) rfl) (Or.inl (hts _ (z_mem k944))) dX12_sign_65 ?_
    refine lv_aload_n hx hb dX12_sign_68 rfl (lv_at hl 0 rfl) ?_
    refine w_geti hx hb hts (z_memU u12) hown hK.1 hS f12_1 (by decide) (zkd_of (rfl : zcd wR 0 = 50) rfl) (Or.inl (hts _ (z_mem k945))) dX12_sign_69 ?_
    refine z_iconst hx hb dX12_sign_72 ?_
    refine z_iadd hx hb dX12_sign_73 ?_
    refine lv_iload_n hx hb dX12_sign_74 rfl (lv_at hl 1 rfl) ?_
    refine w_i2b hx hb dX12_sign_75 ?_
    obtain ⟨o13, h⟩ := h
    refine w_bast (z := (b8I a0)) (n := 100) (i := (sI ((M11 0 1) + 3))) hx hb hK.1 (t0 := 2) rfl hS hS0 (by decide) (zkd_of (rfl : zcd wR 1 = 51) rfl) (zln_of (rfl : zcd wR 1 = 51) rfl) rfl (sI_of (b8I_R _)) o13.1 o13.2 (by decide) (b8I_in a0) dX12_sign_76 (fun H locs hS hS0 => ?_)
    obtain ⟨M14, e15⟩ : ∃ M14 : zM, M14 = zup M11 1 (sI ((M11 0 1) + 3)).toNat (b8I a0) := ⟨_, rfl⟩
    rw [← e15] at hS
    have h := h M14 e15
    refine lv_aload_n hx hb dX12_sign_77 rfl (lv_at hl 0 rfl) ?_
    refine lv_dup hx hb dX12_sign_78 rfl ?_
    refine w_geti hx hb hts (z_memU u12) hown hK.1 hS f12_1 (by decide) (zkd_of (rfl : zcd wR 0 = 50) rfl) (Or.inl (hts _ (z_mem k945))) dX12_sign_79 ?_
    refine z_iconst hx hb dX12_sign_82 ?_
    refine z_iadd hx hb dX12_sign_83 ?_
    refine w_puti hx hb hts (z_memU u12) tyX12 tyX12_ok nmX12 hown hK.1 hS hS0 f12_1 (by decide) (zkd_of (rfl : zcd wR 0 = 50) rfl) (Or.inl (hts _ (z_mem k945))) rfl (z := ((M14 0 1) + 4)) (by decide +kernel) dX12_sign_84 (fun H locs hS hS0 => ?_)
    obtain ⟨M16, e17⟩ : ∃ M16 : zM, M16 = zup M14 0 1 ((M14 0 1) + 4) := ⟨_, rfl⟩
    rw [← e17] at hS
    have h := h M16 e17
    refine lv_aload_n hx hb dX12_sign_87 rfl (lv_at hl 0 rfl) ?_
    refine w_geti hx hb hts (z_memU u12) hown hK.1 hS f12_1 (by decide) (zkd_of (rfl : zcd wR 0 = 50) rfl) (Or.inl (hts _ (z_mem k945))) dX12_sign_88 ?_
    exact w_iret hx hb hr hlocks hS hS0 rfl h dX12_sign_91
  · skip
    have h := h.2 c3
    refine z_iconst hx hb dX12_sign_16 ?_
    exact w_iret hx hb hr hlocks hS hS0 (sI_of (by decide)) h dX12_sign_17

set_option maxRecDepth 100000 in
def wR_end (a0 : Int) (M : zM) (Q : Int → zM → Prop) : Prop := (∀ M1 : zM, M1 = zup M 0 35 0 → ((sI a0) < 0 → Q 0 M1) ∧ (0 ≤ (sI a0) → ((sI a0) ≤ (sI (M1 0 1)) → (∀ M5 : zM, M5 = zup M1 0 1 a0 → Q 1 M5)) ∧ ((sI (M1 0 1)) < (sI a0) → Q 0 M1)))
set_option maxHeartbeats 4000000 in
set_option maxRecDepth 100000 in
theorem cR_end (l : Launch) (D : va_G) (dA : Nat → ClassId) (b : Nat) (M : zM) (a0 : Int)  (Q : Int → zM → Prop) (h : wR_end a0 M Q) : Met l yX12_end (.code yX12_end cX12_end 2 (some .boolean) :: zt) (z_rm 0) (va_Pc [.ref (b + 0), .int (iI a0)] (wPre D dA vwCl (z_tys dA) wR nR b M)) (va_Qi (wQz Q) (zB D dA vwCl wR nR b) (zA nR b)) 0 0 (zA nR b) := by
  unfold wR_end at h
  refine Met.ofW (cc := cX12_end) (maxL := 2) (ret := (some .boolean)) (by decide) rfl ?_
  intro p e s m args below meth c s₁ B hml hv
  obtain ⟨hargs, hS, hK⟩ := hv
  have hx := B.exec
  have hb := B.bytes
  have hr := B.returns
  have hts := atoms_spec (ws := .code yX12_end cX12_end 2 (some .boolean) :: zt) B.pre
  have hown : s.vm.findClass RX12 = some m.cls := findClass_of_methodNamed B.named
  have hlocks := B.notSynchronized
  have hS0 : va_S (zA nR b) s.heap s.heap [] := va_S.rf
  have hl := lv_entry ([.ref (b + 0), .int (iI a0)]) (n := 2) (Nat.le_of_ble_eq_true rfl)
  have hent : entryFrame m args 2 = F0 m 0 ((lg_sl ([.ref (b + 0), .int (iI a0)]) ++ List.replicate (2 - (lg_sl ([.ref (b + 0), .int (iI a0)])).length) Slot.unset).toArray) [] := by rw [hargs]; exact lg_entry_eq m ([.ref (b + 0), .int (iI a0)]) 2
  rw [hent]
  generalize (lg_sl ([.ref (b + 0), .int (iI a0)]) ++ List.replicate (2 - (lg_sl ([.ref (b + 0), .int (iI a0)])).length) Slot.unset).toArray = ls at hl ⊢
  have hl : lv_has ls 2 [(0, .ref (b + 0)), (1, .int (iI a0))] := hl
  refine lv_aload_n hx hb dX12_end_0 rfl (lv_at hl 0 rfl) ?_
  refine z_iconst hx hb dX12_end_1 ?_
  refine w_puti hx hb hts (z_memU u12) tyX12 tyX12_ok nmX12 hown hK.1 hS hS0 f12_35 (by decide) (zkd_of (rfl : zcd wR 0 = 50) rfl) (Or.inl (hts _ (z_mem k979))) rfl (z := 0) (by decide +kernel) dX12_end_2 (fun H locs hS hS0 => ?_)
  obtain ⟨M1, e2⟩ : ∃ M1 : zM, M1 = zup M 0 35 0 := ⟨_, rfl⟩
  rw [← e2] at hS
  have h := h M1 e2
  refine lv_iload_n hx hb dX12_end_5 rfl (lv_at hl 1 rfl) ?_
  refine w_if_lt (tgt := 17) hx hb rfl dX12_end_6 (by decide) (fun c3 => ?_) (fun c3 => ?_)
  · skip
    have h := h.1 c3
    refine z_iconst hx hb dX12_end_17 ?_
    exact w_zret hx hb hr hlocks hS hS0 (sI_of (by decide)) (by decide) h dX12_end_18
  · skip
    have h := h.2 c3
    refine lv_iload_n hx hb dX12_end_9 rfl (lv_at hl 1 rfl) ?_
    refine lv_aload_n hx hb dX12_end_10 rfl (lv_at hl 0 rfl) ?_
    refine w_geti hx hb hts (z_memU u12) hown hK.1 hS f12_1 (by decide) (zkd_of (rfl : zcd wR 0 = 50) rfl) (Or.inl (hts _ (z_mem k945))) dX12_end_11 ?_
    refine w_icmp_le (tgt := 19) hx hb rfl rfl dX12_end_14 (by decide) (fun c4 => ?_) (fun c4 => ?_)
    · skip
      have h := h.1 c4
      refine lv_aload_n hx hb dX12_end_19 rfl (lv_at hl 0 rfl) ?_
      refine lv_iload_n hx hb dX12_end_20 rfl (lv_at hl 1 rfl) ?_
      refine w_puti hx hb hts (z_memU u12) tyX12 tyX12_ok nmX12 hown hK.1 hS hS0 f12_1 (by decide) (zkd_of (rfl : zcd wR 0 = 50) rfl) (Or.inl (hts _ (z_mem k945))) rfl (z := a0) (by decide +kernel) dX12_end_21 (fun H locs hS hS0 => ?_)
      obtain ⟨M5, e6⟩ : ∃ M5 : zM, M5 = zup M1 0 1 a0 := ⟨_, rfl⟩
      rw [← e6] at hS
      have h := h M5 e6
      refine z_iconst hx hb dX12_end_24 ?_
      exact w_zret hx hb hr hlocks hS hS0 (sI_of (by decide)) (by decide) h dX12_end_25
    · skip
      have h := h.2 c4
      refine z_iconst hx hb dX12_end_17 ?_
      exact w_zret hx hb hr hlocks hS hS0 (sI_of (by decide)) (by decide) h dX12_end_18

set_option maxRecDepth 100000 in
def wR_has (a0 : Int) (a1 : Int) (M : zM) (Q : Int → Prop) : Prop := ((sI (M 0 1)) ≤ (sI (M 0 36)) → Q 0) ∧ ((sI (M 0 36)) < (sI (M 0 1)) → (60 ≤ (sI (M 0 36)) → Q 0) ∧ ((sI (M 0 36)) < 60 → ((0 ≤ (sI (M 0 36)) ∧ (sI (M 0 36)) < 100) ∧ ((sI (M 1 (sI (M 0 36)).toNat)) < (sI a0) → Q 0) ∧ ((sI a0) ≤ (sI (M 1 (sI (M 0 36)).toNat)) → ((0 ≤ (sI (M 0 36)) ∧ (sI (M 0 36)) < 100) ∧ ((sI a1) < (sI (M 1 (sI (M 0 36)).toNat)) → Q 0) ∧ ((sI (M 1 (sI (M 0 36)).toNat)) ≤ (sI a1) → Q 1))))))
set_option maxHeartbeats 4000000 in
set_option maxRecDepth 100000 in
theorem cR_has (l : Launch) (D : va_G) (dA : Nat → ClassId) (b : Nat) (M : zM) (a0 : Int) (a1 : Int)  (Q : Int → Prop) (h : wR_has a0 a1 M Q) : Met l yX12_has (.code yX12_has cX12_has 3 (some .boolean) :: zt) (z_rm 0) (va_Pc [.ref (b + 0), .int (iI a0), .int (iI a1)] (wPre D dA vwCl (z_tys dA) wR nR b M)) (va_Qi (wQz (fun z9 u9 => u9 = M ∧ Q z9)) (zB D dA vwCl wR nR b) (zA nR b)) 0 0 (zA nR b) := by
  unfold wR_has at h
  refine Met.ofW (cc := cX12_has) (maxL := 3) (ret := (some .boolean)) (by decide) rfl ?_
  intro p e s m args below meth c s₁ B hml hv
  obtain ⟨hargs, hS, hK⟩ := hv
  have hx := B.exec
  have hb := B.bytes
  have hr := B.returns
  have hts := atoms_spec (ws := .code yX12_has cX12_has 3 (some .boolean) :: zt) B.pre
  have hown : s.vm.findClass RX12 = some m.cls := findClass_of_methodNamed B.named
  have hlocks := B.notSynchronized
  have hS0 : va_S (zA nR b) s.heap s.heap [] := va_S.rf
  have hl := lv_entry ([.ref (b + 0), .int (iI a0), .int (iI a1)]) (n := 3) (Nat.le_of_ble_eq_true rfl)
  have hent : entryFrame m args 3 = F0 m 0 ((lg_sl ([.ref (b + 0), .int (iI a0), .int (iI a1)]) ++ List.replicate (3 - (lg_sl ([.ref (b + 0), .int (iI a0), .int (iI a1)])).length) Slot.unset).toArray) [] := by rw [hargs]; exact lg_entry_eq m ([.ref (b + 0), .int (iI a0), .int (iI a1)]) 3
  rw [hent]
  generalize (lg_sl ([.ref (b + 0), .int (iI a0), .int (iI a1)]) ++ List.replicate (3 - (lg_sl ([.ref (b + 0), .int (iI a0), .int (iI a1)])).length) Slot.unset).toArray = ls at hl ⊢
  have hl : lv_has ls 3 [(0, .ref (b + 0)), (1, .int (iI a0)), (2, .int (iI a1))] := hl
  refine lv_aload_n hx hb dX12_has_0 rfl (lv_at hl 0 rfl) ?_
  refine w_geti hx hb hts (z_memU u12) hown hK.1 hS f12_36 (by decide) (zkd_of (rfl : zcd wR 0 = 50) rfl) (Or.inl (hts _ (z_mem k980))) dX12_has_1 ?_
  refine lv_aload_n hx hb dX12_has_4 rfl (lv_at hl 0 rfl) ?_
  refine w_geti hx hb hts (z_memU u12) hown hK.1 hS f12_1 (by decide) (zkd_of (rfl : zcd wR 0 = 50) rfl) (Or.inl (hts _ (z_mem k945))) dX12_has_5 ?_
  refine w_icmp_ge (tgt := 50) hx hb rfl rfl dX12_has_8 (by decide) (fun c1 => ?_) (fun c1 => ?_)
  · skip
    have h := h.1 c1
    refine z_iconst hx hb dX12_has_50 ?_
    exact w_zret hx hb hr hlocks hS hS0 (sI_of (by decide)) (by decide) ⟨rfl, h⟩ dX12_has_51
  · skip
    have h := h.2 c1
    refine lv_aload_n hx hb dX12_has_11 rfl (lv_at hl 0 rfl) ?_
    refine w_geti hx hb hts (z_memU u12) hown hK.1 hS f12_36 (by decide) (zkd_of (rfl : zcd wR 0 = 50) rfl) (Or.inl (hts _ (z_mem k980))) dX12_has_12 ?_
    refine z_bipush hx hb (by decide) dX12_has_15 ?_
    refine w_icmp_ge (tgt := 50) hx hb rfl (sI_of (by decide)) dX12_has_17 (by decide) (fun c2 => ?_) (fun c2 => ?_)
    · skip
      have h := h.1 c2
      refine z_iconst hx hb dX12_has_50 ?_
      exact w_zret hx hb hr hlocks hS hS0 (sI_of (by decide)) (by decide) ⟨rfl, h⟩ dX12_has_51
    · skip
      have h := h.2 c2
      refine lv_aload_n hx hb dX12_has_20 rfl (lv_at hl 0 rfl) ?_
      refine w_getr (j2 := 1) hx hb hts (z_memU u12) hown hK.1 hS f12_0 (by decide) (zkd_of (rfl : zcd wR 0 = 50) rfl) (zrf_of (rfl : zcd wR 0 = 50) rfl) (Or.inl (hts _ (z_mem k944))) dX12_has_21 ?_
      refine lv_aload_n hx hb dX12_has_24 rfl (lv_at hl 0 rfl) ?_
      refine w_geti hx hb hts (z_memU u12) hown hK.1 hS f12_36 (by decide) (zkd_of (rfl : zcd wR 0 = 50) rfl) (Or.inl (hts _ (z_mem k980))) dX12_has_25 ?_
      obtain ⟨o3, h⟩ := h
      refine w_bald (n := 100) (i := (sI (M 0 36))) hx hb hK.1 (t0 := 2) rfl hS (by decide) (zkd_of (rfl : zcd wR 1 = 51) rfl) (zln_of (rfl : zcd wR 1 = 51) rfl) rfl o3.1 o3.2 (by decide) dX12_has_28 ?_
      refine lv_iload_n hx hb dX12_has_29 rfl (lv_at hl 1 rfl) ?_
      refine w_icmp_lt (tgt := 50) hx hb rfl rfl dX12_has_30 (by decide) (fun c4 => ?_) (fun c4 => ?_)
      · skip
        have h := h.1 c4
        refine z_iconst hx hb dX12_has_50 ?_
        exact w_zret hx hb hr hlocks hS hS0 (sI_of (by decide)) (by decide) ⟨rfl, h⟩ dX12_has_51
      · skip
        have h := h.2 c4
        refine lv_aload_n hx hb dX12_has_33 rfl (lv_at hl 0 rfl) ?_
        refine w_getr (j2 := 1) hx hb hts (z_memU u12) hown hK.1 hS f12_0 (by decide) (zkd_of (rfl : zcd wR 0 = 50) rfl) (zrf_of (rfl : zcd wR 0 = 50) rfl) (Or.inl (hts _ (z_mem k944))) dX12_has_34 ?_
        refine lv_aload_n hx hb dX12_has_37 rfl (lv_at hl 0 rfl) ?_
        refine w_geti hx hb hts (z_memU u12) hown hK.1 hS f12_36 (by decide) (zkd_of (rfl : zcd wR 0 = 50) rfl) (Or.inl (hts _ (z_mem k980))) dX12_has_38 ?_
        obtain ⟨o5, h⟩ := h
        refine w_bald (n := 100) (i := (sI (M 0 36))) hx hb hK.1 (t0 := 2) rfl hS (by decide) (zkd_of (rfl : zcd wR 1 = 51) rfl) (zln_of (rfl : zcd wR 1 = 51) rfl) rfl o5.1 o5.2 (by decide) dX12_has_41 ?_
        refine lv_iload_n hx hb dX12_has_42 rfl (lv_at hl 2 rfl) ?_
        refine w_icmp_gt (tgt := 50) hx hb rfl rfl dX12_has_43 (by decide) (fun c6 => ?_) (fun c6 => ?_)
        · skip
          have h := h.1 c6
          refine z_iconst hx hb dX12_has_50 ?_
          exact w_zret hx hb hr hlocks hS hS0 (sI_of (by decide)) (by decide) ⟨rfl, h⟩ dX12_has_51
        · skip
          have h := h.2 c6
          refine z_iconst hx hb dX12_has_46 ?_
          refine lv_goto (tgt := 51) hx hb dX12_has_47 (by decide) ?_
          exact w_zret hx hb hr hlocks hS hS0 (sI_of (by decide)) (by decide) ⟨rfl, h⟩ dX12_has_51
