/-! the W layer, 20 -/
theorem dX12_areAlike_0 : decode cX12_areAlike 0 = .ok (.iconst 0, 1) := by decide +kernel
theorem dX12_areAlike_1 : decode cX12_areAlike 1 = .ok (.istore_n 3, 1) := by decide +kernel
theorem dX12_areAlike_12 : decode cX12_areAlike 12 = .ok (.iload_n 1, 1) := by decide +kernel
theorem dX12_areAlike_13 : decode cX12_areAlike 13 = .ok (.iload_n 3, 1) := by decide +kernel
theorem dX12_areAlike_14 : decode cX12_areAlike 14 = .ok (.iadd, 1) := by decide +kernel
theorem dX12_areAlike_15 : decode cX12_areAlike 15 = .ok (.iaload, 1) := by decide +kernel
theorem dX12_areAlike_16 : decode cX12_areAlike 16 = .ok (.aload_n 0, 1) := by decide +kernel
theorem dX12_areAlike_17 : decode cX12_areAlike 17 = .ok (.getfield 106, 3) := by decide +kernel
theorem dX12_areAlike_2 : decode cX12_areAlike 2 = .ok (.iload_n 3, 1) := by decide +kernel
theorem dX12_areAlike_20 : decode cX12_areAlike 20 = .ok (.iload_n 2, 1) := by decide +kernel
theorem dX12_areAlike_21 : decode cX12_areAlike 21 = .ok (.iload_n 3, 1) := by decide +kernel
theorem dX12_areAlike_22 : decode cX12_areAlike 22 = .ok (.iadd, 1) := by decide +kernel
theorem dX12_areAlike_23 : decode cX12_areAlike 23 = .ok (.iaload, 1) := by decide +kernel
theorem dX12_areAlike_24 : decode cX12_areAlike 24 = .ok (.if_icmp .eq 5, 3) := by decide +kernel
theorem dX12_areAlike_27 : decode cX12_areAlike 27 = .ok (.iconst 0, 1) := by decide +kernel
theorem dX12_areAlike_28 : decode cX12_areAlike 28 = .ok (.ireturn, 1) := by decide +kernel
theorem dX12_areAlike_29 : decode cX12_areAlike 29 = .ok (.iinc 3 1, 3) := by decide +kernel
theorem dX12_areAlike_3 : decode cX12_areAlike 3 = .ok (.bipush 20, 2) := by decide +kernel
theorem dX12_areAlike_32 : decode cX12_areAlike 32 = .ok (.goto (-30), 3) := by decide +kernel
theorem dX12_areAlike_35 : decode cX12_areAlike 35 = .ok (.iconst 1, 1) := by decide +kernel
theorem dX12_areAlike_36 : decode cX12_areAlike 36 = .ok (.ireturn, 1) := by decide +kernel
theorem dX12_areAlike_5 : decode cX12_areAlike 5 = .ok (.if_icmp .ge 30, 3) := by decide +kernel
theorem dX12_areAlike_8 : decode cX12_areAlike 8 = .ok (.aload_n 0, 1) := by decide +kernel
theorem dX12_areAlike_9 : decode cX12_areAlike 9 = .ok (.getfield 106, 3) := by decide +kernel
theorem dX12_cut_0 : decode cX12_cut 0 = .ok (.aload_n 0, 1) := by decide +kernel
theorem dX12_cut_1 : decode cX12_cut 1 = .ok (.iconst 0, 1) := by decide +kernel
theorem dX12_cut_10 : decode cX12_cut 10 = .ok (.ifCond .eq 19, 3) := by decide +kernel
theorem dX12_cut_13 : decode cX12_cut 13 = .ok (.iload_n 2, 1) := by decide +kernel
theorem dX12_cut_14 : decode cX12_cut 14 = .ok (.iconst 0, 1) := by decide +kernel
theorem dX12_cut_15 : decode cX12_cut 15 = .ok (.aload_n 0, 1) := by decide +kernel
theorem dX12_cut_16 : decode cX12_cut 16 = .ok (.getfield 20, 3) := by decide +kernel
theorem dX12_cut_19 : decode cX12_cut 19 = .ok (.iload_n 1, 1) := by decide +kernel
theorem dX12_cut_2 : decode cX12_cut 2 = .ok (.putfield 118, 3) := by decide +kernel
theorem dX12_cut_20 : decode cX12_cut 20 = .ok (.iaload, 1) := by decide +kernel
theorem dX12_cut_21 : decode cX12_cut 21 = .ok (.iconst 1, 1) := by decide +kernel
theorem dX12_cut_22 : decode cX12_cut 22 = .ok (.isub, 1) := by decide +kernel
theorem dX12_cut_23 : decode cX12_cut 23 = .ok (.invokestatic 124, 3) := by decide +kernel
theorem dX12_cut_26 : decode cX12_cut 26 = .ok (.ifCond .ne 5, 3) := by decide +kernel
theorem dX12_cut_29 : decode cX12_cut 29 = .ok (.iconst (-1), 1) := by decide +kernel
theorem dX12_cut_30 : decode cX12_cut 30 = .ok (.ireturn, 1) := by decide +kernel
theorem dX12_cut_31 : decode cX12_cut 31 = .ok (.aload_n 0, 1) := by decide +kernel
theorem dX12_cut_32 : decode cX12_cut 32 = .ok (.getfield 20, 3) := by decide +kernel
theorem dX12_cut_35 : decode cX12_cut 35 = .ok (.iload_n 1, 1) := by decide +kernel
theorem dX12_cut_36 : decode cX12_cut 36 = .ok (.dup2, 1) := by decide +kernel
theorem dX12_cut_37 : decode cX12_cut 37 = .ok (.iaload, 1) := by decide +kernel
theorem dX12_cut_38 : decode cX12_cut 38 = .ok (.iload_n 2, 1) := by decide +kernel
theorem dX12_cut_39 : decode cX12_cut 39 = .ok (.isub, 1) := by decide +kernel
theorem dX12_cut_40 : decode cX12_cut 40 = .ok (.iastore, 1) := by decide +kernel
theorem dX12_cut_41 : decode cX12_cut 41 = .ok (.aload_n 0, 1) := by decide +kernel
theorem dX12_cut_42 : decode cX12_cut 42 = .ok (.getfield 26, 3) := by decide +kernel
theorem dX12_cut_45 : decode cX12_cut 45 = .ok (.iload_n 1, 1) := by decide +kernel
theorem dX12_cut_46 : decode cX12_cut 46 = .ok (.dup2, 1) := by decide +kernel
theorem dX12_cut_47 : decode cX12_cut 47 = .ok (.iaload, 1) := by decide +kernel
theorem dX12_cut_48 : decode cX12_cut 48 = .ok (.aload_n 0, 1) := by decide +kernel
theorem dX12_cut_49 : decode cX12_cut 49 = .ok (.getfield 20, 3) := by decide +kernel
theorem dX12_cut_5 : decode cX12_cut 5 = .ok (.aload_n 0, 1) := by decide +kernel
theorem dX12_cut_52 : decode cX12_cut 52 = .ok (.iload_n 1, 1) := by decide +kernel
theorem dX12_cut_53 : decode cX12_cut 53 = .ok (.iaload, 1) := by decide +kernel
theorem dX12_cut_54 : decode cX12_cut 54 = .ok (.irem, 1) := by decide +kernel
theorem dX12_cut_55 : decode cX12_cut 55 = .ok (.iastore, 1) := by decide +kernel
theorem dX12_cut_56 : decode cX12_cut 56 = .ok (.aload_n 0, 1) := by decide +kernel
theorem dX12_cut_57 : decode cX12_cut 57 = .ok (.getfield 20, 3) := by decide +kernel
theorem dX12_cut_6 : decode cX12_cut 6 = .ok (.iload_n 1, 1) := by decide +kernel
theorem dX12_cut_60 : decode cX12_cut 60 = .ok (.iload_n 1, 1) := by decide +kernel
theorem dX12_cut_61 : decode cX12_cut 61 = .ok (.iaload, 1) := by decide +kernel
theorem dX12_cut_62 : decode cX12_cut 62 = .ok (.ireturn, 1) := by decide +kernel
theorem dX12_cut_7 : decode cX12_cut 7 = .ok (.invokevirtual 168, 3) := by decide +kernel
theorem dX12_dies_0 : decode cX12_dies 0 = .ok (.aload_n 0, 1) := by decide +kernel
theorem dX12_dies_1 : decode cX12_dies 1 = .ok (.iconst 0, 1) := by decide +kernel
theorem dX12_dies_101 : decode cX12_dies 101 = .ok (.bipush (-3), 2) := by decide +kernel
theorem dX12_dies_103 : decode cX12_dies 103 = .ok (.ireturn, 1) := by decide +kernel
theorem dX12_dies_104 : decode cX12_dies 104 = .ok (.iload_n 2, 1) := by decide +kernel
theorem dX12_dies_105 : decode cX12_dies 105 = .ok (.iload_n 3, 1) := by decide +kernel
theorem dX12_dies_106 : decode cX12_dies 106 = .ok (.isub, 1) := by decide +kernel
theorem dX12_dies_107 : decode cX12_dies 107 = .ok (.istore 4, 2) := by decide +kernel
theorem dX12_dies_109 : decode cX12_dies 109 = .ok (.iload_n 3, 1) := by decide +kernel
theorem dX12_dies_110 : decode cX12_dies 110 = .ok (.istore 5, 2) := by decide +kernel
theorem dX12_dies_112 : decode cX12_dies 112 = .ok (.iload 5, 2) := by decide +kernel
theorem dX12_dies_114 : decode cX12_dies 114 = .ok (.aload_n 0, 1) := by decide +kernel
theorem dX12_dies_115 : decode cX12_dies 115 = .ok (.getfield 283, 3) := by decide +kernel
theorem dX12_dies_118 : decode cX12_dies 118 = .ok (.if_icmp .le 33, 3) := by decide +kernel
theorem dX12_dies_12 : decode cX12_dies 12 = .ok (.iconst 0, 1) := by decide +kernel
theorem dX12_dies_121 : decode cX12_dies 121 = .ok (.aload_n 0, 1) := by decide +kernel
theorem dX12_dies_122 : decode cX12_dies 122 = .ok (.getfield 106, 3) := by decide +kernel
theorem dX12_dies_125 : decode cX12_dies 125 = .ok (.iload 5, 2) := by decide +kernel
theorem dX12_dies_127 : decode cX12_dies 127 = .ok (.iconst 1, 1) := by decide +kernel
theorem dX12_dies_128 : decode cX12_dies 128 = .ok (.isub, 1) := by decide +kernel
theorem dX12_dies_129 : decode cX12_dies 129 = .ok (.iaload, 1) := by decide +kernel
theorem dX12_dies_13 : decode cX12_dies 13 = .ok (.istore_n 1, 1) := by decide +kernel
theorem dX12_dies_130 : decode cX12_dies 130 = .ok (.aload_n 0, 1) := by decide +kernel
theorem dX12_dies_131 : decode cX12_dies 131 = .ok (.getfield 106, 3) := by decide +kernel
theorem dX12_dies_134 : decode cX12_dies 134 = .ok (.iload 5, 2) := by decide +kernel
theorem dX12_dies_136 : decode cX12_dies 136 = .ok (.iconst 1, 1) := by decide +kernel
theorem dX12_dies_137 : decode cX12_dies 137 = .ok (.isub, 1) := by decide +kernel
theorem dX12_dies_138 : decode cX12_dies 138 = .ok (.iload 4, 2) := by decide +kernel
theorem dX12_dies_14 : decode cX12_dies 14 = .ok (.aload_n 0, 1) := by decide +kernel
theorem dX12_dies_140 : decode cX12_dies 140 = .ok (.iadd, 1) := by decide +kernel
theorem dX12_dies_141 : decode cX12_dies 141 = .ok (.iaload, 1) := by decide +kernel
theorem dX12_dies_142 : decode cX12_dies 142 = .ok (.if_icmp .ne 9, 3) := by decide +kernel
theorem dX12_dies_145 : decode cX12_dies 145 = .ok (.iinc 5 (-1), 3) := by decide +kernel
theorem dX12_dies_148 : decode cX12_dies 148 = .ok (.goto (-36), 3) := by decide +kernel
theorem dX12_dies_15 : decode cX12_dies 15 = .ok (.getfield 283, 3) := by decide +kernel
theorem dX12_dies_151 : decode cX12_dies 151 = .ok (.aload_n 0, 1) := by decide +kernel
theorem dX12_dies_152 : decode cX12_dies 152 = .ok (.getfield 81, 3) := by decide +kernel
theorem dX12_dies_155 : decode cX12_dies 155 = .ok (.iconst 0, 1) := by decide +kernel
theorem dX12_dies_156 : decode cX12_dies 156 = .ok (.iload 5, 2) := by decide +kernel
theorem dX12_dies_158 : decode cX12_dies 158 = .ok (.iastore, 1) := by decide +kernel
theorem dX12_dies_159 : decode cX12_dies 159 = .ok (.aload_n 0, 1) := by decide +kernel
theorem dX12_dies_160 : decode cX12_dies 160 = .ok (.getfield 81, 3) := by decide +kernel
theorem dX12_dies_163 : decode cX12_dies 163 = .ok (.iconst 1, 1) := by decide +kernel
theorem dX12_dies_164 : decode cX12_dies 164 = .ok (.iload 4, 2) := by decide +kernel
theorem dX12_dies_166 : decode cX12_dies 166 = .ok (.iastore, 1) := by decide +kernel
theorem dX12_dies_167 : decode cX12_dies 167 = .ok (.aload_n 0, 1) := by decide +kernel
theorem dX12_dies_168 : decode cX12_dies 168 = .ok (.iconst 2, 1) := by decide +kernel
theorem dX12_dies_169 : decode cX12_dies 169 = .ok (.putfield 188, 3) := by decide +kernel
theorem dX12_dies_172 : decode cX12_dies 172 = .ok (.bipush (-2), 2) := by decide +kernel
theorem dX12_dies_174 : decode cX12_dies 174 = .ok (.ireturn, 1) := by decide +kernel
theorem dX12_dies_18 : decode cX12_dies 18 = .ok (.istore_n 2, 1) := by decide +kernel
theorem dX12_dies_19 : decode cX12_dies 19 = .ok (.iload_n 2, 1) := by decide +kernel
theorem dX12_dies_2 : decode cX12_dies 2 = .ok (.putfield 118, 3) := by decide +kernel
theorem dX12_dies_20 : decode cX12_dies 20 = .ok (.sipush 4000, 3) := by decide +kernel
theorem dX12_dies_23 : decode cX12_dies 23 = .ok (.if_icmp .gt 39, 3) := by decide +kernel
theorem dX12_dies_26 : decode cX12_dies 26 = .ok (.aload_n 0, 1) := by decide +kernel
theorem dX12_dies_27 : decode cX12_dies 27 = .ok (.getfield 106, 3) := by decide +kernel
theorem dX12_dies_30 : decode cX12_dies 30 = .ok (.iload_n 2, 1) := by decide +kernel
theorem dX12_dies_31 : decode cX12_dies 31 = .ok (.iaload, 1) := by decide +kernel
theorem dX12_dies_32 : decode cX12_dies 32 = .ok (.ifCond .ne 9, 3) := by decide +kernel
theorem dX12_dies_35 : decode cX12_dies 35 = .ok (.iload_n 1, 1) := by decide +kernel
theorem dX12_dies_36 : decode cX12_dies 36 = .ok (.iconst 1, 1) := by decide +kernel
theorem dX12_dies_37 : decode cX12_dies 37 = .ok (.iadd, 1) := by decide +kernel
theorem dX12_dies_38 : decode cX12_dies 38 = .ok (.goto 4, 3) := by decide +kernel
theorem dX12_dies_41 : decode cX12_dies 41 = .ok (.iconst 0, 1) := by decide +kernel
theorem dX12_dies_42 : decode cX12_dies 42 = .ok (.istore_n 1, 1) := by decide +kernel
theorem dX12_dies_43 : decode cX12_dies 43 = .ok (.iload_n 1, 1) := by decide +kernel
theorem dX12_dies_44 : decode cX12_dies 44 = .ok (.bipush 20, 2) := by decide +kernel
theorem dX12_dies_46 : decode cX12_dies 46 = .ok (.if_icmp .ne 10, 3) := by decide +kernel
theorem dX12_dies_49 : decode cX12_dies 49 = .ok (.iload_n 2, 1) := by decide +kernel
theorem dX12_dies_5 : decode cX12_dies 5 = .ok (.aload_n 0, 1) := by decide +kernel
theorem dX12_dies_50 : decode cX12_dies 50 = .ok (.bipush 20, 2) := by decide +kernel
theorem dX12_dies_52 : decode cX12_dies 52 = .ok (.isub, 1) := by decide +kernel
theorem dX12_dies_53 : decode cX12_dies 53 = .ok (.iconst 1, 1) := by decide +kernel
theorem dX12_dies_54 : decode cX12_dies 54 = .ok (.iadd, 1) := by decide +kernel
theorem dX12_dies_55 : decode cX12_dies 55 = .ok (.ireturn, 1) := by decide +kernel
theorem dX12_dies_56 : decode cX12_dies 56 = .ok (.iinc 2 1, 3) := by decide +kernel
theorem dX12_dies_59 : decode cX12_dies 59 = .ok (.goto (-40), 3) := by decide +kernel
theorem dX12_dies_6 : decode cX12_dies 6 = .ok (.sipush 4000, 3) := by decide +kernel
theorem dX12_dies_62 : decode cX12_dies 62 = .ok (.sipush 3981, 3) := by decide +kernel
theorem dX12_dies_65 : decode cX12_dies 65 = .ok (.istore_n 2, 1) := by decide +kernel
theorem dX12_dies_66 : decode cX12_dies 66 = .ok (.iload_n 2, 1) := by decide +kernel
theorem dX12_dies_67 : decode cX12_dies 67 = .ok (.iconst 1, 1) := by decide +kernel
theorem dX12_dies_68 : decode cX12_dies 68 = .ok (.isub, 1) := by decide +kernel
theorem dX12_dies_69 : decode cX12_dies 69 = .ok (.istore_n 3, 1) := by decide +kernel
theorem dX12_dies_70 : decode cX12_dies 70 = .ok (.iload_n 3, 1) := by decide +kernel
theorem dX12_dies_71 : decode cX12_dies 71 = .ok (.aload_n 0, 1) := by decide +kernel
theorem dX12_dies_72 : decode cX12_dies 72 = .ok (.getfield 283, 3) := by decide +kernel
theorem dX12_dies_75 : decode cX12_dies 75 = .ok (.if_icmp .lt 18, 3) := by decide +kernel
theorem dX12_dies_78 : decode cX12_dies 78 = .ok (.aload_n 0, 1) := by decide +kernel
theorem dX12_dies_79 : decode cX12_dies 79 = .ok (.iload_n 3, 1) := by decide +kernel
theorem dX12_dies_80 : decode cX12_dies 80 = .ok (.iload_n 2, 1) := by decide +kernel
theorem dX12_dies_81 : decode cX12_dies 81 = .ok (.invokevirtual 290, 3) := by decide +kernel
theorem dX12_dies_84 : decode cX12_dies 84 = .ok (.ifCond .ne 9, 3) := by decide +kernel
theorem dX12_dies_87 : decode cX12_dies 87 = .ok (.iinc 3 (-1), 3) := by decide +kernel
theorem dX12_dies_9 : decode cX12_dies 9 = .ok (.invokevirtual 286, 3) := by decide +kernel
theorem dX12_dies_90 : decode cX12_dies 90 = .ok (.goto (-20), 3) := by decide +kernel
theorem dX12_dies_93 : decode cX12_dies 93 = .ok (.iload_n 3, 1) := by decide +kernel
theorem dX12_dies_94 : decode cX12_dies 94 = .ok (.aload_n 0, 1) := by decide +kernel
theorem dX12_dies_95 : decode cX12_dies 95 = .ok (.getfield 283, 3) := by decide +kernel
theorem dX12_dies_98 : decode cX12_dies 98 = .ok (.if_icmp .ge 6, 3) := by decide +kernel
theorem dX12_findOuts_0 : decode cX12_findOuts 0 = .ok (.iconst 0, 1) := by decide +kernel
theorem dX12_findOuts_1 : decode cX12_findOuts 1 = .ok (.istore_n 2, 1) := by decide +kernel
theorem dX12_findOuts_10 : decode cX12_findOuts 10 = .ok (.aload_n 0, 1) := by decide +kernel
theorem dX12_findOuts_100 : decode cX12_findOuts 100 = .ok (.iload_n 3, 1) := by decide +kernel
theorem dX12_findOuts_101 : decode cX12_findOuts 101 = .ok (.aload_n 0, 1) := by decide +kernel
theorem dX12_findOuts_102 : decode cX12_findOuts 102 = .ok (.getfield 280, 3) := by decide +kernel
theorem dX12_findOuts_105 : decode cX12_findOuts 105 = .ok (.aload_n 0, 1) := by decide +kernel
theorem dX12_findOuts_106 : decode cX12_findOuts 106 = .ok (.getfield 106, 3) := by decide +kernel
theorem dX12_findOuts_109 : decode cX12_findOuts 109 = .ok (.iload_n 2, 1) := by decide +kernel
theorem dX12_findOuts_11 : decode cX12_findOuts 11 = .ok (.getfield 283, 3) := by decide +kernel
theorem dX12_findOuts_110 : decode cX12_findOuts 110 = .ok (.aload_n 0, 1) := by decide +kernel
theorem dX12_findOuts_111 : decode cX12_findOuts 111 = .ok (.getfield 57, 3) := by decide +kernel
theorem dX12_findOuts_114 : decode cX12_findOuts 114 = .ok (.isub, 1) := by decide +kernel
theorem dX12_findOuts_115 : decode cX12_findOuts 115 = .ok (.iaload, 1) := by decide +kernel
theorem dX12_findOuts_116 : decode cX12_findOuts 116 = .ok (.imul, 1) := by decide +kernel
theorem dX12_findOuts_117 : decode cX12_findOuts 117 = .ok (.bipush 100, 2) := by decide +kernel
theorem dX12_findOuts_119 : decode cX12_findOuts 119 = .ok (.idiv, 1) := by decide +kernel
theorem dX12_findOuts_120 : decode cX12_findOuts 120 = .ok (.iadd, 1) := by decide +kernel
theorem dX12_findOuts_121 : decode cX12_findOuts 121 = .ok (.istore_n 3, 1) := by decide +kernel
theorem dX12_findOuts_122 : decode cX12_findOuts 122 = .ok (.aload_n 0, 1) := by decide +kernel
theorem dX12_findOuts_123 : decode cX12_findOuts 123 = .ok (.getfield 106, 3) := by decide +kernel
theorem dX12_findOuts_126 : decode cX12_findOuts 126 = .ok (.iload_n 2, 1) := by decide +kernel
theorem dX12_findOuts_127 : decode cX12_findOuts 127 = .ok (.iload_n 3, 1) := by decide +kernel
theorem dX12_findOuts_128 : decode cX12_findOuts 128 = .ok (.sipush 5000, 3) := by decide +kernel
theorem dX12_findOuts_131 : decode cX12_findOuts 131 = .ok (.invokestatic 271, 3) := by decide +kernel
theorem dX12_findOuts_134 : decode cX12_findOuts 134 = .ok (.iastore, 1) := by decide +kernel
theorem dX12_findOuts_135 : decode cX12_findOuts 135 = .ok (.iinc 2 1, 3) := by decide +kernel
theorem dX12_findOuts_138 : decode cX12_findOuts 138 = .ok (.goto (-136), 3) := by decide +kernel
theorem dX12_findOuts_14 : decode cX12_findOuts 14 = .ok (.if_icmp .ge 48, 3) := by decide +kernel
theorem dX12_findOuts_141 : decode cX12_findOuts 141 = .ok (.return_, 1) := by decide +kernel
theorem dX12_findOuts_17 : decode cX12_findOuts 17 = .ok (.aload_n 0, 1) := by decide +kernel
theorem dX12_findOuts_18 : decode cX12_findOuts 18 = .ok (.iload_n 2, 1) := by decide +kernel
theorem dX12_findOuts_19 : decode cX12_findOuts 19 = .ok (.i2l, 1) := by decide +kernel
theorem dX12_findOuts_2 : decode cX12_findOuts 2 = .ok (.iload_n 2, 1) := by decide +kernel
theorem dX12_findOuts_20 : decode cX12_findOuts 20 = .ok (.invokevirtual 229, 3) := by decide +kernel
theorem dX12_findOuts_23 : decode cX12_findOuts 23 = .ok (.istore 4, 2) := by decide +kernel
theorem dX12_findOuts_25 : decode cX12_findOuts 25 = .ok (.iconst 1, 1) := by decide +kernel
theorem dX12_findOuts_26 : decode cX12_findOuts 26 = .ok (.istore 5, 2) := by decide +kernel
theorem dX12_findOuts_28 : decode cX12_findOuts 28 = .ok (.iload 5, 2) := by decide +kernel
theorem dX12_findOuts_3 : decode cX12_findOuts 3 = .ok (.iload_n 1, 1) := by decide +kernel
theorem dX12_findOuts_30 : decode cX12_findOuts 30 = .ok (.bipush 10, 2) := by decide +kernel
theorem dX12_findOuts_32 : decode cX12_findOuts 32 = .ok (.if_icmp .ge 30, 3) := by decide +kernel
theorem dX12_findOuts_35 : decode cX12_findOuts 35 = .ok (.iload 4, 2) := by decide +kernel
theorem dX12_findOuts_37 : decode cX12_findOuts 37 = .ok (.iload 5, 2) := by decide +kernel
theorem dX12_findOuts_39 : decode cX12_findOuts 39 = .ok (.ishr, 1) := by decide +kernel
theorem dX12_findOuts_4 : decode cX12_findOuts 4 = .ok (.if_icmp .gt 137, 3) := by decide +kernel
theorem dX12_findOuts_40 : decode cX12_findOuts 40 = .ok (.iconst 1, 1) := by decide +kernel
theorem dX12_findOuts_41 : decode cX12_findOuts 41 = .ok (.iand, 1) := by decide +kernel
theorem dX12_findOuts_42 : decode cX12_findOuts 42 = .ok (.iconst 1, 1) := by decide +kernel
theorem dX12_findOuts_43 : decode cX12_findOuts 43 = .ok (.if_icmp .ne 13, 3) := by decide +kernel
theorem dX12_findOuts_46 : decode cX12_findOuts 46 = .ok (.iload_n 3, 1) := by decide +kernel
theorem dX12_findOuts_47 : decode cX12_findOuts 47 = .ok (.aload_n 0, 1) := by decide +kernel
theorem dX12_findOuts_48 : decode cX12_findOuts 48 = .ok (.getfield 50, 3) := by decide +kernel
theorem dX12_findOuts_51 : decode cX12_findOuts 51 = .ok (.iload 5, 2) := by decide +kernel
theorem dX12_findOuts_53 : decode cX12_findOuts 53 = .ok (.iaload, 1) := by decide +kernel
theorem dX12_findOuts_54 : decode cX12_findOuts 54 = .ok (.iadd, 1) := by decide +kernel
theorem dX12_findOuts_55 : decode cX12_findOuts 55 = .ok (.istore_n 3, 1) := by decide +kernel
theorem dX12_findOuts_56 : decode cX12_findOuts 56 = .ok (.iinc 5 1, 3) := by decide +kernel
theorem dX12_findOuts_59 : decode cX12_findOuts 59 = .ok (.goto (-31), 3) := by decide +kernel
theorem dX12_findOuts_62 : decode cX12_findOuts 62 = .ok (.iload_n 2, 1) := by decide +kernel
theorem dX12_findOuts_63 : decode cX12_findOuts 63 = .ok (.aload_n 0, 1) := by decide +kernel
theorem dX12_findOuts_64 : decode cX12_findOuts 64 = .ok (.getfield 53, 3) := by decide +kernel
theorem dX12_findOuts_67 : decode cX12_findOuts 67 = .ok (.if_icmp .lt 25, 3) := by decide +kernel
theorem dX12_findOuts_7 : decode cX12_findOuts 7 = .ok (.iconst 0, 1) := by decide +kernel
theorem dX12_findOuts_70 : decode cX12_findOuts 70 = .ok (.iload_n 3, 1) := by decide +kernel
theorem dX12_findOuts_71 : decode cX12_findOuts 71 = .ok (.aload_n 0, 1) := by decide +kernel
theorem dX12_findOuts_72 : decode cX12_findOuts 72 = .ok (.getfield 277, 3) := by decide +kernel
theorem dX12_findOuts_75 : decode cX12_findOuts 75 = .ok (.aload_n 0, 1) := by decide +kernel
theorem dX12_findOuts_76 : decode cX12_findOuts 76 = .ok (.getfield 106, 3) := by decide +kernel
theorem dX12_findOuts_79 : decode cX12_findOuts 79 = .ok (.iload_n 2, 1) := by decide +kernel
theorem dX12_findOuts_8 : decode cX12_findOuts 8 = .ok (.istore_n 3, 1) := by decide +kernel
theorem dX12_findOuts_80 : decode cX12_findOuts 80 = .ok (.aload_n 0, 1) := by decide +kernel
theorem dX12_findOuts_81 : decode cX12_findOuts 81 = .ok (.getfield 53, 3) := by decide +kernel
theorem dX12_findOuts_84 : decode cX12_findOuts 84 = .ok (.isub, 1) := by decide +kernel
theorem dX12_findOuts_85 : decode cX12_findOuts 85 = .ok (.iaload, 1) := by decide +kernel
theorem dX12_findOuts_86 : decode cX12_findOuts 86 = .ok (.imul, 1) := by decide +kernel
theorem dX12_findOuts_87 : decode cX12_findOuts 87 = .ok (.bipush 100, 2) := by decide +kernel
theorem dX12_findOuts_89 : decode cX12_findOuts 89 = .ok (.idiv, 1) := by decide +kernel
theorem dX12_findOuts_9 : decode cX12_findOuts 9 = .ok (.iload_n 2, 1) := by decide +kernel
theorem dX12_findOuts_90 : decode cX12_findOuts 90 = .ok (.iadd, 1) := by decide +kernel
theorem dX12_findOuts_91 : decode cX12_findOuts 91 = .ok (.istore_n 3, 1) := by decide +kernel
theorem dX12_findOuts_92 : decode cX12_findOuts 92 = .ok (.iload_n 2, 1) := by decide +kernel
theorem dX12_findOuts_93 : decode cX12_findOuts 93 = .ok (.aload_n 0, 1) := by decide +kernel
theorem dX12_findOuts_94 : decode cX12_findOuts 94 = .ok (.getfield 57, 3) := by decide +kernel
theorem dX12_findOuts_97 : decode cX12_findOuts 97 = .ok (.if_icmp .lt 25, 3) := by decide +kernel
theorem dX12_heads_0 : decode cX12_heads 0 = .ok (.aload_n 0, 1) := by decide +kernel
theorem dX12_heads_1 : decode cX12_heads 1 = .ok (.iconst 0, 1) := by decide +kernel
theorem dX12_heads_12 : decode cX12_heads 12 = .ok (.ifCond .eq 34, 3) := by decide +kernel
theorem dX12_heads_15 : decode cX12_heads 15 = .ok (.iload_n 2, 1) := by decide +kernel
theorem dX12_heads_16 : decode cX12_heads 16 = .ok (.iconst 0, 1) := by decide +kernel
theorem dX12_heads_17 : decode cX12_heads 17 = .ok (.bipush 100, 2) := by decide +kernel
theorem dX12_heads_19 : decode cX12_heads 19 = .ok (.invokestatic 124, 3) := by decide +kernel
theorem dX12_heads_2 : decode cX12_heads 2 = .ok (.putfield 118, 3) := by decide +kernel
theorem dX12_heads_22 : decode cX12_heads 22 = .ok (.ifCond .eq 24, 3) := by decide +kernel
theorem dX12_heads_25 : decode cX12_heads 25 = .ok (.iload_n 3, 1) := by decide +kernel
theorem dX12_heads_26 : decode cX12_heads 26 = .ok (.iconst 1, 1) := by decide +kernel
theorem dX12_heads_27 : decode cX12_heads 27 = .ok (.bipush 20, 2) := by decide +kernel
theorem dX12_heads_29 : decode cX12_heads 29 = .ok (.invokestatic 124, 3) := by decide +kernel
theorem dX12_heads_32 : decode cX12_heads 32 = .ok (.ifCond .eq 14, 3) := by decide +kernel
theorem dX12_heads_35 : decode cX12_heads 35 = .ok (.iload 4, 2) := by decide +kernel
theorem dX12_heads_37 : decode cX12_heads 37 = .ok (.iconst 0, 1) := by decide +kernel
theorem dX12_heads_38 : decode cX12_heads 38 = .ok (.bipush 100, 2) := by decide +kernel
theorem dX12_heads_40 : decode cX12_heads 40 = .ok (.invokestatic 124, 3) := by decide +kernel
theorem dX12_heads_43 : decode cX12_heads 43 = .ok (.ifCond .ne 5, 3) := by decide +kernel
theorem dX12_heads_46 : decode cX12_heads 46 = .ok (.iconst 0, 1) := by decide +kernel
theorem dX12_heads_47 : decode cX12_heads 47 = .ok (.ireturn, 1) := by decide +kernel
theorem dX12_heads_48 : decode cX12_heads 48 = .ok (.aload_n 0, 1) := by decide +kernel
theorem dX12_heads_49 : decode cX12_heads 49 = .ok (.iload_n 1, 1) := by decide +kernel
theorem dX12_heads_5 : decode cX12_heads 5 = .ok (.iload_n 1, 1) := by decide +kernel
theorem dX12_heads_50 : decode cX12_heads 50 = .ok (.putfield 53, 3) := by decide +kernel
theorem dX12_heads_53 : decode cX12_heads 53 = .ok (.aload_n 0, 1) := by decide +kernel
theorem dX12_heads_54 : decode cX12_heads 54 = .ok (.iload_n 2, 1) := by decide +kernel
theorem dX12_heads_55 : decode cX12_heads 55 = .ok (.putfield 277, 3) := by decide +kernel
theorem dX12_heads_58 : decode cX12_heads 58 = .ok (.aload_n 0, 1) := by decide +kernel
theorem dX12_heads_59 : decode cX12_heads 59 = .ok (.iload_n 3, 1) := by decide +kernel
theorem dX12_heads_6 : decode cX12_heads 6 = .ok (.iconst 1, 1) := by decide +kernel
theorem dX12_heads_60 : decode cX12_heads 60 = .ok (.putfield 57, 3) := by decide +kernel
theorem dX12_heads_63 : decode cX12_heads 63 = .ok (.aload_n 0, 1) := by decide +kernel
theorem dX12_heads_64 : decode cX12_heads 64 = .ok (.iload 4, 2) := by decide +kernel
theorem dX12_heads_66 : decode cX12_heads 66 = .ok (.putfield 280, 3) := by decide +kernel
theorem dX12_heads_69 : decode cX12_heads 69 = .ok (.iconst 1, 1) := by decide +kernel
theorem dX12_heads_7 : decode cX12_heads 7 = .ok (.bipush 20, 2) := by decide +kernel
theorem dX12_heads_70 : decode cX12_heads 70 = .ok (.ireturn, 1) := by decide +kernel
theorem dX12_heads_9 : decode cX12_heads 9 = .ok (.invokestatic 124, 3) := by decide +kernel
theorem dX12_make_0 : decode cX12_make 0 = .ok (.aload_n 0, 1) := by decide +kernel
theorem dX12_make_1 : decode cX12_make 1 = .ok (.iconst 0, 1) := by decide +kernel
theorem dX12_make_10 : decode cX12_make 10 = .ok (.iconst 0, 1) := by decide +kernel
theorem dX12_make_11 : decode cX12_make 11 = .ok (.istore_n 2, 1) := by decide +kernel
theorem dX12_make_12 : decode cX12_make 12 = .ok (.iload_n 2, 1) := by decide +kernel
theorem dX12_make_13 : decode cX12_make 13 = .ok (.aload_n 0, 1) := by decide +kernel
theorem dX12_make_14 : decode cX12_make 14 = .ok (.getfield 121, 3) := by decide +kernel
theorem dX12_make_17 : decode cX12_make 17 = .ok (.if_icmp .ge 47, 3) := by decide +kernel
theorem dX12_make_2 : decode cX12_make 2 = .ok (.putfield 118, 3) := by decide +kernel
theorem dX12_make_20 : decode cX12_make 20 = .ok (.iload_n 1, 1) := by decide +kernel
theorem dX12_make_21 : decode cX12_make 21 = .ok (.iconst (-1), 1) := by decide +kernel
theorem dX12_make_22 : decode cX12_make 22 = .ok (.if_icmp .eq 42, 3) := by decide +kernel
theorem dX12_make_25 : decode cX12_make 25 = .ok (.aload_n 0, 1) := by decide +kernel
theorem dX12_make_26 : decode cX12_make 26 = .ok (.getfield 20, 3) := by decide +kernel
theorem dX12_make_29 : decode cX12_make 29 = .ok (.iload_n 2, 1) := by decide +kernel
theorem dX12_make_30 : decode cX12_make 30 = .ok (.dup2, 1) := by decide +kernel
theorem dX12_make_31 : decode cX12_make 31 = .ok (.iaload, 1) := by decide +kernel
theorem dX12_make_32 : decode cX12_make 32 = .ok (.aload_n 0, 1) := by decide +kernel
theorem dX12_make_33 : decode cX12_make 33 = .ok (.getfield 81, 3) := by decide +kernel
theorem dX12_make_36 : decode cX12_make 36 = .ok (.iconst 2, 1) := by decide +kernel
theorem dX12_make_37 : decode cX12_make 37 = .ok (.iload_n 2, 1) := by decide +kernel
theorem dX12_make_38 : decode cX12_make 38 = .ok (.imul, 1) := by decide +kernel
theorem dX12_make_39 : decode cX12_make 39 = .ok (.iaload, 1) := by decide +kernel
theorem dX12_make_40 : decode cX12_make 40 = .ok (.isub, 1) := by decide +kernel
theorem dX12_make_41 : decode cX12_make 41 = .ok (.iastore, 1) := by decide +kernel
theorem dX12_make_42 : decode cX12_make 42 = .ok (.aload_n 0, 1) := by decide +kernel
theorem dX12_make_43 : decode cX12_make 43 = .ok (.getfield 26, 3) := by decide +kernel
theorem dX12_make_46 : decode cX12_make 46 = .ok (.iload_n 2, 1) := by decide +kernel
theorem dX12_make_47 : decode cX12_make 47 = .ok (.aload_n 0, 1) := by decide +kernel
theorem dX12_make_48 : decode cX12_make 48 = .ok (.getfield 81, 3) := by decide +kernel
theorem dX12_make_5 : decode cX12_make 5 = .ok (.aload_n 0, 1) := by decide +kernel
theorem dX12_make_51 : decode cX12_make 51 = .ok (.iconst 2, 1) := by decide +kernel
theorem dX12_make_52 : decode cX12_make 52 = .ok (.iload_n 2, 1) := by decide +kernel
theorem dX12_make_53 : decode cX12_make 53 = .ok (.imul, 1) := by decide +kernel
theorem dX12_make_54 : decode cX12_make 54 = .ok (.iconst 1, 1) := by decide +kernel
theorem dX12_make_55 : decode cX12_make 55 = .ok (.iadd, 1) := by decide +kernel
theorem dX12_make_56 : decode cX12_make 56 = .ok (.iaload, 1) := by decide +kernel
theorem dX12_make_57 : decode cX12_make 57 = .ok (.iastore, 1) := by decide +kernel
theorem dX12_make_58 : decode cX12_make 58 = .ok (.iinc 2 1, 3) := by decide +kernel
theorem dX12_make_6 : decode cX12_make 6 = .ok (.invokevirtual 274, 3) := by decide +kernel
theorem dX12_make_61 : decode cX12_make 61 = .ok (.goto (-49), 3) := by decide +kernel
theorem dX12_make_64 : decode cX12_make 64 = .ok (.iload_n 1, 1) := by decide +kernel
theorem dX12_make_65 : decode cX12_make 65 = .ok (.ireturn, 1) := by decide +kernel
theorem dX12_make_9 : decode cX12_make 9 = .ok (.istore_n 1, 1) := by decide +kernel
theorem dX12_out_0 : decode cX12_out 0 = .ok (.aload_n 0, 1) := by decide +kernel
theorem dX12_out_1 : decode cX12_out 1 = .ok (.iconst 0, 1) := by decide +kernel
theorem dX12_out_10 : decode cX12_out 10 = .ok (.invokestatic 124, 3) := by decide +kernel
theorem dX12_out_13 : decode cX12_out 13 = .ok (.ifCond .ne 5, 3) := by decide +kernel
theorem dX12_out_16 : decode cX12_out 16 = .ok (.iconst (-1), 1) := by decide +kernel
theorem dX12_out_17 : decode cX12_out 17 = .ok (.ireturn, 1) := by decide +kernel
theorem dX12_out_18 : decode cX12_out 18 = .ok (.aload_n 0, 1) := by decide +kernel
theorem dX12_out_19 : decode cX12_out 19 = .ok (.iload_n 1, 1) := by decide +kernel
theorem dX12_out_2 : decode cX12_out 2 = .ok (.putfield 118, 3) := by decide +kernel
theorem dX12_out_20 : decode cX12_out 20 = .ok (.invokevirtual 286, 3) := by decide +kernel
theorem dX12_out_23 : decode cX12_out 23 = .ok (.aload_n 0, 1) := by decide +kernel
theorem dX12_out_24 : decode cX12_out 24 = .ok (.getfield 106, 3) := by decide +kernel
theorem dX12_out_27 : decode cX12_out 27 = .ok (.iload_n 1, 1) := by decide +kernel
theorem dX12_out_28 : decode cX12_out 28 = .ok (.iaload, 1) := by decide +kernel
theorem dX12_out_29 : decode cX12_out 29 = .ok (.ireturn, 1) := by decide +kernel
theorem dX12_out_5 : decode cX12_out 5 = .ok (.iload_n 1, 1) := by decide +kernel
theorem dX12_out_6 : decode cX12_out 6 = .ok (.iconst 0, 1) := by decide +kernel
theorem dX12_out_7 : decode cX12_out 7 = .ok (.sipush 4000, 3) := by decide +kernel
theorem dX12_stop_0 : decode cX12_stop 0 = .ok (.aload_n 0, 1) := by decide +kernel
theorem dX12_stop_1 : decode cX12_stop 1 = .ok (.iconst 0, 1) := by decide +kernel
theorem dX12_stop_10 : decode cX12_stop 10 = .ok (.invokestatic 124, 3) := by decide +kernel
theorem dX12_stop_13 : decode cX12_stop 13 = .ok (.ifCond .ne 5, 3) := by decide +kernel
theorem dX12_stop_16 : decode cX12_stop 16 = .ok (.iconst (-1), 1) := by decide +kernel
theorem dX12_stop_17 : decode cX12_stop 17 = .ok (.ireturn, 1) := by decide +kernel
theorem dX12_stop_18 : decode cX12_stop 18 = .ok (.aload_n 0, 1) := by decide +kernel
theorem dX12_stop_19 : decode cX12_stop 19 = .ok (.getfield 283, 3) := by decide +kernel
theorem dX12_stop_2 : decode cX12_stop 2 = .ok (.putfield 118, 3) := by decide +kernel
theorem dX12_stop_22 : decode cX12_stop 22 = .ok (.istore_n 2, 1) := by decide +kernel
theorem dX12_stop_23 : decode cX12_stop 23 = .ok (.aload_n 0, 1) := by decide +kernel
theorem dX12_stop_24 : decode cX12_stop 24 = .ok (.iload_n 1, 1) := by decide +kernel
theorem dX12_stop_25 : decode cX12_stop 25 = .ok (.putfield 283, 3) := by decide +kernel
theorem dX12_stop_28 : decode cX12_stop 28 = .ok (.iload_n 2, 1) := by decide +kernel
theorem dX12_stop_29 : decode cX12_stop 29 = .ok (.ireturn, 1) := by decide +kernel
theorem dX12_stop_5 : decode cX12_stop 5 = .ok (.iload_n 1, 1) := by decide +kernel
theorem dX12_stop_6 : decode cX12_stop 6 = .ok (.iconst 0, 1) := by decide +kernel
theorem dX12_stop_7 : decode cX12_stop 7 = .ok (.sipush 2000, 3) := by decide +kernel
theorem dX12_weight_0 : decode cX12_weight 0 = .ok (.aload_n 0, 1) := by decide +kernel
theorem dX12_weight_1 : decode cX12_weight 1 = .ok (.iconst 0, 1) := by decide +kernel
theorem dX12_weight_12 : decode cX12_weight 12 = .ok (.ifCond .eq 14, 3) := by decide +kernel
theorem dX12_weight_15 : decode cX12_weight 15 = .ok (.iload_n 2, 1) := by decide +kernel
theorem dX12_weight_16 : decode cX12_weight 16 = .ok (.iconst 0, 1) := by decide +kernel
theorem dX12_weight_17 : decode cX12_weight 17 = .ok (.sipush 200, 3) := by decide +kernel
theorem dX12_weight_2 : decode cX12_weight 2 = .ok (.putfield 118, 3) := by decide +kernel
theorem dX12_weight_20 : decode cX12_weight 20 = .ok (.invokestatic 124, 3) := by decide +kernel
theorem dX12_weight_23 : decode cX12_weight 23 = .ok (.ifCond .ne 5, 3) := by decide +kernel
theorem dX12_weight_26 : decode cX12_weight 26 = .ok (.iconst (-1), 1) := by decide +kernel
theorem dX12_weight_27 : decode cX12_weight 27 = .ok (.ireturn, 1) := by decide +kernel
theorem dX12_weight_28 : decode cX12_weight 28 = .ok (.aload_n 0, 1) := by decide +kernel
theorem dX12_weight_29 : decode cX12_weight 29 = .ok (.getfield 50, 3) := by decide +kernel
theorem dX12_weight_32 : decode cX12_weight 32 = .ok (.iload_n 1, 1) := by decide +kernel
theorem dX12_weight_33 : decode cX12_weight 33 = .ok (.iaload, 1) := by decide +kernel
theorem dX12_weight_34 : decode cX12_weight 34 = .ok (.istore_n 3, 1) := by decide +kernel
theorem dX12_weight_35 : decode cX12_weight 35 = .ok (.aload_n 0, 1) := by decide +kernel
theorem dX12_weight_36 : decode cX12_weight 36 = .ok (.getfield 50, 3) := by decide +kernel
theorem dX12_weight_39 : decode cX12_weight 39 = .ok (.iload_n 1, 1) := by decide +kernel
theorem dX12_weight_40 : decode cX12_weight 40 = .ok (.iload_n 2, 1) := by decide +kernel
theorem dX12_weight_41 : decode cX12_weight 41 = .ok (.iastore, 1) := by decide +kernel
theorem dX12_weight_42 : decode cX12_weight 42 = .ok (.iload_n 3, 1) := by decide +kernel
theorem dX12_weight_43 : decode cX12_weight 43 = .ok (.ireturn, 1) := by decide +kernel
theorem dX12_weight_5 : decode cX12_weight 5 = .ok (.iload_n 1, 1) := by decide +kernel
theorem dX12_weight_6 : decode cX12_weight 6 = .ok (.iconst 1, 1) := by decide +kernel
theorem dX12_weight_7 : decode cX12_weight 7 = .ok (.bipush 9, 2) := by decide +kernel
theorem dX12_weight_9 : decode cX12_weight 9 = .ok (.invokestatic 124, 3) := by decide +kernel
theorem dm_X12_findOuts : yX12_findOuts.cls = RX12 ∧ yX12_findOuts.cls ≠ "java/lang/invoke/MethodHandle" ∧ yX12_findOuts.cls ≠ "java/lang/invoke/VarHandle" ∧ (parseMethodDescriptor yX12_findOuts.desc).map (fun d => d.parameters.length) = some 1 := by decide +kernel
theorem dm_X12_areAlike : yX12_areAlike.cls = RX12 ∧ yX12_areAlike.cls ≠ "java/lang/invoke/MethodHandle" ∧ yX12_areAlike.cls ≠ "java/lang/invoke/VarHandle" ∧ (parseMethodDescriptor yX12_areAlike.desc).map (fun d => d.parameters.length) = some 2 := by decide +kernel
set_option maxRecDepth 100000 in
def wR_make  (M : zM) (Q : Int → zM → Prop) : Prop := (∀ M1 : zM, M1 = zup M 0 35 0 → wR_findPlan  M1 (fun z4 M3 => wL1 (fun K12 x6 M7 => ((sI (M7 0 10)) ≤ (sI x6) → Q z4 M7) ∧ ((sI x6) < (sI (M7 0 10)) → (z4 = (-1) → Q z4 M7) ∧ (z4 ≠ (-1) → ((0 ≤ (sI x6) ∧ (sI x6) < 4) ∧ ((0 ≤ (sI (2 * x6)) ∧ (sI (2 * x6)) < 64) ∧ ((0 ≤ (sI x6) ∧ (sI x6) < 4) ∧ (∀ M20 : zM, M20 = zup M7 4 (sI x6).toNat ((M7 4 (sI x6).toNat) - (M7 22 (sI (2 * x6)).toNat)) → ((0 ≤ (sI ((2 * x6) + 1)) ∧ (sI ((2 * x6) + 1)) < 64) ∧ ((0 ≤ (sI x6) ∧ (sI x6) < 4) ∧ (∀ M24 : zM, M24 = zup M20 6 (sI x6).toNat (M20 22 (sI ((2 * x6) + 1)).toNat) → K12 (x6 + 1) M24)))))))))) 0 M3))
set_option maxHeartbeats 4000000 in
set_option maxRecDepth 100000 in
theorem cR_make (l : Launch) (D : va_G) (dA : Nat → ClassId) (b : Nat) (M : zM)   (Q : Int → zM → Prop) (h : wR_make  M Q) : Met l yX12_make (.code yX12_make cX12_make 3 (some .int) :: zt) (z_rm 4) (va_Pc [.ref (b + 0)] (wPre D dA vwCl (z_tys dA) wR nR b M)) (va_Qi (wQi Q) (zB D dA vwCl wR nR b) (zA nR b)) 0 0 (zA nR b) := by
  unfold wR_make at h
  refine Met.ofW (cc := cX12_make) (maxL := 3) (ret := (some .int)) (by decide) rfl ?_
  intro p e s m args below meth c s₁ B hml hv
  obtain ⟨hargs, hS, hK⟩ := hv
  have hx := B.exec
  have hb := B.bytes
  have hr := B.returns
  have hts := atoms_spec (ws := .code yX12_make cX12_make 3 (some .int) :: zt) B.pre
  have hown : s.vm.findClass RX12 = some m.cls := findClass_of_methodNamed B.named
  have hlocks := B.notSynchronized
  have hS0 : va_S (zA nR b) s.heap s.heap [] := va_S.rf
  have hl := lv_entry ([.ref (b + 0)]) (n := 3) (Nat.le_of_ble_eq_true rfl)
  have hent : entryFrame m args 3 = F0 m 0 ((lg_sl ([.ref (b + 0)]) ++ List.replicate (3 - (lg_sl ([.ref (b + 0)])).length) Slot.unset).toArray) [] := by rw [hargs]; exact lg_entry_eq m ([.ref (b + 0)]) 3
  rw [hent]
  generalize (lg_sl ([.ref (b + 0)]) ++ List.replicate (3 - (lg_sl ([.ref (b + 0)])).length) Slot.unset).toArray = ls at hl ⊢
  have hl : lv_has ls 3 [(0, .ref (b + 0))] := hl
  refine lv_aload_n hx hb dX12_make_0 rfl (lv_at hl 0 rfl) ?_
  refine z_iconst hx hb dX12_make_1 ?_
  refine w_puti hx hb hts (z_memU u12) tyX12 tyX12_ok nmX12 hown hK.1 hS hS0 f12_35 (by decide) (zkd_of (rfl : zcd wR 0 = 50) rfl) (Or.inl (hts _ (z_mem k979))) rfl (z := 0) (by decide +kernel) dX12_make_2 (fun H locs hS hS0 => ?_)
  obtain ⟨M1, e2⟩ : ∃ M1 : zM, M1 = zup M 0 35 0 := ⟨_, rfl⟩
  rw [← e2] at hS
  have h := h M1 e2
  refine lv_aload_n hx hb dX12_make_5 rfl (lv_at hl 0 rfl) ?_
  refine w_calli (va_runV (As := []) (rest := []) ⟨hx, hb, hml, hown, hts⟩ (cR_findPlan l D dA b M1  _ h) (cwV 0 hts (z_gV k1222 k1223 k1412 k14 k1224) rfl rfl rfl dm_X12_findPlan ⟨Nat.le_of_ble_eq_true rfl, Nat.le_of_ble_eq_true rfl⟩) ⟨wPre_blind, (w_recv hS hK.1 (by decide) (zkd_of (rfl : zcd wR 0 = 50) rfl) (by decide) (rfl : vwCl[12]? = some (RX12, TX12, 50))), w_pre hS hK⟩ rfl rfl hl.1 rfl (lv_room (Nat.le_of_ble_eq_true rfl)) dX12_make_6 ⟨Nat.le_refl _, Nat.le_refl _⟩) hS0 (fun z4 M3 H locs r5 h hS hS0 => ?_)
  refine lv_istore_n (lv' := [(1, .int (iI z4)), (0, .ref (b + 0))]) hx hb dX12_make_9 rfl hl (by decide) rfl (fun ls hl => ?_)
  refine z_iconst hx hb dX12_make_10 ?_
  refine lv_istore_n (lv' := [(2, .int (iI 0)), (1, .int (iI z4)), (0, .ref (b + 0))]) hx hb dX12_make_11 rfl hl (by decide) rfl (fun ls hl => ?_)
  obtain ⟨I8, ⟨n9, h10⟩, h11⟩ := h
  have L12 : ∀ (n13 : Nat) (x6 : Int) (M7 : zM) (H : Heap) (locs : List Loc) (ls : Array Slot), I8 n13 x6 M7 → zR D dA vwCl wR nR b M7 H → va_S (zA nR b) s.heap H locs → lv_has ls 3 [(0, .ref (b + 0)), (1, .int (iI z4)), (2, .int (iI x6))] → W p l e (headSpec (.code yX12_make cX12_make 3 (some .int) :: zt) (z_rm 4)).room s m args below meth c H locs 0 0 (MQ below (va_Qi (wQi Q) (zB D dA vwCl wR nR b) (zA nR b)) args s 0 0 (zA nR b)) (F0 m 12 ls []) := by
    intro n13
    induction n13 using Nat.strongRecOn with
    | ind n13 i14 =>
      intro x6 M7 H locs ls h hS hS0 hl
      have h := h11 n13 x6 M7 h
      refine lv_iload_n hx hb dX12_make_12 rfl (lv_at hl 2 rfl) ?_
      refine lv_aload_n hx hb dX12_make_13 rfl (lv_at hl 0 rfl) ?_
      refine w_geti hx hb hts (z_memU u12) hown hK.1 hS f12_10 (by decide) (zkd_of (rfl : zcd wR 0 = 50) rfl) (Or.inl (hts _ (z_mem k954))) dX12_make_14 ?_
      refine w_icmp_ge (tgt := 64) hx hb rfl rfl dX12_make_17 (by decide) (fun c15 => ?_) (fun c15 => ?_)
      · skip
        have h := h.1 c15
        refine lv_iload_n hx hb dX12_make_64 rfl (lv_at hl 1 rfl) ?_
        exact w_iret hx hb hr hlocks hS hS0 (sI_of r5) h dX12_make_65
      · skip
        have h := h.2 c15
        refine lv_iload_n hx hb dX12_make_20 rfl (lv_at hl 1 rfl) ?_
        refine z_iconst hx hb dX12_make_21 ?_
        refine w_icmp_eq (tgt := 64) hx hb (sI_of r5) (sI_of (by decide)) dX12_make_22 (by decide) (fun c16 => ?_) (fun c16 => ?_)
        · skip
          have h := h.1 c16
          refine lv_iload_n hx hb dX12_make_64 rfl (lv_at hl 1 rfl) ?_
          exact w_iret hx hb hr hlocks hS hS0 (sI_of r5) h dX12_make_65
        · skip
          have h := h.2 c16
          refine lv_aload_n hx hb dX12_make_25 rfl (lv_at hl 0 rfl) ?_
          refine w_getr (j2 := 4) hx hb hts (z_memU u12) hown hK.1 hS f12_5 (by decide) (zkd_of (rfl : zcd wR 0 = 50) rfl) (zrf_of (rfl : zcd wR 0 = 50) rfl) (Or.inl (hts _ (z_mem k949))) dX12_make_26 ?_
          refine lv_iload_n hx hb dX12_make_29 rfl (lv_at hl 2 rfl) ?_
          refine lv_dup2_11 hx hb dX12_make_30 rfl rfl ?_
          obtain ⟨o17, h⟩ := h
          refine w_iald (n := 4) (i := (sI x6)) hx hb hK.1 (t0 := 0) rfl hS (by decide) (zkd_of (rfl : zcd wR 4 = 54) rfl) (zln_of (rfl : zcd wR 4 = 54) rfl) rfl o17.1 o17.2 (by decide) dX12_make_31 ?_
          refine lv_aload_n hx hb dX12_make_32 rfl (lv_at hl 0 rfl) ?_
          refine w_getr (j2 := 22) hx hb hts (z_memU u12) hown hK.1 hS f12_33 (by decide) (zkd_of (rfl : zcd wR 0 = 50) rfl) (zrf_of (rfl : zcd wR 0 = 50) rfl) (Or.inl (hts _ (z_mem k977))) dX12_make_33 ?_
          refine z_iconst hx hb dX12_make_36 ?_
          refine lv_iload_n hx hb dX12_make_37 rfl (lv_at hl 2 rfl) ?_
          refine z_imul hx hb dX12_make_38 ?_
          obtain ⟨o18, h⟩ := h
          refine w_iald (n := 64) (i := (sI (2 * x6))) hx hb hK.1 (t0 := 0) rfl hS (by decide) (zkd_of (rfl : zcd wR 22 = 72) rfl) (zln_of (rfl : zcd wR 22 = 72) rfl) rfl o18.1 o18.2 (by decide) dX12_make_39 ?_
          refine z_isub hx hb dX12_make_40 ?_
          obtain ⟨o19, h⟩ := h
          refine w_iast (z := ((M7 4 (sI x6).toNat) - (M7 22 (sI (2 * x6)).toNat))) (n := 4) (i := (sI x6)) hx hb hK.1 (t0 := 0) rfl hS hS0 (by decide) (zkd_of (rfl : zcd wR 4 = 54) rfl) (zln_of (rfl : zcd wR 4 = 54) rfl) rfl o19.1 o19.2 (by decide) dX12_make_41 (fun H locs hS hS0 => ?_)
          obtain ⟨M20, e21⟩ : ∃ M20 : zM, M20 = zup M7 4 (sI x6).toNat ((M7 4 (sI x6).toNat) - (M7 22 (sI (2 * x6)).toNat)) := ⟨_, rfl⟩
          rw [← e21] at hS
          have h := h M20 e21
          refine lv_aload_n hx hb dX12_make_42 rfl (lv_at hl 0 rfl) ?_
          refine w_getr (j2 := 6) hx hb hts (z_memU u12) hown hK.1 hS f12_7 (by decide) (zkd_of (rfl : zcd wR 0 = 50) rfl) (zrf_of (rfl : zcd wR 0 = 50) rfl) (Or.inl (hts _ (z_mem k951))) dX12_make_43 ?_
          refine lv_iload_n hx hb dX12_make_46 rfl (lv_at hl 2 rfl) ?_
          refine lv_aload_n hx hb dX12_make_47 rfl (lv_at hl 0 rfl) ?_
          refine w_getr (j2 := 22) hx hb hts (z_memU u12) hown hK.1 hS f12_33 (by decide) (zkd_of (rfl : zcd wR 0 = 50) rfl) (zrf_of (rfl : zcd wR 0 = 50) rfl) (Or.inl (hts _ (z_mem k977))) dX12_make_48 ?_
          refine z_iconst hx hb dX12_make_51 ?_
          refine lv_iload_n hx hb dX12_make_52 rfl (lv_at hl 2 rfl) ?_
          refine z_imul hx hb dX12_make_53 ?_
          refine z_iconst hx hb dX12_make_54 ?_
          refine z_iadd hx hb dX12_make_55 ?_
          obtain ⟨o22, h⟩ := h
          refine w_iald (n := 64) (i := (sI ((2 * x6) + 1))) hx hb hK.1 (t0 := 0) rfl hS (by decide) (zkd_of (rfl : zcd wR 22 = 72) rfl) (zln_of (rfl : zcd wR 22 = 72) rfl) rfl o22.1 o22.2 (by decide) dX12_make_56 ?_
          obtain ⟨o23, h⟩ := h
          refine w_iast (z := (M20 22 (sI ((2 * x6) + 1)).toNat)) (n := 4) (i := (sI x6)) hx hb hK.1 (t0 := 0) rfl hS hS0 (by decide) (zkd_of (rfl : zcd wR 6 = 56) rfl) (zln_of (rfl : zcd wR 6 = 56) rfl) rfl o23.1 o23.2 (by decide) dX12_make_57 (fun H locs hS hS0 => ?_)
          obtain ⟨M24, e25⟩ : ∃ M24 : zM, M24 = zup M20 6 (sI x6).toNat (M20 22 (sI ((2 * x6) + 1)).toNat) := ⟨_, rfl⟩
          rw [← e25] at hS
          have h := h M24 e25
          refine z_iinc (lv' := [(2, .int (iI (x6 + 1))), (0, .ref (b + 0)), (1, .int (iI z4))]) hx hb dX12_make_58 hl (k := 2) rfl (by decide) rfl (fun ls hl => ?_)
          refine lv_goto (tgt := 12) hx hb dX12_make_61 (by decide) ?_
          obtain ⟨n26, h27, h⟩ := h
          exact i14 n26 h27 (x6 + 1) M24 _ _ _ h hS hS0 (lv_sub hl [1, 2, 0] rfl)
  exact L12 n9 0 M3 _ _ _ h10 hS hS0 (lv_sub hl [2, 1, 0] rfl)

set_option maxRecDepth 100000 in
def wR_cut (a0 : Int) (a1 : Int) (M : zM) (Q : Int → zM → Prop) : Prop := (∀ M1 : zM, M1 = zup M 0 35 0 → wR_isRing a0 M1 (fun z4 => (z4 = 0 → Q (-1) M1) ∧ (z4 ≠ 0 → ((0 ≤ (sI a0) ∧ (sI a0) < 4) ∧ wR_in a1 0 ((M1 4 (sI a0).toNat) - 1) M1 (fun z10 => (z10 ≠ 0 → ((0 ≤ (sI a0) ∧ (sI a0) < 4) ∧ ((0 ≤ (sI a0) ∧ (sI a0) < 4) ∧ (∀ M16 : zM, M16 = zup M1 4 (sI a0).toNat ((M1 4 (sI a0).toNat) - a1) → ((0 ≤ (sI a0) ∧ (sI a0) < 4) ∧ ((0 ≤ (sI a0) ∧ (sI a0) < 4) ∧ (((sI (M16 4 (sI a0).toNat)) ≠ 0) ∧ ((0 ≤ (sI a0) ∧ (sI a0) < 4) ∧ (∀ M22 : zM, M22 = zup M16 6 (sI a0).toNat ((sI (M16 6 (sI a0).toNat)).tmod (sI (M16 4 (sI a0).toNat))) → ((0 ≤ (sI a0) ∧ (sI a0) < 4) ∧ Q (sI (M22 4 (sI a0).toNat)) M22)))))))))) ∧ (z10 = 0 → Q (-1) M1))))))
set_option maxHeartbeats 4000000 in
set_option maxRecDepth 100000 in
theorem cR_cut (l : Launch) (D : va_G) (dA : Nat → ClassId) (b : Nat) (M : zM) (a0 : Int) (a1 : Int)  (Q : Int → zM → Prop) (h : wR_cut a0 a1 M Q) : Met l yX12_cut (.code yX12_cut cX12_cut 3 (some .int) :: zt) (z_rm 2) (va_Pc [.ref (b + 0), .int (iI a0), .int (iI a1)] (wPre D dA vwCl (z_tys dA) wR nR b M)) (va_Qi (wQi Q) (zB D dA vwCl wR nR b) (zA nR b)) 0 0 (zA nR b) := by
  unfold wR_cut at h
  refine Met.ofW (cc := cX12_cut) (maxL := 3) (ret := (some .int)) (by decide) rfl ?_
  intro p e s m args below meth c s₁ B hml hv
  obtain ⟨hargs, hS, hK⟩ := hv
  have hx := B.exec
  have hb := B.bytes
  have hr := B.returns
  have hts := atoms_spec (ws := .code yX12_cut cX12_cut 3 (some .int) :: zt) B.pre
  have hown : s.vm.findClass RX12 = some m.cls := findClass_of_methodNamed B.named
  have hlocks := B.notSynchronized
  have hS0 : va_S (zA nR b) s.heap s.heap [] := va_S.rf
  have hl := lv_entry ([.ref (b + 0), .int (iI a0), .int (iI a1)]) (n := 3) (Nat.le_of_ble_eq_true rfl)
  have hent : entryFrame m args 3 = F0 m 0 ((lg_sl ([.ref (b + 0), .int (iI a0), .int (iI a1)]) ++ List.replicate (3 - (lg_sl ([.ref (b + 0), .int (iI a0), .int (iI a1)])).length) Slot.unset).toArray) [] := by rw [hargs]; exact lg_entry_eq m ([.ref (b + 0), .int (iI a0), .int (iI a1)]) 3
  rw [hent]
  generalize (lg_sl ([.ref (b + 0), .int (iI a0), .int (iI a1)]) ++ List.replicate (3 - (lg_sl ([.ref (b + 0), .int (iI a0), .int (iI a1)])).length) Slot.unset).toArray = ls at hl ⊢
  have hl : lv_has ls 3 [(0, .ref (b + 0)), (1, .int (iI a0)), (2, .int (iI a1))] := hl
  refine lv_aload_n hx hb dX12_cut_0 rfl (lv_at hl 0 rfl) ?_
  refine z_iconst hx hb dX12_cut_1 ?_
  refine w_puti hx hb hts (z_memU u12) tyX12 tyX12_ok nmX12 hown hK.1 hS hS0 f12_35 (by decide) (zkd_of (rfl : zcd wR 0 = 50) rfl) (Or.inl (hts _ (z_mem k979))) rfl (z := 0) (by decide +kernel) dX12_cut_2 (fun H locs hS hS0 => ?_)
  obtain ⟨M1, e2⟩ : ∃ M1 : zM, M1 = zup M 0 35 0 := ⟨_, rfl⟩
  rw [← e2] at hS
  have h := h M1 e2
  refine lv_aload_n hx hb dX12_cut_5 rfl (lv_at hl 0 rfl) ?_
  refine lv_iload_n hx hb dX12_cut_6 rfl (lv_at hl 1 rfl) ?_
  refine w_callz (va_runV (As := [.int (iI a0)]) (rest := []) ⟨hx, hb, hml, hown, hts⟩ (cR_isRing l D dA b M1 a0 _ h) (cwV 1 hts (z_gV k1097 k1098 k1397 k14 k1099) rfl rfl rfl dm_X12_isRing ⟨Nat.le_of_ble_eq_true rfl, Nat.le_of_ble_eq_true rfl⟩) ⟨wPre_blind, (w_recv hS hK.1 (by decide) (zkd_of (rfl : zcd wR 0 = 50) rfl) (by decide) (rfl : vwCl[12]? = some (RX12, TX12, 50))), w_pre hS hK⟩ rfl rfl hl.1 rfl (lv_room (Nat.le_of_ble_eq_true rfl)) dX12_cut_7 ⟨Nat.le_refl _, Nat.le_refl _⟩) hS0 (fun z4 M3 H locs r5 h hS hS0 => ?_)
  obtain ⟨e6, h⟩ := h
  rw [e6] at hS
  refine w_if_eq (tgt := 29) hx hb (sI_01 r5) dX12_cut_10 (by decide) (fun c7 => ?_) (fun c7 => ?_)
  · skip
    have h := h.1 c7
    refine z_iconst hx hb dX12_cut_29 ?_
    exact w_iret hx hb hr hlocks hS hS0 (sI_of (by decide)) h dX12_cut_30
  · skip
    have h := h.2 c7
    refine lv_iload_n hx hb dX12_cut_13 rfl (lv_at hl 2 rfl) ?_
    refine z_iconst hx hb dX12_cut_14 ?_
    refine lv_aload_n hx hb dX12_cut_15 rfl (lv_at hl 0 rfl) ?_
    refine w_getr (j2 := 4) hx hb hts (z_memU u12) hown hK.1 hS f12_5 (by decide) (zkd_of (rfl : zcd wR 0 = 50) rfl) (zrf_of (rfl : zcd wR 0 = 50) rfl) (Or.inl (hts _ (z_mem k949))) dX12_cut_16 ?_
    refine lv_iload_n hx hb dX12_cut_19 rfl (lv_at hl 1 rfl) ?_
    obtain ⟨o8, h⟩ := h
    refine w_iald (n := 4) (i := (sI a0)) hx hb hK.1 (t0 := 0) rfl hS (by decide) (zkd_of (rfl : zcd wR 4 = 54) rfl) (zln_of (rfl : zcd wR 4 = 54) rfl) rfl o8.1 o8.2 (by decide) dX12_cut_20 ?_
    refine z_iconst hx hb dX12_cut_21 ?_
    refine z_isub hx hb dX12_cut_22 ?_
    refine w_callz (va_runS (As := [.int (iI a1), .int (iI 0), .int (iI ((M1 4 (sI a0).toNat) - 1))]) (rest := []) ⟨hx, hb, hml, hown, hts⟩ (cR_in l D dA b M1 a1 0 ((M1 4 (sI a0).toNat) - 1) _ h) (va_cwS 3 hts (z_gS k1083 k1084 k14 k1085) rfl rfl rfl dm_X12_in.2 ⟨Nat.le_of_ble_eq_true rfl, Nat.le_of_ble_eq_true rfl⟩) ⟨wPre_blind, w_pre hS hK⟩ rfl rfl hl.1 rfl (lv_room (Nat.le_of_ble_eq_true rfl)) dX12_cut_23 ⟨Nat.le_refl _, Nat.le_refl _⟩) hS0 (fun z10 M9 H locs r11 h hS hS0 => ?_)
    obtain ⟨e12, h⟩ := h
    rw [e12] at hS
    refine w_if_ne (tgt := 31) hx hb (sI_01 r11) dX12_cut_26 (by decide) (fun c13 => ?_) (fun c13 => ?_)
    · skip
      have h := h.1 c13
      refine lv_aload_n hx hb dX12_cut_31 rfl (lv_at hl 0 rfl) ?_
      refine w_getr (j2 := 4) hx hb hts (z_memU u12) hown hK.1 hS f12_5 (by decide) (zkd_of (rfl : zcd wR 0 = 50) rfl) (zrf_of (rfl : zcd wR 0 = 50) rfl) (Or.inl (hts _ (z_mem k949))) dX12_cut_32 ?_
      refine lv_iload_n hx hb dX12_cut_35 rfl (lv_at hl 1 rfl) ?_
      refine lv_dup2_11 hx hb dX12_cut_36 rfl rfl ?_
      obtain ⟨o14, h⟩ := h
      refine w_iald (n := 4) (i := (sI a0)) hx hb hK.1 (t0 := 0) rfl hS (by decide) (zkd_of (rfl : zcd wR 4 = 54) rfl) (zln_of (rfl : zcd wR 4 = 54) rfl) rfl o14.1 o14.2 (by decide) dX12_cut_37 ?_
      refine lv_iload_n hx hb dX12_cut_38 rfl (lv_at hl 2 rfl) ?_
      refine z_isub hx hb dX12_cut_39 ?_
      obtain ⟨o15, h⟩ := h
      refine w_iast (z := ((M1 4 (sI a0).toNat) - a1)) (n := 4) (i := (sI a0)) hx hb hK.1 (t0 := 0) rfl hS hS0 (by decide) (zkd_of (rfl : zcd wR 4 = 54) rfl) (zln_of (rfl : zcd wR 4 = 54) rfl) rfl o15.1 o15.2 (by decide) dX12_cut_40 (fun H locs hS hS0 => ?_)
      obtain ⟨M16, e17⟩ : ∃ M16 : zM, M16 = zup M1 4 (sI a0).toNat ((M1 4 (sI a0).toNat) - a1) := ⟨_, rfl⟩
      rw [← e17] at hS
      have h := h M16 e17
      refine lv_aload_n hx hb dX12_cut_41 rfl (lv_at hl 0 rfl) ?_
      refine w_getr (j2 := 6) hx hb hts (z_memU u12) hown hK.1 hS f12_7 (by decide) (zkd_of (rfl : zcd wR 0 = 50) rfl) (zrf_of (rfl : zcd wR 0 = 50) rfl) (Or.inl (hts _ (z_mem k951))) dX12_cut_42 ?_
      refine lv_iload_n hx hb dX12_cut_45 rfl (lv_at hl 1 rfl) ?_
      refine lv_dup2_11 hx hb dX12_cut_46 rfl rfl ?_
      obtain ⟨o18, h⟩ := h
      refine w_iald (n := 4) (i := (sI a0)) hx hb hK.1 (t0 := 0) rfl hS (by decide) (zkd_of (rfl : zcd wR 6 = 56) rfl) (zln_of (rfl : zcd wR 6 = 56) rfl) rfl o18.1 o18.2 (by decide) dX12_cut_47 ?_
      refine lv_aload_n hx hb dX12_cut_48 rfl (lv_at hl 0 rfl) ?_
      refine w_getr (j2 := 4) hx hb hts (z_memU u12) hown hK.1 hS f12_5 (by decide) (zkd_of (rfl : zcd wR 0 = 50) rfl) (zrf_of (rfl : zcd wR 0 = 50) rfl) (Or.inl (hts _ (z_mem k949))) dX12_cut_49 ?_
      refine lv_iload_n hx hb dX12_cut_52 rfl (lv_at hl 1 rfl) ?_
      obtain ⟨o19, h⟩ := h
      refine w_iald (n := 4) (i := (sI a0)) hx hb hK.1 (t0 := 0) rfl hS (by decide) (zkd_of (rfl : zcd wR 4 = 54) rfl) (zln_of (rfl : zcd wR 4 = 54) rfl) rfl o19.1 o19.2 (by decide) dX12_cut_53 ?_
      obtain ⟨o20, h⟩ := h
      refine w_irem hx hb rfl rfl o20 dX12_cut_54 ?_
      obtain ⟨o21, h⟩ := h
      refine w_iast (z := ((sI (M16 6 (sI a0).toNat)).tmod (sI (M16 4 (sI a0).toNat)))) (n := 4) (i := (sI a0)) hx hb hK.1 (t0 := 0) rfl hS hS0 (by decide) (zkd_of (rfl : zcd wR 6 = 56) rfl) (zln_of (rfl : zcd wR 6 = 56) rfl) rfl o21.1 o21.2 (by decide) dX12_cut_55 (fun H locs hS hS0 => ?_)
      obtain ⟨M22, e23⟩ : ∃ M22 : zM, M22 = zup M16 6 (sI a0).toNat ((sI (M16 6 (sI a0).toNat)).tmod (sI (M16 4 (sI a0).toNat))) := ⟨_, rfl⟩
      rw [← e23] at hS
      have h := h M22 e23
      refine lv_aload_n hx hb dX12_cut_56 rfl (lv_at hl 0 rfl) ?_
      refine w_getr (j2 := 4) hx hb hts (z_memU u12) hown hK.1 hS f12_5 (by decide) (zkd_of (rfl : zcd wR 0 = 50) rfl) (zrf_of (rfl : zcd wR 0 = 50) rfl) (Or.inl (hts _ (z_mem k949))) dX12_cut_57 ?_
      refine lv_iload_n hx hb dX12_cut_60 rfl (lv_at hl 1 rfl) ?_
      obtain ⟨o24, h⟩ := h
      refine w_iald (n := 4) (i := (sI a0)) hx hb hK.1 (t0 := 0) rfl hS (by decide) (zkd_of (rfl : zcd wR 4 = 54) rfl) (zln_of (rfl : zcd wR 4 = 54) rfl) rfl o24.1 o24.2 (by decide) dX12_cut_61 ?_
      exact w_iret hx hb hr hlocks hS hS0 rfl h dX12_cut_62
    · skip
      have h := h.2 c13
      refine z_iconst hx hb dX12_cut_29 ?_
      exact w_iret hx hb hr hlocks hS hS0 (sI_of (by decide)) h dX12_cut_30

set_option maxRecDepth 100000 in
def wR_weight (a0 : Int) (a1 : Int) (M : zM) (Q : Int → zM → Prop) : Prop := (∀ M1 : zM, M1 = zup M 0 35 0 → wR_in a0 1 9 M1 (fun z4 => (z4 = 0 → Q (-1) M1) ∧ (z4 ≠ 0 → wR_in a1 0 200 M1 (fun z9 => (z9 ≠ 0 → ((0 ≤ (sI a0) ∧ (sI a0) < 10) ∧ ((0 ≤ (sI a0) ∧ (sI a0) < 10) ∧ (∀ M15 : zM, M15 = zup M1 14 (sI a0).toNat a1 → Q (sI (M1 14 (sI a0).toNat)) M15)))) ∧ (z9 = 0 → Q (-1) M1)))))
set_option maxHeartbeats 4000000 in
set_option maxRecDepth 100000 in
theorem cR_weight (l : Launch) (D : va_G) (dA : Nat → ClassId) (b : Nat) (M : zM) (a0 : Int) (a1 : Int)  (Q : Int → zM → Prop) (h : wR_weight a0 a1 M Q) : Met l yX12_weight (.code yX12_weight cX12_weight 4 (some .int) :: zt) (z_rm 1) (va_Pc [.ref (b + 0), .int (iI a0), .int (iI a1)] (wPre D dA vwCl (z_tys dA) wR nR b M)) (va_Qi (wQi Q) (zB D dA vwCl wR nR b) (zA nR b)) 0 0 (zA nR b) := by
  unfold wR_weight at h
  refine Met.ofW (cc := cX12_weight) (maxL := 4) (ret := (some .int)) (by decide) rfl ?_
  intro p e s m args below meth c s₁ B hml hv
  obtain ⟨hargs, hS, hK⟩ := hv
  have hx := B.exec
  have hb := B.bytes
  have hr := B.returns
  have hts := atoms_spec (ws := .code yX12_weight cX12_weight 4 (some .int) :: zt) B.pre
  have hown : s.vm.findClass RX12 = some m.cls := findClass_of_methodNamed B.named
  have hlocks := B.notSynchronized
  have hS0 : va_S (zA nR b) s.heap s.heap [] := va_S.rf
  have hl := lv_entry ([.ref (b + 0), .int (iI a0), .int (iI a1)]) (n := 4) (Nat.le_of_ble_eq_true rfl)
  have hent : entryFrame m args 4 = F0 m 0 ((lg_sl ([.ref (b + 0), .int (iI a0), .int (iI a1)]) ++ List.replicate (4 - (lg_sl ([.ref (b + 0), .int (iI a0), .int (iI a1)])).length) Slot.unset).toArray) [] := by rw [hargs]; exact lg_entry_eq m ([.ref (b + 0), .int (iI a0), .int (iI a1)]) 4
  rw [hent]
  generalize (lg_sl ([.ref (b + 0), .int (iI a0), .int (iI a1)]) ++ List.replicate (4 - (lg_sl ([.ref (b + 0), .int (iI a0), .int (iI a1)])).length) Slot.unset).toArray = ls at hl ⊢
  have hl : lv_has ls 4 [(0, .ref (b + 0)), (1, .int (iI a0)), (2, .int (iI a1))] := hl
  refine lv_aload_n hx hb dX12_weight_0 rfl (lv_at hl 0 rfl) ?_
  refine z_iconst hx hb dX12_weight_1 ?_
  refine w_puti hx hb hts (z_memU u12) tyX12 tyX12_ok nmX12 hown hK.1 hS hS0 f12_35 (by decide) (zkd_of (rfl : zcd wR 0 = 50) rfl) (Or.inl (hts _ (z_mem k979))) rfl (z := 0) (by decide +kernel) dX12_weight_2 (fun H locs hS hS0 => ?_)
  obtain ⟨M1, e2⟩ : ∃ M1 : zM, M1 = zup M 0 35 0 := ⟨_, rfl⟩
  rw [← e2] at hS
  have h := h M1 e2
  refine lv_iload_n hx hb dX12_weight_5 rfl (lv_at hl 1 rfl) ?_
  refine z_iconst hx hb dX12_weight_6 ?_
  refine z_bipush hx hb (by decide) dX12_weight_7 ?_
  refine w_callz (va_runS (As := [.int (iI a0), .int (iI 1), .int (iI 9)]) (rest := []) ⟨hx, hb, hml, hown, hts⟩ (cR_in l D dA b M1 a0 1 9 _ h) (va_cwS 3 hts (z_gS k1083 k1084 k14 k1085) rfl rfl rfl dm_X12_in.2 ⟨Nat.le_of_ble_eq_true rfl, Nat.le_of_ble_eq_true rfl⟩) ⟨wPre_blind, w_pre hS hK⟩ rfl rfl hl.1 rfl (lv_room (Nat.le_of_ble_eq_true rfl)) dX12_weight_9 ⟨Nat.le_refl _, Nat.le_refl _⟩) hS0 (fun z4 M3 H locs r5 h hS hS0 => ?_)
  obtain ⟨e6, h⟩ := h
  rw [e6] at hS
  refine w_if_eq (tgt := 26) hx hb (sI_01 r5) dX12_weight_12 (by decide) (fun c7 => ?_) (fun c7 => ?_)
  · skip
    have h := h.1 c7
    refine z_iconst hx hb dX12_weight_26 ?_
    exact w_iret hx hb hr hlocks hS hS0 (sI_of (by decide)) h dX12_weight_27
  · skip
    have h := h.2 c7
    refine lv_iload_n hx hb dX12_weight_15 rfl (lv_at hl 2 rfl) ?_
    refine z_iconst hx hb dX12_weight_16 ?_
    refine z_sipush hx hb (by decide) dX12_weight_17 ?_
    refine w_callz (va_runS (As := [.int (iI a1), .int (iI 0), .int (iI 200)]) (rest := []) ⟨hx, hb, hml, hown, hts⟩ (cR_in l D dA b M1 a1 0 200 _ h) (va_cwS 3 hts (z_gS k1083 k1084 k14 k1085) rfl rfl rfl dm_X12_in.2 ⟨Nat.le_of_ble_eq_true rfl, Nat.le_of_ble_eq_true rfl⟩) ⟨wPre_blind, w_pre hS hK⟩ rfl rfl hl.1 rfl (lv_room (Nat.le_of_ble_eq_true rfl)) dX12_weight_20 ⟨Nat.le_refl _, Nat.le_refl _⟩) hS0 (fun z9 M8 H locs r10 h hS hS0 => ?_)
    obtain ⟨e11, h⟩ := h
    rw [e11] at hS
    refine w_if_ne (tgt := 28) hx hb (sI_01 r10) dX12_weight_23 (by decide) (fun c12 => ?_) (fun c12 => ?_)
    · skip
      have h := h.1 c12
      refine lv_aload_n hx hb dX12_weight_28 rfl (lv_at hl 0 rfl) ?_
      refine w_getr (j2 := 14) hx hb hts (z_memU u12) hown hK.1 hS f12_17 (by decide) (zkd_of (rfl : zcd wR 0 = 50) rfl) (zrf_of (rfl : zcd wR 0 = 50) rfl) (Or.inl (hts _ (z_mem k961))) dX12_weight_29 ?_
      refine lv_iload_n hx hb dX12_weight_32 rfl (lv_at hl 1 rfl) ?_
      obtain ⟨o13, h⟩ := h
      refine w_iald (n := 10) (i := (sI a0)) hx hb hK.1 (t0 := 0) rfl hS (by decide) (zkd_of (rfl : zcd wR 14 = 64) rfl) (zln_of (rfl : zcd wR 14 = 64) rfl) rfl o13.1 o13.2 (by decide) dX12_weight_33 ?_
      refine lv_istore_n (lv' := [(3, .int (iI (M1 14 (sI a0).toNat))), (0, .ref (b + 0)), (1, .int (iI a0)), (2, .int (iI a1))]) hx hb dX12_weight_34 rfl hl (by decide) rfl (fun ls hl => ?_)
      refine lv_aload_n hx hb dX12_weight_35 rfl (lv_at hl 1 rfl) ?_
      refine w_getr (j2 := 14) hx hb hts (z_memU u12) hown hK.1 hS f12_17 (by decide) (zkd_of (rfl : zcd wR 0 = 50) rfl) (zrf_of (rfl : zcd wR 0 = 50) rfl) (Or.inl (hts _ (z_mem k961))) dX12_weight_36 ?_
      refine lv_iload_n hx hb dX12_weight_39 rfl (lv_at hl 2 rfl) ?_
      refine lv_iload_n hx hb dX12_weight_40 rfl (lv_at hl 3 rfl) ?_
      obtain ⟨o14, h⟩ := h
      refine w_iast (z := a1) (n := 10) (i := (sI a0)) hx hb hK.1 (t0 := 0) rfl hS hS0 (by decide) (zkd_of (rfl : zcd wR 14 = 64) rfl) (zln_of (rfl : zcd wR 14 = 64) rfl) rfl o14.1 o14.2 (by decide) dX12_weight_41 (fun H locs hS hS0 => ?_)
      obtain ⟨M15, e16⟩ : ∃ M15 : zM, M15 = zup M1 14 (sI a0).toNat a1 := ⟨_, rfl⟩
      rw [← e16] at hS
      have h := h M15 e16
      refine lv_iload_n hx hb dX12_weight_42 rfl (lv_at hl 0 rfl) ?_
      exact w_iret hx hb hr hlocks hS hS0 rfl h dX12_weight_43
    · skip
      have h := h.2 c12
      refine z_iconst hx hb dX12_weight_26 ?_
      exact w_iret hx hb hr hlocks hS hS0 (sI_of (by decide)) h dX12_weight_27

set_option maxRecDepth 100000 in
def wR_heads (a0 : Int) (a1 : Int) (a2 : Int) (a3 : Int) (M : zM) (Q : Int → zM → Prop) : Prop := (∀ M1 : zM, M1 = zup M 0 35 0 → wR_in a0 1 20 M1 (fun z4 => (z4 = 0 → Q 0 M1) ∧ (z4 ≠ 0 → wR_in a1 0 100 M1 (fun z9 => (z9 = 0 → Q 0 M1) ∧ (z9 ≠ 0 → wR_in a2 1 20 M1 (fun z14 => (z14 = 0 → Q 0 M1) ∧ (z14 ≠ 0 → wR_in a3 0 100 M1 (fun z19 => (z19 ≠ 0 → (∀ M23 : zM, M23 = zup M1 0 18 a0 → (∀ M25 : zM, M25 = zup M23 0 19 a1 → (∀ M27 : zM, M27 = zup M25 0 20 a2 → (∀ M29 : zM, M29 = zup M27 0 21 a3 → Q 1 M29))))) ∧ (z19 = 0 → Q 0 M1)))))))))
set_option maxHeartbeats 4000000 in
set_option maxRecDepth 100000 in
theorem cR_heads (l : Launch) (D : va_G) (dA : Nat → ClassId) (b : Nat) (M : zM) (a0 : Int) (a1 : Int) (a2 : Int) (a3 : Int)  (Q : Int → zM → Prop) (h : wR_heads a0 a1 a2 a3 M Q) : Met l yX12_heads (.code yX12_heads cX12_heads 5 (some .boolean) :: zt) (z_rm 1) (va_Pc [.ref (b + 0), .int (iI a0), .int (iI a1), .int (iI a2), .int (iI a3)] (wPre D dA vwCl (z_tys dA) wR nR b M)) (va_Qi (wQz Q) (zB D dA vwCl wR nR b) (zA nR b)) 0 0 (zA nR b) := by
  unfold wR_heads at h
  refine Met.ofW (cc := cX12_heads) (maxL := 5) (ret := (some .boolean)) (by decide) rfl ?_
  intro p e s m args below meth c s₁ B hml hv
  obtain ⟨hargs, hS, hK⟩ := hv
  have hx := B.exec
  have hb := B.bytes
  have hr := B.returns
  have hts := atoms_spec (ws := .code yX12_heads cX12_heads 5 (some .boolean) :: zt) B.pre
  have hown : s.vm.findClass RX12 = some m.cls := findClass_of_methodNamed B.named
  have hlocks := B.notSynchronized
  have hS0 : va_S (zA nR b) s.heap s.heap [] := va_S.rf
  have hl := lv_entry ([.ref (b + 0), .int (iI a0), .int (iI a1), .int (iI a2), .int (iI a3)]) (n := 5) (Nat.le_of_ble_eq_true rfl)
  have hent : entryFrame m args 5 = F0 m 0 ((lg_sl ([.ref (b + 0), .int (iI a0), .int (iI a1), .int (iI a2), .int (iI a3)]) ++ List.replicate (5 - (lg_sl ([.ref (b + 0), .int (iI a0), .int (iI a1), .int (iI a2), .int (iI a3)])).length) Slot.unset).toArray) [] := by rw [hargs]; exact lg_entry_eq m ([.ref (b + 0), .int (iI a0), .int (iI a1), .int (iI a2), .int (iI a3)]) 5
  rw [hent]
  generalize (lg_sl ([.ref (b + 0), .int (iI a0), .int (iI a1), .int (iI a2), .int (iI a3)]) ++ List.replicate (5 - (lg_sl ([.ref (b + 0), .int (iI a0), .int (iI a1), .int (iI a2), .int (iI a3)])).length) Slot.unset).toArray = ls at hl ⊢
  have hl : lv_has ls 5 [(0, .ref (b + 0)), (1, .int (iI a0)), (2, .int (iI a1)), (3, .int (iI a2)), (4, .int (iI a3))] := hl
  refine lv_aload_n hx hb dX12_heads_0 rfl (lv_at hl 0 rfl) ?_
  refine z_iconst hx hb dX12_heads_1 ?_
  refine w_puti hx hb hts (z_memU u12) tyX12 tyX12_ok nmX12 hown hK.1 hS hS0 f12_35 (by decide) (zkd_of (rfl : zcd wR 0 = 50) rfl) (Or.inl (hts _ (z_mem k979))) rfl (z := 0) (by decide +kernel) dX12_heads_2 (fun H locs hS hS0 => ?_)
  obtain ⟨M1, e2⟩ : ∃ M1 : zM, M1 = zup M 0 35 0 := ⟨_, rfl⟩
  rw [← e2] at hS
  have h := h M1 e2
  refine lv_iload_n hx hb dX12_heads_5 rfl (lv_at hl 1 rfl) ?_
  refine z_iconst hx hb dX12_heads_6 ?_
  refine z_bipush hx hb (by decide) dX12_heads_7 ?_
  refine w_callz (va_runS (As := [.int (iI a0), .int (iI 1), .int (iI 20)]) (rest := []) ⟨hx, hb, hml, hown, hts⟩ (cR_in l D dA b M1 a0 1 20 _ h) (va_cwS 3 hts (z_gS k1083 k1084 k14 k1085) rfl rfl rfl dm_X12_in.2 ⟨Nat.le_of_ble_eq_true rfl, Nat.le_of_ble_eq_true rfl⟩) ⟨wPre_blind, w_pre hS hK⟩ rfl rfl hl.1 rfl (lv_room (Nat.le_of_ble_eq_true rfl)) dX12_heads_9 ⟨Nat.le_refl _, Nat.le_refl _⟩) hS0 (fun z4 M3 H locs r5 h hS hS0 => ?_)
  obtain ⟨e6, h⟩ := h
  rw [e6] at hS
  refine w_if_eq (tgt := 46) hx hb (sI_01 r5) dX12_heads_12 (by decide) (fun c7 => ?_) (fun c7 => ?_)
  · skip
    have h := h.1 c7
    refine z_iconst hx hb dX12_heads_46 ?_
    exact w_zret hx hb hr hlocks hS hS0 (sI_of (by decide)) (by decide) h dX12_heads_47
  · skip
    have h := h.2 c7
    refine lv_iload_n hx hb dX12_heads_15 rfl (lv_at hl 2 rfl) ?_
    refine z_iconst hx hb dX12_heads_16 ?_
    refine z_bipush hx hb (by decide) dX12_heads_17 ?_
    refine w_callz (va_runS (As := [.int (iI a1), .int (iI 0), .int (iI 100)]) (rest := []) ⟨hx, hb, hml, hown, hts⟩ (cR_in l D dA b M1 a1 0 100 _ h) (va_cwS 3 hts (z_gS k1083 k1084 k14 k1085) rfl rfl rfl dm_X12_in.2 ⟨Nat.le_of_ble_eq_true rfl, Nat.le_of_ble_eq_true rfl⟩) ⟨wPre_blind, w_pre hS hK⟩ rfl rfl hl.1 rfl (lv_room (Nat.le_of_ble_eq_true rfl)) dX12_heads_19 ⟨Nat.le_refl _, Nat.le_refl _⟩) hS0 (fun z9 M8 H locs r10 h hS hS0 => ?_)
    obtain ⟨e11, h⟩ := h
    rw [e11] at hS
    refine w_if_eq (tgt := 46) hx hb (sI_01 r10) dX12_heads_22 (by decide) (fun c12 => ?_) (fun c12 => ?_)
    · skip
      have h := h.1 c12
      refine z_iconst hx hb dX12_heads_46 ?_
      exact w_zret hx hb hr hlocks hS hS0 (sI_of (by decide)) (by decide) h dX12_heads_47
    · skip
      have h := h.2 c12
      refine lv_iload_n hx hb dX12_heads_25 rfl (lv_at hl 3 rfl) ?_
      refine z_iconst hx hb dX12_heads_26 ?_
      refine z_bipush hx hb (by decide) dX12_heads_27 ?_
      refine w_callz (va_runS (As := [.int (iI a2), .int (iI 1), .int (iI 20)]) (rest := []) ⟨hx, hb, hml, hown, hts⟩ (cR_in l D dA b M1 a2 1 20 _ h) (va_cwS 3 hts (z_gS k1083 k1084 k14 k1085) rfl rfl rfl dm_X12_in.2 ⟨Nat.le_of_ble_eq_true rfl, Nat.le_of_ble_eq_true rfl⟩) ⟨wPre_blind, w_pre hS hK⟩ rfl rfl hl.1 rfl (lv_room (Nat.le_of_ble_eq_true rfl)) dX12_heads_29 ⟨Nat.le_refl _, Nat.le_refl _⟩) hS0 (fun z14 M13 H locs r15 h hS hS0 => ?_)
      obtain ⟨e16, h⟩ := h
      rw [e16] at hS
      refine w_if_eq (tgt := 46) hx hb (sI_01 r15) dX12_heads_32 (by decide) (fun c17 => ?_) (fun c17 => ?_)
      · skip
        have h := h.1 c17
        refine z_iconst hx hb dX12_heads_46 ?_
        exact w_zret hx hb hr hlocks hS hS0 (sI_of (by decide)) (by decide) h dX12_heads_47
      · skip
        have h := h.2 c17
        refine lv_iload hx hb dX12_heads_35 (lv_at hl 4 rfl) ?_
        refine z_iconst hx hb dX12_heads_37 ?_
        refine z_bipush hx hb (by decide) dX12_heads_38 ?_
        refine w_callz (va_runS (As := [.int (iI a3), .int (iI 0), .int (iI 100)]) (rest := []) ⟨hx, hb, hml, hown, hts⟩ (cR_in l D dA b M1 a3 0 100 _ h) (va_cwS 3 hts (z_gS k1083 k1084 k14 k1085) rfl rfl rfl dm_X12_in.2 ⟨Nat.le_of_ble_eq_true rfl, Nat.le_of_ble_eq_true rfl⟩) ⟨wPre_blind, w_pre hS hK⟩ rfl rfl hl.1 rfl (lv_room (Nat.le_of_ble_eq_true rfl)) dX12_heads_40 ⟨Nat.le_refl _, Nat.le_refl _⟩) hS0 (fun z19 M18 H locs r20 h hS hS0 => ?_)
        obtain ⟨e21, h⟩ := h
        rw [e21] at hS
        refine w_if_ne (tgt := 48) hx hb (sI_01 r20) dX12_heads_43 (by decide) (fun c22 => ?_) (fun c22 => ?_)
        · skip
          have h := h.1 c22
          refine lv_aload_n hx hb dX12_heads_48 rfl (lv_at hl 0 rfl) ?_
          refine lv_iload_n hx hb dX12_heads_49 rfl (lv_at hl 1 rfl) ?_
          refine w_puti hx hb hts (z_memU u12) tyX12 tyX12_ok nmX12 hown hK.1 hS hS0 f12_18 (by decide) (zkd_of (rfl : zcd wR 0 = 50) rfl) (Or.inl (hts _ (z_mem k962))) rfl (z := a0) (by decide +kernel) dX12_heads_50 (fun H locs hS hS0 => ?_)
          obtain ⟨M23, e24⟩ : ∃ M23 : zM, M23 = zup M1 0 18 a0 := ⟨_, rfl⟩
          rw [← e24] at hS
          have h := h M23 e24
          refine lv_aload_n hx hb dX12_heads_53 rfl (lv_at hl 0 rfl) ?_
          refine lv_iload_n hx hb dX12_heads_54 rfl (lv_at hl 2 rfl) ?_
          refine w_puti hx hb hts (z_memU u12) tyX12 tyX12_ok nmX12 hown hK.1 hS hS0 f12_19 (by decide) (zkd_of (rfl : zcd wR 0 = 50) rfl) (Or.inl (hts _ (z_mem k963))) rfl (z := a1) (by decide +kernel) dX12_heads_55 (fun H locs hS hS0 => ?_)
          obtain ⟨M25, e26⟩ : ∃ M25 : zM, M25 = zup M23 0 19 a1 := ⟨_, rfl⟩
          rw [← e26] at hS
          have h := h M25 e26
          refine lv_aload_n hx hb dX12_heads_58 rfl (lv_at hl 0 rfl) ?_
          refine lv_iload_n hx hb dX12_heads_59 rfl (lv_at hl 3 rfl) ?_
          refine w_puti hx hb hts (z_memU u12) tyX12 tyX12_ok nmX12 hown hK.1 hS hS0 f12_20 (by decide) (zkd_of (rfl : zcd wR 0 = 50) rfl) (Or.inl (hts _ (z_mem k964))) rfl (z := a2) (by decide +kernel) dX12_heads_60 (fun H locs hS hS0 => ?_)
          obtain ⟨M27, e28⟩ : ∃ M27 : zM, M27 = zup M25 0 20 a2 := ⟨_, rfl⟩
          rw [← e28] at hS
          have h := h M27 e28
          refine lv_aload_n hx hb dX12_heads_63 rfl (lv_at hl 0 rfl) ?_
          refine lv_iload hx hb dX12_heads_64 (lv_at hl 4 rfl) ?_
          refine w_puti hx hb hts (z_memU u12) tyX12 tyX12_ok nmX12 hown hK.1 hS hS0 f12_21 (by decide) (zkd_of (rfl : zcd wR 0 = 50) rfl) (Or.inl (hts _ (z_mem k965))) rfl (z := a3) (by decide +kernel) dX12_heads_66 (fun H locs hS hS0 => ?_)
          obtain ⟨M29, e30⟩ : ∃ M29 : zM, M29 = zup M27 0 21 a3 := ⟨_, rfl⟩
          rw [← e30] at hS
          have h := h M29 e30
          refine z_iconst hx hb dX12_heads_69 ?_
          exact w_zret hx hb hr hlocks hS hS0 (sI_of (by decide)) (by decide) h dX12_heads_70
        · skip
          have h := h.2 c22
          refine z_iconst hx hb dX12_heads_46 ?_
          exact w_zret hx hb hr hlocks hS hS0 (sI_of (by decide)) (by decide) h dX12_heads_47

set_option maxRecDepth 100000 in
def wR_stop (a0 : Int) (M : zM) (Q : Int → zM → Prop) : Prop := (∀ M1 : zM, M1 = zup M 0 35 0 → wR_in a0 0 2000 M1 (fun z4 => (z4 ≠ 0 → (∀ M8 : zM, M8 = zup M1 0 22 a0 → Q (sI (M1 0 22)) M8)) ∧ (z4 = 0 → Q (-1) M1)))
set_option maxHeartbeats 4000000 in
set_option maxRecDepth 100000 in
theorem cR_stop (l : Launch) (D : va_G) (dA : Nat → ClassId) (b : Nat) (M : zM) (a0 : Int)  (Q : Int → zM → Prop) (h : wR_stop a0 M Q) : Met l yX12_stop (.code yX12_stop cX12_stop 3 (some .int) :: zt) (z_rm 1) (va_Pc [.ref (b + 0), .int (iI a0)] (wPre D dA vwCl (z_tys dA) wR nR b M)) (va_Qi (wQi Q) (zB D dA vwCl wR nR b) (zA nR b)) 0 0 (zA nR b) := by
  unfold wR_stop at h
  refine Met.ofW (cc := cX12_stop) (maxL := 3) (ret := (some .int)) (by decide) rfl ?_
  intro p e s m args below meth c s₁ B hml hv
  obtain ⟨hargs, hS, hK⟩ := hv
  have hx := B.exec
  have hb := B.bytes
  have hr := B.returns
  have hts := atoms_spec (ws := .code yX12_stop cX12_stop 3 (some .int) :: zt) B.pre
  have hown : s.vm.findClass RX12 = some m.cls := findClass_of_methodNamed B.named
  have hlocks := B.notSynchronized
  have hS0 : va_S (zA nR b) s.heap s.heap [] := va_S.rf
  have hl := lv_entry ([.ref (b + 0), .int (iI a0)]) (n := 3) (Nat.le_of_ble_eq_true rfl)
  have hent : entryFrame m args 3 = F0 m 0 ((lg_sl ([.ref (b + 0), .int (iI a0)]) ++ List.replicate (3 - (lg_sl ([.ref (b + 0), .int (iI a0)])).length) Slot.unset).toArray) [] := by rw [hargs]; exact lg_entry_eq m ([.ref (b + 0), .int (iI a0)]) 3
  rw [hent]
  generalize (lg_sl ([.ref (b + 0), .int (iI a0)]) ++ List.replicate (3 - (lg_sl ([.ref (b + 0), .int (iI a0)])).length) Slot.unset).toArray = ls at hl ⊢
  have hl : lv_has ls 3 [(0, .ref (b + 0)), (1, .int (iI a0))] := hl
  refine lv_aload_n hx hb dX12_stop_0 rfl (lv_at hl 0 rfl) ?_
  refine z_iconst hx hb dX12_stop_1 ?_
  refine w_puti hx hb hts (z_memU u12) tyX12 tyX12_ok nmX12 hown hK.1 hS hS0 f12_35 (by decide) (zkd_of (rfl : zcd wR 0 = 50) rfl) (Or.inl (hts _ (z_mem k979))) rfl (z := 0) (by decide +kernel) dX12_stop_2 (fun H locs hS hS0 => ?_)
  obtain ⟨M1, e2⟩ : ∃ M1 : zM, M1 = zup M 0 35 0 := ⟨_, rfl⟩
  rw [← e2] at hS
  have h := h M1 e2
  refine lv_iload_n hx hb dX12_stop_5 rfl (lv_at hl 1 rfl) ?_
  refine z_iconst hx hb dX12_stop_6 ?_
  refine z_sipush hx hb (by decide) dX12_stop_7 ?_
  refine w_callz (va_runS (As := [.int (iI a0), .int (iI 0), .int (iI 2000)]) (rest := []) ⟨hx, hb, hml, hown, hts⟩ (cR_in l D dA b M1 a0 0 2000 _ h) (va_cwS 3 hts (z_gS k1083 k1084 k14 k1085) rfl rfl rfl dm_X12_in.2 ⟨Nat.le_of_ble_eq_true rfl, Nat.le_of_ble_eq_true rfl⟩) ⟨wPre_blind, w_pre hS hK⟩ rfl rfl hl.1 rfl (lv_room (Nat.le_of_ble_eq_true rfl)) dX12_stop_10 ⟨Nat.le_refl _, Nat.le_refl _⟩) hS0 (fun z4 M3 H locs r5 h hS hS0 => ?_)
  obtain ⟨e6, h⟩ := h
  rw [e6] at hS
  refine w_if_ne (tgt := 18) hx hb (sI_01 r5) dX12_stop_13 (by decide) (fun c7 => ?_) (fun c7 => ?_)
  · skip
    have h := h.1 c7
    refine lv_aload_n hx hb dX12_stop_18 rfl (lv_at hl 0 rfl) ?_
    refine w_geti hx hb hts (z_memU u12) hown hK.1 hS f12_22 (by decide) (zkd_of (rfl : zcd wR 0 = 50) rfl) (Or.inl (hts _ (z_mem k966))) dX12_stop_19 ?_
    refine lv_istore_n (lv' := [(2, .int (iI (M1 0 22))), (0, .ref (b + 0)), (1, .int (iI a0))]) hx hb dX12_stop_22 rfl hl (by decide) rfl (fun ls hl => ?_)
    refine lv_aload_n hx hb dX12_stop_23 rfl (lv_at hl 1 rfl) ?_
    refine lv_iload_n hx hb dX12_stop_24 rfl (lv_at hl 2 rfl) ?_
    refine w_puti hx hb hts (z_memU u12) tyX12 tyX12_ok nmX12 hown hK.1 hS hS0 f12_22 (by decide) (zkd_of (rfl : zcd wR 0 = 50) rfl) (Or.inl (hts _ (z_mem k966))) rfl (z := a0) (by decide +kernel) dX12_stop_25 (fun H locs hS hS0 => ?_)
    obtain ⟨M8, e9⟩ : ∃ M8 : zM, M8 = zup M1 0 22 a0 := ⟨_, rfl⟩
    rw [← e9] at hS
    have h := h M8 e9
    refine lv_iload_n hx hb dX12_stop_28 rfl (lv_at hl 0 rfl) ?_
    exact w_iret hx hb hr hlocks hS hS0 rfl h dX12_stop_29
  · skip
    have h := h.2 c7
    refine z_iconst hx hb dX12_stop_16 ?_
    exact w_iret hx hb hr hlocks hS hS0 (sI_of (by decide)) h dX12_stop_17

set_option maxRecDepth 100000 in
def wR_findOuts (a0 : Int) (M : zM) (Q : zM → Prop) : Prop := wL1 (fun K2 x1 M2 => ((sI a0) < (sI x1) → Q M2) ∧ ((sI x1) ≤ (sI a0) → pJ1 (fun J62 => ((sI (M2 0 22)) ≤ (sI x1) → J62 0) ∧ ((sI x1) < (sI (M2 0 22)) → wR_heardInAll (sI x1) M2 (fun z64 => pL2 (fun K28 x67 x68 => (10 ≤ (sI x68) → J62 x67) ∧ ((sI x68) < 10 → ((andI (shrI z64 x68) 1) ≠ 1 → K28 x67 (x68 + 1)) ∧ ((andI (shrI z64 x68) 1) = 1 → ((0 ≤ (sI x68) ∧ (sI x68) < 10) ∧ K28 (x67 + (M2 14 (sI x68).toNat)) (x68 + 1))))) 0 1))) (fun (x32 : Int) => pJ1 (fun J92 => ((sI x1) < (sI (M2 0 18)) → J92 x32) ∧ ((sI (M2 0 18)) ≤ (sI x1) → ((0 ≤ (sI (x1 - (M2 0 18))) ∧ (sI (x1 - (M2 0 18))) < 4001) ∧ (∀ t60 : Int, t60 = (x32 + ((sI ((M2 0 19) * (M2 30 (sI (x1 - (M2 0 18))).toNat))).tdiv 100)) → J92 t60)))) (fun (x39 : Int) => pJ1 (fun J122 => ((sI x1) < (sI (M2 0 20)) → J122 x39) ∧ ((sI (M2 0 20)) ≤ (sI x1) → ((0 ≤ (sI (x1 - (M2 0 20))) ∧ (sI (x1 - (M2 0 20))) < 4001) ∧ (∀ t56 : Int, t56 = (x39 + ((sI ((M2 0 21) * (M2 30 (sI (x1 - (M2 0 20))).toNat))).tdiv 100)) → J122 t56)))) (fun (x46 : Int) => ((0 ≤ (sI x1) ∧ (sI x1) < 4001) ∧ (∀ M50 : zM, M50 = zup M2 30 (sI x1).toNat (min (sI x46) 5000) → K2 (x1 + 1) M50))))))) 0 M
set_option maxHeartbeats 4000000 in
set_option maxRecDepth 100000 in
theorem cR_findOuts (l : Launch) (D : va_G) (dA : Nat → ClassId) (b : Nat) (M : zM) (a0 : Int)  (Q : zM → Prop) (h : wR_findOuts a0 M Q) : Met l yX12_findOuts (.code yX12_findOuts cX12_findOuts 6 none :: zt) (z_rm 4) (va_Pc [.ref (b + 0), .int (iI a0)] (wPre D dA vwCl (z_tys dA) wR nR b M)) (va_Qv (wQv Q) (zB D dA vwCl wR nR b) (zA nR b)) 0 0 (zA nR b) := by
  unfold wR_findOuts at h
  refine Met.ofW (cc := cX12_findOuts) (maxL := 6) (ret := none) (by decide) rfl ?_
  intro p e s m args below meth c s₁ B hml hv
  obtain ⟨hargs, hS, hK⟩ := hv
  have hx := B.exec
  have hb := B.bytes
  have hr := B.returns
  have hts := atoms_spec (ws := .code yX12_findOuts cX12_findOuts 6 none :: zt) B.pre
  have hown : s.vm.findClass RX12 = some m.cls := findClass_of_methodNamed B.named
  have hlocks := B.notSynchronized
  have hS0 : va_S (zA nR b) s.heap s.heap [] := va_S.rf
  have hl := lv_entry ([.ref (b + 0), .int (iI a0)]) (n := 6) (Nat.le_of_ble_eq_true rfl)
  have hent : entryFrame m args 6 = F0 m 0 ((lg_sl ([.ref (b + 0), .int (iI a0)]) ++ List.replicate (6 - (lg_sl ([.ref (b + 0), .int (iI a0)])).length) Slot.unset).toArray) [] := by rw [hargs]; exact lg_entry_eq m ([.ref (b + 0), .int (iI a0)]) 6
  rw [hent]
  generalize (lg_sl ([.ref (b + 0), .int (iI a0)]) ++ List.replicate (6 - (lg_sl ([.ref (b + 0), .int (iI a0)])).length) Slot.unset).toArray = ls at hl ⊢
  have hl : lv_has ls 6 [(0, .ref (b + 0)), (1, .int (iI a0))] := hl
  refine z_iconst hx hb dX12_findOuts_0 ?_
  refine lv_istore_n (lv' := [(2, .int (iI 0)), (0, .ref (b + 0)), (1, .int (iI a0))]) hx hb dX12_findOuts_1 rfl hl (by decide) rfl (fun ls hl => ?_)
  obtain ⟨I3, ⟨n4, h5⟩, h6⟩ := h
  have L7 : ∀ (n8 : Nat) (x1 : Int) (M2 : zM) (H : Heap) (locs : List Loc) (ls : Array Slot), I3 n8 x1 M2 → zR D dA vwCl wR nR b M2 H → va_S (zA nR b) s.heap H locs → lv_has ls 6 [(0, .ref (b + 0)), (1, .int (iI a0)), (2, .int (iI x1))] → W p l e (headSpec (.code yX12_findOuts cX12_findOuts 6 none :: zt) (z_rm 4)).room s m args below meth c H locs 0 0 (MQ below (va_Qv (wQv Q) (zB D dA vwCl wR nR b) (zA nR b)) args s 0 0 (zA nR b)) (F0 m 2 ls []) := by
    intro n8
    induction n8 using Nat.strongRecOn with
    | ind n8 i9 =>
      intro x1 M2 H locs ls h hS hS0 hl
      have h := h6 n8 x1 M2 h
      refine lv_iload_n hx hb dX12_findOuts_2 rfl (lv_at hl 2 rfl) ?_
      refine lv_iload_n hx hb dX12_findOuts_3 rfl (lv_at hl 1 rfl) ?_
      refine w_icmp_gt (tgt := 141) hx hb rfl rfl dX12_findOuts_4 (by decide) (fun c10 => ?_) (fun c10 => ?_)
      · skip
        have h := h.1 c10
        exact w_vret hx hb hr hlocks hS hS0 h dX12_findOuts_141
      · skip
        have h := h.2 c10
        refine z_iconst hx hb dX12_findOuts_7 ?_
        refine lv_istore_n (lv' := [(3, .int (iI 0)), (0, .ref (b + 0)), (1, .int (iI a0)), (2, .int (iI x1))]) hx hb dX12_findOuts_8 rfl hl (by decide) rfl (fun ls hl => ?_)
        refine lv_iload_n hx hb dX12_findOuts_9 rfl (lv_at hl 3 rfl) ?_
        refine lv_aload_n hx hb dX12_findOuts_10 rfl (lv_at hl 1 rfl) ?_
        refine w_geti hx hb hts (z_memU u12) hown hK.1 hS f12_22 (by decide) (zkd_of (rfl : zcd wR 0 = 50) rfl) (Or.inl (hts _ (z_mem k966))) dX12_findOuts_11 ?_
        obtain ⟨J62, B34, h⟩ := h
        have L33 : ∀ (x32 : Int) (H : Heap) (locs : List Loc) (ls : Array Slot), J62 x32 → zR D dA vwCl wR nR b M2 H → va_S (zA nR b) s.heap H locs → lv_has ls 6 [(0, .ref (b + 0)), (1, .int (iI a0)), (2, .int (iI x1)), (3, .int (iI x32))] → W p l e (headSpec (.code yX12_findOuts cX12_findOuts 6 none :: zt) (z_rm 4)).room s m args below meth c H locs 0 0 (MQ below (va_Qv (wQv Q) (zB D dA vwCl wR nR b) (zA nR b)) args s 0 0 (zA nR b)) (F0 m 62 ls []) := by
          intro x32 H locs ls h hS hS0 hl
          have h := B34 x32 h
          refine lv_iload_n hx hb dX12_findOuts_62 rfl (lv_at hl 2 rfl) ?_
          refine lv_aload_n hx hb dX12_findOuts_63 rfl (lv_at hl 0 rfl) ?_
          refine w_geti hx hb hts (z_memU u12) hown hK.1 hS f12_18 (by decide) (zkd_of (rfl : zcd wR 0 = 50) rfl) (Or.inl (hts _ (z_mem k962))) dX12_findOuts_64 ?_
          obtain ⟨J92, B41, h⟩ := h
          have L40 : ∀ (x39 : Int) (H : Heap) (locs : List Loc) (ls : Array Slot), J92 x39 → zR D dA vwCl wR nR b M2 H → va_S (zA nR b) s.heap H locs → lv_has ls 6 [(0, .ref (b + 0)), (1, .int (iI a0)), (2, .int (iI x1)), (3, .int (iI x39))] → W p l e (headSpec (.code yX12_findOuts cX12_findOuts 6 none :: zt) (z_rm 4)).room s m args below meth c H locs 0 0 (MQ below (va_Qv (wQv Q) (zB D dA vwCl wR nR b) (zA nR b)) args s 0 0 (zA nR b)) (F0 m 92 ls []) := by
            intro x39 H locs ls h hS hS0 hl
            have h := B41 x39 h
            refine lv_iload_n hx hb dX12_findOuts_92 rfl (lv_at hl 2 rfl) ?_
            refine lv_aload_n hx hb dX12_findOuts_93 rfl (lv_at hl 0 rfl) ?_
            refine w_geti hx hb hts (z_memU u12) hown hK.1 hS f12_20 (by decide) (zkd_of (rfl : zcd wR 0 = 50) rfl) (Or.inl (hts _ (z_mem k964))) dX12_findOuts_94 ?_
            obtain ⟨J122, B48, h⟩ := h
            have L47 : ∀ (x46 : Int) (H : Heap) (locs : List Loc) (ls : Array Slot), J122 x46 → zR D dA vwCl wR nR b M2 H → va_S (zA nR b) s.heap H locs → lv_has ls 6 [(0, .ref (b + 0)), (1, .int (iI a0)), (2, .int (iI x1)), (3, .int (iI x46))] → W p l e (headSpec (.code yX12_findOuts cX12_findOuts 6 none :: zt) (z_rm 4)).room s m args below meth c H locs 0 0 (MQ below (va_Qv (wQv Q) (zB D dA vwCl wR nR b) (zA nR b)) args s 0 0 (zA nR b)) (F0 m 122 ls []) := by
              intro x46 H locs ls h hS hS0 hl
              have h := B48 x46 h
              refine lv_aload_n hx hb dX12_findOuts_122 rfl (lv_at hl 0 rfl) ?_
              refine w_getr (j2 := 30) hx hb hts (z_memU u12) hown hK.1 hS f12_45 (by decide) (zkd_of (rfl : zcd wR 0 = 50) rfl) (zrf_of (rfl : zcd wR 0 = 50) rfl) (Or.inl (hts _ (z_mem k989))) dX12_findOuts_123 ?_
              refine lv_iload_n hx hb dX12_findOuts_126 rfl (lv_at hl 2 rfl) ?_
              refine lv_iload_n hx hb dX12_findOuts_127 rfl (lv_at hl 3 rfl) ?_
              refine z_sipush hx hb (by decide) dX12_findOuts_128 ?_
              refine w_mmin hx hb (hml.trans hl.1.symm) hown (hts _ (z_mem k1229)) (hts _ (z_mem k320)) (hts _ (z_mem k15)) (hts _ (z_mem k321)) (by exact Nat.le_of_ble_eq_true rfl) (by exact Nat.le_of_ble_eq_true rfl) (by exact Nat.le_refl _) (by exact Nat.le_refl _) rfl (sI_of (by decide)) dX12_findOuts_131 ?_
              obtain ⟨o49, h⟩ := h
              refine w_iast (z := (min (sI x46) 5000)) (n := 4001) (i := (sI x1)) hx hb hK.1 (t0 := 0) rfl hS hS0 (by decide) (zkd_of (rfl : zcd wR 30 = 80) rfl) (zln_of (rfl : zcd wR 30 = 80) rfl) rfl o49.1 o49.2 (by decide) dX12_findOuts_134 (fun H locs hS hS0 => ?_)
              obtain ⟨M50, e51⟩ : ∃ M50 : zM, M50 = zup M2 30 (sI x1).toNat (min (sI x46) 5000) := ⟨_, rfl⟩
              rw [← e51] at hS
              have h := h M50 e51
              refine z_iinc (lv' := [(2, .int (iI (x1 + 1))), (0, .ref (b + 0)), (1, .int (iI a0)), (3, .int (iI x46))]) hx hb dX12_findOuts_135 hl (k := 2) rfl (by decide) rfl (fun ls hl => ?_)
              refine lv_goto (tgt := 2) hx hb dX12_findOuts_138 (by decide) ?_
              obtain ⟨n52, h53, h⟩ := h
              exact i9 n52 h53 (x1 + 1) M50 _ _ _ h hS hS0 (lv_sub hl [1, 2, 0] rfl)
            refine w_icmp_lt (tgt := 122) hx hb rfl rfl dX12_findOuts_97 (by decide) (fun c54 => ?_) (fun c54 => ?_)
            · skip
              have h := h.1 c54
              exact L47 x39 _ _ _ h hS hS0 (lv_sub hl [0, 1, 2, 3] rfl)
            · skip
              have h := h.2 c54
              refine lv_iload_n hx hb dX12_findOuts_100 rfl (lv_at hl 3 rfl) ?_
              refine lv_aload_n hx hb dX12_findOuts_101 rfl (lv_at hl 0 rfl) ?_
              refine w_geti hx hb hts (z_memU u12) hown hK.1 hS f12_21 (by decide) (zkd_of (rfl : zcd wR 0 = 50) rfl) (Or.inl (hts _ (z_mem k965))) dX12_findOuts_102 ?_
              refine lv_aload_n hx hb dX12_findOuts_105 rfl (lv_at hl 0 rfl) ?_
              refine w_getr (j2 := 30) hx hb hts (z_memU u12) hown hK.1 hS f12_45 (by decide) (zkd_of (rfl : zcd wR 0 = 50) rfl) (zrf_of (rfl : zcd wR 0 = 50) rfl) (Or.inl (hts _ (z_mem k989))) dX12_findOuts_106 ?_
              refine lv_iload_n hx hb dX12_findOuts_109 rfl (lv_at hl 2 rfl) ?_
              refine lv_aload_n hx hb dX12_findOuts_110 rfl (lv_at hl 0 rfl) ?_
              refine w_geti hx hb hts (z_memU u12) hown hK.1 hS f12_20 (by decide) (zkd_of (rfl : zcd wR 0 = 50) rfl) (Or.inl (hts _ (z_mem k964))) dX12_findOuts_111 ?_
              refine z_isub hx hb dX12_findOuts_114 ?_
              obtain ⟨o55, h⟩ := h
              refine w_iald (n := 4001) (i := (sI (x1 - (M2 0 20)))) hx hb hK.1 (t0 := 0) rfl hS (by decide) (zkd_of (rfl : zcd wR 30 = 80) rfl) (zln_of (rfl : zcd wR 30 = 80) rfl) rfl o55.1 o55.2 (by decide) dX12_findOuts_115 ?_
              refine z_imul hx hb dX12_findOuts_116 ?_
              refine z_bipush hx hb (by decide) dX12_findOuts_117 ?_
              refine w_idiv hx hb rfl (sI_of (by decide)) (by decide) dX12_findOuts_119 ?_
              refine z_iadd hx hb dX12_findOuts_120 ?_
              obtain ⟨t56, e57⟩ : ∃ t56 : Int, t56 = (x39 + ((sI ((M2 0 21) * (M2 30 (sI (x1 - (M2 0 20))).toNat))).tdiv 100)) := ⟨_, rfl⟩
              refine z_top (y := t56) e57.symm ?_
              have h := h t56 e57
              refine lv_istore_n (lv' := [(3, .int (iI t56)), (0, .ref (b + 0)), (1, .int (iI a0)), (2, .int (iI x1))]) hx hb dX12_findOuts_121 rfl hl (by decide) rfl (fun ls hl => ?_)
              exact L47 t56 _ _ _ h hS hS0 (lv_sub hl [1, 2, 3, 0] rfl)
          refine w_icmp_lt (tgt := 92) hx hb rfl rfl dX12_findOuts_67 (by decide) (fun c58 => ?_) (fun c58 => ?_)
          · skip
            have h := h.1 c58
            exact L40 x32 _ _ _ h hS hS0 (lv_sub hl [0, 1, 2, 3] rfl)
          · skip
            have h := h.2 c58
            refine lv_iload_n hx hb dX12_findOuts_70 rfl (lv_at hl 3 rfl) ?_
            refine lv_aload_n hx hb dX12_findOuts_71 rfl (lv_at hl 0 rfl) ?_
            refine w_geti hx hb hts (z_memU u12) hown hK.1 hS f12_19 (by decide) (zkd_of (rfl : zcd wR 0 = 50) rfl) (Or.inl (hts _ (z_mem k963))) dX12_findOuts_72 ?_
            refine lv_aload_n hx hb dX12_findOuts_75 rfl (lv_at hl 0 rfl) ?_
            refine w_getr (j2 := 30) hx hb hts (z_memU u12) hown hK.1 hS f12_45 (by decide) (zkd_of (rfl : zcd wR 0 = 50) rfl) (zrf_of (rfl : zcd wR 0 = 50) rfl) (Or.inl (hts _ (z_mem k989))) dX12_findOuts_76 ?_
            refine lv_iload_n hx hb dX12_findOuts_79 rfl (lv_at hl 2 rfl) ?_
            refine lv_aload_n hx hb dX12_findOuts_80 rfl (lv_at hl 0 rfl) ?_
            refine w_geti hx hb hts (z_memU u12) hown hK.1 hS f12_18 (by decide) (zkd_of (rfl : zcd wR 0 = 50) rfl) (Or.inl (hts _ (z_mem k962))) dX12_findOuts_81 ?_
            refine z_isub hx hb dX12_findOuts_84 ?_
            obtain ⟨o59, h⟩ := h
            refine w_iald (n := 4001) (i := (sI (x1 - (M2 0 18)))) hx hb hK.1 (t0 := 0) rfl hS (by decide) (zkd_of (rfl : zcd wR 30 = 80) rfl) (zln_of (rfl : zcd wR 30 = 80) rfl) rfl o59.1 o59.2 (by decide) dX12_findOuts_85 ?_
            refine z_imul hx hb dX12_findOuts_86 ?_
            refine z_bipush hx hb (by decide) dX12_findOuts_87 ?_
            refine w_idiv hx hb rfl (sI_of (by decide)) (by decide) dX12_findOuts_89 ?_
            refine z_iadd hx hb dX12_findOuts_90 ?_
            obtain ⟨t60, e61⟩ : ∃ t60 : Int, t60 = (x32 + ((sI ((M2 0 19) * (M2 30 (sI (x1 - (M2 0 18))).toNat))).tdiv 100)) := ⟨_, rfl⟩
            refine z_top (y := t60) e61.symm ?_
            have h := h t60 e61
            refine lv_istore_n (lv' := [(3, .int (iI t60)), (0, .ref (b + 0)), (1, .int (iI a0)), (2, .int (iI x1))]) hx hb dX12_findOuts_91 rfl hl (by decide) rfl (fun ls hl => ?_)
            exact L40 t60 _ _ _ h hS hS0 (lv_sub hl [1, 2, 3, 0] rfl)
        refine w_icmp_ge (tgt := 62) hx hb rfl rfl dX12_findOuts_14 (by decide) (fun c62 => ?_) (fun c62 => ?_)
        · skip
          have h := h.1 c62
          exact L33 0 _ _ _ h hS hS0 (lv_sub hl [1, 2, 3, 0] rfl)
        · skip
          have h := h.2 c62
          refine lv_aload_n hx hb dX12_findOuts_17 rfl (lv_at hl 1 rfl) ?_
          refine lv_iload_n hx hb dX12_findOuts_18 rfl (lv_at hl 3 rfl) ?_
          refine w_i2l hx hb rfl dX12_findOuts_19 ?_
          refine w_calli (va_runV (As := [.long (iL (sI x1))]) (rest := []) ⟨hx, hb, hml, hown, hts⟩ (cR_heardInAll l D dA b M2 (sI x1) _ h) (cwV 1 hts (z_gV k1151 k1152 k1401 k14 k1153) rfl rfl rfl dm_X12_heardInAll ⟨Nat.le_of_ble_eq_true rfl, Nat.le_of_ble_eq_true rfl⟩) ⟨wPre_blind, (w_recv hS hK.1 (by decide) (zkd_of (rfl : zcd wR 0 = 50) rfl) (by decide) (rfl : vwCl[12]? = some (RX12, TX12, 50))), w_pre hS hK⟩ rfl rfl hl.1 rfl (lv_room (Nat.le_of_ble_eq_true rfl)) dX12_findOuts_20 ⟨Nat.le_refl _, Nat.le_refl _⟩) hS0 (fun z64 M63 H locs r65 h hS hS0 => ?_)
          obtain ⟨e66, h⟩ := h
          rw [e66] at hS
          refine lv_istore (lv' := [(4, .int (iI z64)), (3, .int (iI 0)), (0, .ref (b + 0)), (1, .int (iI a0)), (2, .int (iI x1))]) hx hb dX12_findOuts_23 hl (by decide) rfl (fun ls hl => ?_)
          refine z_iconst hx hb dX12_findOuts_25 ?_
          refine lv_istore (lv' := [(5, .int (iI 1)), (4, .int (iI z64)), (3, .int (iI 0)), (0, .ref (b + 0)), (1, .int (iI a0)), (2, .int (iI x1))]) hx hb dX12_findOuts_26 hl (by decide) rfl (fun ls hl => ?_)
          obtain ⟨I69, ⟨n70, h71⟩, h72⟩ := h
          have L73 : ∀ (n74 : Nat) (x67 x68 : Int) (H : Heap) (locs : List Loc) (ls : Array Slot), I69 n74 x67 x68 → zR D dA vwCl wR nR b M2 H → va_S (zA nR b) s.heap H locs → lv_has ls 6 [(0, .ref (b + 0)), (1, .int (iI a0)), (2, .int (iI x1)), (3, .int (iI x67)), (4, .int (iI z64)), (5, .int (iI x68))] → W p l e (headSpec (.code yX12_findOuts cX12_findOuts 6 none :: zt) (z_rm 4)).room s m args below meth c H locs 0 0 (MQ below (va_Qv (wQv Q) (zB D dA vwCl wR nR b) (zA nR b)) args s 0 0 (zA nR b)) (F0 m 28 ls []) := by
            intro n74
            induction n74 using Nat.strongRecOn with
            | ind n74 i75 =>
              intro x67 x68 H locs ls h hS hS0 hl
              have h := h72 n74 x67 x68 h
              refine lv_iload hx hb dX12_findOuts_28 (lv_at hl 5 rfl) ?_
              refine z_bipush hx hb (by decide) dX12_findOuts_30 ?_
              refine w_icmp_ge (tgt := 62) hx hb rfl (sI_of (by decide)) dX12_findOuts_32 (by decide) (fun c76 => ?_) (fun c76 => ?_)
              · skip
                have h := h.1 c76
                exact L33 x67 _ _ _ h hS hS0 (lv_sub hl [0, 1, 2, 3] rfl)
              · skip
                have h := h.2 c76
                refine lv_iload hx hb dX12_findOuts_35 (lv_at hl 4 rfl) ?_
                refine lv_iload hx hb dX12_findOuts_37 (lv_at hl 5 rfl) ?_
                refine w_ishr hx hb dX12_findOuts_39 ?_
                refine z_iconst hx hb dX12_findOuts_40 ?_
                refine w_iand hx hb dX12_findOuts_41 ?_
                refine z_iconst hx hb dX12_findOuts_42 ?_
                refine w_icmp_ne (tgt := 56) hx hb (sI_of (andI_R _ _)) (sI_of (by decide)) dX12_findOuts_43 (by decide) (fun c77 => ?_) (fun c77 => ?_)
                · skip
                  have h := h.1 c77
                  refine z_iinc (lv' := [(5, .int (iI (x68 + 1))), (0, .ref (b + 0)), (1, .int (iI a0)), (2, .int (iI x1)), (3, .int (iI x67)), (4, .int (iI z64))]) hx hb dX12_findOuts_56 hl (k := 5) rfl (by decide) rfl (fun ls hl => ?_)
                  refine lv_goto (tgt := 28) hx hb dX12_findOuts_59 (by decide) ?_
                  obtain ⟨n78, h79, h⟩ := h
                  exact i75 n78 h79 x67 (x68 + 1) _ _ _ h hS hS0 (lv_sub hl [1, 2, 3, 4, 5, 0] rfl)
                · skip
                  have h := h.2 c77
                  refine lv_iload_n hx hb dX12_findOuts_46 rfl (lv_at hl 3 rfl) ?_
                  refine lv_aload_n hx hb dX12_findOuts_47 rfl (lv_at hl 0 rfl) ?_
                  refine w_getr (j2 := 14) hx hb hts (z_memU u12) hown hK.1 hS f12_17 (by decide) (zkd_of (rfl : zcd wR 0 = 50) rfl) (zrf_of (rfl : zcd wR 0 = 50) rfl) (Or.inl (hts _ (z_mem k961))) dX12_findOuts_48 ?_
                  refine lv_iload hx hb dX12_findOuts_51 (lv_at hl 5 rfl) ?_
                  obtain ⟨o80, h⟩ := h
                  refine w_iald (n := 10) (i := (sI x68)) hx hb hK.1 (t0 := 0) rfl hS (by decide) (zkd_of (rfl : zcd wR 14 = 64) rfl) (zln_of (rfl : zcd wR 14 = 64) rfl) rfl o80.1 o80.2 (by decide) dX12_findOuts_53 ?_
                  refine z_iadd hx hb dX12_findOuts_54 ?_
                  refine lv_istore_n (lv' := [(3, .int (iI (x67 + (M2 14 (sI x68).toNat)))), (0, .ref (b + 0)), (1, .int (iI a0)), (2, .int (iI x1)), (4, .int (iI z64)), (5, .int (iI x68))]) hx hb dX12_findOuts_55 rfl hl (by decide) rfl (fun ls hl => ?_)
                  refine z_iinc (lv' := [(5, .int (iI (x68 + 1))), (3, .int (iI (x67 + (M2 14 (sI x68).toNat)))), (0, .ref (b + 0)), (1, .int (iI a0)), (2, .int (iI x1)), (4, .int (iI z64))]) hx hb dX12_findOuts_56 hl (k := 5) rfl (by decide) rfl (fun ls hl => ?_)
                  refine lv_goto (tgt := 28) hx hb dX12_findOuts_59 (by decide) ?_
                  obtain ⟨n81, h82, h⟩ := h
                  exact i75 n81 h82 (x67 + (M2 14 (sI x68).toNat)) (x68 + 1) _ _ _ h hS hS0 (lv_sub hl [2, 3, 4, 1, 5, 0] rfl)
          exact L73 n70 0 1 _ _ _ h71 hS hS0 (lv_sub hl [3, 4, 5, 2, 1, 0] rfl)
  exact L7 n4 0 M _ _ _ h5 hS hS0 (lv_sub hl [1, 2, 0] rfl)

set_option maxRecDepth 100000 in
def wR_out (a0 : Int) (M : zM) (Q : Int → zM → Prop) : Prop := (∀ M1 : zM, M1 = zup M 0 35 0 → wR_in a0 0 4000 M1 (fun z4 => (z4 ≠ 0 → wR_findOuts a0 M1 (fun M8 => ((0 ≤ (sI a0) ∧ (sI a0) < 4001) ∧ Q (sI (M8 30 (sI a0).toNat)) M8))) ∧ (z4 = 0 → Q (-1) M1)))
set_option maxHeartbeats 4000000 in
set_option maxRecDepth 100000 in
theorem cR_out (l : Launch) (D : va_G) (dA : Nat → ClassId) (b : Nat) (M : zM) (a0 : Int)  (Q : Int → zM → Prop) (h : wR_out a0 M Q) : Met l yX12_out (.code yX12_out cX12_out 2 (some .int) :: zt) (z_rm 5) (va_Pc [.ref (b + 0), .int (iI a0)] (wPre D dA vwCl (z_tys dA) wR nR b M)) (va_Qi (wQi Q) (zB D dA vwCl wR nR b) (zA nR b)) 0 0 (zA nR b) := by
  unfold wR_out at h
  refine Met.ofW (cc := cX12_out) (maxL := 2) (ret := (some .int)) (by decide) rfl ?_
  intro p e s m args below meth c s₁ B hml hv
  obtain ⟨hargs, hS, hK⟩ := hv
  have hx := B.exec
  have hb := B.bytes
  have hr := B.returns
  have hts := atoms_spec (ws := .code yX12_out cX12_out 2 (some .int) :: zt) B.pre
  have hown : s.vm.findClass RX12 = some m.cls := findClass_of_methodNamed B.named
  have hlocks := B.notSynchronized
  have hS0 : va_S (zA nR b) s.heap s.heap [] := va_S.rf
  have hl := lv_entry ([.ref (b + 0), .int (iI a0)]) (n := 2) (Nat.le_of_ble_eq_true rfl)
  have hent : entryFrame m args 2 = F0 m 0 ((lg_sl ([.ref (b + 0), .int (iI a0)]) ++ List.replicate (2 - (lg_sl ([.ref (b + 0), .int (iI a0)])).length) Slot.unset).toArray) [] := by rw [hargs]; exact lg_entry_eq m ([.ref (b + 0), .int (iI a0)]) 2
  rw [hent]
  generalize (lg_sl ([.ref (b + 0), .int (iI a0)]) ++ List.replicate (2 - (lg_sl ([.ref (b + 0), .int (iI a0)])).length) Slot.unset).toArray = ls at hl ⊢
  have hl : lv_has ls 2 [(0, .ref (b + 0)), (1, .int (iI a0))] := hl
  refine lv_aload_n hx hb dX12_out_0 rfl (lv_at hl 0 rfl) ?_
  refine z_iconst hx hb dX12_out_1 ?_
  refine w_puti hx hb hts (z_memU u12) tyX12 tyX12_ok nmX12 hown hK.1 hS hS0 f12_35 (by decide) (zkd_of (rfl : zcd wR 0 = 50) rfl) (Or.inl (hts _ (z_mem k979))) rfl (z := 0) (by decide +kernel) dX12_out_2 (fun H locs hS hS0 => ?_)
  obtain ⟨M1, e2⟩ : ∃ M1 : zM, M1 = zup M 0 35 0 := ⟨_, rfl⟩
  rw [← e2] at hS
  have h := h M1 e2
  refine lv_iload_n hx hb dX12_out_5 rfl (lv_at hl 1 rfl) ?_
  refine z_iconst hx hb dX12_out_6 ?_
  refine z_sipush hx hb (by decide) dX12_out_7 ?_
  refine w_callz (va_runS (As := [.int (iI a0), .int (iI 0), .int (iI 4000)]) (rest := []) ⟨hx, hb, hml, hown, hts⟩ (cR_in l D dA b M1 a0 0 4000 _ h) (va_cwS 3 hts (z_gS k1083 k1084 k14 k1085) rfl rfl rfl dm_X12_in.2 ⟨Nat.le_of_ble_eq_true rfl, Nat.le_of_ble_eq_true rfl⟩) ⟨wPre_blind, w_pre hS hK⟩ rfl rfl hl.1 rfl (lv_room (Nat.le_of_ble_eq_true rfl)) dX12_out_10 ⟨Nat.le_refl _, Nat.le_refl _⟩) hS0 (fun z4 M3 H locs r5 h hS hS0 => ?_)
  obtain ⟨e6, h⟩ := h
  rw [e6] at hS
  refine w_if_ne (tgt := 18) hx hb (sI_01 r5) dX12_out_13 (by decide) (fun c7 => ?_) (fun c7 => ?_)
  · skip
    have h := h.1 c7
    refine lv_aload_n hx hb dX12_out_18 rfl (lv_at hl 0 rfl) ?_
    refine lv_iload_n hx hb dX12_out_19 rfl (lv_at hl 1 rfl) ?_
    refine w_callv (va_runV (As := [.int (iI a0)]) (rest := []) ⟨hx, hb, hml, hown, hts⟩ (cR_findOuts l D dA b M1 a0 _ h) (cwV 1 hts (z_gV k1254 k1255 k1414 k14 k1256) rfl rfl rfl dm_X12_findOuts ⟨Nat.le_of_ble_eq_true rfl, Nat.le_of_ble_eq_true rfl⟩) ⟨wPre_blind, (w_recv hS hK.1 (by decide) (zkd_of (rfl : zcd wR 0 = 50) rfl) (by decide) (rfl : vwCl[12]? = some (RX12, TX12, 50))), w_pre hS hK⟩ rfl rfl hl.1 rfl (lv_room (Nat.le_of_ble_eq_true rfl)) dX12_out_20 ⟨Nat.le_refl _, Nat.le_refl _⟩) hS0 (fun M8 H locs h hS hS0 => ?_)
    refine lv_aload_n hx hb dX12_out_23 rfl (lv_at hl 0 rfl) ?_
    refine w_getr (j2 := 30) hx hb hts (z_memU u12) hown hK.1 hS f12_45 (by decide) (zkd_of (rfl : zcd wR 0 = 50) rfl) (zrf_of (rfl : zcd wR 0 = 50) rfl) (Or.inl (hts _ (z_mem k989))) dX12_out_24 ?_
    refine lv_iload_n hx hb dX12_out_27 rfl (lv_at hl 1 rfl) ?_
    obtain ⟨o9, h⟩ := h
    refine w_iald (n := 4001) (i := (sI a0)) hx hb hK.1 (t0 := 0) rfl hS (by decide) (zkd_of (rfl : zcd wR 30 = 80) rfl) (zln_of (rfl : zcd wR 30 = 80) rfl) rfl o9.1 o9.2 (by decide) dX12_out_28 ?_
    exact w_iret hx hb hr hlocks hS hS0 rfl h dX12_out_29
  · skip
    have h := h.2 c7
    refine z_iconst hx hb dX12_out_16 ?_
    exact w_iret hx hb hr hlocks hS hS0 (sI_of (by decide)) h dX12_out_17

set_option maxRecDepth 100000 in
def wR_areAlike (a0 : Int) (a1 : Int) (M : zM) (Q : Int → Prop) : Prop := pL1 (fun K2 x1 => (20 ≤ (sI x1) → Q 1) ∧ ((sI x1) < 20 → ((0 ≤ (sI (a0 + x1)) ∧ (sI (a0 + x1)) < 4001) ∧ ((0 ≤ (sI (a1 + x1)) ∧ (sI (a1 + x1)) < 4001) ∧ ((sI (M 30 (sI (a0 + x1)).toNat)) = (sI (M 30 (sI (a1 + x1)).toNat)) → K2 (x1 + 1)) ∧ ((sI (M 30 (sI (a0 + x1)).toNat)) ≠ (sI (M 30 (sI (a1 + x1)).toNat)) → Q 0))))) 0
set_option maxHeartbeats 4000000 in
set_option maxRecDepth 100000 in
theorem cR_areAlike (l : Launch) (D : va_G) (dA : Nat → ClassId) (b : Nat) (M : zM) (a0 : Int) (a1 : Int)  (Q : Int → Prop) (h : wR_areAlike a0 a1 M Q) : Met l yX12_areAlike (.code yX12_areAlike cX12_areAlike 4 (some .boolean) :: zt) (z_rm 0) (va_Pc [.ref (b + 0), .int (iI a0), .int (iI a1)] (wPre D dA vwCl (z_tys dA) wR nR b M)) (va_Qi (wQz (fun z9 u9 => u9 = M ∧ Q z9)) (zB D dA vwCl wR nR b) (zA nR b)) 0 0 (zA nR b) := by
  unfold wR_areAlike at h
  refine Met.ofW (cc := cX12_areAlike) (maxL := 4) (ret := (some .boolean)) (by decide) rfl ?_
  intro p e s m args below meth c s₁ B hml hv
  obtain ⟨hargs, hS, hK⟩ := hv
  have hx := B.exec
  have hb := B.bytes
  have hr := B.returns
  have hts := atoms_spec (ws := .code yX12_areAlike cX12_areAlike 4 (some .boolean) :: zt) B.pre
  have hown : s.vm.findClass RX12 = some m.cls := findClass_of_methodNamed B.named
  have hlocks := B.notSynchronized
  have hS0 : va_S (zA nR b) s.heap s.heap [] := va_S.rf
  have hl := lv_entry ([.ref (b + 0), .int (iI a0), .int (iI a1)]) (n := 4) (Nat.le_of_ble_eq_true rfl)
  have hent : entryFrame m args 4 = F0 m 0 ((lg_sl ([.ref (b + 0), .int (iI a0), .int (iI a1)]) ++ List.replicate (4 - (lg_sl ([.ref (b + 0), .int (iI a0), .int (iI a1)])).length) Slot.unset).toArray) [] := by rw [hargs]; exact lg_entry_eq m ([.ref (b + 0), .int (iI a0), .int (iI a1)]) 4
  rw [hent]
  generalize (lg_sl ([.ref (b + 0), .int (iI a0), .int (iI a1)]) ++ List.replicate (4 - (lg_sl ([.ref (b + 0), .int (iI a0), .int (iI a1)])).length) Slot.unset).toArray = ls at hl ⊢
  have hl : lv_has ls 4 [(0, .ref (b + 0)), (1, .int (iI a0)), (2, .int (iI a1))] := hl
  refine z_iconst hx hb dX12_areAlike_0 ?_
  refine lv_istore_n (lv' := [(3, .int (iI 0)), (0, .ref (b + 0)), (1, .int (iI a0)), (2, .int (iI a1))]) hx hb dX12_areAlike_1 rfl hl (by decide) rfl (fun ls hl => ?_)
  obtain ⟨I2, ⟨n3, h4⟩, h5⟩ := h
  have L6 : ∀ (n7 : Nat) (x1 : Int) (H : Heap) (locs : List Loc) (ls : Array Slot), I2 n7 x1 → zR D dA vwCl wR nR b M H → va_S (zA nR b) s.heap H locs → lv_has ls 4 [(0, .ref (b + 0)), (1, .int (iI a0)), (2, .int (iI a1)), (3, .int (iI x1))] → W p l e (headSpec (.code yX12_areAlike cX12_areAlike 4 (some .boolean) :: zt) (z_rm 0)).room s m args below meth c H locs 0 0 (MQ below (va_Qi (wQz (fun z9 u9 => u9 = M ∧ Q z9)) (zB D dA vwCl wR nR b) (zA nR b)) args s 0 0 (zA nR b)) (F0 m 2 ls []) := by
    intro n7
    induction n7 using Nat.strongRecOn with
    | ind n7 i8 =>
      intro x1 H locs ls h hS hS0 hl
      have h := h5 n7 x1 h
      refine lv_iload_n hx hb dX12_areAlike_2 rfl (lv_at hl 3 rfl) ?_
      refine z_bipush hx hb (by decide) dX12_areAlike_3 ?_
      refine w_icmp_ge (tgt := 35) hx hb rfl (sI_of (by decide)) dX12_areAlike_5 (by decide) (fun c9 => ?_) (fun c9 => ?_)
      · skip
        have h := h.1 c9
        refine z_iconst hx hb dX12_areAlike_35 ?_
        exact w_zret hx hb hr hlocks hS hS0 (sI_of (by decide)) (by decide) ⟨rfl, h⟩ dX12_areAlike_36
      · skip
        have h := h.2 c9
        refine lv_aload_n hx hb dX12_areAlike_8 rfl (lv_at hl 0 rfl) ?_
        refine w_getr (j2 := 30) hx hb hts (z_memU u12) hown hK.1 hS f12_45 (by decide) (zkd_of (rfl : zcd wR 0 = 50) rfl) (zrf_of (rfl : zcd wR 0 = 50) rfl) (Or.inl (hts _ (z_mem k989))) dX12_areAlike_9 ?_
        refine lv_iload_n hx hb dX12_areAlike_12 rfl (lv_at hl 1 rfl) ?_
        refine lv_iload_n hx hb dX12_areAlike_13 rfl (lv_at hl 3 rfl) ?_
        refine z_iadd hx hb dX12_areAlike_14 ?_
        obtain ⟨o10, h⟩ := h
        refine w_iald (n := 4001) (i := (sI (a0 + x1))) hx hb hK.1 (t0 := 0) rfl hS (by decide) (zkd_of (rfl : zcd wR 30 = 80) rfl) (zln_of (rfl : zcd wR 30 = 80) rfl) rfl o10.1 o10.2 (by decide) dX12_areAlike_15 ?_
        refine lv_aload_n hx hb dX12_areAlike_16 rfl (lv_at hl 0 rfl) ?_
        refine w_getr (j2 := 30) hx hb hts (z_memU u12) hown hK.1 hS f12_45 (by decide) (zkd_of (rfl : zcd wR 0 = 50) rfl) (zrf_of (rfl : zcd wR 0 = 50) rfl) (Or.inl (hts _ (z_mem k989))) dX12_areAlike_17 ?_
        refine lv_iload_n hx hb dX12_areAlike_20 rfl (lv_at hl 2 rfl) ?_
        refine lv_iload_n hx hb dX12_areAlike_21 rfl (lv_at hl 3 rfl) ?_
        refine z_iadd hx hb dX12_areAlike_22 ?_
        obtain ⟨o11, h⟩ := h
        refine w_iald (n := 4001) (i := (sI (a1 + x1))) hx hb hK.1 (t0 := 0) rfl hS (by decide) (zkd_of (rfl : zcd wR 30 = 80) rfl) (zln_of (rfl : zcd wR 30 = 80) rfl) rfl o11.1 o11.2 (by decide) dX12_areAlike_23 ?_
        refine w_icmp_eq (tgt := 29) hx hb rfl rfl dX12_areAlike_24 (by decide) (fun c12 => ?_) (fun c12 => ?_)
        · skip
          have h := h.1 c12
          refine z_iinc (lv' := [(3, .int (iI (x1 + 1))), (0, .ref (b + 0)), (1, .int (iI a0)), (2, .int (iI a1))]) hx hb dX12_areAlike_29 hl (k := 3) rfl (by decide) rfl (fun ls hl => ?_)
          refine lv_goto (tgt := 2) hx hb dX12_areAlike_32 (by decide) ?_
          obtain ⟨n13, h14, h⟩ := h
          exact i8 n13 h14 (x1 + 1) _ _ _ h hS hS0 (lv_sub hl [1, 2, 3, 0] rfl)
        · skip
          have h := h.2 c12
          refine z_iconst hx hb dX12_areAlike_27 ?_
          exact w_zret hx hb hr hlocks hS hS0 (sI_of (by decide)) (by decide) ⟨rfl, h⟩ dX12_areAlike_28
  exact L6 n3 0 _ _ _ h4 hS hS0 (lv_sub hl [1, 2, 3, 0] rfl)

set_option maxRecDepth 100000 in
def wR_dies  (M : zM) (Q : Int → zM → Prop) : Prop := (∀ M1 : zM, M1 = zup M 0 35 0 → wR_findOuts 4000 M1 (fun M3 => pL2 (fun K19 x4 x5 => (4000 < (sI x5) → pL1 (fun K70 x14 => pJ0 (fun J93 => ((sI x14) < (sI (M3 0 22)) → J93) ∧ ((sI (M3 0 22)) ≤ (sI x14) → wR_areAlike x14 3981 M3 (fun z63 => (z63 ≠ 0 → J93) ∧ (z63 = 0 → K70 (x14 + (-1)))))) (((sI (M3 0 22)) ≤ (sI x14) → pL1 (fun K112 x33 => pJ0 (fun J151 => ((sI x33) ≤ (sI (M3 0 22)) → J151) ∧ ((sI (M3 0 22)) < (sI x33) → ((0 ≤ (sI (x33 - 1)) ∧ (sI (x33 - 1)) < 4001) ∧ ((0 ≤ (sI ((x33 - 1) + (3981 - x14))) ∧ (sI ((x33 - 1) + (3981 - x14))) < 4001) ∧ ((sI (M3 30 (sI (x33 - 1)).toNat)) ≠ (sI (M3 30 (sI ((x33 - 1) + (3981 - x14))).toNat)) → J151) ∧ ((sI (M3 30 (sI (x33 - 1)).toNat)) = (sI (M3 30 (sI ((x33 - 1) + (3981 - x14))).toNat)) → K112 (x33 + (-1))))))) ((∀ M49 : zM, M49 = zup M3 22 0 x33 → (∀ M51 : zM, M51 = zup M49 22 1 (3981 - x14) → (∀ M53 : zM, M53 = zup M51 0 34 2 → Q (-2) M53))))) x14) ∧ ((sI x14) < (sI (M3 0 22)) → Q (-3) M3))) 3980) ∧ ((sI x5) ≤ 4000 → ((0 ≤ (sI x5) ∧ (sI x5) < 4001) ∧ pJ1 (fun J42 => ((sI (M3 30 (sI x5).toNat)) ≠ 0 → J42 0) ∧ ((sI (M3 30 (sI x5).toNat)) = 0 → J42 (x4 + 1))) (fun (x71 : Int) => ((sI x71) ≠ 20 → K19 x71 (x5 + 1)) ∧ ((sI x71) = 20 → Q (sI ((x5 - 20) + 1)) M3))))) 0 (M3 0 22)))
set_option maxHeartbeats 4000000 in
set_option maxRecDepth 100000 in
theorem cR_dies (l : Launch) (D : va_G) (dA : Nat → ClassId) (b : Nat) (M : zM)   (Q : Int → zM → Prop) (h : wR_dies  M Q) : Met l yX12_dies (.code yX12_dies cX12_dies 6 (some .int) :: zt) (z_rm 5) (va_Pc [.ref (b + 0)] (wPre D dA vwCl (z_tys dA) wR nR b M)) (va_Qi (wQi Q) (zB D dA vwCl wR nR b) (zA nR b)) 0 0 (zA nR b) := by
  unfold wR_dies at h
  refine Met.ofW (cc := cX12_dies) (maxL := 6) (ret := (some .int)) (by decide) rfl ?_
  intro p e s m args below meth c s₁ B hml hv
  obtain ⟨hargs, hS, hK⟩ := hv
  have hx := B.exec
  have hb := B.bytes
  have hr := B.returns
  have hts := atoms_spec (ws := .code yX12_dies cX12_dies 6 (some .int) :: zt) B.pre
  have hown : s.vm.findClass RX12 = some m.cls := findClass_of_methodNamed B.named
  have hlocks := B.notSynchronized
  have hS0 : va_S (zA nR b) s.heap s.heap [] := va_S.rf
  have hl := lv_entry ([.ref (b + 0)]) (n := 6) (Nat.le_of_ble_eq_true rfl)
  have hent : entryFrame m args 6 = F0 m 0 ((lg_sl ([.ref (b + 0)]) ++ List.replicate (6 - (lg_sl ([.ref (b + 0)])).length) Slot.unset).toArray) [] := by rw [hargs]; exact lg_entry_eq m ([.ref (b + 0)]) 6
  rw [hent]
  generalize (lg_sl ([.ref (b + 0)]) ++ List.replicate (6 - (lg_sl ([.ref (b + 0)])).length) Slot.unset).toArray = ls at hl ⊢
  have hl : lv_has ls 6 [(0, .ref (b + 0))] := hl
  refine lv_aload_n hx hb dX12_dies_0 rfl (lv_at hl 0 rfl) ?_
  refine z_iconst hx hb dX12_dies_1 ?_
  refine w_puti hx hb hts (z_memU u12) tyX12 tyX12_ok nmX12 hown hK.1 hS hS0 f12_35 (by decide) (zkd_of (rfl : zcd wR 0 = 50) rfl) (Or.inl (hts _ (z_mem k979))) rfl (z := 0) (by decide +kernel) dX12_dies_2 (fun H locs hS hS0 => ?_)
  obtain ⟨M1, e2⟩ : ∃ M1 : zM, M1 = zup M 0 35 0 := ⟨_, rfl⟩
  rw [← e2] at hS
  have h := h M1 e2
  refine lv_aload_n hx hb dX12_dies_5 rfl (lv_at hl 0 rfl) ?_
  refine z_sipush hx hb (by decide) dX12_dies_6 ?_
  refine w_callv (va_runV (As := [.int (iI 4000)]) (rest := []) ⟨hx, hb, hml, hown, hts⟩ (cR_findOuts l D dA b M1 4000 _ h) (cwV 1 hts (z_gV k1254 k1255 k1414 k14 k1256) rfl rfl rfl dm_X12_findOuts ⟨Nat.le_of_ble_eq_true rfl, Nat.le_of_ble_eq_true rfl⟩) ⟨wPre_blind, (w_recv hS hK.1 (by decide) (zkd_of (rfl : zcd wR 0 = 50) rfl) (by decide) (rfl : vwCl[12]? = some (RX12, TX12, 50))), w_pre hS hK⟩ rfl rfl hl.1 rfl (lv_room (Nat.le_of_ble_eq_true rfl)) dX12_dies_9 ⟨Nat.le_refl _, Nat.le_refl _⟩) hS0 (fun M3 H locs h hS hS0 => ?_)
  refine z_iconst hx hb dX12_dies_12 ?_
  refine lv_istore_n (lv' := [(1, .int (iI 0)), (0, .ref (b + 0))]) hx hb dX12_dies_13 rfl hl (by decide) rfl (fun ls hl => ?_)
  refine lv_aload_n hx hb dX12_dies_14 rfl (lv_at hl 1 rfl) ?_
  refine w_geti hx hb hts (z_memU u12) hown hK.1 hS f12_22 (by decide) (zkd_of (rfl : zcd wR 0 = 50) rfl) (Or.inl (hts _ (z_mem k966))) dX12_dies_15 ?_
  refine lv_istore_n (lv' := [(2, .int (iI (M3 0 22))), (1, .int (iI 0)), (0, .ref (b + 0))]) hx hb dX12_dies_18 rfl hl (by decide) rfl (fun ls hl => ?_)
  obtain ⟨I6, ⟨n7, h8⟩, h9⟩ := h
  have L10 : ∀ (n11 : Nat) (x4 x5 : Int) (H : Heap) (locs : List Loc) (ls : Array Slot), I6 n11 x4 x5 → zR D dA vwCl wR nR b M3 H → va_S (zA nR b) s.heap H locs → lv_has ls 6 [(0, .ref (b + 0)), (1, .int (iI x4)), (2, .int (iI x5))] → W p l e (headSpec (.code yX12_dies cX12_dies 6 (some .int) :: zt) (z_rm 5)).room s m args below meth c H locs 0 0 (MQ below (va_Qi (wQi Q) (zB D dA vwCl wR nR b) (zA nR b)) args s 0 0 (zA nR b)) (F0 m 19 ls []) := by
    intro n11
    induction n11 using Nat.strongRecOn with
    | ind n11 i12 =>
      intro x4 x5 H locs ls h hS hS0 hl
      have h := h9 n11 x4 x5 h
      refine lv_iload_n hx hb dX12_dies_19 rfl (lv_at hl 2 rfl) ?_
      refine z_sipush hx hb (by decide) dX12_dies_20 ?_
      refine w_icmp_gt (tgt := 62) hx hb rfl (sI_of (by decide)) dX12_dies_23 (by decide) (fun c13 => ?_) (fun c13 => ?_)
      · skip
        have h := h.1 c13
        refine z_sipush hx hb (by decide) dX12_dies_62 ?_
        refine lv_istore_n (lv' := [(2, .int (iI 3981)), (0, .ref (b + 0)), (1, .int (iI x4))]) hx hb dX12_dies_65 rfl hl (by decide) rfl (fun ls hl => ?_)
        refine lv_iload_n hx hb dX12_dies_66 rfl (lv_at hl 0 rfl) ?_
        refine z_iconst hx hb dX12_dies_67 ?_
        refine z_isub hx hb dX12_dies_68 ?_
        refine z_top (show ((3981 - 1) : Int) = 3980 from by decide) ?_
        refine lv_istore_n (lv' := [(3, .int (iI 3980)), (2, .int (iI 3981)), (0, .ref (b + 0)), (1, .int (iI x4))]) hx hb dX12_dies_69 rfl hl (by decide) rfl (fun ls hl => ?_)
        obtain ⟨I15, ⟨n16, h17⟩, h18⟩ := h
        have L19 : ∀ (n20 : Nat) (x14 : Int) (H : Heap) (locs : List Loc) (ls : Array Slot), I15 n20 x14 → zR D dA vwCl wR nR b M3 H → va_S (zA nR b) s.heap H locs → lv_has ls 6 [(0, .ref (b + 0)), (2, .int (iI 3981)), (3, .int (iI x14))] → W p l e (headSpec (.code yX12_dies cX12_dies 6 (some .int) :: zt) (z_rm 5)).room s m args below meth c H locs 0 0 (MQ below (va_Qi (wQi Q) (zB D dA vwCl wR nR b) (zA nR b)) args s 0 0 (zA nR b)) (F0 m 70 ls []) := by
          intro n20
          induction n20 using Nat.strongRecOn with
          | ind n20 i21 =>
            intro x14 H locs ls h hS hS0 hl
            have h := h18 n20 x14 h
            refine lv_iload_n hx hb dX12_dies_70 rfl (lv_at hl 2 rfl) ?_
            refine lv_aload_n hx hb dX12_dies_71 rfl (lv_at hl 0 rfl) ?_
            refine w_geti hx hb hts (z_memU u12) hown hK.1 hS f12_22 (by decide) (zkd_of (rfl : zcd wR 0 = 50) rfl) (Or.inl (hts _ (z_mem k966))) dX12_dies_72 ?_
            obtain ⟨J93, B31, h⟩ := h
            have L30 : ∀ (H : Heap) (locs : List Loc) (ls : Array Slot), J93 → zR D dA vwCl wR nR b M3 H → va_S (zA nR b) s.heap H locs → lv_has ls 6 [(0, .ref (b + 0)), (2, .int (iI 3981)), (3, .int (iI x14))] → W p l e (headSpec (.code yX12_dies cX12_dies 6 (some .int) :: zt) (z_rm 5)).room s m args below meth c H locs 0 0 (MQ below (va_Qi (wQi Q) (zB D dA vwCl wR nR b) (zA nR b)) args s 0 0 (zA nR b)) (F0 m 93 ls []) := by
              intro  H locs ls h hS hS0 hl
              have h := B31 h
              refine lv_iload_n hx hb dX12_dies_93 rfl (lv_at hl 2 rfl) ?_
              refine lv_aload_n hx hb dX12_dies_94 rfl (lv_at hl 0 rfl) ?_
              refine w_geti hx hb hts (z_memU u12) hown hK.1 hS f12_22 (by decide) (zkd_of (rfl : zcd wR 0 = 50) rfl) (Or.inl (hts _ (z_mem k966))) dX12_dies_95 ?_
              refine w_icmp_ge (tgt := 104) hx hb rfl rfl dX12_dies_98 (by decide) (fun c32 => ?_) (fun c32 => ?_)
              · skip
                have h := h.1 c32
                refine lv_iload_n hx hb dX12_dies_104 rfl (lv_at hl 1 rfl) ?_
                refine lv_iload_n hx hb dX12_dies_105 rfl (lv_at hl 2 rfl) ?_
                refine z_isub hx hb dX12_dies_106 ?_
                refine lv_istore (lv' := [(4, .int (iI (3981 - x14))), (0, .ref (b + 0)), (2, .int (iI 3981)), (3, .int (iI x14))]) hx hb dX12_dies_107 hl (by decide) rfl (fun ls hl => ?_)
                refine lv_iload_n hx hb dX12_dies_109 rfl (lv_at hl 3 rfl) ?_
                refine lv_istore (lv' := [(5, .int (iI x14)), (4, .int (iI (3981 - x14))), (0, .ref (b + 0)), (2, .int (iI 3981)), (3, .int (iI x14))]) hx hb dX12_dies_110 hl (by decide) rfl (fun ls hl => ?_)
                obtain ⟨I34, ⟨n35, h36⟩, h37⟩ := h
                have L38 : ∀ (n39 : Nat) (x33 : Int) (H : Heap) (locs : List Loc) (ls : Array Slot), I34 n39 x33 → zR D dA vwCl wR nR b M3 H → va_S (zA nR b) s.heap H locs → lv_has ls 6 [(0, .ref (b + 0)), (4, .int (iI (3981 - x14))), (5, .int (iI x33))] → W p l e (headSpec (.code yX12_dies cX12_dies 6 (some .int) :: zt) (z_rm 5)).room s m args below meth c H locs 0 0 (MQ below (va_Qi (wQi Q) (zB D dA vwCl wR nR b) (zA nR b)) args s 0 0 (zA nR b)) (F0 m 112 ls []) := by
                  intro n39
                  induction n39 using Nat.strongRecOn with
                  | ind n39 i40 =>
                    intro x33 H locs ls h hS hS0 hl
                    have h := h37 n39 x33 h
                    refine lv_iload hx hb dX12_dies_112 (lv_at hl 2 rfl) ?_
                    refine lv_aload_n hx hb dX12_dies_114 rfl (lv_at hl 0 rfl) ?_
                    refine w_geti hx hb hts (z_memU u12) hown hK.1 hS f12_22 (by decide) (zkd_of (rfl : zcd wR 0 = 50) rfl) (Or.inl (hts _ (z_mem k966))) dX12_dies_115 ?_
                    obtain ⟨J151, B48, h⟩ := h
                    have L47 : ∀ (H : Heap) (locs : List Loc) (ls : Array Slot), J151 → zR D dA vwCl wR nR b M3 H → va_S (zA nR b) s.heap H locs → lv_has ls 6 [(0, .ref (b + 0)), (4, .int (iI (3981 - x14))), (5, .int (iI x33))] → W p l e (headSpec (.code yX12_dies cX12_dies 6 (some .int) :: zt) (z_rm 5)).room s m args below meth c H locs 0 0 (MQ below (va_Qi (wQi Q) (zB D dA vwCl wR nR b) (zA nR b)) args s 0 0 (zA nR b)) (F0 m 151 ls []) := by
                      intro  H locs ls h hS hS0 hl
                      have h := B48 h
                      refine lv_aload_n hx hb dX12_dies_151 rfl (lv_at hl 0 rfl) ?_
                      refine w_getr (j2 := 22) hx hb hts (z_memU u12) hown hK.1 hS f12_33 (by decide) (zkd_of (rfl : zcd wR 0 = 50) rfl) (zrf_of (rfl : zcd wR 0 = 50) rfl) (Or.inl (hts _ (z_mem k977))) dX12_dies_152 ?_
                      refine z_iconst hx hb dX12_dies_155 ?_
                      refine lv_iload hx hb dX12_dies_156 (lv_at hl 2 rfl) ?_
                      refine w_iast (z := x33) (n := 64) (i := 0) hx hb hK.1 (t0 := 0) rfl hS hS0 (by decide) (zkd_of (rfl : zcd wR 22 = 72) rfl) (zln_of (rfl : zcd wR 22 = 72) rfl) (sI_of (by decide)) (by decide) (by decide) (by decide) dX12_dies_158 (fun H locs hS hS0 => ?_)
                      rw [show ((0 : Int).toNat) = 0 from rfl] at hS
                      obtain ⟨M49, e50⟩ : ∃ M49 : zM, M49 = zup M3 22 0 x33 := ⟨_, rfl⟩
                      rw [← e50] at hS
                      have h := h M49 e50
                      refine lv_aload_n hx hb dX12_dies_159 rfl (lv_at hl 0 rfl) ?_
                      refine w_getr (j2 := 22) hx hb hts (z_memU u12) hown hK.1 hS f12_33 (by decide) (zkd_of (rfl : zcd wR 0 = 50) rfl) (zrf_of (rfl : zcd wR 0 = 50) rfl) (Or.inl (hts _ (z_mem k977))) dX12_dies_160 ?_
                      refine z_iconst hx hb dX12_dies_163 ?_
                      refine lv_iload hx hb dX12_dies_164 (lv_at hl 1 rfl) ?_
                      refine w_iast (z := (3981 - x14)) (n := 64) (i := 1) hx hb hK.1 (t0 := 0) rfl hS hS0 (by decide) (zkd_of (rfl : zcd wR 22 = 72) rfl) (zln_of (rfl : zcd wR 22 = 72) rfl) (sI_of (by decide)) (by decide) (by decide) (by decide) dX12_dies_166 (fun H locs hS hS0 => ?_)
                      rw [show ((1 : Int).toNat) = 1 from rfl] at hS
                      obtain ⟨M51, e52⟩ : ∃ M51 : zM, M51 = zup M49 22 1 (3981 - x14) := ⟨_, rfl⟩
                      rw [← e52] at hS
                      have h := h M51 e52
                      refine lv_aload_n hx hb dX12_dies_167 rfl (lv_at hl 0 rfl) ?_
                      refine z_iconst hx hb dX12_dies_168 ?_
                      refine w_puti hx hb hts (z_memU u12) tyX12 tyX12_ok nmX12 hown hK.1 hS hS0 f12_34 (by decide) (zkd_of (rfl : zcd wR 0 = 50) rfl) (Or.inl (hts _ (z_mem k978))) rfl (z := 2) (by decide +kernel) dX12_dies_169 (fun H locs hS hS0 => ?_)
                      obtain ⟨M53, e54⟩ : ∃ M53 : zM, M53 = zup M51 0 34 2 := ⟨_, rfl⟩
                      rw [← e54] at hS
                      have h := h M53 e54
                      refine z_bipush hx hb (by decide) dX12_dies_172 ?_
                      exact w_iret hx hb hr hlocks hS hS0 (sI_of (by decide)) h dX12_dies_174
                    refine w_icmp_le (tgt := 151) hx hb rfl rfl dX12_dies_118 (by decide) (fun c55 => ?_) (fun c55 => ?_)
                    · skip
                      have h := h.1 c55
                      exact L47 _ _ _ h hS hS0 (lv_sub hl [0, 1, 2] rfl)
                    · skip
                      have h := h.2 c55
                      refine lv_aload_n hx hb dX12_dies_121 rfl (lv_at hl 0 rfl) ?_
                      refine w_getr (j2 := 30) hx hb hts (z_memU u12) hown hK.1 hS f12_45 (by decide) (zkd_of (rfl : zcd wR 0 = 50) rfl) (zrf_of (rfl : zcd wR 0 = 50) rfl) (Or.inl (hts _ (z_mem k989))) dX12_dies_122 ?_
                      refine lv_iload hx hb dX12_dies_125 (lv_at hl 2 rfl) ?_
                      refine z_iconst hx hb dX12_dies_127 ?_
                      refine z_isub hx hb dX12_dies_128 ?_
                      obtain ⟨o56, h⟩ := h
                      refine w_iald (n := 4001) (i := (sI (x33 - 1))) hx hb hK.1 (t0 := 0) rfl hS (by decide) (zkd_of (rfl : zcd wR 30 = 80) rfl) (zln_of (rfl : zcd wR 30 = 80) rfl) rfl o56.1 o56.2 (by decide) dX12_dies_129 ?_
                      refine lv_aload_n hx hb dX12_dies_130 rfl (lv_at hl 0 rfl) ?_
                      refine w_getr (j2 := 30) hx hb hts (z_memU u12) hown hK.1 hS f12_45 (by decide) (zkd_of (rfl : zcd wR 0 = 50) rfl) (zrf_of (rfl : zcd wR 0 = 50) rfl) (Or.inl (hts _ (z_mem k989))) dX12_dies_131 ?_
                      refine lv_iload hx hb dX12_dies_134 (lv_at hl 2 rfl) ?_
                      refine z_iconst hx hb dX12_dies_136 ?_
                      refine z_isub hx hb dX12_dies_137 ?_
                      refine lv_iload hx hb dX12_dies_138 (lv_at hl 1 rfl) ?_
                      refine z_iadd hx hb dX12_dies_140 ?_
                      obtain ⟨o57, h⟩ := h
                      refine w_iald (n := 4001) (i := (sI ((x33 - 1) + (3981 - x14)))) hx hb hK.1 (t0 := 0) rfl hS (by decide) (zkd_of (rfl : zcd wR 30 = 80) rfl) (zln_of (rfl : zcd wR 30 = 80) rfl) rfl o57.1 o57.2 (by decide) dX12_dies_141 ?_
                      refine w_icmp_ne (tgt := 151) hx hb rfl rfl dX12_dies_142 (by decide) (fun c58 => ?_) (fun c58 => ?_)
                      · skip
                        have h := h.1 c58
                        exact L47 _ _ _ h hS hS0 (lv_sub hl [0, 1, 2] rfl)
                      · skip
                        have h := h.2 c58
                        refine z_iinc (lv' := [(5, .int (iI (x33 + (-1)))), (0, .ref (b + 0)), (4, .int (iI (3981 - x14)))]) hx hb dX12_dies_145 hl (k := 2) rfl (by decide) rfl (fun ls hl => ?_)
                        refine lv_goto (tgt := 112) hx hb dX12_dies_148 (by decide) ?_
                        obtain ⟨n59, h60, h⟩ := h
                        exact i40 n59 h60 (x33 + (-1)) _ _ _ h hS hS0 (lv_sub hl [1, 2, 0] rfl)
                exact L38 n35 x14 _ _ _ h36 hS hS0 (lv_sub hl [2, 1, 0] rfl)
              · skip
                have h := h.2 c32
                refine z_bipush hx hb (by decide) dX12_dies_101 ?_
                exact w_iret hx hb hr hlocks hS hS0 (sI_of (by decide)) h dX12_dies_103
            refine w_icmp_lt (tgt := 93) hx hb rfl rfl dX12_dies_75 (by decide) (fun c61 => ?_) (fun c61 => ?_)
            · skip
              have h := h.1 c61
              exact L30 _ _ _ h hS hS0 (lv_sub hl [0, 1, 2] rfl)
            · skip
              have h := h.2 c61
              refine lv_aload_n hx hb dX12_dies_78 rfl (lv_at hl 0 rfl) ?_
              refine lv_iload_n hx hb dX12_dies_79 rfl (lv_at hl 2 rfl) ?_
              refine lv_iload_n hx hb dX12_dies_80 rfl (lv_at hl 1 rfl) ?_
              refine w_callz (va_runV (As := [.int (iI x14), .int (iI 3981)]) (rest := []) ⟨hx, hb, hml, hown, hts⟩ (cR_areAlike l D dA b M3 x14 3981 _ h) (cwV 2 hts (z_gV k1261 k1262 k1415 k14 k1263) rfl rfl rfl dm_X12_areAlike ⟨Nat.le_of_ble_eq_true rfl, Nat.le_of_ble_eq_true rfl⟩) ⟨wPre_blind, (w_recv hS hK.1 (by decide) (zkd_of (rfl : zcd wR 0 = 50) rfl) (by decide) (rfl : vwCl[12]? = some (RX12, TX12, 50))), w_pre hS hK⟩ rfl rfl hl.1 rfl (lv_room (Nat.le_of_ble_eq_true rfl)) dX12_dies_81 ⟨Nat.le_refl _, Nat.le_refl _⟩) hS0 (fun z63 M62 H locs r64 h hS hS0 => ?_)
              obtain ⟨e65, h⟩ := h
              rw [e65] at hS
              refine w_if_ne (tgt := 93) hx hb (sI_01 r64) dX12_dies_84 (by decide) (fun c66 => ?_) (fun c66 => ?_)
              · skip
                have h := h.1 c66
                exact L30 _ _ _ h hS hS0 (lv_sub hl [0, 1, 2] rfl)
              · skip
                have h := h.2 c66
                refine z_iinc (lv' := [(3, .int (iI (x14 + (-1)))), (0, .ref (b + 0)), (2, .int (iI 3981))]) hx hb dX12_dies_87 hl (k := 2) rfl (by decide) rfl (fun ls hl => ?_)
                refine lv_goto (tgt := 70) hx hb dX12_dies_90 (by decide) ?_
                obtain ⟨n67, h68, h⟩ := h
                exact i21 n67 h68 (x14 + (-1)) _ _ _ h hS hS0 (lv_sub hl [1, 2, 0] rfl)
        exact L19 n16 3980 _ _ _ h17 hS hS0 (lv_sub hl [2, 1, 0] rfl)
      · skip
        have h := h.2 c13
        refine lv_aload_n hx hb dX12_dies_26 rfl (lv_at hl 0 rfl) ?_
        refine w_getr (j2 := 30) hx hb hts (z_memU u12) hown hK.1 hS f12_45 (by decide) (zkd_of (rfl : zcd wR 0 = 50) rfl) (zrf_of (rfl : zcd wR 0 = 50) rfl) (Or.inl (hts _ (z_mem k989))) dX12_dies_27 ?_
        refine lv_iload_n hx hb dX12_dies_30 rfl (lv_at hl 2 rfl) ?_
        obtain ⟨o69, h⟩ := h
        refine w_iald (n := 4001) (i := (sI x5)) hx hb hK.1 (t0 := 0) rfl hS (by decide) (zkd_of (rfl : zcd wR 30 = 80) rfl) (zln_of (rfl : zcd wR 30 = 80) rfl) rfl o69.1 o69.2 (by decide) dX12_dies_31 ?_
        obtain ⟨J42, B73, h⟩ := h
        have L72 : ∀ (x71 : Int) (H : Heap) (locs : List Loc) (ls : Array Slot), J42 x71 → zR D dA vwCl wR nR b M3 H → va_S (zA nR b) s.heap H locs → lv_has ls 6 [(0, .ref (b + 0)), (2, .int (iI x5))] → W p l e (headSpec (.code yX12_dies cX12_dies 6 (some .int) :: zt) (z_rm 5)).room s m args below meth c H locs 0 0 (MQ below (va_Qi (wQi Q) (zB D dA vwCl wR nR b) (zA nR b)) args s 0 0 (zA nR b)) (F0 m 42 ls [.int (iI x71)]) := by
          intro x71 H locs ls h hS hS0 hl
          have h := B73 x71 h
          refine lv_istore_n (lv' := [(1, .int (iI x71)), (0, .ref (b + 0)), (2, .int (iI x5))]) hx hb dX12_dies_42 rfl hl (by decide) rfl (fun ls hl => ?_)
          refine lv_iload_n hx hb dX12_dies_43 rfl (lv_at hl 0 rfl) ?_
          refine z_bipush hx hb (by decide) dX12_dies_44 ?_
          refine w_icmp_ne (tgt := 56) hx hb rfl (sI_of (by decide)) dX12_dies_46 (by decide) (fun c74 => ?_) (fun c74 => ?_)
          · skip
            have h := h.1 c74
            refine z_iinc (lv' := [(2, .int (iI (x5 + 1))), (1, .int (iI x71)), (0, .ref (b + 0))]) hx hb dX12_dies_56 hl (k := 2) rfl (by decide) rfl (fun ls hl => ?_)
            refine lv_goto (tgt := 19) hx hb dX12_dies_59 (by decide) ?_
            obtain ⟨n75, h76, h⟩ := h
            exact i12 n75 h76 x71 (x5 + 1) _ _ _ h hS hS0 (lv_sub hl [2, 1, 0] rfl)
          · skip
            have h := h.2 c74
            refine lv_iload_n hx hb dX12_dies_49 rfl (lv_at hl 2 rfl) ?_
            refine z_bipush hx hb (by decide) dX12_dies_50 ?_
            refine z_isub hx hb dX12_dies_52 ?_
            refine z_iconst hx hb dX12_dies_53 ?_
            refine z_iadd hx hb dX12_dies_54 ?_
            exact w_iret hx hb hr hlocks hS hS0 rfl h dX12_dies_55
        refine w_if_ne (tgt := 41) hx hb rfl dX12_dies_32 (by decide) (fun c77 => ?_) (fun c77 => ?_)
        · skip
          have h := h.1 c77
          refine z_iconst hx hb dX12_dies_41 ?_
          exact L72 0 _ _ _ h hS hS0 (lv_sub hl [0, 2] rfl)
        · skip
          have h := h.2 c77
          refine lv_iload_n hx hb dX12_dies_35 rfl (lv_at hl 1 rfl) ?_
          refine z_iconst hx hb dX12_dies_36 ?_
          refine z_iadd hx hb dX12_dies_37 ?_
          refine lv_goto (tgt := 42) hx hb dX12_dies_38 (by decide) ?_
          exact L72 (x4 + 1) _ _ _ h hS hS0 (lv_sub hl [0, 2] rfl)
  exact L10 n7 0 (M3 0 22) _ _ _ h8 hS hS0 (lv_sub hl [2, 1, 0] rfl)
