/-! the W layer, 23 -/
theorem dX12_editsBy_0 : decode cX12_editsBy 0 = .ok (.aload_n 0, 1) := by decide +kernel
theorem dX12_editsBy_1 : decode cX12_editsBy 1 = .ok (.getfield 72, 3) := by decide +kernel
theorem dX12_editsBy_101 : decode cX12_editsBy 101 = .ok (.irem, 1) := by decide +kernel
theorem dX12_editsBy_102 : decode cX12_editsBy 102 = .ok (.iadd, 1) := by decide +kernel
theorem dX12_editsBy_103 : decode cX12_editsBy 103 = .ok (.iaload, 1) := by decide +kernel
theorem dX12_editsBy_104 : decode cX12_editsBy 104 = .ok (.if_icmp .ne 7, 3) := by decide +kernel
theorem dX12_editsBy_107 : decode cX12_editsBy 107 = .ok (.iconst 1, 1) := by decide +kernel
theorem dX12_editsBy_108 : decode cX12_editsBy 108 = .ok (.goto 4, 3) := by decide +kernel
theorem dX12_editsBy_111 : decode cX12_editsBy 111 = .ok (.iconst 0, 1) := by decide +kernel
theorem dX12_editsBy_112 : decode cX12_editsBy 112 = .ok (.istore 9, 2) := by decide +kernel
theorem dX12_editsBy_114 : decode cX12_editsBy 114 = .ok (.aload_n 0, 1) := by decide +kernel
theorem dX12_editsBy_115 : decode cX12_editsBy 115 = .ok (.getfield 115, 3) := by decide +kernel
theorem dX12_editsBy_118 : decode cX12_editsBy 118 = .ok (.iload 6, 2) := by decide +kernel
theorem dX12_editsBy_12 : decode cX12_editsBy 12 = .ok (.iload_n 2, 1) := by decide +kernel
theorem dX12_editsBy_120 : decode cX12_editsBy 120 = .ok (.iload 7, 2) := by decide +kernel
theorem dX12_editsBy_122 : decode cX12_editsBy 122 = .ok (.iconst 1, 1) := by decide +kernel
theorem dX12_editsBy_123 : decode cX12_editsBy 123 = .ok (.isub, 1) := by decide +kernel
theorem dX12_editsBy_124 : decode cX12_editsBy 124 = .ok (.imul, 1) := by decide +kernel
theorem dX12_editsBy_125 : decode cX12_editsBy 125 = .ok (.iload 8, 2) := by decide +kernel
theorem dX12_editsBy_127 : decode cX12_editsBy 127 = .ok (.iadd, 1) := by decide +kernel
theorem dX12_editsBy_128 : decode cX12_editsBy 128 = .ok (.iconst 1, 1) := by decide +kernel
theorem dX12_editsBy_129 : decode cX12_editsBy 129 = .ok (.isub, 1) := by decide +kernel
theorem dX12_editsBy_13 : decode cX12_editsBy 13 = .ok (.iaload, 1) := by decide +kernel
theorem dX12_editsBy_130 : decode cX12_editsBy 130 = .ok (.iaload, 1) := by decide +kernel
theorem dX12_editsBy_131 : decode cX12_editsBy 131 = .ok (.iload 9, 2) := by decide +kernel
theorem dX12_editsBy_133 : decode cX12_editsBy 133 = .ok (.ifCond .eq 7, 3) := by decide +kernel
theorem dX12_editsBy_136 : decode cX12_editsBy 136 = .ok (.iconst 0, 1) := by decide +kernel
theorem dX12_editsBy_137 : decode cX12_editsBy 137 = .ok (.goto 4, 3) := by decide +kernel
theorem dX12_editsBy_14 : decode cX12_editsBy 14 = .ok (.istore 5, 2) := by decide +kernel
theorem dX12_editsBy_140 : decode cX12_editsBy 140 = .ok (.iconst 1, 1) := by decide +kernel
theorem dX12_editsBy_141 : decode cX12_editsBy 141 = .ok (.iadd, 1) := by decide +kernel
theorem dX12_editsBy_142 : decode cX12_editsBy 142 = .ok (.istore 10, 2) := by decide +kernel
theorem dX12_editsBy_144 : decode cX12_editsBy 144 = .ok (.iload 10, 2) := by decide +kernel
theorem dX12_editsBy_146 : decode cX12_editsBy 146 = .ok (.iconst 1, 1) := by decide +kernel
theorem dX12_editsBy_147 : decode cX12_editsBy 147 = .ok (.aload_n 0, 1) := by decide +kernel
theorem dX12_editsBy_148 : decode cX12_editsBy 148 = .ok (.getfield 115, 3) := by decide +kernel
theorem dX12_editsBy_151 : decode cX12_editsBy 151 = .ok (.iload 6, 2) := by decide +kernel
theorem dX12_editsBy_153 : decode cX12_editsBy 153 = .ok (.iload 7, 2) := by decide +kernel
theorem dX12_editsBy_155 : decode cX12_editsBy 155 = .ok (.iconst 1, 1) := by decide +kernel
theorem dX12_editsBy_156 : decode cX12_editsBy 156 = .ok (.isub, 1) := by decide +kernel
theorem dX12_editsBy_157 : decode cX12_editsBy 157 = .ok (.imul, 1) := by decide +kernel
theorem dX12_editsBy_158 : decode cX12_editsBy 158 = .ok (.iload 8, 2) := by decide +kernel
theorem dX12_editsBy_16 : decode cX12_editsBy 16 = .ok (.bipush 25, 2) := by decide +kernel
theorem dX12_editsBy_160 : decode cX12_editsBy 160 = .ok (.iadd, 1) := by decide +kernel
theorem dX12_editsBy_161 : decode cX12_editsBy 161 = .ok (.iaload, 1) := by decide +kernel
theorem dX12_editsBy_162 : decode cX12_editsBy 162 = .ok (.iadd, 1) := by decide +kernel
theorem dX12_editsBy_163 : decode cX12_editsBy 163 = .ok (.invokestatic 271, 3) := by decide +kernel
theorem dX12_editsBy_166 : decode cX12_editsBy 166 = .ok (.istore 10, 2) := by decide +kernel
theorem dX12_editsBy_168 : decode cX12_editsBy 168 = .ok (.aload_n 0, 1) := by decide +kernel
theorem dX12_editsBy_169 : decode cX12_editsBy 169 = .ok (.getfield 115, 3) := by decide +kernel
theorem dX12_editsBy_172 : decode cX12_editsBy 172 = .ok (.iload 6, 2) := by decide +kernel
theorem dX12_editsBy_174 : decode cX12_editsBy 174 = .ok (.iload 7, 2) := by decide +kernel
theorem dX12_editsBy_176 : decode cX12_editsBy 176 = .ok (.imul, 1) := by decide +kernel
theorem dX12_editsBy_177 : decode cX12_editsBy 177 = .ok (.iload 8, 2) := by decide +kernel
theorem dX12_editsBy_179 : decode cX12_editsBy 179 = .ok (.iadd, 1) := by decide +kernel
theorem dX12_editsBy_18 : decode cX12_editsBy 18 = .ok (.istore 6, 2) := by decide +kernel
theorem dX12_editsBy_180 : decode cX12_editsBy 180 = .ok (.iload 10, 2) := by decide +kernel
theorem dX12_editsBy_182 : decode cX12_editsBy 182 = .ok (.iconst 1, 1) := by decide +kernel
theorem dX12_editsBy_183 : decode cX12_editsBy 183 = .ok (.aload_n 0, 1) := by decide +kernel
theorem dX12_editsBy_184 : decode cX12_editsBy 184 = .ok (.getfield 115, 3) := by decide +kernel
theorem dX12_editsBy_187 : decode cX12_editsBy 187 = .ok (.iload 6, 2) := by decide +kernel
theorem dX12_editsBy_189 : decode cX12_editsBy 189 = .ok (.iload 7, 2) := by decide +kernel
theorem dX12_editsBy_191 : decode cX12_editsBy 191 = .ok (.imul, 1) := by decide +kernel
theorem dX12_editsBy_192 : decode cX12_editsBy 192 = .ok (.iload 8, 2) := by decide +kernel
theorem dX12_editsBy_194 : decode cX12_editsBy 194 = .ok (.iadd, 1) := by decide +kernel
theorem dX12_editsBy_195 : decode cX12_editsBy 195 = .ok (.iconst 1, 1) := by decide +kernel
theorem dX12_editsBy_196 : decode cX12_editsBy 196 = .ok (.isub, 1) := by decide +kernel
theorem dX12_editsBy_197 : decode cX12_editsBy 197 = .ok (.iaload, 1) := by decide +kernel
theorem dX12_editsBy_198 : decode cX12_editsBy 198 = .ok (.iadd, 1) := by decide +kernel
theorem dX12_editsBy_199 : decode cX12_editsBy 199 = .ok (.invokestatic 271, 3) := by decide +kernel
theorem dX12_editsBy_20 : decode cX12_editsBy 20 = .ok (.iconst 0, 1) := by decide +kernel
theorem dX12_editsBy_202 : decode cX12_editsBy 202 = .ok (.iastore, 1) := by decide +kernel
theorem dX12_editsBy_203 : decode cX12_editsBy 203 = .ok (.iinc 8 1, 3) := by decide +kernel
theorem dX12_editsBy_206 : decode cX12_editsBy 206 = .ok (.goto (-173), 3) := by decide +kernel
theorem dX12_editsBy_209 : decode cX12_editsBy 209 = .ok (.iinc 7 1, 3) := by decide +kernel
theorem dX12_editsBy_21 : decode cX12_editsBy 21 = .ok (.istore 7, 2) := by decide +kernel
theorem dX12_editsBy_212 : decode cX12_editsBy 212 = .ok (.goto (-189), 3) := by decide +kernel
theorem dX12_editsBy_215 : decode cX12_editsBy 215 = .ok (.aload_n 0, 1) := by decide +kernel
theorem dX12_editsBy_216 : decode cX12_editsBy 216 = .ok (.getfield 115, 3) := by decide +kernel
theorem dX12_editsBy_219 : decode cX12_editsBy 219 = .ok (.iload 6, 2) := by decide +kernel
theorem dX12_editsBy_221 : decode cX12_editsBy 221 = .ok (.iload 4, 2) := by decide +kernel
theorem dX12_editsBy_223 : decode cX12_editsBy 223 = .ok (.imul, 1) := by decide +kernel
theorem dX12_editsBy_224 : decode cX12_editsBy 224 = .ok (.iload 5, 2) := by decide +kernel
theorem dX12_editsBy_226 : decode cX12_editsBy 226 = .ok (.iadd, 1) := by decide +kernel
theorem dX12_editsBy_227 : decode cX12_editsBy 227 = .ok (.iaload, 1) := by decide +kernel
theorem dX12_editsBy_228 : decode cX12_editsBy 228 = .ok (.ireturn, 1) := by decide +kernel
theorem dX12_editsBy_23 : decode cX12_editsBy 23 = .ok (.iload 7, 2) := by decide +kernel
theorem dX12_editsBy_25 : decode cX12_editsBy 25 = .ok (.iload 4, 2) := by decide +kernel
theorem dX12_editsBy_27 : decode cX12_editsBy 27 = .ok (.if_icmp .gt 188, 3) := by decide +kernel
theorem dX12_editsBy_30 : decode cX12_editsBy 30 = .ok (.iconst 0, 1) := by decide +kernel
theorem dX12_editsBy_31 : decode cX12_editsBy 31 = .ok (.istore 8, 2) := by decide +kernel
theorem dX12_editsBy_33 : decode cX12_editsBy 33 = .ok (.iload 8, 2) := by decide +kernel
theorem dX12_editsBy_35 : decode cX12_editsBy 35 = .ok (.iload 5, 2) := by decide +kernel
theorem dX12_editsBy_37 : decode cX12_editsBy 37 = .ok (.if_icmp .gt 172, 3) := by decide +kernel
theorem dX12_editsBy_4 : decode cX12_editsBy 4 = .ok (.iload_n 1, 1) := by decide +kernel
theorem dX12_editsBy_40 : decode cX12_editsBy 40 = .ok (.iload 7, 2) := by decide +kernel
theorem dX12_editsBy_42 : decode cX12_editsBy 42 = .ok (.ifCond .eq 8, 3) := by decide +kernel
theorem dX12_editsBy_45 : decode cX12_editsBy 45 = .ok (.iload 8, 2) := by decide +kernel
theorem dX12_editsBy_47 : decode cX12_editsBy 47 = .ok (.ifCond .ne 24, 3) := by decide +kernel
theorem dX12_editsBy_5 : decode cX12_editsBy 5 = .ok (.iaload, 1) := by decide +kernel
theorem dX12_editsBy_50 : decode cX12_editsBy 50 = .ok (.aload_n 0, 1) := by decide +kernel
theorem dX12_editsBy_51 : decode cX12_editsBy 51 = .ok (.getfield 115, 3) := by decide +kernel
theorem dX12_editsBy_54 : decode cX12_editsBy 54 = .ok (.iload 6, 2) := by decide +kernel
theorem dX12_editsBy_56 : decode cX12_editsBy 56 = .ok (.iload 7, 2) := by decide +kernel
theorem dX12_editsBy_58 : decode cX12_editsBy 58 = .ok (.imul, 1) := by decide +kernel
theorem dX12_editsBy_59 : decode cX12_editsBy 59 = .ok (.iload 8, 2) := by decide +kernel
theorem dX12_editsBy_6 : decode cX12_editsBy 6 = .ok (.istore 4, 2) := by decide +kernel
theorem dX12_editsBy_61 : decode cX12_editsBy 61 = .ok (.iadd, 1) := by decide +kernel
theorem dX12_editsBy_62 : decode cX12_editsBy 62 = .ok (.iload 7, 2) := by decide +kernel
theorem dX12_editsBy_64 : decode cX12_editsBy 64 = .ok (.iload 8, 2) := by decide +kernel
theorem dX12_editsBy_66 : decode cX12_editsBy 66 = .ok (.iadd, 1) := by decide +kernel
theorem dX12_editsBy_67 : decode cX12_editsBy 67 = .ok (.iastore, 1) := by decide +kernel
theorem dX12_editsBy_68 : decode cX12_editsBy 68 = .ok (.goto 135, 3) := by decide +kernel
theorem dX12_editsBy_71 : decode cX12_editsBy 71 = .ok (.aload_n 0, 1) := by decide +kernel
theorem dX12_editsBy_72 : decode cX12_editsBy 72 = .ok (.getfield 69, 3) := by decide +kernel
theorem dX12_editsBy_75 : decode cX12_editsBy 75 = .ok (.bipush 24, 2) := by decide +kernel
theorem dX12_editsBy_77 : decode cX12_editsBy 77 = .ok (.iload_n 1, 1) := by decide +kernel
theorem dX12_editsBy_78 : decode cX12_editsBy 78 = .ok (.imul, 1) := by decide +kernel
theorem dX12_editsBy_79 : decode cX12_editsBy 79 = .ok (.iload 7, 2) := by decide +kernel
theorem dX12_editsBy_8 : decode cX12_editsBy 8 = .ok (.aload_n 0, 1) := by decide +kernel
theorem dX12_editsBy_81 : decode cX12_editsBy 81 = .ok (.iadd, 1) := by decide +kernel
theorem dX12_editsBy_82 : decode cX12_editsBy 82 = .ok (.iconst 1, 1) := by decide +kernel
theorem dX12_editsBy_83 : decode cX12_editsBy 83 = .ok (.isub, 1) := by decide +kernel
theorem dX12_editsBy_84 : decode cX12_editsBy 84 = .ok (.iaload, 1) := by decide +kernel
theorem dX12_editsBy_85 : decode cX12_editsBy 85 = .ok (.aload_n 0, 1) := by decide +kernel
theorem dX12_editsBy_86 : decode cX12_editsBy 86 = .ok (.getfield 69, 3) := by decide +kernel
theorem dX12_editsBy_89 : decode cX12_editsBy 89 = .ok (.bipush 24, 2) := by decide +kernel
theorem dX12_editsBy_9 : decode cX12_editsBy 9 = .ok (.getfield 72, 3) := by decide +kernel
theorem dX12_editsBy_91 : decode cX12_editsBy 91 = .ok (.iload_n 2, 1) := by decide +kernel
theorem dX12_editsBy_92 : decode cX12_editsBy 92 = .ok (.imul, 1) := by decide +kernel
theorem dX12_editsBy_93 : decode cX12_editsBy 93 = .ok (.iload 8, 2) := by decide +kernel
theorem dX12_editsBy_95 : decode cX12_editsBy 95 = .ok (.iconst 1, 1) := by decide +kernel
theorem dX12_editsBy_96 : decode cX12_editsBy 96 = .ok (.isub, 1) := by decide +kernel
theorem dX12_editsBy_97 : decode cX12_editsBy 97 = .ok (.iload_n 3, 1) := by decide +kernel
theorem dX12_editsBy_98 : decode cX12_editsBy 98 = .ok (.iadd, 1) := by decide +kernel
theorem dX12_editsBy_99 : decode cX12_editsBy 99 = .ok (.iload 5, 2) := by decide +kernel
theorem dX12_edits_0 : decode cX12_edits 0 = .ok (.aload_n 0, 1) := by decide +kernel
theorem dX12_edits_1 : decode cX12_edits 1 = .ok (.iconst 0, 1) := by decide +kernel
theorem dX12_edits_11 : decode cX12_edits 11 = .ok (.iconst 1, 1) := by decide +kernel
theorem dX12_edits_12 : decode cX12_edits 12 = .ok (.isub, 1) := by decide +kernel
theorem dX12_edits_13 : decode cX12_edits 13 = .ok (.invokestatic 124, 3) := by decide +kernel
theorem dX12_edits_16 : decode cX12_edits 16 = .ok (.ifCond .eq 17, 3) := by decide +kernel
theorem dX12_edits_19 : decode cX12_edits 19 = .ok (.iload_n 2, 1) := by decide +kernel
theorem dX12_edits_2 : decode cX12_edits 2 = .ok (.putfield 118, 3) := by decide +kernel
theorem dX12_edits_20 : decode cX12_edits 20 = .ok (.iconst 0, 1) := by decide +kernel
theorem dX12_edits_21 : decode cX12_edits 21 = .ok (.aload_n 0, 1) := by decide +kernel
theorem dX12_edits_22 : decode cX12_edits 22 = .ok (.getfield 185, 3) := by decide +kernel
theorem dX12_edits_25 : decode cX12_edits 25 = .ok (.iconst 1, 1) := by decide +kernel
theorem dX12_edits_26 : decode cX12_edits 26 = .ok (.isub, 1) := by decide +kernel
theorem dX12_edits_27 : decode cX12_edits 27 = .ok (.invokestatic 124, 3) := by decide +kernel
theorem dX12_edits_30 : decode cX12_edits 30 = .ok (.ifCond .ne 5, 3) := by decide +kernel
theorem dX12_edits_33 : decode cX12_edits 33 = .ok (.iconst (-1), 1) := by decide +kernel
theorem dX12_edits_34 : decode cX12_edits 34 = .ok (.ireturn, 1) := by decide +kernel
theorem dX12_edits_35 : decode cX12_edits 35 = .ok (.ldc_w 267, 3) := by decide +kernel
theorem dX12_edits_38 : decode cX12_edits 38 = .ok (.istore_n 3, 1) := by decide +kernel
theorem dX12_edits_39 : decode cX12_edits 39 = .ok (.iconst 0, 1) := by decide +kernel
theorem dX12_edits_40 : decode cX12_edits 40 = .ok (.istore 4, 2) := by decide +kernel
theorem dX12_edits_42 : decode cX12_edits 42 = .ok (.iload 4, 2) := by decide +kernel
theorem dX12_edits_44 : decode cX12_edits 44 = .ok (.aload_n 0, 1) := by decide +kernel
theorem dX12_edits_45 : decode cX12_edits 45 = .ok (.getfield 72, 3) := by decide +kernel
theorem dX12_edits_48 : decode cX12_edits 48 = .ok (.iload_n 2, 1) := by decide +kernel
theorem dX12_edits_49 : decode cX12_edits 49 = .ok (.iaload, 1) := by decide +kernel
theorem dX12_edits_5 : decode cX12_edits 5 = .ok (.iload_n 1, 1) := by decide +kernel
theorem dX12_edits_50 : decode cX12_edits 50 = .ok (.if_icmp .ge 22, 3) := by decide +kernel
theorem dX12_edits_53 : decode cX12_edits 53 = .ok (.iload_n 3, 1) := by decide +kernel
theorem dX12_edits_54 : decode cX12_edits 54 = .ok (.aload_n 0, 1) := by decide +kernel
theorem dX12_edits_55 : decode cX12_edits 55 = .ok (.iload_n 1, 1) := by decide +kernel
theorem dX12_edits_56 : decode cX12_edits 56 = .ok (.iload_n 2, 1) := by decide +kernel
theorem dX12_edits_57 : decode cX12_edits 57 = .ok (.iload 4, 2) := by decide +kernel
theorem dX12_edits_59 : decode cX12_edits 59 = .ok (.invokevirtual 320, 3) := by decide +kernel
theorem dX12_edits_6 : decode cX12_edits 6 = .ok (.iconst 0, 1) := by decide +kernel
theorem dX12_edits_62 : decode cX12_edits 62 = .ok (.invokestatic 271, 3) := by decide +kernel
theorem dX12_edits_65 : decode cX12_edits 65 = .ok (.istore_n 3, 1) := by decide +kernel
theorem dX12_edits_66 : decode cX12_edits 66 = .ok (.iinc 4 1, 3) := by decide +kernel
theorem dX12_edits_69 : decode cX12_edits 69 = .ok (.goto (-27), 3) := by decide +kernel
theorem dX12_edits_7 : decode cX12_edits 7 = .ok (.aload_n 0, 1) := by decide +kernel
theorem dX12_edits_72 : decode cX12_edits 72 = .ok (.iload_n 3, 1) := by decide +kernel
theorem dX12_edits_73 : decode cX12_edits 73 = .ok (.ireturn, 1) := by decide +kernel
theorem dX12_edits_8 : decode cX12_edits 8 = .ok (.getfield 185, 3) := by decide +kernel
theorem dX12_fetch_0 : decode cX12_fetch 0 = .ok (.aload_n 0, 1) := by decide +kernel
theorem dX12_fetch_1 : decode cX12_fetch 1 = .ok (.iconst 0, 1) := by decide +kernel
theorem dX12_fetch_11 : decode cX12_fetch 11 = .ok (.iconst 1, 1) := by decide +kernel
theorem dX12_fetch_12 : decode cX12_fetch 12 = .ok (.isub, 1) := by decide +kernel
theorem dX12_fetch_13 : decode cX12_fetch 13 = .ok (.invokestatic 124, 3) := by decide +kernel
theorem dX12_fetch_16 : decode cX12_fetch 16 = .ok (.ifCond .ne 5, 3) := by decide +kernel
theorem dX12_fetch_19 : decode cX12_fetch 19 = .ok (.iconst (-1), 1) := by decide +kernel
theorem dX12_fetch_2 : decode cX12_fetch 2 = .ok (.putfield 118, 3) := by decide +kernel
theorem dX12_fetch_20 : decode cX12_fetch 20 = .ok (.ireturn, 1) := by decide +kernel
theorem dX12_fetch_21 : decode cX12_fetch 21 = .ok (.aload_n 0, 1) := by decide +kernel
theorem dX12_fetch_22 : decode cX12_fetch 22 = .ok (.aload_n 0, 1) := by decide +kernel
theorem dX12_fetch_23 : decode cX12_fetch 23 = .ok (.getfield 72, 3) := by decide +kernel
theorem dX12_fetch_26 : decode cX12_fetch 26 = .ok (.iload_n 1, 1) := by decide +kernel
theorem dX12_fetch_27 : decode cX12_fetch 27 = .ok (.iaload, 1) := by decide +kernel
theorem dX12_fetch_28 : decode cX12_fetch 28 = .ok (.putfield 162, 3) := by decide +kernel
theorem dX12_fetch_31 : decode cX12_fetch 31 = .ok (.iconst 0, 1) := by decide +kernel
theorem dX12_fetch_32 : decode cX12_fetch 32 = .ok (.istore_n 2, 1) := by decide +kernel
theorem dX12_fetch_33 : decode cX12_fetch 33 = .ok (.iload_n 2, 1) := by decide +kernel
theorem dX12_fetch_34 : decode cX12_fetch 34 = .ok (.aload_n 0, 1) := by decide +kernel
theorem dX12_fetch_35 : decode cX12_fetch 35 = .ok (.getfield 162, 3) := by decide +kernel
theorem dX12_fetch_38 : decode cX12_fetch 38 = .ok (.if_icmp .ge 26, 3) := by decide +kernel
theorem dX12_fetch_41 : decode cX12_fetch 41 = .ok (.aload_n 0, 1) := by decide +kernel
theorem dX12_fetch_42 : decode cX12_fetch 42 = .ok (.getfield 13, 3) := by decide +kernel
theorem dX12_fetch_45 : decode cX12_fetch 45 = .ok (.iload_n 2, 1) := by decide +kernel
theorem dX12_fetch_46 : decode cX12_fetch 46 = .ok (.aload_n 0, 1) := by decide +kernel
theorem dX12_fetch_47 : decode cX12_fetch 47 = .ok (.getfield 69, 3) := by decide +kernel
theorem dX12_fetch_5 : decode cX12_fetch 5 = .ok (.iload_n 1, 1) := by decide +kernel
theorem dX12_fetch_50 : decode cX12_fetch 50 = .ok (.bipush 24, 2) := by decide +kernel
theorem dX12_fetch_52 : decode cX12_fetch 52 = .ok (.iload_n 1, 1) := by decide +kernel
theorem dX12_fetch_53 : decode cX12_fetch 53 = .ok (.imul, 1) := by decide +kernel
theorem dX12_fetch_54 : decode cX12_fetch 54 = .ok (.iload_n 2, 1) := by decide +kernel
theorem dX12_fetch_55 : decode cX12_fetch 55 = .ok (.iadd, 1) := by decide +kernel
theorem dX12_fetch_56 : decode cX12_fetch 56 = .ok (.iaload, 1) := by decide +kernel
theorem dX12_fetch_57 : decode cX12_fetch 57 = .ok (.iastore, 1) := by decide +kernel
theorem dX12_fetch_58 : decode cX12_fetch 58 = .ok (.iinc 2 1, 3) := by decide +kernel
theorem dX12_fetch_6 : decode cX12_fetch 6 = .ok (.iconst 0, 1) := by decide +kernel
theorem dX12_fetch_61 : decode cX12_fetch 61 = .ok (.goto (-28), 3) := by decide +kernel
theorem dX12_fetch_64 : decode cX12_fetch 64 = .ok (.aload_n 0, 1) := by decide +kernel
theorem dX12_fetch_65 : decode cX12_fetch 65 = .ok (.getfield 162, 3) := by decide +kernel
theorem dX12_fetch_68 : decode cX12_fetch 68 = .ok (.ireturn, 1) := by decide +kernel
theorem dX12_fetch_7 : decode cX12_fetch 7 = .ok (.aload_n 0, 1) := by decide +kernel
theorem dX12_fetch_8 : decode cX12_fetch 8 = .ok (.getfield 185, 3) := by decide +kernel
theorem dX12_join_0 : decode cX12_join 0 = .ok (.aload_n 0, 1) := by decide +kernel
theorem dX12_join_1 : decode cX12_join 1 = .ok (.iconst 0, 1) := by decide +kernel
theorem dX12_join_10 : decode cX12_join 10 = .ok (.aload_n 0, 1) := by decide +kernel
theorem dX12_join_11 : decode cX12_join 11 = .ok (.iconst 0, 1) := by decide +kernel
theorem dX12_join_12 : decode cX12_join 12 = .ok (.iconst 0, 1) := by decide +kernel
theorem dX12_join_13 : decode cX12_join 13 = .ok (.iconst 0, 1) := by decide +kernel
theorem dX12_join_14 : decode cX12_join 14 = .ok (.invokevirtual 316, 3) := by decide +kernel
theorem dX12_join_17 : decode cX12_join 17 = .ok (.aload_n 0, 1) := by decide +kernel
theorem dX12_join_18 : decode cX12_join 18 = .ok (.aload_n 0, 1) := by decide +kernel
theorem dX12_join_19 : decode cX12_join 19 = .ok (.getfield 305, 3) := by decide +kernel
theorem dX12_join_2 : decode cX12_join 2 = .ok (.putfield 118, 3) := by decide +kernel
theorem dX12_join_22 : decode cX12_join 22 = .ok (.putfield 188, 3) := by decide +kernel
theorem dX12_join_25 : decode cX12_join 25 = .ok (.iconst 0, 1) := by decide +kernel
theorem dX12_join_26 : decode cX12_join 26 = .ok (.istore_n 1, 1) := by decide +kernel
theorem dX12_join_27 : decode cX12_join 27 = .ok (.iload_n 1, 1) := by decide +kernel
theorem dX12_join_28 : decode cX12_join 28 = .ok (.aload_n 0, 1) := by decide +kernel
theorem dX12_join_29 : decode cX12_join 29 = .ok (.getfield 188, 3) := by decide +kernel
theorem dX12_join_32 : decode cX12_join 32 = .ok (.if_icmp .ge 21, 3) := by decide +kernel
theorem dX12_join_35 : decode cX12_join 35 = .ok (.aload_n 0, 1) := by decide +kernel
theorem dX12_join_36 : decode cX12_join 36 = .ok (.getfield 81, 3) := by decide +kernel
theorem dX12_join_39 : decode cX12_join 39 = .ok (.iload_n 1, 1) := by decide +kernel
theorem dX12_join_40 : decode cX12_join 40 = .ok (.aload_n 0, 1) := by decide +kernel
theorem dX12_join_41 : decode cX12_join 41 = .ok (.getfield 112, 3) := by decide +kernel
theorem dX12_join_44 : decode cX12_join 44 = .ok (.iload_n 1, 1) := by decide +kernel
theorem dX12_join_45 : decode cX12_join 45 = .ok (.iaload, 1) := by decide +kernel
theorem dX12_join_46 : decode cX12_join 46 = .ok (.iastore, 1) := by decide +kernel
theorem dX12_join_47 : decode cX12_join 47 = .ok (.iinc 1 1, 3) := by decide +kernel
theorem dX12_join_5 : decode cX12_join 5 = .ok (.aload_n 0, 1) := by decide +kernel
theorem dX12_join_50 : decode cX12_join 50 = .ok (.goto (-23), 3) := by decide +kernel
theorem dX12_join_53 : decode cX12_join 53 = .ok (.aload_n 0, 1) := by decide +kernel
theorem dX12_join_54 : decode cX12_join 54 = .ok (.getfield 305, 3) := by decide +kernel
theorem dX12_join_57 : decode cX12_join 57 = .ok (.ireturn, 1) := by decide +kernel
theorem dX12_join_6 : decode cX12_join 6 = .ok (.iconst (-1), 1) := by decide +kernel
theorem dX12_join_7 : decode cX12_join 7 = .ok (.putfield 305, 3) := by decide +kernel
theorem dX12_keep_0 : decode cX12_keep 0 = .ok (.aload_n 0, 1) := by decide +kernel
theorem dX12_keep_1 : decode cX12_keep 1 = .ok (.iconst 0, 1) := by decide +kernel
theorem dX12_keep_10 : decode cX12_keep 10 = .ok (.ifCond .eq 45, 3) := by decide +kernel
theorem dX12_keep_100 : decode cX12_keep 100 = .ok (.iaload, 1) := by decide +kernel
theorem dX12_keep_101 : decode cX12_keep 101 = .ok (.if_icmp .ge 34, 3) := by decide +kernel
theorem dX12_keep_104 : decode cX12_keep 104 = .ok (.aload_n 0, 1) := by decide +kernel
theorem dX12_keep_105 : decode cX12_keep 105 = .ok (.getfield 69, 3) := by decide +kernel
theorem dX12_keep_108 : decode cX12_keep 108 = .ok (.bipush 24, 2) := by decide +kernel
theorem dX12_keep_110 : decode cX12_keep 110 = .ok (.aload_n 0, 1) := by decide +kernel
theorem dX12_keep_111 : decode cX12_keep 111 = .ok (.getfield 185, 3) := by decide +kernel
theorem dX12_keep_114 : decode cX12_keep 114 = .ok (.imul, 1) := by decide +kernel
theorem dX12_keep_115 : decode cX12_keep 115 = .ok (.iload_n 3, 1) := by decide +kernel
theorem dX12_keep_116 : decode cX12_keep 116 = .ok (.iadd, 1) := by decide +kernel
theorem dX12_keep_117 : decode cX12_keep 117 = .ok (.aload_n 0, 1) := by decide +kernel
theorem dX12_keep_118 : decode cX12_keep 118 = .ok (.getfield 17, 3) := by decide +kernel
theorem dX12_keep_121 : decode cX12_keep 121 = .ok (.bipush 24, 2) := by decide +kernel
theorem dX12_keep_123 : decode cX12_keep 123 = .ok (.iload_n 1, 1) := by decide +kernel
theorem dX12_keep_124 : decode cX12_keep 124 = .ok (.imul, 1) := by decide +kernel
theorem dX12_keep_125 : decode cX12_keep 125 = .ok (.iload_n 3, 1) := by decide +kernel
theorem dX12_keep_126 : decode cX12_keep 126 = .ok (.iadd, 1) := by decide +kernel
theorem dX12_keep_127 : decode cX12_keep 127 = .ok (.iaload, 1) := by decide +kernel
theorem dX12_keep_128 : decode cX12_keep 128 = .ok (.iastore, 1) := by decide +kernel
theorem dX12_keep_129 : decode cX12_keep 129 = .ok (.iinc 3 1, 3) := by decide +kernel
theorem dX12_keep_13 : decode cX12_keep 13 = .ok (.iload_n 2, 1) := by decide +kernel
theorem dX12_keep_132 : decode cX12_keep 132 = .ok (.goto (-38), 3) := by decide +kernel
theorem dX12_keep_135 : decode cX12_keep 135 = .ok (.aload_n 0, 1) := by decide +kernel
theorem dX12_keep_136 : decode cX12_keep 136 = .ok (.dup, 1) := by decide +kernel
theorem dX12_keep_137 : decode cX12_keep 137 = .ok (.getfield 185, 3) := by decide +kernel
theorem dX12_keep_14 : decode cX12_keep 14 = .ok (.iconst 0, 1) := by decide +kernel
theorem dX12_keep_140 : decode cX12_keep 140 = .ok (.iconst 1, 1) := by decide +kernel
theorem dX12_keep_141 : decode cX12_keep 141 = .ok (.iadd, 1) := by decide +kernel
theorem dX12_keep_142 : decode cX12_keep 142 = .ok (.putfield 185, 3) := by decide +kernel
theorem dX12_keep_145 : decode cX12_keep 145 = .ok (.aload_n 0, 1) := by decide +kernel
theorem dX12_keep_146 : decode cX12_keep 146 = .ok (.getfield 185, 3) := by decide +kernel
theorem dX12_keep_149 : decode cX12_keep 149 = .ok (.iconst 1, 1) := by decide +kernel
theorem dX12_keep_15 : decode cX12_keep 15 = .ok (.sipush 999, 3) := by decide +kernel
theorem dX12_keep_150 : decode cX12_keep 150 = .ok (.isub, 1) := by decide +kernel
theorem dX12_keep_151 : decode cX12_keep 151 = .ok (.ireturn, 1) := by decide +kernel
theorem dX12_keep_18 : decode cX12_keep 18 = .ok (.invokestatic 124, 3) := by decide +kernel
theorem dX12_keep_2 : decode cX12_keep 2 = .ok (.putfield 118, 3) := by decide +kernel
theorem dX12_keep_21 : decode cX12_keep 21 = .ok (.ifCond .eq 34, 3) := by decide +kernel
theorem dX12_keep_24 : decode cX12_keep 24 = .ok (.aload_n 0, 1) := by decide +kernel
theorem dX12_keep_25 : decode cX12_keep 25 = .ok (.getfield 185, 3) := by decide +kernel
theorem dX12_keep_28 : decode cX12_keep 28 = .ok (.bipush 16, 2) := by decide +kernel
theorem dX12_keep_30 : decode cX12_keep 30 = .ok (.if_icmp .eq 25, 3) := by decide +kernel
theorem dX12_keep_33 : decode cX12_keep 33 = .ok (.aload_n 0, 1) := by decide +kernel
theorem dX12_keep_34 : decode cX12_keep 34 = .ok (.getfield 185, 3) := by decide +kernel
theorem dX12_keep_37 : decode cX12_keep 37 = .ok (.ifCond .le 20, 3) := by decide +kernel
theorem dX12_keep_40 : decode cX12_keep 40 = .ok (.iload_n 2, 1) := by decide +kernel
theorem dX12_keep_41 : decode cX12_keep 41 = .ok (.aload_n 0, 1) := by decide +kernel
theorem dX12_keep_42 : decode cX12_keep 42 = .ok (.getfield 78, 3) := by decide +kernel
theorem dX12_keep_45 : decode cX12_keep 45 = .ok (.aload_n 0, 1) := by decide +kernel
theorem dX12_keep_46 : decode cX12_keep 46 = .ok (.getfield 185, 3) := by decide +kernel
theorem dX12_keep_49 : decode cX12_keep 49 = .ok (.iconst 1, 1) := by decide +kernel
theorem dX12_keep_5 : decode cX12_keep 5 = .ok (.aload_n 0, 1) := by decide +kernel
theorem dX12_keep_50 : decode cX12_keep 50 = .ok (.isub, 1) := by decide +kernel
theorem dX12_keep_51 : decode cX12_keep 51 = .ok (.iaload, 1) := by decide +kernel
theorem dX12_keep_52 : decode cX12_keep 52 = .ok (.if_icmp .ge 5, 3) := by decide +kernel
theorem dX12_keep_55 : decode cX12_keep 55 = .ok (.iconst (-1), 1) := by decide +kernel
theorem dX12_keep_56 : decode cX12_keep 56 = .ok (.ireturn, 1) := by decide +kernel
theorem dX12_keep_57 : decode cX12_keep 57 = .ok (.aload_n 0, 1) := by decide +kernel
theorem dX12_keep_58 : decode cX12_keep 58 = .ok (.getfield 75, 3) := by decide +kernel
theorem dX12_keep_6 : decode cX12_keep 6 = .ok (.iload_n 1, 1) := by decide +kernel
theorem dX12_keep_61 : decode cX12_keep 61 = .ok (.aload_n 0, 1) := by decide +kernel
theorem dX12_keep_62 : decode cX12_keep 62 = .ok (.getfield 185, 3) := by decide +kernel
theorem dX12_keep_65 : decode cX12_keep 65 = .ok (.iload_n 1, 1) := by decide +kernel
theorem dX12_keep_66 : decode cX12_keep 66 = .ok (.iastore, 1) := by decide +kernel
theorem dX12_keep_67 : decode cX12_keep 67 = .ok (.aload_n 0, 1) := by decide +kernel
theorem dX12_keep_68 : decode cX12_keep 68 = .ok (.getfield 78, 3) := by decide +kernel
theorem dX12_keep_7 : decode cX12_keep 7 = .ok (.invokevirtual 168, 3) := by decide +kernel
theorem dX12_keep_71 : decode cX12_keep 71 = .ok (.aload_n 0, 1) := by decide +kernel
theorem dX12_keep_72 : decode cX12_keep 72 = .ok (.getfield 185, 3) := by decide +kernel
theorem dX12_keep_75 : decode cX12_keep 75 = .ok (.iload_n 2, 1) := by decide +kernel
theorem dX12_keep_76 : decode cX12_keep 76 = .ok (.iastore, 1) := by decide +kernel
theorem dX12_keep_77 : decode cX12_keep 77 = .ok (.aload_n 0, 1) := by decide +kernel
theorem dX12_keep_78 : decode cX12_keep 78 = .ok (.getfield 72, 3) := by decide +kernel
theorem dX12_keep_81 : decode cX12_keep 81 = .ok (.aload_n 0, 1) := by decide +kernel
theorem dX12_keep_82 : decode cX12_keep 82 = .ok (.getfield 185, 3) := by decide +kernel
theorem dX12_keep_85 : decode cX12_keep 85 = .ok (.aload_n 0, 1) := by decide +kernel
theorem dX12_keep_86 : decode cX12_keep 86 = .ok (.getfield 20, 3) := by decide +kernel
theorem dX12_keep_89 : decode cX12_keep 89 = .ok (.iload_n 1, 1) := by decide +kernel
theorem dX12_keep_90 : decode cX12_keep 90 = .ok (.iaload, 1) := by decide +kernel
theorem dX12_keep_91 : decode cX12_keep 91 = .ok (.iastore, 1) := by decide +kernel
theorem dX12_keep_92 : decode cX12_keep 92 = .ok (.iconst 0, 1) := by decide +kernel
theorem dX12_keep_93 : decode cX12_keep 93 = .ok (.istore_n 3, 1) := by decide +kernel
theorem dX12_keep_94 : decode cX12_keep 94 = .ok (.iload_n 3, 1) := by decide +kernel
theorem dX12_keep_95 : decode cX12_keep 95 = .ok (.aload_n 0, 1) := by decide +kernel
theorem dX12_keep_96 : decode cX12_keep 96 = .ok (.getfield 20, 3) := by decide +kernel
theorem dX12_keep_99 : decode cX12_keep 99 = .ok (.iload_n 1, 1) := by decide +kernel
theorem dX12_known_0 : decode cX12_known 0 = .ok (.aload_n 0, 1) := by decide +kernel
theorem dX12_known_1 : decode cX12_known 1 = .ok (.iconst 0, 1) := by decide +kernel
theorem dX12_known_10 : decode cX12_known 10 = .ok (.isub, 1) := by decide +kernel
theorem dX12_known_11 : decode cX12_known 11 = .ok (.istore_n 3, 1) := by decide +kernel
theorem dX12_known_12 : decode cX12_known 12 = .ok (.iload_n 3, 1) := by decide +kernel
theorem dX12_known_13 : decode cX12_known 13 = .ok (.ifCond .lt 31, 3) := by decide +kernel
theorem dX12_known_16 : decode cX12_known 16 = .ok (.aload_n 0, 1) := by decide +kernel
theorem dX12_known_17 : decode cX12_known 17 = .ok (.getfield 75, 3) := by decide +kernel
theorem dX12_known_2 : decode cX12_known 2 = .ok (.putfield 118, 3) := by decide +kernel
theorem dX12_known_20 : decode cX12_known 20 = .ok (.iload_n 3, 1) := by decide +kernel
theorem dX12_known_21 : decode cX12_known 21 = .ok (.iaload, 1) := by decide +kernel
theorem dX12_known_22 : decode cX12_known 22 = .ok (.iload_n 1, 1) := by decide +kernel
theorem dX12_known_23 : decode cX12_known 23 = .ok (.if_icmp .ne 15, 3) := by decide +kernel
theorem dX12_known_26 : decode cX12_known 26 = .ok (.aload_n 0, 1) := by decide +kernel
theorem dX12_known_27 : decode cX12_known 27 = .ok (.getfield 78, 3) := by decide +kernel
theorem dX12_known_30 : decode cX12_known 30 = .ok (.iload_n 3, 1) := by decide +kernel
theorem dX12_known_31 : decode cX12_known 31 = .ok (.iaload, 1) := by decide +kernel
theorem dX12_known_32 : decode cX12_known 32 = .ok (.iload_n 2, 1) := by decide +kernel
theorem dX12_known_33 : decode cX12_known 33 = .ok (.if_icmp .gt 5, 3) := by decide +kernel
theorem dX12_known_36 : decode cX12_known 36 = .ok (.iload_n 3, 1) := by decide +kernel
theorem dX12_known_37 : decode cX12_known 37 = .ok (.ireturn, 1) := by decide +kernel
theorem dX12_known_38 : decode cX12_known 38 = .ok (.iinc 3 (-1), 3) := by decide +kernel
theorem dX12_known_41 : decode cX12_known 41 = .ok (.goto (-29), 3) := by decide +kernel
theorem dX12_known_44 : decode cX12_known 44 = .ok (.iconst (-1), 1) := by decide +kernel
theorem dX12_known_45 : decode cX12_known 45 = .ok (.ireturn, 1) := by decide +kernel
theorem dX12_known_5 : decode cX12_known 5 = .ok (.aload_n 0, 1) := by decide +kernel
theorem dX12_known_6 : decode cX12_known 6 = .ok (.getfield 185, 3) := by decide +kernel
theorem dX12_known_9 : decode cX12_known 9 = .ok (.iconst 1, 1) := by decide +kernel
theorem dm_X12_editsBy : yX12_editsBy.cls = RX12 ∧ yX12_editsBy.cls ≠ "java/lang/invoke/MethodHandle" ∧ yX12_editsBy.cls ≠ "java/lang/invoke/VarHandle" ∧ (parseMethodDescriptor yX12_editsBy.desc).map (fun d => d.parameters.length) = some 3 := by decide +kernel
set_option maxRecDepth 100000 in
def wR_join  (M : zM) (Q : Int → zM → Prop) : Prop := (∀ M1 : zM, M1 = zup M 0 35 0 → (∀ M3 : zM, M3 = zup M1 0 48 (-1) → wR_joinFrom 6 0 0 0 M3 (fun M5 => (∀ M6 : zM, M6 = zup M5 0 34 (M5 0 48) → wL1 (fun K27 x8 M9 => ((sI (M9 0 34)) ≤ (sI x8) → Q (sI (M9 0 48)) M9) ∧ ((sI x8) < (sI (M9 0 34)) → ((0 ≤ (sI x8) ∧ (sI x8) < 40) ∧ ((0 ≤ (sI x8) ∧ (sI x8) < 64) ∧ (∀ M20 : zM, M20 = zup M9 22 (sI x8).toNat (M9 32 (sI x8).toNat) → K27 (x8 + 1) M20))))) 0 M6))))
set_option maxHeartbeats 4000000 in
set_option maxRecDepth 100000 in
theorem cR_join (l : Launch) (D : va_G) (dA : Nat → ClassId) (b : Nat) (M : zM)   (Q : Int → zM → Prop) (h : wR_join  M Q) : Met l yX12_join (.code yX12_join cX12_join 2 (some .int) :: zt) (z_rm 9) (va_Pc [.ref (b + 0)] (wPre D dA vwCl (z_tys dA) wR nR b M)) (va_Qi (wQi Q) (zB D dA vwCl wR nR b) (zA nR b)) 0 0 (zA nR b) := by
  unfold wR_join at h
  refine Met.ofW (cc := cX12_join) (maxL := 2) (ret := (some .int)) (by decide) rfl ?_
  intro p e s m args below meth c s₁ B hml hv
  obtain ⟨hargs, hS, hK⟩ := hv
  have hx := B.exec
  have hb := B.bytes
  have hr := B.returns
  have hts := atoms_spec (ws := .code yX12_join cX12_join 2 (some .int) :: zt) B.pre
  have hown : s.vm.findClass RX12 = some m.cls := findClass_of_methodNamed B.named
  have hlocks := B.notSynchronized
  have hS0 : va_S (zA nR b) s.heap s.heap [] := va_S.rf
  have hl := lv_entry ([.ref (b + 0)]) (n := 2) (Nat.le_of_ble_eq_true rfl)
  have hent : entryFrame m args 2 = F0 m 0 ((lg_sl ([.ref (b + 0)]) ++ List.replicate (2 - (lg_sl ([.ref (b + 0)])).length) Slot.unset).toArray) [] := by rw [hargs]; exact lg_entry_eq m ([.ref (b + 0)]) 2
  rw [hent]
  generalize (lg_sl ([.ref (b + 0)]) ++ List.replicate (2 - (lg_sl ([.ref (b + 0)])).length) Slot.unset).toArray = ls at hl ⊢
  have hl : lv_has ls 2 [(0, .ref (b + 0))] := hl
  refine lv_aload_n hx hb dX12_join_0 rfl (lv_at hl 0 rfl) ?_
  refine z_iconst hx hb dX12_join_1 ?_
  refine w_puti hx hb hts (z_memU u12) tyX12 tyX12_ok nmX12 hown hK.1 hS hS0 f12_35 (by decide) (zkd_of (rfl : zcd wR 0 = 50) rfl) (Or.inl (hts _ (z_mem k979))) rfl (z := 0) (by decide +kernel) dX12_join_2 (fun H locs hS hS0 => ?_)
  obtain ⟨M1, e2⟩ : ∃ M1 : zM, M1 = zup M 0 35 0 := ⟨_, rfl⟩
  rw [← e2] at hS
  have h := h M1 e2
  refine lv_aload_n hx hb dX12_join_5 rfl (lv_at hl 0 rfl) ?_
  refine z_iconst hx hb dX12_join_6 ?_
  refine w_puti hx hb hts (z_memU u12) tyX12 tyX12_ok nmX12 hown hK.1 hS hS0 f12_48 (by decide) (zkd_of (rfl : zcd wR 0 = 50) rfl) (Or.inl (hts _ (z_mem k992))) rfl (z := (-1)) (by decide +kernel) dX12_join_7 (fun H locs hS hS0 => ?_)
  obtain ⟨M3, e4⟩ : ∃ M3 : zM, M3 = zup M1 0 48 (-1) := ⟨_, rfl⟩
  rw [← e4] at hS
  have h := h M3 e4
  refine lv_aload_n hx hb dX12_join_10 rfl (lv_at hl 0 rfl) ?_
  refine z_iconst hx hb dX12_join_11 ?_
  refine z_iconst hx hb dX12_join_12 ?_
  refine z_iconst hx hb dX12_join_13 ?_
  refine w_callv (va_runV (As := [.int (iI 0), .int (iI 0), .int (iI 0)]) (rest := []) ⟨hx, hb, hml, hown, hts⟩ (cR_joinFrom 6 l D dA b M3 0 0 0 _ h) (cwV 3 hts (z_gV k1316 k1317 k1420 k14 k1318) rfl rfl rfl dm_X12_joinFrom ⟨Nat.le_of_ble_eq_true rfl, Nat.le_of_ble_eq_true rfl⟩) ⟨wPre_blind, (w_recv hS hK.1 (by decide) (zkd_of (rfl : zcd wR 0 = 50) rfl) (by decide) (rfl : vwCl[12]? = some (RX12, TX12, 50))), w_pre hS hK⟩ rfl rfl hl.1 rfl (lv_room (Nat.le_of_ble_eq_true rfl)) dX12_join_14 ⟨Nat.le_refl _, Nat.le_refl _⟩) hS0 (fun M5 H locs h hS hS0 => ?_)
  refine lv_aload_n hx hb dX12_join_17 rfl (lv_at hl 0 rfl) ?_
  refine lv_aload_n hx hb dX12_join_18 rfl (lv_at hl 0 rfl) ?_
  refine w_geti hx hb hts (z_memU u12) hown hK.1 hS f12_48 (by decide) (zkd_of (rfl : zcd wR 0 = 50) rfl) (Or.inl (hts _ (z_mem k992))) dX12_join_19 ?_
  refine w_puti hx hb hts (z_memU u12) tyX12 tyX12_ok nmX12 hown hK.1 hS hS0 f12_34 (by decide) (zkd_of (rfl : zcd wR 0 = 50) rfl) (Or.inl (hts _ (z_mem k978))) rfl (z := (M5 0 48)) (by decide +kernel) dX12_join_22 (fun H locs hS hS0 => ?_)
  obtain ⟨M6, e7⟩ : ∃ M6 : zM, M6 = zup M5 0 34 (M5 0 48) := ⟨_, rfl⟩
  rw [← e7] at hS
  have h := h M6 e7
  refine z_iconst hx hb dX12_join_25 ?_
  refine lv_istore_n (lv' := [(1, .int (iI 0)), (0, .ref (b + 0))]) hx hb dX12_join_26 rfl hl (by decide) rfl (fun ls hl => ?_)
  obtain ⟨I10, ⟨n11, h12⟩, h13⟩ := h
  have L14 : ∀ (n15 : Nat) (x8 : Int) (M9 : zM) (H : Heap) (locs : List Loc) (ls : Array Slot), I10 n15 x8 M9 → zR D dA vwCl wR nR b M9 H → va_S (zA nR b) s.heap H locs → lv_has ls 2 [(0, .ref (b + 0)), (1, .int (iI x8))] → W p l e (headSpec (.code yX12_join cX12_join 2 (some .int) :: zt) (z_rm 9)).room s m args below meth c H locs 0 0 (MQ below (va_Qi (wQi Q) (zB D dA vwCl wR nR b) (zA nR b)) args s 0 0 (zA nR b)) (F0 m 27 ls []) := by
    intro n15
    induction n15 using Nat.strongRecOn with
    | ind n15 i16 =>
      intro x8 M9 H locs ls h hS hS0 hl
      have h := h13 n15 x8 M9 h
      refine lv_iload_n hx hb dX12_join_27 rfl (lv_at hl 1 rfl) ?_
      refine lv_aload_n hx hb dX12_join_28 rfl (lv_at hl 0 rfl) ?_
      refine w_geti hx hb hts (z_memU u12) hown hK.1 hS f12_34 (by decide) (zkd_of (rfl : zcd wR 0 = 50) rfl) (Or.inl (hts _ (z_mem k978))) dX12_join_29 ?_
      refine w_icmp_ge (tgt := 53) hx hb rfl rfl dX12_join_32 (by decide) (fun c17 => ?_) (fun c17 => ?_)
      · skip
        have h := h.1 c17
        refine lv_aload_n hx hb dX12_join_53 rfl (lv_at hl 0 rfl) ?_
        refine w_geti hx hb hts (z_memU u12) hown hK.1 hS f12_48 (by decide) (zkd_of (rfl : zcd wR 0 = 50) rfl) (Or.inl (hts _ (z_mem k992))) dX12_join_54 ?_
        exact w_iret hx hb hr hlocks hS hS0 rfl h dX12_join_57
      · skip
        have h := h.2 c17
        refine lv_aload_n hx hb dX12_join_35 rfl (lv_at hl 0 rfl) ?_
        refine w_getr (j2 := 22) hx hb hts (z_memU u12) hown hK.1 hS f12_33 (by decide) (zkd_of (rfl : zcd wR 0 = 50) rfl) (zrf_of (rfl : zcd wR 0 = 50) rfl) (Or.inl (hts _ (z_mem k977))) dX12_join_36 ?_
        refine lv_iload_n hx hb dX12_join_39 rfl (lv_at hl 1 rfl) ?_
        refine lv_aload_n hx hb dX12_join_40 rfl (lv_at hl 0 rfl) ?_
        refine w_getr (j2 := 32) hx hb hts (z_memU u12) hown hK.1 hS f12_47 (by decide) (zkd_of (rfl : zcd wR 0 = 50) rfl) (zrf_of (rfl : zcd wR 0 = 50) rfl) (Or.inl (hts _ (z_mem k991))) dX12_join_41 ?_
        refine lv_iload_n hx hb dX12_join_44 rfl (lv_at hl 1 rfl) ?_
        obtain ⟨o18, h⟩ := h
        refine w_iald (n := 40) (i := (sI x8)) hx hb hK.1 (t0 := 0) rfl hS (by decide) (zkd_of (rfl : zcd wR 32 = 82) rfl) (zln_of (rfl : zcd wR 32 = 82) rfl) rfl o18.1 o18.2 (by decide) dX12_join_45 ?_
        obtain ⟨o19, h⟩ := h
        refine w_iast (z := (M9 32 (sI x8).toNat)) (n := 64) (i := (sI x8)) hx hb hK.1 (t0 := 0) rfl hS hS0 (by decide) (zkd_of (rfl : zcd wR 22 = 72) rfl) (zln_of (rfl : zcd wR 22 = 72) rfl) rfl o19.1 o19.2 (by decide) dX12_join_46 (fun H locs hS hS0 => ?_)
        obtain ⟨M20, e21⟩ : ∃ M20 : zM, M20 = zup M9 22 (sI x8).toNat (M9 32 (sI x8).toNat) := ⟨_, rfl⟩
        rw [← e21] at hS
        have h := h M20 e21
        refine z_iinc (lv' := [(1, .int (iI (x8 + 1))), (0, .ref (b + 0))]) hx hb dX12_join_47 hl (k := 1) rfl (by decide) rfl (fun ls hl => ?_)
        refine lv_goto (tgt := 27) hx hb dX12_join_50 (by decide) ?_
        obtain ⟨n22, h23, h⟩ := h
        exact i16 n22 h23 (x8 + 1) M20 _ _ _ h hS hS0 (lv_sub hl [1, 0] rfl)
  exact L14 n11 0 M6 _ _ _ h12 hS hS0 (lv_sub hl [1, 0] rfl)

set_option maxRecDepth 100000 in
def wR_keep (a0 : Int) (a1 : Int) (M : zM) (Q : Int → zM → Prop) : Prop := (∀ M1 : zM, M1 = zup M 0 35 0 → wR_isRing a0 M1 (fun z4 => (z4 = 0 → Q (-1) M1) ∧ (z4 ≠ 0 → wR_in a1 0 999 M1 (fun z9 => (z9 = 0 → Q (-1) M1) ∧ (z9 ≠ 0 → ((sI (M1 0 32)) = 16 → Q (-1) M1) ∧ ((sI (M1 0 32)) ≠ 16 → pJ0 (fun J57 => ((sI (M1 0 32)) ≤ 0 → J57) ∧ (0 < (sI (M1 0 32)) → ((0 ≤ (sI ((M1 0 32) - 1)) ∧ (sI ((M1 0 32) - 1)) < 16) ∧ ((sI (M1 21 (sI ((M1 0 32) - 1)).toNat)) ≤ (sI a1) → J57) ∧ ((sI a1) < (sI (M1 21 (sI ((M1 0 32) - 1)).toNat)) → Q (-1) M1)))) (((0 ≤ (sI (M1 0 32)) ∧ (sI (M1 0 32)) < 16) ∧ (∀ M20 : zM, M20 = zup M1 20 (sI (M1 0 32)).toNat a0 → ((0 ≤ (sI (M20 0 32)) ∧ (sI (M20 0 32)) < 16) ∧ (∀ M23 : zM, M23 = zup M20 21 (sI (M20 0 32)).toNat a1 → ((0 ≤ (sI a0) ∧ (sI a0) < 4) ∧ ((0 ≤ (sI (M23 0 32)) ∧ (sI (M23 0 32)) < 16) ∧ (∀ M27 : zM, M27 = zup M23 19 (sI (M23 0 32)).toNat (M23 4 (sI a0).toNat) → wL1 (fun K94 x29 M30 => ((0 ≤ (sI a0) ∧ (sI a0) < 4) ∧ ((sI (M30 4 (sI a0).toNat)) ≤ (sI x29) → (∀ M40 : zM, M40 = zup M30 0 32 ((M30 0 32) + 1) → Q (sI ((M40 0 32) - 1)) M40)) ∧ ((sI x29) < (sI (M30 4 (sI a0).toNat)) → ((0 ≤ (sI ((24 * a0) + x29)) ∧ (sI ((24 * a0) + x29)) < 96) ∧ ((0 ≤ (sI ((24 * (M30 0 32)) + x29)) ∧ (sI ((24 * (M30 0 32)) + x29)) < 384) ∧ (∀ M44 : zM, M44 = zup M30 18 (sI ((24 * (M30 0 32)) + x29)).toNat (M30 3 (sI ((24 * a0) + x29)).toNat) → K94 (x29 + 1) M44)))))) 0 M27))))))))))))))
set_option maxHeartbeats 4000000 in
set_option maxRecDepth 100000 in
theorem cR_keep (l : Launch) (D : va_G) (dA : Nat → ClassId) (b : Nat) (M : zM) (a0 : Int) (a1 : Int)  (Q : Int → zM → Prop) (h : wR_keep a0 a1 M Q) : Met l yX12_keep (.code yX12_keep cX12_keep 4 (some .int) :: zt) (z_rm 2) (va_Pc [.ref (b + 0), .int (iI a0), .int (iI a1)] (wPre D dA vwCl (z_tys dA) wR nR b M)) (va_Qi (wQi Q) (zB D dA vwCl wR nR b) (zA nR b)) 0 0 (zA nR b) := by
  unfold wR_keep at h
  refine Met.ofW (cc := cX12_keep) (maxL := 4) (ret := (some .int)) (by decide) rfl ?_
  intro p e s m args below meth c s₁ B hml hv
  obtain ⟨hargs, hS, hK⟩ := hv
  have hx := B.exec
  have hb := B.bytes
  have hr := B.returns
  have hts := atoms_spec (ws := .code yX12_keep cX12_keep 4 (some .int) :: zt) B.pre
  have hown : s.vm.findClass RX12 = some m.cls := findClass_of_methodNamed B.named
  have hlocks := B.notSynchronized
  have hS0 : va_S (zA nR b) s.heap s.heap [] := va_S.rf
  have hl := lv_entry ([.ref (b + 0), .int (iI a0), .int (iI a1)]) (n := 4) (Nat.le_of_ble_eq_true rfl)
  have hent : entryFrame m args 4 = F0 m 0 ((lg_sl ([.ref (b + 0), .int (iI a0), .int (iI a1)]) ++ List.replicate (4 - (lg_sl ([.ref (b + 0), .int (iI a0), .int (iI a1)])).length) Slot.unset).toArray) [] := by rw [hargs]; exact lg_entry_eq m ([.ref (b + 0), .int (iI a0), .int (iI a1)]) 4
  rw [hent]
  generalize (lg_sl ([.ref (b + 0), .int (iI a0), .int (iI a1)]) ++ List.replicate (4 - (lg_sl ([.ref (b + 0), .int (iI a0), .int (iI a1)])).length) Slot.unset).toArray = ls at hl ⊢
  have hl : lv_has ls 4 [(0, .ref (b + 0)), (1, .int (iI a0)), (2, .int (iI a1))] := hl
  refine lv_aload_n hx hb dX12_keep_0 rfl (lv_at hl 0 rfl) ?_
  refine z_iconst hx hb dX12_keep_1 ?_
  refine w_puti hx hb hts (z_memU u12) tyX12 tyX12_ok nmX12 hown hK.1 hS hS0 f12_35 (by decide) (zkd_of (rfl : zcd wR 0 = 50) rfl) (Or.inl (hts _ (z_mem k979))) rfl (z := 0) (by decide +kernel) dX12_keep_2 (fun H locs hS hS0 => ?_)
  obtain ⟨M1, e2⟩ : ∃ M1 : zM, M1 = zup M 0 35 0 := ⟨_, rfl⟩
  rw [← e2] at hS
  have h := h M1 e2
  refine lv_aload_n hx hb dX12_keep_5 rfl (lv_at hl 0 rfl) ?_
  refine lv_iload_n hx hb dX12_keep_6 rfl (lv_at hl 1 rfl) ?_
  refine w_callz (va_runV (As := [.int (iI a0)]) (rest := []) ⟨hx, hb, hml, hown, hts⟩ (cR_isRing l D dA b M1 a0 _ h) (cwV 1 hts (z_gV k1097 k1098 k1397 k14 k1099) rfl rfl rfl dm_X12_isRing ⟨Nat.le_of_ble_eq_true rfl, Nat.le_of_ble_eq_true rfl⟩) ⟨wPre_blind, (w_recv hS hK.1 (by decide) (zkd_of (rfl : zcd wR 0 = 50) rfl) (by decide) (rfl : vwCl[12]? = some (RX12, TX12, 50))), w_pre hS hK⟩ rfl rfl hl.1 rfl (lv_room (Nat.le_of_ble_eq_true rfl)) dX12_keep_7 ⟨Nat.le_refl _, Nat.le_refl _⟩) hS0 (fun z4 M3 H locs r5 h hS hS0 => ?_)
  obtain ⟨e6, h⟩ := h
  rw [e6] at hS
  refine w_if_eq (tgt := 55) hx hb (sI_01 r5) dX12_keep_10 (by decide) (fun c7 => ?_) (fun c7 => ?_)
  · skip
    have h := h.1 c7
    refine z_iconst hx hb dX12_keep_55 ?_
    exact w_iret hx hb hr hlocks hS hS0 (sI_of (by decide)) h dX12_keep_56
  · skip
    have h := h.2 c7
    refine lv_iload_n hx hb dX12_keep_13 rfl (lv_at hl 2 rfl) ?_
    refine z_iconst hx hb dX12_keep_14 ?_
    refine z_sipush hx hb (by decide) dX12_keep_15 ?_
    refine w_callz (va_runS (As := [.int (iI a1), .int (iI 0), .int (iI 999)]) (rest := []) ⟨hx, hb, hml, hown, hts⟩ (cR_in l D dA b M1 a1 0 999 _ h) (va_cwS 3 hts (z_gS k1083 k1084 k14 k1085) rfl rfl rfl dm_X12_in.2 ⟨Nat.le_of_ble_eq_true rfl, Nat.le_of_ble_eq_true rfl⟩) ⟨wPre_blind, w_pre hS hK⟩ rfl rfl hl.1 rfl (lv_room (Nat.le_of_ble_eq_true rfl)) dX12_keep_18 ⟨Nat.le_refl _, Nat.le_refl _⟩) hS0 (fun z9 M8 H locs r10 h hS hS0 => ?_)
    obtain ⟨e11, h⟩ := h
    rw [e11] at hS
    refine w_if_eq (tgt := 55) hx hb (sI_01 r10) dX12_keep_21 (by decide) (fun c12 => ?_) (fun c12 => ?_)
    · skip
      have h := h.1 c12
      refine z_iconst hx hb dX12_keep_55 ?_
      exact w_iret hx hb hr hlocks hS hS0 (sI_of (by decide)) h dX12_keep_56
    · skip
      have h := h.2 c12
      refine lv_aload_n hx hb dX12_keep_24 rfl (lv_at hl 0 rfl) ?_
      refine w_geti hx hb hts (z_memU u12) hown hK.1 hS f12_32 (by decide) (zkd_of (rfl : zcd wR 0 = 50) rfl) (Or.inl (hts _ (z_mem k976))) dX12_keep_25 ?_
      refine z_bipush hx hb (by decide) dX12_keep_28 ?_
      refine w_icmp_eq (tgt := 55) hx hb rfl (sI_of (by decide)) dX12_keep_30 (by decide) (fun c13 => ?_) (fun c13 => ?_)
      · skip
        have h := h.1 c13
        refine z_iconst hx hb dX12_keep_55 ?_
        exact w_iret hx hb hr hlocks hS hS0 (sI_of (by decide)) h dX12_keep_56
      · skip
        have h := h.2 c13
        refine lv_aload_n hx hb dX12_keep_33 rfl (lv_at hl 0 rfl) ?_
        refine w_geti hx hb hts (z_memU u12) hown hK.1 hS f12_32 (by decide) (zkd_of (rfl : zcd wR 0 = 50) rfl) (Or.inl (hts _ (z_mem k976))) dX12_keep_34 ?_
        obtain ⟨J57, B18, h⟩ := h
        have L17 : ∀ (H : Heap) (locs : List Loc) (ls : Array Slot), J57 → zR D dA vwCl wR nR b M1 H → va_S (zA nR b) s.heap H locs → lv_has ls 4 [(0, .ref (b + 0)), (1, .int (iI a0)), (2, .int (iI a1))] → W p l e (headSpec (.code yX12_keep cX12_keep 4 (some .int) :: zt) (z_rm 2)).room s m args below meth c H locs 0 0 (MQ below (va_Qi (wQi Q) (zB D dA vwCl wR nR b) (zA nR b)) args s 0 0 (zA nR b)) (F0 m 57 ls []) := by
          intro  H locs ls h hS hS0 hl
          have h := B18 h
          refine lv_aload_n hx hb dX12_keep_57 rfl (lv_at hl 0 rfl) ?_
          refine w_getr (j2 := 20) hx hb hts (z_memU u12) hown hK.1 hS f12_30 (by decide) (zkd_of (rfl : zcd wR 0 = 50) rfl) (zrf_of (rfl : zcd wR 0 = 50) rfl) (Or.inl (hts _ (z_mem k974))) dX12_keep_58 ?_
          refine lv_aload_n hx hb dX12_keep_61 rfl (lv_at hl 0 rfl) ?_
          refine w_geti hx hb hts (z_memU u12) hown hK.1 hS f12_32 (by decide) (zkd_of (rfl : zcd wR 0 = 50) rfl) (Or.inl (hts _ (z_mem k976))) dX12_keep_62 ?_
          refine lv_iload_n hx hb dX12_keep_65 rfl (lv_at hl 1 rfl) ?_
          obtain ⟨o19, h⟩ := h
          refine w_iast (z := a0) (n := 16) (i := (sI (M1 0 32))) hx hb hK.1 (t0 := 0) rfl hS hS0 (by decide) (zkd_of (rfl : zcd wR 20 = 70) rfl) (zln_of (rfl : zcd wR 20 = 70) rfl) rfl o19.1 o19.2 (by decide) dX12_keep_66 (fun H locs hS hS0 => ?_)
          obtain ⟨M20, e21⟩ : ∃ M20 : zM, M20 = zup M1 20 (sI (M1 0 32)).toNat a0 := ⟨_, rfl⟩
          rw [← e21] at hS
          have h := h M20 e21
          refine lv_aload_n hx hb dX12_keep_67 rfl (lv_at hl 0 rfl) ?_
          refine w_getr (j2 := 21) hx hb hts (z_memU u12) hown hK.1 hS f12_31 (by decide) (zkd_of (rfl : zcd wR 0 = 50) rfl) (zrf_of (rfl : zcd wR 0 = 50) rfl) (Or.inl (hts _ (z_mem k975))) dX12_keep_68 ?_
          refine lv_aload_n hx hb dX12_keep_71 rfl (lv_at hl 0 rfl) ?_
          refine w_geti hx hb hts (z_memU u12) hown hK.1 hS f12_32 (by decide) (zkd_of (rfl : zcd wR 0 = 50) rfl) (Or.inl (hts _ (z_mem k976))) dX12_keep_72 ?_
          refine lv_iload_n hx hb dX12_keep_75 rfl (lv_at hl 2 rfl) ?_
          obtain ⟨o22, h⟩ := h
          refine w_iast (z := a1) (n := 16) (i := (sI (M20 0 32))) hx hb hK.1 (t0 := 0) rfl hS hS0 (by decide) (zkd_of (rfl : zcd wR 21 = 71) rfl) (zln_of (rfl : zcd wR 21 = 71) rfl) rfl o22.1 o22.2 (by decide) dX12_keep_76 (fun H locs hS hS0 => ?_)
          obtain ⟨M23, e24⟩ : ∃ M23 : zM, M23 = zup M20 21 (sI (M20 0 32)).toNat a1 := ⟨_, rfl⟩
          rw [← e24] at hS
          have h := h M23 e24
          refine lv_aload_n hx hb dX12_keep_77 rfl (lv_at hl 0 rfl) ?_
          refine w_getr (j2 := 19) hx hb hts (z_memU u12) hown hK.1 hS f12_29 (by decide) (zkd_of (rfl : zcd wR 0 = 50) rfl) (zrf_of (rfl : zcd wR 0 = 50) rfl) (Or.inl (hts _ (z_mem k973))) dX12_keep_78 ?_
          refine lv_aload_n hx hb dX12_keep_81 rfl (lv_at hl 0 rfl) ?_
          refine w_geti hx hb hts (z_memU u12) hown hK.1 hS f12_32 (by decide) (zkd_of (rfl : zcd wR 0 = 50) rfl) (Or.inl (hts _ (z_mem k976))) dX12_keep_82 ?_
          refine lv_aload_n hx hb dX12_keep_85 rfl (lv_at hl 0 rfl) ?_
          refine w_getr (j2 := 4) hx hb hts (z_memU u12) hown hK.1 hS f12_5 (by decide) (zkd_of (rfl : zcd wR 0 = 50) rfl) (zrf_of (rfl : zcd wR 0 = 50) rfl) (Or.inl (hts _ (z_mem k949))) dX12_keep_86 ?_
          refine lv_iload_n hx hb dX12_keep_89 rfl (lv_at hl 1 rfl) ?_
          obtain ⟨o25, h⟩ := h
          refine w_iald (n := 4) (i := (sI a0)) hx hb hK.1 (t0 := 0) rfl hS (by decide) (zkd_of (rfl : zcd wR 4 = 54) rfl) (zln_of (rfl : zcd wR 4 = 54) rfl) rfl o25.1 o25.2 (by decide) dX12_keep_90 ?_
          obtain ⟨o26, h⟩ := h
          refine w_iast (z := (M23 4 (sI a0).toNat)) (n := 16) (i := (sI (M23 0 32))) hx hb hK.1 (t0 := 0) rfl hS hS0 (by decide) (zkd_of (rfl : zcd wR 19 = 69) rfl) (zln_of (rfl : zcd wR 19 = 69) rfl) rfl o26.1 o26.2 (by decide) dX12_keep_91 (fun H locs hS hS0 => ?_)
          obtain ⟨M27, e28⟩ : ∃ M27 : zM, M27 = zup M23 19 (sI (M23 0 32)).toNat (M23 4 (sI a0).toNat) := ⟨_, rfl⟩
          rw [← e28] at hS
          have h := h M27 e28
          refine z_iconst hx hb dX12_keep_92 ?_
          refine lv_istore_n (lv' := [(3, .int (iI 0)), (0, .ref (b + 0)), (1, .int (iI a0)), (2, .int (iI a1))]) hx hb dX12_keep_93 rfl hl (by decide) rfl (fun ls hl => ?_)
          obtain ⟨I31, ⟨n32, h33⟩, h34⟩ := h
          have L35 : ∀ (n36 : Nat) (x29 : Int) (M30 : zM) (H : Heap) (locs : List Loc) (ls : Array Slot), I31 n36 x29 M30 → zR D dA vwCl wR nR b M30 H → va_S (zA nR b) s.heap H locs → lv_has ls 4 [(0, .ref (b + 0)), (1, .int (iI a0)), (3, .int (iI x29))] → W p l e (headSpec (.code yX12_keep cX12_keep 4 (some .int) :: zt) (z_rm 2)).room s m args below meth c H locs 0 0 (MQ below (va_Qi (wQi Q) (zB D dA vwCl wR nR b) (zA nR b)) args s 0 0 (zA nR b)) (F0 m 94 ls []) := by
            intro n36
            induction n36 using Nat.strongRecOn with
            | ind n36 i37 =>
              intro x29 M30 H locs ls h hS hS0 hl
              have h := h34 n36 x29 M30 h
              refine lv_iload_n hx hb dX12_keep_94 rfl (lv_at hl 2 rfl) ?_
              refine lv_aload_n hx hb dX12_keep_95 rfl (lv_at hl 0 rfl) ?_
              refine w_getr (j2 := 4) hx hb hts (z_memU u12) hown hK.1 hS f12_5 (by decide) (zkd_of (rfl : zcd wR 0 = 50) rfl) (zrf_of (rfl : zcd wR 0 = 50) rfl) (Or.inl (hts _ (z_mem k949))) dX12_keep_96 ?_
              refine lv_iload_n hx hb dX12_keep_99 rfl (lv_at hl 1 rfl) ?_
              obtain ⟨o38, h⟩ := h
              refine w_iald (n := 4) (i := (sI a0)) hx hb hK.1 (t0 := 0) rfl hS (by decide) (zkd_of (rfl : zcd wR 4 = 54) rfl) (zln_of (rfl : zcd wR 4 = 54) rfl) rfl o38.1 o38.2 (by decide) dX12_keep_100 ?_
              refine w_icmp_ge (tgt := 135) hx hb rfl rfl dX12_keep_101 (by decide) (fun c39 => ?_) (fun c39 => ?_)
              · skip
                have h := h.1 c39
                refine lv_aload_n hx hb dX12_keep_135 rfl (lv_at hl 0 rfl) ?_
                refine lv_dup hx hb dX12_keep_136 rfl ?_
                refine w_geti hx hb hts (z_memU u12) hown hK.1 hS f12_32 (by decide) (zkd_of (rfl : zcd wR 0 = 50) rfl) (Or.inl (hts _ (z_mem k976))) dX12_keep_137 ?_
                refine z_iconst hx hb dX12_keep_140 ?_
                refine z_iadd hx hb dX12_keep_141 ?_
                refine w_puti hx hb hts (z_memU u12) tyX12 tyX12_ok nmX12 hown hK.1 hS hS0 f12_32 (by decide) (zkd_of (rfl : zcd wR 0 = 50) rfl) (Or.inl (hts _ (z_mem k976))) rfl (z := ((M30 0 32) + 1)) (by decide +kernel) dX12_keep_142 (fun H locs hS hS0 => ?_)
                obtain ⟨M40, e41⟩ : ∃ M40 : zM, M40 = zup M30 0 32 ((M30 0 32) + 1) := ⟨_, rfl⟩
                rw [← e41] at hS
                have h := h M40 e41
                refine lv_aload_n hx hb dX12_keep_145 rfl (lv_at hl 0 rfl) ?_
                refine w_geti hx hb hts (z_memU u12) hown hK.1 hS f12_32 (by decide) (zkd_of (rfl : zcd wR 0 = 50) rfl) (Or.inl (hts _ (z_mem k976))) dX12_keep_146 ?_
                refine z_iconst hx hb dX12_keep_149 ?_
                refine z_isub hx hb dX12_keep_150 ?_
                exact w_iret hx hb hr hlocks hS hS0 rfl h dX12_keep_151
              · skip
                have h := h.2 c39
                refine lv_aload_n hx hb dX12_keep_104 rfl (lv_at hl 0 rfl) ?_
                refine w_getr (j2 := 18) hx hb hts (z_memU u12) hown hK.1 hS f12_28 (by decide) (zkd_of (rfl : zcd wR 0 = 50) rfl) (zrf_of (rfl : zcd wR 0 = 50) rfl) (Or.inl (hts _ (z_mem k972))) dX12_keep_105 ?_
                refine z_bipush hx hb (by decide) dX12_keep_108 ?_
                refine lv_aload_n hx hb dX12_keep_110 rfl (lv_at hl 0 rfl) ?_
                refine w_geti hx hb hts (z_memU u12) hown hK.1 hS f12_32 (by decide) (zkd_of (rfl : zcd wR 0 = 50) rfl) (Or.inl (hts _ (z_mem k976))) dX12_keep_111 ?_
                refine z_imul hx hb dX12_keep_114 ?_
                refine lv_iload_n hx hb dX12_keep_115 rfl (lv_at hl 2 rfl) ?_
                refine z_iadd hx hb dX12_keep_116 ?_
                refine lv_aload_n hx hb dX12_keep_117 rfl (lv_at hl 0 rfl) ?_
                refine w_getr (j2 := 3) hx hb hts (z_memU u12) hown hK.1 hS f12_4 (by decide) (zkd_of (rfl : zcd wR 0 = 50) rfl) (zrf_of (rfl : zcd wR 0 = 50) rfl) (Or.inl (hts _ (z_mem k948))) dX12_keep_118 ?_
                refine z_bipush hx hb (by decide) dX12_keep_121 ?_
                refine lv_iload_n hx hb dX12_keep_123 rfl (lv_at hl 1 rfl) ?_
                refine z_imul hx hb dX12_keep_124 ?_
                refine lv_iload_n hx hb dX12_keep_125 rfl (lv_at hl 2 rfl) ?_
                refine z_iadd hx hb dX12_keep_126 ?_
                obtain ⟨o42, h⟩ := h
                refine w_iald (n := 96) (i := (sI ((24 * a0) + x29))) hx hb hK.1 (t0 := 0) rfl hS (by decide) (zkd_of (rfl : zcd wR 3 = 53) rfl) (zln_of (rfl : zcd wR 3 = 53) rfl) rfl o42.1 o42.2 (by decide) dX12_keep_127 ?_
                obtain ⟨o43, h⟩ := h
                refine w_iast (z := (M30 3 (sI ((24 * a0) + x29)).toNat)) (n := 384) (i := (sI ((24 * (M30 0 32)) + x29))) hx hb hK.1 (t0 := 0) rfl hS hS0 (by decide) (zkd_of (rfl : zcd wR 18 = 68) rfl) (zln_of (rfl : zcd wR 18 = 68) rfl) rfl o43.1 o43.2 (by decide) dX12_keep_128 (fun H locs hS hS0 => ?_)
                obtain ⟨M44, e45⟩ : ∃ M44 : zM, M44 = zup M30 18 (sI ((24 * (M30 0 32)) + x29)).toNat (M30 3 (sI ((24 * a0) + x29)).toNat) := ⟨_, rfl⟩
                rw [← e45] at hS
                have h := h M44 e45
                refine z_iinc (lv' := [(3, .int (iI (x29 + 1))), (0, .ref (b + 0)), (1, .int (iI a0))]) hx hb dX12_keep_129 hl (k := 2) rfl (by decide) rfl (fun ls hl => ?_)
                refine lv_goto (tgt := 94) hx hb dX12_keep_132 (by decide) ?_
                obtain ⟨n46, h47, h⟩ := h
                exact i37 n46 h47 (x29 + 1) M44 _ _ _ h hS hS0 (lv_sub hl [1, 2, 0] rfl)
          exact L35 n32 0 M27 _ _ _ h33 hS hS0 (lv_sub hl [1, 2, 0] rfl)
        refine w_if_le (tgt := 57) hx hb rfl dX12_keep_37 (by decide) (fun c48 => ?_) (fun c48 => ?_)
        · skip
          have h := h.1 c48
          exact L17 _ _ _ h hS hS0 (lv_sub hl [0, 1, 2] rfl)
        · skip
          have h := h.2 c48
          refine lv_iload_n hx hb dX12_keep_40 rfl (lv_at hl 2 rfl) ?_
          refine lv_aload_n hx hb dX12_keep_41 rfl (lv_at hl 0 rfl) ?_
          refine w_getr (j2 := 21) hx hb hts (z_memU u12) hown hK.1 hS f12_31 (by decide) (zkd_of (rfl : zcd wR 0 = 50) rfl) (zrf_of (rfl : zcd wR 0 = 50) rfl) (Or.inl (hts _ (z_mem k975))) dX12_keep_42 ?_
          refine lv_aload_n hx hb dX12_keep_45 rfl (lv_at hl 0 rfl) ?_
          refine w_geti hx hb hts (z_memU u12) hown hK.1 hS f12_32 (by decide) (zkd_of (rfl : zcd wR 0 = 50) rfl) (Or.inl (hts _ (z_mem k976))) dX12_keep_46 ?_
          refine z_iconst hx hb dX12_keep_49 ?_
          refine z_isub hx hb dX12_keep_50 ?_
          obtain ⟨o49, h⟩ := h
          refine w_iald (n := 16) (i := (sI ((M1 0 32) - 1))) hx hb hK.1 (t0 := 0) rfl hS (by decide) (zkd_of (rfl : zcd wR 21 = 71) rfl) (zln_of (rfl : zcd wR 21 = 71) rfl) rfl o49.1 o49.2 (by decide) dX12_keep_51 ?_
          refine w_icmp_ge (tgt := 57) hx hb rfl rfl dX12_keep_52 (by decide) (fun c50 => ?_) (fun c50 => ?_)
          · skip
            have h := h.1 c50
            exact L17 _ _ _ h hS hS0 (lv_sub hl [0, 1, 2] rfl)
          · skip
            have h := h.2 c50
            refine z_iconst hx hb dX12_keep_55 ?_
            exact w_iret hx hb hr hlocks hS hS0 (sI_of (by decide)) h dX12_keep_56

set_option maxRecDepth 100000 in
def wR_known (a0 : Int) (a1 : Int) (M : zM) (Q : Int → zM → Prop) : Prop := (∀ M1 : zM, M1 = zup M 0 35 0 → pL1 (fun K12 x3 => ((sI x3) < 0 → Q (-1) M1) ∧ (0 ≤ (sI x3) → ((0 ≤ (sI x3) ∧ (sI x3) < 16) ∧ ((sI (M1 20 (sI x3).toNat)) ≠ (sI a0) → K12 (x3 + (-1))) ∧ ((sI (M1 20 (sI x3).toNat)) = (sI a0) → ((0 ≤ (sI x3) ∧ (sI x3) < 16) ∧ ((sI a1) < (sI (M1 21 (sI x3).toNat)) → K12 (x3 + (-1))) ∧ ((sI (M1 21 (sI x3).toNat)) ≤ (sI a1) → Q (sI x3) M1)))))) ((M1 0 32) - 1))
set_option maxHeartbeats 4000000 in
set_option maxRecDepth 100000 in
theorem cR_known (l : Launch) (D : va_G) (dA : Nat → ClassId) (b : Nat) (M : zM) (a0 : Int) (a1 : Int)  (Q : Int → zM → Prop) (h : wR_known a0 a1 M Q) : Met l yX12_known (.code yX12_known cX12_known 4 (some .int) :: zt) (z_rm 0) (va_Pc [.ref (b + 0), .int (iI a0), .int (iI a1)] (wPre D dA vwCl (z_tys dA) wR nR b M)) (va_Qi (wQi Q) (zB D dA vwCl wR nR b) (zA nR b)) 0 0 (zA nR b) := by
  unfold wR_known at h
  refine Met.ofW (cc := cX12_known) (maxL := 4) (ret := (some .int)) (by decide) rfl ?_
  intro p e s m args below meth c s₁ B hml hv
  obtain ⟨hargs, hS, hK⟩ := hv
  have hx := B.exec
  have hb := B.bytes
  have hr := B.returns
  have hts := atoms_spec (ws := .code yX12_known cX12_known 4 (some .int) :: zt) B.pre
  have hown : s.vm.findClass RX12 = some m.cls := findClass_of_methodNamed B.named
  have hlocks := B.notSynchronized
  have hS0 : va_S (zA nR b) s.heap s.heap [] := va_S.rf
  have hl := lv_entry ([.ref (b + 0), .int (iI a0), .int (iI a1)]) (n := 4) (Nat.le_of_ble_eq_true rfl)
  have hent : entryFrame m args 4 = F0 m 0 ((lg_sl ([.ref (b + 0), .int (iI a0), .int (iI a1)]) ++ List.replicate (4 - (lg_sl ([.ref (b + 0), .int (iI a0), .int (iI a1)])).length) Slot.unset).toArray) [] := by rw [hargs]; exact lg_entry_eq m ([.ref (b + 0), .int (iI a0), .int (iI a1)]) 4
  rw [hent]
  generalize (lg_sl ([.ref (b + 0), .int (iI a0), .int (iI a1)]) ++ List.replicate (4 - (lg_sl ([.ref (b + 0), .int (iI a0), .int (iI a1)])).length) Slot.unset).toArray = ls at hl ⊢
  have hl : lv_has ls 4 [(0, .ref (b + 0)), (1, .int (iI a0)), (2, .int (iI a1))] := hl
  refine lv_aload_n hx hb dX12_known_0 rfl (lv_at hl 0 rfl) ?_
  refine z_iconst hx hb dX12_known_1 ?_
  refine w_puti hx hb hts (z_memU u12) tyX12 tyX12_ok nmX12 hown hK.1 hS hS0 f12_35 (by decide) (zkd_of (rfl : zcd wR 0 = 50) rfl) (Or.inl (hts _ (z_mem k979))) rfl (z := 0) (by decide +kernel) dX12_known_2 (fun H locs hS hS0 => ?_)
  obtain ⟨M1, e2⟩ : ∃ M1 : zM, M1 = zup M 0 35 0 := ⟨_, rfl⟩
  rw [← e2] at hS
  have h := h M1 e2
  refine lv_aload_n hx hb dX12_known_5 rfl (lv_at hl 0 rfl) ?_
  refine w_geti hx hb hts (z_memU u12) hown hK.1 hS f12_32 (by decide) (zkd_of (rfl : zcd wR 0 = 50) rfl) (Or.inl (hts _ (z_mem k976))) dX12_known_6 ?_
  refine z_iconst hx hb dX12_known_9 ?_
  refine z_isub hx hb dX12_known_10 ?_
  refine lv_istore_n (lv' := [(3, .int (iI ((M1 0 32) - 1))), (0, .ref (b + 0)), (1, .int (iI a0)), (2, .int (iI a1))]) hx hb dX12_known_11 rfl hl (by decide) rfl (fun ls hl => ?_)
  obtain ⟨I4, ⟨n5, h6⟩, h7⟩ := h
  have L8 : ∀ (n9 : Nat) (x3 : Int) (H : Heap) (locs : List Loc) (ls : Array Slot), I4 n9 x3 → zR D dA vwCl wR nR b M1 H → va_S (zA nR b) s.heap H locs → lv_has ls 4 [(0, .ref (b + 0)), (1, .int (iI a0)), (2, .int (iI a1)), (3, .int (iI x3))] → W p l e (headSpec (.code yX12_known cX12_known 4 (some .int) :: zt) (z_rm 0)).room s m args below meth c H locs 0 0 (MQ below (va_Qi (wQi Q) (zB D dA vwCl wR nR b) (zA nR b)) args s 0 0 (zA nR b)) (F0 m 12 ls []) := by
    intro n9
    induction n9 using Nat.strongRecOn with
    | ind n9 i10 =>
      intro x3 H locs ls h hS hS0 hl
      have h := h7 n9 x3 h
      refine lv_iload_n hx hb dX12_known_12 rfl (lv_at hl 3 rfl) ?_
      refine w_if_lt (tgt := 44) hx hb rfl dX12_known_13 (by decide) (fun c11 => ?_) (fun c11 => ?_)
      · skip
        have h := h.1 c11
        refine z_iconst hx hb dX12_known_44 ?_
        exact w_iret hx hb hr hlocks hS hS0 (sI_of (by decide)) h dX12_known_45
      · skip
        have h := h.2 c11
        refine lv_aload_n hx hb dX12_known_16 rfl (lv_at hl 0 rfl) ?_
        refine w_getr (j2 := 20) hx hb hts (z_memU u12) hown hK.1 hS f12_30 (by decide) (zkd_of (rfl : zcd wR 0 = 50) rfl) (zrf_of (rfl : zcd wR 0 = 50) rfl) (Or.inl (hts _ (z_mem k974))) dX12_known_17 ?_
        refine lv_iload_n hx hb dX12_known_20 rfl (lv_at hl 3 rfl) ?_
        obtain ⟨o12, h⟩ := h
        refine w_iald (n := 16) (i := (sI x3)) hx hb hK.1 (t0 := 0) rfl hS (by decide) (zkd_of (rfl : zcd wR 20 = 70) rfl) (zln_of (rfl : zcd wR 20 = 70) rfl) rfl o12.1 o12.2 (by decide) dX12_known_21 ?_
        refine lv_iload_n hx hb dX12_known_22 rfl (lv_at hl 1 rfl) ?_
        refine w_icmp_ne (tgt := 38) hx hb rfl rfl dX12_known_23 (by decide) (fun c13 => ?_) (fun c13 => ?_)
        · skip
          have h := h.1 c13
          refine z_iinc (lv' := [(3, .int (iI (x3 + (-1)))), (0, .ref (b + 0)), (1, .int (iI a0)), (2, .int (iI a1))]) hx hb dX12_known_38 hl (k := 3) rfl (by decide) rfl (fun ls hl => ?_)
          refine lv_goto (tgt := 12) hx hb dX12_known_41 (by decide) ?_
          obtain ⟨n14, h15, h⟩ := h
          exact i10 n14 h15 (x3 + (-1)) _ _ _ h hS hS0 (lv_sub hl [1, 2, 3, 0] rfl)
        · skip
          have h := h.2 c13
          refine lv_aload_n hx hb dX12_known_26 rfl (lv_at hl 0 rfl) ?_
          refine w_getr (j2 := 21) hx hb hts (z_memU u12) hown hK.1 hS f12_31 (by decide) (zkd_of (rfl : zcd wR 0 = 50) rfl) (zrf_of (rfl : zcd wR 0 = 50) rfl) (Or.inl (hts _ (z_mem k975))) dX12_known_27 ?_
          refine lv_iload_n hx hb dX12_known_30 rfl (lv_at hl 3 rfl) ?_
          obtain ⟨o16, h⟩ := h
          refine w_iald (n := 16) (i := (sI x3)) hx hb hK.1 (t0 := 0) rfl hS (by decide) (zkd_of (rfl : zcd wR 21 = 71) rfl) (zln_of (rfl : zcd wR 21 = 71) rfl) rfl o16.1 o16.2 (by decide) dX12_known_31 ?_
          refine lv_iload_n hx hb dX12_known_32 rfl (lv_at hl 2 rfl) ?_
          refine w_icmp_gt (tgt := 38) hx hb rfl rfl dX12_known_33 (by decide) (fun c17 => ?_) (fun c17 => ?_)
          · skip
            have h := h.1 c17
            refine z_iinc (lv' := [(3, .int (iI (x3 + (-1)))), (0, .ref (b + 0)), (1, .int (iI a0)), (2, .int (iI a1))]) hx hb dX12_known_38 hl (k := 3) rfl (by decide) rfl (fun ls hl => ?_)
            refine lv_goto (tgt := 12) hx hb dX12_known_41 (by decide) ?_
            obtain ⟨n18, h19, h⟩ := h
            exact i10 n18 h19 (x3 + (-1)) _ _ _ h hS hS0 (lv_sub hl [1, 2, 3, 0] rfl)
          · skip
            have h := h.2 c17
            refine lv_iload_n hx hb dX12_known_36 rfl (lv_at hl 3 rfl) ?_
            exact w_iret hx hb hr hlocks hS hS0 rfl h dX12_known_37
  exact L8 n5 ((M1 0 32) - 1) _ _ _ h6 hS hS0 (lv_sub hl [1, 2, 3, 0] rfl)

set_option maxRecDepth 100000 in
def wR_fetch (a0 : Int) (M : zM) (Q : Int → zM → Prop) : Prop := (∀ M1 : zM, M1 = zup M 0 35 0 → wR_in a0 0 ((M1 0 32) - 1) M1 (fun z4 => (z4 ≠ 0 → ((0 ≤ (sI a0) ∧ (sI a0) < 16) ∧ (∀ M9 : zM, M9 = zup M1 0 3 (M1 19 (sI a0).toNat) → wL1 (fun K33 x11 M12 => ((sI (M12 0 3)) ≤ (sI x11) → Q (sI (M12 0 3)) M12) ∧ ((sI x11) < (sI (M12 0 3)) → ((0 ≤ (sI ((24 * a0) + x11)) ∧ (sI ((24 * a0) + x11)) < 384) ∧ ((0 ≤ (sI x11) ∧ (sI x11) < 24) ∧ (∀ M23 : zM, M23 = zup M12 2 (sI x11).toNat (M12 18 (sI ((24 * a0) + x11)).toNat) → K33 (x11 + 1) M23))))) 0 M9))) ∧ (z4 = 0 → Q (-1) M1)))
set_option maxHeartbeats 4000000 in
set_option maxRecDepth 100000 in
theorem cR_fetch (l : Launch) (D : va_G) (dA : Nat → ClassId) (b : Nat) (M : zM) (a0 : Int)  (Q : Int → zM → Prop) (h : wR_fetch a0 M Q) : Met l yX12_fetch (.code yX12_fetch cX12_fetch 3 (some .int) :: zt) (z_rm 1) (va_Pc [.ref (b + 0), .int (iI a0)] (wPre D dA vwCl (z_tys dA) wR nR b M)) (va_Qi (wQi Q) (zB D dA vwCl wR nR b) (zA nR b)) 0 0 (zA nR b) := by
  unfold wR_fetch at h
  refine Met.ofW (cc := cX12_fetch) (maxL := 3) (ret := (some .int)) (by decide) rfl ?_
  intro p e s m args below meth c s₁ B hml hv
  obtain ⟨hargs, hS, hK⟩ := hv
  have hx := B.exec
  have hb := B.bytes
  have hr := B.returns
  have hts := atoms_spec (ws := .code yX12_fetch cX12_fetch 3 (some .int) :: zt) B.pre
  have hown : s.vm.findClass RX12 = some m.cls := findClass_of_methodNamed B.named
  have hlocks := B.notSynchronized
  have hS0 : va_S (zA nR b) s.heap s.heap [] := va_S.rf
  have hl := lv_entry ([.ref (b + 0), .int (iI a0)]) (n := 3) (Nat.le_of_ble_eq_true rfl)
  have hent : entryFrame m args 3 = F0 m 0 ((lg_sl ([.ref (b + 0), .int (iI a0)]) ++ List.replicate (3 - (lg_sl ([.ref (b + 0), .int (iI a0)])).length) Slot.unset).toArray) [] := by rw [hargs]; exact lg_entry_eq m ([.ref (b + 0), .int (iI a0)]) 3
  rw [hent]
  generalize (lg_sl ([.ref (b + 0), .int (iI a0)]) ++ List.replicate (3 - (lg_sl ([.ref (b + 0), .int (iI a0)])).length) Slot.unset).toArray = ls at hl ⊢
  have hl : lv_has ls 3 [(0, .ref (b + 0)), (1, .int (iI a0))] := hl
  refine lv_aload_n hx hb dX12_fetch_0 rfl (lv_at hl 0 rfl) ?_
  refine z_iconst hx hb dX12_fetch_1 ?_
  refine w_puti hx hb hts (z_memU u12) tyX12 tyX12_ok nmX12 hown hK.1 hS hS0 f12_35 (by decide) (zkd_of (rfl : zcd wR 0 = 50) rfl) (Or.inl (hts _ (z_mem k979))) rfl (z := 0) (by decide +kernel) dX12_fetch_2 (fun H locs hS hS0 => ?_)
  obtain ⟨M1, e2⟩ : ∃ M1 : zM, M1 = zup M 0 35 0 := ⟨_, rfl⟩
  rw [← e2] at hS
  have h := h M1 e2
  refine lv_iload_n hx hb dX12_fetch_5 rfl (lv_at hl 1 rfl) ?_
  refine z_iconst hx hb dX12_fetch_6 ?_
  refine lv_aload_n hx hb dX12_fetch_7 rfl (lv_at hl 0 rfl) ?_
  refine w_geti hx hb hts (z_memU u12) hown hK.1 hS f12_32 (by decide) (zkd_of (rfl : zcd wR 0 = 50) rfl) (Or.inl (hts _ (z_mem k976))) dX12_fetch_8 ?_
  refine z_iconst hx hb dX12_fetch_11 ?_
  refine z_isub hx hb dX12_fetch_12 ?_
  refine w_callz (va_runS (As := [.int (iI a0), .int (iI 0), .int (iI ((M1 0 32) - 1))]) (rest := []) ⟨hx, hb, hml, hown, hts⟩ (cR_in l D dA b M1 a0 0 ((M1 0 32) - 1) _ h) (va_cwS 3 hts (z_gS k1083 k1084 k14 k1085) rfl rfl rfl dm_X12_in.2 ⟨Nat.le_of_ble_eq_true rfl, Nat.le_of_ble_eq_true rfl⟩) ⟨wPre_blind, w_pre hS hK⟩ rfl rfl hl.1 rfl (lv_room (Nat.le_of_ble_eq_true rfl)) dX12_fetch_13 ⟨Nat.le_refl _, Nat.le_refl _⟩) hS0 (fun z4 M3 H locs r5 h hS hS0 => ?_)
  obtain ⟨e6, h⟩ := h
  rw [e6] at hS
  refine w_if_ne (tgt := 21) hx hb (sI_01 r5) dX12_fetch_16 (by decide) (fun c7 => ?_) (fun c7 => ?_)
  · skip
    have h := h.1 c7
    refine lv_aload_n hx hb dX12_fetch_21 rfl (lv_at hl 0 rfl) ?_
    refine lv_aload_n hx hb dX12_fetch_22 rfl (lv_at hl 0 rfl) ?_
    refine w_getr (j2 := 19) hx hb hts (z_memU u12) hown hK.1 hS f12_29 (by decide) (zkd_of (rfl : zcd wR 0 = 50) rfl) (zrf_of (rfl : zcd wR 0 = 50) rfl) (Or.inl (hts _ (z_mem k973))) dX12_fetch_23 ?_
    refine lv_iload_n hx hb dX12_fetch_26 rfl (lv_at hl 1 rfl) ?_
    obtain ⟨o8, h⟩ := h
    refine w_iald (n := 16) (i := (sI a0)) hx hb hK.1 (t0 := 0) rfl hS (by decide) (zkd_of (rfl : zcd wR 19 = 69) rfl) (zln_of (rfl : zcd wR 19 = 69) rfl) rfl o8.1 o8.2 (by decide) dX12_fetch_27 ?_
    refine w_puti hx hb hts (z_memU u12) tyX12 tyX12_ok nmX12 hown hK.1 hS hS0 f12_3 (by decide) (zkd_of (rfl : zcd wR 0 = 50) rfl) (Or.inl (hts _ (z_mem k947))) rfl (z := (M1 19 (sI a0).toNat)) (by decide +kernel) dX12_fetch_28 (fun H locs hS hS0 => ?_)
    obtain ⟨M9, e10⟩ : ∃ M9 : zM, M9 = zup M1 0 3 (M1 19 (sI a0).toNat) := ⟨_, rfl⟩
    rw [← e10] at hS
    have h := h M9 e10
    refine z_iconst hx hb dX12_fetch_31 ?_
    refine lv_istore_n (lv' := [(2, .int (iI 0)), (0, .ref (b + 0)), (1, .int (iI a0))]) hx hb dX12_fetch_32 rfl hl (by decide) rfl (fun ls hl => ?_)
    obtain ⟨I13, ⟨n14, h15⟩, h16⟩ := h
    have L17 : ∀ (n18 : Nat) (x11 : Int) (M12 : zM) (H : Heap) (locs : List Loc) (ls : Array Slot), I13 n18 x11 M12 → zR D dA vwCl wR nR b M12 H → va_S (zA nR b) s.heap H locs → lv_has ls 3 [(0, .ref (b + 0)), (1, .int (iI a0)), (2, .int (iI x11))] → W p l e (headSpec (.code yX12_fetch cX12_fetch 3 (some .int) :: zt) (z_rm 1)).room s m args below meth c H locs 0 0 (MQ below (va_Qi (wQi Q) (zB D dA vwCl wR nR b) (zA nR b)) args s 0 0 (zA nR b)) (F0 m 33 ls []) := by
      intro n18
      induction n18 using Nat.strongRecOn with
      | ind n18 i19 =>
        intro x11 M12 H locs ls h hS hS0 hl
        have h := h16 n18 x11 M12 h
        refine lv_iload_n hx hb dX12_fetch_33 rfl (lv_at hl 2 rfl) ?_
        refine lv_aload_n hx hb dX12_fetch_34 rfl (lv_at hl 0 rfl) ?_
        refine w_geti hx hb hts (z_memU u12) hown hK.1 hS f12_3 (by decide) (zkd_of (rfl : zcd wR 0 = 50) rfl) (Or.inl (hts _ (z_mem k947))) dX12_fetch_35 ?_
        refine w_icmp_ge (tgt := 64) hx hb rfl rfl dX12_fetch_38 (by decide) (fun c20 => ?_) (fun c20 => ?_)
        · skip
          have h := h.1 c20
          refine lv_aload_n hx hb dX12_fetch_64 rfl (lv_at hl 0 rfl) ?_
          refine w_geti hx hb hts (z_memU u12) hown hK.1 hS f12_3 (by decide) (zkd_of (rfl : zcd wR 0 = 50) rfl) (Or.inl (hts _ (z_mem k947))) dX12_fetch_65 ?_
          exact w_iret hx hb hr hlocks hS hS0 rfl h dX12_fetch_68
        · skip
          have h := h.2 c20
          refine lv_aload_n hx hb dX12_fetch_41 rfl (lv_at hl 0 rfl) ?_
          refine w_getr (j2 := 2) hx hb hts (z_memU u12) hown hK.1 hS f12_2 (by decide) (zkd_of (rfl : zcd wR 0 = 50) rfl) (zrf_of (rfl : zcd wR 0 = 50) rfl) (Or.inl (hts _ (z_mem k946))) dX12_fetch_42 ?_
          refine lv_iload_n hx hb dX12_fetch_45 rfl (lv_at hl 2 rfl) ?_
          refine lv_aload_n hx hb dX12_fetch_46 rfl (lv_at hl 0 rfl) ?_
          refine w_getr (j2 := 18) hx hb hts (z_memU u12) hown hK.1 hS f12_28 (by decide) (zkd_of (rfl : zcd wR 0 = 50) rfl) (zrf_of (rfl : zcd wR 0 = 50) rfl) (Or.inl (hts _ (z_mem k972))) dX12_fetch_47 ?_
          refine z_bipush hx hb (by decide) dX12_fetch_50 ?_
          refine lv_iload_n hx hb dX12_fetch_52 rfl (lv_at hl 1 rfl) ?_
          refine z_imul hx hb dX12_fetch_53 ?_
          refine lv_iload_n hx hb dX12_fetch_54 rfl (lv_at hl 2 rfl) ?_
          refine z_iadd hx hb dX12_fetch_55 ?_
          obtain ⟨o21, h⟩ := h
          refine w_iald (n := 384) (i := (sI ((24 * a0) + x11))) hx hb hK.1 (t0 := 0) rfl hS (by decide) (zkd_of (rfl : zcd wR 18 = 68) rfl) (zln_of (rfl : zcd wR 18 = 68) rfl) rfl o21.1 o21.2 (by decide) dX12_fetch_56 ?_
          obtain ⟨o22, h⟩ := h
          refine w_iast (z := (M12 18 (sI ((24 * a0) + x11)).toNat)) (n := 24) (i := (sI x11)) hx hb hK.1 (t0 := 0) rfl hS hS0 (by decide) (zkd_of (rfl : zcd wR 2 = 52) rfl) (zln_of (rfl : zcd wR 2 = 52) rfl) rfl o22.1 o22.2 (by decide) dX12_fetch_57 (fun H locs hS hS0 => ?_)
          obtain ⟨M23, e24⟩ : ∃ M23 : zM, M23 = zup M12 2 (sI x11).toNat (M12 18 (sI ((24 * a0) + x11)).toNat) := ⟨_, rfl⟩
          rw [← e24] at hS
          have h := h M23 e24
          refine z_iinc (lv' := [(2, .int (iI (x11 + 1))), (0, .ref (b + 0)), (1, .int (iI a0))]) hx hb dX12_fetch_58 hl (k := 2) rfl (by decide) rfl (fun ls hl => ?_)
          refine lv_goto (tgt := 33) hx hb dX12_fetch_61 (by decide) ?_
          obtain ⟨n25, h26, h⟩ := h
          exact i19 n25 h26 (x11 + 1) M23 _ _ _ h hS hS0 (lv_sub hl [1, 2, 0] rfl)
    exact L17 n14 0 M9 _ _ _ h15 hS hS0 (lv_sub hl [1, 2, 0] rfl)
  · skip
    have h := h.2 c7
    refine z_iconst hx hb dX12_fetch_19 ?_
    exact w_iret hx hb hr hlocks hS hS0 (sI_of (by decide)) h dX12_fetch_20

set_option maxRecDepth 100000 in
def wR_editsBy (a0 : Int) (a1 : Int) (a2 : Int) (M : zM) (Q : Int → zM → Prop) : Prop := ((0 ≤ (sI a0) ∧ (sI a0) < 16) ∧ ((0 ≤ (sI a1) ∧ (sI a1) < 16) ∧ wL1 (fun K23 x3 M4 => ((sI (M 19 (sI a0).toNat)) < (sI x3) → ((0 ≤ (sI ((25 * (M 19 (sI a0).toNat)) + (M 19 (sI a1).toNat))) ∧ (sI ((25 * (M 19 (sI a0).toNat)) + (M 19 (sI a1).toNat))) < 625) ∧ Q (sI (M4 33 (sI ((25 * (M 19 (sI a0).toNat)) + (M 19 (sI a1).toNat))).toNat)) M4)) ∧ ((sI x3) ≤ (sI (M 19 (sI a0).toNat)) → wL1 (fun K33 x14 M15 => ((sI (M 19 (sI a1).toNat)) < (sI x14) → K23 (x3 + 1) M15) ∧ ((sI x14) ≤ (sI (M 19 (sI a1).toNat)) → pJ0 (fun J50 => ((sI x3) = 0 → J50) ∧ ((sI x3) ≠ 0 → ((sI x14) ≠ 0 → ((0 ≤ (sI (((24 * a0) + x3) - 1)) ∧ (sI (((24 * a0) + x3) - 1)) < 384) ∧ (((sI (M 19 (sI a1).toNat)) ≠ 0) ∧ ((0 ≤ (sI ((24 * a1) + ((sI ((x14 - 1) + a2)).tmod (sI (M 19 (sI a1).toNat))))) ∧ (sI ((24 * a1) + ((sI ((x14 - 1) + a2)).tmod (sI (M 19 (sI a1).toNat))))) < 384) ∧ pJ1 (fun J112 => ((sI (M15 18 (sI (((24 * a0) + x3) - 1)).toNat)) ≠ (sI (M15 18 (sI ((24 * a1) + ((sI ((x14 - 1) + a2)).tmod (sI (M 19 (sI a1).toNat))))).toNat)) → J112 0) ∧ ((sI (M15 18 (sI (((24 * a0) + x3) - 1)).toNat)) = (sI (M15 18 (sI ((24 * a1) + ((sI ((x14 - 1) + a2)).tmod (sI (M 19 (sI a1).toNat))))).toNat)) → J112 1)) (fun (x66 : Int) => ((0 ≤ (sI (((25 * (x3 - 1)) + x14) - 1)) ∧ (sI (((25 * (x3 - 1)) + x14) - 1)) < 625) ∧ pJ1 (fun J141 => ((sI x66) = 0 → J141 1) ∧ ((sI x66) ≠ 0 → J141 0)) (fun (x71 : Int) => (∀ t74 : Int, t74 = ((M15 33 (sI (((25 * (x3 - 1)) + x14) - 1)).toNat) + x71) → ((0 ≤ (sI ((25 * (x3 - 1)) + x14)) ∧ (sI ((25 * (x3 - 1)) + x14)) < 625) ∧ (∀ t77 : Int, t77 = (min (sI t74) (sI (1 + (M15 33 (sI ((25 * (x3 - 1)) + x14)).toNat)))) → ((0 ≤ (sI (((25 * x3) + x14) - 1)) ∧ (sI (((25 * x3) + x14) - 1)) < 625) ∧ ((0 ≤ (sI ((25 * x3) + x14)) ∧ (sI ((25 * x3) + x14)) < 625) ∧ (∀ M81 : zM, M81 = zup M15 33 (sI ((25 * x3) + x14)).toNat (min t77 (sI (1 + (M15 33 (sI (((25 * x3) + x14) - 1)).toNat)))) → K33 (x14 + 1) M81))))))))))))) ∧ ((sI x14) = 0 → J50))) (((0 ≤ (sI ((25 * x3) + x14)) ∧ (sI ((25 * x3) + x14)) < 625) ∧ (∀ M56 : zM, M56 = zup M15 33 (sI ((25 * x3) + x14)).toNat (x3 + x14) → K33 (x14 + 1) M56))))) 0 M4)) 0 M))
set_option maxHeartbeats 4000000 in
set_option maxRecDepth 100000 in
theorem cR_editsBy (l : Launch) (D : va_G) (dA : Nat → ClassId) (b : Nat) (M : zM) (a0 : Int) (a1 : Int) (a2 : Int)  (Q : Int → zM → Prop) (h : wR_editsBy a0 a1 a2 M Q) : Met l yX12_editsBy (.code yX12_editsBy cX12_editsBy 11 (some .int) :: zt) (z_rm 1) (va_Pc [.ref (b + 0), .int (iI a0), .int (iI a1), .int (iI a2)] (wPre D dA vwCl (z_tys dA) wR nR b M)) (va_Qi (wQi Q) (zB D dA vwCl wR nR b) (zA nR b)) 0 0 (zA nR b) := by
  unfold wR_editsBy at h
  refine Met.ofW (cc := cX12_editsBy) (maxL := 11) (ret := (some .int)) (by decide) rfl ?_
  intro p e s m args below meth c s₁ B hml hv
  obtain ⟨hargs, hS, hK⟩ := hv
  have hx := B.exec
  have hb := B.bytes
  have hr := B.returns
  have hts := atoms_spec (ws := .code yX12_editsBy cX12_editsBy 11 (some .int) :: zt) B.pre
  have hown : s.vm.findClass RX12 = some m.cls := findClass_of_methodNamed B.named
  have hlocks := B.notSynchronized
  have hS0 : va_S (zA nR b) s.heap s.heap [] := va_S.rf
  have hl := lv_entry ([.ref (b + 0), .int (iI a0), .int (iI a1), .int (iI a2)]) (n := 11) (Nat.le_of_ble_eq_true rfl)
  have hent : entryFrame m args 11 = F0 m 0 ((lg_sl ([.ref (b + 0), .int (iI a0), .int (iI a1), .int (iI a2)]) ++ List.replicate (11 - (lg_sl ([.ref (b + 0), .int (iI a0), .int (iI a1), .int (iI a2)])).length) Slot.unset).toArray) [] := by rw [hargs]; exact lg_entry_eq m ([.ref (b + 0), .int (iI a0), .int (iI a1), .int (iI a2)]) 11
  rw [hent]
  generalize (lg_sl ([.ref (b + 0), .int (iI a0), .int (iI a1), .int (iI a2)]) ++ List.replicate (11 - (lg_sl ([.ref (b + 0), .int (iI a0), .int (iI a1), .int (iI a2)])).length) Slot.unset).toArray = ls at hl ⊢
  have hl : lv_has ls 11 [(0, .ref (b + 0)), (1, .int (iI a0)), (2, .int (iI a1)), (3, .int (iI a2))] := hl
  refine lv_aload_n hx hb dX12_editsBy_0 rfl (lv_at hl 0 rfl) ?_
  refine w_getr (j2 := 19) hx hb hts (z_memU u12) hown hK.1 hS f12_29 (by decide) (zkd_of (rfl : zcd wR 0 = 50) rfl) (zrf_of (rfl : zcd wR 0 = 50) rfl) (Or.inl (hts _ (z_mem k973))) dX12_editsBy_1 ?_
  refine lv_iload_n hx hb dX12_editsBy_4 rfl (lv_at hl 1 rfl) ?_
  obtain ⟨o1, h⟩ := h
  refine w_iald (n := 16) (i := (sI a0)) hx hb hK.1 (t0 := 0) rfl hS (by decide) (zkd_of (rfl : zcd wR 19 = 69) rfl) (zln_of (rfl : zcd wR 19 = 69) rfl) rfl o1.1 o1.2 (by decide) dX12_editsBy_5 ?_
  refine lv_istore (lv' := [(4, .int (iI (M 19 (sI a0).toNat))), (0, .ref (b + 0)), (1, .int (iI a0)), (2, .int (iI a1)), (3, .int (iI a2))]) hx hb dX12_editsBy_6 hl (by decide) rfl (fun ls hl => ?_)
  refine lv_aload_n hx hb dX12_editsBy_8 rfl (lv_at hl 1 rfl) ?_
  refine w_getr (j2 := 19) hx hb hts (z_memU u12) hown hK.1 hS f12_29 (by decide) (zkd_of (rfl : zcd wR 0 = 50) rfl) (zrf_of (rfl : zcd wR 0 = 50) rfl) (Or.inl (hts _ (z_mem k973))) dX12_editsBy_9 ?_
  refine lv_iload_n hx hb dX12_editsBy_12 rfl (lv_at hl 3 rfl) ?_
  obtain ⟨o2, h⟩ := h
  refine w_iald (n := 16) (i := (sI a1)) hx hb hK.1 (t0 := 0) rfl hS (by decide) (zkd_of (rfl : zcd wR 19 = 69) rfl) (zln_of (rfl : zcd wR 19 = 69) rfl) rfl o2.1 o2.2 (by decide) dX12_editsBy_13 ?_
  refine lv_istore (lv' := [(5, .int (iI (M 19 (sI a1).toNat))), (4, .int (iI (M 19 (sI a0).toNat))), (0, .ref (b + 0)), (1, .int (iI a0)), (2, .int (iI a1)), (3, .int (iI a2))]) hx hb dX12_editsBy_14 hl (by decide) rfl (fun ls hl => ?_)
  refine z_bipush hx hb (by decide) dX12_editsBy_16 ?_
  refine lv_istore (lv' := [(6, .int (iI 25)), (5, .int (iI (M 19 (sI a1).toNat))), (4, .int (iI (M 19 (sI a0).toNat))), (0, .ref (b + 0)), (1, .int (iI a0)), (2, .int (iI a1)), (3, .int (iI a2))]) hx hb dX12_editsBy_18 hl (by decide) rfl (fun ls hl => ?_)
  refine z_iconst hx hb dX12_editsBy_20 ?_
  refine lv_istore (lv' := [(7, .int (iI 0)), (6, .int (iI 25)), (5, .int (iI (M 19 (sI a1).toNat))), (4, .int (iI (M 19 (sI a0).toNat))), (0, .ref (b + 0)), (1, .int (iI a0)), (2, .int (iI a1)), (3, .int (iI a2))]) hx hb dX12_editsBy_21 hl (by decide) rfl (fun ls hl => ?_)
  obtain ⟨I5, ⟨n6, h7⟩, h8⟩ := h
  have L9 : ∀ (n10 : Nat) (x3 : Int) (M4 : zM) (H : Heap) (locs : List Loc) (ls : Array Slot), I5 n10 x3 M4 → zR D dA vwCl wR nR b M4 H → va_S (zA nR b) s.heap H locs → lv_has ls 11 [(0, .ref (b + 0)), (1, .int (iI a0)), (2, .int (iI a1)), (3, .int (iI a2)), (4, .int (iI (M 19 (sI a0).toNat))), (5, .int (iI (M 19 (sI a1).toNat))), (6, .int (iI 25)), (7, .int (iI x3))] → W p l e (headSpec (.code yX12_editsBy cX12_editsBy 11 (some .int) :: zt) (z_rm 1)).room s m args below meth c H locs 0 0 (MQ below (va_Qi (wQi Q) (zB D dA vwCl wR nR b) (zA nR b)) args s 0 0 (zA nR b)) (F0 m 23 ls []) := by
    intro n10
    induction n10 using Nat.strongRecOn with
    | ind n10 i11 =>
      intro x3 M4 H locs ls h hS hS0 hl
      have h := h8 n10 x3 M4 h
      refine lv_iload hx hb dX12_editsBy_23 (lv_at hl 7 rfl) ?_
      refine lv_iload hx hb dX12_editsBy_25 (lv_at hl 4 rfl) ?_
      refine w_icmp_gt (tgt := 215) hx hb rfl rfl dX12_editsBy_27 (by decide) (fun c12 => ?_) (fun c12 => ?_)
      · skip
        have h := h.1 c12
        refine lv_aload_n hx hb dX12_editsBy_215 rfl (lv_at hl 0 rfl) ?_
        refine w_getr (j2 := 33) hx hb hts (z_memU u12) hown hK.1 hS f12_49 (by decide) (zkd_of (rfl : zcd wR 0 = 50) rfl) (zrf_of (rfl : zcd wR 0 = 50) rfl) (Or.inl (hts _ (z_mem k993))) dX12_editsBy_216 ?_
        refine lv_iload hx hb dX12_editsBy_219 (lv_at hl 6 rfl) ?_
        refine lv_iload hx hb dX12_editsBy_221 (lv_at hl 4 rfl) ?_
        refine z_imul hx hb dX12_editsBy_223 ?_
        refine lv_iload hx hb dX12_editsBy_224 (lv_at hl 5 rfl) ?_
        refine z_iadd hx hb dX12_editsBy_226 ?_
        obtain ⟨o13, h⟩ := h
        refine w_iald (n := 625) (i := (sI ((25 * (M 19 (sI a0).toNat)) + (M 19 (sI a1).toNat)))) hx hb hK.1 (t0 := 0) rfl hS (by decide) (zkd_of (rfl : zcd wR 33 = 83) rfl) (zln_of (rfl : zcd wR 33 = 83) rfl) rfl o13.1 o13.2 (by decide) dX12_editsBy_227 ?_
        exact w_iret hx hb hr hlocks hS hS0 rfl h dX12_editsBy_228
      · skip
        have h := h.2 c12
        refine z_iconst hx hb dX12_editsBy_30 ?_
        refine lv_istore (lv' := [(8, .int (iI 0)), (0, .ref (b + 0)), (1, .int (iI a0)), (2, .int (iI a1)), (3, .int (iI a2)), (4, .int (iI (M 19 (sI a0).toNat))), (5, .int (iI (M 19 (sI a1).toNat))), (6, .int (iI 25)), (7, .int (iI x3))]) hx hb dX12_editsBy_31 hl (by decide) rfl (fun ls hl => ?_)
        obtain ⟨I16, ⟨n17, h18⟩, h19⟩ := h
        have L20 : ∀ (n21 : Nat) (x14 : Int) (M15 : zM) (H : Heap) (locs : List Loc) (ls : Array Slot), I16 n21 x14 M15 → zR D dA vwCl wR nR b M15 H → va_S (zA nR b) s.heap H locs → lv_has ls 11 [(0, .ref (b + 0)), (1, .int (iI a0)), (2, .int (iI a1)), (3, .int (iI a2)), (4, .int (iI (M 19 (sI a0).toNat))), (5, .int (iI (M 19 (sI a1).toNat))), (6, .int (iI 25)), (7, .int (iI x3)), (8, .int (iI x14))] → W p l e (headSpec (.code yX12_editsBy cX12_editsBy 11 (some .int) :: zt) (z_rm 1)).room s m args below meth c H locs 0 0 (MQ below (va_Qi (wQi Q) (zB D dA vwCl wR nR b) (zA nR b)) args s 0 0 (zA nR b)) (F0 m 33 ls []) := by
          intro n21
          induction n21 using Nat.strongRecOn with
          | ind n21 i22 =>
            intro x14 M15 H locs ls h hS hS0 hl
            have h := h19 n21 x14 M15 h
            refine lv_iload hx hb dX12_editsBy_33 (lv_at hl 8 rfl) ?_
            refine lv_iload hx hb dX12_editsBy_35 (lv_at hl 5 rfl) ?_
            refine w_icmp_gt (tgt := 209) hx hb rfl rfl dX12_editsBy_37 (by decide) (fun c23 => ?_) (fun c23 => ?_)
            · skip
              have h := h.1 c23
              refine z_iinc (lv' := [(7, .int (iI (x3 + 1))), (0, .ref (b + 0)), (1, .int (iI a0)), (2, .int (iI a1)), (3, .int (iI a2)), (4, .int (iI (M 19 (sI a0).toNat))), (5, .int (iI (M 19 (sI a1).toNat))), (6, .int (iI 25)), (8, .int (iI x14))]) hx hb dX12_editsBy_209 hl (k := 7) rfl (by decide) rfl (fun ls hl => ?_)
              refine lv_goto (tgt := 23) hx hb dX12_editsBy_212 (by decide) ?_
              obtain ⟨n24, h25, h⟩ := h
              exact i11 n24 h25 (x3 + 1) M15 _ _ _ h hS hS0 (lv_sub hl [1, 2, 3, 4, 5, 6, 7, 0] rfl)
            · skip
              have h := h.2 c23
              refine lv_iload hx hb dX12_editsBy_40 (lv_at hl 7 rfl) ?_
              obtain ⟨J50, B54, h⟩ := h
              have L53 : ∀ (H : Heap) (locs : List Loc) (ls : Array Slot), J50 → zR D dA vwCl wR nR b M15 H → va_S (zA nR b) s.heap H locs → lv_has ls 11 [(0, .ref (b + 0)), (1, .int (iI a0)), (2, .int (iI a1)), (3, .int (iI a2)), (4, .int (iI (M 19 (sI a0).toNat))), (5, .int (iI (M 19 (sI a1).toNat))), (6, .int (iI 25)), (7, .int (iI x3)), (8, .int (iI x14))] → W p l e (headSpec (.code yX12_editsBy cX12_editsBy 11 (some .int) :: zt) (z_rm 1)).room s m args below meth c H locs 0 0 (MQ below (va_Qi (wQi Q) (zB D dA vwCl wR nR b) (zA nR b)) args s 0 0 (zA nR b)) (F0 m 50 ls []) := by
                intro  H locs ls h hS hS0 hl
                have h := B54 h
                refine lv_aload_n hx hb dX12_editsBy_50 rfl (lv_at hl 0 rfl) ?_
                refine w_getr (j2 := 33) hx hb hts (z_memU u12) hown hK.1 hS f12_49 (by decide) (zkd_of (rfl : zcd wR 0 = 50) rfl) (zrf_of (rfl : zcd wR 0 = 50) rfl) (Or.inl (hts _ (z_mem k993))) dX12_editsBy_51 ?_
                refine lv_iload hx hb dX12_editsBy_54 (lv_at hl 6 rfl) ?_
                refine lv_iload hx hb dX12_editsBy_56 (lv_at hl 7 rfl) ?_
                refine z_imul hx hb dX12_editsBy_58 ?_
                refine lv_iload hx hb dX12_editsBy_59 (lv_at hl 8 rfl) ?_
                refine z_iadd hx hb dX12_editsBy_61 ?_
                refine lv_iload hx hb dX12_editsBy_62 (lv_at hl 7 rfl) ?_
                refine lv_iload hx hb dX12_editsBy_64 (lv_at hl 8 rfl) ?_
                refine z_iadd hx hb dX12_editsBy_66 ?_
                obtain ⟨o55, h⟩ := h
                refine w_iast (z := (x3 + x14)) (n := 625) (i := (sI ((25 * x3) + x14))) hx hb hK.1 (t0 := 0) rfl hS hS0 (by decide) (zkd_of (rfl : zcd wR 33 = 83) rfl) (zln_of (rfl : zcd wR 33 = 83) rfl) rfl o55.1 o55.2 (by decide) dX12_editsBy_67 (fun H locs hS hS0 => ?_)
                obtain ⟨M56, e57⟩ : ∃ M56 : zM, M56 = zup M15 33 (sI ((25 * x3) + x14)).toNat (x3 + x14) := ⟨_, rfl⟩
                rw [← e57] at hS
                have h := h M56 e57
                refine lv_goto (tgt := 203) hx hb dX12_editsBy_68 (by decide) ?_
                refine z_iinc (lv' := [(8, .int (iI (x14 + 1))), (0, .ref (b + 0)), (1, .int (iI a0)), (2, .int (iI a1)), (3, .int (iI a2)), (4, .int (iI (M 19 (sI a0).toNat))), (5, .int (iI (M 19 (sI a1).toNat))), (6, .int (iI 25)), (7, .int (iI x3))]) hx hb dX12_editsBy_203 hl (k := 8) rfl (by decide) rfl (fun ls hl => ?_)
                refine lv_goto (tgt := 33) hx hb dX12_editsBy_206 (by decide) ?_
                obtain ⟨n58, h59, h⟩ := h
                exact i22 n58 h59 (x14 + 1) M56 _ _ _ h hS hS0 (lv_sub hl [1, 2, 3, 4, 5, 6, 7, 8, 0] rfl)
              refine w_if_eq (tgt := 50) hx hb rfl dX12_editsBy_42 (by decide) (fun c60 => ?_) (fun c60 => ?_)
              · skip
                have h := h.1 c60
                exact L53 _ _ _ h hS hS0 (lv_sub hl [0, 1, 2, 3, 4, 5, 6, 7, 8] rfl)
              · skip
                have h := h.2 c60
                refine lv_iload hx hb dX12_editsBy_45 (lv_at hl 8 rfl) ?_
                refine w_if_ne (tgt := 71) hx hb rfl dX12_editsBy_47 (by decide) (fun c61 => ?_) (fun c61 => ?_)
                · skip
                  have h := h.1 c61
                  refine lv_aload_n hx hb dX12_editsBy_71 rfl (lv_at hl 0 rfl) ?_
                  refine w_getr (j2 := 18) hx hb hts (z_memU u12) hown hK.1 hS f12_28 (by decide) (zkd_of (rfl : zcd wR 0 = 50) rfl) (zrf_of (rfl : zcd wR 0 = 50) rfl) (Or.inl (hts _ (z_mem k972))) dX12_editsBy_72 ?_
                  refine z_bipush hx hb (by decide) dX12_editsBy_75 ?_
                  refine lv_iload_n hx hb dX12_editsBy_77 rfl (lv_at hl 1 rfl) ?_
                  refine z_imul hx hb dX12_editsBy_78 ?_
                  refine lv_iload hx hb dX12_editsBy_79 (lv_at hl 7 rfl) ?_
                  refine z_iadd hx hb dX12_editsBy_81 ?_
                  refine z_iconst hx hb dX12_editsBy_82 ?_
                  refine z_isub hx hb dX12_editsBy_83 ?_
                  obtain ⟨o62, h⟩ := h
                  refine w_iald (n := 384) (i := (sI (((24 * a0) + x3) - 1))) hx hb hK.1 (t0 := 0) rfl hS (by decide) (zkd_of (rfl : zcd wR 18 = 68) rfl) (zln_of (rfl : zcd wR 18 = 68) rfl) rfl o62.1 o62.2 (by decide) dX12_editsBy_84 ?_
                  refine lv_aload_n hx hb dX12_editsBy_85 rfl (lv_at hl 0 rfl) ?_
                  refine w_getr (j2 := 18) hx hb hts (z_memU u12) hown hK.1 hS f12_28 (by decide) (zkd_of (rfl : zcd wR 0 = 50) rfl) (zrf_of (rfl : zcd wR 0 = 50) rfl) (Or.inl (hts _ (z_mem k972))) dX12_editsBy_86 ?_
                  refine z_bipush hx hb (by decide) dX12_editsBy_89 ?_
                  refine lv_iload_n hx hb dX12_editsBy_91 rfl (lv_at hl 2 rfl) ?_
                  refine z_imul hx hb dX12_editsBy_92 ?_
                  refine lv_iload hx hb dX12_editsBy_93 (lv_at hl 8 rfl) ?_
                  refine z_iconst hx hb dX12_editsBy_95 ?_
                  refine z_isub hx hb dX12_editsBy_96 ?_
                  refine lv_iload_n hx hb dX12_editsBy_97 rfl (lv_at hl 3 rfl) ?_
                  refine z_iadd hx hb dX12_editsBy_98 ?_
                  refine lv_iload hx hb dX12_editsBy_99 (lv_at hl 5 rfl) ?_
                  obtain ⟨o63, h⟩ := h
                  refine w_irem hx hb rfl rfl o63 dX12_editsBy_101 ?_
                  refine z_iadd hx hb dX12_editsBy_102 ?_
                  obtain ⟨o64, h⟩ := h
                  refine w_iald (n := 384) (i := (sI ((24 * a1) + ((sI ((x14 - 1) + a2)).tmod (sI (M 19 (sI a1).toNat)))))) hx hb hK.1 (t0 := 0) rfl hS (by decide) (zkd_of (rfl : zcd wR 18 = 68) rfl) (zln_of (rfl : zcd wR 18 = 68) rfl) rfl o64.1 o64.2 (by decide) dX12_editsBy_103 ?_
                  obtain ⟨J112, B68, h⟩ := h
                  have L67 : ∀ (x66 : Int) (H : Heap) (locs : List Loc) (ls : Array Slot), J112 x66 → zR D dA vwCl wR nR b M15 H → va_S (zA nR b) s.heap H locs → lv_has ls 11 [(0, .ref (b + 0)), (1, .int (iI a0)), (2, .int (iI a1)), (3, .int (iI a2)), (4, .int (iI (M 19 (sI a0).toNat))), (5, .int (iI (M 19 (sI a1).toNat))), (6, .int (iI 25)), (7, .int (iI x3)), (8, .int (iI x14))] → W p l e (headSpec (.code yX12_editsBy cX12_editsBy 11 (some .int) :: zt) (z_rm 1)).room s m args below meth c H locs 0 0 (MQ below (va_Qi (wQi Q) (zB D dA vwCl wR nR b) (zA nR b)) args s 0 0 (zA nR b)) (F0 m 112 ls [.int (iI x66)]) := by
                    intro x66 H locs ls h hS hS0 hl
                    have h := B68 x66 h
                    refine lv_istore (lv' := [(9, .int (iI x66)), (0, .ref (b + 0)), (1, .int (iI a0)), (2, .int (iI a1)), (3, .int (iI a2)), (4, .int (iI (M 19 (sI a0).toNat))), (5, .int (iI (M 19 (sI a1).toNat))), (6, .int (iI 25)), (7, .int (iI x3)), (8, .int (iI x14))]) hx hb dX12_editsBy_112 hl (by decide) rfl (fun ls hl => ?_)
                    refine lv_aload_n hx hb dX12_editsBy_114 rfl (lv_at hl 1 rfl) ?_
                    refine w_getr (j2 := 33) hx hb hts (z_memU u12) hown hK.1 hS f12_49 (by decide) (zkd_of (rfl : zcd wR 0 = 50) rfl) (zrf_of (rfl : zcd wR 0 = 50) rfl) (Or.inl (hts _ (z_mem k993))) dX12_editsBy_115 ?_
                    refine lv_iload hx hb dX12_editsBy_118 (lv_at hl 7 rfl) ?_
                    refine lv_iload hx hb dX12_editsBy_120 (lv_at hl 8 rfl) ?_
                    refine z_iconst hx hb dX12_editsBy_122 ?_
                    refine z_isub hx hb dX12_editsBy_123 ?_
                    refine z_imul hx hb dX12_editsBy_124 ?_
                    refine lv_iload hx hb dX12_editsBy_125 (lv_at hl 9 rfl) ?_
                    refine z_iadd hx hb dX12_editsBy_127 ?_
                    refine z_iconst hx hb dX12_editsBy_128 ?_
                    refine z_isub hx hb dX12_editsBy_129 ?_
                    obtain ⟨o69, h⟩ := h
                    refine w_iald (n := 625) (i := (sI (((25 * (x3 - 1)) + x14) - 1))) hx hb hK.1 (t0 := 0) rfl hS (by decide) (zkd_of (rfl : zcd wR 33 = 83) rfl) (zln_of (rfl : zcd wR 33 = 83) rfl) rfl o69.1 o69.2 (by decide) dX12_editsBy_130 ?_
                    refine lv_iload hx hb dX12_editsBy_131 (lv_at hl 0 rfl) ?_
                    obtain ⟨J141, B73, h⟩ := h
                    have L72 : ∀ (x71 : Int) (H : Heap) (locs : List Loc) (ls : Array Slot), J141 x71 → zR D dA vwCl wR nR b M15 H → va_S (zA nR b) s.heap H locs → lv_has ls 11 [(0, .ref (b + 0)), (1, .int (iI a0)), (2, .int (iI a1)), (3, .int (iI a2)), (4, .int (iI (M 19 (sI a0).toNat))), (5, .int (iI (M 19 (sI a1).toNat))), (6, .int (iI 25)), (7, .int (iI x3)), (8, .int (iI x14))] → W p l e (headSpec (.code yX12_editsBy cX12_editsBy 11 (some .int) :: zt) (z_rm 1)).room s m args below meth c H locs 0 0 (MQ below (va_Qi (wQi Q) (zB D dA vwCl wR nR b) (zA nR b)) args s 0 0 (zA nR b)) (F0 m 141 ls [.int (iI x71), .int (iI (M15 33 (sI (((25 * (x3 - 1)) + x14) - 1)).toNat))]) := by
                      intro x71 H locs ls h hS hS0 hl
                      have h := B73 x71 h
                      refine z_iadd hx hb dX12_editsBy_141 ?_
                      obtain ⟨t74, e75⟩ : ∃ t74 : Int, t74 = ((M15 33 (sI (((25 * (x3 - 1)) + x14) - 1)).toNat) + x71) := ⟨_, rfl⟩
                      refine z_top (y := t74) e75.symm ?_
                      have h := h t74 e75
                      refine lv_istore (lv' := [(10, .int (iI t74)), (0, .ref (b + 0)), (1, .int (iI a0)), (2, .int (iI a1)), (3, .int (iI a2)), (4, .int (iI (M 19 (sI a0).toNat))), (5, .int (iI (M 19 (sI a1).toNat))), (6, .int (iI 25)), (7, .int (iI x3)), (8, .int (iI x14))]) hx hb dX12_editsBy_142 hl (by decide) rfl (fun ls hl => ?_)
                      refine lv_iload hx hb dX12_editsBy_144 (lv_at hl 0 rfl) ?_
                      refine z_iconst hx hb dX12_editsBy_146 ?_
                      refine lv_aload_n hx hb dX12_editsBy_147 rfl (lv_at hl 1 rfl) ?_
                      refine w_getr (j2 := 33) hx hb hts (z_memU u12) hown hK.1 hS f12_49 (by decide) (zkd_of (rfl : zcd wR 0 = 50) rfl) (zrf_of (rfl : zcd wR 0 = 50) rfl) (Or.inl (hts _ (z_mem k993))) dX12_editsBy_148 ?_
                      refine lv_iload hx hb dX12_editsBy_151 (lv_at hl 7 rfl) ?_
                      refine lv_iload hx hb dX12_editsBy_153 (lv_at hl 8 rfl) ?_
                      refine z_iconst hx hb dX12_editsBy_155 ?_
                      refine z_isub hx hb dX12_editsBy_156 ?_
                      refine z_imul hx hb dX12_editsBy_157 ?_
                      refine lv_iload hx hb dX12_editsBy_158 (lv_at hl 9 rfl) ?_
                      refine z_iadd hx hb dX12_editsBy_160 ?_
                      obtain ⟨o76, h⟩ := h
                      refine w_iald (n := 625) (i := (sI ((25 * (x3 - 1)) + x14))) hx hb hK.1 (t0 := 0) rfl hS (by decide) (zkd_of (rfl : zcd wR 33 = 83) rfl) (zln_of (rfl : zcd wR 33 = 83) rfl) rfl o76.1 o76.2 (by decide) dX12_editsBy_161 ?_
                      refine z_iadd hx hb dX12_editsBy_162 ?_
                      refine w_mmin hx hb (hml.trans hl.1.symm) hown (hts _ (z_mem k1229)) (hts _ (z_mem k320)) (hts _ (z_mem k15)) (hts _ (z_mem k321)) (by exact Nat.le_of_ble_eq_true rfl) (by exact Nat.le_of_ble_eq_true rfl) (by exact Nat.le_refl _) (by exact Nat.le_refl _) rfl rfl dX12_editsBy_163 ?_
                      obtain ⟨t77, e78⟩ : ∃ t77 : Int, t77 = (min (sI t74) (sI (1 + (M15 33 (sI ((25 * (x3 - 1)) + x14)).toNat)))) := ⟨_, rfl⟩
                      refine z_top (y := t77) e78.symm ?_
                      have h := h t77 e78
                      refine lv_istore (lv' := [(10, .int (iI t77)), (0, .ref (b + 0)), (1, .int (iI a0)), (2, .int (iI a1)), (3, .int (iI a2)), (4, .int (iI (M 19 (sI a0).toNat))), (5, .int (iI (M 19 (sI a1).toNat))), (6, .int (iI 25)), (7, .int (iI x3)), (8, .int (iI x14))]) hx hb dX12_editsBy_166 hl (by decide) rfl (fun ls hl => ?_)
                      refine lv_aload_n hx hb dX12_editsBy_168 rfl (lv_at hl 1 rfl) ?_
                      refine w_getr (j2 := 33) hx hb hts (z_memU u12) hown hK.1 hS f12_49 (by decide) (zkd_of (rfl : zcd wR 0 = 50) rfl) (zrf_of (rfl : zcd wR 0 = 50) rfl) (Or.inl (hts _ (z_mem k993))) dX12_editsBy_169 ?_
                      refine lv_iload hx hb dX12_editsBy_172 (lv_at hl 7 rfl) ?_
                      refine lv_iload hx hb dX12_editsBy_174 (lv_at hl 8 rfl) ?_
                      refine z_imul hx hb dX12_editsBy_176 ?_
                      refine lv_iload hx hb dX12_editsBy_177 (lv_at hl 9 rfl) ?_
                      refine z_iadd hx hb dX12_editsBy_179 ?_
                      refine lv_iload hx hb dX12_editsBy_180 (lv_at hl 0 rfl) ?_
                      refine z_iconst hx hb dX12_editsBy_182 ?_
                      refine lv_aload_n hx hb dX12_editsBy_183 rfl (lv_at hl 1 rfl) ?_
                      refine w_getr (j2 := 33) hx hb hts (z_memU u12) hown hK.1 hS f12_49 (by decide) (zkd_of (rfl : zcd wR 0 = 50) rfl) (zrf_of (rfl : zcd wR 0 = 50) rfl) (Or.inl (hts _ (z_mem k993))) dX12_editsBy_184 ?_
                      refine lv_iload hx hb dX12_editsBy_187 (lv_at hl 7 rfl) ?_
                      refine lv_iload hx hb dX12_editsBy_189 (lv_at hl 8 rfl) ?_
                      refine z_imul hx hb dX12_editsBy_191 ?_
                      refine lv_iload hx hb dX12_editsBy_192 (lv_at hl 9 rfl) ?_
                      refine z_iadd hx hb dX12_editsBy_194 ?_
                      refine z_iconst hx hb dX12_editsBy_195 ?_
                      refine z_isub hx hb dX12_editsBy_196 ?_
                      obtain ⟨o79, h⟩ := h
                      refine w_iald (n := 625) (i := (sI (((25 * x3) + x14) - 1))) hx hb hK.1 (t0 := 0) rfl hS (by decide) (zkd_of (rfl : zcd wR 33 = 83) rfl) (zln_of (rfl : zcd wR 33 = 83) rfl) rfl o79.1 o79.2 (by decide) dX12_editsBy_197 ?_
                      refine z_iadd hx hb dX12_editsBy_198 ?_
                      refine w_mmin hx hb (hml.trans hl.1.symm) hown (hts _ (z_mem k1229)) (hts _ (z_mem k320)) (hts _ (z_mem k15)) (hts _ (z_mem k321)) (by exact Nat.le_of_ble_eq_true rfl) (by exact Nat.le_of_ble_eq_true rfl) (by exact Nat.le_refl _) (by exact Nat.le_refl _) (show sI t77 = t77 from by rw [e78]; exact (sI_of (R_min (sI_c (x := t74) rfl) (sI_c (x := (1 + (M15 33 (sI ((25 * (x3 - 1)) + x14)).toNat))) rfl)))) rfl dX12_editsBy_199 ?_
                      obtain ⟨o80, h⟩ := h
                      refine w_iast (z := (min t77 (sI (1 + (M15 33 (sI (((25 * x3) + x14) - 1)).toNat))))) (n := 625) (i := (sI ((25 * x3) + x14))) hx hb hK.1 (t0 := 0) rfl hS hS0 (by decide) (zkd_of (rfl : zcd wR 33 = 83) rfl) (zln_of (rfl : zcd wR 33 = 83) rfl) rfl o80.1 o80.2 (by decide) dX12_editsBy_202 (fun H locs hS hS0 => ?_)
                      obtain ⟨M81, e82⟩ : ∃ M81 : zM, M81 = zup M15 33 (sI ((25 * x3) + x14)).toNat (min t77 (sI (1 + (M15 33 (sI (((25 * x3) + x14) - 1)).toNat)))) := ⟨_, rfl⟩
                      rw [← e82] at hS
                      have h := h M81 e82
                      refine z_iinc (lv' := [(8, .int (iI (x14 + 1))), (10, .int (iI t77)), (0, .ref (b + 0)), (1, .int (iI a0)), (2, .int (iI a1)), (3, .int (iI a2)), (4, .int (iI (M 19 (sI a0).toNat))), (5, .int (iI (M 19 (sI a1).toNat))), (6, .int (iI 25)), (7, .int (iI x3))]) hx hb dX12_editsBy_203 hl (k := 9) rfl (by decide) rfl (fun ls hl => ?_)
                      refine lv_goto (tgt := 33) hx hb dX12_editsBy_206 (by decide) ?_
                      obtain ⟨n83, h84, h⟩ := h
                      exact i22 n83 h84 (x14 + 1) M81 _ _ _ h hS hS0 (lv_sub hl [2, 3, 4, 5, 6, 7, 8, 9, 0] rfl)
                    refine w_if_eq (tgt := 140) hx hb rfl dX12_editsBy_133 (by decide) (fun c85 => ?_) (fun c85 => ?_)
                    · skip
                      have h := h.1 c85
                      refine z_iconst hx hb dX12_editsBy_140 ?_
                      exact L72 1 _ _ _ h hS hS0 (lv_sub hl [1, 2, 3, 4, 5, 6, 7, 8, 9] rfl)
                    · skip
                      have h := h.2 c85
                      refine z_iconst hx hb dX12_editsBy_136 ?_
                      refine lv_goto (tgt := 141) hx hb dX12_editsBy_137 (by decide) ?_
                      exact L72 0 _ _ _ h hS hS0 (lv_sub hl [1, 2, 3, 4, 5, 6, 7, 8, 9] rfl)
                  refine w_icmp_ne (tgt := 111) hx hb rfl rfl dX12_editsBy_104 (by decide) (fun c86 => ?_) (fun c86 => ?_)
                  · skip
                    have h := h.1 c86
                    refine z_iconst hx hb dX12_editsBy_111 ?_
                    exact L67 0 _ _ _ h hS hS0 (lv_sub hl [0, 1, 2, 3, 4, 5, 6, 7, 8] rfl)
                  · skip
                    have h := h.2 c86
                    refine z_iconst hx hb dX12_editsBy_107 ?_
                    refine lv_goto (tgt := 112) hx hb dX12_editsBy_108 (by decide) ?_
                    exact L67 1 _ _ _ h hS hS0 (lv_sub hl [0, 1, 2, 3, 4, 5, 6, 7, 8] rfl)
                · skip
                  have h := h.2 c61
                  exact L53 _ _ _ h hS hS0 (lv_sub hl [0, 1, 2, 3, 4, 5, 6, 7, 8] rfl)
        exact L20 n17 0 M4 _ _ _ h18 hS hS0 (lv_sub hl [1, 2, 3, 4, 5, 6, 7, 8, 0] rfl)
  exact L9 n6 0 M _ _ _ h7 hS hS0 (lv_sub hl [4, 5, 6, 7, 3, 2, 1, 0] rfl)

set_option maxRecDepth 100000 in
def wR_edits (a0 : Int) (a1 : Int) (M : zM) (Q : Int → zM → Prop) : Prop := (∀ M1 : zM, M1 = zup M 0 35 0 → wR_in a0 0 ((M1 0 32) - 1) M1 (fun z4 => (z4 = 0 → Q (-1) M1) ∧ (z4 ≠ 0 → wR_in a1 0 ((M1 0 32) - 1) M1 (fun z9 => (z9 ≠ 0 → wL2 (fun K42 x13 x14 M15 => ((0 ≤ (sI a1) ∧ (sI a1) < 16) ∧ ((sI (M15 19 (sI a1).toNat)) ≤ (sI x14) → Q (sI x13) M15) ∧ ((sI x14) < (sI (M15 19 (sI a1).toNat)) → wR_editsBy a0 a1 x14 M15 (fun z26 M25 => K42 (min (sI x13) z26) (x14 + 1) M25)))) 268435456 0 M1) ∧ (z9 = 0 → Q (-1) M1)))))
set_option maxHeartbeats 4000000 in
set_option maxRecDepth 100000 in
theorem cR_edits (l : Launch) (D : va_G) (dA : Nat → ClassId) (b : Nat) (M : zM) (a0 : Int) (a1 : Int)  (Q : Int → zM → Prop) (h : wR_edits a0 a1 M Q) : Met l yX12_edits (.code yX12_edits cX12_edits 5 (some .int) :: zt) (z_rm 2) (va_Pc [.ref (b + 0), .int (iI a0), .int (iI a1)] (wPre D dA vwCl (z_tys dA) wR nR b M)) (va_Qi (wQi Q) (zB D dA vwCl wR nR b) (zA nR b)) 0 0 (zA nR b) := by
  unfold wR_edits at h
  refine Met.ofW (cc := cX12_edits) (maxL := 5) (ret := (some .int)) (by decide) rfl ?_
  intro p e s m args below meth c s₁ B hml hv
  obtain ⟨hargs, hS, hK⟩ := hv
  have hx := B.exec
  have hb := B.bytes
  have hr := B.returns
  have hts := atoms_spec (ws := .code yX12_edits cX12_edits 5 (some .int) :: zt) B.pre
  have hown : s.vm.findClass RX12 = some m.cls := findClass_of_methodNamed B.named
  have hlocks := B.notSynchronized
  have hS0 : va_S (zA nR b) s.heap s.heap [] := va_S.rf
  have hl := lv_entry ([.ref (b + 0), .int (iI a0), .int (iI a1)]) (n := 5) (Nat.le_of_ble_eq_true rfl)
  have hent : entryFrame m args 5 = F0 m 0 ((lg_sl ([.ref (b + 0), .int (iI a0), .int (iI a1)]) ++ List.replicate (5 - (lg_sl ([.ref (b + 0), .int (iI a0), .int (iI a1)])).length) Slot.unset).toArray) [] := by rw [hargs]; exact lg_entry_eq m ([.ref (b + 0), .int (iI a0), .int (iI a1)]) 5
  rw [hent]
  generalize (lg_sl ([.ref (b + 0), .int (iI a0), .int (iI a1)]) ++ List.replicate (5 - (lg_sl ([.ref (b + 0), .int (iI a0), .int (iI a1)])).length) Slot.unset).toArray = ls at hl ⊢
  have hl : lv_has ls 5 [(0, .ref (b + 0)), (1, .int (iI a0)), (2, .int (iI a1))] := hl
  refine lv_aload_n hx hb dX12_edits_0 rfl (lv_at hl 0 rfl) ?_
  refine z_iconst hx hb dX12_edits_1 ?_
  refine w_puti hx hb hts (z_memU u12) tyX12 tyX12_ok nmX12 hown hK.1 hS hS0 f12_35 (by decide) (zkd_of (rfl : zcd wR 0 = 50) rfl) (Or.inl (hts _ (z_mem k979))) rfl (z := 0) (by decide +kernel) dX12_edits_2 (fun H locs hS hS0 => ?_)
  obtain ⟨M1, e2⟩ : ∃ M1 : zM, M1 = zup M 0 35 0 := ⟨_, rfl⟩
  rw [← e2] at hS
  have h := h M1 e2
  refine lv_iload_n hx hb dX12_edits_5 rfl (lv_at hl 1 rfl) ?_
  refine z_iconst hx hb dX12_edits_6 ?_
  refine lv_aload_n hx hb dX12_edits_7 rfl (lv_at hl 0 rfl) ?_
  refine w_geti hx hb hts (z_memU u12) hown hK.1 hS f12_32 (by decide) (zkd_of (rfl : zcd wR 0 = 50) rfl) (Or.inl (hts _ (z_mem k976))) dX12_edits_8 ?_
  refine z_iconst hx hb dX12_edits_11 ?_
  refine z_isub hx hb dX12_edits_12 ?_
  refine w_callz (va_runS (As := [.int (iI a0), .int (iI 0), .int (iI ((M1 0 32) - 1))]) (rest := []) ⟨hx, hb, hml, hown, hts⟩ (cR_in l D dA b M1 a0 0 ((M1 0 32) - 1) _ h) (va_cwS 3 hts (z_gS k1083 k1084 k14 k1085) rfl rfl rfl dm_X12_in.2 ⟨Nat.le_of_ble_eq_true rfl, Nat.le_of_ble_eq_true rfl⟩) ⟨wPre_blind, w_pre hS hK⟩ rfl rfl hl.1 rfl (lv_room (Nat.le_of_ble_eq_true rfl)) dX12_edits_13 ⟨Nat.le_refl _, Nat.le_refl _⟩) hS0 (fun z4 M3 H locs r5 h hS hS0 => ?_)
  obtain ⟨e6, h⟩ := h
  rw [e6] at hS
  refine w_if_eq (tgt := 33) hx hb (sI_01 r5) dX12_edits_16 (by decide) (fun c7 => ?_) (fun c7 => ?_)
  · skip
    have h := h.1 c7
    refine z_iconst hx hb dX12_edits_33 ?_
    exact w_iret hx hb hr hlocks hS hS0 (sI_of (by decide)) h dX12_edits_34
  · skip
    have h := h.2 c7
    refine lv_iload_n hx hb dX12_edits_19 rfl (lv_at hl 2 rfl) ?_
    refine z_iconst hx hb dX12_edits_20 ?_
    refine lv_aload_n hx hb dX12_edits_21 rfl (lv_at hl 0 rfl) ?_
    refine w_geti hx hb hts (z_memU u12) hown hK.1 hS f12_32 (by decide) (zkd_of (rfl : zcd wR 0 = 50) rfl) (Or.inl (hts _ (z_mem k976))) dX12_edits_22 ?_
    refine z_iconst hx hb dX12_edits_25 ?_
    refine z_isub hx hb dX12_edits_26 ?_
    refine w_callz (va_runS (As := [.int (iI a1), .int (iI 0), .int (iI ((M1 0 32) - 1))]) (rest := []) ⟨hx, hb, hml, hown, hts⟩ (cR_in l D dA b M1 a1 0 ((M1 0 32) - 1) _ h) (va_cwS 3 hts (z_gS k1083 k1084 k14 k1085) rfl rfl rfl dm_X12_in.2 ⟨Nat.le_of_ble_eq_true rfl, Nat.le_of_ble_eq_true rfl⟩) ⟨wPre_blind, w_pre hS hK⟩ rfl rfl hl.1 rfl (lv_room (Nat.le_of_ble_eq_true rfl)) dX12_edits_27 ⟨Nat.le_refl _, Nat.le_refl _⟩) hS0 (fun z9 M8 H locs r10 h hS hS0 => ?_)
    obtain ⟨e11, h⟩ := h
    rw [e11] at hS
    refine w_if_ne (tgt := 35) hx hb (sI_01 r10) dX12_edits_30 (by decide) (fun c12 => ?_) (fun c12 => ?_)
    · skip
      have h := h.1 c12
      refine z_ldcw (n := 268435456) hx hb hown (hts _ (z_mem k1225)) (by decide) dX12_edits_35 ?_
      refine lv_istore_n (lv' := [(3, .int (iI 268435456)), (0, .ref (b + 0)), (1, .int (iI a0)), (2, .int (iI a1))]) hx hb dX12_edits_38 rfl hl (by decide) rfl (fun ls hl => ?_)
      refine z_iconst hx hb dX12_edits_39 ?_
      refine lv_istore (lv' := [(4, .int (iI 0)), (3, .int (iI 268435456)), (0, .ref (b + 0)), (1, .int (iI a0)), (2, .int (iI a1))]) hx hb dX12_edits_40 hl (by decide) rfl (fun ls hl => ?_)
      obtain ⟨I16, ⟨n17, h18⟩, h19⟩ := h
      have L20 : ∀ (n21 : Nat) (x13 x14 : Int) (M15 : zM) (H : Heap) (locs : List Loc) (ls : Array Slot), I16 n21 x13 x14 M15 → zR D dA vwCl wR nR b M15 H → va_S (zA nR b) s.heap H locs → lv_has ls 5 [(0, .ref (b + 0)), (1, .int (iI a0)), (2, .int (iI a1)), (3, .int (iI x13)), (4, .int (iI x14))] → W p l e (headSpec (.code yX12_edits cX12_edits 5 (some .int) :: zt) (z_rm 2)).room s m args below meth c H locs 0 0 (MQ below (va_Qi (wQi Q) (zB D dA vwCl wR nR b) (zA nR b)) args s 0 0 (zA nR b)) (F0 m 42 ls []) := by
        intro n21
        induction n21 using Nat.strongRecOn with
        | ind n21 i22 =>
          intro x13 x14 M15 H locs ls h hS hS0 hl
          have h := h19 n21 x13 x14 M15 h
          refine lv_iload hx hb dX12_edits_42 (lv_at hl 4 rfl) ?_
          refine lv_aload_n hx hb dX12_edits_44 rfl (lv_at hl 0 rfl) ?_
          refine w_getr (j2 := 19) hx hb hts (z_memU u12) hown hK.1 hS f12_29 (by decide) (zkd_of (rfl : zcd wR 0 = 50) rfl) (zrf_of (rfl : zcd wR 0 = 50) rfl) (Or.inl (hts _ (z_mem k973))) dX12_edits_45 ?_
          refine lv_iload_n hx hb dX12_edits_48 rfl (lv_at hl 2 rfl) ?_
          obtain ⟨o23, h⟩ := h
          refine w_iald (n := 16) (i := (sI a1)) hx hb hK.1 (t0 := 0) rfl hS (by decide) (zkd_of (rfl : zcd wR 19 = 69) rfl) (zln_of (rfl : zcd wR 19 = 69) rfl) rfl o23.1 o23.2 (by decide) dX12_edits_49 ?_
          refine w_icmp_ge (tgt := 72) hx hb rfl rfl dX12_edits_50 (by decide) (fun c24 => ?_) (fun c24 => ?_)
          · skip
            have h := h.1 c24
            refine lv_iload_n hx hb dX12_edits_72 rfl (lv_at hl 3 rfl) ?_
            exact w_iret hx hb hr hlocks hS hS0 rfl h dX12_edits_73
          · skip
            have h := h.2 c24
            refine lv_iload_n hx hb dX12_edits_53 rfl (lv_at hl 3 rfl) ?_
            refine lv_aload_n hx hb dX12_edits_54 rfl (lv_at hl 0 rfl) ?_
            refine lv_iload_n hx hb dX12_edits_55 rfl (lv_at hl 1 rfl) ?_
            refine lv_iload_n hx hb dX12_edits_56 rfl (lv_at hl 2 rfl) ?_
            refine lv_iload hx hb dX12_edits_57 (lv_at hl 4 rfl) ?_
            refine w_calli (va_runV (As := [.int (iI a0), .int (iI a1), .int (iI x14)]) (rest := [.int (iI x13)]) ⟨hx, hb, hml, hown, hts⟩ (cR_editsBy l D dA b M15 a0 a1 x14 _ h) (cwV 3 hts (z_gV k1341 k1342 k1423 k14 k1343) rfl rfl rfl dm_X12_editsBy ⟨Nat.le_of_ble_eq_true rfl, Nat.le_of_ble_eq_true rfl⟩) ⟨wPre_blind, (w_recv hS hK.1 (by decide) (zkd_of (rfl : zcd wR 0 = 50) rfl) (by decide) (rfl : vwCl[12]? = some (RX12, TX12, 50))), w_pre hS hK⟩ rfl rfl hl.1 rfl (lv_room (Nat.le_of_ble_eq_true rfl)) dX12_edits_59 ⟨Nat.le_refl _, Nat.le_refl _⟩) hS0 (fun z26 M25 H locs r27 h hS hS0 => ?_)
            refine w_mmin hx hb (hml.trans hl.1.symm) hown (hts _ (z_mem k1229)) (hts _ (z_mem k320)) (hts _ (z_mem k15)) (hts _ (z_mem k321)) (by exact Nat.le_of_ble_eq_true rfl) (by exact Nat.le_of_ble_eq_true rfl) (by exact Nat.le_refl _) (by exact Nat.le_refl _) rfl (sI_of r27) dX12_edits_62 ?_
            refine lv_istore_n (lv' := [(3, .int (iI (min (sI x13) z26))), (0, .ref (b + 0)), (1, .int (iI a0)), (2, .int (iI a1)), (4, .int (iI x14))]) hx hb dX12_edits_65 rfl hl (by decide) rfl (fun ls hl => ?_)
            refine z_iinc (lv' := [(4, .int (iI (x14 + 1))), (3, .int (iI (min (sI x13) z26))), (0, .ref (b + 0)), (1, .int (iI a0)), (2, .int (iI a1))]) hx hb dX12_edits_66 hl (k := 4) rfl (by decide) rfl (fun ls hl => ?_)
            refine lv_goto (tgt := 42) hx hb dX12_edits_69 (by decide) ?_
            obtain ⟨n28, h29, h⟩ := h
            exact i22 n28 h29 (min (sI x13) z26) (x14 + 1) M25 _ _ _ h hS hS0 (lv_sub hl [2, 3, 4, 1, 0] rfl)
      exact L20 n17 268435456 0 M1 _ _ _ h18 hS hS0 (lv_sub hl [2, 3, 4, 1, 0] rfl)
    · skip
      have h := h.2 c12
      refine z_iconst hx hb dX12_edits_33 ?_
      exact w_iret hx hb hr hlocks hS hS0 (sI_of (by decide)) h dX12_edits_34
