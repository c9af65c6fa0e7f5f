/-! the W layer, 14 -/
theorem dX12_isWrong_0 : decode cX12_isWrong 0 = .ok (.aload_n 0, 1) := by decide +kernel
theorem dX12_isWrong_1 : decode cX12_isWrong 1 = .ok (.getfield 134, 3) := by decide +kernel
theorem dX12_isWrong_10 : decode cX12_isWrong 10 = .ok (.getfield 131, 3) := by decide +kernel
theorem dX12_isWrong_13 : decode cX12_isWrong 13 = .ok (.putfield 134, 3) := by decide +kernel
theorem dX12_isWrong_16 : decode cX12_isWrong 16 = .ok (.iconst 0, 1) := by decide +kernel
theorem dX12_isWrong_17 : decode cX12_isWrong 17 = .ok (.ireturn, 1) := by decide +kernel
theorem dX12_isWrong_4 : decode cX12_isWrong 4 = .ok (.iconst (-1), 1) := by decide +kernel
theorem dX12_isWrong_5 : decode cX12_isWrong 5 = .ok (.if_icmp .ne 11, 3) := by decide +kernel
theorem dX12_isWrong_8 : decode cX12_isWrong 8 = .ok (.aload_n 0, 1) := by decide +kernel
theorem dX12_isWrong_9 : decode cX12_isWrong 9 = .ok (.aload_n 0, 1) := by decide +kernel
theorem dX12_makeRow_0 : decode cX12_makeRow 0 = .ok (.aload_n 0, 1) := by decide +kernel
theorem dX12_makeRow_1 : decode cX12_makeRow 1 = .ok (.iload_n 1, 1) := by decide +kernel
theorem dX12_makeRow_10 : decode cX12_makeRow 10 = .ok (.iload_n 2, 1) := by decide +kernel
theorem dX12_makeRow_100 : decode cX12_makeRow 100 = .ok (.bipush 40, 2) := by decide +kernel
theorem dX12_makeRow_102 : decode cX12_makeRow 102 = .ok (.invokevirtual 141, 3) := by decide +kernel
theorem dX12_makeRow_105 : decode cX12_makeRow 105 = .ok (.ifCond .eq 190, 3) := by decide +kernel
theorem dX12_makeRow_108 : decode cX12_makeRow 108 = .ok (.iconst 0, 1) := by decide +kernel
theorem dX12_makeRow_109 : decode cX12_makeRow 109 = .ok (.istore_n 3, 1) := by decide +kernel
theorem dX12_makeRow_11 : decode cX12_makeRow 11 = .ok (.ireturn, 1) := by decide +kernel
theorem dX12_makeRow_110 : decode cX12_makeRow 110 = .ok (.aload_n 0, 1) := by decide +kernel
theorem dX12_makeRow_111 : decode cX12_makeRow 111 = .ok (.bipush 47, 2) := by decide +kernel
theorem dX12_makeRow_113 : decode cX12_makeRow 113 = .ok (.bipush 47, 2) := by decide +kernel
theorem dX12_makeRow_115 : decode cX12_makeRow 115 = .ok (.invokevirtual 141, 3) := by decide +kernel
theorem dX12_makeRow_118 : decode cX12_makeRow 118 = .ok (.ifCond .eq 28, 3) := by decide +kernel
theorem dX12_makeRow_12 : decode cX12_makeRow 12 = .ok (.aload_n 0, 1) := by decide +kernel
theorem dX12_makeRow_121 : decode cX12_makeRow 121 = .ok (.aload_n 0, 1) := by decide +kernel
theorem dX12_makeRow_122 : decode cX12_makeRow 122 = .ok (.getfield 9, 3) := by decide +kernel
theorem dX12_makeRow_125 : decode cX12_makeRow 125 = .ok (.aload_n 0, 1) := by decide +kernel
theorem dX12_makeRow_126 : decode cX12_makeRow 126 = .ok (.getfield 131, 3) := by decide +kernel
theorem dX12_makeRow_129 : decode cX12_makeRow 129 = .ok (.iconst 1, 1) := by decide +kernel
theorem dX12_makeRow_13 : decode cX12_makeRow 13 = .ok (.getfield 87, 3) := by decide +kernel
theorem dX12_makeRow_130 : decode cX12_makeRow 130 = .ok (.iadd, 1) := by decide +kernel
theorem dX12_makeRow_131 : decode cX12_makeRow 131 = .ok (.baload, 1) := by decide +kernel
theorem dX12_makeRow_132 : decode cX12_makeRow 132 = .ok (.bipush 48, 2) := by decide +kernel
theorem dX12_makeRow_134 : decode cX12_makeRow 134 = .ok (.isub, 1) := by decide +kernel
theorem dX12_makeRow_135 : decode cX12_makeRow 135 = .ok (.istore_n 3, 1) := by decide +kernel
theorem dX12_makeRow_136 : decode cX12_makeRow 136 = .ok (.aload_n 0, 1) := by decide +kernel
theorem dX12_makeRow_137 : decode cX12_makeRow 137 = .ok (.dup, 1) := by decide +kernel
theorem dX12_makeRow_138 : decode cX12_makeRow 138 = .ok (.getfield 131, 3) := by decide +kernel
theorem dX12_makeRow_141 : decode cX12_makeRow 141 = .ok (.iconst 2, 1) := by decide +kernel
theorem dX12_makeRow_142 : decode cX12_makeRow 142 = .ok (.iadd, 1) := by decide +kernel
theorem dX12_makeRow_143 : decode cX12_makeRow 143 = .ok (.putfield 131, 3) := by decide +kernel
theorem dX12_makeRow_146 : decode cX12_makeRow 146 = .ok (.aload_n 0, 1) := by decide +kernel
theorem dX12_makeRow_147 : decode cX12_makeRow 147 = .ok (.iload_n 1, 1) := by decide +kernel
theorem dX12_makeRow_148 : decode cX12_makeRow 148 = .ok (.invokevirtual 155, 3) := by decide +kernel
theorem dX12_makeRow_151 : decode cX12_makeRow 151 = .ok (.istore_n 2, 1) := by decide +kernel
theorem dX12_makeRow_152 : decode cX12_makeRow 152 = .ok (.iload_n 2, 1) := by decide +kernel
theorem dX12_makeRow_153 : decode cX12_makeRow 153 = .ok (.ifCond .ge 5, 3) := by decide +kernel
theorem dX12_makeRow_156 : decode cX12_makeRow 156 = .ok (.iload_n 2, 1) := by decide +kernel
theorem dX12_makeRow_157 : decode cX12_makeRow 157 = .ok (.ireturn, 1) := by decide +kernel
theorem dX12_makeRow_158 : decode cX12_makeRow 158 = .ok (.iload_n 3, 1) := by decide +kernel
theorem dX12_makeRow_159 : decode cX12_makeRow 159 = .ok (.aload_n 0, 1) := by decide +kernel
theorem dX12_makeRow_16 : decode cX12_makeRow 16 = .ok (.iload_n 1, 1) := by decide +kernel
theorem dX12_makeRow_160 : decode cX12_makeRow 160 = .ok (.getfield 87, 3) := by decide +kernel
theorem dX12_makeRow_163 : decode cX12_makeRow 163 = .ok (.iload_n 1, 1) := by decide +kernel
theorem dX12_makeRow_164 : decode cX12_makeRow 164 = .ok (.iaload, 1) := by decide +kernel
theorem dX12_makeRow_165 : decode cX12_makeRow 165 = .ok (.if_icmp .gt 13, 3) := by decide +kernel
theorem dX12_makeRow_168 : decode cX12_makeRow 168 = .ok (.iload_n 3, 1) := by decide +kernel
theorem dX12_makeRow_169 : decode cX12_makeRow 169 = .ok (.aload_n 0, 1) := by decide +kernel
theorem dX12_makeRow_17 : decode cX12_makeRow 17 = .ok (.aload_n 0, 1) := by decide +kernel
theorem dX12_makeRow_170 : decode cX12_makeRow 170 = .ok (.getfield 93, 3) := by decide +kernel
theorem dX12_makeRow_173 : decode cX12_makeRow 173 = .ok (.iload_n 1, 1) := by decide +kernel
theorem dX12_makeRow_174 : decode cX12_makeRow 174 = .ok (.iaload, 1) := by decide +kernel
theorem dX12_makeRow_175 : decode cX12_makeRow 175 = .ok (.if_icmp .le 6, 3) := by decide +kernel
theorem dX12_makeRow_178 : decode cX12_makeRow 178 = .ok (.bipush (-101), 2) := by decide +kernel
theorem dX12_makeRow_18 : decode cX12_makeRow 18 = .ok (.getfield 93, 3) := by decide +kernel
theorem dX12_makeRow_180 : decode cX12_makeRow 180 = .ok (.ireturn, 1) := by decide +kernel
theorem dX12_makeRow_181 : decode cX12_makeRow 181 = .ok (.aload_n 0, 1) := by decide +kernel
theorem dX12_makeRow_182 : decode cX12_makeRow 182 = .ok (.getfield 87, 3) := by decide +kernel
theorem dX12_makeRow_185 : decode cX12_makeRow 185 = .ok (.iload_n 1, 1) := by decide +kernel
theorem dX12_makeRow_186 : decode cX12_makeRow 186 = .ok (.iaload, 1) := by decide +kernel
theorem dX12_makeRow_187 : decode cX12_makeRow 187 = .ok (.iload_n 3, 1) := by decide +kernel
theorem dX12_makeRow_188 : decode cX12_makeRow 188 = .ok (.isub, 1) := by decide +kernel
theorem dX12_makeRow_189 : decode cX12_makeRow 189 = .ok (.istore 4, 2) := by decide +kernel
theorem dX12_makeRow_191 : decode cX12_makeRow 191 = .ok (.iload 4, 2) := by decide +kernel
theorem dX12_makeRow_193 : decode cX12_makeRow 193 = .ok (.aload_n 0, 1) := by decide +kernel
theorem dX12_makeRow_194 : decode cX12_makeRow 194 = .ok (.getfield 93, 3) := by decide +kernel
theorem dX12_makeRow_197 : decode cX12_makeRow 197 = .ok (.iload_n 1, 1) := by decide +kernel
theorem dX12_makeRow_198 : decode cX12_makeRow 198 = .ok (.iaload, 1) := by decide +kernel
theorem dX12_makeRow_199 : decode cX12_makeRow 199 = .ok (.iadd, 1) := by decide +kernel
theorem dX12_makeRow_2 : decode cX12_makeRow 2 = .ok (.invokevirtual 155, 3) := by decide +kernel
theorem dX12_makeRow_200 : decode cX12_makeRow 200 = .ok (.bipush 24, 2) := by decide +kernel
theorem dX12_makeRow_202 : decode cX12_makeRow 202 = .ok (.if_icmp .le 6, 3) := by decide +kernel
theorem dX12_makeRow_205 : decode cX12_makeRow 205 = .ok (.bipush (-100), 2) := by decide +kernel
theorem dX12_makeRow_207 : decode cX12_makeRow 207 = .ok (.ireturn, 1) := by decide +kernel
theorem dX12_makeRow_208 : decode cX12_makeRow 208 = .ok (.iconst 0, 1) := by decide +kernel
theorem dX12_makeRow_209 : decode cX12_makeRow 209 = .ok (.istore 5, 2) := by decide +kernel
theorem dX12_makeRow_21 : decode cX12_makeRow 21 = .ok (.iload_n 1, 1) := by decide +kernel
theorem dX12_makeRow_211 : decode cX12_makeRow 211 = .ok (.iload 5, 2) := by decide +kernel
theorem dX12_makeRow_213 : decode cX12_makeRow 213 = .ok (.aload_n 0, 1) := by decide +kernel
theorem dX12_makeRow_214 : decode cX12_makeRow 214 = .ok (.getfield 93, 3) := by decide +kernel
theorem dX12_makeRow_217 : decode cX12_makeRow 217 = .ok (.iload_n 1, 1) := by decide +kernel
theorem dX12_makeRow_218 : decode cX12_makeRow 218 = .ok (.iaload, 1) := by decide +kernel
theorem dX12_makeRow_219 : decode cX12_makeRow 219 = .ok (.if_icmp .ge 58, 3) := by decide +kernel
theorem dX12_makeRow_22 : decode cX12_makeRow 22 = .ok (.iaload, 1) := by decide +kernel
theorem dX12_makeRow_222 : decode cX12_makeRow 222 = .ok (.bipush 24, 2) := by decide +kernel
theorem dX12_makeRow_224 : decode cX12_makeRow 224 = .ok (.iload_n 1, 1) := by decide +kernel
theorem dX12_makeRow_225 : decode cX12_makeRow 225 = .ok (.imul, 1) := by decide +kernel
theorem dX12_makeRow_226 : decode cX12_makeRow 226 = .ok (.iload 4, 2) := by decide +kernel
theorem dX12_makeRow_228 : decode cX12_makeRow 228 = .ok (.iadd, 1) := by decide +kernel
theorem dX12_makeRow_229 : decode cX12_makeRow 229 = .ok (.iload 5, 2) := by decide +kernel
theorem dX12_makeRow_23 : decode cX12_makeRow 23 = .ok (.iastore, 1) := by decide +kernel
theorem dX12_makeRow_231 : decode cX12_makeRow 231 = .ok (.iadd, 1) := by decide +kernel
theorem dX12_makeRow_232 : decode cX12_makeRow 232 = .ok (.istore 6, 2) := by decide +kernel
theorem dX12_makeRow_234 : decode cX12_makeRow 234 = .ok (.aload_n 0, 1) := by decide +kernel
theorem dX12_makeRow_235 : decode cX12_makeRow 235 = .ok (.getfield 84, 3) := by decide +kernel
theorem dX12_makeRow_238 : decode cX12_makeRow 238 = .ok (.iload 6, 2) := by decide +kernel
theorem dX12_makeRow_24 : decode cX12_makeRow 24 = .ok (.iconst 0, 1) := by decide +kernel
theorem dX12_makeRow_240 : decode cX12_makeRow 240 = .ok (.aload_n 0, 1) := by decide +kernel
theorem dX12_makeRow_241 : decode cX12_makeRow 241 = .ok (.getfield 90, 3) := by decide +kernel
theorem dX12_makeRow_244 : decode cX12_makeRow 244 = .ok (.bipush 24, 2) := by decide +kernel
theorem dX12_makeRow_246 : decode cX12_makeRow 246 = .ok (.iload_n 1, 1) := by decide +kernel
theorem dX12_makeRow_247 : decode cX12_makeRow 247 = .ok (.imul, 1) := by decide +kernel
theorem dX12_makeRow_248 : decode cX12_makeRow 248 = .ok (.iload 5, 2) := by decide +kernel
theorem dX12_makeRow_25 : decode cX12_makeRow 25 = .ok (.istore_n 3, 1) := by decide +kernel
theorem dX12_makeRow_250 : decode cX12_makeRow 250 = .ok (.iadd, 1) := by decide +kernel
theorem dX12_makeRow_251 : decode cX12_makeRow 251 = .ok (.iaload, 1) := by decide +kernel
theorem dX12_makeRow_252 : decode cX12_makeRow 252 = .ok (.iload 5, 2) := by decide +kernel
theorem dX12_makeRow_254 : decode cX12_makeRow 254 = .ok (.iload_n 3, 1) := by decide +kernel
theorem dX12_makeRow_255 : decode cX12_makeRow 255 = .ok (.if_icmp .ge 13, 3) := by decide +kernel
theorem dX12_makeRow_258 : decode cX12_makeRow 258 = .ok (.aload_n 0, 1) := by decide +kernel
theorem dX12_makeRow_259 : decode cX12_makeRow 259 = .ok (.getfield 84, 3) := by decide +kernel
theorem dX12_makeRow_26 : decode cX12_makeRow 26 = .ok (.iload_n 3, 1) := by decide +kernel
theorem dX12_makeRow_262 : decode cX12_makeRow 262 = .ok (.iload 6, 2) := by decide +kernel
theorem dX12_makeRow_264 : decode cX12_makeRow 264 = .ok (.iaload, 1) := by decide +kernel
theorem dX12_makeRow_265 : decode cX12_makeRow 265 = .ok (.goto 4, 3) := by decide +kernel
theorem dX12_makeRow_268 : decode cX12_makeRow 268 = .ok (.iconst 0, 1) := by decide +kernel
theorem dX12_makeRow_269 : decode cX12_makeRow 269 = .ok (.ior, 1) := by decide +kernel
theorem dX12_makeRow_27 : decode cX12_makeRow 27 = .ok (.aload_n 0, 1) := by decide +kernel
theorem dX12_makeRow_270 : decode cX12_makeRow 270 = .ok (.iastore, 1) := by decide +kernel
theorem dX12_makeRow_271 : decode cX12_makeRow 271 = .ok (.iinc 5 1, 3) := by decide +kernel
theorem dX12_makeRow_274 : decode cX12_makeRow 274 = .ok (.goto (-63), 3) := by decide +kernel
theorem dX12_makeRow_277 : decode cX12_makeRow 277 = .ok (.aload_n 0, 1) := by decide +kernel
theorem dX12_makeRow_278 : decode cX12_makeRow 278 = .ok (.getfield 87, 3) := by decide +kernel
theorem dX12_makeRow_28 : decode cX12_makeRow 28 = .ok (.getfield 93, 3) := by decide +kernel
theorem dX12_makeRow_281 : decode cX12_makeRow 281 = .ok (.iload_n 1, 1) := by decide +kernel
theorem dX12_makeRow_282 : decode cX12_makeRow 282 = .ok (.iload 4, 2) := by decide +kernel
theorem dX12_makeRow_284 : decode cX12_makeRow 284 = .ok (.aload_n 0, 1) := by decide +kernel
theorem dX12_makeRow_285 : decode cX12_makeRow 285 = .ok (.getfield 93, 3) := by decide +kernel
theorem dX12_makeRow_288 : decode cX12_makeRow 288 = .ok (.iload_n 1, 1) := by decide +kernel
theorem dX12_makeRow_289 : decode cX12_makeRow 289 = .ok (.iaload, 1) := by decide +kernel
theorem dX12_makeRow_290 : decode cX12_makeRow 290 = .ok (.iadd, 1) := by decide +kernel
theorem dX12_makeRow_291 : decode cX12_makeRow 291 = .ok (.iastore, 1) := by decide +kernel
theorem dX12_makeRow_292 : decode cX12_makeRow 292 = .ok (.goto (-228), 3) := by decide +kernel
theorem dX12_makeRow_295 : decode cX12_makeRow 295 = .ok (.iconst 0, 1) := by decide +kernel
theorem dX12_makeRow_296 : decode cX12_makeRow 296 = .ok (.ireturn, 1) := by decide +kernel
theorem dX12_makeRow_31 : decode cX12_makeRow 31 = .ok (.iload_n 1, 1) := by decide +kernel
theorem dX12_makeRow_32 : decode cX12_makeRow 32 = .ok (.iaload, 1) := by decide +kernel
theorem dX12_makeRow_33 : decode cX12_makeRow 33 = .ok (.if_icmp .ge 31, 3) := by decide +kernel
theorem dX12_makeRow_36 : decode cX12_makeRow 36 = .ok (.aload_n 0, 1) := by decide +kernel
theorem dX12_makeRow_37 : decode cX12_makeRow 37 = .ok (.getfield 84, 3) := by decide +kernel
theorem dX12_makeRow_40 : decode cX12_makeRow 40 = .ok (.bipush 24, 2) := by decide +kernel
theorem dX12_makeRow_42 : decode cX12_makeRow 42 = .ok (.iload_n 1, 1) := by decide +kernel
theorem dX12_makeRow_43 : decode cX12_makeRow 43 = .ok (.imul, 1) := by decide +kernel
theorem dX12_makeRow_44 : decode cX12_makeRow 44 = .ok (.iload_n 3, 1) := by decide +kernel
theorem dX12_makeRow_45 : decode cX12_makeRow 45 = .ok (.iadd, 1) := by decide +kernel
theorem dX12_makeRow_46 : decode cX12_makeRow 46 = .ok (.aload_n 0, 1) := by decide +kernel
theorem dX12_makeRow_47 : decode cX12_makeRow 47 = .ok (.getfield 90, 3) := by decide +kernel
theorem dX12_makeRow_5 : decode cX12_makeRow 5 = .ok (.istore_n 2, 1) := by decide +kernel
theorem dX12_makeRow_50 : decode cX12_makeRow 50 = .ok (.bipush 24, 2) := by decide +kernel
theorem dX12_makeRow_52 : decode cX12_makeRow 52 = .ok (.iload_n 1, 1) := by decide +kernel
theorem dX12_makeRow_53 : decode cX12_makeRow 53 = .ok (.imul, 1) := by decide +kernel
theorem dX12_makeRow_54 : decode cX12_makeRow 54 = .ok (.iload_n 3, 1) := by decide +kernel
theorem dX12_makeRow_55 : decode cX12_makeRow 55 = .ok (.iadd, 1) := by decide +kernel
theorem dX12_makeRow_56 : decode cX12_makeRow 56 = .ok (.iaload, 1) := by decide +kernel
theorem dX12_makeRow_57 : decode cX12_makeRow 57 = .ok (.iastore, 1) := by decide +kernel
theorem dX12_makeRow_58 : decode cX12_makeRow 58 = .ok (.iinc 3 1, 3) := by decide +kernel
theorem dX12_makeRow_6 : decode cX12_makeRow 6 = .ok (.iload_n 2, 1) := by decide +kernel
theorem dX12_makeRow_61 : decode cX12_makeRow 61 = .ok (.goto (-35), 3) := by decide +kernel
theorem dX12_makeRow_64 : decode cX12_makeRow 64 = .ok (.aload_n 0, 1) := by decide +kernel
theorem dX12_makeRow_65 : decode cX12_makeRow 65 = .ok (.bipush 47, 2) := by decide +kernel
theorem dX12_makeRow_67 : decode cX12_makeRow 67 = .ok (.bipush 47, 2) := by decide +kernel
theorem dX12_makeRow_69 : decode cX12_makeRow 69 = .ok (.invokevirtual 141, 3) := by decide +kernel
theorem dX12_makeRow_7 : decode cX12_makeRow 7 = .ok (.ifCond .ge 5, 3) := by decide +kernel
theorem dX12_makeRow_72 : decode cX12_makeRow 72 = .ok (.ifCond .ne 36, 3) := by decide +kernel
theorem dX12_makeRow_75 : decode cX12_makeRow 75 = .ok (.aload_n 0, 1) := by decide +kernel
theorem dX12_makeRow_76 : decode cX12_makeRow 76 = .ok (.bipush 48, 2) := by decide +kernel
theorem dX12_makeRow_78 : decode cX12_makeRow 78 = .ok (.bipush 57, 2) := by decide +kernel
theorem dX12_makeRow_80 : decode cX12_makeRow 80 = .ok (.invokevirtual 141, 3) := by decide +kernel
theorem dX12_makeRow_83 : decode cX12_makeRow 83 = .ok (.ifCond .ne 25, 3) := by decide +kernel
theorem dX12_makeRow_86 : decode cX12_makeRow 86 = .ok (.aload_n 0, 1) := by decide +kernel
theorem dX12_makeRow_87 : decode cX12_makeRow 87 = .ok (.bipush 91, 2) := by decide +kernel
theorem dX12_makeRow_89 : decode cX12_makeRow 89 = .ok (.bipush 91, 2) := by decide +kernel
theorem dX12_makeRow_91 : decode cX12_makeRow 91 = .ok (.invokevirtual 141, 3) := by decide +kernel
theorem dX12_makeRow_94 : decode cX12_makeRow 94 = .ok (.ifCond .ne 14, 3) := by decide +kernel
theorem dX12_makeRow_97 : decode cX12_makeRow 97 = .ok (.aload_n 0, 1) := by decide +kernel
theorem dX12_makeRow_98 : decode cX12_makeRow 98 = .ok (.bipush 40, 2) := by decide +kernel
theorem dX12_makeTerm_0 : decode cX12_makeTerm 0 = .ok (.bipush 24, 2) := by decide +kernel
theorem dX12_makeTerm_10 : decode cX12_makeTerm 10 = .ok (.invokevirtual 141, 3) := by decide +kernel
theorem dX12_makeTerm_100 : decode cX12_makeTerm 100 = .ok (.bipush 57, 2) := by decide +kernel
theorem dX12_makeTerm_102 : decode cX12_makeTerm 102 = .ok (.invokevirtual 141, 3) := by decide +kernel
theorem dX12_makeTerm_105 : decode cX12_makeTerm 105 = .ok (.ifCond .eq 33, 3) := by decide +kernel
theorem dX12_makeTerm_108 : decode cX12_makeTerm 108 = .ok (.iload_n 3, 1) := by decide +kernel
theorem dX12_makeTerm_109 : decode cX12_makeTerm 109 = .ok (.iconst 1, 1) := by decide +kernel
theorem dX12_makeTerm_110 : decode cX12_makeTerm 110 = .ok (.aload_n 0, 1) := by decide +kernel
theorem dX12_makeTerm_111 : decode cX12_makeTerm 111 = .ok (.getfield 9, 3) := by decide +kernel
theorem dX12_makeTerm_114 : decode cX12_makeTerm 114 = .ok (.aload_n 0, 1) := by decide +kernel
theorem dX12_makeTerm_115 : decode cX12_makeTerm 115 = .ok (.getfield 131, 3) := by decide +kernel
theorem dX12_makeTerm_118 : decode cX12_makeTerm 118 = .ok (.baload, 1) := by decide +kernel
theorem dX12_makeTerm_119 : decode cX12_makeTerm 119 = .ok (.bipush 48, 2) := by decide +kernel
theorem dX12_makeTerm_121 : decode cX12_makeTerm 121 = .ok (.isub, 1) := by decide +kernel
theorem dX12_makeTerm_122 : decode cX12_makeTerm 122 = .ok (.ishl, 1) := by decide +kernel
theorem dX12_makeTerm_123 : decode cX12_makeTerm 123 = .ok (.ior, 1) := by decide +kernel
theorem dX12_makeTerm_124 : decode cX12_makeTerm 124 = .ok (.istore_n 3, 1) := by decide +kernel
theorem dX12_makeTerm_125 : decode cX12_makeTerm 125 = .ok (.aload_n 0, 1) := by decide +kernel
theorem dX12_makeTerm_126 : decode cX12_makeTerm 126 = .ok (.dup, 1) := by decide +kernel
theorem dX12_makeTerm_127 : decode cX12_makeTerm 127 = .ok (.getfield 131, 3) := by decide +kernel
theorem dX12_makeTerm_13 : decode cX12_makeTerm 13 = .ok (.ifCond .eq 61, 3) := by decide +kernel
theorem dX12_makeTerm_130 : decode cX12_makeTerm 130 = .ok (.iconst 1, 1) := by decide +kernel
theorem dX12_makeTerm_131 : decode cX12_makeTerm 131 = .ok (.iadd, 1) := by decide +kernel
theorem dX12_makeTerm_132 : decode cX12_makeTerm 132 = .ok (.putfield 131, 3) := by decide +kernel
theorem dX12_makeTerm_135 : decode cX12_makeTerm 135 = .ok (.goto (-38), 3) := by decide +kernel
theorem dX12_makeTerm_138 : decode cX12_makeTerm 138 = .ok (.aload_n 0, 1) := by decide +kernel
theorem dX12_makeTerm_139 : decode cX12_makeTerm 139 = .ok (.dup, 1) := by decide +kernel
theorem dX12_makeTerm_140 : decode cX12_makeTerm 140 = .ok (.getfield 131, 3) := by decide +kernel
theorem dX12_makeTerm_143 : decode cX12_makeTerm 143 = .ok (.iconst 1, 1) := by decide +kernel
theorem dX12_makeTerm_144 : decode cX12_makeTerm 144 = .ok (.iadd, 1) := by decide +kernel
theorem dX12_makeTerm_145 : decode cX12_makeTerm 145 = .ok (.putfield 131, 3) := by decide +kernel
theorem dX12_makeTerm_148 : decode cX12_makeTerm 148 = .ok (.aload_n 0, 1) := by decide +kernel
theorem dX12_makeTerm_149 : decode cX12_makeTerm 149 = .ok (.getfield 90, 3) := by decide +kernel
theorem dX12_makeTerm_152 : decode cX12_makeTerm 152 = .ok (.iload_n 2, 1) := by decide +kernel
theorem dX12_makeTerm_153 : decode cX12_makeTerm 153 = .ok (.iload_n 3, 1) := by decide +kernel
theorem dX12_makeTerm_154 : decode cX12_makeTerm 154 = .ok (.iastore, 1) := by decide +kernel
theorem dX12_makeTerm_155 : decode cX12_makeTerm 155 = .ok (.aload_n 0, 1) := by decide +kernel
theorem dX12_makeTerm_156 : decode cX12_makeTerm 156 = .ok (.getfield 93, 3) := by decide +kernel
theorem dX12_makeTerm_159 : decode cX12_makeTerm 159 = .ok (.iload_n 1, 1) := by decide +kernel
theorem dX12_makeTerm_16 : decode cX12_makeTerm 16 = .ok (.aload_n 0, 1) := by decide +kernel
theorem dX12_makeTerm_160 : decode cX12_makeTerm 160 = .ok (.iconst 1, 1) := by decide +kernel
theorem dX12_makeTerm_161 : decode cX12_makeTerm 161 = .ok (.iastore, 1) := by decide +kernel
theorem dX12_makeTerm_162 : decode cX12_makeTerm 162 = .ok (.goto 92, 3) := by decide +kernel
theorem dX12_makeTerm_165 : decode cX12_makeTerm 165 = .ok (.aload_n 0, 1) := by decide +kernel
theorem dX12_makeTerm_166 : decode cX12_makeTerm 166 = .ok (.dup, 1) := by decide +kernel
theorem dX12_makeTerm_167 : decode cX12_makeTerm 167 = .ok (.getfield 131, 3) := by decide +kernel
theorem dX12_makeTerm_17 : decode cX12_makeTerm 17 = .ok (.getfield 90, 3) := by decide +kernel
theorem dX12_makeTerm_170 : decode cX12_makeTerm 170 = .ok (.iconst 1, 1) := by decide +kernel
theorem dX12_makeTerm_171 : decode cX12_makeTerm 171 = .ok (.iadd, 1) := by decide +kernel
theorem dX12_makeTerm_172 : decode cX12_makeTerm 172 = .ok (.putfield 131, 3) := by decide +kernel
theorem dX12_makeTerm_175 : decode cX12_makeTerm 175 = .ok (.aload_n 0, 1) := by decide +kernel
theorem dX12_makeTerm_176 : decode cX12_makeTerm 176 = .ok (.iload_n 1, 1) := by decide +kernel
theorem dX12_makeTerm_177 : decode cX12_makeTerm 177 = .ok (.iconst 1, 1) := by decide +kernel
theorem dX12_makeTerm_178 : decode cX12_makeTerm 178 = .ok (.iadd, 1) := by decide +kernel
theorem dX12_makeTerm_179 : decode cX12_makeTerm 179 = .ok (.invokevirtual 159, 3) := by decide +kernel
theorem dX12_makeTerm_182 : decode cX12_makeTerm 182 = .ok (.istore_n 3, 1) := by decide +kernel
theorem dX12_makeTerm_183 : decode cX12_makeTerm 183 = .ok (.iload_n 3, 1) := by decide +kernel
theorem dX12_makeTerm_184 : decode cX12_makeTerm 184 = .ok (.ifCond .ge 5, 3) := by decide +kernel
theorem dX12_makeTerm_187 : decode cX12_makeTerm 187 = .ok (.iload_n 3, 1) := by decide +kernel
theorem dX12_makeTerm_188 : decode cX12_makeTerm 188 = .ok (.ireturn, 1) := by decide +kernel
theorem dX12_makeTerm_189 : decode cX12_makeTerm 189 = .ok (.aload_n 0, 1) := by decide +kernel
theorem dX12_makeTerm_190 : decode cX12_makeTerm 190 = .ok (.dup, 1) := by decide +kernel
theorem dX12_makeTerm_191 : decode cX12_makeTerm 191 = .ok (.getfield 131, 3) := by decide +kernel
theorem dX12_makeTerm_194 : decode cX12_makeTerm 194 = .ok (.iconst 1, 1) := by decide +kernel
theorem dX12_makeTerm_195 : decode cX12_makeTerm 195 = .ok (.iadd, 1) := by decide +kernel
theorem dX12_makeTerm_196 : decode cX12_makeTerm 196 = .ok (.putfield 131, 3) := by decide +kernel
theorem dX12_makeTerm_199 : decode cX12_makeTerm 199 = .ok (.aload_n 0, 1) := by decide +kernel
theorem dX12_makeTerm_2 : decode cX12_makeTerm 2 = .ok (.iload_n 1, 1) := by decide +kernel
theorem dX12_makeTerm_20 : decode cX12_makeTerm 20 = .ok (.iload_n 2, 1) := by decide +kernel
theorem dX12_makeTerm_200 : decode cX12_makeTerm 200 = .ok (.getfield 93, 3) := by decide +kernel
theorem dX12_makeTerm_203 : decode cX12_makeTerm 203 = .ok (.iload_n 1, 1) := by decide +kernel
theorem dX12_makeTerm_204 : decode cX12_makeTerm 204 = .ok (.aload_n 0, 1) := by decide +kernel
theorem dX12_makeTerm_205 : decode cX12_makeTerm 205 = .ok (.getfield 87, 3) := by decide +kernel
theorem dX12_makeTerm_208 : decode cX12_makeTerm 208 = .ok (.iload_n 1, 1) := by decide +kernel
theorem dX12_makeTerm_209 : decode cX12_makeTerm 209 = .ok (.iconst 1, 1) := by decide +kernel
theorem dX12_makeTerm_21 : decode cX12_makeTerm 21 = .ok (.aload_n 0, 1) := by decide +kernel
theorem dX12_makeTerm_210 : decode cX12_makeTerm 210 = .ok (.iadd, 1) := by decide +kernel
theorem dX12_makeTerm_211 : decode cX12_makeTerm 211 = .ok (.iaload, 1) := by decide +kernel
theorem dX12_makeTerm_212 : decode cX12_makeTerm 212 = .ok (.iastore, 1) := by decide +kernel
theorem dX12_makeTerm_213 : decode cX12_makeTerm 213 = .ok (.iconst 0, 1) := by decide +kernel
theorem dX12_makeTerm_214 : decode cX12_makeTerm 214 = .ok (.istore 4, 2) := by decide +kernel
theorem dX12_makeTerm_216 : decode cX12_makeTerm 216 = .ok (.iload 4, 2) := by decide +kernel
theorem dX12_makeTerm_218 : decode cX12_makeTerm 218 = .ok (.aload_n 0, 1) := by decide +kernel
theorem dX12_makeTerm_219 : decode cX12_makeTerm 219 = .ok (.getfield 93, 3) := by decide +kernel
theorem dX12_makeTerm_22 : decode cX12_makeTerm 22 = .ok (.getfield 9, 3) := by decide +kernel
theorem dX12_makeTerm_222 : decode cX12_makeTerm 222 = .ok (.iload_n 1, 1) := by decide +kernel
theorem dX12_makeTerm_223 : decode cX12_makeTerm 223 = .ok (.iaload, 1) := by decide +kernel
theorem dX12_makeTerm_224 : decode cX12_makeTerm 224 = .ok (.if_icmp .ge 30, 3) := by decide +kernel
theorem dX12_makeTerm_227 : decode cX12_makeTerm 227 = .ok (.aload_n 0, 1) := by decide +kernel
theorem dX12_makeTerm_228 : decode cX12_makeTerm 228 = .ok (.getfield 90, 3) := by decide +kernel
theorem dX12_makeTerm_231 : decode cX12_makeTerm 231 = .ok (.iload_n 2, 1) := by decide +kernel
theorem dX12_makeTerm_232 : decode cX12_makeTerm 232 = .ok (.iload 4, 2) := by decide +kernel
theorem dX12_makeTerm_234 : decode cX12_makeTerm 234 = .ok (.iadd, 1) := by decide +kernel
theorem dX12_makeTerm_235 : decode cX12_makeTerm 235 = .ok (.aload_n 0, 1) := by decide +kernel
theorem dX12_makeTerm_236 : decode cX12_makeTerm 236 = .ok (.getfield 84, 3) := by decide +kernel
theorem dX12_makeTerm_239 : decode cX12_makeTerm 239 = .ok (.iload_n 2, 1) := by decide +kernel
theorem dX12_makeTerm_240 : decode cX12_makeTerm 240 = .ok (.bipush 24, 2) := by decide +kernel
theorem dX12_makeTerm_242 : decode cX12_makeTerm 242 = .ok (.iadd, 1) := by decide +kernel
theorem dX12_makeTerm_243 : decode cX12_makeTerm 243 = .ok (.iload 4, 2) := by decide +kernel
theorem dX12_makeTerm_245 : decode cX12_makeTerm 245 = .ok (.iadd, 1) := by decide +kernel
theorem dX12_makeTerm_246 : decode cX12_makeTerm 246 = .ok (.iaload, 1) := by decide +kernel
theorem dX12_makeTerm_247 : decode cX12_makeTerm 247 = .ok (.iastore, 1) := by decide +kernel
theorem dX12_makeTerm_248 : decode cX12_makeTerm 248 = .ok (.iinc 4 1, 3) := by decide +kernel
theorem dX12_makeTerm_25 : decode cX12_makeTerm 25 = .ok (.aload_n 0, 1) := by decide +kernel
theorem dX12_makeTerm_251 : decode cX12_makeTerm 251 = .ok (.goto (-35), 3) := by decide +kernel
theorem dX12_makeTerm_254 : decode cX12_makeTerm 254 = .ok (.aload_n 0, 1) := by decide +kernel
theorem dX12_makeTerm_255 : decode cX12_makeTerm 255 = .ok (.bipush 126, 2) := by decide +kernel
theorem dX12_makeTerm_257 : decode cX12_makeTerm 257 = .ok (.bipush 126, 2) := by decide +kernel
theorem dX12_makeTerm_259 : decode cX12_makeTerm 259 = .ok (.invokevirtual 141, 3) := by decide +kernel
theorem dX12_makeTerm_26 : decode cX12_makeTerm 26 = .ok (.getfield 131, 3) := by decide +kernel
theorem dX12_makeTerm_262 : decode cX12_makeTerm 262 = .ok (.ifCond .ne 14, 3) := by decide +kernel
theorem dX12_makeTerm_265 : decode cX12_makeTerm 265 = .ok (.aload_n 0, 1) := by decide +kernel
theorem dX12_makeTerm_266 : decode cX12_makeTerm 266 = .ok (.bipush 42, 2) := by decide +kernel
theorem dX12_makeTerm_268 : decode cX12_makeTerm 268 = .ok (.bipush 42, 2) := by decide +kernel
theorem dX12_makeTerm_270 : decode cX12_makeTerm 270 = .ok (.invokevirtual 141, 3) := by decide +kernel
theorem dX12_makeTerm_273 : decode cX12_makeTerm 273 = .ok (.ifCond .eq 188, 3) := by decide +kernel
theorem dX12_makeTerm_276 : decode cX12_makeTerm 276 = .ok (.aload_n 0, 1) := by decide +kernel
theorem dX12_makeTerm_277 : decode cX12_makeTerm 277 = .ok (.getfield 93, 3) := by decide +kernel
theorem dX12_makeTerm_280 : decode cX12_makeTerm 280 = .ok (.iload_n 1, 1) := by decide +kernel
theorem dX12_makeTerm_281 : decode cX12_makeTerm 281 = .ok (.iaload, 1) := by decide +kernel
theorem dX12_makeTerm_282 : decode cX12_makeTerm 282 = .ok (.istore_n 3, 1) := by decide +kernel
theorem dX12_makeTerm_283 : decode cX12_makeTerm 283 = .ok (.aload_n 0, 1) := by decide +kernel
theorem dX12_makeTerm_284 : decode cX12_makeTerm 284 = .ok (.bipush 126, 2) := by decide +kernel
theorem dX12_makeTerm_286 : decode cX12_makeTerm 286 = .ok (.bipush 126, 2) := by decide +kernel
theorem dX12_makeTerm_288 : decode cX12_makeTerm 288 = .ok (.invokevirtual 141, 3) := by decide +kernel
theorem dX12_makeTerm_29 : decode cX12_makeTerm 29 = .ok (.baload, 1) := by decide +kernel
theorem dX12_makeTerm_291 : decode cX12_makeTerm 291 = .ok (.ifCond .eq 81, 3) := by decide +kernel
theorem dX12_makeTerm_294 : decode cX12_makeTerm 294 = .ok (.aload_n 0, 1) := by decide +kernel
theorem dX12_makeTerm_295 : decode cX12_makeTerm 295 = .ok (.dup, 1) := by decide +kernel
theorem dX12_makeTerm_296 : decode cX12_makeTerm 296 = .ok (.getfield 131, 3) := by decide +kernel
theorem dX12_makeTerm_299 : decode cX12_makeTerm 299 = .ok (.iconst 1, 1) := by decide +kernel
theorem dX12_makeTerm_3 : decode cX12_makeTerm 3 = .ok (.imul, 1) := by decide +kernel
theorem dX12_makeTerm_30 : decode cX12_makeTerm 30 = .ok (.bipush 48, 2) := by decide +kernel
theorem dX12_makeTerm_300 : decode cX12_makeTerm 300 = .ok (.iadd, 1) := by decide +kernel
theorem dX12_makeTerm_301 : decode cX12_makeTerm 301 = .ok (.putfield 131, 3) := by decide +kernel
theorem dX12_makeTerm_304 : decode cX12_makeTerm 304 = .ok (.iconst 0, 1) := by decide +kernel
theorem dX12_makeTerm_305 : decode cX12_makeTerm 305 = .ok (.istore 4, 2) := by decide +kernel
theorem dX12_makeTerm_307 : decode cX12_makeTerm 307 = .ok (.iload 4, 2) := by decide +kernel
theorem dX12_makeTerm_309 : decode cX12_makeTerm 309 = .ok (.iload_n 3, 1) := by decide +kernel
theorem dX12_makeTerm_310 : decode cX12_makeTerm 310 = .ok (.iconst 2, 1) := by decide +kernel
theorem dX12_makeTerm_311 : decode cX12_makeTerm 311 = .ok (.idiv, 1) := by decide +kernel
theorem dX12_makeTerm_312 : decode cX12_makeTerm 312 = .ok (.if_icmp .ge 57, 3) := by decide +kernel
theorem dX12_makeTerm_315 : decode cX12_makeTerm 315 = .ok (.aload_n 0, 1) := by decide +kernel
theorem dX12_makeTerm_316 : decode cX12_makeTerm 316 = .ok (.getfield 90, 3) := by decide +kernel
theorem dX12_makeTerm_319 : decode cX12_makeTerm 319 = .ok (.iload_n 2, 1) := by decide +kernel
theorem dX12_makeTerm_32 : decode cX12_makeTerm 32 = .ok (.if_icmp .ne 7, 3) := by decide +kernel
theorem dX12_makeTerm_320 : decode cX12_makeTerm 320 = .ok (.iload 4, 2) := by decide +kernel
theorem dX12_makeTerm_322 : decode cX12_makeTerm 322 = .ok (.iadd, 1) := by decide +kernel
theorem dX12_makeTerm_323 : decode cX12_makeTerm 323 = .ok (.iaload, 1) := by decide +kernel
theorem dX12_makeTerm_324 : decode cX12_makeTerm 324 = .ok (.istore 5, 2) := by decide +kernel
theorem dX12_makeTerm_326 : decode cX12_makeTerm 326 = .ok (.aload_n 0, 1) := by decide +kernel
theorem dX12_makeTerm_327 : decode cX12_makeTerm 327 = .ok (.getfield 90, 3) := by decide +kernel
theorem dX12_makeTerm_330 : decode cX12_makeTerm 330 = .ok (.iload_n 2, 1) := by decide +kernel
theorem dX12_makeTerm_331 : decode cX12_makeTerm 331 = .ok (.iload 4, 2) := by decide +kernel
theorem dX12_makeTerm_333 : decode cX12_makeTerm 333 = .ok (.iadd, 1) := by decide +kernel
theorem dX12_makeTerm_334 : decode cX12_makeTerm 334 = .ok (.aload_n 0, 1) := by decide +kernel
theorem dX12_makeTerm_335 : decode cX12_makeTerm 335 = .ok (.getfield 90, 3) := by decide +kernel
theorem dX12_makeTerm_338 : decode cX12_makeTerm 338 = .ok (.iload_n 2, 1) := by decide +kernel
theorem dX12_makeTerm_339 : decode cX12_makeTerm 339 = .ok (.iload_n 3, 1) := by decide +kernel
theorem dX12_makeTerm_340 : decode cX12_makeTerm 340 = .ok (.iadd, 1) := by decide +kernel
theorem dX12_makeTerm_341 : decode cX12_makeTerm 341 = .ok (.iconst 1, 1) := by decide +kernel
theorem dX12_makeTerm_342 : decode cX12_makeTerm 342 = .ok (.isub, 1) := by decide +kernel
theorem dX12_makeTerm_343 : decode cX12_makeTerm 343 = .ok (.iload 4, 2) := by decide +kernel
theorem dX12_makeTerm_345 : decode cX12_makeTerm 345 = .ok (.isub, 1) := by decide +kernel
theorem dX12_makeTerm_346 : decode cX12_makeTerm 346 = .ok (.iaload, 1) := by decide +kernel
theorem dX12_makeTerm_347 : decode cX12_makeTerm 347 = .ok (.iastore, 1) := by decide +kernel
theorem dX12_makeTerm_348 : decode cX12_makeTerm 348 = .ok (.aload_n 0, 1) := by decide +kernel
theorem dX12_makeTerm_349 : decode cX12_makeTerm 349 = .ok (.getfield 90, 3) := by decide +kernel
theorem dX12_makeTerm_35 : decode cX12_makeTerm 35 = .ok (.iconst 0, 1) := by decide +kernel
theorem dX12_makeTerm_352 : decode cX12_makeTerm 352 = .ok (.iload_n 2, 1) := by decide +kernel
theorem dX12_makeTerm_353 : decode cX12_makeTerm 353 = .ok (.iload_n 3, 1) := by decide +kernel
theorem dX12_makeTerm_354 : decode cX12_makeTerm 354 = .ok (.iadd, 1) := by decide +kernel
theorem dX12_makeTerm_355 : decode cX12_makeTerm 355 = .ok (.iconst 1, 1) := by decide +kernel
theorem dX12_makeTerm_356 : decode cX12_makeTerm 356 = .ok (.isub, 1) := by decide +kernel
theorem dX12_makeTerm_357 : decode cX12_makeTerm 357 = .ok (.iload 4, 2) := by decide +kernel
theorem dX12_makeTerm_359 : decode cX12_makeTerm 359 = .ok (.isub, 1) := by decide +kernel
theorem dX12_makeTerm_36 : decode cX12_makeTerm 36 = .ok (.goto 17, 3) := by decide +kernel
theorem dX12_makeTerm_360 : decode cX12_makeTerm 360 = .ok (.iload 5, 2) := by decide +kernel
theorem dX12_makeTerm_362 : decode cX12_makeTerm 362 = .ok (.iastore, 1) := by decide +kernel
theorem dX12_makeTerm_363 : decode cX12_makeTerm 363 = .ok (.iinc 4 1, 3) := by decide +kernel
theorem dX12_makeTerm_366 : decode cX12_makeTerm 366 = .ok (.goto (-59), 3) := by decide +kernel
theorem dX12_makeTerm_369 : decode cX12_makeTerm 369 = .ok (.goto (-115), 3) := by decide +kernel
theorem dX12_makeTerm_372 : decode cX12_makeTerm 372 = .ok (.aload_n 0, 1) := by decide +kernel
theorem dX12_makeTerm_373 : decode cX12_makeTerm 373 = .ok (.getfield 9, 3) := by decide +kernel
theorem dX12_makeTerm_376 : decode cX12_makeTerm 376 = .ok (.aload_n 0, 1) := by decide +kernel
theorem dX12_makeTerm_377 : decode cX12_makeTerm 377 = .ok (.getfield 131, 3) := by decide +kernel
theorem dX12_makeTerm_380 : decode cX12_makeTerm 380 = .ok (.iconst 1, 1) := by decide +kernel
theorem dX12_makeTerm_381 : decode cX12_makeTerm 381 = .ok (.iadd, 1) := by decide +kernel
theorem dX12_makeTerm_382 : decode cX12_makeTerm 382 = .ok (.baload, 1) := by decide +kernel
theorem dX12_makeTerm_383 : decode cX12_makeTerm 383 = .ok (.bipush 48, 2) := by decide +kernel
theorem dX12_makeTerm_385 : decode cX12_makeTerm 385 = .ok (.isub, 1) := by decide +kernel
theorem dX12_makeTerm_386 : decode cX12_makeTerm 386 = .ok (.istore 4, 2) := by decide +kernel
theorem dX12_makeTerm_388 : decode cX12_makeTerm 388 = .ok (.aload_n 0, 1) := by decide +kernel
theorem dX12_makeTerm_389 : decode cX12_makeTerm 389 = .ok (.dup, 1) := by decide +kernel
theorem dX12_makeTerm_39 : decode cX12_makeTerm 39 = .ok (.iconst 1, 1) := by decide +kernel
theorem dX12_makeTerm_390 : decode cX12_makeTerm 390 = .ok (.getfield 131, 3) := by decide +kernel
theorem dX12_makeTerm_393 : decode cX12_makeTerm 393 = .ok (.iconst 2, 1) := by decide +kernel
theorem dX12_makeTerm_394 : decode cX12_makeTerm 394 = .ok (.iadd, 1) := by decide +kernel
theorem dX12_makeTerm_395 : decode cX12_makeTerm 395 = .ok (.putfield 131, 3) := by decide +kernel
theorem dX12_makeTerm_398 : decode cX12_makeTerm 398 = .ok (.iload_n 3, 1) := by decide +kernel
theorem dX12_makeTerm_399 : decode cX12_makeTerm 399 = .ok (.iload 4, 2) := by decide +kernel
theorem dX12_makeTerm_4 : decode cX12_makeTerm 4 = .ok (.istore_n 2, 1) := by decide +kernel
theorem dX12_makeTerm_40 : decode cX12_makeTerm 40 = .ok (.aload_n 0, 1) := by decide +kernel
theorem dX12_makeTerm_401 : decode cX12_makeTerm 401 = .ok (.imul, 1) := by decide +kernel
theorem dX12_makeTerm_402 : decode cX12_makeTerm 402 = .ok (.bipush 24, 2) := by decide +kernel
theorem dX12_makeTerm_404 : decode cX12_makeTerm 404 = .ok (.if_icmp .le 6, 3) := by decide +kernel
theorem dX12_makeTerm_407 : decode cX12_makeTerm 407 = .ok (.bipush (-100), 2) := by decide +kernel
theorem dX12_makeTerm_409 : decode cX12_makeTerm 409 = .ok (.ireturn, 1) := by decide +kernel
theorem dX12_makeTerm_41 : decode cX12_makeTerm 41 = .ok (.getfield 9, 3) := by decide +kernel
theorem dX12_makeTerm_410 : decode cX12_makeTerm 410 = .ok (.iload_n 3, 1) := by decide +kernel
theorem dX12_makeTerm_411 : decode cX12_makeTerm 411 = .ok (.istore 5, 2) := by decide +kernel
theorem dX12_makeTerm_413 : decode cX12_makeTerm 413 = .ok (.iload 5, 2) := by decide +kernel
theorem dX12_makeTerm_415 : decode cX12_makeTerm 415 = .ok (.iload_n 3, 1) := by decide +kernel
theorem dX12_makeTerm_416 : decode cX12_makeTerm 416 = .ok (.iload 4, 2) := by decide +kernel
theorem dX12_makeTerm_418 : decode cX12_makeTerm 418 = .ok (.imul, 1) := by decide +kernel
theorem dX12_makeTerm_419 : decode cX12_makeTerm 419 = .ok (.if_icmp .ge 29, 3) := by decide +kernel
theorem dX12_makeTerm_422 : decode cX12_makeTerm 422 = .ok (.aload_n 0, 1) := by decide +kernel
theorem dX12_makeTerm_423 : decode cX12_makeTerm 423 = .ok (.getfield 90, 3) := by decide +kernel
theorem dX12_makeTerm_426 : decode cX12_makeTerm 426 = .ok (.iload_n 2, 1) := by decide +kernel
theorem dX12_makeTerm_427 : decode cX12_makeTerm 427 = .ok (.iload 5, 2) := by decide +kernel
theorem dX12_makeTerm_429 : decode cX12_makeTerm 429 = .ok (.iadd, 1) := by decide +kernel
theorem dX12_makeTerm_430 : decode cX12_makeTerm 430 = .ok (.aload_n 0, 1) := by decide +kernel
theorem dX12_makeTerm_431 : decode cX12_makeTerm 431 = .ok (.getfield 90, 3) := by decide +kernel
theorem dX12_makeTerm_434 : decode cX12_makeTerm 434 = .ok (.iload_n 2, 1) := by decide +kernel
theorem dX12_makeTerm_435 : decode cX12_makeTerm 435 = .ok (.iload 5, 2) := by decide +kernel
theorem dX12_makeTerm_437 : decode cX12_makeTerm 437 = .ok (.iadd, 1) := by decide +kernel
theorem dX12_makeTerm_438 : decode cX12_makeTerm 438 = .ok (.iload_n 3, 1) := by decide +kernel
theorem dX12_makeTerm_439 : decode cX12_makeTerm 439 = .ok (.isub, 1) := by decide +kernel
theorem dX12_makeTerm_44 : decode cX12_makeTerm 44 = .ok (.aload_n 0, 1) := by decide +kernel
theorem dX12_makeTerm_440 : decode cX12_makeTerm 440 = .ok (.iaload, 1) := by decide +kernel
theorem dX12_makeTerm_441 : decode cX12_makeTerm 441 = .ok (.iastore, 1) := by decide +kernel
theorem dX12_makeTerm_442 : decode cX12_makeTerm 442 = .ok (.iinc 5 1, 3) := by decide +kernel
theorem dX12_makeTerm_445 : decode cX12_makeTerm 445 = .ok (.goto (-32), 3) := by decide +kernel
theorem dX12_makeTerm_448 : decode cX12_makeTerm 448 = .ok (.aload_n 0, 1) := by decide +kernel
theorem dX12_makeTerm_449 : decode cX12_makeTerm 449 = .ok (.getfield 93, 3) := by decide +kernel
theorem dX12_makeTerm_45 : decode cX12_makeTerm 45 = .ok (.getfield 131, 3) := by decide +kernel
theorem dX12_makeTerm_452 : decode cX12_makeTerm 452 = .ok (.iload_n 1, 1) := by decide +kernel
theorem dX12_makeTerm_453 : decode cX12_makeTerm 453 = .ok (.iload_n 3, 1) := by decide +kernel
theorem dX12_makeTerm_454 : decode cX12_makeTerm 454 = .ok (.iload 4, 2) := by decide +kernel
theorem dX12_makeTerm_456 : decode cX12_makeTerm 456 = .ok (.imul, 1) := by decide +kernel
theorem dX12_makeTerm_457 : decode cX12_makeTerm 457 = .ok (.iastore, 1) := by decide +kernel
theorem dX12_makeTerm_458 : decode cX12_makeTerm 458 = .ok (.goto (-204), 3) := by decide +kernel
theorem dX12_makeTerm_461 : decode cX12_makeTerm 461 = .ok (.iconst 0, 1) := by decide +kernel
theorem dX12_makeTerm_462 : decode cX12_makeTerm 462 = .ok (.ireturn, 1) := by decide +kernel
theorem dX12_makeTerm_48 : decode cX12_makeTerm 48 = .ok (.baload, 1) := by decide +kernel
theorem dX12_makeTerm_49 : decode cX12_makeTerm 49 = .ok (.bipush 48, 2) := by decide +kernel
theorem dX12_makeTerm_5 : decode cX12_makeTerm 5 = .ok (.aload_n 0, 1) := by decide +kernel
theorem dX12_makeTerm_51 : decode cX12_makeTerm 51 = .ok (.isub, 1) := by decide +kernel
theorem dX12_makeTerm_52 : decode cX12_makeTerm 52 = .ok (.ishl, 1) := by decide +kernel
theorem dX12_makeTerm_53 : decode cX12_makeTerm 53 = .ok (.iastore, 1) := by decide +kernel
theorem dX12_makeTerm_54 : decode cX12_makeTerm 54 = .ok (.aload_n 0, 1) := by decide +kernel
theorem dX12_makeTerm_55 : decode cX12_makeTerm 55 = .ok (.getfield 93, 3) := by decide +kernel
theorem dX12_makeTerm_58 : decode cX12_makeTerm 58 = .ok (.iload_n 1, 1) := by decide +kernel
theorem dX12_makeTerm_59 : decode cX12_makeTerm 59 = .ok (.iconst 1, 1) := by decide +kernel
theorem dX12_makeTerm_6 : decode cX12_makeTerm 6 = .ok (.bipush 48, 2) := by decide +kernel
theorem dX12_makeTerm_60 : decode cX12_makeTerm 60 = .ok (.iastore, 1) := by decide +kernel
theorem dX12_makeTerm_61 : decode cX12_makeTerm 61 = .ok (.aload_n 0, 1) := by decide +kernel
theorem dX12_makeTerm_62 : decode cX12_makeTerm 62 = .ok (.dup, 1) := by decide +kernel
theorem dX12_makeTerm_63 : decode cX12_makeTerm 63 = .ok (.getfield 131, 3) := by decide +kernel
theorem dX12_makeTerm_66 : decode cX12_makeTerm 66 = .ok (.iconst 1, 1) := by decide +kernel
theorem dX12_makeTerm_67 : decode cX12_makeTerm 67 = .ok (.iadd, 1) := by decide +kernel
theorem dX12_makeTerm_68 : decode cX12_makeTerm 68 = .ok (.putfield 131, 3) := by decide +kernel
theorem dX12_makeTerm_71 : decode cX12_makeTerm 71 = .ok (.goto 183, 3) := by decide +kernel
theorem dX12_makeTerm_74 : decode cX12_makeTerm 74 = .ok (.aload_n 0, 1) := by decide +kernel
theorem dX12_makeTerm_75 : decode cX12_makeTerm 75 = .ok (.bipush 91, 2) := by decide +kernel
theorem dX12_makeTerm_77 : decode cX12_makeTerm 77 = .ok (.bipush 91, 2) := by decide +kernel
theorem dX12_makeTerm_79 : decode cX12_makeTerm 79 = .ok (.invokevirtual 141, 3) := by decide +kernel
theorem dX12_makeTerm_8 : decode cX12_makeTerm 8 = .ok (.bipush 57, 2) := by decide +kernel
theorem dX12_makeTerm_82 : decode cX12_makeTerm 82 = .ok (.ifCond .eq 83, 3) := by decide +kernel
theorem dX12_makeTerm_85 : decode cX12_makeTerm 85 = .ok (.aload_n 0, 1) := by decide +kernel
theorem dX12_makeTerm_86 : decode cX12_makeTerm 86 = .ok (.dup, 1) := by decide +kernel
theorem dX12_makeTerm_87 : decode cX12_makeTerm 87 = .ok (.getfield 131, 3) := by decide +kernel
theorem dX12_makeTerm_90 : decode cX12_makeTerm 90 = .ok (.iconst 1, 1) := by decide +kernel
theorem dX12_makeTerm_91 : decode cX12_makeTerm 91 = .ok (.iadd, 1) := by decide +kernel
theorem dX12_makeTerm_92 : decode cX12_makeTerm 92 = .ok (.putfield 131, 3) := by decide +kernel
theorem dX12_makeTerm_95 : decode cX12_makeTerm 95 = .ok (.iconst 0, 1) := by decide +kernel
theorem dX12_makeTerm_96 : decode cX12_makeTerm 96 = .ok (.istore_n 3, 1) := by decide +kernel
theorem dX12_makeTerm_97 : decode cX12_makeTerm 97 = .ok (.aload_n 0, 1) := by decide +kernel
theorem dX12_makeTerm_98 : decode cX12_makeTerm 98 = .ok (.bipush 49, 2) := by decide +kernel
theorem dX12_skipAtom_0 : decode cX12_skipAtom 0 = .ok (.aload_n 0, 1) := by decide +kernel
theorem dX12_skipAtom_1 : decode cX12_skipAtom 1 = .ok (.bipush 48, 2) := by decide +kernel
theorem dX12_skipAtom_100 : decode cX12_skipAtom 100 = .ok (.aload_n 0, 1) := by decide +kernel
theorem dX12_skipAtom_101 : decode cX12_skipAtom 101 = .ok (.dup, 1) := by decide +kernel
theorem dX12_skipAtom_102 : decode cX12_skipAtom 102 = .ok (.getfield 131, 3) := by decide +kernel
theorem dX12_skipAtom_105 : decode cX12_skipAtom 105 = .ok (.iconst 1, 1) := by decide +kernel
theorem dX12_skipAtom_106 : decode cX12_skipAtom 106 = .ok (.iadd, 1) := by decide +kernel
theorem dX12_skipAtom_107 : decode cX12_skipAtom 107 = .ok (.putfield 131, 3) := by decide +kernel
theorem dX12_skipAtom_11 : decode cX12_skipAtom 11 = .ok (.aload_n 0, 1) := by decide +kernel
theorem dX12_skipAtom_110 : decode cX12_skipAtom 110 = .ok (.iconst 1, 1) := by decide +kernel
theorem dX12_skipAtom_111 : decode cX12_skipAtom 111 = .ok (.ireturn, 1) := by decide +kernel
theorem dX12_skipAtom_112 : decode cX12_skipAtom 112 = .ok (.aload_n 0, 1) := by decide +kernel
theorem dX12_skipAtom_113 : decode cX12_skipAtom 113 = .ok (.bipush 40, 2) := by decide +kernel
theorem dX12_skipAtom_115 : decode cX12_skipAtom 115 = .ok (.bipush 40, 2) := by decide +kernel
theorem dX12_skipAtom_117 : decode cX12_skipAtom 117 = .ok (.invokevirtual 141, 3) := by decide +kernel
theorem dX12_skipAtom_12 : decode cX12_skipAtom 12 = .ok (.dup, 1) := by decide +kernel
theorem dX12_skipAtom_120 : decode cX12_skipAtom 120 = .ok (.ifCond .eq 8, 3) := by decide +kernel
theorem dX12_skipAtom_123 : decode cX12_skipAtom 123 = .ok (.iload_n 1, 1) := by decide +kernel
theorem dX12_skipAtom_124 : decode cX12_skipAtom 124 = .ok (.iconst 5, 1) := by decide +kernel
theorem dX12_skipAtom_125 : decode cX12_skipAtom 125 = .ok (.if_icmp .ne 8, 3) := by decide +kernel
theorem dX12_skipAtom_128 : decode cX12_skipAtom 128 = .ok (.aload_n 0, 1) := by decide +kernel
theorem dX12_skipAtom_129 : decode cX12_skipAtom 129 = .ok (.invokevirtual 145, 3) := by decide +kernel
theorem dX12_skipAtom_13 : decode cX12_skipAtom 13 = .ok (.getfield 131, 3) := by decide +kernel
theorem dX12_skipAtom_132 : decode cX12_skipAtom 132 = .ok (.ireturn, 1) := by decide +kernel
theorem dX12_skipAtom_133 : decode cX12_skipAtom 133 = .ok (.aload_n 0, 1) := by decide +kernel
theorem dX12_skipAtom_134 : decode cX12_skipAtom 134 = .ok (.dup, 1) := by decide +kernel
theorem dX12_skipAtom_135 : decode cX12_skipAtom 135 = .ok (.getfield 131, 3) := by decide +kernel
theorem dX12_skipAtom_138 : decode cX12_skipAtom 138 = .ok (.iconst 1, 1) := by decide +kernel
theorem dX12_skipAtom_139 : decode cX12_skipAtom 139 = .ok (.iadd, 1) := by decide +kernel
theorem dX12_skipAtom_140 : decode cX12_skipAtom 140 = .ok (.putfield 131, 3) := by decide +kernel
theorem dX12_skipAtom_143 : decode cX12_skipAtom 143 = .ok (.aload_n 0, 1) := by decide +kernel
theorem dX12_skipAtom_144 : decode cX12_skipAtom 144 = .ok (.iload_n 1, 1) := by decide +kernel
theorem dX12_skipAtom_145 : decode cX12_skipAtom 145 = .ok (.iconst 1, 1) := by decide +kernel
theorem dX12_skipAtom_146 : decode cX12_skipAtom 146 = .ok (.iadd, 1) := by decide +kernel
theorem dX12_skipAtom_147 : decode cX12_skipAtom 147 = .ok (.invokevirtual 152, 3) := by decide +kernel
theorem dX12_skipAtom_150 : decode cX12_skipAtom 150 = .ok (.ifCond .ne 5, 3) := by decide +kernel
theorem dX12_skipAtom_153 : decode cX12_skipAtom 153 = .ok (.iconst 0, 1) := by decide +kernel
theorem dX12_skipAtom_154 : decode cX12_skipAtom 154 = .ok (.ireturn, 1) := by decide +kernel
theorem dX12_skipAtom_155 : decode cX12_skipAtom 155 = .ok (.aload_n 0, 1) := by decide +kernel
theorem dX12_skipAtom_156 : decode cX12_skipAtom 156 = .ok (.bipush 41, 2) := by decide +kernel
theorem dX12_skipAtom_158 : decode cX12_skipAtom 158 = .ok (.bipush 41, 2) := by decide +kernel
theorem dX12_skipAtom_16 : decode cX12_skipAtom 16 = .ok (.iconst 1, 1) := by decide +kernel
theorem dX12_skipAtom_160 : decode cX12_skipAtom 160 = .ok (.invokevirtual 141, 3) := by decide +kernel
theorem dX12_skipAtom_163 : decode cX12_skipAtom 163 = .ok (.ifCond .ne 8, 3) := by decide +kernel
theorem dX12_skipAtom_166 : decode cX12_skipAtom 166 = .ok (.aload_n 0, 1) := by decide +kernel
theorem dX12_skipAtom_167 : decode cX12_skipAtom 167 = .ok (.invokevirtual 145, 3) := by decide +kernel
theorem dX12_skipAtom_17 : decode cX12_skipAtom 17 = .ok (.iadd, 1) := by decide +kernel
theorem dX12_skipAtom_170 : decode cX12_skipAtom 170 = .ok (.ireturn, 1) := by decide +kernel
theorem dX12_skipAtom_171 : decode cX12_skipAtom 171 = .ok (.aload_n 0, 1) := by decide +kernel
theorem dX12_skipAtom_172 : decode cX12_skipAtom 172 = .ok (.dup, 1) := by decide +kernel
theorem dX12_skipAtom_173 : decode cX12_skipAtom 173 = .ok (.getfield 131, 3) := by decide +kernel
theorem dX12_skipAtom_176 : decode cX12_skipAtom 176 = .ok (.iconst 1, 1) := by decide +kernel
theorem dX12_skipAtom_177 : decode cX12_skipAtom 177 = .ok (.iadd, 1) := by decide +kernel
theorem dX12_skipAtom_178 : decode cX12_skipAtom 178 = .ok (.putfield 131, 3) := by decide +kernel
theorem dX12_skipAtom_18 : decode cX12_skipAtom 18 = .ok (.putfield 131, 3) := by decide +kernel
theorem dX12_skipAtom_181 : decode cX12_skipAtom 181 = .ok (.iconst 1, 1) := by decide +kernel
theorem dX12_skipAtom_182 : decode cX12_skipAtom 182 = .ok (.ireturn, 1) := by decide +kernel
theorem dX12_skipAtom_21 : decode cX12_skipAtom 21 = .ok (.iconst 1, 1) := by decide +kernel
theorem dX12_skipAtom_22 : decode cX12_skipAtom 22 = .ok (.ireturn, 1) := by decide +kernel
theorem dX12_skipAtom_23 : decode cX12_skipAtom 23 = .ok (.aload_n 0, 1) := by decide +kernel
theorem dX12_skipAtom_24 : decode cX12_skipAtom 24 = .ok (.bipush 91, 2) := by decide +kernel
theorem dX12_skipAtom_26 : decode cX12_skipAtom 26 = .ok (.bipush 91, 2) := by decide +kernel
theorem dX12_skipAtom_28 : decode cX12_skipAtom 28 = .ok (.invokevirtual 141, 3) := by decide +kernel
theorem dX12_skipAtom_3 : decode cX12_skipAtom 3 = .ok (.bipush 57, 2) := by decide +kernel
theorem dX12_skipAtom_31 : decode cX12_skipAtom 31 = .ok (.ifCond .eq 81, 3) := by decide +kernel
theorem dX12_skipAtom_34 : decode cX12_skipAtom 34 = .ok (.aload_n 0, 1) := by decide +kernel
theorem dX12_skipAtom_35 : decode cX12_skipAtom 35 = .ok (.dup, 1) := by decide +kernel
theorem dX12_skipAtom_36 : decode cX12_skipAtom 36 = .ok (.getfield 131, 3) := by decide +kernel
theorem dX12_skipAtom_39 : decode cX12_skipAtom 39 = .ok (.iconst 1, 1) := by decide +kernel
theorem dX12_skipAtom_40 : decode cX12_skipAtom 40 = .ok (.iadd, 1) := by decide +kernel
theorem dX12_skipAtom_41 : decode cX12_skipAtom 41 = .ok (.putfield 131, 3) := by decide +kernel
theorem dX12_skipAtom_44 : decode cX12_skipAtom 44 = .ok (.aload_n 0, 1) := by decide +kernel
theorem dX12_skipAtom_45 : decode cX12_skipAtom 45 = .ok (.bipush 49, 2) := by decide +kernel
theorem dX12_skipAtom_47 : decode cX12_skipAtom 47 = .ok (.bipush 57, 2) := by decide +kernel
theorem dX12_skipAtom_49 : decode cX12_skipAtom 49 = .ok (.invokevirtual 141, 3) := by decide +kernel
theorem dX12_skipAtom_5 : decode cX12_skipAtom 5 = .ok (.invokevirtual 141, 3) := by decide +kernel
theorem dX12_skipAtom_52 : decode cX12_skipAtom 52 = .ok (.ifCond .ne 8, 3) := by decide +kernel
theorem dX12_skipAtom_55 : decode cX12_skipAtom 55 = .ok (.aload_n 0, 1) := by decide +kernel
theorem dX12_skipAtom_56 : decode cX12_skipAtom 56 = .ok (.invokevirtual 145, 3) := by decide +kernel
theorem dX12_skipAtom_59 : decode cX12_skipAtom 59 = .ok (.ireturn, 1) := by decide +kernel
theorem dX12_skipAtom_60 : decode cX12_skipAtom 60 = .ok (.aload_n 0, 1) := by decide +kernel
theorem dX12_skipAtom_61 : decode cX12_skipAtom 61 = .ok (.bipush 49, 2) := by decide +kernel
theorem dX12_skipAtom_63 : decode cX12_skipAtom 63 = .ok (.bipush 57, 2) := by decide +kernel
theorem dX12_skipAtom_65 : decode cX12_skipAtom 65 = .ok (.invokevirtual 141, 3) := by decide +kernel
theorem dX12_skipAtom_68 : decode cX12_skipAtom 68 = .ok (.ifCond .eq 16, 3) := by decide +kernel
theorem dX12_skipAtom_71 : decode cX12_skipAtom 71 = .ok (.aload_n 0, 1) := by decide +kernel
theorem dX12_skipAtom_72 : decode cX12_skipAtom 72 = .ok (.dup, 1) := by decide +kernel
theorem dX12_skipAtom_73 : decode cX12_skipAtom 73 = .ok (.getfield 131, 3) := by decide +kernel
theorem dX12_skipAtom_76 : decode cX12_skipAtom 76 = .ok (.iconst 1, 1) := by decide +kernel
theorem dX12_skipAtom_77 : decode cX12_skipAtom 77 = .ok (.iadd, 1) := by decide +kernel
theorem dX12_skipAtom_78 : decode cX12_skipAtom 78 = .ok (.putfield 131, 3) := by decide +kernel
theorem dX12_skipAtom_8 : decode cX12_skipAtom 8 = .ok (.ifCond .eq 15, 3) := by decide +kernel
theorem dX12_skipAtom_81 : decode cX12_skipAtom 81 = .ok (.goto (-21), 3) := by decide +kernel
theorem dX12_skipAtom_84 : decode cX12_skipAtom 84 = .ok (.aload_n 0, 1) := by decide +kernel
theorem dX12_skipAtom_85 : decode cX12_skipAtom 85 = .ok (.bipush 93, 2) := by decide +kernel
theorem dX12_skipAtom_87 : decode cX12_skipAtom 87 = .ok (.bipush 93, 2) := by decide +kernel
theorem dX12_skipAtom_89 : decode cX12_skipAtom 89 = .ok (.invokevirtual 141, 3) := by decide +kernel
theorem dX12_skipAtom_92 : decode cX12_skipAtom 92 = .ok (.ifCond .ne 8, 3) := by decide +kernel
theorem dX12_skipAtom_95 : decode cX12_skipAtom 95 = .ok (.aload_n 0, 1) := by decide +kernel
theorem dX12_skipAtom_96 : decode cX12_skipAtom 96 = .ok (.invokevirtual 145, 3) := by decide +kernel
theorem dX12_skipAtom_99 : decode cX12_skipAtom 99 = .ok (.ireturn, 1) := by decide +kernel
theorem dX12_skipRow_0 : decode cX12_skipRow 0 = .ok (.aload_n 0, 1) := by decide +kernel
theorem dX12_skipRow_1 : decode cX12_skipRow 1 = .ok (.iload_n 1, 1) := by decide +kernel
theorem dX12_skipRow_10 : decode cX12_skipRow 10 = .ok (.aload_n 0, 1) := by decide +kernel
theorem dX12_skipRow_100 : decode cX12_skipRow 100 = .ok (.aload_n 0, 1) := by decide +kernel
theorem dX12_skipRow_101 : decode cX12_skipRow 101 = .ok (.iload_n 1, 1) := by decide +kernel
theorem dX12_skipRow_102 : decode cX12_skipRow 102 = .ok (.invokevirtual 137, 3) := by decide +kernel
theorem dX12_skipRow_105 : decode cX12_skipRow 105 = .ok (.ifCond .ne (-95), 3) := by decide +kernel
theorem dX12_skipRow_108 : decode cX12_skipRow 108 = .ok (.iconst 0, 1) := by decide +kernel
theorem dX12_skipRow_109 : decode cX12_skipRow 109 = .ok (.ireturn, 1) := by decide +kernel
theorem dX12_skipRow_11 : decode cX12_skipRow 11 = .ok (.bipush 47, 2) := by decide +kernel
theorem dX12_skipRow_110 : decode cX12_skipRow 110 = .ok (.iconst 1, 1) := by decide +kernel
theorem dX12_skipRow_111 : decode cX12_skipRow 111 = .ok (.ireturn, 1) := by decide +kernel
theorem dX12_skipRow_13 : decode cX12_skipRow 13 = .ok (.bipush 47, 2) := by decide +kernel
theorem dX12_skipRow_15 : decode cX12_skipRow 15 = .ok (.invokevirtual 141, 3) := by decide +kernel
theorem dX12_skipRow_18 : decode cX12_skipRow 18 = .ok (.ifCond .eq 49, 3) := by decide +kernel
theorem dX12_skipRow_2 : decode cX12_skipRow 2 = .ok (.invokevirtual 137, 3) := by decide +kernel
theorem dX12_skipRow_21 : decode cX12_skipRow 21 = .ok (.aload_n 0, 1) := by decide +kernel
theorem dX12_skipRow_22 : decode cX12_skipRow 22 = .ok (.dup, 1) := by decide +kernel
theorem dX12_skipRow_23 : decode cX12_skipRow 23 = .ok (.getfield 131, 3) := by decide +kernel
theorem dX12_skipRow_26 : decode cX12_skipRow 26 = .ok (.iconst 1, 1) := by decide +kernel
theorem dX12_skipRow_27 : decode cX12_skipRow 27 = .ok (.iadd, 1) := by decide +kernel
theorem dX12_skipRow_28 : decode cX12_skipRow 28 = .ok (.putfield 131, 3) := by decide +kernel
theorem dX12_skipRow_31 : decode cX12_skipRow 31 = .ok (.aload_n 0, 1) := by decide +kernel
theorem dX12_skipRow_32 : decode cX12_skipRow 32 = .ok (.bipush 49, 2) := by decide +kernel
theorem dX12_skipRow_34 : decode cX12_skipRow 34 = .ok (.bipush 57, 2) := by decide +kernel
theorem dX12_skipRow_36 : decode cX12_skipRow 36 = .ok (.invokevirtual 141, 3) := by decide +kernel
theorem dX12_skipRow_39 : decode cX12_skipRow 39 = .ok (.ifCond .ne 8, 3) := by decide +kernel
theorem dX12_skipRow_42 : decode cX12_skipRow 42 = .ok (.aload_n 0, 1) := by decide +kernel
theorem dX12_skipRow_43 : decode cX12_skipRow 43 = .ok (.invokevirtual 145, 3) := by decide +kernel
theorem dX12_skipRow_46 : decode cX12_skipRow 46 = .ok (.ireturn, 1) := by decide +kernel
theorem dX12_skipRow_47 : decode cX12_skipRow 47 = .ok (.aload_n 0, 1) := by decide +kernel
theorem dX12_skipRow_48 : decode cX12_skipRow 48 = .ok (.dup, 1) := by decide +kernel
theorem dX12_skipRow_49 : decode cX12_skipRow 49 = .ok (.getfield 131, 3) := by decide +kernel
theorem dX12_skipRow_5 : decode cX12_skipRow 5 = .ok (.ifCond .ne 5, 3) := by decide +kernel
theorem dX12_skipRow_52 : decode cX12_skipRow 52 = .ok (.iconst 1, 1) := by decide +kernel
theorem dX12_skipRow_53 : decode cX12_skipRow 53 = .ok (.iadd, 1) := by decide +kernel
theorem dX12_skipRow_54 : decode cX12_skipRow 54 = .ok (.putfield 131, 3) := by decide +kernel
theorem dX12_skipRow_57 : decode cX12_skipRow 57 = .ok (.aload_n 0, 1) := by decide +kernel
theorem dX12_skipRow_58 : decode cX12_skipRow 58 = .ok (.iload_n 1, 1) := by decide +kernel
theorem dX12_skipRow_59 : decode cX12_skipRow 59 = .ok (.invokevirtual 137, 3) := by decide +kernel
theorem dX12_skipRow_62 : decode cX12_skipRow 62 = .ok (.ifCond .ne (-52), 3) := by decide +kernel
theorem dX12_skipRow_65 : decode cX12_skipRow 65 = .ok (.iconst 0, 1) := by decide +kernel
theorem dX12_skipRow_66 : decode cX12_skipRow 66 = .ok (.ireturn, 1) := by decide +kernel
theorem dX12_skipRow_67 : decode cX12_skipRow 67 = .ok (.aload_n 0, 1) := by decide +kernel
theorem dX12_skipRow_68 : decode cX12_skipRow 68 = .ok (.bipush 48, 2) := by decide +kernel
theorem dX12_skipRow_70 : decode cX12_skipRow 70 = .ok (.bipush 57, 2) := by decide +kernel
theorem dX12_skipRow_72 : decode cX12_skipRow 72 = .ok (.invokevirtual 141, 3) := by decide +kernel
theorem dX12_skipRow_75 : decode cX12_skipRow 75 = .ok (.ifCond .ne 25, 3) := by decide +kernel
theorem dX12_skipRow_78 : decode cX12_skipRow 78 = .ok (.aload_n 0, 1) := by decide +kernel
theorem dX12_skipRow_79 : decode cX12_skipRow 79 = .ok (.bipush 91, 2) := by decide +kernel
theorem dX12_skipRow_8 : decode cX12_skipRow 8 = .ok (.iconst 0, 1) := by decide +kernel
theorem dX12_skipRow_81 : decode cX12_skipRow 81 = .ok (.bipush 91, 2) := by decide +kernel
theorem dX12_skipRow_83 : decode cX12_skipRow 83 = .ok (.invokevirtual 141, 3) := by decide +kernel
theorem dX12_skipRow_86 : decode cX12_skipRow 86 = .ok (.ifCond .ne 14, 3) := by decide +kernel
theorem dX12_skipRow_89 : decode cX12_skipRow 89 = .ok (.aload_n 0, 1) := by decide +kernel
theorem dX12_skipRow_9 : decode cX12_skipRow 9 = .ok (.ireturn, 1) := by decide +kernel
theorem dX12_skipRow_90 : decode cX12_skipRow 90 = .ok (.bipush 40, 2) := by decide +kernel
theorem dX12_skipRow_92 : decode cX12_skipRow 92 = .ok (.bipush 40, 2) := by decide +kernel
theorem dX12_skipRow_94 : decode cX12_skipRow 94 = .ok (.invokevirtual 141, 3) := by decide +kernel
theorem dX12_skipRow_97 : decode cX12_skipRow 97 = .ok (.ifCond .eq 13, 3) := by decide +kernel
theorem dX12_skipTerm_0 : decode cX12_skipTerm 0 = .ok (.aload_n 0, 1) := by decide +kernel
theorem dX12_skipTerm_1 : decode cX12_skipTerm 1 = .ok (.iload_n 1, 1) := by decide +kernel
theorem dX12_skipTerm_10 : decode cX12_skipTerm 10 = .ok (.aload_n 0, 1) := by decide +kernel
theorem dX12_skipTerm_11 : decode cX12_skipTerm 11 = .ok (.bipush 126, 2) := by decide +kernel
theorem dX12_skipTerm_13 : decode cX12_skipTerm 13 = .ok (.bipush 126, 2) := by decide +kernel
theorem dX12_skipTerm_15 : decode cX12_skipTerm 15 = .ok (.invokevirtual 141, 3) := by decide +kernel
theorem dX12_skipTerm_18 : decode cX12_skipTerm 18 = .ok (.ifCond .eq 16, 3) := by decide +kernel
theorem dX12_skipTerm_2 : decode cX12_skipTerm 2 = .ok (.invokevirtual 149, 3) := by decide +kernel
theorem dX12_skipTerm_21 : decode cX12_skipTerm 21 = .ok (.aload_n 0, 1) := by decide +kernel
theorem dX12_skipTerm_22 : decode cX12_skipTerm 22 = .ok (.dup, 1) := by decide +kernel
theorem dX12_skipTerm_23 : decode cX12_skipTerm 23 = .ok (.getfield 131, 3) := by decide +kernel
theorem dX12_skipTerm_26 : decode cX12_skipTerm 26 = .ok (.iconst 1, 1) := by decide +kernel
theorem dX12_skipTerm_27 : decode cX12_skipTerm 27 = .ok (.iadd, 1) := by decide +kernel
theorem dX12_skipTerm_28 : decode cX12_skipTerm 28 = .ok (.putfield 131, 3) := by decide +kernel
theorem dX12_skipTerm_31 : decode cX12_skipTerm 31 = .ok (.goto (-21), 3) := by decide +kernel
theorem dX12_skipTerm_34 : decode cX12_skipTerm 34 = .ok (.aload_n 0, 1) := by decide +kernel
theorem dX12_skipTerm_35 : decode cX12_skipTerm 35 = .ok (.bipush 42, 2) := by decide +kernel
theorem dX12_skipTerm_37 : decode cX12_skipTerm 37 = .ok (.bipush 42, 2) := by decide +kernel
theorem dX12_skipTerm_39 : decode cX12_skipTerm 39 = .ok (.invokevirtual 141, 3) := by decide +kernel
theorem dX12_skipTerm_42 : decode cX12_skipTerm 42 = .ok (.ifCond .eq 42, 3) := by decide +kernel
theorem dX12_skipTerm_45 : decode cX12_skipTerm 45 = .ok (.aload_n 0, 1) := by decide +kernel
theorem dX12_skipTerm_46 : decode cX12_skipTerm 46 = .ok (.dup, 1) := by decide +kernel
theorem dX12_skipTerm_47 : decode cX12_skipTerm 47 = .ok (.getfield 131, 3) := by decide +kernel
theorem dX12_skipTerm_5 : decode cX12_skipTerm 5 = .ok (.ifCond .ne 5, 3) := by decide +kernel
theorem dX12_skipTerm_50 : decode cX12_skipTerm 50 = .ok (.iconst 1, 1) := by decide +kernel
theorem dX12_skipTerm_51 : decode cX12_skipTerm 51 = .ok (.iadd, 1) := by decide +kernel
theorem dX12_skipTerm_52 : decode cX12_skipTerm 52 = .ok (.putfield 131, 3) := by decide +kernel
theorem dX12_skipTerm_55 : decode cX12_skipTerm 55 = .ok (.aload_n 0, 1) := by decide +kernel
theorem dX12_skipTerm_56 : decode cX12_skipTerm 56 = .ok (.bipush 50, 2) := by decide +kernel
theorem dX12_skipTerm_58 : decode cX12_skipTerm 58 = .ok (.bipush 57, 2) := by decide +kernel
theorem dX12_skipTerm_60 : decode cX12_skipTerm 60 = .ok (.invokevirtual 141, 3) := by decide +kernel
theorem dX12_skipTerm_63 : decode cX12_skipTerm 63 = .ok (.ifCond .ne 8, 3) := by decide +kernel
theorem dX12_skipTerm_66 : decode cX12_skipTerm 66 = .ok (.aload_n 0, 1) := by decide +kernel
theorem dX12_skipTerm_67 : decode cX12_skipTerm 67 = .ok (.invokevirtual 145, 3) := by decide +kernel
theorem dX12_skipTerm_70 : decode cX12_skipTerm 70 = .ok (.ireturn, 1) := by decide +kernel
theorem dX12_skipTerm_71 : decode cX12_skipTerm 71 = .ok (.aload_n 0, 1) := by decide +kernel
theorem dX12_skipTerm_72 : decode cX12_skipTerm 72 = .ok (.dup, 1) := by decide +kernel
theorem dX12_skipTerm_73 : decode cX12_skipTerm 73 = .ok (.getfield 131, 3) := by decide +kernel
theorem dX12_skipTerm_76 : decode cX12_skipTerm 76 = .ok (.iconst 1, 1) := by decide +kernel
theorem dX12_skipTerm_77 : decode cX12_skipTerm 77 = .ok (.iadd, 1) := by decide +kernel
theorem dX12_skipTerm_78 : decode cX12_skipTerm 78 = .ok (.putfield 131, 3) := by decide +kernel
theorem dX12_skipTerm_8 : decode cX12_skipTerm 8 = .ok (.iconst 0, 1) := by decide +kernel
theorem dX12_skipTerm_81 : decode cX12_skipTerm 81 = .ok (.goto (-71), 3) := by decide +kernel
theorem dX12_skipTerm_84 : decode cX12_skipTerm 84 = .ok (.iconst 1, 1) := by decide +kernel
theorem dX12_skipTerm_85 : decode cX12_skipTerm 85 = .ok (.ireturn, 1) := by decide +kernel
theorem dX12_skipTerm_9 : decode cX12_skipTerm 9 = .ok (.ireturn, 1) := by decide +kernel
theorem dm_X12_skipTerm : yX12_skipTerm.cls = RX12 ∧ yX12_skipTerm.cls ≠ "java/lang/invoke/MethodHandle" ∧ yX12_skipTerm.cls ≠ "java/lang/invoke/VarHandle" ∧ (parseMethodDescriptor yX12_skipTerm.desc).map (fun d => d.parameters.length) = some 1 := by decide +kernel
theorem dm_X12_has : yX12_has.cls = RX12 ∧ yX12_has.cls ≠ "java/lang/invoke/MethodHandle" ∧ yX12_has.cls ≠ "java/lang/invoke/VarHandle" ∧ (parseMethodDescriptor yX12_has.desc).map (fun d => d.parameters.length) = some 2 := by decide +kernel
theorem dm_X12_isWrong : yX12_isWrong.cls = RX12 ∧ yX12_isWrong.cls ≠ "java/lang/invoke/MethodHandle" ∧ yX12_isWrong.cls ≠ "java/lang/invoke/VarHandle" ∧ (parseMethodDescriptor yX12_isWrong.desc).map (fun d => d.parameters.length) = some 0 := by decide +kernel
theorem dm_X12_skipAtom : yX12_skipAtom.cls = RX12 ∧ yX12_skipAtom.cls ≠ "java/lang/invoke/MethodHandle" ∧ yX12_skipAtom.cls ≠ "java/lang/invoke/VarHandle" ∧ (parseMethodDescriptor yX12_skipAtom.desc).map (fun d => d.parameters.length) = some 1 := by decide +kernel
theorem dm_X12_skipRow : yX12_skipRow.cls = RX12 ∧ yX12_skipRow.cls ≠ "java/lang/invoke/MethodHandle" ∧ yX12_skipRow.cls ≠ "java/lang/invoke/VarHandle" ∧ (parseMethodDescriptor yX12_skipRow.desc).map (fun d => d.parameters.length) = some 1 := by decide +kernel
theorem dm_X12_makeTerm : yX12_makeTerm.cls = RX12 ∧ yX12_makeTerm.cls ≠ "java/lang/invoke/MethodHandle" ∧ yX12_makeTerm.cls ≠ "java/lang/invoke/VarHandle" ∧ (parseMethodDescriptor yX12_makeTerm.desc).map (fun d => d.parameters.length) = some 1 := by decide +kernel
theorem dm_X12_makeRow : yX12_makeRow.cls = RX12 ∧ yX12_makeRow.cls ≠ "java/lang/invoke/MethodHandle" ∧ yX12_makeRow.cls ≠ "java/lang/invoke/VarHandle" ∧ (parseMethodDescriptor yX12_makeRow.desc).map (fun d => d.parameters.length) = some 1 := by decide +kernel
set_option maxRecDepth 100000 in
def wR_isWrong  (M : zM) (Q : Int → zM → Prop) : Prop := ((sI (M 0 37)) ≠ (-1) → Q 0 M) ∧ ((sI (M 0 37)) = (-1) → (∀ M2 : zM, M2 = zup M 0 37 (M 0 36) → Q 0 M2))
set_option maxHeartbeats 4000000 in
set_option maxRecDepth 100000 in
theorem cR_isWrong (l : Launch) (D : va_G) (dA : Nat → ClassId) (b : Nat) (M : zM)   (Q : Int → zM → Prop) (h : wR_isWrong  M Q) : Met l yX12_isWrong (.code yX12_isWrong cX12_isWrong 1 (some .boolean) :: zt) (z_rm 0) (va_Pc [.ref (b + 0)] (wPre D dA vwCl (z_tys dA) wR nR b M)) (va_Qi (wQz Q) (zB D dA vwCl wR nR b) (zA nR b)) 0 0 (zA nR b) := by
  unfold wR_isWrong at h
  refine Met.ofW (cc := cX12_isWrong) (maxL := 1) (ret := (some .boolean)) (by decide) rfl ?_
  intro p e s m args below meth c s₁ B hml hv
  obtain ⟨hargs, hS, hK⟩ := hv
  have hx := B.exec
  have hb := B.bytes
  have hr := B.returns
  have hts := atoms_spec (ws := .code yX12_isWrong cX12_isWrong 1 (some .boolean) :: zt) B.pre
  have hown : s.vm.findClass RX12 = some m.cls := findClass_of_methodNamed B.named
  have hlocks := B.notSynchronized
  have hS0 : va_S (zA nR b) s.heap s.heap [] := va_S.rf
  have hl := lv_entry ([.ref (b + 0)]) (n := 1) (Nat.le_of_ble_eq_true rfl)
  have hent : entryFrame m args 1 = F0 m 0 ((lg_sl ([.ref (b + 0)]) ++ List.replicate (1 - (lg_sl ([.ref (b + 0)])).length) Slot.unset).toArray) [] := by rw [hargs]; exact lg_entry_eq m ([.ref (b + 0)]) 1
  rw [hent]
  generalize (lg_sl ([.ref (b + 0)]) ++ List.replicate (1 - (lg_sl ([.ref (b + 0)])).length) Slot.unset).toArray = ls at hl ⊢
  have hl : lv_has ls 1 [(0, .ref (b + 0))] := hl
  refine lv_aload_n hx hb dX12_isWrong_0 rfl (lv_at hl 0 rfl) ?_
  refine w_geti hx hb hts (z_memU u12) hown hK.1 hS f12_37 (by decide) (zkd_of (rfl : zcd wR 0 = 50) rfl) (Or.inl (hts _ (z_mem k981))) dX12_isWrong_1 ?_
  refine z_iconst hx hb dX12_isWrong_4 ?_
  refine w_icmp_ne (tgt := 16) hx hb rfl (sI_of (by decide)) dX12_isWrong_5 (by decide) (fun c1 => ?_) (fun c1 => ?_)
  · skip
    have h := h.1 c1
    refine z_iconst hx hb dX12_isWrong_16 ?_
    exact w_zret hx hb hr hlocks hS hS0 (sI_of (by decide)) (by decide) h dX12_isWrong_17
  · skip
    have h := h.2 c1
    refine lv_aload_n hx hb dX12_isWrong_8 rfl (lv_at hl 0 rfl) ?_
    refine lv_aload_n hx hb dX12_isWrong_9 rfl (lv_at hl 0 rfl) ?_
    refine w_geti hx hb hts (z_memU u12) hown hK.1 hS f12_36 (by decide) (zkd_of (rfl : zcd wR 0 = 50) rfl) (Or.inl (hts _ (z_mem k980))) dX12_isWrong_10 ?_
    refine w_puti hx hb hts (z_memU u12) tyX12 tyX12_ok nmX12 hown hK.1 hS hS0 f12_37 (by decide) (zkd_of (rfl : zcd wR 0 = 50) rfl) (Or.inl (hts _ (z_mem k981))) rfl (z := (M 0 36)) (by decide +kernel) dX12_isWrong_13 (fun H locs hS hS0 => ?_)
    obtain ⟨M2, e3⟩ : ∃ M2 : zM, M2 = zup M 0 37 (M 0 36) := ⟨_, rfl⟩
    rw [← e3] at hS
    have h := h M2 e3
    refine z_iconst hx hb dX12_isWrong_16 ?_
    exact w_zret hx hb hr hlocks hS hS0 (sI_of (by decide)) (by decide) h dX12_isWrong_17

set_option maxRecDepth 100000 in
def wR_skipRow_F (R9 : Int → zM → (Int → zM → Prop) → Prop) (a0 : Int) (M : zM) (Q : Int → zM → Prop) : Prop := R9 a0 M (fun z2 M1 => (z2 ≠ 0 → wL0 (fun K10 M5 => wR_has 47 47 M5 (fun z14 => (z14 = 0 → wR_has 48 57 M5 (fun z19 => (z19 ≠ 0 → R9 a0 M5 (fun z24 M23 => (z24 ≠ 0 → K10 M23) ∧ (z24 = 0 → Q 0 M23))) ∧ (z19 = 0 → wR_has 91 91 M5 (fun z30 => (z30 ≠ 0 → R9 a0 M5 (fun z35 M34 => (z35 ≠ 0 → K10 M34) ∧ (z35 = 0 → Q 0 M34))) ∧ (z30 = 0 → wR_has 40 40 M5 (fun z41 => (z41 = 0 → Q 1 M5) ∧ (z41 ≠ 0 → R9 a0 M5 (fun z46 M45 => (z46 ≠ 0 → K10 M45) ∧ (z46 = 0 → Q 0 M45))))))))) ∧ (z14 ≠ 0 → (∀ M51 : zM, M51 = zup M5 0 36 ((M5 0 36) + 1) → wR_has 49 57 M51 (fun z54 => (z54 ≠ 0 → (∀ M58 : zM, M58 = zup M51 0 36 ((M51 0 36) + 1) → R9 a0 M58 (fun z61 M60 => (z61 ≠ 0 → K10 M60) ∧ (z61 = 0 → Q 0 M60)))) ∧ (z54 = 0 → wR_isWrong  M51 (fun z67 M66 => Q z67 M66))))))) M1) ∧ (z2 = 0 → Q 0 M1))
set_option maxHeartbeats 4000000 in
set_option maxRecDepth 100000 in
theorem cR_skipRow_F (dd : Nat) (R9 : Int → zM → (Int → zM → Prop) → Prop) (l : Launch) (D : va_G) (dA : Nat → ClassId) (hdd : 1 ≤ dd) (hrec : ∀ (b : Nat) (M : zM) (a0 : Int)  (Q : Int → zM → Prop), R9 a0 M Q → Met l yX12_skipTerm (.code yX12_skipTerm cX12_skipTerm 2 (some .boolean) :: zt) (z_rm dd) (va_Pc [.ref (b + 0), .int (iI a0)] (wPre D dA vwCl (z_tys dA) wR nR b M)) (va_Qi (wQz Q) (zB D dA vwCl wR nR b) (zA nR b)) 0 0 (zA nR b)) (b : Nat) (M : zM) (a0 : Int)  (Q : Int → zM → Prop) (h : wR_skipRow_F R9 a0 M Q) : Met l yX12_skipRow (.code yX12_skipRow cX12_skipRow 2 (some .boolean) :: zt) (z_rm (dd + 1)) (va_Pc [.ref (b + 0), .int (iI a0)] (wPre D dA vwCl (z_tys dA) wR nR b M)) (va_Qi (wQz Q) (zB D dA vwCl wR nR b) (zA nR b)) 0 0 (zA nR b) := by
  unfold wR_skipRow_F at h
  refine Met.ofW (cc := cX12_skipRow) (maxL := 2) (ret := (some .boolean)) (by decide) rfl ?_
  intro p e s m args below meth c s₁ B hml hv
  obtain ⟨hargs, hS, hK⟩ := hv
  have hx := B.exec
  have hb := B.bytes
  have hr := B.returns
  have hts := atoms_spec (ws := .code yX12_skipRow cX12_skipRow 2 (some .boolean) :: zt) B.pre
  have hown : s.vm.findClass RX12 = some m.cls := findClass_of_methodNamed B.named
  have hlocks := B.notSynchronized
  have hS0 : va_S (zA nR b) s.heap s.heap [] := va_S.rf
  have hl := lv_entry ([.ref (b + 0), .int (iI a0)]) (n := 2) (Nat.le_of_ble_eq_true rfl)
  have hent : entryFrame m args 2 = F0 m 0 ((lg_sl ([.ref (b + 0), .int (iI a0)]) ++ List.replicate (2 - (lg_sl ([.ref (b + 0), .int (iI a0)])).length) Slot.unset).toArray) [] := by rw [hargs]; exact lg_entry_eq m ([.ref (b + 0), .int (iI a0)]) 2
  rw [hent]
  generalize (lg_sl ([.ref (b + 0), .int (iI a0)]) ++ List.replicate (2 - (lg_sl ([.ref (b + 0), .int (iI a0)])).length) Slot.unset).toArray = ls at hl ⊢
  have hl : lv_has ls 2 [(0, .ref (b + 0)), (1, .int (iI a0))] := hl
  refine lv_aload_n hx hb dX12_skipRow_0 rfl (lv_at hl 0 rfl) ?_
  refine lv_iload_n hx hb dX12_skipRow_1 rfl (lv_at hl 1 rfl) ?_
  refine w_callz (va_runV (As := [.int (iI a0)]) (rest := []) ⟨hx, hb, hml, hown, hts⟩ (hrec b M a0 _ h) (cwV 1 hts (z_gV k1061 k1062 k1391 k14 k1063) rfl rfl rfl dm_X12_skipTerm ⟨by simp only [z_rm, headSpec]; omega, by simp only [z_rm, headSpec]; omega⟩) ⟨wPre_blind, (w_recv hS hK.1 (by decide) (zkd_of (rfl : zcd wR 0 = 50) rfl) (by decide) (rfl : vwCl[12]? = some (RX12, TX12, 50))), w_pre hS hK⟩ rfl rfl hl.1 rfl (lv_room (Nat.le_of_ble_eq_true rfl)) dX12_skipRow_2 ⟨Nat.le_refl _, Nat.le_refl _⟩) hS0 (fun z2 M1 H locs r3 h hS hS0 => ?_)
  refine w_if_ne (tgt := 10) hx hb (sI_01 r3) dX12_skipRow_5 (by decide) (fun c4 => ?_) (fun c4 => ?_)
  · skip
    have h := h.1 c4
    obtain ⟨I6, ⟨n7, h8⟩, h9⟩ := h
    have L10 : ∀ (n11 : Nat) (M5 : zM) (H : Heap) (locs : List Loc) (ls : Array Slot), I6 n11 M5 → zR D dA vwCl wR nR b M5 H → va_S (zA nR b) s.heap H locs → lv_has ls 2 [(0, .ref (b + 0)), (1, .int (iI a0))] → W p l e (headSpec (.code yX12_skipRow cX12_skipRow 2 (some .boolean) :: zt) (z_rm (dd + 1))).room s m args below meth c H locs 0 0 (MQ below (va_Qi (wQz Q) (zB D dA vwCl wR nR b) (zA nR b)) args s 0 0 (zA nR b)) (F0 m 10 ls []) := by
      intro n11
      induction n11 using Nat.strongRecOn with
      | ind n11 i12 =>
        intro M5 H locs ls h hS hS0 hl
        have h := h9 n11 M5 h
        refine lv_aload_n hx hb dX12_skipRow_10 rfl (lv_at hl 0 rfl) ?_
        refine z_bipush hx hb (by decide) dX12_skipRow_11 ?_
        refine z_bipush hx hb (by decide) dX12_skipRow_13 ?_
        refine w_callz (va_runV (As := [.int (iI 47), .int (iI 47)]) (rest := []) ⟨hx, hb, hml, hown, hts⟩ (cR_has l D dA b M5 47 47 _ h) (cwV 2 hts (z_gV k1067 k1068 k1393 k14 k1069) rfl rfl rfl dm_X12_has ⟨by simp only [z_rm, headSpec]; omega, by simp only [z_rm, headSpec]; omega⟩) ⟨wPre_blind, (w_recv hS hK.1 (by decide) (zkd_of (rfl : zcd wR 0 = 50) rfl) (by decide) (rfl : vwCl[12]? = some (RX12, TX12, 50))), w_pre hS hK⟩ rfl rfl hl.1 rfl (lv_room (Nat.le_of_ble_eq_true rfl)) dX12_skipRow_15 ⟨Nat.le_refl _, Nat.le_refl _⟩) hS0 (fun z14 M13 H locs r15 h hS hS0 => ?_)
        obtain ⟨e16, h⟩ := h
        rw [e16] at hS
        refine w_if_eq (tgt := 67) hx hb (sI_01 r15) dX12_skipRow_18 (by decide) (fun c17 => ?_) (fun c17 => ?_)
        · skip
          have h := h.1 c17
          refine lv_aload_n hx hb dX12_skipRow_67 rfl (lv_at hl 0 rfl) ?_
          refine z_bipush hx hb (by decide) dX12_skipRow_68 ?_
          refine z_bipush hx hb (by decide) dX12_skipRow_70 ?_
          refine w_callz (va_runV (As := [.int (iI 48), .int (iI 57)]) (rest := []) ⟨hx, hb, hml, hown, hts⟩ (cR_has l D dA b M5 48 57 _ h) (cwV 2 hts (z_gV k1067 k1068 k1393 k14 k1069) rfl rfl rfl dm_X12_has ⟨by simp only [z_rm, headSpec]; omega, by simp only [z_rm, headSpec]; omega⟩) ⟨wPre_blind, (w_recv hS hK.1 (by decide) (zkd_of (rfl : zcd wR 0 = 50) rfl) (by decide) (rfl : vwCl[12]? = some (RX12, TX12, 50))), w_pre hS hK⟩ rfl rfl hl.1 rfl (lv_room (Nat.le_of_ble_eq_true rfl)) dX12_skipRow_72 ⟨Nat.le_refl _, Nat.le_refl _⟩) hS0 (fun z19 M18 H locs r20 h hS hS0 => ?_)
          obtain ⟨e21, h⟩ := h
          rw [e21] at hS
          refine w_if_ne (tgt := 100) hx hb (sI_01 r20) dX12_skipRow_75 (by decide) (fun c22 => ?_) (fun c22 => ?_)
          · skip
            have h := h.1 c22
            refine lv_aload_n hx hb dX12_skipRow_100 rfl (lv_at hl 0 rfl) ?_
            refine lv_iload_n hx hb dX12_skipRow_101 rfl (lv_at hl 1 rfl) ?_
            refine w_callz (va_runV (As := [.int (iI a0)]) (rest := []) ⟨hx, hb, hml, hown, hts⟩ (hrec b M5 a0 _ h) (cwV 1 hts (z_gV k1061 k1062 k1391 k14 k1063) rfl rfl rfl dm_X12_skipTerm ⟨by simp only [z_rm, headSpec]; omega, by simp only [z_rm, headSpec]; omega⟩) ⟨wPre_blind, (w_recv hS hK.1 (by decide) (zkd_of (rfl : zcd wR 0 = 50) rfl) (by decide) (rfl : vwCl[12]? = some (RX12, TX12, 50))), w_pre hS hK⟩ rfl rfl hl.1 rfl (lv_room (Nat.le_of_ble_eq_true rfl)) dX12_skipRow_102 ⟨Nat.le_refl _, Nat.le_refl _⟩) hS0 (fun z24 M23 H locs r25 h hS hS0 => ?_)
            refine w_if_ne (tgt := 10) hx hb (sI_01 r25) dX12_skipRow_105 (by decide) (fun c26 => ?_) (fun c26 => ?_)
            · skip
              have h := h.1 c26
              obtain ⟨n27, h28, h⟩ := h
              exact i12 n27 h28 M23 _ _ _ h hS hS0 (lv_sub hl [0, 1] rfl)
            · skip
              have h := h.2 c26
              refine z_iconst hx hb dX12_skipRow_108 ?_
              exact w_zret hx hb hr hlocks hS hS0 (sI_of (by decide)) (by decide) h dX12_skipRow_109
          · skip
            have h := h.2 c22
            refine lv_aload_n hx hb dX12_skipRow_78 rfl (lv_at hl 0 rfl) ?_
            refine z_bipush hx hb (by decide) dX12_skipRow_79 ?_
            refine z_bipush hx hb (by decide) dX12_skipRow_81 ?_
            refine w_callz (va_runV (As := [.int (iI 91), .int (iI 91)]) (rest := []) ⟨hx, hb, hml, hown, hts⟩ (cR_has l D dA b M5 91 91 _ h) (cwV 2 hts (z_gV k1067 k1068 k1393 k14 k1069) rfl rfl rfl dm_X12_has ⟨by simp only [z_rm, headSpec]; omega, by simp only [z_rm, headSpec]; omega⟩) ⟨wPre_blind, (w_recv hS hK.1 (by decide) (zkd_of (rfl : zcd wR 0 = 50) rfl) (by decide) (rfl : vwCl[12]? = some (RX12, TX12, 50))), w_pre hS hK⟩ rfl rfl hl.1 rfl (lv_room (Nat.le_of_ble_eq_true rfl)) dX12_skipRow_83 ⟨Nat.le_refl _, Nat.le_refl _⟩) hS0 (fun z30 M29 H locs r31 h hS hS0 => ?_)
            obtain ⟨e32, h⟩ := h
            rw [e32] at hS
            refine w_if_ne (tgt := 100) hx hb (sI_01 r31) dX12_skipRow_86 (by decide) (fun c33 => ?_) (fun c33 => ?_)
            · skip
              have h := h.1 c33
              refine lv_aload_n hx hb dX12_skipRow_100 rfl (lv_at hl 0 rfl) ?_
              refine lv_iload_n hx hb dX12_skipRow_101 rfl (lv_at hl 1 rfl) ?_
              refine w_callz (va_runV (As := [.int (iI a0)]) (rest := []) ⟨hx, hb, hml, hown, hts⟩ (hrec b M5 a0 _ h) (cwV 1 hts (z_gV k1061 k1062 k1391 k14 k1063) rfl rfl rfl dm_X12_skipTerm ⟨by simp only [z_rm, headSpec]; omega, by simp only [z_rm, headSpec]; omega⟩) ⟨wPre_blind, (w_recv hS hK.1 (by decide) (zkd_of (rfl : zcd wR 0 = 50) rfl) (by decide) (rfl : vwCl[12]? = some (RX12, TX12, 50))), w_pre hS hK⟩ rfl rfl hl.1 rfl (lv_room (Nat.le_of_ble_eq_true rfl)) dX12_skipRow_102 ⟨Nat.le_refl _, Nat.le_refl _⟩) hS0 (fun z35 M34 H locs r36 h hS hS0 => ?_)
              refine w_if_ne (tgt := 10) hx hb (sI_01 r36) dX12_skipRow_105 (by decide) (fun c37 => ?_) (fun c37 => ?_)
              · skip
                have h := h.1 c37
                obtain ⟨n38, h39, h⟩ := h
                exact i12 n38 h39 M34 _ _ _ h hS hS0 (lv_sub hl [0, 1] rfl)
              · skip
                have h := h.2 c37
                refine z_iconst hx hb dX12_skipRow_108 ?_
                exact w_zret hx hb hr hlocks hS hS0 (sI_of (by decide)) (by decide) h dX12_skipRow_109
            · skip
              have h := h.2 c33
              refine lv_aload_n hx hb dX12_skipRow_89 rfl (lv_at hl 0 rfl) ?_
              refine z_bipush hx hb (by decide) dX12_skipRow_90 ?_
              refine z_bipush hx hb (by decide) dX12_skipRow_92 ?_
              refine w_callz (va_runV (As := [.int (iI 40), .int (iI 40)]) (rest := []) ⟨hx, hb, hml, hown, hts⟩ (cR_has l D dA b M5 40 40 _ h) (cwV 2 hts (z_gV k1067 k1068 k1393 k14 k1069) rfl rfl rfl dm_X12_has ⟨by simp only [z_rm, headSpec]; omega, by simp only [z_rm, headSpec]; omega⟩) ⟨wPre_blind, (w_recv hS hK.1 (by decide) (zkd_of (rfl : zcd wR 0 = 50) rfl) (by decide) (rfl : vwCl[12]? = some (RX12, TX12, 50))), w_pre hS hK⟩ rfl rfl hl.1 rfl (lv_room (Nat.le_of_ble_eq_true rfl)) dX12_skipRow_94 ⟨Nat.le_refl _, Nat.le_refl _⟩) hS0 (fun z41 M40 H locs r42 h hS hS0 => ?_)
              obtain ⟨e43, h⟩ := h
              rw [e43] at hS
              refine w_if_eq (tgt := 110) hx hb (sI_01 r42) dX12_skipRow_97 (by decide) (fun c44 => ?_) (fun c44 => ?_)
              · skip
                have h := h.1 c44
                refine z_iconst hx hb dX12_skipRow_110 ?_
                exact w_zret hx hb hr hlocks hS hS0 (sI_of (by decide)) (by decide) h dX12_skipRow_111
              · skip
                have h := h.2 c44
                refine lv_aload_n hx hb dX12_skipRow_100 rfl (lv_at hl 0 rfl) ?_
                refine lv_iload_n hx hb dX12_skipRow_101 rfl (lv_at hl 1 rfl) ?_
                refine w_callz (va_runV (As := [.int (iI a0)]) (rest := []) ⟨hx, hb, hml, hown, hts⟩ (hrec b M5 a0 _ h) (cwV 1 hts (z_gV k1061 k1062 k1391 k14 k1063) rfl rfl rfl dm_X12_skipTerm ⟨by simp only [z_rm, headSpec]; omega, by simp only [z_rm, headSpec]; omega⟩) ⟨wPre_blind, (w_recv hS hK.1 (by decide) (zkd_of (rfl : zcd wR 0 = 50) rfl) (by decide) (rfl : vwCl[12]? = some (RX12, TX12, 50))), w_pre hS hK⟩ rfl rfl hl.1 rfl (lv_room (Nat.le_of_ble_eq_true rfl)) dX12_skipRow_102 ⟨Nat.le_refl _, Nat.le_refl _⟩) hS0 (fun z46 M45 H locs r47 h hS hS0 => ?_)
                refine w_if_ne (tgt := 10) hx hb (sI_01 r47) dX12_skipRow_105 (by decide) (fun c48 => ?_) (fun c48 => ?_)
                · skip
                  have h := h.1 c48
                  obtain ⟨n49, h50, h⟩ := h
                  exact i12 n49 h50 M45 _ _ _ h hS hS0 (lv_sub hl [0, 1] rfl)
                · skip
                  have h := h.2 c48
                  refine z_iconst hx hb dX12_skipRow_108 ?_
                  exact w_zret hx hb hr hlocks hS hS0 (sI_of (by decide)) (by decide) h dX12_skipRow_109
        · skip
          have h := h.2 c17
          refine lv_aload_n hx hb dX12_skipRow_21 rfl (lv_at hl 0 rfl) ?_
          refine lv_dup hx hb dX12_skipRow_22 rfl ?_
          refine w_geti hx hb hts (z_memU u12) hown hK.1 hS f12_36 (by decide) (zkd_of (rfl : zcd wR 0 = 50) rfl) (Or.inl (hts _ (z_mem k980))) dX12_skipRow_23 ?_
          refine z_iconst hx hb dX12_skipRow_26 ?_
          refine z_iadd hx hb dX12_skipRow_27 ?_
          refine w_puti hx hb hts (z_memU u12) tyX12 tyX12_ok nmX12 hown hK.1 hS hS0 f12_36 (by decide) (zkd_of (rfl : zcd wR 0 = 50) rfl) (Or.inl (hts _ (z_mem k980))) rfl (z := ((M5 0 36) + 1)) (by decide +kernel) dX12_skipRow_28 (fun H locs hS hS0 => ?_)
          obtain ⟨M51, e52⟩ : ∃ M51 : zM, M51 = zup M5 0 36 ((M5 0 36) + 1) := ⟨_, rfl⟩
          rw [← e52] at hS
          have h := h M51 e52
          refine lv_aload_n hx hb dX12_skipRow_31 rfl (lv_at hl 0 rfl) ?_
          refine z_bipush hx hb (by decide) dX12_skipRow_32 ?_
          refine z_bipush hx hb (by decide) dX12_skipRow_34 ?_
          refine w_callz (va_runV (As := [.int (iI 49), .int (iI 57)]) (rest := []) ⟨hx, hb, hml, hown, hts⟩ (cR_has l D dA b M51 49 57 _ h) (cwV 2 hts (z_gV k1067 k1068 k1393 k14 k1069) rfl rfl rfl dm_X12_has ⟨by simp only [z_rm, headSpec]; omega, by simp only [z_rm, headSpec]; omega⟩) ⟨wPre_blind, (w_recv hS hK.1 (by decide) (zkd_of (rfl : zcd wR 0 = 50) rfl) (by decide) (rfl : vwCl[12]? = some (RX12, TX12, 50))), w_pre hS hK⟩ rfl rfl hl.1 rfl (lv_room (Nat.le_of_ble_eq_true rfl)) dX12_skipRow_36 ⟨Nat.le_refl _, Nat.le_refl _⟩) hS0 (fun z54 M53 H locs r55 h hS hS0 => ?_)
          obtain ⟨e56, h⟩ := h
          rw [e56] at hS
          refine w_if_ne (tgt := 47) hx hb (sI_01 r55) dX12_skipRow_39 (by decide) (fun c57 => ?_) (fun c57 => ?_)
          · skip
            have h := h.1 c57
            refine lv_aload_n hx hb dX12_skipRow_47 rfl (lv_at hl 0 rfl) ?_
            refine lv_dup hx hb dX12_skipRow_48 rfl ?_
            refine w_geti hx hb hts (z_memU u12) hown hK.1 hS f12_36 (by decide) (zkd_of (rfl : zcd wR 0 = 50) rfl) (Or.inl (hts _ (z_mem k980))) dX12_skipRow_49 ?_
            refine z_iconst hx hb dX12_skipRow_52 ?_
            refine z_iadd hx hb dX12_skipRow_53 ?_
            refine w_puti hx hb hts (z_memU u12) tyX12 tyX12_ok nmX12 hown hK.1 hS hS0 f12_36 (by decide) (zkd_of (rfl : zcd wR 0 = 50) rfl) (Or.inl (hts _ (z_mem k980))) rfl (z := ((M51 0 36) + 1)) (by decide +kernel) dX12_skipRow_54 (fun H locs hS hS0 => ?_)
            obtain ⟨M58, e59⟩ : ∃ M58 : zM, M58 = zup M51 0 36 ((M51 0 36) + 1) := ⟨_, rfl⟩
            rw [← e59] at hS
            have h := h M58 e59
            refine lv_aload_n hx hb dX12_skipRow_57 rfl (lv_at hl 0 rfl) ?_
            refine lv_iload_n hx hb dX12_skipRow_58 rfl (lv_at hl 1 rfl) ?_
            refine w_callz (va_runV (As := [.int (iI a0)]) (rest := []) ⟨hx, hb, hml, hown, hts⟩ (hrec b M58 a0 _ h) (cwV 1 hts (z_gV k1061 k1062 k1391 k14 k1063) rfl rfl rfl dm_X12_skipTerm ⟨by simp only [z_rm, headSpec]; omega, by simp only [z_rm, headSpec]; omega⟩) ⟨wPre_blind, (w_recv hS hK.1 (by decide) (zkd_of (rfl : zcd wR 0 = 50) rfl) (by decide) (rfl : vwCl[12]? = some (RX12, TX12, 50))), w_pre hS hK⟩ rfl rfl hl.1 rfl (lv_room (Nat.le_of_ble_eq_true rfl)) dX12_skipRow_59 ⟨Nat.le_refl _, Nat.le_refl _⟩) hS0 (fun z61 M60 H locs r62 h hS hS0 => ?_)
            refine w_if_ne (tgt := 10) hx hb (sI_01 r62) dX12_skipRow_62 (by decide) (fun c63 => ?_) (fun c63 => ?_)
            · skip
              have h := h.1 c63
              obtain ⟨n64, h65, h⟩ := h
              exact i12 n64 h65 M60 _ _ _ h hS hS0 (lv_sub hl [0, 1] rfl)
            · skip
              have h := h.2 c63
              refine z_iconst hx hb dX12_skipRow_65 ?_
              exact w_zret hx hb hr hlocks hS hS0 (sI_of (by decide)) (by decide) h dX12_skipRow_66
          · skip
            have h := h.2 c57
            refine lv_aload_n hx hb dX12_skipRow_42 rfl (lv_at hl 0 rfl) ?_
            refine w_callz (va_runV (As := []) (rest := []) ⟨hx, hb, hml, hown, hts⟩ (cR_isWrong l D dA b M51  _ h) (cwV 0 hts (z_gV k1070 k1071 k1394 k14 k1072) rfl rfl rfl dm_X12_isWrong ⟨by simp only [z_rm, headSpec]; omega, by simp only [z_rm, headSpec]; omega⟩) ⟨wPre_blind, (w_recv hS hK.1 (by decide) (zkd_of (rfl : zcd wR 0 = 50) rfl) (by decide) (rfl : vwCl[12]? = some (RX12, TX12, 50))), w_pre hS hK⟩ rfl rfl hl.1 rfl (lv_room (Nat.le_of_ble_eq_true rfl)) dX12_skipRow_43 ⟨Nat.le_refl _, Nat.le_refl _⟩) hS0 (fun z67 M66 H locs r68 h hS hS0 => ?_)
            exact w_zret hx hb hr hlocks hS hS0 (sI_01 r68) r68 h dX12_skipRow_46
    exact L10 n7 M1 _ _ _ h8 hS hS0 (lv_sub hl [0, 1] rfl)
  · skip
    have h := h.2 c4
    refine z_iconst hx hb dX12_skipRow_8 ?_
    exact w_zret hx hb hr hlocks hS hS0 (sI_of (by decide)) (by decide) h dX12_skipRow_9

set_option maxRecDepth 100000 in
def wR_skipTerm_F (R9 : Int → zM → (Int → zM → Prop) → Prop) (a0 : Int) (M : zM) (Q : Int → zM → Prop) : Prop := R9 a0 M (fun z2 M1 => (z2 ≠ 0 → wL0 (fun K10 M5 => wR_has 126 126 M5 (fun z14 => (z14 = 0 → wR_has 42 42 M5 (fun z19 => (z19 = 0 → Q 1 M5) ∧ (z19 ≠ 0 → (∀ M23 : zM, M23 = zup M5 0 36 ((M5 0 36) + 1) → wR_has 50 57 M23 (fun z26 => (z26 ≠ 0 → (∀ M30 : zM, M30 = zup M23 0 36 ((M23 0 36) + 1) → K10 M30)) ∧ (z26 = 0 → wR_isWrong  M23 (fun z35 M34 => Q z35 M34))))))) ∧ (z14 ≠ 0 → (∀ M37 : zM, M37 = zup M5 0 36 ((M5 0 36) + 1) → K10 M37)))) M1) ∧ (z2 = 0 → Q 0 M1))
set_option maxHeartbeats 4000000 in
set_option maxRecDepth 100000 in
theorem cR_skipTerm_F (dd : Nat) (R9 : Int → zM → (Int → zM → Prop) → Prop) (l : Launch) (D : va_G) (dA : Nat → ClassId) (hdd : 1 ≤ dd) (hrec : ∀ (b : Nat) (M : zM) (a0 : Int)  (Q : Int → zM → Prop), R9 a0 M Q → Met l yX12_skipAtom (.code yX12_skipAtom cX12_skipAtom 2 (some .boolean) :: zt) (z_rm dd) (va_Pc [.ref (b + 0), .int (iI a0)] (wPre D dA vwCl (z_tys dA) wR nR b M)) (va_Qi (wQz Q) (zB D dA vwCl wR nR b) (zA nR b)) 0 0 (zA nR b)) (b : Nat) (M : zM) (a0 : Int)  (Q : Int → zM → Prop) (h : wR_skipTerm_F R9 a0 M Q) : Met l yX12_skipTerm (.code yX12_skipTerm cX12_skipTerm 2 (some .boolean) :: zt) (z_rm (dd + 1)) (va_Pc [.ref (b + 0), .int (iI a0)] (wPre D dA vwCl (z_tys dA) wR nR b M)) (va_Qi (wQz Q) (zB D dA vwCl wR nR b) (zA nR b)) 0 0 (zA nR b) := by
  unfold wR_skipTerm_F at h
  refine Met.ofW (cc := cX12_skipTerm) (maxL := 2) (ret := (some .boolean)) (by decide) rfl ?_
  intro p e s m args below meth c s₁ B hml hv
  obtain ⟨hargs, hS, hK⟩ := hv
  have hx := B.exec
  have hb := B.bytes
  have hr := B.returns
  have hts := atoms_spec (ws := .code yX12_skipTerm cX12_skipTerm 2 (some .boolean) :: zt) B.pre
  have hown : s.vm.findClass RX12 = some m.cls := findClass_of_methodNamed B.named
  have hlocks := B.notSynchronized
  have hS0 : va_S (zA nR b) s.heap s.heap [] := va_S.rf
  have hl := lv_entry ([.ref (b + 0), .int (iI a0)]) (n := 2) (Nat.le_of_ble_eq_true rfl)
  have hent : entryFrame m args 2 = F0 m 0 ((lg_sl ([.ref (b + 0), .int (iI a0)]) ++ List.replicate (2 - (lg_sl ([.ref (b + 0), .int (iI a0)])).length) Slot.unset).toArray) [] := by rw [hargs]; exact lg_entry_eq m ([.ref (b + 0), .int (iI a0)]) 2
  rw [hent]
  generalize (lg_sl ([.ref (b + 0), .int (iI a0)]) ++ List.replicate (2 - (lg_sl ([.ref (b + 0), .int (iI a0)])).length) Slot.unset).toArray = ls at hl ⊢
  have hl : lv_has ls 2 [(0, .ref (b + 0)), (1, .int (iI a0))] := hl
  refine lv_aload_n hx hb dX12_skipTerm_0 rfl (lv_at hl 0 rfl) ?_
  refine lv_iload_n hx hb dX12_skipTerm_1 rfl (lv_at hl 1 rfl) ?_
  refine w_callz (va_runV (As := [.int (iI a0)]) (rest := []) ⟨hx, hb, hml, hown, hts⟩ (hrec b M a0 _ h) (cwV 1 hts (z_gV k1064 k1065 k1392 k14 k1066) rfl rfl rfl dm_X12_skipAtom ⟨by simp only [z_rm, headSpec]; omega, by simp only [z_rm, headSpec]; omega⟩) ⟨wPre_blind, (w_recv hS hK.1 (by decide) (zkd_of (rfl : zcd wR 0 = 50) rfl) (by decide) (rfl : vwCl[12]? = some (RX12, TX12, 50))), w_pre hS hK⟩ rfl rfl hl.1 rfl (lv_room (Nat.le_of_ble_eq_true rfl)) dX12_skipTerm_2 ⟨Nat.le_refl _, Nat.le_refl _⟩) hS0 (fun z2 M1 H locs r3 h hS hS0 => ?_)
  refine w_if_ne (tgt := 10) hx hb (sI_01 r3) dX12_skipTerm_5 (by decide) (fun c4 => ?_) (fun c4 => ?_)
  · skip
    have h := h.1 c4
    obtain ⟨I6, ⟨n7, h8⟩, h9⟩ := h
    have L10 : ∀ (n11 : Nat) (M5 : zM) (H : Heap) (locs : List Loc) (ls : Array Slot), I6 n11 M5 → zR D dA vwCl wR nR b M5 H → va_S (zA nR b) s.heap H locs → lv_has ls 2 [(0, .ref (b + 0))] → W p l e (headSpec (.code yX12_skipTerm cX12_skipTerm 2 (some .boolean) :: zt) (z_rm (dd + 1))).room s m args below meth c H locs 0 0 (MQ below (va_Qi (wQz Q) (zB D dA vwCl wR nR b) (zA nR b)) args s 0 0 (zA nR b)) (F0 m 10 ls []) := by
      intro n11
      induction n11 using Nat.strongRecOn with
      | ind n11 i12 =>
        intro M5 H locs ls h hS hS0 hl
        have h := h9 n11 M5 h
        refine lv_aload_n hx hb dX12_skipTerm_10 rfl (lv_at hl 0 rfl) ?_
        refine z_bipush hx hb (by decide) dX12_skipTerm_11 ?_
        refine z_bipush hx hb (by decide) dX12_skipTerm_13 ?_
        refine w_callz (va_runV (As := [.int (iI 126), .int (iI 126)]) (rest := []) ⟨hx, hb, hml, hown, hts⟩ (cR_has l D dA b M5 126 126 _ h) (cwV 2 hts (z_gV k1067 k1068 k1393 k14 k1069) rfl rfl rfl dm_X12_has ⟨by simp only [z_rm, headSpec]; omega, by simp only [z_rm, headSpec]; omega⟩) ⟨wPre_blind, (w_recv hS hK.1 (by decide) (zkd_of (rfl : zcd wR 0 = 50) rfl) (by decide) (rfl : vwCl[12]? = some (RX12, TX12, 50))), w_pre hS hK⟩ rfl rfl hl.1 rfl (lv_room (Nat.le_of_ble_eq_true rfl)) dX12_skipTerm_15 ⟨Nat.le_refl _, Nat.le_refl _⟩) hS0 (fun z14 M13 H locs r15 h hS hS0 => ?_)
        obtain ⟨e16, h⟩ := h
        rw [e16] at hS
        refine w_if_eq (tgt := 34) hx hb (sI_01 r15) dX12_skipTerm_18 (by decide) (fun c17 => ?_) (fun c17 => ?_)
        · skip
          have h := h.1 c17
          refine lv_aload_n hx hb dX12_skipTerm_34 rfl (lv_at hl 0 rfl) ?_
          refine z_bipush hx hb (by decide) dX12_skipTerm_35 ?_
          refine z_bipush hx hb (by decide) dX12_skipTerm_37 ?_
          refine w_callz (va_runV (As := [.int (iI 42), .int (iI 42)]) (rest := []) ⟨hx, hb, hml, hown, hts⟩ (cR_has l D dA b M5 42 42 _ h) (cwV 2 hts (z_gV k1067 k1068 k1393 k14 k1069) rfl rfl rfl dm_X12_has ⟨by simp only [z_rm, headSpec]; omega, by simp only [z_rm, headSpec]; omega⟩) ⟨wPre_blind, (w_recv hS hK.1 (by decide) (zkd_of (rfl : zcd wR 0 = 50) rfl) (by decide) (rfl : vwCl[12]? = some (RX12, TX12, 50))), w_pre hS hK⟩ rfl rfl hl.1 rfl (lv_room (Nat.le_of_ble_eq_true rfl)) dX12_skipTerm_39 ⟨Nat.le_refl _, Nat.le_refl _⟩) hS0 (fun z19 M18 H locs r20 h hS hS0 => ?_)
          obtain ⟨e21, h⟩ := h
          rw [e21] at hS
          refine w_if_eq (tgt := 84) hx hb (sI_01 r20) dX12_skipTerm_42 (by decide) (fun c22 => ?_) (fun c22 => ?_)
          · skip
            have h := h.1 c22
            refine z_iconst hx hb dX12_skipTerm_84 ?_
            exact w_zret hx hb hr hlocks hS hS0 (sI_of (by decide)) (by decide) h dX12_skipTerm_85
          · skip
            have h := h.2 c22
            refine lv_aload_n hx hb dX12_skipTerm_45 rfl (lv_at hl 0 rfl) ?_
            refine lv_dup hx hb dX12_skipTerm_46 rfl ?_
            refine w_geti hx hb hts (z_memU u12) hown hK.1 hS f12_36 (by decide) (zkd_of (rfl : zcd wR 0 = 50) rfl) (Or.inl (hts _ (z_mem k980))) dX12_skipTerm_47 ?_
            refine z_iconst hx hb dX12_skipTerm_50 ?_
            refine z_iadd hx hb dX12_skipTerm_51 ?_
            refine w_puti hx hb hts (z_memU u12) tyX12 tyX12_ok nmX12 hown hK.1 hS hS0 f12_36 (by decide) (zkd_of (rfl : zcd wR 0 = 50) rfl) (Or.inl (hts _ (z_mem k980))) rfl (z := ((M5 0 36) + 1)) (by decide +kernel) dX12_skipTerm_52 (fun H locs hS hS0 => ?_)
            obtain ⟨M23, e24⟩ : ∃ M23 : zM, M23 = zup M5 0 36 ((M5 0 36) + 1) := ⟨_, rfl⟩
            rw [← e24] at hS
            have h := h M23 e24
            refine lv_aload_n hx hb dX12_skipTerm_55 rfl (lv_at hl 0 rfl) ?_
            refine z_bipush hx hb (by decide) dX12_skipTerm_56 ?_
            refine z_bipush hx hb (by decide) dX12_skipTerm_58 ?_
            refine w_callz (va_runV (As := [.int (iI 50), .int (iI 57)]) (rest := []) ⟨hx, hb, hml, hown, hts⟩ (cR_has l D dA b M23 50 57 _ h) (cwV 2 hts (z_gV k1067 k1068 k1393 k14 k1069) rfl rfl rfl dm_X12_has ⟨by simp only [z_rm, headSpec]; omega, by simp only [z_rm, headSpec]; omega⟩) ⟨wPre_blind, (w_recv hS hK.1 (by decide) (zkd_of (rfl : zcd wR 0 = 50) rfl) (by decide) (rfl : vwCl[12]? = some (RX12, TX12, 50))), w_pre hS hK⟩ rfl rfl hl.1 rfl (lv_room (Nat.le_of_ble_eq_true rfl)) dX12_skipTerm_60 ⟨Nat.le_refl _, Nat.le_refl _⟩) hS0 (fun z26 M25 H locs r27 h hS hS0 => ?_)
            obtain ⟨e28, h⟩ := h
            rw [e28] at hS
            refine w_if_ne (tgt := 71) hx hb (sI_01 r27) dX12_skipTerm_63 (by decide) (fun c29 => ?_) (fun c29 => ?_)
            · skip
              have h := h.1 c29
              refine lv_aload_n hx hb dX12_skipTerm_71 rfl (lv_at hl 0 rfl) ?_
              refine lv_dup hx hb dX12_skipTerm_72 rfl ?_
              refine w_geti hx hb hts (z_memU u12) hown hK.1 hS f12_36 (by decide) (zkd_of (rfl : zcd wR 0 = 50) rfl) (Or.inl (hts _ (z_mem k980))) dX12_skipTerm_73 ?_
              refine z_iconst hx hb dX12_skipTerm_76 ?_
              refine z_iadd hx hb dX12_skipTerm_77 ?_
              refine w_puti hx hb hts (z_memU u12) tyX12 tyX12_ok nmX12 hown hK.1 hS hS0 f12_36 (by decide) (zkd_of (rfl : zcd wR 0 = 50) rfl) (Or.inl (hts _ (z_mem k980))) rfl (z := ((M23 0 36) + 1)) (by decide +kernel) dX12_skipTerm_78 (fun H locs hS hS0 => ?_)
              obtain ⟨M30, e31⟩ : ∃ M30 : zM, M30 = zup M23 0 36 ((M23 0 36) + 1) := ⟨_, rfl⟩
              rw [← e31] at hS
              have h := h M30 e31
              refine lv_goto (tgt := 10) hx hb dX12_skipTerm_81 (by decide) ?_
              obtain ⟨n32, h33, h⟩ := h
              exact i12 n32 h33 M30 _ _ _ h hS hS0 (lv_sub hl [0] rfl)
            · skip
              have h := h.2 c29
              refine lv_aload_n hx hb dX12_skipTerm_66 rfl (lv_at hl 0 rfl) ?_
              refine w_callz (va_runV (As := []) (rest := []) ⟨hx, hb, hml, hown, hts⟩ (cR_isWrong l D dA b M23  _ h) (cwV 0 hts (z_gV k1070 k1071 k1394 k14 k1072) rfl rfl rfl dm_X12_isWrong ⟨by simp only [z_rm, headSpec]; omega, by simp only [z_rm, headSpec]; omega⟩) ⟨wPre_blind, (w_recv hS hK.1 (by decide) (zkd_of (rfl : zcd wR 0 = 50) rfl) (by decide) (rfl : vwCl[12]? = some (RX12, TX12, 50))), w_pre hS hK⟩ rfl rfl hl.1 rfl (lv_room (Nat.le_of_ble_eq_true rfl)) dX12_skipTerm_67 ⟨Nat.le_refl _, Nat.le_refl _⟩) hS0 (fun z35 M34 H locs r36 h hS hS0 => ?_)
              exact w_zret hx hb hr hlocks hS hS0 (sI_01 r36) r36 h dX12_skipTerm_70
        · skip
          have h := h.2 c17
          refine lv_aload_n hx hb dX12_skipTerm_21 rfl (lv_at hl 0 rfl) ?_
          refine lv_dup hx hb dX12_skipTerm_22 rfl ?_
          refine w_geti hx hb hts (z_memU u12) hown hK.1 hS f12_36 (by decide) (zkd_of (rfl : zcd wR 0 = 50) rfl) (Or.inl (hts _ (z_mem k980))) dX12_skipTerm_23 ?_
          refine z_iconst hx hb dX12_skipTerm_26 ?_
          refine z_iadd hx hb dX12_skipTerm_27 ?_
          refine w_puti hx hb hts (z_memU u12) tyX12 tyX12_ok nmX12 hown hK.1 hS hS0 f12_36 (by decide) (zkd_of (rfl : zcd wR 0 = 50) rfl) (Or.inl (hts _ (z_mem k980))) rfl (z := ((M5 0 36) + 1)) (by decide +kernel) dX12_skipTerm_28 (fun H locs hS hS0 => ?_)
          obtain ⟨M37, e38⟩ : ∃ M37 : zM, M37 = zup M5 0 36 ((M5 0 36) + 1) := ⟨_, rfl⟩
          rw [← e38] at hS
          have h := h M37 e38
          refine lv_goto (tgt := 10) hx hb dX12_skipTerm_31 (by decide) ?_
          obtain ⟨n39, h40, h⟩ := h
          exact i12 n39 h40 M37 _ _ _ h hS hS0 (lv_sub hl [0] rfl)
    exact L10 n7 M1 _ _ _ h8 hS hS0 (lv_sub hl [0] rfl)
  · skip
    have h := h.2 c4
    refine z_iconst hx hb dX12_skipTerm_8 ?_
    exact w_zret hx hb hr hlocks hS hS0 (sI_of (by decide)) (by decide) h dX12_skipTerm_9

set_option maxRecDepth 100000 in
def wR_skipAtom_F (R9 : Int → zM → (Int → zM → Prop) → Prop) (a0 : Int) (M : zM) (Q : Int → zM → Prop) : Prop := wR_has 48 57 M (fun z2 => (z2 = 0 → wR_has 91 91 M (fun z7 => (z7 = 0 → wR_has 40 40 M (fun z12 => (z12 = 0 → wR_isWrong  M (fun z17 M16 => Q z17 M16)) ∧ (z12 ≠ 0 → ((sI a0) ≠ 5 → (∀ M20 : zM, M20 = zup M 0 36 ((M 0 36) + 1) → R9 (a0 + 1) M20 (fun z23 M22 => (z23 ≠ 0 → wR_has 41 41 M22 (fun z27 => (z27 ≠ 0 → (∀ M31 : zM, M31 = zup M22 0 36 ((M22 0 36) + 1) → Q 1 M31)) ∧ (z27 = 0 → wR_isWrong  M22 (fun z34 M33 => Q z34 M33)))) ∧ (z23 = 0 → Q 0 M22)))) ∧ ((sI a0) = 5 → wR_isWrong  M (fun z37 M36 => Q z37 M36))))) ∧ (z7 ≠ 0 → (∀ M39 : zM, M39 = zup M 0 36 ((M 0 36) + 1) → wR_has 49 57 M39 (fun z42 => (z42 ≠ 0 → wL0 (fun K60 M46 => wR_has 49 57 M46 (fun z55 => (z55 = 0 → wR_has 93 93 M46 (fun z60 => (z60 ≠ 0 → (∀ M64 : zM, M64 = zup M46 0 36 ((M46 0 36) + 1) → Q 1 M64)) ∧ (z60 = 0 → wR_isWrong  M46 (fun z67 M66 => Q z67 M66)))) ∧ (z55 ≠ 0 → (∀ M69 : zM, M69 = zup M46 0 36 ((M46 0 36) + 1) → K60 M69)))) M39) ∧ (z42 = 0 → wR_isWrong  M39 (fun z74 M73 => Q z74 M73))))))) ∧ (z2 ≠ 0 → (∀ M76 : zM, M76 = zup M 0 36 ((M 0 36) + 1) → Q 1 M76)))
set_option maxHeartbeats 4000000 in
set_option maxRecDepth 100000 in
theorem cR_skipAtom_F (dd : Nat) (R9 : Int → zM → (Int → zM → Prop) → Prop) (l : Launch) (D : va_G) (dA : Nat → ClassId) (hdd : 1 ≤ dd) (hrec : ∀ (b : Nat) (M : zM) (a0 : Int)  (Q : Int → zM → Prop), R9 a0 M Q → Met l yX12_skipRow (.code yX12_skipRow cX12_skipRow 2 (some .boolean) :: zt) (z_rm dd) (va_Pc [.ref (b + 0), .int (iI a0)] (wPre D dA vwCl (z_tys dA) wR nR b M)) (va_Qi (wQz Q) (zB D dA vwCl wR nR b) (zA nR b)) 0 0 (zA nR b)) (b : Nat) (M : zM) (a0 : Int)  (Q : Int → zM → Prop) (h : wR_skipAtom_F R9 a0 M Q) : Met l yX12_skipAtom (.code yX12_skipAtom cX12_skipAtom 2 (some .boolean) :: zt) (z_rm (dd + 1)) (va_Pc [.ref (b + 0), .int (iI a0)] (wPre D dA vwCl (z_tys dA) wR nR b M)) (va_Qi (wQz Q) (zB D dA vwCl wR nR b) (zA nR b)) 0 0 (zA nR b) := by
  unfold wR_skipAtom_F at h
  refine Met.ofW (cc := cX12_skipAtom) (maxL := 2) (ret := (some .boolean)) (by decide) rfl ?_
  intro p e s m args below meth c s₁ B hml hv
  obtain ⟨hargs, hS, hK⟩ := hv
  have hx := B.exec
  have hb := B.bytes
  have hr := B.returns
  have hts := atoms_spec (ws := .code yX12_skipAtom cX12_skipAtom 2 (some .boolean) :: zt) B.pre
  have hown : s.vm.findClass RX12 = some m.cls := findClass_of_methodNamed B.named
  have hlocks := B.notSynchronized
  have hS0 : va_S (zA nR b) s.heap s.heap [] := va_S.rf
  have hl := lv_entry ([.ref (b + 0), .int (iI a0)]) (n := 2) (Nat.le_of_ble_eq_true rfl)
  have hent : entryFrame m args 2 = F0 m 0 ((lg_sl ([.ref (b + 0), .int (iI a0)]) ++ List.replicate (2 - (lg_sl ([.ref (b + 0), .int (iI a0)])).length) Slot.unset).toArray) [] := by rw [hargs]; exact lg_entry_eq m ([.ref (b + 0), .int (iI a0)]) 2
  rw [hent]
  generalize (lg_sl ([.ref (b + 0), .int (iI a0)]) ++ List.replicate (2 - (lg_sl ([.ref (b + 0), .int (iI a0)])).length) Slot.unset).toArray = ls at hl ⊢
  have hl : lv_has ls 2 [(0, .ref (b + 0)), (1, .int (iI a0))] := hl
  refine lv_aload_n hx hb dX12_skipAtom_0 rfl (lv_at hl 0 rfl) ?_
  refine z_bipush hx hb (by decide) dX12_skipAtom_1 ?_
  refine z_bipush hx hb (by decide) dX12_skipAtom_3 ?_
  refine w_callz (va_runV (As := [.int (iI 48), .int (iI 57)]) (rest := []) ⟨hx, hb, hml, hown, hts⟩ (cR_has l D dA b M 48 57 _ h) (cwV 2 hts (z_gV k1067 k1068 k1393 k14 k1069) rfl rfl rfl dm_X12_has ⟨by simp only [z_rm, headSpec]; omega, by simp only [z_rm, headSpec]; omega⟩) ⟨wPre_blind, (w_recv hS hK.1 (by decide) (zkd_of (rfl : zcd wR 0 = 50) rfl) (by decide) (rfl : vwCl[12]? = some (RX12, TX12, 50))), w_pre hS hK⟩ rfl rfl hl.1 rfl (lv_room (Nat.le_of_ble_eq_true rfl)) dX12_skipAtom_5 ⟨Nat.le_refl _, Nat.le_refl _⟩) hS0 (fun z2 M1 H locs r3 h hS hS0 => ?_)
  obtain ⟨e4, h⟩ := h
  rw [e4] at hS
  refine w_if_eq (tgt := 23) hx hb (sI_01 r3) dX12_skipAtom_8 (by decide) (fun c5 => ?_) (fun c5 => ?_)
  · skip
    have h := h.1 c5
    refine lv_aload_n hx hb dX12_skipAtom_23 rfl (lv_at hl 0 rfl) ?_
    refine z_bipush hx hb (by decide) dX12_skipAtom_24 ?_
    refine z_bipush hx hb (by decide) dX12_skipAtom_26 ?_
    refine w_callz (va_runV (As := [.int (iI 91), .int (iI 91)]) (rest := []) ⟨hx, hb, hml, hown, hts⟩ (cR_has l D dA b M 91 91 _ h) (cwV 2 hts (z_gV k1067 k1068 k1393 k14 k1069) rfl rfl rfl dm_X12_has ⟨by simp only [z_rm, headSpec]; omega, by simp only [z_rm, headSpec]; omega⟩) ⟨wPre_blind, (w_recv hS hK.1 (by decide) (zkd_of (rfl : zcd wR 0 = 50) rfl) (by decide) (rfl : vwCl[12]? = some (RX12, TX12, 50))), w_pre hS hK⟩ rfl rfl hl.1 rfl (lv_room (Nat.le_of_ble_eq_true rfl)) dX12_skipAtom_28 ⟨Nat.le_refl _, Nat.le_refl _⟩) hS0 (fun z7 M6 H locs r8 h hS hS0 => ?_)
    obtain ⟨e9, h⟩ := h
    rw [e9] at hS
    refine w_if_eq (tgt := 112) hx hb (sI_01 r8) dX12_skipAtom_31 (by decide) (fun c10 => ?_) (fun c10 => ?_)
    · skip
      have h := h.1 c10
      refine lv_aload_n hx hb dX12_skipAtom_112 rfl (lv_at hl 0 rfl) ?_
      refine z_bipush hx hb (by decide) dX12_skipAtom_113 ?_
      refine z_bipush hx hb (by decide) dX12_skipAtom_115 ?_
      refine w_callz (va_runV (As := [.int (iI 40), .int (iI 40)]) (rest := []) ⟨hx, hb, hml, hown, hts⟩ (cR_has l D dA b M 40 40 _ h) (cwV 2 hts (z_gV k1067 k1068 k1393 k14 k1069) rfl rfl rfl dm_X12_has ⟨by simp only [z_rm, headSpec]; omega, by simp only [z_rm, headSpec]; omega⟩) ⟨wPre_blind, (w_recv hS hK.1 (by decide) (zkd_of (rfl : zcd wR 0 = 50) rfl) (by decide) (rfl : vwCl[12]? = some (RX12, TX12, 50))), w_pre hS hK⟩ rfl rfl hl.1 rfl (lv_room (Nat.le_of_ble_eq_true rfl)) dX12_skipAtom_117 ⟨Nat.le_refl _, Nat.le_refl _⟩) hS0 (fun z12 M11 H locs r13 h hS hS0 => ?_)
      obtain ⟨e14, h⟩ := h
      rw [e14] at hS
      refine w_if_eq (tgt := 128) hx hb (sI_01 r13) dX12_skipAtom_120 (by decide) (fun c15 => ?_) (fun c15 => ?_)
      · skip
        have h := h.1 c15
        refine lv_aload_n hx hb dX12_skipAtom_128 rfl (lv_at hl 0 rfl) ?_
        refine w_callz (va_runV (As := []) (rest := []) ⟨hx, hb, hml, hown, hts⟩ (cR_isWrong l D dA b M  _ h) (cwV 0 hts (z_gV k1070 k1071 k1394 k14 k1072) rfl rfl rfl dm_X12_isWrong ⟨by simp only [z_rm, headSpec]; omega, by simp only [z_rm, headSpec]; omega⟩) ⟨wPre_blind, (w_recv hS hK.1 (by decide) (zkd_of (rfl : zcd wR 0 = 50) rfl) (by decide) (rfl : vwCl[12]? = some (RX12, TX12, 50))), w_pre hS hK⟩ rfl rfl hl.1 rfl (lv_room (Nat.le_of_ble_eq_true rfl)) dX12_skipAtom_129 ⟨Nat.le_refl _, Nat.le_refl _⟩) hS0 (fun z17 M16 H locs r18 h hS hS0 => ?_)
        exact w_zret hx hb hr hlocks hS hS0 (sI_01 r18) r18 h dX12_skipAtom_132
      · skip
        have h := h.2 c15
        refine lv_iload_n hx hb dX12_skipAtom_123 rfl (lv_at hl 1 rfl) ?_
        refine z_iconst hx hb dX12_skipAtom_124 ?_
        refine w_icmp_ne (tgt := 133) hx hb rfl (sI_of (by decide)) dX12_skipAtom_125 (by decide) (fun c19 => ?_) (fun c19 => ?_)
        · skip
          have h := h.1 c19
          refine lv_aload_n hx hb dX12_skipAtom_133 rfl (lv_at hl 0 rfl) ?_
          refine lv_dup hx hb dX12_skipAtom_134 rfl ?_
          refine w_geti hx hb hts (z_memU u12) hown hK.1 hS f12_36 (by decide) (zkd_of (rfl : zcd wR 0 = 50) rfl) (Or.inl (hts _ (z_mem k980))) dX12_skipAtom_135 ?_
          refine z_iconst hx hb dX12_skipAtom_138 ?_
          refine z_iadd hx hb dX12_skipAtom_139 ?_
          refine w_puti hx hb hts (z_memU u12) tyX12 tyX12_ok nmX12 hown hK.1 hS hS0 f12_36 (by decide) (zkd_of (rfl : zcd wR 0 = 50) rfl) (Or.inl (hts _ (z_mem k980))) rfl (z := ((M 0 36) + 1)) (by decide +kernel) dX12_skipAtom_140 (fun H locs hS hS0 => ?_)
          obtain ⟨M20, e21⟩ : ∃ M20 : zM, M20 = zup M 0 36 ((M 0 36) + 1) := ⟨_, rfl⟩
          rw [← e21] at hS
          have h := h M20 e21
          refine lv_aload_n hx hb dX12_skipAtom_143 rfl (lv_at hl 0 rfl) ?_
          refine lv_iload_n hx hb dX12_skipAtom_144 rfl (lv_at hl 1 rfl) ?_
          refine z_iconst hx hb dX12_skipAtom_145 ?_
          refine z_iadd hx hb dX12_skipAtom_146 ?_
          refine w_callz (va_runV (As := [.int (iI (a0 + 1))]) (rest := []) ⟨hx, hb, hml, hown, hts⟩ (hrec b M20 (a0 + 1) _ h) (cwV 1 hts (z_gV k1058 k1059 k1390 k14 k1060) rfl rfl rfl dm_X12_skipRow ⟨by simp only [z_rm, headSpec]; omega, by simp only [z_rm, headSpec]; omega⟩) ⟨wPre_blind, (w_recv hS hK.1 (by decide) (zkd_of (rfl : zcd wR 0 = 50) rfl) (by decide) (rfl : vwCl[12]? = some (RX12, TX12, 50))), w_pre hS hK⟩ rfl rfl hl.1 rfl (lv_room (Nat.le_of_ble_eq_true rfl)) dX12_skipAtom_147 ⟨Nat.le_refl _, Nat.le_refl _⟩) hS0 (fun z23 M22 H locs r24 h hS hS0 => ?_)
          refine w_if_ne (tgt := 155) hx hb (sI_01 r24) dX12_skipAtom_150 (by decide) (fun c25 => ?_) (fun c25 => ?_)
          · skip
            have h := h.1 c25
            refine lv_aload_n hx hb dX12_skipAtom_155 rfl (lv_at hl 0 rfl) ?_
            refine z_bipush hx hb (by decide) dX12_skipAtom_156 ?_
            refine z_bipush hx hb (by decide) dX12_skipAtom_158 ?_
            refine w_callz (va_runV (As := [.int (iI 41), .int (iI 41)]) (rest := []) ⟨hx, hb, hml, hown, hts⟩ (cR_has l D dA b M22 41 41 _ h) (cwV 2 hts (z_gV k1067 k1068 k1393 k14 k1069) rfl rfl rfl dm_X12_has ⟨by simp only [z_rm, headSpec]; omega, by simp only [z_rm, headSpec]; omega⟩) ⟨wPre_blind, (w_recv hS hK.1 (by decide) (zkd_of (rfl : zcd wR 0 = 50) rfl) (by decide) (rfl : vwCl[12]? = some (RX12, TX12, 50))), w_pre hS hK⟩ rfl rfl hl.1 rfl (lv_room (Nat.le_of_ble_eq_true rfl)) dX12_skipAtom_160 ⟨Nat.le_refl _, Nat.le_refl _⟩) hS0 (fun z27 M26 H locs r28 h hS hS0 => ?_)
            obtain ⟨e29, h⟩ := h
            rw [e29] at hS
            refine w_if_ne (tgt := 171) hx hb (sI_01 r28) dX12_skipAtom_163 (by decide) (fun c30 => ?_) (fun c30 => ?_)
            · skip
              have h := h.1 c30
              refine lv_aload_n hx hb dX12_skipAtom_171 rfl (lv_at hl 0 rfl) ?_
              refine lv_dup hx hb dX12_skipAtom_172 rfl ?_
              refine w_geti hx hb hts (z_memU u12) hown hK.1 hS f12_36 (by decide) (zkd_of (rfl : zcd wR 0 = 50) rfl) (Or.inl (hts _ (z_mem k980))) dX12_skipAtom_173 ?_
              refine z_iconst hx hb dX12_skipAtom_176 ?_
              refine z_iadd hx hb dX12_skipAtom_177 ?_
              refine w_puti hx hb hts (z_memU u12) tyX12 tyX12_ok nmX12 hown hK.1 hS hS0 f12_36 (by decide) (zkd_of (rfl : zcd wR 0 = 50) rfl) (Or.inl (hts _ (z_mem k980))) rfl (z := ((M22 0 36) + 1)) (by decide +kernel) dX12_skipAtom_178 (fun H locs hS hS0 => ?_)
              obtain ⟨M31, e32⟩ : ∃ M31 : zM, M31 = zup M22 0 36 ((M22 0 36) + 1) := ⟨_, rfl⟩
              rw [← e32] at hS
              have h := h M31 e32
              refine z_iconst hx hb dX12_skipAtom_181 ?_
              exact w_zret hx hb hr hlocks hS hS0 (sI_of (by decide)) (by decide) h dX12_skipAtom_182
            · skip
              have h := h.2 c30
              refine lv_aload_n hx hb dX12_skipAtom_166 rfl (lv_at hl 0 rfl) ?_
              refine w_callz (va_runV (As := []) (rest := []) ⟨hx, hb, hml, hown, hts⟩ (cR_isWrong l D dA b M22  _ h) (cwV 0 hts (z_gV k1070 k1071 k1394 k14 k1072) rfl rfl rfl dm_X12_isWrong ⟨by simp only [z_rm, headSpec]; omega, by simp only [z_rm, headSpec]; omega⟩) ⟨wPre_blind, (w_recv hS hK.1 (by decide) (zkd_of (rfl : zcd wR 0 = 50) rfl) (by decide) (rfl : vwCl[12]? = some (RX12, TX12, 50))), w_pre hS hK⟩ rfl rfl hl.1 rfl (lv_room (Nat.le_of_ble_eq_true rfl)) dX12_skipAtom_167 ⟨Nat.le_refl _, Nat.le_refl _⟩) hS0 (fun z34 M33 H locs r35 h hS hS0 => ?_)
              exact w_zret hx hb hr hlocks hS hS0 (sI_01 r35) r35 h dX12_skipAtom_170
          · skip
            have h := h.2 c25
            refine z_iconst hx hb dX12_skipAtom_153 ?_
            exact w_zret hx hb hr hlocks hS hS0 (sI_of (by decide)) (by decide) h dX12_skipAtom_154
        · skip
          have h := h.2 c19
          refine lv_aload_n hx hb dX12_skipAtom_128 rfl (lv_at hl 0 rfl) ?_
          refine w_callz (va_runV (As := []) (rest := []) ⟨hx, hb, hml, hown, hts⟩ (cR_isWrong l D dA b M  _ h) (cwV 0 hts (z_gV k1070 k1071 k1394 k14 k1072) rfl rfl rfl dm_X12_isWrong ⟨by simp only [z_rm, headSpec]; omega, by simp only [z_rm, headSpec]; omega⟩) ⟨wPre_blind, (w_recv hS hK.1 (by decide) (zkd_of (rfl : zcd wR 0 = 50) rfl) (by decide) (rfl : vwCl[12]? = some (RX12, TX12, 50))), w_pre hS hK⟩ rfl rfl hl.1 rfl (lv_room (Nat.le_of_ble_eq_true rfl)) dX12_skipAtom_129 ⟨Nat.le_refl _, Nat.le_refl _⟩) hS0 (fun z37 M36 H locs r38 h hS hS0 => ?_)
          exact w_zret hx hb hr hlocks hS hS0 (sI_01 r38) r38 h dX12_skipAtom_132
    · skip
      have h := h.2 c10
      refine lv_aload_n hx hb dX12_skipAtom_34 rfl (lv_at hl 0 rfl) ?_
      refine lv_dup hx hb dX12_skipAtom_35 rfl ?_
      refine w_geti hx hb hts (z_memU u12) hown hK.1 hS f12_36 (by decide) (zkd_of (rfl : zcd wR 0 = 50) rfl) (Or.inl (hts _ (z_mem k980))) dX12_skipAtom_36 ?_
      refine z_iconst hx hb dX12_skipAtom_39 ?_
      refine z_iadd hx hb dX12_skipAtom_40 ?_
      refine w_puti hx hb hts (z_memU u12) tyX12 tyX12_ok nmX12 hown hK.1 hS hS0 f12_36 (by decide) (zkd_of (rfl : zcd wR 0 = 50) rfl) (Or.inl (hts _ (z_mem k980))) rfl (z := ((M 0 36) + 1)) (by decide +kernel) dX12_skipAtom_41 (fun H locs hS hS0 => ?_)
      obtain ⟨M39, e40⟩ : ∃ M39 : zM, M39 = zup M 0 36 ((M 0 36) + 1) := ⟨_, rfl⟩
      rw [← e40] at hS
      have h := h M39 e40
      refine lv_aload_n hx hb dX12_skipAtom_44 rfl (lv_at hl 0 rfl) ?_
      refine z_bipush hx hb (by decide) dX12_skipAtom_45 ?_
      refine z_bipush hx hb (by decide) dX12_skipAtom_47 ?_
      refine w_callz (va_runV (As := [.int (iI 49), .int (iI 57)]) (rest := []) ⟨hx, hb, hml, hown, hts⟩ (cR_has l D dA b M39 49 57 _ h) (cwV 2 hts (z_gV k1067 k1068 k1393 k14 k1069) rfl rfl rfl dm_X12_has ⟨by simp only [z_rm, headSpec]; omega, by simp only [z_rm, headSpec]; omega⟩) ⟨wPre_blind, (w_recv hS hK.1 (by decide) (zkd_of (rfl : zcd wR 0 = 50) rfl) (by decide) (rfl : vwCl[12]? = some (RX12, TX12, 50))), w_pre hS hK⟩ rfl rfl hl.1 rfl (lv_room (Nat.le_of_ble_eq_true rfl)) dX12_skipAtom_49 ⟨Nat.le_refl _, Nat.le_refl _⟩) hS0 (fun z42 M41 H locs r43 h hS hS0 => ?_)
      obtain ⟨e44, h⟩ := h
      rw [e44] at hS
      refine w_if_ne (tgt := 60) hx hb (sI_01 r43) dX12_skipAtom_52 (by decide) (fun c45 => ?_) (fun c45 => ?_)
      · skip
        have h := h.1 c45
        obtain ⟨I47, ⟨n48, h49⟩, h50⟩ := h
        have L51 : ∀ (n52 : Nat) (M46 : zM) (H : Heap) (locs : List Loc) (ls : Array Slot), I47 n52 M46 → zR D dA vwCl wR nR b M46 H → va_S (zA nR b) s.heap H locs → lv_has ls 2 [(0, .ref (b + 0))] → W p l e (headSpec (.code yX12_skipAtom cX12_skipAtom 2 (some .boolean) :: zt) (z_rm (dd + 1))).room s m args below meth c H locs 0 0 (MQ below (va_Qi (wQz Q) (zB D dA vwCl wR nR b) (zA nR b)) args s 0 0 (zA nR b)) (F0 m 60 ls []) := by
          intro n52
          induction n52 using Nat.strongRecOn with
          | ind n52 i53 =>
            intro M46 H locs ls h hS hS0 hl
            have h := h50 n52 M46 h
            refine lv_aload_n hx hb dX12_skipAtom_60 rfl (lv_at hl 0 rfl) ?_
            refine z_bipush hx hb (by decide) dX12_skipAtom_61 ?_
            refine z_bipush hx hb (by decide) dX12_skipAtom_63 ?_
            refine w_callz (va_runV (As := [.int (iI 49), .int (iI 57)]) (rest := []) ⟨hx, hb, hml, hown, hts⟩ (cR_has l D dA b M46 49 57 _ h) (cwV 2 hts (z_gV k1067 k1068 k1393 k14 k1069) rfl rfl rfl dm_X12_has ⟨by simp only [z_rm, headSpec]; omega, by simp only [z_rm, headSpec]; omega⟩) ⟨wPre_blind, (w_recv hS hK.1 (by decide) (zkd_of (rfl : zcd wR 0 = 50) rfl) (by decide) (rfl : vwCl[12]? = some (RX12, TX12, 50))), w_pre hS hK⟩ rfl rfl hl.1 rfl (lv_room (Nat.le_of_ble_eq_true rfl)) dX12_skipAtom_65 ⟨Nat.le_refl _, Nat.le_refl _⟩) hS0 (fun z55 M54 H locs r56 h hS hS0 => ?_)
            obtain ⟨e57, h⟩ := h
            rw [e57] at hS
            refine w_if_eq (tgt := 84) hx hb (sI_01 r56) dX12_skipAtom_68 (by decide) (fun c58 => ?_) (fun c58 => ?_)
            · skip
              have h := h.1 c58
              refine lv_aload_n hx hb dX12_skipAtom_84 rfl (lv_at hl 0 rfl) ?_
              refine z_bipush hx hb (by decide) dX12_skipAtom_85 ?_
              refine z_bipush hx hb (by decide) dX12_skipAtom_87 ?_
              refine w_callz (va_runV (As := [.int (iI 93), .int (iI 93)]) (rest := []) ⟨hx, hb, hml, hown, hts⟩ (cR_has l D dA b M46 93 93 _ h) (cwV 2 hts (z_gV k1067 k1068 k1393 k14 k1069) rfl rfl rfl dm_X12_has ⟨by simp only [z_rm, headSpec]; omega, by simp only [z_rm, headSpec]; omega⟩) ⟨wPre_blind, (w_recv hS hK.1 (by decide) (zkd_of (rfl : zcd wR 0 = 50) rfl) (by decide) (rfl : vwCl[12]? = some (RX12, TX12, 50))), w_pre hS hK⟩ rfl rfl hl.1 rfl (lv_room (Nat.le_of_ble_eq_true rfl)) dX12_skipAtom_89 ⟨Nat.le_refl _, Nat.le_refl _⟩) hS0 (fun z60 M59 H locs r61 h hS hS0 => ?_)
              obtain ⟨e62, h⟩ := h
              rw [e62] at hS
              refine w_if_ne (tgt := 100) hx hb (sI_01 r61) dX12_skipAtom_92 (by decide) (fun c63 => ?_) (fun c63 => ?_)
              · skip
                have h := h.1 c63
                refine lv_aload_n hx hb dX12_skipAtom_100 rfl (lv_at hl 0 rfl) ?_
                refine lv_dup hx hb dX12_skipAtom_101 rfl ?_
                refine w_geti hx hb hts (z_memU u12) hown hK.1 hS f12_36 (by decide) (zkd_of (rfl : zcd wR 0 = 50) rfl) (Or.inl (hts _ (z_mem k980))) dX12_skipAtom_102 ?_
                refine z_iconst hx hb dX12_skipAtom_105 ?_
                refine z_iadd hx hb dX12_skipAtom_106 ?_
                refine w_puti hx hb hts (z_memU u12) tyX12 tyX12_ok nmX12 hown hK.1 hS hS0 f12_36 (by decide) (zkd_of (rfl : zcd wR 0 = 50) rfl) (Or.inl (hts _ (z_mem k980))) rfl (z := ((M46 0 36) + 1)) (by decide +kernel) dX12_skipAtom_107 (fun H locs hS hS0 => ?_)
                obtain ⟨M64, e65⟩ : ∃ M64 : zM, M64 = zup M46 0 36 ((M46 0 36) + 1) := ⟨_, rfl⟩
                rw [← e65] at hS
                have h := h M64 e65
                refine z_iconst hx hb dX12_skipAtom_110 ?_
                exact w_zret hx hb hr hlocks hS hS0 (sI_of (by decide)) (by decide) h dX12_skipAtom_111
              · skip
                have h := h.2 c63
                refine lv_aload_n hx hb dX12_skipAtom_95 rfl (lv_at hl 0 rfl) ?_
                refine w_callz (va_runV (As := []) (rest := []) ⟨hx, hb, hml, hown, hts⟩ (cR_isWrong l D dA b M46  _ h) (cwV 0 hts (z_gV k1070 k1071 k1394 k14 k1072) rfl rfl rfl dm_X12_isWrong ⟨by simp only [z_rm, headSpec]; omega, by simp only [z_rm, headSpec]; omega⟩) ⟨wPre_blind, (w_recv hS hK.1 (by decide) (zkd_of (rfl : zcd wR 0 = 50) rfl) (by decide) (rfl : vwCl[12]? = some (RX12, TX12, 50))), w_pre hS hK⟩ rfl rfl hl.1 rfl (lv_room (Nat.le_of_ble_eq_true rfl)) dX12_skipAtom_96 ⟨Nat.le_refl _, Nat.le_refl _⟩) hS0 (fun z67 M66 H locs r68 h hS hS0 => ?_)
                exact w_zret hx hb hr hlocks hS hS0 (sI_01 r68) r68 h dX12_skipAtom_99
            · skip
              have h := h.2 c58
              refine lv_aload_n hx hb dX12_skipAtom_71 rfl (lv_at hl 0 rfl) ?_
              refine lv_dup hx hb dX12_skipAtom_72 rfl ?_
              refine w_geti hx hb hts (z_memU u12) hown hK.1 hS f12_36 (by decide) (zkd_of (rfl : zcd wR 0 = 50) rfl) (Or.inl (hts _ (z_mem k980))) dX12_skipAtom_73 ?_
              refine z_iconst hx hb dX12_skipAtom_76 ?_
              refine z_iadd hx hb dX12_skipAtom_77 ?_
              refine w_puti hx hb hts (z_memU u12) tyX12 tyX12_ok nmX12 hown hK.1 hS hS0 f12_36 (by decide) (zkd_of (rfl : zcd wR 0 = 50) rfl) (Or.inl (hts _ (z_mem k980))) rfl (z := ((M46 0 36) + 1)) (by decide +kernel) dX12_skipAtom_78 (fun H locs hS hS0 => ?_)
              obtain ⟨M69, e70⟩ : ∃ M69 : zM, M69 = zup M46 0 36 ((M46 0 36) + 1) := ⟨_, rfl⟩
              rw [← e70] at hS
              have h := h M69 e70
              refine lv_goto (tgt := 60) hx hb dX12_skipAtom_81 (by decide) ?_
              obtain ⟨n71, h72, h⟩ := h
              exact i53 n71 h72 M69 _ _ _ h hS hS0 (lv_sub hl [0] rfl)
        exact L51 n48 M39 _ _ _ h49 hS hS0 (lv_sub hl [0] rfl)
      · skip
        have h := h.2 c45
        refine lv_aload_n hx hb dX12_skipAtom_55 rfl (lv_at hl 0 rfl) ?_
        refine w_callz (va_runV (As := []) (rest := []) ⟨hx, hb, hml, hown, hts⟩ (cR_isWrong l D dA b M39  _ h) (cwV 0 hts (z_gV k1070 k1071 k1394 k14 k1072) rfl rfl rfl dm_X12_isWrong ⟨by simp only [z_rm, headSpec]; omega, by simp only [z_rm, headSpec]; omega⟩) ⟨wPre_blind, (w_recv hS hK.1 (by decide) (zkd_of (rfl : zcd wR 0 = 50) rfl) (by decide) (rfl : vwCl[12]? = some (RX12, TX12, 50))), w_pre hS hK⟩ rfl rfl hl.1 rfl (lv_room (Nat.le_of_ble_eq_true rfl)) dX12_skipAtom_56 ⟨Nat.le_refl _, Nat.le_refl _⟩) hS0 (fun z74 M73 H locs r75 h hS hS0 => ?_)
        exact w_zret hx hb hr hlocks hS hS0 (sI_01 r75) r75 h dX12_skipAtom_59
  · skip
    have h := h.2 c5
    refine lv_aload_n hx hb dX12_skipAtom_11 rfl (lv_at hl 0 rfl) ?_
    refine lv_dup hx hb dX12_skipAtom_12 rfl ?_
    refine w_geti hx hb hts (z_memU u12) hown hK.1 hS f12_36 (by decide) (zkd_of (rfl : zcd wR 0 = 50) rfl) (Or.inl (hts _ (z_mem k980))) dX12_skipAtom_13 ?_
    refine z_iconst hx hb dX12_skipAtom_16 ?_
    refine z_iadd hx hb dX12_skipAtom_17 ?_
    refine w_puti hx hb hts (z_memU u12) tyX12 tyX12_ok nmX12 hown hK.1 hS hS0 f12_36 (by decide) (zkd_of (rfl : zcd wR 0 = 50) rfl) (Or.inl (hts _ (z_mem k980))) rfl (z := ((M 0 36) + 1)) (by decide +kernel) dX12_skipAtom_18 (fun H locs hS hS0 => ?_)
    obtain ⟨M76, e77⟩ : ∃ M76 : zM, M76 = zup M 0 36 ((M 0 36) + 1) := ⟨_, rfl⟩
    rw [← e77] at hS
    have h := h M76 e77
    refine z_iconst hx hb dX12_skipAtom_21 ?_
    exact w_zret hx hb hr hlocks hS hS0 (sI_of (by decide)) (by decide) h dX12_skipAtom_22

def wR_skipRow : Nat → Int → zM → (Int → zM → Prop) → Prop
  | 0 => fun _ _ _ => False
  | n + 1 => wR_skipRow_F (wR_skipTerm_F (wR_skipAtom_F (wR_skipRow n)))
set_option maxHeartbeats 4000000 in
set_option maxRecDepth 100000 in
theorem cR_skipRow (n : Nat) (l : Launch) (D : va_G) (dA : Nat → ClassId) : ∀ (b : Nat) (M : zM) (a0 : Int)  (Q : Int → zM → Prop), wR_skipRow n a0 M Q → Met l yX12_skipRow (.code yX12_skipRow cX12_skipRow 2 (some .boolean) :: zt) (z_rm (3 * n + 1)) (va_Pc [.ref (b + 0), .int (iI a0)] (wPre D dA vwCl (z_tys dA) wR nR b M)) (va_Qi (wQz Q) (zB D dA vwCl wR nR b) (zA nR b)) 0 0 (zA nR b) := by
  induction n with
  | zero => intro b M a0  Q h; exact h.elim
  | succ n ih =>
    intro b M a0  Q h
    rw [show 3 * (n + 1) + 1 = 3 * n + 1 + 2 + 1 from by omega]
    exact cR_skipRow_F (3 * n + 1 + 2) _ l D dA (by omega) (fun b M a0  Q h => cR_skipTerm_F (3 * n + 1 + 1) _ l D dA (by omega) (fun b M a0  Q h => cR_skipAtom_F (3 * n + 1) _ l D dA (by omega) ih b M a0  Q h) b M a0  Q h) b M a0  Q h

set_option maxRecDepth 100000 in
def wR_makeRow_F (R9 : Int → zM → (Int → zM → Prop) → Prop) (a0 : Int) (M : zM) (Q : Int → zM → Prop) : Prop := R9 a0 M (fun z2 M1 => (0 ≤ z2 → ((0 ≤ (sI a0) ∧ (sI a0) < 6) ∧ ((0 ≤ (sI a0) ∧ (sI a0) < 6) ∧ (∀ M7 : zM, M7 = zup M1 24 (sI a0).toNat (M1 26 (sI a0).toNat) → wL1 (fun K26 x9 M10 => ((0 ≤ (sI a0) ∧ (sI a0) < 6) ∧ ((sI (M10 26 (sI a0).toNat)) ≤ (sI x9) → wL0 (fun K64 M20 => wR_has 47 47 M20 (fun z29 => pJ0 (fun J108 => (z29 ≠ 0 → J108) ∧ (z29 = 0 → wR_has 48 57 M20 (fun z115 => (z115 ≠ 0 → J108) ∧ (z115 = 0 → wR_has 91 91 M20 (fun z120 => (z120 ≠ 0 → J108) ∧ (z120 = 0 → wR_has 40 40 M20 (fun z125 => (z125 = 0 → Q 0 M20) ∧ (z125 ≠ 0 → J108)))))))) (wR_has 47 47 M20 (fun z51 => wJ1 (fun J146 => (z51 = 0 → J146 0 M20) ∧ (z51 ≠ 0 → ((0 ≤ (sI ((M20 0 36) + 1)) ∧ (sI ((M20 0 36) + 1)) < 100) ∧ (∀ t109 : Int, t109 = ((M20 1 (sI ((M20 0 36) + 1)).toNat) - 48) → (∀ M111 : zM, M111 = zup M20 0 36 ((M20 0 36) + 2) → J146 t109 M111))))) (fun (x60 : Int) (M61 : zM) => R9 a0 M61 (fun z65 M64 => (0 ≤ z65 → ((0 ≤ (sI a0) ∧ (sI a0) < 6) ∧ ((sI (M64 24 (sI a0).toNat)) < (sI x60) → Q (-101) M64) ∧ ((sI x60) ≤ (sI (M64 24 (sI a0).toNat)) → ((0 ≤ (sI a0) ∧ (sI a0) < 6) ∧ ((sI x60) ≤ (sI (M64 26 (sI a0).toNat)) → ((0 ≤ (sI a0) ∧ (sI a0) < 6) ∧ ((0 ≤ (sI a0) ∧ (sI a0) < 6) ∧ ((sI (((M64 24 (sI a0).toNat) - x60) + (M64 26 (sI a0).toNat))) ≤ 24 → wL1 (fun K211 x75 M76 => ((0 ≤ (sI a0) ∧ (sI a0) < 6) ∧ ((sI (M76 26 (sI a0).toNat)) ≤ (sI x75) → ((0 ≤ (sI a0) ∧ (sI a0) < 6) ∧ ((0 ≤ (sI a0) ∧ (sI a0) < 6) ∧ (∀ M88 : zM, M88 = zup M76 24 (sI a0).toNat (((M64 24 (sI a0).toNat) - x60) + (M76 26 (sI a0).toNat)) → K64 M88)))) ∧ ((sI x75) < (sI (M76 26 (sI a0).toNat)) → (∀ t92 : Int, t92 = (((24 * a0) + ((M64 24 (sI a0).toNat) - x60)) + x75) → ((0 ≤ (sI ((24 * a0) + x75)) ∧ (sI ((24 * a0) + x75)) < 144) ∧ ((sI x60) ≤ (sI x75) → ((0 ≤ (sI t92) ∧ (sI t92) < 144) ∧ (∀ M97 : zM, M97 = zup M76 23 (sI t92).toNat (orI (M76 25 (sI ((24 * a0) + x75)).toNat) 0) → K211 (x75 + 1) M97))) ∧ ((sI x75) < (sI x60) → ((0 ≤ (sI t92) ∧ (sI t92) < 144) ∧ ((0 ≤ (sI t92) ∧ (sI t92) < 144) ∧ (∀ M103 : zM, M103 = zup M76 23 (sI t92).toNat (orI (M76 25 (sI ((24 * a0) + x75)).toNat) (M76 23 (sI t92).toNat)) → K211 (x75 + 1) M103))))))))) 0 M64) ∧ (24 < (sI (((M64 24 (sI a0).toNat) - x60) + (M64 26 (sI a0).toNat))) → Q (-100) M64)))) ∧ ((sI (M64 26 (sI a0).toNat)) < (sI x60) → Q (-101) M64))))) ∧ (z65 < 0 → Q z65 M64))))))) M10) ∧ ((sI x9) < (sI (M10 26 (sI a0).toNat)) → ((0 ≤ (sI ((24 * a0) + x9)) ∧ (sI ((24 * a0) + x9)) < 144) ∧ ((0 ≤ (sI ((24 * a0) + x9)) ∧ (sI ((24 * a0) + x9)) < 144) ∧ (∀ M131 : zM, M131 = zup M10 23 (sI ((24 * a0) + x9)).toNat (M10 25 (sI ((24 * a0) + x9)).toNat) → K26 (x9 + 1) M131)))))) 0 M7)))) ∧ (z2 < 0 → Q z2 M1))
set_option maxHeartbeats 4000000 in
set_option maxRecDepth 100000 in
theorem cR_makeRow_F (dd : Nat) (R9 : Int → zM → (Int → zM → Prop) → Prop) (l : Launch) (D : va_G) (dA : Nat → ClassId) (hdd : 1 ≤ dd) (hrec : ∀ (b : Nat) (M : zM) (a0 : Int)  (Q : Int → zM → Prop), R9 a0 M Q → Met l yX12_makeTerm (.code yX12_makeTerm cX12_makeTerm 6 (some .int) :: zt) (z_rm dd) (va_Pc [.ref (b + 0), .int (iI a0)] (wPre D dA vwCl (z_tys dA) wR nR b M)) (va_Qi (wQi Q) (zB D dA vwCl wR nR b) (zA nR b)) 0 0 (zA nR b)) (b : Nat) (M : zM) (a0 : Int)  (Q : Int → zM → Prop) (h : wR_makeRow_F R9 a0 M Q) : Met l yX12_makeRow (.code yX12_makeRow cX12_makeRow 7 (some .int) :: zt) (z_rm (dd + 1)) (va_Pc [.ref (b + 0), .int (iI a0)] (wPre D dA vwCl (z_tys dA) wR nR b M)) (va_Qi (wQi Q) (zB D dA vwCl wR nR b) (zA nR b)) 0 0 (zA nR b) := by
  unfold wR_makeRow_F at h
  refine Met.ofW (cc := cX12_makeRow) (maxL := 7) (ret := (some .int)) (by decide) rfl ?_
  intro p e s m args below meth c s₁ B hml hv
  obtain ⟨hargs, hS, hK⟩ := hv
  have hx := B.exec
  have hb := B.bytes
  have hr := B.returns
  have hts := atoms_spec (ws := .code yX12_makeRow cX12_makeRow 7 (some .int) :: zt) B.pre
  have hown : s.vm.findClass RX12 = some m.cls := findClass_of_methodNamed B.named
  have hlocks := B.notSynchronized
  have hS0 : va_S (zA nR b) s.heap s.heap [] := va_S.rf
  have hl := lv_entry ([.ref (b + 0), .int (iI a0)]) (n := 7) (Nat.le_of_ble_eq_true rfl)
  have hent : entryFrame m args 7 = F0 m 0 ((lg_sl ([.ref (b + 0), .int (iI a0)]) ++ List.replicate (7 - (lg_sl ([.ref (b + 0), .int (iI a0)])).length) Slot.unset).toArray) [] := by rw [hargs]; exact lg_entry_eq m ([.ref (b + 0), .int (iI a0)]) 7
  rw [hent]
  generalize (lg_sl ([.ref (b + 0), .int (iI a0)]) ++ List.replicate (7 - (lg_sl ([.ref (b + 0), .int (iI a0)])).length) Slot.unset).toArray = ls at hl ⊢
  have hl : lv_has ls 7 [(0, .ref (b + 0)), (1, .int (iI a0))] := hl
  refine lv_aload_n hx hb dX12_makeRow_0 rfl (lv_at hl 0 rfl) ?_
  refine lv_iload_n hx hb dX12_makeRow_1 rfl (lv_at hl 1 rfl) ?_
  refine w_calli (va_runV (As := [.int (iI a0)]) (rest := []) ⟨hx, hb, hml, hown, hts⟩ (hrec b M a0 _ h) (cwV 1 hts (z_gV k1076 k1077 k1396 k14 k1078) rfl rfl rfl dm_X12_makeTerm ⟨by simp only [z_rm, headSpec]; omega, by simp only [z_rm, headSpec]; omega⟩) ⟨wPre_blind, (w_recv hS hK.1 (by decide) (zkd_of (rfl : zcd wR 0 = 50) rfl) (by decide) (rfl : vwCl[12]? = some (RX12, TX12, 50))), w_pre hS hK⟩ rfl rfl hl.1 rfl (lv_room (Nat.le_of_ble_eq_true rfl)) dX12_makeRow_2 ⟨Nat.le_refl _, Nat.le_refl _⟩) hS0 (fun z2 M1 H locs r3 h hS hS0 => ?_)
  refine lv_istore_n (lv' := [(2, .int (iI z2)), (0, .ref (b + 0)), (1, .int (iI a0))]) hx hb dX12_makeRow_5 rfl hl (by decide) rfl (fun ls hl => ?_)
  refine lv_iload_n hx hb dX12_makeRow_6 rfl (lv_at hl 0 rfl) ?_
  refine w_if_ge (tgt := 12) hx hb (sI_of r3) dX12_makeRow_7 (by decide) (fun c4 => ?_) (fun c4 => ?_)
  · skip
    have h := h.1 c4
    refine lv_aload_n hx hb dX12_makeRow_12 rfl (lv_at hl 1 rfl) ?_
    refine w_getr (j2 := 24) hx hb hts (z_memU u12) hown hK.1 hS f12_39 (by decide) (zkd_of (rfl : zcd wR 0 = 50) rfl) (zrf_of (rfl : zcd wR 0 = 50) rfl) (Or.inl (hts _ (z_mem k983))) dX12_makeRow_13 ?_
    refine lv_iload_n hx hb dX12_makeRow_16 rfl (lv_at hl 2 rfl) ?_
    refine lv_aload_n hx hb dX12_makeRow_17 rfl (lv_at hl 1 rfl) ?_
    refine w_getr (j2 := 26) hx hb hts (z_memU u12) hown hK.1 hS f12_41 (by decide) (zkd_of (rfl : zcd wR 0 = 50) rfl) (zrf_of (rfl : zcd wR 0 = 50) rfl) (Or.inl (hts _ (z_mem k985))) dX12_makeRow_18 ?_
    refine lv_iload_n hx hb dX12_makeRow_21 rfl (lv_at hl 2 rfl) ?_
    obtain ⟨o5, h⟩ := h
    refine w_iald (n := 6) (i := (sI a0)) hx hb hK.1 (t0 := 0) rfl hS (by decide) (zkd_of (rfl : zcd wR 26 = 76) rfl) (zln_of (rfl : zcd wR 26 = 76) rfl) rfl o5.1 o5.2 (by decide) dX12_makeRow_22 ?_
    obtain ⟨o6, h⟩ := h
    refine w_iast (z := (M1 26 (sI a0).toNat)) (n := 6) (i := (sI a0)) hx hb hK.1 (t0 := 0) rfl hS hS0 (by decide) (zkd_of (rfl : zcd wR 24 = 74) rfl) (zln_of (rfl : zcd wR 24 = 74) rfl) rfl o6.1 o6.2 (by decide) dX12_makeRow_23 (fun H locs hS hS0 => ?_)
    obtain ⟨M7, e8⟩ : ∃ M7 : zM, M7 = zup M1 24 (sI a0).toNat (M1 26 (sI a0).toNat) := ⟨_, rfl⟩
    rw [← e8] at hS
    have h := h M7 e8
    refine z_iconst hx hb dX12_makeRow_24 ?_
    refine lv_istore_n (lv' := [(3, .int (iI 0)), (2, .int (iI z2)), (0, .ref (b + 0)), (1, .int (iI a0))]) hx hb dX12_makeRow_25 rfl hl (by decide) rfl (fun ls hl => ?_)
    obtain ⟨I11, ⟨n12, h13⟩, h14⟩ := h
    have L15 : ∀ (n16 : Nat) (x9 : Int) (M10 : zM) (H : Heap) (locs : List Loc) (ls : Array Slot), I11 n16 x9 M10 → zR D dA vwCl wR nR b M10 H → va_S (zA nR b) s.heap H locs → lv_has ls 7 [(0, .ref (b + 0)), (1, .int (iI a0)), (3, .int (iI x9))] → W p l e (headSpec (.code yX12_makeRow cX12_makeRow 7 (some .int) :: zt) (z_rm (dd + 1))).room s m args below meth c H locs 0 0 (MQ below (va_Qi (wQi Q) (zB D dA vwCl wR nR b) (zA nR b)) args s 0 0 (zA nR b)) (F0 m 26 ls []) := by
      intro n16
      induction n16 using Nat.strongRecOn with
      | ind n16 i17 =>
        intro x9 M10 H locs ls h hS hS0 hl
        have h := h14 n16 x9 M10 h
        refine lv_iload_n hx hb dX12_makeRow_26 rfl (lv_at hl 2 rfl) ?_
        refine lv_aload_n hx hb dX12_makeRow_27 rfl (lv_at hl 0 rfl) ?_
        refine w_getr (j2 := 26) hx hb hts (z_memU u12) hown hK.1 hS f12_41 (by decide) (zkd_of (rfl : zcd wR 0 = 50) rfl) (zrf_of (rfl : zcd wR 0 = 50) rfl) (Or.inl (hts _ (z_mem k985))) dX12_makeRow_28 ?_
        refine lv_iload_n hx hb dX12_makeRow_31 rfl (lv_at hl 1 rfl) ?_
        obtain ⟨o18, h⟩ := h
        refine w_iald (n := 6) (i := (sI a0)) hx hb hK.1 (t0 := 0) rfl hS (by decide) (zkd_of (rfl : zcd wR 26 = 76) rfl) (zln_of (rfl : zcd wR 26 = 76) rfl) rfl o18.1 o18.2 (by decide) dX12_makeRow_32 ?_
        refine w_icmp_ge (tgt := 64) hx hb rfl rfl dX12_makeRow_33 (by decide) (fun c19 => ?_) (fun c19 => ?_)
        · skip
          have h := h.1 c19
          obtain ⟨I21, ⟨n22, h23⟩, h24⟩ := h
          have L25 : ∀ (n26 : Nat) (M20 : zM) (H : Heap) (locs : List Loc) (ls : Array Slot), I21 n26 M20 → zR D dA vwCl wR nR b M20 H → va_S (zA nR b) s.heap H locs → lv_has ls 7 [(0, .ref (b + 0)), (1, .int (iI a0))] → W p l e (headSpec (.code yX12_makeRow cX12_makeRow 7 (some .int) :: zt) (z_rm (dd + 1))).room s m args below meth c H locs 0 0 (MQ below (va_Qi (wQi Q) (zB D dA vwCl wR nR b) (zA nR b)) args s 0 0 (zA nR b)) (F0 m 64 ls []) := by
            intro n26
            induction n26 using Nat.strongRecOn with
            | ind n26 i27 =>
              intro M20 H locs ls h hS hS0 hl
              have h := h24 n26 M20 h
              refine lv_aload_n hx hb dX12_makeRow_64 rfl (lv_at hl 0 rfl) ?_
              refine z_bipush hx hb (by decide) dX12_makeRow_65 ?_
              refine z_bipush hx hb (by decide) dX12_makeRow_67 ?_
              refine w_callz (va_runV (As := [.int (iI 47), .int (iI 47)]) (rest := []) ⟨hx, hb, hml, hown, hts⟩ (cR_has l D dA b M20 47 47 _ h) (cwV 2 hts (z_gV k1067 k1068 k1393 k14 k1069) rfl rfl rfl dm_X12_has ⟨by simp only [z_rm, headSpec]; omega, by simp only [z_rm, headSpec]; omega⟩) ⟨wPre_blind, (w_recv hS hK.1 (by decide) (zkd_of (rfl : zcd wR 0 = 50) rfl) (by decide) (rfl : vwCl[12]? = some (RX12, TX12, 50))), w_pre hS hK⟩ rfl rfl hl.1 rfl (lv_room (Nat.le_of_ble_eq_true rfl)) dX12_makeRow_69 ⟨Nat.le_refl _, Nat.le_refl _⟩) hS0 (fun z29 M28 H locs r30 h hS hS0 => ?_)
              obtain ⟨e31, h⟩ := h
              rw [e31] at hS
              obtain ⟨J108, B49, h⟩ := h
              have L48 : ∀ (H : Heap) (locs : List Loc) (ls : Array Slot), J108 → zR D dA vwCl wR nR b M20 H → va_S (zA nR b) s.heap H locs → lv_has ls 7 [(0, .ref (b + 0)), (1, .int (iI a0))] → W p l e (headSpec (.code yX12_makeRow cX12_makeRow 7 (some .int) :: zt) (z_rm (dd + 1))).room s m args below meth c H locs 0 0 (MQ below (va_Qi (wQi Q) (zB D dA vwCl wR nR b) (zA nR b)) args s 0 0 (zA nR b)) (F0 m 108 ls []) := by
                intro  H locs ls h hS hS0 hl
                have h := B49 h
                refine z_iconst hx hb dX12_makeRow_108 ?_
                refine lv_istore_n (lv' := [(3, .int (iI 0)), (0, .ref (b + 0)), (1, .int (iI a0))]) hx hb dX12_makeRow_109 rfl hl (by decide) rfl (fun ls hl => ?_)
                refine lv_aload_n hx hb dX12_makeRow_110 rfl (lv_at hl 1 rfl) ?_
                refine z_bipush hx hb (by decide) dX12_makeRow_111 ?_
                refine z_bipush hx hb (by decide) dX12_makeRow_113 ?_
                refine w_callz (va_runV (As := [.int (iI 47), .int (iI 47)]) (rest := []) ⟨hx, hb, hml, hown, hts⟩ (cR_has l D dA b M20 47 47 _ h) (cwV 2 hts (z_gV k1067 k1068 k1393 k14 k1069) rfl rfl rfl dm_X12_has ⟨by simp only [z_rm, headSpec]; omega, by simp only [z_rm, headSpec]; omega⟩) ⟨wPre_blind, (w_recv hS hK.1 (by decide) (zkd_of (rfl : zcd wR 0 = 50) rfl) (by decide) (rfl : vwCl[12]? = some (RX12, TX12, 50))), w_pre hS hK⟩ rfl rfl hl.1 rfl (lv_room (Nat.le_of_ble_eq_true rfl)) dX12_makeRow_115 ⟨Nat.le_refl _, Nat.le_refl _⟩) hS0 (fun z51 M50 H locs r52 h hS hS0 => ?_)
                obtain ⟨e53, h⟩ := h
                rw [e53] at hS
                obtain ⟨J146, B63, h⟩ := h
                have L62 : ∀ (x60 : Int) (M61 : zM) (H : Heap) (locs : List Loc) (ls : Array Slot), J146 x60 M61 → zR D dA vwCl wR nR b M61 H → va_S (zA nR b) s.heap H locs → lv_has ls 7 [(0, .ref (b + 0)), (1, .int (iI a0)), (3, .int (iI x60))] → W p l e (headSpec (.code yX12_makeRow cX12_makeRow 7 (some .int) :: zt) (z_rm (dd + 1))).room s m args below meth c H locs 0 0 (MQ below (va_Qi (wQi Q) (zB D dA vwCl wR nR b) (zA nR b)) args s 0 0 (zA nR b)) (F0 m 146 ls []) := by
                  intro x60 M61 H locs ls h hS hS0 hl
                  have h := B63 x60 M61 h
                  refine lv_aload_n hx hb dX12_makeRow_146 rfl (lv_at hl 0 rfl) ?_
                  refine lv_iload_n hx hb dX12_makeRow_147 rfl (lv_at hl 1 rfl) ?_
                  refine w_calli (va_runV (As := [.int (iI a0)]) (rest := []) ⟨hx, hb, hml, hown, hts⟩ (hrec b M61 a0 _ h) (cwV 1 hts (z_gV k1076 k1077 k1396 k14 k1078) rfl rfl rfl dm_X12_makeTerm ⟨by simp only [z_rm, headSpec]; omega, by simp only [z_rm, headSpec]; omega⟩) ⟨wPre_blind, (w_recv hS hK.1 (by decide) (zkd_of (rfl : zcd wR 0 = 50) rfl) (by decide) (rfl : vwCl[12]? = some (RX12, TX12, 50))), w_pre hS hK⟩ rfl rfl hl.1 rfl (lv_room (Nat.le_of_ble_eq_true rfl)) dX12_makeRow_148 ⟨Nat.le_refl _, Nat.le_refl _⟩) hS0 (fun z65 M64 H locs r66 h hS hS0 => ?_)
                  refine lv_istore_n (lv' := [(2, .int (iI z65)), (0, .ref (b + 0)), (1, .int (iI a0)), (3, .int (iI x60))]) hx hb dX12_makeRow_151 rfl hl (by decide) rfl (fun ls hl => ?_)
                  refine lv_iload_n hx hb dX12_makeRow_152 rfl (lv_at hl 0 rfl) ?_
                  refine w_if_ge (tgt := 158) hx hb (sI_of r66) dX12_makeRow_153 (by decide) (fun c67 => ?_) (fun c67 => ?_)
                  · skip
                    have h := h.1 c67
                    refine lv_iload_n hx hb dX12_makeRow_158 rfl (lv_at hl 3 rfl) ?_
                    refine lv_aload_n hx hb dX12_makeRow_159 rfl (lv_at hl 1 rfl) ?_
                    refine w_getr (j2 := 24) hx hb hts (z_memU u12) hown hK.1 hS f12_39 (by decide) (zkd_of (rfl : zcd wR 0 = 50) rfl) (zrf_of (rfl : zcd wR 0 = 50) rfl) (Or.inl (hts _ (z_mem k983))) dX12_makeRow_160 ?_
                    refine lv_iload_n hx hb dX12_makeRow_163 rfl (lv_at hl 2 rfl) ?_
                    obtain ⟨o68, h⟩ := h
                    refine w_iald (n := 6) (i := (sI a0)) hx hb hK.1 (t0 := 0) rfl hS (by decide) (zkd_of (rfl : zcd wR 24 = 74) rfl) (zln_of (rfl : zcd wR 24 = 74) rfl) rfl o68.1 o68.2 (by decide) dX12_makeRow_164 ?_
                    refine w_icmp_gt (tgt := 178) hx hb rfl rfl dX12_makeRow_165 (by decide) (fun c69 => ?_) (fun c69 => ?_)
                    · skip
                      have h := h.1 c69
                      refine z_bipush hx hb (by decide) dX12_makeRow_178 ?_
                      exact w_iret hx hb hr hlocks hS hS0 (sI_of (by decide)) h dX12_makeRow_180
                    · skip
                      have h := h.2 c69
                      refine lv_iload_n hx hb dX12_makeRow_168 rfl (lv_at hl 3 rfl) ?_
                      refine lv_aload_n hx hb dX12_makeRow_169 rfl (lv_at hl 1 rfl) ?_
                      refine w_getr (j2 := 26) hx hb hts (z_memU u12) hown hK.1 hS f12_41 (by decide) (zkd_of (rfl : zcd wR 0 = 50) rfl) (zrf_of (rfl : zcd wR 0 = 50) rfl) (Or.inl (hts _ (z_mem k985))) dX12_makeRow_170 ?_
                      refine lv_iload_n hx hb dX12_makeRow_173 rfl (lv_at hl 2 rfl) ?_
                      obtain ⟨o70, h⟩ := h
                      refine w_iald (n := 6) (i := (sI a0)) hx hb hK.1 (t0 := 0) rfl hS (by decide) (zkd_of (rfl : zcd wR 26 = 76) rfl) (zln_of (rfl : zcd wR 26 = 76) rfl) rfl o70.1 o70.2 (by decide) dX12_makeRow_174 ?_
                      refine w_icmp_le (tgt := 181) hx hb rfl rfl dX12_makeRow_175 (by decide) (fun c71 => ?_) (fun c71 => ?_)
                      · skip
                        have h := h.1 c71
                        refine lv_aload_n hx hb dX12_makeRow_181 rfl (lv_at hl 1 rfl) ?_
                        refine w_getr (j2 := 24) hx hb hts (z_memU u12) hown hK.1 hS f12_39 (by decide) (zkd_of (rfl : zcd wR 0 = 50) rfl) (zrf_of (rfl : zcd wR 0 = 50) rfl) (Or.inl (hts _ (z_mem k983))) dX12_makeRow_182 ?_
                        refine lv_iload_n hx hb dX12_makeRow_185 rfl (lv_at hl 2 rfl) ?_
                        obtain ⟨o72, h⟩ := h
                        refine w_iald (n := 6) (i := (sI a0)) hx hb hK.1 (t0 := 0) rfl hS (by decide) (zkd_of (rfl : zcd wR 24 = 74) rfl) (zln_of (rfl : zcd wR 24 = 74) rfl) rfl o72.1 o72.2 (by decide) dX12_makeRow_186 ?_
                        refine lv_iload_n hx hb dX12_makeRow_187 rfl (lv_at hl 3 rfl) ?_
                        refine z_isub hx hb dX12_makeRow_188 ?_
                        refine lv_istore (lv' := [(4, .int (iI ((M64 24 (sI a0).toNat) - x60))), (2, .int (iI z65)), (0, .ref (b + 0)), (1, .int (iI a0)), (3, .int (iI x60))]) hx hb dX12_makeRow_189 hl (by decide) rfl (fun ls hl => ?_)
                        refine lv_iload hx hb dX12_makeRow_191 (lv_at hl 0 rfl) ?_
                        refine lv_aload_n hx hb dX12_makeRow_193 rfl (lv_at hl 2 rfl) ?_
                        refine w_getr (j2 := 26) hx hb hts (z_memU u12) hown hK.1 hS f12_41 (by decide) (zkd_of (rfl : zcd wR 0 = 50) rfl) (zrf_of (rfl : zcd wR 0 = 50) rfl) (Or.inl (hts _ (z_mem k985))) dX12_makeRow_194 ?_
                        refine lv_iload_n hx hb dX12_makeRow_197 rfl (lv_at hl 3 rfl) ?_
                        obtain ⟨o73, h⟩ := h
                        refine w_iald (n := 6) (i := (sI a0)) hx hb hK.1 (t0 := 0) rfl hS (by decide) (zkd_of (rfl : zcd wR 26 = 76) rfl) (zln_of (rfl : zcd wR 26 = 76) rfl) rfl o73.1 o73.2 (by decide) dX12_makeRow_198 ?_
                        refine z_iadd hx hb dX12_makeRow_199 ?_
                        refine z_bipush hx hb (by decide) dX12_makeRow_200 ?_
                        refine w_icmp_le (tgt := 208) hx hb rfl (sI_of (by decide)) dX12_makeRow_202 (by decide) (fun c74 => ?_) (fun c74 => ?_)
                        · skip
                          have h := h.1 c74
                          refine z_iconst hx hb dX12_makeRow_208 ?_
                          refine lv_istore (lv' := [(5, .int (iI 0)), (4, .int (iI ((M64 24 (sI a0).toNat) - x60))), (2, .int (iI z65)), (0, .ref (b + 0)), (1, .int (iI a0)), (3, .int (iI x60))]) hx hb dX12_makeRow_209 hl (by decide) rfl (fun ls hl => ?_)
                          obtain ⟨I77, ⟨n78, h79⟩, h80⟩ := h
                          have L81 : ∀ (n82 : Nat) (x75 : Int) (M76 : zM) (H : Heap) (locs : List Loc) (ls : Array Slot), I77 n82 x75 M76 → zR D dA vwCl wR nR b M76 H → va_S (zA nR b) s.heap H locs → lv_has ls 7 [(0, .ref (b + 0)), (1, .int (iI a0)), (3, .int (iI x60)), (4, .int (iI ((M64 24 (sI a0).toNat) - x60))), (5, .int (iI x75))] → W p l e (headSpec (.code yX12_makeRow cX12_makeRow 7 (some .int) :: zt) (z_rm (dd + 1))).room s m args below meth c H locs 0 0 (MQ below (va_Qi (wQi Q) (zB D dA vwCl wR nR b) (zA nR b)) args s 0 0 (zA nR b)) (F0 m 211 ls []) := by
                            intro n82
                            induction n82 using Nat.strongRecOn with
                            | ind n82 i83 =>
                              intro x75 M76 H locs ls h hS hS0 hl
                              have h := h80 n82 x75 M76 h
                              refine lv_iload hx hb dX12_makeRow_211 (lv_at hl 4 rfl) ?_
                              refine lv_aload_n hx hb dX12_makeRow_213 rfl (lv_at hl 0 rfl) ?_
                              refine w_getr (j2 := 26) hx hb hts (z_memU u12) hown hK.1 hS f12_41 (by decide) (zkd_of (rfl : zcd wR 0 = 50) rfl) (zrf_of (rfl : zcd wR 0 = 50) rfl) (Or.inl (hts _ (z_mem k985))) dX12_makeRow_214 ?_
                              refine lv_iload_n hx hb dX12_makeRow_217 rfl (lv_at hl 1 rfl) ?_
                              obtain ⟨o84, h⟩ := h
                              refine w_iald (n := 6) (i := (sI a0)) hx hb hK.1 (t0 := 0) rfl hS (by decide) (zkd_of (rfl : zcd wR 26 = 76) rfl) (zln_of (rfl : zcd wR 26 = 76) rfl) rfl o84.1 o84.2 (by decide) dX12_makeRow_218 ?_
                              refine w_icmp_ge (tgt := 277) hx hb rfl rfl dX12_makeRow_219 (by decide) (fun c85 => ?_) (fun c85 => ?_)
                              · skip
                                have h := h.1 c85
                                refine lv_aload_n hx hb dX12_makeRow_277 rfl (lv_at hl 0 rfl) ?_
                                refine w_getr (j2 := 24) hx hb hts (z_memU u12) hown hK.1 hS f12_39 (by decide) (zkd_of (rfl : zcd wR 0 = 50) rfl) (zrf_of (rfl : zcd wR 0 = 50) rfl) (Or.inl (hts _ (z_mem k983))) dX12_makeRow_278 ?_
                                refine lv_iload_n hx hb dX12_makeRow_281 rfl (lv_at hl 1 rfl) ?_
                                refine lv_iload hx hb dX12_makeRow_282 (lv_at hl 3 rfl) ?_
                                refine lv_aload_n hx hb dX12_makeRow_284 rfl (lv_at hl 0 rfl) ?_
                                refine w_getr (j2 := 26) hx hb hts (z_memU u12) hown hK.1 hS f12_41 (by decide) (zkd_of (rfl : zcd wR 0 = 50) rfl) (zrf_of (rfl : zcd wR 0 = 50) rfl) (Or.inl (hts _ (z_mem k985))) dX12_makeRow_285 ?_
                                refine lv_iload_n hx hb dX12_makeRow_288 rfl (lv_at hl 1 rfl) ?_
                                obtain ⟨o86, h⟩ := h
                                refine w_iald (n := 6) (i := (sI a0)) hx hb hK.1 (t0 := 0) rfl hS (by decide) (zkd_of (rfl : zcd wR 26 = 76) rfl) (zln_of (rfl : zcd wR 26 = 76) rfl) rfl o86.1 o86.2 (by decide) dX12_makeRow_289 ?_
                                refine z_iadd hx hb dX12_makeRow_290 ?_
                                obtain ⟨o87, h⟩ := h
                                refine w_iast (z := (((M64 24 (sI a0).toNat) - x60) + (M76 26 (sI a0).toNat))) (n := 6) (i := (sI a0)) hx hb hK.1 (t0 := 0) rfl hS hS0 (by decide) (zkd_of (rfl : zcd wR 24 = 74) rfl) (zln_of (rfl : zcd wR 24 = 74) rfl) rfl o87.1 o87.2 (by decide) dX12_makeRow_291 (fun H locs hS hS0 => ?_)
                                obtain ⟨M88, e89⟩ : ∃ M88 : zM, M88 = zup M76 24 (sI a0).toNat (((M64 24 (sI a0).toNat) - x60) + (M76 26 (sI a0).toNat)) := ⟨_, rfl⟩
                                rw [← e89] at hS
                                have h := h M88 e89
                                refine lv_goto (tgt := 64) hx hb dX12_makeRow_292 (by decide) ?_
                                obtain ⟨n90, h91, h⟩ := h
                                exact i27 n90 h91 M88 _ _ _ h hS hS0 (lv_sub hl [0, 1] rfl)
                              · skip
                                have h := h.2 c85
                                refine z_bipush hx hb (by decide) dX12_makeRow_222 ?_
                                refine lv_iload_n hx hb dX12_makeRow_224 rfl (lv_at hl 1 rfl) ?_
                                refine z_imul hx hb dX12_makeRow_225 ?_
                                refine lv_iload hx hb dX12_makeRow_226 (lv_at hl 3 rfl) ?_
                                refine z_iadd hx hb dX12_makeRow_228 ?_
                                refine lv_iload hx hb dX12_makeRow_229 (lv_at hl 4 rfl) ?_
                                refine z_iadd hx hb dX12_makeRow_231 ?_
                                obtain ⟨t92, e93⟩ : ∃ t92 : Int, t92 = (((24 * a0) + ((M64 24 (sI a0).toNat) - x60)) + x75) := ⟨_, rfl⟩
                                refine z_top (y := t92) e93.symm ?_
                                have h := h t92 e93
                                refine lv_istore (lv' := [(6, .int (iI t92)), (0, .ref (b + 0)), (1, .int (iI a0)), (3, .int (iI x60)), (4, .int (iI ((M64 24 (sI a0).toNat) - x60))), (5, .int (iI x75))]) hx hb dX12_makeRow_232 hl (by decide) rfl (fun ls hl => ?_)
                                refine lv_aload_n hx hb dX12_makeRow_234 rfl (lv_at hl 1 rfl) ?_
                                refine w_getr (j2 := 23) hx hb hts (z_memU u12) hown hK.1 hS f12_38 (by decide) (zkd_of (rfl : zcd wR 0 = 50) rfl) (zrf_of (rfl : zcd wR 0 = 50) rfl) (Or.inl (hts _ (z_mem k982))) dX12_makeRow_235 ?_
                                refine lv_iload hx hb dX12_makeRow_238 (lv_at hl 0 rfl) ?_
                                refine lv_aload_n hx hb dX12_makeRow_240 rfl (lv_at hl 1 rfl) ?_
                                refine w_getr (j2 := 25) hx hb hts (z_memU u12) hown hK.1 hS f12_40 (by decide) (zkd_of (rfl : zcd wR 0 = 50) rfl) (zrf_of (rfl : zcd wR 0 = 50) rfl) (Or.inl (hts _ (z_mem k984))) dX12_makeRow_241 ?_
                                refine z_bipush hx hb (by decide) dX12_makeRow_244 ?_
                                refine lv_iload_n hx hb dX12_makeRow_246 rfl (lv_at hl 2 rfl) ?_
                                refine z_imul hx hb dX12_makeRow_247 ?_
                                refine lv_iload hx hb dX12_makeRow_248 (lv_at hl 5 rfl) ?_
                                refine z_iadd hx hb dX12_makeRow_250 ?_
                                obtain ⟨o94, h⟩ := h
                                refine w_iald (n := 144) (i := (sI ((24 * a0) + x75))) hx hb hK.1 (t0 := 0) rfl hS (by decide) (zkd_of (rfl : zcd wR 25 = 75) rfl) (zln_of (rfl : zcd wR 25 = 75) rfl) rfl o94.1 o94.2 (by decide) dX12_makeRow_251 ?_
                                refine lv_iload hx hb dX12_makeRow_252 (lv_at hl 5 rfl) ?_
                                refine lv_iload_n hx hb dX12_makeRow_254 rfl (lv_at hl 3 rfl) ?_
                                refine w_icmp_ge (tgt := 268) hx hb rfl rfl dX12_makeRow_255 (by decide) (fun c95 => ?_) (fun c95 => ?_)
                                · skip
                                  have h := h.1 c95
                                  refine z_iconst hx hb dX12_makeRow_268 ?_
                                  refine w_ior hx hb dX12_makeRow_269 ?_
                                  obtain ⟨o96, h⟩ := h
                                  refine w_iast (z := (orI (M76 25 (sI ((24 * a0) + x75)).toNat) 0)) (n := 144) (i := (sI t92)) hx hb hK.1 (t0 := 0) rfl hS hS0 (by decide) (zkd_of (rfl : zcd wR 23 = 73) rfl) (zln_of (rfl : zcd wR 23 = 73) rfl) rfl o96.1 o96.2 (by decide) dX12_makeRow_270 (fun H locs hS hS0 => ?_)
                                  obtain ⟨M97, e98⟩ : ∃ M97 : zM, M97 = zup M76 23 (sI t92).toNat (orI (M76 25 (sI ((24 * a0) + x75)).toNat) 0) := ⟨_, rfl⟩
                                  rw [← e98] at hS
                                  have h := h M97 e98
                                  refine z_iinc (lv' := [(5, .int (iI (x75 + 1))), (6, .int (iI t92)), (0, .ref (b + 0)), (1, .int (iI a0)), (3, .int (iI x60)), (4, .int (iI ((M64 24 (sI a0).toNat) - x60)))]) hx hb dX12_makeRow_271 hl (k := 5) rfl (by decide) rfl (fun ls hl => ?_)
                                  refine lv_goto (tgt := 211) hx hb dX12_makeRow_274 (by decide) ?_
                                  obtain ⟨n99, h100, h⟩ := h
                                  exact i83 n99 h100 (x75 + 1) M97 _ _ _ h hS hS0 (lv_sub hl [2, 3, 4, 5, 0] rfl)
                                · skip
                                  have h := h.2 c95
                                  refine lv_aload_n hx hb dX12_makeRow_258 rfl (lv_at hl 1 rfl) ?_
                                  refine w_getr (j2 := 23) hx hb hts (z_memU u12) hown hK.1 hS f12_38 (by decide) (zkd_of (rfl : zcd wR 0 = 50) rfl) (zrf_of (rfl : zcd wR 0 = 50) rfl) (Or.inl (hts _ (z_mem k982))) dX12_makeRow_259 ?_
                                  refine lv_iload hx hb dX12_makeRow_262 (lv_at hl 0 rfl) ?_
                                  obtain ⟨o101, h⟩ := h
                                  refine w_iald (n := 144) (i := (sI t92)) hx hb hK.1 (t0 := 0) rfl hS (by decide) (zkd_of (rfl : zcd wR 23 = 73) rfl) (zln_of (rfl : zcd wR 23 = 73) rfl) rfl o101.1 o101.2 (by decide) dX12_makeRow_264 ?_
                                  refine lv_goto (tgt := 269) hx hb dX12_makeRow_265 (by decide) ?_
                                  refine w_ior hx hb dX12_makeRow_269 ?_
                                  obtain ⟨o102, h⟩ := h
                                  refine w_iast (z := (orI (M76 25 (sI ((24 * a0) + x75)).toNat) (M76 23 (sI t92).toNat))) (n := 144) (i := (sI t92)) hx hb hK.1 (t0 := 0) rfl hS hS0 (by decide) (zkd_of (rfl : zcd wR 23 = 73) rfl) (zln_of (rfl : zcd wR 23 = 73) rfl) rfl o102.1 o102.2 (by decide) dX12_makeRow_270 (fun H locs hS hS0 => ?_)
                                  obtain ⟨M103, e104⟩ : ∃ M103 : zM, M103 = zup M76 23 (sI t92).toNat (orI (M76 25 (sI ((24 * a0) + x75)).toNat) (M76 23 (sI t92).toNat)) := ⟨_, rfl⟩
                                  rw [← e104] at hS
                                  have h := h M103 e104
                                  refine z_iinc (lv' := [(5, .int (iI (x75 + 1))), (6, .int (iI t92)), (0, .ref (b + 0)), (1, .int (iI a0)), (3, .int (iI x60)), (4, .int (iI ((M64 24 (sI a0).toNat) - x60)))]) hx hb dX12_makeRow_271 hl (k := 5) rfl (by decide) rfl (fun ls hl => ?_)
                                  refine lv_goto (tgt := 211) hx hb dX12_makeRow_274 (by decide) ?_
                                  obtain ⟨n105, h106, h⟩ := h
                                  exact i83 n105 h106 (x75 + 1) M103 _ _ _ h hS hS0 (lv_sub hl [2, 3, 4, 5, 0] rfl)
                          exact L81 n78 0 M64 _ _ _ h79 hS hS0 (lv_sub hl [3, 4, 5, 1, 0] rfl)
                        · skip
                          have h := h.2 c74
                          refine z_bipush hx hb (by decide) dX12_makeRow_205 ?_
                          exact w_iret hx hb hr hlocks hS hS0 (sI_of (by decide)) h dX12_makeRow_207
                      · skip
                        have h := h.2 c71
                        refine z_bipush hx hb (by decide) dX12_makeRow_178 ?_
                        exact w_iret hx hb hr hlocks hS hS0 (sI_of (by decide)) h dX12_makeRow_180
                  · skip
                    have h := h.2 c67
                    refine lv_iload_n hx hb dX12_makeRow_156 rfl (lv_at hl 0 rfl) ?_
                    exact w_iret hx hb hr hlocks hS hS0 (sI_of r66) h dX12_makeRow_157
                refine w_if_eq (tgt := 146) hx hb (sI_01 r52) dX12_makeRow_118 (by decide) (fun c107 => ?_) (fun c107 => ?_)
                · skip
                  have h := h.1 c107
                  exact L62 0 M20 _ _ _ h hS hS0 (lv_sub hl [1, 2, 0] rfl)
                · skip
                  have h := h.2 c107
                  refine lv_aload_n hx hb dX12_makeRow_121 rfl (lv_at hl 1 rfl) ?_
                  refine w_getr (j2 := 1) hx hb hts (z_memU u12) hown hK.1 hS f12_0 (by decide) (zkd_of (rfl : zcd wR 0 = 50) rfl) (zrf_of (rfl : zcd wR 0 = 50) rfl) (Or.inl (hts _ (z_mem k944))) dX12_makeRow_122 ?_
                  refine lv_aload_n hx hb dX12_makeRow_125 rfl (lv_at hl 1 rfl) ?_
                  refine w_geti hx hb hts (z_memU u12) hown hK.1 hS f12_36 (by decide) (zkd_of (rfl : zcd wR 0 = 50) rfl) (Or.inl (hts _ (z_mem k980))) dX12_makeRow_126 ?_
                  refine z_iconst hx hb dX12_makeRow_129 ?_
                  refine z_iadd hx hb dX12_makeRow_130 ?_
                  obtain ⟨o108, h⟩ := h
                  refine w_bald (n := 100) (i := (sI ((M20 0 36) + 1))) hx hb hK.1 (t0 := 2) rfl hS (by decide) (zkd_of (rfl : zcd wR 1 = 51) rfl) (zln_of (rfl : zcd wR 1 = 51) rfl) rfl o108.1 o108.2 (by decide) dX12_makeRow_131 ?_
                  refine z_bipush hx hb (by decide) dX12_makeRow_132 ?_
                  refine z_isub hx hb dX12_makeRow_134 ?_
                  obtain ⟨t109, e110⟩ : ∃ t109 : Int, t109 = ((M20 1 (sI ((M20 0 36) + 1)).toNat) - 48) := ⟨_, rfl⟩
                  refine z_top (y := t109) e110.symm ?_
                  have h := h t109 e110
                  refine lv_istore_n (lv' := [(3, .int (iI t109)), (0, .ref (b + 0)), (1, .int (iI a0))]) hx hb dX12_makeRow_135 rfl hl (by decide) rfl (fun ls hl => ?_)
                  refine lv_aload_n hx hb dX12_makeRow_136 rfl (lv_at hl 1 rfl) ?_
                  refine lv_dup hx hb dX12_makeRow_137 rfl ?_
                  refine w_geti hx hb hts (z_memU u12) hown hK.1 hS f12_36 (by decide) (zkd_of (rfl : zcd wR 0 = 50) rfl) (Or.inl (hts _ (z_mem k980))) dX12_makeRow_138 ?_
                  refine z_iconst hx hb dX12_makeRow_141 ?_
                  refine z_iadd hx hb dX12_makeRow_142 ?_
                  refine w_puti hx hb hts (z_memU u12) tyX12 tyX12_ok nmX12 hown hK.1 hS hS0 f12_36 (by decide) (zkd_of (rfl : zcd wR 0 = 50) rfl) (Or.inl (hts _ (z_mem k980))) rfl (z := ((M20 0 36) + 2)) (by decide +kernel) dX12_makeRow_143 (fun H locs hS hS0 => ?_)
                  obtain ⟨M111, e112⟩ : ∃ M111 : zM, M111 = zup M20 0 36 ((M20 0 36) + 2) := ⟨_, rfl⟩
                  rw [← e112] at hS
                  have h := h M111 e112
                  exact L62 t109 M111 _ _ _ h hS hS0 (lv_sub hl [1, 2, 0] rfl)
              refine w_if_ne (tgt := 108) hx hb (sI_01 r30) dX12_makeRow_72 (by decide) (fun c113 => ?_) (fun c113 => ?_)
              · skip
                have h := h.1 c113
                exact L48 _ _ _ h hS hS0 (lv_sub hl [0, 1] rfl)
              · skip
                have h := h.2 c113
                refine lv_aload_n hx hb dX12_makeRow_75 rfl (lv_at hl 0 rfl) ?_
                refine z_bipush hx hb (by decide) dX12_makeRow_76 ?_
                refine z_bipush hx hb (by decide) dX12_makeRow_78 ?_
                refine w_callz (va_runV (As := [.int (iI 48), .int (iI 57)]) (rest := []) ⟨hx, hb, hml, hown, hts⟩ (cR_has l D dA b M20 48 57 _ h) (cwV 2 hts (z_gV k1067 k1068 k1393 k14 k1069) rfl rfl rfl dm_X12_has ⟨by simp only [z_rm, headSpec]; omega, by simp only [z_rm, headSpec]; omega⟩) ⟨wPre_blind, (w_recv hS hK.1 (by decide) (zkd_of (rfl : zcd wR 0 = 50) rfl) (by decide) (rfl : vwCl[12]? = some (RX12, TX12, 50))), w_pre hS hK⟩ rfl rfl hl.1 rfl (lv_room (Nat.le_of_ble_eq_true rfl)) dX12_makeRow_80 ⟨Nat.le_refl _, Nat.le_refl _⟩) hS0 (fun z115 M114 H locs r116 h hS hS0 => ?_)
                obtain ⟨e117, h⟩ := h
                rw [e117] at hS
                refine w_if_ne (tgt := 108) hx hb (sI_01 r116) dX12_makeRow_83 (by decide) (fun c118 => ?_) (fun c118 => ?_)
                · skip
                  have h := h.1 c118
                  exact L48 _ _ _ h hS hS0 (lv_sub hl [0, 1] rfl)
                · skip
                  have h := h.2 c118
                  refine lv_aload_n hx hb dX12_makeRow_86 rfl (lv_at hl 0 rfl) ?_
                  refine z_bipush hx hb (by decide) dX12_makeRow_87 ?_
                  refine z_bipush hx hb (by decide) dX12_makeRow_89 ?_
                  refine w_callz (va_runV (As := [.int (iI 91), .int (iI 91)]) (rest := []) ⟨hx, hb, hml, hown, hts⟩ (cR_has l D dA b M20 91 91 _ h) (cwV 2 hts (z_gV k1067 k1068 k1393 k14 k1069) rfl rfl rfl dm_X12_has ⟨by simp only [z_rm, headSpec]; omega, by simp only [z_rm, headSpec]; omega⟩) ⟨wPre_blind, (w_recv hS hK.1 (by decide) (zkd_of (rfl : zcd wR 0 = 50) rfl) (by decide) (rfl : vwCl[12]? = some (RX12, TX12, 50))), w_pre hS hK⟩ rfl rfl hl.1 rfl (lv_room (Nat.le_of_ble_eq_true rfl)) dX12_makeRow_91 ⟨Nat.le_refl _, Nat.le_refl _⟩) hS0 (fun z120 M119 H locs r121 h hS hS0 => ?_)
                  obtain ⟨e122, h⟩ := h
                  rw [e122] at hS
                  refine w_if_ne (tgt := 108) hx hb (sI_01 r121) dX12_makeRow_94 (by decide) (fun c123 => ?_) (fun c123 => ?_)
                  · skip
                    have h := h.1 c123
                    exact L48 _ _ _ h hS hS0 (lv_sub hl [0, 1] rfl)
                  · skip
                    have h := h.2 c123
                    refine lv_aload_n hx hb dX12_makeRow_97 rfl (lv_at hl 0 rfl) ?_
                    refine z_bipush hx hb (by decide) dX12_makeRow_98 ?_
                    refine z_bipush hx hb (by decide) dX12_makeRow_100 ?_
                    refine w_callz (va_runV (As := [.int (iI 40), .int (iI 40)]) (rest := []) ⟨hx, hb, hml, hown, hts⟩ (cR_has l D dA b M20 40 40 _ h) (cwV 2 hts (z_gV k1067 k1068 k1393 k14 k1069) rfl rfl rfl dm_X12_has ⟨by simp only [z_rm, headSpec]; omega, by simp only [z_rm, headSpec]; omega⟩) ⟨wPre_blind, (w_recv hS hK.1 (by decide) (zkd_of (rfl : zcd wR 0 = 50) rfl) (by decide) (rfl : vwCl[12]? = some (RX12, TX12, 50))), w_pre hS hK⟩ rfl rfl hl.1 rfl (lv_room (Nat.le_of_ble_eq_true rfl)) dX12_makeRow_102 ⟨Nat.le_refl _, Nat.le_refl _⟩) hS0 (fun z125 M124 H locs r126 h hS hS0 => ?_)
                    obtain ⟨e127, h⟩ := h
                    rw [e127] at hS
                    refine w_if_eq (tgt := 295) hx hb (sI_01 r126) dX12_makeRow_105 (by decide) (fun c128 => ?_) (fun c128 => ?_)
                    · skip
                      have h := h.1 c128
                      refine z_iconst hx hb dX12_makeRow_295 ?_
                      exact w_iret hx hb hr hlocks hS hS0 (sI_of (by decide)) h dX12_makeRow_296
                    · skip
                      have h := h.2 c128
                      exact L48 _ _ _ h hS hS0 (lv_sub hl [0, 1] rfl)
          exact L25 n22 M10 _ _ _ h23 hS hS0 (lv_sub hl [0, 1] rfl)
        · skip
          have h := h.2 c19
          refine lv_aload_n hx hb dX12_makeRow_36 rfl (lv_at hl 0 rfl) ?_
          refine w_getr (j2 := 23) hx hb hts (z_memU u12) hown hK.1 hS f12_38 (by decide) (zkd_of (rfl : zcd wR 0 = 50) rfl) (zrf_of (rfl : zcd wR 0 = 50) rfl) (Or.inl (hts _ (z_mem k982))) dX12_makeRow_37 ?_
          refine z_bipush hx hb (by decide) dX12_makeRow_40 ?_
          refine lv_iload_n hx hb dX12_makeRow_42 rfl (lv_at hl 1 rfl) ?_
          refine z_imul hx hb dX12_makeRow_43 ?_
          refine lv_iload_n hx hb dX12_makeRow_44 rfl (lv_at hl 2 rfl) ?_
          refine z_iadd hx hb dX12_makeRow_45 ?_
          refine lv_aload_n hx hb dX12_makeRow_46 rfl (lv_at hl 0 rfl) ?_
          refine w_getr (j2 := 25) hx hb hts (z_memU u12) hown hK.1 hS f12_40 (by decide) (zkd_of (rfl : zcd wR 0 = 50) rfl) (zrf_of (rfl : zcd wR 0 = 50) rfl) (Or.inl (hts _ (z_mem k984))) dX12_makeRow_47 ?_
          refine z_bipush hx hb (by decide) dX12_makeRow_50 ?_
          refine lv_iload_n hx hb dX12_makeRow_52 rfl (lv_at hl 1 rfl) ?_
          refine z_imul hx hb dX12_makeRow_53 ?_
          refine lv_iload_n hx hb dX12_makeRow_54 rfl (lv_at hl 2 rfl) ?_
          refine z_iadd hx hb dX12_makeRow_55 ?_
          obtain ⟨o129, h⟩ := h
          refine w_iald (n := 144) (i := (sI ((24 * a0) + x9))) hx hb hK.1 (t0 := 0) rfl hS (by decide) (zkd_of (rfl : zcd wR 25 = 75) rfl) (zln_of (rfl : zcd wR 25 = 75) rfl) rfl o129.1 o129.2 (by decide) dX12_makeRow_56 ?_
          obtain ⟨o130, h⟩ := h
          refine w_iast (z := (M10 25 (sI ((24 * a0) + x9)).toNat)) (n := 144) (i := (sI ((24 * a0) + x9))) hx hb hK.1 (t0 := 0) rfl hS hS0 (by decide) (zkd_of (rfl : zcd wR 23 = 73) rfl) (zln_of (rfl : zcd wR 23 = 73) rfl) rfl o130.1 o130.2 (by decide) dX12_makeRow_57 (fun H locs hS hS0 => ?_)
          obtain ⟨M131, e132⟩ : ∃ M131 : zM, M131 = zup M10 23 (sI ((24 * a0) + x9)).toNat (M10 25 (sI ((24 * a0) + x9)).toNat) := ⟨_, rfl⟩
          rw [← e132] at hS
          have h := h M131 e132
          refine z_iinc (lv' := [(3, .int (iI (x9 + 1))), (0, .ref (b + 0)), (1, .int (iI a0))]) hx hb dX12_makeRow_58 hl (k := 2) rfl (by decide) rfl (fun ls hl => ?_)
          refine lv_goto (tgt := 26) hx hb dX12_makeRow_61 (by decide) ?_
          obtain ⟨n133, h134, h⟩ := h
          exact i17 n133 h134 (x9 + 1) M131 _ _ _ h hS hS0 (lv_sub hl [1, 2, 0] rfl)
    exact L15 n12 0 M7 _ _ _ h13 hS hS0 (lv_sub hl [2, 3, 0] rfl)
  · skip
    have h := h.2 c4
    refine lv_iload_n hx hb dX12_makeRow_10 rfl (lv_at hl 0 rfl) ?_
    exact w_iret hx hb hr hlocks hS hS0 (sI_of r3) h dX12_makeRow_11

set_option maxRecDepth 100000 in
def wR_makeTerm_F (R9 : Int → zM → (Int → zM → Prop) → Prop) (a0 : Int) (M : zM) (Q : Int → zM → Prop) : Prop := wR_has 48 57 M (fun z2 => (z2 = 0 → wR_has 91 91 M (fun z7 => (z7 = 0 → (∀ M11 : zM, M11 = zup M 0 36 ((M 0 36) + 1) → R9 (a0 + 1) M11 (fun z14 M13 => (0 ≤ z14 → (∀ M17 : zM, M17 = zup M13 0 36 ((M13 0 36) + 1) → ((0 ≤ (sI (a0 + 1)) ∧ (sI (a0 + 1)) < 6) ∧ ((0 ≤ (sI a0) ∧ (sI a0) < 6) ∧ (∀ M21 : zM, M21 = zup M17 26 (sI a0).toNat (M17 24 (sI (a0 + 1)).toNat) → wL1 (fun K216 x23 M24 => ((0 ≤ (sI a0) ∧ (sI a0) < 6) ∧ ((sI (M24 26 (sI a0).toNat)) ≤ (sI x23) → wL0 (fun K254 M34 => wR_has 126 126 M34 (fun z43 => pJ0 (fun J276 => (z43 ≠ 0 → J276) ∧ (z43 = 0 → wR_has 42 42 M34 (fun z113 => (z113 = 0 → Q 0 M34) ∧ (z113 ≠ 0 → J276)))) (((0 ≤ (sI a0) ∧ (sI a0) < 6) ∧ wR_has 126 126 M34 (fun z56 => (z56 = 0 → ((0 ≤ (sI ((M34 0 36) + 1)) ∧ (sI ((M34 0 36) + 1)) < 100) ∧ (∀ t61 : Int, t61 = ((M34 1 (sI ((M34 0 36) + 1)).toNat) - 48) → (∀ M63 : zM, M63 = zup M34 0 36 ((M34 0 36) + 2) → ((sI ((M34 26 (sI a0).toNat) * t61)) ≤ 24 → wL1 (fun K413 x66 M67 => ((sI ((M34 26 (sI a0).toNat) * t61)) ≤ (sI x66) → ((0 ≤ (sI a0) ∧ (sI a0) < 6) ∧ (∀ M77 : zM, M77 = zup M67 26 (sI a0).toNat ((M34 26 (sI a0).toNat) * t61) → K254 M77))) ∧ ((sI x66) < (sI ((M34 26 (sI a0).toNat) * t61)) → ((0 ≤ (sI (((24 * a0) + x66) - (M34 26 (sI a0).toNat))) ∧ (sI (((24 * a0) + x66) - (M34 26 (sI a0).toNat))) < 144) ∧ ((0 ≤ (sI ((24 * a0) + x66)) ∧ (sI ((24 * a0) + x66)) < 144) ∧ (∀ M83 : zM, M83 = zup M67 25 (sI ((24 * a0) + x66)).toNat (M67 25 (sI (((24 * a0) + x66) - (M34 26 (sI a0).toNat))).toNat) → K413 (x66 + 1) M83))))) (M34 26 (sI a0).toNat) M63) ∧ (24 < (sI ((M34 26 (sI a0).toNat) * t61)) → Q (-100) M63))))) ∧ (z56 ≠ 0 → (∀ M87 : zM, M87 = zup M34 0 36 ((M34 0 36) + 1) → wL1 (fun K307 x89 M90 => ((sI ((sI (M34 26 (sI a0).toNat)).tdiv 2)) ≤ (sI x89) → K254 M90) ∧ ((sI x89) < (sI ((sI (M34 26 (sI a0).toNat)).tdiv 2)) → ((0 ≤ (sI ((24 * a0) + x89)) ∧ (sI ((24 * a0) + x89)) < 144) ∧ ((0 ≤ (sI ((((24 * a0) + (M34 26 (sI a0).toNat)) - 1) - x89)) ∧ (sI ((((24 * a0) + (M34 26 (sI a0).toNat)) - 1) - x89)) < 144) ∧ ((0 ≤ (sI ((24 * a0) + x89)) ∧ (sI ((24 * a0) + x89)) < 144) ∧ (∀ M104 : zM, M104 = zup M90 25 (sI ((24 * a0) + x89)).toNat (M90 25 (sI ((((24 * a0) + (M34 26 (sI a0).toNat)) - 1) - x89)).toNat) → ((0 ≤ (sI ((((24 * a0) + (M34 26 (sI a0).toNat)) - 1) - x89)) ∧ (sI ((((24 * a0) + (M34 26 (sI a0).toNat)) - 1) - x89)) < 144) ∧ (∀ M107 : zM, M107 = zup M104 25 (sI ((((24 * a0) + (M34 26 (sI a0).toNat)) - 1) - x89)).toNat (M90 25 (sI ((24 * a0) + x89)).toNat) → K307 (x89 + 1) M107)))))))) 0 M87))))))) M24) ∧ ((sI x23) < (sI (M24 26 (sI a0).toNat)) → ((0 ≤ (sI (((24 * a0) + 24) + x23)) ∧ (sI (((24 * a0) + 24) + x23)) < 144) ∧ ((0 ≤ (sI ((24 * a0) + x23)) ∧ (sI ((24 * a0) + x23)) < 144) ∧ (∀ M119 : zM, M119 = zup M24 25 (sI ((24 * a0) + x23)).toNat (M24 23 (sI (((24 * a0) + 24) + x23)).toNat) → K216 (x23 + 1) M119)))))) 0 M21))))) ∧ (z14 < 0 → Q z14 M13)))) ∧ (z7 ≠ 0 → (∀ M123 : zM, M123 = zup M 0 36 ((M 0 36) + 1) → wL1 (fun K97 x125 M126 => wR_has 49 57 M126 (fun z135 => (z135 = 0 → (∀ M139 : zM, M139 = zup M126 0 36 ((M126 0 36) + 1) → ((0 ≤ (sI (24 * a0)) ∧ (sI (24 * a0)) < 144) ∧ (∀ M142 : zM, M142 = zup M139 25 (sI (24 * a0)).toNat x125 → ((0 ≤ (sI a0) ∧ (sI a0) < 6) ∧ (∀ M145 : zM, M145 = zup M142 26 (sI a0).toNat 1 → wL0 (fun K254 M147 => wR_has 126 126 M147 (fun z156 => pJ0 (fun J276 => (z156 ≠ 0 → J276) ∧ (z156 = 0 → wR_has 42 42 M147 (fun z226 => (z226 = 0 → Q 0 M147) ∧ (z226 ≠ 0 → J276)))) (((0 ≤ (sI a0) ∧ (sI a0) < 6) ∧ wR_has 126 126 M147 (fun z169 => (z169 = 0 → ((0 ≤ (sI ((M147 0 36) + 1)) ∧ (sI ((M147 0 36) + 1)) < 100) ∧ (∀ t174 : Int, t174 = ((M147 1 (sI ((M147 0 36) + 1)).toNat) - 48) → (∀ M176 : zM, M176 = zup M147 0 36 ((M147 0 36) + 2) → ((sI ((M147 26 (sI a0).toNat) * t174)) ≤ 24 → wL1 (fun K413 x179 M180 => ((sI ((M147 26 (sI a0).toNat) * t174)) ≤ (sI x179) → ((0 ≤ (sI a0) ∧ (sI a0) < 6) ∧ (∀ M190 : zM, M190 = zup M180 26 (sI a0).toNat ((M147 26 (sI a0).toNat) * t174) → K254 M190))) ∧ ((sI x179) < (sI ((M147 26 (sI a0).toNat) * t174)) → ((0 ≤ (sI (((24 * a0) + x179) - (M147 26 (sI a0).toNat))) ∧ (sI (((24 * a0) + x179) - (M147 26 (sI a0).toNat))) < 144) ∧ ((0 ≤ (sI ((24 * a0) + x179)) ∧ (sI ((24 * a0) + x179)) < 144) ∧ (∀ M196 : zM, M196 = zup M180 25 (sI ((24 * a0) + x179)).toNat (M180 25 (sI (((24 * a0) + x179) - (M147 26 (sI a0).toNat))).toNat) → K413 (x179 + 1) M196))))) (M147 26 (sI a0).toNat) M176) ∧ (24 < (sI ((M147 26 (sI a0).toNat) * t174)) → Q (-100) M176))))) ∧ (z169 ≠ 0 → (∀ M200 : zM, M200 = zup M147 0 36 ((M147 0 36) + 1) → wL1 (fun K307 x202 M203 => ((sI ((sI (M147 26 (sI a0).toNat)).tdiv 2)) ≤ (sI x202) → K254 M203) ∧ ((sI x202) < (sI ((sI (M147 26 (sI a0).toNat)).tdiv 2)) → ((0 ≤ (sI ((24 * a0) + x202)) ∧ (sI ((24 * a0) + x202)) < 144) ∧ ((0 ≤ (sI ((((24 * a0) + (M147 26 (sI a0).toNat)) - 1) - x202)) ∧ (sI ((((24 * a0) + (M147 26 (sI a0).toNat)) - 1) - x202)) < 144) ∧ ((0 ≤ (sI ((24 * a0) + x202)) ∧ (sI ((24 * a0) + x202)) < 144) ∧ (∀ M217 : zM, M217 = zup M203 25 (sI ((24 * a0) + x202)).toNat (M203 25 (sI ((((24 * a0) + (M147 26 (sI a0).toNat)) - 1) - x202)).toNat) → ((0 ≤ (sI ((((24 * a0) + (M147 26 (sI a0).toNat)) - 1) - x202)) ∧ (sI ((((24 * a0) + (M147 26 (sI a0).toNat)) - 1) - x202)) < 144) ∧ (∀ M220 : zM, M220 = zup M217 25 (sI ((((24 * a0) + (M147 26 (sI a0).toNat)) - 1) - x202)).toNat (M203 25 (sI ((24 * a0) + x202)).toNat) → K307 (x202 + 1) M220)))))))) 0 M200))))))) M145)))))) ∧ (z135 ≠ 0 → ((0 ≤ (sI (M126 0 36)) ∧ (sI (M126 0 36)) < 100) ∧ (∀ t231 : Int, t231 = (orI x125 (shlI 1 ((M126 1 (sI (M126 0 36)).toNat) - 48))) → (∀ M233 : zM, M233 = zup M126 0 36 ((M126 0 36) + 1) → K97 t231 M233)))))) 0 M123)))) ∧ (z2 ≠ 0 → ((0 ≤ (sI (M 0 36)) ∧ (sI (M 0 36)) < 100) ∧ pJ1 (fun J53 => ((sI (M 1 (sI (M 0 36)).toNat)) ≠ 48 → ((0 ≤ (sI (M 0 36)) ∧ (sI (M 0 36)) < 100) ∧ J53 (shlI 1 ((M 1 (sI (M 0 36)).toNat) - 48)))) ∧ ((sI (M 1 (sI (M 0 36)).toNat)) = 48 → J53 0)) (fun (x240 : Int) => ((0 ≤ (sI (24 * a0)) ∧ (sI (24 * a0)) < 144) ∧ (∀ M244 : zM, M244 = zup M 25 (sI (24 * a0)).toNat x240 → ((0 ≤ (sI a0) ∧ (sI a0) < 6) ∧ (∀ M247 : zM, M247 = zup M244 26 (sI a0).toNat 1 → (∀ M249 : zM, M249 = zup M247 0 36 ((M247 0 36) + 1) → wL0 (fun K254 M251 => wR_has 126 126 M251 (fun z260 => pJ0 (fun J276 => (z260 ≠ 0 → J276) ∧ (z260 = 0 → wR_has 42 42 M251 (fun z330 => (z330 = 0 → Q 0 M251) ∧ (z330 ≠ 0 → J276)))) (((0 ≤ (sI a0) ∧ (sI a0) < 6) ∧ wR_has 126 126 M251 (fun z273 => (z273 = 0 → ((0 ≤ (sI ((M251 0 36) + 1)) ∧ (sI ((M251 0 36) + 1)) < 100) ∧ (∀ t278 : Int, t278 = ((M251 1 (sI ((M251 0 36) + 1)).toNat) - 48) → (∀ M280 : zM, M280 = zup M251 0 36 ((M251 0 36) + 2) → ((sI ((M251 26 (sI a0).toNat) * t278)) ≤ 24 → wL1 (fun K413 x283 M284 => ((sI ((M251 26 (sI a0).toNat) * t278)) ≤ (sI x283) → ((0 ≤ (sI a0) ∧ (sI a0) < 6) ∧ (∀ M294 : zM, M294 = zup M284 26 (sI a0).toNat ((M251 26 (sI a0).toNat) * t278) → K254 M294))) ∧ ((sI x283) < (sI ((M251 26 (sI a0).toNat) * t278)) → ((0 ≤ (sI (((24 * a0) + x283) - (M251 26 (sI a0).toNat))) ∧ (sI (((24 * a0) + x283) - (M251 26 (sI a0).toNat))) < 144) ∧ ((0 ≤ (sI ((24 * a0) + x283)) ∧ (sI ((24 * a0) + x283)) < 144) ∧ (∀ M300 : zM, M300 = zup M284 25 (sI ((24 * a0) + x283)).toNat (M284 25 (sI (((24 * a0) + x283) - (M251 26 (sI a0).toNat))).toNat) → K413 (x283 + 1) M300))))) (M251 26 (sI a0).toNat) M280) ∧ (24 < (sI ((M251 26 (sI a0).toNat) * t278)) → Q (-100) M280))))) ∧ (z273 ≠ 0 → (∀ M304 : zM, M304 = zup M251 0 36 ((M251 0 36) + 1) → wL1 (fun K307 x306 M307 => ((sI ((sI (M251 26 (sI a0).toNat)).tdiv 2)) ≤ (sI x306) → K254 M307) ∧ ((sI x306) < (sI ((sI (M251 26 (sI a0).toNat)).tdiv 2)) → ((0 ≤ (sI ((24 * a0) + x306)) ∧ (sI ((24 * a0) + x306)) < 144) ∧ ((0 ≤ (sI ((((24 * a0) + (M251 26 (sI a0).toNat)) - 1) - x306)) ∧ (sI ((((24 * a0) + (M251 26 (sI a0).toNat)) - 1) - x306)) < 144) ∧ ((0 ≤ (sI ((24 * a0) + x306)) ∧ (sI ((24 * a0) + x306)) < 144) ∧ (∀ M321 : zM, M321 = zup M307 25 (sI ((24 * a0) + x306)).toNat (M307 25 (sI ((((24 * a0) + (M251 26 (sI a0).toNat)) - 1) - x306)).toNat) → ((0 ≤ (sI ((((24 * a0) + (M251 26 (sI a0).toNat)) - 1) - x306)) ∧ (sI ((((24 * a0) + (M251 26 (sI a0).toNat)) - 1) - x306)) < 144) ∧ (∀ M324 : zM, M324 = zup M321 25 (sI ((((24 * a0) + (M251 26 (sI a0).toNat)) - 1) - x306)).toNat (M307 25 (sI ((24 * a0) + x306)).toNat) → K307 (x306 + 1) M324)))))))) 0 M304))))))) M249)))))))))
set_option maxHeartbeats 4000000 in
set_option maxRecDepth 100000 in
theorem cR_makeTerm_F (dd : Nat) (R9 : Int → zM → (Int → zM → Prop) → Prop) (l : Launch) (D : va_G) (dA : Nat → ClassId) (hdd : 1 ≤ dd) (hrec : ∀ (b : Nat) (M : zM) (a0 : Int)  (Q : Int → zM → Prop), R9 a0 M Q → Met l yX12_makeRow (.code yX12_makeRow cX12_makeRow 7 (some .int) :: zt) (z_rm dd) (va_Pc [.ref (b + 0), .int (iI a0)] (wPre D dA vwCl (z_tys dA) wR nR b M)) (va_Qi (wQi Q) (zB D dA vwCl wR nR b) (zA nR b)) 0 0 (zA nR b)) (b : Nat) (M : zM) (a0 : Int)  (Q : Int → zM → Prop) (h : wR_makeTerm_F R9 a0 M Q) : Met l yX12_makeTerm (.code yX12_makeTerm cX12_makeTerm 6 (some .int) :: zt) (z_rm (dd + 1)) (va_Pc [.ref (b + 0), .int (iI a0)] (wPre D dA vwCl (z_tys dA) wR nR b M)) (va_Qi (wQi Q) (zB D dA vwCl wR nR b) (zA nR b)) 0 0 (zA nR b) := by
  unfold wR_makeTerm_F at h
  refine Met.ofW (cc := cX12_makeTerm) (maxL := 6) (ret := (some .int)) (by decide) rfl ?_
  intro p e s m args below meth c s₁ B hml hv
  obtain ⟨hargs, hS, hK⟩ := hv
  have hx := B.exec
  have hb := B.bytes
  have hr := B.returns
  have hts := atoms_spec (ws := .code yX12_makeTerm cX12_makeTerm 6 (some .int) :: zt) B.pre
  have hown : s.vm.findClass RX12 = some m.cls := findClass_of_methodNamed B.named
  have hlocks := B.notSynchronized
  have hS0 : va_S (zA nR b) s.heap s.heap [] := va_S.rf
  have hl := lv_entry ([.ref (b + 0), .int (iI a0)]) (n := 6) (Nat.le_of_ble_eq_true rfl)
  have hent : entryFrame m args 6 = F0 m 0 ((lg_sl ([.ref (b + 0), .int (iI a0)]) ++ List.replicate (6 - (lg_sl ([.ref (b + 0), .int (iI a0)])).length) Slot.unset).toArray) [] := by rw [hargs]; exact lg_entry_eq m ([.ref (b + 0), .int (iI a0)]) 6
  rw [hent]
  generalize (lg_sl ([.ref (b + 0), .int (iI a0)]) ++ List.replicate (6 - (lg_sl ([.ref (b + 0), .int (iI a0)])).length) Slot.unset).toArray = ls at hl ⊢
  have hl : lv_has ls 6 [(0, .ref (b + 0)), (1, .int (iI a0))] := hl
  refine z_bipush hx hb (by decide) dX12_makeTerm_0 ?_
  refine lv_iload_n hx hb dX12_makeTerm_2 rfl (lv_at hl 1 rfl) ?_
  refine z_imul hx hb dX12_makeTerm_3 ?_
  refine lv_istore_n (lv' := [(2, .int (iI (24 * a0))), (0, .ref (b + 0)), (1, .int (iI a0))]) hx hb dX12_makeTerm_4 rfl hl (by decide) rfl (fun ls hl => ?_)
  refine lv_aload_n hx hb dX12_makeTerm_5 rfl (lv_at hl 1 rfl) ?_
  refine z_bipush hx hb (by decide) dX12_makeTerm_6 ?_
  refine z_bipush hx hb (by decide) dX12_makeTerm_8 ?_
  refine w_callz (va_runV (As := [.int (iI 48), .int (iI 57)]) (rest := []) ⟨hx, hb, hml, hown, hts⟩ (cR_has l D dA b M 48 57 _ h) (cwV 2 hts (z_gV k1067 k1068 k1393 k14 k1069) rfl rfl rfl dm_X12_has ⟨by simp only [z_rm, headSpec]; omega, by simp only [z_rm, headSpec]; omega⟩) ⟨wPre_blind, (w_recv hS hK.1 (by decide) (zkd_of (rfl : zcd wR 0 = 50) rfl) (by decide) (rfl : vwCl[12]? = some (RX12, TX12, 50))), w_pre hS hK⟩ rfl rfl hl.1 rfl (lv_room (Nat.le_of_ble_eq_true rfl)) dX12_makeTerm_10 ⟨Nat.le_refl _, Nat.le_refl _⟩) hS0 (fun z2 M1 H locs r3 h hS hS0 => ?_)
  obtain ⟨e4, h⟩ := h
  rw [e4] at hS
  refine w_if_eq (tgt := 74) hx hb (sI_01 r3) dX12_makeTerm_13 (by decide) (fun c5 => ?_) (fun c5 => ?_)
  · skip
    have h := h.1 c5
    refine lv_aload_n hx hb dX12_makeTerm_74 rfl (lv_at hl 1 rfl) ?_
    refine z_bipush hx hb (by decide) dX12_makeTerm_75 ?_
    refine z_bipush hx hb (by decide) dX12_makeTerm_77 ?_
    refine w_callz (va_runV (As := [.int (iI 91), .int (iI 91)]) (rest := []) ⟨hx, hb, hml, hown, hts⟩ (cR_has l D dA b M 91 91 _ h) (cwV 2 hts (z_gV k1067 k1068 k1393 k14 k1069) rfl rfl rfl dm_X12_has ⟨by simp only [z_rm, headSpec]; omega, by simp only [z_rm, headSpec]; omega⟩) ⟨wPre_blind, (w_recv hS hK.1 (by decide) (zkd_of (rfl : zcd wR 0 = 50) rfl) (by decide) (rfl : vwCl[12]? = some (RX12, TX12, 50))), w_pre hS hK⟩ rfl rfl hl.1 rfl (lv_room (Nat.le_of_ble_eq_true rfl)) dX12_makeTerm_79 ⟨Nat.le_refl _, Nat.le_refl _⟩) hS0 (fun z7 M6 H locs r8 h hS hS0 => ?_)
    obtain ⟨e9, h⟩ := h
    rw [e9] at hS
    refine w_if_eq (tgt := 165) hx hb (sI_01 r8) dX12_makeTerm_82 (by decide) (fun c10 => ?_) (fun c10 => ?_)
    · skip
      have h := h.1 c10
      refine lv_aload_n hx hb dX12_makeTerm_165 rfl (lv_at hl 1 rfl) ?_
      refine lv_dup hx hb dX12_makeTerm_166 rfl ?_
      refine w_geti hx hb hts (z_memU u12) hown hK.1 hS f12_36 (by decide) (zkd_of (rfl : zcd wR 0 = 50) rfl) (Or.inl (hts _ (z_mem k980))) dX12_makeTerm_167 ?_
      refine z_iconst hx hb dX12_makeTerm_170 ?_
      refine z_iadd hx hb dX12_makeTerm_171 ?_
      refine w_puti hx hb hts (z_memU u12) tyX12 tyX12_ok nmX12 hown hK.1 hS hS0 f12_36 (by decide) (zkd_of (rfl : zcd wR 0 = 50) rfl) (Or.inl (hts _ (z_mem k980))) rfl (z := ((M 0 36) + 1)) (by decide +kernel) dX12_makeTerm_172 (fun H locs hS hS0 => ?_)
      obtain ⟨M11, e12⟩ : ∃ M11 : zM, M11 = zup M 0 36 ((M 0 36) + 1) := ⟨_, rfl⟩
      rw [← e12] at hS
      have h := h M11 e12
      refine lv_aload_n hx hb dX12_makeTerm_175 rfl (lv_at hl 1 rfl) ?_
      refine lv_iload_n hx hb dX12_makeTerm_176 rfl (lv_at hl 2 rfl) ?_
      refine z_iconst hx hb dX12_makeTerm_177 ?_
      refine z_iadd hx hb dX12_makeTerm_178 ?_
      refine w_calli (va_runV (As := [.int (iI (a0 + 1))]) (rest := []) ⟨hx, hb, hml, hown, hts⟩ (hrec b M11 (a0 + 1) _ h) (cwV 1 hts (z_gV k1073 k1074 k1395 k14 k1075) rfl rfl rfl dm_X12_makeRow ⟨by simp only [z_rm, headSpec]; omega, by simp only [z_rm, headSpec]; omega⟩) ⟨wPre_blind, (w_recv hS hK.1 (by decide) (zkd_of (rfl : zcd wR 0 = 50) rfl) (by decide) (rfl : vwCl[12]? = some (RX12, TX12, 50))), w_pre hS hK⟩ rfl rfl hl.1 rfl (lv_room (Nat.le_of_ble_eq_true rfl)) dX12_makeTerm_179 ⟨Nat.le_refl _, Nat.le_refl _⟩) hS0 (fun z14 M13 H locs r15 h hS hS0 => ?_)
      refine lv_istore_n (lv' := [(3, .int (iI z14)), (2, .int (iI (24 * a0))), (0, .ref (b + 0)), (1, .int (iI a0))]) hx hb dX12_makeTerm_182 rfl hl (by decide) rfl (fun ls hl => ?_)
      refine lv_iload_n hx hb dX12_makeTerm_183 rfl (lv_at hl 0 rfl) ?_
      refine w_if_ge (tgt := 189) hx hb (sI_of r15) dX12_makeTerm_184 (by decide) (fun c16 => ?_) (fun c16 => ?_)
      · skip
        have h := h.1 c16
        refine lv_aload_n hx hb dX12_makeTerm_189 rfl (lv_at hl 2 rfl) ?_
        refine lv_dup hx hb dX12_makeTerm_190 rfl ?_
        refine w_geti hx hb hts (z_memU u12) hown hK.1 hS f12_36 (by decide) (zkd_of (rfl : zcd wR 0 = 50) rfl) (Or.inl (hts _ (z_mem k980))) dX12_makeTerm_191 ?_
        refine z_iconst hx hb dX12_makeTerm_194 ?_
        refine z_iadd hx hb dX12_makeTerm_195 ?_
        refine w_puti hx hb hts (z_memU u12) tyX12 tyX12_ok nmX12 hown hK.1 hS hS0 f12_36 (by decide) (zkd_of (rfl : zcd wR 0 = 50) rfl) (Or.inl (hts _ (z_mem k980))) rfl (z := ((M13 0 36) + 1)) (by decide +kernel) dX12_makeTerm_196 (fun H locs hS hS0 => ?_)
        obtain ⟨M17, e18⟩ : ∃ M17 : zM, M17 = zup M13 0 36 ((M13 0 36) + 1) := ⟨_, rfl⟩
        rw [← e18] at hS
        have h := h M17 e18
        refine lv_aload_n hx hb dX12_makeTerm_199 rfl (lv_at hl 2 rfl) ?_
        refine w_getr (j2 := 26) hx hb hts (z_memU u12) hown hK.1 hS f12_41 (by decide) (zkd_of (rfl : zcd wR 0 = 50) rfl) (zrf_of (rfl : zcd wR 0 = 50) rfl) (Or.inl (hts _ (z_mem k985))) dX12_makeTerm_200 ?_
        refine lv_iload_n hx hb dX12_makeTerm_203 rfl (lv_at hl 3 rfl) ?_
        refine lv_aload_n hx hb dX12_makeTerm_204 rfl (lv_at hl 2 rfl) ?_
        refine w_getr (j2 := 24) hx hb hts (z_memU u12) hown hK.1 hS f12_39 (by decide) (zkd_of (rfl : zcd wR 0 = 50) rfl) (zrf_of (rfl : zcd wR 0 = 50) rfl) (Or.inl (hts _ (z_mem k983))) dX12_makeTerm_205 ?_
        refine lv_iload_n hx hb dX12_makeTerm_208 rfl (lv_at hl 3 rfl) ?_
        refine z_iconst hx hb dX12_makeTerm_209 ?_
        refine z_iadd hx hb dX12_makeTerm_210 ?_
        obtain ⟨o19, h⟩ := h
        refine w_iald (n := 6) (i := (sI (a0 + 1))) hx hb hK.1 (t0 := 0) rfl hS (by decide) (zkd_of (rfl : zcd wR 24 = 74) rfl) (zln_of (rfl : zcd wR 24 = 74) rfl) rfl o19.1 o19.2 (by decide) dX12_makeTerm_211 ?_
        obtain ⟨o20, h⟩ := h
        refine w_iast (z := (M17 24 (sI (a0 + 1)).toNat)) (n := 6) (i := (sI a0)) hx hb hK.1 (t0 := 0) rfl hS hS0 (by decide) (zkd_of (rfl : zcd wR 26 = 76) rfl) (zln_of (rfl : zcd wR 26 = 76) rfl) rfl o20.1 o20.2 (by decide) dX12_makeTerm_212 (fun H locs hS hS0 => ?_)
        obtain ⟨M21, e22⟩ : ∃ M21 : zM, M21 = zup M17 26 (sI a0).toNat (M17 24 (sI (a0 + 1)).toNat) := ⟨_, rfl⟩
        rw [← e22] at hS
        have h := h M21 e22
        refine z_iconst hx hb dX12_makeTerm_213 ?_
        refine lv_istore (lv' := [(4, .int (iI 0)), (3, .int (iI z14)), (2, .int (iI (24 * a0))), (0, .ref (b + 0)), (1, .int (iI a0))]) hx hb dX12_makeTerm_214 hl (by decide) rfl (fun ls hl => ?_)
        obtain ⟨I25, ⟨n26, h27⟩, h28⟩ := h
        have L29 : ∀ (n30 : Nat) (x23 : Int) (M24 : zM) (H : Heap) (locs : List Loc) (ls : Array Slot), I25 n30 x23 M24 → zR D dA vwCl wR nR b M24 H → va_S (zA nR b) s.heap H locs → lv_has ls 6 [(0, .ref (b + 0)), (1, .int (iI a0)), (2, .int (iI (24 * a0))), (4, .int (iI x23))] → W p l e (headSpec (.code yX12_makeTerm cX12_makeTerm 6 (some .int) :: zt) (z_rm (dd + 1))).room s m args below meth c H locs 0 0 (MQ below (va_Qi (wQi Q) (zB D dA vwCl wR nR b) (zA nR b)) args s 0 0 (zA nR b)) (F0 m 216 ls []) := by
          intro n30
          induction n30 using Nat.strongRecOn with
          | ind n30 i31 =>
            intro x23 M24 H locs ls h hS hS0 hl
            have h := h28 n30 x23 M24 h
            refine lv_iload hx hb dX12_makeTerm_216 (lv_at hl 3 rfl) ?_
            refine lv_aload_n hx hb dX12_makeTerm_218 rfl (lv_at hl 0 rfl) ?_
            refine w_getr (j2 := 26) hx hb hts (z_memU u12) hown hK.1 hS f12_41 (by decide) (zkd_of (rfl : zcd wR 0 = 50) rfl) (zrf_of (rfl : zcd wR 0 = 50) rfl) (Or.inl (hts _ (z_mem k985))) dX12_makeTerm_219 ?_
            refine lv_iload_n hx hb dX12_makeTerm_222 rfl (lv_at hl 1 rfl) ?_
            obtain ⟨o32, h⟩ := h
            refine w_iald (n := 6) (i := (sI a0)) hx hb hK.1 (t0 := 0) rfl hS (by decide) (zkd_of (rfl : zcd wR 26 = 76) rfl) (zln_of (rfl : zcd wR 26 = 76) rfl) rfl o32.1 o32.2 (by decide) dX12_makeTerm_223 ?_
            refine w_icmp_ge (tgt := 254) hx hb rfl rfl dX12_makeTerm_224 (by decide) (fun c33 => ?_) (fun c33 => ?_)
            · skip
              have h := h.1 c33
              obtain ⟨I35, ⟨n36, h37⟩, h38⟩ := h
              have L39 : ∀ (n40 : Nat) (M34 : zM) (H : Heap) (locs : List Loc) (ls : Array Slot), I35 n40 M34 → zR D dA vwCl wR nR b M34 H → va_S (zA nR b) s.heap H locs → lv_has ls 6 [(0, .ref (b + 0)), (1, .int (iI a0)), (2, .int (iI (24 * a0)))] → W p l e (headSpec (.code yX12_makeTerm cX12_makeTerm 6 (some .int) :: zt) (z_rm (dd + 1))).room s m args below meth c H locs 0 0 (MQ below (va_Qi (wQi Q) (zB D dA vwCl wR nR b) (zA nR b)) args s 0 0 (zA nR b)) (F0 m 254 ls []) := by
                intro n40
                induction n40 using Nat.strongRecOn with
                | ind n40 i41 =>
                  intro M34 H locs ls h hS hS0 hl
                  have h := h38 n40 M34 h
                  refine lv_aload_n hx hb dX12_makeTerm_254 rfl (lv_at hl 0 rfl) ?_
                  refine z_bipush hx hb (by decide) dX12_makeTerm_255 ?_
                  refine z_bipush hx hb (by decide) dX12_makeTerm_257 ?_
                  refine w_callz (va_runV (As := [.int (iI 126), .int (iI 126)]) (rest := []) ⟨hx, hb, hml, hown, hts⟩ (cR_has l D dA b M34 126 126 _ h) (cwV 2 hts (z_gV k1067 k1068 k1393 k14 k1069) rfl rfl rfl dm_X12_has ⟨by simp only [z_rm, headSpec]; omega, by simp only [z_rm, headSpec]; omega⟩) ⟨wPre_blind, (w_recv hS hK.1 (by decide) (zkd_of (rfl : zcd wR 0 = 50) rfl) (by decide) (rfl : vwCl[12]? = some (RX12, TX12, 50))), w_pre hS hK⟩ rfl rfl hl.1 rfl (lv_room (Nat.le_of_ble_eq_true rfl)) dX12_makeTerm_259 ⟨Nat.le_refl _, Nat.le_refl _⟩) hS0 (fun z43 M42 H locs r44 h hS hS0 => ?_)
                  obtain ⟨e45, h⟩ := h
                  rw [e45] at hS
                  obtain ⟨J276, B53, h⟩ := h
                  have L52 : ∀ (H : Heap) (locs : List Loc) (ls : Array Slot), J276 → zR D dA vwCl wR nR b M34 H → va_S (zA nR b) s.heap H locs → lv_has ls 6 [(0, .ref (b + 0)), (1, .int (iI a0)), (2, .int (iI (24 * a0)))] → W p l e (headSpec (.code yX12_makeTerm cX12_makeTerm 6 (some .int) :: zt) (z_rm (dd + 1))).room s m args below meth c H locs 0 0 (MQ below (va_Qi (wQi Q) (zB D dA vwCl wR nR b) (zA nR b)) args s 0 0 (zA nR b)) (F0 m 276 ls []) := by
                    intro  H locs ls h hS hS0 hl
                    have h := B53 h
                    refine lv_aload_n hx hb dX12_makeTerm_276 rfl (lv_at hl 0 rfl) ?_
                    refine w_getr (j2 := 26) hx hb hts (z_memU u12) hown hK.1 hS f12_41 (by decide) (zkd_of (rfl : zcd wR 0 = 50) rfl) (zrf_of (rfl : zcd wR 0 = 50) rfl) (Or.inl (hts _ (z_mem k985))) dX12_makeTerm_277 ?_
                    refine lv_iload_n hx hb dX12_makeTerm_280 rfl (lv_at hl 1 rfl) ?_
                    obtain ⟨o54, h⟩ := h
                    refine w_iald (n := 6) (i := (sI a0)) hx hb hK.1 (t0 := 0) rfl hS (by decide) (zkd_of (rfl : zcd wR 26 = 76) rfl) (zln_of (rfl : zcd wR 26 = 76) rfl) rfl o54.1 o54.2 (by decide) dX12_makeTerm_281 ?_
                    refine lv_istore_n (lv' := [(3, .int (iI (M34 26 (sI a0).toNat))), (0, .ref (b + 0)), (1, .int (iI a0)), (2, .int (iI (24 * a0)))]) hx hb dX12_makeTerm_282 rfl hl (by decide) rfl (fun ls hl => ?_)
                    refine lv_aload_n hx hb dX12_makeTerm_283 rfl (lv_at hl 1 rfl) ?_
                    refine z_bipush hx hb (by decide) dX12_makeTerm_284 ?_
                    refine z_bipush hx hb (by decide) dX12_makeTerm_286 ?_
                    refine w_callz (va_runV (As := [.int (iI 126), .int (iI 126)]) (rest := []) ⟨hx, hb, hml, hown, hts⟩ (cR_has l D dA b M34 126 126 _ h) (cwV 2 hts (z_gV k1067 k1068 k1393 k14 k1069) rfl rfl rfl dm_X12_has ⟨by simp only [z_rm, headSpec]; omega, by simp only [z_rm, headSpec]; omega⟩) ⟨wPre_blind, (w_recv hS hK.1 (by decide) (zkd_of (rfl : zcd wR 0 = 50) rfl) (by decide) (rfl : vwCl[12]? = some (RX12, TX12, 50))), w_pre hS hK⟩ rfl rfl hl.1 rfl (lv_room (Nat.le_of_ble_eq_true rfl)) dX12_makeTerm_288 ⟨Nat.le_refl _, Nat.le_refl _⟩) hS0 (fun z56 M55 H locs r57 h hS hS0 => ?_)
                    obtain ⟨e58, h⟩ := h
                    rw [e58] at hS
                    refine w_if_eq (tgt := 372) hx hb (sI_01 r57) dX12_makeTerm_291 (by decide) (fun c59 => ?_) (fun c59 => ?_)
                    · skip
                      have h := h.1 c59
                      refine lv_aload_n hx hb dX12_makeTerm_372 rfl (lv_at hl 1 rfl) ?_
                      refine w_getr (j2 := 1) hx hb hts (z_memU u12) hown hK.1 hS f12_0 (by decide) (zkd_of (rfl : zcd wR 0 = 50) rfl) (zrf_of (rfl : zcd wR 0 = 50) rfl) (Or.inl (hts _ (z_mem k944))) dX12_makeTerm_373 ?_
                      refine lv_aload_n hx hb dX12_makeTerm_376 rfl (lv_at hl 1 rfl) ?_
                      refine w_geti hx hb hts (z_memU u12) hown hK.1 hS f12_36 (by decide) (zkd_of (rfl : zcd wR 0 = 50) rfl) (Or.inl (hts _ (z_mem k980))) dX12_makeTerm_377 ?_
                      refine z_iconst hx hb dX12_makeTerm_380 ?_
                      refine z_iadd hx hb dX12_makeTerm_381 ?_
                      obtain ⟨o60, h⟩ := h
                      refine w_bald (n := 100) (i := (sI ((M34 0 36) + 1))) hx hb hK.1 (t0 := 2) rfl hS (by decide) (zkd_of (rfl : zcd wR 1 = 51) rfl) (zln_of (rfl : zcd wR 1 = 51) rfl) rfl o60.1 o60.2 (by decide) dX12_makeTerm_382 ?_
                      refine z_bipush hx hb (by decide) dX12_makeTerm_383 ?_
                      refine z_isub hx hb dX12_makeTerm_385 ?_
                      obtain ⟨t61, e62⟩ : ∃ t61 : Int, t61 = ((M34 1 (sI ((M34 0 36) + 1)).toNat) - 48) := ⟨_, rfl⟩
                      refine z_top (y := t61) e62.symm ?_
                      have h := h t61 e62
                      refine lv_istore (lv' := [(4, .int (iI t61)), (3, .int (iI (M34 26 (sI a0).toNat))), (0, .ref (b + 0)), (1, .int (iI a0)), (2, .int (iI (24 * a0)))]) hx hb dX12_makeTerm_386 hl (by decide) rfl (fun ls hl => ?_)
                      refine lv_aload_n hx hb dX12_makeTerm_388 rfl (lv_at hl 2 rfl) ?_
                      refine lv_dup hx hb dX12_makeTerm_389 rfl ?_
                      refine w_geti hx hb hts (z_memU u12) hown hK.1 hS f12_36 (by decide) (zkd_of (rfl : zcd wR 0 = 50) rfl) (Or.inl (hts _ (z_mem k980))) dX12_makeTerm_390 ?_
                      refine z_iconst hx hb dX12_makeTerm_393 ?_
                      refine z_iadd hx hb dX12_makeTerm_394 ?_
                      refine w_puti hx hb hts (z_memU u12) tyX12 tyX12_ok nmX12 hown hK.1 hS hS0 f12_36 (by decide) (zkd_of (rfl : zcd wR 0 = 50) rfl) (Or.inl (hts _ (z_mem k980))) rfl (z := ((M34 0 36) + 2)) (by decide +kernel) dX12_makeTerm_395 (fun H locs hS hS0 => ?_)
                      obtain ⟨M63, e64⟩ : ∃ M63 : zM, M63 = zup M34 0 36 ((M34 0 36) + 2) := ⟨_, rfl⟩
                      rw [← e64] at hS
                      have h := h M63 e64
                      refine lv_iload_n hx hb dX12_makeTerm_398 rfl (lv_at hl 1 rfl) ?_
                      refine lv_iload hx hb dX12_makeTerm_399 (lv_at hl 0 rfl) ?_
                      refine z_imul hx hb dX12_makeTerm_401 ?_
                      refine z_bipush hx hb (by decide) dX12_makeTerm_402 ?_
                      refine w_icmp_le (tgt := 410) hx hb rfl (sI_of (by decide)) dX12_makeTerm_404 (by decide) (fun c65 => ?_) (fun c65 => ?_)
                      · skip
                        have h := h.1 c65
                        refine lv_iload_n hx hb dX12_makeTerm_410 rfl (lv_at hl 1 rfl) ?_
                        refine lv_istore (lv' := [(5, .int (iI (M34 26 (sI a0).toNat))), (4, .int (iI t61)), (3, .int (iI (M34 26 (sI a0).toNat))), (0, .ref (b + 0)), (1, .int (iI a0)), (2, .int (iI (24 * a0)))]) hx hb dX12_makeTerm_411 hl (by decide) rfl (fun ls hl => ?_)
                        obtain ⟨I68, ⟨n69, h70⟩, h71⟩ := h
                        have L72 : ∀ (n73 : Nat) (x66 : Int) (M67 : zM) (H : Heap) (locs : List Loc) (ls : Array Slot), I68 n73 x66 M67 → zR D dA vwCl wR nR b M67 H → va_S (zA nR b) s.heap H locs → lv_has ls 6 [(0, .ref (b + 0)), (1, .int (iI a0)), (2, .int (iI (24 * a0))), (3, .int (iI (M34 26 (sI a0).toNat))), (4, .int (iI t61)), (5, .int (iI x66))] → W p l e (headSpec (.code yX12_makeTerm cX12_makeTerm 6 (some .int) :: zt) (z_rm (dd + 1))).room s m args below meth c H locs 0 0 (MQ below (va_Qi (wQi Q) (zB D dA vwCl wR nR b) (zA nR b)) args s 0 0 (zA nR b)) (F0 m 413 ls []) := by
                          intro n73
                          induction n73 using Nat.strongRecOn with
                          | ind n73 i74 =>
                            intro x66 M67 H locs ls h hS hS0 hl
                            have h := h71 n73 x66 M67 h
                            refine lv_iload hx hb dX12_makeTerm_413 (lv_at hl 5 rfl) ?_
                            refine lv_iload_n hx hb dX12_makeTerm_415 rfl (lv_at hl 3 rfl) ?_
                            refine lv_iload hx hb dX12_makeTerm_416 (lv_at hl 4 rfl) ?_
                            refine z_imul hx hb dX12_makeTerm_418 ?_
                            refine w_icmp_ge (tgt := 448) hx hb rfl rfl dX12_makeTerm_419 (by decide) (fun c75 => ?_) (fun c75 => ?_)
                            · skip
                              have h := h.1 c75
                              refine lv_aload_n hx hb dX12_makeTerm_448 rfl (lv_at hl 0 rfl) ?_
                              refine w_getr (j2 := 26) hx hb hts (z_memU u12) hown hK.1 hS f12_41 (by decide) (zkd_of (rfl : zcd wR 0 = 50) rfl) (zrf_of (rfl : zcd wR 0 = 50) rfl) (Or.inl (hts _ (z_mem k985))) dX12_makeTerm_449 ?_
                              refine lv_iload_n hx hb dX12_makeTerm_452 rfl (lv_at hl 1 rfl) ?_
                              refine lv_iload_n hx hb dX12_makeTerm_453 rfl (lv_at hl 3 rfl) ?_
                              refine lv_iload hx hb dX12_makeTerm_454 (lv_at hl 4 rfl) ?_
                              refine z_imul hx hb dX12_makeTerm_456 ?_
                              obtain ⟨o76, h⟩ := h
                              refine w_iast (z := ((M34 26 (sI a0).toNat) * t61)) (n := 6) (i := (sI a0)) hx hb hK.1 (t0 := 0) rfl hS hS0 (by decide) (zkd_of (rfl : zcd wR 26 = 76) rfl) (zln_of (rfl : zcd wR 26 = 76) rfl) rfl o76.1 o76.2 (by decide) dX12_makeTerm_457 (fun H locs hS hS0 => ?_)
                              obtain ⟨M77, e78⟩ : ∃ M77 : zM, M77 = zup M67 26 (sI a0).toNat ((M34 26 (sI a0).toNat) * t61) := ⟨_, rfl⟩
                              rw [← e78] at hS
                              have h := h M77 e78
                              refine lv_goto (tgt := 254) hx hb dX12_makeTerm_458 (by decide) ?_
                              obtain ⟨n79, h80, h⟩ := h
                              exact i41 n79 h80 M77 _ _ _ h hS hS0 (lv_sub hl [0, 1, 2] rfl)
                            · skip
                              have h := h.2 c75
                              refine lv_aload_n hx hb dX12_makeTerm_422 rfl (lv_at hl 0 rfl) ?_
                              refine w_getr (j2 := 25) hx hb hts (z_memU u12) hown hK.1 hS f12_40 (by decide) (zkd_of (rfl : zcd wR 0 = 50) rfl) (zrf_of (rfl : zcd wR 0 = 50) rfl) (Or.inl (hts _ (z_mem k984))) dX12_makeTerm_423 ?_
                              refine lv_iload_n hx hb dX12_makeTerm_426 rfl (lv_at hl 2 rfl) ?_
                              refine lv_iload hx hb dX12_makeTerm_427 (lv_at hl 5 rfl) ?_
                              refine z_iadd hx hb dX12_makeTerm_429 ?_
                              refine lv_aload_n hx hb dX12_makeTerm_430 rfl (lv_at hl 0 rfl) ?_
                              refine w_getr (j2 := 25) hx hb hts (z_memU u12) hown hK.1 hS f12_40 (by decide) (zkd_of (rfl : zcd wR 0 = 50) rfl) (zrf_of (rfl : zcd wR 0 = 50) rfl) (Or.inl (hts _ (z_mem k984))) dX12_makeTerm_431 ?_
                              refine lv_iload_n hx hb dX12_makeTerm_434 rfl (lv_at hl 2 rfl) ?_
                              refine lv_iload hx hb dX12_makeTerm_435 (lv_at hl 5 rfl) ?_
                              refine z_iadd hx hb dX12_makeTerm_437 ?_
                              refine lv_iload_n hx hb dX12_makeTerm_438 rfl (lv_at hl 3 rfl) ?_
                              refine z_isub hx hb dX12_makeTerm_439 ?_
                              obtain ⟨o81, h⟩ := h
                              refine w_iald (n := 144) (i := (sI (((24 * a0) + x66) - (M34 26 (sI a0).toNat)))) hx hb hK.1 (t0 := 0) rfl hS (by decide) (zkd_of (rfl : zcd wR 25 = 75) rfl) (zln_of (rfl : zcd wR 25 = 75) rfl) rfl o81.1 o81.2 (by decide) dX12_makeTerm_440 ?_
                              obtain ⟨o82, h⟩ := h
                              refine w_iast (z := (M67 25 (sI (((24 * a0) + x66) - (M34 26 (sI a0).toNat))).toNat)) (n := 144) (i := (sI ((24 * a0) + x66))) hx hb hK.1 (t0 := 0) rfl hS hS0 (by decide) (zkd_of (rfl : zcd wR 25 = 75) rfl) (zln_of (rfl : zcd wR 25 = 75) rfl) rfl o82.1 o82.2 (by decide) dX12_makeTerm_441 (fun H locs hS hS0 => ?_)
                              obtain ⟨M83, e84⟩ : ∃ M83 : zM, M83 = zup M67 25 (sI ((24 * a0) + x66)).toNat (M67 25 (sI (((24 * a0) + x66) - (M34 26 (sI a0).toNat))).toNat) := ⟨_, rfl⟩
                              rw [← e84] at hS
                              have h := h M83 e84
                              refine z_iinc (lv' := [(5, .int (iI (x66 + 1))), (0, .ref (b + 0)), (1, .int (iI a0)), (2, .int (iI (24 * a0))), (3, .int (iI (M34 26 (sI a0).toNat))), (4, .int (iI t61))]) hx hb dX12_makeTerm_442 hl (k := 5) rfl (by decide) rfl (fun ls hl => ?_)
                              refine lv_goto (tgt := 413) hx hb dX12_makeTerm_445 (by decide) ?_
                              obtain ⟨n85, h86, h⟩ := h
                              exact i74 n85 h86 (x66 + 1) M83 _ _ _ h hS hS0 (lv_sub hl [1, 2, 3, 4, 5, 0] rfl)
                        exact L72 n69 (M34 26 (sI a0).toNat) M63 _ _ _ h70 hS hS0 (lv_sub hl [3, 4, 5, 2, 1, 0] rfl)
                      · skip
                        have h := h.2 c65
                        refine z_bipush hx hb (by decide) dX12_makeTerm_407 ?_
                        exact w_iret hx hb hr hlocks hS hS0 (sI_of (by decide)) h dX12_makeTerm_409
                    · skip
                      have h := h.2 c59
                      refine lv_aload_n hx hb dX12_makeTerm_294 rfl (lv_at hl 1 rfl) ?_
                      refine lv_dup hx hb dX12_makeTerm_295 rfl ?_
                      refine w_geti hx hb hts (z_memU u12) hown hK.1 hS f12_36 (by decide) (zkd_of (rfl : zcd wR 0 = 50) rfl) (Or.inl (hts _ (z_mem k980))) dX12_makeTerm_296 ?_
                      refine z_iconst hx hb dX12_makeTerm_299 ?_
                      refine z_iadd hx hb dX12_makeTerm_300 ?_
                      refine w_puti hx hb hts (z_memU u12) tyX12 tyX12_ok nmX12 hown hK.1 hS hS0 f12_36 (by decide) (zkd_of (rfl : zcd wR 0 = 50) rfl) (Or.inl (hts _ (z_mem k980))) rfl (z := ((M34 0 36) + 1)) (by decide +kernel) dX12_makeTerm_301 (fun H locs hS hS0 => ?_)
                      obtain ⟨M87, e88⟩ : ∃ M87 : zM, M87 = zup M34 0 36 ((M34 0 36) + 1) := ⟨_, rfl⟩
                      rw [← e88] at hS
                      have h := h M87 e88
                      refine z_iconst hx hb dX12_makeTerm_304 ?_
                      refine lv_istore (lv' := [(4, .int (iI 0)), (3, .int (iI (M34 26 (sI a0).toNat))), (0, .ref (b + 0)), (1, .int (iI a0)), (2, .int (iI (24 * a0)))]) hx hb dX12_makeTerm_305 hl (by decide) rfl (fun ls hl => ?_)
                      obtain ⟨I91, ⟨n92, h93⟩, h94⟩ := h
                      have L95 : ∀ (n96 : Nat) (x89 : Int) (M90 : zM) (H : Heap) (locs : List Loc) (ls : Array Slot), I91 n96 x89 M90 → zR D dA vwCl wR nR b M90 H → va_S (zA nR b) s.heap H locs → lv_has ls 6 [(0, .ref (b + 0)), (1, .int (iI a0)), (2, .int (iI (24 * a0))), (3, .int (iI (M34 26 (sI a0).toNat))), (4, .int (iI x89))] → W p l e (headSpec (.code yX12_makeTerm cX12_makeTerm 6 (some .int) :: zt) (z_rm (dd + 1))).room s m args below meth c H locs 0 0 (MQ below (va_Qi (wQi Q) (zB D dA vwCl wR nR b) (zA nR b)) args s 0 0 (zA nR b)) (F0 m 307 ls []) := by
                        intro n96
                        induction n96 using Nat.strongRecOn with
                        | ind n96 i97 =>
                          intro x89 M90 H locs ls h hS hS0 hl
                          have h := h94 n96 x89 M90 h
                          refine lv_iload hx hb dX12_makeTerm_307 (lv_at hl 4 rfl) ?_
                          refine lv_iload_n hx hb dX12_makeTerm_309 rfl (lv_at hl 3 rfl) ?_
                          refine z_iconst hx hb dX12_makeTerm_310 ?_
                          refine w_idiv hx hb rfl (sI_of (by decide)) (by decide) dX12_makeTerm_311 ?_
                          refine w_icmp_ge (tgt := 369) hx hb rfl rfl dX12_makeTerm_312 (by decide) (fun c98 => ?_) (fun c98 => ?_)
                          · skip
                            have h := h.1 c98
                            refine lv_goto (tgt := 254) hx hb dX12_makeTerm_369 (by decide) ?_
                            obtain ⟨n99, h100, h⟩ := h
                            exact i41 n99 h100 M90 _ _ _ h hS hS0 (lv_sub hl [0, 1, 2] rfl)
                          · skip
                            have h := h.2 c98
                            refine lv_aload_n hx hb dX12_makeTerm_315 rfl (lv_at hl 0 rfl) ?_
                            refine w_getr (j2 := 25) hx hb hts (z_memU u12) hown hK.1 hS f12_40 (by decide) (zkd_of (rfl : zcd wR 0 = 50) rfl) (zrf_of (rfl : zcd wR 0 = 50) rfl) (Or.inl (hts _ (z_mem k984))) dX12_makeTerm_316 ?_
                            refine lv_iload_n hx hb dX12_makeTerm_319 rfl (lv_at hl 2 rfl) ?_
                            refine lv_iload hx hb dX12_makeTerm_320 (lv_at hl 4 rfl) ?_
                            refine z_iadd hx hb dX12_makeTerm_322 ?_
                            obtain ⟨o101, h⟩ := h
                            refine w_iald (n := 144) (i := (sI ((24 * a0) + x89))) hx hb hK.1 (t0 := 0) rfl hS (by decide) (zkd_of (rfl : zcd wR 25 = 75) rfl) (zln_of (rfl : zcd wR 25 = 75) rfl) rfl o101.1 o101.2 (by decide) dX12_makeTerm_323 ?_
                            refine lv_istore (lv' := [(5, .int (iI (M90 25 (sI ((24 * a0) + x89)).toNat))), (0, .ref (b + 0)), (1, .int (iI a0)), (2, .int (iI (24 * a0))), (3, .int (iI (M34 26 (sI a0).toNat))), (4, .int (iI x89))]) hx hb dX12_makeTerm_324 hl (by decide) rfl (fun ls hl => ?_)
                            refine lv_aload_n hx hb dX12_makeTerm_326 rfl (lv_at hl 1 rfl) ?_
                            refine w_getr (j2 := 25) hx hb hts (z_memU u12) hown hK.1 hS f12_40 (by decide) (zkd_of (rfl : zcd wR 0 = 50) rfl) (zrf_of (rfl : zcd wR 0 = 50) rfl) (Or.inl (hts _ (z_mem k984))) dX12_makeTerm_327 ?_
                            refine lv_iload_n hx hb dX12_makeTerm_330 rfl (lv_at hl 3 rfl) ?_
                            refine lv_iload hx hb dX12_makeTerm_331 (lv_at hl 5 rfl) ?_
                            refine z_iadd hx hb dX12_makeTerm_333 ?_
                            refine lv_aload_n hx hb dX12_makeTerm_334 rfl (lv_at hl 1 rfl) ?_
                            refine w_getr (j2 := 25) hx hb hts (z_memU u12) hown hK.1 hS f12_40 (by decide) (zkd_of (rfl : zcd wR 0 = 50) rfl) (zrf_of (rfl : zcd wR 0 = 50) rfl) (Or.inl (hts _ (z_mem k984))) dX12_makeTerm_335 ?_
                            refine lv_iload_n hx hb dX12_makeTerm_338 rfl (lv_at hl 3 rfl) ?_
                            refine lv_iload_n hx hb dX12_makeTerm_339 rfl (lv_at hl 4 rfl) ?_
                            refine z_iadd hx hb dX12_makeTerm_340 ?_
                            refine z_iconst hx hb dX12_makeTerm_341 ?_
                            refine z_isub hx hb dX12_makeTerm_342 ?_
                            refine lv_iload hx hb dX12_makeTerm_343 (lv_at hl 5 rfl) ?_
                            refine z_isub hx hb dX12_makeTerm_345 ?_
                            obtain ⟨o102, h⟩ := h
                            refine w_iald (n := 144) (i := (sI ((((24 * a0) + (M34 26 (sI a0).toNat)) - 1) - x89))) hx hb hK.1 (t0 := 0) rfl hS (by decide) (zkd_of (rfl : zcd wR 25 = 75) rfl) (zln_of (rfl : zcd wR 25 = 75) rfl) rfl o102.1 o102.2 (by decide) dX12_makeTerm_346 ?_
                            obtain ⟨o103, h⟩ := h
                            refine w_iast (z := (M90 25 (sI ((((24 * a0) + (M34 26 (sI a0).toNat)) - 1) - x89)).toNat)) (n := 144) (i := (sI ((24 * a0) + x89))) hx hb hK.1 (t0 := 0) rfl hS hS0 (by decide) (zkd_of (rfl : zcd wR 25 = 75) rfl) (zln_of (rfl : zcd wR 25 = 75) rfl) rfl o103.1 o103.2 (by decide) dX12_makeTerm_347 (fun H locs hS hS0 => ?_)
                            obtain ⟨M104, e105⟩ : ∃ M104 : zM, M104 = zup M90 25 (sI ((24 * a0) + x89)).toNat (M90 25 (sI ((((24 * a0) + (M34 26 (sI a0).toNat)) - 1) - x89)).toNat) := ⟨_, rfl⟩
                            rw [← e105] at hS
                            have h := h M104 e105
                            refine lv_aload_n hx hb dX12_makeTerm_348 rfl (lv_at hl 1 rfl) ?_
                            refine w_getr (j2 := 25) hx hb hts (z_memU u12) hown hK.1 hS f12_40 (by decide) (zkd_of (rfl : zcd wR 0 = 50) rfl) (zrf_of (rfl : zcd wR 0 = 50) rfl) (Or.inl (hts _ (z_mem k984))) dX12_makeTerm_349 ?_
                            refine lv_iload_n hx hb dX12_makeTerm_352 rfl (lv_at hl 3 rfl) ?_
                            refine lv_iload_n hx hb dX12_makeTerm_353 rfl (lv_at hl 4 rfl) ?_
                            refine z_iadd hx hb dX12_makeTerm_354 ?_
                            refine z_iconst hx hb dX12_makeTerm_355 ?_
                            refine z_isub hx hb dX12_makeTerm_356 ?_
                            refine lv_iload hx hb dX12_makeTerm_357 (lv_at hl 5 rfl) ?_
                            refine z_isub hx hb dX12_makeTerm_359 ?_
                            refine lv_iload hx hb dX12_makeTerm_360 (lv_at hl 0 rfl) ?_
                            obtain ⟨o106, h⟩ := h
                            refine w_iast (z := (M90 25 (sI ((24 * a0) + x89)).toNat)) (n := 144) (i := (sI ((((24 * a0) + (M34 26 (sI a0).toNat)) - 1) - x89))) hx hb hK.1 (t0 := 0) rfl hS hS0 (by decide) (zkd_of (rfl : zcd wR 25 = 75) rfl) (zln_of (rfl : zcd wR 25 = 75) rfl) rfl o106.1 o106.2 (by decide) dX12_makeTerm_362 (fun H locs hS hS0 => ?_)
                            obtain ⟨M107, e108⟩ : ∃ M107 : zM, M107 = zup M104 25 (sI ((((24 * a0) + (M34 26 (sI a0).toNat)) - 1) - x89)).toNat (M90 25 (sI ((24 * a0) + x89)).toNat) := ⟨_, rfl⟩
                            rw [← e108] at hS
                            have h := h M107 e108
                            refine z_iinc (lv' := [(4, .int (iI (x89 + 1))), (5, .int (iI (M90 25 (sI ((24 * a0) + x89)).toNat))), (0, .ref (b + 0)), (1, .int (iI a0)), (2, .int (iI (24 * a0))), (3, .int (iI (M34 26 (sI a0).toNat)))]) hx hb dX12_makeTerm_363 hl (k := 5) rfl (by decide) rfl (fun ls hl => ?_)
                            refine lv_goto (tgt := 307) hx hb dX12_makeTerm_366 (by decide) ?_
                            obtain ⟨n109, h110, h⟩ := h
                            exact i97 n109 h110 (x89 + 1) M107 _ _ _ h hS hS0 (lv_sub hl [2, 3, 4, 5, 0] rfl)
                      exact L95 n92 0 M87 _ _ _ h93 hS hS0 (lv_sub hl [2, 3, 4, 1, 0] rfl)
                  refine w_if_ne (tgt := 276) hx hb (sI_01 r44) dX12_makeTerm_262 (by decide) (fun c111 => ?_) (fun c111 => ?_)
                  · skip
                    have h := h.1 c111
                    exact L52 _ _ _ h hS hS0 (lv_sub hl [0, 1, 2] rfl)
                  · skip
                    have h := h.2 c111
                    refine lv_aload_n hx hb dX12_makeTerm_265 rfl (lv_at hl 0 rfl) ?_
                    refine z_bipush hx hb (by decide) dX12_makeTerm_266 ?_
                    refine z_bipush hx hb (by decide) dX12_makeTerm_268 ?_
                    refine w_callz (va_runV (As := [.int (iI 42), .int (iI 42)]) (rest := []) ⟨hx, hb, hml, hown, hts⟩ (cR_has l D dA b M34 42 42 _ h) (cwV 2 hts (z_gV k1067 k1068 k1393 k14 k1069) rfl rfl rfl dm_X12_has ⟨by simp only [z_rm, headSpec]; omega, by simp only [z_rm, headSpec]; omega⟩) ⟨wPre_blind, (w_recv hS hK.1 (by decide) (zkd_of (rfl : zcd wR 0 = 50) rfl) (by decide) (rfl : vwCl[12]? = some (RX12, TX12, 50))), w_pre hS hK⟩ rfl rfl hl.1 rfl (lv_room (Nat.le_of_ble_eq_true rfl)) dX12_makeTerm_270 ⟨Nat.le_refl _, Nat.le_refl _⟩) hS0 (fun z113 M112 H locs r114 h hS hS0 => ?_)
                    obtain ⟨e115, h⟩ := h
                    rw [e115] at hS
                    refine w_if_eq (tgt := 461) hx hb (sI_01 r114) dX12_makeTerm_273 (by decide) (fun c116 => ?_) (fun c116 => ?_)
                    · skip
                      have h := h.1 c116
                      refine z_iconst hx hb dX12_makeTerm_461 ?_
                      exact w_iret hx hb hr hlocks hS hS0 (sI_of (by decide)) h dX12_makeTerm_462
                    · skip
                      have h := h.2 c116
                      exact L52 _ _ _ h hS hS0 (lv_sub hl [0, 1, 2] rfl)
              exact L39 n36 M24 _ _ _ h37 hS hS0 (lv_sub hl [0, 1, 2] rfl)
            · skip
              have h := h.2 c33
              refine lv_aload_n hx hb dX12_makeTerm_227 rfl (lv_at hl 0 rfl) ?_
              refine w_getr (j2 := 25) hx hb hts (z_memU u12) hown hK.1 hS f12_40 (by decide) (zkd_of (rfl : zcd wR 0 = 50) rfl) (zrf_of (rfl : zcd wR 0 = 50) rfl) (Or.inl (hts _ (z_mem k984))) dX12_makeTerm_228 ?_
              refine lv_iload_n hx hb dX12_makeTerm_231 rfl (lv_at hl 2 rfl) ?_
              refine lv_iload hx hb dX12_makeTerm_232 (lv_at hl 3 rfl) ?_
              refine z_iadd hx hb dX12_makeTerm_234 ?_
              refine lv_aload_n hx hb dX12_makeTerm_235 rfl (lv_at hl 0 rfl) ?_
              refine w_getr (j2 := 23) hx hb hts (z_memU u12) hown hK.1 hS f12_38 (by decide) (zkd_of (rfl : zcd wR 0 = 50) rfl) (zrf_of (rfl : zcd wR 0 = 50) rfl) (Or.inl (hts _ (z_mem k982))) dX12_makeTerm_236 ?_
              refine lv_iload_n hx hb dX12_makeTerm_239 rfl (lv_at hl 2 rfl) ?_
              refine z_bipush hx hb (by decide) dX12_makeTerm_240 ?_
              refine z_iadd hx hb dX12_makeTerm_242 ?_
              refine lv_iload hx hb dX12_makeTerm_243 (lv_at hl 3 rfl) ?_
              refine z_iadd hx hb dX12_makeTerm_245 ?_
              obtain ⟨o117, h⟩ := h
              refine w_iald (n := 144) (i := (sI (((24 * a0) + 24) + x23))) hx hb hK.1 (t0 := 0) rfl hS (by decide) (zkd_of (rfl : zcd wR 23 = 73) rfl) (zln_of (rfl : zcd wR 23 = 73) rfl) rfl o117.1 o117.2 (by decide) dX12_makeTerm_246 ?_
              obtain ⟨o118, h⟩ := h
              refine w_iast (z := (M24 23 (sI (((24 * a0) + 24) + x23)).toNat)) (n := 144) (i := (sI ((24 * a0) + x23))) hx hb hK.1 (t0 := 0) rfl hS hS0 (by decide) (zkd_of (rfl : zcd wR 25 = 75) rfl) (zln_of (rfl : zcd wR 25 = 75) rfl) rfl o118.1 o118.2 (by decide) dX12_makeTerm_247 (fun H locs hS hS0 => ?_)
              obtain ⟨M119, e120⟩ : ∃ M119 : zM, M119 = zup M24 25 (sI ((24 * a0) + x23)).toNat (M24 23 (sI (((24 * a0) + 24) + x23)).toNat) := ⟨_, rfl⟩
              rw [← e120] at hS
              have h := h M119 e120
              refine z_iinc (lv' := [(4, .int (iI (x23 + 1))), (0, .ref (b + 0)), (1, .int (iI a0)), (2, .int (iI (24 * a0)))]) hx hb dX12_makeTerm_248 hl (k := 3) rfl (by decide) rfl (fun ls hl => ?_)
              refine lv_goto (tgt := 216) hx hb dX12_makeTerm_251 (by decide) ?_
              obtain ⟨n121, h122, h⟩ := h
              exact i31 n121 h122 (x23 + 1) M119 _ _ _ h hS hS0 (lv_sub hl [1, 2, 3, 0] rfl)
        exact L29 n26 0 M21 _ _ _ h27 hS hS0 (lv_sub hl [3, 4, 2, 0] rfl)
      · skip
        have h := h.2 c16
        refine lv_iload_n hx hb dX12_makeTerm_187 rfl (lv_at hl 0 rfl) ?_
        exact w_iret hx hb hr hlocks hS hS0 (sI_of r15) h dX12_makeTerm_188
    · skip
      have h := h.2 c10
      refine lv_aload_n hx hb dX12_makeTerm_85 rfl (lv_at hl 1 rfl) ?_
      refine lv_dup hx hb dX12_makeTerm_86 rfl ?_
      refine w_geti hx hb hts (z_memU u12) hown hK.1 hS f12_36 (by decide) (zkd_of (rfl : zcd wR 0 = 50) rfl) (Or.inl (hts _ (z_mem k980))) dX12_makeTerm_87 ?_
      refine z_iconst hx hb dX12_makeTerm_90 ?_
      refine z_iadd hx hb dX12_makeTerm_91 ?_
      refine w_puti hx hb hts (z_memU u12) tyX12 tyX12_ok nmX12 hown hK.1 hS hS0 f12_36 (by decide) (zkd_of (rfl : zcd wR 0 = 50) rfl) (Or.inl (hts _ (z_mem k980))) rfl (z := ((M 0 36) + 1)) (by decide +kernel) dX12_makeTerm_92 (fun H locs hS hS0 => ?_)
      obtain ⟨M123, e124⟩ : ∃ M123 : zM, M123 = zup M 0 36 ((M 0 36) + 1) := ⟨_, rfl⟩
      rw [← e124] at hS
      have h := h M123 e124
      refine z_iconst hx hb dX12_makeTerm_95 ?_
      refine lv_istore_n (lv' := [(3, .int (iI 0)), (2, .int (iI (24 * a0))), (0, .ref (b + 0)), (1, .int (iI a0))]) hx hb dX12_makeTerm_96 rfl hl (by decide) rfl (fun ls hl => ?_)
      obtain ⟨I127, ⟨n128, h129⟩, h130⟩ := h
      have L131 : ∀ (n132 : Nat) (x125 : Int) (M126 : zM) (H : Heap) (locs : List Loc) (ls : Array Slot), I127 n132 x125 M126 → zR D dA vwCl wR nR b M126 H → va_S (zA nR b) s.heap H locs → lv_has ls 6 [(0, .ref (b + 0)), (1, .int (iI a0)), (2, .int (iI (24 * a0))), (3, .int (iI x125))] → W p l e (headSpec (.code yX12_makeTerm cX12_makeTerm 6 (some .int) :: zt) (z_rm (dd + 1))).room s m args below meth c H locs 0 0 (MQ below (va_Qi (wQi Q) (zB D dA vwCl wR nR b) (zA nR b)) args s 0 0 (zA nR b)) (F0 m 97 ls []) := by
        intro n132
        induction n132 using Nat.strongRecOn with
        | ind n132 i133 =>
          intro x125 M126 H locs ls h hS hS0 hl
          have h := h130 n132 x125 M126 h
          refine lv_aload_n hx hb dX12_makeTerm_97 rfl (lv_at hl 0 rfl) ?_
          refine z_bipush hx hb (by decide) dX12_makeTerm_98 ?_
          refine z_bipush hx hb (by decide) dX12_makeTerm_100 ?_
          refine w_callz (va_runV (As := [.int (iI 49), .int (iI 57)]) (rest := []) ⟨hx, hb, hml, hown, hts⟩ (cR_has l D dA b M126 49 57 _ h) (cwV 2 hts (z_gV k1067 k1068 k1393 k14 k1069) rfl rfl rfl dm_X12_has ⟨by simp only [z_rm, headSpec]; omega, by simp only [z_rm, headSpec]; omega⟩) ⟨wPre_blind, (w_recv hS hK.1 (by decide) (zkd_of (rfl : zcd wR 0 = 50) rfl) (by decide) (rfl : vwCl[12]? = some (RX12, TX12, 50))), w_pre hS hK⟩ rfl rfl hl.1 rfl (lv_room (Nat.le_of_ble_eq_true rfl)) dX12_makeTerm_102 ⟨Nat.le_refl _, Nat.le_refl _⟩) hS0 (fun z135 M134 H locs r136 h hS hS0 => ?_)
          obtain ⟨e137, h⟩ := h
          rw [e137] at hS
          refine w_if_eq (tgt := 138) hx hb (sI_01 r136) dX12_makeTerm_105 (by decide) (fun c138 => ?_) (fun c138 => ?_)
          · skip
            have h := h.1 c138
            refine lv_aload_n hx hb dX12_makeTerm_138 rfl (lv_at hl 0 rfl) ?_
            refine lv_dup hx hb dX12_makeTerm_139 rfl ?_
            refine w_geti hx hb hts (z_memU u12) hown hK.1 hS f12_36 (by decide) (zkd_of (rfl : zcd wR 0 = 50) rfl) (Or.inl (hts _ (z_mem k980))) dX12_makeTerm_140 ?_
            refine z_iconst hx hb dX12_makeTerm_143 ?_
            refine z_iadd hx hb dX12_makeTerm_144 ?_
            refine w_puti hx hb hts (z_memU u12) tyX12 tyX12_ok nmX12 hown hK.1 hS hS0 f12_36 (by decide) (zkd_of (rfl : zcd wR 0 = 50) rfl) (Or.inl (hts _ (z_mem k980))) rfl (z := ((M126 0 36) + 1)) (by decide +kernel) dX12_makeTerm_145 (fun H locs hS hS0 => ?_)
            obtain ⟨M139, e140⟩ : ∃ M139 : zM, M139 = zup M126 0 36 ((M126 0 36) + 1) := ⟨_, rfl⟩
            rw [← e140] at hS
            have h := h M139 e140
            refine lv_aload_n hx hb dX12_makeTerm_148 rfl (lv_at hl 0 rfl) ?_
            refine w_getr (j2 := 25) hx hb hts (z_memU u12) hown hK.1 hS f12_40 (by decide) (zkd_of (rfl : zcd wR 0 = 50) rfl) (zrf_of (rfl : zcd wR 0 = 50) rfl) (Or.inl (hts _ (z_mem k984))) dX12_makeTerm_149 ?_
            refine lv_iload_n hx hb dX12_makeTerm_152 rfl (lv_at hl 2 rfl) ?_
            refine lv_iload_n hx hb dX12_makeTerm_153 rfl (lv_at hl 3 rfl) ?_
            obtain ⟨o141, h⟩ := h
            refine w_iast (z := x125) (n := 144) (i := (sI (24 * a0))) hx hb hK.1 (t0 := 0) rfl hS hS0 (by decide) (zkd_of (rfl : zcd wR 25 = 75) rfl) (zln_of (rfl : zcd wR 25 = 75) rfl) rfl o141.1 o141.2 (by decide) dX12_makeTerm_154 (fun H locs hS hS0 => ?_)
            obtain ⟨M142, e143⟩ : ∃ M142 : zM, M142 = zup M139 25 (sI (24 * a0)).toNat x125 := ⟨_, rfl⟩
            rw [← e143] at hS
            have h := h M142 e143
            refine lv_aload_n hx hb dX12_makeTerm_155 rfl (lv_at hl 0 rfl) ?_
            refine w_getr (j2 := 26) hx hb hts (z_memU u12) hown hK.1 hS f12_41 (by decide) (zkd_of (rfl : zcd wR 0 = 50) rfl) (zrf_of (rfl : zcd wR 0 = 50) rfl) (Or.inl (hts _ (z_mem k985))) dX12_makeTerm_156 ?_
            refine lv_iload_n hx hb dX12_makeTerm_159 rfl (lv_at hl 1 rfl) ?_
            refine z_iconst hx hb dX12_makeTerm_160 ?_
            obtain ⟨o144, h⟩ := h
            refine w_iast (z := 1) (n := 6) (i := (sI a0)) hx hb hK.1 (t0 := 0) rfl hS hS0 (by decide) (zkd_of (rfl : zcd wR 26 = 76) rfl) (zln_of (rfl : zcd wR 26 = 76) rfl) rfl o144.1 o144.2 (by decide) dX12_makeTerm_161 (fun H locs hS hS0 => ?_)
            obtain ⟨M145, e146⟩ : ∃ M145 : zM, M145 = zup M142 26 (sI a0).toNat 1 := ⟨_, rfl⟩
            rw [← e146] at hS
            have h := h M145 e146
            refine lv_goto (tgt := 254) hx hb dX12_makeTerm_162 (by decide) ?_
            obtain ⟨I148, ⟨n149, h150⟩, h151⟩ := h
            have L152 : ∀ (n153 : Nat) (M147 : zM) (H : Heap) (locs : List Loc) (ls : Array Slot), I148 n153 M147 → zR D dA vwCl wR nR b M147 H → va_S (zA nR b) s.heap H locs → lv_has ls 6 [(0, .ref (b + 0)), (1, .int (iI a0)), (2, .int (iI (24 * a0)))] → W p l e (headSpec (.code yX12_makeTerm cX12_makeTerm 6 (some .int) :: zt) (z_rm (dd + 1))).room s m args below meth c H locs 0 0 (MQ below (va_Qi (wQi Q) (zB D dA vwCl wR nR b) (zA nR b)) args s 0 0 (zA nR b)) (F0 m 254 ls []) := by
              intro n153
              induction n153 using Nat.strongRecOn with
              | ind n153 i154 =>
                intro M147 H locs ls h hS hS0 hl
                have h := h151 n153 M147 h
                refine lv_aload_n hx hb dX12_makeTerm_254 rfl (lv_at hl 0 rfl) ?_
                refine z_bipush hx hb (by decide) dX12_makeTerm_255 ?_
                refine z_bipush hx hb (by decide) dX12_makeTerm_257 ?_
                refine w_callz (va_runV (As := [.int (iI 126), .int (iI 126)]) (rest := []) ⟨hx, hb, hml, hown, hts⟩ (cR_has l D dA b M147 126 126 _ h) (cwV 2 hts (z_gV k1067 k1068 k1393 k14 k1069) rfl rfl rfl dm_X12_has ⟨by simp only [z_rm, headSpec]; omega, by simp only [z_rm, headSpec]; omega⟩) ⟨wPre_blind, (w_recv hS hK.1 (by decide) (zkd_of (rfl : zcd wR 0 = 50) rfl) (by decide) (rfl : vwCl[12]? = some (RX12, TX12, 50))), w_pre hS hK⟩ rfl rfl hl.1 rfl (lv_room (Nat.le_of_ble_eq_true rfl)) dX12_makeTerm_259 ⟨Nat.le_refl _, Nat.le_refl _⟩) hS0 (fun z156 M155 H locs r157 h hS hS0 => ?_)
                obtain ⟨e158, h⟩ := h
                rw [e158] at hS
                obtain ⟨J276, B166, h⟩ := h
                have L165 : ∀ (H : Heap) (locs : List Loc) (ls : Array Slot), J276 → zR D dA vwCl wR nR b M147 H → va_S (zA nR b) s.heap H locs → lv_has ls 6 [(0, .ref (b + 0)), (1, .int (iI a0)), (2, .int (iI (24 * a0)))] → W p l e (headSpec (.code yX12_makeTerm cX12_makeTerm 6 (some .int) :: zt) (z_rm (dd + 1))).room s m args below meth c H locs 0 0 (MQ below (va_Qi (wQi Q) (zB D dA vwCl wR nR b) (zA nR b)) args s 0 0 (zA nR b)) (F0 m 276 ls []) := by
                  intro  H locs ls h hS hS0 hl
                  have h := B166 h
                  refine lv_aload_n hx hb dX12_makeTerm_276 rfl (lv_at hl 0 rfl) ?_
                  refine w_getr (j2 := 26) hx hb hts (z_memU u12) hown hK.1 hS f12_41 (by decide) (zkd_of (rfl : zcd wR 0 = 50) rfl) (zrf_of (rfl : zcd wR 0 = 50) rfl) (Or.inl (hts _ (z_mem k985))) dX12_makeTerm_277 ?_
                  refine lv_iload_n hx hb dX12_makeTerm_280 rfl (lv_at hl 1 rfl) ?_
                  obtain ⟨o167, h⟩ := h
                  refine w_iald (n := 6) (i := (sI a0)) hx hb hK.1 (t0 := 0) rfl hS (by decide) (zkd_of (rfl : zcd wR 26 = 76) rfl) (zln_of (rfl : zcd wR 26 = 76) rfl) rfl o167.1 o167.2 (by decide) dX12_makeTerm_281 ?_
                  refine lv_istore_n (lv' := [(3, .int (iI (M147 26 (sI a0).toNat))), (0, .ref (b + 0)), (1, .int (iI a0)), (2, .int (iI (24 * a0)))]) hx hb dX12_makeTerm_282 rfl hl (by decide) rfl (fun ls hl => ?_)
                  refine lv_aload_n hx hb dX12_makeTerm_283 rfl (lv_at hl 1 rfl) ?_
                  refine z_bipush hx hb (by decide) dX12_makeTerm_284 ?_
                  refine z_bipush hx hb (by decide) dX12_makeTerm_286 ?_
                  refine w_callz (va_runV (As := [.int (iI 126), .int (iI 126)]) (rest := []) ⟨hx, hb, hml, hown, hts⟩ (cR_has l D dA b M147 126 126 _ h) (cwV 2 hts (z_gV k1067 k1068 k1393 k14 k1069) rfl rfl rfl dm_X12_has ⟨by simp only [z_rm, headSpec]; omega, by simp only [z_rm, headSpec]; omega⟩) ⟨wPre_blind, (w_recv hS hK.1 (by decide) (zkd_of (rfl : zcd wR 0 = 50) rfl) (by decide) (rfl : vwCl[12]? = some (RX12, TX12, 50))), w_pre hS hK⟩ rfl rfl hl.1 rfl (lv_room (Nat.le_of_ble_eq_true rfl)) dX12_makeTerm_288 ⟨Nat.le_refl _, Nat.le_refl _⟩) hS0 (fun z169 M168 H locs r170 h hS hS0 => ?_)
                  obtain ⟨e171, h⟩ := h
                  rw [e171] at hS
                  refine w_if_eq (tgt := 372) hx hb (sI_01 r170) dX12_makeTerm_291 (by decide) (fun c172 => ?_) (fun c172 => ?_)
                  · skip
                    have h := h.1 c172
                    refine lv_aload_n hx hb dX12_makeTerm_372 rfl (lv_at hl 1 rfl) ?_
                    refine w_getr (j2 := 1) hx hb hts (z_memU u12) hown hK.1 hS f12_0 (by decide) (zkd_of (rfl : zcd wR 0 = 50) rfl) (zrf_of (rfl : zcd wR 0 = 50) rfl) (Or.inl (hts _ (z_mem k944))) dX12_makeTerm_373 ?_
                    refine lv_aload_n hx hb dX12_makeTerm_376 rfl (lv_at hl 1 rfl) ?_
                    refine w_geti hx hb hts (z_memU u12) hown hK.1 hS f12_36 (by decide) (zkd_of (rfl : zcd wR 0 = 50) rfl) (Or.inl (hts _ (z_mem k980))) dX12_makeTerm_377 ?_
                    refine z_iconst hx hb dX12_makeTerm_380 ?_
                    refine z_iadd hx hb dX12_makeTerm_381 ?_
                    obtain ⟨o173, h⟩ := h
                    refine w_bald (n := 100) (i := (sI ((M147 0 36) + 1))) hx hb hK.1 (t0 := 2) rfl hS (by decide) (zkd_of (rfl : zcd wR 1 = 51) rfl) (zln_of (rfl : zcd wR 1 = 51) rfl) rfl o173.1 o173.2 (by decide) dX12_makeTerm_382 ?_
                    refine z_bipush hx hb (by decide) dX12_makeTerm_383 ?_
                    refine z_isub hx hb dX12_makeTerm_385 ?_
                    obtain ⟨t174, e175⟩ : ∃ t174 : Int, t174 = ((M147 1 (sI ((M147 0 36) + 1)).toNat) - 48) := ⟨_, rfl⟩
                    refine z_top (y := t174) e175.symm ?_
                    have h := h t174 e175
                    refine lv_istore (lv' := [(4, .int (iI t174)), (3, .int (iI (M147 26 (sI a0).toNat))), (0, .ref (b + 0)), (1, .int (iI a0)), (2, .int (iI (24 * a0)))]) hx hb dX12_makeTerm_386 hl (by decide) rfl (fun ls hl => ?_)
                    refine lv_aload_n hx hb dX12_makeTerm_388 rfl (lv_at hl 2 rfl) ?_
                    refine lv_dup hx hb dX12_makeTerm_389 rfl ?_
                    refine w_geti hx hb hts (z_memU u12) hown hK.1 hS f12_36 (by decide) (zkd_of (rfl : zcd wR 0 = 50) rfl) (Or.inl (hts _ (z_mem k980))) dX12_makeTerm_390 ?_
                    refine z_iconst hx hb dX12_makeTerm_393 ?_
                    refine z_iadd hx hb dX12_makeTerm_394 ?_
                    refine w_puti hx hb hts (z_memU u12) tyX12 tyX12_ok nmX12 hown hK.1 hS hS0 f12_36 (by decide) (zkd_of (rfl : zcd wR 0 = 50) rfl) (Or.inl (hts _ (z_mem k980))) rfl (z := ((M147 0 36) + 2)) (by decide +kernel) dX12_makeTerm_395 (fun H locs hS hS0 => ?_)
                    obtain ⟨M176, e177⟩ : ∃ M176 : zM, M176 = zup M147 0 36 ((M147 0 36) + 2) := ⟨_, rfl⟩
                    rw [← e177] at hS
                    have h := h M176 e177
                    refine lv_iload_n hx hb dX12_makeTerm_398 rfl (lv_at hl 1 rfl) ?_
                    refine lv_iload hx hb dX12_makeTerm_399 (lv_at hl 0 rfl) ?_
                    refine z_imul hx hb dX12_makeTerm_401 ?_
                    refine z_bipush hx hb (by decide) dX12_makeTerm_402 ?_
                    refine w_icmp_le (tgt := 410) hx hb rfl (sI_of (by decide)) dX12_makeTerm_404 (by decide) (fun c178 => ?_) (fun c178 => ?_)
                    · skip
                      have h := h.1 c178
                      refine lv_iload_n hx hb dX12_makeTerm_410 rfl (lv_at hl 1 rfl) ?_
                      refine lv_istore (lv' := [(5, .int (iI (M147 26 (sI a0).toNat))), (4, .int (iI t174)), (3, .int (iI (M147 26 (sI a0).toNat))), (0, .ref (b + 0)), (1, .int (iI a0)), (2, .int (iI (24 * a0)))]) hx hb dX12_makeTerm_411 hl (by decide) rfl (fun ls hl => ?_)
                      obtain ⟨I181, ⟨n182, h183⟩, h184⟩ := h
                      have L185 : ∀ (n186 : Nat) (x179 : Int) (M180 : zM) (H : Heap) (locs : List Loc) (ls : Array Slot), I181 n186 x179 M180 → zR D dA vwCl wR nR b M180 H → va_S (zA nR b) s.heap H locs → lv_has ls 6 [(0, .ref (b + 0)), (1, .int (iI a0)), (2, .int (iI (24 * a0))), (3, .int (iI (M147 26 (sI a0).toNat))), (4, .int (iI t174)), (5, .int (iI x179))] → W p l e (headSpec (.code yX12_makeTerm cX12_makeTerm 6 (some .int) :: zt) (z_rm (dd + 1))).room s m args below meth c H locs 0 0 (MQ below (va_Qi (wQi Q) (zB D dA vwCl wR nR b) (zA nR b)) args s 0 0 (zA nR b)) (F0 m 413 ls []) := by
                        intro n186
                        induction n186 using Nat.strongRecOn with
                        | ind n186 i187 =>
                          intro x179 M180 H locs ls h hS hS0 hl
                          have h := h184 n186 x179 M180 h
                          refine lv_iload hx hb dX12_makeTerm_413 (lv_at hl 5 rfl) ?_
                          refine lv_iload_n hx hb dX12_makeTerm_415 rfl (lv_at hl 3 rfl) ?_
                          refine lv_iload hx hb dX12_makeTerm_416 (lv_at hl 4 rfl) ?_
                          refine z_imul hx hb dX12_makeTerm_418 ?_
                          refine w_icmp_ge (tgt := 448) hx hb rfl rfl dX12_makeTerm_419 (by decide) (fun c188 => ?_) (fun c188 => ?_)
                          · skip
                            have h := h.1 c188
                            refine lv_aload_n hx hb dX12_makeTerm_448 rfl (lv_at hl 0 rfl) ?_
                            refine w_getr (j2 := 26) hx hb hts (z_memU u12) hown hK.1 hS f12_41 (by decide) (zkd_of (rfl : zcd wR 0 = 50) rfl) (zrf_of (rfl : zcd wR 0 = 50) rfl) (Or.inl (hts _ (z_mem k985))) dX12_makeTerm_449 ?_
                            refine lv_iload_n hx hb dX12_makeTerm_452 rfl (lv_at hl 1 rfl) ?_
                            refine lv_iload_n hx hb dX12_makeTerm_453 rfl (lv_at hl 3 rfl) ?_
                            refine lv_iload hx hb dX12_makeTerm_454 (lv_at hl 4 rfl) ?_
                            refine z_imul hx hb dX12_makeTerm_456 ?_
                            obtain ⟨o189, h⟩ := h
                            refine w_iast (z := ((M147 26 (sI a0).toNat) * t174)) (n := 6) (i := (sI a0)) hx hb hK.1 (t0 := 0) rfl hS hS0 (by decide) (zkd_of (rfl : zcd wR 26 = 76) rfl) (zln_of (rfl : zcd wR 26 = 76) rfl) rfl o189.1 o189.2 (by decide) dX12_makeTerm_457 (fun H locs hS hS0 => ?_)
                            obtain ⟨M190, e191⟩ : ∃ M190 : zM, M190 = zup M180 26 (sI a0).toNat ((M147 26 (sI a0).toNat) * t174) := ⟨_, rfl⟩
                            rw [← e191] at hS
                            have h := h M190 e191
                            refine lv_goto (tgt := 254) hx hb dX12_makeTerm_458 (by decide) ?_
                            obtain ⟨n192, h193, h⟩ := h
                            exact i154 n192 h193 M190 _ _ _ h hS hS0 (lv_sub hl [0, 1, 2] rfl)
                          · skip
                            have h := h.2 c188
                            refine lv_aload_n hx hb dX12_makeTerm_422 rfl (lv_at hl 0 rfl) ?_
                            refine w_getr (j2 := 25) hx hb hts (z_memU u12) hown hK.1 hS f12_40 (by decide) (zkd_of (rfl : zcd wR 0 = 50) rfl) (zrf_of (rfl : zcd wR 0 = 50) rfl) (Or.inl (hts _ (z_mem k984))) dX12_makeTerm_423 ?_
                            refine lv_iload_n hx hb dX12_makeTerm_426 rfl (lv_at hl 2 rfl) ?_
                            refine lv_iload hx hb dX12_makeTerm_427 (lv_at hl 5 rfl) ?_
                            refine z_iadd hx hb dX12_makeTerm_429 ?_
                            refine lv_aload_n hx hb dX12_makeTerm_430 rfl (lv_at hl 0 rfl) ?_
                            refine w_getr (j2 := 25) hx hb hts (z_memU u12) hown hK.1 hS f12_40 (by decide) (zkd_of (rfl : zcd wR 0 = 50) rfl) (zrf_of (rfl : zcd wR 0 = 50) rfl) (Or.inl (hts _ (z_mem k984))) dX12_makeTerm_431 ?_
                            refine lv_iload_n hx hb dX12_makeTerm_434 rfl (lv_at hl 2 rfl) ?_
                            refine lv_iload hx hb dX12_makeTerm_435 (lv_at hl 5 rfl) ?_
                            refine z_iadd hx hb dX12_makeTerm_437 ?_
                            refine lv_iload_n hx hb dX12_makeTerm_438 rfl (lv_at hl 3 rfl) ?_
                            refine z_isub hx hb dX12_makeTerm_439 ?_
                            obtain ⟨o194, h⟩ := h
                            refine w_iald (n := 144) (i := (sI (((24 * a0) + x179) - (M147 26 (sI a0).toNat)))) hx hb hK.1 (t0 := 0) rfl hS (by decide) (zkd_of (rfl : zcd wR 25 = 75) rfl) (zln_of (rfl : zcd wR 25 = 75) rfl) rfl o194.1 o194.2 (by decide) dX12_makeTerm_440 ?_
                            obtain ⟨o195, h⟩ := h
                            refine w_iast (z := (M180 25 (sI (((24 * a0) + x179) - (M147 26 (sI a0).toNat))).toNat)) (n := 144) (i := (sI ((24 * a0) + x179))) hx hb hK.1 (t0 := 0) rfl hS hS0 (by decide) (zkd_of (rfl : zcd wR 25 = 75) rfl) (zln_of (rfl : zcd wR 25 = 75) rfl) rfl o195.1 o195.2 (by decide) dX12_makeTerm_441 (fun H locs hS hS0 => ?_)
                            obtain ⟨M196, e197⟩ : ∃ M196 : zM, M196 = zup M180 25 (sI ((24 * a0) + x179)).toNat (M180 25 (sI (((24 * a0) + x179) - (M147 26 (sI a0).toNat))).toNat) := ⟨_, rfl⟩
                            rw [← e197] at hS
                            have h := h M196 e197
                            refine z_iinc (lv' := [(5, .int (iI (x179 + 1))), (0, .ref (b + 0)), (1, .int (iI a0)), (2, .int (iI (24 * a0))), (3, .int (iI (M147 26 (sI a0).toNat))), (4, .int (iI t174))]) hx hb dX12_makeTerm_442 hl (k := 5) rfl (by decide) rfl (fun ls hl => ?_)
                            refine lv_goto (tgt := 413) hx hb dX12_makeTerm_445 (by decide) ?_
                            obtain ⟨n198, h199, h⟩ := h
                            exact i187 n198 h199 (x179 + 1) M196 _ _ _ h hS hS0 (lv_sub hl [1, 2, 3, 4, 5, 0] rfl)
                      exact L185 n182 (M147 26 (sI a0).toNat) M176 _ _ _ h183 hS hS0 (lv_sub hl [3, 4, 5, 2, 1, 0] rfl)
                    · skip
                      have h := h.2 c178
                      refine z_bipush hx hb (by decide) dX12_makeTerm_407 ?_
                      exact w_iret hx hb hr hlocks hS hS0 (sI_of (by decide)) h dX12_makeTerm_409
                  · skip
                    have h := h.2 c172
                    refine lv_aload_n hx hb dX12_makeTerm_294 rfl (lv_at hl 1 rfl) ?_
                    refine lv_dup hx hb dX12_makeTerm_295 rfl ?_
                    refine w_geti hx hb hts (z_memU u12) hown hK.1 hS f12_36 (by decide) (zkd_of (rfl : zcd wR 0 = 50) rfl) (Or.inl (hts _ (z_mem k980))) dX12_makeTerm_296 ?_
                    refine z_iconst hx hb dX12_makeTerm_299 ?_
                    refine z_iadd hx hb dX12_makeTerm_300 ?_
                    refine w_puti hx hb hts (z_memU u12) tyX12 tyX12_ok nmX12 hown hK.1 hS hS0 f12_36 (by decide) (zkd_of (rfl : zcd wR 0 = 50) rfl) (Or.inl (hts _ (z_mem k980))) rfl (z := ((M147 0 36) + 1)) (by decide +kernel) dX12_makeTerm_301 (fun H locs hS hS0 => ?_)
                    obtain ⟨M200, e201⟩ : ∃ M200 : zM, M200 = zup M147 0 36 ((M147 0 36) + 1) := ⟨_, rfl⟩
                    rw [← e201] at hS
                    have h := h M200 e201
                    refine z_iconst hx hb dX12_makeTerm_304 ?_
                    refine lv_istore (lv' := [(4, .int (iI 0)), (3, .int (iI (M147 26 (sI a0).toNat))), (0, .ref (b + 0)), (1, .int (iI a0)), (2, .int (iI (24 * a0)))]) hx hb dX12_makeTerm_305 hl (by decide) rfl (fun ls hl => ?_)
                    obtain ⟨I204, ⟨n205, h206⟩, h207⟩ := h
                    have L208 : ∀ (n209 : Nat) (x202 : Int) (M203 : zM) (H : Heap) (locs : List Loc) (ls : Array Slot), I204 n209 x202 M203 → zR D dA vwCl wR nR b M203 H → va_S (zA nR b) s.heap H locs → lv_has ls 6 [(0, .ref (b + 0)), (1, .int (iI a0)), (2, .int (iI (24 * a0))), (3, .int (iI (M147 26 (sI a0).toNat))), (4, .int (iI x202))] → W p l e (headSpec (.code yX12_makeTerm cX12_makeTerm 6 (some .int) :: zt) (z_rm (dd + 1))).room s m args below meth c H locs 0 0 (MQ below (va_Qi (wQi Q) (zB D dA vwCl wR nR b) (zA nR b)) args s 0 0 (zA nR b)) (F0 m 307 ls []) := by
                      intro n209
                      induction n209 using Nat.strongRecOn with
                      | ind n209 i210 =>
                        intro x202 M203 H locs ls h hS hS0 hl
                        have h := h207 n209 x202 M203 h
                        refine lv_iload hx hb dX12_makeTerm_307 (lv_at hl 4 rfl) ?_
                        refine lv_iload_n hx hb dX12_makeTerm_309 rfl (lv_at hl 3 rfl) ?_
                        refine z_iconst hx hb dX12_makeTerm_310 ?_
                        refine w_idiv hx hb rfl (sI_of (by decide)) (by decide) dX12_makeTerm_311 ?_
                        refine w_icmp_ge (tgt := 369) hx hb rfl rfl dX12_makeTerm_312 (by decide) (fun c211 => ?_) (fun c211 => ?_)
                        · skip
                          have h := h.1 c211
                          refine lv_goto (tgt := 254) hx hb dX12_makeTerm_369 (by decide) ?_
                          obtain ⟨n212, h213, h⟩ := h
                          exact i154 n212 h213 M203 _ _ _ h hS hS0 (lv_sub hl [0, 1, 2] rfl)
                        · skip
                          have h := h.2 c211
                          refine lv_aload_n hx hb dX12_makeTerm_315 rfl (lv_at hl 0 rfl) ?_
                          refine w_getr (j2 := 25) hx hb hts (z_memU u12) hown hK.1 hS f12_40 (by decide) (zkd_of (rfl : zcd wR 0 = 50) rfl) (zrf_of (rfl : zcd wR 0 = 50) rfl) (Or.inl (hts _ (z_mem k984))) dX12_makeTerm_316 ?_
                          refine lv_iload_n hx hb dX12_makeTerm_319 rfl (lv_at hl 2 rfl) ?_
                          refine lv_iload hx hb dX12_makeTerm_320 (lv_at hl 4 rfl) ?_
                          refine z_iadd hx hb dX12_makeTerm_322 ?_
                          obtain ⟨o214, h⟩ := h
                          refine w_iald (n := 144) (i := (sI ((24 * a0) + x202))) hx hb hK.1 (t0 := 0) rfl hS (by decide) (zkd_of (rfl : zcd wR 25 = 75) rfl) (zln_of (rfl : zcd wR 25 = 75) rfl) rfl o214.1 o214.2 (by decide) dX12_makeTerm_323 ?_
                          refine lv_istore (lv' := [(5, .int (iI (M203 25 (sI ((24 * a0) + x202)).toNat))), (0, .ref (b + 0)), (1, .int (iI a0)), (2, .int (iI (24 * a0))), (3, .int (iI (M147 26 (sI a0).toNat))), (4, .int (iI x202))]) hx hb dX12_makeTerm_324 hl (by decide) rfl (fun ls hl => ?_)
                          refine lv_aload_n hx hb dX12_makeTerm_326 rfl (lv_at hl 1 rfl) ?_
                          refine w_getr (j2 := 25) hx hb hts (z_memU u12) hown hK.1 hS f12_40 (by decide) (zkd_of (rfl : zcd wR 0 = 50) rfl) (zrf_of (rfl : zcd wR 0 = 50) rfl) (Or.inl (hts _ (z_mem k984))) dX12_makeTerm_327 ?_
                          refine lv_iload_n hx hb dX12_makeTerm_330 rfl (lv_at hl 3 rfl) ?_
                          refine lv_iload hx hb dX12_makeTerm_331 (lv_at hl 5 rfl) ?_
                          refine z_iadd hx hb dX12_makeTerm_333 ?_
                          refine lv_aload_n hx hb dX12_makeTerm_334 rfl (lv_at hl 1 rfl) ?_
                          refine w_getr (j2 := 25) hx hb hts (z_memU u12) hown hK.1 hS f12_40 (by decide) (zkd_of (rfl : zcd wR 0 = 50) rfl) (zrf_of (rfl : zcd wR 0 = 50) rfl) (Or.inl (hts _ (z_mem k984))) dX12_makeTerm_335 ?_
                          refine lv_iload_n hx hb dX12_makeTerm_338 rfl (lv_at hl 3 rfl) ?_
                          refine lv_iload_n hx hb dX12_makeTerm_339 rfl (lv_at hl 4 rfl) ?_
                          refine z_iadd hx hb dX12_makeTerm_340 ?_
                          refine z_iconst hx hb dX12_makeTerm_341 ?_
                          refine z_isub hx hb dX12_makeTerm_342 ?_
                          refine lv_iload hx hb dX12_makeTerm_343 (lv_at hl 5 rfl) ?_
                          refine z_isub hx hb dX12_makeTerm_345 ?_
                          obtain ⟨o215, h⟩ := h
                          refine w_iald (n := 144) (i := (sI ((((24 * a0) + (M147 26 (sI a0).toNat)) - 1) - x202))) hx hb hK.1 (t0 := 0) rfl hS (by decide) (zkd_of (rfl : zcd wR 25 = 75) rfl) (zln_of (rfl : zcd wR 25 = 75) rfl) rfl o215.1 o215.2 (by decide) dX12_makeTerm_346 ?_
                          obtain ⟨o216, h⟩ := h
                          refine w_iast (z := (M203 25 (sI ((((24 * a0) + (M147 26 (sI a0).toNat)) - 1) - x202)).toNat)) (n := 144) (i := (sI ((24 * a0) + x202))) hx hb hK.1 (t0 := 0) rfl hS hS0 (by decide) (zkd_of (rfl : zcd wR 25 = 75) rfl) (zln_of (rfl : zcd wR 25 = 75) rfl) rfl o216.1 o216.2 (by decide) dX12_makeTerm_347 (fun H locs hS hS0 => ?_)
                          obtain ⟨M217, e218⟩ : ∃ M217 : zM, M217 = zup M203 25 (sI ((24 * a0) + x202)).toNat (M203 25 (sI ((((24 * a0) + (M147 26 (sI a0).toNat)) - 1) - x202)).toNat) := ⟨_, rfl⟩
                          rw [← e218] at hS
                          have h := h M217 e218
                          refine lv_aload_n hx hb dX12_makeTerm_348 rfl (lv_at hl 1 rfl) ?_
                          refine w_getr (j2 := 25) hx hb hts (z_memU u12) hown hK.1 hS f12_40 (by decide) (zkd_of (rfl : zcd wR 0 = 50) rfl) (zrf_of (rfl : zcd wR 0 = 50) rfl) (Or.inl (hts _ (z_mem k984))) dX12_makeTerm_349 ?_
                          refine lv_iload_n hx hb dX12_makeTerm_352 rfl (lv_at hl 3 rfl) ?_
                          refine lv_iload_n hx hb dX12_makeTerm_353 rfl (lv_at hl 4 rfl) ?_
                          refine z_iadd hx hb dX12_makeTerm_354 ?_
                          refine z_iconst hx hb dX12_makeTerm_355 ?_
                          refine z_isub hx hb dX12_makeTerm_356 ?_
                          refine lv_iload hx hb dX12_makeTerm_357 (lv_at hl 5 rfl) ?_
                          refine z_isub hx hb dX12_makeTerm_359 ?_
                          refine lv_iload hx hb dX12_makeTerm_360 (lv_at hl 0 rfl) ?_
                          obtain ⟨o219, h⟩ := h
                          refine w_iast (z := (M203 25 (sI ((24 * a0) + x202)).toNat)) (n := 144) (i := (sI ((((24 * a0) + (M147 26 (sI a0).toNat)) - 1) - x202))) hx hb hK.1 (t0 := 0) rfl hS hS0 (by decide) (zkd_of (rfl : zcd wR 25 = 75) rfl) (zln_of (rfl : zcd wR 25 = 75) rfl) rfl o219.1 o219.2 (by decide) dX12_makeTerm_362 (fun H locs hS hS0 => ?_)
                          obtain ⟨M220, e221⟩ : ∃ M220 : zM, M220 = zup M217 25 (sI ((((24 * a0) + (M147 26 (sI a0).toNat)) - 1) - x202)).toNat (M203 25 (sI ((24 * a0) + x202)).toNat) := ⟨_, rfl⟩
                          rw [← e221] at hS
                          have h := h M220 e221
                          refine z_iinc (lv' := [(4, .int (iI (x202 + 1))), (5, .int (iI (M203 25 (sI ((24 * a0) + x202)).toNat))), (0, .ref (b + 0)), (1, .int (iI a0)), (2, .int (iI (24 * a0))), (3, .int (iI (M147 26 (sI a0).toNat)))]) hx hb dX12_makeTerm_363 hl (k := 5) rfl (by decide) rfl (fun ls hl => ?_)
                          refine lv_goto (tgt := 307) hx hb dX12_makeTerm_366 (by decide) ?_
                          obtain ⟨n222, h223, h⟩ := h
                          exact i210 n222 h223 (x202 + 1) M220 _ _ _ h hS hS0 (lv_sub hl [2, 3, 4, 5, 0] rfl)
                    exact L208 n205 0 M200 _ _ _ h206 hS hS0 (lv_sub hl [2, 3, 4, 1, 0] rfl)
                refine w_if_ne (tgt := 276) hx hb (sI_01 r157) dX12_makeTerm_262 (by decide) (fun c224 => ?_) (fun c224 => ?_)
                · skip
                  have h := h.1 c224
                  exact L165 _ _ _ h hS hS0 (lv_sub hl [0, 1, 2] rfl)
                · skip
                  have h := h.2 c224
                  refine lv_aload_n hx hb dX12_makeTerm_265 rfl (lv_at hl 0 rfl) ?_
                  refine z_bipush hx hb (by decide) dX12_makeTerm_266 ?_
                  refine z_bipush hx hb (by decide) dX12_makeTerm_268 ?_
                  refine w_callz (va_runV (As := [.int (iI 42), .int (iI 42)]) (rest := []) ⟨hx, hb, hml, hown, hts⟩ (cR_has l D dA b M147 42 42 _ h) (cwV 2 hts (z_gV k1067 k1068 k1393 k14 k1069) rfl rfl rfl dm_X12_has ⟨by simp only [z_rm, headSpec]; omega, by simp only [z_rm, headSpec]; omega⟩) ⟨wPre_blind, (w_recv hS hK.1 (by decide) (zkd_of (rfl : zcd wR 0 = 50) rfl) (by decide) (rfl : vwCl[12]? = some (RX12, TX12, 50))), w_pre hS hK⟩ rfl rfl hl.1 rfl (lv_room (Nat.le_of_ble_eq_true rfl)) dX12_makeTerm_270 ⟨Nat.le_refl _, Nat.le_refl _⟩) hS0 (fun z226 M225 H locs r227 h hS hS0 => ?_)
                  obtain ⟨e228, h⟩ := h
                  rw [e228] at hS
                  refine w_if_eq (tgt := 461) hx hb (sI_01 r227) dX12_makeTerm_273 (by decide) (fun c229 => ?_) (fun c229 => ?_)
                  · skip
                    have h := h.1 c229
                    refine z_iconst hx hb dX12_makeTerm_461 ?_
                    exact w_iret hx hb hr hlocks hS hS0 (sI_of (by decide)) h dX12_makeTerm_462
                  · skip
                    have h := h.2 c229
                    exact L165 _ _ _ h hS hS0 (lv_sub hl [0, 1, 2] rfl)
            exact L152 n149 M145 _ _ _ h150 hS hS0 (lv_sub hl [0, 1, 2] rfl)
          · skip
            have h := h.2 c138
            refine lv_iload_n hx hb dX12_makeTerm_108 rfl (lv_at hl 3 rfl) ?_
            refine z_iconst hx hb dX12_makeTerm_109 ?_
            refine lv_aload_n hx hb dX12_makeTerm_110 rfl (lv_at hl 0 rfl) ?_
            refine w_getr (j2 := 1) hx hb hts (z_memU u12) hown hK.1 hS f12_0 (by decide) (zkd_of (rfl : zcd wR 0 = 50) rfl) (zrf_of (rfl : zcd wR 0 = 50) rfl) (Or.inl (hts _ (z_mem k944))) dX12_makeTerm_111 ?_
            refine lv_aload_n hx hb dX12_makeTerm_114 rfl (lv_at hl 0 rfl) ?_
            refine w_geti hx hb hts (z_memU u12) hown hK.1 hS f12_36 (by decide) (zkd_of (rfl : zcd wR 0 = 50) rfl) (Or.inl (hts _ (z_mem k980))) dX12_makeTerm_115 ?_
            obtain ⟨o230, h⟩ := h
            refine w_bald (n := 100) (i := (sI (M126 0 36))) hx hb hK.1 (t0 := 2) rfl hS (by decide) (zkd_of (rfl : zcd wR 1 = 51) rfl) (zln_of (rfl : zcd wR 1 = 51) rfl) rfl o230.1 o230.2 (by decide) dX12_makeTerm_118 ?_
            refine z_bipush hx hb (by decide) dX12_makeTerm_119 ?_
            refine z_isub hx hb dX12_makeTerm_121 ?_
            refine w_ishl hx hb dX12_makeTerm_122 ?_
            refine w_ior hx hb dX12_makeTerm_123 ?_
            obtain ⟨t231, e232⟩ : ∃ t231 : Int, t231 = (orI x125 (shlI 1 ((M126 1 (sI (M126 0 36)).toNat) - 48))) := ⟨_, rfl⟩
            refine z_top (y := t231) e232.symm ?_
            have h := h t231 e232
            refine lv_istore_n (lv' := [(3, .int (iI t231)), (0, .ref (b + 0)), (1, .int (iI a0)), (2, .int (iI (24 * a0)))]) hx hb dX12_makeTerm_124 rfl hl (by decide) rfl (fun ls hl => ?_)
            refine lv_aload_n hx hb dX12_makeTerm_125 rfl (lv_at hl 1 rfl) ?_
            refine lv_dup hx hb dX12_makeTerm_126 rfl ?_
            refine w_geti hx hb hts (z_memU u12) hown hK.1 hS f12_36 (by decide) (zkd_of (rfl : zcd wR 0 = 50) rfl) (Or.inl (hts _ (z_mem k980))) dX12_makeTerm_127 ?_
            refine z_iconst hx hb dX12_makeTerm_130 ?_
            refine z_iadd hx hb dX12_makeTerm_131 ?_
            refine w_puti hx hb hts (z_memU u12) tyX12 tyX12_ok nmX12 hown hK.1 hS hS0 f12_36 (by decide) (zkd_of (rfl : zcd wR 0 = 50) rfl) (Or.inl (hts _ (z_mem k980))) rfl (z := ((M126 0 36) + 1)) (by decide +kernel) dX12_makeTerm_132 (fun H locs hS hS0 => ?_)
            obtain ⟨M233, e234⟩ : ∃ M233 : zM, M233 = zup M126 0 36 ((M126 0 36) + 1) := ⟨_, rfl⟩
            rw [← e234] at hS
            have h := h M233 e234
            refine lv_goto (tgt := 97) hx hb dX12_makeTerm_135 (by decide) ?_
            obtain ⟨n235, h236, h⟩ := h
            exact i133 n235 h236 t231 M233 _ _ _ h hS hS0 (lv_sub hl [1, 2, 3, 0] rfl)
      exact L131 n128 0 M123 _ _ _ h129 hS hS0 (lv_sub hl [2, 3, 1, 0] rfl)
  · skip
    have h := h.2 c5
    refine lv_aload_n hx hb dX12_makeTerm_16 rfl (lv_at hl 1 rfl) ?_
    refine w_getr (j2 := 25) hx hb hts (z_memU u12) hown hK.1 hS f12_40 (by decide) (zkd_of (rfl : zcd wR 0 = 50) rfl) (zrf_of (rfl : zcd wR 0 = 50) rfl) (Or.inl (hts _ (z_mem k984))) dX12_makeTerm_17 ?_
    refine lv_iload_n hx hb dX12_makeTerm_20 rfl (lv_at hl 0 rfl) ?_
    refine lv_aload_n hx hb dX12_makeTerm_21 rfl (lv_at hl 1 rfl) ?_
    refine w_getr (j2 := 1) hx hb hts (z_memU u12) hown hK.1 hS f12_0 (by decide) (zkd_of (rfl : zcd wR 0 = 50) rfl) (zrf_of (rfl : zcd wR 0 = 50) rfl) (Or.inl (hts _ (z_mem k944))) dX12_makeTerm_22 ?_
    refine lv_aload_n hx hb dX12_makeTerm_25 rfl (lv_at hl 1 rfl) ?_
    refine w_geti hx hb hts (z_memU u12) hown hK.1 hS f12_36 (by decide) (zkd_of (rfl : zcd wR 0 = 50) rfl) (Or.inl (hts _ (z_mem k980))) dX12_makeTerm_26 ?_
    obtain ⟨o237, h⟩ := h
    refine w_bald (n := 100) (i := (sI (M 0 36))) hx hb hK.1 (t0 := 2) rfl hS (by decide) (zkd_of (rfl : zcd wR 1 = 51) rfl) (zln_of (rfl : zcd wR 1 = 51) rfl) rfl o237.1 o237.2 (by decide) dX12_makeTerm_29 ?_
    refine z_bipush hx hb (by decide) dX12_makeTerm_30 ?_
    obtain ⟨J53, B242, h⟩ := h
    have L241 : ∀ (x240 : Int) (H : Heap) (locs : List Loc) (ls : Array Slot), J53 x240 → zR D dA vwCl wR nR b M H → va_S (zA nR b) s.heap H locs → lv_has ls 6 [(0, .ref (b + 0)), (1, .int (iI a0)), (2, .int (iI (24 * a0)))] → W p l e (headSpec (.code yX12_makeTerm cX12_makeTerm 6 (some .int) :: zt) (z_rm (dd + 1))).room s m args below meth c H locs 0 0 (MQ below (va_Qi (wQi Q) (zB D dA vwCl wR nR b) (zA nR b)) args s 0 0 (zA nR b)) (F0 m 53 ls [.int (iI x240), .int (iI (24 * a0)), .ref (b + 25)]) := by
      intro x240 H locs ls h hS hS0 hl
      have h := B242 x240 h
      obtain ⟨o243, h⟩ := h
      refine w_iast (z := x240) (n := 144) (i := (sI (24 * a0))) hx hb hK.1 (t0 := 0) rfl hS hS0 (by decide) (zkd_of (rfl : zcd wR 25 = 75) rfl) (zln_of (rfl : zcd wR 25 = 75) rfl) rfl o243.1 o243.2 (by decide) dX12_makeTerm_53 (fun H locs hS hS0 => ?_)
      obtain ⟨M244, e245⟩ : ∃ M244 : zM, M244 = zup M 25 (sI (24 * a0)).toNat x240 := ⟨_, rfl⟩
      rw [← e245] at hS
      have h := h M244 e245
      refine lv_aload_n hx hb dX12_makeTerm_54 rfl (lv_at hl 0 rfl) ?_
      refine w_getr (j2 := 26) hx hb hts (z_memU u12) hown hK.1 hS f12_41 (by decide) (zkd_of (rfl : zcd wR 0 = 50) rfl) (zrf_of (rfl : zcd wR 0 = 50) rfl) (Or.inl (hts _ (z_mem k985))) dX12_makeTerm_55 ?_
      refine lv_iload_n hx hb dX12_makeTerm_58 rfl (lv_at hl 1 rfl) ?_
      refine z_iconst hx hb dX12_makeTerm_59 ?_
      obtain ⟨o246, h⟩ := h
      refine w_iast (z := 1) (n := 6) (i := (sI a0)) hx hb hK.1 (t0 := 0) rfl hS hS0 (by decide) (zkd_of (rfl : zcd wR 26 = 76) rfl) (zln_of (rfl : zcd wR 26 = 76) rfl) rfl o246.1 o246.2 (by decide) dX12_makeTerm_60 (fun H locs hS hS0 => ?_)
      obtain ⟨M247, e248⟩ : ∃ M247 : zM, M247 = zup M244 26 (sI a0).toNat 1 := ⟨_, rfl⟩
      rw [← e248] at hS
      have h := h M247 e248
      refine lv_aload_n hx hb dX12_makeTerm_61 rfl (lv_at hl 0 rfl) ?_
      refine lv_dup hx hb dX12_makeTerm_62 rfl ?_
      refine w_geti hx hb hts (z_memU u12) hown hK.1 hS f12_36 (by decide) (zkd_of (rfl : zcd wR 0 = 50) rfl) (Or.inl (hts _ (z_mem k980))) dX12_makeTerm_63 ?_
      refine z_iconst hx hb dX12_makeTerm_66 ?_
      refine z_iadd hx hb dX12_makeTerm_67 ?_
      refine w_puti hx hb hts (z_memU u12) tyX12 tyX12_ok nmX12 hown hK.1 hS hS0 f12_36 (by decide) (zkd_of (rfl : zcd wR 0 = 50) rfl) (Or.inl (hts _ (z_mem k980))) rfl (z := ((M247 0 36) + 1)) (by decide +kernel) dX12_makeTerm_68 (fun H locs hS hS0 => ?_)
      obtain ⟨M249, e250⟩ : ∃ M249 : zM, M249 = zup M247 0 36 ((M247 0 36) + 1) := ⟨_, rfl⟩
      rw [← e250] at hS
      have h := h M249 e250
      refine lv_goto (tgt := 254) hx hb dX12_makeTerm_71 (by decide) ?_
      obtain ⟨I252, ⟨n253, h254⟩, h255⟩ := h
      have L256 : ∀ (n257 : Nat) (M251 : zM) (H : Heap) (locs : List Loc) (ls : Array Slot), I252 n257 M251 → zR D dA vwCl wR nR b M251 H → va_S (zA nR b) s.heap H locs → lv_has ls 6 [(0, .ref (b + 0)), (1, .int (iI a0)), (2, .int (iI (24 * a0)))] → W p l e (headSpec (.code yX12_makeTerm cX12_makeTerm 6 (some .int) :: zt) (z_rm (dd + 1))).room s m args below meth c H locs 0 0 (MQ below (va_Qi (wQi Q) (zB D dA vwCl wR nR b) (zA nR b)) args s 0 0 (zA nR b)) (F0 m 254 ls []) := by
        intro n257
        induction n257 using Nat.strongRecOn with
        | ind n257 i258 =>
          intro M251 H locs ls h hS hS0 hl
          have h := h255 n257 M251 h
          refine lv_aload_n hx hb dX12_makeTerm_254 rfl (lv_at hl 0 rfl) ?_
          refine z_bipush hx hb (by decide) dX12_makeTerm_255 ?_
          refine z_bipush hx hb (by decide) dX12_makeTerm_257 ?_
          refine w_callz (va_runV (As := [.int (iI 126), .int (iI 126)]) (rest := []) ⟨hx, hb, hml, hown, hts⟩ (cR_has l D dA b M251 126 126 _ h) (cwV 2 hts (z_gV k1067 k1068 k1393 k14 k1069) rfl rfl rfl dm_X12_has ⟨by simp only [z_rm, headSpec]; omega, by simp only [z_rm, headSpec]; omega⟩) ⟨wPre_blind, (w_recv hS hK.1 (by decide) (zkd_of (rfl : zcd wR 0 = 50) rfl) (by decide) (rfl : vwCl[12]? = some (RX12, TX12, 50))), w_pre hS hK⟩ rfl rfl hl.1 rfl (lv_room (Nat.le_of_ble_eq_true rfl)) dX12_makeTerm_259 ⟨Nat.le_refl _, Nat.le_refl _⟩) hS0 (fun z260 M259 H locs r261 h hS hS0 => ?_)
          obtain ⟨e262, h⟩ := h
          rw [e262] at hS
          obtain ⟨J276, B270, h⟩ := h
          have L269 : ∀ (H : Heap) (locs : List Loc) (ls : Array Slot), J276 → zR D dA vwCl wR nR b M251 H → va_S (zA nR b) s.heap H locs → lv_has ls 6 [(0, .ref (b + 0)), (1, .int (iI a0)), (2, .int (iI (24 * a0)))] → W p l e (headSpec (.code yX12_makeTerm cX12_makeTerm 6 (some .int) :: zt) (z_rm (dd + 1))).room s m args below meth c H locs 0 0 (MQ below (va_Qi (wQi Q) (zB D dA vwCl wR nR b) (zA nR b)) args s 0 0 (zA nR b)) (F0 m 276 ls []) := by
            intro  H locs ls h hS hS0 hl
            have h := B270 h
            refine lv_aload_n hx hb dX12_makeTerm_276 rfl (lv_at hl 0 rfl) ?_
            refine w_getr (j2 := 26) hx hb hts (z_memU u12) hown hK.1 hS f12_41 (by decide) (zkd_of (rfl : zcd wR 0 = 50) rfl) (zrf_of (rfl : zcd wR 0 = 50) rfl) (Or.inl (hts _ (z_mem k985))) dX12_makeTerm_277 ?_
            refine lv_iload_n hx hb dX12_makeTerm_280 rfl (lv_at hl 1 rfl) ?_
            obtain ⟨o271, h⟩ := h
            refine w_iald (n := 6) (i := (sI a0)) hx hb hK.1 (t0 := 0) rfl hS (by decide) (zkd_of (rfl : zcd wR 26 = 76) rfl) (zln_of (rfl : zcd wR 26 = 76) rfl) rfl o271.1 o271.2 (by decide) dX12_makeTerm_281 ?_
            refine lv_istore_n (lv' := [(3, .int (iI (M251 26 (sI a0).toNat))), (0, .ref (b + 0)), (1, .int (iI a0)), (2, .int (iI (24 * a0)))]) hx hb dX12_makeTerm_282 rfl hl (by decide) rfl (fun ls hl => ?_)
            refine lv_aload_n hx hb dX12_makeTerm_283 rfl (lv_at hl 1 rfl) ?_
            refine z_bipush hx hb (by decide) dX12_makeTerm_284 ?_
            refine z_bipush hx hb (by decide) dX12_makeTerm_286 ?_
            refine w_callz (va_runV (As := [.int (iI 126), .int (iI 126)]) (rest := []) ⟨hx, hb, hml, hown, hts⟩ (cR_has l D dA b M251 126 126 _ h) (cwV 2 hts (z_gV k1067 k1068 k1393 k14 k1069) rfl rfl rfl dm_X12_has ⟨by simp only [z_rm, headSpec]; omega, by simp only [z_rm, headSpec]; omega⟩) ⟨wPre_blind, (w_recv hS hK.1 (by decide) (zkd_of (rfl : zcd wR 0 = 50) rfl) (by decide) (rfl : vwCl[12]? = some (RX12, TX12, 50))), w_pre hS hK⟩ rfl rfl hl.1 rfl (lv_room (Nat.le_of_ble_eq_true rfl)) dX12_makeTerm_288 ⟨Nat.le_refl _, Nat.le_refl _⟩) hS0 (fun z273 M272 H locs r274 h hS hS0 => ?_)
            obtain ⟨e275, h⟩ := h
            rw [e275] at hS
            refine w_if_eq (tgt := 372) hx hb (sI_01 r274) dX12_makeTerm_291 (by decide) (fun c276 => ?_) (fun c276 => ?_)
            · skip
              have h := h.1 c276
              refine lv_aload_n hx hb dX12_makeTerm_372 rfl (lv_at hl 1 rfl) ?_
              refine w_getr (j2 := 1) hx hb hts (z_memU u12) hown hK.1 hS f12_0 (by decide) (zkd_of (rfl : zcd wR 0 = 50) rfl) (zrf_of (rfl : zcd wR 0 = 50) rfl) (Or.inl (hts _ (z_mem k944))) dX12_makeTerm_373 ?_
              refine lv_aload_n hx hb dX12_makeTerm_376 rfl (lv_at hl 1 rfl) ?_
              refine w_geti hx hb hts (z_memU u12) hown hK.1 hS f12_36 (by decide) (zkd_of (rfl : zcd wR 0 = 50) rfl) (Or.inl (hts _ (z_mem k980))) dX12_makeTerm_377 ?_
              refine z_iconst hx hb dX12_makeTerm_380 ?_
              refine z_iadd hx hb dX12_makeTerm_381 ?_
              obtain ⟨o277, h⟩ := h
              refine w_bald (n := 100) (i := (sI ((M251 0 36) + 1))) hx hb hK.1 (t0 := 2) rfl hS (by decide) (zkd_of (rfl : zcd wR 1 = 51) rfl) (zln_of (rfl : zcd wR 1 = 51) rfl) rfl o277.1 o277.2 (by decide) dX12_makeTerm_382 ?_
              refine z_bipush hx hb (by decide) dX12_makeTerm_383 ?_
              refine z_isub hx hb dX12_makeTerm_385 ?_
              obtain ⟨t278, e279⟩ : ∃ t278 : Int, t278 = ((M251 1 (sI ((M251 0 36) + 1)).toNat) - 48) := ⟨_, rfl⟩
              refine z_top (y := t278) e279.symm ?_
              have h := h t278 e279
              refine lv_istore (lv' := [(4, .int (iI t278)), (3, .int (iI (M251 26 (sI a0).toNat))), (0, .ref (b + 0)), (1, .int (iI a0)), (2, .int (iI (24 * a0)))]) hx hb dX12_makeTerm_386 hl (by decide) rfl (fun ls hl => ?_)
              refine lv_aload_n hx hb dX12_makeTerm_388 rfl (lv_at hl 2 rfl) ?_
              refine lv_dup hx hb dX12_makeTerm_389 rfl ?_
              refine w_geti hx hb hts (z_memU u12) hown hK.1 hS f12_36 (by decide) (zkd_of (rfl : zcd wR 0 = 50) rfl) (Or.inl (hts _ (z_mem k980))) dX12_makeTerm_390 ?_
              refine z_iconst hx hb dX12_makeTerm_393 ?_
              refine z_iadd hx hb dX12_makeTerm_394 ?_
              refine w_puti hx hb hts (z_memU u12) tyX12 tyX12_ok nmX12 hown hK.1 hS hS0 f12_36 (by decide) (zkd_of (rfl : zcd wR 0 = 50) rfl) (Or.inl (hts _ (z_mem k980))) rfl (z := ((M251 0 36) + 2)) (by decide +kernel) dX12_makeTerm_395 (fun H locs hS hS0 => ?_)
              obtain ⟨M280, e281⟩ : ∃ M280 : zM, M280 = zup M251 0 36 ((M251 0 36) + 2) := ⟨_, rfl⟩
              rw [← e281] at hS
              have h := h M280 e281
              refine lv_iload_n hx hb dX12_makeTerm_398 rfl (lv_at hl 1 rfl) ?_
              refine lv_iload hx hb dX12_makeTerm_399 (lv_at hl 0 rfl) ?_
              refine z_imul hx hb dX12_makeTerm_401 ?_
              refine z_bipush hx hb (by decide) dX12_makeTerm_402 ?_
              refine w_icmp_le (tgt := 410) hx hb rfl (sI_of (by decide)) dX12_makeTerm_404 (by decide) (fun c282 => ?_) (fun c282 => ?_)
              · skip
                have h := h.1 c282
                refine lv_iload_n hx hb dX12_makeTerm_410 rfl (lv_at hl 1 rfl) ?_
                refine lv_istore (lv' := [(5, .int (iI (M251 26 (sI a0).toNat))), (4, .int (iI t278)), (3, .int (iI (M251 26 (sI a0).toNat))), (0, .ref (b + 0)), (1, .int (iI a0)), (2, .int (iI (24 * a0)))]) hx hb dX12_makeTerm_411 hl (by decide) rfl (fun ls hl => ?_)
                obtain ⟨I285, ⟨n286, h287⟩, h288⟩ := h
                have L289 : ∀ (n290 : Nat) (x283 : Int) (M284 : zM) (H : Heap) (locs : List Loc) (ls : Array Slot), I285 n290 x283 M284 → zR D dA vwCl wR nR b M284 H → va_S (zA nR b) s.heap H locs → lv_has ls 6 [(0, .ref (b + 0)), (1, .int (iI a0)), (2, .int (iI (24 * a0))), (3, .int (iI (M251 26 (sI a0).toNat))), (4, .int (iI t278)), (5, .int (iI x283))] → W p l e (headSpec (.code yX12_makeTerm cX12_makeTerm 6 (some .int) :: zt) (z_rm (dd + 1))).room s m args below meth c H locs 0 0 (MQ below (va_Qi (wQi Q) (zB D dA vwCl wR nR b) (zA nR b)) args s 0 0 (zA nR b)) (F0 m 413 ls []) := by
                  intro n290
                  induction n290 using Nat.strongRecOn with
                  | ind n290 i291 =>
                    intro x283 M284 H locs ls h hS hS0 hl
                    have h := h288 n290 x283 M284 h
                    refine lv_iload hx hb dX12_makeTerm_413 (lv_at hl 5 rfl) ?_
                    refine lv_iload_n hx hb dX12_makeTerm_415 rfl (lv_at hl 3 rfl) ?_
                    refine lv_iload hx hb dX12_makeTerm_416 (lv_at hl 4 rfl) ?_
                    refine z_imul hx hb dX12_makeTerm_418 ?_
                    refine w_icmp_ge (tgt := 448) hx hb rfl rfl dX12_makeTerm_419 (by decide) (fun c292 => ?_) (fun c292 => ?_)
                    · skip
                      have h := h.1 c292
                      refine lv_aload_n hx hb dX12_makeTerm_448 rfl (lv_at hl 0 rfl) ?_
                      refine w_getr (j2 := 26) hx hb hts (z_memU u12) hown hK.1 hS f12_41 (by decide) (zkd_of (rfl : zcd wR 0 = 50) rfl) (zrf_of (rfl : zcd wR 0 = 50) rfl) (Or.inl (hts _ (z_mem k985))) dX12_makeTerm_449 ?_
                      refine lv_iload_n hx hb dX12_makeTerm_452 rfl (lv_at hl 1 rfl) ?_
                      refine lv_iload_n hx hb dX12_makeTerm_453 rfl (lv_at hl 3 rfl) ?_
                      refine lv_iload hx hb dX12_makeTerm_454 (lv_at hl 4 rfl) ?_
                      refine z_imul hx hb dX12_makeTerm_456 ?_
                      obtain ⟨o293, h⟩ := h
                      refine w_iast (z := ((M251 26 (sI a0).toNat) * t278)) (n := 6) (i := (sI a0)) hx hb hK.1 (t0 := 0) rfl hS hS0 (by decide) (zkd_of (rfl : zcd wR 26 = 76) rfl) (zln_of (rfl : zcd wR 26 = 76) rfl) rfl o293.1 o293.2 (by decide) dX12_makeTerm_457 (fun H locs hS hS0 => ?_)
                      obtain ⟨M294, e295⟩ : ∃ M294 : zM, M294 = zup M284 26 (sI a0).toNat ((M251 26 (sI a0).toNat) * t278) := ⟨_, rfl⟩
                      rw [← e295] at hS
                      have h := h M294 e295
                      refine lv_goto (tgt := 254) hx hb dX12_makeTerm_458 (by decide) ?_
                      obtain ⟨n296, h297, h⟩ := h
                      exact i258 n296 h297 M294 _ _ _ h hS hS0 (lv_sub hl [0, 1, 2] rfl)
                    · skip
                      have h := h.2 c292
                      refine lv_aload_n hx hb dX12_makeTerm_422 rfl (lv_at hl 0 rfl) ?_
                      refine w_getr (j2 := 25) hx hb hts (z_memU u12) hown hK.1 hS f12_40 (by decide) (zkd_of (rfl : zcd wR 0 = 50) rfl) (zrf_of (rfl : zcd wR 0 = 50) rfl) (Or.inl (hts _ (z_mem k984))) dX12_makeTerm_423 ?_
                      refine lv_iload_n hx hb dX12_makeTerm_426 rfl (lv_at hl 2 rfl) ?_
                      refine lv_iload hx hb dX12_makeTerm_427 (lv_at hl 5 rfl) ?_
                      refine z_iadd hx hb dX12_makeTerm_429 ?_
                      refine lv_aload_n hx hb dX12_makeTerm_430 rfl (lv_at hl 0 rfl) ?_
                      refine w_getr (j2 := 25) hx hb hts (z_memU u12) hown hK.1 hS f12_40 (by decide) (zkd_of (rfl : zcd wR 0 = 50) rfl) (zrf_of (rfl : zcd wR 0 = 50) rfl) (Or.inl (hts _ (z_mem k984))) dX12_makeTerm_431 ?_
                      refine lv_iload_n hx hb dX12_makeTerm_434 rfl (lv_at hl 2 rfl) ?_
                      refine lv_iload hx hb dX12_makeTerm_435 (lv_at hl 5 rfl) ?_
                      refine z_iadd hx hb dX12_makeTerm_437 ?_
                      refine lv_iload_n hx hb dX12_makeTerm_438 rfl (lv_at hl 3 rfl) ?_
                      refine z_isub hx hb dX12_makeTerm_439 ?_
                      obtain ⟨o298, h⟩ := h
                      refine w_iald (n := 144) (i := (sI (((24 * a0) + x283) - (M251 26 (sI a0).toNat)))) hx hb hK.1 (t0 := 0) rfl hS (by decide) (zkd_of (rfl : zcd wR 25 = 75) rfl) (zln_of (rfl : zcd wR 25 = 75) rfl) rfl o298.1 o298.2 (by decide) dX12_makeTerm_440 ?_
                      obtain ⟨o299, h⟩ := h
                      refine w_iast (z := (M284 25 (sI (((24 * a0) + x283) - (M251 26 (sI a0).toNat))).toNat)) (n := 144) (i := (sI ((24 * a0) + x283))) hx hb hK.1 (t0 := 0) rfl hS hS0 (by decide) (zkd_of (rfl : zcd wR 25 = 75) rfl) (zln_of (rfl : zcd wR 25 = 75) rfl) rfl o299.1 o299.2 (by decide) dX12_makeTerm_441 (fun H locs hS hS0 => ?_)
                      obtain ⟨M300, e301⟩ : ∃ M300 : zM, M300 = zup M284 25 (sI ((24 * a0) + x283)).toNat (M284 25 (sI (((24 * a0) + x283) - (M251 26 (sI a0).toNat))).toNat) := ⟨_, rfl⟩
                      rw [← e301] at hS
                      have h := h M300 e301
                      refine z_iinc (lv' := [(5, .int (iI (x283 + 1))), (0, .ref (b + 0)), (1, .int (iI a0)), (2, .int (iI (24 * a0))), (3, .int (iI (M251 26 (sI a0).toNat))), (4, .int (iI t278))]) hx hb dX12_makeTerm_442 hl (k := 5) rfl (by decide) rfl (fun ls hl => ?_)
                      refine lv_goto (tgt := 413) hx hb dX12_makeTerm_445 (by decide) ?_
                      obtain ⟨n302, h303, h⟩ := h
                      exact i291 n302 h303 (x283 + 1) M300 _ _ _ h hS hS0 (lv_sub hl [1, 2, 3, 4, 5, 0] rfl)
                exact L289 n286 (M251 26 (sI a0).toNat) M280 _ _ _ h287 hS hS0 (lv_sub hl [3, 4, 5, 2, 1, 0] rfl)
              · skip
                have h := h.2 c282
                refine z_bipush hx hb (by decide) dX12_makeTerm_407 ?_
                exact w_iret hx hb hr hlocks hS hS0 (sI_of (by decide)) h dX12_makeTerm_409
            · skip
              have h := h.2 c276
              refine lv_aload_n hx hb dX12_makeTerm_294 rfl (lv_at hl 1 rfl) ?_
              refine lv_dup hx hb dX12_makeTerm_295 rfl ?_
              refine w_geti hx hb hts (z_memU u12) hown hK.1 hS f12_36 (by decide) (zkd_of (rfl : zcd wR 0 = 50) rfl) (Or.inl (hts _ (z_mem k980))) dX12_makeTerm_296 ?_
              refine z_iconst hx hb dX12_makeTerm_299 ?_
              refine z_iadd hx hb dX12_makeTerm_300 ?_
              refine w_puti hx hb hts (z_memU u12) tyX12 tyX12_ok nmX12 hown hK.1 hS hS0 f12_36 (by decide) (zkd_of (rfl : zcd wR 0 = 50) rfl) (Or.inl (hts _ (z_mem k980))) rfl (z := ((M251 0 36) + 1)) (by decide +kernel) dX12_makeTerm_301 (fun H locs hS hS0 => ?_)
              obtain ⟨M304, e305⟩ : ∃ M304 : zM, M304 = zup M251 0 36 ((M251 0 36) + 1) := ⟨_, rfl⟩
              rw [← e305] at hS
              have h := h M304 e305
              refine z_iconst hx hb dX12_makeTerm_304 ?_
              refine lv_istore (lv' := [(4, .int (iI 0)), (3, .int (iI (M251 26 (sI a0).toNat))), (0, .ref (b + 0)), (1, .int (iI a0)), (2, .int (iI (24 * a0)))]) hx hb dX12_makeTerm_305 hl (by decide) rfl (fun ls hl => ?_)
              obtain ⟨I308, ⟨n309, h310⟩, h311⟩ := h
              have L312 : ∀ (n313 : Nat) (x306 : Int) (M307 : zM) (H : Heap) (locs : List Loc) (ls : Array Slot), I308 n313 x306 M307 → zR D dA vwCl wR nR b M307 H → va_S (zA nR b) s.heap H locs → lv_has ls 6 [(0, .ref (b + 0)), (1, .int (iI a0)), (2, .int (iI (24 * a0))), (3, .int (iI (M251 26 (sI a0).toNat))), (4, .int (iI x306))] → W p l e (headSpec (.code yX12_makeTerm cX12_makeTerm 6 (some .int) :: zt) (z_rm (dd + 1))).room s m args below meth c H locs 0 0 (MQ below (va_Qi (wQi Q) (zB D dA vwCl wR nR b) (zA nR b)) args s 0 0 (zA nR b)) (F0 m 307 ls []) := by
                intro n313
                induction n313 using Nat.strongRecOn with
                | ind n313 i314 =>
                  intro x306 M307 H locs ls h hS hS0 hl
                  have h := h311 n313 x306 M307 h
                  refine lv_iload hx hb dX12_makeTerm_307 (lv_at hl 4 rfl) ?_
                  refine lv_iload_n hx hb dX12_makeTerm_309 rfl (lv_at hl 3 rfl) ?_
                  refine z_iconst hx hb dX12_makeTerm_310 ?_
                  refine w_idiv hx hb rfl (sI_of (by decide)) (by decide) dX12_makeTerm_311 ?_
                  refine w_icmp_ge (tgt := 369) hx hb rfl rfl dX12_makeTerm_312 (by decide) (fun c315 => ?_) (fun c315 => ?_)
                  · skip
                    have h := h.1 c315
                    refine lv_goto (tgt := 254) hx hb dX12_makeTerm_369 (by decide) ?_
                    obtain ⟨n316, h317, h⟩ := h
                    exact i258 n316 h317 M307 _ _ _ h hS hS0 (lv_sub hl [0, 1, 2] rfl)
                  · skip
                    have h := h.2 c315
                    refine lv_aload_n hx hb dX12_makeTerm_315 rfl (lv_at hl 0 rfl) ?_
                    refine w_getr (j2 := 25) hx hb hts (z_memU u12) hown hK.1 hS f12_40 (by decide) (zkd_of (rfl : zcd wR 0 = 50) rfl) (zrf_of (rfl : zcd wR 0 = 50) rfl) (Or.inl (hts _ (z_mem k984))) dX12_makeTerm_316 ?_
                    refine lv_iload_n hx hb dX12_makeTerm_319 rfl (lv_at hl 2 rfl) ?_
                    refine lv_iload hx hb dX12_makeTerm_320 (lv_at hl 4 rfl) ?_
                    refine z_iadd hx hb dX12_makeTerm_322 ?_
                    obtain ⟨o318, h⟩ := h
                    refine w_iald (n := 144) (i := (sI ((24 * a0) + x306))) hx hb hK.1 (t0 := 0) rfl hS (by decide) (zkd_of (rfl : zcd wR 25 = 75) rfl) (zln_of (rfl : zcd wR 25 = 75) rfl) rfl o318.1 o318.2 (by decide) dX12_makeTerm_323 ?_
                    refine lv_istore (lv' := [(5, .int (iI (M307 25 (sI ((24 * a0) + x306)).toNat))), (0, .ref (b + 0)), (1, .int (iI a0)), (2, .int (iI (24 * a0))), (3, .int (iI (M251 26 (sI a0).toNat))), (4, .int (iI x306))]) hx hb dX12_makeTerm_324 hl (by decide) rfl (fun ls hl => ?_)
                    refine lv_aload_n hx hb dX12_makeTerm_326 rfl (lv_at hl 1 rfl) ?_
                    refine w_getr (j2 := 25) hx hb hts (z_memU u12) hown hK.1 hS f12_40 (by decide) (zkd_of (rfl : zcd wR 0 = 50) rfl) (zrf_of (rfl : zcd wR 0 = 50) rfl) (Or.inl (hts _ (z_mem k984))) dX12_makeTerm_327 ?_
                    refine lv_iload_n hx hb dX12_makeTerm_330 rfl (lv_at hl 3 rfl) ?_
                    refine lv_iload hx hb dX12_makeTerm_331 (lv_at hl 5 rfl) ?_
                    refine z_iadd hx hb dX12_makeTerm_333 ?_
                    refine lv_aload_n hx hb dX12_makeTerm_334 rfl (lv_at hl 1 rfl) ?_
                    refine w_getr (j2 := 25) hx hb hts (z_memU u12) hown hK.1 hS f12_40 (by decide) (zkd_of (rfl : zcd wR 0 = 50) rfl) (zrf_of (rfl : zcd wR 0 = 50) rfl) (Or.inl (hts _ (z_mem k984))) dX12_makeTerm_335 ?_
                    refine lv_iload_n hx hb dX12_makeTerm_338 rfl (lv_at hl 3 rfl) ?_
                    refine lv_iload_n hx hb dX12_makeTerm_339 rfl (lv_at hl 4 rfl) ?_
                    refine z_iadd hx hb dX12_makeTerm_340 ?_
                    refine z_iconst hx hb dX12_makeTerm_341 ?_
                    refine z_isub hx hb dX12_makeTerm_342 ?_
                    refine lv_iload hx hb dX12_makeTerm_343 (lv_at hl 5 rfl) ?_
                    refine z_isub hx hb dX12_makeTerm_345 ?_
                    obtain ⟨o319, h⟩ := h
                    refine w_iald (n := 144) (i := (sI ((((24 * a0) + (M251 26 (sI a0).toNat)) - 1) - x306))) hx hb hK.1 (t0 := 0) rfl hS (by decide) (zkd_of (rfl : zcd wR 25 = 75) rfl) (zln_of (rfl : zcd wR 25 = 75) rfl) rfl o319.1 o319.2 (by decide) dX12_makeTerm_346 ?_
                    obtain ⟨o320, h⟩ := h
                    refine w_iast (z := (M307 25 (sI ((((24 * a0) + (M251 26 (sI a0).toNat)) - 1) - x306)).toNat)) (n := 144) (i := (sI ((24 * a0) + x306))) hx hb hK.1 (t0 := 0) rfl hS hS0 (by decide) (zkd_of (rfl : zcd wR 25 = 75) rfl) (zln_of (rfl : zcd wR 25 = 75) rfl) rfl o320.1 o320.2 (by decide) dX12_makeTerm_347 (fun H locs hS hS0 => ?_)
                    obtain ⟨M321, e322⟩ : ∃ M321 : zM, M321 = zup M307 25 (sI ((24 * a0) + x306)).toNat (M307 25 (sI ((((24 * a0) + (M251 26 (sI a0).toNat)) - 1) - x306)).toNat) := ⟨_, rfl⟩
                    rw [← e322] at hS
                    have h := h M321 e322
                    refine lv_aload_n hx hb dX12_makeTerm_348 rfl (lv_at hl 1 rfl) ?_
                    refine w_getr (j2 := 25) hx hb hts (z_memU u12) hown hK.1 hS f12_40 (by decide) (zkd_of (rfl : zcd wR 0 = 50) rfl) (zrf_of (rfl : zcd wR 0 = 50) rfl) (Or.inl (hts _ (z_mem k984))) dX12_makeTerm_349 ?_
                    refine lv_iload_n hx hb dX12_makeTerm_352 rfl (lv_at hl 3 rfl) ?_
                    refine lv_iload_n hx hb dX12_makeTerm_353 rfl (lv_at hl 4 rfl) ?_
                    refine z_iadd hx hb dX12_makeTerm_354 ?_
                    refine z_iconst hx hb dX12_makeTerm_355 ?_
                    refine z_isub hx hb dX12_makeTerm_356 ?_
                    refine lv_iload hx hb dX12_makeTerm_357 (lv_at hl 5 rfl) ?_
                    refine z_isub hx hb dX12_makeTerm_359 ?_
                    refine lv_iload hx hb dX12_makeTerm_360 (lv_at hl 0 rfl) ?_
                    obtain ⟨o323, h⟩ := h
                    refine w_iast (z := (M307 25 (sI ((24 * a0) + x306)).toNat)) (n := 144) (i := (sI ((((24 * a0) + (M251 26 (sI a0).toNat)) - 1) - x306))) hx hb hK.1 (t0 := 0) rfl hS hS0 (by decide) (zkd_of (rfl : zcd wR 25 = 75) rfl) (zln_of (rfl : zcd wR 25 = 75) rfl) rfl o323.1 o323.2 (by decide) dX12_makeTerm_362 (fun H locs hS hS0 => ?_)
                    obtain ⟨M324, e325⟩ : ∃ M324 : zM, M324 = zup M321 25 (sI ((((24 * a0) + (M251 26 (sI a0).toNat)) - 1) - x306)).toNat (M307 25 (sI ((24 * a0) + x306)).toNat) := ⟨_, rfl⟩
                    rw [← e325] at hS
                    have h := h M324 e325
                    refine z_iinc (lv' := [(4, .int (iI (x306 + 1))), (5, .int (iI (M307 25 (sI ((24 * a0) + x306)).toNat))), (0, .ref (b + 0)), (1, .int (iI a0)), (2, .int (iI (24 * a0))), (3, .int (iI (M251 26 (sI a0).toNat)))]) hx hb dX12_makeTerm_363 hl (k := 5) rfl (by decide) rfl (fun ls hl => ?_)
                    refine lv_goto (tgt := 307) hx hb dX12_makeTerm_366 (by decide) ?_
                    obtain ⟨n326, h327, h⟩ := h
                    exact i314 n326 h327 (x306 + 1) M324 _ _ _ h hS hS0 (lv_sub hl [2, 3, 4, 5, 0] rfl)
              exact L312 n309 0 M304 _ _ _ h310 hS hS0 (lv_sub hl [2, 3, 4, 1, 0] rfl)
          refine w_if_ne (tgt := 276) hx hb (sI_01 r261) dX12_makeTerm_262 (by decide) (fun c328 => ?_) (fun c328 => ?_)
          · skip
            have h := h.1 c328
            exact L269 _ _ _ h hS hS0 (lv_sub hl [0, 1, 2] rfl)
          · skip
            have h := h.2 c328
            refine lv_aload_n hx hb dX12_makeTerm_265 rfl (lv_at hl 0 rfl) ?_
            refine z_bipush hx hb (by decide) dX12_makeTerm_266 ?_
            refine z_bipush hx hb (by decide) dX12_makeTerm_268 ?_
            refine w_callz (va_runV (As := [.int (iI 42), .int (iI 42)]) (rest := []) ⟨hx, hb, hml, hown, hts⟩ (cR_has l D dA b M251 42 42 _ h) (cwV 2 hts (z_gV k1067 k1068 k1393 k14 k1069) rfl rfl rfl dm_X12_has ⟨by simp only [z_rm, headSpec]; omega, by simp only [z_rm, headSpec]; omega⟩) ⟨wPre_blind, (w_recv hS hK.1 (by decide) (zkd_of (rfl : zcd wR 0 = 50) rfl) (by decide) (rfl : vwCl[12]? = some (RX12, TX12, 50))), w_pre hS hK⟩ rfl rfl hl.1 rfl (lv_room (Nat.le_of_ble_eq_true rfl)) dX12_makeTerm_270 ⟨Nat.le_refl _, Nat.le_refl _⟩) hS0 (fun z330 M329 H locs r331 h hS hS0 => ?_)
            obtain ⟨e332, h⟩ := h
            rw [e332] at hS
            refine w_if_eq (tgt := 461) hx hb (sI_01 r331) dX12_makeTerm_273 (by decide) (fun c333 => ?_) (fun c333 => ?_)
            · skip
              have h := h.1 c333
              refine z_iconst hx hb dX12_makeTerm_461 ?_
              exact w_iret hx hb hr hlocks hS hS0 (sI_of (by decide)) h dX12_makeTerm_462
            · skip
              have h := h.2 c333
              exact L269 _ _ _ h hS hS0 (lv_sub hl [0, 1, 2] rfl)
      exact L256 n253 M249 _ _ _ h254 hS hS0 (lv_sub hl [0, 1, 2] rfl)
    refine w_icmp_ne (tgt := 39) hx hb rfl (sI_of (by decide)) dX12_makeTerm_32 (by decide) (fun c334 => ?_) (fun c334 => ?_)
    · skip
      have h := h.1 c334
      refine z_iconst hx hb dX12_makeTerm_39 ?_
      refine lv_aload_n hx hb dX12_makeTerm_40 rfl (lv_at hl 1 rfl) ?_
      refine w_getr (j2 := 1) hx hb hts (z_memU u12) hown hK.1 hS f12_0 (by decide) (zkd_of (rfl : zcd wR 0 = 50) rfl) (zrf_of (rfl : zcd wR 0 = 50) rfl) (Or.inl (hts _ (z_mem k944))) dX12_makeTerm_41 ?_
      refine lv_aload_n hx hb dX12_makeTerm_44 rfl (lv_at hl 1 rfl) ?_
      refine w_geti hx hb hts (z_memU u12) hown hK.1 hS f12_36 (by decide) (zkd_of (rfl : zcd wR 0 = 50) rfl) (Or.inl (hts _ (z_mem k980))) dX12_makeTerm_45 ?_
      obtain ⟨o335, h⟩ := h
      refine w_bald (n := 100) (i := (sI (M 0 36))) hx hb hK.1 (t0 := 2) rfl hS (by decide) (zkd_of (rfl : zcd wR 1 = 51) rfl) (zln_of (rfl : zcd wR 1 = 51) rfl) rfl o335.1 o335.2 (by decide) dX12_makeTerm_48 ?_
      refine z_bipush hx hb (by decide) dX12_makeTerm_49 ?_
      refine z_isub hx hb dX12_makeTerm_51 ?_
      refine w_ishl hx hb dX12_makeTerm_52 ?_
      exact L241 (shlI 1 ((M 1 (sI (M 0 36)).toNat) - 48)) _ _ _ h hS hS0 (lv_sub hl [1, 2, 0] rfl)
    · skip
      have h := h.2 c334
      refine z_iconst hx hb dX12_makeTerm_35 ?_
      refine lv_goto (tgt := 53) hx hb dX12_makeTerm_36 (by decide) ?_
      exact L241 0 _ _ _ h hS hS0 (lv_sub hl [1, 2, 0] rfl)

def wR_makeRow : Nat → Int → zM → (Int → zM → Prop) → Prop
  | 0 => fun _ _ _ => False
  | n + 1 => wR_makeRow_F (wR_makeTerm_F (wR_makeRow n))
set_option maxHeartbeats 4000000 in
set_option maxRecDepth 100000 in
theorem cR_makeRow (n : Nat) (l : Launch) (D : va_G) (dA : Nat → ClassId) : ∀ (b : Nat) (M : zM) (a0 : Int)  (Q : Int → zM → Prop), wR_makeRow n a0 M Q → Met l yX12_makeRow (.code yX12_makeRow cX12_makeRow 7 (some .int) :: zt) (z_rm (2 * n + 1)) (va_Pc [.ref (b + 0), .int (iI a0)] (wPre D dA vwCl (z_tys dA) wR nR b M)) (va_Qi (wQi Q) (zB D dA vwCl wR nR b) (zA nR b)) 0 0 (zA nR b) := by
  induction n with
  | zero => intro b M a0  Q h; exact h.elim
  | succ n ih =>
    intro b M a0  Q h
    rw [show 2 * (n + 1) + 1 = 2 * n + 1 + 1 + 1 from by omega]
    exact cR_makeRow_F (2 * n + 1 + 1) _ l D dA (by omega) (fun b M a0  Q h => cR_makeTerm_F (2 * n + 1) _ l D dA (by omega) ih b M a0  Q h) b M a0  Q h
