/-! the W layer, 22 -/
theorem dX12_burn_0 : decode cX12_burn 0 = .ok (.aload_n 0, 1) := by decide +kernel
theorem dX12_burn_1 : decode cX12_burn 1 = .ok (.iconst 0, 1) := by decide +kernel
theorem dX12_burn_10 : decode cX12_burn 10 = .ok (.aload_n 0, 1) := by decide +kernel
theorem dX12_burn_11 : decode cX12_burn 11 = .ok (.iconst 0, 1) := by decide +kernel
theorem dX12_burn_12 : decode cX12_burn 12 = .ok (.putfield 182, 3) := by decide +kernel
theorem dX12_burn_15 : decode cX12_burn 15 = .ok (.iload_n 1, 1) := by decide +kernel
theorem dX12_burn_16 : decode cX12_burn 16 = .ok (.ireturn, 1) := by decide +kernel
theorem dX12_burn_2 : decode cX12_burn 2 = .ok (.putfield 118, 3) := by decide +kernel
theorem dX12_burn_5 : decode cX12_burn 5 = .ok (.aload_n 0, 1) := by decide +kernel
theorem dX12_burn_6 : decode cX12_burn 6 = .ok (.getfield 182, 3) := by decide +kernel
theorem dX12_burn_9 : decode cX12_burn 9 = .ok (.istore_n 1, 1) := by decide +kernel
theorem dX12_joinFrom_0 : decode cX12_joinFrom 0 = .ok (.bipush 40, 2) := by decide +kernel
theorem dX12_joinFrom_102 : decode cX12_joinFrom 102 = .ok (.return_, 1) := by decide +kernel
theorem dX12_joinFrom_103 : decode cX12_joinFrom 103 = .ok (.iconst 1, 1) := by decide +kernel
theorem dX12_joinFrom_104 : decode cX12_joinFrom 104 = .ok (.istore 5, 2) := by decide +kernel
theorem dX12_joinFrom_106 : decode cX12_joinFrom 106 = .ok (.iinc 6 1, 3) := by decide +kernel
theorem dX12_joinFrom_109 : decode cX12_joinFrom 109 = .ok (.goto (-69), 3) := by decide +kernel
theorem dX12_joinFrom_11 : decode cX12_joinFrom 11 = .ok (.if_icmp .ne 145, 3) := by decide +kernel
theorem dX12_joinFrom_112 : decode cX12_joinFrom 112 = .ok (.iload 5, 2) := by decide +kernel
theorem dX12_joinFrom_114 : decode cX12_joinFrom 114 = .ok (.ifCond .ne 4, 3) := by decide +kernel
theorem dX12_joinFrom_117 : decode cX12_joinFrom 117 = .ok (.return_, 1) := by decide +kernel
theorem dX12_joinFrom_118 : decode cX12_joinFrom 118 = .ok (.aload_n 0, 1) := by decide +kernel
theorem dX12_joinFrom_119 : decode cX12_joinFrom 119 = .ok (.iload_n 3, 1) := by decide +kernel
theorem dX12_joinFrom_120 : decode cX12_joinFrom 120 = .ok (.putfield 305, 3) := by decide +kernel
theorem dX12_joinFrom_123 : decode cX12_joinFrom 123 = .ok (.iconst 0, 1) := by decide +kernel
theorem dX12_joinFrom_124 : decode cX12_joinFrom 124 = .ok (.istore 6, 2) := by decide +kernel
theorem dX12_joinFrom_126 : decode cX12_joinFrom 126 = .ok (.iload 6, 2) := by decide +kernel
theorem dX12_joinFrom_128 : decode cX12_joinFrom 128 = .ok (.iload_n 3, 1) := by decide +kernel
theorem dX12_joinFrom_129 : decode cX12_joinFrom 129 = .ok (.if_icmp .ge 26, 3) := by decide +kernel
theorem dX12_joinFrom_132 : decode cX12_joinFrom 132 = .ok (.aload_n 0, 1) := by decide +kernel
theorem dX12_joinFrom_133 : decode cX12_joinFrom 133 = .ok (.getfield 112, 3) := by decide +kernel
theorem dX12_joinFrom_136 : decode cX12_joinFrom 136 = .ok (.iload 6, 2) := by decide +kernel
theorem dX12_joinFrom_138 : decode cX12_joinFrom 138 = .ok (.aload_n 0, 1) := by decide +kernel
theorem dX12_joinFrom_139 : decode cX12_joinFrom 139 = .ok (.getfield 109, 3) := by decide +kernel
theorem dX12_joinFrom_14 : decode cX12_joinFrom 14 = .ok (.aload_n 0, 1) := by decide +kernel
theorem dX12_joinFrom_142 : decode cX12_joinFrom 142 = .ok (.iload 4, 2) := by decide +kernel
theorem dX12_joinFrom_144 : decode cX12_joinFrom 144 = .ok (.iload 6, 2) := by decide +kernel
theorem dX12_joinFrom_146 : decode cX12_joinFrom 146 = .ok (.iadd, 1) := by decide +kernel
theorem dX12_joinFrom_147 : decode cX12_joinFrom 147 = .ok (.iaload, 1) := by decide +kernel
theorem dX12_joinFrom_148 : decode cX12_joinFrom 148 = .ok (.iastore, 1) := by decide +kernel
theorem dX12_joinFrom_149 : decode cX12_joinFrom 149 = .ok (.iinc 6 1, 3) := by decide +kernel
theorem dX12_joinFrom_15 : decode cX12_joinFrom 15 = .ok (.getfield 305, 3) := by decide +kernel
theorem dX12_joinFrom_152 : decode cX12_joinFrom 152 = .ok (.goto (-26), 3) := by decide +kernel
theorem dX12_joinFrom_155 : decode cX12_joinFrom 155 = .ok (.return_, 1) := by decide +kernel
theorem dX12_joinFrom_156 : decode cX12_joinFrom 156 = .ok (.iconst 0, 1) := by decide +kernel
theorem dX12_joinFrom_157 : decode cX12_joinFrom 157 = .ok (.istore 5, 2) := by decide +kernel
theorem dX12_joinFrom_159 : decode cX12_joinFrom 159 = .ok (.iload 5, 2) := by decide +kernel
theorem dX12_joinFrom_161 : decode cX12_joinFrom 161 = .ok (.aload_n 0, 1) := by decide +kernel
theorem dX12_joinFrom_162 : decode cX12_joinFrom 162 = .ok (.getfield 182, 3) := by decide +kernel
theorem dX12_joinFrom_165 : decode cX12_joinFrom 165 = .ok (.if_icmp .ge 204, 3) := by decide +kernel
theorem dX12_joinFrom_168 : decode cX12_joinFrom 168 = .ok (.iload_n 2, 1) := by decide +kernel
theorem dX12_joinFrom_169 : decode cX12_joinFrom 169 = .ok (.iload 5, 2) := by decide +kernel
theorem dX12_joinFrom_171 : decode cX12_joinFrom 171 = .ok (.ishr, 1) := by decide +kernel
theorem dX12_joinFrom_172 : decode cX12_joinFrom 172 = .ok (.iconst 1, 1) := by decide +kernel
theorem dX12_joinFrom_173 : decode cX12_joinFrom 173 = .ok (.iand, 1) := by decide +kernel
theorem dX12_joinFrom_174 : decode cX12_joinFrom 174 = .ok (.iconst 1, 1) := by decide +kernel
theorem dX12_joinFrom_175 : decode cX12_joinFrom 175 = .ok (.if_icmp .ne 6, 3) := by decide +kernel
theorem dX12_joinFrom_178 : decode cX12_joinFrom 178 = .ok (.goto 185, 3) := by decide +kernel
theorem dX12_joinFrom_18 : decode cX12_joinFrom 18 = .ok (.iconst (-1), 1) := by decide +kernel
theorem dX12_joinFrom_181 : decode cX12_joinFrom 181 = .ok (.iconst 0, 1) := by decide +kernel
theorem dX12_joinFrom_182 : decode cX12_joinFrom 182 = .ok (.istore 6, 2) := by decide +kernel
theorem dX12_joinFrom_184 : decode cX12_joinFrom 184 = .ok (.iload 6, 2) := by decide +kernel
theorem dX12_joinFrom_186 : decode cX12_joinFrom 186 = .ok (.iconst 2, 1) := by decide +kernel
theorem dX12_joinFrom_187 : decode cX12_joinFrom 187 = .ok (.if_icmp .ge 176, 3) := by decide +kernel
theorem dX12_joinFrom_19 : decode cX12_joinFrom 19 = .ok (.if_icmp .eq 11, 3) := by decide +kernel
theorem dX12_joinFrom_190 : decode cX12_joinFrom 190 = .ok (.iload_n 3, 1) := by decide +kernel
theorem dX12_joinFrom_191 : decode cX12_joinFrom 191 = .ok (.aload_n 0, 1) := by decide +kernel
theorem dX12_joinFrom_192 : decode cX12_joinFrom 192 = .ok (.getfield 66, 3) := by decide +kernel
theorem dX12_joinFrom_195 : decode cX12_joinFrom 195 = .ok (.iload 5, 2) := by decide +kernel
theorem dX12_joinFrom_197 : decode cX12_joinFrom 197 = .ok (.iaload, 1) := by decide +kernel
theorem dX12_joinFrom_198 : decode cX12_joinFrom 198 = .ok (.invokestatic 271, 3) := by decide +kernel
theorem dX12_joinFrom_2 : decode cX12_joinFrom 2 = .ok (.iload_n 1, 1) := by decide +kernel
theorem dX12_joinFrom_201 : decode cX12_joinFrom 201 = .ok (.istore 7, 2) := by decide +kernel
theorem dX12_joinFrom_203 : decode cX12_joinFrom 203 = .ok (.aload_n 0, 1) := by decide +kernel
theorem dX12_joinFrom_204 : decode cX12_joinFrom 204 = .ok (.iload 4, 2) := by decide +kernel
theorem dX12_joinFrom_206 : decode cX12_joinFrom 206 = .ok (.iload_n 3, 1) := by decide +kernel
theorem dX12_joinFrom_207 : decode cX12_joinFrom 207 = .ok (.iload 5, 2) := by decide +kernel
theorem dX12_joinFrom_209 : decode cX12_joinFrom 209 = .ok (.iload 6, 2) := by decide +kernel
theorem dX12_joinFrom_211 : decode cX12_joinFrom 211 = .ok (.iconst 1, 1) := by decide +kernel
theorem dX12_joinFrom_212 : decode cX12_joinFrom 212 = .ok (.if_icmp .ne 7, 3) := by decide +kernel
theorem dX12_joinFrom_215 : decode cX12_joinFrom 215 = .ok (.iconst 1, 1) := by decide +kernel
theorem dX12_joinFrom_216 : decode cX12_joinFrom 216 = .ok (.goto 4, 3) := by decide +kernel
theorem dX12_joinFrom_219 : decode cX12_joinFrom 219 = .ok (.iconst 0, 1) := by decide +kernel
theorem dX12_joinFrom_22 : decode cX12_joinFrom 22 = .ok (.iload_n 3, 1) := by decide +kernel
theorem dX12_joinFrom_220 : decode cX12_joinFrom 220 = .ok (.iload 7, 2) := by decide +kernel
theorem dX12_joinFrom_222 : decode cX12_joinFrom 222 = .ok (.invokevirtual 308, 3) := by decide +kernel
theorem dX12_joinFrom_225 : decode cX12_joinFrom 225 = .ok (.ifCond .ne 9, 3) := by decide +kernel
theorem dX12_joinFrom_228 : decode cX12_joinFrom 228 = .ok (.iinc 7 (-1), 3) := by decide +kernel
theorem dX12_joinFrom_23 : decode cX12_joinFrom 23 = .ok (.aload_n 0, 1) := by decide +kernel
theorem dX12_joinFrom_231 : decode cX12_joinFrom 231 = .ok (.goto (-28), 3) := by decide +kernel
theorem dX12_joinFrom_234 : decode cX12_joinFrom 234 = .ok (.iload 4, 2) := by decide +kernel
theorem dX12_joinFrom_236 : decode cX12_joinFrom 236 = .ok (.bipush 40, 2) := by decide +kernel
theorem dX12_joinFrom_238 : decode cX12_joinFrom 238 = .ok (.iadd, 1) := by decide +kernel
theorem dX12_joinFrom_239 : decode cX12_joinFrom 239 = .ok (.istore 8, 2) := by decide +kernel
theorem dX12_joinFrom_24 : decode cX12_joinFrom 24 = .ok (.getfield 305, 3) := by decide +kernel
theorem dX12_joinFrom_241 : decode cX12_joinFrom 241 = .ok (.iconst 0, 1) := by decide +kernel
theorem dX12_joinFrom_242 : decode cX12_joinFrom 242 = .ok (.istore 9, 2) := by decide +kernel
theorem dX12_joinFrom_244 : decode cX12_joinFrom 244 = .ok (.iload 9, 2) := by decide +kernel
theorem dX12_joinFrom_246 : decode cX12_joinFrom 246 = .ok (.iload_n 3, 1) := by decide +kernel
theorem dX12_joinFrom_247 : decode cX12_joinFrom 247 = .ok (.if_icmp .ge 29, 3) := by decide +kernel
theorem dX12_joinFrom_250 : decode cX12_joinFrom 250 = .ok (.aload_n 0, 1) := by decide +kernel
theorem dX12_joinFrom_251 : decode cX12_joinFrom 251 = .ok (.getfield 109, 3) := by decide +kernel
theorem dX12_joinFrom_254 : decode cX12_joinFrom 254 = .ok (.iload 8, 2) := by decide +kernel
theorem dX12_joinFrom_256 : decode cX12_joinFrom 256 = .ok (.iload 9, 2) := by decide +kernel
theorem dX12_joinFrom_258 : decode cX12_joinFrom 258 = .ok (.iadd, 1) := by decide +kernel
theorem dX12_joinFrom_259 : decode cX12_joinFrom 259 = .ok (.aload_n 0, 1) := by decide +kernel
theorem dX12_joinFrom_260 : decode cX12_joinFrom 260 = .ok (.getfield 109, 3) := by decide +kernel
theorem dX12_joinFrom_263 : decode cX12_joinFrom 263 = .ok (.iload 4, 2) := by decide +kernel
theorem dX12_joinFrom_265 : decode cX12_joinFrom 265 = .ok (.iload 9, 2) := by decide +kernel
theorem dX12_joinFrom_267 : decode cX12_joinFrom 267 = .ok (.iadd, 1) := by decide +kernel
theorem dX12_joinFrom_268 : decode cX12_joinFrom 268 = .ok (.iaload, 1) := by decide +kernel
theorem dX12_joinFrom_269 : decode cX12_joinFrom 269 = .ok (.iastore, 1) := by decide +kernel
theorem dX12_joinFrom_27 : decode cX12_joinFrom 27 = .ok (.if_icmp .ge 7, 3) := by decide +kernel
theorem dX12_joinFrom_270 : decode cX12_joinFrom 270 = .ok (.iinc 9 1, 3) := by decide +kernel
theorem dX12_joinFrom_273 : decode cX12_joinFrom 273 = .ok (.goto (-29), 3) := by decide +kernel
theorem dX12_joinFrom_276 : decode cX12_joinFrom 276 = .ok (.iload 7, 2) := by decide +kernel
theorem dX12_joinFrom_278 : decode cX12_joinFrom 278 = .ok (.istore 9, 2) := by decide +kernel
theorem dX12_joinFrom_280 : decode cX12_joinFrom 280 = .ok (.iload 9, 2) := by decide +kernel
theorem dX12_joinFrom_282 : decode cX12_joinFrom 282 = .ok (.aload_n 0, 1) := by decide +kernel
theorem dX12_joinFrom_283 : decode cX12_joinFrom 283 = .ok (.getfield 66, 3) := by decide +kernel
theorem dX12_joinFrom_286 : decode cX12_joinFrom 286 = .ok (.iload 5, 2) := by decide +kernel
theorem dX12_joinFrom_288 : decode cX12_joinFrom 288 = .ok (.iaload, 1) := by decide +kernel
theorem dX12_joinFrom_289 : decode cX12_joinFrom 289 = .ok (.if_icmp .ge 43, 3) := by decide +kernel
theorem dX12_joinFrom_292 : decode cX12_joinFrom 292 = .ok (.aload_n 0, 1) := by decide +kernel
theorem dX12_joinFrom_293 : decode cX12_joinFrom 293 = .ok (.getfield 109, 3) := by decide +kernel
theorem dX12_joinFrom_296 : decode cX12_joinFrom 296 = .ok (.iload 8, 2) := by decide +kernel
theorem dX12_joinFrom_298 : decode cX12_joinFrom 298 = .ok (.iload_n 3, 1) := by decide +kernel
theorem dX12_joinFrom_299 : decode cX12_joinFrom 299 = .ok (.iadd, 1) := by decide +kernel
theorem dX12_joinFrom_3 : decode cX12_joinFrom 3 = .ok (.imul, 1) := by decide +kernel
theorem dX12_joinFrom_30 : decode cX12_joinFrom 30 = .ok (.iconst 1, 1) := by decide +kernel
theorem dX12_joinFrom_300 : decode cX12_joinFrom 300 = .ok (.iload 9, 2) := by decide +kernel
theorem dX12_joinFrom_302 : decode cX12_joinFrom 302 = .ok (.iadd, 1) := by decide +kernel
theorem dX12_joinFrom_303 : decode cX12_joinFrom 303 = .ok (.iload 7, 2) := by decide +kernel
theorem dX12_joinFrom_305 : decode cX12_joinFrom 305 = .ok (.isub, 1) := by decide +kernel
theorem dX12_joinFrom_306 : decode cX12_joinFrom 306 = .ok (.aload_n 0, 1) := by decide +kernel
theorem dX12_joinFrom_307 : decode cX12_joinFrom 307 = .ok (.iload 5, 2) := by decide +kernel
theorem dX12_joinFrom_309 : decode cX12_joinFrom 309 = .ok (.iload 6, 2) := by decide +kernel
theorem dX12_joinFrom_31 : decode cX12_joinFrom 31 = .ok (.goto 4, 3) := by decide +kernel
theorem dX12_joinFrom_311 : decode cX12_joinFrom 311 = .ok (.iconst 1, 1) := by decide +kernel
theorem dX12_joinFrom_312 : decode cX12_joinFrom 312 = .ok (.if_icmp .ne 7, 3) := by decide +kernel
theorem dX12_joinFrom_315 : decode cX12_joinFrom 315 = .ok (.iconst 1, 1) := by decide +kernel
theorem dX12_joinFrom_316 : decode cX12_joinFrom 316 = .ok (.goto 4, 3) := by decide +kernel
theorem dX12_joinFrom_319 : decode cX12_joinFrom 319 = .ok (.iconst 0, 1) := by decide +kernel
theorem dX12_joinFrom_320 : decode cX12_joinFrom 320 = .ok (.iload 9, 2) := by decide +kernel
theorem dX12_joinFrom_322 : decode cX12_joinFrom 322 = .ok (.invokevirtual 312, 3) := by decide +kernel
theorem dX12_joinFrom_325 : decode cX12_joinFrom 325 = .ok (.iastore, 1) := by decide +kernel
theorem dX12_joinFrom_326 : decode cX12_joinFrom 326 = .ok (.iinc 9 1, 3) := by decide +kernel
theorem dX12_joinFrom_329 : decode cX12_joinFrom 329 = .ok (.goto (-49), 3) := by decide +kernel
theorem dX12_joinFrom_332 : decode cX12_joinFrom 332 = .ok (.aload_n 0, 1) := by decide +kernel
theorem dX12_joinFrom_333 : decode cX12_joinFrom 333 = .ok (.iload_n 1, 1) := by decide +kernel
theorem dX12_joinFrom_334 : decode cX12_joinFrom 334 = .ok (.iconst 1, 1) := by decide +kernel
theorem dX12_joinFrom_335 : decode cX12_joinFrom 335 = .ok (.iadd, 1) := by decide +kernel
theorem dX12_joinFrom_336 : decode cX12_joinFrom 336 = .ok (.iload_n 2, 1) := by decide +kernel
theorem dX12_joinFrom_337 : decode cX12_joinFrom 337 = .ok (.iconst 1, 1) := by decide +kernel
theorem dX12_joinFrom_338 : decode cX12_joinFrom 338 = .ok (.iload 5, 2) := by decide +kernel
theorem dX12_joinFrom_34 : decode cX12_joinFrom 34 = .ok (.iconst 0, 1) := by decide +kernel
theorem dX12_joinFrom_340 : decode cX12_joinFrom 340 = .ok (.ishl, 1) := by decide +kernel
theorem dX12_joinFrom_341 : decode cX12_joinFrom 341 = .ok (.ior, 1) := by decide +kernel
theorem dX12_joinFrom_342 : decode cX12_joinFrom 342 = .ok (.iload_n 3, 1) := by decide +kernel
theorem dX12_joinFrom_343 : decode cX12_joinFrom 343 = .ok (.aload_n 0, 1) := by decide +kernel
theorem dX12_joinFrom_344 : decode cX12_joinFrom 344 = .ok (.getfield 66, 3) := by decide +kernel
theorem dX12_joinFrom_347 : decode cX12_joinFrom 347 = .ok (.iload 5, 2) := by decide +kernel
theorem dX12_joinFrom_349 : decode cX12_joinFrom 349 = .ok (.iaload, 1) := by decide +kernel
theorem dX12_joinFrom_35 : decode cX12_joinFrom 35 = .ok (.istore 5, 2) := by decide +kernel
theorem dX12_joinFrom_350 : decode cX12_joinFrom 350 = .ok (.iadd, 1) := by decide +kernel
theorem dX12_joinFrom_351 : decode cX12_joinFrom 351 = .ok (.iload 7, 2) := by decide +kernel
theorem dX12_joinFrom_353 : decode cX12_joinFrom 353 = .ok (.isub, 1) := by decide +kernel
theorem dX12_joinFrom_354 : decode cX12_joinFrom 354 = .ok (.invokevirtual 316, 3) := by decide +kernel
theorem dX12_joinFrom_357 : decode cX12_joinFrom 357 = .ok (.iinc 6 1, 3) := by decide +kernel
theorem dX12_joinFrom_360 : decode cX12_joinFrom 360 = .ok (.goto (-176), 3) := by decide +kernel
theorem dX12_joinFrom_363 : decode cX12_joinFrom 363 = .ok (.iinc 5 1, 3) := by decide +kernel
theorem dX12_joinFrom_366 : decode cX12_joinFrom 366 = .ok (.goto (-207), 3) := by decide +kernel
theorem dX12_joinFrom_369 : decode cX12_joinFrom 369 = .ok (.return_, 1) := by decide +kernel
theorem dX12_joinFrom_37 : decode cX12_joinFrom 37 = .ok (.iconst 0, 1) := by decide +kernel
theorem dX12_joinFrom_38 : decode cX12_joinFrom 38 = .ok (.istore 6, 2) := by decide +kernel
theorem dX12_joinFrom_4 : decode cX12_joinFrom 4 = .ok (.istore 4, 2) := by decide +kernel
theorem dX12_joinFrom_40 : decode cX12_joinFrom 40 = .ok (.iload 6, 2) := by decide +kernel
theorem dX12_joinFrom_42 : decode cX12_joinFrom 42 = .ok (.iload_n 3, 1) := by decide +kernel
theorem dX12_joinFrom_43 : decode cX12_joinFrom 43 = .ok (.if_icmp .ge 69, 3) := by decide +kernel
theorem dX12_joinFrom_46 : decode cX12_joinFrom 46 = .ok (.iload 5, 2) := by decide +kernel
theorem dX12_joinFrom_48 : decode cX12_joinFrom 48 = .ok (.ifCond .ne 64, 3) := by decide +kernel
theorem dX12_joinFrom_51 : decode cX12_joinFrom 51 = .ok (.iload_n 3, 1) := by decide +kernel
theorem dX12_joinFrom_52 : decode cX12_joinFrom 52 = .ok (.aload_n 0, 1) := by decide +kernel
theorem dX12_joinFrom_53 : decode cX12_joinFrom 53 = .ok (.getfield 305, 3) := by decide +kernel
theorem dX12_joinFrom_56 : decode cX12_joinFrom 56 = .ok (.if_icmp .ne 56, 3) := by decide +kernel
theorem dX12_joinFrom_59 : decode cX12_joinFrom 59 = .ok (.aload_n 0, 1) := by decide +kernel
theorem dX12_joinFrom_6 : decode cX12_joinFrom 6 = .ok (.iload_n 1, 1) := by decide +kernel
theorem dX12_joinFrom_60 : decode cX12_joinFrom 60 = .ok (.getfield 109, 3) := by decide +kernel
theorem dX12_joinFrom_63 : decode cX12_joinFrom 63 = .ok (.iload 4, 2) := by decide +kernel
theorem dX12_joinFrom_65 : decode cX12_joinFrom 65 = .ok (.iload 6, 2) := by decide +kernel
theorem dX12_joinFrom_67 : decode cX12_joinFrom 67 = .ok (.iadd, 1) := by decide +kernel
theorem dX12_joinFrom_68 : decode cX12_joinFrom 68 = .ok (.iaload, 1) := by decide +kernel
theorem dX12_joinFrom_69 : decode cX12_joinFrom 69 = .ok (.aload_n 0, 1) := by decide +kernel
theorem dX12_joinFrom_7 : decode cX12_joinFrom 7 = .ok (.aload_n 0, 1) := by decide +kernel
theorem dX12_joinFrom_70 : decode cX12_joinFrom 70 = .ok (.getfield 112, 3) := by decide +kernel
theorem dX12_joinFrom_73 : decode cX12_joinFrom 73 = .ok (.iload 6, 2) := by decide +kernel
theorem dX12_joinFrom_75 : decode cX12_joinFrom 75 = .ok (.iaload, 1) := by decide +kernel
theorem dX12_joinFrom_76 : decode cX12_joinFrom 76 = .ok (.if_icmp .ne 6, 3) := by decide +kernel
theorem dX12_joinFrom_79 : decode cX12_joinFrom 79 = .ok (.goto 27, 3) := by decide +kernel
theorem dX12_joinFrom_8 : decode cX12_joinFrom 8 = .ok (.getfield 182, 3) := by decide +kernel
theorem dX12_joinFrom_82 : decode cX12_joinFrom 82 = .ok (.aload_n 0, 1) := by decide +kernel
theorem dX12_joinFrom_83 : decode cX12_joinFrom 83 = .ok (.getfield 109, 3) := by decide +kernel
theorem dX12_joinFrom_86 : decode cX12_joinFrom 86 = .ok (.iload 4, 2) := by decide +kernel
theorem dX12_joinFrom_88 : decode cX12_joinFrom 88 = .ok (.iload 6, 2) := by decide +kernel
theorem dX12_joinFrom_90 : decode cX12_joinFrom 90 = .ok (.iadd, 1) := by decide +kernel
theorem dX12_joinFrom_91 : decode cX12_joinFrom 91 = .ok (.iaload, 1) := by decide +kernel
theorem dX12_joinFrom_92 : decode cX12_joinFrom 92 = .ok (.aload_n 0, 1) := by decide +kernel
theorem dX12_joinFrom_93 : decode cX12_joinFrom 93 = .ok (.getfield 112, 3) := by decide +kernel
theorem dX12_joinFrom_96 : decode cX12_joinFrom 96 = .ok (.iload 6, 2) := by decide +kernel
theorem dX12_joinFrom_98 : decode cX12_joinFrom 98 = .ok (.iaload, 1) := by decide +kernel
theorem dX12_joinFrom_99 : decode cX12_joinFrom 99 = .ok (.if_icmp .le 4, 3) := by decide +kernel
theorem dX12_lies_0 : decode cX12_lies 0 = .ok (.iconst 0, 1) := by decide +kernel
theorem dX12_lies_1 : decode cX12_lies 1 = .ok (.istore 6, 2) := by decide +kernel
theorem dX12_lies_10 : decode cX12_lies 10 = .ok (.aload_n 0, 1) := by decide +kernel
theorem dX12_lies_11 : decode cX12_lies 11 = .ok (.getfield 109, 3) := by decide +kernel
theorem dX12_lies_14 : decode cX12_lies 14 = .ok (.iload_n 1, 1) := by decide +kernel
theorem dX12_lies_15 : decode cX12_lies 15 = .ok (.iload_n 2, 1) := by decide +kernel
theorem dX12_lies_16 : decode cX12_lies 16 = .ok (.iadd, 1) := by decide +kernel
theorem dX12_lies_17 : decode cX12_lies 17 = .ok (.iload 5, 2) := by decide +kernel
theorem dX12_lies_19 : decode cX12_lies 19 = .ok (.isub, 1) := by decide +kernel
theorem dX12_lies_20 : decode cX12_lies 20 = .ok (.iload 6, 2) := by decide +kernel
theorem dX12_lies_22 : decode cX12_lies 22 = .ok (.iadd, 1) := by decide +kernel
theorem dX12_lies_23 : decode cX12_lies 23 = .ok (.iaload, 1) := by decide +kernel
theorem dX12_lies_24 : decode cX12_lies 24 = .ok (.aload_n 0, 1) := by decide +kernel
theorem dX12_lies_25 : decode cX12_lies 25 = .ok (.iload_n 3, 1) := by decide +kernel
theorem dX12_lies_26 : decode cX12_lies 26 = .ok (.iload 4, 2) := by decide +kernel
theorem dX12_lies_28 : decode cX12_lies 28 = .ok (.iload 6, 2) := by decide +kernel
theorem dX12_lies_3 : decode cX12_lies 3 = .ok (.iload 6, 2) := by decide +kernel
theorem dX12_lies_30 : decode cX12_lies 30 = .ok (.invokevirtual 312, 3) := by decide +kernel
theorem dX12_lies_33 : decode cX12_lies 33 = .ok (.if_icmp .eq 5, 3) := by decide +kernel
theorem dX12_lies_36 : decode cX12_lies 36 = .ok (.iconst 0, 1) := by decide +kernel
theorem dX12_lies_37 : decode cX12_lies 37 = .ok (.ireturn, 1) := by decide +kernel
theorem dX12_lies_38 : decode cX12_lies 38 = .ok (.iinc 6 1, 3) := by decide +kernel
theorem dX12_lies_41 : decode cX12_lies 41 = .ok (.goto (-38), 3) := by decide +kernel
theorem dX12_lies_44 : decode cX12_lies 44 = .ok (.iconst 1, 1) := by decide +kernel
theorem dX12_lies_45 : decode cX12_lies 45 = .ok (.ireturn, 1) := by decide +kernel
theorem dX12_lies_5 : decode cX12_lies 5 = .ok (.iload 5, 2) := by decide +kernel
theorem dX12_lies_7 : decode cX12_lies 7 = .ok (.if_icmp .ge 37, 3) := by decide +kernel
theorem dX12_piece_0 : decode cX12_piece 0 = .ok (.aload_n 0, 1) := by decide +kernel
theorem dX12_piece_1 : decode cX12_piece 1 = .ok (.iconst 0, 1) := by decide +kernel
theorem dX12_piece_102 : decode cX12_piece 102 = .ok (.iload_n 2, 1) := by decide +kernel
theorem dX12_piece_103 : decode cX12_piece 103 = .ok (.iastore, 1) := by decide +kernel
theorem dX12_piece_104 : decode cX12_piece 104 = .ok (.aload_n 0, 1) := by decide +kernel
theorem dX12_piece_105 : decode cX12_piece 105 = .ok (.dup, 1) := by decide +kernel
theorem dX12_piece_106 : decode cX12_piece 106 = .ok (.getfield 182, 3) := by decide +kernel
theorem dX12_piece_109 : decode cX12_piece 109 = .ok (.iconst 1, 1) := by decide +kernel
theorem dX12_piece_110 : decode cX12_piece 110 = .ok (.iadd, 1) := by decide +kernel
theorem dX12_piece_111 : decode cX12_piece 111 = .ok (.putfield 182, 3) := by decide +kernel
theorem dX12_piece_114 : decode cX12_piece 114 = .ok (.aload_n 0, 1) := by decide +kernel
theorem dX12_piece_115 : decode cX12_piece 115 = .ok (.getfield 182, 3) := by decide +kernel
theorem dX12_piece_118 : decode cX12_piece 118 = .ok (.iconst 1, 1) := by decide +kernel
theorem dX12_piece_119 : decode cX12_piece 119 = .ok (.isub, 1) := by decide +kernel
theorem dX12_piece_12 : decode cX12_piece 12 = .ok (.ifCond .eq 11, 3) := by decide +kernel
theorem dX12_piece_120 : decode cX12_piece 120 = .ok (.ireturn, 1) := by decide +kernel
theorem dX12_piece_15 : decode cX12_piece 15 = .ok (.aload_n 0, 1) := by decide +kernel
theorem dX12_piece_16 : decode cX12_piece 16 = .ok (.getfield 182, 3) := by decide +kernel
theorem dX12_piece_19 : decode cX12_piece 19 = .ok (.iconst 5, 1) := by decide +kernel
theorem dX12_piece_2 : decode cX12_piece 2 = .ok (.putfield 118, 3) := by decide +kernel
theorem dX12_piece_20 : decode cX12_piece 20 = .ok (.if_icmp .ne 5, 3) := by decide +kernel
theorem dX12_piece_23 : decode cX12_piece 23 = .ok (.iconst (-1), 1) := by decide +kernel
theorem dX12_piece_24 : decode cX12_piece 24 = .ok (.ireturn, 1) := by decide +kernel
theorem dX12_piece_25 : decode cX12_piece 25 = .ok (.iconst 0, 1) := by decide +kernel
theorem dX12_piece_26 : decode cX12_piece 26 = .ok (.istore_n 3, 1) := by decide +kernel
theorem dX12_piece_27 : decode cX12_piece 27 = .ok (.iload_n 3, 1) := by decide +kernel
theorem dX12_piece_28 : decode cX12_piece 28 = .ok (.iload_n 2, 1) := by decide +kernel
theorem dX12_piece_29 : decode cX12_piece 29 = .ok (.if_icmp .ge 27, 3) := by decide +kernel
theorem dX12_piece_32 : decode cX12_piece 32 = .ok (.iload_n 1, 1) := by decide +kernel
theorem dX12_piece_33 : decode cX12_piece 33 = .ok (.bipush 28, 2) := by decide +kernel
theorem dX12_piece_35 : decode cX12_piece 35 = .ok (.iconst 4, 1) := by decide +kernel
theorem dX12_piece_36 : decode cX12_piece 36 = .ok (.iload_n 3, 1) := by decide +kernel
theorem dX12_piece_37 : decode cX12_piece 37 = .ok (.imul, 1) := by decide +kernel
theorem dX12_piece_38 : decode cX12_piece 38 = .ok (.isub, 1) := by decide +kernel
theorem dX12_piece_39 : decode cX12_piece 39 = .ok (.iushr, 1) := by decide +kernel
theorem dX12_piece_40 : decode cX12_piece 40 = .ok (.bipush 15, 2) := by decide +kernel
theorem dX12_piece_42 : decode cX12_piece 42 = .ok (.iand, 1) := by decide +kernel
theorem dX12_piece_43 : decode cX12_piece 43 = .ok (.bipush 9, 2) := by decide +kernel
theorem dX12_piece_45 : decode cX12_piece 45 = .ok (.if_icmp .le 5, 3) := by decide +kernel
theorem dX12_piece_48 : decode cX12_piece 48 = .ok (.iconst (-1), 1) := by decide +kernel
theorem dX12_piece_49 : decode cX12_piece 49 = .ok (.ireturn, 1) := by decide +kernel
theorem dX12_piece_5 : decode cX12_piece 5 = .ok (.iload_n 2, 1) := by decide +kernel
theorem dX12_piece_50 : decode cX12_piece 50 = .ok (.iinc 3 1, 3) := by decide +kernel
theorem dX12_piece_53 : decode cX12_piece 53 = .ok (.goto (-26), 3) := by decide +kernel
theorem dX12_piece_56 : decode cX12_piece 56 = .ok (.iconst 0, 1) := by decide +kernel
theorem dX12_piece_57 : decode cX12_piece 57 = .ok (.istore_n 3, 1) := by decide +kernel
theorem dX12_piece_58 : decode cX12_piece 58 = .ok (.iload_n 3, 1) := by decide +kernel
theorem dX12_piece_59 : decode cX12_piece 59 = .ok (.iload_n 2, 1) := by decide +kernel
theorem dX12_piece_6 : decode cX12_piece 6 = .ok (.iconst 1, 1) := by decide +kernel
theorem dX12_piece_60 : decode cX12_piece 60 = .ok (.if_icmp .ge 34, 3) := by decide +kernel
theorem dX12_piece_63 : decode cX12_piece 63 = .ok (.aload_n 0, 1) := by decide +kernel
theorem dX12_piece_64 : decode cX12_piece 64 = .ok (.getfield 63, 3) := by decide +kernel
theorem dX12_piece_67 : decode cX12_piece 67 = .ok (.bipush 8, 2) := by decide +kernel
theorem dX12_piece_69 : decode cX12_piece 69 = .ok (.aload_n 0, 1) := by decide +kernel
theorem dX12_piece_7 : decode cX12_piece 7 = .ok (.bipush 8, 2) := by decide +kernel
theorem dX12_piece_70 : decode cX12_piece 70 = .ok (.getfield 182, 3) := by decide +kernel
theorem dX12_piece_73 : decode cX12_piece 73 = .ok (.imul, 1) := by decide +kernel
theorem dX12_piece_74 : decode cX12_piece 74 = .ok (.iload_n 3, 1) := by decide +kernel
theorem dX12_piece_75 : decode cX12_piece 75 = .ok (.iadd, 1) := by decide +kernel
theorem dX12_piece_76 : decode cX12_piece 76 = .ok (.iload_n 1, 1) := by decide +kernel
theorem dX12_piece_77 : decode cX12_piece 77 = .ok (.bipush 28, 2) := by decide +kernel
theorem dX12_piece_79 : decode cX12_piece 79 = .ok (.iconst 4, 1) := by decide +kernel
theorem dX12_piece_80 : decode cX12_piece 80 = .ok (.iload_n 3, 1) := by decide +kernel
theorem dX12_piece_81 : decode cX12_piece 81 = .ok (.imul, 1) := by decide +kernel
theorem dX12_piece_82 : decode cX12_piece 82 = .ok (.isub, 1) := by decide +kernel
theorem dX12_piece_83 : decode cX12_piece 83 = .ok (.iushr, 1) := by decide +kernel
theorem dX12_piece_84 : decode cX12_piece 84 = .ok (.bipush 15, 2) := by decide +kernel
theorem dX12_piece_86 : decode cX12_piece 86 = .ok (.iand, 1) := by decide +kernel
theorem dX12_piece_87 : decode cX12_piece 87 = .ok (.iastore, 1) := by decide +kernel
theorem dX12_piece_88 : decode cX12_piece 88 = .ok (.iinc 3 1, 3) := by decide +kernel
theorem dX12_piece_9 : decode cX12_piece 9 = .ok (.invokestatic 124, 3) := by decide +kernel
theorem dX12_piece_91 : decode cX12_piece 91 = .ok (.goto (-33), 3) := by decide +kernel
theorem dX12_piece_94 : decode cX12_piece 94 = .ok (.aload_n 0, 1) := by decide +kernel
theorem dX12_piece_95 : decode cX12_piece 95 = .ok (.getfield 66, 3) := by decide +kernel
theorem dX12_piece_98 : decode cX12_piece 98 = .ok (.aload_n 0, 1) := by decide +kernel
theorem dX12_piece_99 : decode cX12_piece 99 = .ok (.getfield 182, 3) := by decide +kernel
theorem dX12_sound_0 : decode cX12_sound 0 = .ok (.aload_n 0, 1) := by decide +kernel
theorem dX12_sound_1 : decode cX12_sound 1 = .ok (.getfield 63, 3) := by decide +kernel
theorem dX12_sound_12 : decode cX12_sound 12 = .ok (.aload_n 0, 1) := by decide +kernel
theorem dX12_sound_13 : decode cX12_sound 13 = .ok (.getfield 66, 3) := by decide +kernel
theorem dX12_sound_16 : decode cX12_sound 16 = .ok (.iload_n 1, 1) := by decide +kernel
theorem dX12_sound_17 : decode cX12_sound 17 = .ok (.iaload, 1) := by decide +kernel
theorem dX12_sound_18 : decode cX12_sound 18 = .ok (.iconst 1, 1) := by decide +kernel
theorem dX12_sound_19 : decode cX12_sound 19 = .ok (.isub, 1) := by decide +kernel
theorem dX12_sound_20 : decode cX12_sound 20 = .ok (.iload_n 3, 1) := by decide +kernel
theorem dX12_sound_21 : decode cX12_sound 21 = .ok (.isub, 1) := by decide +kernel
theorem dX12_sound_22 : decode cX12_sound 22 = .ok (.goto 4, 3) := by decide +kernel
theorem dX12_sound_25 : decode cX12_sound 25 = .ok (.iload_n 3, 1) := by decide +kernel
theorem dX12_sound_26 : decode cX12_sound 26 = .ok (.iadd, 1) := by decide +kernel
theorem dX12_sound_27 : decode cX12_sound 27 = .ok (.iaload, 1) := by decide +kernel
theorem dX12_sound_28 : decode cX12_sound 28 = .ok (.ireturn, 1) := by decide +kernel
theorem dX12_sound_4 : decode cX12_sound 4 = .ok (.bipush 8, 2) := by decide +kernel
theorem dX12_sound_6 : decode cX12_sound 6 = .ok (.iload_n 1, 1) := by decide +kernel
theorem dX12_sound_7 : decode cX12_sound 7 = .ok (.imul, 1) := by decide +kernel
theorem dX12_sound_8 : decode cX12_sound 8 = .ok (.iload_n 2, 1) := by decide +kernel
theorem dX12_sound_9 : decode cX12_sound 9 = .ok (.ifCond .eq 16, 3) := by decide +kernel
theorem dm_X12_sound : yX12_sound.cls = RX12 ∧ yX12_sound.cls ≠ "java/lang/invoke/MethodHandle" ∧ yX12_sound.cls ≠ "java/lang/invoke/VarHandle" ∧ (parseMethodDescriptor yX12_sound.desc).map (fun d => d.parameters.length) = some 3 := by decide +kernel
theorem dm_X12_lies : yX12_lies.cls = RX12 ∧ yX12_lies.cls ≠ "java/lang/invoke/MethodHandle" ∧ yX12_lies.cls ≠ "java/lang/invoke/VarHandle" ∧ (parseMethodDescriptor yX12_lies.desc).map (fun d => d.parameters.length) = some 5 := by decide +kernel
theorem dm_X12_joinFrom : yX12_joinFrom.cls = RX12 ∧ yX12_joinFrom.cls ≠ "java/lang/invoke/MethodHandle" ∧ yX12_joinFrom.cls ≠ "java/lang/invoke/VarHandle" ∧ (parseMethodDescriptor yX12_joinFrom.desc).map (fun d => d.parameters.length) = some 3 := by decide +kernel
set_option maxRecDepth 100000 in
def wR_piece (a0 : Int) (a1 : Int) (M : zM) (Q : Int → zM → Prop) : Prop := (∀ M1 : zM, M1 = zup M 0 35 0 → wR_in a1 1 8 M1 (fun z4 => (z4 = 0 → Q (-1) M1) ∧ (z4 ≠ 0 → ((sI (M1 0 27)) ≠ 5 → pL1 (fun K27 x9 => ((sI a1) ≤ (sI x9) → wL1 (fun K58 x18 M19 => ((sI a1) ≤ (sI x18) → ((0 ≤ (sI (M19 0 27)) ∧ (sI (M19 0 27)) < 5) ∧ (∀ M29 : zM, M29 = zup M19 17 (sI (M19 0 27)).toNat a1 → (∀ M31 : zM, M31 = zup M29 0 27 ((M29 0 27) + 1) → Q (sI ((M31 0 27) - 1)) M31)))) ∧ ((sI x18) < (sI a1) → ((0 ≤ (sI ((8 * (M19 0 27)) + x18)) ∧ (sI ((8 * (M19 0 27)) + x18)) < 40) ∧ (∀ M34 : zM, M34 = zup M19 16 (sI ((8 * (M19 0 27)) + x18)).toNat (andI (ushrI a0 (28 - (4 * x18))) 15) → K58 (x18 + 1) M34)))) 0 M1) ∧ ((sI x9) < (sI a1) → ((andI (ushrI a0 (28 - (4 * x9))) 15) ≤ 9 → K27 (x9 + 1)) ∧ (9 < (andI (ushrI a0 (28 - (4 * x9))) 15) → Q (-1) M1))) 0) ∧ ((sI (M1 0 27)) = 5 → Q (-1) M1))))
set_option maxHeartbeats 4000000 in
set_option maxRecDepth 100000 in
theorem cR_piece (l : Launch) (D : va_G) (dA : Nat → ClassId) (b : Nat) (M : zM) (a0 : Int) (a1 : Int)  (Q : Int → zM → Prop) (h : wR_piece a0 a1 M Q) : Met l yX12_piece (.code yX12_piece cX12_piece 4 (some .int) :: zt) (z_rm 1) (va_Pc [.ref (b + 0), .int (iI a0), .int (iI a1)] (wPre D dA vwCl (z_tys dA) wR nR b M)) (va_Qi (wQi Q) (zB D dA vwCl wR nR b) (zA nR b)) 0 0 (zA nR b) := by
  unfold wR_piece at h
  refine Met.ofW (cc := cX12_piece) (maxL := 4) (ret := (some .int)) (by decide) rfl ?_
  intro p e s m args below meth c s₁ B hml hv
  obtain ⟨hargs, hS, hK⟩ := hv
  have hx := B.exec
  have hb := B.bytes
  have hr := B.returns
  have hts := atoms_spec (ws := .code yX12_piece cX12_piece 4 (some .int) :: zt) B.pre
  have hown : s.vm.findClass RX12 = some m.cls := findClass_of_methodNamed B.named
  have hlocks := B.notSynchronized
  have hS0 : va_S (zA nR b) s.heap s.heap [] := va_S.rf
  have hl := lv_entry ([.ref (b + 0), .int (iI a0), .int (iI a1)]) (n := 4) (Nat.le_of_ble_eq_true rfl)
  have hent : entryFrame m args 4 = F0 m 0 ((lg_sl ([.ref (b + 0), .int (iI a0), .int (iI a1)]) ++ List.replicate (4 - (lg_sl ([.ref (b + 0), .int (iI a0), .int (iI a1)])).length) Slot.unset).toArray) [] := by rw [hargs]; exact lg_entry_eq m ([.ref (b + 0), .int (iI a0), .int (iI a1)]) 4
  rw [hent]
  generalize (lg_sl ([.ref (b + 0), .int (iI a0), .int (iI a1)]) ++ List.replicate (4 - (lg_sl ([.ref (b + 0), .int (iI a0), .int (iI a1)])).length) Slot.unset).toArray = ls at hl ⊢
  have hl : lv_has ls 4 [(0, .ref (b + 0)), (1, .int (iI a0)), (2, .int (iI a1))] := hl
  refine lv_aload_n hx hb dX12_piece_0 rfl (lv_at hl 0 rfl) ?_
  refine z_iconst hx hb dX12_piece_1 ?_
  refine w_puti hx hb hts (z_memU u12) tyX12 tyX12_ok nmX12 hown hK.1 hS hS0 f12_35 (by decide) (zkd_of (rfl : zcd wR 0 = 50) rfl) (Or.inl (hts _ (z_mem k979))) rfl (z := 0) (by decide +kernel) dX12_piece_2 (fun H locs hS hS0 => ?_)
  obtain ⟨M1, e2⟩ : ∃ M1 : zM, M1 = zup M 0 35 0 := ⟨_, rfl⟩
  rw [← e2] at hS
  have h := h M1 e2
  refine lv_iload_n hx hb dX12_piece_5 rfl (lv_at hl 2 rfl) ?_
  refine z_iconst hx hb dX12_piece_6 ?_
  refine z_bipush hx hb (by decide) dX12_piece_7 ?_
  refine w_callz (va_runS (As := [.int (iI a1), .int (iI 1), .int (iI 8)]) (rest := []) ⟨hx, hb, hml, hown, hts⟩ (cR_in l D dA b M1 a1 1 8 _ h) (va_cwS 3 hts (z_gS k1083 k1084 k14 k1085) rfl rfl rfl dm_X12_in.2 ⟨Nat.le_of_ble_eq_true rfl, Nat.le_of_ble_eq_true rfl⟩) ⟨wPre_blind, w_pre hS hK⟩ rfl rfl hl.1 rfl (lv_room (Nat.le_of_ble_eq_true rfl)) dX12_piece_9 ⟨Nat.le_refl _, Nat.le_refl _⟩) hS0 (fun z4 M3 H locs r5 h hS hS0 => ?_)
  obtain ⟨e6, h⟩ := h
  rw [e6] at hS
  refine w_if_eq (tgt := 23) hx hb (sI_01 r5) dX12_piece_12 (by decide) (fun c7 => ?_) (fun c7 => ?_)
  · skip
    have h := h.1 c7
    refine z_iconst hx hb dX12_piece_23 ?_
    exact w_iret hx hb hr hlocks hS hS0 (sI_of (by decide)) h dX12_piece_24
  · skip
    have h := h.2 c7
    refine lv_aload_n hx hb dX12_piece_15 rfl (lv_at hl 0 rfl) ?_
    refine w_geti hx hb hts (z_memU u12) hown hK.1 hS f12_27 (by decide) (zkd_of (rfl : zcd wR 0 = 50) rfl) (Or.inl (hts _ (z_mem k971))) dX12_piece_16 ?_
    refine z_iconst hx hb dX12_piece_19 ?_
    refine w_icmp_ne (tgt := 25) hx hb rfl (sI_of (by decide)) dX12_piece_20 (by decide) (fun c8 => ?_) (fun c8 => ?_)
    · skip
      have h := h.1 c8
      refine z_iconst hx hb dX12_piece_25 ?_
      refine lv_istore_n (lv' := [(3, .int (iI 0)), (0, .ref (b + 0)), (1, .int (iI a0)), (2, .int (iI a1))]) hx hb dX12_piece_26 rfl hl (by decide) rfl (fun ls hl => ?_)
      obtain ⟨I10, ⟨n11, h12⟩, h13⟩ := h
      have L14 : ∀ (n15 : Nat) (x9 : Int) (H : Heap) (locs : List Loc) (ls : Array Slot), I10 n15 x9 → zR D dA vwCl wR nR b M1 H → va_S (zA nR b) s.heap H locs → lv_has ls 4 [(0, .ref (b + 0)), (1, .int (iI a0)), (2, .int (iI a1)), (3, .int (iI x9))] → W p l e (headSpec (.code yX12_piece cX12_piece 4 (some .int) :: zt) (z_rm 1)).room s m args below meth c H locs 0 0 (MQ below (va_Qi (wQi Q) (zB D dA vwCl wR nR b) (zA nR b)) args s 0 0 (zA nR b)) (F0 m 27 ls []) := by
        intro n15
        induction n15 using Nat.strongRecOn with
        | ind n15 i16 =>
          intro x9 H locs ls h hS hS0 hl
          have h := h13 n15 x9 h
          refine lv_iload_n hx hb dX12_piece_27 rfl (lv_at hl 3 rfl) ?_
          refine lv_iload_n hx hb dX12_piece_28 rfl (lv_at hl 2 rfl) ?_
          refine w_icmp_ge (tgt := 56) hx hb rfl rfl dX12_piece_29 (by decide) (fun c17 => ?_) (fun c17 => ?_)
          · skip
            have h := h.1 c17
            refine z_iconst hx hb dX12_piece_56 ?_
            refine lv_istore_n (lv' := [(3, .int (iI 0)), (0, .ref (b + 0)), (1, .int (iI a0)), (2, .int (iI a1))]) hx hb dX12_piece_57 rfl hl (by decide) rfl (fun ls hl => ?_)
            obtain ⟨I20, ⟨n21, h22⟩, h23⟩ := h
            have L24 : ∀ (n25 : Nat) (x18 : Int) (M19 : zM) (H : Heap) (locs : List Loc) (ls : Array Slot), I20 n25 x18 M19 → zR D dA vwCl wR nR b M19 H → va_S (zA nR b) s.heap H locs → lv_has ls 4 [(0, .ref (b + 0)), (1, .int (iI a0)), (2, .int (iI a1)), (3, .int (iI x18))] → W p l e (headSpec (.code yX12_piece cX12_piece 4 (some .int) :: zt) (z_rm 1)).room s m args below meth c H locs 0 0 (MQ below (va_Qi (wQi Q) (zB D dA vwCl wR nR b) (zA nR b)) args s 0 0 (zA nR b)) (F0 m 58 ls []) := by
              intro n25
              induction n25 using Nat.strongRecOn with
              | ind n25 i26 =>
                intro x18 M19 H locs ls h hS hS0 hl
                have h := h23 n25 x18 M19 h
                refine lv_iload_n hx hb dX12_piece_58 rfl (lv_at hl 3 rfl) ?_
                refine lv_iload_n hx hb dX12_piece_59 rfl (lv_at hl 2 rfl) ?_
                refine w_icmp_ge (tgt := 94) hx hb rfl rfl dX12_piece_60 (by decide) (fun c27 => ?_) (fun c27 => ?_)
                · skip
                  have h := h.1 c27
                  refine lv_aload_n hx hb dX12_piece_94 rfl (lv_at hl 0 rfl) ?_
                  refine w_getr (j2 := 17) hx hb hts (z_memU u12) hown hK.1 hS f12_26 (by decide) (zkd_of (rfl : zcd wR 0 = 50) rfl) (zrf_of (rfl : zcd wR 0 = 50) rfl) (Or.inl (hts _ (z_mem k970))) dX12_piece_95 ?_
                  refine lv_aload_n hx hb dX12_piece_98 rfl (lv_at hl 0 rfl) ?_
                  refine w_geti hx hb hts (z_memU u12) hown hK.1 hS f12_27 (by decide) (zkd_of (rfl : zcd wR 0 = 50) rfl) (Or.inl (hts _ (z_mem k971))) dX12_piece_99 ?_
                  refine lv_iload_n hx hb dX12_piece_102 rfl (lv_at hl 2 rfl) ?_
                  obtain ⟨o28, h⟩ := h
                  refine w_iast (z := a1) (n := 5) (i := (sI (M19 0 27))) hx hb hK.1 (t0 := 0) rfl hS hS0 (by decide) (zkd_of (rfl : zcd wR 17 = 67) rfl) (zln_of (rfl : zcd wR 17 = 67) rfl) rfl o28.1 o28.2 (by decide) dX12_piece_103 (fun H locs hS hS0 => ?_)
                  obtain ⟨M29, e30⟩ : ∃ M29 : zM, M29 = zup M19 17 (sI (M19 0 27)).toNat a1 := ⟨_, rfl⟩
                  rw [← e30] at hS
                  have h := h M29 e30
                  refine lv_aload_n hx hb dX12_piece_104 rfl (lv_at hl 0 rfl) ?_
                  refine lv_dup hx hb dX12_piece_105 rfl ?_
                  refine w_geti hx hb hts (z_memU u12) hown hK.1 hS f12_27 (by decide) (zkd_of (rfl : zcd wR 0 = 50) rfl) (Or.inl (hts _ (z_mem k971))) dX12_piece_106 ?_
                  refine z_iconst hx hb dX12_piece_109 ?_
                  refine z_iadd hx hb dX12_piece_110 ?_
                  refine w_puti hx hb hts (z_memU u12) tyX12 tyX12_ok nmX12 hown hK.1 hS hS0 f12_27 (by decide) (zkd_of (rfl : zcd wR 0 = 50) rfl) (Or.inl (hts _ (z_mem k971))) rfl (z := ((M29 0 27) + 1)) (by decide +kernel) dX12_piece_111 (fun H locs hS hS0 => ?_)
                  obtain ⟨M31, e32⟩ : ∃ M31 : zM, M31 = zup M29 0 27 ((M29 0 27) + 1) := ⟨_, rfl⟩
                  rw [← e32] at hS
                  have h := h M31 e32
                  refine lv_aload_n hx hb dX12_piece_114 rfl (lv_at hl 0 rfl) ?_
                  refine w_geti hx hb hts (z_memU u12) hown hK.1 hS f12_27 (by decide) (zkd_of (rfl : zcd wR 0 = 50) rfl) (Or.inl (hts _ (z_mem k971))) dX12_piece_115 ?_
                  refine z_iconst hx hb dX12_piece_118 ?_
                  refine z_isub hx hb dX12_piece_119 ?_
                  exact w_iret hx hb hr hlocks hS hS0 rfl h dX12_piece_120
                · skip
                  have h := h.2 c27
                  refine lv_aload_n hx hb dX12_piece_63 rfl (lv_at hl 0 rfl) ?_
                  refine w_getr (j2 := 16) hx hb hts (z_memU u12) hown hK.1 hS f12_25 (by decide) (zkd_of (rfl : zcd wR 0 = 50) rfl) (zrf_of (rfl : zcd wR 0 = 50) rfl) (Or.inl (hts _ (z_mem k969))) dX12_piece_64 ?_
                  refine z_bipush hx hb (by decide) dX12_piece_67 ?_
                  refine lv_aload_n hx hb dX12_piece_69 rfl (lv_at hl 0 rfl) ?_
                  refine w_geti hx hb hts (z_memU u12) hown hK.1 hS f12_27 (by decide) (zkd_of (rfl : zcd wR 0 = 50) rfl) (Or.inl (hts _ (z_mem k971))) dX12_piece_70 ?_
                  refine z_imul hx hb dX12_piece_73 ?_
                  refine lv_iload_n hx hb dX12_piece_74 rfl (lv_at hl 3 rfl) ?_
                  refine z_iadd hx hb dX12_piece_75 ?_
                  refine lv_iload_n hx hb dX12_piece_76 rfl (lv_at hl 1 rfl) ?_
                  refine z_bipush hx hb (by decide) dX12_piece_77 ?_
                  refine z_iconst hx hb dX12_piece_79 ?_
                  refine lv_iload_n hx hb dX12_piece_80 rfl (lv_at hl 3 rfl) ?_
                  refine z_imul hx hb dX12_piece_81 ?_
                  refine z_isub hx hb dX12_piece_82 ?_
                  refine w_iushr hx hb dX12_piece_83 ?_
                  refine z_bipush hx hb (by decide) dX12_piece_84 ?_
                  refine w_iand hx hb dX12_piece_86 ?_
                  obtain ⟨o33, h⟩ := h
                  refine w_iast (z := (andI (ushrI a0 (28 - (4 * x18))) 15)) (n := 40) (i := (sI ((8 * (M19 0 27)) + x18))) hx hb hK.1 (t0 := 0) rfl hS hS0 (by decide) (zkd_of (rfl : zcd wR 16 = 66) rfl) (zln_of (rfl : zcd wR 16 = 66) rfl) rfl o33.1 o33.2 (by decide) dX12_piece_87 (fun H locs hS hS0 => ?_)
                  obtain ⟨M34, e35⟩ : ∃ M34 : zM, M34 = zup M19 16 (sI ((8 * (M19 0 27)) + x18)).toNat (andI (ushrI a0 (28 - (4 * x18))) 15) := ⟨_, rfl⟩
                  rw [← e35] at hS
                  have h := h M34 e35
                  refine z_iinc (lv' := [(3, .int (iI (x18 + 1))), (0, .ref (b + 0)), (1, .int (iI a0)), (2, .int (iI a1))]) hx hb dX12_piece_88 hl (k := 3) rfl (by decide) rfl (fun ls hl => ?_)
                  refine lv_goto (tgt := 58) hx hb dX12_piece_91 (by decide) ?_
                  obtain ⟨n36, h37, h⟩ := h
                  exact i26 n36 h37 (x18 + 1) M34 _ _ _ h hS hS0 (lv_sub hl [1, 2, 3, 0] rfl)
            exact L24 n21 0 M1 _ _ _ h22 hS hS0 (lv_sub hl [1, 2, 3, 0] rfl)
          · skip
            have h := h.2 c17
            refine lv_iload_n hx hb dX12_piece_32 rfl (lv_at hl 1 rfl) ?_
            refine z_bipush hx hb (by decide) dX12_piece_33 ?_
            refine z_iconst hx hb dX12_piece_35 ?_
            refine lv_iload_n hx hb dX12_piece_36 rfl (lv_at hl 3 rfl) ?_
            refine z_imul hx hb dX12_piece_37 ?_
            refine z_isub hx hb dX12_piece_38 ?_
            refine w_iushr hx hb dX12_piece_39 ?_
            refine z_bipush hx hb (by decide) dX12_piece_40 ?_
            refine w_iand hx hb dX12_piece_42 ?_
            refine z_bipush hx hb (by decide) dX12_piece_43 ?_
            refine w_icmp_le (tgt := 50) hx hb (sI_of (andI_R _ _)) (sI_of (by decide)) dX12_piece_45 (by decide) (fun c38 => ?_) (fun c38 => ?_)
            · skip
              have h := h.1 c38
              refine z_iinc (lv' := [(3, .int (iI (x9 + 1))), (0, .ref (b + 0)), (1, .int (iI a0)), (2, .int (iI a1))]) hx hb dX12_piece_50 hl (k := 3) rfl (by decide) rfl (fun ls hl => ?_)
              refine lv_goto (tgt := 27) hx hb dX12_piece_53 (by decide) ?_
              obtain ⟨n39, h40, h⟩ := h
              exact i16 n39 h40 (x9 + 1) _ _ _ h hS hS0 (lv_sub hl [1, 2, 3, 0] rfl)
            · skip
              have h := h.2 c38
              refine z_iconst hx hb dX12_piece_48 ?_
              exact w_iret hx hb hr hlocks hS hS0 (sI_of (by decide)) h dX12_piece_49
      exact L14 n11 0 _ _ _ h12 hS hS0 (lv_sub hl [1, 2, 3, 0] rfl)
    · skip
      have h := h.2 c8
      refine z_iconst hx hb dX12_piece_23 ?_
      exact w_iret hx hb hr hlocks hS hS0 (sI_of (by decide)) h dX12_piece_24

set_option maxRecDepth 100000 in
def wR_burn  (M : zM) (Q : Int → zM → Prop) : Prop := (∀ M1 : zM, M1 = zup M 0 35 0 → (∀ M3 : zM, M3 = zup M1 0 27 0 → Q (sI (M1 0 27)) M3))
set_option maxHeartbeats 4000000 in
set_option maxRecDepth 100000 in
theorem cR_burn (l : Launch) (D : va_G) (dA : Nat → ClassId) (b : Nat) (M : zM)   (Q : Int → zM → Prop) (h : wR_burn  M Q) : Met l yX12_burn (.code yX12_burn cX12_burn 2 (some .int) :: zt) (z_rm 0) (va_Pc [.ref (b + 0)] (wPre D dA vwCl (z_tys dA) wR nR b M)) (va_Qi (wQi Q) (zB D dA vwCl wR nR b) (zA nR b)) 0 0 (zA nR b) := by
  unfold wR_burn at h
  refine Met.ofW (cc := cX12_burn) (maxL := 2) (ret := (some .int)) (by decide) rfl ?_
  intro p e s m args below meth c s₁ B hml hv
  obtain ⟨hargs, hS, hK⟩ := hv
  have hx := B.exec
  have hb := B.bytes
  have hr := B.returns
  have hts := atoms_spec (ws := .code yX12_burn cX12_burn 2 (some .int) :: zt) B.pre
  have hown : s.vm.findClass RX12 = some m.cls := findClass_of_methodNamed B.named
  have hlocks := B.notSynchronized
  have hS0 : va_S (zA nR b) s.heap s.heap [] := va_S.rf
  have hl := lv_entry ([.ref (b + 0)]) (n := 2) (Nat.le_of_ble_eq_true rfl)
  have hent : entryFrame m args 2 = F0 m 0 ((lg_sl ([.ref (b + 0)]) ++ List.replicate (2 - (lg_sl ([.ref (b + 0)])).length) Slot.unset).toArray) [] := by rw [hargs]; exact lg_entry_eq m ([.ref (b + 0)]) 2
  rw [hent]
  generalize (lg_sl ([.ref (b + 0)]) ++ List.replicate (2 - (lg_sl ([.ref (b + 0)])).length) Slot.unset).toArray = ls at hl ⊢
  have hl : lv_has ls 2 [(0, .ref (b + 0))] := hl
  refine lv_aload_n hx hb dX12_burn_0 rfl (lv_at hl 0 rfl) ?_
  refine z_iconst hx hb dX12_burn_1 ?_
  refine w_puti hx hb hts (z_memU u12) tyX12 tyX12_ok nmX12 hown hK.1 hS hS0 f12_35 (by decide) (zkd_of (rfl : zcd wR 0 = 50) rfl) (Or.inl (hts _ (z_mem k979))) rfl (z := 0) (by decide +kernel) dX12_burn_2 (fun H locs hS hS0 => ?_)
  obtain ⟨M1, e2⟩ : ∃ M1 : zM, M1 = zup M 0 35 0 := ⟨_, rfl⟩
  rw [← e2] at hS
  have h := h M1 e2
  refine lv_aload_n hx hb dX12_burn_5 rfl (lv_at hl 0 rfl) ?_
  refine w_geti hx hb hts (z_memU u12) hown hK.1 hS f12_27 (by decide) (zkd_of (rfl : zcd wR 0 = 50) rfl) (Or.inl (hts _ (z_mem k971))) dX12_burn_6 ?_
  refine lv_istore_n (lv' := [(1, .int (iI (M1 0 27))), (0, .ref (b + 0))]) hx hb dX12_burn_9 rfl hl (by decide) rfl (fun ls hl => ?_)
  refine lv_aload_n hx hb dX12_burn_10 rfl (lv_at hl 1 rfl) ?_
  refine z_iconst hx hb dX12_burn_11 ?_
  refine w_puti hx hb hts (z_memU u12) tyX12 tyX12_ok nmX12 hown hK.1 hS hS0 f12_27 (by decide) (zkd_of (rfl : zcd wR 0 = 50) rfl) (Or.inl (hts _ (z_mem k971))) rfl (z := 0) (by decide +kernel) dX12_burn_12 (fun H locs hS hS0 => ?_)
  obtain ⟨M3, e4⟩ : ∃ M3 : zM, M3 = zup M1 0 27 0 := ⟨_, rfl⟩
  rw [← e4] at hS
  have h := h M3 e4
  refine lv_iload_n hx hb dX12_burn_15 rfl (lv_at hl 0 rfl) ?_
  exact w_iret hx hb hr hlocks hS hS0 rfl h dX12_burn_16

set_option maxRecDepth 100000 in
def wR_sound (a0 : Int) (a1 : Int) (a2 : Int) (M : zM) (Q : Int → Prop) : Prop := ((sI a1) = 0 → ((0 ≤ (sI ((8 * a0) + a2)) ∧ (sI ((8 * a0) + a2)) < 40) ∧ Q (sI (M 16 (sI ((8 * a0) + a2)).toNat)))) ∧ ((sI a1) ≠ 0 → ((0 ≤ (sI a0) ∧ (sI a0) < 5) ∧ ((0 ≤ (sI ((8 * a0) + (((M 17 (sI a0).toNat) - 1) - a2))) ∧ (sI ((8 * a0) + (((M 17 (sI a0).toNat) - 1) - a2))) < 40) ∧ Q (sI (M 16 (sI ((8 * a0) + (((M 17 (sI a0).toNat) - 1) - a2))).toNat)))))
set_option maxHeartbeats 4000000 in
set_option maxRecDepth 100000 in
theorem cR_sound (l : Launch) (D : va_G) (dA : Nat → ClassId) (b : Nat) (M : zM) (a0 : Int) (a1 : Int) (a2 : Int)  (Q : Int → Prop) (h : wR_sound a0 a1 a2 M Q) : Met l yX12_sound (.code yX12_sound cX12_sound 4 (some .int) :: zt) (z_rm 0) (va_Pc [.ref (b + 0), .int (iI a0), .int (iI a1), .int (iI a2)] (wPre D dA vwCl (z_tys dA) wR nR b M)) (va_Qi (wQi (fun z9 u9 => u9 = M ∧ Q z9)) (zB D dA vwCl wR nR b) (zA nR b)) 0 0 (zA nR b) := by
  unfold wR_sound at h
  refine Met.ofW (cc := cX12_sound) (maxL := 4) (ret := (some .int)) (by decide) rfl ?_
  intro p e s m args below meth c s₁ B hml hv
  obtain ⟨hargs, hS, hK⟩ := hv
  have hx := B.exec
  have hb := B.bytes
  have hr := B.returns
  have hts := atoms_spec (ws := .code yX12_sound cX12_sound 4 (some .int) :: zt) B.pre
  have hown : s.vm.findClass RX12 = some m.cls := findClass_of_methodNamed B.named
  have hlocks := B.notSynchronized
  have hS0 : va_S (zA nR b) s.heap s.heap [] := va_S.rf
  have hl := lv_entry ([.ref (b + 0), .int (iI a0), .int (iI a1), .int (iI a2)]) (n := 4) (Nat.le_of_ble_eq_true rfl)
  have hent : entryFrame m args 4 = F0 m 0 ((lg_sl ([.ref (b + 0), .int (iI a0), .int (iI a1), .int (iI a2)]) ++ List.replicate (4 - (lg_sl ([.ref (b + 0), .int (iI a0), .int (iI a1), .int (iI a2)])).length) Slot.unset).toArray) [] := by rw [hargs]; exact lg_entry_eq m ([.ref (b + 0), .int (iI a0), .int (iI a1), .int (iI a2)]) 4
  rw [hent]
  generalize (lg_sl ([.ref (b + 0), .int (iI a0), .int (iI a1), .int (iI a2)]) ++ List.replicate (4 - (lg_sl ([.ref (b + 0), .int (iI a0), .int (iI a1), .int (iI a2)])).length) Slot.unset).toArray = ls at hl ⊢
  have hl : lv_has ls 4 [(0, .ref (b + 0)), (1, .int (iI a0)), (2, .int (iI a1)), (3, .int (iI a2))] := hl
  refine lv_aload_n hx hb dX12_sound_0 rfl (lv_at hl 0 rfl) ?_
  refine w_getr (j2 := 16) hx hb hts (z_memU u12) hown hK.1 hS f12_25 (by decide) (zkd_of (rfl : zcd wR 0 = 50) rfl) (zrf_of (rfl : zcd wR 0 = 50) rfl) (Or.inl (hts _ (z_mem k969))) dX12_sound_1 ?_
  refine z_bipush hx hb (by decide) dX12_sound_4 ?_
  refine lv_iload_n hx hb dX12_sound_6 rfl (lv_at hl 1 rfl) ?_
  refine z_imul hx hb dX12_sound_7 ?_
  refine lv_iload_n hx hb dX12_sound_8 rfl (lv_at hl 2 rfl) ?_
  refine w_if_eq (tgt := 25) hx hb rfl dX12_sound_9 (by decide) (fun c1 => ?_) (fun c1 => ?_)
  · skip
    have h := h.1 c1
    refine lv_iload_n hx hb dX12_sound_25 rfl (lv_at hl 3 rfl) ?_
    refine z_iadd hx hb dX12_sound_26 ?_
    obtain ⟨o2, h⟩ := h
    refine w_iald (n := 40) (i := (sI ((8 * a0) + a2))) hx hb hK.1 (t0 := 0) rfl hS (by decide) (zkd_of (rfl : zcd wR 16 = 66) rfl) (zln_of (rfl : zcd wR 16 = 66) rfl) rfl o2.1 o2.2 (by decide) dX12_sound_27 ?_
    exact w_iret hx hb hr hlocks hS hS0 rfl ⟨rfl, h⟩ dX12_sound_28
  · skip
    have h := h.2 c1
    refine lv_aload_n hx hb dX12_sound_12 rfl (lv_at hl 0 rfl) ?_
    refine w_getr (j2 := 17) hx hb hts (z_memU u12) hown hK.1 hS f12_26 (by decide) (zkd_of (rfl : zcd wR 0 = 50) rfl) (zrf_of (rfl : zcd wR 0 = 50) rfl) (Or.inl (hts _ (z_mem k970))) dX12_sound_13 ?_
    refine lv_iload_n hx hb dX12_sound_16 rfl (lv_at hl 1 rfl) ?_
    obtain ⟨o3, h⟩ := h
    refine w_iald (n := 5) (i := (sI a0)) hx hb hK.1 (t0 := 0) rfl hS (by decide) (zkd_of (rfl : zcd wR 17 = 67) rfl) (zln_of (rfl : zcd wR 17 = 67) rfl) rfl o3.1 o3.2 (by decide) dX12_sound_17 ?_
    refine z_iconst hx hb dX12_sound_18 ?_
    refine z_isub hx hb dX12_sound_19 ?_
    refine lv_iload_n hx hb dX12_sound_20 rfl (lv_at hl 3 rfl) ?_
    refine z_isub hx hb dX12_sound_21 ?_
    refine lv_goto (tgt := 26) hx hb dX12_sound_22 (by decide) ?_
    refine z_iadd hx hb dX12_sound_26 ?_
    obtain ⟨o4, h⟩ := h
    refine w_iald (n := 40) (i := (sI ((8 * a0) + (((M 17 (sI a0).toNat) - 1) - a2)))) hx hb hK.1 (t0 := 0) rfl hS (by decide) (zkd_of (rfl : zcd wR 16 = 66) rfl) (zln_of (rfl : zcd wR 16 = 66) rfl) rfl o4.1 o4.2 (by decide) dX12_sound_27 ?_
    exact w_iret hx hb hr hlocks hS hS0 rfl ⟨rfl, h⟩ dX12_sound_28

set_option maxRecDepth 100000 in
def wR_lies (a0 : Int) (a1 : Int) (a2 : Int) (a3 : Int) (a4 : Int) (M : zM) (Q : Int → Prop) : Prop := pL1 (fun K3 x1 => ((sI a4) ≤ (sI x1) → Q 1) ∧ ((sI x1) < (sI a4) → ((0 ≤ (sI (((a0 + a1) - a4) + x1)) ∧ (sI (((a0 + a1) - a4) + x1)) < 240) ∧ wR_sound a2 a3 x1 M (fun z12 => ((sI (M 31 (sI (((a0 + a1) - a4) + x1)).toNat)) = z12 → K3 (x1 + 1)) ∧ ((sI (M 31 (sI (((a0 + a1) - a4) + x1)).toNat)) ≠ z12 → Q 0))))) 0
set_option maxHeartbeats 4000000 in
set_option maxRecDepth 100000 in
theorem cR_lies (l : Launch) (D : va_G) (dA : Nat → ClassId) (b : Nat) (M : zM) (a0 : Int) (a1 : Int) (a2 : Int) (a3 : Int) (a4 : Int)  (Q : Int → Prop) (h : wR_lies a0 a1 a2 a3 a4 M Q) : Met l yX12_lies (.code yX12_lies cX12_lies 7 (some .boolean) :: zt) (z_rm 1) (va_Pc [.ref (b + 0), .int (iI a0), .int (iI a1), .int (iI a2), .int (iI a3), .int (iI a4)] (wPre D dA vwCl (z_tys dA) wR nR b M)) (va_Qi (wQz (fun z9 u9 => u9 = M ∧ Q z9)) (zB D dA vwCl wR nR b) (zA nR b)) 0 0 (zA nR b) := by
  unfold wR_lies at h
  refine Met.ofW (cc := cX12_lies) (maxL := 7) (ret := (some .boolean)) (by decide) rfl ?_
  intro p e s m args below meth c s₁ B hml hv
  obtain ⟨hargs, hS, hK⟩ := hv
  have hx := B.exec
  have hb := B.bytes
  have hr := B.returns
  have hts := atoms_spec (ws := .code yX12_lies cX12_lies 7 (some .boolean) :: zt) B.pre
  have hown : s.vm.findClass RX12 = some m.cls := findClass_of_methodNamed B.named
  have hlocks := B.notSynchronized
  have hS0 : va_S (zA nR b) s.heap s.heap [] := va_S.rf
  have hl := lv_entry ([.ref (b + 0), .int (iI a0), .int (iI a1), .int (iI a2), .int (iI a3), .int (iI a4)]) (n := 7) (Nat.le_of_ble_eq_true rfl)
  have hent : entryFrame m args 7 = F0 m 0 ((lg_sl ([.ref (b + 0), .int (iI a0), .int (iI a1), .int (iI a2), .int (iI a3), .int (iI a4)]) ++ List.replicate (7 - (lg_sl ([.ref (b + 0), .int (iI a0), .int (iI a1), .int (iI a2), .int (iI a3), .int (iI a4)])).length) Slot.unset).toArray) [] := by rw [hargs]; exact lg_entry_eq m ([.ref (b + 0), .int (iI a0), .int (iI a1), .int (iI a2), .int (iI a3), .int (iI a4)]) 7
  rw [hent]
  generalize (lg_sl ([.ref (b + 0), .int (iI a0), .int (iI a1), .int (iI a2), .int (iI a3), .int (iI a4)]) ++ List.replicate (7 - (lg_sl ([.ref (b + 0), .int (iI a0), .int (iI a1), .int (iI a2), .int (iI a3), .int (iI a4)])).length) Slot.unset).toArray = ls at hl ⊢
  have hl : lv_has ls 7 [(0, .ref (b + 0)), (1, .int (iI a0)), (2, .int (iI a1)), (3, .int (iI a2)), (4, .int (iI a3)), (5, .int (iI a4))] := hl
  refine z_iconst hx hb dX12_lies_0 ?_
  refine lv_istore (lv' := [(6, .int (iI 0)), (0, .ref (b + 0)), (1, .int (iI a0)), (2, .int (iI a1)), (3, .int (iI a2)), (4, .int (iI a3)), (5, .int (iI a4))]) hx hb dX12_lies_1 hl (by decide) rfl (fun ls hl => ?_)
  obtain ⟨I2, ⟨n3, h4⟩, h5⟩ := h
  have L6 : ∀ (n7 : Nat) (x1 : Int) (H : Heap) (locs : List Loc) (ls : Array Slot), I2 n7 x1 → zR D dA vwCl wR nR b M H → va_S (zA nR b) s.heap H locs → lv_has ls 7 [(0, .ref (b + 0)), (1, .int (iI a0)), (2, .int (iI a1)), (3, .int (iI a2)), (4, .int (iI a3)), (5, .int (iI a4)), (6, .int (iI x1))] → W p l e (headSpec (.code yX12_lies cX12_lies 7 (some .boolean) :: zt) (z_rm 1)).room s m args below meth c H locs 0 0 (MQ below (va_Qi (wQz (fun z9 u9 => u9 = M ∧ Q z9)) (zB D dA vwCl wR nR b) (zA nR b)) args s 0 0 (zA nR b)) (F0 m 3 ls []) := by
    intro n7
    induction n7 using Nat.strongRecOn with
    | ind n7 i8 =>
      intro x1 H locs ls h hS hS0 hl
      have h := h5 n7 x1 h
      refine lv_iload hx hb dX12_lies_3 (lv_at hl 6 rfl) ?_
      refine lv_iload hx hb dX12_lies_5 (lv_at hl 5 rfl) ?_
      refine w_icmp_ge (tgt := 44) hx hb rfl rfl dX12_lies_7 (by decide) (fun c9 => ?_) (fun c9 => ?_)
      · skip
        have h := h.1 c9
        refine z_iconst hx hb dX12_lies_44 ?_
        exact w_zret hx hb hr hlocks hS hS0 (sI_of (by decide)) (by decide) ⟨rfl, h⟩ dX12_lies_45
      · skip
        have h := h.2 c9
        refine lv_aload_n hx hb dX12_lies_10 rfl (lv_at hl 0 rfl) ?_
        refine w_getr (j2 := 31) hx hb hts (z_memU u12) hown hK.1 hS f12_46 (by decide) (zkd_of (rfl : zcd wR 0 = 50) rfl) (zrf_of (rfl : zcd wR 0 = 50) rfl) (Or.inl (hts _ (z_mem k990))) dX12_lies_11 ?_
        refine lv_iload_n hx hb dX12_lies_14 rfl (lv_at hl 1 rfl) ?_
        refine lv_iload_n hx hb dX12_lies_15 rfl (lv_at hl 2 rfl) ?_
        refine z_iadd hx hb dX12_lies_16 ?_
        refine lv_iload hx hb dX12_lies_17 (lv_at hl 5 rfl) ?_
        refine z_isub hx hb dX12_lies_19 ?_
        refine lv_iload hx hb dX12_lies_20 (lv_at hl 6 rfl) ?_
        refine z_iadd hx hb dX12_lies_22 ?_
        obtain ⟨o10, h⟩ := h
        refine w_iald (n := 240) (i := (sI (((a0 + a1) - a4) + x1))) hx hb hK.1 (t0 := 0) rfl hS (by decide) (zkd_of (rfl : zcd wR 31 = 81) rfl) (zln_of (rfl : zcd wR 31 = 81) rfl) rfl o10.1 o10.2 (by decide) dX12_lies_23 ?_
        refine lv_aload_n hx hb dX12_lies_24 rfl (lv_at hl 0 rfl) ?_
        refine lv_iload_n hx hb dX12_lies_25 rfl (lv_at hl 3 rfl) ?_
        refine lv_iload hx hb dX12_lies_26 (lv_at hl 4 rfl) ?_
        refine lv_iload hx hb dX12_lies_28 (lv_at hl 6 rfl) ?_
        refine w_calli (va_runV (As := [.int (iI a2), .int (iI a3), .int (iI x1)]) (rest := [.int (iI (M 31 (sI (((a0 + a1) - a4) + x1)).toNat))]) ⟨hx, hb, hml, hown, hts⟩ (cR_sound l D dA b M a2 a3 x1 _ h) (cwV 3 hts (z_gV k1322 k1323 k1422 k14 k1324) rfl rfl rfl dm_X12_sound ⟨Nat.le_of_ble_eq_true rfl, Nat.le_of_ble_eq_true rfl⟩) ⟨wPre_blind, (w_recv hS hK.1 (by decide) (zkd_of (rfl : zcd wR 0 = 50) rfl) (by decide) (rfl : vwCl[12]? = some (RX12, TX12, 50))), w_pre hS hK⟩ rfl rfl hl.1 rfl (lv_room (Nat.le_of_ble_eq_true rfl)) dX12_lies_30 ⟨Nat.le_refl _, Nat.le_refl _⟩) hS0 (fun z12 M11 H locs r13 h hS hS0 => ?_)
        obtain ⟨e14, h⟩ := h
        rw [e14] at hS
        refine w_icmp_eq (tgt := 38) hx hb rfl (sI_of r13) dX12_lies_33 (by decide) (fun c15 => ?_) (fun c15 => ?_)
        · skip
          have h := h.1 c15
          refine z_iinc (lv' := [(6, .int (iI (x1 + 1))), (0, .ref (b + 0)), (1, .int (iI a0)), (2, .int (iI a1)), (3, .int (iI a2)), (4, .int (iI a3)), (5, .int (iI a4))]) hx hb dX12_lies_38 hl (k := 6) rfl (by decide) rfl (fun ls hl => ?_)
          refine lv_goto (tgt := 3) hx hb dX12_lies_41 (by decide) ?_
          obtain ⟨n16, h17, h⟩ := h
          exact i8 n16 h17 (x1 + 1) _ _ _ h hS hS0 (lv_sub hl [1, 2, 3, 4, 5, 6, 0] rfl)
        · skip
          have h := h.2 c15
          refine z_iconst hx hb dX12_lies_36 ?_
          exact w_zret hx hb hr hlocks hS hS0 (sI_of (by decide)) (by decide) ⟨rfl, h⟩ dX12_lies_37
  exact L6 n3 0 _ _ _ h4 hS hS0 (lv_sub hl [1, 2, 3, 4, 5, 6, 0] rfl)

set_option maxRecDepth 100000 in
def wR_joinFrom_F (R9 : Int → Int → Int → zM → (zM → Prop) → Prop) (a0 : Int) (a1 : Int) (a2 : Int) (M : zM) (Q : zM → Prop) : Prop := ((sI a0) ≠ (sI (M 0 27)) → wL1 (fun K159 x2 M3 => ((sI (M3 0 27)) ≤ (sI x2) → Q M3) ∧ ((sI x2) < (sI (M3 0 27)) → ((andI (shrI a1 x2) 1) ≠ 1 → wL1 (fun K184 x13 M14 => (2 ≤ (sI x13) → K159 (x2 + 1) M14) ∧ ((sI x13) < 2 → ((0 ≤ (sI x2) ∧ (sI x2) < 5) ∧ (∀ t26 : Int, t26 = (min (sI a2) (sI (M14 17 (sI x2).toNat))) → pL1 (fun K203 x28 => pJ1 (fun J220 => ((sI x13) ≠ 1 → J220 0) ∧ ((sI x13) = 1 → J220 1)) (fun (x37 : Int) => wR_lies (40 * a0) a2 x2 x37 x28 M14 (fun z41 => (z41 ≠ 0 → wL1 (fun K244 x45 M46 => ((sI a2) ≤ (sI x45) → wL1 (fun K280 x55 M56 => ((0 ≤ (sI x2) ∧ (sI x2) < 5) ∧ ((sI (M56 17 (sI x2).toNat)) ≤ (sI x55) → ((0 ≤ (sI x2) ∧ (sI x2) < 5) ∧ R9 (a0 + 1) (orI a1 (shlI 1 x2)) ((a2 + (M56 17 (sI x2).toNat)) - x28) M56 (fun M67 => K184 (x13 + 1) M67))) ∧ ((sI x55) < (sI (M56 17 (sI x2).toNat)) → ((sI x13) ≠ 1 → wR_sound x2 0 x55 M56 (fun z72 => ((0 ≤ (sI (((((40 * a0) + 40) + a2) + x55) - x28)) ∧ (sI (((((40 * a0) + 40) + a2) + x55) - x28)) < 240) ∧ (∀ M76 : zM, M76 = zup M56 31 (sI (((((40 * a0) + 40) + a2) + x55) - x28)).toNat z72 → K280 (x55 + 1) M76)))) ∧ ((sI x13) = 1 → wR_sound x2 1 x55 M56 (fun z81 => ((0 ≤ (sI (((((40 * a0) + 40) + a2) + x55) - x28)) ∧ (sI (((((40 * a0) + 40) + a2) + x55) - x28)) < 240) ∧ (∀ M85 : zM, M85 = zup M56 31 (sI (((((40 * a0) + 40) + a2) + x55) - x28)).toNat z81 → K280 (x55 + 1) M85))))))) x28 M46) ∧ ((sI x45) < (sI a2) → ((0 ≤ (sI ((40 * a0) + x45)) ∧ (sI ((40 * a0) + x45)) < 240) ∧ ((0 ≤ (sI (((40 * a0) + 40) + x45)) ∧ (sI (((40 * a0) + 40) + x45)) < 240) ∧ (∀ M91 : zM, M91 = zup M46 31 (sI (((40 * a0) + 40) + x45)).toNat (M46 31 (sI ((40 * a0) + x45)).toNat) → K244 (x45 + 1) M91))))) 0 M14) ∧ (z41 = 0 → K203 (x28 + (-1)))))) t26)))) 0 M3) ∧ ((andI (shrI a1 x2) 1) = 1 → K159 (x2 + 1) M3))) 0 M) ∧ ((sI a0) = (sI (M 0 27)) → pJ1 (fun J35 => pJ0 (fun J30 => ((sI (M 0 48)) = (-1) → J30) ∧ ((sI (M 0 48)) ≠ (-1) → ((sI (M 0 48)) ≤ (sI a2) → J35 0) ∧ ((sI a2) < (sI (M 0 48)) → J30))) (J35 1)) (fun (x102 : Int) => pL2 (fun K40 x105 x106 => pJ0 (fun J112 => ((sI a2) ≤ (sI x106) → J112) ∧ ((sI x106) < (sI a2) → ((sI x105) ≠ 0 → J112) ∧ ((sI x105) = 0 → ((sI a2) ≠ (sI (M 0 48)) → J112) ∧ ((sI a2) = (sI (M 0 48)) → ((0 ≤ (sI ((40 * a0) + x106)) ∧ (sI ((40 * a0) + x106)) < 240) ∧ ((0 ≤ (sI x106) ∧ (sI x106) < 40) ∧ ((sI (M 31 (sI ((40 * a0) + x106)).toNat)) ≠ (sI (M 32 (sI x106).toNat)) → ((0 ≤ (sI ((40 * a0) + x106)) ∧ (sI ((40 * a0) + x106)) < 240) ∧ ((0 ≤ (sI x106) ∧ (sI x106) < 40) ∧ ((sI (M 31 (sI ((40 * a0) + x106)).toNat)) ≤ (sI (M 32 (sI x106).toNat)) → K40 1 (x106 + 1)) ∧ ((sI (M 32 (sI x106).toNat)) < (sI (M 31 (sI ((40 * a0) + x106)).toNat)) → Q M)))) ∧ ((sI (M 31 (sI ((40 * a0) + x106)).toNat)) = (sI (M 32 (sI x106).toNat)) → K40 x105 (x106 + 1)))))))) (((sI x105) ≠ 0 → (∀ M130 : zM, M130 = zup M 0 48 a2 → wL1 (fun K126 x132 M133 => ((sI a2) ≤ (sI x132) → Q M133) ∧ ((sI x132) < (sI a2) → ((0 ≤ (sI ((40 * a0) + x132)) ∧ (sI ((40 * a0) + x132)) < 240) ∧ ((0 ≤ (sI x132) ∧ (sI x132) < 40) ∧ (∀ M144 : zM, M144 = zup M133 32 (sI x132).toNat (M133 31 (sI ((40 * a0) + x132)).toNat) → K126 (x132 + 1) M144))))) 0 M130)) ∧ ((sI x105) = 0 → Q M))) x102 0))
set_option maxHeartbeats 4000000 in
set_option maxRecDepth 100000 in
theorem cR_joinFrom_F (dd : Nat) (R9 : Int → Int → Int → zM → (zM → Prop) → Prop) (l : Launch) (D : va_G) (dA : Nat → ClassId) (hdd : 2 ≤ dd) (hrec : ∀ (b : Nat) (M : zM) (a0 : Int) (a1 : Int) (a2 : Int)  (Q : zM → Prop), R9 a0 a1 a2 M Q → Met l yX12_joinFrom (.code yX12_joinFrom cX12_joinFrom 10 none :: zt) (z_rm dd) (va_Pc [.ref (b + 0), .int (iI a0), .int (iI a1), .int (iI a2)] (wPre D dA vwCl (z_tys dA) wR nR b M)) (va_Qv (wQv Q) (zB D dA vwCl wR nR b) (zA nR b)) 0 0 (zA nR b)) (b : Nat) (M : zM) (a0 : Int) (a1 : Int) (a2 : Int)  (Q : zM → Prop) (h : wR_joinFrom_F R9 a0 a1 a2 M Q) : Met l yX12_joinFrom (.code yX12_joinFrom cX12_joinFrom 10 none :: zt) (z_rm (dd + 1)) (va_Pc [.ref (b + 0), .int (iI a0), .int (iI a1), .int (iI a2)] (wPre D dA vwCl (z_tys dA) wR nR b M)) (va_Qv (wQv Q) (zB D dA vwCl wR nR b) (zA nR b)) 0 0 (zA nR b) := by
  unfold wR_joinFrom_F at h
  refine Met.ofW (cc := cX12_joinFrom) (maxL := 10) (ret := none) (by decide) rfl ?_
  intro p e s m args below meth c s₁ B hml hv
  obtain ⟨hargs, hS, hK⟩ := hv
  have hx := B.exec
  have hb := B.bytes
  have hr := B.returns
  have hts := atoms_spec (ws := .code yX12_joinFrom cX12_joinFrom 10 none :: zt) B.pre
  have hown : s.vm.findClass RX12 = some m.cls := findClass_of_methodNamed B.named
  have hlocks := B.notSynchronized
  have hS0 : va_S (zA nR b) s.heap s.heap [] := va_S.rf
  have hl := lv_entry ([.ref (b + 0), .int (iI a0), .int (iI a1), .int (iI a2)]) (n := 10) (Nat.le_of_ble_eq_true rfl)
  have hent : entryFrame m args 10 = F0 m 0 ((lg_sl ([.ref (b + 0), .int (iI a0), .int (iI a1), .int (iI a2)]) ++ List.replicate (10 - (lg_sl ([.ref (b + 0), .int (iI a0), .int (iI a1), .int (iI a2)])).length) Slot.unset).toArray) [] := by rw [hargs]; exact lg_entry_eq m ([.ref (b + 0), .int (iI a0), .int (iI a1), .int (iI a2)]) 10
  rw [hent]
  generalize (lg_sl ([.ref (b + 0), .int (iI a0), .int (iI a1), .int (iI a2)]) ++ List.replicate (10 - (lg_sl ([.ref (b + 0), .int (iI a0), .int (iI a1), .int (iI a2)])).length) Slot.unset).toArray = ls at hl ⊢
  have hl : lv_has ls 10 [(0, .ref (b + 0)), (1, .int (iI a0)), (2, .int (iI a1)), (3, .int (iI a2))] := hl
  refine z_bipush hx hb (by decide) dX12_joinFrom_0 ?_
  refine lv_iload_n hx hb dX12_joinFrom_2 rfl (lv_at hl 1 rfl) ?_
  refine z_imul hx hb dX12_joinFrom_3 ?_
  refine lv_istore (lv' := [(4, .int (iI (40 * a0))), (0, .ref (b + 0)), (1, .int (iI a0)), (2, .int (iI a1)), (3, .int (iI a2))]) hx hb dX12_joinFrom_4 hl (by decide) rfl (fun ls hl => ?_)
  refine lv_iload_n hx hb dX12_joinFrom_6 rfl (lv_at hl 2 rfl) ?_
  refine lv_aload_n hx hb dX12_joinFrom_7 rfl (lv_at hl 1 rfl) ?_
  refine w_geti hx hb hts (z_memU u12) hown hK.1 hS f12_27 (by decide) (zkd_of (rfl : zcd wR 0 = 50) rfl) (Or.inl (hts _ (z_mem k971))) dX12_joinFrom_8 ?_
  refine w_icmp_ne (tgt := 156) hx hb rfl rfl dX12_joinFrom_11 (by decide) (fun c1 => ?_) (fun c1 => ?_)
  · skip
    have h := h.1 c1
    refine z_iconst hx hb dX12_joinFrom_156 ?_
    refine lv_istore (lv' := [(5, .int (iI 0)), (4, .int (iI (40 * a0))), (0, .ref (b + 0)), (1, .int (iI a0)), (2, .int (iI a1)), (3, .int (iI a2))]) hx hb dX12_joinFrom_157 hl (by decide) rfl (fun ls hl => ?_)
    obtain ⟨I4, ⟨n5, h6⟩, h7⟩ := h
    have L8 : ∀ (n9 : Nat) (x2 : Int) (M3 : zM) (H : Heap) (locs : List Loc) (ls : Array Slot), I4 n9 x2 M3 → zR D dA vwCl wR nR b M3 H → va_S (zA nR b) s.heap H locs → lv_has ls 10 [(0, .ref (b + 0)), (1, .int (iI a0)), (2, .int (iI a1)), (3, .int (iI a2)), (4, .int (iI (40 * a0))), (5, .int (iI x2))] → W p l e (headSpec (.code yX12_joinFrom cX12_joinFrom 10 none :: zt) (z_rm (dd + 1))).room s m args below meth c H locs 0 0 (MQ below (va_Qv (wQv Q) (zB D dA vwCl wR nR b) (zA nR b)) args s 0 0 (zA nR b)) (F0 m 159 ls []) := by
      intro n9
      induction n9 using Nat.strongRecOn with
      | ind n9 i10 =>
        intro x2 M3 H locs ls h hS hS0 hl
        have h := h7 n9 x2 M3 h
        refine lv_iload hx hb dX12_joinFrom_159 (lv_at hl 5 rfl) ?_
        refine lv_aload_n hx hb dX12_joinFrom_161 rfl (lv_at hl 0 rfl) ?_
        refine w_geti hx hb hts (z_memU u12) hown hK.1 hS f12_27 (by decide) (zkd_of (rfl : zcd wR 0 = 50) rfl) (Or.inl (hts _ (z_mem k971))) dX12_joinFrom_162 ?_
        refine w_icmp_ge (tgt := 369) hx hb rfl rfl dX12_joinFrom_165 (by decide) (fun c11 => ?_) (fun c11 => ?_)
        · skip
          have h := h.1 c11
          exact w_vret hx hb hr hlocks hS hS0 h dX12_joinFrom_369
        · skip
          have h := h.2 c11
          refine lv_iload_n hx hb dX12_joinFrom_168 rfl (lv_at hl 2 rfl) ?_
          refine lv_iload hx hb dX12_joinFrom_169 (lv_at hl 5 rfl) ?_
          refine w_ishr hx hb dX12_joinFrom_171 ?_
          refine z_iconst hx hb dX12_joinFrom_172 ?_
          refine w_iand hx hb dX12_joinFrom_173 ?_
          refine z_iconst hx hb dX12_joinFrom_174 ?_
          refine w_icmp_ne (tgt := 181) hx hb (sI_of (andI_R _ _)) (sI_of (by decide)) dX12_joinFrom_175 (by decide) (fun c12 => ?_) (fun c12 => ?_)
          · skip
            have h := h.1 c12
            refine z_iconst hx hb dX12_joinFrom_181 ?_
            refine lv_istore (lv' := [(6, .int (iI 0)), (0, .ref (b + 0)), (1, .int (iI a0)), (2, .int (iI a1)), (3, .int (iI a2)), (4, .int (iI (40 * a0))), (5, .int (iI x2))]) hx hb dX12_joinFrom_182 hl (by decide) rfl (fun ls hl => ?_)
            obtain ⟨I15, ⟨n16, h17⟩, h18⟩ := h
            have L19 : ∀ (n20 : Nat) (x13 : Int) (M14 : zM) (H : Heap) (locs : List Loc) (ls : Array Slot), I15 n20 x13 M14 → zR D dA vwCl wR nR b M14 H → va_S (zA nR b) s.heap H locs → lv_has ls 10 [(0, .ref (b + 0)), (1, .int (iI a0)), (2, .int (iI a1)), (3, .int (iI a2)), (4, .int (iI (40 * a0))), (5, .int (iI x2)), (6, .int (iI x13))] → W p l e (headSpec (.code yX12_joinFrom cX12_joinFrom 10 none :: zt) (z_rm (dd + 1))).room s m args below meth c H locs 0 0 (MQ below (va_Qv (wQv Q) (zB D dA vwCl wR nR b) (zA nR b)) args s 0 0 (zA nR b)) (F0 m 184 ls []) := by
              intro n20
              induction n20 using Nat.strongRecOn with
              | ind n20 i21 =>
                intro x13 M14 H locs ls h hS hS0 hl
                have h := h18 n20 x13 M14 h
                refine lv_iload hx hb dX12_joinFrom_184 (lv_at hl 6 rfl) ?_
                refine z_iconst hx hb dX12_joinFrom_186 ?_
                refine w_icmp_ge (tgt := 363) hx hb rfl (sI_of (by decide)) dX12_joinFrom_187 (by decide) (fun c22 => ?_) (fun c22 => ?_)
                · skip
                  have h := h.1 c22
                  refine z_iinc (lv' := [(5, .int (iI (x2 + 1))), (0, .ref (b + 0)), (1, .int (iI a0)), (2, .int (iI a1)), (3, .int (iI a2)), (4, .int (iI (40 * a0))), (6, .int (iI x13))]) hx hb dX12_joinFrom_363 hl (k := 5) rfl (by decide) rfl (fun ls hl => ?_)
                  refine lv_goto (tgt := 159) hx hb dX12_joinFrom_366 (by decide) ?_
                  obtain ⟨n23, h24, h⟩ := h
                  exact i10 n23 h24 (x2 + 1) M14 _ _ _ h hS hS0 (lv_sub hl [1, 2, 3, 4, 5, 0] rfl)
                · skip
                  have h := h.2 c22
                  refine lv_iload_n hx hb dX12_joinFrom_190 rfl (lv_at hl 3 rfl) ?_
                  refine lv_aload_n hx hb dX12_joinFrom_191 rfl (lv_at hl 0 rfl) ?_
                  refine w_getr (j2 := 17) hx hb hts (z_memU u12) hown hK.1 hS f12_26 (by decide) (zkd_of (rfl : zcd wR 0 = 50) rfl) (zrf_of (rfl : zcd wR 0 = 50) rfl) (Or.inl (hts _ (z_mem k970))) dX12_joinFrom_192 ?_
                  refine lv_iload hx hb dX12_joinFrom_195 (lv_at hl 5 rfl) ?_
                  obtain ⟨o25, h⟩ := h
                  refine w_iald (n := 5) (i := (sI x2)) hx hb hK.1 (t0 := 0) rfl hS (by decide) (zkd_of (rfl : zcd wR 17 = 67) rfl) (zln_of (rfl : zcd wR 17 = 67) rfl) rfl o25.1 o25.2 (by decide) dX12_joinFrom_197 ?_
                  refine w_mmin hx hb (hml.trans hl.1.symm) hown (hts _ (z_mem k1229)) (hts _ (z_mem k320)) (hts _ (z_mem k15)) (hts _ (z_mem k321)) (by simp only [z_rm, headSpec]; omega) (by simp only [z_rm, headSpec, List.map, List.sum_cons, List.sum_nil, Value.category]; omega) (by exact Nat.le_refl _) (by exact Nat.le_refl _) rfl rfl dX12_joinFrom_198 ?_
                  obtain ⟨t26, e27⟩ : ∃ t26 : Int, t26 = (min (sI a2) (sI (M14 17 (sI x2).toNat))) := ⟨_, rfl⟩
                  refine z_top (y := t26) e27.symm ?_
                  have h := h t26 e27
                  refine lv_istore (lv' := [(7, .int (iI t26)), (0, .ref (b + 0)), (1, .int (iI a0)), (2, .int (iI a1)), (3, .int (iI a2)), (4, .int (iI (40 * a0))), (5, .int (iI x2)), (6, .int (iI x13))]) hx hb dX12_joinFrom_201 hl (by decide) rfl (fun ls hl => ?_)
                  obtain ⟨I29, ⟨n30, h31⟩, h32⟩ := h
                  have L33 : ∀ (n34 : Nat) (x28 : Int) (H : Heap) (locs : List Loc) (ls : Array Slot), I29 n34 x28 → zR D dA vwCl wR nR b M14 H → va_S (zA nR b) s.heap H locs → lv_has ls 10 [(0, .ref (b + 0)), (1, .int (iI a0)), (2, .int (iI a1)), (3, .int (iI a2)), (4, .int (iI (40 * a0))), (5, .int (iI x2)), (6, .int (iI x13)), (7, .int (iI x28))] → W p l e (headSpec (.code yX12_joinFrom cX12_joinFrom 10 none :: zt) (z_rm (dd + 1))).room s m args below meth c H locs 0 0 (MQ below (va_Qv (wQv Q) (zB D dA vwCl wR nR b) (zA nR b)) args s 0 0 (zA nR b)) (F0 m 203 ls []) := by
                    intro n34
                    induction n34 using Nat.strongRecOn with
                    | ind n34 i35 =>
                      intro x28 H locs ls h hS hS0 hl
                      have h := h32 n34 x28 h
                      refine lv_aload_n hx hb dX12_joinFrom_203 rfl (lv_at hl 0 rfl) ?_
                      refine lv_iload hx hb dX12_joinFrom_204 (lv_at hl 4 rfl) ?_
                      refine lv_iload_n hx hb dX12_joinFrom_206 rfl (lv_at hl 3 rfl) ?_
                      refine lv_iload hx hb dX12_joinFrom_207 (lv_at hl 5 rfl) ?_
                      refine lv_iload hx hb dX12_joinFrom_209 (lv_at hl 6 rfl) ?_
                      refine z_iconst hx hb dX12_joinFrom_211 ?_
                      obtain ⟨J220, B39, h⟩ := h
                      have L38 : ∀ (x37 : Int) (H : Heap) (locs : List Loc) (ls : Array Slot), J220 x37 → zR D dA vwCl wR nR b M14 H → va_S (zA nR b) s.heap H locs → lv_has ls 10 [(0, .ref (b + 0)), (1, .int (iI a0)), (2, .int (iI a1)), (3, .int (iI a2)), (4, .int (iI (40 * a0))), (5, .int (iI x2)), (6, .int (iI x13)), (7, .int (iI x28))] → W p l e (headSpec (.code yX12_joinFrom cX12_joinFrom 10 none :: zt) (z_rm (dd + 1))).room s m args below meth c H locs 0 0 (MQ below (va_Qv (wQv Q) (zB D dA vwCl wR nR b) (zA nR b)) args s 0 0 (zA nR b)) (F0 m 220 ls [.int (iI x37), .int (iI x2), .int (iI a2), .int (iI (40 * a0)), .ref (b + 0)]) := by
                        intro x37 H locs ls h hS hS0 hl
                        have h := B39 x37 h
                        refine lv_iload hx hb dX12_joinFrom_220 (lv_at hl 7 rfl) ?_
                        refine w_callz (va_runV (As := [.int (iI (40 * a0)), .int (iI a2), .int (iI x2), .int (iI x37), .int (iI x28)]) (rest := []) ⟨hx, hb, hml, hown, hts⟩ (cR_lies l D dA b M14 (40 * a0) a2 x2 x37 x28 _ h) (cwV 5 hts (z_gV k1319 k1320 k1421 k14 k1321) rfl rfl rfl dm_X12_lies ⟨by simp only [z_rm, headSpec]; omega, by simp only [z_rm, headSpec]; omega⟩) ⟨wPre_blind, (w_recv hS hK.1 (by decide) (zkd_of (rfl : zcd wR 0 = 50) rfl) (by decide) (rfl : vwCl[12]? = some (RX12, TX12, 50))), w_pre hS hK⟩ rfl rfl hl.1 rfl (lv_room (Nat.le_of_ble_eq_true rfl)) dX12_joinFrom_222 ⟨Nat.le_refl _, Nat.le_refl _⟩) hS0 (fun z41 M40 H locs r42 h hS hS0 => ?_)
                        obtain ⟨e43, h⟩ := h
                        rw [e43] at hS
                        refine w_if_ne (tgt := 234) hx hb (sI_01 r42) dX12_joinFrom_225 (by decide) (fun c44 => ?_) (fun c44 => ?_)
                        · skip
                          have h := h.1 c44
                          refine lv_iload hx hb dX12_joinFrom_234 (lv_at hl 4 rfl) ?_
                          refine z_bipush hx hb (by decide) dX12_joinFrom_236 ?_
                          refine z_iadd hx hb dX12_joinFrom_238 ?_
                          refine lv_istore (lv' := [(8, .int (iI ((40 * a0) + 40))), (0, .ref (b + 0)), (1, .int (iI a0)), (2, .int (iI a1)), (3, .int (iI a2)), (4, .int (iI (40 * a0))), (5, .int (iI x2)), (6, .int (iI x13)), (7, .int (iI x28))]) hx hb dX12_joinFrom_239 hl (by decide) rfl (fun ls hl => ?_)
                          refine z_iconst hx hb dX12_joinFrom_241 ?_
                          refine lv_istore (lv' := [(9, .int (iI 0)), (8, .int (iI ((40 * a0) + 40))), (0, .ref (b + 0)), (1, .int (iI a0)), (2, .int (iI a1)), (3, .int (iI a2)), (4, .int (iI (40 * a0))), (5, .int (iI x2)), (6, .int (iI x13)), (7, .int (iI x28))]) hx hb dX12_joinFrom_242 hl (by decide) rfl (fun ls hl => ?_)
                          obtain ⟨I47, ⟨n48, h49⟩, h50⟩ := h
                          have L51 : ∀ (n52 : Nat) (x45 : Int) (M46 : zM) (H : Heap) (locs : List Loc) (ls : Array Slot), I47 n52 x45 M46 → zR D dA vwCl wR nR b M46 H → va_S (zA nR b) s.heap H locs → lv_has ls 10 [(0, .ref (b + 0)), (1, .int (iI a0)), (2, .int (iI a1)), (3, .int (iI a2)), (4, .int (iI (40 * a0))), (5, .int (iI x2)), (6, .int (iI x13)), (7, .int (iI x28)), (8, .int (iI ((40 * a0) + 40))), (9, .int (iI x45))] → W p l e (headSpec (.code yX12_joinFrom cX12_joinFrom 10 none :: zt) (z_rm (dd + 1))).room s m args below meth c H locs 0 0 (MQ below (va_Qv (wQv Q) (zB D dA vwCl wR nR b) (zA nR b)) args s 0 0 (zA nR b)) (F0 m 244 ls []) := by
                            intro n52
                            induction n52 using Nat.strongRecOn with
                            | ind n52 i53 =>
                              intro x45 M46 H locs ls h hS hS0 hl
                              have h := h50 n52 x45 M46 h
                              refine lv_iload hx hb dX12_joinFrom_244 (lv_at hl 9 rfl) ?_
                              refine lv_iload_n hx hb dX12_joinFrom_246 rfl (lv_at hl 3 rfl) ?_
                              refine w_icmp_ge (tgt := 276) hx hb rfl rfl dX12_joinFrom_247 (by decide) (fun c54 => ?_) (fun c54 => ?_)
                              · skip
                                have h := h.1 c54
                                refine lv_iload hx hb dX12_joinFrom_276 (lv_at hl 7 rfl) ?_
                                refine lv_istore (lv' := [(9, .int (iI x28)), (0, .ref (b + 0)), (1, .int (iI a0)), (2, .int (iI a1)), (3, .int (iI a2)), (4, .int (iI (40 * a0))), (5, .int (iI x2)), (6, .int (iI x13)), (7, .int (iI x28)), (8, .int (iI ((40 * a0) + 40)))]) hx hb dX12_joinFrom_278 hl (by decide) rfl (fun ls hl => ?_)
                                obtain ⟨I57, ⟨n58, h59⟩, h60⟩ := h
                                have L61 : ∀ (n62 : Nat) (x55 : Int) (M56 : zM) (H : Heap) (locs : List Loc) (ls : Array Slot), I57 n62 x55 M56 → zR D dA vwCl wR nR b M56 H → va_S (zA nR b) s.heap H locs → lv_has ls 10 [(0, .ref (b + 0)), (1, .int (iI a0)), (2, .int (iI a1)), (3, .int (iI a2)), (4, .int (iI (40 * a0))), (5, .int (iI x2)), (6, .int (iI x13)), (7, .int (iI x28)), (8, .int (iI ((40 * a0) + 40))), (9, .int (iI x55))] → W p l e (headSpec (.code yX12_joinFrom cX12_joinFrom 10 none :: zt) (z_rm (dd + 1))).room s m args below meth c H locs 0 0 (MQ below (va_Qv (wQv Q) (zB D dA vwCl wR nR b) (zA nR b)) args s 0 0 (zA nR b)) (F0 m 280 ls []) := by
                                  intro n62
                                  induction n62 using Nat.strongRecOn with
                                  | ind n62 i63 =>
                                    intro x55 M56 H locs ls h hS hS0 hl
                                    have h := h60 n62 x55 M56 h
                                    refine lv_iload hx hb dX12_joinFrom_280 (lv_at hl 9 rfl) ?_
                                    refine lv_aload_n hx hb dX12_joinFrom_282 rfl (lv_at hl 0 rfl) ?_
                                    refine w_getr (j2 := 17) hx hb hts (z_memU u12) hown hK.1 hS f12_26 (by decide) (zkd_of (rfl : zcd wR 0 = 50) rfl) (zrf_of (rfl : zcd wR 0 = 50) rfl) (Or.inl (hts _ (z_mem k970))) dX12_joinFrom_283 ?_
                                    refine lv_iload hx hb dX12_joinFrom_286 (lv_at hl 5 rfl) ?_
                                    obtain ⟨o64, h⟩ := h
                                    refine w_iald (n := 5) (i := (sI x2)) hx hb hK.1 (t0 := 0) rfl hS (by decide) (zkd_of (rfl : zcd wR 17 = 67) rfl) (zln_of (rfl : zcd wR 17 = 67) rfl) rfl o64.1 o64.2 (by decide) dX12_joinFrom_288 ?_
                                    refine w_icmp_ge (tgt := 332) hx hb rfl rfl dX12_joinFrom_289 (by decide) (fun c65 => ?_) (fun c65 => ?_)
                                    · skip
                                      have h := h.1 c65
                                      refine lv_aload_n hx hb dX12_joinFrom_332 rfl (lv_at hl 0 rfl) ?_
                                      refine lv_iload_n hx hb dX12_joinFrom_333 rfl (lv_at hl 1 rfl) ?_
                                      refine z_iconst hx hb dX12_joinFrom_334 ?_
                                      refine z_iadd hx hb dX12_joinFrom_335 ?_
                                      refine lv_iload_n hx hb dX12_joinFrom_336 rfl (lv_at hl 2 rfl) ?_
                                      refine z_iconst hx hb dX12_joinFrom_337 ?_
                                      refine lv_iload hx hb dX12_joinFrom_338 (lv_at hl 5 rfl) ?_
                                      refine w_ishl hx hb dX12_joinFrom_340 ?_
                                      refine w_ior hx hb dX12_joinFrom_341 ?_
                                      refine lv_iload_n hx hb dX12_joinFrom_342 rfl (lv_at hl 3 rfl) ?_
                                      refine lv_aload_n hx hb dX12_joinFrom_343 rfl (lv_at hl 0 rfl) ?_
                                      refine w_getr (j2 := 17) hx hb hts (z_memU u12) hown hK.1 hS f12_26 (by decide) (zkd_of (rfl : zcd wR 0 = 50) rfl) (zrf_of (rfl : zcd wR 0 = 50) rfl) (Or.inl (hts _ (z_mem k970))) dX12_joinFrom_344 ?_
                                      refine lv_iload hx hb dX12_joinFrom_347 (lv_at hl 5 rfl) ?_
                                      obtain ⟨o66, h⟩ := h
                                      refine w_iald (n := 5) (i := (sI x2)) hx hb hK.1 (t0 := 0) rfl hS (by decide) (zkd_of (rfl : zcd wR 17 = 67) rfl) (zln_of (rfl : zcd wR 17 = 67) rfl) rfl o66.1 o66.2 (by decide) dX12_joinFrom_349 ?_
                                      refine z_iadd hx hb dX12_joinFrom_350 ?_
                                      refine lv_iload hx hb dX12_joinFrom_351 (lv_at hl 7 rfl) ?_
                                      refine z_isub hx hb dX12_joinFrom_353 ?_
                                      refine w_callv (va_runV (As := [.int (iI (a0 + 1)), .int (iI (orI a1 (shlI 1 x2))), .int (iI ((a2 + (M56 17 (sI x2).toNat)) - x28))]) (rest := []) ⟨hx, hb, hml, hown, hts⟩ (hrec b M56 (a0 + 1) (orI a1 (shlI 1 x2)) ((a2 + (M56 17 (sI x2).toNat)) - x28) _ h) (cwV 3 hts (z_gV k1316 k1317 k1420 k14 k1318) rfl rfl rfl dm_X12_joinFrom ⟨by simp only [z_rm, headSpec]; omega, by simp only [z_rm, headSpec]; omega⟩) ⟨wPre_blind, (w_recv hS hK.1 (by decide) (zkd_of (rfl : zcd wR 0 = 50) rfl) (by decide) (rfl : vwCl[12]? = some (RX12, TX12, 50))), w_pre hS hK⟩ rfl rfl hl.1 rfl (lv_room (Nat.le_of_ble_eq_true rfl)) dX12_joinFrom_354 ⟨Nat.le_refl _, Nat.le_refl _⟩) hS0 (fun M67 H locs h hS hS0 => ?_)
                                      refine z_iinc (lv' := [(6, .int (iI (x13 + 1))), (0, .ref (b + 0)), (1, .int (iI a0)), (2, .int (iI a1)), (3, .int (iI a2)), (4, .int (iI (40 * a0))), (5, .int (iI x2)), (7, .int (iI x28)), (8, .int (iI ((40 * a0) + 40))), (9, .int (iI x55))]) hx hb dX12_joinFrom_357 hl (k := 6) rfl (by decide) rfl (fun ls hl => ?_)
                                      refine lv_goto (tgt := 184) hx hb dX12_joinFrom_360 (by decide) ?_
                                      obtain ⟨n68, h69, h⟩ := h
                                      exact i21 n68 h69 (x13 + 1) M67 _ _ _ h hS hS0 (lv_sub hl [1, 2, 3, 4, 5, 6, 0] rfl)
                                    · skip
                                      have h := h.2 c65
                                      refine lv_aload_n hx hb dX12_joinFrom_292 rfl (lv_at hl 0 rfl) ?_
                                      refine w_getr (j2 := 31) hx hb hts (z_memU u12) hown hK.1 hS f12_46 (by decide) (zkd_of (rfl : zcd wR 0 = 50) rfl) (zrf_of (rfl : zcd wR 0 = 50) rfl) (Or.inl (hts _ (z_mem k990))) dX12_joinFrom_293 ?_
                                      refine lv_iload hx hb dX12_joinFrom_296 (lv_at hl 8 rfl) ?_
                                      refine lv_iload_n hx hb dX12_joinFrom_298 rfl (lv_at hl 3 rfl) ?_
                                      refine z_iadd hx hb dX12_joinFrom_299 ?_
                                      refine lv_iload hx hb dX12_joinFrom_300 (lv_at hl 9 rfl) ?_
                                      refine z_iadd hx hb dX12_joinFrom_302 ?_
                                      refine lv_iload hx hb dX12_joinFrom_303 (lv_at hl 7 rfl) ?_
                                      refine z_isub hx hb dX12_joinFrom_305 ?_
                                      refine lv_aload_n hx hb dX12_joinFrom_306 rfl (lv_at hl 0 rfl) ?_
                                      refine lv_iload hx hb dX12_joinFrom_307 (lv_at hl 5 rfl) ?_
                                      refine lv_iload hx hb dX12_joinFrom_309 (lv_at hl 6 rfl) ?_
                                      refine z_iconst hx hb dX12_joinFrom_311 ?_
                                      refine w_icmp_ne (tgt := 319) hx hb rfl (sI_of (by decide)) dX12_joinFrom_312 (by decide) (fun c70 => ?_) (fun c70 => ?_)
                                      · skip
                                        have h := h.1 c70
                                        refine z_iconst hx hb dX12_joinFrom_319 ?_
                                        refine lv_iload hx hb dX12_joinFrom_320 (lv_at hl 9 rfl) ?_
                                        refine w_calli (va_runV (As := [.int (iI x2), .int (iI 0), .int (iI x55)]) (rest := [.int (iI (((((40 * a0) + 40) + a2) + x55) - x28)), .ref (b + 31)]) ⟨hx, hb, hml, hown, hts⟩ (cR_sound l D dA b M56 x2 0 x55 _ h) (cwV 3 hts (z_gV k1322 k1323 k1422 k14 k1324) rfl rfl rfl dm_X12_sound ⟨by simp only [z_rm, headSpec]; omega, by simp only [z_rm, headSpec]; omega⟩) ⟨wPre_blind, (w_recv hS hK.1 (by decide) (zkd_of (rfl : zcd wR 0 = 50) rfl) (by decide) (rfl : vwCl[12]? = some (RX12, TX12, 50))), w_pre hS hK⟩ rfl rfl hl.1 rfl (lv_room (Nat.le_of_ble_eq_true rfl)) dX12_joinFrom_322 ⟨Nat.le_refl _, Nat.le_refl _⟩) hS0 (fun z72 M71 H locs r73 h hS hS0 => ?_)
                                        obtain ⟨e74, h⟩ := h
                                        rw [e74] at hS
                                        obtain ⟨o75, h⟩ := h
                                        refine w_iast (z := z72) (n := 240) (i := (sI (((((40 * a0) + 40) + a2) + x55) - x28))) hx hb hK.1 (t0 := 0) rfl hS hS0 (by decide) (zkd_of (rfl : zcd wR 31 = 81) rfl) (zln_of (rfl : zcd wR 31 = 81) rfl) rfl o75.1 o75.2 (by decide) dX12_joinFrom_325 (fun H locs hS hS0 => ?_)
                                        obtain ⟨M76, e77⟩ : ∃ M76 : zM, M76 = zup M56 31 (sI (((((40 * a0) + 40) + a2) + x55) - x28)).toNat z72 := ⟨_, rfl⟩
                                        rw [← e77] at hS
                                        have h := h M76 e77
                                        refine z_iinc (lv' := [(9, .int (iI (x55 + 1))), (0, .ref (b + 0)), (1, .int (iI a0)), (2, .int (iI a1)), (3, .int (iI a2)), (4, .int (iI (40 * a0))), (5, .int (iI x2)), (6, .int (iI x13)), (7, .int (iI x28)), (8, .int (iI ((40 * a0) + 40)))]) hx hb dX12_joinFrom_326 hl (k := 9) rfl (by decide) rfl (fun ls hl => ?_)
                                        refine lv_goto (tgt := 280) hx hb dX12_joinFrom_329 (by decide) ?_
                                        obtain ⟨n78, h79, h⟩ := h
                                        exact i63 n78 h79 (x55 + 1) M76 _ _ _ h hS hS0 (lv_sub hl [1, 2, 3, 4, 5, 6, 7, 8, 9, 0] rfl)
                                      · skip
                                        have h := h.2 c70
                                        refine z_iconst hx hb dX12_joinFrom_315 ?_
                                        refine lv_goto (tgt := 320) hx hb dX12_joinFrom_316 (by decide) ?_
                                        refine lv_iload hx hb dX12_joinFrom_320 (lv_at hl 9 rfl) ?_
                                        refine w_calli (va_runV (As := [.int (iI x2), .int (iI 1), .int (iI x55)]) (rest := [.int (iI (((((40 * a0) + 40) + a2) + x55) - x28)), .ref (b + 31)]) ⟨hx, hb, hml, hown, hts⟩ (cR_sound l D dA b M56 x2 1 x55 _ h) (cwV 3 hts (z_gV k1322 k1323 k1422 k14 k1324) rfl rfl rfl dm_X12_sound ⟨by simp only [z_rm, headSpec]; omega, by simp only [z_rm, headSpec]; omega⟩) ⟨wPre_blind, (w_recv hS hK.1 (by decide) (zkd_of (rfl : zcd wR 0 = 50) rfl) (by decide) (rfl : vwCl[12]? = some (RX12, TX12, 50))), w_pre hS hK⟩ rfl rfl hl.1 rfl (lv_room (Nat.le_of_ble_eq_true rfl)) dX12_joinFrom_322 ⟨Nat.le_refl _, Nat.le_refl _⟩) hS0 (fun z81 M80 H locs r82 h hS hS0 => ?_)
                                        obtain ⟨e83, h⟩ := h
                                        rw [e83] at hS
                                        obtain ⟨o84, h⟩ := h
                                        refine w_iast (z := z81) (n := 240) (i := (sI (((((40 * a0) + 40) + a2) + x55) - x28))) hx hb hK.1 (t0 := 0) rfl hS hS0 (by decide) (zkd_of (rfl : zcd wR 31 = 81) rfl) (zln_of (rfl : zcd wR 31 = 81) rfl) rfl o84.1 o84.2 (by decide) dX12_joinFrom_325 (fun H locs hS hS0 => ?_)
                                        obtain ⟨M85, e86⟩ : ∃ M85 : zM, M85 = zup M56 31 (sI (((((40 * a0) + 40) + a2) + x55) - x28)).toNat z81 := ⟨_, rfl⟩
                                        rw [← e86] at hS
                                        have h := h M85 e86
                                        refine z_iinc (lv' := [(9, .int (iI (x55 + 1))), (0, .ref (b + 0)), (1, .int (iI a0)), (2, .int (iI a1)), (3, .int (iI a2)), (4, .int (iI (40 * a0))), (5, .int (iI x2)), (6, .int (iI x13)), (7, .int (iI x28)), (8, .int (iI ((40 * a0) + 40)))]) hx hb dX12_joinFrom_326 hl (k := 9) rfl (by decide) rfl (fun ls hl => ?_)
                                        refine lv_goto (tgt := 280) hx hb dX12_joinFrom_329 (by decide) ?_
                                        obtain ⟨n87, h88, h⟩ := h
                                        exact i63 n87 h88 (x55 + 1) M85 _ _ _ h hS hS0 (lv_sub hl [1, 2, 3, 4, 5, 6, 7, 8, 9, 0] rfl)
                                exact L61 n58 x28 M46 _ _ _ h59 hS hS0 (lv_sub hl [1, 2, 3, 4, 5, 6, 7, 8, 9, 0] rfl)
                              · skip
                                have h := h.2 c54
                                refine lv_aload_n hx hb dX12_joinFrom_250 rfl (lv_at hl 0 rfl) ?_
                                refine w_getr (j2 := 31) hx hb hts (z_memU u12) hown hK.1 hS f12_46 (by decide) (zkd_of (rfl : zcd wR 0 = 50) rfl) (zrf_of (rfl : zcd wR 0 = 50) rfl) (Or.inl (hts _ (z_mem k990))) dX12_joinFrom_251 ?_
                                refine lv_iload hx hb dX12_joinFrom_254 (lv_at hl 8 rfl) ?_
                                refine lv_iload hx hb dX12_joinFrom_256 (lv_at hl 9 rfl) ?_
                                refine z_iadd hx hb dX12_joinFrom_258 ?_
                                refine lv_aload_n hx hb dX12_joinFrom_259 rfl (lv_at hl 0 rfl) ?_
                                refine w_getr (j2 := 31) hx hb hts (z_memU u12) hown hK.1 hS f12_46 (by decide) (zkd_of (rfl : zcd wR 0 = 50) rfl) (zrf_of (rfl : zcd wR 0 = 50) rfl) (Or.inl (hts _ (z_mem k990))) dX12_joinFrom_260 ?_
                                refine lv_iload hx hb dX12_joinFrom_263 (lv_at hl 4 rfl) ?_
                                refine lv_iload hx hb dX12_joinFrom_265 (lv_at hl 9 rfl) ?_
                                refine z_iadd hx hb dX12_joinFrom_267 ?_
                                obtain ⟨o89, h⟩ := h
                                refine w_iald (n := 240) (i := (sI ((40 * a0) + x45))) hx hb hK.1 (t0 := 0) rfl hS (by decide) (zkd_of (rfl : zcd wR 31 = 81) rfl) (zln_of (rfl : zcd wR 31 = 81) rfl) rfl o89.1 o89.2 (by decide) dX12_joinFrom_268 ?_
                                obtain ⟨o90, h⟩ := h
                                refine w_iast (z := (M46 31 (sI ((40 * a0) + x45)).toNat)) (n := 240) (i := (sI (((40 * a0) + 40) + x45))) hx hb hK.1 (t0 := 0) rfl hS hS0 (by decide) (zkd_of (rfl : zcd wR 31 = 81) rfl) (zln_of (rfl : zcd wR 31 = 81) rfl) rfl o90.1 o90.2 (by decide) dX12_joinFrom_269 (fun H locs hS hS0 => ?_)
                                obtain ⟨M91, e92⟩ : ∃ M91 : zM, M91 = zup M46 31 (sI (((40 * a0) + 40) + x45)).toNat (M46 31 (sI ((40 * a0) + x45)).toNat) := ⟨_, rfl⟩
                                rw [← e92] at hS
                                have h := h M91 e92
                                refine z_iinc (lv' := [(9, .int (iI (x45 + 1))), (0, .ref (b + 0)), (1, .int (iI a0)), (2, .int (iI a1)), (3, .int (iI a2)), (4, .int (iI (40 * a0))), (5, .int (iI x2)), (6, .int (iI x13)), (7, .int (iI x28)), (8, .int (iI ((40 * a0) + 40)))]) hx hb dX12_joinFrom_270 hl (k := 9) rfl (by decide) rfl (fun ls hl => ?_)
                                refine lv_goto (tgt := 244) hx hb dX12_joinFrom_273 (by decide) ?_
                                obtain ⟨n93, h94, h⟩ := h
                                exact i53 n93 h94 (x45 + 1) M91 _ _ _ h hS hS0 (lv_sub hl [1, 2, 3, 4, 5, 6, 7, 8, 9, 0] rfl)
                          exact L51 n48 0 M14 _ _ _ h49 hS hS0 (lv_sub hl [2, 3, 4, 5, 6, 7, 8, 9, 1, 0] rfl)
                        · skip
                          have h := h.2 c44
                          refine z_iinc (lv' := [(7, .int (iI (x28 + (-1)))), (0, .ref (b + 0)), (1, .int (iI a0)), (2, .int (iI a1)), (3, .int (iI a2)), (4, .int (iI (40 * a0))), (5, .int (iI x2)), (6, .int (iI x13))]) hx hb dX12_joinFrom_228 hl (k := 7) rfl (by decide) rfl (fun ls hl => ?_)
                          refine lv_goto (tgt := 203) hx hb dX12_joinFrom_231 (by decide) ?_
                          obtain ⟨n95, h96, h⟩ := h
                          exact i35 n95 h96 (x28 + (-1)) _ _ _ h hS hS0 (lv_sub hl [1, 2, 3, 4, 5, 6, 7, 0] rfl)
                      refine w_icmp_ne (tgt := 219) hx hb rfl (sI_of (by decide)) dX12_joinFrom_212 (by decide) (fun c97 => ?_) (fun c97 => ?_)
                      · skip
                        have h := h.1 c97
                        refine z_iconst hx hb dX12_joinFrom_219 ?_
                        exact L38 0 _ _ _ h hS hS0 (lv_sub hl [0, 1, 2, 3, 4, 5, 6, 7] rfl)
                      · skip
                        have h := h.2 c97
                        refine z_iconst hx hb dX12_joinFrom_215 ?_
                        refine lv_goto (tgt := 220) hx hb dX12_joinFrom_216 (by decide) ?_
                        exact L38 1 _ _ _ h hS hS0 (lv_sub hl [0, 1, 2, 3, 4, 5, 6, 7] rfl)
                  exact L33 n30 t26 _ _ _ h31 hS hS0 (lv_sub hl [1, 2, 3, 4, 5, 6, 7, 0] rfl)
            exact L19 n16 0 M3 _ _ _ h17 hS hS0 (lv_sub hl [1, 2, 3, 4, 5, 6, 0] rfl)
          · skip
            have h := h.2 c12
            refine lv_goto (tgt := 363) hx hb dX12_joinFrom_178 (by decide) ?_
            refine z_iinc (lv' := [(5, .int (iI (x2 + 1))), (0, .ref (b + 0)), (1, .int (iI a0)), (2, .int (iI a1)), (3, .int (iI a2)), (4, .int (iI (40 * a0)))]) hx hb dX12_joinFrom_363 hl (k := 5) rfl (by decide) rfl (fun ls hl => ?_)
            refine lv_goto (tgt := 159) hx hb dX12_joinFrom_366 (by decide) ?_
            obtain ⟨n98, h99, h⟩ := h
            exact i10 n98 h99 (x2 + 1) M3 _ _ _ h hS hS0 (lv_sub hl [1, 2, 3, 4, 5, 0] rfl)
    exact L8 n5 0 M _ _ _ h6 hS hS0 (lv_sub hl [2, 3, 4, 5, 1, 0] rfl)
  · skip
    have h := h.2 c1
    refine lv_aload_n hx hb dX12_joinFrom_14 rfl (lv_at hl 1 rfl) ?_
    refine w_geti hx hb hts (z_memU u12) hown hK.1 hS f12_48 (by decide) (zkd_of (rfl : zcd wR 0 = 50) rfl) (Or.inl (hts _ (z_mem k992))) dX12_joinFrom_15 ?_
    refine z_iconst hx hb dX12_joinFrom_18 ?_
    obtain ⟨J35, B104, h⟩ := h
    have L103 : ∀ (x102 : Int) (H : Heap) (locs : List Loc) (ls : Array Slot), J35 x102 → zR D dA vwCl wR nR b M H → va_S (zA nR b) s.heap H locs → lv_has ls 10 [(0, .ref (b + 0)), (3, .int (iI a2)), (4, .int (iI (40 * a0)))] → W p l e (headSpec (.code yX12_joinFrom cX12_joinFrom 10 none :: zt) (z_rm (dd + 1))).room s m args below meth c H locs 0 0 (MQ below (va_Qv (wQv Q) (zB D dA vwCl wR nR b) (zA nR b)) args s 0 0 (zA nR b)) (F0 m 35 ls [.int (iI x102)]) := by
      intro x102 H locs ls h hS hS0 hl
      have h := B104 x102 h
      refine lv_istore (lv' := [(5, .int (iI x102)), (0, .ref (b + 0)), (3, .int (iI a2)), (4, .int (iI (40 * a0)))]) hx hb dX12_joinFrom_35 hl (by decide) rfl (fun ls hl => ?_)
      refine z_iconst hx hb dX12_joinFrom_37 ?_
      refine lv_istore (lv' := [(6, .int (iI 0)), (5, .int (iI x102)), (0, .ref (b + 0)), (3, .int (iI a2)), (4, .int (iI (40 * a0)))]) hx hb dX12_joinFrom_38 hl (by decide) rfl (fun ls hl => ?_)
      obtain ⟨I107, ⟨n108, h109⟩, h110⟩ := h
      have L111 : ∀ (n112 : Nat) (x105 x106 : Int) (H : Heap) (locs : List Loc) (ls : Array Slot), I107 n112 x105 x106 → zR D dA vwCl wR nR b M H → va_S (zA nR b) s.heap H locs → lv_has ls 10 [(0, .ref (b + 0)), (3, .int (iI a2)), (4, .int (iI (40 * a0))), (5, .int (iI x105)), (6, .int (iI x106))] → W p l e (headSpec (.code yX12_joinFrom cX12_joinFrom 10 none :: zt) (z_rm (dd + 1))).room s m args below meth c H locs 0 0 (MQ below (va_Qv (wQv Q) (zB D dA vwCl wR nR b) (zA nR b)) args s 0 0 (zA nR b)) (F0 m 40 ls []) := by
        intro n112
        induction n112 using Nat.strongRecOn with
        | ind n112 i113 =>
          intro x105 x106 H locs ls h hS hS0 hl
          have h := h110 n112 x105 x106 h
          refine lv_iload hx hb dX12_joinFrom_40 (lv_at hl 4 rfl) ?_
          refine lv_iload_n hx hb dX12_joinFrom_42 rfl (lv_at hl 1 rfl) ?_
          obtain ⟨J112, B128, h⟩ := h
          have L127 : ∀ (H : Heap) (locs : List Loc) (ls : Array Slot), J112 → zR D dA vwCl wR nR b M H → va_S (zA nR b) s.heap H locs → lv_has ls 10 [(0, .ref (b + 0)), (3, .int (iI a2)), (4, .int (iI (40 * a0))), (5, .int (iI x105))] → W p l e (headSpec (.code yX12_joinFrom cX12_joinFrom 10 none :: zt) (z_rm (dd + 1))).room s m args below meth c H locs 0 0 (MQ below (va_Qv (wQv Q) (zB D dA vwCl wR nR b) (zA nR b)) args s 0 0 (zA nR b)) (F0 m 112 ls []) := by
            intro  H locs ls h hS hS0 hl
            have h := B128 h
            refine lv_iload hx hb dX12_joinFrom_112 (lv_at hl 3 rfl) ?_
            refine w_if_ne (tgt := 118) hx hb rfl dX12_joinFrom_114 (by decide) (fun c129 => ?_) (fun c129 => ?_)
            · skip
              have h := h.1 c129
              refine lv_aload_n hx hb dX12_joinFrom_118 rfl (lv_at hl 0 rfl) ?_
              refine lv_iload_n hx hb dX12_joinFrom_119 rfl (lv_at hl 1 rfl) ?_
              refine w_puti hx hb hts (z_memU u12) tyX12 tyX12_ok nmX12 hown hK.1 hS hS0 f12_48 (by decide) (zkd_of (rfl : zcd wR 0 = 50) rfl) (Or.inl (hts _ (z_mem k992))) rfl (z := a2) (by decide +kernel) dX12_joinFrom_120 (fun H locs hS hS0 => ?_)
              obtain ⟨M130, e131⟩ : ∃ M130 : zM, M130 = zup M 0 48 a2 := ⟨_, rfl⟩
              rw [← e131] at hS
              have h := h M130 e131
              refine z_iconst hx hb dX12_joinFrom_123 ?_
              refine lv_istore (lv' := [(6, .int (iI 0)), (0, .ref (b + 0)), (3, .int (iI a2)), (4, .int (iI (40 * a0))), (5, .int (iI x105))]) hx hb dX12_joinFrom_124 hl (by decide) rfl (fun ls hl => ?_)
              obtain ⟨I134, ⟨n135, h136⟩, h137⟩ := h
              have L138 : ∀ (n139 : Nat) (x132 : Int) (M133 : zM) (H : Heap) (locs : List Loc) (ls : Array Slot), I134 n139 x132 M133 → zR D dA vwCl wR nR b M133 H → va_S (zA nR b) s.heap H locs → lv_has ls 10 [(0, .ref (b + 0)), (3, .int (iI a2)), (4, .int (iI (40 * a0))), (6, .int (iI x132))] → W p l e (headSpec (.code yX12_joinFrom cX12_joinFrom 10 none :: zt) (z_rm (dd + 1))).room s m args below meth c H locs 0 0 (MQ below (va_Qv (wQv Q) (zB D dA vwCl wR nR b) (zA nR b)) args s 0 0 (zA nR b)) (F0 m 126 ls []) := by
                intro n139
                induction n139 using Nat.strongRecOn with
                | ind n139 i140 =>
                  intro x132 M133 H locs ls h hS hS0 hl
                  have h := h137 n139 x132 M133 h
                  refine lv_iload hx hb dX12_joinFrom_126 (lv_at hl 3 rfl) ?_
                  refine lv_iload_n hx hb dX12_joinFrom_128 rfl (lv_at hl 1 rfl) ?_
                  refine w_icmp_ge (tgt := 155) hx hb rfl rfl dX12_joinFrom_129 (by decide) (fun c141 => ?_) (fun c141 => ?_)
                  · skip
                    have h := h.1 c141
                    exact w_vret hx hb hr hlocks hS hS0 h dX12_joinFrom_155
                  · skip
                    have h := h.2 c141
                    refine lv_aload_n hx hb dX12_joinFrom_132 rfl (lv_at hl 0 rfl) ?_
                    refine w_getr (j2 := 32) hx hb hts (z_memU u12) hown hK.1 hS f12_47 (by decide) (zkd_of (rfl : zcd wR 0 = 50) rfl) (zrf_of (rfl : zcd wR 0 = 50) rfl) (Or.inl (hts _ (z_mem k991))) dX12_joinFrom_133 ?_
                    refine lv_iload hx hb dX12_joinFrom_136 (lv_at hl 3 rfl) ?_
                    refine lv_aload_n hx hb dX12_joinFrom_138 rfl (lv_at hl 0 rfl) ?_
                    refine w_getr (j2 := 31) hx hb hts (z_memU u12) hown hK.1 hS f12_46 (by decide) (zkd_of (rfl : zcd wR 0 = 50) rfl) (zrf_of (rfl : zcd wR 0 = 50) rfl) (Or.inl (hts _ (z_mem k990))) dX12_joinFrom_139 ?_
                    refine lv_iload hx hb dX12_joinFrom_142 (lv_at hl 2 rfl) ?_
                    refine lv_iload hx hb dX12_joinFrom_144 (lv_at hl 3 rfl) ?_
                    refine z_iadd hx hb dX12_joinFrom_146 ?_
                    obtain ⟨o142, h⟩ := h
                    refine w_iald (n := 240) (i := (sI ((40 * a0) + x132))) hx hb hK.1 (t0 := 0) rfl hS (by decide) (zkd_of (rfl : zcd wR 31 = 81) rfl) (zln_of (rfl : zcd wR 31 = 81) rfl) rfl o142.1 o142.2 (by decide) dX12_joinFrom_147 ?_
                    obtain ⟨o143, h⟩ := h
                    refine w_iast (z := (M133 31 (sI ((40 * a0) + x132)).toNat)) (n := 40) (i := (sI x132)) hx hb hK.1 (t0 := 0) rfl hS hS0 (by decide) (zkd_of (rfl : zcd wR 32 = 82) rfl) (zln_of (rfl : zcd wR 32 = 82) rfl) rfl o143.1 o143.2 (by decide) dX12_joinFrom_148 (fun H locs hS hS0 => ?_)
                    obtain ⟨M144, e145⟩ : ∃ M144 : zM, M144 = zup M133 32 (sI x132).toNat (M133 31 (sI ((40 * a0) + x132)).toNat) := ⟨_, rfl⟩
                    rw [← e145] at hS
                    have h := h M144 e145
                    refine z_iinc (lv' := [(6, .int (iI (x132 + 1))), (0, .ref (b + 0)), (3, .int (iI a2)), (4, .int (iI (40 * a0)))]) hx hb dX12_joinFrom_149 hl (k := 3) rfl (by decide) rfl (fun ls hl => ?_)
                    refine lv_goto (tgt := 126) hx hb dX12_joinFrom_152 (by decide) ?_
                    obtain ⟨n146, h147, h⟩ := h
                    exact i140 n146 h147 (x132 + 1) M144 _ _ _ h hS hS0 (lv_sub hl [1, 2, 3, 0] rfl)
              exact L138 n135 0 M130 _ _ _ h136 hS hS0 (lv_sub hl [1, 2, 3, 0] rfl)
            · skip
              have h := h.2 c129
              exact w_vret hx hb hr hlocks hS hS0 h dX12_joinFrom_117
          refine w_icmp_ge (tgt := 112) hx hb rfl rfl dX12_joinFrom_43 (by decide) (fun c148 => ?_) (fun c148 => ?_)
          · skip
            have h := h.1 c148
            exact L127 _ _ _ h hS hS0 (lv_sub hl [0, 1, 2, 3] rfl)
          · skip
            have h := h.2 c148
            refine lv_iload hx hb dX12_joinFrom_46 (lv_at hl 3 rfl) ?_
            refine w_if_ne (tgt := 112) hx hb rfl dX12_joinFrom_48 (by decide) (fun c149 => ?_) (fun c149 => ?_)
            · skip
              have h := h.1 c149
              exact L127 _ _ _ h hS hS0 (lv_sub hl [0, 1, 2, 3] rfl)
            · skip
              have h := h.2 c149
              refine lv_iload_n hx hb dX12_joinFrom_51 rfl (lv_at hl 1 rfl) ?_
              refine lv_aload_n hx hb dX12_joinFrom_52 rfl (lv_at hl 0 rfl) ?_
              refine w_geti hx hb hts (z_memU u12) hown hK.1 hS f12_48 (by decide) (zkd_of (rfl : zcd wR 0 = 50) rfl) (Or.inl (hts _ (z_mem k992))) dX12_joinFrom_53 ?_
              refine w_icmp_ne (tgt := 112) hx hb rfl rfl dX12_joinFrom_56 (by decide) (fun c150 => ?_) (fun c150 => ?_)
              · skip
                have h := h.1 c150
                exact L127 _ _ _ h hS hS0 (lv_sub hl [0, 1, 2, 3] rfl)
              · skip
                have h := h.2 c150
                refine lv_aload_n hx hb dX12_joinFrom_59 rfl (lv_at hl 0 rfl) ?_
                refine w_getr (j2 := 31) hx hb hts (z_memU u12) hown hK.1 hS f12_46 (by decide) (zkd_of (rfl : zcd wR 0 = 50) rfl) (zrf_of (rfl : zcd wR 0 = 50) rfl) (Or.inl (hts _ (z_mem k990))) dX12_joinFrom_60 ?_
                refine lv_iload hx hb dX12_joinFrom_63 (lv_at hl 2 rfl) ?_
                refine lv_iload hx hb dX12_joinFrom_65 (lv_at hl 4 rfl) ?_
                refine z_iadd hx hb dX12_joinFrom_67 ?_
                obtain ⟨o151, h⟩ := h
                refine w_iald (n := 240) (i := (sI ((40 * a0) + x106))) hx hb hK.1 (t0 := 0) rfl hS (by decide) (zkd_of (rfl : zcd wR 31 = 81) rfl) (zln_of (rfl : zcd wR 31 = 81) rfl) rfl o151.1 o151.2 (by decide) dX12_joinFrom_68 ?_
                refine lv_aload_n hx hb dX12_joinFrom_69 rfl (lv_at hl 0 rfl) ?_
                refine w_getr (j2 := 32) hx hb hts (z_memU u12) hown hK.1 hS f12_47 (by decide) (zkd_of (rfl : zcd wR 0 = 50) rfl) (zrf_of (rfl : zcd wR 0 = 50) rfl) (Or.inl (hts _ (z_mem k991))) dX12_joinFrom_70 ?_
                refine lv_iload hx hb dX12_joinFrom_73 (lv_at hl 4 rfl) ?_
                obtain ⟨o152, h⟩ := h
                refine w_iald (n := 40) (i := (sI x106)) hx hb hK.1 (t0 := 0) rfl hS (by decide) (zkd_of (rfl : zcd wR 32 = 82) rfl) (zln_of (rfl : zcd wR 32 = 82) rfl) rfl o152.1 o152.2 (by decide) dX12_joinFrom_75 ?_
                refine w_icmp_ne (tgt := 82) hx hb rfl rfl dX12_joinFrom_76 (by decide) (fun c153 => ?_) (fun c153 => ?_)
                · skip
                  have h := h.1 c153
                  refine lv_aload_n hx hb dX12_joinFrom_82 rfl (lv_at hl 0 rfl) ?_
                  refine w_getr (j2 := 31) hx hb hts (z_memU u12) hown hK.1 hS f12_46 (by decide) (zkd_of (rfl : zcd wR 0 = 50) rfl) (zrf_of (rfl : zcd wR 0 = 50) rfl) (Or.inl (hts _ (z_mem k990))) dX12_joinFrom_83 ?_
                  refine lv_iload hx hb dX12_joinFrom_86 (lv_at hl 2 rfl) ?_
                  refine lv_iload hx hb dX12_joinFrom_88 (lv_at hl 4 rfl) ?_
                  refine z_iadd hx hb dX12_joinFrom_90 ?_
                  obtain ⟨o154, h⟩ := h
                  refine w_iald (n := 240) (i := (sI ((40 * a0) + x106))) hx hb hK.1 (t0 := 0) rfl hS (by decide) (zkd_of (rfl : zcd wR 31 = 81) rfl) (zln_of (rfl : zcd wR 31 = 81) rfl) rfl o154.1 o154.2 (by decide) dX12_joinFrom_91 ?_
                  refine lv_aload_n hx hb dX12_joinFrom_92 rfl (lv_at hl 0 rfl) ?_
                  refine w_getr (j2 := 32) hx hb hts (z_memU u12) hown hK.1 hS f12_47 (by decide) (zkd_of (rfl : zcd wR 0 = 50) rfl) (zrf_of (rfl : zcd wR 0 = 50) rfl) (Or.inl (hts _ (z_mem k991))) dX12_joinFrom_93 ?_
                  refine lv_iload hx hb dX12_joinFrom_96 (lv_at hl 4 rfl) ?_
                  obtain ⟨o155, h⟩ := h
                  refine w_iald (n := 40) (i := (sI x106)) hx hb hK.1 (t0 := 0) rfl hS (by decide) (zkd_of (rfl : zcd wR 32 = 82) rfl) (zln_of (rfl : zcd wR 32 = 82) rfl) rfl o155.1 o155.2 (by decide) dX12_joinFrom_98 ?_
                  refine w_icmp_le (tgt := 103) hx hb rfl rfl dX12_joinFrom_99 (by decide) (fun c156 => ?_) (fun c156 => ?_)
                  · skip
                    have h := h.1 c156
                    refine z_iconst hx hb dX12_joinFrom_103 ?_
                    refine lv_istore (lv' := [(5, .int (iI 1)), (0, .ref (b + 0)), (3, .int (iI a2)), (4, .int (iI (40 * a0))), (6, .int (iI x106))]) hx hb dX12_joinFrom_104 hl (by decide) rfl (fun ls hl => ?_)
                    refine z_iinc (lv' := [(6, .int (iI (x106 + 1))), (5, .int (iI 1)), (0, .ref (b + 0)), (3, .int (iI a2)), (4, .int (iI (40 * a0)))]) hx hb dX12_joinFrom_106 hl (k := 4) rfl (by decide) rfl (fun ls hl => ?_)
                    refine lv_goto (tgt := 40) hx hb dX12_joinFrom_109 (by decide) ?_
                    obtain ⟨n157, h158, h⟩ := h
                    exact i113 n157 h158 1 (x106 + 1) _ _ _ h hS hS0 (lv_sub hl [2, 3, 4, 1, 0] rfl)
                  · skip
                    have h := h.2 c156
                    exact w_vret hx hb hr hlocks hS hS0 h dX12_joinFrom_102
                · skip
                  have h := h.2 c153
                  refine lv_goto (tgt := 106) hx hb dX12_joinFrom_79 (by decide) ?_
                  refine z_iinc (lv' := [(6, .int (iI (x106 + 1))), (0, .ref (b + 0)), (3, .int (iI a2)), (4, .int (iI (40 * a0))), (5, .int (iI x105))]) hx hb dX12_joinFrom_106 hl (k := 4) rfl (by decide) rfl (fun ls hl => ?_)
                  refine lv_goto (tgt := 40) hx hb dX12_joinFrom_109 (by decide) ?_
                  obtain ⟨n159, h160, h⟩ := h
                  exact i113 n159 h160 x105 (x106 + 1) _ _ _ h hS hS0 (lv_sub hl [1, 2, 3, 4, 0] rfl)
      exact L111 n108 x102 0 _ _ _ h109 hS hS0 (lv_sub hl [2, 3, 4, 1, 0] rfl)
    obtain ⟨J30, B164, h⟩ := h
    have L163 : ∀ (H : Heap) (locs : List Loc) (ls : Array Slot), J30 → zR D dA vwCl wR nR b M H → va_S (zA nR b) s.heap H locs → lv_has ls 10 [(0, .ref (b + 0)), (3, .int (iI a2)), (4, .int (iI (40 * a0)))] → W p l e (headSpec (.code yX12_joinFrom cX12_joinFrom 10 none :: zt) (z_rm (dd + 1))).room s m args below meth c H locs 0 0 (MQ below (va_Qv (wQv Q) (zB D dA vwCl wR nR b) (zA nR b)) args s 0 0 (zA nR b)) (F0 m 30 ls []) := by
      intro  H locs ls h hS hS0 hl
      have h := B164 h
      refine z_iconst hx hb dX12_joinFrom_30 ?_
      refine lv_goto (tgt := 35) hx hb dX12_joinFrom_31 (by decide) ?_
      exact L103 1 _ _ _ h hS hS0 (lv_sub hl [0, 1, 2] rfl)
    refine w_icmp_eq (tgt := 30) hx hb rfl (sI_of (by decide)) dX12_joinFrom_19 (by decide) (fun c165 => ?_) (fun c165 => ?_)
    · skip
      have h := h.1 c165
      exact L163 _ _ _ h hS hS0 (lv_sub hl [1, 4, 0] rfl)
    · skip
      have h := h.2 c165
      refine lv_iload_n hx hb dX12_joinFrom_22 rfl (lv_at hl 4 rfl) ?_
      refine lv_aload_n hx hb dX12_joinFrom_23 rfl (lv_at hl 1 rfl) ?_
      refine w_geti hx hb hts (z_memU u12) hown hK.1 hS f12_48 (by decide) (zkd_of (rfl : zcd wR 0 = 50) rfl) (Or.inl (hts _ (z_mem k992))) dX12_joinFrom_24 ?_
      refine w_icmp_ge (tgt := 34) hx hb rfl rfl dX12_joinFrom_27 (by decide) (fun c166 => ?_) (fun c166 => ?_)
      · skip
        have h := h.1 c166
        refine z_iconst hx hb dX12_joinFrom_34 ?_
        exact L103 0 _ _ _ h hS hS0 (lv_sub hl [1, 4, 0] rfl)
      · skip
        have h := h.2 c166
        exact L163 _ _ _ h hS hS0 (lv_sub hl [1, 4, 0] rfl)

def wR_joinFrom : Nat → Int → Int → Int → zM → (zM → Prop) → Prop
  | 0 => fun _ _ _ _ _ => False
  | n + 1 => wR_joinFrom_F (wR_joinFrom n)
set_option maxHeartbeats 4000000 in
set_option maxRecDepth 100000 in
theorem cR_joinFrom (n : Nat) (l : Launch) (D : va_G) (dA : Nat → ClassId) : ∀ (b : Nat) (M : zM) (a0 : Int) (a1 : Int) (a2 : Int)  (Q : zM → Prop), wR_joinFrom n a0 a1 a2 M Q → Met l yX12_joinFrom (.code yX12_joinFrom cX12_joinFrom 10 none :: zt) (z_rm (1 * n + 2)) (va_Pc [.ref (b + 0), .int (iI a0), .int (iI a1), .int (iI a2)] (wPre D dA vwCl (z_tys dA) wR nR b M)) (va_Qv (wQv Q) (zB D dA vwCl wR nR b) (zA nR b)) 0 0 (zA nR b) := by
  induction n with
  | zero => intro b M a0 a1 a2  Q h; exact h.elim
  | succ n ih =>
    intro b M a0 a1 a2  Q h
    rw [show 1 * (n + 1) + 2 = 1 * n + 2 + 0 + 1 from by omega]
    exact cR_joinFrom_F (1 * n + 2) _ l D dA (by omega) ih b M a0 a1 a2  Q h
