/-! the W layer, 19 -/
theorem dX12_costOf_0 : decode cX12_costOf 0 = .ok (.iconst 5, 1) := by decide +kernel
theorem dX12_costOf_1 : decode cX12_costOf 1 = .ok (.iload_n 2, 1) := by decide +kernel
theorem dX12_costOf_10 : decode cX12_costOf 10 = .ok (.isub, 1) := by decide +kernel
theorem dX12_costOf_11 : decode cX12_costOf 11 = .ok (.invokestatic 198, 3) := by decide +kernel
theorem dX12_costOf_14 : decode cX12_costOf 14 = .ok (.iadd, 1) := by decide +kernel
theorem dX12_costOf_15 : decode cX12_costOf 15 = .ok (.ireturn, 1) := by decide +kernel
theorem dX12_costOf_2 : decode cX12_costOf 2 = .ok (.imul, 1) := by decide +kernel
theorem dX12_costOf_3 : decode cX12_costOf 3 = .ok (.iload_n 3, 1) := by decide +kernel
theorem dX12_costOf_4 : decode cX12_costOf 4 = .ok (.aload_n 0, 1) := by decide +kernel
theorem dX12_costOf_5 : decode cX12_costOf 5 = .ok (.getfield 26, 3) := by decide +kernel
theorem dX12_costOf_8 : decode cX12_costOf 8 = .ok (.iload_n 1, 1) := by decide +kernel
theorem dX12_costOf_9 : decode cX12_costOf 9 = .ok (.iaload, 1) := by decide +kernel
theorem dX12_findPlan_0 : decode cX12_findPlan 0 = .ok (.iconst 1, 1) := by decide +kernel
theorem dX12_findPlan_1 : decode cX12_findPlan 1 = .ok (.aload_n 0, 1) := by decide +kernel
theorem dX12_findPlan_10 : decode cX12_findPlan 10 = .ok (.iload_n 1, 1) := by decide +kernel
theorem dX12_findPlan_100 : decode cX12_findPlan 100 = .ok (.aload_n 0, 1) := by decide +kernel
theorem dX12_findPlan_101 : decode cX12_findPlan 101 = .ok (.getfield 20, 3) := by decide +kernel
theorem dX12_findPlan_104 : decode cX12_findPlan 104 = .ok (.iload_n 2, 1) := by decide +kernel
theorem dX12_findPlan_105 : decode cX12_findPlan 105 = .ok (.iaload, 1) := by decide +kernel
theorem dX12_findPlan_106 : decode cX12_findPlan 106 = .ok (.iload_n 3, 1) := by decide +kernel
theorem dX12_findPlan_107 : decode cX12_findPlan 107 = .ok (.isub, 1) := by decide +kernel
theorem dX12_findPlan_108 : decode cX12_findPlan 108 = .ok (.if_icmp .ge 112, 3) := by decide +kernel
theorem dX12_findPlan_11 : decode cX12_findPlan 11 = .ok (.if_icmp .ge 34, 3) := by decide +kernel
theorem dX12_findPlan_111 : decode cX12_findPlan 111 = .ok (.aload_n 0, 1) := by decide +kernel
theorem dX12_findPlan_112 : decode cX12_findPlan 112 = .ok (.iload_n 2, 1) := by decide +kernel
theorem dX12_findPlan_113 : decode cX12_findPlan 113 = .ok (.iload_n 3, 1) := by decide +kernel
theorem dX12_findPlan_114 : decode cX12_findPlan 114 = .ok (.iload 4, 2) := by decide +kernel
theorem dX12_findPlan_116 : decode cX12_findPlan 116 = .ok (.invokevirtual 263, 3) := by decide +kernel
theorem dX12_findPlan_119 : decode cX12_findPlan 119 = .ok (.istore 5, 2) := by decide +kernel
theorem dX12_findPlan_121 : decode cX12_findPlan 121 = .ok (.aload_n 0, 1) := by decide +kernel
theorem dX12_findPlan_122 : decode cX12_findPlan 122 = .ok (.getfield 103, 3) := by decide +kernel
theorem dX12_findPlan_125 : decode cX12_findPlan 125 = .ok (.bipush 24, 2) := by decide +kernel
theorem dX12_findPlan_127 : decode cX12_findPlan 127 = .ok (.bipush 24, 2) := by decide +kernel
theorem dX12_findPlan_129 : decode cX12_findPlan 129 = .ok (.iload_n 2, 1) := by decide +kernel
theorem dX12_findPlan_130 : decode cX12_findPlan 130 = .ok (.imul, 1) := by decide +kernel
theorem dX12_findPlan_131 : decode cX12_findPlan 131 = .ok (.iload_n 3, 1) := by decide +kernel
theorem dX12_findPlan_132 : decode cX12_findPlan 132 = .ok (.iadd, 1) := by decide +kernel
theorem dX12_findPlan_133 : decode cX12_findPlan 133 = .ok (.imul, 1) := by decide +kernel
theorem dX12_findPlan_134 : decode cX12_findPlan 134 = .ok (.iload 4, 2) := by decide +kernel
theorem dX12_findPlan_136 : decode cX12_findPlan 136 = .ok (.iadd, 1) := by decide +kernel
theorem dX12_findPlan_137 : decode cX12_findPlan 137 = .ok (.iload 5, 2) := by decide +kernel
theorem dX12_findPlan_139 : decode cX12_findPlan 139 = .ok (.iastore, 1) := by decide +kernel
theorem dX12_findPlan_14 : decode cX12_findPlan 14 = .ok (.aload_n 0, 1) := by decide +kernel
theorem dX12_findPlan_140 : decode cX12_findPlan 140 = .ok (.iconst 0, 1) := by decide +kernel
theorem dX12_findPlan_141 : decode cX12_findPlan 141 = .ok (.istore 6, 2) := by decide +kernel
theorem dX12_findPlan_143 : decode cX12_findPlan 143 = .ok (.iload 6, 2) := by decide +kernel
theorem dX12_findPlan_145 : decode cX12_findPlan 145 = .ok (.iload_n 1, 1) := by decide +kernel
theorem dX12_findPlan_146 : decode cX12_findPlan 146 = .ok (.if_icmp .ge 68, 3) := by decide +kernel
theorem dX12_findPlan_149 : decode cX12_findPlan 149 = .ok (.aload_n 0, 1) := by decide +kernel
theorem dX12_findPlan_15 : decode cX12_findPlan 15 = .ok (.getfield 100, 3) := by decide +kernel
theorem dX12_findPlan_150 : decode cX12_findPlan 150 = .ok (.iload_n 2, 1) := by decide +kernel
theorem dX12_findPlan_151 : decode cX12_findPlan 151 = .ok (.iload_n 3, 1) := by decide +kernel
theorem dX12_findPlan_152 : decode cX12_findPlan 152 = .ok (.iload 4, 2) := by decide +kernel
theorem dX12_findPlan_154 : decode cX12_findPlan 154 = .ok (.invokevirtual 268, 3) := by decide +kernel
theorem dX12_findPlan_157 : decode cX12_findPlan 157 = .ok (.aload_n 0, 1) := by decide +kernel
theorem dX12_findPlan_158 : decode cX12_findPlan 158 = .ok (.getfield 100, 3) := by decide +kernel
theorem dX12_findPlan_161 : decode cX12_findPlan 161 = .ok (.bipush 64, 2) := by decide +kernel
theorem dX12_findPlan_163 : decode cX12_findPlan 163 = .ok (.iload_n 2, 1) := by decide +kernel
theorem dX12_findPlan_164 : decode cX12_findPlan 164 = .ok (.iconst 1, 1) := by decide +kernel
theorem dX12_findPlan_165 : decode cX12_findPlan 165 = .ok (.iadd, 1) := by decide +kernel
theorem dX12_findPlan_166 : decode cX12_findPlan 166 = .ok (.imul, 1) := by decide +kernel
theorem dX12_findPlan_167 : decode cX12_findPlan 167 = .ok (.iload 6, 2) := by decide +kernel
theorem dX12_findPlan_169 : decode cX12_findPlan 169 = .ok (.iload 5, 2) := by decide +kernel
theorem dX12_findPlan_171 : decode cX12_findPlan 171 = .ok (.iconst (-1), 1) := by decide +kernel
theorem dX12_findPlan_172 : decode cX12_findPlan 172 = .ok (.ixor, 1) := by decide +kernel
theorem dX12_findPlan_173 : decode cX12_findPlan 173 = .ok (.iand, 1) := by decide +kernel
theorem dX12_findPlan_174 : decode cX12_findPlan 174 = .ok (.iadd, 1) := by decide +kernel
theorem dX12_findPlan_175 : decode cX12_findPlan 175 = .ok (.iaload, 1) := by decide +kernel
theorem dX12_findPlan_176 : decode cX12_findPlan 176 = .ok (.iadd, 1) := by decide +kernel
theorem dX12_findPlan_177 : decode cX12_findPlan 177 = .ok (.istore 7, 2) := by decide +kernel
theorem dX12_findPlan_179 : decode cX12_findPlan 179 = .ok (.aload_n 0, 1) := by decide +kernel
theorem dX12_findPlan_18 : decode cX12_findPlan 18 = .ok (.bipush 64, 2) := by decide +kernel
theorem dX12_findPlan_180 : decode cX12_findPlan 180 = .ok (.getfield 100, 3) := by decide +kernel
theorem dX12_findPlan_183 : decode cX12_findPlan 183 = .ok (.bipush 64, 2) := by decide +kernel
theorem dX12_findPlan_185 : decode cX12_findPlan 185 = .ok (.iload_n 2, 1) := by decide +kernel
theorem dX12_findPlan_186 : decode cX12_findPlan 186 = .ok (.imul, 1) := by decide +kernel
theorem dX12_findPlan_187 : decode cX12_findPlan 187 = .ok (.iload 6, 2) := by decide +kernel
theorem dX12_findPlan_189 : decode cX12_findPlan 189 = .ok (.iadd, 1) := by decide +kernel
theorem dX12_findPlan_190 : decode cX12_findPlan 190 = .ok (.aload_n 0, 1) := by decide +kernel
theorem dX12_findPlan_191 : decode cX12_findPlan 191 = .ok (.getfield 100, 3) := by decide +kernel
theorem dX12_findPlan_194 : decode cX12_findPlan 194 = .ok (.bipush 64, 2) := by decide +kernel
theorem dX12_findPlan_196 : decode cX12_findPlan 196 = .ok (.iload_n 2, 1) := by decide +kernel
theorem dX12_findPlan_197 : decode cX12_findPlan 197 = .ok (.imul, 1) := by decide +kernel
theorem dX12_findPlan_198 : decode cX12_findPlan 198 = .ok (.iload 6, 2) := by decide +kernel
theorem dX12_findPlan_2 : decode cX12_findPlan 2 = .ok (.getfield 176, 3) := by decide +kernel
theorem dX12_findPlan_20 : decode cX12_findPlan 20 = .ok (.aload_n 0, 1) := by decide +kernel
theorem dX12_findPlan_200 : decode cX12_findPlan 200 = .ok (.iadd, 1) := by decide +kernel
theorem dX12_findPlan_201 : decode cX12_findPlan 201 = .ok (.iaload, 1) := by decide +kernel
theorem dX12_findPlan_202 : decode cX12_findPlan 202 = .ok (.iload 7, 2) := by decide +kernel
theorem dX12_findPlan_204 : decode cX12_findPlan 204 = .ok (.invokestatic 271, 3) := by decide +kernel
theorem dX12_findPlan_207 : decode cX12_findPlan 207 = .ok (.iastore, 1) := by decide +kernel
theorem dX12_findPlan_208 : decode cX12_findPlan 208 = .ok (.iinc 6 1, 3) := by decide +kernel
theorem dX12_findPlan_21 : decode cX12_findPlan 21 = .ok (.getfield 121, 3) := by decide +kernel
theorem dX12_findPlan_211 : decode cX12_findPlan 211 = .ok (.goto (-68), 3) := by decide +kernel
theorem dX12_findPlan_214 : decode cX12_findPlan 214 = .ok (.iinc 4 1, 3) := by decide +kernel
theorem dX12_findPlan_217 : decode cX12_findPlan 217 = .ok (.goto (-119), 3) := by decide +kernel
theorem dX12_findPlan_220 : decode cX12_findPlan 220 = .ok (.iinc 3 1, 3) := by decide +kernel
theorem dX12_findPlan_223 : decode cX12_findPlan 223 = .ok (.goto (-138), 3) := by decide +kernel
theorem dX12_findPlan_226 : decode cX12_findPlan 226 = .ok (.iinc 2 (-1), 3) := by decide +kernel
theorem dX12_findPlan_229 : decode cX12_findPlan 229 = .ok (.goto (-177), 3) := by decide +kernel
theorem dX12_findPlan_232 : decode cX12_findPlan 232 = .ok (.aload_n 0, 1) := by decide +kernel
theorem dX12_findPlan_233 : decode cX12_findPlan 233 = .ok (.getfield 100, 3) := by decide +kernel
theorem dX12_findPlan_236 : decode cX12_findPlan 236 = .ok (.iload_n 1, 1) := by decide +kernel
theorem dX12_findPlan_237 : decode cX12_findPlan 237 = .ok (.iconst 1, 1) := by decide +kernel
theorem dX12_findPlan_238 : decode cX12_findPlan 238 = .ok (.isub, 1) := by decide +kernel
theorem dX12_findPlan_239 : decode cX12_findPlan 239 = .ok (.iaload, 1) := by decide +kernel
theorem dX12_findPlan_24 : decode cX12_findPlan 24 = .ok (.imul, 1) := by decide +kernel
theorem dX12_findPlan_240 : decode cX12_findPlan 240 = .ok (.istore_n 2, 1) := by decide +kernel
theorem dX12_findPlan_241 : decode cX12_findPlan 241 = .ok (.iload_n 2, 1) := by decide +kernel
theorem dX12_findPlan_242 : decode cX12_findPlan 242 = .ok (.ldc_w 267, 3) := by decide +kernel
theorem dX12_findPlan_245 : decode cX12_findPlan 245 = .ok (.if_icmp .lt 5, 3) := by decide +kernel
theorem dX12_findPlan_248 : decode cX12_findPlan 248 = .ok (.iconst (-1), 1) := by decide +kernel
theorem dX12_findPlan_249 : decode cX12_findPlan 249 = .ok (.ireturn, 1) := by decide +kernel
theorem dX12_findPlan_25 : decode cX12_findPlan 25 = .ok (.iload_n 2, 1) := by decide +kernel
theorem dX12_findPlan_250 : decode cX12_findPlan 250 = .ok (.iload_n 1, 1) := by decide +kernel
theorem dX12_findPlan_251 : decode cX12_findPlan 251 = .ok (.iconst 1, 1) := by decide +kernel
theorem dX12_findPlan_252 : decode cX12_findPlan 252 = .ok (.isub, 1) := by decide +kernel
theorem dX12_findPlan_253 : decode cX12_findPlan 253 = .ok (.istore_n 3, 1) := by decide +kernel
theorem dX12_findPlan_254 : decode cX12_findPlan 254 = .ok (.iconst 0, 1) := by decide +kernel
theorem dX12_findPlan_255 : decode cX12_findPlan 255 = .ok (.istore 4, 2) := by decide +kernel
theorem dX12_findPlan_257 : decode cX12_findPlan 257 = .ok (.iload 4, 2) := by decide +kernel
theorem dX12_findPlan_259 : decode cX12_findPlan 259 = .ok (.aload_n 0, 1) := by decide +kernel
theorem dX12_findPlan_26 : decode cX12_findPlan 26 = .ok (.iadd, 1) := by decide +kernel
theorem dX12_findPlan_260 : decode cX12_findPlan 260 = .ok (.getfield 121, 3) := by decide +kernel
theorem dX12_findPlan_263 : decode cX12_findPlan 263 = .ok (.if_icmp .ge 166, 3) := by decide +kernel
theorem dX12_findPlan_266 : decode cX12_findPlan 266 = .ok (.iconst 0, 1) := by decide +kernel
theorem dX12_findPlan_267 : decode cX12_findPlan 267 = .ok (.istore 5, 2) := by decide +kernel
theorem dX12_findPlan_269 : decode cX12_findPlan 269 = .ok (.iconst 0, 1) := by decide +kernel
theorem dX12_findPlan_27 : decode cX12_findPlan 27 = .ok (.iload_n 2, 1) := by decide +kernel
theorem dX12_findPlan_270 : decode cX12_findPlan 270 = .ok (.istore 6, 2) := by decide +kernel
theorem dX12_findPlan_272 : decode cX12_findPlan 272 = .ok (.iload 6, 2) := by decide +kernel
theorem dX12_findPlan_274 : decode cX12_findPlan 274 = .ok (.aload_n 0, 1) := by decide +kernel
theorem dX12_findPlan_275 : decode cX12_findPlan 275 = .ok (.getfield 20, 3) := by decide +kernel
theorem dX12_findPlan_278 : decode cX12_findPlan 278 = .ok (.iload 4, 2) := by decide +kernel
theorem dX12_findPlan_28 : decode cX12_findPlan 28 = .ok (.ifCond .ne 7, 3) := by decide +kernel
theorem dX12_findPlan_280 : decode cX12_findPlan 280 = .ok (.iaload, 1) := by decide +kernel
theorem dX12_findPlan_281 : decode cX12_findPlan 281 = .ok (.if_icmp .ge 142, 3) := by decide +kernel
theorem dX12_findPlan_284 : decode cX12_findPlan 284 = .ok (.iload 5, 2) := by decide +kernel
theorem dX12_findPlan_286 : decode cX12_findPlan 286 = .ok (.ifCond .ne 137, 3) := by decide +kernel
theorem dX12_findPlan_289 : decode cX12_findPlan 289 = .ok (.iconst 0, 1) := by decide +kernel
theorem dX12_findPlan_290 : decode cX12_findPlan 290 = .ok (.istore 7, 2) := by decide +kernel
theorem dX12_findPlan_292 : decode cX12_findPlan 292 = .ok (.iload 7, 2) := by decide +kernel
theorem dX12_findPlan_294 : decode cX12_findPlan 294 = .ok (.aload_n 0, 1) := by decide +kernel
theorem dX12_findPlan_295 : decode cX12_findPlan 295 = .ok (.getfield 20, 3) := by decide +kernel
theorem dX12_findPlan_298 : decode cX12_findPlan 298 = .ok (.iload 4, 2) := by decide +kernel
theorem dX12_findPlan_300 : decode cX12_findPlan 300 = .ok (.iaload, 1) := by decide +kernel
theorem dX12_findPlan_301 : decode cX12_findPlan 301 = .ok (.iload 6, 2) := by decide +kernel
theorem dX12_findPlan_303 : decode cX12_findPlan 303 = .ok (.isub, 1) := by decide +kernel
theorem dX12_findPlan_304 : decode cX12_findPlan 304 = .ok (.if_icmp .ge 113, 3) := by decide +kernel
theorem dX12_findPlan_307 : decode cX12_findPlan 307 = .ok (.iload 5, 2) := by decide +kernel
theorem dX12_findPlan_309 : decode cX12_findPlan 309 = .ok (.ifCond .ne 108, 3) := by decide +kernel
theorem dX12_findPlan_31 : decode cX12_findPlan 31 = .ok (.iconst 0, 1) := by decide +kernel
theorem dX12_findPlan_312 : decode cX12_findPlan 312 = .ok (.iload_n 3, 1) := by decide +kernel
theorem dX12_findPlan_313 : decode cX12_findPlan 313 = .ok (.aload_n 0, 1) := by decide +kernel
theorem dX12_findPlan_314 : decode cX12_findPlan 314 = .ok (.getfield 103, 3) := by decide +kernel
theorem dX12_findPlan_317 : decode cX12_findPlan 317 = .ok (.bipush 24, 2) := by decide +kernel
theorem dX12_findPlan_319 : decode cX12_findPlan 319 = .ok (.bipush 24, 2) := by decide +kernel
theorem dX12_findPlan_32 : decode cX12_findPlan 32 = .ok (.goto 6, 3) := by decide +kernel
theorem dX12_findPlan_321 : decode cX12_findPlan 321 = .ok (.iload 4, 2) := by decide +kernel
theorem dX12_findPlan_323 : decode cX12_findPlan 323 = .ok (.imul, 1) := by decide +kernel
theorem dX12_findPlan_324 : decode cX12_findPlan 324 = .ok (.iload 6, 2) := by decide +kernel
theorem dX12_findPlan_326 : decode cX12_findPlan 326 = .ok (.iadd, 1) := by decide +kernel
theorem dX12_findPlan_327 : decode cX12_findPlan 327 = .ok (.imul, 1) := by decide +kernel
theorem dX12_findPlan_328 : decode cX12_findPlan 328 = .ok (.iload 7, 2) := by decide +kernel
theorem dX12_findPlan_330 : decode cX12_findPlan 330 = .ok (.iadd, 1) := by decide +kernel
theorem dX12_findPlan_331 : decode cX12_findPlan 331 = .ok (.iaload, 1) := by decide +kernel
theorem dX12_findPlan_332 : decode cX12_findPlan 332 = .ok (.iconst (-1), 1) := by decide +kernel
theorem dX12_findPlan_333 : decode cX12_findPlan 333 = .ok (.ixor, 1) := by decide +kernel
theorem dX12_findPlan_334 : decode cX12_findPlan 334 = .ok (.iand, 1) := by decide +kernel
theorem dX12_findPlan_335 : decode cX12_findPlan 335 = .ok (.istore 8, 2) := by decide +kernel
theorem dX12_findPlan_337 : decode cX12_findPlan 337 = .ok (.aload_n 0, 1) := by decide +kernel
theorem dX12_findPlan_338 : decode cX12_findPlan 338 = .ok (.iload 4, 2) := by decide +kernel
theorem dX12_findPlan_340 : decode cX12_findPlan 340 = .ok (.iload 6, 2) := by decide +kernel
theorem dX12_findPlan_342 : decode cX12_findPlan 342 = .ok (.iload 7, 2) := by decide +kernel
theorem dX12_findPlan_344 : decode cX12_findPlan 344 = .ok (.invokevirtual 268, 3) := by decide +kernel
theorem dX12_findPlan_347 : decode cX12_findPlan 347 = .ok (.aload_n 0, 1) := by decide +kernel
theorem dX12_findPlan_348 : decode cX12_findPlan 348 = .ok (.getfield 100, 3) := by decide +kernel
theorem dX12_findPlan_35 : decode cX12_findPlan 35 = .ok (.ldc_w 267, 3) := by decide +kernel
theorem dX12_findPlan_351 : decode cX12_findPlan 351 = .ok (.bipush 64, 2) := by decide +kernel
theorem dX12_findPlan_353 : decode cX12_findPlan 353 = .ok (.iload 4, 2) := by decide +kernel
theorem dX12_findPlan_355 : decode cX12_findPlan 355 = .ok (.iconst 1, 1) := by decide +kernel
theorem dX12_findPlan_356 : decode cX12_findPlan 356 = .ok (.iadd, 1) := by decide +kernel
theorem dX12_findPlan_357 : decode cX12_findPlan 357 = .ok (.imul, 1) := by decide +kernel
theorem dX12_findPlan_358 : decode cX12_findPlan 358 = .ok (.iload 8, 2) := by decide +kernel
theorem dX12_findPlan_360 : decode cX12_findPlan 360 = .ok (.iadd, 1) := by decide +kernel
theorem dX12_findPlan_361 : decode cX12_findPlan 361 = .ok (.iaload, 1) := by decide +kernel
theorem dX12_findPlan_362 : decode cX12_findPlan 362 = .ok (.iadd, 1) := by decide +kernel
theorem dX12_findPlan_363 : decode cX12_findPlan 363 = .ok (.aload_n 0, 1) := by decide +kernel
theorem dX12_findPlan_364 : decode cX12_findPlan 364 = .ok (.getfield 100, 3) := by decide +kernel
theorem dX12_findPlan_367 : decode cX12_findPlan 367 = .ok (.bipush 64, 2) := by decide +kernel
theorem dX12_findPlan_369 : decode cX12_findPlan 369 = .ok (.iload 4, 2) := by decide +kernel
theorem dX12_findPlan_371 : decode cX12_findPlan 371 = .ok (.imul, 1) := by decide +kernel
theorem dX12_findPlan_372 : decode cX12_findPlan 372 = .ok (.iload_n 3, 1) := by decide +kernel
theorem dX12_findPlan_373 : decode cX12_findPlan 373 = .ok (.iadd, 1) := by decide +kernel
theorem dX12_findPlan_374 : decode cX12_findPlan 374 = .ok (.iaload, 1) := by decide +kernel
theorem dX12_findPlan_375 : decode cX12_findPlan 375 = .ok (.if_icmp .eq 6, 3) := by decide +kernel
theorem dX12_findPlan_378 : decode cX12_findPlan 378 = .ok (.goto 33, 3) := by decide +kernel
theorem dX12_findPlan_38 : decode cX12_findPlan 38 = .ok (.iastore, 1) := by decide +kernel
theorem dX12_findPlan_381 : decode cX12_findPlan 381 = .ok (.aload_n 0, 1) := by decide +kernel
theorem dX12_findPlan_382 : decode cX12_findPlan 382 = .ok (.getfield 81, 3) := by decide +kernel
theorem dX12_findPlan_385 : decode cX12_findPlan 385 = .ok (.iconst 2, 1) := by decide +kernel
theorem dX12_findPlan_386 : decode cX12_findPlan 386 = .ok (.iload 4, 2) := by decide +kernel
theorem dX12_findPlan_388 : decode cX12_findPlan 388 = .ok (.imul, 1) := by decide +kernel
theorem dX12_findPlan_389 : decode cX12_findPlan 389 = .ok (.iload 6, 2) := by decide +kernel
theorem dX12_findPlan_39 : decode cX12_findPlan 39 = .ok (.iinc 2 1, 3) := by decide +kernel
theorem dX12_findPlan_391 : decode cX12_findPlan 391 = .ok (.iastore, 1) := by decide +kernel
theorem dX12_findPlan_392 : decode cX12_findPlan 392 = .ok (.aload_n 0, 1) := by decide +kernel
theorem dX12_findPlan_393 : decode cX12_findPlan 393 = .ok (.getfield 81, 3) := by decide +kernel
theorem dX12_findPlan_396 : decode cX12_findPlan 396 = .ok (.iconst 2, 1) := by decide +kernel
theorem dX12_findPlan_397 : decode cX12_findPlan 397 = .ok (.iload 4, 2) := by decide +kernel
theorem dX12_findPlan_399 : decode cX12_findPlan 399 = .ok (.imul, 1) := by decide +kernel
theorem dX12_findPlan_400 : decode cX12_findPlan 400 = .ok (.iconst 1, 1) := by decide +kernel
theorem dX12_findPlan_401 : decode cX12_findPlan 401 = .ok (.iadd, 1) := by decide +kernel
theorem dX12_findPlan_402 : decode cX12_findPlan 402 = .ok (.iload 7, 2) := by decide +kernel
theorem dX12_findPlan_404 : decode cX12_findPlan 404 = .ok (.iastore, 1) := by decide +kernel
theorem dX12_findPlan_405 : decode cX12_findPlan 405 = .ok (.iload 8, 2) := by decide +kernel
theorem dX12_findPlan_407 : decode cX12_findPlan 407 = .ok (.istore_n 3, 1) := by decide +kernel
theorem dX12_findPlan_408 : decode cX12_findPlan 408 = .ok (.iconst 1, 1) := by decide +kernel
theorem dX12_findPlan_409 : decode cX12_findPlan 409 = .ok (.istore 5, 2) := by decide +kernel
theorem dX12_findPlan_411 : decode cX12_findPlan 411 = .ok (.iinc 7 1, 3) := by decide +kernel
theorem dX12_findPlan_414 : decode cX12_findPlan 414 = .ok (.goto (-122), 3) := by decide +kernel
theorem dX12_findPlan_417 : decode cX12_findPlan 417 = .ok (.iinc 6 1, 3) := by decide +kernel
theorem dX12_findPlan_42 : decode cX12_findPlan 42 = .ok (.goto (-33), 3) := by decide +kernel
theorem dX12_findPlan_420 : decode cX12_findPlan 420 = .ok (.goto (-148), 3) := by decide +kernel
theorem dX12_findPlan_423 : decode cX12_findPlan 423 = .ok (.iinc 4 1, 3) := by decide +kernel
theorem dX12_findPlan_426 : decode cX12_findPlan 426 = .ok (.goto (-169), 3) := by decide +kernel
theorem dX12_findPlan_429 : decode cX12_findPlan 429 = .ok (.aload_n 0, 1) := by decide +kernel
theorem dX12_findPlan_430 : decode cX12_findPlan 430 = .ok (.iconst 2, 1) := by decide +kernel
theorem dX12_findPlan_431 : decode cX12_findPlan 431 = .ok (.aload_n 0, 1) := by decide +kernel
theorem dX12_findPlan_432 : decode cX12_findPlan 432 = .ok (.getfield 121, 3) := by decide +kernel
theorem dX12_findPlan_435 : decode cX12_findPlan 435 = .ok (.imul, 1) := by decide +kernel
theorem dX12_findPlan_436 : decode cX12_findPlan 436 = .ok (.putfield 188, 3) := by decide +kernel
theorem dX12_findPlan_439 : decode cX12_findPlan 439 = .ok (.iload_n 2, 1) := by decide +kernel
theorem dX12_findPlan_440 : decode cX12_findPlan 440 = .ok (.ireturn, 1) := by decide +kernel
theorem dX12_findPlan_45 : decode cX12_findPlan 45 = .ok (.aload_n 0, 1) := by decide +kernel
theorem dX12_findPlan_46 : decode cX12_findPlan 46 = .ok (.getfield 121, 3) := by decide +kernel
theorem dX12_findPlan_49 : decode cX12_findPlan 49 = .ok (.iconst 1, 1) := by decide +kernel
theorem dX12_findPlan_5 : decode cX12_findPlan 5 = .ok (.ishl, 1) := by decide +kernel
theorem dX12_findPlan_50 : decode cX12_findPlan 50 = .ok (.isub, 1) := by decide +kernel
theorem dX12_findPlan_51 : decode cX12_findPlan 51 = .ok (.istore_n 2, 1) := by decide +kernel
theorem dX12_findPlan_52 : decode cX12_findPlan 52 = .ok (.iload_n 2, 1) := by decide +kernel
theorem dX12_findPlan_53 : decode cX12_findPlan 53 = .ok (.ifCond .lt 179, 3) := by decide +kernel
theorem dX12_findPlan_56 : decode cX12_findPlan 56 = .ok (.iconst 0, 1) := by decide +kernel
theorem dX12_findPlan_57 : decode cX12_findPlan 57 = .ok (.istore_n 3, 1) := by decide +kernel
theorem dX12_findPlan_58 : decode cX12_findPlan 58 = .ok (.iload_n 3, 1) := by decide +kernel
theorem dX12_findPlan_59 : decode cX12_findPlan 59 = .ok (.iload_n 1, 1) := by decide +kernel
theorem dX12_findPlan_6 : decode cX12_findPlan 6 = .ok (.istore_n 1, 1) := by decide +kernel
theorem dX12_findPlan_60 : decode cX12_findPlan 60 = .ok (.if_icmp .ge 23, 3) := by decide +kernel
theorem dX12_findPlan_63 : decode cX12_findPlan 63 = .ok (.aload_n 0, 1) := by decide +kernel
theorem dX12_findPlan_64 : decode cX12_findPlan 64 = .ok (.getfield 100, 3) := by decide +kernel
theorem dX12_findPlan_67 : decode cX12_findPlan 67 = .ok (.bipush 64, 2) := by decide +kernel
theorem dX12_findPlan_69 : decode cX12_findPlan 69 = .ok (.iload_n 2, 1) := by decide +kernel
theorem dX12_findPlan_7 : decode cX12_findPlan 7 = .ok (.iconst 0, 1) := by decide +kernel
theorem dX12_findPlan_70 : decode cX12_findPlan 70 = .ok (.imul, 1) := by decide +kernel
theorem dX12_findPlan_71 : decode cX12_findPlan 71 = .ok (.iload_n 3, 1) := by decide +kernel
theorem dX12_findPlan_72 : decode cX12_findPlan 72 = .ok (.iadd, 1) := by decide +kernel
theorem dX12_findPlan_73 : decode cX12_findPlan 73 = .ok (.ldc_w 267, 3) := by decide +kernel
theorem dX12_findPlan_76 : decode cX12_findPlan 76 = .ok (.iastore, 1) := by decide +kernel
theorem dX12_findPlan_77 : decode cX12_findPlan 77 = .ok (.iinc 3 1, 3) := by decide +kernel
theorem dX12_findPlan_8 : decode cX12_findPlan 8 = .ok (.istore_n 2, 1) := by decide +kernel
theorem dX12_findPlan_80 : decode cX12_findPlan 80 = .ok (.goto (-22), 3) := by decide +kernel
theorem dX12_findPlan_83 : decode cX12_findPlan 83 = .ok (.iconst 0, 1) := by decide +kernel
theorem dX12_findPlan_84 : decode cX12_findPlan 84 = .ok (.istore_n 3, 1) := by decide +kernel
theorem dX12_findPlan_85 : decode cX12_findPlan 85 = .ok (.iload_n 3, 1) := by decide +kernel
theorem dX12_findPlan_86 : decode cX12_findPlan 86 = .ok (.aload_n 0, 1) := by decide +kernel
theorem dX12_findPlan_87 : decode cX12_findPlan 87 = .ok (.getfield 20, 3) := by decide +kernel
theorem dX12_findPlan_9 : decode cX12_findPlan 9 = .ok (.iload_n 2, 1) := by decide +kernel
theorem dX12_findPlan_90 : decode cX12_findPlan 90 = .ok (.iload_n 2, 1) := by decide +kernel
theorem dX12_findPlan_91 : decode cX12_findPlan 91 = .ok (.iaload, 1) := by decide +kernel
theorem dX12_findPlan_92 : decode cX12_findPlan 92 = .ok (.if_icmp .ge 134, 3) := by decide +kernel
theorem dX12_findPlan_95 : decode cX12_findPlan 95 = .ok (.iconst 0, 1) := by decide +kernel
theorem dX12_findPlan_96 : decode cX12_findPlan 96 = .ok (.istore 4, 2) := by decide +kernel
theorem dX12_findPlan_98 : decode cX12_findPlan 98 = .ok (.iload 4, 2) := by decide +kernel
theorem dX12_kept_0 : decode cX12_kept 0 = .ok (.aload_n 0, 1) := by decide +kernel
theorem dX12_kept_1 : decode cX12_kept 1 = .ok (.iconst 0, 1) := by decide +kernel
theorem dX12_kept_10 : decode cX12_kept 10 = .ok (.aload_n 0, 1) := by decide +kernel
theorem dX12_kept_11 : decode cX12_kept 11 = .ok (.getfield 121, 3) := by decide +kernel
theorem dX12_kept_14 : decode cX12_kept 14 = .ok (.if_icmp .ge 24, 3) := by decide +kernel
theorem dX12_kept_17 : decode cX12_kept 17 = .ok (.iload_n 1, 1) := by decide +kernel
theorem dX12_kept_18 : decode cX12_kept 18 = .ok (.aload_n 0, 1) := by decide +kernel
theorem dX12_kept_19 : decode cX12_kept 19 = .ok (.iload_n 2, 1) := by decide +kernel
theorem dX12_kept_2 : decode cX12_kept 2 = .ok (.putfield 118, 3) := by decide +kernel
theorem dX12_kept_20 : decode cX12_kept 20 = .ok (.iconst 0, 1) := by decide +kernel
theorem dX12_kept_21 : decode cX12_kept 21 = .ok (.aload_n 0, 1) := by decide +kernel
theorem dX12_kept_22 : decode cX12_kept 22 = .ok (.getfield 26, 3) := by decide +kernel
theorem dX12_kept_25 : decode cX12_kept 25 = .ok (.iload_n 2, 1) := by decide +kernel
theorem dX12_kept_26 : decode cX12_kept 26 = .ok (.iaload, 1) := by decide +kernel
theorem dX12_kept_27 : decode cX12_kept 27 = .ok (.invokevirtual 263, 3) := by decide +kernel
theorem dX12_kept_30 : decode cX12_kept 30 = .ok (.ior, 1) := by decide +kernel
theorem dX12_kept_31 : decode cX12_kept 31 = .ok (.istore_n 1, 1) := by decide +kernel
theorem dX12_kept_32 : decode cX12_kept 32 = .ok (.iinc 2 1, 3) := by decide +kernel
theorem dX12_kept_35 : decode cX12_kept 35 = .ok (.goto (-26), 3) := by decide +kernel
theorem dX12_kept_38 : decode cX12_kept 38 = .ok (.iload_n 1, 1) := by decide +kernel
theorem dX12_kept_39 : decode cX12_kept 39 = .ok (.ireturn, 1) := by decide +kernel
theorem dX12_kept_5 : decode cX12_kept 5 = .ok (.iconst 0, 1) := by decide +kernel
theorem dX12_kept_6 : decode cX12_kept 6 = .ok (.istore_n 1, 1) := by decide +kernel
theorem dX12_kept_7 : decode cX12_kept 7 = .ok (.iconst 0, 1) := by decide +kernel
theorem dX12_kept_8 : decode cX12_kept 8 = .ok (.istore_n 2, 1) := by decide +kernel
theorem dX12_kept_9 : decode cX12_kept 9 = .ok (.iload_n 2, 1) := by decide +kernel
theorem dX12_plan_0 : decode cX12_plan 0 = .ok (.aload_n 0, 1) := by decide +kernel
theorem dX12_plan_1 : decode cX12_plan 1 = .ok (.iconst 0, 1) := by decide +kernel
theorem dX12_plan_2 : decode cX12_plan 2 = .ok (.putfield 118, 3) := by decide +kernel
theorem dX12_plan_5 : decode cX12_plan 5 = .ok (.aload_n 0, 1) := by decide +kernel
theorem dX12_plan_6 : decode cX12_plan 6 = .ok (.invokevirtual 274, 3) := by decide +kernel
theorem dX12_plan_9 : decode cX12_plan 9 = .ok (.ireturn, 1) := by decide +kernel
theorem dm_X12_truths : yX12_truths.cls = RX12 ∧ yX12_truths.cls ≠ "java/lang/invoke/MethodHandle" ∧ yX12_truths.cls ≠ "java/lang/invoke/VarHandle" ∧ (parseMethodDescriptor yX12_truths.desc).map (fun d => d.parameters.length) = some 3 := by decide +kernel
theorem dm_X12_costOf : yX12_costOf.cls = RX12 ∧ yX12_costOf.cls ≠ "java/lang/invoke/MethodHandle" ∧ yX12_costOf.cls ≠ "java/lang/invoke/VarHandle" ∧ (parseMethodDescriptor yX12_costOf.desc).map (fun d => d.parameters.length) = some 3 := by decide +kernel
theorem dm_X12_findPlan : yX12_findPlan.cls = RX12 ∧ yX12_findPlan.cls ≠ "java/lang/invoke/MethodHandle" ∧ yX12_findPlan.cls ≠ "java/lang/invoke/VarHandle" ∧ (parseMethodDescriptor yX12_findPlan.desc).map (fun d => d.parameters.length) = some 0 := by decide +kernel
set_option maxRecDepth 100000 in
def wR_keptM  (M : zM) (Q : Int → zM → Prop) : Prop := (∀ M1 : zM, M1 = zup M 0 35 0 → pL2 (fun K9 x3 x4 => ((sI (M1 0 10)) ≤ (sI x4) → Q (sI x3) M1) ∧ ((sI x4) < (sI (M1 0 10)) → ((0 ≤ (sI x4) ∧ (sI x4) < 4) ∧ wR_truths x4 0 (M1 6 (sI x4).toNat) M1 (fun z15 => K9 (orI x3 z15) (x4 + 1))))) 0 0)
set_option maxHeartbeats 4000000 in
set_option maxRecDepth 100000 in
theorem cR_keptM (l : Launch) (D : va_G) (dA : Nat → ClassId) (b : Nat) (M : zM)   (Q : Int → zM → Prop) (h : wR_keptM  M Q) : Met l yX12_kept (.code yX12_kept cX12_kept 3 (some .int) :: zt) (z_rm 3) (va_Pc [.ref (b + 0)] (wPre D dA vwCl (z_tys dA) wR nR b M)) (va_Qi (wQi Q) (zB D dA vwCl wR nR b) (zA nR b)) 0 0 (zA nR b) := by
  unfold wR_keptM at h
  refine Met.ofW (cc := cX12_kept) (maxL := 3) (ret := (some .int)) (by decide) rfl ?_
  intro p e s m args below meth c s₁ B hml hv
  obtain ⟨hargs, hS, hK⟩ := hv
  have hx := B.exec
  have hb := B.bytes
  have hr := B.returns
  have hts := atoms_spec (ws := .code yX12_kept cX12_kept 3 (some .int) :: zt) B.pre
  have hown : s.vm.findClass RX12 = some m.cls := findClass_of_methodNamed B.named
  have hlocks := B.notSynchronized
  have hS0 : va_S (zA nR b) s.heap s.heap [] := va_S.rf
  have hl := lv_entry ([.ref (b + 0)]) (n := 3) (Nat.le_of_ble_eq_true rfl)
  have hent : entryFrame m args 3 = F0 m 0 ((lg_sl ([.ref (b + 0)]) ++ List.replicate (3 - (lg_sl ([.ref (b + 0)])).length) Slot.unset).toArray) [] := by rw [hargs]; exact lg_entry_eq m ([.ref (b + 0)]) 3
  rw [hent]
  generalize (lg_sl ([.ref (b + 0)]) ++ List.replicate (3 - (lg_sl ([.ref (b + 0)])).length) Slot.unset).toArray = ls at hl ⊢
  have hl : lv_has ls 3 [(0, .ref (b + 0))] := hl
  refine lv_aload_n hx hb dX12_kept_0 rfl (lv_at hl 0 rfl) ?_
  refine z_iconst hx hb dX12_kept_1 ?_
  refine w_puti hx hb hts (z_memU u12) tyX12 tyX12_ok nmX12 hown hK.1 hS hS0 f12_35 (by decide) (zkd_of (rfl : zcd wR 0 = 50) rfl) (Or.inl (hts _ (z_mem k979))) rfl (z := 0) (by decide +kernel) dX12_kept_2 (fun H locs hS hS0 => ?_)
  obtain ⟨M1, e2⟩ : ∃ M1 : zM, M1 = zup M 0 35 0 := ⟨_, rfl⟩
  rw [← e2] at hS
  have h := h M1 e2
  refine z_iconst hx hb dX12_kept_5 ?_
  refine lv_istore_n (lv' := [(1, .int (iI 0)), (0, .ref (b + 0))]) hx hb dX12_kept_6 rfl hl (by decide) rfl (fun ls hl => ?_)
  refine z_iconst hx hb dX12_kept_7 ?_
  refine lv_istore_n (lv' := [(2, .int (iI 0)), (1, .int (iI 0)), (0, .ref (b + 0))]) hx hb dX12_kept_8 rfl hl (by decide) rfl (fun ls hl => ?_)
  obtain ⟨I5, ⟨n6, h7⟩, h8⟩ := h
  have L9 : ∀ (n10 : Nat) (x3 x4 : Int) (H : Heap) (locs : List Loc) (ls : Array Slot), I5 n10 x3 x4 → zR D dA vwCl wR nR b M1 H → va_S (zA nR b) s.heap H locs → lv_has ls 3 [(0, .ref (b + 0)), (1, .int (iI x3)), (2, .int (iI x4))] → W p l e (headSpec (.code yX12_kept cX12_kept 3 (some .int) :: zt) (z_rm 3)).room s m args below meth c H locs 0 0 (MQ below (va_Qi (wQi Q) (zB D dA vwCl wR nR b) (zA nR b)) args s 0 0 (zA nR b)) (F0 m 9 ls []) := by
    intro n10
    induction n10 using Nat.strongRecOn with
    | ind n10 i11 =>
      intro x3 x4 H locs ls h hS hS0 hl
      have h := h8 n10 x3 x4 h
      refine lv_iload_n hx hb dX12_kept_9 rfl (lv_at hl 2 rfl) ?_
      refine lv_aload_n hx hb dX12_kept_10 rfl (lv_at hl 0 rfl) ?_
      refine w_geti hx hb hts (z_memU u12) hown hK.1 hS f12_10 (by decide) (zkd_of (rfl : zcd wR 0 = 50) rfl) (Or.inl (hts _ (z_mem k954))) dX12_kept_11 ?_
      refine w_icmp_ge (tgt := 38) hx hb rfl rfl dX12_kept_14 (by decide) (fun c12 => ?_) (fun c12 => ?_)
      · skip
        have h := h.1 c12
        refine lv_iload_n hx hb dX12_kept_38 rfl (lv_at hl 1 rfl) ?_
        exact w_iret hx hb hr hlocks hS hS0 rfl h dX12_kept_39
      · skip
        have h := h.2 c12
        refine lv_iload_n hx hb dX12_kept_17 rfl (lv_at hl 1 rfl) ?_
        refine lv_aload_n hx hb dX12_kept_18 rfl (lv_at hl 0 rfl) ?_
        refine lv_iload_n hx hb dX12_kept_19 rfl (lv_at hl 2 rfl) ?_
        refine z_iconst hx hb dX12_kept_20 ?_
        refine lv_aload_n hx hb dX12_kept_21 rfl (lv_at hl 0 rfl) ?_
        refine w_getr (j2 := 6) hx hb hts (z_memU u12) hown hK.1 hS f12_7 (by decide) (zkd_of (rfl : zcd wR 0 = 50) rfl) (zrf_of (rfl : zcd wR 0 = 50) rfl) (Or.inl (hts _ (z_mem k951))) dX12_kept_22 ?_
        refine lv_iload_n hx hb dX12_kept_25 rfl (lv_at hl 2 rfl) ?_
        obtain ⟨o13, h⟩ := h
        refine w_iald (n := 4) (i := (sI x4)) hx hb hK.1 (t0 := 0) rfl hS (by decide) (zkd_of (rfl : zcd wR 6 = 56) rfl) (zln_of (rfl : zcd wR 6 = 56) rfl) rfl o13.1 o13.2 (by decide) dX12_kept_26 ?_
        refine w_calli (va_runV (As := [.int (iI x4), .int (iI 0), .int (iI (M1 6 (sI x4).toNat))]) (rest := [.int (iI x3)]) ⟨hx, hb, hml, hown, hts⟩ (cR_truths l D dA b M1 x4 0 (M1 6 (sI x4).toNat) _ h) (cwV 3 hts (z_gV k1215 k1216 k1411 k14 k1217) rfl rfl rfl dm_X12_truths ⟨Nat.le_of_ble_eq_true rfl, Nat.le_of_ble_eq_true rfl⟩) ⟨wPre_blind, (w_recv hS hK.1 (by decide) (zkd_of (rfl : zcd wR 0 = 50) rfl) (by decide) (rfl : vwCl[12]? = some (RX12, TX12, 50))), w_pre hS hK⟩ rfl rfl hl.1 rfl (lv_room (Nat.le_of_ble_eq_true rfl)) dX12_kept_27 ⟨Nat.le_refl _, Nat.le_refl _⟩) hS0 (fun z15 M14 H locs r16 h hS hS0 => ?_)
        obtain ⟨e17, h⟩ := h
        rw [e17] at hS
        refine w_ior hx hb dX12_kept_30 ?_
        refine lv_istore_n (lv' := [(1, .int (iI (orI x3 z15))), (0, .ref (b + 0)), (2, .int (iI x4))]) hx hb dX12_kept_31 rfl hl (by decide) rfl (fun ls hl => ?_)
        refine z_iinc (lv' := [(2, .int (iI (x4 + 1))), (1, .int (iI (orI x3 z15))), (0, .ref (b + 0))]) hx hb dX12_kept_32 hl (k := 2) rfl (by decide) rfl (fun ls hl => ?_)
        refine lv_goto (tgt := 9) hx hb dX12_kept_35 (by decide) ?_
        obtain ⟨n18, h19, h⟩ := h
        exact i11 n18 h19 (orI x3 z15) (x4 + 1) _ _ _ h hS hS0 (lv_sub hl [2, 1, 0] rfl)
  exact L9 n6 0 0 _ _ _ h7 hS hS0 (lv_sub hl [2, 1, 0] rfl)

set_option maxRecDepth 100000 in
def wR_costOf (a0 : Int) (a1 : Int) (a2 : Int) (M : zM) (Q : Int → Prop) : Prop := ((0 ≤ (sI a0) ∧ (sI a0) < 4) ∧ Q (sI ((5 * a1) + (absI (sI (a2 - (M 6 (sI a0).toNat)))))))
set_option maxHeartbeats 4000000 in
set_option maxRecDepth 100000 in
theorem cR_costOf (l : Launch) (D : va_G) (dA : Nat → ClassId) (b : Nat) (M : zM) (a0 : Int) (a1 : Int) (a2 : Int)  (Q : Int → Prop) (h : wR_costOf a0 a1 a2 M Q) : Met l yX12_costOf (.code yX12_costOf cX12_costOf 4 (some .int) :: zt) (z_rm 1) (va_Pc [.ref (b + 0), .int (iI a0), .int (iI a1), .int (iI a2)] (wPre D dA vwCl (z_tys dA) wR nR b M)) (va_Qi (wQi (fun z9 u9 => u9 = M ∧ Q z9)) (zB D dA vwCl wR nR b) (zA nR b)) 0 0 (zA nR b) := by
  unfold wR_costOf at h
  refine Met.ofW (cc := cX12_costOf) (maxL := 4) (ret := (some .int)) (by decide) rfl ?_
  intro p e s m args below meth c s₁ B hml hv
  obtain ⟨hargs, hS, hK⟩ := hv
  have hx := B.exec
  have hb := B.bytes
  have hr := B.returns
  have hts := atoms_spec (ws := .code yX12_costOf cX12_costOf 4 (some .int) :: zt) B.pre
  have hown : s.vm.findClass RX12 = some m.cls := findClass_of_methodNamed B.named
  have hlocks := B.notSynchronized
  have hS0 : va_S (zA nR b) s.heap s.heap [] := va_S.rf
  have hl := lv_entry ([.ref (b + 0), .int (iI a0), .int (iI a1), .int (iI a2)]) (n := 4) (Nat.le_of_ble_eq_true rfl)
  have hent : entryFrame m args 4 = F0 m 0 ((lg_sl ([.ref (b + 0), .int (iI a0), .int (iI a1), .int (iI a2)]) ++ List.replicate (4 - (lg_sl ([.ref (b + 0), .int (iI a0), .int (iI a1), .int (iI a2)])).length) Slot.unset).toArray) [] := by rw [hargs]; exact lg_entry_eq m ([.ref (b + 0), .int (iI a0), .int (iI a1), .int (iI a2)]) 4
  rw [hent]
  generalize (lg_sl ([.ref (b + 0), .int (iI a0), .int (iI a1), .int (iI a2)]) ++ List.replicate (4 - (lg_sl ([.ref (b + 0), .int (iI a0), .int (iI a1), .int (iI a2)])).length) Slot.unset).toArray = ls at hl ⊢
  have hl : lv_has ls 4 [(0, .ref (b + 0)), (1, .int (iI a0)), (2, .int (iI a1)), (3, .int (iI a2))] := hl
  refine z_iconst hx hb dX12_costOf_0 ?_
  refine lv_iload_n hx hb dX12_costOf_1 rfl (lv_at hl 2 rfl) ?_
  refine z_imul hx hb dX12_costOf_2 ?_
  refine lv_iload_n hx hb dX12_costOf_3 rfl (lv_at hl 3 rfl) ?_
  refine lv_aload_n hx hb dX12_costOf_4 rfl (lv_at hl 0 rfl) ?_
  refine w_getr (j2 := 6) hx hb hts (z_memU u12) hown hK.1 hS f12_7 (by decide) (zkd_of (rfl : zcd wR 0 = 50) rfl) (zrf_of (rfl : zcd wR 0 = 50) rfl) (Or.inl (hts _ (z_mem k951))) dX12_costOf_5 ?_
  refine lv_iload_n hx hb dX12_costOf_8 rfl (lv_at hl 1 rfl) ?_
  obtain ⟨o1, h⟩ := h
  refine w_iald (n := 4) (i := (sI a0)) hx hb hK.1 (t0 := 0) rfl hS (by decide) (zkd_of (rfl : zcd wR 6 = 56) rfl) (zln_of (rfl : zcd wR 6 = 56) rfl) rfl o1.1 o1.2 (by decide) dX12_costOf_9 ?_
  refine z_isub hx hb dX12_costOf_10 ?_
  refine w_mabs hx hb (hml.trans hl.1.symm) hown (hts _ (z_mem k1131)) (hts _ (z_mem k644)) (hts _ (z_mem k15)) (hts _ (z_mem k645)) (by exact Nat.le_of_ble_eq_true rfl) (by exact Nat.le_of_ble_eq_true rfl) (by exact Nat.le_refl _) (by exact Nat.le_refl _) rfl dX12_costOf_11 ?_
  refine z_iadd hx hb dX12_costOf_14 ?_
  exact w_iret hx hb hr hlocks hS hS0 rfl ⟨rfl, h⟩ dX12_costOf_15

set_option maxRecDepth 100000 in
def wR_findPlan  (M : zM) (Q : Int → zM → Prop) : Prop := wL1 (fun K9 x1 M2 => ((shlI 1 (M 0 16)) ≤ (sI x1) → wL1 (fun K52 x11 M12 => ((sI x11) < 0 → ((0 ≤ (sI ((shlI 1 (M 0 16)) - 1)) ∧ (sI ((shlI 1 (M 0 16)) - 1)) < 320) ∧ (∀ t22 : Int, t22 = (M12 28 (sI ((shlI 1 (M 0 16)) - 1)).toNat) → ((sI t22) < 268435456 → wL2 (fun K257 x25 x26 M27 => ((sI (M27 0 10)) ≤ (sI x26) → (∀ M36 : zM, M36 = zup M27 0 34 (2 * (M27 0 10)) → Q (sI t22) M36)) ∧ ((sI x26) < (sI (M27 0 10)) → wL3 (fun K272 x38 x39 x40 M41 => ((0 ≤ (sI x26) ∧ (sI x26) < 4) ∧ ((sI (M41 4 (sI x26).toNat)) ≤ (sI x40) → K257 x38 (x26 + 1) M41) ∧ ((sI x40) < (sI (M41 4 (sI x26).toNat)) → ((sI x39) ≠ 0 → K257 x38 (x26 + 1) M41) ∧ ((sI x39) = 0 → wL3 (fun K292 x56 x57 x58 M59 => ((0 ≤ (sI x26) ∧ (sI x26) < 4) ∧ ((sI ((M59 4 (sI x26).toNat) - x40)) ≤ (sI x58) → K272 x56 x57 (x40 + 1) M59) ∧ ((sI x58) < (sI ((M59 4 (sI x26).toNat) - x40)) → ((sI x57) ≠ 0 → K272 x56 x57 (x40 + 1) M59) ∧ ((sI x57) = 0 → ((0 ≤ (sI ((24 * ((24 * x26) + x40)) + x58)) ∧ (sI ((24 * ((24 * x26) + x40)) + x58)) < 2304) ∧ (∀ t75 : Int, t75 = (andI x56 (xorI (M59 29 (sI ((24 * ((24 * x26) + x40)) + x58)).toNat) (-1))) → wR_costOf x26 x40 x58 M59 (fun z78 => ((0 ≤ (sI ((64 * (x26 + 1)) + t75)) ∧ (sI ((64 * (x26 + 1)) + t75)) < 320) ∧ ((0 ≤ (sI ((64 * x26) + x56)) ∧ (sI ((64 * x26) + x56)) < 320) ∧ ((sI (z78 + (M59 28 (sI ((64 * (x26 + 1)) + t75)).toNat))) = (sI (M59 28 (sI ((64 * x26) + x56)).toNat)) → ((0 ≤ (sI (2 * x26)) ∧ (sI (2 * x26)) < 64) ∧ (∀ M85 : zM, M85 = zup M59 22 (sI (2 * x26)).toNat x40 → ((0 ≤ (sI ((2 * x26) + 1)) ∧ (sI ((2 * x26) + 1)) < 64) ∧ (∀ M88 : zM, M88 = zup M85 22 (sI ((2 * x26) + 1)).toNat x58 → K292 t75 1 (x58 + 1) M88))))) ∧ ((sI (z78 + (M59 28 (sI ((64 * (x26 + 1)) + t75)).toNat))) ≠ (sI (M59 28 (sI ((64 * x26) + x56)).toNat)) → K292 x56 x57 (x58 + 1) M59)))))))))) x38 x39 0 M41)))) x25 0 0 M27)) ((shlI 1 (M 0 16)) - 1) 0 M12) ∧ (268435456 ≤ (sI t22) → Q (-1) M12)))) ∧ (0 ≤ (sI x11) → wL1 (fun K58 x94 M95 => ((shlI 1 (M 0 16)) ≤ (sI x94) → wL1 (fun K85 x104 M105 => ((0 ≤ (sI x11) ∧ (sI x11) < 4) ∧ ((sI (M105 4 (sI x11).toNat)) ≤ (sI x104) → K52 (x11 + (-1)) M105) ∧ ((sI x104) < (sI (M105 4 (sI x11).toNat)) → wL1 (fun K98 x117 M118 => ((0 ≤ (sI x11) ∧ (sI x11) < 4) ∧ ((sI ((M118 4 (sI x11).toNat) - x104)) ≤ (sI x117) → K85 (x104 + 1) M118) ∧ ((sI x117) < (sI ((M118 4 (sI x11).toNat) - x104)) → wR_truths x11 x104 x117 M118 (fun z131 => ((0 ≤ (sI ((24 * ((24 * x11) + x104)) + x117)) ∧ (sI ((24 * ((24 * x11) + x104)) + x117)) < 2304) ∧ (∀ M135 : zM, M135 = zup M118 29 (sI ((24 * ((24 * x11) + x104)) + x117)).toNat z131 → wL1 (fun K143 x137 M138 => ((shlI 1 (M 0 16)) ≤ (sI x137) → K98 (x117 + 1) M138) ∧ ((sI x137) < (shlI 1 (M 0 16)) → wR_costOf x11 x104 x117 M138 (fun z150 => ((0 ≤ (sI ((64 * (x11 + 1)) + (andI x137 (xorI z131 (-1))))) ∧ (sI ((64 * (x11 + 1)) + (andI x137 (xorI z131 (-1))))) < 320) ∧ (∀ t154 : Int, t154 = (z150 + (M138 28 (sI ((64 * (x11 + 1)) + (andI x137 (xorI z131 (-1))))).toNat)) → ((0 ≤ (sI ((64 * x11) + x137)) ∧ (sI ((64 * x11) + x137)) < 320) ∧ ((0 ≤ (sI ((64 * x11) + x137)) ∧ (sI ((64 * x11) + x137)) < 320) ∧ (∀ M158 : zM, M158 = zup M138 28 (sI ((64 * x11) + x137)).toNat (min (sI (M138 28 (sI ((64 * x11) + x137)).toNat)) (sI t154)) → K143 (x137 + 1) M158)))))))) 0 M135)))))) 0 M105))) 0 M95) ∧ ((sI x94) < (shlI 1 (M 0 16)) → ((0 ≤ (sI ((64 * x11) + x94)) ∧ (sI ((64 * x11) + x94)) < 320) ∧ (∀ M163 : zM, M163 = zup M95 28 (sI ((64 * x11) + x94)).toNat 268435456 → K58 (x94 + 1) M163)))) 0 M12)) ((M2 0 10) - 1) M2) ∧ ((sI x1) < (shlI 1 (M 0 16)) → ((sI x1) ≠ 0 → ((0 ≤ (sI ((64 * (M2 0 10)) + x1)) ∧ (sI ((64 * (M2 0 10)) + x1)) < 320) ∧ (∀ M169 : zM, M169 = zup M2 28 (sI ((64 * (M2 0 10)) + x1)).toNat 268435456 → K9 (x1 + 1) M169))) ∧ ((sI x1) = 0 → ((0 ≤ (sI ((64 * (M2 0 10)) + x1)) ∧ (sI ((64 * (M2 0 10)) + x1)) < 320) ∧ (∀ M174 : zM, M174 = zup M2 28 (sI ((64 * (M2 0 10)) + x1)).toNat 0 → K9 (x1 + 1) M174))))) 0 M
set_option maxHeartbeats 4000000 in
set_option maxRecDepth 100000 in
theorem cR_findPlan (l : Launch) (D : va_G) (dA : Nat → ClassId) (b : Nat) (M : zM)   (Q : Int → zM → Prop) (h : wR_findPlan  M Q) : Met l yX12_findPlan (.code yX12_findPlan cX12_findPlan 9 (some .int) :: zt) (z_rm 3) (va_Pc [.ref (b + 0)] (wPre D dA vwCl (z_tys dA) wR nR b M)) (va_Qi (wQi Q) (zB D dA vwCl wR nR b) (zA nR b)) 0 0 (zA nR b) := by
  unfold wR_findPlan at h
  refine Met.ofW (cc := cX12_findPlan) (maxL := 9) (ret := (some .int)) (by decide) rfl ?_
  intro p e s m args below meth c s₁ B hml hv
  obtain ⟨hargs, hS, hK⟩ := hv
  have hx := B.exec
  have hb := B.bytes
  have hr := B.returns
  have hts := atoms_spec (ws := .code yX12_findPlan cX12_findPlan 9 (some .int) :: zt) B.pre
  have hown : s.vm.findClass RX12 = some m.cls := findClass_of_methodNamed B.named
  have hlocks := B.notSynchronized
  have hS0 : va_S (zA nR b) s.heap s.heap [] := va_S.rf
  have hl := lv_entry ([.ref (b + 0)]) (n := 9) (Nat.le_of_ble_eq_true rfl)
  have hent : entryFrame m args 9 = F0 m 0 ((lg_sl ([.ref (b + 0)]) ++ List.replicate (9 - (lg_sl ([.ref (b + 0)])).length) Slot.unset).toArray) [] := by rw [hargs]; exact lg_entry_eq m ([.ref (b + 0)]) 9
  rw [hent]
  generalize (lg_sl ([.ref (b + 0)]) ++ List.replicate (9 - (lg_sl ([.ref (b + 0)])).length) Slot.unset).toArray = ls at hl ⊢
  have hl : lv_has ls 9 [(0, .ref (b + 0))] := hl
  refine z_iconst hx hb dX12_findPlan_0 ?_
  refine lv_aload_n hx hb dX12_findPlan_1 rfl (lv_at hl 0 rfl) ?_
  refine w_geti hx hb hts (z_memU u12) hown hK.1 hS f12_16 (by decide) (zkd_of (rfl : zcd wR 0 = 50) rfl) (Or.inl (hts _ (z_mem k960))) dX12_findPlan_2 ?_
  refine w_ishl hx hb dX12_findPlan_5 ?_
  refine lv_istore_n (lv' := [(1, .int (iI (shlI 1 (M 0 16)))), (0, .ref (b + 0))]) hx hb dX12_findPlan_6 rfl hl (by decide) rfl (fun ls hl => ?_)
  refine z_iconst hx hb dX12_findPlan_7 ?_
  refine lv_istore_n (lv' := [(2, .int (iI 0)), (1, .int (iI (shlI 1 (M 0 16)))), (0, .ref (b + 0))]) hx hb dX12_findPlan_8 rfl hl (by decide) rfl (fun ls hl => ?_)
  obtain ⟨I3, ⟨n4, h5⟩, h6⟩ := h
  have L7 : ∀ (n8 : Nat) (x1 : Int) (M2 : zM) (H : Heap) (locs : List Loc) (ls : Array Slot), I3 n8 x1 M2 → zR D dA vwCl wR nR b M2 H → va_S (zA nR b) s.heap H locs → lv_has ls 9 [(0, .ref (b + 0)), (1, .int (iI (shlI 1 (M 0 16)))), (2, .int (iI x1))] → W p l e (headSpec (.code yX12_findPlan cX12_findPlan 9 (some .int) :: zt) (z_rm 3)).room s m args below meth c H locs 0 0 (MQ below (va_Qi (wQi Q) (zB D dA vwCl wR nR b) (zA nR b)) args s 0 0 (zA nR b)) (F0 m 9 ls []) := by
    intro n8
    induction n8 using Nat.strongRecOn with
    | ind n8 i9 =>
      intro x1 M2 H locs ls h hS hS0 hl
      have h := h6 n8 x1 M2 h
      refine lv_iload_n hx hb dX12_findPlan_9 rfl (lv_at hl 2 rfl) ?_
      refine lv_iload_n hx hb dX12_findPlan_10 rfl (lv_at hl 1 rfl) ?_
      refine w_icmp_ge (tgt := 45) hx hb rfl (sI_of (shlI_R _ _)) dX12_findPlan_11 (by decide) (fun c10 => ?_) (fun c10 => ?_)
      · skip
        have h := h.1 c10
        refine lv_aload_n hx hb dX12_findPlan_45 rfl (lv_at hl 0 rfl) ?_
        refine w_geti hx hb hts (z_memU u12) hown hK.1 hS f12_10 (by decide) (zkd_of (rfl : zcd wR 0 = 50) rfl) (Or.inl (hts _ (z_mem k954))) dX12_findPlan_46 ?_
        refine z_iconst hx hb dX12_findPlan_49 ?_
        refine z_isub hx hb dX12_findPlan_50 ?_
        refine lv_istore_n (lv' := [(2, .int (iI ((M2 0 10) - 1))), (0, .ref (b + 0)), (1, .int (iI (shlI 1 (M 0 16))))]) hx hb dX12_findPlan_51 rfl hl (by decide) rfl (fun ls hl => ?_)
        obtain ⟨I13, ⟨n14, h15⟩, h16⟩ := h
        have L17 : ∀ (n18 : Nat) (x11 : Int) (M12 : zM) (H : Heap) (locs : List Loc) (ls : Array Slot), I13 n18 x11 M12 → zR D dA vwCl wR nR b M12 H → va_S (zA nR b) s.heap H locs → lv_has ls 9 [(0, .ref (b + 0)), (1, .int (iI (shlI 1 (M 0 16)))), (2, .int (iI x11))] → W p l e (headSpec (.code yX12_findPlan cX12_findPlan 9 (some .int) :: zt) (z_rm 3)).room s m args below meth c H locs 0 0 (MQ below (va_Qi (wQi Q) (zB D dA vwCl wR nR b) (zA nR b)) args s 0 0 (zA nR b)) (F0 m 52 ls []) := by
          intro n18
          induction n18 using Nat.strongRecOn with
          | ind n18 i19 =>
            intro x11 M12 H locs ls h hS hS0 hl
            have h := h16 n18 x11 M12 h
            refine lv_iload_n hx hb dX12_findPlan_52 rfl (lv_at hl 2 rfl) ?_
            refine w_if_lt (tgt := 232) hx hb rfl dX12_findPlan_53 (by decide) (fun c20 => ?_) (fun c20 => ?_)
            · skip
              have h := h.1 c20
              refine lv_aload_n hx hb dX12_findPlan_232 rfl (lv_at hl 0 rfl) ?_
              refine w_getr (j2 := 28) hx hb hts (z_memU u12) hown hK.1 hS f12_43 (by decide) (zkd_of (rfl : zcd wR 0 = 50) rfl) (zrf_of (rfl : zcd wR 0 = 50) rfl) (Or.inl (hts _ (z_mem k987))) dX12_findPlan_233 ?_
              refine lv_iload_n hx hb dX12_findPlan_236 rfl (lv_at hl 1 rfl) ?_
              refine z_iconst hx hb dX12_findPlan_237 ?_
              refine z_isub hx hb dX12_findPlan_238 ?_
              obtain ⟨o21, h⟩ := h
              refine w_iald (n := 320) (i := (sI ((shlI 1 (M 0 16)) - 1))) hx hb hK.1 (t0 := 0) rfl hS (by decide) (zkd_of (rfl : zcd wR 28 = 78) rfl) (zln_of (rfl : zcd wR 28 = 78) rfl) rfl o21.1 o21.2 (by decide) dX12_findPlan_239 ?_
              obtain ⟨t22, e23⟩ : ∃ t22 : Int, t22 = (M12 28 (sI ((shlI 1 (M 0 16)) - 1)).toNat) := ⟨_, rfl⟩
              refine z_top (y := t22) e23.symm ?_
              have h := h t22 e23
              refine lv_istore_n (lv' := [(2, .int (iI t22)), (0, .ref (b + 0)), (1, .int (iI (shlI 1 (M 0 16))))]) hx hb dX12_findPlan_240 rfl hl (by decide) rfl (fun ls hl => ?_)
              refine lv_iload_n hx hb dX12_findPlan_241 rfl (lv_at hl 0 rfl) ?_
              refine z_ldcw (n := 268435456) hx hb hown (hts _ (z_mem k1225)) (by decide) dX12_findPlan_242 ?_
              refine w_icmp_lt (tgt := 250) hx hb rfl (sI_of (by decide)) dX12_findPlan_245 (by decide) (fun c24 => ?_) (fun c24 => ?_)
              · skip
                have h := h.1 c24
                refine lv_iload_n hx hb dX12_findPlan_250 rfl (lv_at hl 2 rfl) ?_
                refine z_iconst hx hb dX12_findPlan_251 ?_
                refine z_isub hx hb dX12_findPlan_252 ?_
                refine lv_istore_n (lv' := [(3, .int (iI ((shlI 1 (M 0 16)) - 1))), (2, .int (iI t22)), (0, .ref (b + 0)), (1, .int (iI (shlI 1 (M 0 16))))]) hx hb dX12_findPlan_253 rfl hl (by decide) rfl (fun ls hl => ?_)
                refine z_iconst hx hb dX12_findPlan_254 ?_
                refine lv_istore (lv' := [(4, .int (iI 0)), (3, .int (iI ((shlI 1 (M 0 16)) - 1))), (2, .int (iI t22)), (0, .ref (b + 0)), (1, .int (iI (shlI 1 (M 0 16))))]) hx hb dX12_findPlan_255 hl (by decide) rfl (fun ls hl => ?_)
                obtain ⟨I28, ⟨n29, h30⟩, h31⟩ := h
                have L32 : ∀ (n33 : Nat) (x25 x26 : Int) (M27 : zM) (H : Heap) (locs : List Loc) (ls : Array Slot), I28 n33 x25 x26 M27 → zR D dA vwCl wR nR b M27 H → va_S (zA nR b) s.heap H locs → lv_has ls 9 [(0, .ref (b + 0)), (2, .int (iI t22)), (3, .int (iI x25)), (4, .int (iI x26))] → W p l e (headSpec (.code yX12_findPlan cX12_findPlan 9 (some .int) :: zt) (z_rm 3)).room s m args below meth c H locs 0 0 (MQ below (va_Qi (wQi Q) (zB D dA vwCl wR nR b) (zA nR b)) args s 0 0 (zA nR b)) (F0 m 257 ls []) := by
                  intro n33
                  induction n33 using Nat.strongRecOn with
                  | ind n33 i34 =>
                    intro x25 x26 M27 H locs ls h hS hS0 hl
                    have h := h31 n33 x25 x26 M27 h
                    refine lv_iload hx hb dX12_findPlan_257 (lv_at hl 3 rfl) ?_
                    refine lv_aload_n hx hb dX12_findPlan_259 rfl (lv_at hl 0 rfl) ?_
                    refine w_geti hx hb hts (z_memU u12) hown hK.1 hS f12_10 (by decide) (zkd_of (rfl : zcd wR 0 = 50) rfl) (Or.inl (hts _ (z_mem k954))) dX12_findPlan_260 ?_
                    refine w_icmp_ge (tgt := 429) hx hb rfl rfl dX12_findPlan_263 (by decide) (fun c35 => ?_) (fun c35 => ?_)
                    · skip
                      have h := h.1 c35
                      refine lv_aload_n hx hb dX12_findPlan_429 rfl (lv_at hl 0 rfl) ?_
                      refine z_iconst hx hb dX12_findPlan_430 ?_
                      refine lv_aload_n hx hb dX12_findPlan_431 rfl (lv_at hl 0 rfl) ?_
                      refine w_geti hx hb hts (z_memU u12) hown hK.1 hS f12_10 (by decide) (zkd_of (rfl : zcd wR 0 = 50) rfl) (Or.inl (hts _ (z_mem k954))) dX12_findPlan_432 ?_
                      refine z_imul hx hb dX12_findPlan_435 ?_
                      refine w_puti hx hb hts (z_memU u12) tyX12 tyX12_ok nmX12 hown hK.1 hS hS0 f12_34 (by decide) (zkd_of (rfl : zcd wR 0 = 50) rfl) (Or.inl (hts _ (z_mem k978))) rfl (z := (2 * (M27 0 10))) (by decide +kernel) dX12_findPlan_436 (fun H locs hS hS0 => ?_)
                      obtain ⟨M36, e37⟩ : ∃ M36 : zM, M36 = zup M27 0 34 (2 * (M27 0 10)) := ⟨_, rfl⟩
                      rw [← e37] at hS
                      have h := h M36 e37
                      refine lv_iload_n hx hb dX12_findPlan_439 rfl (lv_at hl 1 rfl) ?_
                      exact w_iret hx hb hr hlocks hS hS0 rfl h dX12_findPlan_440
                    · skip
                      have h := h.2 c35
                      refine z_iconst hx hb dX12_findPlan_266 ?_
                      refine lv_istore (lv' := [(5, .int (iI 0)), (0, .ref (b + 0)), (2, .int (iI t22)), (3, .int (iI x25)), (4, .int (iI x26))]) hx hb dX12_findPlan_267 hl (by decide) rfl (fun ls hl => ?_)
                      refine z_iconst hx hb dX12_findPlan_269 ?_
                      refine lv_istore (lv' := [(6, .int (iI 0)), (5, .int (iI 0)), (0, .ref (b + 0)), (2, .int (iI t22)), (3, .int (iI x25)), (4, .int (iI x26))]) hx hb dX12_findPlan_270 hl (by decide) rfl (fun ls hl => ?_)
                      obtain ⟨I42, ⟨n43, h44⟩, h45⟩ := h
                      have L46 : ∀ (n47 : Nat) (x38 x39 x40 : Int) (M41 : zM) (H : Heap) (locs : List Loc) (ls : Array Slot), I42 n47 x38 x39 x40 M41 → zR D dA vwCl wR nR b M41 H → va_S (zA nR b) s.heap H locs → lv_has ls 9 [(0, .ref (b + 0)), (2, .int (iI t22)), (3, .int (iI x38)), (4, .int (iI x26)), (5, .int (iI x39)), (6, .int (iI x40))] → W p l e (headSpec (.code yX12_findPlan cX12_findPlan 9 (some .int) :: zt) (z_rm 3)).room s m args below meth c H locs 0 0 (MQ below (va_Qi (wQi Q) (zB D dA vwCl wR nR b) (zA nR b)) args s 0 0 (zA nR b)) (F0 m 272 ls []) := by
                        intro n47
                        induction n47 using Nat.strongRecOn with
                        | ind n47 i48 =>
                          intro x38 x39 x40 M41 H locs ls h hS hS0 hl
                          have h := h45 n47 x38 x39 x40 M41 h
                          refine lv_iload hx hb dX12_findPlan_272 (lv_at hl 5 rfl) ?_
                          refine lv_aload_n hx hb dX12_findPlan_274 rfl (lv_at hl 0 rfl) ?_
                          refine w_getr (j2 := 4) hx hb hts (z_memU u12) hown hK.1 hS f12_5 (by decide) (zkd_of (rfl : zcd wR 0 = 50) rfl) (zrf_of (rfl : zcd wR 0 = 50) rfl) (Or.inl (hts _ (z_mem k949))) dX12_findPlan_275 ?_
                          refine lv_iload hx hb dX12_findPlan_278 (lv_at hl 3 rfl) ?_
                          obtain ⟨o49, h⟩ := h
                          refine w_iald (n := 4) (i := (sI x26)) hx hb hK.1 (t0 := 0) rfl hS (by decide) (zkd_of (rfl : zcd wR 4 = 54) rfl) (zln_of (rfl : zcd wR 4 = 54) rfl) rfl o49.1 o49.2 (by decide) dX12_findPlan_280 ?_
                          refine w_icmp_ge (tgt := 423) hx hb rfl rfl dX12_findPlan_281 (by decide) (fun c50 => ?_) (fun c50 => ?_)
                          · skip
                            have h := h.1 c50
                            refine z_iinc (lv' := [(4, .int (iI (x26 + 1))), (0, .ref (b + 0)), (2, .int (iI t22)), (3, .int (iI x38)), (5, .int (iI x39)), (6, .int (iI x40))]) hx hb dX12_findPlan_423 hl (k := 3) rfl (by decide) rfl (fun ls hl => ?_)
                            refine lv_goto (tgt := 257) hx hb dX12_findPlan_426 (by decide) ?_
                            obtain ⟨n51, h52, h⟩ := h
                            exact i34 n51 h52 x38 (x26 + 1) M41 _ _ _ h hS hS0 (lv_sub hl [1, 2, 3, 0] rfl)
                          · skip
                            have h := h.2 c50
                            refine lv_iload hx hb dX12_findPlan_284 (lv_at hl 4 rfl) ?_
                            refine w_if_ne (tgt := 423) hx hb rfl dX12_findPlan_286 (by decide) (fun c53 => ?_) (fun c53 => ?_)
                            · skip
                              have h := h.1 c53
                              refine z_iinc (lv' := [(4, .int (iI (x26 + 1))), (0, .ref (b + 0)), (2, .int (iI t22)), (3, .int (iI x38)), (5, .int (iI x39)), (6, .int (iI x40))]) hx hb dX12_findPlan_423 hl (k := 3) rfl (by decide) rfl (fun ls hl => ?_)
                              refine lv_goto (tgt := 257) hx hb dX12_findPlan_426 (by decide) ?_
                              obtain ⟨n54, h55, h⟩ := h
                              exact i34 n54 h55 x38 (x26 + 1) M41 _ _ _ h hS hS0 (lv_sub hl [1, 2, 3, 0] rfl)
                            · skip
                              have h := h.2 c53
                              refine z_iconst hx hb dX12_findPlan_289 ?_
                              refine lv_istore (lv' := [(7, .int (iI 0)), (0, .ref (b + 0)), (2, .int (iI t22)), (3, .int (iI x38)), (4, .int (iI x26)), (5, .int (iI x39)), (6, .int (iI x40))]) hx hb dX12_findPlan_290 hl (by decide) rfl (fun ls hl => ?_)
                              obtain ⟨I60, ⟨n61, h62⟩, h63⟩ := h
                              have L64 : ∀ (n65 : Nat) (x56 x57 x58 : Int) (M59 : zM) (H : Heap) (locs : List Loc) (ls : Array Slot), I60 n65 x56 x57 x58 M59 → zR D dA vwCl wR nR b M59 H → va_S (zA nR b) s.heap H locs → lv_has ls 9 [(0, .ref (b + 0)), (2, .int (iI t22)), (3, .int (iI x56)), (4, .int (iI x26)), (5, .int (iI x57)), (6, .int (iI x40)), (7, .int (iI x58))] → W p l e (headSpec (.code yX12_findPlan cX12_findPlan 9 (some .int) :: zt) (z_rm 3)).room s m args below meth c H locs 0 0 (MQ below (va_Qi (wQi Q) (zB D dA vwCl wR nR b) (zA nR b)) args s 0 0 (zA nR b)) (F0 m 292 ls []) := by
                                intro n65
                                induction n65 using Nat.strongRecOn with
                                | ind n65 i66 =>
                                  intro x56 x57 x58 M59 H locs ls h hS hS0 hl
                                  have h := h63 n65 x56 x57 x58 M59 h
                                  refine lv_iload hx hb dX12_findPlan_292 (lv_at hl 6 rfl) ?_
                                  refine lv_aload_n hx hb dX12_findPlan_294 rfl (lv_at hl 0 rfl) ?_
                                  refine w_getr (j2 := 4) hx hb hts (z_memU u12) hown hK.1 hS f12_5 (by decide) (zkd_of (rfl : zcd wR 0 = 50) rfl) (zrf_of (rfl : zcd wR 0 = 50) rfl) (Or.inl (hts _ (z_mem k949))) dX12_findPlan_295 ?_
                                  refine lv_iload hx hb dX12_findPlan_298 (lv_at hl 3 rfl) ?_
                                  obtain ⟨o67, h⟩ := h
                                  refine w_iald (n := 4) (i := (sI x26)) hx hb hK.1 (t0 := 0) rfl hS (by decide) (zkd_of (rfl : zcd wR 4 = 54) rfl) (zln_of (rfl : zcd wR 4 = 54) rfl) rfl o67.1 o67.2 (by decide) dX12_findPlan_300 ?_
                                  refine lv_iload hx hb dX12_findPlan_301 (lv_at hl 5 rfl) ?_
                                  refine z_isub hx hb dX12_findPlan_303 ?_
                                  refine w_icmp_ge (tgt := 417) hx hb rfl rfl dX12_findPlan_304 (by decide) (fun c68 => ?_) (fun c68 => ?_)
                                  · skip
                                    have h := h.1 c68
                                    refine z_iinc (lv' := [(6, .int (iI (x40 + 1))), (0, .ref (b + 0)), (2, .int (iI t22)), (3, .int (iI x56)), (4, .int (iI x26)), (5, .int (iI x57)), (7, .int (iI x58))]) hx hb dX12_findPlan_417 hl (k := 5) rfl (by decide) rfl (fun ls hl => ?_)
                                    refine lv_goto (tgt := 272) hx hb dX12_findPlan_420 (by decide) ?_
                                    obtain ⟨n69, h70, h⟩ := h
                                    exact i48 n69 h70 x56 x57 (x40 + 1) M59 _ _ _ h hS hS0 (lv_sub hl [1, 2, 3, 4, 5, 0] rfl)
                                  · skip
                                    have h := h.2 c68
                                    refine lv_iload hx hb dX12_findPlan_307 (lv_at hl 4 rfl) ?_
                                    refine w_if_ne (tgt := 417) hx hb rfl dX12_findPlan_309 (by decide) (fun c71 => ?_) (fun c71 => ?_)
                                    · skip
                                      have h := h.1 c71
                                      refine z_iinc (lv' := [(6, .int (iI (x40 + 1))), (0, .ref (b + 0)), (2, .int (iI t22)), (3, .int (iI x56)), (4, .int (iI x26)), (5, .int (iI x57)), (7, .int (iI x58))]) hx hb dX12_findPlan_417 hl (k := 5) rfl (by decide) rfl (fun ls hl => ?_)
                                      refine lv_goto (tgt := 272) hx hb dX12_findPlan_420 (by decide) ?_
                                      obtain ⟨n72, h73, h⟩ := h
                                      exact i48 n72 h73 x56 x57 (x40 + 1) M59 _ _ _ h hS hS0 (lv_sub hl [1, 2, 3, 4, 5, 0] rfl)
                                    · skip
                                      have h := h.2 c71
                                      refine lv_iload_n hx hb dX12_findPlan_312 rfl (lv_at hl 2 rfl) ?_
                                      refine lv_aload_n hx hb dX12_findPlan_313 rfl (lv_at hl 0 rfl) ?_
                                      refine w_getr (j2 := 29) hx hb hts (z_memU u12) hown hK.1 hS f12_44 (by decide) (zkd_of (rfl : zcd wR 0 = 50) rfl) (zrf_of (rfl : zcd wR 0 = 50) rfl) (Or.inl (hts _ (z_mem k988))) dX12_findPlan_314 ?_
                                      refine z_bipush hx hb (by decide) dX12_findPlan_317 ?_
                                      refine z_bipush hx hb (by decide) dX12_findPlan_319 ?_
                                      refine lv_iload hx hb dX12_findPlan_321 (lv_at hl 3 rfl) ?_
                                      refine z_imul hx hb dX12_findPlan_323 ?_
                                      refine lv_iload hx hb dX12_findPlan_324 (lv_at hl 5 rfl) ?_
                                      refine z_iadd hx hb dX12_findPlan_326 ?_
                                      refine z_imul hx hb dX12_findPlan_327 ?_
                                      refine lv_iload hx hb dX12_findPlan_328 (lv_at hl 6 rfl) ?_
                                      refine z_iadd hx hb dX12_findPlan_330 ?_
                                      obtain ⟨o74, h⟩ := h
                                      refine w_iald (n := 2304) (i := (sI ((24 * ((24 * x26) + x40)) + x58))) hx hb hK.1 (t0 := 0) rfl hS (by decide) (zkd_of (rfl : zcd wR 29 = 79) rfl) (zln_of (rfl : zcd wR 29 = 79) rfl) rfl o74.1 o74.2 (by decide) dX12_findPlan_331 ?_
                                      refine z_iconst hx hb dX12_findPlan_332 ?_
                                      refine w_ixor hx hb dX12_findPlan_333 ?_
                                      refine w_iand hx hb dX12_findPlan_334 ?_
                                      obtain ⟨t75, e76⟩ : ∃ t75 : Int, t75 = (andI x56 (xorI (M59 29 (sI ((24 * ((24 * x26) + x40)) + x58)).toNat) (-1))) := ⟨_, rfl⟩
                                      refine z_top (y := t75) e76.symm ?_
                                      have h := h t75 e76
                                      refine lv_istore (lv' := [(8, .int (iI t75)), (0, .ref (b + 0)), (2, .int (iI t22)), (3, .int (iI x56)), (4, .int (iI x26)), (5, .int (iI x57)), (6, .int (iI x40)), (7, .int (iI x58))]) hx hb dX12_findPlan_335 hl (by decide) rfl (fun ls hl => ?_)
                                      refine lv_aload_n hx hb dX12_findPlan_337 rfl (lv_at hl 1 rfl) ?_
                                      refine lv_iload hx hb dX12_findPlan_338 (lv_at hl 4 rfl) ?_
                                      refine lv_iload hx hb dX12_findPlan_340 (lv_at hl 6 rfl) ?_
                                      refine lv_iload hx hb dX12_findPlan_342 (lv_at hl 7 rfl) ?_
                                      refine w_calli (va_runV (As := [.int (iI x26), .int (iI x40), .int (iI x58)]) (rest := []) ⟨hx, hb, hml, hown, hts⟩ (cR_costOf l D dA b M59 x26 x40 x58 _ h) (cwV 3 hts (z_gV k1226 k1227 k1413 k14 k1228) rfl rfl rfl dm_X12_costOf ⟨Nat.le_of_ble_eq_true rfl, Nat.le_of_ble_eq_true rfl⟩) ⟨wPre_blind, (w_recv hS hK.1 (by decide) (zkd_of (rfl : zcd wR 0 = 50) rfl) (by decide) (rfl : vwCl[12]? = some (RX12, TX12, 50))), w_pre hS hK⟩ rfl rfl hl.1 rfl (lv_room (Nat.le_of_ble_eq_true rfl)) dX12_findPlan_344 ⟨Nat.le_refl _, Nat.le_refl _⟩) hS0 (fun z78 M77 H locs r79 h hS hS0 => ?_)
                                      obtain ⟨e80, h⟩ := h
                                      rw [e80] at hS
                                      refine lv_aload_n hx hb dX12_findPlan_347 rfl (lv_at hl 1 rfl) ?_
                                      refine w_getr (j2 := 28) hx hb hts (z_memU u12) hown hK.1 hS f12_43 (by decide) (zkd_of (rfl : zcd wR 0 = 50) rfl) (zrf_of (rfl : zcd wR 0 = 50) rfl) (Or.inl (hts _ (z_mem k987))) dX12_findPlan_348 ?_
                                      refine z_bipush hx hb (by decide) dX12_findPlan_351 ?_
                                      refine lv_iload hx hb dX12_findPlan_353 (lv_at hl 4 rfl) ?_
                                      refine z_iconst hx hb dX12_findPlan_355 ?_
                                      refine z_iadd hx hb dX12_findPlan_356 ?_
                                      refine z_imul hx hb dX12_findPlan_357 ?_
                                      refine lv_iload hx hb dX12_findPlan_358 (lv_at hl 0 rfl) ?_
                                      refine z_iadd hx hb dX12_findPlan_360 ?_
                                      obtain ⟨o81, h⟩ := h
                                      refine w_iald (n := 320) (i := (sI ((64 * (x26 + 1)) + t75))) hx hb hK.1 (t0 := 0) rfl hS (by decide) (zkd_of (rfl : zcd wR 28 = 78) rfl) (zln_of (rfl : zcd wR 28 = 78) rfl) rfl o81.1 o81.2 (by decide) dX12_findPlan_361 ?_
                                      refine z_iadd hx hb dX12_findPlan_362 ?_
                                      refine lv_aload_n hx hb dX12_findPlan_363 rfl (lv_at hl 1 rfl) ?_
                                      refine w_getr (j2 := 28) hx hb hts (z_memU u12) hown hK.1 hS f12_43 (by decide) (zkd_of (rfl : zcd wR 0 = 50) rfl) (zrf_of (rfl : zcd wR 0 = 50) rfl) (Or.inl (hts _ (z_mem k987))) dX12_findPlan_364 ?_
                                      refine z_bipush hx hb (by decide) dX12_findPlan_367 ?_
                                      refine lv_iload hx hb dX12_findPlan_369 (lv_at hl 4 rfl) ?_
                                      refine z_imul hx hb dX12_findPlan_371 ?_
                                      refine lv_iload_n hx hb dX12_findPlan_372 rfl (lv_at hl 3 rfl) ?_
                                      refine z_iadd hx hb dX12_findPlan_373 ?_
                                      obtain ⟨o82, h⟩ := h
                                      refine w_iald (n := 320) (i := (sI ((64 * x26) + x56))) hx hb hK.1 (t0 := 0) rfl hS (by decide) (zkd_of (rfl : zcd wR 28 = 78) rfl) (zln_of (rfl : zcd wR 28 = 78) rfl) rfl o82.1 o82.2 (by decide) dX12_findPlan_374 ?_
                                      refine w_icmp_eq (tgt := 381) hx hb rfl rfl dX12_findPlan_375 (by decide) (fun c83 => ?_) (fun c83 => ?_)
                                      · skip
                                        have h := h.1 c83
                                        refine lv_aload_n hx hb dX12_findPlan_381 rfl (lv_at hl 1 rfl) ?_
                                        refine w_getr (j2 := 22) hx hb hts (z_memU u12) hown hK.1 hS f12_33 (by decide) (zkd_of (rfl : zcd wR 0 = 50) rfl) (zrf_of (rfl : zcd wR 0 = 50) rfl) (Or.inl (hts _ (z_mem k977))) dX12_findPlan_382 ?_
                                        refine z_iconst hx hb dX12_findPlan_385 ?_
                                        refine lv_iload hx hb dX12_findPlan_386 (lv_at hl 4 rfl) ?_
                                        refine z_imul hx hb dX12_findPlan_388 ?_
                                        refine lv_iload hx hb dX12_findPlan_389 (lv_at hl 6 rfl) ?_
                                        obtain ⟨o84, h⟩ := h
                                        refine w_iast (z := x40) (n := 64) (i := (sI (2 * x26))) hx hb hK.1 (t0 := 0) rfl hS hS0 (by decide) (zkd_of (rfl : zcd wR 22 = 72) rfl) (zln_of (rfl : zcd wR 22 = 72) rfl) rfl o84.1 o84.2 (by decide) dX12_findPlan_391 (fun H locs hS hS0 => ?_)
                                        obtain ⟨M85, e86⟩ : ∃ M85 : zM, M85 = zup M59 22 (sI (2 * x26)).toNat x40 := ⟨_, rfl⟩
                                        rw [← e86] at hS
                                        have h := h M85 e86
                                        refine lv_aload_n hx hb dX12_findPlan_392 rfl (lv_at hl 1 rfl) ?_
                                        refine w_getr (j2 := 22) hx hb hts (z_memU u12) hown hK.1 hS f12_33 (by decide) (zkd_of (rfl : zcd wR 0 = 50) rfl) (zrf_of (rfl : zcd wR 0 = 50) rfl) (Or.inl (hts _ (z_mem k977))) dX12_findPlan_393 ?_
                                        refine z_iconst hx hb dX12_findPlan_396 ?_
                                        refine lv_iload hx hb dX12_findPlan_397 (lv_at hl 4 rfl) ?_
                                        refine z_imul hx hb dX12_findPlan_399 ?_
                                        refine z_iconst hx hb dX12_findPlan_400 ?_
                                        refine z_iadd hx hb dX12_findPlan_401 ?_
                                        refine lv_iload hx hb dX12_findPlan_402 (lv_at hl 7 rfl) ?_
                                        obtain ⟨o87, h⟩ := h
                                        refine w_iast (z := x58) (n := 64) (i := (sI ((2 * x26) + 1))) hx hb hK.1 (t0 := 0) rfl hS hS0 (by decide) (zkd_of (rfl : zcd wR 22 = 72) rfl) (zln_of (rfl : zcd wR 22 = 72) rfl) rfl o87.1 o87.2 (by decide) dX12_findPlan_404 (fun H locs hS hS0 => ?_)
                                        obtain ⟨M88, e89⟩ : ∃ M88 : zM, M88 = zup M85 22 (sI ((2 * x26) + 1)).toNat x58 := ⟨_, rfl⟩
                                        rw [← e89] at hS
                                        have h := h M88 e89
                                        refine lv_iload hx hb dX12_findPlan_405 (lv_at hl 0 rfl) ?_
                                        refine lv_istore_n (lv' := [(3, .int (iI t75)), (8, .int (iI t75)), (0, .ref (b + 0)), (2, .int (iI t22)), (4, .int (iI x26)), (5, .int (iI x57)), (6, .int (iI x40)), (7, .int (iI x58))]) hx hb dX12_findPlan_407 rfl hl (by decide) rfl (fun ls hl => ?_)
                                        refine z_iconst hx hb dX12_findPlan_408 ?_
                                        refine lv_istore (lv' := [(5, .int (iI 1)), (3, .int (iI t75)), (8, .int (iI t75)), (0, .ref (b + 0)), (2, .int (iI t22)), (4, .int (iI x26)), (6, .int (iI x40)), (7, .int (iI x58))]) hx hb dX12_findPlan_409 hl (by decide) rfl (fun ls hl => ?_)
                                        refine z_iinc (lv' := [(7, .int (iI (x58 + 1))), (5, .int (iI 1)), (3, .int (iI t75)), (8, .int (iI t75)), (0, .ref (b + 0)), (2, .int (iI t22)), (4, .int (iI x26)), (6, .int (iI x40))]) hx hb dX12_findPlan_411 hl (k := 7) rfl (by decide) rfl (fun ls hl => ?_)
                                        refine lv_goto (tgt := 292) hx hb dX12_findPlan_414 (by decide) ?_
                                        obtain ⟨n90, h91, h⟩ := h
                                        exact i66 n90 h91 t75 1 (x58 + 1) M88 _ _ _ h hS hS0 (lv_sub hl [4, 5, 2, 6, 1, 7, 0] rfl)
                                      · skip
                                        have h := h.2 c83
                                        refine lv_goto (tgt := 411) hx hb dX12_findPlan_378 (by decide) ?_
                                        refine z_iinc (lv' := [(7, .int (iI (x58 + 1))), (8, .int (iI t75)), (0, .ref (b + 0)), (2, .int (iI t22)), (3, .int (iI x56)), (4, .int (iI x26)), (5, .int (iI x57)), (6, .int (iI x40))]) hx hb dX12_findPlan_411 hl (k := 7) rfl (by decide) rfl (fun ls hl => ?_)
                                        refine lv_goto (tgt := 292) hx hb dX12_findPlan_414 (by decide) ?_
                                        obtain ⟨n92, h93, h⟩ := h
                                        exact i66 n92 h93 x56 x57 (x58 + 1) M59 _ _ _ h hS hS0 (lv_sub hl [2, 3, 4, 5, 6, 7, 0] rfl)
                              exact L64 n61 x38 x39 0 M41 _ _ _ h62 hS hS0 (lv_sub hl [1, 2, 3, 4, 5, 6, 0] rfl)
                      exact L46 n43 x25 0 0 M27 _ _ _ h44 hS hS0 (lv_sub hl [2, 3, 4, 5, 1, 0] rfl)
                exact L32 n29 ((shlI 1 (M 0 16)) - 1) 0 M12 _ _ _ h30 hS hS0 (lv_sub hl [3, 2, 1, 0] rfl)
              · skip
                have h := h.2 c24
                refine z_iconst hx hb dX12_findPlan_248 ?_
                exact w_iret hx hb hr hlocks hS hS0 (sI_of (by decide)) h dX12_findPlan_249
            · skip
              have h := h.2 c20
              refine z_iconst hx hb dX12_findPlan_56 ?_
              refine lv_istore_n (lv' := [(3, .int (iI 0)), (0, .ref (b + 0)), (1, .int (iI (shlI 1 (M 0 16)))), (2, .int (iI x11))]) hx hb dX12_findPlan_57 rfl hl (by decide) rfl (fun ls hl => ?_)
              obtain ⟨I96, ⟨n97, h98⟩, h99⟩ := h
              have L100 : ∀ (n101 : Nat) (x94 : Int) (M95 : zM) (H : Heap) (locs : List Loc) (ls : Array Slot), I96 n101 x94 M95 → zR D dA vwCl wR nR b M95 H → va_S (zA nR b) s.heap H locs → lv_has ls 9 [(0, .ref (b + 0)), (1, .int (iI (shlI 1 (M 0 16)))), (2, .int (iI x11)), (3, .int (iI x94))] → W p l e (headSpec (.code yX12_findPlan cX12_findPlan 9 (some .int) :: zt) (z_rm 3)).room s m args below meth c H locs 0 0 (MQ below (va_Qi (wQi Q) (zB D dA vwCl wR nR b) (zA nR b)) args s 0 0 (zA nR b)) (F0 m 58 ls []) := by
                intro n101
                induction n101 using Nat.strongRecOn with
                | ind n101 i102 =>
                  intro x94 M95 H locs ls h hS hS0 hl
                  have h := h99 n101 x94 M95 h
                  refine lv_iload_n hx hb dX12_findPlan_58 rfl (lv_at hl 3 rfl) ?_
                  refine lv_iload_n hx hb dX12_findPlan_59 rfl (lv_at hl 1 rfl) ?_
                  refine w_icmp_ge (tgt := 83) hx hb rfl (sI_of (shlI_R _ _)) dX12_findPlan_60 (by decide) (fun c103 => ?_) (fun c103 => ?_)
                  · skip
                    have h := h.1 c103
                    refine z_iconst hx hb dX12_findPlan_83 ?_
                    refine lv_istore_n (lv' := [(3, .int (iI 0)), (0, .ref (b + 0)), (1, .int (iI (shlI 1 (M 0 16)))), (2, .int (iI x11))]) hx hb dX12_findPlan_84 rfl hl (by decide) rfl (fun ls hl => ?_)
                    obtain ⟨I106, ⟨n107, h108⟩, h109⟩ := h
                    have L110 : ∀ (n111 : Nat) (x104 : Int) (M105 : zM) (H : Heap) (locs : List Loc) (ls : Array Slot), I106 n111 x104 M105 → zR D dA vwCl wR nR b M105 H → va_S (zA nR b) s.heap H locs → lv_has ls 9 [(0, .ref (b + 0)), (1, .int (iI (shlI 1 (M 0 16)))), (2, .int (iI x11)), (3, .int (iI x104))] → W p l e (headSpec (.code yX12_findPlan cX12_findPlan 9 (some .int) :: zt) (z_rm 3)).room s m args below meth c H locs 0 0 (MQ below (va_Qi (wQi Q) (zB D dA vwCl wR nR b) (zA nR b)) args s 0 0 (zA nR b)) (F0 m 85 ls []) := by
                      intro n111
                      induction n111 using Nat.strongRecOn with
                      | ind n111 i112 =>
                        intro x104 M105 H locs ls h hS hS0 hl
                        have h := h109 n111 x104 M105 h
                        refine lv_iload_n hx hb dX12_findPlan_85 rfl (lv_at hl 3 rfl) ?_
                        refine lv_aload_n hx hb dX12_findPlan_86 rfl (lv_at hl 0 rfl) ?_
                        refine w_getr (j2 := 4) hx hb hts (z_memU u12) hown hK.1 hS f12_5 (by decide) (zkd_of (rfl : zcd wR 0 = 50) rfl) (zrf_of (rfl : zcd wR 0 = 50) rfl) (Or.inl (hts _ (z_mem k949))) dX12_findPlan_87 ?_
                        refine lv_iload_n hx hb dX12_findPlan_90 rfl (lv_at hl 2 rfl) ?_
                        obtain ⟨o113, h⟩ := h
                        refine w_iald (n := 4) (i := (sI x11)) hx hb hK.1 (t0 := 0) rfl hS (by decide) (zkd_of (rfl : zcd wR 4 = 54) rfl) (zln_of (rfl : zcd wR 4 = 54) rfl) rfl o113.1 o113.2 (by decide) dX12_findPlan_91 ?_
                        refine w_icmp_ge (tgt := 226) hx hb rfl rfl dX12_findPlan_92 (by decide) (fun c114 => ?_) (fun c114 => ?_)
                        · skip
                          have h := h.1 c114
                          refine z_iinc (lv' := [(2, .int (iI (x11 + (-1)))), (0, .ref (b + 0)), (1, .int (iI (shlI 1 (M 0 16)))), (3, .int (iI x104))]) hx hb dX12_findPlan_226 hl (k := 2) rfl (by decide) rfl (fun ls hl => ?_)
                          refine lv_goto (tgt := 52) hx hb dX12_findPlan_229 (by decide) ?_
                          obtain ⟨n115, h116, h⟩ := h
                          exact i19 n115 h116 (x11 + (-1)) M105 _ _ _ h hS hS0 (lv_sub hl [1, 2, 0] rfl)
                        · skip
                          have h := h.2 c114
                          refine z_iconst hx hb dX12_findPlan_95 ?_
                          refine lv_istore (lv' := [(4, .int (iI 0)), (0, .ref (b + 0)), (1, .int (iI (shlI 1 (M 0 16)))), (2, .int (iI x11)), (3, .int (iI x104))]) hx hb dX12_findPlan_96 hl (by decide) rfl (fun ls hl => ?_)
                          obtain ⟨I119, ⟨n120, h121⟩, h122⟩ := h
                          have L123 : ∀ (n124 : Nat) (x117 : Int) (M118 : zM) (H : Heap) (locs : List Loc) (ls : Array Slot), I119 n124 x117 M118 → zR D dA vwCl wR nR b M118 H → va_S (zA nR b) s.heap H locs → lv_has ls 9 [(0, .ref (b + 0)), (1, .int (iI (shlI 1 (M 0 16)))), (2, .int (iI x11)), (3, .int (iI x104)), (4, .int (iI x117))] → W p l e (headSpec (.code yX12_findPlan cX12_findPlan 9 (some .int) :: zt) (z_rm 3)).room s m args below meth c H locs 0 0 (MQ below (va_Qi (wQi Q) (zB D dA vwCl wR nR b) (zA nR b)) args s 0 0 (zA nR b)) (F0 m 98 ls []) := by
                            intro n124
                            induction n124 using Nat.strongRecOn with
                            | ind n124 i125 =>
                              intro x117 M118 H locs ls h hS hS0 hl
                              have h := h122 n124 x117 M118 h
                              refine lv_iload hx hb dX12_findPlan_98 (lv_at hl 4 rfl) ?_
                              refine lv_aload_n hx hb dX12_findPlan_100 rfl (lv_at hl 0 rfl) ?_
                              refine w_getr (j2 := 4) hx hb hts (z_memU u12) hown hK.1 hS f12_5 (by decide) (zkd_of (rfl : zcd wR 0 = 50) rfl) (zrf_of (rfl : zcd wR 0 = 50) rfl) (Or.inl (hts _ (z_mem k949))) dX12_findPlan_101 ?_
                              refine lv_iload_n hx hb dX12_findPlan_104 rfl (lv_at hl 2 rfl) ?_
                              obtain ⟨o126, h⟩ := h
                              refine w_iald (n := 4) (i := (sI x11)) hx hb hK.1 (t0 := 0) rfl hS (by decide) (zkd_of (rfl : zcd wR 4 = 54) rfl) (zln_of (rfl : zcd wR 4 = 54) rfl) rfl o126.1 o126.2 (by decide) dX12_findPlan_105 ?_
                              refine lv_iload_n hx hb dX12_findPlan_106 rfl (lv_at hl 3 rfl) ?_
                              refine z_isub hx hb dX12_findPlan_107 ?_
                              refine w_icmp_ge (tgt := 220) hx hb rfl rfl dX12_findPlan_108 (by decide) (fun c127 => ?_) (fun c127 => ?_)
                              · skip
                                have h := h.1 c127
                                refine z_iinc (lv' := [(3, .int (iI (x104 + 1))), (0, .ref (b + 0)), (1, .int (iI (shlI 1 (M 0 16)))), (2, .int (iI x11)), (4, .int (iI x117))]) hx hb dX12_findPlan_220 hl (k := 3) rfl (by decide) rfl (fun ls hl => ?_)
                                refine lv_goto (tgt := 85) hx hb dX12_findPlan_223 (by decide) ?_
                                obtain ⟨n128, h129, h⟩ := h
                                exact i112 n128 h129 (x104 + 1) M118 _ _ _ h hS hS0 (lv_sub hl [1, 2, 3, 0] rfl)
                              · skip
                                have h := h.2 c127
                                refine lv_aload_n hx hb dX12_findPlan_111 rfl (lv_at hl 0 rfl) ?_
                                refine lv_iload_n hx hb dX12_findPlan_112 rfl (lv_at hl 2 rfl) ?_
                                refine lv_iload_n hx hb dX12_findPlan_113 rfl (lv_at hl 3 rfl) ?_
                                refine lv_iload hx hb dX12_findPlan_114 (lv_at hl 4 rfl) ?_
                                refine w_calli (va_runV (As := [.int (iI x11), .int (iI x104), .int (iI x117)]) (rest := []) ⟨hx, hb, hml, hown, hts⟩ (cR_truths l D dA b M118 x11 x104 x117 _ h) (cwV 3 hts (z_gV k1215 k1216 k1411 k14 k1217) rfl rfl rfl dm_X12_truths ⟨Nat.le_of_ble_eq_true rfl, Nat.le_of_ble_eq_true rfl⟩) ⟨wPre_blind, (w_recv hS hK.1 (by decide) (zkd_of (rfl : zcd wR 0 = 50) rfl) (by decide) (rfl : vwCl[12]? = some (RX12, TX12, 50))), w_pre hS hK⟩ rfl rfl hl.1 rfl (lv_room (Nat.le_of_ble_eq_true rfl)) dX12_findPlan_116 ⟨Nat.le_refl _, Nat.le_refl _⟩) hS0 (fun z131 M130 H locs r132 h hS hS0 => ?_)
                                obtain ⟨e133, h⟩ := h
                                rw [e133] at hS
                                refine lv_istore (lv' := [(5, .int (iI z131)), (0, .ref (b + 0)), (1, .int (iI (shlI 1 (M 0 16)))), (2, .int (iI x11)), (3, .int (iI x104)), (4, .int (iI x117))]) hx hb dX12_findPlan_119 hl (by decide) rfl (fun ls hl => ?_)
                                refine lv_aload_n hx hb dX12_findPlan_121 rfl (lv_at hl 1 rfl) ?_
                                refine w_getr (j2 := 29) hx hb hts (z_memU u12) hown hK.1 hS f12_44 (by decide) (zkd_of (rfl : zcd wR 0 = 50) rfl) (zrf_of (rfl : zcd wR 0 = 50) rfl) (Or.inl (hts _ (z_mem k988))) dX12_findPlan_122 ?_
                                refine z_bipush hx hb (by decide) dX12_findPlan_125 ?_
                                refine z_bipush hx hb (by decide) dX12_findPlan_127 ?_
                                refine lv_iload_n hx hb dX12_findPlan_129 rfl (lv_at hl 3 rfl) ?_
                                refine z_imul hx hb dX12_findPlan_130 ?_
                                refine lv_iload_n hx hb dX12_findPlan_131 rfl (lv_at hl 4 rfl) ?_
                                refine z_iadd hx hb dX12_findPlan_132 ?_
                                refine z_imul hx hb dX12_findPlan_133 ?_
                                refine lv_iload hx hb dX12_findPlan_134 (lv_at hl 5 rfl) ?_
                                refine z_iadd hx hb dX12_findPlan_136 ?_
                                refine lv_iload hx hb dX12_findPlan_137 (lv_at hl 0 rfl) ?_
                                obtain ⟨o134, h⟩ := h
                                refine w_iast (z := z131) (n := 2304) (i := (sI ((24 * ((24 * x11) + x104)) + x117))) hx hb hK.1 (t0 := 0) rfl hS hS0 (by decide) (zkd_of (rfl : zcd wR 29 = 79) rfl) (zln_of (rfl : zcd wR 29 = 79) rfl) rfl o134.1 o134.2 (by decide) dX12_findPlan_139 (fun H locs hS hS0 => ?_)
                                obtain ⟨M135, e136⟩ : ∃ M135 : zM, M135 = zup M118 29 (sI ((24 * ((24 * x11) + x104)) + x117)).toNat z131 := ⟨_, rfl⟩
                                rw [← e136] at hS
                                have h := h M135 e136
                                refine z_iconst hx hb dX12_findPlan_140 ?_
                                refine lv_istore (lv' := [(6, .int (iI 0)), (5, .int (iI z131)), (0, .ref (b + 0)), (1, .int (iI (shlI 1 (M 0 16)))), (2, .int (iI x11)), (3, .int (iI x104)), (4, .int (iI x117))]) hx hb dX12_findPlan_141 hl (by decide) rfl (fun ls hl => ?_)
                                obtain ⟨I139, ⟨n140, h141⟩, h142⟩ := h
                                have L143 : ∀ (n144 : Nat) (x137 : Int) (M138 : zM) (H : Heap) (locs : List Loc) (ls : Array Slot), I139 n144 x137 M138 → zR D dA vwCl wR nR b M138 H → va_S (zA nR b) s.heap H locs → lv_has ls 9 [(0, .ref (b + 0)), (1, .int (iI (shlI 1 (M 0 16)))), (2, .int (iI x11)), (3, .int (iI x104)), (4, .int (iI x117)), (5, .int (iI z131)), (6, .int (iI x137))] → W p l e (headSpec (.code yX12_findPlan cX12_findPlan 9 (some .int) :: zt) (z_rm 3)).room s m args below meth c H locs 0 0 (MQ below (va_Qi (wQi Q) (zB D dA vwCl wR nR b) (zA nR b)) args s 0 0 (zA nR b)) (F0 m 143 ls []) := by
                                  intro n144
                                  induction n144 using Nat.strongRecOn with
                                  | ind n144 i145 =>
                                    intro x137 M138 H locs ls h hS hS0 hl
                                    have h := h142 n144 x137 M138 h
                                    refine lv_iload hx hb dX12_findPlan_143 (lv_at hl 6 rfl) ?_
                                    refine lv_iload_n hx hb dX12_findPlan_145 rfl (lv_at hl 1 rfl) ?_
                                    refine w_icmp_ge (tgt := 214) hx hb rfl (sI_of (shlI_R _ _)) dX12_findPlan_146 (by decide) (fun c146 => ?_) (fun c146 => ?_)
                                    · skip
                                      have h := h.1 c146
                                      refine z_iinc (lv' := [(4, .int (iI (x117 + 1))), (0, .ref (b + 0)), (1, .int (iI (shlI 1 (M 0 16)))), (2, .int (iI x11)), (3, .int (iI x104)), (5, .int (iI z131)), (6, .int (iI x137))]) hx hb dX12_findPlan_214 hl (k := 4) rfl (by decide) rfl (fun ls hl => ?_)
                                      refine lv_goto (tgt := 98) hx hb dX12_findPlan_217 (by decide) ?_
                                      obtain ⟨n147, h148, h⟩ := h
                                      exact i125 n147 h148 (x117 + 1) M138 _ _ _ h hS hS0 (lv_sub hl [1, 2, 3, 4, 0] rfl)
                                    · skip
                                      have h := h.2 c146
                                      refine lv_aload_n hx hb dX12_findPlan_149 rfl (lv_at hl 0 rfl) ?_
                                      refine lv_iload_n hx hb dX12_findPlan_150 rfl (lv_at hl 2 rfl) ?_
                                      refine lv_iload_n hx hb dX12_findPlan_151 rfl (lv_at hl 3 rfl) ?_
                                      refine lv_iload hx hb dX12_findPlan_152 (lv_at hl 4 rfl) ?_
                                      refine w_calli (va_runV (As := [.int (iI x11), .int (iI x104), .int (iI x117)]) (rest := []) ⟨hx, hb, hml, hown, hts⟩ (cR_costOf l D dA b M138 x11 x104 x117 _ h) (cwV 3 hts (z_gV k1226 k1227 k1413 k14 k1228) rfl rfl rfl dm_X12_costOf ⟨Nat.le_of_ble_eq_true rfl, Nat.le_of_ble_eq_true rfl⟩) ⟨wPre_blind, (w_recv hS hK.1 (by decide) (zkd_of (rfl : zcd wR 0 = 50) rfl) (by decide) (rfl : vwCl[12]? = some (RX12, TX12, 50))), w_pre hS hK⟩ rfl rfl hl.1 rfl (lv_room (Nat.le_of_ble_eq_true rfl)) dX12_findPlan_154 ⟨Nat.le_refl _, Nat.le_refl _⟩) hS0 (fun z150 M149 H locs r151 h hS hS0 => ?_)
                                      obtain ⟨e152, h⟩ := h
                                      rw [e152] at hS
                                      refine lv_aload_n hx hb dX12_findPlan_157 rfl (lv_at hl 0 rfl) ?_
                                      refine w_getr (j2 := 28) hx hb hts (z_memU u12) hown hK.1 hS f12_43 (by decide) (zkd_of (rfl : zcd wR 0 = 50) rfl) (zrf_of (rfl : zcd wR 0 = 50) rfl) (Or.inl (hts _ (z_mem k987))) dX12_findPlan_158 ?_
                                      refine z_bipush hx hb (by decide) dX12_findPlan_161 ?_
                                      refine lv_iload_n hx hb dX12_findPlan_163 rfl (lv_at hl 2 rfl) ?_
                                      refine z_iconst hx hb dX12_findPlan_164 ?_
                                      refine z_iadd hx hb dX12_findPlan_165 ?_
                                      refine z_imul hx hb dX12_findPlan_166 ?_
                                      refine lv_iload hx hb dX12_findPlan_167 (lv_at hl 6 rfl) ?_
                                      refine lv_iload hx hb dX12_findPlan_169 (lv_at hl 5 rfl) ?_
                                      refine z_iconst hx hb dX12_findPlan_171 ?_
                                      refine w_ixor hx hb dX12_findPlan_172 ?_
                                      refine w_iand hx hb dX12_findPlan_173 ?_
                                      refine z_iadd hx hb dX12_findPlan_174 ?_
                                      obtain ⟨o153, h⟩ := h
                                      refine w_iald (n := 320) (i := (sI ((64 * (x11 + 1)) + (andI x137 (xorI z131 (-1)))))) hx hb hK.1 (t0 := 0) rfl hS (by decide) (zkd_of (rfl : zcd wR 28 = 78) rfl) (zln_of (rfl : zcd wR 28 = 78) rfl) rfl o153.1 o153.2 (by decide) dX12_findPlan_175 ?_
                                      refine z_iadd hx hb dX12_findPlan_176 ?_
                                      obtain ⟨t154, e155⟩ : ∃ t154 : Int, t154 = (z150 + (M138 28 (sI ((64 * (x11 + 1)) + (andI x137 (xorI z131 (-1))))).toNat)) := ⟨_, rfl⟩
                                      refine z_top (y := t154) e155.symm ?_
                                      have h := h t154 e155
                                      refine lv_istore (lv' := [(7, .int (iI t154)), (0, .ref (b + 0)), (1, .int (iI (shlI 1 (M 0 16)))), (2, .int (iI x11)), (3, .int (iI x104)), (4, .int (iI x117)), (5, .int (iI z131)), (6, .int (iI x137))]) hx hb dX12_findPlan_177 hl (by decide) rfl (fun ls hl => ?_)
                                      refine lv_aload_n hx hb dX12_findPlan_179 rfl (lv_at hl 1 rfl) ?_
                                      refine w_getr (j2 := 28) hx hb hts (z_memU u12) hown hK.1 hS f12_43 (by decide) (zkd_of (rfl : zcd wR 0 = 50) rfl) (zrf_of (rfl : zcd wR 0 = 50) rfl) (Or.inl (hts _ (z_mem k987))) dX12_findPlan_180 ?_
                                      refine z_bipush hx hb (by decide) dX12_findPlan_183 ?_
                                      refine lv_iload_n hx hb dX12_findPlan_185 rfl (lv_at hl 3 rfl) ?_
                                      refine z_imul hx hb dX12_findPlan_186 ?_
                                      refine lv_iload hx hb dX12_findPlan_187 (lv_at hl 7 rfl) ?_
                                      refine z_iadd hx hb dX12_findPlan_189 ?_
                                      refine lv_aload_n hx hb dX12_findPlan_190 rfl (lv_at hl 1 rfl) ?_
                                      refine w_getr (j2 := 28) hx hb hts (z_memU u12) hown hK.1 hS f12_43 (by decide) (zkd_of (rfl : zcd wR 0 = 50) rfl) (zrf_of (rfl : zcd wR 0 = 50) rfl) (Or.inl (hts _ (z_mem k987))) dX12_findPlan_191 ?_
                                      refine z_bipush hx hb (by decide) dX12_findPlan_194 ?_
                                      refine lv_iload_n hx hb dX12_findPlan_196 rfl (lv_at hl 3 rfl) ?_
                                      refine z_imul hx hb dX12_findPlan_197 ?_
                                      refine lv_iload hx hb dX12_findPlan_198 (lv_at hl 7 rfl) ?_
                                      refine z_iadd hx hb dX12_findPlan_200 ?_
                                      obtain ⟨o156, h⟩ := h
                                      refine w_iald (n := 320) (i := (sI ((64 * x11) + x137))) hx hb hK.1 (t0 := 0) rfl hS (by decide) (zkd_of (rfl : zcd wR 28 = 78) rfl) (zln_of (rfl : zcd wR 28 = 78) rfl) rfl o156.1 o156.2 (by decide) dX12_findPlan_201 ?_
                                      refine lv_iload hx hb dX12_findPlan_202 (lv_at hl 0 rfl) ?_
                                      refine w_mmin hx hb (hml.trans hl.1.symm) hown (hts _ (z_mem k1229)) (hts _ (z_mem k320)) (hts _ (z_mem k15)) (hts _ (z_mem k321)) (by exact Nat.le_of_ble_eq_true rfl) (by exact Nat.le_of_ble_eq_true rfl) (by exact Nat.le_refl _) (by exact Nat.le_refl _) rfl rfl dX12_findPlan_204 ?_
                                      obtain ⟨o157, h⟩ := h
                                      refine w_iast (z := (min (sI (M138 28 (sI ((64 * x11) + x137)).toNat)) (sI t154))) (n := 320) (i := (sI ((64 * x11) + x137))) hx hb hK.1 (t0 := 0) rfl hS hS0 (by decide) (zkd_of (rfl : zcd wR 28 = 78) rfl) (zln_of (rfl : zcd wR 28 = 78) rfl) rfl o157.1 o157.2 (by decide) dX12_findPlan_207 (fun H locs hS hS0 => ?_)
                                      obtain ⟨M158, e159⟩ : ∃ M158 : zM, M158 = zup M138 28 (sI ((64 * x11) + x137)).toNat (min (sI (M138 28 (sI ((64 * x11) + x137)).toNat)) (sI t154)) := ⟨_, rfl⟩
                                      rw [← e159] at hS
                                      have h := h M158 e159
                                      refine z_iinc (lv' := [(6, .int (iI (x137 + 1))), (7, .int (iI t154)), (0, .ref (b + 0)), (1, .int (iI (shlI 1 (M 0 16)))), (2, .int (iI x11)), (3, .int (iI x104)), (4, .int (iI x117)), (5, .int (iI z131))]) hx hb dX12_findPlan_208 hl (k := 7) rfl (by decide) rfl (fun ls hl => ?_)
                                      refine lv_goto (tgt := 143) hx hb dX12_findPlan_211 (by decide) ?_
                                      obtain ⟨n160, h161, h⟩ := h
                                      exact i145 n160 h161 (x137 + 1) M158 _ _ _ h hS hS0 (lv_sub hl [2, 3, 4, 5, 6, 7, 0] rfl)
                                exact L143 n140 0 M135 _ _ _ h141 hS hS0 (lv_sub hl [2, 3, 4, 5, 6, 1, 0] rfl)
                          exact L123 n120 0 M105 _ _ _ h121 hS hS0 (lv_sub hl [1, 2, 3, 4, 0] rfl)
                    exact L110 n107 0 M95 _ _ _ h108 hS hS0 (lv_sub hl [1, 2, 3, 0] rfl)
                  · skip
                    have h := h.2 c103
                    refine lv_aload_n hx hb dX12_findPlan_63 rfl (lv_at hl 0 rfl) ?_
                    refine w_getr (j2 := 28) hx hb hts (z_memU u12) hown hK.1 hS f12_43 (by decide) (zkd_of (rfl : zcd wR 0 = 50) rfl) (zrf_of (rfl : zcd wR 0 = 50) rfl) (Or.inl (hts _ (z_mem k987))) dX12_findPlan_64 ?_
                    refine z_bipush hx hb (by decide) dX12_findPlan_67 ?_
                    refine lv_iload_n hx hb dX12_findPlan_69 rfl (lv_at hl 2 rfl) ?_
                    refine z_imul hx hb dX12_findPlan_70 ?_
                    refine lv_iload_n hx hb dX12_findPlan_71 rfl (lv_at hl 3 rfl) ?_
                    refine z_iadd hx hb dX12_findPlan_72 ?_
                    refine z_ldcw (n := 268435456) hx hb hown (hts _ (z_mem k1225)) (by decide) dX12_findPlan_73 ?_
                    obtain ⟨o162, h⟩ := h
                    refine w_iast (z := 268435456) (n := 320) (i := (sI ((64 * x11) + x94))) hx hb hK.1 (t0 := 0) rfl hS hS0 (by decide) (zkd_of (rfl : zcd wR 28 = 78) rfl) (zln_of (rfl : zcd wR 28 = 78) rfl) rfl o162.1 o162.2 (by decide) dX12_findPlan_76 (fun H locs hS hS0 => ?_)
                    obtain ⟨M163, e164⟩ : ∃ M163 : zM, M163 = zup M95 28 (sI ((64 * x11) + x94)).toNat 268435456 := ⟨_, rfl⟩
                    rw [← e164] at hS
                    have h := h M163 e164
                    refine z_iinc (lv' := [(3, .int (iI (x94 + 1))), (0, .ref (b + 0)), (1, .int (iI (shlI 1 (M 0 16)))), (2, .int (iI x11))]) hx hb dX12_findPlan_77 hl (k := 3) rfl (by decide) rfl (fun ls hl => ?_)
                    refine lv_goto (tgt := 58) hx hb dX12_findPlan_80 (by decide) ?_
                    obtain ⟨n165, h166, h⟩ := h
                    exact i102 n165 h166 (x94 + 1) M163 _ _ _ h hS hS0 (lv_sub hl [1, 2, 3, 0] rfl)
              exact L100 n97 0 M12 _ _ _ h98 hS hS0 (lv_sub hl [1, 2, 3, 0] rfl)
        exact L17 n14 ((M2 0 10) - 1) M2 _ _ _ h15 hS hS0 (lv_sub hl [1, 2, 0] rfl)
      · skip
        have h := h.2 c10
        refine lv_aload_n hx hb dX12_findPlan_14 rfl (lv_at hl 0 rfl) ?_
        refine w_getr (j2 := 28) hx hb hts (z_memU u12) hown hK.1 hS f12_43 (by decide) (zkd_of (rfl : zcd wR 0 = 50) rfl) (zrf_of (rfl : zcd wR 0 = 50) rfl) (Or.inl (hts _ (z_mem k987))) dX12_findPlan_15 ?_
        refine z_bipush hx hb (by decide) dX12_findPlan_18 ?_
        refine lv_aload_n hx hb dX12_findPlan_20 rfl (lv_at hl 0 rfl) ?_
        refine w_geti hx hb hts (z_memU u12) hown hK.1 hS f12_10 (by decide) (zkd_of (rfl : zcd wR 0 = 50) rfl) (Or.inl (hts _ (z_mem k954))) dX12_findPlan_21 ?_
        refine z_imul hx hb dX12_findPlan_24 ?_
        refine lv_iload_n hx hb dX12_findPlan_25 rfl (lv_at hl 2 rfl) ?_
        refine z_iadd hx hb dX12_findPlan_26 ?_
        refine lv_iload_n hx hb dX12_findPlan_27 rfl (lv_at hl 2 rfl) ?_
        refine w_if_ne (tgt := 35) hx hb rfl dX12_findPlan_28 (by decide) (fun c167 => ?_) (fun c167 => ?_)
        · skip
          have h := h.1 c167
          refine z_ldcw (n := 268435456) hx hb hown (hts _ (z_mem k1225)) (by decide) dX12_findPlan_35 ?_
          obtain ⟨o168, h⟩ := h
          refine w_iast (z := 268435456) (n := 320) (i := (sI ((64 * (M2 0 10)) + x1))) hx hb hK.1 (t0 := 0) rfl hS hS0 (by decide) (zkd_of (rfl : zcd wR 28 = 78) rfl) (zln_of (rfl : zcd wR 28 = 78) rfl) rfl o168.1 o168.2 (by decide) dX12_findPlan_38 (fun H locs hS hS0 => ?_)
          obtain ⟨M169, e170⟩ : ∃ M169 : zM, M169 = zup M2 28 (sI ((64 * (M2 0 10)) + x1)).toNat 268435456 := ⟨_, rfl⟩
          rw [← e170] at hS
          have h := h M169 e170
          refine z_iinc (lv' := [(2, .int (iI (x1 + 1))), (0, .ref (b + 0)), (1, .int (iI (shlI 1 (M 0 16))))]) hx hb dX12_findPlan_39 hl (k := 2) rfl (by decide) rfl (fun ls hl => ?_)
          refine lv_goto (tgt := 9) hx hb dX12_findPlan_42 (by decide) ?_
          obtain ⟨n171, h172, h⟩ := h
          exact i9 n171 h172 (x1 + 1) M169 _ _ _ h hS hS0 (lv_sub hl [1, 2, 0] rfl)
        · skip
          have h := h.2 c167
          refine z_iconst hx hb dX12_findPlan_31 ?_
          refine lv_goto (tgt := 38) hx hb dX12_findPlan_32 (by decide) ?_
          obtain ⟨o173, h⟩ := h
          refine w_iast (z := 0) (n := 320) (i := (sI ((64 * (M2 0 10)) + x1))) hx hb hK.1 (t0 := 0) rfl hS hS0 (by decide) (zkd_of (rfl : zcd wR 28 = 78) rfl) (zln_of (rfl : zcd wR 28 = 78) rfl) rfl o173.1 o173.2 (by decide) dX12_findPlan_38 (fun H locs hS hS0 => ?_)
          obtain ⟨M174, e175⟩ : ∃ M174 : zM, M174 = zup M2 28 (sI ((64 * (M2 0 10)) + x1)).toNat 0 := ⟨_, rfl⟩
          rw [← e175] at hS
          have h := h M174 e175
          refine z_iinc (lv' := [(2, .int (iI (x1 + 1))), (0, .ref (b + 0)), (1, .int (iI (shlI 1 (M 0 16))))]) hx hb dX12_findPlan_39 hl (k := 2) rfl (by decide) rfl (fun ls hl => ?_)
          refine lv_goto (tgt := 9) hx hb dX12_findPlan_42 (by decide) ?_
          obtain ⟨n176, h177, h⟩ := h
          exact i9 n176 h177 (x1 + 1) M174 _ _ _ h hS hS0 (lv_sub hl [1, 2, 0] rfl)
  exact L7 n4 0 M _ _ _ h5 hS hS0 (lv_sub hl [2, 1, 0] rfl)

set_option maxRecDepth 100000 in
def wR_plan  (M : zM) (Q : Int → zM → Prop) : Prop := (∀ M1 : zM, M1 = zup M 0 35 0 → wR_findPlan  M1 (fun z4 M3 => Q z4 M3))
set_option maxHeartbeats 4000000 in
set_option maxRecDepth 100000 in
theorem cR_plan (l : Launch) (D : va_G) (dA : Nat → ClassId) (b : Nat) (M : zM)   (Q : Int → zM → Prop) (h : wR_plan  M Q) : Met l yX12_plan (.code yX12_plan cX12_plan 1 (some .int) :: zt) (z_rm 4) (va_Pc [.ref (b + 0)] (wPre D dA vwCl (z_tys dA) wR nR b M)) (va_Qi (wQi Q) (zB D dA vwCl wR nR b) (zA nR b)) 0 0 (zA nR b) := by
  unfold wR_plan at h
  refine Met.ofW (cc := cX12_plan) (maxL := 1) (ret := (some .int)) (by decide) rfl ?_
  intro p e s m args below meth c s₁ B hml hv
  obtain ⟨hargs, hS, hK⟩ := hv
  have hx := B.exec
  have hb := B.bytes
  have hr := B.returns
  have hts := atoms_spec (ws := .code yX12_plan cX12_plan 1 (some .int) :: zt) B.pre
  have hown : s.vm.findClass RX12 = some m.cls := findClass_of_methodNamed B.named
  have hlocks := B.notSynchronized
  have hS0 : va_S (zA nR b) s.heap s.heap [] := va_S.rf
  have hl := lv_entry ([.ref (b + 0)]) (n := 1) (Nat.le_of_ble_eq_true rfl)
  have hent : entryFrame m args 1 = F0 m 0 ((lg_sl ([.ref (b + 0)]) ++ List.replicate (1 - (lg_sl ([.ref (b + 0)])).length) Slot.unset).toArray) [] := by rw [hargs]; exact lg_entry_eq m ([.ref (b + 0)]) 1
  rw [hent]
  generalize (lg_sl ([.ref (b + 0)]) ++ List.replicate (1 - (lg_sl ([.ref (b + 0)])).length) Slot.unset).toArray = ls at hl ⊢
  have hl : lv_has ls 1 [(0, .ref (b + 0))] := hl
  refine lv_aload_n hx hb dX12_plan_0 rfl (lv_at hl 0 rfl) ?_
  refine z_iconst hx hb dX12_plan_1 ?_
  refine w_puti hx hb hts (z_memU u12) tyX12 tyX12_ok nmX12 hown hK.1 hS hS0 f12_35 (by decide) (zkd_of (rfl : zcd wR 0 = 50) rfl) (Or.inl (hts _ (z_mem k979))) rfl (z := 0) (by decide +kernel) dX12_plan_2 (fun H locs hS hS0 => ?_)
  obtain ⟨M1, e2⟩ : ∃ M1 : zM, M1 = zup M 0 35 0 := ⟨_, rfl⟩
  rw [← e2] at hS
  have h := h M1 e2
  refine lv_aload_n hx hb dX12_plan_5 rfl (lv_at hl 0 rfl) ?_
  refine w_calli (va_runV (As := []) (rest := []) ⟨hx, hb, hml, hown, hts⟩ (cR_findPlan l D dA b M1  _ h) (cwV 0 hts (z_gV k1222 k1223 k1412 k14 k1224) rfl rfl rfl dm_X12_findPlan ⟨Nat.le_of_ble_eq_true rfl, Nat.le_of_ble_eq_true rfl⟩) ⟨wPre_blind, (w_recv hS hK.1 (by decide) (zkd_of (rfl : zcd wR 0 = 50) rfl) (by decide) (rfl : vwCl[12]? = some (RX12, TX12, 50))), w_pre hS hK⟩ rfl rfl hl.1 rfl (lv_room (Nat.le_of_ble_eq_true rfl)) dX12_plan_6 ⟨Nat.le_refl _, Nat.le_refl _⟩) hS0 (fun z4 M3 H locs r5 h hS hS0 => ?_)
  exact w_iret hx hb hr hlocks hS hS0 (sI_of r5) h dX12_plan_9
