theorem dX12_init_0 : decode cX12_init 0 = .ok (.aload_n 0, 1) := by decide +kernel
theorem dX12_init_1 : decode cX12_init 1 = .ok (.invokespecial 1, 3) := by decide +kernel
theorem dX12_init_102 : decode cX12_init 102 = .ok (.aload_n 0, 1) := by decide +kernel
theorem dX12_init_103 : decode cX12_init 103 = .ok (.bipush 10, 2) := by decide +kernel
theorem dX12_init_105 : decode cX12_init 105 = .ok (.newarray .int, 2) := by decide +kernel
theorem dX12_init_107 : decode cX12_init 107 = .ok (.putfield 50, 3) := by decide +kernel
theorem dX12_init_110 : decode cX12_init 110 = .ok (.aload_n 0, 1) := by decide +kernel
theorem dX12_init_111 : decode cX12_init 111 = .ok (.iconst 1, 1) := by decide +kernel
theorem dX12_init_112 : decode cX12_init 112 = .ok (.putfield 53, 3) := by decide +kernel
theorem dX12_init_115 : decode cX12_init 115 = .ok (.aload_n 0, 1) := by decide +kernel
theorem dX12_init_116 : decode cX12_init 116 = .ok (.iconst 1, 1) := by decide +kernel
theorem dX12_init_117 : decode cX12_init 117 = .ok (.putfield 57, 3) := by decide +kernel
theorem dX12_init_12 : decode cX12_init 12 = .ok (.aload_n 0, 1) := by decide +kernel
theorem dX12_init_120 : decode cX12_init 120 = .ok (.aload_n 0, 1) := by decide +kernel
theorem dX12_init_121 : decode cX12_init 121 = .ok (.bipush 60, 2) := by decide +kernel
theorem dX12_init_123 : decode cX12_init 123 = .ok (.newarray .int, 2) := by decide +kernel
theorem dX12_init_125 : decode cX12_init 125 = .ok (.putfield 60, 3) := by decide +kernel
theorem dX12_init_128 : decode cX12_init 128 = .ok (.aload_n 0, 1) := by decide +kernel
theorem dX12_init_129 : decode cX12_init 129 = .ok (.bipush 40, 2) := by decide +kernel
theorem dX12_init_13 : decode cX12_init 13 = .ok (.bipush 24, 2) := by decide +kernel
theorem dX12_init_131 : decode cX12_init 131 = .ok (.newarray .int, 2) := by decide +kernel
theorem dX12_init_133 : decode cX12_init 133 = .ok (.putfield 63, 3) := by decide +kernel
theorem dX12_init_136 : decode cX12_init 136 = .ok (.aload_n 0, 1) := by decide +kernel
theorem dX12_init_137 : decode cX12_init 137 = .ok (.iconst 5, 1) := by decide +kernel
theorem dX12_init_138 : decode cX12_init 138 = .ok (.newarray .int, 2) := by decide +kernel
theorem dX12_init_140 : decode cX12_init 140 = .ok (.putfield 66, 3) := by decide +kernel
theorem dX12_init_143 : decode cX12_init 143 = .ok (.aload_n 0, 1) := by decide +kernel
theorem dX12_init_144 : decode cX12_init 144 = .ok (.sipush 384, 3) := by decide +kernel
theorem dX12_init_147 : decode cX12_init 147 = .ok (.newarray .int, 2) := by decide +kernel
theorem dX12_init_149 : decode cX12_init 149 = .ok (.putfield 69, 3) := by decide +kernel
theorem dX12_init_15 : decode cX12_init 15 = .ok (.newarray .int, 2) := by decide +kernel
theorem dX12_init_152 : decode cX12_init 152 = .ok (.aload_n 0, 1) := by decide +kernel
theorem dX12_init_153 : decode cX12_init 153 = .ok (.bipush 16, 2) := by decide +kernel
theorem dX12_init_155 : decode cX12_init 155 = .ok (.newarray .int, 2) := by decide +kernel
theorem dX12_init_157 : decode cX12_init 157 = .ok (.putfield 72, 3) := by decide +kernel
theorem dX12_init_160 : decode cX12_init 160 = .ok (.aload_n 0, 1) := by decide +kernel
theorem dX12_init_161 : decode cX12_init 161 = .ok (.bipush 16, 2) := by decide +kernel
theorem dX12_init_163 : decode cX12_init 163 = .ok (.newarray .int, 2) := by decide +kernel
theorem dX12_init_165 : decode cX12_init 165 = .ok (.putfield 75, 3) := by decide +kernel
theorem dX12_init_168 : decode cX12_init 168 = .ok (.aload_n 0, 1) := by decide +kernel
theorem dX12_init_169 : decode cX12_init 169 = .ok (.bipush 16, 2) := by decide +kernel
theorem dX12_init_17 : decode cX12_init 17 = .ok (.putfield 13, 3) := by decide +kernel
theorem dX12_init_171 : decode cX12_init 171 = .ok (.newarray .int, 2) := by decide +kernel
theorem dX12_init_173 : decode cX12_init 173 = .ok (.putfield 78, 3) := by decide +kernel
theorem dX12_init_176 : decode cX12_init 176 = .ok (.aload_n 0, 1) := by decide +kernel
theorem dX12_init_177 : decode cX12_init 177 = .ok (.bipush 64, 2) := by decide +kernel
theorem dX12_init_179 : decode cX12_init 179 = .ok (.newarray .int, 2) := by decide +kernel
theorem dX12_init_181 : decode cX12_init 181 = .ok (.putfield 81, 3) := by decide +kernel
theorem dX12_init_184 : decode cX12_init 184 = .ok (.aload_n 0, 1) := by decide +kernel
theorem dX12_init_185 : decode cX12_init 185 = .ok (.sipush 144, 3) := by decide +kernel
theorem dX12_init_188 : decode cX12_init 188 = .ok (.newarray .int, 2) := by decide +kernel
theorem dX12_init_190 : decode cX12_init 190 = .ok (.putfield 84, 3) := by decide +kernel
theorem dX12_init_193 : decode cX12_init 193 = .ok (.aload_n 0, 1) := by decide +kernel
theorem dX12_init_194 : decode cX12_init 194 = .ok (.bipush 6, 2) := by decide +kernel
theorem dX12_init_196 : decode cX12_init 196 = .ok (.newarray .int, 2) := by decide +kernel
theorem dX12_init_198 : decode cX12_init 198 = .ok (.putfield 87, 3) := by decide +kernel
theorem dX12_init_20 : decode cX12_init 20 = .ok (.aload_n 0, 1) := by decide +kernel
theorem dX12_init_201 : decode cX12_init 201 = .ok (.aload_n 0, 1) := by decide +kernel
theorem dX12_init_202 : decode cX12_init 202 = .ok (.sipush 144, 3) := by decide +kernel
theorem dX12_init_205 : decode cX12_init 205 = .ok (.newarray .int, 2) := by decide +kernel
theorem dX12_init_207 : decode cX12_init 207 = .ok (.putfield 90, 3) := by decide +kernel
theorem dX12_init_21 : decode cX12_init 21 = .ok (.bipush 96, 2) := by decide +kernel
theorem dX12_init_210 : decode cX12_init 210 = .ok (.aload_n 0, 1) := by decide +kernel
theorem dX12_init_211 : decode cX12_init 211 = .ok (.bipush 6, 2) := by decide +kernel
theorem dX12_init_213 : decode cX12_init 213 = .ok (.newarray .int, 2) := by decide +kernel
theorem dX12_init_215 : decode cX12_init 215 = .ok (.putfield 93, 3) := by decide +kernel
theorem dX12_init_218 : decode cX12_init 218 = .ok (.aload_n 0, 1) := by decide +kernel
theorem dX12_init_219 : decode cX12_init 219 = .ok (.bipush 96, 2) := by decide +kernel
theorem dX12_init_221 : decode cX12_init 221 = .ok (.newarray .boolean, 2) := by decide +kernel
theorem dX12_init_223 : decode cX12_init 223 = .ok (.putfield 96, 3) := by decide +kernel
theorem dX12_init_226 : decode cX12_init 226 = .ok (.aload_n 0, 1) := by decide +kernel
theorem dX12_init_227 : decode cX12_init 227 = .ok (.sipush 320, 3) := by decide +kernel
theorem dX12_init_23 : decode cX12_init 23 = .ok (.newarray .int, 2) := by decide +kernel
theorem dX12_init_230 : decode cX12_init 230 = .ok (.newarray .int, 2) := by decide +kernel
theorem dX12_init_232 : decode cX12_init 232 = .ok (.putfield 100, 3) := by decide +kernel
theorem dX12_init_235 : decode cX12_init 235 = .ok (.aload_n 0, 1) := by decide +kernel
theorem dX12_init_236 : decode cX12_init 236 = .ok (.sipush 2304, 3) := by decide +kernel
theorem dX12_init_239 : decode cX12_init 239 = .ok (.newarray .int, 2) := by decide +kernel
theorem dX12_init_241 : decode cX12_init 241 = .ok (.putfield 103, 3) := by decide +kernel
theorem dX12_init_244 : decode cX12_init 244 = .ok (.aload_n 0, 1) := by decide +kernel
theorem dX12_init_245 : decode cX12_init 245 = .ok (.sipush 4001, 3) := by decide +kernel
theorem dX12_init_248 : decode cX12_init 248 = .ok (.newarray .int, 2) := by decide +kernel
theorem dX12_init_25 : decode cX12_init 25 = .ok (.putfield 17, 3) := by decide +kernel
theorem dX12_init_250 : decode cX12_init 250 = .ok (.putfield 106, 3) := by decide +kernel
theorem dX12_init_253 : decode cX12_init 253 = .ok (.aload_n 0, 1) := by decide +kernel
theorem dX12_init_254 : decode cX12_init 254 = .ok (.sipush 240, 3) := by decide +kernel
theorem dX12_init_257 : decode cX12_init 257 = .ok (.newarray .int, 2) := by decide +kernel
theorem dX12_init_259 : decode cX12_init 259 = .ok (.putfield 109, 3) := by decide +kernel
theorem dX12_init_262 : decode cX12_init 262 = .ok (.aload_n 0, 1) := by decide +kernel
theorem dX12_init_263 : decode cX12_init 263 = .ok (.bipush 40, 2) := by decide +kernel
theorem dX12_init_265 : decode cX12_init 265 = .ok (.newarray .int, 2) := by decide +kernel
theorem dX12_init_267 : decode cX12_init 267 = .ok (.putfield 112, 3) := by decide +kernel
theorem dX12_init_270 : decode cX12_init 270 = .ok (.aload_n 0, 1) := by decide +kernel
theorem dX12_init_271 : decode cX12_init 271 = .ok (.sipush 625, 3) := by decide +kernel
theorem dX12_init_274 : decode cX12_init 274 = .ok (.newarray .int, 2) := by decide +kernel
theorem dX12_init_276 : decode cX12_init 276 = .ok (.putfield 115, 3) := by decide +kernel
theorem dX12_init_279 : decode cX12_init 279 = .ok (.iconst 1, 1) := by decide +kernel
theorem dX12_init_28 : decode cX12_init 28 = .ok (.aload_n 0, 1) := by decide +kernel
theorem dX12_init_280 : decode cX12_init 280 = .ok (.istore_n 1, 1) := by decide +kernel
theorem dX12_init_281 : decode cX12_init 281 = .ok (.iload_n 1, 1) := by decide +kernel
theorem dX12_init_282 : decode cX12_init 282 = .ok (.bipush 10, 2) := by decide +kernel
theorem dX12_init_284 : decode cX12_init 284 = .ok (.if_icmp .ge 17, 3) := by decide +kernel
theorem dX12_init_287 : decode cX12_init 287 = .ok (.aload_n 0, 1) := by decide +kernel
theorem dX12_init_288 : decode cX12_init 288 = .ok (.getfield 50, 3) := by decide +kernel
theorem dX12_init_29 : decode cX12_init 29 = .ok (.iconst 4, 1) := by decide +kernel
theorem dX12_init_291 : decode cX12_init 291 = .ok (.iload_n 1, 1) := by decide +kernel
theorem dX12_init_292 : decode cX12_init 292 = .ok (.bipush 100, 2) := by decide +kernel
theorem dX12_init_294 : decode cX12_init 294 = .ok (.iastore, 1) := by decide +kernel
theorem dX12_init_295 : decode cX12_init 295 = .ok (.iinc 1 1, 3) := by decide +kernel
theorem dX12_init_298 : decode cX12_init 298 = .ok (.goto (-17), 3) := by decide +kernel
theorem dX12_init_30 : decode cX12_init 30 = .ok (.newarray .int, 2) := by decide +kernel
theorem dX12_init_301 : decode cX12_init 301 = .ok (.return_, 1) := by decide +kernel
theorem dX12_init_32 : decode cX12_init 32 = .ok (.putfield 20, 3) := by decide +kernel
theorem dX12_init_35 : decode cX12_init 35 = .ok (.aload_n 0, 1) := by decide +kernel
theorem dX12_init_36 : decode cX12_init 36 = .ok (.iconst 4, 1) := by decide +kernel
theorem dX12_init_37 : decode cX12_init 37 = .ok (.newarray .int, 2) := by decide +kernel
theorem dX12_init_39 : decode cX12_init 39 = .ok (.putfield 23, 3) := by decide +kernel
theorem dX12_init_4 : decode cX12_init 4 = .ok (.aload_n 0, 1) := by decide +kernel
theorem dX12_init_42 : decode cX12_init 42 = .ok (.aload_n 0, 1) := by decide +kernel
theorem dX12_init_43 : decode cX12_init 43 = .ok (.iconst 4, 1) := by decide +kernel
theorem dX12_init_44 : decode cX12_init 44 = .ok (.newarray .int, 2) := by decide +kernel
theorem dX12_init_46 : decode cX12_init 46 = .ok (.putfield 26, 3) := by decide +kernel
theorem dX12_init_49 : decode cX12_init 49 = .ok (.aload_n 0, 1) := by decide +kernel
theorem dX12_init_5 : decode cX12_init 5 = .ok (.bipush 100, 2) := by decide +kernel
theorem dX12_init_50 : decode cX12_init 50 = .ok (.iconst 4, 1) := by decide +kernel
theorem dX12_init_51 : decode cX12_init 51 = .ok (.newarray .int, 2) := by decide +kernel
theorem dX12_init_53 : decode cX12_init 53 = .ok (.putfield 29, 3) := by decide +kernel
theorem dX12_init_56 : decode cX12_init 56 = .ok (.aload_n 0, 1) := by decide +kernel
theorem dX12_init_57 : decode cX12_init 57 = .ok (.iconst 4, 1) := by decide +kernel
theorem dX12_init_58 : decode cX12_init 58 = .ok (.newarray .int, 2) := by decide +kernel
theorem dX12_init_60 : decode cX12_init 60 = .ok (.putfield 32, 3) := by decide +kernel
theorem dX12_init_63 : decode cX12_init 63 = .ok (.aload_n 0, 1) := by decide +kernel
theorem dX12_init_64 : decode cX12_init 64 = .ok (.bipush 24, 2) := by decide +kernel
theorem dX12_init_66 : decode cX12_init 66 = .ok (.newarray .int, 2) := by decide +kernel
theorem dX12_init_68 : decode cX12_init 68 = .ok (.putfield 35, 3) := by decide +kernel
theorem dX12_init_7 : decode cX12_init 7 = .ok (.newarray .byte, 2) := by decide +kernel
theorem dX12_init_71 : decode cX12_init 71 = .ok (.aload_n 0, 1) := by decide +kernel
theorem dX12_init_72 : decode cX12_init 72 = .ok (.bipush 24, 2) := by decide +kernel
theorem dX12_init_74 : decode cX12_init 74 = .ok (.newarray .int, 2) := by decide +kernel
theorem dX12_init_76 : decode cX12_init 76 = .ok (.putfield 38, 3) := by decide +kernel
theorem dX12_init_79 : decode cX12_init 79 = .ok (.aload_n 0, 1) := by decide +kernel
theorem dX12_init_80 : decode cX12_init 80 = .ok (.iconst 2, 1) := by decide +kernel
theorem dX12_init_81 : decode cX12_init 81 = .ok (.newarray .int, 2) := by decide +kernel
theorem dX12_init_83 : decode cX12_init 83 = .ok (.putfield 41, 3) := by decide +kernel
theorem dX12_init_86 : decode cX12_init 86 = .ok (.aload_n 0, 1) := by decide +kernel
theorem dX12_init_87 : decode cX12_init 87 = .ok (.bipush 6, 2) := by decide +kernel
theorem dX12_init_89 : decode cX12_init 89 = .ok (.newarray .int, 2) := by decide +kernel
theorem dX12_init_9 : decode cX12_init 9 = .ok (.putfield 9, 3) := by decide +kernel
theorem dX12_init_91 : decode cX12_init 91 = .ok (.putfield 44, 3) := by decide +kernel
theorem dX12_init_94 : decode cX12_init 94 = .ok (.aload_n 0, 1) := by decide +kernel
theorem dX12_init_95 : decode cX12_init 95 = .ok (.bipush 6, 2) := by decide +kernel
theorem dX12_init_97 : decode cX12_init 97 = .ok (.newarray .int, 2) := by decide +kernel
theorem dX12_init_99 : decode cX12_init 99 = .ok (.putfield 47, 3) := by decide +kernel
def mT_R0 (T : zT) : zT := (tup (tup (tup (tup (tup (tup (tup (tup (tup (tup (tup (tup (tup (tup (tup (tup (tup (tup (tup (tup (tup (tup (tup (tup (tup (tup (tup (tup (tup (tup (tup (tup (tup T 0 0 1) 0 2 2) 0 4 3) 0 5 4) 0 6 5) 0 7 6) 0 8 7) 0 9 8) 0 11 9) 0 12 10) 0 13 11) 0 14 12) 0 15 13) 0 17 14) 0 23 15) 0 25 16) 0 26 17) 0 28 18) 0 29 19) 0 30 20) 0 31 21) 0 33 22) 0 38 23) 0 39 24) 0 40 25) 0 41 26) 0 42 27) 0 43 28) 0 44 29) 0 45 30) 0 46 31) 0 47 32) 0 49 33)
def mM_R0 (M : zM) : zM := (zup (zup (zup (zup (zup (zup (zup (zup (zup (zup (zup M 0 18 1) 0 20 1) 14 (1 : Int).toNat 100) 14 (2 : Int).toNat 100) 14 (3 : Int).toNat 100) 14 (4 : Int).toNat 100) 14 (5 : Int).toNat 100) 14 (6 : Int).toNat 100) 14 (7 : Int).toNat 100) 14 (8 : Int).toNat 100) 14 (9 : Int).toNat 100)
set_option maxHeartbeats 4000000 in
set_option maxRecDepth 100000 in
theorem mk_R0 (l : Launch) (D : va_G) (dA : Nat → ClassId) (b : Nat) (M : zM) (T : zT) : Met l yX12_init (.code yX12_init cX12_init 2 none :: zt) (y_rm 1 33 8839) (va_Pc [.ref (b + 0)] (yP D dA vwCl (z_tys dA) wR 1 b M T)) (va_Qv (fun _ => True) (yB D dA vwCl wR 34 b (mM_R0 M) (mT_R0 T)) (yA b)) 33 8839 (yA b) := by
  refine Met.ofW (cc := cX12_init) (maxL := 2) (ret := none) (by decide) rfl ?_
  intro p e s m args below meth c s₁ B hml hv
  obtain ⟨hargs, hY, hK, hO⟩ := hv
  have hx := B.exec
  have hb := B.bytes
  have hr := B.returns
  have hts := atoms_spec (ws := .code yX12_init cX12_init 2 none :: zt) B.pre
  have hown : s.vm.findClass RX12 = some m.cls := findClass_of_methodNamed B.named
  have hlocks := B.notSynchronized
  have hin : meth.name = "<init>" := (name_of_methodNamed B.named B.method).1
  have hS0 : va_S (yA b) s.heap s.heap [] := va_S.rf
  have hl := lv_entry ([.ref (b + 0)]) (n := 2) (Nat.le_of_ble_eq_true rfl)
  have hent : entryFrame m args 2 = F0 m 0 ((lg_sl ([.ref (b + 0)]) ++ List.replicate (2 - (lg_sl ([.ref (b + 0)])).length) Slot.unset).toArray) [] := by rw [hargs]; exact lg_entry_eq m ([.ref (b + 0)]) 2
  rw [hent]
  generalize (lg_sl ([.ref (b + 0)]) ++ List.replicate (2 - (lg_sl ([.ref (b + 0)])).length) Slot.unset).toArray = ls at hl ⊢
  have hl : lv_has ls 2 [(0, .ref (b + 0))] := hl
  refine lv_aload_n hx hb dX12_init_0 rfl (lv_at hl 0 rfl) ?_
  refine W.objInit hx hb hown (hts _ (z_mem k943)) (hts _ (z_mem k28)) (hts _ (z_mem k29)) rfl (by rw [hml]; exact hl.1) rfl dX12_init_1 (Nat.le_of_ble_eq_true rfl) (Nat.le_of_ble_eq_true rfl) ?_
  refine W.eq (g2 := F0 m 4 ls []) rfl ?_
  refine lv_aload_n hx hb dX12_init_4 rfl (lv_at hl 0 rfl) ?_
  refine z_bipush hx hb (by decide) dX12_init_5 ?_
  refine y_newa (atype := .byte) hx hb (hts _ (z_mem k1044)) (t0 := 2) (N := 100) (by decide) (by decide) (hK.1.2 2 _ rfl).2 rfl hY hS0 (zkd_of (rfl : zcd wR 1 = 51) rfl) (zln_of (rfl : zcd wR 1 = 51) rfl) (by decide) rfl (by decide) (by decide) (Nat.le_of_ble_eq_true rfl) (Nat.le_of_ble_eq_true rfl) dX12_init_7 (fun H hY hS0 => ?_)
  have hY : yS D dA vwCl wR 2 b _ _ H := hY
  refine y_putrF (t := 1) hx hb hts (z_memU u12) tyX12 tyX12_ok nmX12 hown hK.1 hY hS0 f12_0 (by decide) (zkd_of (rfl : zcd wR 0 = 50) rfl) (hts _ (z_mem k944)) rfl hin rfl (tyX12_ok 0 (by decide)) (fun _ => rfl) (fun _ => rfl) dX12_init_9 (fun H locs hY hS0 => ?_)
  refine lv_aload_n hx hb dX12_init_12 rfl (lv_at hl 0 rfl) ?_
  refine z_bipush hx hb (by decide) dX12_init_13 ?_
  refine y_newa (atype := .int) hx hb (hts _ (z_mem k53)) (t0 := 0) (N := 24) (by decide) (by decide) (hK.1.2 0 _ rfl).2 rfl hY hS0 (zkd_of (rfl : zcd wR 2 = 52) rfl) (zln_of (rfl : zcd wR 2 = 52) rfl) (by decide) rfl (by decide) (by decide) (Nat.le_of_ble_eq_true rfl) (Nat.le_of_ble_eq_true rfl) dX12_init_15 (fun H hY hS0 => ?_)
  have hY : yS D dA vwCl wR 3 b _ _ H := hY
  refine y_putrF (t := 2) hx hb hts (z_memU u12) tyX12 tyX12_ok nmX12 hown hK.1 hY hS0 f12_2 (by decide) (zkd_of (rfl : zcd wR 0 = 50) rfl) (hts _ (z_mem k946)) rfl hin rfl (tyX12_ok 2 (by decide)) (fun _ => rfl) (fun _ => rfl) dX12_init_17 (fun H locs hY hS0 => ?_)
  refine lv_aload_n hx hb dX12_init_20 rfl (lv_at hl 0 rfl) ?_
  refine z_bipush hx hb (by decide) dX12_init_21 ?_
  refine y_newa (atype := .int) hx hb (hts _ (z_mem k53)) (t0 := 0) (N := 96) (by decide) (by decide) (hK.1.2 0 _ rfl).2 rfl hY hS0 (zkd_of (rfl : zcd wR 3 = 53) rfl) (zln_of (rfl : zcd wR 3 = 53) rfl) (by decide) rfl (by decide) (by decide) (Nat.le_of_ble_eq_true rfl) (Nat.le_of_ble_eq_true rfl) dX12_init_23 (fun H hY hS0 => ?_)
  have hY : yS D dA vwCl wR 4 b _ _ H := hY
  refine y_putrF (t := 3) hx hb hts (z_memU u12) tyX12 tyX12_ok nmX12 hown hK.1 hY hS0 f12_4 (by decide) (zkd_of (rfl : zcd wR 0 = 50) rfl) (hts _ (z_mem k948)) rfl hin rfl (tyX12_ok 4 (by decide)) (fun _ => rfl) (fun _ => rfl) dX12_init_25 (fun H locs hY hS0 => ?_)
  refine lv_aload_n hx hb dX12_init_28 rfl (lv_at hl 0 rfl) ?_
  refine z_iconst hx hb dX12_init_29 ?_
  refine y_newa (atype := .int) hx hb (hts _ (z_mem k53)) (t0 := 0) (N := 4) (by decide) (by decide) (hK.1.2 0 _ rfl).2 rfl hY hS0 (zkd_of (rfl : zcd wR 4 = 54) rfl) (zln_of (rfl : zcd wR 4 = 54) rfl) (by decide) rfl (by decide) (by decide) (Nat.le_of_ble_eq_true rfl) (Nat.le_of_ble_eq_true rfl) dX12_init_30 (fun H hY hS0 => ?_)
  have hY : yS D dA vwCl wR 5 b _ _ H := hY
  refine y_putrF (t := 4) hx hb hts (z_memU u12) tyX12 tyX12_ok nmX12 hown hK.1 hY hS0 f12_5 (by decide) (zkd_of (rfl : zcd wR 0 = 50) rfl) (hts _ (z_mem k949)) rfl hin rfl (tyX12_ok 5 (by decide)) (fun _ => rfl) (fun _ => rfl) dX12_init_32 (fun H locs hY hS0 => ?_)
  refine lv_aload_n hx hb dX12_init_35 rfl (lv_at hl 0 rfl) ?_
  refine z_iconst hx hb dX12_init_36 ?_
  refine y_newa (atype := .int) hx hb (hts _ (z_mem k53)) (t0 := 0) (N := 4) (by decide) (by decide) (hK.1.2 0 _ rfl).2 rfl hY hS0 (zkd_of (rfl : zcd wR 5 = 55) rfl) (zln_of (rfl : zcd wR 5 = 55) rfl) (by decide) rfl (by decide) (by decide) (Nat.le_of_ble_eq_true rfl) (Nat.le_of_ble_eq_true rfl) dX12_init_37 (fun H hY hS0 => ?_)
  have hY : yS D dA vwCl wR 6 b _ _ H := hY
  refine y_putrF (t := 5) hx hb hts (z_memU u12) tyX12 tyX12_ok nmX12 hown hK.1 hY hS0 f12_6 (by decide) (zkd_of (rfl : zcd wR 0 = 50) rfl) (hts _ (z_mem k950)) rfl hin rfl (tyX12_ok 6 (by decide)) (fun _ => rfl) (fun _ => rfl) dX12_init_39 (fun H locs hY hS0 => ?_)
  refine lv_aload_n hx hb dX12_init_42 rfl (lv_at hl 0 rfl) ?_
  refine z_iconst hx hb dX12_init_43 ?_
  refine y_newa (atype := .int) hx hb (hts _ (z_mem k53)) (t0 := 0) (N := 4) (by decide) (by decide) (hK.1.2 0 _ rfl).2 rfl hY hS0 (zkd_of (rfl : zcd wR 6 = 56) rfl) (zln_of (rfl : zcd wR 6 = 56) rfl) (by decide) rfl (by decide) (by decide) (Nat.le_of_ble_eq_true rfl) (Nat.le_of_ble_eq_true rfl) dX12_init_44 (fun H hY hS0 => ?_)
  have hY : yS D dA vwCl wR 7 b _ _ H := hY
  refine y_putrF (t := 6) hx hb hts (z_memU u12) tyX12 tyX12_ok nmX12 hown hK.1 hY hS0 f12_7 (by decide) (zkd_of (rfl : zcd wR 0 = 50) rfl) (hts _ (z_mem k951)) rfl hin rfl (tyX12_ok 7 (by decide)) (fun _ => rfl) (fun _ => rfl) dX12_init_46 (fun H locs hY hS0 => ?_)
  refine lv_aload_n hx hb dX12_init_49 rfl (lv_at hl 0 rfl) ?_
  refine z_iconst hx hb dX12_init_50 ?_
  refine y_newa (atype := .int) hx hb (hts _ (z_mem k53)) (t0 := 0) (N := 4) (by decide) (by decide) (hK.1.2 0 _ rfl).2 rfl hY hS0 (zkd_of (rfl : zcd wR 7 = 57) rfl) (zln_of (rfl : zcd wR 7 = 57) rfl) (by decide) rfl (by decide) (by decide) (Nat.le_of_ble_eq_true rfl) (Nat.le_of_ble_eq_true rfl) dX12_init_51 (fun H hY hS0 => ?_)
  have hY : yS D dA vwCl wR 8 b _ _ H := hY
  refine y_putrF (t := 7) hx hb hts (z_memU u12) tyX12 tyX12_ok nmX12 hown hK.1 hY hS0 f12_8 (by decide) (zkd_of (rfl : zcd wR 0 = 50) rfl) (hts _ (z_mem k952)) rfl hin rfl (tyX12_ok 8 (by decide)) (fun _ => rfl) (fun _ => rfl) dX12_init_53 (fun H locs hY hS0 => ?_)
  refine lv_aload_n hx hb dX12_init_56 rfl (lv_at hl 0 rfl) ?_
  refine z_iconst hx hb dX12_init_57 ?_
  refine y_newa (atype := .int) hx hb (hts _ (z_mem k53)) (t0 := 0) (N := 4) (by decide) (by decide) (hK.1.2 0 _ rfl).2 rfl hY hS0 (zkd_of (rfl : zcd wR 8 = 58) rfl) (zln_of (rfl : zcd wR 8 = 58) rfl) (by decide) rfl (by decide) (by decide) (Nat.le_of_ble_eq_true rfl) (Nat.le_of_ble_eq_true rfl) dX12_init_58 (fun H hY hS0 => ?_)
  have hY : yS D dA vwCl wR 9 b _ _ H := hY
  refine y_putrF (t := 8) hx hb hts (z_memU u12) tyX12 tyX12_ok nmX12 hown hK.1 hY hS0 f12_9 (by decide) (zkd_of (rfl : zcd wR 0 = 50) rfl) (hts _ (z_mem k953)) rfl hin rfl (tyX12_ok 9 (by decide)) (fun _ => rfl) (fun _ => rfl) dX12_init_60 (fun H locs hY hS0 => ?_)
  refine lv_aload_n hx hb dX12_init_63 rfl (lv_at hl 0 rfl) ?_
  refine z_bipush hx hb (by decide) dX12_init_64 ?_
  refine y_newa (atype := .int) hx hb (hts _ (z_mem k53)) (t0 := 0) (N := 24) (by decide) (by decide) (hK.1.2 0 _ rfl).2 rfl hY hS0 (zkd_of (rfl : zcd wR 9 = 59) rfl) (zln_of (rfl : zcd wR 9 = 59) rfl) (by decide) rfl (by decide) (by decide) (Nat.le_of_ble_eq_true rfl) (Nat.le_of_ble_eq_true rfl) dX12_init_66 (fun H hY hS0 => ?_)
  have hY : yS D dA vwCl wR 10 b _ _ H := hY
  refine y_putrF (t := 9) hx hb hts (z_memU u12) tyX12 tyX12_ok nmX12 hown hK.1 hY hS0 f12_11 (by decide) (zkd_of (rfl : zcd wR 0 = 50) rfl) (hts _ (z_mem k955)) rfl hin rfl (tyX12_ok 11 (by decide)) (fun _ => rfl) (fun _ => rfl) dX12_init_68 (fun H locs hY hS0 => ?_)
  refine lv_aload_n hx hb dX12_init_71 rfl (lv_at hl 0 rfl) ?_
  refine z_bipush hx hb (by decide) dX12_init_72 ?_
  refine y_newa (atype := .int) hx hb (hts _ (z_mem k53)) (t0 := 0) (N := 24) (by decide) (by decide) (hK.1.2 0 _ rfl).2 rfl hY hS0 (zkd_of (rfl : zcd wR 10 = 60) rfl) (zln_of (rfl : zcd wR 10 = 60) rfl) (by decide) rfl (by decide) (by decide) (Nat.le_of_ble_eq_true rfl) (Nat.le_of_ble_eq_true rfl) dX12_init_74 (fun H hY hS0 => ?_)
  have hY : yS D dA vwCl wR 11 b _ _ H := hY
  refine y_putrF (t := 10) hx hb hts (z_memU u12) tyX12 tyX12_ok nmX12 hown hK.1 hY hS0 f12_12 (by decide) (zkd_of (rfl : zcd wR 0 = 50) rfl) (hts _ (z_mem k956)) rfl hin rfl (tyX12_ok 12 (by decide)) (fun _ => rfl) (fun _ => rfl) dX12_init_76 (fun H locs hY hS0 => ?_)
  refine lv_aload_n hx hb dX12_init_79 rfl (lv_at hl 0 rfl) ?_
  refine z_iconst hx hb dX12_init_80 ?_
  refine y_newa (atype := .int) hx hb (hts _ (z_mem k53)) (t0 := 0) (N := 2) (by decide) (by decide) (hK.1.2 0 _ rfl).2 rfl hY hS0 (zkd_of (rfl : zcd wR 11 = 61) rfl) (zln_of (rfl : zcd wR 11 = 61) rfl) (by decide) rfl (by decide) (by decide) (Nat.le_of_ble_eq_true rfl) (Nat.le_of_ble_eq_true rfl) dX12_init_81 (fun H hY hS0 => ?_)
  have hY : yS D dA vwCl wR 12 b _ _ H := hY
  refine y_putrF (t := 11) hx hb hts (z_memU u12) tyX12 tyX12_ok nmX12 hown hK.1 hY hS0 f12_13 (by decide) (zkd_of (rfl : zcd wR 0 = 50) rfl) (hts _ (z_mem k957)) rfl hin rfl (tyX12_ok 13 (by decide)) (fun _ => rfl) (fun _ => rfl) dX12_init_83 (fun H locs hY hS0 => ?_)
  refine lv_aload_n hx hb dX12_init_86 rfl (lv_at hl 0 rfl) ?_
  refine z_bipush hx hb (by decide) dX12_init_87 ?_
  refine y_newa (atype := .int) hx hb (hts _ (z_mem k53)) (t0 := 0) (N := 6) (by decide) (by decide) (hK.1.2 0 _ rfl).2 rfl hY hS0 (zkd_of (rfl : zcd wR 12 = 62) rfl) (zln_of (rfl : zcd wR 12 = 62) rfl) (by decide) rfl (by decide) (by decide) (Nat.le_of_ble_eq_true rfl) (Nat.le_of_ble_eq_true rfl) dX12_init_89 (fun H hY hS0 => ?_)
  have hY : yS D dA vwCl wR 13 b _ _ H := hY
  refine y_putrF (t := 12) hx hb hts (z_memU u12) tyX12 tyX12_ok nmX12 hown hK.1 hY hS0 f12_14 (by decide) (zkd_of (rfl : zcd wR 0 = 50) rfl) (hts _ (z_mem k958)) rfl hin rfl (tyX12_ok 14 (by decide)) (fun _ => rfl) (fun _ => rfl) dX12_init_91 (fun H locs hY hS0 => ?_)
  refine lv_aload_n hx hb dX12_init_94 rfl (lv_at hl 0 rfl) ?_
  refine z_bipush hx hb (by decide) dX12_init_95 ?_
  refine y_newa (atype := .int) hx hb (hts _ (z_mem k53)) (t0 := 0) (N := 6) (by decide) (by decide) (hK.1.2 0 _ rfl).2 rfl hY hS0 (zkd_of (rfl : zcd wR 13 = 63) rfl) (zln_of (rfl : zcd wR 13 = 63) rfl) (by decide) rfl (by decide) (by decide) (Nat.le_of_ble_eq_true rfl) (Nat.le_of_ble_eq_true rfl) dX12_init_97 (fun H hY hS0 => ?_)
  have hY : yS D dA vwCl wR 14 b _ _ H := hY
  refine y_putrF (t := 13) hx hb hts (z_memU u12) tyX12 tyX12_ok nmX12 hown hK.1 hY hS0 f12_15 (by decide) (zkd_of (rfl : zcd wR 0 = 50) rfl) (hts _ (z_mem k959)) rfl hin rfl (tyX12_ok 15 (by decide)) (fun _ => rfl) (fun _ => rfl) dX12_init_99 (fun H locs hY hS0 => ?_)
  refine lv_aload_n hx hb dX12_init_102 rfl (lv_at hl 0 rfl) ?_
  refine z_bipush hx hb (by decide) dX12_init_103 ?_
  refine y_newa (atype := .int) hx hb (hts _ (z_mem k53)) (t0 := 0) (N := 10) (by decide) (by decide) (hK.1.2 0 _ rfl).2 rfl hY hS0 (zkd_of (rfl : zcd wR 14 = 64) rfl) (zln_of (rfl : zcd wR 14 = 64) rfl) (by decide) rfl (by decide) (by decide) (Nat.le_of_ble_eq_true rfl) (Nat.le_of_ble_eq_true rfl) dX12_init_105 (fun H hY hS0 => ?_)
  have hY : yS D dA vwCl wR 15 b _ _ H := hY
  refine y_putrF (t := 14) hx hb hts (z_memU u12) tyX12 tyX12_ok nmX12 hown hK.1 hY hS0 f12_17 (by decide) (zkd_of (rfl : zcd wR 0 = 50) rfl) (hts _ (z_mem k961)) rfl hin rfl (tyX12_ok 17 (by decide)) (fun _ => rfl) (fun _ => rfl) dX12_init_107 (fun H locs hY hS0 => ?_)
  refine lv_aload_n hx hb dX12_init_110 rfl (lv_at hl 0 rfl) ?_
  refine z_iconst hx hb dX12_init_111 ?_
  refine y_puti (z := 1) hx hb hts (z_memU u12) tyX12 tyX12_ok nmX12 hown hK.1 hY hS0 f12_18 (by decide) (zkd_of (rfl : zcd wR 0 = 50) rfl) (Or.inl (hts _ (z_mem k962))) rfl (by decide +kernel) (zbd_in (rfl : zcd wR 0 = 50) rfl (by decide)) dX12_init_112 (fun H locs hY hS0 => ?_)
  refine lv_aload_n hx hb dX12_init_115 rfl (lv_at hl 0 rfl) ?_
  refine z_iconst hx hb dX12_init_116 ?_
  refine y_puti (z := 1) hx hb hts (z_memU u12) tyX12 tyX12_ok nmX12 hown hK.1 hY hS0 f12_20 (by decide) (zkd_of (rfl : zcd wR 0 = 50) rfl) (Or.inl (hts _ (z_mem k964))) rfl (by decide +kernel) (zbd_in (rfl : zcd wR 0 = 50) rfl (by decide)) dX12_init_117 (fun H locs hY hS0 => ?_)
  refine lv_aload_n hx hb dX12_init_120 rfl (lv_at hl 0 rfl) ?_
  refine z_bipush hx hb (by decide) dX12_init_121 ?_
  refine y_newa (atype := .int) hx hb (hts _ (z_mem k53)) (t0 := 0) (N := 60) (by decide) (by decide) (hK.1.2 0 _ rfl).2 rfl hY hS0 (zkd_of (rfl : zcd wR 15 = 65) rfl) (zln_of (rfl : zcd wR 15 = 65) rfl) (by decide) rfl (by decide) (by decide) (Nat.le_of_ble_eq_true rfl) (Nat.le_of_ble_eq_true rfl) dX12_init_123 (fun H hY hS0 => ?_)
  have hY : yS D dA vwCl wR 16 b _ _ H := hY
  refine y_putrF (t := 15) hx hb hts (z_memU u12) tyX12 tyX12_ok nmX12 hown hK.1 hY hS0 f12_23 (by decide) (zkd_of (rfl : zcd wR 0 = 50) rfl) (hts _ (z_mem k967)) rfl hin rfl (tyX12_ok 23 (by decide)) (fun _ => rfl) (fun _ => rfl) dX12_init_125 (fun H locs hY hS0 => ?_)
  refine lv_aload_n hx hb dX12_init_128 rfl (lv_at hl 0 rfl) ?_
  refine z_bipush hx hb (by decide) dX12_init_129 ?_
  refine y_newa (atype := .int) hx hb (hts _ (z_mem k53)) (t0 := 0) (N := 40) (by decide) (by decide) (hK.1.2 0 _ rfl).2 rfl hY hS0 (zkd_of (rfl : zcd wR 16 = 66) rfl) (zln_of (rfl : zcd wR 16 = 66) rfl) (by decide) rfl (by decide) (by decide) (Nat.le_of_ble_eq_true rfl) (Nat.le_of_ble_eq_true rfl) dX12_init_131 (fun H hY hS0 => ?_)
  have hY : yS D dA vwCl wR 17 b _ _ H := hY
  refine y_putrF (t := 16) hx hb hts (z_memU u12) tyX12 tyX12_ok nmX12 hown hK.1 hY hS0 f12_25 (by decide) (zkd_of (rfl : zcd wR 0 = 50) rfl) (hts _ (z_mem k969)) rfl hin rfl (tyX12_ok 25 (by decide)) (fun _ => rfl) (fun _ => rfl) dX12_init_133 (fun H locs hY hS0 => ?_)
  refine lv_aload_n hx hb dX12_init_136 rfl (lv_at hl 0 rfl) ?_
  refine z_iconst hx hb dX12_init_137 ?_
  refine y_newa (atype := .int) hx hb (hts _ (z_mem k53)) (t0 := 0) (N := 5) (by decide) (by decide) (hK.1.2 0 _ rfl).2 rfl hY hS0 (zkd_of (rfl : zcd wR 17 = 67) rfl) (zln_of (rfl : zcd wR 17 = 67) rfl) (by decide) rfl (by decide) (by decide) (Nat.le_of_ble_eq_true rfl) (Nat.le_of_ble_eq_true rfl) dX12_init_138 (fun H hY hS0 => ?_)
  have hY : yS D dA vwCl wR 18 b _ _ H := hY
  refine y_putrF (t := 17) hx hb hts (z_memU u12) tyX12 tyX12_ok nmX12 hown hK.1 hY hS0 f12_26 (by decide) (zkd_of (rfl : zcd wR 0 = 50) rfl) (hts _ (z_mem k970)) rfl hin rfl (tyX12_ok 26 (by decide)) (fun _ => rfl) (fun _ => rfl) dX12_init_140 (fun H locs hY hS0 => ?_)
  refine lv_aload_n hx hb dX12_init_143 rfl (lv_at hl 0 rfl) ?_
  refine z_sipush hx hb (by decide) dX12_init_144 ?_
  refine y_newa (atype := .int) hx hb (hts _ (z_mem k53)) (t0 := 0) (N := 384) (by decide) (by decide) (hK.1.2 0 _ rfl).2 rfl hY hS0 (zkd_of (rfl : zcd wR 18 = 68) rfl) (zln_of (rfl : zcd wR 18 = 68) rfl) (by decide) rfl (by decide) (by decide) (Nat.le_of_ble_eq_true rfl) (Nat.le_of_ble_eq_true rfl) dX12_init_147 (fun H hY hS0 => ?_)
  have hY : yS D dA vwCl wR 19 b _ _ H := hY
  refine y_putrF (t := 18) hx hb hts (z_memU u12) tyX12 tyX12_ok nmX12 hown hK.1 hY hS0 f12_28 (by decide) (zkd_of (rfl : zcd wR 0 = 50) rfl) (hts _ (z_mem k972)) rfl hin rfl (tyX12_ok 28 (by decide)) (fun _ => rfl) (fun _ => rfl) dX12_init_149 (fun H locs hY hS0 => ?_)
  refine lv_aload_n hx hb dX12_init_152 rfl (lv_at hl 0 rfl) ?_
  refine z_bipush hx hb (by decide) dX12_init_153 ?_
  refine y_newa (atype := .int) hx hb (hts _ (z_mem k53)) (t0 := 0) (N := 16) (by decide) (by decide) (hK.1.2 0 _ rfl).2 rfl hY hS0 (zkd_of (rfl : zcd wR 19 = 69) rfl) (zln_of (rfl : zcd wR 19 = 69) rfl) (by decide) rfl (by decide) (by decide) (Nat.le_of_ble_eq_true rfl) (Nat.le_of_ble_eq_true rfl) dX12_init_155 (fun H hY hS0 => ?_)
  have hY : yS D dA vwCl wR 20 b _ _ H := hY
  refine y_putrF (t := 19) hx hb hts (z_memU u12) tyX12 tyX12_ok nmX12 hown hK.1 hY hS0 f12_29 (by decide) (zkd_of (rfl : zcd wR 0 = 50) rfl) (hts _ (z_mem k973)) rfl hin rfl (tyX12_ok 29 (by decide)) (fun _ => rfl) (fun _ => rfl) dX12_init_157 (fun H locs hY hS0 => ?_)
  refine lv_aload_n hx hb dX12_init_160 rfl (lv_at hl 0 rfl) ?_
  refine z_bipush hx hb (by decide) dX12_init_161 ?_
  refine y_newa (atype := .int) hx hb (hts _ (z_mem k53)) (t0 := 0) (N := 16) (by decide) (by decide) (hK.1.2 0 _ rfl).2 rfl hY hS0 (zkd_of (rfl : zcd wR 20 = 70) rfl) (zln_of (rfl : zcd wR 20 = 70) rfl) (by decide) rfl (by decide) (by decide) (Nat.le_of_ble_eq_true rfl) (Nat.le_of_ble_eq_true rfl) dX12_init_163 (fun H hY hS0 => ?_)
  have hY : yS D dA vwCl wR 21 b _ _ H := hY
  refine y_putrF (t := 20) hx hb hts (z_memU u12) tyX12 tyX12_ok nmX12 hown hK.1 hY hS0 f12_30 (by decide) (zkd_of (rfl : zcd wR 0 = 50) rfl) (hts _ (z_mem k974)) rfl hin rfl (tyX12_ok 30 (by decide)) (fun _ => rfl) (fun _ => rfl) dX12_init_165 (fun H locs hY hS0 => ?_)
  refine lv_aload_n hx hb dX12_init_168 rfl (lv_at hl 0 rfl) ?_
  refine z_bipush hx hb (by decide) dX12_init_169 ?_
  refine y_newa (atype := .int) hx hb (hts _ (z_mem k53)) (t0 := 0) (N := 16) (by decide) (by decide) (hK.1.2 0 _ rfl).2 rfl hY hS0 (zkd_of (rfl : zcd wR 21 = 71) rfl) (zln_of (rfl : zcd wR 21 = 71) rfl) (by decide) rfl (by decide) (by decide) (Nat.le_of_ble_eq_true rfl) (Nat.le_of_ble_eq_true rfl) dX12_init_171 (fun H hY hS0 => ?_)
  have hY : yS D dA vwCl wR 22 b _ _ H := hY
  refine y_putrF (t := 21) hx hb hts (z_memU u12) tyX12 tyX12_ok nmX12 hown hK.1 hY hS0 f12_31 (by decide) (zkd_of (rfl : zcd wR 0 = 50) rfl) (hts _ (z_mem k975)) rfl hin rfl (tyX12_ok 31 (by decide)) (fun _ => rfl) (fun _ => rfl) dX12_init_173 (fun H locs hY hS0 => ?_)
  refine lv_aload_n hx hb dX12_init_176 rfl (lv_at hl 0 rfl) ?_
  refine z_bipush hx hb (by decide) dX12_init_177 ?_
  refine y_newa (atype := .int) hx hb (hts _ (z_mem k53)) (t0 := 0) (N := 64) (by decide) (by decide) (hK.1.2 0 _ rfl).2 rfl hY hS0 (zkd_of (rfl : zcd wR 22 = 72) rfl) (zln_of (rfl : zcd wR 22 = 72) rfl) (by decide) rfl (by decide) (by decide) (Nat.le_of_ble_eq_true rfl) (Nat.le_of_ble_eq_true rfl) dX12_init_179 (fun H hY hS0 => ?_)
  have hY : yS D dA vwCl wR 23 b _ _ H := hY
  refine y_putrF (t := 22) hx hb hts (z_memU u12) tyX12 tyX12_ok nmX12 hown hK.1 hY hS0 f12_33 (by decide) (zkd_of (rfl : zcd wR 0 = 50) rfl) (hts _ (z_mem k977)) rfl hin rfl (tyX12_ok 33 (by decide)) (fun _ => rfl) (fun _ => rfl) dX12_init_181 (fun H locs hY hS0 => ?_)
  refine lv_aload_n hx hb dX12_init_184 rfl (lv_at hl 0 rfl) ?_
  refine z_sipush hx hb (by decide) dX12_init_185 ?_
  refine y_newa (atype := .int) hx hb (hts _ (z_mem k53)) (t0 := 0) (N := 144) (by decide) (by decide) (hK.1.2 0 _ rfl).2 rfl hY hS0 (zkd_of (rfl : zcd wR 23 = 73) rfl) (zln_of (rfl : zcd wR 23 = 73) rfl) (by decide) rfl (by decide) (by decide) (Nat.le_of_ble_eq_true rfl) (Nat.le_of_ble_eq_true rfl) dX12_init_188 (fun H hY hS0 => ?_)
  have hY : yS D dA vwCl wR 24 b _ _ H := hY
  refine y_putrF (t := 23) hx hb hts (z_memU u12) tyX12 tyX12_ok nmX12 hown hK.1 hY hS0 f12_38 (by decide) (zkd_of (rfl : zcd wR 0 = 50) rfl) (hts _ (z_mem k982)) rfl hin rfl (tyX12_ok 38 (by decide)) (fun _ => rfl) (fun _ => rfl) dX12_init_190 (fun H locs hY hS0 => ?_)
  refine lv_aload_n hx hb dX12_init_193 rfl (lv_at hl 0 rfl) ?_
  refine z_bipush hx hb (by decide) dX12_init_194 ?_
  refine y_newa (atype := .int) hx hb (hts _ (z_mem k53)) (t0 := 0) (N := 6) (by decide) (by decide) (hK.1.2 0 _ rfl).2 rfl hY hS0 (zkd_of (rfl : zcd wR 24 = 74) rfl) (zln_of (rfl : zcd wR 24 = 74) rfl) (by decide) rfl (by decide) (by decide) (Nat.le_of_ble_eq_true rfl) (Nat.le_of_ble_eq_true rfl) dX12_init_196 (fun H hY hS0 => ?_)
  have hY : yS D dA vwCl wR 25 b _ _ H := hY
  refine y_putrF (t := 24) hx hb hts (z_memU u12) tyX12 tyX12_ok nmX12 hown hK.1 hY hS0 f12_39 (by decide) (zkd_of (rfl : zcd wR 0 = 50) rfl) (hts _ (z_mem k983)) rfl hin rfl (tyX12_ok 39 (by decide)) (fun _ => rfl) (fun _ => rfl) dX12_init_198 (fun H locs hY hS0 => ?_)
  refine lv_aload_n hx hb dX12_init_201 rfl (lv_at hl 0 rfl) ?_
  refine z_sipush hx hb (by decide) dX12_init_202 ?_
  refine y_newa (atype := .int) hx hb (hts _ (z_mem k53)) (t0 := 0) (N := 144) (by decide) (by decide) (hK.1.2 0 _ rfl).2 rfl hY hS0 (zkd_of (rfl : zcd wR 25 = 75) rfl) (zln_of (rfl : zcd wR 25 = 75) rfl) (by decide) rfl (by decide) (by decide) (Nat.le_of_ble_eq_true rfl) (Nat.le_of_ble_eq_true rfl) dX12_init_205 (fun H hY hS0 => ?_)
  have hY : yS D dA vwCl wR 26 b _ _ H := hY
  refine y_putrF (t := 25) hx hb hts (z_memU u12) tyX12 tyX12_ok nmX12 hown hK.1 hY hS0 f12_40 (by decide) (zkd_of (rfl : zcd wR 0 = 50) rfl) (hts _ (z_mem k984)) rfl hin rfl (tyX12_ok 40 (by decide)) (fun _ => rfl) (fun _ => rfl) dX12_init_207 (fun H locs hY hS0 => ?_)
  refine lv_aload_n hx hb dX12_init_210 rfl (lv_at hl 0 rfl) ?_
  refine z_bipush hx hb (by decide) dX12_init_211 ?_
  refine y_newa (atype := .int) hx hb (hts _ (z_mem k53)) (t0 := 0) (N := 6) (by decide) (by decide) (hK.1.2 0 _ rfl).2 rfl hY hS0 (zkd_of (rfl : zcd wR 26 = 76) rfl) (zln_of (rfl : zcd wR 26 = 76) rfl) (by decide) rfl (by decide) (by decide) (Nat.le_of_ble_eq_true rfl) (Nat.le_of_ble_eq_true rfl) dX12_init_213 (fun H hY hS0 => ?_)
  have hY : yS D dA vwCl wR 27 b _ _ H := hY
  refine y_putrF (t := 26) hx hb hts (z_memU u12) tyX12 tyX12_ok nmX12 hown hK.1 hY hS0 f12_41 (by decide) (zkd_of (rfl : zcd wR 0 = 50) rfl) (hts _ (z_mem k985)) rfl hin rfl (tyX12_ok 41 (by decide)) (fun _ => rfl) (fun _ => rfl) dX12_init_215 (fun H locs hY hS0 => ?_)
  refine lv_aload_n hx hb dX12_init_218 rfl (lv_at hl 0 rfl) ?_
  refine z_bipush hx hb (by decide) dX12_init_219 ?_
  refine y_newa (atype := .boolean) hx hb (hts _ (z_mem k1045)) (t0 := 3) (N := 96) (by decide) (by decide) (hK.1.2 3 _ rfl).2 rfl hY hS0 (zkd_of (rfl : zcd wR 27 = 77) rfl) (zln_of (rfl : zcd wR 27 = 77) rfl) (by decide) rfl (by decide) (by decide) (Nat.le_of_ble_eq_true rfl) (Nat.le_of_ble_eq_true rfl) dX12_init_221 (fun H hY hS0 => ?_)
  have hY : yS D dA vwCl wR 28 b _ _ H := hY
  refine y_putrF (t := 27) hx hb hts (z_memU u12) tyX12 tyX12_ok nmX12 hown hK.1 hY hS0 f12_42 (by decide) (zkd_of (rfl : zcd wR 0 = 50) rfl) (hts _ (z_mem k986)) rfl hin rfl (tyX12_ok 42 (by decide)) (fun _ => rfl) (fun _ => rfl) dX12_init_223 (fun H locs hY hS0 => ?_)
  refine lv_aload_n hx hb dX12_init_226 rfl (lv_at hl 0 rfl) ?_
  refine z_sipush hx hb (by decide) dX12_init_227 ?_
  refine y_newa (atype := .int) hx hb (hts _ (z_mem k53)) (t0 := 0) (N := 320) (by decide) (by decide) (hK.1.2 0 _ rfl).2 rfl hY hS0 (zkd_of (rfl : zcd wR 28 = 78) rfl) (zln_of (rfl : zcd wR 28 = 78) rfl) (by decide) rfl (by decide) (by decide) (Nat.le_of_ble_eq_true rfl) (Nat.le_of_ble_eq_true rfl) dX12_init_230 (fun H hY hS0 => ?_)
  have hY : yS D dA vwCl wR 29 b _ _ H := hY
  refine y_putrF (t := 28) hx hb hts (z_memU u12) tyX12 tyX12_ok nmX12 hown hK.1 hY hS0 f12_43 (by decide) (zkd_of (rfl : zcd wR 0 = 50) rfl) (hts _ (z_mem k987)) rfl hin rfl (tyX12_ok 43 (by decide)) (fun _ => rfl) (fun _ => rfl) dX12_init_232 (fun H locs hY hS0 => ?_)
  refine lv_aload_n hx hb dX12_init_235 rfl (lv_at hl 0 rfl) ?_
  refine z_sipush hx hb (by decide) dX12_init_236 ?_
  refine y_newa (atype := .int) hx hb (hts _ (z_mem k53)) (t0 := 0) (N := 2304) (by decide) (by decide) (hK.1.2 0 _ rfl).2 rfl hY hS0 (zkd_of (rfl : zcd wR 29 = 79) rfl) (zln_of (rfl : zcd wR 29 = 79) rfl) (by decide) rfl (by decide) (by decide) (Nat.le_of_ble_eq_true rfl) (Nat.le_of_ble_eq_true rfl) dX12_init_239 (fun H hY hS0 => ?_)
  have hY : yS D dA vwCl wR 30 b _ _ H := hY
  refine y_putrF (t := 29) hx hb hts (z_memU u12) tyX12 tyX12_ok nmX12 hown hK.1 hY hS0 f12_44 (by decide) (zkd_of (rfl : zcd wR 0 = 50) rfl) (hts _ (z_mem k988)) rfl hin rfl (tyX12_ok 44 (by decide)) (fun _ => rfl) (fun _ => rfl) dX12_init_241 (fun H locs hY hS0 => ?_)
  refine lv_aload_n hx hb dX12_init_244 rfl (lv_at hl 0 rfl) ?_
  refine z_sipush hx hb (by decide) dX12_init_245 ?_
  refine y_newa (atype := .int) hx hb (hts _ (z_mem k53)) (t0 := 0) (N := 4001) (by decide) (by decide) (hK.1.2 0 _ rfl).2 rfl hY hS0 (zkd_of (rfl : zcd wR 30 = 80) rfl) (zln_of (rfl : zcd wR 30 = 80) rfl) (by decide) rfl (by decide) (by decide) (Nat.le_of_ble_eq_true rfl) (Nat.le_of_ble_eq_true rfl) dX12_init_248 (fun H hY hS0 => ?_)
  have hY : yS D dA vwCl wR 31 b _ _ H := hY
  refine y_putrF (t := 30) hx hb hts (z_memU u12) tyX12 tyX12_ok nmX12 hown hK.1 hY hS0 f12_45 (by decide) (zkd_of (rfl : zcd wR 0 = 50) rfl) (hts _ (z_mem k989)) rfl hin rfl (tyX12_ok 45 (by decide)) (fun _ => rfl) (fun _ => rfl) dX12_init_250 (fun H locs hY hS0 => ?_)
  refine lv_aload_n hx hb dX12_init_253 rfl (lv_at hl 0 rfl) ?_
  refine z_sipush hx hb (by decide) dX12_init_254 ?_
  refine y_newa (atype := .int) hx hb (hts _ (z_mem k53)) (t0 := 0) (N := 240) (by decide) (by decide) (hK.1.2 0 _ rfl).2 rfl hY hS0 (zkd_of (rfl : zcd wR 31 = 81) rfl) (zln_of (rfl : zcd wR 31 = 81) rfl) (by decide) rfl (by decide) (by decide) (Nat.le_of_ble_eq_true rfl) (Nat.le_of_ble_eq_true rfl) dX12_init_257 (fun H hY hS0 => ?_)
  have hY : yS D dA vwCl wR 32 b _ _ H := hY
  refine y_putrF (t := 31) hx hb hts (z_memU u12) tyX12 tyX12_ok nmX12 hown hK.1 hY hS0 f12_46 (by decide) (zkd_of (rfl : zcd wR 0 = 50) rfl) (hts _ (z_mem k990)) rfl hin rfl (tyX12_ok 46 (by decide)) (fun _ => rfl) (fun _ => rfl) dX12_init_259 (fun H locs hY hS0 => ?_)
  refine lv_aload_n hx hb dX12_init_262 rfl (lv_at hl 0 rfl) ?_
  refine z_bipush hx hb (by decide) dX12_init_263 ?_
  refine y_newa (atype := .int) hx hb (hts _ (z_mem k53)) (t0 := 0) (N := 40) (by decide) (by decide) (hK.1.2 0 _ rfl).2 rfl hY hS0 (zkd_of (rfl : zcd wR 32 = 82) rfl) (zln_of (rfl : zcd wR 32 = 82) rfl) (by decide) rfl (by decide) (by decide) (Nat.le_of_ble_eq_true rfl) (Nat.le_of_ble_eq_true rfl) dX12_init_265 (fun H hY hS0 => ?_)
  have hY : yS D dA vwCl wR 33 b _ _ H := hY
  refine y_putrF (t := 32) hx hb hts (z_memU u12) tyX12 tyX12_ok nmX12 hown hK.1 hY hS0 f12_47 (by decide) (zkd_of (rfl : zcd wR 0 = 50) rfl) (hts _ (z_mem k991)) rfl hin rfl (tyX12_ok 47 (by decide)) (fun _ => rfl) (fun _ => rfl) dX12_init_267 (fun H locs hY hS0 => ?_)
  refine lv_aload_n hx hb dX12_init_270 rfl (lv_at hl 0 rfl) ?_
  refine z_sipush hx hb (by decide) dX12_init_271 ?_
  refine y_newa (atype := .int) hx hb (hts _ (z_mem k53)) (t0 := 0) (N := 625) (by decide) (by decide) (hK.1.2 0 _ rfl).2 rfl hY hS0 (zkd_of (rfl : zcd wR 33 = 83) rfl) (zln_of (rfl : zcd wR 33 = 83) rfl) (by decide) rfl (by decide) (by decide) (Nat.le_of_ble_eq_true rfl) (Nat.le_of_ble_eq_true rfl) dX12_init_274 (fun H hY hS0 => ?_)
  have hY : yS D dA vwCl wR 34 b _ _ H := hY
  refine y_putrF (t := 33) hx hb hts (z_memU u12) tyX12 tyX12_ok nmX12 hown hK.1 hY hS0 f12_49 (by decide) (zkd_of (rfl : zcd wR 0 = 50) rfl) (hts _ (z_mem k993)) rfl hin rfl (tyX12_ok 49 (by decide)) (fun _ => rfl) (fun _ => rfl) dX12_init_276 (fun H locs hY hS0 => ?_)
  refine z_iconst hx hb dX12_init_279 ?_
  refine lv_istore_n (lv' := [(1, .int (iI 1)), (0, .ref (b + 0))]) hx hb dX12_init_280 rfl hl (by decide) rfl (fun ls hl => ?_)
  refine lv_iload_n hx hb dX12_init_281 rfl (lv_at hl 0 rfl) ?_
  refine z_bipush hx hb (by decide) dX12_init_282 ?_
  refine z_icmp_ge (tgt := 301) hx hb (by decide) (by decide) dX12_init_284 (by decide) (fun c9 => absurd c9 (by decide)) (fun _ => ?_)
  refine lv_aload_n hx hb dX12_init_287 rfl (lv_at hl 1 rfl) ?_
  refine y_getr (t := 14) hx hb hts (z_memU u12) hown hK.1 hY f12_17 (by decide) (zkd_of (rfl : zcd wR 0 = 50) rfl) (by first | rfl | simp [tup]) (Or.inl (hts _ (z_mem k961))) dX12_init_288 ?_
  refine lv_iload_n hx hb dX12_init_291 rfl (lv_at hl 0 rfl) ?_
  refine z_bipush hx hb (by decide) dX12_init_292 ?_
  refine y_iast (N := 10) (z := 100) (i := 1) hx hb hK.1 (t0 := 0) rfl hY hS0 (by decide) (zkd_of (rfl : zcd wR 14 = 64) rfl) (zln_of (rfl : zcd wR 14 = 64) rfl) (by decide) (by decide) (by decide) (zbd_in (rfl : zcd wR 14 = 64) rfl (by decide)) dX12_init_294 (fun H locs hY hS0 => ?_)
  refine z_iinc (lv' := [(1, .int (iI (1 + 1))), (0, .ref (b + 0))]) hx hb dX12_init_295 hl (k := 0) rfl (by decide) rfl (fun ls hl => ?_)
  rw [show ((1 + 1) : Int) = 2 from by decide] at hl
  refine lv_goto (tgt := 281) hx hb dX12_init_298 (by decide) ?_
  refine lv_iload_n hx hb dX12_init_281 rfl (lv_at hl 0 rfl) ?_
  refine z_bipush hx hb (by decide) dX12_init_282 ?_
  refine z_icmp_ge (tgt := 301) hx hb (by decide) (by decide) dX12_init_284 (by decide) (fun c9 => absurd c9 (by decide)) (fun _ => ?_)
  refine lv_aload_n hx hb dX12_init_287 rfl (lv_at hl 1 rfl) ?_
  refine y_getr (t := 14) hx hb hts (z_memU u12) hown hK.1 hY f12_17 (by decide) (zkd_of (rfl : zcd wR 0 = 50) rfl) (by first | rfl | simp [tup]) (Or.inl (hts _ (z_mem k961))) dX12_init_288 ?_
  refine lv_iload_n hx hb dX12_init_291 rfl (lv_at hl 0 rfl) ?_
  refine z_bipush hx hb (by decide) dX12_init_292 ?_
  refine y_iast (N := 10) (z := 100) (i := 2) hx hb hK.1 (t0 := 0) rfl hY hS0 (by decide) (zkd_of (rfl : zcd wR 14 = 64) rfl) (zln_of (rfl : zcd wR 14 = 64) rfl) (by decide) (by decide) (by decide) (zbd_in (rfl : zcd wR 14 = 64) rfl (by decide)) dX12_init_294 (fun H locs hY hS0 => ?_)
  refine z_iinc (lv' := [(1, .int (iI (2 + 1))), (0, .ref (b + 0))]) hx hb dX12_init_295 hl (k := 0) rfl (by decide) rfl (fun ls hl => ?_)
  rw [show ((2 + 1) : Int) = 3 from by decide] at hl
  refine lv_goto (tgt := 281) hx hb dX12_init_298 (by decide) ?_
  refine lv_iload_n hx hb dX12_init_281 rfl (lv_at hl 0 rfl) ?_
  refine z_bipush hx hb (by decide) dX12_init_282 ?_
  refine z_icmp_ge (tgt := 301) hx hb (by decide) (by decide) dX12_init_284 (by decide) (fun c9 => absurd c9 (by decide)) (fun _ => ?_)
  refine lv_aload_n hx hb dX12_init_287 rfl (lv_at hl 1 rfl) ?_
  refine y_getr (t := 14) hx hb hts (z_memU u12) hown hK.1 hY f12_17 (by decide) (zkd_of (rfl : zcd wR 0 = 50) rfl) (by first | rfl | simp [tup]) (Or.inl (hts _ (z_mem k961))) dX12_init_288 ?_
  refine lv_iload_n hx hb dX12_init_291 rfl (lv_at hl 0 rfl) ?_
  refine z_bipush hx hb (by decide) dX12_init_292 ?_
  refine y_iast (N := 10) (z := 100) (i := 3) hx hb hK.1 (t0 := 0) rfl hY hS0 (by decide) (zkd_of (rfl : zcd wR 14 = 64) rfl) (zln_of (rfl : zcd wR 14 = 64) rfl) (by decide) (by decide) (by decide) (zbd_in (rfl : zcd wR 14 = 64) rfl (by decide)) dX12_init_294 (fun H locs hY hS0 => ?_)
  refine z_iinc (lv' := [(1, .int (iI (3 + 1))), (0, .ref (b + 0))]) hx hb dX12_init_295 hl (k := 0) rfl (by decide) rfl (fun ls hl => ?_)
  rw [show ((3 + 1) : Int) = 4 from by decide] at hl
  refine lv_goto (tgt := 281) hx hb dX12_init_298 (by decide) ?_
  refine lv_iload_n hx hb dX12_init_281 rfl (lv_at hl 0 rfl) ?_
  refine z_bipush hx hb (by decide) dX12_init_282 ?_
  refine z_icmp_ge (tgt := 301) hx hb (by decide) (by decide) dX12_init_284 (by decide) (fun c9 => absurd c9 (by decide)) (fun _ => ?_)
  refine lv_aload_n hx hb dX12_init_287 rfl (lv_at hl 1 rfl) ?_
  refine y_getr (t := 14) hx hb hts (z_memU u12) hown hK.1 hY f12_17 (by decide) (zkd_of (rfl : zcd wR 0 = 50) rfl) (by first | rfl | simp [tup]) (Or.inl (hts _ (z_mem k961))) dX12_init_288 ?_
  refine lv_iload_n hx hb dX12_init_291 rfl (lv_at hl 0 rfl) ?_
  refine z_bipush hx hb (by decide) dX12_init_292 ?_
  refine y_iast (N := 10) (z := 100) (i := 4) hx hb hK.1 (t0 := 0) rfl hY hS0 (by decide) (zkd_of (rfl : zcd wR 14 = 64) rfl) (zln_of (rfl : zcd wR 14 = 64) rfl) (by decide) (by decide) (by decide) (zbd_in (rfl : zcd wR 14 = 64) rfl (by decide)) dX12_init_294 (fun H locs hY hS0 => ?_)
  refine z_iinc (lv' := [(1, .int (iI (4 + 1))), (0, .ref (b + 0))]) hx hb dX12_init_295 hl (k := 0) rfl (by decide) rfl (fun ls hl => ?_)
  rw [show ((4 + 1) : Int) = 5 from by decide] at hl
  refine lv_goto (tgt := 281) hx hb dX12_init_298 (by decide) ?_
  refine lv_iload_n hx hb dX12_init_281 rfl (lv_at hl 0 rfl) ?_
  refine z_bipush hx hb (by decide) dX12_init_282 ?_
  refine z_icmp_ge (tgt := 301) hx hb (by decide) (by decide) dX12_init_284 (by decide) (fun c9 => absurd c9 (by decide)) (fun _ => ?_)
  refine lv_aload_n hx hb dX12_init_287 rfl (lv_at hl 1 rfl) ?_
  refine y_getr (t := 14) hx hb hts (z_memU u12) hown hK.1 hY f12_17 (by decide) (zkd_of (rfl : zcd wR 0 = 50) rfl) (by first | rfl | simp [tup]) (Or.inl (hts _ (z_mem k961))) dX12_init_288 ?_
  refine lv_iload_n hx hb dX12_init_291 rfl (lv_at hl 0 rfl) ?_
  refine z_bipush hx hb (by decide) dX12_init_292 ?_
  refine y_iast (N := 10) (z := 100) (i := 5) hx hb hK.1 (t0 := 0) rfl hY hS0 (by decide) (zkd_of (rfl : zcd wR 14 = 64) rfl) (zln_of (rfl : zcd wR 14 = 64) rfl) (by decide) (by decide) (by decide) (zbd_in (rfl : zcd wR 14 = 64) rfl (by decide)) dX12_init_294 (fun H locs hY hS0 => ?_)
  refine z_iinc (lv' := [(1, .int (iI (5 + 1))), (0, .ref (b + 0))]) hx hb dX12_init_295 hl (k := 0) rfl (by decide) rfl (fun ls hl => ?_)
  rw [show ((5 + 1) : Int) = 6 from by decide] at hl
  refine lv_goto (tgt := 281) hx hb dX12_init_298 (by decide) ?_
  refine lv_iload_n hx hb dX12_init_281 rfl (lv_at hl 0 rfl) ?_
  refine z_bipush hx hb (by decide) dX12_init_282 ?_
  refine z_icmp_ge (tgt := 301) hx hb (by decide) (by decide) dX12_init_284 (by decide) (fun c9 => absurd c9 (by decide)) (fun _ => ?_)
  refine lv_aload_n hx hb dX12_init_287 rfl (lv_at hl 1 rfl) ?_
  refine y_getr (t := 14) hx hb hts (z_memU u12) hown hK.1 hY f12_17 (by decide) (zkd_of (rfl : zcd wR 0 = 50) rfl) (by first | rfl | simp [tup]) (Or.inl (hts _ (z_mem k961))) dX12_init_288 ?_
  refine lv_iload_n hx hb dX12_init_291 rfl (lv_at hl 0 rfl) ?_
  refine z_bipush hx hb (by decide) dX12_init_292 ?_
  refine y_iast (N := 10) (z := 100) (i := 6) hx hb hK.1 (t0 := 0) rfl hY hS0 (by decide) (zkd_of (rfl : zcd wR 14 = 64) rfl) (zln_of (rfl : zcd wR 14 = 64) rfl) (by decide) (by decide) (by decide) (zbd_in (rfl : zcd wR 14 = 64) rfl (by decide)) dX12_init_294 (fun H locs hY hS0 => ?_)
  refine z_iinc (lv' := [(1, .int (iI (6 + 1))), (0, .ref (b + 0))]) hx hb dX12_init_295 hl (k := 0) rfl (by decide) rfl (fun ls hl => ?_)
  rw [show ((6 + 1) : Int) = 7 from by decide] at hl
  refine lv_goto (tgt := 281) hx hb dX12_init_298 (by decide) ?_
  refine lv_iload_n hx hb dX12_init_281 rfl (lv_at hl 0 rfl) ?_
  refine z_bipush hx hb (by decide) dX12_init_282 ?_
  refine z_icmp_ge (tgt := 301) hx hb (by decide) (by decide) dX12_init_284 (by decide) (fun c9 => absurd c9 (by decide)) (fun _ => ?_)
  refine lv_aload_n hx hb dX12_init_287 rfl (lv_at hl 1 rfl) ?_
  refine y_getr (t := 14) hx hb hts (z_memU u12) hown hK.1 hY f12_17 (by decide) (zkd_of (rfl : zcd wR 0 = 50) rfl) (by first | rfl | simp [tup]) (Or.inl (hts _ (z_mem k961))) dX12_init_288 ?_
  refine lv_iload_n hx hb dX12_init_291 rfl (lv_at hl 0 rfl) ?_
  refine z_bipush hx hb (by decide) dX12_init_292 ?_
  refine y_iast (N := 10) (z := 100) (i := 7) hx hb hK.1 (t0 := 0) rfl hY hS0 (by decide) (zkd_of (rfl : zcd wR 14 = 64) rfl) (zln_of (rfl : zcd wR 14 = 64) rfl) (by decide) (by decide) (by decide) (zbd_in (rfl : zcd wR 14 = 64) rfl (by decide)) dX12_init_294 (fun H locs hY hS0 => ?_)
  refine z_iinc (lv' := [(1, .int (iI (7 + 1))), (0, .ref (b + 0))]) hx hb dX12_init_295 hl (k := 0) rfl (by decide) rfl (fun ls hl => ?_)
  rw [show ((7 + 1) : Int) = 8 from by decide] at hl
  refine lv_goto (tgt := 281) hx hb dX12_init_298 (by decide) ?_
  refine lv_iload_n hx hb dX12_init_281 rfl (lv_at hl 0 rfl) ?_
  refine z_bipush hx hb (by decide) dX12_init_282 ?_
  refine z_icmp_ge (tgt := 301) hx hb (by decide) (by decide) dX12_init_284 (by decide) (fun c9 => absurd c9 (by decide)) (fun _ => ?_)
  refine lv_aload_n hx hb dX12_init_287 rfl (lv_at hl 1 rfl) ?_
  refine y_getr (t := 14) hx hb hts (z_memU u12) hown hK.1 hY f12_17 (by decide) (zkd_of (rfl : zcd wR 0 = 50) rfl) (by first | rfl | simp [tup]) (Or.inl (hts _ (z_mem k961))) dX12_init_288 ?_
  refine lv_iload_n hx hb dX12_init_291 rfl (lv_at hl 0 rfl) ?_
  refine z_bipush hx hb (by decide) dX12_init_292 ?_
  refine y_iast (N := 10) (z := 100) (i := 8) hx hb hK.1 (t0 := 0) rfl hY hS0 (by decide) (zkd_of (rfl : zcd wR 14 = 64) rfl) (zln_of (rfl : zcd wR 14 = 64) rfl) (by decide) (by decide) (by decide) (zbd_in (rfl : zcd wR 14 = 64) rfl (by decide)) dX12_init_294 (fun H locs hY hS0 => ?_)
  refine z_iinc (lv' := [(1, .int (iI (8 + 1))), (0, .ref (b + 0))]) hx hb dX12_init_295 hl (k := 0) rfl (by decide) rfl (fun ls hl => ?_)
  rw [show ((8 + 1) : Int) = 9 from by decide] at hl
  refine lv_goto (tgt := 281) hx hb dX12_init_298 (by decide) ?_
  refine lv_iload_n hx hb dX12_init_281 rfl (lv_at hl 0 rfl) ?_
  refine z_bipush hx hb (by decide) dX12_init_282 ?_
  refine z_icmp_ge (tgt := 301) hx hb (by decide) (by decide) dX12_init_284 (by decide) (fun c9 => absurd c9 (by decide)) (fun _ => ?_)
  refine lv_aload_n hx hb dX12_init_287 rfl (lv_at hl 1 rfl) ?_
  refine y_getr (t := 14) hx hb hts (z_memU u12) hown hK.1 hY f12_17 (by decide) (zkd_of (rfl : zcd wR 0 = 50) rfl) (by first | rfl | simp [tup]) (Or.inl (hts _ (z_mem k961))) dX12_init_288 ?_
  refine lv_iload_n hx hb dX12_init_291 rfl (lv_at hl 0 rfl) ?_
  refine z_bipush hx hb (by decide) dX12_init_292 ?_
  refine y_iast (N := 10) (z := 100) (i := 9) hx hb hK.1 (t0 := 0) rfl hY hS0 (by decide) (zkd_of (rfl : zcd wR 14 = 64) rfl) (zln_of (rfl : zcd wR 14 = 64) rfl) (by decide) (by decide) (by decide) (zbd_in (rfl : zcd wR 14 = 64) rfl (by decide)) dX12_init_294 (fun H locs hY hS0 => ?_)
  refine z_iinc (lv' := [(1, .int (iI (9 + 1))), (0, .ref (b + 0))]) hx hb dX12_init_295 hl (k := 0) rfl (by decide) rfl (fun ls hl => ?_)
  rw [show ((9 + 1) : Int) = 10 from by decide] at hl
  refine lv_goto (tgt := 281) hx hb dX12_init_298 (by decide) ?_
  refine lv_iload_n hx hb dX12_init_281 rfl (lv_at hl 0 rfl) ?_
  refine z_bipush hx hb (by decide) dX12_init_282 ?_
  refine z_icmp_ge (tgt := 301) hx hb (by decide) (by decide) dX12_init_284 (by decide) (fun _ => ?_) (fun c9 => absurd c9 (by decide))
  exact y_ret hx hb hr hlocks hY hS0 dX12_init_301
