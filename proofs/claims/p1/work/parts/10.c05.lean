theorem dX5_find_0 : decode cX5_find 0 = .ok (.aload_n 1, 1) := by decide +kernel
theorem dX5_find_1 : decode cX5_find 1 = .ok (.getfield 48, 3) := by decide +kernel
theorem dX5_find_10 : decode cX5_find 10 = .ok (.aaload, 1) := by decide +kernel
theorem dX5_find_102 : decode cX5_find 102 = .ok (.iconst 1, 1) := by decide +kernel
theorem dX5_find_103 : decode cX5_find 103 = .ok (.aload_n 0, 1) := by decide +kernel
theorem dX5_find_104 : decode cX5_find 104 = .ok (.getfield 18, 3) := by decide +kernel
theorem dX5_find_107 : decode cX5_find 107 = .ok (.ishl, 1) := by decide +kernel
theorem dX5_find_108 : decode cX5_find 108 = .ok (.iconst 1, 1) := by decide +kernel
theorem dX5_find_109 : decode cX5_find 109 = .ok (.isub, 1) := by decide +kernel
theorem dX5_find_11 : decode cX5_find 11 = .ok (.ldc 49, 2) := by decide +kernel
theorem dX5_find_110 : decode cX5_find 110 = .ok (.istore_n 3, 1) := by decide +kernel
theorem dX5_find_111 : decode cX5_find 111 = .ok (.aload_n 0, 1) := by decide +kernel
theorem dX5_find_112 : decode cX5_find 112 = .ok (.getfield 30, 3) := by decide +kernel
theorem dX5_find_115 : decode cX5_find 115 = .ok (.iconst 0, 1) := by decide +kernel
theorem dX5_find_116 : decode cX5_find 116 = .ok (.aaload, 1) := by decide +kernel
theorem dX5_find_117 : decode cX5_find 117 = .ok (.iload_n 3, 1) := by decide +kernel
theorem dX5_find_118 : decode cX5_find 118 = .ok (.iaload, 1) := by decide +kernel
theorem dX5_find_119 : decode cX5_find 119 = .ok (.istore 4, 2) := by decide +kernel
theorem dX5_find_121 : decode cX5_find 121 = .ok (.iload 4, 2) := by decide +kernel
theorem dX5_find_123 : decode cX5_find 123 = .ok (.ldc 49, 2) := by decide +kernel
theorem dX5_find_125 : decode cX5_find 125 = .ok (.if_icmp .lt 5, 3) := by decide +kernel
theorem dX5_find_13 : decode cX5_find 13 = .ok (.invokestatic 50, 3) := by decide +kernel
theorem dX5_find_130 : decode cX5_find 130 = .ok (.iconst 0, 1) := by decide +kernel
theorem dX5_find_131 : decode cX5_find 131 = .ok (.istore 5, 2) := by decide +kernel
theorem dX5_find_133 : decode cX5_find 133 = .ok (.iload 5, 2) := by decide +kernel
theorem dX5_find_135 : decode cX5_find 135 = .ok (.iload_n 2, 1) := by decide +kernel
theorem dX5_find_136 : decode cX5_find 136 = .ok (.if_icmp .ge 23, 3) := by decide +kernel
theorem dX5_find_159 : decode cX5_find 159 = .ok (.iload 4, 2) := by decide +kernel
theorem dX5_find_16 : decode cX5_find 16 = .ok (.aload_n 0, 1) := by decide +kernel
theorem dX5_find_161 : decode cX5_find 161 = .ok (.ireturn, 1) := by decide +kernel
theorem dX5_find_17 : decode cX5_find 17 = .ok (.getfield 30, 3) := by decide +kernel
theorem dX5_find_20 : decode cX5_find 20 = .ok (.iload_n 2, 1) := by decide +kernel
theorem dX5_find_21 : decode cX5_find 21 = .ok (.aaload, 1) := by decide +kernel
theorem dX5_find_22 : decode cX5_find 22 = .ok (.iconst 0, 1) := by decide +kernel
theorem dX5_find_23 : decode cX5_find 23 = .ok (.iconst 0, 1) := by decide +kernel
theorem dX5_find_24 : decode cX5_find 24 = .ok (.iastore, 1) := by decide +kernel
theorem dX5_find_25 : decode cX5_find 25 = .ok (.iload_n 2, 1) := by decide +kernel
theorem dX5_find_26 : decode cX5_find 26 = .ok (.iconst 1, 1) := by decide +kernel
theorem dX5_find_27 : decode cX5_find 27 = .ok (.isub, 1) := by decide +kernel
theorem dX5_find_28 : decode cX5_find 28 = .ok (.istore_n 3, 1) := by decide +kernel
theorem dX5_find_29 : decode cX5_find 29 = .ok (.iload_n 3, 1) := by decide +kernel
theorem dX5_find_30 : decode cX5_find 30 = .ok (.ifCond .lt 72, 3) := by decide +kernel
theorem dX5_find_4 : decode cX5_find 4 = .ok (.istore_n 2, 1) := by decide +kernel
theorem dX5_find_5 : decode cX5_find 5 = .ok (.aload_n 0, 1) := by decide +kernel
theorem dX5_find_6 : decode cX5_find 6 = .ok (.getfield 30, 3) := by decide +kernel
theorem dX5_find_9 : decode cX5_find 9 = .ok (.iload_n 2, 1) := by decide +kernel
theorem dm_J7_fill_53178 : yJ7_fill_53178.cls = RJ7 ∧ yJ7_fill_53178.cls ≠ "java/lang/invoke/MethodHandle" ∧ yJ7_fill_53178.cls ≠ "java/lang/invoke/VarHandle" ∧ (parseMethodDescriptor yJ7_fill_53178.desc).map (fun d => d.parameters.length) = some 2 := by decide +kernel
set_option maxHeartbeats 4000000 in
set_option maxRecDepth 100000 in
theorem n_pfind (l : Launch) (D : va_G) (dA : Nat → ClassId) (b : Nat) (M : zM) (g0 : M 60 2 = 0) (g1 : M 32 2 = 0) : Met l yX5_find (.code yX5_find cX5_find 6 (some .int) :: zt) (z_rm 1) (va_Pc [.ref (b + 60), .ref (b + 32)] (zP D dA vwCl (z_tys dA) wC nC b M)) (va_Qi (zQi wC (zms wC [1727]) M (fun z M1 => z = 0 ∧ True)) (zB D dA vwCl wC nC b) (zA nC b)) 0 0 (zA nC b) := by
  refine Met.ofW (cc := cX5_find) (maxL := 6) (ret := (some .int)) (by decide) rfl ?_
  intro p e s m args below meth c s₁ B hml hv
  obtain ⟨hargs, hR0, hJ, hK⟩ := hv
  have hx := B.exec
  have hb := B.bytes
  have hr := B.returns
  have hts := atoms_spec (ws := .code yX5_find cX5_find 6 (some .int) :: zt) B.pre
  have hown : s.vm.findClass RX5 = some m.cls := findClass_of_methodNamed B.named
  have hlocks := B.notSynchronized
  have hS : zS D dA vwCl wC nC b (zms wC [1727]) M M s.heap := ⟨hR0, hJ, zF_rf _ _⟩
  have hS0 : va_S (zA nC b) s.heap s.heap [] := va_S.rf
  have hl := lv_entry ([.ref (b + 60), .ref (b + 32)]) (n := 6) (Nat.le_of_ble_eq_true rfl)
  have hent : entryFrame m args 6 = F0 m 0 ((lg_sl ([.ref (b + 60), .ref (b + 32)]) ++ List.replicate (6 - (lg_sl ([.ref (b + 60), .ref (b + 32)])).length) Slot.unset).toArray) [] := by rw [hargs]; exact lg_entry_eq m ([.ref (b + 60), .ref (b + 32)]) 6
  rw [hent]
  generalize (lg_sl ([.ref (b + 60), .ref (b + 32)]) ++ List.replicate (6 - (lg_sl ([.ref (b + 60), .ref (b + 32)])).length) Slot.unset).toArray = ls at hl ⊢
  have hl : lv_has ls 6 [(0, .ref (b + 60)), (1, .ref (b + 32))] := hl
  refine lv_aload_n hx hb dX5_find_0 rfl (lv_at hl 1 rfl) ?_
  refine z_geti hx hb hts (z_memU u9) hown hK.1 hS f9_2 (by decide) (zkd_of (rfl : zcd wC 32 = 8) rfl) (Or.inl (hts _ (z_mem k119))) dX5_find_1 ?_
  refine z_top (show M 32 2 = 0 from by rw [g1]) ?_
  refine lv_istore_n (lv' := [(2, .int (iI 0)), (0, .ref (b + 60)), (1, .ref (b + 32))]) hx hb dX5_find_4 rfl hl (by decide) rfl (fun ls hl => ?_)
  refine lv_aload_n hx hb dX5_find_5 rfl (lv_at hl 1 rfl) ?_
  refine z_getr (j2 := 69) hx hb hts (z_memU u5) hown hK.1 hS f5_5 (by decide) (zkd_of (rfl : zcd wC 60 = 19) rfl) (zrf_of (rfl : zcd wC 60 = 19) rfl) (Or.inl (hts _ (z_mem k150))) dX5_find_6 ?_
  refine lv_iload_n hx hb dX5_find_9 rfl (lv_at hl 0 rfl) ?_
  refine z_aald (n := 5) (j2 := 70) hx hb hK.1 (t0 := 7) (r := 7) (by decide) rfl rfl hS (by decide) (zkd_of (rfl : zcd wC 69 = 25) rfl) (zln_of (rfl : zcd wC 69 = 25) rfl) (by decide) (by decide) (by decide) (zrf_of (rfl : zcd wC 69 = 25) rfl) dX5_find_10 ?_
  refine z_ldc (n := 1000000) hx hb hown (hts _ (z_mem k625)) (by decide) dX5_find_11 ?_
  refine z_callv (va_runS (As := [.ref (b + 70), .int (iI 1000000)]) (rest := []) ⟨hx, hb, hml, hown, hts⟩ (n_fill70 l D dA b M 1000000 (by decide)) (va_cwS 2 hts (z_gS k626 k170 k10 k171) rfl rfl rfl dm_J7_fill_53178.2 ⟨Nat.le_of_ble_eq_true rfl, Nat.le_of_ble_eq_true rfl⟩) ⟨zP_blind, z_pre hS hK⟩ rfl rfl hl.1 rfl (lv_room (Nat.le_of_ble_eq_true rfl)) dX5_find_13 ⟨Nat.le_refl _, Nat.le_refl _⟩) hS hS0 (zms_sub rfl) (fun M1 H locs h2 F3 hS hS0 => ?_)
  have J4 := hS.2.1
  refine lv_aload_n hx hb dX5_find_16 rfl (lv_at hl 1 rfl) ?_
  refine z_getr (j2 := 69) hx hb hts (z_memU u5) hown hK.1 hS f5_5 (by decide) (zkd_of (rfl : zcd wC 60 = 19) rfl) (zrf_of (rfl : zcd wC 60 = 19) rfl) (Or.inl (hts _ (z_mem k150))) dX5_find_17 ?_
  refine lv_iload_n hx hb dX5_find_20 rfl (lv_at hl 0 rfl) ?_
  refine z_aald (n := 5) (j2 := 70) hx hb hK.1 (t0 := 7) (r := 7) (by decide) rfl rfl hS (by decide) (zkd_of (rfl : zcd wC 69 = 25) rfl) (zln_of (rfl : zcd wC 69 = 25) rfl) (by decide) (by decide) (by decide) (zrf_of (rfl : zcd wC 69 = 25) rfl) dX5_find_21 ?_
  refine z_iconst hx hb dX5_find_22 ?_
  refine z_iconst hx hb dX5_find_23 ?_
  refine z_iast (n := 64) hx hb hK.1 (t0 := 0) rfl hS hS0 (by decide) (zkd_of (rfl : zcd wC 70 = 26) rfl) (zln_of (rfl : zcd wC 70 = 26) rfl) (by decide) (by decide) (by decide) (zbd_in (rfl : zcd wC 70 = 26) rfl (by decide)) (zms_of (rfl : zcd wC 70 = 26) rfl) dX5_find_24 (fun H locs hS hS0 => ?_)
  obtain ⟨M5, e6⟩ : ∃ M5 : zM, M5 = zup M1 70 ((0 : Int).toNat) 0 := ⟨_, rfl⟩
  rw [← e6] at hS
  have J7 := hS.2.1
  refine lv_iload_n hx hb dX5_find_25 rfl (lv_at hl 0 rfl) ?_
  refine z_iconst hx hb dX5_find_26 ?_
  refine z_isub hx hb dX5_find_27 ?_
  refine z_top (show ((0 - 1) : Int) = (-1) from by decide) ?_
  refine lv_istore_n (lv' := [(3, .int (iI (-1))), (2, .int (iI 0)), (0, .ref (b + 60)), (1, .ref (b + 32))]) hx hb dX5_find_28 rfl hl (by decide) rfl (fun ls hl => ?_)
  refine lv_iload_n hx hb dX5_find_29 rfl (lv_at hl 0 rfl) ?_
  refine z_if_lt (tgt := 102) hx hb (by decide) dX5_find_30 (by decide) (fun c8 => ?_) (fun c8 => absurd c8 (by decide))
  refine z_iconst hx hb dX5_find_102 ?_
  refine lv_aload_n hx hb dX5_find_103 rfl (lv_at hl 2 rfl) ?_
  refine z_geti hx hb hts (z_memU u5) hown hK.1 hS f5_2 (by decide) (zkd_of (rfl : zcd wC 60 = 19) rfl) (Or.inl (hts _ (z_mem k145))) dX5_find_104 ?_
  refine z_top (show M5 60 2 = 0 from by rw [e6, zup_n _ _ (by omega), F3 _ _ (zms_not (rfl : zcd wC 60 = 19) rfl), g0]) ?_
  refine z_ishl hx hb dX5_find_107 (fun z9 r10 e11 => ?_)
  obtain rfl : z9 = 1 := iI_inj r10 (by decide) (e11.trans (by decide))
  refine z_iconst hx hb dX5_find_108 ?_
  refine z_isub hx hb dX5_find_109 ?_
  refine z_top (show ((1 - 1) : Int) = 0 from by decide) ?_
  refine lv_istore_n (lv' := [(3, .int (iI 0)), (2, .int (iI 0)), (0, .ref (b + 60)), (1, .ref (b + 32))]) hx hb dX5_find_110 rfl hl (by decide) rfl (fun ls hl => ?_)
  refine lv_aload_n hx hb dX5_find_111 rfl (lv_at hl 2 rfl) ?_
  refine z_getr (j2 := 69) hx hb hts (z_memU u5) hown hK.1 hS f5_5 (by decide) (zkd_of (rfl : zcd wC 60 = 19) rfl) (zrf_of (rfl : zcd wC 60 = 19) rfl) (Or.inl (hts _ (z_mem k150))) dX5_find_112 ?_
  refine z_iconst hx hb dX5_find_115 ?_
  refine z_aald (n := 5) (j2 := 70) hx hb hK.1 (t0 := 7) (r := 7) (by decide) rfl rfl hS (by decide) (zkd_of (rfl : zcd wC 69 = 25) rfl) (zln_of (rfl : zcd wC 69 = 25) rfl) (by decide) (by decide) (by decide) (zrf_of (rfl : zcd wC 69 = 25) rfl) dX5_find_116 ?_
  refine lv_iload_n hx hb dX5_find_117 rfl (lv_at hl 0 rfl) ?_
  refine z_iald (n := 64) hx hb hK.1 (t0 := 0) rfl hS (by decide) (zkd_of (rfl : zcd wC 70 = 26) rfl) (zln_of (rfl : zcd wC 70 = 26) rfl) (by decide) (by decide) (by decide) dX5_find_118 ?_
  refine z_top (show M5 70 ((0 : Int).toNat) = 0 from by rw [e6, zup_s]) ?_
  refine lv_istore (lv' := [(4, .int (iI 0)), (3, .int (iI 0)), (2, .int (iI 0)), (0, .ref (b + 60)), (1, .ref (b + 32))]) hx hb dX5_find_119 hl (by decide) rfl (fun ls hl => ?_)
  refine lv_iload hx hb dX5_find_121 (lv_at hl 0 rfl) ?_
  refine z_ldc (n := 1000000) hx hb hown (hts _ (z_mem k625)) (by decide) dX5_find_123 ?_
  refine z_icmp_lt (tgt := 130) hx hb (by decide) (by decide) dX5_find_125 (by decide) (fun c12 => ?_) (fun c12 => absurd c12 (by decide))
  refine z_iconst hx hb dX5_find_130 ?_
  refine lv_istore (lv' := [(5, .int (iI 0)), (4, .int (iI 0)), (3, .int (iI 0)), (2, .int (iI 0)), (0, .ref (b + 60)), (1, .ref (b + 32))]) hx hb dX5_find_131 hl (by decide) rfl (fun ls hl => ?_)
  refine lv_iload hx hb dX5_find_133 (lv_at hl 0 rfl) ?_
  refine lv_iload_n hx hb dX5_find_135 rfl (lv_at hl 3 rfl) ?_
  refine z_icmp_ge (tgt := 159) hx hb (by decide) (by decide) dX5_find_136 (by decide) (fun c13 => ?_) (fun c13 => absurd c13 (by decide))
  refine lv_iload hx hb dX5_find_159 (lv_at hl 1 rfl) ?_
  exact z_iret hx hb hr hlocks hS hS0 (by decide) (by first | exact trivial | exact ⟨rfl, trivial⟩ | omega | (refine ⟨by omega, trivial⟩)) dX5_find_161
