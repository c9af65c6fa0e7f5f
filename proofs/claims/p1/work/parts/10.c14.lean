theorem dX0_firstSilence_0 : decode cX0_firstSilence 0 = .ok (.iconst 0, 1) := by decide +kernel
theorem dX0_firstSilence_1 : decode cX0_firstSilence 1 = .ok (.istore_n 1, 1) := by decide +kernel
theorem dX0_firstSilence_11 : decode cX0_firstSilence 11 = .ok (.if_icmp .gt 38, 3) := by decide +kernel
theorem dX0_firstSilence_14 : decode cX0_firstSilence 14 = .ok (.aload_n 0, 1) := by decide +kernel
theorem dX0_firstSilence_15 : decode cX0_firstSilence 15 = .ok (.iload_n 2, 1) := by decide +kernel
theorem dX0_firstSilence_16 : decode cX0_firstSilence 16 = .ok (.invokevirtual 62, 3) := by decide +kernel
theorem dX0_firstSilence_19 : decode cX0_firstSilence 19 = .ok (.ifCond .ne 9, 3) := by decide +kernel
theorem dX0_firstSilence_2 : decode cX0_firstSilence 2 = .ok (.aload_n 0, 1) := by decide +kernel
theorem dX0_firstSilence_22 : decode cX0_firstSilence 22 = .ok (.iload_n 1, 1) := by decide +kernel
theorem dX0_firstSilence_23 : decode cX0_firstSilence 23 = .ok (.iconst 1, 1) := by decide +kernel
theorem dX0_firstSilence_24 : decode cX0_firstSilence 24 = .ok (.iadd, 1) := by decide +kernel
theorem dX0_firstSilence_25 : decode cX0_firstSilence 25 = .ok (.goto 4, 3) := by decide +kernel
theorem dX0_firstSilence_29 : decode cX0_firstSilence 29 = .ok (.istore_n 1, 1) := by decide +kernel
theorem dX0_firstSilence_3 : decode cX0_firstSilence 3 = .ok (.getfield 9, 3) := by decide +kernel
theorem dX0_firstSilence_30 : decode cX0_firstSilence 30 = .ok (.iload_n 1, 1) := by decide +kernel
theorem dX0_firstSilence_31 : decode cX0_firstSilence 31 = .ok (.bipush 20, 2) := by decide +kernel
theorem dX0_firstSilence_33 : decode cX0_firstSilence 33 = .ok (.if_icmp .ne 10, 3) := by decide +kernel
theorem dX0_firstSilence_36 : decode cX0_firstSilence 36 = .ok (.iload_n 2, 1) := by decide +kernel
theorem dX0_firstSilence_37 : decode cX0_firstSilence 37 = .ok (.bipush 20, 2) := by decide +kernel
theorem dX0_firstSilence_39 : decode cX0_firstSilence 39 = .ok (.isub, 1) := by decide +kernel
theorem dX0_firstSilence_40 : decode cX0_firstSilence 40 = .ok (.iconst 1, 1) := by decide +kernel
theorem dX0_firstSilence_41 : decode cX0_firstSilence 41 = .ok (.iadd, 1) := by decide +kernel
theorem dX0_firstSilence_42 : decode cX0_firstSilence 42 = .ok (.ireturn, 1) := by decide +kernel
theorem dX0_firstSilence_43 : decode cX0_firstSilence 43 = .ok (.iinc 2 1, 3) := by decide +kernel
theorem dX0_firstSilence_46 : decode cX0_firstSilence 46 = .ok (.goto (-39), 3) := by decide +kernel
theorem dX0_firstSilence_6 : decode cX0_firstSilence 6 = .ok (.istore_n 2, 1) := by decide +kernel
theorem dX0_firstSilence_7 : decode cX0_firstSilence 7 = .ok (.iload_n 2, 1) := by decide +kernel
theorem dX0_firstSilence_8 : decode cX0_firstSilence 8 = .ok (.sipush 4000, 3) := by decide +kernel

set_option maxHeartbeats 4000000 in
set_option maxRecDepth 100000 in
theorem n_firstSilence (l : Launch) (D : va_G) (dA : Nat → ClassId) (b : Nat) (M : zM) (g0 : M 78 0 = 0) (a0 : ∀ k : Nat, k < 4001 → M 81 k = 0) : Met l yX0_firstSilence (.code yX0_firstSilence cX0_firstSilence 3 (some .int) :: zt) (z_rm 1) (va_Pc [.ref (b + 78)] (zP D dA vwCl (z_tys dA) wC nC b M)) (va_Qi (zQi wC (zms wC []) M (fun z M1 => M1 = M ∧ (z = 0 ∧ True))) (zB D dA vwCl wC nC b) (zA nC b)) 0 0 (zA nC b) := by
  refine Met.ofW (cc := cX0_firstSilence) (maxL := 3) (ret := (some .int)) (by decide) rfl ?_
  intro p e s m args below meth c s₁ B hml hv
  obtain ⟨hargs, hR0, hJ, hK⟩ := hv
  have hx := B.exec
  have hb := B.bytes
  have hr := B.returns
  have hts := atoms_spec (ws := .code yX0_firstSilence cX0_firstSilence 3 (some .int) :: zt) B.pre
  have hown : s.vm.findClass RX0 = some m.cls := findClass_of_methodNamed B.named
  have hlocks := B.notSynchronized
  have hS : zS D dA vwCl wC nC b (zms wC []) M M s.heap := ⟨hR0, hJ, zF_rf _ _⟩
  have hS0 : va_S (zA nC b) s.heap s.heap [] := va_S.rf
  have hl := lv_entry ([.ref (b + 78)]) (n := 3) (Nat.le_of_ble_eq_true rfl)
  have hent : entryFrame m args 3 = F0 m 0 ((lg_sl ([.ref (b + 78)]) ++ List.replicate (3 - (lg_sl ([.ref (b + 78)])).length) Slot.unset).toArray) [] := by rw [hargs]; exact lg_entry_eq m ([.ref (b + 78)]) 3
  rw [hent]
  generalize (lg_sl ([.ref (b + 78)]) ++ List.replicate (3 - (lg_sl ([.ref (b + 78)])).length) Slot.unset).toArray = ls at hl ⊢
  have hl : lv_has ls 3 [(0, .ref (b + 78))] := hl
  refine z_iconst hx hb dX0_firstSilence_0 ?_
  refine lv_istore_n (lv' := [(1, .int (iI 0)), (0, .ref (b + 78))]) hx hb dX0_firstSilence_1 rfl hl (by decide) rfl (fun ls hl => ?_)
  refine lv_aload_n hx hb dX0_firstSilence_2 rfl (lv_at hl 1 rfl) ?_
  refine z_geti hx hb hts (z_memU u0) hown hK.1 hS f0_0 (by decide) (zkd_of (rfl : zcd wC 78 = 30) rfl) (Or.inl (hts _ (z_mem k172))) dX0_firstSilence_3 ?_
  refine z_top (show M 78 0 = 0 from by rw [g0]) ?_
  refine lv_istore_n (lv' := [(2, .int (iI 0)), (1, .int (iI 0)), (0, .ref (b + 78))]) hx hb dX0_firstSilence_6 rfl hl (by decide) rfl (fun ls hl => ?_)
  refine lv_iload_n hx hb dX0_firstSilence_7 rfl (lv_at hl 0 rfl) ?_
  refine z_sipush hx hb (by decide) dX0_firstSilence_8 ?_
  refine z_icmp_gt (tgt := 49) hx hb (by decide) (by decide) dX0_firstSilence_11 (by decide) (fun c1 => absurd c1 (by decide)) (fun c1 => ?_)
  refine lv_aload_n hx hb dX0_firstSilence_14 rfl (lv_at hl 2 rfl) ?_
  refine lv_iload_n hx hb dX0_firstSilence_15 rfl (lv_at hl 0 rfl) ?_
  refine z_calli (va_runV (As := [.int (iI 0)]) (rest := []) ⟨hx, hb, hml, hown, hts⟩ (n_outAt0 l D dA b M 0 (by decide) a0) (cwV 1 hts (z_gV k710 k711 k712 k9 k713) rfl rfl rfl dm_X0_outAt ⟨Nat.le_of_ble_eq_true rfl, Nat.le_of_ble_eq_true rfl⟩) ⟨zP_blind, (z_recv hS hK.1 (by decide) (zkd_of (rfl : zcd wC 78 = 30) rfl) (by decide) (rfl : vwCl[0]? = some (RX0, TX0, 8))), z_pre hS hK⟩ rfl rfl hl.1 rfl (lv_room (Nat.le_of_ble_eq_true rfl)) dX0_firstSilence_16 ⟨Nat.le_refl _, Nat.le_refl _⟩) hS hS0 (zms_sub rfl) (fun z6 M2 H locs r7 h3 F4 hS hS0 => ?_)
  obtain ⟨h8, h3⟩ := h3
  rw [h8] at hS
  have h9 := h3
  obtain ⟨z6e, h9⟩ := h9
  subst z6e
  refine z_if_ne (tgt := 28) hx hb (by decide) dX0_firstSilence_19 (by decide) (fun c10 => absurd c10 (by decide)) (fun c10 => ?_)
  refine lv_iload_n hx hb dX0_firstSilence_22 rfl (lv_at hl 1 rfl) ?_
  refine z_iconst hx hb dX0_firstSilence_23 ?_
  refine z_iadd hx hb dX0_firstSilence_24 ?_
  refine z_top (show ((0 + 1) : Int) = 1 from by decide) ?_
  refine lv_goto (tgt := 29) hx hb dX0_firstSilence_25 (by decide) ?_
  refine lv_istore_n (lv' := [(1, .int (iI 1)), (2, .int (iI 0)), (0, .ref (b + 78))]) hx hb dX0_firstSilence_29 rfl hl (by decide) rfl (fun ls hl => ?_)
  refine lv_iload_n hx hb dX0_firstSilence_30 rfl (lv_at hl 0 rfl) ?_
  refine z_bipush hx hb (by decide) dX0_firstSilence_31 ?_
  refine z_icmp_ne (tgt := 43) hx hb (by decide) (by decide) dX0_firstSilence_33 (by decide) (fun c11 => ?_) (fun c11 => absurd c11 (by decide))
  refine z_iinc (lv' := [(2, .int (iI (0 + 1))), (1, .int (iI 1)), (0, .ref (b + 78))]) hx hb dX0_firstSilence_43 hl (k := 1) rfl (by decide) rfl (fun ls hl => ?_)
  rw [show ((0 + 1) : Int) = 1 from by decide] at hl
  refine lv_goto (tgt := 7) hx hb dX0_firstSilence_46 (by decide) ?_
  refine lv_iload_n hx hb dX0_firstSilence_7 rfl (lv_at hl 0 rfl) ?_
  refine z_sipush hx hb (by decide) dX0_firstSilence_8 ?_
  refine z_icmp_gt (tgt := 49) hx hb (by decide) (by decide) dX0_firstSilence_11 (by decide) (fun c12 => absurd c12 (by decide)) (fun c12 => ?_)
  refine lv_aload_n hx hb dX0_firstSilence_14 rfl (lv_at hl 2 rfl) ?_
  refine lv_iload_n hx hb dX0_firstSilence_15 rfl (lv_at hl 0 rfl) ?_
  refine z_calli (va_runV (As := [.int (iI 1)]) (rest := []) ⟨hx, hb, hml, hown, hts⟩ (n_outAt0 l D dA b M 1 (by decide) a0) (cwV 1 hts (z_gV k710 k711 k712 k9 k713) rfl rfl rfl dm_X0_outAt ⟨Nat.le_of_ble_eq_true rfl, Nat.le_of_ble_eq_true rfl⟩) ⟨zP_blind, (z_recv hS hK.1 (by decide) (zkd_of (rfl : zcd wC 78 = 30) rfl) (by decide) (rfl : vwCl[0]? = some (RX0, TX0, 8))), z_pre hS hK⟩ rfl rfl hl.1 rfl (lv_room (Nat.le_of_ble_eq_true rfl)) dX0_firstSilence_16 ⟨Nat.le_refl _, Nat.le_refl _⟩) hS hS0 (zms_sub rfl) (fun z17 M13 H locs r18 h14 F15 hS hS0 => ?_)
  obtain ⟨h19, h14⟩ := h14
  rw [h19] at hS
  have h20 := h14
  obtain ⟨z17e, h20⟩ := h20
  subst z17e
  refine z_if_ne (tgt := 28) hx hb (by decide) dX0_firstSilence_19 (by decide) (fun c21 => absurd c21 (by decide)) (fun c21 => ?_)
  refine lv_iload_n hx hb dX0_firstSilence_22 rfl (lv_at hl 1 rfl) ?_
  refine z_iconst hx hb dX0_firstSilence_23 ?_
  refine z_iadd hx hb dX0_firstSilence_24 ?_
  refine z_top (show ((1 + 1) : Int) = 2 from by decide) ?_
  refine lv_goto (tgt := 29) hx hb dX0_firstSilence_25 (by decide) ?_
  refine lv_istore_n (lv' := [(1, .int (iI 2)), (2, .int (iI 1)), (0, .ref (b + 78))]) hx hb dX0_firstSilence_29 rfl hl (by decide) rfl (fun ls hl => ?_)
  refine lv_iload_n hx hb dX0_firstSilence_30 rfl (lv_at hl 0 rfl) ?_
  refine z_bipush hx hb (by decide) dX0_firstSilence_31 ?_
  refine z_icmp_ne (tgt := 43) hx hb (by decide) (by decide) dX0_firstSilence_33 (by decide) (fun c22 => ?_) (fun c22 => absurd c22 (by decide))
  refine z_iinc (lv' := [(2, .int (iI (1 + 1))), (1, .int (iI 2)), (0, .ref (b + 78))]) hx hb dX0_firstSilence_43 hl (k := 1) rfl (by decide) rfl (fun ls hl => ?_)
  rw [show ((1 + 1) : Int) = 2 from by decide] at hl
  refine lv_goto (tgt := 7) hx hb dX0_firstSilence_46 (by decide) ?_
  refine lv_iload_n hx hb dX0_firstSilence_7 rfl (lv_at hl 0 rfl) ?_
  refine z_sipush hx hb (by decide) dX0_firstSilence_8 ?_
  refine z_icmp_gt (tgt := 49) hx hb (by decide) (by decide) dX0_firstSilence_11 (by decide) (fun c23 => absurd c23 (by decide)) (fun c23 => ?_)
  refine lv_aload_n hx hb dX0_firstSilence_14 rfl (lv_at hl 2 rfl) ?_
  refine lv_iload_n hx hb dX0_firstSilence_15 rfl (lv_at hl 0 rfl) ?_
  refine z_calli (va_runV (As := [.int (iI 2)]) (rest := []) ⟨hx, hb, hml, hown, hts⟩ (n_outAt0 l D dA b M 2 (by decide) a0) (cwV 1 hts (z_gV k710 k711 k712 k9 k713) rfl rfl rfl dm_X0_outAt ⟨Nat.le_of_ble_eq_true rfl, Nat.le_of_ble_eq_true rfl⟩) ⟨zP_blind, (z_recv hS hK.1 (by decide) (zkd_of (rfl : zcd wC 78 = 30) rfl) (by decide) (rfl : vwCl[0]? = some (RX0, TX0, 8))), z_pre hS hK⟩ rfl rfl hl.1 rfl (lv_room (Nat.le_of_ble_eq_true rfl)) dX0_firstSilence_16 ⟨Nat.le_refl _, Nat.le_refl _⟩) hS hS0 (zms_sub rfl) (fun z28 M24 H locs r29 h25 F26 hS hS0 => ?_)
  obtain ⟨h30, h25⟩ := h25
  rw [h30] at hS
  have h31 := h25
  obtain ⟨z28e, h31⟩ := h31
  subst z28e
  refine z_if_ne (tgt := 28) hx hb (by decide) dX0_firstSilence_19 (by decide) (fun c32 => absurd c32 (by decide)) (fun c32 => ?_)
  refine lv_iload_n hx hb dX0_firstSilence_22 rfl (lv_at hl 1 rfl) ?_
  refine z_iconst hx hb dX0_firstSilence_23 ?_
  refine z_iadd hx hb dX0_firstSilence_24 ?_
  refine z_top (show ((2 + 1) : Int) = 3 from by decide) ?_
  refine lv_goto (tgt := 29) hx hb dX0_firstSilence_25 (by decide) ?_
  refine lv_istore_n (lv' := [(1, .int (iI 3)), (2, .int (iI 2)), (0, .ref (b + 78))]) hx hb dX0_firstSilence_29 rfl hl (by decide) rfl (fun ls hl => ?_)
  refine lv_iload_n hx hb dX0_firstSilence_30 rfl (lv_at hl 0 rfl) ?_
  refine z_bipush hx hb (by decide) dX0_firstSilence_31 ?_
  refine z_icmp_ne (tgt := 43) hx hb (by decide) (by decide) dX0_firstSilence_33 (by decide) (fun c33 => ?_) (fun c33 => absurd c33 (by decide))
  refine z_iinc (lv' := [(2, .int (iI (2 + 1))), (1, .int (iI 3)), (0, .ref (b + 78))]) hx hb dX0_firstSilence_43 hl (k := 1) rfl (by decide) rfl (fun ls hl => ?_)
  rw [show ((2 + 1) : Int) = 3 from by decide] at hl
  refine lv_goto (tgt := 7) hx hb dX0_firstSilence_46 (by decide) ?_
  refine lv_iload_n hx hb dX0_firstSilence_7 rfl (lv_at hl 0 rfl) ?_
  refine z_sipush hx hb (by decide) dX0_firstSilence_8 ?_
  refine z_icmp_gt (tgt := 49) hx hb (by decide) (by decide) dX0_firstSilence_11 (by decide) (fun c34 => absurd c34 (by decide)) (fun c34 => ?_)
  refine lv_aload_n hx hb dX0_firstSilence_14 rfl (lv_at hl 2 rfl) ?_
  refine lv_iload_n hx hb dX0_firstSilence_15 rfl (lv_at hl 0 rfl) ?_
  refine z_calli (va_runV (As := [.int (iI 3)]) (rest := []) ⟨hx, hb, hml, hown, hts⟩ (n_outAt0 l D dA b M 3 (by decide) a0) (cwV 1 hts (z_gV k710 k711 k712 k9 k713) rfl rfl rfl dm_X0_outAt ⟨Nat.le_of_ble_eq_true rfl, Nat.le_of_ble_eq_true rfl⟩) ⟨zP_blind, (z_recv hS hK.1 (by decide) (zkd_of (rfl : zcd wC 78 = 30) rfl) (by decide) (rfl : vwCl[0]? = some (RX0, TX0, 8))), z_pre hS hK⟩ rfl rfl hl.1 rfl (lv_room (Nat.le_of_ble_eq_true rfl)) dX0_firstSilence_16 ⟨Nat.le_refl _, Nat.le_refl _⟩) hS hS0 (zms_sub rfl) (fun z39 M35 H locs r40 h36 F37 hS hS0 => ?_)
  obtain ⟨h41, h36⟩ := h36
  rw [h41] at hS
  have h42 := h36
  obtain ⟨z39e, h42⟩ := h42
  subst z39e
  refine z_if_ne (tgt := 28) hx hb (by decide) dX0_firstSilence_19 (by decide) (fun c43 => absurd c43 (by decide)) (fun c43 => ?_)
  refine lv_iload_n hx hb dX0_firstSilence_22 rfl (lv_at hl 1 rfl) ?_
  refine z_iconst hx hb dX0_firstSilence_23 ?_
  refine z_iadd hx hb dX0_firstSilence_24 ?_
  refine z_top (show ((3 + 1) : Int) = 4 from by decide) ?_
  refine lv_goto (tgt := 29) hx hb dX0_firstSilence_25 (by decide) ?_
  refine lv_istore_n (lv' := [(1, .int (iI 4)), (2, .int (iI 3)), (0, .ref (b + 78))]) hx hb dX0_firstSilence_29 rfl hl (by decide) rfl (fun ls hl => ?_)
  refine lv_iload_n hx hb dX0_firstSilence_30 rfl (lv_at hl 0 rfl) ?_
  refine z_bipush hx hb (by decide) dX0_firstSilence_31 ?_
  refine z_icmp_ne (tgt := 43) hx hb (by decide) (by decide) dX0_firstSilence_33 (by decide) (fun c44 => ?_) (fun c44 => absurd c44 (by decide))
  refine z_iinc (lv' := [(2, .int (iI (3 + 1))), (1, .int (iI 4)), (0, .ref (b + 78))]) hx hb dX0_firstSilence_43 hl (k := 1) rfl (by decide) rfl (fun ls hl => ?_)
  rw [show ((3 + 1) : Int) = 4 from by decide] at hl
  refine lv_goto (tgt := 7) hx hb dX0_firstSilence_46 (by decide) ?_
  refine lv_iload_n hx hb dX0_firstSilence_7 rfl (lv_at hl 0 rfl) ?_
  refine z_sipush hx hb (by decide) dX0_firstSilence_8 ?_
  refine z_icmp_gt (tgt := 49) hx hb (by decide) (by decide) dX0_firstSilence_11 (by decide) (fun c45 => absurd c45 (by decide)) (fun c45 => ?_)
  refine lv_aload_n hx hb dX0_firstSilence_14 rfl (lv_at hl 2 rfl) ?_
  refine lv_iload_n hx hb dX0_firstSilence_15 rfl (lv_at hl 0 rfl) ?_
  refine z_calli (va_runV (As := [.int (iI 4)]) (rest := []) ⟨hx, hb, hml, hown, hts⟩ (n_outAt0 l D dA b M 4 (by decide) a0) (cwV 1 hts (z_gV k710 k711 k712 k9 k713) rfl rfl rfl dm_X0_outAt ⟨Nat.le_of_ble_eq_true rfl, Nat.le_of_ble_eq_true rfl⟩) ⟨zP_blind, (z_recv hS hK.1 (by decide) (zkd_of (rfl : zcd wC 78 = 30) rfl) (by decide) (rfl : vwCl[0]? = some (RX0, TX0, 8))), z_pre hS hK⟩ rfl rfl hl.1 rfl (lv_room (Nat.le_of_ble_eq_true rfl)) dX0_firstSilence_16 ⟨Nat.le_refl _, Nat.le_refl _⟩) hS hS0 (zms_sub rfl) (fun z50 M46 H locs r51 h47 F48 hS hS0 => ?_)
  obtain ⟨h52, h47⟩ := h47
  rw [h52] at hS
  have h53 := h47
  obtain ⟨z50e, h53⟩ := h53
  subst z50e
  refine z_if_ne (tgt := 28) hx hb (by decide) dX0_firstSilence_19 (by decide) (fun c54 => absurd c54 (by decide)) (fun c54 => ?_)
  refine lv_iload_n hx hb dX0_firstSilence_22 rfl (lv_at hl 1 rfl) ?_
  refine z_iconst hx hb dX0_firstSilence_23 ?_
  refine z_iadd hx hb dX0_firstSilence_24 ?_
  refine z_top (show ((4 + 1) : Int) = 5 from by decide) ?_
  refine lv_goto (tgt := 29) hx hb dX0_firstSilence_25 (by decide) ?_
  refine lv_istore_n (lv' := [(1, .int (iI 5)), (2, .int (iI 4)), (0, .ref (b + 78))]) hx hb dX0_firstSilence_29 rfl hl (by decide) rfl (fun ls hl => ?_)
  refine lv_iload_n hx hb dX0_firstSilence_30 rfl (lv_at hl 0 rfl) ?_
  refine z_bipush hx hb (by decide) dX0_firstSilence_31 ?_
  refine z_icmp_ne (tgt := 43) hx hb (by decide) (by decide) dX0_firstSilence_33 (by decide) (fun c55 => ?_) (fun c55 => absurd c55 (by decide))
  refine z_iinc (lv' := [(2, .int (iI (4 + 1))), (1, .int (iI 5)), (0, .ref (b + 78))]) hx hb dX0_firstSilence_43 hl (k := 1) rfl (by decide) rfl (fun ls hl => ?_)
  rw [show ((4 + 1) : Int) = 5 from by decide] at hl
  refine lv_goto (tgt := 7) hx hb dX0_firstSilence_46 (by decide) ?_
  refine lv_iload_n hx hb dX0_firstSilence_7 rfl (lv_at hl 0 rfl) ?_
  refine z_sipush hx hb (by decide) dX0_firstSilence_8 ?_
  refine z_icmp_gt (tgt := 49) hx hb (by decide) (by decide) dX0_firstSilence_11 (by decide) (fun c56 => absurd c56 (by decide)) (fun c56 => ?_)
  refine lv_aload_n hx hb dX0_firstSilence_14 rfl (lv_at hl 2 rfl) ?_
  refine lv_iload_n hx hb dX0_firstSilence_15 rfl (lv_at hl 0 rfl) ?_
  refine z_calli (va_runV (As := [.int (iI 5)]) (rest := []) ⟨hx, hb, hml, hown, hts⟩ (n_outAt0 l D dA b M 5 (by decide) a0) (cwV 1 hts (z_gV k710 k711 k712 k9 k713) rfl rfl rfl dm_X0_outAt ⟨Nat.le_of_ble_eq_true rfl, Nat.le_of_ble_eq_true rfl⟩) ⟨zP_blind, (z_recv hS hK.1 (by decide) (zkd_of (rfl : zcd wC 78 = 30) rfl) (by decide) (rfl : vwCl[0]? = some (RX0, TX0, 8))), z_pre hS hK⟩ rfl rfl hl.1 rfl (lv_room (Nat.le_of_ble_eq_true rfl)) dX0_firstSilence_16 ⟨Nat.le_refl _, Nat.le_refl _⟩) hS hS0 (zms_sub rfl) (fun z61 M57 H locs r62 h58 F59 hS hS0 => ?_)
  obtain ⟨h63, h58⟩ := h58
  rw [h63] at hS
  have h64 := h58
  obtain ⟨z61e, h64⟩ := h64
  subst z61e
  refine z_if_ne (tgt := 28) hx hb (by decide) dX0_firstSilence_19 (by decide) (fun c65 => absurd c65 (by decide)) (fun c65 => ?_)
  refine lv_iload_n hx hb dX0_firstSilence_22 rfl (lv_at hl 1 rfl) ?_
  refine z_iconst hx hb dX0_firstSilence_23 ?_
  refine z_iadd hx hb dX0_firstSilence_24 ?_
  refine z_top (show ((5 + 1) : Int) = 6 from by decide) ?_
  refine lv_goto (tgt := 29) hx hb dX0_firstSilence_25 (by decide) ?_
  refine lv_istore_n (lv' := [(1, .int (iI 6)), (2, .int (iI 5)), (0, .ref (b + 78))]) hx hb dX0_firstSilence_29 rfl hl (by decide) rfl (fun ls hl => ?_)
  refine lv_iload_n hx hb dX0_firstSilence_30 rfl (lv_at hl 0 rfl) ?_
  refine z_bipush hx hb (by decide) dX0_firstSilence_31 ?_
  refine z_icmp_ne (tgt := 43) hx hb (by decide) (by decide) dX0_firstSilence_33 (by decide) (fun c66 => ?_) (fun c66 => absurd c66 (by decide))
  refine z_iinc (lv' := [(2, .int (iI (5 + 1))), (1, .int (iI 6)), (0, .ref (b + 78))]) hx hb dX0_firstSilence_43 hl (k := 1) rfl (by decide) rfl (fun ls hl => ?_)
  rw [show ((5 + 1) : Int) = 6 from by decide] at hl
  refine lv_goto (tgt := 7) hx hb dX0_firstSilence_46 (by decide) ?_
  refine lv_iload_n hx hb dX0_firstSilence_7 rfl (lv_at hl 0 rfl) ?_
  refine z_sipush hx hb (by decide) dX0_firstSilence_8 ?_
  refine z_icmp_gt (tgt := 49) hx hb (by decide) (by decide) dX0_firstSilence_11 (by decide) (fun c67 => absurd c67 (by decide)) (fun c67 => ?_)
  refine lv_aload_n hx hb dX0_firstSilence_14 rfl (lv_at hl 2 rfl) ?_
  refine lv_iload_n hx hb dX0_firstSilence_15 rfl (lv_at hl 0 rfl) ?_
  refine z_calli (va_runV (As := [.int (iI 6)]) (rest := []) ⟨hx, hb, hml, hown, hts⟩ (n_outAt0 l D dA b M 6 (by decide) a0) (cwV 1 hts (z_gV k710 k711 k712 k9 k713) rfl rfl rfl dm_X0_outAt ⟨Nat.le_of_ble_eq_true rfl, Nat.le_of_ble_eq_true rfl⟩) ⟨zP_blind, (z_recv hS hK.1 (by decide) (zkd_of (rfl : zcd wC 78 = 30) rfl) (by decide) (rfl : vwCl[0]? = some (RX0, TX0, 8))), z_pre hS hK⟩ rfl rfl hl.1 rfl (lv_room (Nat.le_of_ble_eq_true rfl)) dX0_firstSilence_16 ⟨Nat.le_refl _, Nat.le_refl _⟩) hS hS0 (zms_sub rfl) (fun z72 M68 H locs r73 h69 F70 hS hS0 => ?_)
  obtain ⟨h74, h69⟩ := h69
  rw [h74] at hS
  have h75 := h69
  obtain ⟨z72e, h75⟩ := h75
  subst z72e
  refine z_if_ne (tgt := 28) hx hb (by decide) dX0_firstSilence_19 (by decide) (fun c76 => absurd c76 (by decide)) (fun c76 => ?_)
  refine lv_iload_n hx hb dX0_firstSilence_22 rfl (lv_at hl 1 rfl) ?_
  refine z_iconst hx hb dX0_firstSilence_23 ?_
  refine z_iadd hx hb dX0_firstSilence_24 ?_
  refine z_top (show ((6 + 1) : Int) = 7 from by decide) ?_
  refine lv_goto (tgt := 29) hx hb dX0_firstSilence_25 (by decide) ?_
  refine lv_istore_n (lv' := [(1, .int (iI 7)), (2, .int (iI 6)), (0, .ref (b + 78))]) hx hb dX0_firstSilence_29 rfl hl (by decide) rfl (fun ls hl => ?_)
  refine lv_iload_n hx hb dX0_firstSilence_30 rfl (lv_at hl 0 rfl) ?_
  refine z_bipush hx hb (by decide) dX0_firstSilence_31 ?_
  refine z_icmp_ne (tgt := 43) hx hb (by decide) (by decide) dX0_firstSilence_33 (by decide) (fun c77 => ?_) (fun c77 => absurd c77 (by decide))
  refine z_iinc (lv' := [(2, .int (iI (6 + 1))), (1, .int (iI 7)), (0, .ref (b + 78))]) hx hb dX0_firstSilence_43 hl (k := 1) rfl (by decide) rfl (fun ls hl => ?_)
  rw [show ((6 + 1) : Int) = 7 from by decide] at hl
  refine lv_goto (tgt := 7) hx hb dX0_firstSilence_46 (by decide) ?_
  refine lv_iload_n hx hb dX0_firstSilence_7 rfl (lv_at hl 0 rfl) ?_
  refine z_sipush hx hb (by decide) dX0_firstSilence_8 ?_
  refine z_icmp_gt (tgt := 49) hx hb (by decide) (by decide) dX0_firstSilence_11 (by decide) (fun c78 => absurd c78 (by decide)) (fun c78 => ?_)
  refine lv_aload_n hx hb dX0_firstSilence_14 rfl (lv_at hl 2 rfl) ?_
  refine lv_iload_n hx hb dX0_firstSilence_15 rfl (lv_at hl 0 rfl) ?_
  refine z_calli (va_runV (As := [.int (iI 7)]) (rest := []) ⟨hx, hb, hml, hown, hts⟩ (n_outAt0 l D dA b M 7 (by decide) a0) (cwV 1 hts (z_gV k710 k711 k712 k9 k713) rfl rfl rfl dm_X0_outAt ⟨Nat.le_of_ble_eq_true rfl, Nat.le_of_ble_eq_true rfl⟩) ⟨zP_blind, (z_recv hS hK.1 (by decide) (zkd_of (rfl : zcd wC 78 = 30) rfl) (by decide) (rfl : vwCl[0]? = some (RX0, TX0, 8))), z_pre hS hK⟩ rfl rfl hl.1 rfl (lv_room (Nat.le_of_ble_eq_true rfl)) dX0_firstSilence_16 ⟨Nat.le_refl _, Nat.le_refl _⟩) hS hS0 (zms_sub rfl) (fun z83 M79 H locs r84 h80 F81 hS hS0 => ?_)
  obtain ⟨h85, h80⟩ := h80
  rw [h85] at hS
  have h86 := h80
  obtain ⟨z83e, h86⟩ := h86
  subst z83e
  refine z_if_ne (tgt := 28) hx hb (by decide) dX0_firstSilence_19 (by decide) (fun c87 => absurd c87 (by decide)) (fun c87 => ?_)
  refine lv_iload_n hx hb dX0_firstSilence_22 rfl (lv_at hl 1 rfl) ?_
  refine z_iconst hx hb dX0_firstSilence_23 ?_
  refine z_iadd hx hb dX0_firstSilence_24 ?_
  refine z_top (show ((7 + 1) : Int) = 8 from by decide) ?_
  refine lv_goto (tgt := 29) hx hb dX0_firstSilence_25 (by decide) ?_
  refine lv_istore_n (lv' := [(1, .int (iI 8)), (2, .int (iI 7)), (0, .ref (b + 78))]) hx hb dX0_firstSilence_29 rfl hl (by decide) rfl (fun ls hl => ?_)
  refine lv_iload_n hx hb dX0_firstSilence_30 rfl (lv_at hl 0 rfl) ?_
  refine z_bipush hx hb (by decide) dX0_firstSilence_31 ?_
  refine z_icmp_ne (tgt := 43) hx hb (by decide) (by decide) dX0_firstSilence_33 (by decide) (fun c88 => ?_) (fun c88 => absurd c88 (by decide))
  refine z_iinc (lv' := [(2, .int (iI (7 + 1))), (1, .int (iI 8)), (0, .ref (b + 78))]) hx hb dX0_firstSilence_43 hl (k := 1) rfl (by decide) rfl (fun ls hl => ?_)
  rw [show ((7 + 1) : Int) = 8 from by decide] at hl
  refine lv_goto (tgt := 7) hx hb dX0_firstSilence_46 (by decide) ?_
  refine lv_iload_n hx hb dX0_firstSilence_7 rfl (lv_at hl 0 rfl) ?_
  refine z_sipush hx hb (by decide) dX0_firstSilence_8 ?_
  refine z_icmp_gt (tgt := 49) hx hb (by decide) (by decide) dX0_firstSilence_11 (by decide) (fun c89 => absurd c89 (by decide)) (fun c89 => ?_)
  refine lv_aload_n hx hb dX0_firstSilence_14 rfl (lv_at hl 2 rfl) ?_
  refine lv_iload_n hx hb dX0_firstSilence_15 rfl (lv_at hl 0 rfl) ?_
  refine z_calli (va_runV (As := [.int (iI 8)]) (rest := []) ⟨hx, hb, hml, hown, hts⟩ (n_outAt0 l D dA b M 8 (by decide) a0) (cwV 1 hts (z_gV k710 k711 k712 k9 k713) rfl rfl rfl dm_X0_outAt ⟨Nat.le_of_ble_eq_true rfl, Nat.le_of_ble_eq_true rfl⟩) ⟨zP_blind, (z_recv hS hK.1 (by decide) (zkd_of (rfl : zcd wC 78 = 30) rfl) (by decide) (rfl : vwCl[0]? = some (RX0, TX0, 8))), z_pre hS hK⟩ rfl rfl hl.1 rfl (lv_room (Nat.le_of_ble_eq_true rfl)) dX0_firstSilence_16 ⟨Nat.le_refl _, Nat.le_refl _⟩) hS hS0 (zms_sub rfl) (fun z94 M90 H locs r95 h91 F92 hS hS0 => ?_)
  obtain ⟨h96, h91⟩ := h91
  rw [h96] at hS
  have h97 := h91
  obtain ⟨z94e, h97⟩ := h97
  subst z94e
  refine z_if_ne (tgt := 28) hx hb (by decide) dX0_firstSilence_19 (by decide) (fun c98 => absurd c98 (by decide)) (fun c98 => ?_)
  refine lv_iload_n hx hb dX0_firstSilence_22 rfl (lv_at hl 1 rfl) ?_
  refine z_iconst hx hb dX0_firstSilence_23 ?_
  refine z_iadd hx hb dX0_firstSilence_24 ?_
  refine z_top (show ((8 + 1) : Int) = 9 from by decide) ?_
  refine lv_goto (tgt := 29) hx hb dX0_firstSilence_25 (by decide) ?_
  refine lv_istore_n (lv' := [(1, .int (iI 9)), (2, .int (iI 8)), (0, .ref (b + 78))]) hx hb dX0_firstSilence_29 rfl hl (by decide) rfl (fun ls hl => ?_)
  refine lv_iload_n hx hb dX0_firstSilence_30 rfl (lv_at hl 0 rfl) ?_
  refine z_bipush hx hb (by decide) dX0_firstSilence_31 ?_
  refine z_icmp_ne (tgt := 43) hx hb (by decide) (by decide) dX0_firstSilence_33 (by decide) (fun c99 => ?_) (fun c99 => absurd c99 (by decide))
  refine z_iinc (lv' := [(2, .int (iI (8 + 1))), (1, .int (iI 9)), (0, .ref (b + 78))]) hx hb dX0_firstSilence_43 hl (k := 1) rfl (by decide) rfl (fun ls hl => ?_)
  rw [show ((8 + 1) : Int) = 9 from by decide] at hl
  refine lv_goto (tgt := 7) hx hb dX0_firstSilence_46 (by decide) ?_
  refine lv_iload_n hx hb dX0_firstSilence_7 rfl (lv_at hl 0 rfl) ?_
  refine z_sipush hx hb (by decide) dX0_firstSilence_8 ?_
  refine z_icmp_gt (tgt := 49) hx hb (by decide) (by decide) dX0_firstSilence_11 (by decide) (fun c100 => absurd c100 (by decide)) (fun c100 => ?_)
  refine lv_aload_n hx hb dX0_firstSilence_14 rfl (lv_at hl 2 rfl) ?_
  refine lv_iload_n hx hb dX0_firstSilence_15 rfl (lv_at hl 0 rfl) ?_
  refine z_calli (va_runV (As := [.int (iI 9)]) (rest := []) ⟨hx, hb, hml, hown, hts⟩ (n_outAt0 l D dA b M 9 (by decide) a0) (cwV 1 hts (z_gV k710 k711 k712 k9 k713) rfl rfl rfl dm_X0_outAt ⟨Nat.le_of_ble_eq_true rfl, Nat.le_of_ble_eq_true rfl⟩) ⟨zP_blind, (z_recv hS hK.1 (by decide) (zkd_of (rfl : zcd wC 78 = 30) rfl) (by decide) (rfl : vwCl[0]? = some (RX0, TX0, 8))), z_pre hS hK⟩ rfl rfl hl.1 rfl (lv_room (Nat.le_of_ble_eq_true rfl)) dX0_firstSilence_16 ⟨Nat.le_refl _, Nat.le_refl _⟩) hS hS0 (zms_sub rfl) (fun z105 M101 H locs r106 h102 F103 hS hS0 => ?_)
  obtain ⟨h107, h102⟩ := h102
  rw [h107] at hS
  have h108 := h102
  obtain ⟨z105e, h108⟩ := h108
  subst z105e
  refine z_if_ne (tgt := 28) hx hb (by decide) dX0_firstSilence_19 (by decide) (fun c109 => absurd c109 (by decide)) (fun c109 => ?_)
  refine lv_iload_n hx hb dX0_firstSilence_22 rfl (lv_at hl 1 rfl) ?_
  refine z_iconst hx hb dX0_firstSilence_23 ?_
  refine z_iadd hx hb dX0_firstSilence_24 ?_
  refine z_top (show ((9 + 1) : Int) = 10 from by decide) ?_
  refine lv_goto (tgt := 29) hx hb dX0_firstSilence_25 (by decide) ?_
  refine lv_istore_n (lv' := [(1, .int (iI 10)), (2, .int (iI 9)), (0, .ref (b + 78))]) hx hb dX0_firstSilence_29 rfl hl (by decide) rfl (fun ls hl => ?_)
  refine lv_iload_n hx hb dX0_firstSilence_30 rfl (lv_at hl 0 rfl) ?_
  refine z_bipush hx hb (by decide) dX0_firstSilence_31 ?_
  refine z_icmp_ne (tgt := 43) hx hb (by decide) (by decide) dX0_firstSilence_33 (by decide) (fun c110 => ?_) (fun c110 => absurd c110 (by decide))
  refine z_iinc (lv' := [(2, .int (iI (9 + 1))), (1, .int (iI 10)), (0, .ref (b + 78))]) hx hb dX0_firstSilence_43 hl (k := 1) rfl (by decide) rfl (fun ls hl => ?_)
  rw [show ((9 + 1) : Int) = 10 from by decide] at hl
  refine lv_goto (tgt := 7) hx hb dX0_firstSilence_46 (by decide) ?_
  refine lv_iload_n hx hb dX0_firstSilence_7 rfl (lv_at hl 0 rfl) ?_
  refine z_sipush hx hb (by decide) dX0_firstSilence_8 ?_
  refine z_icmp_gt (tgt := 49) hx hb (by decide) (by decide) dX0_firstSilence_11 (by decide) (fun c111 => absurd c111 (by decide)) (fun c111 => ?_)
  refine lv_aload_n hx hb dX0_firstSilence_14 rfl (lv_at hl 2 rfl) ?_
  refine lv_iload_n hx hb dX0_firstSilence_15 rfl (lv_at hl 0 rfl) ?_
  refine z_calli (va_runV (As := [.int (iI 10)]) (rest := []) ⟨hx, hb, hml, hown, hts⟩ (n_outAt0 l D dA b M 10 (by decide) a0) (cwV 1 hts (z_gV k710 k711 k712 k9 k713) rfl rfl rfl dm_X0_outAt ⟨Nat.le_of_ble_eq_true rfl, Nat.le_of_ble_eq_true rfl⟩) ⟨zP_blind, (z_recv hS hK.1 (by decide) (zkd_of (rfl : zcd wC 78 = 30) rfl) (by decide) (rfl : vwCl[0]? = some (RX0, TX0, 8))), z_pre hS hK⟩ rfl rfl hl.1 rfl (lv_room (Nat.le_of_ble_eq_true rfl)) dX0_firstSilence_16 ⟨Nat.le_refl _, Nat.le_refl _⟩) hS hS0 (zms_sub rfl) (fun z116 M112 H locs r117 h113 F114 hS hS0 => ?_)
  obtain ⟨h118, h113⟩ := h113
  rw [h118] at hS
  have h119 := h113
  obtain ⟨z116e, h119⟩ := h119
  subst z116e
  refine z_if_ne (tgt := 28) hx hb (by decide) dX0_firstSilence_19 (by decide) (fun c120 => absurd c120 (by decide)) (fun c120 => ?_)
  refine lv_iload_n hx hb dX0_firstSilence_22 rfl (lv_at hl 1 rfl) ?_
  refine z_iconst hx hb dX0_firstSilence_23 ?_
  refine z_iadd hx hb dX0_firstSilence_24 ?_
  refine z_top (show ((10 + 1) : Int) = 11 from by decide) ?_
  refine lv_goto (tgt := 29) hx hb dX0_firstSilence_25 (by decide) ?_
  refine lv_istore_n (lv' := [(1, .int (iI 11)), (2, .int (iI 10)), (0, .ref (b + 78))]) hx hb dX0_firstSilence_29 rfl hl (by decide) rfl (fun ls hl => ?_)
  refine lv_iload_n hx hb dX0_firstSilence_30 rfl (lv_at hl 0 rfl) ?_
  refine z_bipush hx hb (by decide) dX0_firstSilence_31 ?_
  refine z_icmp_ne (tgt := 43) hx hb (by decide) (by decide) dX0_firstSilence_33 (by decide) (fun c121 => ?_) (fun c121 => absurd c121 (by decide))
  refine z_iinc (lv' := [(2, .int (iI (10 + 1))), (1, .int (iI 11)), (0, .ref (b + 78))]) hx hb dX0_firstSilence_43 hl (k := 1) rfl (by decide) rfl (fun ls hl => ?_)
  rw [show ((10 + 1) : Int) = 11 from by decide] at hl
  refine lv_goto (tgt := 7) hx hb dX0_firstSilence_46 (by decide) ?_
  refine lv_iload_n hx hb dX0_firstSilence_7 rfl (lv_at hl 0 rfl) ?_
  refine z_sipush hx hb (by decide) dX0_firstSilence_8 ?_
  refine z_icmp_gt (tgt := 49) hx hb (by decide) (by decide) dX0_firstSilence_11 (by decide) (fun c122 => absurd c122 (by decide)) (fun c122 => ?_)
  refine lv_aload_n hx hb dX0_firstSilence_14 rfl (lv_at hl 2 rfl) ?_
  refine lv_iload_n hx hb dX0_firstSilence_15 rfl (lv_at hl 0 rfl) ?_
  refine z_calli (va_runV (As := [.int (iI 11)]) (rest := []) ⟨hx, hb, hml, hown, hts⟩ (n_outAt0 l D dA b M 11 (by decide) a0) (cwV 1 hts (z_gV k710 k711 k712 k9 k713) rfl rfl rfl dm_X0_outAt ⟨Nat.le_of_ble_eq_true rfl, Nat.le_of_ble_eq_true rfl⟩) ⟨zP_blind, (z_recv hS hK.1 (by decide) (zkd_of (rfl : zcd wC 78 = 30) rfl) (by decide) (rfl : vwCl[0]? = some (RX0, TX0, 8))), z_pre hS hK⟩ rfl rfl hl.1 rfl (lv_room (Nat.le_of_ble_eq_true rfl)) dX0_firstSilence_16 ⟨Nat.le_refl _, Nat.le_refl _⟩) hS hS0 (zms_sub rfl) (fun z127 M123 H locs r128 h124 F125 hS hS0 => ?_)
  obtain ⟨h129, h124⟩ := h124
  rw [h129] at hS
  have h130 := h124
  obtain ⟨z127e, h130⟩ := h130
  subst z127e
  refine z_if_ne (tgt := 28) hx hb (by decide) dX0_firstSilence_19 (by decide) (fun c131 => absurd c131 (by decide)) (fun c131 => ?_)
  refine lv_iload_n hx hb dX0_firstSilence_22 rfl (lv_at hl 1 rfl) ?_
  refine z_iconst hx hb dX0_firstSilence_23 ?_
  refine z_iadd hx hb dX0_firstSilence_24 ?_
  refine z_top (show ((11 + 1) : Int) = 12 from by decide) ?_
  refine lv_goto (tgt := 29) hx hb dX0_firstSilence_25 (by decide) ?_
  refine lv_istore_n (lv' := [(1, .int (iI 12)), (2, .int (iI 11)), (0, .ref (b + 78))]) hx hb dX0_firstSilence_29 rfl hl (by decide) rfl (fun ls hl => ?_)
  refine lv_iload_n hx hb dX0_firstSilence_30 rfl (lv_at hl 0 rfl) ?_
  refine z_bipush hx hb (by decide) dX0_firstSilence_31 ?_
  refine z_icmp_ne (tgt := 43) hx hb (by decide) (by decide) dX0_firstSilence_33 (by decide) (fun c132 => ?_) (fun c132 => absurd c132 (by decide))
  refine z_iinc (lv' := [(2, .int (iI (11 + 1))), (1, .int (iI 12)), (0, .ref (b + 78))]) hx hb dX0_firstSilence_43 hl (k := 1) rfl (by decide) rfl (fun ls hl => ?_)
  rw [show ((11 + 1) : Int) = 12 from by decide] at hl
  refine lv_goto (tgt := 7) hx hb dX0_firstSilence_46 (by decide) ?_
  refine lv_iload_n hx hb dX0_firstSilence_7 rfl (lv_at hl 0 rfl) ?_
  refine z_sipush hx hb (by decide) dX0_firstSilence_8 ?_
  refine z_icmp_gt (tgt := 49) hx hb (by decide) (by decide) dX0_firstSilence_11 (by decide) (fun c133 => absurd c133 (by decide)) (fun c133 => ?_)
  refine lv_aload_n hx hb dX0_firstSilence_14 rfl (lv_at hl 2 rfl) ?_
  refine lv_iload_n hx hb dX0_firstSilence_15 rfl (lv_at hl 0 rfl) ?_
  refine z_calli (va_runV (As := [.int (iI 12)]) (rest := []) ⟨hx, hb, hml, hown, hts⟩ (n_outAt0 l D dA b M 12 (by decide) a0) (cwV 1 hts (z_gV k710 k711 k712 k9 k713) rfl rfl rfl dm_X0_outAt ⟨Nat.le_of_ble_eq_true rfl, Nat.le_of_ble_eq_true rfl⟩) ⟨zP_blind, (z_recv hS hK.1 (by decide) (zkd_of (rfl : zcd wC 78 = 30) rfl) (by decide) (rfl : vwCl[0]? = some (RX0, TX0, 8))), z_pre hS hK⟩ rfl rfl hl.1 rfl (lv_room (Nat.le_of_ble_eq_true rfl)) dX0_firstSilence_16 ⟨Nat.le_refl _, Nat.le_refl _⟩) hS hS0 (zms_sub rfl) (fun z138 M134 H locs r139 h135 F136 hS hS0 => ?_)
  obtain ⟨h140, h135⟩ := h135
  rw [h140] at hS
  have h141 := h135
  obtain ⟨z138e, h141⟩ := h141
  subst z138e
  refine z_if_ne (tgt := 28) hx hb (by decide) dX0_firstSilence_19 (by decide) (fun c142 => absurd c142 (by decide)) (fun c142 => ?_)
  refine lv_iload_n hx hb dX0_firstSilence_22 rfl (lv_at hl 1 rfl) ?_
  refine z_iconst hx hb dX0_firstSilence_23 ?_
  refine z_iadd hx hb dX0_firstSilence_24 ?_
  refine z_top (show ((12 + 1) : Int) = 13 from by decide) ?_
  refine lv_goto (tgt := 29) hx hb dX0_firstSilence_25 (by decide) ?_
  refine lv_istore_n (lv' := [(1, .int (iI 13)), (2, .int (iI 12)), (0, .ref (b + 78))]) hx hb dX0_firstSilence_29 rfl hl (by decide) rfl (fun ls hl => ?_)
  refine lv_iload_n hx hb dX0_firstSilence_30 rfl (lv_at hl 0 rfl) ?_
  refine z_bipush hx hb (by decide) dX0_firstSilence_31 ?_
  refine z_icmp_ne (tgt := 43) hx hb (by decide) (by decide) dX0_firstSilence_33 (by decide) (fun c143 => ?_) (fun c143 => absurd c143 (by decide))
  refine z_iinc (lv' := [(2, .int (iI (12 + 1))), (1, .int (iI 13)), (0, .ref (b + 78))]) hx hb dX0_firstSilence_43 hl (k := 1) rfl (by decide) rfl (fun ls hl => ?_)
  rw [show ((12 + 1) : Int) = 13 from by decide] at hl
  refine lv_goto (tgt := 7) hx hb dX0_firstSilence_46 (by decide) ?_
  refine lv_iload_n hx hb dX0_firstSilence_7 rfl (lv_at hl 0 rfl) ?_
  refine z_sipush hx hb (by decide) dX0_firstSilence_8 ?_
  refine z_icmp_gt (tgt := 49) hx hb (by decide) (by decide) dX0_firstSilence_11 (by decide) (fun c144 => absurd c144 (by decide)) (fun c144 => ?_)
  refine lv_aload_n hx hb dX0_firstSilence_14 rfl (lv_at hl 2 rfl) ?_
  refine lv_iload_n hx hb dX0_firstSilence_15 rfl (lv_at hl 0 rfl) ?_
  refine z_calli (va_runV (As := [.int (iI 13)]) (rest := []) ⟨hx, hb, hml, hown, hts⟩ (n_outAt0 l D dA b M 13 (by decide) a0) (cwV 1 hts (z_gV k710 k711 k712 k9 k713) rfl rfl rfl dm_X0_outAt ⟨Nat.le_of_ble_eq_true rfl, Nat.le_of_ble_eq_true rfl⟩) ⟨zP_blind, (z_recv hS hK.1 (by decide) (zkd_of (rfl : zcd wC 78 = 30) rfl) (by decide) (rfl : vwCl[0]? = some (RX0, TX0, 8))), z_pre hS hK⟩ rfl rfl hl.1 rfl (lv_room (Nat.le_of_ble_eq_true rfl)) dX0_firstSilence_16 ⟨Nat.le_refl _, Nat.le_refl _⟩) hS hS0 (zms_sub rfl) (fun z149 M145 H locs r150 h146 F147 hS hS0 => ?_)
  obtain ⟨h151, h146⟩ := h146
  rw [h151] at hS
  have h152 := h146
  obtain ⟨z149e, h152⟩ := h152
  subst z149e
  refine z_if_ne (tgt := 28) hx hb (by decide) dX0_firstSilence_19 (by decide) (fun c153 => absurd c153 (by decide)) (fun c153 => ?_)
  refine lv_iload_n hx hb dX0_firstSilence_22 rfl (lv_at hl 1 rfl) ?_
  refine z_iconst hx hb dX0_firstSilence_23 ?_
  refine z_iadd hx hb dX0_firstSilence_24 ?_
  refine z_top (show ((13 + 1) : Int) = 14 from by decide) ?_
  refine lv_goto (tgt := 29) hx hb dX0_firstSilence_25 (by decide) ?_
  refine lv_istore_n (lv' := [(1, .int (iI 14)), (2, .int (iI 13)), (0, .ref (b + 78))]) hx hb dX0_firstSilence_29 rfl hl (by decide) rfl (fun ls hl => ?_)
  refine lv_iload_n hx hb dX0_firstSilence_30 rfl (lv_at hl 0 rfl) ?_
  refine z_bipush hx hb (by decide) dX0_firstSilence_31 ?_
  refine z_icmp_ne (tgt := 43) hx hb (by decide) (by decide) dX0_firstSilence_33 (by decide) (fun c154 => ?_) (fun c154 => absurd c154 (by decide))
  refine z_iinc (lv' := [(2, .int (iI (13 + 1))), (1, .int (iI 14)), (0, .ref (b + 78))]) hx hb dX0_firstSilence_43 hl (k := 1) rfl (by decide) rfl (fun ls hl => ?_)
  rw [show ((13 + 1) : Int) = 14 from by decide] at hl
  refine lv_goto (tgt := 7) hx hb dX0_firstSilence_46 (by decide) ?_
  refine lv_iload_n hx hb dX0_firstSilence_7 rfl (lv_at hl 0 rfl) ?_
  refine z_sipush hx hb (by decide) dX0_firstSilence_8 ?_
  refine z_icmp_gt (tgt := 49) hx hb (by decide) (by decide) dX0_firstSilence_11 (by decide) (fun c155 => absurd c155 (by decide)) (fun c155 => ?_)
  refine lv_aload_n hx hb dX0_firstSilence_14 rfl (lv_at hl 2 rfl) ?_
  refine lv_iload_n hx hb dX0_firstSilence_15 rfl (lv_at hl 0 rfl) ?_
  refine z_calli (va_runV (As := [.int (iI 14)]) (rest := []) ⟨hx, hb, hml, hown, hts⟩ (n_outAt0 l D dA b M 14 (by decide) a0) (cwV 1 hts (z_gV k710 k711 k712 k9 k713) rfl rfl rfl dm_X0_outAt ⟨Nat.le_of_ble_eq_true rfl, Nat.le_of_ble_eq_true rfl⟩) ⟨zP_blind, (z_recv hS hK.1 (by decide) (zkd_of (rfl : zcd wC 78 = 30) rfl) (by decide) (rfl : vwCl[0]? = some (RX0, TX0, 8))), z_pre hS hK⟩ rfl rfl hl.1 rfl (lv_room (Nat.le_of_ble_eq_true rfl)) dX0_firstSilence_16 ⟨Nat.le_refl _, Nat.le_refl _⟩) hS hS0 (zms_sub rfl) (fun z160 M156 H locs r161 h157 F158 hS hS0 => ?_)
  obtain ⟨h162, h157⟩ := h157
  rw [h162] at hS
  have h163 := h157
  obtain ⟨z160e, h163⟩ := h163
  subst z160e
  refine z_if_ne (tgt := 28) hx hb (by decide) dX0_firstSilence_19 (by decide) (fun c164 => absurd c164 (by decide)) (fun c164 => ?_)
  refine lv_iload_n hx hb dX0_firstSilence_22 rfl (lv_at hl 1 rfl) ?_
  refine z_iconst hx hb dX0_firstSilence_23 ?_
  refine z_iadd hx hb dX0_firstSilence_24 ?_
  refine z_top (show ((14 + 1) : Int) = 15 from by decide) ?_
  refine lv_goto (tgt := 29) hx hb dX0_firstSilence_25 (by decide) ?_
  refine lv_istore_n (lv' := [(1, .int (iI 15)), (2, .int (iI 14)), (0, .ref (b + 78))]) hx hb dX0_firstSilence_29 rfl hl (by decide) rfl (fun ls hl => ?_)
  refine lv_iload_n hx hb dX0_firstSilence_30 rfl (lv_at hl 0 rfl) ?_
  refine z_bipush hx hb (by decide) dX0_firstSilence_31 ?_
  refine z_icmp_ne (tgt := 43) hx hb (by decide) (by decide) dX0_firstSilence_33 (by decide) (fun c165 => ?_) (fun c165 => absurd c165 (by decide))
  refine z_iinc (lv' := [(2, .int (iI (14 + 1))), (1, .int (iI 15)), (0, .ref (b + 78))]) hx hb dX0_firstSilence_43 hl (k := 1) rfl (by decide) rfl (fun ls hl => ?_)
  rw [show ((14 + 1) : Int) = 15 from by decide] at hl
  refine lv_goto (tgt := 7) hx hb dX0_firstSilence_46 (by decide) ?_
  refine lv_iload_n hx hb dX0_firstSilence_7 rfl (lv_at hl 0 rfl) ?_
  refine z_sipush hx hb (by decide) dX0_firstSilence_8 ?_
  refine z_icmp_gt (tgt := 49) hx hb (by decide) (by decide) dX0_firstSilence_11 (by decide) (fun c166 => absurd c166 (by decide)) (fun c166 => ?_)
  refine lv_aload_n hx hb dX0_firstSilence_14 rfl (lv_at hl 2 rfl) ?_
  refine lv_iload_n hx hb dX0_firstSilence_15 rfl (lv_at hl 0 rfl) ?_
  refine z_calli (va_runV (As := [.int (iI 15)]) (rest := []) ⟨hx, hb, hml, hown, hts⟩ (n_outAt0 l D dA b M 15 (by decide) a0) (cwV 1 hts (z_gV k710 k711 k712 k9 k713) rfl rfl rfl dm_X0_outAt ⟨Nat.le_of_ble_eq_true rfl, Nat.le_of_ble_eq_true rfl⟩) ⟨zP_blind, (z_recv hS hK.1 (by decide) (zkd_of (rfl : zcd wC 78 = 30) rfl) (by decide) (rfl : vwCl[0]? = some (RX0, TX0, 8))), z_pre hS hK⟩ rfl rfl hl.1 rfl (lv_room (Nat.le_of_ble_eq_true rfl)) dX0_firstSilence_16 ⟨Nat.le_refl _, Nat.le_refl _⟩) hS hS0 (zms_sub rfl) (fun z171 M167 H locs r172 h168 F169 hS hS0 => ?_)
  obtain ⟨h173, h168⟩ := h168
  rw [h173] at hS
  have h174 := h168
  obtain ⟨z171e, h174⟩ := h174
  subst z171e
  refine z_if_ne (tgt := 28) hx hb (by decide) dX0_firstSilence_19 (by decide) (fun c175 => absurd c175 (by decide)) (fun c175 => ?_)
  refine lv_iload_n hx hb dX0_firstSilence_22 rfl (lv_at hl 1 rfl) ?_
  refine z_iconst hx hb dX0_firstSilence_23 ?_
  refine z_iadd hx hb dX0_firstSilence_24 ?_
  refine z_top (show ((15 + 1) : Int) = 16 from by decide) ?_
  refine lv_goto (tgt := 29) hx hb dX0_firstSilence_25 (by decide) ?_
  refine lv_istore_n (lv' := [(1, .int (iI 16)), (2, .int (iI 15)), (0, .ref (b + 78))]) hx hb dX0_firstSilence_29 rfl hl (by decide) rfl (fun ls hl => ?_)
  refine lv_iload_n hx hb dX0_firstSilence_30 rfl (lv_at hl 0 rfl) ?_
  refine z_bipush hx hb (by decide) dX0_firstSilence_31 ?_
  refine z_icmp_ne (tgt := 43) hx hb (by decide) (by decide) dX0_firstSilence_33 (by decide) (fun c176 => ?_) (fun c176 => absurd c176 (by decide))
  refine z_iinc (lv' := [(2, .int (iI (15 + 1))), (1, .int (iI 16)), (0, .ref (b + 78))]) hx hb dX0_firstSilence_43 hl (k := 1) rfl (by decide) rfl (fun ls hl => ?_)
  rw [show ((15 + 1) : Int) = 16 from by decide] at hl
  refine lv_goto (tgt := 7) hx hb dX0_firstSilence_46 (by decide) ?_
  refine lv_iload_n hx hb dX0_firstSilence_7 rfl (lv_at hl 0 rfl) ?_
  refine z_sipush hx hb (by decide) dX0_firstSilence_8 ?_
  refine z_icmp_gt (tgt := 49) hx hb (by decide) (by decide) dX0_firstSilence_11 (by decide) (fun c177 => absurd c177 (by decide)) (fun c177 => ?_)
  refine lv_aload_n hx hb dX0_firstSilence_14 rfl (lv_at hl 2 rfl) ?_
  refine lv_iload_n hx hb dX0_firstSilence_15 rfl (lv_at hl 0 rfl) ?_
  refine z_calli (va_runV (As := [.int (iI 16)]) (rest := []) ⟨hx, hb, hml, hown, hts⟩ (n_outAt0 l D dA b M 16 (by decide) a0) (cwV 1 hts (z_gV k710 k711 k712 k9 k713) rfl rfl rfl dm_X0_outAt ⟨Nat.le_of_ble_eq_true rfl, Nat.le_of_ble_eq_true rfl⟩) ⟨zP_blind, (z_recv hS hK.1 (by decide) (zkd_of (rfl : zcd wC 78 = 30) rfl) (by decide) (rfl : vwCl[0]? = some (RX0, TX0, 8))), z_pre hS hK⟩ rfl rfl hl.1 rfl (lv_room (Nat.le_of_ble_eq_true rfl)) dX0_firstSilence_16 ⟨Nat.le_refl _, Nat.le_refl _⟩) hS hS0 (zms_sub rfl) (fun z182 M178 H locs r183 h179 F180 hS hS0 => ?_)
  obtain ⟨h184, h179⟩ := h179
  rw [h184] at hS
  have h185 := h179
  obtain ⟨z182e, h185⟩ := h185
  subst z182e
  refine z_if_ne (tgt := 28) hx hb (by decide) dX0_firstSilence_19 (by decide) (fun c186 => absurd c186 (by decide)) (fun c186 => ?_)
  refine lv_iload_n hx hb dX0_firstSilence_22 rfl (lv_at hl 1 rfl) ?_
  refine z_iconst hx hb dX0_firstSilence_23 ?_
  refine z_iadd hx hb dX0_firstSilence_24 ?_
  refine z_top (show ((16 + 1) : Int) = 17 from by decide) ?_
  refine lv_goto (tgt := 29) hx hb dX0_firstSilence_25 (by decide) ?_
  refine lv_istore_n (lv' := [(1, .int (iI 17)), (2, .int (iI 16)), (0, .ref (b + 78))]) hx hb dX0_firstSilence_29 rfl hl (by decide) rfl (fun ls hl => ?_)
  refine lv_iload_n hx hb dX0_firstSilence_30 rfl (lv_at hl 0 rfl) ?_
  refine z_bipush hx hb (by decide) dX0_firstSilence_31 ?_
  refine z_icmp_ne (tgt := 43) hx hb (by decide) (by decide) dX0_firstSilence_33 (by decide) (fun c187 => ?_) (fun c187 => absurd c187 (by decide))
  refine z_iinc (lv' := [(2, .int (iI (16 + 1))), (1, .int (iI 17)), (0, .ref (b + 78))]) hx hb dX0_firstSilence_43 hl (k := 1) rfl (by decide) rfl (fun ls hl => ?_)
  rw [show ((16 + 1) : Int) = 17 from by decide] at hl
  refine lv_goto (tgt := 7) hx hb dX0_firstSilence_46 (by decide) ?_
  refine lv_iload_n hx hb dX0_firstSilence_7 rfl (lv_at hl 0 rfl) ?_
  refine z_sipush hx hb (by decide) dX0_firstSilence_8 ?_
  refine z_icmp_gt (tgt := 49) hx hb (by decide) (by decide) dX0_firstSilence_11 (by decide) (fun c188 => absurd c188 (by decide)) (fun c188 => ?_)
  refine lv_aload_n hx hb dX0_firstSilence_14 rfl (lv_at hl 2 rfl) ?_
  refine lv_iload_n hx hb dX0_firstSilence_15 rfl (lv_at hl 0 rfl) ?_
  refine z_calli (va_runV (As := [.int (iI 17)]) (rest := []) ⟨hx, hb, hml, hown, hts⟩ (n_outAt0 l D dA b M 17 (by decide) a0) (cwV 1 hts (z_gV k710 k711 k712 k9 k713) rfl rfl rfl dm_X0_outAt ⟨Nat.le_of_ble_eq_true rfl, Nat.le_of_ble_eq_true rfl⟩) ⟨zP_blind, (z_recv hS hK.1 (by decide) (zkd_of (rfl : zcd wC 78 = 30) rfl) (by decide) (rfl : vwCl[0]? = some (RX0, TX0, 8))), z_pre hS hK⟩ rfl rfl hl.1 rfl (lv_room (Nat.le_of_ble_eq_true rfl)) dX0_firstSilence_16 ⟨Nat.le_refl _, Nat.le_refl _⟩) hS hS0 (zms_sub rfl) (fun z193 M189 H locs r194 h190 F191 hS hS0 => ?_)
  obtain ⟨h195, h190⟩ := h190
  rw [h195] at hS
  have h196 := h190
  obtain ⟨z193e, h196⟩ := h196
  subst z193e
  refine z_if_ne (tgt := 28) hx hb (by decide) dX0_firstSilence_19 (by decide) (fun c197 => absurd c197 (by decide)) (fun c197 => ?_)
  refine lv_iload_n hx hb dX0_firstSilence_22 rfl (lv_at hl 1 rfl) ?_
  refine z_iconst hx hb dX0_firstSilence_23 ?_
  refine z_iadd hx hb dX0_firstSilence_24 ?_
  refine z_top (show ((17 + 1) : Int) = 18 from by decide) ?_
  refine lv_goto (tgt := 29) hx hb dX0_firstSilence_25 (by decide) ?_
  refine lv_istore_n (lv' := [(1, .int (iI 18)), (2, .int (iI 17)), (0, .ref (b + 78))]) hx hb dX0_firstSilence_29 rfl hl (by decide) rfl (fun ls hl => ?_)
  refine lv_iload_n hx hb dX0_firstSilence_30 rfl (lv_at hl 0 rfl) ?_
  refine z_bipush hx hb (by decide) dX0_firstSilence_31 ?_
  refine z_icmp_ne (tgt := 43) hx hb (by decide) (by decide) dX0_firstSilence_33 (by decide) (fun c198 => ?_) (fun c198 => absurd c198 (by decide))
  refine z_iinc (lv' := [(2, .int (iI (17 + 1))), (1, .int (iI 18)), (0, .ref (b + 78))]) hx hb dX0_firstSilence_43 hl (k := 1) rfl (by decide) rfl (fun ls hl => ?_)
  rw [show ((17 + 1) : Int) = 18 from by decide] at hl
  refine lv_goto (tgt := 7) hx hb dX0_firstSilence_46 (by decide) ?_
  refine lv_iload_n hx hb dX0_firstSilence_7 rfl (lv_at hl 0 rfl) ?_
  refine z_sipush hx hb (by decide) dX0_firstSilence_8 ?_
  refine z_icmp_gt (tgt := 49) hx hb (by decide) (by decide) dX0_firstSilence_11 (by decide) (fun c199 => absurd c199 (by decide)) (fun c199 => ?_)
  refine lv_aload_n hx hb dX0_firstSilence_14 rfl (lv_at hl 2 rfl) ?_
  refine lv_iload_n hx hb dX0_firstSilence_15 rfl (lv_at hl 0 rfl) ?_
  refine z_calli (va_runV (As := [.int (iI 18)]) (rest := []) ⟨hx, hb, hml, hown, hts⟩ (n_outAt0 l D dA b M 18 (by decide) a0) (cwV 1 hts (z_gV k710 k711 k712 k9 k713) rfl rfl rfl dm_X0_outAt ⟨Nat.le_of_ble_eq_true rfl, Nat.le_of_ble_eq_true rfl⟩) ⟨zP_blind, (z_recv hS hK.1 (by decide) (zkd_of (rfl : zcd wC 78 = 30) rfl) (by decide) (rfl : vwCl[0]? = some (RX0, TX0, 8))), z_pre hS hK⟩ rfl rfl hl.1 rfl (lv_room (Nat.le_of_ble_eq_true rfl)) dX0_firstSilence_16 ⟨Nat.le_refl _, Nat.le_refl _⟩) hS hS0 (zms_sub rfl) (fun z204 M200 H locs r205 h201 F202 hS hS0 => ?_)
  obtain ⟨h206, h201⟩ := h201
  rw [h206] at hS
  have h207 := h201
  obtain ⟨z204e, h207⟩ := h207
  subst z204e
  refine z_if_ne (tgt := 28) hx hb (by decide) dX0_firstSilence_19 (by decide) (fun c208 => absurd c208 (by decide)) (fun c208 => ?_)
  refine lv_iload_n hx hb dX0_firstSilence_22 rfl (lv_at hl 1 rfl) ?_
  refine z_iconst hx hb dX0_firstSilence_23 ?_
  refine z_iadd hx hb dX0_firstSilence_24 ?_
  refine z_top (show ((18 + 1) : Int) = 19 from by decide) ?_
  refine lv_goto (tgt := 29) hx hb dX0_firstSilence_25 (by decide) ?_
  refine lv_istore_n (lv' := [(1, .int (iI 19)), (2, .int (iI 18)), (0, .ref (b + 78))]) hx hb dX0_firstSilence_29 rfl hl (by decide) rfl (fun ls hl => ?_)
  refine lv_iload_n hx hb dX0_firstSilence_30 rfl (lv_at hl 0 rfl) ?_
  refine z_bipush hx hb (by decide) dX0_firstSilence_31 ?_
  refine z_icmp_ne (tgt := 43) hx hb (by decide) (by decide) dX0_firstSilence_33 (by decide) (fun c209 => ?_) (fun c209 => absurd c209 (by decide))
  refine z_iinc (lv' := [(2, .int (iI (18 + 1))), (1, .int (iI 19)), (0, .ref (b + 78))]) hx hb dX0_firstSilence_43 hl (k := 1) rfl (by decide) rfl (fun ls hl => ?_)
  rw [show ((18 + 1) : Int) = 19 from by decide] at hl
  refine lv_goto (tgt := 7) hx hb dX0_firstSilence_46 (by decide) ?_
  refine lv_iload_n hx hb dX0_firstSilence_7 rfl (lv_at hl 0 rfl) ?_
  refine z_sipush hx hb (by decide) dX0_firstSilence_8 ?_
  refine z_icmp_gt (tgt := 49) hx hb (by decide) (by decide) dX0_firstSilence_11 (by decide) (fun c210 => absurd c210 (by decide)) (fun c210 => ?_)
  refine lv_aload_n hx hb dX0_firstSilence_14 rfl (lv_at hl 2 rfl) ?_
  refine lv_iload_n hx hb dX0_firstSilence_15 rfl (lv_at hl 0 rfl) ?_
  refine z_calli (va_runV (As := [.int (iI 19)]) (rest := []) ⟨hx, hb, hml, hown, hts⟩ (n_outAt0 l D dA b M 19 (by decide) a0) (cwV 1 hts (z_gV k710 k711 k712 k9 k713) rfl rfl rfl dm_X0_outAt ⟨Nat.le_of_ble_eq_true rfl, Nat.le_of_ble_eq_true rfl⟩) ⟨zP_blind, (z_recv hS hK.1 (by decide) (zkd_of (rfl : zcd wC 78 = 30) rfl) (by decide) (rfl : vwCl[0]? = some (RX0, TX0, 8))), z_pre hS hK⟩ rfl rfl hl.1 rfl (lv_room (Nat.le_of_ble_eq_true rfl)) dX0_firstSilence_16 ⟨Nat.le_refl _, Nat.le_refl _⟩) hS hS0 (zms_sub rfl) (fun z215 M211 H locs r216 h212 F213 hS hS0 => ?_)
  obtain ⟨h217, h212⟩ := h212
  rw [h217] at hS
  have h218 := h212
  obtain ⟨z215e, h218⟩ := h218
  subst z215e
  refine z_if_ne (tgt := 28) hx hb (by decide) dX0_firstSilence_19 (by decide) (fun c219 => absurd c219 (by decide)) (fun c219 => ?_)
  refine lv_iload_n hx hb dX0_firstSilence_22 rfl (lv_at hl 1 rfl) ?_
  refine z_iconst hx hb dX0_firstSilence_23 ?_
  refine z_iadd hx hb dX0_firstSilence_24 ?_
  refine z_top (show ((19 + 1) : Int) = 20 from by decide) ?_
  refine lv_goto (tgt := 29) hx hb dX0_firstSilence_25 (by decide) ?_
  refine lv_istore_n (lv' := [(1, .int (iI 20)), (2, .int (iI 19)), (0, .ref (b + 78))]) hx hb dX0_firstSilence_29 rfl hl (by decide) rfl (fun ls hl => ?_)
  refine lv_iload_n hx hb dX0_firstSilence_30 rfl (lv_at hl 0 rfl) ?_
  refine z_bipush hx hb (by decide) dX0_firstSilence_31 ?_
  refine z_icmp_ne (tgt := 43) hx hb (by decide) (by decide) dX0_firstSilence_33 (by decide) (fun c220 => absurd c220 (by decide)) (fun c220 => ?_)
  refine lv_iload_n hx hb dX0_firstSilence_36 rfl (lv_at hl 1 rfl) ?_
  refine z_bipush hx hb (by decide) dX0_firstSilence_37 ?_
  refine z_isub hx hb dX0_firstSilence_39 ?_
  refine z_top (show ((19 - 20) : Int) = (-1) from by decide) ?_
  refine z_iconst hx hb dX0_firstSilence_40 ?_
  refine z_iadd hx hb dX0_firstSilence_41 ?_
  refine z_top (show (((-1) + 1) : Int) = 0 from by decide) ?_
  exact z_iret hx hb hr hlocks hS hS0 (by decide) (⟨rfl, by first | exact trivial | exact ⟨rfl, trivial⟩ | omega | (refine ⟨by omega, trivial⟩)⟩) dX0_firstSilence_42
