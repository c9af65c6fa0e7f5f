theorem dX5_carryOut_0 : decode cX5_carryOut 0 = .ok (.iconst 0, 1) := by decide +kernel
theorem dX5_carryOut_1 : decode cX5_carryOut 1 = .ok (.istore_n 2, 1) := by decide +kernel
theorem dX5_carryOut_12 : decode cX5_carryOut 12 = .ok (.astore_n 3, 1) := by decide +kernel
theorem dX5_carryOut_13 : decode cX5_carryOut 13 = .ok (.aload_n 3, 1) := by decide +kernel
theorem dX5_carryOut_14 : decode cX5_carryOut 14 = .ok (.ifnull 29, 3) := by decide +kernel
theorem dX5_carryOut_2 : decode cX5_carryOut 2 = .ok (.iload_n 2, 1) := by decide +kernel
theorem dX5_carryOut_3 : decode cX5_carryOut 3 = .ok (.iconst 4, 1) := by decide +kernel
theorem dX5_carryOut_4 : decode cX5_carryOut 4 = .ok (.if_icmp .ge 45, 3) := by decide +kernel
theorem dX5_carryOut_43 : decode cX5_carryOut 43 = .ok (.iinc 2 1, 3) := by decide +kernel
theorem dX5_carryOut_46 : decode cX5_carryOut 46 = .ok (.goto (-44), 3) := by decide +kernel
theorem dX5_carryOut_49 : decode cX5_carryOut 49 = .ok (.return_, 1) := by decide +kernel
theorem dX5_carryOut_7 : decode cX5_carryOut 7 = .ok (.aload_n 1, 1) := by decide +kernel
theorem dX5_carryOut_8 : decode cX5_carryOut 8 = .ok (.iload_n 2, 1) := by decide +kernel
theorem dX5_carryOut_9 : decode cX5_carryOut 9 = .ok (.invokevirtual 56, 3) := by decide +kernel

set_option maxHeartbeats 4000000 in
set_option maxRecDepth 100000 in
theorem n_carryOut (l : Launch) (D : va_G) (dA : Nat → ClassId) (b : Nat) (M : zM) (g0 : M 32 2 = 0) : Met l yX5_carryOut (.code yX5_carryOut cX5_carryOut 4 none :: zt) (z_rm 1) (va_Pc [.ref (b + 60), .ref (b + 32)] (zP D dA vwCl (z_tys dA) wC nC b M)) (va_Qv (zQv wC (zms wC []) M (fun M1 => M1 = M ∧ (True))) (zB D dA vwCl wC nC b) (zA nC b)) 0 0 (zA nC b) := by
  refine Met.ofW (cc := cX5_carryOut) (maxL := 4) (ret := none) (by decide) rfl ?_
  intro p e s m args below meth c s₁ B hml hv
  obtain ⟨hargs, hR0, hJ, hK⟩ := hv
  have hx := B.exec
  have hb := B.bytes
  have hr := B.returns
  have hts := atoms_spec (ws := .code yX5_carryOut cX5_carryOut 4 none :: zt) B.pre
  have hown : s.vm.findClass RX5 = some m.cls := findClass_of_methodNamed B.named
  have hlocks := B.notSynchronized
  have hS : zS D dA vwCl wC nC b (zms wC []) M M s.heap := ⟨hR0, hJ, zF_rf _ _⟩
  have hS0 : va_S (zA nC b) s.heap s.heap [] := va_S.rf
  have hl := lv_entry ([.ref (b + 60), .ref (b + 32)]) (n := 4) (Nat.le_of_ble_eq_true rfl)
  have hent : entryFrame m args 4 = F0 m 0 ((lg_sl ([.ref (b + 60), .ref (b + 32)]) ++ List.replicate (4 - (lg_sl ([.ref (b + 60), .ref (b + 32)])).length) Slot.unset).toArray) [] := by rw [hargs]; exact lg_entry_eq m ([.ref (b + 60), .ref (b + 32)]) 4
  rw [hent]
  generalize (lg_sl ([.ref (b + 60), .ref (b + 32)]) ++ List.replicate (4 - (lg_sl ([.ref (b + 60), .ref (b + 32)])).length) Slot.unset).toArray = ls at hl ⊢
  have hl : lv_has ls 4 [(0, .ref (b + 60)), (1, .ref (b + 32))] := hl
  refine z_iconst hx hb dX5_carryOut_0 ?_
  refine lv_istore_n (lv' := [(2, .int (iI 0)), (0, .ref (b + 60)), (1, .ref (b + 32))]) hx hb dX5_carryOut_1 rfl hl (by decide) rfl (fun ls hl => ?_)
  refine lv_iload_n hx hb dX5_carryOut_2 rfl (lv_at hl 0 rfl) ?_
  refine z_iconst hx hb dX5_carryOut_3 ?_
  refine z_icmp_ge (tgt := 49) hx hb (by decide) (by decide) dX5_carryOut_4 (by decide) (fun c1 => absurd c1 (by decide)) (fun c1 => ?_)
  refine lv_aload_n hx hb dX5_carryOut_7 rfl (lv_at hl 2 rfl) ?_
  refine lv_iload_n hx hb dX5_carryOut_8 rfl (lv_at hl 0 rfl) ?_
  refine z_callq (va_runV (As := [.int (iI 0)]) (rest := []) ⟨hx, hb, hml, hown, hts⟩ (n_find l D dA b M 0 (by decide) (by rw [g0])) (cwV 1 hts (z_gV k627 k412 k413 k4 k414) rfl rfl rfl dm_X9_find ⟨Nat.le_of_ble_eq_true rfl, Nat.le_of_ble_eq_true rfl⟩) ⟨zP_blind, (z_recv hS hK.1 (by decide) (zkd_of (rfl : zcd wC 32 = 8) rfl) (by decide) (rfl : vwCl[9]? = some (RX9, TX9, 3))), z_pre hS hK⟩ rfl rfl hl.1 rfl (lv_room (Nat.le_of_ble_eq_true rfl)) dX5_carryOut_9 ⟨Nat.le_refl _, Nat.le_refl _⟩) hS hS0 (zms_sub rfl) (fun z6 M2 H locs h3 F4 hS hS0 => ?_)
  obtain ⟨h7, h3⟩ := h3
  rw [h7] at hS
  have h8 := h3
  obtain ⟨z6e, h8⟩ := h8
  subst z6e
  show W _ _ _ _ _ _ _ _ _ _ _ _ _ _ _ (F0 m _ ls (.null :: []))
  refine lv_astore_nN (lv' := [(3, .null), (2, .int (iI 0)), (0, .ref (b + 60)), (1, .ref (b + 32))]) hx hb dX5_carryOut_12 rfl hl (by decide) rfl (fun ls hl => ?_)
  refine lv_aload_nN hx hb dX5_carryOut_13 rfl (lv_at hl 0 rfl) ?_
  refine lv_ifnullN (tgt := 43) hx hb dX5_carryOut_14 (by decide) ?_
  refine z_iinc (lv' := [(2, .int (iI (0 + 1))), (3, .null), (0, .ref (b + 60)), (1, .ref (b + 32))]) hx hb dX5_carryOut_43 hl (k := 1) rfl (by decide) rfl (fun ls hl => ?_)
  rw [show ((0 + 1) : Int) = 1 from by decide] at hl
  refine lv_goto (tgt := 2) hx hb dX5_carryOut_46 (by decide) ?_
  refine lv_iload_n hx hb dX5_carryOut_2 rfl (lv_at hl 0 rfl) ?_
  refine z_iconst hx hb dX5_carryOut_3 ?_
  refine z_icmp_ge (tgt := 49) hx hb (by decide) (by decide) dX5_carryOut_4 (by decide) (fun c9 => absurd c9 (by decide)) (fun c9 => ?_)
  refine lv_aload_n hx hb dX5_carryOut_7 rfl (lv_at hl 3 rfl) ?_
  refine lv_iload_n hx hb dX5_carryOut_8 rfl (lv_at hl 0 rfl) ?_
  refine z_callq (va_runV (As := [.int (iI 1)]) (rest := []) ⟨hx, hb, hml, hown, hts⟩ (n_find l D dA b M 1 (by decide) (by rw [g0])) (cwV 1 hts (z_gV k627 k412 k413 k4 k414) rfl rfl rfl dm_X9_find ⟨Nat.le_of_ble_eq_true rfl, Nat.le_of_ble_eq_true rfl⟩) ⟨zP_blind, (z_recv hS hK.1 (by decide) (zkd_of (rfl : zcd wC 32 = 8) rfl) (by decide) (rfl : vwCl[9]? = some (RX9, TX9, 3))), z_pre hS hK⟩ rfl rfl hl.1 rfl (lv_room (Nat.le_of_ble_eq_true rfl)) dX5_carryOut_9 ⟨Nat.le_refl _, Nat.le_refl _⟩) hS hS0 (zms_sub rfl) (fun z14 M10 H locs h11 F12 hS hS0 => ?_)
  obtain ⟨h15, h11⟩ := h11
  rw [h15] at hS
  have h16 := h11
  obtain ⟨z14e, h16⟩ := h16
  subst z14e
  show W _ _ _ _ _ _ _ _ _ _ _ _ _ _ _ (F0 m _ ls (.null :: []))
  refine lv_astore_nN (lv' := [(3, .null), (2, .int (iI 1)), (0, .ref (b + 60)), (1, .ref (b + 32))]) hx hb dX5_carryOut_12 rfl hl (by decide) rfl (fun ls hl => ?_)
  refine lv_aload_nN hx hb dX5_carryOut_13 rfl (lv_at hl 0 rfl) ?_
  refine lv_ifnullN (tgt := 43) hx hb dX5_carryOut_14 (by decide) ?_
  refine z_iinc (lv' := [(2, .int (iI (1 + 1))), (3, .null), (0, .ref (b + 60)), (1, .ref (b + 32))]) hx hb dX5_carryOut_43 hl (k := 1) rfl (by decide) rfl (fun ls hl => ?_)
  rw [show ((1 + 1) : Int) = 2 from by decide] at hl
  refine lv_goto (tgt := 2) hx hb dX5_carryOut_46 (by decide) ?_
  refine lv_iload_n hx hb dX5_carryOut_2 rfl (lv_at hl 0 rfl) ?_
  refine z_iconst hx hb dX5_carryOut_3 ?_
  refine z_icmp_ge (tgt := 49) hx hb (by decide) (by decide) dX5_carryOut_4 (by decide) (fun c17 => absurd c17 (by decide)) (fun c17 => ?_)
  refine lv_aload_n hx hb dX5_carryOut_7 rfl (lv_at hl 3 rfl) ?_
  refine lv_iload_n hx hb dX5_carryOut_8 rfl (lv_at hl 0 rfl) ?_
  refine z_callq (va_runV (As := [.int (iI 2)]) (rest := []) ⟨hx, hb, hml, hown, hts⟩ (n_find l D dA b M 2 (by decide) (by rw [g0])) (cwV 1 hts (z_gV k627 k412 k413 k4 k414) rfl rfl rfl dm_X9_find ⟨Nat.le_of_ble_eq_true rfl, Nat.le_of_ble_eq_true rfl⟩) ⟨zP_blind, (z_recv hS hK.1 (by decide) (zkd_of (rfl : zcd wC 32 = 8) rfl) (by decide) (rfl : vwCl[9]? = some (RX9, TX9, 3))), z_pre hS hK⟩ rfl rfl hl.1 rfl (lv_room (Nat.le_of_ble_eq_true rfl)) dX5_carryOut_9 ⟨Nat.le_refl _, Nat.le_refl _⟩) hS hS0 (zms_sub rfl) (fun z22 M18 H locs h19 F20 hS hS0 => ?_)
  obtain ⟨h23, h19⟩ := h19
  rw [h23] at hS
  have h24 := h19
  obtain ⟨z22e, h24⟩ := h24
  subst z22e
  show W _ _ _ _ _ _ _ _ _ _ _ _ _ _ _ (F0 m _ ls (.null :: []))
  refine lv_astore_nN (lv' := [(3, .null), (2, .int (iI 2)), (0, .ref (b + 60)), (1, .ref (b + 32))]) hx hb dX5_carryOut_12 rfl hl (by decide) rfl (fun ls hl => ?_)
  refine lv_aload_nN hx hb dX5_carryOut_13 rfl (lv_at hl 0 rfl) ?_
  refine lv_ifnullN (tgt := 43) hx hb dX5_carryOut_14 (by decide) ?_
  refine z_iinc (lv' := [(2, .int (iI (2 + 1))), (3, .null), (0, .ref (b + 60)), (1, .ref (b + 32))]) hx hb dX5_carryOut_43 hl (k := 1) rfl (by decide) rfl (fun ls hl => ?_)
  rw [show ((2 + 1) : Int) = 3 from by decide] at hl
  refine lv_goto (tgt := 2) hx hb dX5_carryOut_46 (by decide) ?_
  refine lv_iload_n hx hb dX5_carryOut_2 rfl (lv_at hl 0 rfl) ?_
  refine z_iconst hx hb dX5_carryOut_3 ?_
  refine z_icmp_ge (tgt := 49) hx hb (by decide) (by decide) dX5_carryOut_4 (by decide) (fun c25 => absurd c25 (by decide)) (fun c25 => ?_)
  refine lv_aload_n hx hb dX5_carryOut_7 rfl (lv_at hl 3 rfl) ?_
  refine lv_iload_n hx hb dX5_carryOut_8 rfl (lv_at hl 0 rfl) ?_
  refine z_callq (va_runV (As := [.int (iI 3)]) (rest := []) ⟨hx, hb, hml, hown, hts⟩ (n_find l D dA b M 3 (by decide) (by rw [g0])) (cwV 1 hts (z_gV k627 k412 k413 k4 k414) rfl rfl rfl dm_X9_find ⟨Nat.le_of_ble_eq_true rfl, Nat.le_of_ble_eq_true rfl⟩) ⟨zP_blind, (z_recv hS hK.1 (by decide) (zkd_of (rfl : zcd wC 32 = 8) rfl) (by decide) (rfl : vwCl[9]? = some (RX9, TX9, 3))), z_pre hS hK⟩ rfl rfl hl.1 rfl (lv_room (Nat.le_of_ble_eq_true rfl)) dX5_carryOut_9 ⟨Nat.le_refl _, Nat.le_refl _⟩) hS hS0 (zms_sub rfl) (fun z30 M26 H locs h27 F28 hS hS0 => ?_)
  obtain ⟨h31, h27⟩ := h27
  rw [h31] at hS
  have h32 := h27
  obtain ⟨z30e, h32⟩ := h32
  subst z30e
  show W _ _ _ _ _ _ _ _ _ _ _ _ _ _ _ (F0 m _ ls (.null :: []))
  refine lv_astore_nN (lv' := [(3, .null), (2, .int (iI 3)), (0, .ref (b + 60)), (1, .ref (b + 32))]) hx hb dX5_carryOut_12 rfl hl (by decide) rfl (fun ls hl => ?_)
  refine lv_aload_nN hx hb dX5_carryOut_13 rfl (lv_at hl 0 rfl) ?_
  refine lv_ifnullN (tgt := 43) hx hb dX5_carryOut_14 (by decide) ?_
  refine z_iinc (lv' := [(2, .int (iI (3 + 1))), (3, .null), (0, .ref (b + 60)), (1, .ref (b + 32))]) hx hb dX5_carryOut_43 hl (k := 1) rfl (by decide) rfl (fun ls hl => ?_)
  rw [show ((3 + 1) : Int) = 4 from by decide] at hl
  refine lv_goto (tgt := 2) hx hb dX5_carryOut_46 (by decide) ?_
  refine lv_iload_n hx hb dX5_carryOut_2 rfl (lv_at hl 0 rfl) ?_
  refine z_iconst hx hb dX5_carryOut_3 ?_
  refine z_icmp_ge (tgt := 49) hx hb (by decide) (by decide) dX5_carryOut_4 (by decide) (fun c33 => ?_) (fun c33 => absurd c33 (by decide))
  exact z_vret hx hb hr hlocks hS hS0 (⟨rfl, trivial⟩) dX5_carryOut_49
