theorem dX0_fate_0 : decode cX0_fate 0 = .ok (.aload_n 0, 1) := by decide +kernel
theorem dX0_fate_1 : decode cX0_fate 1 = .ok (.aload_n 1, 1) := by decide +kernel
theorem dX0_fate_12 : decode cX0_fate 12 = .ok (.istore_n 2, 1) := by decide +kernel
theorem dX0_fate_13 : decode cX0_fate 13 = .ok (.iload_n 2, 1) := by decide +kernel
theorem dX0_fate_14 : decode cX0_fate 14 = .ok (.iconst (-1), 1) := by decide +kernel
theorem dX0_fate_15 : decode cX0_fate 15 = .ok (.if_icmp .eq 5, 3) := by decide +kernel
theorem dX0_fate_18 : decode cX0_fate 18 = .ok (.iload_n 2, 1) := by decide +kernel
theorem dX0_fate_19 : decode cX0_fate 19 = .ok (.ireturn, 1) := by decide +kernel
theorem dX0_fate_2 : decode cX0_fate 2 = .ok (.sipush 4000, 3) := by decide +kernel
theorem dX0_fate_5 : decode cX0_fate 5 = .ok (.invokevirtual 65, 3) := by decide +kernel
theorem dX0_fate_8 : decode cX0_fate 8 = .ok (.aload_n 0, 1) := by decide +kernel
theorem dX0_fate_9 : decode cX0_fate 9 = .ok (.invokevirtual 69, 3) := by decide +kernel
theorem dm_X0_run : yX0_run.cls = RX0 ∧ yX0_run.cls ≠ "java/lang/invoke/MethodHandle" ∧ yX0_run.cls ≠ "java/lang/invoke/VarHandle" ∧ (parseMethodDescriptor yX0_run.desc).map (fun d => d.parameters.length) = some 2 := by decide +kernel
theorem dm_X0_firstSilence : yX0_firstSilence.cls = RX0 ∧ yX0_firstSilence.cls ≠ "java/lang/invoke/MethodHandle" ∧ yX0_firstSilence.cls ≠ "java/lang/invoke/VarHandle" ∧ (parseMethodDescriptor yX0_firstSilence.desc).map (fun d => d.parameters.length) = some 0 := by decide +kernel
set_option maxHeartbeats 4000000 in
set_option maxRecDepth 100000 in
theorem n_fate (l : Launch) (D : va_G) (dA : Nat → ClassId) (b : Nat) (M : zM) (g0 : M 78 0 = 0) (g1 : M 78 3 = 1) (g2 : M 78 4 = 0) (g3 : M 78 5 = 1) (g4 : M 78 6 = 0) : Met l yX0_fate (.code yX0_fate cX0_fate 5 (some .int) :: zt) (z_rm 3) (va_Pc [.ref (b + 78), .ref (b + 32)] (zP D dA vwCl (z_tys dA) wC nC b M)) (va_Qi (zQi wC (zms wC [2175]) M (fun z M1 => z = 0 ∧ True)) (zB D dA vwCl wC nC b) (zA nC b)) 0 0 (zA nC b) := by
  refine Met.ofW (cc := cX0_fate) (maxL := 5) (ret := (some .int)) (by decide) rfl ?_
  intro p e s m args below meth c s₁ B hml hv
  obtain ⟨hargs, hR0, hJ, hK⟩ := hv
  have hx := B.exec
  have hb := B.bytes
  have hr := B.returns
  have hts := atoms_spec (ws := .code yX0_fate cX0_fate 5 (some .int) :: zt) B.pre
  have hown : s.vm.findClass RX0 = some m.cls := findClass_of_methodNamed B.named
  have hlocks := B.notSynchronized
  have hS : zS D dA vwCl wC nC b (zms wC [2175]) M M s.heap := ⟨hR0, hJ, zF_rf _ _⟩
  have hS0 : va_S (zA nC b) s.heap s.heap [] := va_S.rf
  have hl := lv_entry ([.ref (b + 78), .ref (b + 32)]) (n := 5) (Nat.le_of_ble_eq_true rfl)
  have hent : entryFrame m args 5 = F0 m 0 ((lg_sl ([.ref (b + 78), .ref (b + 32)]) ++ List.replicate (5 - (lg_sl ([.ref (b + 78), .ref (b + 32)])).length) Slot.unset).toArray) [] := by rw [hargs]; exact lg_entry_eq m ([.ref (b + 78), .ref (b + 32)]) 5
  rw [hent]
  generalize (lg_sl ([.ref (b + 78), .ref (b + 32)]) ++ List.replicate (5 - (lg_sl ([.ref (b + 78), .ref (b + 32)])).length) Slot.unset).toArray = ls at hl ⊢
  have hl : lv_has ls 5 [(0, .ref (b + 78)), (1, .ref (b + 32))] := hl
  refine lv_aload_n hx hb dX0_fate_0 rfl (lv_at hl 0 rfl) ?_
  refine lv_aload_n hx hb dX0_fate_1 rfl (lv_at hl 1 rfl) ?_
  refine z_sipush hx hb (by decide) dX0_fate_2 ?_
  refine z_callv (va_runV (As := [.ref (b + 32), .int (iI 4000)]) (rest := []) ⟨hx, hb, hml, hown, hts⟩ (n_run l D dA b M 4000 (by decide) (by rw [g0]) (by rw [g1]) (by rw [g2]) (by rw [g3]) (by rw [g4]) (by omega)) (cwV 2 hts (z_gV k724 k700 k701 k9 k702) rfl rfl rfl dm_X0_run ⟨Nat.le_of_ble_eq_true rfl, Nat.le_of_ble_eq_true rfl⟩) ⟨zP_blind, (z_recv hS hK.1 (by decide) (zkd_of (rfl : zcd wC 78 = 30) rfl) (by decide) (rfl : vwCl[0]? = some (RX0, TX0, 8))), z_pre hS hK⟩ rfl rfl hl.1 rfl (lv_room (Nat.le_of_ble_eq_true rfl)) dX0_fate_5 ⟨Nat.le_refl _, Nat.le_refl _⟩) hS hS0 (zms_sub rfl) (fun M1 H locs h2 F3 hS hS0 => ?_)
  have J4 := hS.2.1
  have ar5 : ∀ k : Nat, k < 4001 → M1 81 k = 0 := fun k hk => h2 k (by omega)
  refine lv_aload_n hx hb dX0_fate_8 rfl (lv_at hl 0 rfl) ?_
  refine z_calli (va_runV (As := []) (rest := []) ⟨hx, hb, hml, hown, hts⟩ (n_firstSilence l D dA b M1 (by rw [F3 _ _ (zms_not (rfl : zcd wC 78 = 30) rfl), g0]) ar5) (cwV 0 hts (z_gV k725 k726 k1382 k9 k727) rfl rfl rfl dm_X0_firstSilence ⟨Nat.le_of_ble_eq_true rfl, Nat.le_of_ble_eq_true rfl⟩) ⟨zP_blind, (z_recv hS hK.1 (by decide) (zkd_of (rfl : zcd wC 78 = 30) rfl) (by decide) (rfl : vwCl[0]? = some (RX0, TX0, 8))), z_pre hS hK⟩ rfl rfl hl.1 rfl (lv_room (Nat.le_of_ble_eq_true rfl)) dX0_fate_9 ⟨Nat.le_refl _, Nat.le_refl _⟩) hS hS0 (zms_sub rfl) (fun z10 M6 H locs r11 h7 F8 hS hS0 => ?_)
  obtain ⟨h12, h7⟩ := h7
  rw [h12] at hS
  have h13 := h7
  obtain ⟨z10e, h13⟩ := h13
  subst z10e
  refine lv_istore_n (lv' := [(2, .int (iI 0)), (0, .ref (b + 78)), (1, .ref (b + 32))]) hx hb dX0_fate_12 rfl hl (by decide) rfl (fun ls hl => ?_)
  refine lv_iload_n hx hb dX0_fate_13 rfl (lv_at hl 0 rfl) ?_
  refine z_iconst hx hb dX0_fate_14 ?_
  refine z_icmp_eq (tgt := 20) hx hb (by decide) (by decide) dX0_fate_15 (by decide) (fun c14 => absurd c14 (by decide)) (fun c14 => ?_)
  refine lv_iload_n hx hb dX0_fate_18 rfl (lv_at hl 0 rfl) ?_
  exact z_iret hx hb hr hlocks hS hS0 (by decide) (by first | exact trivial | exact ⟨rfl, trivial⟩ | omega | (refine ⟨by omega, trivial⟩)) dX0_fate_19
