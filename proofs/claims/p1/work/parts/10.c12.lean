theorem dX0_behind_0 : decode cX0_behind 0 = .ok (.aload_n 0, 1) := by decide +kernel
theorem dX0_behind_1 : decode cX0_behind 1 = .ok (.iload_n 1, 1) := by decide +kernel
theorem dX0_behind_10 : decode cX0_behind 10 = .ok (.ireturn, 1) := by decide +kernel
theorem dX0_behind_2 : decode cX0_behind 2 = .ok (.invokevirtual 62, 3) := by decide +kernel
theorem dX0_behind_5 : decode cX0_behind 5 = .ok (.iload_n 2, 1) := by decide +kernel
theorem dX0_behind_6 : decode cX0_behind 6 = .ok (.imul, 1) := by decide +kernel
theorem dX0_behind_7 : decode cX0_behind 7 = .ok (.bipush 100, 2) := by decide +kernel
theorem dX0_behind_9 : decode cX0_behind 9 = .ok (.idiv, 1) := by decide +kernel
theorem dm_X0_outAt : yX0_outAt.cls = RX0 ∧ yX0_outAt.cls ≠ "java/lang/invoke/MethodHandle" ∧ yX0_outAt.cls ≠ "java/lang/invoke/VarHandle" ∧ (parseMethodDescriptor yX0_outAt.desc).map (fun d => d.parameters.length) = some 1 := by decide +kernel
set_option maxHeartbeats 4000000 in
set_option maxRecDepth 100000 in
theorem n_behind0 (l : Launch) (D : va_G) (dA : Nat → ClassId) (b : Nat) (M : zM) (t : Int) (gn : Int) (r_t : R32 t) (r_gn : R32 gn) (p0 : gn = 0) : Met l yX0_behind (.code yX0_behind cX0_behind 3 (some .int) :: zt) (z_rm 1) (va_Pc [.ref (b + 78), .int (iI t), .int (iI gn)] (zP D dA vwCl (z_tys dA) wC nC b M)) (va_Qi (zQi wC (zms wC []) M (fun z M1 => M1 = M ∧ (z = 0 ∧ True))) (zB D dA vwCl wC nC b) (zA nC b)) 0 0 (zA nC b) := by
  refine Met.ofW (cc := cX0_behind) (maxL := 3) (ret := (some .int)) (by decide) rfl ?_
  intro p e s m args below meth c s₁ B hml hv
  obtain ⟨hargs, hR0, hJ, hK⟩ := hv
  have hx := B.exec
  have hb := B.bytes
  have hr := B.returns
  have hts := atoms_spec (ws := .code yX0_behind cX0_behind 3 (some .int) :: zt) B.pre
  have hown : s.vm.findClass RX0 = some m.cls := findClass_of_methodNamed B.named
  have hlocks := B.notSynchronized
  have hS : zS D dA vwCl wC nC b (zms wC []) M M s.heap := ⟨hR0, hJ, zF_rf _ _⟩
  have hS0 : va_S (zA nC b) s.heap s.heap [] := va_S.rf
  have hl := lv_entry ([.ref (b + 78), .int (iI t), .int (iI gn)]) (n := 3) (Nat.le_of_ble_eq_true rfl)
  have hent : entryFrame m args 3 = F0 m 0 ((lg_sl ([.ref (b + 78), .int (iI t), .int (iI gn)]) ++ List.replicate (3 - (lg_sl ([.ref (b + 78), .int (iI t), .int (iI gn)])).length) Slot.unset).toArray) [] := by rw [hargs]; exact lg_entry_eq m ([.ref (b + 78), .int (iI t), .int (iI gn)]) 3
  rw [hent]
  generalize (lg_sl ([.ref (b + 78), .int (iI t), .int (iI gn)]) ++ List.replicate (3 - (lg_sl ([.ref (b + 78), .int (iI t), .int (iI gn)])).length) Slot.unset).toArray = ls at hl ⊢
  have hl : lv_has ls 3 [(0, .ref (b + 78)), (1, .int (iI t)), (2, .int (iI gn))] := hl
  refine lv_aload_n hx hb dX0_behind_0 rfl (lv_at hl 0 rfl) ?_
  refine lv_iload_n hx hb dX0_behind_1 rfl (lv_at hl 1 rfl) ?_
  refine z_calli (va_runV (As := [.int (iI t)]) (rest := []) ⟨hx, hb, hml, hown, hts⟩ (n_outAt l D dA b M t r_t) (cwV 1 hts (z_gV k710 k711 k712 k9 k713) rfl rfl rfl dm_X0_outAt ⟨Nat.le_of_ble_eq_true rfl, Nat.le_of_ble_eq_true rfl⟩) ⟨zP_blind, (z_recv hS hK.1 (by decide) (zkd_of (rfl : zcd wC 78 = 30) rfl) (by decide) (rfl : vwCl[0]? = some (RX0, TX0, 8))), z_pre hS hK⟩ rfl rfl hl.1 rfl (lv_room (Nat.le_of_ble_eq_true rfl)) dX0_behind_2 ⟨Nat.le_refl _, Nat.le_refl _⟩) hS hS0 (zms_sub rfl) (fun z5 M1 H locs r6 h2 F3 hS hS0 => ?_)
  obtain ⟨h7, h2⟩ := h2
  rw [h7] at hS
  refine lv_iload_n hx hb dX0_behind_5 rfl (lv_at hl 2 rfl) ?_
  refine z_imul hx hb dX0_behind_6 ?_
  refine z_top (show ((z5 * gn) : Int) = 0 from by rw [show gn = (0 : Int) from by omega, Int.mul_zero]) ?_
  refine z_bipush hx hb (by decide) dX0_behind_7 ?_
  refine z_idiv hx hb (by decide) (by decide) (by omega) dX0_behind_9 ?_
  refine z_top (show ((Int.tdiv 0 100) : Int) = 0 from by decide) ?_
  exact z_iret hx hb hr hlocks hS hS0 (by decide) (⟨rfl, by first | exact trivial | exact ⟨rfl, trivial⟩ | omega | (refine ⟨by omega, trivial⟩)⟩) dX0_behind_10
