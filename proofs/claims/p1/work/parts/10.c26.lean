theorem dX4_joinAll_0 : decode cX4_joinAll 0 = .ok (.aload_n 0, 1) := by decide +kernel
theorem dX4_joinAll_1 : decode cX4_joinAll 1 = .ok (.bipush 41, 2) := by decide +kernel
theorem dX4_joinAll_10 : decode cX4_joinAll 10 = .ok (.invokestatic 37, 3) := by decide +kernel
theorem dX4_joinAll_13 : decode cX4_joinAll 13 = .ok (.aload_n 0, 1) := by decide +kernel
theorem dX4_joinAll_14 : decode cX4_joinAll 14 = .ok (.getfield 19, 3) := by decide +kernel
theorem dX4_joinAll_17 : decode cX4_joinAll 17 = .ok (.ireturn, 1) := by decide +kernel
theorem dX4_joinAll_3 : decode cX4_joinAll 3 = .ok (.putfield 19, 3) := by decide +kernel
theorem dX4_joinAll_6 : decode cX4_joinAll 6 = .ok (.aload_n 0, 1) := by decide +kernel
theorem dX4_joinAll_7 : decode cX4_joinAll 7 = .ok (.iconst 0, 1) := by decide +kernel
theorem dX4_joinAll_8 : decode cX4_joinAll 8 = .ok (.iconst 0, 1) := by decide +kernel
theorem dX4_joinAll_9 : decode cX4_joinAll 9 = .ok (.iconst 0, 1) := by decide +kernel
theorem dm_X4_layRest : yX4_layRest.cls = RX4 ∧ yX4_layRest.cls ≠ "java/lang/invoke/MethodHandle" ∧ yX4_layRest.cls ≠ "java/lang/invoke/VarHandle" ∧ (parseMethodDescriptor yX4_layRest.desc).map (fun d => d.parameters.length) = some 4 := by decide +kernel
set_option maxHeartbeats 4000000 in
set_option maxRecDepth 100000 in
theorem n_joinAll (l : Launch) (D : va_G) (dA : Nat → ClassId) (b : Nat) (M : zM) (g0 : M 86 0 = 0) : Met l yX4_joinAll (.code yX4_joinAll cX4_joinAll 1 (some .int) :: zt) (z_rm 3) (va_Pc [.ref (b + 86)] (zP D dA vwCl (z_tys dA) wC nC b M)) (va_Qi (zQi wC (zms wC [2434, 2559]) M (fun z M1 => z = 0 ∧ True)) (zB D dA vwCl wC nC b) (zA nC b)) 0 0 (zA nC b) := by
  refine Met.ofW (cc := cX4_joinAll) (maxL := 1) (ret := (some .int)) (by decide) rfl ?_
  intro p e s m args below meth c s₁ B hml hv
  obtain ⟨hargs, hR0, hJ, hK⟩ := hv
  have hx := B.exec
  have hb := B.bytes
  have hr := B.returns
  have hts := atoms_spec (ws := .code yX4_joinAll cX4_joinAll 1 (some .int) :: zt) B.pre
  have hown : s.vm.findClass RX4 = some m.cls := findClass_of_methodNamed B.named
  have hlocks := B.notSynchronized
  have hS : zS D dA vwCl wC nC b (zms wC [2434, 2559]) M M s.heap := ⟨hR0, hJ, zF_rf _ _⟩
  have hS0 : va_S (zA nC b) s.heap s.heap [] := va_S.rf
  have hl := lv_entry ([.ref (b + 86)]) (n := 1) (Nat.le_of_ble_eq_true rfl)
  have hent : entryFrame m args 1 = F0 m 0 ((lg_sl ([.ref (b + 86)]) ++ List.replicate (1 - (lg_sl ([.ref (b + 86)])).length) Slot.unset).toArray) [] := by rw [hargs]; exact lg_entry_eq m ([.ref (b + 86)]) 1
  rw [hent]
  generalize (lg_sl ([.ref (b + 86)]) ++ List.replicate (1 - (lg_sl ([.ref (b + 86)])).length) Slot.unset).toArray = ls at hl ⊢
  have hl : lv_has ls 1 [(0, .ref (b + 86))] := hl
  refine lv_aload_n hx hb dX4_joinAll_0 rfl (lv_at hl 0 rfl) ?_
  refine z_bipush hx hb (by decide) dX4_joinAll_1 ?_
  refine z_puti hx hb hts (z_memU u4) tyX4 tyX4_ok nmX4 hown hK.1 hS hS0 f4_2 (by decide) (zkd_of (rfl : zcd wC 86 = 38) rfl) (Or.inl (hts _ (z_mem k214))) rfl (z := 41) (by decide +kernel) (zbd_in (rfl : zcd wC 86 = 38) rfl (by decide)) (zms_of (rfl : zcd wC 86 = 38) rfl) dX4_joinAll_3 (fun H locs hS hS0 => ?_)
  obtain ⟨M1, e2⟩ : ∃ M1 : zM, M1 = zup M 86 2 41 := ⟨_, rfl⟩
  rw [← e2] at hS
  have J3 := hS.2.1
  refine lv_aload_n hx hb dX4_joinAll_6 rfl (lv_at hl 0 rfl) ?_
  refine z_iconst hx hb dX4_joinAll_7 ?_
  refine z_iconst hx hb dX4_joinAll_8 ?_
  refine z_iconst hx hb dX4_joinAll_9 ?_
  refine z_callv (va_runS (As := [.ref (b + 86), .int (iI 0), .int (iI 0), .int (iI 0)]) (rest := []) ⟨hx, hb, hml, hown, hts⟩ (n_layRest l D dA b M1 0 0 0 (by decide) (by decide) (by decide) (by rw [e2, zup_n _ _ (by omega), g0]) (by rw [e2, zup_s]) (by omega) (by omega)) (va_cwS 4 hts (z_gS k817 k818 k12 k819) rfl rfl rfl dm_X4_layRest.2 ⟨Nat.le_of_ble_eq_true rfl, Nat.le_of_ble_eq_true rfl⟩) ⟨zP_blind, z_pre hS hK⟩ rfl rfl hl.1 rfl (lv_room (Nat.le_of_ble_eq_true rfl)) dX4_joinAll_10 ⟨Nat.le_refl _, Nat.le_refl _⟩) hS hS0 (zms_sub rfl) (fun M4 H locs h5 F6 hS hS0 => ?_)
  have J7 := hS.2.1
  obtain ⟨h5, m8⟩ := h5
  refine lv_aload_n hx hb dX4_joinAll_13 rfl (lv_at hl 0 rfl) ?_
  refine z_geti hx hb hts (z_memU u4) hown hK.1 hS f4_2 (by decide) (zkd_of (rfl : zcd wC 86 = 38) rfl) (Or.inl (hts _ (z_mem k214))) dX4_joinAll_14 ?_
  refine z_top (show M4 86 2 = 0 from by rw [m8]) ?_
  exact z_iret hx hb hr hlocks hS hS0 (by decide) (by first | exact trivial | exact ⟨rfl, trivial⟩ | omega | (refine ⟨by omega, trivial⟩)) dX4_joinAll_17
