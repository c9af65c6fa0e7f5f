theorem dX4_layRest_0 : decode cX4_layRest 0 = .ok (.iload_n 3, 1) := by decide +kernel
theorem dX4_layRest_1 : decode cX4_layRest 1 = .ok (.aload_n 0, 1) := by decide +kernel
theorem dX4_layRest_10 : decode cX4_layRest 10 = .ok (.aload_n 0, 1) := by decide +kernel
theorem dX4_layRest_11 : decode cX4_layRest 11 = .ok (.getfield 9, 3) := by decide +kernel
theorem dX4_layRest_14 : decode cX4_layRest 14 = .ok (.if_icmp .ge 8, 3) := by decide +kernel
theorem dX4_layRest_2 : decode cX4_layRest 2 = .ok (.getfield 19, 3) := by decide +kernel
theorem dX4_layRest_22 : decode cX4_layRest 22 = .ok (.aload_n 0, 1) := by decide +kernel
theorem dX4_layRest_23 : decode cX4_layRest 23 = .ok (.iload_n 3, 1) := by decide +kernel
theorem dX4_layRest_24 : decode cX4_layRest 24 = .ok (.invokevirtual 41, 3) := by decide +kernel
theorem dX4_layRest_27 : decode cX4_layRest 27 = .ok (.return_, 1) := by decide +kernel
theorem dX4_layRest_5 : decode cX4_layRest 5 = .ok (.if_icmp .le 4, 3) := by decide +kernel
theorem dX4_layRest_9 : decode cX4_layRest 9 = .ok (.iload_n 1, 1) := by decide +kernel
theorem dm_X4_keepBetter : yX4_keepBetter.cls = RX4 ∧ yX4_keepBetter.cls ≠ "java/lang/invoke/MethodHandle" ∧ yX4_keepBetter.cls ≠ "java/lang/invoke/VarHandle" ∧ (parseMethodDescriptor yX4_keepBetter.desc).map (fun d => d.parameters.length) = some 1 := by decide +kernel
set_option maxHeartbeats 4000000 in
set_option maxRecDepth 100000 in
theorem n_layRest (l : Launch) (D : va_G) (dA : Nat → ClassId) (b : Nat) (M : zM) (d : Int) (u : Int) (n : Int) (r_d : R32 d) (r_u : R32 u) (r_n : R32 n) (g0 : M 86 0 = 0) (g1 : M 86 2 = 41) (p0 : d = 0) (p1 : n = 0) : Met l yX4_layRest (.code yX4_layRest cX4_layRest 6 none :: zt) (z_rm 2) (va_Pc [.ref (b + 86), .int (iI d), .int (iI u), .int (iI n)] (zP D dA vwCl (z_tys dA) wC nC b M)) (va_Qv (zQv wC (zms wC [2434, 2559]) M (fun M1 => (True) ∧ M1 86 2 = 0)) (zB D dA vwCl wC nC b) (zA nC b)) 0 0 (zA nC b) := by
  refine Met.ofW (cc := cX4_layRest) (maxL := 6) (ret := none) (by decide) rfl ?_
  intro p e s m args below meth c s₁ B hml hv
  obtain ⟨hargs, hR0, hJ, hK⟩ := hv
  have hx := B.exec
  have hb := B.bytes
  have hr := B.returns
  have hts := atoms_spec (ws := .code yX4_layRest cX4_layRest 6 none :: zt) B.pre
  have hown : s.vm.findClass RX4 = some m.cls := findClass_of_methodNamed B.named
  have hlocks := B.notSynchronized
  have hS : zS D dA vwCl wC nC b (zms wC [2434, 2559]) M M s.heap := ⟨hR0, hJ, zF_rf _ _⟩
  have hS0 : va_S (zA nC b) s.heap s.heap [] := va_S.rf
  have hl := lv_entry ([.ref (b + 86), .int (iI d), .int (iI u), .int (iI n)]) (n := 6) (Nat.le_of_ble_eq_true rfl)
  have hent : entryFrame m args 6 = F0 m 0 ((lg_sl ([.ref (b + 86), .int (iI d), .int (iI u), .int (iI n)]) ++ List.replicate (6 - (lg_sl ([.ref (b + 86), .int (iI d), .int (iI u), .int (iI n)])).length) Slot.unset).toArray) [] := by rw [hargs]; exact lg_entry_eq m ([.ref (b + 86), .int (iI d), .int (iI u), .int (iI n)]) 6
  rw [hent]
  generalize (lg_sl ([.ref (b + 86), .int (iI d), .int (iI u), .int (iI n)]) ++ List.replicate (6 - (lg_sl ([.ref (b + 86), .int (iI d), .int (iI u), .int (iI n)])).length) Slot.unset).toArray = ls at hl ⊢
  have hl : lv_has ls 6 [(0, .ref (b + 86)), (1, .int (iI d)), (2, .int (iI u)), (3, .int (iI n))] := hl
  refine lv_iload_n hx hb dX4_layRest_0 rfl (lv_at hl 3 rfl) ?_
  refine lv_aload_n hx hb dX4_layRest_1 rfl (lv_at hl 0 rfl) ?_
  refine z_geti hx hb hts (z_memU u4) hown hK.1 hS f4_2 (by decide) (zkd_of (rfl : zcd wC 86 = 38) rfl) (Or.inl (hts _ (z_mem k214))) dX4_layRest_2 ?_
  refine z_top (show M 86 2 = 41 from by rw [g1]) ?_
  refine z_icmp_le (tgt := 9) hx hb r_n (by decide) dX4_layRest_5 (by decide) (fun c1 => ?_) (fun c1 => absurd c1 (by omega))
  refine lv_iload_n hx hb dX4_layRest_9 rfl (lv_at hl 1 rfl) ?_
  refine lv_aload_n hx hb dX4_layRest_10 rfl (lv_at hl 0 rfl) ?_
  refine z_geti hx hb hts (z_memU u4) hown hK.1 hS f4_0 (by decide) (zkd_of (rfl : zcd wC 86 = 38) rfl) (Or.inl (hts _ (z_mem k210))) dX4_layRest_11 ?_
  refine z_top (show M 86 0 = 0 from by rw [g0]) ?_
  refine z_icmp_ge (tgt := 22) hx hb r_d (by decide) dX4_layRest_14 (by decide) (fun c2 => ?_) (fun c2 => absurd c2 (by omega))
  refine lv_aload_n hx hb dX4_layRest_22 rfl (lv_at hl 0 rfl) ?_
  refine lv_iload_n hx hb dX4_layRest_23 rfl (lv_at hl 3 rfl) ?_
  refine z_callv (va_runV (As := [.int (iI n)]) (rest := []) ⟨hx, hb, hml, hown, hts⟩ (n_keepBetter l D dA b M n r_n (by rw [g1]) (by omega)) (cwV 1 hts (z_gV k820 k821 k1388 k12 k822) rfl rfl rfl dm_X4_keepBetter ⟨Nat.le_of_ble_eq_true rfl, Nat.le_of_ble_eq_true rfl⟩) ⟨zP_blind, (z_recv hS hK.1 (by decide) (zkd_of (rfl : zcd wC 86 = 38) rfl) (by decide) (rfl : vwCl[4]? = some (RX4, TX4, 6))), z_pre hS hK⟩ rfl rfl hl.1 rfl (lv_room (Nat.le_of_ble_eq_true rfl)) dX4_layRest_24 ⟨Nat.le_refl _, Nat.le_refl _⟩) hS hS0 (zms_sub rfl) (fun M3 H locs h4 F5 hS hS0 => ?_)
  have J6 := hS.2.1
  obtain ⟨h4, m7⟩ := h4
  exact z_vret hx hb hr hlocks hS hS0 (⟨by first | exact trivial | exact ⟨rfl, trivial⟩ | omega | (refine ⟨by omega, trivial⟩), by rw [m7]⟩) dX4_layRest_27
