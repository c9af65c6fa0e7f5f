theorem dX3_pairFits_0 : decode cX3_pairFits 0 = .ok (.aload_n 0, 1) := by decide +kernel
theorem dX3_pairFits_1 : decode cX3_pairFits 1 = .ok (.aload_n 0, 1) := by decide +kernel
theorem dX3_pairFits_10 : decode cX3_pairFits 10 = .ok (.aload_n 0, 1) := by decide +kernel
theorem dX3_pairFits_11 : decode cX3_pairFits 11 = .ok (.getfield 22, 3) := by decide +kernel
theorem dX3_pairFits_14 : decode cX3_pairFits 14 = .ok (.iload_n 2, 1) := by decide +kernel
theorem dX3_pairFits_15 : decode cX3_pairFits 15 = .ok (.invokevirtual 49, 3) := by decide +kernel
theorem dX3_pairFits_18 : decode cX3_pairFits 18 = .ok (.iconst 0, 1) := by decide +kernel
theorem dX3_pairFits_19 : decode cX3_pairFits 19 = .ok (.istore_n 3, 1) := by decide +kernel
theorem dX3_pairFits_2 : decode cX3_pairFits 2 = .ok (.getfield 19, 3) := by decide +kernel
theorem dX3_pairFits_20 : decode cX3_pairFits 20 = .ok (.iload_n 3, 1) := by decide +kernel
theorem dX3_pairFits_21 : decode cX3_pairFits 21 = .ok (.aload_n 0, 1) := by decide +kernel
theorem dX3_pairFits_22 : decode cX3_pairFits 22 = .ok (.getfield 15, 3) := by decide +kernel
theorem dX3_pairFits_25 : decode cX3_pairFits 25 = .ok (.if_icmp .ge 53, 3) := by decide +kernel
theorem dX3_pairFits_5 : decode cX3_pairFits 5 = .ok (.iload_n 1, 1) := by decide +kernel
theorem dX3_pairFits_6 : decode cX3_pairFits 6 = .ok (.invokevirtual 49, 3) := by decide +kernel
theorem dX3_pairFits_78 : decode cX3_pairFits 78 = .ok (.iconst 1, 1) := by decide +kernel
theorem dX3_pairFits_79 : decode cX3_pairFits 79 = .ok (.ireturn, 1) := by decide +kernel
theorem dX3_pairFits_9 : decode cX3_pairFits 9 = .ok (.aload_n 0, 1) := by decide +kernel
theorem dm_X3_makeGreatest : yX3_makeGreatest.cls = RX3 ∧ yX3_makeGreatest.cls ≠ "java/lang/invoke/MethodHandle" ∧ yX3_makeGreatest.cls ≠ "java/lang/invoke/VarHandle" ∧ (parseMethodDescriptor yX3_makeGreatest.desc).map (fun d => d.parameters.length) = some 2 := by decide +kernel
set_option maxHeartbeats 4000000 in
set_option maxRecDepth 100000 in
theorem n_pairFits (l : Launch) (D : va_G) (dA : Nat → ClassId) (b : Nat) (M : zM) (pp : Int) (qq : Int) (r_pp : R32 pp) (r_qq : R32 qq) (g0 : M 82 1 = 0) : Met l yX3_pairFits (.code yX3_pairFits cX3_pairFits 4 (some .boolean) :: zt) (z_rm 2) (va_Pc [.ref (b + 82), .int (iI pp), .int (iI qq)] (zP D dA vwCl (z_tys dA) wC nC b M)) (va_Qi (zQi wC (zms wC [2367, 2431]) M (fun z M1 => z = 1 ∧ True)) (zB D dA vwCl wC nC b) (zA nC b)) 0 0 (zA nC b) := by
  refine Met.ofW (cc := cX3_pairFits) (maxL := 4) (ret := (some .boolean)) (by decide) rfl ?_
  intro p e s m args below meth c s₁ B hml hv
  obtain ⟨hargs, hR0, hJ, hK⟩ := hv
  have hx := B.exec
  have hb := B.bytes
  have hr := B.returns
  have hts := atoms_spec (ws := .code yX3_pairFits cX3_pairFits 4 (some .boolean) :: zt) B.pre
  have hown : s.vm.findClass RX3 = some m.cls := findClass_of_methodNamed B.named
  have hlocks := B.notSynchronized
  have hS : zS D dA vwCl wC nC b (zms wC [2367, 2431]) M M s.heap := ⟨hR0, hJ, zF_rf _ _⟩
  have hS0 : va_S (zA nC b) s.heap s.heap [] := va_S.rf
  have hl := lv_entry ([.ref (b + 82), .int (iI pp), .int (iI qq)]) (n := 4) (Nat.le_of_ble_eq_true rfl)
  have hent : entryFrame m args 4 = F0 m 0 ((lg_sl ([.ref (b + 82), .int (iI pp), .int (iI qq)]) ++ List.replicate (4 - (lg_sl ([.ref (b + 82), .int (iI pp), .int (iI qq)])).length) Slot.unset).toArray) [] := by rw [hargs]; exact lg_entry_eq m ([.ref (b + 82), .int (iI pp), .int (iI qq)]) 4
  rw [hent]
  generalize (lg_sl ([.ref (b + 82), .int (iI pp), .int (iI qq)]) ++ List.replicate (4 - (lg_sl ([.ref (b + 82), .int (iI pp), .int (iI qq)])).length) Slot.unset).toArray = ls at hl ⊢
  have hl : lv_has ls 4 [(0, .ref (b + 82)), (1, .int (iI pp)), (2, .int (iI qq))] := hl
  refine lv_aload_n hx hb dX3_pairFits_0 rfl (lv_at hl 0 rfl) ?_
  refine lv_aload_n hx hb dX3_pairFits_1 rfl (lv_at hl 0 rfl) ?_
  refine z_getr (j2 := 84) hx hb hts (z_memU u3) hown hK.1 hS f3_2 (by decide) (zkd_of (rfl : zcd wC 82 = 34) rfl) (zrf_of (rfl : zcd wC 82 = 34) rfl) (Or.inl (hts _ (z_mem k198))) dX3_pairFits_2 ?_
  refine lv_iload_n hx hb dX3_pairFits_5 rfl (lv_at hl 1 rfl) ?_
  refine z_callv (va_runV (As := [.ref (b + 84), .int (iI pp)]) (rest := []) ⟨hx, hb, hml, hown, hts⟩ (n_makeGreatest84 l D dA b M pp r_pp (by rw [g0])) (cwV 2 hts (z_gV k782 k783 k1387 k11 k784) rfl rfl rfl dm_X3_makeGreatest ⟨Nat.le_of_ble_eq_true rfl, Nat.le_of_ble_eq_true rfl⟩) ⟨zP_blind, (z_recv hS hK.1 (by decide) (zkd_of (rfl : zcd wC 82 = 34) rfl) (by decide) (rfl : vwCl[3]? = some (RX3, TX3, 4))), z_pre hS hK⟩ rfl rfl hl.1 rfl (lv_room (Nat.le_of_ble_eq_true rfl)) dX3_pairFits_6 ⟨Nat.le_refl _, Nat.le_refl _⟩) hS hS0 (zms_sub rfl) (fun M1 H locs h2 F3 hS hS0 => ?_)
  have J4 := hS.2.1
  refine lv_aload_n hx hb dX3_pairFits_9 rfl (lv_at hl 0 rfl) ?_
  refine lv_aload_n hx hb dX3_pairFits_10 rfl (lv_at hl 0 rfl) ?_
  refine z_getr (j2 := 85) hx hb hts (z_memU u3) hown hK.1 hS f3_3 (by decide) (zkd_of (rfl : zcd wC 82 = 34) rfl) (zrf_of (rfl : zcd wC 82 = 34) rfl) (Or.inl (hts _ (z_mem k199))) dX3_pairFits_11 ?_
  refine lv_iload_n hx hb dX3_pairFits_14 rfl (lv_at hl 2 rfl) ?_
  refine z_callv (va_runV (As := [.ref (b + 85), .int (iI qq)]) (rest := []) ⟨hx, hb, hml, hown, hts⟩ (n_makeGreatest85 l D dA b M1 qq r_qq (by rw [F3 _ _ (zms_not (rfl : zcd wC 82 = 34) rfl), g0])) (cwV 2 hts (z_gV k782 k783 k1387 k11 k784) rfl rfl rfl dm_X3_makeGreatest ⟨Nat.le_of_ble_eq_true rfl, Nat.le_of_ble_eq_true rfl⟩) ⟨zP_blind, (z_recv hS hK.1 (by decide) (zkd_of (rfl : zcd wC 82 = 34) rfl) (by decide) (rfl : vwCl[3]? = some (RX3, TX3, 4))), z_pre hS hK⟩ rfl rfl hl.1 rfl (lv_room (Nat.le_of_ble_eq_true rfl)) dX3_pairFits_15 ⟨Nat.le_refl _, Nat.le_refl _⟩) hS hS0 (zms_sub rfl) (fun M5 H locs h6 F7 hS hS0 => ?_)
  have J8 := hS.2.1
  refine z_iconst hx hb dX3_pairFits_18 ?_
  refine lv_istore_n (lv' := [(3, .int (iI 0)), (0, .ref (b + 82)), (1, .int (iI pp)), (2, .int (iI qq))]) hx hb dX3_pairFits_19 rfl hl (by decide) rfl (fun ls hl => ?_)
  refine lv_iload_n hx hb dX3_pairFits_20 rfl (lv_at hl 0 rfl) ?_
  refine lv_aload_n hx hb dX3_pairFits_21 rfl (lv_at hl 1 rfl) ?_
  refine z_geti hx hb hts (z_memU u3) hown hK.1 hS f3_1 (by decide) (zkd_of (rfl : zcd wC 82 = 34) rfl) (Or.inl (hts _ (z_mem k196))) dX3_pairFits_22 ?_
  refine z_top (show M5 82 1 = 0 from by rw [F7 _ _ (zms_not (rfl : zcd wC 82 = 34) rfl), F3 _ _ (zms_not (rfl : zcd wC 82 = 34) rfl), g0]) ?_
  refine z_icmp_ge (tgt := 78) hx hb (by decide) (by decide) dX3_pairFits_25 (by decide) (fun c9 => ?_) (fun c9 => absurd c9 (by decide))
  refine z_iconst hx hb dX3_pairFits_78 ?_
  exact z_zret hx hb hr hlocks hS hS0 (by first | decide | omega) (by first | exact trivial | exact ⟨rfl, trivial⟩ | omega | (refine ⟨by omega, trivial⟩)) dX3_pairFits_79
