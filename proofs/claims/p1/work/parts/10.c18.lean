theorem dX3_spanFits_0 : decode cX3_spanFits 0 = .ok (.aload_n 0, 1) := by decide +kernel
theorem dX3_spanFits_1 : decode cX3_spanFits 1 = .ok (.getfield 19, 3) := by decide +kernel
theorem dX3_spanFits_10 : decode cX3_spanFits 10 = .ok (.iload_n 2, 1) := by decide +kernel
theorem dX3_spanFits_11 : decode cX3_spanFits 11 = .ok (.aload_n 0, 1) := by decide +kernel
theorem dX3_spanFits_12 : decode cX3_spanFits 12 = .ok (.getfield 15, 3) := by decide +kernel
theorem dX3_spanFits_15 : decode cX3_spanFits 15 = .ok (.if_icmp .ge 68, 3) := by decide +kernel
theorem dX3_spanFits_4 : decode cX3_spanFits 4 = .ok (.iconst (-1), 1) := by decide +kernel
theorem dX3_spanFits_5 : decode cX3_spanFits 5 = .ok (.invokestatic 29, 3) := by decide +kernel
theorem dX3_spanFits_8 : decode cX3_spanFits 8 = .ok (.iconst 0, 1) := by decide +kernel
theorem dX3_spanFits_83 : decode cX3_spanFits 83 = .ok (.iconst 1, 1) := by decide +kernel
theorem dX3_spanFits_84 : decode cX3_spanFits 84 = .ok (.ireturn, 1) := by decide +kernel
theorem dX3_spanFits_9 : decode cX3_spanFits 9 = .ok (.istore_n 2, 1) := by decide +kernel

set_option maxHeartbeats 4000000 in
set_option maxRecDepth 100000 in
theorem n_spanFits (l : Launch) (D : va_G) (dA : Nat → ClassId) (b : Nat) (M : zM) (pp : Int) (r_pp : R32 pp) (g0 : M 82 1 = 0) : Met l yX3_spanFits (.code yX3_spanFits cX3_spanFits 4 (some .boolean) :: zt) (z_rm 1) (va_Pc [.ref (b + 82), .int (iI pp)] (zP D dA vwCl (z_tys dA) wC nC b M)) (va_Qi (zQi wC (zms wC [2367]) M (fun z M1 => z = 1 ∧ True)) (zB D dA vwCl wC nC b) (zA nC b)) 0 0 (zA nC b) := by
  refine Met.ofW (cc := cX3_spanFits) (maxL := 4) (ret := (some .boolean)) (by decide) rfl ?_
  intro p e s m args below meth c s₁ B hml hv
  obtain ⟨hargs, hR0, hJ, hK⟩ := hv
  have hx := B.exec
  have hb := B.bytes
  have hr := B.returns
  have hts := atoms_spec (ws := .code yX3_spanFits cX3_spanFits 4 (some .boolean) :: zt) B.pre
  have hown : s.vm.findClass RX3 = some m.cls := findClass_of_methodNamed B.named
  have hlocks := B.notSynchronized
  have hS : zS D dA vwCl wC nC b (zms wC [2367]) M M s.heap := ⟨hR0, hJ, zF_rf _ _⟩
  have hS0 : va_S (zA nC b) s.heap s.heap [] := va_S.rf
  have hl := lv_entry ([.ref (b + 82), .int (iI pp)]) (n := 4) (Nat.le_of_ble_eq_true rfl)
  have hent : entryFrame m args 4 = F0 m 0 ((lg_sl ([.ref (b + 82), .int (iI pp)]) ++ List.replicate (4 - (lg_sl ([.ref (b + 82), .int (iI pp)])).length) Slot.unset).toArray) [] := by rw [hargs]; exact lg_entry_eq m ([.ref (b + 82), .int (iI pp)]) 4
  rw [hent]
  generalize (lg_sl ([.ref (b + 82), .int (iI pp)]) ++ List.replicate (4 - (lg_sl ([.ref (b + 82), .int (iI pp)])).length) Slot.unset).toArray = ls at hl ⊢
  have hl : lv_has ls 4 [(0, .ref (b + 82)), (1, .int (iI pp))] := hl
  refine lv_aload_n hx hb dX3_spanFits_0 rfl (lv_at hl 0 rfl) ?_
  refine z_getr (j2 := 84) hx hb hts (z_memU u3) hown hK.1 hS f3_2 (by decide) (zkd_of (rfl : zcd wC 82 = 34) rfl) (zrf_of (rfl : zcd wC 82 = 34) rfl) (Or.inl (hts _ (z_mem k198))) dX3_spanFits_1 ?_
  refine z_iconst hx hb dX3_spanFits_4 ?_
  refine z_callv (va_runS (As := [.ref (b + 84), .int (iI (-1))]) (rest := []) ⟨hx, hb, hml, hown, hts⟩ (n_fill84 l D dA b M (-1) (by decide)) (va_cwS 2 hts (z_gS k769 k170 k10 k171) rfl rfl rfl dm_J7_fill_53178.2 ⟨Nat.le_of_ble_eq_true rfl, Nat.le_of_ble_eq_true rfl⟩) ⟨zP_blind, z_pre hS hK⟩ rfl rfl hl.1 rfl (lv_room (Nat.le_of_ble_eq_true rfl)) dX3_spanFits_5 ⟨Nat.le_refl _, Nat.le_refl _⟩) hS hS0 (zms_sub rfl) (fun M1 H locs h2 F3 hS hS0 => ?_)
  have J4 := hS.2.1
  refine z_iconst hx hb dX3_spanFits_8 ?_
  refine lv_istore_n (lv' := [(2, .int (iI 0)), (0, .ref (b + 82)), (1, .int (iI pp))]) hx hb dX3_spanFits_9 rfl hl (by decide) rfl (fun ls hl => ?_)
  refine lv_iload_n hx hb dX3_spanFits_10 rfl (lv_at hl 0 rfl) ?_
  refine lv_aload_n hx hb dX3_spanFits_11 rfl (lv_at hl 1 rfl) ?_
  refine z_geti hx hb hts (z_memU u3) hown hK.1 hS f3_1 (by decide) (zkd_of (rfl : zcd wC 82 = 34) rfl) (Or.inl (hts _ (z_mem k196))) dX3_spanFits_12 ?_
  refine z_top (show M1 82 1 = 0 from by rw [F3 _ _ (zms_not (rfl : zcd wC 82 = 34) rfl), g0]) ?_
  refine z_icmp_ge (tgt := 83) hx hb (by decide) (by decide) dX3_spanFits_15 (by decide) (fun c5 => ?_) (fun c5 => absurd c5 (by decide))
  refine z_iconst hx hb dX3_spanFits_83 ?_
  exact z_zret hx hb hr hlocks hS hS0 (by first | decide | omega) (by first | exact trivial | exact ⟨rfl, trivial⟩ | omega | (refine ⟨by omega, trivial⟩)) dX3_spanFits_84
