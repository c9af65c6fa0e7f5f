theorem dX3_makeGreatest_0 : decode cX3_makeGreatest 0 = .ok (.aload_n 1, 1) := by decide +kernel
theorem dX3_makeGreatest_1 : decode cX3_makeGreatest 1 = .ok (.sipush 1022, 3) := by decide +kernel
theorem dX3_makeGreatest_10 : decode cX3_makeGreatest 10 = .ok (.aload_n 0, 1) := by decide +kernel
theorem dX3_makeGreatest_11 : decode cX3_makeGreatest 11 = .ok (.getfield 15, 3) := by decide +kernel
theorem dX3_makeGreatest_14 : decode cX3_makeGreatest 14 = .ok (.if_icmp .ge 36, 3) := by decide +kernel
theorem dX3_makeGreatest_4 : decode cX3_makeGreatest 4 = .ok (.invokestatic 29, 3) := by decide +kernel
theorem dX3_makeGreatest_50 : decode cX3_makeGreatest 50 = .ok (.return_, 1) := by decide +kernel
theorem dX3_makeGreatest_7 : decode cX3_makeGreatest 7 = .ok (.iconst 0, 1) := by decide +kernel
theorem dX3_makeGreatest_8 : decode cX3_makeGreatest 8 = .ok (.istore_n 3, 1) := by decide +kernel
theorem dX3_makeGreatest_9 : decode cX3_makeGreatest 9 = .ok (.iload_n 3, 1) := by decide +kernel

set_option maxHeartbeats 4000000 in
set_option maxRecDepth 100000 in
theorem n_makeGreatest84 (l : Launch) (D : va_G) (dA : Nat → ClassId) (b : Nat) (M : zM) (n : Int) (r_n : R32 n) (g0 : M 82 1 = 0) : Met l yX3_makeGreatest (.code yX3_makeGreatest cX3_makeGreatest 4 none :: zt) (z_rm 1) (va_Pc [.ref (b + 82), .ref (b + 84), .int (iI n)] (zP D dA vwCl (z_tys dA) wC nC b M)) (va_Qv (zQv wC (zms wC [2367]) M (fun M1 => True)) (zB D dA vwCl wC nC b) (zA nC b)) 0 0 (zA nC b) := by
  refine Met.ofW (cc := cX3_makeGreatest) (maxL := 4) (ret := none) (by decide) rfl ?_
  intro p e s m args below meth c s₁ B hml hv
  obtain ⟨hargs, hR0, hJ, hK⟩ := hv
  have hx := B.exec
  have hb := B.bytes
  have hr := B.returns
  have hts := atoms_spec (ws := .code yX3_makeGreatest cX3_makeGreatest 4 none :: zt) B.pre
  have hown : s.vm.findClass RX3 = some m.cls := findClass_of_methodNamed B.named
  have hlocks := B.notSynchronized
  have hS : zS D dA vwCl wC nC b (zms wC [2367]) M M s.heap := ⟨hR0, hJ, zF_rf _ _⟩
  have hS0 : va_S (zA nC b) s.heap s.heap [] := va_S.rf
  have hl := lv_entry ([.ref (b + 82), .ref (b + 84), .int (iI n)]) (n := 4) (Nat.le_of_ble_eq_true rfl)
  have hent : entryFrame m args 4 = F0 m 0 ((lg_sl ([.ref (b + 82), .ref (b + 84), .int (iI n)]) ++ List.replicate (4 - (lg_sl ([.ref (b + 82), .ref (b + 84), .int (iI n)])).length) Slot.unset).toArray) [] := by rw [hargs]; exact lg_entry_eq m ([.ref (b + 82), .ref (b + 84), .int (iI n)]) 4
  rw [hent]
  generalize (lg_sl ([.ref (b + 82), .ref (b + 84), .int (iI n)]) ++ List.replicate (4 - (lg_sl ([.ref (b + 82), .ref (b + 84), .int (iI n)])).length) Slot.unset).toArray = ls at hl ⊢
  have hl : lv_has ls 4 [(0, .ref (b + 82)), (1, .ref (b + 84)), (2, .int (iI n))] := hl
  refine lv_aload_n hx hb dX3_makeGreatest_0 rfl (lv_at hl 1 rfl) ?_
  refine z_sipush hx hb (by decide) dX3_makeGreatest_1 ?_
  refine z_callv (va_runS (As := [.ref (b + 84), .int (iI 1022)]) (rest := []) ⟨hx, hb, hml, hown, hts⟩ (n_fill84 l D dA b M 1022 (by decide)) (va_cwS 2 hts (z_gS k769 k170 k10 k171) rfl rfl rfl dm_J7_fill_53178.2 ⟨Nat.le_of_ble_eq_true rfl, Nat.le_of_ble_eq_true rfl⟩) ⟨zP_blind, z_pre hS hK⟩ rfl rfl hl.1 rfl (lv_room (Nat.le_of_ble_eq_true rfl)) dX3_makeGreatest_4 ⟨Nat.le_refl _, Nat.le_refl _⟩) hS hS0 (zms_sub rfl) (fun M1 H locs h2 F3 hS hS0 => ?_)
  have J4 := hS.2.1
  refine z_iconst hx hb dX3_makeGreatest_7 ?_
  refine lv_istore_n (lv' := [(3, .int (iI 0)), (0, .ref (b + 82)), (1, .ref (b + 84)), (2, .int (iI n))]) hx hb dX3_makeGreatest_8 rfl hl (by decide) rfl (fun ls hl => ?_)
  refine lv_iload_n hx hb dX3_makeGreatest_9 rfl (lv_at hl 0 rfl) ?_
  refine lv_aload_n hx hb dX3_makeGreatest_10 rfl (lv_at hl 1 rfl) ?_
  refine z_geti hx hb hts (z_memU u3) hown hK.1 hS f3_1 (by decide) (zkd_of (rfl : zcd wC 82 = 34) rfl) (Or.inl (hts _ (z_mem k196))) dX3_makeGreatest_11 ?_
  refine z_top (show M1 82 1 = 0 from by rw [F3 _ _ (zms_not (rfl : zcd wC 82 = 34) rfl), g0]) ?_
  refine z_icmp_ge (tgt := 50) hx hb (by decide) (by decide) dX3_makeGreatest_14 (by decide) (fun c5 => ?_) (fun c5 => absurd c5 (by decide))
  exact z_vret hx hb hr hlocks hS hS0 (by first | exact trivial | exact ⟨rfl, trivial⟩ | omega | (refine ⟨by omega, trivial⟩)) dX3_makeGreatest_50
