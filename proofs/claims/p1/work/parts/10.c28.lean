theorem dX10_latest_0 : decode cX10_latest 0 = .ok (.aload_n 0, 1) := by decide +kernel
theorem dX10_latest_1 : decode cX10_latest 1 = .ok (.getfield 9, 3) := by decide +kernel
theorem dX10_latest_39 : decode cX10_latest 39 = .ok (.iconst (-1), 1) := by decide +kernel
theorem dX10_latest_4 : decode cX10_latest 4 = .ok (.iconst 1, 1) := by decide +kernel
theorem dX10_latest_40 : decode cX10_latest 40 = .ok (.ireturn, 1) := by decide +kernel
theorem dX10_latest_5 : decode cX10_latest 5 = .ok (.isub, 1) := by decide +kernel
theorem dX10_latest_6 : decode cX10_latest 6 = .ok (.istore_n 3, 1) := by decide +kernel
theorem dX10_latest_7 : decode cX10_latest 7 = .ok (.iload_n 3, 1) := by decide +kernel
theorem dX10_latest_8 : decode cX10_latest 8 = .ok (.ifCond .lt 31, 3) := by decide +kernel

set_option maxHeartbeats 4000000 in
set_option maxRecDepth 100000 in
theorem n_latest (l : Launch) (D : va_G) (dA : Nat → ClassId) (b : Nat) (M : zM) (r : Int) (d : Int) (r_r : R32 r) (r_d : R32 d) (g0 : M 96 0 = 0) : Met l yX10_latest (.code yX10_latest cX10_latest 4 (some .int) :: zt) (z_rm 0) (va_Pc [.ref (b + 96), .int (iI r), .int (iI d)] (zP D dA vwCl (z_tys dA) wC nC b M)) (va_Qi (zQi wC (zms wC []) M (fun z M1 => M1 = M ∧ (z = -1 ∧ True))) (zB D dA vwCl wC nC b) (zA nC b)) 0 0 (zA nC b) := by
  refine Met.ofW (cc := cX10_latest) (maxL := 4) (ret := (some .int)) (by decide) rfl ?_
  intro p e s m args below meth c s₁ B hml hv
  obtain ⟨hargs, hR0, hJ, hK⟩ := hv
  have hx := B.exec
  have hb := B.bytes
  have hr := B.returns
  have hts := atoms_spec (ws := .code yX10_latest cX10_latest 4 (some .int) :: zt) B.pre
  have hown : s.vm.findClass RX10 = some m.cls := findClass_of_methodNamed B.named
  have hlocks := B.notSynchronized
  have hS : zS D dA vwCl wC nC b (zms wC []) M M s.heap := ⟨hR0, hJ, zF_rf _ _⟩
  have hS0 : va_S (zA nC b) s.heap s.heap [] := va_S.rf
  have hl := lv_entry ([.ref (b + 96), .int (iI r), .int (iI d)]) (n := 4) (Nat.le_of_ble_eq_true rfl)
  have hent : entryFrame m args 4 = F0 m 0 ((lg_sl ([.ref (b + 96), .int (iI r), .int (iI d)]) ++ List.replicate (4 - (lg_sl ([.ref (b + 96), .int (iI r), .int (iI d)])).length) Slot.unset).toArray) [] := by rw [hargs]; exact lg_entry_eq m ([.ref (b + 96), .int (iI r), .int (iI d)]) 4
  rw [hent]
  generalize (lg_sl ([.ref (b + 96), .int (iI r), .int (iI d)]) ++ List.replicate (4 - (lg_sl ([.ref (b + 96), .int (iI r), .int (iI d)])).length) Slot.unset).toArray = ls at hl ⊢
  have hl : lv_has ls 4 [(0, .ref (b + 96)), (1, .int (iI r)), (2, .int (iI d))] := hl
  refine lv_aload_n hx hb dX10_latest_0 rfl (lv_at hl 0 rfl) ?_
  refine z_geti hx hb hts (z_memU u10) hown hK.1 hS f10_0 (by decide) (zkd_of (rfl : zcd wC 96 = 44) rfl) (Or.inl (hts _ (z_mem k231))) dX10_latest_1 ?_
  refine z_top (show M 96 0 = 0 from by rw [g0]) ?_
  refine z_iconst hx hb dX10_latest_4 ?_
  refine z_isub hx hb dX10_latest_5 ?_
  refine z_top (show ((0 - 1) : Int) = (-1) from by decide) ?_
  refine lv_istore_n (lv' := [(3, .int (iI (-1))), (0, .ref (b + 96)), (1, .int (iI r)), (2, .int (iI d))]) hx hb dX10_latest_6 rfl hl (by decide) rfl (fun ls hl => ?_)
  refine lv_iload_n hx hb dX10_latest_7 rfl (lv_at hl 0 rfl) ?_
  refine z_if_lt (tgt := 39) hx hb (by decide) dX10_latest_8 (by decide) (fun c1 => ?_) (fun c1 => absurd c1 (by decide))
  refine z_iconst hx hb dX10_latest_39 ?_
  exact z_iret hx hb hr hlocks hS hS0 (by decide) (⟨rfl, by first | exact trivial | exact ⟨rfl, trivial⟩ | omega | (refine ⟨by omega, trivial⟩)⟩) dX10_latest_40
