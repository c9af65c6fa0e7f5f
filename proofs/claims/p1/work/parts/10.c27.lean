theorem dX10_find_0 : decode cX10_find 0 = .ok (.iload_n 1, 1) := by decide +kernel
theorem dX10_find_1 : decode cX10_find 1 = .ok (.ifCond .lt 26, 3) := by decide +kernel
theorem dX10_find_27 : decode cX10_find 27 = .ok (.aconst_null, 1) := by decide +kernel
theorem dX10_find_28 : decode cX10_find 28 = .ok (.areturn, 1) := by decide +kernel
theorem dX10_find_4 : decode cX10_find 4 = .ok (.iload_n 1, 1) := by decide +kernel
theorem dX10_find_5 : decode cX10_find 5 = .ok (.aload_n 0, 1) := by decide +kernel
theorem dX10_find_6 : decode cX10_find 6 = .ok (.getfield 9, 3) := by decide +kernel
theorem dX10_find_9 : decode cX10_find 9 = .ok (.if_icmp .ge 18, 3) := by decide +kernel

set_option maxHeartbeats 4000000 in
set_option maxRecDepth 100000 in
theorem n_vfind (l : Launch) (D : va_G) (dA : Nat → ClassId) (b : Nat) (M : zM) (i : Int) (r_i : R32 i) (g0 : M 96 0 = 0) : Met l yX10_find (.code yX10_find cX10_find 2 (some (.object "TapeRings$Strip")) :: zt) (z_rm 0) (va_Pc [.ref (b + 96), .int (iI i)] (zP D dA vwCl (z_tys dA) wC nC b M)) (va_Qq (zQq wC (zms wC []) M (fun z M1 => M1 = M ∧ (z = none ∧ True))) (zB D dA vwCl wC nC b) (zA nC b)) 0 0 (zA nC b) := by
  refine Met.ofW (cc := cX10_find) (maxL := 2) (ret := (some (.object "TapeRings$Strip"))) (by decide) rfl ?_
  intro p e s m args below meth c s₁ B hml hv
  obtain ⟨hargs, hR0, hJ, hK⟩ := hv
  have hx := B.exec
  have hb := B.bytes
  have hr := B.returns
  have hts := atoms_spec (ws := .code yX10_find cX10_find 2 (some (.object "TapeRings$Strip")) :: zt) B.pre
  have hown : s.vm.findClass RX10 = some m.cls := findClass_of_methodNamed B.named
  have hlocks := B.notSynchronized
  have hS : zS D dA vwCl wC nC b (zms wC []) M M s.heap := ⟨hR0, hJ, zF_rf _ _⟩
  have hS0 : va_S (zA nC b) s.heap s.heap [] := va_S.rf
  have hl := lv_entry ([.ref (b + 96), .int (iI i)]) (n := 2) (Nat.le_of_ble_eq_true rfl)
  have hent : entryFrame m args 2 = F0 m 0 ((lg_sl ([.ref (b + 96), .int (iI i)]) ++ List.replicate (2 - (lg_sl ([.ref (b + 96), .int (iI i)])).length) Slot.unset).toArray) [] := by rw [hargs]; exact lg_entry_eq m ([.ref (b + 96), .int (iI i)]) 2
  rw [hent]
  generalize (lg_sl ([.ref (b + 96), .int (iI i)]) ++ List.replicate (2 - (lg_sl ([.ref (b + 96), .int (iI i)])).length) Slot.unset).toArray = ls at hl ⊢
  have hl : lv_has ls 2 [(0, .ref (b + 96)), (1, .int (iI i))] := hl
  refine lv_iload_n hx hb dX10_find_0 rfl (lv_at hl 1 rfl) ?_
  refine z_if_lt (tgt := 27) hx hb r_i dX10_find_1 (by decide) (fun c1 => ?_) (fun c1 => ?_)
  · skip
    refine lv_null hx hb dX10_find_27 ?_
    exact z_aret (r := none) hx hb hr (Or.inl ⟨_, rfl⟩) hlocks hS hS0 rfl (⟨rfl, by first | exact trivial | exact ⟨rfl, trivial⟩ | omega | (refine ⟨by omega, trivial⟩)⟩) dX10_find_28
  · skip
    refine lv_iload_n hx hb dX10_find_4 rfl (lv_at hl 1 rfl) ?_
    refine lv_aload_n hx hb dX10_find_5 rfl (lv_at hl 0 rfl) ?_
    refine z_geti hx hb hts (z_memU u10) hown hK.1 hS f10_0 (by decide) (zkd_of (rfl : zcd wC 96 = 44) rfl) (Or.inl (hts _ (z_mem k231))) dX10_find_6 ?_
    refine z_top (show M 96 0 = 0 from by rw [g0]) ?_
    refine z_icmp_ge (tgt := 27) hx hb r_i (by decide) dX10_find_9 (by decide) (fun c2 => ?_) (fun c2 => absurd c2 (by omega))
    refine lv_null hx hb dX10_find_27 ?_
    exact z_aret (r := none) hx hb hr (Or.inl ⟨_, rfl⟩) hlocks hS hS0 rfl (⟨rfl, by first | exact trivial | exact ⟨rfl, trivial⟩ | omega | (refine ⟨by omega, trivial⟩)⟩) dX10_find_28
