theorem dX3_mendedAt_0 : decode cX3_mendedAt 0 = .ok (.iload_n 1, 1) := by decide +kernel
theorem dX3_mendedAt_1 : decode cX3_mendedAt 1 = .ok (.ifCond .lt 11, 3) := by decide +kernel
theorem dX3_mendedAt_12 : decode cX3_mendedAt 12 = .ok (.iconst (-1), 1) := by decide +kernel
theorem dX3_mendedAt_13 : decode cX3_mendedAt 13 = .ok (.ireturn, 1) := by decide +kernel
theorem dX3_mendedAt_4 : decode cX3_mendedAt 4 = .ok (.iload_n 1, 1) := by decide +kernel
theorem dX3_mendedAt_5 : decode cX3_mendedAt 5 = .ok (.aload_n 0, 1) := by decide +kernel
theorem dX3_mendedAt_6 : decode cX3_mendedAt 6 = .ok (.getfield 15, 3) := by decide +kernel
theorem dX3_mendedAt_9 : decode cX3_mendedAt 9 = .ok (.if_icmp .lt 5, 3) := by decide +kernel

set_option maxHeartbeats 4000000 in
set_option maxRecDepth 100000 in
theorem n_mendedAt (l : Launch) (D : va_G) (dA : Nat → ClassId) (b : Nat) (M : zM) (i : Int) (r_i : R32 i) (g0 : M 82 1 = 0) : Met l yX3_mendedAt (.code yX3_mendedAt cX3_mendedAt 3 (some .int) :: zt) (z_rm 0) (va_Pc [.ref (b + 82), .int (iI i)] (zP D dA vwCl (z_tys dA) wC nC b M)) (va_Qi (zQi wC (zms wC []) M (fun z M1 => M1 = M ∧ (z = -1 ∧ True))) (zB D dA vwCl wC nC b) (zA nC b)) 0 0 (zA nC b) := by
  refine Met.ofW (cc := cX3_mendedAt) (maxL := 3) (ret := (some .int)) (by decide) rfl ?_
  intro p e s m args below meth c s₁ B hml hv
  obtain ⟨hargs, hR0, hJ, hK⟩ := hv
  have hx := B.exec
  have hb := B.bytes
  have hr := B.returns
  have hts := atoms_spec (ws := .code yX3_mendedAt cX3_mendedAt 3 (some .int) :: zt) B.pre
  have hown : s.vm.findClass RX3 = some m.cls := findClass_of_methodNamed B.named
  have hlocks := B.notSynchronized
  have hS : zS D dA vwCl wC nC b (zms wC []) M M s.heap := ⟨hR0, hJ, zF_rf _ _⟩
  have hS0 : va_S (zA nC b) s.heap s.heap [] := va_S.rf
  have hl := lv_entry ([.ref (b + 82), .int (iI i)]) (n := 3) (Nat.le_of_ble_eq_true rfl)
  have hent : entryFrame m args 3 = F0 m 0 ((lg_sl ([.ref (b + 82), .int (iI i)]) ++ List.replicate (3 - (lg_sl ([.ref (b + 82), .int (iI i)])).length) Slot.unset).toArray) [] := by rw [hargs]; exact lg_entry_eq m ([.ref (b + 82), .int (iI i)]) 3
  rw [hent]
  generalize (lg_sl ([.ref (b + 82), .int (iI i)]) ++ List.replicate (3 - (lg_sl ([.ref (b + 82), .int (iI i)])).length) Slot.unset).toArray = ls at hl ⊢
  have hl : lv_has ls 3 [(0, .ref (b + 82)), (1, .int (iI i))] := hl
  refine lv_iload_n hx hb dX3_mendedAt_0 rfl (lv_at hl 1 rfl) ?_
  refine z_if_lt (tgt := 12) hx hb r_i dX3_mendedAt_1 (by decide) (fun c1 => ?_) (fun c1 => ?_)
  · skip
    refine z_iconst hx hb dX3_mendedAt_12 ?_
    exact z_iret hx hb hr hlocks hS hS0 (by decide) (⟨rfl, by first | exact trivial | exact ⟨rfl, trivial⟩ | omega | (refine ⟨by omega, trivial⟩)⟩) dX3_mendedAt_13
  · skip
    refine lv_iload_n hx hb dX3_mendedAt_4 rfl (lv_at hl 1 rfl) ?_
    refine lv_aload_n hx hb dX3_mendedAt_5 rfl (lv_at hl 0 rfl) ?_
    refine z_geti hx hb hts (z_memU u3) hown hK.1 hS f3_1 (by decide) (zkd_of (rfl : zcd wC 82 = 34) rfl) (Or.inl (hts _ (z_mem k196))) dX3_mendedAt_6 ?_
    refine z_top (show M 82 1 = 0 from by rw [g0]) ?_
    refine z_icmp_lt (tgt := 14) hx hb r_i (by decide) dX3_mendedAt_9 (by decide) (fun c2 => absurd c2 (by omega)) (fun c2 => ?_)
    refine z_iconst hx hb dX3_mendedAt_12 ?_
    exact z_iret hx hb hr hlocks hS hS0 (by decide) (⟨rfl, by first | exact trivial | exact ⟨rfl, trivial⟩ | omega | (refine ⟨by omega, trivial⟩)⟩) dX3_mendedAt_13
