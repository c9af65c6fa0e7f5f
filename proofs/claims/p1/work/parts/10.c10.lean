

set_option maxHeartbeats 4000000 in
set_option maxRecDepth 100000 in
theorem n_outAtT (l : Launch) (D : va_G) (dA : Nat → ClassId) (b : Nat) (M : zM) (t : Int) (r_t : R32 t) (p0 : 0 ≤ t ∧ t ≤ 4000) (p1 : M 81 t.toNat = 0) : Met l yX0_outAt (.code yX0_outAt cX0_outAt 2 (some .int) :: zt) (z_rm 0) (va_Pc [.ref (b + 78), .int (iI t)] (zP D dA vwCl (z_tys dA) wC nC b M)) (va_Qi (zQi wC (zms wC []) M (fun z M1 => M1 = M ∧ (z = 0 ∧ True))) (zB D dA vwCl wC nC b) (zA nC b)) 0 0 (zA nC b) := by
  refine Met.ofW (cc := cX0_outAt) (maxL := 2) (ret := (some .int)) (by decide) rfl ?_
  intro p e s m args below meth c s₁ B hml hv
  obtain ⟨hargs, hR0, hJ, hK⟩ := hv
  have hx := B.exec
  have hb := B.bytes
  have hr := B.returns
  have hts := atoms_spec (ws := .code yX0_outAt cX0_outAt 2 (some .int) :: zt) B.pre
  have hown : s.vm.findClass RX0 = some m.cls := findClass_of_methodNamed B.named
  have hlocks := B.notSynchronized
  have hS : zS D dA vwCl wC nC b (zms wC []) M M s.heap := ⟨hR0, hJ, zF_rf _ _⟩
  have hS0 : va_S (zA nC b) s.heap s.heap [] := va_S.rf
  have hl := lv_entry ([.ref (b + 78), .int (iI t)]) (n := 2) (Nat.le_of_ble_eq_true rfl)
  have hent : entryFrame m args 2 = F0 m 0 ((lg_sl ([.ref (b + 78), .int (iI t)]) ++ List.replicate (2 - (lg_sl ([.ref (b + 78), .int (iI t)])).length) Slot.unset).toArray) [] := by rw [hargs]; exact lg_entry_eq m ([.ref (b + 78), .int (iI t)]) 2
  rw [hent]
  generalize (lg_sl ([.ref (b + 78), .int (iI t)]) ++ List.replicate (2 - (lg_sl ([.ref (b + 78), .int (iI t)])).length) Slot.unset).toArray = ls at hl ⊢
  have hl : lv_has ls 2 [(0, .ref (b + 78)), (1, .int (iI t))] := hl
  refine lv_iload_n hx hb dX0_outAt_0 rfl (lv_at hl 1 rfl) ?_
  refine z_if_lt (tgt := 22) hx hb r_t dX0_outAt_1 (by decide) (fun c1 => absurd c1 (by omega)) (fun c1 => ?_)
  refine lv_iload_n hx hb dX0_outAt_4 rfl (lv_at hl 1 rfl) ?_
  refine lv_aload_n hx hb dX0_outAt_5 rfl (lv_at hl 0 rfl) ?_
  refine z_getr (j2 := 81) hx hb hts (z_memU u0) hown hK.1 hS f0_7 (by decide) (zkd_of (rfl : zcd wC 78 = 30) rfl) (zrf_of (rfl : zcd wC 78 = 30) rfl) (Or.inl (hts _ (z_mem k181))) dX0_outAt_6 ?_
  refine z_alen (n := 4001) hx hb hK.1 (t0 := 0) rfl hS (by decide) (zkd_of (rfl : zcd wC 81 = 33) rfl) (zln_of (rfl : zcd wC 81 = 33) rfl) dX0_outAt_9 ?_
  refine z_top (show (((4001 : Nat) : Int)) = 4001 from by decide) ?_
  refine z_icmp_ge (tgt := 22) hx hb r_t (by decide) dX0_outAt_10 (by decide) (fun c2 => absurd c2 (by omega)) (fun c2 => ?_)
  refine lv_aload_n hx hb dX0_outAt_13 rfl (lv_at hl 0 rfl) ?_
  refine z_getr (j2 := 81) hx hb hts (z_memU u0) hown hK.1 hS f0_7 (by decide) (zkd_of (rfl : zcd wC 78 = 30) rfl) (zrf_of (rfl : zcd wC 78 = 30) rfl) (Or.inl (hts _ (z_mem k181))) dX0_outAt_14 ?_
  refine lv_iload_n hx hb dX0_outAt_17 rfl (lv_at hl 1 rfl) ?_
  refine z_iald (n := 4001) hx hb hK.1 (t0 := 0) rfl hS (by decide) (zkd_of (rfl : zcd wC 81 = 33) rfl) (zln_of (rfl : zcd wC 81 = 33) rfl) (by omega) (by omega) (by decide) dX0_outAt_18 ?_
  have q3 : (0 : Int) ≤ M 81 (t.toNat) ∧ M 81 (t.toNat) ≤ 5000 := zJ_at hJ (rfl : zcd wC 81 = 33) rfl
  refine lv_goto (tgt := 23) hx hb dX0_outAt_19 (by decide) ?_
  exact z_iret hx hb hr hlocks hS hS0 (r32b q3 (by decide) (by decide)) (⟨rfl, by first | exact trivial | exact ⟨rfl, trivial⟩ | omega | (refine ⟨by omega, trivial⟩)⟩) dX0_outAt_23
