theorem dX3_add_0 : decode cX3_add 0 = .ok (.aload_n 0, 1) := by decide +kernel
theorem dX3_add_1 : decode cX3_add 1 = .ok (.getfield 15, 3) := by decide +kernel
theorem dX3_add_11 : decode cX3_add 11 = .ok (.aload_n 0, 1) := by decide +kernel
theorem dX3_add_12 : decode cX3_add 12 = .ok (.getfield 9, 3) := by decide +kernel
theorem dX3_add_15 : decode cX3_add 15 = .ok (.aload_n 0, 1) := by decide +kernel
theorem dX3_add_16 : decode cX3_add 16 = .ok (.getfield 15, 3) := by decide +kernel
theorem dX3_add_19 : decode cX3_add 19 = .ok (.iload_n 1, 1) := by decide +kernel
theorem dX3_add_20 : decode cX3_add 20 = .ok (.iastore, 1) := by decide +kernel
theorem dX3_add_21 : decode cX3_add 21 = .ok (.aload_n 0, 1) := by decide +kernel
theorem dX3_add_22 : decode cX3_add 22 = .ok (.dup, 1) := by decide +kernel
theorem dX3_add_23 : decode cX3_add 23 = .ok (.getfield 15, 3) := by decide +kernel
theorem dX3_add_26 : decode cX3_add 26 = .ok (.iconst 1, 1) := by decide +kernel
theorem dX3_add_27 : decode cX3_add 27 = .ok (.iadd, 1) := by decide +kernel
theorem dX3_add_28 : decode cX3_add 28 = .ok (.putfield 15, 3) := by decide +kernel
theorem dX3_add_31 : decode cX3_add 31 = .ok (.aload_n 0, 1) := by decide +kernel
theorem dX3_add_32 : decode cX3_add 32 = .ok (.getfield 15, 3) := by decide +kernel
theorem dX3_add_35 : decode cX3_add 35 = .ok (.ireturn, 1) := by decide +kernel
theorem dX3_add_4 : decode cX3_add 4 = .ok (.bipush 60, 2) := by decide +kernel
theorem dX3_add_6 : decode cX3_add 6 = .ok (.if_icmp .lt 5, 3) := by decide +kernel

set_option maxHeartbeats 4000000 in
set_option maxRecDepth 100000 in
theorem n_oadd (l : Launch) (D : va_G) (dA : Nat → ClassId) (b : Nat) (M : zM) (v : Int) (c0 : Int) (r_v : R32 v) (g_c0 : M 82 1 = c0) (p0 : c0 < 60) : Met l yX3_add (.code yX3_add cX3_add 2 (some .int) :: zt) (z_rm 0) (va_Pc [.ref (b + 82), .int (iI v)] (zP D dA vwCl (z_tys dA) wC nC b M)) (va_Qi (zQi wC (zms wC [2177, 2303]) M (fun z M1 => (z = c0 + 1 ∧ True) ∧ M1 82 1 = c0 + 1)) (zB D dA vwCl wC nC b) (zA nC b)) 0 0 (zA nC b) := by
  refine Met.ofW (cc := cX3_add) (maxL := 2) (ret := (some .int)) (by decide) rfl ?_
  intro p e s m args below meth c s₁ B hml hv
  obtain ⟨hargs, hR0, hJ, hK⟩ := hv
  have hx := B.exec
  have hb := B.bytes
  have hr := B.returns
  have hts := atoms_spec (ws := .code yX3_add cX3_add 2 (some .int) :: zt) B.pre
  have hown : s.vm.findClass RX3 = some m.cls := findClass_of_methodNamed B.named
  have hlocks := B.notSynchronized
  have hS : zS D dA vwCl wC nC b (zms wC [2177, 2303]) M M s.heap := ⟨hR0, hJ, zF_rf _ _⟩
  have hS0 : va_S (zA nC b) s.heap s.heap [] := va_S.rf
  have hl := lv_entry ([.ref (b + 82), .int (iI v)]) (n := 2) (Nat.le_of_ble_eq_true rfl)
  have hent : entryFrame m args 2 = F0 m 0 ((lg_sl ([.ref (b + 82), .int (iI v)]) ++ List.replicate (2 - (lg_sl ([.ref (b + 82), .int (iI v)])).length) Slot.unset).toArray) [] := by rw [hargs]; exact lg_entry_eq m ([.ref (b + 82), .int (iI v)]) 2
  rw [hent]
  generalize (lg_sl ([.ref (b + 82), .int (iI v)]) ++ List.replicate (2 - (lg_sl ([.ref (b + 82), .int (iI v)])).length) Slot.unset).toArray = ls at hl ⊢
  have hl : lv_has ls 2 [(0, .ref (b + 82)), (1, .int (iI v))] := hl
  have gb_c0 : (0 : Int) ≤ c0 ∧ c0 ≤ 60 := by rw [← g_c0]; exact zJ_at hJ (rfl : zcd wC 82 = 34) rfl
  refine lv_aload_n hx hb dX3_add_0 rfl (lv_at hl 0 rfl) ?_
  refine z_geti hx hb hts (z_memU u3) hown hK.1 hS f3_1 (by decide) (zkd_of (rfl : zcd wC 82 = 34) rfl) (Or.inl (hts _ (z_mem k196))) dX3_add_1 ?_
  refine z_top (show M 82 1 = c0 from by rw [g_c0]) ?_
  refine z_bipush hx hb (by decide) dX3_add_4 ?_
  refine z_icmp_lt (tgt := 11) hx hb ⟨by omega, by omega⟩ (by decide) dX3_add_6 (by decide) (fun c1 => ?_) (fun c1 => absurd c1 (by omega))
  refine lv_aload_n hx hb dX3_add_11 rfl (lv_at hl 0 rfl) ?_
  refine z_getr (j2 := 83) hx hb hts (z_memU u3) hown hK.1 hS f3_0 (by decide) (zkd_of (rfl : zcd wC 82 = 34) rfl) (zrf_of (rfl : zcd wC 82 = 34) rfl) (Or.inl (hts _ (z_mem k195))) dX3_add_12 ?_
  refine lv_aload_n hx hb dX3_add_15 rfl (lv_at hl 0 rfl) ?_
  refine z_geti hx hb hts (z_memU u3) hown hK.1 hS f3_1 (by decide) (zkd_of (rfl : zcd wC 82 = 34) rfl) (Or.inl (hts _ (z_mem k196))) dX3_add_16 ?_
  refine z_top (show M 82 1 = c0 from by rw [g_c0]) ?_
  refine lv_iload_n hx hb dX3_add_19 rfl (lv_at hl 1 rfl) ?_
  refine z_iast (n := 60) hx hb hK.1 (t0 := 0) rfl hS hS0 (by decide) (zkd_of (rfl : zcd wC 83 = 35) rfl) (zln_of (rfl : zcd wC 83 = 35) rfl) (by omega) (by omega) (by decide) (zbd_in (rfl : zcd wC 83 = 35) rfl r_v) (zms_of (rfl : zcd wC 83 = 35) rfl) dX3_add_20 (fun H locs hS hS0 => ?_)
  obtain ⟨M2, e3⟩ : ∃ M2 : zM, M2 = zup M 83 (c0.toNat) v := ⟨_, rfl⟩
  rw [← e3] at hS
  have J4 := hS.2.1
  refine lv_aload_n hx hb dX3_add_21 rfl (lv_at hl 0 rfl) ?_
  refine lv_dup hx hb dX3_add_22 rfl ?_
  refine z_geti hx hb hts (z_memU u3) hown hK.1 hS f3_1 (by decide) (zkd_of (rfl : zcd wC 82 = 34) rfl) (Or.inl (hts _ (z_mem k196))) dX3_add_23 ?_
  refine z_top (show M2 82 1 = c0 from by rw [e3, zup_n _ _ (by omega), g_c0]) ?_
  refine z_iconst hx hb dX3_add_26 ?_
  refine z_iadd hx hb dX3_add_27 ?_
  refine z_puti hx hb hts (z_memU u3) tyX3 tyX3_ok nmX3 hown hK.1 hS hS0 f3_1 (by decide) (zkd_of (rfl : zcd wC 82 = 34) rfl) (Or.inl (hts _ (z_mem k196))) rfl (z := (c0 + 1)) (by decide +kernel) (zbd_in (rfl : zcd wC 82 = 34) rfl ⟨by omega, by omega⟩) (zms_of (rfl : zcd wC 82 = 34) rfl) dX3_add_28 (fun H locs hS hS0 => ?_)
  obtain ⟨M5, e6⟩ : ∃ M5 : zM, M5 = zup M2 82 1 (c0 + 1) := ⟨_, rfl⟩
  rw [← e6] at hS
  have J7 := hS.2.1
  refine lv_aload_n hx hb dX3_add_31 rfl (lv_at hl 0 rfl) ?_
  refine z_geti hx hb hts (z_memU u3) hown hK.1 hS f3_1 (by decide) (zkd_of (rfl : zcd wC 82 = 34) rfl) (Or.inl (hts _ (z_mem k196))) dX3_add_32 ?_
  refine z_top (show M5 82 1 = (c0 + 1) from by rw [e6, zup_s]) ?_
  exact z_iret hx hb hr hlocks hS hS0 ⟨by omega, by omega⟩ (⟨by first | exact trivial | exact ⟨rfl, trivial⟩ | omega | (refine ⟨by omega, trivial⟩), by rw [e6, zup_s] <;> omega⟩) dX3_add_35
