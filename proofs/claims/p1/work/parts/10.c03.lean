theorem dX5_add_0 : decode cX5_add 0 = .ok (.aload_n 0, 1) := by decide +kernel
theorem dX5_add_1 : decode cX5_add 1 = .ok (.getfield 18, 3) := by decide +kernel
theorem dX5_add_11 : decode cX5_add 11 = .ok (.aload_n 0, 1) := by decide +kernel
theorem dX5_add_12 : decode cX5_add 12 = .ok (.getfield 9, 3) := by decide +kernel
theorem dX5_add_15 : decode cX5_add 15 = .ok (.aload_n 0, 1) := by decide +kernel
theorem dX5_add_16 : decode cX5_add 16 = .ok (.getfield 18, 3) := by decide +kernel
theorem dX5_add_19 : decode cX5_add 19 = .ok (.iload_n 1, 1) := by decide +kernel
theorem dX5_add_20 : decode cX5_add 20 = .ok (.iastore, 1) := by decide +kernel
theorem dX5_add_21 : decode cX5_add 21 = .ok (.aload_n 0, 1) := by decide +kernel
theorem dX5_add_22 : decode cX5_add 22 = .ok (.getfield 15, 3) := by decide +kernel
theorem dX5_add_25 : decode cX5_add 25 = .ok (.aload_n 0, 1) := by decide +kernel
theorem dX5_add_26 : decode cX5_add 26 = .ok (.getfield 18, 3) := by decide +kernel
theorem dX5_add_29 : decode cX5_add 29 = .ok (.iload_n 2, 1) := by decide +kernel
theorem dX5_add_30 : decode cX5_add 30 = .ok (.iastore, 1) := by decide +kernel
theorem dX5_add_31 : decode cX5_add 31 = .ok (.aload_n 0, 1) := by decide +kernel
theorem dX5_add_32 : decode cX5_add 32 = .ok (.dup, 1) := by decide +kernel
theorem dX5_add_33 : decode cX5_add 33 = .ok (.getfield 18, 3) := by decide +kernel
theorem dX5_add_36 : decode cX5_add 36 = .ok (.iconst 1, 1) := by decide +kernel
theorem dX5_add_37 : decode cX5_add 37 = .ok (.iadd, 1) := by decide +kernel
theorem dX5_add_38 : decode cX5_add 38 = .ok (.putfield 18, 3) := by decide +kernel
theorem dX5_add_4 : decode cX5_add 4 = .ok (.bipush 6, 2) := by decide +kernel
theorem dX5_add_41 : decode cX5_add 41 = .ok (.aload_n 0, 1) := by decide +kernel
theorem dX5_add_42 : decode cX5_add 42 = .ok (.getfield 18, 3) := by decide +kernel
theorem dX5_add_45 : decode cX5_add 45 = .ok (.ireturn, 1) := by decide +kernel
theorem dX5_add_6 : decode cX5_add 6 = .ok (.if_icmp .lt 5, 3) := by decide +kernel

set_option maxHeartbeats 4000000 in
set_option maxRecDepth 100000 in
theorem n_padd (l : Launch) (D : va_G) (dA : Nat → ClassId) (b : Nat) (M : zM) (t : Int) (sd : Int) (r_t : R32 t) (r_sd : R32 sd) (g0 : M 60 2 = 0) (p0 : 0 ≤ t ∧ t ≤ 100000) (p1 : 1 ≤ sd ∧ sd ≤ 9) : Met l yX5_add (.code yX5_add cX5_add 3 (some .int) :: zt) (z_rm 0) (va_Pc [.ref (b + 60), .int (iI t), .int (iI sd)] (zP D dA vwCl (z_tys dA) wC nC b M)) (va_Qi (zQi wC (zms wC [1218, 1343, 1407]) M (fun z M1 => z = 1 ∧ True)) (zB D dA vwCl wC nC b) (zA nC b)) 0 0 (zA nC b) := by
  refine Met.ofW (cc := cX5_add) (maxL := 3) (ret := (some .int)) (by decide) rfl ?_
  intro p e s m args below meth c s₁ B hml hv
  obtain ⟨hargs, hR0, hJ, hK⟩ := hv
  have hx := B.exec
  have hb := B.bytes
  have hr := B.returns
  have hts := atoms_spec (ws := .code yX5_add cX5_add 3 (some .int) :: zt) B.pre
  have hown : s.vm.findClass RX5 = some m.cls := findClass_of_methodNamed B.named
  have hlocks := B.notSynchronized
  have hS : zS D dA vwCl wC nC b (zms wC [1218, 1343, 1407]) M M s.heap := ⟨hR0, hJ, zF_rf _ _⟩
  have hS0 : va_S (zA nC b) s.heap s.heap [] := va_S.rf
  have hl := lv_entry ([.ref (b + 60), .int (iI t), .int (iI sd)]) (n := 3) (Nat.le_of_ble_eq_true rfl)
  have hent : entryFrame m args 3 = F0 m 0 ((lg_sl ([.ref (b + 60), .int (iI t), .int (iI sd)]) ++ List.replicate (3 - (lg_sl ([.ref (b + 60), .int (iI t), .int (iI sd)])).length) Slot.unset).toArray) [] := by rw [hargs]; exact lg_entry_eq m ([.ref (b + 60), .int (iI t), .int (iI sd)]) 3
  rw [hent]
  generalize (lg_sl ([.ref (b + 60), .int (iI t), .int (iI sd)]) ++ List.replicate (3 - (lg_sl ([.ref (b + 60), .int (iI t), .int (iI sd)])).length) Slot.unset).toArray = ls at hl ⊢
  have hl : lv_has ls 3 [(0, .ref (b + 60)), (1, .int (iI t)), (2, .int (iI sd))] := hl
  refine lv_aload_n hx hb dX5_add_0 rfl (lv_at hl 0 rfl) ?_
  refine z_geti hx hb hts (z_memU u5) hown hK.1 hS f5_2 (by decide) (zkd_of (rfl : zcd wC 60 = 19) rfl) (Or.inl (hts _ (z_mem k145))) dX5_add_1 ?_
  refine z_top (show M 60 2 = 0 from by rw [g0]) ?_
  refine z_bipush hx hb (by decide) dX5_add_4 ?_
  refine z_icmp_lt (tgt := 11) hx hb (by decide) (by decide) dX5_add_6 (by decide) (fun c1 => ?_) (fun c1 => absurd c1 (by decide))
  refine lv_aload_n hx hb dX5_add_11 rfl (lv_at hl 0 rfl) ?_
  refine z_getr (j2 := 61) hx hb hts (z_memU u5) hown hK.1 hS f5_0 (by decide) (zkd_of (rfl : zcd wC 60 = 19) rfl) (zrf_of (rfl : zcd wC 60 = 19) rfl) (Or.inl (hts _ (z_mem k143))) dX5_add_12 ?_
  refine lv_aload_n hx hb dX5_add_15 rfl (lv_at hl 0 rfl) ?_
  refine z_geti hx hb hts (z_memU u5) hown hK.1 hS f5_2 (by decide) (zkd_of (rfl : zcd wC 60 = 19) rfl) (Or.inl (hts _ (z_mem k145))) dX5_add_16 ?_
  refine z_top (show M 60 2 = 0 from by rw [g0]) ?_
  refine lv_iload_n hx hb dX5_add_19 rfl (lv_at hl 1 rfl) ?_
  refine z_iast (n := 6) hx hb hK.1 (t0 := 0) rfl hS hS0 (by decide) (zkd_of (rfl : zcd wC 61 = 20) rfl) (zln_of (rfl : zcd wC 61 = 20) rfl) (by decide) (by decide) (by decide) (zbd_in (rfl : zcd wC 61 = 20) rfl ⟨by omega, by omega⟩) (zms_of (rfl : zcd wC 61 = 20) rfl) dX5_add_20 (fun H locs hS hS0 => ?_)
  obtain ⟨M2, e3⟩ : ∃ M2 : zM, M2 = zup M 61 ((0 : Int).toNat) t := ⟨_, rfl⟩
  rw [← e3] at hS
  have J4 := hS.2.1
  refine lv_aload_n hx hb dX5_add_21 rfl (lv_at hl 0 rfl) ?_
  refine z_getr (j2 := 62) hx hb hts (z_memU u5) hown hK.1 hS f5_1 (by decide) (zkd_of (rfl : zcd wC 60 = 19) rfl) (zrf_of (rfl : zcd wC 60 = 19) rfl) (Or.inl (hts _ (z_mem k144))) dX5_add_22 ?_
  refine lv_aload_n hx hb dX5_add_25 rfl (lv_at hl 0 rfl) ?_
  refine z_geti hx hb hts (z_memU u5) hown hK.1 hS f5_2 (by decide) (zkd_of (rfl : zcd wC 60 = 19) rfl) (Or.inl (hts _ (z_mem k145))) dX5_add_26 ?_
  refine z_top (show M2 60 2 = 0 from by rw [e3, zup_n _ _ (by omega), g0]) ?_
  refine lv_iload_n hx hb dX5_add_29 rfl (lv_at hl 2 rfl) ?_
  refine z_iast (n := 6) hx hb hK.1 (t0 := 0) rfl hS hS0 (by decide) (zkd_of (rfl : zcd wC 62 = 21) rfl) (zln_of (rfl : zcd wC 62 = 21) rfl) (by decide) (by decide) (by decide) (zbd_in (rfl : zcd wC 62 = 21) rfl ⟨by omega, by omega⟩) (zms_of (rfl : zcd wC 62 = 21) rfl) dX5_add_30 (fun H locs hS hS0 => ?_)
  obtain ⟨M5, e6⟩ : ∃ M5 : zM, M5 = zup M2 62 ((0 : Int).toNat) sd := ⟨_, rfl⟩
  rw [← e6] at hS
  have J7 := hS.2.1
  refine lv_aload_n hx hb dX5_add_31 rfl (lv_at hl 0 rfl) ?_
  refine lv_dup hx hb dX5_add_32 rfl ?_
  refine z_geti hx hb hts (z_memU u5) hown hK.1 hS f5_2 (by decide) (zkd_of (rfl : zcd wC 60 = 19) rfl) (Or.inl (hts _ (z_mem k145))) dX5_add_33 ?_
  refine z_top (show M5 60 2 = 0 from by rw [e6, zup_n _ _ (by omega), e3, zup_n _ _ (by omega), g0]) ?_
  refine z_iconst hx hb dX5_add_36 ?_
  refine z_iadd hx hb dX5_add_37 ?_
  refine z_top (show ((0 + 1) : Int) = 1 from by decide) ?_
  refine z_puti hx hb hts (z_memU u5) tyX5 tyX5_ok nmX5 hown hK.1 hS hS0 f5_2 (by decide) (zkd_of (rfl : zcd wC 60 = 19) rfl) (Or.inl (hts _ (z_mem k145))) rfl (z := 1) (by decide +kernel) (zbd_in (rfl : zcd wC 60 = 19) rfl (by decide)) (zms_of (rfl : zcd wC 60 = 19) rfl) dX5_add_38 (fun H locs hS hS0 => ?_)
  obtain ⟨M8, e9⟩ : ∃ M8 : zM, M8 = zup M5 60 2 1 := ⟨_, rfl⟩
  rw [← e9] at hS
  have J10 := hS.2.1
  refine lv_aload_n hx hb dX5_add_41 rfl (lv_at hl 0 rfl) ?_
  refine z_geti hx hb hts (z_memU u5) hown hK.1 hS f5_2 (by decide) (zkd_of (rfl : zcd wC 60 = 19) rfl) (Or.inl (hts _ (z_mem k145))) dX5_add_42 ?_
  refine z_top (show M8 60 2 = 1 from by rw [e9, zup_s]) ?_
  exact z_iret hx hb hr hlocks hS hS0 (by decide) (by first | exact trivial | exact ⟨rfl, trivial⟩ | omega | (refine ⟨by omega, trivial⟩)) dX5_add_45
