theorem dX0_weigh_0 : decode cX0_weigh 0 = .ok (.aload_n 0, 1) := by decide +kernel
theorem dX0_weigh_1 : decode cX0_weigh 1 = .ok (.getfield 19, 3) := by decide +kernel
theorem dX0_weigh_11 : decode cX0_weigh 11 = .ok (.iload_n 1, 1) := by decide +kernel
theorem dX0_weigh_12 : decode cX0_weigh 12 = .ok (.iload_n 2, 1) := by decide +kernel
theorem dX0_weigh_13 : decode cX0_weigh 13 = .ok (.iastore, 1) := by decide +kernel
theorem dX0_weigh_14 : decode cX0_weigh 14 = .ok (.iload_n 3, 1) := by decide +kernel
theorem dX0_weigh_15 : decode cX0_weigh 15 = .ok (.ireturn, 1) := by decide +kernel
theorem dX0_weigh_4 : decode cX0_weigh 4 = .ok (.iload_n 1, 1) := by decide +kernel
theorem dX0_weigh_5 : decode cX0_weigh 5 = .ok (.iaload, 1) := by decide +kernel
theorem dX0_weigh_6 : decode cX0_weigh 6 = .ok (.istore_n 3, 1) := by decide +kernel
theorem dX0_weigh_7 : decode cX0_weigh 7 = .ok (.aload_n 0, 1) := by decide +kernel
theorem dX0_weigh_8 : decode cX0_weigh 8 = .ok (.getfield 19, 3) := by decide +kernel

set_option maxHeartbeats 4000000 in
set_option maxRecDepth 100000 in
theorem n_weigh (l : Launch) (D : va_G) (dA : Nat → ClassId) (b : Nat) (M : zM) (sd : Int) (v : Int) (r_sd : R32 sd) (r_v : R32 v) (a0 : ∀ k : Nat, k < 10 → M 80 k = 100) (p0 : 1 ≤ sd ∧ sd ≤ 9) (p1 : 0 ≤ v ∧ v ≤ 200) : Met l yX0_weigh (.code yX0_weigh cX0_weigh 4 (some .int) :: zt) (z_rm 0) (va_Pc [.ref (b + 78), .int (iI sd), .int (iI v)] (zP D dA vwCl (z_tys dA) wC nC b M)) (va_Qi (zQi wC (zms wC [2111]) M (fun z M1 => z = 100 ∧ True)) (zB D dA vwCl wC nC b) (zA nC b)) 0 0 (zA nC b) := by
  refine Met.ofW (cc := cX0_weigh) (maxL := 4) (ret := (some .int)) (by decide) rfl ?_
  intro p e s m args below meth c s₁ B hml hv
  obtain ⟨hargs, hR0, hJ, hK⟩ := hv
  have hx := B.exec
  have hb := B.bytes
  have hr := B.returns
  have hts := atoms_spec (ws := .code yX0_weigh cX0_weigh 4 (some .int) :: zt) B.pre
  have hown : s.vm.findClass RX0 = some m.cls := findClass_of_methodNamed B.named
  have hlocks := B.notSynchronized
  have hS : zS D dA vwCl wC nC b (zms wC [2111]) M M s.heap := ⟨hR0, hJ, zF_rf _ _⟩
  have hS0 : va_S (zA nC b) s.heap s.heap [] := va_S.rf
  have hl := lv_entry ([.ref (b + 78), .int (iI sd), .int (iI v)]) (n := 4) (Nat.le_of_ble_eq_true rfl)
  have hent : entryFrame m args 4 = F0 m 0 ((lg_sl ([.ref (b + 78), .int (iI sd), .int (iI v)]) ++ List.replicate (4 - (lg_sl ([.ref (b + 78), .int (iI sd), .int (iI v)])).length) Slot.unset).toArray) [] := by rw [hargs]; exact lg_entry_eq m ([.ref (b + 78), .int (iI sd), .int (iI v)]) 4
  rw [hent]
  generalize (lg_sl ([.ref (b + 78), .int (iI sd), .int (iI v)]) ++ List.replicate (4 - (lg_sl ([.ref (b + 78), .int (iI sd), .int (iI v)])).length) Slot.unset).toArray = ls at hl ⊢
  have hl : lv_has ls 4 [(0, .ref (b + 78)), (1, .int (iI sd)), (2, .int (iI v))] := hl
  refine lv_aload_n hx hb dX0_weigh_0 rfl (lv_at hl 0 rfl) ?_
  refine z_getr (j2 := 80) hx hb hts (z_memU u0) hown hK.1 hS f0_2 (by decide) (zkd_of (rfl : zcd wC 78 = 30) rfl) (zrf_of (rfl : zcd wC 78 = 30) rfl) (Or.inl (hts _ (z_mem k176))) dX0_weigh_1 ?_
  refine lv_iload_n hx hb dX0_weigh_4 rfl (lv_at hl 1 rfl) ?_
  refine z_iald (n := 10) hx hb hK.1 (t0 := 0) rfl hS (by decide) (zkd_of (rfl : zcd wC 80 = 32) rfl) (zln_of (rfl : zcd wC 80 = 32) rfl) (by omega) (by omega) (by decide) dX0_weigh_5 ?_
  refine z_top (show M 80 (sd.toNat) = 100 from by rw [a0 _ (by omega)]) ?_
  refine lv_istore_n (lv' := [(3, .int (iI 100)), (0, .ref (b + 78)), (1, .int (iI sd)), (2, .int (iI v))]) hx hb dX0_weigh_6 rfl hl (by decide) rfl (fun ls hl => ?_)
  refine lv_aload_n hx hb dX0_weigh_7 rfl (lv_at hl 1 rfl) ?_
  refine z_getr (j2 := 80) hx hb hts (z_memU u0) hown hK.1 hS f0_2 (by decide) (zkd_of (rfl : zcd wC 78 = 30) rfl) (zrf_of (rfl : zcd wC 78 = 30) rfl) (Or.inl (hts _ (z_mem k176))) dX0_weigh_8 ?_
  refine lv_iload_n hx hb dX0_weigh_11 rfl (lv_at hl 2 rfl) ?_
  refine lv_iload_n hx hb dX0_weigh_12 rfl (lv_at hl 3 rfl) ?_
  refine z_iast (n := 10) hx hb hK.1 (t0 := 0) rfl hS hS0 (by decide) (zkd_of (rfl : zcd wC 80 = 32) rfl) (zln_of (rfl : zcd wC 80 = 32) rfl) (by omega) (by omega) (by decide) (zbd_in (rfl : zcd wC 80 = 32) rfl ⟨by omega, by omega⟩) (zms_of (rfl : zcd wC 80 = 32) rfl) dX0_weigh_13 (fun H locs hS hS0 => ?_)
  obtain ⟨M1, e2⟩ : ∃ M1 : zM, M1 = zup M 80 (sd.toNat) v := ⟨_, rfl⟩
  rw [← e2] at hS
  have J3 := hS.2.1
  refine lv_iload_n hx hb dX0_weigh_14 rfl (lv_at hl 0 rfl) ?_
  exact z_iret hx hb hr hlocks hS hS0 (by decide) (by first | exact trivial | exact ⟨rfl, trivial⟩ | omega | (refine ⟨by omega, trivial⟩)) dX0_weigh_15
