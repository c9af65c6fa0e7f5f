theorem dX4_keepBetter_0 : decode cX4_keepBetter 0 = .ok (.iload_n 1, 1) := by decide +kernel
theorem dX4_keepBetter_1 : decode cX4_keepBetter 1 = .ok (.aload_n 0, 1) := by decide +kernel
theorem dX4_keepBetter_2 : decode cX4_keepBetter 2 = .ok (.getfield 19, 3) := by decide +kernel
theorem dX4_keepBetter_24 : decode cX4_keepBetter 24 = .ok (.aload_n 0, 1) := by decide +kernel
theorem dX4_keepBetter_25 : decode cX4_keepBetter 25 = .ok (.iload_n 1, 1) := by decide +kernel
theorem dX4_keepBetter_26 : decode cX4_keepBetter 26 = .ok (.putfield 19, 3) := by decide +kernel
theorem dX4_keepBetter_29 : decode cX4_keepBetter 29 = .ok (.aload_n 0, 1) := by decide +kernel
theorem dX4_keepBetter_30 : decode cX4_keepBetter 30 = .ok (.getfield 30, 3) := by decide +kernel
theorem dX4_keepBetter_33 : decode cX4_keepBetter 33 = .ok (.iconst 0, 1) := by decide +kernel
theorem dX4_keepBetter_34 : decode cX4_keepBetter 34 = .ok (.aload_n 0, 1) := by decide +kernel
theorem dX4_keepBetter_35 : decode cX4_keepBetter 35 = .ok (.getfield 15, 3) := by decide +kernel
theorem dX4_keepBetter_38 : decode cX4_keepBetter 38 = .ok (.iconst 0, 1) := by decide +kernel
theorem dX4_keepBetter_39 : decode cX4_keepBetter 39 = .ok (.iload_n 1, 1) := by decide +kernel
theorem dX4_keepBetter_40 : decode cX4_keepBetter 40 = .ok (.invokestatic 65, 3) := by decide +kernel
theorem dX4_keepBetter_43 : decode cX4_keepBetter 43 = .ok (.return_, 1) := by decide +kernel
theorem dX4_keepBetter_5 : decode cX4_keepBetter 5 = .ok (.if_icmp .lt 19, 3) := by decide +kernel

set_option maxHeartbeats 4000000 in
set_option maxRecDepth 100000 in
theorem n_keepBetter (l : Launch) (D : va_G) (dA : Nat → ClassId) (b : Nat) (M : zM) (n : Int) (r_n : R32 n) (g0 : M 86 2 = 41) (p0 : n = 0) : Met l yX4_keepBetter (.code yX4_keepBetter cX4_keepBetter 2 none :: zt) (z_rm 1) (va_Pc [.ref (b + 86), .int (iI n)] (zP D dA vwCl (z_tys dA) wC nC b M)) (va_Qv (zQv wC (zms wC [2434, 2559]) M (fun M1 => (True) ∧ M1 86 2 = 0)) (zB D dA vwCl wC nC b) (zA nC b)) 0 0 (zA nC b) := by
  refine Met.ofW (cc := cX4_keepBetter) (maxL := 2) (ret := none) (by decide) rfl ?_
  intro p e s m args below meth c s₁ B hml hv
  obtain ⟨hargs, hR0, hJ, hK⟩ := hv
  have hx := B.exec
  have hb := B.bytes
  have hr := B.returns
  have hts := atoms_spec (ws := .code yX4_keepBetter cX4_keepBetter 2 none :: zt) B.pre
  have hown : s.vm.findClass RX4 = some m.cls := findClass_of_methodNamed B.named
  have hlocks := B.notSynchronized
  have hS : zS D dA vwCl wC nC b (zms wC [2434, 2559]) M M s.heap := ⟨hR0, hJ, zF_rf _ _⟩
  have hS0 : va_S (zA nC b) s.heap s.heap [] := va_S.rf
  have hl := lv_entry ([.ref (b + 86), .int (iI n)]) (n := 2) (Nat.le_of_ble_eq_true rfl)
  have hent : entryFrame m args 2 = F0 m 0 ((lg_sl ([.ref (b + 86), .int (iI n)]) ++ List.replicate (2 - (lg_sl ([.ref (b + 86), .int (iI n)])).length) Slot.unset).toArray) [] := by rw [hargs]; exact lg_entry_eq m ([.ref (b + 86), .int (iI n)]) 2
  rw [hent]
  generalize (lg_sl ([.ref (b + 86), .int (iI n)]) ++ List.replicate (2 - (lg_sl ([.ref (b + 86), .int (iI n)])).length) Slot.unset).toArray = ls at hl ⊢
  have hl : lv_has ls 2 [(0, .ref (b + 86)), (1, .int (iI n))] := hl
  refine lv_iload_n hx hb dX4_keepBetter_0 rfl (lv_at hl 1 rfl) ?_
  refine lv_aload_n hx hb dX4_keepBetter_1 rfl (lv_at hl 0 rfl) ?_
  refine z_geti hx hb hts (z_memU u4) hown hK.1 hS f4_2 (by decide) (zkd_of (rfl : zcd wC 86 = 38) rfl) (Or.inl (hts _ (z_mem k214))) dX4_keepBetter_2 ?_
  refine z_top (show M 86 2 = 41 from by rw [g0]) ?_
  refine z_icmp_lt (tgt := 24) hx hb r_n (by decide) dX4_keepBetter_5 (by decide) (fun c1 => ?_) (fun c1 => absurd c1 (by omega))
  refine lv_aload_n hx hb dX4_keepBetter_24 rfl (lv_at hl 0 rfl) ?_
  refine lv_iload_n hx hb dX4_keepBetter_25 rfl (lv_at hl 1 rfl) ?_
  refine z_puti hx hb hts (z_memU u4) tyX4 tyX4_ok nmX4 hown hK.1 hS hS0 f4_2 (by decide) (zkd_of (rfl : zcd wC 86 = 38) rfl) (Or.inl (hts _ (z_mem k214))) rfl (z := n) (by decide +kernel) (zbd_in (rfl : zcd wC 86 = 38) rfl r_n) (zms_of (rfl : zcd wC 86 = 38) rfl) dX4_keepBetter_26 (fun H locs hS hS0 => ?_)
  obtain ⟨M2, e3⟩ : ∃ M2 : zM, M2 = zup M 86 2 n := ⟨_, rfl⟩
  rw [← e3] at hS
  have J4 := hS.2.1
  refine lv_aload_n hx hb dX4_keepBetter_29 rfl (lv_at hl 0 rfl) ?_
  refine z_getr (j2 := 95) hx hb hts (z_memU u4) hown hK.1 hS f4_5 (by decide) (zkd_of (rfl : zcd wC 86 = 38) rfl) (zrf_of (rfl : zcd wC 86 = 38) rfl) (Or.inl (hts _ (z_mem k217))) dX4_keepBetter_30 ?_
  refine z_iconst hx hb dX4_keepBetter_33 ?_
  refine lv_aload_n hx hb dX4_keepBetter_34 rfl (lv_at hl 0 rfl) ?_
  refine z_getr (j2 := 87) hx hb hts (z_memU u4) hown hK.1 hS f4_1 (by decide) (zkd_of (rfl : zcd wC 86 = 38) rfl) (zrf_of (rfl : zcd wC 86 = 38) rfl) (Or.inl (hts _ (z_mem k212))) dX4_keepBetter_35 ?_
  refine z_iconst hx hb dX4_keepBetter_38 ?_
  refine lv_iload_n hx hb dX4_keepBetter_39 rfl (lv_at hl 1 rfl) ?_
  refine z_acopy (n0 := 40) (n1 := 40) hx hb (hml.trans hl.1.symm) hown (hts _ (z_mem k826)) (hts _ (z_mem k366)) (hts _ (z_mem k365)) (hts _ (z_mem k16)) hK.1 (t0 := 0) rfl hS hS0 (by decide) (by decide) (by decide) (zkd_of (rfl : zcd wC 95 = 43) rfl) (zkd_of (rfl : zcd wC 87 = 39) rfl) (zln_of (rfl : zcd wC 95 = 43) rfl) (zln_of (rfl : zcd wC 87 = 39) rfl) (by decide) (by decide) (by decide) (by decide) (by omega) (by omega) (by omega) (fun k hk => zbd_in (lo := 0) (hi := 9) (rfl : zcd wC 87 = 39) rfl (zwk (zJ_at (lo := 0) (hi := 9) J4 (rfl : zcd wC 95 = 43) rfl) (by decide) (by decide))) (fun k => zms_of (rfl : zcd wC 87 = 39) rfl) (by exact Nat.le_of_ble_eq_true rfl) (by exact Nat.le_of_ble_eq_true rfl) dX4_keepBetter_40 (fun H locs hS hS0 => ?_)
  obtain ⟨M5, e6⟩ : ∃ M5 : zM, M5 = zcp M2 95 87 (0 : Int).toNat (0 : Int).toNat (n : Int).toNat := ⟨_, rfl⟩
  rw [← e6] at hS
  have J7 := hS.2.1
  have F8 : zF (zms wC [2559]) M2 M5 := by rw [e6]; exact zcp_F (rfl : zcd wC 87 = 39) (fun _ => rfl)
  exact z_vret hx hb hr hlocks hS hS0 (⟨by first | exact trivial | exact ⟨rfl, trivial⟩ | omega | (refine ⟨by omega, trivial⟩), by rw [F8 _ _ (zms_not (rfl : zcd wC 86 = 38) rfl), e3, zup_s] <;> omega⟩) dX4_keepBetter_43
