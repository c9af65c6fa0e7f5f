theorem dX0_place_0 : decode cX0_place 0 = .ok (.aload_n 0, 1) := by decide +kernel
theorem dX0_place_1 : decode cX0_place 1 = .ok (.iload_n 1, 1) := by decide +kernel
theorem dX0_place_10 : decode cX0_place 10 = .ok (.aload_n 0, 1) := by decide +kernel
theorem dX0_place_11 : decode cX0_place 11 = .ok (.iload_n 3, 1) := by decide +kernel
theorem dX0_place_12 : decode cX0_place 12 = .ok (.putfield 28, 3) := by decide +kernel
theorem dX0_place_15 : decode cX0_place 15 = .ok (.aload_n 0, 1) := by decide +kernel
theorem dX0_place_16 : decode cX0_place 16 = .ok (.iload 4, 2) := by decide +kernel
theorem dX0_place_18 : decode cX0_place 18 = .ok (.putfield 31, 3) := by decide +kernel
theorem dX0_place_2 : decode cX0_place 2 = .ok (.putfield 22, 3) := by decide +kernel
theorem dX0_place_21 : decode cX0_place 21 = .ok (.return_, 1) := by decide +kernel
theorem dX0_place_5 : decode cX0_place 5 = .ok (.aload_n 0, 1) := by decide +kernel
theorem dX0_place_6 : decode cX0_place 6 = .ok (.iload_n 2, 1) := by decide +kernel
theorem dX0_place_7 : decode cX0_place 7 = .ok (.putfield 25, 3) := by decide +kernel

set_option maxHeartbeats 4000000 in
set_option maxRecDepth 100000 in
theorem n_place (l : Launch) (D : va_G) (dA : Nat → ClassId) (b : Nat) (M : zM) (d : Int) (a : Int) (ed : Int) (bg : Int) (r_d : R32 d) (r_a : R32 a) (r_ed : R32 ed) (r_bg : R32 bg) (p0 : 1 ≤ d ∧ d ≤ 20) (p1 : 0 ≤ a ∧ a ≤ 100) (p2 : 1 ≤ ed ∧ ed ≤ 20) (p3 : 0 ≤ bg ∧ bg ≤ 100) : Met l yX0_place (.code yX0_place cX0_place 5 none :: zt) (z_rm 0) (va_Pc [.ref (b + 78), .int (iI d), .int (iI a), .int (iI ed), .int (iI bg)] (zP D dA vwCl (z_tys dA) wC nC b M)) (va_Qv (zQv wC (zms wC [1923, 1924, 1925, 1926]) M (fun M1 => True)) (zB D dA vwCl wC nC b) (zA nC b)) 0 0 (zA nC b) := by
  refine Met.ofW (cc := cX0_place) (maxL := 5) (ret := none) (by decide) rfl ?_
  intro p e s m args below meth c s₁ B hml hv
  obtain ⟨hargs, hR0, hJ, hK⟩ := hv
  have hx := B.exec
  have hb := B.bytes
  have hr := B.returns
  have hts := atoms_spec (ws := .code yX0_place cX0_place 5 none :: zt) B.pre
  have hown : s.vm.findClass RX0 = some m.cls := findClass_of_methodNamed B.named
  have hlocks := B.notSynchronized
  have hS : zS D dA vwCl wC nC b (zms wC [1923, 1924, 1925, 1926]) M M s.heap := ⟨hR0, hJ, zF_rf _ _⟩
  have hS0 : va_S (zA nC b) s.heap s.heap [] := va_S.rf
  have hl := lv_entry ([.ref (b + 78), .int (iI d), .int (iI a), .int (iI ed), .int (iI bg)]) (n := 5) (Nat.le_of_ble_eq_true rfl)
  have hent : entryFrame m args 5 = F0 m 0 ((lg_sl ([.ref (b + 78), .int (iI d), .int (iI a), .int (iI ed), .int (iI bg)]) ++ List.replicate (5 - (lg_sl ([.ref (b + 78), .int (iI d), .int (iI a), .int (iI ed), .int (iI bg)])).length) Slot.unset).toArray) [] := by rw [hargs]; exact lg_entry_eq m ([.ref (b + 78), .int (iI d), .int (iI a), .int (iI ed), .int (iI bg)]) 5
  rw [hent]
  generalize (lg_sl ([.ref (b + 78), .int (iI d), .int (iI a), .int (iI ed), .int (iI bg)]) ++ List.replicate (5 - (lg_sl ([.ref (b + 78), .int (iI d), .int (iI a), .int (iI ed), .int (iI bg)])).length) Slot.unset).toArray = ls at hl ⊢
  have hl : lv_has ls 5 [(0, .ref (b + 78)), (1, .int (iI d)), (2, .int (iI a)), (3, .int (iI ed)), (4, .int (iI bg))] := hl
  refine lv_aload_n hx hb dX0_place_0 rfl (lv_at hl 0 rfl) ?_
  refine lv_iload_n hx hb dX0_place_1 rfl (lv_at hl 1 rfl) ?_
  refine z_puti hx hb hts (z_memU u0) tyX0 tyX0_ok nmX0 hown hK.1 hS hS0 f0_3 (by decide) (zkd_of (rfl : zcd wC 78 = 30) rfl) (Or.inl (hts _ (z_mem k177))) rfl (z := d) (by decide +kernel) (zbd_in (rfl : zcd wC 78 = 30) rfl ⟨by omega, by omega⟩) (zms_of (rfl : zcd wC 78 = 30) rfl) dX0_place_2 (fun H locs hS hS0 => ?_)
  obtain ⟨M1, e2⟩ : ∃ M1 : zM, M1 = zup M 78 3 d := ⟨_, rfl⟩
  rw [← e2] at hS
  have J3 := hS.2.1
  refine lv_aload_n hx hb dX0_place_5 rfl (lv_at hl 0 rfl) ?_
  refine lv_iload_n hx hb dX0_place_6 rfl (lv_at hl 2 rfl) ?_
  refine z_puti hx hb hts (z_memU u0) tyX0 tyX0_ok nmX0 hown hK.1 hS hS0 f0_4 (by decide) (zkd_of (rfl : zcd wC 78 = 30) rfl) (Or.inl (hts _ (z_mem k178))) rfl (z := a) (by decide +kernel) (zbd_in (rfl : zcd wC 78 = 30) rfl ⟨by omega, by omega⟩) (zms_of (rfl : zcd wC 78 = 30) rfl) dX0_place_7 (fun H locs hS hS0 => ?_)
  obtain ⟨M4, e5⟩ : ∃ M4 : zM, M4 = zup M1 78 4 a := ⟨_, rfl⟩
  rw [← e5] at hS
  have J6 := hS.2.1
  refine lv_aload_n hx hb dX0_place_10 rfl (lv_at hl 0 rfl) ?_
  refine lv_iload_n hx hb dX0_place_11 rfl (lv_at hl 3 rfl) ?_
  refine z_puti hx hb hts (z_memU u0) tyX0 tyX0_ok nmX0 hown hK.1 hS hS0 f0_5 (by decide) (zkd_of (rfl : zcd wC 78 = 30) rfl) (Or.inl (hts _ (z_mem k179))) rfl (z := ed) (by decide +kernel) (zbd_in (rfl : zcd wC 78 = 30) rfl ⟨by omega, by omega⟩) (zms_of (rfl : zcd wC 78 = 30) rfl) dX0_place_12 (fun H locs hS hS0 => ?_)
  obtain ⟨M7, e8⟩ : ∃ M7 : zM, M7 = zup M4 78 5 ed := ⟨_, rfl⟩
  rw [← e8] at hS
  have J9 := hS.2.1
  refine lv_aload_n hx hb dX0_place_15 rfl (lv_at hl 0 rfl) ?_
  refine lv_iload hx hb dX0_place_16 (lv_at hl 4 rfl) ?_
  refine z_puti hx hb hts (z_memU u0) tyX0 tyX0_ok nmX0 hown hK.1 hS hS0 f0_6 (by decide) (zkd_of (rfl : zcd wC 78 = 30) rfl) (Or.inl (hts _ (z_mem k180))) rfl (z := bg) (by decide +kernel) (zbd_in (rfl : zcd wC 78 = 30) rfl ⟨by omega, by omega⟩) (zms_of (rfl : zcd wC 78 = 30) rfl) dX0_place_18 (fun H locs hS hS0 => ?_)
  obtain ⟨M10, e11⟩ : ∃ M10 : zM, M10 = zup M7 78 6 bg := ⟨_, rfl⟩
  rw [← e11] at hS
  have J12 := hS.2.1
  exact z_vret hx hb hr hlocks hS hS0 (by first | exact trivial | exact ⟨rfl, trivial⟩ | omega | (refine ⟨by omega, trivial⟩)) dX0_place_21
