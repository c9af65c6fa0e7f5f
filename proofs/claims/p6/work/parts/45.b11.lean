def mT_C78 (T : zT) : zT := (tup (tup (tup T 78 1 79) 78 2 80) 78 7 81)
def mM_C78 (M : zM) : zM := (zfill (zup (zup (zup (zup (zup M 78 0 0) 78 3 1) 78 4 0) 78 5 1) 78 6 0) 80 10 100)
set_option maxHeartbeats 4000000 in
set_option maxRecDepth 100000 in
theorem mk_C78 (l : Launch) (D : va_G) (dA : Nat → ClassId) (b : Nat) (M : zM) (T : zT) : Met l yX0_init (.code yX0_init cX0_init 1 none :: zt) (y_rm 1 3 4013) (va_Pc [.ref (b + 78)] (yP D dA vwCl (z_tys dA) wC 79 b M T)) (va_Qv (fun _ => True) (yB D dA vwCl wC 82 b (mM_C78 M) (mT_C78 T)) (yA b)) 3 4013 (yA b) := by
  refine Met.ofW (cc := cX0_init) (maxL := 1) (ret := none) (by decide) rfl ?_
  intro p e s m args below meth c s₁ B hml hv
  obtain ⟨hargs, hY, hK, hO⟩ := hv
  have hx := B.exec
  have hb := B.bytes
  have hr := B.returns
  have hts := atoms_spec (ws := .code yX0_init cX0_init 1 none :: zt) B.pre
  have hown : s.vm.findClass RX0 = some m.cls := findClass_of_methodNamed B.named
  have hlocks := B.notSynchronized
  have hin : meth.name = "<init>" := (name_of_methodNamed B.named B.method).1
  have hS0 : va_S (yA b) s.heap s.heap [] := va_S.rf
  have hl := lv_entry ([.ref (b + 78)]) (n := 1) (Nat.le_of_ble_eq_true rfl)
  have hent : entryFrame m args 1 = F0 m 0 ((lg_sl ([.ref (b + 78)]) ++ List.replicate (1 - (lg_sl ([.ref (b + 78)])).length) Slot.unset).toArray) [] := by rw [hargs]; exact lg_entry_eq m ([.ref (b + 78)]) 1
  rw [hent]
  generalize (lg_sl ([.ref (b + 78)]) ++ List.replicate (1 - (lg_sl ([.ref (b + 78)])).length) Slot.unset).toArray = ls at hl ⊢
  have hl : lv_has ls 1 [(0, .ref (b + 78))] := hl
  refine lv_aload_n hx hb dX0_init_0 rfl (lv_at hl 0 rfl) ?_
  refine W.objInit hx hb hown (hts _ (z_mem k168)) (hts _ (z_mem k28)) (hts _ (z_mem k29)) rfl (by rw [hml]; exact hl.1) rfl dX0_init_1 (Nat.le_of_ble_eq_true rfl) (Nat.le_of_ble_eq_true rfl) ?_
  refine W.eq (g2 := F0 m 4 ls []) rfl ?_
  refine lv_aload_n hx hb dX0_init_4 rfl (lv_at hl 0 rfl) ?_
  refine z_iconst hx hb dX0_init_5 ?_
  refine y_puti (z := 0) hx hb hts (z_memU u0) tyX0 tyX0_ok nmX0 hown hK.1 hY hS0 f0_0 (by decide) (zkd_of (rfl : zcd wC 78 = 30) rfl) (Or.inl (hts _ (z_mem k172))) rfl (by decide +kernel) (zbd_in (rfl : zcd wC 78 = 30) rfl (by decide)) dX0_init_6 (fun H locs hY hS0 => ?_)
  refine lv_aload_n hx hb dX0_init_9 rfl (lv_at hl 0 rfl) ?_
  refine z_iconst hx hb dX0_init_10 ?_
  refine y_newa (atype := .int) hx hb (hts _ (z_mem k53)) (t0 := 0) (N := 2) (by decide) (by decide) (hK.1.2 0 _ rfl).2 rfl hY hS0 (zkd_of (rfl : zcd wC 79 = 31) rfl) (zln_of (rfl : zcd wC 79 = 31) rfl) (by decide) rfl (by decide) (by decide) (Nat.le_of_ble_eq_true rfl) (Nat.le_of_ble_eq_true rfl) dX0_init_11 (fun H hY hS0 => ?_)
  have hY : yS D dA vwCl wC 80 b _ _ H := hY
  refine y_putrF (t := 79) hx hb hts (z_memU u0) tyX0 tyX0_ok nmX0 hown hK.1 hY hS0 f0_1 (by decide) (zkd_of (rfl : zcd wC 78 = 30) rfl) (hts _ (z_mem k174)) rfl hin rfl (tyX0_ok 1 (by decide)) (fun _ => rfl) (fun _ => rfl) dX0_init_13 (fun H locs hY hS0 => ?_)
  refine lv_aload_n hx hb dX0_init_16 rfl (lv_at hl 0 rfl) ?_
  refine z_bipush hx hb (by decide) dX0_init_17 ?_
  refine y_newa (atype := .int) hx hb (hts _ (z_mem k53)) (t0 := 0) (N := 10) (by decide) (by decide) (hK.1.2 0 _ rfl).2 rfl hY hS0 (zkd_of (rfl : zcd wC 80 = 32) rfl) (zln_of (rfl : zcd wC 80 = 32) rfl) (by decide) rfl (by decide) (by decide) (Nat.le_of_ble_eq_true rfl) (Nat.le_of_ble_eq_true rfl) dX0_init_19 (fun H hY hS0 => ?_)
  have hY : yS D dA vwCl wC 81 b _ _ H := hY
  refine y_putrF (t := 80) hx hb hts (z_memU u0) tyX0 tyX0_ok nmX0 hown hK.1 hY hS0 f0_2 (by decide) (zkd_of (rfl : zcd wC 78 = 30) rfl) (hts _ (z_mem k176)) rfl hin rfl (tyX0_ok 2 (by decide)) (fun _ => rfl) (fun _ => rfl) dX0_init_21 (fun H locs hY hS0 => ?_)
  refine lv_aload_n hx hb dX0_init_24 rfl (lv_at hl 0 rfl) ?_
  refine z_iconst hx hb dX0_init_25 ?_
  refine y_puti (z := 1) hx hb hts (z_memU u0) tyX0 tyX0_ok nmX0 hown hK.1 hY hS0 f0_3 (by decide) (zkd_of (rfl : zcd wC 78 = 30) rfl) (Or.inl (hts _ (z_mem k177))) rfl (by decide +kernel) (zbd_in (rfl : zcd wC 78 = 30) rfl (by decide)) dX0_init_26 (fun H locs hY hS0 => ?_)
  refine lv_aload_n hx hb dX0_init_29 rfl (lv_at hl 0 rfl) ?_
  refine z_iconst hx hb dX0_init_30 ?_
  refine y_puti (z := 0) hx hb hts (z_memU u0) tyX0 tyX0_ok nmX0 hown hK.1 hY hS0 f0_4 (by decide) (zkd_of (rfl : zcd wC 78 = 30) rfl) (Or.inl (hts _ (z_mem k178))) rfl (by decide +kernel) (zbd_in (rfl : zcd wC 78 = 30) rfl (by decide)) dX0_init_31 (fun H locs hY hS0 => ?_)
  refine lv_aload_n hx hb dX0_init_34 rfl (lv_at hl 0 rfl) ?_
  refine z_iconst hx hb dX0_init_35 ?_
  refine y_puti (z := 1) hx hb hts (z_memU u0) tyX0 tyX0_ok nmX0 hown hK.1 hY hS0 f0_5 (by decide) (zkd_of (rfl : zcd wC 78 = 30) rfl) (Or.inl (hts _ (z_mem k179))) rfl (by decide +kernel) (zbd_in (rfl : zcd wC 78 = 30) rfl (by decide)) dX0_init_36 (fun H locs hY hS0 => ?_)
  refine lv_aload_n hx hb dX0_init_39 rfl (lv_at hl 0 rfl) ?_
  refine z_iconst hx hb dX0_init_40 ?_
  refine y_puti (z := 0) hx hb hts (z_memU u0) tyX0 tyX0_ok nmX0 hown hK.1 hY hS0 f0_6 (by decide) (zkd_of (rfl : zcd wC 78 = 30) rfl) (Or.inl (hts _ (z_mem k180))) rfl (by decide +kernel) (zbd_in (rfl : zcd wC 78 = 30) rfl (by decide)) dX0_init_41 (fun H locs hY hS0 => ?_)
  refine lv_aload_n hx hb dX0_init_44 rfl (lv_at hl 0 rfl) ?_
  refine z_sipush hx hb (by decide) dX0_init_45 ?_
  refine y_newa (atype := .int) hx hb (hts _ (z_mem k53)) (t0 := 0) (N := 4001) (by decide) (by decide) (hK.1.2 0 _ rfl).2 rfl hY hS0 (zkd_of (rfl : zcd wC 81 = 33) rfl) (zln_of (rfl : zcd wC 81 = 33) rfl) (by decide) rfl (by decide) (by decide) (Nat.le_of_ble_eq_true rfl) (Nat.le_of_ble_eq_true rfl) dX0_init_48 (fun H hY hS0 => ?_)
  have hY : yS D dA vwCl wC 82 b _ _ H := hY
  refine y_putrF (t := 81) hx hb hts (z_memU u0) tyX0 tyX0_ok nmX0 hown hK.1 hY hS0 f0_7 (by decide) (zkd_of (rfl : zcd wC 78 = 30) rfl) (hts _ (z_mem k181)) rfl hin rfl (tyX0_ok 7 (by decide)) (fun _ => rfl) (fun _ => rfl) dX0_init_50 (fun H locs hY hS0 => ?_)
  refine lv_aload_n hx hb dX0_init_53 rfl (lv_at hl 0 rfl) ?_
  refine y_getr (t := 80) hx hb hts (z_memU u0) hown hK.1 hY f0_2 (by decide) (zkd_of (rfl : zcd wC 78 = 30) rfl) (tup_ne rfl tup_s) (Or.inl (hts _ (z_mem k176))) dX0_init_54 ?_
  refine z_bipush hx hb (by decide) dX0_init_57 ?_
  refine y_call (va_runS (As := [.ref (b + 80), .int (iI 100)]) (rest := []) ⟨hx, hb, hml, hown, hts⟩ (mk_fill l D dA b wC _ _ 82 80 10 100 (by decide) (zkd_of (rfl : zcd wC 80 = 32) rfl) (zln_of (rfl : zcd wC 80 = 32) rfl) (by decide) (by decide) (fun k => zbd_in (rfl : zcd wC 80 = 32) rfl (by decide))) (va_cwS 2 hts (z_gS k169 k170 k10 k171) rfl rfl rfl (by decide +kernel) ⟨(Nat.le_of_ble_eq_true rfl), (Nat.le_of_ble_eq_true rfl)⟩) ⟨yP_blind, y_pre hY hK hO⟩ rfl rfl hl.1 rfl (lv_room (Nat.le_of_ble_eq_true rfl)) dX0_init_59 ⟨(Nat.le_of_ble_eq_true rfl), (Nat.le_of_ble_eq_true rfl)⟩) hS0 (fun H locs hY hS0 => ?_)
  have hY : yS D dA vwCl wC 82 b _ _ H := hY
  exact y_ret hx hb hr hlocks hY hS0 dX0_init_62
