def mT_C86 (T : zT) : zT := (tup (tup (tup (fun a c => if a = 88 ∧ c < 5 then some (88 + 1 + c) else (tup T 86 1 87) a c) 86 3 88) 86 4 94) 86 5 95)
def mM_C86 (M : zM) : zM := (zup (zup M 86 0 0) 86 2 0)
set_option maxHeartbeats 4000000 in
set_option maxRecDepth 100000 in
theorem mk_C86 (l : Launch) (D : va_G) (dA : Nat → ClassId) (b : Nat) (M : zM) (T : zT) : Met l yX4_init (.code yX4_init cX4_init 1 none :: zt) (y_rm 1 9 130) (va_Pc [.ref (b + 86)] (yP D dA vwCl (z_tys dA) wC 87 b M T)) (va_Qv (fun _ => True) (yB D dA vwCl wC 96 b (mM_C86 M) (mT_C86 T)) (yA b)) 9 130 (yA b) := by
  refine Met.ofW (cc := cX4_init) (maxL := 1) (ret := none) (by decide) rfl ?_
  intro p e s m args below meth c s₁ B hml hv
  obtain ⟨hargs, hY, hK, hO⟩ := hv
  have hx := B.exec
  have hb := B.bytes
  have hr := B.returns
  have hts := atoms_spec (ws := .code yX4_init cX4_init 1 none :: zt) B.pre
  have hown : s.vm.findClass RX4 = some m.cls := findClass_of_methodNamed B.named
  have hlocks := B.notSynchronized
  have hin : meth.name = "<init>" := (name_of_methodNamed B.named B.method).1
  have hS0 : va_S (yA b) s.heap s.heap [] := va_S.rf
  have hl := lv_entry ([.ref (b + 86)]) (n := 1) (Nat.le_of_ble_eq_true rfl)
  have hent : entryFrame m args 1 = F0 m 0 ((lg_sl ([.ref (b + 86)]) ++ List.replicate (1 - (lg_sl ([.ref (b + 86)])).length) Slot.unset).toArray) [] := by rw [hargs]; exact lg_entry_eq m ([.ref (b + 86)]) 1
  rw [hent]
  generalize (lg_sl ([.ref (b + 86)]) ++ List.replicate (1 - (lg_sl ([.ref (b + 86)])).length) Slot.unset).toArray = ls at hl ⊢
  have hl : lv_has ls 1 [(0, .ref (b + 86))] := hl
  refine lv_aload_n hx hb dX4_init_0 rfl (lv_at hl 0 rfl) ?_
  refine W.objInit hx hb hown (hts _ (z_mem k208)) (hts _ (z_mem k28)) (hts _ (z_mem k29)) rfl (by rw [hml]; exact hl.1) rfl dX4_init_1 (Nat.le_of_ble_eq_true rfl) (Nat.le_of_ble_eq_true rfl) ?_
  refine W.eq (g2 := F0 m 4 ls []) rfl ?_
  refine lv_aload_n hx hb dX4_init_4 rfl (lv_at hl 0 rfl) ?_
  refine z_iconst hx hb dX4_init_5 ?_
  refine y_puti (z := 0) hx hb hts (z_memU u4) tyX4 tyX4_ok nmX4 hown hK.1 hY hS0 f4_0 (by decide) (zkd_of (rfl : zcd wC 86 = 38) rfl) (Or.inl (hts _ (z_mem k210))) rfl (by decide +kernel) (zbd_in (rfl : zcd wC 86 = 38) rfl (by decide)) dX4_init_6 (fun H locs hY hS0 => ?_)
  refine lv_aload_n hx hb dX4_init_9 rfl (lv_at hl 0 rfl) ?_
  refine z_bipush hx hb (by decide) dX4_init_10 ?_
  refine y_newa (atype := .int) hx hb (hts _ (z_mem k53)) (t0 := 0) (N := 40) (by decide) (by decide) (hK.1.2 0 _ rfl).2 rfl hY hS0 (zkd_of (rfl : zcd wC 87 = 39) rfl) (zln_of (rfl : zcd wC 87 = 39) rfl) (by decide) rfl (by decide) (by decide) (Nat.le_of_ble_eq_true rfl) (Nat.le_of_ble_eq_true rfl) dX4_init_12 (fun H hY hS0 => ?_)
  have hY : yS D dA vwCl wC 88 b _ _ H := hY
  refine y_putrF (t := 87) hx hb hts (z_memU u4) tyX4 tyX4_ok nmX4 hown hK.1 hY hS0 f4_1 (by decide) (zkd_of (rfl : zcd wC 86 = 38) rfl) (hts _ (z_mem k212)) rfl hin rfl (tyX4_ok 1 (by decide)) (fun _ => rfl) (fun _ => rfl) dX4_init_14 (fun H locs hY hS0 => ?_)
  refine lv_aload_n hx hb dX4_init_17 rfl (lv_at hl 0 rfl) ?_
  refine z_iconst hx hb dX4_init_18 ?_
  refine y_puti (z := 0) hx hb hts (z_memU u4) tyX4 tyX4_ok nmX4 hown hK.1 hY hS0 f4_2 (by decide) (zkd_of (rfl : zcd wC 86 = 38) rfl) (Or.inl (hts _ (z_mem k214))) rfl (by decide +kernel) (zbd_in (rfl : zcd wC 86 = 38) rfl (by decide)) dX4_init_19 (fun H locs hY hS0 => ?_)
  refine lv_aload_n hx hb dX4_init_22 rfl (lv_at hl 0 rfl) ?_
  refine z_iconst hx hb dX4_init_23 ?_
  refine z_bipush hx hb (by decide) dX4_init_24 ?_
  refine y_mna (N := 5) (K := 8) hx hb hown (hts _ (z_mem k209)) hO.2.2.2 (hts _ (z_mem k53)) (hK.1.2 0 _ rfl).2 (hK.1.2 7 _ rfl).2 hY hS0 (zkd_of (rfl : zcd wC 88 = 40) rfl) (zln_of (rfl : zcd wC 88 = 40) rfl) (by decide +kernel) (by decide) (by decide) rfl rfl (by decide) (by decide) (by decide) (by decide) (by decide) (Nat.le_of_ble_eq_true rfl) (Nat.le_of_ble_eq_true rfl) dX4_init_26 (fun H hY hS0 => ?_)
  have hY : yS D dA vwCl wC 94 b _ _ H := hY
  refine y_putrF (t := 88) hx hb hts (z_memU u4) tyX4 tyX4_ok nmX4 hown hK.1 hY hS0 f4_3 (by decide) (zkd_of (rfl : zcd wC 86 = 38) rfl) (hts _ (z_mem k215)) rfl hin rfl (tyX4_ok 3 (by decide)) (fun _ => rfl) (fun _ => rfl) dX4_init_30 (fun H locs hY hS0 => ?_)
  refine lv_aload_n hx hb dX4_init_33 rfl (lv_at hl 0 rfl) ?_
  refine z_iconst hx hb dX4_init_34 ?_
  refine y_newa (atype := .int) hx hb (hts _ (z_mem k53)) (t0 := 0) (N := 5) (by decide) (by decide) (hK.1.2 0 _ rfl).2 rfl hY hS0 (zkd_of (rfl : zcd wC 94 = 42) rfl) (zln_of (rfl : zcd wC 94 = 42) rfl) (by decide) rfl (by decide) (by decide) (Nat.le_of_ble_eq_true rfl) (Nat.le_of_ble_eq_true rfl) dX4_init_35 (fun H hY hS0 => ?_)
  have hY : yS D dA vwCl wC 95 b _ _ H := hY
  refine y_putrF (t := 94) hx hb hts (z_memU u4) tyX4 tyX4_ok nmX4 hown hK.1 hY hS0 f4_4 (by decide) (zkd_of (rfl : zcd wC 86 = 38) rfl) (hts _ (z_mem k216)) rfl hin rfl (tyX4_ok 4 (by decide)) (fun _ => rfl) (fun _ => rfl) dX4_init_37 (fun H locs hY hS0 => ?_)
  refine lv_aload_n hx hb dX4_init_40 rfl (lv_at hl 0 rfl) ?_
  refine z_bipush hx hb (by decide) dX4_init_41 ?_
  refine y_newa (atype := .int) hx hb (hts _ (z_mem k53)) (t0 := 0) (N := 40) (by decide) (by decide) (hK.1.2 0 _ rfl).2 rfl hY hS0 (zkd_of (rfl : zcd wC 95 = 43) rfl) (zln_of (rfl : zcd wC 95 = 43) rfl) (by decide) rfl (by decide) (by decide) (Nat.le_of_ble_eq_true rfl) (Nat.le_of_ble_eq_true rfl) dX4_init_43 (fun H hY hS0 => ?_)
  have hY : yS D dA vwCl wC 96 b _ _ H := hY
  refine y_putrF (t := 95) hx hb hts (z_memU u4) tyX4 tyX4_ok nmX4 hown hK.1 hY hS0 f4_5 (by decide) (zkd_of (rfl : zcd wC 86 = 38) rfl) (hts _ (z_mem k217)) rfl hin rfl (tyX4_ok 5 (by decide)) (fun _ => rfl) (fun _ => rfl) dX4_init_45 (fun H locs hY hS0 => ?_)
  exact y_ret hx hb hr hlocks hY hS0 dX4_init_48
