def mT_C60 (T : zT) : zT := (tup (tup (tup (tup (fun a c => if a = 69 ∧ c < 5 then some (69 + 1 + c) else (tup (fun a c => if a = 64 ∧ c < 4 then some (64 + 1 + c) else (tup (tup (tup T 60 0 61) 60 1 62) 60 3 63) a c) 60 4 64) a c) 60 5 69) 60 6 75) 60 7 76) 60 8 77)
def mM_C60 (M : zM) : zM := (zup M 60 2 0)
set_option maxHeartbeats 4000000 in
set_option maxRecDepth 100000 in
theorem mk_C60 (l : Launch) (D : va_G) (dA : Nat → ClassId) (b : Nat) (M : zM) (T : zT) : Met l yX5_init (.code yX5_init cX5_init 1 none :: zt) (y_rm 1 17 1643) (va_Pc [.ref (b + 60)] (yP D dA vwCl (z_tys dA) wC 61 b M T)) (va_Qv (fun _ => True) (yB D dA vwCl wC 78 b (mM_C60 M) (mT_C60 T)) (yA b)) 17 1643 (yA b) := by
  refine Met.ofW (cc := cX5_init) (maxL := 1) (ret := none) (by decide) rfl ?_
  intro p e s m args below meth c s₁ B hml hv
  obtain ⟨hargs, hY, hK, hO⟩ := hv
  have hx := B.exec
  have hb := B.bytes
  have hr := B.returns
  have hts := atoms_spec (ws := .code yX5_init cX5_init 1 none :: zt) B.pre
  have hown : s.vm.findClass RX5 = some m.cls := findClass_of_methodNamed B.named
  have hlocks := B.notSynchronized
  have hin : meth.name = "<init>" := (name_of_methodNamed B.named B.method).1
  have hS0 : va_S (yA b) s.heap s.heap [] := va_S.rf
  have hl := lv_entry ([.ref (b + 60)]) (n := 1) (Nat.le_of_ble_eq_true rfl)
  have hent : entryFrame m args 1 = F0 m 0 ((lg_sl ([.ref (b + 60)]) ++ List.replicate (1 - (lg_sl ([.ref (b + 60)])).length) Slot.unset).toArray) [] := by rw [hargs]; exact lg_entry_eq m ([.ref (b + 60)]) 1
  rw [hent]
  generalize (lg_sl ([.ref (b + 60)]) ++ List.replicate (1 - (lg_sl ([.ref (b + 60)])).length) Slot.unset).toArray = ls at hl ⊢
  have hl : lv_has ls 1 [(0, .ref (b + 60))] := hl
  refine lv_aload_n hx hb dX5_init_0 rfl (lv_at hl 0 rfl) ?_
  refine W.objInit hx hb hown (hts _ (z_mem k141)) (hts _ (z_mem k28)) (hts _ (z_mem k29)) rfl (by rw [hml]; exact hl.1) rfl dX5_init_1 (Nat.le_of_ble_eq_true rfl) (Nat.le_of_ble_eq_true rfl) ?_
  refine W.eq (g2 := F0 m 4 ls []) rfl ?_
  refine lv_aload_n hx hb dX5_init_4 rfl (lv_at hl 0 rfl) ?_
  refine z_bipush hx hb (by decide) dX5_init_5 ?_
  refine y_newa (atype := .int) hx hb (hts _ (z_mem k53)) (t0 := 0) (N := 6) (by decide) (by decide) (hK.1.2 0 _ rfl).2 rfl hY hS0 (zkd_of (rfl : zcd wC 61 = 20) rfl) (zln_of (rfl : zcd wC 61 = 20) rfl) (by decide) rfl (by decide) (by decide) (Nat.le_of_ble_eq_true rfl) (Nat.le_of_ble_eq_true rfl) dX5_init_7 (fun H hY hS0 => ?_)
  have hY : yS D dA vwCl wC 62 b _ _ H := hY
  refine y_putrF (t := 61) hx hb hts (z_memU u5) tyX5 tyX5_ok nmX5 hown hK.1 hY hS0 f5_0 (by decide) (zkd_of (rfl : zcd wC 60 = 19) rfl) (hts _ (z_mem k143)) rfl hin rfl (tyX5_ok 0 (by decide)) (fun _ => rfl) (fun _ => rfl) dX5_init_9 (fun H locs hY hS0 => ?_)
  refine lv_aload_n hx hb dX5_init_12 rfl (lv_at hl 0 rfl) ?_
  refine z_bipush hx hb (by decide) dX5_init_13 ?_
  refine y_newa (atype := .int) hx hb (hts _ (z_mem k53)) (t0 := 0) (N := 6) (by decide) (by decide) (hK.1.2 0 _ rfl).2 rfl hY hS0 (zkd_of (rfl : zcd wC 62 = 21) rfl) (zln_of (rfl : zcd wC 62 = 21) rfl) (by decide) rfl (by decide) (by decide) (Nat.le_of_ble_eq_true rfl) (Nat.le_of_ble_eq_true rfl) dX5_init_15 (fun H hY hS0 => ?_)
  have hY : yS D dA vwCl wC 63 b _ _ H := hY
  refine y_putrF (t := 62) hx hb hts (z_memU u5) tyX5 tyX5_ok nmX5 hown hK.1 hY hS0 f5_1 (by decide) (zkd_of (rfl : zcd wC 60 = 19) rfl) (hts _ (z_mem k144)) rfl hin rfl (tyX5_ok 1 (by decide)) (fun _ => rfl) (fun _ => rfl) dX5_init_17 (fun H locs hY hS0 => ?_)
  refine lv_aload_n hx hb dX5_init_20 rfl (lv_at hl 0 rfl) ?_
  refine z_iconst hx hb dX5_init_21 ?_
  refine y_puti (z := 0) hx hb hts (z_memU u5) tyX5 tyX5_ok nmX5 hown hK.1 hY hS0 f5_2 (by decide) (zkd_of (rfl : zcd wC 60 = 19) rfl) (Or.inl (hts _ (z_mem k145))) rfl (by decide +kernel) (zbd_in (rfl : zcd wC 60 = 19) rfl (by decide)) dX5_init_22 (fun H locs hY hS0 => ?_)
  refine lv_aload_n hx hb dX5_init_25 rfl (lv_at hl 0 rfl) ?_
  refine z_bipush hx hb (by decide) dX5_init_26 ?_
  refine y_newa (atype := .int) hx hb (hts _ (z_mem k53)) (t0 := 0) (N := 8) (by decide) (by decide) (hK.1.2 0 _ rfl).2 rfl hY hS0 (zkd_of (rfl : zcd wC 63 = 22) rfl) (zln_of (rfl : zcd wC 63 = 22) rfl) (by decide) rfl (by decide) (by decide) (Nat.le_of_ble_eq_true rfl) (Nat.le_of_ble_eq_true rfl) dX5_init_28 (fun H hY hS0 => ?_)
  have hY : yS D dA vwCl wC 64 b _ _ H := hY
  refine y_putrF (t := 63) hx hb hts (z_memU u5) tyX5 tyX5_ok nmX5 hown hK.1 hY hS0 f5_3 (by decide) (zkd_of (rfl : zcd wC 60 = 19) rfl) (hts _ (z_mem k147)) rfl hin rfl (tyX5_ok 3 (by decide)) (fun _ => rfl) (fun _ => rfl) dX5_init_30 (fun H locs hY hS0 => ?_)
  refine lv_aload_n hx hb dX5_init_33 rfl (lv_at hl 0 rfl) ?_
  refine z_iconst hx hb dX5_init_34 ?_
  refine z_sipush hx hb (by decide) dX5_init_35 ?_
  refine y_mna (N := 4) (K := 300) hx hb hown (hts _ (z_mem k142)) hO.2.2.2 (hts _ (z_mem k53)) (hK.1.2 0 _ rfl).2 (hK.1.2 7 _ rfl).2 hY hS0 (zkd_of (rfl : zcd wC 64 = 23) rfl) (zln_of (rfl : zcd wC 64 = 23) rfl) (by decide +kernel) (by decide) (by decide) rfl rfl (by decide) (by decide) (by decide) (by decide) (by decide) (Nat.le_of_ble_eq_true rfl) (Nat.le_of_ble_eq_true rfl) dX5_init_38 (fun H hY hS0 => ?_)
  have hY : yS D dA vwCl wC 69 b _ _ H := hY
  refine y_putrF (t := 64) hx hb hts (z_memU u5) tyX5 tyX5_ok nmX5 hown hK.1 hY hS0 f5_4 (by decide) (zkd_of (rfl : zcd wC 60 = 19) rfl) (hts _ (z_mem k149)) rfl hin rfl (tyX5_ok 4 (by decide)) (fun _ => rfl) (fun _ => rfl) dX5_init_42 (fun H locs hY hS0 => ?_)
  refine lv_aload_n hx hb dX5_init_45 rfl (lv_at hl 0 rfl) ?_
  refine z_iconst hx hb dX5_init_46 ?_
  refine z_bipush hx hb (by decide) dX5_init_47 ?_
  refine y_mna (N := 5) (K := 64) hx hb hown (hts _ (z_mem k142)) hO.2.2.2 (hts _ (z_mem k53)) (hK.1.2 0 _ rfl).2 (hK.1.2 7 _ rfl).2 hY hS0 (zkd_of (rfl : zcd wC 69 = 25) rfl) (zln_of (rfl : zcd wC 69 = 25) rfl) (by decide +kernel) (by decide) (by decide) rfl rfl (by decide) (by decide) (by decide) (by decide) (by decide) (Nat.le_of_ble_eq_true rfl) (Nat.le_of_ble_eq_true rfl) dX5_init_49 (fun H hY hS0 => ?_)
  have hY : yS D dA vwCl wC 75 b _ _ H := hY
  refine y_putrF (t := 69) hx hb hts (z_memU u5) tyX5 tyX5_ok nmX5 hown hK.1 hY hS0 f5_5 (by decide) (zkd_of (rfl : zcd wC 60 = 19) rfl) (hts _ (z_mem k150)) rfl hin rfl (tyX5_ok 5 (by decide)) (fun _ => rfl) (fun _ => rfl) dX5_init_53 (fun H locs hY hS0 => ?_)
  refine lv_aload_n hx hb dX5_init_56 rfl (lv_at hl 0 rfl) ?_
  refine z_bipush hx hb (by decide) dX5_init_57 ?_
  refine y_newa (atype := .int) hx hb (hts _ (z_mem k53)) (t0 := 0) (N := 64) (by decide) (by decide) (hK.1.2 0 _ rfl).2 rfl hY hS0 (zkd_of (rfl : zcd wC 75 = 27) rfl) (zln_of (rfl : zcd wC 75 = 27) rfl) (by decide) rfl (by decide) (by decide) (Nat.le_of_ble_eq_true rfl) (Nat.le_of_ble_eq_true rfl) dX5_init_59 (fun H hY hS0 => ?_)
  have hY : yS D dA vwCl wC 76 b _ _ H := hY
  refine y_putrF (t := 75) hx hb hts (z_memU u5) tyX5 tyX5_ok nmX5 hown hK.1 hY hS0 f5_6 (by decide) (zkd_of (rfl : zcd wC 60 = 19) rfl) (hts _ (z_mem k151)) rfl hin rfl (tyX5_ok 6 (by decide)) (fun _ => rfl) (fun _ => rfl) dX5_init_61 (fun H locs hY hS0 => ?_)
  refine lv_aload_n hx hb dX5_init_64 rfl (lv_at hl 0 rfl) ?_
  refine z_bipush hx hb (by decide) dX5_init_65 ?_
  refine y_newa (atype := .int) hx hb (hts _ (z_mem k53)) (t0 := 0) (N := 24) (by decide) (by decide) (hK.1.2 0 _ rfl).2 rfl hY hS0 (zkd_of (rfl : zcd wC 76 = 28) rfl) (zln_of (rfl : zcd wC 76 = 28) rfl) (by decide) rfl (by decide) (by decide) (Nat.le_of_ble_eq_true rfl) (Nat.le_of_ble_eq_true rfl) dX5_init_67 (fun H hY hS0 => ?_)
  have hY : yS D dA vwCl wC 77 b _ _ H := hY
  refine y_putrF (t := 76) hx hb hts (z_memU u5) tyX5 tyX5_ok nmX5 hown hK.1 hY hS0 f5_7 (by decide) (zkd_of (rfl : zcd wC 60 = 19) rfl) (hts _ (z_mem k152)) rfl hin rfl (tyX5_ok 7 (by decide)) (fun _ => rfl) (fun _ => rfl) dX5_init_69 (fun H locs hY hS0 => ?_)
  refine lv_aload_n hx hb dX5_init_72 rfl (lv_at hl 0 rfl) ?_
  refine z_bipush hx hb (by decide) dX5_init_73 ?_
  refine y_newa (atype := .int) hx hb (hts _ (z_mem k53)) (t0 := 0) (N := 6) (by decide) (by decide) (hK.1.2 0 _ rfl).2 rfl hY hS0 (zkd_of (rfl : zcd wC 77 = 29) rfl) (zln_of (rfl : zcd wC 77 = 29) rfl) (by decide) rfl (by decide) (by decide) (Nat.le_of_ble_eq_true rfl) (Nat.le_of_ble_eq_true rfl) dX5_init_75 (fun H hY hS0 => ?_)
  have hY : yS D dA vwCl wC 78 b _ _ H := hY
  refine y_putrF (t := 77) hx hb hts (z_memU u5) tyX5 tyX5_ok nmX5 hown hK.1 hY hS0 f5_8 (by decide) (zkd_of (rfl : zcd wC 60 = 19) rfl) (hts _ (z_mem k153)) rfl hin rfl (tyX5_ok 8 (by decide)) (fun _ => rfl) (fun _ => rfl) dX5_init_77 (fun H locs hY hS0 => ?_)
  exact y_ret hx hb hr hlocks hY hS0 dX5_init_80
