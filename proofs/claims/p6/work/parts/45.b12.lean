def mT_C82 (T : zT) : zT := (tup (tup (tup T 82 0 83) 82 2 84) 82 3 85)
def mM_C82 (M : zM) : zM := (zup M 82 1 0)
set_option maxHeartbeats 4000000 in
set_option maxRecDepth 100000 in
theorem mk_C82 (l : Launch) (D : va_G) (dA : Nat → ClassId) (b : Nat) (M : zM) (T : zT) : Met l yX3_init (.code yX3_init cX3_init 1 none :: zt) (y_rm 1 3 108) (va_Pc [.ref (b + 82)] (yP D dA vwCl (z_tys dA) wC 83 b M T)) (va_Qv (fun _ => True) (yB D dA vwCl wC 86 b (mM_C82 M) (mT_C82 T)) (yA b)) 3 108 (yA b) := by
  refine Met.ofW (cc := cX3_init) (maxL := 1) (ret := none) (by decide) rfl ?_
  intro p e s m args below meth c s₁ B hml hv
  obtain ⟨hargs, hY, hK, hO⟩ := hv
  have hx := B.exec
  have hb := B.bytes
  have hr := B.returns
  have hts := atoms_spec (ws := .code yX3_init cX3_init 1 none :: zt) B.pre
  have hown : s.vm.findClass RX3 = some m.cls := findClass_of_methodNamed B.named
  have hlocks := B.notSynchronized
  have hin : meth.name = "<init>" := (name_of_methodNamed B.named B.method).1
  have hS0 : va_S (yA b) s.heap s.heap [] := va_S.rf
  have hl := lv_entry ([.ref (b + 82)]) (n := 1) (Nat.le_of_ble_eq_true rfl)
  have hent : entryFrame m args 1 = F0 m 0 ((lg_sl ([.ref (b + 82)]) ++ List.replicate (1 - (lg_sl ([.ref (b + 82)])).length) Slot.unset).toArray) [] := by rw [hargs]; exact lg_entry_eq m ([.ref (b + 82)]) 1
  rw [hent]
  generalize (lg_sl ([.ref (b + 82)]) ++ List.replicate (1 - (lg_sl ([.ref (b + 82)])).length) Slot.unset).toArray = ls at hl ⊢
  have hl : lv_has ls 1 [(0, .ref (b + 82))] := hl
  refine lv_aload_n hx hb dX3_init_0 rfl (lv_at hl 0 rfl) ?_
  refine W.objInit hx hb hown (hts _ (z_mem k194)) (hts _ (z_mem k28)) (hts _ (z_mem k29)) rfl (by rw [hml]; exact hl.1) rfl dX3_init_1 (Nat.le_of_ble_eq_true rfl) (Nat.le_of_ble_eq_true rfl) ?_
  refine W.eq (g2 := F0 m 4 ls []) rfl ?_
  refine lv_aload_n hx hb dX3_init_4 rfl (lv_at hl 0 rfl) ?_
  refine z_bipush hx hb (by decide) dX3_init_5 ?_
  refine y_newa (atype := .int) hx hb (hts _ (z_mem k53)) (t0 := 0) (N := 60) (by decide) (by decide) (hK.1.2 0 _ rfl).2 rfl hY hS0 (zkd_of (rfl : zcd wC 83 = 35) rfl) (zln_of (rfl : zcd wC 83 = 35) rfl) (by decide) rfl (by decide) (by decide) (Nat.le_of_ble_eq_true rfl) (Nat.le_of_ble_eq_true rfl) dX3_init_7 (fun H hY hS0 => ?_)
  have hY : yS D dA vwCl wC 84 b _ _ H := hY
  refine y_putrF (t := 83) hx hb hts (z_memU u3) tyX3 tyX3_ok nmX3 hown hK.1 hY hS0 f3_0 (by decide) (zkd_of (rfl : zcd wC 82 = 34) rfl) (hts _ (z_mem k195)) rfl hin rfl (tyX3_ok 0 (by decide)) (fun _ => rfl) (fun _ => rfl) dX3_init_9 (fun H locs hY hS0 => ?_)
  refine lv_aload_n hx hb dX3_init_12 rfl (lv_at hl 0 rfl) ?_
  refine z_iconst hx hb dX3_init_13 ?_
  refine y_puti (z := 0) hx hb hts (z_memU u3) tyX3 tyX3_ok nmX3 hown hK.1 hY hS0 f3_1 (by decide) (zkd_of (rfl : zcd wC 82 = 34) rfl) (Or.inl (hts _ (z_mem k196))) rfl (by decide +kernel) (zbd_in (rfl : zcd wC 82 = 34) rfl (by decide)) dX3_init_14 (fun H locs hY hS0 => ?_)
  refine lv_aload_n hx hb dX3_init_17 rfl (lv_at hl 0 rfl) ?_
  refine z_bipush hx hb (by decide) dX3_init_18 ?_
  refine y_newa (atype := .int) hx hb (hts _ (z_mem k53)) (t0 := 0) (N := 24) (by decide) (by decide) (hK.1.2 0 _ rfl).2 rfl hY hS0 (zkd_of (rfl : zcd wC 84 = 36) rfl) (zln_of (rfl : zcd wC 84 = 36) rfl) (by decide) rfl (by decide) (by decide) (Nat.le_of_ble_eq_true rfl) (Nat.le_of_ble_eq_true rfl) dX3_init_20 (fun H hY hS0 => ?_)
  have hY : yS D dA vwCl wC 85 b _ _ H := hY
  refine y_putrF (t := 84) hx hb hts (z_memU u3) tyX3 tyX3_ok nmX3 hown hK.1 hY hS0 f3_2 (by decide) (zkd_of (rfl : zcd wC 82 = 34) rfl) (hts _ (z_mem k198)) rfl hin rfl (tyX3_ok 2 (by decide)) (fun _ => rfl) (fun _ => rfl) dX3_init_22 (fun H locs hY hS0 => ?_)
  refine lv_aload_n hx hb dX3_init_25 rfl (lv_at hl 0 rfl) ?_
  refine z_bipush hx hb (by decide) dX3_init_26 ?_
  refine y_newa (atype := .int) hx hb (hts _ (z_mem k53)) (t0 := 0) (N := 24) (by decide) (by decide) (hK.1.2 0 _ rfl).2 rfl hY hS0 (zkd_of (rfl : zcd wC 85 = 37) rfl) (zln_of (rfl : zcd wC 85 = 37) rfl) (by decide) rfl (by decide) (by decide) (Nat.le_of_ble_eq_true rfl) (Nat.le_of_ble_eq_true rfl) dX3_init_28 (fun H hY hS0 => ?_)
  have hY : yS D dA vwCl wC 86 b _ _ H := hY
  refine y_putrF (t := 85) hx hb hts (z_memU u3) tyX3 tyX3_ok nmX3 hown hK.1 hY hS0 f3_3 (by decide) (zkd_of (rfl : zcd wC 82 = 34) rfl) (hts _ (z_mem k199)) rfl hin rfl (tyX3_ok 3 (by decide)) (fun _ => rfl) (fun _ => rfl) dX3_init_30 (fun H locs hY hS0 => ?_)
  exact y_ret hx hb hr hlocks hY hS0 dX3_init_33
