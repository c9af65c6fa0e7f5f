def mT_C38 (T : zT) : zT := (tup (tup T 38 0 39) 38 1 40)
def mM_C38 (M : zM) : zM := (zup M 38 2 0)
set_option maxHeartbeats 4000000 in
set_option maxRecDepth 100000 in
theorem mk_C38 (l : Launch) (D : va_G) (dA : Nat → ClassId) (b : Nat) (M : zM) (T : zT) : Met l yX2_init (.code yX2_init cX2_init 1 none :: zt) (y_rm 1 2 24) (va_Pc [.ref (b + 38)] (yP D dA vwCl (z_tys dA) wC 39 b M T)) (va_Qv (fun _ => True) (yB D dA vwCl wC 41 b (mM_C38 M) (mT_C38 T)) (yA b)) 2 24 (yA b) := by
  refine Met.ofW (cc := cX2_init) (maxL := 1) (ret := none) (by decide) rfl ?_
  intro p e s m args below meth c s₁ B hml hv
  obtain ⟨hargs, hY, hK, hO⟩ := hv
  have hx := B.exec
  have hb := B.bytes
  have hr := B.returns
  have hts := atoms_spec (ws := .code yX2_init cX2_init 1 none :: zt) B.pre
  have hown : s.vm.findClass RX2 = some m.cls := findClass_of_methodNamed B.named
  have hlocks := B.notSynchronized
  have hin : meth.name = "<init>" := (name_of_methodNamed B.named B.method).1
  have hS0 : va_S (yA b) s.heap s.heap [] := va_S.rf
  have hl := lv_entry ([.ref (b + 38)]) (n := 1) (Nat.le_of_ble_eq_true rfl)
  have hent : entryFrame m args 1 = F0 m 0 ((lg_sl ([.ref (b + 38)]) ++ List.replicate (1 - (lg_sl ([.ref (b + 38)])).length) Slot.unset).toArray) [] := by rw [hargs]; exact lg_entry_eq m ([.ref (b + 38)]) 1
  rw [hent]
  generalize (lg_sl ([.ref (b + 38)]) ++ List.replicate (1 - (lg_sl ([.ref (b + 38)])).length) Slot.unset).toArray = ls at hl ⊢
  have hl : lv_has ls 1 [(0, .ref (b + 38))] := hl
  refine lv_aload_n hx hb dX2_init_0 rfl (lv_at hl 0 rfl) ?_
  refine W.objInit hx hb hown (hts _ (z_mem k81)) (hts _ (z_mem k28)) (hts _ (z_mem k29)) rfl (by rw [hml]; exact hl.1) rfl dX2_init_1 (Nat.le_of_ble_eq_true rfl) (Nat.le_of_ble_eq_true rfl) ?_
  refine W.eq (g2 := F0 m 4 ls []) rfl ?_
  refine lv_aload_n hx hb dX2_init_4 rfl (lv_at hl 0 rfl) ?_
  refine z_bipush hx hb (by decide) dX2_init_5 ?_
  refine y_newa (atype := .int) hx hb (hts _ (z_mem k53)) (t0 := 0) (N := 12) (by decide) (by decide) (hK.1.2 0 _ rfl).2 rfl hY hS0 (zkd_of (rfl : zcd wC 39 = 12) rfl) (zln_of (rfl : zcd wC 39 = 12) rfl) (by decide) rfl (by decide) (by decide) (Nat.le_of_ble_eq_true rfl) (Nat.le_of_ble_eq_true rfl) dX2_init_7 (fun H hY hS0 => ?_)
  have hY : yS D dA vwCl wC 40 b _ _ H := hY
  refine y_putrF (t := 39) hx hb hts (z_memU u2) tyX2 tyX2_ok nmX2 hown hK.1 hY hS0 f2_0 (by decide) (zkd_of (rfl : zcd wC 38 = 11) rfl) (hts _ (z_mem k82)) rfl hin rfl (tyX2_ok 0 (by decide)) (fun _ => rfl) (fun _ => rfl) dX2_init_9 (fun H locs hY hS0 => ?_)
  refine lv_aload_n hx hb dX2_init_12 rfl (lv_at hl 0 rfl) ?_
  refine z_bipush hx hb (by decide) dX2_init_13 ?_
  refine y_newa (atype := .int) hx hb (hts _ (z_mem k53)) (t0 := 0) (N := 12) (by decide) (by decide) (hK.1.2 0 _ rfl).2 rfl hY hS0 (zkd_of (rfl : zcd wC 40 = 13) rfl) (zln_of (rfl : zcd wC 40 = 13) rfl) (by decide) rfl (by decide) (by decide) (Nat.le_of_ble_eq_true rfl) (Nat.le_of_ble_eq_true rfl) dX2_init_15 (fun H hY hS0 => ?_)
  have hY : yS D dA vwCl wC 41 b _ _ H := hY
  refine y_putrF (t := 40) hx hb hts (z_memU u2) tyX2 tyX2_ok nmX2 hown hK.1 hY hS0 f2_1 (by decide) (zkd_of (rfl : zcd wC 38 = 11) rfl) (hts _ (z_mem k83)) rfl hin rfl (tyX2_ok 1 (by decide)) (fun _ => rfl) (fun _ => rfl) dX2_init_17 (fun H locs hY hS0 => ?_)
  refine lv_aload_n hx hb dX2_init_20 rfl (lv_at hl 0 rfl) ?_
  refine z_iconst hx hb dX2_init_21 ?_
  refine y_puti (z := 0) hx hb hts (z_memU u2) tyX2 tyX2_ok nmX2 hown hK.1 hY hS0 f2_2 (by decide) (zkd_of (rfl : zcd wC 38 = 11) rfl) (Or.inl (hts _ (z_mem k84))) rfl (by decide +kernel) (zbd_in (rfl : zcd wC 38 = 11) rfl (by decide)) dX2_init_22 (fun H locs hY hS0 => ?_)
  exact y_ret hx hb hr hlocks hY hS0 dX2_init_25
