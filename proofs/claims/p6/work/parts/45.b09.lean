def mT_C57 (T : zT) : zT := (tup (tup T 57 2 58) 57 3 59)
def mM_C57 (M : zM) : zM := (zup (zup M 57 0 0) 57 1 0)
set_option maxHeartbeats 4000000 in
set_option maxRecDepth 100000 in
theorem mk_C57 (l : Launch) (D : va_G) (dA : Nat → ClassId) (b : Nat) (M : zM) (T : zT) : Met l yX1_init (.code yX1_init cX1_init 1 none :: zt) (y_rm 1 2 8) (va_Pc [.ref (b + 57)] (yP D dA vwCl (z_tys dA) wC 58 b M T)) (va_Qv (fun _ => True) (yB D dA vwCl wC 60 b (mM_C57 M) (mT_C57 T)) (yA b)) 2 8 (yA b) := by
  refine Met.ofW (cc := cX1_init) (maxL := 1) (ret := none) (by decide) rfl ?_
  intro p e s m args below meth c s₁ B hml hv
  obtain ⟨hargs, hY, hK, hO⟩ := hv
  have hx := B.exec
  have hb := B.bytes
  have hr := B.returns
  have hts := atoms_spec (ws := .code yX1_init cX1_init 1 none :: zt) B.pre
  have hown : s.vm.findClass RX1 = some m.cls := findClass_of_methodNamed B.named
  have hlocks := B.notSynchronized
  have hin : meth.name = "<init>" := (name_of_methodNamed B.named B.method).1
  have hS0 : va_S (yA b) s.heap s.heap [] := va_S.rf
  have hl := lv_entry ([.ref (b + 57)]) (n := 1) (Nat.le_of_ble_eq_true rfl)
  have hent : entryFrame m args 1 = F0 m 0 ((lg_sl ([.ref (b + 57)]) ++ List.replicate (1 - (lg_sl ([.ref (b + 57)])).length) Slot.unset).toArray) [] := by rw [hargs]; exact lg_entry_eq m ([.ref (b + 57)]) 1
  rw [hent]
  generalize (lg_sl ([.ref (b + 57)]) ++ List.replicate (1 - (lg_sl ([.ref (b + 57)])).length) Slot.unset).toArray = ls at hl ⊢
  have hl : lv_has ls 1 [(0, .ref (b + 57))] := hl
  refine lv_aload_n hx hb dX1_init_0 rfl (lv_at hl 0 rfl) ?_
  refine W.objInit hx hb hown (hts _ (z_mem k128)) (hts _ (z_mem k28)) (hts _ (z_mem k29)) rfl (by rw [hml]; exact hl.1) rfl dX1_init_1 (Nat.le_of_ble_eq_true rfl) (Nat.le_of_ble_eq_true rfl) ?_
  refine W.eq (g2 := F0 m 4 ls []) rfl ?_
  refine lv_aload_n hx hb dX1_init_4 rfl (lv_at hl 0 rfl) ?_
  refine z_iconst hx hb dX1_init_5 ?_
  refine y_puti (z := 0) hx hb hts (z_memU u1) tyX1 tyX1_ok nmX1 hown hK.1 hY hS0 f1_0 (by decide) (zkd_of (rfl : zcd wC 57 = 16) rfl) (Or.inl (hts _ (z_mem k129))) rfl (by decide +kernel) (zbd_in (rfl : zcd wC 57 = 16) rfl (by decide)) dX1_init_6 (fun H locs hY hS0 => ?_)
  refine lv_aload_n hx hb dX1_init_9 rfl (lv_at hl 0 rfl) ?_
  refine z_lconst0 hx hb dX1_init_10 ?_
  refine y_putl (z := 0) hx hb hts (z_memU u1) tyX1 tyX1_ok nmX1 hown hK.1 hY hS0 f1_1 (by decide) (zkd_of (rfl : zcd wC 57 = 16) rfl) (Or.inl (hts _ (z_mem k130))) rfl (by decide +kernel) (zbd_in (rfl : zcd wC 57 = 16) rfl (by decide)) dX1_init_11 (fun H locs hY hS0 => ?_)
  refine lv_aload_n hx hb dX1_init_14 rfl (lv_at hl 0 rfl) ?_
  refine z_iconst hx hb dX1_init_15 ?_
  refine y_newa (atype := .int) hx hb (hts _ (z_mem k53)) (t0 := 0) (N := 4) (by decide) (by decide) (hK.1.2 0 _ rfl).2 rfl hY hS0 (zkd_of (rfl : zcd wC 58 = 17) rfl) (zln_of (rfl : zcd wC 58 = 17) rfl) (by decide) rfl (by decide) (by decide) (Nat.le_of_ble_eq_true rfl) (Nat.le_of_ble_eq_true rfl) dX1_init_16 (fun H hY hS0 => ?_)
  have hY : yS D dA vwCl wC 59 b _ _ H := hY
  refine y_putrF (t := 58) hx hb hts (z_memU u1) tyX1 tyX1_ok nmX1 hown hK.1 hY hS0 f1_2 (by decide) (zkd_of (rfl : zcd wC 57 = 16) rfl) (hts _ (z_mem k131)) rfl hin rfl (tyX1_ok 2 (by decide)) (fun _ => rfl) (fun _ => rfl) dX1_init_18 (fun H locs hY hS0 => ?_)
  refine lv_aload_n hx hb dX1_init_21 rfl (lv_at hl 0 rfl) ?_
  refine z_iconst hx hb dX1_init_22 ?_
  refine y_newa (atype := .int) hx hb (hts _ (z_mem k53)) (t0 := 0) (N := 4) (by decide) (by decide) (hK.1.2 0 _ rfl).2 rfl hY hS0 (zkd_of (rfl : zcd wC 59 = 18) rfl) (zln_of (rfl : zcd wC 59 = 18) rfl) (by decide) rfl (by decide) (by decide) (Nat.le_of_ble_eq_true rfl) (Nat.le_of_ble_eq_true rfl) dX1_init_23 (fun H hY hS0 => ?_)
  have hY : yS D dA vwCl wC 60 b _ _ H := hY
  refine y_putrF (t := 59) hx hb hts (z_memU u1) tyX1 tyX1_ok nmX1 hown hK.1 hY hS0 f1_3 (by decide) (zkd_of (rfl : zcd wC 57 = 16) rfl) (hts _ (z_mem k132)) rfl hin rfl (tyX1_ok 3 (by decide)) (fun _ => rfl) (fun _ => rfl) dX1_init_25 (fun H locs hY hS0 => ?_)
  exact y_ret hx hb hr hlocks hY hS0 dX1_init_28
