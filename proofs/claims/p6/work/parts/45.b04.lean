def mT_C41 (T : zT) : zT := (tup (tup (tup T 42 0 43) 41 0 42) 41 5 44)
def mM_C41 (M : zM) : zM := (zup (zup (zup (zup (zup M 42 1 0) 41 1 0) 41 2 0) 41 3 1) 41 4 0)
set_option maxHeartbeats 4000000 in
set_option maxRecDepth 100000 in
theorem mk_C41 (l : Launch) (D : va_G) (dA : Nat → ClassId) (b : Nat) (M : zM) (T : zT) : Met l yX6_init (.code yX6_init cX6_init 1 none :: zt) (y_rm 2 3 50) (va_Pc [.ref (b + 41)] (yP D dA vwCl (z_tys dA) wC 42 b M T)) (va_Qv (fun _ => True) (yB D dA vwCl wC 45 b (mM_C41 M) (mT_C41 T)) (yA b)) 3 50 (yA b) := by
  refine Met.ofW (cc := cX6_init) (maxL := 1) (ret := none) (by decide) rfl ?_
  intro p e s m args below meth c s₁ B hml hv
  obtain ⟨hargs, hY, hK, hO⟩ := hv
  have hx := B.exec
  have hb := B.bytes
  have hr := B.returns
  have hts := atoms_spec (ws := .code yX6_init cX6_init 1 none :: zt) B.pre
  have hown : s.vm.findClass RX6 = some m.cls := findClass_of_methodNamed B.named
  have hlocks := B.notSynchronized
  have hin : meth.name = "<init>" := (name_of_methodNamed B.named B.method).1
  have hS0 : va_S (yA b) s.heap s.heap [] := va_S.rf
  have hl := lv_entry ([.ref (b + 41)]) (n := 1) (Nat.le_of_ble_eq_true rfl)
  have hent : entryFrame m args 1 = F0 m 0 ((lg_sl ([.ref (b + 41)]) ++ List.replicate (1 - (lg_sl ([.ref (b + 41)])).length) Slot.unset).toArray) [] := by rw [hargs]; exact lg_entry_eq m ([.ref (b + 41)]) 1
  rw [hent]
  generalize (lg_sl ([.ref (b + 41)]) ++ List.replicate (1 - (lg_sl ([.ref (b + 41)])).length) Slot.unset).toArray = ls at hl ⊢
  have hl : lv_has ls 1 [(0, .ref (b + 41))] := hl
  refine lv_aload_n hx hb dX6_init_0 rfl (lv_at hl 0 rfl) ?_
  refine W.objInit hx hb hown (hts _ (z_mem k91)) (hts _ (z_mem k28)) (hts _ (z_mem k29)) rfl (by rw [hml]; exact hl.1) rfl dX6_init_1 (Nat.le_of_ble_eq_true rfl) (Nat.le_of_ble_eq_true rfl) ?_
  refine W.eq (g2 := F0 m 4 ls []) rfl ?_
  refine lv_aload_n hx hb dX6_init_4 rfl (lv_at hl 0 rfl) ?_
  refine y_new hx hb hts (z_memU u8) tyX8 tyX8_ok hown (hts _ (z_mem k92)) (hts _ (z_mem k37)) (hts _ (z_mem k3)) hK.1 hY hS0 (rfl : vwCl[8]? = some (RX8, TX8, 2)) (by decide) (zkd_of (rfl : zcd wC 42 = 6) rfl) rfl (fun k hk => by rcases (show k = 0 ∨ k = 1 by omega) with rfl | rfl <;> rfl) (Nat.le_of_ble_eq_true rfl) (Nat.le_of_ble_eq_true rfl) dX6_init_5 (fun H hY hS0 => ?_)
  have hY : yS D dA vwCl wC 43 b _ _ H := hY
  refine lv_dup hx hb dX6_init_8 rfl ?_
  have hnw := hK.2 (RX6, 11, yX8_init, RX11) (List.mem_of_getElem? (i := 4) rfl)
  refine y_call (va_runIN (As := []) (rest := [.ref (b + 42), .ref (b + 41)]) ⟨hx, hb, hml, hown, hts⟩ (mk_Strip l D dA b _ _ 43 42 (by decide) (rfl : zcd wC 42 = 6) (rfl : zcd wC 43 = 7)) ⟨va_cnB 0 hts (z_gN k39) rfl rfl rfl hnw (hts _ (z_mem k3)) (by decide +kernel) ⟨(Nat.le_of_ble_eq_true rfl), (Nat.le_of_ble_eq_true rfl)⟩, rfl, (hts _ (z_mem k38))⟩ ⟨yP_blind, y_pre hY hK hO⟩ rfl rfl hl.1 rfl (lv_room (Nat.le_of_ble_eq_true rfl)) dX6_init_9 ⟨(Nat.le_of_ble_eq_true rfl), (Nat.le_of_ble_eq_true rfl)⟩) hS0 (fun H locs hY hS0 => ?_)
  have hY : yS D dA vwCl wC 44 b _ _ H := hY
  refine y_putrF (t := 42) hx hb hts (z_memU u6) tyX6 tyX6_ok nmX6 hown hK.1 hY hS0 f6_0 (by decide) (zkd_of (rfl : zcd wC 41 = 14) rfl) (hts _ (z_mem k93)) rfl hin rfl (tyX6_ok 0 (by decide)) (fun _ => rfl) (fun _ => rfl) dX6_init_12 (fun H locs hY hS0 => ?_)
  refine lv_aload_n hx hb dX6_init_15 rfl (lv_at hl 0 rfl) ?_
  refine z_iconst hx hb dX6_init_16 ?_
  refine y_puti (z := 0) hx hb hts (z_memU u6) tyX6 tyX6_ok nmX6 hown hK.1 hY hS0 f6_1 (by decide) (zkd_of (rfl : zcd wC 41 = 14) rfl) (Or.inl (hts _ (z_mem k97))) rfl (by decide +kernel) (zbd_in (rfl : zcd wC 41 = 14) rfl (by decide)) dX6_init_17 (fun H locs hY hS0 => ?_)
  refine lv_aload_n hx hb dX6_init_20 rfl (lv_at hl 0 rfl) ?_
  refine z_iconst hx hb dX6_init_21 ?_
  refine y_puti (z := 0) hx hb hts (z_memU u6) tyX6 tyX6_ok nmX6 hown hK.1 hY hS0 f6_2 (by decide) (zkd_of (rfl : zcd wC 41 = 14) rfl) (Or.inl (hts _ (z_mem k101))) rfl (by decide +kernel) (zbd_in (rfl : zcd wC 41 = 14) rfl (by decide)) dX6_init_22 (fun H locs hY hS0 => ?_)
  refine lv_aload_n hx hb dX6_init_25 rfl (lv_at hl 0 rfl) ?_
  refine z_iconst hx hb dX6_init_26 ?_
  refine y_puti (z := 1) hx hb hts (z_memU u6) tyX6 tyX6_ok nmX6 hown hK.1 hY hS0 f6_3 (by decide) (zkd_of (rfl : zcd wC 41 = 14) rfl) (Or.inl (hts _ (z_mem k104))) rfl (by decide +kernel) (zbd_in (rfl : zcd wC 41 = 14) rfl (by decide)) dX6_init_27 (fun H locs hY hS0 => ?_)
  refine lv_aload_n hx hb dX6_init_30 rfl (lv_at hl 0 rfl) ?_
  refine z_iconst hx hb dX6_init_31 ?_
  refine y_puti (z := 0) hx hb hts (z_memU u6) tyX6 tyX6_ok nmX6 hown hK.1 hY hS0 f6_4 (by decide) (zkd_of (rfl : zcd wC 41 = 14) rfl) (Or.inl (hts _ (z_mem k106))) rfl (by decide +kernel) (zbd_in (rfl : zcd wC 41 = 14) rfl (by decide)) dX6_init_32 (fun H locs hY hS0 => ?_)
  refine lv_aload_n hx hb dX6_init_35 rfl (lv_at hl 0 rfl) ?_
  refine z_bipush hx hb (by decide) dX6_init_36 ?_
  refine y_newa (atype := .int) hx hb (hts _ (z_mem k53)) (t0 := 0) (N := 24) (by decide) (by decide) (hK.1.2 0 _ rfl).2 rfl hY hS0 (zkd_of (rfl : zcd wC 44 = 15) rfl) (zln_of (rfl : zcd wC 44 = 15) rfl) (by decide) rfl (by decide) (by decide) (Nat.le_of_ble_eq_true rfl) (Nat.le_of_ble_eq_true rfl) dX6_init_38 (fun H hY hS0 => ?_)
  have hY : yS D dA vwCl wC 45 b _ _ H := hY
  refine y_putrF (t := 44) hx hb hts (z_memU u6) tyX6 tyX6_ok nmX6 hown hK.1 hY hS0 f6_5 (by decide) (zkd_of (rfl : zcd wC 41 = 14) rfl) (hts _ (z_mem k109)) rfl hin rfl (tyX6_ok 5 (by decide)) (fun _ => rfl) (fun _ => rfl) dX6_init_40 (fun H locs hY hS0 => ?_)
  exact y_ret hx hb hr hlocks hY hS0 dX6_init_43
