def mT_C0 (T : zT) : zT := (tup (tup (mT_C96 (tup (mT_C86 (tup (mT_C82 (tup (mT_C78 (tup (mT_C60 (tup (mT_C57 (tup (mT_C32 (tup (tup (tup (mT_C1 T) 0 0 1) 30 0 31) 0 1 30)) 0 2 32)) 0 3 57)) 0 4 60)) 0 5 78)) 0 6 82)) 0 7 86)) 0 8 96) 0 9 133)
def mM_C0 (M : zM) : zM := (zup (mM_C96 (mM_C86 (mM_C82 (mM_C78 (mM_C60 (mM_C57 (mM_C32 (zup (mM_C1 M) 30 1 0)))))))) 0 10 0)
set_option maxHeartbeats 4000000 in
set_option maxRecDepth 100000 in
theorem mk_C0 (l : Launch) (D : va_G) (dA : Nat → ClassId) (b : Nat) (M : zM) (T : zT) : Met l yX11_init (.code yX11_init cX11_init 1 none :: zt) (y_rm 4 133 7217) (va_Pc [.ref (b + 0)] (yP D dA vwCl (z_tys dA) wC 1 b M T)) (va_Qv (fun _ => True) (yB D dA vwCl wC 134 b (mM_C0 M) (mT_C0 T)) (yA b)) 133 7217 (yA b) := by
  refine Met.ofW (cc := cX11_init) (maxL := 1) (ret := none) (by decide) rfl ?_
  intro p e s m args below meth c s₁ B hml hv
  obtain ⟨hargs, hY, hK, hO⟩ := hv
  have hx := B.exec
  have hb := B.bytes
  have hr := B.returns
  have hts := atoms_spec (ws := .code yX11_init cX11_init 1 none :: zt) B.pre
  have hown : s.vm.findClass RX11 = some m.cls := findClass_of_methodNamed B.named
  have hlocks := B.notSynchronized
  have hin : meth.name = "<init>" := (name_of_methodNamed B.named B.method).1
  have hS0 : va_S (yA b) s.heap s.heap [] := va_S.rf
  have hl := lv_entry ([.ref (b + 0)]) (n := 1) (Nat.le_of_ble_eq_true rfl)
  have hent : entryFrame m args 1 = F0 m 0 ((lg_sl ([.ref (b + 0)]) ++ List.replicate (1 - (lg_sl ([.ref (b + 0)])).length) Slot.unset).toArray) [] := by rw [hargs]; exact lg_entry_eq m ([.ref (b + 0)]) 1
  rw [hent]
  generalize (lg_sl ([.ref (b + 0)]) ++ List.replicate (1 - (lg_sl ([.ref (b + 0)])).length) Slot.unset).toArray = ls at hl ⊢
  have hl : lv_has ls 1 [(0, .ref (b + 0))] := hl
  refine lv_aload_n hx hb dX11_init_0 rfl (lv_at hl 0 rfl) ?_
  refine W.objInit hx hb hown (hts _ (z_mem k27)) (hts _ (z_mem k28)) (hts _ (z_mem k29)) rfl (by rw [hml]; exact hl.1) rfl dX11_init_1 (Nat.le_of_ble_eq_true rfl) (Nat.le_of_ble_eq_true rfl) ?_
  refine W.eq (g2 := F0 m 4 ls []) rfl ?_
  refine lv_aload_n hx hb dX11_init_4 rfl (lv_at hl 0 rfl) ?_
  refine y_new hx hb hts (z_memU u7) tyX7 tyX7_ok hown (hts _ (z_mem k30)) (hts _ (z_mem k31)) (hts _ (z_mem k2)) hK.1 hY hS0 (rfl : vwCl[7]? = some (RX7, TX7, 7)) (by decide) (zkd_of (rfl : zcd wC 1 = 1) rfl) rfl (fun k hk => by rcases (show k = 0 ∨ k = 1 ∨ k = 2 ∨ k = 3 ∨ k = 4 ∨ k = 5 ∨ k = 6 by omega) with rfl | rfl | rfl | rfl | rfl | rfl | rfl <;> rfl) (Nat.le_of_ble_eq_true rfl) (Nat.le_of_ble_eq_true rfl) dX11_init_5 (fun H hY hS0 => ?_)
  have hY : yS D dA vwCl wC 2 b _ _ H := hY
  refine lv_dup hx hb dX11_init_8 rfl ?_
  refine y_call (va_runI (As := []) (rest := [.ref (b + 1), .ref (b + 0)]) ⟨hx, hb, hml, hown, hts⟩ (mk_C1 l D dA b _ _) (cwI 0 hts (z_gN k34) rfl rfl rfl (hts _ (z_mem k2)) (hts _ (z_mem k32)) (hts _ (z_mem k33)) rfl (by decide +kernel) ⟨(Nat.le_of_ble_eq_true rfl), (Nat.le_of_ble_eq_true rfl)⟩) ⟨yP_blind, y_pre hY hK hO⟩ rfl rfl hl.1 rfl (lv_room (Nat.le_of_ble_eq_true rfl)) dX11_init_9 ⟨(Nat.le_of_ble_eq_true rfl), (Nat.le_of_ble_eq_true rfl)⟩) hS0 (fun H locs hY hS0 => ?_)
  have hY : yS D dA vwCl wC 30 b _ _ H := hY
  refine y_putrF (t := 1) hx hb hts (z_memU u11) tyX11 tyX11_ok nmX11 hown hK.1 hY hS0 f11_0 (by decide) (zkd_of (rfl : zcd wC 0 = 0) rfl) (hts _ (z_mem k242)) rfl hin rfl (tyX11_ok 0 (by decide)) (fun _ => rfl) (fun _ => rfl) dX11_init_12 (fun H locs hY hS0 => ?_)
  refine lv_aload_n hx hb dX11_init_15 rfl (lv_at hl 0 rfl) ?_
  refine y_new hx hb hts (z_memU u8) tyX8 tyX8_ok hown (hts _ (z_mem k69)) (hts _ (z_mem k37)) (hts _ (z_mem k3)) hK.1 hY hS0 (rfl : vwCl[8]? = some (RX8, TX8, 2)) (by decide) (zkd_of (rfl : zcd wC 30 = 6) rfl) rfl (fun k hk => by rcases (show k = 0 ∨ k = 1 by omega) with rfl | rfl <;> rfl) (Nat.le_of_ble_eq_true rfl) (Nat.le_of_ble_eq_true rfl) dX11_init_16 (fun H hY hS0 => ?_)
  have hY : yS D dA vwCl wC 31 b _ _ H := hY
  refine lv_dup hx hb dX11_init_19 rfl ?_
  have hnw := hK.2 (RX11, 18, yX8_init, RX11) (List.mem_of_getElem? (i := 1) rfl)
  refine y_call (va_runIN (As := []) (rest := [.ref (b + 30), .ref (b + 0)]) ⟨hx, hb, hml, hown, hts⟩ (mk_Strip l D dA b _ _ 31 30 (by decide) (rfl : zcd wC 30 = 6) (rfl : zcd wC 31 = 7)) ⟨va_cnB 0 hts (z_gN k39) rfl rfl rfl hnw (hts _ (z_mem k3)) (by decide +kernel) ⟨(Nat.le_of_ble_eq_true rfl), (Nat.le_of_ble_eq_true rfl)⟩, rfl, (hts _ (z_mem k38))⟩ ⟨yP_blind, y_pre hY hK hO⟩ rfl rfl hl.1 rfl (lv_room (Nat.le_of_ble_eq_true rfl)) dX11_init_20 ⟨(Nat.le_of_ble_eq_true rfl), (Nat.le_of_ble_eq_true rfl)⟩) hS0 (fun H locs hY hS0 => ?_)
  have hY : yS D dA vwCl wC 32 b _ _ H := hY
  refine y_putrF (t := 30) hx hb hts (z_memU u11) tyX11 tyX11_ok nmX11 hown hK.1 hY hS0 f11_1 (by decide) (zkd_of (rfl : zcd wC 0 = 0) rfl) (hts _ (z_mem k243)) rfl hin rfl (tyX11_ok 1 (by decide)) (fun _ => rfl) (fun _ => rfl) dX11_init_23 (fun H locs hY hS0 => ?_)
  refine lv_aload_n hx hb dX11_init_26 rfl (lv_at hl 0 rfl) ?_
  refine y_new hx hb hts (z_memU u9) tyX9 tyX9_ok hown (hts _ (z_mem k70)) (hts _ (z_mem k71)) (hts _ (z_mem k4)) hK.1 hY hS0 (rfl : vwCl[9]? = some (RX9, TX9, 3)) (by decide) (zkd_of (rfl : zcd wC 32 = 8) rfl) rfl (fun k hk => by rcases (show k = 0 ∨ k = 1 ∨ k = 2 by omega) with rfl | rfl | rfl <;> rfl) (Nat.le_of_ble_eq_true rfl) (Nat.le_of_ble_eq_true rfl) dX11_init_27 (fun H hY hS0 => ?_)
  have hY : yS D dA vwCl wC 33 b _ _ H := hY
  refine lv_dup hx hb dX11_init_30 rfl ?_
  refine y_call (va_runI (As := []) (rest := [.ref (b + 32), .ref (b + 0)]) ⟨hx, hb, hml, hown, hts⟩ (mk_C32 l D dA b _ _) (cwI 0 hts (z_gN k74) rfl rfl rfl (hts _ (z_mem k4)) (hts _ (z_mem k72)) (hts _ (z_mem k73)) rfl (by decide +kernel) ⟨(Nat.le_of_ble_eq_true rfl), (Nat.le_of_ble_eq_true rfl)⟩) ⟨yP_blind, y_pre hY hK hO⟩ rfl rfl hl.1 rfl (lv_room (Nat.le_of_ble_eq_true rfl)) dX11_init_31 ⟨(Nat.le_of_ble_eq_true rfl), (Nat.le_of_ble_eq_true rfl)⟩) hS0 (fun H locs hY hS0 => ?_)
  have hY : yS D dA vwCl wC 57 b _ _ H := hY
  refine y_putrF (t := 32) hx hb hts (z_memU u11) tyX11 tyX11_ok nmX11 hown hK.1 hY hS0 f11_2 (by decide) (zkd_of (rfl : zcd wC 0 = 0) rfl) (hts _ (z_mem k244)) rfl hin rfl (tyX11_ok 2 (by decide)) (fun _ => rfl) (fun _ => rfl) dX11_init_34 (fun H locs hY hS0 => ?_)
  refine lv_aload_n hx hb dX11_init_37 rfl (lv_at hl 0 rfl) ?_
  refine y_new hx hb hts (z_memU u1) tyX1 tyX1_ok hown (hts _ (z_mem k124)) (hts _ (z_mem k125)) (hts _ (z_mem k7)) hK.1 hY hS0 (rfl : vwCl[1]? = some (RX1, TX1, 4)) (by decide) (zkd_of (rfl : zcd wC 57 = 16) rfl) rfl (fun k hk => by rcases (show k = 0 ∨ k = 1 ∨ k = 2 ∨ k = 3 by omega) with rfl | rfl | rfl | rfl <;> rfl) (Nat.le_of_ble_eq_true rfl) (Nat.le_of_ble_eq_true rfl) dX11_init_38 (fun H hY hS0 => ?_)
  have hY : yS D dA vwCl wC 58 b _ _ H := hY
  refine lv_dup hx hb dX11_init_41 rfl ?_
  have hnw := hK.2 (RX11, 32, yX1_init, RX11) (List.mem_of_getElem? (i := 5) rfl)
  refine y_call (va_runIN (As := []) (rest := [.ref (b + 57), .ref (b + 0)]) ⟨hx, hb, hml, hown, hts⟩ (mk_C57 l D dA b _ _) ⟨va_cnB 0 hts (z_gN k127) rfl rfl rfl hnw (hts _ (z_mem k7)) (by decide +kernel) ⟨(Nat.le_of_ble_eq_true rfl), (Nat.le_of_ble_eq_true rfl)⟩, rfl, (hts _ (z_mem k126))⟩ ⟨yP_blind, y_pre hY hK hO⟩ rfl rfl hl.1 rfl (lv_room (Nat.le_of_ble_eq_true rfl)) dX11_init_42 ⟨(Nat.le_of_ble_eq_true rfl), (Nat.le_of_ble_eq_true rfl)⟩) hS0 (fun H locs hY hS0 => ?_)
  have hY : yS D dA vwCl wC 60 b _ _ H := hY
  refine y_putrF (t := 57) hx hb hts (z_memU u11) tyX11 tyX11_ok nmX11 hown hK.1 hY hS0 f11_3 (by decide) (zkd_of (rfl : zcd wC 0 = 0) rfl) (hts _ (z_mem k245)) rfl hin rfl (tyX11_ok 3 (by decide)) (fun _ => rfl) (fun _ => rfl) dX11_init_45 (fun H locs hY hS0 => ?_)
  refine lv_aload_n hx hb dX11_init_48 rfl (lv_at hl 0 rfl) ?_
  refine y_new hx hb hts (z_memU u5) tyX5 tyX5_ok hown (hts _ (z_mem k137)) (hts _ (z_mem k138)) (hts _ (z_mem k8)) hK.1 hY hS0 (rfl : vwCl[5]? = some (RX5, TX5, 9)) (by decide) (zkd_of (rfl : zcd wC 60 = 19) rfl) rfl (fun k hk => by rcases (show k = 0 ∨ k = 1 ∨ k = 2 ∨ k = 3 ∨ k = 4 ∨ k = 5 ∨ k = 6 ∨ k = 7 ∨ k = 8 by omega) with rfl | rfl | rfl | rfl | rfl | rfl | rfl | rfl | rfl <;> rfl) (Nat.le_of_ble_eq_true rfl) (Nat.le_of_ble_eq_true rfl) dX11_init_49 (fun H hY hS0 => ?_)
  have hY : yS D dA vwCl wC 61 b _ _ H := hY
  refine lv_dup hx hb dX11_init_52 rfl ?_
  have hnw := hK.2 (RX11, 39, yX5_init, RX11) (List.mem_of_getElem? (i := 6) rfl)
  refine y_call (va_runIN (As := []) (rest := [.ref (b + 60), .ref (b + 0)]) ⟨hx, hb, hml, hown, hts⟩ (mk_C60 l D dA b _ _) ⟨va_cnB 0 hts (z_gN k140) rfl rfl rfl hnw (hts _ (z_mem k8)) (by decide +kernel) ⟨(Nat.le_of_ble_eq_true rfl), (Nat.le_of_ble_eq_true rfl)⟩, rfl, (hts _ (z_mem k139))⟩ ⟨yP_blind, y_pre hY hK hO⟩ rfl rfl hl.1 rfl (lv_room (Nat.le_of_ble_eq_true rfl)) dX11_init_53 ⟨(Nat.le_of_ble_eq_true rfl), (Nat.le_of_ble_eq_true rfl)⟩) hS0 (fun H locs hY hS0 => ?_)
  have hY : yS D dA vwCl wC 78 b _ _ H := hY
  refine y_putrF (t := 60) hx hb hts (z_memU u11) tyX11 tyX11_ok nmX11 hown hK.1 hY hS0 f11_4 (by decide) (zkd_of (rfl : zcd wC 0 = 0) rfl) (hts _ (z_mem k246)) rfl hin rfl (tyX11_ok 4 (by decide)) (fun _ => rfl) (fun _ => rfl) dX11_init_56 (fun H locs hY hS0 => ?_)
  refine lv_aload_n hx hb dX11_init_59 rfl (lv_at hl 0 rfl) ?_
  refine y_new hx hb hts (z_memU u0) tyX0 tyX0_ok hown (hts _ (z_mem k163)) (hts _ (z_mem k164)) (hts _ (z_mem k9)) hK.1 hY hS0 (rfl : vwCl[0]? = some (RX0, TX0, 8)) (by decide) (zkd_of (rfl : zcd wC 78 = 30) rfl) rfl (fun k hk => by rcases (show k = 0 ∨ k = 1 ∨ k = 2 ∨ k = 3 ∨ k = 4 ∨ k = 5 ∨ k = 6 ∨ k = 7 by omega) with rfl | rfl | rfl | rfl | rfl | rfl | rfl | rfl <;> rfl) (Nat.le_of_ble_eq_true rfl) (Nat.le_of_ble_eq_true rfl) dX11_init_60 (fun H hY hS0 => ?_)
  have hY : yS D dA vwCl wC 79 b _ _ H := hY
  refine lv_dup hx hb dX11_init_63 rfl ?_
  refine y_call (va_runI (As := []) (rest := [.ref (b + 78), .ref (b + 0)]) ⟨hx, hb, hml, hown, hts⟩ (mk_C78 l D dA b _ _) (cwI 0 hts (z_gN k167) rfl rfl rfl (hts _ (z_mem k9)) (hts _ (z_mem k165)) (hts _ (z_mem k166)) rfl (by decide +kernel) ⟨(Nat.le_of_ble_eq_true rfl), (Nat.le_of_ble_eq_true rfl)⟩) ⟨yP_blind, y_pre hY hK hO⟩ rfl rfl hl.1 rfl (lv_room (Nat.le_of_ble_eq_true rfl)) dX11_init_64 ⟨(Nat.le_of_ble_eq_true rfl), (Nat.le_of_ble_eq_true rfl)⟩) hS0 (fun H locs hY hS0 => ?_)
  have hY : yS D dA vwCl wC 82 b _ _ H := hY
  refine y_putrF (t := 78) hx hb hts (z_memU u11) tyX11 tyX11_ok nmX11 hown hK.1 hY hS0 f11_5 (by decide) (zkd_of (rfl : zcd wC 0 = 0) rfl) (hts _ (z_mem k247)) rfl hin rfl (tyX11_ok 5 (by decide)) (fun _ => rfl) (fun _ => rfl) dX11_init_67 (fun H locs hY hS0 => ?_)
  refine lv_aload_n hx hb dX11_init_70 rfl (lv_at hl 0 rfl) ?_
  refine y_new hx hb hts (z_memU u3) tyX3 tyX3_ok hown (hts _ (z_mem k190)) (hts _ (z_mem k191)) (hts _ (z_mem k11)) hK.1 hY hS0 (rfl : vwCl[3]? = some (RX3, TX3, 4)) (by decide) (zkd_of (rfl : zcd wC 82 = 34) rfl) rfl (fun k hk => by rcases (show k = 0 ∨ k = 1 ∨ k = 2 ∨ k = 3 by omega) with rfl | rfl | rfl | rfl <;> rfl) (Nat.le_of_ble_eq_true rfl) (Nat.le_of_ble_eq_true rfl) dX11_init_71 (fun H hY hS0 => ?_)
  have hY : yS D dA vwCl wC 83 b _ _ H := hY
  refine lv_dup hx hb dX11_init_74 rfl ?_
  have hnw := hK.2 (RX11, 53, yX3_init, RX11) (List.mem_of_getElem? (i := 7) rfl)
  refine y_call (va_runIN (As := []) (rest := [.ref (b + 82), .ref (b + 0)]) ⟨hx, hb, hml, hown, hts⟩ (mk_C82 l D dA b _ _) ⟨va_cnB 0 hts (z_gN k193) rfl rfl rfl hnw (hts _ (z_mem k11)) (by decide +kernel) ⟨(Nat.le_of_ble_eq_true rfl), (Nat.le_of_ble_eq_true rfl)⟩, rfl, (hts _ (z_mem k192))⟩ ⟨yP_blind, y_pre hY hK hO⟩ rfl rfl hl.1 rfl (lv_room (Nat.le_of_ble_eq_true rfl)) dX11_init_75 ⟨(Nat.le_of_ble_eq_true rfl), (Nat.le_of_ble_eq_true rfl)⟩) hS0 (fun H locs hY hS0 => ?_)
  have hY : yS D dA vwCl wC 86 b _ _ H := hY
  refine y_putrF (t := 82) hx hb hts (z_memU u11) tyX11 tyX11_ok nmX11 hown hK.1 hY hS0 f11_6 (by decide) (zkd_of (rfl : zcd wC 0 = 0) rfl) (hts _ (z_mem k248)) rfl hin rfl (tyX11_ok 6 (by decide)) (fun _ => rfl) (fun _ => rfl) dX11_init_78 (fun H locs hY hS0 => ?_)
  refine lv_aload_n hx hb dX11_init_81 rfl (lv_at hl 0 rfl) ?_
  refine y_new hx hb hts (z_memU u4) tyX4 tyX4_ok hown (hts _ (z_mem k204)) (hts _ (z_mem k205)) (hts _ (z_mem k12)) hK.1 hY hS0 (rfl : vwCl[4]? = some (RX4, TX4, 6)) (by decide) (zkd_of (rfl : zcd wC 86 = 38) rfl) rfl (fun k hk => by rcases (show k = 0 ∨ k = 1 ∨ k = 2 ∨ k = 3 ∨ k = 4 ∨ k = 5 by omega) with rfl | rfl | rfl | rfl | rfl | rfl <;> rfl) (Nat.le_of_ble_eq_true rfl) (Nat.le_of_ble_eq_true rfl) dX11_init_82 (fun H hY hS0 => ?_)
  have hY : yS D dA vwCl wC 87 b _ _ H := hY
  refine lv_dup hx hb dX11_init_85 rfl ?_
  have hnw := hK.2 (RX11, 60, yX4_init, RX11) (List.mem_of_getElem? (i := 8) rfl)
  refine y_call (va_runIN (As := []) (rest := [.ref (b + 86), .ref (b + 0)]) ⟨hx, hb, hml, hown, hts⟩ (mk_C86 l D dA b _ _) ⟨va_cnB 0 hts (z_gN k207) rfl rfl rfl hnw (hts _ (z_mem k12)) (by decide +kernel) ⟨(Nat.le_of_ble_eq_true rfl), (Nat.le_of_ble_eq_true rfl)⟩, rfl, (hts _ (z_mem k206))⟩ ⟨yP_blind, y_pre hY hK hO⟩ rfl rfl hl.1 rfl (lv_room (Nat.le_of_ble_eq_true rfl)) dX11_init_86 ⟨(Nat.le_of_ble_eq_true rfl), (Nat.le_of_ble_eq_true rfl)⟩) hS0 (fun H locs hY hS0 => ?_)
  have hY : yS D dA vwCl wC 96 b _ _ H := hY
  refine y_putrF (t := 86) hx hb hts (z_memU u11) tyX11 tyX11_ok nmX11 hown hK.1 hY hS0 f11_7 (by decide) (zkd_of (rfl : zcd wC 0 = 0) rfl) (hts _ (z_mem k249)) rfl hin rfl (tyX11_ok 7 (by decide)) (fun _ => rfl) (fun _ => rfl) dX11_init_89 (fun H locs hY hS0 => ?_)
  refine lv_aload_n hx hb dX11_init_92 rfl (lv_at hl 0 rfl) ?_
  refine y_new hx hb hts (z_memU u10) tyX10 tyX10_ok hown (hts _ (z_mem k224)) (hts _ (z_mem k225)) (hts _ (z_mem k13)) hK.1 hY hS0 (rfl : vwCl[10]? = some (RX10, TX10, 5)) (by decide) (zkd_of (rfl : zcd wC 96 = 44) rfl) rfl (fun k hk => by rcases (show k = 0 ∨ k = 1 ∨ k = 2 ∨ k = 3 ∨ k = 4 by omega) with rfl | rfl | rfl | rfl | rfl <;> rfl) (Nat.le_of_ble_eq_true rfl) (Nat.le_of_ble_eq_true rfl) dX11_init_93 (fun H hY hS0 => ?_)
  have hY : yS D dA vwCl wC 97 b _ _ H := hY
  refine lv_dup hx hb dX11_init_96 rfl ?_
  refine y_call (va_runI (As := []) (rest := [.ref (b + 96), .ref (b + 0)]) ⟨hx, hb, hml, hown, hts⟩ (mk_C96 l D dA b _ _) (cwI 0 hts (z_gN k228) rfl rfl rfl (hts _ (z_mem k13)) (hts _ (z_mem k226)) (hts _ (z_mem k227)) rfl (by decide +kernel) ⟨(Nat.le_of_ble_eq_true rfl), (Nat.le_of_ble_eq_true rfl)⟩) ⟨yP_blind, y_pre hY hK hO⟩ rfl rfl hl.1 rfl (lv_room (Nat.le_of_ble_eq_true rfl)) dX11_init_97 ⟨(Nat.le_of_ble_eq_true rfl), (Nat.le_of_ble_eq_true rfl)⟩) hS0 (fun H locs hY hS0 => ?_)
  have hY : yS D dA vwCl wC 133 b _ _ H := hY
  refine y_putrF (t := 96) hx hb hts (z_memU u11) tyX11 tyX11_ok nmX11 hown hK.1 hY hS0 f11_8 (by decide) (zkd_of (rfl : zcd wC 0 = 0) rfl) (hts _ (z_mem k250)) rfl hin rfl (tyX11_ok 8 (by decide)) (fun _ => rfl) (fun _ => rfl) dX11_init_100 (fun H locs hY hS0 => ?_)
  refine lv_aload_n hx hb dX11_init_103 rfl (lv_at hl 0 rfl) ?_
  refine z_bipush hx hb (by decide) dX11_init_104 ?_
  refine y_newa (atype := .int) hx hb (hts _ (z_mem k53)) (t0 := 0) (N := 40) (by decide) (by decide) (hK.1.2 0 _ rfl).2 rfl hY hS0 (zkd_of (rfl : zcd wC 133 = 49) rfl) (zln_of (rfl : zcd wC 133 = 49) rfl) (by decide) rfl (by decide) (by decide) (Nat.le_of_ble_eq_true rfl) (Nat.le_of_ble_eq_true rfl) dX11_init_106 (fun H hY hS0 => ?_)
  have hY : yS D dA vwCl wC 134 b _ _ H := hY
  refine y_putrF (t := 133) hx hb hts (z_memU u11) tyX11 tyX11_ok nmX11 hown hK.1 hY hS0 f11_9 (by decide) (zkd_of (rfl : zcd wC 0 = 0) rfl) (hts _ (z_mem k251)) rfl hin rfl (tyX11_ok 9 (by decide)) (fun _ => rfl) (fun _ => rfl) dX11_init_108 (fun H locs hY hS0 => ?_)
  refine lv_aload_n hx hb dX11_init_111 rfl (lv_at hl 0 rfl) ?_
  refine z_iconst hx hb dX11_init_112 ?_
  refine y_puti (z := 0) hx hb hts (z_memU u11) tyX11 tyX11_ok nmX11 hown hK.1 hY hS0 f11_10 (by decide) (zkd_of (rfl : zcd wC 0 = 0) rfl) (Or.inl (hts _ (z_mem k252))) rfl (by decide +kernel) (zbd_in (rfl : zcd wC 0 = 0) rfl (by decide)) dX11_init_113 (fun H locs hY hS0 => ?_)
  exact y_ret hx hb hr hlocks hY hS0 dX11_init_116
