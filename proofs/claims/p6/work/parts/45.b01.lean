def mT_C1 (T : zT) : zT := (tup (tup (tup (tup (tup (tup (tup (tup (tup (tup (tup (tup (tup (tup (tup (tup (tup (tup (tup (tup (tup (tup (tup (tup (tup (tup (tup (tup T 1 0 2) 1 4 3) 1 5 4) 1 6 5) 6 0 7) 3 (0 : Int).toNat 6) 8 0 9) 4 (0 : Int).toNat 8) 10 0 11) 3 (1 : Int).toNat 10) 12 0 13) 4 (1 : Int).toNat 12) 14 0 15) 3 (2 : Int).toNat 14) 16 0 17) 4 (2 : Int).toNat 16) 18 0 19) 3 (3 : Int).toNat 18) 20 0 21) 4 (3 : Int).toNat 20) 22 0 23) 3 (4 : Int).toNat 22) 24 0 25) 4 (4 : Int).toNat 24) 26 0 27) 3 (5 : Int).toNat 26) 28 0 29) 4 (5 : Int).toNat 28)
def mM_C1 (M : zM) : zM := (zup (zup (zup (zup (zup (zup (zup (zup (zup (zup (zup (zup (zup (zup (zup M 1 1 0) 1 2 0) 1 3 0) 6 1 0) 8 1 0) 10 1 0) 12 1 0) 14 1 0) 16 1 0) 18 1 0) 20 1 0) 22 1 0) 24 1 0) 26 1 0) 28 1 0)
set_option maxHeartbeats 4000000 in
set_option maxRecDepth 100000 in
theorem mk_C1 (l : Launch) (D : va_G) (dA : Nat → ClassId) (b : Nat) (M : zM) (T : zT) : Met l yX7_init (.code yX7_init cX7_init 2 none :: zt) (y_rm 2 28 430) (va_Pc [.ref (b + 1)] (yP D dA vwCl (z_tys dA) wC 2 b M T)) (va_Qv (fun _ => True) (yB D dA vwCl wC 30 b (mM_C1 M) (mT_C1 T)) (yA b)) 28 430 (yA b) := by
  refine Met.ofW (cc := cX7_init) (maxL := 2) (ret := none) (by decide) rfl ?_
  intro p e s m args below meth c s₁ B hml hv
  obtain ⟨hargs, hY, hK, hO⟩ := hv
  have hx := B.exec
  have hb := B.bytes
  have hr := B.returns
  have hts := atoms_spec (ws := .code yX7_init cX7_init 2 none :: zt) B.pre
  have hown : s.vm.findClass RX7 = some m.cls := findClass_of_methodNamed B.named
  have hlocks := B.notSynchronized
  have hin : meth.name = "<init>" := (name_of_methodNamed B.named B.method).1
  have hS0 : va_S (yA b) s.heap s.heap [] := va_S.rf
  have hl := lv_entry ([.ref (b + 1)]) (n := 2) (Nat.le_of_ble_eq_true rfl)
  have hent : entryFrame m args 2 = F0 m 0 ((lg_sl ([.ref (b + 1)]) ++ List.replicate (2 - (lg_sl ([.ref (b + 1)])).length) Slot.unset).toArray) [] := by rw [hargs]; exact lg_entry_eq m ([.ref (b + 1)]) 2
  rw [hent]
  generalize (lg_sl ([.ref (b + 1)]) ++ List.replicate (2 - (lg_sl ([.ref (b + 1)])).length) Slot.unset).toArray = ls at hl ⊢
  have hl : lv_has ls 2 [(0, .ref (b + 1))] := hl
  refine lv_aload_n hx hb dX7_init_0 rfl (lv_at hl 0 rfl) ?_
  refine W.objInit hx hb hown (hts _ (z_mem k35)) (hts _ (z_mem k28)) (hts _ (z_mem k29)) rfl (by rw [hml]; exact hl.1) rfl dX7_init_1 (Nat.le_of_ble_eq_true rfl) (Nat.le_of_ble_eq_true rfl) ?_
  refine W.eq (g2 := F0 m 4 ls []) rfl ?_
  refine lv_aload_n hx hb dX7_init_4 rfl (lv_at hl 0 rfl) ?_
  refine z_bipush hx hb (by decide) dX7_init_5 ?_
  refine y_newa (atype := .int) hx hb (hts _ (z_mem k53)) (t0 := 0) (N := 100) (by decide) (by decide) (hK.1.2 0 _ rfl).2 rfl hY hS0 (zkd_of (rfl : zcd wC 2 = 2) rfl) (zln_of (rfl : zcd wC 2 = 2) rfl) (by decide) rfl (by decide) (by decide) (Nat.le_of_ble_eq_true rfl) (Nat.le_of_ble_eq_true rfl) dX7_init_7 (fun H hY hS0 => ?_)
  have hY : yS D dA vwCl wC 3 b _ _ H := hY
  refine y_putrF (t := 2) hx hb hts (z_memU u7) tyX7 tyX7_ok nmX7 hown hK.1 hY hS0 f7_0 (by decide) (zkd_of (rfl : zcd wC 1 = 1) rfl) (hts _ (z_mem k54)) rfl hin rfl (tyX7_ok 0 (by decide)) (fun _ => rfl) (fun _ => rfl) dX7_init_9 (fun H locs hY hS0 => ?_)
  refine lv_aload_n hx hb dX7_init_12 rfl (lv_at hl 0 rfl) ?_
  refine z_iconst hx hb dX7_init_13 ?_
  refine y_puti (z := 0) hx hb hts (z_memU u7) tyX7 tyX7_ok nmX7 hown hK.1 hY hS0 f7_1 (by decide) (zkd_of (rfl : zcd wC 1 = 1) rfl) (Or.inl (hts _ (z_mem k55))) rfl (by decide +kernel) (zbd_in (rfl : zcd wC 1 = 1) rfl (by decide)) dX7_init_14 (fun H locs hY hS0 => ?_)
  refine lv_aload_n hx hb dX7_init_17 rfl (lv_at hl 0 rfl) ?_
  refine z_iconst hx hb dX7_init_18 ?_
  refine y_puti (z := 0) hx hb hts (z_memU u7) tyX7 tyX7_ok nmX7 hown hK.1 hY hS0 f7_2 (by decide) (zkd_of (rfl : zcd wC 1 = 1) rfl) (Or.inl (hts _ (z_mem k57))) rfl (by decide +kernel) (zbd_in (rfl : zcd wC 1 = 1) rfl (by decide)) dX7_init_19 (fun H locs hY hS0 => ?_)
  refine lv_aload_n hx hb dX7_init_22 rfl (lv_at hl 0 rfl) ?_
  refine z_iconst hx hb dX7_init_23 ?_
  refine y_puti (z := 0) hx hb hts (z_memU u7) tyX7 tyX7_ok nmX7 hown hK.1 hY hS0 f7_3 (by decide) (zkd_of (rfl : zcd wC 1 = 1) rfl) (Or.inl (hts _ (z_mem k58))) rfl (by decide +kernel) (zbd_in (rfl : zcd wC 1 = 1) rfl (by decide)) dX7_init_24 (fun H locs hY hS0 => ?_)
  refine lv_aload_n hx hb dX7_init_27 rfl (lv_at hl 0 rfl) ?_
  refine z_bipush hx hb (by decide) dX7_init_28 ?_
  refine y_newq (C := "TapeRings$Strip") (t0 := 4) (N := 6) hx hb hown (hts _ (z_mem k36)) hO.1 (by decide) (hK.1.2 4 _ rfl).2 hY hS0 (zkd_of (rfl : zcd wC 3 = 3) rfl) (zln_of (rfl : zcd wC 3 = 3) rfl) (by decide) rfl (by decide) (by decide) (Nat.le_of_ble_eq_true rfl) (Nat.le_of_ble_eq_true rfl) dX7_init_30 (fun H hY hS0 => ?_)
  have hY : yS D dA vwCl wC 4 b _ _ H := hY
  refine y_putrF (t := 3) hx hb hts (z_memU u7) tyX7 tyX7_ok nmX7 hown hK.1 hY hS0 f7_4 (by decide) (zkd_of (rfl : zcd wC 1 = 1) rfl) (hts _ (z_mem k59)) rfl hin rfl (tyX7_ok 4 (by decide)) (fun _ => rfl) (fun _ => rfl) dX7_init_33 (fun H locs hY hS0 => ?_)
  refine lv_aload_n hx hb dX7_init_36 rfl (lv_at hl 0 rfl) ?_
  refine z_bipush hx hb (by decide) dX7_init_37 ?_
  refine y_newq (C := "TapeRings$Strip") (t0 := 4) (N := 6) hx hb hown (hts _ (z_mem k36)) hO.1 (by decide) (hK.1.2 4 _ rfl).2 hY hS0 (zkd_of (rfl : zcd wC 4 = 4) rfl) (zln_of (rfl : zcd wC 4 = 4) rfl) (by decide) rfl (by decide) (by decide) (Nat.le_of_ble_eq_true rfl) (Nat.le_of_ble_eq_true rfl) dX7_init_39 (fun H hY hS0 => ?_)
  have hY : yS D dA vwCl wC 5 b _ _ H := hY
  refine y_putrF (t := 4) hx hb hts (z_memU u7) tyX7 tyX7_ok nmX7 hown hK.1 hY hS0 f7_5 (by decide) (zkd_of (rfl : zcd wC 1 = 1) rfl) (hts _ (z_mem k60)) rfl hin rfl (tyX7_ok 5 (by decide)) (fun _ => rfl) (fun _ => rfl) dX7_init_42 (fun H locs hY hS0 => ?_)
  refine lv_aload_n hx hb dX7_init_45 rfl (lv_at hl 0 rfl) ?_
  refine z_bipush hx hb (by decide) dX7_init_46 ?_
  refine y_newa (atype := .int) hx hb (hts _ (z_mem k53)) (t0 := 0) (N := 6) (by decide) (by decide) (hK.1.2 0 _ rfl).2 rfl hY hS0 (zkd_of (rfl : zcd wC 5 = 5) rfl) (zln_of (rfl : zcd wC 5 = 5) rfl) (by decide) rfl (by decide) (by decide) (Nat.le_of_ble_eq_true rfl) (Nat.le_of_ble_eq_true rfl) dX7_init_48 (fun H hY hS0 => ?_)
  have hY : yS D dA vwCl wC 6 b _ _ H := hY
  refine y_putrF (t := 5) hx hb hts (z_memU u7) tyX7 tyX7_ok nmX7 hown hK.1 hY hS0 f7_6 (by decide) (zkd_of (rfl : zcd wC 1 = 1) rfl) (hts _ (z_mem k61)) rfl hin rfl (tyX7_ok 6 (by decide)) (fun _ => rfl) (fun _ => rfl) dX7_init_50 (fun H locs hY hS0 => ?_)
  refine z_iconst hx hb dX7_init_53 ?_
  refine lv_istore_n (lv' := [(1, .int (iI 0)), (0, .ref (b + 1))]) hx hb dX7_init_54 rfl hl (by decide) rfl (fun ls hl => ?_)
  refine lv_iload_n hx hb dX7_init_55 rfl (lv_at hl 0 rfl) ?_
  refine z_iconst hx hb dX7_init_56 ?_
  refine z_icmp_gt (tgt := 92) hx hb (by decide) (by decide) dX7_init_57 (by decide) (fun c9 => absurd c9 (by decide)) (fun _ => ?_)
  refine lv_aload_n hx hb dX7_init_60 rfl (lv_at hl 1 rfl) ?_
  refine y_getr (t := 3) hx hb hts (z_memU u7) hown hK.1 hY f7_4 (by decide) (zkd_of (rfl : zcd wC 1 = 1) rfl) (tup_ne rfl (tup_ne rfl tup_s)) (Or.inl (hts _ (z_mem k59))) dX7_init_61 ?_
  refine lv_iload_n hx hb dX7_init_64 rfl (lv_at hl 0 rfl) ?_
  refine y_new hx hb hts (z_memU u8) tyX8 tyX8_ok hown (hts _ (z_mem k36)) (hts _ (z_mem k37)) (hts _ (z_mem k3)) hK.1 hY hS0 (rfl : vwCl[8]? = some (RX8, TX8, 2)) (by decide) (zkd_of (rfl : zcd wC 6 = 6) rfl) rfl (fun k hk => by rcases (show k = 0 ∨ k = 1 by omega) with rfl | rfl <;> rfl) (Nat.le_of_ble_eq_true rfl) (Nat.le_of_ble_eq_true rfl) dX7_init_65 (fun H hY hS0 => ?_)
  have hY : yS D dA vwCl wC 7 b _ _ H := hY
  refine lv_dup hx hb dX7_init_68 rfl ?_
  have hnw := hK.2 (RX7, 37, yX8_init, RX11) (List.mem_of_getElem? (i := 0) rfl)
  refine y_call (va_runIN (As := []) (rest := [.ref (b + 6), .int (iI 0), .ref (b + 3)]) ⟨hx, hb, hml, hown, hts⟩ (mk_Strip l D dA b _ _ 7 6 (by decide) (rfl : zcd wC 6 = 6) (rfl : zcd wC 7 = 7)) ⟨va_cnB 0 hts (z_gN k39) rfl rfl rfl hnw (hts _ (z_mem k3)) (by decide +kernel) ⟨(Nat.le_of_ble_eq_true rfl), (Nat.le_of_ble_eq_true rfl)⟩, rfl, (hts _ (z_mem k38))⟩ ⟨yP_blind, y_pre hY hK hO⟩ rfl rfl hl.1 rfl (lv_room (Nat.le_of_ble_eq_true rfl)) dX7_init_69 ⟨(Nat.le_of_ble_eq_true rfl), (Nat.le_of_ble_eq_true rfl)⟩) hS0 (fun H locs hY hS0 => ?_)
  have hY : yS D dA vwCl wC 8 b _ _ H := hY
  refine y_aast (t0 := 4) (N := 6) (i := 0) hx hb hK.1 (by decide) (hK.1.2 4 _ rfl).2 (rfl : vwCl[8]? = some (RX8, TX8, 2)) (by decide) hY hS0 (by decide) (zkd_of (rfl : zcd wC 3 = 3) rfl) (zln_of (rfl : zcd wC 3 = 3) rfl) (by decide) (zkd_of (rfl : zcd wC 6 = 6) rfl) (by decide) (by decide) (by decide) dX7_init_72 (fun H locs hY hS0 => ?_)
  refine lv_aload_n hx hb dX7_init_73 rfl (lv_at hl 1 rfl) ?_
  refine y_getr (t := 4) hx hb hts (z_memU u7) hown hK.1 hY f7_5 (by decide) (zkd_of (rfl : zcd wC 1 = 1) rfl) (tup_ne rfl (tup_ne rfl (tup_ne rfl tup_s))) (Or.inl (hts _ (z_mem k60))) dX7_init_74 ?_
  refine lv_iload_n hx hb dX7_init_77 rfl (lv_at hl 0 rfl) ?_
  refine y_new hx hb hts (z_memU u8) tyX8 tyX8_ok hown (hts _ (z_mem k36)) (hts _ (z_mem k37)) (hts _ (z_mem k3)) hK.1 hY hS0 (rfl : vwCl[8]? = some (RX8, TX8, 2)) (by decide) (zkd_of (rfl : zcd wC 8 = 6) rfl) rfl (fun k hk => by rcases (show k = 0 ∨ k = 1 by omega) with rfl | rfl <;> rfl) (Nat.le_of_ble_eq_true rfl) (Nat.le_of_ble_eq_true rfl) dX7_init_78 (fun H hY hS0 => ?_)
  have hY : yS D dA vwCl wC 9 b _ _ H := hY
  refine lv_dup hx hb dX7_init_81 rfl ?_
  have hnw := hK.2 (RX7, 37, yX8_init, RX11) (List.mem_of_getElem? (i := 0) rfl)
  refine y_call (va_runIN (As := []) (rest := [.ref (b + 8), .int (iI 0), .ref (b + 4)]) ⟨hx, hb, hml, hown, hts⟩ (mk_Strip l D dA b _ _ 9 8 (by decide) (rfl : zcd wC 8 = 6) (rfl : zcd wC 9 = 7)) ⟨va_cnB 0 hts (z_gN k39) rfl rfl rfl hnw (hts _ (z_mem k3)) (by decide +kernel) ⟨(Nat.le_of_ble_eq_true rfl), (Nat.le_of_ble_eq_true rfl)⟩, rfl, (hts _ (z_mem k38))⟩ ⟨yP_blind, y_pre hY hK hO⟩ rfl rfl hl.1 rfl (lv_room (Nat.le_of_ble_eq_true rfl)) dX7_init_82 ⟨(Nat.le_of_ble_eq_true rfl), (Nat.le_of_ble_eq_true rfl)⟩) hS0 (fun H locs hY hS0 => ?_)
  have hY : yS D dA vwCl wC 10 b _ _ H := hY
  refine y_aast (t0 := 4) (N := 6) (i := 0) hx hb hK.1 (by decide) (hK.1.2 4 _ rfl).2 (rfl : vwCl[8]? = some (RX8, TX8, 2)) (by decide) hY hS0 (by decide) (zkd_of (rfl : zcd wC 4 = 4) rfl) (zln_of (rfl : zcd wC 4 = 4) rfl) (by decide) (zkd_of (rfl : zcd wC 8 = 6) rfl) (by decide) (by decide) (by decide) dX7_init_85 (fun H locs hY hS0 => ?_)
  refine z_iinc (lv' := [(1, .int (iI (0 + 1))), (0, .ref (b + 1))]) hx hb dX7_init_86 hl (k := 0) rfl (by decide) rfl (fun ls hl => ?_)
  rw [show ((0 + 1) : Int) = 1 from by decide] at hl
  refine lv_goto (tgt := 55) hx hb dX7_init_89 (by decide) ?_
  refine lv_iload_n hx hb dX7_init_55 rfl (lv_at hl 0 rfl) ?_
  refine z_iconst hx hb dX7_init_56 ?_
  refine z_icmp_gt (tgt := 92) hx hb (by decide) (by decide) dX7_init_57 (by decide) (fun c9 => absurd c9 (by decide)) (fun _ => ?_)
  refine lv_aload_n hx hb dX7_init_60 rfl (lv_at hl 1 rfl) ?_
  refine y_getr (t := 3) hx hb hts (z_memU u7) hown hK.1 hY f7_4 (by decide) (zkd_of (rfl : zcd wC 1 = 1) rfl) (tup_ne rfl (tup_ne rfl (tup_ne rfl (tup_ne rfl (tup_ne rfl (tup_ne rfl tup_s)))))) (Or.inl (hts _ (z_mem k59))) dX7_init_61 ?_
  refine lv_iload_n hx hb dX7_init_64 rfl (lv_at hl 0 rfl) ?_
  refine y_new hx hb hts (z_memU u8) tyX8 tyX8_ok hown (hts _ (z_mem k36)) (hts _ (z_mem k37)) (hts _ (z_mem k3)) hK.1 hY hS0 (rfl : vwCl[8]? = some (RX8, TX8, 2)) (by decide) (zkd_of (rfl : zcd wC 10 = 6) rfl) rfl (fun k hk => by rcases (show k = 0 ∨ k = 1 by omega) with rfl | rfl <;> rfl) (Nat.le_of_ble_eq_true rfl) (Nat.le_of_ble_eq_true rfl) dX7_init_65 (fun H hY hS0 => ?_)
  have hY : yS D dA vwCl wC 11 b _ _ H := hY
  refine lv_dup hx hb dX7_init_68 rfl ?_
  have hnw := hK.2 (RX7, 37, yX8_init, RX11) (List.mem_of_getElem? (i := 0) rfl)
  refine y_call (va_runIN (As := []) (rest := [.ref (b + 10), .int (iI 1), .ref (b + 3)]) ⟨hx, hb, hml, hown, hts⟩ (mk_Strip l D dA b _ _ 11 10 (by decide) (rfl : zcd wC 10 = 6) (rfl : zcd wC 11 = 7)) ⟨va_cnB 0 hts (z_gN k39) rfl rfl rfl hnw (hts _ (z_mem k3)) (by decide +kernel) ⟨(Nat.le_of_ble_eq_true rfl), (Nat.le_of_ble_eq_true rfl)⟩, rfl, (hts _ (z_mem k38))⟩ ⟨yP_blind, y_pre hY hK hO⟩ rfl rfl hl.1 rfl (lv_room (Nat.le_of_ble_eq_true rfl)) dX7_init_69 ⟨(Nat.le_of_ble_eq_true rfl), (Nat.le_of_ble_eq_true rfl)⟩) hS0 (fun H locs hY hS0 => ?_)
  have hY : yS D dA vwCl wC 12 b _ _ H := hY
  refine y_aast (t0 := 4) (N := 6) (i := 1) hx hb hK.1 (by decide) (hK.1.2 4 _ rfl).2 (rfl : vwCl[8]? = some (RX8, TX8, 2)) (by decide) hY hS0 (by decide) (zkd_of (rfl : zcd wC 3 = 3) rfl) (zln_of (rfl : zcd wC 3 = 3) rfl) (by decide) (zkd_of (rfl : zcd wC 10 = 6) rfl) (by decide) (by decide) (by decide) dX7_init_72 (fun H locs hY hS0 => ?_)
  refine lv_aload_n hx hb dX7_init_73 rfl (lv_at hl 1 rfl) ?_
  refine y_getr (t := 4) hx hb hts (z_memU u7) hown hK.1 hY f7_5 (by decide) (zkd_of (rfl : zcd wC 1 = 1) rfl) (tup_ne rfl (tup_ne rfl (tup_ne rfl (tup_ne rfl (tup_ne rfl (tup_ne rfl (tup_ne rfl tup_s))))))) (Or.inl (hts _ (z_mem k60))) dX7_init_74 ?_
  refine lv_iload_n hx hb dX7_init_77 rfl (lv_at hl 0 rfl) ?_
  refine y_new hx hb hts (z_memU u8) tyX8 tyX8_ok hown (hts _ (z_mem k36)) (hts _ (z_mem k37)) (hts _ (z_mem k3)) hK.1 hY hS0 (rfl : vwCl[8]? = some (RX8, TX8, 2)) (by decide) (zkd_of (rfl : zcd wC 12 = 6) rfl) rfl (fun k hk => by rcases (show k = 0 ∨ k = 1 by omega) with rfl | rfl <;> rfl) (Nat.le_of_ble_eq_true rfl) (Nat.le_of_ble_eq_true rfl) dX7_init_78 (fun H hY hS0 => ?_)
  have hY : yS D dA vwCl wC 13 b _ _ H := hY
  refine lv_dup hx hb dX7_init_81 rfl ?_
  have hnw := hK.2 (RX7, 37, yX8_init, RX11) (List.mem_of_getElem? (i := 0) rfl)
  refine y_call (va_runIN (As := []) (rest := [.ref (b + 12), .int (iI 1), .ref (b + 4)]) ⟨hx, hb, hml, hown, hts⟩ (mk_Strip l D dA b _ _ 13 12 (by decide) (rfl : zcd wC 12 = 6) (rfl : zcd wC 13 = 7)) ⟨va_cnB 0 hts (z_gN k39) rfl rfl rfl hnw (hts _ (z_mem k3)) (by decide +kernel) ⟨(Nat.le_of_ble_eq_true rfl), (Nat.le_of_ble_eq_true rfl)⟩, rfl, (hts _ (z_mem k38))⟩ ⟨yP_blind, y_pre hY hK hO⟩ rfl rfl hl.1 rfl (lv_room (Nat.le_of_ble_eq_true rfl)) dX7_init_82 ⟨(Nat.le_of_ble_eq_true rfl), (Nat.le_of_ble_eq_true rfl)⟩) hS0 (fun H locs hY hS0 => ?_)
  have hY : yS D dA vwCl wC 14 b _ _ H := hY
  refine y_aast (t0 := 4) (N := 6) (i := 1) hx hb hK.1 (by decide) (hK.1.2 4 _ rfl).2 (rfl : vwCl[8]? = some (RX8, TX8, 2)) (by decide) hY hS0 (by decide) (zkd_of (rfl : zcd wC 4 = 4) rfl) (zln_of (rfl : zcd wC 4 = 4) rfl) (by decide) (zkd_of (rfl : zcd wC 12 = 6) rfl) (by decide) (by decide) (by decide) dX7_init_85 (fun H locs hY hS0 => ?_)
  refine z_iinc (lv' := [(1, .int (iI (1 + 1))), (0, .ref (b + 1))]) hx hb dX7_init_86 hl (k := 0) rfl (by decide) rfl (fun ls hl => ?_)
  rw [show ((1 + 1) : Int) = 2 from by decide] at hl
  refine lv_goto (tgt := 55) hx hb dX7_init_89 (by decide) ?_
  refine lv_iload_n hx hb dX7_init_55 rfl (lv_at hl 0 rfl) ?_
  refine z_iconst hx hb dX7_init_56 ?_
  refine z_icmp_gt (tgt := 92) hx hb (by decide) (by decide) dX7_init_57 (by decide) (fun c9 => absurd c9 (by decide)) (fun _ => ?_)
  refine lv_aload_n hx hb dX7_init_60 rfl (lv_at hl 1 rfl) ?_
  refine y_getr (t := 3) hx hb hts (z_memU u7) hown hK.1 hY f7_4 (by decide) (zkd_of (rfl : zcd wC 1 = 1) rfl) (tup_ne rfl (tup_ne rfl (tup_ne rfl (tup_ne rfl (tup_ne rfl (tup_ne rfl (tup_ne rfl (tup_ne rfl (tup_ne rfl (tup_ne rfl tup_s)))))))))) (Or.inl (hts _ (z_mem k59))) dX7_init_61 ?_
  refine lv_iload_n hx hb dX7_init_64 rfl (lv_at hl 0 rfl) ?_
  refine y_new hx hb hts (z_memU u8) tyX8 tyX8_ok hown (hts _ (z_mem k36)) (hts _ (z_mem k37)) (hts _ (z_mem k3)) hK.1 hY hS0 (rfl : vwCl[8]? = some (RX8, TX8, 2)) (by decide) (zkd_of (rfl : zcd wC 14 = 6) rfl) rfl (fun k hk => by rcases (show k = 0 ∨ k = 1 by omega) with rfl | rfl <;> rfl) (Nat.le_of_ble_eq_true rfl) (Nat.le_of_ble_eq_true rfl) dX7_init_65 (fun H hY hS0 => ?_)
  have hY : yS D dA vwCl wC 15 b _ _ H := hY
  refine lv_dup hx hb dX7_init_68 rfl ?_
  have hnw := hK.2 (RX7, 37, yX8_init, RX11) (List.mem_of_getElem? (i := 0) rfl)
  refine y_call (va_runIN (As := []) (rest := [.ref (b + 14), .int (iI 2), .ref (b + 3)]) ⟨hx, hb, hml, hown, hts⟩ (mk_Strip l D dA b _ _ 15 14 (by decide) (rfl : zcd wC 14 = 6) (rfl : zcd wC 15 = 7)) ⟨va_cnB 0 hts (z_gN k39) rfl rfl rfl hnw (hts _ (z_mem k3)) (by decide +kernel) ⟨(Nat.le_of_ble_eq_true rfl), (Nat.le_of_ble_eq_true rfl)⟩, rfl, (hts _ (z_mem k38))⟩ ⟨yP_blind, y_pre hY hK hO⟩ rfl rfl hl.1 rfl (lv_room (Nat.le_of_ble_eq_true rfl)) dX7_init_69 ⟨(Nat.le_of_ble_eq_true rfl), (Nat.le_of_ble_eq_true rfl)⟩) hS0 (fun H locs hY hS0 => ?_)
  have hY : yS D dA vwCl wC 16 b _ _ H := hY
  refine y_aast (t0 := 4) (N := 6) (i := 2) hx hb hK.1 (by decide) (hK.1.2 4 _ rfl).2 (rfl : vwCl[8]? = some (RX8, TX8, 2)) (by decide) hY hS0 (by decide) (zkd_of (rfl : zcd wC 3 = 3) rfl) (zln_of (rfl : zcd wC 3 = 3) rfl) (by decide) (zkd_of (rfl : zcd wC 14 = 6) rfl) (by decide) (by decide) (by decide) dX7_init_72 (fun H locs hY hS0 => ?_)
  refine lv_aload_n hx hb dX7_init_73 rfl (lv_at hl 1 rfl) ?_
  refine y_getr (t := 4) hx hb hts (z_memU u7) hown hK.1 hY f7_5 (by decide) (zkd_of (rfl : zcd wC 1 = 1) rfl) (tup_ne rfl (tup_ne rfl (tup_ne rfl (tup_ne rfl (tup_ne rfl (tup_ne rfl (tup_ne rfl (tup_ne rfl (tup_ne rfl (tup_ne rfl (tup_ne rfl tup_s))))))))))) (Or.inl (hts _ (z_mem k60))) dX7_init_74 ?_
  refine lv_iload_n hx hb dX7_init_77 rfl (lv_at hl 0 rfl) ?_
  refine y_new hx hb hts (z_memU u8) tyX8 tyX8_ok hown (hts _ (z_mem k36)) (hts _ (z_mem k37)) (hts _ (z_mem k3)) hK.1 hY hS0 (rfl : vwCl[8]? = some (RX8, TX8, 2)) (by decide) (zkd_of (rfl : zcd wC 16 = 6) rfl) rfl (fun k hk => by rcases (show k = 0 ∨ k = 1 by omega) with rfl | rfl <;> rfl) (Nat.le_of_ble_eq_true rfl) (Nat.le_of_ble_eq_true rfl) dX7_init_78 (fun H hY hS0 => ?_)
  have hY : yS D dA vwCl wC 17 b _ _ H := hY
  refine lv_dup hx hb dX7_init_81 rfl ?_
  have hnw := hK.2 (RX7, 37, yX8_init, RX11) (List.mem_of_getElem? (i := 0) rfl)
  refine y_call (va_runIN (As := []) (rest := [.ref (b + 16), .int (iI 2), .ref (b + 4)]) ⟨hx, hb, hml, hown, hts⟩ (mk_Strip l D dA b _ _ 17 16 (by decide) (rfl : zcd wC 16 = 6) (rfl : zcd wC 17 = 7)) ⟨va_cnB 0 hts (z_gN k39) rfl rfl rfl hnw (hts _ (z_mem k3)) (by decide +kernel) ⟨(Nat.le_of_ble_eq_true rfl), (Nat.le_of_ble_eq_true rfl)⟩, rfl, (hts _ (z_mem k38))⟩ ⟨yP_blind, y_pre hY hK hO⟩ rfl rfl hl.1 rfl (lv_room (Nat.le_of_ble_eq_true rfl)) dX7_init_82 ⟨(Nat.le_of_ble_eq_true rfl), (Nat.le_of_ble_eq_true rfl)⟩) hS0 (fun H locs hY hS0 => ?_)
  have hY : yS D dA vwCl wC 18 b _ _ H := hY
  refine y_aast (t0 := 4) (N := 6) (i := 2) hx hb hK.1 (by decide) (hK.1.2 4 _ rfl).2 (rfl : vwCl[8]? = some (RX8, TX8, 2)) (by decide) hY hS0 (by decide) (zkd_of (rfl : zcd wC 4 = 4) rfl) (zln_of (rfl : zcd wC 4 = 4) rfl) (by decide) (zkd_of (rfl : zcd wC 16 = 6) rfl) (by decide) (by decide) (by decide) dX7_init_85 (fun H locs hY hS0 => ?_)
  refine z_iinc (lv' := [(1, .int (iI (2 + 1))), (0, .ref (b + 1))]) hx hb dX7_init_86 hl (k := 0) rfl (by decide) rfl (fun ls hl => ?_)
  rw [show ((2 + 1) : Int) = 3 from by decide] at hl
  refine lv_goto (tgt := 55) hx hb dX7_init_89 (by decide) ?_
  refine lv_iload_n hx hb dX7_init_55 rfl (lv_at hl 0 rfl) ?_
  refine z_iconst hx hb dX7_init_56 ?_
  refine z_icmp_gt (tgt := 92) hx hb (by decide) (by decide) dX7_init_57 (by decide) (fun c9 => absurd c9 (by decide)) (fun _ => ?_)
  refine lv_aload_n hx hb dX7_init_60 rfl (lv_at hl 1 rfl) ?_
  refine y_getr (t := 3) hx hb hts (z_memU u7) hown hK.1 hY f7_4 (by decide) (zkd_of (rfl : zcd wC 1 = 1) rfl) (tup_ne rfl (tup_ne rfl (tup_ne rfl (tup_ne rfl (tup_ne rfl (tup_ne rfl (tup_ne rfl (tup_ne rfl (tup_ne rfl (tup_ne rfl (tup_ne rfl (tup_ne rfl (tup_ne rfl (tup_ne rfl tup_s)))))))))))))) (Or.inl (hts _ (z_mem k59))) dX7_init_61 ?_
  refine lv_iload_n hx hb dX7_init_64 rfl (lv_at hl 0 rfl) ?_
  refine y_new hx hb hts (z_memU u8) tyX8 tyX8_ok hown (hts _ (z_mem k36)) (hts _ (z_mem k37)) (hts _ (z_mem k3)) hK.1 hY hS0 (rfl : vwCl[8]? = some (RX8, TX8, 2)) (by decide) (zkd_of (rfl : zcd wC 18 = 6) rfl) rfl (fun k hk => by rcases (show k = 0 ∨ k = 1 by omega) with rfl | rfl <;> rfl) (Nat.le_of_ble_eq_true rfl) (Nat.le_of_ble_eq_true rfl) dX7_init_65 (fun H hY hS0 => ?_)
  have hY : yS D dA vwCl wC 19 b _ _ H := hY
  refine lv_dup hx hb dX7_init_68 rfl ?_
  have hnw := hK.2 (RX7, 37, yX8_init, RX11) (List.mem_of_getElem? (i := 0) rfl)
  refine y_call (va_runIN (As := []) (rest := [.ref (b + 18), .int (iI 3), .ref (b + 3)]) ⟨hx, hb, hml, hown, hts⟩ (mk_Strip l D dA b _ _ 19 18 (by decide) (rfl : zcd wC 18 = 6) (rfl : zcd wC 19 = 7)) ⟨va_cnB 0 hts (z_gN k39) rfl rfl rfl hnw (hts _ (z_mem k3)) (by decide +kernel) ⟨(Nat.le_of_ble_eq_true rfl), (Nat.le_of_ble_eq_true rfl)⟩, rfl, (hts _ (z_mem k38))⟩ ⟨yP_blind, y_pre hY hK hO⟩ rfl rfl hl.1 rfl (lv_room (Nat.le_of_ble_eq_true rfl)) dX7_init_69 ⟨(Nat.le_of_ble_eq_true rfl), (Nat.le_of_ble_eq_true rfl)⟩) hS0 (fun H locs hY hS0 => ?_)
  have hY : yS D dA vwCl wC 20 b _ _ H := hY
  refine y_aast (t0 := 4) (N := 6) (i := 3) hx hb hK.1 (by decide) (hK.1.2 4 _ rfl).2 (rfl : vwCl[8]? = some (RX8, TX8, 2)) (by decide) hY hS0 (by decide) (zkd_of (rfl : zcd wC 3 = 3) rfl) (zln_of (rfl : zcd wC 3 = 3) rfl) (by decide) (zkd_of (rfl : zcd wC 18 = 6) rfl) (by decide) (by decide) (by decide) dX7_init_72 (fun H locs hY hS0 => ?_)
  refine lv_aload_n hx hb dX7_init_73 rfl (lv_at hl 1 rfl) ?_
  refine y_getr (t := 4) hx hb hts (z_memU u7) hown hK.1 hY f7_5 (by decide) (zkd_of (rfl : zcd wC 1 = 1) rfl) (tup_ne rfl (tup_ne rfl (tup_ne rfl (tup_ne rfl (tup_ne rfl (tup_ne rfl (tup_ne rfl (tup_ne rfl (tup_ne rfl (tup_ne rfl (tup_ne rfl (tup_ne rfl (tup_ne rfl (tup_ne rfl (tup_ne rfl tup_s))))))))))))))) (Or.inl (hts _ (z_mem k60))) dX7_init_74 ?_
  refine lv_iload_n hx hb dX7_init_77 rfl (lv_at hl 0 rfl) ?_
  refine y_new hx hb hts (z_memU u8) tyX8 tyX8_ok hown (hts _ (z_mem k36)) (hts _ (z_mem k37)) (hts _ (z_mem k3)) hK.1 hY hS0 (rfl : vwCl[8]? = some (RX8, TX8, 2)) (by decide) (zkd_of (rfl : zcd wC 20 = 6) rfl) rfl (fun k hk => by rcases (show k = 0 ∨ k = 1 by omega) with rfl | rfl <;> rfl) (Nat.le_of_ble_eq_true rfl) (Nat.le_of_ble_eq_true rfl) dX7_init_78 (fun H hY hS0 => ?_)
  have hY : yS D dA vwCl wC 21 b _ _ H := hY
  refine lv_dup hx hb dX7_init_81 rfl ?_
  have hnw := hK.2 (RX7, 37, yX8_init, RX11) (List.mem_of_getElem? (i := 0) rfl)
  refine y_call (va_runIN (As := []) (rest := [.ref (b + 20), .int (iI 3), .ref (b + 4)]) ⟨hx, hb, hml, hown, hts⟩ (mk_Strip l D dA b _ _ 21 20 (by decide) (rfl : zcd wC 20 = 6) (rfl : zcd wC 21 = 7)) ⟨va_cnB 0 hts (z_gN k39) rfl rfl rfl hnw (hts _ (z_mem k3)) (by decide +kernel) ⟨(Nat.le_of_ble_eq_true rfl), (Nat.le_of_ble_eq_true rfl)⟩, rfl, (hts _ (z_mem k38))⟩ ⟨yP_blind, y_pre hY hK hO⟩ rfl rfl hl.1 rfl (lv_room (Nat.le_of_ble_eq_true rfl)) dX7_init_82 ⟨(Nat.le_of_ble_eq_true rfl), (Nat.le_of_ble_eq_true rfl)⟩) hS0 (fun H locs hY hS0 => ?_)
  have hY : yS D dA vwCl wC 22 b _ _ H := hY
  refine y_aast (t0 := 4) (N := 6) (i := 3) hx hb hK.1 (by decide) (hK.1.2 4 _ rfl).2 (rfl : vwCl[8]? = some (RX8, TX8, 2)) (by decide) hY hS0 (by decide) (zkd_of (rfl : zcd wC 4 = 4) rfl) (zln_of (rfl : zcd wC 4 = 4) rfl) (by decide) (zkd_of (rfl : zcd wC 20 = 6) rfl) (by decide) (by decide) (by decide) dX7_init_85 (fun H locs hY hS0 => ?_)
  refine z_iinc (lv' := [(1, .int (iI (3 + 1))), (0, .ref (b + 1))]) hx hb dX7_init_86 hl (k := 0) rfl (by decide) rfl (fun ls hl => ?_)
  rw [show ((3 + 1) : Int) = 4 from by decide] at hl
  refine lv_goto (tgt := 55) hx hb dX7_init_89 (by decide) ?_
  refine lv_iload_n hx hb dX7_init_55 rfl (lv_at hl 0 rfl) ?_
  refine z_iconst hx hb dX7_init_56 ?_
  refine z_icmp_gt (tgt := 92) hx hb (by decide) (by decide) dX7_init_57 (by decide) (fun c9 => absurd c9 (by decide)) (fun _ => ?_)
  refine lv_aload_n hx hb dX7_init_60 rfl (lv_at hl 1 rfl) ?_
  refine y_getr (t := 3) hx hb hts (z_memU u7) hown hK.1 hY f7_4 (by decide) (zkd_of (rfl : zcd wC 1 = 1) rfl) (tup_ne rfl (tup_ne rfl (tup_ne rfl (tup_ne rfl (tup_ne rfl (tup_ne rfl (tup_ne rfl (tup_ne rfl (tup_ne rfl (tup_ne rfl (tup_ne rfl (tup_ne rfl (tup_ne rfl (tup_ne rfl (tup_ne rfl (tup_ne rfl (tup_ne rfl (tup_ne rfl tup_s)))))))))))))))))) (Or.inl (hts _ (z_mem k59))) dX7_init_61 ?_
  refine lv_iload_n hx hb dX7_init_64 rfl (lv_at hl 0 rfl) ?_
  refine y_new hx hb hts (z_memU u8) tyX8 tyX8_ok hown (hts _ (z_mem k36)) (hts _ (z_mem k37)) (hts _ (z_mem k3)) hK.1 hY hS0 (rfl : vwCl[8]? = some (RX8, TX8, 2)) (by decide) (zkd_of (rfl : zcd wC 22 = 6) rfl) rfl (fun k hk => by rcases (show k = 0 ∨ k = 1 by omega) with rfl | rfl <;> rfl) (Nat.le_of_ble_eq_true rfl) (Nat.le_of_ble_eq_true rfl) dX7_init_65 (fun H hY hS0 => ?_)
  have hY : yS D dA vwCl wC 23 b _ _ H := hY
  refine lv_dup hx hb dX7_init_68 rfl ?_
  have hnw := hK.2 (RX7, 37, yX8_init, RX11) (List.mem_of_getElem? (i := 0) rfl)
  refine y_call (va_runIN (As := []) (rest := [.ref (b + 22), .int (iI 4), .ref (b + 3)]) ⟨hx, hb, hml, hown, hts⟩ (mk_Strip l D dA b _ _ 23 22 (by decide) (rfl : zcd wC 22 = 6) (rfl : zcd wC 23 = 7)) ⟨va_cnB 0 hts (z_gN k39) rfl rfl rfl hnw (hts _ (z_mem k3)) (by decide +kernel) ⟨(Nat.le_of_ble_eq_true rfl), (Nat.le_of_ble_eq_true rfl)⟩, rfl, (hts _ (z_mem k38))⟩ ⟨yP_blind, y_pre hY hK hO⟩ rfl rfl hl.1 rfl (lv_room (Nat.le_of_ble_eq_true rfl)) dX7_init_69 ⟨(Nat.le_of_ble_eq_true rfl), (Nat.le_of_ble_eq_true rfl)⟩) hS0 (fun H locs hY hS0 => ?_)
  have hY : yS D dA vwCl wC 24 b _ _ H := hY
  refine y_aast (t0 := 4) (N := 6) (i := 4) hx hb hK.1 (by decide) (hK.1.2 4 _ rfl).2 (rfl : vwCl[8]? = some (RX8, TX8, 2)) (by decide) hY hS0 (by decide) (zkd_of (rfl : zcd wC 3 = 3) rfl) (zln_of (rfl : zcd wC 3 = 3) rfl) (by decide) (zkd_of (rfl : zcd wC 22 = 6) rfl) (by decide) (by decide) (by decide) dX7_init_72 (fun H locs hY hS0 => ?_)
  refine lv_aload_n hx hb dX7_init_73 rfl (lv_at hl 1 rfl) ?_
  refine y_getr (t := 4) hx hb hts (z_memU u7) hown hK.1 hY f7_5 (by decide) (zkd_of (rfl : zcd wC 1 = 1) rfl) (tup_ne rfl (tup_ne rfl (tup_ne rfl (tup_ne rfl (tup_ne rfl (tup_ne rfl (tup_ne rfl (tup_ne rfl (tup_ne rfl (tup_ne rfl (tup_ne rfl (tup_ne rfl (tup_ne rfl (tup_ne rfl (tup_ne rfl (tup_ne rfl (tup_ne rfl (tup_ne rfl (tup_ne rfl tup_s))))))))))))))))))) (Or.inl (hts _ (z_mem k60))) dX7_init_74 ?_
  refine lv_iload_n hx hb dX7_init_77 rfl (lv_at hl 0 rfl) ?_
  refine y_new hx hb hts (z_memU u8) tyX8 tyX8_ok hown (hts _ (z_mem k36)) (hts _ (z_mem k37)) (hts _ (z_mem k3)) hK.1 hY hS0 (rfl : vwCl[8]? = some (RX8, TX8, 2)) (by decide) (zkd_of (rfl : zcd wC 24 = 6) rfl) rfl (fun k hk => by rcases (show k = 0 ∨ k = 1 by omega) with rfl | rfl <;> rfl) (Nat.le_of_ble_eq_true rfl) (Nat.le_of_ble_eq_true rfl) dX7_init_78 (fun H hY hS0 => ?_)
  have hY : yS D dA vwCl wC 25 b _ _ H := hY
  refine lv_dup hx hb dX7_init_81 rfl ?_
  have hnw := hK.2 (RX7, 37, yX8_init, RX11) (List.mem_of_getElem? (i := 0) rfl)
  refine y_call (va_runIN (As := []) (rest := [.ref (b + 24), .int (iI 4), .ref (b + 4)]) ⟨hx, hb, hml, hown, hts⟩ (mk_Strip l D dA b _ _ 25 24 (by decide) (rfl : zcd wC 24 = 6) (rfl : zcd wC 25 = 7)) ⟨va_cnB 0 hts (z_gN k39) rfl rfl rfl hnw (hts _ (z_mem k3)) (by decide +kernel) ⟨(Nat.le_of_ble_eq_true rfl), (Nat.le_of_ble_eq_true rfl)⟩, rfl, (hts _ (z_mem k38))⟩ ⟨yP_blind, y_pre hY hK hO⟩ rfl rfl hl.1 rfl (lv_room (Nat.le_of_ble_eq_true rfl)) dX7_init_82 ⟨(Nat.le_of_ble_eq_true rfl), (Nat.le_of_ble_eq_true rfl)⟩) hS0 (fun H locs hY hS0 => ?_)
  have hY : yS D dA vwCl wC 26 b _ _ H := hY
  refine y_aast (t0 := 4) (N := 6) (i := 4) hx hb hK.1 (by decide) (hK.1.2 4 _ rfl).2 (rfl : vwCl[8]? = some (RX8, TX8, 2)) (by decide) hY hS0 (by decide) (zkd_of (rfl : zcd wC 4 = 4) rfl) (zln_of (rfl : zcd wC 4 = 4) rfl) (by decide) (zkd_of (rfl : zcd wC 24 = 6) rfl) (by decide) (by decide) (by decide) dX7_init_85 (fun H locs hY hS0 => ?_)
  refine z_iinc (lv' := [(1, .int (iI (4 + 1))), (0, .ref (b + 1))]) hx hb dX7_init_86 hl (k := 0) rfl (by decide) rfl (fun ls hl => ?_)
  rw [show ((4 + 1) : Int) = 5 from by decide] at hl
  refine lv_goto (tgt := 55) hx hb dX7_init_89 (by decide) ?_
  refine lv_iload_n hx hb dX7_init_55 rfl (lv_at hl 0 rfl) ?_
  refine z_iconst hx hb dX7_init_56 ?_
  refine z_icmp_gt (tgt := 92) hx hb (by decide) (by decide) dX7_init_57 (by decide) (fun c9 => absurd c9 (by decide)) (fun _ => ?_)
  refine lv_aload_n hx hb dX7_init_60 rfl (lv_at hl 1 rfl) ?_
  refine y_getr (t := 3) hx hb hts (z_memU u7) hown hK.1 hY f7_4 (by decide) (zkd_of (rfl : zcd wC 1 = 1) rfl) (tup_ne rfl (tup_ne rfl (tup_ne rfl (tup_ne rfl (tup_ne rfl (tup_ne rfl (tup_ne rfl (tup_ne rfl (tup_ne rfl (tup_ne rfl (tup_ne rfl (tup_ne rfl (tup_ne rfl (tup_ne rfl (tup_ne rfl (tup_ne rfl (tup_ne rfl (tup_ne rfl (tup_ne rfl (tup_ne rfl (tup_ne rfl (tup_ne rfl tup_s)))))))))))))))))))))) (Or.inl (hts _ (z_mem k59))) dX7_init_61 ?_
  refine lv_iload_n hx hb dX7_init_64 rfl (lv_at hl 0 rfl) ?_
  refine y_new hx hb hts (z_memU u8) tyX8 tyX8_ok hown (hts _ (z_mem k36)) (hts _ (z_mem k37)) (hts _ (z_mem k3)) hK.1 hY hS0 (rfl : vwCl[8]? = some (RX8, TX8, 2)) (by decide) (zkd_of (rfl : zcd wC 26 = 6) rfl) rfl (fun k hk => by rcases (show k = 0 ∨ k = 1 by omega) with rfl | rfl <;> rfl) (Nat.le_of_ble_eq_true rfl) (Nat.le_of_ble_eq_true rfl) dX7_init_65 (fun H hY hS0 => ?_)
  have hY : yS D dA vwCl wC 27 b _ _ H := hY
  refine lv_dup hx hb dX7_init_68 rfl ?_
  have hnw := hK.2 (RX7, 37, yX8_init, RX11) (List.mem_of_getElem? (i := 0) rfl)
  refine y_call (va_runIN (As := []) (rest := [.ref (b + 26), .int (iI 5), .ref (b + 3)]) ⟨hx, hb, hml, hown, hts⟩ (mk_Strip l D dA b _ _ 27 26 (by decide) (rfl : zcd wC 26 = 6) (rfl : zcd wC 27 = 7)) ⟨va_cnB 0 hts (z_gN k39) rfl rfl rfl hnw (hts _ (z_mem k3)) (by decide +kernel) ⟨(Nat.le_of_ble_eq_true rfl), (Nat.le_of_ble_eq_true rfl)⟩, rfl, (hts _ (z_mem k38))⟩ ⟨yP_blind, y_pre hY hK hO⟩ rfl rfl hl.1 rfl (lv_room (Nat.le_of_ble_eq_true rfl)) dX7_init_69 ⟨(Nat.le_of_ble_eq_true rfl), (Nat.le_of_ble_eq_true rfl)⟩) hS0 (fun H locs hY hS0 => ?_)
  have hY : yS D dA vwCl wC 28 b _ _ H := hY
  refine y_aast (t0 := 4) (N := 6) (i := 5) hx hb hK.1 (by decide) (hK.1.2 4 _ rfl).2 (rfl : vwCl[8]? = some (RX8, TX8, 2)) (by decide) hY hS0 (by decide) (zkd_of (rfl : zcd wC 3 = 3) rfl) (zln_of (rfl : zcd wC 3 = 3) rfl) (by decide) (zkd_of (rfl : zcd wC 26 = 6) rfl) (by decide) (by decide) (by decide) dX7_init_72 (fun H locs hY hS0 => ?_)
  refine lv_aload_n hx hb dX7_init_73 rfl (lv_at hl 1 rfl) ?_
  refine y_getr (t := 4) hx hb hts (z_memU u7) hown hK.1 hY f7_5 (by decide) (zkd_of (rfl : zcd wC 1 = 1) rfl) (tup_ne rfl (tup_ne rfl (tup_ne rfl (tup_ne rfl (tup_ne rfl (tup_ne rfl (tup_ne rfl (tup_ne rfl (tup_ne rfl (tup_ne rfl (tup_ne rfl (tup_ne rfl (tup_ne rfl (tup_ne rfl (tup_ne rfl (tup_ne rfl (tup_ne rfl (tup_ne rfl (tup_ne rfl (tup_ne rfl (tup_ne rfl (tup_ne rfl (tup_ne rfl tup_s))))))))))))))))))))))) (Or.inl (hts _ (z_mem k60))) dX7_init_74 ?_
  refine lv_iload_n hx hb dX7_init_77 rfl (lv_at hl 0 rfl) ?_
  refine y_new hx hb hts (z_memU u8) tyX8 tyX8_ok hown (hts _ (z_mem k36)) (hts _ (z_mem k37)) (hts _ (z_mem k3)) hK.1 hY hS0 (rfl : vwCl[8]? = some (RX8, TX8, 2)) (by decide) (zkd_of (rfl : zcd wC 28 = 6) rfl) rfl (fun k hk => by rcases (show k = 0 ∨ k = 1 by omega) with rfl | rfl <;> rfl) (Nat.le_of_ble_eq_true rfl) (Nat.le_of_ble_eq_true rfl) dX7_init_78 (fun H hY hS0 => ?_)
  have hY : yS D dA vwCl wC 29 b _ _ H := hY
  refine lv_dup hx hb dX7_init_81 rfl ?_
  have hnw := hK.2 (RX7, 37, yX8_init, RX11) (List.mem_of_getElem? (i := 0) rfl)
  refine y_call (va_runIN (As := []) (rest := [.ref (b + 28), .int (iI 5), .ref (b + 4)]) ⟨hx, hb, hml, hown, hts⟩ (mk_Strip l D dA b _ _ 29 28 (by decide) (rfl : zcd wC 28 = 6) (rfl : zcd wC 29 = 7)) ⟨va_cnB 0 hts (z_gN k39) rfl rfl rfl hnw (hts _ (z_mem k3)) (by decide +kernel) ⟨(Nat.le_of_ble_eq_true rfl), (Nat.le_of_ble_eq_true rfl)⟩, rfl, (hts _ (z_mem k38))⟩ ⟨yP_blind, y_pre hY hK hO⟩ rfl rfl hl.1 rfl (lv_room (Nat.le_of_ble_eq_true rfl)) dX7_init_82 ⟨(Nat.le_of_ble_eq_true rfl), (Nat.le_of_ble_eq_true rfl)⟩) hS0 (fun H locs hY hS0 => ?_)
  have hY : yS D dA vwCl wC 30 b _ _ H := hY
  refine y_aast (t0 := 4) (N := 6) (i := 5) hx hb hK.1 (by decide) (hK.1.2 4 _ rfl).2 (rfl : vwCl[8]? = some (RX8, TX8, 2)) (by decide) hY hS0 (by decide) (zkd_of (rfl : zcd wC 4 = 4) rfl) (zln_of (rfl : zcd wC 4 = 4) rfl) (by decide) (zkd_of (rfl : zcd wC 28 = 6) rfl) (by decide) (by decide) (by decide) dX7_init_85 (fun H locs hY hS0 => ?_)
  refine z_iinc (lv' := [(1, .int (iI (5 + 1))), (0, .ref (b + 1))]) hx hb dX7_init_86 hl (k := 0) rfl (by decide) rfl (fun ls hl => ?_)
  rw [show ((5 + 1) : Int) = 6 from by decide] at hl
  refine lv_goto (tgt := 55) hx hb dX7_init_89 (by decide) ?_
  refine lv_iload_n hx hb dX7_init_55 rfl (lv_at hl 0 rfl) ?_
  refine z_iconst hx hb dX7_init_56 ?_
  refine z_icmp_gt (tgt := 92) hx hb (by decide) (by decide) dX7_init_57 (by decide) (fun _ => ?_) (fun c9 => absurd c9 (by decide))
  exact y_ret hx hb hr hlocks hY hS0 dX7_init_92
