def mT_C96 (T : zT) : zT := (tup (tup (tup (tup (tup (tup (tup (tup (tup (tup (tup (tup (tup (tup (tup (tup (tup (tup (tup (tup (tup (tup (tup (tup (tup (tup (tup (tup (tup (tup (tup (tup (tup (tup (tup (tup T 96 1 97) 96 2 98) 96 3 99) 96 4 100) 101 0 102) 97 (0 : Int).toNat 101) 103 0 104) 97 (1 : Int).toNat 103) 105 0 106) 97 (2 : Int).toNat 105) 107 0 108) 97 (3 : Int).toNat 107) 109 0 110) 97 (4 : Int).toNat 109) 111 0 112) 97 (5 : Int).toNat 111) 113 0 114) 97 (6 : Int).toNat 113) 115 0 116) 97 (7 : Int).toNat 115) 117 0 118) 97 (8 : Int).toNat 117) 119 0 120) 97 (9 : Int).toNat 119) 121 0 122) 97 (10 : Int).toNat 121) 123 0 124) 97 (11 : Int).toNat 123) 125 0 126) 97 (12 : Int).toNat 125) 127 0 128) 97 (13 : Int).toNat 127) 129 0 130) 97 (14 : Int).toNat 129) 131 0 132) 97 (15 : Int).toNat 131)
def mM_C96 (M : zM) : zM := (zup (zup (zup (zup (zup (zup (zup (zup (zup (zup (zup (zup (zup (zup (zup (zup (zup M 96 0 0) 101 1 0) 103 1 0) 105 1 0) 107 1 0) 109 1 0) 111 1 0) 113 1 0) 115 1 0) 117 1 0) 119 1 0) 121 1 0) 123 1 0) 125 1 0) 127 1 0) 129 1 0) 131 1 0)
set_option maxHeartbeats 4000000 in
set_option maxRecDepth 100000 in
theorem mk_C96 (l : Launch) (D : va_G) (dA : Nat → ClassId) (b : Nat) (M : zM) (T : zT) : Met l yX10_init (.code yX10_init cX10_init 2 none :: zt) (y_rm 2 36 489) (va_Pc [.ref (b + 96)] (yP D dA vwCl (z_tys dA) wC 97 b M T)) (va_Qv (fun _ => True) (yB D dA vwCl wC 133 b (mM_C96 M) (mT_C96 T)) (yA b)) 36 489 (yA b) := by
  refine Met.ofW (cc := cX10_init) (maxL := 2) (ret := none) (by decide) rfl ?_
  intro p e s m args below meth c s₁ B hml hv
  obtain ⟨hargs, hY, hK, hO⟩ := hv
  have hx := B.exec
  have hb := B.bytes
  have hr := B.returns
  have hts := atoms_spec (ws := .code yX10_init cX10_init 2 none :: zt) B.pre
  have hown : s.vm.findClass RX10 = some m.cls := findClass_of_methodNamed B.named
  have hlocks := B.notSynchronized
  have hin : meth.name = "<init>" := (name_of_methodNamed B.named B.method).1
  have hS0 : va_S (yA b) s.heap s.heap [] := va_S.rf
  have hl := lv_entry ([.ref (b + 96)]) (n := 2) (Nat.le_of_ble_eq_true rfl)
  have hent : entryFrame m args 2 = F0 m 0 ((lg_sl ([.ref (b + 96)]) ++ List.replicate (2 - (lg_sl ([.ref (b + 96)])).length) Slot.unset).toArray) [] := by rw [hargs]; exact lg_entry_eq m ([.ref (b + 96)]) 2
  rw [hent]
  generalize (lg_sl ([.ref (b + 96)]) ++ List.replicate (2 - (lg_sl ([.ref (b + 96)])).length) Slot.unset).toArray = ls at hl ⊢
  have hl : lv_has ls 2 [(0, .ref (b + 96))] := hl
  refine lv_aload_n hx hb dX10_init_0 rfl (lv_at hl 0 rfl) ?_
  refine W.objInit hx hb hown (hts _ (z_mem k229)) (hts _ (z_mem k28)) (hts _ (z_mem k29)) rfl (by rw [hml]; exact hl.1) rfl dX10_init_1 (Nat.le_of_ble_eq_true rfl) (Nat.le_of_ble_eq_true rfl) ?_
  refine W.eq (g2 := F0 m 4 ls []) rfl ?_
  refine lv_aload_n hx hb dX10_init_4 rfl (lv_at hl 0 rfl) ?_
  refine z_iconst hx hb dX10_init_5 ?_
  refine y_puti (z := 0) hx hb hts (z_memU u10) tyX10 tyX10_ok nmX10 hown hK.1 hY hS0 f10_0 (by decide) (zkd_of (rfl : zcd wC 96 = 44) rfl) (Or.inl (hts _ (z_mem k231))) rfl (by decide +kernel) (zbd_in (rfl : zcd wC 96 = 44) rfl (by decide)) dX10_init_6 (fun H locs hY hS0 => ?_)
  refine lv_aload_n hx hb dX10_init_9 rfl (lv_at hl 0 rfl) ?_
  refine z_bipush hx hb (by decide) dX10_init_10 ?_
  refine y_newq (C := "TapeRings$Strip") (t0 := 4) (N := 16) hx hb hown (hts _ (z_mem k230)) hO.1 (by decide) (hK.1.2 4 _ rfl).2 hY hS0 (zkd_of (rfl : zcd wC 97 = 45) rfl) (zln_of (rfl : zcd wC 97 = 45) rfl) (by decide) rfl (by decide) (by decide) (Nat.le_of_ble_eq_true rfl) (Nat.le_of_ble_eq_true rfl) dX10_init_12 (fun H hY hS0 => ?_)
  have hY : yS D dA vwCl wC 98 b _ _ H := hY
  refine y_putrF (t := 97) hx hb hts (z_memU u10) tyX10 tyX10_ok nmX10 hown hK.1 hY hS0 f10_1 (by decide) (zkd_of (rfl : zcd wC 96 = 44) rfl) (hts _ (z_mem k233)) rfl hin rfl (tyX10_ok 1 (by decide)) (fun _ => rfl) (fun _ => rfl) dX10_init_15 (fun H locs hY hS0 => ?_)
  refine lv_aload_n hx hb dX10_init_18 rfl (lv_at hl 0 rfl) ?_
  refine z_bipush hx hb (by decide) dX10_init_19 ?_
  refine y_newa (atype := .int) hx hb (hts _ (z_mem k53)) (t0 := 0) (N := 16) (by decide) (by decide) (hK.1.2 0 _ rfl).2 rfl hY hS0 (zkd_of (rfl : zcd wC 98 = 46) rfl) (zln_of (rfl : zcd wC 98 = 46) rfl) (by decide) rfl (by decide) (by decide) (Nat.le_of_ble_eq_true rfl) (Nat.le_of_ble_eq_true rfl) dX10_init_21 (fun H hY hS0 => ?_)
  have hY : yS D dA vwCl wC 99 b _ _ H := hY
  refine y_putrF (t := 98) hx hb hts (z_memU u10) tyX10 tyX10_ok nmX10 hown hK.1 hY hS0 f10_2 (by decide) (zkd_of (rfl : zcd wC 96 = 44) rfl) (hts _ (z_mem k234)) rfl hin rfl (tyX10_ok 2 (by decide)) (fun _ => rfl) (fun _ => rfl) dX10_init_23 (fun H locs hY hS0 => ?_)
  refine lv_aload_n hx hb dX10_init_26 rfl (lv_at hl 0 rfl) ?_
  refine z_bipush hx hb (by decide) dX10_init_27 ?_
  refine y_newa (atype := .int) hx hb (hts _ (z_mem k53)) (t0 := 0) (N := 16) (by decide) (by decide) (hK.1.2 0 _ rfl).2 rfl hY hS0 (zkd_of (rfl : zcd wC 99 = 47) rfl) (zln_of (rfl : zcd wC 99 = 47) rfl) (by decide) rfl (by decide) (by decide) (Nat.le_of_ble_eq_true rfl) (Nat.le_of_ble_eq_true rfl) dX10_init_29 (fun H hY hS0 => ?_)
  have hY : yS D dA vwCl wC 100 b _ _ H := hY
  refine y_putrF (t := 99) hx hb hts (z_memU u10) tyX10 tyX10_ok nmX10 hown hK.1 hY hS0 f10_3 (by decide) (zkd_of (rfl : zcd wC 96 = 44) rfl) (hts _ (z_mem k235)) rfl hin rfl (tyX10_ok 3 (by decide)) (fun _ => rfl) (fun _ => rfl) dX10_init_31 (fun H locs hY hS0 => ?_)
  refine lv_aload_n hx hb dX10_init_34 rfl (lv_at hl 0 rfl) ?_
  refine z_bipush hx hb (by decide) dX10_init_35 ?_
  refine y_newa (atype := .int) hx hb (hts _ (z_mem k53)) (t0 := 0) (N := 25) (by decide) (by decide) (hK.1.2 0 _ rfl).2 rfl hY hS0 (zkd_of (rfl : zcd wC 100 = 48) rfl) (zln_of (rfl : zcd wC 100 = 48) rfl) (by decide) rfl (by decide) (by decide) (Nat.le_of_ble_eq_true rfl) (Nat.le_of_ble_eq_true rfl) dX10_init_37 (fun H hY hS0 => ?_)
  have hY : yS D dA vwCl wC 101 b _ _ H := hY
  refine y_putrF (t := 100) hx hb hts (z_memU u10) tyX10 tyX10_ok nmX10 hown hK.1 hY hS0 f10_4 (by decide) (zkd_of (rfl : zcd wC 96 = 44) rfl) (hts _ (z_mem k236)) rfl hin rfl (tyX10_ok 4 (by decide)) (fun _ => rfl) (fun _ => rfl) dX10_init_39 (fun H locs hY hS0 => ?_)
  refine z_iconst hx hb dX10_init_42 ?_
  refine lv_istore_n (lv' := [(1, .int (iI 0)), (0, .ref (b + 96))]) hx hb dX10_init_43 rfl hl (by decide) rfl (fun ls hl => ?_)
  refine lv_iload_n hx hb dX10_init_44 rfl (lv_at hl 0 rfl) ?_
  refine z_bipush hx hb (by decide) dX10_init_45 ?_
  refine z_icmp_ge (tgt := 69) hx hb (by decide) (by decide) dX10_init_47 (by decide) (fun c9 => absurd c9 (by decide)) (fun _ => ?_)
  refine lv_aload_n hx hb dX10_init_50 rfl (lv_at hl 1 rfl) ?_
  refine y_getr (t := 97) hx hb hts (z_memU u10) hown hK.1 hY f10_1 (by decide) (zkd_of (rfl : zcd wC 96 = 44) rfl) (tup_ne rfl (tup_ne rfl (tup_ne rfl tup_s))) (Or.inl (hts _ (z_mem k233))) dX10_init_51 ?_
  refine lv_iload_n hx hb dX10_init_54 rfl (lv_at hl 0 rfl) ?_
  refine y_new hx hb hts (z_memU u8) tyX8 tyX8_ok hown (hts _ (z_mem k230)) (hts _ (z_mem k37)) (hts _ (z_mem k3)) hK.1 hY hS0 (rfl : vwCl[8]? = some (RX8, TX8, 2)) (by decide) (zkd_of (rfl : zcd wC 101 = 6) rfl) rfl (fun k hk => by rcases (show k = 0 ∨ k = 1 by omega) with rfl | rfl <;> rfl) (Nat.le_of_ble_eq_true rfl) (Nat.le_of_ble_eq_true rfl) dX10_init_55 (fun H hY hS0 => ?_)
  have hY : yS D dA vwCl wC 102 b _ _ H := hY
  refine lv_dup hx hb dX10_init_58 rfl ?_
  have hnw := hK.2 (RX10, 31, yX8_init, RX11) (List.mem_of_getElem? (i := 9) rfl)
  refine y_call (va_runIN (As := []) (rest := [.ref (b + 101), .int (iI 0), .ref (b + 97)]) ⟨hx, hb, hml, hown, hts⟩ (mk_Strip l D dA b _ _ 102 101 (by decide) (rfl : zcd wC 101 = 6) (rfl : zcd wC 102 = 7)) ⟨va_cnB 0 hts (z_gN k39) rfl rfl rfl hnw (hts _ (z_mem k3)) (by decide +kernel) ⟨(Nat.le_of_ble_eq_true rfl), (Nat.le_of_ble_eq_true rfl)⟩, rfl, (hts _ (z_mem k38))⟩ ⟨yP_blind, y_pre hY hK hO⟩ rfl rfl hl.1 rfl (lv_room (Nat.le_of_ble_eq_true rfl)) dX10_init_59 ⟨(Nat.le_of_ble_eq_true rfl), (Nat.le_of_ble_eq_true rfl)⟩) hS0 (fun H locs hY hS0 => ?_)
  have hY : yS D dA vwCl wC 103 b _ _ H := hY
  refine y_aast (t0 := 4) (N := 16) (i := 0) hx hb hK.1 (by decide) (hK.1.2 4 _ rfl).2 (rfl : vwCl[8]? = some (RX8, TX8, 2)) (by decide) hY hS0 (by decide) (zkd_of (rfl : zcd wC 97 = 45) rfl) (zln_of (rfl : zcd wC 97 = 45) rfl) (by decide) (zkd_of (rfl : zcd wC 101 = 6) rfl) (by decide) (by decide) (by decide) dX10_init_62 (fun H locs hY hS0 => ?_)
  refine z_iinc (lv' := [(1, .int (iI (0 + 1))), (0, .ref (b + 96))]) hx hb dX10_init_63 hl (k := 0) rfl (by decide) rfl (fun ls hl => ?_)
  rw [show ((0 + 1) : Int) = 1 from by decide] at hl
  refine lv_goto (tgt := 44) hx hb dX10_init_66 (by decide) ?_
  refine lv_iload_n hx hb dX10_init_44 rfl (lv_at hl 0 rfl) ?_
  refine z_bipush hx hb (by decide) dX10_init_45 ?_
  refine z_icmp_ge (tgt := 69) hx hb (by decide) (by decide) dX10_init_47 (by decide) (fun c9 => absurd c9 (by decide)) (fun _ => ?_)
  refine lv_aload_n hx hb dX10_init_50 rfl (lv_at hl 1 rfl) ?_
  refine y_getr (t := 97) hx hb hts (z_memU u10) hown hK.1 hY f10_1 (by decide) (zkd_of (rfl : zcd wC 96 = 44) rfl) (tup_ne rfl (tup_ne rfl (tup_ne rfl (tup_ne rfl (tup_ne rfl tup_s))))) (Or.inl (hts _ (z_mem k233))) dX10_init_51 ?_
  refine lv_iload_n hx hb dX10_init_54 rfl (lv_at hl 0 rfl) ?_
  refine y_new hx hb hts (z_memU u8) tyX8 tyX8_ok hown (hts _ (z_mem k230)) (hts _ (z_mem k37)) (hts _ (z_mem k3)) hK.1 hY hS0 (rfl : vwCl[8]? = some (RX8, TX8, 2)) (by decide) (zkd_of (rfl : zcd wC 103 = 6) rfl) rfl (fun k hk => by rcases (show k = 0 ∨ k = 1 by omega) with rfl | rfl <;> rfl) (Nat.le_of_ble_eq_true rfl) (Nat.le_of_ble_eq_true rfl) dX10_init_55 (fun H hY hS0 => ?_)
  have hY : yS D dA vwCl wC 104 b _ _ H := hY
  refine lv_dup hx hb dX10_init_58 rfl ?_
  have hnw := hK.2 (RX10, 31, yX8_init, RX11) (List.mem_of_getElem? (i := 9) rfl)
  refine y_call (va_runIN (As := []) (rest := [.ref (b + 103), .int (iI 1), .ref (b + 97)]) ⟨hx, hb, hml, hown, hts⟩ (mk_Strip l D dA b _ _ 104 103 (by decide) (rfl : zcd wC 103 = 6) (rfl : zcd wC 104 = 7)) ⟨va_cnB 0 hts (z_gN k39) rfl rfl rfl hnw (hts _ (z_mem k3)) (by decide +kernel) ⟨(Nat.le_of_ble_eq_true rfl), (Nat.le_of_ble_eq_true rfl)⟩, rfl, (hts _ (z_mem k38))⟩ ⟨yP_blind, y_pre hY hK hO⟩ rfl rfl hl.1 rfl (lv_room (Nat.le_of_ble_eq_true rfl)) dX10_init_59 ⟨(Nat.le_of_ble_eq_true rfl), (Nat.le_of_ble_eq_true rfl)⟩) hS0 (fun H locs hY hS0 => ?_)
  have hY : yS D dA vwCl wC 105 b _ _ H := hY
  refine y_aast (t0 := 4) (N := 16) (i := 1) hx hb hK.1 (by decide) (hK.1.2 4 _ rfl).2 (rfl : vwCl[8]? = some (RX8, TX8, 2)) (by decide) hY hS0 (by decide) (zkd_of (rfl : zcd wC 97 = 45) rfl) (zln_of (rfl : zcd wC 97 = 45) rfl) (by decide) (zkd_of (rfl : zcd wC 103 = 6) rfl) (by decide) (by decide) (by decide) dX10_init_62 (fun H locs hY hS0 => ?_)
  refine z_iinc (lv' := [(1, .int (iI (1 + 1))), (0, .ref (b + 96))]) hx hb dX10_init_63 hl (k := 0) rfl (by decide) rfl (fun ls hl => ?_)
  rw [show ((1 + 1) : Int) = 2 from by decide] at hl
  refine lv_goto (tgt := 44) hx hb dX10_init_66 (by decide) ?_
  refine lv_iload_n hx hb dX10_init_44 rfl (lv_at hl 0 rfl) ?_
  refine z_bipush hx hb (by decide) dX10_init_45 ?_
  refine z_icmp_ge (tgt := 69) hx hb (by decide) (by decide) dX10_init_47 (by decide) (fun c9 => absurd c9 (by decide)) (fun _ => ?_)
  refine lv_aload_n hx hb dX10_init_50 rfl (lv_at hl 1 rfl) ?_
  refine y_getr (t := 97) hx hb hts (z_memU u10) hown hK.1 hY f10_1 (by decide) (zkd_of (rfl : zcd wC 96 = 44) rfl) (tup_ne rfl (tup_ne rfl (tup_ne rfl (tup_ne rfl (tup_ne rfl (tup_ne rfl (tup_ne rfl tup_s))))))) (Or.inl (hts _ (z_mem k233))) dX10_init_51 ?_
  refine lv_iload_n hx hb dX10_init_54 rfl (lv_at hl 0 rfl) ?_
  refine y_new hx hb hts (z_memU u8) tyX8 tyX8_ok hown (hts _ (z_mem k230)) (hts _ (z_mem k37)) (hts _ (z_mem k3)) hK.1 hY hS0 (rfl : vwCl[8]? = some (RX8, TX8, 2)) (by decide) (zkd_of (rfl : zcd wC 105 = 6) rfl) rfl (fun k hk => by rcases (show k = 0 ∨ k = 1 by omega) with rfl | rfl <;> rfl) (Nat.le_of_ble_eq_true rfl) (Nat.le_of_ble_eq_true rfl) dX10_init_55 (fun H hY hS0 => ?_)
  have hY : yS D dA vwCl wC 106 b _ _ H := hY
  refine lv_dup hx hb dX10_init_58 rfl ?_
  have hnw := hK.2 (RX10, 31, yX8_init, RX11) (List.mem_of_getElem? (i := 9) rfl)
  refine y_call (va_runIN (As := []) (rest := [.ref (b + 105), .int (iI 2), .ref (b + 97)]) ⟨hx, hb, hml, hown, hts⟩ (mk_Strip l D dA b _ _ 106 105 (by decide) (rfl : zcd wC 105 = 6) (rfl : zcd wC 106 = 7)) ⟨va_cnB 0 hts (z_gN k39) rfl rfl rfl hnw (hts _ (z_mem k3)) (by decide +kernel) ⟨(Nat.le_of_ble_eq_true rfl), (Nat.le_of_ble_eq_true rfl)⟩, rfl, (hts _ (z_mem k38))⟩ ⟨yP_blind, y_pre hY hK hO⟩ rfl rfl hl.1 rfl (lv_room (Nat.le_of_ble_eq_true rfl)) dX10_init_59 ⟨(Nat.le_of_ble_eq_true rfl), (Nat.le_of_ble_eq_true rfl)⟩) hS0 (fun H locs hY hS0 => ?_)
  have hY : yS D dA vwCl wC 107 b _ _ H := hY
  refine y_aast (t0 := 4) (N := 16) (i := 2) hx hb hK.1 (by decide) (hK.1.2 4 _ rfl).2 (rfl : vwCl[8]? = some (RX8, TX8, 2)) (by decide) hY hS0 (by decide) (zkd_of (rfl : zcd wC 97 = 45) rfl) (zln_of (rfl : zcd wC 97 = 45) rfl) (by decide) (zkd_of (rfl : zcd wC 105 = 6) rfl) (by decide) (by decide) (by decide) dX10_init_62 (fun H locs hY hS0 => ?_)
  refine z_iinc (lv' := [(1, .int (iI (2 + 1))), (0, .ref (b + 96))]) hx hb dX10_init_63 hl (k := 0) rfl (by decide) rfl (fun ls hl => ?_)
  rw [show ((2 + 1) : Int) = 3 from by decide] at hl
  refine lv_goto (tgt := 44) hx hb dX10_init_66 (by decide) ?_
  refine lv_iload_n hx hb dX10_init_44 rfl (lv_at hl 0 rfl) ?_
  refine z_bipush hx hb (by decide) dX10_init_45 ?_
  refine z_icmp_ge (tgt := 69) hx hb (by decide) (by decide) dX10_init_47 (by decide) (fun c9 => absurd c9 (by decide)) (fun _ => ?_)
  refine lv_aload_n hx hb dX10_init_50 rfl (lv_at hl 1 rfl) ?_
  refine y_getr (t := 97) hx hb hts (z_memU u10) hown hK.1 hY f10_1 (by decide) (zkd_of (rfl : zcd wC 96 = 44) rfl) (tup_ne rfl (tup_ne rfl (tup_ne rfl (tup_ne rfl (tup_ne rfl (tup_ne rfl (tup_ne rfl (tup_ne rfl (tup_ne rfl tup_s))))))))) (Or.inl (hts _ (z_mem k233))) dX10_init_51 ?_
  refine lv_iload_n hx hb dX10_init_54 rfl (lv_at hl 0 rfl) ?_
  refine y_new hx hb hts (z_memU u8) tyX8 tyX8_ok hown (hts _ (z_mem k230)) (hts _ (z_mem k37)) (hts _ (z_mem k3)) hK.1 hY hS0 (rfl : vwCl[8]? = some (RX8, TX8, 2)) (by decide) (zkd_of (rfl : zcd wC 107 = 6) rfl) rfl (fun k hk => by rcases (show k = 0 ∨ k = 1 by omega) with rfl | rfl <;> rfl) (Nat.le_of_ble_eq_true rfl) (Nat.le_of_ble_eq_true rfl) dX10_init_55 (fun H hY hS0 => ?_)
  have hY : yS D dA vwCl wC 108 b _ _ H := hY
  refine lv_dup hx hb dX10_init_58 rfl ?_
  have hnw := hK.2 (RX10, 31, yX8_init, RX11) (List.mem_of_getElem? (i := 9) rfl)
  refine y_call (va_runIN (As := []) (rest := [.ref (b + 107), .int (iI 3), .ref (b + 97)]) ⟨hx, hb, hml, hown, hts⟩ (mk_Strip l D dA b _ _ 108 107 (by decide) (rfl : zcd wC 107 = 6) (rfl : zcd wC 108 = 7)) ⟨va_cnB 0 hts (z_gN k39) rfl rfl rfl hnw (hts _ (z_mem k3)) (by decide +kernel) ⟨(Nat.le_of_ble_eq_true rfl), (Nat.le_of_ble_eq_true rfl)⟩, rfl, (hts _ (z_mem k38))⟩ ⟨yP_blind, y_pre hY hK hO⟩ rfl rfl hl.1 rfl (lv_room (Nat.le_of_ble_eq_true rfl)) dX10_init_59 ⟨(Nat.le_of_ble_eq_true rfl), (Nat.le_of_ble_eq_true rfl)⟩) hS0 (fun H locs hY hS0 => ?_)
  have hY : yS D dA vwCl wC 109 b _ _ H := hY
  refine y_aast (t0 := 4) (N := 16) (i := 3) hx hb hK.1 (by decide) (hK.1.2 4 _ rfl).2 (rfl : vwCl[8]? = some (RX8, TX8, 2)) (by decide) hY hS0 (by decide) (zkd_of (rfl : zcd wC 97 = 45) rfl) (zln_of (rfl : zcd wC 97 = 45) rfl) (by decide) (zkd_of (rfl : zcd wC 107 = 6) rfl) (by decide) (by decide) (by decide) dX10_init_62 (fun H locs hY hS0 => ?_)
  refine z_iinc (lv' := [(1, .int (iI (3 + 1))), (0, .ref (b + 96))]) hx hb dX10_init_63 hl (k := 0) rfl (by decide) rfl (fun ls hl => ?_)
  rw [show ((3 + 1) : Int) = 4 from by decide] at hl
  refine lv_goto (tgt := 44) hx hb dX10_init_66 (by decide) ?_
  refine lv_iload_n hx hb dX10_init_44 rfl (lv_at hl 0 rfl) ?_
  refine z_bipush hx hb (by decide) dX10_init_45 ?_
  refine z_icmp_ge (tgt := 69) hx hb (by decide) (by decide) dX10_init_47 (by decide) (fun c9 => absurd c9 (by decide)) (fun _ => ?_)
  refine lv_aload_n hx hb dX10_init_50 rfl (lv_at hl 1 rfl) ?_
  refine y_getr (t := 97) hx hb hts (z_memU u10) hown hK.1 hY f10_1 (by decide) (zkd_of (rfl : zcd wC 96 = 44) rfl) (tup_ne rfl (tup_ne rfl (tup_ne rfl (tup_ne rfl (tup_ne rfl (tup_ne rfl (tup_ne rfl (tup_ne rfl (tup_ne rfl (tup_ne rfl (tup_ne rfl tup_s))))))))))) (Or.inl (hts _ (z_mem k233))) dX10_init_51 ?_
  refine lv_iload_n hx hb dX10_init_54 rfl (lv_at hl 0 rfl) ?_
  refine y_new hx hb hts (z_memU u8) tyX8 tyX8_ok hown (hts _ (z_mem k230)) (hts _ (z_mem k37)) (hts _ (z_mem k3)) hK.1 hY hS0 (rfl : vwCl[8]? = some (RX8, TX8, 2)) (by decide) (zkd_of (rfl : zcd wC 109 = 6) rfl) rfl (fun k hk => by rcases (show k = 0 ∨ k = 1 by omega) with rfl | rfl <;> rfl) (Nat.le_of_ble_eq_true rfl) (Nat.le_of_ble_eq_true rfl) dX10_init_55 (fun H hY hS0 => ?_)
  have hY : yS D dA vwCl wC 110 b _ _ H := hY
  refine lv_dup hx hb dX10_init_58 rfl ?_
  have hnw := hK.2 (RX10, 31, yX8_init, RX11) (List.mem_of_getElem? (i := 9) rfl)
  refine y_call (va_runIN (As := []) (rest := [.ref (b + 109), .int (iI 4), .ref (b + 97)]) ⟨hx, hb, hml, hown, hts⟩ (mk_Strip l D dA b _ _ 110 109 (by decide) (rfl : zcd wC 109 = 6) (rfl : zcd wC 110 = 7)) ⟨va_cnB 0 hts (z_gN k39) rfl rfl rfl hnw (hts _ (z_mem k3)) (by decide +kernel) ⟨(Nat.le_of_ble_eq_true rfl), (Nat.le_of_ble_eq_true rfl)⟩, rfl, (hts _ (z_mem k38))⟩ ⟨yP_blind, y_pre hY hK hO⟩ rfl rfl hl.1 rfl (lv_room (Nat.le_of_ble_eq_true rfl)) dX10_init_59 ⟨(Nat.le_of_ble_eq_true rfl), (Nat.le_of_ble_eq_true rfl)⟩) hS0 (fun H locs hY hS0 => ?_)
  have hY : yS D dA vwCl wC 111 b _ _ H := hY
  refine y_aast (t0 := 4) (N := 16) (i := 4) hx hb hK.1 (by decide) (hK.1.2 4 _ rfl).2 (rfl : vwCl[8]? = some (RX8, TX8, 2)) (by decide) hY hS0 (by decide) (zkd_of (rfl : zcd wC 97 = 45) rfl) (zln_of (rfl : zcd wC 97 = 45) rfl) (by decide) (zkd_of (rfl : zcd wC 109 = 6) rfl) (by decide) (by decide) (by decide) dX10_init_62 (fun H locs hY hS0 => ?_)
  refine z_iinc (lv' := [(1, .int (iI (4 + 1))), (0, .ref (b + 96))]) hx hb dX10_init_63 hl (k := 0) rfl (by decide) rfl (fun ls hl => ?_)
  rw [show ((4 + 1) : Int) = 5 from by decide] at hl
  refine lv_goto (tgt := 44) hx hb dX10_init_66 (by decide) ?_
  refine lv_iload_n hx hb dX10_init_44 rfl (lv_at hl 0 rfl) ?_
  refine z_bipush hx hb (by decide) dX10_init_45 ?_
  refine z_icmp_ge (tgt := 69) hx hb (by decide) (by decide) dX10_init_47 (by decide) (fun c9 => absurd c9 (by decide)) (fun _ => ?_)
  refine lv_aload_n hx hb dX10_init_50 rfl (lv_at hl 1 rfl) ?_
  refine y_getr (t := 97) hx hb hts (z_memU u10) hown hK.1 hY f10_1 (by decide) (zkd_of (rfl : zcd wC 96 = 44) rfl) (tup_ne rfl (tup_ne rfl (tup_ne rfl (tup_ne rfl (tup_ne rfl (tup_ne rfl (tup_ne rfl (tup_ne rfl (tup_ne rfl (tup_ne rfl (tup_ne rfl (tup_ne rfl (tup_ne rfl tup_s))))))))))))) (Or.inl (hts _ (z_mem k233))) dX10_init_51 ?_
  refine lv_iload_n hx hb dX10_init_54 rfl (lv_at hl 0 rfl) ?_
  refine y_new hx hb hts (z_memU u8) tyX8 tyX8_ok hown (hts _ (z_mem k230)) (hts _ (z_mem k37)) (hts _ (z_mem k3)) hK.1 hY hS0 (rfl : vwCl[8]? = some (RX8, TX8, 2)) (by decide) (zkd_of (rfl : zcd wC 111 = 6) rfl) rfl (fun k hk => by rcases (show k = 0 ∨ k = 1 by omega) with rfl | rfl <;> rfl) (Nat.le_of_ble_eq_true rfl) (Nat.le_of_ble_eq_true rfl) dX10_init_55 (fun H hY hS0 => ?_)
  have hY : yS D dA vwCl wC 112 b _ _ H := hY
  refine lv_dup hx hb dX10_init_58 rfl ?_
  have hnw := hK.2 (RX10, 31, yX8_init, RX11) (List.mem_of_getElem? (i := 9) rfl)
  refine y_call (va_runIN (As := []) (rest := [.ref (b + 111), .int (iI 5), .ref (b + 97)]) ⟨hx, hb, hml, hown, hts⟩ (mk_Strip l D dA b _ _ 112 111 (by decide) (rfl : zcd wC 111 = 6) (rfl : zcd wC 112 = 7)) ⟨va_cnB 0 hts (z_gN k39) rfl rfl rfl hnw (hts _ (z_mem k3)) (by decide +kernel) ⟨(Nat.le_of_ble_eq_true rfl), (Nat.le_of_ble_eq_true rfl)⟩, rfl, (hts _ (z_mem k38))⟩ ⟨yP_blind, y_pre hY hK hO⟩ rfl rfl hl.1 rfl (lv_room (Nat.le_of_ble_eq_true rfl)) dX10_init_59 ⟨(Nat.le_of_ble_eq_true rfl), (Nat.le_of_ble_eq_true rfl)⟩) hS0 (fun H locs hY hS0 => ?_)
  have hY : yS D dA vwCl wC 113 b _ _ H := hY
  refine y_aast (t0 := 4) (N := 16) (i := 5) hx hb hK.1 (by decide) (hK.1.2 4 _ rfl).2 (rfl : vwCl[8]? = some (RX8, TX8, 2)) (by decide) hY hS0 (by decide) (zkd_of (rfl : zcd wC 97 = 45) rfl) (zln_of (rfl : zcd wC 97 = 45) rfl) (by decide) (zkd_of (rfl : zcd wC 111 = 6) rfl) (by decide) (by decide) (by decide) dX10_init_62 (fun H locs hY hS0 => ?_)
  refine z_iinc (lv' := [(1, .int (iI (5 + 1))), (0, .ref (b + 96))]) hx hb dX10_init_63 hl (k := 0) rfl (by decide) rfl (fun ls hl => ?_)
  rw [show ((5 + 1) : Int) = 6 from by decide] at hl
  refine lv_goto (tgt := 44) hx hb dX10_init_66 (by decide) ?_
  refine lv_iload_n hx hb dX10_init_44 rfl (lv_at hl 0 rfl) ?_
  refine z_bipush hx hb (by decide) dX10_init_45 ?_
  refine z_icmp_ge (tgt := 69) hx hb (by decide) (by decide) dX10_init_47 (by decide) (fun c9 => absurd c9 (by decide)) (fun _ => ?_)
  refine lv_aload_n hx hb dX10_init_50 rfl (lv_at hl 1 rfl) ?_
  refine y_getr (t := 97) hx hb hts (z_memU u10) hown hK.1 hY f10_1 (by decide) (zkd_of (rfl : zcd wC 96 = 44) rfl) (tup_ne rfl (tup_ne rfl (tup_ne rfl (tup_ne rfl (tup_ne rfl (tup_ne rfl (tup_ne rfl (tup_ne rfl (tup_ne rfl (tup_ne rfl (tup_ne rfl (tup_ne rfl (tup_ne rfl (tup_ne rfl (tup_ne rfl tup_s))))))))))))))) (Or.inl (hts _ (z_mem k233))) dX10_init_51 ?_
  refine lv_iload_n hx hb dX10_init_54 rfl (lv_at hl 0 rfl) ?_
  refine y_new hx hb hts (z_memU u8) tyX8 tyX8_ok hown (hts _ (z_mem k230)) (hts _ (z_mem k37)) (hts _ (z_mem k3)) hK.1 hY hS0 (rfl : vwCl[8]? = some (RX8, TX8, 2)) (by decide) (zkd_of (rfl : zcd wC 113 = 6) rfl) rfl (fun k hk => by rcases (show k = 0 ∨ k = 1 by omega) with rfl | rfl <;> rfl) (Nat.le_of_ble_eq_true rfl) (Nat.le_of_ble_eq_true rfl) dX10_init_55 (fun H hY hS0 => ?_)
  have hY : yS D dA vwCl wC 114 b _ _ H := hY
  refine lv_dup hx hb dX10_init_58 rfl ?_
  have hnw := hK.2 (RX10, 31, yX8_init, RX11) (List.mem_of_getElem? (i := 9) rfl)
  refine y_call (va_runIN (As := []) (rest := [.ref (b + 113), .int (iI 6), .ref (b + 97)]) ⟨hx, hb, hml, hown, hts⟩ (mk_Strip l D dA b _ _ 114 113 (by decide) (rfl : zcd wC 113 = 6) (rfl : zcd wC 114 = 7)) ⟨va_cnB 0 hts (z_gN k39) rfl rfl rfl hnw (hts _ (z_mem k3)) (by decide +kernel) ⟨(Nat.le_of_ble_eq_true rfl), (Nat.le_of_ble_eq_true rfl)⟩, rfl, (hts _ (z_mem k38))⟩ ⟨yP_blind, y_pre hY hK hO⟩ rfl rfl hl.1 rfl (lv_room (Nat.le_of_ble_eq_true rfl)) dX10_init_59 ⟨(Nat.le_of_ble_eq_true rfl), (Nat.le_of_ble_eq_true rfl)⟩) hS0 (fun H locs hY hS0 => ?_)
  have hY : yS D dA vwCl wC 115 b _ _ H := hY
  refine y_aast (t0 := 4) (N := 16) (i := 6) hx hb hK.1 (by decide) (hK.1.2 4 _ rfl).2 (rfl : vwCl[8]? = some (RX8, TX8, 2)) (by decide) hY hS0 (by decide) (zkd_of (rfl : zcd wC 97 = 45) rfl) (zln_of (rfl : zcd wC 97 = 45) rfl) (by decide) (zkd_of (rfl : zcd wC 113 = 6) rfl) (by decide) (by decide) (by decide) dX10_init_62 (fun H locs hY hS0 => ?_)
  refine z_iinc (lv' := [(1, .int (iI (6 + 1))), (0, .ref (b + 96))]) hx hb dX10_init_63 hl (k := 0) rfl (by decide) rfl (fun ls hl => ?_)
  rw [show ((6 + 1) : Int) = 7 from by decide] at hl
  refine lv_goto (tgt := 44) hx hb dX10_init_66 (by decide) ?_
  refine lv_iload_n hx hb dX10_init_44 rfl (lv_at hl 0 rfl) ?_
  refine z_bipush hx hb (by decide) dX10_init_45 ?_
  refine z_icmp_ge (tgt := 69) hx hb (by decide) (by decide) dX10_init_47 (by decide) (fun c9 => absurd c9 (by decide)) (fun _ => ?_)
  refine lv_aload_n hx hb dX10_init_50 rfl (lv_at hl 1 rfl) ?_
  refine y_getr (t := 97) hx hb hts (z_memU u10) hown hK.1 hY f10_1 (by decide) (zkd_of (rfl : zcd wC 96 = 44) rfl) (tup_ne rfl (tup_ne rfl (tup_ne rfl (tup_ne rfl (tup_ne rfl (tup_ne rfl (tup_ne rfl (tup_ne rfl (tup_ne rfl (tup_ne rfl (tup_ne rfl (tup_ne rfl (tup_ne rfl (tup_ne rfl (tup_ne rfl (tup_ne rfl (tup_ne rfl tup_s))))))))))))))))) (Or.inl (hts _ (z_mem k233))) dX10_init_51 ?_
  refine lv_iload_n hx hb dX10_init_54 rfl (lv_at hl 0 rfl) ?_
  refine y_new hx hb hts (z_memU u8) tyX8 tyX8_ok hown (hts _ (z_mem k230)) (hts _ (z_mem k37)) (hts _ (z_mem k3)) hK.1 hY hS0 (rfl : vwCl[8]? = some (RX8, TX8, 2)) (by decide) (zkd_of (rfl : zcd wC 115 = 6) rfl) rfl (fun k hk => by rcases (show k = 0 ∨ k = 1 by omega) with rfl | rfl <;> rfl) (Nat.le_of_ble_eq_true rfl) (Nat.le_of_ble_eq_true rfl) dX10_init_55 (fun H hY hS0 => ?_)
  have hY : yS D dA vwCl wC 116 b _ _ H := hY
  refine lv_dup hx hb dX10_init_58 rfl ?_
  have hnw := hK.2 (RX10, 31, yX8_init, RX11) (List.mem_of_getElem? (i := 9) rfl)
  refine y_call (va_runIN (As := []) (rest := [.ref (b + 115), .int (iI 7), .ref (b + 97)]) ⟨hx, hb, hml, hown, hts⟩ (mk_Strip l D dA b _ _ 116 115 (by decide) (rfl : zcd wC 115 = 6) (rfl : zcd wC 116 = 7)) ⟨va_cnB 0 hts (z_gN k39) rfl rfl rfl hnw (hts _ (z_mem k3)) (by decide +kernel) ⟨(Nat.le_of_ble_eq_true rfl), (Nat.le_of_ble_eq_true rfl)⟩, rfl, (hts _ (z_mem k38))⟩ ⟨yP_blind, y_pre hY hK hO⟩ rfl rfl hl.1 rfl (lv_room (Nat.le_of_ble_eq_true rfl)) dX10_init_59 ⟨(Nat.le_of_ble_eq_true rfl), (Nat.le_of_ble_eq_true rfl)⟩) hS0 (fun H locs hY hS0 => ?_)
  have hY : yS D dA vwCl wC 117 b _ _ H := hY
  refine y_aast (t0 := 4) (N := 16) (i := 7) hx hb hK.1 (by decide) (hK.1.2 4 _ rfl).2 (rfl : vwCl[8]? = some (RX8, TX8, 2)) (by decide) hY hS0 (by decide) (zkd_of (rfl : zcd wC 97 = 45) rfl) (zln_of (rfl : zcd wC 97 = 45) rfl) (by decide) (zkd_of (rfl : zcd wC 115 = 6) rfl) (by decide) (by decide) (by decide) dX10_init_62 (fun H locs hY hS0 => ?_)
  refine z_iinc (lv' := [(1, .int (iI (7 + 1))), (0, .ref (b + 96))]) hx hb dX10_init_63 hl (k := 0) rfl (by decide) rfl (fun ls hl => ?_)
  rw [show ((7 + 1) : Int) = 8 from by decide] at hl
  refine lv_goto (tgt := 44) hx hb dX10_init_66 (by decide) ?_
  refine lv_iload_n hx hb dX10_init_44 rfl (lv_at hl 0 rfl) ?_
  refine z_bipush hx hb (by decide) dX10_init_45 ?_
  refine z_icmp_ge (tgt := 69) hx hb (by decide) (by decide) dX10_init_47 (by decide) (fun c9 => absurd c9 (by decide)) (fun _ => ?_)
  refine lv_aload_n hx hb dX10_init_50 rfl (lv_at hl 1 rfl) ?_
  refine y_getr (t := 97) hx hb hts (z_memU u10) hown hK.1 hY f10_1 (by decide) (zkd_of (rfl : zcd wC 96 = 44) rfl) (tup_ne rfl (tup_ne rfl (tup_ne rfl (tup_ne rfl (tup_ne rfl (tup_ne rfl (tup_ne rfl (tup_ne rfl (tup_ne rfl (tup_ne rfl (tup_ne rfl (tup_ne rfl (tup_ne rfl (tup_ne rfl (tup_ne rfl (tup_ne rfl (tup_ne rfl (tup_ne rfl (tup_ne rfl tup_s))))))))))))))))))) (Or.inl (hts _ (z_mem k233))) dX10_init_51 ?_
  refine lv_iload_n hx hb dX10_init_54 rfl (lv_at hl 0 rfl) ?_
  refine y_new hx hb hts (z_memU u8) tyX8 tyX8_ok hown (hts _ (z_mem k230)) (hts _ (z_mem k37)) (hts _ (z_mem k3)) hK.1 hY hS0 (rfl : vwCl[8]? = some (RX8, TX8, 2)) (by decide) (zkd_of (rfl : zcd wC 117 = 6) rfl) rfl (fun k hk => by rcases (show k = 0 ∨ k = 1 by omega) with rfl | rfl <;> rfl) (Nat.le_of_ble_eq_true rfl) (Nat.le_of_ble_eq_true rfl) dX10_init_55 (fun H hY hS0 => ?_)
  have hY : yS D dA vwCl wC 118 b _ _ H := hY
  refine lv_dup hx hb dX10_init_58 rfl ?_
  have hnw := hK.2 (RX10, 31, yX8_init, RX11) (List.mem_of_getElem? (i := 9) rfl)
  refine y_call (va_runIN (As := []) (rest := [.ref (b + 117), .int (iI 8), .ref (b + 97)]) ⟨hx, hb, hml, hown, hts⟩ (mk_Strip l D dA b _ _ 118 117 (by decide) (rfl : zcd wC 117 = 6) (rfl : zcd wC 118 = 7)) ⟨va_cnB 0 hts (z_gN k39) rfl rfl rfl hnw (hts _ (z_mem k3)) (by decide +kernel) ⟨(Nat.le_of_ble_eq_true rfl), (Nat.le_of_ble_eq_true rfl)⟩, rfl, (hts _ (z_mem k38))⟩ ⟨yP_blind, y_pre hY hK hO⟩ rfl rfl hl.1 rfl (lv_room (Nat.le_of_ble_eq_true rfl)) dX10_init_59 ⟨(Nat.le_of_ble_eq_true rfl), (Nat.le_of_ble_eq_true rfl)⟩) hS0 (fun H locs hY hS0 => ?_)
  have hY : yS D dA vwCl wC 119 b _ _ H := hY
  refine y_aast (t0 := 4) (N := 16) (i := 8) hx hb hK.1 (by decide) (hK.1.2 4 _ rfl).2 (rfl : vwCl[8]? = some (RX8, TX8, 2)) (by decide) hY hS0 (by decide) (zkd_of (rfl : zcd wC 97 = 45) rfl) (zln_of (rfl : zcd wC 97 = 45) rfl) (by decide) (zkd_of (rfl : zcd wC 117 = 6) rfl) (by decide) (by decide) (by decide) dX10_init_62 (fun H locs hY hS0 => ?_)
  refine z_iinc (lv' := [(1, .int (iI (8 + 1))), (0, .ref (b + 96))]) hx hb dX10_init_63 hl (k := 0) rfl (by decide) rfl (fun ls hl => ?_)
  rw [show ((8 + 1) : Int) = 9 from by decide] at hl
  refine lv_goto (tgt := 44) hx hb dX10_init_66 (by decide) ?_
  refine lv_iload_n hx hb dX10_init_44 rfl (lv_at hl 0 rfl) ?_
  refine z_bipush hx hb (by decide) dX10_init_45 ?_
  refine z_icmp_ge (tgt := 69) hx hb (by decide) (by decide) dX10_init_47 (by decide) (fun c9 => absurd c9 (by decide)) (fun _ => ?_)
  refine lv_aload_n hx hb dX10_init_50 rfl (lv_at hl 1 rfl) ?_
  refine y_getr (t := 97) hx hb hts (z_memU u10) hown hK.1 hY f10_1 (by decide) (zkd_of (rfl : zcd wC 96 = 44) rfl) (tup_ne rfl (tup_ne rfl (tup_ne rfl (tup_ne rfl (tup_ne rfl (tup_ne rfl (tup_ne rfl (tup_ne rfl (tup_ne rfl (tup_ne rfl (tup_ne rfl (tup_ne rfl (tup_ne rfl (tup_ne rfl (tup_ne rfl (tup_ne rfl (tup_ne rfl (tup_ne rfl (tup_ne rfl (tup_ne rfl (tup_ne rfl tup_s))))))))))))))))))))) (Or.inl (hts _ (z_mem k233))) dX10_init_51 ?_
  refine lv_iload_n hx hb dX10_init_54 rfl (lv_at hl 0 rfl) ?_
  refine y_new hx hb hts (z_memU u8) tyX8 tyX8_ok hown (hts _ (z_mem k230)) (hts _ (z_mem k37)) (hts _ (z_mem k3)) hK.1 hY hS0 (rfl : vwCl[8]? = some (RX8, TX8, 2)) (by decide) (zkd_of (rfl : zcd wC 119 = 6) rfl) rfl (fun k hk => by rcases (show k = 0 ∨ k = 1 by omega) with rfl | rfl <;> rfl) (Nat.le_of_ble_eq_true rfl) (Nat.le_of_ble_eq_true rfl) dX10_init_55 (fun H hY hS0 => ?_)
  have hY : yS D dA vwCl wC 120 b _ _ H := hY
  refine lv_dup hx hb dX10_init_58 rfl ?_
  have hnw := hK.2 (RX10, 31, yX8_init, RX11) (List.mem_of_getElem? (i := 9) rfl)
  refine y_call (va_runIN (As := []) (rest := [.ref (b + 119), .int (iI 9), .ref (b + 97)]) ⟨hx, hb, hml, hown, hts⟩ (mk_Strip l D dA b _ _ 120 119 (by decide) (rfl : zcd wC 119 = 6) (rfl : zcd wC 120 = 7)) ⟨va_cnB 0 hts (z_gN k39) rfl rfl rfl hnw (hts _ (z_mem k3)) (by decide +kernel) ⟨(Nat.le_of_ble_eq_true rfl), (Nat.le_of_ble_eq_true rfl)⟩, rfl, (hts _ (z_mem k38))⟩ ⟨yP_blind, y_pre hY hK hO⟩ rfl rfl hl.1 rfl (lv_room (Nat.le_of_ble_eq_true rfl)) dX10_init_59 ⟨(Nat.le_of_ble_eq_true rfl), (Nat.le_of_ble_eq_true rfl)⟩) hS0 (fun H locs hY hS0 => ?_)
  have hY : yS D dA vwCl wC 121 b _ _ H := hY
  refine y_aast (t0 := 4) (N := 16) (i := 9) hx hb hK.1 (by decide) (hK.1.2 4 _ rfl).2 (rfl : vwCl[8]? = some (RX8, TX8, 2)) (by decide) hY hS0 (by decide) (zkd_of (rfl : zcd wC 97 = 45) rfl) (zln_of (rfl : zcd wC 97 = 45) rfl) (by decide) (zkd_of (rfl : zcd wC 119 = 6) rfl) (by decide) (by decide) (by decide) dX10_init_62 (fun H locs hY hS0 => ?_)
  refine z_iinc (lv' := [(1, .int (iI (9 + 1))), (0, .ref (b + 96))]) hx hb dX10_init_63 hl (k := 0) rfl (by decide) rfl (fun ls hl => ?_)
  rw [show ((9 + 1) : Int) = 10 from by decide] at hl
  refine lv_goto (tgt := 44) hx hb dX10_init_66 (by decide) ?_
  refine lv_iload_n hx hb dX10_init_44 rfl (lv_at hl 0 rfl) ?_
  refine z_bipush hx hb (by decide) dX10_init_45 ?_
  refine z_icmp_ge (tgt := 69) hx hb (by decide) (by decide) dX10_init_47 (by decide) (fun c9 => absurd c9 (by decide)) (fun _ => ?_)
  refine lv_aload_n hx hb dX10_init_50 rfl (lv_at hl 1 rfl) ?_
  refine y_getr (t := 97) hx hb hts (z_memU u10) hown hK.1 hY f10_1 (by decide) (zkd_of (rfl : zcd wC 96 = 44) rfl) (tup_ne rfl (tup_ne rfl (tup_ne rfl (tup_ne rfl (tup_ne rfl (tup_ne rfl (tup_ne rfl (tup_ne rfl (tup_ne rfl (tup_ne rfl (tup_ne rfl (tup_ne rfl (tup_ne rfl (tup_ne rfl (tup_ne rfl (tup_ne rfl (tup_ne rfl (tup_ne rfl (tup_ne rfl (tup_ne rfl (tup_ne rfl (tup_ne rfl (tup_ne rfl tup_s))))))))))))))))))))))) (Or.inl (hts _ (z_mem k233))) dX10_init_51 ?_
  refine lv_iload_n hx hb dX10_init_54 rfl (lv_at hl 0 rfl) ?_
  refine y_new hx hb hts (z_memU u8) tyX8 tyX8_ok hown (hts _ (z_mem k230)) (hts _ (z_mem k37)) (hts _ (z_mem k3)) hK.1 hY hS0 (rfl : vwCl[8]? = some (RX8, TX8, 2)) (by decide) (zkd_of (rfl : zcd wC 121 = 6) rfl) rfl (fun k hk => by rcases (show k = 0 ∨ k = 1 by omega) with rfl | rfl <;> rfl) (Nat.le_of_ble_eq_true rfl) (Nat.le_of_ble_eq_true rfl) dX10_init_55 (fun H hY hS0 => ?_)
  have hY : yS D dA vwCl wC 122 b _ _ H := hY
  refine lv_dup hx hb dX10_init_58 rfl ?_
  have hnw := hK.2 (RX10, 31, yX8_init, RX11) (List.mem_of_getElem? (i := 9) rfl)
  refine y_call (va_runIN (As := []) (rest := [.ref (b + 121), .int (iI 10), .ref (b + 97)]) ⟨hx, hb, hml, hown, hts⟩ (mk_Strip l D dA b _ _ 122 121 (by decide) (rfl : zcd wC 121 = 6) (rfl : zcd wC 122 = 7)) ⟨va_cnB 0 hts (z_gN k39) rfl rfl rfl hnw (hts _ (z_mem k3)) (by decide +kernel) ⟨(Nat.le_of_ble_eq_true rfl), (Nat.le_of_ble_eq_true rfl)⟩, rfl, (hts _ (z_mem k38))⟩ ⟨yP_blind, y_pre hY hK hO⟩ rfl rfl hl.1 rfl (lv_room (Nat.le_of_ble_eq_true rfl)) dX10_init_59 ⟨(Nat.le_of_ble_eq_true rfl), (Nat.le_of_ble_eq_true rfl)⟩) hS0 (fun H locs hY hS0 => ?_)
  have hY : yS D dA vwCl wC 123 b _ _ H := hY
  refine y_aast (t0 := 4) (N := 16) (i := 10) hx hb hK.1 (by decide) (hK.1.2 4 _ rfl).2 (rfl : vwCl[8]? = some (RX8, TX8, 2)) (by decide) hY hS0 (by decide) (zkd_of (rfl : zcd wC 97 = 45) rfl) (zln_of (rfl : zcd wC 97 = 45) rfl) (by decide) (zkd_of (rfl : zcd wC 121 = 6) rfl) (by decide) (by decide) (by decide) dX10_init_62 (fun H locs hY hS0 => ?_)
  refine z_iinc (lv' := [(1, .int (iI (10 + 1))), (0, .ref (b + 96))]) hx hb dX10_init_63 hl (k := 0) rfl (by decide) rfl (fun ls hl => ?_)
  rw [show ((10 + 1) : Int) = 11 from by decide] at hl
  refine lv_goto (tgt := 44) hx hb dX10_init_66 (by decide) ?_
  refine lv_iload_n hx hb dX10_init_44 rfl (lv_at hl 0 rfl) ?_
  refine z_bipush hx hb (by decide) dX10_init_45 ?_
  refine z_icmp_ge (tgt := 69) hx hb (by decide) (by decide) dX10_init_47 (by decide) (fun c9 => absurd c9 (by decide)) (fun _ => ?_)
  refine lv_aload_n hx hb dX10_init_50 rfl (lv_at hl 1 rfl) ?_
  refine y_getr (t := 97) hx hb hts (z_memU u10) hown hK.1 hY f10_1 (by decide) (zkd_of (rfl : zcd wC 96 = 44) rfl) (tup_ne rfl (tup_ne rfl (tup_ne rfl (tup_ne rfl (tup_ne rfl (tup_ne rfl (tup_ne rfl (tup_ne rfl (tup_ne rfl (tup_ne rfl (tup_ne rfl (tup_ne rfl (tup_ne rfl (tup_ne rfl (tup_ne rfl (tup_ne rfl (tup_ne rfl (tup_ne rfl (tup_ne rfl (tup_ne rfl (tup_ne rfl (tup_ne rfl (tup_ne rfl (tup_ne rfl (tup_ne rfl tup_s))))))))))))))))))))))))) (Or.inl (hts _ (z_mem k233))) dX10_init_51 ?_
  refine lv_iload_n hx hb dX10_init_54 rfl (lv_at hl 0 rfl) ?_
  refine y_new hx hb hts (z_memU u8) tyX8 tyX8_ok hown (hts _ (z_mem k230)) (hts _ (z_mem k37)) (hts _ (z_mem k3)) hK.1 hY hS0 (rfl : vwCl[8]? = some (RX8, TX8, 2)) (by decide) (zkd_of (rfl : zcd wC 123 = 6) rfl) rfl (fun k hk => by rcases (show k = 0 ∨ k = 1 by omega) with rfl | rfl <;> rfl) (Nat.le_of_ble_eq_true rfl) (Nat.le_of_ble_eq_true rfl) dX10_init_55 (fun H hY hS0 => ?_)
  have hY : yS D dA vwCl wC 124 b _ _ H := hY
  refine lv_dup hx hb dX10_init_58 rfl ?_
  have hnw := hK.2 (RX10, 31, yX8_init, RX11) (List.mem_of_getElem? (i := 9) rfl)
  refine y_call (va_runIN (As := []) (rest := [.ref (b + 123), .int (iI 11), .ref (b + 97)]) ⟨hx, hb, hml, hown, hts⟩ (mk_Strip l D dA b _ _ 124 123 (by decide) (rfl : zcd wC 123 = 6) (rfl : zcd wC 124 = 7)) ⟨va_cnB 0 hts (z_gN k39) rfl rfl rfl hnw (hts _ (z_mem k3)) (by decide +kernel) ⟨(Nat.le_of_ble_eq_true rfl), (Nat.le_of_ble_eq_true rfl)⟩, rfl, (hts _ (z_mem k38))⟩ ⟨yP_blind, y_pre hY hK hO⟩ rfl rfl hl.1 rfl (lv_room (Nat.le_of_ble_eq_true rfl)) dX10_init_59 ⟨(Nat.le_of_ble_eq_true rfl), (Nat.le_of_ble_eq_true rfl)⟩) hS0 (fun H locs hY hS0 => ?_)
  have hY : yS D dA vwCl wC 125 b _ _ H := hY
  refine y_aast (t0 := 4) (N := 16) (i := 11) hx hb hK.1 (by decide) (hK.1.2 4 _ rfl).2 (rfl : vwCl[8]? = some (RX8, TX8, 2)) (by decide) hY hS0 (by decide) (zkd_of (rfl : zcd wC 97 = 45) rfl) (zln_of (rfl : zcd wC 97 = 45) rfl) (by decide) (zkd_of (rfl : zcd wC 123 = 6) rfl) (by decide) (by decide) (by decide) dX10_init_62 (fun H locs hY hS0 => ?_)
  refine z_iinc (lv' := [(1, .int (iI (11 + 1))), (0, .ref (b + 96))]) hx hb dX10_init_63 hl (k := 0) rfl (by decide) rfl (fun ls hl => ?_)
  rw [show ((11 + 1) : Int) = 12 from by decide] at hl
  refine lv_goto (tgt := 44) hx hb dX10_init_66 (by decide) ?_
  refine lv_iload_n hx hb dX10_init_44 rfl (lv_at hl 0 rfl) ?_
  refine z_bipush hx hb (by decide) dX10_init_45 ?_
  refine z_icmp_ge (tgt := 69) hx hb (by decide) (by decide) dX10_init_47 (by decide) (fun c9 => absurd c9 (by decide)) (fun _ => ?_)
  refine lv_aload_n hx hb dX10_init_50 rfl (lv_at hl 1 rfl) ?_
  refine y_getr (t := 97) hx hb hts (z_memU u10) hown hK.1 hY f10_1 (by decide) (zkd_of (rfl : zcd wC 96 = 44) rfl) (tup_ne rfl (tup_ne rfl (tup_ne rfl (tup_ne rfl (tup_ne rfl (tup_ne rfl (tup_ne rfl (tup_ne rfl (tup_ne rfl (tup_ne rfl (tup_ne rfl (tup_ne rfl (tup_ne rfl (tup_ne rfl (tup_ne rfl (tup_ne rfl (tup_ne rfl (tup_ne rfl (tup_ne rfl (tup_ne rfl (tup_ne rfl (tup_ne rfl (tup_ne rfl (tup_ne rfl (tup_ne rfl (tup_ne rfl (tup_ne rfl tup_s))))))))))))))))))))))))))) (Or.inl (hts _ (z_mem k233))) dX10_init_51 ?_
  refine lv_iload_n hx hb dX10_init_54 rfl (lv_at hl 0 rfl) ?_
  refine y_new hx hb hts (z_memU u8) tyX8 tyX8_ok hown (hts _ (z_mem k230)) (hts _ (z_mem k37)) (hts _ (z_mem k3)) hK.1 hY hS0 (rfl : vwCl[8]? = some (RX8, TX8, 2)) (by decide) (zkd_of (rfl : zcd wC 125 = 6) rfl) rfl (fun k hk => by rcases (show k = 0 ∨ k = 1 by omega) with rfl | rfl <;> rfl) (Nat.le_of_ble_eq_true rfl) (Nat.le_of_ble_eq_true rfl) dX10_init_55 (fun H hY hS0 => ?_)
  have hY : yS D dA vwCl wC 126 b _ _ H := hY
  refine lv_dup hx hb dX10_init_58 rfl ?_
  have hnw := hK.2 (RX10, 31, yX8_init, RX11) (List.mem_of_getElem? (i := 9) rfl)
  refine y_call (va_runIN (As := []) (rest := [.ref (b + 125), .int (iI 12), .ref (b + 97)]) ⟨hx, hb, hml, hown, hts⟩ (mk_Strip l D dA b _ _ 126 125 (by decide) (rfl : zcd wC 125 = 6) (rfl : zcd wC 126 = 7)) ⟨va_cnB 0 hts (z_gN k39) rfl rfl rfl hnw (hts _ (z_mem k3)) (by decide +kernel) ⟨(Nat.le_of_ble_eq_true rfl), (Nat.le_of_ble_eq_true rfl)⟩, rfl, (hts _ (z_mem k38))⟩ ⟨yP_blind, y_pre hY hK hO⟩ rfl rfl hl.1 rfl (lv_room (Nat.le_of_ble_eq_true rfl)) dX10_init_59 ⟨(Nat.le_of_ble_eq_true rfl), (Nat.le_of_ble_eq_true rfl)⟩) hS0 (fun H locs hY hS0 => ?_)
  have hY : yS D dA vwCl wC 127 b _ _ H := hY
  refine y_aast (t0 := 4) (N := 16) (i := 12) hx hb hK.1 (by decide) (hK.1.2 4 _ rfl).2 (rfl : vwCl[8]? = some (RX8, TX8, 2)) (by decide) hY hS0 (by decide) (zkd_of (rfl : zcd wC 97 = 45) rfl) (zln_of (rfl : zcd wC 97 = 45) rfl) (by decide) (zkd_of (rfl : zcd wC 125 = 6) rfl) (by decide) (by decide) (by decide) dX10_init_62 (fun H locs hY hS0 => ?_)
  refine z_iinc (lv' := [(1, .int (iI (12 + 1))), (0, .ref (b + 96))]) hx hb dX10_init_63 hl (k := 0) rfl (by decide) rfl (fun ls hl => ?_)
  rw [show ((12 + 1) : Int) = 13 from by decide] at hl
  refine lv_goto (tgt := 44) hx hb dX10_init_66 (by decide) ?_
  refine lv_iload_n hx hb dX10_init_44 rfl (lv_at hl 0 rfl) ?_
  refine z_bipush hx hb (by decide) dX10_init_45 ?_
  refine z_icmp_ge (tgt := 69) hx hb (by decide) (by decide) dX10_init_47 (by decide) (fun c9 => absurd c9 (by decide)) (fun _ => ?_)
  refine lv_aload_n hx hb dX10_init_50 rfl (lv_at hl 1 rfl) ?_
  refine y_getr (t := 97) hx hb hts (z_memU u10) hown hK.1 hY f10_1 (by decide) (zkd_of (rfl : zcd wC 96 = 44) rfl) (tup_ne rfl (tup_ne rfl (tup_ne rfl (tup_ne rfl (tup_ne rfl (tup_ne rfl (tup_ne rfl (tup_ne rfl (tup_ne rfl (tup_ne rfl (tup_ne rfl (tup_ne rfl (tup_ne rfl (tup_ne rfl (tup_ne rfl (tup_ne rfl (tup_ne rfl (tup_ne rfl (tup_ne rfl (tup_ne rfl (tup_ne rfl (tup_ne rfl (tup_ne rfl (tup_ne rfl (tup_ne rfl (tup_ne rfl (tup_ne rfl (tup_ne rfl (tup_ne rfl tup_s))))))))))))))))))))))))))))) (Or.inl (hts _ (z_mem k233))) dX10_init_51 ?_
  refine lv_iload_n hx hb dX10_init_54 rfl (lv_at hl 0 rfl) ?_
  refine y_new hx hb hts (z_memU u8) tyX8 tyX8_ok hown (hts _ (z_mem k230)) (hts _ (z_mem k37)) (hts _ (z_mem k3)) hK.1 hY hS0 (rfl : vwCl[8]? = some (RX8, TX8, 2)) (by decide) (zkd_of (rfl : zcd wC 127 = 6) rfl) rfl (fun k hk => by rcases (show k = 0 ∨ k = 1 by omega) with rfl | rfl <;> rfl) (Nat.le_of_ble_eq_true rfl) (Nat.le_of_ble_eq_true rfl) dX10_init_55 (fun H hY hS0 => ?_)
  have hY : yS D dA vwCl wC 128 b _ _ H := hY
  refine lv_dup hx hb dX10_init_58 rfl ?_
  have hnw := hK.2 (RX10, 31, yX8_init, RX11) (List.mem_of_getElem? (i := 9) rfl)
  refine y_call (va_runIN (As := []) (rest := [.ref (b + 127), .int (iI 13), .ref (b + 97)]) ⟨hx, hb, hml, hown, hts⟩ (mk_Strip l D dA b _ _ 128 127 (by decide) (rfl : zcd wC 127 = 6) (rfl : zcd wC 128 = 7)) ⟨va_cnB 0 hts (z_gN k39) rfl rfl rfl hnw (hts _ (z_mem k3)) (by decide +kernel) ⟨(Nat.le_of_ble_eq_true rfl), (Nat.le_of_ble_eq_true rfl)⟩, rfl, (hts _ (z_mem k38))⟩ ⟨yP_blind, y_pre hY hK hO⟩ rfl rfl hl.1 rfl (lv_room (Nat.le_of_ble_eq_true rfl)) dX10_init_59 ⟨(Nat.le_of_ble_eq_true rfl), (Nat.le_of_ble_eq_true rfl)⟩) hS0 (fun H locs hY hS0 => ?_)
  have hY : yS D dA vwCl wC 129 b _ _ H := hY
  refine y_aast (t0 := 4) (N := 16) (i := 13) hx hb hK.1 (by decide) (hK.1.2 4 _ rfl).2 (rfl : vwCl[8]? = some (RX8, TX8, 2)) (by decide) hY hS0 (by decide) (zkd_of (rfl : zcd wC 97 = 45) rfl) (zln_of (rfl : zcd wC 97 = 45) rfl) (by decide) (zkd_of (rfl : zcd wC 127 = 6) rfl) (by decide) (by decide) (by decide) dX10_init_62 (fun H locs hY hS0 => ?_)
  refine z_iinc (lv' := [(1, .int (iI (13 + 1))), (0, .ref (b + 96))]) hx hb dX10_init_63 hl (k := 0) rfl (by decide) rfl (fun ls hl => ?_)
  rw [show ((13 + 1) : Int) = 14 from by decide] at hl
  refine lv_goto (tgt := 44) hx hb dX10_init_66 (by decide) ?_
  refine lv_iload_n hx hb dX10_init_44 rfl (lv_at hl 0 rfl) ?_
  refine z_bipush hx hb (by decide) dX10_init_45 ?_
  refine z_icmp_ge (tgt := 69) hx hb (by decide) (by decide) dX10_init_47 (by decide) (fun c9 => absurd c9 (by decide)) (fun _ => ?_)
  refine lv_aload_n hx hb dX10_init_50 rfl (lv_at hl 1 rfl) ?_
  refine y_getr (t := 97) hx hb hts (z_memU u10) hown hK.1 hY f10_1 (by decide) (zkd_of (rfl : zcd wC 96 = 44) rfl) (tup_ne rfl (tup_ne rfl (tup_ne rfl (tup_ne rfl (tup_ne rfl (tup_ne rfl (tup_ne rfl (tup_ne rfl (tup_ne rfl (tup_ne rfl (tup_ne rfl (tup_ne rfl (tup_ne rfl (tup_ne rfl (tup_ne rfl (tup_ne rfl (tup_ne rfl (tup_ne rfl (tup_ne rfl (tup_ne rfl (tup_ne rfl (tup_ne rfl (tup_ne rfl (tup_ne rfl (tup_ne rfl (tup_ne rfl (tup_ne rfl (tup_ne rfl (tup_ne rfl (tup_ne rfl (tup_ne rfl tup_s))))))))))))))))))))))))))))))) (Or.inl (hts _ (z_mem k233))) dX10_init_51 ?_
  refine lv_iload_n hx hb dX10_init_54 rfl (lv_at hl 0 rfl) ?_
  refine y_new hx hb hts (z_memU u8) tyX8 tyX8_ok hown (hts _ (z_mem k230)) (hts _ (z_mem k37)) (hts _ (z_mem k3)) hK.1 hY hS0 (rfl : vwCl[8]? = some (RX8, TX8, 2)) (by decide) (zkd_of (rfl : zcd wC 129 = 6) rfl) rfl (fun k hk => by rcases (show k = 0 ∨ k = 1 by omega) with rfl | rfl <;> rfl) (Nat.le_of_ble_eq_true rfl) (Nat.le_of_ble_eq_true rfl) dX10_init_55 (fun H hY hS0 => ?_)
  have hY : yS D dA vwCl wC 130 b _ _ H := hY
  refine lv_dup hx hb dX10_init_58 rfl ?_
  have hnw := hK.2 (RX10, 31, yX8_init, RX11) (List.mem_of_getElem? (i := 9) rfl)
  refine y_call (va_runIN (As := []) (rest := [.ref (b + 129), .int (iI 14), .ref (b + 97)]) ⟨hx, hb, hml, hown, hts⟩ (mk_Strip l D dA b _ _ 130 129 (by decide) (rfl : zcd wC 129 = 6) (rfl : zcd wC 130 = 7)) ⟨va_cnB 0 hts (z_gN k39) rfl rfl rfl hnw (hts _ (z_mem k3)) (by decide +kernel) ⟨(Nat.le_of_ble_eq_true rfl), (Nat.le_of_ble_eq_true rfl)⟩, rfl, (hts _ (z_mem k38))⟩ ⟨yP_blind, y_pre hY hK hO⟩ rfl rfl hl.1 rfl (lv_room (Nat.le_of_ble_eq_true rfl)) dX10_init_59 ⟨(Nat.le_of_ble_eq_true rfl), (Nat.le_of_ble_eq_true rfl)⟩) hS0 (fun H locs hY hS0 => ?_)
  have hY : yS D dA vwCl wC 131 b _ _ H := hY
  refine y_aast (t0 := 4) (N := 16) (i := 14) hx hb hK.1 (by decide) (hK.1.2 4 _ rfl).2 (rfl : vwCl[8]? = some (RX8, TX8, 2)) (by decide) hY hS0 (by decide) (zkd_of (rfl : zcd wC 97 = 45) rfl) (zln_of (rfl : zcd wC 97 = 45) rfl) (by decide) (zkd_of (rfl : zcd wC 129 = 6) rfl) (by decide) (by decide) (by decide) dX10_init_62 (fun H locs hY hS0 => ?_)
  refine z_iinc (lv' := [(1, .int (iI (14 + 1))), (0, .ref (b + 96))]) hx hb dX10_init_63 hl (k := 0) rfl (by decide) rfl (fun ls hl => ?_)
  rw [show ((14 + 1) : Int) = 15 from by decide] at hl
  refine lv_goto (tgt := 44) hx hb dX10_init_66 (by decide) ?_
  refine lv_iload_n hx hb dX10_init_44 rfl (lv_at hl 0 rfl) ?_
  refine z_bipush hx hb (by decide) dX10_init_45 ?_
  refine z_icmp_ge (tgt := 69) hx hb (by decide) (by decide) dX10_init_47 (by decide) (fun c9 => absurd c9 (by decide)) (fun _ => ?_)
  refine lv_aload_n hx hb dX10_init_50 rfl (lv_at hl 1 rfl) ?_
  refine y_getr (t := 97) hx hb hts (z_memU u10) hown hK.1 hY f10_1 (by decide) (zkd_of (rfl : zcd wC 96 = 44) rfl) (tup_ne rfl (tup_ne rfl (tup_ne rfl (tup_ne rfl (tup_ne rfl (tup_ne rfl (tup_ne rfl (tup_ne rfl (tup_ne rfl (tup_ne rfl (tup_ne rfl (tup_ne rfl (tup_ne rfl (tup_ne rfl (tup_ne rfl (tup_ne rfl (tup_ne rfl (tup_ne rfl (tup_ne rfl (tup_ne rfl (tup_ne rfl (tup_ne rfl (tup_ne rfl (tup_ne rfl (tup_ne rfl (tup_ne rfl (tup_ne rfl (tup_ne rfl (tup_ne rfl (tup_ne rfl (tup_ne rfl (tup_ne rfl (tup_ne rfl tup_s))))))))))))))))))))))))))))))))) (Or.inl (hts _ (z_mem k233))) dX10_init_51 ?_
  refine lv_iload_n hx hb dX10_init_54 rfl (lv_at hl 0 rfl) ?_
  refine y_new hx hb hts (z_memU u8) tyX8 tyX8_ok hown (hts _ (z_mem k230)) (hts _ (z_mem k37)) (hts _ (z_mem k3)) hK.1 hY hS0 (rfl : vwCl[8]? = some (RX8, TX8, 2)) (by decide) (zkd_of (rfl : zcd wC 131 = 6) rfl) rfl (fun k hk => by rcases (show k = 0 ∨ k = 1 by omega) with rfl | rfl <;> rfl) (Nat.le_of_ble_eq_true rfl) (Nat.le_of_ble_eq_true rfl) dX10_init_55 (fun H hY hS0 => ?_)
  have hY : yS D dA vwCl wC 132 b _ _ H := hY
  refine lv_dup hx hb dX10_init_58 rfl ?_
  have hnw := hK.2 (RX10, 31, yX8_init, RX11) (List.mem_of_getElem? (i := 9) rfl)
  refine y_call (va_runIN (As := []) (rest := [.ref (b + 131), .int (iI 15), .ref (b + 97)]) ⟨hx, hb, hml, hown, hts⟩ (mk_Strip l D dA b _ _ 132 131 (by decide) (rfl : zcd wC 131 = 6) (rfl : zcd wC 132 = 7)) ⟨va_cnB 0 hts (z_gN k39) rfl rfl rfl hnw (hts _ (z_mem k3)) (by decide +kernel) ⟨(Nat.le_of_ble_eq_true rfl), (Nat.le_of_ble_eq_true rfl)⟩, rfl, (hts _ (z_mem k38))⟩ ⟨yP_blind, y_pre hY hK hO⟩ rfl rfl hl.1 rfl (lv_room (Nat.le_of_ble_eq_true rfl)) dX10_init_59 ⟨(Nat.le_of_ble_eq_true rfl), (Nat.le_of_ble_eq_true rfl)⟩) hS0 (fun H locs hY hS0 => ?_)
  have hY : yS D dA vwCl wC 133 b _ _ H := hY
  refine y_aast (t0 := 4) (N := 16) (i := 15) hx hb hK.1 (by decide) (hK.1.2 4 _ rfl).2 (rfl : vwCl[8]? = some (RX8, TX8, 2)) (by decide) hY hS0 (by decide) (zkd_of (rfl : zcd wC 97 = 45) rfl) (zln_of (rfl : zcd wC 97 = 45) rfl) (by decide) (zkd_of (rfl : zcd wC 131 = 6) rfl) (by decide) (by decide) (by decide) dX10_init_62 (fun H locs hY hS0 => ?_)
  refine z_iinc (lv' := [(1, .int (iI (15 + 1))), (0, .ref (b + 96))]) hx hb dX10_init_63 hl (k := 0) rfl (by decide) rfl (fun ls hl => ?_)
  rw [show ((15 + 1) : Int) = 16 from by decide] at hl
  refine lv_goto (tgt := 44) hx hb dX10_init_66 (by decide) ?_
  refine lv_iload_n hx hb dX10_init_44 rfl (lv_at hl 0 rfl) ?_
  refine z_bipush hx hb (by decide) dX10_init_45 ?_
  refine z_icmp_ge (tgt := 69) hx hb (by decide) (by decide) dX10_init_47 (by decide) (fun _ => ?_) (fun c9 => absurd c9 (by decide))
  exact y_ret hx hb hr hlocks hY hS0 dX10_init_69
