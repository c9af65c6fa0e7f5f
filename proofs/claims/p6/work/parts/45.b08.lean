def mT_C32 (T : zT) : zT := (tup (mT_C53 (tup (mT_C49 (tup (mT_C45 (tup (mT_C41 (tup (mT_C38 (tup (mT_C35 (tup (tup T 32 0 33) 32 1 34)) 33 (0 : Int).toNat 35)) 33 (1 : Int).toNat 38)) 34 (0 : Int).toNat 41)) 34 (1 : Int).toNat 45)) 34 (2 : Int).toNat 49)) 34 (3 : Int).toNat 53)
def mM_C32 (M : zM) : zM := (mM_C53 (mM_C49 (mM_C45 (mM_C41 (mM_C38 (mM_C35 (zup M 32 2 0)))))))
set_option maxHeartbeats 4000000 in
set_option maxRecDepth 100000 in
theorem mk_C32 (l : Launch) (D : va_G) (dA : Nat → ClassId) (b : Nat) (M : zM) (T : zT) : Met l yX9_init (.code yX9_init cX9_init 2 none :: zt) (y_rm 3 24 284) (va_Pc [.ref (b + 32)] (yP D dA vwCl (z_tys dA) wC 33 b M T)) (va_Qv (fun _ => True) (yB D dA vwCl wC 57 b (mM_C32 M) (mT_C32 T)) (yA b)) 24 284 (yA b) := by
  refine Met.ofW (cc := cX9_init) (maxL := 2) (ret := none) (by decide) rfl ?_
  intro p e s m args below meth c s₁ B hml hv
  obtain ⟨hargs, hY, hK, hO⟩ := hv
  have hx := B.exec
  have hb := B.bytes
  have hr := B.returns
  have hts := atoms_spec (ws := .code yX9_init cX9_init 2 none :: zt) B.pre
  have hown : s.vm.findClass RX9 = some m.cls := findClass_of_methodNamed B.named
  have hlocks := B.notSynchronized
  have hin : meth.name = "<init>" := (name_of_methodNamed B.named B.method).1
  have hS0 : va_S (yA b) s.heap s.heap [] := va_S.rf
  have hl := lv_entry ([.ref (b + 32)]) (n := 2) (Nat.le_of_ble_eq_true rfl)
  have hent : entryFrame m args 2 = F0 m 0 ((lg_sl ([.ref (b + 32)]) ++ List.replicate (2 - (lg_sl ([.ref (b + 32)])).length) Slot.unset).toArray) [] := by rw [hargs]; exact lg_entry_eq m ([.ref (b + 32)]) 2
  rw [hent]
  generalize (lg_sl ([.ref (b + 32)]) ++ List.replicate (2 - (lg_sl ([.ref (b + 32)])).length) Slot.unset).toArray = ls at hl ⊢
  have hl : lv_has ls 2 [(0, .ref (b + 32))] := hl
  refine lv_aload_n hx hb dX9_init_0 rfl (lv_at hl 0 rfl) ?_
  refine W.objInit hx hb hown (hts _ (z_mem k75)) (hts _ (z_mem k28)) (hts _ (z_mem k29)) rfl (by rw [hml]; exact hl.1) rfl dX9_init_1 (Nat.le_of_ble_eq_true rfl) (Nat.le_of_ble_eq_true rfl) ?_
  refine W.eq (g2 := F0 m 4 ls []) rfl ?_
  refine lv_aload_n hx hb dX9_init_4 rfl (lv_at hl 0 rfl) ?_
  refine z_iconst hx hb dX9_init_5 ?_
  refine y_newq (C := "TapeRings$Motor") (t0 := 5) (N := 2) hx hb hown (hts _ (z_mem k76)) hO.2.1 (by decide) (hK.1.2 5 _ rfl).2 hY hS0 (zkd_of (rfl : zcd wC 33 = 9) rfl) (zln_of (rfl : zcd wC 33 = 9) rfl) (by decide) rfl (by decide) (by decide) (Nat.le_of_ble_eq_true rfl) (Nat.le_of_ble_eq_true rfl) dX9_init_6 (fun H hY hS0 => ?_)
  have hY : yS D dA vwCl wC 34 b _ _ H := hY
  refine y_putrF (t := 33) hx hb hts (z_memU u9) tyX9 tyX9_ok nmX9 hown hK.1 hY hS0 f9_0 (by decide) (zkd_of (rfl : zcd wC 32 = 8) rfl) (hts _ (z_mem k116)) rfl hin rfl (tyX9_ok 0 (by decide)) (fun _ => rfl) (fun _ => rfl) dX9_init_9 (fun H locs hY hS0 => ?_)
  refine lv_aload_n hx hb dX9_init_12 rfl (lv_at hl 0 rfl) ?_
  refine z_iconst hx hb dX9_init_13 ?_
  refine y_newq (C := "TapeRings$Ring") (t0 := 6) (N := 4) hx hb hown (hts _ (z_mem k77)) hO.2.2.1 (by decide) (hK.1.2 6 _ rfl).2 hY hS0 (zkd_of (rfl : zcd wC 34 = 10) rfl) (zln_of (rfl : zcd wC 34 = 10) rfl) (by decide) rfl (by decide) (by decide) (Nat.le_of_ble_eq_true rfl) (Nat.le_of_ble_eq_true rfl) dX9_init_14 (fun H hY hS0 => ?_)
  have hY : yS D dA vwCl wC 35 b _ _ H := hY
  refine y_putrF (t := 34) hx hb hts (z_memU u9) tyX9 tyX9_ok nmX9 hown hK.1 hY hS0 f9_1 (by decide) (zkd_of (rfl : zcd wC 32 = 8) rfl) (hts _ (z_mem k117)) rfl hin rfl (tyX9_ok 1 (by decide)) (fun _ => rfl) (fun _ => rfl) dX9_init_17 (fun H locs hY hS0 => ?_)
  refine lv_aload_n hx hb dX9_init_20 rfl (lv_at hl 0 rfl) ?_
  refine z_iconst hx hb dX9_init_21 ?_
  refine y_puti (z := 0) hx hb hts (z_memU u9) tyX9 tyX9_ok nmX9 hown hK.1 hY hS0 f9_2 (by decide) (zkd_of (rfl : zcd wC 32 = 8) rfl) (Or.inl (hts _ (z_mem k118))) rfl (by decide +kernel) (zbd_in (rfl : zcd wC 32 = 8) rfl (by decide)) dX9_init_22 (fun H locs hY hS0 => ?_)
  refine z_iconst hx hb dX9_init_25 ?_
  refine lv_istore_n (lv' := [(1, .int (iI 0)), (0, .ref (b + 32))]) hx hb dX9_init_26 rfl hl (by decide) rfl (fun ls hl => ?_)
  refine lv_iload_n hx hb dX9_init_27 rfl (lv_at hl 0 rfl) ?_
  refine z_iconst hx hb dX9_init_28 ?_
  refine z_icmp_ge (tgt := 51) hx hb (by decide) (by decide) dX9_init_29 (by decide) (fun c9 => absurd c9 (by decide)) (fun _ => ?_)
  refine lv_aload_n hx hb dX9_init_32 rfl (lv_at hl 1 rfl) ?_
  refine y_getr (t := 33) hx hb hts (z_memU u9) hown hK.1 hY f9_0 (by decide) (zkd_of (rfl : zcd wC 32 = 8) rfl) (tup_ne rfl tup_s) (Or.inl (hts _ (z_mem k116))) dX9_init_33 ?_
  refine lv_iload_n hx hb dX9_init_36 rfl (lv_at hl 0 rfl) ?_
  refine y_new hx hb hts (z_memU u2) tyX2 tyX2_ok hown (hts _ (z_mem k76)) (hts _ (z_mem k78)) (hts _ (z_mem k5)) hK.1 hY hS0 (rfl : vwCl[2]? = some (RX2, TX2, 3)) (by decide) (zkd_of (rfl : zcd wC 35 = 11) rfl) rfl (fun k hk => by rcases (show k = 0 ∨ k = 1 ∨ k = 2 by omega) with rfl | rfl | rfl <;> rfl) (Nat.le_of_ble_eq_true rfl) (Nat.le_of_ble_eq_true rfl) dX9_init_37 (fun H hY hS0 => ?_)
  have hY : yS D dA vwCl wC 36 b _ _ H := hY
  refine lv_dup hx hb dX9_init_40 rfl ?_
  have hnw := hK.2 (RX9, 27, yX2_init, RX11) (List.mem_of_getElem? (i := 2) rfl)
  refine y_call (va_runIN (As := []) (rest := [.ref (b + 35), .int (iI 0), .ref (b + 33)]) ⟨hx, hb, hml, hown, hts⟩ (mk_C35 l D dA b _ _) ⟨va_cnB 0 hts (z_gN k80) rfl rfl rfl hnw (hts _ (z_mem k5)) (by decide +kernel) ⟨(Nat.le_of_ble_eq_true rfl), (Nat.le_of_ble_eq_true rfl)⟩, rfl, (hts _ (z_mem k79))⟩ ⟨yP_blind, y_pre hY hK hO⟩ rfl rfl hl.1 rfl (lv_room (Nat.le_of_ble_eq_true rfl)) dX9_init_41 ⟨(Nat.le_of_ble_eq_true rfl), (Nat.le_of_ble_eq_true rfl)⟩) hS0 (fun H locs hY hS0 => ?_)
  have hY : yS D dA vwCl wC 38 b _ _ H := hY
  refine y_aast (t0 := 5) (N := 2) (i := 0) hx hb hK.1 (by decide) (hK.1.2 5 _ rfl).2 (rfl : vwCl[2]? = some (RX2, TX2, 3)) (by decide) hY hS0 (by decide) (zkd_of (rfl : zcd wC 33 = 9) rfl) (zln_of (rfl : zcd wC 33 = 9) rfl) (by decide) (zkd_of (rfl : zcd wC 35 = 11) rfl) (by decide) (by decide) (by decide) dX9_init_44 (fun H locs hY hS0 => ?_)
  refine z_iinc (lv' := [(1, .int (iI (0 + 1))), (0, .ref (b + 32))]) hx hb dX9_init_45 hl (k := 0) rfl (by decide) rfl (fun ls hl => ?_)
  rw [show ((0 + 1) : Int) = 1 from by decide] at hl
  refine lv_goto (tgt := 27) hx hb dX9_init_48 (by decide) ?_
  refine lv_iload_n hx hb dX9_init_27 rfl (lv_at hl 0 rfl) ?_
  refine z_iconst hx hb dX9_init_28 ?_
  refine z_icmp_ge (tgt := 51) hx hb (by decide) (by decide) dX9_init_29 (by decide) (fun c9 => absurd c9 (by decide)) (fun _ => ?_)
  refine lv_aload_n hx hb dX9_init_32 rfl (lv_at hl 1 rfl) ?_
  refine y_getr (t := 33) hx hb hts (z_memU u9) hown hK.1 hY f9_0 (by decide) (zkd_of (rfl : zcd wC 32 = 8) rfl) (tup_ne rfl (tup_ne rfl (tup_ne rfl (tup_ne rfl tup_s)))) (Or.inl (hts _ (z_mem k116))) dX9_init_33 ?_
  refine lv_iload_n hx hb dX9_init_36 rfl (lv_at hl 0 rfl) ?_
  refine y_new hx hb hts (z_memU u2) tyX2 tyX2_ok hown (hts _ (z_mem k76)) (hts _ (z_mem k78)) (hts _ (z_mem k5)) hK.1 hY hS0 (rfl : vwCl[2]? = some (RX2, TX2, 3)) (by decide) (zkd_of (rfl : zcd wC 38 = 11) rfl) rfl (fun k hk => by rcases (show k = 0 ∨ k = 1 ∨ k = 2 by omega) with rfl | rfl | rfl <;> rfl) (Nat.le_of_ble_eq_true rfl) (Nat.le_of_ble_eq_true rfl) dX9_init_37 (fun H hY hS0 => ?_)
  have hY : yS D dA vwCl wC 39 b _ _ H := hY
  refine lv_dup hx hb dX9_init_40 rfl ?_
  have hnw := hK.2 (RX9, 27, yX2_init, RX11) (List.mem_of_getElem? (i := 2) rfl)
  refine y_call (va_runIN (As := []) (rest := [.ref (b + 38), .int (iI 1), .ref (b + 33)]) ⟨hx, hb, hml, hown, hts⟩ (mk_C38 l D dA b _ _) ⟨va_cnB 0 hts (z_gN k80) rfl rfl rfl hnw (hts _ (z_mem k5)) (by decide +kernel) ⟨(Nat.le_of_ble_eq_true rfl), (Nat.le_of_ble_eq_true rfl)⟩, rfl, (hts _ (z_mem k79))⟩ ⟨yP_blind, y_pre hY hK hO⟩ rfl rfl hl.1 rfl (lv_room (Nat.le_of_ble_eq_true rfl)) dX9_init_41 ⟨(Nat.le_of_ble_eq_true rfl), (Nat.le_of_ble_eq_true rfl)⟩) hS0 (fun H locs hY hS0 => ?_)
  have hY : yS D dA vwCl wC 41 b _ _ H := hY
  refine y_aast (t0 := 5) (N := 2) (i := 1) hx hb hK.1 (by decide) (hK.1.2 5 _ rfl).2 (rfl : vwCl[2]? = some (RX2, TX2, 3)) (by decide) hY hS0 (by decide) (zkd_of (rfl : zcd wC 33 = 9) rfl) (zln_of (rfl : zcd wC 33 = 9) rfl) (by decide) (zkd_of (rfl : zcd wC 38 = 11) rfl) (by decide) (by decide) (by decide) dX9_init_44 (fun H locs hY hS0 => ?_)
  refine z_iinc (lv' := [(1, .int (iI (1 + 1))), (0, .ref (b + 32))]) hx hb dX9_init_45 hl (k := 0) rfl (by decide) rfl (fun ls hl => ?_)
  rw [show ((1 + 1) : Int) = 2 from by decide] at hl
  refine lv_goto (tgt := 27) hx hb dX9_init_48 (by decide) ?_
  refine lv_iload_n hx hb dX9_init_27 rfl (lv_at hl 0 rfl) ?_
  refine z_iconst hx hb dX9_init_28 ?_
  refine z_icmp_ge (tgt := 51) hx hb (by decide) (by decide) dX9_init_29 (by decide) (fun _ => ?_) (fun c9 => absurd c9 (by decide))
  refine z_iconst hx hb dX9_init_51 ?_
  refine lv_istore_n (lv' := [(1, .int (iI 0)), (0, .ref (b + 32))]) hx hb dX9_init_52 rfl hl (by decide) rfl (fun ls hl => ?_)
  refine lv_iload_n hx hb dX9_init_53 rfl (lv_at hl 0 rfl) ?_
  refine z_iconst hx hb dX9_init_54 ?_
  refine z_icmp_ge (tgt := 77) hx hb (by decide) (by decide) dX9_init_55 (by decide) (fun c9 => absurd c9 (by decide)) (fun _ => ?_)
  refine lv_aload_n hx hb dX9_init_58 rfl (lv_at hl 1 rfl) ?_
  refine y_getr (t := 34) hx hb hts (z_memU u9) hown hK.1 hY f9_1 (by decide) (zkd_of (rfl : zcd wC 32 = 8) rfl) (tup_ne rfl (tup_ne rfl (tup_ne rfl (tup_ne rfl (tup_ne rfl (tup_ne rfl tup_s)))))) (Or.inl (hts _ (z_mem k117))) dX9_init_59 ?_
  refine lv_iload_n hx hb dX9_init_62 rfl (lv_at hl 0 rfl) ?_
  refine y_new hx hb hts (z_memU u6) tyX6 tyX6_ok hown (hts _ (z_mem k77)) (hts _ (z_mem k88)) (hts _ (z_mem k6)) hK.1 hY hS0 (rfl : vwCl[6]? = some (RX6, TX6, 6)) (by decide) (zkd_of (rfl : zcd wC 41 = 14) rfl) rfl (fun k hk => by rcases (show k = 0 ∨ k = 1 ∨ k = 2 ∨ k = 3 ∨ k = 4 ∨ k = 5 by omega) with rfl | rfl | rfl | rfl | rfl | rfl <;> rfl) (Nat.le_of_ble_eq_true rfl) (Nat.le_of_ble_eq_true rfl) dX9_init_63 (fun H hY hS0 => ?_)
  have hY : yS D dA vwCl wC 42 b _ _ H := hY
  refine lv_dup hx hb dX9_init_66 rfl ?_
  have hnw := hK.2 (RX9, 28, yX6_init, RX11) (List.mem_of_getElem? (i := 3) rfl)
  refine y_call (va_runIN (As := []) (rest := [.ref (b + 41), .int (iI 0), .ref (b + 34)]) ⟨hx, hb, hml, hown, hts⟩ (mk_C41 l D dA b _ _) ⟨va_cnB 0 hts (z_gN k90) rfl rfl rfl hnw (hts _ (z_mem k6)) (by decide +kernel) ⟨(Nat.le_of_ble_eq_true rfl), (Nat.le_of_ble_eq_true rfl)⟩, rfl, (hts _ (z_mem k89))⟩ ⟨yP_blind, y_pre hY hK hO⟩ rfl rfl hl.1 rfl (lv_room (Nat.le_of_ble_eq_true rfl)) dX9_init_67 ⟨(Nat.le_of_ble_eq_true rfl), (Nat.le_of_ble_eq_true rfl)⟩) hS0 (fun H locs hY hS0 => ?_)
  have hY : yS D dA vwCl wC 45 b _ _ H := hY
  refine y_aast (t0 := 6) (N := 4) (i := 0) hx hb hK.1 (by decide) (hK.1.2 6 _ rfl).2 (rfl : vwCl[6]? = some (RX6, TX6, 6)) (by decide) hY hS0 (by decide) (zkd_of (rfl : zcd wC 34 = 10) rfl) (zln_of (rfl : zcd wC 34 = 10) rfl) (by decide) (zkd_of (rfl : zcd wC 41 = 14) rfl) (by decide) (by decide) (by decide) dX9_init_70 (fun H locs hY hS0 => ?_)
  refine z_iinc (lv' := [(1, .int (iI (0 + 1))), (0, .ref (b + 32))]) hx hb dX9_init_71 hl (k := 0) rfl (by decide) rfl (fun ls hl => ?_)
  rw [show ((0 + 1) : Int) = 1 from by decide] at hl
  refine lv_goto (tgt := 53) hx hb dX9_init_74 (by decide) ?_
  refine lv_iload_n hx hb dX9_init_53 rfl (lv_at hl 0 rfl) ?_
  refine z_iconst hx hb dX9_init_54 ?_
  refine z_icmp_ge (tgt := 77) hx hb (by decide) (by decide) dX9_init_55 (by decide) (fun c9 => absurd c9 (by decide)) (fun _ => ?_)
  refine lv_aload_n hx hb dX9_init_58 rfl (lv_at hl 1 rfl) ?_
  refine y_getr (t := 34) hx hb hts (z_memU u9) hown hK.1 hY f9_1 (by decide) (zkd_of (rfl : zcd wC 32 = 8) rfl) (tup_ne rfl (tup_ne rfl (tup_ne rfl (tup_ne rfl (tup_ne rfl (tup_ne rfl (tup_ne rfl (tup_ne rfl (tup_ne rfl (tup_ne rfl tup_s)))))))))) (Or.inl (hts _ (z_mem k117))) dX9_init_59 ?_
  refine lv_iload_n hx hb dX9_init_62 rfl (lv_at hl 0 rfl) ?_
  refine y_new hx hb hts (z_memU u6) tyX6 tyX6_ok hown (hts _ (z_mem k77)) (hts _ (z_mem k88)) (hts _ (z_mem k6)) hK.1 hY hS0 (rfl : vwCl[6]? = some (RX6, TX6, 6)) (by decide) (zkd_of (rfl : zcd wC 45 = 14) rfl) rfl (fun k hk => by rcases (show k = 0 ∨ k = 1 ∨ k = 2 ∨ k = 3 ∨ k = 4 ∨ k = 5 by omega) with rfl | rfl | rfl | rfl | rfl | rfl <;> rfl) (Nat.le_of_ble_eq_true rfl) (Nat.le_of_ble_eq_true rfl) dX9_init_63 (fun H hY hS0 => ?_)
  have hY : yS D dA vwCl wC 46 b _ _ H := hY
  refine lv_dup hx hb dX9_init_66 rfl ?_
  have hnw := hK.2 (RX9, 28, yX6_init, RX11) (List.mem_of_getElem? (i := 3) rfl)
  refine y_call (va_runIN (As := []) (rest := [.ref (b + 45), .int (iI 1), .ref (b + 34)]) ⟨hx, hb, hml, hown, hts⟩ (mk_C45 l D dA b _ _) ⟨va_cnB 0 hts (z_gN k90) rfl rfl rfl hnw (hts _ (z_mem k6)) (by decide +kernel) ⟨(Nat.le_of_ble_eq_true rfl), (Nat.le_of_ble_eq_true rfl)⟩, rfl, (hts _ (z_mem k89))⟩ ⟨yP_blind, y_pre hY hK hO⟩ rfl rfl hl.1 rfl (lv_room (Nat.le_of_ble_eq_true rfl)) dX9_init_67 ⟨(Nat.le_of_ble_eq_true rfl), (Nat.le_of_ble_eq_true rfl)⟩) hS0 (fun H locs hY hS0 => ?_)
  have hY : yS D dA vwCl wC 49 b _ _ H := hY
  refine y_aast (t0 := 6) (N := 4) (i := 1) hx hb hK.1 (by decide) (hK.1.2 6 _ rfl).2 (rfl : vwCl[6]? = some (RX6, TX6, 6)) (by decide) hY hS0 (by decide) (zkd_of (rfl : zcd wC 34 = 10) rfl) (zln_of (rfl : zcd wC 34 = 10) rfl) (by decide) (zkd_of (rfl : zcd wC 45 = 14) rfl) (by decide) (by decide) (by decide) dX9_init_70 (fun H locs hY hS0 => ?_)
  refine z_iinc (lv' := [(1, .int (iI (1 + 1))), (0, .ref (b + 32))]) hx hb dX9_init_71 hl (k := 0) rfl (by decide) rfl (fun ls hl => ?_)
  rw [show ((1 + 1) : Int) = 2 from by decide] at hl
  refine lv_goto (tgt := 53) hx hb dX9_init_74 (by decide) ?_
  refine lv_iload_n hx hb dX9_init_53 rfl (lv_at hl 0 rfl) ?_
  refine z_iconst hx hb dX9_init_54 ?_
  refine z_icmp_ge (tgt := 77) hx hb (by decide) (by decide) dX9_init_55 (by decide) (fun c9 => absurd c9 (by decide)) (fun _ => ?_)
  refine lv_aload_n hx hb dX9_init_58 rfl (lv_at hl 1 rfl) ?_
  refine y_getr (t := 34) hx hb hts (z_memU u9) hown hK.1 hY f9_1 (by decide) (zkd_of (rfl : zcd wC 32 = 8) rfl) (tup_ne rfl (tup_ne rfl (tup_ne rfl (tup_ne rfl (tup_ne rfl (tup_ne rfl (tup_ne rfl (tup_ne rfl (tup_ne rfl (tup_ne rfl (tup_ne rfl (tup_ne rfl (tup_ne rfl (tup_ne rfl tup_s)))))))))))))) (Or.inl (hts _ (z_mem k117))) dX9_init_59 ?_
  refine lv_iload_n hx hb dX9_init_62 rfl (lv_at hl 0 rfl) ?_
  refine y_new hx hb hts (z_memU u6) tyX6 tyX6_ok hown (hts _ (z_mem k77)) (hts _ (z_mem k88)) (hts _ (z_mem k6)) hK.1 hY hS0 (rfl : vwCl[6]? = some (RX6, TX6, 6)) (by decide) (zkd_of (rfl : zcd wC 49 = 14) rfl) rfl (fun k hk => by rcases (show k = 0 ∨ k = 1 ∨ k = 2 ∨ k = 3 ∨ k = 4 ∨ k = 5 by omega) with rfl | rfl | rfl | rfl | rfl | rfl <;> rfl) (Nat.le_of_ble_eq_true rfl) (Nat.le_of_ble_eq_true rfl) dX9_init_63 (fun H hY hS0 => ?_)
  have hY : yS D dA vwCl wC 50 b _ _ H := hY
  refine lv_dup hx hb dX9_init_66 rfl ?_
  have hnw := hK.2 (RX9, 28, yX6_init, RX11) (List.mem_of_getElem? (i := 3) rfl)
  refine y_call (va_runIN (As := []) (rest := [.ref (b + 49), .int (iI 2), .ref (b + 34)]) ⟨hx, hb, hml, hown, hts⟩ (mk_C49 l D dA b _ _) ⟨va_cnB 0 hts (z_gN k90) rfl rfl rfl hnw (hts _ (z_mem k6)) (by decide +kernel) ⟨(Nat.le_of_ble_eq_true rfl), (Nat.le_of_ble_eq_true rfl)⟩, rfl, (hts _ (z_mem k89))⟩ ⟨yP_blind, y_pre hY hK hO⟩ rfl rfl hl.1 rfl (lv_room (Nat.le_of_ble_eq_true rfl)) dX9_init_67 ⟨(Nat.le_of_ble_eq_true rfl), (Nat.le_of_ble_eq_true rfl)⟩) hS0 (fun H locs hY hS0 => ?_)
  have hY : yS D dA vwCl wC 53 b _ _ H := hY
  refine y_aast (t0 := 6) (N := 4) (i := 2) hx hb hK.1 (by decide) (hK.1.2 6 _ rfl).2 (rfl : vwCl[6]? = some (RX6, TX6, 6)) (by decide) hY hS0 (by decide) (zkd_of (rfl : zcd wC 34 = 10) rfl) (zln_of (rfl : zcd wC 34 = 10) rfl) (by decide) (zkd_of (rfl : zcd wC 49 = 14) rfl) (by decide) (by decide) (by decide) dX9_init_70 (fun H locs hY hS0 => ?_)
  refine z_iinc (lv' := [(1, .int (iI (2 + 1))), (0, .ref (b + 32))]) hx hb dX9_init_71 hl (k := 0) rfl (by decide) rfl (fun ls hl => ?_)
  rw [show ((2 + 1) : Int) = 3 from by decide] at hl
  refine lv_goto (tgt := 53) hx hb dX9_init_74 (by decide) ?_
  refine lv_iload_n hx hb dX9_init_53 rfl (lv_at hl 0 rfl) ?_
  refine z_iconst hx hb dX9_init_54 ?_
  refine z_icmp_ge (tgt := 77) hx hb (by decide) (by decide) dX9_init_55 (by decide) (fun c9 => absurd c9 (by decide)) (fun _ => ?_)
  refine lv_aload_n hx hb dX9_init_58 rfl (lv_at hl 1 rfl) ?_
  refine y_getr (t := 34) hx hb hts (z_memU u9) hown hK.1 hY f9_1 (by decide) (zkd_of (rfl : zcd wC 32 = 8) rfl) (tup_ne rfl (tup_ne rfl (tup_ne rfl (tup_ne rfl (tup_ne rfl (tup_ne rfl (tup_ne rfl (tup_ne rfl (tup_ne rfl (tup_ne rfl (tup_ne rfl (tup_ne rfl (tup_ne rfl (tup_ne rfl (tup_ne rfl (tup_ne rfl (tup_ne rfl (tup_ne rfl tup_s)))))))))))))))))) (Or.inl (hts _ (z_mem k117))) dX9_init_59 ?_
  refine lv_iload_n hx hb dX9_init_62 rfl (lv_at hl 0 rfl) ?_
  refine y_new hx hb hts (z_memU u6) tyX6 tyX6_ok hown (hts _ (z_mem k77)) (hts _ (z_mem k88)) (hts _ (z_mem k6)) hK.1 hY hS0 (rfl : vwCl[6]? = some (RX6, TX6, 6)) (by decide) (zkd_of (rfl : zcd wC 53 = 14) rfl) rfl (fun k hk => by rcases (show k = 0 ∨ k = 1 ∨ k = 2 ∨ k = 3 ∨ k = 4 ∨ k = 5 by omega) with rfl | rfl | rfl | rfl | rfl | rfl <;> rfl) (Nat.le_of_ble_eq_true rfl) (Nat.le_of_ble_eq_true rfl) dX9_init_63 (fun H hY hS0 => ?_)
  have hY : yS D dA vwCl wC 54 b _ _ H := hY
  refine lv_dup hx hb dX9_init_66 rfl ?_
  have hnw := hK.2 (RX9, 28, yX6_init, RX11) (List.mem_of_getElem? (i := 3) rfl)
  refine y_call (va_runIN (As := []) (rest := [.ref (b + 53), .int (iI 3), .ref (b + 34)]) ⟨hx, hb, hml, hown, hts⟩ (mk_C53 l D dA b _ _) ⟨va_cnB 0 hts (z_gN k90) rfl rfl rfl hnw (hts _ (z_mem k6)) (by decide +kernel) ⟨(Nat.le_of_ble_eq_true rfl), (Nat.le_of_ble_eq_true rfl)⟩, rfl, (hts _ (z_mem k89))⟩ ⟨yP_blind, y_pre hY hK hO⟩ rfl rfl hl.1 rfl (lv_room (Nat.le_of_ble_eq_true rfl)) dX9_init_67 ⟨(Nat.le_of_ble_eq_true rfl), (Nat.le_of_ble_eq_true rfl)⟩) hS0 (fun H locs hY hS0 => ?_)
  have hY : yS D dA vwCl wC 57 b _ _ H := hY
  refine y_aast (t0 := 6) (N := 4) (i := 3) hx hb hK.1 (by decide) (hK.1.2 6 _ rfl).2 (rfl : vwCl[6]? = some (RX6, TX6, 6)) (by decide) hY hS0 (by decide) (zkd_of (rfl : zcd wC 34 = 10) rfl) (zln_of (rfl : zcd wC 34 = 10) rfl) (by decide) (zkd_of (rfl : zcd wC 53 = 14) rfl) (by decide) (by decide) (by decide) dX9_init_70 (fun H locs hY hS0 => ?_)
  refine z_iinc (lv' := [(1, .int (iI (3 + 1))), (0, .ref (b + 32))]) hx hb dX9_init_71 hl (k := 0) rfl (by decide) rfl (fun ls hl => ?_)
  rw [show ((3 + 1) : Int) = 4 from by decide] at hl
  refine lv_goto (tgt := 53) hx hb dX9_init_74 (by decide) ?_
  refine lv_iload_n hx hb dX9_init_53 rfl (lv_at hl 0 rfl) ?_
  refine z_iconst hx hb dX9_init_54 ?_
  refine z_icmp_ge (tgt := 77) hx hb (by decide) (by decide) dX9_init_55 (by decide) (fun _ => ?_) (fun c9 => absurd c9 (by decide))
  exact y_ret hx hb hr hlocks hY hS0 dX9_init_77
