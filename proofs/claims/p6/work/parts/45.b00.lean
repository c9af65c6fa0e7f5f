set_option maxHeartbeats 4000000 in
set_option maxRecDepth 100000 in
theorem mk_Strip (l : Launch) (D : va_G) (dA : Nat → ClassId) (b : Nat) (M : zM) (T : zT) (n j : Nat) (lt_j : j < n) (cd_j : zcd wC j = 6) (cd_n : zcd wC n = 7) : Met l yX8_init (.code yX8_init cX8_init 1 none :: zt) (y_rm 1 1 24) (va_Pc [.ref (b + j)] (yP D dA vwCl (z_tys dA) wC n b M T)) (va_Qv (fun _ => True) (yB D dA vwCl wC (n + 1) b (zup M j 1 0) (tup T j 0 n)) (yA b)) 1 24 (yA b) := by
  refine Met.ofW (cc := cX8_init) (maxL := 1) (ret := none) (by decide) rfl ?_
  intro p e s m args below meth c s₁ B hml hv
  obtain ⟨hargs, hY, hK, hO⟩ := hv
  have hx := B.exec
  have hb := B.bytes
  have hr := B.returns
  have hts := atoms_spec (ws := .code yX8_init cX8_init 1 none :: zt) B.pre
  have hown : s.vm.findClass RX8 = some m.cls := findClass_of_methodNamed B.named
  have hlocks := B.notSynchronized
  have hin : meth.name = "<init>" := (name_of_methodNamed B.named B.method).1
  have hS0 : va_S (yA b) s.heap s.heap [] := va_S.rf
  have hl := lv_entry ([.ref (b + j)]) (n := 1) (Nat.le_of_ble_eq_true rfl)
  have hent : entryFrame m args 1 = F0 m 0 ((lg_sl ([.ref (b + j)]) ++ List.replicate (1 - (lg_sl ([.ref (b + j)])).length) Slot.unset).toArray) [] := by rw [hargs]; exact lg_entry_eq m ([.ref (b + j)]) 1
  rw [hent]
  generalize (lg_sl ([.ref (b + j)]) ++ List.replicate (1 - (lg_sl ([.ref (b + j)])).length) Slot.unset).toArray = ls at hl ⊢
  have hl : lv_has ls 1 [(0, .ref (b + j))] := hl
  refine lv_aload_n hx hb dX8_init_0 rfl (lv_at hl 0 rfl) ?_
  refine W.objInit hx hb hown (hts _ (z_mem k40)) (hts _ (z_mem k28)) (hts _ (z_mem k29)) rfl (by rw [hml]; exact hl.1) rfl dX8_init_1 (Nat.le_of_ble_eq_true rfl) (Nat.le_of_ble_eq_true rfl) ?_
  refine W.eq (g2 := F0 m 4 ls []) rfl ?_
  refine lv_aload_n hx hb dX8_init_4 rfl (lv_at hl 0 rfl) ?_
  refine z_bipush hx hb (by decide) dX8_init_5 ?_
  refine y_newa (atype := .int) hx hb (hts _ (z_mem k53)) (t0 := 0) (N := 24) (by decide) (by decide) (hK.1.2 0 _ rfl).2 rfl hY hS0 (zkd_of cd_n rfl) (zln_of cd_n rfl) (by decide) rfl (by decide) (by decide) (Nat.le_of_ble_eq_true rfl) (Nat.le_of_ble_eq_true rfl) dX8_init_7 (fun H hY hS0 => ?_)
  have hY : yS D dA vwCl wC (n + 1) b _ _ H := hY
  refine y_putrF (t := n) hx hb hts (z_memU u8) tyX8 tyX8_ok nmX8 hown hK.1 hY hS0 f8_0 (by omega) (zkd_of cd_j rfl) (hts _ (z_mem k41)) rfl hin rfl (tyX8_ok 0 (by decide)) (fun _ => rfl) (fun _ => rfl) dX8_init_9 (fun H locs hY hS0 => ?_)
  refine lv_aload_n hx hb dX8_init_12 rfl (lv_at hl 0 rfl) ?_
  refine z_iconst hx hb dX8_init_13 ?_
  refine y_puti (z := 0) hx hb hts (z_memU u8) tyX8 tyX8_ok nmX8 hown hK.1 hY hS0 f8_1 (by omega) (zkd_of cd_j rfl) (Or.inl (hts _ (z_mem k44))) rfl (by decide +kernel) (zbd_in cd_j rfl (by decide)) dX8_init_14 (fun H locs hY hS0 => ?_)
  exact y_ret hx hb hr hlocks hY hS0 dX8_init_17
