/-! the class's calls that throw, on a new object -/
theorem tw_in : ∀ w ∈ (vx_at0 "TapeRings" 158 "java/util/NoSuchElementException" ["java/lang/RuntimeException", "java/lang/Exception"]).filter goodWord, w ∈ zt := by
  have h : (vx_at0 "TapeRings" 158 "java/util/NoSuchElementException" ["java/lang/RuntimeException", "java/lang/Exception"]).filter goodWord = ([93, 1124, 1133, 1135, 1138, 1140, 1125, 1126, 103, 104, 1127, 1132, 1136, 1152, 1114, 1153, 1116, 1154, 1118, 1128, 1130, 1120, 1142, 1143, 1144, 1145, 1145, 1146, 1147, 1148, 1148, 1149, 1150, 1125, 1141, 1103, 1111, 1112, 1113, 1115, 1117, 1119, 1123, 1122, 1121].filterMap (fun i => lw_tbl[i]?)) := by decide +kernel
  intro w hw
  refine List.mem_filter.mpr ⟨?_, (List.mem_filter.mp hw).2⟩
  rw [h] at hw
  obtain ⟨i, -, hi⟩ := List.mem_filterMap.mp hw
  exact List.mem_of_getElem? hi
theorem tw_not : ∀ w ∈ (vx_at0 "TapeRings" 158 "java/util/NoSuchElementException" ["java/lang/RuntimeException", "java/lang/Exception"]).filter (fun w => !goodWord w), w ∈ ([Cond.castable "java/util/NoSuchElementException" "java/util/NoSuchElementException", Cond.declares ⟨"java/lang/RuntimeException", "<init>", "()V"⟩, Cond.declares ⟨"java/lang/Exception", "<init>", "()V"⟩, Cond.declares ⟨"java/lang/Throwable", "<init>", "()V"⟩] : List Cond) := fun w hw => List.elem_iff.mp (List.all_eq_true.mp (by decide +kernel : ((vx_at0 "TapeRings" 158 "java/util/NoSuchElementException" ["java/lang/RuntimeException", "java/lang/Exception"]).filter (fun w => !goodWord w)).all (fun w => ([Cond.castable "java/util/NoSuchElementException" "java/util/NoSuchElementException", Cond.declares ⟨"java/lang/RuntimeException", "<init>", "()V"⟩, Cond.declares ⟨"java/lang/Exception", "<init>", "()V"⟩, Cond.declares ⟨"java/lang/Throwable", "<init>", "()V"⟩] : List Cond).elem w) = true) w hw)
/-- the words of a throw that are no good ones: they go with the state -/
def zTw (U : State) : Prop := va_Nw (.castable "java/util/NoSuchElementException" "java/util/NoSuchElementException") U ∧ va_Nw (.declares ⟨"java/lang/RuntimeException", "<init>", "()V"⟩) U ∧ va_Nw (.declares ⟨"java/lang/Exception", "<init>", "()V"⟩) U ∧ va_Nw (.declares ⟨"java/lang/Throwable", "<init>", "()V"⟩) U
theorem zTw.warm {s U : State} (hW : s.WarmedH U.vm) (h : zTw s) : zTw U := ⟨va_Nw.warmC hW h.1, va_Nw.warmD hW h.2.1, va_Nw.warmD hW h.2.2.1, va_Nw.warmD hW h.2.2.2⟩
theorem zTw.same {u U : State} (e : u.vm = U.vm) (h : zTw u) : zTw U := ⟨va_Nw.same rfl e h.1, va_Nw.same rfl e h.2.1, va_Nw.same rfl e h.2.2.1, va_Nw.same rfl e h.2.2.2⟩
theorem tw_hat {args : Array Value} {s : State} (hts : ∀ w ∈ zt, w.before args s = true) (h : zTw s) : ∀ w ∈ vx_at0 "TapeRings" 158 "java/util/NoSuchElementException" ["java/lang/RuntimeException", "java/lang/Exception"], w.before args s = true :=
  vx_hat (fun w hw => hts w (tw_in w hw)) tw_not (vx_c (va_Nw.use rfl h.1) (vx_c (va_Nw.use rfl h.2.1) (vx_c (va_Nw.use rfl h.2.2.1) (vx_c (va_Nw.use rfl h.2.2.2) vx_n))))
theorem tw_good : ∀ w ∈ Cond.classLink "TapeRings" 156 "java/util/NoSuchElementException" :: Cond.initialized "java/util/NoSuchElementException" :: vx_at0 "TapeRings" 158 "java/util/NoSuchElementException" ["java/lang/RuntimeException", "java/lang/Exception"], vx_ot w = true := List.all_eq_true.mp (by decide +kernel)
/-- the two statics of Throwable, out of the cells of A -/
def zZ (A : Nat → Prop) (U : State) (H : Heap) : Prop := vx_Zq Bundle.tN "UNASSIGNED_STACK" Bundle.steD A U H ∧ vx_Zq Bundle.tN "SUPPRESSED_SENTINEL" Bundle.listD A U H
theorem zZ.moved {A : Nat → Prop} {u U : State} {H : Heap} (hvm : u.vm.Alike U.vm) (h : zZ A u H) : zZ A U H := ⟨h.1.moved hvm, h.2.moved hvm⟩
theorem zZ.kept {A : Nat → Prop} {U : State} {H H1 : Heap} (h : zZ A U H) (hq : ∀ a : Nat, a < H.size → ¬ A a → H1[a]? = H[a]?) : zZ A U H1 := ⟨h.1.kept hq, h.2.kept hq⟩
theorem zZ.narrow {A B : Nat → Prop} {U : State} {H : Heap} (h : zZ A U H) (hAB : ∀ q, B q → A q) : zZ B U H := ⟨h.1.narrow hAB, h.2.narrow hAB⟩
def z_rmT (d : Nat) : Room := { frames := d + 6, cells := 1, slots := 6, locals := 64 * (d + 6) }
def zPT (D : va_G) (dA : Nat → ClassId) (cl : List vw_C) (tys : List (ClassId × FieldType)) (w : zW) (N b : Nat) (M : zM) : State → Prop := fun U => zP D dA cl tys w N b M U ∧ zTw U ∧ zZ (zA N b) U U.heap
theorem zPT_blind {D : va_G} {dA : Nat → ClassId} {cl : List vw_C} {tys : List (ClassId × FieldType)} {w : zW} {N b : Nat} {M : zM} {As : List Value} : FrameBlind (va_Pc As (zPT D dA cl tys w N b M)) := fun a U g mk q => ⟨q.1, (zP_blind a U g mk ⟨q.1, q.2.1⟩).2, zTw.same (u := U) rfl q.2.2.1, zZ.moved (u := U) (U := U.calling g mk _) (Vm.Alike.refl U.vm) q.2.2.2⟩
def zXC (D : va_G) (dA : Nat → ClassId) (cl : List vw_C) (w : zW) (N b : Nat) (M : zM) (P : Prop) : String → State → State → Prop := vx_X (fun _ : Unit => P) (fun E _ t => E = "java/util/NoSuchElementException" ∧ zR D dA cl w N b M t.heap) (zA N b)
theorem zX_of {D : va_G} {dA : Nat → ClassId} {cl : List vw_C} {w : zW} {N b : Nat} {ms : Nat → Nat → Bool} {M0 M : zM} {P : Prop} {s t : State} {H : Heap} {locs : List Loc} (hS : zS D dA cl w N b ms M0 M H) (hS0 : va_S (zA N b) s.heap H locs) (h1 : H.size ≤ t.heap.size) (h2 : ∀ q : Nat, q < H.size → t.heap[q]? = H[q]?) (hP : P) : zXC D dA cl w N b M P "java/util/NoSuchElementException" s t :=
  ⟨(), hP, ⟨rfl, zR_kept hS.1 (fun q a _ _ => h2 q a)⟩, Nat.le_trans hS0.1 h1, fun q a b => (h2 q (Nat.lt_of_lt_of_le a hS0.1)).trans (hS0.2.1 q a b)⟩
theorem dX11_of_0 : decode cX11_of 0 = .ok (.aload_n 0, 1) := by decide +kernel
theorem dX11_of_1 : decode cX11_of 1 = .ok (.getfield 26, 3) := by decide +kernel
theorem dX11_of_10 : decode cX11_of 10 = .ok (.ifnonnull 11, 3) := by decide +kernel
theorem dX11_of_13 : decode cX11_of 13 = .ok (.new 156, 3) := by decide +kernel
theorem dX11_of_16 : decode cX11_of 16 = .ok (.dup, 1) := by decide +kernel
theorem dX11_of_17 : decode cX11_of 17 = .ok (.invokespecial 158, 3) := by decide +kernel
theorem dX11_of_20 : decode cX11_of 20 = .ok (.athrow, 1) := by decide +kernel
theorem dX11_of_4 : decode cX11_of 4 = .ok (.iload_n 1, 1) := by decide +kernel
theorem dX11_of_5 : decode cX11_of 5 = .ok (.invokevirtual 104, 3) := by decide +kernel
theorem dX11_of_8 : decode cX11_of 8 = .ok (.astore_n 3, 1) := by decide +kernel
theorem dX11_of_9 : decode cX11_of 9 = .ok (.aload_n 3, 1) := by decide +kernel
theorem dX11_row_0 : decode cX11_row 0 = .ok (.iload_n 1, 1) := by decide +kernel
theorem dX11_row_1 : decode cX11_row 1 = .ok (.ifCond .lt 20, 3) := by decide +kernel
theorem dX11_row_21 : decode cX11_row 21 = .ok (.new 156, 3) := by decide +kernel
theorem dX11_row_24 : decode cX11_row 24 = .ok (.dup, 1) := by decide +kernel
theorem dX11_row_25 : decode cX11_row 25 = .ok (.invokespecial 158, 3) := by decide +kernel
theorem dX11_row_28 : decode cX11_row 28 = .ok (.athrow, 1) := by decide +kernel
theorem dX11_row_4 : decode cX11_row 4 = .ok (.iload_n 1, 1) := by decide +kernel
theorem dX11_row_5 : decode cX11_row 5 = .ok (.aload_n 0, 1) := by decide +kernel
theorem dX11_row_6 : decode cX11_row 6 = .ok (.getfield 76, 3) := by decide +kernel
theorem dX11_row_9 : decode cX11_row 9 = .ok (.if_icmp .ge 12, 3) := by decide +kernel
theorem dX11_way_0 : decode cX11_way 0 = .ok (.iload_n 1, 1) := by decide +kernel
theorem dX11_way_1 : decode cX11_way 1 = .ok (.invokestatic 95, 3) := by decide +kernel
theorem dX11_way_11 : decode cX11_way 11 = .ok (.invokestatic 113, 3) := by decide +kernel
theorem dX11_way_14 : decode cX11_way 14 = .ok (.ifCond .ne 11, 3) := by decide +kernel
theorem dX11_way_17 : decode cX11_way 17 = .ok (.new 156, 3) := by decide +kernel
theorem dX11_way_20 : decode cX11_way 20 = .ok (.dup, 1) := by decide +kernel
theorem dX11_way_21 : decode cX11_way 21 = .ok (.invokespecial 158, 3) := by decide +kernel
theorem dX11_way_24 : decode cX11_way 24 = .ok (.athrow, 1) := by decide +kernel
theorem dX11_way_25 : decode cX11_way 25 = .ok (.aload_n 0, 1) := by decide +kernel
theorem dX11_way_26 : decode cX11_way 26 = .ok (.getfield 26, 3) := by decide +kernel
theorem dX11_way_29 : decode cX11_way 29 = .ok (.iload_n 1, 1) := by decide +kernel
theorem dX11_way_30 : decode cX11_way 30 = .ok (.invokevirtual 134, 3) := by decide +kernel
theorem dX11_way_33 : decode cX11_way 33 = .ok (.iload_n 2, 1) := by decide +kernel
theorem dX11_way_34 : decode cX11_way 34 = .ok (.i2l, 1) := by decide +kernel
theorem dX11_way_35 : decode cX11_way 35 = .ok (.invokevirtual 170, 3) := by decide +kernel
theorem dX11_way_38 : decode cX11_way 38 = .ok (.lreturn, 1) := by decide +kernel
theorem dX11_way_4 : decode cX11_way 4 = .ok (.ifCond .eq 13, 3) := by decide +kernel
theorem dX11_way_7 : decode cX11_way 7 = .ok (.iload_n 2, 1) := by decide +kernel
theorem dX11_way_8 : decode cX11_way 8 = .ok (.iconst 0, 1) := by decide +kernel
theorem dX11_way_9 : decode cX11_way 9 = .ok (.ldc 169, 2) := by decide +kernel
theorem dm_X2_wayTo : yX2_wayTo.cls = RX2 ∧ yX2_wayTo.cls ≠ "java/lang/invoke/MethodHandle" ∧ yX2_wayTo.cls ≠ "java/lang/invoke/VarHandle" ∧ (parseMethodDescriptor yX2_wayTo.desc).map (fun d => d.parameters.length) = some 1 := by decide +kernel
set_option maxHeartbeats 4000000 in
set_option maxRecDepth 100000 in
theorem x_of (l : Launch) (hst : l.stackTraces = false) (D : va_G) (dA : Nat → ClassId) (b : Nat) (M : zM) (rg : Int) (wh : Int) (r_rg : R32 rg) (r_wh : R32 wh) (g0 : M 32 2 = 0) : vx_Met l yX11_of (.code yX11_of cX11_of 4 (some .int) :: zt) (z_rmT 1) (va_Pc [.ref (b + 0), .int (iI rg), .int (iI wh)] (zPT D dA vwCl (z_tys dA) wC nC b M)) (va_Qi (zQi wC (zms wC []) M (fun z M1 => False)) (zB D dA vwCl wC nC b) (zA nC b)) (zXC D dA vwCl wC nC b M (True)) 1 6 (zA nC b) := by
  refine vx_ofW (cc := cX11_of) (maxL := 4) (ret := (some .int)) (by decide) rfl ?_
  intro p e s m args below meth c s₁ B hml hex hv
  obtain ⟨hargs, ⟨hR0, hJ, hK⟩, hZ⟩ := hv
  have hx := B.exec
  have hb := B.bytes
  have hr := B.returns
  have hts := atoms_spec (ws := .code yX11_of cX11_of 4 (some .int) :: zt) B.pre
  have hown : s.vm.findClass RX11 = some m.cls := findClass_of_methodNamed B.named
  have hlocks := B.notSynchronized
  have hS : zS D dA vwCl wC nC b (zms wC []) M M s.heap := ⟨hR0, hJ, zF_rf _ _⟩
  have hS0 : va_S (zA nC b) s.heap s.heap [] := va_S.rf
  have hl := lv_entry ([.ref (b + 0), .int (iI rg), .int (iI wh)]) (n := 4) (Nat.le_of_ble_eq_true rfl)
  have hent : entryFrame m args 4 = F0 m 0 ((lg_sl ([.ref (b + 0), .int (iI rg), .int (iI wh)]) ++ List.replicate (4 - (lg_sl ([.ref (b + 0), .int (iI rg), .int (iI wh)])).length) Slot.unset).toArray) [] := by rw [hargs]; exact lg_entry_eq m ([.ref (b + 0), .int (iI rg), .int (iI wh)]) 4
  rw [hent]
  generalize (lg_sl ([.ref (b + 0), .int (iI rg), .int (iI wh)]) ++ List.replicate (4 - (lg_sl ([.ref (b + 0), .int (iI rg), .int (iI wh)])).length) Slot.unset).toArray = ls at hl ⊢
  have hl : lv_has ls 4 [(0, .ref (b + 0)), (1, .int (iI rg)), (2, .int (iI wh))] := hl
  refine lv_aload_n hx hb dX11_of_0 rfl (lv_at hl 0 rfl) ?_
  refine z_getr (j2 := 32) hx hb hts (z_memU u11) hown hK.1 hS f11_2 (by decide) (zkd_of (rfl : zcd wC 0 = 0) rfl) (zrf_of (rfl : zcd wC 0 = 0) rfl) (Or.inl (hts _ (z_mem k244))) dX11_of_1 ?_
  refine lv_iload_n hx hb dX11_of_4 rfl (lv_at hl 1 rfl) ?_
  refine z_callq (va_runV (As := [.int (iI rg)]) (rest := []) ⟨hx, hb, hml, hown, hts⟩ (n_find l D dA b M rg r_rg (by rw [g0])) (cwV 1 hts (z_gV k411 k412 k413 k4 k414) rfl rfl rfl dm_X9_find ⟨Nat.le_of_ble_eq_true rfl, Nat.le_of_ble_eq_true rfl⟩) ⟨zP_blind, (z_recv hS hK.1 (by decide) (zkd_of (rfl : zcd wC 32 = 8) rfl) (by decide) (rfl : vwCl[9]? = some (RX9, TX9, 3))), z_pre hS hK⟩ rfl rfl hl.1 rfl (lv_room (Nat.le_of_ble_eq_true rfl)) dX11_of_5 ⟨Nat.le_of_ble_eq_true rfl, Nat.le_of_ble_eq_true rfl⟩) hS hS0 (zms_sub rfl) (fun z5 M1 H locs h2 F3 hS hS0 => ?_)
  obtain ⟨h6, h2⟩ := h2
  rw [h6] at hS
  have h7 := h2
  obtain ⟨z5e, h7⟩ := h7
  subst z5e
  show W _ _ _ _ _ _ _ _ _ _ _ _ _ _ _ (F0 m _ ls (.null :: []))
  refine lv_astore_nN (lv' := [(3, .null), (0, .ref (b + 0)), (1, .int (iI rg)), (2, .int (iI wh))]) hx hb dX11_of_8 rfl hl (by decide) rfl (fun ls hl => ?_)
  refine lv_aload_nN hx hb dX11_of_9 rfl (lv_at hl 0 rfl) ?_
  refine lv_ifnonnullN hx hb dX11_of_10 ?_
  exact vx_throw0 (own := "TapeRings") (cls := "java/util/NoSuchElementException") (names := ["java/lang/RuntimeException", "java/lang/Exception"]) (ik := 156) (ic := 158) hx hb hst hown (by decide +kernel) (by decide +kernel) (hts _ (z_mem k883)) (hts _ (z_mem k21)) (tw_hat (fun w hw => hts w (z_mem hw)) hZ.1) tw_good hZ.2.1 hZ.2.2 hS0 (hl.1.trans hml.symm) dX11_of_13 dX11_of_16 dX11_of_17 dX11_of_20 (fun x hx9 => (hex x hx9).elim) (Nat.le_of_ble_eq_true rfl) (Nat.le_of_ble_eq_true rfl) (Nat.le_of_ble_eq_true rfl) (Nat.le_of_ble_eq_true rfl) hlocks (fun t _ h1 h2 => zX_of hS hS0 h1 h2 (by first | trivial | omega)) hS0.2.2 (Nat.le_of_ble_eq_true rfl) (Nat.le_of_ble_eq_true rfl)

set_option maxHeartbeats 4000000 in
set_option maxRecDepth 100000 in
theorem x_way (l : Launch) (hst : l.stackTraces = false) (D : va_G) (dA : Nat → ClassId) (b : Nat) (M : zM) (mt : Int) (tk : Int) (r_mt : R32 mt) (r_tk : R32 tk) (g0 : M 35 2 = 0) (g1 : M 38 2 = 0) : vx_Met l yX11_way (.code yX11_way cX11_way 3 (some .long) :: zt) (z_rmT 2) (va_Pc [.ref (b + 0), .int (iI mt), .int (iI tk)] (zPT D dA vwCl (z_tys dA) wC nC b M)) (va_Ql (zQl wC (zms wC []) M (fun z M1 => M1 = M ∧ (0 ≤ mt ∧ mt ≤ 1 ∧ 0 ≤ tk ∧ tk ≤ 1000000000 ∧ z = tk))) (zB D dA vwCl wC nC b) (zA nC b)) (zXC D dA vwCl wC nC b M (¬ (0 ≤ mt ∧ mt ≤ 1 ∧ 0 ≤ tk ∧ tk ≤ 1000000000))) 1 6 (zA nC b) := by
  refine vx_ofW (cc := cX11_way) (maxL := 3) (ret := (some .long)) (by decide) rfl ?_
  intro p e s m args below meth c s₁ B hml hex hv
  obtain ⟨hargs, ⟨hR0, hJ, hK⟩, hZ⟩ := hv
  have hx := B.exec
  have hb := B.bytes
  have hr := B.returns
  have hts := atoms_spec (ws := .code yX11_way cX11_way 3 (some .long) :: zt) B.pre
  have hown : s.vm.findClass RX11 = some m.cls := findClass_of_methodNamed B.named
  have hlocks := B.notSynchronized
  have hS : zS D dA vwCl wC nC b (zms wC []) M M s.heap := ⟨hR0, hJ, zF_rf _ _⟩
  have hS0 : va_S (zA nC b) s.heap s.heap [] := va_S.rf
  have hl := lv_entry ([.ref (b + 0), .int (iI mt), .int (iI tk)]) (n := 3) (Nat.le_of_ble_eq_true rfl)
  have hent : entryFrame m args 3 = F0 m 0 ((lg_sl ([.ref (b + 0), .int (iI mt), .int (iI tk)]) ++ List.replicate (3 - (lg_sl ([.ref (b + 0), .int (iI mt), .int (iI tk)])).length) Slot.unset).toArray) [] := by rw [hargs]; exact lg_entry_eq m ([.ref (b + 0), .int (iI mt), .int (iI tk)]) 3
  rw [hent]
  generalize (lg_sl ([.ref (b + 0), .int (iI mt), .int (iI tk)]) ++ List.replicate (3 - (lg_sl ([.ref (b + 0), .int (iI mt), .int (iI tk)])).length) Slot.unset).toArray = ls at hl ⊢
  have hl : lv_has ls 3 [(0, .ref (b + 0)), (1, .int (iI mt)), (2, .int (iI tk))] := hl
  refine lv_iload_n hx hb dX11_way_0 rfl (lv_at hl 1 rfl) ?_
  refine z_calli (va_runS (As := [.int (iI mt)]) (rest := []) ⟨hx, hb, hml, hown, hts⟩ (c_isMotor l D dA b M mt r_mt) (va_cwS 1 hts (z_gS k379 k380 k1 k381) rfl rfl rfl dm_X11_isMotor.2 ⟨Nat.le_of_ble_eq_true rfl, Nat.le_of_ble_eq_true rfl⟩) ⟨zP_blind, z_pre hS hK⟩ rfl rfl hl.1 rfl (lv_room (Nat.le_of_ble_eq_true rfl)) dX11_way_1 ⟨Nat.le_of_ble_eq_true rfl, Nat.le_of_ble_eq_true rfl⟩) hS hS0 (zms_sub rfl) (fun z5 M1 H locs r6 h2 F3 hS hS0 => ?_)
  obtain ⟨h7, h2⟩ := h2
  rw [h7] at hS
  rcases h2 with h8 | h9
  · skip
    obtain ⟨z5e, h8⟩ := h8
    subst z5e
    refine z_if_eq (tgt := 17) hx hb (by decide) dX11_way_4 (by decide) (fun c10 => absurd c10 (by decide)) (fun c10 => ?_)
    refine lv_iload_n hx hb dX11_way_7 rfl (lv_at hl 2 rfl) ?_
    refine z_iconst hx hb dX11_way_8 ?_
    refine z_ldc (n := 1000000000) hx hb hown (hts _ (z_mem k930)) (by decide) dX11_way_9 ?_
    refine z_calli (va_runS (As := [.int (iI tk), .int (iI 0), .int (iI 1000000000)]) (rest := []) ⟨hx, hb, hml, hown, hts⟩ (c_within l D dA b M tk 0 1000000000 r_tk (by decide) (by decide)) (va_cwS 3 hts (z_gS k382 k383 k1 k384) rfl rfl rfl dm_X11_within.2 ⟨Nat.le_of_ble_eq_true rfl, Nat.le_of_ble_eq_true rfl⟩) ⟨zP_blind, z_pre hS hK⟩ rfl rfl hl.1 rfl (lv_room (Nat.le_of_ble_eq_true rfl)) dX11_way_11 ⟨Nat.le_of_ble_eq_true rfl, Nat.le_of_ble_eq_true rfl⟩) hS hS0 (zms_sub rfl) (fun z15 M11 H locs r16 h12 F13 hS hS0 => ?_)
    obtain ⟨h17, h12⟩ := h12
    rw [h17] at hS
    rcases h12 with h18 | h19
    · skip
      obtain ⟨z15e, h18⟩ := h18
      subst z15e
      refine z_if_ne (tgt := 25) hx hb (by decide) dX11_way_14 (by decide) (fun c20 => ?_) (fun c20 => absurd c20 (by decide))
      refine lv_aload_n hx hb dX11_way_25 rfl (lv_at hl 0 rfl) ?_
      refine z_getr (j2 := 32) hx hb hts (z_memU u11) hown hK.1 hS f11_2 (by decide) (zkd_of (rfl : zcd wC 0 = 0) rfl) (zrf_of (rfl : zcd wC 0 = 0) rfl) (Or.inl (hts _ (z_mem k244))) dX11_way_26 ?_
      refine lv_iload_n hx hb dX11_way_29 rfl (lv_at hl 1 rfl) ?_
      refine z_callq (va_runV (As := [.int (iI mt)]) (rest := []) ⟨hx, hb, hml, hown, hts⟩ (n_motorOf l D dA b M mt r_mt) (cwV 1 hts (z_gV k442 k443 k444 k4 k445) rfl rfl rfl dm_X9_motorOf ⟨Nat.le_of_ble_eq_true rfl, Nat.le_of_ble_eq_true rfl⟩) ⟨zP_blind, (z_recv hS hK.1 (by decide) (zkd_of (rfl : zcd wC 32 = 8) rfl) (by decide) (rfl : vwCl[9]? = some (RX9, TX9, 3))), z_pre hS hK⟩ rfl rfl hl.1 rfl (lv_room (Nat.le_of_ble_eq_true rfl)) dX11_way_30 ⟨Nat.le_of_ble_eq_true rfl, Nat.le_of_ble_eq_true rfl⟩) hS hS0 (zms_sub rfl) (fun z25 M21 H locs h22 F23 hS hS0 => ?_)
      obtain ⟨h26, h22⟩ := h22
      rw [h26] at hS
      rcases h22 with h27 | h28
      · skip
        obtain ⟨z25e, h27⟩ := h27
        subst z25e
        show W _ _ _ _ _ _ _ _ _ _ _ _ _ _ _ (F0 m _ ls (.ref (b + 35) :: []))
        refine lv_iload_n hx hb dX11_way_33 rfl (lv_at hl 2 rfl) ?_
        refine z_i2l hx hb r_tk dX11_way_34 ?_
        refine z_calll (va_runV (As := [.long (iL tk)]) (rest := []) ⟨hx, hb, hml, hown, hts⟩ (n_wayTo35 l D dA b M tk (r64of r_tk) (by rw [g0])) (cwV 1 hts (z_gV k931 k495 k496 k5 k497) rfl rfl rfl dm_X2_wayTo ⟨Nat.le_of_ble_eq_true rfl, Nat.le_of_ble_eq_true rfl⟩) ⟨zP_blind, (z_recv hS hK.1 (by decide) (zkd_of (rfl : zcd wC 35 = 11) rfl) (by decide) (rfl : vwCl[2]? = some (RX2, TX2, 3))), z_pre hS hK⟩ rfl rfl hl.1 rfl (lv_room (Nat.le_of_ble_eq_true rfl)) dX11_way_35 ⟨Nat.le_of_ble_eq_true rfl, Nat.le_of_ble_eq_true rfl⟩) hS hS0 (zms_sub rfl) (fun z33 M29 H locs r34 h30 F31 hS hS0 => ?_)
        obtain ⟨h35, h30⟩ := h30
        rw [h35] at hS
        have h36 := h30
        obtain ⟨z33e, h36⟩ := h36
        subst z33e
        refine vx_ret (W.widen (k := 1) (n := 6) (Nat.zero_le _) (Nat.zero_le _) ?_)
        exact z_lret hx hb hr hlocks hS hS0 (r64of r_tk) (⟨rfl, by first | exact trivial | exact ⟨rfl, trivial⟩ | omega | (refine ⟨by omega, trivial⟩)⟩) dX11_way_38
      · skip
        obtain ⟨z25e, h28⟩ := h28
        subst z25e
        show W _ _ _ _ _ _ _ _ _ _ _ _ _ _ _ (F0 m _ ls (.ref (b + 38) :: []))
        refine lv_iload_n hx hb dX11_way_33 rfl (lv_at hl 2 rfl) ?_
        refine z_i2l hx hb r_tk dX11_way_34 ?_
        refine z_calll (va_runV (As := [.long (iL tk)]) (rest := []) ⟨hx, hb, hml, hown, hts⟩ (n_wayTo38 l D dA b M tk (r64of r_tk) (by rw [g1])) (cwV 1 hts (z_gV k931 k495 k496 k5 k497) rfl rfl rfl dm_X2_wayTo ⟨Nat.le_of_ble_eq_true rfl, Nat.le_of_ble_eq_true rfl⟩) ⟨zP_blind, (z_recv hS hK.1 (by decide) (zkd_of (rfl : zcd wC 38 = 11) rfl) (by decide) (rfl : vwCl[2]? = some (RX2, TX2, 3))), z_pre hS hK⟩ rfl rfl hl.1 rfl (lv_room (Nat.le_of_ble_eq_true rfl)) dX11_way_35 ⟨Nat.le_of_ble_eq_true rfl, Nat.le_of_ble_eq_true rfl⟩) hS hS0 (zms_sub rfl) (fun z41 M37 H locs r42 h38 F39 hS hS0 => ?_)
        obtain ⟨h43, h38⟩ := h38
        rw [h43] at hS
        have h44 := h38
        obtain ⟨z41e, h44⟩ := h44
        subst z41e
        refine vx_ret (W.widen (k := 1) (n := 6) (Nat.zero_le _) (Nat.zero_le _) ?_)
        exact z_lret hx hb hr hlocks hS hS0 (r64of r_tk) (⟨rfl, by first | exact trivial | exact ⟨rfl, trivial⟩ | omega | (refine ⟨by omega, trivial⟩)⟩) dX11_way_38
    · skip
      obtain ⟨z15e, h19⟩ := h19
      subst z15e
      refine z_if_ne (tgt := 25) hx hb (by decide) dX11_way_14 (by decide) (fun c45 => absurd c45 (by decide)) (fun c45 => ?_)
      exact vx_throw0 (own := "TapeRings") (cls := "java/util/NoSuchElementException") (names := ["java/lang/RuntimeException", "java/lang/Exception"]) (ik := 156) (ic := 158) hx hb hst hown (by decide +kernel) (by decide +kernel) (hts _ (z_mem k883)) (hts _ (z_mem k21)) (tw_hat (fun w hw => hts w (z_mem hw)) hZ.1) tw_good hZ.2.1 hZ.2.2 hS0 (hl.1.trans hml.symm) dX11_way_17 dX11_way_20 dX11_way_21 dX11_way_24 (fun x hx9 => (hex x hx9).elim) (Nat.le_of_ble_eq_true rfl) (Nat.le_of_ble_eq_true rfl) (Nat.le_of_ble_eq_true rfl) (Nat.le_of_ble_eq_true rfl) hlocks (fun t _ h1 h2 => zX_of hS hS0 h1 h2 (by first | trivial | omega)) hS0.2.2 (Nat.le_of_ble_eq_true rfl) (Nat.le_of_ble_eq_true rfl)
  · skip
    obtain ⟨z5e, h9⟩ := h9
    subst z5e
    refine z_if_eq (tgt := 17) hx hb (by decide) dX11_way_4 (by decide) (fun c46 => ?_) (fun c46 => absurd c46 (by decide))
    exact vx_throw0 (own := "TapeRings") (cls := "java/util/NoSuchElementException") (names := ["java/lang/RuntimeException", "java/lang/Exception"]) (ik := 156) (ic := 158) hx hb hst hown (by decide +kernel) (by decide +kernel) (hts _ (z_mem k883)) (hts _ (z_mem k21)) (tw_hat (fun w hw => hts w (z_mem hw)) hZ.1) tw_good hZ.2.1 hZ.2.2 hS0 (hl.1.trans hml.symm) dX11_way_17 dX11_way_20 dX11_way_21 dX11_way_24 (fun x hx9 => (hex x hx9).elim) (Nat.le_of_ble_eq_true rfl) (Nat.le_of_ble_eq_true rfl) (Nat.le_of_ble_eq_true rfl) (Nat.le_of_ble_eq_true rfl) hlocks (fun t _ h1 h2 => zX_of hS hS0 h1 h2 (by first | trivial | omega)) hS0.2.2 (Nat.le_of_ble_eq_true rfl) (Nat.le_of_ble_eq_true rfl)

set_option maxHeartbeats 4000000 in
set_option maxRecDepth 100000 in
theorem x_row (l : Launch) (hst : l.stackTraces = false) (D : va_G) (dA : Nat → ClassId) (b : Nat) (M : zM) (i : Int) (r_i : R32 i) (g0 : M 0 10 = 0) : vx_Met l yX11_row (.code yX11_row cX11_row 2 (some .int) :: zt) (z_rmT 0) (va_Pc [.ref (b + 0), .int (iI i)] (zPT D dA vwCl (z_tys dA) wC nC b M)) (va_Qi (zQi wC (zms wC []) M (fun z M1 => False)) (zB D dA vwCl wC nC b) (zA nC b)) (zXC D dA vwCl wC nC b M (True)) 1 6 (zA nC b) := by
  refine vx_ofW (cc := cX11_row) (maxL := 2) (ret := (some .int)) (by decide) rfl ?_
  intro p e s m args below meth c s₁ B hml hex hv
  obtain ⟨hargs, ⟨hR0, hJ, hK⟩, hZ⟩ := hv
  have hx := B.exec
  have hb := B.bytes
  have hr := B.returns
  have hts := atoms_spec (ws := .code yX11_row cX11_row 2 (some .int) :: zt) B.pre
  have hown : s.vm.findClass RX11 = some m.cls := findClass_of_methodNamed B.named
  have hlocks := B.notSynchronized
  have hS : zS D dA vwCl wC nC b (zms wC []) M M s.heap := ⟨hR0, hJ, zF_rf _ _⟩
  have hS0 : va_S (zA nC b) s.heap s.heap [] := va_S.rf
  have hl := lv_entry ([.ref (b + 0), .int (iI i)]) (n := 2) (Nat.le_of_ble_eq_true rfl)
  have hent : entryFrame m args 2 = F0 m 0 ((lg_sl ([.ref (b + 0), .int (iI i)]) ++ List.replicate (2 - (lg_sl ([.ref (b + 0), .int (iI i)])).length) Slot.unset).toArray) [] := by rw [hargs]; exact lg_entry_eq m ([.ref (b + 0), .int (iI i)]) 2
  rw [hent]
  generalize (lg_sl ([.ref (b + 0), .int (iI i)]) ++ List.replicate (2 - (lg_sl ([.ref (b + 0), .int (iI i)])).length) Slot.unset).toArray = ls at hl ⊢
  have hl : lv_has ls 2 [(0, .ref (b + 0)), (1, .int (iI i))] := hl
  refine lv_iload_n hx hb dX11_row_0 rfl (lv_at hl 1 rfl) ?_
  refine z_if_lt (tgt := 21) hx hb r_i dX11_row_1 (by decide) (fun c1 => ?_) (fun c1 => ?_)
  · skip
    exact vx_throw0 (own := "TapeRings") (cls := "java/util/NoSuchElementException") (names := ["java/lang/RuntimeException", "java/lang/Exception"]) (ik := 156) (ic := 158) hx hb hst hown (by decide +kernel) (by decide +kernel) (hts _ (z_mem k883)) (hts _ (z_mem k21)) (tw_hat (fun w hw => hts w (z_mem hw)) hZ.1) tw_good hZ.2.1 hZ.2.2 hS0 (hl.1.trans hml.symm) dX11_row_21 dX11_row_24 dX11_row_25 dX11_row_28 (fun x hx9 => (hex x hx9).elim) (Nat.le_of_ble_eq_true rfl) (Nat.le_of_ble_eq_true rfl) (Nat.le_of_ble_eq_true rfl) (Nat.le_of_ble_eq_true rfl) hlocks (fun t _ h1 h2 => zX_of hS hS0 h1 h2 (by first | trivial | omega)) hS0.2.2 (Nat.le_of_ble_eq_true rfl) (Nat.le_of_ble_eq_true rfl)
  · skip
    refine lv_iload_n hx hb dX11_row_4 rfl (lv_at hl 1 rfl) ?_
    refine lv_aload_n hx hb dX11_row_5 rfl (lv_at hl 0 rfl) ?_
    refine z_geti hx hb hts (z_memU u11) hown hK.1 hS f11_10 (by decide) (zkd_of (rfl : zcd wC 0 = 0) rfl) (Or.inl (hts _ (z_mem k252))) dX11_row_6 ?_
    refine z_top (show M 0 10 = 0 from by rw [g0]) ?_
    refine z_icmp_ge (tgt := 21) hx hb r_i (by decide) dX11_row_9 (by decide) (fun c2 => ?_) (fun c2 => absurd c2 (by omega))
    exact vx_throw0 (own := "TapeRings") (cls := "java/util/NoSuchElementException") (names := ["java/lang/RuntimeException", "java/lang/Exception"]) (ik := 156) (ic := 158) hx hb hst hown (by decide +kernel) (by decide +kernel) (hts _ (z_mem k883)) (hts _ (z_mem k21)) (tw_hat (fun w hw => hts w (z_mem hw)) hZ.1) tw_good hZ.2.1 hZ.2.2 hS0 (hl.1.trans hml.symm) dX11_row_21 dX11_row_24 dX11_row_25 dX11_row_28 (fun x hx9 => (hex x hx9).elim) (Nat.le_of_ble_eq_true rfl) (Nat.le_of_ble_eq_true rfl) (Nat.le_of_ble_eq_true rfl) (Nat.le_of_ble_eq_true rfl) hlocks (fun t _ h1 h2 => zX_of hS hS0 h1 h2 (by first | trivial | omega)) hS0.2.2 (Nat.le_of_ble_eq_true rfl) (Nat.le_of_ble_eq_true rfl)
