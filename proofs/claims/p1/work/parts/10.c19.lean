theorem dX3_spanNumber_0 : decode cX3_spanNumber 0 = .ok (.iconst 0, 1) := by decide +kernel
theorem dX3_spanNumber_1 : decode cX3_spanNumber 1 = .ok (.istore_n 2, 1) := by decide +kernel
theorem dX3_spanNumber_10 : decode cX3_spanNumber 10 = .ok (.aload_n 0, 1) := by decide +kernel
theorem dX3_spanNumber_11 : decode cX3_spanNumber 11 = .ok (.iload_n 3, 1) := by decide +kernel
theorem dX3_spanNumber_12 : decode cX3_spanNumber 12 = .ok (.invokevirtual 25, 3) := by decide +kernel
theorem dX3_spanNumber_15 : decode cX3_spanNumber 15 = .ok (.ifCond .eq 13, 3) := by decide +kernel
theorem dX3_spanNumber_18 : decode cX3_spanNumber 18 = .ok (.iload_n 2, 1) := by decide +kernel
theorem dX3_spanNumber_19 : decode cX3_spanNumber 19 = .ok (.iload_n 1, 1) := by decide +kernel
theorem dX3_spanNumber_2 : decode cX3_spanNumber 2 = .ok (.iconst 1, 1) := by decide +kernel
theorem dX3_spanNumber_20 : decode cX3_spanNumber 20 = .ok (.if_icmp .ne 5, 3) := by decide +kernel
theorem dX3_spanNumber_23 : decode cX3_spanNumber 23 = .ok (.iload_n 3, 1) := by decide +kernel
theorem dX3_spanNumber_24 : decode cX3_spanNumber 24 = .ok (.ireturn, 1) := by decide +kernel
theorem dX3_spanNumber_25 : decode cX3_spanNumber 25 = .ok (.iinc 2 1, 3) := by decide +kernel
theorem dX3_spanNumber_28 : decode cX3_spanNumber 28 = .ok (.iinc 3 1, 3) := by decide +kernel
theorem dX3_spanNumber_3 : decode cX3_spanNumber 3 = .ok (.istore_n 3, 1) := by decide +kernel
theorem dX3_spanNumber_31 : decode cX3_spanNumber 31 = .ok (.goto (-27), 3) := by decide +kernel
theorem dX3_spanNumber_34 : decode cX3_spanNumber 34 = .ok (.iconst (-1), 1) := by decide +kernel
theorem dX3_spanNumber_35 : decode cX3_spanNumber 35 = .ok (.ireturn, 1) := by decide +kernel
theorem dX3_spanNumber_4 : decode cX3_spanNumber 4 = .ok (.iload_n 3, 1) := by decide +kernel
theorem dX3_spanNumber_5 : decode cX3_spanNumber 5 = .ok (.bipush 24, 2) := by decide +kernel
theorem dX3_spanNumber_7 : decode cX3_spanNumber 7 = .ok (.if_icmp .gt 27, 3) := by decide +kernel
theorem dm_X3_spanFits : yX3_spanFits.cls = RX3 ∧ yX3_spanFits.cls ≠ "java/lang/invoke/MethodHandle" ∧ yX3_spanFits.cls ≠ "java/lang/invoke/VarHandle" ∧ (parseMethodDescriptor yX3_spanFits.desc).map (fun d => d.parameters.length) = some 1 := by decide +kernel
set_option maxHeartbeats 4000000 in
set_option maxRecDepth 100000 in
theorem n_spanNumber (l : Launch) (D : va_G) (dA : Nat → ClassId) (b : Nat) (M : zM) (i : Int) (r_i : R32 i) (g0 : M 82 1 = 0) : Met l yX3_spanNumber (.code yX3_spanNumber cX3_spanNumber 4 (some .int) :: zt) (z_rm 2) (va_Pc [.ref (b + 82), .int (iI i)] (zP D dA vwCl (z_tys dA) wC nC b M)) (va_Qi (zQi wC (zms wC [2367]) M (fun z M1 => (0 ≤ i ∧ i < 24 ∧ z = i + 1) ∨ ((i < 0 ∨ 24 ≤ i) ∧ z = -1))) (zB D dA vwCl wC nC b) (zA nC b)) 0 0 (zA nC b) := by
  refine Met.ofW (cc := cX3_spanNumber) (maxL := 4) (ret := (some .int)) (by decide) rfl ?_
  intro p e s m args below meth c s₁ B hml hv
  obtain ⟨hargs, hR0, hJ, hK⟩ := hv
  have hx := B.exec
  have hb := B.bytes
  have hr := B.returns
  have hts := atoms_spec (ws := .code yX3_spanNumber cX3_spanNumber 4 (some .int) :: zt) B.pre
  have hown : s.vm.findClass RX3 = some m.cls := findClass_of_methodNamed B.named
  have hlocks := B.notSynchronized
  have hS : zS D dA vwCl wC nC b (zms wC [2367]) M M s.heap := ⟨hR0, hJ, zF_rf _ _⟩
  have hS0 : va_S (zA nC b) s.heap s.heap [] := va_S.rf
  have hl := lv_entry ([.ref (b + 82), .int (iI i)]) (n := 4) (Nat.le_of_ble_eq_true rfl)
  have hent : entryFrame m args 4 = F0 m 0 ((lg_sl ([.ref (b + 82), .int (iI i)]) ++ List.replicate (4 - (lg_sl ([.ref (b + 82), .int (iI i)])).length) Slot.unset).toArray) [] := by rw [hargs]; exact lg_entry_eq m ([.ref (b + 82), .int (iI i)]) 4
  rw [hent]
  generalize (lg_sl ([.ref (b + 82), .int (iI i)]) ++ List.replicate (4 - (lg_sl ([.ref (b + 82), .int (iI i)])).length) Slot.unset).toArray = ls at hl ⊢
  have hl : lv_has ls 4 [(0, .ref (b + 82)), (1, .int (iI i))] := hl
  refine z_iconst hx hb dX3_spanNumber_0 ?_
  refine lv_istore_n (lv' := [(2, .int (iI 0)), (0, .ref (b + 82)), (1, .int (iI i))]) hx hb dX3_spanNumber_1 rfl hl (by decide) rfl (fun ls hl => ?_)
  refine z_iconst hx hb dX3_spanNumber_2 ?_
  refine lv_istore_n (lv' := [(3, .int (iI 1)), (2, .int (iI 0)), (0, .ref (b + 82)), (1, .int (iI i))]) hx hb dX3_spanNumber_3 rfl hl (by decide) rfl (fun ls hl => ?_)
  have L5 : ∀ (n3 : Nat) (f1 : Int) (pp2 : Int) (M6 : zM) (H : Heap) (locs : List Loc) (ls : Array Slot), (2147483648 - pp2).toNat ≤ n3 → R32 f1 → R32 pp2 → (1 ≤ pp2 ∧ pp2 ≤ 25) → (f1 = pp2 - 1) → (i < 0 ∨ pp2 - 1 ≤ i) → zS D dA vwCl wC nC b (zms wC [2367]) M M6 H → va_S (zA nC b) s.heap H locs → lv_has ls 4 [(0, .ref (b + 82)), (1, .int (iI i)), (2, .int (iI f1)), (3, .int (iI pp2))] → W p l e (headSpec (.code yX3_spanNumber cX3_spanNumber 4 (some .int) :: zt) (z_rm 2)).room s m args below meth c H locs 0 0 (MQ below (va_Qi (zQi wC (zms wC [2367]) M (fun z M1 => (0 ≤ i ∧ i < 24 ∧ z = i + 1) ∨ ((i < 0 ∨ 24 ≤ i) ∧ z = -1))) (zB D dA vwCl wC nC b) (zA nC b)) args s 0 0 (zA nC b)) (F0 m 4 ls []) := by
    intro n3
    induction n3 with
    | zero =>
      intro f1 pp2 M6 H locs ls hm r_f1 r_pp2 i7 i8 i9 hS hS0 hl
      exfalso
      omega
    | succ n3 ih4 =>
      intro f1 pp2 M6 H locs ls hm r_f1 r_pp2 i7 i8 i9 hS hS0 hl
      have J10 := hS.2.1
      have F11 := hS.2.2
      refine lv_iload_n hx hb dX3_spanNumber_4 rfl (lv_at hl 3 rfl) ?_
      refine z_bipush hx hb (by decide) dX3_spanNumber_5 ?_
      refine z_icmp_gt (tgt := 34) hx hb r_pp2 (by decide) dX3_spanNumber_7 (by decide) (fun c12 => ?_) (fun c12 => ?_)
      · skip
        refine z_iconst hx hb dX3_spanNumber_34 ?_
        exact z_iret hx hb hr hlocks hS hS0 (by decide) (by first | exact trivial | exact ⟨rfl, trivial⟩ | omega | (refine ⟨by omega, trivial⟩)) dX3_spanNumber_35
      · skip
        refine lv_aload_n hx hb dX3_spanNumber_10 rfl (lv_at hl 0 rfl) ?_
        refine lv_iload_n hx hb dX3_spanNumber_11 rfl (lv_at hl 3 rfl) ?_
        refine z_calli (va_runV (As := [.int (iI pp2)]) (rest := []) ⟨hx, hb, hml, hown, hts⟩ (n_spanFits l D dA b M6 pp2 r_pp2 (by rw [F11 _ _ (zms_not (rfl : zcd wC 82 = 34) rfl), g0])) (cwV 1 hts (z_gV k766 k767 k1385 k11 k768) rfl rfl rfl dm_X3_spanFits ⟨Nat.le_of_ble_eq_true rfl, Nat.le_of_ble_eq_true rfl⟩) ⟨zP_blind, (z_recv hS hK.1 (by decide) (zkd_of (rfl : zcd wC 82 = 34) rfl) (by decide) (rfl : vwCl[3]? = some (RX3, TX3, 4))), z_pre hS hK⟩ rfl rfl hl.1 rfl (lv_room (Nat.le_of_ble_eq_true rfl)) dX3_spanNumber_12 ⟨Nat.le_refl _, Nat.le_refl _⟩) hS hS0 (zms_sub rfl) (fun z17 M13 H locs r18 h14 F15 hS hS0 => ?_)
        have J16 := hS.2.1
        have h19 := h14
        obtain ⟨z17e, h19⟩ := h19
        subst z17e
        refine z_if_eq (tgt := 28) hx hb (by decide) dX3_spanNumber_15 (by decide) (fun c20 => absurd c20 (by decide)) (fun c20 => ?_)
        refine lv_iload_n hx hb dX3_spanNumber_18 rfl (lv_at hl 2 rfl) ?_
        refine lv_iload_n hx hb dX3_spanNumber_19 rfl (lv_at hl 1 rfl) ?_
        refine z_icmp_ne (tgt := 25) hx hb r_f1 r_i dX3_spanNumber_20 (by decide) (fun c21 => ?_) (fun c21 => ?_)
        · skip
          refine z_iinc (lv' := [(2, .int (iI (f1 + 1))), (0, .ref (b + 82)), (1, .int (iI i)), (3, .int (iI pp2))]) hx hb dX3_spanNumber_25 hl (k := 2) rfl (by decide) rfl (fun ls hl => ?_)
          refine z_iinc (lv' := [(3, .int (iI (pp2 + 1))), (2, .int (iI (f1 + 1))), (0, .ref (b + 82)), (1, .int (iI i))]) hx hb dX3_spanNumber_28 hl (k := 3) rfl (by decide) rfl (fun ls hl => ?_)
          refine lv_goto (tgt := 4) hx hb dX3_spanNumber_31 (by decide) ?_
          exact ih4 (f1 + 1) (pp2 + 1) M13 _ _ _ (by omega) ⟨by omega, by omega⟩ ⟨by omega, by omega⟩ (by omega) (by omega) (by omega) hS hS0 (lv_sub hl [2, 3, 1, 0] rfl)
        · skip
          refine lv_iload_n hx hb dX3_spanNumber_23 rfl (lv_at hl 3 rfl) ?_
          exact z_iret hx hb hr hlocks hS hS0 r_pp2 (by first | exact trivial | exact ⟨rfl, trivial⟩ | omega | (refine ⟨by omega, trivial⟩)) dX3_spanNumber_24
  exact L5 _ 0 1 M _ _ _ (Nat.le_refl _) (by decide) (by decide) (by omega) (by omega) (by omega) hS hS0 (lv_sub hl [2, 3, 1, 0] rfl)
