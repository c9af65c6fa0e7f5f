theorem dX0_run_0 : decode cX0_run 0 = .ok (.iconst 0, 1) := by decide +kernel
theorem dX0_run_1 : decode cX0_run 1 = .ok (.istore_n 3, 1) := by decide +kernel
theorem dX0_run_12 : decode cX0_run 12 = .ok (.arraylength, 1) := by decide +kernel
theorem dX0_run_13 : decode cX0_run 13 = .ok (.if_icmp .ge 81, 3) := by decide +kernel
theorem dX0_run_16 : decode cX0_run 16 = .ok (.iload_n 3, 1) := by decide +kernel
theorem dX0_run_17 : decode cX0_run 17 = .ok (.aload_n 0, 1) := by decide +kernel
theorem dX0_run_18 : decode cX0_run 18 = .ok (.getfield 9, 3) := by decide +kernel
theorem dX0_run_2 : decode cX0_run 2 = .ok (.iload_n 3, 1) := by decide +kernel
theorem dX0_run_21 : decode cX0_run 21 = .ok (.if_icmp .ge 16, 3) := by decide +kernel
theorem dX0_run_3 : decode cX0_run 3 = .ok (.iload_n 2, 1) := by decide +kernel
theorem dX0_run_37 : decode cX0_run 37 = .ok (.iconst 0, 1) := by decide +kernel
theorem dX0_run_38 : decode cX0_run 38 = .ok (.istore 4, 2) := by decide +kernel
theorem dX0_run_4 : decode cX0_run 4 = .ok (.if_icmp .gt 90, 3) := by decide +kernel
theorem dX0_run_40 : decode cX0_run 40 = .ok (.iload 4, 2) := by decide +kernel
theorem dX0_run_42 : decode cX0_run 42 = .ok (.aload_n 0, 1) := by decide +kernel
theorem dX0_run_43 : decode cX0_run 43 = .ok (.iload_n 3, 1) := by decide +kernel
theorem dX0_run_44 : decode cX0_run 44 = .ok (.aload_n 0, 1) := by decide +kernel
theorem dX0_run_45 : decode cX0_run 45 = .ok (.getfield 22, 3) := by decide +kernel
theorem dX0_run_48 : decode cX0_run 48 = .ok (.isub, 1) := by decide +kernel
theorem dX0_run_49 : decode cX0_run 49 = .ok (.aload_n 0, 1) := by decide +kernel
theorem dX0_run_50 : decode cX0_run 50 = .ok (.getfield 25, 3) := by decide +kernel
theorem dX0_run_53 : decode cX0_run 53 = .ok (.invokevirtual 53, 3) := by decide +kernel
theorem dX0_run_56 : decode cX0_run 56 = .ok (.iadd, 1) := by decide +kernel
theorem dX0_run_57 : decode cX0_run 57 = .ok (.aload_n 0, 1) := by decide +kernel
theorem dX0_run_58 : decode cX0_run 58 = .ok (.iload_n 3, 1) := by decide +kernel
theorem dX0_run_59 : decode cX0_run 59 = .ok (.aload_n 0, 1) := by decide +kernel
theorem dX0_run_60 : decode cX0_run 60 = .ok (.getfield 28, 3) := by decide +kernel
theorem dX0_run_63 : decode cX0_run 63 = .ok (.isub, 1) := by decide +kernel
theorem dX0_run_64 : decode cX0_run 64 = .ok (.aload_n 0, 1) := by decide +kernel
theorem dX0_run_65 : decode cX0_run 65 = .ok (.getfield 31, 3) := by decide +kernel
theorem dX0_run_68 : decode cX0_run 68 = .ok (.invokevirtual 53, 3) := by decide +kernel
theorem dX0_run_7 : decode cX0_run 7 = .ok (.iload_n 3, 1) := by decide +kernel
theorem dX0_run_71 : decode cX0_run 71 = .ok (.iadd, 1) := by decide +kernel
theorem dX0_run_72 : decode cX0_run 72 = .ok (.istore 5, 2) := by decide +kernel
theorem dX0_run_74 : decode cX0_run 74 = .ok (.aload_n 0, 1) := by decide +kernel
theorem dX0_run_75 : decode cX0_run 75 = .ok (.getfield 34, 3) := by decide +kernel
theorem dX0_run_78 : decode cX0_run 78 = .ok (.iload_n 3, 1) := by decide +kernel
theorem dX0_run_79 : decode cX0_run 79 = .ok (.iload 5, 2) := by decide +kernel
theorem dX0_run_8 : decode cX0_run 8 = .ok (.aload_n 0, 1) := by decide +kernel
theorem dX0_run_81 : decode cX0_run 81 = .ok (.sipush 5000, 3) := by decide +kernel
theorem dX0_run_84 : decode cX0_run 84 = .ok (.invokestatic 57, 3) := by decide +kernel
theorem dX0_run_87 : decode cX0_run 87 = .ok (.iastore, 1) := by decide +kernel
theorem dX0_run_88 : decode cX0_run 88 = .ok (.iinc 3 1, 3) := by decide +kernel
theorem dX0_run_9 : decode cX0_run 9 = .ok (.getfield 34, 3) := by decide +kernel
theorem dX0_run_91 : decode cX0_run 91 = .ok (.goto (-89), 3) := by decide +kernel
theorem dX0_run_94 : decode cX0_run 94 = .ok (.return_, 1) := by decide +kernel
theorem dm_X0_behind : yX0_behind.cls = RX0 ∧ yX0_behind.cls ≠ "java/lang/invoke/MethodHandle" ∧ yX0_behind.cls ≠ "java/lang/invoke/VarHandle" ∧ (parseMethodDescriptor yX0_behind.desc).map (fun d => d.parameters.length) = some 2 := by decide +kernel
set_option maxHeartbeats 4000000 in
set_option maxRecDepth 100000 in
theorem n_run (l : Launch) (D : va_G) (dA : Nat → ClassId) (b : Nat) (M : zM) (u : Int) (r_u : R32 u) (g0 : M 78 0 = 0) (g1 : M 78 3 = 1) (g2 : M 78 4 = 0) (g3 : M 78 5 = 1) (g4 : M 78 6 = 0) (p0 : 0 ≤ u ∧ u ≤ 4000) : Met l yX0_run (.code yX0_run cX0_run 6 none :: zt) (z_rm 2) (va_Pc [.ref (b + 78), .ref (b + 32), .int (iI u)] (zP D dA vwCl (z_tys dA) wC nC b M)) (va_Qv (zQv wC (zms wC [2175]) M (fun M1 => ∀ k : Nat, (k : Int) ≤ u → M1 81 k = 0)) (zB D dA vwCl wC nC b) (zA nC b)) 0 0 (zA nC b) := by
  refine Met.ofW (cc := cX0_run) (maxL := 6) (ret := none) (by decide) rfl ?_
  intro p e s m args below meth c s₁ B hml hv
  obtain ⟨hargs, hR0, hJ, hK⟩ := hv
  have hx := B.exec
  have hb := B.bytes
  have hr := B.returns
  have hts := atoms_spec (ws := .code yX0_run cX0_run 6 none :: zt) B.pre
  have hown : s.vm.findClass RX0 = some m.cls := findClass_of_methodNamed B.named
  have hlocks := B.notSynchronized
  have hS : zS D dA vwCl wC nC b (zms wC [2175]) M M s.heap := ⟨hR0, hJ, zF_rf _ _⟩
  have hS0 : va_S (zA nC b) s.heap s.heap [] := va_S.rf
  have hl := lv_entry ([.ref (b + 78), .ref (b + 32), .int (iI u)]) (n := 6) (Nat.le_of_ble_eq_true rfl)
  have hent : entryFrame m args 6 = F0 m 0 ((lg_sl ([.ref (b + 78), .ref (b + 32), .int (iI u)]) ++ List.replicate (6 - (lg_sl ([.ref (b + 78), .ref (b + 32), .int (iI u)])).length) Slot.unset).toArray) [] := by rw [hargs]; exact lg_entry_eq m ([.ref (b + 78), .ref (b + 32), .int (iI u)]) 6
  rw [hent]
  generalize (lg_sl ([.ref (b + 78), .ref (b + 32), .int (iI u)]) ++ List.replicate (6 - (lg_sl ([.ref (b + 78), .ref (b + 32), .int (iI u)])).length) Slot.unset).toArray = ls at hl ⊢
  have hl : lv_has ls 6 [(0, .ref (b + 78)), (1, .ref (b + 32)), (2, .int (iI u))] := hl
  refine z_iconst hx hb dX0_run_0 ?_
  refine lv_istore_n (lv' := [(3, .int (iI 0)), (0, .ref (b + 78)), (1, .ref (b + 32)), (2, .int (iI u))]) hx hb dX0_run_1 rfl hl (by decide) rfl (fun ls hl => ?_)
  have L4 : ∀ (n2 : Nat) (t1 : Int) (M5 : zM) (H : Heap) (locs : List Loc) (ls : Array Slot), (2147483648 - t1).toNat ≤ n2 → R32 t1 → (0 ≤ t1) → (∀ k : Nat, (k : Int) < t1 → M5 81 k = 0) → zS D dA vwCl wC nC b (zms wC [2175]) M M5 H → va_S (zA nC b) s.heap H locs → lv_has ls 6 [(0, .ref (b + 78)), (1, .ref (b + 32)), (2, .int (iI u)), (3, .int (iI t1))] → W p l e (headSpec (.code yX0_run cX0_run 6 none :: zt) (z_rm 2)).room s m args below meth c H locs 0 0 (MQ below (va_Qv (zQv wC (zms wC [2175]) M (fun M1 => ∀ k : Nat, (k : Int) ≤ u → M1 81 k = 0)) (zB D dA vwCl wC nC b) (zA nC b)) args s 0 0 (zA nC b)) (F0 m 2 ls []) := by
    intro n2
    induction n2 with
    | zero =>
      intro t1 M5 H locs ls hm r_t1 i6 i7 hS hS0 hl
      exfalso
      omega
    | succ n2 ih3 =>
      intro t1 M5 H locs ls hm r_t1 i6 i7 hS hS0 hl
      have J8 := hS.2.1
      have F9 := hS.2.2
      refine lv_iload_n hx hb dX0_run_2 rfl (lv_at hl 3 rfl) ?_
      refine lv_iload_n hx hb dX0_run_3 rfl (lv_at hl 2 rfl) ?_
      refine z_icmp_gt (tgt := 94) hx hb r_t1 r_u dX0_run_4 (by decide) (fun c10 => ?_) (fun c10 => ?_)
      · skip
        exact z_vret hx hb hr hlocks hS hS0 (fun k hk => i7 k (by omega)) dX0_run_94
      · skip
        refine lv_iload_n hx hb dX0_run_7 rfl (lv_at hl 3 rfl) ?_
        refine lv_aload_n hx hb dX0_run_8 rfl (lv_at hl 0 rfl) ?_
        refine z_getr (j2 := 81) hx hb hts (z_memU u0) hown hK.1 hS f0_7 (by decide) (zkd_of (rfl : zcd wC 78 = 30) rfl) (zrf_of (rfl : zcd wC 78 = 30) rfl) (Or.inl (hts _ (z_mem k181))) dX0_run_9 ?_
        refine z_alen (n := 4001) hx hb hK.1 (t0 := 0) rfl hS (by decide) (zkd_of (rfl : zcd wC 81 = 33) rfl) (zln_of (rfl : zcd wC 81 = 33) rfl) dX0_run_12 ?_
        refine z_top (show (((4001 : Nat) : Int)) = 4001 from by decide) ?_
        refine z_icmp_ge (tgt := 94) hx hb r_t1 (by decide) dX0_run_13 (by decide) (fun c11 => absurd c11 (by omega)) (fun c11 => ?_)
        refine lv_iload_n hx hb dX0_run_16 rfl (lv_at hl 3 rfl) ?_
        refine lv_aload_n hx hb dX0_run_17 rfl (lv_at hl 0 rfl) ?_
        refine z_geti hx hb hts (z_memU u0) hown hK.1 hS f0_0 (by decide) (zkd_of (rfl : zcd wC 78 = 30) rfl) (Or.inl (hts _ (z_mem k172))) dX0_run_18 ?_
        refine z_top (show M5 78 0 = 0 from by rw [F9 _ _ (zms_not (rfl : zcd wC 78 = 30) rfl), g0]) ?_
        refine z_icmp_ge (tgt := 37) hx hb r_t1 (by decide) dX0_run_21 (by decide) (fun c12 => ?_) (fun c12 => absurd c12 (by omega))
        refine z_iconst hx hb dX0_run_37 ?_
        refine lv_istore (lv' := [(4, .int (iI 0)), (0, .ref (b + 78)), (1, .ref (b + 32)), (2, .int (iI u)), (3, .int (iI t1))]) hx hb dX0_run_38 hl (by decide) rfl (fun ls hl => ?_)
        refine lv_iload hx hb dX0_run_40 (lv_at hl 0 rfl) ?_
        refine lv_aload_n hx hb dX0_run_42 rfl (lv_at hl 1 rfl) ?_
        refine lv_iload_n hx hb dX0_run_43 rfl (lv_at hl 4 rfl) ?_
        refine lv_aload_n hx hb dX0_run_44 rfl (lv_at hl 1 rfl) ?_
        refine z_geti hx hb hts (z_memU u0) hown hK.1 hS f0_3 (by decide) (zkd_of (rfl : zcd wC 78 = 30) rfl) (Or.inl (hts _ (z_mem k177))) dX0_run_45 ?_
        refine z_top (show M5 78 3 = 1 from by rw [F9 _ _ (zms_not (rfl : zcd wC 78 = 30) rfl), g1]) ?_
        refine z_isub hx hb dX0_run_48 ?_
        refine lv_aload_n hx hb dX0_run_49 rfl (lv_at hl 1 rfl) ?_
        refine z_geti hx hb hts (z_memU u0) hown hK.1 hS f0_4 (by decide) (zkd_of (rfl : zcd wC 78 = 30) rfl) (Or.inl (hts _ (z_mem k178))) dX0_run_50 ?_
        refine z_top (show M5 78 4 = 0 from by rw [F9 _ _ (zms_not (rfl : zcd wC 78 = 30) rfl), g2]) ?_
        refine z_calli (va_runV (As := [.int (iI (t1 - 1)), .int (iI 0)]) (rest := [.int (iI 0)]) ⟨hx, hb, hml, hown, hts⟩ (n_behind0 l D dA b M5 (t1 - 1) 0 ⟨by omega, by omega⟩ (by decide) (by omega)) (cwV 2 hts (z_gV k707 k708 k1381 k9 k709) rfl rfl rfl dm_X0_behind ⟨Nat.le_of_ble_eq_true rfl, Nat.le_of_ble_eq_true rfl⟩) ⟨zP_blind, (z_recv hS hK.1 (by decide) (zkd_of (rfl : zcd wC 78 = 30) rfl) (by decide) (rfl : vwCl[0]? = some (RX0, TX0, 8))), z_pre hS hK⟩ rfl rfl hl.1 rfl (lv_room (Nat.le_of_ble_eq_true rfl)) dX0_run_53 ⟨Nat.le_refl _, Nat.le_refl _⟩) hS hS0 (zms_sub rfl) (fun z17 M13 H locs r18 h14 F15 hS hS0 => ?_)
        obtain ⟨h19, h14⟩ := h14
        rw [h19] at hS
        have h20 := h14
        obtain ⟨z17e, h20⟩ := h20
        subst z17e
        refine z_iadd hx hb dX0_run_56 ?_
        refine z_top (show ((0 + 0) : Int) = 0 from by decide) ?_
        refine lv_aload_n hx hb dX0_run_57 rfl (lv_at hl 1 rfl) ?_
        refine lv_iload_n hx hb dX0_run_58 rfl (lv_at hl 4 rfl) ?_
        refine lv_aload_n hx hb dX0_run_59 rfl (lv_at hl 1 rfl) ?_
        refine z_geti hx hb hts (z_memU u0) hown hK.1 hS f0_5 (by decide) (zkd_of (rfl : zcd wC 78 = 30) rfl) (Or.inl (hts _ (z_mem k179))) dX0_run_60 ?_
        refine z_top (show M5 78 5 = 1 from by rw [F9 _ _ (zms_not (rfl : zcd wC 78 = 30) rfl), g3]) ?_
        refine z_isub hx hb dX0_run_63 ?_
        refine lv_aload_n hx hb dX0_run_64 rfl (lv_at hl 1 rfl) ?_
        refine z_geti hx hb hts (z_memU u0) hown hK.1 hS f0_6 (by decide) (zkd_of (rfl : zcd wC 78 = 30) rfl) (Or.inl (hts _ (z_mem k180))) dX0_run_65 ?_
        refine z_top (show M5 78 6 = 0 from by rw [F9 _ _ (zms_not (rfl : zcd wC 78 = 30) rfl), g4]) ?_
        refine z_calli (va_runV (As := [.int (iI (t1 - 1)), .int (iI 0)]) (rest := [.int (iI 0)]) ⟨hx, hb, hml, hown, hts⟩ (n_behind0 l D dA b M5 (t1 - 1) 0 ⟨by omega, by omega⟩ (by decide) (by omega)) (cwV 2 hts (z_gV k707 k708 k1381 k9 k709) rfl rfl rfl dm_X0_behind ⟨Nat.le_of_ble_eq_true rfl, Nat.le_of_ble_eq_true rfl⟩) ⟨zP_blind, (z_recv hS hK.1 (by decide) (zkd_of (rfl : zcd wC 78 = 30) rfl) (by decide) (rfl : vwCl[0]? = some (RX0, TX0, 8))), z_pre hS hK⟩ rfl rfl hl.1 rfl (lv_room (Nat.le_of_ble_eq_true rfl)) dX0_run_68 ⟨Nat.le_refl _, Nat.le_refl _⟩) hS hS0 (zms_sub rfl) (fun z25 M21 H locs r26 h22 F23 hS hS0 => ?_)
        obtain ⟨h27, h22⟩ := h22
        rw [h27] at hS
        have h28 := h22
        obtain ⟨z25e, h28⟩ := h28
        subst z25e
        refine z_iadd hx hb dX0_run_71 ?_
        refine z_top (show ((0 + 0) : Int) = 0 from by decide) ?_
        refine lv_istore (lv' := [(5, .int (iI 0)), (4, .int (iI 0)), (0, .ref (b + 78)), (1, .ref (b + 32)), (2, .int (iI u)), (3, .int (iI t1))]) hx hb dX0_run_72 hl (by decide) rfl (fun ls hl => ?_)
        refine lv_aload_n hx hb dX0_run_74 rfl (lv_at hl 2 rfl) ?_
        refine z_getr (j2 := 81) hx hb hts (z_memU u0) hown hK.1 hS f0_7 (by decide) (zkd_of (rfl : zcd wC 78 = 30) rfl) (zrf_of (rfl : zcd wC 78 = 30) rfl) (Or.inl (hts _ (z_mem k181))) dX0_run_75 ?_
        refine lv_iload_n hx hb dX0_run_78 rfl (lv_at hl 5 rfl) ?_
        refine lv_iload hx hb dX0_run_79 (lv_at hl 0 rfl) ?_
        refine z_sipush hx hb (by decide) dX0_run_81 ?_
        refine z_mmin hx hb (hml.trans hl.1.symm) hown (hts _ (z_mem k714)) (hts _ (z_mem k320)) (hts _ (z_mem k15)) (hts _ (z_mem k321)) (by exact Nat.le_of_ble_eq_true rfl) (by exact Nat.le_of_ble_eq_true rfl) (by exact Nat.le_refl _) (by exact Nat.le_refl _) (by decide) (by decide) dX0_run_84 ?_
        refine z_top (show ((min 0 5000) : Int) = 0 from by decide) ?_
        refine z_iast (n := 4001) hx hb hK.1 (t0 := 0) rfl hS hS0 (by decide) (zkd_of (rfl : zcd wC 81 = 33) rfl) (zln_of (rfl : zcd wC 81 = 33) rfl) (by omega) (by omega) (by decide) (zbd_in (rfl : zcd wC 81 = 33) rfl (by decide)) (zms_of (rfl : zcd wC 81 = 33) rfl) dX0_run_87 (fun H locs hS hS0 => ?_)
        obtain ⟨M31, e32⟩ : ∃ M31 : zM, M31 = zup M5 81 (t1.toNat) 0 := ⟨_, rfl⟩
        rw [← e32] at hS
        have J33 := hS.2.1
        refine z_iinc (lv' := [(3, .int (iI (t1 + 1))), (5, .int (iI 0)), (4, .int (iI 0)), (0, .ref (b + 78)), (1, .ref (b + 32)), (2, .int (iI u))]) hx hb dX0_run_88 hl (k := 5) rfl (by decide) rfl (fun ls hl => ?_)
        refine lv_goto (tgt := 2) hx hb dX0_run_91 (by decide) ?_
        exact ih3 (t1 + 1) M31 _ _ _ (by omega) ⟨by omega, by omega⟩ (by omega) (fun k hk => if h9 : k = t1.toNat then by rw [e32, h9]; exact zup_s _ _ _ _ else by rw [e32, zup_n _ _ (fun q => h9 q.2)]; exact i7 k (by omega)) hS hS0 (lv_sub hl [3, 4, 5, 0] rfl)
  exact L4 _ 0 M _ _ _ (Nat.le_refl _) (by decide) (by omega) (fun k hk => absurd hk (by omega)) hS hS0 (lv_sub hl [1, 2, 3, 0] rfl)
