/-- a digit of a written piece -/
def DIG (v i : Int) : Int := (((iI v).toUInt32 >>> ((iI (28 - (4 * i))).toUInt32 &&& Int32.toUInt32 31)).toInt32 &&& iI 15).toInt
/-- pairs: the least p of a sum, how many have a sum below n + 2, the i-th -/
def PL (s : Int) : Int := max 1 (s - 24)
def PF : Nat → Int
  | 0 => 0
  | n + 1 => PF n + ((((n : Int) + 2) / 2 - PL ((n : Int) + 2)) + 1)
theorem PF_s (s : Int) (h1 : 2 ≤ s) (h2 : s ≤ 48) : PF ((s + 1) - 2).toNat = PF (s - 2).toNat + ((s / 2 - PL s) + 1) := by
  obtain ⟨n, hn⟩ : ∃ n : Nat, s = n + 2 := ⟨(s - 2).toNat, by omega⟩
  subst hn
  rw [show (((n : Int) + 2 + 1) - 2).toNat = n + 1 by omega, show ((n : Int) + 2 - 2).toNat = n by omega, PF]
theorem PF_b (n : Nat) (h : n < 48) : 0 ≤ PF n ∧ PF n ≤ 300 := (by decide : ∀ n, n < 48 → 0 ≤ PF n ∧ PF n ≤ 300) n h
def PR (i z : Int) : Prop := (∃ s p : Int, 2 ≤ s ∧ s ≤ 48 ∧ PL s ≤ p ∧ 2 * p ≤ s ∧ i = PF (s - 2).toNat + (p - PL s) ∧ z = 100 * p + s - p) ∨ ((i < 0 ∨ PF 47 ≤ i) ∧ z = -1)
theorem dX3_pairNumber_0 : decode cX3_pairNumber 0 = .ok (.iconst 0, 1) := by decide +kernel
theorem dX3_pairNumber_1 : decode cX3_pairNumber 1 = .ok (.istore_n 2, 1) := by decide +kernel
theorem dX3_pairNumber_10 : decode cX3_pairNumber 10 = .ok (.iconst 1, 1) := by decide +kernel
theorem dX3_pairNumber_11 : decode cX3_pairNumber 11 = .ok (.iload_n 3, 1) := by decide +kernel
theorem dX3_pairNumber_12 : decode cX3_pairNumber 12 = .ok (.bipush 24, 2) := by decide +kernel
theorem dX3_pairNumber_14 : decode cX3_pairNumber 14 = .ok (.isub, 1) := by decide +kernel
theorem dX3_pairNumber_15 : decode cX3_pairNumber 15 = .ok (.invokestatic 39, 3) := by decide +kernel
theorem dX3_pairNumber_18 : decode cX3_pairNumber 18 = .ok (.istore 4, 2) := by decide +kernel
theorem dX3_pairNumber_2 : decode cX3_pairNumber 2 = .ok (.iconst 2, 1) := by decide +kernel
theorem dX3_pairNumber_20 : decode cX3_pairNumber 20 = .ok (.iload 4, 2) := by decide +kernel
theorem dX3_pairNumber_22 : decode cX3_pairNumber 22 = .ok (.iload_n 3, 1) := by decide +kernel
theorem dX3_pairNumber_23 : decode cX3_pairNumber 23 = .ok (.iload 4, 2) := by decide +kernel
theorem dX3_pairNumber_25 : decode cX3_pairNumber 25 = .ok (.isub, 1) := by decide +kernel
theorem dX3_pairNumber_26 : decode cX3_pairNumber 26 = .ok (.if_icmp .gt 41, 3) := by decide +kernel
theorem dX3_pairNumber_29 : decode cX3_pairNumber 29 = .ok (.aload_n 0, 1) := by decide +kernel
theorem dX3_pairNumber_3 : decode cX3_pairNumber 3 = .ok (.istore_n 3, 1) := by decide +kernel
theorem dX3_pairNumber_30 : decode cX3_pairNumber 30 = .ok (.iload 4, 2) := by decide +kernel
theorem dX3_pairNumber_32 : decode cX3_pairNumber 32 = .ok (.iload_n 3, 1) := by decide +kernel
theorem dX3_pairNumber_33 : decode cX3_pairNumber 33 = .ok (.iload 4, 2) := by decide +kernel
theorem dX3_pairNumber_35 : decode cX3_pairNumber 35 = .ok (.isub, 1) := by decide +kernel
theorem dX3_pairNumber_36 : decode cX3_pairNumber 36 = .ok (.invokevirtual 45, 3) := by decide +kernel
theorem dX3_pairNumber_39 : decode cX3_pairNumber 39 = .ok (.ifCond .eq 22, 3) := by decide +kernel
theorem dX3_pairNumber_4 : decode cX3_pairNumber 4 = .ok (.iload_n 3, 1) := by decide +kernel
theorem dX3_pairNumber_42 : decode cX3_pairNumber 42 = .ok (.iload_n 2, 1) := by decide +kernel
theorem dX3_pairNumber_43 : decode cX3_pairNumber 43 = .ok (.iload_n 1, 1) := by decide +kernel
theorem dX3_pairNumber_44 : decode cX3_pairNumber 44 = .ok (.if_icmp .ne 14, 3) := by decide +kernel
theorem dX3_pairNumber_47 : decode cX3_pairNumber 47 = .ok (.bipush 100, 2) := by decide +kernel
theorem dX3_pairNumber_49 : decode cX3_pairNumber 49 = .ok (.iload 4, 2) := by decide +kernel
theorem dX3_pairNumber_5 : decode cX3_pairNumber 5 = .ok (.bipush 48, 2) := by decide +kernel
theorem dX3_pairNumber_51 : decode cX3_pairNumber 51 = .ok (.imul, 1) := by decide +kernel
theorem dX3_pairNumber_52 : decode cX3_pairNumber 52 = .ok (.iload_n 3, 1) := by decide +kernel
theorem dX3_pairNumber_53 : decode cX3_pairNumber 53 = .ok (.iadd, 1) := by decide +kernel
theorem dX3_pairNumber_54 : decode cX3_pairNumber 54 = .ok (.iload 4, 2) := by decide +kernel
theorem dX3_pairNumber_56 : decode cX3_pairNumber 56 = .ok (.isub, 1) := by decide +kernel
theorem dX3_pairNumber_57 : decode cX3_pairNumber 57 = .ok (.ireturn, 1) := by decide +kernel
theorem dX3_pairNumber_58 : decode cX3_pairNumber 58 = .ok (.iinc 2 1, 3) := by decide +kernel
theorem dX3_pairNumber_61 : decode cX3_pairNumber 61 = .ok (.iinc 4 1, 3) := by decide +kernel
theorem dX3_pairNumber_64 : decode cX3_pairNumber 64 = .ok (.goto (-44), 3) := by decide +kernel
theorem dX3_pairNumber_67 : decode cX3_pairNumber 67 = .ok (.iinc 3 1, 3) := by decide +kernel
theorem dX3_pairNumber_7 : decode cX3_pairNumber 7 = .ok (.if_icmp .gt 66, 3) := by decide +kernel
theorem dX3_pairNumber_70 : decode cX3_pairNumber 70 = .ok (.goto (-66), 3) := by decide +kernel
theorem dX3_pairNumber_73 : decode cX3_pairNumber 73 = .ok (.iconst (-1), 1) := by decide +kernel
theorem dX3_pairNumber_74 : decode cX3_pairNumber 74 = .ok (.ireturn, 1) := by decide +kernel
theorem dX4_add_0 : decode cX4_add 0 = .ok (.aload_n 0, 1) := by decide +kernel
theorem dX4_add_1 : decode cX4_add 1 = .ok (.getfield 9, 3) := by decide +kernel
theorem dX4_add_10 : decode cX4_add 10 = .ok (.iconst 0, 1) := by decide +kernel
theorem dX4_add_11 : decode cX4_add 11 = .ok (.istore_n 3, 1) := by decide +kernel
theorem dX4_add_12 : decode cX4_add 12 = .ok (.iload_n 3, 1) := by decide +kernel
theorem dX4_add_13 : decode cX4_add 13 = .ok (.iload_n 2, 1) := by decide +kernel
theorem dX4_add_14 : decode cX4_add 14 = .ok (.if_icmp .ge 38, 3) := by decide +kernel
theorem dX4_add_17 : decode cX4_add 17 = .ok (.iload_n 1, 1) := by decide +kernel
theorem dX4_add_18 : decode cX4_add 18 = .ok (.iload_n 3, 1) := by decide +kernel
theorem dX4_add_19 : decode cX4_add 19 = .ok (.invokestatic 33, 3) := by decide +kernel
theorem dX4_add_22 : decode cX4_add 22 = .ok (.istore 4, 2) := by decide +kernel
theorem dX4_add_24 : decode cX4_add 24 = .ok (.iload 4, 2) := by decide +kernel
theorem dX4_add_26 : decode cX4_add 26 = .ok (.bipush 9, 2) := by decide +kernel
theorem dX4_add_28 : decode cX4_add 28 = .ok (.if_icmp .le 5, 3) := by decide +kernel
theorem dX4_add_31 : decode cX4_add 31 = .ok (.iconst (-1), 1) := by decide +kernel
theorem dX4_add_32 : decode cX4_add 32 = .ok (.ireturn, 1) := by decide +kernel
theorem dX4_add_33 : decode cX4_add 33 = .ok (.aload_n 0, 1) := by decide +kernel
theorem dX4_add_34 : decode cX4_add 34 = .ok (.getfield 24, 3) := by decide +kernel
theorem dX4_add_37 : decode cX4_add 37 = .ok (.aload_n 0, 1) := by decide +kernel
theorem dX4_add_38 : decode cX4_add 38 = .ok (.getfield 9, 3) := by decide +kernel
theorem dX4_add_4 : decode cX4_add 4 = .ok (.iconst 5, 1) := by decide +kernel
theorem dX4_add_41 : decode cX4_add 41 = .ok (.aaload, 1) := by decide +kernel
theorem dX4_add_42 : decode cX4_add 42 = .ok (.iload_n 3, 1) := by decide +kernel
theorem dX4_add_43 : decode cX4_add 43 = .ok (.iload 4, 2) := by decide +kernel
theorem dX4_add_45 : decode cX4_add 45 = .ok (.iastore, 1) := by decide +kernel
theorem dX4_add_46 : decode cX4_add 46 = .ok (.iinc 3 1, 3) := by decide +kernel
theorem dX4_add_49 : decode cX4_add 49 = .ok (.goto (-37), 3) := by decide +kernel
theorem dX4_add_5 : decode cX4_add 5 = .ok (.if_icmp .lt 5, 3) := by decide +kernel
theorem dX4_add_52 : decode cX4_add 52 = .ok (.aload_n 0, 1) := by decide +kernel
theorem dX4_add_53 : decode cX4_add 53 = .ok (.getfield 27, 3) := by decide +kernel
theorem dX4_add_56 : decode cX4_add 56 = .ok (.aload_n 0, 1) := by decide +kernel
theorem dX4_add_57 : decode cX4_add 57 = .ok (.getfield 9, 3) := by decide +kernel
theorem dX4_add_60 : decode cX4_add 60 = .ok (.iload_n 2, 1) := by decide +kernel
theorem dX4_add_61 : decode cX4_add 61 = .ok (.iastore, 1) := by decide +kernel
theorem dX4_add_62 : decode cX4_add 62 = .ok (.aload_n 0, 1) := by decide +kernel
theorem dX4_add_63 : decode cX4_add 63 = .ok (.dup, 1) := by decide +kernel
theorem dX4_add_64 : decode cX4_add 64 = .ok (.getfield 9, 3) := by decide +kernel
theorem dX4_add_67 : decode cX4_add 67 = .ok (.iconst 1, 1) := by decide +kernel
theorem dX4_add_68 : decode cX4_add 68 = .ok (.iadd, 1) := by decide +kernel
theorem dX4_add_69 : decode cX4_add 69 = .ok (.putfield 9, 3) := by decide +kernel
theorem dX4_add_72 : decode cX4_add 72 = .ok (.aload_n 0, 1) := by decide +kernel
theorem dX4_add_73 : decode cX4_add 73 = .ok (.getfield 9, 3) := by decide +kernel
theorem dX4_add_76 : decode cX4_add 76 = .ok (.iconst 1, 1) := by decide +kernel
theorem dX4_add_77 : decode cX4_add 77 = .ok (.isub, 1) := by decide +kernel
theorem dX4_add_78 : decode cX4_add 78 = .ok (.ireturn, 1) := by decide +kernel
theorem dX4_digit_0 : decode cX4_digit 0 = .ok (.iload_n 0, 1) := by decide +kernel
theorem dX4_digit_1 : decode cX4_digit 1 = .ok (.bipush 28, 2) := by decide +kernel
theorem dX4_digit_10 : decode cX4_digit 10 = .ok (.iand, 1) := by decide +kernel
theorem dX4_digit_11 : decode cX4_digit 11 = .ok (.ireturn, 1) := by decide +kernel
theorem dX4_digit_3 : decode cX4_digit 3 = .ok (.iconst 4, 1) := by decide +kernel
theorem dX4_digit_4 : decode cX4_digit 4 = .ok (.iload_n 1, 1) := by decide +kernel
theorem dX4_digit_5 : decode cX4_digit 5 = .ok (.imul, 1) := by decide +kernel
theorem dX4_digit_6 : decode cX4_digit 6 = .ok (.isub, 1) := by decide +kernel
theorem dX4_digit_7 : decode cX4_digit 7 = .ok (.iushr, 1) := by decide +kernel
theorem dX4_digit_8 : decode cX4_digit 8 = .ok (.bipush 15, 2) := by decide +kernel
theorem dm_X4_digit : yX4_digit.cls = RX4 ∧ yX4_digit.cls ≠ "java/lang/invoke/MethodHandle" ∧ yX4_digit.cls ≠ "java/lang/invoke/VarHandle" ∧ (parseMethodDescriptor yX4_digit.desc).map (fun d => d.parameters.length) = some 2 := by decide +kernel
theorem dm_X3_pairFits : yX3_pairFits.cls = RX3 ∧ yX3_pairFits.cls ≠ "java/lang/invoke/MethodHandle" ∧ yX3_pairFits.cls ≠ "java/lang/invoke/VarHandle" ∧ (parseMethodDescriptor yX3_pairFits.desc).map (fun d => d.parameters.length) = some 2 := by decide +kernel
set_option maxHeartbeats 4000000 in
set_option maxRecDepth 100000 in
theorem c_digit (l : Launch) (D : va_G) (dA : Nat → ClassId) (b : Nat) (M : zM) (v : Int) (i : Int) (r_v : R32 v) (r_i : R32 i) : Met l yX4_digit (.code yX4_digit cX4_digit 2 (some .int) :: zt) (z_rm 0) (va_Pc [.int (iI v), .int (iI i)] (zP D dA vwCl (z_tys dA) wC nC b M)) (va_Qi (zQi wC (zms wC []) M (fun z M1 => M1 = M ∧ (z = DIG v i ∧ 0 ≤ z ∧ z ≤ 15))) (zB D dA vwCl wC nC b) (zA nC b)) 0 0 (zA nC b) := by
  refine Met.ofW (cc := cX4_digit) (maxL := 2) (ret := (some .int)) (by decide) rfl ?_
  intro p e s m args below meth c s₁ B hml hv
  obtain ⟨hargs, hR0, hJ, hK⟩ := hv
  have hx := B.exec
  have hb := B.bytes
  have hr := B.returns
  have hts := atoms_spec (ws := .code yX4_digit cX4_digit 2 (some .int) :: zt) B.pre
  have hown : s.vm.findClass RX4 = some m.cls := findClass_of_methodNamed B.named
  have hlocks := B.notSynchronized
  have hS : zS D dA vwCl wC nC b (zms wC []) M M s.heap := ⟨hR0, hJ, zF_rf _ _⟩
  have hS0 : va_S (zA nC b) s.heap s.heap [] := va_S.rf
  have hl := lv_entry ([.int (iI v), .int (iI i)]) (n := 2) (Nat.le_of_ble_eq_true rfl)
  have hent : entryFrame m args 2 = F0 m 0 ((lg_sl ([.int (iI v), .int (iI i)]) ++ List.replicate (2 - (lg_sl ([.int (iI v), .int (iI i)])).length) Slot.unset).toArray) [] := by rw [hargs]; exact lg_entry_eq m ([.int (iI v), .int (iI i)]) 2
  rw [hent]
  generalize (lg_sl ([.int (iI v), .int (iI i)]) ++ List.replicate (2 - (lg_sl ([.int (iI v), .int (iI i)])).length) Slot.unset).toArray = ls at hl ⊢
  have hl : lv_has ls 2 [(0, .int (iI v)), (1, .int (iI i))] := hl
  refine lv_iload_n hx hb dX4_digit_0 rfl (lv_at hl 0 rfl) ?_
  refine z_bipush hx hb (by decide) dX4_digit_1 ?_
  refine z_iconst hx hb dX4_digit_3 ?_
  refine lv_iload_n hx hb dX4_digit_4 rfl (lv_at hl 1 rfl) ?_
  refine z_imul hx hb dX4_digit_5 ?_
  refine z_isub hx hb dX4_digit_6 ?_
  refine z_iushr hx hb dX4_digit_7 (fun z1 r2 e3 => ?_)
  refine z_bipush hx hb (by decide) dX4_digit_8 ?_
  refine z_iand hx hb dX4_digit_10 (fun z4 r5 e6 => ?_)
  have q7 : (0 : Int) ≤ z4 ∧ z4 ≤ 15 := zand_r (by decide) (by decide) r5 e6
  exact z_iret hx hb hr hlocks hS hS0 r5 (⟨rfl, by unfold DIG; rw [← e3, ← e6, iI_t r5], by omega, by omega⟩) dX4_digit_11

set_option maxHeartbeats 4000000 in
set_option maxRecDepth 100000 in
theorem n_pcadd (l : Launch) (D : va_G) (dA : Nat → ClassId) (b : Nat) (M : zM) (v : Int) (n : Int) (r_v : R32 v) (r_n : R32 n) (g0 : M 86 0 = 0) (p0 : 1 ≤ n ∧ n ≤ 8) : Met l yX4_add (.code yX4_add cX4_add 5 (some .int) :: zt) (z_rm 1) (va_Pc [.ref (b + 86), .int (iI v), .int (iI n)] (zP D dA vwCl (z_tys dA) wC nC b M)) (va_Qi (zQi wC (zms wC [2432, 2687, 2751]) M (fun z M1 => (z = 0 ∧ ∀ k : Int, 0 ≤ k → k < n → DIG v k ≤ 9) ∨ (z = -1 ∧ ∃ k : Int, 0 ≤ k ∧ k < n ∧ 9 < DIG v k))) (zB D dA vwCl wC nC b) (zA nC b)) 0 0 (zA nC b) := by
  refine Met.ofW (cc := cX4_add) (maxL := 5) (ret := (some .int)) (by decide) rfl ?_
  intro p e s m args below meth c s₁ B hml hv
  obtain ⟨hargs, hR0, hJ, hK⟩ := hv
  have hx := B.exec
  have hb := B.bytes
  have hr := B.returns
  have hts := atoms_spec (ws := .code yX4_add cX4_add 5 (some .int) :: zt) B.pre
  have hown : s.vm.findClass RX4 = some m.cls := findClass_of_methodNamed B.named
  have hlocks := B.notSynchronized
  have hS : zS D dA vwCl wC nC b (zms wC [2432, 2687, 2751]) M M s.heap := ⟨hR0, hJ, zF_rf _ _⟩
  have hS0 : va_S (zA nC b) s.heap s.heap [] := va_S.rf
  have hl := lv_entry ([.ref (b + 86), .int (iI v), .int (iI n)]) (n := 5) (Nat.le_of_ble_eq_true rfl)
  have hent : entryFrame m args 5 = F0 m 0 ((lg_sl ([.ref (b + 86), .int (iI v), .int (iI n)]) ++ List.replicate (5 - (lg_sl ([.ref (b + 86), .int (iI v), .int (iI n)])).length) Slot.unset).toArray) [] := by rw [hargs]; exact lg_entry_eq m ([.ref (b + 86), .int (iI v), .int (iI n)]) 5
  rw [hent]
  generalize (lg_sl ([.ref (b + 86), .int (iI v), .int (iI n)]) ++ List.replicate (5 - (lg_sl ([.ref (b + 86), .int (iI v), .int (iI n)])).length) Slot.unset).toArray = ls at hl ⊢
  have hl : lv_has ls 5 [(0, .ref (b + 86)), (1, .int (iI v)), (2, .int (iI n))] := hl
  refine lv_aload_n hx hb dX4_add_0 rfl (lv_at hl 0 rfl) ?_
  refine z_geti hx hb hts (z_memU u4) hown hK.1 hS f4_0 (by decide) (zkd_of (rfl : zcd wC 86 = 38) rfl) (Or.inl (hts _ (z_mem k210))) dX4_add_1 ?_
  refine z_top (show M 86 0 = 0 from by rw [g0]) ?_
  refine z_iconst hx hb dX4_add_4 ?_
  refine z_icmp_lt (tgt := 10) hx hb (by decide) (by decide) dX4_add_5 (by decide) (fun c1 => ?_) (fun c1 => absurd c1 (by decide))
  refine z_iconst hx hb dX4_add_10 ?_
  refine lv_istore_n (lv' := [(3, .int (iI 0)), (0, .ref (b + 86)), (1, .int (iI v)), (2, .int (iI n))]) hx hb dX4_add_11 rfl hl (by decide) rfl (fun ls hl => ?_)
  have L5 : ∀ (n3 : Nat) (i2 : Int) (M6 : zM) (H : Heap) (locs : List Loc) (ls : Array Slot), (2147483648 - i2).toNat ≤ n3 → R32 i2 → (0 ≤ i2) → (∀ k : Int, 0 ≤ k → k < i2 → DIG v k ≤ 9) → (M6 86 0 = 0) → zS D dA vwCl wC nC b (zms wC [2432, 2687, 2751]) M M6 H → va_S (zA nC b) s.heap H locs → lv_has ls 5 [(0, .ref (b + 86)), (1, .int (iI v)), (2, .int (iI n)), (3, .int (iI i2))] → W p l e (headSpec (.code yX4_add cX4_add 5 (some .int) :: zt) (z_rm 1)).room s m args below meth c H locs 0 0 (MQ below (va_Qi (zQi wC (zms wC [2432, 2687, 2751]) M (fun z M1 => (z = 0 ∧ ∀ k : Int, 0 ≤ k → k < n → DIG v k ≤ 9) ∨ (z = -1 ∧ ∃ k : Int, 0 ≤ k ∧ k < n ∧ 9 < DIG v k))) (zB D dA vwCl wC nC b) (zA nC b)) args s 0 0 (zA nC b)) (F0 m 12 ls []) := by
    intro n3
    induction n3 with
    | zero =>
      intro i2 M6 H locs ls hm r_i2 i7 i8 i9 hS hS0 hl
      exfalso
      omega
    | succ n3 ih4 =>
      intro i2 M6 H locs ls hm r_i2 i7 i8 i9 hS hS0 hl
      have J10 := hS.2.1
      have F11 := hS.2.2
      refine lv_iload_n hx hb dX4_add_12 rfl (lv_at hl 3 rfl) ?_
      refine lv_iload_n hx hb dX4_add_13 rfl (lv_at hl 2 rfl) ?_
      refine z_icmp_ge (tgt := 52) hx hb r_i2 r_n dX4_add_14 (by decide) (fun c12 => ?_) (fun c12 => ?_)
      · skip
        refine lv_aload_n hx hb dX4_add_52 rfl (lv_at hl 0 rfl) ?_
        refine z_getr (j2 := 94) hx hb hts (z_memU u4) hown hK.1 hS f4_4 (by decide) (zkd_of (rfl : zcd wC 86 = 38) rfl) (zrf_of (rfl : zcd wC 86 = 38) rfl) (Or.inl (hts _ (z_mem k216))) dX4_add_53 ?_
        refine lv_aload_n hx hb dX4_add_56 rfl (lv_at hl 0 rfl) ?_
        refine z_geti hx hb hts (z_memU u4) hown hK.1 hS f4_0 (by decide) (zkd_of (rfl : zcd wC 86 = 38) rfl) (Or.inl (hts _ (z_mem k210))) dX4_add_57 ?_
        refine z_top (show M6 86 0 = 0 from by rw [i9]) ?_
        refine lv_iload_n hx hb dX4_add_60 rfl (lv_at hl 2 rfl) ?_
        refine z_iast (n := 5) hx hb hK.1 (t0 := 0) rfl hS hS0 (by decide) (zkd_of (rfl : zcd wC 94 = 42) rfl) (zln_of (rfl : zcd wC 94 = 42) rfl) (by decide) (by decide) (by decide) (zbd_in (rfl : zcd wC 94 = 42) rfl ⟨by omega, by omega⟩) (zms_of (rfl : zcd wC 94 = 42) rfl) dX4_add_61 (fun H locs hS hS0 => ?_)
        obtain ⟨M13, e14⟩ : ∃ M13 : zM, M13 = zup M6 94 ((0 : Int).toNat) n := ⟨_, rfl⟩
        rw [← e14] at hS
        have J15 := hS.2.1
        refine lv_aload_n hx hb dX4_add_62 rfl (lv_at hl 0 rfl) ?_
        refine lv_dup hx hb dX4_add_63 rfl ?_
        refine z_geti hx hb hts (z_memU u4) hown hK.1 hS f4_0 (by decide) (zkd_of (rfl : zcd wC 86 = 38) rfl) (Or.inl (hts _ (z_mem k210))) dX4_add_64 ?_
        refine z_top (show M13 86 0 = 0 from by rw [e14, zup_n _ _ (by omega), i9]) ?_
        refine z_iconst hx hb dX4_add_67 ?_
        refine z_iadd hx hb dX4_add_68 ?_
        refine z_top (show ((0 + 1) : Int) = 1 from (by decide)) ?_
        refine z_puti hx hb hts (z_memU u4) tyX4 tyX4_ok nmX4 hown hK.1 hS hS0 f4_0 (by decide) (zkd_of (rfl : zcd wC 86 = 38) rfl) (Or.inl (hts _ (z_mem k210))) rfl (z := 1) (by decide +kernel) (zbd_in (rfl : zcd wC 86 = 38) rfl (by decide)) (zms_of (rfl : zcd wC 86 = 38) rfl) dX4_add_69 (fun H locs hS hS0 => ?_)
        obtain ⟨M16, e17⟩ : ∃ M16 : zM, M16 = zup M13 86 0 1 := ⟨_, rfl⟩
        rw [← e17] at hS
        have J18 := hS.2.1
        refine lv_aload_n hx hb dX4_add_72 rfl (lv_at hl 0 rfl) ?_
        refine z_geti hx hb hts (z_memU u4) hown hK.1 hS f4_0 (by decide) (zkd_of (rfl : zcd wC 86 = 38) rfl) (Or.inl (hts _ (z_mem k210))) dX4_add_73 ?_
        refine z_top (show M16 86 0 = 1 from by rw [e17, zup_s]) ?_
        refine z_iconst hx hb dX4_add_76 ?_
        refine z_isub hx hb dX4_add_77 ?_
        refine z_top (show ((1 - 1) : Int) = 0 from (by decide)) ?_
        exact z_iret hx hb hr hlocks hS hS0 (by decide) (Or.inl ⟨rfl, fun k h0 h1 => i8 k h0 (by omega)⟩) dX4_add_78
      · skip
        refine lv_iload_n hx hb dX4_add_17 rfl (lv_at hl 1 rfl) ?_
        refine lv_iload_n hx hb dX4_add_18 rfl (lv_at hl 3 rfl) ?_
        refine z_calli (va_runS (As := [.int (iI v), .int (iI i2)]) (rest := []) ⟨hx, hb, hml, hown, hts⟩ (c_digit l D dA b M6 v i2 r_v r_i2) (va_cwS 2 hts (z_gS k802 k803 k12 k804) rfl rfl rfl dm_X4_digit.2 ⟨Nat.le_of_ble_eq_true rfl, Nat.le_of_ble_eq_true rfl⟩) ⟨zP_blind, z_pre hS hK⟩ rfl rfl hl.1 rfl (lv_room (Nat.le_of_ble_eq_true rfl)) dX4_add_19 ⟨Nat.le_refl _, Nat.le_refl _⟩) hS hS0 (zms_sub rfl) (fun z23 M19 H locs r24 h20 F21 hS hS0 => ?_)
        obtain ⟨h25, h20⟩ := h20
        rw [h25] at hS
        refine lv_istore (lv' := [(4, .int (iI z23)), (0, .ref (b + 86)), (1, .int (iI v)), (2, .int (iI n)), (3, .int (iI i2))]) hx hb dX4_add_22 hl (by decide) rfl (fun ls hl => ?_)
        refine lv_iload hx hb dX4_add_24 (lv_at hl 0 rfl) ?_
        refine z_bipush hx hb (by decide) dX4_add_26 ?_
        refine z_icmp_le (tgt := 33) hx hb r24 (by decide) dX4_add_28 (by decide) (fun c26 => ?_) (fun c26 => ?_)
        · skip
          refine lv_aload_n hx hb dX4_add_33 rfl (lv_at hl 1 rfl) ?_
          refine z_getr (j2 := 88) hx hb hts (z_memU u4) hown hK.1 hS f4_3 (by decide) (zkd_of (rfl : zcd wC 86 = 38) rfl) (zrf_of (rfl : zcd wC 86 = 38) rfl) (Or.inl (hts _ (z_mem k215))) dX4_add_34 ?_
          refine lv_aload_n hx hb dX4_add_37 rfl (lv_at hl 1 rfl) ?_
          refine z_geti hx hb hts (z_memU u4) hown hK.1 hS f4_0 (by decide) (zkd_of (rfl : zcd wC 86 = 38) rfl) (Or.inl (hts _ (z_mem k210))) dX4_add_38 ?_
          refine z_top (show M6 86 0 = 0 from by rw [i9]) ?_
          refine z_aald (n := 5) (j2 := 89) hx hb hK.1 (t0 := 7) (r := 7) (by decide) rfl rfl hS (by decide) (zkd_of (rfl : zcd wC 88 = 40) rfl) (zln_of (rfl : zcd wC 88 = 40) rfl) (by decide) (by decide) (by decide) (zrf_of (rfl : zcd wC 88 = 40) rfl) dX4_add_41 ?_
          refine lv_iload_n hx hb dX4_add_42 rfl (lv_at hl 4 rfl) ?_
          refine lv_iload hx hb dX4_add_43 (lv_at hl 0 rfl) ?_
          refine z_iast (n := 8) hx hb hK.1 (t0 := 0) rfl hS hS0 (by decide) (zkd_of (rfl : zcd wC 89 = 41) rfl) (zln_of (rfl : zcd wC 89 = 41) rfl) (by omega) (by omega) (by decide) (zbd_in (rfl : zcd wC 89 = 41) rfl ⟨by omega, by omega⟩) (zms_of (rfl : zcd wC 89 = 41) rfl) dX4_add_45 (fun H locs hS hS0 => ?_)
          obtain ⟨M27, e28⟩ : ∃ M27 : zM, M27 = zup M6 89 (i2.toNat) z23 := ⟨_, rfl⟩
          rw [← e28] at hS
          have J29 := hS.2.1
          refine z_iinc (lv' := [(3, .int (iI (i2 + 1))), (4, .int (iI z23)), (0, .ref (b + 86)), (1, .int (iI v)), (2, .int (iI n))]) hx hb dX4_add_46 hl (k := 4) rfl (by decide) rfl (fun ls hl => ?_)
          refine lv_goto (tgt := 12) hx hb dX4_add_49 (by decide) ?_
          exact ih4 (i2 + 1) M27 _ _ _ (by omega) ⟨by omega, by omega⟩ (by omega) (fun k h0 h1 => if h9 : k = i2 then by rw [h9, ← h20.1]; omega else i8 k h0 (by omega)) (by rw [e28, zup_n _ _ (by omega), i9]) hS hS0 (lv_sub hl [2, 3, 4, 0] rfl)
        · skip
          refine z_iconst hx hb dX4_add_31 ?_
          exact z_iret hx hb hr hlocks hS hS0 (by decide) (Or.inr ⟨rfl, i2, by omega, by omega, by rw [← h20.1]; omega⟩) dX4_add_32
  exact L5 _ 0 M _ _ _ (Nat.le_refl _) (by decide) (by omega) (fun k h0 h1 => absurd h1 (by omega)) (by rw [g0]) hS hS0 (lv_sub hl [1, 2, 3, 0] rfl)

set_option maxHeartbeats 4000000 in
set_option maxRecDepth 100000 in
theorem n_pairNumber (l : Launch) (D : va_G) (dA : Nat → ClassId) (b : Nat) (M : zM) (i : Int) (r_i : R32 i) (g0 : M 82 1 = 0) : Met l yX3_pairNumber (.code yX3_pairNumber cX3_pairNumber 5 (some .int) :: zt) (z_rm 3) (va_Pc [.ref (b + 82), .int (iI i)] (zP D dA vwCl (z_tys dA) wC nC b M)) (va_Qi (zQi wC (zms wC [2367, 2431]) M (fun z M1 => PR i z)) (zB D dA vwCl wC nC b) (zA nC b)) 0 0 (zA nC b) := by
  refine Met.ofW (cc := cX3_pairNumber) (maxL := 5) (ret := (some .int)) (by decide) rfl ?_
  intro p e s m args below meth c s₁ B hml hv
  obtain ⟨hargs, hR0, hJ, hK⟩ := hv
  have hx := B.exec
  have hb := B.bytes
  have hr := B.returns
  have hts := atoms_spec (ws := .code yX3_pairNumber cX3_pairNumber 5 (some .int) :: zt) B.pre
  have hown : s.vm.findClass RX3 = some m.cls := findClass_of_methodNamed B.named
  have hlocks := B.notSynchronized
  have hS : zS D dA vwCl wC nC b (zms wC [2367, 2431]) M M s.heap := ⟨hR0, hJ, zF_rf _ _⟩
  have hS0 : va_S (zA nC b) s.heap s.heap [] := va_S.rf
  have hl := lv_entry ([.ref (b + 82), .int (iI i)]) (n := 5) (Nat.le_of_ble_eq_true rfl)
  have hent : entryFrame m args 5 = F0 m 0 ((lg_sl ([.ref (b + 82), .int (iI i)]) ++ List.replicate (5 - (lg_sl ([.ref (b + 82), .int (iI i)])).length) Slot.unset).toArray) [] := by rw [hargs]; exact lg_entry_eq m ([.ref (b + 82), .int (iI i)]) 5
  rw [hent]
  generalize (lg_sl ([.ref (b + 82), .int (iI i)]) ++ List.replicate (5 - (lg_sl ([.ref (b + 82), .int (iI i)])).length) Slot.unset).toArray = ls at hl ⊢
  have hl : lv_has ls 5 [(0, .ref (b + 82)), (1, .int (iI i))] := hl
  refine z_iconst hx hb dX3_pairNumber_0 ?_
  refine lv_istore_n (lv' := [(2, .int (iI 0)), (0, .ref (b + 82)), (1, .int (iI i))]) hx hb dX3_pairNumber_1 rfl hl (by decide) rfl (fun ls hl => ?_)
  refine z_iconst hx hb dX3_pairNumber_2 ?_
  refine lv_istore_n (lv' := [(3, .int (iI 2)), (2, .int (iI 0)), (0, .ref (b + 82)), (1, .int (iI i))]) hx hb dX3_pairNumber_3 rfl hl (by decide) rfl (fun ls hl => ?_)
  have L5 : ∀ (n3 : Nat) (f1 : Int) (sm2 : Int) (M6 : zM) (H : Heap) (locs : List Loc) (ls : Array Slot), (2147483648 - sm2).toNat ≤ n3 → R32 f1 → R32 sm2 → (2 ≤ sm2 ∧ sm2 ≤ 49) → (f1 = PF (sm2 - 2).toNat) → (i < 0 ∨ f1 ≤ i) → (0 ≤ f1 ∧ f1 ≤ 300) → zS D dA vwCl wC nC b (zms wC [2367, 2431]) M M6 H → va_S (zA nC b) s.heap H locs → lv_has ls 5 [(0, .ref (b + 82)), (1, .int (iI i)), (2, .int (iI f1)), (3, .int (iI sm2))] → W p l e (headSpec (.code yX3_pairNumber cX3_pairNumber 5 (some .int) :: zt) (z_rm 3)).room s m args below meth c H locs 0 0 (MQ below (va_Qi (zQi wC (zms wC [2367, 2431]) M (fun z M1 => PR i z)) (zB D dA vwCl wC nC b) (zA nC b)) args s 0 0 (zA nC b)) (F0 m 4 ls []) := by
    intro n3
    induction n3 with
    | zero =>
      intro f1 sm2 M6 H locs ls hm r_f1 r_sm2 i7 i8 i9 i10 hS hS0 hl
      exfalso
      omega
    | succ n3 ih4 =>
      intro f1 sm2 M6 H locs ls hm r_f1 r_sm2 i7 i8 i9 i10 hS hS0 hl
      have J11 := hS.2.1
      have F12 := hS.2.2
      refine lv_iload_n hx hb dX3_pairNumber_4 rfl (lv_at hl 3 rfl) ?_
      refine z_bipush hx hb (by decide) dX3_pairNumber_5 ?_
      refine z_icmp_gt (tgt := 73) hx hb r_sm2 (by decide) dX3_pairNumber_7 (by decide) (fun c13 => ?_) (fun c13 => ?_)
      · skip
        refine z_iconst hx hb dX3_pairNumber_73 ?_
        exact z_iret hx hb hr hlocks hS hS0 (by decide) (Or.inr ⟨by have e9 : (sm2 - 2).toNat = 47 := (by omega); have h9 := i8; rw [e9] at h9; omega, rfl⟩) dX3_pairNumber_74
      · skip
        refine z_iconst hx hb dX3_pairNumber_10 ?_
        refine lv_iload_n hx hb dX3_pairNumber_11 rfl (lv_at hl 3 rfl) ?_
        refine z_bipush hx hb (by decide) dX3_pairNumber_12 ?_
        refine z_isub hx hb dX3_pairNumber_14 ?_
        refine z_mmax hx hb (hml.trans hl.1.symm) hown (hts _ (z_mem k778)) (hts _ (z_mem k341)) (hts _ (z_mem k15)) (hts _ (z_mem k342)) (by exact Nat.le_of_ble_eq_true rfl) (by exact Nat.le_of_ble_eq_true rfl) (by exact Nat.le_refl _) (by exact Nat.le_refl _) (by decide) ⟨by omega, by omega⟩ dX3_pairNumber_15 ?_
        obtain ⟨z14, q15⟩ : ∃ z14 : Int, z14 = (max 1 (sm2 - 24)) := ⟨_, rfl⟩
        rw [← q15]
        refine lv_istore (lv' := [(4, .int (iI z14)), (0, .ref (b + 82)), (1, .int (iI i)), (2, .int (iI f1)), (3, .int (iI sm2))]) hx hb dX3_pairNumber_18 hl (by decide) rfl (fun ls hl => ?_)
        have L20 : ∀ (n18 : Nat) (f16 : Int) (pp17 : Int) (M21 : zM) (H : Heap) (locs : List Loc) (ls : Array Slot), (2147483648 - pp17).toNat ≤ n18 → R32 f16 → R32 pp17 → (PL sm2 ≤ pp17) → (2 * pp17 ≤ sm2 + 2) → (f16 = PF (sm2 - 2).toNat + (pp17 - PL sm2)) → (i < 0 ∨ f16 ≤ i) → (1 ≤ pp17) → (0 ≤ f16 ∧ f16 ≤ 300 + pp17) → zS D dA vwCl wC nC b (zms wC [2367, 2431]) M M21 H → va_S (zA nC b) s.heap H locs → lv_has ls 5 [(0, .ref (b + 82)), (1, .int (iI i)), (2, .int (iI f16)), (3, .int (iI sm2)), (4, .int (iI pp17))] → W p l e (headSpec (.code yX3_pairNumber cX3_pairNumber 5 (some .int) :: zt) (z_rm 3)).room s m args below meth c H locs 0 0 (MQ below (va_Qi (zQi wC (zms wC [2367, 2431]) M (fun z M1 => PR i z)) (zB D dA vwCl wC nC b) (zA nC b)) args s 0 0 (zA nC b)) (F0 m 20 ls []) := by
          intro n18
          induction n18 with
          | zero =>
            intro f16 pp17 M21 H locs ls hm r_f16 r_pp17 i22 i23 i24 i25 i26 i27 hS hS0 hl
            exfalso
            omega
          | succ n18 ih19 =>
            intro f16 pp17 M21 H locs ls hm r_f16 r_pp17 i22 i23 i24 i25 i26 i27 hS hS0 hl
            have J28 := hS.2.1
            have F29 := hS.2.2
            refine lv_iload hx hb dX3_pairNumber_20 (lv_at hl 4 rfl) ?_
            refine lv_iload_n hx hb dX3_pairNumber_22 rfl (lv_at hl 3 rfl) ?_
            refine lv_iload hx hb dX3_pairNumber_23 (lv_at hl 4 rfl) ?_
            refine z_isub hx hb dX3_pairNumber_25 ?_
            refine z_icmp_gt (tgt := 67) hx hb r_pp17 ⟨by omega, by omega⟩ dX3_pairNumber_26 (by decide) (fun c30 => ?_) (fun c30 => ?_)
            · skip
              refine z_iinc (lv' := [(3, .int (iI (sm2 + 1))), (0, .ref (b + 82)), (1, .int (iI i)), (2, .int (iI f16)), (4, .int (iI pp17))]) hx hb dX3_pairNumber_67 hl (k := 3) rfl (by decide) rfl (fun ls hl => ?_)
              refine lv_goto (tgt := 4) hx hb dX3_pairNumber_70 (by decide) ?_
              exact ih4 f16 (sm2 + 1) M21 _ _ _ (by omega) r_f16 ⟨by omega, by omega⟩ (by omega) (by rw [PF_s _ (by omega) (by omega)]; omega) (by omega) (by have q9 := PF_b ((sm2 + 1) - 2).toNat (by omega); rw [PF_s _ (by omega) (by omega)] at q9; omega) hS hS0 (lv_sub hl [1, 2, 3, 0] rfl)
            · skip
              refine lv_aload_n hx hb dX3_pairNumber_29 rfl (lv_at hl 0 rfl) ?_
              refine lv_iload hx hb dX3_pairNumber_30 (lv_at hl 4 rfl) ?_
              refine lv_iload_n hx hb dX3_pairNumber_32 rfl (lv_at hl 3 rfl) ?_
              refine lv_iload hx hb dX3_pairNumber_33 (lv_at hl 4 rfl) ?_
              refine z_isub hx hb dX3_pairNumber_35 ?_
              refine z_calli (va_runV (As := [.int (iI pp17), .int (iI (sm2 - pp17))]) (rest := []) ⟨hx, hb, hml, hown, hts⟩ (n_pairFits l D dA b M21 pp17 (sm2 - pp17) r_pp17 ⟨by omega, by omega⟩ (by rw [F29 _ _ (zms_not (rfl : zcd wC 82 = 34) rfl), g0])) (cwV 2 hts (z_gV k779 k780 k1386 k11 k781) rfl rfl rfl dm_X3_pairFits ⟨Nat.le_of_ble_eq_true rfl, Nat.le_of_ble_eq_true rfl⟩) ⟨zP_blind, (z_recv hS hK.1 (by decide) (zkd_of (rfl : zcd wC 82 = 34) rfl) (by decide) (rfl : vwCl[3]? = some (RX3, TX3, 4))), z_pre hS hK⟩ rfl rfl hl.1 rfl (lv_room (Nat.le_of_ble_eq_true rfl)) dX3_pairNumber_36 ⟨Nat.le_refl _, Nat.le_refl _⟩) hS hS0 (zms_sub rfl) (fun z35 M31 H locs r36 h32 F33 hS hS0 => ?_)
              have J34 := hS.2.1
              have h37 := h32
              obtain ⟨z35e, h37⟩ := h37
              subst z35e
              refine z_if_eq (tgt := 61) hx hb (by decide) dX3_pairNumber_39 (by decide) (fun c38 => absurd c38 (by decide)) (fun c38 => ?_)
              refine lv_iload_n hx hb dX3_pairNumber_42 rfl (lv_at hl 2 rfl) ?_
              refine lv_iload_n hx hb dX3_pairNumber_43 rfl (lv_at hl 1 rfl) ?_
              refine z_icmp_ne (tgt := 58) hx hb r_f16 r_i dX3_pairNumber_44 (by decide) (fun c39 => ?_) (fun c39 => ?_)
              · skip
                refine z_iinc (lv' := [(2, .int (iI (f16 + 1))), (0, .ref (b + 82)), (1, .int (iI i)), (3, .int (iI sm2)), (4, .int (iI pp17))]) hx hb dX3_pairNumber_58 hl (k := 2) rfl (by decide) rfl (fun ls hl => ?_)
                refine z_iinc (lv' := [(4, .int (iI (pp17 + 1))), (2, .int (iI (f16 + 1))), (0, .ref (b + 82)), (1, .int (iI i)), (3, .int (iI sm2))]) hx hb dX3_pairNumber_61 hl (k := 4) rfl (by decide) rfl (fun ls hl => ?_)
                refine lv_goto (tgt := 20) hx hb dX3_pairNumber_64 (by decide) ?_
                exact ih19 (f16 + 1) (pp17 + 1) M31 _ _ _ (by omega) ⟨by omega, by omega⟩ ⟨by omega, by omega⟩ (by first | omega | (unfold PL; omega)) (by omega) (by first | omega | (unfold PL; omega)) (by omega) (by omega) (by omega) hS hS0 (lv_sub hl [2, 3, 1, 4, 0] rfl)
              · skip
                refine z_bipush hx hb (by decide) dX3_pairNumber_47 ?_
                refine lv_iload hx hb dX3_pairNumber_49 (lv_at hl 4 rfl) ?_
                refine z_imul hx hb dX3_pairNumber_51 ?_
                refine lv_iload_n hx hb dX3_pairNumber_52 rfl (lv_at hl 3 rfl) ?_
                refine z_iadd hx hb dX3_pairNumber_53 ?_
                refine lv_iload hx hb dX3_pairNumber_54 (lv_at hl 4 rfl) ?_
                refine z_isub hx hb dX3_pairNumber_56 ?_
                exact z_iret hx hb hr hlocks hS hS0 ⟨by omega, by omega⟩ (Or.inl ⟨sm2, pp17, by omega, by omega, by omega, by omega, by omega, by omega⟩) dX3_pairNumber_57
        exact L20 _ f1 z14 M6 _ _ _ (Nat.le_refl _) r_f1 ⟨by omega, by omega⟩ (by first | omega | (unfold PL; omega)) (by omega) (by first | omega | (unfold PL; omega)) (by omega) (by omega) (by omega) hS hS0 (lv_sub hl [1, 2, 3, 4, 0] rfl)
  exact L5 _ 0 2 M _ _ _ (Nat.le_refl _) (by decide) (by decide) (by omega) rfl (by omega) (by omega) hS hS0 (lv_sub hl [2, 3, 1, 0] rfl)
