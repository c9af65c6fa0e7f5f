/-- bits of SOUNDS alone -/
def SND (v : Int) : Prop := iI v &&& iI (-1023) = iI 0
theorem dX11_isMotor_0 : decode cX11_isMotor 0 = .ok (.iload_n 0, 1) := by decide +kernel
theorem dX11_isMotor_1 : decode cX11_isMotor 1 = .ok (.iconst 0, 1) := by decide +kernel
theorem dX11_isMotor_2 : decode cX11_isMotor 2 = .ok (.iconst 1, 1) := by decide +kernel
theorem dX11_isMotor_3 : decode cX11_isMotor 3 = .ok (.invokestatic 113, 3) := by decide +kernel
theorem dX11_isMotor_6 : decode cX11_isMotor 6 = .ok (.ireturn, 1) := by decide +kernel
theorem dX11_isSound_0 : decode cX11_isSound 0 = .ok (.iload_n 0, 1) := by decide +kernel
theorem dX11_isSound_1 : decode cX11_isSound 1 = .ok (.iconst 1, 1) := by decide +kernel
theorem dX11_isSound_2 : decode cX11_isSound 2 = .ok (.bipush 9, 2) := by decide +kernel
theorem dX11_isSound_4 : decode cX11_isSound 4 = .ok (.invokestatic 113, 3) := by decide +kernel
theorem dX11_isSound_7 : decode cX11_isSound 7 = .ok (.ireturn, 1) := by decide +kernel
theorem dX11_isSounds_0 : decode cX11_isSounds 0 = .ok (.iload_n 0, 1) := by decide +kernel
theorem dX11_isSounds_1 : decode cX11_isSounds 1 = .ok (.sipush (-1023), 3) := by decide +kernel
theorem dX11_isSounds_12 : decode cX11_isSounds 12 = .ok (.iconst 0, 1) := by decide +kernel
theorem dX11_isSounds_13 : decode cX11_isSounds 13 = .ok (.ireturn, 1) := by decide +kernel
theorem dX11_isSounds_4 : decode cX11_isSounds 4 = .ok (.iand, 1) := by decide +kernel
theorem dX11_isSounds_5 : decode cX11_isSounds 5 = .ok (.ifCond .ne 7, 3) := by decide +kernel
theorem dX11_isSounds_8 : decode cX11_isSounds 8 = .ok (.iconst 1, 1) := by decide +kernel
theorem dX11_isSounds_9 : decode cX11_isSounds 9 = .ok (.goto 4, 3) := by decide +kernel
theorem dX11_within_0 : decode cX11_within 0 = .ok (.iload_n 0, 1) := by decide +kernel
theorem dX11_within_1 : decode cX11_within 1 = .ok (.iload_n 1, 1) := by decide +kernel
theorem dX11_within_10 : decode cX11_within 10 = .ok (.iconst 1, 1) := by decide +kernel
theorem dX11_within_11 : decode cX11_within 11 = .ok (.goto 4, 3) := by decide +kernel
theorem dX11_within_14 : decode cX11_within 14 = .ok (.iconst 0, 1) := by decide +kernel
theorem dX11_within_15 : decode cX11_within 15 = .ok (.ireturn, 1) := by decide +kernel
theorem dX11_within_2 : decode cX11_within 2 = .ok (.if_icmp .lt 12, 3) := by decide +kernel
theorem dX11_within_5 : decode cX11_within 5 = .ok (.iload_n 0, 1) := by decide +kernel
theorem dX11_within_6 : decode cX11_within 6 = .ok (.iload_n 2, 1) := by decide +kernel
theorem dX11_within_7 : decode cX11_within 7 = .ok (.if_icmp .gt 7, 3) := by decide +kernel
theorem dX8_has_0 : decode cX8_has 0 = .ok (.iload_n 1, 1) := by decide +kernel
theorem dX8_has_1 : decode cX8_has 1 = .ok (.ifCond .lt 24, 3) := by decide +kernel
theorem dX8_has_12 : decode cX8_has 12 = .ok (.iload_n 1, 1) := by decide +kernel
theorem dX8_has_13 : decode cX8_has 13 = .ok (.aload_n 0, 1) := by decide +kernel
theorem dX8_has_14 : decode cX8_has 14 = .ok (.getfield 9, 3) := by decide +kernel
theorem dX8_has_17 : decode cX8_has 17 = .ok (.arraylength, 1) := by decide +kernel
theorem dX8_has_18 : decode cX8_has 18 = .ok (.if_icmp .ge 7, 3) := by decide +kernel
theorem dX8_has_21 : decode cX8_has 21 = .ok (.iconst 1, 1) := by decide +kernel
theorem dX8_has_22 : decode cX8_has 22 = .ok (.goto 4, 3) := by decide +kernel
theorem dX8_has_25 : decode cX8_has 25 = .ok (.iconst 0, 1) := by decide +kernel
theorem dX8_has_26 : decode cX8_has 26 = .ok (.ireturn, 1) := by decide +kernel
theorem dX8_has_4 : decode cX8_has 4 = .ok (.iload_n 1, 1) := by decide +kernel
theorem dX8_has_5 : decode cX8_has 5 = .ok (.aload_n 0, 1) := by decide +kernel
theorem dX8_has_6 : decode cX8_has 6 = .ok (.getfield 15, 3) := by decide +kernel
theorem dX8_has_9 : decode cX8_has 9 = .ok (.if_icmp .ge 16, 3) := by decide +kernel
theorem dm_X11_within : yX11_within.cls = RX11 ∧ yX11_within.cls ≠ "java/lang/invoke/MethodHandle" ∧ yX11_within.cls ≠ "java/lang/invoke/VarHandle" ∧ (parseMethodDescriptor yX11_within.desc).map (fun d => d.parameters.length) = some 3 := by decide +kernel
set_option maxHeartbeats 4000000 in
set_option maxRecDepth 100000 in
theorem c_within (l : Launch) (D : va_G) (dA : Nat → ClassId) (b : Nat) (M : zM) (v : Int) (lo : Int) (hi : Int) (r_v : R32 v) (r_lo : R32 lo) (r_hi : R32 hi) : Met l yX11_within (.code yX11_within cX11_within 3 (some .boolean) :: zt) (z_rm 0) (va_Pc [.int (iI v), .int (iI lo), .int (iI hi)] (zP D dA vwCl (z_tys dA) wC nC b M)) (va_Qi (zQi wC (zms wC []) M (fun z M1 => M1 = M ∧ ((z = 1 ∧ lo ≤ v ∧ v ≤ hi) ∨ (z = 0 ∧ (v < lo ∨ hi < v))))) (zB D dA vwCl wC nC b) (zA nC b)) 0 0 (zA nC b) := by
  refine Met.ofW (cc := cX11_within) (maxL := 3) (ret := (some .boolean)) (by decide) rfl ?_
  intro p e s m args below meth c s₁ B hml hv
  obtain ⟨hargs, hR0, hJ, hK⟩ := hv
  have hx := B.exec
  have hb := B.bytes
  have hr := B.returns
  have hts := atoms_spec (ws := .code yX11_within cX11_within 3 (some .boolean) :: zt) B.pre
  have hown : s.vm.findClass RX11 = some m.cls := findClass_of_methodNamed B.named
  have hlocks := B.notSynchronized
  have hS : zS D dA vwCl wC nC b (zms wC []) M M s.heap := ⟨hR0, hJ, zF_rf _ _⟩
  have hS0 : va_S (zA nC b) s.heap s.heap [] := va_S.rf
  have hl := lv_entry ([.int (iI v), .int (iI lo), .int (iI hi)]) (n := 3) (Nat.le_of_ble_eq_true rfl)
  have hent : entryFrame m args 3 = F0 m 0 ((lg_sl ([.int (iI v), .int (iI lo), .int (iI hi)]) ++ List.replicate (3 - (lg_sl ([.int (iI v), .int (iI lo), .int (iI hi)])).length) Slot.unset).toArray) [] := by rw [hargs]; exact lg_entry_eq m ([.int (iI v), .int (iI lo), .int (iI hi)]) 3
  rw [hent]
  generalize (lg_sl ([.int (iI v), .int (iI lo), .int (iI hi)]) ++ List.replicate (3 - (lg_sl ([.int (iI v), .int (iI lo), .int (iI hi)])).length) Slot.unset).toArray = ls at hl ⊢
  have hl : lv_has ls 3 [(0, .int (iI v)), (1, .int (iI lo)), (2, .int (iI hi))] := hl
  refine lv_iload_n hx hb dX11_within_0 rfl (lv_at hl 0 rfl) ?_
  refine lv_iload_n hx hb dX11_within_1 rfl (lv_at hl 1 rfl) ?_
  refine z_icmp_lt (tgt := 14) hx hb r_v r_lo dX11_within_2 (by decide) (fun c1 => ?_) (fun c1 => ?_)
  · skip
    refine z_iconst hx hb dX11_within_14 ?_
    exact z_zret hx hb hr hlocks hS hS0 (by first | decide | omega) (⟨rfl, by first | exact trivial | exact ⟨rfl, trivial⟩ | omega | (refine ⟨by omega, trivial⟩)⟩) dX11_within_15
  · skip
    refine lv_iload_n hx hb dX11_within_5 rfl (lv_at hl 0 rfl) ?_
    refine lv_iload_n hx hb dX11_within_6 rfl (lv_at hl 2 rfl) ?_
    refine z_icmp_gt (tgt := 14) hx hb r_v r_hi dX11_within_7 (by decide) (fun c2 => ?_) (fun c2 => ?_)
    · skip
      refine z_iconst hx hb dX11_within_14 ?_
      exact z_zret hx hb hr hlocks hS hS0 (by first | decide | omega) (⟨rfl, by first | exact trivial | exact ⟨rfl, trivial⟩ | omega | (refine ⟨by omega, trivial⟩)⟩) dX11_within_15
    · skip
      refine z_iconst hx hb dX11_within_10 ?_
      refine lv_goto (tgt := 15) hx hb dX11_within_11 (by decide) ?_
      exact z_zret hx hb hr hlocks hS hS0 (by first | decide | omega) (⟨rfl, by first | exact trivial | exact ⟨rfl, trivial⟩ | omega | (refine ⟨by omega, trivial⟩)⟩) dX11_within_15

set_option maxHeartbeats 4000000 in
set_option maxRecDepth 100000 in
theorem c_isMotor (l : Launch) (D : va_G) (dA : Nat → ClassId) (b : Nat) (M : zM) (v : Int) (r_v : R32 v) : Met l yX11_isMotor (.code yX11_isMotor cX11_isMotor 1 (some .boolean) :: zt) (z_rm 1) (va_Pc [.int (iI v)] (zP D dA vwCl (z_tys dA) wC nC b M)) (va_Qi (zQi wC (zms wC []) M (fun z M1 => M1 = M ∧ ((z = 1 ∧ 0 ≤ v ∧ v ≤ 1) ∨ (z = 0 ∧ (v < 0 ∨ 1 < v))))) (zB D dA vwCl wC nC b) (zA nC b)) 0 0 (zA nC b) := by
  refine Met.ofW (cc := cX11_isMotor) (maxL := 1) (ret := (some .boolean)) (by decide) rfl ?_
  intro p e s m args below meth c s₁ B hml hv
  obtain ⟨hargs, hR0, hJ, hK⟩ := hv
  have hx := B.exec
  have hb := B.bytes
  have hr := B.returns
  have hts := atoms_spec (ws := .code yX11_isMotor cX11_isMotor 1 (some .boolean) :: zt) B.pre
  have hown : s.vm.findClass RX11 = some m.cls := findClass_of_methodNamed B.named
  have hlocks := B.notSynchronized
  have hS : zS D dA vwCl wC nC b (zms wC []) M M s.heap := ⟨hR0, hJ, zF_rf _ _⟩
  have hS0 : va_S (zA nC b) s.heap s.heap [] := va_S.rf
  have hl := lv_entry ([.int (iI v)]) (n := 1) (Nat.le_of_ble_eq_true rfl)
  have hent : entryFrame m args 1 = F0 m 0 ((lg_sl ([.int (iI v)]) ++ List.replicate (1 - (lg_sl ([.int (iI v)])).length) Slot.unset).toArray) [] := by rw [hargs]; exact lg_entry_eq m ([.int (iI v)]) 1
  rw [hent]
  generalize (lg_sl ([.int (iI v)]) ++ List.replicate (1 - (lg_sl ([.int (iI v)])).length) Slot.unset).toArray = ls at hl ⊢
  have hl : lv_has ls 1 [(0, .int (iI v))] := hl
  refine lv_iload_n hx hb dX11_isMotor_0 rfl (lv_at hl 0 rfl) ?_
  refine z_iconst hx hb dX11_isMotor_1 ?_
  refine z_iconst hx hb dX11_isMotor_2 ?_
  refine z_calli (va_runS (As := [.int (iI v), .int (iI 0), .int (iI 1)]) (rest := []) ⟨hx, hb, hml, hown, hts⟩ (c_within l D dA b M v 0 1 r_v (by decide) (by decide)) (va_cwS 3 hts (z_gS k382 k383 k1 k384) rfl rfl rfl dm_X11_within.2 ⟨Nat.le_of_ble_eq_true rfl, Nat.le_of_ble_eq_true rfl⟩) ⟨zP_blind, z_pre hS hK⟩ rfl rfl hl.1 rfl (lv_room (Nat.le_of_ble_eq_true rfl)) dX11_isMotor_3 ⟨Nat.le_refl _, Nat.le_refl _⟩) hS hS0 (zms_sub rfl) (fun z5 M1 H locs r6 h2 F3 hS hS0 => ?_)
  obtain ⟨h7, h2⟩ := h2
  rw [h7] at hS
  rcases h2 with h8 | h9
  · skip
    obtain ⟨z5e, h8⟩ := h8
    subst z5e
    exact z_zret hx hb hr hlocks hS hS0 (by first | decide | omega) (⟨rfl, by first | exact trivial | exact ⟨rfl, trivial⟩ | omega | (refine ⟨by omega, trivial⟩)⟩) dX11_isMotor_6
  · skip
    obtain ⟨z5e, h9⟩ := h9
    subst z5e
    exact z_zret hx hb hr hlocks hS hS0 (by first | decide | omega) (⟨rfl, by first | exact trivial | exact ⟨rfl, trivial⟩ | omega | (refine ⟨by omega, trivial⟩)⟩) dX11_isMotor_6

set_option maxHeartbeats 4000000 in
set_option maxRecDepth 100000 in
theorem c_isSound (l : Launch) (D : va_G) (dA : Nat → ClassId) (b : Nat) (M : zM) (v : Int) (r_v : R32 v) : Met l yX11_isSound (.code yX11_isSound cX11_isSound 1 (some .boolean) :: zt) (z_rm 1) (va_Pc [.int (iI v)] (zP D dA vwCl (z_tys dA) wC nC b M)) (va_Qi (zQi wC (zms wC []) M (fun z M1 => M1 = M ∧ ((z = 1 ∧ 1 ≤ v ∧ v ≤ 9) ∨ (z = 0 ∧ (v < 1 ∨ 9 < v))))) (zB D dA vwCl wC nC b) (zA nC b)) 0 0 (zA nC b) := by
  refine Met.ofW (cc := cX11_isSound) (maxL := 1) (ret := (some .boolean)) (by decide) rfl ?_
  intro p e s m args below meth c s₁ B hml hv
  obtain ⟨hargs, hR0, hJ, hK⟩ := hv
  have hx := B.exec
  have hb := B.bytes
  have hr := B.returns
  have hts := atoms_spec (ws := .code yX11_isSound cX11_isSound 1 (some .boolean) :: zt) B.pre
  have hown : s.vm.findClass RX11 = some m.cls := findClass_of_methodNamed B.named
  have hlocks := B.notSynchronized
  have hS : zS D dA vwCl wC nC b (zms wC []) M M s.heap := ⟨hR0, hJ, zF_rf _ _⟩
  have hS0 : va_S (zA nC b) s.heap s.heap [] := va_S.rf
  have hl := lv_entry ([.int (iI v)]) (n := 1) (Nat.le_of_ble_eq_true rfl)
  have hent : entryFrame m args 1 = F0 m 0 ((lg_sl ([.int (iI v)]) ++ List.replicate (1 - (lg_sl ([.int (iI v)])).length) Slot.unset).toArray) [] := by rw [hargs]; exact lg_entry_eq m ([.int (iI v)]) 1
  rw [hent]
  generalize (lg_sl ([.int (iI v)]) ++ List.replicate (1 - (lg_sl ([.int (iI v)])).length) Slot.unset).toArray = ls at hl ⊢
  have hl : lv_has ls 1 [(0, .int (iI v))] := hl
  refine lv_iload_n hx hb dX11_isSound_0 rfl (lv_at hl 0 rfl) ?_
  refine z_iconst hx hb dX11_isSound_1 ?_
  refine z_bipush hx hb (by decide) dX11_isSound_2 ?_
  refine z_calli (va_runS (As := [.int (iI v), .int (iI 1), .int (iI 9)]) (rest := []) ⟨hx, hb, hml, hown, hts⟩ (c_within l D dA b M v 1 9 r_v (by decide) (by decide)) (va_cwS 3 hts (z_gS k382 k383 k1 k384) rfl rfl rfl dm_X11_within.2 ⟨Nat.le_of_ble_eq_true rfl, Nat.le_of_ble_eq_true rfl⟩) ⟨zP_blind, z_pre hS hK⟩ rfl rfl hl.1 rfl (lv_room (Nat.le_of_ble_eq_true rfl)) dX11_isSound_4 ⟨Nat.le_refl _, Nat.le_refl _⟩) hS hS0 (zms_sub rfl) (fun z5 M1 H locs r6 h2 F3 hS hS0 => ?_)
  obtain ⟨h7, h2⟩ := h2
  rw [h7] at hS
  rcases h2 with h8 | h9
  · skip
    obtain ⟨z5e, h8⟩ := h8
    subst z5e
    exact z_zret hx hb hr hlocks hS hS0 (by first | decide | omega) (⟨rfl, by first | exact trivial | exact ⟨rfl, trivial⟩ | omega | (refine ⟨by omega, trivial⟩)⟩) dX11_isSound_7
  · skip
    obtain ⟨z5e, h9⟩ := h9
    subst z5e
    exact z_zret hx hb hr hlocks hS hS0 (by first | decide | omega) (⟨rfl, by first | exact trivial | exact ⟨rfl, trivial⟩ | omega | (refine ⟨by omega, trivial⟩)⟩) dX11_isSound_7

set_option maxHeartbeats 4000000 in
set_option maxRecDepth 100000 in
theorem c_isSounds (l : Launch) (D : va_G) (dA : Nat → ClassId) (b : Nat) (M : zM) (v : Int) (r_v : R32 v) : Met l yX11_isSounds (.code yX11_isSounds cX11_isSounds 1 (some .boolean) :: zt) (z_rm 0) (va_Pc [.int (iI v)] (zP D dA vwCl (z_tys dA) wC nC b M)) (va_Qi (zQi wC (zms wC []) M (fun z M1 => M1 = M ∧ ((z = 1 ∧ SND v) ∨ (z = 0 ∧ ¬ SND v)))) (zB D dA vwCl wC nC b) (zA nC b)) 0 0 (zA nC b) := by
  refine Met.ofW (cc := cX11_isSounds) (maxL := 1) (ret := (some .boolean)) (by decide) rfl ?_
  intro p e s m args below meth c s₁ B hml hv
  obtain ⟨hargs, hR0, hJ, hK⟩ := hv
  have hx := B.exec
  have hb := B.bytes
  have hr := B.returns
  have hts := atoms_spec (ws := .code yX11_isSounds cX11_isSounds 1 (some .boolean) :: zt) B.pre
  have hown : s.vm.findClass RX11 = some m.cls := findClass_of_methodNamed B.named
  have hlocks := B.notSynchronized
  have hS : zS D dA vwCl wC nC b (zms wC []) M M s.heap := ⟨hR0, hJ, zF_rf _ _⟩
  have hS0 : va_S (zA nC b) s.heap s.heap [] := va_S.rf
  have hl := lv_entry ([.int (iI v)]) (n := 1) (Nat.le_of_ble_eq_true rfl)
  have hent : entryFrame m args 1 = F0 m 0 ((lg_sl ([.int (iI v)]) ++ List.replicate (1 - (lg_sl ([.int (iI v)])).length) Slot.unset).toArray) [] := by rw [hargs]; exact lg_entry_eq m ([.int (iI v)]) 1
  rw [hent]
  generalize (lg_sl ([.int (iI v)]) ++ List.replicate (1 - (lg_sl ([.int (iI v)])).length) Slot.unset).toArray = ls at hl ⊢
  have hl : lv_has ls 1 [(0, .int (iI v))] := hl
  refine lv_iload_n hx hb dX11_isSounds_0 rfl (lv_at hl 0 rfl) ?_
  refine z_sipush hx hb (by decide) dX11_isSounds_1 ?_
  refine z_iand hx hb dX11_isSounds_4 (fun z1 r2 e3 => ?_)
  refine z_if_ne (tgt := 12) hx hb r2 dX11_isSounds_5 (by decide) (fun c4 => ?_) (fun c4 => ?_)
  · skip
    refine z_iconst hx hb dX11_isSounds_12 ?_
    exact z_zret hx hb hr hlocks hS hS0 (by first | decide | omega) (⟨rfl, Or.inr ⟨rfl, fun h9 => c4 (iI_inj r2 (by decide) (e3.trans h9))⟩⟩) dX11_isSounds_13
  · skip
    refine z_iconst hx hb dX11_isSounds_8 ?_
    refine lv_goto (tgt := 13) hx hb dX11_isSounds_9 (by decide) ?_
    exact z_zret hx hb hr hlocks hS hS0 (by first | decide | omega) (⟨rfl, Or.inl ⟨rfl, e3.symm.trans (by rw [c4])⟩⟩) dX11_isSounds_13

set_option maxHeartbeats 4000000 in
set_option maxRecDepth 100000 in
theorem n_has (l : Launch) (D : va_G) (dA : Nat → ClassId) (b : Nat) (M : zM) (i : Int) (r_i : R32 i) (g0 : M 30 1 = 0) : Met l yX8_has (.code yX8_has cX8_has 2 (some .boolean) :: zt) (z_rm 0) (va_Pc [.ref (b + 30), .int (iI i)] (zP D dA vwCl (z_tys dA) wC nC b M)) (va_Qi (zQi wC (zms wC []) M (fun z M1 => M1 = M ∧ (z = 0 ∧ True))) (zB D dA vwCl wC nC b) (zA nC b)) 0 0 (zA nC b) := by
  refine Met.ofW (cc := cX8_has) (maxL := 2) (ret := (some .boolean)) (by decide) rfl ?_
  intro p e s m args below meth c s₁ B hml hv
  obtain ⟨hargs, hR0, hJ, hK⟩ := hv
  have hx := B.exec
  have hb := B.bytes
  have hr := B.returns
  have hts := atoms_spec (ws := .code yX8_has cX8_has 2 (some .boolean) :: zt) B.pre
  have hown : s.vm.findClass RX8 = some m.cls := findClass_of_methodNamed B.named
  have hlocks := B.notSynchronized
  have hS : zS D dA vwCl wC nC b (zms wC []) M M s.heap := ⟨hR0, hJ, zF_rf _ _⟩
  have hS0 : va_S (zA nC b) s.heap s.heap [] := va_S.rf
  have hl := lv_entry ([.ref (b + 30), .int (iI i)]) (n := 2) (Nat.le_of_ble_eq_true rfl)
  have hent : entryFrame m args 2 = F0 m 0 ((lg_sl ([.ref (b + 30), .int (iI i)]) ++ List.replicate (2 - (lg_sl ([.ref (b + 30), .int (iI i)])).length) Slot.unset).toArray) [] := by rw [hargs]; exact lg_entry_eq m ([.ref (b + 30), .int (iI i)]) 2
  rw [hent]
  generalize (lg_sl ([.ref (b + 30), .int (iI i)]) ++ List.replicate (2 - (lg_sl ([.ref (b + 30), .int (iI i)])).length) Slot.unset).toArray = ls at hl ⊢
  have hl : lv_has ls 2 [(0, .ref (b + 30)), (1, .int (iI i))] := hl
  refine lv_iload_n hx hb dX8_has_0 rfl (lv_at hl 1 rfl) ?_
  refine z_if_lt (tgt := 25) hx hb r_i dX8_has_1 (by decide) (fun c1 => ?_) (fun c1 => ?_)
  · skip
    refine z_iconst hx hb dX8_has_25 ?_
    exact z_zret hx hb hr hlocks hS hS0 (by first | decide | omega) (⟨rfl, by first | exact trivial | exact ⟨rfl, trivial⟩ | omega | (refine ⟨by omega, trivial⟩)⟩) dX8_has_26
  · skip
    refine lv_iload_n hx hb dX8_has_4 rfl (lv_at hl 1 rfl) ?_
    refine lv_aload_n hx hb dX8_has_5 rfl (lv_at hl 0 rfl) ?_
    refine z_geti hx hb hts (z_memU u8) hown hK.1 hS f8_1 (by decide) (zkd_of (rfl : zcd wC 30 = 6) rfl) (Or.inl (hts _ (z_mem k44))) dX8_has_6 ?_
    refine z_top (show M 30 1 = 0 from by rw [g0]) ?_
    refine z_icmp_ge (tgt := 25) hx hb r_i (by decide) dX8_has_9 (by decide) (fun c2 => ?_) (fun c2 => absurd c2 (by omega))
    refine z_iconst hx hb dX8_has_25 ?_
    exact z_zret hx hb hr hlocks hS hS0 (by first | decide | omega) (⟨rfl, by first | exact trivial | exact ⟨rfl, trivial⟩ | omega | (refine ⟨by omega, trivial⟩)⟩) dX8_has_26

set_option maxHeartbeats 4000000 in
set_option maxRecDepth 100000 in
theorem c_has (l : Launch) (D : va_G) (dA : Nat → ClassId) (b : Nat) (M : zM) (j : Nat) (i : Int) (lt_j : j < nC) (cd_j : zcd wC j = 6) (r_i : R32 i) : Met l yX8_has (.code yX8_has cX8_has 2 (some .boolean) :: zt) (z_rm 0) (va_Pc [.ref (b + j), .int (iI i)] (zP D dA vwCl (z_tys dA) wC nC b M)) (va_Qi (zQi wC (zms wC []) M (fun z M1 => M1 = M ∧ ((z = 1 ∧ 0 ≤ i ∧ i < M j 1 ∧ i < 24) ∨ (z = 0 ∧ (i < 0 ∨ M j 1 ≤ i ∨ 24 ≤ i))))) (zB D dA vwCl wC nC b) (zA nC b)) 0 0 (zA nC b) := by
  refine Met.ofW (cc := cX8_has) (maxL := 2) (ret := (some .boolean)) (by decide) rfl ?_
  intro p e s m args below meth c s₁ B hml hv
  obtain ⟨hargs, hR0, hJ, hK⟩ := hv
  have hx := B.exec
  have hb := B.bytes
  have hr := B.returns
  have hts := atoms_spec (ws := .code yX8_has cX8_has 2 (some .boolean) :: zt) B.pre
  have hown : s.vm.findClass RX8 = some m.cls := findClass_of_methodNamed B.named
  have hlocks := B.notSynchronized
  have hS : zS D dA vwCl wC nC b (zms wC []) M M s.heap := ⟨hR0, hJ, zF_rf _ _⟩
  have hS0 : va_S (zA nC b) s.heap s.heap [] := va_S.rf
  have hl := lv_entry ([.ref (b + j), .int (iI i)]) (n := 2) (Nat.le_of_ble_eq_true rfl)
  have hent : entryFrame m args 2 = F0 m 0 ((lg_sl ([.ref (b + j), .int (iI i)]) ++ List.replicate (2 - (lg_sl ([.ref (b + j), .int (iI i)])).length) Slot.unset).toArray) [] := by rw [hargs]; exact lg_entry_eq m ([.ref (b + j), .int (iI i)]) 2
  rw [hent]
  generalize (lg_sl ([.ref (b + j), .int (iI i)]) ++ List.replicate (2 - (lg_sl ([.ref (b + j), .int (iI i)])).length) Slot.unset).toArray = ls at hl ⊢
  have hl : lv_has ls 2 [(0, .ref (b + j)), (1, .int (iI i))] := hl
  obtain ⟨lt1, cd2⟩ := nx_strip j lt_j cd_j
  refine lv_iload_n hx hb dX8_has_0 rfl (lv_at hl 1 rfl) ?_
  refine z_if_lt (tgt := 25) hx hb r_i dX8_has_1 (by decide) (fun c3 => ?_) (fun c3 => ?_)
  · skip
    refine z_iconst hx hb dX8_has_25 ?_
    exact z_zret hx hb hr hlocks hS hS0 (by first | decide | omega) (⟨rfl, by first | exact trivial | exact ⟨rfl, trivial⟩ | omega | (refine ⟨by omega, trivial⟩)⟩) dX8_has_26
  · skip
    refine lv_iload_n hx hb dX8_has_4 rfl (lv_at hl 1 rfl) ?_
    refine lv_aload_n hx hb dX8_has_5 rfl (lv_at hl 0 rfl) ?_
    refine z_geti hx hb hts (z_memU u8) hown hK.1 hS f8_1 lt_j (zkd_of cd_j rfl) (Or.inl (hts _ (z_mem k44))) dX8_has_6 ?_
    have q4 : (0 : Int) ≤ M j 1 ∧ M j 1 ≤ 24 := zJ_at hJ cd_j rfl
    refine z_icmp_ge (tgt := 25) hx hb r_i (r32b q4 (by decide) (by decide)) dX8_has_9 (by decide) (fun c5 => ?_) (fun c5 => ?_)
    · skip
      refine z_iconst hx hb dX8_has_25 ?_
      exact z_zret hx hb hr hlocks hS hS0 (by first | decide | omega) (⟨rfl, by first | exact trivial | exact ⟨rfl, trivial⟩ | omega | (refine ⟨by omega, trivial⟩)⟩) dX8_has_26
    · skip
      refine lv_iload_n hx hb dX8_has_12 rfl (lv_at hl 1 rfl) ?_
      refine lv_aload_n hx hb dX8_has_13 rfl (lv_at hl 0 rfl) ?_
      refine z_getr (j2 := (j + 1)) hx hb hts (z_memU u8) hown hK.1 hS f8_0 lt_j (zkd_of cd_j rfl) (zrf_of cd_j rfl) (Or.inl (hts _ (z_mem k41))) dX8_has_14 ?_
      refine z_alen (n := 24) hx hb hK.1 (t0 := 0) rfl hS lt1 (zkd_of cd2 rfl) (zln_of cd2 rfl) dX8_has_17 ?_
      refine z_top (show (((24 : Nat) : Int)) = 24 from by decide) ?_
      refine z_icmp_ge (tgt := 25) hx hb r_i (by decide) dX8_has_18 (by decide) (fun c6 => absurd c6 (by omega)) (fun c6 => ?_)
      refine z_iconst hx hb dX8_has_21 ?_
      refine lv_goto (tgt := 26) hx hb dX8_has_22 (by decide) ?_
      exact z_zret hx hb hr hlocks hS hS0 (by first | decide | omega) (⟨rfl, by first | exact trivial | exact ⟨rfl, trivial⟩ | omega | (refine ⟨by omega, trivial⟩)⟩) dX8_has_26
