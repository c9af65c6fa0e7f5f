theorem dX5_marksTrue_0 : decode cX5_marksTrue 0 = .ok (.iconst 0, 1) := by decide +kernel
theorem dX5_marksTrue_1 : decode cX5_marksTrue 1 = .ok (.istore_n 2, 1) := by decide +kernel
theorem dX5_marksTrue_2 : decode cX5_marksTrue 2 = .ok (.iconst 0, 1) := by decide +kernel
theorem dX5_marksTrue_3 : decode cX5_marksTrue 3 = .ok (.istore_n 3, 1) := by decide +kernel
theorem dX5_marksTrue_4 : decode cX5_marksTrue 4 = .ok (.iload_n 3, 1) := by decide +kernel
theorem dX5_marksTrue_43 : decode cX5_marksTrue 43 = .ok (.iload_n 2, 1) := by decide +kernel
theorem dX5_marksTrue_44 : decode cX5_marksTrue 44 = .ok (.ireturn, 1) := by decide +kernel
theorem dX5_marksTrue_5 : decode cX5_marksTrue 5 = .ok (.aload_n 0, 1) := by decide +kernel
theorem dX5_marksTrue_6 : decode cX5_marksTrue 6 = .ok (.getfield 18, 3) := by decide +kernel
theorem dX5_marksTrue_9 : decode cX5_marksTrue 9 = .ok (.if_icmp .ge 34, 3) := by decide +kernel

set_option maxHeartbeats 4000000 in
set_option maxRecDepth 100000 in
theorem n_marksTrue (l : Launch) (D : va_G) (dA : Nat → ClassId) (b : Nat) (M : zM) (g0 : M 60 2 = 0) : Met l yX5_marksTrue (.code yX5_marksTrue cX5_marksTrue 4 (some .int) :: zt) (z_rm 0) (va_Pc [.ref (b + 60), .ref (b + 32)] (zP D dA vwCl (z_tys dA) wC nC b M)) (va_Qi (zQi wC (zms wC []) M (fun z M1 => M1 = M ∧ (z = 0 ∧ True))) (zB D dA vwCl wC nC b) (zA nC b)) 0 0 (zA nC b) := by
  refine Met.ofW (cc := cX5_marksTrue) (maxL := 4) (ret := (some .int)) (by decide) rfl ?_
  intro p e s m args below meth c s₁ B hml hv
  obtain ⟨hargs, hR0, hJ, hK⟩ := hv
  have hx := B.exec
  have hb := B.bytes
  have hr := B.returns
  have hts := atoms_spec (ws := .code yX5_marksTrue cX5_marksTrue 4 (some .int) :: zt) B.pre
  have hown : s.vm.findClass RX5 = some m.cls := findClass_of_methodNamed B.named
  have hlocks := B.notSynchronized
  have hS : zS D dA vwCl wC nC b (zms wC []) M M s.heap := ⟨hR0, hJ, zF_rf _ _⟩
  have hS0 : va_S (zA nC b) s.heap s.heap [] := va_S.rf
  have hl := lv_entry ([.ref (b + 60), .ref (b + 32)]) (n := 4) (Nat.le_of_ble_eq_true rfl)
  have hent : entryFrame m args 4 = F0 m 0 ((lg_sl ([.ref (b + 60), .ref (b + 32)]) ++ List.replicate (4 - (lg_sl ([.ref (b + 60), .ref (b + 32)])).length) Slot.unset).toArray) [] := by rw [hargs]; exact lg_entry_eq m ([.ref (b + 60), .ref (b + 32)]) 4
  rw [hent]
  generalize (lg_sl ([.ref (b + 60), .ref (b + 32)]) ++ List.replicate (4 - (lg_sl ([.ref (b + 60), .ref (b + 32)])).length) Slot.unset).toArray = ls at hl ⊢
  have hl : lv_has ls 4 [(0, .ref (b + 60)), (1, .ref (b + 32))] := hl
  refine z_iconst hx hb dX5_marksTrue_0 ?_
  refine lv_istore_n (lv' := [(2, .int (iI 0)), (0, .ref (b + 60)), (1, .ref (b + 32))]) hx hb dX5_marksTrue_1 rfl hl (by decide) rfl (fun ls hl => ?_)
  refine z_iconst hx hb dX5_marksTrue_2 ?_
  refine lv_istore_n (lv' := [(3, .int (iI 0)), (2, .int (iI 0)), (0, .ref (b + 60)), (1, .ref (b + 32))]) hx hb dX5_marksTrue_3 rfl hl (by decide) rfl (fun ls hl => ?_)
  refine lv_iload_n hx hb dX5_marksTrue_4 rfl (lv_at hl 0 rfl) ?_
  refine lv_aload_n hx hb dX5_marksTrue_5 rfl (lv_at hl 2 rfl) ?_
  refine z_geti hx hb hts (z_memU u5) hown hK.1 hS f5_2 (by decide) (zkd_of (rfl : zcd wC 60 = 19) rfl) (Or.inl (hts _ (z_mem k145))) dX5_marksTrue_6 ?_
  refine z_top (show M 60 2 = 0 from by rw [g0]) ?_
  refine z_icmp_ge (tgt := 43) hx hb (by decide) (by decide) dX5_marksTrue_9 (by decide) (fun c1 => ?_) (fun c1 => absurd c1 (by decide))
  refine lv_iload_n hx hb dX5_marksTrue_43 rfl (lv_at hl 1 rfl) ?_
  exact z_iret hx hb hr hlocks hS hS0 (by decide) (⟨rfl, by first | exact trivial | exact ⟨rfl, trivial⟩ | omega | (refine ⟨by omega, trivial⟩)⟩) dX5_marksTrue_44
