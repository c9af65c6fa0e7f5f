

set_option maxHeartbeats 4000000 in
set_option maxRecDepth 100000 in
theorem n_fill84 (l : Launch) (D : va_G) (dA : Nat → ClassId) (b : Nat) (M : zM) (v : Int) (r_v : R32 v) : Met l yJ7_fill_53178 (.code yJ7_fill_53178 cJ7_fill_53178 4 none :: zt) (z_rm 0) (va_Pc [.ref (b + 84), .int (iI v)] (zP D dA vwCl (z_tys dA) wC nC b M)) (va_Qv (zQv wC (zms wC [2367]) M (fun M1 => True)) (zB D dA vwCl wC nC b) (zA nC b)) 0 0 (zA nC b) := by
  refine Met.ofW (cc := cJ7_fill_53178) (maxL := 4) (ret := none) (by decide) rfl ?_
  intro p e s m args below meth c s₁ B hml hv
  obtain ⟨hargs, hR0, hJ, hK⟩ := hv
  have hx := B.exec
  have hb := B.bytes
  have hr := B.returns
  have hts := atoms_spec (ws := .code yJ7_fill_53178 cJ7_fill_53178 4 none :: zt) B.pre
  have hown : s.vm.findClass RJ7 = some m.cls := findClass_of_methodNamed B.named
  have hlocks := B.notSynchronized
  have hS : zS D dA vwCl wC nC b (zms wC [2367]) M M s.heap := ⟨hR0, hJ, zF_rf _ _⟩
  have hS0 : va_S (zA nC b) s.heap s.heap [] := va_S.rf
  have hl := lv_entry ([.ref (b + 84), .int (iI v)]) (n := 4) (Nat.le_of_ble_eq_true rfl)
  have hent : entryFrame m args 4 = F0 m 0 ((lg_sl ([.ref (b + 84), .int (iI v)]) ++ List.replicate (4 - (lg_sl ([.ref (b + 84), .int (iI v)])).length) Slot.unset).toArray) [] := by rw [hargs]; exact lg_entry_eq m ([.ref (b + 84), .int (iI v)]) 4
  rw [hent]
  generalize (lg_sl ([.ref (b + 84), .int (iI v)]) ++ List.replicate (4 - (lg_sl ([.ref (b + 84), .int (iI v)])).length) Slot.unset).toArray = ls at hl ⊢
  have hl : lv_has ls 4 [(0, .ref (b + 84)), (1, .int (iI v))] := hl
  refine z_iconst hx hb dJ7_fill_53178_0 ?_
  refine lv_istore_n (lv' := [(2, .int (iI 0)), (0, .ref (b + 84)), (1, .int (iI v))]) hx hb dJ7_fill_53178_1 rfl hl (by decide) rfl (fun ls hl => ?_)
  refine lv_aload_n hx hb dJ7_fill_53178_2 rfl (lv_at hl 1 rfl) ?_
  refine z_alen (n := 24) hx hb hK.1 (t0 := 0) rfl hS (by decide) (zkd_of (rfl : zcd wC 84 = 36) rfl) (zln_of (rfl : zcd wC 84 = 36) rfl) dJ7_fill_53178_3 ?_
  refine z_top (show (((24 : Nat) : Int)) = 24 from by decide) ?_
  refine lv_istore_n (lv' := [(3, .int (iI 24)), (2, .int (iI 0)), (0, .ref (b + 84)), (1, .int (iI v))]) hx hb dJ7_fill_53178_4 rfl hl (by decide) rfl (fun ls hl => ?_)
  have L4 : ∀ (n2 : Nat) (i1 : Int) (M5 : zM) (H : Heap) (locs : List Loc) (ls : Array Slot), (2147483648 - i1).toNat ≤ n2 → R32 i1 → (0 ≤ i1) → zS D dA vwCl wC nC b (zms wC [2367]) M M5 H → va_S (zA nC b) s.heap H locs → lv_has ls 4 [(0, .ref (b + 84)), (1, .int (iI v)), (2, .int (iI i1)), (3, .int (iI 24))] → W p l e (headSpec (.code yJ7_fill_53178 cJ7_fill_53178 4 none :: zt) (z_rm 0)).room s m args below meth c H locs 0 0 (MQ below (va_Qv (zQv wC (zms wC [2367]) M (fun M1 => True)) (zB D dA vwCl wC nC b) (zA nC b)) args s 0 0 (zA nC b)) (F0 m 5 ls []) := by
    intro n2
    induction n2 with
    | zero =>
      intro i1 M5 H locs ls hm r_i1 i6 hS hS0 hl
      exfalso
      omega
    | succ n2 ih3 =>
      intro i1 M5 H locs ls hm r_i1 i6 hS hS0 hl
      have J7 := hS.2.1
      have F8 := hS.2.2
      refine lv_iload_n hx hb dJ7_fill_53178_5 rfl (lv_at hl 2 rfl) ?_
      refine lv_iload_n hx hb dJ7_fill_53178_6 rfl (lv_at hl 3 rfl) ?_
      refine z_icmp_ge (tgt := 20) hx hb r_i1 (by decide) dJ7_fill_53178_7 (by decide) (fun c9 => ?_) (fun c9 => ?_)
      · skip
        exact z_vret hx hb hr hlocks hS hS0 (by first | exact trivial | exact ⟨rfl, trivial⟩ | omega | (refine ⟨by omega, trivial⟩)) dJ7_fill_53178_20
      · skip
        refine lv_aload_n hx hb dJ7_fill_53178_10 rfl (lv_at hl 0 rfl) ?_
        refine lv_iload_n hx hb dJ7_fill_53178_11 rfl (lv_at hl 2 rfl) ?_
        refine lv_iload_n hx hb dJ7_fill_53178_12 rfl (lv_at hl 1 rfl) ?_
        refine z_iast (n := 24) hx hb hK.1 (t0 := 0) rfl hS hS0 (by decide) (zkd_of (rfl : zcd wC 84 = 36) rfl) (zln_of (rfl : zcd wC 84 = 36) rfl) (by omega) (by omega) (by decide) (zbd_in (rfl : zcd wC 84 = 36) rfl r_v) (zms_of (rfl : zcd wC 84 = 36) rfl) dJ7_fill_53178_13 (fun H locs hS hS0 => ?_)
        obtain ⟨M10, e11⟩ : ∃ M10 : zM, M10 = zup M5 84 (i1.toNat) v := ⟨_, rfl⟩
        rw [← e11] at hS
        have J12 := hS.2.1
        refine z_iinc (lv' := [(2, .int (iI (i1 + 1))), (0, .ref (b + 84)), (1, .int (iI v)), (3, .int (iI 24))]) hx hb dJ7_fill_53178_14 hl (k := 2) rfl (by decide) rfl (fun ls hl => ?_)
        refine lv_goto (tgt := 5) hx hb dJ7_fill_53178_17 (by decide) ?_
        exact ih3 (i1 + 1) M10 _ _ _ (by omega) ⟨by omega, by omega⟩ (by omega) hS hS0 (lv_sub hl [1, 2, 0, 3] rfl)
  exact L4 _ 0 M _ _ _ (Nat.le_refl _) (by decide) (by omega) hS hS0 (lv_sub hl [2, 3, 1, 0] rfl)
