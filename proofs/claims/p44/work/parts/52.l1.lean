set_option maxHeartbeats 4000000 in
set_option maxRecDepth 100000 in
theorem lc_15 {p : Program} {e : Env} {s : State} {m : MethodId} {below : List Frame} {meth : Method} {c : Code} {l : Launch} (hst : l.stackTraces = false) {b0 L n : Nat} {xs : Nat → Int32} (hL : L ≤ 2560) (C0 : lw_At p s m meth c b0 L xs) {D : va_G} {dA : Nat → ClassId} (hK : zKK D vwCl (z_tys dA) s) (hTw : zTw s) (hZ0 : zZ (yA s.heap.size) s s.heap) (hn : n + 5 ≤ L) {H : Heap} {locs : List Loc} {cells slots : Nat} {ls : Array Slot} {MC MR MO : zM} (hI : INV MC MR) (hS : LW3 D dA s.heap.size MC MR MO H) (hS0 : va_S (yA s.heap.size) s.heap H locs) (hl : lv_has ls 8 [(4, .int (iI (n : Int))), (3, .ref (s.heap.size + 168 + 0)), (2, .ref (s.heap.size + 134 + 0)), (1, .ref (s.heap.size + 0)), (0, .ref b0)]) (hcc : cells + 1 ≤ 601024) (hss : slots + 6 ≤ 7293034)
    (kk : ∀ (MC1 MR1 MO1 : zM) (H1 : Heap) (locs1 : List Loc) (c1 s1 : Nat) (ls1 : Array Slot), INV MC1 MR1 → LW3 D dA s.heap.size MC1 MR1 MO1 H1 → c1 ≤ cells + 1 → s1 ≤ slots + 6 → va_S (yA s.heap.size) s.heap H1 locs1 → lv_has ls1 8 [(4, .int (iI (n : Int))), (3, .ref (s.heap.size + 168 + 0)), (2, .ref (s.heap.size + 134 + 0)), (1, .ref (s.heap.size + 0)), (0, .ref b0)] → W p l e room_1 s m #[Value.ref b0] below meth c H1 locs1 c1 s1 (lw_Z below #[Value.ref b0] s) (F0 m 1585 ls1 [])) :
    W p l e room_1 s m #[Value.ref b0] below meth c H locs cells slots (lw_Z below #[Value.ref b0] s) (F0 m 789 ls []) := by
  obtain ⟨hx, hb, hr, hml, hown, htsL, hX, hbl, hlocks, hgv⟩ := id C0
  have hts := l_hts htsL
  have hbA : ¬ yA s.heap.size b0 := Nat.not_le.mpr hbl
  have hLb : L < 2147483648 := by omega
  refine lv_aload_n hx hb dL_law_789 rfl (lv_at hl 3 rfl) ?_
  have h1 := st_all hI  
  refine l_wCl (va_runV (As := []) (rest := []) ⟨hx, hb, hml, hown, hts⟩ (cC_all l D dA s.heap.size MC  _ h1) (cwV 0 hts (z_gV k507 k508 k509 k1 k510) rfl rfl rfl dm_X11_all ⟨(Nat.le_of_ble_eq_true rfl), (Nat.le_of_ble_eq_true rfl)⟩) ⟨wPre_blind, w_recv hS.1 hK.1 (by decide) (zkd_of (rfl : zcd wC 0 = 0) rfl) (by decide) (rfl : vwCl[11]? = some (RX11, TX11, 11)), w_pre hS.1 hK⟩ rfl rfl hl.1 rfl (lv_room (Nat.le_of_ble_eq_true rfl)) dL_law_790 ⟨(by show cells + 0 ≤ 601024; omega), (by show slots + 0 ≤ 7293034; omega)⟩) hS hS0 (fun z2 M3 H locs r4 hp5 hS hS0 => ?_)
  refine lv_pop2_2 hx hb dL_law_793 rfl ?_
  refine lv_aload_n hx hb dL_law_794 rfl (lv_at hl 2 rfl) ?_
  refine l_wRl (va_runV (As := []) (rest := []) ⟨hx, hb, hml, hown, hts⟩ (cR_all l D dA (s.heap.size + 134) MR  _ hp5) (cwV 0 hts (z_gV k1169 k1170 k1171 k14 k1172) rfl rfl rfl dm_X12_all ⟨(Nat.le_of_ble_eq_true rfl), (Nat.le_of_ble_eq_true rfl)⟩) ⟨wPre_blind, w_recv hS.2.1 hK.1 (by decide) (zkd_of (rfl : zcd wR 0 = 50) rfl) (by decide) (rfl : vwCl[12]? = some (RX12, TX12, 50)), w_pre hS.2.1 hK⟩ rfl rfl hl.1 rfl (lv_room (Nat.le_of_ble_eq_true rfl)) dL_law_795 ⟨(by show cells + 0 ≤ 601024; omega), (by show slots + 0 ≤ 7293034; omega)⟩) hS hS0 (fun z6 M7 H locs r8 hp9 hS hS0 => ?_)
  have hE9 := hp9.2
  have hI := hp9.1
  refine lv_pop2_2 hx hb dL_law_798 rfl ?_
  refine lv_goto (tgt := 1585) hx hb dL_law_799 (by decide) ?_
  exact kk _ _ _ H locs _ _ ls hI hS (by omega) (by omega) hS0 (lv_sub hl [0, 1, 2, 3, 4] rfl)

set_option maxHeartbeats 4000000 in
set_option maxRecDepth 100000 in
theorem lc_16 {p : Program} {e : Env} {s : State} {m : MethodId} {below : List Frame} {meth : Method} {c : Code} {l : Launch} (hst : l.stackTraces = false) {b0 L n : Nat} {xs : Nat → Int32} (hL : L ≤ 2560) (C0 : lw_At p s m meth c b0 L xs) {D : va_G} {dA : Nat → ClassId} (hK : zKK D vwCl (z_tys dA) s) (hTw : zTw s) (hZ0 : zZ (yA s.heap.size) s s.heap) (hn : n + 5 ≤ L) {H : Heap} {locs : List Loc} {cells slots : Nat} {ls : Array Slot} {MC MR MO : zM} (hI : INV MC MR) (hS : LW3 D dA s.heap.size MC MR MO H) (hS0 : va_S (yA s.heap.size) s.heap H locs) (hl : lv_has ls 8 [(4, .int (iI (n : Int))), (3, .ref (s.heap.size + 168 + 0)), (2, .ref (s.heap.size + 134 + 0)), (1, .ref (s.heap.size + 0)), (0, .ref b0)]) (hcc : cells + 1 ≤ 601024) (hss : slots + 6 ≤ 7293034)
    (kk : ∀ (MC1 MR1 MO1 : zM) (H1 : Heap) (locs1 : List Loc) (c1 s1 : Nat) (ls1 : Array Slot), INV MC1 MR1 → LW3 D dA s.heap.size MC1 MR1 MO1 H1 → c1 ≤ cells + 1 → s1 ≤ slots + 6 → va_S (yA s.heap.size) s.heap H1 locs1 → lv_has ls1 8 [(4, .int (iI (n : Int))), (3, .ref (s.heap.size + 168 + 0)), (2, .ref (s.heap.size + 134 + 0)), (1, .ref (s.heap.size + 0)), (0, .ref b0)] → W p l e room_1 s m #[Value.ref b0] below meth c H1 locs1 c1 s1 (lw_Z below #[Value.ref b0] s) (F0 m 1585 ls1 [])) :
    W p l e room_1 s m #[Value.ref b0] below meth c H locs cells slots (lw_Z below #[Value.ref b0] s) (F0 m 802 ls []) := by
  obtain ⟨hx, hb, hr, hml, hown, htsL, hX, hbl, hlocks, hgv⟩ := id C0
  have hts := l_hts htsL
  have hbA : ¬ yA s.heap.size b0 := Nat.not_le.mpr hbl
  have hLb : L < 2147483648 := by omega
  obtain ⟨v1, rv1, ev1⟩ := iI_of (xs (n + 1))
  obtain ⟨v2, rv2, ev2⟩ := iI_of (xs (n + 2))
  refine lv_aload_n hx hb dL_law_802 rfl (lv_at hl 3 rfl) ?_
  refine lv_aload_n hx hb dL_law_803 rfl (lv_at hl 4 rfl) ?_
  refine lv_iload hx hb dL_law_804 (lv_at hl 0 rfl) ?_
  refine z_iconst hx hb dL_law_806 ?_
  refine z_iadd hx hb dL_law_807 ?_
  refine l_sld hx hb hX hbl hbA hS0 (k := n + 1) (v := v1) (by omega) (by omega) hLb ev1 dL_law_808 ?_
  refine lv_aload_n hx hb dL_law_809 rfl (lv_at hl 4 rfl) ?_
  refine lv_iload hx hb dL_law_810 (lv_at hl 0 rfl) ?_
  refine z_iconst hx hb dL_law_812 ?_
  refine z_iadd hx hb dL_law_813 ?_
  refine l_sld hx hb hX hbl hbA hS0 (k := n + 2) (v := v2) (by omega) (by omega) hLb ev2 dL_law_814 ?_
  have h1 := st_wish hI (a0 := v1) (a1 := v2) rv1 rv2
  refine l_wCz (va_runV (As := [.int (iI v1), .int (iI v2)]) (rest := []) ⟨hx, hb, hml, hown, hts⟩ (cC_wish l D dA s.heap.size MC v1 v2 _ h1) (cwV 2 hts (z_gV k549 k550 k551 k1 k552) rfl rfl rfl dm_X11_wish ⟨(Nat.le_of_ble_eq_true rfl), (Nat.le_of_ble_eq_true rfl)⟩) ⟨wPre_blind, w_recv hS.1 hK.1 (by decide) (zkd_of (rfl : zcd wC 0 = 0) rfl) (by decide) (rfl : vwCl[11]? = some (RX11, TX11, 11)), w_pre hS.1 hK⟩ rfl rfl hl.1 rfl (lv_room (Nat.le_of_ble_eq_true rfl)) dL_law_815 ⟨(by show cells + 0 ≤ 601024; omega), (by show slots + 0 ≤ 7293034; omega)⟩) hS hS0 (fun z2 M3 H locs r4 hp5 hS hS0 => ?_)
  refine lv_pop hx hb dL_law_818 rfl ?_
  refine lv_aload_n hx hb dL_law_819 rfl (lv_at hl 2 rfl) ?_
  refine lv_aload_n hx hb dL_law_820 rfl (lv_at hl 4 rfl) ?_
  refine lv_iload hx hb dL_law_821 (lv_at hl 0 rfl) ?_
  refine z_iconst hx hb dL_law_823 ?_
  refine z_iadd hx hb dL_law_824 ?_
  refine l_sld hx hb hX hbl hbA hS0 (k := n + 1) (v := v1) (by omega) (by omega) hLb ev1 dL_law_825 ?_
  refine lv_aload_n hx hb dL_law_826 rfl (lv_at hl 4 rfl) ?_
  refine lv_iload hx hb dL_law_827 (lv_at hl 0 rfl) ?_
  refine z_iconst hx hb dL_law_829 ?_
  refine z_iadd hx hb dL_law_830 ?_
  refine l_sld hx hb hX hbl hbA hS0 (k := n + 2) (v := v2) (by omega) (by omega) hLb ev2 dL_law_831 ?_
  refine l_wRz (va_runV (As := [.int (iI v1), .int (iI v2)]) (rest := []) ⟨hx, hb, hml, hown, hts⟩ (cR_wish l D dA (s.heap.size + 134) MR v1 v2 _ hp5) (cwV 2 hts (z_gV k1176 k1177 k1178 k14 k1179) rfl rfl rfl dm_X12_wish ⟨(Nat.le_of_ble_eq_true rfl), (Nat.le_of_ble_eq_true rfl)⟩) ⟨wPre_blind, w_recv hS.2.1 hK.1 (by decide) (zkd_of (rfl : zcd wR 0 = 50) rfl) (by decide) (rfl : vwCl[12]? = some (RX12, TX12, 50)), w_pre hS.2.1 hK⟩ rfl rfl hl.1 rfl (lv_room (Nat.le_of_ble_eq_true rfl)) dL_law_832 ⟨(by show cells + 0 ≤ 601024; omega), (by show slots + 0 ≤ 7293034; omega)⟩) hS hS0 (fun z6 M7 H locs r8 hp9 hS hS0 => ?_)
  have hE9 := hp9.2
  have hI := hp9.1
  refine lv_pop hx hb dL_law_835 rfl ?_
  refine lv_goto (tgt := 1585) hx hb dL_law_836 (by decide) ?_
  exact kk _ _ _ H locs _ _ ls hI hS (by omega) (by omega) hS0 (lv_sub hl [0, 1, 2, 3, 4] rfl)

set_option maxHeartbeats 4000000 in
set_option maxRecDepth 100000 in
theorem lc_17 {p : Program} {e : Env} {s : State} {m : MethodId} {below : List Frame} {meth : Method} {c : Code} {l : Launch} (hst : l.stackTraces = false) {b0 L n : Nat} {xs : Nat → Int32} (hL : L ≤ 2560) (C0 : lw_At p s m meth c b0 L xs) {D : va_G} {dA : Nat → ClassId} (hK : zKK D vwCl (z_tys dA) s) (hTw : zTw s) (hZ0 : zZ (yA s.heap.size) s s.heap) (hn : n + 5 ≤ L) {H : Heap} {locs : List Loc} {cells slots : Nat} {ls : Array Slot} {MC MR MO : zM} (hI : INV MC MR) (hS : LW3 D dA s.heap.size MC MR MO H) (hS0 : va_S (yA s.heap.size) s.heap H locs) (hl : lv_has ls 8 [(4, .int (iI (n : Int))), (3, .ref (s.heap.size + 168 + 0)), (2, .ref (s.heap.size + 134 + 0)), (1, .ref (s.heap.size + 0)), (0, .ref b0)]) (hcc : cells + 1 ≤ 601024) (hss : slots + 6 ≤ 7293034)
    (kk : ∀ (MC1 MR1 MO1 : zM) (H1 : Heap) (locs1 : List Loc) (c1 s1 : Nat) (ls1 : Array Slot), INV MC1 MR1 → LW3 D dA s.heap.size MC1 MR1 MO1 H1 → c1 ≤ cells + 1 → s1 ≤ slots + 6 → va_S (yA s.heap.size) s.heap H1 locs1 → lv_has ls1 8 [(4, .int (iI (n : Int))), (3, .ref (s.heap.size + 168 + 0)), (2, .ref (s.heap.size + 134 + 0)), (1, .ref (s.heap.size + 0)), (0, .ref b0)] → W p l e room_1 s m #[Value.ref b0] below meth c H1 locs1 c1 s1 (lw_Z below #[Value.ref b0] s) (F0 m 1585 ls1 [])) :
    W p l e room_1 s m #[Value.ref b0] below meth c H locs cells slots (lw_Z below #[Value.ref b0] s) (F0 m 839 ls []) := by
  obtain ⟨hx, hb, hr, hml, hown, htsL, hX, hbl, hlocks, hgv⟩ := id C0
  have hts := l_hts htsL
  have hbA : ¬ yA s.heap.size b0 := Nat.not_le.mpr hbl
  have hLb : L < 2147483648 := by omega
  obtain ⟨v1, rv1, ev1⟩ := iI_of (xs (n + 1))
  obtain ⟨v2, rv2, ev2⟩ := iI_of (xs (n + 2))
  refine lv_aload_n hx hb dL_law_839 rfl (lv_at hl 3 rfl) ?_
  refine lv_aload_n hx hb dL_law_840 rfl (lv_at hl 4 rfl) ?_
  refine lv_iload hx hb dL_law_841 (lv_at hl 0 rfl) ?_
  refine z_iconst hx hb dL_law_843 ?_
  refine z_iadd hx hb dL_law_844 ?_
  refine l_sld hx hb hX hbl hbA hS0 (k := n + 1) (v := v1) (by omega) (by omega) hLb ev1 dL_law_845 ?_
  refine lv_i2l hx hb dL_law_846 rfl ?_
  refine z_bipush hx hb (by decide) dL_law_847 ?_
  refine lv_lshl hx hb dL_law_849 rfl ?_
  refine lv_aload_n hx hb dL_law_850 rfl (lv_at hl 4 rfl) ?_
  refine lv_iload hx hb dL_law_851 (lv_at hl 0 rfl) ?_
  refine z_iconst hx hb dL_law_853 ?_
  refine z_iadd hx hb dL_law_854 ?_
  refine l_sld hx hb hX hbl hbA hS0 (k := n + 2) (v := v2) (by omega) (by omega) hLb ev2 dL_law_855 ?_
  refine lv_i2l hx hb dL_law_856 rfl ?_
  refine z_ldc2 (n := 4294967295) hx hb hown (hts _ (z_mem k1348)) (by decide) dL_law_857 ?_
  refine lv_land hx hb dL_law_860 ?_
  refine lv_lor hx hb dL_law_861 ?_
  obtain ⟨t1, rt2, et3⟩ := iL_of (((iI v1).toInt64 <<< ((iI 32).toInt64 &&& 63)) ||| ((iI v2).toInt64 &&& iL 4294967295))
  rw [et3]
  have h4 := st_meets hI (a0 := t1) rt2
  refine l_wCl (va_runV (As := [.long (iL t1)]) (rest := []) ⟨hx, hb, hml, hown, hts⟩ (cC_meets l D dA s.heap.size MC t1 _ h4) (cwV 1 hts (z_gV k556 k557 k558 k1 k559) rfl rfl rfl dm_X11_meets ⟨(Nat.le_of_ble_eq_true rfl), (Nat.le_of_ble_eq_true rfl)⟩) ⟨wPre_blind, w_recv hS.1 hK.1 (by decide) (zkd_of (rfl : zcd wC 0 = 0) rfl) (by decide) (rfl : vwCl[11]? = some (RX11, TX11, 11)), w_pre hS.1 hK⟩ rfl rfl hl.1 rfl (lv_room (Nat.le_of_ble_eq_true rfl)) dL_law_862 ⟨(by show cells + 0 ≤ 601024; omega), (by show slots + 0 ≤ 7293034; omega)⟩) hS hS0 (fun z5 M6 H locs r7 hp8 hS hS0 => ?_)
  refine lv_pop2_2 hx hb dL_law_865 rfl ?_
  refine lv_aload_n hx hb dL_law_866 rfl (lv_at hl 2 rfl) ?_
  refine lv_aload_n hx hb dL_law_867 rfl (lv_at hl 4 rfl) ?_
  refine lv_iload hx hb dL_law_868 (lv_at hl 0 rfl) ?_
  refine z_iconst hx hb dL_law_870 ?_
  refine z_iadd hx hb dL_law_871 ?_
  refine l_sld hx hb hX hbl hbA hS0 (k := n + 1) (v := v1) (by omega) (by omega) hLb ev1 dL_law_872 ?_
  refine lv_i2l hx hb dL_law_873 rfl ?_
  refine z_bipush hx hb (by decide) dL_law_874 ?_
  refine lv_lshl hx hb dL_law_876 rfl ?_
  refine lv_aload_n hx hb dL_law_877 rfl (lv_at hl 4 rfl) ?_
  refine lv_iload hx hb dL_law_878 (lv_at hl 0 rfl) ?_
  refine z_iconst hx hb dL_law_880 ?_
  refine z_iadd hx hb dL_law_881 ?_
  refine l_sld hx hb hX hbl hbA hS0 (k := n + 2) (v := v2) (by omega) (by omega) hLb ev2 dL_law_882 ?_
  refine lv_i2l hx hb dL_law_883 rfl ?_
  refine z_ldc2 (n := 4294967295) hx hb hown (hts _ (z_mem k1348)) (by decide) dL_law_884 ?_
  refine lv_land hx hb dL_law_887 ?_
  refine lv_lor hx hb dL_law_888 ?_
  rw [et3]
  refine l_wRl (va_runV (As := [.long (iL t1)]) (rest := []) ⟨hx, hb, hml, hown, hts⟩ (cR_meets l D dA (s.heap.size + 134) MR t1 _ hp8) (cwV 1 hts (z_gV k1183 k1184 k1185 k14 k1186) rfl rfl rfl dm_X12_meets ⟨(Nat.le_of_ble_eq_true rfl), (Nat.le_of_ble_eq_true rfl)⟩) ⟨wPre_blind, w_recv hS.2.1 hK.1 (by decide) (zkd_of (rfl : zcd wR 0 = 50) rfl) (by decide) (rfl : vwCl[12]? = some (RX12, TX12, 50)), w_pre hS.2.1 hK⟩ rfl rfl hl.1 rfl (lv_room (Nat.le_of_ble_eq_true rfl)) dL_law_889 ⟨(by show cells + 0 ≤ 601024; omega), (by show slots + 0 ≤ 7293034; omega)⟩) hS hS0 (fun z9 M10 H locs r11 hp12 hS hS0 => ?_)
  have hE9 := hp12.2
  have hI := hp12.1
  refine lv_pop2_2 hx hb dL_law_892 rfl ?_
  refine lv_goto (tgt := 1585) hx hb dL_law_893 (by decide) ?_
  exact kk _ _ _ H locs _ _ ls hI hS (by omega) (by omega) hS0 (lv_sub hl [0, 1, 2, 3, 4] rfl)

set_option maxHeartbeats 4000000 in
set_option maxRecDepth 100000 in
theorem lc_18 {p : Program} {e : Env} {s : State} {m : MethodId} {below : List Frame} {meth : Method} {c : Code} {l : Launch} (hst : l.stackTraces = false) {b0 L n : Nat} {xs : Nat → Int32} (hL : L ≤ 2560) (C0 : lw_At p s m meth c b0 L xs) {D : va_G} {dA : Nat → ClassId} (hK : zKK D vwCl (z_tys dA) s) (hTw : zTw s) (hZ0 : zZ (yA s.heap.size) s s.heap) (hn : n + 5 ≤ L) {H : Heap} {locs : List Loc} {cells slots : Nat} {ls : Array Slot} {MC MR MO : zM} (hI : INV MC MR) (hS : LW3 D dA s.heap.size MC MR MO H) (hS0 : va_S (yA s.heap.size) s.heap H locs) (hl : lv_has ls 8 [(4, .int (iI (n : Int))), (3, .ref (s.heap.size + 168 + 0)), (2, .ref (s.heap.size + 134 + 0)), (1, .ref (s.heap.size + 0)), (0, .ref b0)]) (hcc : cells + 1 ≤ 601024) (hss : slots + 6 ≤ 7293034)
    (kk : ∀ (MC1 MR1 MO1 : zM) (H1 : Heap) (locs1 : List Loc) (c1 s1 : Nat) (ls1 : Array Slot), INV MC1 MR1 → LW3 D dA s.heap.size MC1 MR1 MO1 H1 → c1 ≤ cells + 1 → s1 ≤ slots + 6 → va_S (yA s.heap.size) s.heap H1 locs1 → lv_has ls1 8 [(4, .int (iI (n : Int))), (3, .ref (s.heap.size + 168 + 0)), (2, .ref (s.heap.size + 134 + 0)), (1, .ref (s.heap.size + 0)), (0, .ref b0)] → W p l e room_1 s m #[Value.ref b0] below meth c H1 locs1 c1 s1 (lw_Z below #[Value.ref b0] s) (F0 m 1585 ls1 [])) :
    W p l e room_1 s m #[Value.ref b0] below meth c H locs cells slots (lw_Z below #[Value.ref b0] s) (F0 m 896 ls []) := by
  obtain ⟨hx, hb, hr, hml, hown, htsL, hX, hbl, hlocks, hgv⟩ := id C0
  have hts := l_hts htsL
  have hbA : ¬ yA s.heap.size b0 := Nat.not_le.mpr hbl
  have hLb : L < 2147483648 := by omega
  refine lv_aload_n hx hb dL_law_896 rfl (lv_at hl 3 rfl) ?_
  have h1 := st_often hI  
  refine l_wCl (va_runV (As := []) (rest := []) ⟨hx, hb, hml, hown, hts⟩ (cC_often l D dA s.heap.size MC  _ h1) (cwV 0 hts (z_gV k591 k592 k593 k1 k594) rfl rfl rfl dm_X11_often ⟨(Nat.le_of_ble_eq_true rfl), (Nat.le_of_ble_eq_true rfl)⟩) ⟨wPre_blind, w_recv hS.1 hK.1 (by decide) (zkd_of (rfl : zcd wC 0 = 0) rfl) (by decide) (rfl : vwCl[11]? = some (RX11, TX11, 11)), w_pre hS.1 hK⟩ rfl rfl hl.1 rfl (lv_room (Nat.le_of_ble_eq_true rfl)) dL_law_897 ⟨(by show cells + 0 ≤ 601024; omega), (by show slots + 0 ≤ 7293034; omega)⟩) hS hS0 (fun z2 M3 H locs r4 hp5 hS hS0 => ?_)
  refine lv_pop2_2 hx hb dL_law_900 rfl ?_
  refine lv_aload_n hx hb dL_law_901 rfl (lv_at hl 2 rfl) ?_
  refine l_wRl (va_runV (As := []) (rest := []) ⟨hx, hb, hml, hown, hts⟩ (cR_often l D dA (s.heap.size + 134) MR  _ hp5) (cwV 0 hts (z_gV k1202 k1203 k1204 k14 k1205) rfl rfl rfl dm_X12_often ⟨(Nat.le_of_ble_eq_true rfl), (Nat.le_of_ble_eq_true rfl)⟩) ⟨wPre_blind, w_recv hS.2.1 hK.1 (by decide) (zkd_of (rfl : zcd wR 0 = 50) rfl) (by decide) (rfl : vwCl[12]? = some (RX12, TX12, 50)), w_pre hS.2.1 hK⟩ rfl rfl hl.1 rfl (lv_room (Nat.le_of_ble_eq_true rfl)) dL_law_902 ⟨(by show cells + 0 ≤ 601024; omega), (by show slots + 0 ≤ 7293034; omega)⟩) hS hS0 (fun z6 M7 H locs r8 hp9 hS hS0 => ?_)
  have hE9 := hp9.2
  have hI := hp9.1
  refine lv_pop2_2 hx hb dL_law_905 rfl ?_
  refine lv_goto (tgt := 1585) hx hb dL_law_906 (by decide) ?_
  exact kk _ _ _ H locs _ _ ls hI hS (by omega) (by omega) hS0 (lv_sub hl [0, 1, 2, 3, 4] rfl)

set_option maxHeartbeats 4000000 in
set_option maxRecDepth 100000 in
theorem lc_19 {p : Program} {e : Env} {s : State} {m : MethodId} {below : List Frame} {meth : Method} {c : Code} {l : Launch} (hst : l.stackTraces = false) {b0 L n : Nat} {xs : Nat → Int32} (hL : L ≤ 2560) (C0 : lw_At p s m meth c b0 L xs) {D : va_G} {dA : Nat → ClassId} (hK : zKK D vwCl (z_tys dA) s) (hTw : zTw s) (hZ0 : zZ (yA s.heap.size) s s.heap) (hn : n + 5 ≤ L) {H : Heap} {locs : List Loc} {cells slots : Nat} {ls : Array Slot} {MC MR MO : zM} (hI : INV MC MR) (hS : LW3 D dA s.heap.size MC MR MO H) (hS0 : va_S (yA s.heap.size) s.heap H locs) (hl : lv_has ls 8 [(4, .int (iI (n : Int))), (3, .ref (s.heap.size + 168 + 0)), (2, .ref (s.heap.size + 134 + 0)), (1, .ref (s.heap.size + 0)), (0, .ref b0)]) (hcc : cells + 1 ≤ 601024) (hss : slots + 6 ≤ 7293034)
    (kk : ∀ (MC1 MR1 MO1 : zM) (H1 : Heap) (locs1 : List Loc) (c1 s1 : Nat) (ls1 : Array Slot), INV MC1 MR1 → LW3 D dA s.heap.size MC1 MR1 MO1 H1 → c1 ≤ cells + 1 → s1 ≤ slots + 6 → va_S (yA s.heap.size) s.heap H1 locs1 → lv_has ls1 8 [(4, .int (iI (n : Int))), (3, .ref (s.heap.size + 168 + 0)), (2, .ref (s.heap.size + 134 + 0)), (1, .ref (s.heap.size + 0)), (0, .ref b0)] → W p l e room_1 s m #[Value.ref b0] below meth c H1 locs1 c1 s1 (lw_Z below #[Value.ref b0] s) (F0 m 1585 ls1 [])) :
    W p l e room_1 s m #[Value.ref b0] below meth c H locs cells slots (lw_Z below #[Value.ref b0] s) (F0 m 909 ls []) := by
  obtain ⟨hx, hb, hr, hml, hown, htsL, hX, hbl, hlocks, hgv⟩ := id C0
  have hts := l_hts htsL
  have hbA : ¬ yA s.heap.size b0 := Nat.not_le.mpr hbl
  have hLb : L < 2147483648 := by omega
  obtain ⟨v1, rv1, ev1⟩ := iI_of (xs (n + 1))
  obtain ⟨v2, rv2, ev2⟩ := iI_of (xs (n + 2))
  refine lv_aload_n hx hb dL_law_909 rfl (lv_at hl 3 rfl) ?_
  refine lv_aload_n hx hb dL_law_910 rfl (lv_at hl 4 rfl) ?_
  refine lv_iload hx hb dL_law_911 (lv_at hl 0 rfl) ?_
  refine z_iconst hx hb dL_law_913 ?_
  refine z_iadd hx hb dL_law_914 ?_
  refine l_sld hx hb hX hbl hbA hS0 (k := n + 1) (v := v1) (by omega) (by omega) hLb ev1 dL_law_915 ?_
  refine lv_aload_n hx hb dL_law_916 rfl (lv_at hl 4 rfl) ?_
  refine lv_iload hx hb dL_law_917 (lv_at hl 0 rfl) ?_
  refine z_iconst hx hb dL_law_919 ?_
  refine z_iadd hx hb dL_law_920 ?_
  refine l_sld hx hb hX hbl hbA hS0 (k := n + 2) (v := v2) (by omega) (by omega) hLb ev2 dL_law_921 ?_
  have h1 := st_mark hI (a0 := v1) (a1 := v2) rv1 rv2
  refine l_wCi (va_runV (As := [.int (iI v1), .int (iI v2)]) (rest := []) ⟨hx, hb, hml, hown, hts⟩ (cC_mark l D dA s.heap.size MC v1 v2 _ h1) (cwV 2 hts (z_gV k596 k597 k598 k1 k599) rfl rfl rfl dm_X11_mark ⟨(Nat.le_of_ble_eq_true rfl), (Nat.le_of_ble_eq_true rfl)⟩) ⟨wPre_blind, w_recv hS.1 hK.1 (by decide) (zkd_of (rfl : zcd wC 0 = 0) rfl) (by decide) (rfl : vwCl[11]? = some (RX11, TX11, 11)), w_pre hS.1 hK⟩ rfl rfl hl.1 rfl (lv_room (Nat.le_of_ble_eq_true rfl)) dL_law_922 ⟨(by show cells + 0 ≤ 601024; omega), (by show slots + 0 ≤ 7293034; omega)⟩) hS hS0 (fun z2 M3 H locs r4 hp5 hS hS0 => ?_)
  refine lv_pop hx hb dL_law_925 rfl ?_
  refine lv_aload_n hx hb dL_law_926 rfl (lv_at hl 2 rfl) ?_
  refine lv_aload_n hx hb dL_law_927 rfl (lv_at hl 4 rfl) ?_
  refine lv_iload hx hb dL_law_928 (lv_at hl 0 rfl) ?_
  refine z_iconst hx hb dL_law_930 ?_
  refine z_iadd hx hb dL_law_931 ?_
  refine l_sld hx hb hX hbl hbA hS0 (k := n + 1) (v := v1) (by omega) (by omega) hLb ev1 dL_law_932 ?_
  refine lv_aload_n hx hb dL_law_933 rfl (lv_at hl 4 rfl) ?_
  refine lv_iload hx hb dL_law_934 (lv_at hl 0 rfl) ?_
  refine z_iconst hx hb dL_law_936 ?_
  refine z_iadd hx hb dL_law_937 ?_
  refine l_sld hx hb hX hbl hbA hS0 (k := n + 2) (v := v2) (by omega) (by omega) hLb ev2 dL_law_938 ?_
  refine l_wRi (va_runV (As := [.int (iI v1), .int (iI v2)]) (rest := []) ⟨hx, hb, hml, hown, hts⟩ (cR_mark l D dA (s.heap.size + 134) MR v1 v2 _ hp5) (cwV 2 hts (z_gV k1206 k1207 k1208 k14 k1209) rfl rfl rfl dm_X12_mark ⟨(Nat.le_of_ble_eq_true rfl), (Nat.le_of_ble_eq_true rfl)⟩) ⟨wPre_blind, w_recv hS.2.1 hK.1 (by decide) (zkd_of (rfl : zcd wR 0 = 50) rfl) (by decide) (rfl : vwCl[12]? = some (RX12, TX12, 50)), w_pre hS.2.1 hK⟩ rfl rfl hl.1 rfl (lv_room (Nat.le_of_ble_eq_true rfl)) dL_law_939 ⟨(by show cells + 0 ≤ 601024; omega), (by show slots + 0 ≤ 7293034; omega)⟩) hS hS0 (fun z6 M7 H locs r8 hp9 hS hS0 => ?_)
  have hE9 := hp9.2
  have hI := hp9.1
  refine lv_pop hx hb dL_law_942 rfl ?_
  refine lv_goto (tgt := 1585) hx hb dL_law_943 (by decide) ?_
  exact kk _ _ _ H locs _ _ ls hI hS (by omega) (by omega) hS0 (lv_sub hl [0, 1, 2, 3, 4] rfl)

set_option maxHeartbeats 4000000 in
set_option maxRecDepth 100000 in
theorem lc_20 {p : Program} {e : Env} {s : State} {m : MethodId} {below : List Frame} {meth : Method} {c : Code} {l : Launch} (hst : l.stackTraces = false) {b0 L n : Nat} {xs : Nat → Int32} (hL : L ≤ 2560) (C0 : lw_At p s m meth c b0 L xs) {D : va_G} {dA : Nat → ClassId} (hK : zKK D vwCl (z_tys dA) s) (hTw : zTw s) (hZ0 : zZ (yA s.heap.size) s s.heap) (hn : n + 5 ≤ L) {H : Heap} {locs : List Loc} {cells slots : Nat} {ls : Array Slot} {MC MR MO : zM} (hI : INV MC MR) (hS : LW3 D dA s.heap.size MC MR MO H) (hS0 : va_S (yA s.heap.size) s.heap H locs) (hl : lv_has ls 8 [(4, .int (iI (n : Int))), (3, .ref (s.heap.size + 168 + 0)), (2, .ref (s.heap.size + 134 + 0)), (1, .ref (s.heap.size + 0)), (0, .ref b0)]) (hcc : cells + 1 ≤ 601024) (hss : slots + 6 ≤ 7293034)
    (kk : ∀ (MC1 MR1 MO1 : zM) (H1 : Heap) (locs1 : List Loc) (c1 s1 : Nat) (ls1 : Array Slot), INV MC1 MR1 → LW3 D dA s.heap.size MC1 MR1 MO1 H1 → c1 ≤ cells + 1 → s1 ≤ slots + 6 → va_S (yA s.heap.size) s.heap H1 locs1 → lv_has ls1 8 [(4, .int (iI (n : Int))), (3, .ref (s.heap.size + 168 + 0)), (2, .ref (s.heap.size + 134 + 0)), (1, .ref (s.heap.size + 0)), (0, .ref b0)] → W p l e room_1 s m #[Value.ref b0] below meth c H1 locs1 c1 s1 (lw_Z below #[Value.ref b0] s) (F0 m 1585 ls1 [])) :
    W p l e room_1 s m #[Value.ref b0] below meth c H locs cells slots (lw_Z below #[Value.ref b0] s) (F0 m 946 ls []) := by
  obtain ⟨hx, hb, hr, hml, hown, htsL, hX, hbl, hlocks, hgv⟩ := id C0
  have hts := l_hts htsL
  have hbA : ¬ yA s.heap.size b0 := Nat.not_le.mpr hbl
  have hLb : L < 2147483648 := by omega
  refine lv_aload_n hx hb dL_law_946 rfl (lv_at hl 3 rfl) ?_
  have h1 := st_kept hI  
  refine l_wCi (va_runV (As := []) (rest := []) ⟨hx, hb, hml, hown, hts⟩ (cC_kept l D dA s.heap.size MC  _ h1) (cwV 0 hts (z_gV k608 k609 k610 k1 k611) rfl rfl rfl dm_X11_kept ⟨(Nat.le_of_ble_eq_true rfl), (Nat.le_of_ble_eq_true rfl)⟩) ⟨wPre_blind, w_recv hS.1 hK.1 (by decide) (zkd_of (rfl : zcd wC 0 = 0) rfl) (by decide) (rfl : vwCl[11]? = some (RX11, TX11, 11)), w_pre hS.1 hK⟩ rfl rfl hl.1 rfl (lv_room (Nat.le_of_ble_eq_true rfl)) dL_law_947 ⟨(by show cells + 0 ≤ 601024; omega), (by show slots + 0 ≤ 7293034; omega)⟩) hS hS0 (fun z2 M3 H locs r4 hp5 hS hS0 => ?_)
  obtain ⟨hu7, hp5⟩ := hp5
  rw [hu7] at hS
  refine lv_pop hx hb dL_law_950 rfl ?_
  refine lv_aload_n hx hb dL_law_951 rfl (lv_at hl 2 rfl) ?_
  refine l_wRi (va_runV (As := []) (rest := []) ⟨hx, hb, hml, hown, hts⟩ (cR_keptM l D dA (s.heap.size + 134) MR  _ hp5) (cwV 0 hts (z_gV k1211 k1212 k1213 k14 k1214) rfl rfl rfl dm_X12_kept ⟨(Nat.le_of_ble_eq_true rfl), (Nat.le_of_ble_eq_true rfl)⟩) ⟨wPre_blind, w_recv hS.2.1 hK.1 (by decide) (zkd_of (rfl : zcd wR 0 = 50) rfl) (by decide) (rfl : vwCl[12]? = some (RX12, TX12, 50)), w_pre hS.2.1 hK⟩ rfl rfl hl.1 rfl (lv_room (Nat.le_of_ble_eq_true rfl)) dL_law_952 ⟨(by show cells + 0 ≤ 601024; omega), (by show slots + 0 ≤ 7293034; omega)⟩) hS hS0 (fun z6 M7 H locs r8 hp9 hS hS0 => ?_)
  have hE9 := hp9.2
  have hI := hp9.1
  refine lv_pop hx hb dL_law_955 rfl ?_
  refine lv_goto (tgt := 1585) hx hb dL_law_956 (by decide) ?_
  exact kk _ _ _ H locs _ _ ls hI hS (by omega) (by omega) hS0 (lv_sub hl [0, 1, 2, 3, 4] rfl)

set_option maxHeartbeats 4000000 in
set_option maxRecDepth 100000 in
theorem lc_21 {p : Program} {e : Env} {s : State} {m : MethodId} {below : List Frame} {meth : Method} {c : Code} {l : Launch} (hst : l.stackTraces = false) {b0 L n : Nat} {xs : Nat → Int32} (hL : L ≤ 2560) (C0 : lw_At p s m meth c b0 L xs) {D : va_G} {dA : Nat → ClassId} (hK : zKK D vwCl (z_tys dA) s) (hTw : zTw s) (hZ0 : zZ (yA s.heap.size) s s.heap) (hn : n + 5 ≤ L) {H : Heap} {locs : List Loc} {cells slots : Nat} {ls : Array Slot} {MC MR MO : zM} (hI : INV MC MR) (hS : LW3 D dA s.heap.size MC MR MO H) (hS0 : va_S (yA s.heap.size) s.heap H locs) (hl : lv_has ls 8 [(4, .int (iI (n : Int))), (3, .ref (s.heap.size + 168 + 0)), (2, .ref (s.heap.size + 134 + 0)), (1, .ref (s.heap.size + 0)), (0, .ref b0)]) (hcc : cells + 1 ≤ 601024) (hss : slots + 6 ≤ 7293034)
    (kk : ∀ (MC1 MR1 MO1 : zM) (H1 : Heap) (locs1 : List Loc) (c1 s1 : Nat) (ls1 : Array Slot), INV MC1 MR1 → LW3 D dA s.heap.size MC1 MR1 MO1 H1 → c1 ≤ cells + 1 → s1 ≤ slots + 6 → va_S (yA s.heap.size) s.heap H1 locs1 → lv_has ls1 8 [(4, .int (iI (n : Int))), (3, .ref (s.heap.size + 168 + 0)), (2, .ref (s.heap.size + 134 + 0)), (1, .ref (s.heap.size + 0)), (0, .ref b0)] → W p l e room_1 s m #[Value.ref b0] below meth c H1 locs1 c1 s1 (lw_Z below #[Value.ref b0] s) (F0 m 1585 ls1 [])) :
    W p l e room_1 s m #[Value.ref b0] below meth c H locs cells slots (lw_Z below #[Value.ref b0] s) (F0 m 959 ls []) := by
  obtain ⟨hx, hb, hr, hml, hown, htsL, hX, hbl, hlocks, hgv⟩ := id C0
  have hts := l_hts htsL
  have hbA : ¬ yA s.heap.size b0 := Nat.not_le.mpr hbl
  have hLb : L < 2147483648 := by omega
  refine lv_aload_n hx hb dL_law_959 rfl (lv_at hl 3 rfl) ?_
  have h1 := st_plan hI  
  refine l_wCi (va_runV (As := []) (rest := []) ⟨hx, hb, hml, hown, hts⟩ (cC_plan l D dA s.heap.size MC  _ h1) (cwV 0 hts (z_gV k617 k618 k619 k1 k620) rfl rfl rfl dm_X11_plan ⟨(Nat.le_of_ble_eq_true rfl), (Nat.le_of_ble_eq_true rfl)⟩) ⟨wPre_blind, w_recv hS.1 hK.1 (by decide) (zkd_of (rfl : zcd wC 0 = 0) rfl) (by decide) (rfl : vwCl[11]? = some (RX11, TX11, 11)), w_pre hS.1 hK⟩ rfl rfl hl.1 rfl (lv_room (Nat.le_of_ble_eq_true rfl)) dL_law_960 ⟨(by show cells + 0 ≤ 601024; omega), (by show slots + 0 ≤ 7293034; omega)⟩) hS hS0 (fun z2 M3 H locs r4 hp5 hS hS0 => ?_)
  refine lv_pop hx hb dL_law_963 rfl ?_
  refine lv_aload_n hx hb dL_law_964 rfl (lv_at hl 2 rfl) ?_
  refine l_wRi (va_runV (As := []) (rest := []) ⟨hx, hb, hml, hown, hts⟩ (cR_plan l D dA (s.heap.size + 134) MR  _ hp5) (cwV 0 hts (z_gV k1218 k1219 k1220 k14 k1221) rfl rfl rfl dm_X12_plan ⟨(Nat.le_of_ble_eq_true rfl), (Nat.le_of_ble_eq_true rfl)⟩) ⟨wPre_blind, w_recv hS.2.1 hK.1 (by decide) (zkd_of (rfl : zcd wR 0 = 50) rfl) (by decide) (rfl : vwCl[12]? = some (RX12, TX12, 50)), w_pre hS.2.1 hK⟩ rfl rfl hl.1 rfl (lv_room (Nat.le_of_ble_eq_true rfl)) dL_law_965 ⟨(by show cells + 0 ≤ 601024; omega), (by show slots + 0 ≤ 7293034; omega)⟩) hS hS0 (fun z6 M7 H locs r8 hp9 hS hS0 => ?_)
  have hE9 := hp9.2
  have hI := hp9.1
  refine lv_pop hx hb dL_law_968 rfl ?_
  refine lv_goto (tgt := 1585) hx hb dL_law_969 (by decide) ?_
  exact kk _ _ _ H locs _ _ ls hI hS (by omega) (by omega) hS0 (lv_sub hl [0, 1, 2, 3, 4] rfl)

set_option maxHeartbeats 4000000 in
set_option maxRecDepth 100000 in
theorem lc_22 {p : Program} {e : Env} {s : State} {m : MethodId} {below : List Frame} {meth : Method} {c : Code} {l : Launch} (hst : l.stackTraces = false) {b0 L n : Nat} {xs : Nat → Int32} (hL : L ≤ 2560) (C0 : lw_At p s m meth c b0 L xs) {D : va_G} {dA : Nat → ClassId} (hK : zKK D vwCl (z_tys dA) s) (hTw : zTw s) (hZ0 : zZ (yA s.heap.size) s s.heap) (hn : n + 5 ≤ L) {H : Heap} {locs : List Loc} {cells slots : Nat} {ls : Array Slot} {MC MR MO : zM} (hI : INV MC MR) (hS : LW3 D dA s.heap.size MC MR MO H) (hS0 : va_S (yA s.heap.size) s.heap H locs) (hl : lv_has ls 8 [(4, .int (iI (n : Int))), (3, .ref (s.heap.size + 168 + 0)), (2, .ref (s.heap.size + 134 + 0)), (1, .ref (s.heap.size + 0)), (0, .ref b0)]) (hcc : cells + 1 ≤ 601024) (hss : slots + 6 ≤ 7293034)
    (kk : ∀ (MC1 MR1 MO1 : zM) (H1 : Heap) (locs1 : List Loc) (c1 s1 : Nat) (ls1 : Array Slot), INV MC1 MR1 → LW3 D dA s.heap.size MC1 MR1 MO1 H1 → c1 ≤ cells + 1 → s1 ≤ slots + 6 → va_S (yA s.heap.size) s.heap H1 locs1 → lv_has ls1 8 [(4, .int (iI (n : Int))), (3, .ref (s.heap.size + 168 + 0)), (2, .ref (s.heap.size + 134 + 0)), (1, .ref (s.heap.size + 0)), (0, .ref b0)] → W p l e room_1 s m #[Value.ref b0] below meth c H1 locs1 c1 s1 (lw_Z below #[Value.ref b0] s) (F0 m 1585 ls1 [])) :
    W p l e room_1 s m #[Value.ref b0] below meth c H locs cells slots (lw_Z below #[Value.ref b0] s) (F0 m 972 ls []) := by
  obtain ⟨hx, hb, hr, hml, hown, htsL, hX, hbl, hlocks, hgv⟩ := id C0
  have hts := l_hts htsL
  have hbA : ¬ yA s.heap.size b0 := Nat.not_le.mpr hbl
  have hLb : L < 2147483648 := by omega
  refine lv_aload_n hx hb dL_law_972 rfl (lv_at hl 3 rfl) ?_
  have h1 := st_make hI  
  refine l_wCi (va_runV (As := []) (rest := []) ⟨hx, hb, hml, hown, hts⟩ (cC_make l D dA s.heap.size MC  _ h1) (cwV 0 hts (z_gV k658 k659 k660 k1 k661) rfl rfl rfl dm_X11_make ⟨(Nat.le_of_ble_eq_true rfl), (Nat.le_of_ble_eq_true rfl)⟩) ⟨wPre_blind, w_recv hS.1 hK.1 (by decide) (zkd_of (rfl : zcd wC 0 = 0) rfl) (by decide) (rfl : vwCl[11]? = some (RX11, TX11, 11)), w_pre hS.1 hK⟩ rfl rfl hl.1 rfl (lv_room (Nat.le_of_ble_eq_true rfl)) dL_law_973 ⟨(by show cells + 0 ≤ 601024; omega), (by show slots + 0 ≤ 7293034; omega)⟩) hS hS0 (fun z2 M3 H locs r4 hp5 hS hS0 => ?_)
  refine lv_pop hx hb dL_law_976 rfl ?_
  refine lv_aload_n hx hb dL_law_977 rfl (lv_at hl 2 rfl) ?_
  refine l_wRi (va_runV (As := []) (rest := []) ⟨hx, hb, hml, hown, hts⟩ (cR_make l D dA (s.heap.size + 134) MR  _ hp5) (cwV 0 hts (z_gV k1230 k1231 k1232 k14 k1233) rfl rfl rfl dm_X12_make ⟨(Nat.le_of_ble_eq_true rfl), (Nat.le_of_ble_eq_true rfl)⟩) ⟨wPre_blind, w_recv hS.2.1 hK.1 (by decide) (zkd_of (rfl : zcd wR 0 = 50) rfl) (by decide) (rfl : vwCl[12]? = some (RX12, TX12, 50)), w_pre hS.2.1 hK⟩ rfl rfl hl.1 rfl (lv_room (Nat.le_of_ble_eq_true rfl)) dL_law_978 ⟨(by show cells + 0 ≤ 601024; omega), (by show slots + 0 ≤ 7293034; omega)⟩) hS hS0 (fun z6 M7 H locs r8 hp9 hS hS0 => ?_)
  have hE9 := hp9.2
  have hI := hp9.1
  refine lv_pop hx hb dL_law_981 rfl ?_
  refine lv_goto (tgt := 1585) hx hb dL_law_982 (by decide) ?_
  exact kk _ _ _ H locs _ _ ls hI hS (by omega) (by omega) hS0 (lv_sub hl [0, 1, 2, 3, 4] rfl)

set_option maxHeartbeats 4000000 in
set_option maxRecDepth 100000 in
theorem lc_23 {p : Program} {e : Env} {s : State} {m : MethodId} {below : List Frame} {meth : Method} {c : Code} {l : Launch} (hst : l.stackTraces = false) {b0 L n : Nat} {xs : Nat → Int32} (hL : L ≤ 2560) (C0 : lw_At p s m meth c b0 L xs) {D : va_G} {dA : Nat → ClassId} (hK : zKK D vwCl (z_tys dA) s) (hTw : zTw s) (hZ0 : zZ (yA s.heap.size) s s.heap) (hn : n + 5 ≤ L) {H : Heap} {locs : List Loc} {cells slots : Nat} {ls : Array Slot} {MC MR MO : zM} (hI : INV MC MR) (hS : LW3 D dA s.heap.size MC MR MO H) (hS0 : va_S (yA s.heap.size) s.heap H locs) (hl : lv_has ls 8 [(4, .int (iI (n : Int))), (3, .ref (s.heap.size + 168 + 0)), (2, .ref (s.heap.size + 134 + 0)), (1, .ref (s.heap.size + 0)), (0, .ref b0)]) (hcc : cells + 1 ≤ 601024) (hss : slots + 6 ≤ 7293034)
    (kk : ∀ (MC1 MR1 MO1 : zM) (H1 : Heap) (locs1 : List Loc) (c1 s1 : Nat) (ls1 : Array Slot), INV MC1 MR1 → LW3 D dA s.heap.size MC1 MR1 MO1 H1 → c1 ≤ cells + 1 → s1 ≤ slots + 6 → va_S (yA s.heap.size) s.heap H1 locs1 → lv_has ls1 8 [(4, .int (iI (n : Int))), (3, .ref (s.heap.size + 168 + 0)), (2, .ref (s.heap.size + 134 + 0)), (1, .ref (s.heap.size + 0)), (0, .ref b0)] → W p l e room_1 s m #[Value.ref b0] below meth c H1 locs1 c1 s1 (lw_Z below #[Value.ref b0] s) (F0 m 1585 ls1 [])) :
    W p l e room_1 s m #[Value.ref b0] below meth c H locs cells slots (lw_Z below #[Value.ref b0] s) (F0 m 985 ls []) := by
  obtain ⟨hx, hb, hr, hml, hown, htsL, hX, hbl, hlocks, hgv⟩ := id C0
  have hts := l_hts htsL
  have hbA : ¬ yA s.heap.size b0 := Nat.not_le.mpr hbl
  have hLb : L < 2147483648 := by omega
  obtain ⟨v1, rv1, ev1⟩ := iI_of (xs (n + 1))
  obtain ⟨v2, rv2, ev2⟩ := iI_of (xs (n + 2))
  refine lv_aload_n hx hb dL_law_985 rfl (lv_at hl 3 rfl) ?_
  refine lv_aload_n hx hb dL_law_986 rfl (lv_at hl 4 rfl) ?_
  refine lv_iload hx hb dL_law_987 (lv_at hl 0 rfl) ?_
  refine z_iconst hx hb dL_law_989 ?_
  refine z_iadd hx hb dL_law_990 ?_
  refine l_sld hx hb hX hbl hbA hS0 (k := n + 1) (v := v1) (by omega) (by omega) hLb ev1 dL_law_991 ?_
  refine lv_aload_n hx hb dL_law_992 rfl (lv_at hl 4 rfl) ?_
  refine lv_iload hx hb dL_law_993 (lv_at hl 0 rfl) ?_
  refine z_iconst hx hb dL_law_995 ?_
  refine z_iadd hx hb dL_law_996 ?_
  refine l_sld hx hb hX hbl hbA hS0 (k := n + 2) (v := v2) (by omega) (by omega) hLb ev2 dL_law_997 ?_
  have h1 := st_cut hI (a0 := v1) (a1 := v2) rv1 rv2
  refine l_wCi (va_runV (As := [.int (iI v1), .int (iI v2)]) (rest := []) ⟨hx, hb, hml, hown, hts⟩ (cC_cut l D dA s.heap.size MC v1 v2 _ h1) (cwV 2 hts (z_gV k670 k671 k672 k1 k673) rfl rfl rfl dm_X11_cut ⟨(Nat.le_of_ble_eq_true rfl), (Nat.le_of_ble_eq_true rfl)⟩) ⟨wPre_blind, w_recv hS.1 hK.1 (by decide) (zkd_of (rfl : zcd wC 0 = 0) rfl) (by decide) (rfl : vwCl[11]? = some (RX11, TX11, 11)), w_pre hS.1 hK⟩ rfl rfl hl.1 rfl (lv_room (Nat.le_of_ble_eq_true rfl)) dL_law_998 ⟨(by show cells + 0 ≤ 601024; omega), (by show slots + 0 ≤ 7293034; omega)⟩) hS hS0 (fun z2 M3 H locs r4 hp5 hS hS0 => ?_)
  refine lv_pop hx hb dL_law_1001 rfl ?_
  refine lv_aload_n hx hb dL_law_1002 rfl (lv_at hl 2 rfl) ?_
  refine lv_aload_n hx hb dL_law_1003 rfl (lv_at hl 4 rfl) ?_
  refine lv_iload hx hb dL_law_1004 (lv_at hl 0 rfl) ?_
  refine z_iconst hx hb dL_law_1006 ?_
  refine z_iadd hx hb dL_law_1007 ?_
  refine l_sld hx hb hX hbl hbA hS0 (k := n + 1) (v := v1) (by omega) (by omega) hLb ev1 dL_law_1008 ?_
  refine lv_aload_n hx hb dL_law_1009 rfl (lv_at hl 4 rfl) ?_
  refine lv_iload hx hb dL_law_1010 (lv_at hl 0 rfl) ?_
  refine z_iconst hx hb dL_law_1012 ?_
  refine z_iadd hx hb dL_law_1013 ?_
  refine l_sld hx hb hX hbl hbA hS0 (k := n + 2) (v := v2) (by omega) (by omega) hLb ev2 dL_law_1014 ?_
  refine l_wRi (va_runV (As := [.int (iI v1), .int (iI v2)]) (rest := []) ⟨hx, hb, hml, hown, hts⟩ (cR_cut l D dA (s.heap.size + 134) MR v1 v2 _ hp5) (cwV 2 hts (z_gV k1234 k1235 k1236 k14 k1237) rfl rfl rfl dm_X12_cut ⟨(Nat.le_of_ble_eq_true rfl), (Nat.le_of_ble_eq_true rfl)⟩) ⟨wPre_blind, w_recv hS.2.1 hK.1 (by decide) (zkd_of (rfl : zcd wR 0 = 50) rfl) (by decide) (rfl : vwCl[12]? = some (RX12, TX12, 50)), w_pre hS.2.1 hK⟩ rfl rfl hl.1 rfl (lv_room (Nat.le_of_ble_eq_true rfl)) dL_law_1015 ⟨(by show cells + 0 ≤ 601024; omega), (by show slots + 0 ≤ 7293034; omega)⟩) hS hS0 (fun z6 M7 H locs r8 hp9 hS hS0 => ?_)
  have hE9 := hp9.2
  have hI := hp9.1
  refine lv_pop hx hb dL_law_1018 rfl ?_
  refine lv_goto (tgt := 1585) hx hb dL_law_1019 (by decide) ?_
  exact kk _ _ _ H locs _ _ ls hI hS (by omega) (by omega) hS0 (lv_sub hl [0, 1, 2, 3, 4] rfl)

set_option maxHeartbeats 4000000 in
set_option maxRecDepth 100000 in
theorem lc_24 {p : Program} {e : Env} {s : State} {m : MethodId} {below : List Frame} {meth : Method} {c : Code} {l : Launch} (hst : l.stackTraces = false) {b0 L n : Nat} {xs : Nat → Int32} (hL : L ≤ 2560) (C0 : lw_At p s m meth c b0 L xs) {D : va_G} {dA : Nat → ClassId} (hK : zKK D vwCl (z_tys dA) s) (hTw : zTw s) (hZ0 : zZ (yA s.heap.size) s s.heap) (hn : n + 5 ≤ L) {H : Heap} {locs : List Loc} {cells slots : Nat} {ls : Array Slot} {MC MR MO : zM} (hI : INV MC MR) (hS : LW3 D dA s.heap.size MC MR MO H) (hS0 : va_S (yA s.heap.size) s.heap H locs) (hl : lv_has ls 8 [(4, .int (iI (n : Int))), (3, .ref (s.heap.size + 168 + 0)), (2, .ref (s.heap.size + 134 + 0)), (1, .ref (s.heap.size + 0)), (0, .ref b0)]) (hcc : cells + 1 ≤ 601024) (hss : slots + 6 ≤ 7293034)
    (kk : ∀ (MC1 MR1 MO1 : zM) (H1 : Heap) (locs1 : List Loc) (c1 s1 : Nat) (ls1 : Array Slot), INV MC1 MR1 → LW3 D dA s.heap.size MC1 MR1 MO1 H1 → c1 ≤ cells + 1 → s1 ≤ slots + 6 → va_S (yA s.heap.size) s.heap H1 locs1 → lv_has ls1 8 [(4, .int (iI (n : Int))), (3, .ref (s.heap.size + 168 + 0)), (2, .ref (s.heap.size + 134 + 0)), (1, .ref (s.heap.size + 0)), (0, .ref b0)] → W p l e room_1 s m #[Value.ref b0] below meth c H1 locs1 c1 s1 (lw_Z below #[Value.ref b0] s) (F0 m 1585 ls1 [])) :
    W p l e room_1 s m #[Value.ref b0] below meth c H locs cells slots (lw_Z below #[Value.ref b0] s) (F0 m 1022 ls []) := by
  obtain ⟨hx, hb, hr, hml, hown, htsL, hX, hbl, hlocks, hgv⟩ := id C0
  have hts := l_hts htsL
  have hbA : ¬ yA s.heap.size b0 := Nat.not_le.mpr hbl
  have hLb : L < 2147483648 := by omega
  obtain ⟨v1, rv1, ev1⟩ := iI_of (xs (n + 1))
  obtain ⟨v2, rv2, ev2⟩ := iI_of (xs (n + 2))
  refine lv_aload_n hx hb dL_law_1022 rfl (lv_at hl 3 rfl) ?_
  refine lv_aload_n hx hb dL_law_1023 rfl (lv_at hl 4 rfl) ?_
  refine lv_iload hx hb dL_law_1024 (lv_at hl 0 rfl) ?_
  refine z_iconst hx hb dL_law_1026 ?_
  refine z_iadd hx hb dL_law_1027 ?_
  refine l_sld hx hb hX hbl hbA hS0 (k := n + 1) (v := v1) (by omega) (by omega) hLb ev1 dL_law_1028 ?_
  refine lv_aload_n hx hb dL_law_1029 rfl (lv_at hl 4 rfl) ?_
  refine lv_iload hx hb dL_law_1030 (lv_at hl 0 rfl) ?_
  refine z_iconst hx hb dL_law_1032 ?_
  refine z_iadd hx hb dL_law_1033 ?_
  refine l_sld hx hb hX hbl hbA hS0 (k := n + 2) (v := v2) (by omega) (by omega) hLb ev2 dL_law_1034 ?_
  have h1 := st_weight hI (a0 := v1) (a1 := v2) rv1 rv2
  refine l_wCi (va_runV (As := [.int (iI v1), .int (iI v2)]) (rest := []) ⟨hx, hb, hml, hown, hts⟩ (cC_weight l D dA s.heap.size MC v1 v2 _ h1) (cwV 2 hts (z_gV k675 k676 k677 k1 k678) rfl rfl rfl dm_X11_weight ⟨(Nat.le_of_ble_eq_true rfl), (Nat.le_of_ble_eq_true rfl)⟩) ⟨wPre_blind, w_recv hS.1 hK.1 (by decide) (zkd_of (rfl : zcd wC 0 = 0) rfl) (by decide) (rfl : vwCl[11]? = some (RX11, TX11, 11)), w_pre hS.1 hK⟩ rfl rfl hl.1 rfl (lv_room (Nat.le_of_ble_eq_true rfl)) dL_law_1035 ⟨(by show cells + 0 ≤ 601024; omega), (by show slots + 0 ≤ 7293034; omega)⟩) hS hS0 (fun z2 M3 H locs r4 hp5 hS hS0 => ?_)
  refine lv_pop hx hb dL_law_1038 rfl ?_
  refine lv_aload_n hx hb dL_law_1039 rfl (lv_at hl 2 rfl) ?_
  refine lv_aload_n hx hb dL_law_1040 rfl (lv_at hl 4 rfl) ?_
  refine lv_iload hx hb dL_law_1041 (lv_at hl 0 rfl) ?_
  refine z_iconst hx hb dL_law_1043 ?_
  refine z_iadd hx hb dL_law_1044 ?_
  refine l_sld hx hb hX hbl hbA hS0 (k := n + 1) (v := v1) (by omega) (by omega) hLb ev1 dL_law_1045 ?_
  refine lv_aload_n hx hb dL_law_1046 rfl (lv_at hl 4 rfl) ?_
  refine lv_iload hx hb dL_law_1047 (lv_at hl 0 rfl) ?_
  refine z_iconst hx hb dL_law_1049 ?_
  refine z_iadd hx hb dL_law_1050 ?_
  refine l_sld hx hb hX hbl hbA hS0 (k := n + 2) (v := v2) (by omega) (by omega) hLb ev2 dL_law_1051 ?_
  refine l_wRi (va_runV (As := [.int (iI v1), .int (iI v2)]) (rest := []) ⟨hx, hb, hml, hown, hts⟩ (cR_weight l D dA (s.heap.size + 134) MR v1 v2 _ hp5) (cwV 2 hts (z_gV k1238 k1239 k1240 k14 k1241) rfl rfl rfl dm_X12_weight ⟨(Nat.le_of_ble_eq_true rfl), (Nat.le_of_ble_eq_true rfl)⟩) ⟨wPre_blind, w_recv hS.2.1 hK.1 (by decide) (zkd_of (rfl : zcd wR 0 = 50) rfl) (by decide) (rfl : vwCl[12]? = some (RX12, TX12, 50)), w_pre hS.2.1 hK⟩ rfl rfl hl.1 rfl (lv_room (Nat.le_of_ble_eq_true rfl)) dL_law_1052 ⟨(by show cells + 0 ≤ 601024; omega), (by show slots + 0 ≤ 7293034; omega)⟩) hS hS0 (fun z6 M7 H locs r8 hp9 hS hS0 => ?_)
  have hE9 := hp9.2
  have hI := hp9.1
  refine lv_pop hx hb dL_law_1055 rfl ?_
  refine lv_goto (tgt := 1585) hx hb dL_law_1056 (by decide) ?_
  exact kk _ _ _ H locs _ _ ls hI hS (by omega) (by omega) hS0 (lv_sub hl [0, 1, 2, 3, 4] rfl)

set_option maxHeartbeats 4000000 in
set_option maxRecDepth 100000 in
theorem lc_25 {p : Program} {e : Env} {s : State} {m : MethodId} {below : List Frame} {meth : Method} {c : Code} {l : Launch} (hst : l.stackTraces = false) {b0 L n : Nat} {xs : Nat → Int32} (hL : L ≤ 2560) (C0 : lw_At p s m meth c b0 L xs) {D : va_G} {dA : Nat → ClassId} (hK : zKK D vwCl (z_tys dA) s) (hTw : zTw s) (hZ0 : zZ (yA s.heap.size) s s.heap) (hn : n + 5 ≤ L) {H : Heap} {locs : List Loc} {cells slots : Nat} {ls : Array Slot} {MC MR MO : zM} (hI : INV MC MR) (hS : LW3 D dA s.heap.size MC MR MO H) (hS0 : va_S (yA s.heap.size) s.heap H locs) (hl : lv_has ls 8 [(4, .int (iI (n : Int))), (3, .ref (s.heap.size + 168 + 0)), (2, .ref (s.heap.size + 134 + 0)), (1, .ref (s.heap.size + 0)), (0, .ref b0)]) (hcc : cells + 1 ≤ 601024) (hss : slots + 6 ≤ 7293034)
    (kk : ∀ (MC1 MR1 MO1 : zM) (H1 : Heap) (locs1 : List Loc) (c1 s1 : Nat) (ls1 : Array Slot), INV MC1 MR1 → LW3 D dA s.heap.size MC1 MR1 MO1 H1 → c1 ≤ cells + 1 → s1 ≤ slots + 6 → va_S (yA s.heap.size) s.heap H1 locs1 → lv_has ls1 8 [(4, .int (iI (n : Int))), (3, .ref (s.heap.size + 168 + 0)), (2, .ref (s.heap.size + 134 + 0)), (1, .ref (s.heap.size + 0)), (0, .ref b0)] → W p l e room_1 s m #[Value.ref b0] below meth c H1 locs1 c1 s1 (lw_Z below #[Value.ref b0] s) (F0 m 1585 ls1 [])) :
    W p l e room_1 s m #[Value.ref b0] below meth c H locs cells slots (lw_Z below #[Value.ref b0] s) (F0 m 1059 ls []) := by
  obtain ⟨hx, hb, hr, hml, hown, htsL, hX, hbl, hlocks, hgv⟩ := id C0
  have hts := l_hts htsL
  have hbA : ¬ yA s.heap.size b0 := Nat.not_le.mpr hbl
  have hLb : L < 2147483648 := by omega
  obtain ⟨v1, rv1, ev1⟩ := iI_of (xs (n + 1))
  obtain ⟨v2, rv2, ev2⟩ := iI_of (xs (n + 2))
  obtain ⟨v3, rv3, ev3⟩ := iI_of (xs (n + 3))
  obtain ⟨v4, rv4, ev4⟩ := iI_of (xs (n + 4))
  refine lv_aload_n hx hb dL_law_1059 rfl (lv_at hl 3 rfl) ?_
  refine lv_aload_n hx hb dL_law_1060 rfl (lv_at hl 4 rfl) ?_
  refine lv_iload hx hb dL_law_1061 (lv_at hl 0 rfl) ?_
  refine z_iconst hx hb dL_law_1063 ?_
  refine z_iadd hx hb dL_law_1064 ?_
  refine l_sld hx hb hX hbl hbA hS0 (k := n + 1) (v := v1) (by omega) (by omega) hLb ev1 dL_law_1065 ?_
  refine lv_aload_n hx hb dL_law_1066 rfl (lv_at hl 4 rfl) ?_
  refine lv_iload hx hb dL_law_1067 (lv_at hl 0 rfl) ?_
  refine z_iconst hx hb dL_law_1069 ?_
  refine z_iadd hx hb dL_law_1070 ?_
  refine l_sld hx hb hX hbl hbA hS0 (k := n + 2) (v := v2) (by omega) (by omega) hLb ev2 dL_law_1071 ?_
  refine lv_aload_n hx hb dL_law_1072 rfl (lv_at hl 4 rfl) ?_
  refine lv_iload hx hb dL_law_1073 (lv_at hl 0 rfl) ?_
  refine z_iconst hx hb dL_law_1075 ?_
  refine z_iadd hx hb dL_law_1076 ?_
  refine l_sld hx hb hX hbl hbA hS0 (k := n + 3) (v := v3) (by omega) (by omega) hLb ev3 dL_law_1077 ?_
  refine lv_aload_n hx hb dL_law_1078 rfl (lv_at hl 4 rfl) ?_
  refine lv_iload hx hb dL_law_1079 (lv_at hl 0 rfl) ?_
  refine z_iconst hx hb dL_law_1081 ?_
  refine z_iadd hx hb dL_law_1082 ?_
  refine l_sld hx hb hX hbl hbA hS0 (k := n + 4) (v := v4) (by omega) (by omega) hLb ev4 dL_law_1083 ?_
  have h1 := st_heads hI (a0 := v1) (a1 := v2) (a2 := v3) (a3 := v4) rv1 rv2 rv3 rv4
  refine l_wCz (va_runV (As := [.int (iI v1), .int (iI v2), .int (iI v3), .int (iI v4)]) (rest := []) ⟨hx, hb, hml, hown, hts⟩ (cC_heads l D dA s.heap.size MC v1 v2 v3 v4 _ h1) (cwV 4 hts (z_gV k683 k684 k685 k1 k686) rfl rfl rfl dm_X11_heads ⟨(Nat.le_of_ble_eq_true rfl), (Nat.le_of_ble_eq_true rfl)⟩) ⟨wPre_blind, w_recv hS.1 hK.1 (by decide) (zkd_of (rfl : zcd wC 0 = 0) rfl) (by decide) (rfl : vwCl[11]? = some (RX11, TX11, 11)), w_pre hS.1 hK⟩ rfl rfl hl.1 rfl (lv_room (Nat.le_of_ble_eq_true rfl)) dL_law_1084 ⟨(by show cells + 0 ≤ 601024; omega), (by show slots + 0 ≤ 7293034; omega)⟩) hS hS0 (fun z2 M3 H locs r4 hp5 hS hS0 => ?_)
  refine lv_pop hx hb dL_law_1087 rfl ?_
  refine lv_aload_n hx hb dL_law_1088 rfl (lv_at hl 2 rfl) ?_
  refine lv_aload_n hx hb dL_law_1089 rfl (lv_at hl 4 rfl) ?_
  refine lv_iload hx hb dL_law_1090 (lv_at hl 0 rfl) ?_
  refine z_iconst hx hb dL_law_1092 ?_
  refine z_iadd hx hb dL_law_1093 ?_
  refine l_sld hx hb hX hbl hbA hS0 (k := n + 1) (v := v1) (by omega) (by omega) hLb ev1 dL_law_1094 ?_
  refine lv_aload_n hx hb dL_law_1095 rfl (lv_at hl 4 rfl) ?_
  refine lv_iload hx hb dL_law_1096 (lv_at hl 0 rfl) ?_
  refine z_iconst hx hb dL_law_1098 ?_
  refine z_iadd hx hb dL_law_1099 ?_
  refine l_sld hx hb hX hbl hbA hS0 (k := n + 2) (v := v2) (by omega) (by omega) hLb ev2 dL_law_1100 ?_
  refine lv_aload_n hx hb dL_law_1101 rfl (lv_at hl 4 rfl) ?_
  refine lv_iload hx hb dL_law_1102 (lv_at hl 0 rfl) ?_
  refine z_iconst hx hb dL_law_1104 ?_
  refine z_iadd hx hb dL_law_1105 ?_
  refine l_sld hx hb hX hbl hbA hS0 (k := n + 3) (v := v3) (by omega) (by omega) hLb ev3 dL_law_1106 ?_
  refine lv_aload_n hx hb dL_law_1107 rfl (lv_at hl 4 rfl) ?_
  refine lv_iload hx hb dL_law_1108 (lv_at hl 0 rfl) ?_
  refine z_iconst hx hb dL_law_1110 ?_
  refine z_iadd hx hb dL_law_1111 ?_
  refine l_sld hx hb hX hbl hbA hS0 (k := n + 4) (v := v4) (by omega) (by omega) hLb ev4 dL_law_1112 ?_
  refine l_wRz (va_runV (As := [.int (iI v1), .int (iI v2), .int (iI v3), .int (iI v4)]) (rest := []) ⟨hx, hb, hml, hown, hts⟩ (cR_heads l D dA (s.heap.size + 134) MR v1 v2 v3 v4 _ hp5) (cwV 4 hts (z_gV k1242 k1243 k1244 k14 k1245) rfl rfl rfl dm_X12_heads ⟨(Nat.le_of_ble_eq_true rfl), (Nat.le_of_ble_eq_true rfl)⟩) ⟨wPre_blind, w_recv hS.2.1 hK.1 (by decide) (zkd_of (rfl : zcd wR 0 = 50) rfl) (by decide) (rfl : vwCl[12]? = some (RX12, TX12, 50)), w_pre hS.2.1 hK⟩ rfl rfl hl.1 rfl (lv_room (Nat.le_of_ble_eq_true rfl)) dL_law_1113 ⟨(by show cells + 0 ≤ 601024; omega), (by show slots + 0 ≤ 7293034; omega)⟩) hS hS0 (fun z6 M7 H locs r8 hp9 hS hS0 => ?_)
  have hE9 := hp9.2
  have hI := hp9.1
  refine lv_pop hx hb dL_law_1116 rfl ?_
  refine lv_goto (tgt := 1585) hx hb dL_law_1117 (by decide) ?_
  exact kk _ _ _ H locs _ _ ls hI hS (by omega) (by omega) hS0 (lv_sub hl [0, 1, 2, 3, 4] rfl)

set_option maxHeartbeats 4000000 in
set_option maxRecDepth 100000 in
theorem lc_26 {p : Program} {e : Env} {s : State} {m : MethodId} {below : List Frame} {meth : Method} {c : Code} {l : Launch} (hst : l.stackTraces = false) {b0 L n : Nat} {xs : Nat → Int32} (hL : L ≤ 2560) (C0 : lw_At p s m meth c b0 L xs) {D : va_G} {dA : Nat → ClassId} (hK : zKK D vwCl (z_tys dA) s) (hTw : zTw s) (hZ0 : zZ (yA s.heap.size) s s.heap) (hn : n + 5 ≤ L) {H : Heap} {locs : List Loc} {cells slots : Nat} {ls : Array Slot} {MC MR MO : zM} (hI : INV MC MR) (hS : LW3 D dA s.heap.size MC MR MO H) (hS0 : va_S (yA s.heap.size) s.heap H locs) (hl : lv_has ls 8 [(4, .int (iI (n : Int))), (3, .ref (s.heap.size + 168 + 0)), (2, .ref (s.heap.size + 134 + 0)), (1, .ref (s.heap.size + 0)), (0, .ref b0)]) (hcc : cells + 1 ≤ 601024) (hss : slots + 6 ≤ 7293034)
    (kk : ∀ (MC1 MR1 MO1 : zM) (H1 : Heap) (locs1 : List Loc) (c1 s1 : Nat) (ls1 : Array Slot), INV MC1 MR1 → LW3 D dA s.heap.size MC1 MR1 MO1 H1 → c1 ≤ cells + 1 → s1 ≤ slots + 6 → va_S (yA s.heap.size) s.heap H1 locs1 → lv_has ls1 8 [(4, .int (iI (n : Int))), (3, .ref (s.heap.size + 168 + 0)), (2, .ref (s.heap.size + 134 + 0)), (1, .ref (s.heap.size + 0)), (0, .ref b0)] → W p l e room_1 s m #[Value.ref b0] below meth c H1 locs1 c1 s1 (lw_Z below #[Value.ref b0] s) (F0 m 1585 ls1 [])) :
    W p l e room_1 s m #[Value.ref b0] below meth c H locs cells slots (lw_Z below #[Value.ref b0] s) (F0 m 1120 ls []) := by
  obtain ⟨hx, hb, hr, hml, hown, htsL, hX, hbl, hlocks, hgv⟩ := id C0
  have hts := l_hts htsL
  have hbA : ¬ yA s.heap.size b0 := Nat.not_le.mpr hbl
  have hLb : L < 2147483648 := by omega
  obtain ⟨v1, rv1, ev1⟩ := iI_of (xs (n + 1))
  refine lv_aload_n hx hb dL_law_1120 rfl (lv_at hl 3 rfl) ?_
  refine lv_aload_n hx hb dL_law_1121 rfl (lv_at hl 4 rfl) ?_
  refine lv_iload hx hb dL_law_1122 (lv_at hl 0 rfl) ?_
  refine z_iconst hx hb dL_law_1124 ?_
  refine z_iadd hx hb dL_law_1125 ?_
  refine l_sld hx hb hX hbl hbA hS0 (k := n + 1) (v := v1) (by omega) (by omega) hLb ev1 dL_law_1126 ?_
  have h1 := st_stop hI (a0 := v1) rv1
  refine l_wCi (va_runV (As := [.int (iI v1)]) (rest := []) ⟨hx, hb, hml, hown, hts⟩ (cC_stop l D dA s.heap.size MC v1 _ h1) (cwV 1 hts (z_gV k691 k692 k693 k1 k694) rfl rfl rfl dm_X11_stop ⟨(Nat.le_of_ble_eq_true rfl), (Nat.le_of_ble_eq_true rfl)⟩) ⟨wPre_blind, w_recv hS.1 hK.1 (by decide) (zkd_of (rfl : zcd wC 0 = 0) rfl) (by decide) (rfl : vwCl[11]? = some (RX11, TX11, 11)), w_pre hS.1 hK⟩ rfl rfl hl.1 rfl (lv_room (Nat.le_of_ble_eq_true rfl)) dL_law_1127 ⟨(by show cells + 0 ≤ 601024; omega), (by show slots + 0 ≤ 7293034; omega)⟩) hS hS0 (fun z2 M3 H locs r4 hp5 hS hS0 => ?_)
  refine lv_pop hx hb dL_law_1130 rfl ?_
  refine lv_aload_n hx hb dL_law_1131 rfl (lv_at hl 2 rfl) ?_
  refine lv_aload_n hx hb dL_law_1132 rfl (lv_at hl 4 rfl) ?_
  refine lv_iload hx hb dL_law_1133 (lv_at hl 0 rfl) ?_
  refine z_iconst hx hb dL_law_1135 ?_
  refine z_iadd hx hb dL_law_1136 ?_
  refine l_sld hx hb hX hbl hbA hS0 (k := n + 1) (v := v1) (by omega) (by omega) hLb ev1 dL_law_1137 ?_
  refine l_wRi (va_runV (As := [.int (iI v1)]) (rest := []) ⟨hx, hb, hml, hown, hts⟩ (cR_stop l D dA (s.heap.size + 134) MR v1 _ hp5) (cwV 1 hts (z_gV k1246 k1247 k1248 k14 k1249) rfl rfl rfl dm_X12_stop ⟨(Nat.le_of_ble_eq_true rfl), (Nat.le_of_ble_eq_true rfl)⟩) ⟨wPre_blind, w_recv hS.2.1 hK.1 (by decide) (zkd_of (rfl : zcd wR 0 = 50) rfl) (by decide) (rfl : vwCl[12]? = some (RX12, TX12, 50)), w_pre hS.2.1 hK⟩ rfl rfl hl.1 rfl (lv_room (Nat.le_of_ble_eq_true rfl)) dL_law_1138 ⟨(by show cells + 0 ≤ 601024; omega), (by show slots + 0 ≤ 7293034; omega)⟩) hS hS0 (fun z6 M7 H locs r8 hp9 hS hS0 => ?_)
  have hE9 := hp9.2
  have hI := hp9.1
  refine lv_pop hx hb dL_law_1141 rfl ?_
  refine lv_goto (tgt := 1585) hx hb dL_law_1142 (by decide) ?_
  exact kk _ _ _ H locs _ _ ls hI hS (by omega) (by omega) hS0 (lv_sub hl [0, 1, 2, 3, 4] rfl)

set_option maxHeartbeats 4000000 in
set_option maxRecDepth 100000 in
theorem lc_27 {p : Program} {e : Env} {s : State} {m : MethodId} {below : List Frame} {meth : Method} {c : Code} {l : Launch} (hst : l.stackTraces = false) {b0 L n : Nat} {xs : Nat → Int32} (hL : L ≤ 2560) (C0 : lw_At p s m meth c b0 L xs) {D : va_G} {dA : Nat → ClassId} (hK : zKK D vwCl (z_tys dA) s) (hTw : zTw s) (hZ0 : zZ (yA s.heap.size) s s.heap) (hn : n + 5 ≤ L) {H : Heap} {locs : List Loc} {cells slots : Nat} {ls : Array Slot} {MC MR MO : zM} (hI : INV MC MR) (hS : LW3 D dA s.heap.size MC MR MO H) (hS0 : va_S (yA s.heap.size) s.heap H locs) (hl : lv_has ls 8 [(4, .int (iI (n : Int))), (3, .ref (s.heap.size + 168 + 0)), (2, .ref (s.heap.size + 134 + 0)), (1, .ref (s.heap.size + 0)), (0, .ref b0)]) (hcc : cells + 1 ≤ 601024) (hss : slots + 6 ≤ 7293034)
    (kk : ∀ (MC1 MR1 MO1 : zM) (H1 : Heap) (locs1 : List Loc) (c1 s1 : Nat) (ls1 : Array Slot), INV MC1 MR1 → LW3 D dA s.heap.size MC1 MR1 MO1 H1 → c1 ≤ cells + 1 → s1 ≤ slots + 6 → va_S (yA s.heap.size) s.heap H1 locs1 → lv_has ls1 8 [(4, .int (iI (n : Int))), (3, .ref (s.heap.size + 168 + 0)), (2, .ref (s.heap.size + 134 + 0)), (1, .ref (s.heap.size + 0)), (0, .ref b0)] → W p l e room_1 s m #[Value.ref b0] below meth c H1 locs1 c1 s1 (lw_Z below #[Value.ref b0] s) (F0 m 1585 ls1 [])) :
    W p l e room_1 s m #[Value.ref b0] below meth c H locs cells slots (lw_Z below #[Value.ref b0] s) (F0 m 1145 ls []) := by
  obtain ⟨hx, hb, hr, hml, hown, htsL, hX, hbl, hlocks, hgv⟩ := id C0
  have hts := l_hts htsL
  have hbA : ¬ yA s.heap.size b0 := Nat.not_le.mpr hbl
  have hLb : L < 2147483648 := by omega
  obtain ⟨v1, rv1, ev1⟩ := iI_of (xs (n + 1))
  refine lv_aload_n hx hb dL_law_1145 rfl (lv_at hl 3 rfl) ?_
  refine lv_aload_n hx hb dL_law_1146 rfl (lv_at hl 4 rfl) ?_
  refine lv_iload hx hb dL_law_1147 (lv_at hl 0 rfl) ?_
  refine z_iconst hx hb dL_law_1149 ?_
  refine z_iadd hx hb dL_law_1150 ?_
  refine l_sld hx hb hX hbl hbA hS0 (k := n + 1) (v := v1) (by omega) (by omega) hLb ev1 dL_law_1151 ?_
  have h1 := st_out hI (a0 := v1) rv1
  refine l_wCi (va_runV (As := [.int (iI v1)]) (rest := []) ⟨hx, hb, hml, hown, hts⟩ (cC_out l D dA s.heap.size MC v1 _ h1) (cwV 1 hts (z_gV k695 k696 k697 k1 k698) rfl rfl rfl dm_X11_out ⟨(Nat.le_of_ble_eq_true rfl), (Nat.le_of_ble_eq_true rfl)⟩) ⟨wPre_blind, w_recv hS.1 hK.1 (by decide) (zkd_of (rfl : zcd wC 0 = 0) rfl) (by decide) (rfl : vwCl[11]? = some (RX11, TX11, 11)), w_pre hS.1 hK⟩ rfl rfl hl.1 rfl (lv_room (Nat.le_of_ble_eq_true rfl)) dL_law_1152 ⟨(by show cells + 0 ≤ 601024; omega), (by show slots + 0 ≤ 7293034; omega)⟩) hS hS0 (fun z2 M3 H locs r4 hp5 hS hS0 => ?_)
  refine lv_pop hx hb dL_law_1155 rfl ?_
  refine lv_aload_n hx hb dL_law_1156 rfl (lv_at hl 2 rfl) ?_
  refine lv_aload_n hx hb dL_law_1157 rfl (lv_at hl 4 rfl) ?_
  refine lv_iload hx hb dL_law_1158 (lv_at hl 0 rfl) ?_
  refine z_iconst hx hb dL_law_1160 ?_
  refine z_iadd hx hb dL_law_1161 ?_
  refine l_sld hx hb hX hbl hbA hS0 (k := n + 1) (v := v1) (by omega) (by omega) hLb ev1 dL_law_1162 ?_
  refine l_wRi (va_runV (As := [.int (iI v1)]) (rest := []) ⟨hx, hb, hml, hown, hts⟩ (cR_out l D dA (s.heap.size + 134) MR v1 _ hp5) (cwV 1 hts (z_gV k1250 k1251 k1252 k14 k1253) rfl rfl rfl dm_X12_out ⟨(Nat.le_of_ble_eq_true rfl), (Nat.le_of_ble_eq_true rfl)⟩) ⟨wPre_blind, w_recv hS.2.1 hK.1 (by decide) (zkd_of (rfl : zcd wR 0 = 50) rfl) (by decide) (rfl : vwCl[12]? = some (RX12, TX12, 50)), w_pre hS.2.1 hK⟩ rfl rfl hl.1 rfl (lv_room (Nat.le_of_ble_eq_true rfl)) dL_law_1163 ⟨(by show cells + 0 ≤ 601024; omega), (by show slots + 0 ≤ 7293034; omega)⟩) hS hS0 (fun z6 M7 H locs r8 hp9 hS hS0 => ?_)
  have hE9 := hp9.2
  have hI := hp9.1
  refine lv_pop hx hb dL_law_1166 rfl ?_
  refine lv_goto (tgt := 1585) hx hb dL_law_1167 (by decide) ?_
  exact kk _ _ _ H locs _ _ ls hI hS (by omega) (by omega) hS0 (lv_sub hl [0, 1, 2, 3, 4] rfl)

set_option maxHeartbeats 4000000 in
set_option maxRecDepth 100000 in
theorem lc_28 {p : Program} {e : Env} {s : State} {m : MethodId} {below : List Frame} {meth : Method} {c : Code} {l : Launch} (hst : l.stackTraces = false) {b0 L n : Nat} {xs : Nat → Int32} (hL : L ≤ 2560) (C0 : lw_At p s m meth c b0 L xs) {D : va_G} {dA : Nat → ClassId} (hK : zKK D vwCl (z_tys dA) s) (hTw : zTw s) (hZ0 : zZ (yA s.heap.size) s s.heap) (hn : n + 5 ≤ L) {H : Heap} {locs : List Loc} {cells slots : Nat} {ls : Array Slot} {MC MR MO : zM} (hI : INV MC MR) (hS : LW3 D dA s.heap.size MC MR MO H) (hS0 : va_S (yA s.heap.size) s.heap H locs) (hl : lv_has ls 8 [(4, .int (iI (n : Int))), (3, .ref (s.heap.size + 168 + 0)), (2, .ref (s.heap.size + 134 + 0)), (1, .ref (s.heap.size + 0)), (0, .ref b0)]) (hcc : cells + 1 ≤ 601024) (hss : slots + 6 ≤ 7293034)
    (kk : ∀ (MC1 MR1 MO1 : zM) (H1 : Heap) (locs1 : List Loc) (c1 s1 : Nat) (ls1 : Array Slot), INV MC1 MR1 → LW3 D dA s.heap.size MC1 MR1 MO1 H1 → c1 ≤ cells + 1 → s1 ≤ slots + 6 → va_S (yA s.heap.size) s.heap H1 locs1 → lv_has ls1 8 [(4, .int (iI (n : Int))), (3, .ref (s.heap.size + 168 + 0)), (2, .ref (s.heap.size + 134 + 0)), (1, .ref (s.heap.size + 0)), (0, .ref b0)] → W p l e room_1 s m #[Value.ref b0] below meth c H1 locs1 c1 s1 (lw_Z below #[Value.ref b0] s) (F0 m 1585 ls1 [])) :
    W p l e room_1 s m #[Value.ref b0] below meth c H locs cells slots (lw_Z below #[Value.ref b0] s) (F0 m 1170 ls []) := by
  obtain ⟨hx, hb, hr, hml, hown, htsL, hX, hbl, hlocks, hgv⟩ := id C0
  have hts := l_hts htsL
  have hbA : ¬ yA s.heap.size b0 := Nat.not_le.mpr hbl
  have hLb : L < 2147483648 := by omega
  refine lv_aload_n hx hb dL_law_1170 rfl (lv_at hl 3 rfl) ?_
  have h1 := st_dies hI  
  refine l_wCi (va_runV (As := []) (rest := []) ⟨hx, hb, hml, hown, hts⟩ (cC_dies l D dA s.heap.size MC  _ h1) (cwV 0 hts (z_gV k716 k717 k718 k1 k719) rfl rfl rfl dm_X11_dies ⟨(Nat.le_of_ble_eq_true rfl), (Nat.le_of_ble_eq_true rfl)⟩) ⟨wPre_blind, w_recv hS.1 hK.1 (by decide) (zkd_of (rfl : zcd wC 0 = 0) rfl) (by decide) (rfl : vwCl[11]? = some (RX11, TX11, 11)), w_pre hS.1 hK⟩ rfl rfl hl.1 rfl (lv_room (Nat.le_of_ble_eq_true rfl)) dL_law_1171 ⟨(by show cells + 0 ≤ 601024; omega), (by show slots + 0 ≤ 7293034; omega)⟩) hS hS0 (fun z2 M3 H locs r4 hp5 hS hS0 => ?_)
  refine lv_pop hx hb dL_law_1174 rfl ?_
  refine lv_aload_n hx hb dL_law_1175 rfl (lv_at hl 2 rfl) ?_
  refine l_wRi (va_runV (As := []) (rest := []) ⟨hx, hb, hml, hown, hts⟩ (cR_dies l D dA (s.heap.size + 134) MR  _ hp5) (cwV 0 hts (z_gV k1257 k1258 k1259 k14 k1260) rfl rfl rfl dm_X12_dies ⟨(Nat.le_of_ble_eq_true rfl), (Nat.le_of_ble_eq_true rfl)⟩) ⟨wPre_blind, w_recv hS.2.1 hK.1 (by decide) (zkd_of (rfl : zcd wR 0 = 50) rfl) (by decide) (rfl : vwCl[12]? = some (RX12, TX12, 50)), w_pre hS.2.1 hK⟩ rfl rfl hl.1 rfl (lv_room (Nat.le_of_ble_eq_true rfl)) dL_law_1176 ⟨(by show cells + 0 ≤ 601024; omega), (by show slots + 0 ≤ 7293034; omega)⟩) hS hS0 (fun z6 M7 H locs r8 hp9 hS hS0 => ?_)
  have hE9 := hp9.2
  have hI := hp9.1
  refine lv_pop hx hb dL_law_1179 rfl ?_
  refine lv_goto (tgt := 1585) hx hb dL_law_1180 (by decide) ?_
  exact kk _ _ _ H locs _ _ ls hI hS (by omega) (by omega) hS0 (lv_sub hl [0, 1, 2, 3, 4] rfl)

set_option maxHeartbeats 4000000 in
set_option maxRecDepth 100000 in
theorem lc_29 {p : Program} {e : Env} {s : State} {m : MethodId} {below : List Frame} {meth : Method} {c : Code} {l : Launch} (hst : l.stackTraces = false) {b0 L n : Nat} {xs : Nat → Int32} (hL : L ≤ 2560) (C0 : lw_At p s m meth c b0 L xs) {D : va_G} {dA : Nat → ClassId} (hK : zKK D vwCl (z_tys dA) s) (hTw : zTw s) (hZ0 : zZ (yA s.heap.size) s s.heap) (hn : n + 5 ≤ L) {H : Heap} {locs : List Loc} {cells slots : Nat} {ls : Array Slot} {MC MR MO : zM} (hI : INV MC MR) (hS : LW3 D dA s.heap.size MC MR MO H) (hS0 : va_S (yA s.heap.size) s.heap H locs) (hl : lv_has ls 8 [(4, .int (iI (n : Int))), (3, .ref (s.heap.size + 168 + 0)), (2, .ref (s.heap.size + 134 + 0)), (1, .ref (s.heap.size + 0)), (0, .ref b0)]) (hcc : cells + 1 ≤ 601024) (hss : slots + 6 ≤ 7293034)
    (kk : ∀ (MC1 MR1 MO1 : zM) (H1 : Heap) (locs1 : List Loc) (c1 s1 : Nat) (ls1 : Array Slot), INV MC1 MR1 → LW3 D dA s.heap.size MC1 MR1 MO1 H1 → c1 ≤ cells + 1 → s1 ≤ slots + 6 → va_S (yA s.heap.size) s.heap H1 locs1 → lv_has ls1 8 [(4, .int (iI (n : Int))), (3, .ref (s.heap.size + 168 + 0)), (2, .ref (s.heap.size + 134 + 0)), (1, .ref (s.heap.size + 0)), (0, .ref b0)] → W p l e room_1 s m #[Value.ref b0] below meth c H1 locs1 c1 s1 (lw_Z below #[Value.ref b0] s) (F0 m 1585 ls1 [])) :
    W p l e room_1 s m #[Value.ref b0] below meth c H locs cells slots (lw_Z below #[Value.ref b0] s) (F0 m 1183 ls []) := by
  obtain ⟨hx, hb, hr, hml, hown, htsL, hX, hbl, hlocks, hgv⟩ := id C0
  have hts := l_hts htsL
  have hbA : ¬ yA s.heap.size b0 := Nat.not_le.mpr hbl
  have hLb : L < 2147483648 := by omega
  obtain ⟨v1, rv1, ev1⟩ := iI_of (xs (n + 1))
  refine lv_aload_n hx hb dL_law_1183 rfl (lv_at hl 3 rfl) ?_
  refine lv_aload_n hx hb dL_law_1184 rfl (lv_at hl 4 rfl) ?_
  refine lv_iload hx hb dL_law_1185 (lv_at hl 0 rfl) ?_
  refine z_iconst hx hb dL_law_1187 ?_
  refine z_iadd hx hb dL_law_1188 ?_
  refine l_sld hx hb hX hbl hbA hS0 (k := n + 1) (v := v1) (by omega) (by omega) hLb ev1 dL_law_1189 ?_
  have h1 := st_tape hI (a0 := v1) rv1
  refine l_wCi (va_runV (As := [.int (iI v1)]) (rest := []) ⟨hx, hb, hml, hown, hts⟩ (cC_tape l D dA s.heap.size MC v1 _ h1) (cwV 1 hts (z_gV k734 k735 k736 k1 k737) rfl rfl rfl dm_X11_tape ⟨(Nat.le_of_ble_eq_true rfl), (Nat.le_of_ble_eq_true rfl)⟩) ⟨wPre_blind, w_recv hS.1 hK.1 (by decide) (zkd_of (rfl : zcd wC 0 = 0) rfl) (by decide) (rfl : vwCl[11]? = some (RX11, TX11, 11)), w_pre hS.1 hK⟩ rfl rfl hl.1 rfl (lv_room (Nat.le_of_ble_eq_true rfl)) dL_law_1190 ⟨(by show cells + 0 ≤ 601024; omega), (by show slots + 0 ≤ 7293034; omega)⟩) hS hS0 (fun z2 M3 H locs r4 hp5 hS hS0 => ?_)
  refine lv_pop hx hb dL_law_1193 rfl ?_
  refine lv_aload_n hx hb dL_law_1194 rfl (lv_at hl 2 rfl) ?_
  refine lv_aload_n hx hb dL_law_1195 rfl (lv_at hl 4 rfl) ?_
  refine lv_iload hx hb dL_law_1196 (lv_at hl 0 rfl) ?_
  refine z_iconst hx hb dL_law_1198 ?_
  refine z_iadd hx hb dL_law_1199 ?_
  refine l_sld hx hb hX hbl hbA hS0 (k := n + 1) (v := v1) (by omega) (by omega) hLb ev1 dL_law_1200 ?_
  refine l_wRi (va_runV (As := [.int (iI v1)]) (rest := []) ⟨hx, hb, hml, hown, hts⟩ (cR_tape l D dA (s.heap.size + 134) MR v1 _ hp5) (cwV 1 hts (z_gV k1264 k1265 k1266 k14 k1267) rfl rfl rfl dm_X12_tape ⟨(Nat.le_of_ble_eq_true rfl), (Nat.le_of_ble_eq_true rfl)⟩) ⟨wPre_blind, w_recv hS.2.1 hK.1 (by decide) (zkd_of (rfl : zcd wR 0 = 50) rfl) (by decide) (rfl : vwCl[12]? = some (RX12, TX12, 50)), w_pre hS.2.1 hK⟩ rfl rfl hl.1 rfl (lv_room (Nat.le_of_ble_eq_true rfl)) dL_law_1201 ⟨(by show cells + 0 ≤ 601024; omega), (by show slots + 0 ≤ 7293034; omega)⟩) hS hS0 (fun z6 M7 H locs r8 hp9 hS hS0 => ?_)
  have hE9 := hp9.2
  have hI := hp9.1
  refine lv_pop hx hb dL_law_1204 rfl ?_
  refine lv_goto (tgt := 1585) hx hb dL_law_1205 (by decide) ?_
  exact kk _ _ _ H locs _ _ ls hI hS (by omega) (by omega) hS0 (lv_sub hl [0, 1, 2, 3, 4] rfl)
