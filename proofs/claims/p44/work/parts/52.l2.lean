set_option maxHeartbeats 4000000 in
set_option maxRecDepth 100000 in
theorem lc_30 {p : Program} {e : Env} {s : State} {m : MethodId} {below : List Frame} {meth : Method} {c : Code} {l : Launch} (hst : l.stackTraces = false) {b0 L n : Nat} {xs : Nat → Int32} (hL : L ≤ 2560) (C0 : lw_At p s m meth c b0 L xs) {D : va_G} {dA : Nat → ClassId} (hK : zKK D vwCl (z_tys dA) s) (hTw : zTw s) (hZ0 : zZ (yA s.heap.size) s s.heap) (hn : n + 5 ≤ L) {H : Heap} {locs : List Loc} {cells slots : Nat} {ls : Array Slot} {MC MR MO : zM} (hI : INV MC MR) (hS : LW3 D dA s.heap.size MC MR MO H) (hS0 : va_S (yA s.heap.size) s.heap H locs) (hl : lv_has ls 8 [(4, .int (iI (n : Int))), (3, .ref (s.heap.size + 168 + 0)), (2, .ref (s.heap.size + 134 + 0)), (1, .ref (s.heap.size + 0)), (0, .ref b0)]) (hcc : cells + 1 ≤ 601024) (hss : slots + 6 ≤ 7293034)
    (kk : ∀ (MC1 MR1 MO1 : zM) (H1 : Heap) (locs1 : List Loc) (c1 s1 : Nat) (ls1 : Array Slot), INV MC1 MR1 → LW3 D dA s.heap.size MC1 MR1 MO1 H1 → c1 ≤ cells + 1 → s1 ≤ slots + 6 → va_S (yA s.heap.size) s.heap H1 locs1 → lv_has ls1 8 [(4, .int (iI (n : Int))), (3, .ref (s.heap.size + 168 + 0)), (2, .ref (s.heap.size + 134 + 0)), (1, .ref (s.heap.size + 0)), (0, .ref b0)] → W p l e room_1 s m #[Value.ref b0] below meth c H1 locs1 c1 s1 (lw_Z below #[Value.ref b0] s) (F0 m 1585 ls1 [])) :
    W p l e room_1 s m #[Value.ref b0] below meth c H locs cells slots (lw_Z below #[Value.ref b0] s) (F0 m 1208 ls []) := by
  obtain ⟨hx, hb, hr, hml, hown, htsL, hX, hbl, hlocks, hgv⟩ := id C0
  have hts := l_hts htsL
  have hbA : ¬ yA s.heap.size b0 := Nat.not_le.mpr hbl
  have hLb : L < 2147483648 := by omega
  obtain ⟨v1, rv1, ev1⟩ := iI_of (xs (n + 1))
  obtain ⟨v2, rv2, ev2⟩ := iI_of (xs (n + 2))
  refine lv_aload_n hx hb dL_law_1208 rfl (lv_at hl 3 rfl) ?_
  refine lv_aload_n hx hb dL_law_1209 rfl (lv_at hl 4 rfl) ?_
  refine lv_iload hx hb dL_law_1210 (lv_at hl 0 rfl) ?_
  refine z_iconst hx hb dL_law_1212 ?_
  refine z_iadd hx hb dL_law_1213 ?_
  refine l_sld hx hb hX hbl hbA hS0 (k := n + 1) (v := v1) (by omega) (by omega) hLb ev1 dL_law_1214 ?_
  refine lv_aload_n hx hb dL_law_1215 rfl (lv_at hl 4 rfl) ?_
  refine lv_iload hx hb dL_law_1216 (lv_at hl 0 rfl) ?_
  refine z_iconst hx hb dL_law_1218 ?_
  refine z_iadd hx hb dL_law_1219 ?_
  refine l_sld hx hb hX hbl hbA hS0 (k := n + 2) (v := v2) (by omega) (by omega) hLb ev2 dL_law_1220 ?_
  have h1 := st_take hI (a0 := v1) (a1 := v2) rv1 rv2
  refine l_wCz (va_runV (As := [.int (iI v1), .int (iI v2)]) (rest := []) ⟨hx, hb, hml, hown, hts⟩ (cC_take l D dA s.heap.size MC v1 v2 _ h1) (cwV 2 hts (z_gV k742 k743 k744 k1 k745) rfl rfl rfl dm_X11_take ⟨(Nat.le_of_ble_eq_true rfl), (Nat.le_of_ble_eq_true rfl)⟩) ⟨wPre_blind, w_recv hS.1 hK.1 (by decide) (zkd_of (rfl : zcd wC 0 = 0) rfl) (by decide) (rfl : vwCl[11]? = some (RX11, TX11, 11)), w_pre hS.1 hK⟩ rfl rfl hl.1 rfl (lv_room (Nat.le_of_ble_eq_true rfl)) dL_law_1221 ⟨(by show cells + 0 ≤ 601024; omega), (by show slots + 0 ≤ 7293034; omega)⟩) hS hS0 (fun z2 M3 H locs r4 hp5 hS hS0 => ?_)
  refine lv_pop hx hb dL_law_1224 rfl ?_
  refine lv_aload_n hx hb dL_law_1225 rfl (lv_at hl 2 rfl) ?_
  refine lv_aload_n hx hb dL_law_1226 rfl (lv_at hl 4 rfl) ?_
  refine lv_iload hx hb dL_law_1227 (lv_at hl 0 rfl) ?_
  refine z_iconst hx hb dL_law_1229 ?_
  refine z_iadd hx hb dL_law_1230 ?_
  refine l_sld hx hb hX hbl hbA hS0 (k := n + 1) (v := v1) (by omega) (by omega) hLb ev1 dL_law_1231 ?_
  refine lv_aload_n hx hb dL_law_1232 rfl (lv_at hl 4 rfl) ?_
  refine lv_iload hx hb dL_law_1233 (lv_at hl 0 rfl) ?_
  refine z_iconst hx hb dL_law_1235 ?_
  refine z_iadd hx hb dL_law_1236 ?_
  refine l_sld hx hb hX hbl hbA hS0 (k := n + 2) (v := v2) (by omega) (by omega) hLb ev2 dL_law_1237 ?_
  refine l_wRz (va_runV (As := [.int (iI v1), .int (iI v2)]) (rest := []) ⟨hx, hb, hml, hown, hts⟩ (cR_take l D dA (s.heap.size + 134) MR v1 v2 _ hp5) (cwV 2 hts (z_gV k1268 k1269 k1270 k14 k1271) rfl rfl rfl dm_X12_take ⟨(Nat.le_of_ble_eq_true rfl), (Nat.le_of_ble_eq_true rfl)⟩) ⟨wPre_blind, w_recv hS.2.1 hK.1 (by decide) (zkd_of (rfl : zcd wR 0 = 50) rfl) (by decide) (rfl : vwCl[12]? = some (RX12, TX12, 50)), w_pre hS.2.1 hK⟩ rfl rfl hl.1 rfl (lv_room (Nat.le_of_ble_eq_true rfl)) dL_law_1238 ⟨(by show cells + 0 ≤ 601024; omega), (by show slots + 0 ≤ 7293034; omega)⟩) hS hS0 (fun z6 M7 H locs r8 hp9 hS hS0 => ?_)
  have hE9 := hp9.2
  have hI := hp9.1
  refine lv_pop hx hb dL_law_1241 rfl ?_
  refine lv_goto (tgt := 1585) hx hb dL_law_1242 (by decide) ?_
  exact kk _ _ _ H locs _ _ ls hI hS (by omega) (by omega) hS0 (lv_sub hl [0, 1, 2, 3, 4] rfl)

set_option maxHeartbeats 4000000 in
set_option maxRecDepth 100000 in
theorem lc_31 {p : Program} {e : Env} {s : State} {m : MethodId} {below : List Frame} {meth : Method} {c : Code} {l : Launch} (hst : l.stackTraces = false) {b0 L n : Nat} {xs : Nat → Int32} (hL : L ≤ 2560) (C0 : lw_At p s m meth c b0 L xs) {D : va_G} {dA : Nat → ClassId} (hK : zKK D vwCl (z_tys dA) s) (hTw : zTw s) (hZ0 : zZ (yA s.heap.size) s s.heap) (hn : n + 5 ≤ L) {H : Heap} {locs : List Loc} {cells slots : Nat} {ls : Array Slot} {MC MR MO : zM} (hI : INV MC MR) (hS : LW3 D dA s.heap.size MC MR MO H) (hS0 : va_S (yA s.heap.size) s.heap H locs) (hl : lv_has ls 8 [(4, .int (iI (n : Int))), (3, .ref (s.heap.size + 168 + 0)), (2, .ref (s.heap.size + 134 + 0)), (1, .ref (s.heap.size + 0)), (0, .ref b0)]) (hcc : cells + 1 ≤ 601024) (hss : slots + 6 ≤ 7293034)
    (kk : ∀ (MC1 MR1 MO1 : zM) (H1 : Heap) (locs1 : List Loc) (c1 s1 : Nat) (ls1 : Array Slot), INV MC1 MR1 → LW3 D dA s.heap.size MC1 MR1 MO1 H1 → c1 ≤ cells + 1 → s1 ≤ slots + 6 → va_S (yA s.heap.size) s.heap H1 locs1 → lv_has ls1 8 [(4, .int (iI (n : Int))), (3, .ref (s.heap.size + 168 + 0)), (2, .ref (s.heap.size + 134 + 0)), (1, .ref (s.heap.size + 0)), (0, .ref b0)] → W p l e room_1 s m #[Value.ref b0] below meth c H1 locs1 c1 s1 (lw_Z below #[Value.ref b0] s) (F0 m 1585 ls1 [])) :
    W p l e room_1 s m #[Value.ref b0] below meth c H locs cells slots (lw_Z below #[Value.ref b0] s) (F0 m 1245 ls []) := by
  obtain ⟨hx, hb, hr, hml, hown, htsL, hX, hbl, hlocks, hgv⟩ := id C0
  have hts := l_hts htsL
  have hbA : ¬ yA s.heap.size b0 := Nat.not_le.mpr hbl
  have hLb : L < 2147483648 := by omega
  obtain ⟨v1, rv1, ev1⟩ := iI_of (xs (n + 1))
  refine lv_aload_n hx hb dL_law_1245 rfl (lv_at hl 3 rfl) ?_
  refine lv_aload_n hx hb dL_law_1246 rfl (lv_at hl 4 rfl) ?_
  refine lv_iload hx hb dL_law_1247 (lv_at hl 0 rfl) ?_
  refine z_iconst hx hb dL_law_1249 ?_
  refine z_iadd hx hb dL_law_1250 ?_
  refine l_sld hx hb hX hbl hbA hS0 (k := n + 1) (v := v1) (by omega) (by omega) hLb ev1 dL_law_1251 ?_
  have h1 := st_gap hI (a0 := v1) rv1
  refine l_wCz (va_runV (As := [.int (iI v1)]) (rest := []) ⟨hx, hb, hml, hown, hts⟩ (cC_gap l D dA s.heap.size MC v1 _ h1) (cwV 1 hts (z_gV k746 k747 k748 k1 k749) rfl rfl rfl dm_X11_gap ⟨(Nat.le_of_ble_eq_true rfl), (Nat.le_of_ble_eq_true rfl)⟩) ⟨wPre_blind, w_recv hS.1 hK.1 (by decide) (zkd_of (rfl : zcd wC 0 = 0) rfl) (by decide) (rfl : vwCl[11]? = some (RX11, TX11, 11)), w_pre hS.1 hK⟩ rfl rfl hl.1 rfl (lv_room (Nat.le_of_ble_eq_true rfl)) dL_law_1252 ⟨(by show cells + 0 ≤ 601024; omega), (by show slots + 0 ≤ 7293034; omega)⟩) hS hS0 (fun z2 M3 H locs r4 hp5 hS hS0 => ?_)
  refine lv_pop hx hb dL_law_1255 rfl ?_
  refine lv_aload_n hx hb dL_law_1256 rfl (lv_at hl 2 rfl) ?_
  refine lv_aload_n hx hb dL_law_1257 rfl (lv_at hl 4 rfl) ?_
  refine lv_iload hx hb dL_law_1258 (lv_at hl 0 rfl) ?_
  refine z_iconst hx hb dL_law_1260 ?_
  refine z_iadd hx hb dL_law_1261 ?_
  refine l_sld hx hb hX hbl hbA hS0 (k := n + 1) (v := v1) (by omega) (by omega) hLb ev1 dL_law_1262 ?_
  refine l_wRz (va_runV (As := [.int (iI v1)]) (rest := []) ⟨hx, hb, hml, hown, hts⟩ (cR_gap l D dA (s.heap.size + 134) MR v1 _ hp5) (cwV 1 hts (z_gV k1272 k1273 k1274 k14 k1275) rfl rfl rfl dm_X12_gap ⟨(Nat.le_of_ble_eq_true rfl), (Nat.le_of_ble_eq_true rfl)⟩) ⟨wPre_blind, w_recv hS.2.1 hK.1 (by decide) (zkd_of (rfl : zcd wR 0 = 50) rfl) (by decide) (rfl : vwCl[12]? = some (RX12, TX12, 50)), w_pre hS.2.1 hK⟩ rfl rfl hl.1 rfl (lv_room (Nat.le_of_ble_eq_true rfl)) dL_law_1263 ⟨(by show cells + 0 ≤ 601024; omega), (by show slots + 0 ≤ 7293034; omega)⟩) hS hS0 (fun z6 M7 H locs r8 hp9 hS hS0 => ?_)
  have hE9 := hp9.2
  have hI := hp9.1
  refine lv_pop hx hb dL_law_1266 rfl ?_
  refine lv_goto (tgt := 1585) hx hb dL_law_1267 (by decide) ?_
  exact kk _ _ _ H locs _ _ ls hI hS (by omega) (by omega) hS0 (lv_sub hl [0, 1, 2, 3, 4] rfl)

set_option maxHeartbeats 4000000 in
set_option maxRecDepth 100000 in
theorem lc_32 {p : Program} {e : Env} {s : State} {m : MethodId} {below : List Frame} {meth : Method} {c : Code} {l : Launch} (hst : l.stackTraces = false) {b0 L n : Nat} {xs : Nat → Int32} (hL : L ≤ 2560) (C0 : lw_At p s m meth c b0 L xs) {D : va_G} {dA : Nat → ClassId} (hK : zKK D vwCl (z_tys dA) s) (hTw : zTw s) (hZ0 : zZ (yA s.heap.size) s s.heap) (hn : n + 5 ≤ L) {H : Heap} {locs : List Loc} {cells slots : Nat} {ls : Array Slot} {MC MR MO : zM} (hI : INV MC MR) (hS : LW3 D dA s.heap.size MC MR MO H) (hS0 : va_S (yA s.heap.size) s.heap H locs) (hl : lv_has ls 8 [(4, .int (iI (n : Int))), (3, .ref (s.heap.size + 168 + 0)), (2, .ref (s.heap.size + 134 + 0)), (1, .ref (s.heap.size + 0)), (0, .ref b0)]) (hcc : cells + 1 ≤ 601024) (hss : slots + 6 ≤ 7293034)
    (kk : ∀ (MC1 MR1 MO1 : zM) (H1 : Heap) (locs1 : List Loc) (c1 s1 : Nat) (ls1 : Array Slot), INV MC1 MR1 → LW3 D dA s.heap.size MC1 MR1 MO1 H1 → c1 ≤ cells + 1 → s1 ≤ slots + 6 → va_S (yA s.heap.size) s.heap H1 locs1 → lv_has ls1 8 [(4, .int (iI (n : Int))), (3, .ref (s.heap.size + 168 + 0)), (2, .ref (s.heap.size + 134 + 0)), (1, .ref (s.heap.size + 0)), (0, .ref b0)] → W p l e room_1 s m #[Value.ref b0] below meth c H1 locs1 c1 s1 (lw_Z below #[Value.ref b0] s) (F0 m 1585 ls1 [])) :
    W p l e room_1 s m #[Value.ref b0] below meth c H locs cells slots (lw_Z below #[Value.ref b0] s) (F0 m 1270 ls []) := by
  obtain ⟨hx, hb, hr, hml, hown, htsL, hX, hbl, hlocks, hgv⟩ := id C0
  have hts := l_hts htsL
  have hbA : ¬ yA s.heap.size b0 := Nat.not_le.mpr hbl
  have hLb : L < 2147483648 := by omega
  refine lv_aload_n hx hb dL_law_1270 rfl (lv_at hl 3 rfl) ?_
  have h1 := st_wipe hI  
  refine l_wCi (va_runV (As := []) (rest := []) ⟨hx, hb, hml, hown, hts⟩ (cC_wipe l D dA s.heap.size MC  _ h1) (cwV 0 hts (z_gV k754 k755 k756 k1 k757) rfl rfl rfl dm_X11_wipe ⟨(Nat.le_of_ble_eq_true rfl), (Nat.le_of_ble_eq_true rfl)⟩) ⟨wPre_blind, w_recv hS.1 hK.1 (by decide) (zkd_of (rfl : zcd wC 0 = 0) rfl) (by decide) (rfl : vwCl[11]? = some (RX11, TX11, 11)), w_pre hS.1 hK⟩ rfl rfl hl.1 rfl (lv_room (Nat.le_of_ble_eq_true rfl)) dL_law_1271 ⟨(by show cells + 0 ≤ 601024; omega), (by show slots + 0 ≤ 7293034; omega)⟩) hS hS0 (fun z2 M3 H locs r4 hp5 hS hS0 => ?_)
  refine lv_pop hx hb dL_law_1274 rfl ?_
  refine lv_aload_n hx hb dL_law_1275 rfl (lv_at hl 2 rfl) ?_
  refine l_wRi (va_runV (As := []) (rest := []) ⟨hx, hb, hml, hown, hts⟩ (cR_wipe l D dA (s.heap.size + 134) MR  _ hp5) (cwV 0 hts (z_gV k1276 k1277 k1278 k14 k1279) rfl rfl rfl dm_X12_wipe ⟨(Nat.le_of_ble_eq_true rfl), (Nat.le_of_ble_eq_true rfl)⟩) ⟨wPre_blind, w_recv hS.2.1 hK.1 (by decide) (zkd_of (rfl : zcd wR 0 = 50) rfl) (by decide) (rfl : vwCl[12]? = some (RX12, TX12, 50)), w_pre hS.2.1 hK⟩ rfl rfl hl.1 rfl (lv_room (Nat.le_of_ble_eq_true rfl)) dL_law_1276 ⟨(by show cells + 0 ≤ 601024; omega), (by show slots + 0 ≤ 7293034; omega)⟩) hS hS0 (fun z6 M7 H locs r8 hp9 hS hS0 => ?_)
  have hE9 := hp9.2
  have hI := hp9.1
  refine lv_pop hx hb dL_law_1279 rfl ?_
  refine lv_goto (tgt := 1585) hx hb dL_law_1280 (by decide) ?_
  exact kk _ _ _ H locs _ _ ls hI hS (by omega) (by omega) hS0 (lv_sub hl [0, 1, 2, 3, 4] rfl)

set_option maxHeartbeats 4000000 in
set_option maxRecDepth 100000 in
theorem lc_33 {p : Program} {e : Env} {s : State} {m : MethodId} {below : List Frame} {meth : Method} {c : Code} {l : Launch} (hst : l.stackTraces = false) {b0 L n : Nat} {xs : Nat → Int32} (hL : L ≤ 2560) (C0 : lw_At p s m meth c b0 L xs) {D : va_G} {dA : Nat → ClassId} (hK : zKK D vwCl (z_tys dA) s) (hTw : zTw s) (hZ0 : zZ (yA s.heap.size) s s.heap) (hn : n + 5 ≤ L) {H : Heap} {locs : List Loc} {cells slots : Nat} {ls : Array Slot} {MC MR MO : zM} (hI : INV MC MR) (hS : LW3 D dA s.heap.size MC MR MO H) (hS0 : va_S (yA s.heap.size) s.heap H locs) (hl : lv_has ls 8 [(4, .int (iI (n : Int))), (3, .ref (s.heap.size + 168 + 0)), (2, .ref (s.heap.size + 134 + 0)), (1, .ref (s.heap.size + 0)), (0, .ref b0)]) (hcc : cells + 1 ≤ 601024) (hss : slots + 6 ≤ 7293034)
    (kk : ∀ (MC1 MR1 MO1 : zM) (H1 : Heap) (locs1 : List Loc) (c1 s1 : Nat) (ls1 : Array Slot), INV MC1 MR1 → LW3 D dA s.heap.size MC1 MR1 MO1 H1 → c1 ≤ cells + 1 → s1 ≤ slots + 6 → va_S (yA s.heap.size) s.heap H1 locs1 → lv_has ls1 8 [(4, .int (iI (n : Int))), (3, .ref (s.heap.size + 168 + 0)), (2, .ref (s.heap.size + 134 + 0)), (1, .ref (s.heap.size + 0)), (0, .ref b0)] → W p l e room_1 s m #[Value.ref b0] below meth c H1 locs1 c1 s1 (lw_Z below #[Value.ref b0] s) (F0 m 1585 ls1 [])) :
    W p l e room_1 s m #[Value.ref b0] below meth c H locs cells slots (lw_Z below #[Value.ref b0] s) (F0 m 1283 ls []) := by
  obtain ⟨hx, hb, hr, hml, hown, htsL, hX, hbl, hlocks, hgv⟩ := id C0
  have hts := l_hts htsL
  have hbA : ¬ yA s.heap.size b0 := Nat.not_le.mpr hbl
  have hLb : L < 2147483648 := by omega
  obtain ⟨v1, rv1, ev1⟩ := iI_of (xs (n + 1))
  refine lv_aload_n hx hb dL_law_1283 rfl (lv_at hl 3 rfl) ?_
  refine lv_aload_n hx hb dL_law_1284 rfl (lv_at hl 4 rfl) ?_
  refine lv_iload hx hb dL_law_1285 (lv_at hl 0 rfl) ?_
  refine z_iconst hx hb dL_law_1287 ?_
  refine z_iadd hx hb dL_law_1288 ?_
  refine l_sld hx hb hX hbl hbA hS0 (k := n + 1) (v := v1) (by omega) (by omega) hLb ev1 dL_law_1289 ?_
  have h1 := st_span hI (a0 := v1) rv1
  refine l_wCi (va_runV (As := [.int (iI v1)]) (rest := []) ⟨hx, hb, hml, hown, hts⟩ (cC_span l D dA s.heap.size MC v1 _ h1) (cwV 1 hts (z_gV k758 k759 k760 k1 k761) rfl rfl rfl dm_X11_span ⟨(Nat.le_of_ble_eq_true rfl), (Nat.le_of_ble_eq_true rfl)⟩) ⟨wPre_blind, w_recv hS.1 hK.1 (by decide) (zkd_of (rfl : zcd wC 0 = 0) rfl) (by decide) (rfl : vwCl[11]? = some (RX11, TX11, 11)), w_pre hS.1 hK⟩ rfl rfl hl.1 rfl (lv_room (Nat.le_of_ble_eq_true rfl)) dL_law_1290 ⟨(by show cells + 0 ≤ 601024; omega), (by show slots + 0 ≤ 7293034; omega)⟩) hS hS0 (fun z2 M3 H locs r4 hp5 hS hS0 => ?_)
  refine lv_pop hx hb dL_law_1293 rfl ?_
  refine lv_aload_n hx hb dL_law_1294 rfl (lv_at hl 2 rfl) ?_
  refine lv_aload_n hx hb dL_law_1295 rfl (lv_at hl 4 rfl) ?_
  refine lv_iload hx hb dL_law_1296 (lv_at hl 0 rfl) ?_
  refine z_iconst hx hb dL_law_1298 ?_
  refine z_iadd hx hb dL_law_1299 ?_
  refine l_sld hx hb hX hbl hbA hS0 (k := n + 1) (v := v1) (by omega) (by omega) hLb ev1 dL_law_1300 ?_
  refine l_wRi (va_runV (As := [.int (iI v1)]) (rest := []) ⟨hx, hb, hml, hown, hts⟩ (cR_span l D dA (s.heap.size + 134) MR v1 _ hp5) (cwV 1 hts (z_gV k1280 k1281 k1282 k14 k1283) rfl rfl rfl dm_X12_span ⟨(Nat.le_of_ble_eq_true rfl), (Nat.le_of_ble_eq_true rfl)⟩) ⟨wPre_blind, w_recv hS.2.1 hK.1 (by decide) (zkd_of (rfl : zcd wR 0 = 50) rfl) (by decide) (rfl : vwCl[12]? = some (RX12, TX12, 50)), w_pre hS.2.1 hK⟩ rfl rfl hl.1 rfl (lv_room (Nat.le_of_ble_eq_true rfl)) dL_law_1301 ⟨(by show cells + 0 ≤ 601024; omega), (by show slots + 0 ≤ 7293034; omega)⟩) hS hS0 (fun z6 M7 H locs r8 hp9 hS hS0 => ?_)
  have hE9 := hp9.2
  have hI := hp9.1
  refine lv_pop hx hb dL_law_1304 rfl ?_
  refine lv_goto (tgt := 1585) hx hb dL_law_1305 (by decide) ?_
  exact kk _ _ _ H locs _ _ ls hI hS (by omega) (by omega) hS0 (lv_sub hl [0, 1, 2, 3, 4] rfl)

set_option maxHeartbeats 4000000 in
set_option maxRecDepth 100000 in
theorem lc_34 {p : Program} {e : Env} {s : State} {m : MethodId} {below : List Frame} {meth : Method} {c : Code} {l : Launch} (hst : l.stackTraces = false) {b0 L n : Nat} {xs : Nat → Int32} (hL : L ≤ 2560) (C0 : lw_At p s m meth c b0 L xs) {D : va_G} {dA : Nat → ClassId} (hK : zKK D vwCl (z_tys dA) s) (hTw : zTw s) (hZ0 : zZ (yA s.heap.size) s s.heap) (hn : n + 5 ≤ L) {H : Heap} {locs : List Loc} {cells slots : Nat} {ls : Array Slot} {MC MR MO : zM} (hI : INV MC MR) (hS : LW3 D dA s.heap.size MC MR MO H) (hS0 : va_S (yA s.heap.size) s.heap H locs) (hl : lv_has ls 8 [(4, .int (iI (n : Int))), (3, .ref (s.heap.size + 168 + 0)), (2, .ref (s.heap.size + 134 + 0)), (1, .ref (s.heap.size + 0)), (0, .ref b0)]) (hcc : cells + 1 ≤ 601024) (hss : slots + 6 ≤ 7293034)
    (kk : ∀ (MC1 MR1 MO1 : zM) (H1 : Heap) (locs1 : List Loc) (c1 s1 : Nat) (ls1 : Array Slot), INV MC1 MR1 → LW3 D dA s.heap.size MC1 MR1 MO1 H1 → c1 ≤ cells + 1 → s1 ≤ slots + 6 → va_S (yA s.heap.size) s.heap H1 locs1 → lv_has ls1 8 [(4, .int (iI (n : Int))), (3, .ref (s.heap.size + 168 + 0)), (2, .ref (s.heap.size + 134 + 0)), (1, .ref (s.heap.size + 0)), (0, .ref b0)] → W p l e room_1 s m #[Value.ref b0] below meth c H1 locs1 c1 s1 (lw_Z below #[Value.ref b0] s) (F0 m 1585 ls1 [])) :
    W p l e room_1 s m #[Value.ref b0] below meth c H locs cells slots (lw_Z below #[Value.ref b0] s) (F0 m 1308 ls []) := by
  obtain ⟨hx, hb, hr, hml, hown, htsL, hX, hbl, hlocks, hgv⟩ := id C0
  have hts := l_hts htsL
  have hbA : ¬ yA s.heap.size b0 := Nat.not_le.mpr hbl
  have hLb : L < 2147483648 := by omega
  obtain ⟨v1, rv1, ev1⟩ := iI_of (xs (n + 1))
  refine lv_aload_n hx hb dL_law_1308 rfl (lv_at hl 3 rfl) ?_
  refine lv_aload_n hx hb dL_law_1309 rfl (lv_at hl 4 rfl) ?_
  refine lv_iload hx hb dL_law_1310 (lv_at hl 0 rfl) ?_
  refine z_iconst hx hb dL_law_1312 ?_
  refine z_iadd hx hb dL_law_1313 ?_
  refine l_sld hx hb hX hbl hbA hS0 (k := n + 1) (v := v1) (by omega) (by omega) hLb ev1 dL_law_1314 ?_
  have h1 := st_pair hI (a0 := v1) rv1
  refine l_wCi (va_runV (As := [.int (iI v1)]) (rest := []) ⟨hx, hb, hml, hown, hts⟩ (cC_pair l D dA s.heap.size MC v1 _ h1) (cwV 1 hts (z_gV k770 k771 k772 k1 k773) rfl rfl rfl dm_X11_pair ⟨(Nat.le_of_ble_eq_true rfl), (Nat.le_of_ble_eq_true rfl)⟩) ⟨wPre_blind, w_recv hS.1 hK.1 (by decide) (zkd_of (rfl : zcd wC 0 = 0) rfl) (by decide) (rfl : vwCl[11]? = some (RX11, TX11, 11)), w_pre hS.1 hK⟩ rfl rfl hl.1 rfl (lv_room (Nat.le_of_ble_eq_true rfl)) dL_law_1315 ⟨(by show cells + 0 ≤ 601024; omega), (by show slots + 0 ≤ 7293034; omega)⟩) hS hS0 (fun z2 M3 H locs r4 hp5 hS hS0 => ?_)
  refine lv_pop hx hb dL_law_1318 rfl ?_
  refine lv_aload_n hx hb dL_law_1319 rfl (lv_at hl 2 rfl) ?_
  refine lv_aload_n hx hb dL_law_1320 rfl (lv_at hl 4 rfl) ?_
  refine lv_iload hx hb dL_law_1321 (lv_at hl 0 rfl) ?_
  refine z_iconst hx hb dL_law_1323 ?_
  refine z_iadd hx hb dL_law_1324 ?_
  refine l_sld hx hb hX hbl hbA hS0 (k := n + 1) (v := v1) (by omega) (by omega) hLb ev1 dL_law_1325 ?_
  refine l_wRi (va_runV (As := [.int (iI v1)]) (rest := []) ⟨hx, hb, hml, hown, hts⟩ (cR_pair l D dA (s.heap.size + 134) MR v1 _ hp5) (cwV 1 hts (z_gV k1287 k1288 k1289 k14 k1290) rfl rfl rfl dm_X12_pair ⟨(Nat.le_of_ble_eq_true rfl), (Nat.le_of_ble_eq_true rfl)⟩) ⟨wPre_blind, w_recv hS.2.1 hK.1 (by decide) (zkd_of (rfl : zcd wR 0 = 50) rfl) (by decide) (rfl : vwCl[12]? = some (RX12, TX12, 50)), w_pre hS.2.1 hK⟩ rfl rfl hl.1 rfl (lv_room (Nat.le_of_ble_eq_true rfl)) dL_law_1326 ⟨(by show cells + 0 ≤ 601024; omega), (by show slots + 0 ≤ 7293034; omega)⟩) hS hS0 (fun z6 M7 H locs r8 hp9 hS hS0 => ?_)
  have hE9 := hp9.2
  have hI := hp9.1
  refine lv_pop hx hb dL_law_1329 rfl ?_
  refine lv_goto (tgt := 1585) hx hb dL_law_1330 (by decide) ?_
  exact kk _ _ _ H locs _ _ ls hI hS (by omega) (by omega) hS0 (lv_sub hl [0, 1, 2, 3, 4] rfl)

set_option maxHeartbeats 4000000 in
set_option maxRecDepth 100000 in
theorem lc_35 {p : Program} {e : Env} {s : State} {m : MethodId} {below : List Frame} {meth : Method} {c : Code} {l : Launch} (hst : l.stackTraces = false) {b0 L n : Nat} {xs : Nat → Int32} (hL : L ≤ 2560) (C0 : lw_At p s m meth c b0 L xs) {D : va_G} {dA : Nat → ClassId} (hK : zKK D vwCl (z_tys dA) s) (hTw : zTw s) (hZ0 : zZ (yA s.heap.size) s s.heap) (hn : n + 5 ≤ L) {H : Heap} {locs : List Loc} {cells slots : Nat} {ls : Array Slot} {MC MR MO : zM} (hI : INV MC MR) (hS : LW3 D dA s.heap.size MC MR MO H) (hS0 : va_S (yA s.heap.size) s.heap H locs) (hl : lv_has ls 8 [(4, .int (iI (n : Int))), (3, .ref (s.heap.size + 168 + 0)), (2, .ref (s.heap.size + 134 + 0)), (1, .ref (s.heap.size + 0)), (0, .ref b0)]) (hcc : cells + 1 ≤ 601024) (hss : slots + 6 ≤ 7293034)
    (kk : ∀ (MC1 MR1 MO1 : zM) (H1 : Heap) (locs1 : List Loc) (c1 s1 : Nat) (ls1 : Array Slot), INV MC1 MR1 → LW3 D dA s.heap.size MC1 MR1 MO1 H1 → c1 ≤ cells + 1 → s1 ≤ slots + 6 → va_S (yA s.heap.size) s.heap H1 locs1 → lv_has ls1 8 [(4, .int (iI (n : Int))), (3, .ref (s.heap.size + 168 + 0)), (2, .ref (s.heap.size + 134 + 0)), (1, .ref (s.heap.size + 0)), (0, .ref b0)] → W p l e room_1 s m #[Value.ref b0] below meth c H1 locs1 c1 s1 (lw_Z below #[Value.ref b0] s) (F0 m 1585 ls1 [])) :
    W p l e room_1 s m #[Value.ref b0] below meth c H locs cells slots (lw_Z below #[Value.ref b0] s) (F0 m 1333 ls []) := by
  obtain ⟨hx, hb, hr, hml, hown, htsL, hX, hbl, hlocks, hgv⟩ := id C0
  have hts := l_hts htsL
  have hbA : ¬ yA s.heap.size b0 := Nat.not_le.mpr hbl
  have hLb : L < 2147483648 := by omega
  obtain ⟨v1, rv1, ev1⟩ := iI_of (xs (n + 1))
  refine lv_aload_n hx hb dL_law_1333 rfl (lv_at hl 3 rfl) ?_
  refine lv_aload_n hx hb dL_law_1334 rfl (lv_at hl 4 rfl) ?_
  refine lv_iload hx hb dL_law_1335 (lv_at hl 0 rfl) ?_
  refine z_iconst hx hb dL_law_1337 ?_
  refine z_iadd hx hb dL_law_1338 ?_
  refine l_sld hx hb hX hbl hbA hS0 (k := n + 1) (v := v1) (by omega) (by omega) hLb ev1 dL_law_1339 ?_
  have h1 := st_mended hI (a0 := v1) rv1
  refine l_wCi (va_runV (As := [.int (iI v1)]) (rest := []) ⟨hx, hb, hml, hown, hts⟩ (cC_mended l D dA s.heap.size MC v1 _ h1) (cwV 1 hts (z_gV k785 k786 k787 k1 k788) rfl rfl rfl dm_X11_mended ⟨(Nat.le_of_ble_eq_true rfl), (Nat.le_of_ble_eq_true rfl)⟩) ⟨wPre_blind, w_recv hS.1 hK.1 (by decide) (zkd_of (rfl : zcd wC 0 = 0) rfl) (by decide) (rfl : vwCl[11]? = some (RX11, TX11, 11)), w_pre hS.1 hK⟩ rfl rfl hl.1 rfl (lv_room (Nat.le_of_ble_eq_true rfl)) dL_law_1340 ⟨(by show cells + 0 ≤ 601024; omega), (by show slots + 0 ≤ 7293034; omega)⟩) hS hS0 (fun z2 M3 H locs r4 hp5 hS hS0 => ?_)
  refine lv_pop hx hb dL_law_1343 rfl ?_
  refine lv_aload_n hx hb dL_law_1344 rfl (lv_at hl 2 rfl) ?_
  refine lv_aload_n hx hb dL_law_1345 rfl (lv_at hl 4 rfl) ?_
  refine lv_iload hx hb dL_law_1346 (lv_at hl 0 rfl) ?_
  refine z_iconst hx hb dL_law_1348 ?_
  refine z_iadd hx hb dL_law_1349 ?_
  refine l_sld hx hb hX hbl hbA hS0 (k := n + 1) (v := v1) (by omega) (by omega) hLb ev1 dL_law_1350 ?_
  refine l_wRi (va_runV (As := [.int (iI v1)]) (rest := []) ⟨hx, hb, hml, hown, hts⟩ (cR_mended l D dA (s.heap.size + 134) MR v1 _ hp5) (cwV 1 hts (z_gV k1300 k1301 k1302 k14 k1303) rfl rfl rfl dm_X12_mended ⟨(Nat.le_of_ble_eq_true rfl), (Nat.le_of_ble_eq_true rfl)⟩) ⟨wPre_blind, w_recv hS.2.1 hK.1 (by decide) (zkd_of (rfl : zcd wR 0 = 50) rfl) (by decide) (rfl : vwCl[12]? = some (RX12, TX12, 50)), w_pre hS.2.1 hK⟩ rfl rfl hl.1 rfl (lv_room (Nat.le_of_ble_eq_true rfl)) dL_law_1351 ⟨(by show cells + 0 ≤ 601024; omega), (by show slots + 0 ≤ 7293034; omega)⟩) hS hS0 (fun z6 M7 H locs r8 hp9 hS hS0 => ?_)
  have hE9 := hp9.2
  have hI := hp9.1
  refine lv_pop hx hb dL_law_1354 rfl ?_
  refine lv_goto (tgt := 1585) hx hb dL_law_1355 (by decide) ?_
  exact kk _ _ _ H locs _ _ ls hI hS (by omega) (by omega) hS0 (lv_sub hl [0, 1, 2, 3, 4] rfl)

set_option maxHeartbeats 4000000 in
set_option maxRecDepth 100000 in
theorem lc_36 {p : Program} {e : Env} {s : State} {m : MethodId} {below : List Frame} {meth : Method} {c : Code} {l : Launch} (hst : l.stackTraces = false) {b0 L n : Nat} {xs : Nat → Int32} (hL : L ≤ 2560) (C0 : lw_At p s m meth c b0 L xs) {D : va_G} {dA : Nat → ClassId} (hK : zKK D vwCl (z_tys dA) s) (hTw : zTw s) (hZ0 : zZ (yA s.heap.size) s s.heap) (hn : n + 5 ≤ L) {H : Heap} {locs : List Loc} {cells slots : Nat} {ls : Array Slot} {MC MR MO : zM} (hI : INV MC MR) (hS : LW3 D dA s.heap.size MC MR MO H) (hS0 : va_S (yA s.heap.size) s.heap H locs) (hl : lv_has ls 8 [(4, .int (iI (n : Int))), (3, .ref (s.heap.size + 168 + 0)), (2, .ref (s.heap.size + 134 + 0)), (1, .ref (s.heap.size + 0)), (0, .ref b0)]) (hcc : cells + 1 ≤ 601024) (hss : slots + 6 ≤ 7293034)
    (kk : ∀ (MC1 MR1 MO1 : zM) (H1 : Heap) (locs1 : List Loc) (c1 s1 : Nat) (ls1 : Array Slot), INV MC1 MR1 → LW3 D dA s.heap.size MC1 MR1 MO1 H1 → c1 ≤ cells + 1 → s1 ≤ slots + 6 → va_S (yA s.heap.size) s.heap H1 locs1 → lv_has ls1 8 [(4, .int (iI (n : Int))), (3, .ref (s.heap.size + 168 + 0)), (2, .ref (s.heap.size + 134 + 0)), (1, .ref (s.heap.size + 0)), (0, .ref b0)] → W p l e room_1 s m #[Value.ref b0] below meth c H1 locs1 c1 s1 (lw_Z below #[Value.ref b0] s) (F0 m 1585 ls1 [])) :
    W p l e room_1 s m #[Value.ref b0] below meth c H locs cells slots (lw_Z below #[Value.ref b0] s) (F0 m 1358 ls []) := by
  obtain ⟨hx, hb, hr, hml, hown, htsL, hX, hbl, hlocks, hgv⟩ := id C0
  have hts := l_hts htsL
  have hbA : ¬ yA s.heap.size b0 := Nat.not_le.mpr hbl
  have hLb : L < 2147483648 := by omega
  obtain ⟨v1, rv1, ev1⟩ := iI_of (xs (n + 1))
  obtain ⟨v2, rv2, ev2⟩ := iI_of (xs (n + 2))
  refine lv_aload_n hx hb dL_law_1358 rfl (lv_at hl 3 rfl) ?_
  refine lv_aload_n hx hb dL_law_1359 rfl (lv_at hl 4 rfl) ?_
  refine lv_iload hx hb dL_law_1360 (lv_at hl 0 rfl) ?_
  refine z_iconst hx hb dL_law_1362 ?_
  refine z_iadd hx hb dL_law_1363 ?_
  refine l_sld hx hb hX hbl hbA hS0 (k := n + 1) (v := v1) (by omega) (by omega) hLb ev1 dL_law_1364 ?_
  refine lv_aload_n hx hb dL_law_1365 rfl (lv_at hl 4 rfl) ?_
  refine lv_iload hx hb dL_law_1366 (lv_at hl 0 rfl) ?_
  refine z_iconst hx hb dL_law_1368 ?_
  refine z_iadd hx hb dL_law_1369 ?_
  refine l_sld hx hb hX hbl hbA hS0 (k := n + 2) (v := v2) (by omega) (by omega) hLb ev2 dL_law_1370 ?_
  have h1 := st_piece hI (a0 := v1) (a1 := v2) rv1 rv2
  refine l_wCi (va_runV (As := [.int (iI v1), .int (iI v2)]) (rest := []) ⟨hx, hb, hml, hown, hts⟩ (cC_piece l D dA s.heap.size MC v1 v2 _ h1) (cwV 2 hts (z_gV k794 k795 k796 k1 k797) rfl rfl rfl dm_X11_piece ⟨(Nat.le_of_ble_eq_true rfl), (Nat.le_of_ble_eq_true rfl)⟩) ⟨wPre_blind, w_recv hS.1 hK.1 (by decide) (zkd_of (rfl : zcd wC 0 = 0) rfl) (by decide) (rfl : vwCl[11]? = some (RX11, TX11, 11)), w_pre hS.1 hK⟩ rfl rfl hl.1 rfl (lv_room (Nat.le_of_ble_eq_true rfl)) dL_law_1371 ⟨(by show cells + 0 ≤ 601024; omega), (by show slots + 0 ≤ 7293034; omega)⟩) hS hS0 (fun z2 M3 H locs r4 hp5 hS hS0 => ?_)
  refine lv_pop hx hb dL_law_1374 rfl ?_
  refine lv_aload_n hx hb dL_law_1375 rfl (lv_at hl 2 rfl) ?_
  refine lv_aload_n hx hb dL_law_1376 rfl (lv_at hl 4 rfl) ?_
  refine lv_iload hx hb dL_law_1377 (lv_at hl 0 rfl) ?_
  refine z_iconst hx hb dL_law_1379 ?_
  refine z_iadd hx hb dL_law_1380 ?_
  refine l_sld hx hb hX hbl hbA hS0 (k := n + 1) (v := v1) (by omega) (by omega) hLb ev1 dL_law_1381 ?_
  refine lv_aload_n hx hb dL_law_1382 rfl (lv_at hl 4 rfl) ?_
  refine lv_iload hx hb dL_law_1383 (lv_at hl 0 rfl) ?_
  refine z_iconst hx hb dL_law_1385 ?_
  refine z_iadd hx hb dL_law_1386 ?_
  refine l_sld hx hb hX hbl hbA hS0 (k := n + 2) (v := v2) (by omega) (by omega) hLb ev2 dL_law_1387 ?_
  refine l_wRi (va_runV (As := [.int (iI v1), .int (iI v2)]) (rest := []) ⟨hx, hb, hml, hown, hts⟩ (cR_piece l D dA (s.heap.size + 134) MR v1 v2 _ hp5) (cwV 2 hts (z_gV k1304 k1305 k1306 k14 k1307) rfl rfl rfl dm_X12_piece ⟨(Nat.le_of_ble_eq_true rfl), (Nat.le_of_ble_eq_true rfl)⟩) ⟨wPre_blind, w_recv hS.2.1 hK.1 (by decide) (zkd_of (rfl : zcd wR 0 = 50) rfl) (by decide) (rfl : vwCl[12]? = some (RX12, TX12, 50)), w_pre hS.2.1 hK⟩ rfl rfl hl.1 rfl (lv_room (Nat.le_of_ble_eq_true rfl)) dL_law_1388 ⟨(by show cells + 0 ≤ 601024; omega), (by show slots + 0 ≤ 7293034; omega)⟩) hS hS0 (fun z6 M7 H locs r8 hp9 hS hS0 => ?_)
  have hE9 := hp9.2
  have hI := hp9.1
  refine lv_pop hx hb dL_law_1391 rfl ?_
  refine lv_goto (tgt := 1585) hx hb dL_law_1392 (by decide) ?_
  exact kk _ _ _ H locs _ _ ls hI hS (by omega) (by omega) hS0 (lv_sub hl [0, 1, 2, 3, 4] rfl)

set_option maxHeartbeats 4000000 in
set_option maxRecDepth 100000 in
theorem lc_37 {p : Program} {e : Env} {s : State} {m : MethodId} {below : List Frame} {meth : Method} {c : Code} {l : Launch} (hst : l.stackTraces = false) {b0 L n : Nat} {xs : Nat → Int32} (hL : L ≤ 2560) (C0 : lw_At p s m meth c b0 L xs) {D : va_G} {dA : Nat → ClassId} (hK : zKK D vwCl (z_tys dA) s) (hTw : zTw s) (hZ0 : zZ (yA s.heap.size) s s.heap) (hn : n + 5 ≤ L) {H : Heap} {locs : List Loc} {cells slots : Nat} {ls : Array Slot} {MC MR MO : zM} (hI : INV MC MR) (hS : LW3 D dA s.heap.size MC MR MO H) (hS0 : va_S (yA s.heap.size) s.heap H locs) (hl : lv_has ls 8 [(4, .int (iI (n : Int))), (3, .ref (s.heap.size + 168 + 0)), (2, .ref (s.heap.size + 134 + 0)), (1, .ref (s.heap.size + 0)), (0, .ref b0)]) (hcc : cells + 1 ≤ 601024) (hss : slots + 6 ≤ 7293034)
    (kk : ∀ (MC1 MR1 MO1 : zM) (H1 : Heap) (locs1 : List Loc) (c1 s1 : Nat) (ls1 : Array Slot), INV MC1 MR1 → LW3 D dA s.heap.size MC1 MR1 MO1 H1 → c1 ≤ cells + 1 → s1 ≤ slots + 6 → va_S (yA s.heap.size) s.heap H1 locs1 → lv_has ls1 8 [(4, .int (iI (n : Int))), (3, .ref (s.heap.size + 168 + 0)), (2, .ref (s.heap.size + 134 + 0)), (1, .ref (s.heap.size + 0)), (0, .ref b0)] → W p l e room_1 s m #[Value.ref b0] below meth c H1 locs1 c1 s1 (lw_Z below #[Value.ref b0] s) (F0 m 1585 ls1 [])) :
    W p l e room_1 s m #[Value.ref b0] below meth c H locs cells slots (lw_Z below #[Value.ref b0] s) (F0 m 1395 ls []) := by
  obtain ⟨hx, hb, hr, hml, hown, htsL, hX, hbl, hlocks, hgv⟩ := id C0
  have hts := l_hts htsL
  have hbA : ¬ yA s.heap.size b0 := Nat.not_le.mpr hbl
  have hLb : L < 2147483648 := by omega
  refine lv_aload_n hx hb dL_law_1395 rfl (lv_at hl 3 rfl) ?_
  have h1 := st_burn hI  
  refine l_wCi (va_runV (As := []) (rest := []) ⟨hx, hb, hml, hown, hts⟩ (cC_burn l D dA s.heap.size MC  _ h1) (cwV 0 hts (z_gV k805 k806 k807 k1 k808) rfl rfl rfl dm_X11_burn ⟨(Nat.le_of_ble_eq_true rfl), (Nat.le_of_ble_eq_true rfl)⟩) ⟨wPre_blind, w_recv hS.1 hK.1 (by decide) (zkd_of (rfl : zcd wC 0 = 0) rfl) (by decide) (rfl : vwCl[11]? = some (RX11, TX11, 11)), w_pre hS.1 hK⟩ rfl rfl hl.1 rfl (lv_room (Nat.le_of_ble_eq_true rfl)) dL_law_1396 ⟨(by show cells + 0 ≤ 601024; omega), (by show slots + 0 ≤ 7293034; omega)⟩) hS hS0 (fun z2 M3 H locs r4 hp5 hS hS0 => ?_)
  refine lv_pop hx hb dL_law_1399 rfl ?_
  refine lv_aload_n hx hb dL_law_1400 rfl (lv_at hl 2 rfl) ?_
  refine l_wRi (va_runV (As := []) (rest := []) ⟨hx, hb, hml, hown, hts⟩ (cR_burn l D dA (s.heap.size + 134) MR  _ hp5) (cwV 0 hts (z_gV k1308 k1309 k1310 k14 k1311) rfl rfl rfl dm_X12_burn ⟨(Nat.le_of_ble_eq_true rfl), (Nat.le_of_ble_eq_true rfl)⟩) ⟨wPre_blind, w_recv hS.2.1 hK.1 (by decide) (zkd_of (rfl : zcd wR 0 = 50) rfl) (by decide) (rfl : vwCl[12]? = some (RX12, TX12, 50)), w_pre hS.2.1 hK⟩ rfl rfl hl.1 rfl (lv_room (Nat.le_of_ble_eq_true rfl)) dL_law_1401 ⟨(by show cells + 0 ≤ 601024; omega), (by show slots + 0 ≤ 7293034; omega)⟩) hS hS0 (fun z6 M7 H locs r8 hp9 hS hS0 => ?_)
  have hE9 := hp9.2
  have hI := hp9.1
  refine lv_pop hx hb dL_law_1404 rfl ?_
  refine lv_goto (tgt := 1585) hx hb dL_law_1405 (by decide) ?_
  exact kk _ _ _ H locs _ _ ls hI hS (by omega) (by omega) hS0 (lv_sub hl [0, 1, 2, 3, 4] rfl)

set_option maxHeartbeats 4000000 in
set_option maxRecDepth 100000 in
theorem lc_38 {p : Program} {e : Env} {s : State} {m : MethodId} {below : List Frame} {meth : Method} {c : Code} {l : Launch} (hst : l.stackTraces = false) {b0 L n : Nat} {xs : Nat → Int32} (hL : L ≤ 2560) (C0 : lw_At p s m meth c b0 L xs) {D : va_G} {dA : Nat → ClassId} (hK : zKK D vwCl (z_tys dA) s) (hTw : zTw s) (hZ0 : zZ (yA s.heap.size) s s.heap) (hn : n + 5 ≤ L) {H : Heap} {locs : List Loc} {cells slots : Nat} {ls : Array Slot} {MC MR MO : zM} (hI : INV MC MR) (hS : LW3 D dA s.heap.size MC MR MO H) (hS0 : va_S (yA s.heap.size) s.heap H locs) (hl : lv_has ls 8 [(4, .int (iI (n : Int))), (3, .ref (s.heap.size + 168 + 0)), (2, .ref (s.heap.size + 134 + 0)), (1, .ref (s.heap.size + 0)), (0, .ref b0)]) (hcc : cells + 1 ≤ 601024) (hss : slots + 6 ≤ 7293034)
    (kk : ∀ (MC1 MR1 MO1 : zM) (H1 : Heap) (locs1 : List Loc) (c1 s1 : Nat) (ls1 : Array Slot), INV MC1 MR1 → LW3 D dA s.heap.size MC1 MR1 MO1 H1 → c1 ≤ cells + 1 → s1 ≤ slots + 6 → va_S (yA s.heap.size) s.heap H1 locs1 → lv_has ls1 8 [(4, .int (iI (n : Int))), (3, .ref (s.heap.size + 168 + 0)), (2, .ref (s.heap.size + 134 + 0)), (1, .ref (s.heap.size + 0)), (0, .ref b0)] → W p l e room_1 s m #[Value.ref b0] below meth c H1 locs1 c1 s1 (lw_Z below #[Value.ref b0] s) (F0 m 1585 ls1 [])) :
    W p l e room_1 s m #[Value.ref b0] below meth c H locs cells slots (lw_Z below #[Value.ref b0] s) (F0 m 1408 ls []) := by
  obtain ⟨hx, hb, hr, hml, hown, htsL, hX, hbl, hlocks, hgv⟩ := id C0
  have hts := l_hts htsL
  have hbA : ¬ yA s.heap.size b0 := Nat.not_le.mpr hbl
  have hLb : L < 2147483648 := by omega
  refine lv_aload_n hx hb dL_law_1408 rfl (lv_at hl 3 rfl) ?_
  have h1 := st_join hI  
  refine l_wCi (va_runV (As := []) (rest := []) ⟨hx, hb, hml, hown, hts⟩ (cC_join l D dA s.heap.size MC  _ h1) (cwV 0 hts (z_gV k809 k810 k811 k1 k812) rfl rfl rfl dm_X11_join ⟨(Nat.le_of_ble_eq_true rfl), (Nat.le_of_ble_eq_true rfl)⟩) ⟨wPre_blind, w_recv hS.1 hK.1 (by decide) (zkd_of (rfl : zcd wC 0 = 0) rfl) (by decide) (rfl : vwCl[11]? = some (RX11, TX11, 11)), w_pre hS.1 hK⟩ rfl rfl hl.1 rfl (lv_room (Nat.le_of_ble_eq_true rfl)) dL_law_1409 ⟨(by show cells + 0 ≤ 601024; omega), (by show slots + 0 ≤ 7293034; omega)⟩) hS hS0 (fun z2 M3 H locs r4 hp5 hS hS0 => ?_)
  refine lv_pop hx hb dL_law_1412 rfl ?_
  refine lv_aload_n hx hb dL_law_1413 rfl (lv_at hl 2 rfl) ?_
  refine l_wRi (va_runV (As := []) (rest := []) ⟨hx, hb, hml, hown, hts⟩ (cR_join l D dA (s.heap.size + 134) MR  _ hp5) (cwV 0 hts (z_gV k1312 k1313 k1314 k14 k1315) rfl rfl rfl dm_X12_join ⟨(Nat.le_of_ble_eq_true rfl), (Nat.le_of_ble_eq_true rfl)⟩) ⟨wPre_blind, w_recv hS.2.1 hK.1 (by decide) (zkd_of (rfl : zcd wR 0 = 50) rfl) (by decide) (rfl : vwCl[12]? = some (RX12, TX12, 50)), w_pre hS.2.1 hK⟩ rfl rfl hl.1 rfl (lv_room (Nat.le_of_ble_eq_true rfl)) dL_law_1414 ⟨(by show cells + 0 ≤ 601024; omega), (by show slots + 0 ≤ 7293034; omega)⟩) hS hS0 (fun z6 M7 H locs r8 hp9 hS hS0 => ?_)
  have hE9 := hp9.2
  have hI := hp9.1
  refine lv_pop hx hb dL_law_1417 rfl ?_
  refine lv_goto (tgt := 1585) hx hb dL_law_1418 (by decide) ?_
  exact kk _ _ _ H locs _ _ ls hI hS (by omega) (by omega) hS0 (lv_sub hl [0, 1, 2, 3, 4] rfl)

set_option maxHeartbeats 4000000 in
set_option maxRecDepth 100000 in
theorem lc_39 {p : Program} {e : Env} {s : State} {m : MethodId} {below : List Frame} {meth : Method} {c : Code} {l : Launch} (hst : l.stackTraces = false) {b0 L n : Nat} {xs : Nat → Int32} (hL : L ≤ 2560) (C0 : lw_At p s m meth c b0 L xs) {D : va_G} {dA : Nat → ClassId} (hK : zKK D vwCl (z_tys dA) s) (hTw : zTw s) (hZ0 : zZ (yA s.heap.size) s s.heap) (hn : n + 5 ≤ L) {H : Heap} {locs : List Loc} {cells slots : Nat} {ls : Array Slot} {MC MR MO : zM} (hI : INV MC MR) (hS : LW3 D dA s.heap.size MC MR MO H) (hS0 : va_S (yA s.heap.size) s.heap H locs) (hl : lv_has ls 8 [(4, .int (iI (n : Int))), (3, .ref (s.heap.size + 168 + 0)), (2, .ref (s.heap.size + 134 + 0)), (1, .ref (s.heap.size + 0)), (0, .ref b0)]) (hcc : cells + 1 ≤ 601024) (hss : slots + 6 ≤ 7293034)
    (kk : ∀ (MC1 MR1 MO1 : zM) (H1 : Heap) (locs1 : List Loc) (c1 s1 : Nat) (ls1 : Array Slot), INV MC1 MR1 → LW3 D dA s.heap.size MC1 MR1 MO1 H1 → c1 ≤ cells + 1 → s1 ≤ slots + 6 → va_S (yA s.heap.size) s.heap H1 locs1 → lv_has ls1 8 [(4, .int (iI (n : Int))), (3, .ref (s.heap.size + 168 + 0)), (2, .ref (s.heap.size + 134 + 0)), (1, .ref (s.heap.size + 0)), (0, .ref b0)] → W p l e room_1 s m #[Value.ref b0] below meth c H1 locs1 c1 s1 (lw_Z below #[Value.ref b0] s) (F0 m 1585 ls1 [])) :
    W p l e room_1 s m #[Value.ref b0] below meth c H locs cells slots (lw_Z below #[Value.ref b0] s) (F0 m 1421 ls []) := by
  obtain ⟨hx, hb, hr, hml, hown, htsL, hX, hbl, hlocks, hgv⟩ := id C0
  have hts := l_hts htsL
  have hbA : ¬ yA s.heap.size b0 := Nat.not_le.mpr hbl
  have hLb : L < 2147483648 := by omega
  obtain ⟨v1, rv1, ev1⟩ := iI_of (xs (n + 1))
  obtain ⟨v2, rv2, ev2⟩ := iI_of (xs (n + 2))
  refine lv_aload_n hx hb dL_law_1421 rfl (lv_at hl 3 rfl) ?_
  refine lv_aload_n hx hb dL_law_1422 rfl (lv_at hl 4 rfl) ?_
  refine lv_iload hx hb dL_law_1423 (lv_at hl 0 rfl) ?_
  refine z_iconst hx hb dL_law_1425 ?_
  refine z_iadd hx hb dL_law_1426 ?_
  refine l_sld hx hb hX hbl hbA hS0 (k := n + 1) (v := v1) (by omega) (by omega) hLb ev1 dL_law_1427 ?_
  refine lv_aload_n hx hb dL_law_1428 rfl (lv_at hl 4 rfl) ?_
  refine lv_iload hx hb dL_law_1429 (lv_at hl 0 rfl) ?_
  refine z_iconst hx hb dL_law_1431 ?_
  refine z_iadd hx hb dL_law_1432 ?_
  refine l_sld hx hb hX hbl hbA hS0 (k := n + 2) (v := v2) (by omega) (by omega) hLb ev2 dL_law_1433 ?_
  have h1 := st_keep hI (a0 := v1) (a1 := v2) rv1 rv2
  refine l_wCi (va_runV (As := [.int (iI v1), .int (iI v2)]) (rest := []) ⟨hx, hb, hml, hown, hts⟩ (cC_keep l D dA s.heap.size MC v1 v2 _ h1) (cwV 2 hts (z_gV k837 k838 k839 k1 k840) rfl rfl rfl dm_X11_keep ⟨(Nat.le_of_ble_eq_true rfl), (Nat.le_of_ble_eq_true rfl)⟩) ⟨wPre_blind, w_recv hS.1 hK.1 (by decide) (zkd_of (rfl : zcd wC 0 = 0) rfl) (by decide) (rfl : vwCl[11]? = some (RX11, TX11, 11)), w_pre hS.1 hK⟩ rfl rfl hl.1 rfl (lv_room (Nat.le_of_ble_eq_true rfl)) dL_law_1434 ⟨(by show cells + 0 ≤ 601024; omega), (by show slots + 0 ≤ 7293034; omega)⟩) hS hS0 (fun z2 M3 H locs r4 hp5 hS hS0 => ?_)
  refine lv_pop hx hb dL_law_1437 rfl ?_
  refine lv_aload_n hx hb dL_law_1438 rfl (lv_at hl 2 rfl) ?_
  refine lv_aload_n hx hb dL_law_1439 rfl (lv_at hl 4 rfl) ?_
  refine lv_iload hx hb dL_law_1440 (lv_at hl 0 rfl) ?_
  refine z_iconst hx hb dL_law_1442 ?_
  refine z_iadd hx hb dL_law_1443 ?_
  refine l_sld hx hb hX hbl hbA hS0 (k := n + 1) (v := v1) (by omega) (by omega) hLb ev1 dL_law_1444 ?_
  refine lv_aload_n hx hb dL_law_1445 rfl (lv_at hl 4 rfl) ?_
  refine lv_iload hx hb dL_law_1446 (lv_at hl 0 rfl) ?_
  refine z_iconst hx hb dL_law_1448 ?_
  refine z_iadd hx hb dL_law_1449 ?_
  refine l_sld hx hb hX hbl hbA hS0 (k := n + 2) (v := v2) (by omega) (by omega) hLb ev2 dL_law_1450 ?_
  refine l_wRi (va_runV (As := [.int (iI v1), .int (iI v2)]) (rest := []) ⟨hx, hb, hml, hown, hts⟩ (cR_keep l D dA (s.heap.size + 134) MR v1 v2 _ hp5) (cwV 2 hts (z_gV k1325 k1326 k1327 k14 k1328) rfl rfl rfl dm_X12_keep ⟨(Nat.le_of_ble_eq_true rfl), (Nat.le_of_ble_eq_true rfl)⟩) ⟨wPre_blind, w_recv hS.2.1 hK.1 (by decide) (zkd_of (rfl : zcd wR 0 = 50) rfl) (by decide) (rfl : vwCl[12]? = some (RX12, TX12, 50)), w_pre hS.2.1 hK⟩ rfl rfl hl.1 rfl (lv_room (Nat.le_of_ble_eq_true rfl)) dL_law_1451 ⟨(by show cells + 0 ≤ 601024; omega), (by show slots + 0 ≤ 7293034; omega)⟩) hS hS0 (fun z6 M7 H locs r8 hp9 hS hS0 => ?_)
  have hE9 := hp9.2
  have hI := hp9.1
  refine lv_pop hx hb dL_law_1454 rfl ?_
  refine lv_goto (tgt := 1585) hx hb dL_law_1455 (by decide) ?_
  exact kk _ _ _ H locs _ _ ls hI hS (by omega) (by omega) hS0 (lv_sub hl [0, 1, 2, 3, 4] rfl)

set_option maxHeartbeats 4000000 in
set_option maxRecDepth 100000 in
theorem lc_40 {p : Program} {e : Env} {s : State} {m : MethodId} {below : List Frame} {meth : Method} {c : Code} {l : Launch} (hst : l.stackTraces = false) {b0 L n : Nat} {xs : Nat → Int32} (hL : L ≤ 2560) (C0 : lw_At p s m meth c b0 L xs) {D : va_G} {dA : Nat → ClassId} (hK : zKK D vwCl (z_tys dA) s) (hTw : zTw s) (hZ0 : zZ (yA s.heap.size) s s.heap) (hn : n + 5 ≤ L) {H : Heap} {locs : List Loc} {cells slots : Nat} {ls : Array Slot} {MC MR MO : zM} (hI : INV MC MR) (hS : LW3 D dA s.heap.size MC MR MO H) (hS0 : va_S (yA s.heap.size) s.heap H locs) (hl : lv_has ls 8 [(4, .int (iI (n : Int))), (3, .ref (s.heap.size + 168 + 0)), (2, .ref (s.heap.size + 134 + 0)), (1, .ref (s.heap.size + 0)), (0, .ref b0)]) (hcc : cells + 1 ≤ 601024) (hss : slots + 6 ≤ 7293034)
    (kk : ∀ (MC1 MR1 MO1 : zM) (H1 : Heap) (locs1 : List Loc) (c1 s1 : Nat) (ls1 : Array Slot), INV MC1 MR1 → LW3 D dA s.heap.size MC1 MR1 MO1 H1 → c1 ≤ cells + 1 → s1 ≤ slots + 6 → va_S (yA s.heap.size) s.heap H1 locs1 → lv_has ls1 8 [(4, .int (iI (n : Int))), (3, .ref (s.heap.size + 168 + 0)), (2, .ref (s.heap.size + 134 + 0)), (1, .ref (s.heap.size + 0)), (0, .ref b0)] → W p l e room_1 s m #[Value.ref b0] below meth c H1 locs1 c1 s1 (lw_Z below #[Value.ref b0] s) (F0 m 1585 ls1 [])) :
    W p l e room_1 s m #[Value.ref b0] below meth c H locs cells slots (lw_Z below #[Value.ref b0] s) (F0 m 1458 ls []) := by
  obtain ⟨hx, hb, hr, hml, hown, htsL, hX, hbl, hlocks, hgv⟩ := id C0
  have hts := l_hts htsL
  have hbA : ¬ yA s.heap.size b0 := Nat.not_le.mpr hbl
  have hLb : L < 2147483648 := by omega
  obtain ⟨v1, rv1, ev1⟩ := iI_of (xs (n + 1))
  obtain ⟨v2, rv2, ev2⟩ := iI_of (xs (n + 2))
  refine lv_aload_n hx hb dL_law_1458 rfl (lv_at hl 3 rfl) ?_
  refine lv_aload_n hx hb dL_law_1459 rfl (lv_at hl 4 rfl) ?_
  refine lv_iload hx hb dL_law_1460 (lv_at hl 0 rfl) ?_
  refine z_iconst hx hb dL_law_1462 ?_
  refine z_iadd hx hb dL_law_1463 ?_
  refine l_sld hx hb hX hbl hbA hS0 (k := n + 1) (v := v1) (by omega) (by omega) hLb ev1 dL_law_1464 ?_
  refine lv_aload_n hx hb dL_law_1465 rfl (lv_at hl 4 rfl) ?_
  refine lv_iload hx hb dL_law_1466 (lv_at hl 0 rfl) ?_
  refine z_iconst hx hb dL_law_1468 ?_
  refine z_iadd hx hb dL_law_1469 ?_
  refine l_sld hx hb hX hbl hbA hS0 (k := n + 2) (v := v2) (by omega) (by omega) hLb ev2 dL_law_1470 ?_
  have h1 := st_known hI (a0 := v1) (a1 := v2) rv1 rv2
  refine l_wCi (va_runV (As := [.int (iI v1), .int (iI v2)]) (rest := []) ⟨hx, hb, hml, hown, hts⟩ (cC_known l D dA s.heap.size MC v1 v2 _ h1) (cwV 2 hts (z_gV k846 k847 k848 k1 k849) rfl rfl rfl dm_X11_known ⟨(Nat.le_of_ble_eq_true rfl), (Nat.le_of_ble_eq_true rfl)⟩) ⟨wPre_blind, w_recv hS.1 hK.1 (by decide) (zkd_of (rfl : zcd wC 0 = 0) rfl) (by decide) (rfl : vwCl[11]? = some (RX11, TX11, 11)), w_pre hS.1 hK⟩ rfl rfl hl.1 rfl (lv_room (Nat.le_of_ble_eq_true rfl)) dL_law_1471 ⟨(by show cells + 0 ≤ 601024; omega), (by show slots + 0 ≤ 7293034; omega)⟩) hS hS0 (fun z2 M3 H locs r4 hp5 hS hS0 => ?_)
  obtain ⟨hu7, hp5⟩ := hp5
  rw [hu7] at hS
  refine lv_pop hx hb dL_law_1474 rfl ?_
  refine lv_aload_n hx hb dL_law_1475 rfl (lv_at hl 2 rfl) ?_
  refine lv_aload_n hx hb dL_law_1476 rfl (lv_at hl 4 rfl) ?_
  refine lv_iload hx hb dL_law_1477 (lv_at hl 0 rfl) ?_
  refine z_iconst hx hb dL_law_1479 ?_
  refine z_iadd hx hb dL_law_1480 ?_
  refine l_sld hx hb hX hbl hbA hS0 (k := n + 1) (v := v1) (by omega) (by omega) hLb ev1 dL_law_1481 ?_
  refine lv_aload_n hx hb dL_law_1482 rfl (lv_at hl 4 rfl) ?_
  refine lv_iload hx hb dL_law_1483 (lv_at hl 0 rfl) ?_
  refine z_iconst hx hb dL_law_1485 ?_
  refine z_iadd hx hb dL_law_1486 ?_
  refine l_sld hx hb hX hbl hbA hS0 (k := n + 2) (v := v2) (by omega) (by omega) hLb ev2 dL_law_1487 ?_
  refine l_wRi (va_runV (As := [.int (iI v1), .int (iI v2)]) (rest := []) ⟨hx, hb, hml, hown, hts⟩ (cR_known l D dA (s.heap.size + 134) MR v1 v2 _ hp5) (cwV 2 hts (z_gV k1329 k1330 k1331 k14 k1332) rfl rfl rfl dm_X12_known ⟨(Nat.le_of_ble_eq_true rfl), (Nat.le_of_ble_eq_true rfl)⟩) ⟨wPre_blind, w_recv hS.2.1 hK.1 (by decide) (zkd_of (rfl : zcd wR 0 = 50) rfl) (by decide) (rfl : vwCl[12]? = some (RX12, TX12, 50)), w_pre hS.2.1 hK⟩ rfl rfl hl.1 rfl (lv_room (Nat.le_of_ble_eq_true rfl)) dL_law_1488 ⟨(by show cells + 0 ≤ 601024; omega), (by show slots + 0 ≤ 7293034; omega)⟩) hS hS0 (fun z6 M7 H locs r8 hp9 hS hS0 => ?_)
  have hE9 := hp9.2
  have hI := hp9.1
  refine lv_pop hx hb dL_law_1491 rfl ?_
  refine lv_goto (tgt := 1585) hx hb dL_law_1492 (by decide) ?_
  exact kk _ _ _ H locs _ _ ls hI hS (by omega) (by omega) hS0 (lv_sub hl [0, 1, 2, 3, 4] rfl)

set_option maxHeartbeats 4000000 in
set_option maxRecDepth 100000 in
theorem lc_41 {p : Program} {e : Env} {s : State} {m : MethodId} {below : List Frame} {meth : Method} {c : Code} {l : Launch} (hst : l.stackTraces = false) {b0 L n : Nat} {xs : Nat → Int32} (hL : L ≤ 2560) (C0 : lw_At p s m meth c b0 L xs) {D : va_G} {dA : Nat → ClassId} (hK : zKK D vwCl (z_tys dA) s) (hTw : zTw s) (hZ0 : zZ (yA s.heap.size) s s.heap) (hn : n + 5 ≤ L) {H : Heap} {locs : List Loc} {cells slots : Nat} {ls : Array Slot} {MC MR MO : zM} (hI : INV MC MR) (hS : LW3 D dA s.heap.size MC MR MO H) (hS0 : va_S (yA s.heap.size) s.heap H locs) (hl : lv_has ls 8 [(4, .int (iI (n : Int))), (3, .ref (s.heap.size + 168 + 0)), (2, .ref (s.heap.size + 134 + 0)), (1, .ref (s.heap.size + 0)), (0, .ref b0)]) (hcc : cells + 1 ≤ 601024) (hss : slots + 6 ≤ 7293034)
    (kk : ∀ (MC1 MR1 MO1 : zM) (H1 : Heap) (locs1 : List Loc) (c1 s1 : Nat) (ls1 : Array Slot), INV MC1 MR1 → LW3 D dA s.heap.size MC1 MR1 MO1 H1 → c1 ≤ cells + 1 → s1 ≤ slots + 6 → va_S (yA s.heap.size) s.heap H1 locs1 → lv_has ls1 8 [(4, .int (iI (n : Int))), (3, .ref (s.heap.size + 168 + 0)), (2, .ref (s.heap.size + 134 + 0)), (1, .ref (s.heap.size + 0)), (0, .ref b0)] → W p l e room_1 s m #[Value.ref b0] below meth c H1 locs1 c1 s1 (lw_Z below #[Value.ref b0] s) (F0 m 1585 ls1 [])) :
    W p l e room_1 s m #[Value.ref b0] below meth c H locs cells slots (lw_Z below #[Value.ref b0] s) (F0 m 1495 ls []) := by
  obtain ⟨hx, hb, hr, hml, hown, htsL, hX, hbl, hlocks, hgv⟩ := id C0
  have hts := l_hts htsL
  have hbA : ¬ yA s.heap.size b0 := Nat.not_le.mpr hbl
  have hLb : L < 2147483648 := by omega
  obtain ⟨v1, rv1, ev1⟩ := iI_of (xs (n + 1))
  refine lv_aload_n hx hb dL_law_1495 rfl (lv_at hl 3 rfl) ?_
  refine lv_aload_n hx hb dL_law_1496 rfl (lv_at hl 4 rfl) ?_
  refine lv_iload hx hb dL_law_1497 (lv_at hl 0 rfl) ?_
  refine z_iconst hx hb dL_law_1499 ?_
  refine z_iadd hx hb dL_law_1500 ?_
  refine l_sld hx hb hX hbl hbA hS0 (k := n + 1) (v := v1) (by omega) (by omega) hLb ev1 dL_law_1501 ?_
  have h1 := st_fetch hI (a0 := v1) rv1
  refine l_wCi (va_runV (As := [.int (iI v1)]) (rest := []) ⟨hx, hb, hml, hown, hts⟩ (cC_fetch l D dA s.heap.size MC v1 _ h1) (cwV 1 hts (z_gV k854 k855 k856 k1 k857) rfl rfl rfl dm_X11_fetch ⟨(Nat.le_of_ble_eq_true rfl), (Nat.le_of_ble_eq_true rfl)⟩) ⟨wPre_blind, w_recv hS.1 hK.1 (by decide) (zkd_of (rfl : zcd wC 0 = 0) rfl) (by decide) (rfl : vwCl[11]? = some (RX11, TX11, 11)), w_pre hS.1 hK⟩ rfl rfl hl.1 rfl (lv_room (Nat.le_of_ble_eq_true rfl)) dL_law_1502 ⟨(by show cells + 0 ≤ 601024; omega), (by show slots + 0 ≤ 7293034; omega)⟩) hS hS0 (fun z2 M3 H locs r4 hp5 hS hS0 => ?_)
  refine lv_pop hx hb dL_law_1505 rfl ?_
  refine lv_aload_n hx hb dL_law_1506 rfl (lv_at hl 2 rfl) ?_
  refine lv_aload_n hx hb dL_law_1507 rfl (lv_at hl 4 rfl) ?_
  refine lv_iload hx hb dL_law_1508 (lv_at hl 0 rfl) ?_
  refine z_iconst hx hb dL_law_1510 ?_
  refine z_iadd hx hb dL_law_1511 ?_
  refine l_sld hx hb hX hbl hbA hS0 (k := n + 1) (v := v1) (by omega) (by omega) hLb ev1 dL_law_1512 ?_
  refine l_wRi (va_runV (As := [.int (iI v1)]) (rest := []) ⟨hx, hb, hml, hown, hts⟩ (cR_fetch l D dA (s.heap.size + 134) MR v1 _ hp5) (cwV 1 hts (z_gV k1333 k1334 k1335 k14 k1336) rfl rfl rfl dm_X12_fetch ⟨(Nat.le_of_ble_eq_true rfl), (Nat.le_of_ble_eq_true rfl)⟩) ⟨wPre_blind, w_recv hS.2.1 hK.1 (by decide) (zkd_of (rfl : zcd wR 0 = 50) rfl) (by decide) (rfl : vwCl[12]? = some (RX12, TX12, 50)), w_pre hS.2.1 hK⟩ rfl rfl hl.1 rfl (lv_room (Nat.le_of_ble_eq_true rfl)) dL_law_1513 ⟨(by show cells + 0 ≤ 601024; omega), (by show slots + 0 ≤ 7293034; omega)⟩) hS hS0 (fun z6 M7 H locs r8 hp9 hS hS0 => ?_)
  have hE9 := hp9.2
  have hI := hp9.1
  refine lv_pop hx hb dL_law_1516 rfl ?_
  refine lv_goto (tgt := 1585) hx hb dL_law_1517 (by decide) ?_
  exact kk _ _ _ H locs _ _ ls hI hS (by omega) (by omega) hS0 (lv_sub hl [0, 1, 2, 3, 4] rfl)

set_option maxHeartbeats 4000000 in
set_option maxRecDepth 100000 in
theorem lc_42 {p : Program} {e : Env} {s : State} {m : MethodId} {below : List Frame} {meth : Method} {c : Code} {l : Launch} (hst : l.stackTraces = false) {b0 L n : Nat} {xs : Nat → Int32} (hL : L ≤ 2560) (C0 : lw_At p s m meth c b0 L xs) {D : va_G} {dA : Nat → ClassId} (hK : zKK D vwCl (z_tys dA) s) (hTw : zTw s) (hZ0 : zZ (yA s.heap.size) s s.heap) (hn : n + 5 ≤ L) {H : Heap} {locs : List Loc} {cells slots : Nat} {ls : Array Slot} {MC MR MO : zM} (hI : INV MC MR) (hS : LW3 D dA s.heap.size MC MR MO H) (hS0 : va_S (yA s.heap.size) s.heap H locs) (hl : lv_has ls 8 [(4, .int (iI (n : Int))), (3, .ref (s.heap.size + 168 + 0)), (2, .ref (s.heap.size + 134 + 0)), (1, .ref (s.heap.size + 0)), (0, .ref b0)]) (hcc : cells + 1 ≤ 601024) (hss : slots + 6 ≤ 7293034)
    (kk : ∀ (MC1 MR1 MO1 : zM) (H1 : Heap) (locs1 : List Loc) (c1 s1 : Nat) (ls1 : Array Slot), INV MC1 MR1 → LW3 D dA s.heap.size MC1 MR1 MO1 H1 → c1 ≤ cells + 1 → s1 ≤ slots + 6 → va_S (yA s.heap.size) s.heap H1 locs1 → lv_has ls1 8 [(4, .int (iI (n : Int))), (3, .ref (s.heap.size + 168 + 0)), (2, .ref (s.heap.size + 134 + 0)), (1, .ref (s.heap.size + 0)), (0, .ref b0)] → W p l e room_1 s m #[Value.ref b0] below meth c H1 locs1 c1 s1 (lw_Z below #[Value.ref b0] s) (F0 m 1585 ls1 [])) :
    W p l e room_1 s m #[Value.ref b0] below meth c H locs cells slots (lw_Z below #[Value.ref b0] s) (F0 m 1520 ls []) := by
  obtain ⟨hx, hb, hr, hml, hown, htsL, hX, hbl, hlocks, hgv⟩ := id C0
  have hts := l_hts htsL
  have hbA : ¬ yA s.heap.size b0 := Nat.not_le.mpr hbl
  have hLb : L < 2147483648 := by omega
  obtain ⟨v1, rv1, ev1⟩ := iI_of (xs (n + 1))
  obtain ⟨v2, rv2, ev2⟩ := iI_of (xs (n + 2))
  refine lv_aload_n hx hb dL_law_1520 rfl (lv_at hl 3 rfl) ?_
  refine lv_aload_n hx hb dL_law_1521 rfl (lv_at hl 4 rfl) ?_
  refine lv_iload hx hb dL_law_1522 (lv_at hl 0 rfl) ?_
  refine z_iconst hx hb dL_law_1524 ?_
  refine z_iadd hx hb dL_law_1525 ?_
  refine l_sld hx hb hX hbl hbA hS0 (k := n + 1) (v := v1) (by omega) (by omega) hLb ev1 dL_law_1526 ?_
  refine lv_aload_n hx hb dL_law_1527 rfl (lv_at hl 4 rfl) ?_
  refine lv_iload hx hb dL_law_1528 (lv_at hl 0 rfl) ?_
  refine z_iconst hx hb dL_law_1530 ?_
  refine z_iadd hx hb dL_law_1531 ?_
  refine l_sld hx hb hX hbl hbA hS0 (k := n + 2) (v := v2) (by omega) (by omega) hLb ev2 dL_law_1532 ?_
  have h1 := st_edits hI (a0 := v1) (a1 := v2) rv1 rv2
  refine l_wCi (va_runV (As := [.int (iI v1), .int (iI v2)]) (rest := []) ⟨hx, hb, hml, hown, hts⟩ (cC_edits l D dA s.heap.size MC v1 v2 _ h1) (cwV 2 hts (z_gV k863 k864 k865 k1 k866) rfl rfl rfl dm_X11_edits ⟨(Nat.le_of_ble_eq_true rfl), (Nat.le_of_ble_eq_true rfl)⟩) ⟨wPre_blind, w_recv hS.1 hK.1 (by decide) (zkd_of (rfl : zcd wC 0 = 0) rfl) (by decide) (rfl : vwCl[11]? = some (RX11, TX11, 11)), w_pre hS.1 hK⟩ rfl rfl hl.1 rfl (lv_room (Nat.le_of_ble_eq_true rfl)) dL_law_1533 ⟨(by show cells + 0 ≤ 601024; omega), (by show slots + 0 ≤ 7293034; omega)⟩) hS hS0 (fun z2 M3 H locs r4 hp5 hS hS0 => ?_)
  refine lv_aload_n hx hb dL_law_1536 rfl (lv_at hl 2 rfl) ?_
  refine lv_aload_n hx hb dL_law_1537 rfl (lv_at hl 4 rfl) ?_
  refine lv_iload hx hb dL_law_1538 (lv_at hl 0 rfl) ?_
  refine z_iconst hx hb dL_law_1540 ?_
  refine z_iadd hx hb dL_law_1541 ?_
  refine l_sld hx hb hX hbl hbA hS0 (k := n + 1) (v := v1) (by omega) (by omega) hLb ev1 dL_law_1542 ?_
  refine lv_aload_n hx hb dL_law_1543 rfl (lv_at hl 4 rfl) ?_
  refine lv_iload hx hb dL_law_1544 (lv_at hl 0 rfl) ?_
  refine z_iconst hx hb dL_law_1546 ?_
  refine z_iadd hx hb dL_law_1547 ?_
  refine l_sld hx hb hX hbl hbA hS0 (k := n + 2) (v := v2) (by omega) (by omega) hLb ev2 dL_law_1548 ?_
  refine l_wRi (va_runV (As := [.int (iI v1), .int (iI v2)]) (rest := [.int (iI z2)]) ⟨hx, hb, hml, hown, hts⟩ (cR_edits l D dA (s.heap.size + 134) MR v1 v2 _ hp5) (cwV 2 hts (z_gV k1337 k1338 k1339 k14 k1340) rfl rfl rfl dm_X12_edits ⟨(Nat.le_of_ble_eq_true rfl), (Nat.le_of_ble_eq_true rfl)⟩) ⟨wPre_blind, w_recv hS.2.1 hK.1 (by decide) (zkd_of (rfl : zcd wR 0 = 50) rfl) (by decide) (rfl : vwCl[12]? = some (RX12, TX12, 50)), w_pre hS.2.1 hK⟩ rfl rfl hl.1 rfl (lv_room (Nat.le_of_ble_eq_true rfl)) dL_law_1549 ⟨(by show cells + 0 ≤ 601024; omega), (by show slots + 0 ≤ 7293034; omega)⟩) hS hS0 (fun z6 M7 H locs r8 hp9 hS hS0 => ?_)
  have hE9 := hp9.2
  have hI := hp9.1
  refine z_icmp_eq (tgt := 1585) hx hb r4 r8 dL_law_1552 (by decide) (fun _ => ?_) (fun c9 => absurd (show z2 = z6 from hE9) c9)
  exact kk _ _ _ H locs _ _ ls hI hS (by omega) (by omega) hS0 (lv_sub hl [0, 1, 2, 3, 4] rfl)

set_option maxHeartbeats 4000000 in
set_option maxRecDepth 100000 in
theorem lc_43 {p : Program} {e : Env} {s : State} {m : MethodId} {below : List Frame} {meth : Method} {c : Code} {l : Launch} (hst : l.stackTraces = false) {b0 L n : Nat} {xs : Nat → Int32} (hL : L ≤ 2560) (C0 : lw_At p s m meth c b0 L xs) {D : va_G} {dA : Nat → ClassId} (hK : zKK D vwCl (z_tys dA) s) (hTw : zTw s) (hZ0 : zZ (yA s.heap.size) s s.heap) (hn : n + 5 ≤ L) {H : Heap} {locs : List Loc} {cells slots : Nat} {ls : Array Slot} {MC MR MO : zM} (hI : INV MC MR) (hS : LW3 D dA s.heap.size MC MR MO H) (hS0 : va_S (yA s.heap.size) s.heap H locs) (hl : lv_has ls 8 [(4, .int (iI (n : Int))), (3, .ref (s.heap.size + 168 + 0)), (2, .ref (s.heap.size + 134 + 0)), (1, .ref (s.heap.size + 0)), (0, .ref b0)]) (hcc : cells + 1 ≤ 601024) (hss : slots + 6 ≤ 7293034)
    (kk : ∀ (MC1 MR1 MO1 : zM) (H1 : Heap) (locs1 : List Loc) (c1 s1 : Nat) (ls1 : Array Slot), INV MC1 MR1 → LW3 D dA s.heap.size MC1 MR1 MO1 H1 → c1 ≤ cells + 1 → s1 ≤ slots + 6 → va_S (yA s.heap.size) s.heap H1 locs1 → lv_has ls1 8 [(4, .int (iI (n : Int))), (3, .ref (s.heap.size + 168 + 0)), (2, .ref (s.heap.size + 134 + 0)), (1, .ref (s.heap.size + 0)), (0, .ref b0)] → W p l e room_1 s m #[Value.ref b0] below meth c H1 locs1 c1 s1 (lw_Z below #[Value.ref b0] s) (F0 m 1585 ls1 [])) :
    W p l e room_1 s m #[Value.ref b0] below meth c H locs cells slots (lw_Z below #[Value.ref b0] s) (F0 m 1557 ls []) := by
  obtain ⟨hx, hb, hr, hml, hown, htsL, hX, hbl, hlocks, hgv⟩ := id C0
  have hts := l_hts htsL
  have hbA : ¬ yA s.heap.size b0 := Nat.not_le.mpr hbl
  have hLb : L < 2147483648 := by omega
  obtain ⟨v1, rv1, ev1⟩ := iI_of (xs (n + 1))
  refine lv_aload_n hx hb dL_law_1557 rfl (lv_at hl 3 rfl) ?_
  refine lv_aload_n hx hb dL_law_1558 rfl (lv_at hl 4 rfl) ?_
  refine lv_iload hx hb dL_law_1559 (lv_at hl 0 rfl) ?_
  refine z_iconst hx hb dL_law_1561 ?_
  refine z_iadd hx hb dL_law_1562 ?_
  refine l_sld hx hb hX hbl hbA hS0 (k := n + 1) (v := v1) (by omega) (by omega) hLb ev1 dL_law_1563 ?_
  refine lv_aload_n hx hb dL_law_1564 rfl (lv_at hl 1 rfl) ?_
  have h4 := st_row hI (a0 := v1) rv1
  refine va_calli (vx_runSW (As := [.ref (s.heap.size + 0), .int (iI v1), .ref (s.heap.size + 168 + 0)]) (rest := []) ⟨hx, hb, hml, hown, hts⟩ (lw_row (MO := MO) (cC_row l hst D dA s.heap.size MC v1 _ _ h4)) (vx_cwSW 3 hts (z_gS k932 k933 k0 w_row) rfl rfl rfl dm_L_row.2 ⟨(Nat.le_of_ble_eq_true rfl), (Nat.le_of_ble_eq_true rfl)⟩) ⟨wPW_blind, fun U hU hW => ⟨rfl, (w_pre (As := []) hS.1 hK U hU hW).2, by rw [hU]; exact hS.2.2, hTw.warm hW, by rw [hU]; exact (hZ0.kept hS0.2.1).moved hW.alike⟩⟩ rfl rfl hl.1 rfl (lv_room (Nat.le_of_ble_eq_true rfl)) dL_law_1565 ⟨(by show cells + 1 ≤ 601024; omega), (by show slots + 6 ≤ 7293034; omega)⟩) hS0 (fun q _ h => h.elim (fun z => z.1) (fun z => by show s.heap.size ≤ q; omega)) (fun q h => h.elim (fun z => z.1) (fun z => by show s.heap.size ≤ q; omega)) (fun rr u3 t9 H1 locs1 ht hvm hp1 hB2 hz hk hS1 => ?_)
  obtain ⟨hR1, hR2⟩ := hB2
  rw [ht] at hR1 hR2
  have hS : LW3 D dA s.heap.size u3.1 MR u3.2 H1 := ⟨hR1, zR_kept hS.2.1 (fun q h1 h2 h3 => hk q h1 (fun z => z.elim (fun y => by have e1 : nC = 134 := rfl; have e2 : nR = 34 := rfl; have := y.2; omega) (fun y => by have e2 : nR = 34 := rfl; omega))), hR2⟩
  have hS0 := hS1
  generalize H1 = H at hS hS0 ⊢
  generalize locs1 = locs at hS0 ⊢
  rcases hp1 with ⟨hr9, v9, hv9, hp1, hu8, hu9⟩ | ⟨hr9, hp1, hu8, hu9⟩
  · skip
    subst hr9
    rw [hu8] at hS
    refine lv_istore (lv' := [(5, .int (iI 0)), (4, .int (iI (n : Int))), (3, .ref (s.heap.size + 168 + 0)), (2, .ref (s.heap.size + 134 + 0)), (1, .ref (s.heap.size + 0)), (0, .ref b0)]) hx hb dL_law_1568 hl (by decide) rfl (fun ls hl => ?_)
    refine lv_aload_n hx hb dL_law_1570 rfl (lv_at hl 3 rfl) ?_
    refine lv_aload_n hx hb dL_law_1571 rfl (lv_at hl 5 rfl) ?_
    refine lv_iload hx hb dL_law_1572 (lv_at hl 1 rfl) ?_
    refine z_iconst hx hb dL_law_1574 ?_
    refine z_iadd hx hb dL_law_1575 ?_
    refine l_sld hx hb hX hbl hbA hS0 (k := n + 1) (v := v1) (by omega) (by omega) hLb ev1 dL_law_1576 ?_
    refine l_wRi (va_runV (As := [.int (iI v1)]) (rest := []) ⟨hx, hb, hml, hown, hts⟩ (cR_row l D dA (s.heap.size + 134) MR v1 _ hp1) (cwV 1 hts (z_gV k1344 k1345 k1346 k14 k1347) rfl rfl rfl dm_X12_row ⟨(Nat.le_of_ble_eq_true rfl), (Nat.le_of_ble_eq_true rfl)⟩) ⟨wPre_blind, w_recv hS.2.1 hK.1 (by decide) (zkd_of (rfl : zcd wR 0 = 50) rfl) (by decide) (rfl : vwCl[12]? = some (RX12, TX12, 50)), w_pre hS.2.1 hK⟩ rfl rfl hl.1 rfl (lv_room (Nat.le_of_ble_eq_true rfl)) dL_law_1577 ⟨(by show (cells + 1) + 0 ≤ 601024; omega), (by show (slots + 6) + 0 ≤ 7293034; omega)⟩) hS hS0 (fun z5 M6 H locs r7 hp8 hS hS0 => ?_)
    have hE9 := hp8.2
    have hI := hp8.1
    refine lv_istore (lv' := [(6, .int (iI z5)), (5, .int (iI 0)), (4, .int (iI (n : Int))), (3, .ref (s.heap.size + 168 + 0)), (2, .ref (s.heap.size + 134 + 0)), (1, .ref (s.heap.size + 0)), (0, .ref b0)]) hx hb dL_law_1580 hl (by decide) rfl (fun ls hl => ?_)
    refine lv_goto (tgt := 1585) hx hb dL_law_1582 (by decide) ?_
    exact kk _ _ _ H locs _ _ ls hI hS (by omega) (by omega) hS0 (lv_sub hl [2, 3, 4, 5, 6] rfl)
  · skip
    subst hr9
    rw [hu8] at hS
    refine lv_istore (lv' := [(5, .int (iI 1)), (4, .int (iI (n : Int))), (3, .ref (s.heap.size + 168 + 0)), (2, .ref (s.heap.size + 134 + 0)), (1, .ref (s.heap.size + 0)), (0, .ref b0)]) hx hb dL_law_1568 hl (by decide) rfl (fun ls hl => ?_)
    refine lv_aload_n hx hb dL_law_1570 rfl (lv_at hl 3 rfl) ?_
    refine lv_aload_n hx hb dL_law_1571 rfl (lv_at hl 5 rfl) ?_
    refine lv_iload hx hb dL_law_1572 (lv_at hl 1 rfl) ?_
    refine z_iconst hx hb dL_law_1574 ?_
    refine z_iadd hx hb dL_law_1575 ?_
    refine l_sld hx hb hX hbl hbA hS0 (k := n + 1) (v := v1) (by omega) (by omega) hLb ev1 dL_law_1576 ?_
    refine l_wRi (va_runV (As := [.int (iI v1)]) (rest := []) ⟨hx, hb, hml, hown, hts⟩ (cR_row l D dA (s.heap.size + 134) MR v1 _ hp1) (cwV 1 hts (z_gV k1344 k1345 k1346 k14 k1347) rfl rfl rfl dm_X12_row ⟨(Nat.le_of_ble_eq_true rfl), (Nat.le_of_ble_eq_true rfl)⟩) ⟨wPre_blind, w_recv hS.2.1 hK.1 (by decide) (zkd_of (rfl : zcd wR 0 = 50) rfl) (by decide) (rfl : vwCl[12]? = some (RX12, TX12, 50)), w_pre hS.2.1 hK⟩ rfl rfl hl.1 rfl (lv_room (Nat.le_of_ble_eq_true rfl)) dL_law_1577 ⟨(by show (cells + 1) + 0 ≤ 601024; omega), (by show (slots + 6) + 0 ≤ 7293034; omega)⟩) hS hS0 (fun z9 M10 H locs r11 hp12 hS hS0 => ?_)
    have hE9 := hp12.2
    have hI := hp12.1
    refine lv_istore (lv' := [(6, .int (iI z9)), (5, .int (iI 1)), (4, .int (iI (n : Int))), (3, .ref (s.heap.size + 168 + 0)), (2, .ref (s.heap.size + 134 + 0)), (1, .ref (s.heap.size + 0)), (0, .ref b0)]) hx hb dL_law_1580 hl (by decide) rfl (fun ls hl => ?_)
    refine lv_goto (tgt := 1585) hx hb dL_law_1582 (by decide) ?_
    exact kk _ _ _ H locs _ _ ls hI hS (by omega) (by omega) hS0 (lv_sub hl [2, 3, 4, 5, 6] rfl)
