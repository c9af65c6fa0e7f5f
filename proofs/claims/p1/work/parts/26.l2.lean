set_option maxHeartbeats 4000000 in
set_option maxRecDepth 100000 in
theorem lc_30 {p : Program} {e : Env} {s : State} {m : MethodId} {below : List Frame} {meth : Method} {c : Code} {l : Launch} (hst : l.stackTraces = false) {b0 L n : Nat} {xs : Nat → Int32} (hL : L ≤ 5) (C0 : lw_At p s m meth c b0 L xs) {D : va_G} {dA : Nat → ClassId} (hK : zKK D vwCl (z_tys dA) s) (hTw : zTw s) (hZ0 : zZ (yA s.heap.size) s s.heap) (hn : n + 5 ≤ L) {H : Heap} {locs : List Loc} {cells slots : Nat} {ls : Array Slot} {MO : zM} (hS : LWS D dA s.heap.size MC0 MR0 MO H) (hS0 : va_S (yA s.heap.size) s.heap H locs) (hl : lv_has ls 8 [(4, .int (iI (n : Int))), (3, .ref (s.heap.size + 168 + 0)), (2, .ref (s.heap.size + 134 + 0)), (1, .ref (s.heap.size + 0)), (0, .ref b0)]) (hcc : cells + 1 ≤ 600002) (hss : slots + 6 ≤ 7302232)
    (kk : ∀ (H1 : Heap) (locs1 : List Loc) (c1 s1 : Nat) (ls1 : Array Slot), c1 ≤ cells + 1 → s1 ≤ slots + 6 → va_S (yA s.heap.size) s.heap H1 locs1 → lv_has ls1 8 [(4, .int (iI (n : Int))), (3, .ref (s.heap.size + 168 + 0)), (2, .ref (s.heap.size + 134 + 0)), (1, .ref (s.heap.size + 0)), (0, .ref b0)] → W p l e room_1 s m #[Value.ref b0] below meth c H1 locs1 c1 s1 (lw_Z below #[Value.ref b0] s) (F0 m 1671 ls1 [])) :
    W p l e room_1 s m #[Value.ref b0] below meth c H locs cells slots (lw_Z below #[Value.ref b0] s) (F0 m 1266 ls []) := by
  obtain ⟨hx, hb, hr, hml, hown, htsL, hX, hbl, hlocks, hgv⟩ := id C0
  have hts := l_hts htsL
  have hbA : ¬ yA s.heap.size b0 := Nat.not_le.mpr hbl
  have hLb : L < 2147483648 := by omega
  obtain ⟨v1, rv1, ev1⟩ := iI_of (xs (n + 1))
  obtain ⟨v2, rv2, ev2⟩ := iI_of (xs (n + 2))
  refine lv_aload_n hx hb dL_law_1266 rfl (lv_at hl 3 rfl) ?_
  refine lv_aload_n hx hb dL_law_1267 rfl (lv_at hl 4 rfl) ?_
  refine lv_iload hx hb dL_law_1268 (lv_at hl 0 rfl) ?_
  refine z_iconst hx hb dL_law_1270 ?_
  refine z_iadd hx hb dL_law_1271 ?_
  refine l_sld hx hb hX hbl hbA hS0 (k := n + 1) (v := v1) (by omega) (by omega) hLb ev1 dL_law_1272 ?_
  refine lv_aload_n hx hb dL_law_1273 rfl (lv_at hl 4 rfl) ?_
  refine lv_iload hx hb dL_law_1274 (lv_at hl 0 rfl) ?_
  refine z_iconst hx hb dL_law_1276 ?_
  refine z_iadd hx hb dL_law_1277 ?_
  refine l_sld hx hb hX hbl hbA hS0 (k := n + 2) (v := v2) (by omega) (by omega) hLb ev2 dL_law_1278 ?_
  refine l_Ci (va_runV (As := [.int (iI v1), .int (iI v2)]) (rest := []) ⟨hx, hb, hml, hown, hts⟩ (x_take l D dA s.heap.size MC0 v1 v2 rv1 rv2 gC_32_2) (cwV 2 hts (z_gV k742 k743 k744 k1 k745) rfl rfl rfl dm_X11_take ⟨(Nat.le_of_ble_eq_true rfl), (Nat.le_of_ble_eq_true rfl)⟩) ⟨zP_blind, z_recv (ls_C hS) hK.1 (by decide) (zkd_of (rfl : zcd wC 0 = 0) rfl) (by decide) (rfl : vwCl[11]? = some (RX11, TX11, 11)), z_pre (ls_C hS) hK⟩ rfl rfl hl.1 rfl (lv_room (Nat.le_of_ble_eq_true rfl)) dL_law_1279 ⟨(by show cells + 0 ≤ 600002; omega), (by show slots + 0 ≤ 7302232; omega)⟩) hS hS0 (fun z1 M2 H locs r3 hp4 hF5 hS hS0 => ?_)
  refine lv_aload_n hx hb dL_law_1282 rfl (lv_at hl 2 rfl) ?_
  refine lv_aload_n hx hb dL_law_1283 rfl (lv_at hl 4 rfl) ?_
  refine lv_iload hx hb dL_law_1284 (lv_at hl 0 rfl) ?_
  refine z_iconst hx hb dL_law_1286 ?_
  refine z_iadd hx hb dL_law_1287 ?_
  refine l_sld hx hb hX hbl hbA hS0 (k := n + 1) (v := v1) (by omega) (by omega) hLb ev1 dL_law_1288 ?_
  refine lv_aload_n hx hb dL_law_1289 rfl (lv_at hl 4 rfl) ?_
  refine lv_iload hx hb dL_law_1290 (lv_at hl 0 rfl) ?_
  refine z_iconst hx hb dL_law_1292 ?_
  refine z_iadd hx hb dL_law_1293 ?_
  refine l_sld hx hb hX hbl hbA hS0 (k := n + 2) (v := v2) (by omega) (by omega) hLb ev2 dL_law_1294 ?_
  refine l_Ri (va_runV (As := [.int (iI v1), .int (iI v2)]) (rest := [.int (iI z1)]) ⟨hx, hb, hml, hown, hts⟩ (m_take l D dA (s.heap.size + 134) MR0 v1 v2 rv1 rv2 gR_0_10) (cwV 2 hts (z_gV k1272 k1273 k1274 k14 k1275) rfl rfl rfl dm_X12_take ⟨(Nat.le_of_ble_eq_true rfl), (Nat.le_of_ble_eq_true rfl)⟩) ⟨zP_blind, z_recv (ls_R hS) hK.1 (by decide) (zkd_of (rfl : zcd wR 0 = 50) rfl) (by decide) (rfl : vwCl[12]? = some (RX12, TX12, 50)), z_pre (ls_R hS) hK⟩ rfl rfl hl.1 rfl (lv_room (Nat.le_of_ble_eq_true rfl)) dL_law_1295 ⟨(by show cells + 0 ≤ 600002; omega), (by show slots + 0 ≤ 7302232; omega)⟩) hS hS0 (fun z6 M7 H locs r8 hp9 hF10 hS hS0 => ?_)
  refine z_icmp_eq (tgt := 1671) hx hb r3 r8 dL_law_1298 (by decide) (fun _ => ?_) (fun c9 => absurd (show z1 = z6 from by omega) c9)
  exact kk H locs _ _ ls (by omega) (by omega) hS0 (lv_sub hl [0, 1, 2, 3, 4] rfl)

set_option maxHeartbeats 4000000 in
set_option maxRecDepth 100000 in
theorem lc_31 {p : Program} {e : Env} {s : State} {m : MethodId} {below : List Frame} {meth : Method} {c : Code} {l : Launch} (hst : l.stackTraces = false) {b0 L n : Nat} {xs : Nat → Int32} (hL : L ≤ 5) (C0 : lw_At p s m meth c b0 L xs) {D : va_G} {dA : Nat → ClassId} (hK : zKK D vwCl (z_tys dA) s) (hTw : zTw s) (hZ0 : zZ (yA s.heap.size) s s.heap) (hn : n + 5 ≤ L) {H : Heap} {locs : List Loc} {cells slots : Nat} {ls : Array Slot} {MO : zM} (hS : LWS D dA s.heap.size MC0 MR0 MO H) (hS0 : va_S (yA s.heap.size) s.heap H locs) (hl : lv_has ls 8 [(4, .int (iI (n : Int))), (3, .ref (s.heap.size + 168 + 0)), (2, .ref (s.heap.size + 134 + 0)), (1, .ref (s.heap.size + 0)), (0, .ref b0)]) (hcc : cells + 1 ≤ 600002) (hss : slots + 6 ≤ 7302232)
    (kk : ∀ (H1 : Heap) (locs1 : List Loc) (c1 s1 : Nat) (ls1 : Array Slot), c1 ≤ cells + 1 → s1 ≤ slots + 6 → va_S (yA s.heap.size) s.heap H1 locs1 → lv_has ls1 8 [(4, .int (iI (n : Int))), (3, .ref (s.heap.size + 168 + 0)), (2, .ref (s.heap.size + 134 + 0)), (1, .ref (s.heap.size + 0)), (0, .ref b0)] → W p l e room_1 s m #[Value.ref b0] below meth c H1 locs1 c1 s1 (lw_Z below #[Value.ref b0] s) (F0 m 1671 ls1 [])) :
    W p l e room_1 s m #[Value.ref b0] below meth c H locs cells slots (lw_Z below #[Value.ref b0] s) (F0 m 1303 ls []) := by
  obtain ⟨hx, hb, hr, hml, hown, htsL, hX, hbl, hlocks, hgv⟩ := id C0
  have hts := l_hts htsL
  have hbA : ¬ yA s.heap.size b0 := Nat.not_le.mpr hbl
  have hLb : L < 2147483648 := by omega
  obtain ⟨v1, rv1, ev1⟩ := iI_of (xs (n + 1))
  refine lv_aload_n hx hb dL_law_1303 rfl (lv_at hl 3 rfl) ?_
  refine lv_aload_n hx hb dL_law_1304 rfl (lv_at hl 4 rfl) ?_
  refine lv_iload hx hb dL_law_1305 (lv_at hl 0 rfl) ?_
  refine z_iconst hx hb dL_law_1307 ?_
  refine z_iadd hx hb dL_law_1308 ?_
  refine l_sld hx hb hX hbl hbA hS0 (k := n + 1) (v := v1) (by omega) (by omega) hLb ev1 dL_law_1309 ?_
  refine l_Ci (va_runV (As := [.int (iI v1)]) (rest := []) ⟨hx, hb, hml, hown, hts⟩ (x_gap l D dA s.heap.size MC0 v1 rv1 gC_82_1) (cwV 1 hts (z_gV k746 k747 k748 k1 k749) rfl rfl rfl dm_X11_gap ⟨(Nat.le_of_ble_eq_true rfl), (Nat.le_of_ble_eq_true rfl)⟩) ⟨zP_blind, z_recv (ls_C hS) hK.1 (by decide) (zkd_of (rfl : zcd wC 0 = 0) rfl) (by decide) (rfl : vwCl[11]? = some (RX11, TX11, 11)), z_pre (ls_C hS) hK⟩ rfl rfl hl.1 rfl (lv_room (Nat.le_of_ble_eq_true rfl)) dL_law_1310 ⟨(by show cells + 0 ≤ 600002; omega), (by show slots + 0 ≤ 7302232; omega)⟩) hS hS0 (fun z1 M2 H locs r3 hp4 hF5 hS hS0 => ?_)
  refine lv_aload_n hx hb dL_law_1313 rfl (lv_at hl 2 rfl) ?_
  refine lv_aload_n hx hb dL_law_1314 rfl (lv_at hl 4 rfl) ?_
  refine lv_iload hx hb dL_law_1315 (lv_at hl 0 rfl) ?_
  refine z_iconst hx hb dL_law_1317 ?_
  refine z_iadd hx hb dL_law_1318 ?_
  refine l_sld hx hb hX hbl hbA hS0 (k := n + 1) (v := v1) (by omega) (by omega) hLb ev1 dL_law_1319 ?_
  refine l_Ri (va_runV (As := [.int (iI v1)]) (rest := [.int (iI z1)]) ⟨hx, hb, hml, hown, hts⟩ (m_gap l D dA (s.heap.size + 134) MR0 v1 rv1 gR_0_24) (cwV 1 hts (z_gV k1276 k1277 k1278 k14 k1279) rfl rfl rfl dm_X12_gap ⟨(Nat.le_of_ble_eq_true rfl), (Nat.le_of_ble_eq_true rfl)⟩) ⟨zP_blind, z_recv (ls_R hS) hK.1 (by decide) (zkd_of (rfl : zcd wR 0 = 50) rfl) (by decide) (rfl : vwCl[12]? = some (RX12, TX12, 50)), z_pre (ls_R hS) hK⟩ rfl rfl hl.1 rfl (lv_room (Nat.le_of_ble_eq_true rfl)) dL_law_1320 ⟨(by show cells + 0 ≤ 600002; omega), (by show slots + 0 ≤ 7302232; omega)⟩) hS hS0 (fun z6 M7 H locs r8 hp9 hF10 hS hS0 => ?_)
  refine z_icmp_eq (tgt := 1671) hx hb r3 r8 dL_law_1323 (by decide) (fun _ => ?_) (fun c9 => absurd (show z1 = z6 from by omega) c9)
  exact kk H locs _ _ ls (by omega) (by omega) hS0 (lv_sub hl [0, 1, 2, 3, 4] rfl)

set_option maxHeartbeats 4000000 in
set_option maxRecDepth 100000 in
theorem lc_32 {p : Program} {e : Env} {s : State} {m : MethodId} {below : List Frame} {meth : Method} {c : Code} {l : Launch} (hst : l.stackTraces = false) {b0 L n : Nat} {xs : Nat → Int32} (hL : L ≤ 5) (C0 : lw_At p s m meth c b0 L xs) {D : va_G} {dA : Nat → ClassId} (hK : zKK D vwCl (z_tys dA) s) (hTw : zTw s) (hZ0 : zZ (yA s.heap.size) s s.heap) (hn : n + 5 ≤ L) {H : Heap} {locs : List Loc} {cells slots : Nat} {ls : Array Slot} {MO : zM} (hS : LWS D dA s.heap.size MC0 MR0 MO H) (hS0 : va_S (yA s.heap.size) s.heap H locs) (hl : lv_has ls 8 [(4, .int (iI (n : Int))), (3, .ref (s.heap.size + 168 + 0)), (2, .ref (s.heap.size + 134 + 0)), (1, .ref (s.heap.size + 0)), (0, .ref b0)]) (hcc : cells + 1 ≤ 600002) (hss : slots + 6 ≤ 7302232)
    (kk : ∀ (H1 : Heap) (locs1 : List Loc) (c1 s1 : Nat) (ls1 : Array Slot), c1 ≤ cells + 1 → s1 ≤ slots + 6 → va_S (yA s.heap.size) s.heap H1 locs1 → lv_has ls1 8 [(4, .int (iI (n : Int))), (3, .ref (s.heap.size + 168 + 0)), (2, .ref (s.heap.size + 134 + 0)), (1, .ref (s.heap.size + 0)), (0, .ref b0)] → W p l e room_1 s m #[Value.ref b0] below meth c H1 locs1 c1 s1 (lw_Z below #[Value.ref b0] s) (F0 m 1671 ls1 [])) :
    W p l e room_1 s m #[Value.ref b0] below meth c H locs cells slots (lw_Z below #[Value.ref b0] s) (F0 m 1328 ls []) := by
  obtain ⟨hx, hb, hr, hml, hown, htsL, hX, hbl, hlocks, hgv⟩ := id C0
  have hts := l_hts htsL
  have hbA : ¬ yA s.heap.size b0 := Nat.not_le.mpr hbl
  have hLb : L < 2147483648 := by omega
  refine lv_aload_n hx hb dL_law_1328 rfl (lv_at hl 3 rfl) ?_
  refine l_Ci (va_runV (As := []) (rest := []) ⟨hx, hb, hml, hown, hts⟩ (x_wipe l D dA s.heap.size MC0 gC_82_1) (cwV 0 hts (z_gV k754 k755 k756 k1 k757) rfl rfl rfl dm_X11_wipe ⟨(Nat.le_of_ble_eq_true rfl), (Nat.le_of_ble_eq_true rfl)⟩) ⟨zP_blind, z_recv (ls_C hS) hK.1 (by decide) (zkd_of (rfl : zcd wC 0 = 0) rfl) (by decide) (rfl : vwCl[11]? = some (RX11, TX11, 11)), z_pre (ls_C hS) hK⟩ rfl rfl hl.1 rfl (lv_room (Nat.le_of_ble_eq_true rfl)) dL_law_1329 ⟨(by show cells + 0 ≤ 600002; omega), (by show slots + 0 ≤ 7302232; omega)⟩) hS hS0 (fun z1 M2 H locs r3 hp4 hF5 hS hS0 => ?_)
  refine lv_aload_n hx hb dL_law_1332 rfl (lv_at hl 2 rfl) ?_
  refine l_Ri (va_runV (As := []) (rest := [.int (iI z1)]) ⟨hx, hb, hml, hown, hts⟩ (m_wipe l D dA (s.heap.size + 134) MR0 gR_0_24) (cwV 0 hts (z_gV k1280 k1281 k1282 k14 k1283) rfl rfl rfl dm_X12_wipe ⟨(Nat.le_of_ble_eq_true rfl), (Nat.le_of_ble_eq_true rfl)⟩) ⟨zP_blind, z_recv (ls_R hS) hK.1 (by decide) (zkd_of (rfl : zcd wR 0 = 50) rfl) (by decide) (rfl : vwCl[12]? = some (RX12, TX12, 50)), z_pre (ls_R hS) hK⟩ rfl rfl hl.1 rfl (lv_room (Nat.le_of_ble_eq_true rfl)) dL_law_1333 ⟨(by show cells + 0 ≤ 600002; omega), (by show slots + 0 ≤ 7302232; omega)⟩) hS hS0 (fun z6 M7 H locs r8 hp9 hF10 hS hS0 => ?_)
  refine z_icmp_eq (tgt := 1671) hx hb r3 r8 dL_law_1336 (by decide) (fun _ => ?_) (fun c9 => absurd (show z1 = z6 from by omega) c9)
  exact kk H locs _ _ ls (by omega) (by omega) hS0 (lv_sub hl [0, 1, 2, 3, 4] rfl)

set_option maxHeartbeats 4000000 in
set_option maxRecDepth 100000 in
theorem lc_33 {p : Program} {e : Env} {s : State} {m : MethodId} {below : List Frame} {meth : Method} {c : Code} {l : Launch} (hst : l.stackTraces = false) {b0 L n : Nat} {xs : Nat → Int32} (hL : L ≤ 5) (C0 : lw_At p s m meth c b0 L xs) {D : va_G} {dA : Nat → ClassId} (hK : zKK D vwCl (z_tys dA) s) (hTw : zTw s) (hZ0 : zZ (yA s.heap.size) s s.heap) (hn : n + 5 ≤ L) {H : Heap} {locs : List Loc} {cells slots : Nat} {ls : Array Slot} {MO : zM} (hS : LWS D dA s.heap.size MC0 MR0 MO H) (hS0 : va_S (yA s.heap.size) s.heap H locs) (hl : lv_has ls 8 [(4, .int (iI (n : Int))), (3, .ref (s.heap.size + 168 + 0)), (2, .ref (s.heap.size + 134 + 0)), (1, .ref (s.heap.size + 0)), (0, .ref b0)]) (hcc : cells + 1 ≤ 600002) (hss : slots + 6 ≤ 7302232)
    (kk : ∀ (H1 : Heap) (locs1 : List Loc) (c1 s1 : Nat) (ls1 : Array Slot), c1 ≤ cells + 1 → s1 ≤ slots + 6 → va_S (yA s.heap.size) s.heap H1 locs1 → lv_has ls1 8 [(4, .int (iI (n : Int))), (3, .ref (s.heap.size + 168 + 0)), (2, .ref (s.heap.size + 134 + 0)), (1, .ref (s.heap.size + 0)), (0, .ref b0)] → W p l e room_1 s m #[Value.ref b0] below meth c H1 locs1 c1 s1 (lw_Z below #[Value.ref b0] s) (F0 m 1671 ls1 [])) :
    W p l e room_1 s m #[Value.ref b0] below meth c H locs cells slots (lw_Z below #[Value.ref b0] s) (F0 m 1341 ls []) := by
  obtain ⟨hx, hb, hr, hml, hown, htsL, hX, hbl, hlocks, hgv⟩ := id C0
  have hts := l_hts htsL
  have hbA : ¬ yA s.heap.size b0 := Nat.not_le.mpr hbl
  have hLb : L < 2147483648 := by omega
  obtain ⟨v1, rv1, ev1⟩ := iI_of (xs (n + 1))
  refine lv_aload_n hx hb dL_law_1341 rfl (lv_at hl 3 rfl) ?_
  refine lv_aload_n hx hb dL_law_1342 rfl (lv_at hl 4 rfl) ?_
  refine lv_iload hx hb dL_law_1343 (lv_at hl 0 rfl) ?_
  refine z_iconst hx hb dL_law_1345 ?_
  refine z_iadd hx hb dL_law_1346 ?_
  refine l_sld hx hb hX hbl hbA hS0 (k := n + 1) (v := v1) (by omega) (by omega) hLb ev1 dL_law_1347 ?_
  refine l_Ci (va_runV (As := [.int (iI v1)]) (rest := []) ⟨hx, hb, hml, hown, hts⟩ (x_span l D dA s.heap.size MC0 v1 rv1 gC_82_1) (cwV 1 hts (z_gV k758 k759 k760 k1 k761) rfl rfl rfl dm_X11_span ⟨(Nat.le_of_ble_eq_true rfl), (Nat.le_of_ble_eq_true rfl)⟩) ⟨zP_blind, z_recv (ls_C hS) hK.1 (by decide) (zkd_of (rfl : zcd wC 0 = 0) rfl) (by decide) (rfl : vwCl[11]? = some (RX11, TX11, 11)), z_pre (ls_C hS) hK⟩ rfl rfl hl.1 rfl (lv_room (Nat.le_of_ble_eq_true rfl)) dL_law_1348 ⟨(by show cells + 0 ≤ 600002; omega), (by show slots + 0 ≤ 7302232; omega)⟩) hS hS0 (fun z1 M2 H locs r3 hp4 hF5 hS hS0 => ?_)
  refine lv_aload_n hx hb dL_law_1351 rfl (lv_at hl 2 rfl) ?_
  refine lv_aload_n hx hb dL_law_1352 rfl (lv_at hl 4 rfl) ?_
  refine lv_iload hx hb dL_law_1353 (lv_at hl 0 rfl) ?_
  refine z_iconst hx hb dL_law_1355 ?_
  refine z_iadd hx hb dL_law_1356 ?_
  refine l_sld hx hb hX hbl hbA hS0 (k := n + 1) (v := v1) (by omega) (by omega) hLb ev1 dL_law_1357 ?_
  refine l_Ri (va_runV (As := [.int (iI v1)]) (rest := [.int (iI z1)]) ⟨hx, hb, hml, hown, hts⟩ (m_span l D dA (s.heap.size + 134) MR0 v1 rv1 gR_0_24) (cwV 1 hts (z_gV k1284 k1285 k1286 k14 k1287) rfl rfl rfl dm_X12_span ⟨(Nat.le_of_ble_eq_true rfl), (Nat.le_of_ble_eq_true rfl)⟩) ⟨zP_blind, z_recv (ls_R hS) hK.1 (by decide) (zkd_of (rfl : zcd wR 0 = 50) rfl) (by decide) (rfl : vwCl[12]? = some (RX12, TX12, 50)), z_pre (ls_R hS) hK⟩ rfl rfl hl.1 rfl (lv_room (Nat.le_of_ble_eq_true rfl)) dL_law_1358 ⟨(by show cells + 0 ≤ 600002; omega), (by show slots + 0 ≤ 7302232; omega)⟩) hS hS0 (fun z6 M7 H locs r8 hp9 hF10 hS hS0 => ?_)
  refine z_icmp_eq (tgt := 1671) hx hb r3 r8 dL_law_1361 (by decide) (fun _ => ?_) (fun c9 => absurd (show z1 = z6 from by omega) c9)
  exact kk H locs _ _ ls (by omega) (by omega) hS0 (lv_sub hl [0, 1, 2, 3, 4] rfl)

set_option maxHeartbeats 4000000 in
set_option maxRecDepth 100000 in
theorem lc_34 {p : Program} {e : Env} {s : State} {m : MethodId} {below : List Frame} {meth : Method} {c : Code} {l : Launch} (hst : l.stackTraces = false) {b0 L n : Nat} {xs : Nat → Int32} (hL : L ≤ 5) (C0 : lw_At p s m meth c b0 L xs) {D : va_G} {dA : Nat → ClassId} (hK : zKK D vwCl (z_tys dA) s) (hTw : zTw s) (hZ0 : zZ (yA s.heap.size) s s.heap) (hn : n + 5 ≤ L) {H : Heap} {locs : List Loc} {cells slots : Nat} {ls : Array Slot} {MO : zM} (hS : LWS D dA s.heap.size MC0 MR0 MO H) (hS0 : va_S (yA s.heap.size) s.heap H locs) (hl : lv_has ls 8 [(4, .int (iI (n : Int))), (3, .ref (s.heap.size + 168 + 0)), (2, .ref (s.heap.size + 134 + 0)), (1, .ref (s.heap.size + 0)), (0, .ref b0)]) (hcc : cells + 1 ≤ 600002) (hss : slots + 6 ≤ 7302232)
    (kk : ∀ (H1 : Heap) (locs1 : List Loc) (c1 s1 : Nat) (ls1 : Array Slot), c1 ≤ cells + 1 → s1 ≤ slots + 6 → va_S (yA s.heap.size) s.heap H1 locs1 → lv_has ls1 8 [(4, .int (iI (n : Int))), (3, .ref (s.heap.size + 168 + 0)), (2, .ref (s.heap.size + 134 + 0)), (1, .ref (s.heap.size + 0)), (0, .ref b0)] → W p l e room_1 s m #[Value.ref b0] below meth c H1 locs1 c1 s1 (lw_Z below #[Value.ref b0] s) (F0 m 1671 ls1 [])) :
    W p l e room_1 s m #[Value.ref b0] below meth c H locs cells slots (lw_Z below #[Value.ref b0] s) (F0 m 1366 ls []) := by
  obtain ⟨hx, hb, hr, hml, hown, htsL, hX, hbl, hlocks, hgv⟩ := id C0
  have hts := l_hts htsL
  have hbA : ¬ yA s.heap.size b0 := Nat.not_le.mpr hbl
  have hLb : L < 2147483648 := by omega
  obtain ⟨v1, rv1, ev1⟩ := iI_of (xs (n + 1))
  refine lv_aload_n hx hb dL_law_1366 rfl (lv_at hl 3 rfl) ?_
  refine lv_aload_n hx hb dL_law_1367 rfl (lv_at hl 4 rfl) ?_
  refine lv_iload hx hb dL_law_1368 (lv_at hl 0 rfl) ?_
  refine z_iconst hx hb dL_law_1370 ?_
  refine z_iadd hx hb dL_law_1371 ?_
  refine l_sld hx hb hX hbl hbA hS0 (k := n + 1) (v := v1) (by omega) (by omega) hLb ev1 dL_law_1372 ?_
  refine l_Ci (va_runV (As := [.int (iI v1)]) (rest := []) ⟨hx, hb, hml, hown, hts⟩ (x_pair l D dA s.heap.size MC0 v1 rv1 gC_82_1) (cwV 1 hts (z_gV k770 k771 k772 k1 k773) rfl rfl rfl dm_X11_pair ⟨(Nat.le_of_ble_eq_true rfl), (Nat.le_of_ble_eq_true rfl)⟩) ⟨zP_blind, z_recv (ls_C hS) hK.1 (by decide) (zkd_of (rfl : zcd wC 0 = 0) rfl) (by decide) (rfl : vwCl[11]? = some (RX11, TX11, 11)), z_pre (ls_C hS) hK⟩ rfl rfl hl.1 rfl (lv_room (Nat.le_of_ble_eq_true rfl)) dL_law_1373 ⟨(by show cells + 0 ≤ 600002; omega), (by show slots + 0 ≤ 7302232; omega)⟩) hS hS0 (fun z1 M2 H locs r3 hp4 hF5 hS hS0 => ?_)
  refine lv_aload_n hx hb dL_law_1376 rfl (lv_at hl 2 rfl) ?_
  refine lv_aload_n hx hb dL_law_1377 rfl (lv_at hl 4 rfl) ?_
  refine lv_iload hx hb dL_law_1378 (lv_at hl 0 rfl) ?_
  refine z_iconst hx hb dL_law_1380 ?_
  refine z_iadd hx hb dL_law_1381 ?_
  refine l_sld hx hb hX hbl hbA hS0 (k := n + 1) (v := v1) (by omega) (by omega) hLb ev1 dL_law_1382 ?_
  refine l_Ri (va_runV (As := [.int (iI v1)]) (rest := [.int (iI z1)]) ⟨hx, hb, hml, hown, hts⟩ (m_pair l D dA (s.heap.size + 134) MR0 v1 rv1 gR_0_24) (cwV 1 hts (z_gV k1291 k1292 k1293 k14 k1294) rfl rfl rfl dm_X12_pair ⟨(Nat.le_of_ble_eq_true rfl), (Nat.le_of_ble_eq_true rfl)⟩) ⟨zP_blind, z_recv (ls_R hS) hK.1 (by decide) (zkd_of (rfl : zcd wR 0 = 50) rfl) (by decide) (rfl : vwCl[12]? = some (RX12, TX12, 50)), z_pre (ls_R hS) hK⟩ rfl rfl hl.1 rfl (lv_room (Nat.le_of_ble_eq_true rfl)) dL_law_1383 ⟨(by show cells + 0 ≤ 600002; omega), (by show slots + 0 ≤ 7302232; omega)⟩) hS hS0 (fun z6 M7 H locs r8 hp9 hF10 hS hS0 => ?_)
  refine z_icmp_eq (tgt := 1671) hx hb r3 r8 dL_law_1386 (by decide) (fun _ => ?_) (fun c9 => absurd (show z1 = z6 from PR_fun hp4 hp9) c9)
  exact kk H locs _ _ ls (by omega) (by omega) hS0 (lv_sub hl [0, 1, 2, 3, 4] rfl)

set_option maxHeartbeats 4000000 in
set_option maxRecDepth 100000 in
theorem lc_35 {p : Program} {e : Env} {s : State} {m : MethodId} {below : List Frame} {meth : Method} {c : Code} {l : Launch} (hst : l.stackTraces = false) {b0 L n : Nat} {xs : Nat → Int32} (hL : L ≤ 5) (C0 : lw_At p s m meth c b0 L xs) {D : va_G} {dA : Nat → ClassId} (hK : zKK D vwCl (z_tys dA) s) (hTw : zTw s) (hZ0 : zZ (yA s.heap.size) s s.heap) (hn : n + 5 ≤ L) {H : Heap} {locs : List Loc} {cells slots : Nat} {ls : Array Slot} {MO : zM} (hS : LWS D dA s.heap.size MC0 MR0 MO H) (hS0 : va_S (yA s.heap.size) s.heap H locs) (hl : lv_has ls 8 [(4, .int (iI (n : Int))), (3, .ref (s.heap.size + 168 + 0)), (2, .ref (s.heap.size + 134 + 0)), (1, .ref (s.heap.size + 0)), (0, .ref b0)]) (hcc : cells + 1 ≤ 600002) (hss : slots + 6 ≤ 7302232)
    (kk : ∀ (H1 : Heap) (locs1 : List Loc) (c1 s1 : Nat) (ls1 : Array Slot), c1 ≤ cells + 1 → s1 ≤ slots + 6 → va_S (yA s.heap.size) s.heap H1 locs1 → lv_has ls1 8 [(4, .int (iI (n : Int))), (3, .ref (s.heap.size + 168 + 0)), (2, .ref (s.heap.size + 134 + 0)), (1, .ref (s.heap.size + 0)), (0, .ref b0)] → W p l e room_1 s m #[Value.ref b0] below meth c H1 locs1 c1 s1 (lw_Z below #[Value.ref b0] s) (F0 m 1671 ls1 [])) :
    W p l e room_1 s m #[Value.ref b0] below meth c H locs cells slots (lw_Z below #[Value.ref b0] s) (F0 m 1391 ls []) := by
  obtain ⟨hx, hb, hr, hml, hown, htsL, hX, hbl, hlocks, hgv⟩ := id C0
  have hts := l_hts htsL
  have hbA : ¬ yA s.heap.size b0 := Nat.not_le.mpr hbl
  have hLb : L < 2147483648 := by omega
  obtain ⟨v1, rv1, ev1⟩ := iI_of (xs (n + 1))
  refine lv_aload_n hx hb dL_law_1391 rfl (lv_at hl 3 rfl) ?_
  refine lv_aload_n hx hb dL_law_1392 rfl (lv_at hl 4 rfl) ?_
  refine lv_iload hx hb dL_law_1393 (lv_at hl 0 rfl) ?_
  refine z_iconst hx hb dL_law_1395 ?_
  refine z_iadd hx hb dL_law_1396 ?_
  refine l_sld hx hb hX hbl hbA hS0 (k := n + 1) (v := v1) (by omega) (by omega) hLb ev1 dL_law_1397 ?_
  refine l_Ci (va_runV (As := [.int (iI v1)]) (rest := []) ⟨hx, hb, hml, hown, hts⟩ (x_mended l D dA s.heap.size MC0 v1 rv1 gC_82_1) (cwV 1 hts (z_gV k785 k786 k787 k1 k788) rfl rfl rfl dm_X11_mended ⟨(Nat.le_of_ble_eq_true rfl), (Nat.le_of_ble_eq_true rfl)⟩) ⟨zP_blind, z_recv (ls_C hS) hK.1 (by decide) (zkd_of (rfl : zcd wC 0 = 0) rfl) (by decide) (rfl : vwCl[11]? = some (RX11, TX11, 11)), z_pre (ls_C hS) hK⟩ rfl rfl hl.1 rfl (lv_room (Nat.le_of_ble_eq_true rfl)) dL_law_1398 ⟨(by show cells + 0 ≤ 600002; omega), (by show slots + 0 ≤ 7302232; omega)⟩) hS hS0 (fun z1 M2 H locs r3 hp4 hF5 hS hS0 => ?_)
  refine lv_aload_n hx hb dL_law_1401 rfl (lv_at hl 2 rfl) ?_
  refine lv_aload_n hx hb dL_law_1402 rfl (lv_at hl 4 rfl) ?_
  refine lv_iload hx hb dL_law_1403 (lv_at hl 0 rfl) ?_
  refine z_iconst hx hb dL_law_1405 ?_
  refine z_iadd hx hb dL_law_1406 ?_
  refine l_sld hx hb hX hbl hbA hS0 (k := n + 1) (v := v1) (by omega) (by omega) hLb ev1 dL_law_1407 ?_
  refine l_Ri (va_runV (As := [.int (iI v1)]) (rest := [.int (iI z1)]) ⟨hx, hb, hml, hown, hts⟩ (m_mended l D dA (s.heap.size + 134) MR0 v1 rv1 gR_0_24) (cwV 1 hts (z_gV k1304 k1305 k1306 k14 k1307) rfl rfl rfl dm_X12_mended ⟨(Nat.le_of_ble_eq_true rfl), (Nat.le_of_ble_eq_true rfl)⟩) ⟨zP_blind, z_recv (ls_R hS) hK.1 (by decide) (zkd_of (rfl : zcd wR 0 = 50) rfl) (by decide) (rfl : vwCl[12]? = some (RX12, TX12, 50)), z_pre (ls_R hS) hK⟩ rfl rfl hl.1 rfl (lv_room (Nat.le_of_ble_eq_true rfl)) dL_law_1408 ⟨(by show cells + 0 ≤ 600002; omega), (by show slots + 0 ≤ 7302232; omega)⟩) hS hS0 (fun z6 M7 H locs r8 hp9 hF10 hS hS0 => ?_)
  refine z_icmp_eq (tgt := 1671) hx hb r3 r8 dL_law_1411 (by decide) (fun _ => ?_) (fun c9 => absurd (show z1 = z6 from by omega) c9)
  exact kk H locs _ _ ls (by omega) (by omega) hS0 (lv_sub hl [0, 1, 2, 3, 4] rfl)

set_option maxHeartbeats 4000000 in
set_option maxRecDepth 100000 in
theorem lc_36 {p : Program} {e : Env} {s : State} {m : MethodId} {below : List Frame} {meth : Method} {c : Code} {l : Launch} (hst : l.stackTraces = false) {b0 L n : Nat} {xs : Nat → Int32} (hL : L ≤ 5) (C0 : lw_At p s m meth c b0 L xs) {D : va_G} {dA : Nat → ClassId} (hK : zKK D vwCl (z_tys dA) s) (hTw : zTw s) (hZ0 : zZ (yA s.heap.size) s s.heap) (hn : n + 5 ≤ L) {H : Heap} {locs : List Loc} {cells slots : Nat} {ls : Array Slot} {MO : zM} (hS : LWS D dA s.heap.size MC0 MR0 MO H) (hS0 : va_S (yA s.heap.size) s.heap H locs) (hl : lv_has ls 8 [(4, .int (iI (n : Int))), (3, .ref (s.heap.size + 168 + 0)), (2, .ref (s.heap.size + 134 + 0)), (1, .ref (s.heap.size + 0)), (0, .ref b0)]) (hcc : cells + 1 ≤ 600002) (hss : slots + 6 ≤ 7302232)
    (kk : ∀ (H1 : Heap) (locs1 : List Loc) (c1 s1 : Nat) (ls1 : Array Slot), c1 ≤ cells + 1 → s1 ≤ slots + 6 → va_S (yA s.heap.size) s.heap H1 locs1 → lv_has ls1 8 [(4, .int (iI (n : Int))), (3, .ref (s.heap.size + 168 + 0)), (2, .ref (s.heap.size + 134 + 0)), (1, .ref (s.heap.size + 0)), (0, .ref b0)] → W p l e room_1 s m #[Value.ref b0] below meth c H1 locs1 c1 s1 (lw_Z below #[Value.ref b0] s) (F0 m 1671 ls1 [])) :
    W p l e room_1 s m #[Value.ref b0] below meth c H locs cells slots (lw_Z below #[Value.ref b0] s) (F0 m 1416 ls []) := by
  obtain ⟨hx, hb, hr, hml, hown, htsL, hX, hbl, hlocks, hgv⟩ := id C0
  have hts := l_hts htsL
  have hbA : ¬ yA s.heap.size b0 := Nat.not_le.mpr hbl
  have hLb : L < 2147483648 := by omega
  obtain ⟨v1, rv1, ev1⟩ := iI_of (xs (n + 1))
  obtain ⟨v2, rv2, ev2⟩ := iI_of (xs (n + 2))
  refine lv_aload_n hx hb dL_law_1416 rfl (lv_at hl 3 rfl) ?_
  refine lv_aload_n hx hb dL_law_1417 rfl (lv_at hl 4 rfl) ?_
  refine lv_iload hx hb dL_law_1418 (lv_at hl 0 rfl) ?_
  refine z_iconst hx hb dL_law_1420 ?_
  refine z_iadd hx hb dL_law_1421 ?_
  refine l_sld hx hb hX hbl hbA hS0 (k := n + 1) (v := v1) (by omega) (by omega) hLb ev1 dL_law_1422 ?_
  refine lv_aload_n hx hb dL_law_1423 rfl (lv_at hl 4 rfl) ?_
  refine lv_iload hx hb dL_law_1424 (lv_at hl 0 rfl) ?_
  refine z_iconst hx hb dL_law_1426 ?_
  refine z_iadd hx hb dL_law_1427 ?_
  refine l_sld hx hb hX hbl hbA hS0 (k := n + 2) (v := v2) (by omega) (by omega) hLb ev2 dL_law_1428 ?_
  refine l_Ci (va_runV (As := [.int (iI v1), .int (iI v2)]) (rest := []) ⟨hx, hb, hml, hown, hts⟩ (x_piece l D dA s.heap.size MC0 v1 v2 rv1 rv2 gC_86_0) (cwV 2 hts (z_gV k794 k795 k796 k1 k797) rfl rfl rfl dm_X11_piece ⟨(Nat.le_of_ble_eq_true rfl), (Nat.le_of_ble_eq_true rfl)⟩) ⟨zP_blind, z_recv (ls_C hS) hK.1 (by decide) (zkd_of (rfl : zcd wC 0 = 0) rfl) (by decide) (rfl : vwCl[11]? = some (RX11, TX11, 11)), z_pre (ls_C hS) hK⟩ rfl rfl hl.1 rfl (lv_room (Nat.le_of_ble_eq_true rfl)) dL_law_1429 ⟨(by show cells + 0 ≤ 600002; omega), (by show slots + 0 ≤ 7302232; omega)⟩) hS hS0 (fun z1 M2 H locs r3 hp4 hF5 hS hS0 => ?_)
  refine lv_aload_n hx hb dL_law_1432 rfl (lv_at hl 2 rfl) ?_
  refine lv_aload_n hx hb dL_law_1433 rfl (lv_at hl 4 rfl) ?_
  refine lv_iload hx hb dL_law_1434 (lv_at hl 0 rfl) ?_
  refine z_iconst hx hb dL_law_1436 ?_
  refine z_iadd hx hb dL_law_1437 ?_
  refine l_sld hx hb hX hbl hbA hS0 (k := n + 1) (v := v1) (by omega) (by omega) hLb ev1 dL_law_1438 ?_
  refine lv_aload_n hx hb dL_law_1439 rfl (lv_at hl 4 rfl) ?_
  refine lv_iload hx hb dL_law_1440 (lv_at hl 0 rfl) ?_
  refine z_iconst hx hb dL_law_1442 ?_
  refine z_iadd hx hb dL_law_1443 ?_
  refine l_sld hx hb hX hbl hbA hS0 (k := n + 2) (v := v2) (by omega) (by omega) hLb ev2 dL_law_1444 ?_
  refine l_Ri (va_runV (As := [.int (iI v1), .int (iI v2)]) (rest := [.int (iI z1)]) ⟨hx, hb, hml, hown, hts⟩ (m_piece l D dA (s.heap.size + 134) MR0 v1 v2 rv1 rv2 gR_0_27) (cwV 2 hts (z_gV k1308 k1309 k1310 k14 k1311) rfl rfl rfl dm_X12_piece ⟨(Nat.le_of_ble_eq_true rfl), (Nat.le_of_ble_eq_true rfl)⟩) ⟨zP_blind, z_recv (ls_R hS) hK.1 (by decide) (zkd_of (rfl : zcd wR 0 = 50) rfl) (by decide) (rfl : vwCl[12]? = some (RX12, TX12, 50)), z_pre (ls_R hS) hK⟩ rfl rfl hl.1 rfl (lv_room (Nat.le_of_ble_eq_true rfl)) dL_law_1445 ⟨(by show cells + 0 ≤ 600002; omega), (by show slots + 0 ≤ 7302232; omega)⟩) hS hS0 (fun z6 M7 H locs r8 hp9 hF10 hS hS0 => ?_)
  refine z_icmp_eq (tgt := 1671) hx hb r3 r8 dL_law_1448 (by decide) (fun _ => ?_) (fun c9 => absurd (show z1 = z6 from by rcases hp4 with ⟨h1, (⟨h2, h3⟩ | ⟨h2, h3, h4, h5, h6⟩)⟩ | ⟨h1, h2⟩ <;> rcases hp9 with ⟨i1, (⟨i2, i3⟩ | ⟨i2, i3, i4, i5, i6⟩)⟩ | ⟨i1, i2⟩ <;> first | (rw [h2, i2]; done) | exact absurd h1 i1 | exact absurd i1 h1 | (have j1 := h3 i3 i4 i5; omega) | (have j1 := i3 h3 h4 h5; omega)) c9)
  exact kk H locs _ _ ls (by omega) (by omega) hS0 (lv_sub hl [0, 1, 2, 3, 4] rfl)

set_option maxHeartbeats 4000000 in
set_option maxRecDepth 100000 in
theorem lc_37 {p : Program} {e : Env} {s : State} {m : MethodId} {below : List Frame} {meth : Method} {c : Code} {l : Launch} (hst : l.stackTraces = false) {b0 L n : Nat} {xs : Nat → Int32} (hL : L ≤ 5) (C0 : lw_At p s m meth c b0 L xs) {D : va_G} {dA : Nat → ClassId} (hK : zKK D vwCl (z_tys dA) s) (hTw : zTw s) (hZ0 : zZ (yA s.heap.size) s s.heap) (hn : n + 5 ≤ L) {H : Heap} {locs : List Loc} {cells slots : Nat} {ls : Array Slot} {MO : zM} (hS : LWS D dA s.heap.size MC0 MR0 MO H) (hS0 : va_S (yA s.heap.size) s.heap H locs) (hl : lv_has ls 8 [(4, .int (iI (n : Int))), (3, .ref (s.heap.size + 168 + 0)), (2, .ref (s.heap.size + 134 + 0)), (1, .ref (s.heap.size + 0)), (0, .ref b0)]) (hcc : cells + 1 ≤ 600002) (hss : slots + 6 ≤ 7302232)
    (kk : ∀ (H1 : Heap) (locs1 : List Loc) (c1 s1 : Nat) (ls1 : Array Slot), c1 ≤ cells + 1 → s1 ≤ slots + 6 → va_S (yA s.heap.size) s.heap H1 locs1 → lv_has ls1 8 [(4, .int (iI (n : Int))), (3, .ref (s.heap.size + 168 + 0)), (2, .ref (s.heap.size + 134 + 0)), (1, .ref (s.heap.size + 0)), (0, .ref b0)] → W p l e room_1 s m #[Value.ref b0] below meth c H1 locs1 c1 s1 (lw_Z below #[Value.ref b0] s) (F0 m 1671 ls1 [])) :
    W p l e room_1 s m #[Value.ref b0] below meth c H locs cells slots (lw_Z below #[Value.ref b0] s) (F0 m 1453 ls []) := by
  obtain ⟨hx, hb, hr, hml, hown, htsL, hX, hbl, hlocks, hgv⟩ := id C0
  have hts := l_hts htsL
  have hbA : ¬ yA s.heap.size b0 := Nat.not_le.mpr hbl
  have hLb : L < 2147483648 := by omega
  refine lv_aload_n hx hb dL_law_1453 rfl (lv_at hl 3 rfl) ?_
  refine l_Ci (va_runV (As := []) (rest := []) ⟨hx, hb, hml, hown, hts⟩ (x_burn l D dA s.heap.size MC0 gC_86_0) (cwV 0 hts (z_gV k805 k806 k807 k1 k808) rfl rfl rfl dm_X11_burn ⟨(Nat.le_of_ble_eq_true rfl), (Nat.le_of_ble_eq_true rfl)⟩) ⟨zP_blind, z_recv (ls_C hS) hK.1 (by decide) (zkd_of (rfl : zcd wC 0 = 0) rfl) (by decide) (rfl : vwCl[11]? = some (RX11, TX11, 11)), z_pre (ls_C hS) hK⟩ rfl rfl hl.1 rfl (lv_room (Nat.le_of_ble_eq_true rfl)) dL_law_1454 ⟨(by show cells + 0 ≤ 600002; omega), (by show slots + 0 ≤ 7302232; omega)⟩) hS hS0 (fun z1 M2 H locs r3 hp4 hF5 hS hS0 => ?_)
  refine lv_aload_n hx hb dL_law_1457 rfl (lv_at hl 2 rfl) ?_
  refine l_Ri (va_runV (As := []) (rest := [.int (iI z1)]) ⟨hx, hb, hml, hown, hts⟩ (m_burn l D dA (s.heap.size + 134) MR0 gR_0_27) (cwV 0 hts (z_gV k1312 k1313 k1314 k14 k1315) rfl rfl rfl dm_X12_burn ⟨(Nat.le_of_ble_eq_true rfl), (Nat.le_of_ble_eq_true rfl)⟩) ⟨zP_blind, z_recv (ls_R hS) hK.1 (by decide) (zkd_of (rfl : zcd wR 0 = 50) rfl) (by decide) (rfl : vwCl[12]? = some (RX12, TX12, 50)), z_pre (ls_R hS) hK⟩ rfl rfl hl.1 rfl (lv_room (Nat.le_of_ble_eq_true rfl)) dL_law_1458 ⟨(by show cells + 0 ≤ 600002; omega), (by show slots + 0 ≤ 7302232; omega)⟩) hS hS0 (fun z6 M7 H locs r8 hp9 hF10 hS hS0 => ?_)
  refine z_icmp_eq (tgt := 1671) hx hb r3 r8 dL_law_1461 (by decide) (fun _ => ?_) (fun c9 => absurd (show z1 = z6 from by omega) c9)
  exact kk H locs _ _ ls (by omega) (by omega) hS0 (lv_sub hl [0, 1, 2, 3, 4] rfl)

set_option maxHeartbeats 4000000 in
set_option maxRecDepth 100000 in
theorem lc_38 {p : Program} {e : Env} {s : State} {m : MethodId} {below : List Frame} {meth : Method} {c : Code} {l : Launch} (hst : l.stackTraces = false) {b0 L n : Nat} {xs : Nat → Int32} (hL : L ≤ 5) (C0 : lw_At p s m meth c b0 L xs) {D : va_G} {dA : Nat → ClassId} (hK : zKK D vwCl (z_tys dA) s) (hTw : zTw s) (hZ0 : zZ (yA s.heap.size) s s.heap) (hn : n + 5 ≤ L) {H : Heap} {locs : List Loc} {cells slots : Nat} {ls : Array Slot} {MO : zM} (hS : LWS D dA s.heap.size MC0 MR0 MO H) (hS0 : va_S (yA s.heap.size) s.heap H locs) (hl : lv_has ls 8 [(4, .int (iI (n : Int))), (3, .ref (s.heap.size + 168 + 0)), (2, .ref (s.heap.size + 134 + 0)), (1, .ref (s.heap.size + 0)), (0, .ref b0)]) (hcc : cells + 1 ≤ 600002) (hss : slots + 6 ≤ 7302232)
    (kk : ∀ (H1 : Heap) (locs1 : List Loc) (c1 s1 : Nat) (ls1 : Array Slot), c1 ≤ cells + 1 → s1 ≤ slots + 6 → va_S (yA s.heap.size) s.heap H1 locs1 → lv_has ls1 8 [(4, .int (iI (n : Int))), (3, .ref (s.heap.size + 168 + 0)), (2, .ref (s.heap.size + 134 + 0)), (1, .ref (s.heap.size + 0)), (0, .ref b0)] → W p l e room_1 s m #[Value.ref b0] below meth c H1 locs1 c1 s1 (lw_Z below #[Value.ref b0] s) (F0 m 1671 ls1 [])) :
    W p l e room_1 s m #[Value.ref b0] below meth c H locs cells slots (lw_Z below #[Value.ref b0] s) (F0 m 1466 ls []) := by
  obtain ⟨hx, hb, hr, hml, hown, htsL, hX, hbl, hlocks, hgv⟩ := id C0
  have hts := l_hts htsL
  have hbA : ¬ yA s.heap.size b0 := Nat.not_le.mpr hbl
  have hLb : L < 2147483648 := by omega
  refine lv_aload_n hx hb dL_law_1466 rfl (lv_at hl 3 rfl) ?_
  refine l_Ci (va_runV (As := []) (rest := []) ⟨hx, hb, hml, hown, hts⟩ (x_join l D dA s.heap.size MC0 gC_86_0) (cwV 0 hts (z_gV k809 k810 k811 k1 k812) rfl rfl rfl dm_X11_join ⟨(Nat.le_of_ble_eq_true rfl), (Nat.le_of_ble_eq_true rfl)⟩) ⟨zP_blind, z_recv (ls_C hS) hK.1 (by decide) (zkd_of (rfl : zcd wC 0 = 0) rfl) (by decide) (rfl : vwCl[11]? = some (RX11, TX11, 11)), z_pre (ls_C hS) hK⟩ rfl rfl hl.1 rfl (lv_room (Nat.le_of_ble_eq_true rfl)) dL_law_1467 ⟨(by show cells + 0 ≤ 600002; omega), (by show slots + 0 ≤ 7302232; omega)⟩) hS hS0 (fun z1 M2 H locs r3 hp4 hF5 hS hS0 => ?_)
  refine lv_aload_n hx hb dL_law_1470 rfl (lv_at hl 2 rfl) ?_
  refine l_Ri (va_runV (As := []) (rest := [.int (iI z1)]) ⟨hx, hb, hml, hown, hts⟩ (m_join l D dA (s.heap.size + 134) MR0 gR_0_27) (cwV 0 hts (z_gV k1316 k1317 k1318 k14 k1319) rfl rfl rfl dm_X12_join ⟨(Nat.le_of_ble_eq_true rfl), (Nat.le_of_ble_eq_true rfl)⟩) ⟨zP_blind, z_recv (ls_R hS) hK.1 (by decide) (zkd_of (rfl : zcd wR 0 = 50) rfl) (by decide) (rfl : vwCl[12]? = some (RX12, TX12, 50)), z_pre (ls_R hS) hK⟩ rfl rfl hl.1 rfl (lv_room (Nat.le_of_ble_eq_true rfl)) dL_law_1471 ⟨(by show cells + 0 ≤ 600002; omega), (by show slots + 0 ≤ 7302232; omega)⟩) hS hS0 (fun z6 M7 H locs r8 hp9 hF10 hS hS0 => ?_)
  refine z_icmp_eq (tgt := 1671) hx hb r3 r8 dL_law_1474 (by decide) (fun _ => ?_) (fun c9 => absurd (show z1 = z6 from by omega) c9)
  exact kk H locs _ _ ls (by omega) (by omega) hS0 (lv_sub hl [0, 1, 2, 3, 4] rfl)

set_option maxHeartbeats 4000000 in
set_option maxRecDepth 100000 in
theorem lc_39 {p : Program} {e : Env} {s : State} {m : MethodId} {below : List Frame} {meth : Method} {c : Code} {l : Launch} (hst : l.stackTraces = false) {b0 L n : Nat} {xs : Nat → Int32} (hL : L ≤ 5) (C0 : lw_At p s m meth c b0 L xs) {D : va_G} {dA : Nat → ClassId} (hK : zKK D vwCl (z_tys dA) s) (hTw : zTw s) (hZ0 : zZ (yA s.heap.size) s s.heap) (hn : n + 5 ≤ L) {H : Heap} {locs : List Loc} {cells slots : Nat} {ls : Array Slot} {MO : zM} (hS : LWS D dA s.heap.size MC0 MR0 MO H) (hS0 : va_S (yA s.heap.size) s.heap H locs) (hl : lv_has ls 8 [(4, .int (iI (n : Int))), (3, .ref (s.heap.size + 168 + 0)), (2, .ref (s.heap.size + 134 + 0)), (1, .ref (s.heap.size + 0)), (0, .ref b0)]) (hcc : cells + 1 ≤ 600002) (hss : slots + 6 ≤ 7302232)
    (kk : ∀ (H1 : Heap) (locs1 : List Loc) (c1 s1 : Nat) (ls1 : Array Slot), c1 ≤ cells + 1 → s1 ≤ slots + 6 → va_S (yA s.heap.size) s.heap H1 locs1 → lv_has ls1 8 [(4, .int (iI (n : Int))), (3, .ref (s.heap.size + 168 + 0)), (2, .ref (s.heap.size + 134 + 0)), (1, .ref (s.heap.size + 0)), (0, .ref b0)] → W p l e room_1 s m #[Value.ref b0] below meth c H1 locs1 c1 s1 (lw_Z below #[Value.ref b0] s) (F0 m 1671 ls1 [])) :
    W p l e room_1 s m #[Value.ref b0] below meth c H locs cells slots (lw_Z below #[Value.ref b0] s) (F0 m 1479 ls []) := by
  obtain ⟨hx, hb, hr, hml, hown, htsL, hX, hbl, hlocks, hgv⟩ := id C0
  have hts := l_hts htsL
  have hbA : ¬ yA s.heap.size b0 := Nat.not_le.mpr hbl
  have hLb : L < 2147483648 := by omega
  obtain ⟨v1, rv1, ev1⟩ := iI_of (xs (n + 1))
  obtain ⟨v2, rv2, ev2⟩ := iI_of (xs (n + 2))
  refine lv_aload_n hx hb dL_law_1479 rfl (lv_at hl 3 rfl) ?_
  refine lv_aload_n hx hb dL_law_1480 rfl (lv_at hl 4 rfl) ?_
  refine lv_iload hx hb dL_law_1481 (lv_at hl 0 rfl) ?_
  refine z_iconst hx hb dL_law_1483 ?_
  refine z_iadd hx hb dL_law_1484 ?_
  refine l_sld hx hb hX hbl hbA hS0 (k := n + 1) (v := v1) (by omega) (by omega) hLb ev1 dL_law_1485 ?_
  refine lv_aload_n hx hb dL_law_1486 rfl (lv_at hl 4 rfl) ?_
  refine lv_iload hx hb dL_law_1487 (lv_at hl 0 rfl) ?_
  refine z_iconst hx hb dL_law_1489 ?_
  refine z_iadd hx hb dL_law_1490 ?_
  refine l_sld hx hb hX hbl hbA hS0 (k := n + 2) (v := v2) (by omega) (by omega) hLb ev2 dL_law_1491 ?_
  refine l_Ci (va_runV (As := [.int (iI v1), .int (iI v2)]) (rest := []) ⟨hx, hb, hml, hown, hts⟩ (x_keep l D dA s.heap.size MC0 v1 v2 rv1 rv2 gC_32_2) (cwV 2 hts (z_gV k837 k838 k839 k1 k840) rfl rfl rfl dm_X11_keep ⟨(Nat.le_of_ble_eq_true rfl), (Nat.le_of_ble_eq_true rfl)⟩) ⟨zP_blind, z_recv (ls_C hS) hK.1 (by decide) (zkd_of (rfl : zcd wC 0 = 0) rfl) (by decide) (rfl : vwCl[11]? = some (RX11, TX11, 11)), z_pre (ls_C hS) hK⟩ rfl rfl hl.1 rfl (lv_room (Nat.le_of_ble_eq_true rfl)) dL_law_1492 ⟨(by show cells + 0 ≤ 600002; omega), (by show slots + 0 ≤ 7302232; omega)⟩) hS hS0 (fun z1 M2 H locs r3 hp4 hF5 hS hS0 => ?_)
  refine lv_aload_n hx hb dL_law_1495 rfl (lv_at hl 2 rfl) ?_
  refine lv_aload_n hx hb dL_law_1496 rfl (lv_at hl 4 rfl) ?_
  refine lv_iload hx hb dL_law_1497 (lv_at hl 0 rfl) ?_
  refine z_iconst hx hb dL_law_1499 ?_
  refine z_iadd hx hb dL_law_1500 ?_
  refine l_sld hx hb hX hbl hbA hS0 (k := n + 1) (v := v1) (by omega) (by omega) hLb ev1 dL_law_1501 ?_
  refine lv_aload_n hx hb dL_law_1502 rfl (lv_at hl 4 rfl) ?_
  refine lv_iload hx hb dL_law_1503 (lv_at hl 0 rfl) ?_
  refine z_iconst hx hb dL_law_1505 ?_
  refine z_iadd hx hb dL_law_1506 ?_
  refine l_sld hx hb hX hbl hbA hS0 (k := n + 2) (v := v2) (by omega) (by omega) hLb ev2 dL_law_1507 ?_
  refine l_Ri (va_runV (As := [.int (iI v1), .int (iI v2)]) (rest := [.int (iI z1)]) ⟨hx, hb, hml, hown, hts⟩ (m_keep l D dA (s.heap.size + 134) MR0 v1 v2 rv1 rv2 gR_0_10) (cwV 2 hts (z_gV k1329 k1330 k1331 k14 k1332) rfl rfl rfl dm_X12_keep ⟨(Nat.le_of_ble_eq_true rfl), (Nat.le_of_ble_eq_true rfl)⟩) ⟨zP_blind, z_recv (ls_R hS) hK.1 (by decide) (zkd_of (rfl : zcd wR 0 = 50) rfl) (by decide) (rfl : vwCl[12]? = some (RX12, TX12, 50)), z_pre (ls_R hS) hK⟩ rfl rfl hl.1 rfl (lv_room (Nat.le_of_ble_eq_true rfl)) dL_law_1508 ⟨(by show cells + 0 ≤ 600002; omega), (by show slots + 0 ≤ 7302232; omega)⟩) hS hS0 (fun z6 M7 H locs r8 hp9 hF10 hS hS0 => ?_)
  refine z_icmp_eq (tgt := 1671) hx hb r3 r8 dL_law_1511 (by decide) (fun _ => ?_) (fun c9 => absurd (show z1 = z6 from by omega) c9)
  exact kk H locs _ _ ls (by omega) (by omega) hS0 (lv_sub hl [0, 1, 2, 3, 4] rfl)

set_option maxHeartbeats 4000000 in
set_option maxRecDepth 100000 in
theorem lc_40 {p : Program} {e : Env} {s : State} {m : MethodId} {below : List Frame} {meth : Method} {c : Code} {l : Launch} (hst : l.stackTraces = false) {b0 L n : Nat} {xs : Nat → Int32} (hL : L ≤ 5) (C0 : lw_At p s m meth c b0 L xs) {D : va_G} {dA : Nat → ClassId} (hK : zKK D vwCl (z_tys dA) s) (hTw : zTw s) (hZ0 : zZ (yA s.heap.size) s s.heap) (hn : n + 5 ≤ L) {H : Heap} {locs : List Loc} {cells slots : Nat} {ls : Array Slot} {MO : zM} (hS : LWS D dA s.heap.size MC0 MR0 MO H) (hS0 : va_S (yA s.heap.size) s.heap H locs) (hl : lv_has ls 8 [(4, .int (iI (n : Int))), (3, .ref (s.heap.size + 168 + 0)), (2, .ref (s.heap.size + 134 + 0)), (1, .ref (s.heap.size + 0)), (0, .ref b0)]) (hcc : cells + 1 ≤ 600002) (hss : slots + 6 ≤ 7302232)
    (kk : ∀ (H1 : Heap) (locs1 : List Loc) (c1 s1 : Nat) (ls1 : Array Slot), c1 ≤ cells + 1 → s1 ≤ slots + 6 → va_S (yA s.heap.size) s.heap H1 locs1 → lv_has ls1 8 [(4, .int (iI (n : Int))), (3, .ref (s.heap.size + 168 + 0)), (2, .ref (s.heap.size + 134 + 0)), (1, .ref (s.heap.size + 0)), (0, .ref b0)] → W p l e room_1 s m #[Value.ref b0] below meth c H1 locs1 c1 s1 (lw_Z below #[Value.ref b0] s) (F0 m 1671 ls1 [])) :
    W p l e room_1 s m #[Value.ref b0] below meth c H locs cells slots (lw_Z below #[Value.ref b0] s) (F0 m 1516 ls []) := by
  obtain ⟨hx, hb, hr, hml, hown, htsL, hX, hbl, hlocks, hgv⟩ := id C0
  have hts := l_hts htsL
  have hbA : ¬ yA s.heap.size b0 := Nat.not_le.mpr hbl
  have hLb : L < 2147483648 := by omega
  obtain ⟨v1, rv1, ev1⟩ := iI_of (xs (n + 1))
  obtain ⟨v2, rv2, ev2⟩ := iI_of (xs (n + 2))
  refine lv_aload_n hx hb dL_law_1516 rfl (lv_at hl 3 rfl) ?_
  refine lv_aload_n hx hb dL_law_1517 rfl (lv_at hl 4 rfl) ?_
  refine lv_iload hx hb dL_law_1518 (lv_at hl 0 rfl) ?_
  refine z_iconst hx hb dL_law_1520 ?_
  refine z_iadd hx hb dL_law_1521 ?_
  refine l_sld hx hb hX hbl hbA hS0 (k := n + 1) (v := v1) (by omega) (by omega) hLb ev1 dL_law_1522 ?_
  refine lv_aload_n hx hb dL_law_1523 rfl (lv_at hl 4 rfl) ?_
  refine lv_iload hx hb dL_law_1524 (lv_at hl 0 rfl) ?_
  refine z_iconst hx hb dL_law_1526 ?_
  refine z_iadd hx hb dL_law_1527 ?_
  refine l_sld hx hb hX hbl hbA hS0 (k := n + 2) (v := v2) (by omega) (by omega) hLb ev2 dL_law_1528 ?_
  refine l_Ci (va_runV (As := [.int (iI v1), .int (iI v2)]) (rest := []) ⟨hx, hb, hml, hown, hts⟩ (x_known l D dA s.heap.size MC0 v1 v2 rv1 rv2 gC_96_0) (cwV 2 hts (z_gV k846 k847 k848 k1 k849) rfl rfl rfl dm_X11_known ⟨(Nat.le_of_ble_eq_true rfl), (Nat.le_of_ble_eq_true rfl)⟩) ⟨zP_blind, z_recv (ls_C hS) hK.1 (by decide) (zkd_of (rfl : zcd wC 0 = 0) rfl) (by decide) (rfl : vwCl[11]? = some (RX11, TX11, 11)), z_pre (ls_C hS) hK⟩ rfl rfl hl.1 rfl (lv_room (Nat.le_of_ble_eq_true rfl)) dL_law_1529 ⟨(by show cells + 0 ≤ 600002; omega), (by show slots + 0 ≤ 7302232; omega)⟩) hS hS0 (fun z1 M2 H locs r3 hp4 hF5 hS hS0 => ?_)
  refine lv_aload_n hx hb dL_law_1532 rfl (lv_at hl 2 rfl) ?_
  refine lv_aload_n hx hb dL_law_1533 rfl (lv_at hl 4 rfl) ?_
  refine lv_iload hx hb dL_law_1534 (lv_at hl 0 rfl) ?_
  refine z_iconst hx hb dL_law_1536 ?_
  refine z_iadd hx hb dL_law_1537 ?_
  refine l_sld hx hb hX hbl hbA hS0 (k := n + 1) (v := v1) (by omega) (by omega) hLb ev1 dL_law_1538 ?_
  refine lv_aload_n hx hb dL_law_1539 rfl (lv_at hl 4 rfl) ?_
  refine lv_iload hx hb dL_law_1540 (lv_at hl 0 rfl) ?_
  refine z_iconst hx hb dL_law_1542 ?_
  refine z_iadd hx hb dL_law_1543 ?_
  refine l_sld hx hb hX hbl hbA hS0 (k := n + 2) (v := v2) (by omega) (by omega) hLb ev2 dL_law_1544 ?_
  refine l_Ri (va_runV (As := [.int (iI v1), .int (iI v2)]) (rest := [.int (iI z1)]) ⟨hx, hb, hml, hown, hts⟩ (m_known l D dA (s.heap.size + 134) MR0 v1 v2 rv1 rv2 gR_0_32) (cwV 2 hts (z_gV k1333 k1334 k1335 k14 k1336) rfl rfl rfl dm_X12_known ⟨(Nat.le_of_ble_eq_true rfl), (Nat.le_of_ble_eq_true rfl)⟩) ⟨zP_blind, z_recv (ls_R hS) hK.1 (by decide) (zkd_of (rfl : zcd wR 0 = 50) rfl) (by decide) (rfl : vwCl[12]? = some (RX12, TX12, 50)), z_pre (ls_R hS) hK⟩ rfl rfl hl.1 rfl (lv_room (Nat.le_of_ble_eq_true rfl)) dL_law_1545 ⟨(by show cells + 0 ≤ 600002; omega), (by show slots + 0 ≤ 7302232; omega)⟩) hS hS0 (fun z6 M7 H locs r8 hp9 hF10 hS hS0 => ?_)
  refine z_icmp_eq (tgt := 1671) hx hb r3 r8 dL_law_1548 (by decide) (fun _ => ?_) (fun c9 => absurd (show z1 = z6 from by omega) c9)
  exact kk H locs _ _ ls (by omega) (by omega) hS0 (lv_sub hl [0, 1, 2, 3, 4] rfl)

set_option maxHeartbeats 4000000 in
set_option maxRecDepth 100000 in
theorem lc_41 {p : Program} {e : Env} {s : State} {m : MethodId} {below : List Frame} {meth : Method} {c : Code} {l : Launch} (hst : l.stackTraces = false) {b0 L n : Nat} {xs : Nat → Int32} (hL : L ≤ 5) (C0 : lw_At p s m meth c b0 L xs) {D : va_G} {dA : Nat → ClassId} (hK : zKK D vwCl (z_tys dA) s) (hTw : zTw s) (hZ0 : zZ (yA s.heap.size) s s.heap) (hn : n + 5 ≤ L) {H : Heap} {locs : List Loc} {cells slots : Nat} {ls : Array Slot} {MO : zM} (hS : LWS D dA s.heap.size MC0 MR0 MO H) (hS0 : va_S (yA s.heap.size) s.heap H locs) (hl : lv_has ls 8 [(4, .int (iI (n : Int))), (3, .ref (s.heap.size + 168 + 0)), (2, .ref (s.heap.size + 134 + 0)), (1, .ref (s.heap.size + 0)), (0, .ref b0)]) (hcc : cells + 1 ≤ 600002) (hss : slots + 6 ≤ 7302232)
    (kk : ∀ (H1 : Heap) (locs1 : List Loc) (c1 s1 : Nat) (ls1 : Array Slot), c1 ≤ cells + 1 → s1 ≤ slots + 6 → va_S (yA s.heap.size) s.heap H1 locs1 → lv_has ls1 8 [(4, .int (iI (n : Int))), (3, .ref (s.heap.size + 168 + 0)), (2, .ref (s.heap.size + 134 + 0)), (1, .ref (s.heap.size + 0)), (0, .ref b0)] → W p l e room_1 s m #[Value.ref b0] below meth c H1 locs1 c1 s1 (lw_Z below #[Value.ref b0] s) (F0 m 1671 ls1 [])) :
    W p l e room_1 s m #[Value.ref b0] below meth c H locs cells slots (lw_Z below #[Value.ref b0] s) (F0 m 1553 ls []) := by
  obtain ⟨hx, hb, hr, hml, hown, htsL, hX, hbl, hlocks, hgv⟩ := id C0
  have hts := l_hts htsL
  have hbA : ¬ yA s.heap.size b0 := Nat.not_le.mpr hbl
  have hLb : L < 2147483648 := by omega
  obtain ⟨v1, rv1, ev1⟩ := iI_of (xs (n + 1))
  refine lv_aload_n hx hb dL_law_1553 rfl (lv_at hl 3 rfl) ?_
  refine lv_aload_n hx hb dL_law_1554 rfl (lv_at hl 4 rfl) ?_
  refine lv_iload hx hb dL_law_1555 (lv_at hl 0 rfl) ?_
  refine z_iconst hx hb dL_law_1557 ?_
  refine z_iadd hx hb dL_law_1558 ?_
  refine l_sld hx hb hX hbl hbA hS0 (k := n + 1) (v := v1) (by omega) (by omega) hLb ev1 dL_law_1559 ?_
  refine l_Ci (va_runV (As := [.int (iI v1)]) (rest := []) ⟨hx, hb, hml, hown, hts⟩ (x_fetch l D dA s.heap.size MC0 v1 rv1 gC_96_0) (cwV 1 hts (z_gV k854 k855 k856 k1 k857) rfl rfl rfl dm_X11_fetch ⟨(Nat.le_of_ble_eq_true rfl), (Nat.le_of_ble_eq_true rfl)⟩) ⟨zP_blind, z_recv (ls_C hS) hK.1 (by decide) (zkd_of (rfl : zcd wC 0 = 0) rfl) (by decide) (rfl : vwCl[11]? = some (RX11, TX11, 11)), z_pre (ls_C hS) hK⟩ rfl rfl hl.1 rfl (lv_room (Nat.le_of_ble_eq_true rfl)) dL_law_1560 ⟨(by show cells + 0 ≤ 600002; omega), (by show slots + 0 ≤ 7302232; omega)⟩) hS hS0 (fun z1 M2 H locs r3 hp4 hF5 hS hS0 => ?_)
  refine lv_aload_n hx hb dL_law_1563 rfl (lv_at hl 2 rfl) ?_
  refine lv_aload_n hx hb dL_law_1564 rfl (lv_at hl 4 rfl) ?_
  refine lv_iload hx hb dL_law_1565 (lv_at hl 0 rfl) ?_
  refine z_iconst hx hb dL_law_1567 ?_
  refine z_iadd hx hb dL_law_1568 ?_
  refine l_sld hx hb hX hbl hbA hS0 (k := n + 1) (v := v1) (by omega) (by omega) hLb ev1 dL_law_1569 ?_
  refine l_Ri (va_runV (As := [.int (iI v1)]) (rest := [.int (iI z1)]) ⟨hx, hb, hml, hown, hts⟩ (m_fetch l D dA (s.heap.size + 134) MR0 v1 rv1 gR_0_32) (cwV 1 hts (z_gV k1337 k1338 k1339 k14 k1340) rfl rfl rfl dm_X12_fetch ⟨(Nat.le_of_ble_eq_true rfl), (Nat.le_of_ble_eq_true rfl)⟩) ⟨zP_blind, z_recv (ls_R hS) hK.1 (by decide) (zkd_of (rfl : zcd wR 0 = 50) rfl) (by decide) (rfl : vwCl[12]? = some (RX12, TX12, 50)), z_pre (ls_R hS) hK⟩ rfl rfl hl.1 rfl (lv_room (Nat.le_of_ble_eq_true rfl)) dL_law_1570 ⟨(by show cells + 0 ≤ 600002; omega), (by show slots + 0 ≤ 7302232; omega)⟩) hS hS0 (fun z6 M7 H locs r8 hp9 hF10 hS hS0 => ?_)
  refine z_icmp_eq (tgt := 1671) hx hb r3 r8 dL_law_1573 (by decide) (fun _ => ?_) (fun c9 => absurd (show z1 = z6 from by omega) c9)
  exact kk H locs _ _ ls (by omega) (by omega) hS0 (lv_sub hl [0, 1, 2, 3, 4] rfl)

set_option maxHeartbeats 4000000 in
set_option maxRecDepth 100000 in
theorem lc_42 {p : Program} {e : Env} {s : State} {m : MethodId} {below : List Frame} {meth : Method} {c : Code} {l : Launch} (hst : l.stackTraces = false) {b0 L n : Nat} {xs : Nat → Int32} (hL : L ≤ 5) (C0 : lw_At p s m meth c b0 L xs) {D : va_G} {dA : Nat → ClassId} (hK : zKK D vwCl (z_tys dA) s) (hTw : zTw s) (hZ0 : zZ (yA s.heap.size) s s.heap) (hn : n + 5 ≤ L) {H : Heap} {locs : List Loc} {cells slots : Nat} {ls : Array Slot} {MO : zM} (hS : LWS D dA s.heap.size MC0 MR0 MO H) (hS0 : va_S (yA s.heap.size) s.heap H locs) (hl : lv_has ls 8 [(4, .int (iI (n : Int))), (3, .ref (s.heap.size + 168 + 0)), (2, .ref (s.heap.size + 134 + 0)), (1, .ref (s.heap.size + 0)), (0, .ref b0)]) (hcc : cells + 1 ≤ 600002) (hss : slots + 6 ≤ 7302232)
    (kk : ∀ (H1 : Heap) (locs1 : List Loc) (c1 s1 : Nat) (ls1 : Array Slot), c1 ≤ cells + 1 → s1 ≤ slots + 6 → va_S (yA s.heap.size) s.heap H1 locs1 → lv_has ls1 8 [(4, .int (iI (n : Int))), (3, .ref (s.heap.size + 168 + 0)), (2, .ref (s.heap.size + 134 + 0)), (1, .ref (s.heap.size + 0)), (0, .ref b0)] → W p l e room_1 s m #[Value.ref b0] below meth c H1 locs1 c1 s1 (lw_Z below #[Value.ref b0] s) (F0 m 1671 ls1 [])) :
    W p l e room_1 s m #[Value.ref b0] below meth c H locs cells slots (lw_Z below #[Value.ref b0] s) (F0 m 1578 ls []) := by
  obtain ⟨hx, hb, hr, hml, hown, htsL, hX, hbl, hlocks, hgv⟩ := id C0
  have hts := l_hts htsL
  have hbA : ¬ yA s.heap.size b0 := Nat.not_le.mpr hbl
  have hLb : L < 2147483648 := by omega
  obtain ⟨v1, rv1, ev1⟩ := iI_of (xs (n + 1))
  obtain ⟨v2, rv2, ev2⟩ := iI_of (xs (n + 2))
  refine lv_aload_n hx hb dL_law_1578 rfl (lv_at hl 3 rfl) ?_
  refine lv_aload_n hx hb dL_law_1579 rfl (lv_at hl 4 rfl) ?_
  refine lv_iload hx hb dL_law_1580 (lv_at hl 0 rfl) ?_
  refine z_iconst hx hb dL_law_1582 ?_
  refine z_iadd hx hb dL_law_1583 ?_
  refine l_sld hx hb hX hbl hbA hS0 (k := n + 1) (v := v1) (by omega) (by omega) hLb ev1 dL_law_1584 ?_
  refine lv_aload_n hx hb dL_law_1585 rfl (lv_at hl 4 rfl) ?_
  refine lv_iload hx hb dL_law_1586 (lv_at hl 0 rfl) ?_
  refine z_iconst hx hb dL_law_1588 ?_
  refine z_iadd hx hb dL_law_1589 ?_
  refine l_sld hx hb hX hbl hbA hS0 (k := n + 2) (v := v2) (by omega) (by omega) hLb ev2 dL_law_1590 ?_
  refine l_Ci (va_runV (As := [.int (iI v1), .int (iI v2)]) (rest := []) ⟨hx, hb, hml, hown, hts⟩ (x_edits l D dA s.heap.size MC0 v1 v2 rv1 rv2 gC_96_0) (cwV 2 hts (z_gV k863 k864 k865 k1 k866) rfl rfl rfl dm_X11_edits ⟨(Nat.le_of_ble_eq_true rfl), (Nat.le_of_ble_eq_true rfl)⟩) ⟨zP_blind, z_recv (ls_C hS) hK.1 (by decide) (zkd_of (rfl : zcd wC 0 = 0) rfl) (by decide) (rfl : vwCl[11]? = some (RX11, TX11, 11)), z_pre (ls_C hS) hK⟩ rfl rfl hl.1 rfl (lv_room (Nat.le_of_ble_eq_true rfl)) dL_law_1591 ⟨(by show cells + 0 ≤ 600002; omega), (by show slots + 0 ≤ 7302232; omega)⟩) hS hS0 (fun z1 M2 H locs r3 hp4 hF5 hS hS0 => ?_)
  refine lv_aload_n hx hb dL_law_1594 rfl (lv_at hl 2 rfl) ?_
  refine lv_aload_n hx hb dL_law_1595 rfl (lv_at hl 4 rfl) ?_
  refine lv_iload hx hb dL_law_1596 (lv_at hl 0 rfl) ?_
  refine z_iconst hx hb dL_law_1598 ?_
  refine z_iadd hx hb dL_law_1599 ?_
  refine l_sld hx hb hX hbl hbA hS0 (k := n + 1) (v := v1) (by omega) (by omega) hLb ev1 dL_law_1600 ?_
  refine lv_aload_n hx hb dL_law_1601 rfl (lv_at hl 4 rfl) ?_
  refine lv_iload hx hb dL_law_1602 (lv_at hl 0 rfl) ?_
  refine z_iconst hx hb dL_law_1604 ?_
  refine z_iadd hx hb dL_law_1605 ?_
  refine l_sld hx hb hX hbl hbA hS0 (k := n + 2) (v := v2) (by omega) (by omega) hLb ev2 dL_law_1606 ?_
  refine l_Ri (va_runV (As := [.int (iI v1), .int (iI v2)]) (rest := [.int (iI z1)]) ⟨hx, hb, hml, hown, hts⟩ (m_edits l D dA (s.heap.size + 134) MR0 v1 v2 rv1 rv2 gR_0_32) (cwV 2 hts (z_gV k1341 k1342 k1343 k14 k1344) rfl rfl rfl dm_X12_edits ⟨(Nat.le_of_ble_eq_true rfl), (Nat.le_of_ble_eq_true rfl)⟩) ⟨zP_blind, z_recv (ls_R hS) hK.1 (by decide) (zkd_of (rfl : zcd wR 0 = 50) rfl) (by decide) (rfl : vwCl[12]? = some (RX12, TX12, 50)), z_pre (ls_R hS) hK⟩ rfl rfl hl.1 rfl (lv_room (Nat.le_of_ble_eq_true rfl)) dL_law_1607 ⟨(by show cells + 0 ≤ 600002; omega), (by show slots + 0 ≤ 7302232; omega)⟩) hS hS0 (fun z6 M7 H locs r8 hp9 hF10 hS hS0 => ?_)
  refine z_icmp_eq (tgt := 1671) hx hb r3 r8 dL_law_1610 (by decide) (fun _ => ?_) (fun c9 => absurd (show z1 = z6 from by omega) c9)
  exact kk H locs _ _ ls (by omega) (by omega) hS0 (lv_sub hl [0, 1, 2, 3, 4] rfl)

set_option maxHeartbeats 4000000 in
set_option maxRecDepth 100000 in
theorem lc_43 {p : Program} {e : Env} {s : State} {m : MethodId} {below : List Frame} {meth : Method} {c : Code} {l : Launch} (hst : l.stackTraces = false) {b0 L n : Nat} {xs : Nat → Int32} (hL : L ≤ 5) (C0 : lw_At p s m meth c b0 L xs) {D : va_G} {dA : Nat → ClassId} (hK : zKK D vwCl (z_tys dA) s) (hTw : zTw s) (hZ0 : zZ (yA s.heap.size) s s.heap) (hn : n + 5 ≤ L) {H : Heap} {locs : List Loc} {cells slots : Nat} {ls : Array Slot} {MO : zM} (hS : LWS D dA s.heap.size MC0 MR0 MO H) (hS0 : va_S (yA s.heap.size) s.heap H locs) (hl : lv_has ls 8 [(4, .int (iI (n : Int))), (3, .ref (s.heap.size + 168 + 0)), (2, .ref (s.heap.size + 134 + 0)), (1, .ref (s.heap.size + 0)), (0, .ref b0)]) (hcc : cells + 1 ≤ 600002) (hss : slots + 6 ≤ 7302232)
    (kk : ∀ (H1 : Heap) (locs1 : List Loc) (c1 s1 : Nat) (ls1 : Array Slot), c1 ≤ cells + 1 → s1 ≤ slots + 6 → va_S (yA s.heap.size) s.heap H1 locs1 → lv_has ls1 8 [(4, .int (iI (n : Int))), (3, .ref (s.heap.size + 168 + 0)), (2, .ref (s.heap.size + 134 + 0)), (1, .ref (s.heap.size + 0)), (0, .ref b0)] → W p l e room_1 s m #[Value.ref b0] below meth c H1 locs1 c1 s1 (lw_Z below #[Value.ref b0] s) (F0 m 1671 ls1 [])) :
    W p l e room_1 s m #[Value.ref b0] below meth c H locs cells slots (lw_Z below #[Value.ref b0] s) (F0 m 1615 ls []) := by
  obtain ⟨hx, hb, hr, hml, hown, htsL, hX, hbl, hlocks, hgv⟩ := id C0
  have hts := l_hts htsL
  have hbA : ¬ yA s.heap.size b0 := Nat.not_le.mpr hbl
  have hLb : L < 2147483648 := by omega
  obtain ⟨v1, rv1, ev1⟩ := iI_of (xs (n + 1))
  refine lv_aload_n hx hb dL_law_1615 rfl (lv_at hl 3 rfl) ?_
  refine lv_aload_n hx hb dL_law_1616 rfl (lv_at hl 4 rfl) ?_
  refine lv_iload hx hb dL_law_1617 (lv_at hl 0 rfl) ?_
  refine z_iconst hx hb dL_law_1619 ?_
  refine z_iadd hx hb dL_law_1620 ?_
  refine l_sld hx hb hX hbl hbA hS0 (k := n + 1) (v := v1) (by omega) (by omega) hLb ev1 dL_law_1621 ?_
  refine lv_aload_n hx hb dL_law_1622 rfl (lv_at hl 1 rfl) ?_
  refine va_calli (vx_runSW (As := [.ref (s.heap.size + 0), .int (iI v1), .ref (s.heap.size + 168 + 0)]) (rest := []) ⟨hx, hb, hml, hown, hts⟩ (lw_row (x_row l hst D dA s.heap.size MC0 v1 rv1 gC_0_10)) (vx_cwSW 3 hts (z_gS k932 k933 k0 w_row) rfl rfl rfl dm_L_row.2 ⟨(Nat.le_of_ble_eq_true rfl), (Nat.le_of_ble_eq_true rfl)⟩) ⟨zPW_blind, fun U hU hW => ⟨rfl, (z_pre (As := []) (ls_C hS) hK U hU hW).2, by rw [hU]; exact hS.2.2.1, hS.2.2.2, hTw.warm hW, by rw [hU]; exact (hZ0.kept hS0.2.1).moved hW.alike⟩⟩ rfl rfl hl.1 rfl (lv_room (Nat.le_of_ble_eq_true rfl)) dL_law_1623 ⟨(by show cells + 1 ≤ 600002; omega), (by show slots + 6 ≤ 7302232; omega)⟩) hS0 (fun q _ h => h.elim (fun z => z.1) (fun z => by show s.heap.size ≤ q; omega)) (fun q h => h.elim (fun z => z.1) (fun z => by show s.heap.size ≤ q; omega)) (fun rr u3 t9 H1 locs1 ht hvm hp1 hB2 hz hk hS1 => ?_)
  obtain ⟨hJ1, hJ2, hF9, hp1⟩ := hp1
  obtain ⟨hR1, hR2⟩ := hB2
  rw [ht] at hR1 hR2
  have hS : LWS D dA s.heap.size u3.1 MR0 u3.2 H1 := ⟨⟨hR1, hJ1⟩, ⟨zR_kept hS.2.1.1 (fun q h1 h2 h3 => hk q h1 (fun z => z.elim (fun y => by have e1 : nC = 134 := rfl; have e2 : nR = 34 := rfl; have := y.2; omega) (fun y => by have e2 : nR = 34 := rfl; omega))), hS.2.1.2⟩, hR2, hJ2⟩
  have hS0 := hS1
  generalize H1 = H at hS hS0 ⊢
  generalize locs1 = locs at hS0 ⊢
  rcases hp1 with ⟨hr9, v9, hv9, hp1, hu9⟩ | ⟨hr9, hp1, hu8, hu9⟩
  · skip
    exact hp1.elim
  · skip
    subst hr9
    refine lv_istore (lv' := [(5, .int (iI 1)), (4, .int (iI (n : Int))), (3, .ref (s.heap.size + 168 + 0)), (2, .ref (s.heap.size + 134 + 0)), (1, .ref (s.heap.size + 0)), (0, .ref b0)]) hx hb dL_law_1626 hl (by decide) rfl (fun ls hl => ?_)
    refine lv_aload_n hx hb dL_law_1628 rfl (lv_at hl 3 rfl) ?_
    refine lv_aload_n hx hb dL_law_1629 rfl (lv_at hl 5 rfl) ?_
    refine lv_iload hx hb dL_law_1630 (lv_at hl 1 rfl) ?_
    refine z_iconst hx hb dL_law_1632 ?_
    refine z_iadd hx hb dL_law_1633 ?_
    refine l_sld hx hb hX hbl hbA hS0 (k := n + 1) (v := v1) (by omega) (by omega) hLb ev1 dL_law_1634 ?_
    refine l_Ri (va_runV (As := [.int (iI v1)]) (rest := []) ⟨hx, hb, hml, hown, hts⟩ (m_row l D dA (s.heap.size + 134) MR0 v1 rv1 gR_0_34) (cwV 1 hts (z_gV k1348 k1349 k1350 k14 k1351) rfl rfl rfl dm_X12_row ⟨(Nat.le_of_ble_eq_true rfl), (Nat.le_of_ble_eq_true rfl)⟩) ⟨zP_blind, z_recv (ls_R hS) hK.1 (by decide) (zkd_of (rfl : zcd wR 0 = 50) rfl) (by decide) (rfl : vwCl[12]? = some (RX12, TX12, 50)), z_pre (ls_R hS) hK⟩ rfl rfl hl.1 rfl (lv_room (Nat.le_of_ble_eq_true rfl)) dL_law_1635 ⟨(by show (cells + 1) + 0 ≤ 600002; omega), (by show (slots + 6) + 0 ≤ 7302232; omega)⟩) hS hS0 (fun z4 M5 H locs r6 hp7 hF8 hS hS0 => ?_)
    obtain ⟨⟨hp7, -⟩, th9⟩ := hp7
    subst hp7
    refine lv_istore (lv' := [(6, .int (iI 0)), (5, .int (iI 1)), (4, .int (iI (n : Int))), (3, .ref (s.heap.size + 168 + 0)), (2, .ref (s.heap.size + 134 + 0)), (1, .ref (s.heap.size + 0)), (0, .ref b0)]) hx hb dL_law_1638 hl (by decide) rfl (fun ls hl => ?_)
    refine lv_aload_n hx hb dL_law_1640 rfl (lv_at hl 4 rfl) ?_
    refine l_Ri (va_runV (As := []) (rest := []) ⟨hx, hb, hml, hown, hts⟩ (m_thrown l D dA (s.heap.size + 134) M5 1 th9) (cwV 0 hts (z_gV k1046 k1047 k1048 k14 k1049) rfl rfl rfl dm_X12_thrown ⟨(Nat.le_of_ble_eq_true rfl), (Nat.le_of_ble_eq_true rfl)⟩) ⟨zP_blind, z_recv (ls_R hS) hK.1 (by decide) (zkd_of (rfl : zcd wR 0 = 50) rfl) (by decide) (rfl : vwCl[12]? = some (RX12, TX12, 50)), z_pre (ls_R hS) hK⟩ rfl rfl hl.1 rfl (lv_room (Nat.le_of_ble_eq_true rfl)) dL_law_1641 ⟨(by show (cells + 1) + 0 ≤ 600002; omega), (by show (slots + 6) + 0 ≤ 7302232; omega)⟩) hS hS0 (fun z9 M10 H locs r11 hp12 hF13 hS hS0 => ?_)
    obtain ⟨-, hp12, -⟩ := hp12
    subst hp12
    refine lv_iload hx hb dL_law_1644 (lv_at hl 1 rfl) ?_
    refine z_icmp_eq (tgt := 1651) hx hb (by decide) (by decide) dL_law_1646 (by decide) (fun _ => ?_) (fun c9 => absurd rfl c9)
    refine lv_iload hx hb dL_law_1651 (lv_at hl 1 rfl) ?_
    refine z_if_ne (tgt := 1668) hx hb (by decide) dL_law_1653 (by decide) (fun _ => ?_) (fun c9 => absurd c9 (by decide))
    refine lv_goto (tgt := 1671) hx hb dL_law_1668 (by decide) ?_
    exact kk H locs _ _ ls (by omega) (by omega) hS0 (lv_sub hl [2, 3, 4, 5, 6] rfl)
