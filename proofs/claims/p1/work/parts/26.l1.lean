set_option maxHeartbeats 4000000 in
set_option maxRecDepth 100000 in
theorem lc_15 {p : Program} {e : Env} {s : State} {m : MethodId} {below : List Frame} {meth : Method} {c : Code} {l : Launch} (hst : l.stackTraces = false) {b0 L n : Nat} {xs : Nat → Int32} (hL : L ≤ 5) (C0 : lw_At p s m meth c b0 L xs) {D : va_G} {dA : Nat → ClassId} (hK : zKK D vwCl (z_tys dA) s) (hTw : zTw s) (hZ0 : zZ (yA s.heap.size) s s.heap) (hn : n + 5 ≤ L) {H : Heap} {locs : List Loc} {cells slots : Nat} {ls : Array Slot} {MO : zM} (hS : LWS D dA s.heap.size MC0 MR0 MO H) (hS0 : va_S (yA s.heap.size) s.heap H locs) (hl : lv_has ls 8 [(4, .int (iI (n : Int))), (3, .ref (s.heap.size + 168 + 0)), (2, .ref (s.heap.size + 134 + 0)), (1, .ref (s.heap.size + 0)), (0, .ref b0)]) (hcc : cells + 1 ≤ 600002) (hss : slots + 6 ≤ 7302232)
    (kk : ∀ (H1 : Heap) (locs1 : List Loc) (c1 s1 : Nat) (ls1 : Array Slot), c1 ≤ cells + 1 → s1 ≤ slots + 6 → va_S (yA s.heap.size) s.heap H1 locs1 → lv_has ls1 8 [(4, .int (iI (n : Int))), (3, .ref (s.heap.size + 168 + 0)), (2, .ref (s.heap.size + 134 + 0)), (1, .ref (s.heap.size + 0)), (0, .ref b0)] → W p l e room_1 s m #[Value.ref b0] below meth c H1 locs1 c1 s1 (lw_Z below #[Value.ref b0] s) (F0 m 1671 ls1 [])) :
    W p l e room_1 s m #[Value.ref b0] below meth c H locs cells slots (lw_Z below #[Value.ref b0] s) (F0 m 844 ls []) := by
  obtain ⟨hx, hb, hr, hml, hown, htsL, hX, hbl, hlocks, hgv⟩ := id C0
  have hts := l_hts htsL
  have hbA : ¬ yA s.heap.size b0 := Nat.not_le.mpr hbl
  have hLb : L < 2147483648 := by omega
  refine lv_aload_n hx hb dL_law_844 rfl (lv_at hl 3 rfl) ?_
  refine l_Cl (va_runV (As := []) (rest := []) ⟨hx, hb, hml, hown, hts⟩ (x_all l D dA s.heap.size MC0 gC_32_2 gC_35_2 gC_38_2) (cwV 0 hts (z_gV k507 k508 k509 k1 k510) rfl rfl rfl dm_X11_all ⟨(Nat.le_of_ble_eq_true rfl), (Nat.le_of_ble_eq_true rfl)⟩) ⟨zP_blind, z_recv (ls_C hS) hK.1 (by decide) (zkd_of (rfl : zcd wC 0 = 0) rfl) (by decide) (rfl : vwCl[11]? = some (RX11, TX11, 11)), z_pre (ls_C hS) hK⟩ rfl rfl hl.1 rfl (lv_room (Nat.le_of_ble_eq_true rfl)) dL_law_845 ⟨(by show cells + 0 ≤ 600002; omega), (by show slots + 0 ≤ 7302232; omega)⟩) hS hS0 (fun z1 M2 H locs r3 hp4 hF5 hS hS0 => ?_)
  refine lv_aload_n hx hb dL_law_848 rfl (lv_at hl 2 rfl) ?_
  refine l_Rl (va_runV (As := []) (rest := [.long (iL z1)]) ⟨hx, hb, hml, hown, hts⟩ (m_all l D dA (s.heap.size + 134) MR0 gR_0_10) (cwV 0 hts (z_gV k1173 k1174 k1175 k14 k1176) rfl rfl rfl dm_X12_all ⟨(Nat.le_of_ble_eq_true rfl), (Nat.le_of_ble_eq_true rfl)⟩) ⟨zP_blind, z_recv (ls_R hS) hK.1 (by decide) (zkd_of (rfl : zcd wR 0 = 50) rfl) (by decide) (rfl : vwCl[12]? = some (RX12, TX12, 50)), z_pre (ls_R hS) hK⟩ rfl rfl hl.1 rfl (lv_room (Nat.le_of_ble_eq_true rfl)) dL_law_849 ⟨(by show cells + 0 ≤ 600002; omega), (by show slots + 0 ≤ 7302232; omega)⟩) hS hS0 (fun z6 M7 H locs r8 hp9 hF10 hS hS0 => ?_)
  refine z_lcmp_eq hx hb r3 r8 dL_law_852 dL_law_853 (tgt := 1671) (by decide) (fun _ => ?_) (fun c9 => absurd (show z1 = z6 from by omega) c9)
  exact kk H locs _ _ ls (by omega) (by omega) hS0 (lv_sub hl [0, 1, 2, 3, 4] rfl)

set_option maxHeartbeats 4000000 in
set_option maxRecDepth 100000 in
theorem lc_16 {p : Program} {e : Env} {s : State} {m : MethodId} {below : List Frame} {meth : Method} {c : Code} {l : Launch} (hst : l.stackTraces = false) {b0 L n : Nat} {xs : Nat → Int32} (hL : L ≤ 5) (C0 : lw_At p s m meth c b0 L xs) {D : va_G} {dA : Nat → ClassId} (hK : zKK D vwCl (z_tys dA) s) (hTw : zTw s) (hZ0 : zZ (yA s.heap.size) s s.heap) (hn : n + 5 ≤ L) {H : Heap} {locs : List Loc} {cells slots : Nat} {ls : Array Slot} {MO : zM} (hS : LWS D dA s.heap.size MC0 MR0 MO H) (hS0 : va_S (yA s.heap.size) s.heap H locs) (hl : lv_has ls 8 [(4, .int (iI (n : Int))), (3, .ref (s.heap.size + 168 + 0)), (2, .ref (s.heap.size + 134 + 0)), (1, .ref (s.heap.size + 0)), (0, .ref b0)]) (hcc : cells + 1 ≤ 600002) (hss : slots + 6 ≤ 7302232)
    (kk : ∀ (H1 : Heap) (locs1 : List Loc) (c1 s1 : Nat) (ls1 : Array Slot), c1 ≤ cells + 1 → s1 ≤ slots + 6 → va_S (yA s.heap.size) s.heap H1 locs1 → lv_has ls1 8 [(4, .int (iI (n : Int))), (3, .ref (s.heap.size + 168 + 0)), (2, .ref (s.heap.size + 134 + 0)), (1, .ref (s.heap.size + 0)), (0, .ref b0)] → W p l e room_1 s m #[Value.ref b0] below meth c H1 locs1 c1 s1 (lw_Z below #[Value.ref b0] s) (F0 m 1671 ls1 [])) :
    W p l e room_1 s m #[Value.ref b0] below meth c H locs cells slots (lw_Z below #[Value.ref b0] s) (F0 m 858 ls []) := by
  obtain ⟨hx, hb, hr, hml, hown, htsL, hX, hbl, hlocks, hgv⟩ := id C0
  have hts := l_hts htsL
  have hbA : ¬ yA s.heap.size b0 := Nat.not_le.mpr hbl
  have hLb : L < 2147483648 := by omega
  obtain ⟨v1, rv1, ev1⟩ := iI_of (xs (n + 1))
  obtain ⟨v2, rv2, ev2⟩ := iI_of (xs (n + 2))
  refine lv_aload_n hx hb dL_law_858 rfl (lv_at hl 3 rfl) ?_
  refine lv_aload_n hx hb dL_law_859 rfl (lv_at hl 4 rfl) ?_
  refine lv_iload hx hb dL_law_860 (lv_at hl 0 rfl) ?_
  refine z_iconst hx hb dL_law_862 ?_
  refine z_iadd hx hb dL_law_863 ?_
  refine l_sld hx hb hX hbl hbA hS0 (k := n + 1) (v := v1) (by omega) (by omega) hLb ev1 dL_law_864 ?_
  refine lv_aload_n hx hb dL_law_865 rfl (lv_at hl 4 rfl) ?_
  refine lv_iload hx hb dL_law_866 (lv_at hl 0 rfl) ?_
  refine z_iconst hx hb dL_law_868 ?_
  refine z_iadd hx hb dL_law_869 ?_
  refine l_sld hx hb hX hbl hbA hS0 (k := n + 2) (v := v2) (by omega) (by omega) hLb ev2 dL_law_870 ?_
  refine l_Ci (va_runV (As := [.int (iI v1), .int (iI v2)]) (rest := []) ⟨hx, hb, hml, hown, hts⟩ (x_wish l D dA s.heap.size MC0 v1 v2 rv1 rv2 gC_32_2) (cwV 2 hts (z_gV k549 k550 k551 k1 k552) rfl rfl rfl dm_X11_wish ⟨(Nat.le_of_ble_eq_true rfl), (Nat.le_of_ble_eq_true rfl)⟩) ⟨zP_blind, z_recv (ls_C hS) hK.1 (by decide) (zkd_of (rfl : zcd wC 0 = 0) rfl) (by decide) (rfl : vwCl[11]? = some (RX11, TX11, 11)), z_pre (ls_C hS) hK⟩ rfl rfl hl.1 rfl (lv_room (Nat.le_of_ble_eq_true rfl)) dL_law_871 ⟨(by show cells + 0 ≤ 600002; omega), (by show slots + 0 ≤ 7302232; omega)⟩) hS hS0 (fun z1 M2 H locs r3 hp4 hF5 hS hS0 => ?_)
  refine lv_aload_n hx hb dL_law_874 rfl (lv_at hl 2 rfl) ?_
  refine lv_aload_n hx hb dL_law_875 rfl (lv_at hl 4 rfl) ?_
  refine lv_iload hx hb dL_law_876 (lv_at hl 0 rfl) ?_
  refine z_iconst hx hb dL_law_878 ?_
  refine z_iadd hx hb dL_law_879 ?_
  refine l_sld hx hb hX hbl hbA hS0 (k := n + 1) (v := v1) (by omega) (by omega) hLb ev1 dL_law_880 ?_
  refine lv_aload_n hx hb dL_law_881 rfl (lv_at hl 4 rfl) ?_
  refine lv_iload hx hb dL_law_882 (lv_at hl 0 rfl) ?_
  refine z_iconst hx hb dL_law_884 ?_
  refine z_iadd hx hb dL_law_885 ?_
  refine l_sld hx hb hX hbl hbA hS0 (k := n + 2) (v := v2) (by omega) (by omega) hLb ev2 dL_law_886 ?_
  refine l_Ri (va_runV (As := [.int (iI v1), .int (iI v2)]) (rest := [.int (iI z1)]) ⟨hx, hb, hml, hown, hts⟩ (m_wish l D dA (s.heap.size + 134) MR0 v1 v2 rv1 rv2 gR_0_10) (cwV 2 hts (z_gV k1180 k1181 k1182 k14 k1183) rfl rfl rfl dm_X12_wish ⟨(Nat.le_of_ble_eq_true rfl), (Nat.le_of_ble_eq_true rfl)⟩) ⟨zP_blind, z_recv (ls_R hS) hK.1 (by decide) (zkd_of (rfl : zcd wR 0 = 50) rfl) (by decide) (rfl : vwCl[12]? = some (RX12, TX12, 50)), z_pre (ls_R hS) hK⟩ rfl rfl hl.1 rfl (lv_room (Nat.le_of_ble_eq_true rfl)) dL_law_887 ⟨(by show cells + 0 ≤ 600002; omega), (by show slots + 0 ≤ 7302232; omega)⟩) hS hS0 (fun z6 M7 H locs r8 hp9 hF10 hS hS0 => ?_)
  refine z_icmp_eq (tgt := 1671) hx hb r3 r8 dL_law_890 (by decide) (fun _ => ?_) (fun c9 => absurd (show z1 = z6 from by omega) c9)
  exact kk H locs _ _ ls (by omega) (by omega) hS0 (lv_sub hl [0, 1, 2, 3, 4] rfl)

set_option maxHeartbeats 4000000 in
set_option maxRecDepth 100000 in
theorem lc_17 {p : Program} {e : Env} {s : State} {m : MethodId} {below : List Frame} {meth : Method} {c : Code} {l : Launch} (hst : l.stackTraces = false) {b0 L n : Nat} {xs : Nat → Int32} (hL : L ≤ 5) (C0 : lw_At p s m meth c b0 L xs) {D : va_G} {dA : Nat → ClassId} (hK : zKK D vwCl (z_tys dA) s) (hTw : zTw s) (hZ0 : zZ (yA s.heap.size) s s.heap) (hn : n + 5 ≤ L) {H : Heap} {locs : List Loc} {cells slots : Nat} {ls : Array Slot} {MO : zM} (hS : LWS D dA s.heap.size MC0 MR0 MO H) (hS0 : va_S (yA s.heap.size) s.heap H locs) (hl : lv_has ls 8 [(4, .int (iI (n : Int))), (3, .ref (s.heap.size + 168 + 0)), (2, .ref (s.heap.size + 134 + 0)), (1, .ref (s.heap.size + 0)), (0, .ref b0)]) (hcc : cells + 1 ≤ 600002) (hss : slots + 6 ≤ 7302232)
    (kk : ∀ (H1 : Heap) (locs1 : List Loc) (c1 s1 : Nat) (ls1 : Array Slot), c1 ≤ cells + 1 → s1 ≤ slots + 6 → va_S (yA s.heap.size) s.heap H1 locs1 → lv_has ls1 8 [(4, .int (iI (n : Int))), (3, .ref (s.heap.size + 168 + 0)), (2, .ref (s.heap.size + 134 + 0)), (1, .ref (s.heap.size + 0)), (0, .ref b0)] → W p l e room_1 s m #[Value.ref b0] below meth c H1 locs1 c1 s1 (lw_Z below #[Value.ref b0] s) (F0 m 1671 ls1 [])) :
    W p l e room_1 s m #[Value.ref b0] below meth c H locs cells slots (lw_Z below #[Value.ref b0] s) (F0 m 895 ls []) := by
  obtain ⟨hx, hb, hr, hml, hown, htsL, hX, hbl, hlocks, hgv⟩ := id C0
  have hts := l_hts htsL
  have hbA : ¬ yA s.heap.size b0 := Nat.not_le.mpr hbl
  have hLb : L < 2147483648 := by omega
  obtain ⟨v1, rv1, ev1⟩ := iI_of (xs (n + 1))
  obtain ⟨v2, rv2, ev2⟩ := iI_of (xs (n + 2))
  refine lv_aload_n hx hb dL_law_895 rfl (lv_at hl 3 rfl) ?_
  refine lv_aload_n hx hb dL_law_896 rfl (lv_at hl 4 rfl) ?_
  refine lv_iload hx hb dL_law_897 (lv_at hl 0 rfl) ?_
  refine z_iconst hx hb dL_law_899 ?_
  refine z_iadd hx hb dL_law_900 ?_
  refine l_sld hx hb hX hbl hbA hS0 (k := n + 1) (v := v1) (by omega) (by omega) hLb ev1 dL_law_901 ?_
  refine lv_i2l hx hb dL_law_902 rfl ?_
  refine z_bipush hx hb (by decide) dL_law_903 ?_
  refine lv_lshl hx hb dL_law_905 rfl ?_
  refine lv_aload_n hx hb dL_law_906 rfl (lv_at hl 4 rfl) ?_
  refine lv_iload hx hb dL_law_907 (lv_at hl 0 rfl) ?_
  refine z_iconst hx hb dL_law_909 ?_
  refine z_iadd hx hb dL_law_910 ?_
  refine l_sld hx hb hX hbl hbA hS0 (k := n + 2) (v := v2) (by omega) (by omega) hLb ev2 dL_law_911 ?_
  refine lv_i2l hx hb dL_law_912 rfl ?_
  refine z_ldc2 (n := 4294967295) hx hb hown (hts _ (z_mem k1352)) (by decide) dL_law_913 ?_
  refine lv_land hx hb dL_law_916 ?_
  refine lv_lor hx hb dL_law_917 ?_
  obtain ⟨t1, rt2, et3⟩ := iL_of (((iI v1).toInt64 <<< ((iI 32).toInt64 &&& 63)) ||| ((iI v2).toInt64 &&& iL 4294967295))
  rw [et3]
  refine l_Cl (va_runV (As := [.long (iL t1)]) (rest := []) ⟨hx, hb, hml, hown, hts⟩ (x_meets l D dA s.heap.size MC0 t1 rt2 gC_32_2 gC_35_2 gC_38_2) (cwV 1 hts (z_gV k556 k557 k558 k1 k559) rfl rfl rfl dm_X11_meets ⟨(Nat.le_of_ble_eq_true rfl), (Nat.le_of_ble_eq_true rfl)⟩) ⟨zP_blind, z_recv (ls_C hS) hK.1 (by decide) (zkd_of (rfl : zcd wC 0 = 0) rfl) (by decide) (rfl : vwCl[11]? = some (RX11, TX11, 11)), z_pre (ls_C hS) hK⟩ rfl rfl hl.1 rfl (lv_room (Nat.le_of_ble_eq_true rfl)) dL_law_918 ⟨(by show cells + 0 ≤ 600002; omega), (by show slots + 0 ≤ 7302232; omega)⟩) hS hS0 (fun z4 M5 H locs r6 hp7 hF8 hS hS0 => ?_)
  refine lv_aload_n hx hb dL_law_921 rfl (lv_at hl 2 rfl) ?_
  refine lv_aload_n hx hb dL_law_922 rfl (lv_at hl 4 rfl) ?_
  refine lv_iload hx hb dL_law_923 (lv_at hl 0 rfl) ?_
  refine z_iconst hx hb dL_law_925 ?_
  refine z_iadd hx hb dL_law_926 ?_
  refine l_sld hx hb hX hbl hbA hS0 (k := n + 1) (v := v1) (by omega) (by omega) hLb ev1 dL_law_927 ?_
  refine lv_i2l hx hb dL_law_928 rfl ?_
  refine z_bipush hx hb (by decide) dL_law_929 ?_
  refine lv_lshl hx hb dL_law_931 rfl ?_
  refine lv_aload_n hx hb dL_law_932 rfl (lv_at hl 4 rfl) ?_
  refine lv_iload hx hb dL_law_933 (lv_at hl 0 rfl) ?_
  refine z_iconst hx hb dL_law_935 ?_
  refine z_iadd hx hb dL_law_936 ?_
  refine l_sld hx hb hX hbl hbA hS0 (k := n + 2) (v := v2) (by omega) (by omega) hLb ev2 dL_law_937 ?_
  refine lv_i2l hx hb dL_law_938 rfl ?_
  refine z_ldc2 (n := 4294967295) hx hb hown (hts _ (z_mem k1352)) (by decide) dL_law_939 ?_
  refine lv_land hx hb dL_law_942 ?_
  refine lv_lor hx hb dL_law_943 ?_
  rw [et3]
  refine l_Rl (va_runV (As := [.long (iL t1)]) (rest := [.long (iL z4)]) ⟨hx, hb, hml, hown, hts⟩ (m_meets l D dA (s.heap.size + 134) MR0 t1 rt2 gR_0_10 aR_11) (cwV 1 hts (z_gV k1187 k1188 k1189 k14 k1190) rfl rfl rfl dm_X12_meets ⟨(Nat.le_of_ble_eq_true rfl), (Nat.le_of_ble_eq_true rfl)⟩) ⟨zP_blind, z_recv (ls_R hS) hK.1 (by decide) (zkd_of (rfl : zcd wR 0 = 50) rfl) (by decide) (rfl : vwCl[12]? = some (RX12, TX12, 50)), z_pre (ls_R hS) hK⟩ rfl rfl hl.1 rfl (lv_room (Nat.le_of_ble_eq_true rfl)) dL_law_944 ⟨(by show cells + 0 ≤ 600002; omega), (by show slots + 0 ≤ 7302232; omega)⟩) hS hS0 (fun z9 M10 H locs r11 hp12 hF13 hS hS0 => ?_)
  refine z_lcmp_eq hx hb r6 r11 dL_law_947 dL_law_948 (tgt := 1671) (by decide) (fun _ => ?_) (fun c9 => absurd (show z4 = z9 from by omega) c9)
  exact kk H locs _ _ ls (by omega) (by omega) hS0 (lv_sub hl [0, 1, 2, 3, 4] rfl)

set_option maxHeartbeats 4000000 in
set_option maxRecDepth 100000 in
theorem lc_18 {p : Program} {e : Env} {s : State} {m : MethodId} {below : List Frame} {meth : Method} {c : Code} {l : Launch} (hst : l.stackTraces = false) {b0 L n : Nat} {xs : Nat → Int32} (hL : L ≤ 5) (C0 : lw_At p s m meth c b0 L xs) {D : va_G} {dA : Nat → ClassId} (hK : zKK D vwCl (z_tys dA) s) (hTw : zTw s) (hZ0 : zZ (yA s.heap.size) s s.heap) (hn : n + 5 ≤ L) {H : Heap} {locs : List Loc} {cells slots : Nat} {ls : Array Slot} {MO : zM} (hS : LWS D dA s.heap.size MC0 MR0 MO H) (hS0 : va_S (yA s.heap.size) s.heap H locs) (hl : lv_has ls 8 [(4, .int (iI (n : Int))), (3, .ref (s.heap.size + 168 + 0)), (2, .ref (s.heap.size + 134 + 0)), (1, .ref (s.heap.size + 0)), (0, .ref b0)]) (hcc : cells + 1 ≤ 600002) (hss : slots + 6 ≤ 7302232)
    (kk : ∀ (H1 : Heap) (locs1 : List Loc) (c1 s1 : Nat) (ls1 : Array Slot), c1 ≤ cells + 1 → s1 ≤ slots + 6 → va_S (yA s.heap.size) s.heap H1 locs1 → lv_has ls1 8 [(4, .int (iI (n : Int))), (3, .ref (s.heap.size + 168 + 0)), (2, .ref (s.heap.size + 134 + 0)), (1, .ref (s.heap.size + 0)), (0, .ref b0)] → W p l e room_1 s m #[Value.ref b0] below meth c H1 locs1 c1 s1 (lw_Z below #[Value.ref b0] s) (F0 m 1671 ls1 [])) :
    W p l e room_1 s m #[Value.ref b0] below meth c H locs cells slots (lw_Z below #[Value.ref b0] s) (F0 m 953 ls []) := by
  obtain ⟨hx, hb, hr, hml, hown, htsL, hX, hbl, hlocks, hgv⟩ := id C0
  have hts := l_hts htsL
  have hbA : ¬ yA s.heap.size b0 := Nat.not_le.mpr hbl
  have hLb : L < 2147483648 := by omega
  refine lv_aload_n hx hb dL_law_953 rfl (lv_at hl 3 rfl) ?_
  refine l_Cl (va_runV (As := []) (rest := []) ⟨hx, hb, hml, hown, hts⟩ (x_often l D dA s.heap.size MC0 gC_32_2 gC_35_2 gC_38_2) (cwV 0 hts (z_gV k591 k592 k593 k1 k594) rfl rfl rfl dm_X11_often ⟨(Nat.le_of_ble_eq_true rfl), (Nat.le_of_ble_eq_true rfl)⟩) ⟨zP_blind, z_recv (ls_C hS) hK.1 (by decide) (zkd_of (rfl : zcd wC 0 = 0) rfl) (by decide) (rfl : vwCl[11]? = some (RX11, TX11, 11)), z_pre (ls_C hS) hK⟩ rfl rfl hl.1 rfl (lv_room (Nat.le_of_ble_eq_true rfl)) dL_law_954 ⟨(by show cells + 0 ≤ 600002; omega), (by show slots + 0 ≤ 7302232; omega)⟩) hS hS0 (fun z1 M2 H locs r3 hp4 hF5 hS hS0 => ?_)
  refine lv_aload_n hx hb dL_law_957 rfl (lv_at hl 2 rfl) ?_
  refine l_Rl (va_runV (As := []) (rest := [.long (iL z1)]) ⟨hx, hb, hml, hown, hts⟩ (m_often l D dA (s.heap.size + 134) MR0 gR_0_10 aR_11) (cwV 0 hts (z_gV k1206 k1207 k1208 k14 k1209) rfl rfl rfl dm_X12_often ⟨(Nat.le_of_ble_eq_true rfl), (Nat.le_of_ble_eq_true rfl)⟩) ⟨zP_blind, z_recv (ls_R hS) hK.1 (by decide) (zkd_of (rfl : zcd wR 0 = 50) rfl) (by decide) (rfl : vwCl[12]? = some (RX12, TX12, 50)), z_pre (ls_R hS) hK⟩ rfl rfl hl.1 rfl (lv_room (Nat.le_of_ble_eq_true rfl)) dL_law_958 ⟨(by show cells + 0 ≤ 600002; omega), (by show slots + 0 ≤ 7302232; omega)⟩) hS hS0 (fun z6 M7 H locs r8 hp9 hF10 hS hS0 => ?_)
  refine z_lcmp_eq hx hb r3 r8 dL_law_961 dL_law_962 (tgt := 1671) (by decide) (fun _ => ?_) (fun c9 => absurd (show z1 = z6 from by omega) c9)
  exact kk H locs _ _ ls (by omega) (by omega) hS0 (lv_sub hl [0, 1, 2, 3, 4] rfl)

set_option maxHeartbeats 4000000 in
set_option maxRecDepth 100000 in
theorem lc_19 {p : Program} {e : Env} {s : State} {m : MethodId} {below : List Frame} {meth : Method} {c : Code} {l : Launch} (hst : l.stackTraces = false) {b0 L n : Nat} {xs : Nat → Int32} (hL : L ≤ 5) (C0 : lw_At p s m meth c b0 L xs) {D : va_G} {dA : Nat → ClassId} (hK : zKK D vwCl (z_tys dA) s) (hTw : zTw s) (hZ0 : zZ (yA s.heap.size) s s.heap) (hn : n + 5 ≤ L) {H : Heap} {locs : List Loc} {cells slots : Nat} {ls : Array Slot} {MO : zM} (hS : LWS D dA s.heap.size MC0 MR0 MO H) (hS0 : va_S (yA s.heap.size) s.heap H locs) (hl : lv_has ls 8 [(4, .int (iI (n : Int))), (3, .ref (s.heap.size + 168 + 0)), (2, .ref (s.heap.size + 134 + 0)), (1, .ref (s.heap.size + 0)), (0, .ref b0)]) (hcc : cells + 1 ≤ 600002) (hss : slots + 6 ≤ 7302232)
    (kk : ∀ (H1 : Heap) (locs1 : List Loc) (c1 s1 : Nat) (ls1 : Array Slot), c1 ≤ cells + 1 → s1 ≤ slots + 6 → va_S (yA s.heap.size) s.heap H1 locs1 → lv_has ls1 8 [(4, .int (iI (n : Int))), (3, .ref (s.heap.size + 168 + 0)), (2, .ref (s.heap.size + 134 + 0)), (1, .ref (s.heap.size + 0)), (0, .ref b0)] → W p l e room_1 s m #[Value.ref b0] below meth c H1 locs1 c1 s1 (lw_Z below #[Value.ref b0] s) (F0 m 1671 ls1 [])) :
    W p l e room_1 s m #[Value.ref b0] below meth c H locs cells slots (lw_Z below #[Value.ref b0] s) (F0 m 967 ls []) := by
  obtain ⟨hx, hb, hr, hml, hown, htsL, hX, hbl, hlocks, hgv⟩ := id C0
  have hts := l_hts htsL
  have hbA : ¬ yA s.heap.size b0 := Nat.not_le.mpr hbl
  have hLb : L < 2147483648 := by omega
  obtain ⟨v1, rv1, ev1⟩ := iI_of (xs (n + 1))
  obtain ⟨v2, rv2, ev2⟩ := iI_of (xs (n + 2))
  refine lv_aload_n hx hb dL_law_967 rfl (lv_at hl 3 rfl) ?_
  refine lv_aload_n hx hb dL_law_968 rfl (lv_at hl 4 rfl) ?_
  refine lv_iload hx hb dL_law_969 (lv_at hl 0 rfl) ?_
  refine z_iconst hx hb dL_law_971 ?_
  refine z_iadd hx hb dL_law_972 ?_
  refine l_sld hx hb hX hbl hbA hS0 (k := n + 1) (v := v1) (by omega) (by omega) hLb ev1 dL_law_973 ?_
  refine lv_aload_n hx hb dL_law_974 rfl (lv_at hl 4 rfl) ?_
  refine lv_iload hx hb dL_law_975 (lv_at hl 0 rfl) ?_
  refine z_iconst hx hb dL_law_977 ?_
  refine z_iadd hx hb dL_law_978 ?_
  refine l_sld hx hb hX hbl hbA hS0 (k := n + 2) (v := v2) (by omega) (by omega) hLb ev2 dL_law_979 ?_
  refine l_Ci (va_runV (As := [.int (iI v1), .int (iI v2)]) (rest := []) ⟨hx, hb, hml, hown, hts⟩ (x_mark l D dA s.heap.size MC0 v1 v2 rv1 rv2 gC_60_2) (cwV 2 hts (z_gV k596 k597 k598 k1 k599) rfl rfl rfl dm_X11_mark ⟨(Nat.le_of_ble_eq_true rfl), (Nat.le_of_ble_eq_true rfl)⟩) ⟨zP_blind, z_recv (ls_C hS) hK.1 (by decide) (zkd_of (rfl : zcd wC 0 = 0) rfl) (by decide) (rfl : vwCl[11]? = some (RX11, TX11, 11)), z_pre (ls_C hS) hK⟩ rfl rfl hl.1 rfl (lv_room (Nat.le_of_ble_eq_true rfl)) dL_law_980 ⟨(by show cells + 0 ≤ 600002; omega), (by show slots + 0 ≤ 7302232; omega)⟩) hS hS0 (fun z1 M2 H locs r3 hp4 hF5 hS hS0 => ?_)
  refine lv_aload_n hx hb dL_law_983 rfl (lv_at hl 2 rfl) ?_
  refine lv_aload_n hx hb dL_law_984 rfl (lv_at hl 4 rfl) ?_
  refine lv_iload hx hb dL_law_985 (lv_at hl 0 rfl) ?_
  refine z_iconst hx hb dL_law_987 ?_
  refine z_iadd hx hb dL_law_988 ?_
  refine l_sld hx hb hX hbl hbA hS0 (k := n + 1) (v := v1) (by omega) (by omega) hLb ev1 dL_law_989 ?_
  refine lv_aload_n hx hb dL_law_990 rfl (lv_at hl 4 rfl) ?_
  refine lv_iload hx hb dL_law_991 (lv_at hl 0 rfl) ?_
  refine z_iconst hx hb dL_law_993 ?_
  refine z_iadd hx hb dL_law_994 ?_
  refine l_sld hx hb hX hbl hbA hS0 (k := n + 2) (v := v2) (by omega) (by omega) hLb ev2 dL_law_995 ?_
  refine l_Ri (va_runV (As := [.int (iI v1), .int (iI v2)]) (rest := [.int (iI z1)]) ⟨hx, hb, hml, hown, hts⟩ (m_mark l D dA (s.heap.size + 134) MR0 v1 v2 rv1 rv2 gR_0_16) (cwV 2 hts (z_gV k1210 k1211 k1212 k14 k1213) rfl rfl rfl dm_X12_mark ⟨(Nat.le_of_ble_eq_true rfl), (Nat.le_of_ble_eq_true rfl)⟩) ⟨zP_blind, z_recv (ls_R hS) hK.1 (by decide) (zkd_of (rfl : zcd wR 0 = 50) rfl) (by decide) (rfl : vwCl[12]? = some (RX12, TX12, 50)), z_pre (ls_R hS) hK⟩ rfl rfl hl.1 rfl (lv_room (Nat.le_of_ble_eq_true rfl)) dL_law_996 ⟨(by show cells + 0 ≤ 600002; omega), (by show slots + 0 ≤ 7302232; omega)⟩) hS hS0 (fun z6 M7 H locs r8 hp9 hF10 hS hS0 => ?_)
  refine z_icmp_eq (tgt := 1671) hx hb r3 r8 dL_law_999 (by decide) (fun _ => ?_) (fun c9 => absurd (show z1 = z6 from by omega) c9)
  exact kk H locs _ _ ls (by omega) (by omega) hS0 (lv_sub hl [0, 1, 2, 3, 4] rfl)

set_option maxHeartbeats 4000000 in
set_option maxRecDepth 100000 in
theorem lc_20 {p : Program} {e : Env} {s : State} {m : MethodId} {below : List Frame} {meth : Method} {c : Code} {l : Launch} (hst : l.stackTraces = false) {b0 L n : Nat} {xs : Nat → Int32} (hL : L ≤ 5) (C0 : lw_At p s m meth c b0 L xs) {D : va_G} {dA : Nat → ClassId} (hK : zKK D vwCl (z_tys dA) s) (hTw : zTw s) (hZ0 : zZ (yA s.heap.size) s s.heap) (hn : n + 5 ≤ L) {H : Heap} {locs : List Loc} {cells slots : Nat} {ls : Array Slot} {MO : zM} (hS : LWS D dA s.heap.size MC0 MR0 MO H) (hS0 : va_S (yA s.heap.size) s.heap H locs) (hl : lv_has ls 8 [(4, .int (iI (n : Int))), (3, .ref (s.heap.size + 168 + 0)), (2, .ref (s.heap.size + 134 + 0)), (1, .ref (s.heap.size + 0)), (0, .ref b0)]) (hcc : cells + 1 ≤ 600002) (hss : slots + 6 ≤ 7302232)
    (kk : ∀ (H1 : Heap) (locs1 : List Loc) (c1 s1 : Nat) (ls1 : Array Slot), c1 ≤ cells + 1 → s1 ≤ slots + 6 → va_S (yA s.heap.size) s.heap H1 locs1 → lv_has ls1 8 [(4, .int (iI (n : Int))), (3, .ref (s.heap.size + 168 + 0)), (2, .ref (s.heap.size + 134 + 0)), (1, .ref (s.heap.size + 0)), (0, .ref b0)] → W p l e room_1 s m #[Value.ref b0] below meth c H1 locs1 c1 s1 (lw_Z below #[Value.ref b0] s) (F0 m 1671 ls1 [])) :
    W p l e room_1 s m #[Value.ref b0] below meth c H locs cells slots (lw_Z below #[Value.ref b0] s) (F0 m 1004 ls []) := by
  obtain ⟨hx, hb, hr, hml, hown, htsL, hX, hbl, hlocks, hgv⟩ := id C0
  have hts := l_hts htsL
  have hbA : ¬ yA s.heap.size b0 := Nat.not_le.mpr hbl
  have hLb : L < 2147483648 := by omega
  refine lv_aload_n hx hb dL_law_1004 rfl (lv_at hl 3 rfl) ?_
  refine l_Ci (va_runV (As := []) (rest := []) ⟨hx, hb, hml, hown, hts⟩ (x_kept l D dA s.heap.size MC0 gC_60_2) (cwV 0 hts (z_gV k608 k609 k610 k1 k611) rfl rfl rfl dm_X11_kept ⟨(Nat.le_of_ble_eq_true rfl), (Nat.le_of_ble_eq_true rfl)⟩) ⟨zP_blind, z_recv (ls_C hS) hK.1 (by decide) (zkd_of (rfl : zcd wC 0 = 0) rfl) (by decide) (rfl : vwCl[11]? = some (RX11, TX11, 11)), z_pre (ls_C hS) hK⟩ rfl rfl hl.1 rfl (lv_room (Nat.le_of_ble_eq_true rfl)) dL_law_1005 ⟨(by show cells + 0 ≤ 600002; omega), (by show slots + 0 ≤ 7302232; omega)⟩) hS hS0 (fun z1 M2 H locs r3 hp4 hF5 hS hS0 => ?_)
  refine lv_aload_n hx hb dL_law_1008 rfl (lv_at hl 2 rfl) ?_
  refine l_Ri (va_runV (As := []) (rest := [.int (iI z1)]) ⟨hx, hb, hml, hown, hts⟩ (m_kept l D dA (s.heap.size + 134) MR0 gR_0_10) (cwV 0 hts (z_gV k1215 k1216 k1217 k14 k1218) rfl rfl rfl dm_X12_kept ⟨(Nat.le_of_ble_eq_true rfl), (Nat.le_of_ble_eq_true rfl)⟩) ⟨zP_blind, z_recv (ls_R hS) hK.1 (by decide) (zkd_of (rfl : zcd wR 0 = 50) rfl) (by decide) (rfl : vwCl[12]? = some (RX12, TX12, 50)), z_pre (ls_R hS) hK⟩ rfl rfl hl.1 rfl (lv_room (Nat.le_of_ble_eq_true rfl)) dL_law_1009 ⟨(by show cells + 0 ≤ 600002; omega), (by show slots + 0 ≤ 7302232; omega)⟩) hS hS0 (fun z6 M7 H locs r8 hp9 hF10 hS hS0 => ?_)
  refine z_icmp_eq (tgt := 1671) hx hb r3 r8 dL_law_1012 (by decide) (fun _ => ?_) (fun c9 => absurd (show z1 = z6 from by omega) c9)
  exact kk H locs _ _ ls (by omega) (by omega) hS0 (lv_sub hl [0, 1, 2, 3, 4] rfl)

set_option maxHeartbeats 4000000 in
set_option maxRecDepth 100000 in
theorem lc_21 {p : Program} {e : Env} {s : State} {m : MethodId} {below : List Frame} {meth : Method} {c : Code} {l : Launch} (hst : l.stackTraces = false) {b0 L n : Nat} {xs : Nat → Int32} (hL : L ≤ 5) (C0 : lw_At p s m meth c b0 L xs) {D : va_G} {dA : Nat → ClassId} (hK : zKK D vwCl (z_tys dA) s) (hTw : zTw s) (hZ0 : zZ (yA s.heap.size) s s.heap) (hn : n + 5 ≤ L) {H : Heap} {locs : List Loc} {cells slots : Nat} {ls : Array Slot} {MO : zM} (hS : LWS D dA s.heap.size MC0 MR0 MO H) (hS0 : va_S (yA s.heap.size) s.heap H locs) (hl : lv_has ls 8 [(4, .int (iI (n : Int))), (3, .ref (s.heap.size + 168 + 0)), (2, .ref (s.heap.size + 134 + 0)), (1, .ref (s.heap.size + 0)), (0, .ref b0)]) (hcc : cells + 1 ≤ 600002) (hss : slots + 6 ≤ 7302232)
    (kk : ∀ (H1 : Heap) (locs1 : List Loc) (c1 s1 : Nat) (ls1 : Array Slot), c1 ≤ cells + 1 → s1 ≤ slots + 6 → va_S (yA s.heap.size) s.heap H1 locs1 → lv_has ls1 8 [(4, .int (iI (n : Int))), (3, .ref (s.heap.size + 168 + 0)), (2, .ref (s.heap.size + 134 + 0)), (1, .ref (s.heap.size + 0)), (0, .ref b0)] → W p l e room_1 s m #[Value.ref b0] below meth c H1 locs1 c1 s1 (lw_Z below #[Value.ref b0] s) (F0 m 1671 ls1 [])) :
    W p l e room_1 s m #[Value.ref b0] below meth c H locs cells slots (lw_Z below #[Value.ref b0] s) (F0 m 1017 ls []) := by
  obtain ⟨hx, hb, hr, hml, hown, htsL, hX, hbl, hlocks, hgv⟩ := id C0
  have hts := l_hts htsL
  have hbA : ¬ yA s.heap.size b0 := Nat.not_le.mpr hbl
  have hLb : L < 2147483648 := by omega
  refine lv_aload_n hx hb dL_law_1017 rfl (lv_at hl 3 rfl) ?_
  refine l_Ci (va_runV (As := []) (rest := []) ⟨hx, hb, hml, hown, hts⟩ (x_plan l D dA s.heap.size MC0 gC_60_2 gC_32_2) (cwV 0 hts (z_gV k617 k618 k619 k1 k620) rfl rfl rfl dm_X11_plan ⟨(Nat.le_of_ble_eq_true rfl), (Nat.le_of_ble_eq_true rfl)⟩) ⟨zP_blind, z_recv (ls_C hS) hK.1 (by decide) (zkd_of (rfl : zcd wC 0 = 0) rfl) (by decide) (rfl : vwCl[11]? = some (RX11, TX11, 11)), z_pre (ls_C hS) hK⟩ rfl rfl hl.1 rfl (lv_room (Nat.le_of_ble_eq_true rfl)) dL_law_1018 ⟨(by show cells + 0 ≤ 600002; omega), (by show slots + 0 ≤ 7302232; omega)⟩) hS hS0 (fun z1 M2 H locs r3 hp4 hF5 hS hS0 => ?_)
  refine lv_aload_n hx hb dL_law_1021 rfl (lv_at hl 2 rfl) ?_
  refine l_Ri (va_runV (As := []) (rest := [.int (iI z1)]) ⟨hx, hb, hml, hown, hts⟩ (m_plan l D dA (s.heap.size + 134) MR0 gR_0_10 gR_0_16) (cwV 0 hts (z_gV k1222 k1223 k1224 k14 k1225) rfl rfl rfl dm_X12_plan ⟨(Nat.le_of_ble_eq_true rfl), (Nat.le_of_ble_eq_true rfl)⟩) ⟨zP_blind, z_recv (ls_R hS) hK.1 (by decide) (zkd_of (rfl : zcd wR 0 = 50) rfl) (by decide) (rfl : vwCl[12]? = some (RX12, TX12, 50)), z_pre (ls_R hS) hK⟩ rfl rfl hl.1 rfl (lv_room (Nat.le_of_ble_eq_true rfl)) dL_law_1022 ⟨(by show cells + 0 ≤ 600002; omega), (by show slots + 0 ≤ 7302232; omega)⟩) hS hS0 (fun z6 M7 H locs r8 hp9 hF10 hS hS0 => ?_)
  refine z_icmp_eq (tgt := 1671) hx hb r3 r8 dL_law_1025 (by decide) (fun _ => ?_) (fun c9 => absurd (show z1 = z6 from by omega) c9)
  exact kk H locs _ _ ls (by omega) (by omega) hS0 (lv_sub hl [0, 1, 2, 3, 4] rfl)

set_option maxHeartbeats 4000000 in
set_option maxRecDepth 100000 in
theorem lc_22 {p : Program} {e : Env} {s : State} {m : MethodId} {below : List Frame} {meth : Method} {c : Code} {l : Launch} (hst : l.stackTraces = false) {b0 L n : Nat} {xs : Nat → Int32} (hL : L ≤ 5) (C0 : lw_At p s m meth c b0 L xs) {D : va_G} {dA : Nat → ClassId} (hK : zKK D vwCl (z_tys dA) s) (hTw : zTw s) (hZ0 : zZ (yA s.heap.size) s s.heap) (hn : n + 5 ≤ L) {H : Heap} {locs : List Loc} {cells slots : Nat} {ls : Array Slot} {MO : zM} (hS : LWS D dA s.heap.size MC0 MR0 MO H) (hS0 : va_S (yA s.heap.size) s.heap H locs) (hl : lv_has ls 8 [(4, .int (iI (n : Int))), (3, .ref (s.heap.size + 168 + 0)), (2, .ref (s.heap.size + 134 + 0)), (1, .ref (s.heap.size + 0)), (0, .ref b0)]) (hcc : cells + 1 ≤ 600002) (hss : slots + 6 ≤ 7302232)
    (kk : ∀ (H1 : Heap) (locs1 : List Loc) (c1 s1 : Nat) (ls1 : Array Slot), c1 ≤ cells + 1 → s1 ≤ slots + 6 → va_S (yA s.heap.size) s.heap H1 locs1 → lv_has ls1 8 [(4, .int (iI (n : Int))), (3, .ref (s.heap.size + 168 + 0)), (2, .ref (s.heap.size + 134 + 0)), (1, .ref (s.heap.size + 0)), (0, .ref b0)] → W p l e room_1 s m #[Value.ref b0] below meth c H1 locs1 c1 s1 (lw_Z below #[Value.ref b0] s) (F0 m 1671 ls1 [])) :
    W p l e room_1 s m #[Value.ref b0] below meth c H locs cells slots (lw_Z below #[Value.ref b0] s) (F0 m 1030 ls []) := by
  obtain ⟨hx, hb, hr, hml, hown, htsL, hX, hbl, hlocks, hgv⟩ := id C0
  have hts := l_hts htsL
  have hbA : ¬ yA s.heap.size b0 := Nat.not_le.mpr hbl
  have hLb : L < 2147483648 := by omega
  refine lv_aload_n hx hb dL_law_1030 rfl (lv_at hl 3 rfl) ?_
  refine l_Ci (va_runV (As := []) (rest := []) ⟨hx, hb, hml, hown, hts⟩ (x_make l D dA s.heap.size MC0 gC_60_2 gC_32_2) (cwV 0 hts (z_gV k658 k659 k660 k1 k661) rfl rfl rfl dm_X11_make ⟨(Nat.le_of_ble_eq_true rfl), (Nat.le_of_ble_eq_true rfl)⟩) ⟨zP_blind, z_recv (ls_C hS) hK.1 (by decide) (zkd_of (rfl : zcd wC 0 = 0) rfl) (by decide) (rfl : vwCl[11]? = some (RX11, TX11, 11)), z_pre (ls_C hS) hK⟩ rfl rfl hl.1 rfl (lv_room (Nat.le_of_ble_eq_true rfl)) dL_law_1031 ⟨(by show cells + 0 ≤ 600002; omega), (by show slots + 0 ≤ 7302232; omega)⟩) hS hS0 (fun z1 M2 H locs r3 hp4 hF5 hS hS0 => ?_)
  refine lv_aload_n hx hb dL_law_1034 rfl (lv_at hl 2 rfl) ?_
  refine l_Ri (va_runV (As := []) (rest := [.int (iI z1)]) ⟨hx, hb, hml, hown, hts⟩ (m_make l D dA (s.heap.size + 134) MR0 gR_0_10 gR_0_16) (cwV 0 hts (z_gV k1234 k1235 k1236 k14 k1237) rfl rfl rfl dm_X12_make ⟨(Nat.le_of_ble_eq_true rfl), (Nat.le_of_ble_eq_true rfl)⟩) ⟨zP_blind, z_recv (ls_R hS) hK.1 (by decide) (zkd_of (rfl : zcd wR 0 = 50) rfl) (by decide) (rfl : vwCl[12]? = some (RX12, TX12, 50)), z_pre (ls_R hS) hK⟩ rfl rfl hl.1 rfl (lv_room (Nat.le_of_ble_eq_true rfl)) dL_law_1035 ⟨(by show cells + 0 ≤ 600002; omega), (by show slots + 0 ≤ 7302232; omega)⟩) hS hS0 (fun z6 M7 H locs r8 hp9 hF10 hS hS0 => ?_)
  refine z_icmp_eq (tgt := 1671) hx hb r3 r8 dL_law_1038 (by decide) (fun _ => ?_) (fun c9 => absurd (show z1 = z6 from by omega) c9)
  exact kk H locs _ _ ls (by omega) (by omega) hS0 (lv_sub hl [0, 1, 2, 3, 4] rfl)

set_option maxHeartbeats 4000000 in
set_option maxRecDepth 100000 in
theorem lc_23 {p : Program} {e : Env} {s : State} {m : MethodId} {below : List Frame} {meth : Method} {c : Code} {l : Launch} (hst : l.stackTraces = false) {b0 L n : Nat} {xs : Nat → Int32} (hL : L ≤ 5) (C0 : lw_At p s m meth c b0 L xs) {D : va_G} {dA : Nat → ClassId} (hK : zKK D vwCl (z_tys dA) s) (hTw : zTw s) (hZ0 : zZ (yA s.heap.size) s s.heap) (hn : n + 5 ≤ L) {H : Heap} {locs : List Loc} {cells slots : Nat} {ls : Array Slot} {MO : zM} (hS : LWS D dA s.heap.size MC0 MR0 MO H) (hS0 : va_S (yA s.heap.size) s.heap H locs) (hl : lv_has ls 8 [(4, .int (iI (n : Int))), (3, .ref (s.heap.size + 168 + 0)), (2, .ref (s.heap.size + 134 + 0)), (1, .ref (s.heap.size + 0)), (0, .ref b0)]) (hcc : cells + 1 ≤ 600002) (hss : slots + 6 ≤ 7302232)
    (kk : ∀ (H1 : Heap) (locs1 : List Loc) (c1 s1 : Nat) (ls1 : Array Slot), c1 ≤ cells + 1 → s1 ≤ slots + 6 → va_S (yA s.heap.size) s.heap H1 locs1 → lv_has ls1 8 [(4, .int (iI (n : Int))), (3, .ref (s.heap.size + 168 + 0)), (2, .ref (s.heap.size + 134 + 0)), (1, .ref (s.heap.size + 0)), (0, .ref b0)] → W p l e room_1 s m #[Value.ref b0] below meth c H1 locs1 c1 s1 (lw_Z below #[Value.ref b0] s) (F0 m 1671 ls1 [])) :
    W p l e room_1 s m #[Value.ref b0] below meth c H locs cells slots (lw_Z below #[Value.ref b0] s) (F0 m 1043 ls []) := by
  obtain ⟨hx, hb, hr, hml, hown, htsL, hX, hbl, hlocks, hgv⟩ := id C0
  have hts := l_hts htsL
  have hbA : ¬ yA s.heap.size b0 := Nat.not_le.mpr hbl
  have hLb : L < 2147483648 := by omega
  obtain ⟨v1, rv1, ev1⟩ := iI_of (xs (n + 1))
  obtain ⟨v2, rv2, ev2⟩ := iI_of (xs (n + 2))
  refine lv_aload_n hx hb dL_law_1043 rfl (lv_at hl 3 rfl) ?_
  refine lv_aload_n hx hb dL_law_1044 rfl (lv_at hl 4 rfl) ?_
  refine lv_iload hx hb dL_law_1045 (lv_at hl 0 rfl) ?_
  refine z_iconst hx hb dL_law_1047 ?_
  refine z_iadd hx hb dL_law_1048 ?_
  refine l_sld hx hb hX hbl hbA hS0 (k := n + 1) (v := v1) (by omega) (by omega) hLb ev1 dL_law_1049 ?_
  refine lv_aload_n hx hb dL_law_1050 rfl (lv_at hl 4 rfl) ?_
  refine lv_iload hx hb dL_law_1051 (lv_at hl 0 rfl) ?_
  refine z_iconst hx hb dL_law_1053 ?_
  refine z_iadd hx hb dL_law_1054 ?_
  refine l_sld hx hb hX hbl hbA hS0 (k := n + 2) (v := v2) (by omega) (by omega) hLb ev2 dL_law_1055 ?_
  refine l_Ci (va_runV (As := [.int (iI v1), .int (iI v2)]) (rest := []) ⟨hx, hb, hml, hown, hts⟩ (x_cut l D dA s.heap.size MC0 v1 v2 rv1 rv2 gC_32_2) (cwV 2 hts (z_gV k670 k671 k672 k1 k673) rfl rfl rfl dm_X11_cut ⟨(Nat.le_of_ble_eq_true rfl), (Nat.le_of_ble_eq_true rfl)⟩) ⟨zP_blind, z_recv (ls_C hS) hK.1 (by decide) (zkd_of (rfl : zcd wC 0 = 0) rfl) (by decide) (rfl : vwCl[11]? = some (RX11, TX11, 11)), z_pre (ls_C hS) hK⟩ rfl rfl hl.1 rfl (lv_room (Nat.le_of_ble_eq_true rfl)) dL_law_1056 ⟨(by show cells + 0 ≤ 600002; omega), (by show slots + 0 ≤ 7302232; omega)⟩) hS hS0 (fun z1 M2 H locs r3 hp4 hF5 hS hS0 => ?_)
  refine lv_aload_n hx hb dL_law_1059 rfl (lv_at hl 2 rfl) ?_
  refine lv_aload_n hx hb dL_law_1060 rfl (lv_at hl 4 rfl) ?_
  refine lv_iload hx hb dL_law_1061 (lv_at hl 0 rfl) ?_
  refine z_iconst hx hb dL_law_1063 ?_
  refine z_iadd hx hb dL_law_1064 ?_
  refine l_sld hx hb hX hbl hbA hS0 (k := n + 1) (v := v1) (by omega) (by omega) hLb ev1 dL_law_1065 ?_
  refine lv_aload_n hx hb dL_law_1066 rfl (lv_at hl 4 rfl) ?_
  refine lv_iload hx hb dL_law_1067 (lv_at hl 0 rfl) ?_
  refine z_iconst hx hb dL_law_1069 ?_
  refine z_iadd hx hb dL_law_1070 ?_
  refine l_sld hx hb hX hbl hbA hS0 (k := n + 2) (v := v2) (by omega) (by omega) hLb ev2 dL_law_1071 ?_
  refine l_Ri (va_runV (As := [.int (iI v1), .int (iI v2)]) (rest := [.int (iI z1)]) ⟨hx, hb, hml, hown, hts⟩ (m_cut l D dA (s.heap.size + 134) MR0 v1 v2 rv1 rv2 gR_0_10) (cwV 2 hts (z_gV k1238 k1239 k1240 k14 k1241) rfl rfl rfl dm_X12_cut ⟨(Nat.le_of_ble_eq_true rfl), (Nat.le_of_ble_eq_true rfl)⟩) ⟨zP_blind, z_recv (ls_R hS) hK.1 (by decide) (zkd_of (rfl : zcd wR 0 = 50) rfl) (by decide) (rfl : vwCl[12]? = some (RX12, TX12, 50)), z_pre (ls_R hS) hK⟩ rfl rfl hl.1 rfl (lv_room (Nat.le_of_ble_eq_true rfl)) dL_law_1072 ⟨(by show cells + 0 ≤ 600002; omega), (by show slots + 0 ≤ 7302232; omega)⟩) hS hS0 (fun z6 M7 H locs r8 hp9 hF10 hS hS0 => ?_)
  refine z_icmp_eq (tgt := 1671) hx hb r3 r8 dL_law_1075 (by decide) (fun _ => ?_) (fun c9 => absurd (show z1 = z6 from by omega) c9)
  exact kk H locs _ _ ls (by omega) (by omega) hS0 (lv_sub hl [0, 1, 2, 3, 4] rfl)

set_option maxHeartbeats 4000000 in
set_option maxRecDepth 100000 in
theorem lc_24 {p : Program} {e : Env} {s : State} {m : MethodId} {below : List Frame} {meth : Method} {c : Code} {l : Launch} (hst : l.stackTraces = false) {b0 L n : Nat} {xs : Nat → Int32} (hL : L ≤ 5) (C0 : lw_At p s m meth c b0 L xs) {D : va_G} {dA : Nat → ClassId} (hK : zKK D vwCl (z_tys dA) s) (hTw : zTw s) (hZ0 : zZ (yA s.heap.size) s s.heap) (hn : n + 5 ≤ L) {H : Heap} {locs : List Loc} {cells slots : Nat} {ls : Array Slot} {MO : zM} (hS : LWS D dA s.heap.size MC0 MR0 MO H) (hS0 : va_S (yA s.heap.size) s.heap H locs) (hl : lv_has ls 8 [(4, .int (iI (n : Int))), (3, .ref (s.heap.size + 168 + 0)), (2, .ref (s.heap.size + 134 + 0)), (1, .ref (s.heap.size + 0)), (0, .ref b0)]) (hcc : cells + 1 ≤ 600002) (hss : slots + 6 ≤ 7302232)
    (kk : ∀ (H1 : Heap) (locs1 : List Loc) (c1 s1 : Nat) (ls1 : Array Slot), c1 ≤ cells + 1 → s1 ≤ slots + 6 → va_S (yA s.heap.size) s.heap H1 locs1 → lv_has ls1 8 [(4, .int (iI (n : Int))), (3, .ref (s.heap.size + 168 + 0)), (2, .ref (s.heap.size + 134 + 0)), (1, .ref (s.heap.size + 0)), (0, .ref b0)] → W p l e room_1 s m #[Value.ref b0] below meth c H1 locs1 c1 s1 (lw_Z below #[Value.ref b0] s) (F0 m 1671 ls1 [])) :
    W p l e room_1 s m #[Value.ref b0] below meth c H locs cells slots (lw_Z below #[Value.ref b0] s) (F0 m 1080 ls []) := by
  obtain ⟨hx, hb, hr, hml, hown, htsL, hX, hbl, hlocks, hgv⟩ := id C0
  have hts := l_hts htsL
  have hbA : ¬ yA s.heap.size b0 := Nat.not_le.mpr hbl
  have hLb : L < 2147483648 := by omega
  obtain ⟨v1, rv1, ev1⟩ := iI_of (xs (n + 1))
  obtain ⟨v2, rv2, ev2⟩ := iI_of (xs (n + 2))
  refine lv_aload_n hx hb dL_law_1080 rfl (lv_at hl 3 rfl) ?_
  refine lv_aload_n hx hb dL_law_1081 rfl (lv_at hl 4 rfl) ?_
  refine lv_iload hx hb dL_law_1082 (lv_at hl 0 rfl) ?_
  refine z_iconst hx hb dL_law_1084 ?_
  refine z_iadd hx hb dL_law_1085 ?_
  refine l_sld hx hb hX hbl hbA hS0 (k := n + 1) (v := v1) (by omega) (by omega) hLb ev1 dL_law_1086 ?_
  refine lv_aload_n hx hb dL_law_1087 rfl (lv_at hl 4 rfl) ?_
  refine lv_iload hx hb dL_law_1088 (lv_at hl 0 rfl) ?_
  refine z_iconst hx hb dL_law_1090 ?_
  refine z_iadd hx hb dL_law_1091 ?_
  refine l_sld hx hb hX hbl hbA hS0 (k := n + 2) (v := v2) (by omega) (by omega) hLb ev2 dL_law_1092 ?_
  refine l_Ci (va_runV (As := [.int (iI v1), .int (iI v2)]) (rest := []) ⟨hx, hb, hml, hown, hts⟩ (x_weight l D dA s.heap.size MC0 v1 v2 rv1 rv2 aC_80) (cwV 2 hts (z_gV k675 k676 k677 k1 k678) rfl rfl rfl dm_X11_weight ⟨(Nat.le_of_ble_eq_true rfl), (Nat.le_of_ble_eq_true rfl)⟩) ⟨zP_blind, z_recv (ls_C hS) hK.1 (by decide) (zkd_of (rfl : zcd wC 0 = 0) rfl) (by decide) (rfl : vwCl[11]? = some (RX11, TX11, 11)), z_pre (ls_C hS) hK⟩ rfl rfl hl.1 rfl (lv_room (Nat.le_of_ble_eq_true rfl)) dL_law_1093 ⟨(by show cells + 0 ≤ 600002; omega), (by show slots + 0 ≤ 7302232; omega)⟩) hS hS0 (fun z1 M2 H locs r3 hp4 hF5 hS hS0 => ?_)
  refine lv_aload_n hx hb dL_law_1096 rfl (lv_at hl 2 rfl) ?_
  refine lv_aload_n hx hb dL_law_1097 rfl (lv_at hl 4 rfl) ?_
  refine lv_iload hx hb dL_law_1098 (lv_at hl 0 rfl) ?_
  refine z_iconst hx hb dL_law_1100 ?_
  refine z_iadd hx hb dL_law_1101 ?_
  refine l_sld hx hb hX hbl hbA hS0 (k := n + 1) (v := v1) (by omega) (by omega) hLb ev1 dL_law_1102 ?_
  refine lv_aload_n hx hb dL_law_1103 rfl (lv_at hl 4 rfl) ?_
  refine lv_iload hx hb dL_law_1104 (lv_at hl 0 rfl) ?_
  refine z_iconst hx hb dL_law_1106 ?_
  refine z_iadd hx hb dL_law_1107 ?_
  refine l_sld hx hb hX hbl hbA hS0 (k := n + 2) (v := v2) (by omega) (by omega) hLb ev2 dL_law_1108 ?_
  refine l_Ri (va_runV (As := [.int (iI v1), .int (iI v2)]) (rest := [.int (iI z1)]) ⟨hx, hb, hml, hown, hts⟩ (m_weight l D dA (s.heap.size + 134) MR0 v1 v2 rv1 rv2 aR_14) (cwV 2 hts (z_gV k1242 k1243 k1244 k14 k1245) rfl rfl rfl dm_X12_weight ⟨(Nat.le_of_ble_eq_true rfl), (Nat.le_of_ble_eq_true rfl)⟩) ⟨zP_blind, z_recv (ls_R hS) hK.1 (by decide) (zkd_of (rfl : zcd wR 0 = 50) rfl) (by decide) (rfl : vwCl[12]? = some (RX12, TX12, 50)), z_pre (ls_R hS) hK⟩ rfl rfl hl.1 rfl (lv_room (Nat.le_of_ble_eq_true rfl)) dL_law_1109 ⟨(by show cells + 0 ≤ 600002; omega), (by show slots + 0 ≤ 7302232; omega)⟩) hS hS0 (fun z6 M7 H locs r8 hp9 hF10 hS hS0 => ?_)
  refine z_icmp_eq (tgt := 1671) hx hb r3 r8 dL_law_1112 (by decide) (fun _ => ?_) (fun c9 => absurd (show z1 = z6 from by omega) c9)
  exact kk H locs _ _ ls (by omega) (by omega) hS0 (lv_sub hl [0, 1, 2, 3, 4] rfl)

set_option maxHeartbeats 4000000 in
set_option maxRecDepth 100000 in
theorem lc_25 {p : Program} {e : Env} {s : State} {m : MethodId} {below : List Frame} {meth : Method} {c : Code} {l : Launch} (hst : l.stackTraces = false) {b0 L n : Nat} {xs : Nat → Int32} (hL : L ≤ 5) (C0 : lw_At p s m meth c b0 L xs) {D : va_G} {dA : Nat → ClassId} (hK : zKK D vwCl (z_tys dA) s) (hTw : zTw s) (hZ0 : zZ (yA s.heap.size) s s.heap) (hn : n + 5 ≤ L) {H : Heap} {locs : List Loc} {cells slots : Nat} {ls : Array Slot} {MO : zM} (hS : LWS D dA s.heap.size MC0 MR0 MO H) (hS0 : va_S (yA s.heap.size) s.heap H locs) (hl : lv_has ls 8 [(4, .int (iI (n : Int))), (3, .ref (s.heap.size + 168 + 0)), (2, .ref (s.heap.size + 134 + 0)), (1, .ref (s.heap.size + 0)), (0, .ref b0)]) (hcc : cells + 1 ≤ 600002) (hss : slots + 6 ≤ 7302232)
    (kk : ∀ (H1 : Heap) (locs1 : List Loc) (c1 s1 : Nat) (ls1 : Array Slot), c1 ≤ cells + 1 → s1 ≤ slots + 6 → va_S (yA s.heap.size) s.heap H1 locs1 → lv_has ls1 8 [(4, .int (iI (n : Int))), (3, .ref (s.heap.size + 168 + 0)), (2, .ref (s.heap.size + 134 + 0)), (1, .ref (s.heap.size + 0)), (0, .ref b0)] → W p l e room_1 s m #[Value.ref b0] below meth c H1 locs1 c1 s1 (lw_Z below #[Value.ref b0] s) (F0 m 1671 ls1 [])) :
    W p l e room_1 s m #[Value.ref b0] below meth c H locs cells slots (lw_Z below #[Value.ref b0] s) (F0 m 1117 ls []) := by
  obtain ⟨hx, hb, hr, hml, hown, htsL, hX, hbl, hlocks, hgv⟩ := id C0
  have hts := l_hts htsL
  have hbA : ¬ yA s.heap.size b0 := Nat.not_le.mpr hbl
  have hLb : L < 2147483648 := by omega
  obtain ⟨v1, rv1, ev1⟩ := iI_of (xs (n + 1))
  obtain ⟨v2, rv2, ev2⟩ := iI_of (xs (n + 2))
  obtain ⟨v3, rv3, ev3⟩ := iI_of (xs (n + 3))
  obtain ⟨v4, rv4, ev4⟩ := iI_of (xs (n + 4))
  refine lv_aload_n hx hb dL_law_1117 rfl (lv_at hl 3 rfl) ?_
  refine lv_aload_n hx hb dL_law_1118 rfl (lv_at hl 4 rfl) ?_
  refine lv_iload hx hb dL_law_1119 (lv_at hl 0 rfl) ?_
  refine z_iconst hx hb dL_law_1121 ?_
  refine z_iadd hx hb dL_law_1122 ?_
  refine l_sld hx hb hX hbl hbA hS0 (k := n + 1) (v := v1) (by omega) (by omega) hLb ev1 dL_law_1123 ?_
  refine lv_aload_n hx hb dL_law_1124 rfl (lv_at hl 4 rfl) ?_
  refine lv_iload hx hb dL_law_1125 (lv_at hl 0 rfl) ?_
  refine z_iconst hx hb dL_law_1127 ?_
  refine z_iadd hx hb dL_law_1128 ?_
  refine l_sld hx hb hX hbl hbA hS0 (k := n + 2) (v := v2) (by omega) (by omega) hLb ev2 dL_law_1129 ?_
  refine lv_aload_n hx hb dL_law_1130 rfl (lv_at hl 4 rfl) ?_
  refine lv_iload hx hb dL_law_1131 (lv_at hl 0 rfl) ?_
  refine z_iconst hx hb dL_law_1133 ?_
  refine z_iadd hx hb dL_law_1134 ?_
  refine l_sld hx hb hX hbl hbA hS0 (k := n + 3) (v := v3) (by omega) (by omega) hLb ev3 dL_law_1135 ?_
  refine lv_aload_n hx hb dL_law_1136 rfl (lv_at hl 4 rfl) ?_
  refine lv_iload hx hb dL_law_1137 (lv_at hl 0 rfl) ?_
  refine z_iconst hx hb dL_law_1139 ?_
  refine z_iadd hx hb dL_law_1140 ?_
  refine l_sld hx hb hX hbl hbA hS0 (k := n + 4) (v := v4) (by omega) (by omega) hLb ev4 dL_law_1141 ?_
  refine l_Ci (va_runV (As := [.int (iI v1), .int (iI v2), .int (iI v3), .int (iI v4)]) (rest := []) ⟨hx, hb, hml, hown, hts⟩ (x_heads l D dA s.heap.size MC0 v1 v2 v3 v4 rv1 rv2 rv3 rv4) (cwV 4 hts (z_gV k683 k684 k685 k1 k686) rfl rfl rfl dm_X11_heads ⟨(Nat.le_of_ble_eq_true rfl), (Nat.le_of_ble_eq_true rfl)⟩) ⟨zP_blind, z_recv (ls_C hS) hK.1 (by decide) (zkd_of (rfl : zcd wC 0 = 0) rfl) (by decide) (rfl : vwCl[11]? = some (RX11, TX11, 11)), z_pre (ls_C hS) hK⟩ rfl rfl hl.1 rfl (lv_room (Nat.le_of_ble_eq_true rfl)) dL_law_1142 ⟨(by show cells + 0 ≤ 600002; omega), (by show slots + 0 ≤ 7302232; omega)⟩) hS hS0 (fun z1 M2 H locs r3 hp4 hF5 hS hS0 => ?_)
  refine lv_aload_n hx hb dL_law_1145 rfl (lv_at hl 2 rfl) ?_
  refine lv_aload_n hx hb dL_law_1146 rfl (lv_at hl 4 rfl) ?_
  refine lv_iload hx hb dL_law_1147 (lv_at hl 0 rfl) ?_
  refine z_iconst hx hb dL_law_1149 ?_
  refine z_iadd hx hb dL_law_1150 ?_
  refine l_sld hx hb hX hbl hbA hS0 (k := n + 1) (v := v1) (by omega) (by omega) hLb ev1 dL_law_1151 ?_
  refine lv_aload_n hx hb dL_law_1152 rfl (lv_at hl 4 rfl) ?_
  refine lv_iload hx hb dL_law_1153 (lv_at hl 0 rfl) ?_
  refine z_iconst hx hb dL_law_1155 ?_
  refine z_iadd hx hb dL_law_1156 ?_
  refine l_sld hx hb hX hbl hbA hS0 (k := n + 2) (v := v2) (by omega) (by omega) hLb ev2 dL_law_1157 ?_
  refine lv_aload_n hx hb dL_law_1158 rfl (lv_at hl 4 rfl) ?_
  refine lv_iload hx hb dL_law_1159 (lv_at hl 0 rfl) ?_
  refine z_iconst hx hb dL_law_1161 ?_
  refine z_iadd hx hb dL_law_1162 ?_
  refine l_sld hx hb hX hbl hbA hS0 (k := n + 3) (v := v3) (by omega) (by omega) hLb ev3 dL_law_1163 ?_
  refine lv_aload_n hx hb dL_law_1164 rfl (lv_at hl 4 rfl) ?_
  refine lv_iload hx hb dL_law_1165 (lv_at hl 0 rfl) ?_
  refine z_iconst hx hb dL_law_1167 ?_
  refine z_iadd hx hb dL_law_1168 ?_
  refine l_sld hx hb hX hbl hbA hS0 (k := n + 4) (v := v4) (by omega) (by omega) hLb ev4 dL_law_1169 ?_
  refine l_Ri (va_runV (As := [.int (iI v1), .int (iI v2), .int (iI v3), .int (iI v4)]) (rest := [.int (iI z1)]) ⟨hx, hb, hml, hown, hts⟩ (m_heads l D dA (s.heap.size + 134) MR0 v1 v2 v3 v4 rv1 rv2 rv3 rv4) (cwV 4 hts (z_gV k1246 k1247 k1248 k14 k1249) rfl rfl rfl dm_X12_heads ⟨(Nat.le_of_ble_eq_true rfl), (Nat.le_of_ble_eq_true rfl)⟩) ⟨zP_blind, z_recv (ls_R hS) hK.1 (by decide) (zkd_of (rfl : zcd wR 0 = 50) rfl) (by decide) (rfl : vwCl[12]? = some (RX12, TX12, 50)), z_pre (ls_R hS) hK⟩ rfl rfl hl.1 rfl (lv_room (Nat.le_of_ble_eq_true rfl)) dL_law_1170 ⟨(by show cells + 0 ≤ 600002; omega), (by show slots + 0 ≤ 7302232; omega)⟩) hS hS0 (fun z6 M7 H locs r8 hp9 hF10 hS hS0 => ?_)
  refine z_icmp_eq (tgt := 1671) hx hb r3 r8 dL_law_1173 (by decide) (fun _ => ?_) (fun c9 => absurd (show z1 = z6 from by omega) c9)
  exact kk H locs _ _ ls (by omega) (by omega) hS0 (lv_sub hl [0, 1, 2, 3, 4] rfl)

set_option maxHeartbeats 4000000 in
set_option maxRecDepth 100000 in
theorem lc_26 {p : Program} {e : Env} {s : State} {m : MethodId} {below : List Frame} {meth : Method} {c : Code} {l : Launch} (hst : l.stackTraces = false) {b0 L n : Nat} {xs : Nat → Int32} (hL : L ≤ 5) (C0 : lw_At p s m meth c b0 L xs) {D : va_G} {dA : Nat → ClassId} (hK : zKK D vwCl (z_tys dA) s) (hTw : zTw s) (hZ0 : zZ (yA s.heap.size) s s.heap) (hn : n + 5 ≤ L) {H : Heap} {locs : List Loc} {cells slots : Nat} {ls : Array Slot} {MO : zM} (hS : LWS D dA s.heap.size MC0 MR0 MO H) (hS0 : va_S (yA s.heap.size) s.heap H locs) (hl : lv_has ls 8 [(4, .int (iI (n : Int))), (3, .ref (s.heap.size + 168 + 0)), (2, .ref (s.heap.size + 134 + 0)), (1, .ref (s.heap.size + 0)), (0, .ref b0)]) (hcc : cells + 1 ≤ 600002) (hss : slots + 6 ≤ 7302232)
    (kk : ∀ (H1 : Heap) (locs1 : List Loc) (c1 s1 : Nat) (ls1 : Array Slot), c1 ≤ cells + 1 → s1 ≤ slots + 6 → va_S (yA s.heap.size) s.heap H1 locs1 → lv_has ls1 8 [(4, .int (iI (n : Int))), (3, .ref (s.heap.size + 168 + 0)), (2, .ref (s.heap.size + 134 + 0)), (1, .ref (s.heap.size + 0)), (0, .ref b0)] → W p l e room_1 s m #[Value.ref b0] below meth c H1 locs1 c1 s1 (lw_Z below #[Value.ref b0] s) (F0 m 1671 ls1 [])) :
    W p l e room_1 s m #[Value.ref b0] below meth c H locs cells slots (lw_Z below #[Value.ref b0] s) (F0 m 1178 ls []) := by
  obtain ⟨hx, hb, hr, hml, hown, htsL, hX, hbl, hlocks, hgv⟩ := id C0
  have hts := l_hts htsL
  have hbA : ¬ yA s.heap.size b0 := Nat.not_le.mpr hbl
  have hLb : L < 2147483648 := by omega
  obtain ⟨v1, rv1, ev1⟩ := iI_of (xs (n + 1))
  refine lv_aload_n hx hb dL_law_1178 rfl (lv_at hl 3 rfl) ?_
  refine lv_aload_n hx hb dL_law_1179 rfl (lv_at hl 4 rfl) ?_
  refine lv_iload hx hb dL_law_1180 (lv_at hl 0 rfl) ?_
  refine z_iconst hx hb dL_law_1182 ?_
  refine z_iadd hx hb dL_law_1183 ?_
  refine l_sld hx hb hX hbl hbA hS0 (k := n + 1) (v := v1) (by omega) (by omega) hLb ev1 dL_law_1184 ?_
  refine l_Ci (va_runV (As := [.int (iI v1)]) (rest := []) ⟨hx, hb, hml, hown, hts⟩ (x_stop l D dA s.heap.size MC0 v1 rv1 gC_78_0) (cwV 1 hts (z_gV k691 k692 k693 k1 k694) rfl rfl rfl dm_X11_stop ⟨(Nat.le_of_ble_eq_true rfl), (Nat.le_of_ble_eq_true rfl)⟩) ⟨zP_blind, z_recv (ls_C hS) hK.1 (by decide) (zkd_of (rfl : zcd wC 0 = 0) rfl) (by decide) (rfl : vwCl[11]? = some (RX11, TX11, 11)), z_pre (ls_C hS) hK⟩ rfl rfl hl.1 rfl (lv_room (Nat.le_of_ble_eq_true rfl)) dL_law_1185 ⟨(by show cells + 0 ≤ 600002; omega), (by show slots + 0 ≤ 7302232; omega)⟩) hS hS0 (fun z1 M2 H locs r3 hp4 hF5 hS hS0 => ?_)
  refine lv_aload_n hx hb dL_law_1188 rfl (lv_at hl 2 rfl) ?_
  refine lv_aload_n hx hb dL_law_1189 rfl (lv_at hl 4 rfl) ?_
  refine lv_iload hx hb dL_law_1190 (lv_at hl 0 rfl) ?_
  refine z_iconst hx hb dL_law_1192 ?_
  refine z_iadd hx hb dL_law_1193 ?_
  refine l_sld hx hb hX hbl hbA hS0 (k := n + 1) (v := v1) (by omega) (by omega) hLb ev1 dL_law_1194 ?_
  refine l_Ri (va_runV (As := [.int (iI v1)]) (rest := [.int (iI z1)]) ⟨hx, hb, hml, hown, hts⟩ (m_stop l D dA (s.heap.size + 134) MR0 v1 rv1 gR_0_22) (cwV 1 hts (z_gV k1250 k1251 k1252 k14 k1253) rfl rfl rfl dm_X12_stop ⟨(Nat.le_of_ble_eq_true rfl), (Nat.le_of_ble_eq_true rfl)⟩) ⟨zP_blind, z_recv (ls_R hS) hK.1 (by decide) (zkd_of (rfl : zcd wR 0 = 50) rfl) (by decide) (rfl : vwCl[12]? = some (RX12, TX12, 50)), z_pre (ls_R hS) hK⟩ rfl rfl hl.1 rfl (lv_room (Nat.le_of_ble_eq_true rfl)) dL_law_1195 ⟨(by show cells + 0 ≤ 600002; omega), (by show slots + 0 ≤ 7302232; omega)⟩) hS hS0 (fun z6 M7 H locs r8 hp9 hF10 hS hS0 => ?_)
  refine z_icmp_eq (tgt := 1671) hx hb r3 r8 dL_law_1198 (by decide) (fun _ => ?_) (fun c9 => absurd (show z1 = z6 from by omega) c9)
  exact kk H locs _ _ ls (by omega) (by omega) hS0 (lv_sub hl [0, 1, 2, 3, 4] rfl)

set_option maxHeartbeats 4000000 in
set_option maxRecDepth 100000 in
theorem lc_27 {p : Program} {e : Env} {s : State} {m : MethodId} {below : List Frame} {meth : Method} {c : Code} {l : Launch} (hst : l.stackTraces = false) {b0 L n : Nat} {xs : Nat → Int32} (hL : L ≤ 5) (C0 : lw_At p s m meth c b0 L xs) {D : va_G} {dA : Nat → ClassId} (hK : zKK D vwCl (z_tys dA) s) (hTw : zTw s) (hZ0 : zZ (yA s.heap.size) s s.heap) (hn : n + 5 ≤ L) {H : Heap} {locs : List Loc} {cells slots : Nat} {ls : Array Slot} {MO : zM} (hS : LWS D dA s.heap.size MC0 MR0 MO H) (hS0 : va_S (yA s.heap.size) s.heap H locs) (hl : lv_has ls 8 [(4, .int (iI (n : Int))), (3, .ref (s.heap.size + 168 + 0)), (2, .ref (s.heap.size + 134 + 0)), (1, .ref (s.heap.size + 0)), (0, .ref b0)]) (hcc : cells + 1 ≤ 600002) (hss : slots + 6 ≤ 7302232)
    (kk : ∀ (H1 : Heap) (locs1 : List Loc) (c1 s1 : Nat) (ls1 : Array Slot), c1 ≤ cells + 1 → s1 ≤ slots + 6 → va_S (yA s.heap.size) s.heap H1 locs1 → lv_has ls1 8 [(4, .int (iI (n : Int))), (3, .ref (s.heap.size + 168 + 0)), (2, .ref (s.heap.size + 134 + 0)), (1, .ref (s.heap.size + 0)), (0, .ref b0)] → W p l e room_1 s m #[Value.ref b0] below meth c H1 locs1 c1 s1 (lw_Z below #[Value.ref b0] s) (F0 m 1671 ls1 [])) :
    W p l e room_1 s m #[Value.ref b0] below meth c H locs cells slots (lw_Z below #[Value.ref b0] s) (F0 m 1203 ls []) := by
  obtain ⟨hx, hb, hr, hml, hown, htsL, hX, hbl, hlocks, hgv⟩ := id C0
  have hts := l_hts htsL
  have hbA : ¬ yA s.heap.size b0 := Nat.not_le.mpr hbl
  have hLb : L < 2147483648 := by omega
  obtain ⟨v1, rv1, ev1⟩ := iI_of (xs (n + 1))
  refine lv_aload_n hx hb dL_law_1203 rfl (lv_at hl 3 rfl) ?_
  refine lv_aload_n hx hb dL_law_1204 rfl (lv_at hl 4 rfl) ?_
  refine lv_iload hx hb dL_law_1205 (lv_at hl 0 rfl) ?_
  refine z_iconst hx hb dL_law_1207 ?_
  refine z_iadd hx hb dL_law_1208 ?_
  refine l_sld hx hb hX hbl hbA hS0 (k := n + 1) (v := v1) (by omega) (by omega) hLb ev1 dL_law_1209 ?_
  refine l_Ci (va_runV (As := [.int (iI v1)]) (rest := []) ⟨hx, hb, hml, hown, hts⟩ (n_out l D dA s.heap.size MC0 v1 rv1 gC_32_2 gC_78_0 gC_78_3 gC_78_4 gC_78_5 gC_78_6) (cwV 1 hts (z_gV k695 k696 k697 k1 k698) rfl rfl rfl dm_X11_out ⟨(Nat.le_of_ble_eq_true rfl), (Nat.le_of_ble_eq_true rfl)⟩) ⟨zP_blind, z_recv (ls_C hS) hK.1 (by decide) (zkd_of (rfl : zcd wC 0 = 0) rfl) (by decide) (rfl : vwCl[11]? = some (RX11, TX11, 11)), z_pre (ls_C hS) hK⟩ rfl rfl hl.1 rfl (lv_room (Nat.le_of_ble_eq_true rfl)) dL_law_1210 ⟨(by show cells + 0 ≤ 600002; omega), (by show slots + 0 ≤ 7302232; omega)⟩) hS hS0 (fun z1 M2 H locs r3 hp4 hF5 hS hS0 => ?_)
  refine lv_aload_n hx hb dL_law_1213 rfl (lv_at hl 2 rfl) ?_
  refine lv_aload_n hx hb dL_law_1214 rfl (lv_at hl 4 rfl) ?_
  refine lv_iload hx hb dL_law_1215 (lv_at hl 0 rfl) ?_
  refine z_iconst hx hb dL_law_1217 ?_
  refine z_iadd hx hb dL_law_1218 ?_
  refine l_sld hx hb hX hbl hbA hS0 (k := n + 1) (v := v1) (by omega) (by omega) hLb ev1 dL_law_1219 ?_
  refine l_Ri (va_runV (As := [.int (iI v1)]) (rest := [.int (iI z1)]) ⟨hx, hb, hml, hown, hts⟩ (m_out l D dA (s.heap.size + 134) MR0 v1 rv1 gR_0_22 gR_0_18 gR_0_19 gR_0_20 gR_0_21 gR_0_10) (cwV 1 hts (z_gV k1254 k1255 k1256 k14 k1257) rfl rfl rfl dm_X12_out ⟨(Nat.le_of_ble_eq_true rfl), (Nat.le_of_ble_eq_true rfl)⟩) ⟨zP_blind, z_recv (ls_R hS) hK.1 (by decide) (zkd_of (rfl : zcd wR 0 = 50) rfl) (by decide) (rfl : vwCl[12]? = some (RX12, TX12, 50)), z_pre (ls_R hS) hK⟩ rfl rfl hl.1 rfl (lv_room (Nat.le_of_ble_eq_true rfl)) dL_law_1220 ⟨(by show cells + 0 ≤ 600002; omega), (by show slots + 0 ≤ 7302232; omega)⟩) hS hS0 (fun z6 M7 H locs r8 hp9 hF10 hS hS0 => ?_)
  refine z_icmp_eq (tgt := 1671) hx hb r3 r8 dL_law_1223 (by decide) (fun _ => ?_) (fun c9 => absurd (show z1 = z6 from by omega) c9)
  exact kk H locs _ _ ls (by omega) (by omega) hS0 (lv_sub hl [0, 1, 2, 3, 4] rfl)

set_option maxHeartbeats 4000000 in
set_option maxRecDepth 100000 in
theorem lc_28 {p : Program} {e : Env} {s : State} {m : MethodId} {below : List Frame} {meth : Method} {c : Code} {l : Launch} (hst : l.stackTraces = false) {b0 L n : Nat} {xs : Nat → Int32} (hL : L ≤ 5) (C0 : lw_At p s m meth c b0 L xs) {D : va_G} {dA : Nat → ClassId} (hK : zKK D vwCl (z_tys dA) s) (hTw : zTw s) (hZ0 : zZ (yA s.heap.size) s s.heap) (hn : n + 5 ≤ L) {H : Heap} {locs : List Loc} {cells slots : Nat} {ls : Array Slot} {MO : zM} (hS : LWS D dA s.heap.size MC0 MR0 MO H) (hS0 : va_S (yA s.heap.size) s.heap H locs) (hl : lv_has ls 8 [(4, .int (iI (n : Int))), (3, .ref (s.heap.size + 168 + 0)), (2, .ref (s.heap.size + 134 + 0)), (1, .ref (s.heap.size + 0)), (0, .ref b0)]) (hcc : cells + 1 ≤ 600002) (hss : slots + 6 ≤ 7302232)
    (kk : ∀ (H1 : Heap) (locs1 : List Loc) (c1 s1 : Nat) (ls1 : Array Slot), c1 ≤ cells + 1 → s1 ≤ slots + 6 → va_S (yA s.heap.size) s.heap H1 locs1 → lv_has ls1 8 [(4, .int (iI (n : Int))), (3, .ref (s.heap.size + 168 + 0)), (2, .ref (s.heap.size + 134 + 0)), (1, .ref (s.heap.size + 0)), (0, .ref b0)] → W p l e room_1 s m #[Value.ref b0] below meth c H1 locs1 c1 s1 (lw_Z below #[Value.ref b0] s) (F0 m 1671 ls1 [])) :
    W p l e room_1 s m #[Value.ref b0] below meth c H locs cells slots (lw_Z below #[Value.ref b0] s) (F0 m 1228 ls []) := by
  obtain ⟨hx, hb, hr, hml, hown, htsL, hX, hbl, hlocks, hgv⟩ := id C0
  have hts := l_hts htsL
  have hbA : ¬ yA s.heap.size b0 := Nat.not_le.mpr hbl
  have hLb : L < 2147483648 := by omega
  refine lv_aload_n hx hb dL_law_1228 rfl (lv_at hl 3 rfl) ?_
  refine l_Ci (va_runV (As := []) (rest := []) ⟨hx, hb, hml, hown, hts⟩ (x_dies l D dA s.heap.size MC0 gC_32_2 gC_78_0 gC_78_3 gC_78_4 gC_78_5 gC_78_6) (cwV 0 hts (z_gV k716 k717 k718 k1 k719) rfl rfl rfl dm_X11_dies ⟨(Nat.le_of_ble_eq_true rfl), (Nat.le_of_ble_eq_true rfl)⟩) ⟨zP_blind, z_recv (ls_C hS) hK.1 (by decide) (zkd_of (rfl : zcd wC 0 = 0) rfl) (by decide) (rfl : vwCl[11]? = some (RX11, TX11, 11)), z_pre (ls_C hS) hK⟩ rfl rfl hl.1 rfl (lv_room (Nat.le_of_ble_eq_true rfl)) dL_law_1229 ⟨(by show cells + 0 ≤ 600002; omega), (by show slots + 0 ≤ 7302232; omega)⟩) hS hS0 (fun z1 M2 H locs r3 hp4 hF5 hS hS0 => ?_)
  refine lv_aload_n hx hb dL_law_1232 rfl (lv_at hl 2 rfl) ?_
  refine l_Ri (va_runV (As := []) (rest := [.int (iI z1)]) ⟨hx, hb, hml, hown, hts⟩ (m_dies l D dA (s.heap.size + 134) MR0 gR_0_22 gR_0_18 gR_0_19 gR_0_20 gR_0_21 gR_0_10) (cwV 0 hts (z_gV k1261 k1262 k1263 k14 k1264) rfl rfl rfl dm_X12_dies ⟨(Nat.le_of_ble_eq_true rfl), (Nat.le_of_ble_eq_true rfl)⟩) ⟨zP_blind, z_recv (ls_R hS) hK.1 (by decide) (zkd_of (rfl : zcd wR 0 = 50) rfl) (by decide) (rfl : vwCl[12]? = some (RX12, TX12, 50)), z_pre (ls_R hS) hK⟩ rfl rfl hl.1 rfl (lv_room (Nat.le_of_ble_eq_true rfl)) dL_law_1233 ⟨(by show cells + 0 ≤ 600002; omega), (by show slots + 0 ≤ 7302232; omega)⟩) hS hS0 (fun z6 M7 H locs r8 hp9 hF10 hS hS0 => ?_)
  refine z_icmp_eq (tgt := 1671) hx hb r3 r8 dL_law_1236 (by decide) (fun _ => ?_) (fun c9 => absurd (show z1 = z6 from by omega) c9)
  exact kk H locs _ _ ls (by omega) (by omega) hS0 (lv_sub hl [0, 1, 2, 3, 4] rfl)

set_option maxHeartbeats 4000000 in
set_option maxRecDepth 100000 in
theorem lc_29 {p : Program} {e : Env} {s : State} {m : MethodId} {below : List Frame} {meth : Method} {c : Code} {l : Launch} (hst : l.stackTraces = false) {b0 L n : Nat} {xs : Nat → Int32} (hL : L ≤ 5) (C0 : lw_At p s m meth c b0 L xs) {D : va_G} {dA : Nat → ClassId} (hK : zKK D vwCl (z_tys dA) s) (hTw : zTw s) (hZ0 : zZ (yA s.heap.size) s s.heap) (hn : n + 5 ≤ L) {H : Heap} {locs : List Loc} {cells slots : Nat} {ls : Array Slot} {MO : zM} (hS : LWS D dA s.heap.size MC0 MR0 MO H) (hS0 : va_S (yA s.heap.size) s.heap H locs) (hl : lv_has ls 8 [(4, .int (iI (n : Int))), (3, .ref (s.heap.size + 168 + 0)), (2, .ref (s.heap.size + 134 + 0)), (1, .ref (s.heap.size + 0)), (0, .ref b0)]) (hcc : cells + 1 ≤ 600002) (hss : slots + 6 ≤ 7302232)
    (kk : ∀ (H1 : Heap) (locs1 : List Loc) (c1 s1 : Nat) (ls1 : Array Slot), c1 ≤ cells + 1 → s1 ≤ slots + 6 → va_S (yA s.heap.size) s.heap H1 locs1 → lv_has ls1 8 [(4, .int (iI (n : Int))), (3, .ref (s.heap.size + 168 + 0)), (2, .ref (s.heap.size + 134 + 0)), (1, .ref (s.heap.size + 0)), (0, .ref b0)] → W p l e room_1 s m #[Value.ref b0] below meth c H1 locs1 c1 s1 (lw_Z below #[Value.ref b0] s) (F0 m 1671 ls1 [])) :
    W p l e room_1 s m #[Value.ref b0] below meth c H locs cells slots (lw_Z below #[Value.ref b0] s) (F0 m 1241 ls []) := by
  obtain ⟨hx, hb, hr, hml, hown, htsL, hX, hbl, hlocks, hgv⟩ := id C0
  have hts := l_hts htsL
  have hbA : ¬ yA s.heap.size b0 := Nat.not_le.mpr hbl
  have hLb : L < 2147483648 := by omega
  obtain ⟨v1, rv1, ev1⟩ := iI_of (xs (n + 1))
  refine lv_aload_n hx hb dL_law_1241 rfl (lv_at hl 3 rfl) ?_
  refine lv_aload_n hx hb dL_law_1242 rfl (lv_at hl 4 rfl) ?_
  refine lv_iload hx hb dL_law_1243 (lv_at hl 0 rfl) ?_
  refine z_iconst hx hb dL_law_1245 ?_
  refine z_iadd hx hb dL_law_1246 ?_
  refine l_sld hx hb hX hbl hbA hS0 (k := n + 1) (v := v1) (by omega) (by omega) hLb ev1 dL_law_1247 ?_
  refine l_Ci (va_runV (As := [.int (iI v1)]) (rest := []) ⟨hx, hb, hml, hown, hts⟩ (x_tape l D dA s.heap.size MC0 v1 rv1 gC_82_1) (cwV 1 hts (z_gV k734 k735 k736 k1 k737) rfl rfl rfl dm_X11_tape ⟨(Nat.le_of_ble_eq_true rfl), (Nat.le_of_ble_eq_true rfl)⟩) ⟨zP_blind, z_recv (ls_C hS) hK.1 (by decide) (zkd_of (rfl : zcd wC 0 = 0) rfl) (by decide) (rfl : vwCl[11]? = some (RX11, TX11, 11)), z_pre (ls_C hS) hK⟩ rfl rfl hl.1 rfl (lv_room (Nat.le_of_ble_eq_true rfl)) dL_law_1248 ⟨(by show cells + 0 ≤ 600002; omega), (by show slots + 0 ≤ 7302232; omega)⟩) hS hS0 (fun z1 M2 H locs r3 hp4 hF5 hS hS0 => ?_)
  refine lv_aload_n hx hb dL_law_1251 rfl (lv_at hl 2 rfl) ?_
  refine lv_aload_n hx hb dL_law_1252 rfl (lv_at hl 4 rfl) ?_
  refine lv_iload hx hb dL_law_1253 (lv_at hl 0 rfl) ?_
  refine z_iconst hx hb dL_law_1255 ?_
  refine z_iadd hx hb dL_law_1256 ?_
  refine l_sld hx hb hX hbl hbA hS0 (k := n + 1) (v := v1) (by omega) (by omega) hLb ev1 dL_law_1257 ?_
  refine l_Ri (va_runV (As := [.int (iI v1)]) (rest := [.int (iI z1)]) ⟨hx, hb, hml, hown, hts⟩ (m_tape l D dA (s.heap.size + 134) MR0 v1 rv1 gR_0_24) (cwV 1 hts (z_gV k1268 k1269 k1270 k14 k1271) rfl rfl rfl dm_X12_tape ⟨(Nat.le_of_ble_eq_true rfl), (Nat.le_of_ble_eq_true rfl)⟩) ⟨zP_blind, z_recv (ls_R hS) hK.1 (by decide) (zkd_of (rfl : zcd wR 0 = 50) rfl) (by decide) (rfl : vwCl[12]? = some (RX12, TX12, 50)), z_pre (ls_R hS) hK⟩ rfl rfl hl.1 rfl (lv_room (Nat.le_of_ble_eq_true rfl)) dL_law_1258 ⟨(by show cells + 0 ≤ 600002; omega), (by show slots + 0 ≤ 7302232; omega)⟩) hS hS0 (fun z6 M7 H locs r8 hp9 hF10 hS hS0 => ?_)
  refine z_icmp_eq (tgt := 1671) hx hb r3 r8 dL_law_1261 (by decide) (fun _ => ?_) (fun c9 => absurd (show z1 = z6 from by rcases hp4 with ⟨h6, h7⟩ | ⟨h6, h7⟩ <;> rcases hp9 with ⟨h8, h9⟩ | ⟨h8, h9⟩ <;> first | (rw [h7, h9]; done) | exact absurd h6 h8 | exact absurd h8 h6) c9)
  exact kk H locs _ _ ls (by omega) (by omega) hS0 (lv_sub hl [0, 1, 2, 3, 4] rfl)
