set_option maxHeartbeats 4000000 in
set_option maxRecDepth 100000 in
theorem law_end {p : Program} {e : Env} {s : State} {m : MethodId} {below : List Frame} {meth : Method} {c : Code} {l : Launch} {b0 L n : Nat} {xs : Nat → Int32} (hL : L ≤ 2560) (C0 : lw_At p s m meth c b0 L xs) (hn : L < n + 5) (hn2 : n ≤ L) {H : Heap} {locs : List Loc} {cells slots : Nat} {ls : Array Slot} (hS0 : va_S (yA s.heap.size) s.heap H locs) (hl : lv_has ls 8 [(4, .int (iI (n : Int))), (3, .ref (s.heap.size + 168 + 0)), (2, .ref (s.heap.size + 134 + 0)), (1, .ref (s.heap.size + 0)), (0, .ref b0)]) (hcc : cells ≤ 601024) (hss : slots ≤ 7293034) :
    W p l e room_1 s m #[Value.ref b0] below meth c H locs cells slots (lw_Z below #[Value.ref b0] s) (F0 m 23 ls []) := by
  obtain ⟨hx, hb, hr, hml, hown, htsL, hX, hbl, hlocks, hgv⟩ := id C0
  have hts := l_hts htsL
  have hbA : ¬ yA s.heap.size b0 := Nat.not_le.mpr hbl
  have hLb : L < 2147483648 := by omega
  refine lv_iload hx hb dL_law_23 (lv_at hl 0 rfl) ?_
  refine lv_aload_n hx hb dL_law_25 rfl (lv_at hl 4 rfl) ?_
  refine l_slen hx hb hX hbl hbA hS0 dL_law_26 ?_
  refine z_iconst hx hb dL_law_27 ?_
  refine z_isub hx hb dL_law_28 ?_
  refine z_icmp_gt (tgt := 1591) hx hb ⟨by omega, by omega⟩ ⟨by omega, by omega⟩ dL_law_29 (by decide) (fun _ => ?_) (fun c9 => absurd c9 (by omega))
  refine z_iconst hx hb dL_law_1591 ?_
  refine va_forget (fun q hq => hS0.2.2 q hq) ?_
  refine W.widen (k := 601024) (n := 7293034) hcc hss ?_
  exact lw_ret hx hb hr hlocks dL_law_1592
set_option maxHeartbeats 4000000 in
set_option maxRecDepth 100000 in
theorem law_loop {p : Program} {e : Env} {s : State} {m : MethodId} {below : List Frame} {meth : Method} {c : Code} {l : Launch} (hst : l.stackTraces = false) {b0 L : Nat} {xs : Nat → Int32} (hL : L ≤ 2560) (C0 : lw_At p s m meth c b0 L xs) {D : va_G} {dA : Nat → ClassId} (hK : zKK D vwCl (z_tys dA) s) (hTw : zTw s) (hZ0 : zZ (yA s.heap.size) s s.heap) :
    ∀ (k n : Nat) (MC MR MO : zM) (H : Heap) (locs : List Loc) (cells slots : Nat) (ls : Array Slot), n ≤ L → L < n + 5 * k + 5 → INV MC MR → LW3 D dA s.heap.size MC MR MO H → va_S (yA s.heap.size) s.heap H locs → lv_has ls 8 [(4, .int (iI (n : Int))), (3, .ref (s.heap.size + 168 + 0)), (2, .ref (s.heap.size + 134 + 0)), (1, .ref (s.heap.size + 0)), (0, .ref b0)] → cells + k ≤ 601024 → slots + 6 * k ≤ 7293034 →
    W p l e room_1 s m #[Value.ref b0] below meth c H locs cells slots (lw_Z below #[Value.ref b0] s) (F0 m 23 ls []) := by
  intro k
  induction k with
  | zero => intro n MC MR MO H locs cells slots ls h1 h2 hI hS hS0 hl hc hs; exact law_end hL C0 (by omega) h1 hS0 hl (by omega) (by omega)
  | succ k ih =>
    intro n MC MR MO H locs cells slots ls h1 h2 hI hS hS0 hl hc hs
    by_cases hn5 : n + 5 ≤ L
    case neg => exact law_end hL C0 (by omega) h1 hS0 hl (by omega) (by omega)
    obtain ⟨hx, hb, hr, hml, hown, htsL, hX, hbl, hlocks, hgv⟩ := id C0
    have hts := l_hts htsL
    have hbA : ¬ yA s.heap.size b0 := Nat.not_le.mpr hbl
    have hLb : L < 2147483648 := by omega
    refine lv_iload hx hb dL_law_23 (lv_at hl 0 rfl) ?_
    refine lv_aload_n hx hb dL_law_25 rfl (lv_at hl 4 rfl) ?_
    refine l_slen hx hb hX hbl hbA hS0 dL_law_26 ?_
    refine z_iconst hx hb dL_law_27 ?_
    refine z_isub hx hb dL_law_28 ?_
    refine z_icmp_gt (tgt := 1591) hx hb ⟨by omega, by omega⟩ ⟨by omega, by omega⟩ dL_law_29 (by decide) (fun c9 => absurd c9 (by omega)) (fun _ => ?_)
    refine lv_aload_n hx hb dL_law_32 rfl (lv_at hl 4 rfl) ?_
    refine lv_iload hx hb dL_law_33 (lv_at hl 0 rfl) ?_
    obtain ⟨v0, r0, e0⟩ := iI_of (xs n)
    refine l_sld hx hb hX hbl hbA hS0 (k := n) (v := v0) rfl (by omega) hLb e0 dL_law_35 ?_
    refine z_bipush hx hb (by decide) dL_law_36 ?_
    refine z_iand hx hb dL_law_38 (fun z9 rz9 ez9 => ?_)
    obtain ⟨hlo, hhi⟩ := zand_r (by decide) (by decide) rz9 ez9
    have K9 : ∀ (MC1 MR1 MO1 : zM) (H1 : Heap) (locs1 : List Loc) (c1 s1 : Nat) (ls1 : Array Slot), INV MC1 MR1 → LW3 D dA s.heap.size MC1 MR1 MO1 H1 → c1 ≤ cells + 1 → s1 ≤ slots + 6 → va_S (yA s.heap.size) s.heap H1 locs1 → lv_has ls1 8 [(4, .int (iI (n : Int))), (3, .ref (s.heap.size + 168 + 0)), (2, .ref (s.heap.size + 134 + 0)), (1, .ref (s.heap.size + 0)), (0, .ref b0)] → W p l e room_1 s m #[Value.ref b0] below meth c H1 locs1 c1 s1 (lw_Z below #[Value.ref b0] s) (F0 m 1585 ls1 []) := by
      intro MC1 MR1 MO1 H1 locs1 c1 s1 ls1 hI1 hS1 a1 a2 a3 a4
      refine z_iinc (lv' := [(4, .int (iI ((n : Int) + 5))), (3, .ref (s.heap.size + 168 + 0)), (2, .ref (s.heap.size + 134 + 0)), (1, .ref (s.heap.size + 0)), (0, .ref b0)]) hx hb dL_law_1585 a4 (k := 0) rfl (by decide) rfl (fun ls hl => ?_)
      refine lv_goto (tgt := 23) hx hb dL_law_1588 (by decide) ?_
      rw [show ((n : Int) + 5) = ((n + 5 : Nat) : Int) by omega] at hl
      exact ih (n + 5) MC1 MR1 MO1 H1 locs1 c1 s1 ls hn5 (by omega) hI1 hS1 a3 hl (by omega) (by omega)
    rcases Decidable.em (z9 = 0) with c9 | c9
    · refine z_tabIn (tgt := 228) hx hb rz9 c9 dL_law_39 (by decide) (by decide) rfl (by decide) ?_
      exact lc_0 hst hL C0 hK hTw hZ0 hn5 hI hS hS0 hl (by omega) (by omega) K9
    have hlo : 1 ≤ z9 := by omega
    rcases Decidable.em (z9 = 1) with c9 | c9
    · refine z_tabIn (tgt := 253) hx hb rz9 c9 dL_law_39 (by decide) (by decide) rfl (by decide) ?_
      exact lc_1 hst hL C0 hK hTw hZ0 hn5 hI hS hS0 hl (by omega) (by omega) K9
    have hlo : 2 ≤ z9 := by omega
    rcases Decidable.em (z9 = 2) with c9 | c9
    · refine z_tabIn (tgt := 278) hx hb rz9 c9 dL_law_39 (by decide) (by decide) rfl (by decide) ?_
      exact lc_2 hst hL C0 hK hTw hZ0 hn5 hI hS hS0 hl (by omega) (by omega) K9
    have hlo : 3 ≤ z9 := by omega
    rcases Decidable.em (z9 = 3) with c9 | c9
    · refine z_tabIn (tgt := 291) hx hb rz9 c9 dL_law_39 (by decide) (by decide) rfl (by decide) ?_
      exact lc_3 hst hL C0 hK hTw hZ0 hn5 hI hS hS0 hl (by omega) (by omega) K9
    have hlo : 4 ≤ z9 := by omega
    rcases Decidable.em (z9 = 4) with c9 | c9
    · refine z_tabIn (tgt := 316) hx hb rz9 c9 dL_law_39 (by decide) (by decide) rfl (by decide) ?_
      exact lc_4 hst hL C0 hK hTw hZ0 hn5 hI hS hS0 hl (by omega) (by omega) K9
    have hlo : 5 ≤ z9 := by omega
    rcases Decidable.em (z9 = 5) with c9 | c9
    · refine z_tabIn (tgt := 353) hx hb rz9 c9 dL_law_39 (by decide) (by decide) rfl (by decide) ?_
      exact lc_5 hst hL C0 hK hTw hZ0 hn5 hI hS hS0 hl (by omega) (by omega) K9
    have hlo : 6 ≤ z9 := by omega
    rcases Decidable.em (z9 = 6) with c9 | c9
    · refine z_tabIn (tgt := 402) hx hb rz9 c9 dL_law_39 (by decide) (by decide) rfl (by decide) ?_
      exact lc_6 hst hL C0 hK hTw hZ0 hn5 hI hS hS0 hl (by omega) (by omega) K9
    have hlo : 7 ≤ z9 := by omega
    rcases Decidable.em (z9 = 7) with c9 | c9
    · refine z_tabIn (tgt := 451) hx hb rz9 c9 dL_law_39 (by decide) (by decide) rfl (by decide) ?_
      exact lc_7 hst hL C0 hK hTw hZ0 hn5 hI hS hS0 hl (by omega) (by omega) K9
    have hlo : 8 ≤ z9 := by omega
    rcases Decidable.em (z9 = 8) with c9 | c9
    · refine z_tabIn (tgt := 516) hx hb rz9 c9 dL_law_39 (by decide) (by decide) rfl (by decide) ?_
      exact lc_8 hst hL C0 hK hTw hZ0 hn5 hI hS hS0 hl (by omega) (by omega) K9
    have hlo : 9 ≤ z9 := by omega
    rcases Decidable.em (z9 = 9) with c9 | c9
    · refine z_tabIn (tgt := 565) hx hb rz9 c9 dL_law_39 (by decide) (by decide) rfl (by decide) ?_
      exact lc_9 hst hL C0 hK hTw hZ0 hn5 hI hS hS0 hl (by omega) (by omega) K9
    have hlo : 10 ≤ z9 := by omega
    rcases Decidable.em (z9 = 10) with c9 | c9
    · refine z_tabIn (tgt := 578) hx hb rz9 c9 dL_law_39 (by decide) (by decide) rfl (by decide) ?_
      exact lc_10 hst hL C0 hK hTw hZ0 hn5 hI hS hS0 hl (by omega) (by omega) K9
    have hlo : 11 ≤ z9 := by omega
    rcases Decidable.em (z9 = 11) with c9 | c9
    · refine z_tabIn (tgt := 603) hx hb rz9 c9 dL_law_39 (by decide) (by decide) rfl (by decide) ?_
      exact lc_11 hst hL C0 hK hTw hZ0 hn5 hI hS hS0 hl (by omega) (by omega) K9
    have hlo : 12 ≤ z9 := by omega
    rcases Decidable.em (z9 = 12) with c9 | c9
    · refine z_tabIn (tgt := 643) hx hb rz9 c9 dL_law_39 (by decide) (by decide) rfl (by decide) ?_
      exact lc_12 hst hL C0 hK hTw hZ0 hn5 hI hS hS0 hl (by omega) (by omega) K9
    have hlo : 13 ≤ z9 := by omega
    rcases Decidable.em (z9 = 13) with c9 | c9
    · refine z_tabIn (tgt := 680) hx hb rz9 c9 dL_law_39 (by decide) (by decide) rfl (by decide) ?_
      exact lc_13 hst hL C0 hK hTw hZ0 hn5 hI hS hS0 hl (by omega) (by omega) K9
    have hlo : 14 ≤ z9 := by omega
    rcases Decidable.em (z9 = 14) with c9 | c9
    · refine z_tabIn (tgt := 720) hx hb rz9 c9 dL_law_39 (by decide) (by decide) rfl (by decide) ?_
      exact lc_14 hst hL C0 hK hTw hZ0 hn5 hI hS hS0 hl (by omega) (by omega) K9
    have hlo : 15 ≤ z9 := by omega
    rcases Decidable.em (z9 = 15) with c9 | c9
    · refine z_tabIn (tgt := 789) hx hb rz9 c9 dL_law_39 (by decide) (by decide) rfl (by decide) ?_
      exact lc_15 hst hL C0 hK hTw hZ0 hn5 hI hS hS0 hl (by omega) (by omega) K9
    have hlo : 16 ≤ z9 := by omega
    rcases Decidable.em (z9 = 16) with c9 | c9
    · refine z_tabIn (tgt := 802) hx hb rz9 c9 dL_law_39 (by decide) (by decide) rfl (by decide) ?_
      exact lc_16 hst hL C0 hK hTw hZ0 hn5 hI hS hS0 hl (by omega) (by omega) K9
    have hlo : 17 ≤ z9 := by omega
    rcases Decidable.em (z9 = 17) with c9 | c9
    · refine z_tabIn (tgt := 839) hx hb rz9 c9 dL_law_39 (by decide) (by decide) rfl (by decide) ?_
      exact lc_17 hst hL C0 hK hTw hZ0 hn5 hI hS hS0 hl (by omega) (by omega) K9
    have hlo : 18 ≤ z9 := by omega
    rcases Decidable.em (z9 = 18) with c9 | c9
    · refine z_tabIn (tgt := 896) hx hb rz9 c9 dL_law_39 (by decide) (by decide) rfl (by decide) ?_
      exact lc_18 hst hL C0 hK hTw hZ0 hn5 hI hS hS0 hl (by omega) (by omega) K9
    have hlo : 19 ≤ z9 := by omega
    rcases Decidable.em (z9 = 19) with c9 | c9
    · refine z_tabIn (tgt := 909) hx hb rz9 c9 dL_law_39 (by decide) (by decide) rfl (by decide) ?_
      exact lc_19 hst hL C0 hK hTw hZ0 hn5 hI hS hS0 hl (by omega) (by omega) K9
    have hlo : 20 ≤ z9 := by omega
    rcases Decidable.em (z9 = 20) with c9 | c9
    · refine z_tabIn (tgt := 946) hx hb rz9 c9 dL_law_39 (by decide) (by decide) rfl (by decide) ?_
      exact lc_20 hst hL C0 hK hTw hZ0 hn5 hI hS hS0 hl (by omega) (by omega) K9
    have hlo : 21 ≤ z9 := by omega
    rcases Decidable.em (z9 = 21) with c9 | c9
    · refine z_tabIn (tgt := 959) hx hb rz9 c9 dL_law_39 (by decide) (by decide) rfl (by decide) ?_
      exact lc_21 hst hL C0 hK hTw hZ0 hn5 hI hS hS0 hl (by omega) (by omega) K9
    have hlo : 22 ≤ z9 := by omega
    rcases Decidable.em (z9 = 22) with c9 | c9
    · refine z_tabIn (tgt := 972) hx hb rz9 c9 dL_law_39 (by decide) (by decide) rfl (by decide) ?_
      exact lc_22 hst hL C0 hK hTw hZ0 hn5 hI hS hS0 hl (by omega) (by omega) K9
    have hlo : 23 ≤ z9 := by omega
    rcases Decidable.em (z9 = 23) with c9 | c9
    · refine z_tabIn (tgt := 985) hx hb rz9 c9 dL_law_39 (by decide) (by decide) rfl (by decide) ?_
      exact lc_23 hst hL C0 hK hTw hZ0 hn5 hI hS hS0 hl (by omega) (by omega) K9
    have hlo : 24 ≤ z9 := by omega
    rcases Decidable.em (z9 = 24) with c9 | c9
    · refine z_tabIn (tgt := 1022) hx hb rz9 c9 dL_law_39 (by decide) (by decide) rfl (by decide) ?_
      exact lc_24 hst hL C0 hK hTw hZ0 hn5 hI hS hS0 hl (by omega) (by omega) K9
    have hlo : 25 ≤ z9 := by omega
    rcases Decidable.em (z9 = 25) with c9 | c9
    · refine z_tabIn (tgt := 1059) hx hb rz9 c9 dL_law_39 (by decide) (by decide) rfl (by decide) ?_
      exact lc_25 hst hL C0 hK hTw hZ0 hn5 hI hS hS0 hl (by omega) (by omega) K9
    have hlo : 26 ≤ z9 := by omega
    rcases Decidable.em (z9 = 26) with c9 | c9
    · refine z_tabIn (tgt := 1120) hx hb rz9 c9 dL_law_39 (by decide) (by decide) rfl (by decide) ?_
      exact lc_26 hst hL C0 hK hTw hZ0 hn5 hI hS hS0 hl (by omega) (by omega) K9
    have hlo : 27 ≤ z9 := by omega
    rcases Decidable.em (z9 = 27) with c9 | c9
    · refine z_tabIn (tgt := 1145) hx hb rz9 c9 dL_law_39 (by decide) (by decide) rfl (by decide) ?_
      exact lc_27 hst hL C0 hK hTw hZ0 hn5 hI hS hS0 hl (by omega) (by omega) K9
    have hlo : 28 ≤ z9 := by omega
    rcases Decidable.em (z9 = 28) with c9 | c9
    · refine z_tabIn (tgt := 1170) hx hb rz9 c9 dL_law_39 (by decide) (by decide) rfl (by decide) ?_
      exact lc_28 hst hL C0 hK hTw hZ0 hn5 hI hS hS0 hl (by omega) (by omega) K9
    have hlo : 29 ≤ z9 := by omega
    rcases Decidable.em (z9 = 29) with c9 | c9
    · refine z_tabIn (tgt := 1183) hx hb rz9 c9 dL_law_39 (by decide) (by decide) rfl (by decide) ?_
      exact lc_29 hst hL C0 hK hTw hZ0 hn5 hI hS hS0 hl (by omega) (by omega) K9
    have hlo : 30 ≤ z9 := by omega
    rcases Decidable.em (z9 = 30) with c9 | c9
    · refine z_tabIn (tgt := 1208) hx hb rz9 c9 dL_law_39 (by decide) (by decide) rfl (by decide) ?_
      exact lc_30 hst hL C0 hK hTw hZ0 hn5 hI hS hS0 hl (by omega) (by omega) K9
    have hlo : 31 ≤ z9 := by omega
    rcases Decidable.em (z9 = 31) with c9 | c9
    · refine z_tabIn (tgt := 1245) hx hb rz9 c9 dL_law_39 (by decide) (by decide) rfl (by decide) ?_
      exact lc_31 hst hL C0 hK hTw hZ0 hn5 hI hS hS0 hl (by omega) (by omega) K9
    have hlo : 32 ≤ z9 := by omega
    rcases Decidable.em (z9 = 32) with c9 | c9
    · refine z_tabIn (tgt := 1270) hx hb rz9 c9 dL_law_39 (by decide) (by decide) rfl (by decide) ?_
      exact lc_32 hst hL C0 hK hTw hZ0 hn5 hI hS hS0 hl (by omega) (by omega) K9
    have hlo : 33 ≤ z9 := by omega
    rcases Decidable.em (z9 = 33) with c9 | c9
    · refine z_tabIn (tgt := 1283) hx hb rz9 c9 dL_law_39 (by decide) (by decide) rfl (by decide) ?_
      exact lc_33 hst hL C0 hK hTw hZ0 hn5 hI hS hS0 hl (by omega) (by omega) K9
    have hlo : 34 ≤ z9 := by omega
    rcases Decidable.em (z9 = 34) with c9 | c9
    · refine z_tabIn (tgt := 1308) hx hb rz9 c9 dL_law_39 (by decide) (by decide) rfl (by decide) ?_
      exact lc_34 hst hL C0 hK hTw hZ0 hn5 hI hS hS0 hl (by omega) (by omega) K9
    have hlo : 35 ≤ z9 := by omega
    rcases Decidable.em (z9 = 35) with c9 | c9
    · refine z_tabIn (tgt := 1333) hx hb rz9 c9 dL_law_39 (by decide) (by decide) rfl (by decide) ?_
      exact lc_35 hst hL C0 hK hTw hZ0 hn5 hI hS hS0 hl (by omega) (by omega) K9
    have hlo : 36 ≤ z9 := by omega
    rcases Decidable.em (z9 = 36) with c9 | c9
    · refine z_tabIn (tgt := 1358) hx hb rz9 c9 dL_law_39 (by decide) (by decide) rfl (by decide) ?_
      exact lc_36 hst hL C0 hK hTw hZ0 hn5 hI hS hS0 hl (by omega) (by omega) K9
    have hlo : 37 ≤ z9 := by omega
    rcases Decidable.em (z9 = 37) with c9 | c9
    · refine z_tabIn (tgt := 1395) hx hb rz9 c9 dL_law_39 (by decide) (by decide) rfl (by decide) ?_
      exact lc_37 hst hL C0 hK hTw hZ0 hn5 hI hS hS0 hl (by omega) (by omega) K9
    have hlo : 38 ≤ z9 := by omega
    rcases Decidable.em (z9 = 38) with c9 | c9
    · refine z_tabIn (tgt := 1408) hx hb rz9 c9 dL_law_39 (by decide) (by decide) rfl (by decide) ?_
      exact lc_38 hst hL C0 hK hTw hZ0 hn5 hI hS hS0 hl (by omega) (by omega) K9
    have hlo : 39 ≤ z9 := by omega
    rcases Decidable.em (z9 = 39) with c9 | c9
    · refine z_tabIn (tgt := 1421) hx hb rz9 c9 dL_law_39 (by decide) (by decide) rfl (by decide) ?_
      exact lc_39 hst hL C0 hK hTw hZ0 hn5 hI hS hS0 hl (by omega) (by omega) K9
    have hlo : 40 ≤ z9 := by omega
    rcases Decidable.em (z9 = 40) with c9 | c9
    · refine z_tabIn (tgt := 1458) hx hb rz9 c9 dL_law_39 (by decide) (by decide) rfl (by decide) ?_
      exact lc_40 hst hL C0 hK hTw hZ0 hn5 hI hS hS0 hl (by omega) (by omega) K9
    have hlo : 41 ≤ z9 := by omega
    rcases Decidable.em (z9 = 41) with c9 | c9
    · refine z_tabIn (tgt := 1495) hx hb rz9 c9 dL_law_39 (by decide) (by decide) rfl (by decide) ?_
      exact lc_41 hst hL C0 hK hTw hZ0 hn5 hI hS hS0 hl (by omega) (by omega) K9
    have hlo : 42 ≤ z9 := by omega
    rcases Decidable.em (z9 = 42) with c9 | c9
    · refine z_tabIn (tgt := 1520) hx hb rz9 c9 dL_law_39 (by decide) (by decide) rfl (by decide) ?_
      exact lc_42 hst hL C0 hK hTw hZ0 hn5 hI hS hS0 hl (by omega) (by omega) K9
    have hlo : 43 ≤ z9 := by omega
    rcases Decidable.em (z9 = 43) with c9 | c9
    · refine z_tabIn (tgt := 1557) hx hb rz9 c9 dL_law_39 (by decide) (by decide) rfl (by decide) ?_
      exact lc_43 hst hL C0 hK hTw hZ0 hn5 hI hS hS0 hl (by omega) (by omega) K9
    have hlo : 44 ≤ z9 := by omega
    refine z_tabOut (tgt := 1585) hx hb rz9 dL_law_39 (by omega) (by decide) ?_
    exact K9 MC MR MO H locs cells slots ls hI hS (Nat.le_add_right _ _) (Nat.le_add_right _ _) hS0 hl
theorem y_def12 : ∀ k, k < 50 → defaultValue (tyX12 k) = (if zfk wR 12 k = 0 then .int (iI 0) else if zfk wR 12 k = 1 then .long (iL 0) else .null) := fun k hk => match k, hk with
    | 0, _ => rfl
    | 1, _ => rfl
    | 2, _ => rfl
    | 3, _ => rfl
    | 4, _ => rfl
    | 5, _ => rfl
    | 6, _ => rfl
    | 7, _ => rfl
    | 8, _ => rfl
    | 9, _ => rfl
    | 10, _ => rfl
    | 11, _ => rfl
    | 12, _ => rfl
    | 13, _ => rfl
    | 14, _ => rfl
    | 15, _ => rfl
    | 16, _ => rfl
    | 17, _ => rfl
    | 18, _ => rfl
    | 19, _ => rfl
    | 20, _ => rfl
    | 21, _ => rfl
    | 22, _ => rfl
    | 23, _ => rfl
    | 24, _ => rfl
    | 25, _ => rfl
    | 26, _ => rfl
    | 27, _ => rfl
    | 28, _ => rfl
    | 29, _ => rfl
    | 30, _ => rfl
    | 31, _ => rfl
    | 32, _ => rfl
    | 33, _ => rfl
    | 34, _ => rfl
    | 35, _ => rfl
    | 36, _ => rfl
    | 37, _ => rfl
    | 38, _ => rfl
    | 39, _ => rfl
    | 40, _ => rfl
    | 41, _ => rfl
    | 42, _ => rfl
    | 43, _ => rfl
    | 44, _ => rfl
    | 45, _ => rfl
    | 46, _ => rfl
    | 47, _ => rfl
    | 48, _ => rfl
    | 49, _ => rfl
    | k + 50, h => absurd h (by omega)
theorem y_def11 : ∀ k, k < 11 → defaultValue (tyX11 k) = (if zfk wC 11 k = 0 then .int (iI 0) else if zfk wC 11 k = 1 then .long (iL 0) else .null) := fun k hk => match k, hk with
    | 0, _ => rfl
    | 1, _ => rfl
    | 2, _ => rfl
    | 3, _ => rfl
    | 4, _ => rfl
    | 5, _ => rfl
    | 6, _ => rfl
    | 7, _ => rfl
    | 8, _ => rfl
    | 9, _ => rfl
    | 10, _ => rfl
    | k + 11, h => absurd h (by omega)
set_option maxHeartbeats 4000000 in
set_option maxRecDepth 100000 in
theorem whole_start {p : Program} {e : Env} {s : State} {m : MethodId} {below : List Frame} {meth : Method} {c : Code} (l : Launch) (hflags : l.flags = flags0) {b L : Nat} {xs : Nat → Int32} (hL : L ≤ 2560) (C0 : lw_At p s m meth c b L xs) : W p l e room_1 s m #[Value.ref b] below meth c s.heap [] 0 0 (lw_Z below #[Value.ref b] s) (entryFrame m ([Value.ref b] : List Value).toArray 8) := by
  obtain ⟨hx, hb, hr, hml, hown, htsL, hX, hbl, hlocks, hgv⟩ := id C0
  have hts := l_hts htsL
  have hst : l.stackTraces = false := by
    unfold Launch.stackTraces
    rw [hflags]
    decide +kernel
  obtain ⟨D, dA, hK, hO⟩ := l_K htsL
  have hfl := flat_of_before _ hgv
  have hZ0 : zZ (yA s.heap.size) s s.heap := ⟨vx_Zqof (htsL _ (zin0_5 (List.mem_of_getElem? (i := 94) (by decide +kernel)))) (hts _ (z_mem k18)) (hfl _ (by decide +kernel)) (fun a h => Nat.not_le.mpr h), vx_Zqof (htsL _ (zin0_5 (List.mem_of_getElem? (i := 96) (by decide +kernel)))) (hts _ (z_mem k18)) (hfl _ (by decide +kernel)) (fun a h => Nat.not_le.mpr h)⟩
  have hTw : zTw s := ⟨va_Nw.of rfl (htsL _ (zin0_5 (List.mem_of_getElem? (i := 69) (by decide +kernel)))), va_Nw.of rfl (htsL _ (zin0_5 (List.mem_of_getElem? (i := 70) (by decide +kernel)))), va_Nw.of rfl (htsL _ (zin0_5 (List.mem_of_getElem? (i := 72) (by decide +kernel)))), va_Nw.of rfl (htsL _ (zin0_5 (List.mem_of_getElem? (i := 74) (by decide +kernel))))⟩
  have hl := lv_entry ([.ref b]) (n := 8) (Nat.le_of_ble_eq_true rfl)
  rw [lg_entry_eq]
  generalize (lg_sl ([.ref b]) ++ List.replicate (8 - (lg_sl ([.ref b])).length) Slot.unset).toArray = ls at hl ⊢
  have hl : lv_has ls 8 [(0, .ref b)] := hl
  have hS0 : va_S (yA s.heap.size) s.heap s.heap [] := va_S.rf
  have hY : yS D dA vwCl wC 0 s.heap.size (fun _ _ => 0) (fun _ _ => none) s.heap := ⟨rfl, fun j hj => absurd hj (Nat.not_lt_zero _), fun _ _ => ⟨fun _ => rfl, fun _ => rfl⟩, zJ_zC⟩
  refine y_new hx hb hts (z_memU u11) tyX11 tyX11_ok hown (hts _ (z_mem k22)) (hts _ (z_mem k23)) (hts _ (z_mem k1)) hK.1 hY hS0 (rfl : vwCl[11]? = some (RX11, TX11, 11)) (by decide) (zkd_of (rfl : zcd wC 0 = 0) rfl) rfl y_def11 (Nat.le_of_ble_eq_true rfl) (Nat.le_of_ble_eq_true rfl) dL_law_0 (fun H hY hS0 => ?_)
  have hY : yS D dA vwCl wC 1 s.heap.size _ _ H := hY
  refine lv_dup hx hb dL_law_3 rfl ?_
  refine y_call (va_runI (As := []) (rest := [.ref (s.heap.size + 0)]) ⟨hx, hb, hml, hown, hts⟩ (mk_C0 l D dA s.heap.size _ _) (cwI 0 hts (z_gN k26) rfl rfl rfl (hts _ (z_mem k1)) (hts _ (z_mem k24)) (hts _ (z_mem k25)) rfl (by decide +kernel) ⟨(Nat.le_of_ble_eq_true rfl), (Nat.le_of_ble_eq_true rfl)⟩) ⟨yP_blind, y_pre hY hK hO⟩ rfl rfl hl.1 rfl (lv_room (Nat.le_of_ble_eq_true rfl)) dL_law_4 ⟨(Nat.le_of_ble_eq_true rfl), (Nat.le_of_ble_eq_true rfl)⟩) hS0 (fun H locs hY hS0 => ?_)
  have hC : zR D dA vwCl wC nC s.heap.size MC0 H := zR_made hY (y_chk_ok tC_ok)
  have hz1 : H.size = s.heap.size + 134 := hY.1
  refine lv_astore_n (lv' := [(1, .ref (s.heap.size + 0)), (0, .ref b)]) hx hb dL_law_7 rfl hl (by decide) rfl (fun ls hl => ?_)
  refine va_forget (fun q hq => hS0.2.2 q hq) ?_
  have hY2 : yS D dA vwCl wR 0 (s.heap.size + 134) (fun _ _ => 0) (fun _ _ => none) H := ⟨hz1, fun j hj => absurd hj (Nat.not_lt_zero _), fun _ _ => ⟨fun _ => rfl, fun _ => rfl⟩, zJ_zR⟩
  have hS2 : va_S (yA (s.heap.size + 134)) H H [] := va_S.rf
  refine y_new hx hb hts (z_memU u12) tyX12 tyX12_ok hown (hts _ (z_mem k938)) (hts _ (z_mem k939)) (hts _ (z_mem k14)) hK.1 hY2 hS2 (rfl : vwCl[12]? = some (RX12, TX12, 50)) (by decide) (zkd_of (rfl : zcd wR 0 = 50) rfl) rfl y_def12 (Nat.le_of_ble_eq_true rfl) (Nat.le_of_ble_eq_true rfl) dL_law_8 (fun H2 hY2 hS2 => ?_)
  have hY2 : yS D dA vwCl wR 1 (s.heap.size + 134) _ _ H2 := hY2
  refine lv_dup hx hb dL_law_11 rfl ?_
  refine y_call (va_runI (As := []) (rest := [.ref (s.heap.size + 134 + 0)]) ⟨hx, hb, hml, hown, hts⟩ (mk_R0 l D dA (s.heap.size + 134) _ _) (cwI 0 hts (z_gN k942) rfl rfl rfl (hts _ (z_mem k14)) (hts _ (z_mem k940)) (hts _ (z_mem k941)) rfl (by decide +kernel) ⟨(Nat.le_of_ble_eq_true rfl), (Nat.le_of_ble_eq_true rfl)⟩) ⟨yP_blind, y_pre hY2 hK hO⟩ rfl rfl hl.1 rfl (lv_room (Nat.le_of_ble_eq_true rfl)) dL_law_12 ⟨(Nat.le_of_ble_eq_true rfl), (Nat.le_of_ble_eq_true rfl)⟩) hS2 (fun H2 locs2 hY2 hS2 => ?_)
  have hR : zR D dA vwCl wR nR (s.heap.size + 134) MR0 H2 := zR_made hY2 (y_chk_ok tR_ok)
  have hz2 : H2.size = s.heap.size + 134 + 34 := hY2.1
  have hC2 : zR D dA vwCl wC nC s.heap.size MC0 H2 := zR_kept hC (fun q h1 h2 h3 => hS2.2.1 q h1 (fun z => by have z : s.heap.size + 134 ≤ q := z; have e1 : nC = 134 := rfl; omega))
  have hS3 : va_S (yA s.heap.size) s.heap H2 locs2 := ⟨Nat.le_trans hS0.1 hS2.1, fun q h1 h2 => (hS2.2.1 q (Nat.lt_of_lt_of_le h1 hS0.1) (fun z => by have z : s.heap.size + 134 ≤ q := z; omega)).trans (hS0.2.1 q h1 h2), fun z hz => by have h9 : s.heap.size + 134 ≤ z.base := hS2.2.2 z hz; show s.heap.size ≤ z.base; omega⟩
  refine lv_astore_n (lv' := [(2, .ref (s.heap.size + 134 + 0)), (1, .ref (s.heap.size + 0)), (0, .ref b)]) hx hb dL_law_15 rfl hl (by decide) rfl (fun ls hl => ?_)
  refine z_iconst hx hb dL_law_16 ?_
  refine l_newl (dA := dA) (D := D) hx hb (hts _ (z_mem k1349)) (hK.1.2 1 _ rfl).2 rfl (Nat.le_of_ble_eq_true rfl) (Nat.le_of_ble_eq_true rfl) dL_law_17 (fun H3 hRO z1 o1 => ?_)
  rw [show H2.size = s.heap.size + 168 by omega] at hRO ⊢
  have hLS : LW3 D dA s.heap.size MC0 MR0 (fun _ _ => 0) H3 := ⟨zR_kept hC2 (fun q h1 h2 h3 => o1 q h1), zR_kept hR (fun q h1 h2 h3 => o1 q h1), hRO⟩
  have hS4 : va_S (yA s.heap.size) s.heap H3 locs2 := yS_S hS3 z1 o1
  refine lv_astore_n (lv' := [(3, .ref (s.heap.size + 168 + 0)), (2, .ref (s.heap.size + 134 + 0)), (1, .ref (s.heap.size + 0)), (0, .ref b)]) hx hb dL_law_19 rfl hl (by decide) rfl (fun ls hl => ?_)
  refine z_iconst hx hb dL_law_20 ?_
  refine lv_istore (lv' := [(4, .int (iI 0)), (3, .ref (s.heap.size + 168 + 0)), (2, .ref (s.heap.size + 134 + 0)), (1, .ref (s.heap.size + 0)), (0, .ref b)]) hx hb dL_law_21 hl (by decide) rfl (fun ls hl => ?_)
  exact law_loop hst hL C0 hK hTw hZ0 512 0 MC0 MR0 _ H3 locs2 _ _ ls (Nat.zero_le _) (by omega) inv0 hLS hS4 hl (Nat.le_of_ble_eq_true rfl) (Nat.le_of_ble_eq_true rfl)
