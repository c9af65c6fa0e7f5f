/-! what the two worlds hold alike, kept by every call of the law -/
theorem cbt0 (q k : Nat) : okp (cbt q k) := by
  unfold cbt
  refine getD_all (P := fun f : Nat → Int × Int => ∀ k, okp (f k)) ?_ (fun _ => by decide) k
  unfold cbL
  refine List.forall_mem_cons.mpr ⟨fun k => getD_all (P := okp) (by decide) (by decide), ?_⟩
  refine List.forall_mem_cons.mpr ⟨fun k => getD_all (P := okp) (by decide) (by decide), ?_⟩
  refine List.forall_mem_cons.mpr ⟨fun _ => (by decide : okp (0, 255)), ?_⟩
  refine List.forall_mem_cons.mpr ⟨fun _ => (by decide : okp (-2147483648, 2147483647)), ?_⟩
  refine List.forall_mem_cons.mpr ⟨fun _ => (by decide : okp (-2147483648, 2147483647)), ?_⟩
  refine List.forall_mem_cons.mpr ⟨fun _ => (by decide : okp (0, 9)), ?_⟩
  refine List.forall_mem_cons.mpr ⟨fun k => getD_all (P := okp) (by decide) (by decide), ?_⟩
  refine List.forall_mem_cons.mpr ⟨fun _ => (by decide : okp (-2147483648, 2147483647)), ?_⟩
  refine List.forall_mem_cons.mpr ⟨fun k => getD_all (P := okp) (by decide) (by decide), ?_⟩
  refine List.forall_mem_cons.mpr ⟨fun _ => (by decide : okp (-2147483648, 2147483647)), ?_⟩
  refine List.forall_mem_cons.mpr ⟨fun _ => (by decide : okp (-2147483648, 2147483647)), ?_⟩
  refine List.forall_mem_cons.mpr ⟨fun k => getD_all (P := okp) (by decide) (by decide), ?_⟩
  refine List.forall_mem_cons.mpr ⟨fun _ => (by decide : okp (0, 5000)), ?_⟩
  refine List.forall_mem_cons.mpr ⟨fun _ => (by decide : okp (-9, 9)), ?_⟩
  refine List.forall_mem_cons.mpr ⟨fun k => getD_all (P := okp) (by decide) (by decide), ?_⟩
  refine List.forall_mem_cons.mpr ⟨fun _ => (by decide : okp (-2147483648, 2147483647)), ?_⟩
  refine List.forall_mem_cons.mpr ⟨fun k => getD_all (P := okp) (by decide) (by decide), ?_⟩
  refine List.forall_mem_cons.mpr ⟨fun _ => (by decide : okp (0, 24)), ?_⟩
  refine List.forall_mem_cons.mpr ⟨fun _ => (by decide : okp (-2147483648, 2147483647)), ?_⟩
  refine List.forall_mem_cons.mpr ⟨fun k => getD_all (P := okp) (by decide) (by decide), ?_⟩
  refine List.forall_mem_cons.mpr ⟨fun _ => (by decide : okp (0, 100000)), ?_⟩
  refine List.forall_mem_cons.mpr ⟨fun _ => (by decide : okp (0, 9)), ?_⟩
  refine List.forall_mem_cons.mpr ⟨fun _ => (by decide : okp (0, 23)), ?_⟩
  refine List.forall_mem_cons.mpr ⟨fun _ => (by decide : okp (-2147483648, 2147483647)), ?_⟩
  refine List.forall_mem_cons.mpr ⟨fun _ => (by decide : okp (0, 63)), ?_⟩
  refine List.forall_mem_cons.mpr ⟨fun _ => (by decide : okp (-2147483648, 2147483647)), ?_⟩
  refine List.forall_mem_cons.mpr ⟨fun _ => (by decide : okp (0, 1000000)), ?_⟩
  refine List.forall_mem_cons.mpr ⟨fun _ => (by decide : okp (0, 1000000)), ?_⟩
  refine List.forall_mem_cons.mpr ⟨fun _ => (by decide : okp (-2147483648, 2147483647)), ?_⟩
  refine List.forall_mem_cons.mpr ⟨fun _ => (by decide : okp (-2147483648, 2147483647)), ?_⟩
  refine List.forall_mem_cons.mpr ⟨fun k => getD_all (P := okp) (by decide) (by decide), ?_⟩
  refine List.forall_mem_cons.mpr ⟨fun _ => (by decide : okp (-2147483648, 2147483647)), ?_⟩
  refine List.forall_mem_cons.mpr ⟨fun _ => (by decide : okp (-2147483648, 2147483647)), ?_⟩
  refine List.forall_mem_cons.mpr ⟨fun _ => (by decide : okp (-2147483648, 2147483647)), ?_⟩
  refine List.forall_mem_cons.mpr ⟨fun k => getD_all (P := okp) (by decide) (by decide), ?_⟩
  refine List.forall_mem_cons.mpr ⟨fun _ => (by decide : okp (-2147483648, 2147483647)), ?_⟩
  refine List.forall_mem_cons.mpr ⟨fun _ => (by decide : okp (-2147483648, 2147483647)), ?_⟩
  refine List.forall_mem_cons.mpr ⟨fun _ => (by decide : okp (-2147483648, 2147483647)), ?_⟩
  refine List.forall_mem_cons.mpr ⟨fun k => getD_all (P := okp) (by decide) (by decide), ?_⟩
  refine List.forall_mem_cons.mpr ⟨fun _ => (by decide : okp (-2147483648, 2147483647)), ?_⟩
  refine List.forall_mem_cons.mpr ⟨fun _ => (by decide : okp (-2147483648, 2147483647)), ?_⟩
  refine List.forall_mem_cons.mpr ⟨fun _ => (by decide : okp (-2147483648, 2147483647)), ?_⟩
  refine List.forall_mem_cons.mpr ⟨fun _ => (by decide : okp (0, 8)), ?_⟩
  refine List.forall_mem_cons.mpr ⟨fun _ => (by decide : okp (-2147483648, 2147483647)), ?_⟩
  refine List.forall_mem_cons.mpr ⟨fun k => getD_all (P := okp) (by decide) (by decide), ?_⟩
  refine List.forall_mem_cons.mpr ⟨fun _ => (by decide : okp (-2147483648, 2147483647)), ?_⟩
  refine List.forall_mem_cons.mpr ⟨fun _ => (by decide : okp (-2147483648, 2147483647)), ?_⟩
  refine List.forall_mem_cons.mpr ⟨fun _ => (by decide : okp (-2147483648, 2147483647)), ?_⟩
  refine List.forall_mem_cons.mpr ⟨fun _ => (by decide : okp (-2147483648, 2147483647)), ?_⟩
  refine List.forall_mem_cons.mpr ⟨fun _ => (by decide : okp (-2147483648, 2147483647)), ?_⟩
  refine List.forall_mem_cons.mpr ⟨fun k => getD_all (P := okp) (by decide) (by decide), ?_⟩
  refine List.forall_mem_cons.mpr ⟨fun _ => (by decide : okp (-128, 127)), ?_⟩
  refine List.forall_mem_cons.mpr ⟨fun _ => (by decide : okp (-2147483648, 2147483647)), ?_⟩
  refine List.forall_mem_cons.mpr ⟨fun _ => (by decide : okp (-2147483648, 2147483647)), ?_⟩
  refine List.forall_mem_cons.mpr ⟨fun _ => (by decide : okp (0, 24)), ?_⟩
  refine List.forall_mem_cons.mpr ⟨fun _ => (by decide : okp (0, 1)), ?_⟩
  refine List.forall_mem_cons.mpr ⟨fun _ => (by decide : okp (0, 23)), ?_⟩
  refine List.forall_mem_cons.mpr ⟨fun _ => (by decide : okp (-2147483648, 2147483647)), ?_⟩
  refine List.forall_mem_cons.mpr ⟨fun _ => (by decide : okp (-2147483648, 2147483647)), ?_⟩
  refine List.forall_mem_cons.mpr ⟨fun _ => (by decide : okp (0, 5000)), ?_⟩
  refine List.forall_mem_cons.mpr ⟨fun _ => (by decide : okp (-9, 9)), ?_⟩
  refine List.forall_mem_cons.mpr ⟨fun _ => (by decide : okp (0, 12)), ?_⟩
  refine List.forall_mem_cons.mpr ⟨fun _ => (by decide : okp (0, 100000)), ?_⟩
  refine List.forall_mem_cons.mpr ⟨fun _ => (by decide : okp (0, 9)), ?_⟩
  refine List.forall_mem_cons.mpr ⟨fun _ => (by decide : okp (-2147483648, 2147483647)), ?_⟩
  refine List.forall_mem_cons.mpr ⟨fun _ => (by decide : okp (-2147483648, 2147483647)), ?_⟩
  refine List.forall_mem_cons.mpr ⟨fun _ => (by decide : okp (-2147483648, 2147483647)), ?_⟩
  refine List.forall_mem_cons.mpr ⟨fun _ => (by decide : okp (0, 8)), ?_⟩
  refine List.forall_mem_cons.mpr ⟨fun _ => (by decide : okp (-2147483648, 2147483647)), ?_⟩
  refine List.forall_mem_cons.mpr ⟨fun _ => (by decide : okp (0, 24)), ?_⟩
  refine List.forall_mem_cons.mpr ⟨fun _ => (by decide : okp (-2147483648, 2147483647)), ?_⟩
  refine List.forall_mem_cons.mpr ⟨fun _ => (by decide : okp (-2147483648, 2147483647)), ?_⟩
  refine List.forall_mem_cons.mpr ⟨fun _ => (by decide : okp (-2147483648, 2147483647)), ?_⟩
  refine List.forall_mem_cons.mpr ⟨fun _ => (by decide : okp (-2147483648, 2147483647)), ?_⟩
  refine List.forall_mem_cons.mpr ⟨fun _ => (by decide : okp (0, 24)), ?_⟩
  refine List.forall_mem_cons.mpr ⟨fun _ => (by decide : okp (-2147483648, 2147483647)), ?_⟩
  refine List.forall_mem_cons.mpr ⟨fun _ => (by decide : okp (0, 24)), ?_⟩
  refine List.forall_mem_cons.mpr ⟨fun _ => (by decide : okp (-2147483648, 2147483647)), ?_⟩
  refine List.forall_mem_cons.mpr ⟨fun _ => (by decide : okp (0, 268435456)), ?_⟩
  refine List.forall_mem_cons.mpr ⟨fun _ => (by decide : okp (0, 63)), ?_⟩
  refine List.forall_mem_cons.mpr ⟨fun _ => (by decide : okp (-2147483648, 2147483647)), ?_⟩
  refine List.forall_mem_cons.mpr ⟨fun _ => (by decide : okp (-2147483648, 2147483647)), ?_⟩
  refine List.forall_mem_cons.mpr ⟨fun _ => (by decide : okp (-2147483648, 2147483647)), ?_⟩
  refine List.forall_mem_cons.mpr ⟨fun _ => (by decide : okp (-2147483648, 2147483647)), ?_⟩
  exact fun x hx => absurd hx (List.not_mem_nil)
theorem bn_zero (w : zW) : BN w (fun _ _ => 0) := fun j k => cbt0 _ k
theorem bn_up {w : zW} {M : zM} (h : BN w M) {j k : Nat} {v : Int} (hv : (cbt (zcd w j) k).1 ≤ v ∧ v ≤ (cbt (zcd w j) k).2) : BN w (zup M j k v) := h.up rfl rfl hv.1 hv.2
theorem bn_fill {w : zW} {M : zM} (h : BN w M) {j N : Nat} {v : Int} (hv : ∀ k, k < N → (cbt (zcd w j) k).1 ≤ v ∧ v ≤ (cbt (zcd w j) k).2) : BN w (zfill M j N v) := by
  intro a k
  unfold zfill
  split
  · rename_i h1
    obtain ⟨rfl, h2⟩ := h1
    exact hv k h2
  · exact h a k
set_option maxRecDepth 100000 in
theorem bmM_C96 {M : zM} (h : BN wC M) : BN wC (mM_C96 M) := (bn_up (bn_up (bn_up (bn_up (bn_up (bn_up (bn_up (bn_up (bn_up (bn_up (bn_up (bn_up (bn_up (bn_up (bn_up (bn_up (bn_up h (by decide +kernel)) (by decide +kernel)) (by decide +kernel)) (by decide +kernel)) (by decide +kernel)) (by decide +kernel)) (by decide +kernel)) (by decide +kernel)) (by decide +kernel)) (by decide +kernel)) (by decide +kernel)) (by decide +kernel)) (by decide +kernel)) (by decide +kernel)) (by decide +kernel)) (by decide +kernel)) (by decide +kernel))
set_option maxRecDepth 100000 in
theorem bmM_C86 {M : zM} (h : BN wC M) : BN wC (mM_C86 M) := (bn_up (bn_up h (by decide +kernel)) (by decide +kernel))
set_option maxRecDepth 100000 in
theorem bmM_C82 {M : zM} (h : BN wC M) : BN wC (mM_C82 M) := (bn_up h (by decide +kernel))
set_option maxRecDepth 100000 in
theorem bmM_C78 {M : zM} (h : BN wC M) : BN wC (mM_C78 M) := (bn_fill (bn_up (bn_up (bn_up (bn_up (bn_up h (by decide +kernel)) (by decide +kernel)) (by decide +kernel)) (by decide +kernel)) (by decide +kernel)) (by decide +kernel))
set_option maxRecDepth 100000 in
theorem bmM_C60 {M : zM} (h : BN wC M) : BN wC (mM_C60 M) := (bn_up h (by decide +kernel))
set_option maxRecDepth 100000 in
theorem bmM_C57 {M : zM} (h : BN wC M) : BN wC (mM_C57 M) := (bn_up (bn_up h (by decide +kernel)) (by decide +kernel))
set_option maxRecDepth 100000 in
theorem bmM_C53 {M : zM} (h : BN wC M) : BN wC (mM_C53 M) := (bn_up (bn_up (bn_up (bn_up (bn_up h (by decide +kernel)) (by decide +kernel)) (by decide +kernel)) (by decide +kernel)) (by decide +kernel))
set_option maxRecDepth 100000 in
theorem bmM_C49 {M : zM} (h : BN wC M) : BN wC (mM_C49 M) := (bn_up (bn_up (bn_up (bn_up (bn_up h (by decide +kernel)) (by decide +kernel)) (by decide +kernel)) (by decide +kernel)) (by decide +kernel))
set_option maxRecDepth 100000 in
theorem bmM_C45 {M : zM} (h : BN wC M) : BN wC (mM_C45 M) := (bn_up (bn_up (bn_up (bn_up (bn_up h (by decide +kernel)) (by decide +kernel)) (by decide +kernel)) (by decide +kernel)) (by decide +kernel))
set_option maxRecDepth 100000 in
theorem bmM_C41 {M : zM} (h : BN wC M) : BN wC (mM_C41 M) := (bn_up (bn_up (bn_up (bn_up (bn_up h (by decide +kernel)) (by decide +kernel)) (by decide +kernel)) (by decide +kernel)) (by decide +kernel))
set_option maxRecDepth 100000 in
theorem bmM_C38 {M : zM} (h : BN wC M) : BN wC (mM_C38 M) := (bn_up h (by decide +kernel))
set_option maxRecDepth 100000 in
theorem bmM_C35 {M : zM} (h : BN wC M) : BN wC (mM_C35 M) := (bn_up h (by decide +kernel))
set_option maxRecDepth 100000 in
theorem bmM_C32 {M : zM} (h : BN wC M) : BN wC (mM_C32 M) := (bmM_C53 (bmM_C49 (bmM_C45 (bmM_C41 (bmM_C38 (bmM_C35 (bn_up h (by decide +kernel))))))))
set_option maxRecDepth 100000 in
theorem bmM_C1 {M : zM} (h : BN wC M) : BN wC (mM_C1 M) := (bn_up (bn_up (bn_up (bn_up (bn_up (bn_up (bn_up (bn_up (bn_up (bn_up (bn_up (bn_up (bn_up (bn_up (bn_up h (by decide +kernel)) (by decide +kernel)) (by decide +kernel)) (by decide +kernel)) (by decide +kernel)) (by decide +kernel)) (by decide +kernel)) (by decide +kernel)) (by decide +kernel)) (by decide +kernel)) (by decide +kernel)) (by decide +kernel)) (by decide +kernel)) (by decide +kernel)) (by decide +kernel))
set_option maxRecDepth 100000 in
theorem bmM_C0 {M : zM} (h : BN wC M) : BN wC (mM_C0 M) := (bn_up (bmM_C96 (bmM_C86 (bmM_C82 (bmM_C78 (bmM_C60 (bmM_C57 (bmM_C32 (bn_up (bmM_C1 h) (by decide +kernel))))))))) (by decide +kernel))
set_option maxRecDepth 100000 in
theorem bmM_R0 {M : zM} (h : BN wR M) : BN wR (mM_R0 M) := (bn_up (bn_up (bn_up (bn_up (bn_up (bn_up (bn_up (bn_up (bn_up (bn_up (bn_up h (by decide +kernel)) (by decide +kernel)) (by decide +kernel)) (by decide +kernel)) (by decide +kernel)) (by decide +kernel)) (by decide +kernel)) (by decide +kernel)) (by decide +kernel)) (by decide +kernel)) (by decide +kernel))
theorem bn_C0 : BN wC MC0 := bmM_C0 (bn_zero wC)
theorem bi_R0 : BI MR0 := ⟨bmM_R0 (bn_zero wR), fun k h1 h2 => absurd h2 (by rw [gR_0_10]; omega)⟩
def INV (MC MR : zM) : Prop := BN wC MC ∧ BI MR ∧ iMo (MC 35) (MC 36) (MC 37) (MC 38) (MC 39) (MC 40) (MR 9) (MR 10) (MR 11) ∧ iTx MC MR ∧ iHa MC MR ∧ iRi MC MR ∧ iVe MC MR ∧ iMk MC MR
theorem inv0 : INV MC0 MR0 := ⟨bn_C0, bi_R0, ⟨⟨by decide +kernel, fun i hi => absurd hi (by rw [show MC0 35 2 = 0 by decide +kernel]; omega)⟩, ⟨by decide +kernel, fun i hi => absurd hi (by rw [show MC0 38 2 = 0 by decide +kernel]; omega)⟩⟩, ⟨by decide +kernel, fun i hi => absurd hi (by rw [show MC0 1 1 = 0 by decide +kernel]; omega)⟩, ⟨by decide +kernel, fun i hi => absurd hi (by rw [show MC0 30 1 = 0 by decide +kernel]; omega)⟩, ⟨by decide +kernel, by decide +kernel, fun i hi => absurd hi (by rw [show MC0 32 2 = 0 by decide +kernel]; omega)⟩, ⟨by decide +kernel, by decide +kernel, fun i hi => absurd hi (by rw [show MC0 96 0 = 0 by decide +kernel]; omega)⟩, ⟨by decide +kernel, fun i hi => absurd hi (by rw [show MC0 60 2 = 0 by decide +kernel]; omega)⟩⟩
set_option maxHeartbeats 4000000 in
theorem st_sign {MC MR : zM} {a0 : Int} (hI : INV MC MR) (v0 : (-2147483648) ≤ a0 ∧ a0 ≤ 2147483647) : wC_sign a0 MC (fun z M8 => wR_sign a0 MR (fun z9 M9 => INV M8 M9 ∧ z = z9)) := by
  obtain ⟨i0, i1, i_Mo, i_Tx, i_Ha, i_Ri, i_Ve, i_Mk⟩ := id hI
  refine fC_sign hI.1  v0 (fun z M8 h8 => ?_)
  obtain ⟨b8, f8, p8⟩ := h8
  refine fR_sign hI.2.1  v0 (fun z9 M9 h9 => ?_)
  obtain ⟨b9, f9, p9⟩ := h9
  have t1 := i_Tx.1
  have bt : 0 ≤ MC 1 1 ∧ MC 1 1 ≤ 100 := BN.at hI.1 (rfl : zcd wC 1 = 1) rfl
  have q8 := p8.2.1
  have q9 := p9.2.1
  have hs : iTx M8 M9 := tx_sign bt.1 i_Tx ⟨by omega, p8.2.2.1, p8.2.2.2⟩ (by omega) ⟨p9.2.2.1, p9.2.2.2⟩
  exact ⟨⟨b8, b9, (by rw [show M8 35 = MC 35 from f8 35 (by omega), show M8 36 = MC 36 from f8 36 (by omega), show M8 37 = MC 37 from f8 37 (by omega), show M8 38 = MC 38 from f8 38 (by omega), show M8 39 = MC 39 from f8 39 (by omega), show M8 40 = MC 40 from f8 40 (by omega), show M9 9 = MR 9 from (funext fun k => f9 9 k (by omega)), show M9 10 = MR 10 from (funext fun k => f9 10 k (by omega)), show M9 11 = MR 11 from (funext fun k => f9 11 k (by omega))]; exact i_Mo), hs, (by unfold iHa; rw [show M8 30 = MC 30 from f8 30 (by omega), show M8 31 = MC 31 from f8 31 (by omega), show M9 0 3 = MR 0 3 from (f9 0 3 (by omega)), show M9 2 = MR 2 from (funext fun k => f9 2 k (by omega))]; exact i_Ha), (iRi_kept i_Ri (fun j hj => f8 j (by omega)) (congrFun (f8 32 (by omega)) 2) (f9 0 10 (by omega)) (funext fun k => f9 3 k (by omega)) (funext fun k => f9 4 k (by omega)) (funext fun k => f9 5 k (by omega)) (funext fun k => f9 6 k (by omega)) (funext fun k => f9 7 k (by omega)) (funext fun k => f9 8 k (by omega))), (iVe_kept i_Ve (fun j hj => f8 j (by omega)) (congrFun (f8 96 (by omega)) 0) (f9 0 32 (by omega)) (funext fun k => f9 18 k (by omega)) (funext fun k => f9 19 k (by omega)) (funext fun k => f9 20 k (by omega)) (funext fun k => f9 21 k (by omega))), (iMk_kept i_Mk (fun j hj => f8 j (by omega)) (congrFun (f8 60 (by omega)) 2) (f9 0 16 (by omega)) (funext fun k => f9 12 k (by omega)) (funext fun k => f9 13 k (by omega)))⟩, (by omega)⟩
set_option maxHeartbeats 4000000 in
theorem st_end {MC MR : zM} {a0 : Int} (hI : INV MC MR) (v0 : (-2147483648) ≤ a0 ∧ a0 ≤ 2147483647) : wC_end a0 MC (fun z M8 => wR_end a0 MR (fun z9 M9 => INV M8 M9 ∧ z = z9)) := by
  obtain ⟨i0, i1, i_Mo, i_Tx, i_Ha, i_Ri, i_Ve, i_Mk⟩ := id hI
  refine fC_end hI.1  v0 (fun z M8 h8 => ?_)
  obtain ⟨b8, f8, p8⟩ := h8
  refine sR_end hI.2.1  v0 (fun z9 M9 h9 => ?_)
  obtain ⟨b9, f9, p9⟩ := h9
  have t1 := i_Tx.1
  have q8 := p8.2.1
  have q9 := p9.2.1
  have hs : iTx M8 M9 := tx_less i_Tx (by omega) (by omega) (f8 2 (by omega)) (funext fun k => f9 1 k (by omega))
  exact ⟨⟨b8, b9, (by rw [show M8 35 = MC 35 from f8 35 (by omega), show M8 36 = MC 36 from f8 36 (by omega), show M8 37 = MC 37 from f8 37 (by omega), show M8 38 = MC 38 from f8 38 (by omega), show M8 39 = MC 39 from f8 39 (by omega), show M8 40 = MC 40 from f8 40 (by omega), show M9 9 = MR 9 from (funext fun k => f9 9 k (by omega)), show M9 10 = MR 10 from (funext fun k => f9 10 k (by omega)), show M9 11 = MR 11 from (funext fun k => f9 11 k (by omega))]; exact i_Mo), hs, (by unfold iHa; rw [show M8 30 = MC 30 from f8 30 (by omega), show M8 31 = MC 31 from f8 31 (by omega), show M9 0 3 = MR 0 3 from (f9 0 3 (by omega)), show M9 2 = MR 2 from (funext fun k => f9 2 k (by omega))]; exact i_Ha), (iRi_kept i_Ri (fun j hj => f8 j (by omega)) (congrFun (f8 32 (by omega)) 2) (f9 0 10 (by omega)) (funext fun k => f9 3 k (by omega)) (funext fun k => f9 4 k (by omega)) (funext fun k => f9 5 k (by omega)) (funext fun k => f9 6 k (by omega)) (funext fun k => f9 7 k (by omega)) (funext fun k => f9 8 k (by omega))), (iVe_kept i_Ve (fun j hj => f8 j (by omega)) (congrFun (f8 96 (by omega)) 0) (f9 0 32 (by omega)) (funext fun k => f9 18 k (by omega)) (funext fun k => f9 19 k (by omega)) (funext fun k => f9 20 k (by omega)) (funext fun k => f9 21 k (by omega))), (iMk_kept i_Mk (fun j hj => f8 j (by omega)) (congrFun (f8 60 (by omega)) 2) (f9 0 16 (by omega)) (funext fun k => f9 12 k (by omega)) (funext fun k => f9 13 k (by omega)))⟩, (by omega)⟩
set_option maxHeartbeats 4000000 in
theorem st_splice {MC MR : zM} (hI : INV MC MR) : wC_splice MC (fun z M8 => wR_splice MR (fun z9 M9 => INV M8 M9 ∧ True)) := by
  obtain ⟨i0, i1, i_Mo, i_Tx, i_Ha, i_Ri, i_Ve, i_Mk⟩ := id hI
  refine splice_two (Q := fun M8 M9 => INV M8 M9 ∧ True) hI.1 hI.2.1 i_Tx i_Ha (fun z z9 M8 M9 b8 f8 n8 b9 f9 n9 hh => ?_)
  exact ⟨⟨b8, b9, (by rw [show M8 35 = MC 35 from f8 35 (by omega), show M8 36 = MC 36 from f8 36 (by omega), show M8 37 = MC 37 from f8 37 (by omega), show M8 38 = MC 38 from f8 38 (by omega), show M8 39 = MC 39 from f8 39 (by omega), show M8 40 = MC 40 from f8 40 (by omega), show M9 9 = MR 9 from (funext fun k => f9 9 k (by omega)), show M9 10 = MR 10 from (funext fun k => f9 10 k (by omega)), show M9 11 = MR 11 from (funext fun k => f9 11 k (by omega))]; exact i_Mo), ⟨by omega, fun i hi => absurd hi (by omega)⟩, hh, (iRi_kept i_Ri (fun j hj => f8 j (by omega)) (congrFun (f8 32 (by omega)) 2) (f9 0 10 (by omega)) (funext fun k => f9 3 k (by omega)) (funext fun k => f9 4 k (by omega)) (funext fun k => f9 5 k (by omega)) (funext fun k => f9 6 k (by omega)) (funext fun k => f9 7 k (by omega)) (funext fun k => f9 8 k (by omega))), (iVe_kept i_Ve (fun j hj => f8 j (by omega)) (congrFun (f8 96 (by omega)) 0) (f9 0 32 (by omega)) (funext fun k => f9 18 k (by omega)) (funext fun k => f9 19 k (by omega)) (funext fun k => f9 20 k (by omega)) (funext fun k => f9 21 k (by omega))), (iMk_kept i_Mk (fun j hj => f8 j (by omega)) (congrFun (f8 60 (by omega)) 2) (f9 0 16 (by omega)) (funext fun k => f9 12 k (by omega)) (funext fun k => f9 13 k (by omega)))⟩, trivial⟩
set_option maxHeartbeats 4000000 in
theorem st_hand {MC MR : zM} {a0 : Int} (hI : INV MC MR) (v0 : (-2147483648) ≤ a0 ∧ a0 ≤ 2147483647) : wC_hand a0 MC (fun z => wR_hand a0 MR (fun z9 M9 => INV MC M9 ∧ True)) := by
  obtain ⟨i0, i1, i_Mo, i_Tx, i_Ha, i_Ri, i_Ve, i_Mk⟩ := id hI
  refine sC_hand hI.1  v0 (fun z p8 => ?_)
  refine sR_hand hI.2.1  v0 (fun z9 M9 h9 => ?_)
  obtain ⟨b9, f9, p9⟩ := h9
  exact ⟨⟨hI.1, b9, (by rw [show M9 9 = MR 9 from (funext fun k => f9 9 k (by omega)), show M9 10 = MR 10 from (funext fun k => f9 10 k (by omega)), show M9 11 = MR 11 from (funext fun k => f9 11 k (by omega))]; exact i_Mo), (by unfold iTx; rw [show M9 0 1 = MR 0 1 from (f9 0 1 (by omega)), show M9 1 = MR 1 from (funext fun k => f9 1 k (by omega))]; exact i_Tx), (by unfold iHa; rw [show M9 0 3 = MR 0 3 from (f9 0 3 (by omega)), show M9 2 = MR 2 from (funext fun k => f9 2 k (by omega))]; exact i_Ha), (iRi_kept i_Ri (fun j hj => rfl) rfl (f9 0 10 (by omega)) (funext fun k => f9 3 k (by omega)) (funext fun k => f9 4 k (by omega)) (funext fun k => f9 5 k (by omega)) (funext fun k => f9 6 k (by omega)) (funext fun k => f9 7 k (by omega)) (funext fun k => f9 8 k (by omega))), (iVe_kept i_Ve (fun j hj => rfl) rfl (f9 0 32 (by omega)) (funext fun k => f9 18 k (by omega)) (funext fun k => f9 19 k (by omega)) (funext fun k => f9 20 k (by omega)) (funext fun k => f9 21 k (by omega))), (iMk_kept i_Mk (fun j hj => rfl) rfl (f9 0 16 (by omega)) (funext fun k => f9 12 k (by omega)) (funext fun k => f9 13 k (by omega)))⟩, trivial⟩
set_option maxHeartbeats 4000000 in
theorem st_ring {MC MR : zM} {a0 : Int} {a1 : Int} (hI : INV MC MR) (v0 : (-2147483648) ≤ a0 ∧ a0 ≤ 2147483647) (v1 : (-2147483648) ≤ a1 ∧ a1 ≤ 2147483647) : wC_ring a0 a1 MC (fun z M8 => wR_ring a0 a1 MR (fun z9 M9 => INV M8 M9 ∧ z = z9)) := by
  obtain ⟨i0, i1, i_Mo, i_Tx, i_Ha, i_Ri, i_Ve, i_Mk⟩ := id hI
  refine fC_ring hI.1  v0 v1 (fun z M8 h8 => ?_)
  obtain ⟨b8, f8, p8⟩ := h8
  refine fR_ring hI.2.1  v0 v1 (fun z9 M9 h9 => ?_)
  obtain ⟨b9, f9, p9⟩ := h9
  have hb : 0 ≤ MC 30 1 ∧ MC 30 1 ≤ 24 := BN.at hI.1 (rfl : zcd wC 30 = 6) rfl
  have hs := ri_ring i_Ri i_Ha hb p8 p9
  exact ⟨⟨b8, b9, (by rw [show M8 35 = MC 35 from f8 35 (by omega), show M8 36 = MC 36 from f8 36 (by omega), show M8 37 = MC 37 from f8 37 (by omega), show M8 38 = MC 38 from f8 38 (by omega), show M8 39 = MC 39 from f8 39 (by omega), show M8 40 = MC 40 from f8 40 (by omega), show M9 9 = MR 9 from (funext fun k => f9 9 k (by omega)), show M9 10 = MR 10 from (funext fun k => f9 10 k (by omega)), show M9 11 = MR 11 from (funext fun k => f9 11 k (by omega))]; exact i_Mo), (by unfold iTx; rw [show M8 1 = MC 1 from f8 1 (by omega), show M8 2 = MC 2 from f8 2 (by omega), show M9 0 1 = MR 0 1 from (f9 0 1 (by omega)), show M9 1 = MR 1 from (funext fun k => f9 1 k (by omega))]; exact i_Tx), (by unfold iHa; rw [show M8 30 = MC 30 from f8 30 (by omega), show M8 31 = MC 31 from f8 31 (by omega), show M9 0 3 = MR 0 3 from (f9 0 3 (by omega)), show M9 2 = MR 2 from (funext fun k => f9 2 k (by omega))]; exact i_Ha), hs.2, (iVe_kept i_Ve (fun j hj => f8 j (by omega)) (congrFun (f8 96 (by omega)) 0) (f9 0 32 (by omega)) (funext fun k => f9 18 k (by omega)) (funext fun k => f9 19 k (by omega)) (funext fun k => f9 20 k (by omega)) (funext fun k => f9 21 k (by omega))), (iMk_kept i_Mk (fun j hj => f8 j (by omega)) (congrFun (f8 60 (by omega)) 2) (f9 0 16 (by omega)) (funext fun k => f9 12 k (by omega)) (funext fun k => f9 13 k (by omega)))⟩, hs.1⟩
set_option maxHeartbeats 4000000 in
theorem st_over {MC MR : zM} {a0 : Int} {a1 : Int} {a2 : Int} (hI : INV MC MR) (v0 : (-2147483648) ≤ a0 ∧ a0 ≤ 2147483647) (v1 : (-2147483648) ≤ a1 ∧ a1 ≤ 2147483647) (v2 : (-2147483648) ≤ a2 ∧ a2 ≤ 2147483647) : wC_over a0 a1 a2 MC (fun z M8 => wR_over a0 a1 a2 MR (fun z9 M9 => INV M8 M9 ∧ z = z9)) := by
  obtain ⟨i0, i1, i_Mo, i_Tx, i_Ha, i_Ri, i_Ve, i_Mk⟩ := id hI
  refine fC_over hI.1  v0 v1 v2 (fun z M8 h8 => ?_)
  obtain ⟨b8, f8, p8⟩ := h8
  refine fR_over hI.2.1  v0 v1 v2 (fun z9 M9 h9 => ?_)
  obtain ⟨b9, f9, p9⟩ := h9
  have hs := ri_over i_Ri i_Ha p8 f9 p9
  exact ⟨⟨b8, b9, (by rw [show M8 35 = MC 35 from f8 35 (by omega), show M8 36 = MC 36 from f8 36 (by omega), show M8 37 = MC 37 from f8 37 (by omega), show M8 38 = MC 38 from f8 38 (by omega), show M8 39 = MC 39 from f8 39 (by omega), show M8 40 = MC 40 from f8 40 (by omega), show M9 9 = MR 9 from (funext fun k => f9 9 k (by omega)), show M9 10 = MR 10 from (funext fun k => f9 10 k (by omega)), show M9 11 = MR 11 from (funext fun k => f9 11 k (by omega))]; exact i_Mo), (by unfold iTx; rw [show M8 1 = MC 1 from f8 1 (by omega), show M8 2 = MC 2 from f8 2 (by omega), show M9 0 1 = MR 0 1 from (f9 0 1 (by omega)), show M9 1 = MR 1 from (funext fun k => f9 1 k (by omega))]; exact i_Tx), (by unfold iHa; rw [show M8 30 = MC 30 from f8 30 (by omega), show M8 31 = MC 31 from f8 31 (by omega), show M9 0 3 = MR 0 3 from (f9 0 3 (by omega)), show M9 2 = MR 2 from (funext fun k => f9 2 k (by omega))]; exact i_Ha), hs.2, (iVe_kept i_Ve (fun j hj => f8 j (by omega)) (congrFun (f8 96 (by omega)) 0) (f9 0 32 (by omega)) (funext fun k => f9 18 k (by omega)) (funext fun k => f9 19 k (by omega)) (funext fun k => f9 20 k (by omega)) (funext fun k => f9 21 k (by omega))), (iMk_kept i_Mk (fun j hj => f8 j (by omega)) (congrFun (f8 60 (by omega)) 2) (f9 0 16 (by omega)) (funext fun k => f9 12 k (by omega)) (funext fun k => f9 13 k (by omega)))⟩, hs.1⟩
set_option maxHeartbeats 4000000 in
theorem st_set {MC MR : zM} {a0 : Int} {a1 : Int} {a2 : Int} (hI : INV MC MR) (v0 : (-2147483648) ≤ a0 ∧ a0 ≤ 2147483647) (v1 : (-2147483648) ≤ a1 ∧ a1 ≤ 2147483647) (v2 : (-2147483648) ≤ a2 ∧ a2 ≤ 2147483647) : wC_set a0 a1 a2 MC (fun z M8 => wR_set a0 a1 a2 MR (fun z9 M9 => INV M8 M9 ∧ z = z9)) := by
  obtain ⟨i0, i1, i_Mo, i_Tx, i_Ha, i_Ri, i_Ve, i_Mk⟩ := id hI
  refine fC_set hI.1  v0 v1 v2 (fun z M8 h8 => ?_)
  obtain ⟨b8, f8, p8⟩ := h8
  refine fR_set hI.2.1  v0 v1 v2 (fun z9 M9 h9 => ?_)
  obtain ⟨b9, f9, p9⟩ := h9
  have hs := ri_set i_Ri p8 f9 p9
  exact ⟨⟨b8, b9, (by rw [show M8 35 = MC 35 from f8 35 (by omega), show M8 36 = MC 36 from f8 36 (by omega), show M8 37 = MC 37 from f8 37 (by omega), show M8 38 = MC 38 from f8 38 (by omega), show M8 39 = MC 39 from f8 39 (by omega), show M8 40 = MC 40 from f8 40 (by omega), show M9 9 = MR 9 from (funext fun k => f9 9 k (by omega)), show M9 10 = MR 10 from (funext fun k => f9 10 k (by omega)), show M9 11 = MR 11 from (funext fun k => f9 11 k (by omega))]; exact i_Mo), (by unfold iTx; rw [show M8 1 = MC 1 from f8 1 (by omega), show M8 2 = MC 2 from f8 2 (by omega), show M9 0 1 = MR 0 1 from (f9 0 1 (by omega)), show M9 1 = MR 1 from (funext fun k => f9 1 k (by omega))]; exact i_Tx), (by unfold iHa; rw [show M8 30 = MC 30 from f8 30 (by omega), show M8 31 = MC 31 from f8 31 (by omega), show M9 0 3 = MR 0 3 from (f9 0 3 (by omega)), show M9 2 = MR 2 from (funext fun k => f9 2 k (by omega))]; exact i_Ha), hs.2, (iVe_kept i_Ve (fun j hj => f8 j (by omega)) (congrFun (f8 96 (by omega)) 0) (f9 0 32 (by omega)) (funext fun k => f9 18 k (by omega)) (funext fun k => f9 19 k (by omega)) (funext fun k => f9 20 k (by omega)) (funext fun k => f9 21 k (by omega))), (iMk_kept i_Mk (fun j hj => f8 j (by omega)) (congrFun (f8 60 (by omega)) 2) (f9 0 16 (by omega)) (funext fun k => f9 12 k (by omega)) (funext fun k => f9 13 k (by omega)))⟩, hs.1⟩
set_option maxHeartbeats 4000000 in
theorem st_head {MC MR : zM} {a0 : Int} {a1 : Int} {a2 : Int} (hI : INV MC MR) (v0 : (-2147483648) ≤ a0 ∧ a0 ≤ 2147483647) (v1 : (-2147483648) ≤ a1 ∧ a1 ≤ 2147483647) (v2 : (-2147483648) ≤ a2 ∧ a2 ≤ 2147483647) : wC_head a0 a1 a2 MC (fun z M8 => wR_head a0 a1 a2 MR (fun z9 M9 => INV M8 M9 ∧ z = z9)) := by
  obtain ⟨i0, i1, i_Mo, i_Tx, i_Ha, i_Ri, i_Ve, i_Mk⟩ := id hI
  refine fC_head hI.1 (ri_len i_Ri) v0 v1 v2 (fun z M8 h8 => ?_)
  obtain ⟨b8, f8, p8⟩ := h8
  refine fR_head hI.2.1  v0 v1 v2 (fun z9 M9 h9 => ?_)
  obtain ⟨b9, f9, p9⟩ := h9
  have hs := ri_head i_Ri f8 p8 f9 p9
  exact ⟨⟨b8, b9, (by rw [show M8 35 = MC 35 from f8 35 (by omega), show M8 36 = MC 36 from f8 36 (by omega), show M8 37 = MC 37 from f8 37 (by omega), show M8 38 = MC 38 from f8 38 (by omega), show M8 39 = MC 39 from f8 39 (by omega), show M8 40 = MC 40 from f8 40 (by omega), show M9 9 = MR 9 from (funext fun k => f9 9 k (by omega)), show M9 10 = MR 10 from (funext fun k => f9 10 k (by omega)), show M9 11 = MR 11 from (funext fun k => f9 11 k (by omega))]; exact i_Mo), (by unfold iTx; rw [show M8 1 = MC 1 from f8 1 (by omega), show M8 2 = MC 2 from f8 2 (by omega), show M9 0 1 = MR 0 1 from (f9 0 1 (by omega)), show M9 1 = MR 1 from (funext fun k => f9 1 k (by omega))]; exact i_Tx), (by unfold iHa; rw [show M8 30 = MC 30 from f8 30 (by omega), show M8 31 = MC 31 from f8 31 (by omega), show M9 0 3 = MR 0 3 from (f9 0 3 (by omega)), show M9 2 = MR 2 from (funext fun k => f9 2 k (by omega))]; exact i_Ha), hs.2, (iVe_kept i_Ve (fun j hj => f8 j (by omega)) (congrFun (f8 96 (by omega)) 0) (f9 0 32 (by omega)) (funext fun k => f9 18 k (by omega)) (funext fun k => f9 19 k (by omega)) (funext fun k => f9 20 k (by omega)) (funext fun k => f9 21 k (by omega))), (iMk_kept i_Mk (fun j hj => f8 j (by omega)) (congrFun (f8 60 (by omega)) 2) (f9 0 16 (by omega)) (funext fun k => f9 12 k (by omega)) (funext fun k => f9 13 k (by omega)))⟩, hs.1⟩
set_option maxHeartbeats 4000000 in
theorem st_motor {MC MR : zM} {a0 : Int} {a1 : Int} {a2 : Int} (hI : INV MC MR) (v0 : (-2147483648) ≤ a0 ∧ a0 ≤ 2147483647) (v1 : (-2147483648) ≤ a1 ∧ a1 ≤ 2147483647) (v2 : (-2147483648) ≤ a2 ∧ a2 ≤ 2147483647) : wC_motor a0 a1 a2 MC (fun z M8 => wR_motor a0 a1 a2 MR (fun z9 M9 => INV M8 M9 ∧ z = z9)) := by
  obtain ⟨i0, i1, i_Mo, i_Tx, i_Ha, i_Ri, i_Ve, i_Mk⟩ := id hI
  refine fC_motor hI.1  v0 v1 v2 (fun z M8 h8 => ?_)
  obtain ⟨b8, f8, p8⟩ := h8
  refine fR_motor hI.2.1  v0 v1 v2 (fun z9 M9 h9 => ?_)
  obtain ⟨b9, f9, p9⟩ := h9
  have u1 : 0 ≤ MC 35 2 ∧ MC 35 2 ≤ 12 := BN.at hI.1 (rfl : zcd wC 35 = 11) rfl
  have u2 : 0 ≤ MC 38 2 ∧ MC 38 2 ≤ 12 := BN.at hI.1 (rfl : zcd wC 38 = 11) rfl
  have hs := mo_step u1.2 u2.2 i_Mo p8 p9
  exact ⟨⟨b8, b9, hs.2, (by unfold iTx; rw [show M8 1 = MC 1 from f8 1 (by omega), show M8 2 = MC 2 from f8 2 (by omega), show M9 0 1 = MR 0 1 from (f9 0 1 (by omega)), show M9 1 = MR 1 from (funext fun k => f9 1 k (by omega))]; exact i_Tx), (by unfold iHa; rw [show M8 30 = MC 30 from f8 30 (by omega), show M8 31 = MC 31 from f8 31 (by omega), show M9 0 3 = MR 0 3 from (f9 0 3 (by omega)), show M9 2 = MR 2 from (funext fun k => f9 2 k (by omega))]; exact i_Ha), (iRi_kept i_Ri (fun j hj => f8 j (by omega)) (congrFun (f8 32 (by omega)) 2) (f9 0 10 (by omega)) (funext fun k => f9 3 k (by omega)) (funext fun k => f9 4 k (by omega)) (funext fun k => f9 5 k (by omega)) (funext fun k => f9 6 k (by omega)) (funext fun k => f9 7 k (by omega)) (funext fun k => f9 8 k (by omega))), (iVe_kept i_Ve (fun j hj => f8 j (by omega)) (congrFun (f8 96 (by omega)) 0) (f9 0 32 (by omega)) (funext fun k => f9 18 k (by omega)) (funext fun k => f9 19 k (by omega)) (funext fun k => f9 20 k (by omega)) (funext fun k => f9 21 k (by omega))), (iMk_kept i_Mk (fun j hj => f8 j (by omega)) (congrFun (f8 60 (by omega)) 2) (f9 0 16 (by omega)) (funext fun k => f9 12 k (by omega)) (funext fun k => f9 13 k (by omega)))⟩, hs.1⟩
set_option maxHeartbeats 4000000 in
theorem st_clear {MC MR : zM}  (hI : INV MC MR)  : wC_clear  MC (fun z M8 => wR_clear  MR (fun z9 M9 => INV M8 M9 ∧ z = z9)) := by
  obtain ⟨i0, i1, i_Mo, i_Tx, i_Ha, i_Ri, i_Ve, i_Mk⟩ := id hI
  refine sC_clear hI.1   (fun z M8 h8 => ?_)
  obtain ⟨b8, f8, p8⟩ := h8
  refine fR_clear hI.2.1   (fun z9 M9 h9 => ?_)
  obtain ⟨b9, f9, p9⟩ := h9
  have r1 := i_Ri.1
  have q8 := p8.2
  have q9 := p9.2
  obtain ⟨x1, x2, x3, x4, x5, -⟩ := q8
  obtain ⟨y1, y2, y3, y4, y5⟩ := q9
  exact ⟨⟨b8, b9, (mo_clear (A := M8 35) (B := M8 36) (C := M8 37) (D := M8 38) (E := M8 39) (F := M8 40) (R9 := M9 9) (R10 := M9 10) (R11 := M9 11) (by omega) (by omega) y3 y4), (by unfold iTx; rw [show M8 1 = MC 1 from f8 1 (by omega), show M8 2 = MC 2 from f8 2 (by omega), show M9 0 1 = MR 0 1 from (f9 0 1 (by omega)), show M9 1 = MR 1 from (funext fun k => f9 1 k (by omega))]; exact i_Tx), (by unfold iHa; rw [show M8 30 = MC 30 from f8 30 (by omega), show M8 31 = MC 31 from f8 31 (by omega), show M9 0 3 = MR 0 3 from (f9 0 3 (by omega)), show M9 2 = MR 2 from (funext fun k => f9 2 k (by omega))]; exact i_Ha), ⟨by omega, by omega, fun r hr => absurd hr (by omega)⟩, (iVe_kept i_Ve (fun j hj => f8 j (by omega)) (congrFun (f8 96 (by omega)) 0) (f9 0 32 (by omega)) (funext fun k => f9 18 k (by omega)) (funext fun k => f9 19 k (by omega)) (funext fun k => f9 20 k (by omega)) (funext fun k => f9 21 k (by omega))), ⟨by omega, fun r hr => absurd hr (by omega)⟩⟩, (by omega)⟩
set_option maxHeartbeats 4000000 in
theorem st_count {MC MR : zM} {a0 : Int} (hI : INV MC MR) (v0 : (-2147483648) ≤ a0 ∧ a0 ≤ 2147483647) : wC_count a0 MC (fun z => wR_count a0 MR (fun z9 M9 => INV MC M9 ∧ True)) := by
  obtain ⟨i0, i1, i_Mo, i_Tx, i_Ha, i_Ri, i_Ve, i_Mk⟩ := id hI
  refine sC_count hI.1  v0 (fun z p8 => ?_)
  refine sR_count hI.2.1  v0 (fun z9 M9 h9 => ?_)
  obtain ⟨b9, f9, p9⟩ := h9
  exact ⟨⟨hI.1, b9, (by rw [show M9 9 = MR 9 from (funext fun k => f9 9 k (by omega)), show M9 10 = MR 10 from (funext fun k => f9 10 k (by omega)), show M9 11 = MR 11 from (funext fun k => f9 11 k (by omega))]; exact i_Mo), (by unfold iTx; rw [show M9 0 1 = MR 0 1 from (f9 0 1 (by omega)), show M9 1 = MR 1 from (funext fun k => f9 1 k (by omega))]; exact i_Tx), (by unfold iHa; rw [show M9 0 3 = MR 0 3 from (f9 0 3 (by omega)), show M9 2 = MR 2 from (funext fun k => f9 2 k (by omega))]; exact i_Ha), (iRi_kept i_Ri (fun j hj => rfl) rfl (f9 0 10 (by omega)) (funext fun k => f9 3 k (by omega)) (funext fun k => f9 4 k (by omega)) (funext fun k => f9 5 k (by omega)) (funext fun k => f9 6 k (by omega)) (funext fun k => f9 7 k (by omega)) (funext fun k => f9 8 k (by omega))), (iVe_kept i_Ve (fun j hj => rfl) rfl (f9 0 32 (by omega)) (funext fun k => f9 18 k (by omega)) (funext fun k => f9 19 k (by omega)) (funext fun k => f9 20 k (by omega)) (funext fun k => f9 21 k (by omega))), (iMk_kept i_Mk (fun j hj => rfl) rfl (f9 0 16 (by omega)) (funext fun k => f9 12 k (by omega)) (funext fun k => f9 13 k (by omega)))⟩, trivial⟩
set_option maxHeartbeats 4000000 in
theorem st_of {MC MR : zM} {a0 : Int} {a1 : Int} (hI : INV MC MR) (v0 : (-2147483648) ≤ a0 ∧ a0 ≤ 2147483647) (v1 : (-2147483648) ≤ a1 ∧ a1 ≤ 2147483647) : wC_of a0 a1 MC (fun z => wR_of a0 a1 MR (fun z9 M9 => INV MC M9 ∧ True)) (wR_of a0 a1 MR (fun z9 M9 => INV MC M9 ∧ True)) := by
  obtain ⟨i0, i1, i_Mo, i_Tx, i_Ha, i_Ri, i_Ve, i_Mk⟩ := id hI
  have hx : wR_of a0 a1 MR (fun z9 M9 => INV MC M9 ∧ True) := by
    refine sR_of hI.2.1 v0 v1 (fun z9 M9 h9 => ?_)
    obtain ⟨b9, f9, p9⟩ := h9
    exact ⟨⟨hI.1, b9, (by rw [show M9 9 = MR 9 from (funext fun k => f9 9 k (by omega)), show M9 10 = MR 10 from (funext fun k => f9 10 k (by omega)), show M9 11 = MR 11 from (funext fun k => f9 11 k (by omega))]; exact i_Mo), (by unfold iTx; rw [show M9 0 1 = MR 0 1 from (f9 0 1 (by omega)), show M9 1 = MR 1 from (funext fun k => f9 1 k (by omega))]; exact i_Tx), (by unfold iHa; rw [show M9 0 3 = MR 0 3 from (f9 0 3 (by omega)), show M9 2 = MR 2 from (funext fun k => f9 2 k (by omega))]; exact i_Ha), (iRi_kept i_Ri (fun j hj => rfl) rfl (f9 0 10 (by omega)) (funext fun k => f9 3 k (by omega)) (funext fun k => f9 4 k (by omega)) (funext fun k => f9 5 k (by omega)) (funext fun k => f9 6 k (by omega)) (funext fun k => f9 7 k (by omega)) (funext fun k => f9 8 k (by omega))), (iVe_kept i_Ve (fun j hj => rfl) rfl (f9 0 32 (by omega)) (funext fun k => f9 18 k (by omega)) (funext fun k => f9 19 k (by omega)) (funext fun k => f9 20 k (by omega)) (funext fun k => f9 21 k (by omega))), (iMk_kept i_Mk (fun j hj => rfl) rfl (f9 0 16 (by omega)) (funext fun k => f9 12 k (by omega)) (funext fun k => f9 13 k (by omega)))⟩, trivial⟩
  exact sC_of hI.1 v0 v1 hx (fun z h8 => hx)
set_option maxHeartbeats 4000000 in
theorem st_inch {MC MR : zM} {a0 : Int} {a1 : Int} (hI : INV MC MR) (v0 : (-2147483648) ≤ a0 ∧ a0 ≤ 2147483647) (v1 : (-2147483648) ≤ a1 ∧ a1 ≤ 2147483647) : wC_inch a0 a1 MC (fun z => wR_inch a0 a1 MR (fun z9 M9 => INV MC M9 ∧ True)) := by
  obtain ⟨i0, i1, i_Mo, i_Tx, i_Ha, i_Ri, i_Ve, i_Mk⟩ := id hI
  refine sC_inch hI.1  v0 v1 (fun z p8 => ?_)
  refine sR_inch hI.2.1  v0 v1 (fun z9 M9 h9 => ?_)
  obtain ⟨b9, f9, p9⟩ := h9
  exact ⟨⟨hI.1, b9, (by rw [show M9 9 = MR 9 from (funext fun k => f9 9 k (by omega)), show M9 10 = MR 10 from (funext fun k => f9 10 k (by omega)), show M9 11 = MR 11 from (funext fun k => f9 11 k (by omega))]; exact i_Mo), (by unfold iTx; rw [show M9 0 1 = MR 0 1 from (f9 0 1 (by omega)), show M9 1 = MR 1 from (funext fun k => f9 1 k (by omega))]; exact i_Tx), (by unfold iHa; rw [show M9 0 3 = MR 0 3 from (f9 0 3 (by omega)), show M9 2 = MR 2 from (funext fun k => f9 2 k (by omega))]; exact i_Ha), (iRi_kept i_Ri (fun j hj => rfl) rfl (f9 0 10 (by omega)) (funext fun k => f9 3 k (by omega)) (funext fun k => f9 4 k (by omega)) (funext fun k => f9 5 k (by omega)) (funext fun k => f9 6 k (by omega)) (funext fun k => f9 7 k (by omega)) (funext fun k => f9 8 k (by omega))), (iVe_kept i_Ve (fun j hj => rfl) rfl (f9 0 32 (by omega)) (funext fun k => f9 18 k (by omega)) (funext fun k => f9 19 k (by omega)) (funext fun k => f9 20 k (by omega)) (funext fun k => f9 21 k (by omega))), (iMk_kept i_Mk (fun j hj => rfl) rfl (f9 0 16 (by omega)) (funext fun k => f9 12 k (by omega)) (funext fun k => f9 13 k (by omega)))⟩, trivial⟩
set_option maxHeartbeats 4000000 in
theorem st_way {MC MR : zM} {a0 : Int} {a1 : Int} (hI : INV MC MR) (v0 : (-2147483648) ≤ a0 ∧ a0 ≤ 2147483647) (v1 : (-2147483648) ≤ a1 ∧ a1 ≤ 2147483647) : wC_way a0 a1 MC (fun z => wR_way a0 a1 MR (fun z9 M9 => INV MC M9 ∧ True)) (wR_way a0 a1 MR (fun z9 M9 => INV MC M9 ∧ True)) := by
  obtain ⟨i0, i1, i_Mo, i_Tx, i_Ha, i_Ri, i_Ve, i_Mk⟩ := id hI
  have hx : wR_way a0 a1 MR (fun z9 M9 => INV MC M9 ∧ True) := by
    refine sR_way hI.2.1 v0 v1 (fun z9 M9 h9 => ?_)
    obtain ⟨b9, f9, p9⟩ := h9
    exact ⟨⟨hI.1, b9, (by rw [show M9 9 = MR 9 from (funext fun k => f9 9 k (by omega)), show M9 10 = MR 10 from (funext fun k => f9 10 k (by omega)), show M9 11 = MR 11 from (funext fun k => f9 11 k (by omega))]; exact i_Mo), (by unfold iTx; rw [show M9 0 1 = MR 0 1 from (f9 0 1 (by omega)), show M9 1 = MR 1 from (funext fun k => f9 1 k (by omega))]; exact i_Tx), (by unfold iHa; rw [show M9 0 3 = MR 0 3 from (f9 0 3 (by omega)), show M9 2 = MR 2 from (funext fun k => f9 2 k (by omega))]; exact i_Ha), (iRi_kept i_Ri (fun j hj => rfl) rfl (f9 0 10 (by omega)) (funext fun k => f9 3 k (by omega)) (funext fun k => f9 4 k (by omega)) (funext fun k => f9 5 k (by omega)) (funext fun k => f9 6 k (by omega)) (funext fun k => f9 7 k (by omega)) (funext fun k => f9 8 k (by omega))), (iVe_kept i_Ve (fun j hj => rfl) rfl (f9 0 32 (by omega)) (funext fun k => f9 18 k (by omega)) (funext fun k => f9 19 k (by omega)) (funext fun k => f9 20 k (by omega)) (funext fun k => f9 21 k (by omega))), (iMk_kept i_Mk (fun j hj => rfl) rfl (f9 0 16 (by omega)) (funext fun k => f9 12 k (by omega)) (funext fun k => f9 13 k (by omega)))⟩, trivial⟩
  exact sC_way hI.1 v0 v1 hx (fun z h8 => hx)
set_option maxHeartbeats 4000000 in
theorem st_heard {MC MR : zM} {a0 : Int} {a1 : Int} (hI : INV MC MR) (v0 : (-2147483648) ≤ a0 ∧ a0 ≤ 2147483647) (v1 : (-9223372036854775808) ≤ a1 ∧ a1 ≤ 9223372036854775807) : wC_heard a0 a1 MC (fun z => wR_heard a0 a1 MR (fun z9 M9 => INV MC M9 ∧ True)) := by
  obtain ⟨i0, i1, i_Mo, i_Tx, i_Ha, i_Ri, i_Ve, i_Mk⟩ := id hI
  refine sC_heard hI.1  v0 v1 (fun z p8 => ?_)
  refine sR_heard hI.2.1  v0 v1 (fun z9 M9 h9 => ?_)
  obtain ⟨b9, f9, p9⟩ := h9
  exact ⟨⟨hI.1, b9, (by rw [show M9 9 = MR 9 from (funext fun k => f9 9 k (by omega)), show M9 10 = MR 10 from (funext fun k => f9 10 k (by omega)), show M9 11 = MR 11 from (funext fun k => f9 11 k (by omega))]; exact i_Mo), (by unfold iTx; rw [show M9 0 1 = MR 0 1 from (f9 0 1 (by omega)), show M9 1 = MR 1 from (funext fun k => f9 1 k (by omega))]; exact i_Tx), (by unfold iHa; rw [show M9 0 3 = MR 0 3 from (f9 0 3 (by omega)), show M9 2 = MR 2 from (funext fun k => f9 2 k (by omega))]; exact i_Ha), (iRi_kept i_Ri (fun j hj => rfl) rfl (f9 0 10 (by omega)) (funext fun k => f9 3 k (by omega)) (funext fun k => f9 4 k (by omega)) (funext fun k => f9 5 k (by omega)) (funext fun k => f9 6 k (by omega)) (funext fun k => f9 7 k (by omega)) (funext fun k => f9 8 k (by omega))), (iVe_kept i_Ve (fun j hj => rfl) rfl (f9 0 32 (by omega)) (funext fun k => f9 18 k (by omega)) (funext fun k => f9 19 k (by omega)) (funext fun k => f9 20 k (by omega)) (funext fun k => f9 21 k (by omega))), (iMk_kept i_Mk (fun j hj => rfl) rfl (f9 0 16 (by omega)) (funext fun k => f9 12 k (by omega)) (funext fun k => f9 13 k (by omega)))⟩, trivial⟩
set_option maxHeartbeats 4000000 in
theorem st_all {MC MR : zM}  (hI : INV MC MR)  : wC_all  MC (fun z M8 => wR_all  MR (fun z9 M9 => INV M8 M9 ∧ True)) := by
  obtain ⟨i0, i1, i_Mo, i_Tx, i_Ha, i_Ri, i_Ve, i_Mk⟩ := id hI
  refine sC_all hI.1   (fun z M8 h8 => ?_)
  obtain ⟨b8, f8, p8⟩ := h8
  refine sR_all hI.2.1   (fun z9 M9 h9 => ?_)
  obtain ⟨b9, f9, p9⟩ := h9
  exact ⟨⟨b8, b9, (by rw [show M8 35 = MC 35 from f8 35 (by omega), show M8 36 = MC 36 from f8 36 (by omega), show M8 37 = MC 37 from f8 37 (by omega), show M8 38 = MC 38 from f8 38 (by omega), show M8 39 = MC 39 from f8 39 (by omega), show M8 40 = MC 40 from f8 40 (by omega), show M9 9 = MR 9 from (funext fun k => f9 9 k (by omega)), show M9 10 = MR 10 from (funext fun k => f9 10 k (by omega)), show M9 11 = MR 11 from (funext fun k => f9 11 k (by omega))]; exact i_Mo), (by unfold iTx; rw [show M8 1 = MC 1 from f8 1 (by omega), show M8 2 = MC 2 from f8 2 (by omega), show M9 0 1 = MR 0 1 from (f9 0 1 (by omega)), show M9 1 = MR 1 from (funext fun k => f9 1 k (by omega))]; exact i_Tx), (by unfold iHa; rw [show M8 30 = MC 30 from f8 30 (by omega), show M8 31 = MC 31 from f8 31 (by omega), show M9 0 3 = MR 0 3 from (f9 0 3 (by omega)), show M9 2 = MR 2 from (funext fun k => f9 2 k (by omega))]; exact i_Ha), (iRi_kept i_Ri (fun j hj => f8 j (by omega)) (congrFun (f8 32 (by omega)) 2) (f9 0 10 (by omega)) (funext fun k => f9 3 k (by omega)) (funext fun k => f9 4 k (by omega)) (funext fun k => f9 5 k (by omega)) (funext fun k => f9 6 k (by omega)) (funext fun k => f9 7 k (by omega)) (funext fun k => f9 8 k (by omega))), (iVe_kept i_Ve (fun j hj => f8 j (by omega)) (congrFun (f8 96 (by omega)) 0) (f9 0 32 (by omega)) (funext fun k => f9 18 k (by omega)) (funext fun k => f9 19 k (by omega)) (funext fun k => f9 20 k (by omega)) (funext fun k => f9 21 k (by omega))), (iMk_kept i_Mk (fun j hj => f8 j (by omega)) (congrFun (f8 60 (by omega)) 2) (f9 0 16 (by omega)) (funext fun k => f9 12 k (by omega)) (funext fun k => f9 13 k (by omega)))⟩, trivial⟩
set_option maxHeartbeats 4000000 in
theorem st_wish {MC MR : zM} {a0 : Int} {a1 : Int} (hI : INV MC MR) (v0 : (-2147483648) ≤ a0 ∧ a0 ≤ 2147483647) (v1 : (-2147483648) ≤ a1 ∧ a1 ≤ 2147483647) : wC_wish a0 a1 MC (fun z M8 => wR_wish a0 a1 MR (fun z9 M9 => INV M8 M9 ∧ z = z9)) := by
  obtain ⟨i0, i1, i_Mo, i_Tx, i_Ha, i_Ri, i_Ve, i_Mk⟩ := id hI
  refine fC_wish hI.1  v0 v1 (fun z M8 h8 => ?_)
  obtain ⟨b8, f8, p8⟩ := h8
  refine fR_wish hI.2.1  v0 v1 (fun z9 M9 h9 => ?_)
  obtain ⟨b9, f9, p9⟩ := h9
  have hs := ri_wish i_Ri p8 f9 p9
  exact ⟨⟨b8, b9, (by rw [show M8 35 = MC 35 from f8 35 (by omega), show M8 36 = MC 36 from f8 36 (by omega), show M8 37 = MC 37 from f8 37 (by omega), show M8 38 = MC 38 from f8 38 (by omega), show M8 39 = MC 39 from f8 39 (by omega), show M8 40 = MC 40 from f8 40 (by omega), show M9 9 = MR 9 from (funext fun k => f9 9 k (by omega)), show M9 10 = MR 10 from (funext fun k => f9 10 k (by omega)), show M9 11 = MR 11 from (funext fun k => f9 11 k (by omega))]; exact i_Mo), (by unfold iTx; rw [show M8 1 = MC 1 from f8 1 (by omega), show M8 2 = MC 2 from f8 2 (by omega), show M9 0 1 = MR 0 1 from (f9 0 1 (by omega)), show M9 1 = MR 1 from (funext fun k => f9 1 k (by omega))]; exact i_Tx), (by unfold iHa; rw [show M8 30 = MC 30 from f8 30 (by omega), show M8 31 = MC 31 from f8 31 (by omega), show M9 0 3 = MR 0 3 from (f9 0 3 (by omega)), show M9 2 = MR 2 from (funext fun k => f9 2 k (by omega))]; exact i_Ha), hs.2, (iVe_kept i_Ve (fun j hj => f8 j (by omega)) (congrFun (f8 96 (by omega)) 0) (f9 0 32 (by omega)) (funext fun k => f9 18 k (by omega)) (funext fun k => f9 19 k (by omega)) (funext fun k => f9 20 k (by omega)) (funext fun k => f9 21 k (by omega))), (iMk_kept i_Mk (fun j hj => f8 j (by omega)) (congrFun (f8 60 (by omega)) 2) (f9 0 16 (by omega)) (funext fun k => f9 12 k (by omega)) (funext fun k => f9 13 k (by omega)))⟩, hs.1⟩
set_option maxHeartbeats 4000000 in
theorem st_meets {MC MR : zM} {a0 : Int} (hI : INV MC MR) (v0 : (-9223372036854775808) ≤ a0 ∧ a0 ≤ 9223372036854775807) : wC_meets a0 MC (fun z M8 => wR_meets a0 MR (fun z9 M9 => INV M8 M9 ∧ True)) := by
  obtain ⟨i0, i1, i_Mo, i_Tx, i_Ha, i_Ri, i_Ve, i_Mk⟩ := id hI
  refine sC_meets hI.1  v0 (fun z M8 h8 => ?_)
  obtain ⟨b8, f8, p8⟩ := h8
  refine sR_meets hI.2.1  v0 (fun z9 M9 h9 => ?_)
  obtain ⟨b9, f9, p9⟩ := h9
  exact ⟨⟨b8, b9, (by rw [show M8 35 = MC 35 from f8 35 (by omega), show M8 36 = MC 36 from f8 36 (by omega), show M8 37 = MC 37 from f8 37 (by omega), show M8 38 = MC 38 from f8 38 (by omega), show M8 39 = MC 39 from f8 39 (by omega), show M8 40 = MC 40 from f8 40 (by omega), show M9 9 = MR 9 from (funext fun k => f9 9 k (by omega)), show M9 10 = MR 10 from (funext fun k => f9 10 k (by omega)), show M9 11 = MR 11 from (funext fun k => f9 11 k (by omega))]; exact i_Mo), (by unfold iTx; rw [show M8 1 = MC 1 from f8 1 (by omega), show M8 2 = MC 2 from f8 2 (by omega), show M9 0 1 = MR 0 1 from (f9 0 1 (by omega)), show M9 1 = MR 1 from (funext fun k => f9 1 k (by omega))]; exact i_Tx), (by unfold iHa; rw [show M8 30 = MC 30 from f8 30 (by omega), show M8 31 = MC 31 from f8 31 (by omega), show M9 0 3 = MR 0 3 from (f9 0 3 (by omega)), show M9 2 = MR 2 from (funext fun k => f9 2 k (by omega))]; exact i_Ha), (iRi_kept i_Ri (fun j hj => f8 j (by omega)) (congrFun (f8 32 (by omega)) 2) (f9 0 10 (by omega)) (funext fun k => f9 3 k (by omega)) (funext fun k => f9 4 k (by omega)) (funext fun k => f9 5 k (by omega)) (funext fun k => f9 6 k (by omega)) (funext fun k => f9 7 k (by omega)) (funext fun k => f9 8 k (by omega))), (iVe_kept i_Ve (fun j hj => f8 j (by omega)) (congrFun (f8 96 (by omega)) 0) (f9 0 32 (by omega)) (funext fun k => f9 18 k (by omega)) (funext fun k => f9 19 k (by omega)) (funext fun k => f9 20 k (by omega)) (funext fun k => f9 21 k (by omega))), (iMk_kept i_Mk (fun j hj => f8 j (by omega)) (congrFun (f8 60 (by omega)) 2) (f9 0 16 (by omega)) (funext fun k => f9 12 k (by omega)) (funext fun k => f9 13 k (by omega)))⟩, trivial⟩
set_option maxHeartbeats 4000000 in
theorem st_often {MC MR : zM}  (hI : INV MC MR)  : wC_often  MC (fun z M8 => wR_often  MR (fun z9 M9 => INV M8 M9 ∧ True)) := by
  obtain ⟨i0, i1, i_Mo, i_Tx, i_Ha, i_Ri, i_Ve, i_Mk⟩ := id hI
  refine sC_often hI.1   (fun z M8 h8 => ?_)
  obtain ⟨b8, f8, p8⟩ := h8
  refine sR_often hI.2.1   (fun z9 M9 h9 => ?_)
  obtain ⟨b9, f9, p9⟩ := h9
  exact ⟨⟨b8, b9, (by rw [show M8 35 = MC 35 from f8 35 (by omega), show M8 36 = MC 36 from f8 36 (by omega), show M8 37 = MC 37 from f8 37 (by omega), show M8 38 = MC 38 from f8 38 (by omega), show M8 39 = MC 39 from f8 39 (by omega), show M8 40 = MC 40 from f8 40 (by omega), show M9 9 = MR 9 from (funext fun k => f9 9 k (by omega)), show M9 10 = MR 10 from (funext fun k => f9 10 k (by omega)), show M9 11 = MR 11 from (funext fun k => f9 11 k (by omega))]; exact i_Mo), (by unfold iTx; rw [show M8 1 = MC 1 from f8 1 (by omega), show M8 2 = MC 2 from f8 2 (by omega), show M9 0 1 = MR 0 1 from (f9 0 1 (by omega)), show M9 1 = MR 1 from (funext fun k => f9 1 k (by omega))]; exact i_Tx), (by unfold iHa; rw [show M8 30 = MC 30 from f8 30 (by omega), show M8 31 = MC 31 from f8 31 (by omega), show M9 0 3 = MR 0 3 from (f9 0 3 (by omega)), show M9 2 = MR 2 from (funext fun k => f9 2 k (by omega))]; exact i_Ha), (iRi_kept i_Ri (fun j hj => f8 j (by omega)) (congrFun (f8 32 (by omega)) 2) (f9 0 10 (by omega)) (funext fun k => f9 3 k (by omega)) (funext fun k => f9 4 k (by omega)) (funext fun k => f9 5 k (by omega)) (funext fun k => f9 6 k (by omega)) (funext fun k => f9 7 k (by omega)) (funext fun k => f9 8 k (by omega))), (iVe_kept i_Ve (fun j hj => f8 j (by omega)) (congrFun (f8 96 (by omega)) 0) (f9 0 32 (by omega)) (funext fun k => f9 18 k (by omega)) (funext fun k => f9 19 k (by omega)) (funext fun k => f9 20 k (by omega)) (funext fun k => f9 21 k (by omega))), (iMk_kept i_Mk (fun j hj => f8 j (by omega)) (congrFun (f8 60 (by omega)) 2) (f9 0 16 (by omega)) (funext fun k => f9 12 k (by omega)) (funext fun k => f9 13 k (by omega)))⟩, trivial⟩
set_option maxHeartbeats 4000000 in
theorem st_mark {MC MR : zM} {a0 : Int} {a1 : Int} (hI : INV MC MR) (v0 : (-2147483648) ≤ a0 ∧ a0 ≤ 2147483647) (v1 : (-2147483648) ≤ a1 ∧ a1 ≤ 2147483647) : wC_mark a0 a1 MC (fun z M8 => wR_mark a0 a1 MR (fun z9 M9 => INV M8 M9 ∧ z = z9)) := by
  obtain ⟨i0, i1, i_Mo, i_Tx, i_Ha, i_Ri, i_Ve, i_Mk⟩ := id hI
  refine fC_mark hI.1  v0 v1 (fun z M8 h8 => ?_)
  obtain ⟨b8, f8, p8⟩ := h8
  refine fR_mark hI.2.1  v0 v1 (fun z9 M9 h9 => ?_)
  obtain ⟨b9, f9, p9⟩ := h9
  have hs := mk_mark i_Mk p8 p9
  exact ⟨⟨b8, b9, (by rw [show M8 35 = MC 35 from f8 35 (by omega), show M8 36 = MC 36 from f8 36 (by omega), show M8 37 = MC 37 from f8 37 (by omega), show M8 38 = MC 38 from f8 38 (by omega), show M8 39 = MC 39 from f8 39 (by omega), show M8 40 = MC 40 from f8 40 (by omega), show M9 9 = MR 9 from (funext fun k => f9 9 k (by omega)), show M9 10 = MR 10 from (funext fun k => f9 10 k (by omega)), show M9 11 = MR 11 from (funext fun k => f9 11 k (by omega))]; exact i_Mo), (by unfold iTx; rw [show M8 1 = MC 1 from f8 1 (by omega), show M8 2 = MC 2 from f8 2 (by omega), show M9 0 1 = MR 0 1 from (f9 0 1 (by omega)), show M9 1 = MR 1 from (funext fun k => f9 1 k (by omega))]; exact i_Tx), (by unfold iHa; rw [show M8 30 = MC 30 from f8 30 (by omega), show M8 31 = MC 31 from f8 31 (by omega), show M9 0 3 = MR 0 3 from (f9 0 3 (by omega)), show M9 2 = MR 2 from (funext fun k => f9 2 k (by omega))]; exact i_Ha), (iRi_kept i_Ri (fun j hj => f8 j (by omega)) (congrFun (f8 32 (by omega)) 2) (f9 0 10 (by omega)) (funext fun k => f9 3 k (by omega)) (funext fun k => f9 4 k (by omega)) (funext fun k => f9 5 k (by omega)) (funext fun k => f9 6 k (by omega)) (funext fun k => f9 7 k (by omega)) (funext fun k => f9 8 k (by omega))), (iVe_kept i_Ve (fun j hj => f8 j (by omega)) (congrFun (f8 96 (by omega)) 0) (f9 0 32 (by omega)) (funext fun k => f9 18 k (by omega)) (funext fun k => f9 19 k (by omega)) (funext fun k => f9 20 k (by omega)) (funext fun k => f9 21 k (by omega))), hs.2⟩, hs.1⟩
set_option maxHeartbeats 4000000 in
theorem st_kept {MC MR : zM}  (hI : INV MC MR)  : wC_kept  MC (fun z => wR_keptM  MR (fun z9 M9 => INV MC M9 ∧ True)) := by
  obtain ⟨i0, i1, i_Mo, i_Tx, i_Ha, i_Ri, i_Ve, i_Mk⟩ := id hI
  refine sC_kept hI.1   (fun z p8 => ?_)
  refine sR_keptM hI.2.1   (fun z9 M9 h9 => ?_)
  obtain ⟨b9, f9, p9⟩ := h9
  exact ⟨⟨hI.1, b9, (by rw [show M9 9 = MR 9 from (funext fun k => f9 9 k (by omega)), show M9 10 = MR 10 from (funext fun k => f9 10 k (by omega)), show M9 11 = MR 11 from (funext fun k => f9 11 k (by omega))]; exact i_Mo), (by unfold iTx; rw [show M9 0 1 = MR 0 1 from (f9 0 1 (by omega)), show M9 1 = MR 1 from (funext fun k => f9 1 k (by omega))]; exact i_Tx), (by unfold iHa; rw [show M9 0 3 = MR 0 3 from (f9 0 3 (by omega)), show M9 2 = MR 2 from (funext fun k => f9 2 k (by omega))]; exact i_Ha), (iRi_kept i_Ri (fun j hj => rfl) rfl (f9 0 10 (by omega)) (funext fun k => f9 3 k (by omega)) (funext fun k => f9 4 k (by omega)) (funext fun k => f9 5 k (by omega)) (funext fun k => f9 6 k (by omega)) (funext fun k => f9 7 k (by omega)) (funext fun k => f9 8 k (by omega))), (iVe_kept i_Ve (fun j hj => rfl) rfl (f9 0 32 (by omega)) (funext fun k => f9 18 k (by omega)) (funext fun k => f9 19 k (by omega)) (funext fun k => f9 20 k (by omega)) (funext fun k => f9 21 k (by omega))), (iMk_kept i_Mk (fun j hj => rfl) rfl (f9 0 16 (by omega)) (funext fun k => f9 12 k (by omega)) (funext fun k => f9 13 k (by omega)))⟩, trivial⟩
set_option maxHeartbeats 4000000 in
theorem st_plan {MC MR : zM}  (hI : INV MC MR)  : wC_plan  MC (fun z M8 => wR_plan  MR (fun z9 M9 => INV M8 M9 ∧ True)) := by
  obtain ⟨i0, i1, i_Mo, i_Tx, i_Ha, i_Ri, i_Ve, i_Mk⟩ := id hI
  refine fC_plan hI.1 (ri_len i_Ri)  (fun z M8 h8 => ?_)
  obtain ⟨b8, f8, p8⟩ := h8
  refine fR_plan hI.2.1   (fun z9 M9 h9 => ?_)
  obtain ⟨b9, f9, p9⟩ := h9
  obtain ⟨pl, p8⟩ := p8
  obtain ⟨pl9, p9⟩ := p9
  exact ⟨⟨b8, b9, (by rw [show M8 35 = MC 35 from f8 35 (by omega), show M8 36 = MC 36 from f8 36 (by omega), show M8 37 = MC 37 from f8 37 (by omega), show M8 38 = MC 38 from f8 38 (by omega), show M8 39 = MC 39 from f8 39 (by omega), show M8 40 = MC 40 from f8 40 (by omega), show M9 9 = MR 9 from (funext fun k => f9 9 k (by omega)), show M9 10 = MR 10 from (funext fun k => f9 10 k (by omega)), show M9 11 = MR 11 from (funext fun k => f9 11 k (by omega))]; exact i_Mo), (by unfold iTx; rw [show M8 1 = MC 1 from f8 1 (by omega), show M8 2 = MC 2 from f8 2 (by omega), show M9 0 1 = MR 0 1 from (f9 0 1 (by omega)), show M9 1 = MR 1 from (funext fun k => f9 1 k (by omega))]; exact i_Tx), (by unfold iHa; rw [show M8 30 = MC 30 from f8 30 (by omega), show M8 31 = MC 31 from f8 31 (by omega), show M9 0 3 = MR 0 3 from (f9 0 3 (by omega)), show M9 2 = MR 2 from (funext fun k => f9 2 k (by omega))]; exact i_Ha), (iRi_kept i_Ri (fun j hj => f8 j (by omega)) (congrFun (f8 32 (by omega)) 2) (f9 0 10 (by omega)) (funext fun k => f9 3 k (by omega)) (funext fun k => f9 4 k (by omega)) (funext fun k => f9 5 k (by omega)) (funext fun k => f9 6 k (by omega)) (funext fun k => f9 7 k (by omega)) (funext fun k => f9 8 k (by omega))), (iVe_kept i_Ve (fun j hj => f8 j (by omega)) (congrFun (f8 96 (by omega)) 0) (f9 0 32 (by omega)) (funext fun k => f9 18 k (by omega)) (funext fun k => f9 19 k (by omega)) (funext fun k => f9 20 k (by omega)) (funext fun k => f9 21 k (by omega))), (iMk_kept i_Mk (fun j hj => f8 j (by omega)) (congrFun (f8 60 (by omega)) 2) (f9 0 16 (by omega)) (funext fun k => f9 12 k (by omega)) (funext fun k => f9 13 k (by omega)))⟩, trivial⟩
set_option maxHeartbeats 4000000 in
theorem st_make {MC MR : zM}  (hI : INV MC MR)  : wC_make  MC (fun z M8 => wR_make  MR (fun z9 M9 => INV M8 M9 ∧ z = z9)) := by
  obtain ⟨i0, i1, i_Mo, i_Tx, i_Ha, i_Ri, i_Ve, i_Mk⟩ := id hI
  refine fC_make hI.1 (ri_len i_Ri)  (fun z M8 h8 => ?_)
  obtain ⟨b8, f8, p8⟩ := h8
  refine fR_make hI.2.1   (fun z9 M9 h9 => ?_)
  obtain ⟨b9, f9, p9⟩ := h9
  have hs := ri_make hI.1 i_Ri i_Mo i_Mk f8 p8 f9 p9
  exact ⟨⟨b8, b9, (by rw [show M8 35 = MC 35 from f8 35 (by omega), show M8 36 = MC 36 from f8 36 (by omega), show M8 37 = MC 37 from f8 37 (by omega), show M8 38 = MC 38 from f8 38 (by omega), show M8 39 = MC 39 from f8 39 (by omega), show M8 40 = MC 40 from f8 40 (by omega), show M9 9 = MR 9 from (funext fun k => f9 9 k (by omega)), show M9 10 = MR 10 from (funext fun k => f9 10 k (by omega)), show M9 11 = MR 11 from (funext fun k => f9 11 k (by omega))]; exact i_Mo), (by unfold iTx; rw [show M8 1 = MC 1 from f8 1 (by omega), show M8 2 = MC 2 from f8 2 (by omega), show M9 0 1 = MR 0 1 from (f9 0 1 (by omega)), show M9 1 = MR 1 from (funext fun k => f9 1 k (by omega))]; exact i_Tx), (by unfold iHa; rw [show M8 30 = MC 30 from f8 30 (by omega), show M8 31 = MC 31 from f8 31 (by omega), show M9 0 3 = MR 0 3 from (f9 0 3 (by omega)), show M9 2 = MR 2 from (funext fun k => f9 2 k (by omega))]; exact i_Ha), hs.2, (iVe_kept i_Ve (fun j hj => f8 j (by omega)) (congrFun (f8 96 (by omega)) 0) (f9 0 32 (by omega)) (funext fun k => f9 18 k (by omega)) (funext fun k => f9 19 k (by omega)) (funext fun k => f9 20 k (by omega)) (funext fun k => f9 21 k (by omega))), (iMk_kept i_Mk (fun j hj => f8 j (by omega)) (congrFun (f8 60 (by omega)) 2) (f9 0 16 (by omega)) (funext fun k => f9 12 k (by omega)) (funext fun k => f9 13 k (by omega)))⟩, hs.1⟩
set_option maxHeartbeats 4000000 in
theorem st_cut {MC MR : zM} {a0 : Int} {a1 : Int} (hI : INV MC MR) (v0 : (-2147483648) ≤ a0 ∧ a0 ≤ 2147483647) (v1 : (-2147483648) ≤ a1 ∧ a1 ≤ 2147483647) : wC_cut a0 a1 MC (fun z M8 => wR_cut a0 a1 MR (fun z9 M9 => INV M8 M9 ∧ z = z9)) := by
  obtain ⟨i0, i1, i_Mo, i_Tx, i_Ha, i_Ri, i_Ve, i_Mk⟩ := id hI
  refine fC_cut hI.1  v0 v1 (fun z M8 h8 => ?_)
  obtain ⟨b8, f8, p8⟩ := h8
  refine fR_cut hI.2.1  v0 v1 (fun z9 M9 h9 => ?_)
  obtain ⟨b9, f9, p9⟩ := h9
  have hs := ri_cut i_Ri p8 f9 p9
  exact ⟨⟨b8, b9, (by rw [show M8 35 = MC 35 from f8 35 (by omega), show M8 36 = MC 36 from f8 36 (by omega), show M8 37 = MC 37 from f8 37 (by omega), show M8 38 = MC 38 from f8 38 (by omega), show M8 39 = MC 39 from f8 39 (by omega), show M8 40 = MC 40 from f8 40 (by omega), show M9 9 = MR 9 from (funext fun k => f9 9 k (by omega)), show M9 10 = MR 10 from (funext fun k => f9 10 k (by omega)), show M9 11 = MR 11 from (funext fun k => f9 11 k (by omega))]; exact i_Mo), (by unfold iTx; rw [show M8 1 = MC 1 from f8 1 (by omega), show M8 2 = MC 2 from f8 2 (by omega), show M9 0 1 = MR 0 1 from (f9 0 1 (by omega)), show M9 1 = MR 1 from (funext fun k => f9 1 k (by omega))]; exact i_Tx), (by unfold iHa; rw [show M8 30 = MC 30 from f8 30 (by omega), show M8 31 = MC 31 from f8 31 (by omega), show M9 0 3 = MR 0 3 from (f9 0 3 (by omega)), show M9 2 = MR 2 from (funext fun k => f9 2 k (by omega))]; exact i_Ha), hs.2, (iVe_kept i_Ve (fun j hj => f8 j (by omega)) (congrFun (f8 96 (by omega)) 0) (f9 0 32 (by omega)) (funext fun k => f9 18 k (by omega)) (funext fun k => f9 19 k (by omega)) (funext fun k => f9 20 k (by omega)) (funext fun k => f9 21 k (by omega))), (iMk_kept i_Mk (fun j hj => f8 j (by omega)) (congrFun (f8 60 (by omega)) 2) (f9 0 16 (by omega)) (funext fun k => f9 12 k (by omega)) (funext fun k => f9 13 k (by omega)))⟩, hs.1⟩
set_option maxHeartbeats 4000000 in
theorem st_weight {MC MR : zM} {a0 : Int} {a1 : Int} (hI : INV MC MR) (v0 : (-2147483648) ≤ a0 ∧ a0 ≤ 2147483647) (v1 : (-2147483648) ≤ a1 ∧ a1 ≤ 2147483647) : wC_weight a0 a1 MC (fun z M8 => wR_weight a0 a1 MR (fun z9 M9 => INV M8 M9 ∧ True)) := by
  obtain ⟨i0, i1, i_Mo, i_Tx, i_Ha, i_Ri, i_Ve, i_Mk⟩ := id hI
  refine sC_weight hI.1  v0 v1 (fun z M8 h8 => ?_)
  obtain ⟨b8, f8, p8⟩ := h8
  refine sR_weight hI.2.1  v0 v1 (fun z9 M9 h9 => ?_)
  obtain ⟨b9, f9, p9⟩ := h9
  exact ⟨⟨b8, b9, (by rw [show M8 35 = MC 35 from f8 35 (by omega), show M8 36 = MC 36 from f8 36 (by omega), show M8 37 = MC 37 from f8 37 (by omega), show M8 38 = MC 38 from f8 38 (by omega), show M8 39 = MC 39 from f8 39 (by omega), show M8 40 = MC 40 from f8 40 (by omega), show M9 9 = MR 9 from (funext fun k => f9 9 k (by omega)), show M9 10 = MR 10 from (funext fun k => f9 10 k (by omega)), show M9 11 = MR 11 from (funext fun k => f9 11 k (by omega))]; exact i_Mo), (by unfold iTx; rw [show M8 1 = MC 1 from f8 1 (by omega), show M8 2 = MC 2 from f8 2 (by omega), show M9 0 1 = MR 0 1 from (f9 0 1 (by omega)), show M9 1 = MR 1 from (funext fun k => f9 1 k (by omega))]; exact i_Tx), (by unfold iHa; rw [show M8 30 = MC 30 from f8 30 (by omega), show M8 31 = MC 31 from f8 31 (by omega), show M9 0 3 = MR 0 3 from (f9 0 3 (by omega)), show M9 2 = MR 2 from (funext fun k => f9 2 k (by omega))]; exact i_Ha), (iRi_kept i_Ri (fun j hj => f8 j (by omega)) (congrFun (f8 32 (by omega)) 2) (f9 0 10 (by omega)) (funext fun k => f9 3 k (by omega)) (funext fun k => f9 4 k (by omega)) (funext fun k => f9 5 k (by omega)) (funext fun k => f9 6 k (by omega)) (funext fun k => f9 7 k (by omega)) (funext fun k => f9 8 k (by omega))), (iVe_kept i_Ve (fun j hj => f8 j (by omega)) (congrFun (f8 96 (by omega)) 0) (f9 0 32 (by omega)) (funext fun k => f9 18 k (by omega)) (funext fun k => f9 19 k (by omega)) (funext fun k => f9 20 k (by omega)) (funext fun k => f9 21 k (by omega))), (iMk_kept i_Mk (fun j hj => f8 j (by omega)) (congrFun (f8 60 (by omega)) 2) (f9 0 16 (by omega)) (funext fun k => f9 12 k (by omega)) (funext fun k => f9 13 k (by omega)))⟩, trivial⟩
set_option maxHeartbeats 4000000 in
theorem st_heads {MC MR : zM} {a0 : Int} {a1 : Int} {a2 : Int} {a3 : Int} (hI : INV MC MR) (v0 : (-2147483648) ≤ a0 ∧ a0 ≤ 2147483647) (v1 : (-2147483648) ≤ a1 ∧ a1 ≤ 2147483647) (v2 : (-2147483648) ≤ a2 ∧ a2 ≤ 2147483647) (v3 : (-2147483648) ≤ a3 ∧ a3 ≤ 2147483647) : wC_heads a0 a1 a2 a3 MC (fun z M8 => wR_heads a0 a1 a2 a3 MR (fun z9 M9 => INV M8 M9 ∧ True)) := by
  obtain ⟨i0, i1, i_Mo, i_Tx, i_Ha, i_Ri, i_Ve, i_Mk⟩ := id hI
  refine sC_heads hI.1  v0 v1 v2 v3 (fun z M8 h8 => ?_)
  obtain ⟨b8, f8, p8⟩ := h8
  refine sR_heads hI.2.1  v0 v1 v2 v3 (fun z9 M9 h9 => ?_)
  obtain ⟨b9, f9, p9⟩ := h9
  exact ⟨⟨b8, b9, (by rw [show M8 35 = MC 35 from f8 35 (by omega), show M8 36 = MC 36 from f8 36 (by omega), show M8 37 = MC 37 from f8 37 (by omega), show M8 38 = MC 38 from f8 38 (by omega), show M8 39 = MC 39 from f8 39 (by omega), show M8 40 = MC 40 from f8 40 (by omega), show M9 9 = MR 9 from (funext fun k => f9 9 k (by omega)), show M9 10 = MR 10 from (funext fun k => f9 10 k (by omega)), show M9 11 = MR 11 from (funext fun k => f9 11 k (by omega))]; exact i_Mo), (by unfold iTx; rw [show M8 1 = MC 1 from f8 1 (by omega), show M8 2 = MC 2 from f8 2 (by omega), show M9 0 1 = MR 0 1 from (f9 0 1 (by omega)), show M9 1 = MR 1 from (funext fun k => f9 1 k (by omega))]; exact i_Tx), (by unfold iHa; rw [show M8 30 = MC 30 from f8 30 (by omega), show M8 31 = MC 31 from f8 31 (by omega), show M9 0 3 = MR 0 3 from (f9 0 3 (by omega)), show M9 2 = MR 2 from (funext fun k => f9 2 k (by omega))]; exact i_Ha), (iRi_kept i_Ri (fun j hj => f8 j (by omega)) (congrFun (f8 32 (by omega)) 2) (f9 0 10 (by omega)) (funext fun k => f9 3 k (by omega)) (funext fun k => f9 4 k (by omega)) (funext fun k => f9 5 k (by omega)) (funext fun k => f9 6 k (by omega)) (funext fun k => f9 7 k (by omega)) (funext fun k => f9 8 k (by omega))), (iVe_kept i_Ve (fun j hj => f8 j (by omega)) (congrFun (f8 96 (by omega)) 0) (f9 0 32 (by omega)) (funext fun k => f9 18 k (by omega)) (funext fun k => f9 19 k (by omega)) (funext fun k => f9 20 k (by omega)) (funext fun k => f9 21 k (by omega))), (iMk_kept i_Mk (fun j hj => f8 j (by omega)) (congrFun (f8 60 (by omega)) 2) (f9 0 16 (by omega)) (funext fun k => f9 12 k (by omega)) (funext fun k => f9 13 k (by omega)))⟩, trivial⟩
set_option maxHeartbeats 4000000 in
theorem st_stop {MC MR : zM} {a0 : Int} (hI : INV MC MR) (v0 : (-2147483648) ≤ a0 ∧ a0 ≤ 2147483647) : wC_stop a0 MC (fun z M8 => wR_stop a0 MR (fun z9 M9 => INV M8 M9 ∧ True)) := by
  obtain ⟨i0, i1, i_Mo, i_Tx, i_Ha, i_Ri, i_Ve, i_Mk⟩ := id hI
  refine sC_stop hI.1  v0 (fun z M8 h8 => ?_)
  obtain ⟨b8, f8, p8⟩ := h8
  refine sR_stop hI.2.1  v0 (fun z9 M9 h9 => ?_)
  obtain ⟨b9, f9, p9⟩ := h9
  exact ⟨⟨b8, b9, (by rw [show M8 35 = MC 35 from f8 35 (by omega), show M8 36 = MC 36 from f8 36 (by omega), show M8 37 = MC 37 from f8 37 (by omega), show M8 38 = MC 38 from f8 38 (by omega), show M8 39 = MC 39 from f8 39 (by omega), show M8 40 = MC 40 from f8 40 (by omega), show M9 9 = MR 9 from (funext fun k => f9 9 k (by omega)), show M9 10 = MR 10 from (funext fun k => f9 10 k (by omega)), show M9 11 = MR 11 from (funext fun k => f9 11 k (by omega))]; exact i_Mo), (by unfold iTx; rw [show M8 1 = MC 1 from f8 1 (by omega), show M8 2 = MC 2 from f8 2 (by omega), show M9 0 1 = MR 0 1 from (f9 0 1 (by omega)), show M9 1 = MR 1 from (funext fun k => f9 1 k (by omega))]; exact i_Tx), (by unfold iHa; rw [show M8 30 = MC 30 from f8 30 (by omega), show M8 31 = MC 31 from f8 31 (by omega), show M9 0 3 = MR 0 3 from (f9 0 3 (by omega)), show M9 2 = MR 2 from (funext fun k => f9 2 k (by omega))]; exact i_Ha), (iRi_kept i_Ri (fun j hj => f8 j (by omega)) (congrFun (f8 32 (by omega)) 2) (f9 0 10 (by omega)) (funext fun k => f9 3 k (by omega)) (funext fun k => f9 4 k (by omega)) (funext fun k => f9 5 k (by omega)) (funext fun k => f9 6 k (by omega)) (funext fun k => f9 7 k (by omega)) (funext fun k => f9 8 k (by omega))), (iVe_kept i_Ve (fun j hj => f8 j (by omega)) (congrFun (f8 96 (by omega)) 0) (f9 0 32 (by omega)) (funext fun k => f9 18 k (by omega)) (funext fun k => f9 19 k (by omega)) (funext fun k => f9 20 k (by omega)) (funext fun k => f9 21 k (by omega))), (iMk_kept i_Mk (fun j hj => f8 j (by omega)) (congrFun (f8 60 (by omega)) 2) (f9 0 16 (by omega)) (funext fun k => f9 12 k (by omega)) (funext fun k => f9 13 k (by omega)))⟩, trivial⟩
set_option maxHeartbeats 4000000 in
theorem st_out {MC MR : zM} {a0 : Int} (hI : INV MC MR) (v0 : (-2147483648) ≤ a0 ∧ a0 ≤ 2147483647) : wC_out a0 MC (fun z M8 => wR_out a0 MR (fun z9 M9 => INV M8 M9 ∧ True)) := by
  obtain ⟨i0, i1, i_Mo, i_Tx, i_Ha, i_Ri, i_Ve, i_Mk⟩ := id hI
  refine sC_out hI.1  v0 (fun z M8 h8 => ?_)
  obtain ⟨b8, f8, p8⟩ := h8
  refine sR_out hI.2.1  v0 (fun z9 M9 h9 => ?_)
  obtain ⟨b9, f9, p9⟩ := h9
  exact ⟨⟨b8, b9, (by rw [show M8 35 = MC 35 from f8 35 (by omega), show M8 36 = MC 36 from f8 36 (by omega), show M8 37 = MC 37 from f8 37 (by omega), show M8 38 = MC 38 from f8 38 (by omega), show M8 39 = MC 39 from f8 39 (by omega), show M8 40 = MC 40 from f8 40 (by omega), show M9 9 = MR 9 from (funext fun k => f9 9 k (by omega)), show M9 10 = MR 10 from (funext fun k => f9 10 k (by omega)), show M9 11 = MR 11 from (funext fun k => f9 11 k (by omega))]; exact i_Mo), (by unfold iTx; rw [show M8 1 = MC 1 from f8 1 (by omega), show M8 2 = MC 2 from f8 2 (by omega), show M9 0 1 = MR 0 1 from (f9 0 1 (by omega)), show M9 1 = MR 1 from (funext fun k => f9 1 k (by omega))]; exact i_Tx), (by unfold iHa; rw [show M8 30 = MC 30 from f8 30 (by omega), show M8 31 = MC 31 from f8 31 (by omega), show M9 0 3 = MR 0 3 from (f9 0 3 (by omega)), show M9 2 = MR 2 from (funext fun k => f9 2 k (by omega))]; exact i_Ha), (iRi_kept i_Ri (fun j hj => f8 j (by omega)) (congrFun (f8 32 (by omega)) 2) (f9 0 10 (by omega)) (funext fun k => f9 3 k (by omega)) (funext fun k => f9 4 k (by omega)) (funext fun k => f9 5 k (by omega)) (funext fun k => f9 6 k (by omega)) (funext fun k => f9 7 k (by omega)) (funext fun k => f9 8 k (by omega))), (iVe_kept i_Ve (fun j hj => f8 j (by omega)) (congrFun (f8 96 (by omega)) 0) (f9 0 32 (by omega)) (funext fun k => f9 18 k (by omega)) (funext fun k => f9 19 k (by omega)) (funext fun k => f9 20 k (by omega)) (funext fun k => f9 21 k (by omega))), (iMk_kept i_Mk (fun j hj => f8 j (by omega)) (congrFun (f8 60 (by omega)) 2) (f9 0 16 (by omega)) (funext fun k => f9 12 k (by omega)) (funext fun k => f9 13 k (by omega)))⟩, trivial⟩
set_option maxHeartbeats 4000000 in
theorem st_dies {MC MR : zM}  (hI : INV MC MR)  : wC_dies  MC (fun z M8 => wR_dies  MR (fun z9 M9 => INV M8 M9 ∧ True)) := by
  obtain ⟨i0, i1, i_Mo, i_Tx, i_Ha, i_Ri, i_Ve, i_Mk⟩ := id hI
  refine sC_dies hI.1   (fun z M8 h8 => ?_)
  obtain ⟨b8, f8, p8⟩ := h8
  refine sR_dies hI.2.1   (fun z9 M9 h9 => ?_)
  obtain ⟨b9, f9, p9⟩ := h9
  exact ⟨⟨b8, b9, (by rw [show M8 35 = MC 35 from f8 35 (by omega), show M8 36 = MC 36 from f8 36 (by omega), show M8 37 = MC 37 from f8 37 (by omega), show M8 38 = MC 38 from f8 38 (by omega), show M8 39 = MC 39 from f8 39 (by omega), show M8 40 = MC 40 from f8 40 (by omega), show M9 9 = MR 9 from (funext fun k => f9 9 k (by omega)), show M9 10 = MR 10 from (funext fun k => f9 10 k (by omega)), show M9 11 = MR 11 from (funext fun k => f9 11 k (by omega))]; exact i_Mo), (by unfold iTx; rw [show M8 1 = MC 1 from f8 1 (by omega), show M8 2 = MC 2 from f8 2 (by omega), show M9 0 1 = MR 0 1 from (f9 0 1 (by omega)), show M9 1 = MR 1 from (funext fun k => f9 1 k (by omega))]; exact i_Tx), (by unfold iHa; rw [show M8 30 = MC 30 from f8 30 (by omega), show M8 31 = MC 31 from f8 31 (by omega), show M9 0 3 = MR 0 3 from (f9 0 3 (by omega)), show M9 2 = MR 2 from (funext fun k => f9 2 k (by omega))]; exact i_Ha), (iRi_kept i_Ri (fun j hj => f8 j (by omega)) (congrFun (f8 32 (by omega)) 2) (f9 0 10 (by omega)) (funext fun k => f9 3 k (by omega)) (funext fun k => f9 4 k (by omega)) (funext fun k => f9 5 k (by omega)) (funext fun k => f9 6 k (by omega)) (funext fun k => f9 7 k (by omega)) (funext fun k => f9 8 k (by omega))), (iVe_kept i_Ve (fun j hj => f8 j (by omega)) (congrFun (f8 96 (by omega)) 0) (f9 0 32 (by omega)) (funext fun k => f9 18 k (by omega)) (funext fun k => f9 19 k (by omega)) (funext fun k => f9 20 k (by omega)) (funext fun k => f9 21 k (by omega))), (iMk_kept i_Mk (fun j hj => f8 j (by omega)) (congrFun (f8 60 (by omega)) 2) (f9 0 16 (by omega)) (funext fun k => f9 12 k (by omega)) (funext fun k => f9 13 k (by omega)))⟩, trivial⟩
set_option maxHeartbeats 4000000 in
theorem st_tape {MC MR : zM} {a0 : Int} (hI : INV MC MR) (v0 : (-2147483648) ≤ a0 ∧ a0 ≤ 2147483647) : wC_tape a0 MC (fun z M8 => wR_tape a0 MR (fun z9 M9 => INV M8 M9 ∧ True)) := by
  obtain ⟨i0, i1, i_Mo, i_Tx, i_Ha, i_Ri, i_Ve, i_Mk⟩ := id hI
  refine sC_tape hI.1  v0 (fun z M8 h8 => ?_)
  obtain ⟨b8, f8, p8⟩ := h8
  refine sR_tape hI.2.1  v0 (fun z9 M9 h9 => ?_)
  obtain ⟨b9, f9, p9⟩ := h9
  exact ⟨⟨b8, b9, (by rw [show M8 35 = MC 35 from f8 35 (by omega), show M8 36 = MC 36 from f8 36 (by omega), show M8 37 = MC 37 from f8 37 (by omega), show M8 38 = MC 38 from f8 38 (by omega), show M8 39 = MC 39 from f8 39 (by omega), show M8 40 = MC 40 from f8 40 (by omega), show M9 9 = MR 9 from (funext fun k => f9 9 k (by omega)), show M9 10 = MR 10 from (funext fun k => f9 10 k (by omega)), show M9 11 = MR 11 from (funext fun k => f9 11 k (by omega))]; exact i_Mo), (by unfold iTx; rw [show M8 1 = MC 1 from f8 1 (by omega), show M8 2 = MC 2 from f8 2 (by omega), show M9 0 1 = MR 0 1 from (f9 0 1 (by omega)), show M9 1 = MR 1 from (funext fun k => f9 1 k (by omega))]; exact i_Tx), (by unfold iHa; rw [show M8 30 = MC 30 from f8 30 (by omega), show M8 31 = MC 31 from f8 31 (by omega), show M9 0 3 = MR 0 3 from (f9 0 3 (by omega)), show M9 2 = MR 2 from (funext fun k => f9 2 k (by omega))]; exact i_Ha), (iRi_kept i_Ri (fun j hj => f8 j (by omega)) (congrFun (f8 32 (by omega)) 2) (f9 0 10 (by omega)) (funext fun k => f9 3 k (by omega)) (funext fun k => f9 4 k (by omega)) (funext fun k => f9 5 k (by omega)) (funext fun k => f9 6 k (by omega)) (funext fun k => f9 7 k (by omega)) (funext fun k => f9 8 k (by omega))), (iVe_kept i_Ve (fun j hj => f8 j (by omega)) (congrFun (f8 96 (by omega)) 0) (f9 0 32 (by omega)) (funext fun k => f9 18 k (by omega)) (funext fun k => f9 19 k (by omega)) (funext fun k => f9 20 k (by omega)) (funext fun k => f9 21 k (by omega))), (iMk_kept i_Mk (fun j hj => f8 j (by omega)) (congrFun (f8 60 (by omega)) 2) (f9 0 16 (by omega)) (funext fun k => f9 12 k (by omega)) (funext fun k => f9 13 k (by omega)))⟩, trivial⟩
set_option maxHeartbeats 4000000 in
theorem st_take {MC MR : zM} {a0 : Int} {a1 : Int} (hI : INV MC MR) (v0 : (-2147483648) ≤ a0 ∧ a0 ≤ 2147483647) (v1 : (-2147483648) ≤ a1 ∧ a1 ≤ 2147483647) : wC_take a0 a1 MC (fun z M8 => wR_take a0 a1 MR (fun z9 M9 => INV M8 M9 ∧ True)) := by
  obtain ⟨i0, i1, i_Mo, i_Tx, i_Ha, i_Ri, i_Ve, i_Mk⟩ := id hI
  refine sC_take hI.1  v0 v1 (fun z M8 h8 => ?_)
  obtain ⟨b8, f8, p8⟩ := h8
  refine sR_take hI.2.1  v0 v1 (fun z9 M9 h9 => ?_)
  obtain ⟨b9, f9, p9⟩ := h9
  exact ⟨⟨b8, b9, (by rw [show M8 35 = MC 35 from f8 35 (by omega), show M8 36 = MC 36 from f8 36 (by omega), show M8 37 = MC 37 from f8 37 (by omega), show M8 38 = MC 38 from f8 38 (by omega), show M8 39 = MC 39 from f8 39 (by omega), show M8 40 = MC 40 from f8 40 (by omega), show M9 9 = MR 9 from (funext fun k => f9 9 k (by omega)), show M9 10 = MR 10 from (funext fun k => f9 10 k (by omega)), show M9 11 = MR 11 from (funext fun k => f9 11 k (by omega))]; exact i_Mo), (by unfold iTx; rw [show M8 1 = MC 1 from f8 1 (by omega), show M8 2 = MC 2 from f8 2 (by omega), show M9 0 1 = MR 0 1 from (f9 0 1 (by omega)), show M9 1 = MR 1 from (funext fun k => f9 1 k (by omega))]; exact i_Tx), (by unfold iHa; rw [show M8 30 = MC 30 from f8 30 (by omega), show M8 31 = MC 31 from f8 31 (by omega), show M9 0 3 = MR 0 3 from (f9 0 3 (by omega)), show M9 2 = MR 2 from (funext fun k => f9 2 k (by omega))]; exact i_Ha), (iRi_kept i_Ri (fun j hj => f8 j (by omega)) (congrFun (f8 32 (by omega)) 2) (f9 0 10 (by omega)) (funext fun k => f9 3 k (by omega)) (funext fun k => f9 4 k (by omega)) (funext fun k => f9 5 k (by omega)) (funext fun k => f9 6 k (by omega)) (funext fun k => f9 7 k (by omega)) (funext fun k => f9 8 k (by omega))), (iVe_kept i_Ve (fun j hj => f8 j (by omega)) (congrFun (f8 96 (by omega)) 0) (f9 0 32 (by omega)) (funext fun k => f9 18 k (by omega)) (funext fun k => f9 19 k (by omega)) (funext fun k => f9 20 k (by omega)) (funext fun k => f9 21 k (by omega))), (iMk_kept i_Mk (fun j hj => f8 j (by omega)) (congrFun (f8 60 (by omega)) 2) (f9 0 16 (by omega)) (funext fun k => f9 12 k (by omega)) (funext fun k => f9 13 k (by omega)))⟩, trivial⟩
set_option maxHeartbeats 4000000 in
theorem st_gap {MC MR : zM} {a0 : Int} (hI : INV MC MR) (v0 : (-2147483648) ≤ a0 ∧ a0 ≤ 2147483647) : wC_gap a0 MC (fun z M8 => wR_gap a0 MR (fun z9 M9 => INV M8 M9 ∧ True)) := by
  obtain ⟨i0, i1, i_Mo, i_Tx, i_Ha, i_Ri, i_Ve, i_Mk⟩ := id hI
  refine sC_gap hI.1  v0 (fun z M8 h8 => ?_)
  obtain ⟨b8, f8, p8⟩ := h8
  refine sR_gap hI.2.1  v0 (fun z9 M9 h9 => ?_)
  obtain ⟨b9, f9, p9⟩ := h9
  exact ⟨⟨b8, b9, (by rw [show M8 35 = MC 35 from f8 35 (by omega), show M8 36 = MC 36 from f8 36 (by omega), show M8 37 = MC 37 from f8 37 (by omega), show M8 38 = MC 38 from f8 38 (by omega), show M8 39 = MC 39 from f8 39 (by omega), show M8 40 = MC 40 from f8 40 (by omega), show M9 9 = MR 9 from (funext fun k => f9 9 k (by omega)), show M9 10 = MR 10 from (funext fun k => f9 10 k (by omega)), show M9 11 = MR 11 from (funext fun k => f9 11 k (by omega))]; exact i_Mo), (by unfold iTx; rw [show M8 1 = MC 1 from f8 1 (by omega), show M8 2 = MC 2 from f8 2 (by omega), show M9 0 1 = MR 0 1 from (f9 0 1 (by omega)), show M9 1 = MR 1 from (funext fun k => f9 1 k (by omega))]; exact i_Tx), (by unfold iHa; rw [show M8 30 = MC 30 from f8 30 (by omega), show M8 31 = MC 31 from f8 31 (by omega), show M9 0 3 = MR 0 3 from (f9 0 3 (by omega)), show M9 2 = MR 2 from (funext fun k => f9 2 k (by omega))]; exact i_Ha), (iRi_kept i_Ri (fun j hj => f8 j (by omega)) (congrFun (f8 32 (by omega)) 2) (f9 0 10 (by omega)) (funext fun k => f9 3 k (by omega)) (funext fun k => f9 4 k (by omega)) (funext fun k => f9 5 k (by omega)) (funext fun k => f9 6 k (by omega)) (funext fun k => f9 7 k (by omega)) (funext fun k => f9 8 k (by omega))), (iVe_kept i_Ve (fun j hj => f8 j (by omega)) (congrFun (f8 96 (by omega)) 0) (f9 0 32 (by omega)) (funext fun k => f9 18 k (by omega)) (funext fun k => f9 19 k (by omega)) (funext fun k => f9 20 k (by omega)) (funext fun k => f9 21 k (by omega))), (iMk_kept i_Mk (fun j hj => f8 j (by omega)) (congrFun (f8 60 (by omega)) 2) (f9 0 16 (by omega)) (funext fun k => f9 12 k (by omega)) (funext fun k => f9 13 k (by omega)))⟩, trivial⟩
set_option maxHeartbeats 4000000 in
theorem st_wipe {MC MR : zM}  (hI : INV MC MR)  : wC_wipe  MC (fun z M8 => wR_wipe  MR (fun z9 M9 => INV M8 M9 ∧ True)) := by
  obtain ⟨i0, i1, i_Mo, i_Tx, i_Ha, i_Ri, i_Ve, i_Mk⟩ := id hI
  refine sC_wipe hI.1   (fun z M8 h8 => ?_)
  obtain ⟨b8, f8, p8⟩ := h8
  refine sR_wipe hI.2.1   (fun z9 M9 h9 => ?_)
  obtain ⟨b9, f9, p9⟩ := h9
  exact ⟨⟨b8, b9, (by rw [show M8 35 = MC 35 from f8 35 (by omega), show M8 36 = MC 36 from f8 36 (by omega), show M8 37 = MC 37 from f8 37 (by omega), show M8 38 = MC 38 from f8 38 (by omega), show M8 39 = MC 39 from f8 39 (by omega), show M8 40 = MC 40 from f8 40 (by omega), show M9 9 = MR 9 from (funext fun k => f9 9 k (by omega)), show M9 10 = MR 10 from (funext fun k => f9 10 k (by omega)), show M9 11 = MR 11 from (funext fun k => f9 11 k (by omega))]; exact i_Mo), (by unfold iTx; rw [show M8 1 = MC 1 from f8 1 (by omega), show M8 2 = MC 2 from f8 2 (by omega), show M9 0 1 = MR 0 1 from (f9 0 1 (by omega)), show M9 1 = MR 1 from (funext fun k => f9 1 k (by omega))]; exact i_Tx), (by unfold iHa; rw [show M8 30 = MC 30 from f8 30 (by omega), show M8 31 = MC 31 from f8 31 (by omega), show M9 0 3 = MR 0 3 from (f9 0 3 (by omega)), show M9 2 = MR 2 from (funext fun k => f9 2 k (by omega))]; exact i_Ha), (iRi_kept i_Ri (fun j hj => f8 j (by omega)) (congrFun (f8 32 (by omega)) 2) (f9 0 10 (by omega)) (funext fun k => f9 3 k (by omega)) (funext fun k => f9 4 k (by omega)) (funext fun k => f9 5 k (by omega)) (funext fun k => f9 6 k (by omega)) (funext fun k => f9 7 k (by omega)) (funext fun k => f9 8 k (by omega))), (iVe_kept i_Ve (fun j hj => f8 j (by omega)) (congrFun (f8 96 (by omega)) 0) (f9 0 32 (by omega)) (funext fun k => f9 18 k (by omega)) (funext fun k => f9 19 k (by omega)) (funext fun k => f9 20 k (by omega)) (funext fun k => f9 21 k (by omega))), (iMk_kept i_Mk (fun j hj => f8 j (by omega)) (congrFun (f8 60 (by omega)) 2) (f9 0 16 (by omega)) (funext fun k => f9 12 k (by omega)) (funext fun k => f9 13 k (by omega)))⟩, trivial⟩
set_option maxHeartbeats 4000000 in
theorem st_span {MC MR : zM} {a0 : Int} (hI : INV MC MR) (v0 : (-2147483648) ≤ a0 ∧ a0 ≤ 2147483647) : wC_span a0 MC (fun z M8 => wR_span a0 MR (fun z9 M9 => INV M8 M9 ∧ True)) := by
  obtain ⟨i0, i1, i_Mo, i_Tx, i_Ha, i_Ri, i_Ve, i_Mk⟩ := id hI
  refine sC_span hI.1  v0 (fun z M8 h8 => ?_)
  obtain ⟨b8, f8, p8⟩ := h8
  refine sR_span hI.2.1  v0 (fun z9 M9 h9 => ?_)
  obtain ⟨b9, f9, p9⟩ := h9
  exact ⟨⟨b8, b9, (by rw [show M8 35 = MC 35 from f8 35 (by omega), show M8 36 = MC 36 from f8 36 (by omega), show M8 37 = MC 37 from f8 37 (by omega), show M8 38 = MC 38 from f8 38 (by omega), show M8 39 = MC 39 from f8 39 (by omega), show M8 40 = MC 40 from f8 40 (by omega), show M9 9 = MR 9 from (funext fun k => f9 9 k (by omega)), show M9 10 = MR 10 from (funext fun k => f9 10 k (by omega)), show M9 11 = MR 11 from (funext fun k => f9 11 k (by omega))]; exact i_Mo), (by unfold iTx; rw [show M8 1 = MC 1 from f8 1 (by omega), show M8 2 = MC 2 from f8 2 (by omega), show M9 0 1 = MR 0 1 from (f9 0 1 (by omega)), show M9 1 = MR 1 from (funext fun k => f9 1 k (by omega))]; exact i_Tx), (by unfold iHa; rw [show M8 30 = MC 30 from f8 30 (by omega), show M8 31 = MC 31 from f8 31 (by omega), show M9 0 3 = MR 0 3 from (f9 0 3 (by omega)), show M9 2 = MR 2 from (funext fun k => f9 2 k (by omega))]; exact i_Ha), (iRi_kept i_Ri (fun j hj => f8 j (by omega)) (congrFun (f8 32 (by omega)) 2) (f9 0 10 (by omega)) (funext fun k => f9 3 k (by omega)) (funext fun k => f9 4 k (by omega)) (funext fun k => f9 5 k (by omega)) (funext fun k => f9 6 k (by omega)) (funext fun k => f9 7 k (by omega)) (funext fun k => f9 8 k (by omega))), (iVe_kept i_Ve (fun j hj => f8 j (by omega)) (congrFun (f8 96 (by omega)) 0) (f9 0 32 (by omega)) (funext fun k => f9 18 k (by omega)) (funext fun k => f9 19 k (by omega)) (funext fun k => f9 20 k (by omega)) (funext fun k => f9 21 k (by omega))), (iMk_kept i_Mk (fun j hj => f8 j (by omega)) (congrFun (f8 60 (by omega)) 2) (f9 0 16 (by omega)) (funext fun k => f9 12 k (by omega)) (funext fun k => f9 13 k (by omega)))⟩, trivial⟩
set_option maxHeartbeats 4000000 in
theorem st_pair {MC MR : zM} {a0 : Int} (hI : INV MC MR) (v0 : (-2147483648) ≤ a0 ∧ a0 ≤ 2147483647) : wC_pair a0 MC (fun z M8 => wR_pair a0 MR (fun z9 M9 => INV M8 M9 ∧ True)) := by
  obtain ⟨i0, i1, i_Mo, i_Tx, i_Ha, i_Ri, i_Ve, i_Mk⟩ := id hI
  refine sC_pair hI.1  v0 (fun z M8 h8 => ?_)
  obtain ⟨b8, f8, p8⟩ := h8
  refine sR_pair hI.2.1  v0 (fun z9 M9 h9 => ?_)
  obtain ⟨b9, f9, p9⟩ := h9
  exact ⟨⟨b8, b9, (by rw [show M8 35 = MC 35 from f8 35 (by omega), show M8 36 = MC 36 from f8 36 (by omega), show M8 37 = MC 37 from f8 37 (by omega), show M8 38 = MC 38 from f8 38 (by omega), show M8 39 = MC 39 from f8 39 (by omega), show M8 40 = MC 40 from f8 40 (by omega), show M9 9 = MR 9 from (funext fun k => f9 9 k (by omega)), show M9 10 = MR 10 from (funext fun k => f9 10 k (by omega)), show M9 11 = MR 11 from (funext fun k => f9 11 k (by omega))]; exact i_Mo), (by unfold iTx; rw [show M8 1 = MC 1 from f8 1 (by omega), show M8 2 = MC 2 from f8 2 (by omega), show M9 0 1 = MR 0 1 from (f9 0 1 (by omega)), show M9 1 = MR 1 from (funext fun k => f9 1 k (by omega))]; exact i_Tx), (by unfold iHa; rw [show M8 30 = MC 30 from f8 30 (by omega), show M8 31 = MC 31 from f8 31 (by omega), show M9 0 3 = MR 0 3 from (f9 0 3 (by omega)), show M9 2 = MR 2 from (funext fun k => f9 2 k (by omega))]; exact i_Ha), (iRi_kept i_Ri (fun j hj => f8 j (by omega)) (congrFun (f8 32 (by omega)) 2) (f9 0 10 (by omega)) (funext fun k => f9 3 k (by omega)) (funext fun k => f9 4 k (by omega)) (funext fun k => f9 5 k (by omega)) (funext fun k => f9 6 k (by omega)) (funext fun k => f9 7 k (by omega)) (funext fun k => f9 8 k (by omega))), (iVe_kept i_Ve (fun j hj => f8 j (by omega)) (congrFun (f8 96 (by omega)) 0) (f9 0 32 (by omega)) (funext fun k => f9 18 k (by omega)) (funext fun k => f9 19 k (by omega)) (funext fun k => f9 20 k (by omega)) (funext fun k => f9 21 k (by omega))), (iMk_kept i_Mk (fun j hj => f8 j (by omega)) (congrFun (f8 60 (by omega)) 2) (f9 0 16 (by omega)) (funext fun k => f9 12 k (by omega)) (funext fun k => f9 13 k (by omega)))⟩, trivial⟩
set_option maxHeartbeats 4000000 in
theorem st_mended {MC MR : zM} {a0 : Int} (hI : INV MC MR) (v0 : (-2147483648) ≤ a0 ∧ a0 ≤ 2147483647) : wC_mended a0 MC (fun z M8 => wR_mended a0 MR (fun z9 M9 => INV M8 M9 ∧ True)) := by
  obtain ⟨i0, i1, i_Mo, i_Tx, i_Ha, i_Ri, i_Ve, i_Mk⟩ := id hI
  refine sC_mended hI.1  v0 (fun z M8 h8 => ?_)
  obtain ⟨b8, f8, p8⟩ := h8
  refine sR_mended hI.2.1  v0 (fun z9 M9 h9 => ?_)
  obtain ⟨b9, f9, p9⟩ := h9
  exact ⟨⟨b8, b9, (by rw [show M8 35 = MC 35 from f8 35 (by omega), show M8 36 = MC 36 from f8 36 (by omega), show M8 37 = MC 37 from f8 37 (by omega), show M8 38 = MC 38 from f8 38 (by omega), show M8 39 = MC 39 from f8 39 (by omega), show M8 40 = MC 40 from f8 40 (by omega), show M9 9 = MR 9 from (funext fun k => f9 9 k (by omega)), show M9 10 = MR 10 from (funext fun k => f9 10 k (by omega)), show M9 11 = MR 11 from (funext fun k => f9 11 k (by omega))]; exact i_Mo), (by unfold iTx; rw [show M8 1 = MC 1 from f8 1 (by omega), show M8 2 = MC 2 from f8 2 (by omega), show M9 0 1 = MR 0 1 from (f9 0 1 (by omega)), show M9 1 = MR 1 from (funext fun k => f9 1 k (by omega))]; exact i_Tx), (by unfold iHa; rw [show M8 30 = MC 30 from f8 30 (by omega), show M8 31 = MC 31 from f8 31 (by omega), show M9 0 3 = MR 0 3 from (f9 0 3 (by omega)), show M9 2 = MR 2 from (funext fun k => f9 2 k (by omega))]; exact i_Ha), (iRi_kept i_Ri (fun j hj => f8 j (by omega)) (congrFun (f8 32 (by omega)) 2) (f9 0 10 (by omega)) (funext fun k => f9 3 k (by omega)) (funext fun k => f9 4 k (by omega)) (funext fun k => f9 5 k (by omega)) (funext fun k => f9 6 k (by omega)) (funext fun k => f9 7 k (by omega)) (funext fun k => f9 8 k (by omega))), (iVe_kept i_Ve (fun j hj => f8 j (by omega)) (congrFun (f8 96 (by omega)) 0) (f9 0 32 (by omega)) (funext fun k => f9 18 k (by omega)) (funext fun k => f9 19 k (by omega)) (funext fun k => f9 20 k (by omega)) (funext fun k => f9 21 k (by omega))), (iMk_kept i_Mk (fun j hj => f8 j (by omega)) (congrFun (f8 60 (by omega)) 2) (f9 0 16 (by omega)) (funext fun k => f9 12 k (by omega)) (funext fun k => f9 13 k (by omega)))⟩, trivial⟩
set_option maxHeartbeats 4000000 in
theorem st_piece {MC MR : zM} {a0 : Int} {a1 : Int} (hI : INV MC MR) (v0 : (-2147483648) ≤ a0 ∧ a0 ≤ 2147483647) (v1 : (-2147483648) ≤ a1 ∧ a1 ≤ 2147483647) : wC_piece a0 a1 MC (fun z M8 => wR_piece a0 a1 MR (fun z9 M9 => INV M8 M9 ∧ True)) := by
  obtain ⟨i0, i1, i_Mo, i_Tx, i_Ha, i_Ri, i_Ve, i_Mk⟩ := id hI
  refine sC_piece hI.1  v0 v1 (fun z M8 h8 => ?_)
  obtain ⟨b8, f8, p8⟩ := h8
  refine sR_piece hI.2.1  v0 v1 (fun z9 M9 h9 => ?_)
  obtain ⟨b9, f9, p9⟩ := h9
  exact ⟨⟨b8, b9, (by rw [show M8 35 = MC 35 from f8 35 (by omega), show M8 36 = MC 36 from f8 36 (by omega), show M8 37 = MC 37 from f8 37 (by omega), show M8 38 = MC 38 from f8 38 (by omega), show M8 39 = MC 39 from f8 39 (by omega), show M8 40 = MC 40 from f8 40 (by omega), show M9 9 = MR 9 from (funext fun k => f9 9 k (by omega)), show M9 10 = MR 10 from (funext fun k => f9 10 k (by omega)), show M9 11 = MR 11 from (funext fun k => f9 11 k (by omega))]; exact i_Mo), (by unfold iTx; rw [show M8 1 = MC 1 from f8 1 (by omega), show M8 2 = MC 2 from f8 2 (by omega), show M9 0 1 = MR 0 1 from (f9 0 1 (by omega)), show M9 1 = MR 1 from (funext fun k => f9 1 k (by omega))]; exact i_Tx), (by unfold iHa; rw [show M8 30 = MC 30 from f8 30 (by omega), show M8 31 = MC 31 from f8 31 (by omega), show M9 0 3 = MR 0 3 from (f9 0 3 (by omega)), show M9 2 = MR 2 from (funext fun k => f9 2 k (by omega))]; exact i_Ha), (iRi_kept i_Ri (fun j hj => f8 j (by omega)) (congrFun (f8 32 (by omega)) 2) (f9 0 10 (by omega)) (funext fun k => f9 3 k (by omega)) (funext fun k => f9 4 k (by omega)) (funext fun k => f9 5 k (by omega)) (funext fun k => f9 6 k (by omega)) (funext fun k => f9 7 k (by omega)) (funext fun k => f9 8 k (by omega))), (iVe_kept i_Ve (fun j hj => f8 j (by omega)) (congrFun (f8 96 (by omega)) 0) (f9 0 32 (by omega)) (funext fun k => f9 18 k (by omega)) (funext fun k => f9 19 k (by omega)) (funext fun k => f9 20 k (by omega)) (funext fun k => f9 21 k (by omega))), (iMk_kept i_Mk (fun j hj => f8 j (by omega)) (congrFun (f8 60 (by omega)) 2) (f9 0 16 (by omega)) (funext fun k => f9 12 k (by omega)) (funext fun k => f9 13 k (by omega)))⟩, trivial⟩
set_option maxHeartbeats 4000000 in
theorem st_burn {MC MR : zM}  (hI : INV MC MR)  : wC_burn  MC (fun z M8 => wR_burn  MR (fun z9 M9 => INV M8 M9 ∧ True)) := by
  obtain ⟨i0, i1, i_Mo, i_Tx, i_Ha, i_Ri, i_Ve, i_Mk⟩ := id hI
  refine sC_burn hI.1   (fun z M8 h8 => ?_)
  obtain ⟨b8, f8, p8⟩ := h8
  refine sR_burn hI.2.1   (fun z9 M9 h9 => ?_)
  obtain ⟨b9, f9, p9⟩ := h9
  exact ⟨⟨b8, b9, (by rw [show M8 35 = MC 35 from f8 35 (by omega), show M8 36 = MC 36 from f8 36 (by omega), show M8 37 = MC 37 from f8 37 (by omega), show M8 38 = MC 38 from f8 38 (by omega), show M8 39 = MC 39 from f8 39 (by omega), show M8 40 = MC 40 from f8 40 (by omega), show M9 9 = MR 9 from (funext fun k => f9 9 k (by omega)), show M9 10 = MR 10 from (funext fun k => f9 10 k (by omega)), show M9 11 = MR 11 from (funext fun k => f9 11 k (by omega))]; exact i_Mo), (by unfold iTx; rw [show M8 1 = MC 1 from f8 1 (by omega), show M8 2 = MC 2 from f8 2 (by omega), show M9 0 1 = MR 0 1 from (f9 0 1 (by omega)), show M9 1 = MR 1 from (funext fun k => f9 1 k (by omega))]; exact i_Tx), (by unfold iHa; rw [show M8 30 = MC 30 from f8 30 (by omega), show M8 31 = MC 31 from f8 31 (by omega), show M9 0 3 = MR 0 3 from (f9 0 3 (by omega)), show M9 2 = MR 2 from (funext fun k => f9 2 k (by omega))]; exact i_Ha), (iRi_kept i_Ri (fun j hj => f8 j (by omega)) (congrFun (f8 32 (by omega)) 2) (f9 0 10 (by omega)) (funext fun k => f9 3 k (by omega)) (funext fun k => f9 4 k (by omega)) (funext fun k => f9 5 k (by omega)) (funext fun k => f9 6 k (by omega)) (funext fun k => f9 7 k (by omega)) (funext fun k => f9 8 k (by omega))), (iVe_kept i_Ve (fun j hj => f8 j (by omega)) (congrFun (f8 96 (by omega)) 0) (f9 0 32 (by omega)) (funext fun k => f9 18 k (by omega)) (funext fun k => f9 19 k (by omega)) (funext fun k => f9 20 k (by omega)) (funext fun k => f9 21 k (by omega))), (iMk_kept i_Mk (fun j hj => f8 j (by omega)) (congrFun (f8 60 (by omega)) 2) (f9 0 16 (by omega)) (funext fun k => f9 12 k (by omega)) (funext fun k => f9 13 k (by omega)))⟩, trivial⟩
set_option maxHeartbeats 4000000 in
theorem st_join {MC MR : zM}  (hI : INV MC MR)  : wC_join  MC (fun z M8 => wR_join  MR (fun z9 M9 => INV M8 M9 ∧ True)) := by
  obtain ⟨i0, i1, i_Mo, i_Tx, i_Ha, i_Ri, i_Ve, i_Mk⟩ := id hI
  refine sC_join hI.1   (fun z M8 h8 => ?_)
  obtain ⟨b8, f8, p8⟩ := h8
  refine sR_join hI.2.1   (fun z9 M9 h9 => ?_)
  obtain ⟨b9, f9, p9⟩ := h9
  exact ⟨⟨b8, b9, (by rw [show M8 35 = MC 35 from f8 35 (by omega), show M8 36 = MC 36 from f8 36 (by omega), show M8 37 = MC 37 from f8 37 (by omega), show M8 38 = MC 38 from f8 38 (by omega), show M8 39 = MC 39 from f8 39 (by omega), show M8 40 = MC 40 from f8 40 (by omega), show M9 9 = MR 9 from (funext fun k => f9 9 k (by omega)), show M9 10 = MR 10 from (funext fun k => f9 10 k (by omega)), show M9 11 = MR 11 from (funext fun k => f9 11 k (by omega))]; exact i_Mo), (by unfold iTx; rw [show M8 1 = MC 1 from f8 1 (by omega), show M8 2 = MC 2 from f8 2 (by omega), show M9 0 1 = MR 0 1 from (f9 0 1 (by omega)), show M9 1 = MR 1 from (funext fun k => f9 1 k (by omega))]; exact i_Tx), (by unfold iHa; rw [show M8 30 = MC 30 from f8 30 (by omega), show M8 31 = MC 31 from f8 31 (by omega), show M9 0 3 = MR 0 3 from (f9 0 3 (by omega)), show M9 2 = MR 2 from (funext fun k => f9 2 k (by omega))]; exact i_Ha), (iRi_kept i_Ri (fun j hj => f8 j (by omega)) (congrFun (f8 32 (by omega)) 2) (f9 0 10 (by omega)) (funext fun k => f9 3 k (by omega)) (funext fun k => f9 4 k (by omega)) (funext fun k => f9 5 k (by omega)) (funext fun k => f9 6 k (by omega)) (funext fun k => f9 7 k (by omega)) (funext fun k => f9 8 k (by omega))), (iVe_kept i_Ve (fun j hj => f8 j (by omega)) (congrFun (f8 96 (by omega)) 0) (f9 0 32 (by omega)) (funext fun k => f9 18 k (by omega)) (funext fun k => f9 19 k (by omega)) (funext fun k => f9 20 k (by omega)) (funext fun k => f9 21 k (by omega))), (iMk_kept i_Mk (fun j hj => f8 j (by omega)) (congrFun (f8 60 (by omega)) 2) (f9 0 16 (by omega)) (funext fun k => f9 12 k (by omega)) (funext fun k => f9 13 k (by omega)))⟩, trivial⟩
set_option maxHeartbeats 4000000 in
theorem st_keep {MC MR : zM} {a0 : Int} {a1 : Int} (hI : INV MC MR) (v0 : (-2147483648) ≤ a0 ∧ a0 ≤ 2147483647) (v1 : (-2147483648) ≤ a1 ∧ a1 ≤ 2147483647) : wC_keep a0 a1 MC (fun z M8 => wR_keep a0 a1 MR (fun z9 M9 => INV M8 M9 ∧ z = z9)) := by
  obtain ⟨i0, i1, i_Mo, i_Tx, i_Ha, i_Ri, i_Ve, i_Mk⟩ := id hI
  refine fC_keep hI.1  v0 v1 (fun z M8 h8 => ?_)
  obtain ⟨b8, f8, p8⟩ := h8
  refine fR_keep hI.2.1  v0 v1 (fun z9 M9 h9 => ?_)
  obtain ⟨b9, f9, p9⟩ := h9
  have bv : 0 ≤ MC 96 0 ∧ MC 96 0 ≤ 16 := BN.at hI.1 (rfl : zcd wC 96 = 44) rfl
  have hs := ve_keep i_Ve i_Ri bv.1 p8 p9
  exact ⟨⟨b8, b9, (by rw [show M8 35 = MC 35 from f8 35 (by omega), show M8 36 = MC 36 from f8 36 (by omega), show M8 37 = MC 37 from f8 37 (by omega), show M8 38 = MC 38 from f8 38 (by omega), show M8 39 = MC 39 from f8 39 (by omega), show M8 40 = MC 40 from f8 40 (by omega), show M9 9 = MR 9 from (funext fun k => f9 9 k (by omega)), show M9 10 = MR 10 from (funext fun k => f9 10 k (by omega)), show M9 11 = MR 11 from (funext fun k => f9 11 k (by omega))]; exact i_Mo), (by unfold iTx; rw [show M8 1 = MC 1 from f8 1 (by omega), show M8 2 = MC 2 from f8 2 (by omega), show M9 0 1 = MR 0 1 from (f9 0 1 (by omega)), show M9 1 = MR 1 from (funext fun k => f9 1 k (by omega))]; exact i_Tx), (by unfold iHa; rw [show M8 30 = MC 30 from f8 30 (by omega), show M8 31 = MC 31 from f8 31 (by omega), show M9 0 3 = MR 0 3 from (f9 0 3 (by omega)), show M9 2 = MR 2 from (funext fun k => f9 2 k (by omega))]; exact i_Ha), (iRi_kept i_Ri (fun j hj => f8 j (by omega)) (congrFun (f8 32 (by omega)) 2) (f9 0 10 (by omega)) (funext fun k => f9 3 k (by omega)) (funext fun k => f9 4 k (by omega)) (funext fun k => f9 5 k (by omega)) (funext fun k => f9 6 k (by omega)) (funext fun k => f9 7 k (by omega)) (funext fun k => f9 8 k (by omega))), hs.2, (iMk_kept i_Mk (fun j hj => f8 j (by omega)) (congrFun (f8 60 (by omega)) 2) (f9 0 16 (by omega)) (funext fun k => f9 12 k (by omega)) (funext fun k => f9 13 k (by omega)))⟩, hs.1⟩
set_option maxHeartbeats 4000000 in
theorem st_known {MC MR : zM} {a0 : Int} {a1 : Int} (hI : INV MC MR) (v0 : (-2147483648) ≤ a0 ∧ a0 ≤ 2147483647) (v1 : (-2147483648) ≤ a1 ∧ a1 ≤ 2147483647) : wC_known a0 a1 MC (fun z => wR_known a0 a1 MR (fun z9 M9 => INV MC M9 ∧ True)) := by
  obtain ⟨i0, i1, i_Mo, i_Tx, i_Ha, i_Ri, i_Ve, i_Mk⟩ := id hI
  refine sC_known hI.1  v0 v1 (fun z p8 => ?_)
  refine sR_known hI.2.1  v0 v1 (fun z9 M9 h9 => ?_)
  obtain ⟨b9, f9, p9⟩ := h9
  exact ⟨⟨hI.1, b9, (by rw [show M9 9 = MR 9 from (funext fun k => f9 9 k (by omega)), show M9 10 = MR 10 from (funext fun k => f9 10 k (by omega)), show M9 11 = MR 11 from (funext fun k => f9 11 k (by omega))]; exact i_Mo), (by unfold iTx; rw [show M9 0 1 = MR 0 1 from (f9 0 1 (by omega)), show M9 1 = MR 1 from (funext fun k => f9 1 k (by omega))]; exact i_Tx), (by unfold iHa; rw [show M9 0 3 = MR 0 3 from (f9 0 3 (by omega)), show M9 2 = MR 2 from (funext fun k => f9 2 k (by omega))]; exact i_Ha), (iRi_kept i_Ri (fun j hj => rfl) rfl (f9 0 10 (by omega)) (funext fun k => f9 3 k (by omega)) (funext fun k => f9 4 k (by omega)) (funext fun k => f9 5 k (by omega)) (funext fun k => f9 6 k (by omega)) (funext fun k => f9 7 k (by omega)) (funext fun k => f9 8 k (by omega))), (iVe_kept i_Ve (fun j hj => rfl) rfl (f9 0 32 (by omega)) (funext fun k => f9 18 k (by omega)) (funext fun k => f9 19 k (by omega)) (funext fun k => f9 20 k (by omega)) (funext fun k => f9 21 k (by omega))), (iMk_kept i_Mk (fun j hj => rfl) rfl (f9 0 16 (by omega)) (funext fun k => f9 12 k (by omega)) (funext fun k => f9 13 k (by omega)))⟩, trivial⟩
set_option maxHeartbeats 4000000 in
theorem st_fetch {MC MR : zM} {a0 : Int} (hI : INV MC MR) (v0 : (-2147483648) ≤ a0 ∧ a0 ≤ 2147483647) : wC_fetch a0 MC (fun z M8 => wR_fetch a0 MR (fun z9 M9 => INV M8 M9 ∧ z = z9)) := by
  obtain ⟨i0, i1, i_Mo, i_Tx, i_Ha, i_Ri, i_Ve, i_Mk⟩ := id hI
  refine fC_fetch hI.1  v0 (fun z M8 h8 => ?_)
  obtain ⟨b8, f8, p8⟩ := h8
  refine fR_fetch hI.2.1  v0 (fun z9 M9 h9 => ?_)
  obtain ⟨b9, f9, p9⟩ := h9
  have hs := ha_fetch i_Ha i_Ve p8 p9
  exact ⟨⟨b8, b9, (by rw [show M8 35 = MC 35 from f8 35 (by omega), show M8 36 = MC 36 from f8 36 (by omega), show M8 37 = MC 37 from f8 37 (by omega), show M8 38 = MC 38 from f8 38 (by omega), show M8 39 = MC 39 from f8 39 (by omega), show M8 40 = MC 40 from f8 40 (by omega), show M9 9 = MR 9 from (funext fun k => f9 9 k (by omega)), show M9 10 = MR 10 from (funext fun k => f9 10 k (by omega)), show M9 11 = MR 11 from (funext fun k => f9 11 k (by omega))]; exact i_Mo), (by unfold iTx; rw [show M8 1 = MC 1 from f8 1 (by omega), show M8 2 = MC 2 from f8 2 (by omega), show M9 0 1 = MR 0 1 from (f9 0 1 (by omega)), show M9 1 = MR 1 from (funext fun k => f9 1 k (by omega))]; exact i_Tx), hs.2, (iRi_kept i_Ri (fun j hj => f8 j (by omega)) (congrFun (f8 32 (by omega)) 2) (f9 0 10 (by omega)) (funext fun k => f9 3 k (by omega)) (funext fun k => f9 4 k (by omega)) (funext fun k => f9 5 k (by omega)) (funext fun k => f9 6 k (by omega)) (funext fun k => f9 7 k (by omega)) (funext fun k => f9 8 k (by omega))), (iVe_kept i_Ve (fun j hj => f8 j (by omega)) (congrFun (f8 96 (by omega)) 0) (f9 0 32 (by omega)) (funext fun k => f9 18 k (by omega)) (funext fun k => f9 19 k (by omega)) (funext fun k => f9 20 k (by omega)) (funext fun k => f9 21 k (by omega))), (iMk_kept i_Mk (fun j hj => f8 j (by omega)) (congrFun (f8 60 (by omega)) 2) (f9 0 16 (by omega)) (funext fun k => f9 12 k (by omega)) (funext fun k => f9 13 k (by omega)))⟩, hs.1⟩
set_option maxHeartbeats 4000000 in
theorem st_edits {MC MR : zM} {a0 : Int} {a1 : Int} (hI : INV MC MR) (v0 : (-2147483648) ≤ a0 ∧ a0 ≤ 2147483647) (v1 : (-2147483648) ≤ a1 ∧ a1 ≤ 2147483647) : wC_edits a0 a1 MC (fun z M8 => wR_edits a0 a1 MR (fun z9 M9 => INV M8 M9 ∧ z = z9)) := by
  obtain ⟨i0, i1, i_Mo, i_Tx, i_Ha, i_Ri, i_Ve, i_Mk⟩ := id hI
  refine fC_edits hI.1 (fun v hv => by obtain ⟨-, -, n, n1, -, n2, -⟩ := i_Ve.2.2 v hv; omega) v0 v1 (fun z M8 h8 => ?_)
  obtain ⟨b8, f8, p8⟩ := h8
  refine fR_edits hI.2.1 (fun v hv => by obtain ⟨-, -, n, n1, -, -, n2, -⟩ := i_Ve.2.2 v (by have := i_Ve.1; omega); omega) v0 v1 (fun z9 M9 h9 => ?_)
  obtain ⟨b9, f9, p9⟩ := h9
  exact ⟨⟨b8, b9, (by rw [show M8 35 = MC 35 from f8 35 (by omega), show M8 36 = MC 36 from f8 36 (by omega), show M8 37 = MC 37 from f8 37 (by omega), show M8 38 = MC 38 from f8 38 (by omega), show M8 39 = MC 39 from f8 39 (by omega), show M8 40 = MC 40 from f8 40 (by omega), show M9 9 = MR 9 from (funext fun k => f9 9 k (by omega)), show M9 10 = MR 10 from (funext fun k => f9 10 k (by omega)), show M9 11 = MR 11 from (funext fun k => f9 11 k (by omega))]; exact i_Mo), (by unfold iTx; rw [show M8 1 = MC 1 from f8 1 (by omega), show M8 2 = MC 2 from f8 2 (by omega), show M9 0 1 = MR 0 1 from (f9 0 1 (by omega)), show M9 1 = MR 1 from (funext fun k => f9 1 k (by omega))]; exact i_Tx), (by unfold iHa; rw [show M8 30 = MC 30 from f8 30 (by omega), show M8 31 = MC 31 from f8 31 (by omega), show M9 0 3 = MR 0 3 from (f9 0 3 (by omega)), show M9 2 = MR 2 from (funext fun k => f9 2 k (by omega))]; exact i_Ha), (iRi_kept i_Ri (fun j hj => f8 j (by omega)) (congrFun (f8 32 (by omega)) 2) (f9 0 10 (by omega)) (funext fun k => f9 3 k (by omega)) (funext fun k => f9 4 k (by omega)) (funext fun k => f9 5 k (by omega)) (funext fun k => f9 6 k (by omega)) (funext fun k => f9 7 k (by omega)) (funext fun k => f9 8 k (by omega))), (iVe_kept i_Ve (fun j hj => f8 j (by omega)) (congrFun (f8 96 (by omega)) 0) (f9 0 32 (by omega)) (funext fun k => f9 18 k (by omega)) (funext fun k => f9 19 k (by omega)) (funext fun k => f9 20 k (by omega)) (funext fun k => f9 21 k (by omega))), (iMk_kept i_Mk (fun j hj => f8 j (by omega)) (congrFun (f8 60 (by omega)) 2) (f9 0 16 (by omega)) (funext fun k => f9 12 k (by omega)) (funext fun k => f9 13 k (by omega)))⟩, (edits_det i_Ve p8 p9)⟩
set_option maxHeartbeats 4000000 in
theorem st_row {MC MR : zM} {a0 : Int} (hI : INV MC MR) (v0 : (-2147483648) ≤ a0 ∧ a0 ≤ 2147483647) : wC_row a0 MC (fun z => wR_row a0 MR (fun z9 M9 => INV MC M9 ∧ True)) (wR_row a0 MR (fun z9 M9 => INV MC M9 ∧ True)) := by
  obtain ⟨i0, i1, i_Mo, i_Tx, i_Ha, i_Ri, i_Ve, i_Mk⟩ := id hI
  have hx : wR_row a0 MR (fun z9 M9 => INV MC M9 ∧ True) := by
    refine sR_row hI.2.1 v0 (fun z9 M9 h9 => ?_)
    obtain ⟨b9, f9, p9⟩ := h9
    exact ⟨⟨hI.1, b9, (by rw [show M9 9 = MR 9 from (funext fun k => f9 9 k (by omega)), show M9 10 = MR 10 from (funext fun k => f9 10 k (by omega)), show M9 11 = MR 11 from (funext fun k => f9 11 k (by omega))]; exact i_Mo), (by unfold iTx; rw [show M9 0 1 = MR 0 1 from (f9 0 1 (by omega)), show M9 1 = MR 1 from (funext fun k => f9 1 k (by omega))]; exact i_Tx), (by unfold iHa; rw [show M9 0 3 = MR 0 3 from (f9 0 3 (by omega)), show M9 2 = MR 2 from (funext fun k => f9 2 k (by omega))]; exact i_Ha), (iRi_kept i_Ri (fun j hj => rfl) rfl (f9 0 10 (by omega)) (funext fun k => f9 3 k (by omega)) (funext fun k => f9 4 k (by omega)) (funext fun k => f9 5 k (by omega)) (funext fun k => f9 6 k (by omega)) (funext fun k => f9 7 k (by omega)) (funext fun k => f9 8 k (by omega))), (iVe_kept i_Ve (fun j hj => rfl) rfl (f9 0 32 (by omega)) (funext fun k => f9 18 k (by omega)) (funext fun k => f9 19 k (by omega)) (funext fun k => f9 20 k (by omega)) (funext fun k => f9 21 k (by omega))), (iMk_kept i_Mk (fun j hj => rfl) rfl (f9 0 16 (by omega)) (funext fun k => f9 12 k (by omega)) (funext fun k => f9 13 k (by omega)))⟩, trivial⟩
  exact sC_row hI.1 v0 hx (fun z h8 => hx)
