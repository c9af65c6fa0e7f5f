/-! what the two worlds hold alike, kept by every call of the law -/
theorem cbt0 (q k : Nat) : okp (cbt q k) := by
  unfold cbt
  refine getD_all (P := fun f : Nat → Int × Int => ∀ k, okp (f k)) ?_ (fun _ => by decide) k
  unfold cbL
  refine List.forall_mem_cons.mpr ⟨fun k => getD_all (P := okp) (by decide) (by decide), ?_⟩
  refine List.forall_mem_cons.mpr ⟨fun k => getD_all (P := okp) (by decide) (by decide), ?_⟩
  refine List.forall_mem_cons.mpr ⟨fun _ => (by decide : okp (0, 255)), ?_⟩
  refine List.forall_mem_cons.mpr ⟨fun _ => (by decide : okp (-2147483648, 2147483647)), ?_⟩
  refine List.forall_mem_cons.mpr ⟨fun _ => (by decide : okp (-2147483648, 2147483647)), ?_⟩
  refine List.forall_mem_cons.mpr ⟨fun _ => (by decide : okp (0, 9)), ?_⟩
  refine List.forall_mem_cons.mpr ⟨fun k => getD_all (P := okp) (by decide) (by decide), ?_⟩
  refine List.forall_mem_cons.mpr ⟨fun _ => (by decide : okp (-2147483648, 2147483647)), ?_⟩
  refine List.forall_mem_cons.mpr ⟨fun k => getD_all (P := okp) (by decide) (by decide), ?_⟩
  refine List.forall_mem_cons.mpr ⟨fun _ => (by decide : okp (-2147483648, 2147483647)), ?_⟩
  refine List.forall_mem_cons.mpr ⟨fun _ => (by decide : okp (-2147483648, 2147483647)), ?_⟩
  refine List.forall_mem_cons.mpr ⟨fun k => getD_all (P := okp) (by decide) (by decide), ?_⟩
  refine List.forall_mem_cons.mpr ⟨fun _ => (by decide : okp (0, 5000)), ?_⟩
  refine List.forall_mem_cons.mpr ⟨fun _ => (by decide : okp (-9, 9)), ?_⟩
  refine List.forall_mem_cons.mpr ⟨fun k => getD_all (P := okp) (by decide) (by decide), ?_⟩
  refine List.forall_mem_cons.mpr ⟨fun _ => (by decide : okp (-2147483648, 2147483647)), ?_⟩
  refine List.forall_mem_cons.mpr ⟨fun k => getD_all (P := okp) (by decide) (by decide), ?_⟩
  refine List.forall_mem_cons.mpr ⟨fun _ => (by decide : okp (0, 24)), ?_⟩
  refine List.forall_mem_cons.mpr ⟨fun _ => (by decide : okp (-2147483648, 2147483647)), ?_⟩
  refine List.forall_mem_cons.mpr ⟨fun k => getD_all (P := okp) (by decide) (by decide), ?_⟩
  refine List.forall_mem_cons.mpr ⟨fun _ => (by decide : okp (0, 100000)), ?_⟩
  refine List.forall_mem_cons.mpr ⟨fun _ => (by decide : okp (0, 9)), ?_⟩
  refine List.forall_mem_cons.mpr ⟨fun _ => (by decide : okp (0, 23)), ?_⟩
  refine List.forall_mem_cons.mpr ⟨fun _ => (by decide : okp (-2147483648, 2147483647)), ?_⟩
  refine List.forall_mem_cons.mpr ⟨fun _ => (by decide : okp (0, 63)), ?_⟩
  refine List.forall_mem_cons.mpr ⟨fun _ => (by decide : okp (-2147483648, 2147483647)), ?_⟩
  refine List.forall_mem_cons.mpr ⟨fun _ => (by decide : okp (0, 1000000)), ?_⟩
  refine List.forall_mem_cons.mpr ⟨fun _ => (by decide : okp (0, 1000000)), ?_⟩
  refine List.forall_mem_cons.mpr ⟨fun _ => (by decide : okp (-2147483648, 2147483647)), ?_⟩
  refine List.forall_mem_cons.mpr ⟨fun _ => (by decide : okp (-2147483648, 2147483647)), ?_⟩
  refine List.forall_mem_cons.mpr ⟨fun k => getD_all (P := okp) (by decide) (by decide), ?_⟩
  refine List.forall_mem_cons.mpr ⟨fun _ => (by decide : okp (-2147483648, 2147483647)), ?_⟩
  refine List.forall_mem_cons.mpr ⟨fun _ => (by decide : okp (-2147483648, 2147483647)), ?_⟩
  refine List.forall_mem_cons.mpr ⟨fun _ => (by decide : okp (-2147483648, 2147483647)), ?_⟩
  refine List.forall_mem_cons.mpr ⟨fun k => getD_all (P := okp) (by decide) (by decide), ?_⟩
  refine List.forall_mem_cons.mpr ⟨fun _ => (by decide : okp (-2147483648, 2147483647)), ?_⟩
  refine List.forall_mem_cons.mpr ⟨fun _ => (by decide : okp (-2147483648, 2147483647)), ?_⟩
  refine List.forall_mem_cons.mpr ⟨fun _ => (by decide : okp (-2147483648, 2147483647)), ?_⟩
  refine List.forall_mem_cons.mpr ⟨fun k => getD_all (P := okp) (by decide) (by decide), ?_⟩
  refine List.forall_mem_cons.mpr ⟨fun _ => (by decide : okp (-2147483648, 2147483647)), ?_⟩
  refine List.forall_mem_cons.mpr ⟨fun _ => (by decide : okp (-2147483648, 2147483647)), ?_⟩
  refine List.forall_mem_cons.mpr ⟨fun _ => (by decide : okp (-2147483648, 2147483647)), ?_⟩
  refine List.forall_mem_cons.mpr ⟨fun _ => (by decide : okp (0, 8)), ?_⟩
  refine List.forall_mem_cons.mpr ⟨fun _ => (by decide : okp (-2147483648, 2147483647)), ?_⟩
  refine List.forall_mem_cons.mpr ⟨fun k => getD_all (P := okp) (by decide) (by decide), ?_⟩
  refine List.forall_mem_cons.mpr ⟨fun _ => (by decide : okp (-2147483648, 2147483647)), ?_⟩
  refine List.forall_mem_cons.mpr ⟨fun _ => (by decide : okp (-2147483648, 2147483647)), ?_⟩
  refine List.forall_mem_cons.mpr ⟨fun _ => (by decide : okp (-2147483648, 2147483647)), ?_⟩
  refine List.forall_mem_cons.mpr ⟨fun _ => (by decide : okp (-2147483648, 2147483647)), ?_⟩
  refine List.forall_mem_cons.mpr ⟨fun _ => (by decide : okp (-2147483648, 2147483647)), ?_⟩
  refine List.forall_mem_cons.mpr ⟨fun k => getD_all (P := okp) (by decide) (by decide), ?_⟩
  refine List.forall_mem_cons.mpr ⟨fun _ => (by decide : okp (-128, 127)), ?_⟩
  refine List.forall_mem_cons.mpr ⟨fun _ => (by decide : okp (-2147483648, 2147483647)), ?_⟩
  refine List.forall_mem_cons.mpr ⟨fun _ => (by decide : okp (-2147483648, 2147483647)), ?_⟩
  refine List.forall_mem_cons.mpr ⟨fun _ => (by decide : okp (0, 24)), ?_⟩
  refine List.forall_mem_cons.mpr ⟨fun _ => (by decide : okp (0, 1)), ?_⟩
  refine List.forall_mem_cons.mpr ⟨fun _ => (by decide : okp (0, 23)), ?_⟩
  refine List.forall_mem_cons.mpr ⟨fun _ => (by decide : okp (-2147483648, 2147483647)), ?_⟩
  refine List.forall_mem_cons.mpr ⟨fun _ => (by decide : okp (-2147483648, 2147483647)), ?_⟩
  refine List.forall_mem_cons.mpr ⟨fun _ => (by decide : okp (0, 5000)), ?_⟩
  refine List.forall_mem_cons.mpr ⟨fun _ => (by decide : okp (-9, 9)), ?_⟩
  refine List.forall_mem_cons.mpr ⟨fun _ => (by decide : okp (0, 12)), ?_⟩
  refine List.forall_mem_cons.mpr ⟨fun _ => (by decide : okp (0, 100000)), ?_⟩
  refine List.forall_mem_cons.mpr ⟨fun _ => (by decide : okp (0, 9)), ?_⟩
  refine List.forall_mem_cons.mpr ⟨fun _ => (by decide : okp (-2147483648, 2147483647)), ?_⟩
  refine List.forall_mem_cons.mpr ⟨fun _ => (by decide : okp (-2147483648, 2147483647)), ?_⟩
  refine List.forall_mem_cons.mpr ⟨fun _ => (by decide : okp (-2147483648, 2147483647)), ?_⟩
  refine List.forall_mem_cons.mpr ⟨fun _ => (by decide : okp (0, 8)), ?_⟩
  refine List.forall_mem_cons.mpr ⟨fun _ => (by decide : okp (-2147483648, 2147483647)), ?_⟩
  refine List.forall_mem_cons.mpr ⟨fun _ => (by decide : okp (0, 24)), ?_⟩
  refine List.forall_mem_cons.mpr ⟨fun _ => (by decide : okp (-2147483648, 2147483647)), ?_⟩
  refine List.forall_mem_cons.mpr ⟨fun _ => (by decide : okp (-2147483648, 2147483647)), ?_⟩
  refine List.forall_mem_cons.mpr ⟨fun _ => (by decide : okp (-2147483648, 2147483647)), ?_⟩
  refine List.forall_mem_cons.mpr ⟨fun _ => (by decide : okp (-2147483648, 2147483647)), ?_⟩
  refine List.forall_mem_cons.mpr ⟨fun _ => (by decide : okp (0, 24)), ?_⟩
  refine List.forall_mem_cons.mpr ⟨fun _ => (by decide : okp (-2147483648, 2147483647)), ?_⟩
  refine List.forall_mem_cons.mpr ⟨fun _ => (by decide : okp (0, 24)), ?_⟩
  refine List.forall_mem_cons.mpr ⟨fun _ => (by decide : okp (-2147483648, 2147483647)), ?_⟩
  refine List.forall_mem_cons.mpr ⟨fun _ => (by decide : okp (0, 268435456)), ?_⟩
  refine List.forall_mem_cons.mpr ⟨fun _ => (by decide : okp (0, 63)), ?_⟩
  refine List.forall_mem_cons.mpr ⟨fun _ => (by decide : okp (-2147483648, 2147483647)), ?_⟩
  refine List.forall_mem_cons.mpr ⟨fun _ => (by decide : okp (-2147483648, 2147483647)), ?_⟩
  refine List.forall_mem_cons.mpr ⟨fun _ => (by decide : okp (-2147483648, 2147483647)), ?_⟩
  refine List.forall_mem_cons.mpr ⟨fun _ => (by decide : okp (-2147483648, 2147483647)), ?_⟩
  exact fun x hx => absurd hx (List.not_mem_nil)
theorem bn_zero (w : zW) : BN w (fun _ _ => 0) := fun j k => cbt0 _ k
theorem bn_up {w : zW} {M : zM} (h : BN w M) {j k : Nat} {v : Int} (hv : (cbt (zcd w j) k).1 ≤ v ∧ v ≤ (cbt (zcd w j) k).2) : BN w (zup M j k v) := h.up rfl rfl hv.1 hv.2
theorem bn_fill {w : zW} {M : zM} (h : BN w M) {j N : Nat} {v : Int} (hv : ∀ k, k < N → (cbt (zcd w j) k).1 ≤ v ∧ v ≤ (cbt (zcd w j) k).2) : BN w (zfill M j N v) := by
  intro a k
  unfold zfill
  split
  · rename_i h1
    obtain ⟨rfl, h2⟩ := h1
    exact hv k h2
  · exact h a k
set_option maxRecDepth 100000 in
theorem bmM_C96 {M : zM} (h : BN wC M) : BN wC (mM_C96 M) := (bn_up (bn_up (bn_up (bn_up (bn_up (bn_up (bn_up (bn_up (bn_up (bn_up (bn_up (bn_up (bn_up (bn_up (bn_up (bn_up (bn_up h (by decide +kernel)) (by decide +kernel)) (by decide +kernel)) (by decide +kernel)) (by decide +kernel)) (by decide +kernel)) (by decide +kernel)) (by decide +kernel)) (by decide +kernel)) (by decide +kernel)) (by decide +kernel)) (by decide +kernel)) (by decide +kernel)) (by decide +kernel)) (by decide +kernel)) (by decide +kernel)) (by decide +kernel))
set_option maxRecDepth 100000 in
theorem bmM_C86 {M : zM} (h : BN wC M) : BN wC (mM_C86 M) := (bn_up (bn_up h (by decide +kernel)) (by decide +kernel))
set_option maxRecDepth 100000 in
theorem bmM_C82 {M : zM} (h : BN wC M) : BN wC (mM_C82 M) := (bn_up h (by decide +kernel))
set_option maxRecDepth 100000 in
theorem bmM_C78 {M : zM} (h : BN wC M) : BN wC (mM_C78 M) := (bn_fill (bn_up (bn_up (bn_up (bn_up (bn_up h (by decide +kernel)) (by decide +kernel)) (by decide +kernel)) (by decide +kernel)) (by decide +kernel)) (by decide +kernel))
set_option maxRecDepth 100000 in
theorem bmM_C60 {M : zM} (h : BN wC M) : BN wC (mM_C60 M) := (bn_up h (by decide +kernel))
set_option maxRecDepth 100000 in
theorem bmM_C57 {M : zM} (h : BN wC M) : BN wC (mM_C57 M) := (bn_up (bn_up h (by decide +kernel)) (by decide +kernel))
set_option maxRecDepth 100000 in
theorem bmM_C53 {M : zM} (h : BN wC M) : BN wC (mM_C53 M) := (bn_up (bn_up (bn_up (bn_up (bn_up h (by decide +kernel)) (by decide +kernel)) (by decide +kernel)) (by decide +kernel)) (by decide +kernel))
set_option maxRecDepth 100000 in
theorem bmM_C49 {M : zM} (h : BN wC M) : BN wC (mM_C49 M) := (bn_up (bn_up (bn_up (bn_up (bn_up h (by decide +kernel)) (by decide +kernel)) (by decide +kernel)) (by decide +kernel)) (by decide +kernel))
set_option maxRecDepth 100000 in
theorem bmM_C45 {M : zM} (h : BN wC M) : BN wC (mM_C45 M) := (bn_up (bn_up (bn_up (bn_up (bn_up h (by decide +kernel)) (by decide +kernel)) (by decide +kernel)) (by decide +kernel)) (by decide +kernel))
set_option maxRecDepth 100000 in
theorem bmM_C41 {M : zM} (h : BN wC M) : BN wC (mM_C41 M) := (bn_up (bn_up (bn_up (bn_up (bn_up h (by decide +kernel)) (by decide +kernel)) (by decide +kernel)) (by decide +kernel)) (by decide +kernel))
set_option maxRecDepth 100000 in
theorem bmM_C38 {M : zM} (h : BN wC M) : BN wC (mM_C38 M) := (bn_up h (by decide +kernel))
set_option maxRecDepth 100000 in
theorem bmM_C35 {M : zM} (h : BN wC M) : BN wC (mM_C35 M) := (bn_up h (by decide +kernel))
set_option maxRecDepth 100000 in
theorem bmM_C32 {M : zM} (h : BN wC M) : BN wC (mM_C32 M) := (bmM_C53 (bmM_C49 (bmM_C45 (bmM_C41 (bmM_C38 (bmM_C35 (bn_up h (by decide +kernel))))))))
set_option maxRecDepth 100000 in
theorem bmM_C1 {M : zM} (h : BN wC M) : BN wC (mM_C1 M) := (bn_up (bn_up (bn_up (bn_up (bn_up (bn_up (bn_up (bn_up (bn_up (bn_up (bn_up (bn_up (bn_up (bn_up (bn_up h (by decide +kernel)) (by decide +kernel)) (by decide +kernel)) (by decide +kernel)) (by decide +kernel)) (by decide +kernel)) (by decide +kernel)) (by decide +kernel)) (by decide +kernel)) (by decide +kernel)) (by decide +kernel)) (by decide +kernel)) (by decide +kernel)) (by decide +kernel)) (by decide +kernel))
set_option maxRecDepth 100000 in
theorem bmM_C0 {M : zM} (h : BN wC M) : BN wC (mM_C0 M) := (bn_up (bmM_C96 (bmM_C86 (bmM_C82 (bmM_C78 (bmM_C60 (bmM_C57 (bmM_C32 (bn_up (bmM_C1 h) (by decide +kernel))))))))) (by decide +kernel))
set_option maxRecDepth 100000 in
theorem bmM_R0 {M : zM} (h : BN wR M) : BN wR (mM_R0 M) := (bn_up (bn_up (bn_up (bn_up (bn_up (bn_up (bn_up (bn_up (bn_up (bn_up (bn_up h (by decide +kernel)) (by decide +kernel)) (by decide +kernel)) (by decide +kernel)) (by decide +kernel)) (by decide +kernel)) (by decide +kernel)) (by decide +kernel)) (by decide +kernel)) (by decide +kernel)) (by decide +kernel))
theorem bn_C0 : BN wC MC0 := bmM_C0 (bn_zero wC)
theorem bi_R0 : BI MR0 := ⟨bmM_R0 (bn_zero wR), fun k h1 h2 => absurd h2 (by rw [gR_0_10]; omega)⟩
def INV (MC MR : zM) : Prop := BN wC MC ∧ BI MR ∧ iPi MC MR
theorem inv0 : INV MC0 MR0 := ⟨bn_C0, bi_R0, ⟨by decide +kernel, by decide +kernel, fun k hk => absurd hk (by rw [show MC0 86 0 = 0 by decide +kernel]; omega)⟩⟩
set_option maxHeartbeats 4000000 in
theorem st_sign {MC MR : zM} {a0 : Int} (hI : INV MC MR) (v0 : (-2147483648) ≤ a0 ∧ a0 ≤ 2147483647) : wC_sign a0 MC (fun z M8 => wR_sign a0 MR (fun z9 M9 => INV M8 M9 ∧ True)) := by
  obtain ⟨i0, i1, i_Pi⟩ := id hI
  refine sC_sign hI.1  v0 (fun z M8 h8 => ?_)
  obtain ⟨b8, f8, p8⟩ := h8
  refine sR_sign hI.2.1  v0 (fun z9 M9 h9 => ?_)
  obtain ⟨b9, f9, p9⟩ := h9
  exact ⟨⟨b8, b9, (iPi_kept i_Pi (fun j hj => f8 j (by omega)) (congrFun (f8 86 (by omega)) 0) (f9 0 27 (by omega)) (funext fun k => f9 16 k (by omega)) (funext fun k => f9 17 k (by omega)))⟩, trivial⟩
set_option maxHeartbeats 4000000 in
theorem st_end {MC MR : zM} {a0 : Int} (hI : INV MC MR) (v0 : (-2147483648) ≤ a0 ∧ a0 ≤ 2147483647) : wC_end a0 MC (fun z M8 => wR_end a0 MR (fun z9 M9 => INV M8 M9 ∧ True)) := by
  obtain ⟨i0, i1, i_Pi⟩ := id hI
  refine sC_end hI.1  v0 (fun z M8 h8 => ?_)
  obtain ⟨b8, f8, p8⟩ := h8
  refine sR_end hI.2.1  v0 (fun z9 M9 h9 => ?_)
  obtain ⟨b9, f9, p9⟩ := h9
  exact ⟨⟨b8, b9, (iPi_kept i_Pi (fun j hj => f8 j (by omega)) (congrFun (f8 86 (by omega)) 0) (f9 0 27 (by omega)) (funext fun k => f9 16 k (by omega)) (funext fun k => f9 17 k (by omega)))⟩, trivial⟩
set_option maxHeartbeats 4000000 in
theorem st_splice {MC MR : zM}  (hI : INV MC MR)  : wC_splice  MC (fun z M8 => wR_splice  MR (fun z9 M9 => INV M8 M9 ∧ True)) := by
  obtain ⟨i0, i1, i_Pi⟩ := id hI
  refine sC_splice hI.1   (fun z M8 h8 => ?_)
  obtain ⟨b8, f8, p8⟩ := h8
  refine sR_splice hI.2.1   (fun z9 M9 h9 => ?_)
  obtain ⟨b9, f9, p9⟩ := h9
  exact ⟨⟨b8, b9, (iPi_kept i_Pi (fun j hj => f8 j (by omega)) (congrFun (f8 86 (by omega)) 0) (f9 0 27 (by omega)) (funext fun k => f9 16 k (by omega)) (funext fun k => f9 17 k (by omega)))⟩, trivial⟩
set_option maxHeartbeats 4000000 in
theorem st_hand {MC MR : zM} {a0 : Int} (hI : INV MC MR) (v0 : (-2147483648) ≤ a0 ∧ a0 ≤ 2147483647) : wC_hand a0 MC (fun z => wR_hand a0 MR (fun z9 M9 => INV MC M9 ∧ True)) := by
  obtain ⟨i0, i1, i_Pi⟩ := id hI
  refine sC_hand hI.1  v0 (fun z p8 => ?_)
  refine sR_hand hI.2.1  v0 (fun z9 M9 h9 => ?_)
  obtain ⟨b9, f9, p9⟩ := h9
  exact ⟨⟨hI.1, b9, (iPi_kept i_Pi (fun j hj => rfl) rfl (f9 0 27 (by omega)) (funext fun k => f9 16 k (by omega)) (funext fun k => f9 17 k (by omega)))⟩, trivial⟩
set_option maxHeartbeats 4000000 in
theorem st_ring {MC MR : zM} {a0 : Int} {a1 : Int} (hI : INV MC MR) (v0 : (-2147483648) ≤ a0 ∧ a0 ≤ 2147483647) (v1 : (-2147483648) ≤ a1 ∧ a1 ≤ 2147483647) : wC_ring a0 a1 MC (fun z M8 => wR_ring a0 a1 MR (fun z9 M9 => INV M8 M9 ∧ True)) := by
  obtain ⟨i0, i1, i_Pi⟩ := id hI
  refine sC_ring hI.1  v0 v1 (fun z M8 h8 => ?_)
  obtain ⟨b8, f8, p8⟩ := h8
  refine sR_ring hI.2.1  v0 v1 (fun z9 M9 h9 => ?_)
  obtain ⟨b9, f9, p9⟩ := h9
  exact ⟨⟨b8, b9, (iPi_kept i_Pi (fun j hj => f8 j (by omega)) (congrFun (f8 86 (by omega)) 0) (f9 0 27 (by omega)) (funext fun k => f9 16 k (by omega)) (funext fun k => f9 17 k (by omega)))⟩, trivial⟩
set_option maxHeartbeats 4000000 in
theorem st_over {MC MR : zM} {a0 : Int} {a1 : Int} {a2 : Int} (hI : INV MC MR) (v0 : (-2147483648) ≤ a0 ∧ a0 ≤ 2147483647) (v1 : (-2147483648) ≤ a1 ∧ a1 ≤ 2147483647) (v2 : (-2147483648) ≤ a2 ∧ a2 ≤ 2147483647) : wC_over a0 a1 a2 MC (fun z M8 => wR_over a0 a1 a2 MR (fun z9 M9 => INV M8 M9 ∧ True)) := by
  obtain ⟨i0, i1, i_Pi⟩ := id hI
  refine sC_over hI.1  v0 v1 v2 (fun z M8 h8 => ?_)
  obtain ⟨b8, f8, p8⟩ := h8
  refine sR_over hI.2.1  v0 v1 v2 (fun z9 M9 h9 => ?_)
  obtain ⟨b9, f9, p9⟩ := h9
  exact ⟨⟨b8, b9, (iPi_kept i_Pi (fun j hj => f8 j (by omega)) (congrFun (f8 86 (by omega)) 0) (f9 0 27 (by omega)) (funext fun k => f9 16 k (by omega)) (funext fun k => f9 17 k (by omega)))⟩, trivial⟩
set_option maxHeartbeats 4000000 in
theorem st_set {MC MR : zM} {a0 : Int} {a1 : Int} {a2 : Int} (hI : INV MC MR) (v0 : (-2147483648) ≤ a0 ∧ a0 ≤ 2147483647) (v1 : (-2147483648) ≤ a1 ∧ a1 ≤ 2147483647) (v2 : (-2147483648) ≤ a2 ∧ a2 ≤ 2147483647) : wC_set a0 a1 a2 MC (fun z M8 => wR_set a0 a1 a2 MR (fun z9 M9 => INV M8 M9 ∧ True)) := by
  obtain ⟨i0, i1, i_Pi⟩ := id hI
  refine sC_set hI.1  v0 v1 v2 (fun z M8 h8 => ?_)
  obtain ⟨b8, f8, p8⟩ := h8
  refine sR_set hI.2.1  v0 v1 v2 (fun z9 M9 h9 => ?_)
  obtain ⟨b9, f9, p9⟩ := h9
  exact ⟨⟨b8, b9, (iPi_kept i_Pi (fun j hj => f8 j (by omega)) (congrFun (f8 86 (by omega)) 0) (f9 0 27 (by omega)) (funext fun k => f9 16 k (by omega)) (funext fun k => f9 17 k (by omega)))⟩, trivial⟩
set_option maxHeartbeats 4000000 in
theorem st_head {MC MR : zM} {a0 : Int} {a1 : Int} {a2 : Int} (hI : INV MC MR) (v0 : (-2147483648) ≤ a0 ∧ a0 ≤ 2147483647) (v1 : (-2147483648) ≤ a1 ∧ a1 ≤ 2147483647) (v2 : (-2147483648) ≤ a2 ∧ a2 ≤ 2147483647) : wC_head a0 a1 a2 MC (fun z M8 => wR_head a0 a1 a2 MR (fun z9 M9 => INV M8 M9 ∧ True)) := by
  obtain ⟨i0, i1, i_Pi⟩ := id hI
  refine sC_head hI.1  v0 v1 v2 (fun z M8 h8 => ?_)
  obtain ⟨b8, f8, p8⟩ := h8
  refine sR_head hI.2.1  v0 v1 v2 (fun z9 M9 h9 => ?_)
  obtain ⟨b9, f9, p9⟩ := h9
  exact ⟨⟨b8, b9, (iPi_kept i_Pi (fun j hj => f8 j (by omega)) (congrFun (f8 86 (by omega)) 0) (f9 0 27 (by omega)) (funext fun k => f9 16 k (by omega)) (funext fun k => f9 17 k (by omega)))⟩, trivial⟩
set_option maxHeartbeats 4000000 in
theorem st_motor {MC MR : zM} {a0 : Int} {a1 : Int} {a2 : Int} (hI : INV MC MR) (v0 : (-2147483648) ≤ a0 ∧ a0 ≤ 2147483647) (v1 : (-2147483648) ≤ a1 ∧ a1 ≤ 2147483647) (v2 : (-2147483648) ≤ a2 ∧ a2 ≤ 2147483647) : wC_motor a0 a1 a2 MC (fun z M8 => wR_motor a0 a1 a2 MR (fun z9 M9 => INV M8 M9 ∧ True)) := by
  obtain ⟨i0, i1, i_Pi⟩ := id hI
  refine sC_motor hI.1  v0 v1 v2 (fun z M8 h8 => ?_)
  obtain ⟨b8, f8, p8⟩ := h8
  refine sR_motor hI.2.1  v0 v1 v2 (fun z9 M9 h9 => ?_)
  obtain ⟨b9, f9, p9⟩ := h9
  exact ⟨⟨b8, b9, (iPi_kept i_Pi (fun j hj => f8 j (by omega)) (congrFun (f8 86 (by omega)) 0) (f9 0 27 (by omega)) (funext fun k => f9 16 k (by omega)) (funext fun k => f9 17 k (by omega)))⟩, trivial⟩
set_option maxHeartbeats 4000000 in
theorem st_clear {MC MR : zM}  (hI : INV MC MR)  : wC_clear  MC (fun z M8 => wR_clear  MR (fun z9 M9 => INV M8 M9 ∧ True)) := by
  obtain ⟨i0, i1, i_Pi⟩ := id hI
  refine sC_clear hI.1   (fun z M8 h8 => ?_)
  obtain ⟨b8, f8, p8⟩ := h8
  refine fR_clear hI.2.1   (fun z9 M9 h9 => ?_)
  obtain ⟨b9, f9, p9⟩ := h9
  obtain ⟨x1, x2, x3, x4, x5, -⟩ := p8.2
  obtain ⟨y1, y2, y3, y4, y5⟩ := p9.2
  exact ⟨⟨b8, b9, (iPi_kept i_Pi (fun j hj => f8 j (by omega)) (congrFun (f8 86 (by omega)) 0) (f9 0 27 (by omega)) (funext fun k => f9 16 k (by omega)) (funext fun k => f9 17 k (by omega)))⟩, trivial⟩
set_option maxHeartbeats 4000000 in
theorem st_count {MC MR : zM} {a0 : Int} (hI : INV MC MR) (v0 : (-2147483648) ≤ a0 ∧ a0 ≤ 2147483647) : wC_count a0 MC (fun z => wR_count a0 MR (fun z9 M9 => INV MC M9 ∧ True)) := by
  obtain ⟨i0, i1, i_Pi⟩ := id hI
  refine sC_count hI.1  v0 (fun z p8 => ?_)
  refine sR_count hI.2.1  v0 (fun z9 M9 h9 => ?_)
  obtain ⟨b9, f9, p9⟩ := h9
  exact ⟨⟨hI.1, b9, (iPi_kept i_Pi (fun j hj => rfl) rfl (f9 0 27 (by omega)) (funext fun k => f9 16 k (by omega)) (funext fun k => f9 17 k (by omega)))⟩, trivial⟩
set_option maxHeartbeats 4000000 in
theorem st_of {MC MR : zM} {a0 : Int} {a1 : Int} (hI : INV MC MR) (v0 : (-2147483648) ≤ a0 ∧ a0 ≤ 2147483647) (v1 : (-2147483648) ≤ a1 ∧ a1 ≤ 2147483647) : wC_of a0 a1 MC (fun z => wR_of a0 a1 MR (fun z9 M9 => INV MC M9 ∧ True)) (wR_of a0 a1 MR (fun z9 M9 => INV MC M9 ∧ True)) := by
  obtain ⟨i0, i1, i_Pi⟩ := id hI
  have hx : wR_of a0 a1 MR (fun z9 M9 => INV MC M9 ∧ True) := by
    refine sR_of hI.2.1 v0 v1 (fun z9 M9 h9 => ?_)
    obtain ⟨b9, f9, p9⟩ := h9
    exact ⟨⟨hI.1, b9, (iPi_kept i_Pi (fun j hj => rfl) rfl (f9 0 27 (by omega)) (funext fun k => f9 16 k (by omega)) (funext fun k => f9 17 k (by omega)))⟩, trivial⟩
  exact sC_of hI.1 v0 v1 hx (fun z h8 => hx)
set_option maxHeartbeats 4000000 in
theorem st_inch {MC MR : zM} {a0 : Int} {a1 : Int} (hI : INV MC MR) (v0 : (-2147483648) ≤ a0 ∧ a0 ≤ 2147483647) (v1 : (-2147483648) ≤ a1 ∧ a1 ≤ 2147483647) : wC_inch a0 a1 MC (fun z => wR_inch a0 a1 MR (fun z9 M9 => INV MC M9 ∧ True)) := by
  obtain ⟨i0, i1, i_Pi⟩ := id hI
  refine sC_inch hI.1  v0 v1 (fun z p8 => ?_)
  refine sR_inch hI.2.1  v0 v1 (fun z9 M9 h9 => ?_)
  obtain ⟨b9, f9, p9⟩ := h9
  exact ⟨⟨hI.1, b9, (iPi_kept i_Pi (fun j hj => rfl) rfl (f9 0 27 (by omega)) (funext fun k => f9 16 k (by omega)) (funext fun k => f9 17 k (by omega)))⟩, trivial⟩
set_option maxHeartbeats 4000000 in
theorem st_way {MC MR : zM} {a0 : Int} {a1 : Int} (hI : INV MC MR) (v0 : (-2147483648) ≤ a0 ∧ a0 ≤ 2147483647) (v1 : (-2147483648) ≤ a1 ∧ a1 ≤ 2147483647) : wC_way a0 a1 MC (fun z => wR_way a0 a1 MR (fun z9 M9 => INV MC M9 ∧ True)) (wR_way a0 a1 MR (fun z9 M9 => INV MC M9 ∧ True)) := by
  obtain ⟨i0, i1, i_Pi⟩ := id hI
  have hx : wR_way a0 a1 MR (fun z9 M9 => INV MC M9 ∧ True) := by
    refine sR_way hI.2.1 v0 v1 (fun z9 M9 h9 => ?_)
    obtain ⟨b9, f9, p9⟩ := h9
    exact ⟨⟨hI.1, b9, (iPi_kept i_Pi (fun j hj => rfl) rfl (f9 0 27 (by omega)) (funext fun k => f9 16 k (by omega)) (funext fun k => f9 17 k (by omega)))⟩, trivial⟩
  exact sC_way hI.1 v0 v1 hx (fun z h8 => hx)
set_option maxHeartbeats 4000000 in
theorem st_heard {MC MR : zM} {a0 : Int} {a1 : Int} (hI : INV MC MR) (v0 : (-2147483648) ≤ a0 ∧ a0 ≤ 2147483647) (v1 : (-9223372036854775808) ≤ a1 ∧ a1 ≤ 9223372036854775807) : wC_heard a0 a1 MC (fun z => wR_heard a0 a1 MR (fun z9 M9 => INV MC M9 ∧ True)) := by
  obtain ⟨i0, i1, i_Pi⟩ := id hI
  refine sC_heard hI.1  v0 v1 (fun z p8 => ?_)
  refine sR_heard hI.2.1  v0 v1 (fun z9 M9 h9 => ?_)
  obtain ⟨b9, f9, p9⟩ := h9
  exact ⟨⟨hI.1, b9, (iPi_kept i_Pi (fun j hj => rfl) rfl (f9 0 27 (by omega)) (funext fun k => f9 16 k (by omega)) (funext fun k => f9 17 k (by omega)))⟩, trivial⟩
set_option maxHeartbeats 4000000 in
theorem st_all {MC MR : zM}  (hI : INV MC MR)  : wC_all  MC (fun z M8 => wR_all  MR (fun z9 M9 => INV M8 M9 ∧ True)) := by
  obtain ⟨i0, i1, i_Pi⟩ := id hI
  refine sC_all hI.1   (fun z M8 h8 => ?_)
  obtain ⟨b8, f8, p8⟩ := h8
  refine sR_all hI.2.1   (fun z9 M9 h9 => ?_)
  obtain ⟨b9, f9, p9⟩ := h9
  exact ⟨⟨b8, b9, (iPi_kept i_Pi (fun j hj => f8 j (by omega)) (congrFun (f8 86 (by omega)) 0) (f9 0 27 (by omega)) (funext fun k => f9 16 k (by omega)) (funext fun k => f9 17 k (by omega)))⟩, trivial⟩
set_option maxHeartbeats 4000000 in
theorem st_wish {MC MR : zM} {a0 : Int} {a1 : Int} (hI : INV MC MR) (v0 : (-2147483648) ≤ a0 ∧ a0 ≤ 2147483647) (v1 : (-2147483648) ≤ a1 ∧ a1 ≤ 2147483647) : wC_wish a0 a1 MC (fun z M8 => wR_wish a0 a1 MR (fun z9 M9 => INV M8 M9 ∧ True)) := by
  obtain ⟨i0, i1, i_Pi⟩ := id hI
  refine sC_wish hI.1  v0 v1 (fun z M8 h8 => ?_)
  obtain ⟨b8, f8, p8⟩ := h8
  refine sR_wish hI.2.1  v0 v1 (fun z9 M9 h9 => ?_)
  obtain ⟨b9, f9, p9⟩ := h9
  exact ⟨⟨b8, b9, (iPi_kept i_Pi (fun j hj => f8 j (by omega)) (congrFun (f8 86 (by omega)) 0) (f9 0 27 (by omega)) (funext fun k => f9 16 k (by omega)) (funext fun k => f9 17 k (by omega)))⟩, trivial⟩
set_option maxHeartbeats 4000000 in
theorem st_meets {MC MR : zM} {a0 : Int} (hI : INV MC MR) (v0 : (-9223372036854775808) ≤ a0 ∧ a0 ≤ 9223372036854775807) : wC_meets a0 MC (fun z M8 => wR_meets a0 MR (fun z9 M9 => INV M8 M9 ∧ True)) := by
  obtain ⟨i0, i1, i_Pi⟩ := id hI
  refine sC_meets hI.1  v0 (fun z M8 h8 => ?_)
  obtain ⟨b8, f8, p8⟩ := h8
  refine sR_meets hI.2.1  v0 (fun z9 M9 h9 => ?_)
  obtain ⟨b9, f9, p9⟩ := h9
  exact ⟨⟨b8, b9, (iPi_kept i_Pi (fun j hj => f8 j (by omega)) (congrFun (f8 86 (by omega)) 0) (f9 0 27 (by omega)) (funext fun k => f9 16 k (by omega)) (funext fun k => f9 17 k (by omega)))⟩, trivial⟩
set_option maxHeartbeats 4000000 in
theorem st_often {MC MR : zM}  (hI : INV MC MR)  : wC_often  MC (fun z M8 => wR_often  MR (fun z9 M9 => INV M8 M9 ∧ True)) := by
  obtain ⟨i0, i1, i_Pi⟩ := id hI
  refine sC_often hI.1   (fun z M8 h8 => ?_)
  obtain ⟨b8, f8, p8⟩ := h8
  refine sR_often hI.2.1   (fun z9 M9 h9 => ?_)
  obtain ⟨b9, f9, p9⟩ := h9
  exact ⟨⟨b8, b9, (iPi_kept i_Pi (fun j hj => f8 j (by omega)) (congrFun (f8 86 (by omega)) 0) (f9 0 27 (by omega)) (funext fun k => f9 16 k (by omega)) (funext fun k => f9 17 k (by omega)))⟩, trivial⟩
set_option maxHeartbeats 4000000 in
theorem st_mark {MC MR : zM} {a0 : Int} {a1 : Int} (hI : INV MC MR) (v0 : (-2147483648) ≤ a0 ∧ a0 ≤ 2147483647) (v1 : (-2147483648) ≤ a1 ∧ a1 ≤ 2147483647) : wC_mark a0 a1 MC (fun z M8 => wR_mark a0 a1 MR (fun z9 M9 => INV M8 M9 ∧ True)) := by
  obtain ⟨i0, i1, i_Pi⟩ := id hI
  refine sC_mark hI.1  v0 v1 (fun z M8 h8 => ?_)
  obtain ⟨b8, f8, p8⟩ := h8
  refine sR_mark hI.2.1  v0 v1 (fun z9 M9 h9 => ?_)
  obtain ⟨b9, f9, p9⟩ := h9
  exact ⟨⟨b8, b9, (iPi_kept i_Pi (fun j hj => f8 j (by omega)) (congrFun (f8 86 (by omega)) 0) (f9 0 27 (by omega)) (funext fun k => f9 16 k (by omega)) (funext fun k => f9 17 k (by omega)))⟩, trivial⟩
set_option maxHeartbeats 4000000 in
theorem st_kept {MC MR : zM}  (hI : INV MC MR)  : wC_kept  MC (fun z => wR_keptM  MR (fun z9 M9 => INV MC M9 ∧ True)) := by
  obtain ⟨i0, i1, i_Pi⟩ := id hI
  refine sC_kept hI.1   (fun z p8 => ?_)
  refine sR_keptM hI.2.1   (fun z9 M9 h9 => ?_)
  obtain ⟨b9, f9, p9⟩ := h9
  exact ⟨⟨hI.1, b9, (iPi_kept i_Pi (fun j hj => rfl) rfl (f9 0 27 (by omega)) (funext fun k => f9 16 k (by omega)) (funext fun k => f9 17 k (by omega)))⟩, trivial⟩
set_option maxHeartbeats 4000000 in
theorem st_plan {MC MR : zM}  (hI : INV MC MR)  : wC_plan  MC (fun z M8 => wR_plan  MR (fun z9 M9 => INV M8 M9 ∧ True)) := by
  obtain ⟨i0, i1, i_Pi⟩ := id hI
  refine sC_plan hI.1   (fun z M8 h8 => ?_)
  obtain ⟨b8, f8, p8⟩ := h8
  refine sR_plan hI.2.1   (fun z9 M9 h9 => ?_)
  obtain ⟨b9, f9, p9⟩ := h9
  exact ⟨⟨b8, b9, (iPi_kept i_Pi (fun j hj => f8 j (by omega)) (congrFun (f8 86 (by omega)) 0) (f9 0 27 (by omega)) (funext fun k => f9 16 k (by omega)) (funext fun k => f9 17 k (by omega)))⟩, trivial⟩
set_option maxHeartbeats 4000000 in
theorem st_make {MC MR : zM}  (hI : INV MC MR)  : wC_make  MC (fun z M8 => wR_make  MR (fun z9 M9 => INV M8 M9 ∧ True)) := by
  obtain ⟨i0, i1, i_Pi⟩ := id hI
  refine sC_make hI.1   (fun z M8 h8 => ?_)
  obtain ⟨b8, f8, p8⟩ := h8
  refine sR_make hI.2.1   (fun z9 M9 h9 => ?_)
  obtain ⟨b9, f9, p9⟩ := h9
  exact ⟨⟨b8, b9, (iPi_kept i_Pi (fun j hj => f8 j (by omega)) (congrFun (f8 86 (by omega)) 0) (f9 0 27 (by omega)) (funext fun k => f9 16 k (by omega)) (funext fun k => f9 17 k (by omega)))⟩, trivial⟩
set_option maxHeartbeats 4000000 in
theorem st_cut {MC MR : zM} {a0 : Int} {a1 : Int} (hI : INV MC MR) (v0 : (-2147483648) ≤ a0 ∧ a0 ≤ 2147483647) (v1 : (-2147483648) ≤ a1 ∧ a1 ≤ 2147483647) : wC_cut a0 a1 MC (fun z M8 => wR_cut a0 a1 MR (fun z9 M9 => INV M8 M9 ∧ True)) := by
  obtain ⟨i0, i1, i_Pi⟩ := id hI
  refine sC_cut hI.1  v0 v1 (fun z M8 h8 => ?_)
  obtain ⟨b8, f8, p8⟩ := h8
  refine sR_cut hI.2.1  v0 v1 (fun z9 M9 h9 => ?_)
  obtain ⟨b9, f9, p9⟩ := h9
  exact ⟨⟨b8, b9, (iPi_kept i_Pi (fun j hj => f8 j (by omega)) (congrFun (f8 86 (by omega)) 0) (f9 0 27 (by omega)) (funext fun k => f9 16 k (by omega)) (funext fun k => f9 17 k (by omega)))⟩, trivial⟩
set_option maxHeartbeats 4000000 in
theorem st_weight {MC MR : zM} {a0 : Int} {a1 : Int} (hI : INV MC MR) (v0 : (-2147483648) ≤ a0 ∧ a0 ≤ 2147483647) (v1 : (-2147483648) ≤ a1 ∧ a1 ≤ 2147483647) : wC_weight a0 a1 MC (fun z M8 => wR_weight a0 a1 MR (fun z9 M9 => INV M8 M9 ∧ True)) := by
  obtain ⟨i0, i1, i_Pi⟩ := id hI
  refine sC_weight hI.1  v0 v1 (fun z M8 h8 => ?_)
  obtain ⟨b8, f8, p8⟩ := h8
  refine sR_weight hI.2.1  v0 v1 (fun z9 M9 h9 => ?_)
  obtain ⟨b9, f9, p9⟩ := h9
  exact ⟨⟨b8, b9, (iPi_kept i_Pi (fun j hj => f8 j (by omega)) (congrFun (f8 86 (by omega)) 0) (f9 0 27 (by omega)) (funext fun k => f9 16 k (by omega)) (funext fun k => f9 17 k (by omega)))⟩, trivial⟩
set_option maxHeartbeats 4000000 in
theorem st_heads {MC MR : zM} {a0 : Int} {a1 : Int} {a2 : Int} {a3 : Int} (hI : INV MC MR) (v0 : (-2147483648) ≤ a0 ∧ a0 ≤ 2147483647) (v1 : (-2147483648) ≤ a1 ∧ a1 ≤ 2147483647) (v2 : (-2147483648) ≤ a2 ∧ a2 ≤ 2147483647) (v3 : (-2147483648) ≤ a3 ∧ a3 ≤ 2147483647) : wC_heads a0 a1 a2 a3 MC (fun z M8 => wR_heads a0 a1 a2 a3 MR (fun z9 M9 => INV M8 M9 ∧ True)) := by
  obtain ⟨i0, i1, i_Pi⟩ := id hI
  refine sC_heads hI.1  v0 v1 v2 v3 (fun z M8 h8 => ?_)
  obtain ⟨b8, f8, p8⟩ := h8
  refine sR_heads hI.2.1  v0 v1 v2 v3 (fun z9 M9 h9 => ?_)
  obtain ⟨b9, f9, p9⟩ := h9
  exact ⟨⟨b8, b9, (iPi_kept i_Pi (fun j hj => f8 j (by omega)) (congrFun (f8 86 (by omega)) 0) (f9 0 27 (by omega)) (funext fun k => f9 16 k (by omega)) (funext fun k => f9 17 k (by omega)))⟩, trivial⟩
set_option maxHeartbeats 4000000 in
theorem st_stop {MC MR : zM} {a0 : Int} (hI : INV MC MR) (v0 : (-2147483648) ≤ a0 ∧ a0 ≤ 2147483647) : wC_stop a0 MC (fun z M8 => wR_stop a0 MR (fun z9 M9 => INV M8 M9 ∧ True)) := by
  obtain ⟨i0, i1, i_Pi⟩ := id hI
  refine sC_stop hI.1  v0 (fun z M8 h8 => ?_)
  obtain ⟨b8, f8, p8⟩ := h8
  refine sR_stop hI.2.1  v0 (fun z9 M9 h9 => ?_)
  obtain ⟨b9, f9, p9⟩ := h9
  exact ⟨⟨b8, b9, (iPi_kept i_Pi (fun j hj => f8 j (by omega)) (congrFun (f8 86 (by omega)) 0) (f9 0 27 (by omega)) (funext fun k => f9 16 k (by omega)) (funext fun k => f9 17 k (by omega)))⟩, trivial⟩
set_option maxHeartbeats 4000000 in
theorem st_out {MC MR : zM} {a0 : Int} (hI : INV MC MR) (v0 : (-2147483648) ≤ a0 ∧ a0 ≤ 2147483647) : wC_out a0 MC (fun z M8 => wR_out a0 MR (fun z9 M9 => INV M8 M9 ∧ True)) := by
  obtain ⟨i0, i1, i_Pi⟩ := id hI
  refine sC_out hI.1  v0 (fun z M8 h8 => ?_)
  obtain ⟨b8, f8, p8⟩ := h8
  refine sR_out hI.2.1  v0 (fun z9 M9 h9 => ?_)
  obtain ⟨b9, f9, p9⟩ := h9
  exact ⟨⟨b8, b9, (iPi_kept i_Pi (fun j hj => f8 j (by omega)) (congrFun (f8 86 (by omega)) 0) (f9 0 27 (by omega)) (funext fun k => f9 16 k (by omega)) (funext fun k => f9 17 k (by omega)))⟩, trivial⟩
set_option maxHeartbeats 4000000 in
theorem st_dies {MC MR : zM}  (hI : INV MC MR)  : wC_dies  MC (fun z M8 => wR_dies  MR (fun z9 M9 => INV M8 M9 ∧ True)) := by
  obtain ⟨i0, i1, i_Pi⟩ := id hI
  refine sC_dies hI.1   (fun z M8 h8 => ?_)
  obtain ⟨b8, f8, p8⟩ := h8
  refine sR_dies hI.2.1   (fun z9 M9 h9 => ?_)
  obtain ⟨b9, f9, p9⟩ := h9
  exact ⟨⟨b8, b9, (iPi_kept i_Pi (fun j hj => f8 j (by omega)) (congrFun (f8 86 (by omega)) 0) (f9 0 27 (by omega)) (funext fun k => f9 16 k (by omega)) (funext fun k => f9 17 k (by omega)))⟩, trivial⟩
set_option maxHeartbeats 4000000 in
theorem st_tape {MC MR : zM} {a0 : Int} (hI : INV MC MR) (v0 : (-2147483648) ≤ a0 ∧ a0 ≤ 2147483647) : wC_tape a0 MC (fun z M8 => wR_tape a0 MR (fun z9 M9 => INV M8 M9 ∧ True)) := by
  obtain ⟨i0, i1, i_Pi⟩ := id hI
  refine sC_tape hI.1  v0 (fun z M8 h8 => ?_)
  obtain ⟨b8, f8, p8⟩ := h8
  refine sR_tape hI.2.1  v0 (fun z9 M9 h9 => ?_)
  obtain ⟨b9, f9, p9⟩ := h9
  exact ⟨⟨b8, b9, (iPi_kept i_Pi (fun j hj => f8 j (by omega)) (congrFun (f8 86 (by omega)) 0) (f9 0 27 (by omega)) (funext fun k => f9 16 k (by omega)) (funext fun k => f9 17 k (by omega)))⟩, trivial⟩
set_option maxHeartbeats 4000000 in
theorem st_take {MC MR : zM} {a0 : Int} {a1 : Int} (hI : INV MC MR) (v0 : (-2147483648) ≤ a0 ∧ a0 ≤ 2147483647) (v1 : (-2147483648) ≤ a1 ∧ a1 ≤ 2147483647) : wC_take a0 a1 MC (fun z M8 => wR_take a0 a1 MR (fun z9 M9 => INV M8 M9 ∧ True)) := by
  obtain ⟨i0, i1, i_Pi⟩ := id hI
  refine sC_take hI.1  v0 v1 (fun z M8 h8 => ?_)
  obtain ⟨b8, f8, p8⟩ := h8
  refine sR_take hI.2.1  v0 v1 (fun z9 M9 h9 => ?_)
  obtain ⟨b9, f9, p9⟩ := h9
  exact ⟨⟨b8, b9, (iPi_kept i_Pi (fun j hj => f8 j (by omega)) (congrFun (f8 86 (by omega)) 0) (f9 0 27 (by omega)) (funext fun k => f9 16 k (by omega)) (funext fun k => f9 17 k (by omega)))⟩, trivial⟩
set_option maxHeartbeats 4000000 in
theorem st_gap {MC MR : zM} {a0 : Int} (hI : INV MC MR) (v0 : (-2147483648) ≤ a0 ∧ a0 ≤ 2147483647) : wC_gap a0 MC (fun z M8 => wR_gap a0 MR (fun z9 M9 => INV M8 M9 ∧ True)) := by
  obtain ⟨i0, i1, i_Pi⟩ := id hI
  refine sC_gap hI.1  v0 (fun z M8 h8 => ?_)
  obtain ⟨b8, f8, p8⟩ := h8
  refine sR_gap hI.2.1  v0 (fun z9 M9 h9 => ?_)
  obtain ⟨b9, f9, p9⟩ := h9
  exact ⟨⟨b8, b9, (iPi_kept i_Pi (fun j hj => f8 j (by omega)) (congrFun (f8 86 (by omega)) 0) (f9 0 27 (by omega)) (funext fun k => f9 16 k (by omega)) (funext fun k => f9 17 k (by omega)))⟩, trivial⟩
set_option maxHeartbeats 4000000 in
theorem st_wipe {MC MR : zM}  (hI : INV MC MR)  : wC_wipe  MC (fun z M8 => wR_wipe  MR (fun z9 M9 => INV M8 M9 ∧ True)) := by
  obtain ⟨i0, i1, i_Pi⟩ := id hI
  refine sC_wipe hI.1   (fun z M8 h8 => ?_)
  obtain ⟨b8, f8, p8⟩ := h8
  refine sR_wipe hI.2.1   (fun z9 M9 h9 => ?_)
  obtain ⟨b9, f9, p9⟩ := h9
  exact ⟨⟨b8, b9, (iPi_kept i_Pi (fun j hj => f8 j (by omega)) (congrFun (f8 86 (by omega)) 0) (f9 0 27 (by omega)) (funext fun k => f9 16 k (by omega)) (funext fun k => f9 17 k (by omega)))⟩, trivial⟩
set_option maxHeartbeats 4000000 in
theorem st_span {MC MR : zM} {a0 : Int} (hI : INV MC MR) (v0 : (-2147483648) ≤ a0 ∧ a0 ≤ 2147483647) : wC_span a0 MC (fun z M8 => wR_span a0 MR (fun z9 M9 => INV M8 M9 ∧ True)) := by
  obtain ⟨i0, i1, i_Pi⟩ := id hI
  refine sC_span hI.1  v0 (fun z M8 h8 => ?_)
  obtain ⟨b8, f8, p8⟩ := h8
  refine sR_span hI.2.1  v0 (fun z9 M9 h9 => ?_)
  obtain ⟨b9, f9, p9⟩ := h9
  exact ⟨⟨b8, b9, (iPi_kept i_Pi (fun j hj => f8 j (by omega)) (congrFun (f8 86 (by omega)) 0) (f9 0 27 (by omega)) (funext fun k => f9 16 k (by omega)) (funext fun k => f9 17 k (by omega)))⟩, trivial⟩
set_option maxHeartbeats 4000000 in
theorem st_pair {MC MR : zM} {a0 : Int} (hI : INV MC MR) (v0 : (-2147483648) ≤ a0 ∧ a0 ≤ 2147483647) : wC_pair a0 MC (fun z M8 => wR_pair a0 MR (fun z9 M9 => INV M8 M9 ∧ True)) := by
  obtain ⟨i0, i1, i_Pi⟩ := id hI
  refine sC_pair hI.1  v0 (fun z M8 h8 => ?_)
  obtain ⟨b8, f8, p8⟩ := h8
  refine sR_pair hI.2.1  v0 (fun z9 M9 h9 => ?_)
  obtain ⟨b9, f9, p9⟩ := h9
  exact ⟨⟨b8, b9, (iPi_kept i_Pi (fun j hj => f8 j (by omega)) (congrFun (f8 86 (by omega)) 0) (f9 0 27 (by omega)) (funext fun k => f9 16 k (by omega)) (funext fun k => f9 17 k (by omega)))⟩, trivial⟩
set_option maxHeartbeats 4000000 in
theorem st_mended {MC MR : zM} {a0 : Int} (hI : INV MC MR) (v0 : (-2147483648) ≤ a0 ∧ a0 ≤ 2147483647) : wC_mended a0 MC (fun z M8 => wR_mended a0 MR (fun z9 M9 => INV M8 M9 ∧ True)) := by
  obtain ⟨i0, i1, i_Pi⟩ := id hI
  refine sC_mended hI.1  v0 (fun z M8 h8 => ?_)
  obtain ⟨b8, f8, p8⟩ := h8
  refine sR_mended hI.2.1  v0 (fun z9 M9 h9 => ?_)
  obtain ⟨b9, f9, p9⟩ := h9
  exact ⟨⟨b8, b9, (iPi_kept i_Pi (fun j hj => f8 j (by omega)) (congrFun (f8 86 (by omega)) 0) (f9 0 27 (by omega)) (funext fun k => f9 16 k (by omega)) (funext fun k => f9 17 k (by omega)))⟩, trivial⟩
set_option maxHeartbeats 4000000 in
theorem st_piece {MC MR : zM} {a0 : Int} {a1 : Int} (hI : INV MC MR) (v0 : (-2147483648) ≤ a0 ∧ a0 ≤ 2147483647) (v1 : (-2147483648) ≤ a1 ∧ a1 ≤ 2147483647) : wC_piece a0 a1 MC (fun z M8 => wR_piece a0 a1 MR (fun z9 M9 => INV M8 M9 ∧ z = z9)) := by
  obtain ⟨i0, i1, i_Pi⟩ := id hI
  refine fC_piece hI.1  v0 v1 (fun z M8 h8 => ?_)
  obtain ⟨b8, f8, p8⟩ := h8
  refine fR_piece hI.2.1  v0 v1 (fun z9 M9 h9 => ?_)
  obtain ⟨b9, f9, p9⟩ := h9
  have hs := pi_step i_Pi p8 p9
  exact ⟨⟨b8, b9, hs.2⟩, hs.1⟩
set_option maxHeartbeats 4000000 in
theorem st_burn {MC MR : zM}  (hI : INV MC MR)  : wC_burn  MC (fun z M8 => wR_burn  MR (fun z9 M9 => INV M8 M9 ∧ z = z9)) := by
  obtain ⟨i0, i1, i_Pi⟩ := id hI
  refine sC_burn hI.1   (fun z M8 h8 => ?_)
  obtain ⟨b8, f8, p8⟩ := h8
  refine sR_burn hI.2.1   (fun z9 M9 h9 => ?_)
  obtain ⟨b9, f9, p9⟩ := h9
  have hs := pi_burn i_Pi p8.2.1 p9.2.1
  exact ⟨⟨b8, b9, hs.2⟩, hs.1⟩
set_option maxHeartbeats 4000000 in
theorem st_join {MC MR : zM}  (hI : INV MC MR)  : wC_join  MC (fun z M8 => wR_join  MR (fun z9 M9 => INV M8 M9 ∧ z = z9)) := by
  obtain ⟨i0, i1, i_Pi⟩ := id hI
  refine fC_join hI.1 (pi_94 i_Pi)  (fun z M8 h8 => ?_)
  obtain ⟨b8, f8, p8⟩ := h8
  refine fR_join hI.2.1 (pi_17 i_Pi)  (fun z9 M9 h9 => ?_)
  obtain ⟨b9, f9, p9⟩ := h9
  have e8 := p8.1
  exact ⟨⟨b8, b9, (iPi_kept i_Pi (fun j hj => f8 j (by omega)) (by omega) (f9 0 27 (by omega)) (funext fun k => f9 16 k (by omega)) (funext fun k => f9 17 k (by omega)))⟩, (join_det i_Pi p8.2 p9)⟩
set_option maxHeartbeats 4000000 in
theorem st_keep {MC MR : zM} {a0 : Int} {a1 : Int} (hI : INV MC MR) (v0 : (-2147483648) ≤ a0 ∧ a0 ≤ 2147483647) (v1 : (-2147483648) ≤ a1 ∧ a1 ≤ 2147483647) : wC_keep a0 a1 MC (fun z M8 => wR_keep a0 a1 MR (fun z9 M9 => INV M8 M9 ∧ True)) := by
  obtain ⟨i0, i1, i_Pi⟩ := id hI
  refine sC_keep hI.1  v0 v1 (fun z M8 h8 => ?_)
  obtain ⟨b8, f8, p8⟩ := h8
  refine sR_keep hI.2.1  v0 v1 (fun z9 M9 h9 => ?_)
  obtain ⟨b9, f9, p9⟩ := h9
  exact ⟨⟨b8, b9, (iPi_kept i_Pi (fun j hj => f8 j (by omega)) (congrFun (f8 86 (by omega)) 0) (f9 0 27 (by omega)) (funext fun k => f9 16 k (by omega)) (funext fun k => f9 17 k (by omega)))⟩, trivial⟩
set_option maxHeartbeats 4000000 in
theorem st_known {MC MR : zM} {a0 : Int} {a1 : Int} (hI : INV MC MR) (v0 : (-2147483648) ≤ a0 ∧ a0 ≤ 2147483647) (v1 : (-2147483648) ≤ a1 ∧ a1 ≤ 2147483647) : wC_known a0 a1 MC (fun z => wR_known a0 a1 MR (fun z9 M9 => INV MC M9 ∧ True)) := by
  obtain ⟨i0, i1, i_Pi⟩ := id hI
  refine sC_known hI.1  v0 v1 (fun z p8 => ?_)
  refine sR_known hI.2.1  v0 v1 (fun z9 M9 h9 => ?_)
  obtain ⟨b9, f9, p9⟩ := h9
  exact ⟨⟨hI.1, b9, (iPi_kept i_Pi (fun j hj => rfl) rfl (f9 0 27 (by omega)) (funext fun k => f9 16 k (by omega)) (funext fun k => f9 17 k (by omega)))⟩, trivial⟩
set_option maxHeartbeats 4000000 in
theorem st_fetch {MC MR : zM} {a0 : Int} (hI : INV MC MR) (v0 : (-2147483648) ≤ a0 ∧ a0 ≤ 2147483647) : wC_fetch a0 MC (fun z M8 => wR_fetch a0 MR (fun z9 M9 => INV M8 M9 ∧ True)) := by
  obtain ⟨i0, i1, i_Pi⟩ := id hI
  refine sC_fetch hI.1  v0 (fun z M8 h8 => ?_)
  obtain ⟨b8, f8, p8⟩ := h8
  refine sR_fetch hI.2.1  v0 (fun z9 M9 h9 => ?_)
  obtain ⟨b9, f9, p9⟩ := h9
  exact ⟨⟨b8, b9, (iPi_kept i_Pi (fun j hj => f8 j (by omega)) (congrFun (f8 86 (by omega)) 0) (f9 0 27 (by omega)) (funext fun k => f9 16 k (by omega)) (funext fun k => f9 17 k (by omega)))⟩, trivial⟩
set_option maxHeartbeats 4000000 in
theorem st_edits {MC MR : zM} {a0 : Int} {a1 : Int} (hI : INV MC MR) (v0 : (-2147483648) ≤ a0 ∧ a0 ≤ 2147483647) (v1 : (-2147483648) ≤ a1 ∧ a1 ≤ 2147483647) : wC_edits a0 a1 MC (fun z M8 => wR_edits a0 a1 MR (fun z9 M9 => INV M8 M9 ∧ True)) := by
  obtain ⟨i0, i1, i_Pi⟩ := id hI
  refine sC_edits hI.1  v0 v1 (fun z M8 h8 => ?_)
  obtain ⟨b8, f8, p8⟩ := h8
  refine sR_edits hI.2.1  v0 v1 (fun z9 M9 h9 => ?_)
  obtain ⟨b9, f9, p9⟩ := h9
  exact ⟨⟨b8, b9, (iPi_kept i_Pi (fun j hj => f8 j (by omega)) (congrFun (f8 86 (by omega)) 0) (f9 0 27 (by omega)) (funext fun k => f9 16 k (by omega)) (funext fun k => f9 17 k (by omega)))⟩, trivial⟩
set_option maxHeartbeats 4000000 in
theorem st_row {MC MR : zM} {a0 : Int} (hI : INV MC MR) (v0 : (-2147483648) ≤ a0 ∧ a0 ≤ 2147483647) : wC_row a0 MC (fun z => wR_row a0 MR (fun z9 M9 => INV MC M9 ∧ True)) (wR_row a0 MR (fun z9 M9 => INV MC M9 ∧ True)) := by
  obtain ⟨i0, i1, i_Pi⟩ := id hI
  have hx : wR_row a0 MR (fun z9 M9 => INV MC M9 ∧ True) := by
    refine sR_row hI.2.1 v0 (fun z9 M9 h9 => ?_)
    obtain ⟨b9, f9, p9⟩ := h9
    exact ⟨⟨hI.1, b9, (iPi_kept i_Pi (fun j hj => rfl) rfl (f9 0 27 (by omega)) (funext fun k => f9 16 k (by omega)) (funext fun k => f9 17 k (by omega)))⟩, trivial⟩
  exact sC_row hI.1 v0 hx (fun z h8 => hx)
