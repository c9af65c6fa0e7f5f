/-! safety of the class, 4 -/
set_option maxHeartbeats 4000000 in
set_option maxRecDepth 100000 in
theorem sC_span {M : zM} {a0 : Int} (hB : BN wC M) (v0 : (-2147483648) ≤ a0 ∧ a0 ≤ 2147483647) {Q : Int → zM → Prop} (hQ : ∀ (z : Int) (M1 : zM), BN wC M1 ∧ (∀ j9 : Nat, ¬ (82 ≤ j9 ∧ j9 ≤ 85) → M1 j9 = M j9) ∧ ((-2147483648) ≤ z ∧ z ≤ 2147483647) ∧ (M1 82 1 = M 82 1) ∧ True → Q z M1) : wC_span a0 M Q := by
  unfold wC_span
  have hF0 : ∀ j9 : Nat, ¬ (82 ≤ j9 ∧ j9 ≤ 85) → M j9 = M j9 := fun j9 _ => rfl
  refine sC_OldTape_spanNumber hB (by omega) (fun z1 M2 h3 => ?_)
  obtain ⟨hB4, f5, p6, p7, -⟩ := h3
  have hF8 : ∀ j9 : Nat, ¬ (82 ≤ j9 ∧ j9 ≤ 85) → M2 j9 = M j9 := fun j9 h9 => ((f5 j9 (by omega)).trans (hF0 j9 h9))
  exact hQ _ _ ⟨hB4, hF8, (by omega), (by omega), trivial⟩
theorem sC_OldTape_makeGreatest {M : zM} {a0 : Nat} {a1 : Int} (hB : BN wC M) (lt_a0 : a0 < nC) {q : Nat} (cd_a0 : zcd wC a0 = q) (v1 : 1 ≤ a1 ∧ a1 ≤ 24) (p0 : ∀ k, cbt q k = (-2147483648, 2147483647)) (p1 : zln wC a0 = 24) {Q : zM → Prop} (hQ : ∀ M1, (BN wC M1 ∧ (∀ j9 : Nat, ¬ (j9 = a0) → M1 j9 = M j9) ∧ True) → Q M1) : wC_OldTape_makeGreatest a0 a1 M Q := by
  unfold wC_OldTape_makeGreatest
  refine sC_fill hB lt_a0 cd_a0 (by omega) p0 (by omega) (by omega) (fun M1 hp => ?_)
  obtain ⟨hB1, hF1, -, -⟩ := hp
  refine wL1_of (fun x M4 => BN wC M4 ∧ (∀ j9 : Nat, ¬ (j9 = a0) → M4 j9 = M j9) ∧ (0 ≤ x ∧ x ≤ 1000000) ∧ True) (fun x _ => (1000000 - x).toNat) ⟨hB1, hF1, by omega, trivial⟩ (fun K x M4 hI hK => ?_)
  obtain ⟨hB4, hF4, i1, -⟩ := hI
  have s2 : sI x = x := sIo (by omega) (by omega)
  have b1 : 0 ≤ M4 82 1 ∧ M4 82 1 ≤ 60 := BN.at hB4 (rfl : zcd wC 82 = 34) rfl
  have s3 : sI (M4 82 1) = M4 82 1 := sIo (by omega) (by omega)
  refine ⟨fun c => hQ _ ⟨hB4, hF4, trivial⟩, fun c => ⟨by omega, fun c2 => ?_, fun c2 => ?_⟩⟩
  · exact hK _ _ ⟨hB4, hF4, by omega, trivial⟩ (by omega)
  · refine sC_by hB4 (by omega) (fun z hp => ?_)
    obtain ⟨q1, q2, q3, -⟩ := hp
    refine ⟨by omega, by omega, by omega, ?_⟩
    intro M5 e5
    have r := andI_R (M4 a0 z.toNat) (M4 83 (sI x).toNat)
    exact hK _ _ ⟨by rw [e5]; exact BN.up hB4 cd_a0 (p0 _) r.1 r.2, fun j9 h9 => by rw [e5, zup_row _ _ h9]; exact hF4 j9 h9, by omega, trivial⟩ (by omega)
set_option maxHeartbeats 4000000 in
set_option maxRecDepth 100000 in
theorem sC_OldTape_pairFits {M : zM} {a0 : Int} {a1 : Int} (hB : BN wC M) (v0 : 1 ≤ a0 ∧ a0 ≤ 24) (v1 : 1 ≤ a1 ∧ a1 ≤ 24) {Q : Int → zM → Prop} (hQ : ∀ (z : Int) (M1 : zM), BN wC M1 ∧ (∀ j9 : Nat, ¬ (82 ≤ j9 ∧ j9 ≤ 85) → M1 j9 = M j9) ∧ (0 ≤ z ∧ z ≤ 1) ∧ (M1 82 1 = M 82 1) ∧ True → Q z M1) : wC_OldTape_pairFits a0 a1 M Q := by
  unfold wC_OldTape_pairFits
  have hF0 : ∀ j9 : Nat, ¬ (82 ≤ j9 ∧ j9 ≤ 85) → M j9 = M j9 := fun j9 _ => rfl
  refine sC_OldTape_makeGreatest hB (by decide) (rfl : zcd wC 84 = 36) (by omega) (fun _ => rfl) rfl (fun  M1 h2 => ?_)
  obtain ⟨hB3, f4, -⟩ := h2
  have hF5 : ∀ j9 : Nat, ¬ (82 ≤ j9 ∧ j9 ≤ 85) → M1 j9 = M j9 := fun j9 h9 => ((f4 j9 (by omega)).trans (hF0 j9 h9))
  have r6 : M1 82 1 = M 82 1 := congrFun (f4 82 (by omega)) 1
  refine sC_OldTape_makeGreatest hB3 (by decide) (rfl : zcd wC 85 = 37) (by omega) (fun _ => rfl) rfl (fun  M7 h8 => ?_)
  obtain ⟨hB9, f10, -⟩ := h8
  have hF11 : ∀ j9 : Nat, ¬ (82 ≤ j9 ∧ j9 ≤ 85) → M7 j9 = M j9 := fun j9 h9 => ((f10 j9 (by omega)).trans (hF5 j9 h9))
  have r12 : M7 82 1 = M1 82 1 := congrFun (f10 82 (by omega)) 1
  refine pL1_of (fun x13 => (0 ≤ x13 ∧ x13 ≤ 1000000) ∧ True) (fun x13 => (1000000 - x13).toNat) ⟨(by omega), trivial⟩ (fun K x13 h15 k16 => ?_)
  obtain ⟨i14, -⟩ := h15
  have q17 : 0 ≤ (M7 82 1) ∧ (M7 82 1) ≤ 60 := BN.at hB9 (rfl : zcd wC 82 = 34) rfl
  have s18 : sI x13 = x13 := sIo (by omega) (by omega)
  have s19 : sI (M7 82 1) = (M7 82 1) := sIo (by omega) (by omega)
  refine ⟨fun c20 => ?_, fun c20 => ?_⟩
  · skip
    exact hQ _ _ ⟨hB9, hF11, (by omega), (by omega), trivial⟩
  · skip
    have o21 : 0 ≤ (sI x13) ∧ (sI x13) < 60 := by omega
    refine ⟨o21, ?_⟩
    have q22 : (-2147483648) ≤ (M7 83 (sI x13).toNat) ∧ (M7 83 (sI x13).toNat) ≤ 2147483647 := BN.at hB9 (rfl : zcd wC 83 = 35) rfl
    have s23 : sI (M7 83 (sI x13).toNat) = (M7 83 (sI x13).toNat) := sIo (by omega) (by omega)
    refine ⟨fun c24 => ?_, fun c24 => ?_⟩
    · skip
      exact k16 _ ⟨(by omega), trivial⟩ (by omega)
    · skip
      refine sC_by hB9 (by omega) (fun z25  h26 => ?_)
      obtain ⟨p27, p28, p29, -⟩ := h26
      have o30 : 0 ≤ z25 ∧ z25 < 24 := by omega
      refine ⟨o30, ?_⟩
      have q31 : (-2147483648) ≤ (M7 84 z25.toNat) ∧ (M7 84 z25.toNat) ≤ 2147483647 := BN.at hB9 (rfl : zcd wC 84 = 36) rfl
      refine sC_by hB9 (by omega) (fun z32  h33 => ?_)
      obtain ⟨p34, p35, p36, -⟩ := h33
      have o37 : 0 ≤ z32 ∧ z32 < 24 := by omega
      refine ⟨o37, ?_⟩
      have q38 : (-2147483648) ≤ (M7 85 z32.toNat) ∧ (M7 85 z32.toNat) ≤ 2147483647 := BN.at hB9 (rfl : zcd wC 85 = 37) rfl
      have q39 := orI_R (M7 84 z25.toNat) (M7 85 z32.toNat)
      have o40 : 0 ≤ (sI x13) ∧ (sI x13) < 60 := by omega
      refine ⟨o40, ?_⟩
      refine ⟨fun c42 => ?_, fun c42 => ?_⟩
      · skip
        exact k16 _ ⟨(by omega), trivial⟩ (by omega)
      · skip
        exact hQ _ _ ⟨hB9, hF11, (by omega), (by omega), trivial⟩
set_option maxHeartbeats 4000000 in
set_option maxRecDepth 100000 in
theorem sC_OldTape_pairNumber {M : zM} {a0 : Int} (hB : BN wC M) (v0 : (-2147483648) ≤ a0 ∧ a0 ≤ 2147483647) {Q : Int → zM → Prop} (hQ : ∀ (z : Int) (M1 : zM), BN wC M1 ∧ (∀ j9 : Nat, ¬ (82 ≤ j9 ∧ j9 ≤ 85) → M1 j9 = M j9) ∧ ((-1) ≤ z ∧ z ≤ 2424) ∧ (M1 82 1 = M 82 1) ∧ (z = -1 ∨ (101 ≤ z ∧ z ≤ 2424 ∧ 1 ≤ z % 100 ∧ z % 100 ≤ 24)) ∧ True → Q z M1) : wC_OldTape_pairNumber a0 M Q := by
  unfold wC_OldTape_pairNumber
  have hF0 : ∀ j9 : Nat, ¬ (82 ≤ j9 ∧ j9 ≤ 85) → M j9 = M j9 := fun j9 _ => rfl
  refine wL2_of (fun x1 x2 M3 => BN wC M3 ∧ (∀ j9 : Nat, ¬ (82 ≤ j9 ∧ j9 ≤ 85) → M3 j9 = M j9) ∧ (0 ≤ x1 ∧ x1 ≤ 1000000) ∧ (2 ≤ x2 ∧ x2 ≤ 1000000) ∧ (x1 ≤ 50 * x2) ∧ (M3 82 1 = M 82 1) ∧ True) (fun x1 x2 M3 => (100 - x2).toNat) ⟨hB, hF0, (by omega), (by omega), (by omega), (by omega), trivial⟩ (fun K x1 x2 M3 h10 k11 => ?_)
  obtain ⟨hB4, hF5, i6, i7, i8, i9, -⟩ := h10
  have s12 : sI x2 = x2 := sIo (by omega) (by omega)
  refine ⟨fun c13 => ?_, fun c13 => ?_⟩
  · skip
    exact hQ _ _ ⟨hB4, hF5, (by omega), (by omega), (by omega), trivial⟩
  · skip
    have s14 : sI (x2 - 24) = (x2 - 24) := sIo (by omega) (by omega)
    refine wL2_of (fun x15 x16 M17 => BN wC M17 ∧ (∀ j9 : Nat, ¬ (82 ≤ j9 ∧ j9 ≤ 85) → M17 j9 = M j9) ∧ (0 ≤ x15 ∧ x15 ≤ 1000000) ∧ (1 ≤ x16 ∧ x16 ≤ 1000000) ∧ (x15 ≤ 50 * x2 + x16) ∧ (x2 - 24 ≤ x16) ∧ (x16 ≤ x2) ∧ (M17 82 1 = M 82 1) ∧ True) (fun x15 x16 M17 => (100 - x16).toNat) ⟨hB4, hF5, (by omega), (by omega), (by omega), (by omega), (by omega), (by omega), trivial⟩ (fun K x15 x16 M17 h26 k27 => ?_)
    obtain ⟨hB18, hF19, i20, i21, i22, i23, i24, i25, -⟩ := h26
    have s28 : sI x16 = x16 := sIo (by omega) (by omega)
    have s29 : sI (x2 - x16) = (x2 - x16) := sIo (by omega) (by omega)
    refine ⟨fun c30 => ?_, fun c30 => ?_⟩
    · skip
      exact k11 _ _ _ ⟨hB18, hF19, (by omega), (by omega), (by omega), (by omega), trivial⟩ (by omega)
    · skip
      refine sC_OldTape_pairFits hB18 (by omega) (by omega) (fun z31 M32 h33 => ?_)
      obtain ⟨hB34, f35, p36, p37, -⟩ := h33
      have hF38 : ∀ j9 : Nat, ¬ (82 ≤ j9 ∧ j9 ≤ 85) → M32 j9 = M j9 := fun j9 h9 => ((f35 j9 (by omega)).trans (hF19 j9 h9))
      refine ⟨fun c39 => ?_, fun c39 => ?_⟩
      · skip
        exact k27 _ _ _ ⟨hB34, hF38, (by omega), (by omega), (by omega), (by omega), (by omega), (by omega), trivial⟩ (by omega)
      · skip
        have s40 : sI x15 = x15 := sIo (by omega) (by omega)
        have s41 : sI a0 = a0 := sIo (by omega) (by omega)
        refine ⟨fun c42 => ?_, fun c42 => ?_⟩
        · skip
          exact k27 _ _ _ ⟨hB34, hF38, (by omega), (by omega), (by omega), (by omega), (by omega), (by omega), trivial⟩ (by omega)
        · skip
          have s43 : sI (((100 * x16) + x2) - x16) = (((100 * x16) + x2) - x16) := sIo (by omega) (by omega)
          exact hQ _ _ ⟨hB34, hF38, (by omega), (by omega), (by omega), trivial⟩
set_option maxHeartbeats 4000000 in
set_option maxRecDepth 100000 in
theorem sC_pair {M : zM} {a0 : Int} (hB : BN wC M) (v0 : (-2147483648) ≤ a0 ∧ a0 ≤ 2147483647) {Q : Int → zM → Prop} (hQ : ∀ (z : Int) (M1 : zM), BN wC M1 ∧ (∀ j9 : Nat, ¬ (82 ≤ j9 ∧ j9 ≤ 85) → M1 j9 = M j9) ∧ ((-2147483648) ≤ z ∧ z ≤ 2147483647) ∧ (M1 82 1 = M 82 1) ∧ True → Q z M1) : wC_pair a0 M Q := by
  unfold wC_pair
  have hF0 : ∀ j9 : Nat, ¬ (82 ≤ j9 ∧ j9 ≤ 85) → M j9 = M j9 := fun j9 _ => rfl
  refine sC_OldTape_pairNumber hB (by omega) (fun z1 M2 h3 => ?_)
  obtain ⟨hB4, f5, p6, p7, p8, -⟩ := h3
  have hF9 : ∀ j9 : Nat, ¬ (82 ≤ j9 ∧ j9 ≤ 85) → M2 j9 = M j9 := fun j9 h9 => ((f5 j9 (by omega)).trans (hF0 j9 h9))
  exact hQ _ _ ⟨hB4, hF9, (by omega), (by omega), trivial⟩
set_option maxHeartbeats 4000000 in
set_option maxRecDepth 100000 in
theorem sC_OldTape_mendedAt {M : zM} {a0 : Int} (hB : BN wC M) (v0 : (-2147483648) ≤ a0 ∧ a0 ≤ 2147483647) {Q : Int → zM → Prop} (hQ : ∀ (z : Int) (M1 : zM), BN wC M1 ∧ (∀ j9 : Nat, ¬ (82 ≤ j9 ∧ j9 ≤ 85) → M1 j9 = M j9) ∧ ((-2147483648) ≤ z ∧ z ≤ 2147483647) ∧ (M1 82 1 = M 82 1) ∧ True → Q z M1) : wC_OldTape_mendedAt a0 M Q := by
  unfold wC_OldTape_mendedAt
  have hF0 : ∀ j9 : Nat, ¬ (82 ≤ j9 ∧ j9 ≤ 85) → M j9 = M j9 := fun j9 _ => rfl
  have s1 : sI a0 = a0 := sIo (by omega) (by omega)
  refine ⟨fun c2 => ?_, fun c2 => ?_⟩
  · skip
    exact hQ _ _ ⟨hB, hF0, (by omega), (by omega), trivial⟩
  · skip
    have q3 : 0 ≤ (M 82 1) ∧ (M 82 1) ≤ 60 := BN.at hB (rfl : zcd wC 82 = 34) rfl
    have s4 : sI (M 82 1) = (M 82 1) := sIo (by omega) (by omega)
    refine ⟨fun c5 => ?_, fun c5 => ?_⟩
    · skip
      refine sC_OldTape_pairNumber hB (by omega) (fun z6 M7 h8 => ?_)
      obtain ⟨hB9, f10, p11, p12, p13, -⟩ := h8
      have hF14 : ∀ j9 : Nat, ¬ (82 ≤ j9 ∧ j9 ≤ 85) → M7 j9 = M j9 := fun j9 h9 => ((f10 j9 (by omega)).trans (hF0 j9 h9))
      refine ⟨fun c15 => ?_, fun c15 => ?_⟩
      · skip
        have q16 : (z6.tdiv 100) = z6 / 100 := Int.tdiv_eq_ediv_of_nonneg (by omega)
        refine sC_by hB9 (by omega) (fun z17  h18 => ?_)
        obtain ⟨p19, p20, p21, -⟩ := h18
        have o22 : 0 ≤ z17 ∧ z17 < 24 := by omega
        refine ⟨o22, ?_⟩
        have q23 : (-2147483648) ≤ (M7 84 z17.toNat) ∧ (M7 84 z17.toNat) ≤ 2147483647 := BN.at hB9 (rfl : zcd wC 84 = 36) rfl
        have q24 : (z6.tmod 100) = z6 % 100 := Int.tmod_eq_emod_of_nonneg (by omega)
        refine sC_by hB9 (by omega) (fun z25  h26 => ?_)
        obtain ⟨p27, p28, p29, -⟩ := h26
        have o30 : 0 ≤ z25 ∧ z25 < 24 := by omega
        refine ⟨o30, ?_⟩
        have q31 : (-2147483648) ≤ (M7 85 z25.toNat) ∧ (M7 85 z25.toNat) ≤ 2147483647 := BN.at hB9 (rfl : zcd wC 85 = 37) rfl
        have q32 := orI_R (M7 84 z17.toNat) (M7 85 z25.toNat)
        exact hQ _ _ ⟨hB9, hF14, (by omega), (by omega), trivial⟩
      · skip
        exact hQ _ _ ⟨hB9, hF14, (by omega), (by omega), trivial⟩
    · skip
      exact hQ _ _ ⟨hB, hF0, (by omega), (by omega), trivial⟩
set_option maxHeartbeats 4000000 in
set_option maxRecDepth 100000 in
theorem sC_mended {M : zM} {a0 : Int} (hB : BN wC M) (v0 : (-2147483648) ≤ a0 ∧ a0 ≤ 2147483647) {Q : Int → zM → Prop} (hQ : ∀ (z : Int) (M1 : zM), BN wC M1 ∧ (∀ j9 : Nat, ¬ (82 ≤ j9 ∧ j9 ≤ 85) → M1 j9 = M j9) ∧ ((-2147483648) ≤ z ∧ z ≤ 2147483647) ∧ (M1 82 1 = M 82 1) ∧ True → Q z M1) : wC_mended a0 M Q := by
  unfold wC_mended
  have hF0 : ∀ j9 : Nat, ¬ (82 ≤ j9 ∧ j9 ≤ 85) → M j9 = M j9 := fun j9 _ => rfl
  refine sC_OldTape_mendedAt hB (by omega) (fun z1 M2 h3 => ?_)
  obtain ⟨hB4, f5, p6, p7, -⟩ := h3
  have hF8 : ∀ j9 : Nat, ¬ (82 ≤ j9 ∧ j9 ≤ 85) → M2 j9 = M j9 := fun j9 h9 => ((f5 j9 (by omega)).trans (hF0 j9 h9))
  exact hQ _ _ ⟨hB4, hF8, (by omega), (by omega), trivial⟩
set_option maxHeartbeats 4000000 in
set_option maxRecDepth 100000 in
theorem sC_Pieces_digit {M : zM} {a0 : Int} {a1 : Int} (hB : BN wC M) (v0 : (-2147483648) ≤ a0 ∧ a0 ≤ 2147483647) (v1 : 0 ≤ a1 ∧ a1 ≤ 7) {Q : Int → Prop} (hQ : ∀ (z : Int), (0 ≤ z ∧ z ≤ 15) ∧ True → Q z) : wC_Pieces_digit a0 a1 M Q := by
  unfold wC_Pieces_digit
  have q1 := ushrI_R a0 (28 - (4 * a1))
  have q2 := andI_br (ushrI a0 (28 - (4 * a1))) (c := 15) (by decide) (by decide)
  exact hQ _ ⟨(by omega), trivial⟩
set_option maxHeartbeats 4000000 in
set_option maxRecDepth 100000 in
theorem sC_Pieces_add {M : zM} {a0 : Int} {a1 : Int} (hB : BN wC M) (v0 : (-2147483648) ≤ a0 ∧ a0 ≤ 2147483647) (v1 : 1 ≤ a1 ∧ a1 ≤ 8) {Q : Int → zM → Prop} (hQ : ∀ (z : Int) (M1 : zM), BN wC M1 ∧ (∀ j9 : Nat, ¬ (86 ≤ j9 ∧ j9 ≤ 95) → M1 j9 = M j9) ∧ ((-2147483648) ≤ z ∧ z ≤ 2147483647) ∧ ((M 86 0 < 5 ∧ z = M 86 0 ∧ M1 86 0 = M 86 0 + 1) ∨ (z = -1 ∧ M1 86 0 = M 86 0)) ∧ True → Q z M1) : wC_Pieces_add a0 a1 M Q := by
  unfold wC_Pieces_add
  have hF0 : ∀ j9 : Nat, ¬ (86 ≤ j9 ∧ j9 ≤ 95) → M j9 = M j9 := fun j9 _ => rfl
  have q1 : 0 ≤ (M 86 0) ∧ (M 86 0) ≤ 5 := BN.at hB (rfl : zcd wC 86 = 38) rfl
  have s2 : sI (M 86 0) = (M 86 0) := sIo (by omega) (by omega)
  refine ⟨fun c3 => ?_, fun c3 => ?_⟩
  · skip
    refine wL1_of (fun x4 M5 => BN wC M5 ∧ (∀ j9 : Nat, ¬ (86 ≤ j9 ∧ j9 ≤ 95) → M5 j9 = M j9) ∧ (0 ≤ x4 ∧ x4 ≤ 1000000) ∧ (M5 86 0 = M 86 0) ∧ (x4 ≤ 8) ∧ True) (fun x4 M5 => (1000000 - x4).toNat) ⟨hB, hF0, (by omega), (by omega), (by omega), trivial⟩ (fun K x4 M5 h11 k12 => ?_)
    obtain ⟨hB6, hF7, i8, i9, i10, -⟩ := h11
    have s13 : sI x4 = x4 := sIo (by omega) (by omega)
    have s14 : sI a1 = a1 := sIo (by omega) (by omega)
    refine ⟨fun c15 => ?_, fun c15 => ?_⟩
    · skip
      have q16 : 0 ≤ (M5 86 0) ∧ (M5 86 0) ≤ 5 := BN.at hB6 (rfl : zcd wC 86 = 38) rfl
      have s17 : sI (M5 86 0) = (M5 86 0) := sIo (by omega) (by omega)
      have o18 : 0 ≤ (sI (M5 86 0)) ∧ (sI (M5 86 0)) < 5 := by omega
      refine ⟨o18, ?_⟩
      intro M19 e20
      have hB21 : BN wC M19 := by rw [e20]; exact BN.up hB6 (rfl : zcd wC 94 = 42) rfl (by omega) (by omega)
      have hF22 : ∀ j9 : Nat, ¬ (86 ≤ j9 ∧ j9 ≤ 95) → M19 j9 = M j9 := fun j9 h9 => by rw [e20]; exact (zup_row _ _ (by omega)).trans (hF7 j9 h9)
      have r23 : M19 86 0 = M5 86 0 := by rw [e20]; exact zup_n _ _ (by omega)
      have q24 : 0 ≤ (M19 86 0) ∧ (M19 86 0) ≤ 5 := BN.at hB21 (rfl : zcd wC 86 = 38) rfl
      intro M25 e26
      have hB27 : BN wC M25 := by rw [e26]; exact BN.up hB21 (rfl : zcd wC 86 = 38) rfl (by omega) (by omega)
      have hF28 : ∀ j9 : Nat, ¬ (86 ≤ j9 ∧ j9 ≤ 95) → M25 j9 = M j9 := fun j9 h9 => by rw [e26]; exact (zup_row _ _ (by omega)).trans (hF22 j9 h9)
      have r29 : M25 86 0 = ((M19 86 0) + 1) := by rw [e26]; exact zup_s _ _ _ _
      have q30 : 0 ≤ (M25 86 0) ∧ (M25 86 0) ≤ 5 := BN.at hB27 (rfl : zcd wC 86 = 38) rfl
      have s31 : sI ((M25 86 0) - 1) = ((M25 86 0) - 1) := sIo (by omega) (by omega)
      exact hQ _ _ ⟨hB27, hF28, (by omega), (by omega), trivial⟩
    · skip
      refine sC_Pieces_digit hB6 (by omega) (by omega) (fun z32  h33 => ?_)
      obtain ⟨p34, -⟩ := h33
      refine ⟨fun c35 => ?_, fun c35 => ?_⟩
      · skip
        have q36 : 0 ≤ (M5 86 0) ∧ (M5 86 0) ≤ 5 := BN.at hB6 (rfl : zcd wC 86 = 38) rfl
        have s37 : sI (M5 86 0) = (M5 86 0) := sIo (by omega) (by omega)
        have o38 : 0 ≤ (sI (M5 86 0)) ∧ (sI (M5 86 0)) < 5 := by omega
        refine ⟨o38, ?_⟩
        obtain ⟨lt39, cd40⟩ : (89 + 1 * (sI (M5 86 0)).toNat) < nC ∧ zcd wC (89 + 1 * (sI (M5 86 0)).toNat) = 41 := (by decide : ∀ k : Nat, k < 5 → (89 + 1 * k) < nC ∧ zcd wC (89 + 1 * k) = 41) (sI (M5 86 0)).toNat (by omega)
        have o41 : 0 ≤ (sI x4) ∧ (sI x4) < 8 := by omega
        refine ⟨o41, ?_⟩
        intro M42 e43
        have hB44 : BN wC M42 := by rw [e43]; exact BN.up hB6 cd40 rfl (by omega) (by omega)
        have hF45 : ∀ j9 : Nat, ¬ (86 ≤ j9 ∧ j9 ≤ 95) → M42 j9 = M j9 := fun j9 h9 => by rw [e43]; exact (zup_row _ _ (by omega)).trans (hF7 j9 h9)
        have r46 : M42 86 0 = M5 86 0 := by rw [e43]; exact zup_n _ _ (by omega)
        exact k12 _ _ ⟨hB44, hF45, (by omega), (by omega), (by omega), trivial⟩ (by omega)
      · skip
        exact hQ _ _ ⟨hB6, hF7, (by omega), (by omega), trivial⟩
  · skip
    exact hQ _ _ ⟨hB, hF0, (by omega), (by omega), trivial⟩
set_option maxHeartbeats 4000000 in
set_option maxRecDepth 100000 in
theorem sC_piece {M : zM} {a0 : Int} {a1 : Int} (hB : BN wC M) (v0 : (-2147483648) ≤ a0 ∧ a0 ≤ 2147483647) (v1 : (-2147483648) ≤ a1 ∧ a1 ≤ 2147483647) {Q : Int → zM → Prop} (hQ : ∀ (z : Int) (M1 : zM), BN wC M1 ∧ (∀ j9 : Nat, ¬ (86 ≤ j9 ∧ j9 ≤ 95) → M1 j9 = M j9) ∧ ((-2147483648) ≤ z ∧ z ≤ 2147483647) ∧ ((M 86 0 < 5 ∧ z = M 86 0 ∧ M1 86 0 = M 86 0 + 1) ∨ (z = -1 ∧ M1 86 0 = M 86 0)) ∧ True → Q z M1) : wC_piece a0 a1 M Q := by
  unfold wC_piece
  have hF0 : ∀ j9 : Nat, ¬ (86 ≤ j9 ∧ j9 ≤ 95) → M j9 = M j9 := fun j9 _ => rfl
  refine sC_within hB (by omega) (by omega) (by omega) (fun z1  h2 => ?_)
  obtain ⟨p3, p4, -⟩ := h2
  refine ⟨fun c5 => ?_, fun c5 => ?_⟩
  · skip
    exact hQ _ _ ⟨hB, hF0, (by omega), (by omega), trivial⟩
  · skip
    refine sC_Pieces_add hB (by omega) (by omega) (fun z6 M7 h8 => ?_)
    obtain ⟨hB9, f10, p11, p12, -⟩ := h8
    have hF13 : ∀ j9 : Nat, ¬ (86 ≤ j9 ∧ j9 ≤ 95) → M7 j9 = M j9 := fun j9 h9 => ((f10 j9 (by omega)).trans (hF0 j9 h9))
    exact hQ _ _ ⟨hB9, hF13, (by omega), (by omega), trivial⟩
set_option maxHeartbeats 4000000 in
set_option maxRecDepth 100000 in
theorem sC_burn {M : zM}  (hB : BN wC M)  {Q : Int → zM → Prop} (hQ : ∀ (z : Int) (M1 : zM), BN wC M1 ∧ (∀ j9 : Nat, ¬ (86 ≤ j9 ∧ j9 ≤ 95) → M1 j9 = M j9) ∧ ((-2147483648) ≤ z ∧ z ≤ 2147483647) ∧ (z = M 86 0 ∧ M1 86 0 = 0) ∧ True → Q z M1) : wC_burn  M Q := by
  unfold wC_burn
  have hF0 : ∀ j9 : Nat, ¬ (86 ≤ j9 ∧ j9 ≤ 95) → M j9 = M j9 := fun j9 _ => rfl
  have q1 : 0 ≤ (M 86 0) ∧ (M 86 0) ≤ 5 := BN.at hB (rfl : zcd wC 86 = 38) rfl
  intro M2 e3
  have hB4 : BN wC M2 := by rw [e3]; exact BN.up hB (rfl : zcd wC 86 = 38) rfl (by omega) (by omega)
  have hF5 : ∀ j9 : Nat, ¬ (86 ≤ j9 ∧ j9 ≤ 95) → M2 j9 = M j9 := fun j9 h9 => by rw [e3]; exact (zup_row _ _ (by omega)).trans (hF0 j9 h9)
  have r6 : M2 86 0 = 0 := by rw [e3]; exact zup_s _ _ _ _
  have s7 : sI (M 86 0) = (M 86 0) := sIo (by omega) (by omega)
  exact hQ _ _ ⟨hB4, hF5, (by omega), (by omega), trivial⟩
set_option maxHeartbeats 4000000 in
set_option maxRecDepth 100000 in
theorem sC_Pieces_laidIsLess {M : zM} {a0 : Int} (hB : BN wC M) (v0 : 0 ≤ a0 ∧ a0 ≤ 40) {Q : Int → Prop} (hQ : ∀ (z : Int), (0 ≤ z ∧ z ≤ 1) ∧ True → Q z) : wC_Pieces_laidIsLess a0 M Q := by
  unfold wC_Pieces_laidIsLess
  refine pL1_of (fun x1 => (0 ≤ x1 ∧ x1 ≤ 1000000) ∧ True) (fun x1 => (1000000 - x1).toNat) ⟨(by omega), trivial⟩ (fun K x1 h3 k4 => ?_)
  obtain ⟨i2, -⟩ := h3
  have s5 : sI x1 = x1 := sIo (by omega) (by omega)
  have s6 : sI a0 = a0 := sIo (by omega) (by omega)
  refine ⟨fun c7 => ?_, fun c7 => ?_⟩
  · skip
    exact hQ _ ⟨(by omega), trivial⟩
  · skip
    have o8 : 0 ≤ (sI x1) ∧ (sI x1) < 40 := by omega
    refine ⟨o8, ?_⟩
    have q9 : (-2147483648) ≤ (M 95 (sI x1).toNat) ∧ (M 95 (sI x1).toNat) ≤ 2147483647 := BN.at hB (rfl : zcd wC 95 = 43) rfl
    have o10 : 0 ≤ (sI x1) ∧ (sI x1) < 40 := by omega
    refine ⟨o10, ?_⟩
    have q11 : (-2147483648) ≤ (M 87 (sI x1).toNat) ∧ (M 87 (sI x1).toNat) ≤ 2147483647 := BN.at hB (rfl : zcd wC 87 = 39) rfl
    have s12 : sI (M 95 (sI x1).toNat) = (M 95 (sI x1).toNat) := sIo (by omega) (by omega)
    have s13 : sI (M 87 (sI x1).toNat) = (M 87 (sI x1).toNat) := sIo (by omega) (by omega)
    refine ⟨fun c14 => ?_, fun c14 => ?_⟩
    · skip
      exact k4 _ ⟨(by omega), trivial⟩ (by omega)
    · skip
      have o15 : 0 ≤ (sI x1) ∧ (sI x1) < 40 := by omega
      refine ⟨o15, ?_⟩
      have o17 : 0 ≤ (sI x1) ∧ (sI x1) < 40 := by omega
      refine ⟨o17, ?_⟩
      refine ⟨fun c19 => ?_, fun c19 => ?_⟩
      · skip
        exact hQ _ ⟨(by omega), trivial⟩
      · skip
        exact hQ _ ⟨(by omega), trivial⟩
set_option maxHeartbeats 4000000 in
set_option maxRecDepth 100000 in
theorem sC_Pieces_keepBetter {M : zM} {a0 : Int} (hB : BN wC M) (v0 : 0 ≤ a0 ∧ a0 ≤ 40) {Q : zM → Prop} (hQ : ∀ (M1 : zM), BN wC M1 ∧ (∀ j9 : Nat, ¬ (j9 = 86 ∨ j9 = 87 ∨ j9 = 95) → M1 j9 = M j9) ∧ (M1 86 0 = M 86 0) ∧ True → Q M1) : wC_Pieces_keepBetter a0 M Q := by
  unfold wC_Pieces_keepBetter
  have hF0 : ∀ j9 : Nat, ¬ (j9 = 86 ∨ j9 = 87 ∨ j9 = 95) → M j9 = M j9 := fun j9 _ => rfl
  have q1 : 0 ≤ (M 86 2) ∧ (M 86 2) ≤ 41 := BN.at hB (rfl : zcd wC 86 = 38) rfl
  have s2 : sI a0 = a0 := sIo (by omega) (by omega)
  have s3 : sI (M 86 2) = (M 86 2) := sIo (by omega) (by omega)
  refine pJ0_dup ?_
  refine ⟨fun c4 => ?_, fun c4 => ?_⟩
  · skip
    intro M5 e6
    have hB7 : BN wC M5 := by rw [e6]; exact BN.up hB (rfl : zcd wC 86 = 38) rfl (by omega) (by omega)
    have hF8 : ∀ j9 : Nat, ¬ (j9 = 86 ∨ j9 = 87 ∨ j9 = 95) → M5 j9 = M j9 := fun j9 h9 => by rw [e6]; exact (zup_row _ _ (by omega)).trans (hF0 j9 h9)
    have r9 : M5 86 0 = M 86 0 := by rw [e6]; exact zup_n _ _ (by omega)
    have o10 : 0 ≤ (sI a0) := by omega
    refine ⟨o10, ?_⟩
    have o11 : 0 + (sI a0) ≤ 40 := by omega
    refine ⟨o11, ?_⟩
    have o12 : 0 + (sI a0) ≤ 40 := by omega
    refine ⟨o12, ?_⟩
    intro M13 e14
    have hB15 : BN wC M13 := by rw [e14]; exact BN.cp hB7 (rfl : zcd wC 87 = 39) (fun _ => rfl) (fun k => BN.r32 hB7 _ k)
    have hF16 : ∀ j9 : Nat, ¬ (j9 = 86 ∨ j9 = 87 ∨ j9 = 95) → M13 j9 = M j9 := fun j9 h9 => by rw [e14]; exact (zcp_row (by omega)).trans (hF8 j9 h9)
    have r17 : M13 86 0 = M5 86 0 := by rw [e14, zcp_row (by omega)]
    exact hQ _ ⟨hB15, hF16, (by omega), trivial⟩
  · skip
    refine ⟨fun c19 => ?_, fun c19 => ?_⟩
    · skip
      exact hQ _ ⟨hB, hF0, (by omega), trivial⟩
    · skip
      refine sC_Pieces_laidIsLess hB (by omega) (fun z20  h21 => ?_)
      obtain ⟨p22, -⟩ := h21
      refine ⟨fun c23 => ?_, fun c23 => ?_⟩
      · skip
        exact hQ _ ⟨hB, hF0, (by omega), trivial⟩
      · skip
        intro M24 e25
        have hB26 : BN wC M24 := by rw [e25]; exact BN.up hB (rfl : zcd wC 86 = 38) rfl (by omega) (by omega)
        have hF27 : ∀ j9 : Nat, ¬ (j9 = 86 ∨ j9 = 87 ∨ j9 = 95) → M24 j9 = M j9 := fun j9 h9 => by rw [e25]; exact (zup_row _ _ (by omega)).trans (hF0 j9 h9)
        have r28 : M24 86 0 = M 86 0 := by rw [e25]; exact zup_n _ _ (by omega)
        have o29 : 0 ≤ (sI a0) := by omega
        refine ⟨o29, ?_⟩
        have o30 : 0 + (sI a0) ≤ 40 := by omega
        refine ⟨o30, ?_⟩
        have o31 : 0 + (sI a0) ≤ 40 := by omega
        refine ⟨o31, ?_⟩
        intro M32 e33
        have hB34 : BN wC M32 := by rw [e33]; exact BN.cp hB26 (rfl : zcd wC 87 = 39) (fun _ => rfl) (fun k => BN.r32 hB26 _ k)
        have hF35 : ∀ j9 : Nat, ¬ (j9 = 86 ∨ j9 = 87 ∨ j9 = 95) → M32 j9 = M j9 := fun j9 h9 => by rw [e33]; exact (zcp_row (by omega)).trans (hF27 j9 h9)
        have r36 : M32 86 0 = M24 86 0 := by rw [e33, zcp_row (by omega)]
        exact hQ _ ⟨hB34, hF35, (by omega), trivial⟩
set_option maxHeartbeats 4000000 in
set_option maxRecDepth 100000 in
theorem sC_Pieces_sound {M : zM} {a0 : Int} {a1 : Int} {a2 : Int} (hB : BN wC M) (v0 : 0 ≤ a0 ∧ a0 ≤ 4) (v1 : (-2147483648) ≤ a1 ∧ a1 ≤ 2147483647) (v2 : 0 ≤ a2 ∧ a2 ≤ 7) (p0 : a2 < M 94 (sI a0).toNat) {Q : Int → Prop} (hQ : ∀ (z : Int), ((-2147483648) ≤ z ∧ z ≤ 2147483647) ∧ True → Q z) : wC_Pieces_sound a0 a1 a2 M Q := by
  unfold wC_Pieces_sound
  have s1 : sI a0 = a0 := sIo (by omega) (by omega)
  have o2 : 0 ≤ (sI a0) ∧ (sI a0) < 5 := by omega
  refine ⟨o2, ?_⟩
  obtain ⟨lt3, cd4⟩ : (89 + 1 * (sI a0).toNat) < nC ∧ zcd wC (89 + 1 * (sI a0).toNat) = 41 := (by decide : ∀ k : Nat, k < 5 → (89 + 1 * k) < nC ∧ zcd wC (89 + 1 * k) = 41) (sI a0).toNat (by omega)
  have s5 : sI a1 = a1 := sIo (by omega) (by omega)
  refine ⟨fun c6 => ?_, fun c6 => ?_⟩
  · skip
    have s7 : sI a2 = a2 := sIo (by omega) (by omega)
    have o8 : 0 ≤ (sI a2) ∧ (sI a2) < 8 := by omega
    refine ⟨o8, ?_⟩
    have q9 : (-2147483648) ≤ (M (89 + 1 * (sI a0).toNat) (sI a2).toNat) ∧ (M (89 + 1 * (sI a0).toNat) (sI a2).toNat) ≤ 2147483647 := BN.at hB cd4 rfl
    have s10 : sI (M (89 + 1 * (sI a0).toNat) (sI a2).toNat) = (M (89 + 1 * (sI a0).toNat) (sI a2).toNat) := sIo (by omega) (by omega)
    exact hQ _ ⟨(by omega), trivial⟩
  · skip
    have o11 : 0 ≤ (sI a0) ∧ (sI a0) < 5 := by omega
    refine ⟨o11, ?_⟩
    have q12 : 0 ≤ (M 94 (sI a0).toNat) ∧ (M 94 (sI a0).toNat) ≤ 8 := BN.at hB (rfl : zcd wC 94 = 42) rfl
    have s13 : sI (((M 94 (sI a0).toNat) - 1) - a2) = (((M 94 (sI a0).toNat) - 1) - a2) := sIo (by omega) (by omega)
    have o14 : 0 ≤ (sI (((M 94 (sI a0).toNat) - 1) - a2)) ∧ (sI (((M 94 (sI a0).toNat) - 1) - a2)) < 8 := by omega
    refine ⟨o14, ?_⟩
    have q15 : (-2147483648) ≤ (M (89 + 1 * (sI a0).toNat) (sI (((M 94 (sI a0).toNat) - 1) - a2)).toNat) ∧ (M (89 + 1 * (sI a0).toNat) (sI (((M 94 (sI a0).toNat) - 1) - a2)).toNat) ≤ 2147483647 := BN.at hB cd4 rfl
    have s16 : sI (M (89 + 1 * (sI a0).toNat) (sI (((M 94 (sI a0).toNat) - 1) - a2)).toNat) = (M (89 + 1 * (sI a0).toNat) (sI (((M 94 (sI a0).toNat) - 1) - a2)).toNat) := sIo (by omega) (by omega)
    exact hQ _ ⟨(by omega), trivial⟩
set_option maxHeartbeats 4000000 in
set_option maxRecDepth 100000 in
theorem sC_Pieces_alike {M : zM} {a0 : Int} {a1 : Int} {a2 : Int} {a3 : Int} (hB : BN wC M) (v0 : 0 ≤ a0 ∧ a0 ≤ 4) (v1 : (-2147483648) ≤ a1 ∧ a1 ≤ 2147483647) (v2 : 0 ≤ a2 ∧ a2 ≤ 40) (v3 : 0 ≤ a3 ∧ a3 ≤ 8) (p0 : a3 ≤ a2) (p1 : a3 ≤ M 94 (sI a0).toNat) {Q : Int → Prop} (hQ : ∀ (z : Int), (0 ≤ z ∧ z ≤ 1) ∧ True → Q z) : wC_Pieces_alike a0 a1 a2 a3 M Q := by
  unfold wC_Pieces_alike
  refine pL1_of (fun x1 => (0 ≤ x1 ∧ x1 ≤ 1000000) ∧ True) (fun x1 => (1000000 - x1).toNat) ⟨(by omega), trivial⟩ (fun K x1 h3 k4 => ?_)
  obtain ⟨i2, -⟩ := h3
  have s5 : sI x1 = x1 := sIo (by omega) (by omega)
  have s6 : sI a3 = a3 := sIo (by omega) (by omega)
  refine ⟨fun c7 => ?_, fun c7 => ?_⟩
  · skip
    exact hQ _ ⟨(by omega), trivial⟩
  · skip
    have s8 : sI ((a2 - a3) + x1) = ((a2 - a3) + x1) := sIo (by omega) (by omega)
    have o9 : 0 ≤ (sI ((a2 - a3) + x1)) ∧ (sI ((a2 - a3) + x1)) < 40 := by omega
    refine ⟨o9, ?_⟩
    have q10 : (-2147483648) ≤ (M 95 (sI ((a2 - a3) + x1)).toNat) ∧ (M 95 (sI ((a2 - a3) + x1)).toNat) ≤ 2147483647 := BN.at hB (rfl : zcd wC 95 = 43) rfl
    refine sC_Pieces_sound hB (by omega) (by omega) (by omega) (by omega) (fun z11  h12 => ?_)
    obtain ⟨p13, -⟩ := h12
    have s14 : sI (M 95 (sI ((a2 - a3) + x1)).toNat) = (M 95 (sI ((a2 - a3) + x1)).toNat) := sIo (by omega) (by omega)
    refine ⟨fun c15 => ?_, fun c15 => ?_⟩
    · skip
      exact k4 _ ⟨(by omega), trivial⟩ (by omega)
    · skip
      exact hQ _ ⟨(by omega), trivial⟩
set_option maxHeartbeats 4000000 in
set_option maxRecDepth 100000 in
theorem sC_Pieces_layPiece {M : zM} {a0 : Int} {a1 : Int} {a2 : Int} (hB : BN wC M) (v0 : 0 ≤ a0 ∧ a0 ≤ 4) (v1 : (-2147483648) ≤ a1 ∧ a1 ≤ 2147483647) (v2 : 0 ≤ a2 ∧ a2 ≤ 32) {Q : Int → zM → Prop} (hQ : ∀ (z : Int) (M1 : zM), BN wC M1 ∧ (∀ j9 : Nat, ¬ (j9 = 95) → M1 j9 = M j9) ∧ (0 ≤ z ∧ z ≤ 40) ∧ (z ≤ a2 + 8) ∧ True → Q z M1) : wC_Pieces_layPiece a0 a1 a2 M Q := by
  unfold wC_Pieces_layPiece
  have hF0 : ∀ j9 : Nat, ¬ (j9 = 95) → M j9 = M j9 := fun j9 _ => rfl
  have s1 : sI a0 = a0 := sIo (by omega) (by omega)
  have o2 : 0 ≤ (sI a0) ∧ (sI a0) < 5 := by omega
  refine ⟨o2, ?_⟩
  have q3 : 0 ≤ (M 94 (sI a0).toNat) ∧ (M 94 (sI a0).toNat) ≤ 8 := BN.at hB (rfl : zcd wC 94 = 42) rfl
  have s4 : sI (M 94 (sI a0).toNat) = (M 94 (sI a0).toNat) := sIo (by omega) (by omega)
  have s5 : sI a2 = a2 := sIo (by omega) (by omega)
  refine pL1_of (fun x6 => (0 ≤ x6 ∧ x6 ≤ 8) ∧ (x6 ≤ a2) ∧ (x6 ≤ M 94 (sI a0).toNat) ∧ True) (fun x6 => (x6 + 1).toNat) ⟨(by omega), (by omega), (by omega), trivial⟩ (fun K x6 h10 k11 => ?_)
  obtain ⟨i7, i8, i9, -⟩ := h10
  have s12 : sI x6 = x6 := sIo (by omega) (by omega)
  refine pJ0_dup ?_
  refine ⟨fun c13 => ?_, fun c13 => ?_⟩
  · skip
    refine wL1_of (fun x14 M15 => BN wC M15 ∧ (∀ j9 : Nat, ¬ (j9 = 95) → M15 j9 = M j9) ∧ (0 ≤ x14 ∧ x14 ≤ 1000000) ∧ True) (fun x14 M15 => (1000000 - x14).toNat) ⟨hB, hF0, (by omega), trivial⟩ (fun K x14 M15 h19 k20 => ?_)
    obtain ⟨hB16, hF17, i18, -⟩ := h19
    have s21 : sI a0 = a0 := sIo (by omega) (by omega)
    have o22 : 0 ≤ (sI a0) ∧ (sI a0) < 5 := by omega
    refine ⟨o22, ?_⟩
    have q23 : 0 ≤ (M15 94 (sI a0).toNat) ∧ (M15 94 (sI a0).toNat) ≤ 8 := BN.at hB16 (rfl : zcd wC 94 = 42) rfl
    have s24 : sI x14 = x14 := sIo (by omega) (by omega)
    have s25 : sI (M15 94 (sI a0).toNat) = (M15 94 (sI a0).toNat) := sIo (by omega) (by omega)
    refine ⟨fun c26 => ?_, fun c26 => ?_⟩
    · skip
      have o27 : 0 ≤ (sI a0) ∧ (sI a0) < 5 := by omega
      refine ⟨o27, ?_⟩
      have s29 : sI ((a2 - x6) + (M15 94 (sI a0).toNat)) = ((a2 - x6) + (M15 94 (sI a0).toNat)) := sIo (by omega) (by omega)
      exact hQ _ _ ⟨hB16, hF17, (by omega), (by omega), trivial⟩
    · skip
      refine sC_Pieces_sound hB16 (by omega) (by omega) (by omega) (by omega) (fun z30  h31 => ?_)
      obtain ⟨p32, -⟩ := h31
      have s33 : sI ((a2 - x6) + x14) = ((a2 - x6) + x14) := sIo (by omega) (by omega)
      have o34 : 0 ≤ (sI ((a2 - x6) + x14)) ∧ (sI ((a2 - x6) + x14)) < 40 := by omega
      refine ⟨o34, ?_⟩
      intro M35 e36
      have hB37 : BN wC M35 := by rw [e36]; exact BN.up hB16 (rfl : zcd wC 95 = 43) rfl (by omega) (by omega)
      have hF38 : ∀ j9 : Nat, ¬ (j9 = 95) → M35 j9 = M j9 := fun j9 h9 => by rw [e36]; exact (zup_row _ _ (by omega)).trans (hF17 j9 h9)
      exact k20 _ _ ⟨hB37, hF38, (by omega), trivial⟩ (by omega)
  · skip
    refine sC_Pieces_alike hB (by omega) (by omega) (by omega) (by omega) (by omega) (by omega) (fun z39  h40 => ?_)
    obtain ⟨p41, -⟩ := h40
    refine ⟨fun c42 => ?_, fun c42 => ?_⟩
    · skip
      refine wL1_of (fun x43 M44 => BN wC M44 ∧ (∀ j9 : Nat, ¬ (j9 = 95) → M44 j9 = M j9) ∧ (0 ≤ x43 ∧ x43 ≤ 1000000) ∧ True) (fun x43 M44 => (1000000 - x43).toNat) ⟨hB, hF0, (by omega), trivial⟩ (fun K x43 M44 h48 k49 => ?_)
      obtain ⟨hB45, hF46, i47, -⟩ := h48
      have s50 : sI a0 = a0 := sIo (by omega) (by omega)
      have o51 : 0 ≤ (sI a0) ∧ (sI a0) < 5 := by omega
      refine ⟨o51, ?_⟩
      have q52 : 0 ≤ (M44 94 (sI a0).toNat) ∧ (M44 94 (sI a0).toNat) ≤ 8 := BN.at hB45 (rfl : zcd wC 94 = 42) rfl
      have s53 : sI x43 = x43 := sIo (by omega) (by omega)
      have s54 : sI (M44 94 (sI a0).toNat) = (M44 94 (sI a0).toNat) := sIo (by omega) (by omega)
      refine ⟨fun c55 => ?_, fun c55 => ?_⟩
      · skip
        have o56 : 0 ≤ (sI a0) ∧ (sI a0) < 5 := by omega
        refine ⟨o56, ?_⟩
        have s58 : sI ((a2 - x6) + (M44 94 (sI a0).toNat)) = ((a2 - x6) + (M44 94 (sI a0).toNat)) := sIo (by omega) (by omega)
        exact hQ _ _ ⟨hB45, hF46, (by omega), (by omega), trivial⟩
      · skip
        refine sC_Pieces_sound hB45 (by omega) (by omega) (by omega) (by omega) (fun z59  h60 => ?_)
        obtain ⟨p61, -⟩ := h60
        have s62 : sI ((a2 - x6) + x43) = ((a2 - x6) + x43) := sIo (by omega) (by omega)
        have o63 : 0 ≤ (sI ((a2 - x6) + x43)) ∧ (sI ((a2 - x6) + x43)) < 40 := by omega
        refine ⟨o63, ?_⟩
        intro M64 e65
        have hB66 : BN wC M64 := by rw [e65]; exact BN.up hB45 (rfl : zcd wC 95 = 43) rfl (by omega) (by omega)
        have hF67 : ∀ j9 : Nat, ¬ (j9 = 95) → M64 j9 = M j9 := fun j9 h9 => by rw [e65]; exact (zup_row _ _ (by omega)).trans (hF46 j9 h9)
        exact k49 _ _ ⟨hB66, hF67, (by omega), trivial⟩ (by omega)
    · skip
      exact k11 _ ⟨(by omega), (by omega), (by omega), trivial⟩ (by omega)
theorem sC_Pieces_layRest : ∀ (n : Nat) {M : zM} {a1 a2 a3 : Int} (hB : BN wC M) (v1 : 0 ≤ a1 ∧ a1 ≤ 5) (v2 : -2147483648 ≤ a2 ∧ a2 ≤ 2147483647) (v3 : 0 ≤ a3 ∧ a3 ≤ 40) (p0 : a3 ≤ 8 * a1) (p1 : 6 ≤ (n : Int) + a1) {Q : zM → Prop} (hQ : ∀ M1, (BN wC M1 ∧ (∀ j9 : Nat, ¬ (j9 = 86 ∨ j9 = 87 ∨ j9 = 95) → M1 j9 = M j9) ∧ (M1 86 0 = M 86 0) ∧ True) → Q M1), wC_Pieces_layRest n a1 a2 a3 M Q := by
  intro n
  induction n with
  | zero => intro M a1 a2 a3 hB v1 v2 v3 p0 p1; omega
  | succ n ih =>
    intro M a1 a2 a3 hB v1 v2 v3 p0 p1 Q hQ
    show wC_Pieces_layRest_F (wC_Pieces_layRest n) a1 a2 a3 M Q
    unfold wC_Pieces_layRest_F
    have b1 : 0 ≤ M 86 0 ∧ M 86 0 ≤ 5 := BN.at hB (rfl : zcd wC 86 = 38) rfl
    have s1 : sI a1 = a1 := sIo (by omega) (by omega)
    have s3 : sI a3 = a3 := sIo (by omega) (by omega)
    have kb : wC_Pieces_keepBetter a3 M (fun M3 => Q M3) := sC_Pieces_keepBetter hB (by omega) (fun M1 hp => hQ _ ⟨hp.1, hp.2.1, hp.2.2.1, trivial⟩)
    refine ⟨fun c => ⟨fun c2 => kb, fun c2 => ⟨fun c3 => ?_, fun c3 => kb⟩⟩, fun c => hQ _ ⟨hB, fun _ _ => rfl, rfl, trivial⟩⟩
    refine wL1_of (fun x M4 => BN wC M4 ∧ (∀ j9 : Nat, ¬ (j9 = 86 ∨ j9 = 87 ∨ j9 = 95) → M4 j9 = M j9) ∧ (0 ≤ x ∧ x ≤ 1000000) ∧ (M4 86 0 = M 86 0) ∧ True) (fun x _ => (1000000 - x).toNat) ⟨hB, fun _ _ => rfl, by omega, rfl, trivial⟩ (fun K x M4 hI hK => ?_)
    obtain ⟨hB4, hF4, i1, e4, -⟩ := hI
    have s4 : sI x = x := sIo (by omega) (by omega)
    have b4 : 0 ≤ M4 86 0 ∧ M4 86 0 ≤ 5 := BN.at hB4 (rfl : zcd wC 86 = 38) rfl
    have s5 : sI (M4 86 0) = M4 86 0 := sIo (by omega) (by omega)
    have ro := orI_R a2 (shlI 1 x)
    refine ⟨fun c4 => hQ _ ⟨hB4, hF4, e4, trivial⟩, fun c4 => ⟨fun c5 => hK _ _ ⟨hB4, hF4, by omega, e4, trivial⟩ (by omega), fun c5 => ?_⟩⟩
    refine sC_Pieces_layPiece hB4 (by omega) (by omega) (by omega) (fun z M5 hp => ?_)
    obtain ⟨hB5, hF5, q1, q2, -⟩ := hp
    refine ih hB5 (by omega) ro (by omega) (by omega) (by omega) (fun M6 hp => ?_)
    obtain ⟨hB6, hF6, e6, -⟩ := hp
    refine sC_Pieces_layPiece hB6 (by omega) (by omega) (by omega) (fun z2 M7 hp => ?_)
    obtain ⟨hB7, hF7, q3, q4, -⟩ := hp
    refine ih hB7 (by omega) ro (by omega) (by omega) (by omega) (fun M8 hp => ?_)
    obtain ⟨hB8, hF8, e8, -⟩ := hp
    have e5 := congrFun (hF5 86 (by omega)) 0
    have e7 := congrFun (hF7 86 (by omega)) 0
    exact hK _ _ ⟨hB8, fun j9 h9 => (hF8 j9 h9).trans ((hF7 j9 (by omega)).trans ((hF6 j9 h9).trans ((hF5 j9 (by omega)).trans (hF4 j9 h9)))), by omega, by omega, trivial⟩ (by omega)
set_option maxHeartbeats 4000000 in
set_option maxRecDepth 100000 in
theorem sC_Pieces_joinAll {M : zM}  (hB : BN wC M)  {Q : Int → zM → Prop} (hQ : ∀ (z : Int) (M1 : zM), BN wC M1 ∧ (∀ j9 : Nat, ¬ (j9 = 86 ∨ j9 = 87 ∨ j9 = 95) → M1 j9 = M j9) ∧ (0 ≤ z ∧ z ≤ 41) ∧ (M1 86 0 = M 86 0) ∧ True → Q z M1) : wC_Pieces_joinAll  M Q := by
  unfold wC_Pieces_joinAll
  have hF0 : ∀ j9 : Nat, ¬ (j9 = 86 ∨ j9 = 87 ∨ j9 = 95) → M j9 = M j9 := fun j9 _ => rfl
  intro M1 e2
  have hB3 : BN wC M1 := by rw [e2]; exact BN.up hB (rfl : zcd wC 86 = 38) rfl (by omega) (by omega)
  have hF4 : ∀ j9 : Nat, ¬ (j9 = 86 ∨ j9 = 87 ∨ j9 = 95) → M1 j9 = M j9 := fun j9 h9 => by rw [e2]; exact (zup_row _ _ (by omega)).trans (hF0 j9 h9)
  have r5 : M1 86 0 = M 86 0 := by rw [e2]; exact zup_n _ _ (by omega)
  refine sC_Pieces_layRest 6 hB3 (by omega) (by omega) (by omega) (by omega) (by omega) (fun  M6 h7 => ?_)
  obtain ⟨hB8, f9, p10, -⟩ := h7
  have hF11 : ∀ j9 : Nat, ¬ (j9 = 86 ∨ j9 = 87 ∨ j9 = 95) → M6 j9 = M j9 := fun j9 h9 => ((f9 j9 (by omega)).trans (hF4 j9 h9))
  have q12 : 0 ≤ (M6 86 2) ∧ (M6 86 2) ≤ 41 := BN.at hB8 (rfl : zcd wC 86 = 38) rfl
  have s13 : sI (M6 86 2) = (M6 86 2) := sIo (by omega) (by omega)
  exact hQ _ _ ⟨hB8, hF11, (by omega), (by omega), trivial⟩
set_option maxHeartbeats 4000000 in
set_option maxRecDepth 100000 in
theorem sC_join {M : zM}  (hB : BN wC M)  {Q : Int → zM → Prop} (hQ : ∀ (z : Int) (M1 : zM), BN wC M1 ∧ (∀ j9 : Nat, ¬ (j9 = 86 ∨ j9 = 87 ∨ j9 = 95 ∨ j9 = 0 ∨ j9 = 133) → M1 j9 = M j9) ∧ ((-2147483648) ≤ z ∧ z ≤ 2147483647) ∧ (M1 86 0 = M 86 0) ∧ True → Q z M1) : wC_join  M Q := by
  unfold wC_join
  have hF0 : ∀ j9 : Nat, ¬ (j9 = 86 ∨ j9 = 87 ∨ j9 = 95 ∨ j9 = 0 ∨ j9 = 133) → M j9 = M j9 := fun j9 _ => rfl
  refine sC_Pieces_joinAll hB  (fun z1 M2 h3 => ?_)
  obtain ⟨hB4, f5, p6, p7, -⟩ := h3
  have hF8 : ∀ j9 : Nat, ¬ (j9 = 86 ∨ j9 = 87 ∨ j9 = 95 ∨ j9 = 0 ∨ j9 = 133) → M2 j9 = M j9 := fun j9 h9 => ((f5 j9 (by omega)).trans (hF0 j9 h9))
  refine sC_tell hB4 (by decide) (rfl : zcd wC 87 = 39) (by omega) (by decide) (fun  M9 h10 => ?_)
  obtain ⟨hB11, f12, -⟩ := h10
  have hF13 : ∀ j9 : Nat, ¬ (j9 = 86 ∨ j9 = 87 ∨ j9 = 95 ∨ j9 = 0 ∨ j9 = 133) → M9 j9 = M j9 := fun j9 h9 => ((f12 j9 (by omega)).trans (hF8 j9 h9))
  have r14 : M9 86 0 = M2 86 0 := congrFun (f12 86 (by omega)) 0
  exact hQ _ _ ⟨hB11, hF13, (by omega), (by omega), trivial⟩
set_option maxHeartbeats 4000000 in
set_option maxRecDepth 100000 in
theorem sC_Versions_add {M : zM} {a0 : Nat} {a1 : Int} {a2 : Int} (hB : BN wC M) (lt_a0 : a0 < nC) (cd_a0 : zcd wC a0 = 6) (v1 : (-2147483648) ≤ a1 ∧ a1 ≤ 2147483647) (v2 : (-2147483648) ≤ a2 ∧ a2 ≤ 2147483647) (p0 : a0 ≤ 60) {Q : Int → zM → Prop} (hQ : ∀ (z : Int) (M1 : zM), BN wC M1 ∧ (∀ j9 : Nat, ¬ (96 ≤ j9 ∧ j9 ≤ 132) → M1 j9 = M j9) ∧ ((-2147483648) ≤ z ∧ z ≤ 2147483647) ∧ True → Q z M1) : wC_Versions_add a0 a1 a2 M Q := by
  unfold wC_Versions_add
  have hF0 : ∀ j9 : Nat, ¬ (96 ≤ j9 ∧ j9 ≤ 132) → M j9 = M j9 := fun j9 _ => rfl
  obtain ⟨lt1, cd2⟩ := nx_strip a0 lt_a0 cd_a0
  have q3 : 0 ≤ (M 96 0) ∧ (M 96 0) ≤ 16 := BN.at hB (rfl : zcd wC 96 = 44) rfl
  have s4 : sI (M 96 0) = (M 96 0) := sIo (by omega) (by omega)
  refine ⟨fun c5 => ?_, fun c5 => ?_⟩
  · skip
    exact hQ _ _ ⟨hB, hF0, (by omega), trivial⟩
  · skip
    refine pJ0_dup ?_
    refine ⟨fun c7 => ?_, fun c7 => ?_⟩
    · skip
      have o9 : 0 ≤ (sI (M 96 0)) ∧ (sI (M 96 0)) < 16 := by omega
      refine ⟨o9, ?_⟩
      obtain ⟨lt10, cd11⟩ : (101 + 2 * (sI (M 96 0)).toNat) < nC ∧ zcd wC (101 + 2 * (sI (M 96 0)).toNat) = 6 := (by decide : ∀ k : Nat, k < 16 → (101 + 2 * k) < nC ∧ zcd wC (101 + 2 * k) = 6) (sI (M 96 0)).toNat (by omega)
      obtain ⟨lt12, cd13⟩ := nx_strip (101 + 2 * (sI (M 96 0)).toNat) lt10 cd11
      refine sC_Strip_copy hB lt10 cd11 lt_a0 cd_a0 (by omega) (fun  M14 h15 => ?_)
      obtain ⟨hB16, f17, -⟩ := h15
      have hF18 : ∀ j9 : Nat, ¬ (96 ≤ j9 ∧ j9 ≤ 132) → M14 j9 = M j9 := fun j9 h9 => ((f17 j9 (by omega)).trans (hF0 j9 h9))
      have r19 : M14 96 0 = M 96 0 := congrFun (f17 96 (by omega)) 0
      have q20 : 0 ≤ (M14 96 0) ∧ (M14 96 0) ≤ 16 := BN.at hB16 (rfl : zcd wC 96 = 44) rfl
      have s21 : sI (M14 96 0) = (M14 96 0) := sIo (by omega) (by omega)
      have o22 : 0 ≤ (sI (M14 96 0)) ∧ (sI (M14 96 0)) < 16 := by omega
      refine ⟨o22, ?_⟩
      intro M23 e24
      have hB25 : BN wC M23 := by rw [e24]; exact BN.up hB16 (rfl : zcd wC 98 = 46) rfl (by omega) (by omega)
      have hF26 : ∀ j9 : Nat, ¬ (96 ≤ j9 ∧ j9 ≤ 132) → M23 j9 = M j9 := fun j9 h9 => by rw [e24]; exact (zup_row _ _ (by omega)).trans (hF18 j9 h9)
      have r27 : M23 96 0 = M14 96 0 := by rw [e24]; exact zup_n _ _ (by omega)
      have q28 : 0 ≤ (M23 96 0) ∧ (M23 96 0) ≤ 16 := BN.at hB25 (rfl : zcd wC 96 = 44) rfl
      have s29 : sI (M23 96 0) = (M23 96 0) := sIo (by omega) (by omega)
      have o30 : 0 ≤ (sI (M23 96 0)) ∧ (sI (M23 96 0)) < 16 := by omega
      refine ⟨o30, ?_⟩
      intro M31 e32
      have hB33 : BN wC M31 := by rw [e32]; exact BN.up hB25 (rfl : zcd wC 99 = 47) rfl (by omega) (by omega)
      have hF34 : ∀ j9 : Nat, ¬ (96 ≤ j9 ∧ j9 ≤ 132) → M31 j9 = M j9 := fun j9 h9 => by rw [e32]; exact (zup_row _ _ (by omega)).trans (hF26 j9 h9)
      have r35 : M31 96 0 = M23 96 0 := by rw [e32]; exact zup_n _ _ (by omega)
      have q36 : 0 ≤ (M31 96 0) ∧ (M31 96 0) ≤ 16 := BN.at hB33 (rfl : zcd wC 96 = 44) rfl
      intro M37 e38
      have hB39 : BN wC M37 := by rw [e38]; exact BN.up hB33 (rfl : zcd wC 96 = 44) rfl (by omega) (by omega)
      have hF40 : ∀ j9 : Nat, ¬ (96 ≤ j9 ∧ j9 ≤ 132) → M37 j9 = M j9 := fun j9 h9 => by rw [e38]; exact (zup_row _ _ (by omega)).trans (hF34 j9 h9)
      have r41 : M37 96 0 = ((M31 96 0) + 1) := by rw [e38]; exact zup_s _ _ _ _
      have q42 : 0 ≤ (M37 96 0) ∧ (M37 96 0) ≤ 16 := BN.at hB39 (rfl : zcd wC 96 = 44) rfl
      have s43 : sI ((M37 96 0) - 1) = ((M37 96 0) - 1) := sIo (by omega) (by omega)
      exact hQ _ _ ⟨hB39, hF40, (by omega), trivial⟩
    · skip
      have s45 : sI ((M 96 0) - 1) = ((M 96 0) - 1) := sIo (by omega) (by omega)
      have o46 : 0 ≤ (sI ((M 96 0) - 1)) ∧ (sI ((M 96 0) - 1)) < 16 := by omega
      refine ⟨o46, ?_⟩
      have q47 : (-2147483648) ≤ (M 99 (sI ((M 96 0) - 1)).toNat) ∧ (M 99 (sI ((M 96 0) - 1)).toNat) ≤ 2147483647 := BN.at hB (rfl : zcd wC 99 = 47) rfl
      have s48 : sI a2 = a2 := sIo (by omega) (by omega)
      have s49 : sI (M 99 (sI ((M 96 0) - 1)).toNat) = (M 99 (sI ((M 96 0) - 1)).toNat) := sIo (by omega) (by omega)
      refine ⟨fun c50 => ?_, fun c50 => ?_⟩
      · skip
        have o52 : 0 ≤ (sI (M 96 0)) ∧ (sI (M 96 0)) < 16 := by omega
        refine ⟨o52, ?_⟩
        obtain ⟨lt53, cd54⟩ : (101 + 2 * (sI (M 96 0)).toNat) < nC ∧ zcd wC (101 + 2 * (sI (M 96 0)).toNat) = 6 := (by decide : ∀ k : Nat, k < 16 → (101 + 2 * k) < nC ∧ zcd wC (101 + 2 * k) = 6) (sI (M 96 0)).toNat (by omega)
        obtain ⟨lt55, cd56⟩ := nx_strip (101 + 2 * (sI (M 96 0)).toNat) lt53 cd54
        refine sC_Strip_copy hB lt53 cd54 lt_a0 cd_a0 (by omega) (fun  M57 h58 => ?_)
        obtain ⟨hB59, f60, -⟩ := h58
        have hF61 : ∀ j9 : Nat, ¬ (96 ≤ j9 ∧ j9 ≤ 132) → M57 j9 = M j9 := fun j9 h9 => ((f60 j9 (by omega)).trans (hF0 j9 h9))
        have r62 : M57 96 0 = M 96 0 := congrFun (f60 96 (by omega)) 0
        have q63 : 0 ≤ (M57 96 0) ∧ (M57 96 0) ≤ 16 := BN.at hB59 (rfl : zcd wC 96 = 44) rfl
        have s64 : sI (M57 96 0) = (M57 96 0) := sIo (by omega) (by omega)
        have o65 : 0 ≤ (sI (M57 96 0)) ∧ (sI (M57 96 0)) < 16 := by omega
        refine ⟨o65, ?_⟩
        intro M66 e67
        have hB68 : BN wC M66 := by rw [e67]; exact BN.up hB59 (rfl : zcd wC 98 = 46) rfl (by omega) (by omega)
        have hF69 : ∀ j9 : Nat, ¬ (96 ≤ j9 ∧ j9 ≤ 132) → M66 j9 = M j9 := fun j9 h9 => by rw [e67]; exact (zup_row _ _ (by omega)).trans (hF61 j9 h9)
        have r70 : M66 96 0 = M57 96 0 := by rw [e67]; exact zup_n _ _ (by omega)
        have q71 : 0 ≤ (M66 96 0) ∧ (M66 96 0) ≤ 16 := BN.at hB68 (rfl : zcd wC 96 = 44) rfl
        have s72 : sI (M66 96 0) = (M66 96 0) := sIo (by omega) (by omega)
        have o73 : 0 ≤ (sI (M66 96 0)) ∧ (sI (M66 96 0)) < 16 := by omega
        refine ⟨o73, ?_⟩
        intro M74 e75
        have hB76 : BN wC M74 := by rw [e75]; exact BN.up hB68 (rfl : zcd wC 99 = 47) rfl (by omega) (by omega)
        have hF77 : ∀ j9 : Nat, ¬ (96 ≤ j9 ∧ j9 ≤ 132) → M74 j9 = M j9 := fun j9 h9 => by rw [e75]; exact (zup_row _ _ (by omega)).trans (hF69 j9 h9)
        have r78 : M74 96 0 = M66 96 0 := by rw [e75]; exact zup_n _ _ (by omega)
        have q79 : 0 ≤ (M74 96 0) ∧ (M74 96 0) ≤ 16 := BN.at hB76 (rfl : zcd wC 96 = 44) rfl
        intro M80 e81
        have hB82 : BN wC M80 := by rw [e81]; exact BN.up hB76 (rfl : zcd wC 96 = 44) rfl (by omega) (by omega)
        have hF83 : ∀ j9 : Nat, ¬ (96 ≤ j9 ∧ j9 ≤ 132) → M80 j9 = M j9 := fun j9 h9 => by rw [e81]; exact (zup_row _ _ (by omega)).trans (hF77 j9 h9)
        have r84 : M80 96 0 = ((M74 96 0) + 1) := by rw [e81]; exact zup_s _ _ _ _
        have q85 : 0 ≤ (M80 96 0) ∧ (M80 96 0) ≤ 16 := BN.at hB82 (rfl : zcd wC 96 = 44) rfl
        have s86 : sI ((M80 96 0) - 1) = ((M80 96 0) - 1) := sIo (by omega) (by omega)
        exact hQ _ _ ⟨hB82, hF83, (by omega), trivial⟩
      · skip
        exact hQ _ _ ⟨hB, hF0, (by omega), trivial⟩
set_option maxHeartbeats 4000000 in
set_option maxRecDepth 100000 in
theorem sC_keep {M : zM} {a0 : Int} {a1 : Int} (hB : BN wC M) (v0 : (-2147483648) ≤ a0 ∧ a0 ≤ 2147483647) (v1 : (-2147483648) ≤ a1 ∧ a1 ≤ 2147483647) {Q : Int → zM → Prop} (hQ : ∀ (z : Int) (M1 : zM), BN wC M1 ∧ (∀ j9 : Nat, ¬ (96 ≤ j9 ∧ j9 ≤ 132) → M1 j9 = M j9) ∧ ((-2147483648) ≤ z ∧ z ≤ 2147483647) ∧ True → Q z M1) : wC_keep a0 a1 M Q := by
  unfold wC_keep
  have hF0 : ∀ j9 : Nat, ¬ (96 ≤ j9 ∧ j9 ≤ 132) → M j9 = M j9 := fun j9 _ => rfl
  refine sC_Studio_find hB (by omega) (fun h2 => ?_) (fun q1 h2 => ?_)
  · skip
    refine ⟨fun _ => ?_, fun q9 h9 => nomatch h9⟩
    exact hQ _ _ ⟨hB, hF0, (by omega), trivial⟩
  · skip
    refine ⟨(fun h9 => nomatch h9), fun q9 h9 => ?_⟩
    obtain rfl := Option.some.inj h9
    obtain ⟨⟨lt3, cd4⟩, h2⟩ := h2
    refine ⟨⟨lt3, cd4⟩, ?_⟩
    obtain ⟨lt5, cd6, lt7, cd8, lt9, cd10⟩ := nx_ring q1 lt3 cd4
    refine sC_within hB (by omega) (by omega) (by omega) (fun z11  h12 => ?_)
    obtain ⟨p13, p14, -⟩ := h12
    refine ⟨fun c15 => ?_, fun c15 => ?_⟩
    · skip
      refine sC_Versions_add hB lt5 cd6 (by omega) (by omega) (by omega) (fun z16 M17 h18 => ?_)
      obtain ⟨hB19, f20, p21, -⟩ := h18
      have hF22 : ∀ j9 : Nat, ¬ (96 ≤ j9 ∧ j9 ≤ 132) → M17 j9 = M j9 := fun j9 h9 => ((f20 j9 (by omega)).trans (hF0 j9 h9))
      exact hQ _ _ ⟨hB19, hF22, (by omega), trivial⟩
    · skip
      exact hQ _ _ ⟨hB, hF0, (by omega), trivial⟩
set_option maxHeartbeats 4000000 in
set_option maxRecDepth 100000 in
theorem sC_Versions_latest {M : zM} {a0 : Int} {a1 : Int} (hB : BN wC M) (v0 : (-2147483648) ≤ a0 ∧ a0 ≤ 2147483647) (v1 : (-2147483648) ≤ a1 ∧ a1 ≤ 2147483647) {Q : Int → Prop} (hQ : ∀ (z : Int), ((-2147483648) ≤ z ∧ z ≤ 2147483647) ∧ True → Q z) : wC_Versions_latest a0 a1 M Q := by
  unfold wC_Versions_latest
  have q1 : 0 ≤ (M 96 0) ∧ (M 96 0) ≤ 16 := BN.at hB (rfl : zcd wC 96 = 44) rfl
  refine pL1_of (fun x2 => ((-1) ≤ x2 ∧ x2 ≤ 15) ∧ True) (fun x2 => (x2 + 1).toNat) ⟨(by omega), trivial⟩ (fun K x2 h4 k5 => ?_)
  obtain ⟨i3, -⟩ := h4
  have s6 : sI x2 = x2 := sIo (by omega) (by omega)
  refine ⟨fun c7 => ?_, fun c7 => ?_⟩
  · skip
    exact hQ _ ⟨(by omega), trivial⟩
  · skip
    have o8 : 0 ≤ (sI x2) ∧ (sI x2) < 16 := by omega
    refine ⟨o8, ?_⟩
    have q9 : (-2147483648) ≤ (M 98 (sI x2).toNat) ∧ (M 98 (sI x2).toNat) ≤ 2147483647 := BN.at hB (rfl : zcd wC 98 = 46) rfl
    have s10 : sI (M 98 (sI x2).toNat) = (M 98 (sI x2).toNat) := sIo (by omega) (by omega)
    have s11 : sI a0 = a0 := sIo (by omega) (by omega)
    refine ⟨fun c12 => ?_, fun c12 => ?_⟩
    · skip
      exact k5 _ ⟨(by omega), trivial⟩ (by omega)
    · skip
      have o13 : 0 ≤ (sI x2) ∧ (sI x2) < 16 := by omega
      refine ⟨o13, ?_⟩
      have q14 : (-2147483648) ≤ (M 99 (sI x2).toNat) ∧ (M 99 (sI x2).toNat) ≤ 2147483647 := BN.at hB (rfl : zcd wC 99 = 47) rfl
      have s15 : sI (M 99 (sI x2).toNat) = (M 99 (sI x2).toNat) := sIo (by omega) (by omega)
      have s16 : sI a1 = a1 := sIo (by omega) (by omega)
      refine ⟨fun c17 => ?_, fun c17 => ?_⟩
      · skip
        exact k5 _ ⟨(by omega), trivial⟩ (by omega)
      · skip
        exact hQ _ ⟨(by omega), trivial⟩
set_option maxHeartbeats 4000000 in
set_option maxRecDepth 100000 in
theorem sC_known {M : zM} {a0 : Int} {a1 : Int} (hB : BN wC M) (v0 : (-2147483648) ≤ a0 ∧ a0 ≤ 2147483647) (v1 : (-2147483648) ≤ a1 ∧ a1 ≤ 2147483647) {Q : Int → Prop} (hQ : ∀ (z : Int), ((-2147483648) ≤ z ∧ z ≤ 2147483647) ∧ True → Q z) : wC_known a0 a1 M Q := by
  unfold wC_known
  refine sC_Versions_latest hB (by omega) (by omega) (fun z1  h2 => ?_)
  obtain ⟨p3, -⟩ := h2
  exact hQ _ ⟨(by omega), trivial⟩
theorem sC_Versions_find {M : zM} {a0 : Int} (hB : BN wC M) (v0 : -2147483648 ≤ a0 ∧ a0 ≤ 2147483647) {Q : Option Nat → Prop} (hn : (a0 < 0 ∨ M 96 0 ≤ a0) → Q none) (hs : ∀ q, ((q < nC ∧ zcd wC q = 6) ∧ (q = 101 + 2 * a0.toNat ∧ 0 ≤ a0 ∧ a0 < M 96 0 ∧ a0 < 16)) → Q (some q)) : wC_Versions_find a0 M Q := by
  unfold wC_Versions_find
  have b : 0 ≤ M 96 0 ∧ M 96 0 ≤ 16 := BN.at hB (rfl : zcd wC 96 = 44) rfl
  have s1 : sI a0 = a0 := sIo (by omega) (by omega)
  have s2 : sI (M 96 0) = M 96 0 := sIo (by omega) (by omega)
  rw [s1, s2]
  refine ⟨fun c => hn (by omega), fun c => ⟨fun c2 => hn (by omega), fun c2 => ⟨fun c3 => absurd c3 (by omega), fun c3 => ⟨by omega, ?_⟩⟩⟩⟩
  exact hs _ ⟨(by decide : ∀ k : Nat, k < 16 → 101 + 2 * k < nC ∧ zcd wC (101 + 2 * k) = 6) _ (by omega), rfl, c, c2, c3⟩
set_option maxHeartbeats 4000000 in
set_option maxRecDepth 100000 in
theorem sC_fetch {M : zM} {a0 : Int} (hB : BN wC M) (v0 : (-2147483648) ≤ a0 ∧ a0 ≤ 2147483647) {Q : Int → zM → Prop} (hQ : ∀ (z : Int) (M1 : zM), BN wC M1 ∧ (∀ j9 : Nat, ¬ (30 ≤ j9 ∧ j9 ≤ 31) → M1 j9 = M j9) ∧ ((-2147483648) ≤ z ∧ z ≤ 2147483647) ∧ True → Q z M1) : wC_fetch a0 M Q := by
  unfold wC_fetch
  have hF0 : ∀ j9 : Nat, ¬ (30 ≤ j9 ∧ j9 ≤ 31) → M j9 = M j9 := fun j9 _ => rfl
  refine sC_Versions_find hB (by omega) (fun h2 => ?_) (fun q1 h2 => ?_)
  · skip
    refine ⟨fun _ => ?_, fun q9 h9 => nomatch h9⟩
    exact hQ _ _ ⟨hB, hF0, (by omega), trivial⟩
  · skip
    refine ⟨(fun h9 => nomatch h9), fun q9 h9 => ?_⟩
    obtain rfl := Option.some.inj h9
    obtain ⟨⟨lt3, cd4⟩, h2⟩ := h2
    refine ⟨⟨lt3, cd4⟩, ?_⟩
    obtain ⟨lt5, cd6⟩ := nx_strip q1 lt3 cd4
    refine sC_Strip_copy hB (by decide) (rfl : zcd wC 30 = 6) lt3 cd4 (by omega) (fun  M7 h8 => ?_)
    obtain ⟨hB9, f10, -⟩ := h8
    have hF11 : ∀ j9 : Nat, ¬ (30 ≤ j9 ∧ j9 ≤ 31) → M7 j9 = M j9 := fun j9 h9 => ((f10 j9 (by omega)).trans (hF0 j9 h9))
    have q12 : 0 ≤ (M7 30 1) ∧ (M7 30 1) ≤ 24 := BN.at hB9 (rfl : zcd wC 30 = 6) rfl
    have s13 : sI (M7 30 1) = (M7 30 1) := sIo (by omega) (by omega)
    exact hQ _ _ ⟨hB9, hF11, (by omega), trivial⟩
set_option maxHeartbeats 4000000 in
set_option maxRecDepth 100000 in
theorem sC_Versions_editsTurned {M : zM} {a0 : Nat} {a1 : Nat} {a2 : Int} (hB : BN wC M) (lt_a0 : a0 < nC) (cd_a0 : zcd wC a0 = 6) (lt_a1 : a1 < nC) (cd_a1 : zcd wC a1 = 6) (v2 : 0 ≤ a2 ∧ a2 ≤ 1000000) {Q : Int → zM → Prop} (hQ : ∀ (z : Int) (M1 : zM), BN wC M1 ∧ (∀ j9 : Nat, ¬ (j9 = 100) → M1 j9 = M j9) ∧ ((-2147483648) ≤ z ∧ z ≤ 2147483647) ∧ True → Q z M1) : wC_Versions_editsTurned a0 a1 a2 M Q := by
  unfold wC_Versions_editsTurned
  have hF0 : ∀ j9 : Nat, ¬ (j9 = 100) → M j9 = M j9 := fun j9 _ => rfl
  obtain ⟨lt1, cd2⟩ := nx_strip a0 lt_a0 cd_a0
  obtain ⟨lt3, cd4⟩ := nx_strip a1 lt_a1 cd_a1
  refine wL1_of (fun x5 M6 => BN wC M6 ∧ (∀ j9 : Nat, ¬ (j9 = 100) → M6 j9 = M j9) ∧ (0 ≤ x5 ∧ x5 ≤ 1000000) ∧ True) (fun x5 M6 => (1000000 - x5).toNat) ⟨hB, hF0, (by omega), trivial⟩ (fun K x5 M6 h10 k11 => ?_)
  obtain ⟨hB7, hF8, i9, -⟩ := h10
  have q12 : 0 ≤ (M6 a1 1) ∧ (M6 a1 1) ≤ 24 := BN.at hB7 cd_a1 rfl
  have s13 : sI x5 = x5 := sIo (by omega) (by omega)
  have s14 : sI (M6 a1 1) = (M6 a1 1) := sIo (by omega) (by omega)
  refine ⟨fun c15 => ?_, fun c15 => ?_⟩
  · skip
    refine wL1_of (fun x16 M17 => BN wC M17 ∧ (∀ j9 : Nat, ¬ (j9 = 100) → M17 j9 = M j9) ∧ (0 ≤ x16 ∧ x16 ≤ 1000000) ∧ True) (fun x16 M17 => (1000000 - x16).toNat) ⟨hB7, hF8, (by omega), trivial⟩ (fun K x16 M17 h21 k22 => ?_)
    obtain ⟨hB18, hF19, i20, -⟩ := h21
    have q23 : 0 ≤ (M17 a0 1) ∧ (M17 a0 1) ≤ 24 := BN.at hB18 cd_a0 rfl
    have s24 : sI x16 = x16 := sIo (by omega) (by omega)
    have s25 : sI (M17 a0 1) = (M17 a0 1) := sIo (by omega) (by omega)
    refine ⟨fun c26 => ?_, fun c26 => ?_⟩
    · skip
      have q27 : 0 ≤ (M17 a1 1) ∧ (M17 a1 1) ≤ 24 := BN.at hB18 cd_a1 rfl
      have s28 : sI (M17 a1 1) = (M17 a1 1) := sIo (by omega) (by omega)
      have o29 : 0 ≤ (sI (M17 a1 1)) ∧ (sI (M17 a1 1)) < 25 := by omega
      refine ⟨o29, ?_⟩
      have q30 : (-2147483648) ≤ (M17 100 (sI (M17 a1 1)).toNat) ∧ (M17 100 (sI (M17 a1 1)).toNat) ≤ 2147483647 := BN.at hB18 (rfl : zcd wC 100 = 48) rfl
      have s31 : sI (M17 100 (sI (M17 a1 1)).toNat) = (M17 100 (sI (M17 a1 1)).toNat) := sIo (by omega) (by omega)
      exact hQ _ _ ⟨hB18, hF19, (by omega), trivial⟩
    · skip
      have q32 : (-2147483648) ≤ (M17 100 0) ∧ (M17 100 0) ≤ 2147483647 := BN.at hB18 (rfl : zcd wC 100 = 48) rfl
      intro M33 e34
      have hB35 : BN wC M33 := by rw [e34]; exact BN.up hB18 (rfl : zcd wC 100 = 48) rfl (by omega) (by omega)
      have hF36 : ∀ j9 : Nat, ¬ (j9 = 100) → M33 j9 = M j9 := fun j9 h9 => by rw [e34]; exact (zup_row _ _ (by omega)).trans (hF19 j9 h9)
      refine wL2_of (fun x37 x38 M39 => BN wC M39 ∧ (∀ j9 : Nat, ¬ (j9 = 100) → M39 j9 = M j9) ∧ (0 ≤ x38 ∧ x38 ≤ 1000000) ∧ True) (fun x37 x38 M39 => (1000000 - x38).toNat) ⟨hB35, hF36, (by omega), trivial⟩ (fun K x37 x38 M39 h43 k44 => ?_)
      obtain ⟨hB40, hF41, i42, -⟩ := h43
      have q45 : 0 ≤ (M39 a1 1) ∧ (M39 a1 1) ≤ 24 := BN.at hB40 cd_a1 rfl
      have s46 : sI x38 = x38 := sIo (by omega) (by omega)
      have s47 : sI (M39 a1 1) = (M39 a1 1) := sIo (by omega) (by omega)
      refine ⟨fun c48 => ?_, fun c48 => ?_⟩
      · skip
        exact k22 _ _ ⟨hB40, hF41, (by omega), trivial⟩ (by omega)
      · skip
        have s49 : sI x16 = x16 := sIo (by omega) (by omega)
        have o50 : 0 ≤ (sI x16) ∧ (sI x16) < 24 := by omega
        refine ⟨o50, ?_⟩
        have q51 : (-2147483648) ≤ (M39 (a0 + 1) (sI x16).toNat) ∧ (M39 (a0 + 1) (sI x16).toNat) ≤ 2147483647 := BN.at hB40 cd2 rfl
        have s52 : sI (a2 + x38) = (a2 + x38) := sIo (by omega) (by omega)
        refine sC_by hB40 (by omega) (fun z54  h55 => ?_)
        obtain ⟨p56, p57, p58, -⟩ := h55
        have o59 : 0 ≤ z54 ∧ z54 < 24 := by omega
        refine ⟨o59, ?_⟩
        have q60 : (-2147483648) ≤ (M39 (a1 + 1) z54.toNat) ∧ (M39 (a1 + 1) z54.toNat) ≤ 2147483647 := BN.at hB40 cd4 rfl
        have s61 : sI (M39 (a0 + 1) (sI x16).toNat) = (M39 (a0 + 1) (sI x16).toNat) := sIo (by omega) (by omega)
        have s62 : sI (M39 (a1 + 1) z54.toNat) = (M39 (a1 + 1) z54.toNat) := sIo (by omega) (by omega)
        refine pJ1_dup ?_
        refine ⟨fun c63 => ?_, fun c63 => ?_⟩
        · skip
          have s64 : sI 0 = 0 := sIo (by omega) (by omega)
          refine pJ1_dup ?_
          refine ⟨fun c65 => ?_, fun c65 => ?_⟩
          · skip
            have s66 : sI (x38 + 1) = (x38 + 1) := sIo (by omega) (by omega)
            have o67 : 0 ≤ (sI (x38 + 1)) ∧ (sI (x38 + 1)) < 25 := by omega
            refine ⟨o67, ?_⟩
            have q68 : (-2147483648) ≤ (M39 100 (sI (x38 + 1)).toNat) ∧ (M39 100 (sI (x38 + 1)).toNat) ≤ 2147483647 := BN.at hB40 (rfl : zcd wC 100 = 48) rfl
            have o69 : 0 ≤ (sI x38) ∧ (sI x38) < 25 := by omega
            refine ⟨o69, ?_⟩
            have q70 : (-2147483648) ≤ (M39 100 (sI x38).toNat) ∧ (M39 100 (sI x38).toNat) ≤ 2147483647 := BN.at hB40 (rfl : zcd wC 100 = 48) rfl
            have s71 : sI (M39 100 (sI x38).toNat) = (M39 100 (sI x38).toNat) := sIo (by omega) (by omega)
            have s72 : sI (M39 100 (sI (x38 + 1)).toNat) = (M39 100 (sI (x38 + 1)).toNat) := sIo (by omega) (by omega)
            have s73 := sI_R (1 + (min (sI (M39 100 (sI (x38 + 1)).toNat)) (sI (M39 100 (sI x38).toNat))))
            have s74 := sI_R (x37 + 1)
            have o75 : 0 ≤ (sI (x38 + 1)) ∧ (sI (x38 + 1)) < 25 := by omega
            refine ⟨o75, ?_⟩
            intro M76 e77
            have hB78 : BN wC M76 := by rw [e77]; exact BN.up hB40 (rfl : zcd wC 100 = 48) rfl (by omega) (by omega)
            have hF79 : ∀ j9 : Nat, ¬ (j9 = 100) → M76 j9 = M j9 := fun j9 h9 => by rw [e77]; exact (zup_row _ _ (by omega)).trans (hF41 j9 h9)
            exact k44 _ _ _ ⟨hB78, hF79, (by omega), trivial⟩ (by omega)
          · skip
            have s80 : sI (x38 + 1) = (x38 + 1) := sIo (by omega) (by omega)
            have o81 : 0 ≤ (sI (x38 + 1)) ∧ (sI (x38 + 1)) < 25 := by omega
            refine ⟨o81, ?_⟩
            have q82 : (-2147483648) ≤ (M39 100 (sI (x38 + 1)).toNat) ∧ (M39 100 (sI (x38 + 1)).toNat) ≤ 2147483647 := BN.at hB40 (rfl : zcd wC 100 = 48) rfl
            have o83 : 0 ≤ (sI x38) ∧ (sI x38) < 25 := by omega
            refine ⟨o83, ?_⟩
            have q84 : (-2147483648) ≤ (M39 100 (sI x38).toNat) ∧ (M39 100 (sI x38).toNat) ≤ 2147483647 := BN.at hB40 (rfl : zcd wC 100 = 48) rfl
            have s85 : sI (M39 100 (sI x38).toNat) = (M39 100 (sI x38).toNat) := sIo (by omega) (by omega)
            have s86 : sI (M39 100 (sI (x38 + 1)).toNat) = (M39 100 (sI (x38 + 1)).toNat) := sIo (by omega) (by omega)
            have s87 := sI_R (1 + (min (sI (M39 100 (sI (x38 + 1)).toNat)) (sI (M39 100 (sI x38).toNat))))
            have s88 := sI_R x37
            have o89 : 0 ≤ (sI (x38 + 1)) ∧ (sI (x38 + 1)) < 25 := by omega
            refine ⟨o89, ?_⟩
            intro M90 e91
            have hB92 : BN wC M90 := by rw [e91]; exact BN.up hB40 (rfl : zcd wC 100 = 48) rfl (by omega) (by omega)
            have hF93 : ∀ j9 : Nat, ¬ (j9 = 100) → M90 j9 = M j9 := fun j9 h9 => by rw [e91]; exact (zup_row _ _ (by omega)).trans (hF41 j9 h9)
            exact k44 _ _ _ ⟨hB92, hF93, (by omega), trivial⟩ (by omega)
        · skip
          have s94 : sI 1 = 1 := sIo (by omega) (by omega)
          refine pJ1_dup ?_
          refine ⟨fun c95 => ?_, fun c95 => ?_⟩
          · skip
            have s96 : sI (x38 + 1) = (x38 + 1) := sIo (by omega) (by omega)
            have o97 : 0 ≤ (sI (x38 + 1)) ∧ (sI (x38 + 1)) < 25 := by omega
            refine ⟨o97, ?_⟩
            have q98 : (-2147483648) ≤ (M39 100 (sI (x38 + 1)).toNat) ∧ (M39 100 (sI (x38 + 1)).toNat) ≤ 2147483647 := BN.at hB40 (rfl : zcd wC 100 = 48) rfl
            have o99 : 0 ≤ (sI x38) ∧ (sI x38) < 25 := by omega
            refine ⟨o99, ?_⟩
            have q100 : (-2147483648) ≤ (M39 100 (sI x38).toNat) ∧ (M39 100 (sI x38).toNat) ≤ 2147483647 := BN.at hB40 (rfl : zcd wC 100 = 48) rfl
            have s101 : sI (M39 100 (sI x38).toNat) = (M39 100 (sI x38).toNat) := sIo (by omega) (by omega)
            have s102 : sI (M39 100 (sI (x38 + 1)).toNat) = (M39 100 (sI (x38 + 1)).toNat) := sIo (by omega) (by omega)
            have s103 := sI_R (1 + (min (sI (M39 100 (sI (x38 + 1)).toNat)) (sI (M39 100 (sI x38).toNat))))
            have s104 := sI_R (x37 + 1)
            have o105 : 0 ≤ (sI (x38 + 1)) ∧ (sI (x38 + 1)) < 25 := by omega
            refine ⟨o105, ?_⟩
            intro M106 e107
            have hB108 : BN wC M106 := by rw [e107]; exact BN.up hB40 (rfl : zcd wC 100 = 48) rfl (by omega) (by omega)
            have hF109 : ∀ j9 : Nat, ¬ (j9 = 100) → M106 j9 = M j9 := fun j9 h9 => by rw [e107]; exact (zup_row _ _ (by omega)).trans (hF41 j9 h9)
            exact k44 _ _ _ ⟨hB108, hF109, (by omega), trivial⟩ (by omega)
          · skip
            have s110 : sI (x38 + 1) = (x38 + 1) := sIo (by omega) (by omega)
            have o111 : 0 ≤ (sI (x38 + 1)) ∧ (sI (x38 + 1)) < 25 := by omega
            refine ⟨o111, ?_⟩
            have q112 : (-2147483648) ≤ (M39 100 (sI (x38 + 1)).toNat) ∧ (M39 100 (sI (x38 + 1)).toNat) ≤ 2147483647 := BN.at hB40 (rfl : zcd wC 100 = 48) rfl
            have o113 : 0 ≤ (sI x38) ∧ (sI x38) < 25 := by omega
            refine ⟨o113, ?_⟩
            have q114 : (-2147483648) ≤ (M39 100 (sI x38).toNat) ∧ (M39 100 (sI x38).toNat) ≤ 2147483647 := BN.at hB40 (rfl : zcd wC 100 = 48) rfl
            have s115 : sI (M39 100 (sI x38).toNat) = (M39 100 (sI x38).toNat) := sIo (by omega) (by omega)
            have s116 : sI (M39 100 (sI (x38 + 1)).toNat) = (M39 100 (sI (x38 + 1)).toNat) := sIo (by omega) (by omega)
            have s117 := sI_R (1 + (min (sI (M39 100 (sI (x38 + 1)).toNat)) (sI (M39 100 (sI x38).toNat))))
            have s118 := sI_R x37
            have o119 : 0 ≤ (sI (x38 + 1)) ∧ (sI (x38 + 1)) < 25 := by omega
            refine ⟨o119, ?_⟩
            intro M120 e121
            have hB122 : BN wC M120 := by rw [e121]; exact BN.up hB40 (rfl : zcd wC 100 = 48) rfl (by omega) (by omega)
            have hF123 : ∀ j9 : Nat, ¬ (j9 = 100) → M120 j9 = M j9 := fun j9 h9 => by rw [e121]; exact (zup_row _ _ (by omega)).trans (hF41 j9 h9)
            exact k44 _ _ _ ⟨hB122, hF123, (by omega), trivial⟩ (by omega)
  · skip
    have o124 : 0 ≤ (sI x5) ∧ (sI x5) < 25 := by omega
    refine ⟨o124, ?_⟩
    intro M125 e126
    have hB127 : BN wC M125 := by rw [e126]; exact BN.up hB7 (rfl : zcd wC 100 = 48) rfl (by omega) (by omega)
    have hF128 : ∀ j9 : Nat, ¬ (j9 = 100) → M125 j9 = M j9 := fun j9 h9 => by rw [e126]; exact (zup_row _ _ (by omega)).trans (hF8 j9 h9)
    exact k11 _ _ ⟨hB127, hF128, (by omega), trivial⟩ (by omega)
set_option maxHeartbeats 4000000 in
set_option maxRecDepth 100000 in
theorem sC_Versions_fewestEdits {M : zM} {a0 : Nat} {a1 : Nat} (hB : BN wC M) (lt_a0 : a0 < nC) (cd_a0 : zcd wC a0 = 6) (lt_a1 : a1 < nC) (cd_a1 : zcd wC a1 = 6) {Q : Int → zM → Prop} (hQ : ∀ (z : Int) (M1 : zM), BN wC M1 ∧ (∀ j9 : Nat, ¬ (j9 = 100) → M1 j9 = M j9) ∧ ((-2147483648) ≤ z ∧ z ≤ 2147483647) ∧ True → Q z M1) : wC_Versions_fewestEdits a0 a1 M Q := by
  unfold wC_Versions_fewestEdits
  have hF0 : ∀ j9 : Nat, ¬ (j9 = 100) → M j9 = M j9 := fun j9 _ => rfl
  obtain ⟨lt1, cd2⟩ := nx_strip a0 lt_a0 cd_a0
  obtain ⟨lt3, cd4⟩ := nx_strip a1 lt_a1 cd_a1
  have q5 : 0 ≤ (M a0 1) ∧ (M a0 1) ≤ 24 := BN.at hB cd_a0 rfl
  have q6 : 0 ≤ (M a1 1) ∧ (M a1 1) ≤ 24 := BN.at hB cd_a1 rfl
  have s7 : sI (M a1 1) = (M a1 1) := sIo (by omega) (by omega)
  have s8 : sI (M a0 1) = (M a0 1) := sIo (by omega) (by omega)
  refine wL2_of (fun x9 x10 M11 => BN wC M11 ∧ (∀ j9 : Nat, ¬ (j9 = 100) → M11 j9 = M j9) ∧ (0 ≤ x10 ∧ x10 ≤ 1000000) ∧ True) (fun x9 x10 M11 => (1000000 - x10).toNat) ⟨hB, hF0, (by omega), trivial⟩ (fun K x9 x10 M11 h15 k16 => ?_)
  obtain ⟨hB12, hF13, i14, -⟩ := h15
  have q17 : 0 ≤ (M11 a1 1) ∧ (M11 a1 1) ≤ 24 := BN.at hB12 cd_a1 rfl
  have s18 : sI x10 = x10 := sIo (by omega) (by omega)
  have s19 : sI (M11 a1 1) = (M11 a1 1) := sIo (by omega) (by omega)
  refine ⟨fun c20 => ?_, fun c20 => ?_⟩
  · skip
    have s21 := sI_R x9
    exact hQ _ _ ⟨hB12, hF13, (by omega), trivial⟩
  · skip
    refine sC_Versions_editsTurned hB12 lt_a0 cd_a0 lt_a1 cd_a1 (by omega) (fun z22 M23 h24 => ?_)
    obtain ⟨hB25, f26, p27, -⟩ := h24
    have hF28 : ∀ j9 : Nat, ¬ (j9 = 100) → M23 j9 = M j9 := fun j9 h9 => ((f26 j9 (by omega)).trans (hF13 j9 h9))
    have s29 := sI_R x9
    exact k16 _ _ _ ⟨hB25, hF28, (by omega), trivial⟩ (by omega)
