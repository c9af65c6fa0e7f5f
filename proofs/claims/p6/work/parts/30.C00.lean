/-! safety of the class, 0 -/
set_option maxHeartbeats 4000000 in
set_option maxRecDepth 100000 in
theorem sC_Splicer_add {M : zM} {a0 : Int} (hB : BN wC M) (v0 : (-2147483648) ≤ a0 ∧ a0 ≤ 2147483647) {Q : Int → zM → Prop} (hQ : ∀ (z : Int) (M1 : zM), BN wC M1 ∧ (∀ j9 : Nat, ¬ (1 ≤ j9 ∧ j9 ≤ 29) → M1 j9 = M j9) ∧ ((-2147483648) ≤ z ∧ z ≤ 2147483647) ∧ ((M 1 1 ≤ 96 ∧ z = M 1 1 + 4 ∧ M1 1 1 = M 1 1 + 4) ∨ (96 < M 1 1 ∧ z = -1 ∧ M1 1 1 = M 1 1)) ∧ True → Q z M1) : wC_Splicer_add a0 M Q := by
  unfold wC_Splicer_add
  have hF0 : ∀ j9 : Nat, ¬ (1 ≤ j9 ∧ j9 ≤ 29) → M j9 = M j9 := fun j9 _ => rfl
  have q1 : 0 ≤ (M 1 1) ∧ (M 1 1) ≤ 100 := BN.at hB (rfl : zcd wC 1 = 1) rfl
  have s2 : sI ((M 1 1) + 4) = ((M 1 1) + 4) := sIo (by omega) (by omega)
  refine ⟨fun c3 => ?_, fun c3 => ?_⟩
  · skip
    refine wL1_of (fun x4 M5 => BN wC M5 ∧ (∀ j9 : Nat, ¬ (1 ≤ j9 ∧ j9 ≤ 29) → M5 j9 = M j9) ∧ ((-8) ≤ x4 ∧ x4 ≤ 24) ∧ (8 * M5 1 1 = 8 * M 1 1 + 24 - x4) ∧ True) (fun x4 M5 => (x4 + 1).toNat) ⟨hB, hF0, (by omega), (by omega), trivial⟩ (fun K x4 M5 h10 k11 => ?_)
    obtain ⟨hB6, hF7, i8, i9, -⟩ := h10
    have s12 : sI x4 = x4 := sIo (by omega) (by omega)
    refine ⟨fun c13 => ?_, fun c13 => ?_⟩
    · skip
      have q14 : 0 ≤ (M5 1 1) ∧ (M5 1 1) ≤ 100 := BN.at hB6 (rfl : zcd wC 1 = 1) rfl
      have s15 : sI (M5 1 1) = (M5 1 1) := sIo (by omega) (by omega)
      exact hQ _ _ ⟨hB6, hF7, (by omega), (by omega), trivial⟩
    · skip
      have q16 : 0 ≤ (M5 1 1) ∧ (M5 1 1) ≤ 100 := BN.at hB6 (rfl : zcd wC 1 = 1) rfl
      have q17 := ushrI_R a0 x4
      have q18 := andI_br (ushrI a0 x4) (c := 255) (by decide) (by decide)
      have s19 : sI (M5 1 1) = (M5 1 1) := sIo (by omega) (by omega)
      have o20 : 0 ≤ (sI (M5 1 1)) ∧ (sI (M5 1 1)) < 100 := by omega
      refine ⟨o20, ?_⟩
      intro M21 e22
      have hB23 : BN wC M21 := by rw [e22]; exact BN.up hB6 (rfl : zcd wC 2 = 2) rfl (by omega) (by omega)
      have hF24 : ∀ j9 : Nat, ¬ (1 ≤ j9 ∧ j9 ≤ 29) → M21 j9 = M j9 := fun j9 h9 => by rw [e22]; exact (zup_row _ _ (by omega)).trans (hF7 j9 h9)
      have r25 : M21 1 1 = M5 1 1 := by rw [e22]; exact zup_n _ _ (by omega)
      have q26 : 0 ≤ (M21 1 1) ∧ (M21 1 1) ≤ 100 := BN.at hB23 (rfl : zcd wC 1 = 1) rfl
      intro M27 e28
      have hB29 : BN wC M27 := by rw [e28]; exact BN.up hB23 (rfl : zcd wC 1 = 1) rfl (by omega) (by omega)
      have hF30 : ∀ j9 : Nat, ¬ (1 ≤ j9 ∧ j9 ≤ 29) → M27 j9 = M j9 := fun j9 h9 => by rw [e28]; exact (zup_row _ _ (by omega)).trans (hF24 j9 h9)
      have r31 : M27 1 1 = ((M21 1 1) + 1) := by rw [e28]; exact zup_s _ _ _ _
      exact k11 _ _ ⟨hB29, hF30, (by omega), (by omega), trivial⟩ (by omega)
  · skip
    exact hQ _ _ ⟨hB, hF0, (by omega), (by omega), trivial⟩
set_option maxHeartbeats 4000000 in
set_option maxRecDepth 100000 in
theorem sC_sign {M : zM} {a0 : Int} (hB : BN wC M) (v0 : (-2147483648) ≤ a0 ∧ a0 ≤ 2147483647) {Q : Int → zM → Prop} (hQ : ∀ (z : Int) (M1 : zM), BN wC M1 ∧ (∀ j9 : Nat, ¬ (1 ≤ j9 ∧ j9 ≤ 29) → M1 j9 = M j9) ∧ ((-2147483648) ≤ z ∧ z ≤ 2147483647) ∧ ((M 1 1 ≤ 96 ∧ z = M 1 1 + 4 ∧ M1 1 1 = M 1 1 + 4) ∨ (96 < M 1 1 ∧ z = -1 ∧ M1 1 1 = M 1 1)) ∧ True → Q z M1) : wC_sign a0 M Q := by
  unfold wC_sign
  have hF0 : ∀ j9 : Nat, ¬ (1 ≤ j9 ∧ j9 ≤ 29) → M j9 = M j9 := fun j9 _ => rfl
  refine sC_Splicer_add hB (by omega) (fun z1 M2 h3 => ?_)
  obtain ⟨hB4, f5, p6, p7, -⟩ := h3
  have hF8 : ∀ j9 : Nat, ¬ (1 ≤ j9 ∧ j9 ≤ 29) → M2 j9 = M j9 := fun j9 h9 => ((f5 j9 (by omega)).trans (hF0 j9 h9))
  exact hQ _ _ ⟨hB4, hF8, (by omega), (by omega), trivial⟩
set_option maxHeartbeats 4000000 in
set_option maxRecDepth 100000 in
theorem sC_Splicer_keepFirst {M : zM} {a0 : Int} (hB : BN wC M) (v0 : (-2147483648) ≤ a0 ∧ a0 ≤ 2147483647) {Q : Int → zM → Prop} (hQ : ∀ (z : Int) (M1 : zM), BN wC M1 ∧ (∀ j9 : Nat, ¬ (1 ≤ j9 ∧ j9 ≤ 29) → M1 j9 = M j9) ∧ (0 ≤ z ∧ z ≤ 1) ∧ ((0 ≤ a0 ∧ a0 ≤ M 1 1 ∧ z = 1 ∧ M1 1 1 = a0) ∨ ((a0 < 0 ∨ M 1 1 < a0) ∧ z = 0 ∧ M1 1 1 = M 1 1)) ∧ True → Q z M1) : wC_Splicer_keepFirst a0 M Q := by
  unfold wC_Splicer_keepFirst
  have hF0 : ∀ j9 : Nat, ¬ (1 ≤ j9 ∧ j9 ≤ 29) → M j9 = M j9 := fun j9 _ => rfl
  have s1 : sI a0 = a0 := sIo (by omega) (by omega)
  refine ⟨fun c2 => ?_, fun c2 => ?_⟩
  · skip
    exact hQ _ _ ⟨hB, hF0, (by omega), (by omega), trivial⟩
  · skip
    have q3 : 0 ≤ (M 1 1) ∧ (M 1 1) ≤ 100 := BN.at hB (rfl : zcd wC 1 = 1) rfl
    have s4 : sI (M 1 1) = (M 1 1) := sIo (by omega) (by omega)
    refine ⟨fun c5 => ?_, fun c5 => ?_⟩
    · skip
      intro M6 e7
      have hB8 : BN wC M6 := by rw [e7]; exact BN.up hB (rfl : zcd wC 1 = 1) rfl (by omega) (by omega)
      have hF9 : ∀ j9 : Nat, ¬ (1 ≤ j9 ∧ j9 ≤ 29) → M6 j9 = M j9 := fun j9 h9 => by rw [e7]; exact (zup_row _ _ (by omega)).trans (hF0 j9 h9)
      have r10 : M6 1 1 = a0 := by rw [e7]; exact zup_s _ _ _ _
      exact hQ _ _ ⟨hB8, hF9, (by omega), (by omega), trivial⟩
    · skip
      exact hQ _ _ ⟨hB, hF0, (by omega), (by omega), trivial⟩
set_option maxHeartbeats 4000000 in
set_option maxRecDepth 100000 in
theorem sC_end {M : zM} {a0 : Int} (hB : BN wC M) (v0 : (-2147483648) ≤ a0 ∧ a0 ≤ 2147483647) {Q : Int → zM → Prop} (hQ : ∀ (z : Int) (M1 : zM), BN wC M1 ∧ (∀ j9 : Nat, ¬ (1 ≤ j9 ∧ j9 ≤ 29) → M1 j9 = M j9) ∧ (0 ≤ z ∧ z ≤ 1) ∧ ((0 ≤ a0 ∧ a0 ≤ M 1 1 ∧ z = 1 ∧ M1 1 1 = a0) ∨ ((a0 < 0 ∨ M 1 1 < a0) ∧ z = 0 ∧ M1 1 1 = M 1 1)) ∧ True → Q z M1) : wC_end a0 M Q := by
  unfold wC_end
  have hF0 : ∀ j9 : Nat, ¬ (1 ≤ j9 ∧ j9 ≤ 29) → M j9 = M j9 := fun j9 _ => rfl
  refine sC_Splicer_keepFirst hB (by omega) (fun z1 M2 h3 => ?_)
  obtain ⟨hB4, f5, p6, p7, -⟩ := h3
  have hF8 : ∀ j9 : Nat, ¬ (1 ≤ j9 ∧ j9 ≤ 29) → M2 j9 = M j9 := fun j9 h9 => ((f5 j9 (by omega)).trans (hF0 j9 h9))
  exact hQ _ _ ⟨hB4, hF8, (by omega), (by omega), trivial⟩
set_option maxHeartbeats 4000000 in
set_option maxRecDepth 100000 in
theorem sC_Splicer_isDigit {M : zM} {a0 : Int} {a1 : Int} (hB : BN wC M) (v0 : (-2147483648) ≤ a0 ∧ a0 ≤ 2147483647) (v1 : (-2147483648) ≤ a1 ∧ a1 ≤ 2147483647) {Q : Int → Prop} (hQ : ∀ (z : Int), (0 ≤ z ∧ z ≤ 1) ∧ ((z = 1 ∧ a1 ≤ a0 ∧ a0 ≤ 57) ∨ (z = 0 ∧ ¬ (a1 ≤ a0 ∧ a0 ≤ 57))) ∧ True → Q z) : wC_Splicer_isDigit a0 a1 M Q := by
  unfold wC_Splicer_isDigit
  have s1 : sI a0 = a0 := sIo (by omega) (by omega)
  have s2 : sI a1 = a1 := sIo (by omega) (by omega)
  refine ⟨fun c3 => ?_, fun c3 => ?_⟩
  · skip
    exact hQ _ ⟨(by omega), (by omega), trivial⟩
  · skip
    refine ⟨fun c4 => ?_, fun c4 => ?_⟩
    · skip
      exact hQ _ ⟨(by omega), (by omega), trivial⟩
    · skip
      exact hQ _ ⟨(by omega), (by omega), trivial⟩
set_option maxHeartbeats 4000000 in
set_option maxRecDepth 100000 in
theorem sC_Splicer_behindAtomStart {M : zM} {a0 : Int} (hB : BN wC M) (v0 : (-2147483648) ≤ a0 ∧ a0 ≤ 2147483647) (p0 : 0 ≤ M 1 2) {Q : Int → zM → Prop} (hQ : ∀ (z : Int) (M1 : zM), BN wC M1 ∧ (∀ j9 : Nat, ¬ (j9 = 1) → M1 j9 = M j9) ∧ ((-1) ≤ z ∧ z ≤ 5) ∧ (0 ≤ M1 1 2) ∧ True → Q z M1) : wC_Splicer_behindAtomStart a0 M Q := by
  unfold wC_Splicer_behindAtomStart
  have hF0 : ∀ j9 : Nat, ¬ (j9 = 1) → M j9 = M j9 := fun j9 _ => rfl
  refine sC_Splicer_isDigit hB (by omega) (by omega) (fun z1  h2 => ?_)
  obtain ⟨p3, p4, -⟩ := h2
  refine ⟨fun c5 => ?_, fun c5 => ?_⟩
  · skip
    have s6 : sI a0 = a0 := sIo (by omega) (by omega)
    refine ⟨fun c7 => ?_, fun c7 => ?_⟩
    · skip
      refine ⟨fun c8 => ?_, fun c8 => ?_⟩
      · skip
        exact hQ _ _ ⟨hB, hF0, (by omega), (by omega), trivial⟩
      · skip
        have q9 : (-1) ≤ (M 1 2) ∧ (M 1 2) ≤ 5 := BN.at hB (rfl : zcd wC 1 = 1) rfl
        have s10 : sI (M 1 2) = (M 1 2) := sIo (by omega) (by omega)
        refine ⟨fun c11 => ?_, fun c11 => ?_⟩
        · skip
          exact hQ _ _ ⟨hB, hF0, (by omega), (by omega), trivial⟩
        · skip
          intro M13 e14
          have hB15 : BN wC M13 := by rw [e14]; exact BN.up hB (rfl : zcd wC 1 = 1) rfl (by omega) (by omega)
          have hF16 : ∀ j9 : Nat, ¬ (j9 = 1) → M13 j9 = M j9 := fun j9 h9 => by rw [e14]; exact (zup_row _ _ (by omega)).trans (hF0 j9 h9)
          have r17 : M13 1 2 = ((M 1 2) + 1) := by rw [e14]; exact zup_s _ _ _ _
          exact hQ _ _ ⟨hB15, hF16, (by omega), (by omega), trivial⟩
    · skip
      exact hQ _ _ ⟨hB, hF0, (by omega), (by omega), trivial⟩
  · skip
    exact hQ _ _ ⟨hB, hF0, (by omega), (by omega), trivial⟩
set_option maxHeartbeats 4000000 in
set_option maxRecDepth 100000 in
theorem sC_Splicer_behindTermSign {M : zM} {a0 : Int} (hB : BN wC M) (v0 : (-2147483648) ≤ a0 ∧ a0 ≤ 2147483647) (p0 : 0 ≤ M 1 2) {Q : Int → zM → Prop} (hQ : ∀ (z : Int) (M1 : zM), BN wC M1 ∧ (∀ j9 : Nat, ¬ (j9 = 1) → M1 j9 = M j9) ∧ ((-1) ≤ z ∧ z ≤ 5) ∧ (z = -1 ∨ 0 ≤ M1 1 2) ∧ True → Q z M1) : wC_Splicer_behindTermSign a0 M Q := by
  unfold wC_Splicer_behindTermSign
  have hF0 : ∀ j9 : Nat, ¬ (j9 = 1) → M j9 = M j9 := fun j9 _ => rfl
  have s1 : sI a0 = a0 := sIo (by omega) (by omega)
  refine ⟨fun c2 => ?_, fun c2 => ?_⟩
  · skip
    have q3 : (-1) ≤ (M 1 2) ∧ (M 1 2) ≤ 5 := BN.at hB (rfl : zcd wC 1 = 1) rfl
    intro M4 e5
    have hB6 : BN wC M4 := by rw [e5]; exact BN.up hB (rfl : zcd wC 1 = 1) rfl (by omega) (by omega)
    have hF7 : ∀ j9 : Nat, ¬ (j9 = 1) → M4 j9 = M j9 := fun j9 h9 => by rw [e5]; exact (zup_row _ _ (by omega)).trans (hF0 j9 h9)
    have r8 : M4 1 2 = ((M 1 2) - 1) := by rw [e5]; exact zup_s _ _ _ _
    have q9 : (-1) ≤ (M4 1 2) ∧ (M4 1 2) ≤ 5 := BN.at hB6 (rfl : zcd wC 1 = 1) rfl
    have s10 : sI (M4 1 2) = (M4 1 2) := sIo (by omega) (by omega)
    refine ⟨fun c11 => ?_, fun c11 => ?_⟩
    · skip
      exact hQ _ _ ⟨hB6, hF7, (by omega), (by omega), trivial⟩
    · skip
      exact hQ _ _ ⟨hB6, hF7, (by omega), (by omega), trivial⟩
  refine ⟨fun c12 => ?_, fun c12 => ?_⟩
  · skip
    exact hQ _ _ ⟨hB, hF0, (by omega), (by omega), trivial⟩
  refine ⟨fun c13 => ?_, fun c13 => ?_⟩
  · skip
    exact hQ _ _ ⟨hB, hF0, (by omega), (by omega), trivial⟩
  refine ⟨fun c14 => ?_, fun c14 => ?_⟩
  · skip
    exact hQ _ _ ⟨hB, hF0, (by omega), (by omega), trivial⟩
  refine sC_Splicer_behindAtomStart hB (by omega) (by omega) (fun z15 M16 h17 => ?_)
  obtain ⟨hB18, f19, p20, p21, -⟩ := h17
  have hF22 : ∀ j9 : Nat, ¬ (j9 = 1) → M16 j9 = M j9 := fun j9 h9 => ((f19 j9 (by omega)).trans (hF0 j9 h9))
  exact hQ _ _ ⟨hB18, hF22, (by omega), (by omega), trivial⟩
set_option maxHeartbeats 4000000 in
set_option maxRecDepth 100000 in
theorem sC_Splicer_behind {M : zM} {a0 : Int} {a1 : Int} (hB : BN wC M) (v0 : (-2147483648) ≤ a0 ∧ a0 ≤ 2147483647) (v1 : (-2147483648) ≤ a1 ∧ a1 ≤ 2147483647) (p0 : 0 ≤ M 1 2) {Q : Int → zM → Prop} (hQ : ∀ (z : Int) (M1 : zM), BN wC M1 ∧ (∀ j9 : Nat, ¬ (j9 = 1) → M1 j9 = M j9) ∧ ((-1) ≤ z ∧ z ≤ 5) ∧ (z = -1 ∨ 0 ≤ M1 1 2) ∧ True → Q z M1) : wC_Splicer_behind a0 a1 M Q := by
  unfold wC_Splicer_behind
  have hF0 : ∀ j9 : Nat, ¬ (j9 = 1) → M j9 = M j9 := fun j9 _ => rfl
  have s1 : sI a0 = a0 := sIo (by omega) (by omega)
  refine ⟨fun c2 => ?_, fun c2 => ?_⟩
  · skip
    refine sC_Splicer_behindAtomStart hB (by omega) (by omega) (fun z3 M4 h5 => ?_)
    obtain ⟨hB6, f7, p8, p9, -⟩ := h5
    have hF10 : ∀ j9 : Nat, ¬ (j9 = 1) → M4 j9 = M j9 := fun j9 h9 => ((f7 j9 (by omega)).trans (hF0 j9 h9))
    exact hQ _ _ ⟨hB6, hF10, (by omega), (by omega), trivial⟩
  refine ⟨fun c11 => ?_, fun c11 => ?_⟩
  · skip
    refine sC_Splicer_behindTermSign hB (by omega) (by omega) (fun z12 M13 h14 => ?_)
    obtain ⟨hB15, f16, p17, p18, -⟩ := h14
    have hF19 : ∀ j9 : Nat, ¬ (j9 = 1) → M13 j9 = M j9 := fun j9 h9 => ((f16 j9 (by omega)).trans (hF0 j9 h9))
    exact hQ _ _ ⟨hB15, hF19, (by omega), (by omega), trivial⟩
  refine ⟨fun c20 => ?_, fun c20 => ?_⟩
  · skip
    refine sC_Splicer_isDigit hB (by omega) (by omega) (fun z21  h22 => ?_)
    obtain ⟨p23, p24, -⟩ := h22
    refine ⟨fun c25 => ?_, fun c25 => ?_⟩
    · skip
      exact hQ _ _ ⟨hB, hF0, (by omega), (by omega), trivial⟩
    · skip
      exact hQ _ _ ⟨hB, hF0, (by omega), (by omega), trivial⟩
  refine ⟨fun c26 => ?_, fun c26 => ?_⟩
  · skip
    refine sC_Splicer_isDigit hB (by omega) (by omega) (fun z27  h28 => ?_)
    obtain ⟨p29, p30, -⟩ := h28
    refine ⟨fun c31 => ?_, fun c31 => ?_⟩
    · skip
      exact hQ _ _ ⟨hB, hF0, (by omega), (by omega), trivial⟩
    · skip
      exact hQ _ _ ⟨hB, hF0, (by omega), (by omega), trivial⟩
  refine ⟨fun c32 => ?_, fun c32 => ?_⟩
  · skip
    refine sC_Splicer_isDigit hB (by omega) (by omega) (fun z33  h34 => ?_)
    obtain ⟨p35, p36, -⟩ := h34
    refine ⟨fun c37 => ?_, fun c37 => ?_⟩
    · skip
      exact hQ _ _ ⟨hB, hF0, (by omega), (by omega), trivial⟩
    · skip
      exact hQ _ _ ⟨hB, hF0, (by omega), (by omega), trivial⟩
  refine ⟨fun c38 => ?_, fun c38 => ?_⟩
  · skip
    have s39 : sI a1 = a1 := sIo (by omega) (by omega)
    refine ⟨fun c40 => ?_, fun c40 => ?_⟩
    · skip
      refine sC_Splicer_isDigit hB (by omega) (by omega) (fun z41  h42 => ?_)
      obtain ⟨p43, p44, -⟩ := h42
      refine ⟨fun c45 => ?_, fun c45 => ?_⟩
      · skip
        exact hQ _ _ ⟨hB, hF0, (by omega), (by omega), trivial⟩
      · skip
        exact hQ _ _ ⟨hB, hF0, (by omega), (by omega), trivial⟩
    · skip
      exact hQ _ _ ⟨hB, hF0, (by omega), (by omega), trivial⟩
  refine sC_Splicer_isDigit hB (by omega) (by omega) (fun z46  h47 => ?_)
  obtain ⟨p48, p49, -⟩ := h47
  refine ⟨fun c50 => ?_, fun c50 => ?_⟩
  · skip
    exact hQ _ _ ⟨hB, hF0, (by omega), (by omega), trivial⟩
  · skip
    exact hQ _ _ ⟨hB, hF0, (by omega), (by omega), trivial⟩
set_option maxHeartbeats 4000000 in
set_option maxRecDepth 100000 in
theorem sC_Splicer_firstWrong {M : zM}  (hB : BN wC M)  {Q : Int → zM → Prop} (hQ : ∀ (z : Int) (M1 : zM), BN wC M1 ∧ (∀ j9 : Nat, ¬ (j9 = 1) → M1 j9 = M j9) ∧ ((-1) ≤ z ∧ z ≤ 100) ∧ True → Q z M1) : wC_Splicer_firstWrong  M Q := by
  unfold wC_Splicer_firstWrong
  have hF0 : ∀ j9 : Nat, ¬ (j9 = 1) → M j9 = M j9 := fun j9 _ => rfl
  intro M1 e2
  have hB3 : BN wC M1 := by rw [e2]; exact BN.up hB (rfl : zcd wC 1 = 1) rfl (by omega) (by omega)
  have hF4 : ∀ j9 : Nat, ¬ (j9 = 1) → M1 j9 = M j9 := fun j9 h9 => by rw [e2]; exact (zup_row _ _ (by omega)).trans (hF0 j9 h9)
  have r5 : M1 1 2 = 0 := by rw [e2]; exact zup_s _ _ _ _
  refine wL2_of (fun x6 x7 M8 => BN wC M8 ∧ (∀ j9 : Nat, ¬ (j9 = 1) → M8 j9 = M j9) ∧ ((-1) ≤ x6 ∧ x6 ≤ 5) ∧ (0 ≤ x7 ∧ x7 ≤ 1000000) ∧ (0 ≤ M8 1 2) ∧ True) (fun x6 x7 M8 => (1000000 - x7).toNat) ⟨hB3, hF4, (by omega), (by omega), (by omega), trivial⟩ (fun K x6 x7 M8 h14 k15 => ?_)
  obtain ⟨hB9, hF10, i11, i12, i13, -⟩ := h14
  have q16 : 0 ≤ (M8 1 1) ∧ (M8 1 1) ≤ 100 := BN.at hB9 (rfl : zcd wC 1 = 1) rfl
  have s17 : sI x7 = x7 := sIo (by omega) (by omega)
  have s18 : sI (M8 1 1) = (M8 1 1) := sIo (by omega) (by omega)
  refine pJ0_dup ?_
  refine ⟨fun c19 => ?_, fun c19 => ?_⟩
  · skip
    refine ⟨fun c21 => ?_, fun c21 => ?_⟩
    · skip
      have s22 : sI x6 = x6 := sIo (by omega) (by omega)
      refine ⟨fun c23 => ?_, fun c23 => ?_⟩
      · skip
        exact hQ _ _ ⟨hB9, hF10, (by omega), trivial⟩
      · skip
        have q25 : (-1) ≤ (M8 1 2) ∧ (M8 1 2) ≤ 5 := BN.at hB9 (rfl : zcd wC 1 = 1) rfl
        have s26 : sI (M8 1 2) = (M8 1 2) := sIo (by omega) (by omega)
        refine ⟨fun c27 => ?_, fun c27 => ?_⟩
        · skip
          exact hQ _ _ ⟨hB9, hF10, (by omega), trivial⟩
        · skip
          exact hQ _ _ ⟨hB9, hF10, (by omega), trivial⟩
    · skip
      exact hQ _ _ ⟨hB9, hF10, (by omega), trivial⟩
  · skip
    refine ⟨fun c29 => ?_, fun c29 => ?_⟩
    · skip
      refine ⟨fun c31 => ?_, fun c31 => ?_⟩
      · skip
        have s32 : sI x6 = x6 := sIo (by omega) (by omega)
        refine ⟨fun c33 => ?_, fun c33 => ?_⟩
        · skip
          exact hQ _ _ ⟨hB9, hF10, (by omega), trivial⟩
        · skip
          have q35 : (-1) ≤ (M8 1 2) ∧ (M8 1 2) ≤ 5 := BN.at hB9 (rfl : zcd wC 1 = 1) rfl
          have s36 : sI (M8 1 2) = (M8 1 2) := sIo (by omega) (by omega)
          refine ⟨fun c37 => ?_, fun c37 => ?_⟩
          · skip
            exact hQ _ _ ⟨hB9, hF10, (by omega), trivial⟩
          · skip
            exact hQ _ _ ⟨hB9, hF10, (by omega), trivial⟩
      · skip
        exact hQ _ _ ⟨hB9, hF10, (by omega), trivial⟩
    · skip
      have o39 : 0 ≤ (sI x7) ∧ (sI x7) < 100 := by omega
      refine ⟨o39, ?_⟩
      have q40 : 0 ≤ (M8 2 (sI x7).toNat) ∧ (M8 2 (sI x7).toNat) ≤ 255 := BN.at hB9 (rfl : zcd wC 2 = 2) rfl
      refine sC_Splicer_behind hB9 (by omega) (by omega) (by omega) (fun z41 M42 h43 => ?_)
      obtain ⟨hB44, f45, p46, p47, -⟩ := h43
      have hF48 : ∀ j9 : Nat, ¬ (j9 = 1) → M42 j9 = M j9 := fun j9 h9 => ((f45 j9 (by omega)).trans (hF10 j9 h9))
      refine ⟨fun c49 => ?_, fun c49 => ?_⟩
      · skip
        exact k15 _ _ _ ⟨hB44, hF48, (by omega), (by omega), (by omega), trivial⟩ (by omega)
      · skip
        exact hQ _ _ ⟨hB44, hF48, (by omega), trivial⟩
set_option maxHeartbeats 4000000 in
set_option maxRecDepth 100000 in
theorem sC_Splicer_openRow {M : zM}  (hB : BN wC M) (p0 : 0 ≤ M 1 2) {Q : zM → Prop} (hQ : ∀ (M1 : zM), BN wC M1 ∧ (∀ j9 : Nat, ¬ (1 ≤ j9 ∧ j9 ≤ 29) → M1 j9 = M j9) ∧ (M1 1 2 = M 1 2) ∧ True → Q M1) : wC_Splicer_openRow  M Q := by
  unfold wC_Splicer_openRow
  have hF0 : ∀ j9 : Nat, ¬ (1 ≤ j9 ∧ j9 ≤ 29) → M j9 = M j9 := fun j9 _ => rfl
  have q1 : (-1) ≤ (M 1 2) ∧ (M 1 2) ≤ 5 := BN.at hB (rfl : zcd wC 1 = 1) rfl
  have s2 : sI (M 1 2) = (M 1 2) := sIo (by omega) (by omega)
  have o3 : 0 ≤ (sI (M 1 2)) ∧ (sI (M 1 2)) < 6 := by omega
  refine ⟨o3, ?_⟩
  obtain ⟨lt4, cd5⟩ : (6 + 4 * (sI (M 1 2)).toNat) < nC ∧ zcd wC (6 + 4 * (sI (M 1 2)).toNat) = 6 := (by decide : ∀ k : Nat, k < 6 → (6 + 4 * k) < nC ∧ zcd wC (6 + 4 * k) = 6) (sI (M 1 2)).toNat (by omega)
  obtain ⟨lt6, cd7⟩ := nx_strip (6 + 4 * (sI (M 1 2)).toNat) lt4 cd5
  intro M8 e9
  have hB10 : BN wC M8 := by rw [e9]; exact BN.up hB cd5 rfl (by omega) (by omega)
  have hF11 : ∀ j9 : Nat, ¬ (1 ≤ j9 ∧ j9 ≤ 29) → M8 j9 = M j9 := fun j9 h9 => by rw [e9]; exact (zup_row _ _ (by omega)).trans (hF0 j9 h9)
  have r12 : M8 1 2 = M 1 2 := by rw [e9]; exact zup_n _ _ (by omega)
  have q13 : (-1) ≤ (M8 1 2) ∧ (M8 1 2) ≤ 5 := BN.at hB10 (rfl : zcd wC 1 = 1) rfl
  have s14 : sI (M8 1 2) = (M8 1 2) := sIo (by omega) (by omega)
  have o15 : 0 ≤ (sI (M8 1 2)) ∧ (sI (M8 1 2)) < 6 := by omega
  refine ⟨o15, ?_⟩
  obtain ⟨lt16, cd17⟩ : (8 + 4 * (sI (M8 1 2)).toNat) < nC ∧ zcd wC (8 + 4 * (sI (M8 1 2)).toNat) = 6 := (by decide : ∀ k : Nat, k < 6 → (8 + 4 * k) < nC ∧ zcd wC (8 + 4 * k) = 6) (sI (M8 1 2)).toNat (by omega)
  obtain ⟨lt18, cd19⟩ := nx_strip (8 + 4 * (sI (M8 1 2)).toNat) lt16 cd17
  intro M20 e21
  have hB22 : BN wC M20 := by rw [e21]; exact BN.up hB10 cd17 rfl (by omega) (by omega)
  have hF23 : ∀ j9 : Nat, ¬ (1 ≤ j9 ∧ j9 ≤ 29) → M20 j9 = M j9 := fun j9 h9 => by rw [e21]; exact (zup_row _ _ (by omega)).trans (hF11 j9 h9)
  have r24 : M20 1 2 = M8 1 2 := by rw [e21]; exact zup_n _ _ (by omega)
  have q25 : (-1) ≤ (M20 1 2) ∧ (M20 1 2) ≤ 5 := BN.at hB22 (rfl : zcd wC 1 = 1) rfl
  have s26 : sI (M20 1 2) = (M20 1 2) := sIo (by omega) (by omega)
  have o27 : 0 ≤ (sI (M20 1 2)) ∧ (sI (M20 1 2)) < 6 := by omega
  refine ⟨o27, ?_⟩
  intro M28 e29
  have hB30 : BN wC M28 := by rw [e29]; exact BN.up hB22 (rfl : zcd wC 5 = 5) rfl (by omega) (by omega)
  have hF31 : ∀ j9 : Nat, ¬ (1 ≤ j9 ∧ j9 ≤ 29) → M28 j9 = M j9 := fun j9 h9 => by rw [e29]; exact (zup_row _ _ (by omega)).trans (hF23 j9 h9)
  have r32 : M28 1 2 = M20 1 2 := by rw [e29]; exact zup_n _ _ (by omega)
  exact hQ _ ⟨hB30, hF31, (by omega), trivial⟩
set_option maxHeartbeats 4000000 in
set_option maxRecDepth 100000 in
theorem sC_Strip_repeat {M : zM} {j : Nat} {a0 : Int} (hB : BN wC M) (lt_j : j < nC) (cd_j : zcd wC j = 6) (v0 : 0 ≤ a0 ∧ a0 ≤ 9) {Q : zM → Prop} (hQ : ∀ (M1 : zM), BN wC M1 ∧ (∀ j9 : Nat, ¬ (j9 = j ∨ j9 = j + 1) → M1 j9 = M j9) ∧ True → Q M1) : wC_Strip_repeat j a0 M Q := by
  unfold wC_Strip_repeat
  have hF0 : ∀ j9 : Nat, ¬ (j9 = j ∨ j9 = j + 1) → M j9 = M j9 := fun j9 _ => rfl
  obtain ⟨lt1, cd2⟩ := nx_strip j lt_j cd_j
  have q3 : 0 ≤ (M j 1) ∧ (M j 1) ≤ 24 := BN.at hB cd_j rfl
  have q4 := mulB 24 9 (M j 1) a0 (by omega) (by omega) (by omega) (by omega)
  have s5 : sI ((M j 1) * a0) = ((M j 1) * a0) := sIo (by omega) (by omega)
  refine wL1_of (fun x7 M8 => BN wC M8 ∧ (∀ j9 : Nat, ¬ (j9 = j ∨ j9 = j + 1) → M8 j9 = M j9) ∧ (0 ≤ x7 ∧ x7 ≤ 1000000) ∧ (M8 j 1 = M j 1) ∧ (M j 1 ≤ x7) ∧ True) (fun x7 M8 => (1000000 - x7).toNat) ⟨hB, hF0, (by omega), (by omega), (by omega), trivial⟩ (fun K x7 M8 h14 k15 => ?_)
  obtain ⟨hB9, hF10, i11, i12, i13, -⟩ := h14
  have s16 : sI x7 = x7 := sIo (by omega) (by omega)
  refine ⟨fun c17 => ?_, fun c17 => ?_⟩
  · skip
    intro M18 e19
    have hB20 : BN wC M18 := by rw [e19]; exact BN.up hB9 cd_j rfl (by omega) (by omega)
    have hF21 : ∀ j9 : Nat, ¬ (j9 = j ∨ j9 = j + 1) → M18 j9 = M j9 := fun j9 h9 => by rw [e19]; exact (zup_row _ _ (by omega)).trans (hF10 j9 h9)
    have r22 : M18 j 1 = (min (sI ((M j 1) * a0)) 24) := by rw [e19]; exact zup_s _ _ _ _
    exact hQ _ ⟨hB20, hF21, trivial⟩
  · skip
    have q23 : 0 ≤ (M8 j 1) ∧ (M8 j 1) ≤ 24 := BN.at hB9 cd_j rfl
    have s24 : sI (x7 - (M8 j 1)) = (x7 - (M8 j 1)) := sIo (by omega) (by omega)
    have o25 : 0 ≤ (sI (x7 - (M8 j 1))) ∧ (sI (x7 - (M8 j 1))) < 24 := by omega
    refine ⟨o25, ?_⟩
    have q26 : (-2147483648) ≤ (M8 (j + 1) (sI (x7 - (M8 j 1))).toNat) ∧ (M8 (j + 1) (sI (x7 - (M8 j 1))).toNat) ≤ 2147483647 := BN.at hB9 cd2 rfl
    have o27 : 0 ≤ (sI x7) ∧ (sI x7) < 24 := by omega
    refine ⟨o27, ?_⟩
    intro M28 e29
    have hB30 : BN wC M28 := by rw [e29]; exact BN.up hB9 cd2 rfl (by omega) (by omega)
    have hF31 : ∀ j9 : Nat, ¬ (j9 = j ∨ j9 = j + 1) → M28 j9 = M j9 := fun j9 h9 => by rw [e29]; exact (zup_row _ _ (by omega)).trans (hF10 j9 h9)
    have r32 : M28 j 1 = M8 j 1 := by rw [e29]; exact zup_n _ _ (by omega)
    exact k15 _ _ ⟨hB30, hF31, (by omega), (by omega), (by omega), trivial⟩ (by omega)
set_option maxHeartbeats 4000000 in
set_option maxRecDepth 100000 in
theorem sC_Splicer_repeatTerm {M : zM} {a0 : Int} (hB : BN wC M) (v0 : 0 ≤ a0 ∧ a0 ≤ 9) (p0 : 0 ≤ M 1 2) {Q : Int → zM → Prop} (hQ : ∀ (z : Int) (M1 : zM), BN wC M1 ∧ (∀ j9 : Nat, ¬ (1 ≤ j9 ∧ j9 ≤ 29) → M1 j9 = M j9) ∧ ((-101) ≤ z ∧ z ≤ 0) ∧ (M1 1 2 = M 1 2) ∧ True → Q z M1) : wC_Splicer_repeatTerm a0 M Q := by
  unfold wC_Splicer_repeatTerm
  have hF0 : ∀ j9 : Nat, ¬ (1 ≤ j9 ∧ j9 ≤ 29) → M j9 = M j9 := fun j9 _ => rfl
  have q1 : (-1) ≤ (M 1 2) ∧ (M 1 2) ≤ 5 := BN.at hB (rfl : zcd wC 1 = 1) rfl
  have s2 : sI (M 1 2) = (M 1 2) := sIo (by omega) (by omega)
  have o3 : 0 ≤ (sI (M 1 2)) ∧ (sI (M 1 2)) < 6 := by omega
  refine ⟨o3, ?_⟩
  obtain ⟨lt4, cd5⟩ : (8 + 4 * (sI (M 1 2)).toNat) < nC ∧ zcd wC (8 + 4 * (sI (M 1 2)).toNat) = 6 := (by decide : ∀ k : Nat, k < 6 → (8 + 4 * k) < nC ∧ zcd wC (8 + 4 * k) = 6) (sI (M 1 2)).toNat (by omega)
  obtain ⟨lt6, cd7⟩ := nx_strip (8 + 4 * (sI (M 1 2)).toNat) lt4 cd5
  have q8 : 0 ≤ (M (8 + 4 * (sI (M 1 2)).toNat) 1) ∧ (M (8 + 4 * (sI (M 1 2)).toNat) 1) ≤ 24 := BN.at hB cd5 rfl
  have q9 := mulB 24 9 (M (8 + 4 * (sI (M 1 2)).toNat) 1) a0 (by omega) (by omega) (by omega) (by omega)
  have s10 : sI ((M (8 + 4 * (sI (M 1 2)).toNat) 1) * a0) = ((M (8 + 4 * (sI (M 1 2)).toNat) 1) * a0) := sIo (by omega) (by omega)
  refine ⟨fun c11 => ?_, fun c11 => ?_⟩
  · skip
    have o13 : 0 ≤ (sI (M 1 2)) ∧ (sI (M 1 2)) < 6 := by omega
    refine ⟨o13, ?_⟩
    refine sC_Strip_repeat hB lt4 cd5 (by omega) (fun  M14 h15 => ?_)
    obtain ⟨hB16, f17, -⟩ := h15
    have hF18 : ∀ j9 : Nat, ¬ (1 ≤ j9 ∧ j9 ≤ 29) → M14 j9 = M j9 := fun j9 h9 => ((f17 j9 (by omega)).trans (hF0 j9 h9))
    have r19 : M14 1 2 = M 1 2 := congrFun (f17 1 (by omega)) 2
    exact hQ _ _ ⟨hB16, hF18, (by omega), (by omega), trivial⟩
  · skip
    exact hQ _ _ ⟨hB, hF0, (by omega), (by omega), trivial⟩
set_option maxHeartbeats 4000000 in
set_option maxRecDepth 100000 in
theorem sC_Strip_has {M : zM} {j : Nat} {a0 : Int} (hB : BN wC M) (lt_j : j < nC) (cd_j : zcd wC j = 6) (v0 : (-2147483648) ≤ a0 ∧ a0 ≤ 2147483647) {Q : Int → Prop} (hQ : ∀ (z : Int), (0 ≤ z ∧ z ≤ 1) ∧ ((z = 1 ∧ 0 ≤ a0 ∧ a0 < M j 1 ∧ a0 < 24) ∨ (z = 0 ∧ ¬ (0 ≤ a0 ∧ a0 < M j 1))) ∧ True → Q z) : wC_Strip_has j a0 M Q := by
  unfold wC_Strip_has
  obtain ⟨lt1, cd2⟩ := nx_strip j lt_j cd_j
  have s3 : sI a0 = a0 := sIo (by omega) (by omega)
  refine ⟨fun c4 => ?_, fun c4 => ?_⟩
  · skip
    exact hQ _ ⟨(by omega), (by omega), trivial⟩
  · skip
    have q5 : 0 ≤ (M j 1) ∧ (M j 1) ≤ 24 := BN.at hB cd_j rfl
    have s6 : sI (M j 1) = (M j 1) := sIo (by omega) (by omega)
    refine ⟨fun c7 => ?_, fun c7 => ?_⟩
    · skip
      exact hQ _ ⟨(by omega), (by omega), trivial⟩
    · skip
      refine ⟨fun c8 => ?_, fun c8 => ?_⟩
      · skip
        exact hQ _ ⟨(by omega), (by omega), trivial⟩
      · skip
        exact hQ _ ⟨(by omega), (by omega), trivial⟩
set_option maxHeartbeats 4000000 in
set_option maxRecDepth 100000 in
theorem sC_Strip_addTo {M : zM} {j : Nat} {a0 : Int} {a1 : Int} (hB : BN wC M) (lt_j : j < nC) (cd_j : zcd wC j = 6) (v0 : (-2147483648) ≤ a0 ∧ a0 ≤ 2147483647) (v1 : (-2147483648) ≤ a1 ∧ a1 ≤ 2147483647) {Q : zM → Prop} (hQ : ∀ (M1 : zM), BN wC M1 ∧ (∀ j9 : Nat, ¬ (j9 = j ∨ j9 = j + 1) → M1 j9 = M j9) ∧ True → Q M1) : wC_Strip_addTo j a0 a1 M Q := by
  unfold wC_Strip_addTo
  have hF0 : ∀ j9 : Nat, ¬ (j9 = j ∨ j9 = j + 1) → M j9 = M j9 := fun j9 _ => rfl
  obtain ⟨lt1, cd2⟩ := nx_strip j lt_j cd_j
  refine sC_Strip_has hB lt_j cd_j (by omega) (fun z3  h4 => ?_)
  obtain ⟨p5, p6, -⟩ := h4
  refine ⟨fun c7 => ?_, fun c7 => ?_⟩
  · skip
    exact hQ _ ⟨hB, hF0, trivial⟩
  · skip
    have s8 : sI a0 = a0 := sIo (by omega) (by omega)
    have o9 : 0 ≤ (sI a0) ∧ (sI a0) < 24 := by omega
    refine ⟨o9, ?_⟩
    have q10 : (-2147483648) ≤ (M (j + 1) (sI a0).toNat) ∧ (M (j + 1) (sI a0).toNat) ≤ 2147483647 := BN.at hB cd2 rfl
    have q11 := orI_R (M (j + 1) (sI a0).toNat) a1
    have o12 : 0 ≤ (sI a0) ∧ (sI a0) < 24 := by omega
    refine ⟨o12, ?_⟩
    intro M13 e14
    have hB15 : BN wC M13 := by rw [e14]; exact BN.up hB cd2 rfl (by omega) (by omega)
    have hF16 : ∀ j9 : Nat, ¬ (j9 = j ∨ j9 = j + 1) → M13 j9 = M j9 := fun j9 h9 => by rw [e14]; exact (zup_row _ _ (by omega)).trans (hF0 j9 h9)
    exact hQ _ ⟨hB15, hF16, trivial⟩
set_option maxHeartbeats 4000000 in
set_option maxRecDepth 100000 in
theorem sC_Strip_putBehind {M : zM} {j : Nat} {a0 : Nat} {a1 : Int} (hB : BN wC M) (lt_j : j < nC) (cd_j : zcd wC j = 6) (lt_a0 : a0 < nC) (cd_a0 : zcd wC a0 = 6) (v1 : 0 ≤ a1 ∧ a1 ≤ 9) {Q : zM → Prop} (hQ : ∀ (M1 : zM), BN wC M1 ∧ (∀ j9 : Nat, ¬ (j9 = j ∨ j9 = j + 1) → M1 j9 = M j9) ∧ True → Q M1) : wC_Strip_putBehind j a0 a1 M Q := by
  unfold wC_Strip_putBehind
  have hF0 : ∀ j9 : Nat, ¬ (j9 = j ∨ j9 = j + 1) → M j9 = M j9 := fun j9 _ => rfl
  obtain ⟨lt1, cd2⟩ := nx_strip j lt_j cd_j
  obtain ⟨lt3, cd4⟩ := nx_strip a0 lt_a0 cd_a0
  have q5 : 0 ≤ (M j 1) ∧ (M j 1) ≤ 24 := BN.at hB cd_j rfl
  have s6 : sI ((M j 1) - a1) = ((M j 1) - a1) := sIo (by omega) (by omega)
  refine wL2_of (fun x7 x8 M9 => BN wC M9 ∧ (∀ j9 : Nat, ¬ (j9 = j ∨ j9 = j + 1) → M9 j9 = M j9) ∧ (0 ≤ x7 ∧ x7 ≤ 24) ∧ (0 ≤ x8 ∧ x8 ≤ 1000000) ∧ True) (fun x7 x8 M9 => (1000000 - x8).toNat) ⟨hB, hF0, (by omega), (by omega), trivial⟩ (fun K x7 x8 M9 h14 k15 => ?_)
  obtain ⟨hB10, hF11, i12, i13, -⟩ := h14
  have q16 : 0 ≤ (M9 a0 1) ∧ (M9 a0 1) ≤ 24 := BN.at hB10 cd_a0 rfl
  have s17 : sI x8 = x8 := sIo (by omega) (by omega)
  have s18 : sI (M9 a0 1) = (M9 a0 1) := sIo (by omega) (by omega)
  refine ⟨fun c19 => ?_, fun c19 => ?_⟩
  · skip
    have q20 : 0 ≤ (M9 j 1) ∧ (M9 j 1) ≤ 24 := BN.at hB10 cd_j rfl
    have s21 : sI x7 = x7 := sIo (by omega) (by omega)
    have s22 : sI (M9 j 1) = (M9 j 1) := sIo (by omega) (by omega)
    intro M23 e24
    have hB25 : BN wC M23 := by rw [e24]; exact BN.up hB10 cd_j rfl (by omega) (by omega)
    have hF26 : ∀ j9 : Nat, ¬ (j9 = j ∨ j9 = j + 1) → M23 j9 = M j9 := fun j9 h9 => by rw [e24]; exact (zup_row _ _ (by omega)).trans (hF11 j9 h9)
    exact hQ _ ⟨hB25, hF26, trivial⟩
  · skip
    have s27 : sI x7 = x7 := sIo (by omega) (by omega)
    refine ⟨fun c28 => ?_, fun c28 => ?_⟩
    · skip
      have q29 : 0 ≤ (M9 j 1) ∧ (M9 j 1) ≤ 24 := BN.at hB10 cd_j rfl
      have s30 : sI (M9 j 1) = (M9 j 1) := sIo (by omega) (by omega)
      intro M31 e32
      have hB33 : BN wC M31 := by rw [e32]; exact BN.up hB10 cd_j rfl (by omega) (by omega)
      have hF34 : ∀ j9 : Nat, ¬ (j9 = j ∨ j9 = j + 1) → M31 j9 = M j9 := fun j9 h9 => by rw [e32]; exact (zup_row _ _ (by omega)).trans (hF11 j9 h9)
      exact hQ _ ⟨hB33, hF34, trivial⟩
    · skip
      have o35 : 0 ≤ (sI x8) ∧ (sI x8) < 24 := by omega
      refine ⟨o35, ?_⟩
      have q36 : (-2147483648) ≤ (M9 (a0 + 1) (sI x8).toNat) ∧ (M9 (a0 + 1) (sI x8).toNat) ≤ 2147483647 := BN.at hB10 cd4 rfl
      have q37 : 0 ≤ (M9 j 1) ∧ (M9 j 1) ≤ 24 := BN.at hB10 cd_j rfl
      have s38 : sI (M9 j 1) = (M9 j 1) := sIo (by omega) (by omega)
      refine ⟨fun c39 => ?_, fun c39 => ?_⟩
      · skip
        have q40 := orI_R (M9 (a0 + 1) (sI x8).toNat) 0
        have o41 : 0 ≤ (sI x7) ∧ (sI x7) < 24 := by omega
        refine ⟨o41, ?_⟩
        intro M42 e43
        have hB44 : BN wC M42 := by rw [e43]; exact BN.up hB10 cd2 rfl (by omega) (by omega)
        have hF45 : ∀ j9 : Nat, ¬ (j9 = j ∨ j9 = j + 1) → M42 j9 = M j9 := fun j9 h9 => by rw [e43]; exact (zup_row _ _ (by omega)).trans (hF11 j9 h9)
        exact k15 _ _ _ ⟨hB44, hF45, (by omega), (by omega), trivial⟩ (by omega)
      · skip
        have o46 : 0 ≤ (sI x7) ∧ (sI x7) < 24 := by omega
        refine ⟨o46, ?_⟩
        have q47 : (-2147483648) ≤ (M9 (j + 1) (sI x7).toNat) ∧ (M9 (j + 1) (sI x7).toNat) ≤ 2147483647 := BN.at hB10 cd2 rfl
        have q48 := orI_R (M9 (a0 + 1) (sI x8).toNat) (M9 (j + 1) (sI x7).toNat)
        have o49 : 0 ≤ (sI x7) ∧ (sI x7) < 24 := by omega
        refine ⟨o49, ?_⟩
        intro M50 e51
        have hB52 : BN wC M50 := by rw [e51]; exact BN.up hB10 cd2 rfl (by omega) (by omega)
        have hF53 : ∀ j9 : Nat, ¬ (j9 = j ∨ j9 = j + 1) → M50 j9 = M j9 := fun j9 h9 => by rw [e51]; exact (zup_row _ _ (by omega)).trans (hF11 j9 h9)
        exact k15 _ _ _ ⟨hB52, hF53, (by omega), (by omega), trivial⟩ (by omega)
set_option maxHeartbeats 4000000 in
set_option maxRecDepth 100000 in
theorem sC_Splicer_layTerm {M : zM}  (hB : BN wC M) (p0 : 0 ≤ M 1 2) {Q : Int → zM → Prop} (hQ : ∀ (z : Int) (M1 : zM), BN wC M1 ∧ (∀ j9 : Nat, ¬ (1 ≤ j9 ∧ j9 ≤ 29) → M1 j9 = M j9) ∧ ((-101) ≤ z ∧ z ≤ 0) ∧ (M1 1 2 = M 1 2) ∧ True → Q z M1) : wC_Splicer_layTerm  M Q := by
  unfold wC_Splicer_layTerm
  have hF0 : ∀ j9 : Nat, ¬ (1 ≤ j9 ∧ j9 ≤ 29) → M j9 = M j9 := fun j9 _ => rfl
  have q1 : (-1) ≤ (M 1 2) ∧ (M 1 2) ≤ 5 := BN.at hB (rfl : zcd wC 1 = 1) rfl
  have s2 : sI (M 1 2) = (M 1 2) := sIo (by omega) (by omega)
  have o3 : 0 ≤ (sI (M 1 2)) ∧ (sI (M 1 2)) < 6 := by omega
  refine ⟨o3, ?_⟩
  obtain ⟨lt4, cd5⟩ : (6 + 4 * (sI (M 1 2)).toNat) < nC ∧ zcd wC (6 + 4 * (sI (M 1 2)).toNat) = 6 := (by decide : ∀ k : Nat, k < 6 → (6 + 4 * k) < nC ∧ zcd wC (6 + 4 * k) = 6) (sI (M 1 2)).toNat (by omega)
  obtain ⟨lt6, cd7⟩ := nx_strip (6 + 4 * (sI (M 1 2)).toNat) lt4 cd5
  have o9 : 0 ≤ (sI (M 1 2)) ∧ (sI (M 1 2)) < 6 := by omega
  refine ⟨o9, ?_⟩
  obtain ⟨lt10, cd11⟩ : (8 + 4 * (sI (M 1 2)).toNat) < nC ∧ zcd wC (8 + 4 * (sI (M 1 2)).toNat) = 6 := (by decide : ∀ k : Nat, k < 6 → (8 + 4 * k) < nC ∧ zcd wC (8 + 4 * k) = 6) (sI (M 1 2)).toNat (by omega)
  obtain ⟨lt12, cd13⟩ := nx_strip (8 + 4 * (sI (M 1 2)).toNat) lt10 cd11
  have q14 : 0 ≤ (M (8 + 4 * (sI (M 1 2)).toNat) 1) ∧ (M (8 + 4 * (sI (M 1 2)).toNat) 1) ≤ 24 := BN.at hB cd11 rfl
  have s15 : sI (M (8 + 4 * (sI (M 1 2)).toNat) 1) = (M (8 + 4 * (sI (M 1 2)).toNat) 1) := sIo (by omega) (by omega)
  refine ⟨fun c16 => ?_, fun c16 => ?_⟩
  · skip
    have o18 : 0 ≤ (sI (M 1 2)) ∧ (sI (M 1 2)) < 6 := by omega
    refine ⟨o18, ?_⟩
    have q19 : 0 ≤ (M 5 (sI (M 1 2)).toNat) ∧ (M 5 (sI (M 1 2)).toNat) ≤ 9 := BN.at hB (rfl : zcd wC 5 = 5) rfl
    have s21 : sI (M 5 (sI (M 1 2)).toNat) = (M 5 (sI (M 1 2)).toNat) := sIo (by omega) (by omega)
    refine ⟨fun c22 => ?_, fun c22 => ?_⟩
    · skip
      have q23 : 0 ≤ (M (6 + 4 * (sI (M 1 2)).toNat) 1) ∧ (M (6 + 4 * (sI (M 1 2)).toNat) 1) ≤ 24 := BN.at hB cd5 rfl
      have s25 : sI (((M (6 + 4 * (sI (M 1 2)).toNat) 1) + (M (8 + 4 * (sI (M 1 2)).toNat) 1)) - (M 5 (sI (M 1 2)).toNat)) = (((M (6 + 4 * (sI (M 1 2)).toNat) 1) + (M (8 + 4 * (sI (M 1 2)).toNat) 1)) - (M 5 (sI (M 1 2)).toNat)) := sIo (by omega) (by omega)
      refine ⟨fun c26 => ?_, fun c26 => ?_⟩
      · skip
        refine sC_Strip_putBehind hB lt4 cd5 lt10 cd11 (by omega) (fun  M27 h28 => ?_)
        obtain ⟨hB29, f30, -⟩ := h28
        have hF31 : ∀ j9 : Nat, ¬ (1 ≤ j9 ∧ j9 ≤ 29) → M27 j9 = M j9 := fun j9 h9 => ((f30 j9 (by omega)).trans (hF0 j9 h9))
        have r32 : M27 1 2 = M 1 2 := congrFun (f30 1 (by omega)) 2
        intro M33 e34
        have hB35 : BN wC M33 := by rw [e34]; exact BN.up hB29 cd11 rfl (by omega) (by omega)
        have hF36 : ∀ j9 : Nat, ¬ (1 ≤ j9 ∧ j9 ≤ 29) → M33 j9 = M j9 := fun j9 h9 => by rw [e34]; exact (zup_row _ _ (by omega)).trans (hF31 j9 h9)
        have r37 : M33 1 2 = M27 1 2 := by rw [e34]; exact zup_n _ _ (by omega)
        have q38 : (-1) ≤ (M33 1 2) ∧ (M33 1 2) ≤ 5 := BN.at hB35 (rfl : zcd wC 1 = 1) rfl
        have s39 : sI (M33 1 2) = (M33 1 2) := sIo (by omega) (by omega)
        have o40 : 0 ≤ (sI (M33 1 2)) ∧ (sI (M33 1 2)) < 6 := by omega
        refine ⟨o40, ?_⟩
        intro M41 e42
        have hB43 : BN wC M41 := by rw [e42]; exact BN.up hB35 (rfl : zcd wC 5 = 5) rfl (by omega) (by omega)
        have hF44 : ∀ j9 : Nat, ¬ (1 ≤ j9 ∧ j9 ≤ 29) → M41 j9 = M j9 := fun j9 h9 => by rw [e42]; exact (zup_row _ _ (by omega)).trans (hF36 j9 h9)
        have r45 : M41 1 2 = M33 1 2 := by rw [e42]; exact zup_n _ _ (by omega)
        exact hQ _ _ ⟨hB43, hF44, (by omega), (by omega), trivial⟩
      · skip
        exact hQ _ _ ⟨hB, hF0, (by omega), (by omega), trivial⟩
    · skip
      exact hQ _ _ ⟨hB, hF0, (by omega), (by omega), trivial⟩
  · skip
    exact hQ _ _ ⟨hB, hF0, (by omega), (by omega), trivial⟩
set_option maxHeartbeats 4000000 in
set_option maxRecDepth 100000 in
theorem sC_Strip_becomeInch {M : zM} {j : Nat} {a0 : Int} (hB : BN wC M) (lt_j : j < nC) (cd_j : zcd wC j = 6) (v0 : (-2147483648) ≤ a0 ∧ a0 ≤ 2147483647) {Q : zM → Prop} (hQ : ∀ (M1 : zM), BN wC M1 ∧ (∀ j9 : Nat, ¬ (j9 = j ∨ j9 = j + 1) → M1 j9 = M j9) ∧ True → Q M1) : wC_Strip_becomeInch j a0 M Q := by
  unfold wC_Strip_becomeInch
  have hF0 : ∀ j9 : Nat, ¬ (j9 = j ∨ j9 = j + 1) → M j9 = M j9 := fun j9 _ => rfl
  obtain ⟨lt1, cd2⟩ := nx_strip j lt_j cd_j
  intro M3 e4
  have hB5 : BN wC M3 := by rw [e4]; exact BN.up hB cd2 rfl (by omega) (by omega)
  have hF6 : ∀ j9 : Nat, ¬ (j9 = j ∨ j9 = j + 1) → M3 j9 = M j9 := fun j9 h9 => by rw [e4]; exact (zup_row _ _ (by omega)).trans (hF0 j9 h9)
  intro M7 e8
  have hB9 : BN wC M7 := by rw [e8]; exact BN.up hB5 cd_j rfl (by omega) (by omega)
  have hF10 : ∀ j9 : Nat, ¬ (j9 = j ∨ j9 = j + 1) → M7 j9 = M j9 := fun j9 h9 => by rw [e8]; exact (zup_row _ _ (by omega)).trans (hF6 j9 h9)
  exact hQ _ ⟨hB9, hF10, trivial⟩
set_option maxHeartbeats 4000000 in
set_option maxRecDepth 100000 in
theorem sC_Splicer_beginTerm {M : zM} {a0 : Int} (hB : BN wC M) (v0 : (-2147483648) ≤ a0 ∧ a0 ≤ 2147483647) (p0 : 0 ≤ M 1 2) {Q : Int → zM → Prop} (hQ : ∀ (z : Int) (M1 : zM), BN wC M1 ∧ (∀ j9 : Nat, ¬ (1 ≤ j9 ∧ j9 ≤ 29) → M1 j9 = M j9) ∧ ((-101) ≤ z ∧ z ≤ 0) ∧ (M1 1 2 = M 1 2) ∧ True → Q z M1) : wC_Splicer_beginTerm a0 M Q := by
  unfold wC_Splicer_beginTerm
  have hF0 : ∀ j9 : Nat, ¬ (1 ≤ j9 ∧ j9 ≤ 29) → M j9 = M j9 := fun j9 _ => rfl
  refine sC_Splicer_layTerm hB (by omega) (fun z1 M2 h3 => ?_)
  obtain ⟨hB4, f5, p6, p7, -⟩ := h3
  have hF8 : ∀ j9 : Nat, ¬ (1 ≤ j9 ∧ j9 ≤ 29) → M2 j9 = M j9 := fun j9 h9 => ((f5 j9 (by omega)).trans (hF0 j9 h9))
  refine ⟨fun c9 => ?_, fun c9 => ?_⟩
  · skip
    exact hQ _ _ ⟨hB4, hF8, (by omega), (by omega), trivial⟩
  · skip
    have q10 : (-1) ≤ (M2 1 2) ∧ (M2 1 2) ≤ 5 := BN.at hB4 (rfl : zcd wC 1 = 1) rfl
    have s11 : sI (M2 1 2) = (M2 1 2) := sIo (by omega) (by omega)
    have o12 : 0 ≤ (sI (M2 1 2)) ∧ (sI (M2 1 2)) < 6 := by omega
    refine ⟨o12, ?_⟩
    obtain ⟨lt13, cd14⟩ : (8 + 4 * (sI (M2 1 2)).toNat) < nC ∧ zcd wC (8 + 4 * (sI (M2 1 2)).toNat) = 6 := (by decide : ∀ k : Nat, k < 6 → (8 + 4 * k) < nC ∧ zcd wC (8 + 4 * k) = 6) (sI (M2 1 2)).toNat (by omega)
    obtain ⟨lt15, cd16⟩ := nx_strip (8 + 4 * (sI (M2 1 2)).toNat) lt13 cd14
    refine sC_Strip_becomeInch hB4 lt13 cd14 (by omega) (fun  M17 h18 => ?_)
    obtain ⟨hB19, f20, -⟩ := h18
    have hF21 : ∀ j9 : Nat, ¬ (1 ≤ j9 ∧ j9 ≤ 29) → M17 j9 = M j9 := fun j9 h9 => ((f20 j9 (by omega)).trans (hF8 j9 h9))
    have r22 : M17 1 2 = M2 1 2 := congrFun (f20 1 (by omega)) 2
    exact hQ _ _ ⟨hB19, hF21, (by omega), (by omega), trivial⟩
set_option maxHeartbeats 4000000 in
set_option maxRecDepth 100000 in
theorem sC_Splicer_readDigit {M : zM} {a0 : Int} (hB : BN wC M) (v0 : 0 ≤ a0 ∧ a0 ≤ 9) (p0 : 0 ≤ M 1 2) {Q : Int → zM → Prop} (hQ : ∀ (z : Int) (M1 : zM), BN wC M1 ∧ (∀ j9 : Nat, ¬ (1 ≤ j9 ∧ j9 ≤ 29) → M1 j9 = M j9) ∧ ((-101) ≤ z ∧ z ≤ 0) ∧ (M1 1 2 = M 1 2) ∧ True → Q z M1) : wC_Splicer_readDigit a0 M Q := by
  unfold wC_Splicer_readDigit
  have hF0 : ∀ j9 : Nat, ¬ (1 ≤ j9 ∧ j9 ≤ 29) → M j9 = M j9 := fun j9 _ => rfl
  have q1 : (-2147483648) ≤ (M 1 3) ∧ (M 1 3) ≤ 2147483647 := BN.at hB (rfl : zcd wC 1 = 1) rfl
  have s2 : sI (M 1 3) = (M 1 3) := sIo (by omega) (by omega)
  refine ⟨fun c3 => ?_, fun c3 => ?_⟩
  · skip
    intro M4 e5
    have hB6 : BN wC M4 := by rw [e5]; exact BN.up hB (rfl : zcd wC 1 = 1) rfl (by omega) (by omega)
    have hF7 : ∀ j9 : Nat, ¬ (1 ≤ j9 ∧ j9 ≤ 29) → M4 j9 = M j9 := fun j9 h9 => by rw [e5]; exact (zup_row _ _ (by omega)).trans (hF0 j9 h9)
    have r8 : M4 1 2 = M 1 2 := by rw [e5]; exact zup_n _ _ (by omega)
    refine sC_Splicer_repeatTerm hB6 (by omega) (by omega) (fun z9 M10 h11 => ?_)
    obtain ⟨hB12, f13, p14, p15, -⟩ := h11
    have hF16 : ∀ j9 : Nat, ¬ (1 ≤ j9 ∧ j9 ≤ 29) → M10 j9 = M j9 := fun j9 h9 => ((f13 j9 (by omega)).trans (hF7 j9 h9))
    exact hQ _ _ ⟨hB12, hF16, (by omega), (by omega), trivial⟩
  refine ⟨fun c17 => ?_, fun c17 => ?_⟩
  · skip
    intro M18 e19
    have hB20 : BN wC M18 := by rw [e19]; exact BN.up hB (rfl : zcd wC 1 = 1) rfl (by omega) (by omega)
    have hF21 : ∀ j9 : Nat, ¬ (1 ≤ j9 ∧ j9 ≤ 29) → M18 j9 = M j9 := fun j9 h9 => by rw [e19]; exact (zup_row _ _ (by omega)).trans (hF0 j9 h9)
    have r22 : M18 1 2 = M 1 2 := by rw [e19]; exact zup_n _ _ (by omega)
    have q23 : (-1) ≤ (M18 1 2) ∧ (M18 1 2) ≤ 5 := BN.at hB20 (rfl : zcd wC 1 = 1) rfl
    have s24 : sI (M18 1 2) = (M18 1 2) := sIo (by omega) (by omega)
    have o25 : 0 ≤ (sI (M18 1 2)) ∧ (sI (M18 1 2)) < 6 := by omega
    refine ⟨o25, ?_⟩
    intro M26 e27
    have hB28 : BN wC M26 := by rw [e27]; exact BN.up hB20 (rfl : zcd wC 5 = 5) rfl (by omega) (by omega)
    have hF29 : ∀ j9 : Nat, ¬ (1 ≤ j9 ∧ j9 ≤ 29) → M26 j9 = M j9 := fun j9 h9 => by rw [e27]; exact (zup_row _ _ (by omega)).trans (hF21 j9 h9)
    have r30 : M26 1 2 = M18 1 2 := by rw [e27]; exact zup_n _ _ (by omega)
    have q31 : (-1) ≤ (M26 1 2) ∧ (M26 1 2) ≤ 5 := BN.at hB28 (rfl : zcd wC 1 = 1) rfl
    have s32 : sI (M26 1 2) = (M26 1 2) := sIo (by omega) (by omega)
    have o33 : 0 ≤ (sI (M26 1 2)) ∧ (sI (M26 1 2)) < 6 := by omega
    refine ⟨o33, ?_⟩
    obtain ⟨lt34, cd35⟩ : (6 + 4 * (sI (M26 1 2)).toNat) < nC ∧ zcd wC (6 + 4 * (sI (M26 1 2)).toNat) = 6 := (by decide : ∀ k : Nat, k < 6 → (6 + 4 * k) < nC ∧ zcd wC (6 + 4 * k) = 6) (sI (M26 1 2)).toNat (by omega)
    obtain ⟨lt36, cd37⟩ := nx_strip (6 + 4 * (sI (M26 1 2)).toNat) lt34 cd35
    have q38 : 0 ≤ (M26 (6 + 4 * (sI (M26 1 2)).toNat) 1) ∧ (M26 (6 + 4 * (sI (M26 1 2)).toNat) 1) ≤ 24 := BN.at hB28 cd35 rfl
    have s39 : sI a0 = a0 := sIo (by omega) (by omega)
    have s40 : sI (M26 (6 + 4 * (sI (M26 1 2)).toNat) 1) = (M26 (6 + 4 * (sI (M26 1 2)).toNat) 1) := sIo (by omega) (by omega)
    refine ⟨fun c41 => ?_, fun c41 => ?_⟩
    · skip
      exact hQ _ _ ⟨hB28, hF29, (by omega), (by omega), trivial⟩
    · skip
      exact hQ _ _ ⟨hB28, hF29, (by omega), (by omega), trivial⟩
  refine ⟨fun c42 => ?_, fun c42 => ?_⟩
  · skip
    have q43 : (-1) ≤ (M 1 2) ∧ (M 1 2) ≤ 5 := BN.at hB (rfl : zcd wC 1 = 1) rfl
    have s44 : sI (M 1 2) = (M 1 2) := sIo (by omega) (by omega)
    have o45 : 0 ≤ (sI (M 1 2)) ∧ (sI (M 1 2)) < 6 := by omega
    refine ⟨o45, ?_⟩
    obtain ⟨lt46, cd47⟩ : (8 + 4 * (sI (M 1 2)).toNat) < nC ∧ zcd wC (8 + 4 * (sI (M 1 2)).toNat) = 6 := (by decide : ∀ k : Nat, k < 6 → (8 + 4 * k) < nC ∧ zcd wC (8 + 4 * k) = 6) (sI (M 1 2)).toNat (by omega)
    obtain ⟨lt48, cd49⟩ := nx_strip (8 + 4 * (sI (M 1 2)).toNat) lt46 cd47
    have q50 := shlI_R 1 a0
    refine sC_Strip_addTo hB lt46 cd47 (by omega) (by omega) (fun  M51 h52 => ?_)
    obtain ⟨hB53, f54, -⟩ := h52
    have hF55 : ∀ j9 : Nat, ¬ (1 ≤ j9 ∧ j9 ≤ 29) → M51 j9 = M j9 := fun j9 h9 => ((f54 j9 (by omega)).trans (hF0 j9 h9))
    have r56 : M51 1 2 = M 1 2 := congrFun (f54 1 (by omega)) 2
    exact hQ _ _ ⟨hB53, hF55, (by omega), (by omega), trivial⟩
  have s57 : sI a0 = a0 := sIo (by omega) (by omega)
  refine ⟨fun c58 => ?_, fun c58 => ?_⟩
  · skip
    have q59 := shlI_R 1 a0
    refine sC_Splicer_beginTerm hB (by omega) (by omega) (fun z60 M61 h62 => ?_)
    obtain ⟨hB63, f64, p65, p66, -⟩ := h62
    have hF67 : ∀ j9 : Nat, ¬ (1 ≤ j9 ∧ j9 ≤ 29) → M61 j9 = M j9 := fun j9 h9 => ((f64 j9 (by omega)).trans (hF0 j9 h9))
    exact hQ _ _ ⟨hB63, hF67, (by omega), (by omega), trivial⟩
  · skip
    refine sC_Splicer_beginTerm hB (by omega) (by omega) (fun z68 M69 h70 => ?_)
    obtain ⟨hB71, f72, p73, p74, -⟩ := h70
    have hF75 : ∀ j9 : Nat, ¬ (1 ≤ j9 ∧ j9 ≤ 29) → M69 j9 = M j9 := fun j9 h9 => ((f72 j9 (by omega)).trans (hF0 j9 h9))
    exact hQ _ _ ⟨hB71, hF75, (by omega), (by omega), trivial⟩
set_option maxHeartbeats 4000000 in
set_option maxRecDepth 100000 in
theorem sC_Strip_turn {M : zM} {j : Nat} (hB : BN wC M) (lt_j : j < nC) (cd_j : zcd wC j = 6) {Q : zM → Prop} (hQ : ∀ (M1 : zM), BN wC M1 ∧ (∀ j9 : Nat, ¬ (j9 = j ∨ j9 = j + 1) → M1 j9 = M j9) ∧ True → Q M1) : wC_Strip_turn j M Q := by
  unfold wC_Strip_turn
  have hF0 : ∀ j9 : Nat, ¬ (j9 = j ∨ j9 = j + 1) → M j9 = M j9 := fun j9 _ => rfl
  obtain ⟨lt1, cd2⟩ := nx_strip j lt_j cd_j
  refine wL1_of (fun x3 M4 => BN wC M4 ∧ (∀ j9 : Nat, ¬ (j9 = j ∨ j9 = j + 1) → M4 j9 = M j9) ∧ (0 ≤ x3 ∧ x3 ≤ 1000000) ∧ True) (fun x3 M4 => (1000000 - x3).toNat) ⟨hB, hF0, (by omega), trivial⟩ (fun K x3 M4 h8 k9 => ?_)
  obtain ⟨hB5, hF6, i7, -⟩ := h8
  have q10 : 0 ≤ (M4 j 1) ∧ (M4 j 1) ≤ 24 := BN.at hB5 cd_j rfl
  have s11 : sI (M4 j 1) = (M4 j 1) := sIo (by omega) (by omega)
  have q12 : ((sI (M4 j 1)).tdiv 2) = (sI (M4 j 1)) / 2 := Int.tdiv_eq_ediv_of_nonneg (by omega)
  have s13 : sI x3 = x3 := sIo (by omega) (by omega)
  have s14 : sI ((sI (M4 j 1)).tdiv 2) = ((sI (M4 j 1)).tdiv 2) := sIo (by omega) (by omega)
  refine ⟨fun c15 => ?_, fun c15 => ?_⟩
  · skip
    exact hQ _ ⟨hB5, hF6, trivial⟩
  · skip
    have o16 : 0 ≤ (sI x3) ∧ (sI x3) < 24 := by omega
    refine ⟨o16, ?_⟩
    have q17 : (-2147483648) ≤ (M4 (j + 1) (sI x3).toNat) ∧ (M4 (j + 1) (sI x3).toNat) ≤ 2147483647 := BN.at hB5 cd2 rfl
    have s19 : sI (((M4 j 1) - 1) - x3) = (((M4 j 1) - 1) - x3) := sIo (by omega) (by omega)
    have o20 : 0 ≤ (sI (((M4 j 1) - 1) - x3)) ∧ (sI (((M4 j 1) - 1) - x3)) < 24 := by omega
    refine ⟨o20, ?_⟩
    have q21 : (-2147483648) ≤ (M4 (j + 1) (sI (((M4 j 1) - 1) - x3)).toNat) ∧ (M4 (j + 1) (sI (((M4 j 1) - 1) - x3)).toNat) ≤ 2147483647 := BN.at hB5 cd2 rfl
    have o22 : 0 ≤ (sI x3) ∧ (sI x3) < 24 := by omega
    refine ⟨o22, ?_⟩
    intro M23 e24
    have hB25 : BN wC M23 := by rw [e24]; exact BN.up hB5 cd2 rfl (by omega) (by omega)
    have hF26 : ∀ j9 : Nat, ¬ (j9 = j ∨ j9 = j + 1) → M23 j9 = M j9 := fun j9 h9 => by rw [e24]; exact (zup_row _ _ (by omega)).trans (hF6 j9 h9)
    have r27 : M23 j 1 = M4 j 1 := by rw [e24]; exact zup_n _ _ (by omega)
    have q28 : 0 ≤ (M23 j 1) ∧ (M23 j 1) ≤ 24 := BN.at hB25 cd_j rfl
    have s29 : sI (((M23 j 1) - 1) - x3) = (((M23 j 1) - 1) - x3) := sIo (by omega) (by omega)
    have o30 : 0 ≤ (sI (((M23 j 1) - 1) - x3)) ∧ (sI (((M23 j 1) - 1) - x3)) < 24 := by omega
    refine ⟨o30, ?_⟩
    intro M31 e32
    have hB33 : BN wC M31 := by rw [e32]; exact BN.up hB25 cd2 rfl (by omega) (by omega)
    have hF34 : ∀ j9 : Nat, ¬ (j9 = j ∨ j9 = j + 1) → M31 j9 = M j9 := fun j9 h9 => by rw [e32]; exact (zup_row _ _ (by omega)).trans (hF26 j9 h9)
    have r35 : M31 j 1 = M23 j 1 := by rw [e32]; exact zup_n _ _ (by omega)
    exact k9 _ _ ⟨hB33, hF34, (by omega), trivial⟩ (by omega)
set_option maxHeartbeats 4000000 in
set_option maxRecDepth 100000 in
theorem sC_Splicer_open {M : zM}  (hB : BN wC M) (p0 : 0 ≤ M 1 2) {Q : Int → zM → Prop} (hQ : ∀ (z : Int) (M1 : zM), BN wC M1 ∧ (∀ j9 : Nat, ¬ (1 ≤ j9 ∧ j9 ≤ 29) → M1 j9 = M j9) ∧ ((-101) ≤ z ∧ z ≤ 0) ∧ (0 ≤ M1 1 2) ∧ True → Q z M1) : wC_Splicer_open  M Q := by
  unfold wC_Splicer_open
  have hF0 : ∀ j9 : Nat, ¬ (1 ≤ j9 ∧ j9 ≤ 29) → M j9 = M j9 := fun j9 _ => rfl
  refine sC_Splicer_layTerm hB (by omega) (fun z1 M2 h3 => ?_)
  obtain ⟨hB4, f5, p6, p7, -⟩ := h3
  have hF8 : ∀ j9 : Nat, ¬ (1 ≤ j9 ∧ j9 ≤ 29) → M2 j9 = M j9 := fun j9 h9 => ((f5 j9 (by omega)).trans (hF0 j9 h9))
  refine ⟨fun c9 => ?_, fun c9 => ?_⟩
  · skip
    exact hQ _ _ ⟨hB4, hF8, (by omega), (by omega), trivial⟩
  · skip
    have q10 : (-1) ≤ (M2 1 2) ∧ (M2 1 2) ≤ 5 := BN.at hB4 (rfl : zcd wC 1 = 1) rfl
    have s11 : sI (M2 1 2) = (M2 1 2) := sIo (by omega) (by omega)
    refine ⟨fun c12 => ?_, fun c12 => ?_⟩
    · skip
      exact hQ _ _ ⟨hB4, hF8, (by omega), (by omega), trivial⟩
    · skip
      intro M14 e15
      have hB16 : BN wC M14 := by rw [e15]; exact BN.up hB4 (rfl : zcd wC 1 = 1) rfl (by omega) (by omega)
      have hF17 : ∀ j9 : Nat, ¬ (1 ≤ j9 ∧ j9 ≤ 29) → M14 j9 = M j9 := fun j9 h9 => by rw [e15]; exact (zup_row _ _ (by omega)).trans (hF8 j9 h9)
      have r18 : M14 1 2 = ((M2 1 2) + 1) := by rw [e15]; exact zup_s _ _ _ _
      refine sC_Splicer_openRow hB16 (by omega) (fun  M19 h20 => ?_)
      obtain ⟨hB21, f22, p23, -⟩ := h20
      have hF24 : ∀ j9 : Nat, ¬ (1 ≤ j9 ∧ j9 ≤ 29) → M19 j9 = M j9 := fun j9 h9 => ((f22 j9 (by omega)).trans (hF17 j9 h9))
      exact hQ _ _ ⟨hB21, hF24, (by omega), (by omega), trivial⟩
set_option maxHeartbeats 4000000 in
set_option maxRecDepth 100000 in
theorem sC_Strip_copy {M : zM} {j : Nat} {a0 : Nat} (hB : BN wC M) (lt_j : j < nC) (cd_j : zcd wC j = 6) (lt_a0 : a0 < nC) (cd_a0 : zcd wC a0 = 6) (p0 : a0 ≠ j) {Q : zM → Prop} (hQ : ∀ (M1 : zM), BN wC M1 ∧ (∀ j9 : Nat, ¬ (j9 = j ∨ j9 = j + 1) → M1 j9 = M j9) ∧ True → Q M1) : wC_Strip_copy j a0 M Q := by
  unfold wC_Strip_copy
  have hF0 : ∀ j9 : Nat, ¬ (j9 = j ∨ j9 = j + 1) → M j9 = M j9 := fun j9 _ => rfl
  obtain ⟨lt1, cd2⟩ := nx_strip j lt_j cd_j
  obtain ⟨lt3, cd4⟩ := nx_strip a0 lt_a0 cd_a0
  have q5 : 0 ≤ (M a0 1) ∧ (M a0 1) ≤ 24 := BN.at hB cd_a0 rfl
  intro M6 e7
  have hB8 : BN wC M6 := by rw [e7]; exact BN.up hB cd_j rfl (by omega) (by omega)
  have hF9 : ∀ j9 : Nat, ¬ (j9 = j ∨ j9 = j + 1) → M6 j9 = M j9 := fun j9 h9 => by rw [e7]; exact (zup_row _ _ (by omega)).trans (hF0 j9 h9)
  have o10 : (a0 + 1) ≠ (j + 1) := by omega
  refine ⟨o10, ?_⟩
  intro M11 e12
  have hB13 : BN wC M11 := by rw [e12]; exact BN.cp hB8 cd2 (fun _ => rfl) (fun k => BN.r32 hB8 _ k)
  have hF14 : ∀ j9 : Nat, ¬ (j9 = j ∨ j9 = j + 1) → M11 j9 = M j9 := fun j9 h9 => by rw [e12]; exact (zcp_row (by omega)).trans (hF9 j9 h9)
  exact hQ _ ⟨hB13, hF14, trivial⟩
set_option maxHeartbeats 4000000 in
set_option maxRecDepth 100000 in
theorem sC_Splicer_close {M : zM}  (hB : BN wC M) (p0 : 0 ≤ M 1 2) {Q : Int → zM → Prop} (hQ : ∀ (z : Int) (M1 : zM), BN wC M1 ∧ (∀ j9 : Nat, ¬ (1 ≤ j9 ∧ j9 ≤ 29) → M1 j9 = M j9) ∧ ((-101) ≤ z ∧ z ≤ 0) ∧ (0 ≤ M1 1 2) ∧ True → Q z M1) : wC_Splicer_close  M Q := by
  unfold wC_Splicer_close
  have hF0 : ∀ j9 : Nat, ¬ (1 ≤ j9 ∧ j9 ≤ 29) → M j9 = M j9 := fun j9 _ => rfl
  refine sC_Splicer_layTerm hB (by omega) (fun z1 M2 h3 => ?_)
  obtain ⟨hB4, f5, p6, p7, -⟩ := h3
  have hF8 : ∀ j9 : Nat, ¬ (1 ≤ j9 ∧ j9 ≤ 29) → M2 j9 = M j9 := fun j9 h9 => ((f5 j9 (by omega)).trans (hF0 j9 h9))
  refine ⟨fun c9 => ?_, fun c9 => ?_⟩
  · skip
    exact hQ _ _ ⟨hB4, hF8, (by omega), (by omega), trivial⟩
  · skip
    have q10 : (-1) ≤ (M2 1 2) ∧ (M2 1 2) ≤ 5 := BN.at hB4 (rfl : zcd wC 1 = 1) rfl
    have s11 : sI (M2 1 2) = (M2 1 2) := sIo (by omega) (by omega)
    refine ⟨fun c12 => ?_, fun c12 => ?_⟩
    · skip
      exact hQ _ _ ⟨hB4, hF8, (by omega), (by omega), trivial⟩
    · skip
      intro M14 e15
      have hB16 : BN wC M14 := by rw [e15]; exact BN.up hB4 (rfl : zcd wC 1 = 1) rfl (by omega) (by omega)
      have hF17 : ∀ j9 : Nat, ¬ (1 ≤ j9 ∧ j9 ≤ 29) → M14 j9 = M j9 := fun j9 h9 => by rw [e15]; exact (zup_row _ _ (by omega)).trans (hF8 j9 h9)
      have r18 : M14 1 2 = ((M2 1 2) - 1) := by rw [e15]; exact zup_s _ _ _ _
      have q19 : (-1) ≤ (M14 1 2) ∧ (M14 1 2) ≤ 5 := BN.at hB16 (rfl : zcd wC 1 = 1) rfl
      have s20 : sI (M14 1 2) = (M14 1 2) := sIo (by omega) (by omega)
      have o21 : 0 ≤ (sI (M14 1 2)) ∧ (sI (M14 1 2)) < 6 := by omega
      refine ⟨o21, ?_⟩
      obtain ⟨lt22, cd23⟩ : (8 + 4 * (sI (M14 1 2)).toNat) < nC ∧ zcd wC (8 + 4 * (sI (M14 1 2)).toNat) = 6 := (by decide : ∀ k : Nat, k < 6 → (8 + 4 * k) < nC ∧ zcd wC (8 + 4 * k) = 6) (sI (M14 1 2)).toNat (by omega)
      obtain ⟨lt24, cd25⟩ := nx_strip (8 + 4 * (sI (M14 1 2)).toNat) lt22 cd23
      have s27 : sI ((M14 1 2) + 1) = ((M14 1 2) + 1) := sIo (by omega) (by omega)
      have o28 : 0 ≤ (sI ((M14 1 2) + 1)) ∧ (sI ((M14 1 2) + 1)) < 6 := by omega
      refine ⟨o28, ?_⟩
      obtain ⟨lt29, cd30⟩ : (6 + 4 * (sI ((M14 1 2) + 1)).toNat) < nC ∧ zcd wC (6 + 4 * (sI ((M14 1 2) + 1)).toNat) = 6 := (by decide : ∀ k : Nat, k < 6 → (6 + 4 * k) < nC ∧ zcd wC (6 + 4 * k) = 6) (sI ((M14 1 2) + 1)).toNat (by omega)
      obtain ⟨lt31, cd32⟩ := nx_strip (6 + 4 * (sI ((M14 1 2) + 1)).toNat) lt29 cd30
      refine sC_Strip_copy hB16 lt22 cd23 lt29 cd30 (by omega) (fun  M33 h34 => ?_)
      obtain ⟨hB35, f36, -⟩ := h34
      have hF37 : ∀ j9 : Nat, ¬ (1 ≤ j9 ∧ j9 ≤ 29) → M33 j9 = M j9 := fun j9 h9 => ((f36 j9 (by omega)).trans (hF17 j9 h9))
      have r38 : M33 1 2 = M14 1 2 := congrFun (f36 1 (by omega)) 2
      exact hQ _ _ ⟨hB35, hF37, (by omega), (by omega), trivial⟩
set_option maxHeartbeats 4000000 in
set_option maxRecDepth 100000 in
theorem sC_Splicer_readSign {M : zM} {a0 : Int} (hB : BN wC M) (v0 : 0 ≤ a0 ∧ a0 ≤ 255) (p0 : 0 ≤ M 1 2) {Q : Int → zM → Prop} (hQ : ∀ (z : Int) (M1 : zM), BN wC M1 ∧ (∀ j9 : Nat, ¬ (1 ≤ j9 ∧ j9 ≤ 29) → M1 j9 = M j9) ∧ ((-101) ≤ z ∧ z ≤ 0) ∧ (0 ≤ M1 1 2) ∧ True → Q z M1) : wC_Splicer_readSign a0 M Q := by
  unfold wC_Splicer_readSign
  have hF0 : ∀ j9 : Nat, ¬ (1 ≤ j9 ∧ j9 ≤ 29) → M j9 = M j9 := fun j9 _ => rfl
  have s1 : sI a0 = a0 := sIo (by omega) (by omega)
  refine ⟨fun c2 => ?_, fun c2 => ?_⟩
  · skip
    refine sC_Splicer_open hB (by omega) (fun z3 M4 h5 => ?_)
    obtain ⟨hB6, f7, p8, p9, -⟩ := h5
    have hF10 : ∀ j9 : Nat, ¬ (1 ≤ j9 ∧ j9 ≤ 29) → M4 j9 = M j9 := fun j9 h9 => ((f7 j9 (by omega)).trans (hF0 j9 h9))
    exact hQ _ _ ⟨hB6, hF10, (by omega), (by omega), trivial⟩
  refine ⟨fun c11 => ?_, fun c11 => ?_⟩
  · skip
    refine sC_Splicer_close hB (by omega) (fun z12 M13 h14 => ?_)
    obtain ⟨hB15, f16, p17, p18, -⟩ := h14
    have hF19 : ∀ j9 : Nat, ¬ (1 ≤ j9 ∧ j9 ≤ 29) → M13 j9 = M j9 := fun j9 h9 => ((f16 j9 (by omega)).trans (hF0 j9 h9))
    exact hQ _ _ ⟨hB15, hF19, (by omega), (by omega), trivial⟩
  refine ⟨fun c20 => ?_, fun c20 => ?_⟩
  · skip
    intro M21 e22
    have hB23 : BN wC M21 := by rw [e22]; exact BN.up hB (rfl : zcd wC 1 = 1) rfl (by omega) (by omega)
    have hF24 : ∀ j9 : Nat, ¬ (1 ≤ j9 ∧ j9 ≤ 29) → M21 j9 = M j9 := fun j9 h9 => by rw [e22]; exact (zup_row _ _ (by omega)).trans (hF0 j9 h9)
    have r25 : M21 1 2 = M 1 2 := by rw [e22]; exact zup_n _ _ (by omega)
    exact hQ _ _ ⟨hB23, hF24, (by omega), (by omega), trivial⟩
  refine ⟨fun c26 => ?_, fun c26 => ?_⟩
  · skip
    intro M27 e28
    have hB29 : BN wC M27 := by rw [e28]; exact BN.up hB (rfl : zcd wC 1 = 1) rfl (by omega) (by omega)
    have hF30 : ∀ j9 : Nat, ¬ (1 ≤ j9 ∧ j9 ≤ 29) → M27 j9 = M j9 := fun j9 h9 => by rw [e28]; exact (zup_row _ _ (by omega)).trans (hF0 j9 h9)
    have r31 : M27 1 2 = M 1 2 := by rw [e28]; exact zup_n _ _ (by omega)
    refine sC_Splicer_layTerm hB29 (by omega) (fun z32 M33 h34 => ?_)
    obtain ⟨hB35, f36, p37, p38, -⟩ := h34
    have hF39 : ∀ j9 : Nat, ¬ (1 ≤ j9 ∧ j9 ≤ 29) → M33 j9 = M j9 := fun j9 h9 => ((f36 j9 (by omega)).trans (hF30 j9 h9))
    exact hQ _ _ ⟨hB35, hF39, (by omega), (by omega), trivial⟩
  refine ⟨fun c40 => ?_, fun c40 => ?_⟩
  · skip
    intro M41 e42
    have hB43 : BN wC M41 := by rw [e42]; exact BN.up hB (rfl : zcd wC 1 = 1) rfl (by omega) (by omega)
    have hF44 : ∀ j9 : Nat, ¬ (1 ≤ j9 ∧ j9 ≤ 29) → M41 j9 = M j9 := fun j9 h9 => by rw [e42]; exact (zup_row _ _ (by omega)).trans (hF0 j9 h9)
    have r45 : M41 1 2 = M 1 2 := by rw [e42]; exact zup_n _ _ (by omega)
    refine sC_Splicer_beginTerm hB43 (by omega) (by omega) (fun z46 M47 h48 => ?_)
    obtain ⟨hB49, f50, p51, p52, -⟩ := h48
    have hF53 : ∀ j9 : Nat, ¬ (1 ≤ j9 ∧ j9 ≤ 29) → M47 j9 = M j9 := fun j9 h9 => ((f50 j9 (by omega)).trans (hF44 j9 h9))
    exact hQ _ _ ⟨hB49, hF53, (by omega), (by omega), trivial⟩
  refine ⟨fun c54 => ?_, fun c54 => ?_⟩
  · skip
    intro M55 e56
    have hB57 : BN wC M55 := by rw [e56]; exact BN.up hB (rfl : zcd wC 1 = 1) rfl (by omega) (by omega)
    have hF58 : ∀ j9 : Nat, ¬ (1 ≤ j9 ∧ j9 ≤ 29) → M55 j9 = M j9 := fun j9 h9 => by rw [e56]; exact (zup_row _ _ (by omega)).trans (hF0 j9 h9)
    have r59 : M55 1 2 = M 1 2 := by rw [e56]; exact zup_n _ _ (by omega)
    exact hQ _ _ ⟨hB57, hF58, (by omega), (by omega), trivial⟩
  refine ⟨fun c60 => ?_, fun c60 => ?_⟩
  · skip
    have q61 : (-1) ≤ (M 1 2) ∧ (M 1 2) ≤ 5 := BN.at hB (rfl : zcd wC 1 = 1) rfl
    have s62 : sI (M 1 2) = (M 1 2) := sIo (by omega) (by omega)
    have o63 : 0 ≤ (sI (M 1 2)) ∧ (sI (M 1 2)) < 6 := by omega
    refine ⟨o63, ?_⟩
    obtain ⟨lt64, cd65⟩ : (8 + 4 * (sI (M 1 2)).toNat) < nC ∧ zcd wC (8 + 4 * (sI (M 1 2)).toNat) = 6 := (by decide : ∀ k : Nat, k < 6 → (8 + 4 * k) < nC ∧ zcd wC (8 + 4 * k) = 6) (sI (M 1 2)).toNat (by omega)
    obtain ⟨lt66, cd67⟩ := nx_strip (8 + 4 * (sI (M 1 2)).toNat) lt64 cd65
    refine sC_Strip_turn hB lt64 cd65 (fun  M68 h69 => ?_)
    obtain ⟨hB70, f71, -⟩ := h69
    have hF72 : ∀ j9 : Nat, ¬ (1 ≤ j9 ∧ j9 ≤ 29) → M68 j9 = M j9 := fun j9 h9 => ((f71 j9 (by omega)).trans (hF0 j9 h9))
    have r73 : M68 1 2 = M 1 2 := congrFun (f71 1 (by omega)) 2
    exact hQ _ _ ⟨hB70, hF72, (by omega), (by omega), trivial⟩
  exact hQ _ _ ⟨hB, hF0, (by omega), (by omega), trivial⟩
set_option maxHeartbeats 4000000 in
set_option maxRecDepth 100000 in
theorem sC_Splicer_putTogether {M : zM}  (hB : BN wC M)  {Q : Int → zM → Prop} (hQ : ∀ (z : Int) (M1 : zM), BN wC M1 ∧ (∀ j9 : Nat, ¬ (1 ≤ j9 ∧ j9 ≤ 29) → M1 j9 = M j9) ∧ ((-101) ≤ z ∧ z ≤ 0) ∧ True → Q z M1) : wC_Splicer_putTogether  M Q := by
  unfold wC_Splicer_putTogether
  have hF0 : ∀ j9 : Nat, ¬ (1 ≤ j9 ∧ j9 ≤ 29) → M j9 = M j9 := fun j9 _ => rfl
  intro M1 e2
  have hB3 : BN wC M1 := by rw [e2]; exact BN.up hB (rfl : zcd wC 1 = 1) rfl (by omega) (by omega)
  have hF4 : ∀ j9 : Nat, ¬ (1 ≤ j9 ∧ j9 ≤ 29) → M1 j9 = M j9 := fun j9 h9 => by rw [e2]; exact (zup_row _ _ (by omega)).trans (hF0 j9 h9)
  have r5 : M1 1 2 = 0 := by rw [e2]; exact zup_s _ _ _ _
  intro M6 e7
  have hB8 : BN wC M6 := by rw [e7]; exact BN.up hB3 (rfl : zcd wC 1 = 1) rfl (by omega) (by omega)
  have hF9 : ∀ j9 : Nat, ¬ (1 ≤ j9 ∧ j9 ≤ 29) → M6 j9 = M j9 := fun j9 h9 => by rw [e7]; exact (zup_row _ _ (by omega)).trans (hF4 j9 h9)
  have r10 : M6 1 2 = M1 1 2 := by rw [e7]; exact zup_n _ _ (by omega)
  refine sC_Splicer_openRow hB8 (by omega) (fun  M11 h12 => ?_)
  obtain ⟨hB13, f14, p15, -⟩ := h12
  have hF16 : ∀ j9 : Nat, ¬ (1 ≤ j9 ∧ j9 ≤ 29) → M11 j9 = M j9 := fun j9 h9 => ((f14 j9 (by omega)).trans (hF9 j9 h9))
  refine wL2_of (fun x17 x18 M19 => BN wC M19 ∧ (∀ j9 : Nat, ¬ (1 ≤ j9 ∧ j9 ≤ 29) → M19 j9 = M j9) ∧ ((-101) ≤ x17 ∧ x17 ≤ 0) ∧ (0 ≤ x18 ∧ x18 ≤ 1000000) ∧ (0 ≤ M19 1 2) ∧ True) (fun x17 x18 M19 => (1000000 - x18).toNat) ⟨hB13, hF16, (by omega), (by omega), (by omega), trivial⟩ (fun K x17 x18 M19 h25 k26 => ?_)
  obtain ⟨hB20, hF21, i22, i23, i24, -⟩ := h25
  have q27 : 0 ≤ (M19 1 1) ∧ (M19 1 1) ≤ 100 := BN.at hB20 (rfl : zcd wC 1 = 1) rfl
  have s28 : sI x18 = x18 := sIo (by omega) (by omega)
  have s29 : sI (M19 1 1) = (M19 1 1) := sIo (by omega) (by omega)
  refine ⟨fun c30 => ?_, fun c30 => ?_⟩
  · skip
    have s31 : sI x17 = x17 := sIo (by omega) (by omega)
    refine ⟨fun c32 => ?_, fun c32 => ?_⟩
    · skip
      exact hQ _ _ ⟨hB20, hF21, (by omega), trivial⟩
    · skip
      refine sC_Splicer_layTerm hB20 (by omega) (fun z33 M34 h35 => ?_)
      obtain ⟨hB36, f37, p38, p39, -⟩ := h35
      have hF40 : ∀ j9 : Nat, ¬ (1 ≤ j9 ∧ j9 ≤ 29) → M34 j9 = M j9 := fun j9 h9 => ((f37 j9 (by omega)).trans (hF21 j9 h9))
      exact hQ _ _ ⟨hB36, hF40, (by omega), trivial⟩
  · skip
    have s41 : sI x17 = x17 := sIo (by omega) (by omega)
    refine ⟨fun c42 => ?_, fun c42 => ?_⟩
    · skip
      refine ⟨fun c43 => ?_, fun c43 => ?_⟩
      · skip
        exact hQ _ _ ⟨hB20, hF21, (by omega), trivial⟩
      · skip
        refine sC_Splicer_layTerm hB20 (by omega) (fun z44 M45 h46 => ?_)
        obtain ⟨hB47, f48, p49, p50, -⟩ := h46
        have hF51 : ∀ j9 : Nat, ¬ (1 ≤ j9 ∧ j9 ≤ 29) → M45 j9 = M j9 := fun j9 h9 => ((f48 j9 (by omega)).trans (hF21 j9 h9))
        exact hQ _ _ ⟨hB47, hF51, (by omega), trivial⟩
    · skip
      have o52 : 0 ≤ (sI x18) ∧ (sI x18) < 100 := by omega
      refine ⟨o52, ?_⟩
      have q53 : 0 ≤ (M19 2 (sI x18).toNat) ∧ (M19 2 (sI x18).toNat) ≤ 255 := BN.at hB20 (rfl : zcd wC 2 = 2) rfl
      refine sC_Splicer_isDigit hB20 (by omega) (by omega) (fun z54  h55 => ?_)
      obtain ⟨p56, p57, -⟩ := h55
      refine ⟨fun c58 => ?_, fun c58 => ?_⟩
      · skip
        have o59 : 0 ≤ (sI x18) ∧ (sI x18) < 100 := by omega
        refine ⟨o59, ?_⟩
        refine sC_Splicer_readSign hB20 (by omega) (by omega) (fun z61 M62 h63 => ?_)
        obtain ⟨hB64, f65, p66, p67, -⟩ := h63
        have hF68 : ∀ j9 : Nat, ¬ (1 ≤ j9 ∧ j9 ≤ 29) → M62 j9 = M j9 := fun j9 h9 => ((f65 j9 (by omega)).trans (hF21 j9 h9))
        exact k26 _ _ _ ⟨hB64, hF68, (by omega), (by omega), (by omega), trivial⟩ (by omega)
      · skip
        have o69 : 0 ≤ (sI x18) ∧ (sI x18) < 100 := by omega
        refine ⟨o69, ?_⟩
        refine sC_Splicer_readDigit hB20 (by omega) (by omega) (fun z71 M72 h73 => ?_)
        obtain ⟨hB74, f75, p76, p77, -⟩ := h73
        have hF78 : ∀ j9 : Nat, ¬ (1 ≤ j9 ∧ j9 ≤ 29) → M72 j9 = M j9 := fun j9 h9 => ((f75 j9 (by omega)).trans (hF21 j9 h9))
        exact k26 _ _ _ ⟨hB74, hF78, (by omega), (by omega), (by omega), trivial⟩ (by omega)
set_option maxHeartbeats 4000000 in
set_option maxRecDepth 100000 in
theorem sC_Splicer_putInto {M : zM} {a0 : Nat} (hB : BN wC M) (lt_a0 : a0 < nC) (cd_a0 : zcd wC a0 = 6) (p0 : a0 = 30) {Q : Int → zM → Prop} (hQ : ∀ (z : Int) (M1 : zM), BN wC M1 ∧ (∀ j9 : Nat, ¬ (1 ≤ j9 ∧ j9 ≤ 31) → M1 j9 = M j9) ∧ ((-2147483648) ≤ z ∧ z ≤ 2147483647) ∧ (M1 1 1 = 0) ∧ True → Q z M1) : wC_Splicer_putInto a0 M Q := by
  unfold wC_Splicer_putInto
  have hF0 : ∀ j9 : Nat, ¬ (1 ≤ j9 ∧ j9 ≤ 31) → M j9 = M j9 := fun j9 _ => rfl
  obtain ⟨lt1, cd2⟩ := nx_strip a0 lt_a0 cd_a0
  refine sC_Splicer_firstWrong hB  (fun z3 M4 h5 => ?_)
  obtain ⟨hB6, f7, p8, -⟩ := h5
  have hF9 : ∀ j9 : Nat, ¬ (1 ≤ j9 ∧ j9 ≤ 31) → M4 j9 = M j9 := fun j9 h9 => ((f7 j9 (by omega)).trans (hF0 j9 h9))
  refine wJ1_dup ?_
  refine ⟨fun c10 => ?_, fun c10 => ?_⟩
  · skip
    have s11 : sI ((-1) - z3) = ((-1) - z3) := sIo (by omega) (by omega)
    intro M12 e13
    have hB14 : BN wC M12 := by rw [e13]; exact BN.up hB6 (rfl : zcd wC 1 = 1) rfl (by omega) (by omega)
    have hF15 : ∀ j9 : Nat, ¬ (1 ≤ j9 ∧ j9 ≤ 31) → M12 j9 = M j9 := fun j9 h9 => by rw [e13]; exact (zup_row _ _ (by omega)).trans (hF9 j9 h9)
    have r16 : M12 1 1 = 0 := by rw [e13]; exact zup_s _ _ _ _
    refine ⟨fun c17 => ?_, fun c17 => ?_⟩
    · skip
      exact hQ _ _ ⟨hB14, hF15, (by omega), (by omega), trivial⟩
    · skip
      refine sC_Strip_copy hB14 lt_a0 cd_a0 (by decide) (rfl : zcd wC 6 = 6) (by omega) (fun  M18 h19 => ?_)
      obtain ⟨hB20, f21, -⟩ := h19
      have hF22 : ∀ j9 : Nat, ¬ (1 ≤ j9 ∧ j9 ≤ 31) → M18 j9 = M j9 := fun j9 h9 => ((f21 j9 (by omega)).trans (hF15 j9 h9))
      have r23 : M18 1 1 = M12 1 1 := congrFun (f21 1 (by omega)) 1
      have q24 : 0 ≤ (M18 a0 1) ∧ (M18 a0 1) ≤ 24 := BN.at hB20 cd_a0 rfl
      have s25 : sI (M18 a0 1) = (M18 a0 1) := sIo (by omega) (by omega)
      exact hQ _ _ ⟨hB20, hF22, (by omega), (by omega), trivial⟩
  · skip
    refine sC_Splicer_putTogether hB6  (fun z26 M27 h28 => ?_)
    obtain ⟨hB29, f30, p31, -⟩ := h28
    have hF32 : ∀ j9 : Nat, ¬ (1 ≤ j9 ∧ j9 ≤ 31) → M27 j9 = M j9 := fun j9 h9 => ((f30 j9 (by omega)).trans (hF9 j9 h9))
    have s33 : sI z26 = z26 := sIo (by omega) (by omega)
    intro M34 e35
    have hB36 : BN wC M34 := by rw [e35]; exact BN.up hB29 (rfl : zcd wC 1 = 1) rfl (by omega) (by omega)
    have hF37 : ∀ j9 : Nat, ¬ (1 ≤ j9 ∧ j9 ≤ 31) → M34 j9 = M j9 := fun j9 h9 => by rw [e35]; exact (zup_row _ _ (by omega)).trans (hF32 j9 h9)
    have r38 : M34 1 1 = 0 := by rw [e35]; exact zup_s _ _ _ _
    refine ⟨fun c39 => ?_, fun c39 => ?_⟩
    · skip
      exact hQ _ _ ⟨hB36, hF37, (by omega), (by omega), trivial⟩
    · skip
      refine sC_Strip_copy hB36 lt_a0 cd_a0 (by decide) (rfl : zcd wC 6 = 6) (by omega) (fun  M40 h41 => ?_)
      obtain ⟨hB42, f43, -⟩ := h41
      have hF44 : ∀ j9 : Nat, ¬ (1 ≤ j9 ∧ j9 ≤ 31) → M40 j9 = M j9 := fun j9 h9 => ((f43 j9 (by omega)).trans (hF37 j9 h9))
      have r45 : M40 1 1 = M34 1 1 := congrFun (f43 1 (by omega)) 1
      have q46 : 0 ≤ (M40 a0 1) ∧ (M40 a0 1) ≤ 24 := BN.at hB42 cd_a0 rfl
      have s47 : sI (M40 a0 1) = (M40 a0 1) := sIo (by omega) (by omega)
      exact hQ _ _ ⟨hB42, hF44, (by omega), (by omega), trivial⟩
