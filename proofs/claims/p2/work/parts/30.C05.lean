/-! safety, 5 -/
set_option maxHeartbeats 4000000 in
set_option maxRecDepth 100000 in
theorem sC_row {M : zM} {a0 : Int} (hB : BN wC M) (v0 : (-2147483648) ≤ a0 ∧ a0 ≤ 2147483647) {Q : Int → Prop} {X : Prop} (hX : X) (hQ : ∀ (z : Int), ((-2147483648) ≤ z ∧ z ≤ 2147483647) ∧ True → Q z) : wC_row a0 M Q X := by
  unfold wC_row
  have s1 : sI a0 = a0 := sIo (by omega) (by omega)
  refine ⟨fun c2 => ?_, fun c2 => ?_⟩
  · skip
    exact hX
  · skip
    have q3 : 0 ≤ (M 0 10) ∧ (M 0 10) ≤ 40 := BN.at hB (rfl : zcd wC 0 = 0) rfl
    have s4 : sI (M 0 10) = (M 0 10) := sIo (by omega) (by omega)
    refine ⟨fun c5 => ?_, fun c5 => ?_⟩
    · skip
      exact hX
    · skip
      refine ⟨fun c6 => ?_, fun c6 => ?_⟩
      · skip
        have o7 : 0 ≤ (sI a0) ∧ (sI a0) < 40 := by omega
        refine ⟨o7, ?_⟩
        have q8 : (-2147483648) ≤ (M 133 (sI a0).toNat) ∧ (M 133 (sI a0).toNat) ≤ 2147483647 := BN.at hB (rfl : zcd wC 133 = 49) rfl
        have s9 : sI (M 133 (sI a0).toNat) = (M 133 (sI a0).toNat) := sIo (by omega) (by omega)
        exact hQ _ ⟨(by omega), trivial⟩
      · skip
        exact hX
