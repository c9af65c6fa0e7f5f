/-! safety, 5 -/
set_option maxHeartbeats 4000000 in
set_option maxRecDepth 100000 in
theorem sC_edits {M : zM} {a0 : Int} {a1 : Int} (hB : BN wC M) (v0 : (-2147483648) ≤ a0 ∧ a0 ≤ 2147483647) (v1 : (-2147483648) ≤ a1 ∧ a1 ≤ 2147483647) {Q : Int → zM → Prop} (hQ : ∀ (z : Int) (M1 : zM), BN wC M1 ∧ (∀ j9 : Nat, ¬ (j9 = 100) → M1 j9 = M j9) ∧ ((-2147483648) ≤ z ∧ z ≤ 2147483647) ∧ True → Q z M1) : wC_edits a0 a1 M Q := by
  unfold wC_edits
  have hF0 : ∀ j9 : Nat, ¬ (j9 = 100) → M j9 = M j9 := fun j9 _ => rfl
  refine sC_Versions_find hB (by omega) (fun h2 => ?_) (fun q1 h2 => ?_)
  · skip
    refine ⟨fun _ => ?_, fun q9 h9 => nomatch h9⟩
    refine sC_Versions_find hB (by omega) (fun h6 => ?_) (fun q5 h6 => ?_)
    · skip
      refine ⟨fun _ => ?_, fun q9 h9 => nomatch h9⟩
      exact hQ _ _ ⟨hB, hF0, (by omega), trivial⟩
    · skip
      refine ⟨(fun h9 => nomatch h9), fun q9 h9 => ?_⟩
      obtain rfl := Option.some.inj h9
      obtain ⟨⟨lt7, cd8⟩, h6⟩ := h6
      refine ⟨⟨lt7, cd8⟩, ?_⟩
      obtain ⟨lt9, cd10⟩ := nx_strip q5 lt7 cd8
      exact hQ _ _ ⟨hB, hF0, (by omega), trivial⟩
  · skip
    refine ⟨(fun h9 => nomatch h9), fun q9 h9 => ?_⟩
    obtain rfl := Option.some.inj h9
    obtain ⟨⟨lt3, cd4⟩, h2⟩ := h2
    refine ⟨⟨lt3, cd4⟩, ?_⟩
    obtain ⟨lt11, cd12⟩ := nx_strip q1 lt3 cd4
    refine sC_Versions_find hB (by omega) (fun h14 => ?_) (fun q13 h14 => ?_)
    · skip
      refine ⟨fun _ => ?_, fun q9 h9 => nomatch h9⟩
      exact hQ _ _ ⟨hB, hF0, (by omega), trivial⟩
    · skip
      refine ⟨(fun h9 => nomatch h9), fun q9 h9 => ?_⟩
      obtain rfl := Option.some.inj h9
      obtain ⟨⟨lt15, cd16⟩, h14⟩ := h14
      refine ⟨⟨lt15, cd16⟩, ?_⟩
      obtain ⟨lt17, cd18⟩ := nx_strip q13 lt15 cd16
      refine sC_Versions_fewestEdits hB lt3 cd4 lt15 cd16 (fun z19 M20 h21 => ?_)
      obtain ⟨hB22, f23, p24, -⟩ := h21
      have hF25 : ∀ j9 : Nat, ¬ (j9 = 100) → M20 j9 = M j9 := fun j9 h9 => ((f23 j9 (by omega)).trans (hF0 j9 h9))
      exact hQ _ _ ⟨hB22, hF25, (by omega), trivial⟩
set_option maxHeartbeats 4000000 in
set_option maxRecDepth 100000 in
theorem sC_row {M : zM} {a0 : Int} (hB : BN wC M) (v0 : (-2147483648) ≤ a0 ∧ a0 ≤ 2147483647) {Q : Int → Prop} {X : Prop} (hX : X) (hQ : ∀ (z : Int), ((-2147483648) ≤ z ∧ z ≤ 2147483647) ∧ True → Q z) : wC_row a0 M Q X := by
  unfold wC_row
  have s1 : sI a0 = a0 := sIo (by omega) (by omega)
  refine ⟨fun c2 => ?_, fun c2 => ?_⟩
  · skip
    exact hX
  · skip
    have q3 : 0 ≤ (M 0 10) ∧ (M 0 10) ≤ 40 := BN.at hB (rfl : zcd wC 0 = 0) rfl
    have s4 : sI (M 0 10) = (M 0 10) := sIo (by omega) (by omega)
    refine ⟨fun c5 => ?_, fun c5 => ?_⟩
    · skip
      exact hX
    · skip
      refine ⟨fun c6 => ?_, fun c6 => ?_⟩
      · skip
        have o7 : 0 ≤ (sI a0) ∧ (sI a0) < 40 := by omega
        refine ⟨o7, ?_⟩
        have q8 : (-2147483648) ≤ (M 133 (sI a0).toNat) ∧ (M 133 (sI a0).toNat) ≤ 2147483647 := BN.at hB (rfl : zcd wC 133 = 49) rfl
        have s9 : sI (M 133 (sI a0).toNat) = (M 133 (sI a0).toNat) := sIo (by omega) (by omega)
        exact hQ _ ⟨(by omega), trivial⟩
      · skip
        exact hX
