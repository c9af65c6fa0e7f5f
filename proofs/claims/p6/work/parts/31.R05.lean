/-! safety, 5 -/
set_option maxHeartbeats 4000000 in
set_option maxRecDepth 100000 in
theorem sR_row {M : zM} {a0 : Int} (hB : BI M) (v0 : (-2147483648) ≤ a0 ∧ a0 ≤ 2147483647) {Q : Int → zM → Prop} (hQ : ∀ (z : Int) (M1 : zM), BI M1 ∧ (∀ j9 k9 : Nat, ¬ (j9 = 0 ∧ k9 = 35) → M1 j9 k9 = M j9 k9) ∧ ((-2147483648) ≤ z ∧ z ≤ 2147483647) ∧ True → Q z M1) : wR_row a0 M Q := by
  unfold wR_row
  have hF0 : ∀ j9 k9 : Nat, ¬ (j9 = 0 ∧ k9 = 35) → M j9 k9 = M j9 k9 := fun j9 k9 _ => rfl
  intro M1 e2
  have hB3 : BI M1 := by rw [e2]; exact BI.up0 hB rfl (by omega) (by omega) (by decide)
  have hF4 : ∀ j9 k9 : Nat, ¬ (j9 = 0 ∧ k9 = 35) → M1 j9 k9 = M j9 k9 := fun j9 k9 h9 => by rw [e2]; exact (zup_n _ _ (by omega)).trans (hF0 j9 k9 h9)
  have q5 : (-1) ≤ (M1 0 34) ∧ (M1 0 34) ≤ 64 := BN.at hB3.1 (rfl : zcd wR 0 = 50) rfl
  refine sR_in hB3 (by omega) (by omega) (by omega) (fun z6  h7 => ?_)
  obtain ⟨p8, p9, -⟩ := h7
  refine ⟨fun c10 => ?_, fun c10 => ?_⟩
  · skip
    have s11 : sI a0 = a0 := sIo (by omega) (by omega)
    have o12 : 0 ≤ (sI a0) ∧ (sI a0) < 64 := by omega
    refine ⟨o12, ?_⟩
    have q13 : (-2147483648) ≤ (M1 22 (sI a0).toNat) ∧ (M1 22 (sI a0).toNat) ≤ 2147483647 := BN.at hB3.1 (rfl : zcd wR 22 = 72) rfl
    have s14 : sI (M1 22 (sI a0).toNat) = (M1 22 (sI a0).toNat) := sIo (by omega) (by omega)
    exact hQ _ _ ⟨hB3, hF4, (by omega), trivial⟩
  · skip
    intro M15 e16
    have hB17 : BI M15 := by rw [e16]; exact BI.up0 hB3 rfl (by omega) (by omega) (by decide)
    have hF18 : ∀ j9 k9 : Nat, ¬ (j9 = 0 ∧ k9 = 35) → M15 j9 k9 = M j9 k9 := fun j9 k9 h9 => by rw [e16]; exact (zup_n _ _ (by omega)).trans (hF4 j9 k9 h9)
    exact hQ _ _ ⟨hB17, hF18, (by omega), trivial⟩
