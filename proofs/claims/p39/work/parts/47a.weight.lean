/-! what the two worlds do alike: the weights of sounds -/
def cWe (s v : Int) : Prop := 1 ≤ s ∧ s ≤ 9 ∧ 0 ≤ v ∧ v ≤ 200
theorem fC_weight {M : zM} {a0 a1 : Int} (hB : BN wC M) (v0 : -2147483648 ≤ a0 ∧ a0 ≤ 2147483647) (v1 : -2147483648 ≤ a1 ∧ a1 ≤ 2147483647) {Q : Int → zM → Prop} (hQ : ∀ (z : Int) (M1 : zM), BN wC M1 ∧ (∀ j9 : Nat, ¬ (j9 = 80) → M1 j9 = M j9) ∧ ((cWe a0 a1 ∧ z = M 80 a0.toNat ∧ ∀ k, M1 80 k = if k = a0.toNat then a1 else M 80 k) ∨ (¬ cWe a0 a1 ∧ z = -1 ∧ M1 80 = M 80)) → Q z M1) : wC_weight a0 a1 M Q := by
  have e0 : sI a0 = a0 := sIo v0.1 v0.2
  unfold wC_weight wC_isSound
  refine sC_within hB v0 (by omega) (by omega) (fun z p => ?_)
  obtain ⟨-, p2, -⟩ := p
  refine ⟨fun c => hQ _ _ ⟨hB, fun _ _ => rfl, Or.inr ⟨fun h => by unfold cWe at h; omega, rfl, rfl⟩⟩, fun c => ?_⟩
  refine sC_within hB v1 (by omega) (by omega) (fun z6 p6 => ?_)
  obtain ⟨-, p4, -⟩ := p6
  refine ⟨fun c9 => ?_, fun c9 => hQ _ _ ⟨hB, fun _ _ => rfl, Or.inr ⟨fun h => by unfold cWe at h; omega, rfl, rfl⟩⟩⟩
  unfold wC_Echo_weigh
  rw [e0]
  refine ⟨by omega, by omega, fun M3 e3 => ?_⟩
  have r := BN.r32 hB 80 a0.toNat
  rw [sIo r.1 r.2]
  exact hQ _ _ ⟨by rw [e3]; exact BN.up hB rfl rfl (by omega) (by omega), fun j9 h9 => by rw [e3]; exact zup_row _ _ (by omega), Or.inl ⟨⟨by omega, by omega, by omega, by omega⟩, rfl, fun k => by rw [e3]; simp [zup]⟩⟩
theorem fR_weight {M : zM} {a0 a1 : Int} (hB : BI M) (v0 : -2147483648 ≤ a0 ∧ a0 ≤ 2147483647) (v1 : -2147483648 ≤ a1 ∧ a1 ≤ 2147483647) {Q : Int → zM → Prop} (hQ : ∀ (z : Int) (M1 : zM), BI M1 ∧ (∀ j9 k9 : Nat, ¬ (j9 = 0 ∧ k9 = 35 ∨ j9 = 14) → M1 j9 k9 = M j9 k9) ∧ ((cWe a0 a1 ∧ z = M 14 a0.toNat ∧ ∀ k, M1 14 k = if k = a0.toNat then a1 else M 14 k) ∨ (¬ cWe a0 a1 ∧ z = -1 ∧ M1 14 = M 14)) → Q z M1) : wR_weight a0 a1 M Q := by
  have e0 : sI a0 = a0 := sIo v0.1 v0.2
  unfold wR_weight
  intro M1 e1
  have hB1 : BI M1 := by rw [e1]; exact BI.up0 hB rfl (by omega) (by omega) (by decide)
  have hF1 : ∀ j9 k9 : Nat, ¬ (j9 = 0 ∧ k9 = 35 ∨ j9 = 14) → M1 j9 k9 = M j9 k9 := fun j9 k9 h9 => by rw [e1]; exact zup_n _ _ (by omega)
  have hr1 : M1 14 = M 14 := by rw [e1]; exact zup_row _ _ (by omega)
  refine sR_in hB1 v0 (by omega) (by omega) (fun z p => ?_)
  obtain ⟨-, p2, -⟩ := p
  refine ⟨fun c => hQ _ _ ⟨hB1, hF1, Or.inr ⟨fun h => by unfold cWe at h; omega, rfl, hr1⟩⟩, fun c => ?_⟩
  refine sR_in hB1 v1 (by omega) (by omega) (fun z6 p6 => ?_)
  obtain ⟨-, p4, -⟩ := p6
  refine ⟨fun c9 => ?_, fun c9 => hQ _ _ ⟨hB1, hF1, Or.inr ⟨fun h => by unfold cWe at h; omega, rfl, hr1⟩⟩⟩
  rw [e0]
  refine ⟨by omega, by omega, fun M3 e3 => ?_⟩
  have r := BN.r32 hB1.1 14 a0.toNat
  rw [sIo r.1 r.2]
  exact hQ _ _ ⟨by rw [e3]; exact BI.up hB1 rfl rfl (by omega) (by omega) (by decide), fun j9 k9 h9 => by rw [e3]; exact (zup_n _ _ (by omega)).trans (hF1 j9 k9 h9), Or.inl ⟨⟨by omega, by omega, by omega, by omega⟩, by rw [hr1], fun k => by rw [e3, ← hr1]; simp [zup]⟩⟩
/-- the weights are alike -/
def iWe (A B : Nat → Int) : Prop := ∀ k : Nat, 1 ≤ k → k < 10 → A k = B k
theorem we_step {A B A1 B1 : Nat → Int} {a0 a1 z z9 : Int} (h : iWe A B) (p : (cWe a0 a1 ∧ z = A a0.toNat ∧ ∀ k, A1 k = if k = a0.toNat then a1 else A k) ∨ (¬ cWe a0 a1 ∧ z = -1 ∧ A1 = A)) (q : (cWe a0 a1 ∧ z9 = B a0.toNat ∧ ∀ k, B1 k = if k = a0.toNat then a1 else B k) ∨ (¬ cWe a0 a1 ∧ z9 = -1 ∧ B1 = B)) : z = z9 ∧ iWe A1 B1 := by
  rcases p with ⟨p1, p2, p3⟩ | ⟨p1, p2, p3⟩
  · rcases q with ⟨q1, q2, q3⟩ | ⟨q1, -⟩
    · have b : 1 ≤ a0 ∧ a0 ≤ 9 := ⟨p1.1, p1.2.1⟩
      refine ⟨by rw [p2, q2]; exact h _ (by omega) (by omega), fun k k1 k2 => ?_⟩
      rw [p3, q3]
      by_cases c : k = a0.toNat
      · rw [if_pos c, if_pos c]
      · rw [if_neg c, if_neg c]
        exact h k k1 k2
    · exact absurd p1 q1
  · rcases q with ⟨q1, -⟩ | ⟨q1, q2, q3⟩
    · exact absurd q1 p1
    · rw [p3, q3]
      exact ⟨by omega, h⟩
