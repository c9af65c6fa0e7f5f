theorem fC_heard {M : zM} {a0 a1 : Int} (hB : BN wC M) (hu : ∀ r : Nat, (r : Int) < M 32 2 → uok M r) (v0 : -2147483648 ≤ a0 ∧ a0 ≤ 2147483647) (v1 : -9223372036854775808 ≤ a1 ∧ a1 ≤ 9223372036854775807) {Q : Int → Prop} (hQ : ∀ z : Int, ((0 ≤ a1 ∧ a0 = -1 ∧ haC M a1 z) ∨ (0 ≤ a1 ∧ ∃ r : Nat, a0 = (r : Int) ∧ (r : Int) < M 32 2 ∧ hvC M a1 r z) ∨ ((a1 < 0 ∨ (a0 ≠ -1 ∧ ¬ (0 ≤ a0 ∧ a0 < M 32 2))) ∧ z = -1)) → Q z) : wC_heard a0 a1 M Q := by
  unfold wC_heard
  rw [sLo v1.1 v1.2, sIo v0.1 v0.2]
  refine ⟨fun c => ⟨fun d => ?_, fun d => ?_⟩, fun c => hQ _ (Or.inr (Or.inr ⟨Or.inl c, rfl⟩))⟩
  · refine fC_find hB v0 (fun h => ⟨fun _ => hQ _ (Or.inr (Or.inr ⟨Or.inr ⟨d, h⟩, rfl⟩)), fun q h => nomatch h⟩) (fun r hr h1 h2 => ⟨(fun h => nomatch h), fun q hq => ?_⟩)
    obtain rfl := Option.some.inj hq
    obtain ⟨c1, c2, -⟩ := rg_cd r h2
    exact ⟨⟨c1, c2⟩, fC_heardOf hB h2 (hu r h1) ⟨c, v1.2⟩ (fun z hz => hQ _ (Or.inr (Or.inl ⟨c, r, hr, h1, hz⟩)))⟩
  · exact fC_heardInAll hB hu ⟨c, v1.2⟩ (fun z hz => hQ _ (Or.inl ⟨c, d, hz⟩))
theorem fR_heard {M : zM} {a0 a1 : Int} (hB : BI M) (v0 : -2147483648 ≤ a0 ∧ a0 ≤ 2147483647) (v1 : -9223372036854775808 ≤ a1 ∧ a1 ≤ 9223372036854775807) {Q : Int → zM → Prop} (hQ : ∀ (z : Int) (M1 : zM), BI M1 ∧ (∀ j9 k9 : Nat, ¬ (j9 = 0 ∧ k9 = 35) → M1 j9 k9 = M j9 k9) ∧ ((0 ≤ a1 ∧ a0 = -1 ∧ haR M a1 z) ∨ (0 ≤ a1 ∧ ∃ r : Nat, a0 = (r : Int) ∧ (r : Int) < M 0 10 ∧ hvR M a1 r z) ∨ ((a1 < 0 ∨ (a0 ≠ -1 ∧ ¬ (0 ≤ a0 ∧ a0 < M 0 10))) ∧ z = -1)) → Q z M1) : wR_heard a0 a1 M Q := by
  unfold wR_heard
  intro M1 e1
  have hB1 : BI M1 := by rw [e1]; exact BI.up0 hB (rfl : cbt 50 35 = (-2147483648, 2147483647)) (by omega) (by omega) (by decide)
  have F1 : ∀ j9 k9 : Nat, ¬ (j9 = 0 ∧ k9 = 35) → M1 j9 k9 = M j9 k9 := fun j9 k9 h9 => by rw [e1]; exact zup_n _ _ (by omega)
  have r10 : M1 0 10 = M 0 10 := F1 0 10 (by omega)
  have cg : ∀ p q : Nat, 3 ≤ p → p ≤ 11 → M1 p q = M p q := fun p q h1 h2 => F1 p q (by omega)
  rw [sLo v1.1 v1.2, sIo v0.1 v0.2]
  refine pJ0_of (a0 = -1 ∨ (0 ≤ a0 ∧ a0 < M 0 10)) (fun hj => ⟨fun c => ⟨fun d => ?_, fun d => ?_⟩, fun c => hQ _ _ ⟨hB1, F1, Or.inr (Or.inr ⟨Or.inl c, rfl⟩)⟩⟩) ⟨fun c => Or.inl c, fun c => ?_⟩
  · obtain ⟨r, hr⟩ : ∃ r : Nat, a0 = (r : Int) := ⟨a0.toNat, by omega⟩
    rw [hr]
    exact fR_heardOf hB1 (by omega) ⟨c, v1.2⟩ (fun z hz => hQ _ _ ⟨hB1, F1, Or.inr (Or.inl ⟨c, r, hr, by omega, hvR_cg cg hz⟩)⟩)
  · exact fR_heardInAll hB1 ⟨c, v1.2⟩ (fun z hz => hQ _ _ ⟨hB1, F1, Or.inl ⟨c, d, haR_cg cg r10 hz⟩⟩)
  · refine fR_isRing hB1 v0 (fun h => ⟨fun _ => hQ _ _ ⟨hB1, F1, Or.inr (Or.inr ⟨Or.inr ⟨c, by rw [← r10]; exact h⟩, rfl⟩)⟩, fun c => absurd rfl c⟩) (fun r hr h1 h2 => ⟨fun c => absurd c (by decide), fun _ => Or.inr ⟨by omega, by omega⟩⟩)
theorem heard_det {MC MR : zM} {a0 a1 z z9 : Int} (hC : BN wC MC) (hR : iRi MC MR) (hM : iMo (MC 35) (MC 36) (MC 37) (MC 38) (MC 39) (MC 40) (MR 9) (MR 10) (MR 11)) (p : (0 ≤ a1 ∧ a0 = -1 ∧ haC MC a1 z) ∨ (0 ≤ a1 ∧ ∃ r : Nat, a0 = (r : Int) ∧ (r : Int) < MC 32 2 ∧ hvC MC a1 r z) ∨ ((a1 < 0 ∨ (a0 ≠ -1 ∧ ¬ (0 ≤ a0 ∧ a0 < MC 32 2))) ∧ z = -1)) (q : (0 ≤ a1 ∧ a0 = -1 ∧ haR MR a1 z9) ∨ (0 ≤ a1 ∧ ∃ r : Nat, a0 = (r : Int) ∧ (r : Int) < MR 0 10 ∧ hvR MR a1 r z9) ∨ ((a1 < 0 ∨ (a0 ≠ -1 ∧ ¬ (0 ≤ a0 ∧ a0 < MR 0 10))) ∧ z9 = -1)) : z = z9 := by
  have e := hR.1
  rcases p with ⟨p1, p2, p3⟩ | ⟨p1, r, p2, p3, p4⟩ | ⟨p1, p2⟩
  · rcases q with ⟨q1, q2, q3⟩ | ⟨q1, r9, q2, q3, q4⟩ | ⟨q1, q2⟩
    · exact hall_det hC hR hM p3 q3
    · omega
    · omega
  · rcases q with ⟨q1, q2, q3⟩ | ⟨q1, r9, q2, q3, q4⟩ | ⟨q1, q2⟩
    · omega
    · obtain rfl : r = r9 := by omega
      exact hv_det hC hR hM p3 p4 q4
    · omega
  · rcases q with ⟨q1, q2, q3⟩ | ⟨q1, r9, q2, q3, q4⟩ | ⟨q1, q2⟩
    · omega
    · omega
    · omega
