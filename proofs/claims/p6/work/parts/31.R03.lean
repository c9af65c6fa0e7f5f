/-! safety of the model, 3 -/
theorem sR_plan {M : zM} (hB : BI M) {Q : Int → zM → Prop} (hQ : ∀ z M1, (BI M1 ∧ (∀ j9 k9 : Nat, ¬ (j9 = 0 ∧ k9 = 35 ∨ j9 = 0 ∧ k9 = 34 ∨ j9 = 22 ∨ j9 = 28 ∨ j9 = 29) → M1 j9 k9 = M j9 k9) ∧ (-1 ≤ z ∧ z ≤ 268435456) ∧ True) → Q z M1) : wR_plan M Q := by
  unfold wR_plan
  intro M1 e1
  have hB1 : BI M1 := by rw [e1]; exact BI.up0 hB (rfl : cbt 50 35 = (-2147483648, 2147483647)) (by omega) (by omega) (by decide)
  refine sR_findPlan hB1 (fun z M3 h => ?_)
  obtain ⟨h1, h2, h3, -⟩ := h
  exact hQ _ _ ⟨h1, fun j9 k9 h9 => (h2 j9 k9 (by omega)).trans (by rw [e1]; exact zup_n _ _ (by omega)), h3, trivial⟩
set_option maxHeartbeats 4000000 in
theorem sR_make {M : zM} (hB : BI M) {Q : Int → zM → Prop} (hQ : ∀ z M1, (BI M1 ∧ (∀ j9 k9 : Nat, ¬ (j9 = 0 ∧ k9 = 35 ∨ j9 = 0 ∧ k9 = 34 ∨ j9 = 4 ∨ j9 = 6 ∨ j9 = 22 ∨ j9 = 28 ∨ j9 = 29) → M1 j9 k9 = M j9 k9) ∧ (-1 ≤ z ∧ z ≤ 268435456) ∧ True) → Q z M1) : wR_make M Q := by
  unfold wR_make
  intro M1 e1
  have hB1 : BI M1 := by rw [e1]; exact BI.up0 hB (rfl : cbt 50 35 = (-2147483648, 2147483647)) (by omega) (by omega) (by decide)
  have F1 : ∀ j9 k9 : Nat, ¬ (j9 = 0 ∧ k9 = 35) → M1 j9 k9 = M j9 k9 := fun j9 k9 h9 => by rw [e1]; exact zup_n _ _ (by omega)
  refine sR_findPlan hB1 (fun z M3 h => ?_)
  obtain ⟨hB3, F3, bz, hP, -⟩ := h
  have b10 : 0 ≤ M1 0 10 ∧ M1 0 10 ≤ 4 := BN.at hB1.1 (rfl : zcd wR 0 = 50) rfl
  have s10 : sI (M1 0 10) = M1 0 10 := sIo (by omega) (by omega)
  refine wL1_of (fun x N => BI N ∧ (∀ j9 k9 : Nat, ¬ (j9 = 4 ∧ (k9 : Int) < x ∨ j9 = 6) → N j9 k9 = M3 j9 k9) ∧ (0 ≤ x ∧ x ≤ 4)) (fun x _ => (1000 - x).toNat) ⟨hB3, fun _ _ _ => rfl, by omega⟩ (fun K x N hI hK => ?_)
  obtain ⟨hBN, FN, ix⟩ := hI
  have sx : sI x = x := sIo (by omega) (by omega)
  have n10 : N 0 10 = M1 0 10 := (FN 0 10 (by omega)).trans (F3 0 10 (by omega))
  have G : ∀ j9 k9 : Nat, ¬ (j9 = 0 ∧ k9 = 35 ∨ j9 = 0 ∧ k9 = 34 ∨ j9 = 4 ∨ j9 = 6 ∨ j9 = 22 ∨ j9 = 28 ∨ j9 = 29) → N j9 k9 = M j9 k9 := fun j9 k9 h9 => (FN j9 k9 (by omega)).trans ((F3 j9 k9 (by omega)).trans (F1 j9 k9 (by omega)))
  rw [sx, n10, s10]
  refine ⟨fun c => hQ _ _ ⟨hBN, G, bz, trivial⟩, fun c => ⟨fun c2 => hQ _ _ ⟨hBN, G, bz, trivial⟩, fun c2 => ?_⟩⟩
  have s2 : sI (2 * x) = 2 * x := sIo (by omega) (by omega)
  have s3 : sI (2 * x + 1) = 2 * x + 1 := sIo (by omega) (by omega)
  obtain ⟨i, ei⟩ : ∃ i : Nat, i = x.toNat := ⟨_, rfl⟩
  have pv : PVR M1 M3 := by
    rcases hP with h | h
    · exact absurd h.1 c2
    · exact h.2.2
  have p := pv i (by omega) (by omega)
  have n4 : N 4 i = M1 4 i := (FN 4 i (by omega)).trans (F3 4 i (by omega))
  have n22 : N 22 = M3 22 := rowF FN 22 (by omega)
  have bl : 0 ≤ M1 4 i ∧ M1 4 i ≤ 24 := BN.at hB1.1 (rfl : zcd wR 4 = 54) rfl
  have e2 : (2 * x).toNat = 2 * i := by omega
  have e3 : (2 * x + 1).toNat = 2 * i + 1 := by omega
  rw [s2, s3, ← ei, e2, e3, n4, n22]
  refine ⟨by omega, by omega, by omega, ?_⟩
  intro M20 e20
  have hB20 : BI M20 := by rw [e20]; exact BI.up4 hBN (by omega) (by omega)
  have r20 : M20 22 = M3 22 := by rw [e20, zup_row _ _ (by omega)]; exact n22
  rw [r20]
  refine ⟨by omega, by omega, ?_⟩
  intro M24 e24
  exact hK _ _ ⟨by rw [e24]; exact BI.up hB20 (rfl : zcd wR 6 = 56) rfl (by omega) (by omega) (by decide), fun j9 k9 h9 => by rw [e24, e20]; exact (zup_n _ _ (by omega)).trans ((zup_n _ _ (by omega)).trans (FN j9 k9 (by omega))), by omega⟩ (by omega)
set_option maxHeartbeats 4000000 in
set_option maxRecDepth 100000 in
theorem sR_cut {M : zM} {a0 : Int} {a1 : Int} (hB : BI M) (v0 : (-2147483648) ≤ a0 ∧ a0 ≤ 2147483647) (v1 : (-2147483648) ≤ a1 ∧ a1 ≤ 2147483647) {Q : Int → zM → Prop} (hQ : ∀ (z : Int) (M1 : zM), BI M1 ∧ (∀ j9 k9 : Nat, ¬ (j9 = 0 ∧ k9 = 35 ∨ j9 = 4 ∨ j9 = 6) → M1 j9 k9 = M j9 k9) ∧ ((-2147483648) ≤ z ∧ z ≤ 2147483647) ∧ True → Q z M1) : wR_cut a0 a1 M Q := by
  unfold wR_cut
  have hF0 : ∀ j9 k9 : Nat, ¬ (j9 = 0 ∧ k9 = 35 ∨ j9 = 4 ∨ j9 = 6) → M j9 k9 = M j9 k9 := fun j9 k9 _ => rfl
  intro M1 e2
  have hB3 : BI M1 := by rw [e2]; exact BI.up0 hB rfl (by omega) (by omega) (by decide)
  have hF4 : ∀ j9 k9 : Nat, ¬ (j9 = 0 ∧ k9 = 35 ∨ j9 = 4 ∨ j9 = 6) → M1 j9 k9 = M j9 k9 := fun j9 k9 h9 => by rw [e2]; exact (zup_n _ _ (by omega)).trans (hF0 j9 k9 h9)
  have r5 : M1 4 (sI a0).toNat = M 4 (sI a0).toNat := by rw [e2]; exact zup_n _ _ (by omega)
  refine sR_isRing hB3 (by omega) (fun z6  h7 => ?_)
  obtain ⟨p8, p9, -⟩ := h7
  refine ⟨fun c10 => ?_, fun c10 => ?_⟩
  · skip
    exact hQ _ _ ⟨hB3, hF4, (by omega), trivial⟩
  · skip
    have s11 : sI a0 = a0 := sIo (by omega) (by omega)
    have o12 : 0 ≤ (sI a0) ∧ (sI a0) < 4 := by omega
    refine ⟨o12, ?_⟩
    have q13 : 0 ≤ (M1 4 (sI a0).toNat) ∧ (M1 4 (sI a0).toNat) ≤ 24 := BN.at hB3.1 (rfl : zcd wR 4 = 54) rfl
    have q14 : (((sI a0).toNat : Nat) : Int) < M1 0 10 → 1 ≤ (M1 4 (sI a0).toNat) := hB3.2 _ (by omega)
    have q15 : 0 ≤ M1 0 10 ∧ M1 0 10 ≤ 4 := BN.at hB3.1 (rfl : zcd wR 0 = 50) rfl
    refine sR_in hB3 (by omega) (by omega) (by omega) (fun z16  h17 => ?_)
    obtain ⟨p18, p19, -⟩ := h17
    refine ⟨fun c20 => ?_, fun c20 => ?_⟩
    · skip
      have o21 : 0 ≤ (sI a0) ∧ (sI a0) < 4 := by omega
      refine ⟨o21, ?_⟩
      have o25 : 0 ≤ (sI a0) ∧ (sI a0) < 4 := by omega
      refine ⟨o25, ?_⟩
      intro M26 e27
      have hB28 : BI M26 := by rw [e27]; exact BI.up4 hB3 (by omega) (by omega)
      have hF29 : ∀ j9 k9 : Nat, ¬ (j9 = 0 ∧ k9 = 35 ∨ j9 = 4 ∨ j9 = 6) → M26 j9 k9 = M j9 k9 := fun j9 k9 h9 => by rw [e27]; exact (zup_n _ _ (by omega)).trans (hF4 j9 k9 h9)
      have r30 : M26 4 (sI a0).toNat = ((M1 4 (sI a0).toNat) - a1) := by rw [e27]; exact zup_s _ _ _ _
      have o31 : 0 ≤ (sI a0) ∧ (sI a0) < 4 := by omega
      refine ⟨o31, ?_⟩
      have q32 : 0 ≤ (M26 6 (sI a0).toNat) ∧ (M26 6 (sI a0).toNat) ≤ 23 := BN.at hB28.1 (rfl : zcd wR 6 = 56) rfl
      have o33 : 0 ≤ (sI a0) ∧ (sI a0) < 4 := by omega
      refine ⟨o33, ?_⟩
      have q34 : 0 ≤ (M26 4 (sI a0).toNat) ∧ (M26 4 (sI a0).toNat) ≤ 24 := BN.at hB28.1 (rfl : zcd wR 4 = 54) rfl
      have q35 : (((sI a0).toNat : Nat) : Int) < M26 0 10 → 1 ≤ (M26 4 (sI a0).toNat) := hB28.2 _ (by omega)
      have q36 : 0 ≤ M26 0 10 ∧ M26 0 10 ≤ 4 := BN.at hB28.1 (rfl : zcd wR 0 = 50) rfl
      have s37 : sI (M26 6 (sI a0).toNat) = (M26 6 (sI a0).toNat) := sIo (by omega) (by omega)
      have s38 : sI (M26 4 (sI a0).toNat) = (M26 4 (sI a0).toNat) := sIo (by omega) (by omega)
      have o39 : (sI (M26 4 (sI a0).toNat)) ≠ 0 := by omega
      refine ⟨o39, ?_⟩
      have q40 := tmodN (sI (M26 6 (sI a0).toNat)) (sI (M26 4 (sI a0).toNat)) (by omega) (by omega)
      have o41 : 0 ≤ (sI a0) ∧ (sI a0) < 4 := by omega
      refine ⟨o41, ?_⟩
      intro M42 e43
      have hB44 : BI M42 := by rw [e43]; exact BI.up hB28 (rfl : zcd wR 6 = 56) rfl (by omega) (by omega) (by decide)
      have hF45 : ∀ j9 k9 : Nat, ¬ (j9 = 0 ∧ k9 = 35 ∨ j9 = 4 ∨ j9 = 6) → M42 j9 k9 = M j9 k9 := fun j9 k9 h9 => by rw [e43]; exact (zup_n _ _ (by omega)).trans (hF29 j9 k9 h9)
      have r46 : M42 4 (sI a0).toNat = M26 4 (sI a0).toNat := by rw [e43]; exact zup_n _ _ (by omega)
      have o47 : 0 ≤ (sI a0) ∧ (sI a0) < 4 := by omega
      refine ⟨o47, ?_⟩
      have q48 : 0 ≤ (M42 4 (sI a0).toNat) ∧ (M42 4 (sI a0).toNat) ≤ 24 := BN.at hB44.1 (rfl : zcd wR 4 = 54) rfl
      have q49 : (((sI a0).toNat : Nat) : Int) < M42 0 10 → 1 ≤ (M42 4 (sI a0).toNat) := hB44.2 _ (by omega)
      have q50 : 0 ≤ M42 0 10 ∧ M42 0 10 ≤ 4 := BN.at hB44.1 (rfl : zcd wR 0 = 50) rfl
      have s51 : sI (M42 4 (sI a0).toNat) = (M42 4 (sI a0).toNat) := sIo (by omega) (by omega)
      exact hQ _ _ ⟨hB44, hF45, (by omega), trivial⟩
    · skip
      exact hQ _ _ ⟨hB3, hF4, (by omega), trivial⟩
set_option maxHeartbeats 4000000 in
set_option maxRecDepth 100000 in
theorem sR_weight {M : zM} {a0 : Int} {a1 : Int} (hB : BI M) (v0 : (-2147483648) ≤ a0 ∧ a0 ≤ 2147483647) (v1 : (-2147483648) ≤ a1 ∧ a1 ≤ 2147483647) {Q : Int → zM → Prop} (hQ : ∀ (z : Int) (M1 : zM), BI M1 ∧ (∀ j9 k9 : Nat, ¬ (j9 = 0 ∧ k9 = 35 ∨ j9 = 14) → M1 j9 k9 = M j9 k9) ∧ ((-2147483648) ≤ z ∧ z ≤ 2147483647) ∧ True → Q z M1) : wR_weight a0 a1 M Q := by
  unfold wR_weight
  have hF0 : ∀ j9 k9 : Nat, ¬ (j9 = 0 ∧ k9 = 35 ∨ j9 = 14) → M j9 k9 = M j9 k9 := fun j9 k9 _ => rfl
  intro M1 e2
  have hB3 : BI M1 := by rw [e2]; exact BI.up0 hB rfl (by omega) (by omega) (by decide)
  have hF4 : ∀ j9 k9 : Nat, ¬ (j9 = 0 ∧ k9 = 35 ∨ j9 = 14) → M1 j9 k9 = M j9 k9 := fun j9 k9 h9 => by rw [e2]; exact (zup_n _ _ (by omega)).trans (hF0 j9 k9 h9)
  refine sR_in hB3 (by omega) (by omega) (by omega) (fun z5  h6 => ?_)
  obtain ⟨p7, p8, -⟩ := h6
  refine ⟨fun c9 => ?_, fun c9 => ?_⟩
  · skip
    exact hQ _ _ ⟨hB3, hF4, (by omega), trivial⟩
  · skip
    refine sR_in hB3 (by omega) (by omega) (by omega) (fun z10  h11 => ?_)
    obtain ⟨p12, p13, -⟩ := h11
    refine ⟨fun c14 => ?_, fun c14 => ?_⟩
    · skip
      have s15 : sI a0 = a0 := sIo (by omega) (by omega)
      have o16 : 0 ≤ (sI a0) ∧ (sI a0) < 10 := by omega
      refine ⟨o16, ?_⟩
      have q17 : (-2147483648) ≤ (M1 14 (sI a0).toNat) ∧ (M1 14 (sI a0).toNat) ≤ 2147483647 := BN.at hB3.1 (rfl : zcd wR 14 = 64) rfl
      have o18 : 0 ≤ (sI a0) ∧ (sI a0) < 10 := by omega
      refine ⟨o18, ?_⟩
      intro M19 e20
      have hB21 : BI M19 := by rw [e20]; exact BI.up hB3 (rfl : zcd wR 14 = 64) rfl (by omega) (by omega) (by decide)
      have hF22 : ∀ j9 k9 : Nat, ¬ (j9 = 0 ∧ k9 = 35 ∨ j9 = 14) → M19 j9 k9 = M j9 k9 := fun j9 k9 h9 => by rw [e20]; exact (zup_n _ _ (by omega)).trans (hF4 j9 k9 h9)
      have s23 : sI (M1 14 (sI a0).toNat) = (M1 14 (sI a0).toNat) := sIo (by omega) (by omega)
      exact hQ _ _ ⟨hB21, hF22, (by omega), trivial⟩
    · skip
      exact hQ _ _ ⟨hB3, hF4, (by omega), trivial⟩
set_option maxHeartbeats 4000000 in
set_option maxRecDepth 100000 in
theorem sR_heads {M : zM} {a0 : Int} {a1 : Int} {a2 : Int} {a3 : Int} (hB : BI M) (v0 : (-2147483648) ≤ a0 ∧ a0 ≤ 2147483647) (v1 : (-2147483648) ≤ a1 ∧ a1 ≤ 2147483647) (v2 : (-2147483648) ≤ a2 ∧ a2 ≤ 2147483647) (v3 : (-2147483648) ≤ a3 ∧ a3 ≤ 2147483647) {Q : Int → zM → Prop} (hQ : ∀ (z : Int) (M1 : zM), BI M1 ∧ (∀ j9 k9 : Nat, ¬ (j9 = 0 ∧ k9 = 35 ∨ j9 = 0 ∧ k9 = 18 ∨ j9 = 0 ∧ k9 = 19 ∨ j9 = 0 ∧ k9 = 20 ∨ j9 = 0 ∧ k9 = 21) → M1 j9 k9 = M j9 k9) ∧ (0 ≤ z ∧ z ≤ 1) ∧ ((z = 1 ∧ (1 ≤ a0 ∧ a0 ≤ 20) ∧ (0 ≤ a1 ∧ a1 ≤ 100) ∧ (1 ≤ a2 ∧ a2 ≤ 20) ∧ (0 ≤ a3 ∧ a3 ≤ 100)) ∨ (z = 0 ∧ ¬ ((1 ≤ a0 ∧ a0 ≤ 20) ∧ (0 ≤ a1 ∧ a1 ≤ 100) ∧ (1 ≤ a2 ∧ a2 ≤ 20) ∧ (0 ≤ a3 ∧ a3 ≤ 100)))) ∧ True → Q z M1) : wR_heads a0 a1 a2 a3 M Q := by
  unfold wR_heads
  have hF0 : ∀ j9 k9 : Nat, ¬ (j9 = 0 ∧ k9 = 35 ∨ j9 = 0 ∧ k9 = 18 ∨ j9 = 0 ∧ k9 = 19 ∨ j9 = 0 ∧ k9 = 20 ∨ j9 = 0 ∧ k9 = 21) → M j9 k9 = M j9 k9 := fun j9 k9 _ => rfl
  intro M1 e2
  have hB3 : BI M1 := by rw [e2]; exact BI.up0 hB rfl (by omega) (by omega) (by decide)
  have hF4 : ∀ j9 k9 : Nat, ¬ (j9 = 0 ∧ k9 = 35 ∨ j9 = 0 ∧ k9 = 18 ∨ j9 = 0 ∧ k9 = 19 ∨ j9 = 0 ∧ k9 = 20 ∨ j9 = 0 ∧ k9 = 21) → M1 j9 k9 = M j9 k9 := fun j9 k9 h9 => by rw [e2]; exact (zup_n _ _ (by omega)).trans (hF0 j9 k9 h9)
  refine sR_in hB3 (by omega) (by omega) (by omega) (fun z5  h6 => ?_)
  obtain ⟨p7, p8, -⟩ := h6
  refine ⟨fun c9 => ?_, fun c9 => ?_⟩
  · skip
    exact hQ _ _ ⟨hB3, hF4, (by omega), (by omega), trivial⟩
  · skip
    refine sR_in hB3 (by omega) (by omega) (by omega) (fun z10  h11 => ?_)
    obtain ⟨p12, p13, -⟩ := h11
    refine ⟨fun c14 => ?_, fun c14 => ?_⟩
    · skip
      exact hQ _ _ ⟨hB3, hF4, (by omega), (by omega), trivial⟩
    · skip
      refine sR_in hB3 (by omega) (by omega) (by omega) (fun z15  h16 => ?_)
      obtain ⟨p17, p18, -⟩ := h16
      refine ⟨fun c19 => ?_, fun c19 => ?_⟩
      · skip
        exact hQ _ _ ⟨hB3, hF4, (by omega), (by omega), trivial⟩
      · skip
        refine sR_in hB3 (by omega) (by omega) (by omega) (fun z20  h21 => ?_)
        obtain ⟨p22, p23, -⟩ := h21
        refine ⟨fun c24 => ?_, fun c24 => ?_⟩
        · skip
          intro M25 e26
          have hB27 : BI M25 := by rw [e26]; exact BI.up0 hB3 rfl (by omega) (by omega) (by decide)
          have hF28 : ∀ j9 k9 : Nat, ¬ (j9 = 0 ∧ k9 = 35 ∨ j9 = 0 ∧ k9 = 18 ∨ j9 = 0 ∧ k9 = 19 ∨ j9 = 0 ∧ k9 = 20 ∨ j9 = 0 ∧ k9 = 21) → M25 j9 k9 = M j9 k9 := fun j9 k9 h9 => by rw [e26]; exact (zup_n _ _ (by omega)).trans (hF4 j9 k9 h9)
          intro M29 e30
          have hB31 : BI M29 := by rw [e30]; exact BI.up0 hB27 rfl (by omega) (by omega) (by decide)
          have hF32 : ∀ j9 k9 : Nat, ¬ (j9 = 0 ∧ k9 = 35 ∨ j9 = 0 ∧ k9 = 18 ∨ j9 = 0 ∧ k9 = 19 ∨ j9 = 0 ∧ k9 = 20 ∨ j9 = 0 ∧ k9 = 21) → M29 j9 k9 = M j9 k9 := fun j9 k9 h9 => by rw [e30]; exact (zup_n _ _ (by omega)).trans (hF28 j9 k9 h9)
          intro M33 e34
          have hB35 : BI M33 := by rw [e34]; exact BI.up0 hB31 rfl (by omega) (by omega) (by decide)
          have hF36 : ∀ j9 k9 : Nat, ¬ (j9 = 0 ∧ k9 = 35 ∨ j9 = 0 ∧ k9 = 18 ∨ j9 = 0 ∧ k9 = 19 ∨ j9 = 0 ∧ k9 = 20 ∨ j9 = 0 ∧ k9 = 21) → M33 j9 k9 = M j9 k9 := fun j9 k9 h9 => by rw [e34]; exact (zup_n _ _ (by omega)).trans (hF32 j9 k9 h9)
          intro M37 e38
          have hB39 : BI M37 := by rw [e38]; exact BI.up0 hB35 rfl (by omega) (by omega) (by decide)
          have hF40 : ∀ j9 k9 : Nat, ¬ (j9 = 0 ∧ k9 = 35 ∨ j9 = 0 ∧ k9 = 18 ∨ j9 = 0 ∧ k9 = 19 ∨ j9 = 0 ∧ k9 = 20 ∨ j9 = 0 ∧ k9 = 21) → M37 j9 k9 = M j9 k9 := fun j9 k9 h9 => by rw [e38]; exact (zup_n _ _ (by omega)).trans (hF36 j9 k9 h9)
          exact hQ _ _ ⟨hB39, hF40, (by omega), (by omega), trivial⟩
        · skip
          exact hQ _ _ ⟨hB3, hF4, (by omega), (by omega), trivial⟩
set_option maxHeartbeats 4000000 in
set_option maxRecDepth 100000 in
theorem sR_stop {M : zM} {a0 : Int} (hB : BI M) (v0 : (-2147483648) ≤ a0 ∧ a0 ≤ 2147483647) {Q : Int → zM → Prop} (hQ : ∀ (z : Int) (M1 : zM), BI M1 ∧ (∀ j9 k9 : Nat, ¬ (j9 = 0 ∧ k9 = 35 ∨ j9 = 0 ∧ k9 = 22) → M1 j9 k9 = M j9 k9) ∧ ((-2147483648) ≤ z ∧ z ≤ 2147483647) ∧ ((0 ≤ a0 ∧ a0 ≤ 2000 ∧ z = M 0 22 ∧ M1 0 22 = a0) ∨ (¬ (0 ≤ a0 ∧ a0 ≤ 2000) ∧ z = -1 ∧ M1 0 22 = M 0 22)) ∧ True → Q z M1) : wR_stop a0 M Q := by
  unfold wR_stop
  have hF0 : ∀ j9 k9 : Nat, ¬ (j9 = 0 ∧ k9 = 35 ∨ j9 = 0 ∧ k9 = 22) → M j9 k9 = M j9 k9 := fun j9 k9 _ => rfl
  intro M1 e2
  have hB3 : BI M1 := by rw [e2]; exact BI.up0 hB rfl (by omega) (by omega) (by decide)
  have hF4 : ∀ j9 k9 : Nat, ¬ (j9 = 0 ∧ k9 = 35 ∨ j9 = 0 ∧ k9 = 22) → M1 j9 k9 = M j9 k9 := fun j9 k9 h9 => by rw [e2]; exact (zup_n _ _ (by omega)).trans (hF0 j9 k9 h9)
  have r5 : M1 0 22 = M 0 22 := by rw [e2]; exact zup_n _ _ (by omega)
  refine sR_in hB3 (by omega) (by omega) (by omega) (fun z6  h7 => ?_)
  obtain ⟨p8, p9, -⟩ := h7
  refine ⟨fun c10 => ?_, fun c10 => ?_⟩
  · skip
    have q11 : 0 ≤ (M1 0 22) ∧ (M1 0 22) ≤ 2000 := BN.at hB3.1 (rfl : zcd wR 0 = 50) rfl
    intro M12 e13
    have hB14 : BI M12 := by rw [e13]; exact BI.up0 hB3 rfl (by omega) (by omega) (by decide)
    have hF15 : ∀ j9 k9 : Nat, ¬ (j9 = 0 ∧ k9 = 35 ∨ j9 = 0 ∧ k9 = 22) → M12 j9 k9 = M j9 k9 := fun j9 k9 h9 => by rw [e13]; exact (zup_n _ _ (by omega)).trans (hF4 j9 k9 h9)
    have r16 : M12 0 22 = a0 := by rw [e13]; exact zup_s _ _ _ _
    have s17 : sI (M1 0 22) = (M1 0 22) := sIo (by omega) (by omega)
    exact hQ _ _ ⟨hB14, hF15, (by omega), (by omega), trivial⟩
  · skip
    exact hQ _ _ ⟨hB3, hF4, (by omega), (by omega), trivial⟩
set_option maxHeartbeats 4000000 in
set_option maxRecDepth 100000 in
theorem sR_findOuts {M : zM} {a0 : Int} (hB : BI M) (v0 : 0 ≤ a0 ∧ a0 ≤ 4000) {Q : zM → Prop} (hQ : ∀ (M1 : zM), BI M1 ∧ (∀ j9 k9 : Nat, ¬ (j9 = 30) → M1 j9 k9 = M j9 k9) ∧ True → Q M1) : wR_findOuts a0 M Q := by
  unfold wR_findOuts
  have hF0 : ∀ j9 k9 : Nat, ¬ (j9 = 30) → M j9 k9 = M j9 k9 := fun j9 k9 _ => rfl
  refine wL1_of (fun x1 M2 => BI M2 ∧ (∀ j9 k9 : Nat, ¬ (j9 = 30) → M2 j9 k9 = M j9 k9) ∧ (0 ≤ x1 ∧ x1 ≤ 1000000) ∧ True) (fun x1 M2 => (1000000 - x1).toNat) ⟨hB, hF0, (by omega), trivial⟩ (fun K x1 M2 h6 k7 => ?_)
  obtain ⟨hB3, hF4, i5, -⟩ := h6
  have s8 : sI x1 = x1 := sIo (by omega) (by omega)
  have s9 : sI a0 = a0 := sIo (by omega) (by omega)
  refine ⟨fun c10 => ?_, fun c10 => ?_⟩
  · skip
    exact hQ _ ⟨hB3, hF4, trivial⟩
  · skip
    have q11 : 0 ≤ (M2 0 22) ∧ (M2 0 22) ≤ 2000 := BN.at hB3.1 (rfl : zcd wR 0 = 50) rfl
    have s12 : sI (M2 0 22) = (M2 0 22) := sIo (by omega) (by omega)
    refine pJ1_dup ?_
    refine ⟨fun c13 => ?_, fun c13 => ?_⟩
    · skip
      have s14 : sI 0 = 0 := sIo (by omega) (by omega)
      have q15 : 0 ≤ (M2 0 18) ∧ (M2 0 18) ≤ 20 := BN.at hB3.1 (rfl : zcd wR 0 = 50) rfl
      have s16 : sI (M2 0 18) = (M2 0 18) := sIo (by omega) (by omega)
      refine pJ1_dup ?_
      refine ⟨fun c17 => ?_, fun c17 => ?_⟩
      · skip
        have q18 : 0 ≤ (M2 0 20) ∧ (M2 0 20) ≤ 20 := BN.at hB3.1 (rfl : zcd wR 0 = 50) rfl
        have s19 : sI (M2 0 20) = (M2 0 20) := sIo (by omega) (by omega)
        refine pJ1_dup ?_
        refine ⟨fun c20 => ?_, fun c20 => ?_⟩
        · skip
          have o21 : 0 ≤ (sI x1) ∧ (sI x1) < 4001 := by omega
          refine ⟨o21, ?_⟩
          intro M22 e23
          have hB24 : BI M22 := by rw [e23]; exact BI.up hB3 (rfl : zcd wR 30 = 80) rfl (by omega) (by omega) (by decide)
          have hF25 : ∀ j9 k9 : Nat, ¬ (j9 = 30) → M22 j9 k9 = M j9 k9 := fun j9 k9 h9 => by rw [e23]; exact (zup_n _ _ (by omega)).trans (hF4 j9 k9 h9)
          exact k7 _ _ ⟨hB24, hF25, (by omega), trivial⟩ (by omega)
        · skip
          have q26 : (-2147483648) ≤ (M2 0 21) ∧ (M2 0 21) ≤ 2147483647 := BN.at hB3.1 (rfl : zcd wR 0 = 50) rfl
          have s28 : sI (x1 - (M2 0 20)) = (x1 - (M2 0 20)) := sIo (by omega) (by omega)
          have o29 : 0 ≤ (sI (x1 - (M2 0 20))) ∧ (sI (x1 - (M2 0 20))) < 4001 := by omega
          refine ⟨o29, ?_⟩
          have q30 : (-2147483648) ≤ (M2 30 (sI (x1 - (M2 0 20))).toNat) ∧ (M2 30 (sI (x1 - (M2 0 20))).toNat) ≤ 2147483647 := BN.at hB3.1 (rfl : zcd wR 30 = 80) rfl
          have s31 := sI_R ((M2 0 21) * (M2 30 (sI (x1 - (M2 0 20))).toNat))
          have s32 := sI_or ((M2 0 21) * (M2 30 (sI (x1 - (M2 0 20))).toNat))
          intro t33 e34
          have s35 := sI_R t33
          have s36 := sI_or t33
          have o37 : 0 ≤ (sI x1) ∧ (sI x1) < 4001 := by omega
          refine ⟨o37, ?_⟩
          intro M38 e39
          have hB40 : BI M38 := by rw [e39]; exact BI.up hB3 (rfl : zcd wR 30 = 80) rfl (by omega) (by omega) (by decide)
          have hF41 : ∀ j9 k9 : Nat, ¬ (j9 = 30) → M38 j9 k9 = M j9 k9 := fun j9 k9 h9 => by rw [e39]; exact (zup_n _ _ (by omega)).trans (hF4 j9 k9 h9)
          exact k7 _ _ ⟨hB40, hF41, (by omega), trivial⟩ (by omega)
      · skip
        have q42 : (-2147483648) ≤ (M2 0 19) ∧ (M2 0 19) ≤ 2147483647 := BN.at hB3.1 (rfl : zcd wR 0 = 50) rfl
        have s44 : sI (x1 - (M2 0 18)) = (x1 - (M2 0 18)) := sIo (by omega) (by omega)
        have o45 : 0 ≤ (sI (x1 - (M2 0 18))) ∧ (sI (x1 - (M2 0 18))) < 4001 := by omega
        refine ⟨o45, ?_⟩
        have q46 : (-2147483648) ≤ (M2 30 (sI (x1 - (M2 0 18))).toNat) ∧ (M2 30 (sI (x1 - (M2 0 18))).toNat) ≤ 2147483647 := BN.at hB3.1 (rfl : zcd wR 30 = 80) rfl
        have s47 := sI_R ((M2 0 19) * (M2 30 (sI (x1 - (M2 0 18))).toNat))
        have s48 := sI_or ((M2 0 19) * (M2 30 (sI (x1 - (M2 0 18))).toNat))
        intro t49 e50
        have q51 : 0 ≤ (M2 0 20) ∧ (M2 0 20) ≤ 20 := BN.at hB3.1 (rfl : zcd wR 0 = 50) rfl
        have s52 : sI (M2 0 20) = (M2 0 20) := sIo (by omega) (by omega)
        refine pJ1_dup ?_
        refine ⟨fun c53 => ?_, fun c53 => ?_⟩
        · skip
          have s54 := sI_R t49
          have s55 := sI_or t49
          have o56 : 0 ≤ (sI x1) ∧ (sI x1) < 4001 := by omega
          refine ⟨o56, ?_⟩
          intro M57 e58
          have hB59 : BI M57 := by rw [e58]; exact BI.up hB3 (rfl : zcd wR 30 = 80) rfl (by omega) (by omega) (by decide)
          have hF60 : ∀ j9 k9 : Nat, ¬ (j9 = 30) → M57 j9 k9 = M j9 k9 := fun j9 k9 h9 => by rw [e58]; exact (zup_n _ _ (by omega)).trans (hF4 j9 k9 h9)
          exact k7 _ _ ⟨hB59, hF60, (by omega), trivial⟩ (by omega)
        · skip
          have q61 : (-2147483648) ≤ (M2 0 21) ∧ (M2 0 21) ≤ 2147483647 := BN.at hB3.1 (rfl : zcd wR 0 = 50) rfl
          have s63 : sI (x1 - (M2 0 20)) = (x1 - (M2 0 20)) := sIo (by omega) (by omega)
          have o64 : 0 ≤ (sI (x1 - (M2 0 20))) ∧ (sI (x1 - (M2 0 20))) < 4001 := by omega
          refine ⟨o64, ?_⟩
          have q65 : (-2147483648) ≤ (M2 30 (sI (x1 - (M2 0 20))).toNat) ∧ (M2 30 (sI (x1 - (M2 0 20))).toNat) ≤ 2147483647 := BN.at hB3.1 (rfl : zcd wR 30 = 80) rfl
          have s66 := sI_R ((M2 0 21) * (M2 30 (sI (x1 - (M2 0 20))).toNat))
          have s67 := sI_or ((M2 0 21) * (M2 30 (sI (x1 - (M2 0 20))).toNat))
          intro t68 e69
          have s70 := sI_R t68
          have s71 := sI_or t68
          have o72 : 0 ≤ (sI x1) ∧ (sI x1) < 4001 := by omega
          refine ⟨o72, ?_⟩
          intro M73 e74
          have hB75 : BI M73 := by rw [e74]; exact BI.up hB3 (rfl : zcd wR 30 = 80) rfl (by omega) (by omega) (by decide)
          have hF76 : ∀ j9 k9 : Nat, ¬ (j9 = 30) → M73 j9 k9 = M j9 k9 := fun j9 k9 h9 => by rw [e74]; exact (zup_n _ _ (by omega)).trans (hF4 j9 k9 h9)
          exact k7 _ _ ⟨hB75, hF76, (by omega), trivial⟩ (by omega)
    · skip
      refine sR_heardInAll hB3  (fun z77  h78 => ?_)
      obtain ⟨p79, -⟩ := h78
      refine pL2_of (fun x80 x81 => (1 ≤ x81 ∧ x81 ≤ 1000000) ∧ True) (fun x80 x81 => (1000000 - x81).toNat) ⟨(by omega), trivial⟩ (fun K x80 x81 h83 k84 => ?_)
      obtain ⟨i82, -⟩ := h83
      have s85 : sI x81 = x81 := sIo (by omega) (by omega)
      refine ⟨fun c86 => ?_, fun c86 => ?_⟩
      · skip
        have q87 : 0 ≤ (M2 0 18) ∧ (M2 0 18) ≤ 20 := BN.at hB3.1 (rfl : zcd wR 0 = 50) rfl
        have s88 : sI x1 = x1 := sIo (by omega) (by omega)
        have s89 : sI (M2 0 18) = (M2 0 18) := sIo (by omega) (by omega)
        refine pJ1_dup ?_
        refine ⟨fun c90 => ?_, fun c90 => ?_⟩
        · skip
          have q91 : 0 ≤ (M2 0 20) ∧ (M2 0 20) ≤ 20 := BN.at hB3.1 (rfl : zcd wR 0 = 50) rfl
          have s92 : sI (M2 0 20) = (M2 0 20) := sIo (by omega) (by omega)
          refine pJ1_dup ?_
          refine ⟨fun c93 => ?_, fun c93 => ?_⟩
          · skip
            have s94 := sI_R x80
            have s95 := sI_or x80
            have o96 : 0 ≤ (sI x1) ∧ (sI x1) < 4001 := by omega
            refine ⟨o96, ?_⟩
            intro M97 e98
            have hB99 : BI M97 := by rw [e98]; exact BI.up hB3 (rfl : zcd wR 30 = 80) rfl (by omega) (by omega) (by decide)
            have hF100 : ∀ j9 k9 : Nat, ¬ (j9 = 30) → M97 j9 k9 = M j9 k9 := fun j9 k9 h9 => by rw [e98]; exact (zup_n _ _ (by omega)).trans (hF4 j9 k9 h9)
            exact k7 _ _ ⟨hB99, hF100, (by omega), trivial⟩ (by omega)
          · skip
            have q101 : (-2147483648) ≤ (M2 0 21) ∧ (M2 0 21) ≤ 2147483647 := BN.at hB3.1 (rfl : zcd wR 0 = 50) rfl
            have s103 : sI (x1 - (M2 0 20)) = (x1 - (M2 0 20)) := sIo (by omega) (by omega)
            have o104 : 0 ≤ (sI (x1 - (M2 0 20))) ∧ (sI (x1 - (M2 0 20))) < 4001 := by omega
            refine ⟨o104, ?_⟩
            have q105 : (-2147483648) ≤ (M2 30 (sI (x1 - (M2 0 20))).toNat) ∧ (M2 30 (sI (x1 - (M2 0 20))).toNat) ≤ 2147483647 := BN.at hB3.1 (rfl : zcd wR 30 = 80) rfl
            have s106 := sI_R ((M2 0 21) * (M2 30 (sI (x1 - (M2 0 20))).toNat))
            have s107 := sI_or ((M2 0 21) * (M2 30 (sI (x1 - (M2 0 20))).toNat))
            intro t108 e109
            have s110 := sI_R t108
            have s111 := sI_or t108
            have o112 : 0 ≤ (sI x1) ∧ (sI x1) < 4001 := by omega
            refine ⟨o112, ?_⟩
            intro M113 e114
            have hB115 : BI M113 := by rw [e114]; exact BI.up hB3 (rfl : zcd wR 30 = 80) rfl (by omega) (by omega) (by decide)
            have hF116 : ∀ j9 k9 : Nat, ¬ (j9 = 30) → M113 j9 k9 = M j9 k9 := fun j9 k9 h9 => by rw [e114]; exact (zup_n _ _ (by omega)).trans (hF4 j9 k9 h9)
            exact k7 _ _ ⟨hB115, hF116, (by omega), trivial⟩ (by omega)
        · skip
          have q117 : (-2147483648) ≤ (M2 0 19) ∧ (M2 0 19) ≤ 2147483647 := BN.at hB3.1 (rfl : zcd wR 0 = 50) rfl
          have s119 : sI (x1 - (M2 0 18)) = (x1 - (M2 0 18)) := sIo (by omega) (by omega)
          have o120 : 0 ≤ (sI (x1 - (M2 0 18))) ∧ (sI (x1 - (M2 0 18))) < 4001 := by omega
          refine ⟨o120, ?_⟩
          have q121 : (-2147483648) ≤ (M2 30 (sI (x1 - (M2 0 18))).toNat) ∧ (M2 30 (sI (x1 - (M2 0 18))).toNat) ≤ 2147483647 := BN.at hB3.1 (rfl : zcd wR 30 = 80) rfl
          have s122 := sI_R ((M2 0 19) * (M2 30 (sI (x1 - (M2 0 18))).toNat))
          have s123 := sI_or ((M2 0 19) * (M2 30 (sI (x1 - (M2 0 18))).toNat))
          intro t124 e125
          have q126 : 0 ≤ (M2 0 20) ∧ (M2 0 20) ≤ 20 := BN.at hB3.1 (rfl : zcd wR 0 = 50) rfl
          have s127 : sI (M2 0 20) = (M2 0 20) := sIo (by omega) (by omega)
          refine pJ1_dup ?_
          refine ⟨fun c128 => ?_, fun c128 => ?_⟩
          · skip
            have s129 := sI_R t124
            have s130 := sI_or t124
            have o131 : 0 ≤ (sI x1) ∧ (sI x1) < 4001 := by omega
            refine ⟨o131, ?_⟩
            intro M132 e133
            have hB134 : BI M132 := by rw [e133]; exact BI.up hB3 (rfl : zcd wR 30 = 80) rfl (by omega) (by omega) (by decide)
            have hF135 : ∀ j9 k9 : Nat, ¬ (j9 = 30) → M132 j9 k9 = M j9 k9 := fun j9 k9 h9 => by rw [e133]; exact (zup_n _ _ (by omega)).trans (hF4 j9 k9 h9)
            exact k7 _ _ ⟨hB134, hF135, (by omega), trivial⟩ (by omega)
          · skip
            have q136 : (-2147483648) ≤ (M2 0 21) ∧ (M2 0 21) ≤ 2147483647 := BN.at hB3.1 (rfl : zcd wR 0 = 50) rfl
            have s138 : sI (x1 - (M2 0 20)) = (x1 - (M2 0 20)) := sIo (by omega) (by omega)
            have o139 : 0 ≤ (sI (x1 - (M2 0 20))) ∧ (sI (x1 - (M2 0 20))) < 4001 := by omega
            refine ⟨o139, ?_⟩
            have q140 : (-2147483648) ≤ (M2 30 (sI (x1 - (M2 0 20))).toNat) ∧ (M2 30 (sI (x1 - (M2 0 20))).toNat) ≤ 2147483647 := BN.at hB3.1 (rfl : zcd wR 30 = 80) rfl
            have s141 := sI_R ((M2 0 21) * (M2 30 (sI (x1 - (M2 0 20))).toNat))
            have s142 := sI_or ((M2 0 21) * (M2 30 (sI (x1 - (M2 0 20))).toNat))
            intro t143 e144
            have s145 := sI_R t143
            have s146 := sI_or t143
            have o147 : 0 ≤ (sI x1) ∧ (sI x1) < 4001 := by omega
            refine ⟨o147, ?_⟩
            intro M148 e149
            have hB150 : BI M148 := by rw [e149]; exact BI.up hB3 (rfl : zcd wR 30 = 80) rfl (by omega) (by omega) (by decide)
            have hF151 : ∀ j9 k9 : Nat, ¬ (j9 = 30) → M148 j9 k9 = M j9 k9 := fun j9 k9 h9 => by rw [e149]; exact (zup_n _ _ (by omega)).trans (hF4 j9 k9 h9)
            exact k7 _ _ ⟨hB150, hF151, (by omega), trivial⟩ (by omega)
      · skip
        have q152 := shrI_R z77 x81
        have q153 := andI_br (shrI z77 x81) (c := 1) (by decide) (by decide)
        refine ⟨fun c154 => ?_, fun c154 => ?_⟩
        · skip
          exact k84 _ _ ⟨(by omega), trivial⟩ (by omega)
        · skip
          have o155 : 0 ≤ (sI x81) ∧ (sI x81) < 10 := by omega
          refine ⟨o155, ?_⟩
          have q156 : (-2147483648) ≤ (M2 14 (sI x81).toNat) ∧ (M2 14 (sI x81).toNat) ≤ 2147483647 := BN.at hB3.1 (rfl : zcd wR 14 = 64) rfl
          exact k84 _ _ ⟨(by omega), trivial⟩ (by omega)
set_option maxHeartbeats 4000000 in
set_option maxRecDepth 100000 in
theorem sR_out {M : zM} {a0 : Int} (hB : BI M) (v0 : (-2147483648) ≤ a0 ∧ a0 ≤ 2147483647) {Q : Int → zM → Prop} (hQ : ∀ (z : Int) (M1 : zM), BI M1 ∧ (∀ j9 k9 : Nat, ¬ (j9 = 0 ∧ k9 = 35 ∨ j9 = 30) → M1 j9 k9 = M j9 k9) ∧ ((-2147483648) ≤ z ∧ z ≤ 2147483647) ∧ True → Q z M1) : wR_out a0 M Q := by
  unfold wR_out
  have hF0 : ∀ j9 k9 : Nat, ¬ (j9 = 0 ∧ k9 = 35 ∨ j9 = 30) → M j9 k9 = M j9 k9 := fun j9 k9 _ => rfl
  intro M1 e2
  have hB3 : BI M1 := by rw [e2]; exact BI.up0 hB rfl (by omega) (by omega) (by decide)
  have hF4 : ∀ j9 k9 : Nat, ¬ (j9 = 0 ∧ k9 = 35 ∨ j9 = 30) → M1 j9 k9 = M j9 k9 := fun j9 k9 h9 => by rw [e2]; exact (zup_n _ _ (by omega)).trans (hF0 j9 k9 h9)
  refine sR_in hB3 (by omega) (by omega) (by omega) (fun z5  h6 => ?_)
  obtain ⟨p7, p8, -⟩ := h6
  refine ⟨fun c9 => ?_, fun c9 => ?_⟩
  · skip
    refine sR_findOuts hB3 (by omega) (fun  M10 h11 => ?_)
    obtain ⟨hB12, f13, -⟩ := h11
    have hF14 : ∀ j9 k9 : Nat, ¬ (j9 = 0 ∧ k9 = 35 ∨ j9 = 30) → M10 j9 k9 = M j9 k9 := fun j9 k9 h9 => ((f13 j9 k9 (by omega)).trans (hF4 j9 k9 h9))
    have s15 : sI a0 = a0 := sIo (by omega) (by omega)
    have o16 : 0 ≤ (sI a0) ∧ (sI a0) < 4001 := by omega
    refine ⟨o16, ?_⟩
    have q17 : (-2147483648) ≤ (M10 30 (sI a0).toNat) ∧ (M10 30 (sI a0).toNat) ≤ 2147483647 := BN.at hB12.1 (rfl : zcd wR 30 = 80) rfl
    have s18 : sI (M10 30 (sI a0).toNat) = (M10 30 (sI a0).toNat) := sIo (by omega) (by omega)
    exact hQ _ _ ⟨hB12, hF14, (by omega), trivial⟩
  · skip
    exact hQ _ _ ⟨hB3, hF4, (by omega), trivial⟩
set_option maxHeartbeats 4000000 in
set_option maxRecDepth 100000 in
theorem sR_areAlike {M : zM} {a0 : Int} {a1 : Int} (hB : BI M) (v0 : 0 ≤ a0 ∧ a0 ≤ 3981) (v1 : 0 ≤ a1 ∧ a1 ≤ 3981) {Q : Int → Prop} (hQ : ∀ (z : Int), (0 ≤ z ∧ z ≤ 1) ∧ True → Q z) : wR_areAlike a0 a1 M Q := by
  unfold wR_areAlike
  refine pL1_of (fun x1 => (0 ≤ x1 ∧ x1 ≤ 1000000) ∧ True) (fun x1 => (1000000 - x1).toNat) ⟨(by omega), trivial⟩ (fun K x1 h3 k4 => ?_)
  obtain ⟨i2, -⟩ := h3
  have s5 : sI x1 = x1 := sIo (by omega) (by omega)
  refine ⟨fun c6 => ?_, fun c6 => ?_⟩
  · skip
    exact hQ _ ⟨(by omega), trivial⟩
  · skip
    have s7 : sI (a0 + x1) = (a0 + x1) := sIo (by omega) (by omega)
    have o8 : 0 ≤ (sI (a0 + x1)) ∧ (sI (a0 + x1)) < 4001 := by omega
    refine ⟨o8, ?_⟩
    have q9 : (-2147483648) ≤ (M 30 (sI (a0 + x1)).toNat) ∧ (M 30 (sI (a0 + x1)).toNat) ≤ 2147483647 := BN.at hB.1 (rfl : zcd wR 30 = 80) rfl
    have s10 : sI (a1 + x1) = (a1 + x1) := sIo (by omega) (by omega)
    have o11 : 0 ≤ (sI (a1 + x1)) ∧ (sI (a1 + x1)) < 4001 := by omega
    refine ⟨o11, ?_⟩
    have q12 : (-2147483648) ≤ (M 30 (sI (a1 + x1)).toNat) ∧ (M 30 (sI (a1 + x1)).toNat) ≤ 2147483647 := BN.at hB.1 (rfl : zcd wR 30 = 80) rfl
    have s13 : sI (M 30 (sI (a0 + x1)).toNat) = (M 30 (sI (a0 + x1)).toNat) := sIo (by omega) (by omega)
    have s14 : sI (M 30 (sI (a1 + x1)).toNat) = (M 30 (sI (a1 + x1)).toNat) := sIo (by omega) (by omega)
    refine ⟨fun c15 => ?_, fun c15 => ?_⟩
    · skip
      exact k4 _ ⟨(by omega), trivial⟩ (by omega)
    · skip
      exact hQ _ ⟨(by omega), trivial⟩
set_option maxHeartbeats 4000000 in
set_option maxRecDepth 100000 in
theorem sR_dies {M : zM}  (hB : BI M)  {Q : Int → zM → Prop} (hQ : ∀ (z : Int) (M1 : zM), BI M1 ∧ (∀ j9 k9 : Nat, ¬ (j9 = 0 ∧ k9 = 35 ∨ j9 = 0 ∧ k9 = 34 ∨ j9 = 22 ∨ j9 = 30) → M1 j9 k9 = M j9 k9) ∧ ((-2147483648) ≤ z ∧ z ≤ 2147483647) ∧ True → Q z M1) : wR_dies  M Q := by
  unfold wR_dies
  have hF0 : ∀ j9 k9 : Nat, ¬ (j9 = 0 ∧ k9 = 35 ∨ j9 = 0 ∧ k9 = 34 ∨ j9 = 22 ∨ j9 = 30) → M j9 k9 = M j9 k9 := fun j9 k9 _ => rfl
  intro M1 e2
  have hB3 : BI M1 := by rw [e2]; exact BI.up0 hB rfl (by omega) (by omega) (by decide)
  have hF4 : ∀ j9 k9 : Nat, ¬ (j9 = 0 ∧ k9 = 35 ∨ j9 = 0 ∧ k9 = 34 ∨ j9 = 22 ∨ j9 = 30) → M1 j9 k9 = M j9 k9 := fun j9 k9 h9 => by rw [e2]; exact (zup_n _ _ (by omega)).trans (hF0 j9 k9 h9)
  have r5 : M1 0 22 = M 0 22 := by rw [e2]; exact zup_n _ _ (by omega)
  refine sR_findOuts hB3 (by omega) (fun  M6 h7 => ?_)
  obtain ⟨hB8, f9, -⟩ := h7
  have hF10 : ∀ j9 k9 : Nat, ¬ (j9 = 0 ∧ k9 = 35 ∨ j9 = 0 ∧ k9 = 34 ∨ j9 = 22 ∨ j9 = 30) → M6 j9 k9 = M j9 k9 := fun j9 k9 h9 => ((f9 j9 k9 (by omega)).trans (hF4 j9 k9 h9))
  have r11 : M6 0 22 = M1 0 22 := f9 0 22 (by omega)
  have q12 : 0 ≤ (M6 0 22) ∧ (M6 0 22) ≤ 2000 := BN.at hB8.1 (rfl : zcd wR 0 = 50) rfl
  refine pL2_of (fun x13 x14 => (0 ≤ x14 ∧ x14 ≤ 1000000) ∧ True) (fun x13 x14 => (1000000 - x14).toNat) ⟨(by omega), trivial⟩ (fun K x13 x14 h16 k17 => ?_)
  obtain ⟨i15, -⟩ := h16
  have s18 : sI x14 = x14 := sIo (by omega) (by omega)
  refine ⟨fun c19 => ?_, fun c19 => ?_⟩
  · skip
    refine pL1_of (fun x20 => ((-1) ≤ x20 ∧ x20 ≤ 3980) ∧ True) (fun x20 => (x20 + 1).toNat) ⟨(by omega), trivial⟩ (fun K x20 h22 k23 => ?_)
    obtain ⟨i21, -⟩ := h22
    have q24 : 0 ≤ (M6 0 22) ∧ (M6 0 22) ≤ 2000 := BN.at hB8.1 (rfl : zcd wR 0 = 50) rfl
    have s25 : sI x20 = x20 := sIo (by omega) (by omega)
    have s26 : sI (M6 0 22) = (M6 0 22) := sIo (by omega) (by omega)
    refine pJ0_dup ?_
    refine ⟨fun c27 => ?_, fun c27 => ?_⟩
    · skip
      refine ⟨fun c29 => ?_, fun c29 => ?_⟩
      · skip
        refine pL1_of (fun x30 => (0 ≤ x30 ∧ x30 ≤ 3980) ∧ (x30 ≤ x20) ∧ True) (fun x30 => (x30 + 1).toNat) ⟨(by omega), (by omega), trivial⟩ (fun K x30 h33 k34 => ?_)
        obtain ⟨i31, i32, -⟩ := h33
        have q35 : 0 ≤ (M6 0 22) ∧ (M6 0 22) ≤ 2000 := BN.at hB8.1 (rfl : zcd wR 0 = 50) rfl
        have s36 : sI x30 = x30 := sIo (by omega) (by omega)
        have s37 : sI (M6 0 22) = (M6 0 22) := sIo (by omega) (by omega)
        refine pJ0_dup ?_
        refine ⟨fun c38 => ?_, fun c38 => ?_⟩
        · skip
          intro M39 e40
          have hB41 : BI M39 := by rw [e40]; exact BI.up hB8 (rfl : zcd wR 22 = 72) rfl (by omega) (by omega) (by decide)
          have hF42 : ∀ j9 k9 : Nat, ¬ (j9 = 0 ∧ k9 = 35 ∨ j9 = 0 ∧ k9 = 34 ∨ j9 = 22 ∨ j9 = 30) → M39 j9 k9 = M j9 k9 := fun j9 k9 h9 => by rw [e40]; exact (zup_n _ _ (by omega)).trans (hF10 j9 k9 h9)
          have r43 : M39 0 22 = M6 0 22 := by rw [e40]; exact zup_n _ _ (by omega)
          intro M44 e45
          have hB46 : BI M44 := by rw [e45]; exact BI.up hB41 (rfl : zcd wR 22 = 72) rfl (by omega) (by omega) (by decide)
          have hF47 : ∀ j9 k9 : Nat, ¬ (j9 = 0 ∧ k9 = 35 ∨ j9 = 0 ∧ k9 = 34 ∨ j9 = 22 ∨ j9 = 30) → M44 j9 k9 = M j9 k9 := fun j9 k9 h9 => by rw [e45]; exact (zup_n _ _ (by omega)).trans (hF42 j9 k9 h9)
          have r48 : M44 0 22 = M39 0 22 := by rw [e45]; exact zup_n _ _ (by omega)
          intro M49 e50
          have hB51 : BI M49 := by rw [e50]; exact BI.up0 hB46 rfl (by omega) (by omega) (by decide)
          have hF52 : ∀ j9 k9 : Nat, ¬ (j9 = 0 ∧ k9 = 35 ∨ j9 = 0 ∧ k9 = 34 ∨ j9 = 22 ∨ j9 = 30) → M49 j9 k9 = M j9 k9 := fun j9 k9 h9 => by rw [e50]; exact (zup_n _ _ (by omega)).trans (hF47 j9 k9 h9)
          have r53 : M49 0 22 = M44 0 22 := by rw [e50]; exact zup_n _ _ (by omega)
          exact hQ _ _ ⟨hB51, hF52, (by omega), trivial⟩
        · skip
          have s54 : sI (x30 - 1) = (x30 - 1) := sIo (by omega) (by omega)
          have o55 : 0 ≤ (sI (x30 - 1)) ∧ (sI (x30 - 1)) < 4001 := by omega
          refine ⟨o55, ?_⟩
          have q56 : (-2147483648) ≤ (M6 30 (sI (x30 - 1)).toNat) ∧ (M6 30 (sI (x30 - 1)).toNat) ≤ 2147483647 := BN.at hB8.1 (rfl : zcd wR 30 = 80) rfl
          have s57 : sI ((x30 - 1) + (3981 - x20)) = ((x30 - 1) + (3981 - x20)) := sIo (by omega) (by omega)
          have o58 : 0 ≤ (sI ((x30 - 1) + (3981 - x20))) ∧ (sI ((x30 - 1) + (3981 - x20))) < 4001 := by omega
          refine ⟨o58, ?_⟩
          have q59 : (-2147483648) ≤ (M6 30 (sI ((x30 - 1) + (3981 - x20))).toNat) ∧ (M6 30 (sI ((x30 - 1) + (3981 - x20))).toNat) ≤ 2147483647 := BN.at hB8.1 (rfl : zcd wR 30 = 80) rfl
          have s60 : sI (M6 30 (sI (x30 - 1)).toNat) = (M6 30 (sI (x30 - 1)).toNat) := sIo (by omega) (by omega)
          have s61 : sI (M6 30 (sI ((x30 - 1) + (3981 - x20))).toNat) = (M6 30 (sI ((x30 - 1) + (3981 - x20))).toNat) := sIo (by omega) (by omega)
          refine ⟨fun c62 => ?_, fun c62 => ?_⟩
          · skip
            intro M63 e64
            have hB65 : BI M63 := by rw [e64]; exact BI.up hB8 (rfl : zcd wR 22 = 72) rfl (by omega) (by omega) (by decide)
            have hF66 : ∀ j9 k9 : Nat, ¬ (j9 = 0 ∧ k9 = 35 ∨ j9 = 0 ∧ k9 = 34 ∨ j9 = 22 ∨ j9 = 30) → M63 j9 k9 = M j9 k9 := fun j9 k9 h9 => by rw [e64]; exact (zup_n _ _ (by omega)).trans (hF10 j9 k9 h9)
            have r67 : M63 0 22 = M6 0 22 := by rw [e64]; exact zup_n _ _ (by omega)
            intro M68 e69
            have hB70 : BI M68 := by rw [e69]; exact BI.up hB65 (rfl : zcd wR 22 = 72) rfl (by omega) (by omega) (by decide)
            have hF71 : ∀ j9 k9 : Nat, ¬ (j9 = 0 ∧ k9 = 35 ∨ j9 = 0 ∧ k9 = 34 ∨ j9 = 22 ∨ j9 = 30) → M68 j9 k9 = M j9 k9 := fun j9 k9 h9 => by rw [e69]; exact (zup_n _ _ (by omega)).trans (hF66 j9 k9 h9)
            have r72 : M68 0 22 = M63 0 22 := by rw [e69]; exact zup_n _ _ (by omega)
            intro M73 e74
            have hB75 : BI M73 := by rw [e74]; exact BI.up0 hB70 rfl (by omega) (by omega) (by decide)
            have hF76 : ∀ j9 k9 : Nat, ¬ (j9 = 0 ∧ k9 = 35 ∨ j9 = 0 ∧ k9 = 34 ∨ j9 = 22 ∨ j9 = 30) → M73 j9 k9 = M j9 k9 := fun j9 k9 h9 => by rw [e74]; exact (zup_n _ _ (by omega)).trans (hF71 j9 k9 h9)
            have r77 : M73 0 22 = M68 0 22 := by rw [e74]; exact zup_n _ _ (by omega)
            exact hQ _ _ ⟨hB75, hF76, (by omega), trivial⟩
          · skip
            exact k34 _ ⟨(by omega), (by omega), trivial⟩ (by omega)
      · skip
        exact hQ _ _ ⟨hB8, hF10, (by omega), trivial⟩
    · skip
      refine sR_areAlike hB8 (by omega) (by omega) (fun z78  h79 => ?_)
      obtain ⟨p80, -⟩ := h79
      refine ⟨fun c81 => ?_, fun c81 => ?_⟩
      · skip
        refine ⟨fun c83 => ?_, fun c83 => ?_⟩
        · skip
          refine pL1_of (fun x84 => (0 ≤ x84 ∧ x84 ≤ 3980) ∧ (x84 ≤ x20) ∧ True) (fun x84 => (x84 + 1).toNat) ⟨(by omega), (by omega), trivial⟩ (fun K x84 h87 k88 => ?_)
          obtain ⟨i85, i86, -⟩ := h87
          have q89 : 0 ≤ (M6 0 22) ∧ (M6 0 22) ≤ 2000 := BN.at hB8.1 (rfl : zcd wR 0 = 50) rfl
          have s90 : sI x84 = x84 := sIo (by omega) (by omega)
          have s91 : sI (M6 0 22) = (M6 0 22) := sIo (by omega) (by omega)
          refine pJ0_dup ?_
          refine ⟨fun c92 => ?_, fun c92 => ?_⟩
          · skip
            intro M93 e94
            have hB95 : BI M93 := by rw [e94]; exact BI.up hB8 (rfl : zcd wR 22 = 72) rfl (by omega) (by omega) (by decide)
            have hF96 : ∀ j9 k9 : Nat, ¬ (j9 = 0 ∧ k9 = 35 ∨ j9 = 0 ∧ k9 = 34 ∨ j9 = 22 ∨ j9 = 30) → M93 j9 k9 = M j9 k9 := fun j9 k9 h9 => by rw [e94]; exact (zup_n _ _ (by omega)).trans (hF10 j9 k9 h9)
            have r97 : M93 0 22 = M6 0 22 := by rw [e94]; exact zup_n _ _ (by omega)
            intro M98 e99
            have hB100 : BI M98 := by rw [e99]; exact BI.up hB95 (rfl : zcd wR 22 = 72) rfl (by omega) (by omega) (by decide)
            have hF101 : ∀ j9 k9 : Nat, ¬ (j9 = 0 ∧ k9 = 35 ∨ j9 = 0 ∧ k9 = 34 ∨ j9 = 22 ∨ j9 = 30) → M98 j9 k9 = M j9 k9 := fun j9 k9 h9 => by rw [e99]; exact (zup_n _ _ (by omega)).trans (hF96 j9 k9 h9)
            have r102 : M98 0 22 = M93 0 22 := by rw [e99]; exact zup_n _ _ (by omega)
            intro M103 e104
            have hB105 : BI M103 := by rw [e104]; exact BI.up0 hB100 rfl (by omega) (by omega) (by decide)
            have hF106 : ∀ j9 k9 : Nat, ¬ (j9 = 0 ∧ k9 = 35 ∨ j9 = 0 ∧ k9 = 34 ∨ j9 = 22 ∨ j9 = 30) → M103 j9 k9 = M j9 k9 := fun j9 k9 h9 => by rw [e104]; exact (zup_n _ _ (by omega)).trans (hF101 j9 k9 h9)
            have r107 : M103 0 22 = M98 0 22 := by rw [e104]; exact zup_n _ _ (by omega)
            exact hQ _ _ ⟨hB105, hF106, (by omega), trivial⟩
          · skip
            have s108 : sI (x84 - 1) = (x84 - 1) := sIo (by omega) (by omega)
            have o109 : 0 ≤ (sI (x84 - 1)) ∧ (sI (x84 - 1)) < 4001 := by omega
            refine ⟨o109, ?_⟩
            have q110 : (-2147483648) ≤ (M6 30 (sI (x84 - 1)).toNat) ∧ (M6 30 (sI (x84 - 1)).toNat) ≤ 2147483647 := BN.at hB8.1 (rfl : zcd wR 30 = 80) rfl
            have s111 : sI ((x84 - 1) + (3981 - x20)) = ((x84 - 1) + (3981 - x20)) := sIo (by omega) (by omega)
            have o112 : 0 ≤ (sI ((x84 - 1) + (3981 - x20))) ∧ (sI ((x84 - 1) + (3981 - x20))) < 4001 := by omega
            refine ⟨o112, ?_⟩
            have q113 : (-2147483648) ≤ (M6 30 (sI ((x84 - 1) + (3981 - x20))).toNat) ∧ (M6 30 (sI ((x84 - 1) + (3981 - x20))).toNat) ≤ 2147483647 := BN.at hB8.1 (rfl : zcd wR 30 = 80) rfl
            have s114 : sI (M6 30 (sI (x84 - 1)).toNat) = (M6 30 (sI (x84 - 1)).toNat) := sIo (by omega) (by omega)
            have s115 : sI (M6 30 (sI ((x84 - 1) + (3981 - x20))).toNat) = (M6 30 (sI ((x84 - 1) + (3981 - x20))).toNat) := sIo (by omega) (by omega)
            refine ⟨fun c116 => ?_, fun c116 => ?_⟩
            · skip
              intro M117 e118
              have hB119 : BI M117 := by rw [e118]; exact BI.up hB8 (rfl : zcd wR 22 = 72) rfl (by omega) (by omega) (by decide)
              have hF120 : ∀ j9 k9 : Nat, ¬ (j9 = 0 ∧ k9 = 35 ∨ j9 = 0 ∧ k9 = 34 ∨ j9 = 22 ∨ j9 = 30) → M117 j9 k9 = M j9 k9 := fun j9 k9 h9 => by rw [e118]; exact (zup_n _ _ (by omega)).trans (hF10 j9 k9 h9)
              have r121 : M117 0 22 = M6 0 22 := by rw [e118]; exact zup_n _ _ (by omega)
              intro M122 e123
              have hB124 : BI M122 := by rw [e123]; exact BI.up hB119 (rfl : zcd wR 22 = 72) rfl (by omega) (by omega) (by decide)
              have hF125 : ∀ j9 k9 : Nat, ¬ (j9 = 0 ∧ k9 = 35 ∨ j9 = 0 ∧ k9 = 34 ∨ j9 = 22 ∨ j9 = 30) → M122 j9 k9 = M j9 k9 := fun j9 k9 h9 => by rw [e123]; exact (zup_n _ _ (by omega)).trans (hF120 j9 k9 h9)
              have r126 : M122 0 22 = M117 0 22 := by rw [e123]; exact zup_n _ _ (by omega)
              intro M127 e128
              have hB129 : BI M127 := by rw [e128]; exact BI.up0 hB124 rfl (by omega) (by omega) (by decide)
              have hF130 : ∀ j9 k9 : Nat, ¬ (j9 = 0 ∧ k9 = 35 ∨ j9 = 0 ∧ k9 = 34 ∨ j9 = 22 ∨ j9 = 30) → M127 j9 k9 = M j9 k9 := fun j9 k9 h9 => by rw [e128]; exact (zup_n _ _ (by omega)).trans (hF125 j9 k9 h9)
              have r131 : M127 0 22 = M122 0 22 := by rw [e128]; exact zup_n _ _ (by omega)
              exact hQ _ _ ⟨hB129, hF130, (by omega), trivial⟩
            · skip
              exact k88 _ ⟨(by omega), (by omega), trivial⟩ (by omega)
        · skip
          exact hQ _ _ ⟨hB8, hF10, (by omega), trivial⟩
      · skip
        exact k23 _ ⟨(by omega), trivial⟩ (by omega)
  · skip
    have o132 : 0 ≤ (sI x14) ∧ (sI x14) < 4001 := by omega
    refine ⟨o132, ?_⟩
    have q133 : (-2147483648) ≤ (M6 30 (sI x14).toNat) ∧ (M6 30 (sI x14).toNat) ≤ 2147483647 := BN.at hB8.1 (rfl : zcd wR 30 = 80) rfl
    have s134 : sI (M6 30 (sI x14).toNat) = (M6 30 (sI x14).toNat) := sIo (by omega) (by omega)
    refine pJ1_dup ?_
    refine ⟨fun c135 => ?_, fun c135 => ?_⟩
    · skip
      have s136 : sI 0 = 0 := sIo (by omega) (by omega)
      refine ⟨fun c137 => ?_, fun c137 => ?_⟩
      · skip
        exact k17 _ _ ⟨(by omega), trivial⟩ (by omega)
      · skip
        have s138 : sI ((x14 - 20) + 1) = ((x14 - 20) + 1) := sIo (by omega) (by omega)
        exact hQ _ _ ⟨hB8, hF10, (by omega), trivial⟩
    · skip
      have s139 := sI_R (x13 + 1)
      have s140 := sI_or (x13 + 1)
      refine ⟨fun c141 => ?_, fun c141 => ?_⟩
      · skip
        exact k17 _ _ ⟨(by omega), trivial⟩ (by omega)
      · skip
        have s142 : sI ((x14 - 20) + 1) = ((x14 - 20) + 1) := sIo (by omega) (by omega)
        exact hQ _ _ ⟨hB8, hF10, (by omega), trivial⟩
set_option maxHeartbeats 4000000 in
set_option maxRecDepth 100000 in
theorem sR_tape {M : zM} {a0 : Int} (hB : BI M) (v0 : (-2147483648) ≤ a0 ∧ a0 ≤ 2147483647) {Q : Int → zM → Prop} (hQ : ∀ (z : Int) (M1 : zM), BI M1 ∧ (∀ j9 k9 : Nat, ¬ (j9 = 0 ∧ k9 = 35 ∨ j9 = 0 ∧ k9 = 24 ∨ j9 = 15) → M1 j9 k9 = M j9 k9) ∧ ((-2147483648) ≤ z ∧ z ≤ 2147483647) ∧ (((a0 = -1 ∨ andI a0 (-1023) = 0) ∧ M 0 24 < 60 ∧ z = M 0 24 + 1 ∧ M1 0 24 = M 0 24 + 1) ∨ (¬ ((a0 = -1 ∨ andI a0 (-1023) = 0) ∧ M 0 24 < 60) ∧ z = -1 ∧ M1 0 24 = M 0 24)) ∧ True → Q z M1) : wR_tape a0 M Q := by
  unfold wR_tape
  have hF0 : ∀ j9 k9 : Nat, ¬ (j9 = 0 ∧ k9 = 35 ∨ j9 = 0 ∧ k9 = 24 ∨ j9 = 15) → M j9 k9 = M j9 k9 := fun j9 k9 _ => rfl
  intro M1 e2
  have hB3 : BI M1 := by rw [e2]; exact BI.up0 hB rfl (by omega) (by omega) (by decide)
  have hF4 : ∀ j9 k9 : Nat, ¬ (j9 = 0 ∧ k9 = 35 ∨ j9 = 0 ∧ k9 = 24 ∨ j9 = 15) → M1 j9 k9 = M j9 k9 := fun j9 k9 h9 => by rw [e2]; exact (zup_n _ _ (by omega)).trans (hF0 j9 k9 h9)
  have r5 : M1 0 24 = M 0 24 := by rw [e2]; exact zup_n _ _ (by omega)
  have s6 : sI a0 = a0 := sIo (by omega) (by omega)
  refine pJ0_dup ?_
  refine ⟨fun c7 => ?_, fun c7 => ?_⟩
  · skip
    have q8 : 0 ≤ (M1 0 24) ∧ (M1 0 24) ≤ 60 := BN.at hB3.1 (rfl : zcd wR 0 = 50) rfl
    have s9 : sI (M1 0 24) = (M1 0 24) := sIo (by omega) (by omega)
    refine ⟨fun c10 => ?_, fun c10 => ?_⟩
    · skip
      have o12 : 0 ≤ (sI (M1 0 24)) ∧ (sI (M1 0 24)) < 60 := by omega
      refine ⟨o12, ?_⟩
      intro M13 e14
      have hB15 : BI M13 := by rw [e14]; exact BI.up hB3 (rfl : zcd wR 15 = 65) rfl (by omega) (by omega) (by decide)
      have hF16 : ∀ j9 k9 : Nat, ¬ (j9 = 0 ∧ k9 = 35 ∨ j9 = 0 ∧ k9 = 24 ∨ j9 = 15) → M13 j9 k9 = M j9 k9 := fun j9 k9 h9 => by rw [e14]; exact (zup_n _ _ (by omega)).trans (hF4 j9 k9 h9)
      have r17 : M13 0 24 = M1 0 24 := by rw [e14]; exact zup_n _ _ (by omega)
      have q18 : 0 ≤ (M13 0 24) ∧ (M13 0 24) ≤ 60 := BN.at hB15.1 (rfl : zcd wR 0 = 50) rfl
      intro M19 e20
      have hB21 : BI M19 := by rw [e20]; exact BI.up0 hB15 rfl (by omega) (by omega) (by decide)
      have hF22 : ∀ j9 k9 : Nat, ¬ (j9 = 0 ∧ k9 = 35 ∨ j9 = 0 ∧ k9 = 24 ∨ j9 = 15) → M19 j9 k9 = M j9 k9 := fun j9 k9 h9 => by rw [e20]; exact (zup_n _ _ (by omega)).trans (hF16 j9 k9 h9)
      have r23 : M19 0 24 = ((M13 0 24) + 1) := by rw [e20]; exact zup_s _ _ _ _
      have q24 : 0 ≤ (M19 0 24) ∧ (M19 0 24) ≤ 60 := BN.at hB21.1 (rfl : zcd wR 0 = 50) rfl
      have s25 : sI (M19 0 24) = (M19 0 24) := sIo (by omega) (by omega)
      exact hQ _ _ ⟨hB21, hF22, (by omega), (by omega), trivial⟩
    · skip
      exact hQ _ _ ⟨hB3, hF4, (by omega), (by omega), trivial⟩
  · skip
    refine sR_areSounds hB3 (by omega) (fun z26  h27 => ?_)
    obtain ⟨p28, p29, -⟩ := h27
    refine ⟨fun c30 => ?_, fun c30 => ?_⟩
    · skip
      exact hQ _ _ ⟨hB3, hF4, (by omega), (by omega), trivial⟩
    · skip
      have q31 : 0 ≤ (M1 0 24) ∧ (M1 0 24) ≤ 60 := BN.at hB3.1 (rfl : zcd wR 0 = 50) rfl
      have s32 : sI (M1 0 24) = (M1 0 24) := sIo (by omega) (by omega)
      refine ⟨fun c33 => ?_, fun c33 => ?_⟩
      · skip
        have o35 : 0 ≤ (sI (M1 0 24)) ∧ (sI (M1 0 24)) < 60 := by omega
        refine ⟨o35, ?_⟩
        intro M36 e37
        have hB38 : BI M36 := by rw [e37]; exact BI.up hB3 (rfl : zcd wR 15 = 65) rfl (by omega) (by omega) (by decide)
        have hF39 : ∀ j9 k9 : Nat, ¬ (j9 = 0 ∧ k9 = 35 ∨ j9 = 0 ∧ k9 = 24 ∨ j9 = 15) → M36 j9 k9 = M j9 k9 := fun j9 k9 h9 => by rw [e37]; exact (zup_n _ _ (by omega)).trans (hF4 j9 k9 h9)
        have r40 : M36 0 24 = M1 0 24 := by rw [e37]; exact zup_n _ _ (by omega)
        have q41 : 0 ≤ (M36 0 24) ∧ (M36 0 24) ≤ 60 := BN.at hB38.1 (rfl : zcd wR 0 = 50) rfl
        intro M42 e43
        have hB44 : BI M42 := by rw [e43]; exact BI.up0 hB38 rfl (by omega) (by omega) (by decide)
        have hF45 : ∀ j9 k9 : Nat, ¬ (j9 = 0 ∧ k9 = 35 ∨ j9 = 0 ∧ k9 = 24 ∨ j9 = 15) → M42 j9 k9 = M j9 k9 := fun j9 k9 h9 => by rw [e43]; exact (zup_n _ _ (by omega)).trans (hF39 j9 k9 h9)
        have r46 : M42 0 24 = ((M36 0 24) + 1) := by rw [e43]; exact zup_s _ _ _ _
        have q47 : 0 ≤ (M42 0 24) ∧ (M42 0 24) ≤ 60 := BN.at hB44.1 (rfl : zcd wR 0 = 50) rfl
        have s48 : sI (M42 0 24) = (M42 0 24) := sIo (by omega) (by omega)
        exact hQ _ _ ⟨hB44, hF45, (by omega), (by omega), trivial⟩
      · skip
        exact hQ _ _ ⟨hB3, hF4, (by omega), (by omega), trivial⟩
set_option maxHeartbeats 4000000 in
set_option maxRecDepth 100000 in
theorem sR_take {M : zM} {a0 : Int} {a1 : Int} (hB : BI M) (v0 : (-2147483648) ≤ a0 ∧ a0 ≤ 2147483647) (v1 : (-2147483648) ≤ a1 ∧ a1 ≤ 2147483647) {Q : Int → zM → Prop} (hQ : ∀ (z : Int) (M1 : zM), BI M1 ∧ (∀ j9 k9 : Nat, ¬ (j9 = 0 ∧ k9 = 35 ∨ j9 = 0 ∧ k9 = 24 ∨ j9 = 15) → M1 j9 k9 = M j9 k9) ∧ (0 ≤ z ∧ z ≤ 1) ∧ ((((0 ≤ a0 ∧ a0 ≤ 100000) ∧ (0 ≤ a1 ∧ a1 ≤ 60)) ∧ z = 1 ∧ M1 0 24 = a1) ∨ (¬ ((0 ≤ a0 ∧ a0 ≤ 100000) ∧ (0 ≤ a1 ∧ a1 ≤ 60)) ∧ z = 0 ∧ M1 0 24 = M 0 24)) ∧ True → Q z M1) : wR_take a0 a1 M Q := by
  unfold wR_take
  have hF0 : ∀ j9 k9 : Nat, ¬ (j9 = 0 ∧ k9 = 35 ∨ j9 = 0 ∧ k9 = 24 ∨ j9 = 15) → M j9 k9 = M j9 k9 := fun j9 k9 _ => rfl
  intro M1 e2
  have hB3 : BI M1 := by rw [e2]; exact BI.up0 hB rfl (by omega) (by omega) (by decide)
  have hF4 : ∀ j9 k9 : Nat, ¬ (j9 = 0 ∧ k9 = 35 ∨ j9 = 0 ∧ k9 = 24 ∨ j9 = 15) → M1 j9 k9 = M j9 k9 := fun j9 k9 h9 => by rw [e2]; exact (zup_n _ _ (by omega)).trans (hF0 j9 k9 h9)
  have r5 : M1 0 24 = M 0 24 := by rw [e2]; exact zup_n _ _ (by omega)
  refine sR_in hB3 (by omega) (by omega) (by omega) (fun z6  h7 => ?_)
  obtain ⟨p8, p9, -⟩ := h7
  refine ⟨fun c10 => ?_, fun c10 => ?_⟩
  · skip
    exact hQ _ _ ⟨hB3, hF4, (by omega), (by omega), trivial⟩
  · skip
    refine sR_in hB3 (by omega) (by omega) (by omega) (fun z11  h12 => ?_)
    obtain ⟨p13, p14, -⟩ := h12
    refine ⟨fun c15 => ?_, fun c15 => ?_⟩
    · skip
      refine wL1_of (fun x16 M17 => BI M17 ∧ (∀ j9 k9 : Nat, ¬ (j9 = 0 ∧ k9 = 35 ∨ j9 = 0 ∧ k9 = 24 ∨ j9 = 15) → M17 j9 k9 = M j9 k9) ∧ (0 ≤ x16 ∧ x16 ≤ 1000000) ∧ True) (fun x16 M17 => (1000000 - x16).toNat) ⟨hB3, hF4, (by omega), trivial⟩ (fun K x16 M17 h21 k22 => ?_)
      obtain ⟨hB18, hF19, i20, -⟩ := h21
      have s23 : sI x16 = x16 := sIo (by omega) (by omega)
      have s24 : sI a1 = a1 := sIo (by omega) (by omega)
      refine ⟨fun c25 => ?_, fun c25 => ?_⟩
      · skip
        intro M26 e27
        have hB28 : BI M26 := by rw [e27]; exact BI.up0 hB18 rfl (by omega) (by omega) (by decide)
        have hF29 : ∀ j9 k9 : Nat, ¬ (j9 = 0 ∧ k9 = 35 ∨ j9 = 0 ∧ k9 = 24 ∨ j9 = 15) → M26 j9 k9 = M j9 k9 := fun j9 k9 h9 => by rw [e27]; exact (zup_n _ _ (by omega)).trans (hF19 j9 k9 h9)
        have r30 : M26 0 24 = a1 := by rw [e27]; exact zup_s _ _ _ _
        exact hQ _ _ ⟨hB28, hF29, (by omega), (by omega), trivial⟩
      · skip
        have s31 := sI_R (a0 + x16)
        have s32 := sI_or (a0 + x16)
        refine sR_heardInAll hB18  (fun z33  h34 => ?_)
        obtain ⟨p35, -⟩ := h34
        have o36 : 0 ≤ (sI x16) ∧ (sI x16) < 60 := by omega
        refine ⟨o36, ?_⟩
        intro M37 e38
        have hB39 : BI M37 := by rw [e38]; exact BI.up hB18 (rfl : zcd wR 15 = 65) rfl (by omega) (by omega) (by decide)
        have hF40 : ∀ j9 k9 : Nat, ¬ (j9 = 0 ∧ k9 = 35 ∨ j9 = 0 ∧ k9 = 24 ∨ j9 = 15) → M37 j9 k9 = M j9 k9 := fun j9 k9 h9 => by rw [e38]; exact (zup_n _ _ (by omega)).trans (hF19 j9 k9 h9)
        have r41 : M37 0 24 = M17 0 24 := by rw [e38]; exact zup_n _ _ (by omega)
        exact k22 _ _ ⟨hB39, hF40, (by omega), trivial⟩ (by omega)
    · skip
      exact hQ _ _ ⟨hB3, hF4, (by omega), (by omega), trivial⟩
set_option maxHeartbeats 4000000 in
set_option maxRecDepth 100000 in
theorem sR_gap {M : zM} {a0 : Int} (hB : BI M) (v0 : (-2147483648) ≤ a0 ∧ a0 ≤ 2147483647) {Q : Int → zM → Prop} (hQ : ∀ (z : Int) (M1 : zM), BI M1 ∧ (∀ j9 k9 : Nat, ¬ (j9 = 0 ∧ k9 = 35 ∨ j9 = 15) → M1 j9 k9 = M j9 k9) ∧ (0 ≤ z ∧ z ≤ 1) ∧ ((z = 1 ∧ 0 ≤ a0 ∧ a0 < M 0 24) ∨ (z = 0 ∧ ¬ (0 ≤ a0 ∧ a0 < M 0 24))) ∧ True → Q z M1) : wR_gap a0 M Q := by
  unfold wR_gap
  have hF0 : ∀ j9 k9 : Nat, ¬ (j9 = 0 ∧ k9 = 35 ∨ j9 = 15) → M j9 k9 = M j9 k9 := fun j9 k9 _ => rfl
  intro M1 e2
  have hB3 : BI M1 := by rw [e2]; exact BI.up0 hB rfl (by omega) (by omega) (by decide)
  have hF4 : ∀ j9 k9 : Nat, ¬ (j9 = 0 ∧ k9 = 35 ∨ j9 = 15) → M1 j9 k9 = M j9 k9 := fun j9 k9 h9 => by rw [e2]; exact (zup_n _ _ (by omega)).trans (hF0 j9 k9 h9)
  have r5 : M1 0 24 = M 0 24 := by rw [e2]; exact zup_n _ _ (by omega)
  have q6 : 0 ≤ (M1 0 24) ∧ (M1 0 24) ≤ 60 := BN.at hB3.1 (rfl : zcd wR 0 = 50) rfl
  refine sR_in hB3 (by omega) (by omega) (by omega) (fun z7  h8 => ?_)
  obtain ⟨p9, p10, -⟩ := h8
  refine ⟨fun c11 => ?_, fun c11 => ?_⟩
  · skip
    have s12 : sI a0 = a0 := sIo (by omega) (by omega)
    have o13 : 0 ≤ (sI a0) ∧ (sI a0) < 60 := by omega
    refine ⟨o13, ?_⟩
    intro M14 e15
    have hB16 : BI M14 := by rw [e15]; exact BI.up hB3 (rfl : zcd wR 15 = 65) rfl (by omega) (by omega) (by decide)
    have hF17 : ∀ j9 k9 : Nat, ¬ (j9 = 0 ∧ k9 = 35 ∨ j9 = 15) → M14 j9 k9 = M j9 k9 := fun j9 k9 h9 => by rw [e15]; exact (zup_n _ _ (by omega)).trans (hF4 j9 k9 h9)
    have r18 : M14 0 24 = M1 0 24 := by rw [e15]; exact zup_n _ _ (by omega)
    exact hQ _ _ ⟨hB16, hF17, (by omega), (by omega), trivial⟩
  · skip
    exact hQ _ _ ⟨hB3, hF4, (by omega), (by omega), trivial⟩
set_option maxHeartbeats 4000000 in
set_option maxRecDepth 100000 in
theorem sR_wipe {M : zM}  (hB : BI M)  {Q : Int → zM → Prop} (hQ : ∀ (z : Int) (M1 : zM), BI M1 ∧ (∀ j9 k9 : Nat, ¬ (j9 = 0 ∧ k9 = 35 ∨ j9 = 0 ∧ k9 = 24) → M1 j9 k9 = M j9 k9) ∧ ((-2147483648) ≤ z ∧ z ≤ 2147483647) ∧ (z = M 0 24 ∧ M1 0 24 = 0) ∧ True → Q z M1) : wR_wipe  M Q := by
  unfold wR_wipe
  have hF0 : ∀ j9 k9 : Nat, ¬ (j9 = 0 ∧ k9 = 35 ∨ j9 = 0 ∧ k9 = 24) → M j9 k9 = M j9 k9 := fun j9 k9 _ => rfl
  intro M1 e2
  have hB3 : BI M1 := by rw [e2]; exact BI.up0 hB rfl (by omega) (by omega) (by decide)
  have hF4 : ∀ j9 k9 : Nat, ¬ (j9 = 0 ∧ k9 = 35 ∨ j9 = 0 ∧ k9 = 24) → M1 j9 k9 = M j9 k9 := fun j9 k9 h9 => by rw [e2]; exact (zup_n _ _ (by omega)).trans (hF0 j9 k9 h9)
  have r5 : M1 0 24 = M 0 24 := by rw [e2]; exact zup_n _ _ (by omega)
  have q6 : 0 ≤ (M1 0 24) ∧ (M1 0 24) ≤ 60 := BN.at hB3.1 (rfl : zcd wR 0 = 50) rfl
  intro M7 e8
  have hB9 : BI M7 := by rw [e8]; exact BI.up0 hB3 rfl (by omega) (by omega) (by decide)
  have hF10 : ∀ j9 k9 : Nat, ¬ (j9 = 0 ∧ k9 = 35 ∨ j9 = 0 ∧ k9 = 24) → M7 j9 k9 = M j9 k9 := fun j9 k9 h9 => by rw [e8]; exact (zup_n _ _ (by omega)).trans (hF4 j9 k9 h9)
  have r11 : M7 0 24 = 0 := by rw [e8]; exact zup_s _ _ _ _
  have s12 : sI (M1 0 24) = (M1 0 24) := sIo (by omega) (by omega)
  exact hQ _ _ ⟨hB9, hF10, (by omega), (by omega), trivial⟩
set_option maxHeartbeats 4000000 in
set_option maxRecDepth 100000 in
theorem sR_isSpan {M : zM} {a0 : Int} (hB : BI M) (v0 : 1 ≤ a0 ∧ a0 ≤ 24) {Q : Int → Prop} (hQ : ∀ (z : Int), (0 ≤ z ∧ z ≤ 1) ∧ True → Q z) : wR_isSpan a0 M Q := by
  unfold wR_isSpan
  refine pL1_of (fun x1 => (0 ≤ x1 ∧ x1 ≤ 1000000) ∧ True) (fun x1 => (1000000 - x1).toNat) ⟨(by omega), trivial⟩ (fun K x1 h3 k4 => ?_)
  obtain ⟨i2, -⟩ := h3
  have q5 : 0 ≤ (M 0 24) ∧ (M 0 24) ≤ 60 := BN.at hB.1 (rfl : zcd wR 0 = 50) rfl
  have s6 : sI x1 = x1 := sIo (by omega) (by omega)
  have s7 : sI (M 0 24) = (M 0 24) := sIo (by omega) (by omega)
  refine ⟨fun c8 => ?_, fun c8 => ?_⟩
  · skip
    exact hQ _ ⟨(by omega), trivial⟩
  · skip
    refine pL1_of (fun x9 => (0 ≤ x9 ∧ x9 ≤ 1000000) ∧ True) (fun x9 => (1000000 - x9).toNat) ⟨(by omega), trivial⟩ (fun K x9 h11 k12 => ?_)
    obtain ⟨i10, -⟩ := h11
    have q13 : 0 ≤ (M 0 24) ∧ (M 0 24) ≤ 60 := BN.at hB.1 (rfl : zcd wR 0 = 50) rfl
    have s14 : sI x9 = x9 := sIo (by omega) (by omega)
    have s15 : sI (M 0 24) = (M 0 24) := sIo (by omega) (by omega)
    refine ⟨fun c16 => ?_, fun c16 => ?_⟩
    · skip
      exact k4 _ ⟨(by omega), trivial⟩ (by omega)
    · skip
      have s17 : sI x1 = x1 := sIo (by omega) (by omega)
      have o18 : 0 ≤ (sI x1) ∧ (sI x1) < 60 := by omega
      refine ⟨o18, ?_⟩
      have q19 : (-2147483648) ≤ (M 15 (sI x1).toNat) ∧ (M 15 (sI x1).toNat) ≤ 2147483647 := BN.at hB.1 (rfl : zcd wR 15 = 65) rfl
      have s20 : sI (M 15 (sI x1).toNat) = (M 15 (sI x1).toNat) := sIo (by omega) (by omega)
      refine ⟨fun c21 => ?_, fun c21 => ?_⟩
      · skip
        exact k12 _ ⟨(by omega), trivial⟩ (by omega)
      · skip
        have o22 : 0 ≤ (sI x9) ∧ (sI x9) < 60 := by omega
        refine ⟨o22, ?_⟩
        have q23 : (-2147483648) ≤ (M 15 (sI x9).toNat) ∧ (M 15 (sI x9).toNat) ≤ 2147483647 := BN.at hB.1 (rfl : zcd wR 15 = 65) rfl
        have s24 : sI (M 15 (sI x9).toNat) = (M 15 (sI x9).toNat) := sIo (by omega) (by omega)
        refine ⟨fun c25 => ?_, fun c25 => ?_⟩
        · skip
          exact k12 _ ⟨(by omega), trivial⟩ (by omega)
        · skip
          have o26 : 0 ≤ (sI x1) ∧ (sI x1) < 60 := by omega
          refine ⟨o26, ?_⟩
          have o28 : 0 ≤ (sI x9) ∧ (sI x9) < 60 := by omega
          refine ⟨o28, ?_⟩
          refine ⟨fun c30 => ?_, fun c30 => ?_⟩
          · skip
            exact k12 _ ⟨(by omega), trivial⟩ (by omega)
          · skip
            exact hQ _ ⟨(by omega), trivial⟩
set_option maxHeartbeats 4000000 in
set_option maxRecDepth 100000 in
theorem sR_span {M : zM} {a0 : Int} (hB : BI M) (v0 : (-2147483648) ≤ a0 ∧ a0 ≤ 2147483647) {Q : Int → zM → Prop} (hQ : ∀ (z : Int) (M1 : zM), BI M1 ∧ (∀ j9 k9 : Nat, ¬ (j9 = 0 ∧ k9 = 35) → M1 j9 k9 = M j9 k9) ∧ ((-2147483648) ≤ z ∧ z ≤ 2147483647) ∧ True → Q z M1) : wR_span a0 M Q := by
  unfold wR_span
  have hF0 : ∀ j9 k9 : Nat, ¬ (j9 = 0 ∧ k9 = 35) → M j9 k9 = M j9 k9 := fun j9 k9 _ => rfl
  intro M1 e2
  have hB3 : BI M1 := by rw [e2]; exact BI.up0 hB rfl (by omega) (by omega) (by decide)
  have hF4 : ∀ j9 k9 : Nat, ¬ (j9 = 0 ∧ k9 = 35) → M1 j9 k9 = M j9 k9 := fun j9 k9 h9 => by rw [e2]; exact (zup_n _ _ (by omega)).trans (hF0 j9 k9 h9)
  refine pL2_of (fun x5 x6 => ((-2147483648) ≤ x5 ∧ x5 ≤ 2147483647) ∧ (1 ≤ x6 ∧ x6 ≤ 1000000) ∧ True) (fun x5 x6 => (1000000 - x6).toNat) ⟨(by omega), (by omega), trivial⟩ (fun K x5 x6 h9 k10 => ?_)
  obtain ⟨i7, i8, -⟩ := h9
  have s11 : sI x6 = x6 := sIo (by omega) (by omega)
  refine ⟨fun c12 => ?_, fun c12 => ?_⟩
  · skip
    exact hQ _ _ ⟨hB3, hF4, (by omega), trivial⟩
  · skip
    have s13 : sI x5 = x5 := sIo (by omega) (by omega)
    refine ⟨fun c14 => ?_, fun c14 => ?_⟩
    · skip
      exact hQ _ _ ⟨hB3, hF4, (by omega), trivial⟩
    · skip
      refine sR_isSpan hB3 (by omega) (fun z15  h16 => ?_)
      obtain ⟨p17, -⟩ := h16
      refine ⟨fun c18 => ?_, fun c18 => ?_⟩
      · skip
        refine ⟨fun c19 => ?_, fun c19 => ?_⟩
        · skip
          exact k10 _ _ ⟨(by omega), (by omega), trivial⟩ (by omega)
        · skip
          exact hQ _ _ ⟨hB3, hF4, (by omega), trivial⟩
      · skip
        exact k10 _ _ ⟨(by omega), (by omega), trivial⟩ (by omega)
set_option maxHeartbeats 4000000 in
set_option maxRecDepth 100000 in
theorem sR_most {M : zM} {a0 : Int} {a1 : Int} (hB : BI M) (v0 : 1 ≤ a0 ∧ a0 ≤ 24) (v1 : 0 ≤ a1 ∧ a1 ≤ 59) {Q : Int → Prop} (hQ : ∀ (z : Int), ((-2147483648) ≤ z ∧ z ≤ 2147483647) ∧ True → Q z) : wR_most a0 a1 M Q := by
  unfold wR_most
  have s1 : sI a1 = a1 := sIo (by omega) (by omega)
  have s2 : sI a0 = a0 := sIo (by omega) (by omega)
  have o3 : (sI a0) ≠ 0 := by omega
  refine ⟨o3, ?_⟩
  have q4 := tmodN (sI a1) (sI a0) (by omega) (by omega)
  refine pL2_of (fun x5 x6 => (0 ≤ x6 ∧ x6 ≤ 1000000) ∧ True) (fun x5 x6 => (1000000 - x6).toNat) ⟨(by omega), trivial⟩ (fun K x5 x6 h8 k9 => ?_)
  obtain ⟨i7, -⟩ := h8
  have q10 : 0 ≤ (M 0 24) ∧ (M 0 24) ≤ 60 := BN.at hB.1 (rfl : zcd wR 0 = 50) rfl
  have s11 : sI x6 = x6 := sIo (by omega) (by omega)
  have s12 : sI (M 0 24) = (M 0 24) := sIo (by omega) (by omega)
  refine ⟨fun c13 => ?_, fun c13 => ?_⟩
  · skip
    have s14 := sI_R x5
    have s15 := sI_or x5
    exact hQ _ ⟨(by omega), trivial⟩
  · skip
    have o16 : 0 ≤ (sI x6) ∧ (sI x6) < 60 := by omega
    refine ⟨o16, ?_⟩
    have q17 : (-2147483648) ≤ (M 15 (sI x6).toNat) ∧ (M 15 (sI x6).toNat) ≤ 2147483647 := BN.at hB.1 (rfl : zcd wR 15 = 65) rfl
    have s18 : sI (M 15 (sI x6).toNat) = (M 15 (sI x6).toNat) := sIo (by omega) (by omega)
    refine ⟨fun c19 => ?_, fun c19 => ?_⟩
    · skip
      exact k9 _ _ ⟨(by omega), trivial⟩ (by omega)
    · skip
      have o20 : 0 ≤ (sI x6) ∧ (sI x6) < 60 := by omega
      refine ⟨o20, ?_⟩
      have q22 := andI_R x5 (M 15 (sI x6).toNat)
      exact k9 _ _ ⟨(by omega), trivial⟩ (by omega)
set_option maxHeartbeats 4000000 in
set_option maxRecDepth 100000 in
theorem sR_isPair {M : zM} {a0 : Int} {a1 : Int} (hB : BI M) (v0 : 1 ≤ a0 ∧ a0 ≤ 24) (v1 : 1 ≤ a1 ∧ a1 ≤ 24) {Q : Int → Prop} (hQ : ∀ (z : Int), (0 ≤ z ∧ z ≤ 1) ∧ True → Q z) : wR_isPair a0 a1 M Q := by
  unfold wR_isPair
  refine pL1_of (fun x1 => (0 ≤ x1 ∧ x1 ≤ 1000000) ∧ True) (fun x1 => (1000000 - x1).toNat) ⟨(by omega), trivial⟩ (fun K x1 h3 k4 => ?_)
  obtain ⟨i2, -⟩ := h3
  have q5 : 0 ≤ (M 0 24) ∧ (M 0 24) ≤ 60 := BN.at hB.1 (rfl : zcd wR 0 = 50) rfl
  have s6 : sI x1 = x1 := sIo (by omega) (by omega)
  have s7 : sI (M 0 24) = (M 0 24) := sIo (by omega) (by omega)
  refine ⟨fun c8 => ?_, fun c8 => ?_⟩
  · skip
    exact hQ _ ⟨(by omega), trivial⟩
  · skip
    have o9 : 0 ≤ (sI x1) ∧ (sI x1) < 60 := by omega
    refine ⟨o9, ?_⟩
    have q10 : (-2147483648) ≤ (M 15 (sI x1).toNat) ∧ (M 15 (sI x1).toNat) ≤ 2147483647 := BN.at hB.1 (rfl : zcd wR 15 = 65) rfl
    have s11 : sI (M 15 (sI x1).toNat) = (M 15 (sI x1).toNat) := sIo (by omega) (by omega)
    refine ⟨fun c12 => ?_, fun c12 => ?_⟩
    · skip
      exact k4 _ ⟨(by omega), trivial⟩ (by omega)
    · skip
      refine sR_most hB (by omega) (by omega) (fun z13  h14 => ?_)
      obtain ⟨p15, -⟩ := h14
      refine sR_most hB (by omega) (by omega) (fun z16  h17 => ?_)
      obtain ⟨p18, -⟩ := h17
      have q19 := orI_R z13 z16
      have o20 : 0 ≤ (sI x1) ∧ (sI x1) < 60 := by omega
      refine ⟨o20, ?_⟩
      refine ⟨fun c22 => ?_, fun c22 => ?_⟩
      · skip
        exact k4 _ ⟨(by omega), trivial⟩ (by omega)
      · skip
        exact hQ _ ⟨(by omega), trivial⟩
