/-! safety of the model, 1 -/
set_option maxHeartbeats 4000000 in
theorem sR_splice {M : zM} (hB : BI M) {Q : Int → zM → Prop} (hQ : ∀ z M1, (BI M1 ∧ (∀ j9 k9 : Nat, ¬ (j9 = 0 ∧ k9 = 35 ∨ j9 = 0 ∧ k9 = 36 ∨ j9 = 0 ∧ k9 = 37 ∨ j9 = 0 ∧ k9 = 1 ∨ j9 = 0 ∧ k9 = 3 ∨ j9 = 2 ∨ 23 ≤ j9 ∧ j9 ≤ 26) → M1 j9 k9 = M j9 k9) ∧ (-2147483648 ≤ z ∧ z ≤ 2147483647) ∧ M1 0 1 = 0 ∧ True) → Q z M1) : wR_splice M Q := by
  unfold wR_splice
  intro M1 e1 M3 e3 M5 e5
  have hB1 : BI M1 := by rw [e1]; exact BI.up0 hB (rfl : cbt 50 35 = (-2147483648, 2147483647)) (by omega) (by omega) (by decide)
  have hB3 : BI M3 := by rw [e3]; exact BIp hB1 (by omega) (by omega)
  have hB5 : BI M5 := by rw [e5]; exact BI.up0 hB3 (rfl : cbt 50 37 = (-2147483648, 2147483647)) (by omega) (by omega) (by decide)
  have F5 : ∀ j9 k9 : Nat, ¬ (j9 = 0 ∧ k9 = 35 ∨ j9 = 0 ∧ k9 = 36 ∨ j9 = 0 ∧ k9 = 37) → M5 j9 k9 = M j9 k9 := fun j9 k9 h9 => by rw [e5, e3, e1]; exact (zup_n _ _ (by omega)).trans ((zup_n _ _ (by omega)).trans (zup_n _ _ (by omega)))
  have p5 : M5 0 36 = 0 := by rw [e5, zup_n _ _ (by omega), e3, zup_s]
  refine sp_skip (M5 1) (M5 0 1) 6 0 (by omega) (by omega) M5 _ hB5 rfl rfl (by omega) (fun z8 M7 h8 => ?_)
  obtain ⟨⟨hB7, F7⟩, p7, h8⟩ := h8
  rw [p5] at h8
  have G7 : ∀ j9 k9 : Nat, ¬ (j9 = 0 ∧ k9 = 35 ∨ j9 = 0 ∧ k9 = 36 ∨ j9 = 0 ∧ k9 = 37) → M7 j9 k9 = M j9 k9 := fun j9 k9 h9 => (F7 j9 k9 (by omega)).trans (F5 j9 k9 h9)
  have T7 : M7 1 = M5 1 := rowF F7 1 (by omega)
  have S7 : M7 0 1 = M5 0 1 := F7 0 1 (by omega)
  have b1 : 0 ≤ M7 0 1 ∧ M7 0 1 ≤ 100 := BN.at hB7.1 (rfl : zcd wR 0 = 50) rfl
  have s1 : sI (M7 0 1) = M7 0 1 := sIo (by omega) (by omega)
  have s36 : sI (M7 0 36) = M7 0 36 := sIo (by omega) (by omega)
  rw [s1, s36]
  refine wJ1_of (fun x P => BI P ∧ (∀ j9 k9 : Nat, ¬ (j9 = 0 ∧ k9 = 35 ∨ j9 = 0 ∧ k9 = 36 ∨ j9 = 0 ∧ k9 = 37) → P j9 k9 = M j9 k9) ∧ (0 ≤ x ∧ x ≤ 1) ∧ P 1 = M5 1 ∧ P 0 1 = M5 0 1 ∧ (x ≠ 0 → ∃ q, PK (M5 1) (M5 0 1) 2 0 0 q)) (fun x P hI => ?_) ⟨fun e8 => ⟨hB7, G7, by omega, T7, S7, fun h => absurd e8 h⟩, fun e8 => ⟨fun c => ⟨hB7, G7, by omega, T7, S7, fun _ => ?_⟩, fun c => ?_⟩⟩
  · obtain ⟨hBP, FP, ix, TP, SP, hx⟩ := hI
    have sx : sI x = x := sIo (by omega) (by omega)
    rw [sx]
    refine wJ1_of (fun y N => BI N ∧ (∀ j9 k9 : Nat, ¬ (j9 = 0 ∧ k9 = 35 ∨ j9 = 0 ∧ k9 = 36 ∨ j9 = 0 ∧ k9 = 37 ∨ 23 ≤ j9 ∧ j9 ≤ 26) → N j9 k9 = M j9 k9) ∧ (-101 ≤ y ∧ y ≤ 0)) (fun y N hI2 => ?_) ⟨fun e => ⟨hBP, fun j9 k9 h9 => FP j9 k9 (by omega), by omega⟩, fun e => ?_⟩
    · obtain ⟨hBN, FN, iy⟩ := hI2
      have sy : sI y = y := sIo (by omega) (by omega)
      rw [sy]
      intro M29 e29
      have hB29 : BI M29 := by rw [e29]; exact BI.up0 hBN (rfl : cbt 50 1 = (0, 100)) (by omega) (by omega) (by decide)
      have F29 : ∀ j9 k9 : Nat, ¬ (j9 = 0 ∧ k9 = 35 ∨ j9 = 0 ∧ k9 = 36 ∨ j9 = 0 ∧ k9 = 37 ∨ j9 = 0 ∧ k9 = 1 ∨ j9 = 0 ∧ k9 = 3 ∨ j9 = 2 ∨ 23 ≤ j9 ∧ j9 ≤ 26) → M29 j9 k9 = M j9 k9 := fun j9 k9 h9 => by rw [e29]; exact (zup_n _ _ (by omega)).trans (FN j9 k9 (by omega))
      have r29 : M29 0 1 = 0 := by rw [e29, zup_s]
      refine ⟨fun c => ⟨fun c2 => ?_, fun c2 => hQ _ _ ⟨hB29, F29, by omega, r29, trivial⟩⟩, fun c => ?_⟩
      · have b24 : 0 ≤ M29 24 0 ∧ M29 24 0 ≤ 24 := BN.at hB29.1 (rfl : zcd wR 24 = 74) rfl
        intro M33 e33
        refine wL1_of (fun w P2 => BI P2 ∧ (∀ j9 k9 : Nat, ¬ (j9 = 0 ∧ k9 = 35 ∨ j9 = 0 ∧ k9 = 36 ∨ j9 = 0 ∧ k9 = 37 ∨ j9 = 0 ∧ k9 = 1 ∨ j9 = 0 ∧ k9 = 3 ∨ j9 = 2 ∨ 23 ≤ j9 ∧ j9 ≤ 26) → P2 j9 k9 = M j9 k9) ∧ P2 0 1 = 0 ∧ (0 ≤ w ∧ w ≤ 24)) (fun w _ => (1000 - w).toNat) ⟨by rw [e33]; exact BI.up0 hB29 (rfl : cbt 50 3 = (0, 24)) b24.1 b24.2 (by decide), fun j9 k9 h9 => by rw [e33]; exact (zup_n _ _ (by omega)).trans (F29 j9 k9 h9), by rw [e33, zup_n _ _ (by omega)]; exact r29, by omega⟩ (fun K w P2 hI3 hK => ?_)
        obtain ⟨hB2, F2, r2, iw⟩ := hI3
        have b3 : 0 ≤ P2 0 3 ∧ P2 0 3 ≤ 24 := BN.at hB2.1 (rfl : zcd wR 0 = 50) rfl
        have s3 : sI (P2 0 3) = P2 0 3 := sIo (by omega) (by omega)
        have sw : sI w = w := sIo (by omega) (by omega)
        rw [s3, sw]
        refine ⟨fun c3 => hQ _ _ ⟨hB2, F2, by omega, r2, trivial⟩, fun c3 => ⟨by omega, by omega, ?_⟩⟩
        intro M47 e47
        have br := BN.r32 hB2.1 23 w.toNat
        exact hK _ _ ⟨by rw [e47]; exact BI.up hB2 (rfl : zcd wR 2 = 52) rfl br.1 br.2 (by decide), fun j9 k9 h9 => by rw [e47]; exact (zup_n _ _ (by omega)).trans (F2 j9 k9 h9), by rw [e47, zup_n _ _ (by omega)]; exact r2, by omega⟩ (by omega)
      · have r := sI_R ((-1) - M29 0 37)
        exact hQ _ _ ⟨hB29, F29, by have := r.1; have := r.2; omega, r29, trivial⟩
    · obtain ⟨q, pkq⟩ := hx e
      intro M52 e52
      have p52 : M52 0 36 = 0 := by rw [e52]; exact zup_s _ _ _ _
      have F52 : ∀ j9 k9 : Nat, ¬ (j9 = 0 ∧ k9 = 35 ∨ j9 = 0 ∧ k9 = 36 ∨ j9 = 0 ∧ k9 = 37) → M52 j9 k9 = M j9 k9 := fun j9 k9 h9 => by rw [e52]; exact (zup_n _ _ (by omega)).trans (FP j9 k9 h9)
      have T52 : M52 1 = M5 1 := by rw [e52, zup_row _ _ (by omega)]; exact TP
      have S52 : M52 0 1 = M5 0 1 := by rw [e52, zup_n _ _ (by omega)]; exact SP
      refine sp_make (M5 1) (M5 0 1) 6 0 (by omega) (by omega) M52 _ q (by rw [e52]; exact BIp hBP (by omega) (by omega)) T52 S52 (by omega) (by rw [p52]; exact pkq) (fun z55 M54 h55 => ?_)
      obtain ⟨⟨hB54, F54⟩, p54, z1, z2, -⟩ := h55
      exact ⟨hB54, fun j9 k9 h9 => (F54 j9 k9 (by omega)).trans (F52 j9 k9 (by omega)), by omega⟩
  · rcases h8 with ⟨-, -, h⟩ | ⟨h, -⟩
    · exact ⟨_, h⟩
    · exact absurd h e8
  · refine sR_isWrong hB7 (fun z60 M59 h => ?_)
    obtain ⟨h1, h2, -, h3, -⟩ := h
    exact ⟨h1, fun j9 k9 h9 => (h2 j9 k9 (by omega)).trans (G7 j9 k9 h9), by omega, (rowF h2 1 (by omega)).trans T7, (h2 0 1 (by omega)).trans S7, fun h => absurd h3 h⟩
set_option maxHeartbeats 4000000 in
set_option maxRecDepth 100000 in
theorem sR_hand {M : zM} {a0 : Int} (hB : BI M) (v0 : (-2147483648) ≤ a0 ∧ a0 ≤ 2147483647) {Q : Int → zM → Prop} (hQ : ∀ (z : Int) (M1 : zM), BI M1 ∧ (∀ j9 k9 : Nat, ¬ (j9 = 0 ∧ k9 = 35) → M1 j9 k9 = M j9 k9) ∧ ((-2147483648) ≤ z ∧ z ≤ 2147483647) ∧ True → Q z M1) : wR_hand a0 M Q := by
  unfold wR_hand
  have hF0 : ∀ j9 k9 : Nat, ¬ (j9 = 0 ∧ k9 = 35) → M j9 k9 = M j9 k9 := fun j9 k9 _ => rfl
  intro M1 e2
  have hB3 : BI M1 := by rw [e2]; exact BI.up0 hB rfl (by omega) (by omega) (by decide)
  have hF4 : ∀ j9 k9 : Nat, ¬ (j9 = 0 ∧ k9 = 35) → M1 j9 k9 = M j9 k9 := fun j9 k9 h9 => by rw [e2]; exact (zup_n _ _ (by omega)).trans (hF0 j9 k9 h9)
  have q5 : 0 ≤ (M1 0 3) ∧ (M1 0 3) ≤ 24 := BN.at hB3.1 (rfl : zcd wR 0 = 50) rfl
  refine sR_in hB3 (by omega) (by omega) (by omega) (fun z6  h7 => ?_)
  obtain ⟨p8, p9, -⟩ := h7
  refine ⟨fun c10 => ?_, fun c10 => ?_⟩
  · skip
    exact hQ _ _ ⟨hB3, hF4, (by omega), trivial⟩
  · skip
    have s11 : sI a0 = a0 := sIo (by omega) (by omega)
    have o12 : 0 ≤ (sI a0) ∧ (sI a0) < 24 := by omega
    refine ⟨o12, ?_⟩
    have q13 : (-2147483648) ≤ (M1 2 (sI a0).toNat) ∧ (M1 2 (sI a0).toNat) ≤ 2147483647 := BN.at hB3.1 (rfl : zcd wR 2 = 52) rfl
    have s14 : sI (M1 2 (sI a0).toNat) = (M1 2 (sI a0).toNat) := sIo (by omega) (by omega)
    exact hQ _ _ ⟨hB3, hF4, (by omega), trivial⟩
set_option maxHeartbeats 4000000 in
theorem sR_ring {M : zM} {a0 a1 : Int} (hB : BI M) (v0 : -2147483648 ≤ a0 ∧ a0 ≤ 2147483647) (v1 : -2147483648 ≤ a1 ∧ a1 ≤ 2147483647) {Q : Int → zM → Prop} (hQ : ∀ z M1, (BI M1 ∧ (∀ j9 k9 : Nat, ¬ (j9 = 0 ∧ k9 = 35 ∨ j9 = 0 ∧ k9 = 10 ∨ j9 = 3 ∨ j9 = 4 ∨ j9 = 5 ∨ j9 = 6 ∨ j9 = 7 ∨ j9 = 8) → M1 j9 k9 = M j9 k9) ∧ (-2147483648 ≤ z ∧ z ≤ 2147483647) ∧ True) → Q z M1) : wR_ring a0 a1 M Q := by
  unfold wR_ring
  intro M1 e1
  have hB1 : BI M1 := by rw [e1]; exact BI.up0 hB (rfl : cbt 50 35 = (-2147483648, 2147483647)) (by omega) (by omega) (by decide)
  have F1 : ∀ j9 k9 : Nat, ¬ (j9 = 0 ∧ k9 = 35 ∨ j9 = 0 ∧ k9 = 10 ∨ j9 = 3 ∨ j9 = 4 ∨ j9 = 5 ∨ j9 = 6 ∨ j9 = 7 ∨ j9 = 8) → M1 j9 k9 = M j9 k9 := fun j9 k9 h9 => by rw [e1]; exact zup_n _ _ (by omega)
  have b3 : 0 ≤ M1 0 3 ∧ M1 0 3 ≤ 24 := BN.at hB1.1 (rfl : zcd wR 0 = 50) rfl
  have b10 : 0 ≤ M1 0 10 ∧ M1 0 10 ≤ 4 := BN.at hB1.1 (rfl : zcd wR 0 = 50) rfl
  have s3 : sI (M1 0 3) = M1 0 3 := sIo (by omega) (by omega)
  have s10 : sI (M1 0 10) = M1 0 10 := sIo (by omega) (by omega)
  rw [s3, s10]
  refine ⟨fun c => hQ _ _ ⟨hB1, F1, by omega, trivial⟩, fun c => ?_⟩
  refine sR_isMotor hB1 (by omega) (fun z5 h5 => ?_)
  obtain ⟨-, h5, -⟩ := h5
  refine ⟨fun e5 => hQ _ _ ⟨hB1, F1, by omega, trivial⟩, fun e5 => ?_⟩
  refine sR_in hB1 (by omega) (by omega) (by omega) (fun z10 h10 => ?_)
  obtain ⟨-, h10, -⟩ := h10
  refine ⟨fun e10 => hQ _ _ ⟨hB1, F1, by omega, trivial⟩, fun e10 => ⟨fun c4 => ⟨by omega, ?_⟩, fun c4 => hQ _ _ ⟨hB1, F1, by omega, trivial⟩⟩⟩
  intro M16 e16
  obtain ⟨n, en⟩ : ∃ n : Nat, n = (M1 0 10).toNat := ⟨_, rfl⟩
  rw [← en] at e16
  refine wL1_of (fun x P => BI P ∧ (∀ j9 k9 : Nat, ¬ (j9 = 0 ∧ k9 = 35 ∨ j9 = 0 ∧ k9 = 10 ∨ j9 = 3 ∨ j9 = 4 ∨ j9 = 5 ∨ j9 = 6 ∨ j9 = 7 ∨ j9 = 8) → P j9 k9 = M j9 k9) ∧ P 0 10 = M1 0 10 ∧ P 0 3 = M1 0 3 ∧ P 4 n = M1 0 3 ∧ (0 ≤ x ∧ x ≤ 24)) (fun x _ => (1000 - x).toNat) ⟨by rw [e16]; exact BI.up4 hB1 (by omega) (by omega), fun j9 k9 h9 => by rw [e16]; exact (zup_n _ _ (by omega)).trans (F1 j9 k9 h9), by rw [e16, zup_n _ _ (by omega)], by rw [e16, zup_n _ _ (by omega)], by rw [e16, zup_s], by omega⟩ (fun K x P hI hK => ?_)
  obtain ⟨hBP, FP, p10, p3, p4, ix⟩ := hI
  have sx : sI x = x := sIo (by omega) (by omega)
  rw [p3, p10, s3, s10, sx, ← en]
  refine ⟨fun c5 => ⟨by omega, ?_⟩, fun c5 => ?_⟩
  · intro M29 e29
    have hB29 : BI M29 := by rw [e29]; exact BI.up hBP (rfl : zcd wR 5 = 55) rfl (by omega) (by omega) (by decide)
    have r29 : M29 0 10 = M1 0 10 := by rw [e29, zup_n _ _ (by omega)]; exact p10
    rw [r29, s10, ← en]
    refine ⟨by omega, ?_⟩
    intro M32 e32
    have hB32 : BI M32 := by rw [e32]; exact BI.up hB29 (rfl : zcd wR 6 = 56) rfl (by omega) (by omega) (by decide)
    have r32 : M32 0 10 = M1 0 10 := by rw [e32, zup_n _ _ (by omega)]; exact r29
    rw [r32, s10, ← en]
    refine ⟨by omega, ?_⟩
    intro M35 e35
    have hB35 : BI M35 := by rw [e35]; exact BI.up hB32 (rfl : zcd wR 7 = 57) rfl (by omega) (by omega) (by decide)
    have r35 : M35 0 10 = M1 0 10 := by rw [e35, zup_n _ _ (by omega)]; exact r32
    rw [r35, s10, ← en]
    refine ⟨by omega, ?_⟩
    intro M38 e38
    have hB38 : BI M38 := by rw [e38]; exact BI.up hB35 (rfl : zcd wR 8 = 58) rfl (by omega) (by omega) (by decide)
    have r38 : M38 0 10 = M1 0 10 := by rw [e38, zup_n _ _ (by omega)]; exact r35
    have r4 : M38 4 n = M1 0 3 := by rw [e38, zup_n _ _ (by omega), e35, zup_n _ _ (by omega), e32, zup_n _ _ (by omega), e29, zup_n _ _ (by omega)]; exact p4
    intro M40 e40
    have r := sI_R (M40 0 10 - 1)
    refine hQ _ _ ⟨by rw [e40]; exact BI.upR hB38 rfl (by omega) (by rw [r38, ← en, r4]; omega), fun j9 k9 h9 => ?_, by have := r.1; have := r.2; omega, trivial⟩
    rw [e40, zup_n _ _ (by omega), e38, zup_n _ _ (by omega), e35, zup_n _ _ (by omega), e32, zup_n _ _ (by omega), e29, zup_n _ _ (by omega)]
    exact FP j9 k9 h9
  · have s6 : sI (24 * M1 0 10 + x) = 24 * M1 0 10 + x := sIo (by omega) (by omega)
    rw [s6]
    refine ⟨by omega, by omega, ?_⟩
    intro M44 e44
    have br := BN.r32 hBP.1 2 x.toNat
    exact hK _ _ ⟨by rw [e44]; exact BI.up hBP (rfl : zcd wR 3 = 53) rfl br.1 br.2 (by decide), fun j9 k9 h9 => by rw [e44]; exact (zup_n _ _ (by omega)).trans (FP j9 k9 h9), by rw [e44, zup_n _ _ (by omega)]; exact p10, by rw [e44, zup_n _ _ (by omega)]; exact p3, by rw [e44, zup_n _ _ (by omega)]; exact p4, by omega⟩ (by omega)
set_option maxHeartbeats 4000000 in
set_option maxRecDepth 100000 in
theorem sR_over {M : zM} {a0 : Int} {a1 : Int} {a2 : Int} (hB : BI M) (v0 : (-2147483648) ≤ a0 ∧ a0 ≤ 2147483647) (v1 : (-2147483648) ≤ a1 ∧ a1 ≤ 2147483647) (v2 : (-2147483648) ≤ a2 ∧ a2 ≤ 2147483647) {Q : Int → zM → Prop} (hQ : ∀ (z : Int) (M1 : zM), BI M1 ∧ (∀ j9 k9 : Nat, ¬ (j9 = 0 ∧ k9 = 35 ∨ j9 = 3) → M1 j9 k9 = M j9 k9) ∧ ((-2147483648) ≤ z ∧ z ≤ 2147483647) ∧ True → Q z M1) : wR_over a0 a1 a2 M Q := by
  unfold wR_over
  have hF0 : ∀ j9 k9 : Nat, ¬ (j9 = 0 ∧ k9 = 35 ∨ j9 = 3) → M j9 k9 = M j9 k9 := fun j9 k9 _ => rfl
  intro M1 e2
  have hB3 : BI M1 := by rw [e2]; exact BI.up0 hB rfl (by omega) (by omega) (by decide)
  have hF4 : ∀ j9 k9 : Nat, ¬ (j9 = 0 ∧ k9 = 35 ∨ j9 = 3) → M1 j9 k9 = M j9 k9 := fun j9 k9 h9 => by rw [e2]; exact (zup_n _ _ (by omega)).trans (hF0 j9 k9 h9)
  refine sR_isRing hB3 (by omega) (fun z5  h6 => ?_)
  obtain ⟨p7, p8, -⟩ := h6
  refine ⟨fun c9 => ?_, fun c9 => ?_⟩
  · skip
    exact hQ _ _ ⟨hB3, hF4, (by omega), trivial⟩
  · skip
    have s10 : sI a0 = a0 := sIo (by omega) (by omega)
    have o11 : 0 ≤ (sI a0) ∧ (sI a0) < 4 := by omega
    refine ⟨o11, ?_⟩
    have q12 : 0 ≤ (M1 4 (sI a0).toNat) ∧ (M1 4 (sI a0).toNat) ≤ 24 := BN.at hB3.1 (rfl : zcd wR 4 = 54) rfl
    have q13 : (((sI a0).toNat : Nat) : Int) < M1 0 10 → 1 ≤ (M1 4 (sI a0).toNat) := hB3.2 _ (by omega)
    have q14 : 0 ≤ M1 0 10 ∧ M1 0 10 ≤ 4 := BN.at hB3.1 (rfl : zcd wR 0 = 50) rfl
    refine sR_in hB3 (by omega) (by omega) (by omega) (fun z15  h16 => ?_)
    obtain ⟨p17, p18, -⟩ := h16
    refine ⟨fun c19 => ?_, fun c19 => ?_⟩
    · skip
      exact hQ _ _ ⟨hB3, hF4, (by omega), trivial⟩
    · skip
      refine sR_in hB3 (by omega) (by omega) (by omega) (fun z20  h21 => ?_)
      obtain ⟨p22, p23, -⟩ := h21
      refine ⟨fun c24 => ?_, fun c24 => ?_⟩
      · skip
        exact hQ _ _ ⟨hB3, hF4, (by omega), trivial⟩
      · skip
        have q25 : 0 ≤ (M1 0 3) ∧ (M1 0 3) ≤ 24 := BN.at hB3.1 (rfl : zcd wR 0 = 50) rfl
        have s26 : sI (M1 0 3) = (M1 0 3) := sIo (by omega) (by omega)
        refine ⟨fun c27 => ?_, fun c27 => ?_⟩
        · skip
          refine wL2_of (fun x28 x29 M30 => BI M30 ∧ (∀ j9 k9 : Nat, ¬ (j9 = 0 ∧ k9 = 35 ∨ j9 = 3) → M30 j9 k9 = M j9 k9) ∧ (0 ≤ x28 ∧ x28 ≤ 1000000) ∧ (0 ≤ x29 ∧ x29 ≤ 1000000) ∧ (x28 ≤ x29) ∧ True) (fun x28 x29 M30 => (1000000 - x29).toNat) ⟨hB3, hF4, (by omega), (by omega), (by omega), trivial⟩ (fun K x28 x29 M30 h36 k37 => ?_)
          obtain ⟨hB31, hF32, i33, i34, i35, -⟩ := h36
          have q38 : 0 ≤ (M30 0 3) ∧ (M30 0 3) ≤ 24 := BN.at hB31.1 (rfl : zcd wR 0 = 50) rfl
          have s39 : sI x29 = x29 := sIo (by omega) (by omega)
          have s40 : sI (M30 0 3) = (M30 0 3) := sIo (by omega) (by omega)
          refine ⟨fun c41 => ?_, fun c41 => ?_⟩
          · skip
            have s42 : sI x28 = x28 := sIo (by omega) (by omega)
            exact hQ _ _ ⟨hB31, hF32, (by omega), trivial⟩
          · skip
            have s43 : sI a0 = a0 := sIo (by omega) (by omega)
            have o44 : 0 ≤ (sI a0) ∧ (sI a0) < 4 := by omega
            refine ⟨o44, ?_⟩
            have q45 : 0 ≤ (M30 4 (sI a0).toNat) ∧ (M30 4 (sI a0).toNat) ≤ 24 := BN.at hB31.1 (rfl : zcd wR 4 = 54) rfl
            have q46 : (((sI a0).toNat : Nat) : Int) < M30 0 10 → 1 ≤ (M30 4 (sI a0).toNat) := hB31.2 _ (by omega)
            have q47 : 0 ≤ M30 0 10 ∧ M30 0 10 ≤ 4 := BN.at hB31.1 (rfl : zcd wR 0 = 50) rfl
            have s48 := sI_R (a1 + x29)
            have s49 := sI_or (a1 + x29)
            have s50 : sI (M30 4 (sI a0).toNat) = (M30 4 (sI a0).toNat) := sIo (by omega) (by omega)
            refine ⟨fun c51 => ?_, fun c51 => ?_⟩
            · skip
              have s52 : sI x28 = x28 := sIo (by omega) (by omega)
              exact hQ _ _ ⟨hB31, hF32, (by omega), trivial⟩
            · skip
              have s53 : sI a2 = a2 := sIo (by omega) (by omega)
              refine pJ1_dup ?_
              refine ⟨fun c54 => ?_, fun c54 => ?_⟩
              · skip
                have s55 := sI_R (((24 * a0) + a1) + x29)
                have s56 := sI_or (((24 * a0) + a1) + x29)
                have o57 : 0 ≤ (sI (((24 * a0) + a1) + x29)) ∧ (sI (((24 * a0) + a1) + x29)) < 96 := by omega
                refine ⟨o57, ?_⟩
                have q58 : (-2147483648) ≤ (M30 3 (sI (((24 * a0) + a1) + x29)).toNat) ∧ (M30 3 (sI (((24 * a0) + a1) + x29)).toNat) ≤ 2147483647 := BN.at hB31.1 (rfl : zcd wR 3 = 53) rfl
                have o59 : 0 ≤ (sI x29) ∧ (sI x29) < 24 := by omega
                refine ⟨o59, ?_⟩
                have q60 : (-2147483648) ≤ (M30 2 (sI x29).toNat) ∧ (M30 2 (sI x29).toNat) ≤ 2147483647 := BN.at hB31.1 (rfl : zcd wR 2 = 52) rfl
                have q61 := orI_R (M30 3 (sI (((24 * a0) + a1) + x29)).toNat) (M30 2 (sI x29).toNat)
                have s62 : sI (orI (M30 3 (sI (((24 * a0) + a1) + x29)).toNat) (M30 2 (sI x29).toNat)) = (orI (M30 3 (sI (((24 * a0) + a1) + x29)).toNat) (M30 2 (sI x29).toNat)) := sIo (by omega) (by omega)
                have o63 : 0 ≤ (sI (((24 * a0) + a1) + x29)) ∧ (sI (((24 * a0) + a1) + x29)) < 96 := by omega
                refine ⟨o63, ?_⟩
                have s65 : sI (M30 3 (sI (((24 * a0) + a1) + x29)).toNat) = (M30 3 (sI (((24 * a0) + a1) + x29)).toNat) := sIo (by omega) (by omega)
                refine ⟨fun c66 => ?_, fun c66 => ?_⟩
                · skip
                  have o67 : 0 ≤ (sI (((24 * a0) + a1) + x29)) ∧ (sI (((24 * a0) + a1) + x29)) < 96 := by omega
                  refine ⟨o67, ?_⟩
                  intro M68 e69
                  have hB70 : BI M68 := by rw [e69]; exact BI.up hB31 (rfl : zcd wR 3 = 53) rfl (by omega) (by omega) (by decide)
                  have hF71 : ∀ j9 k9 : Nat, ¬ (j9 = 0 ∧ k9 = 35 ∨ j9 = 3) → M68 j9 k9 = M j9 k9 := fun j9 k9 h9 => by rw [e69]; exact (zup_n _ _ (by omega)).trans (hF32 j9 k9 h9)
                  exact k37 _ _ _ ⟨hB70, hF71, (by omega), (by omega), (by omega), trivial⟩ (by omega)
                · skip
                  have o72 : 0 ≤ (sI (((24 * a0) + a1) + x29)) ∧ (sI (((24 * a0) + a1) + x29)) < 96 := by omega
                  refine ⟨o72, ?_⟩
                  intro M73 e74
                  have hB75 : BI M73 := by rw [e74]; exact BI.up hB31 (rfl : zcd wR 3 = 53) rfl (by omega) (by omega) (by decide)
                  have hF76 : ∀ j9 k9 : Nat, ¬ (j9 = 0 ∧ k9 = 35 ∨ j9 = 3) → M73 j9 k9 = M j9 k9 := fun j9 k9 h9 => by rw [e74]; exact (zup_n _ _ (by omega)).trans (hF32 j9 k9 h9)
                  exact k37 _ _ _ ⟨hB75, hF76, (by omega), (by omega), (by omega), trivial⟩ (by omega)
              · skip
                have o77 : 0 ≤ (sI x29) ∧ (sI x29) < 24 := by omega
                refine ⟨o77, ?_⟩
                have q78 : (-2147483648) ≤ (M30 2 (sI x29).toNat) ∧ (M30 2 (sI x29).toNat) ≤ 2147483647 := BN.at hB31.1 (rfl : zcd wR 2 = 52) rfl
                have s79 : sI (M30 2 (sI x29).toNat) = (M30 2 (sI x29).toNat) := sIo (by omega) (by omega)
                have s80 := sI_R (((24 * a0) + a1) + x29)
                have s81 := sI_or (((24 * a0) + a1) + x29)
                have o82 : 0 ≤ (sI (((24 * a0) + a1) + x29)) ∧ (sI (((24 * a0) + a1) + x29)) < 96 := by omega
                refine ⟨o82, ?_⟩
                have q83 : (-2147483648) ≤ (M30 3 (sI (((24 * a0) + a1) + x29)).toNat) ∧ (M30 3 (sI (((24 * a0) + a1) + x29)).toNat) ≤ 2147483647 := BN.at hB31.1 (rfl : zcd wR 3 = 53) rfl
                have s84 : sI (M30 3 (sI (((24 * a0) + a1) + x29)).toNat) = (M30 3 (sI (((24 * a0) + a1) + x29)).toNat) := sIo (by omega) (by omega)
                refine ⟨fun c85 => ?_, fun c85 => ?_⟩
                · skip
                  have o86 : 0 ≤ (sI (((24 * a0) + a1) + x29)) ∧ (sI (((24 * a0) + a1) + x29)) < 96 := by omega
                  refine ⟨o86, ?_⟩
                  intro M87 e88
                  have hB89 : BI M87 := by rw [e88]; exact BI.up hB31 (rfl : zcd wR 3 = 53) rfl (by omega) (by omega) (by decide)
                  have hF90 : ∀ j9 k9 : Nat, ¬ (j9 = 0 ∧ k9 = 35 ∨ j9 = 3) → M87 j9 k9 = M j9 k9 := fun j9 k9 h9 => by rw [e88]; exact (zup_n _ _ (by omega)).trans (hF32 j9 k9 h9)
                  exact k37 _ _ _ ⟨hB89, hF90, (by omega), (by omega), (by omega), trivial⟩ (by omega)
                · skip
                  have o91 : 0 ≤ (sI (((24 * a0) + a1) + x29)) ∧ (sI (((24 * a0) + a1) + x29)) < 96 := by omega
                  refine ⟨o91, ?_⟩
                  intro M92 e93
                  have hB94 : BI M92 := by rw [e93]; exact BI.up hB31 (rfl : zcd wR 3 = 53) rfl (by omega) (by omega) (by decide)
                  have hF95 : ∀ j9 k9 : Nat, ¬ (j9 = 0 ∧ k9 = 35 ∨ j9 = 3) → M92 j9 k9 = M j9 k9 := fun j9 k9 h9 => by rw [e93]; exact (zup_n _ _ (by omega)).trans (hF32 j9 k9 h9)
                  exact k37 _ _ _ ⟨hB94, hF95, (by omega), (by omega), (by omega), trivial⟩ (by omega)
        · skip
          exact hQ _ _ ⟨hB3, hF4, (by omega), trivial⟩
set_option maxHeartbeats 4000000 in
set_option maxRecDepth 100000 in
theorem sR_set {M : zM} {a0 : Int} {a1 : Int} {a2 : Int} (hB : BI M) (v0 : (-2147483648) ≤ a0 ∧ a0 ≤ 2147483647) (v1 : (-2147483648) ≤ a1 ∧ a1 ≤ 2147483647) (v2 : (-2147483648) ≤ a2 ∧ a2 ≤ 2147483647) {Q : Int → zM → Prop} (hQ : ∀ (z : Int) (M1 : zM), BI M1 ∧ (∀ j9 k9 : Nat, ¬ (j9 = 0 ∧ k9 = 35 ∨ j9 = 5 ∨ j9 = 6) → M1 j9 k9 = M j9 k9) ∧ ((-2147483648) ≤ z ∧ z ≤ 2147483647) ∧ True → Q z M1) : wR_set a0 a1 a2 M Q := by
  unfold wR_set
  have hF0 : ∀ j9 k9 : Nat, ¬ (j9 = 0 ∧ k9 = 35 ∨ j9 = 5 ∨ j9 = 6) → M j9 k9 = M j9 k9 := fun j9 k9 _ => rfl
  intro M1 e2
  have hB3 : BI M1 := by rw [e2]; exact BI.up0 hB rfl (by omega) (by omega) (by decide)
  have hF4 : ∀ j9 k9 : Nat, ¬ (j9 = 0 ∧ k9 = 35 ∨ j9 = 5 ∨ j9 = 6) → M1 j9 k9 = M j9 k9 := fun j9 k9 h9 => by rw [e2]; exact (zup_n _ _ (by omega)).trans (hF0 j9 k9 h9)
  refine sR_isRing hB3 (by omega) (fun z5  h6 => ?_)
  obtain ⟨p7, p8, -⟩ := h6
  refine ⟨fun c9 => ?_, fun c9 => ?_⟩
  · skip
    exact hQ _ _ ⟨hB3, hF4, (by omega), trivial⟩
  · skip
    refine sR_in hB3 (by omega) (by omega) (by omega) (fun z10  h11 => ?_)
    obtain ⟨p12, p13, -⟩ := h11
    refine ⟨fun c14 => ?_, fun c14 => ?_⟩
    · skip
      exact hQ _ _ ⟨hB3, hF4, (by omega), trivial⟩
    · skip
      have s15 : sI a1 = a1 := sIo (by omega) (by omega)
      refine pJ0_dup ?_
      refine ⟨fun c16 => ?_, fun c16 => ?_⟩
      · skip
        have s17 : sI a0 = a0 := sIo (by omega) (by omega)
        have o18 : 0 ≤ (sI a0) ∧ (sI a0) < 4 := by omega
        refine ⟨o18, ?_⟩
        have q19 : 0 ≤ (M1 4 (sI a0).toNat) ∧ (M1 4 (sI a0).toNat) ≤ 24 := BN.at hB3.1 (rfl : zcd wR 4 = 54) rfl
        have q20 : (((sI a0).toNat : Nat) : Int) < M1 0 10 → 1 ≤ (M1 4 (sI a0).toNat) := hB3.2 _ (by omega)
        have q21 : 0 ≤ M1 0 10 ∧ M1 0 10 ≤ 4 := BN.at hB3.1 (rfl : zcd wR 0 = 50) rfl
        refine sR_in hB3 (by omega) (by omega) (by omega) (fun z22  h23 => ?_)
        obtain ⟨p24, p25, -⟩ := h23
        refine ⟨fun c26 => ?_, fun c26 => ?_⟩
        · skip
          refine pJ1_dup ?_
          refine ⟨fun c27 => ?_, fun c27 => ?_⟩
          · skip
            have o28 : 0 ≤ (sI a0) ∧ (sI a0) < 4 := by omega
            refine ⟨o28, ?_⟩
            have q29 : 0 ≤ (M1 6 (sI a0).toNat) ∧ (M1 6 (sI a0).toNat) ≤ 23 := BN.at hB3.1 (rfl : zcd wR 6 = 56) rfl
            have s30 : sI (M1 6 (sI a0).toNat) = (M1 6 (sI a0).toNat) := sIo (by omega) (by omega)
            refine ⟨fun c31 => ?_, fun c31 => ?_⟩
            · skip
              have o32 : 0 ≤ (sI a0) ∧ (sI a0) < 4 := by omega
              refine ⟨o32, ?_⟩
              intro M33 e34
              have hB35 : BI M33 := by rw [e34]; exact BI.up hB3 (rfl : zcd wR 6 = 56) rfl (by omega) (by omega) (by decide)
              have hF36 : ∀ j9 k9 : Nat, ¬ (j9 = 0 ∧ k9 = 35 ∨ j9 = 5 ∨ j9 = 6) → M33 j9 k9 = M j9 k9 := fun j9 k9 h9 => by rw [e34]; exact (zup_n _ _ (by omega)).trans (hF4 j9 k9 h9)
              exact hQ _ _ ⟨hB35, hF36, (by omega), trivial⟩
            · skip
              have o37 : 0 ≤ (sI a0) ∧ (sI a0) < 4 := by omega
              refine ⟨o37, ?_⟩
              intro M38 e39
              have hB40 : BI M38 := by rw [e39]; exact BI.up hB3 (rfl : zcd wR 5 = 55) rfl (by omega) (by omega) (by decide)
              have hF41 : ∀ j9 k9 : Nat, ¬ (j9 = 0 ∧ k9 = 35 ∨ j9 = 5 ∨ j9 = 6) → M38 j9 k9 = M j9 k9 := fun j9 k9 h9 => by rw [e39]; exact (zup_n _ _ (by omega)).trans (hF4 j9 k9 h9)
              exact hQ _ _ ⟨hB40, hF41, (by omega), trivial⟩
          · skip
            have o42 : 0 ≤ (sI a0) ∧ (sI a0) < 4 := by omega
            refine ⟨o42, ?_⟩
            have q43 : 0 ≤ (M1 5 (sI a0).toNat) ∧ (M1 5 (sI a0).toNat) ≤ 1 := BN.at hB3.1 (rfl : zcd wR 5 = 55) rfl
            have s44 : sI (M1 5 (sI a0).toNat) = (M1 5 (sI a0).toNat) := sIo (by omega) (by omega)
            refine ⟨fun c45 => ?_, fun c45 => ?_⟩
            · skip
              have o46 : 0 ≤ (sI a0) ∧ (sI a0) < 4 := by omega
              refine ⟨o46, ?_⟩
              intro M47 e48
              have hB49 : BI M47 := by rw [e48]; exact BI.up hB3 (rfl : zcd wR 6 = 56) rfl (by omega) (by omega) (by decide)
              have hF50 : ∀ j9 k9 : Nat, ¬ (j9 = 0 ∧ k9 = 35 ∨ j9 = 5 ∨ j9 = 6) → M47 j9 k9 = M j9 k9 := fun j9 k9 h9 => by rw [e48]; exact (zup_n _ _ (by omega)).trans (hF4 j9 k9 h9)
              exact hQ _ _ ⟨hB49, hF50, (by omega), trivial⟩
            · skip
              have o51 : 0 ≤ (sI a0) ∧ (sI a0) < 4 := by omega
              refine ⟨o51, ?_⟩
              intro M52 e53
              have hB54 : BI M52 := by rw [e53]; exact BI.up hB3 (rfl : zcd wR 5 = 55) rfl (by omega) (by omega) (by decide)
              have hF55 : ∀ j9 k9 : Nat, ¬ (j9 = 0 ∧ k9 = 35 ∨ j9 = 5 ∨ j9 = 6) → M52 j9 k9 = M j9 k9 := fun j9 k9 h9 => by rw [e53]; exact (zup_n _ _ (by omega)).trans (hF4 j9 k9 h9)
              exact hQ _ _ ⟨hB54, hF55, (by omega), trivial⟩
        · skip
          exact hQ _ _ ⟨hB3, hF4, (by omega), trivial⟩
      · skip
        refine sR_isMotor hB3 (by omega) (fun z56  h57 => ?_)
        obtain ⟨p58, p59, -⟩ := h57
        refine ⟨fun c60 => ?_, fun c60 => ?_⟩
        · skip
          refine pJ1_dup ?_
          refine ⟨fun c61 => ?_, fun c61 => ?_⟩
          · skip
            have s62 : sI a0 = a0 := sIo (by omega) (by omega)
            have o63 : 0 ≤ (sI a0) ∧ (sI a0) < 4 := by omega
            refine ⟨o63, ?_⟩
            have q64 : 0 ≤ (M1 6 (sI a0).toNat) ∧ (M1 6 (sI a0).toNat) ≤ 23 := BN.at hB3.1 (rfl : zcd wR 6 = 56) rfl
            have s65 : sI (M1 6 (sI a0).toNat) = (M1 6 (sI a0).toNat) := sIo (by omega) (by omega)
            refine ⟨fun c66 => ?_, fun c66 => ?_⟩
            · skip
              have o67 : 0 ≤ (sI a0) ∧ (sI a0) < 4 := by omega
              refine ⟨o67, ?_⟩
              intro M68 e69
              have hB70 : BI M68 := by rw [e69]; exact BI.up hB3 (rfl : zcd wR 6 = 56) rfl (by omega) (by omega) (by decide)
              have hF71 : ∀ j9 k9 : Nat, ¬ (j9 = 0 ∧ k9 = 35 ∨ j9 = 5 ∨ j9 = 6) → M68 j9 k9 = M j9 k9 := fun j9 k9 h9 => by rw [e69]; exact (zup_n _ _ (by omega)).trans (hF4 j9 k9 h9)
              exact hQ _ _ ⟨hB70, hF71, (by omega), trivial⟩
            · skip
              have o72 : 0 ≤ (sI a0) ∧ (sI a0) < 4 := by omega
              refine ⟨o72, ?_⟩
              intro M73 e74
              have hB75 : BI M73 := by rw [e74]; exact BI.up hB3 (rfl : zcd wR 5 = 55) rfl (by omega) (by omega) (by decide)
              have hF76 : ∀ j9 k9 : Nat, ¬ (j9 = 0 ∧ k9 = 35 ∨ j9 = 5 ∨ j9 = 6) → M73 j9 k9 = M j9 k9 := fun j9 k9 h9 => by rw [e74]; exact (zup_n _ _ (by omega)).trans (hF4 j9 k9 h9)
              exact hQ _ _ ⟨hB75, hF76, (by omega), trivial⟩
          · skip
            have s77 : sI a0 = a0 := sIo (by omega) (by omega)
            have o78 : 0 ≤ (sI a0) ∧ (sI a0) < 4 := by omega
            refine ⟨o78, ?_⟩
            have q79 : 0 ≤ (M1 5 (sI a0).toNat) ∧ (M1 5 (sI a0).toNat) ≤ 1 := BN.at hB3.1 (rfl : zcd wR 5 = 55) rfl
            have s80 : sI (M1 5 (sI a0).toNat) = (M1 5 (sI a0).toNat) := sIo (by omega) (by omega)
            refine ⟨fun c81 => ?_, fun c81 => ?_⟩
            · skip
              have o82 : 0 ≤ (sI a0) ∧ (sI a0) < 4 := by omega
              refine ⟨o82, ?_⟩
              intro M83 e84
              have hB85 : BI M83 := by rw [e84]; exact BI.up hB3 (rfl : zcd wR 6 = 56) rfl (by omega) (by omega) (by decide)
              have hF86 : ∀ j9 k9 : Nat, ¬ (j9 = 0 ∧ k9 = 35 ∨ j9 = 5 ∨ j9 = 6) → M83 j9 k9 = M j9 k9 := fun j9 k9 h9 => by rw [e84]; exact (zup_n _ _ (by omega)).trans (hF4 j9 k9 h9)
              exact hQ _ _ ⟨hB85, hF86, (by omega), trivial⟩
            · skip
              have o87 : 0 ≤ (sI a0) ∧ (sI a0) < 4 := by omega
              refine ⟨o87, ?_⟩
              intro M88 e89
              have hB90 : BI M88 := by rw [e89]; exact BI.up hB3 (rfl : zcd wR 5 = 55) rfl (by omega) (by omega) (by decide)
              have hF91 : ∀ j9 k9 : Nat, ¬ (j9 = 0 ∧ k9 = 35 ∨ j9 = 5 ∨ j9 = 6) → M88 j9 k9 = M j9 k9 := fun j9 k9 h9 => by rw [e89]; exact (zup_n _ _ (by omega)).trans (hF4 j9 k9 h9)
              exact hQ _ _ ⟨hB90, hF91, (by omega), trivial⟩
        · skip
          exact hQ _ _ ⟨hB3, hF4, (by omega), trivial⟩
set_option maxHeartbeats 4000000 in
set_option maxRecDepth 100000 in
theorem sR_bitCount {M : zM} {a0 : Int} (hB : BI M) (v0 : (-2147483648) ≤ a0 ∧ a0 ≤ 2147483647) {Q : Int → Prop} (hQ : ∀ (z : Int), ((-2147483648) ≤ z ∧ z ≤ 2147483647) ∧ True → Q z) : wR_bitCount a0 M Q := by
  unfold wR_bitCount
  have q1 := ushrI_R a0 1
  have q2 := andI_br (ushrI a0 1) (c := 1431655765) (by decide) (by decide)
  have q3 := andI_br (a0 - (andI (ushrI a0 1) 1431655765)) (c := 858993459) (by decide) (by decide)
  have q4 := ushrI_R (a0 - (andI (ushrI a0 1) 1431655765)) 2
  have q5 := andI_br (ushrI (a0 - (andI (ushrI a0 1) 1431655765)) 2) (c := 858993459) (by decide) (by decide)
  intro t6 e7
  have q8 := ushrI_R t6 4
  have q9 := andI_br (t6 + (ushrI t6 4)) (c := 252645135) (by decide) (by decide)
  have q10 := ushrI_R (andI (t6 + (ushrI t6 4)) 252645135) 8
  intro t11 e12
  have q13 := ushrI_R t11 16
  have q14 := andI_br (t11 + (ushrI t11 16)) (c := 63) (by decide) (by decide)
  exact hQ _ ⟨(by omega), trivial⟩
set_option maxHeartbeats 4000000 in
set_option maxRecDepth 100000 in
theorem sR_head {M : zM} {a0 : Int} {a1 : Int} {a2 : Int} (hB : BI M) (v0 : (-2147483648) ≤ a0 ∧ a0 ≤ 2147483647) (v1 : (-2147483648) ≤ a1 ∧ a1 ≤ 2147483647) (v2 : (-2147483648) ≤ a2 ∧ a2 ≤ 2147483647) {Q : Int → zM → Prop} (hQ : ∀ (z : Int) (M1 : zM), BI M1 ∧ (∀ j9 k9 : Nat, ¬ (j9 = 0 ∧ k9 = 35 ∨ j9 = 7) → M1 j9 k9 = M j9 k9) ∧ ((-2147483648) ≤ z ∧ z ≤ 2147483647) ∧ True → Q z M1) : wR_head a0 a1 a2 M Q := by
  unfold wR_head
  have hF0 : ∀ j9 k9 : Nat, ¬ (j9 = 0 ∧ k9 = 35 ∨ j9 = 7) → M j9 k9 = M j9 k9 := fun j9 k9 _ => rfl
  intro M1 e2
  have hB3 : BI M1 := by rw [e2]; exact BI.up0 hB rfl (by omega) (by omega) (by decide)
  have hF4 : ∀ j9 k9 : Nat, ¬ (j9 = 0 ∧ k9 = 35 ∨ j9 = 7) → M1 j9 k9 = M j9 k9 := fun j9 k9 h9 => by rw [e2]; exact (zup_n _ _ (by omega)).trans (hF0 j9 k9 h9)
  refine sR_isRing hB3 (by omega) (fun z5  h6 => ?_)
  obtain ⟨p7, p8, -⟩ := h6
  refine ⟨fun c9 => ?_, fun c9 => ?_⟩
  · skip
    exact hQ _ _ ⟨hB3, hF4, (by omega), trivial⟩
  · skip
    refine sR_in hB3 (by omega) (by omega) (by omega) (fun z10  h11 => ?_)
    obtain ⟨p12, p13, -⟩ := h11
    refine ⟨fun c14 => ?_, fun c14 => ?_⟩
    · skip
      have s15 : sI a2 = a2 := sIo (by omega) (by omega)
      refine pJ1_dup ?_
      refine ⟨fun c16 => ?_, fun c16 => ?_⟩
      · skip
        have s17 : sI a0 = a0 := sIo (by omega) (by omega)
        have o18 : 0 ≤ (sI a0) ∧ (sI a0) < 4 := by omega
        refine ⟨o18, ?_⟩
        have q19 : (-2147483648) ≤ (M1 7 (sI a0).toNat) ∧ (M1 7 (sI a0).toNat) ≤ 2147483647 := BN.at hB3.1 (rfl : zcd wR 7 = 57) rfl
        have q20 := shlI_R 1 a1
        have q21 := xorI_R (shlI 1 a1) (-1)
        have q22 := andI_R (M1 7 (sI a0).toNat) (xorI (shlI 1 a1) (-1))
        have s23 : sI (andI (M1 7 (sI a0).toNat) (xorI (shlI 1 a1) (-1))) = (andI (M1 7 (sI a0).toNat) (xorI (shlI 1 a1) (-1))) := sIo (by omega) (by omega)
        refine ⟨fun c24 => ?_, fun c24 => ?_⟩
        · skip
          have o25 : 0 ≤ (sI a0) ∧ (sI a0) < 4 := by omega
          refine ⟨o25, ?_⟩
          intro M26 e27
          have hB28 : BI M26 := by rw [e27]; exact BI.up hB3 (rfl : zcd wR 7 = 57) rfl (by omega) (by omega) (by decide)
          have hF29 : ∀ j9 k9 : Nat, ¬ (j9 = 0 ∧ k9 = 35 ∨ j9 = 7) → M26 j9 k9 = M j9 k9 := fun j9 k9 h9 => by rw [e27]; exact (zup_n _ _ (by omega)).trans (hF4 j9 k9 h9)
          refine sR_bitCount hB28 (by omega) (fun z30  h31 => ?_)
          obtain ⟨p32, -⟩ := h31
          exact hQ _ _ ⟨hB28, hF29, (by omega), trivial⟩
        · skip
          exact hQ _ _ ⟨hB3, hF4, (by omega), trivial⟩
      · skip
        have s33 : sI a0 = a0 := sIo (by omega) (by omega)
        have o34 : 0 ≤ (sI a0) ∧ (sI a0) < 4 := by omega
        refine ⟨o34, ?_⟩
        have q35 : (-2147483648) ≤ (M1 7 (sI a0).toNat) ∧ (M1 7 (sI a0).toNat) ≤ 2147483647 := BN.at hB3.1 (rfl : zcd wR 7 = 57) rfl
        have q36 := shlI_R 1 a1
        have q37 := orI_R (M1 7 (sI a0).toNat) (shlI 1 a1)
        have s38 : sI (orI (M1 7 (sI a0).toNat) (shlI 1 a1)) = (orI (M1 7 (sI a0).toNat) (shlI 1 a1)) := sIo (by omega) (by omega)
        refine ⟨fun c39 => ?_, fun c39 => ?_⟩
        · skip
          have o40 : 0 ≤ (sI a0) ∧ (sI a0) < 4 := by omega
          refine ⟨o40, ?_⟩
          intro M41 e42
          have hB43 : BI M41 := by rw [e42]; exact BI.up hB3 (rfl : zcd wR 7 = 57) rfl (by omega) (by omega) (by decide)
          have hF44 : ∀ j9 k9 : Nat, ¬ (j9 = 0 ∧ k9 = 35 ∨ j9 = 7) → M41 j9 k9 = M j9 k9 := fun j9 k9 h9 => by rw [e42]; exact (zup_n _ _ (by omega)).trans (hF4 j9 k9 h9)
          refine sR_bitCount hB43 (by omega) (fun z45  h46 => ?_)
          obtain ⟨p47, -⟩ := h46
          exact hQ _ _ ⟨hB43, hF44, (by omega), trivial⟩
        · skip
          exact hQ _ _ ⟨hB3, hF4, (by omega), trivial⟩
    · skip
      exact hQ _ _ ⟨hB3, hF4, (by omega), trivial⟩
set_option maxHeartbeats 4000000 in
set_option maxRecDepth 100000 in
theorem sR_motor {M : zM} {a0 : Int} {a1 : Int} {a2 : Int} (hB : BI M) (v0 : (-2147483648) ≤ a0 ∧ a0 ≤ 2147483647) (v1 : (-2147483648) ≤ a1 ∧ a1 ≤ 2147483647) (v2 : (-2147483648) ≤ a2 ∧ a2 ≤ 2147483647) {Q : Int → zM → Prop} (hQ : ∀ (z : Int) (M1 : zM), BI M1 ∧ (∀ j9 k9 : Nat, ¬ (j9 = 0 ∧ k9 = 35 ∨ j9 = 9 ∨ j9 = 10 ∨ j9 = 11) → M1 j9 k9 = M j9 k9) ∧ (0 ≤ z ∧ z ≤ 1) ∧ True → Q z M1) : wR_motor a0 a1 a2 M Q := by
  unfold wR_motor
  have hF0 : ∀ j9 k9 : Nat, ¬ (j9 = 0 ∧ k9 = 35 ∨ j9 = 9 ∨ j9 = 10 ∨ j9 = 11) → M j9 k9 = M j9 k9 := fun j9 k9 _ => rfl
  intro M1 e2
  have hB3 : BI M1 := by rw [e2]; exact BI.up0 hB rfl (by omega) (by omega) (by decide)
  have hF4 : ∀ j9 k9 : Nat, ¬ (j9 = 0 ∧ k9 = 35 ∨ j9 = 9 ∨ j9 = 10 ∨ j9 = 11) → M1 j9 k9 = M j9 k9 := fun j9 k9 h9 => by rw [e2]; exact (zup_n _ _ (by omega)).trans (hF0 j9 k9 h9)
  have r5 : M1 11 (sI a0).toNat = M 11 (sI a0).toNat := by rw [e2]; exact zup_n _ _ (by omega)
  refine sR_isMotor hB3 (by omega) (fun z6  h7 => ?_)
  obtain ⟨p8, p9, -⟩ := h7
  refine ⟨fun c10 => ?_, fun c10 => ?_⟩
  · skip
    exact hQ _ _ ⟨hB3, hF4, (by omega), trivial⟩
  · skip
    refine sR_in hB3 (by omega) (by omega) (by omega) (fun z11  h12 => ?_)
    obtain ⟨p13, p14, -⟩ := h12
    refine ⟨fun c15 => ?_, fun c15 => ?_⟩
    · skip
      exact hQ _ _ ⟨hB3, hF4, (by omega), trivial⟩
    · skip
      refine sR_in hB3 (by omega) (by omega) (by omega) (fun z16  h17 => ?_)
      obtain ⟨p18, p19, -⟩ := h17
      refine ⟨fun c20 => ?_, fun c20 => ?_⟩
      · skip
        have s21 : sI a0 = a0 := sIo (by omega) (by omega)
        have o22 : 0 ≤ (sI a0) ∧ (sI a0) < 2 := by omega
        refine ⟨o22, ?_⟩
        have q23 : 0 ≤ (M1 11 (sI a0).toNat) ∧ (M1 11 (sI a0).toNat) ≤ 12 := BN.at hB3.1 (rfl : zcd wR 11 = 61) rfl
        refine pL1_of (fun x24 => (0 ≤ x24 ∧ x24 ≤ 1000000) ∧ (x24 ≤ M 11 (sI a0).toNat) ∧ True) (fun x24 => (1000000 - x24).toNat) ⟨(by omega), (by omega), trivial⟩ (fun K x24 h27 k28 => ?_)
        obtain ⟨i25, i26, -⟩ := h27
        have s29 : sI x24 = x24 := sIo (by omega) (by omega)
        have s30 : sI (M1 11 (sI a0).toNat) = (M1 11 (sI a0).toNat) := sIo (by omega) (by omega)
        refine pJ0_dup ?_
        refine ⟨fun c31 => ?_, fun c31 => ?_⟩
        · skip
          refine wJ0_dup ?_
          refine pJ0_dup ?_
          refine ⟨fun c32 => ?_, fun c32 => ?_⟩
          · skip
            refine ⟨fun c33 => ?_, fun c33 => ?_⟩
            · skip
              refine wL1_of (fun x34 M35 => BI M35 ∧ (∀ j9 k9 : Nat, ¬ (j9 = 0 ∧ k9 = 35 ∨ j9 = 9 ∨ j9 = 10 ∨ j9 = 11) → M35 j9 k9 = M j9 k9) ∧ (0 ≤ x34 ∧ x34 ≤ 11) ∧ (M35 11 (sI a0).toNat = M 11 (sI a0).toNat) ∧ True) (fun x34 M35 => (x34 + 1).toNat) ⟨hB3, hF4, (by omega), (by omega), trivial⟩ (fun K x34 M35 h40 k41 => ?_)
              obtain ⟨hB36, hF37, i38, i39, -⟩ := h40
              have s42 : sI x34 = x34 := sIo (by omega) (by omega)
              have s43 : sI x24 = x24 := sIo (by omega) (by omega)
              refine ⟨fun c44 => ?_, fun c44 => ?_⟩
              · skip
                have s45 : sI a0 = a0 := sIo (by omega) (by omega)
                have o46 : 0 ≤ (sI a0) ∧ (sI a0) < 2 := by omega
                refine ⟨o46, ?_⟩
                have q47 : 0 ≤ (M35 11 (sI a0).toNat) ∧ (M35 11 (sI a0).toNat) ≤ 12 := BN.at hB36.1 (rfl : zcd wR 11 = 61) rfl
                have o48 : 0 ≤ (sI a0) ∧ (sI a0) < 2 := by omega
                refine ⟨o48, ?_⟩
                intro M49 e50
                have hB51 : BI M49 := by rw [e50]; exact BI.up hB36 (rfl : zcd wR 11 = 61) rfl (by omega) (by omega) (by decide)
                have hF52 : ∀ j9 k9 : Nat, ¬ (j9 = 0 ∧ k9 = 35 ∨ j9 = 9 ∨ j9 = 10 ∨ j9 = 11) → M49 j9 k9 = M j9 k9 := fun j9 k9 h9 => by rw [e50]; exact (zup_n _ _ (by omega)).trans (hF37 j9 k9 h9)
                have r53 : M49 11 (sI a0).toNat = ((M35 11 (sI a0).toNat) + 1) := by rw [e50]; exact zup_s _ _ _ _
                have s54 := sI_R ((12 * a0) + x24)
                have s55 := sI_or ((12 * a0) + x24)
                have o56 : 0 ≤ (sI ((12 * a0) + x24)) ∧ (sI ((12 * a0) + x24)) < 24 := by omega
                refine ⟨o56, ?_⟩
                intro M57 e58
                have hB59 : BI M57 := by rw [e58]; exact BI.up hB51 (rfl : zcd wR 9 = 59) rfl (by omega) (by omega) (by decide)
                have hF60 : ∀ j9 k9 : Nat, ¬ (j9 = 0 ∧ k9 = 35 ∨ j9 = 9 ∨ j9 = 10 ∨ j9 = 11) → M57 j9 k9 = M j9 k9 := fun j9 k9 h9 => by rw [e58]; exact (zup_n _ _ (by omega)).trans (hF52 j9 k9 h9)
                have r61 : M57 11 (sI a0).toNat = M49 11 (sI a0).toNat := by rw [e58]; exact zup_n _ _ (by omega)
                have o62 : 0 ≤ (sI ((12 * a0) + x24)) ∧ (sI ((12 * a0) + x24)) < 24 := by omega
                refine ⟨o62, ?_⟩
                intro M63 e64
                have hB65 : BI M63 := by rw [e64]; exact BI.up hB59 (rfl : zcd wR 10 = 60) rfl (by omega) (by omega) (by decide)
                have hF66 : ∀ j9 k9 : Nat, ¬ (j9 = 0 ∧ k9 = 35 ∨ j9 = 9 ∨ j9 = 10 ∨ j9 = 11) → M63 j9 k9 = M j9 k9 := fun j9 k9 h9 => by rw [e64]; exact (zup_n _ _ (by omega)).trans (hF60 j9 k9 h9)
                have r67 : M63 11 (sI a0).toNat = M57 11 (sI a0).toNat := by rw [e64]; exact zup_n _ _ (by omega)
                exact hQ _ _ ⟨hB65, hF66, (by omega), trivial⟩
              · skip
                have s68 := sI_R (((12 * a0) + x34) - 1)
                have s69 := sI_or (((12 * a0) + x34) - 1)
                have o70 : 0 ≤ (sI (((12 * a0) + x34) - 1)) ∧ (sI (((12 * a0) + x34) - 1)) < 24 := by omega
                refine ⟨o70, ?_⟩
                have q71 : 0 ≤ (M35 9 (sI (((12 * a0) + x34) - 1)).toNat) ∧ (M35 9 (sI (((12 * a0) + x34) - 1)).toNat) ≤ 5000 := BN.at hB36.1 (rfl : zcd wR 9 = 59) rfl
                have s72 := sI_R ((12 * a0) + x34)
                have s73 := sI_or ((12 * a0) + x34)
                have o74 : 0 ≤ (sI ((12 * a0) + x34)) ∧ (sI ((12 * a0) + x34)) < 24 := by omega
                refine ⟨o74, ?_⟩
                intro M75 e76
                have hB77 : BI M75 := by rw [e76]; exact BI.up hB36 (rfl : zcd wR 9 = 59) rfl (by omega) (by omega) (by decide)
                have hF78 : ∀ j9 k9 : Nat, ¬ (j9 = 0 ∧ k9 = 35 ∨ j9 = 9 ∨ j9 = 10 ∨ j9 = 11) → M75 j9 k9 = M j9 k9 := fun j9 k9 h9 => by rw [e76]; exact (zup_n _ _ (by omega)).trans (hF37 j9 k9 h9)
                have r79 : M75 11 (sI a0).toNat = M35 11 (sI a0).toNat := by rw [e76]; exact zup_n _ _ (by omega)
                have o80 : 0 ≤ (sI (((12 * a0) + x34) - 1)) ∧ (sI (((12 * a0) + x34) - 1)) < 24 := by omega
                refine ⟨o80, ?_⟩
                have q81 : (-9) ≤ (M75 10 (sI (((12 * a0) + x34) - 1)).toNat) ∧ (M75 10 (sI (((12 * a0) + x34) - 1)).toNat) ≤ 9 := BN.at hB77.1 (rfl : zcd wR 10 = 60) rfl
                have o82 : 0 ≤ (sI ((12 * a0) + x34)) ∧ (sI ((12 * a0) + x34)) < 24 := by omega
                refine ⟨o82, ?_⟩
                intro M83 e84
                have hB85 : BI M83 := by rw [e84]; exact BI.up hB77 (rfl : zcd wR 10 = 60) rfl (by omega) (by omega) (by decide)
                have hF86 : ∀ j9 k9 : Nat, ¬ (j9 = 0 ∧ k9 = 35 ∨ j9 = 9 ∨ j9 = 10 ∨ j9 = 11) → M83 j9 k9 = M j9 k9 := fun j9 k9 h9 => by rw [e84]; exact (zup_n _ _ (by omega)).trans (hF78 j9 k9 h9)
                have r87 : M83 11 (sI a0).toNat = M75 11 (sI a0).toNat := by rw [e84]; exact zup_n _ _ (by omega)
                exact k41 _ _ ⟨hB85, hF86, (by omega), (by omega), trivial⟩ (by omega)
            · skip
              exact hQ _ _ ⟨hB3, hF4, (by omega), trivial⟩
          · skip
            have s88 := sI_R ((12 * a0) + x24)
            have s89 := sI_or ((12 * a0) + x24)
            have o90 : 0 ≤ (sI ((12 * a0) + x24)) ∧ (sI ((12 * a0) + x24)) < 24 := by omega
            refine ⟨o90, ?_⟩
            have q91 : 0 ≤ (M1 9 (sI ((12 * a0) + x24)).toNat) ∧ (M1 9 (sI ((12 * a0) + x24)).toNat) ≤ 5000 := BN.at hB3.1 (rfl : zcd wR 9 = 59) rfl
            have s92 : sI (M1 9 (sI ((12 * a0) + x24)).toNat) = (M1 9 (sI ((12 * a0) + x24)).toNat) := sIo (by omega) (by omega)
            have s93 : sI a1 = a1 := sIo (by omega) (by omega)
            refine ⟨fun c94 => ?_, fun c94 => ?_⟩
            · skip
              have o95 : 0 ≤ (sI ((12 * a0) + x24)) ∧ (sI ((12 * a0) + x24)) < 24 := by omega
              refine ⟨o95, ?_⟩
              intro M96 e97
              have hB98 : BI M96 := by rw [e97]; exact BI.up hB3 (rfl : zcd wR 9 = 59) rfl (by omega) (by omega) (by decide)
              have hF99 : ∀ j9 k9 : Nat, ¬ (j9 = 0 ∧ k9 = 35 ∨ j9 = 9 ∨ j9 = 10 ∨ j9 = 11) → M96 j9 k9 = M j9 k9 := fun j9 k9 h9 => by rw [e97]; exact (zup_n _ _ (by omega)).trans (hF4 j9 k9 h9)
              have r100 : M96 11 (sI a0).toNat = M1 11 (sI a0).toNat := by rw [e97]; exact zup_n _ _ (by omega)
              have o101 : 0 ≤ (sI ((12 * a0) + x24)) ∧ (sI ((12 * a0) + x24)) < 24 := by omega
              refine ⟨o101, ?_⟩
              intro M102 e103
              have hB104 : BI M102 := by rw [e103]; exact BI.up hB98 (rfl : zcd wR 10 = 60) rfl (by omega) (by omega) (by decide)
              have hF105 : ∀ j9 k9 : Nat, ¬ (j9 = 0 ∧ k9 = 35 ∨ j9 = 9 ∨ j9 = 10 ∨ j9 = 11) → M102 j9 k9 = M j9 k9 := fun j9 k9 h9 => by rw [e103]; exact (zup_n _ _ (by omega)).trans (hF99 j9 k9 h9)
              have r106 : M102 11 (sI a0).toNat = M96 11 (sI a0).toNat := by rw [e103]; exact zup_n _ _ (by omega)
              exact hQ _ _ ⟨hB104, hF105, (by omega), trivial⟩
            · skip
              refine ⟨fun c107 => ?_, fun c107 => ?_⟩
              · skip
                refine wL1_of (fun x108 M109 => BI M109 ∧ (∀ j9 k9 : Nat, ¬ (j9 = 0 ∧ k9 = 35 ∨ j9 = 9 ∨ j9 = 10 ∨ j9 = 11) → M109 j9 k9 = M j9 k9) ∧ (0 ≤ x108 ∧ x108 ≤ 11) ∧ (M109 11 (sI a0).toNat = M 11 (sI a0).toNat) ∧ True) (fun x108 M109 => (x108 + 1).toNat) ⟨hB3, hF4, (by omega), (by omega), trivial⟩ (fun K x108 M109 h114 k115 => ?_)
                obtain ⟨hB110, hF111, i112, i113, -⟩ := h114
                have s116 : sI x108 = x108 := sIo (by omega) (by omega)
                have s117 : sI x24 = x24 := sIo (by omega) (by omega)
                refine ⟨fun c118 => ?_, fun c118 => ?_⟩
                · skip
                  have s119 : sI a0 = a0 := sIo (by omega) (by omega)
                  have o120 : 0 ≤ (sI a0) ∧ (sI a0) < 2 := by omega
                  refine ⟨o120, ?_⟩
                  have q121 : 0 ≤ (M109 11 (sI a0).toNat) ∧ (M109 11 (sI a0).toNat) ≤ 12 := BN.at hB110.1 (rfl : zcd wR 11 = 61) rfl
                  have o122 : 0 ≤ (sI a0) ∧ (sI a0) < 2 := by omega
                  refine ⟨o122, ?_⟩
                  intro M123 e124
                  have hB125 : BI M123 := by rw [e124]; exact BI.up hB110 (rfl : zcd wR 11 = 61) rfl (by omega) (by omega) (by decide)
                  have hF126 : ∀ j9 k9 : Nat, ¬ (j9 = 0 ∧ k9 = 35 ∨ j9 = 9 ∨ j9 = 10 ∨ j9 = 11) → M123 j9 k9 = M j9 k9 := fun j9 k9 h9 => by rw [e124]; exact (zup_n _ _ (by omega)).trans (hF111 j9 k9 h9)
                  have r127 : M123 11 (sI a0).toNat = ((M109 11 (sI a0).toNat) + 1) := by rw [e124]; exact zup_s _ _ _ _
                  have s128 := sI_R ((12 * a0) + x24)
                  have s129 := sI_or ((12 * a0) + x24)
                  have o130 : 0 ≤ (sI ((12 * a0) + x24)) ∧ (sI ((12 * a0) + x24)) < 24 := by omega
                  refine ⟨o130, ?_⟩
                  intro M131 e132
                  have hB133 : BI M131 := by rw [e132]; exact BI.up hB125 (rfl : zcd wR 9 = 59) rfl (by omega) (by omega) (by decide)
                  have hF134 : ∀ j9 k9 : Nat, ¬ (j9 = 0 ∧ k9 = 35 ∨ j9 = 9 ∨ j9 = 10 ∨ j9 = 11) → M131 j9 k9 = M j9 k9 := fun j9 k9 h9 => by rw [e132]; exact (zup_n _ _ (by omega)).trans (hF126 j9 k9 h9)
                  have r135 : M131 11 (sI a0).toNat = M123 11 (sI a0).toNat := by rw [e132]; exact zup_n _ _ (by omega)
                  have o136 : 0 ≤ (sI ((12 * a0) + x24)) ∧ (sI ((12 * a0) + x24)) < 24 := by omega
                  refine ⟨o136, ?_⟩
                  intro M137 e138
                  have hB139 : BI M137 := by rw [e138]; exact BI.up hB133 (rfl : zcd wR 10 = 60) rfl (by omega) (by omega) (by decide)
                  have hF140 : ∀ j9 k9 : Nat, ¬ (j9 = 0 ∧ k9 = 35 ∨ j9 = 9 ∨ j9 = 10 ∨ j9 = 11) → M137 j9 k9 = M j9 k9 := fun j9 k9 h9 => by rw [e138]; exact (zup_n _ _ (by omega)).trans (hF134 j9 k9 h9)
                  have r141 : M137 11 (sI a0).toNat = M131 11 (sI a0).toNat := by rw [e138]; exact zup_n _ _ (by omega)
                  exact hQ _ _ ⟨hB139, hF140, (by omega), trivial⟩
                · skip
                  have s142 := sI_R (((12 * a0) + x108) - 1)
                  have s143 := sI_or (((12 * a0) + x108) - 1)
                  have o144 : 0 ≤ (sI (((12 * a0) + x108) - 1)) ∧ (sI (((12 * a0) + x108) - 1)) < 24 := by omega
                  refine ⟨o144, ?_⟩
                  have q145 : 0 ≤ (M109 9 (sI (((12 * a0) + x108) - 1)).toNat) ∧ (M109 9 (sI (((12 * a0) + x108) - 1)).toNat) ≤ 5000 := BN.at hB110.1 (rfl : zcd wR 9 = 59) rfl
                  have s146 := sI_R ((12 * a0) + x108)
                  have s147 := sI_or ((12 * a0) + x108)
                  have o148 : 0 ≤ (sI ((12 * a0) + x108)) ∧ (sI ((12 * a0) + x108)) < 24 := by omega
                  refine ⟨o148, ?_⟩
                  intro M149 e150
                  have hB151 : BI M149 := by rw [e150]; exact BI.up hB110 (rfl : zcd wR 9 = 59) rfl (by omega) (by omega) (by decide)
                  have hF152 : ∀ j9 k9 : Nat, ¬ (j9 = 0 ∧ k9 = 35 ∨ j9 = 9 ∨ j9 = 10 ∨ j9 = 11) → M149 j9 k9 = M j9 k9 := fun j9 k9 h9 => by rw [e150]; exact (zup_n _ _ (by omega)).trans (hF111 j9 k9 h9)
                  have r153 : M149 11 (sI a0).toNat = M109 11 (sI a0).toNat := by rw [e150]; exact zup_n _ _ (by omega)
                  have o154 : 0 ≤ (sI (((12 * a0) + x108) - 1)) ∧ (sI (((12 * a0) + x108) - 1)) < 24 := by omega
                  refine ⟨o154, ?_⟩
                  have q155 : (-9) ≤ (M149 10 (sI (((12 * a0) + x108) - 1)).toNat) ∧ (M149 10 (sI (((12 * a0) + x108) - 1)).toNat) ≤ 9 := BN.at hB151.1 (rfl : zcd wR 10 = 60) rfl
                  have o156 : 0 ≤ (sI ((12 * a0) + x108)) ∧ (sI ((12 * a0) + x108)) < 24 := by omega
                  refine ⟨o156, ?_⟩
                  intro M157 e158
                  have hB159 : BI M157 := by rw [e158]; exact BI.up hB151 (rfl : zcd wR 10 = 60) rfl (by omega) (by omega) (by decide)
                  have hF160 : ∀ j9 k9 : Nat, ¬ (j9 = 0 ∧ k9 = 35 ∨ j9 = 9 ∨ j9 = 10 ∨ j9 = 11) → M157 j9 k9 = M j9 k9 := fun j9 k9 h9 => by rw [e158]; exact (zup_n _ _ (by omega)).trans (hF152 j9 k9 h9)
                  have r161 : M157 11 (sI a0).toNat = M149 11 (sI a0).toNat := by rw [e158]; exact zup_n _ _ (by omega)
                  exact k115 _ _ ⟨hB159, hF160, (by omega), (by omega), trivial⟩ (by omega)
              · skip
                exact hQ _ _ ⟨hB3, hF4, (by omega), trivial⟩
        · skip
          have s162 := sI_R ((12 * a0) + x24)
          have s163 := sI_or ((12 * a0) + x24)
          have o164 : 0 ≤ (sI ((12 * a0) + x24)) ∧ (sI ((12 * a0) + x24)) < 24 := by omega
          refine ⟨o164, ?_⟩
          have q165 : 0 ≤ (M1 9 (sI ((12 * a0) + x24)).toNat) ∧ (M1 9 (sI ((12 * a0) + x24)).toNat) ≤ 5000 := BN.at hB3.1 (rfl : zcd wR 9 = 59) rfl
          have s166 : sI (M1 9 (sI ((12 * a0) + x24)).toNat) = (M1 9 (sI ((12 * a0) + x24)).toNat) := sIo (by omega) (by omega)
          have s167 : sI a1 = a1 := sIo (by omega) (by omega)
          refine ⟨fun c168 => ?_, fun c168 => ?_⟩
          · skip
            refine wJ0_dup ?_
            refine pJ0_dup ?_
            refine ⟨fun c169 => ?_, fun c169 => ?_⟩
            · skip
              refine ⟨fun c170 => ?_, fun c170 => ?_⟩
              · skip
                refine wL1_of (fun x171 M172 => BI M172 ∧ (∀ j9 k9 : Nat, ¬ (j9 = 0 ∧ k9 = 35 ∨ j9 = 9 ∨ j9 = 10 ∨ j9 = 11) → M172 j9 k9 = M j9 k9) ∧ (0 ≤ x171 ∧ x171 ≤ 11) ∧ (M172 11 (sI a0).toNat = M 11 (sI a0).toNat) ∧ True) (fun x171 M172 => (x171 + 1).toNat) ⟨hB3, hF4, (by omega), (by omega), trivial⟩ (fun K x171 M172 h177 k178 => ?_)
                obtain ⟨hB173, hF174, i175, i176, -⟩ := h177
                have s179 : sI x171 = x171 := sIo (by omega) (by omega)
                have s180 : sI x24 = x24 := sIo (by omega) (by omega)
                refine ⟨fun c181 => ?_, fun c181 => ?_⟩
                · skip
                  have s182 : sI a0 = a0 := sIo (by omega) (by omega)
                  have o183 : 0 ≤ (sI a0) ∧ (sI a0) < 2 := by omega
                  refine ⟨o183, ?_⟩
                  have q184 : 0 ≤ (M172 11 (sI a0).toNat) ∧ (M172 11 (sI a0).toNat) ≤ 12 := BN.at hB173.1 (rfl : zcd wR 11 = 61) rfl
                  have o185 : 0 ≤ (sI a0) ∧ (sI a0) < 2 := by omega
                  refine ⟨o185, ?_⟩
                  intro M186 e187
                  have hB188 : BI M186 := by rw [e187]; exact BI.up hB173 (rfl : zcd wR 11 = 61) rfl (by omega) (by omega) (by decide)
                  have hF189 : ∀ j9 k9 : Nat, ¬ (j9 = 0 ∧ k9 = 35 ∨ j9 = 9 ∨ j9 = 10 ∨ j9 = 11) → M186 j9 k9 = M j9 k9 := fun j9 k9 h9 => by rw [e187]; exact (zup_n _ _ (by omega)).trans (hF174 j9 k9 h9)
                  have r190 : M186 11 (sI a0).toNat = ((M172 11 (sI a0).toNat) + 1) := by rw [e187]; exact zup_s _ _ _ _
                  have s191 := sI_R ((12 * a0) + x24)
                  have s192 := sI_or ((12 * a0) + x24)
                  have o193 : 0 ≤ (sI ((12 * a0) + x24)) ∧ (sI ((12 * a0) + x24)) < 24 := by omega
                  refine ⟨o193, ?_⟩
                  intro M194 e195
                  have hB196 : BI M194 := by rw [e195]; exact BI.up hB188 (rfl : zcd wR 9 = 59) rfl (by omega) (by omega) (by decide)
                  have hF197 : ∀ j9 k9 : Nat, ¬ (j9 = 0 ∧ k9 = 35 ∨ j9 = 9 ∨ j9 = 10 ∨ j9 = 11) → M194 j9 k9 = M j9 k9 := fun j9 k9 h9 => by rw [e195]; exact (zup_n _ _ (by omega)).trans (hF189 j9 k9 h9)
                  have r198 : M194 11 (sI a0).toNat = M186 11 (sI a0).toNat := by rw [e195]; exact zup_n _ _ (by omega)
                  have o199 : 0 ≤ (sI ((12 * a0) + x24)) ∧ (sI ((12 * a0) + x24)) < 24 := by omega
                  refine ⟨o199, ?_⟩
                  intro M200 e201
                  have hB202 : BI M200 := by rw [e201]; exact BI.up hB196 (rfl : zcd wR 10 = 60) rfl (by omega) (by omega) (by decide)
                  have hF203 : ∀ j9 k9 : Nat, ¬ (j9 = 0 ∧ k9 = 35 ∨ j9 = 9 ∨ j9 = 10 ∨ j9 = 11) → M200 j9 k9 = M j9 k9 := fun j9 k9 h9 => by rw [e201]; exact (zup_n _ _ (by omega)).trans (hF197 j9 k9 h9)
                  have r204 : M200 11 (sI a0).toNat = M194 11 (sI a0).toNat := by rw [e201]; exact zup_n _ _ (by omega)
                  exact hQ _ _ ⟨hB202, hF203, (by omega), trivial⟩
                · skip
                  have s205 := sI_R (((12 * a0) + x171) - 1)
                  have s206 := sI_or (((12 * a0) + x171) - 1)
                  have o207 : 0 ≤ (sI (((12 * a0) + x171) - 1)) ∧ (sI (((12 * a0) + x171) - 1)) < 24 := by omega
                  refine ⟨o207, ?_⟩
                  have q208 : 0 ≤ (M172 9 (sI (((12 * a0) + x171) - 1)).toNat) ∧ (M172 9 (sI (((12 * a0) + x171) - 1)).toNat) ≤ 5000 := BN.at hB173.1 (rfl : zcd wR 9 = 59) rfl
                  have s209 := sI_R ((12 * a0) + x171)
                  have s210 := sI_or ((12 * a0) + x171)
                  have o211 : 0 ≤ (sI ((12 * a0) + x171)) ∧ (sI ((12 * a0) + x171)) < 24 := by omega
                  refine ⟨o211, ?_⟩
                  intro M212 e213
                  have hB214 : BI M212 := by rw [e213]; exact BI.up hB173 (rfl : zcd wR 9 = 59) rfl (by omega) (by omega) (by decide)
                  have hF215 : ∀ j9 k9 : Nat, ¬ (j9 = 0 ∧ k9 = 35 ∨ j9 = 9 ∨ j9 = 10 ∨ j9 = 11) → M212 j9 k9 = M j9 k9 := fun j9 k9 h9 => by rw [e213]; exact (zup_n _ _ (by omega)).trans (hF174 j9 k9 h9)
                  have r216 : M212 11 (sI a0).toNat = M172 11 (sI a0).toNat := by rw [e213]; exact zup_n _ _ (by omega)
                  have o217 : 0 ≤ (sI (((12 * a0) + x171) - 1)) ∧ (sI (((12 * a0) + x171) - 1)) < 24 := by omega
                  refine ⟨o217, ?_⟩
                  have q218 : (-9) ≤ (M212 10 (sI (((12 * a0) + x171) - 1)).toNat) ∧ (M212 10 (sI (((12 * a0) + x171) - 1)).toNat) ≤ 9 := BN.at hB214.1 (rfl : zcd wR 10 = 60) rfl
                  have o219 : 0 ≤ (sI ((12 * a0) + x171)) ∧ (sI ((12 * a0) + x171)) < 24 := by omega
                  refine ⟨o219, ?_⟩
                  intro M220 e221
                  have hB222 : BI M220 := by rw [e221]; exact BI.up hB214 (rfl : zcd wR 10 = 60) rfl (by omega) (by omega) (by decide)
                  have hF223 : ∀ j9 k9 : Nat, ¬ (j9 = 0 ∧ k9 = 35 ∨ j9 = 9 ∨ j9 = 10 ∨ j9 = 11) → M220 j9 k9 = M j9 k9 := fun j9 k9 h9 => by rw [e221]; exact (zup_n _ _ (by omega)).trans (hF215 j9 k9 h9)
                  have r224 : M220 11 (sI a0).toNat = M212 11 (sI a0).toNat := by rw [e221]; exact zup_n _ _ (by omega)
                  exact k178 _ _ ⟨hB222, hF223, (by omega), (by omega), trivial⟩ (by omega)
              · skip
                exact hQ _ _ ⟨hB3, hF4, (by omega), trivial⟩
            · skip
              have o225 : 0 ≤ (sI ((12 * a0) + x24)) ∧ (sI ((12 * a0) + x24)) < 24 := by omega
              refine ⟨o225, ?_⟩
              refine ⟨fun c227 => ?_, fun c227 => ?_⟩
              · skip
                have o228 : 0 ≤ (sI ((12 * a0) + x24)) ∧ (sI ((12 * a0) + x24)) < 24 := by omega
                refine ⟨o228, ?_⟩
                intro M229 e230
                have hB231 : BI M229 := by rw [e230]; exact BI.up hB3 (rfl : zcd wR 9 = 59) rfl (by omega) (by omega) (by decide)
                have hF232 : ∀ j9 k9 : Nat, ¬ (j9 = 0 ∧ k9 = 35 ∨ j9 = 9 ∨ j9 = 10 ∨ j9 = 11) → M229 j9 k9 = M j9 k9 := fun j9 k9 h9 => by rw [e230]; exact (zup_n _ _ (by omega)).trans (hF4 j9 k9 h9)
                have r233 : M229 11 (sI a0).toNat = M1 11 (sI a0).toNat := by rw [e230]; exact zup_n _ _ (by omega)
                have o234 : 0 ≤ (sI ((12 * a0) + x24)) ∧ (sI ((12 * a0) + x24)) < 24 := by omega
                refine ⟨o234, ?_⟩
                intro M235 e236
                have hB237 : BI M235 := by rw [e236]; exact BI.up hB231 (rfl : zcd wR 10 = 60) rfl (by omega) (by omega) (by decide)
                have hF238 : ∀ j9 k9 : Nat, ¬ (j9 = 0 ∧ k9 = 35 ∨ j9 = 9 ∨ j9 = 10 ∨ j9 = 11) → M235 j9 k9 = M j9 k9 := fun j9 k9 h9 => by rw [e236]; exact (zup_n _ _ (by omega)).trans (hF232 j9 k9 h9)
                have r239 : M235 11 (sI a0).toNat = M229 11 (sI a0).toNat := by rw [e236]; exact zup_n _ _ (by omega)
                exact hQ _ _ ⟨hB237, hF238, (by omega), trivial⟩
              · skip
                refine ⟨fun c240 => ?_, fun c240 => ?_⟩
                · skip
                  refine wL1_of (fun x241 M242 => BI M242 ∧ (∀ j9 k9 : Nat, ¬ (j9 = 0 ∧ k9 = 35 ∨ j9 = 9 ∨ j9 = 10 ∨ j9 = 11) → M242 j9 k9 = M j9 k9) ∧ (0 ≤ x241 ∧ x241 ≤ 11) ∧ (M242 11 (sI a0).toNat = M 11 (sI a0).toNat) ∧ True) (fun x241 M242 => (x241 + 1).toNat) ⟨hB3, hF4, (by omega), (by omega), trivial⟩ (fun K x241 M242 h247 k248 => ?_)
                  obtain ⟨hB243, hF244, i245, i246, -⟩ := h247
                  have s249 : sI x241 = x241 := sIo (by omega) (by omega)
                  have s250 : sI x24 = x24 := sIo (by omega) (by omega)
                  refine ⟨fun c251 => ?_, fun c251 => ?_⟩
                  · skip
                    have s252 : sI a0 = a0 := sIo (by omega) (by omega)
                    have o253 : 0 ≤ (sI a0) ∧ (sI a0) < 2 := by omega
                    refine ⟨o253, ?_⟩
                    have q254 : 0 ≤ (M242 11 (sI a0).toNat) ∧ (M242 11 (sI a0).toNat) ≤ 12 := BN.at hB243.1 (rfl : zcd wR 11 = 61) rfl
                    have o255 : 0 ≤ (sI a0) ∧ (sI a0) < 2 := by omega
                    refine ⟨o255, ?_⟩
                    intro M256 e257
                    have hB258 : BI M256 := by rw [e257]; exact BI.up hB243 (rfl : zcd wR 11 = 61) rfl (by omega) (by omega) (by decide)
                    have hF259 : ∀ j9 k9 : Nat, ¬ (j9 = 0 ∧ k9 = 35 ∨ j9 = 9 ∨ j9 = 10 ∨ j9 = 11) → M256 j9 k9 = M j9 k9 := fun j9 k9 h9 => by rw [e257]; exact (zup_n _ _ (by omega)).trans (hF244 j9 k9 h9)
                    have r260 : M256 11 (sI a0).toNat = ((M242 11 (sI a0).toNat) + 1) := by rw [e257]; exact zup_s _ _ _ _
                    have s261 := sI_R ((12 * a0) + x24)
                    have s262 := sI_or ((12 * a0) + x24)
                    have o263 : 0 ≤ (sI ((12 * a0) + x24)) ∧ (sI ((12 * a0) + x24)) < 24 := by omega
                    refine ⟨o263, ?_⟩
                    intro M264 e265
                    have hB266 : BI M264 := by rw [e265]; exact BI.up hB258 (rfl : zcd wR 9 = 59) rfl (by omega) (by omega) (by decide)
                    have hF267 : ∀ j9 k9 : Nat, ¬ (j9 = 0 ∧ k9 = 35 ∨ j9 = 9 ∨ j9 = 10 ∨ j9 = 11) → M264 j9 k9 = M j9 k9 := fun j9 k9 h9 => by rw [e265]; exact (zup_n _ _ (by omega)).trans (hF259 j9 k9 h9)
                    have r268 : M264 11 (sI a0).toNat = M256 11 (sI a0).toNat := by rw [e265]; exact zup_n _ _ (by omega)
                    have o269 : 0 ≤ (sI ((12 * a0) + x24)) ∧ (sI ((12 * a0) + x24)) < 24 := by omega
                    refine ⟨o269, ?_⟩
                    intro M270 e271
                    have hB272 : BI M270 := by rw [e271]; exact BI.up hB266 (rfl : zcd wR 10 = 60) rfl (by omega) (by omega) (by decide)
                    have hF273 : ∀ j9 k9 : Nat, ¬ (j9 = 0 ∧ k9 = 35 ∨ j9 = 9 ∨ j9 = 10 ∨ j9 = 11) → M270 j9 k9 = M j9 k9 := fun j9 k9 h9 => by rw [e271]; exact (zup_n _ _ (by omega)).trans (hF267 j9 k9 h9)
                    have r274 : M270 11 (sI a0).toNat = M264 11 (sI a0).toNat := by rw [e271]; exact zup_n _ _ (by omega)
                    exact hQ _ _ ⟨hB272, hF273, (by omega), trivial⟩
                  · skip
                    have s275 := sI_R (((12 * a0) + x241) - 1)
                    have s276 := sI_or (((12 * a0) + x241) - 1)
                    have o277 : 0 ≤ (sI (((12 * a0) + x241) - 1)) ∧ (sI (((12 * a0) + x241) - 1)) < 24 := by omega
                    refine ⟨o277, ?_⟩
                    have q278 : 0 ≤ (M242 9 (sI (((12 * a0) + x241) - 1)).toNat) ∧ (M242 9 (sI (((12 * a0) + x241) - 1)).toNat) ≤ 5000 := BN.at hB243.1 (rfl : zcd wR 9 = 59) rfl
                    have s279 := sI_R ((12 * a0) + x241)
                    have s280 := sI_or ((12 * a0) + x241)
                    have o281 : 0 ≤ (sI ((12 * a0) + x241)) ∧ (sI ((12 * a0) + x241)) < 24 := by omega
                    refine ⟨o281, ?_⟩
                    intro M282 e283
                    have hB284 : BI M282 := by rw [e283]; exact BI.up hB243 (rfl : zcd wR 9 = 59) rfl (by omega) (by omega) (by decide)
                    have hF285 : ∀ j9 k9 : Nat, ¬ (j9 = 0 ∧ k9 = 35 ∨ j9 = 9 ∨ j9 = 10 ∨ j9 = 11) → M282 j9 k9 = M j9 k9 := fun j9 k9 h9 => by rw [e283]; exact (zup_n _ _ (by omega)).trans (hF244 j9 k9 h9)
                    have r286 : M282 11 (sI a0).toNat = M242 11 (sI a0).toNat := by rw [e283]; exact zup_n _ _ (by omega)
                    have o287 : 0 ≤ (sI (((12 * a0) + x241) - 1)) ∧ (sI (((12 * a0) + x241) - 1)) < 24 := by omega
                    refine ⟨o287, ?_⟩
                    have q288 : (-9) ≤ (M282 10 (sI (((12 * a0) + x241) - 1)).toNat) ∧ (M282 10 (sI (((12 * a0) + x241) - 1)).toNat) ≤ 9 := BN.at hB284.1 (rfl : zcd wR 10 = 60) rfl
                    have o289 : 0 ≤ (sI ((12 * a0) + x241)) ∧ (sI ((12 * a0) + x241)) < 24 := by omega
                    refine ⟨o289, ?_⟩
                    intro M290 e291
                    have hB292 : BI M290 := by rw [e291]; exact BI.up hB284 (rfl : zcd wR 10 = 60) rfl (by omega) (by omega) (by decide)
                    have hF293 : ∀ j9 k9 : Nat, ¬ (j9 = 0 ∧ k9 = 35 ∨ j9 = 9 ∨ j9 = 10 ∨ j9 = 11) → M290 j9 k9 = M j9 k9 := fun j9 k9 h9 => by rw [e291]; exact (zup_n _ _ (by omega)).trans (hF285 j9 k9 h9)
                    have r294 : M290 11 (sI a0).toNat = M282 11 (sI a0).toNat := by rw [e291]; exact zup_n _ _ (by omega)
                    exact k248 _ _ ⟨hB292, hF293, (by omega), (by omega), trivial⟩ (by omega)
                · skip
                  exact hQ _ _ ⟨hB3, hF4, (by omega), trivial⟩
          · skip
            exact k28 _ ⟨(by omega), (by omega), trivial⟩ (by omega)
      · skip
        exact hQ _ _ ⟨hB3, hF4, (by omega), trivial⟩
