/-! safety of the model, 4 -/
set_option maxHeartbeats 4000000 in
set_option maxRecDepth 100000 in
theorem sR_pairAt {M : zM} {a0 : Int} (hB : BI M) (v0 : 0 ≤ a0 ∧ a0 ≤ 2147483647) {Q : Int → Prop} (hQ : ∀ (z : Int), ((-1) ≤ z ∧ z ≤ 2424) ∧ (z = -1 ∨ (101 ≤ z ∧ z ≤ 2424 ∧ 1 ≤ z % 100 ∧ z % 100 ≤ 24)) ∧ True → Q z) : wR_pairAt a0 M Q := by
  unfold wR_pairAt
  refine pL2_of (fun x1 x2 => (0 ≤ x1 ∧ x1 ≤ 2147483647) ∧ (2 ≤ x2 ∧ x2 ≤ 49) ∧ True) (fun x1 x2 => (1000000 - x2).toNat) ⟨(by omega), (by omega), trivial⟩ (fun K x1 x2 h5 k6 => ?_)
  obtain ⟨i3, i4, -⟩ := h5
  have s7 : sI x2 = x2 := sIo (by omega) (by omega)
  refine ⟨fun c8 => ?_, fun c8 => ?_⟩
  · skip
    exact hQ _ ⟨(by omega), (by omega), trivial⟩
  · skip
    have s9 : sI (x2 - 24) = (x2 - 24) := sIo (by omega) (by omega)
    refine pL2_of (fun x10 x11 => (0 ≤ x10 ∧ x10 ≤ 2147483647) ∧ (1 ≤ x11 ∧ x11 ≤ 25) ∧ (x2 - 24 ≤ x11) ∧ (x11 ≤ x2) ∧ True) (fun x10 x11 => (1000000 - x11).toNat) ⟨(by omega), (by omega), (by omega), (by omega), trivial⟩ (fun K x10 x11 h16 k17 => ?_)
    obtain ⟨i12, i13, i14, i15, -⟩ := h16
    have s18 : sI (2 * x11) = (2 * x11) := sIo (by omega) (by omega)
    have s19 : sI x2 = x2 := sIo (by omega) (by omega)
    refine ⟨fun c20 => ?_, fun c20 => ?_⟩
    · skip
      exact k6 _ _ ⟨(by omega), (by omega), trivial⟩ (by omega)
    · skip
      refine sR_isPair hB (by omega) (by omega) (fun z21  h22 => ?_)
      obtain ⟨p23, -⟩ := h22
      refine ⟨fun c24 => ?_, fun c24 => ?_⟩
      · skip
        have s25 : sI x10 = x10 := sIo (by omega) (by omega)
        refine ⟨fun c26 => ?_, fun c26 => ?_⟩
        · skip
          exact k17 _ _ ⟨(by omega), (by omega), (by omega), (by omega), trivial⟩ (by omega)
        · skip
          have s27 : sI (((100 * x11) + x2) - x11) = (((100 * x11) + x2) - x11) := sIo (by omega) (by omega)
          exact hQ _ ⟨(by omega), (by omega), trivial⟩
      · skip
        exact k17 _ _ ⟨(by omega), (by omega), (by omega), (by omega), trivial⟩ (by omega)
set_option maxHeartbeats 4000000 in
set_option maxRecDepth 100000 in
theorem sR_pair {M : zM} {a0 : Int} (hB : BI M) (v0 : (-2147483648) ≤ a0 ∧ a0 ≤ 2147483647) {Q : Int → zM → Prop} (hQ : ∀ (z : Int) (M1 : zM), BI M1 ∧ (∀ j9 k9 : Nat, ¬ (j9 = 0 ∧ k9 = 35) → M1 j9 k9 = M j9 k9) ∧ ((-2147483648) ≤ z ∧ z ≤ 2147483647) ∧ True → Q z M1) : wR_pair a0 M Q := by
  unfold wR_pair
  have hF0 : ∀ j9 k9 : Nat, ¬ (j9 = 0 ∧ k9 = 35) → M j9 k9 = M j9 k9 := fun j9 k9 _ => rfl
  intro M1 e2
  have hB3 : BI M1 := by rw [e2]; exact BI.up0 hB rfl (by omega) (by omega) (by decide)
  have hF4 : ∀ j9 k9 : Nat, ¬ (j9 = 0 ∧ k9 = 35) → M1 j9 k9 = M j9 k9 := fun j9 k9 h9 => by rw [e2]; exact (zup_n _ _ (by omega)).trans (hF0 j9 k9 h9)
  have s5 : sI a0 = a0 := sIo (by omega) (by omega)
  refine ⟨fun c6 => ?_, fun c6 => ?_⟩
  · skip
    refine sR_pairAt hB3 (by omega) (fun z7  h8 => ?_)
    obtain ⟨p9, p10, -⟩ := h8
    exact hQ _ _ ⟨hB3, hF4, (by omega), trivial⟩
  · skip
    exact hQ _ _ ⟨hB3, hF4, (by omega), trivial⟩
set_option maxHeartbeats 4000000 in
set_option maxRecDepth 100000 in
theorem sR_mended {M : zM} {a0 : Int} (hB : BI M) (v0 : (-2147483648) ≤ a0 ∧ a0 ≤ 2147483647) {Q : Int → zM → Prop} (hQ : ∀ (z : Int) (M1 : zM), BI M1 ∧ (∀ j9 k9 : Nat, ¬ (j9 = 0 ∧ k9 = 35) → M1 j9 k9 = M j9 k9) ∧ ((-2147483648) ≤ z ∧ z ≤ 2147483647) ∧ True → Q z M1) : wR_mended a0 M Q := by
  unfold wR_mended
  have hF0 : ∀ j9 k9 : Nat, ¬ (j9 = 0 ∧ k9 = 35) → M j9 k9 = M j9 k9 := fun j9 k9 _ => rfl
  intro M1 e2
  have hB3 : BI M1 := by rw [e2]; exact BI.up0 hB rfl (by omega) (by omega) (by decide)
  have hF4 : ∀ j9 k9 : Nat, ¬ (j9 = 0 ∧ k9 = 35) → M1 j9 k9 = M j9 k9 := fun j9 k9 h9 => by rw [e2]; exact (zup_n _ _ (by omega)).trans (hF0 j9 k9 h9)
  have q5 : 0 ≤ (M1 0 24) ∧ (M1 0 24) ≤ 60 := BN.at hB3.1 (rfl : zcd wR 0 = 50) rfl
  refine sR_in hB3 (by omega) (by omega) (by omega) (fun z6  h7 => ?_)
  obtain ⟨p8, p9, -⟩ := h7
  refine ⟨fun c10 => ?_, fun c10 => ?_⟩
  · skip
    refine sR_pairAt hB3 (by omega) (fun z11  h12 => ?_)
    obtain ⟨p13, p14, -⟩ := h12
    refine ⟨fun c15 => ?_, fun c15 => ?_⟩
    · skip
      have q16 : (z11.tdiv 100) = z11 / 100 := Int.tdiv_eq_ediv_of_nonneg (by omega)
      refine sR_most hB3 (by omega) (by omega) (fun z17  h18 => ?_)
      obtain ⟨p19, -⟩ := h18
      have q20 : (z11.tmod 100) = z11 % 100 := Int.tmod_eq_emod_of_nonneg (by omega)
      refine sR_most hB3 (by omega) (by omega) (fun z21  h22 => ?_)
      obtain ⟨p23, -⟩ := h22
      have q24 := orI_R z17 z21
      exact hQ _ _ ⟨hB3, hF4, (by omega), trivial⟩
    · skip
      exact hQ _ _ ⟨hB3, hF4, (by omega), trivial⟩
  · skip
    exact hQ _ _ ⟨hB3, hF4, (by omega), trivial⟩
set_option maxHeartbeats 4000000 in
set_option maxRecDepth 100000 in
theorem sR_piece {M : zM} {a0 : Int} {a1 : Int} (hB : BI M) (v0 : (-2147483648) ≤ a0 ∧ a0 ≤ 2147483647) (v1 : (-2147483648) ≤ a1 ∧ a1 ≤ 2147483647) {Q : Int → zM → Prop} (hQ : ∀ (z : Int) (M1 : zM), BI M1 ∧ (∀ j9 k9 : Nat, ¬ (j9 = 0 ∧ k9 = 35 ∨ j9 = 0 ∧ k9 = 27 ∨ j9 = 16 ∨ j9 = 17) → M1 j9 k9 = M j9 k9) ∧ ((-2147483648) ≤ z ∧ z ≤ 2147483647) ∧ ((M 0 27 < 5 ∧ z = M 0 27 ∧ M1 0 27 = M 0 27 + 1) ∨ (z = -1 ∧ M1 0 27 = M 0 27)) ∧ True → Q z M1) : wR_piece a0 a1 M Q := by
  unfold wR_piece
  have hF0 : ∀ j9 k9 : Nat, ¬ (j9 = 0 ∧ k9 = 35 ∨ j9 = 0 ∧ k9 = 27 ∨ j9 = 16 ∨ j9 = 17) → M j9 k9 = M j9 k9 := fun j9 k9 _ => rfl
  intro M1 e2
  have hB3 : BI M1 := by rw [e2]; exact BI.up0 hB rfl (by omega) (by omega) (by decide)
  have hF4 : ∀ j9 k9 : Nat, ¬ (j9 = 0 ∧ k9 = 35 ∨ j9 = 0 ∧ k9 = 27 ∨ j9 = 16 ∨ j9 = 17) → M1 j9 k9 = M j9 k9 := fun j9 k9 h9 => by rw [e2]; exact (zup_n _ _ (by omega)).trans (hF0 j9 k9 h9)
  have r5 : M1 0 27 = M 0 27 := by rw [e2]; exact zup_n _ _ (by omega)
  refine sR_in hB3 (by omega) (by omega) (by omega) (fun z6  h7 => ?_)
  obtain ⟨p8, p9, -⟩ := h7
  refine ⟨fun c10 => ?_, fun c10 => ?_⟩
  · skip
    exact hQ _ _ ⟨hB3, hF4, (by omega), (by omega), trivial⟩
  · skip
    have q11 : 0 ≤ (M1 0 27) ∧ (M1 0 27) ≤ 5 := BN.at hB3.1 (rfl : zcd wR 0 = 50) rfl
    have s12 : sI (M1 0 27) = (M1 0 27) := sIo (by omega) (by omega)
    refine ⟨fun c13 => ?_, fun c13 => ?_⟩
    · skip
      refine pL1_of (fun x14 => (0 ≤ x14 ∧ x14 ≤ 1000000) ∧ True) (fun x14 => (1000000 - x14).toNat) ⟨(by omega), trivial⟩ (fun K x14 h16 k17 => ?_)
      obtain ⟨i15, -⟩ := h16
      have s18 : sI x14 = x14 := sIo (by omega) (by omega)
      have s19 : sI a1 = a1 := sIo (by omega) (by omega)
      refine ⟨fun c20 => ?_, fun c20 => ?_⟩
      · skip
        refine wL1_of (fun x21 M22 => BI M22 ∧ (∀ j9 k9 : Nat, ¬ (j9 = 0 ∧ k9 = 35 ∨ j9 = 0 ∧ k9 = 27 ∨ j9 = 16 ∨ j9 = 17) → M22 j9 k9 = M j9 k9) ∧ (0 ≤ x21 ∧ x21 ≤ 1000000) ∧ (M22 0 27 = M 0 27) ∧ True) (fun x21 M22 => (1000000 - x21).toNat) ⟨hB3, hF4, (by omega), (by omega), trivial⟩ (fun K x21 M22 h27 k28 => ?_)
        obtain ⟨hB23, hF24, i25, i26, -⟩ := h27
        have s29 : sI x21 = x21 := sIo (by omega) (by omega)
        have s30 : sI a1 = a1 := sIo (by omega) (by omega)
        refine ⟨fun c31 => ?_, fun c31 => ?_⟩
        · skip
          have q32 : 0 ≤ (M22 0 27) ∧ (M22 0 27) ≤ 5 := BN.at hB23.1 (rfl : zcd wR 0 = 50) rfl
          have s33 : sI (M22 0 27) = (M22 0 27) := sIo (by omega) (by omega)
          have o34 : 0 ≤ (sI (M22 0 27)) ∧ (sI (M22 0 27)) < 5 := by omega
          refine ⟨o34, ?_⟩
          intro M35 e36
          have hB37 : BI M35 := by rw [e36]; exact BI.up hB23 (rfl : zcd wR 17 = 67) rfl (by omega) (by omega) (by decide)
          have hF38 : ∀ j9 k9 : Nat, ¬ (j9 = 0 ∧ k9 = 35 ∨ j9 = 0 ∧ k9 = 27 ∨ j9 = 16 ∨ j9 = 17) → M35 j9 k9 = M j9 k9 := fun j9 k9 h9 => by rw [e36]; exact (zup_n _ _ (by omega)).trans (hF24 j9 k9 h9)
          have r39 : M35 0 27 = M22 0 27 := by rw [e36]; exact zup_n _ _ (by omega)
          have q40 : 0 ≤ (M35 0 27) ∧ (M35 0 27) ≤ 5 := BN.at hB37.1 (rfl : zcd wR 0 = 50) rfl
          intro M41 e42
          have hB43 : BI M41 := by rw [e42]; exact BI.up0 hB37 rfl (by omega) (by omega) (by decide)
          have hF44 : ∀ j9 k9 : Nat, ¬ (j9 = 0 ∧ k9 = 35 ∨ j9 = 0 ∧ k9 = 27 ∨ j9 = 16 ∨ j9 = 17) → M41 j9 k9 = M j9 k9 := fun j9 k9 h9 => by rw [e42]; exact (zup_n _ _ (by omega)).trans (hF38 j9 k9 h9)
          have r45 : M41 0 27 = ((M35 0 27) + 1) := by rw [e42]; exact zup_s _ _ _ _
          have q46 : 0 ≤ (M41 0 27) ∧ (M41 0 27) ≤ 5 := BN.at hB43.1 (rfl : zcd wR 0 = 50) rfl
          have s47 : sI ((M41 0 27) - 1) = ((M41 0 27) - 1) := sIo (by omega) (by omega)
          exact hQ _ _ ⟨hB43, hF44, (by omega), (by omega), trivial⟩
        · skip
          have q48 : 0 ≤ (M22 0 27) ∧ (M22 0 27) ≤ 5 := BN.at hB23.1 (rfl : zcd wR 0 = 50) rfl
          have q49 := ushrI_R a0 (28 - (4 * x21))
          have q50 := andI_br (ushrI a0 (28 - (4 * x21))) (c := 15) (by decide) (by decide)
          have s51 : sI ((8 * (M22 0 27)) + x21) = ((8 * (M22 0 27)) + x21) := sIo (by omega) (by omega)
          have o52 : 0 ≤ (sI ((8 * (M22 0 27)) + x21)) ∧ (sI ((8 * (M22 0 27)) + x21)) < 40 := by omega
          refine ⟨o52, ?_⟩
          intro M53 e54
          have hB55 : BI M53 := by rw [e54]; exact BI.up hB23 (rfl : zcd wR 16 = 66) rfl (by omega) (by omega) (by decide)
          have hF56 : ∀ j9 k9 : Nat, ¬ (j9 = 0 ∧ k9 = 35 ∨ j9 = 0 ∧ k9 = 27 ∨ j9 = 16 ∨ j9 = 17) → M53 j9 k9 = M j9 k9 := fun j9 k9 h9 => by rw [e54]; exact (zup_n _ _ (by omega)).trans (hF24 j9 k9 h9)
          have r57 : M53 0 27 = M22 0 27 := by rw [e54]; exact zup_n _ _ (by omega)
          exact k28 _ _ ⟨hB55, hF56, (by omega), (by omega), trivial⟩ (by omega)
      · skip
        have q58 := ushrI_R a0 (28 - (4 * x14))
        have q59 := andI_br (ushrI a0 (28 - (4 * x14))) (c := 15) (by decide) (by decide)
        refine ⟨fun c60 => ?_, fun c60 => ?_⟩
        · skip
          exact k17 _ ⟨(by omega), trivial⟩ (by omega)
        · skip
          exact hQ _ _ ⟨hB3, hF4, (by omega), (by omega), trivial⟩
    · skip
      exact hQ _ _ ⟨hB3, hF4, (by omega), (by omega), trivial⟩
set_option maxHeartbeats 4000000 in
set_option maxRecDepth 100000 in
theorem sR_burn {M : zM}  (hB : BI M)  {Q : Int → zM → Prop} (hQ : ∀ (z : Int) (M1 : zM), BI M1 ∧ (∀ j9 k9 : Nat, ¬ (j9 = 0 ∧ k9 = 35 ∨ j9 = 0 ∧ k9 = 27) → M1 j9 k9 = M j9 k9) ∧ ((-2147483648) ≤ z ∧ z ≤ 2147483647) ∧ (z = M 0 27 ∧ M1 0 27 = 0) ∧ True → Q z M1) : wR_burn  M Q := by
  unfold wR_burn
  have hF0 : ∀ j9 k9 : Nat, ¬ (j9 = 0 ∧ k9 = 35 ∨ j9 = 0 ∧ k9 = 27) → M j9 k9 = M j9 k9 := fun j9 k9 _ => rfl
  intro M1 e2
  have hB3 : BI M1 := by rw [e2]; exact BI.up0 hB rfl (by omega) (by omega) (by decide)
  have hF4 : ∀ j9 k9 : Nat, ¬ (j9 = 0 ∧ k9 = 35 ∨ j9 = 0 ∧ k9 = 27) → M1 j9 k9 = M j9 k9 := fun j9 k9 h9 => by rw [e2]; exact (zup_n _ _ (by omega)).trans (hF0 j9 k9 h9)
  have r5 : M1 0 27 = M 0 27 := by rw [e2]; exact zup_n _ _ (by omega)
  have q6 : 0 ≤ (M1 0 27) ∧ (M1 0 27) ≤ 5 := BN.at hB3.1 (rfl : zcd wR 0 = 50) rfl
  intro M7 e8
  have hB9 : BI M7 := by rw [e8]; exact BI.up0 hB3 rfl (by omega) (by omega) (by decide)
  have hF10 : ∀ j9 k9 : Nat, ¬ (j9 = 0 ∧ k9 = 35 ∨ j9 = 0 ∧ k9 = 27) → M7 j9 k9 = M j9 k9 := fun j9 k9 h9 => by rw [e8]; exact (zup_n _ _ (by omega)).trans (hF4 j9 k9 h9)
  have r11 : M7 0 27 = 0 := by rw [e8]; exact zup_s _ _ _ _
  have s12 : sI (M1 0 27) = (M1 0 27) := sIo (by omega) (by omega)
  exact hQ _ _ ⟨hB9, hF10, (by omega), (by omega), trivial⟩
set_option maxHeartbeats 4000000 in
set_option maxRecDepth 100000 in
theorem sR_sound {M : zM} {a0 : Int} {a1 : Int} {a2 : Int} (hB : BI M) (v0 : 0 ≤ a0 ∧ a0 ≤ 4) (v1 : (-2147483648) ≤ a1 ∧ a1 ≤ 2147483647) (v2 : 0 ≤ a2 ∧ a2 ≤ 7) (p0 : a2 < M 17 (sI a0).toNat) {Q : Int → Prop} (hQ : ∀ (z : Int), ((-2147483648) ≤ z ∧ z ≤ 2147483647) ∧ True → Q z) : wR_sound a0 a1 a2 M Q := by
  unfold wR_sound
  have s1 : sI a1 = a1 := sIo (by omega) (by omega)
  refine ⟨fun c2 => ?_, fun c2 => ?_⟩
  · skip
    have s3 : sI ((8 * a0) + a2) = ((8 * a0) + a2) := sIo (by omega) (by omega)
    have o4 : 0 ≤ (sI ((8 * a0) + a2)) ∧ (sI ((8 * a0) + a2)) < 40 := by omega
    refine ⟨o4, ?_⟩
    have q5 : (-2147483648) ≤ (M 16 (sI ((8 * a0) + a2)).toNat) ∧ (M 16 (sI ((8 * a0) + a2)).toNat) ≤ 2147483647 := BN.at hB.1 (rfl : zcd wR 16 = 66) rfl
    have s6 : sI (M 16 (sI ((8 * a0) + a2)).toNat) = (M 16 (sI ((8 * a0) + a2)).toNat) := sIo (by omega) (by omega)
    exact hQ _ ⟨(by omega), trivial⟩
  · skip
    have s7 : sI a0 = a0 := sIo (by omega) (by omega)
    have o8 : 0 ≤ (sI a0) ∧ (sI a0) < 5 := by omega
    refine ⟨o8, ?_⟩
    have q9 : 0 ≤ (M 17 (sI a0).toNat) ∧ (M 17 (sI a0).toNat) ≤ 8 := BN.at hB.1 (rfl : zcd wR 17 = 67) rfl
    have s10 : sI ((8 * a0) + (((M 17 (sI a0).toNat) - 1) - a2)) = ((8 * a0) + (((M 17 (sI a0).toNat) - 1) - a2)) := sIo (by omega) (by omega)
    have o11 : 0 ≤ (sI ((8 * a0) + (((M 17 (sI a0).toNat) - 1) - a2))) ∧ (sI ((8 * a0) + (((M 17 (sI a0).toNat) - 1) - a2))) < 40 := by omega
    refine ⟨o11, ?_⟩
    have q12 : (-2147483648) ≤ (M 16 (sI ((8 * a0) + (((M 17 (sI a0).toNat) - 1) - a2))).toNat) ∧ (M 16 (sI ((8 * a0) + (((M 17 (sI a0).toNat) - 1) - a2))).toNat) ≤ 2147483647 := BN.at hB.1 (rfl : zcd wR 16 = 66) rfl
    have s13 : sI (M 16 (sI ((8 * a0) + (((M 17 (sI a0).toNat) - 1) - a2))).toNat) = (M 16 (sI ((8 * a0) + (((M 17 (sI a0).toNat) - 1) - a2))).toNat) := sIo (by omega) (by omega)
    exact hQ _ ⟨(by omega), trivial⟩
set_option maxHeartbeats 4000000 in
set_option maxRecDepth 100000 in
theorem sR_lies {M : zM} {a0 : Int} {a1 : Int} {a2 : Int} {a3 : Int} {a4 : Int} (hB : BI M) (v0 : 0 ≤ a0 ∧ a0 ≤ 200) (v1 : 0 ≤ a1 ∧ a1 ≤ 40) (v2 : 0 ≤ a2 ∧ a2 ≤ 4) (v3 : (-2147483648) ≤ a3 ∧ a3 ≤ 2147483647) (v4 : 0 ≤ a4 ∧ a4 ≤ 8) (p0 : a4 ≤ a1) (p1 : a4 ≤ M 17 (sI a2).toNat) {Q : Int → Prop} (hQ : ∀ (z : Int), (0 ≤ z ∧ z ≤ 1) ∧ (a4 ≤ 0 → z = 1) ∧ True → Q z) : wR_lies a0 a1 a2 a3 a4 M Q := by
  unfold wR_lies
  refine pL1_of (fun x1 => (0 ≤ x1 ∧ x1 ≤ 1000000) ∧ True) (fun x1 => (1000000 - x1).toNat) ⟨(by omega), trivial⟩ (fun K x1 h3 k4 => ?_)
  obtain ⟨i2, -⟩ := h3
  have s5 : sI x1 = x1 := sIo (by omega) (by omega)
  have s6 : sI a4 = a4 := sIo (by omega) (by omega)
  refine ⟨fun c7 => ?_, fun c7 => ?_⟩
  · skip
    exact hQ _ ⟨(by omega), (by omega), trivial⟩
  · skip
    have s8 : sI (((a0 + a1) - a4) + x1) = (((a0 + a1) - a4) + x1) := sIo (by omega) (by omega)
    have o9 : 0 ≤ (sI (((a0 + a1) - a4) + x1)) ∧ (sI (((a0 + a1) - a4) + x1)) < 240 := by omega
    refine ⟨o9, ?_⟩
    have q10 : (-2147483648) ≤ (M 31 (sI (((a0 + a1) - a4) + x1)).toNat) ∧ (M 31 (sI (((a0 + a1) - a4) + x1)).toNat) ≤ 2147483647 := BN.at hB.1 (rfl : zcd wR 31 = 81) rfl
    refine sR_sound hB (by omega) (by omega) (by omega) (by omega) (fun z11  h12 => ?_)
    obtain ⟨p13, -⟩ := h12
    have s14 : sI (M 31 (sI (((a0 + a1) - a4) + x1)).toNat) = (M 31 (sI (((a0 + a1) - a4) + x1)).toNat) := sIo (by omega) (by omega)
    refine ⟨fun c15 => ?_, fun c15 => ?_⟩
    · skip
      exact k4 _ ⟨(by omega), trivial⟩ (by omega)
    · skip
      exact hQ _ ⟨(by omega), (by omega), trivial⟩
set_option maxHeartbeats 8000000 in
theorem sR_joinFrom : ∀ (n : Nat) {M : zM} {a0 a1 a2 : Int} (hB : BI M) (v0 : 0 ≤ a0 ∧ a0 ≤ 5) (v2 : 0 ≤ a2 ∧ a2 ≤ 8 * a0) (p0 : a0 ≤ M 0 27) (p1 : 6 ≤ (n : Int) + a0) {Q : zM → Prop} (hQ : ∀ M1, (BI M1 ∧ (∀ j9 k9 : Nat, ¬ (j9 = 0 ∧ k9 = 48 ∨ j9 = 31 ∨ j9 = 32) → M1 j9 k9 = M j9 k9) ∧ True) → Q M1), wR_joinFrom n a0 a1 a2 M Q := by
  intro n
  induction n with
  | zero => intro M a0 a1 a2 hB v0 v2 p0 p1; omega
  | succ n ih =>
    intro M a0 a1 a2 hB v0 v2 p0 p1 Q hQ
    show wR_joinFrom_F (wR_joinFrom n) a0 a1 a2 M Q
    unfold wR_joinFrom_F
    have b27 : 0 ≤ M 0 27 ∧ M 0 27 ≤ 5 := BN.at hB.1 (rfl : zcd wR 0 = 50) rfl
    have b48 : -1 ≤ M 0 48 ∧ M 0 48 ≤ 40 := BN.at hB.1 (rfl : zcd wR 0 = 50) rfl
    have s0 : sI a0 = a0 := sIo (by omega) (by omega)
    have s2 : sI a2 = a2 := sIo (by omega) (by omega)
    have s27 : sI (M 0 27) = M 0 27 := sIo (by omega) (by omega)
    have s48 : sI (M 0 48) = M 0 48 := sIo (by omega) (by omega)
    have F0 : ∀ j9 k9 : Nat, ¬ (j9 = 0 ∧ k9 = 48 ∨ j9 = 31 ∨ j9 = 32) → M j9 k9 = M j9 k9 := fun _ _ _ => rfl
    rw [s0, s2, s27, s48]
    refine ⟨fun c => ?_, fun c => ?_⟩
    · refine wL1_of (fun x N => BI N ∧ (∀ j9 k9 : Nat, ¬ (j9 = 0 ∧ k9 = 48 ∨ j9 = 31 ∨ j9 = 32) → N j9 k9 = M j9 k9) ∧ (0 ≤ x ∧ x ≤ 5)) (fun x _ => (1000 - x).toNat) ⟨hB, F0, by omega⟩ (fun K x N hI hK => ?_)
      obtain ⟨hBN, FN, ix⟩ := hI
      have sx : sI x = x := sIo (by omega) (by omega)
      have n27 : N 0 27 = M 0 27 := FN 0 27 (by omega)
      rw [sx, n27, s27]
      refine ⟨fun c2 => hQ _ ⟨hBN, FN, trivial⟩, fun c2 => ⟨fun c3 => ?_, fun c3 => hK _ _ ⟨hBN, FN, by omega⟩ (by omega)⟩⟩
      obtain ⟨i, ei⟩ : ∃ i : Nat, i = x.toNat := ⟨_, rfl⟩
      refine wL1_of (fun y P => BI P ∧ (∀ j9 k9 : Nat, ¬ (j9 = 0 ∧ k9 = 48 ∨ j9 = 31 ∨ j9 = 32) → P j9 k9 = M j9 k9) ∧ (0 ≤ y ∧ y ≤ 2)) (fun y _ => (1000 - y).toNat) ⟨hBN, FN, by omega⟩ (fun K2 y P hI hK2 => ?_)
      obtain ⟨hBP, FP, iy⟩ := hI
      have sy : sI y = y := sIo (by omega) (by omega)
      have b17 : 0 ≤ P 17 i ∧ P 17 i ≤ 8 := BN.at hBP.1 (rfl : zcd wR 17 = 67) rfl
      have s17 : sI (P 17 i) = P 17 i := sIo (by omega) (by omega)
      rw [sy, ← ei, s17]
      refine ⟨fun c4 => hK _ _ ⟨hBP, FP, by omega⟩ (by omega), fun c4 => ⟨by omega, ?_⟩⟩
      intro t26 e26
      refine pL1_of (fun v => (0 ≤ v ∧ v ≤ a2 ∧ v ≤ P 17 i)) (fun v => (v + 1).toNat) (by omega) (fun K3 v hv hK3 => ?_)
      have key : ∀ x37, R32 x37 → wR_lies (40 * a0) a2 x x37 v P (fun z41 => (z41 ≠ 0 → wL1 (fun K244 x45 M46 => (a2 ≤ sI x45 → wL1 (fun K280 x55 M56 => (0 ≤ x ∧ x < 5) ∧ (sI (M56 17 i) ≤ sI x55 → (0 ≤ x ∧ x < 5) ∧ wR_joinFrom n (a0 + 1) (orI a1 (shlI 1 x)) (a2 + M56 17 i - v) M56 (fun M67 => K2 (y + 1) M67)) ∧ (sI x55 < sI (M56 17 i) → (y ≠ 1 → wR_sound x 0 x55 M56 (fun z72 => (0 ≤ sI (40 * a0 + 40 + a2 + x55 - v) ∧ sI (40 * a0 + 40 + a2 + x55 - v) < 240) ∧ (∀ M76 : zM, M76 = zup M56 31 (sI (40 * a0 + 40 + a2 + x55 - v)).toNat z72 → K280 (x55 + 1) M76))) ∧ (y = 1 → wR_sound x 1 x55 M56 (fun z81 => (0 ≤ sI (40 * a0 + 40 + a2 + x55 - v) ∧ sI (40 * a0 + 40 + a2 + x55 - v) < 240) ∧ (∀ M85 : zM, M85 = zup M56 31 (sI (40 * a0 + 40 + a2 + x55 - v)).toNat z81 → K280 (x55 + 1) M85))))) v M46) ∧ (sI x45 < a2 → (0 ≤ sI (40 * a0 + x45) ∧ sI (40 * a0 + x45) < 240) ∧ (0 ≤ sI (40 * a0 + 40 + x45) ∧ sI (40 * a0 + 40 + x45) < 240) ∧ (∀ M91 : zM, M91 = zup M46 31 (sI (40 * a0 + 40 + x45)).toNat (M46 31 (sI (40 * a0 + x45)).toNat) → K244 (x45 + 1) M91))) 0 P) ∧ (z41 = 0 → K3 (v + (-1)))) := by
        intro x37 rx
        refine sR_lies hBP (by omega) (by omega) (by omega) ⟨rx.1, rx.2⟩ (by omega) (by omega) (by rw [sx, ← ei]; omega) (fun z41 h41 => ?_)
        obtain ⟨-, h41, -⟩ := h41
        refine ⟨fun e41 => ?_, fun e41 => hK3 _ (by omega) (by omega)⟩
        refine wL1_of (fun k A => BI A ∧ (∀ j9 k9 : Nat, ¬ (j9 = 31) → A j9 k9 = P j9 k9) ∧ (0 ≤ k ∧ k ≤ 40)) (fun k _ => (1000 - k).toNat) ⟨hBP, fun _ _ _ => rfl, by omega⟩ (fun K4 k A hI hK4 => ?_)
        obtain ⟨hBA, FA, ik⟩ := hI
        have sk : sI k = k := sIo (by omega) (by omega)
        have se1 : sI (40 * a0 + k) = 40 * a0 + k := sIo (by omega) (by omega)
        have se2 : sI (40 * a0 + 40 + k) = 40 * a0 + 40 + k := sIo (by omega) (by omega)
        rw [sk, se1, se2]
        refine ⟨fun c5 => ?_, fun c5 => ⟨by omega, by omega, ?_⟩⟩
        · refine wL1_of (fun m B => BI B ∧ (∀ j9 k9 : Nat, ¬ (j9 = 31) → B j9 k9 = P j9 k9) ∧ (v ≤ m ∧ m ≤ 8)) (fun m _ => (1000 - m).toNat) ⟨hBA, FA, by omega⟩ (fun K5 m B hI hK5 => ?_)
          obtain ⟨hBB, FB, im⟩ := hI
          have sm : sI m = m := sIo (by omega) (by omega)
          have r17 : B 17 i = P 17 i := FB 17 i (by omega)
          have GB : ∀ j9 k9 : Nat, ¬ (j9 = 0 ∧ k9 = 48 ∨ j9 = 31 ∨ j9 = 32) → B j9 k9 = M j9 k9 := fun j9 k9 h9 => (FB j9 k9 (by omega)).trans (FP j9 k9 h9)
          rw [sm, r17, s17]
          refine ⟨by omega, fun c6 => ⟨by omega, ?_⟩, fun c6 => ?_⟩
          · refine ih hBB (by omega) (by omega) (by rw [GB 0 27 (by omega)]; omega) (by omega) (fun M67 h67 => ?_)
            obtain ⟨hB67, F67, -⟩ := h67
            exact hK2 _ _ ⟨hB67, fun j9 k9 h9 => (F67 j9 k9 h9).trans (GB j9 k9 h9), by omega⟩ (by omega)
          · have se3 : sI (40 * a0 + 40 + a2 + m - v) = 40 * a0 + 40 + a2 + m - v := sIo (by omega) (by omega)
            rw [se3]
            have st : ∀ z : Int, -2147483648 ≤ z ∧ z ≤ 2147483647 → (0 ≤ 40 * a0 + 40 + a2 + m - v ∧ 40 * a0 + 40 + a2 + m - v < 240) ∧ (∀ M76 : zM, M76 = zup B 31 (40 * a0 + 40 + a2 + m - v).toNat z → K5 (m + 1) M76) := by
              intro z hz
              refine ⟨by omega, ?_⟩
              intro M76 e76
              exact hK5 _ _ ⟨by rw [e76]; exact BI.up hBB (rfl : zcd wR 31 = 81) rfl hz.1 hz.2 (by decide), fun j9 k9 h9 => by rw [e76]; exact (zup_n _ _ (by omega)).trans (FB j9 k9 h9), by omega⟩ (by omega)
            refine ⟨fun c7 => ?_, fun c7 => ?_⟩
            · exact sR_sound hBB (by omega) (by omega) (by omega) (by rw [sx, ← ei, r17]; omega) (fun z hz => st z hz.1)
            · exact sR_sound hBB (by omega) (by omega) (by omega) (by rw [sx, ← ei, r17]; omega) (fun z hz => st z hz.1)
        · intro M91 e91
          have br := BN.r32 hBA.1 31 (40 * a0 + k).toNat
          exact hK4 _ _ ⟨by rw [e91]; exact BI.up hBA (rfl : zcd wR 31 = 81) rfl br.1 br.2 (by decide), fun j9 k9 h9 => by rw [e91]; exact (zup_n _ _ (by omega)).trans (FA j9 k9 h9), by omega⟩ (by omega)
      exact pJ1_of (fun z => R32 z) key ⟨fun _ => ⟨by omega, by omega⟩, fun _ => ⟨by omega, by omega⟩⟩
    · refine pJ1_of (fun _ => True) (fun x102 _ => ?_) (pJ0_of True (fun _ => trivial) ⟨fun _ => trivial, fun _ => ⟨fun _ => trivial, fun _ => trivial⟩⟩)
      refine pL2_of (fun _ k => (0 ≤ k ∧ k ≤ 40)) (fun _ k => (1000 - k).toNat) (by omega) (fun K l k hk hK => ?_)
      have sk : sI k = k := sIo (by omega) (by omega)
      have se1 : sI (40 * a0 + k) = 40 * a0 + k := sIo (by omega) (by omega)
      rw [sk, se1]
      refine pJ0_of True (fun _ => ?_) ⟨fun _ => trivial, fun c2 => ⟨fun _ => trivial, fun c3 => ⟨fun _ => trivial, fun c4 => ⟨by omega, by omega, fun c5 => ⟨by omega, by omega, fun c6 => hK _ _ (by omega) (by omega), fun c6 => hQ _ ⟨hB, F0, trivial⟩⟩, fun c5 => hK _ _ (by omega) (by omega)⟩⟩⟩⟩
      refine ⟨fun c2 => ?_, fun c2 => hQ _ ⟨hB, F0, trivial⟩⟩
      intro M130 e130
      refine wL1_of (fun x N => BI N ∧ (∀ j9 k9 : Nat, ¬ (j9 = 0 ∧ k9 = 48 ∨ j9 = 31 ∨ j9 = 32) → N j9 k9 = M j9 k9) ∧ (0 ≤ x ∧ x ≤ 40)) (fun x _ => (1000 - x).toNat) ⟨by rw [e130]; exact BI.up0 hB (rfl : cbt 50 48 = (-1, 40)) (by omega) (by omega) (by decide), fun j9 k9 h9 => by rw [e130]; exact zup_n _ _ (by omega), by omega⟩ (fun K2 x N hI hK2 => ?_)
      obtain ⟨hBN, FN, ix⟩ := hI
      have sx : sI x = x := sIo (by omega) (by omega)
      have se2 : sI (40 * a0 + x) = 40 * a0 + x := sIo (by omega) (by omega)
      rw [sx, se2]
      refine ⟨fun c3 => hQ _ ⟨hBN, FN, trivial⟩, fun c3 => ⟨by omega, by omega, ?_⟩⟩
      intro M144 e144
      have br := BN.r32 hBN.1 31 (40 * a0 + x).toNat
      exact hK2 _ _ ⟨by rw [e144]; exact BI.up hBN (rfl : zcd wR 32 = 82) rfl br.1 br.2 (by decide), fun j9 k9 h9 => by rw [e144]; exact (zup_n _ _ (by omega)).trans (FN j9 k9 h9), by omega⟩ (by omega)
set_option maxHeartbeats 4000000 in
theorem sR_join {M : zM} (hB : BI M) {Q : Int → zM → Prop} (hQ : ∀ z M1, (BI M1 ∧ (∀ j9 k9 : Nat, ¬ (j9 = 0 ∧ k9 = 35 ∨ j9 = 0 ∧ k9 = 48 ∨ j9 = 0 ∧ k9 = 34 ∨ j9 = 31 ∨ j9 = 32 ∨ j9 = 22) → M1 j9 k9 = M j9 k9) ∧ (-2147483648 ≤ z ∧ z ≤ 2147483647) ∧ True) → Q z M1) : wR_join M Q := by
  unfold wR_join
  intro M1 e1 M3 e3
  have hB1 : BI M1 := by rw [e1]; exact BI.up0 hB (rfl : cbt 50 35 = (-2147483648, 2147483647)) (by omega) (by omega) (by decide)
  have hB3 : BI M3 := by rw [e3]; exact BI.up0 hB1 (rfl : cbt 50 48 = (-1, 40)) (by omega) (by omega) (by decide)
  have b27 : 0 ≤ M3 0 27 ∧ M3 0 27 ≤ 5 := BN.at hB3.1 (rfl : zcd wR 0 = 50) rfl
  refine sR_joinFrom 6 hB3 (by omega) (by omega) (by omega) (by omega) (fun M5 h5 => ?_)
  obtain ⟨hB5, F5, -⟩ := h5
  have b48 : -1 ≤ M5 0 48 ∧ M5 0 48 ≤ 40 := BN.at hB5.1 (rfl : zcd wR 0 = 50) rfl
  intro M6 e6
  have r34 : M6 0 34 = M5 0 48 := by rw [e6, zup_s]
  refine wL1_of (fun x N => BI N ∧ (∀ j9 k9 : Nat, ¬ (j9 = 0 ∧ k9 = 35 ∨ j9 = 0 ∧ k9 = 48 ∨ j9 = 0 ∧ k9 = 34 ∨ j9 = 31 ∨ j9 = 32 ∨ j9 = 22) → N j9 k9 = M j9 k9) ∧ N 0 34 = M5 0 48 ∧ (0 ≤ x ∧ x ≤ 40)) (fun x _ => (1000 - x).toNat) ⟨by rw [e6]; exact BI.up0 hB5 (rfl : cbt 50 34 = (-1, 64)) (by omega) (by omega) (by decide), fun j9 k9 h9 => by rw [e6]; exact (zup_n _ _ (by omega)).trans ((F5 j9 k9 (by omega)).trans (by rw [e3, e1]; exact (zup_n _ _ (by omega)).trans (zup_n _ _ (by omega)))), r34, by omega⟩ (fun K x N hI hK => ?_)
  obtain ⟨hBN, FN, n34, ix⟩ := hI
  have sx : sI x = x := sIo (by omega) (by omega)
  have s34 : sI (M5 0 48) = M5 0 48 := sIo (by omega) (by omega)
  rw [sx, n34, s34]
  have r := sI_R (N 0 48)
  refine ⟨fun c => hQ _ _ ⟨hBN, FN, by have := r.1; have := r.2; omega, trivial⟩, fun c => ⟨by omega, by omega, ?_⟩⟩
  intro M20 e20
  have br := BN.r32 hBN.1 32 x.toNat
  exact hK _ _ ⟨by rw [e20]; exact BI.up hBN (rfl : zcd wR 22 = 72) rfl br.1 br.2 (by decide), fun j9 k9 h9 => by rw [e20]; exact (zup_n _ _ (by omega)).trans (FN j9 k9 h9), by rw [e20, zup_n _ _ (by omega)]; exact n34, by omega⟩ (by omega)
set_option maxHeartbeats 4000000 in
set_option maxRecDepth 100000 in
theorem sR_keep {M : zM} {a0 : Int} {a1 : Int} (hB : BI M) (v0 : (-2147483648) ≤ a0 ∧ a0 ≤ 2147483647) (v1 : (-2147483648) ≤ a1 ∧ a1 ≤ 2147483647) {Q : Int → zM → Prop} (hQ : ∀ (z : Int) (M1 : zM), BI M1 ∧ (∀ j9 k9 : Nat, ¬ (j9 = 0 ∧ k9 = 35 ∨ j9 = 0 ∧ k9 = 32 ∨ j9 = 18 ∨ j9 = 19 ∨ j9 = 20 ∨ j9 = 21) → M1 j9 k9 = M j9 k9) ∧ ((-2147483648) ≤ z ∧ z ≤ 2147483647) ∧ True → Q z M1) : wR_keep a0 a1 M Q := by
  unfold wR_keep
  have hF0 : ∀ j9 k9 : Nat, ¬ (j9 = 0 ∧ k9 = 35 ∨ j9 = 0 ∧ k9 = 32 ∨ j9 = 18 ∨ j9 = 19 ∨ j9 = 20 ∨ j9 = 21) → M j9 k9 = M j9 k9 := fun j9 k9 _ => rfl
  intro M1 e2
  have hB3 : BI M1 := by rw [e2]; exact BI.up0 hB rfl (by omega) (by omega) (by decide)
  have hF4 : ∀ j9 k9 : Nat, ¬ (j9 = 0 ∧ k9 = 35 ∨ j9 = 0 ∧ k9 = 32 ∨ j9 = 18 ∨ j9 = 19 ∨ j9 = 20 ∨ j9 = 21) → M1 j9 k9 = M j9 k9 := fun j9 k9 h9 => by rw [e2]; exact (zup_n _ _ (by omega)).trans (hF0 j9 k9 h9)
  have r5 : M1 0 32 = M 0 32 := by rw [e2]; exact zup_n _ _ (by omega)
  refine sR_isRing hB3 (by omega) (fun z6  h7 => ?_)
  obtain ⟨p8, p9, -⟩ := h7
  refine ⟨fun c10 => ?_, fun c10 => ?_⟩
  · skip
    exact hQ _ _ ⟨hB3, hF4, (by omega), trivial⟩
  · skip
    refine sR_in hB3 (by omega) (by omega) (by omega) (fun z11  h12 => ?_)
    obtain ⟨p13, p14, -⟩ := h12
    refine ⟨fun c15 => ?_, fun c15 => ?_⟩
    · skip
      exact hQ _ _ ⟨hB3, hF4, (by omega), trivial⟩
    · skip
      have q16 : 0 ≤ (M1 0 32) ∧ (M1 0 32) ≤ 16 := BN.at hB3.1 (rfl : zcd wR 0 = 50) rfl
      have s17 : sI (M1 0 32) = (M1 0 32) := sIo (by omega) (by omega)
      refine ⟨fun c18 => ?_, fun c18 => ?_⟩
      · skip
        exact hQ _ _ ⟨hB3, hF4, (by omega), trivial⟩
      · skip
        refine pJ0_dup ?_
        refine ⟨fun c20 => ?_, fun c20 => ?_⟩
        · skip
          have o22 : 0 ≤ (sI (M1 0 32)) ∧ (sI (M1 0 32)) < 16 := by omega
          refine ⟨o22, ?_⟩
          intro M23 e24
          have hB25 : BI M23 := by rw [e24]; exact BI.up hB3 (rfl : zcd wR 20 = 70) rfl (by omega) (by omega) (by decide)
          have hF26 : ∀ j9 k9 : Nat, ¬ (j9 = 0 ∧ k9 = 35 ∨ j9 = 0 ∧ k9 = 32 ∨ j9 = 18 ∨ j9 = 19 ∨ j9 = 20 ∨ j9 = 21) → M23 j9 k9 = M j9 k9 := fun j9 k9 h9 => by rw [e24]; exact (zup_n _ _ (by omega)).trans (hF4 j9 k9 h9)
          have r27 : M23 0 32 = M1 0 32 := by rw [e24]; exact zup_n _ _ (by omega)
          have q28 : 0 ≤ (M23 0 32) ∧ (M23 0 32) ≤ 16 := BN.at hB25.1 (rfl : zcd wR 0 = 50) rfl
          have s29 : sI (M23 0 32) = (M23 0 32) := sIo (by omega) (by omega)
          have o30 : 0 ≤ (sI (M23 0 32)) ∧ (sI (M23 0 32)) < 16 := by omega
          refine ⟨o30, ?_⟩
          intro M31 e32
          have hB33 : BI M31 := by rw [e32]; exact BI.up hB25 (rfl : zcd wR 21 = 71) rfl (by omega) (by omega) (by decide)
          have hF34 : ∀ j9 k9 : Nat, ¬ (j9 = 0 ∧ k9 = 35 ∨ j9 = 0 ∧ k9 = 32 ∨ j9 = 18 ∨ j9 = 19 ∨ j9 = 20 ∨ j9 = 21) → M31 j9 k9 = M j9 k9 := fun j9 k9 h9 => by rw [e32]; exact (zup_n _ _ (by omega)).trans (hF26 j9 k9 h9)
          have r35 : M31 0 32 = M23 0 32 := by rw [e32]; exact zup_n _ _ (by omega)
          have q36 : 0 ≤ (M31 0 32) ∧ (M31 0 32) ≤ 16 := BN.at hB33.1 (rfl : zcd wR 0 = 50) rfl
          have s37 : sI a0 = a0 := sIo (by omega) (by omega)
          have o38 : 0 ≤ (sI a0) ∧ (sI a0) < 4 := by omega
          refine ⟨o38, ?_⟩
          have q39 : 0 ≤ (M31 4 (sI a0).toNat) ∧ (M31 4 (sI a0).toNat) ≤ 24 := BN.at hB33.1 (rfl : zcd wR 4 = 54) rfl
          have q40 : (((sI a0).toNat : Nat) : Int) < M31 0 10 → 1 ≤ (M31 4 (sI a0).toNat) := hB33.2 _ (by omega)
          have q41 : 0 ≤ M31 0 10 ∧ M31 0 10 ≤ 4 := BN.at hB33.1 (rfl : zcd wR 0 = 50) rfl
          have s42 : sI (M31 0 32) = (M31 0 32) := sIo (by omega) (by omega)
          have o43 : 0 ≤ (sI (M31 0 32)) ∧ (sI (M31 0 32)) < 16 := by omega
          refine ⟨o43, ?_⟩
          intro M44 e45
          have hB46 : BI M44 := by rw [e45]; exact BI.up hB33 (rfl : zcd wR 19 = 69) rfl (by omega) (by omega) (by decide)
          have hF47 : ∀ j9 k9 : Nat, ¬ (j9 = 0 ∧ k9 = 35 ∨ j9 = 0 ∧ k9 = 32 ∨ j9 = 18 ∨ j9 = 19 ∨ j9 = 20 ∨ j9 = 21) → M44 j9 k9 = M j9 k9 := fun j9 k9 h9 => by rw [e45]; exact (zup_n _ _ (by omega)).trans (hF34 j9 k9 h9)
          have r48 : M44 0 32 = M31 0 32 := by rw [e45]; exact zup_n _ _ (by omega)
          refine wL1_of (fun x49 M50 => BI M50 ∧ (∀ j9 k9 : Nat, ¬ (j9 = 0 ∧ k9 = 35 ∨ j9 = 0 ∧ k9 = 32 ∨ j9 = 18 ∨ j9 = 19 ∨ j9 = 20 ∨ j9 = 21) → M50 j9 k9 = M j9 k9) ∧ (0 ≤ x49 ∧ x49 ≤ 1000000) ∧ (M50 0 32 = M 0 32) ∧ True) (fun x49 M50 => (1000000 - x49).toNat) ⟨hB46, hF47, (by omega), (by omega), trivial⟩ (fun K x49 M50 h55 k56 => ?_)
          obtain ⟨hB51, hF52, i53, i54, -⟩ := h55
          have s57 : sI a0 = a0 := sIo (by omega) (by omega)
          have o58 : 0 ≤ (sI a0) ∧ (sI a0) < 4 := by omega
          refine ⟨o58, ?_⟩
          have q59 : 0 ≤ (M50 4 (sI a0).toNat) ∧ (M50 4 (sI a0).toNat) ≤ 24 := BN.at hB51.1 (rfl : zcd wR 4 = 54) rfl
          have q60 : (((sI a0).toNat : Nat) : Int) < M50 0 10 → 1 ≤ (M50 4 (sI a0).toNat) := hB51.2 _ (by omega)
          have q61 : 0 ≤ M50 0 10 ∧ M50 0 10 ≤ 4 := BN.at hB51.1 (rfl : zcd wR 0 = 50) rfl
          have s62 : sI x49 = x49 := sIo (by omega) (by omega)
          have s63 : sI (M50 4 (sI a0).toNat) = (M50 4 (sI a0).toNat) := sIo (by omega) (by omega)
          refine ⟨fun c64 => ?_, fun c64 => ?_⟩
          · skip
            have q65 : 0 ≤ (M50 0 32) ∧ (M50 0 32) ≤ 16 := BN.at hB51.1 (rfl : zcd wR 0 = 50) rfl
            intro M66 e67
            have hB68 : BI M66 := by rw [e67]; exact BI.up0 hB51 rfl (by omega) (by omega) (by decide)
            have hF69 : ∀ j9 k9 : Nat, ¬ (j9 = 0 ∧ k9 = 35 ∨ j9 = 0 ∧ k9 = 32 ∨ j9 = 18 ∨ j9 = 19 ∨ j9 = 20 ∨ j9 = 21) → M66 j9 k9 = M j9 k9 := fun j9 k9 h9 => by rw [e67]; exact (zup_n _ _ (by omega)).trans (hF52 j9 k9 h9)
            have r70 : M66 0 32 = ((M50 0 32) + 1) := by rw [e67]; exact zup_s _ _ _ _
            have q71 : 0 ≤ (M66 0 32) ∧ (M66 0 32) ≤ 16 := BN.at hB68.1 (rfl : zcd wR 0 = 50) rfl
            have s72 : sI ((M66 0 32) - 1) = ((M66 0 32) - 1) := sIo (by omega) (by omega)
            exact hQ _ _ ⟨hB68, hF69, (by omega), trivial⟩
          · skip
            have q73 : 0 ≤ (M50 0 32) ∧ (M50 0 32) ≤ 16 := BN.at hB51.1 (rfl : zcd wR 0 = 50) rfl
            have s74 := sI_R ((24 * a0) + x49)
            have s75 := sI_or ((24 * a0) + x49)
            have o76 : 0 ≤ (sI ((24 * a0) + x49)) ∧ (sI ((24 * a0) + x49)) < 96 := by omega
            refine ⟨o76, ?_⟩
            have q77 : (-2147483648) ≤ (M50 3 (sI ((24 * a0) + x49)).toNat) ∧ (M50 3 (sI ((24 * a0) + x49)).toNat) ≤ 2147483647 := BN.at hB51.1 (rfl : zcd wR 3 = 53) rfl
            have s78 : sI ((24 * (M50 0 32)) + x49) = ((24 * (M50 0 32)) + x49) := sIo (by omega) (by omega)
            have o79 : 0 ≤ (sI ((24 * (M50 0 32)) + x49)) ∧ (sI ((24 * (M50 0 32)) + x49)) < 384 := by omega
            refine ⟨o79, ?_⟩
            intro M80 e81
            have hB82 : BI M80 := by rw [e81]; exact BI.up hB51 (rfl : zcd wR 18 = 68) rfl (by omega) (by omega) (by decide)
            have hF83 : ∀ j9 k9 : Nat, ¬ (j9 = 0 ∧ k9 = 35 ∨ j9 = 0 ∧ k9 = 32 ∨ j9 = 18 ∨ j9 = 19 ∨ j9 = 20 ∨ j9 = 21) → M80 j9 k9 = M j9 k9 := fun j9 k9 h9 => by rw [e81]; exact (zup_n _ _ (by omega)).trans (hF52 j9 k9 h9)
            have r84 : M80 0 32 = M50 0 32 := by rw [e81]; exact zup_n _ _ (by omega)
            exact k56 _ _ ⟨hB82, hF83, (by omega), (by omega), trivial⟩ (by omega)
        · skip
          have s86 : sI ((M1 0 32) - 1) = ((M1 0 32) - 1) := sIo (by omega) (by omega)
          have o87 : 0 ≤ (sI ((M1 0 32) - 1)) ∧ (sI ((M1 0 32) - 1)) < 16 := by omega
          refine ⟨o87, ?_⟩
          have q88 : (-2147483648) ≤ (M1 21 (sI ((M1 0 32) - 1)).toNat) ∧ (M1 21 (sI ((M1 0 32) - 1)).toNat) ≤ 2147483647 := BN.at hB3.1 (rfl : zcd wR 21 = 71) rfl
          have s89 : sI a1 = a1 := sIo (by omega) (by omega)
          have s90 : sI (M1 21 (sI ((M1 0 32) - 1)).toNat) = (M1 21 (sI ((M1 0 32) - 1)).toNat) := sIo (by omega) (by omega)
          refine ⟨fun c91 => ?_, fun c91 => ?_⟩
          · skip
            have o93 : 0 ≤ (sI (M1 0 32)) ∧ (sI (M1 0 32)) < 16 := by omega
            refine ⟨o93, ?_⟩
            intro M94 e95
            have hB96 : BI M94 := by rw [e95]; exact BI.up hB3 (rfl : zcd wR 20 = 70) rfl (by omega) (by omega) (by decide)
            have hF97 : ∀ j9 k9 : Nat, ¬ (j9 = 0 ∧ k9 = 35 ∨ j9 = 0 ∧ k9 = 32 ∨ j9 = 18 ∨ j9 = 19 ∨ j9 = 20 ∨ j9 = 21) → M94 j9 k9 = M j9 k9 := fun j9 k9 h9 => by rw [e95]; exact (zup_n _ _ (by omega)).trans (hF4 j9 k9 h9)
            have r98 : M94 0 32 = M1 0 32 := by rw [e95]; exact zup_n _ _ (by omega)
            have q99 : 0 ≤ (M94 0 32) ∧ (M94 0 32) ≤ 16 := BN.at hB96.1 (rfl : zcd wR 0 = 50) rfl
            have s100 : sI (M94 0 32) = (M94 0 32) := sIo (by omega) (by omega)
            have o101 : 0 ≤ (sI (M94 0 32)) ∧ (sI (M94 0 32)) < 16 := by omega
            refine ⟨o101, ?_⟩
            intro M102 e103
            have hB104 : BI M102 := by rw [e103]; exact BI.up hB96 (rfl : zcd wR 21 = 71) rfl (by omega) (by omega) (by decide)
            have hF105 : ∀ j9 k9 : Nat, ¬ (j9 = 0 ∧ k9 = 35 ∨ j9 = 0 ∧ k9 = 32 ∨ j9 = 18 ∨ j9 = 19 ∨ j9 = 20 ∨ j9 = 21) → M102 j9 k9 = M j9 k9 := fun j9 k9 h9 => by rw [e103]; exact (zup_n _ _ (by omega)).trans (hF97 j9 k9 h9)
            have r106 : M102 0 32 = M94 0 32 := by rw [e103]; exact zup_n _ _ (by omega)
            have q107 : 0 ≤ (M102 0 32) ∧ (M102 0 32) ≤ 16 := BN.at hB104.1 (rfl : zcd wR 0 = 50) rfl
            have s108 : sI a0 = a0 := sIo (by omega) (by omega)
            have o109 : 0 ≤ (sI a0) ∧ (sI a0) < 4 := by omega
            refine ⟨o109, ?_⟩
            have q110 : 0 ≤ (M102 4 (sI a0).toNat) ∧ (M102 4 (sI a0).toNat) ≤ 24 := BN.at hB104.1 (rfl : zcd wR 4 = 54) rfl
            have q111 : (((sI a0).toNat : Nat) : Int) < M102 0 10 → 1 ≤ (M102 4 (sI a0).toNat) := hB104.2 _ (by omega)
            have q112 : 0 ≤ M102 0 10 ∧ M102 0 10 ≤ 4 := BN.at hB104.1 (rfl : zcd wR 0 = 50) rfl
            have s113 : sI (M102 0 32) = (M102 0 32) := sIo (by omega) (by omega)
            have o114 : 0 ≤ (sI (M102 0 32)) ∧ (sI (M102 0 32)) < 16 := by omega
            refine ⟨o114, ?_⟩
            intro M115 e116
            have hB117 : BI M115 := by rw [e116]; exact BI.up hB104 (rfl : zcd wR 19 = 69) rfl (by omega) (by omega) (by decide)
            have hF118 : ∀ j9 k9 : Nat, ¬ (j9 = 0 ∧ k9 = 35 ∨ j9 = 0 ∧ k9 = 32 ∨ j9 = 18 ∨ j9 = 19 ∨ j9 = 20 ∨ j9 = 21) → M115 j9 k9 = M j9 k9 := fun j9 k9 h9 => by rw [e116]; exact (zup_n _ _ (by omega)).trans (hF105 j9 k9 h9)
            have r119 : M115 0 32 = M102 0 32 := by rw [e116]; exact zup_n _ _ (by omega)
            refine wL1_of (fun x120 M121 => BI M121 ∧ (∀ j9 k9 : Nat, ¬ (j9 = 0 ∧ k9 = 35 ∨ j9 = 0 ∧ k9 = 32 ∨ j9 = 18 ∨ j9 = 19 ∨ j9 = 20 ∨ j9 = 21) → M121 j9 k9 = M j9 k9) ∧ (0 ≤ x120 ∧ x120 ≤ 1000000) ∧ (M121 0 32 = M 0 32) ∧ True) (fun x120 M121 => (1000000 - x120).toNat) ⟨hB117, hF118, (by omega), (by omega), trivial⟩ (fun K x120 M121 h126 k127 => ?_)
            obtain ⟨hB122, hF123, i124, i125, -⟩ := h126
            have s128 : sI a0 = a0 := sIo (by omega) (by omega)
            have o129 : 0 ≤ (sI a0) ∧ (sI a0) < 4 := by omega
            refine ⟨o129, ?_⟩
            have q130 : 0 ≤ (M121 4 (sI a0).toNat) ∧ (M121 4 (sI a0).toNat) ≤ 24 := BN.at hB122.1 (rfl : zcd wR 4 = 54) rfl
            have q131 : (((sI a0).toNat : Nat) : Int) < M121 0 10 → 1 ≤ (M121 4 (sI a0).toNat) := hB122.2 _ (by omega)
            have q132 : 0 ≤ M121 0 10 ∧ M121 0 10 ≤ 4 := BN.at hB122.1 (rfl : zcd wR 0 = 50) rfl
            have s133 : sI x120 = x120 := sIo (by omega) (by omega)
            have s134 : sI (M121 4 (sI a0).toNat) = (M121 4 (sI a0).toNat) := sIo (by omega) (by omega)
            refine ⟨fun c135 => ?_, fun c135 => ?_⟩
            · skip
              have q136 : 0 ≤ (M121 0 32) ∧ (M121 0 32) ≤ 16 := BN.at hB122.1 (rfl : zcd wR 0 = 50) rfl
              intro M137 e138
              have hB139 : BI M137 := by rw [e138]; exact BI.up0 hB122 rfl (by omega) (by omega) (by decide)
              have hF140 : ∀ j9 k9 : Nat, ¬ (j9 = 0 ∧ k9 = 35 ∨ j9 = 0 ∧ k9 = 32 ∨ j9 = 18 ∨ j9 = 19 ∨ j9 = 20 ∨ j9 = 21) → M137 j9 k9 = M j9 k9 := fun j9 k9 h9 => by rw [e138]; exact (zup_n _ _ (by omega)).trans (hF123 j9 k9 h9)
              have r141 : M137 0 32 = ((M121 0 32) + 1) := by rw [e138]; exact zup_s _ _ _ _
              have q142 : 0 ≤ (M137 0 32) ∧ (M137 0 32) ≤ 16 := BN.at hB139.1 (rfl : zcd wR 0 = 50) rfl
              have s143 : sI ((M137 0 32) - 1) = ((M137 0 32) - 1) := sIo (by omega) (by omega)
              exact hQ _ _ ⟨hB139, hF140, (by omega), trivial⟩
            · skip
              have q144 : 0 ≤ (M121 0 32) ∧ (M121 0 32) ≤ 16 := BN.at hB122.1 (rfl : zcd wR 0 = 50) rfl
              have s145 := sI_R ((24 * a0) + x120)
              have s146 := sI_or ((24 * a0) + x120)
              have o147 : 0 ≤ (sI ((24 * a0) + x120)) ∧ (sI ((24 * a0) + x120)) < 96 := by omega
              refine ⟨o147, ?_⟩
              have q148 : (-2147483648) ≤ (M121 3 (sI ((24 * a0) + x120)).toNat) ∧ (M121 3 (sI ((24 * a0) + x120)).toNat) ≤ 2147483647 := BN.at hB122.1 (rfl : zcd wR 3 = 53) rfl
              have s149 : sI ((24 * (M121 0 32)) + x120) = ((24 * (M121 0 32)) + x120) := sIo (by omega) (by omega)
              have o150 : 0 ≤ (sI ((24 * (M121 0 32)) + x120)) ∧ (sI ((24 * (M121 0 32)) + x120)) < 384 := by omega
              refine ⟨o150, ?_⟩
              intro M151 e152
              have hB153 : BI M151 := by rw [e152]; exact BI.up hB122 (rfl : zcd wR 18 = 68) rfl (by omega) (by omega) (by decide)
              have hF154 : ∀ j9 k9 : Nat, ¬ (j9 = 0 ∧ k9 = 35 ∨ j9 = 0 ∧ k9 = 32 ∨ j9 = 18 ∨ j9 = 19 ∨ j9 = 20 ∨ j9 = 21) → M151 j9 k9 = M j9 k9 := fun j9 k9 h9 => by rw [e152]; exact (zup_n _ _ (by omega)).trans (hF123 j9 k9 h9)
              have r155 : M151 0 32 = M121 0 32 := by rw [e152]; exact zup_n _ _ (by omega)
              exact k127 _ _ ⟨hB153, hF154, (by omega), (by omega), trivial⟩ (by omega)
          · skip
            exact hQ _ _ ⟨hB3, hF4, (by omega), trivial⟩
set_option maxHeartbeats 4000000 in
set_option maxRecDepth 100000 in
theorem sR_known {M : zM} {a0 : Int} {a1 : Int} (hB : BI M) (v0 : (-2147483648) ≤ a0 ∧ a0 ≤ 2147483647) (v1 : (-2147483648) ≤ a1 ∧ a1 ≤ 2147483647) {Q : Int → zM → Prop} (hQ : ∀ (z : Int) (M1 : zM), BI M1 ∧ (∀ j9 k9 : Nat, ¬ (j9 = 0 ∧ k9 = 35) → M1 j9 k9 = M j9 k9) ∧ ((-2147483648) ≤ z ∧ z ≤ 2147483647) ∧ True → Q z M1) : wR_known a0 a1 M Q := by
  unfold wR_known
  have hF0 : ∀ j9 k9 : Nat, ¬ (j9 = 0 ∧ k9 = 35) → M j9 k9 = M j9 k9 := fun j9 k9 _ => rfl
  intro M1 e2
  have hB3 : BI M1 := by rw [e2]; exact BI.up0 hB rfl (by omega) (by omega) (by decide)
  have hF4 : ∀ j9 k9 : Nat, ¬ (j9 = 0 ∧ k9 = 35) → M1 j9 k9 = M j9 k9 := fun j9 k9 h9 => by rw [e2]; exact (zup_n _ _ (by omega)).trans (hF0 j9 k9 h9)
  have q5 : 0 ≤ (M1 0 32) ∧ (M1 0 32) ≤ 16 := BN.at hB3.1 (rfl : zcd wR 0 = 50) rfl
  refine pL1_of (fun x6 => ((-1) ≤ x6 ∧ x6 ≤ 15) ∧ True) (fun x6 => (x6 + 1).toNat) ⟨(by omega), trivial⟩ (fun K x6 h8 k9 => ?_)
  obtain ⟨i7, -⟩ := h8
  have s10 : sI x6 = x6 := sIo (by omega) (by omega)
  refine ⟨fun c11 => ?_, fun c11 => ?_⟩
  · skip
    exact hQ _ _ ⟨hB3, hF4, (by omega), trivial⟩
  · skip
    have o12 : 0 ≤ (sI x6) ∧ (sI x6) < 16 := by omega
    refine ⟨o12, ?_⟩
    have q13 : (-2147483648) ≤ (M1 20 (sI x6).toNat) ∧ (M1 20 (sI x6).toNat) ≤ 2147483647 := BN.at hB3.1 (rfl : zcd wR 20 = 70) rfl
    have s14 : sI (M1 20 (sI x6).toNat) = (M1 20 (sI x6).toNat) := sIo (by omega) (by omega)
    have s15 : sI a0 = a0 := sIo (by omega) (by omega)
    refine ⟨fun c16 => ?_, fun c16 => ?_⟩
    · skip
      exact k9 _ ⟨(by omega), trivial⟩ (by omega)
    · skip
      have o17 : 0 ≤ (sI x6) ∧ (sI x6) < 16 := by omega
      refine ⟨o17, ?_⟩
      have q18 : (-2147483648) ≤ (M1 21 (sI x6).toNat) ∧ (M1 21 (sI x6).toNat) ≤ 2147483647 := BN.at hB3.1 (rfl : zcd wR 21 = 71) rfl
      have s19 : sI (M1 21 (sI x6).toNat) = (M1 21 (sI x6).toNat) := sIo (by omega) (by omega)
      have s20 : sI a1 = a1 := sIo (by omega) (by omega)
      refine ⟨fun c21 => ?_, fun c21 => ?_⟩
      · skip
        exact k9 _ ⟨(by omega), trivial⟩ (by omega)
      · skip
        exact hQ _ _ ⟨hB3, hF4, (by omega), trivial⟩
set_option maxHeartbeats 4000000 in
set_option maxRecDepth 100000 in
theorem sR_fetch {M : zM} {a0 : Int} (hB : BI M) (v0 : (-2147483648) ≤ a0 ∧ a0 ≤ 2147483647) {Q : Int → zM → Prop} (hQ : ∀ (z : Int) (M1 : zM), BI M1 ∧ (∀ j9 k9 : Nat, ¬ (j9 = 0 ∧ k9 = 35 ∨ j9 = 0 ∧ k9 = 3 ∨ j9 = 2) → M1 j9 k9 = M j9 k9) ∧ ((-2147483648) ≤ z ∧ z ≤ 2147483647) ∧ True → Q z M1) : wR_fetch a0 M Q := by
  unfold wR_fetch
  have hF0 : ∀ j9 k9 : Nat, ¬ (j9 = 0 ∧ k9 = 35 ∨ j9 = 0 ∧ k9 = 3 ∨ j9 = 2) → M j9 k9 = M j9 k9 := fun j9 k9 _ => rfl
  intro M1 e2
  have hB3 : BI M1 := by rw [e2]; exact BI.up0 hB rfl (by omega) (by omega) (by decide)
  have hF4 : ∀ j9 k9 : Nat, ¬ (j9 = 0 ∧ k9 = 35 ∨ j9 = 0 ∧ k9 = 3 ∨ j9 = 2) → M1 j9 k9 = M j9 k9 := fun j9 k9 h9 => by rw [e2]; exact (zup_n _ _ (by omega)).trans (hF0 j9 k9 h9)
  have r5 : M1 0 3 = M 0 3 := by rw [e2]; exact zup_n _ _ (by omega)
  have q6 : 0 ≤ (M1 0 32) ∧ (M1 0 32) ≤ 16 := BN.at hB3.1 (rfl : zcd wR 0 = 50) rfl
  refine sR_in hB3 (by omega) (by omega) (by omega) (fun z7  h8 => ?_)
  obtain ⟨p9, p10, -⟩ := h8
  refine ⟨fun c11 => ?_, fun c11 => ?_⟩
  · skip
    have s12 : sI a0 = a0 := sIo (by omega) (by omega)
    have o13 : 0 ≤ (sI a0) ∧ (sI a0) < 16 := by omega
    refine ⟨o13, ?_⟩
    have q14 : 0 ≤ (M1 19 (sI a0).toNat) ∧ (M1 19 (sI a0).toNat) ≤ 24 := BN.at hB3.1 (rfl : zcd wR 19 = 69) rfl
    intro M15 e16
    have hB17 : BI M15 := by rw [e16]; exact BI.up0 hB3 rfl (by omega) (by omega) (by decide)
    have hF18 : ∀ j9 k9 : Nat, ¬ (j9 = 0 ∧ k9 = 35 ∨ j9 = 0 ∧ k9 = 3 ∨ j9 = 2) → M15 j9 k9 = M j9 k9 := fun j9 k9 h9 => by rw [e16]; exact (zup_n _ _ (by omega)).trans (hF4 j9 k9 h9)
    have r19 : M15 0 3 = (M1 19 (sI a0).toNat) := by rw [e16]; exact zup_s _ _ _ _
    refine wL1_of (fun x20 M21 => BI M21 ∧ (∀ j9 k9 : Nat, ¬ (j9 = 0 ∧ k9 = 35 ∨ j9 = 0 ∧ k9 = 3 ∨ j9 = 2) → M21 j9 k9 = M j9 k9) ∧ (0 ≤ x20 ∧ x20 ≤ 1000000) ∧ True) (fun x20 M21 => (1000000 - x20).toNat) ⟨hB17, hF18, (by omega), trivial⟩ (fun K x20 M21 h25 k26 => ?_)
    obtain ⟨hB22, hF23, i24, -⟩ := h25
    have q27 : 0 ≤ (M21 0 3) ∧ (M21 0 3) ≤ 24 := BN.at hB22.1 (rfl : zcd wR 0 = 50) rfl
    have s28 : sI x20 = x20 := sIo (by omega) (by omega)
    have s29 : sI (M21 0 3) = (M21 0 3) := sIo (by omega) (by omega)
    refine ⟨fun c30 => ?_, fun c30 => ?_⟩
    · skip
      exact hQ _ _ ⟨hB22, hF23, (by omega), trivial⟩
    · skip
      have s32 := sI_R ((24 * a0) + x20)
      have s33 := sI_or ((24 * a0) + x20)
      have o34 : 0 ≤ (sI ((24 * a0) + x20)) ∧ (sI ((24 * a0) + x20)) < 384 := by omega
      refine ⟨o34, ?_⟩
      have q35 : (-2147483648) ≤ (M21 18 (sI ((24 * a0) + x20)).toNat) ∧ (M21 18 (sI ((24 * a0) + x20)).toNat) ≤ 2147483647 := BN.at hB22.1 (rfl : zcd wR 18 = 68) rfl
      have o36 : 0 ≤ (sI x20) ∧ (sI x20) < 24 := by omega
      refine ⟨o36, ?_⟩
      intro M37 e38
      have hB39 : BI M37 := by rw [e38]; exact BI.up hB22 (rfl : zcd wR 2 = 52) rfl (by omega) (by omega) (by decide)
      have hF40 : ∀ j9 k9 : Nat, ¬ (j9 = 0 ∧ k9 = 35 ∨ j9 = 0 ∧ k9 = 3 ∨ j9 = 2) → M37 j9 k9 = M j9 k9 := fun j9 k9 h9 => by rw [e38]; exact (zup_n _ _ (by omega)).trans (hF23 j9 k9 h9)
      have r41 : M37 0 3 = M21 0 3 := by rw [e38]; exact zup_n _ _ (by omega)
      exact k26 _ _ ⟨hB39, hF40, (by omega), trivial⟩ (by omega)
  · skip
    exact hQ _ _ ⟨hB3, hF4, (by omega), trivial⟩
set_option maxHeartbeats 4000000 in
set_option maxRecDepth 100000 in
theorem sR_editsBy {M : zM} {a0 : Int} {a1 : Int} {a2 : Int} (hB : BI M) (v0 : 0 ≤ a0 ∧ a0 ≤ 15) (v1 : 0 ≤ a1 ∧ a1 ≤ 15) (v2 : 0 ≤ a2 ∧ a2 ≤ 23) {Q : Int → zM → Prop} (hQ : ∀ (z : Int) (M1 : zM), BI M1 ∧ (∀ j9 k9 : Nat, ¬ (j9 = 33) → M1 j9 k9 = M j9 k9) ∧ ((-2147483648) ≤ z ∧ z ≤ 2147483647) ∧ True → Q z M1) : wR_editsBy a0 a1 a2 M Q := by
  unfold wR_editsBy
  have hF0 : ∀ j9 k9 : Nat, ¬ (j9 = 33) → M j9 k9 = M j9 k9 := fun j9 k9 _ => rfl
  have s1 : sI a0 = a0 := sIo (by omega) (by omega)
  have o2 : 0 ≤ (sI a0) ∧ (sI a0) < 16 := by omega
  refine ⟨o2, ?_⟩
  have q3 : 0 ≤ (M 19 (sI a0).toNat) ∧ (M 19 (sI a0).toNat) ≤ 24 := BN.at hB.1 (rfl : zcd wR 19 = 69) rfl
  have s4 : sI a1 = a1 := sIo (by omega) (by omega)
  have o5 : 0 ≤ (sI a1) ∧ (sI a1) < 16 := by omega
  refine ⟨o5, ?_⟩
  have q6 : 0 ≤ (M 19 (sI a1).toNat) ∧ (M 19 (sI a1).toNat) ≤ 24 := BN.at hB.1 (rfl : zcd wR 19 = 69) rfl
  refine wL1_of (fun x7 M8 => BI M8 ∧ (∀ j9 k9 : Nat, ¬ (j9 = 33) → M8 j9 k9 = M j9 k9) ∧ (0 ≤ x7 ∧ x7 ≤ 1000000) ∧ True) (fun x7 M8 => (1000000 - x7).toNat) ⟨hB, hF0, (by omega), trivial⟩ (fun K x7 M8 h12 k13 => ?_)
  obtain ⟨hB9, hF10, i11, -⟩ := h12
  have s14 : sI x7 = x7 := sIo (by omega) (by omega)
  have s15 : sI (M 19 (sI a0).toNat) = (M 19 (sI a0).toNat) := sIo (by omega) (by omega)
  refine ⟨fun c16 => ?_, fun c16 => ?_⟩
  · skip
    have s17 : sI ((25 * (M 19 (sI a0).toNat)) + (M 19 (sI a1).toNat)) = ((25 * (M 19 (sI a0).toNat)) + (M 19 (sI a1).toNat)) := sIo (by omega) (by omega)
    have o18 : 0 ≤ (sI ((25 * (M 19 (sI a0).toNat)) + (M 19 (sI a1).toNat))) ∧ (sI ((25 * (M 19 (sI a0).toNat)) + (M 19 (sI a1).toNat))) < 625 := by omega
    refine ⟨o18, ?_⟩
    have q19 : (-2147483648) ≤ (M8 33 (sI ((25 * (M 19 (sI a0).toNat)) + (M 19 (sI a1).toNat))).toNat) ∧ (M8 33 (sI ((25 * (M 19 (sI a0).toNat)) + (M 19 (sI a1).toNat))).toNat) ≤ 2147483647 := BN.at hB9.1 (rfl : zcd wR 33 = 83) rfl
    have s20 : sI (M8 33 (sI ((25 * (M 19 (sI a0).toNat)) + (M 19 (sI a1).toNat))).toNat) = (M8 33 (sI ((25 * (M 19 (sI a0).toNat)) + (M 19 (sI a1).toNat))).toNat) := sIo (by omega) (by omega)
    exact hQ _ _ ⟨hB9, hF10, (by omega), trivial⟩
  · skip
    refine wL1_of (fun x21 M22 => BI M22 ∧ (∀ j9 k9 : Nat, ¬ (j9 = 33) → M22 j9 k9 = M j9 k9) ∧ (0 ≤ x21 ∧ x21 ≤ 1000000) ∧ True) (fun x21 M22 => (1000000 - x21).toNat) ⟨hB9, hF10, (by omega), trivial⟩ (fun K x21 M22 h26 k27 => ?_)
    obtain ⟨hB23, hF24, i25, -⟩ := h26
    have s28 : sI x21 = x21 := sIo (by omega) (by omega)
    have s29 : sI (M 19 (sI a1).toNat) = (M 19 (sI a1).toNat) := sIo (by omega) (by omega)
    refine ⟨fun c30 => ?_, fun c30 => ?_⟩
    · skip
      exact k13 _ _ ⟨hB23, hF24, (by omega), trivial⟩ (by omega)
    · skip
      have s31 : sI x7 = x7 := sIo (by omega) (by omega)
      refine pJ0_dup ?_
      refine ⟨fun c32 => ?_, fun c32 => ?_⟩
      · skip
        have s33 : sI ((25 * x7) + x21) = ((25 * x7) + x21) := sIo (by omega) (by omega)
        have o34 : 0 ≤ (sI ((25 * x7) + x21)) ∧ (sI ((25 * x7) + x21)) < 625 := by omega
        refine ⟨o34, ?_⟩
        intro M35 e36
        have hB37 : BI M35 := by rw [e36]; exact BI.up hB23 (rfl : zcd wR 33 = 83) rfl (by omega) (by omega) (by decide)
        have hF38 : ∀ j9 k9 : Nat, ¬ (j9 = 33) → M35 j9 k9 = M j9 k9 := fun j9 k9 h9 => by rw [e36]; exact (zup_n _ _ (by omega)).trans (hF24 j9 k9 h9)
        exact k27 _ _ ⟨hB37, hF38, (by omega), trivial⟩ (by omega)
      · skip
        refine ⟨fun c39 => ?_, fun c39 => ?_⟩
        · skip
          have s40 : sI (((24 * a0) + x7) - 1) = (((24 * a0) + x7) - 1) := sIo (by omega) (by omega)
          have o41 : 0 ≤ (sI (((24 * a0) + x7) - 1)) ∧ (sI (((24 * a0) + x7) - 1)) < 384 := by omega
          refine ⟨o41, ?_⟩
          have q42 : (-2147483648) ≤ (M22 18 (sI (((24 * a0) + x7) - 1)).toNat) ∧ (M22 18 (sI (((24 * a0) + x7) - 1)).toNat) ≤ 2147483647 := BN.at hB23.1 (rfl : zcd wR 18 = 68) rfl
          have s43 : sI ((x21 - 1) + a2) = ((x21 - 1) + a2) := sIo (by omega) (by omega)
          have o44 : (sI (M 19 (sI a1).toNat)) ≠ 0 := by omega
          refine ⟨o44, ?_⟩
          have q45 := tmodN (sI ((x21 - 1) + a2)) (sI (M 19 (sI a1).toNat)) (by omega) (by omega)
          have s46 : sI ((24 * a1) + ((sI ((x21 - 1) + a2)).tmod (sI (M 19 (sI a1).toNat)))) = ((24 * a1) + ((sI ((x21 - 1) + a2)).tmod (sI (M 19 (sI a1).toNat)))) := sIo (by omega) (by omega)
          have o47 : 0 ≤ (sI ((24 * a1) + ((sI ((x21 - 1) + a2)).tmod (sI (M 19 (sI a1).toNat))))) ∧ (sI ((24 * a1) + ((sI ((x21 - 1) + a2)).tmod (sI (M 19 (sI a1).toNat))))) < 384 := by omega
          refine ⟨o47, ?_⟩
          have q48 : (-2147483648) ≤ (M22 18 (sI ((24 * a1) + ((sI ((x21 - 1) + a2)).tmod (sI (M 19 (sI a1).toNat))))).toNat) ∧ (M22 18 (sI ((24 * a1) + ((sI ((x21 - 1) + a2)).tmod (sI (M 19 (sI a1).toNat))))).toNat) ≤ 2147483647 := BN.at hB23.1 (rfl : zcd wR 18 = 68) rfl
          have s49 : sI (M22 18 (sI (((24 * a0) + x7) - 1)).toNat) = (M22 18 (sI (((24 * a0) + x7) - 1)).toNat) := sIo (by omega) (by omega)
          have s50 : sI (M22 18 (sI ((24 * a1) + ((sI ((x21 - 1) + a2)).tmod (sI (M 19 (sI a1).toNat))))).toNat) = (M22 18 (sI ((24 * a1) + ((sI ((x21 - 1) + a2)).tmod (sI (M 19 (sI a1).toNat))))).toNat) := sIo (by omega) (by omega)
          refine pJ1_dup ?_
          refine ⟨fun c51 => ?_, fun c51 => ?_⟩
          · skip
            have s52 : sI 0 = 0 := sIo (by omega) (by omega)
            have s53 : sI (((25 * (x7 - 1)) + x21) - 1) = (((25 * (x7 - 1)) + x21) - 1) := sIo (by omega) (by omega)
            have o54 : 0 ≤ (sI (((25 * (x7 - 1)) + x21) - 1)) ∧ (sI (((25 * (x7 - 1)) + x21) - 1)) < 625 := by omega
            refine ⟨o54, ?_⟩
            have q55 : (-2147483648) ≤ (M22 33 (sI (((25 * (x7 - 1)) + x21) - 1)).toNat) ∧ (M22 33 (sI (((25 * (x7 - 1)) + x21) - 1)).toNat) ≤ 2147483647 := BN.at hB23.1 (rfl : zcd wR 33 = 83) rfl
            refine pJ1_dup ?_
            refine ⟨fun c56 => ?_, fun c56 => ?_⟩
            · skip
              have s57 : sI 1 = 1 := sIo (by omega) (by omega)
              intro t58 e59
              have s60 : sI ((25 * (x7 - 1)) + x21) = ((25 * (x7 - 1)) + x21) := sIo (by omega) (by omega)
              have o61 : 0 ≤ (sI ((25 * (x7 - 1)) + x21)) ∧ (sI ((25 * (x7 - 1)) + x21)) < 625 := by omega
              refine ⟨o61, ?_⟩
              have q62 : (-2147483648) ≤ (M22 33 (sI ((25 * (x7 - 1)) + x21)).toNat) ∧ (M22 33 (sI ((25 * (x7 - 1)) + x21)).toNat) ≤ 2147483647 := BN.at hB23.1 (rfl : zcd wR 33 = 83) rfl
              have s63 := sI_R (1 + (M22 33 (sI ((25 * (x7 - 1)) + x21)).toNat))
              have s64 := sI_or (1 + (M22 33 (sI ((25 * (x7 - 1)) + x21)).toNat))
              have s65 := sI_R t58
              have s66 := sI_or t58
              intro t67 e68
              have s69 : sI (((25 * x7) + x21) - 1) = (((25 * x7) + x21) - 1) := sIo (by omega) (by omega)
              have o70 : 0 ≤ (sI (((25 * x7) + x21) - 1)) ∧ (sI (((25 * x7) + x21) - 1)) < 625 := by omega
              refine ⟨o70, ?_⟩
              have q71 : (-2147483648) ≤ (M22 33 (sI (((25 * x7) + x21) - 1)).toNat) ∧ (M22 33 (sI (((25 * x7) + x21) - 1)).toNat) ≤ 2147483647 := BN.at hB23.1 (rfl : zcd wR 33 = 83) rfl
              have s72 := sI_R (1 + (M22 33 (sI (((25 * x7) + x21) - 1)).toNat))
              have s73 := sI_or (1 + (M22 33 (sI (((25 * x7) + x21) - 1)).toNat))
              have s74 : sI ((25 * x7) + x21) = ((25 * x7) + x21) := sIo (by omega) (by omega)
              have o75 : 0 ≤ (sI ((25 * x7) + x21)) ∧ (sI ((25 * x7) + x21)) < 625 := by omega
              refine ⟨o75, ?_⟩
              intro M76 e77
              have hB78 : BI M76 := by rw [e77]; exact BI.up hB23 (rfl : zcd wR 33 = 83) rfl (by omega) (by omega) (by decide)
              have hF79 : ∀ j9 k9 : Nat, ¬ (j9 = 33) → M76 j9 k9 = M j9 k9 := fun j9 k9 h9 => by rw [e77]; exact (zup_n _ _ (by omega)).trans (hF24 j9 k9 h9)
              exact k27 _ _ ⟨hB78, hF79, (by omega), trivial⟩ (by omega)
            · skip
              intro t80 e81
              have s82 : sI ((25 * (x7 - 1)) + x21) = ((25 * (x7 - 1)) + x21) := sIo (by omega) (by omega)
              have o83 : 0 ≤ (sI ((25 * (x7 - 1)) + x21)) ∧ (sI ((25 * (x7 - 1)) + x21)) < 625 := by omega
              refine ⟨o83, ?_⟩
              have q84 : (-2147483648) ≤ (M22 33 (sI ((25 * (x7 - 1)) + x21)).toNat) ∧ (M22 33 (sI ((25 * (x7 - 1)) + x21)).toNat) ≤ 2147483647 := BN.at hB23.1 (rfl : zcd wR 33 = 83) rfl
              have s85 := sI_R (1 + (M22 33 (sI ((25 * (x7 - 1)) + x21)).toNat))
              have s86 := sI_or (1 + (M22 33 (sI ((25 * (x7 - 1)) + x21)).toNat))
              have s87 : sI t80 = t80 := sIo (by omega) (by omega)
              intro t88 e89
              have s90 : sI (((25 * x7) + x21) - 1) = (((25 * x7) + x21) - 1) := sIo (by omega) (by omega)
              have o91 : 0 ≤ (sI (((25 * x7) + x21) - 1)) ∧ (sI (((25 * x7) + x21) - 1)) < 625 := by omega
              refine ⟨o91, ?_⟩
              have q92 : (-2147483648) ≤ (M22 33 (sI (((25 * x7) + x21) - 1)).toNat) ∧ (M22 33 (sI (((25 * x7) + x21) - 1)).toNat) ≤ 2147483647 := BN.at hB23.1 (rfl : zcd wR 33 = 83) rfl
              have s93 := sI_R (1 + (M22 33 (sI (((25 * x7) + x21) - 1)).toNat))
              have s94 := sI_or (1 + (M22 33 (sI (((25 * x7) + x21) - 1)).toNat))
              have s95 : sI ((25 * x7) + x21) = ((25 * x7) + x21) := sIo (by omega) (by omega)
              have o96 : 0 ≤ (sI ((25 * x7) + x21)) ∧ (sI ((25 * x7) + x21)) < 625 := by omega
              refine ⟨o96, ?_⟩
              intro M97 e98
              have hB99 : BI M97 := by rw [e98]; exact BI.up hB23 (rfl : zcd wR 33 = 83) rfl (by omega) (by omega) (by decide)
              have hF100 : ∀ j9 k9 : Nat, ¬ (j9 = 33) → M97 j9 k9 = M j9 k9 := fun j9 k9 h9 => by rw [e98]; exact (zup_n _ _ (by omega)).trans (hF24 j9 k9 h9)
              exact k27 _ _ ⟨hB99, hF100, (by omega), trivial⟩ (by omega)
          · skip
            have s101 : sI 1 = 1 := sIo (by omega) (by omega)
            have s102 : sI (((25 * (x7 - 1)) + x21) - 1) = (((25 * (x7 - 1)) + x21) - 1) := sIo (by omega) (by omega)
            have o103 : 0 ≤ (sI (((25 * (x7 - 1)) + x21) - 1)) ∧ (sI (((25 * (x7 - 1)) + x21) - 1)) < 625 := by omega
            refine ⟨o103, ?_⟩
            have q104 : (-2147483648) ≤ (M22 33 (sI (((25 * (x7 - 1)) + x21) - 1)).toNat) ∧ (M22 33 (sI (((25 * (x7 - 1)) + x21) - 1)).toNat) ≤ 2147483647 := BN.at hB23.1 (rfl : zcd wR 33 = 83) rfl
            refine pJ1_dup ?_
            refine ⟨fun c105 => ?_, fun c105 => ?_⟩
            · skip
              intro t106 e107
              have s108 : sI ((25 * (x7 - 1)) + x21) = ((25 * (x7 - 1)) + x21) := sIo (by omega) (by omega)
              have o109 : 0 ≤ (sI ((25 * (x7 - 1)) + x21)) ∧ (sI ((25 * (x7 - 1)) + x21)) < 625 := by omega
              refine ⟨o109, ?_⟩
              have q110 : (-2147483648) ≤ (M22 33 (sI ((25 * (x7 - 1)) + x21)).toNat) ∧ (M22 33 (sI ((25 * (x7 - 1)) + x21)).toNat) ≤ 2147483647 := BN.at hB23.1 (rfl : zcd wR 33 = 83) rfl
              have s111 := sI_R (1 + (M22 33 (sI ((25 * (x7 - 1)) + x21)).toNat))
              have s112 := sI_or (1 + (M22 33 (sI ((25 * (x7 - 1)) + x21)).toNat))
              have s113 := sI_R t106
              have s114 := sI_or t106
              intro t115 e116
              have s117 : sI (((25 * x7) + x21) - 1) = (((25 * x7) + x21) - 1) := sIo (by omega) (by omega)
              have o118 : 0 ≤ (sI (((25 * x7) + x21) - 1)) ∧ (sI (((25 * x7) + x21) - 1)) < 625 := by omega
              refine ⟨o118, ?_⟩
              have q119 : (-2147483648) ≤ (M22 33 (sI (((25 * x7) + x21) - 1)).toNat) ∧ (M22 33 (sI (((25 * x7) + x21) - 1)).toNat) ≤ 2147483647 := BN.at hB23.1 (rfl : zcd wR 33 = 83) rfl
              have s120 := sI_R (1 + (M22 33 (sI (((25 * x7) + x21) - 1)).toNat))
              have s121 := sI_or (1 + (M22 33 (sI (((25 * x7) + x21) - 1)).toNat))
              have s122 : sI ((25 * x7) + x21) = ((25 * x7) + x21) := sIo (by omega) (by omega)
              have o123 : 0 ≤ (sI ((25 * x7) + x21)) ∧ (sI ((25 * x7) + x21)) < 625 := by omega
              refine ⟨o123, ?_⟩
              intro M124 e125
              have hB126 : BI M124 := by rw [e125]; exact BI.up hB23 (rfl : zcd wR 33 = 83) rfl (by omega) (by omega) (by decide)
              have hF127 : ∀ j9 k9 : Nat, ¬ (j9 = 33) → M124 j9 k9 = M j9 k9 := fun j9 k9 h9 => by rw [e125]; exact (zup_n _ _ (by omega)).trans (hF24 j9 k9 h9)
              exact k27 _ _ ⟨hB126, hF127, (by omega), trivial⟩ (by omega)
            · skip
              have s128 : sI 0 = 0 := sIo (by omega) (by omega)
              intro t129 e130
              have s131 : sI ((25 * (x7 - 1)) + x21) = ((25 * (x7 - 1)) + x21) := sIo (by omega) (by omega)
              have o132 : 0 ≤ (sI ((25 * (x7 - 1)) + x21)) ∧ (sI ((25 * (x7 - 1)) + x21)) < 625 := by omega
              refine ⟨o132, ?_⟩
              have q133 : (-2147483648) ≤ (M22 33 (sI ((25 * (x7 - 1)) + x21)).toNat) ∧ (M22 33 (sI ((25 * (x7 - 1)) + x21)).toNat) ≤ 2147483647 := BN.at hB23.1 (rfl : zcd wR 33 = 83) rfl
              have s134 := sI_R (1 + (M22 33 (sI ((25 * (x7 - 1)) + x21)).toNat))
              have s135 := sI_or (1 + (M22 33 (sI ((25 * (x7 - 1)) + x21)).toNat))
              have s136 : sI t129 = t129 := sIo (by omega) (by omega)
              intro t137 e138
              have s139 : sI (((25 * x7) + x21) - 1) = (((25 * x7) + x21) - 1) := sIo (by omega) (by omega)
              have o140 : 0 ≤ (sI (((25 * x7) + x21) - 1)) ∧ (sI (((25 * x7) + x21) - 1)) < 625 := by omega
              refine ⟨o140, ?_⟩
              have q141 : (-2147483648) ≤ (M22 33 (sI (((25 * x7) + x21) - 1)).toNat) ∧ (M22 33 (sI (((25 * x7) + x21) - 1)).toNat) ≤ 2147483647 := BN.at hB23.1 (rfl : zcd wR 33 = 83) rfl
              have s142 := sI_R (1 + (M22 33 (sI (((25 * x7) + x21) - 1)).toNat))
              have s143 := sI_or (1 + (M22 33 (sI (((25 * x7) + x21) - 1)).toNat))
              have s144 : sI ((25 * x7) + x21) = ((25 * x7) + x21) := sIo (by omega) (by omega)
              have o145 : 0 ≤ (sI ((25 * x7) + x21)) ∧ (sI ((25 * x7) + x21)) < 625 := by omega
              refine ⟨o145, ?_⟩
              intro M146 e147
              have hB148 : BI M146 := by rw [e147]; exact BI.up hB23 (rfl : zcd wR 33 = 83) rfl (by omega) (by omega) (by decide)
              have hF149 : ∀ j9 k9 : Nat, ¬ (j9 = 33) → M146 j9 k9 = M j9 k9 := fun j9 k9 h9 => by rw [e147]; exact (zup_n _ _ (by omega)).trans (hF24 j9 k9 h9)
              exact k27 _ _ ⟨hB148, hF149, (by omega), trivial⟩ (by omega)
        · skip
          have s150 : sI ((25 * x7) + x21) = ((25 * x7) + x21) := sIo (by omega) (by omega)
          have o151 : 0 ≤ (sI ((25 * x7) + x21)) ∧ (sI ((25 * x7) + x21)) < 625 := by omega
          refine ⟨o151, ?_⟩
          intro M152 e153
          have hB154 : BI M152 := by rw [e153]; exact BI.up hB23 (rfl : zcd wR 33 = 83) rfl (by omega) (by omega) (by decide)
          have hF155 : ∀ j9 k9 : Nat, ¬ (j9 = 33) → M152 j9 k9 = M j9 k9 := fun j9 k9 h9 => by rw [e153]; exact (zup_n _ _ (by omega)).trans (hF24 j9 k9 h9)
          exact k27 _ _ ⟨hB154, hF155, (by omega), trivial⟩ (by omega)
set_option maxHeartbeats 4000000 in
set_option maxRecDepth 100000 in
theorem sR_edits {M : zM} {a0 : Int} {a1 : Int} (hB : BI M) (v0 : (-2147483648) ≤ a0 ∧ a0 ≤ 2147483647) (v1 : (-2147483648) ≤ a1 ∧ a1 ≤ 2147483647) {Q : Int → zM → Prop} (hQ : ∀ (z : Int) (M1 : zM), BI M1 ∧ (∀ j9 k9 : Nat, ¬ (j9 = 0 ∧ k9 = 35 ∨ j9 = 33) → M1 j9 k9 = M j9 k9) ∧ ((-2147483648) ≤ z ∧ z ≤ 2147483647) ∧ True → Q z M1) : wR_edits a0 a1 M Q := by
  unfold wR_edits
  have hF0 : ∀ j9 k9 : Nat, ¬ (j9 = 0 ∧ k9 = 35 ∨ j9 = 33) → M j9 k9 = M j9 k9 := fun j9 k9 _ => rfl
  intro M1 e2
  have hB3 : BI M1 := by rw [e2]; exact BI.up0 hB rfl (by omega) (by omega) (by decide)
  have hF4 : ∀ j9 k9 : Nat, ¬ (j9 = 0 ∧ k9 = 35 ∨ j9 = 33) → M1 j9 k9 = M j9 k9 := fun j9 k9 h9 => by rw [e2]; exact (zup_n _ _ (by omega)).trans (hF0 j9 k9 h9)
  have q5 : 0 ≤ (M1 0 32) ∧ (M1 0 32) ≤ 16 := BN.at hB3.1 (rfl : zcd wR 0 = 50) rfl
  refine sR_in hB3 (by omega) (by omega) (by omega) (fun z6  h7 => ?_)
  obtain ⟨p8, p9, -⟩ := h7
  refine ⟨fun c10 => ?_, fun c10 => ?_⟩
  · skip
    exact hQ _ _ ⟨hB3, hF4, (by omega), trivial⟩
  · skip
    refine sR_in hB3 (by omega) (by omega) (by omega) (fun z12  h13 => ?_)
    obtain ⟨p14, p15, -⟩ := h13
    refine ⟨fun c16 => ?_, fun c16 => ?_⟩
    · skip
      refine wL2_of (fun x17 x18 M19 => BI M19 ∧ (∀ j9 k9 : Nat, ¬ (j9 = 0 ∧ k9 = 35 ∨ j9 = 33) → M19 j9 k9 = M j9 k9) ∧ (0 ≤ x18 ∧ x18 ≤ 1000000) ∧ True) (fun x17 x18 M19 => (1000000 - x18).toNat) ⟨hB3, hF4, (by omega), trivial⟩ (fun K x17 x18 M19 h23 k24 => ?_)
      obtain ⟨hB20, hF21, i22, -⟩ := h23
      have s25 : sI a1 = a1 := sIo (by omega) (by omega)
      have o26 : 0 ≤ (sI a1) ∧ (sI a1) < 16 := by omega
      refine ⟨o26, ?_⟩
      have q27 : 0 ≤ (M19 19 (sI a1).toNat) ∧ (M19 19 (sI a1).toNat) ≤ 24 := BN.at hB20.1 (rfl : zcd wR 19 = 69) rfl
      have s28 : sI x18 = x18 := sIo (by omega) (by omega)
      have s29 : sI (M19 19 (sI a1).toNat) = (M19 19 (sI a1).toNat) := sIo (by omega) (by omega)
      refine ⟨fun c30 => ?_, fun c30 => ?_⟩
      · skip
        have s31 := sI_R x17
        have s32 := sI_or x17
        exact hQ _ _ ⟨hB20, hF21, (by omega), trivial⟩
      · skip
        refine sR_editsBy hB20 (by omega) (by omega) (by omega) (fun z33 M34 h35 => ?_)
        obtain ⟨hB36, f37, p38, -⟩ := h35
        have hF39 : ∀ j9 k9 : Nat, ¬ (j9 = 0 ∧ k9 = 35 ∨ j9 = 33) → M34 j9 k9 = M j9 k9 := fun j9 k9 h9 => ((f37 j9 k9 (by omega)).trans (hF21 j9 k9 h9))
        have s40 := sI_R x17
        have s41 := sI_or x17
        exact k24 _ _ _ ⟨hB36, hF39, (by omega), trivial⟩ (by omega)
    · skip
      exact hQ _ _ ⟨hB3, hF4, (by omega), trivial⟩
