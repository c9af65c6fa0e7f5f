/-! safety of the model, 0 -/
theorem sI_or (z : Int) : sI z = z ∨ z < -2147483648 ∨ 2147483647 < z := by
  by_cases h : -2147483648 ≤ z ∧ z ≤ 2147483647
  · exact Or.inl (sIo h.1 h.2)
  · omega
theorem sL_or (z : Int) : sL z = z ∨ z < -9223372036854775808 ∨ 9223372036854775807 < z := by
  by_cases h : -9223372036854775808 ≤ z ∧ z ≤ 9223372036854775807
  · exact Or.inl (sLo h.1 h.2)
  · omega
set_option maxHeartbeats 4000000 in
set_option maxRecDepth 100000 in
theorem sR_in {M : zM} {a0 : Int} {a1 : Int} {a2 : Int} (hB : BI M) (v0 : (-2147483648) ≤ a0 ∧ a0 ≤ 2147483647) (v1 : (-2147483648) ≤ a1 ∧ a1 ≤ 2147483647) (v2 : (-2147483648) ≤ a2 ∧ a2 ≤ 2147483647) {Q : Int → Prop} (hQ : ∀ (z : Int), (0 ≤ z ∧ z ≤ 1) ∧ ((z = 1 ∧ a1 ≤ a0 ∧ a0 ≤ a2) ∨ (z = 0 ∧ ¬ (a1 ≤ a0 ∧ a0 ≤ a2))) ∧ True → Q z) : wR_in a0 a1 a2 M Q := by
  unfold wR_in
  have s1 : sI a0 = a0 := sIo (by omega) (by omega)
  have s2 : sI a1 = a1 := sIo (by omega) (by omega)
  refine ⟨fun c3 => ?_, fun c3 => ?_⟩
  · skip
    exact hQ _ ⟨(by omega), (by omega), trivial⟩
  · skip
    have s4 : sI a2 = a2 := sIo (by omega) (by omega)
    refine ⟨fun c5 => ?_, fun c5 => ?_⟩
    · skip
      exact hQ _ ⟨(by omega), (by omega), trivial⟩
    · skip
      exact hQ _ ⟨(by omega), (by omega), trivial⟩
set_option maxHeartbeats 4000000 in
set_option maxRecDepth 100000 in
theorem sR_areSounds {M : zM} {a0 : Int} (hB : BI M) (v0 : (-2147483648) ≤ a0 ∧ a0 ≤ 2147483647) {Q : Int → Prop} (hQ : ∀ (z : Int), (0 ≤ z ∧ z ≤ 1) ∧ ((z = 1 ∧ andI a0 (-1023) = 0) ∨ (z = 0 ∧ ¬ (andI a0 (-1023) = 0))) ∧ True → Q z) : wR_areSounds a0 M Q := by
  unfold wR_areSounds
  have q1 := andI_R a0 (-1023)
  refine ⟨fun c2 => ?_, fun c2 => ?_⟩
  · skip
    exact hQ _ ⟨(by omega), (by omega), trivial⟩
  · skip
    exact hQ _ ⟨(by omega), (by omega), trivial⟩
set_option maxHeartbeats 4000000 in
set_option maxRecDepth 100000 in
theorem sR_isRing {M : zM} {a0 : Int} (hB : BI M) (v0 : (-2147483648) ≤ a0 ∧ a0 ≤ 2147483647) {Q : Int → Prop} (hQ : ∀ (z : Int), (0 ≤ z ∧ z ≤ 1) ∧ ((z = 1 ∧ 0 ≤ a0 ∧ a0 < M 0 10 ∧ a0 < 4) ∨ (z = 0 ∧ ¬ (0 ≤ a0 ∧ a0 < M 0 10))) ∧ True → Q z) : wR_isRing a0 M Q := by
  unfold wR_isRing
  have q1 : 0 ≤ (M 0 10) ∧ (M 0 10) ≤ 4 := BN.at hB.1 (rfl : zcd wR 0 = 50) rfl
  refine sR_in hB (by omega) (by omega) (by omega) (fun z2  h3 => ?_)
  obtain ⟨p4, p5, -⟩ := h3
  exact hQ _ ⟨(by omega), (by omega), trivial⟩
set_option maxHeartbeats 4000000 in
set_option maxRecDepth 100000 in
theorem sR_isMotor {M : zM} {a0 : Int} (hB : BI M) (v0 : (-2147483648) ≤ a0 ∧ a0 ≤ 2147483647) {Q : Int → Prop} (hQ : ∀ (z : Int), (0 ≤ z ∧ z ≤ 1) ∧ ((z = 1 ∧ 0 ≤ a0 ∧ a0 ≤ 1) ∨ (z = 0 ∧ ¬ (0 ≤ a0 ∧ a0 ≤ 1))) ∧ True → Q z) : wR_isMotor a0 M Q := by
  unfold wR_isMotor
  have s1 : sI a0 = a0 := sIo (by omega) (by omega)
  refine ⟨fun c2 => ?_, fun c2 => ?_⟩
  · skip
    exact hQ _ ⟨(by omega), (by omega), trivial⟩
  · skip
    refine ⟨fun c3 => ?_, fun c3 => ?_⟩
    · skip
      exact hQ _ ⟨(by omega), (by omega), trivial⟩
    · skip
      exact hQ _ ⟨(by omega), (by omega), trivial⟩
set_option maxHeartbeats 4000000 in
set_option maxRecDepth 100000 in
theorem sR_sign {M : zM} {a0 : Int} (hB : BI M) (v0 : (-2147483648) ≤ a0 ∧ a0 ≤ 2147483647) {Q : Int → zM → Prop} (hQ : ∀ (z : Int) (M1 : zM), BI M1 ∧ (∀ j9 k9 : Nat, ¬ (j9 = 0 ∧ k9 = 35 ∨ j9 = 0 ∧ k9 = 1 ∨ j9 = 1) → M1 j9 k9 = M j9 k9) ∧ ((-2147483648) ≤ z ∧ z ≤ 2147483647) ∧ ((M 0 1 ≤ 96 ∧ z = M 0 1 + 4 ∧ M1 0 1 = M 0 1 + 4) ∨ (96 < M 0 1 ∧ z = -1 ∧ M1 0 1 = M 0 1)) ∧ True → Q z M1) : wR_sign a0 M Q := by
  unfold wR_sign
  have hF0 : ∀ j9 k9 : Nat, ¬ (j9 = 0 ∧ k9 = 35 ∨ j9 = 0 ∧ k9 = 1 ∨ j9 = 1) → M j9 k9 = M j9 k9 := fun j9 k9 _ => rfl
  intro M1 e2
  have hB3 : BI M1 := by rw [e2]; exact BI.up0 hB rfl (by omega) (by omega) (by decide)
  have hF4 : ∀ j9 k9 : Nat, ¬ (j9 = 0 ∧ k9 = 35 ∨ j9 = 0 ∧ k9 = 1 ∨ j9 = 1) → M1 j9 k9 = M j9 k9 := fun j9 k9 h9 => by rw [e2]; exact (zup_n _ _ (by omega)).trans (hF0 j9 k9 h9)
  have r5 : M1 0 1 = M 0 1 := by rw [e2]; exact zup_n _ _ (by omega)
  have q6 : 0 ≤ (M1 0 1) ∧ (M1 0 1) ≤ 100 := BN.at hB3.1 (rfl : zcd wR 0 = 50) rfl
  have s7 : sI ((M1 0 1) + 4) = ((M1 0 1) + 4) := sIo (by omega) (by omega)
  refine ⟨fun c8 => ?_, fun c8 => ?_⟩
  · skip
    have q10 := shrI_R a0 24
    have q11 := b8I_in (shrI a0 24)
    have s12 : sI (M1 0 1) = (M1 0 1) := sIo (by omega) (by omega)
    have o13 : 0 ≤ (sI (M1 0 1)) ∧ (sI (M1 0 1)) < 100 := by omega
    refine ⟨o13, ?_⟩
    intro M14 e15
    have hB16 : BI M14 := by rw [e15]; exact BI.up hB3 (rfl : zcd wR 1 = 51) rfl (by omega) (by omega) (by decide)
    have hF17 : ∀ j9 k9 : Nat, ¬ (j9 = 0 ∧ k9 = 35 ∨ j9 = 0 ∧ k9 = 1 ∨ j9 = 1) → M14 j9 k9 = M j9 k9 := fun j9 k9 h9 => by rw [e15]; exact (zup_n _ _ (by omega)).trans (hF4 j9 k9 h9)
    have r18 : M14 0 1 = M1 0 1 := by rw [e15]; exact zup_n _ _ (by omega)
    have q19 : 0 ≤ (M14 0 1) ∧ (M14 0 1) ≤ 100 := BN.at hB16.1 (rfl : zcd wR 0 = 50) rfl
    have q20 := shrI_R a0 16
    have q21 := b8I_in (shrI a0 16)
    have s22 : sI ((M14 0 1) + 1) = ((M14 0 1) + 1) := sIo (by omega) (by omega)
    have o23 : 0 ≤ (sI ((M14 0 1) + 1)) ∧ (sI ((M14 0 1) + 1)) < 100 := by omega
    refine ⟨o23, ?_⟩
    intro M24 e25
    have hB26 : BI M24 := by rw [e25]; exact BI.up hB16 (rfl : zcd wR 1 = 51) rfl (by omega) (by omega) (by decide)
    have hF27 : ∀ j9 k9 : Nat, ¬ (j9 = 0 ∧ k9 = 35 ∨ j9 = 0 ∧ k9 = 1 ∨ j9 = 1) → M24 j9 k9 = M j9 k9 := fun j9 k9 h9 => by rw [e25]; exact (zup_n _ _ (by omega)).trans (hF17 j9 k9 h9)
    have r28 : M24 0 1 = M14 0 1 := by rw [e25]; exact zup_n _ _ (by omega)
    have q29 : 0 ≤ (M24 0 1) ∧ (M24 0 1) ≤ 100 := BN.at hB26.1 (rfl : zcd wR 0 = 50) rfl
    have q30 := shrI_R a0 8
    have q31 := b8I_in (shrI a0 8)
    have s32 : sI ((M24 0 1) + 2) = ((M24 0 1) + 2) := sIo (by omega) (by omega)
    have o33 : 0 ≤ (sI ((M24 0 1) + 2)) ∧ (sI ((M24 0 1) + 2)) < 100 := by omega
    refine ⟨o33, ?_⟩
    intro M34 e35
    have hB36 : BI M34 := by rw [e35]; exact BI.up hB26 (rfl : zcd wR 1 = 51) rfl (by omega) (by omega) (by decide)
    have hF37 : ∀ j9 k9 : Nat, ¬ (j9 = 0 ∧ k9 = 35 ∨ j9 = 0 ∧ k9 = 1 ∨ j9 = 1) → M34 j9 k9 = M j9 k9 := fun j9 k9 h9 => by rw [e35]; exact (zup_n _ _ (by omega)).trans (hF27 j9 k9 h9)
    have r38 : M34 0 1 = M24 0 1 := by rw [e35]; exact zup_n _ _ (by omega)
    have q39 : 0 ≤ (M34 0 1) ∧ (M34 0 1) ≤ 100 := BN.at hB36.1 (rfl : zcd wR 0 = 50) rfl
    have q40 := b8I_in a0
    have s41 : sI ((M34 0 1) + 3) = ((M34 0 1) + 3) := sIo (by omega) (by omega)
    have o42 : 0 ≤ (sI ((M34 0 1) + 3)) ∧ (sI ((M34 0 1) + 3)) < 100 := by omega
    refine ⟨o42, ?_⟩
    intro M43 e44
    have hB45 : BI M43 := by rw [e44]; exact BI.up hB36 (rfl : zcd wR 1 = 51) rfl (by omega) (by omega) (by decide)
    have hF46 : ∀ j9 k9 : Nat, ¬ (j9 = 0 ∧ k9 = 35 ∨ j9 = 0 ∧ k9 = 1 ∨ j9 = 1) → M43 j9 k9 = M j9 k9 := fun j9 k9 h9 => by rw [e44]; exact (zup_n _ _ (by omega)).trans (hF37 j9 k9 h9)
    have r47 : M43 0 1 = M34 0 1 := by rw [e44]; exact zup_n _ _ (by omega)
    have q48 : 0 ≤ (M43 0 1) ∧ (M43 0 1) ≤ 100 := BN.at hB45.1 (rfl : zcd wR 0 = 50) rfl
    intro M49 e50
    have hB51 : BI M49 := by rw [e50]; exact BI.up0 hB45 rfl (by omega) (by omega) (by decide)
    have hF52 : ∀ j9 k9 : Nat, ¬ (j9 = 0 ∧ k9 = 35 ∨ j9 = 0 ∧ k9 = 1 ∨ j9 = 1) → M49 j9 k9 = M j9 k9 := fun j9 k9 h9 => by rw [e50]; exact (zup_n _ _ (by omega)).trans (hF46 j9 k9 h9)
    have r53 : M49 0 1 = ((M43 0 1) + 4) := by rw [e50]; exact zup_s _ _ _ _
    have q54 : 0 ≤ (M49 0 1) ∧ (M49 0 1) ≤ 100 := BN.at hB51.1 (rfl : zcd wR 0 = 50) rfl
    have s55 : sI (M49 0 1) = (M49 0 1) := sIo (by omega) (by omega)
    exact hQ _ _ ⟨hB51, hF52, (by omega), (by omega), trivial⟩
  · skip
    exact hQ _ _ ⟨hB3, hF4, (by omega), (by omega), trivial⟩
set_option maxHeartbeats 4000000 in
set_option maxRecDepth 100000 in
theorem sR_end {M : zM} {a0 : Int} (hB : BI M) (v0 : (-2147483648) ≤ a0 ∧ a0 ≤ 2147483647) {Q : Int → zM → Prop} (hQ : ∀ (z : Int) (M1 : zM), BI M1 ∧ (∀ j9 k9 : Nat, ¬ (j9 = 0 ∧ k9 = 35 ∨ j9 = 0 ∧ k9 = 1) → M1 j9 k9 = M j9 k9) ∧ (0 ≤ z ∧ z ≤ 1) ∧ ((0 ≤ a0 ∧ a0 ≤ M 0 1 ∧ z = 1 ∧ M1 0 1 = a0) ∨ ((a0 < 0 ∨ M 0 1 < a0) ∧ z = 0 ∧ M1 0 1 = M 0 1)) ∧ True → Q z M1) : wR_end a0 M Q := by
  unfold wR_end
  have hF0 : ∀ j9 k9 : Nat, ¬ (j9 = 0 ∧ k9 = 35 ∨ j9 = 0 ∧ k9 = 1) → M j9 k9 = M j9 k9 := fun j9 k9 _ => rfl
  intro M1 e2
  have hB3 : BI M1 := by rw [e2]; exact BI.up0 hB rfl (by omega) (by omega) (by decide)
  have hF4 : ∀ j9 k9 : Nat, ¬ (j9 = 0 ∧ k9 = 35 ∨ j9 = 0 ∧ k9 = 1) → M1 j9 k9 = M j9 k9 := fun j9 k9 h9 => by rw [e2]; exact (zup_n _ _ (by omega)).trans (hF0 j9 k9 h9)
  have r5 : M1 0 1 = M 0 1 := by rw [e2]; exact zup_n _ _ (by omega)
  have s6 : sI a0 = a0 := sIo (by omega) (by omega)
  refine ⟨fun c7 => ?_, fun c7 => ?_⟩
  · skip
    exact hQ _ _ ⟨hB3, hF4, (by omega), (by omega), trivial⟩
  · skip
    have q8 : 0 ≤ (M1 0 1) ∧ (M1 0 1) ≤ 100 := BN.at hB3.1 (rfl : zcd wR 0 = 50) rfl
    have s9 : sI (M1 0 1) = (M1 0 1) := sIo (by omega) (by omega)
    refine ⟨fun c10 => ?_, fun c10 => ?_⟩
    · skip
      intro M11 e12
      have hB13 : BI M11 := by rw [e12]; exact BI.up0 hB3 rfl (by omega) (by omega) (by decide)
      have hF14 : ∀ j9 k9 : Nat, ¬ (j9 = 0 ∧ k9 = 35 ∨ j9 = 0 ∧ k9 = 1) → M11 j9 k9 = M j9 k9 := fun j9 k9 h9 => by rw [e12]; exact (zup_n _ _ (by omega)).trans (hF4 j9 k9 h9)
      have r15 : M11 0 1 = a0 := by rw [e12]; exact zup_s _ _ _ _
      exact hQ _ _ ⟨hB13, hF14, (by omega), (by omega), trivial⟩
    · skip
      exact hQ _ _ ⟨hB3, hF4, (by omega), (by omega), trivial⟩
/-- the sign at a place is one of these -/
def HS (T : Nat → Int) (s p lo hi : Int) : Prop := (p < s ∧ p < 60) ∧ lo ≤ T p.toNat ∧ T p.toNat ≤ hi
theorem hno {z : Int} {P : Prop} (c : (z = 1 ∧ P) ∨ (z = 0 ∧ ¬ P)) (h : z = 0) : ¬ P := by
  rcases c with c | c
  · omega
  · exact c.2
theorem hyes {z : Int} {P : Prop} (c : (z = 1 ∧ P) ∨ (z = 0 ∧ ¬ P)) (h : z ≠ 0) : P := by
  rcases c with c | c
  · exact c.2
  · omega
theorem sR_has {M : zM} {a0 a1 : Int} (hB : BI M) (v0 : -2147483648 ≤ a0 ∧ a0 ≤ 2147483647) (v1 : -2147483648 ≤ a1 ∧ a1 ≤ 2147483647) {Q : Int → Prop} (hQ : ∀ z, ((0 ≤ z ∧ z ≤ 1) ∧ ((z = 1 ∧ HS (M 1) (M 0 1) (M 0 36) a0 a1) ∨ (z = 0 ∧ ¬ HS (M 1) (M 0 1) (M 0 36) a0 a1)) ∧ True) → Q z) : wR_has a0 a1 M Q := by
  unfold wR_has
  unfold HS at hQ
  have b1 : 0 ≤ M 0 1 ∧ M 0 1 ≤ 100 := BN.at hB.1 (rfl : zcd wR 0 = 50) rfl
  have b2 : 0 ≤ M 0 36 ∧ M 0 36 ≤ 100 := BN.at hB.1 (rfl : zcd wR 0 = 50) rfl
  have b3 : -128 ≤ M 1 (M 0 36).toNat ∧ M 1 (M 0 36).toNat ≤ 127 := BN.at hB.1 (rfl : zcd wR 1 = 51) rfl
  have s1 : sI (M 0 1) = M 0 1 := sIo (by omega) (by omega)
  have s2 : sI (M 0 36) = M 0 36 := sIo (by omega) (by omega)
  have s3 : sI a0 = a0 := sIo (by omega) (by omega)
  have s4 : sI a1 = a1 := sIo (by omega) (by omega)
  have s5 : sI (M 1 (M 0 36).toNat) = M 1 (M 0 36).toNat := sIo (by omega) (by omega)
  rw [s1, s2, s3, s4, s5]
  refine ⟨fun c => hQ _ ⟨by omega, Or.inr ⟨rfl, by omega⟩, trivial⟩, fun c => ⟨fun c2 => hQ _ ⟨by omega, Or.inr ⟨rfl, by omega⟩, trivial⟩, fun c2 => ⟨by omega, fun c3 => hQ _ ⟨by omega, Or.inr ⟨rfl, by omega⟩, trivial⟩, fun c3 => ⟨by omega, fun c4 => hQ _ ⟨by omega, Or.inr ⟨rfl, by omega⟩, trivial⟩, fun c4 => hQ _ ⟨by omega, Or.inl ⟨rfl, by omega⟩, trivial⟩⟩⟩⟩⟩
set_option maxHeartbeats 4000000 in
set_option maxRecDepth 100000 in
theorem sR_isWrong {M : zM}  (hB : BI M)  {Q : Int → zM → Prop} (hQ : ∀ (z : Int) (M1 : zM), BI M1 ∧ (∀ j9 k9 : Nat, ¬ (j9 = 0 ∧ k9 = 37) → M1 j9 k9 = M j9 k9) ∧ (0 ≤ z ∧ z ≤ 1) ∧ (z = 0) ∧ True → Q z M1) : wR_isWrong  M Q := by
  unfold wR_isWrong
  have hF0 : ∀ j9 k9 : Nat, ¬ (j9 = 0 ∧ k9 = 37) → M j9 k9 = M j9 k9 := fun j9 k9 _ => rfl
  have q1 : (-2147483648) ≤ (M 0 37) ∧ (M 0 37) ≤ 2147483647 := BN.at hB.1 (rfl : zcd wR 0 = 50) rfl
  have s2 : sI (M 0 37) = (M 0 37) := sIo (by omega) (by omega)
  refine ⟨fun c3 => ?_, fun c3 => ?_⟩
  · skip
    exact hQ _ _ ⟨hB, hF0, (by omega), (by omega), trivial⟩
  · skip
    have q4 : 0 ≤ (M 0 36) ∧ (M 0 36) ≤ 100 := BN.at hB.1 (rfl : zcd wR 0 = 50) rfl
    intro M5 e6
    have hB7 : BI M5 := by rw [e6]; exact BI.up0 hB rfl (by omega) (by omega) (by decide)
    have hF8 : ∀ j9 k9 : Nat, ¬ (j9 = 0 ∧ k9 = 37) → M5 j9 k9 = M j9 k9 := fun j9 k9 h9 => by rw [e6]; exact (zup_n _ _ (by omega)).trans (hF0 j9 k9 h9)
    have r9 : M5 0 36 = M 0 36 := by rw [e6]; exact zup_n _ _ (by omega)
    have r10 : M5 0 1 = M 0 1 := by rw [e6]; exact zup_n _ _ (by omega)
    exact hQ _ _ ⟨hB7, hF8, (by omega), (by omega), trivial⟩
/-- an atom can begin here -/
def AT (T : Nat → Int) (s p : Int) : Prop := HS T s p 48 57 ∨ HS T s p 91 91 ∨ HS T s p 40 40
/-- what a text can be read as: 0 an atom, 1 a term, 2 a row, 3 digits and a bracket's end, 4 the end of a term, 5 the end of a row; at a depth, from a place to a place; the first number bounds the depth of the reading -/
def SK (T : Nat → Int) (s : Int) : Nat → Nat → Nat → Int → Int → Prop
  | 0, _, _, _, _ => False
  | n + 1, 0, d, p, q => (HS T s p 48 57 ∧ q = p + 1) ∨ (¬ HS T s p 48 57 ∧ HS T s p 91 91 ∧ HS T s (p + 1) 49 57 ∧ SK T s n 3 d (p + 1) q) ∨ (¬ HS T s p 48 57 ∧ ¬ HS T s p 91 91 ∧ HS T s p 40 40 ∧ d ≠ 5 ∧ ∃ r, SK T s n 2 (d + 1) (p + 1) r ∧ HS T s r 41 41 ∧ q = r + 1)
  | n + 1, 1, d, p, q => ∃ r, SK T s n 0 d p r ∧ SK T s n 4 d r q
  | n + 1, 2, d, p, q => ∃ r, SK T s n 1 d p r ∧ SK T s n 5 d r q
  | n + 1, 3, d, p, q => (HS T s p 49 57 ∧ SK T s n 3 d (p + 1) q) ∨ (¬ HS T s p 49 57 ∧ HS T s p 93 93 ∧ q = p + 1)
  | n + 1, 4, d, p, q => (HS T s p 126 126 ∧ SK T s n 4 d (p + 1) q) ∨ (¬ HS T s p 126 126 ∧ HS T s p 42 42 ∧ HS T s (p + 1) 50 57 ∧ SK T s n 4 d (p + 2) q) ∨ (¬ HS T s p 126 126 ∧ ¬ HS T s p 42 42 ∧ q = p)
  | n + 1, 5, d, p, q => (HS T s p 47 47 ∧ HS T s (p + 1) 49 57 ∧ ∃ r, SK T s n 1 d (p + 2) r ∧ SK T s n 5 d r q) ∨ (¬ HS T s p 47 47 ∧ AT T s p ∧ ∃ r, SK T s n 1 d p r ∧ SK T s n 5 d r q) ∨ (¬ HS T s p 47 47 ∧ ¬ AT T s p ∧ q = p)
  | _ + 1, _ + 6, _, _, _ => False
theorem SK_s (T : Nat → Int) (s : Int) : ∀ (n k d : Nat) (p q : Int), SK T s n k d p q → SK T s (n + 1) k d p q := by
  intro n
  induction n with
  | zero => intro k d p q h; exact h.elim
  | succ n ih =>
    intro k d p q h
    match k, h with
    | 0, h =>
      rcases h with h | ⟨a, b, c, e⟩ | ⟨a, b, c, e, r, x, y⟩
      · exact Or.inl h
      · exact Or.inr (Or.inl ⟨a, b, c, ih _ _ _ _ e⟩)
      · exact Or.inr (Or.inr ⟨a, b, c, e, r, ih _ _ _ _ x, y⟩)
    | 1, h =>
      obtain ⟨r, x, y⟩ := h
      exact ⟨r, ih _ _ _ _ x, ih _ _ _ _ y⟩
    | 2, h =>
      obtain ⟨r, x, y⟩ := h
      exact ⟨r, ih _ _ _ _ x, ih _ _ _ _ y⟩
    | 3, h =>
      rcases h with ⟨a, b⟩ | h
      · exact Or.inl ⟨a, ih _ _ _ _ b⟩
      · exact Or.inr h
    | 4, h =>
      rcases h with ⟨a, b⟩ | ⟨a, b, c, e⟩ | h
      · exact Or.inl ⟨a, ih _ _ _ _ b⟩
      · exact Or.inr (Or.inl ⟨a, b, c, ih _ _ _ _ e⟩)
      · exact Or.inr (Or.inr h)
    | 5, h =>
      rcases h with ⟨a, b, r, x, y⟩ | ⟨a, b, r, x, y⟩ | h
      · exact Or.inl ⟨a, b, r, ih _ _ _ _ x, ih _ _ _ _ y⟩
      · exact Or.inr (Or.inl ⟨a, b, r, ih _ _ _ _ x, ih _ _ _ _ y⟩)
      · exact Or.inr (Or.inr h)
    | _ + 6, h => exact h.elim
theorem SK_le {T : Nat → Int} {s : Int} {n m k d : Nat} {p q : Int} (h : SK T s n k d p q) (hm : n ≤ m) : SK T s m k d p q := by
  obtain ⟨i, rfl⟩ := Nat.exists_eq_add_of_le hm
  clear hm
  induction i with
  | zero => exact h
  | succ i ih => exact SK_s T s _ k d p q ih
def PK (T : Nat → Int) (s : Int) (k d : Nat) (p q : Int) : Prop := ∃ n, SK T s n k d p q
theorem PK_and {T : Nat → Int} {s : Int} {k d k2 d2 : Nat} {p q p2 q2 : Int} (h : PK T s k d p q) (h2 : PK T s k2 d2 p2 q2) : ∃ n, SK T s n k d p q ∧ SK T s n k2 d2 p2 q2 := by
  obtain ⟨n, a⟩ := h
  obtain ⟨m, b⟩ := h2
  exact ⟨max n m, SK_le a (Nat.le_max_left _ _), SK_le b (Nat.le_max_right _ _)⟩
theorem SK_det (T : Nat → Int) (s : Int) : ∀ (n k d : Nat) (p q q2 : Int), SK T s n k d p q → SK T s n k d p q2 → q = q2 := by
  intro n
  induction n with
  | zero => intro k d p q q2 h; exact h.elim
  | succ n ih =>
    intro k d p q q2 h h2
    match k, h, h2 with
    | 0, h, h2 =>
      rcases h with ⟨a, b⟩ | ⟨a, b, c, e⟩ | ⟨a, b, c, e, r, x, y, z⟩
      · rcases h2 with ⟨a2, b2⟩ | h2 | h2
        · omega
        · exact absurd a h2.1
        · exact absurd a h2.1
      · rcases h2 with h2 | ⟨a2, b2, c2, e2⟩ | h2
        · exact absurd h2.1 a
        · exact ih _ _ _ _ _ e e2
        · exact absurd b h2.2.1
      · rcases h2 with h2 | h2 | ⟨a2, b2, c2, e2, r2, x2, y2, z2⟩
        · exact absurd h2.1 a
        · exact absurd h2.2.1 b
        · have := ih _ _ _ _ _ x x2
          omega
    | 1, ⟨r, x, y⟩, ⟨r2, x2, y2⟩ =>
      have e := ih _ _ _ _ _ x x2
      subst e
      exact ih _ _ _ _ _ y y2
    | 2, ⟨r, x, y⟩, ⟨r2, x2, y2⟩ =>
      have e := ih _ _ _ _ _ x x2
      subst e
      exact ih _ _ _ _ _ y y2
    | 3, h, h2 =>
      rcases h with ⟨a, b⟩ | ⟨a, b, c⟩
      · rcases h2 with ⟨a2, b2⟩ | h2
        · exact ih _ _ _ _ _ b b2
        · exact absurd a h2.1
      · rcases h2 with h2 | ⟨a2, b2, c2⟩
        · exact absurd h2.1 a
        · omega
    | 4, h, h2 =>
      rcases h with ⟨a, b⟩ | ⟨a, b, c, e⟩ | ⟨a, b, c⟩
      · rcases h2 with ⟨a2, b2⟩ | h2 | h2
        · exact ih _ _ _ _ _ b b2
        · exact absurd a h2.1
        · exact absurd a h2.1
      · rcases h2 with h2 | ⟨a2, b2, c2, e2⟩ | h2
        · exact absurd h2.1 a
        · exact ih _ _ _ _ _ e e2
        · exact absurd b h2.2.1
      · rcases h2 with h2 | h2 | ⟨a2, b2, c2⟩
        · exact absurd h2.1 a
        · exact absurd h2.2.1 b
        · omega
    | 5, h, h2 =>
      rcases h with ⟨a, b, r, x, y⟩ | ⟨a, b, r, x, y⟩ | ⟨a, b, c⟩
      · rcases h2 with ⟨a2, b2, r2, x2, y2⟩ | h2 | h2
        · have e := ih _ _ _ _ _ x x2
          subst e
          exact ih _ _ _ _ _ y y2
        · exact absurd a h2.1
        · exact absurd a h2.1
      · rcases h2 with h2 | ⟨a2, b2, r2, x2, y2⟩ | h2
        · exact absurd h2.1 a
        · have e := ih _ _ _ _ _ x x2
          subst e
          exact ih _ _ _ _ _ y y2
        · exact absurd b h2.2.1
      · rcases h2 with h2 | h2 | ⟨a2, b2, c2⟩
        · exact absurd h2.1 a
        · exact absurd h2.2.1 b
        · omega
    | _ + 6, h, _ => exact h.elim
theorem PK_det {T : Nat → Int} {s : Int} {k d : Nat} {p q q2 : Int} (h : PK T s k d p q) (h2 : PK T s k d p q2) : q = q2 := by
  obtain ⟨n, a, b⟩ := PK_and h h2
  exact SK_det T s n k d p q q2 a b
theorem PK0 {T : Nat → Int} {s : Int} {d : Nat} {p q : Int} : PK T s 0 d p q ↔ (HS T s p 48 57 ∧ q = p + 1) ∨ (¬ HS T s p 48 57 ∧ HS T s p 91 91 ∧ HS T s (p + 1) 49 57 ∧ PK T s 3 d (p + 1) q) ∨ (¬ HS T s p 48 57 ∧ ¬ HS T s p 91 91 ∧ HS T s p 40 40 ∧ d ≠ 5 ∧ ∃ r, PK T s 2 (d + 1) (p + 1) r ∧ HS T s r 41 41 ∧ q = r + 1) := by
  constructor
  · rintro ⟨n, h⟩
    match n, h with
    | n + 1, h =>
      rcases h with h | ⟨a, b, c, e⟩ | ⟨a, b, c, e, r, x, y⟩
      · exact Or.inl h
      · exact Or.inr (Or.inl ⟨a, b, c, n, e⟩)
      · exact Or.inr (Or.inr ⟨a, b, c, e, r, ⟨n, x⟩, y⟩)
  · rintro (h | ⟨a, b, c, n, e⟩ | ⟨a, b, c, e, r, ⟨n, x⟩, y⟩)
    · exact ⟨1, Or.inl h⟩
    · exact ⟨n + 1, Or.inr (Or.inl ⟨a, b, c, e⟩)⟩
    · exact ⟨n + 1, Or.inr (Or.inr ⟨a, b, c, e, r, x, y⟩)⟩
theorem PK1 {T : Nat → Int} {s : Int} {d : Nat} {p q : Int} : PK T s 1 d p q ↔ ∃ r, PK T s 0 d p r ∧ PK T s 4 d r q := by
  constructor
  · rintro ⟨n, h⟩
    match n, h with
    | n + 1, ⟨r, x, y⟩ => exact ⟨r, ⟨n, x⟩, ⟨n, y⟩⟩
  · rintro ⟨r, x, y⟩
    obtain ⟨n, x, y⟩ := PK_and x y
    exact ⟨n + 1, r, x, y⟩
theorem PK2 {T : Nat → Int} {s : Int} {d : Nat} {p q : Int} : PK T s 2 d p q ↔ ∃ r, PK T s 1 d p r ∧ PK T s 5 d r q := by
  constructor
  · rintro ⟨n, h⟩
    match n, h with
    | n + 1, ⟨r, x, y⟩ => exact ⟨r, ⟨n, x⟩, ⟨n, y⟩⟩
  · rintro ⟨r, x, y⟩
    obtain ⟨n, x, y⟩ := PK_and x y
    exact ⟨n + 1, r, x, y⟩
theorem PK3 {T : Nat → Int} {s : Int} {d : Nat} {p q : Int} : PK T s 3 d p q ↔ (HS T s p 49 57 ∧ PK T s 3 d (p + 1) q) ∨ (¬ HS T s p 49 57 ∧ HS T s p 93 93 ∧ q = p + 1) := by
  constructor
  · rintro ⟨n, h⟩
    match n, h with
    | n + 1, h =>
      rcases h with ⟨a, b⟩ | h
      · exact Or.inl ⟨a, n, b⟩
      · exact Or.inr h
  · rintro (⟨a, n, b⟩ | h)
    · exact ⟨n + 1, Or.inl ⟨a, b⟩⟩
    · exact ⟨1, Or.inr h⟩
theorem PK4 {T : Nat → Int} {s : Int} {d : Nat} {p q : Int} : PK T s 4 d p q ↔ (HS T s p 126 126 ∧ PK T s 4 d (p + 1) q) ∨ (¬ HS T s p 126 126 ∧ HS T s p 42 42 ∧ HS T s (p + 1) 50 57 ∧ PK T s 4 d (p + 2) q) ∨ (¬ HS T s p 126 126 ∧ ¬ HS T s p 42 42 ∧ q = p) := by
  constructor
  · rintro ⟨n, h⟩
    match n, h with
    | n + 1, h =>
      rcases h with ⟨a, b⟩ | ⟨a, b, c, e⟩ | h
      · exact Or.inl ⟨a, n, b⟩
      · exact Or.inr (Or.inl ⟨a, b, c, n, e⟩)
      · exact Or.inr (Or.inr h)
  · rintro (⟨a, n, b⟩ | ⟨a, b, c, n, e⟩ | h)
    · exact ⟨n + 1, Or.inl ⟨a, b⟩⟩
    · exact ⟨n + 1, Or.inr (Or.inl ⟨a, b, c, e⟩)⟩
    · exact ⟨1, Or.inr (Or.inr h)⟩
theorem PK5 {T : Nat → Int} {s : Int} {d : Nat} {p q : Int} : PK T s 5 d p q ↔ (HS T s p 47 47 ∧ HS T s (p + 1) 49 57 ∧ ∃ r, PK T s 1 d (p + 2) r ∧ PK T s 5 d r q) ∨ (¬ HS T s p 47 47 ∧ AT T s p ∧ ∃ r, PK T s 1 d p r ∧ PK T s 5 d r q) ∨ (¬ HS T s p 47 47 ∧ ¬ AT T s p ∧ q = p) := by
  constructor
  · rintro ⟨n, h⟩
    match n, h with
    | n + 1, h =>
      rcases h with ⟨a, b, r, x, y⟩ | ⟨a, b, r, x, y⟩ | h
      · exact Or.inl ⟨a, b, r, ⟨n, x⟩, ⟨n, y⟩⟩
      · exact Or.inr (Or.inl ⟨a, b, r, ⟨n, x⟩, ⟨n, y⟩⟩)
      · exact Or.inr (Or.inr h)
  · rintro (⟨a, b, r, x, y⟩ | ⟨a, b, r, x, y⟩ | h)
    · obtain ⟨n, x, y⟩ := PK_and x y
      exact ⟨n + 1, Or.inl ⟨a, b, r, x, y⟩⟩
    · obtain ⟨n, x, y⟩ := PK_and x y
      exact ⟨n + 1, Or.inr (Or.inl ⟨a, b, r, x, y⟩)⟩
    · exact ⟨1, Or.inr (Or.inr h)⟩
/-- what skipping answers: whether the text can be read so, and where that ends -/
def SPost (T : Nat → Int) (s : Int) (k d : Nat) (M : zM) (z : Int) (M1 : zM) : Prop := (BI M1 ∧ (∀ j9 k9 : Nat, ¬ (j9 = 0 ∧ k9 = 36 ∨ j9 = 0 ∧ k9 = 37) → M1 j9 k9 = M j9 k9)) ∧ (0 ≤ M1 0 36 ∧ M1 0 36 ≤ 60) ∧ ((z = 1 ∧ M 0 36 < M1 0 36 ∧ PK T s k d (M 0 36) (M1 0 36)) ∨ (z = 0 ∧ ∀ q, ¬ PK T s k d (M 0 36) q))
def SpR (T : Nat → Int) (s : Int) (k d : Nat) (R : Int → zM → (Int → zM → Prop) → Prop) : Prop := ∀ (M : zM) (Q : Int → zM → Prop), BI M → M 1 = T → M 0 1 = s → (0 ≤ M 0 36 ∧ M 0 36 ≤ 60) → (∀ z M1, SPost T s k d M z M1 → Q z M1) → R (d : Int) M Q
theorem rowF {M M1 : zM} {P : Nat → Nat → Prop} (h : ∀ j9 k9 : Nat, ¬ P j9 k9 → M1 j9 k9 = M j9 k9) (j : Nat) (hj : ∀ k, ¬ P j k) : M1 j = M j := by
  funext k
  exact h j k (hj k)
/-- one place on -/
theorem BIp {M : zM} (h : BI M) {v : Int} (h1 : 0 ≤ v) (h2 : v ≤ 100) : BI (zup M 0 36 v) := BI.up0 h (rfl : cbt 50 36 = (0, 100)) h1 h2 (by decide)
theorem sp_wrong {T : Nat → Int} {s : Int} {k d : Nat} {M0 M : zM} {Q : Int → zM → Prop} (hB : BI M) (hF : ∀ j9 k9 : Nat, ¬ (j9 = 0 ∧ k9 = 36 ∨ j9 = 0 ∧ k9 = 37) → M j9 k9 = M0 j9 k9) (hp : 0 ≤ M 0 36 ∧ M 0 36 ≤ 60) (hn : ∀ q, ¬ PK T s k d (M0 0 36) q) (hQ : ∀ z M1, SPost T s k d M0 z M1 → Q z M1) : wR_isWrong M (fun z M1 => Q z M1) := by
  refine sR_isWrong hB (fun z M1 h => ?_)
  obtain ⟨h1, h2, -, h3, -⟩ := h
  have e : M1 0 36 = M 0 36 := h2 0 36 (by omega)
  exact hQ _ _ ⟨⟨h1, fun j9 k9 h9 => (h2 j9 k9 (by omega)).trans (hF j9 k9 h9)⟩, by omega, Or.inr ⟨h3, hn⟩⟩
theorem has_at {M M0 : zM} {T : Nat → Int} {s lo hi : Int} {P : Nat → Nat → Prop} (h1 : M 1 = T) (h2 : M 0 1 = s) (h : HS (M 1) (M 0 1) (M 0 36) lo hi) : HS T s (M 0 36) lo hi := by rw [← h1, ← h2]; exact h
theorem sp_atom {T : Nat → Int} {s : Int} {d : Nat} {R : Int → zM → (Int → zM → Prop) → Prop} (hd : d ≤ 5) (hR : d < 5 → SpR T s 2 (d + 1) R) : SpR T s 0 d (wR_skipAtom_F R) := by
  intro M Q hB hT hs hp hQ
  unfold wR_skipAtom_F
  have F0 : ∀ j9 k9 : Nat, ¬ (j9 = 0 ∧ k9 = 36 ∨ j9 = 0 ∧ k9 = 37) → M j9 k9 = M j9 k9 := fun _ _ _ => rfl
  refine sR_has hB (by omega) (by omega) (fun z2 c2 => ?_)
  obtain ⟨-, c2, -⟩ := c2
  rw [hT, hs] at c2
  refine ⟨fun e2 => ?_, fun e2 => ?_⟩
  · have n2 : ¬ HS T s (M 0 36) 48 57 := hno c2 (by omega)
    refine sR_has hB (by omega) (by omega) (fun z7 c7 => ?_)
    obtain ⟨-, c7, -⟩ := c7
    rw [hT, hs] at c7
    refine ⟨fun e7 => ?_, fun e7 => ?_⟩
    · have n7 : ¬ HS T s (M 0 36) 91 91 := hno c7 (by omega)
      refine sR_has hB (by omega) (by omega) (fun z12 c12 => ?_)
      obtain ⟨-, c12, -⟩ := c12
      rw [hT, hs] at c12
      have sd : sI (d : Int) = d := sIo (by omega) (by omega)
      refine ⟨fun e12 => ?_, fun e12 => ?_⟩
      · have n12 : ¬ HS T s (M 0 36) 40 40 := hno c12 (by omega)
        refine sp_wrong hB F0 hp (fun q hq => ?_) hQ
        rcases PK0.mp hq with h | h | h
        · exact n2 h.1
        · exact n7 h.2.1
        · exact n12 h.2.2.1
      · have y12 : HS T s (M 0 36) 40 40 := hyes c12 (by omega)
        rw [sd]
        refine ⟨fun e5 => ?_, fun e5 => ?_⟩
        · intro M20 e20
          have pl : M 0 36 < 60 := y12.1.2
          have hB20 : BI M20 := by rw [e20]; exact BIp hB (by omega) (by omega)
          have F20 : ∀ j9 k9 : Nat, ¬ (j9 = 0 ∧ k9 = 36) → M20 j9 k9 = M j9 k9 := fun j9 k9 h9 => by rw [e20]; exact zup_n _ _ h9
          have p20 : M20 0 36 = M 0 36 + 1 := by rw [e20]; exact zup_s _ _ _ _
          refine hR (by omega) M20 _ hB20 ((rowF F20 1 (by omega)).trans hT) ((F20 0 1 (by omega)).trans hs) (by omega) (fun z23 M22 h22 => ?_)
          obtain ⟨⟨hB22, F22⟩, p22, h22⟩ := h22
          rw [p20] at h22
          have T22 : M22 1 = T := (rowF F22 1 (by omega)).trans ((rowF F20 1 (by omega)).trans hT)
          have S22 : M22 0 1 = s := (F22 0 1 (by omega)).trans ((F20 0 1 (by omega)).trans hs)
          have F2 : ∀ j9 k9 : Nat, ¬ (j9 = 0 ∧ k9 = 36 ∨ j9 = 0 ∧ k9 = 37) → M22 j9 k9 = M j9 k9 := fun j9 k9 h9 => (F22 j9 k9 h9).trans (F20 j9 k9 (by omega))
          refine ⟨fun e23 => ?_, fun e23 => ?_⟩
          · rcases h22 with ⟨-, lt, pk⟩ | ⟨h, -⟩
            · refine sR_has hB22 (by omega) (by omega) (fun z27 c27 => ?_)
              obtain ⟨-, c27, -⟩ := c27
              rw [T22, S22] at c27
              refine ⟨fun e27 => ?_, fun e27 => ?_⟩
              · have y27 : HS T s (M22 0 36) 41 41 := hyes c27 (by omega)
                have pl2 : M22 0 36 < 60 := y27.1.2
                intro M31 e31
                have p31 : M31 0 36 = M22 0 36 + 1 := by rw [e31]; exact zup_s _ _ _ _
                refine hQ _ _ ⟨⟨by rw [e31]; exact BIp hB22 (by omega) (by omega), fun j9 k9 h9 => by rw [e31, zup_n _ _ (by omega)]; exact F2 j9 k9 h9⟩, by omega, Or.inl ⟨rfl, by omega, ?_⟩⟩
                rw [p31]
                exact PK0.mpr (Or.inr (Or.inr ⟨n2, n7, y12, by omega, _, pk, y27, rfl⟩))
              · have n27 : ¬ HS T s (M22 0 36) 41 41 := hno c27 (by omega)
                refine sp_wrong hB22 F2 p22 (fun q hq => ?_) hQ
                rcases PK0.mp hq with h | h | h
                · exact n2 h.1
                · exact n7 h.2.1
                · obtain ⟨-, -, -, -, r, x, y, -⟩ := h
                  rw [PK_det x pk] at y
                  exact n27 y
            · exact absurd h e23
          · rcases h22 with ⟨h, -⟩ | ⟨-, h⟩
            · omega
            · refine hQ _ _ ⟨⟨hB22, F2⟩, p22, Or.inr ⟨rfl, fun q hq => ?_⟩⟩
              rcases PK0.mp hq with h0 | h0 | h0
              · exact n2 h0.1
              · exact n7 h0.2.1
              · obtain ⟨-, -, -, -, r, x, -⟩ := h0
                exact h r x
        · refine sp_wrong hB F0 hp (fun q hq => ?_) hQ
          rcases PK0.mp hq with h | h | h
          · exact n2 h.1
          · exact n7 h.2.1
          · omega
    · have y7 : HS T s (M 0 36) 91 91 := hyes c7 (by omega)
      intro M39 e39
      have pl : M 0 36 < 60 := y7.1.2
      have hB39 : BI M39 := by rw [e39]; exact BIp hB (by omega) (by omega)
      have F39 : ∀ j9 k9 : Nat, ¬ (j9 = 0 ∧ k9 = 36) → M39 j9 k9 = M j9 k9 := fun j9 k9 h9 => by rw [e39]; exact zup_n _ _ h9
      have p39 : M39 0 36 = M 0 36 + 1 := by rw [e39]; exact zup_s _ _ _ _
      have T39 : M39 1 = T := (rowF F39 1 (by omega)).trans hT
      have S39 : M39 0 1 = s := (F39 0 1 (by omega)).trans hs
      refine sR_has hB39 (by omega) (by omega) (fun z42 c42 => ?_)
      obtain ⟨-, c42, -⟩ := c42
      rw [T39, S39] at c42
      refine ⟨fun e42 => ?_, fun e42 => ?_⟩
      · have y42 : HS T s (M39 0 36) 49 57 := hyes c42 (by omega)
        have y43 := y42
        rw [p39] at y43
        refine wL0_of (fun N => BI N ∧ (∀ j9 k9 : Nat, ¬ (j9 = 0 ∧ k9 = 36 ∨ j9 = 0 ∧ k9 = 37) → N j9 k9 = M j9 k9) ∧ (M 0 36 < N 0 36 ∧ N 0 36 ≤ 60) ∧ (∀ q, PK T s 0 d (M 0 36) q ↔ PK T s 3 d (N 0 36) q)) (fun N => (100 - N 0 36).toNat) ⟨hB39, fun j9 k9 h9 => F39 j9 k9 (by omega), by omega, fun q => ?_⟩ (fun K N hI hK => ?_)
        · rw [p39]
          constructor
          · intro h
            rcases PK0.mp h with h | h | h
            · exact absurd h.1 n2
            · exact h.2.2.2
            · exact absurd y7 h.2.1
          · exact fun h => PK0.mpr (Or.inr (Or.inl ⟨n2, y7, y43, h⟩))
        · obtain ⟨hBN, FN, pN, eN⟩ := hI
          have TN : N 1 = T := (rowF FN 1 (by omega)).trans hT
          have SN : N 0 1 = s := (FN 0 1 (by omega)).trans hs
          refine sR_has hBN (by omega) (by omega) (fun z55 c55 => ?_)
          obtain ⟨-, c55, -⟩ := c55
          rw [TN, SN] at c55
          refine ⟨fun e55 => ?_, fun e55 => ?_⟩
          · have n55 : ¬ HS T s (N 0 36) 49 57 := hno c55 (by omega)
            refine sR_has hBN (by omega) (by omega) (fun z60 c60 => ?_)
            obtain ⟨-, c60, -⟩ := c60
            rw [TN, SN] at c60
            refine ⟨fun e60 => ?_, fun e60 => ?_⟩
            · have y60 : HS T s (N 0 36) 93 93 := hyes c60 (by omega)
              have pl2 : N 0 36 < 60 := y60.1.2
              intro M64 e64
              have p64 : M64 0 36 = N 0 36 + 1 := by rw [e64]; exact zup_s _ _ _ _
              refine hQ _ _ ⟨⟨by rw [e64]; exact BIp hBN (by omega) (by omega), fun j9 k9 h9 => by rw [e64, zup_n _ _ (by omega)]; exact FN j9 k9 h9⟩, by omega, Or.inl ⟨rfl, by omega, ?_⟩⟩
              rw [p64]
              exact (eN _).mpr (PK3.mpr (Or.inr ⟨n55, y60, rfl⟩))
            · have n60 : ¬ HS T s (N 0 36) 93 93 := hno c60 (by omega)
              refine sp_wrong hBN FN (by omega) (fun q hq => ?_) hQ
              rcases PK3.mp ((eN q).mp hq) with h | h
              · exact n55 h.1
              · exact n60 h.2.1
          · have y55 : HS T s (N 0 36) 49 57 := hyes c55 (by omega)
            have pl2 : N 0 36 < 60 := y55.1.2
            intro M69 e69
            have p69 : M69 0 36 = N 0 36 + 1 := by rw [e69]; exact zup_s _ _ _ _
            refine hK _ ⟨by rw [e69]; exact BIp hBN (by omega) (by omega), fun j9 k9 h9 => by rw [e69, zup_n _ _ (by omega)]; exact FN j9 k9 h9, by omega, fun q => ?_⟩ (by omega)
            rw [eN q, p69]
            constructor
            · intro h
              rcases PK3.mp h with h | h
              · exact h.2
              · exact absurd y55 h.1
            · exact fun h => PK3.mpr (Or.inl ⟨y55, h⟩)
      · have n42 : ¬ HS T s (M39 0 36) 49 57 := hno c42 (by omega)
        rw [p39] at n42
        refine sp_wrong hB39 (fun j9 k9 h9 => F39 j9 k9 (by omega)) (by omega) (fun q hq => ?_) hQ
        rcases PK0.mp hq with h | h | h
        · exact n2 h.1
        · exact n42 h.2.2.1
        · exact h.2.1 y7
  · have y2 : HS T s (M 0 36) 48 57 := hyes c2 (by omega)
    have pl : M 0 36 < 60 := y2.1.2
    intro M76 e76
    have p76 : M76 0 36 = M 0 36 + 1 := by rw [e76]; exact zup_s _ _ _ _
    refine hQ _ _ ⟨⟨by rw [e76]; exact BIp hB (by omega) (by omega), fun j9 k9 h9 => by rw [e76]; exact zup_n _ _ (by omega)⟩, by omega, Or.inl ⟨rfl, by omega, ?_⟩⟩
    rw [p76]
    exact PK0.mpr (Or.inl ⟨y2, rfl⟩)
theorem sp_term {T : Nat → Int} {s : Int} {d : Nat} {R : Int → zM → (Int → zM → Prop) → Prop} (hR : SpR T s 0 d R) : SpR T s 1 d (wR_skipTerm_F R) := by
  intro M Q hB hT hs hp hQ
  unfold wR_skipTerm_F
  refine hR M _ hB hT hs hp (fun z2 M1 h1 => ?_)
  obtain ⟨⟨hB1, F1⟩, p1, h1⟩ := h1
  refine ⟨fun e2 => ?_, fun e2 => ?_⟩
  · rcases h1 with ⟨-, lt, pk⟩ | ⟨h, -⟩
    · refine wL0_of (fun N => BI N ∧ (∀ j9 k9 : Nat, ¬ (j9 = 0 ∧ k9 = 36 ∨ j9 = 0 ∧ k9 = 37) → N j9 k9 = M j9 k9) ∧ (M 0 36 < N 0 36 ∧ N 0 36 ≤ 60) ∧ (∀ q, PK T s 1 d (M 0 36) q ↔ PK T s 4 d (N 0 36) q)) (fun N => (100 - N 0 36).toNat) ⟨hB1, F1, by omega, fun q => ?_⟩ (fun K N hI hK => ?_)
      · constructor
        · intro h
          obtain ⟨r, x, y⟩ := PK1.mp h
          rw [PK_det x pk] at y
          exact y
        · exact fun h => PK1.mpr ⟨_, pk, h⟩
      · obtain ⟨hBN, FN, pN, eN⟩ := hI
        have TN : N 1 = T := (rowF FN 1 (by omega)).trans hT
        have SN : N 0 1 = s := (FN 0 1 (by omega)).trans hs
        refine sR_has hBN (by omega) (by omega) (fun z14 c14 => ?_)
        obtain ⟨-, c14, -⟩ := c14
        rw [TN, SN] at c14
        refine ⟨fun e14 => ?_, fun e14 => ?_⟩
        · have n14 : ¬ HS T s (N 0 36) 126 126 := hno c14 (by omega)
          refine sR_has hBN (by omega) (by omega) (fun z19 c19 => ?_)
          obtain ⟨-, c19, -⟩ := c19
          rw [TN, SN] at c19
          refine ⟨fun e19 => ?_, fun e19 => ?_⟩
          · have n19 : ¬ HS T s (N 0 36) 42 42 := hno c19 (by omega)
            exact hQ _ _ ⟨⟨hBN, FN⟩, by omega, Or.inl ⟨rfl, by omega, (eN _).mpr (PK4.mpr (Or.inr (Or.inr ⟨n14, n19, rfl⟩)))⟩⟩
          · have y19 : HS T s (N 0 36) 42 42 := hyes c19 (by omega)
            have pl : N 0 36 < 60 := y19.1.2
            intro M23 e23
            have p23 : M23 0 36 = N 0 36 + 1 := by rw [e23]; exact zup_s _ _ _ _
            have hB23 : BI M23 := by rw [e23]; exact BIp hBN (by omega) (by omega)
            have F23 : ∀ j9 k9 : Nat, ¬ (j9 = 0 ∧ k9 = 36 ∨ j9 = 0 ∧ k9 = 37) → M23 j9 k9 = M j9 k9 := fun j9 k9 h9 => by rw [e23, zup_n _ _ (by omega)]; exact FN j9 k9 h9
            refine sR_has hB23 (by omega) (by omega) (fun z26 c26 => ?_)
            obtain ⟨-, c26, -⟩ := c26
            rw [(rowF F23 1 (by omega)).trans hT, (F23 0 1 (by omega)).trans hs, p23] at c26
            refine ⟨fun e26 => ?_, fun e26 => ?_⟩
            · have y26 : HS T s (N 0 36 + 1) 50 57 := hyes c26 (by omega)
              have pl2 : N 0 36 + 1 < 60 := y26.1.2
              intro M30 e30
              have p30 : M30 0 36 = N 0 36 + 2 := by rw [e30, zup_s]; omega
              refine hK _ ⟨by rw [e30]; exact BIp hB23 (by omega) (by omega), fun j9 k9 h9 => by rw [e30, zup_n _ _ (by omega)]; exact F23 j9 k9 h9, by omega, fun q => ?_⟩ (by omega)
              rw [eN q, p30]
              constructor
              · intro h
                rcases PK4.mp h with h | h | h
                · exact absurd h.1 n14
                · exact h.2.2.2
                · exact absurd y19 h.2.1
              · exact fun h => PK4.mpr (Or.inr (Or.inl ⟨n14, y19, y26, h⟩))
            · have n26 : ¬ HS T s (N 0 36 + 1) 50 57 := hno c26 (by omega)
              refine sp_wrong hB23 F23 (by omega) (fun q hq => ?_) hQ
              rcases PK4.mp ((eN q).mp hq) with h | h | h
              · exact n14 h.1
              · exact n26 h.2.2.1
              · exact h.2.1 y19
        · have y14 : HS T s (N 0 36) 126 126 := hyes c14 (by omega)
          have pl : N 0 36 < 60 := y14.1.2
          intro M37 e37
          have p37 : M37 0 36 = N 0 36 + 1 := by rw [e37]; exact zup_s _ _ _ _
          refine hK _ ⟨by rw [e37]; exact BIp hBN (by omega) (by omega), fun j9 k9 h9 => by rw [e37, zup_n _ _ (by omega)]; exact FN j9 k9 h9, by omega, fun q => ?_⟩ (by omega)
          rw [eN q, p37]
          constructor
          · intro h
            rcases PK4.mp h with h | h | h
            · exact h.2
            · exact absurd y14 h.1
            · exact absurd y14 h.1
          · exact fun h => PK4.mpr (Or.inl ⟨y14, h⟩)
    · exact absurd h e2
  · rcases h1 with ⟨h, -⟩ | ⟨-, h⟩
    · omega
    · refine hQ _ _ ⟨⟨hB1, F1⟩, p1, Or.inr ⟨rfl, fun q hq => ?_⟩⟩
      obtain ⟨r, x, -⟩ := PK1.mp hq
      exact h r x
theorem sp_row {T : Nat → Int} {s : Int} {d : Nat} {R : Int → zM → (Int → zM → Prop) → Prop} (hR : SpR T s 1 d R) : SpR T s 2 d (wR_skipRow_F R) := by
  intro M Q hB hT hs hp hQ
  unfold wR_skipRow_F
  refine hR M _ hB hT hs hp (fun z2 M1 h1 => ?_)
  obtain ⟨⟨hB1, F1⟩, p1, h1⟩ := h1
  refine ⟨fun e2 => ?_, fun e2 => ?_⟩
  · rcases h1 with ⟨-, lt, pk⟩ | ⟨h, -⟩
    · refine wL0_of (fun N => BI N ∧ (∀ j9 k9 : Nat, ¬ (j9 = 0 ∧ k9 = 36 ∨ j9 = 0 ∧ k9 = 37) → N j9 k9 = M j9 k9) ∧ (M 0 36 < N 0 36 ∧ N 0 36 ≤ 60) ∧ (∀ q, PK T s 2 d (M 0 36) q ↔ PK T s 5 d (N 0 36) q)) (fun N => (100 - N 0 36).toNat) ⟨hB1, F1, by omega, fun q => ?_⟩ (fun K N hI hK => ?_)
      · constructor
        · intro h
          obtain ⟨r, x, y⟩ := PK2.mp h
          rw [PK_det x pk] at y
          exact y
        · exact fun h => PK2.mpr ⟨_, pk, h⟩
      · obtain ⟨hBN, FN, pN, eN⟩ := hI
        have TN : N 1 = T := (rowF FN 1 (by omega)).trans hT
        have SN : N 0 1 = s := (FN 0 1 (by omega)).trans hs
        have at_ : ¬ HS T s (N 0 36) 47 47 → AT T s (N 0 36) → R (d : Int) N (fun z M' => (z ≠ 0 → K M') ∧ (z = 0 → Q 0 M')) := by
          intro n14 ha
          refine hR N _ hBN TN SN (by omega) (fun z M' hz => ?_)
          obtain ⟨⟨hB', F'⟩, p', hz⟩ := hz
          have F2 : ∀ j9 k9 : Nat, ¬ (j9 = 0 ∧ k9 = 36 ∨ j9 = 0 ∧ k9 = 37) → M' j9 k9 = M j9 k9 := fun j9 k9 h9 => (F' j9 k9 h9).trans (FN j9 k9 h9)
          refine ⟨fun ez => ?_, fun ez => ?_⟩
          · rcases hz with ⟨-, lt2, pk2⟩ | ⟨h, -⟩
            · refine hK _ ⟨hB', F2, by omega, fun q => ?_⟩ (by omega)
              rw [eN q]
              constructor
              · intro h
                rcases PK5.mp h with h | ⟨-, -, r, x, y⟩ | h
                · exact absurd h.1 n14
                · rw [PK_det x pk2] at y
                  exact y
                · exact absurd ha h.2.1
              · exact fun h => PK5.mpr (Or.inr (Or.inl ⟨n14, ha, _, pk2, h⟩))
            · exact absurd h ez
          · rcases hz with ⟨h, -⟩ | ⟨-, hz⟩
            · omega
            · refine hQ _ _ ⟨⟨hB', F2⟩, p', Or.inr ⟨rfl, fun q hq => ?_⟩⟩
              rcases PK5.mp ((eN q).mp hq) with h | ⟨-, -, r, x, -⟩ | h
              · exact n14 h.1
              · exact hz r x
              · exact h.2.1 ha
        refine sR_has hBN (by omega) (by omega) (fun z14 c14 => ?_)
        obtain ⟨-, c14, -⟩ := c14
        rw [TN, SN] at c14
        refine ⟨fun e14 => ?_, fun e14 => ?_⟩
        · have n14 : ¬ HS T s (N 0 36) 47 47 := hno c14 (by omega)
          refine sR_has hBN (by omega) (by omega) (fun z19 c19 => ?_)
          obtain ⟨-, c19, -⟩ := c19
          rw [TN, SN] at c19
          refine ⟨fun e19 => at_ n14 (Or.inl (hyes c19 (by omega))), fun e19 => ?_⟩
          have n19 : ¬ HS T s (N 0 36) 48 57 := hno c19 (by omega)
          refine sR_has hBN (by omega) (by omega) (fun z30 c30 => ?_)
          obtain ⟨-, c30, -⟩ := c30
          rw [TN, SN] at c30
          refine ⟨fun e30 => at_ n14 (Or.inr (Or.inl (hyes c30 (by omega)))), fun e30 => ?_⟩
          have n30 : ¬ HS T s (N 0 36) 91 91 := hno c30 (by omega)
          refine sR_has hBN (by omega) (by omega) (fun z41 c41 => ?_)
          obtain ⟨-, c41, -⟩ := c41
          rw [TN, SN] at c41
          refine ⟨fun e41 => ?_, fun e41 => at_ n14 (Or.inr (Or.inr (hyes c41 (by omega))))⟩
          have n41 : ¬ HS T s (N 0 36) 40 40 := hno c41 (by omega)
          refine hQ _ _ ⟨⟨hBN, FN⟩, by omega, Or.inl ⟨rfl, by omega, (eN _).mpr (PK5.mpr (Or.inr (Or.inr ⟨n14, ?_, rfl⟩)))⟩⟩
          rintro (h | h | h)
          · exact n19 h
          · exact n30 h
          · exact n41 h
        · have y14 : HS T s (N 0 36) 47 47 := hyes c14 (by omega)
          have pl : N 0 36 < 60 := y14.1.2
          intro M51 e51
          have p51 : M51 0 36 = N 0 36 + 1 := by rw [e51]; exact zup_s _ _ _ _
          have hB51 : BI M51 := by rw [e51]; exact BIp hBN (by omega) (by omega)
          have F51 : ∀ j9 k9 : Nat, ¬ (j9 = 0 ∧ k9 = 36 ∨ j9 = 0 ∧ k9 = 37) → M51 j9 k9 = M j9 k9 := fun j9 k9 h9 => by rw [e51, zup_n _ _ (by omega)]; exact FN j9 k9 h9
          refine sR_has hB51 (by omega) (by omega) (fun z54 c54 => ?_)
          obtain ⟨-, c54, -⟩ := c54
          rw [(rowF F51 1 (by omega)).trans hT, (F51 0 1 (by omega)).trans hs, p51] at c54
          refine ⟨fun e54 => ?_, fun e54 => ?_⟩
          · have y54 : HS T s (N 0 36 + 1) 49 57 := hyes c54 (by omega)
            have pl2 : N 0 36 + 1 < 60 := y54.1.2
            intro M58 e58
            have p58 : M58 0 36 = N 0 36 + 2 := by rw [e58, zup_s]; omega
            have hB58 : BI M58 := by rw [e58]; exact BIp hB51 (by omega) (by omega)
            have F58 : ∀ j9 k9 : Nat, ¬ (j9 = 0 ∧ k9 = 36 ∨ j9 = 0 ∧ k9 = 37) → M58 j9 k9 = M j9 k9 := fun j9 k9 h9 => by rw [e58, zup_n _ _ (by omega)]; exact F51 j9 k9 h9
            refine hR M58 _ hB58 ((rowF F58 1 (by omega)).trans hT) ((F58 0 1 (by omega)).trans hs) (by omega) (fun z M' hz => ?_)
            obtain ⟨⟨hB', F'⟩, p', hz⟩ := hz
            rw [p58] at hz
            have F2 : ∀ j9 k9 : Nat, ¬ (j9 = 0 ∧ k9 = 36 ∨ j9 = 0 ∧ k9 = 37) → M' j9 k9 = M j9 k9 := fun j9 k9 h9 => (F' j9 k9 h9).trans (F58 j9 k9 h9)
            refine ⟨fun ez => ?_, fun ez => ?_⟩
            · rcases hz with ⟨-, lt2, pk2⟩ | ⟨h, -⟩
              · refine hK _ ⟨hB', F2, by omega, fun q => ?_⟩ (by omega)
                rw [eN q]
                constructor
                · intro h
                  rcases PK5.mp h with ⟨-, -, r, x, y⟩ | h | h
                  · rw [PK_det x pk2] at y
                    exact y
                  · exact absurd y14 h.1
                  · exact absurd y14 h.1
                · exact fun h => PK5.mpr (Or.inl ⟨y14, y54, _, pk2, h⟩)
              · exact absurd h ez
            · rcases hz with ⟨h, -⟩ | ⟨-, hz⟩
              · omega
              · refine hQ _ _ ⟨⟨hB', F2⟩, p', Or.inr ⟨rfl, fun q hq => ?_⟩⟩
                rcases PK5.mp ((eN q).mp hq) with ⟨-, -, r, x, -⟩ | h | h
                · exact hz r x
                · exact h.1 y14
                · exact h.1 y14
          · have n54 : ¬ HS T s (N 0 36 + 1) 49 57 := hno c54 (by omega)
            refine sp_wrong hB51 F51 (by omega) (fun q hq => ?_) hQ
            rcases PK5.mp ((eN q).mp hq) with h | h | h
            · exact n54 h.2.1
            · exact h.1 y14
            · exact h.1 y14
    · exact absurd h e2
  · rcases h1 with ⟨h, -⟩ | ⟨-, h⟩
    · omega
    · refine hQ _ _ ⟨⟨hB1, F1⟩, p1, Or.inr ⟨rfl, fun q hq => ?_⟩⟩
      obtain ⟨r, x, -⟩ := PK2.mp hq
      exact h r x
theorem sp_skip (T : Nat → Int) (s : Int) : ∀ (n d : Nat), d ≤ 5 → 6 ≤ n + d → SpR T s 2 d (wR_skipRow n) := by
  intro n
  induction n with
  | zero => intro d h1 h2; omega
  | succ n ih =>
    intro d h1 h2
    show SpR T s 2 d (wR_skipRow_F (wR_skipTerm_F (wR_skipAtom_F (wR_skipRow n))))
    exact sp_row (sp_term (sp_atom h1 (fun h => ih (d + 1) (by omega) (by omega))))
/-- the end of a term, as it is put together -/
def wR_mtTail (a0 : Int) (Q : Int → zM → Prop) (N : zM) : Prop := wL0 (fun K254 M34 => wR_has 126 126 M34 (fun z43 => pJ0 (fun J276 => (z43 ≠ 0 → J276) ∧ (z43 = 0 → wR_has 42 42 M34 (fun z113 => (z113 = 0 → Q 0 M34) ∧ (z113 ≠ 0 → J276)))) (((0 ≤ (sI a0) ∧ (sI a0) < 6) ∧ wR_has 126 126 M34 (fun z56 => (z56 = 0 → ((0 ≤ (sI ((M34 0 36) + 1)) ∧ (sI ((M34 0 36) + 1)) < 100) ∧ (∀ t61 : Int, t61 = ((M34 1 (sI ((M34 0 36) + 1)).toNat) - 48) → (∀ M63 : zM, M63 = zup M34 0 36 ((M34 0 36) + 2) → ((sI ((M34 26 (sI a0).toNat) * t61)) ≤ 24 → wL1 (fun K413 x66 M67 => ((sI ((M34 26 (sI a0).toNat) * t61)) ≤ (sI x66) → ((0 ≤ (sI a0) ∧ (sI a0) < 6) ∧ (∀ M77 : zM, M77 = zup M67 26 (sI a0).toNat ((M34 26 (sI a0).toNat) * t61) → K254 M77))) ∧ ((sI x66) < (sI ((M34 26 (sI a0).toNat) * t61)) → ((0 ≤ (sI (((24 * a0) + x66) - (M34 26 (sI a0).toNat))) ∧ (sI (((24 * a0) + x66) - (M34 26 (sI a0).toNat))) < 144) ∧ ((0 ≤ (sI ((24 * a0) + x66)) ∧ (sI ((24 * a0) + x66)) < 144) ∧ (∀ M83 : zM, M83 = zup M67 25 (sI ((24 * a0) + x66)).toNat (M67 25 (sI (((24 * a0) + x66) - (M34 26 (sI a0).toNat))).toNat) → K413 (x66 + 1) M83))))) (M34 26 (sI a0).toNat) M63) ∧ (24 < (sI ((M34 26 (sI a0).toNat) * t61)) → Q (-100) M63))))) ∧ (z56 ≠ 0 → (∀ M87 : zM, M87 = zup M34 0 36 ((M34 0 36) + 1) → wL1 (fun K307 x89 M90 => ((sI ((sI (M34 26 (sI a0).toNat)).tdiv 2)) ≤ (sI x89) → K254 M90) ∧ ((sI x89) < (sI ((sI (M34 26 (sI a0).toNat)).tdiv 2)) → ((0 ≤ (sI ((24 * a0) + x89)) ∧ (sI ((24 * a0) + x89)) < 144) ∧ ((0 ≤ (sI ((((24 * a0) + (M34 26 (sI a0).toNat)) - 1) - x89)) ∧ (sI ((((24 * a0) + (M34 26 (sI a0).toNat)) - 1) - x89)) < 144) ∧ ((0 ≤ (sI ((24 * a0) + x89)) ∧ (sI ((24 * a0) + x89)) < 144) ∧ (∀ M104 : zM, M104 = zup M90 25 (sI ((24 * a0) + x89)).toNat (M90 25 (sI ((((24 * a0) + (M34 26 (sI a0).toNat)) - 1) - x89)).toNat) → ((0 ≤ (sI ((((24 * a0) + (M34 26 (sI a0).toNat)) - 1) - x89)) ∧ (sI ((((24 * a0) + (M34 26 (sI a0).toNat)) - 1) - x89)) < 144) ∧ (∀ M107 : zM, M107 = zup M104 25 (sI ((((24 * a0) + (M34 26 (sI a0).toNat)) - 1) - x89)).toNat (M90 25 (sI ((24 * a0) + x89)).toNat) → K307 (x89 + 1) M107)))))))) 0 M87))))))) N
/-- the end of a row, as it is put together -/
def wR_mrTail (R9 : Int → zM → (Int → zM → Prop) → Prop) (a0 : Int) (Q : Int → zM → Prop) (N : zM) : Prop := wL0 (fun K64 M20 => wR_has 47 47 M20 (fun z29 => pJ0 (fun J108 => (z29 ≠ 0 → J108) ∧ (z29 = 0 → wR_has 48 57 M20 (fun z115 => (z115 ≠ 0 → J108) ∧ (z115 = 0 → wR_has 91 91 M20 (fun z120 => (z120 ≠ 0 → J108) ∧ (z120 = 0 → wR_has 40 40 M20 (fun z125 => (z125 = 0 → Q 0 M20) ∧ (z125 ≠ 0 → J108)))))))) (wR_has 47 47 M20 (fun z51 => wJ1 (fun J146 => (z51 = 0 → J146 0 M20) ∧ (z51 ≠ 0 → ((0 ≤ (sI ((M20 0 36) + 1)) ∧ (sI ((M20 0 36) + 1)) < 100) ∧ (∀ t109 : Int, t109 = ((M20 1 (sI ((M20 0 36) + 1)).toNat) - 48) → (∀ M111 : zM, M111 = zup M20 0 36 ((M20 0 36) + 2) → J146 t109 M111))))) (fun (x60 : Int) (M61 : zM) => R9 a0 M61 (fun z65 M64 => (0 ≤ z65 → ((0 ≤ (sI a0) ∧ (sI a0) < 6) ∧ ((sI (M64 24 (sI a0).toNat)) < (sI x60) → Q (-101) M64) ∧ ((sI x60) ≤ (sI (M64 24 (sI a0).toNat)) → ((0 ≤ (sI a0) ∧ (sI a0) < 6) ∧ ((sI x60) ≤ (sI (M64 26 (sI a0).toNat)) → ((0 ≤ (sI a0) ∧ (sI a0) < 6) ∧ ((0 ≤ (sI a0) ∧ (sI a0) < 6) ∧ ((sI (((M64 24 (sI a0).toNat) - x60) + (M64 26 (sI a0).toNat))) ≤ 24 → wL1 (fun K211 x75 M76 => ((0 ≤ (sI a0) ∧ (sI a0) < 6) ∧ ((sI (M76 26 (sI a0).toNat)) ≤ (sI x75) → ((0 ≤ (sI a0) ∧ (sI a0) < 6) ∧ ((0 ≤ (sI a0) ∧ (sI a0) < 6) ∧ (∀ M88 : zM, M88 = zup M76 24 (sI a0).toNat (((M64 24 (sI a0).toNat) - x60) + (M76 26 (sI a0).toNat)) → K64 M88)))) ∧ ((sI x75) < (sI (M76 26 (sI a0).toNat)) → (∀ t92 : Int, t92 = (((24 * a0) + ((M64 24 (sI a0).toNat) - x60)) + x75) → ((0 ≤ (sI ((24 * a0) + x75)) ∧ (sI ((24 * a0) + x75)) < 144) ∧ ((sI x60) ≤ (sI x75) → ((0 ≤ (sI t92) ∧ (sI t92) < 144) ∧ (∀ M97 : zM, M97 = zup M76 23 (sI t92).toNat (orI (M76 25 (sI ((24 * a0) + x75)).toNat) 0) → K211 (x75 + 1) M97))) ∧ ((sI x75) < (sI x60) → ((0 ≤ (sI t92) ∧ (sI t92) < 144) ∧ ((0 ≤ (sI t92) ∧ (sI t92) < 144) ∧ (∀ M103 : zM, M103 = zup M76 23 (sI t92).toNat (orI (M76 25 (sI ((24 * a0) + x75)).toNat) (M76 23 (sI t92).toNat)) → K211 (x75 + 1) M103))))))))) 0 M64) ∧ (24 < (sI (((M64 24 (sI a0).toNat) - x60) + (M64 26 (sI a0).toNat))) → Q (-100) M64)))) ∧ ((sI (M64 26 (sI a0).toNat)) < (sI x60) → Q (-101) M64))))) ∧ (z65 < 0 → Q z65 M64))))))) N
def MPost (q : Int) (M : zM) (z : Int) (M1 : zM) : Prop := (BI M1 ∧ (∀ j9 k9 : Nat, ¬ (j9 = 0 ∧ k9 = 36 ∨ 23 ≤ j9 ∧ j9 ≤ 26) → M1 j9 k9 = M j9 k9)) ∧ (0 ≤ M1 0 36 ∧ M1 0 36 ≤ 60) ∧ -101 ≤ z ∧ z ≤ 0 ∧ (z < 0 ∨ M1 0 36 = q)
def SpM (T : Nat → Int) (s : Int) (k d : Nat) (R : Int → zM → (Int → zM → Prop) → Prop) : Prop := ∀ (M : zM) (Q : Int → zM → Prop) (q : Int), BI M → M 1 = T → M 0 1 = s → (0 ≤ M 0 36 ∧ M 0 36 ≤ 60) → PK T s k d (M 0 36) q → (∀ z M1, MPost q M z M1 → Q z M1) → R (d : Int) M Q
theorem PK_le {T : Nat → Int} {s : Int} : ∀ (n k d : Nat) (p q : Int), SK T s n k d p q → p ≤ q := by
  intro n
  induction n with
  | zero => intro k d p q h; exact h.elim
  | succ n ih =>
    intro k d p q h
    match k, h with
    | 0, h =>
      rcases h with h | ⟨a, b, c, e⟩ | ⟨a, b, c, e, r, x, y⟩
      · omega
      · have := ih _ _ _ _ e
        omega
      · have := ih _ _ _ _ x
        omega
    | 1, ⟨r, x, y⟩ =>
      have := ih _ _ _ _ x
      have := ih _ _ _ _ y
      omega
    | 2, ⟨r, x, y⟩ =>
      have := ih _ _ _ _ x
      have := ih _ _ _ _ y
      omega
    | 3, h =>
      rcases h with ⟨a, b⟩ | h
      · have := ih _ _ _ _ b
        omega
      · omega
    | 4, h =>
      rcases h with ⟨a, b⟩ | ⟨a, b, c, e⟩ | h
      · have := ih _ _ _ _ b
        omega
      · have := ih _ _ _ _ e
        omega
      · omega
    | 5, h =>
      rcases h with ⟨a, b, r, x, y⟩ | ⟨a, b, r, x, y⟩ | h
      · have := ih _ _ _ _ x
        have := ih _ _ _ _ y
        omega
      · have := ih _ _ _ _ x
        have := ih _ _ _ _ y
        omega
      · omega
    | _ + 6, h => exact h.elim
set_option maxHeartbeats 4000000 in
theorem mt_tail {T : Nat → Int} {s : Int} {d : Nat} {M0 M : zM} {Q : Int → zM → Prop} {q : Int} (hd : d ≤ 5) (hB : BI M) (hF : ∀ j9 k9 : Nat, ¬ (j9 = 0 ∧ k9 = 36 ∨ 23 ≤ j9 ∧ j9 ≤ 26) → M j9 k9 = M0 j9 k9) (hT : M0 1 = T) (hs : M0 0 1 = s) (hp : 0 ≤ M 0 36 ∧ M 0 36 ≤ 60) (pk : PK T s 4 d (M 0 36) q) (hQ : ∀ z M1, MPost q M0 z M1 → Q z M1) : wR_mtTail (d : Int) Q M := by
  unfold wR_mtTail
  refine wL0_of (fun N => BI N ∧ (∀ j9 k9 : Nat, ¬ (j9 = 0 ∧ k9 = 36 ∨ 23 ≤ j9 ∧ j9 ≤ 26) → N j9 k9 = M0 j9 k9) ∧ (0 ≤ N 0 36 ∧ N 0 36 ≤ 60) ∧ PK T s 4 d (N 0 36) q) (fun N => (100 - N 0 36).toNat) ⟨hB, hF, hp, pk⟩ (fun K N hI hK => ?_)
  obtain ⟨hBN, FN, pN, pkN⟩ := hI
  have TN : N 1 = T := (rowF FN 1 (by omega)).trans hT
  have SN : N 0 1 = s := (FN 0 1 (by omega)).trans hs
  have sd : sI (d : Int) = d := sIo (by omega) (by omega)
  have dd : ((d : Int)).toNat = d := rfl
  have bz : 0 ≤ N 26 d ∧ N 26 d ≤ 24 := BN.at hBN.1 (rfl : zcd wR 26 = 76) rfl
  have sz : sI (N 26 d) = N 26 d := sIo (by omega) (by omega)
  rw [sd, dd, sz]
  refine sR_has hBN (by omega) (by omega) (fun z43 c43 => ?_)
  obtain ⟨-, c43, -⟩ := c43
  rw [TN, SN] at c43
  refine pJ0_of (HS T s (N 0 36) 126 126 ∨ HS T s (N 0 36) 42 42) (fun hJ => ?_) ⟨fun e43 => Or.inl (hyes c43 (by omega)), fun e43 => ?_⟩
  · refine ⟨by omega, ?_⟩
    refine sR_has hBN (by omega) (by omega) (fun z56 c56 => ?_)
    obtain ⟨-, c56, -⟩ := c56
    rw [TN, SN] at c56
    refine ⟨fun e56 => ?_, fun e56 => ?_⟩
    · have n56 : ¬ HS T s (N 0 36) 126 126 := hno c56 (by omega)
      have y42 : HS T s (N 0 36) 42 42 := hJ.resolve_left n56
      have h4 : HS T s (N 0 36 + 1) 50 57 ∧ PK T s 4 d (N 0 36 + 2) q := by
        rcases PK4.mp pkN with h | h | h
        · exact absurd h.1 n56
        · exact ⟨h.2.2.1, h.2.2.2⟩
        · exact absurd y42 h.2.1
      have pl : N 0 36 + 1 < 60 := h4.1.1.2
      have hv := h4.1.2
      rw [← TN] at hv
      have s3 : sI (N 0 36 + 1) = N 0 36 + 1 := sIo (by omega) (by omega)
      rw [s3]
      refine ⟨by omega, ?_⟩
      intro t61 e61
      have bt : 2 ≤ t61 ∧ t61 ≤ 9 := by omega
      intro M63 e63
      have p63 : M63 0 36 = N 0 36 + 2 := by rw [e63]; exact zup_s _ _ _ _
      have hB63 : BI M63 := by rw [e63]; exact BIp hBN (by omega) (by omega)
      have F63 : ∀ j9 k9 : Nat, ¬ (j9 = 0 ∧ k9 = 36 ∨ 23 ≤ j9 ∧ j9 ≤ 26) → M63 j9 k9 = M0 j9 k9 := fun j9 k9 h9 => by rw [e63]; exact (zup_n _ _ (by omega)).trans (FN j9 k9 h9)
      have mb := mulB 24 9 (N 26 d) t61 bz.1 bz.2 (by omega) (by omega)
      have sm : sI (N 26 d * t61) = N 26 d * t61 := sIo (by omega) (by omega)
      rw [sm]
      have mge : N 26 d ≤ N 26 d * t61 := by
        have h := Int.mul_le_mul_of_nonneg_left (a := 1) (b := t61) (c := N 26 d) (by omega) bz.1
        omega
      refine ⟨fun c => ?_, fun c => hQ _ _ ⟨⟨hB63, F63⟩, by omega, by omega, by omega, Or.inl (by omega)⟩⟩
      refine wL1_of (fun x P => BI P ∧ (∀ j9 k9 : Nat, ¬ (j9 = 0 ∧ k9 = 36 ∨ 23 ≤ j9 ∧ j9 ≤ 26) → P j9 k9 = M0 j9 k9) ∧ P 0 36 = N 0 36 + 2 ∧ (N 26 d ≤ x ∧ x ≤ N 26 d * t61)) (fun x _ => (1000 - x).toNat) ⟨hB63, F63, p63, by omega⟩ (fun K2 x P hI2 hK2 => ?_)
      obtain ⟨hBP, FP, pP, iP⟩ := hI2
      have sx : sI x = x := sIo (by omega) (by omega)
      rw [sx]
      refine ⟨fun c2 => ⟨by omega, ?_⟩, fun c2 => ?_⟩
      · intro M77 e77
        refine hK _ ⟨by rw [e77]; exact BI.up hBP (rfl : zcd wR 26 = 76) rfl (by omega) (by omega) (by decide), fun j9 k9 h9 => by rw [e77]; exact (zup_n _ _ (by omega)).trans (FP j9 k9 h9), ?_, ?_⟩ ?_
        · rw [e77, zup_n _ _ (by omega), pP]
          omega
        · rw [e77, zup_n _ _ (by omega), pP]
          exact h4.2
        · rw [e77, zup_n _ _ (by omega), pP]
          omega
      · have s5 : sI ((24 * (d : Int) + x) - N 26 d) = (24 * (d : Int) + x) - N 26 d := sIo (by omega) (by omega)
        have s6 : sI (24 * (d : Int) + x) = 24 * (d : Int) + x := sIo (by omega) (by omega)
        rw [s5, s6]
        refine ⟨by omega, by omega, ?_⟩
        intro M83 e83
        have br := BN.r32 hBP.1 25 ((24 * (d : Int) + x) - N 26 d).toNat
        exact hK2 _ _ ⟨by rw [e83]; exact BI.up hBP (rfl : zcd wR 25 = 75) rfl br.1 br.2 (by decide), fun j9 k9 h9 => by rw [e83]; exact (zup_n _ _ (by omega)).trans (FP j9 k9 h9), by rw [e83, zup_n _ _ (by omega)]; exact pP, by omega⟩ (by omega)
    · have y56 : HS T s (N 0 36) 126 126 := hyes c56 (by omega)
      have pl : N 0 36 < 60 := y56.1.2
      have pk2 : PK T s 4 d (N 0 36 + 1) q := by
        rcases PK4.mp pkN with h | h | h
        · exact h.2
        · exact absurd y56 h.1
        · exact absurd y56 h.1
      intro M87 e87
      have p87 : M87 0 36 = N 0 36 + 1 := by rw [e87]; exact zup_s _ _ _ _
      have hB87 : BI M87 := by rw [e87]; exact BIp hBN (by omega) (by omega)
      have F87 : ∀ j9 k9 : Nat, ¬ (j9 = 0 ∧ k9 = 36 ∨ 23 ≤ j9 ∧ j9 ≤ 26) → M87 j9 k9 = M0 j9 k9 := fun j9 k9 h9 => by rw [e87]; exact (zup_n _ _ (by omega)).trans (FN j9 k9 h9)
      have hh : (N 26 d).tdiv 2 = N 26 d / 2 := Int.tdiv_eq_ediv_of_nonneg bz.1
      have sh : sI ((N 26 d).tdiv 2) = N 26 d / 2 := by rw [hh]; exact sIo (by omega) (by omega)
      rw [sh]
      refine wL1_of (fun x P => BI P ∧ (∀ j9 k9 : Nat, ¬ (j9 = 0 ∧ k9 = 36 ∨ 23 ≤ j9 ∧ j9 ≤ 26) → P j9 k9 = M0 j9 k9) ∧ P 0 36 = N 0 36 + 1 ∧ (0 ≤ x ∧ x ≤ 24)) (fun x _ => (1000 - x).toNat) ⟨hB87, F87, p87, by omega⟩ (fun K2 x P hI2 hK2 => ?_)
      obtain ⟨hBP, FP, pP, iP⟩ := hI2
      have sx : sI x = x := sIo (by omega) (by omega)
      rw [sx]
      refine ⟨fun c2 => hK _ ⟨hBP, FP, by omega, by rw [pP]; exact pk2⟩ (by omega), fun c2 => ?_⟩
      have s5 : sI (((24 * (d : Int) + N 26 d) - 1) - x) = ((24 * (d : Int) + N 26 d) - 1) - x := sIo (by omega) (by omega)
      have s6 : sI (24 * (d : Int) + x) = 24 * (d : Int) + x := sIo (by omega) (by omega)
      rw [s5, s6]
      refine ⟨by omega, by omega, by omega, ?_⟩
      intro M104 e104
      have br := BN.r32 hBP.1 25 (((24 * (d : Int) + N 26 d) - 1) - x).toNat
      have br2 := BN.r32 hBP.1 25 (24 * (d : Int) + x).toNat
      have hB104 : BI M104 := by rw [e104]; exact BI.up hBP (rfl : zcd wR 25 = 75) rfl br.1 br.2 (by decide)
      refine ⟨by omega, ?_⟩
      intro M107 e107
      exact hK2 _ _ ⟨by rw [e107]; exact BI.up hB104 (rfl : zcd wR 25 = 75) rfl br2.1 br2.2 (by decide), fun j9 k9 h9 => by rw [e107, e104]; exact (zup_n _ _ (by omega)).trans ((zup_n _ _ (by omega)).trans (FP j9 k9 h9)), by rw [e107, e104, zup_n _ _ (by omega), zup_n _ _ (by omega)]; exact pP, by omega⟩ (by omega)
  · have n43 : ¬ HS T s (N 0 36) 126 126 := hno c43 (by omega)
    refine sR_has hBN (by omega) (by omega) (fun z113 c113 => ?_)
    obtain ⟨-, c113, -⟩ := c113
    rw [TN, SN] at c113
    refine ⟨fun e113 => ?_, fun e113 => Or.inr (hyes c113 (by omega))⟩
    have n113 : ¬ HS T s (N 0 36) 42 42 := hno c113 (by omega)
    refine hQ _ _ ⟨⟨hBN, FN⟩, pN, by omega, by omega, Or.inr ?_⟩
    rcases PK4.mp pkN with h | h | h
    · exact absurd h.1 n43
    · exact absurd h.2.1 n113
    · exact h.2.2.symm
theorem PK_lt {T : Nat → Int} {s : Int} {d : Nat} {p q : Int} (h : PK T s 1 d p q) : p < q := by
  obtain ⟨r, x, y⟩ := PK1.mp h
  obtain ⟨n, y⟩ := y
  have h1 := PK_le n 4 d r q y
  rcases PK0.mp x with h | ⟨-, -, -, m, h⟩ | ⟨-, -, -, -, r2, ⟨m, h⟩, -, e⟩
  · omega
  · have := PK_le m 3 d (p + 1) r h
    omega
  · have := PK_le m 2 (d + 1) (p + 1) r2 h
    omega
set_option maxHeartbeats 4000000 in
theorem mk_term {T : Nat → Int} {s : Int} {d : Nat} {R : Int → zM → (Int → zM → Prop) → Prop} (hd : d ≤ 5) (hR : d < 5 → SpM T s 2 (d + 1) R) : SpM T s 1 d (wR_makeTerm_F R) := by
  intro M Q q hB hT hs hp pk hQ
  obtain ⟨r, pk0, pk4⟩ := PK1.mp pk
  unfold wR_makeTerm_F
  have sd : sI (d : Int) = d := sIo (by omega) (by omega)
  have dd : ((d : Int)).toNat = d := rfl
  have F0 : ∀ j9 k9 : Nat, ¬ (j9 = 0 ∧ k9 = 36 ∨ 23 ≤ j9 ∧ j9 ≤ 26) → M j9 k9 = M j9 k9 := fun _ _ _ => rfl
  have s24 : sI (24 * (d : Int)) = 24 * (d : Int) := sIo (by omega) (by omega)
  refine sR_has hB (by omega) (by omega) (fun z2 c2 => ?_)
  obtain ⟨-, c2, -⟩ := c2
  rw [hT, hs] at c2
  refine ⟨fun e2 => ?_, fun e2 => ?_⟩
  · have n2 : ¬ HS T s (M 0 36) 48 57 := hno c2 (by omega)
    refine sR_has hB (by omega) (by omega) (fun z7 c7 => ?_)
    obtain ⟨-, c7, -⟩ := c7
    rw [hT, hs] at c7
    refine ⟨fun e7 => ?_, fun e7 => ?_⟩
    · have n7 : ¬ HS T s (M 0 36) 91 91 := hno c7 (by omega)
      have h3 : HS T s (M 0 36) 40 40 ∧ d ≠ 5 ∧ ∃ r2, PK T s 2 (d + 1) (M 0 36 + 1) r2 ∧ HS T s r2 41 41 ∧ r = r2 + 1 := by
        rcases PK0.mp pk0 with h | h | h
        · exact absurd h.1 n2
        · exact absurd h.2.1 n7
        · exact h.2.2
      obtain ⟨y12, hd5, r2, pk2, y41, er⟩ := h3
      have pl : M 0 36 < 60 := y12.1.2
      have pl2 : r2 < 60 := y41.1.2
      intro M11 e11
      have p11 : M11 0 36 = M 0 36 + 1 := by rw [e11]; exact zup_s _ _ _ _
      have hB11 : BI M11 := by rw [e11]; exact BIp hB (by omega) (by omega)
      have F11 : ∀ j9 k9 : Nat, ¬ (j9 = 0 ∧ k9 = 36 ∨ 23 ≤ j9 ∧ j9 ≤ 26) → M11 j9 k9 = M j9 k9 := fun j9 k9 h9 => by rw [e11]; exact zup_n _ _ (by omega)
      rw [show ((d : Int) + 1) = ((d + 1 : Nat) : Int) from rfl]
      refine hR (by omega) M11 _ r2 hB11 ((rowF F11 1 (by omega)).trans hT) ((F11 0 1 (by omega)).trans hs) (by omega) (by rw [p11]; exact pk2) (fun z14 M13 h14 => ?_)
      obtain ⟨⟨hB13, F13⟩, p13, z1, z2', h14⟩ := h14
      have G13 : ∀ j9 k9 : Nat, ¬ (j9 = 0 ∧ k9 = 36 ∨ 23 ≤ j9 ∧ j9 ≤ 26) → M13 j9 k9 = M j9 k9 := fun j9 k9 h9 => (F13 j9 k9 h9).trans (F11 j9 k9 h9)
      refine ⟨fun e14 => ?_, fun e14 => hQ _ _ ⟨⟨hB13, G13⟩, p13, z1, z2', Or.inl e14⟩⟩
      have q13 : M13 0 36 = r2 := h14.resolve_left (by omega)
      intro M17 e17
      have p17 : M17 0 36 = r := by rw [e17, zup_s]; omega
      have hB17 : BI M17 := by rw [e17]; exact BIp hB13 (by omega) (by omega)
      have F17 : ∀ j9 k9 : Nat, ¬ (j9 = 0 ∧ k9 = 36 ∨ 23 ≤ j9 ∧ j9 ≤ 26) → M17 j9 k9 = M j9 k9 := fun j9 k9 h9 => by rw [e17]; exact (zup_n _ _ (by omega)).trans (G13 j9 k9 h9)
      have s1 : sI ((d + 1 : Nat) : Int) = ((d + 1 : Nat) : Int) := sIo (by omega) (by omega)
      have d1 : (((d + 1 : Nat) : Int)).toNat = d + 1 := rfl
      rw [s1, sd, d1, dd]
      refine ⟨by omega, by omega, ?_⟩
      intro M21 e21
      have bz : 0 ≤ M17 24 (d + 1) ∧ M17 24 (d + 1) ≤ 24 := BN.at hB17.1 (rfl : zcd wR 24 = 74) rfl
      refine wL1_of (fun x P => BI P ∧ (∀ j9 k9 : Nat, ¬ (j9 = 0 ∧ k9 = 36 ∨ 23 ≤ j9 ∧ j9 ≤ 26) → P j9 k9 = M j9 k9) ∧ P 0 36 = r ∧ (0 ≤ x ∧ x ≤ 24)) (fun x _ => (1000 - x).toNat) ⟨by rw [e21]; exact BI.up hB17 (rfl : zcd wR 26 = 76) rfl bz.1 bz.2 (by decide), fun j9 k9 h9 => by rw [e21]; exact (zup_n _ _ (by omega)).trans (F17 j9 k9 h9), by rw [e21, zup_n _ _ (by omega)]; exact p17, by omega⟩ (fun K2 x P hI2 hK2 => ?_)
      obtain ⟨hBP, FP, pP, iP⟩ := hI2
      have sx : sI x = x := sIo (by omega) (by omega)
      have bz2 : 0 ≤ P 26 d ∧ P 26 d ≤ 24 := BN.at hBP.1 (rfl : zcd wR 26 = 76) rfl
      have sz2 : sI (P 26 d) = P 26 d := sIo (by omega) (by omega)
      rw [sx, sz2]
      refine ⟨by omega, fun c => ?_, fun c => ?_⟩
      · have h := mt_tail hd hBP FP hT hs (by omega) (by rw [pP]; exact pk4) hQ
        unfold wR_mtTail at h
        rw [sd, dd] at h
        exact h
      · have s5 : sI ((24 * (d : Int) + 24) + x) = (24 * (d : Int) + 24) + x := sIo (by omega) (by omega)
        have s6 : sI (24 * (d : Int) + x) = 24 * (d : Int) + x := sIo (by omega) (by omega)
        rw [s5, s6]
        refine ⟨by omega, by omega, ?_⟩
        intro M119 e119
        have br := BN.r32 hBP.1 23 ((24 * (d : Int) + 24) + x).toNat
        exact hK2 _ _ ⟨by rw [e119]; exact BI.up hBP (rfl : zcd wR 25 = 75) rfl br.1 br.2 (by decide), fun j9 k9 h9 => by rw [e119]; exact (zup_n _ _ (by omega)).trans (FP j9 k9 h9), by rw [e119, zup_n _ _ (by omega)]; exact pP, by omega⟩ (by omega)
    · have y7 : HS T s (M 0 36) 91 91 := hyes c7 (by omega)
      have pl : M 0 36 < 60 := y7.1.2
      have pk3 : PK T s 3 d (M 0 36 + 1) r := by
        rcases PK0.mp pk0 with h | h | h
        · exact absurd h.1 n2
        · exact h.2.2.2
        · exact absurd y7 h.2.1
      intro M123 e123
      have p123 : M123 0 36 = M 0 36 + 1 := by rw [e123]; exact zup_s _ _ _ _
      refine wL1_of (fun x P => BI P ∧ (∀ j9 k9 : Nat, ¬ (j9 = 0 ∧ k9 = 36 ∨ 23 ≤ j9 ∧ j9 ≤ 26) → P j9 k9 = M j9 k9) ∧ (0 ≤ P 0 36 ∧ P 0 36 ≤ 60) ∧ R32 x ∧ PK T s 3 d (P 0 36) r) (fun _ P => (100 - P 0 36).toNat) ⟨by rw [e123]; exact BIp hB (by omega) (by omega), fun j9 k9 h9 => by rw [e123]; exact zup_n _ _ (by omega), by omega, ⟨by omega, by omega⟩, by rw [p123]; exact pk3⟩ (fun K2 x P hI2 hK2 => ?_)
      obtain ⟨hBP, FP, pP, rx, pkP⟩ := hI2
      have TP : P 1 = T := (rowF FP 1 (by omega)).trans hT
      have SP : P 0 1 = s := (FP 0 1 (by omega)).trans hs
      have sp36 : sI (P 0 36) = P 0 36 := sIo (by omega) (by omega)
      refine sR_has hBP (by omega) (by omega) (fun z135 c135 => ?_)
      obtain ⟨-, c135, -⟩ := c135
      rw [TP, SP] at c135
      rw [sd, dd, sp36, s24]
      refine ⟨fun e135 => ?_, fun e135 => ?_⟩
      · have n135 : ¬ HS T s (P 0 36) 49 57 := hno c135 (by omega)
        have h5 : HS T s (P 0 36) 93 93 ∧ r = P 0 36 + 1 := by
          rcases PK3.mp pkP with h | h
          · exact absurd h.1 n135
          · exact h.2
        have pl3 : P 0 36 < 60 := h5.1.1.2
        intro M139 e139
        have hB139 : BI M139 := by rw [e139]; exact BIp hBP (by omega) (by omega)
        refine ⟨by omega, ?_⟩
        intro M142 e142
        have hB142 : BI M142 := by rw [e142]; exact BI.up hB139 (rfl : zcd wR 25 = 75) rfl rx.1 rx.2 (by decide)
        refine ⟨by omega, ?_⟩
        intro M145 e145
        have p145 : M145 0 36 = r := by rw [e145, zup_n _ _ (by omega), e142, zup_n _ _ (by omega), e139, zup_s]; omega
        have h := mt_tail (M := M145) hd (by rw [e145]; exact BI.up hB142 (rfl : zcd wR 26 = 76) rfl (by omega) (by omega) (by decide)) (fun j9 k9 h9 => by rw [e145, e142, e139]; exact (zup_n _ _ (by omega)).trans ((zup_n _ _ (by omega)).trans ((zup_n _ _ (by omega)).trans (FP j9 k9 h9)))) hT hs (by omega) (by rw [p145]; exact pk4) hQ
        unfold wR_mtTail at h
        rw [sd, dd] at h
        exact h
      · have y135 : HS T s (P 0 36) 49 57 := hyes c135 (by omega)
        have pl3 : P 0 36 < 60 := y135.1.2
        refine ⟨by omega, ?_⟩
        intro t231 e231 M233 e233
        have p233 : M233 0 36 = P 0 36 + 1 := by rw [e233]; exact zup_s _ _ _ _
        refine hK2 _ _ ⟨by rw [e233]; exact BIp hBP (by omega) (by omega), fun j9 k9 h9 => by rw [e233]; exact (zup_n _ _ (by omega)).trans (FP j9 k9 h9), by omega, by rw [e231]; exact orI_R _ _, ?_⟩ (by omega)
        rw [p233]
        rcases PK3.mp pkP with h | h
        · exact h.2
        · exact absurd y135 h.1
  · have y2 : HS T s (M 0 36) 48 57 := hyes c2 (by omega)
    have pl : M 0 36 < 60 := y2.1.2
    have er : r = M 0 36 + 1 := by
      rcases PK0.mp pk0 with h | h | h
      · exact h.2
      · exact absurd y2 h.1
      · exact absurd y2 h.1
    have s36 : sI (M 0 36) = M 0 36 := sIo (by omega) (by omega)
    rw [sd, dd, s36, s24]
    refine ⟨by omega, ?_⟩
    refine pJ1_of (fun x => R32 x) (fun x rx => ?_) ⟨fun _ => ⟨by omega, shlI_R _ _⟩, fun _ => ⟨by omega, by omega⟩⟩
    refine ⟨by omega, ?_⟩
    intro M244 e244
    have hB244 : BI M244 := by rw [e244]; exact BI.up hB (rfl : zcd wR 25 = 75) rfl rx.1 rx.2 (by decide)
    refine ⟨by omega, ?_⟩
    intro M247 e247
    have hB247 : BI M247 := by rw [e247]; exact BI.up hB244 (rfl : zcd wR 26 = 76) rfl (by omega) (by omega) (by decide)
    have p247 : M247 0 36 = M 0 36 := by rw [e247, zup_n _ _ (by omega), e244, zup_n _ _ (by omega)]
    intro M249 e249
    have p249 : M249 0 36 = r := by rw [e249, zup_s]; omega
    have h := mt_tail (M := M249) hd (by rw [e249]; exact BIp hB247 (by omega) (by omega)) (fun j9 k9 h9 => by rw [e249, e247, e244]; exact (zup_n _ _ (by omega)).trans ((zup_n _ _ (by omega)).trans (zup_n _ _ (by omega)))) hT hs (by omega) (by rw [p249]; exact pk4) hQ
    unfold wR_mtTail at h
    rw [sd, dd] at h
    exact h
set_option maxHeartbeats 4000000 in
theorem mr_tail {T : Nat → Int} {s : Int} {d : Nat} {R : Int → zM → (Int → zM → Prop) → Prop} {M0 M : zM} {Q : Int → zM → Prop} {q : Int} (hd : d ≤ 5) (hR : SpM T s 1 d R) (hB : BI M) (hF : ∀ j9 k9 : Nat, ¬ (j9 = 0 ∧ k9 = 36 ∨ 23 ≤ j9 ∧ j9 ≤ 26) → M j9 k9 = M0 j9 k9) (hT : M0 1 = T) (hs : M0 0 1 = s) (hp : 0 ≤ M 0 36 ∧ M 0 36 ≤ 60) (pk : PK T s 5 d (M 0 36) q) (hQ : ∀ z M1, MPost q M0 z M1 → Q z M1) : wR_mrTail R (d : Int) Q M := by
  unfold wR_mrTail
  refine wL0_of (fun N => BI N ∧ (∀ j9 k9 : Nat, ¬ (j9 = 0 ∧ k9 = 36 ∨ 23 ≤ j9 ∧ j9 ≤ 26) → N j9 k9 = M0 j9 k9) ∧ (0 ≤ N 0 36 ∧ N 0 36 ≤ 60) ∧ PK T s 5 d (N 0 36) q) (fun N => (100 - N 0 36).toNat) ⟨hB, hF, hp, pk⟩ (fun K N hI hK => ?_)
  obtain ⟨hBN, FN, pN, pkN⟩ := hI
  have TN : N 1 = T := (rowF FN 1 (by omega)).trans hT
  have SN : N 0 1 = s := (FN 0 1 (by omega)).trans hs
  have sd : sI (d : Int) = d := sIo (by omega) (by omega)
  have dd : ((d : Int)).toNat = d := rfl
  rw [sd, dd]
  refine sR_has hBN (by omega) (by omega) (fun z29 c29 => ?_)
  obtain ⟨-, c29, -⟩ := c29
  rw [TN, SN] at c29
  refine pJ0_of (HS T s (N 0 36) 47 47 ∨ AT T s (N 0 36)) (fun hJ => ?_) ⟨fun e29 => Or.inl (hyes c29 (by omega)), fun e29 => ?_⟩
  · refine sR_has hBN (by omega) (by omega) (fun z51 c51 => ?_)
    obtain ⟨-, c51, -⟩ := c51
    rw [TN, SN] at c51
    refine wJ1_of (fun x P => (0 ≤ x ∧ x ≤ 9) ∧ BI P ∧ (∀ j9 k9 : Nat, ¬ (j9 = 0 ∧ k9 = 36 ∨ 23 ≤ j9 ∧ j9 ≤ 26) → P j9 k9 = M0 j9 k9) ∧ (N 0 36 ≤ P 0 36 ∧ P 0 36 ≤ 60) ∧ ∃ r, PK T s 1 d (P 0 36) r ∧ PK T s 5 d r q) (fun x P hI2 => ?_) ⟨fun e51 => ?_, fun e51 => ?_⟩
    · obtain ⟨ix, hBP, FP, pP, r, pk1, pk5⟩ := hI2
      have lt := PK_lt pk1
      have sx : sI x = x := sIo (by omega) (by omega)
      refine hR P _ r hBP ((rowF FP 1 (by omega)).trans hT) ((FP 0 1 (by omega)).trans hs) (by omega) pk1 (fun z65 M64 h65 => ?_)
      obtain ⟨⟨hB64, F64⟩, p64, z1, z2', h65⟩ := h65
      have G64 : ∀ j9 k9 : Nat, ¬ (j9 = 0 ∧ k9 = 36 ∨ 23 ≤ j9 ∧ j9 ≤ 26) → M64 j9 k9 = M0 j9 k9 := fun j9 k9 h9 => (F64 j9 k9 h9).trans (FP j9 k9 h9)
      refine ⟨fun e65 => ?_, fun e65 => hQ _ _ ⟨⟨hB64, G64⟩, p64, z1, z2', Or.inl e65⟩⟩
      have q64 : M64 0 36 = r := h65.resolve_left (by omega)
      have b24 : 0 ≤ M64 24 d ∧ M64 24 d ≤ 24 := BN.at hB64.1 (rfl : zcd wR 24 = 74) rfl
      have b26 : 0 ≤ M64 26 d ∧ M64 26 d ≤ 24 := BN.at hB64.1 (rfl : zcd wR 26 = 76) rfl
      have s24 : sI (M64 24 d) = M64 24 d := sIo (by omega) (by omega)
      have s26 : sI (M64 26 d) = M64 26 d := sIo (by omega) (by omega)
      have s50 : sI ((M64 24 d - x) + M64 26 d) = (M64 24 d - x) + M64 26 d := sIo (by omega) (by omega)
      rw [sx, s24, s26, s50]
      refine ⟨by omega, fun c => hQ _ _ ⟨⟨hB64, G64⟩, p64, by omega, by omega, Or.inl (by omega)⟩, fun c => ⟨by omega, fun c2 => ⟨by omega, by omega, fun c3 => ?_, fun c3 => hQ _ _ ⟨⟨hB64, G64⟩, p64, by omega, by omega, Or.inl (by omega)⟩⟩, fun c2 => hQ _ _ ⟨⟨hB64, G64⟩, p64, by omega, by omega, Or.inl (by omega)⟩⟩⟩
      refine wL1_of (fun y P2 => BI P2 ∧ (∀ j9 k9 : Nat, ¬ (j9 = 23) → P2 j9 k9 = M64 j9 k9) ∧ (0 ≤ y ∧ y ≤ 24)) (fun y _ => (1000 - y).toNat) ⟨hB64, fun _ _ _ => rfl, by omega⟩ (fun K2 y P2 hI3 hK2 => ?_)
      obtain ⟨hB2, F2, iy⟩ := hI3
      have sy : sI y = y := sIo (by omega) (by omega)
      have e26 : P2 26 d = M64 26 d := F2 26 d (by omega)
      rw [sy, e26, s26]
      refine ⟨by omega, fun c4 => ⟨by omega, by omega, ?_⟩, fun c4 => ?_⟩
      · intro M88 e88
        have p88 : M88 0 36 = r := by rw [e88, zup_n _ _ (by omega), F2 0 36 (by omega)]; exact q64
        refine hK _ ⟨by rw [e88]; exact BI.up hB2 (rfl : zcd wR 24 = 74) rfl (by omega) (by omega) (by decide), fun j9 k9 h9 => by rw [e88]; exact (zup_n _ _ (by omega)).trans ((F2 j9 k9 (by omega)).trans (G64 j9 k9 h9)), by omega, by rw [p88]; exact pk5⟩ (by omega)
      · intro t92 e92
        have s6 : sI (24 * (d : Int) + y) = 24 * (d : Int) + y := sIo (by omega) (by omega)
        have s7 : sI t92 = t92 := sIo (by omega) (by omega)
        rw [s6, s7]
        have o1 := orI_R (P2 25 (24 * (d : Int) + y).toNat) 0
        have o2 := orI_R (P2 25 (24 * (d : Int) + y).toNat) (P2 23 t92.toNat)
        refine ⟨by omega, fun c5 => ⟨by omega, ?_⟩, fun c5 => ⟨by omega, by omega, ?_⟩⟩
        · intro M97 e97
          exact hK2 _ _ ⟨by rw [e97]; exact BI.up hB2 (rfl : zcd wR 23 = 73) rfl o1.1 o1.2 (by decide), fun j9 k9 h9 => by rw [e97]; exact (zup_n _ _ (by omega)).trans (F2 j9 k9 h9), by omega⟩ (by omega)
        · intro M103 e103
          exact hK2 _ _ ⟨by rw [e103]; exact BI.up hB2 (rfl : zcd wR 23 = 73) rfl o2.1 o2.2 (by decide), fun j9 k9 h9 => by rw [e103]; exact (zup_n _ _ (by omega)).trans (F2 j9 k9 h9), by omega⟩ (by omega)
    · have n51 : ¬ HS T s (N 0 36) 47 47 := hno c51 (by omega)
      refine ⟨by omega, hBN, FN, by omega, ?_⟩
      rcases PK5.mp pkN with h | h | h
      · exact absurd h.1 n51
      · exact h.2.2
      · rcases hJ with h2 | h2
        · exact absurd h2 n51
        · exact absurd h2 h.2.1
    · have y51 : HS T s (N 0 36) 47 47 := hyes c51 (by omega)
      have h4 : HS T s (N 0 36 + 1) 49 57 ∧ ∃ r, PK T s 1 d (N 0 36 + 2) r ∧ PK T s 5 d r q := by
        rcases PK5.mp pkN with h | h | h
        · exact h.2
        · exact absurd y51 h.1
        · exact absurd y51 h.1
      have pl : N 0 36 + 1 < 60 := h4.1.1.2
      have hv := h4.1.2
      rw [← TN] at hv
      have s3 : sI (N 0 36 + 1) = N 0 36 + 1 := sIo (by omega) (by omega)
      rw [s3]
      refine ⟨by omega, ?_⟩
      intro t109 e109 M111 e111
      have p111 : M111 0 36 = N 0 36 + 2 := by rw [e111]; exact zup_s _ _ _ _
      exact ⟨by omega, by rw [e111]; exact BIp hBN (by omega) (by omega), fun j9 k9 h9 => by rw [e111]; exact (zup_n _ _ (by omega)).trans (FN j9 k9 h9), by omega, by rw [p111]; exact h4.2⟩
  · have n29 : ¬ HS T s (N 0 36) 47 47 := hno c29 (by omega)
    refine sR_has hBN (by omega) (by omega) (fun z115 c115 => ?_)
    obtain ⟨-, c115, -⟩ := c115
    rw [TN, SN] at c115
    refine ⟨fun e => Or.inr (Or.inl (hyes c115 (by omega))), fun e115 => ?_⟩
    have n115 : ¬ HS T s (N 0 36) 48 57 := hno c115 (by omega)
    refine sR_has hBN (by omega) (by omega) (fun z120 c120 => ?_)
    obtain ⟨-, c120, -⟩ := c120
    rw [TN, SN] at c120
    refine ⟨fun e => Or.inr (Or.inr (Or.inl (hyes c120 (by omega)))), fun e120 => ?_⟩
    have n120 : ¬ HS T s (N 0 36) 91 91 := hno c120 (by omega)
    refine sR_has hBN (by omega) (by omega) (fun z125 c125 => ?_)
    obtain ⟨-, c125, -⟩ := c125
    rw [TN, SN] at c125
    refine ⟨fun e125 => ?_, fun e => Or.inr (Or.inr (Or.inr (hyes c125 (by omega))))⟩
    have n125 : ¬ HS T s (N 0 36) 40 40 := hno c125 (by omega)
    refine hQ _ _ ⟨⟨hBN, FN⟩, pN, by omega, by omega, Or.inr ?_⟩
    rcases PK5.mp pkN with h | h | h
    · exact absurd h.1 n29
    · rcases h.2.1 with h | h | h
      · exact absurd h n115
      · exact absurd h n120
      · exact absurd h n125
    · exact h.2.2.symm
set_option maxHeartbeats 4000000 in
theorem mk_row {T : Nat → Int} {s : Int} {d : Nat} {R : Int → zM → (Int → zM → Prop) → Prop} (hd : d ≤ 5) (hR : SpM T s 1 d R) : SpM T s 2 d (wR_makeRow_F R) := by
  intro M Q q hB hT hs hp pk hQ
  obtain ⟨r, pk1, pk5⟩ := PK2.mp pk
  unfold wR_makeRow_F
  have sd : sI (d : Int) = d := sIo (by omega) (by omega)
  have dd : ((d : Int)).toNat = d := rfl
  refine hR M _ r hB hT hs hp pk1 (fun z2 M1 h2 => ?_)
  obtain ⟨⟨hB1, F1⟩, p1, z1, z2', h2⟩ := h2
  refine ⟨fun e2 => ?_, fun e2 => hQ _ _ ⟨⟨hB1, F1⟩, p1, z1, z2', Or.inl e2⟩⟩
  have q1 : M1 0 36 = r := h2.resolve_left (by omega)
  have b26 : 0 ≤ M1 26 d ∧ M1 26 d ≤ 24 := BN.at hB1.1 (rfl : zcd wR 26 = 76) rfl
  rw [sd, dd]
  refine ⟨by omega, by omega, ?_⟩
  intro M7 e7
  refine wL1_of (fun x P => BI P ∧ (∀ j9 k9 : Nat, ¬ (j9 = 0 ∧ k9 = 36 ∨ 23 ≤ j9 ∧ j9 ≤ 26) → P j9 k9 = M j9 k9) ∧ P 0 36 = r ∧ (0 ≤ x ∧ x ≤ 24)) (fun x _ => (1000 - x).toNat) ⟨by rw [e7]; exact BI.up hB1 (rfl : zcd wR 24 = 74) rfl b26.1 b26.2 (by decide), fun j9 k9 h9 => by rw [e7]; exact (zup_n _ _ (by omega)).trans (F1 j9 k9 h9), by rw [e7, zup_n _ _ (by omega)]; exact q1, by omega⟩ (fun K2 x P hI2 hK2 => ?_)
  obtain ⟨hBP, FP, pP, iP⟩ := hI2
  have sx : sI x = x := sIo (by omega) (by omega)
  have bz2 : 0 ≤ P 26 d ∧ P 26 d ≤ 24 := BN.at hBP.1 (rfl : zcd wR 26 = 76) rfl
  have sz2 : sI (P 26 d) = P 26 d := sIo (by omega) (by omega)
  have s6 : sI (24 * (d : Int) + x) = 24 * (d : Int) + x := sIo (by omega) (by omega)
  rw [sx, sz2]
  refine ⟨by omega, fun c => ?_, fun c => ?_⟩
  · have h := mr_tail hd hR hBP FP hT hs (by omega) (by rw [pP]; exact pk5) hQ
    unfold wR_mrTail at h
    rw [sd, dd] at h
    exact h
  · rw [s6]
    refine ⟨by omega, by omega, ?_⟩
    intro M131 e131
    have br := BN.r32 hBP.1 25 (24 * (d : Int) + x).toNat
    exact hK2 _ _ ⟨by rw [e131]; exact BI.up hBP (rfl : zcd wR 23 = 73) rfl br.1 br.2 (by decide), fun j9 k9 h9 => by rw [e131]; exact (zup_n _ _ (by omega)).trans (FP j9 k9 h9), by rw [e131, zup_n _ _ (by omega)]; exact pP, by omega⟩ (by omega)
theorem sp_make (T : Nat → Int) (s : Int) : ∀ (n d : Nat), d ≤ 5 → 6 ≤ n + d → SpM T s 2 d (wR_makeRow n) := by
  intro n
  induction n with
  | zero => intro d h1 h2; omega
  | succ n ih =>
    intro d h1 h2
    show SpM T s 2 d (wR_makeRow_F (wR_makeTerm_F (wR_makeRow n)))
    exact mk_row h1 (mk_term h1 (fun h => ih (d + 1) (by omega) (by omega)))
