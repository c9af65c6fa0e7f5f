section zz31_R00
/-! safety of the model, 0 -/
theorem sI_or (z : Int) : sI z = z ∨ z < -2147483648 ∨ 2147483647 < z := by
  by_cases h : -2147483648 ≤ z ∧ z ≤ 2147483647
  · exact Or.inl (sIo h.1 h.2)
  · omega
theorem sL_or (z : Int) : sL z = z ∨ z < -9223372036854775808 ∨ 9223372036854775807 < z := by
  by_cases h : -9223372036854775808 ≤ z ∧ z ≤ 9223372036854775807
  · exact Or.inl (sLo h.1 h.2)
  · omega
set_option maxHeartbeats 4000000 in
set_option maxRecDepth 100000 in
theorem sR_in {M : zM} {a0 : Int} {a1 : Int} {a2 : Int} (hB : BI M) (v0 : (-2147483648) ≤ a0 ∧ a0 ≤ 2147483647) (v1 : (-2147483648) ≤ a1 ∧ a1 ≤ 2147483647) (v2 : (-2147483648) ≤ a2 ∧ a2 ≤ 2147483647) {Q : Int → Prop} (hQ : ∀ (z : Int), (0 ≤ z ∧ z ≤ 1) ∧ ((z = 1 ∧ a1 ≤ a0 ∧ a0 ≤ a2) ∨ (z = 0 ∧ ¬ (a1 ≤ a0 ∧ a0 ≤ a2))) ∧ True → Q z) : wR_in a0 a1 a2 M Q := by
  unfold wR_in
  have s1 : sI a0 = a0 := sIo (by omega) (by omega)
  have s2 : sI a1 = a1 := sIo (by omega) (by omega)
  refine ⟨fun c3 => ?_, fun c3 => ?_⟩
  · skip
    exact hQ _ ⟨(by omega), (by omega), trivial⟩
  · skip
    have s4 : sI a2 = a2 := sIo (by omega) (by omega)
    refine ⟨fun c5 => ?_, fun c5 => ?_⟩
    · skip
      exact hQ _ ⟨(by omega), (by omega), trivial⟩
    · skip
      exact hQ _ ⟨(by omega), (by omega), trivial⟩
set_option maxHeartbeats 4000000 in
set_option maxRecDepth 100000 in
theorem sR_areSounds {M : zM} {a0 : Int} (hB : BI M) (v0 : (-2147483648) ≤ a0 ∧ a0 ≤ 2147483647) {Q : Int → Prop} (hQ : ∀ (z : Int), (0 ≤ z ∧ z ≤ 1) ∧ ((z = 1 ∧ andI a0 (-1023) = 0) ∨ (z = 0 ∧ ¬ (andI a0 (-1023) = 0))) ∧ True → Q z) : wR_areSounds a0 M Q := by
  unfold wR_areSounds
  have q1 := andI_R a0 (-1023)
  refine ⟨fun c2 => ?_, fun c2 => ?_⟩
  · skip
    exact hQ _ ⟨(by omega), (by omega), trivial⟩
  · skip
    exact hQ _ ⟨(by omega), (by omega), trivial⟩
set_option maxHeartbeats 4000000 in
set_option maxRecDepth 100000 in
theorem sR_isRing {M : zM} {a0 : Int} (hB : BI M) (v0 : (-2147483648) ≤ a0 ∧ a0 ≤ 2147483647) {Q : Int → Prop} (hQ : ∀ (z : Int), (0 ≤ z ∧ z ≤ 1) ∧ ((z = 1 ∧ 0 ≤ a0 ∧ a0 < M 0 10 ∧ a0 < 4) ∨ (z = 0 ∧ ¬ (0 ≤ a0 ∧ a0 < M 0 10))) ∧ True → Q z) : wR_isRing a0 M Q := by
  unfold wR_isRing
  have q1 : 0 ≤ (M 0 10) ∧ (M 0 10) ≤ 4 := BN.at hB.1 (rfl : zcd wR 0 = 50) rfl
  refine sR_in hB (by omega) (by omega) (by omega) (fun z2  h3 => ?_)
  obtain ⟨p4, p5, -⟩ := h3
  exact hQ _ ⟨(by omega), (by omega), trivial⟩
set_option maxHeartbeats 4000000 in
set_option maxRecDepth 100000 in
theorem sR_isMotor {M : zM} {a0 : Int} (hB : BI M) (v0 : (-2147483648) ≤ a0 ∧ a0 ≤ 2147483647) {Q : Int → Prop} (hQ : ∀ (z : Int), (0 ≤ z ∧ z ≤ 1) ∧ ((z = 1 ∧ 0 ≤ a0 ∧ a0 ≤ 1) ∨ (z = 0 ∧ ¬ (0 ≤ a0 ∧ a0 ≤ 1))) ∧ True → Q z) : wR_isMotor a0 M Q := by
  unfold wR_isMotor
  have s1 : sI a0 = a0 := sIo (by omega) (by omega)
  refine ⟨fun c2 => ?_, fun c2 => ?_⟩
  · skip
    exact hQ _ ⟨(by omega), (by omega), trivial⟩
  · skip
    refine ⟨fun c3 => ?_, fun c3 => ?_⟩
    · skip
      exact hQ _ ⟨(by omega), (by omega), trivial⟩
    · skip
      exact hQ _ ⟨(by omega), (by omega), trivial⟩
set_option maxHeartbeats 4000000 in
set_option maxRecDepth 100000 in
theorem sR_sign {M : zM} {a0 : Int} (hB : BI M) (v0 : (-2147483648) ≤ a0 ∧ a0 ≤ 2147483647) {Q : Int → zM → Prop} (hQ : ∀ (z : Int) (M1 : zM), BI M1 ∧ (∀ j9 k9 : Nat, ¬ (j9 = 0 ∧ k9 = 35 ∨ j9 = 0 ∧ k9 = 1 ∨ j9 = 1) → M1 j9 k9 = M j9 k9) ∧ ((-2147483648) ≤ z ∧ z ≤ 2147483647) ∧ ((M 0 1 ≤ 96 ∧ z = M 0 1 + 4 ∧ M1 0 1 = M 0 1 + 4) ∨ (96 < M 0 1 ∧ z = -1 ∧ M1 0 1 = M 0 1)) ∧ True → Q z M1) : wR_sign a0 M Q := by
  unfold wR_sign
  have hF0 : ∀ j9 k9 : Nat, ¬ (j9 = 0 ∧ k9 = 35 ∨ j9 = 0 ∧ k9 = 1 ∨ j9 = 1) → M j9 k9 = M j9 k9 := fun j9 k9 _ => rfl
  intro M1 e2
  have hB3 : BI M1 := by rw [e2]; exact BI.up0 hB rfl (by omega) (by omega) (by decide)
  have hF4 : ∀ j9 k9 : Nat, ¬ (j9 = 0 ∧ k9 = 35 ∨ j9 = 0 ∧ k9 = 1 ∨ j9 = 1) → M1 j9 k9 = M j9 k9 := fun j9 k9 h9 => by rw [e2]; exact (zup_n _ _ (by omega)).trans (hF0 j9 k9 h9)
  have r5 : M1 0 1 = M 0 1 := by rw [e2]; exact zup_n _ _ (by omega)
  have q6 : 0 ≤ (M1 0 1) ∧ (M1 0 1) ≤ 100 := BN.at hB3.1 (rfl : zcd wR 0 = 50) rfl
  have s7 : sI ((M1 0 1) + 4) = ((M1 0 1) + 4) := sIo (by omega) (by omega)
  refine ⟨fun c8 => ?_, fun c8 => ?_⟩
  · skip
    have q10 := shrI_R a0 24
    have q11 := b8I_in (shrI a0 24)
    have s12 : sI (M1 0 1) = (M1 0 1) := sIo (by omega) (by omega)
    have o13 : 0 ≤ (sI (M1 0 1)) ∧ (sI (M1 0 1)) < 100 := by omega
    refine ⟨o13, ?_⟩
    intro M14 e15
    have hB16 : BI M14 := by rw [e15]; exact BI.up hB3 (rfl : zcd wR 1 = 51) rfl (by omega) (by omega) (by decide)
    have hF17 : ∀ j9 k9 : Nat, ¬ (j9 = 0 ∧ k9 = 35 ∨ j9 = 0 ∧ k9 = 1 ∨ j9 = 1) → M14 j9 k9 = M j9 k9 := fun j9 k9 h9 => by rw [e15]; exact (zup_n _ _ (by omega)).trans (hF4 j9 k9 h9)
    have r18 : M14 0 1 = M1 0 1 := by rw [e15]; exact zup_n _ _ (by omega)
    have q19 : 0 ≤ (M14 0 1) ∧ (M14 0 1) ≤ 100 := BN.at hB16.1 (rfl : zcd wR 0 = 50) rfl
    have q20 := shrI_R a0 16
    have q21 := b8I_in (shrI a0 16)
    have s22 : sI ((M14 0 1) + 1) = ((M14 0 1) + 1) := sIo (by omega) (by omega)
    have o23 : 0 ≤ (sI ((M14 0 1) + 1)) ∧ (sI ((M14 0 1) + 1)) < 100 := by omega
    refine ⟨o23, ?_⟩
    intro M24 e25
    have hB26 : BI M24 := by rw [e25]; exact BI.up hB16 (rfl : zcd wR 1 = 51) rfl (by omega) (by omega) (by decide)
    have hF27 : ∀ j9 k9 : Nat, ¬ (j9 = 0 ∧ k9 = 35 ∨ j9 = 0 ∧ k9 = 1 ∨ j9 = 1) → M24 j9 k9 = M j9 k9 := fun j9 k9 h9 => by rw [e25]; exact (zup_n _ _ (by omega)).trans (hF17 j9 k9 h9)
    have r28 : M24 0 1 = M14 0 1 := by rw [e25]; exact zup_n _ _ (by omega)
    have q29 : 0 ≤ (M24 0 1) ∧ (M24 0 1) ≤ 100 := BN.at hB26.1 (rfl : zcd wR 0 = 50) rfl
    have q30 := shrI_R a0 8
    have q31 := b8I_in (shrI a0 8)
    have s32 : sI ((M24 0 1) + 2) = ((M24 0 1) + 2) := sIo (by omega) (by omega)
    have o33 : 0 ≤ (sI ((M24 0 1) + 2)) ∧ (sI ((M24 0 1) + 2)) < 100 := by omega
    refine ⟨o33, ?_⟩
    intro M34 e35
    have hB36 : BI M34 := by rw [e35]; exact BI.up hB26 (rfl : zcd wR 1 = 51) rfl (by omega) (by omega) (by decide)
    have hF37 : ∀ j9 k9 : Nat, ¬ (j9 = 0 ∧ k9 = 35 ∨ j9 = 0 ∧ k9 = 1 ∨ j9 = 1) → M34 j9 k9 = M j9 k9 := fun j9 k9 h9 => by rw [e35]; exact (zup_n _ _ (by omega)).trans (hF27 j9 k9 h9)
    have r38 : M34 0 1 = M24 0 1 := by rw [e35]; exact zup_n _ _ (by omega)
    have q39 : 0 ≤ (M34 0 1) ∧ (M34 0 1) ≤ 100 := BN.at hB36.1 (rfl : zcd wR 0 = 50) rfl
    have q40 := b8I_in a0
    have s41 : sI ((M34 0 1) + 3) = ((M34 0 1) + 3) := sIo (by omega) (by omega)
    have o42 : 0 ≤ (sI ((M34 0 1) + 3)) ∧ (sI ((M34 0 1) + 3)) < 100 := by omega
    refine ⟨o42, ?_⟩
    intro M43 e44
    have hB45 : BI M43 := by rw [e44]; exact BI.up hB36 (rfl : zcd wR 1 = 51) rfl (by omega) (by omega) (by decide)
    have hF46 : ∀ j9 k9 : Nat, ¬ (j9 = 0 ∧ k9 = 35 ∨ j9 = 0 ∧ k9 = 1 ∨ j9 = 1) → M43 j9 k9 = M j9 k9 := fun j9 k9 h9 => by rw [e44]; exact (zup_n _ _ (by omega)).trans (hF37 j9 k9 h9)
    have r47 : M43 0 1 = M34 0 1 := by rw [e44]; exact zup_n _ _ (by omega)
    have q48 : 0 ≤ (M43 0 1) ∧ (M43 0 1) ≤ 100 := BN.at hB45.1 (rfl : zcd wR 0 = 50) rfl
    intro M49 e50
    have hB51 : BI M49 := by rw [e50]; exact BI.up0 hB45 rfl (by omega) (by omega) (by decide)
    have hF52 : ∀ j9 k9 : Nat, ¬ (j9 = 0 ∧ k9 = 35 ∨ j9 = 0 ∧ k9 = 1 ∨ j9 = 1) → M49 j9 k9 = M j9 k9 := fun j9 k9 h9 => by rw [e50]; exact (zup_n _ _ (by omega)).trans (hF46 j9 k9 h9)
    have r53 : M49 0 1 = ((M43 0 1) + 4) := by rw [e50]; exact zup_s _ _ _ _
    have q54 : 0 ≤ (M49 0 1) ∧ (M49 0 1) ≤ 100 := BN.at hB51.1 (rfl : zcd wR 0 = 50) rfl
    have s55 : sI (M49 0 1) = (M49 0 1) := sIo (by omega) (by omega)
    exact hQ _ _ ⟨hB51, hF52, (by omega), (by omega), trivial⟩
  · skip
    exact hQ _ _ ⟨hB3, hF4, (by omega), (by omega), trivial⟩
set_option maxHeartbeats 4000000 in
set_option maxRecDepth 100000 in
theorem sR_end {M : zM} {a0 : Int} (hB : BI M) (v0 : (-2147483648) ≤ a0 ∧ a0 ≤ 2147483647) {Q : Int → zM → Prop} (hQ : ∀ (z : Int) (M1 : zM), BI M1 ∧ (∀ j9 k9 : Nat, ¬ (j9 = 0 ∧ k9 = 35 ∨ j9 = 0 ∧ k9 = 1) → M1 j9 k9 = M j9 k9) ∧ (0 ≤ z ∧ z ≤ 1) ∧ ((0 ≤ a0 ∧ a0 ≤ M 0 1 ∧ z = 1 ∧ M1 0 1 = a0) ∨ ((a0 < 0 ∨ M 0 1 < a0) ∧ z = 0 ∧ M1 0 1 = M 0 1)) ∧ True → Q z M1) : wR_end a0 M Q := by
  unfold wR_end
  have hF0 : ∀ j9 k9 : Nat, ¬ (j9 = 0 ∧ k9 = 35 ∨ j9 = 0 ∧ k9 = 1) → M j9 k9 = M j9 k9 := fun j9 k9 _ => rfl
  intro M1 e2
  have hB3 : BI M1 := by rw [e2]; exact BI.up0 hB rfl (by omega) (by omega) (by decide)
  have hF4 : ∀ j9 k9 : Nat, ¬ (j9 = 0 ∧ k9 = 35 ∨ j9 = 0 ∧ k9 = 1) → M1 j9 k9 = M j9 k9 := fun j9 k9 h9 => by rw [e2]; exact (zup_n _ _ (by omega)).trans (hF0 j9 k9 h9)
  have r5 : M1 0 1 = M 0 1 := by rw [e2]; exact zup_n _ _ (by omega)
  have s6 : sI a0 = a0 := sIo (by omega) (by omega)
  refine ⟨fun c7 => ?_, fun c7 => ?_⟩
  · skip
    exact hQ _ _ ⟨hB3, hF4, (by omega), (by omega), trivial⟩
  · skip
    have q8 : 0 ≤ (M1 0 1) ∧ (M1 0 1) ≤ 100 := BN.at hB3.1 (rfl : zcd wR 0 = 50) rfl
    have s9 : sI (M1 0 1) = (M1 0 1) := sIo (by omega) (by omega)
    refine ⟨fun c10 => ?_, fun c10 => ?_⟩
    · skip
      intro M11 e12
      have hB13 : BI M11 := by rw [e12]; exact BI.up0 hB3 rfl (by omega) (by omega) (by decide)
      have hF14 : ∀ j9 k9 : Nat, ¬ (j9 = 0 ∧ k9 = 35 ∨ j9 = 0 ∧ k9 = 1) → M11 j9 k9 = M j9 k9 := fun j9 k9 h9 => by rw [e12]; exact (zup_n _ _ (by omega)).trans (hF4 j9 k9 h9)
      have r15 : M11 0 1 = a0 := by rw [e12]; exact zup_s _ _ _ _
      exact hQ _ _ ⟨hB13, hF14, (by omega), (by omega), trivial⟩
    · skip
      exact hQ _ _ ⟨hB3, hF4, (by omega), (by omega), trivial⟩
/-- the sign at a place is one of these -/
def HS (T : Nat → Int) (s p lo hi : Int) : Prop := (p < s ∧ p < 60) ∧ lo ≤ T p.toNat ∧ T p.toNat ≤ hi
theorem hno {z : Int} {P : Prop} (c : (z = 1 ∧ P) ∨ (z = 0 ∧ ¬ P)) (h : z = 0) : ¬ P := by
  rcases c with c | c
  · omega
  · exact c.2
theorem hyes {z : Int} {P : Prop} (c : (z = 1 ∧ P) ∨ (z = 0 ∧ ¬ P)) (h : z ≠ 0) : P := by
  rcases c with c | c
  · exact c.2
  · omega
theorem sR_has {M : zM} {a0 a1 : Int} (hB : BI M) (v0 : -2147483648 ≤ a0 ∧ a0 ≤ 2147483647) (v1 : -2147483648 ≤ a1 ∧ a1 ≤ 2147483647) {Q : Int → Prop} (hQ : ∀ z, ((0 ≤ z ∧ z ≤ 1) ∧ ((z = 1 ∧ HS (M 1) (M 0 1) (M 0 36) a0 a1) ∨ (z = 0 ∧ ¬ HS (M 1) (M 0 1) (M 0 36) a0 a1)) ∧ True) → Q z) : wR_has a0 a1 M Q := by
  unfold wR_has
  unfold HS at hQ
  have b1 : 0 ≤ M 0 1 ∧ M 0 1 ≤ 100 := BN.at hB.1 (rfl : zcd wR 0 = 50) rfl
  have b2 : 0 ≤ M 0 36 ∧ M 0 36 ≤ 100 := BN.at hB.1 (rfl : zcd wR 0 = 50) rfl
  have b3 : -128 ≤ M 1 (M 0 36).toNat ∧ M 1 (M 0 36).toNat ≤ 127 := BN.at hB.1 (rfl : zcd wR 1 = 51) rfl
  have s1 : sI (M 0 1) = M 0 1 := sIo (by omega) (by omega)
  have s2 : sI (M 0 36) = M 0 36 := sIo (by omega) (by omega)
  have s3 : sI a0 = a0 := sIo (by omega) (by omega)
  have s4 : sI a1 = a1 := sIo (by omega) (by omega)
  have s5 : sI (M 1 (M 0 36).toNat) = M 1 (M 0 36).toNat := sIo (by omega) (by omega)
  rw [s1, s2, s3, s4, s5]
  refine ⟨fun c => hQ _ ⟨by omega, Or.inr ⟨rfl, by omega⟩, trivial⟩, fun c => ⟨fun c2 => hQ _ ⟨by omega, Or.inr ⟨rfl, by omega⟩, trivial⟩, fun c2 => ⟨by omega, fun c3 => hQ _ ⟨by omega, Or.inr ⟨rfl, by omega⟩, trivial⟩, fun c3 => ⟨by omega, fun c4 => hQ _ ⟨by omega, Or.inr ⟨rfl, by omega⟩, trivial⟩, fun c4 => hQ _ ⟨by omega, Or.inl ⟨rfl, by omega⟩, trivial⟩⟩⟩⟩⟩
set_option maxHeartbeats 4000000 in
set_option maxRecDepth 100000 in
theorem sR_isWrong {M : zM}  (hB : BI M)  {Q : Int → zM → Prop} (hQ : ∀ (z : Int) (M1 : zM), BI M1 ∧ (∀ j9 k9 : Nat, ¬ (j9 = 0 ∧ k9 = 37) → M1 j9 k9 = M j9 k9) ∧ (0 ≤ z ∧ z ≤ 1) ∧ (z = 0) ∧ True → Q z M1) : wR_isWrong  M Q := by
  unfold wR_isWrong
  have hF0 : ∀ j9 k9 : Nat, ¬ (j9 = 0 ∧ k9 = 37) → M j9 k9 = M j9 k9 := fun j9 k9 _ => rfl
  have q1 : (-2147483648) ≤ (M 0 37) ∧ (M 0 37) ≤ 2147483647 := BN.at hB.1 (rfl : zcd wR 0 = 50) rfl
  have s2 : sI (M 0 37) = (M 0 37) := sIo (by omega) (by omega)
  refine ⟨fun c3 => ?_, fun c3 => ?_⟩
  · skip
    exact hQ _ _ ⟨hB, hF0, (by omega), (by omega), trivial⟩
  · skip
    have q4 : 0 ≤ (M 0 36) ∧ (M 0 36) ≤ 100 := BN.at hB.1 (rfl : zcd wR 0 = 50) rfl
    intro M5 e6
    have hB7 : BI M5 := by rw [e6]; exact BI.up0 hB rfl (by omega) (by omega) (by decide)
    have hF8 : ∀ j9 k9 : Nat, ¬ (j9 = 0 ∧ k9 = 37) → M5 j9 k9 = M j9 k9 := fun j9 k9 h9 => by rw [e6]; exact (zup_n _ _ (by omega)).trans (hF0 j9 k9 h9)
    have r9 : M5 0 36 = M 0 36 := by rw [e6]; exact zup_n _ _ (by omega)
    have r10 : M5 0 1 = M 0 1 := by rw [e6]; exact zup_n _ _ (by omega)
    exact hQ _ _ ⟨hB7, hF8, (by omega), (by omega), trivial⟩
/-- an atom can begin here -/
def AT (T : Nat → Int) (s p : Int) : Prop := HS T s p 48 57 ∨ HS T s p 91 91 ∨ HS T s p 40 40
/-- what a text can be read as: 0 an atom, 1 a term, 2 a row, 3 digits and a bracket's end, 4 the end of a term, 5 the end of a row; at a depth, from a place to a place; the first number bounds the depth of the reading -/
def SK (T : Nat → Int) (s : Int) : Nat → Nat → Nat → Int → Int → Prop
  | 0, _, _, _, _ => False
  | n + 1, 0, d, p, q => (HS T s p 48 57 ∧ q = p + 1) ∨ (¬ HS T s p 48 57 ∧ HS T s p 91 91 ∧ HS T s (p + 1) 49 57 ∧ SK T s n 3 d (p + 1) q) ∨ (¬ HS T s p 48 57 ∧ ¬ HS T s p 91 91 ∧ HS T s p 40 40 ∧ d ≠ 5 ∧ ∃ r, SK T s n 2 (d + 1) (p + 1) r ∧ HS T s r 41 41 ∧ q = r + 1)
  | n + 1, 1, d, p, q => ∃ r, SK T s n 0 d p r ∧ SK T s n 4 d r q
  | n + 1, 2, d, p, q => ∃ r, SK T s n 1 d p r ∧ SK T s n 5 d r q
  | n + 1, 3, d, p, q => (HS T s p 49 57 ∧ SK T s n 3 d (p + 1) q) ∨ (¬ HS T s p 49 57 ∧ HS T s p 93 93 ∧ q = p + 1)
  | n + 1, 4, d, p, q => (HS T s p 126 126 ∧ SK T s n 4 d (p + 1) q) ∨ (¬ HS T s p 126 126 ∧ HS T s p 42 42 ∧ HS T s (p + 1) 50 57 ∧ SK T s n 4 d (p + 2) q) ∨ (¬ HS T s p 126 126 ∧ ¬ HS T s p 42 42 ∧ q = p)
  | n + 1, 5, d, p, q => (HS T s p 47 47 ∧ HS T s (p + 1) 49 57 ∧ ∃ r, SK T s n 1 d (p + 2) r ∧ SK T s n 5 d r q) ∨ (¬ HS T s p 47 47 ∧ AT T s p ∧ ∃ r, SK T s n 1 d p r ∧ SK T s n 5 d r q) ∨ (¬ HS T s p 47 47 ∧ ¬ AT T s p ∧ q = p)
  | _ + 1, _ + 6, _, _, _ => False
theorem SK_s (T : Nat → Int) (s : Int) : ∀ (n k d : Nat) (p q : Int), SK T s n k d p q → SK T s (n + 1) k d p q := by
  intro n
  induction n with
  | zero => intro k d p q h; exact h.elim
  | succ n ih =>
    intro k d p q h
    match k, h with
    | 0, h =>
      rcases h with h | ⟨a, b, c, e⟩ | ⟨a, b, c, e, r, x, y⟩
      · exact Or.inl h
      · exact Or.inr (Or.inl ⟨a, b, c, ih _ _ _ _ e⟩)
      · exact Or.inr (Or.inr ⟨a, b, c, e, r, ih _ _ _ _ x, y⟩)
    | 1, h =>
      obtain ⟨r, x, y⟩ := h
      exact ⟨r, ih _ _ _ _ x, ih _ _ _ _ y⟩
    | 2, h =>
      obtain ⟨r, x, y⟩ := h
      exact ⟨r, ih _ _ _ _ x, ih _ _ _ _ y⟩
    | 3, h =>
      rcases h with ⟨a, b⟩ | h
      · exact Or.inl ⟨a, ih _ _ _ _ b⟩
      · exact Or.inr h
    | 4, h =>
      rcases h with ⟨a, b⟩ | ⟨a, b, c, e⟩ | h
      · exact Or.inl ⟨a, ih _ _ _ _ b⟩
      · exact Or.inr (Or.inl ⟨a, b, c, ih _ _ _ _ e⟩)
      · exact Or.inr (Or.inr h)
    | 5, h =>
      rcases h with ⟨a, b, r, x, y⟩ | ⟨a, b, r, x, y⟩ | h
      · exact Or.inl ⟨a, b, r, ih _ _ _ _ x, ih _ _ _ _ y⟩
      · exact Or.inr (Or.inl ⟨a, b, r, ih _ _ _ _ x, ih _ _ _ _ y⟩)
      · exact Or.inr (Or.inr h)
    | _ + 6, h => exact h.elim
theorem SK_le {T : Nat → Int} {s : Int} {n m k d : Nat} {p q : Int} (h : SK T s n k d p q) (hm : n ≤ m) : SK T s m k d p q := by
  obtain ⟨i, rfl⟩ := Nat.exists_eq_add_of_le hm
  clear hm
  induction i with
  | zero => exact h
  | succ i ih => exact SK_s T s _ k d p q ih
def PK (T : Nat → Int) (s : Int) (k d : Nat) (p q : Int) : Prop := ∃ n, SK T s n k d p q
theorem PK_and {T : Nat → Int} {s : Int} {k d k2 d2 : Nat} {p q p2 q2 : Int} (h : PK T s k d p q) (h2 : PK T s k2 d2 p2 q2) : ∃ n, SK T s n k d p q ∧ SK T s n k2 d2 p2 q2 := by
  obtain ⟨n, a⟩ := h
  obtain ⟨m, b⟩ := h2
  exact ⟨max n m, SK_le a (Nat.le_max_left _ _), SK_le b (Nat.le_max_right _ _)⟩
theorem SK_det (T : Nat → Int) (s : Int) : ∀ (n k d : Nat) (p q q2 : Int), SK T s n k d p q → SK T s n k d p q2 → q = q2 := by
  intro n
  induction n with
  | zero => intro k d p q q2 h; exact h.elim
  | succ n ih =>
    intro k d p q q2 h h2
    match k, h, h2 with
    | 0, h, h2 =>
      rcases h with ⟨a, b⟩ | ⟨a, b, c, e⟩ | ⟨a, b, c, e, r, x, y, z⟩
      · rcases h2 with ⟨a2, b2⟩ | h2 | h2
        · omega
        · exact absurd a h2.1
        · exact absurd a h2.1
      · rcases h2 with h2 | ⟨a2, b2, c2, e2⟩ | h2
        · exact absurd h2.1 a
        · exact ih _ _ _ _ _ e e2
        · exact absurd b h2.2.1
      · rcases h2 with h2 | h2 | ⟨a2, b2, c2, e2, r2, x2, y2, z2⟩
        · exact absurd h2.1 a
        · exact absurd h2.2.1 b
        · have := ih _ _ _ _ _ x x2
          omega
    | 1, ⟨r, x, y⟩, ⟨r2, x2, y2⟩ =>
      have e := ih _ _ _ _ _ x x2
      subst e
      exact ih _ _ _ _ _ y y2
    | 2, ⟨r, x, y⟩, ⟨r2, x2, y2⟩ =>
      have e := ih _ _ _ _ _ x x2
      subst e
      exact ih _ _ _ _ _ y y2
    | 3, h, h2 =>
      rcases h with ⟨a, b⟩ | ⟨a, b, c⟩
      · rcases h2 with ⟨a2, b2⟩ | h2
        · exact ih _ _ _ _ _ b b2
        · exact absurd a h2.1
      · rcases h2 with h2 | ⟨a2, b2, c2⟩
        · exact absurd h2.1 a
        · omega
    | 4, h, h2 =>
      rcases h with ⟨a, b⟩ | ⟨a, b, c, e⟩ | ⟨a, b, c⟩
      · rcases h2 with ⟨a2, b2⟩ | h2 | h2
        · exact ih _ _ _ _ _ b b2
        · exact absurd a h2.1
        · exact absurd a h2.1
      · rcases h2 with h2 | ⟨a2, b2, c2, e2⟩ | h2
        · exact absurd h2.1 a
        · exact ih _ _ _ _ _ e e2
        · exact absurd b h2.2.1
      · rcases h2 with h2 | h2 | ⟨a2, b2, c2⟩
        · exact absurd h2.1 a
        · exact absurd h2.2.1 b
        · omega
    | 5, h, h2 =>
      rcases h with ⟨a, b, r, x, y⟩ | ⟨a, b, r, x, y⟩ | ⟨a, b, c⟩
      · rcases h2 with ⟨a2, b2, r2, x2, y2⟩ | h2 | h2
        · have e := ih _ _ _ _ _ x x2
          subst e
          exact ih _ _ _ _ _ y y2
        · exact absurd a h2.1
        · exact absurd a h2.1
      · rcases h2 with h2 | ⟨a2, b2, r2, x2, y2⟩ | h2
        · exact absurd h2.1 a
        · have e := ih _ _ _ _ _ x x2
          subst e
          exact ih _ _ _ _ _ y y2
        · exact absurd b h2.2.1
      · rcases h2 with h2 | h2 | ⟨a2, b2, c2⟩
        · exact absurd h2.1 a
        · exact absurd h2.2.1 b
        · omega
    | _ + 6, h, _ => exact h.elim
theorem PK_det {T : Nat → Int} {s : Int} {k d : Nat} {p q q2 : Int} (h : PK T s k d p q) (h2 : PK T s k d p q2) : q = q2 := by
  obtain ⟨n, a, b⟩ := PK_and h h2
  exact SK_det T s n k d p q q2 a b
theorem PK0 {T : Nat → Int} {s : Int} {d : Nat} {p q : Int} : PK T s 0 d p q ↔ (HS T s p 48 57 ∧ q = p + 1) ∨ (¬ HS T s p 48 57 ∧ HS T s p 91 91 ∧ HS T s (p + 1) 49 57 ∧ PK T s 3 d (p + 1) q) ∨ (¬ HS T s p 48 57 ∧ ¬ HS T s p 91 91 ∧ HS T s p 40 40 ∧ d ≠ 5 ∧ ∃ r, PK T s 2 (d + 1) (p + 1) r ∧ HS T s r 41 41 ∧ q = r + 1) := by
  constructor
  · rintro ⟨n, h⟩
    match n, h with
    | n + 1, h =>
      rcases h with h | ⟨a, b, c, e⟩ | ⟨a, b, c, e, r, x, y⟩
      · exact Or.inl h
      · exact Or.inr (Or.inl ⟨a, b, c, n, e⟩)
      · exact Or.inr (Or.inr ⟨a, b, c, e, r, ⟨n, x⟩, y⟩)
  · rintro (h | ⟨a, b, c, n, e⟩ | ⟨a, b, c, e, r, ⟨n, x⟩, y⟩)
    · exact ⟨1, Or.inl h⟩
    · exact ⟨n + 1, Or.inr (Or.inl ⟨a, b, c, e⟩)⟩
    · exact ⟨n + 1, Or.inr (Or.inr ⟨a, b, c, e, r, x, y⟩)⟩
theorem PK1 {T : Nat → Int} {s : Int} {d : Nat} {p q : Int} : PK T s 1 d p q ↔ ∃ r, PK T s 0 d p r ∧ PK T s 4 d r q := by
  constructor
  · rintro ⟨n, h⟩
    match n, h with
    | n + 1, ⟨r, x, y⟩ => exact ⟨r, ⟨n, x⟩, ⟨n, y⟩⟩
  · rintro ⟨r, x, y⟩
    obtain ⟨n, x, y⟩ := PK_and x y
    exact ⟨n + 1, r, x, y⟩
theorem PK2 {T : Nat → Int} {s : Int} {d : Nat} {p q : Int} : PK T s 2 d p q ↔ ∃ r, PK T s 1 d p r ∧ PK T s 5 d r q := by
  constructor
  · rintro ⟨n, h⟩
    match n, h with
    | n + 1, ⟨r, x, y⟩ => exact ⟨r, ⟨n, x⟩, ⟨n, y⟩⟩
  · rintro ⟨r, x, y⟩
    obtain ⟨n, x, y⟩ := PK_and x y
    exact ⟨n + 1, r, x, y⟩
theorem PK3 {T : Nat → Int} {s : Int} {d : Nat} {p q : Int} : PK T s 3 d p q ↔ (HS T s p 49 57 ∧ PK T s 3 d (p + 1) q) ∨ (¬ HS T s p 49 57 ∧ HS T s p 93 93 ∧ q = p + 1) := by
  constructor
  · rintro ⟨n, h⟩
    match n, h with
    | n + 1, h =>
      rcases h with ⟨a, b⟩ | h
      · exact Or.inl ⟨a, n, b⟩
      · exact Or.inr h
  · rintro (⟨a, n, b⟩ | h)
    · exact ⟨n + 1, Or.inl ⟨a, b⟩⟩
    · exact ⟨1, Or.inr h⟩
theorem PK4 {T : Nat → Int} {s : Int} {d : Nat} {p q : Int} : PK T s 4 d p q ↔ (HS T s p 126 126 ∧ PK T s 4 d (p + 1) q) ∨ (¬ HS T s p 126 126 ∧ HS T s p 42 42 ∧ HS T s (p + 1) 50 57 ∧ PK T s 4 d (p + 2) q) ∨ (¬ HS T s p 126 126 ∧ ¬ HS T s p 42 42 ∧ q = p) := by
  constructor
  · rintro ⟨n, h⟩
    match n, h with
    | n + 1, h =>
      rcases h with ⟨a, b⟩ | ⟨a, b, c, e⟩ | h
      · exact Or.inl ⟨a, n, b⟩
      · exact Or.inr (Or.inl ⟨a, b, c, n, e⟩)
      · exact Or.inr (Or.inr h)
  · rintro (⟨a, n, b⟩ | ⟨a, b, c, n, e⟩ | h)
    · exact ⟨n + 1, Or.inl ⟨a, b⟩⟩
    · exact ⟨n + 1, Or.inr (Or.inl ⟨a, b, c, e⟩)⟩
    · exact ⟨1, Or.inr (Or.inr h)⟩
theorem PK5 {T : Nat → Int} {s : Int} {d : Nat} {p q : Int} : PK T s 5 d p q ↔ (HS T s p 47 47 ∧ HS T s (p + 1) 49 57 ∧ ∃ r, PK T s 1 d (p + 2) r ∧ PK T s 5 d r q) ∨ (¬ HS T s p 47 47 ∧ AT T s p ∧ ∃ r, PK T s 1 d p r ∧ PK T s 5 d r q) ∨ (¬ HS T s p 47 47 ∧ ¬ AT T s p ∧ q = p) := by
  constructor
  · rintro ⟨n, h⟩
    match n, h with
    | n + 1, h =>
      rcases h with ⟨a, b, r, x, y⟩ | ⟨a, b, r, x, y⟩ | h
      · exact Or.inl ⟨a, b, r, ⟨n, x⟩, ⟨n, y⟩⟩
      · exact Or.inr (Or.inl ⟨a, b, r, ⟨n, x⟩, ⟨n, y⟩⟩)
      · exact Or.inr (Or.inr h)
  · rintro (⟨a, b, r, x, y⟩ | ⟨a, b, r, x, y⟩ | h)
    · obtain ⟨n, x, y⟩ := PK_and x y
      exact ⟨n + 1, Or.inl ⟨a, b, r, x, y⟩⟩
    · obtain ⟨n, x, y⟩ := PK_and x y
      exact ⟨n + 1, Or.inr (Or.inl ⟨a, b, r, x, y⟩)⟩
    · exact ⟨1, Or.inr (Or.inr h)⟩
/-- what skipping answers: whether the text can be read so, and where that ends -/
def SPost (T : Nat → Int) (s : Int) (k d : Nat) (M : zM) (z : Int) (M1 : zM) : Prop := (BI M1 ∧ (∀ j9 k9 : Nat, ¬ (j9 = 0 ∧ k9 = 36 ∨ j9 = 0 ∧ k9 = 37) → M1 j9 k9 = M j9 k9)) ∧ (0 ≤ M1 0 36 ∧ M1 0 36 ≤ 60) ∧ ((z = 1 ∧ M 0 36 < M1 0 36 ∧ PK T s k d (M 0 36) (M1 0 36)) ∨ (z = 0 ∧ ∀ q, ¬ PK T s k d (M 0 36) q))
def SpR (T : Nat → Int) (s : Int) (k d : Nat) (R : Int → zM → (Int → zM → Prop) → Prop) : Prop := ∀ (M : zM) (Q : Int → zM → Prop), BI M → M 1 = T → M 0 1 = s → (0 ≤ M 0 36 ∧ M 0 36 ≤ 60) → (∀ z M1, SPost T s k d M z M1 → Q z M1) → R (d : Int) M Q
theorem rowF {M M1 : zM} {P : Nat → Nat → Prop} (h : ∀ j9 k9 : Nat, ¬ P j9 k9 → M1 j9 k9 = M j9 k9) (j : Nat) (hj : ∀ k, ¬ P j k) : M1 j = M j := by
  funext k
  exact h j k (hj k)
/-- one place on -/
theorem BIp {M : zM} (h : BI M) {v : Int} (h1 : 0 ≤ v) (h2 : v ≤ 100) : BI (zup M 0 36 v) := BI.up0 h (rfl : cbt 50 36 = (0, 100)) h1 h2 (by decide)
theorem sp_wrong {T : Nat → Int} {s : Int} {k d : Nat} {M0 M : zM} {Q : Int → zM → Prop} (hB : BI M) (hF : ∀ j9 k9 : Nat, ¬ (j9 = 0 ∧ k9 = 36 ∨ j9 = 0 ∧ k9 = 37) → M j9 k9 = M0 j9 k9) (hp : 0 ≤ M 0 36 ∧ M 0 36 ≤ 60) (hn : ∀ q, ¬ PK T s k d (M0 0 36) q) (hQ : ∀ z M1, SPost T s k d M0 z M1 → Q z M1) : wR_isWrong M (fun z M1 => Q z M1) := by
  refine sR_isWrong hB (fun z M1 h => ?_)
  obtain ⟨h1, h2, -, h3, -⟩ := h
  have e : M1 0 36 = M 0 36 := h2 0 36 (by omega)
  exact hQ _ _ ⟨⟨h1, fun j9 k9 h9 => (h2 j9 k9 (by omega)).trans (hF j9 k9 h9)⟩, by omega, Or.inr ⟨h3, hn⟩⟩
theorem sp_atom {T : Nat → Int} {s : Int} {d : Nat} {R : Int → zM → (Int → zM → Prop) → Prop} (hd : d ≤ 5) (hR : d < 5 → SpR T s 2 (d + 1) R) : SpR T s 0 d (wR_skipAtom_F R) := by
  intro M Q hB hT hs hp hQ
  unfold wR_skipAtom_F
  have F0 : ∀ j9 k9 : Nat, ¬ (j9 = 0 ∧ k9 = 36 ∨ j9 = 0 ∧ k9 = 37) → M j9 k9 = M j9 k9 := fun _ _ _ => rfl
  refine sR_has hB (by omega) (by omega) (fun z2 c2 => ?_)
  obtain ⟨-, c2, -⟩ := c2
  rw [hT, hs] at c2
  refine ⟨fun e2 => ?_, fun e2 => ?_⟩
  · have n2 : ¬ HS T s (M 0 36) 48 57 := hno c2 (by omega)
    refine sR_has hB (by omega) (by omega) (fun z7 c7 => ?_)
    obtain ⟨-, c7, -⟩ := c7
    rw [hT, hs] at c7
    refine ⟨fun e7 => ?_, fun e7 => ?_⟩
    · have n7 : ¬ HS T s (M 0 36) 91 91 := hno c7 (by omega)
      refine sR_has hB (by omega) (by omega) (fun z12 c12 => ?_)
      obtain ⟨-, c12, -⟩ := c12
      rw [hT, hs] at c12
      have sd : sI (d : Int) = d := sIo (by omega) (by omega)
      refine ⟨fun e12 => ?_, fun e12 => ?_⟩
      · have n12 : ¬ HS T s (M 0 36) 40 40 := hno c12 (by omega)
        refine sp_wrong hB F0 hp (fun q hq => ?_) hQ
        rcases PK0.mp hq with h | h | h
        · exact n2 h.1
        · exact n7 h.2.1
        · exact n12 h.2.2.1
      · have y12 : HS T s (M 0 36) 40 40 := hyes c12 (by omega)
        rw [sd]
        refine ⟨fun e5 => ?_, fun e5 => ?_⟩
        · intro M20 e20
          have pl : M 0 36 < 60 := y12.1.2
          have hB20 : BI M20 := by rw [e20]; exact BIp hB (by omega) (by omega)
          have F20 : ∀ j9 k9 : Nat, ¬ (j9 = 0 ∧ k9 = 36) → M20 j9 k9 = M j9 k9 := fun j9 k9 h9 => by rw [e20]; exact zup_n _ _ h9
          have p20 : M20 0 36 = M 0 36 + 1 := by rw [e20]; exact zup_s _ _ _ _
          refine hR (by omega) M20 _ hB20 ((rowF F20 1 (by omega)).trans hT) ((F20 0 1 (by omega)).trans hs) (by omega) (fun z23 M22 h22 => ?_)
          obtain ⟨⟨hB22, F22⟩, p22, h22⟩ := h22
          rw [p20] at h22
          have T22 : M22 1 = T := (rowF F22 1 (by omega)).trans ((rowF F20 1 (by omega)).trans hT)
          have S22 : M22 0 1 = s := (F22 0 1 (by omega)).trans ((F20 0 1 (by omega)).trans hs)
          have F2 : ∀ j9 k9 : Nat, ¬ (j9 = 0 ∧ k9 = 36 ∨ j9 = 0 ∧ k9 = 37) → M22 j9 k9 = M j9 k9 := fun j9 k9 h9 => (F22 j9 k9 h9).trans (F20 j9 k9 (by omega))
          refine ⟨fun e23 => ?_, fun e23 => ?_⟩
          · rcases h22 with ⟨-, lt, pk⟩ | ⟨h, -⟩
            · refine sR_has hB22 (by omega) (by omega) (fun z27 c27 => ?_)
              obtain ⟨-, c27, -⟩ := c27
              rw [T22, S22] at c27
              refine ⟨fun e27 => ?_, fun e27 => ?_⟩
              · have y27 : HS T s (M22 0 36) 41 41 := hyes c27 (by omega)
                have pl2 : M22 0 36 < 60 := y27.1.2
                intro M31 e31
                have p31 : M31 0 36 = M22 0 36 + 1 := by rw [e31]; exact zup_s _ _ _ _
                refine hQ _ _ ⟨⟨by rw [e31]; exact BIp hB22 (by omega) (by omega), fun j9 k9 h9 => by rw [e31, zup_n _ _ (by omega)]; exact F2 j9 k9 h9⟩, by omega, Or.inl ⟨rfl, by omega, ?_⟩⟩
                rw [p31]
                exact PK0.mpr (Or.inr (Or.inr ⟨n2, n7, y12, by omega, _, pk, y27, rfl⟩))
              · have n27 : ¬ HS T s (M22 0 36) 41 41 := hno c27 (by omega)
                refine sp_wrong hB22 F2 p22 (fun q hq => ?_) hQ
                rcases PK0.mp hq with h | h | h
                · exact n2 h.1
                · exact n7 h.2.1
                · obtain ⟨-, -, -, -, r, x, y, -⟩ := h
                  rw [PK_det x pk] at y
                  exact n27 y
            · exact absurd h e23
          · rcases h22 with ⟨h, -⟩ | ⟨-, h⟩
            · omega
            · refine hQ _ _ ⟨⟨hB22, F2⟩, p22, Or.inr ⟨rfl, fun q hq => ?_⟩⟩
              rcases PK0.mp hq with h0 | h0 | h0
              · exact n2 h0.1
              · exact n7 h0.2.1
              · obtain ⟨-, -, -, -, r, x, -⟩ := h0
                exact h r x
        · refine sp_wrong hB F0 hp (fun q hq => ?_) hQ
          rcases PK0.mp hq with h | h | h
          · exact n2 h.1
          · exact n7 h.2.1
          · omega
    · have y7 : HS T s (M 0 36) 91 91 := hyes c7 (by omega)
      intro M39 e39
      have pl : M 0 36 < 60 := y7.1.2
      have hB39 : BI M39 := by rw [e39]; exact BIp hB (by omega) (by omega)
      have F39 : ∀ j9 k9 : Nat, ¬ (j9 = 0 ∧ k9 = 36) → M39 j9 k9 = M j9 k9 := fun j9 k9 h9 => by rw [e39]; exact zup_n _ _ h9
      have p39 : M39 0 36 = M 0 36 + 1 := by rw [e39]; exact zup_s _ _ _ _
      have T39 : M39 1 = T := (rowF F39 1 (by omega)).trans hT
      have S39 : M39 0 1 = s := (F39 0 1 (by omega)).trans hs
      refine sR_has hB39 (by omega) (by omega) (fun z42 c42 => ?_)
      obtain ⟨-, c42, -⟩ := c42
      rw [T39, S39] at c42
      refine ⟨fun e42 => ?_, fun e42 => ?_⟩
      · have y42 : HS T s (M39 0 36) 49 57 := hyes c42 (by omega)
        have y43 := y42
        rw [p39] at y43
        refine wL0_of (fun N => BI N ∧ (∀ j9 k9 : Nat, ¬ (j9 = 0 ∧ k9 = 36 ∨ j9 = 0 ∧ k9 = 37) → N j9 k9 = M j9 k9) ∧ (M 0 36 < N 0 36 ∧ N 0 36 ≤ 60) ∧ (∀ q, PK T s 0 d (M 0 36) q ↔ PK T s 3 d (N 0 36) q)) (fun N => (100 - N 0 36).toNat) ⟨hB39, fun j9 k9 h9 => F39 j9 k9 (by omega), by omega, fun q => ?_⟩ (fun K N hI hK => ?_)
        · rw [p39]
          constructor
          · intro h
            rcases PK0.mp h with h | h | h
            · exact absurd h.1 n2
            · exact h.2.2.2
            · exact absurd y7 h.2.1
          · exact fun h => PK0.mpr (Or.inr (Or.inl ⟨n2, y7, y43, h⟩))
        · obtain ⟨hBN, FN, pN, eN⟩ := hI
          have TN : N 1 = T := (rowF FN 1 (by omega)).trans hT
          have SN : N 0 1 = s := (FN 0 1 (by omega)).trans hs
          refine sR_has hBN (by omega) (by omega) (fun z55 c55 => ?_)
          obtain ⟨-, c55, -⟩ := c55
          rw [TN, SN] at c55
          refine ⟨fun e55 => ?_, fun e55 => ?_⟩
          · have n55 : ¬ HS T s (N 0 36) 49 57 := hno c55 (by omega)
            refine sR_has hBN (by omega) (by omega) (fun z60 c60 => ?_)
            obtain ⟨-, c60, -⟩ := c60
            rw [TN, SN] at c60
            refine ⟨fun e60 => ?_, fun e60 => ?_⟩
            · have y60 : HS T s (N 0 36) 93 93 := hyes c60 (by omega)
              have pl2 : N 0 36 < 60 := y60.1.2
              intro M64 e64
              have p64 : M64 0 36 = N 0 36 + 1 := by rw [e64]; exact zup_s _ _ _ _
              refine hQ _ _ ⟨⟨by rw [e64]; exact BIp hBN (by omega) (by omega), fun j9 k9 h9 => by rw [e64, zup_n _ _ (by omega)]; exact FN j9 k9 h9⟩, by omega, Or.inl ⟨rfl, by omega, ?_⟩⟩
              rw [p64]
              exact (eN _).mpr (PK3.mpr (Or.inr ⟨n55, y60, rfl⟩))
            · have n60 : ¬ HS T s (N 0 36) 93 93 := hno c60 (by omega)
              refine sp_wrong hBN FN (by omega) (fun q hq => ?_) hQ
              rcases PK3.mp ((eN q).mp hq) with h | h
              · exact n55 h.1
              · exact n60 h.2.1
          · have y55 : HS T s (N 0 36) 49 57 := hyes c55 (by omega)
            have pl2 : N 0 36 < 60 := y55.1.2
            intro M69 e69
            have p69 : M69 0 36 = N 0 36 + 1 := by rw [e69]; exact zup_s _ _ _ _
            refine hK _ ⟨by rw [e69]; exact BIp hBN (by omega) (by omega), fun j9 k9 h9 => by rw [e69, zup_n _ _ (by omega)]; exact FN j9 k9 h9, by omega, fun q => ?_⟩ (by omega)
            rw [eN q, p69]
            constructor
            · intro h
              rcases PK3.mp h with h | h
              · exact h.2
              · exact absurd y55 h.1
            · exact fun h => PK3.mpr (Or.inl ⟨y55, h⟩)
      · have n42 : ¬ HS T s (M39 0 36) 49 57 := hno c42 (by omega)
        rw [p39] at n42
        refine sp_wrong hB39 (fun j9 k9 h9 => F39 j9 k9 (by omega)) (by omega) (fun q hq => ?_) hQ
        rcases PK0.mp hq with h | h | h
        · exact n2 h.1
        · exact n42 h.2.2.1
        · exact h.2.1 y7
  · have y2 : HS T s (M 0 36) 48 57 := hyes c2 (by omega)
    have pl : M 0 36 < 60 := y2.1.2
    intro M76 e76
    have p76 : M76 0 36 = M 0 36 + 1 := by rw [e76]; exact zup_s _ _ _ _
    refine hQ _ _ ⟨⟨by rw [e76]; exact BIp hB (by omega) (by omega), fun j9 k9 h9 => by rw [e76]; exact zup_n _ _ (by omega)⟩, by omega, Or.inl ⟨rfl, by omega, ?_⟩⟩
    rw [p76]
    exact PK0.mpr (Or.inl ⟨y2, rfl⟩)
theorem sp_term {T : Nat → Int} {s : Int} {d : Nat} {R : Int → zM → (Int → zM → Prop) → Prop} (hR : SpR T s 0 d R) : SpR T s 1 d (wR_skipTerm_F R) := by
  intro M Q hB hT hs hp hQ
  unfold wR_skipTerm_F
  refine hR M _ hB hT hs hp (fun z2 M1 h1 => ?_)
  obtain ⟨⟨hB1, F1⟩, p1, h1⟩ := h1
  refine ⟨fun e2 => ?_, fun e2 => ?_⟩
  · rcases h1 with ⟨-, lt, pk⟩ | ⟨h, -⟩
    · refine wL0_of (fun N => BI N ∧ (∀ j9 k9 : Nat, ¬ (j9 = 0 ∧ k9 = 36 ∨ j9 = 0 ∧ k9 = 37) → N j9 k9 = M j9 k9) ∧ (M 0 36 < N 0 36 ∧ N 0 36 ≤ 60) ∧ (∀ q, PK T s 1 d (M 0 36) q ↔ PK T s 4 d (N 0 36) q)) (fun N => (100 - N 0 36).toNat) ⟨hB1, F1, by omega, fun q => ?_⟩ (fun K N hI hK => ?_)
      · constructor
        · intro h
          obtain ⟨r, x, y⟩ := PK1.mp h
          rw [PK_det x pk] at y
          exact y
        · exact fun h => PK1.mpr ⟨_, pk, h⟩
      · obtain ⟨hBN, FN, pN, eN⟩ := hI
        have TN : N 1 = T := (rowF FN 1 (by omega)).trans hT
        have SN : N 0 1 = s := (FN 0 1 (by omega)).trans hs
        refine sR_has hBN (by omega) (by omega) (fun z14 c14 => ?_)
        obtain ⟨-, c14, -⟩ := c14
        rw [TN, SN] at c14
        refine ⟨fun e14 => ?_, fun e14 => ?_⟩
        · have n14 : ¬ HS T s (N 0 36) 126 126 := hno c14 (by omega)
          refine sR_has hBN (by omega) (by omega) (fun z19 c19 => ?_)
          obtain ⟨-, c19, -⟩ := c19
          rw [TN, SN] at c19
          refine ⟨fun e19 => ?_, fun e19 => ?_⟩
          · have n19 : ¬ HS T s (N 0 36) 42 42 := hno c19 (by omega)
            exact hQ _ _ ⟨⟨hBN, FN⟩, by omega, Or.inl ⟨rfl, by omega, (eN _).mpr (PK4.mpr (Or.inr (Or.inr ⟨n14, n19, rfl⟩)))⟩⟩
          · have y19 : HS T s (N 0 36) 42 42 := hyes c19 (by omega)
            have pl : N 0 36 < 60 := y19.1.2
            intro M23 e23
            have p23 : M23 0 36 = N 0 36 + 1 := by rw [e23]; exact zup_s _ _ _ _
            have hB23 : BI M23 := by rw [e23]; exact BIp hBN (by omega) (by omega)
            have F23 : ∀ j9 k9 : Nat, ¬ (j9 = 0 ∧ k9 = 36 ∨ j9 = 0 ∧ k9 = 37) → M23 j9 k9 = M j9 k9 := fun j9 k9 h9 => by rw [e23, zup_n _ _ (by omega)]; exact FN j9 k9 h9
            refine sR_has hB23 (by omega) (by omega) (fun z26 c26 => ?_)
            obtain ⟨-, c26, -⟩ := c26
            rw [(rowF F23 1 (by omega)).trans hT, (F23 0 1 (by omega)).trans hs, p23] at c26
            refine ⟨fun e26 => ?_, fun e26 => ?_⟩
            · have y26 : HS T s (N 0 36 + 1) 50 57 := hyes c26 (by omega)
              have pl2 : N 0 36 + 1 < 60 := y26.1.2
              intro M30 e30
              have p30 : M30 0 36 = N 0 36 + 2 := by rw [e30, zup_s]; omega
              refine hK _ ⟨by rw [e30]; exact BIp hB23 (by omega) (by omega), fun j9 k9 h9 => by rw [e30, zup_n _ _ (by omega)]; exact F23 j9 k9 h9, by omega, fun q => ?_⟩ (by omega)
              rw [eN q, p30]
              constructor
              · intro h
                rcases PK4.mp h with h | h | h
                · exact absurd h.1 n14
                · exact h.2.2.2
                · exact absurd y19 h.2.1
              · exact fun h => PK4.mpr (Or.inr (Or.inl ⟨n14, y19, y26, h⟩))
            · have n26 : ¬ HS T s (N 0 36 + 1) 50 57 := hno c26 (by omega)
              refine sp_wrong hB23 F23 (by omega) (fun q hq => ?_) hQ
              rcases PK4.mp ((eN q).mp hq) with h | h | h
              · exact n14 h.1
              · exact n26 h.2.2.1
              · exact h.2.1 y19
        · have y14 : HS T s (N 0 36) 126 126 := hyes c14 (by omega)
          have pl : N 0 36 < 60 := y14.1.2
          intro M37 e37
          have p37 : M37 0 36 = N 0 36 + 1 := by rw [e37]; exact zup_s _ _ _ _
          refine hK _ ⟨by rw [e37]; exact BIp hBN (by omega) (by omega), fun j9 k9 h9 => by rw [e37, zup_n _ _ (by omega)]; exact FN j9 k9 h9, by omega, fun q => ?_⟩ (by omega)
          rw [eN q, p37]
          constructor
          · intro h
            rcases PK4.mp h with h | h | h
            · exact h.2
            · exact absurd y14 h.1
            · exact absurd y14 h.1
          · exact fun h => PK4.mpr (Or.inl ⟨y14, h⟩)
    · exact absurd h e2
  · rcases h1 with ⟨h, -⟩ | ⟨-, h⟩
    · omega
    · refine hQ _ _ ⟨⟨hB1, F1⟩, p1, Or.inr ⟨rfl, fun q hq => ?_⟩⟩
      obtain ⟨r, x, -⟩ := PK1.mp hq
      exact h r x
theorem sp_row {T : Nat → Int} {s : Int} {d : Nat} {R : Int → zM → (Int → zM → Prop) → Prop} (hR : SpR T s 1 d R) : SpR T s 2 d (wR_skipRow_F R) := by
  intro M Q hB hT hs hp hQ
  unfold wR_skipRow_F
  refine hR M _ hB hT hs hp (fun z2 M1 h1 => ?_)
  obtain ⟨⟨hB1, F1⟩, p1, h1⟩ := h1
  refine ⟨fun e2 => ?_, fun e2 => ?_⟩
  · rcases h1 with ⟨-, lt, pk⟩ | ⟨h, -⟩
    · refine wL0_of (fun N => BI N ∧ (∀ j9 k9 : Nat, ¬ (j9 = 0 ∧ k9 = 36 ∨ j9 = 0 ∧ k9 = 37) → N j9 k9 = M j9 k9) ∧ (M 0 36 < N 0 36 ∧ N 0 36 ≤ 60) ∧ (∀ q, PK T s 2 d (M 0 36) q ↔ PK T s 5 d (N 0 36) q)) (fun N => (100 - N 0 36).toNat) ⟨hB1, F1, by omega, fun q => ?_⟩ (fun K N hI hK => ?_)
      · constructor
        · intro h
          obtain ⟨r, x, y⟩ := PK2.mp h
          rw [PK_det x pk] at y
          exact y
        · exact fun h => PK2.mpr ⟨_, pk, h⟩
      · obtain ⟨hBN, FN, pN, eN⟩ := hI
        have TN : N 1 = T := (rowF FN 1 (by omega)).trans hT
        have SN : N 0 1 = s := (FN 0 1 (by omega)).trans hs
        have at_ : ¬ HS T s (N 0 36) 47 47 → AT T s (N 0 36) → R (d : Int) N (fun z M' => (z ≠ 0 → K M') ∧ (z = 0 → Q 0 M')) := by
          intro n14 ha
          refine hR N _ hBN TN SN (by omega) (fun z M' hz => ?_)
          obtain ⟨⟨hB', F'⟩, p', hz⟩ := hz
          have F2 : ∀ j9 k9 : Nat, ¬ (j9 = 0 ∧ k9 = 36 ∨ j9 = 0 ∧ k9 = 37) → M' j9 k9 = M j9 k9 := fun j9 k9 h9 => (F' j9 k9 h9).trans (FN j9 k9 h9)
          refine ⟨fun ez => ?_, fun ez => ?_⟩
          · rcases hz with ⟨-, lt2, pk2⟩ | ⟨h, -⟩
            · refine hK _ ⟨hB', F2, by omega, fun q => ?_⟩ (by omega)
              rw [eN q]
              constructor
              · intro h
                rcases PK5.mp h with h | ⟨-, -, r, x, y⟩ | h
                · exact absurd h.1 n14
                · rw [PK_det x pk2] at y
                  exact y
                · exact absurd ha h.2.1
              · exact fun h => PK5.mpr (Or.inr (Or.inl ⟨n14, ha, _, pk2, h⟩))
            · exact absurd h ez
          · rcases hz with ⟨h, -⟩ | ⟨-, hz⟩
            · omega
            · refine hQ _ _ ⟨⟨hB', F2⟩, p', Or.inr ⟨rfl, fun q hq => ?_⟩⟩
              rcases PK5.mp ((eN q).mp hq) with h | ⟨-, -, r, x, -⟩ | h
              · exact n14 h.1
              · exact hz r x
              · exact h.2.1 ha
        refine sR_has hBN (by omega) (by omega) (fun z14 c14 => ?_)
        obtain ⟨-, c14, -⟩ := c14
        rw [TN, SN] at c14
        refine ⟨fun e14 => ?_, fun e14 => ?_⟩
        · have n14 : ¬ HS T s (N 0 36) 47 47 := hno c14 (by omega)
          refine sR_has hBN (by omega) (by omega) (fun z19 c19 => ?_)
          obtain ⟨-, c19, -⟩ := c19
          rw [TN, SN] at c19
          refine ⟨fun e19 => at_ n14 (Or.inl (hyes c19 (by omega))), fun e19 => ?_⟩
          have n19 : ¬ HS T s (N 0 36) 48 57 := hno c19 (by omega)
          refine sR_has hBN (by omega) (by omega) (fun z30 c30 => ?_)
          obtain ⟨-, c30, -⟩ := c30
          rw [TN, SN] at c30
          refine ⟨fun e30 => at_ n14 (Or.inr (Or.inl (hyes c30 (by omega)))), fun e30 => ?_⟩
          have n30 : ¬ HS T s (N 0 36) 91 91 := hno c30 (by omega)
          refine sR_has hBN (by omega) (by omega) (fun z41 c41 => ?_)
          obtain ⟨-, c41, -⟩ := c41
          rw [TN, SN] at c41
          refine ⟨fun e41 => ?_, fun e41 => at_ n14 (Or.inr (Or.inr (hyes c41 (by omega))))⟩
          have n41 : ¬ HS T s (N 0 36) 40 40 := hno c41 (by omega)
          refine hQ _ _ ⟨⟨hBN, FN⟩, by omega, Or.inl ⟨rfl, by omega, (eN _).mpr (PK5.mpr (Or.inr (Or.inr ⟨n14, ?_, rfl⟩)))⟩⟩
          rintro (h | h | h)
          · exact n19 h
          · exact n30 h
          · exact n41 h
        · have y14 : HS T s (N 0 36) 47 47 := hyes c14 (by omega)
          have pl : N 0 36 < 60 := y14.1.2
          intro M51 e51
          have p51 : M51 0 36 = N 0 36 + 1 := by rw [e51]; exact zup_s _ _ _ _
          have hB51 : BI M51 := by rw [e51]; exact BIp hBN (by omega) (by omega)
          have F51 : ∀ j9 k9 : Nat, ¬ (j9 = 0 ∧ k9 = 36 ∨ j9 = 0 ∧ k9 = 37) → M51 j9 k9 = M j9 k9 := fun j9 k9 h9 => by rw [e51, zup_n _ _ (by omega)]; exact FN j9 k9 h9
          refine sR_has hB51 (by omega) (by omega) (fun z54 c54 => ?_)
          obtain ⟨-, c54, -⟩ := c54
          rw [(rowF F51 1 (by omega)).trans hT, (F51 0 1 (by omega)).trans hs, p51] at c54
          refine ⟨fun e54 => ?_, fun e54 => ?_⟩
          · have y54 : HS T s (N 0 36 + 1) 49 57 := hyes c54 (by omega)
            have pl2 : N 0 36 + 1 < 60 := y54.1.2
            intro M58 e58
            have p58 : M58 0 36 = N 0 36 + 2 := by rw [e58, zup_s]; omega
            have hB58 : BI M58 := by rw [e58]; exact BIp hB51 (by omega) (by omega)
            have F58 : ∀ j9 k9 : Nat, ¬ (j9 = 0 ∧ k9 = 36 ∨ j9 = 0 ∧ k9 = 37) → M58 j9 k9 = M j9 k9 := fun j9 k9 h9 => by rw [e58, zup_n _ _ (by omega)]; exact F51 j9 k9 h9
            refine hR M58 _ hB58 ((rowF F58 1 (by omega)).trans hT) ((F58 0 1 (by omega)).trans hs) (by omega) (fun z M' hz => ?_)
            obtain ⟨⟨hB', F'⟩, p', hz⟩ := hz
            rw [p58] at hz
            have F2 : ∀ j9 k9 : Nat, ¬ (j9 = 0 ∧ k9 = 36 ∨ j9 = 0 ∧ k9 = 37) → M' j9 k9 = M j9 k9 := fun j9 k9 h9 => (F' j9 k9 h9).trans (F58 j9 k9 h9)
            refine ⟨fun ez => ?_, fun ez => ?_⟩
            · rcases hz with ⟨-, lt2, pk2⟩ | ⟨h, -⟩
              · refine hK _ ⟨hB', F2, by omega, fun q => ?_⟩ (by omega)
                rw [eN q]
                constructor
                · intro h
                  rcases PK5.mp h with ⟨-, -, r, x, y⟩ | h | h
                  · rw [PK_det x pk2] at y
                    exact y
                  · exact absurd y14 h.1
                  · exact absurd y14 h.1
                · exact fun h => PK5.mpr (Or.inl ⟨y14, y54, _, pk2, h⟩)
              · exact absurd h ez
            · rcases hz with ⟨h, -⟩ | ⟨-, hz⟩
              · omega
              · refine hQ _ _ ⟨⟨hB', F2⟩, p', Or.inr ⟨rfl, fun q hq => ?_⟩⟩
                rcases PK5.mp ((eN q).mp hq) with ⟨-, -, r, x, -⟩ | h | h
                · exact hz r x
                · exact h.1 y14
                · exact h.1 y14
          · have n54 : ¬ HS T s (N 0 36 + 1) 49 57 := hno c54 (by omega)
            refine sp_wrong hB51 F51 (by omega) (fun q hq => ?_) hQ
            rcases PK5.mp ((eN q).mp hq) with h | h | h
            · exact n54 h.2.1
            · exact h.1 y14
            · exact h.1 y14
    · exact absurd h e2
  · rcases h1 with ⟨h, -⟩ | ⟨-, h⟩
    · omega
    · refine hQ _ _ ⟨⟨hB1, F1⟩, p1, Or.inr ⟨rfl, fun q hq => ?_⟩⟩
      obtain ⟨r, x, -⟩ := PK2.mp hq
      exact h r x
theorem sp_skip (T : Nat → Int) (s : Int) : ∀ (n d : Nat), d ≤ 5 → 6 ≤ n + d → SpR T s 2 d (wR_skipRow n) := by
  intro n
  induction n with
  | zero => intro d h1 h2; omega
  | succ n ih =>
    intro d h1 h2
    show SpR T s 2 d (wR_skipRow_F (wR_skipTerm_F (wR_skipAtom_F (wR_skipRow n))))
    exact sp_row (sp_term (sp_atom h1 (fun h => ih (d + 1) (by omega) (by omega))))
/-- the end of a term, as it is put together -/
def wR_mtTail (a0 : Int) (Q : Int → zM → Prop) (N : zM) : Prop := wL0 (fun K254 M34 => wR_has 126 126 M34 (fun z43 => pJ0 (fun J276 => (z43 ≠ 0 → J276) ∧ (z43 = 0 → wR_has 42 42 M34 (fun z113 => (z113 = 0 → Q 0 M34) ∧ (z113 ≠ 0 → J276)))) (((0 ≤ (sI a0) ∧ (sI a0) < 6) ∧ wR_has 126 126 M34 (fun z56 => (z56 = 0 → ((0 ≤ (sI ((M34 0 36) + 1)) ∧ (sI ((M34 0 36) + 1)) < 100) ∧ (∀ t61 : Int, t61 = ((M34 1 (sI ((M34 0 36) + 1)).toNat) - 48) → (∀ M63 : zM, M63 = zup M34 0 36 ((M34 0 36) + 2) → ((sI ((M34 26 (sI a0).toNat) * t61)) ≤ 24 → wL1 (fun K413 x66 M67 => ((sI ((M34 26 (sI a0).toNat) * t61)) ≤ (sI x66) → ((0 ≤ (sI a0) ∧ (sI a0) < 6) ∧ (∀ M77 : zM, M77 = zup M67 26 (sI a0).toNat ((M34 26 (sI a0).toNat) * t61) → K254 M77))) ∧ ((sI x66) < (sI ((M34 26 (sI a0).toNat) * t61)) → ((0 ≤ (sI (((24 * a0) + x66) - (M34 26 (sI a0).toNat))) ∧ (sI (((24 * a0) + x66) - (M34 26 (sI a0).toNat))) < 144) ∧ ((0 ≤ (sI ((24 * a0) + x66)) ∧ (sI ((24 * a0) + x66)) < 144) ∧ (∀ M83 : zM, M83 = zup M67 25 (sI ((24 * a0) + x66)).toNat (M67 25 (sI (((24 * a0) + x66) - (M34 26 (sI a0).toNat))).toNat) → K413 (x66 + 1) M83))))) (M34 26 (sI a0).toNat) M63) ∧ (24 < (sI ((M34 26 (sI a0).toNat) * t61)) → Q (-100) M63))))) ∧ (z56 ≠ 0 → (∀ M87 : zM, M87 = zup M34 0 36 ((M34 0 36) + 1) → wL1 (fun K307 x89 M90 => ((sI ((sI (M34 26 (sI a0).toNat)).tdiv 2)) ≤ (sI x89) → K254 M90) ∧ ((sI x89) < (sI ((sI (M34 26 (sI a0).toNat)).tdiv 2)) → ((0 ≤ (sI ((24 * a0) + x89)) ∧ (sI ((24 * a0) + x89)) < 144) ∧ ((0 ≤ (sI ((((24 * a0) + (M34 26 (sI a0).toNat)) - 1) - x89)) ∧ (sI ((((24 * a0) + (M34 26 (sI a0).toNat)) - 1) - x89)) < 144) ∧ ((0 ≤ (sI ((24 * a0) + x89)) ∧ (sI ((24 * a0) + x89)) < 144) ∧ (∀ M104 : zM, M104 = zup M90 25 (sI ((24 * a0) + x89)).toNat (M90 25 (sI ((((24 * a0) + (M34 26 (sI a0).toNat)) - 1) - x89)).toNat) → ((0 ≤ (sI ((((24 * a0) + (M34 26 (sI a0).toNat)) - 1) - x89)) ∧ (sI ((((24 * a0) + (M34 26 (sI a0).toNat)) - 1) - x89)) < 144) ∧ (∀ M107 : zM, M107 = zup M104 25 (sI ((((24 * a0) + (M34 26 (sI a0).toNat)) - 1) - x89)).toNat (M90 25 (sI ((24 * a0) + x89)).toNat) → K307 (x89 + 1) M107)))))))) 0 M87))))))) N
/-- the end of a row, as it is put together -/
def wR_mrTail (R9 : Int → zM → (Int → zM → Prop) → Prop) (a0 : Int) (Q : Int → zM → Prop) (N : zM) : Prop := wL0 (fun K64 M20 => wR_has 47 47 M20 (fun z29 => pJ0 (fun J108 => (z29 ≠ 0 → J108) ∧ (z29 = 0 → wR_has 48 57 M20 (fun z115 => (z115 ≠ 0 → J108) ∧ (z115 = 0 → wR_has 91 91 M20 (fun z120 => (z120 ≠ 0 → J108) ∧ (z120 = 0 → wR_has 40 40 M20 (fun z125 => (z125 = 0 → Q 0 M20) ∧ (z125 ≠ 0 → J108)))))))) (wR_has 47 47 M20 (fun z51 => wJ1 (fun J146 => (z51 = 0 → J146 0 M20) ∧ (z51 ≠ 0 → ((0 ≤ (sI ((M20 0 36) + 1)) ∧ (sI ((M20 0 36) + 1)) < 100) ∧ (∀ t109 : Int, t109 = ((M20 1 (sI ((M20 0 36) + 1)).toNat) - 48) → (∀ M111 : zM, M111 = zup M20 0 36 ((M20 0 36) + 2) → J146 t109 M111))))) (fun (x60 : Int) (M61 : zM) => R9 a0 M61 (fun z65 M64 => (0 ≤ z65 → ((0 ≤ (sI a0) ∧ (sI a0) < 6) ∧ ((sI (M64 24 (sI a0).toNat)) < (sI x60) → Q (-101) M64) ∧ ((sI x60) ≤ (sI (M64 24 (sI a0).toNat)) → ((0 ≤ (sI a0) ∧ (sI a0) < 6) ∧ ((sI x60) ≤ (sI (M64 26 (sI a0).toNat)) → ((0 ≤ (sI a0) ∧ (sI a0) < 6) ∧ ((0 ≤ (sI a0) ∧ (sI a0) < 6) ∧ ((sI (((M64 24 (sI a0).toNat) - x60) + (M64 26 (sI a0).toNat))) ≤ 24 → wL1 (fun K211 x75 M76 => ((0 ≤ (sI a0) ∧ (sI a0) < 6) ∧ ((sI (M76 26 (sI a0).toNat)) ≤ (sI x75) → ((0 ≤ (sI a0) ∧ (sI a0) < 6) ∧ ((0 ≤ (sI a0) ∧ (sI a0) < 6) ∧ (∀ M88 : zM, M88 = zup M76 24 (sI a0).toNat (((M64 24 (sI a0).toNat) - x60) + (M76 26 (sI a0).toNat)) → K64 M88)))) ∧ ((sI x75) < (sI (M76 26 (sI a0).toNat)) → (∀ t92 : Int, t92 = (((24 * a0) + ((M64 24 (sI a0).toNat) - x60)) + x75) → ((0 ≤ (sI ((24 * a0) + x75)) ∧ (sI ((24 * a0) + x75)) < 144) ∧ ((sI x60) ≤ (sI x75) → ((0 ≤ (sI t92) ∧ (sI t92) < 144) ∧ (∀ M97 : zM, M97 = zup M76 23 (sI t92).toNat (orI (M76 25 (sI ((24 * a0) + x75)).toNat) 0) → K211 (x75 + 1) M97))) ∧ ((sI x75) < (sI x60) → ((0 ≤ (sI t92) ∧ (sI t92) < 144) ∧ ((0 ≤ (sI t92) ∧ (sI t92) < 144) ∧ (∀ M103 : zM, M103 = zup M76 23 (sI t92).toNat (orI (M76 25 (sI ((24 * a0) + x75)).toNat) (M76 23 (sI t92).toNat)) → K211 (x75 + 1) M103))))))))) 0 M64) ∧ (24 < (sI (((M64 24 (sI a0).toNat) - x60) + (M64 26 (sI a0).toNat))) → Q (-100) M64)))) ∧ ((sI (M64 26 (sI a0).toNat)) < (sI x60) → Q (-101) M64))))) ∧ (z65 < 0 → Q z65 M64))))))) N
def MPost (q : Int) (M : zM) (z : Int) (M1 : zM) : Prop := (BI M1 ∧ (∀ j9 k9 : Nat, ¬ (j9 = 0 ∧ k9 = 36 ∨ 23 ≤ j9 ∧ j9 ≤ 26) → M1 j9 k9 = M j9 k9)) ∧ (0 ≤ M1 0 36 ∧ M1 0 36 ≤ 60) ∧ -101 ≤ z ∧ z ≤ 0 ∧ (z < 0 ∨ M1 0 36 = q)
def SpM (T : Nat → Int) (s : Int) (k d : Nat) (R : Int → zM → (Int → zM → Prop) → Prop) : Prop := ∀ (M : zM) (Q : Int → zM → Prop) (q : Int), BI M → M 1 = T → M 0 1 = s → (0 ≤ M 0 36 ∧ M 0 36 ≤ 60) → PK T s k d (M 0 36) q → (∀ z M1, MPost q M z M1 → Q z M1) → R (d : Int) M Q
theorem PK_le {T : Nat → Int} {s : Int} : ∀ (n k d : Nat) (p q : Int), SK T s n k d p q → p ≤ q := by
  intro n
  induction n with
  | zero => intro k d p q h; exact h.elim
  | succ n ih =>
    intro k d p q h
    match k, h with
    | 0, h =>
      rcases h with h | ⟨a, b, c, e⟩ | ⟨a, b, c, e, r, x, y⟩
      · omega
      · have := ih _ _ _ _ e
        omega
      · have := ih _ _ _ _ x
        omega
    | 1, ⟨r, x, y⟩ =>
      have := ih _ _ _ _ x
      have := ih _ _ _ _ y
      omega
    | 2, ⟨r, x, y⟩ =>
      have := ih _ _ _ _ x
      have := ih _ _ _ _ y
      omega
    | 3, h =>
      rcases h with ⟨a, b⟩ | h
      · have := ih _ _ _ _ b
        omega
      · omega
    | 4, h =>
      rcases h with ⟨a, b⟩ | ⟨a, b, c, e⟩ | h
      · have := ih _ _ _ _ b
        omega
      · have := ih _ _ _ _ e
        omega
      · omega
    | 5, h =>
      rcases h with ⟨a, b, r, x, y⟩ | ⟨a, b, r, x, y⟩ | h
      · have := ih _ _ _ _ x
        have := ih _ _ _ _ y
        omega
      · have := ih _ _ _ _ x
        have := ih _ _ _ _ y
        omega
      · omega
    | _ + 6, h => exact h.elim
set_option maxHeartbeats 4000000 in
theorem mt_tail {T : Nat → Int} {s : Int} {d : Nat} {M0 M : zM} {Q : Int → zM → Prop} {q : Int} (hd : d ≤ 5) (hB : BI M) (hF : ∀ j9 k9 : Nat, ¬ (j9 = 0 ∧ k9 = 36 ∨ 23 ≤ j9 ∧ j9 ≤ 26) → M j9 k9 = M0 j9 k9) (hT : M0 1 = T) (hs : M0 0 1 = s) (hp : 0 ≤ M 0 36 ∧ M 0 36 ≤ 60) (pk : PK T s 4 d (M 0 36) q) (hQ : ∀ z M1, MPost q M0 z M1 → Q z M1) : wR_mtTail (d : Int) Q M := by
  unfold wR_mtTail
  refine wL0_of (fun N => BI N ∧ (∀ j9 k9 : Nat, ¬ (j9 = 0 ∧ k9 = 36 ∨ 23 ≤ j9 ∧ j9 ≤ 26) → N j9 k9 = M0 j9 k9) ∧ (0 ≤ N 0 36 ∧ N 0 36 ≤ 60) ∧ PK T s 4 d (N 0 36) q) (fun N => (100 - N 0 36).toNat) ⟨hB, hF, hp, pk⟩ (fun K N hI hK => ?_)
  obtain ⟨hBN, FN, pN, pkN⟩ := hI
  have TN : N 1 = T := (rowF FN 1 (by omega)).trans hT
  have SN : N 0 1 = s := (FN 0 1 (by omega)).trans hs
  have sd : sI (d : Int) = d := sIo (by omega) (by omega)
  have dd : ((d : Int)).toNat = d := rfl
  have bz : 0 ≤ N 26 d ∧ N 26 d ≤ 24 := BN.at hBN.1 (rfl : zcd wR 26 = 76) rfl
  have sz : sI (N 26 d) = N 26 d := sIo (by omega) (by omega)
  rw [sd, dd, sz]
  refine sR_has hBN (by omega) (by omega) (fun z43 c43 => ?_)
  obtain ⟨-, c43, -⟩ := c43
  rw [TN, SN] at c43
  refine pJ0_of (HS T s (N 0 36) 126 126 ∨ HS T s (N 0 36) 42 42) (fun hJ => ?_) ⟨fun e43 => Or.inl (hyes c43 (by omega)), fun e43 => ?_⟩
  · refine ⟨by omega, ?_⟩
    refine sR_has hBN (by omega) (by omega) (fun z56 c56 => ?_)
    obtain ⟨-, c56, -⟩ := c56
    rw [TN, SN] at c56
    refine ⟨fun e56 => ?_, fun e56 => ?_⟩
    · have n56 : ¬ HS T s (N 0 36) 126 126 := hno c56 (by omega)
      have y42 : HS T s (N 0 36) 42 42 := hJ.resolve_left n56
      have h4 : HS T s (N 0 36 + 1) 50 57 ∧ PK T s 4 d (N 0 36 + 2) q := by
        rcases PK4.mp pkN with h | h | h
        · exact absurd h.1 n56
        · exact ⟨h.2.2.1, h.2.2.2⟩
        · exact absurd y42 h.2.1
      have pl : N 0 36 + 1 < 60 := h4.1.1.2
      have hv := h4.1.2
      rw [← TN] at hv
      have s3 : sI (N 0 36 + 1) = N 0 36 + 1 := sIo (by omega) (by omega)
      rw [s3]
      refine ⟨by omega, ?_⟩
      intro t61 e61
      have bt : 2 ≤ t61 ∧ t61 ≤ 9 := by omega
      intro M63 e63
      have p63 : M63 0 36 = N 0 36 + 2 := by rw [e63]; exact zup_s _ _ _ _
      have hB63 : BI M63 := by rw [e63]; exact BIp hBN (by omega) (by omega)
      have F63 : ∀ j9 k9 : Nat, ¬ (j9 = 0 ∧ k9 = 36 ∨ 23 ≤ j9 ∧ j9 ≤ 26) → M63 j9 k9 = M0 j9 k9 := fun j9 k9 h9 => by rw [e63]; exact (zup_n _ _ (by omega)).trans (FN j9 k9 h9)
      have mb := mulB 24 9 (N 26 d) t61 bz.1 bz.2 (by omega) (by omega)
      have sm : sI (N 26 d * t61) = N 26 d * t61 := sIo (by omega) (by omega)
      rw [sm]
      have mge : N 26 d ≤ N 26 d * t61 := by
        have h := Int.mul_le_mul_of_nonneg_left (a := 1) (b := t61) (c := N 26 d) (by omega) bz.1
        omega
      refine ⟨fun c => ?_, fun c => hQ _ _ ⟨⟨hB63, F63⟩, by omega, by omega, by omega, Or.inl (by omega)⟩⟩
      refine wL1_of (fun x P => BI P ∧ (∀ j9 k9 : Nat, ¬ (j9 = 0 ∧ k9 = 36 ∨ 23 ≤ j9 ∧ j9 ≤ 26) → P j9 k9 = M0 j9 k9) ∧ P 0 36 = N 0 36 + 2 ∧ (N 26 d ≤ x ∧ x ≤ N 26 d * t61)) (fun x _ => (1000 - x).toNat) ⟨hB63, F63, p63, by omega⟩ (fun K2 x P hI2 hK2 => ?_)
      obtain ⟨hBP, FP, pP, iP⟩ := hI2
      have sx : sI x = x := sIo (by omega) (by omega)
      rw [sx]
      refine ⟨fun c2 => ⟨by omega, ?_⟩, fun c2 => ?_⟩
      · intro M77 e77
        refine hK _ ⟨by rw [e77]; exact BI.up hBP (rfl : zcd wR 26 = 76) rfl (by omega) (by omega) (by decide), fun j9 k9 h9 => by rw [e77]; exact (zup_n _ _ (by omega)).trans (FP j9 k9 h9), ?_, ?_⟩ ?_
        · rw [e77, zup_n _ _ (by omega), pP]
          omega
        · rw [e77, zup_n _ _ (by omega), pP]
          exact h4.2
        · rw [e77, zup_n _ _ (by omega), pP]
          omega
      · have s5 : sI ((24 * (d : Int) + x) - N 26 d) = (24 * (d : Int) + x) - N 26 d := sIo (by omega) (by omega)
        have s6 : sI (24 * (d : Int) + x) = 24 * (d : Int) + x := sIo (by omega) (by omega)
        rw [s5, s6]
        refine ⟨by omega, by omega, ?_⟩
        intro M83 e83
        have br := BN.r32 hBP.1 25 ((24 * (d : Int) + x) - N 26 d).toNat
        exact hK2 _ _ ⟨by rw [e83]; exact BI.up hBP (rfl : zcd wR 25 = 75) rfl br.1 br.2 (by decide), fun j9 k9 h9 => by rw [e83]; exact (zup_n _ _ (by omega)).trans (FP j9 k9 h9), by rw [e83, zup_n _ _ (by omega)]; exact pP, by omega⟩ (by omega)
    · have y56 : HS T s (N 0 36) 126 126 := hyes c56 (by omega)
      have pl : N 0 36 < 60 := y56.1.2
      have pk2 : PK T s 4 d (N 0 36 + 1) q := by
        rcases PK4.mp pkN with h | h | h
        · exact h.2
        · exact absurd y56 h.1
        · exact absurd y56 h.1
      intro M87 e87
      have p87 : M87 0 36 = N 0 36 + 1 := by rw [e87]; exact zup_s _ _ _ _
      have hB87 : BI M87 := by rw [e87]; exact BIp hBN (by omega) (by omega)
      have F87 : ∀ j9 k9 : Nat, ¬ (j9 = 0 ∧ k9 = 36 ∨ 23 ≤ j9 ∧ j9 ≤ 26) → M87 j9 k9 = M0 j9 k9 := fun j9 k9 h9 => by rw [e87]; exact (zup_n _ _ (by omega)).trans (FN j9 k9 h9)
      have hh : (N 26 d).tdiv 2 = N 26 d / 2 := Int.tdiv_eq_ediv_of_nonneg bz.1
      have sh : sI ((N 26 d).tdiv 2) = N 26 d / 2 := by rw [hh]; exact sIo (by omega) (by omega)
      rw [sh]
      refine wL1_of (fun x P => BI P ∧ (∀ j9 k9 : Nat, ¬ (j9 = 0 ∧ k9 = 36 ∨ 23 ≤ j9 ∧ j9 ≤ 26) → P j9 k9 = M0 j9 k9) ∧ P 0 36 = N 0 36 + 1 ∧ (0 ≤ x ∧ x ≤ 24)) (fun x _ => (1000 - x).toNat) ⟨hB87, F87, p87, by omega⟩ (fun K2 x P hI2 hK2 => ?_)
      obtain ⟨hBP, FP, pP, iP⟩ := hI2
      have sx : sI x = x := sIo (by omega) (by omega)
      rw [sx]
      refine ⟨fun c2 => hK _ ⟨hBP, FP, by omega, by rw [pP]; exact pk2⟩ (by omega), fun c2 => ?_⟩
      have s5 : sI (((24 * (d : Int) + N 26 d) - 1) - x) = ((24 * (d : Int) + N 26 d) - 1) - x := sIo (by omega) (by omega)
      have s6 : sI (24 * (d : Int) + x) = 24 * (d : Int) + x := sIo (by omega) (by omega)
      rw [s5, s6]
      refine ⟨by omega, by omega, by omega, ?_⟩
      intro M104 e104
      have br := BN.r32 hBP.1 25 (((24 * (d : Int) + N 26 d) - 1) - x).toNat
      have br2 := BN.r32 hBP.1 25 (24 * (d : Int) + x).toNat
      have hB104 : BI M104 := by rw [e104]; exact BI.up hBP (rfl : zcd wR 25 = 75) rfl br.1 br.2 (by decide)
      refine ⟨by omega, ?_⟩
      intro M107 e107
      exact hK2 _ _ ⟨by rw [e107]; exact BI.up hB104 (rfl : zcd wR 25 = 75) rfl br2.1 br2.2 (by decide), fun j9 k9 h9 => by rw [e107, e104]; exact (zup_n _ _ (by omega)).trans ((zup_n _ _ (by omega)).trans (FP j9 k9 h9)), by rw [e107, e104, zup_n _ _ (by omega), zup_n _ _ (by omega)]; exact pP, by omega⟩ (by omega)
  · have n43 : ¬ HS T s (N 0 36) 126 126 := hno c43 (by omega)
    refine sR_has hBN (by omega) (by omega) (fun z113 c113 => ?_)
    obtain ⟨-, c113, -⟩ := c113
    rw [TN, SN] at c113
    refine ⟨fun e113 => ?_, fun e113 => Or.inr (hyes c113 (by omega))⟩
    have n113 : ¬ HS T s (N 0 36) 42 42 := hno c113 (by omega)
    refine hQ _ _ ⟨⟨hBN, FN⟩, pN, by omega, by omega, Or.inr ?_⟩
    rcases PK4.mp pkN with h | h | h
    · exact absurd h.1 n43
    · exact absurd h.2.1 n113
    · exact h.2.2.symm
theorem PK_lt {T : Nat → Int} {s : Int} {d : Nat} {p q : Int} (h : PK T s 1 d p q) : p < q := by
  obtain ⟨r, x, y⟩ := PK1.mp h
  obtain ⟨n, y⟩ := y
  have h1 := PK_le n 4 d r q y
  rcases PK0.mp x with h | ⟨-, -, -, m, h⟩ | ⟨-, -, -, -, r2, ⟨m, h⟩, -, e⟩
  · omega
  · have := PK_le m 3 d (p + 1) r h
    omega
  · have := PK_le m 2 (d + 1) (p + 1) r2 h
    omega
set_option maxHeartbeats 4000000 in
theorem mk_term {T : Nat → Int} {s : Int} {d : Nat} {R : Int → zM → (Int → zM → Prop) → Prop} (hd : d ≤ 5) (hR : d < 5 → SpM T s 2 (d + 1) R) : SpM T s 1 d (wR_makeTerm_F R) := by
  intro M Q q hB hT hs hp pk hQ
  obtain ⟨r, pk0, pk4⟩ := PK1.mp pk
  unfold wR_makeTerm_F
  have sd : sI (d : Int) = d := sIo (by omega) (by omega)
  have dd : ((d : Int)).toNat = d := rfl
  have F0 : ∀ j9 k9 : Nat, ¬ (j9 = 0 ∧ k9 = 36 ∨ 23 ≤ j9 ∧ j9 ≤ 26) → M j9 k9 = M j9 k9 := fun _ _ _ => rfl
  have s24 : sI (24 * (d : Int)) = 24 * (d : Int) := sIo (by omega) (by omega)
  refine sR_has hB (by omega) (by omega) (fun z2 c2 => ?_)
  obtain ⟨-, c2, -⟩ := c2
  rw [hT, hs] at c2
  refine ⟨fun e2 => ?_, fun e2 => ?_⟩
  · have n2 : ¬ HS T s (M 0 36) 48 57 := hno c2 (by omega)
    refine sR_has hB (by omega) (by omega) (fun z7 c7 => ?_)
    obtain ⟨-, c7, -⟩ := c7
    rw [hT, hs] at c7
    refine ⟨fun e7 => ?_, fun e7 => ?_⟩
    · have n7 : ¬ HS T s (M 0 36) 91 91 := hno c7 (by omega)
      have h3 : HS T s (M 0 36) 40 40 ∧ d ≠ 5 ∧ ∃ r2, PK T s 2 (d + 1) (M 0 36 + 1) r2 ∧ HS T s r2 41 41 ∧ r = r2 + 1 := by
        rcases PK0.mp pk0 with h | h | h
        · exact absurd h.1 n2
        · exact absurd h.2.1 n7
        · exact h.2.2
      obtain ⟨y12, hd5, r2, pk2, y41, er⟩ := h3
      have pl : M 0 36 < 60 := y12.1.2
      have pl2 : r2 < 60 := y41.1.2
      intro M11 e11
      have p11 : M11 0 36 = M 0 36 + 1 := by rw [e11]; exact zup_s _ _ _ _
      have hB11 : BI M11 := by rw [e11]; exact BIp hB (by omega) (by omega)
      have F11 : ∀ j9 k9 : Nat, ¬ (j9 = 0 ∧ k9 = 36 ∨ 23 ≤ j9 ∧ j9 ≤ 26) → M11 j9 k9 = M j9 k9 := fun j9 k9 h9 => by rw [e11]; exact zup_n _ _ (by omega)
      rw [show ((d : Int) + 1) = ((d + 1 : Nat) : Int) from rfl]
      refine hR (by omega) M11 _ r2 hB11 ((rowF F11 1 (by omega)).trans hT) ((F11 0 1 (by omega)).trans hs) (by omega) (by rw [p11]; exact pk2) (fun z14 M13 h14 => ?_)
      obtain ⟨⟨hB13, F13⟩, p13, z1, z2', h14⟩ := h14
      have G13 : ∀ j9 k9 : Nat, ¬ (j9 = 0 ∧ k9 = 36 ∨ 23 ≤ j9 ∧ j9 ≤ 26) → M13 j9 k9 = M j9 k9 := fun j9 k9 h9 => (F13 j9 k9 h9).trans (F11 j9 k9 h9)
      refine ⟨fun e14 => ?_, fun e14 => hQ _ _ ⟨⟨hB13, G13⟩, p13, z1, z2', Or.inl e14⟩⟩
      have q13 : M13 0 36 = r2 := h14.resolve_left (by omega)
      intro M17 e17
      have p17 : M17 0 36 = r := by rw [e17, zup_s]; omega
      have hB17 : BI M17 := by rw [e17]; exact BIp hB13 (by omega) (by omega)
      have F17 : ∀ j9 k9 : Nat, ¬ (j9 = 0 ∧ k9 = 36 ∨ 23 ≤ j9 ∧ j9 ≤ 26) → M17 j9 k9 = M j9 k9 := fun j9 k9 h9 => by rw [e17]; exact (zup_n _ _ (by omega)).trans (G13 j9 k9 h9)
      have s1 : sI ((d + 1 : Nat) : Int) = ((d + 1 : Nat) : Int) := sIo (by omega) (by omega)
      have d1 : (((d + 1 : Nat) : Int)).toNat = d + 1 := rfl
      rw [s1, sd, d1, dd]
      refine ⟨by omega, by omega, ?_⟩
      intro M21 e21
      have bz : 0 ≤ M17 24 (d + 1) ∧ M17 24 (d + 1) ≤ 24 := BN.at hB17.1 (rfl : zcd wR 24 = 74) rfl
      refine wL1_of (fun x P => BI P ∧ (∀ j9 k9 : Nat, ¬ (j9 = 0 ∧ k9 = 36 ∨ 23 ≤ j9 ∧ j9 ≤ 26) → P j9 k9 = M j9 k9) ∧ P 0 36 = r ∧ (0 ≤ x ∧ x ≤ 24)) (fun x _ => (1000 - x).toNat) ⟨by rw [e21]; exact BI.up hB17 (rfl : zcd wR 26 = 76) rfl bz.1 bz.2 (by decide), fun j9 k9 h9 => by rw [e21]; exact (zup_n _ _ (by omega)).trans (F17 j9 k9 h9), by rw [e21, zup_n _ _ (by omega)]; exact p17, by omega⟩ (fun K2 x P hI2 hK2 => ?_)
      obtain ⟨hBP, FP, pP, iP⟩ := hI2
      have sx : sI x = x := sIo (by omega) (by omega)
      have bz2 : 0 ≤ P 26 d ∧ P 26 d ≤ 24 := BN.at hBP.1 (rfl : zcd wR 26 = 76) rfl
      have sz2 : sI (P 26 d) = P 26 d := sIo (by omega) (by omega)
      rw [sx, sz2]
      refine ⟨by omega, fun c => ?_, fun c => ?_⟩
      · have h := mt_tail hd hBP FP hT hs (by omega) (by rw [pP]; exact pk4) hQ
        unfold wR_mtTail at h
        rw [sd, dd] at h
        exact h
      · have s5 : sI ((24 * (d : Int) + 24) + x) = (24 * (d : Int) + 24) + x := sIo (by omega) (by omega)
        have s6 : sI (24 * (d : Int) + x) = 24 * (d : Int) + x := sIo (by omega) (by omega)
        rw [s5, s6]
        refine ⟨by omega, by omega, ?_⟩
        intro M119 e119
        have br := BN.r32 hBP.1 23 ((24 * (d : Int) + 24) + x).toNat
        exact hK2 _ _ ⟨by rw [e119]; exact BI.up hBP (rfl : zcd wR 25 = 75) rfl br.1 br.2 (by decide), fun j9 k9 h9 => by rw [e119]; exact (zup_n _ _ (by omega)).trans (FP j9 k9 h9), by rw [e119, zup_n _ _ (by omega)]; exact pP, by omega⟩ (by omega)
    · have y7 : HS T s (M 0 36) 91 91 := hyes c7 (by omega)
      have pl : M 0 36 < 60 := y7.1.2
      have pk3 : PK T s 3 d (M 0 36 + 1) r := by
        rcases PK0.mp pk0 with h | h | h
        · exact absurd h.1 n2
        · exact h.2.2.2
        · exact absurd y7 h.2.1
      intro M123 e123
      have p123 : M123 0 36 = M 0 36 + 1 := by rw [e123]; exact zup_s _ _ _ _
      refine wL1_of (fun x P => BI P ∧ (∀ j9 k9 : Nat, ¬ (j9 = 0 ∧ k9 = 36 ∨ 23 ≤ j9 ∧ j9 ≤ 26) → P j9 k9 = M j9 k9) ∧ (0 ≤ P 0 36 ∧ P 0 36 ≤ 60) ∧ R32 x ∧ PK T s 3 d (P 0 36) r) (fun _ P => (100 - P 0 36).toNat) ⟨by rw [e123]; exact BIp hB (by omega) (by omega), fun j9 k9 h9 => by rw [e123]; exact zup_n _ _ (by omega), by omega, ⟨by omega, by omega⟩, by rw [p123]; exact pk3⟩ (fun K2 x P hI2 hK2 => ?_)
      obtain ⟨hBP, FP, pP, rx, pkP⟩ := hI2
      have TP : P 1 = T := (rowF FP 1 (by omega)).trans hT
      have SP : P 0 1 = s := (FP 0 1 (by omega)).trans hs
      have sp36 : sI (P 0 36) = P 0 36 := sIo (by omega) (by omega)
      refine sR_has hBP (by omega) (by omega) (fun z135 c135 => ?_)
      obtain ⟨-, c135, -⟩ := c135
      rw [TP, SP] at c135
      rw [sd, dd, sp36, s24]
      refine ⟨fun e135 => ?_, fun e135 => ?_⟩
      · have n135 : ¬ HS T s (P 0 36) 49 57 := hno c135 (by omega)
        have h5 : HS T s (P 0 36) 93 93 ∧ r = P 0 36 + 1 := by
          rcases PK3.mp pkP with h | h
          · exact absurd h.1 n135
          · exact h.2
        have pl3 : P 0 36 < 60 := h5.1.1.2
        intro M139 e139
        have hB139 : BI M139 := by rw [e139]; exact BIp hBP (by omega) (by omega)
        refine ⟨by omega, ?_⟩
        intro M142 e142
        have hB142 : BI M142 := by rw [e142]; exact BI.up hB139 (rfl : zcd wR 25 = 75) rfl rx.1 rx.2 (by decide)
        refine ⟨by omega, ?_⟩
        intro M145 e145
        have p145 : M145 0 36 = r := by rw [e145, zup_n _ _ (by omega), e142, zup_n _ _ (by omega), e139, zup_s]; omega
        have h := mt_tail (M := M145) hd (by rw [e145]; exact BI.up hB142 (rfl : zcd wR 26 = 76) rfl (by omega) (by omega) (by decide)) (fun j9 k9 h9 => by rw [e145, e142, e139]; exact (zup_n _ _ (by omega)).trans ((zup_n _ _ (by omega)).trans ((zup_n _ _ (by omega)).trans (FP j9 k9 h9)))) hT hs (by omega) (by rw [p145]; exact pk4) hQ
        unfold wR_mtTail at h
        rw [sd, dd] at h
        exact h
      · have y135 : HS T s (P 0 36) 49 57 := hyes c135 (by omega)
        have pl3 : P 0 36 < 60 := y135.1.2
        refine ⟨by omega, ?_⟩
        intro t231 e231 M233 e233
        have p233 : M233 0 36 = P 0 36 + 1 := by rw [e233]; exact zup_s _ _ _ _
        refine hK2 _ _ ⟨by rw [e233]; exact BIp hBP (by omega) (by omega), fun j9 k9 h9 => by rw [e233]; exact (zup_n _ _ (by omega)).trans (FP j9 k9 h9), by omega, by rw [e231]; exact orI_R _ _, ?_⟩ (by omega)
        rw [p233]
        rcases PK3.mp pkP with h | h
        · exact h.2
        · exact absurd y135 h.1
  · have y2 : HS T s (M 0 36) 48 57 := hyes c2 (by omega)
    have pl : M 0 36 < 60 := y2.1.2
    have er : r = M 0 36 + 1 := by
      rcases PK0.mp pk0 with h | h | h
      · exact h.2
      · exact absurd y2 h.1
      · exact absurd y2 h.1
    have s36 : sI (M 0 36) = M 0 36 := sIo (by omega) (by omega)
    rw [sd, dd, s36, s24]
    refine ⟨by omega, ?_⟩
    refine pJ1_of (fun x => R32 x) (fun x rx => ?_) ⟨fun _ => ⟨by omega, shlI_R _ _⟩, fun _ => ⟨by omega, by omega⟩⟩
    refine ⟨by omega, ?_⟩
    intro M244 e244
    have hB244 : BI M244 := by rw [e244]; exact BI.up hB (rfl : zcd wR 25 = 75) rfl rx.1 rx.2 (by decide)
    refine ⟨by omega, ?_⟩
    intro M247 e247
    have hB247 : BI M247 := by rw [e247]; exact BI.up hB244 (rfl : zcd wR 26 = 76) rfl (by omega) (by omega) (by decide)
    have p247 : M247 0 36 = M 0 36 := by rw [e247, zup_n _ _ (by omega), e244, zup_n _ _ (by omega)]
    intro M249 e249
    have p249 : M249 0 36 = r := by rw [e249, zup_s]; omega
    have h := mt_tail (M := M249) hd (by rw [e249]; exact BIp hB247 (by omega) (by omega)) (fun j9 k9 h9 => by rw [e249, e247, e244]; exact (zup_n _ _ (by omega)).trans ((zup_n _ _ (by omega)).trans (zup_n _ _ (by omega)))) hT hs (by omega) (by rw [p249]; exact pk4) hQ
    unfold wR_mtTail at h
    rw [sd, dd] at h
    exact h
set_option maxHeartbeats 4000000 in
theorem mr_tail {T : Nat → Int} {s : Int} {d : Nat} {R : Int → zM → (Int → zM → Prop) → Prop} {M0 M : zM} {Q : Int → zM → Prop} {q : Int} (hd : d ≤ 5) (hR : SpM T s 1 d R) (hB : BI M) (hF : ∀ j9 k9 : Nat, ¬ (j9 = 0 ∧ k9 = 36 ∨ 23 ≤ j9 ∧ j9 ≤ 26) → M j9 k9 = M0 j9 k9) (hT : M0 1 = T) (hs : M0 0 1 = s) (hp : 0 ≤ M 0 36 ∧ M 0 36 ≤ 60) (pk : PK T s 5 d (M 0 36) q) (hQ : ∀ z M1, MPost q M0 z M1 → Q z M1) : wR_mrTail R (d : Int) Q M := by
  unfold wR_mrTail
  refine wL0_of (fun N => BI N ∧ (∀ j9 k9 : Nat, ¬ (j9 = 0 ∧ k9 = 36 ∨ 23 ≤ j9 ∧ j9 ≤ 26) → N j9 k9 = M0 j9 k9) ∧ (0 ≤ N 0 36 ∧ N 0 36 ≤ 60) ∧ PK T s 5 d (N 0 36) q) (fun N => (100 - N 0 36).toNat) ⟨hB, hF, hp, pk⟩ (fun K N hI hK => ?_)
  obtain ⟨hBN, FN, pN, pkN⟩ := hI
  have TN : N 1 = T := (rowF FN 1 (by omega)).trans hT
  have SN : N 0 1 = s := (FN 0 1 (by omega)).trans hs
  have sd : sI (d : Int) = d := sIo (by omega) (by omega)
  have dd : ((d : Int)).toNat = d := rfl
  rw [sd, dd]
  refine sR_has hBN (by omega) (by omega) (fun z29 c29 => ?_)
  obtain ⟨-, c29, -⟩ := c29
  rw [TN, SN] at c29
  refine pJ0_of (HS T s (N 0 36) 47 47 ∨ AT T s (N 0 36)) (fun hJ => ?_) ⟨fun e29 => Or.inl (hyes c29 (by omega)), fun e29 => ?_⟩
  · refine sR_has hBN (by omega) (by omega) (fun z51 c51 => ?_)
    obtain ⟨-, c51, -⟩ := c51
    rw [TN, SN] at c51
    refine wJ1_of (fun x P => (0 ≤ x ∧ x ≤ 9) ∧ BI P ∧ (∀ j9 k9 : Nat, ¬ (j9 = 0 ∧ k9 = 36 ∨ 23 ≤ j9 ∧ j9 ≤ 26) → P j9 k9 = M0 j9 k9) ∧ (N 0 36 ≤ P 0 36 ∧ P 0 36 ≤ 60) ∧ ∃ r, PK T s 1 d (P 0 36) r ∧ PK T s 5 d r q) (fun x P hI2 => ?_) ⟨fun e51 => ?_, fun e51 => ?_⟩
    · obtain ⟨ix, hBP, FP, pP, r, pk1, pk5⟩ := hI2
      have lt := PK_lt pk1
      have sx : sI x = x := sIo (by omega) (by omega)
      refine hR P _ r hBP ((rowF FP 1 (by omega)).trans hT) ((FP 0 1 (by omega)).trans hs) (by omega) pk1 (fun z65 M64 h65 => ?_)
      obtain ⟨⟨hB64, F64⟩, p64, z1, z2', h65⟩ := h65
      have G64 : ∀ j9 k9 : Nat, ¬ (j9 = 0 ∧ k9 = 36 ∨ 23 ≤ j9 ∧ j9 ≤ 26) → M64 j9 k9 = M0 j9 k9 := fun j9 k9 h9 => (F64 j9 k9 h9).trans (FP j9 k9 h9)
      refine ⟨fun e65 => ?_, fun e65 => hQ _ _ ⟨⟨hB64, G64⟩, p64, z1, z2', Or.inl e65⟩⟩
      have q64 : M64 0 36 = r := h65.resolve_left (by omega)
      have b24 : 0 ≤ M64 24 d ∧ M64 24 d ≤ 24 := BN.at hB64.1 (rfl : zcd wR 24 = 74) rfl
      have b26 : 0 ≤ M64 26 d ∧ M64 26 d ≤ 24 := BN.at hB64.1 (rfl : zcd wR 26 = 76) rfl
      have s24 : sI (M64 24 d) = M64 24 d := sIo (by omega) (by omega)
      have s26 : sI (M64 26 d) = M64 26 d := sIo (by omega) (by omega)
      have s50 : sI ((M64 24 d - x) + M64 26 d) = (M64 24 d - x) + M64 26 d := sIo (by omega) (by omega)
      rw [sx, s24, s26, s50]
      refine ⟨by omega, fun c => hQ _ _ ⟨⟨hB64, G64⟩, p64, by omega, by omega, Or.inl (by omega)⟩, fun c => ⟨by omega, fun c2 => ⟨by omega, by omega, fun c3 => ?_, fun c3 => hQ _ _ ⟨⟨hB64, G64⟩, p64, by omega, by omega, Or.inl (by omega)⟩⟩, fun c2 => hQ _ _ ⟨⟨hB64, G64⟩, p64, by omega, by omega, Or.inl (by omega)⟩⟩⟩
      refine wL1_of (fun y P2 => BI P2 ∧ (∀ j9 k9 : Nat, ¬ (j9 = 23) → P2 j9 k9 = M64 j9 k9) ∧ (0 ≤ y ∧ y ≤ 24)) (fun y _ => (1000 - y).toNat) ⟨hB64, fun _ _ _ => rfl, by omega⟩ (fun K2 y P2 hI3 hK2 => ?_)
      obtain ⟨hB2, F2, iy⟩ := hI3
      have sy : sI y = y := sIo (by omega) (by omega)
      have e26 : P2 26 d = M64 26 d := F2 26 d (by omega)
      rw [sy, e26, s26]
      refine ⟨by omega, fun c4 => ⟨by omega, by omega, ?_⟩, fun c4 => ?_⟩
      · intro M88 e88
        have p88 : M88 0 36 = r := by rw [e88, zup_n _ _ (by omega), F2 0 36 (by omega)]; exact q64
        refine hK _ ⟨by rw [e88]; exact BI.up hB2 (rfl : zcd wR 24 = 74) rfl (by omega) (by omega) (by decide), fun j9 k9 h9 => by rw [e88]; exact (zup_n _ _ (by omega)).trans ((F2 j9 k9 (by omega)).trans (G64 j9 k9 h9)), by omega, by rw [p88]; exact pk5⟩ (by omega)
      · intro t92 e92
        have s6 : sI (24 * (d : Int) + y) = 24 * (d : Int) + y := sIo (by omega) (by omega)
        have s7 : sI t92 = t92 := sIo (by omega) (by omega)
        rw [s6, s7]
        have o1 := orI_R (P2 25 (24 * (d : Int) + y).toNat) 0
        have o2 := orI_R (P2 25 (24 * (d : Int) + y).toNat) (P2 23 t92.toNat)
        refine ⟨by omega, fun c5 => ⟨by omega, ?_⟩, fun c5 => ⟨by omega, by omega, ?_⟩⟩
        · intro M97 e97
          exact hK2 _ _ ⟨by rw [e97]; exact BI.up hB2 (rfl : zcd wR 23 = 73) rfl o1.1 o1.2 (by decide), fun j9 k9 h9 => by rw [e97]; exact (zup_n _ _ (by omega)).trans (F2 j9 k9 h9), by omega⟩ (by omega)
        · intro M103 e103
          exact hK2 _ _ ⟨by rw [e103]; exact BI.up hB2 (rfl : zcd wR 23 = 73) rfl o2.1 o2.2 (by decide), fun j9 k9 h9 => by rw [e103]; exact (zup_n _ _ (by omega)).trans (F2 j9 k9 h9), by omega⟩ (by omega)
    · have n51 : ¬ HS T s (N 0 36) 47 47 := hno c51 (by omega)
      refine ⟨by omega, hBN, FN, by omega, ?_⟩
      rcases PK5.mp pkN with h | h | h
      · exact absurd h.1 n51
      · exact h.2.2
      · rcases hJ with h2 | h2
        · exact absurd h2 n51
        · exact absurd h2 h.2.1
    · have y51 : HS T s (N 0 36) 47 47 := hyes c51 (by omega)
      have h4 : HS T s (N 0 36 + 1) 49 57 ∧ ∃ r, PK T s 1 d (N 0 36 + 2) r ∧ PK T s 5 d r q := by
        rcases PK5.mp pkN with h | h | h
        · exact h.2
        · exact absurd y51 h.1
        · exact absurd y51 h.1
      have pl : N 0 36 + 1 < 60 := h4.1.1.2
      have hv := h4.1.2
      rw [← TN] at hv
      have s3 : sI (N 0 36 + 1) = N 0 36 + 1 := sIo (by omega) (by omega)
      rw [s3]
      refine ⟨by omega, ?_⟩
      intro t109 e109 M111 e111
      have p111 : M111 0 36 = N 0 36 + 2 := by rw [e111]; exact zup_s _ _ _ _
      exact ⟨by omega, by rw [e111]; exact BIp hBN (by omega) (by omega), fun j9 k9 h9 => by rw [e111]; exact (zup_n _ _ (by omega)).trans (FN j9 k9 h9), by omega, by rw [p111]; exact h4.2⟩
  · have n29 : ¬ HS T s (N 0 36) 47 47 := hno c29 (by omega)
    refine sR_has hBN (by omega) (by omega) (fun z115 c115 => ?_)
    obtain ⟨-, c115, -⟩ := c115
    rw [TN, SN] at c115
    refine ⟨fun e => Or.inr (Or.inl (hyes c115 (by omega))), fun e115 => ?_⟩
    have n115 : ¬ HS T s (N 0 36) 48 57 := hno c115 (by omega)
    refine sR_has hBN (by omega) (by omega) (fun z120 c120 => ?_)
    obtain ⟨-, c120, -⟩ := c120
    rw [TN, SN] at c120
    refine ⟨fun e => Or.inr (Or.inr (Or.inl (hyes c120 (by omega)))), fun e120 => ?_⟩
    have n120 : ¬ HS T s (N 0 36) 91 91 := hno c120 (by omega)
    refine sR_has hBN (by omega) (by omega) (fun z125 c125 => ?_)
    obtain ⟨-, c125, -⟩ := c125
    rw [TN, SN] at c125
    refine ⟨fun e125 => ?_, fun e => Or.inr (Or.inr (Or.inr (hyes c125 (by omega))))⟩
    have n125 : ¬ HS T s (N 0 36) 40 40 := hno c125 (by omega)
    refine hQ _ _ ⟨⟨hBN, FN⟩, pN, by omega, by omega, Or.inr ?_⟩
    rcases PK5.mp pkN with h | h | h
    · exact absurd h.1 n29
    · rcases h.2.1 with h | h | h
      · exact absurd h n115
      · exact absurd h n120
      · exact absurd h n125
    · exact h.2.2.symm
set_option maxHeartbeats 4000000 in
theorem mk_row {T : Nat → Int} {s : Int} {d : Nat} {R : Int → zM → (Int → zM → Prop) → Prop} (hd : d ≤ 5) (hR : SpM T s 1 d R) : SpM T s 2 d (wR_makeRow_F R) := by
  intro M Q q hB hT hs hp pk hQ
  obtain ⟨r, pk1, pk5⟩ := PK2.mp pk
  unfold wR_makeRow_F
  have sd : sI (d : Int) = d := sIo (by omega) (by omega)
  have dd : ((d : Int)).toNat = d := rfl
  refine hR M _ r hB hT hs hp pk1 (fun z2 M1 h2 => ?_)
  obtain ⟨⟨hB1, F1⟩, p1, z1, z2', h2⟩ := h2
  refine ⟨fun e2 => ?_, fun e2 => hQ _ _ ⟨⟨hB1, F1⟩, p1, z1, z2', Or.inl e2⟩⟩
  have q1 : M1 0 36 = r := h2.resolve_left (by omega)
  have b26 : 0 ≤ M1 26 d ∧ M1 26 d ≤ 24 := BN.at hB1.1 (rfl : zcd wR 26 = 76) rfl
  rw [sd, dd]
  refine ⟨by omega, by omega, ?_⟩
  intro M7 e7
  refine wL1_of (fun x P => BI P ∧ (∀ j9 k9 : Nat, ¬ (j9 = 0 ∧ k9 = 36 ∨ 23 ≤ j9 ∧ j9 ≤ 26) → P j9 k9 = M j9 k9) ∧ P 0 36 = r ∧ (0 ≤ x ∧ x ≤ 24)) (fun x _ => (1000 - x).toNat) ⟨by rw [e7]; exact BI.up hB1 (rfl : zcd wR 24 = 74) rfl b26.1 b26.2 (by decide), fun j9 k9 h9 => by rw [e7]; exact (zup_n _ _ (by omega)).trans (F1 j9 k9 h9), by rw [e7, zup_n _ _ (by omega)]; exact q1, by omega⟩ (fun K2 x P hI2 hK2 => ?_)
  obtain ⟨hBP, FP, pP, iP⟩ := hI2
  have sx : sI x = x := sIo (by omega) (by omega)
  have bz2 : 0 ≤ P 26 d ∧ P 26 d ≤ 24 := BN.at hBP.1 (rfl : zcd wR 26 = 76) rfl
  have sz2 : sI (P 26 d) = P 26 d := sIo (by omega) (by omega)
  have s6 : sI (24 * (d : Int) + x) = 24 * (d : Int) + x := sIo (by omega) (by omega)
  rw [sx, sz2]
  refine ⟨by omega, fun c => ?_, fun c => ?_⟩
  · have h := mr_tail hd hR hBP FP hT hs (by omega) (by rw [pP]; exact pk5) hQ
    unfold wR_mrTail at h
    rw [sd, dd] at h
    exact h
  · rw [s6]
    refine ⟨by omega, by omega, ?_⟩
    intro M131 e131
    have br := BN.r32 hBP.1 25 (24 * (d : Int) + x).toNat
    exact hK2 _ _ ⟨by rw [e131]; exact BI.up hBP (rfl : zcd wR 23 = 73) rfl br.1 br.2 (by decide), fun j9 k9 h9 => by rw [e131]; exact (zup_n _ _ (by omega)).trans (FP j9 k9 h9), by rw [e131, zup_n _ _ (by omega)]; exact pP, by omega⟩ (by omega)
theorem sp_make (T : Nat → Int) (s : Int) : ∀ (n d : Nat), d ≤ 5 → 6 ≤ n + d → SpM T s 2 d (wR_makeRow n) := by
  intro n
  induction n with
  | zero => intro d h1 h2; omega
  | succ n ih =>
    intro d h1 h2
    show SpM T s 2 d (wR_makeRow_F (wR_makeTerm_F (wR_makeRow n)))
    exact mk_row h1 (mk_term h1 (fun h => ih (d + 1) (by omega) (by omega)))
end zz31_R00
section zz31_R01
/-! safety of the model, 1 -/
set_option maxHeartbeats 4000000 in
theorem sR_splice {M : zM} (hB : BI M) {Q : Int → zM → Prop} (hQ : ∀ z M1, (BI M1 ∧ (∀ j9 k9 : Nat, ¬ (j9 = 0 ∧ k9 = 35 ∨ j9 = 0 ∧ k9 = 36 ∨ j9 = 0 ∧ k9 = 37 ∨ j9 = 0 ∧ k9 = 1 ∨ j9 = 0 ∧ k9 = 3 ∨ j9 = 2 ∨ 23 ≤ j9 ∧ j9 ≤ 26) → M1 j9 k9 = M j9 k9) ∧ (-2147483648 ≤ z ∧ z ≤ 2147483647) ∧ M1 0 1 = 0 ∧ True) → Q z M1) : wR_splice M Q := by
  unfold wR_splice
  intro M1 e1 M3 e3 M5 e5
  have hB1 : BI M1 := by rw [e1]; exact BI.up0 hB (rfl : cbt 50 35 = (-2147483648, 2147483647)) (by omega) (by omega) (by decide)
  have hB3 : BI M3 := by rw [e3]; exact BIp hB1 (by omega) (by omega)
  have hB5 : BI M5 := by rw [e5]; exact BI.up0 hB3 (rfl : cbt 50 37 = (-2147483648, 2147483647)) (by omega) (by omega) (by decide)
  have F5 : ∀ j9 k9 : Nat, ¬ (j9 = 0 ∧ k9 = 35 ∨ j9 = 0 ∧ k9 = 36 ∨ j9 = 0 ∧ k9 = 37) → M5 j9 k9 = M j9 k9 := fun j9 k9 h9 => by rw [e5, e3, e1]; exact (zup_n _ _ (by omega)).trans ((zup_n _ _ (by omega)).trans (zup_n _ _ (by omega)))
  have p5 : M5 0 36 = 0 := by rw [e5, zup_n _ _ (by omega), e3, zup_s]
  refine sp_skip (M5 1) (M5 0 1) 6 0 (by omega) (by omega) M5 _ hB5 rfl rfl (by omega) (fun z8 M7 h8 => ?_)
  obtain ⟨⟨hB7, F7⟩, p7, h8⟩ := h8
  rw [p5] at h8
  have G7 : ∀ j9 k9 : Nat, ¬ (j9 = 0 ∧ k9 = 35 ∨ j9 = 0 ∧ k9 = 36 ∨ j9 = 0 ∧ k9 = 37) → M7 j9 k9 = M j9 k9 := fun j9 k9 h9 => (F7 j9 k9 (by omega)).trans (F5 j9 k9 h9)
  have T7 : M7 1 = M5 1 := rowF F7 1 (by omega)
  have S7 : M7 0 1 = M5 0 1 := F7 0 1 (by omega)
  have b1 : 0 ≤ M7 0 1 ∧ M7 0 1 ≤ 100 := BN.at hB7.1 (rfl : zcd wR 0 = 50) rfl
  have s1 : sI (M7 0 1) = M7 0 1 := sIo (by omega) (by omega)
  have s36 : sI (M7 0 36) = M7 0 36 := sIo (by omega) (by omega)
  rw [s1, s36]
  refine wJ1_of (fun x P => BI P ∧ (∀ j9 k9 : Nat, ¬ (j9 = 0 ∧ k9 = 35 ∨ j9 = 0 ∧ k9 = 36 ∨ j9 = 0 ∧ k9 = 37) → P j9 k9 = M j9 k9) ∧ (0 ≤ x ∧ x ≤ 1) ∧ P 1 = M5 1 ∧ P 0 1 = M5 0 1 ∧ (x ≠ 0 → ∃ q, PK (M5 1) (M5 0 1) 2 0 0 q)) (fun x P hI => ?_) ⟨fun e8 => ⟨hB7, G7, by omega, T7, S7, fun h => absurd e8 h⟩, fun e8 => ⟨fun c => ⟨hB7, G7, by omega, T7, S7, fun _ => ?_⟩, fun c => ?_⟩⟩
  · obtain ⟨hBP, FP, ix, TP, SP, hx⟩ := hI
    have sx : sI x = x := sIo (by omega) (by omega)
    rw [sx]
    refine wJ1_of (fun y N => BI N ∧ (∀ j9 k9 : Nat, ¬ (j9 = 0 ∧ k9 = 35 ∨ j9 = 0 ∧ k9 = 36 ∨ j9 = 0 ∧ k9 = 37 ∨ 23 ≤ j9 ∧ j9 ≤ 26) → N j9 k9 = M j9 k9) ∧ (-101 ≤ y ∧ y ≤ 0)) (fun y N hI2 => ?_) ⟨fun e => ⟨hBP, fun j9 k9 h9 => FP j9 k9 (by omega), by omega⟩, fun e => ?_⟩
    · obtain ⟨hBN, FN, iy⟩ := hI2
      have sy : sI y = y := sIo (by omega) (by omega)
      rw [sy]
      intro M29 e29
      have hB29 : BI M29 := by rw [e29]; exact BI.up0 hBN (rfl : cbt 50 1 = (0, 100)) (by omega) (by omega) (by decide)
      have F29 : ∀ j9 k9 : Nat, ¬ (j9 = 0 ∧ k9 = 35 ∨ j9 = 0 ∧ k9 = 36 ∨ j9 = 0 ∧ k9 = 37 ∨ j9 = 0 ∧ k9 = 1 ∨ j9 = 0 ∧ k9 = 3 ∨ j9 = 2 ∨ 23 ≤ j9 ∧ j9 ≤ 26) → M29 j9 k9 = M j9 k9 := fun j9 k9 h9 => by rw [e29]; exact (zup_n _ _ (by omega)).trans (FN j9 k9 (by omega))
      have r29 : M29 0 1 = 0 := by rw [e29, zup_s]
      refine ⟨fun c => ⟨fun c2 => ?_, fun c2 => hQ _ _ ⟨hB29, F29, by omega, r29, trivial⟩⟩, fun c => ?_⟩
      · have b24 : 0 ≤ M29 24 0 ∧ M29 24 0 ≤ 24 := BN.at hB29.1 (rfl : zcd wR 24 = 74) rfl
        intro M33 e33
        refine wL1_of (fun w P2 => BI P2 ∧ (∀ j9 k9 : Nat, ¬ (j9 = 0 ∧ k9 = 35 ∨ j9 = 0 ∧ k9 = 36 ∨ j9 = 0 ∧ k9 = 37 ∨ j9 = 0 ∧ k9 = 1 ∨ j9 = 0 ∧ k9 = 3 ∨ j9 = 2 ∨ 23 ≤ j9 ∧ j9 ≤ 26) → P2 j9 k9 = M j9 k9) ∧ P2 0 1 = 0 ∧ (0 ≤ w ∧ w ≤ 24)) (fun w _ => (1000 - w).toNat) ⟨by rw [e33]; exact BI.up0 hB29 (rfl : cbt 50 3 = (0, 24)) b24.1 b24.2 (by decide), fun j9 k9 h9 => by rw [e33]; exact (zup_n _ _ (by omega)).trans (F29 j9 k9 h9), by rw [e33, zup_n _ _ (by omega)]; exact r29, by omega⟩ (fun K w P2 hI3 hK => ?_)
        obtain ⟨hB2, F2, r2, iw⟩ := hI3
        have b3 : 0 ≤ P2 0 3 ∧ P2 0 3 ≤ 24 := BN.at hB2.1 (rfl : zcd wR 0 = 50) rfl
        have s3 : sI (P2 0 3) = P2 0 3 := sIo (by omega) (by omega)
        have sw : sI w = w := sIo (by omega) (by omega)
        rw [s3, sw]
        refine ⟨fun c3 => hQ _ _ ⟨hB2, F2, by omega, r2, trivial⟩, fun c3 => ⟨by omega, by omega, ?_⟩⟩
        intro M47 e47
        have br := BN.r32 hB2.1 23 w.toNat
        exact hK _ _ ⟨by rw [e47]; exact BI.up hB2 (rfl : zcd wR 2 = 52) rfl br.1 br.2 (by decide), fun j9 k9 h9 => by rw [e47]; exact (zup_n _ _ (by omega)).trans (F2 j9 k9 h9), by rw [e47, zup_n _ _ (by omega)]; exact r2, by omega⟩ (by omega)
      · have r := sI_R ((-1) - M29 0 37)
        exact hQ _ _ ⟨hB29, F29, by have := r.1; have := r.2; omega, r29, trivial⟩
    · obtain ⟨q, pkq⟩ := hx e
      intro M52 e52
      have p52 : M52 0 36 = 0 := by rw [e52]; exact zup_s _ _ _ _
      have F52 : ∀ j9 k9 : Nat, ¬ (j9 = 0 ∧ k9 = 35 ∨ j9 = 0 ∧ k9 = 36 ∨ j9 = 0 ∧ k9 = 37) → M52 j9 k9 = M j9 k9 := fun j9 k9 h9 => by rw [e52]; exact (zup_n _ _ (by omega)).trans (FP j9 k9 h9)
      have T52 : M52 1 = M5 1 := by rw [e52, zup_row _ _ (by omega)]; exact TP
      have S52 : M52 0 1 = M5 0 1 := by rw [e52, zup_n _ _ (by omega)]; exact SP
      refine sp_make (M5 1) (M5 0 1) 6 0 (by omega) (by omega) M52 _ q (by rw [e52]; exact BIp hBP (by omega) (by omega)) T52 S52 (by omega) (by rw [p52]; exact pkq) (fun z55 M54 h55 => ?_)
      obtain ⟨⟨hB54, F54⟩, p54, z1, z2, -⟩ := h55
      exact ⟨hB54, fun j9 k9 h9 => (F54 j9 k9 (by omega)).trans (F52 j9 k9 (by omega)), by omega⟩
  · rcases h8 with ⟨-, -, h⟩ | ⟨h, -⟩
    · exact ⟨_, h⟩
    · exact absurd h e8
  · refine sR_isWrong hB7 (fun z60 M59 h => ?_)
    obtain ⟨h1, h2, -, h3, -⟩ := h
    exact ⟨h1, fun j9 k9 h9 => (h2 j9 k9 (by omega)).trans (G7 j9 k9 h9), by omega, (rowF h2 1 (by omega)).trans T7, (h2 0 1 (by omega)).trans S7, fun h => absurd h3 h⟩
set_option maxHeartbeats 4000000 in
set_option maxRecDepth 100000 in
theorem sR_hand {M : zM} {a0 : Int} (hB : BI M) (v0 : (-2147483648) ≤ a0 ∧ a0 ≤ 2147483647) {Q : Int → zM → Prop} (hQ : ∀ (z : Int) (M1 : zM), BI M1 ∧ (∀ j9 k9 : Nat, ¬ (j9 = 0 ∧ k9 = 35) → M1 j9 k9 = M j9 k9) ∧ ((-2147483648) ≤ z ∧ z ≤ 2147483647) ∧ True → Q z M1) : wR_hand a0 M Q := by
  unfold wR_hand
  have hF0 : ∀ j9 k9 : Nat, ¬ (j9 = 0 ∧ k9 = 35) → M j9 k9 = M j9 k9 := fun j9 k9 _ => rfl
  intro M1 e2
  have hB3 : BI M1 := by rw [e2]; exact BI.up0 hB rfl (by omega) (by omega) (by decide)
  have hF4 : ∀ j9 k9 : Nat, ¬ (j9 = 0 ∧ k9 = 35) → M1 j9 k9 = M j9 k9 := fun j9 k9 h9 => by rw [e2]; exact (zup_n _ _ (by omega)).trans (hF0 j9 k9 h9)
  have q5 : 0 ≤ (M1 0 3) ∧ (M1 0 3) ≤ 24 := BN.at hB3.1 (rfl : zcd wR 0 = 50) rfl
  refine sR_in hB3 (by omega) (by omega) (by omega) (fun z6  h7 => ?_)
  obtain ⟨p8, p9, -⟩ := h7
  refine ⟨fun c10 => ?_, fun c10 => ?_⟩
  · skip
    exact hQ _ _ ⟨hB3, hF4, (by omega), trivial⟩
  · skip
    have s11 : sI a0 = a0 := sIo (by omega) (by omega)
    have o12 : 0 ≤ (sI a0) ∧ (sI a0) < 24 := by omega
    refine ⟨o12, ?_⟩
    have q13 : (-2147483648) ≤ (M1 2 (sI a0).toNat) ∧ (M1 2 (sI a0).toNat) ≤ 2147483647 := BN.at hB3.1 (rfl : zcd wR 2 = 52) rfl
    have s14 : sI (M1 2 (sI a0).toNat) = (M1 2 (sI a0).toNat) := sIo (by omega) (by omega)
    exact hQ _ _ ⟨hB3, hF4, (by omega), trivial⟩
set_option maxHeartbeats 4000000 in
theorem sR_ring {M : zM} {a0 a1 : Int} (hB : BI M) (v0 : -2147483648 ≤ a0 ∧ a0 ≤ 2147483647) (v1 : -2147483648 ≤ a1 ∧ a1 ≤ 2147483647) {Q : Int → zM → Prop} (hQ : ∀ z M1, (BI M1 ∧ (∀ j9 k9 : Nat, ¬ (j9 = 0 ∧ k9 = 35 ∨ j9 = 0 ∧ k9 = 10 ∨ j9 = 3 ∨ j9 = 4 ∨ j9 = 5 ∨ j9 = 6 ∨ j9 = 7 ∨ j9 = 8) → M1 j9 k9 = M j9 k9) ∧ (-2147483648 ≤ z ∧ z ≤ 2147483647) ∧ True) → Q z M1) : wR_ring a0 a1 M Q := by
  unfold wR_ring
  intro M1 e1
  have hB1 : BI M1 := by rw [e1]; exact BI.up0 hB (rfl : cbt 50 35 = (-2147483648, 2147483647)) (by omega) (by omega) (by decide)
  have F1 : ∀ j9 k9 : Nat, ¬ (j9 = 0 ∧ k9 = 35 ∨ j9 = 0 ∧ k9 = 10 ∨ j9 = 3 ∨ j9 = 4 ∨ j9 = 5 ∨ j9 = 6 ∨ j9 = 7 ∨ j9 = 8) → M1 j9 k9 = M j9 k9 := fun j9 k9 h9 => by rw [e1]; exact zup_n _ _ (by omega)
  have b3 : 0 ≤ M1 0 3 ∧ M1 0 3 ≤ 24 := BN.at hB1.1 (rfl : zcd wR 0 = 50) rfl
  have b10 : 0 ≤ M1 0 10 ∧ M1 0 10 ≤ 4 := BN.at hB1.1 (rfl : zcd wR 0 = 50) rfl
  have s3 : sI (M1 0 3) = M1 0 3 := sIo (by omega) (by omega)
  have s10 : sI (M1 0 10) = M1 0 10 := sIo (by omega) (by omega)
  rw [s3, s10]
  refine ⟨fun c => hQ _ _ ⟨hB1, F1, by omega, trivial⟩, fun c => ?_⟩
  refine sR_isMotor hB1 (by omega) (fun z5 h5 => ?_)
  obtain ⟨-, h5, -⟩ := h5
  refine ⟨fun e5 => hQ _ _ ⟨hB1, F1, by omega, trivial⟩, fun e5 => ?_⟩
  refine sR_in hB1 (by omega) (by omega) (by omega) (fun z10 h10 => ?_)
  obtain ⟨-, h10, -⟩ := h10
  refine ⟨fun e10 => hQ _ _ ⟨hB1, F1, by omega, trivial⟩, fun e10 => ⟨fun c4 => ⟨by omega, ?_⟩, fun c4 => hQ _ _ ⟨hB1, F1, by omega, trivial⟩⟩⟩
  intro M16 e16
  obtain ⟨n, en⟩ : ∃ n : Nat, n = (M1 0 10).toNat := ⟨_, rfl⟩
  rw [← en] at e16
  refine wL1_of (fun x P => BI P ∧ (∀ j9 k9 : Nat, ¬ (j9 = 0 ∧ k9 = 35 ∨ j9 = 0 ∧ k9 = 10 ∨ j9 = 3 ∨ j9 = 4 ∨ j9 = 5 ∨ j9 = 6 ∨ j9 = 7 ∨ j9 = 8) → P j9 k9 = M j9 k9) ∧ P 0 10 = M1 0 10 ∧ P 0 3 = M1 0 3 ∧ P 4 n = M1 0 3 ∧ (0 ≤ x ∧ x ≤ 24)) (fun x _ => (1000 - x).toNat) ⟨by rw [e16]; exact BI.up4 hB1 (by omega) (by omega), fun j9 k9 h9 => by rw [e16]; exact (zup_n _ _ (by omega)).trans (F1 j9 k9 h9), by rw [e16, zup_n _ _ (by omega)], by rw [e16, zup_n _ _ (by omega)], by rw [e16, zup_s], by omega⟩ (fun K x P hI hK => ?_)
  obtain ⟨hBP, FP, p10, p3, p4, ix⟩ := hI
  have sx : sI x = x := sIo (by omega) (by omega)
  rw [p3, p10, s3, s10, sx, ← en]
  refine ⟨fun c5 => ⟨by omega, ?_⟩, fun c5 => ?_⟩
  · intro M29 e29
    have hB29 : BI M29 := by rw [e29]; exact BI.up hBP (rfl : zcd wR 5 = 55) rfl (by omega) (by omega) (by decide)
    have r29 : M29 0 10 = M1 0 10 := by rw [e29, zup_n _ _ (by omega)]; exact p10
    rw [r29, s10, ← en]
    refine ⟨by omega, ?_⟩
    intro M32 e32
    have hB32 : BI M32 := by rw [e32]; exact BI.up hB29 (rfl : zcd wR 6 = 56) rfl (by omega) (by omega) (by decide)
    have r32 : M32 0 10 = M1 0 10 := by rw [e32, zup_n _ _ (by omega)]; exact r29
    rw [r32, s10, ← en]
    refine ⟨by omega, ?_⟩
    intro M35 e35
    have hB35 : BI M35 := by rw [e35]; exact BI.up hB32 (rfl : zcd wR 7 = 57) rfl (by omega) (by omega) (by decide)
    have r35 : M35 0 10 = M1 0 10 := by rw [e35, zup_n _ _ (by omega)]; exact r32
    rw [r35, s10, ← en]
    refine ⟨by omega, ?_⟩
    intro M38 e38
    have hB38 : BI M38 := by rw [e38]; exact BI.up hB35 (rfl : zcd wR 8 = 58) rfl (by omega) (by omega) (by decide)
    have r38 : M38 0 10 = M1 0 10 := by rw [e38, zup_n _ _ (by omega)]; exact r35
    have r4 : M38 4 n = M1 0 3 := by rw [e38, zup_n _ _ (by omega), e35, zup_n _ _ (by omega), e32, zup_n _ _ (by omega), e29, zup_n _ _ (by omega)]; exact p4
    intro M40 e40
    have r := sI_R (M40 0 10 - 1)
    refine hQ _ _ ⟨by rw [e40]; exact BI.upR hB38 rfl (by omega) (by rw [r38, ← en, r4]; omega), fun j9 k9 h9 => ?_, by have := r.1; have := r.2; omega, trivial⟩
    rw [e40, zup_n _ _ (by omega), e38, zup_n _ _ (by omega), e35, zup_n _ _ (by omega), e32, zup_n _ _ (by omega), e29, zup_n _ _ (by omega)]
    exact FP j9 k9 h9
  · have s6 : sI (24 * M1 0 10 + x) = 24 * M1 0 10 + x := sIo (by omega) (by omega)
    rw [s6]
    refine ⟨by omega, by omega, ?_⟩
    intro M44 e44
    have br := BN.r32 hBP.1 2 x.toNat
    exact hK _ _ ⟨by rw [e44]; exact BI.up hBP (rfl : zcd wR 3 = 53) rfl br.1 br.2 (by decide), fun j9 k9 h9 => by rw [e44]; exact (zup_n _ _ (by omega)).trans (FP j9 k9 h9), by rw [e44, zup_n _ _ (by omega)]; exact p10, by rw [e44, zup_n _ _ (by omega)]; exact p3, by rw [e44, zup_n _ _ (by omega)]; exact p4, by omega⟩ (by omega)
set_option maxHeartbeats 4000000 in
set_option maxRecDepth 100000 in
theorem sR_over {M : zM} {a0 : Int} {a1 : Int} {a2 : Int} (hB : BI M) (v0 : (-2147483648) ≤ a0 ∧ a0 ≤ 2147483647) (v1 : (-2147483648) ≤ a1 ∧ a1 ≤ 2147483647) (v2 : (-2147483648) ≤ a2 ∧ a2 ≤ 2147483647) {Q : Int → zM → Prop} (hQ : ∀ (z : Int) (M1 : zM), BI M1 ∧ (∀ j9 k9 : Nat, ¬ (j9 = 0 ∧ k9 = 35 ∨ j9 = 3) → M1 j9 k9 = M j9 k9) ∧ ((-2147483648) ≤ z ∧ z ≤ 2147483647) ∧ True → Q z M1) : wR_over a0 a1 a2 M Q := by
  unfold wR_over
  have hF0 : ∀ j9 k9 : Nat, ¬ (j9 = 0 ∧ k9 = 35 ∨ j9 = 3) → M j9 k9 = M j9 k9 := fun j9 k9 _ => rfl
  intro M1 e2
  have hB3 : BI M1 := by rw [e2]; exact BI.up0 hB rfl (by omega) (by omega) (by decide)
  have hF4 : ∀ j9 k9 : Nat, ¬ (j9 = 0 ∧ k9 = 35 ∨ j9 = 3) → M1 j9 k9 = M j9 k9 := fun j9 k9 h9 => by rw [e2]; exact (zup_n _ _ (by omega)).trans (hF0 j9 k9 h9)
  refine sR_isRing hB3 (by omega) (fun z5  h6 => ?_)
  obtain ⟨p7, p8, -⟩ := h6
  refine ⟨fun c9 => ?_, fun c9 => ?_⟩
  · skip
    exact hQ _ _ ⟨hB3, hF4, (by omega), trivial⟩
  · skip
    have s10 : sI a0 = a0 := sIo (by omega) (by omega)
    have o11 : 0 ≤ (sI a0) ∧ (sI a0) < 4 := by omega
    refine ⟨o11, ?_⟩
    have q12 : 0 ≤ (M1 4 (sI a0).toNat) ∧ (M1 4 (sI a0).toNat) ≤ 24 := BN.at hB3.1 (rfl : zcd wR 4 = 54) rfl
    have q13 : (((sI a0).toNat : Nat) : Int) < M1 0 10 → 1 ≤ (M1 4 (sI a0).toNat) := hB3.2 _ (by omega)
    have q14 : 0 ≤ M1 0 10 ∧ M1 0 10 ≤ 4 := BN.at hB3.1 (rfl : zcd wR 0 = 50) rfl
    refine sR_in hB3 (by omega) (by omega) (by omega) (fun z15  h16 => ?_)
    obtain ⟨p17, p18, -⟩ := h16
    refine ⟨fun c19 => ?_, fun c19 => ?_⟩
    · skip
      exact hQ _ _ ⟨hB3, hF4, (by omega), trivial⟩
    · skip
      refine sR_in hB3 (by omega) (by omega) (by omega) (fun z20  h21 => ?_)
      obtain ⟨p22, p23, -⟩ := h21
      refine ⟨fun c24 => ?_, fun c24 => ?_⟩
      · skip
        exact hQ _ _ ⟨hB3, hF4, (by omega), trivial⟩
      · skip
        have q25 : 0 ≤ (M1 0 3) ∧ (M1 0 3) ≤ 24 := BN.at hB3.1 (rfl : zcd wR 0 = 50) rfl
        have s26 : sI (M1 0 3) = (M1 0 3) := sIo (by omega) (by omega)
        refine ⟨fun c27 => ?_, fun c27 => ?_⟩
        · skip
          refine wL2_of (fun x28 x29 M30 => BI M30 ∧ (∀ j9 k9 : Nat, ¬ (j9 = 0 ∧ k9 = 35 ∨ j9 = 3) → M30 j9 k9 = M j9 k9) ∧ (0 ≤ x28 ∧ x28 ≤ 1000000) ∧ (0 ≤ x29 ∧ x29 ≤ 1000000) ∧ (x28 ≤ x29) ∧ True) (fun x28 x29 M30 => (1000000 - x29).toNat) ⟨hB3, hF4, (by omega), (by omega), (by omega), trivial⟩ (fun K x28 x29 M30 h36 k37 => ?_)
          obtain ⟨hB31, hF32, i33, i34, i35, -⟩ := h36
          have q38 : 0 ≤ (M30 0 3) ∧ (M30 0 3) ≤ 24 := BN.at hB31.1 (rfl : zcd wR 0 = 50) rfl
          have s39 : sI x29 = x29 := sIo (by omega) (by omega)
          have s40 : sI (M30 0 3) = (M30 0 3) := sIo (by omega) (by omega)
          refine ⟨fun c41 => ?_, fun c41 => ?_⟩
          · skip
            have s42 : sI x28 = x28 := sIo (by omega) (by omega)
            exact hQ _ _ ⟨hB31, hF32, (by omega), trivial⟩
          · skip
            have s43 : sI a0 = a0 := sIo (by omega) (by omega)
            have o44 : 0 ≤ (sI a0) ∧ (sI a0) < 4 := by omega
            refine ⟨o44, ?_⟩
            have q45 : 0 ≤ (M30 4 (sI a0).toNat) ∧ (M30 4 (sI a0).toNat) ≤ 24 := BN.at hB31.1 (rfl : zcd wR 4 = 54) rfl
            have q46 : (((sI a0).toNat : Nat) : Int) < M30 0 10 → 1 ≤ (M30 4 (sI a0).toNat) := hB31.2 _ (by omega)
            have q47 : 0 ≤ M30 0 10 ∧ M30 0 10 ≤ 4 := BN.at hB31.1 (rfl : zcd wR 0 = 50) rfl
            have s48 := sI_R (a1 + x29)
            have s49 := sI_or (a1 + x29)
            have s50 : sI (M30 4 (sI a0).toNat) = (M30 4 (sI a0).toNat) := sIo (by omega) (by omega)
            refine ⟨fun c51 => ?_, fun c51 => ?_⟩
            · skip
              have s52 : sI x28 = x28 := sIo (by omega) (by omega)
              exact hQ _ _ ⟨hB31, hF32, (by omega), trivial⟩
            · skip
              have s53 : sI a2 = a2 := sIo (by omega) (by omega)
              refine pJ1_dup ?_
              refine ⟨fun c54 => ?_, fun c54 => ?_⟩
              · skip
                have s55 := sI_R (((24 * a0) + a1) + x29)
                have s56 := sI_or (((24 * a0) + a1) + x29)
                have o57 : 0 ≤ (sI (((24 * a0) + a1) + x29)) ∧ (sI (((24 * a0) + a1) + x29)) < 96 := by omega
                refine ⟨o57, ?_⟩
                have q58 : (-2147483648) ≤ (M30 3 (sI (((24 * a0) + a1) + x29)).toNat) ∧ (M30 3 (sI (((24 * a0) + a1) + x29)).toNat) ≤ 2147483647 := BN.at hB31.1 (rfl : zcd wR 3 = 53) rfl
                have o59 : 0 ≤ (sI x29) ∧ (sI x29) < 24 := by omega
                refine ⟨o59, ?_⟩
                have q60 : (-2147483648) ≤ (M30 2 (sI x29).toNat) ∧ (M30 2 (sI x29).toNat) ≤ 2147483647 := BN.at hB31.1 (rfl : zcd wR 2 = 52) rfl
                have q61 := orI_R (M30 3 (sI (((24 * a0) + a1) + x29)).toNat) (M30 2 (sI x29).toNat)
                have s62 : sI (orI (M30 3 (sI (((24 * a0) + a1) + x29)).toNat) (M30 2 (sI x29).toNat)) = (orI (M30 3 (sI (((24 * a0) + a1) + x29)).toNat) (M30 2 (sI x29).toNat)) := sIo (by omega) (by omega)
                have o63 : 0 ≤ (sI (((24 * a0) + a1) + x29)) ∧ (sI (((24 * a0) + a1) + x29)) < 96 := by omega
                refine ⟨o63, ?_⟩
                have s65 : sI (M30 3 (sI (((24 * a0) + a1) + x29)).toNat) = (M30 3 (sI (((24 * a0) + a1) + x29)).toNat) := sIo (by omega) (by omega)
                refine ⟨fun c66 => ?_, fun c66 => ?_⟩
                · skip
                  have o67 : 0 ≤ (sI (((24 * a0) + a1) + x29)) ∧ (sI (((24 * a0) + a1) + x29)) < 96 := by omega
                  refine ⟨o67, ?_⟩
                  intro M68 e69
                  have hB70 : BI M68 := by rw [e69]; exact BI.up hB31 (rfl : zcd wR 3 = 53) rfl (by omega) (by omega) (by decide)
                  have hF71 : ∀ j9 k9 : Nat, ¬ (j9 = 0 ∧ k9 = 35 ∨ j9 = 3) → M68 j9 k9 = M j9 k9 := fun j9 k9 h9 => by rw [e69]; exact (zup_n _ _ (by omega)).trans (hF32 j9 k9 h9)
                  exact k37 _ _ _ ⟨hB70, hF71, (by omega), (by omega), (by omega), trivial⟩ (by omega)
                · skip
                  have o72 : 0 ≤ (sI (((24 * a0) + a1) + x29)) ∧ (sI (((24 * a0) + a1) + x29)) < 96 := by omega
                  refine ⟨o72, ?_⟩
                  intro M73 e74
                  have hB75 : BI M73 := by rw [e74]; exact BI.up hB31 (rfl : zcd wR 3 = 53) rfl (by omega) (by omega) (by decide)
                  have hF76 : ∀ j9 k9 : Nat, ¬ (j9 = 0 ∧ k9 = 35 ∨ j9 = 3) → M73 j9 k9 = M j9 k9 := fun j9 k9 h9 => by rw [e74]; exact (zup_n _ _ (by omega)).trans (hF32 j9 k9 h9)
                  exact k37 _ _ _ ⟨hB75, hF76, (by omega), (by omega), (by omega), trivial⟩ (by omega)
              · skip
                have o77 : 0 ≤ (sI x29) ∧ (sI x29) < 24 := by omega
                refine ⟨o77, ?_⟩
                have q78 : (-2147483648) ≤ (M30 2 (sI x29).toNat) ∧ (M30 2 (sI x29).toNat) ≤ 2147483647 := BN.at hB31.1 (rfl : zcd wR 2 = 52) rfl
                have s79 : sI (M30 2 (sI x29).toNat) = (M30 2 (sI x29).toNat) := sIo (by omega) (by omega)
                have s80 := sI_R (((24 * a0) + a1) + x29)
                have s81 := sI_or (((24 * a0) + a1) + x29)
                have o82 : 0 ≤ (sI (((24 * a0) + a1) + x29)) ∧ (sI (((24 * a0) + a1) + x29)) < 96 := by omega
                refine ⟨o82, ?_⟩
                have q83 : (-2147483648) ≤ (M30 3 (sI (((24 * a0) + a1) + x29)).toNat) ∧ (M30 3 (sI (((24 * a0) + a1) + x29)).toNat) ≤ 2147483647 := BN.at hB31.1 (rfl : zcd wR 3 = 53) rfl
                have s84 : sI (M30 3 (sI (((24 * a0) + a1) + x29)).toNat) = (M30 3 (sI (((24 * a0) + a1) + x29)).toNat) := sIo (by omega) (by omega)
                refine ⟨fun c85 => ?_, fun c85 => ?_⟩
                · skip
                  have o86 : 0 ≤ (sI (((24 * a0) + a1) + x29)) ∧ (sI (((24 * a0) + a1) + x29)) < 96 := by omega
                  refine ⟨o86, ?_⟩
                  intro M87 e88
                  have hB89 : BI M87 := by rw [e88]; exact BI.up hB31 (rfl : zcd wR 3 = 53) rfl (by omega) (by omega) (by decide)
                  have hF90 : ∀ j9 k9 : Nat, ¬ (j9 = 0 ∧ k9 = 35 ∨ j9 = 3) → M87 j9 k9 = M j9 k9 := fun j9 k9 h9 => by rw [e88]; exact (zup_n _ _ (by omega)).trans (hF32 j9 k9 h9)
                  exact k37 _ _ _ ⟨hB89, hF90, (by omega), (by omega), (by omega), trivial⟩ (by omega)
                · skip
                  have o91 : 0 ≤ (sI (((24 * a0) + a1) + x29)) ∧ (sI (((24 * a0) + a1) + x29)) < 96 := by omega
                  refine ⟨o91, ?_⟩
                  intro M92 e93
                  have hB94 : BI M92 := by rw [e93]; exact BI.up hB31 (rfl : zcd wR 3 = 53) rfl (by omega) (by omega) (by decide)
                  have hF95 : ∀ j9 k9 : Nat, ¬ (j9 = 0 ∧ k9 = 35 ∨ j9 = 3) → M92 j9 k9 = M j9 k9 := fun j9 k9 h9 => by rw [e93]; exact (zup_n _ _ (by omega)).trans (hF32 j9 k9 h9)
                  exact k37 _ _ _ ⟨hB94, hF95, (by omega), (by omega), (by omega), trivial⟩ (by omega)
        · skip
          exact hQ _ _ ⟨hB3, hF4, (by omega), trivial⟩
set_option maxHeartbeats 4000000 in
set_option maxRecDepth 100000 in
theorem sR_set {M : zM} {a0 : Int} {a1 : Int} {a2 : Int} (hB : BI M) (v0 : (-2147483648) ≤ a0 ∧ a0 ≤ 2147483647) (v1 : (-2147483648) ≤ a1 ∧ a1 ≤ 2147483647) (v2 : (-2147483648) ≤ a2 ∧ a2 ≤ 2147483647) {Q : Int → zM → Prop} (hQ : ∀ (z : Int) (M1 : zM), BI M1 ∧ (∀ j9 k9 : Nat, ¬ (j9 = 0 ∧ k9 = 35 ∨ j9 = 5 ∨ j9 = 6) → M1 j9 k9 = M j9 k9) ∧ ((-2147483648) ≤ z ∧ z ≤ 2147483647) ∧ True → Q z M1) : wR_set a0 a1 a2 M Q := by
  unfold wR_set
  have hF0 : ∀ j9 k9 : Nat, ¬ (j9 = 0 ∧ k9 = 35 ∨ j9 = 5 ∨ j9 = 6) → M j9 k9 = M j9 k9 := fun j9 k9 _ => rfl
  intro M1 e2
  have hB3 : BI M1 := by rw [e2]; exact BI.up0 hB rfl (by omega) (by omega) (by decide)
  have hF4 : ∀ j9 k9 : Nat, ¬ (j9 = 0 ∧ k9 = 35 ∨ j9 = 5 ∨ j9 = 6) → M1 j9 k9 = M j9 k9 := fun j9 k9 h9 => by rw [e2]; exact (zup_n _ _ (by omega)).trans (hF0 j9 k9 h9)
  refine sR_isRing hB3 (by omega) (fun z5  h6 => ?_)
  obtain ⟨p7, p8, -⟩ := h6
  refine ⟨fun c9 => ?_, fun c9 => ?_⟩
  · skip
    exact hQ _ _ ⟨hB3, hF4, (by omega), trivial⟩
  · skip
    refine sR_in hB3 (by omega) (by omega) (by omega) (fun z10  h11 => ?_)
    obtain ⟨p12, p13, -⟩ := h11
    refine ⟨fun c14 => ?_, fun c14 => ?_⟩
    · skip
      exact hQ _ _ ⟨hB3, hF4, (by omega), trivial⟩
    · skip
      have s15 : sI a1 = a1 := sIo (by omega) (by omega)
      refine pJ0_dup ?_
      refine ⟨fun c16 => ?_, fun c16 => ?_⟩
      · skip
        have s17 : sI a0 = a0 := sIo (by omega) (by omega)
        have o18 : 0 ≤ (sI a0) ∧ (sI a0) < 4 := by omega
        refine ⟨o18, ?_⟩
        have q19 : 0 ≤ (M1 4 (sI a0).toNat) ∧ (M1 4 (sI a0).toNat) ≤ 24 := BN.at hB3.1 (rfl : zcd wR 4 = 54) rfl
        have q20 : (((sI a0).toNat : Nat) : Int) < M1 0 10 → 1 ≤ (M1 4 (sI a0).toNat) := hB3.2 _ (by omega)
        have q21 : 0 ≤ M1 0 10 ∧ M1 0 10 ≤ 4 := BN.at hB3.1 (rfl : zcd wR 0 = 50) rfl
        refine sR_in hB3 (by omega) (by omega) (by omega) (fun z22  h23 => ?_)
        obtain ⟨p24, p25, -⟩ := h23
        refine ⟨fun c26 => ?_, fun c26 => ?_⟩
        · skip
          refine pJ1_dup ?_
          refine ⟨fun c27 => ?_, fun c27 => ?_⟩
          · skip
            have o28 : 0 ≤ (sI a0) ∧ (sI a0) < 4 := by omega
            refine ⟨o28, ?_⟩
            have q29 : 0 ≤ (M1 6 (sI a0).toNat) ∧ (M1 6 (sI a0).toNat) ≤ 23 := BN.at hB3.1 (rfl : zcd wR 6 = 56) rfl
            have s30 : sI (M1 6 (sI a0).toNat) = (M1 6 (sI a0).toNat) := sIo (by omega) (by omega)
            refine ⟨fun c31 => ?_, fun c31 => ?_⟩
            · skip
              have o32 : 0 ≤ (sI a0) ∧ (sI a0) < 4 := by omega
              refine ⟨o32, ?_⟩
              intro M33 e34
              have hB35 : BI M33 := by rw [e34]; exact BI.up hB3 (rfl : zcd wR 6 = 56) rfl (by omega) (by omega) (by decide)
              have hF36 : ∀ j9 k9 : Nat, ¬ (j9 = 0 ∧ k9 = 35 ∨ j9 = 5 ∨ j9 = 6) → M33 j9 k9 = M j9 k9 := fun j9 k9 h9 => by rw [e34]; exact (zup_n _ _ (by omega)).trans (hF4 j9 k9 h9)
              exact hQ _ _ ⟨hB35, hF36, (by omega), trivial⟩
            · skip
              have o37 : 0 ≤ (sI a0) ∧ (sI a0) < 4 := by omega
              refine ⟨o37, ?_⟩
              intro M38 e39
              have hB40 : BI M38 := by rw [e39]; exact BI.up hB3 (rfl : zcd wR 5 = 55) rfl (by omega) (by omega) (by decide)
              have hF41 : ∀ j9 k9 : Nat, ¬ (j9 = 0 ∧ k9 = 35 ∨ j9 = 5 ∨ j9 = 6) → M38 j9 k9 = M j9 k9 := fun j9 k9 h9 => by rw [e39]; exact (zup_n _ _ (by omega)).trans (hF4 j9 k9 h9)
              exact hQ _ _ ⟨hB40, hF41, (by omega), trivial⟩
          · skip
            have o42 : 0 ≤ (sI a0) ∧ (sI a0) < 4 := by omega
            refine ⟨o42, ?_⟩
            have q43 : 0 ≤ (M1 5 (sI a0).toNat) ∧ (M1 5 (sI a0).toNat) ≤ 1 := BN.at hB3.1 (rfl : zcd wR 5 = 55) rfl
            have s44 : sI (M1 5 (sI a0).toNat) = (M1 5 (sI a0).toNat) := sIo (by omega) (by omega)
            refine ⟨fun c45 => ?_, fun c45 => ?_⟩
            · skip
              have o46 : 0 ≤ (sI a0) ∧ (sI a0) < 4 := by omega
              refine ⟨o46, ?_⟩
              intro M47 e48
              have hB49 : BI M47 := by rw [e48]; exact BI.up hB3 (rfl : zcd wR 6 = 56) rfl (by omega) (by omega) (by decide)
              have hF50 : ∀ j9 k9 : Nat, ¬ (j9 = 0 ∧ k9 = 35 ∨ j9 = 5 ∨ j9 = 6) → M47 j9 k9 = M j9 k9 := fun j9 k9 h9 => by rw [e48]; exact (zup_n _ _ (by omega)).trans (hF4 j9 k9 h9)
              exact hQ _ _ ⟨hB49, hF50, (by omega), trivial⟩
            · skip
              have o51 : 0 ≤ (sI a0) ∧ (sI a0) < 4 := by omega
              refine ⟨o51, ?_⟩
              intro M52 e53
              have hB54 : BI M52 := by rw [e53]; exact BI.up hB3 (rfl : zcd wR 5 = 55) rfl (by omega) (by omega) (by decide)
              have hF55 : ∀ j9 k9 : Nat, ¬ (j9 = 0 ∧ k9 = 35 ∨ j9 = 5 ∨ j9 = 6) → M52 j9 k9 = M j9 k9 := fun j9 k9 h9 => by rw [e53]; exact (zup_n _ _ (by omega)).trans (hF4 j9 k9 h9)
              exact hQ _ _ ⟨hB54, hF55, (by omega), trivial⟩
        · skip
          exact hQ _ _ ⟨hB3, hF4, (by omega), trivial⟩
      · skip
        refine sR_isMotor hB3 (by omega) (fun z56  h57 => ?_)
        obtain ⟨p58, p59, -⟩ := h57
        refine ⟨fun c60 => ?_, fun c60 => ?_⟩
        · skip
          refine pJ1_dup ?_
          refine ⟨fun c61 => ?_, fun c61 => ?_⟩
          · skip
            have s62 : sI a0 = a0 := sIo (by omega) (by omega)
            have o63 : 0 ≤ (sI a0) ∧ (sI a0) < 4 := by omega
            refine ⟨o63, ?_⟩
            have q64 : 0 ≤ (M1 6 (sI a0).toNat) ∧ (M1 6 (sI a0).toNat) ≤ 23 := BN.at hB3.1 (rfl : zcd wR 6 = 56) rfl
            have s65 : sI (M1 6 (sI a0).toNat) = (M1 6 (sI a0).toNat) := sIo (by omega) (by omega)
            refine ⟨fun c66 => ?_, fun c66 => ?_⟩
            · skip
              have o67 : 0 ≤ (sI a0) ∧ (sI a0) < 4 := by omega
              refine ⟨o67, ?_⟩
              intro M68 e69
              have hB70 : BI M68 := by rw [e69]; exact BI.up hB3 (rfl : zcd wR 6 = 56) rfl (by omega) (by omega) (by decide)
              have hF71 : ∀ j9 k9 : Nat, ¬ (j9 = 0 ∧ k9 = 35 ∨ j9 = 5 ∨ j9 = 6) → M68 j9 k9 = M j9 k9 := fun j9 k9 h9 => by rw [e69]; exact (zup_n _ _ (by omega)).trans (hF4 j9 k9 h9)
              exact hQ _ _ ⟨hB70, hF71, (by omega), trivial⟩
            · skip
              have o72 : 0 ≤ (sI a0) ∧ (sI a0) < 4 := by omega
              refine ⟨o72, ?_⟩
              intro M73 e74
              have hB75 : BI M73 := by rw [e74]; exact BI.up hB3 (rfl : zcd wR 5 = 55) rfl (by omega) (by omega) (by decide)
              have hF76 : ∀ j9 k9 : Nat, ¬ (j9 = 0 ∧ k9 = 35 ∨ j9 = 5 ∨ j9 = 6) → M73 j9 k9 = M j9 k9 := fun j9 k9 h9 => by rw [e74]; exact (zup_n _ _ (by omega)).trans (hF4 j9 k9 h9)
              exact hQ _ _ ⟨hB75, hF76, (by omega), trivial⟩
          · skip
            have s77 : sI a0 = a0 := sIo (by omega) (by omega)
            have o78 : 0 ≤ (sI a0) ∧ (sI a0) < 4 := by omega
            refine ⟨o78, ?_⟩
            have q79 : 0 ≤ (M1 5 (sI a0).toNat) ∧ (M1 5 (sI a0).toNat) ≤ 1 := BN.at hB3.1 (rfl : zcd wR 5 = 55) rfl
            have s80 : sI (M1 5 (sI a0).toNat) = (M1 5 (sI a0).toNat) := sIo (by omega) (by omega)
            refine ⟨fun c81 => ?_, fun c81 => ?_⟩
            · skip
              have o82 : 0 ≤ (sI a0) ∧ (sI a0) < 4 := by omega
              refine ⟨o82, ?_⟩
              intro M83 e84
              have hB85 : BI M83 := by rw [e84]; exact BI.up hB3 (rfl : zcd wR 6 = 56) rfl (by omega) (by omega) (by decide)
              have hF86 : ∀ j9 k9 : Nat, ¬ (j9 = 0 ∧ k9 = 35 ∨ j9 = 5 ∨ j9 = 6) → M83 j9 k9 = M j9 k9 := fun j9 k9 h9 => by rw [e84]; exact (zup_n _ _ (by omega)).trans (hF4 j9 k9 h9)
              exact hQ _ _ ⟨hB85, hF86, (by omega), trivial⟩
            · skip
              have o87 : 0 ≤ (sI a0) ∧ (sI a0) < 4 := by omega
              refine ⟨o87, ?_⟩
              intro M88 e89
              have hB90 : BI M88 := by rw [e89]; exact BI.up hB3 (rfl : zcd wR 5 = 55) rfl (by omega) (by omega) (by decide)
              have hF91 : ∀ j9 k9 : Nat, ¬ (j9 = 0 ∧ k9 = 35 ∨ j9 = 5 ∨ j9 = 6) → M88 j9 k9 = M j9 k9 := fun j9 k9 h9 => by rw [e89]; exact (zup_n _ _ (by omega)).trans (hF4 j9 k9 h9)
              exact hQ _ _ ⟨hB90, hF91, (by omega), trivial⟩
        · skip
          exact hQ _ _ ⟨hB3, hF4, (by omega), trivial⟩
set_option maxHeartbeats 4000000 in
set_option maxRecDepth 100000 in
theorem sR_bitCount {M : zM} {a0 : Int} (hB : BI M) (v0 : (-2147483648) ≤ a0 ∧ a0 ≤ 2147483647) {Q : Int → Prop} (hQ : ∀ (z : Int), ((-2147483648) ≤ z ∧ z ≤ 2147483647) ∧ True → Q z) : wR_bitCount a0 M Q := by
  unfold wR_bitCount
  have q1 := ushrI_R a0 1
  have q2 := andI_br (ushrI a0 1) (c := 1431655765) (by decide) (by decide)
  have q3 := andI_br (a0 - (andI (ushrI a0 1) 1431655765)) (c := 858993459) (by decide) (by decide)
  have q4 := ushrI_R (a0 - (andI (ushrI a0 1) 1431655765)) 2
  have q5 := andI_br (ushrI (a0 - (andI (ushrI a0 1) 1431655765)) 2) (c := 858993459) (by decide) (by decide)
  intro t6 e7
  have q8 := ushrI_R t6 4
  have q9 := andI_br (t6 + (ushrI t6 4)) (c := 252645135) (by decide) (by decide)
  have q10 := ushrI_R (andI (t6 + (ushrI t6 4)) 252645135) 8
  intro t11 e12
  have q13 := ushrI_R t11 16
  have q14 := andI_br (t11 + (ushrI t11 16)) (c := 63) (by decide) (by decide)
  exact hQ _ ⟨(by omega), trivial⟩
set_option maxHeartbeats 4000000 in
set_option maxRecDepth 100000 in
theorem sR_head {M : zM} {a0 : Int} {a1 : Int} {a2 : Int} (hB : BI M) (v0 : (-2147483648) ≤ a0 ∧ a0 ≤ 2147483647) (v1 : (-2147483648) ≤ a1 ∧ a1 ≤ 2147483647) (v2 : (-2147483648) ≤ a2 ∧ a2 ≤ 2147483647) {Q : Int → zM → Prop} (hQ : ∀ (z : Int) (M1 : zM), BI M1 ∧ (∀ j9 k9 : Nat, ¬ (j9 = 0 ∧ k9 = 35 ∨ j9 = 7) → M1 j9 k9 = M j9 k9) ∧ ((-2147483648) ≤ z ∧ z ≤ 2147483647) ∧ True → Q z M1) : wR_head a0 a1 a2 M Q := by
  unfold wR_head
  have hF0 : ∀ j9 k9 : Nat, ¬ (j9 = 0 ∧ k9 = 35 ∨ j9 = 7) → M j9 k9 = M j9 k9 := fun j9 k9 _ => rfl
  intro M1 e2
  have hB3 : BI M1 := by rw [e2]; exact BI.up0 hB rfl (by omega) (by omega) (by decide)
  have hF4 : ∀ j9 k9 : Nat, ¬ (j9 = 0 ∧ k9 = 35 ∨ j9 = 7) → M1 j9 k9 = M j9 k9 := fun j9 k9 h9 => by rw [e2]; exact (zup_n _ _ (by omega)).trans (hF0 j9 k9 h9)
  refine sR_isRing hB3 (by omega) (fun z5  h6 => ?_)
  obtain ⟨p7, p8, -⟩ := h6
  refine ⟨fun c9 => ?_, fun c9 => ?_⟩
  · skip
    exact hQ _ _ ⟨hB3, hF4, (by omega), trivial⟩
  · skip
    refine sR_in hB3 (by omega) (by omega) (by omega) (fun z10  h11 => ?_)
    obtain ⟨p12, p13, -⟩ := h11
    refine ⟨fun c14 => ?_, fun c14 => ?_⟩
    · skip
      have s15 : sI a2 = a2 := sIo (by omega) (by omega)
      refine pJ1_dup ?_
      refine ⟨fun c16 => ?_, fun c16 => ?_⟩
      · skip
        have s17 : sI a0 = a0 := sIo (by omega) (by omega)
        have o18 : 0 ≤ (sI a0) ∧ (sI a0) < 4 := by omega
        refine ⟨o18, ?_⟩
        have q19 : (-2147483648) ≤ (M1 7 (sI a0).toNat) ∧ (M1 7 (sI a0).toNat) ≤ 2147483647 := BN.at hB3.1 (rfl : zcd wR 7 = 57) rfl
        have q20 := shlI_R 1 a1
        have q21 := xorI_R (shlI 1 a1) (-1)
        have q22 := andI_R (M1 7 (sI a0).toNat) (xorI (shlI 1 a1) (-1))
        have s23 : sI (andI (M1 7 (sI a0).toNat) (xorI (shlI 1 a1) (-1))) = (andI (M1 7 (sI a0).toNat) (xorI (shlI 1 a1) (-1))) := sIo (by omega) (by omega)
        refine ⟨fun c24 => ?_, fun c24 => ?_⟩
        · skip
          have o25 : 0 ≤ (sI a0) ∧ (sI a0) < 4 := by omega
          refine ⟨o25, ?_⟩
          intro M26 e27
          have hB28 : BI M26 := by rw [e27]; exact BI.up hB3 (rfl : zcd wR 7 = 57) rfl (by omega) (by omega) (by decide)
          have hF29 : ∀ j9 k9 : Nat, ¬ (j9 = 0 ∧ k9 = 35 ∨ j9 = 7) → M26 j9 k9 = M j9 k9 := fun j9 k9 h9 => by rw [e27]; exact (zup_n _ _ (by omega)).trans (hF4 j9 k9 h9)
          refine sR_bitCount hB28 (by omega) (fun z30  h31 => ?_)
          obtain ⟨p32, -⟩ := h31
          exact hQ _ _ ⟨hB28, hF29, (by omega), trivial⟩
        · skip
          exact hQ _ _ ⟨hB3, hF4, (by omega), trivial⟩
      · skip
        have s33 : sI a0 = a0 := sIo (by omega) (by omega)
        have o34 : 0 ≤ (sI a0) ∧ (sI a0) < 4 := by omega
        refine ⟨o34, ?_⟩
        have q35 : (-2147483648) ≤ (M1 7 (sI a0).toNat) ∧ (M1 7 (sI a0).toNat) ≤ 2147483647 := BN.at hB3.1 (rfl : zcd wR 7 = 57) rfl
        have q36 := shlI_R 1 a1
        have q37 := orI_R (M1 7 (sI a0).toNat) (shlI 1 a1)
        have s38 : sI (orI (M1 7 (sI a0).toNat) (shlI 1 a1)) = (orI (M1 7 (sI a0).toNat) (shlI 1 a1)) := sIo (by omega) (by omega)
        refine ⟨fun c39 => ?_, fun c39 => ?_⟩
        · skip
          have o40 : 0 ≤ (sI a0) ∧ (sI a0) < 4 := by omega
          refine ⟨o40, ?_⟩
          intro M41 e42
          have hB43 : BI M41 := by rw [e42]; exact BI.up hB3 (rfl : zcd wR 7 = 57) rfl (by omega) (by omega) (by decide)
          have hF44 : ∀ j9 k9 : Nat, ¬ (j9 = 0 ∧ k9 = 35 ∨ j9 = 7) → M41 j9 k9 = M j9 k9 := fun j9 k9 h9 => by rw [e42]; exact (zup_n _ _ (by omega)).trans (hF4 j9 k9 h9)
          refine sR_bitCount hB43 (by omega) (fun z45  h46 => ?_)
          obtain ⟨p47, -⟩ := h46
          exact hQ _ _ ⟨hB43, hF44, (by omega), trivial⟩
        · skip
          exact hQ _ _ ⟨hB3, hF4, (by omega), trivial⟩
    · skip
      exact hQ _ _ ⟨hB3, hF4, (by omega), trivial⟩
set_option maxHeartbeats 4000000 in
set_option maxRecDepth 100000 in
theorem sR_motor {M : zM} {a0 : Int} {a1 : Int} {a2 : Int} (hB : BI M) (v0 : (-2147483648) ≤ a0 ∧ a0 ≤ 2147483647) (v1 : (-2147483648) ≤ a1 ∧ a1 ≤ 2147483647) (v2 : (-2147483648) ≤ a2 ∧ a2 ≤ 2147483647) {Q : Int → zM → Prop} (hQ : ∀ (z : Int) (M1 : zM), BI M1 ∧ (∀ j9 k9 : Nat, ¬ (j9 = 0 ∧ k9 = 35 ∨ j9 = 9 ∨ j9 = 10 ∨ j9 = 11) → M1 j9 k9 = M j9 k9) ∧ (0 ≤ z ∧ z ≤ 1) ∧ True → Q z M1) : wR_motor a0 a1 a2 M Q := by
  unfold wR_motor
  have hF0 : ∀ j9 k9 : Nat, ¬ (j9 = 0 ∧ k9 = 35 ∨ j9 = 9 ∨ j9 = 10 ∨ j9 = 11) → M j9 k9 = M j9 k9 := fun j9 k9 _ => rfl
  intro M1 e2
  have hB3 : BI M1 := by rw [e2]; exact BI.up0 hB rfl (by omega) (by omega) (by decide)
  have hF4 : ∀ j9 k9 : Nat, ¬ (j9 = 0 ∧ k9 = 35 ∨ j9 = 9 ∨ j9 = 10 ∨ j9 = 11) → M1 j9 k9 = M j9 k9 := fun j9 k9 h9 => by rw [e2]; exact (zup_n _ _ (by omega)).trans (hF0 j9 k9 h9)
  have r5 : M1 11 (sI a0).toNat = M 11 (sI a0).toNat := by rw [e2]; exact zup_n _ _ (by omega)
  refine sR_isMotor hB3 (by omega) (fun z6  h7 => ?_)
  obtain ⟨p8, p9, -⟩ := h7
  refine ⟨fun c10 => ?_, fun c10 => ?_⟩
  · skip
    exact hQ _ _ ⟨hB3, hF4, (by omega), trivial⟩
  · skip
    refine sR_in hB3 (by omega) (by omega) (by omega) (fun z11  h12 => ?_)
    obtain ⟨p13, p14, -⟩ := h12
    refine ⟨fun c15 => ?_, fun c15 => ?_⟩
    · skip
      exact hQ _ _ ⟨hB3, hF4, (by omega), trivial⟩
    · skip
      refine sR_in hB3 (by omega) (by omega) (by omega) (fun z16  h17 => ?_)
      obtain ⟨p18, p19, -⟩ := h17
      refine ⟨fun c20 => ?_, fun c20 => ?_⟩
      · skip
        have s21 : sI a0 = a0 := sIo (by omega) (by omega)
        have o22 : 0 ≤ (sI a0) ∧ (sI a0) < 2 := by omega
        refine ⟨o22, ?_⟩
        have q23 : 0 ≤ (M1 11 (sI a0).toNat) ∧ (M1 11 (sI a0).toNat) ≤ 12 := BN.at hB3.1 (rfl : zcd wR 11 = 61) rfl
        refine pL1_of (fun x24 => (0 ≤ x24 ∧ x24 ≤ 1000000) ∧ (x24 ≤ M 11 (sI a0).toNat) ∧ True) (fun x24 => (1000000 - x24).toNat) ⟨(by omega), (by omega), trivial⟩ (fun K x24 h27 k28 => ?_)
        obtain ⟨i25, i26, -⟩ := h27
        have s29 : sI x24 = x24 := sIo (by omega) (by omega)
        have s30 : sI (M1 11 (sI a0).toNat) = (M1 11 (sI a0).toNat) := sIo (by omega) (by omega)
        refine pJ0_dup ?_
        refine ⟨fun c31 => ?_, fun c31 => ?_⟩
        · skip
          refine wJ0_dup ?_
          refine pJ0_dup ?_
          refine ⟨fun c32 => ?_, fun c32 => ?_⟩
          · skip
            refine ⟨fun c33 => ?_, fun c33 => ?_⟩
            · skip
              refine wL1_of (fun x34 M35 => BI M35 ∧ (∀ j9 k9 : Nat, ¬ (j9 = 0 ∧ k9 = 35 ∨ j9 = 9 ∨ j9 = 10 ∨ j9 = 11) → M35 j9 k9 = M j9 k9) ∧ (0 ≤ x34 ∧ x34 ≤ 11) ∧ (M35 11 (sI a0).toNat = M 11 (sI a0).toNat) ∧ True) (fun x34 M35 => (x34 + 1).toNat) ⟨hB3, hF4, (by omega), (by omega), trivial⟩ (fun K x34 M35 h40 k41 => ?_)
              obtain ⟨hB36, hF37, i38, i39, -⟩ := h40
              have s42 : sI x34 = x34 := sIo (by omega) (by omega)
              have s43 : sI x24 = x24 := sIo (by omega) (by omega)
              refine ⟨fun c44 => ?_, fun c44 => ?_⟩
              · skip
                have s45 : sI a0 = a0 := sIo (by omega) (by omega)
                have o46 : 0 ≤ (sI a0) ∧ (sI a0) < 2 := by omega
                refine ⟨o46, ?_⟩
                have q47 : 0 ≤ (M35 11 (sI a0).toNat) ∧ (M35 11 (sI a0).toNat) ≤ 12 := BN.at hB36.1 (rfl : zcd wR 11 = 61) rfl
                have o48 : 0 ≤ (sI a0) ∧ (sI a0) < 2 := by omega
                refine ⟨o48, ?_⟩
                intro M49 e50
                have hB51 : BI M49 := by rw [e50]; exact BI.up hB36 (rfl : zcd wR 11 = 61) rfl (by omega) (by omega) (by decide)
                have hF52 : ∀ j9 k9 : Nat, ¬ (j9 = 0 ∧ k9 = 35 ∨ j9 = 9 ∨ j9 = 10 ∨ j9 = 11) → M49 j9 k9 = M j9 k9 := fun j9 k9 h9 => by rw [e50]; exact (zup_n _ _ (by omega)).trans (hF37 j9 k9 h9)
                have r53 : M49 11 (sI a0).toNat = ((M35 11 (sI a0).toNat) + 1) := by rw [e50]; exact zup_s _ _ _ _
                have s54 := sI_R ((12 * a0) + x24)
                have s55 := sI_or ((12 * a0) + x24)
                have o56 : 0 ≤ (sI ((12 * a0) + x24)) ∧ (sI ((12 * a0) + x24)) < 24 := by omega
                refine ⟨o56, ?_⟩
                intro M57 e58
                have hB59 : BI M57 := by rw [e58]; exact BI.up hB51 (rfl : zcd wR 9 = 59) rfl (by omega) (by omega) (by decide)
                have hF60 : ∀ j9 k9 : Nat, ¬ (j9 = 0 ∧ k9 = 35 ∨ j9 = 9 ∨ j9 = 10 ∨ j9 = 11) → M57 j9 k9 = M j9 k9 := fun j9 k9 h9 => by rw [e58]; exact (zup_n _ _ (by omega)).trans (hF52 j9 k9 h9)
                have r61 : M57 11 (sI a0).toNat = M49 11 (sI a0).toNat := by rw [e58]; exact zup_n _ _ (by omega)
                have o62 : 0 ≤ (sI ((12 * a0) + x24)) ∧ (sI ((12 * a0) + x24)) < 24 := by omega
                refine ⟨o62, ?_⟩
                intro M63 e64
                have hB65 : BI M63 := by rw [e64]; exact BI.up hB59 (rfl : zcd wR 10 = 60) rfl (by omega) (by omega) (by decide)
                have hF66 : ∀ j9 k9 : Nat, ¬ (j9 = 0 ∧ k9 = 35 ∨ j9 = 9 ∨ j9 = 10 ∨ j9 = 11) → M63 j9 k9 = M j9 k9 := fun j9 k9 h9 => by rw [e64]; exact (zup_n _ _ (by omega)).trans (hF60 j9 k9 h9)
                have r67 : M63 11 (sI a0).toNat = M57 11 (sI a0).toNat := by rw [e64]; exact zup_n _ _ (by omega)
                exact hQ _ _ ⟨hB65, hF66, (by omega), trivial⟩
              · skip
                have s68 := sI_R (((12 * a0) + x34) - 1)
                have s69 := sI_or (((12 * a0) + x34) - 1)
                have o70 : 0 ≤ (sI (((12 * a0) + x34) - 1)) ∧ (sI (((12 * a0) + x34) - 1)) < 24 := by omega
                refine ⟨o70, ?_⟩
                have q71 : 0 ≤ (M35 9 (sI (((12 * a0) + x34) - 1)).toNat) ∧ (M35 9 (sI (((12 * a0) + x34) - 1)).toNat) ≤ 5000 := BN.at hB36.1 (rfl : zcd wR 9 = 59) rfl
                have s72 := sI_R ((12 * a0) + x34)
                have s73 := sI_or ((12 * a0) + x34)
                have o74 : 0 ≤ (sI ((12 * a0) + x34)) ∧ (sI ((12 * a0) + x34)) < 24 := by omega
                refine ⟨o74, ?_⟩
                intro M75 e76
                have hB77 : BI M75 := by rw [e76]; exact BI.up hB36 (rfl : zcd wR 9 = 59) rfl (by omega) (by omega) (by decide)
                have hF78 : ∀ j9 k9 : Nat, ¬ (j9 = 0 ∧ k9 = 35 ∨ j9 = 9 ∨ j9 = 10 ∨ j9 = 11) → M75 j9 k9 = M j9 k9 := fun j9 k9 h9 => by rw [e76]; exact (zup_n _ _ (by omega)).trans (hF37 j9 k9 h9)
                have r79 : M75 11 (sI a0).toNat = M35 11 (sI a0).toNat := by rw [e76]; exact zup_n _ _ (by omega)
                have o80 : 0 ≤ (sI (((12 * a0) + x34) - 1)) ∧ (sI (((12 * a0) + x34) - 1)) < 24 := by omega
                refine ⟨o80, ?_⟩
                have q81 : (-9) ≤ (M75 10 (sI (((12 * a0) + x34) - 1)).toNat) ∧ (M75 10 (sI (((12 * a0) + x34) - 1)).toNat) ≤ 9 := BN.at hB77.1 (rfl : zcd wR 10 = 60) rfl
                have o82 : 0 ≤ (sI ((12 * a0) + x34)) ∧ (sI ((12 * a0) + x34)) < 24 := by omega
                refine ⟨o82, ?_⟩
                intro M83 e84
                have hB85 : BI M83 := by rw [e84]; exact BI.up hB77 (rfl : zcd wR 10 = 60) rfl (by omega) (by omega) (by decide)
                have hF86 : ∀ j9 k9 : Nat, ¬ (j9 = 0 ∧ k9 = 35 ∨ j9 = 9 ∨ j9 = 10 ∨ j9 = 11) → M83 j9 k9 = M j9 k9 := fun j9 k9 h9 => by rw [e84]; exact (zup_n _ _ (by omega)).trans (hF78 j9 k9 h9)
                have r87 : M83 11 (sI a0).toNat = M75 11 (sI a0).toNat := by rw [e84]; exact zup_n _ _ (by omega)
                exact k41 _ _ ⟨hB85, hF86, (by omega), (by omega), trivial⟩ (by omega)
            · skip
              exact hQ _ _ ⟨hB3, hF4, (by omega), trivial⟩
          · skip
            have s88 := sI_R ((12 * a0) + x24)
            have s89 := sI_or ((12 * a0) + x24)
            have o90 : 0 ≤ (sI ((12 * a0) + x24)) ∧ (sI ((12 * a0) + x24)) < 24 := by omega
            refine ⟨o90, ?_⟩
            have q91 : 0 ≤ (M1 9 (sI ((12 * a0) + x24)).toNat) ∧ (M1 9 (sI ((12 * a0) + x24)).toNat) ≤ 5000 := BN.at hB3.1 (rfl : zcd wR 9 = 59) rfl
            have s92 : sI (M1 9 (sI ((12 * a0) + x24)).toNat) = (M1 9 (sI ((12 * a0) + x24)).toNat) := sIo (by omega) (by omega)
            have s93 : sI a1 = a1 := sIo (by omega) (by omega)
            refine ⟨fun c94 => ?_, fun c94 => ?_⟩
            · skip
              have o95 : 0 ≤ (sI ((12 * a0) + x24)) ∧ (sI ((12 * a0) + x24)) < 24 := by omega
              refine ⟨o95, ?_⟩
              intro M96 e97
              have hB98 : BI M96 := by rw [e97]; exact BI.up hB3 (rfl : zcd wR 9 = 59) rfl (by omega) (by omega) (by decide)
              have hF99 : ∀ j9 k9 : Nat, ¬ (j9 = 0 ∧ k9 = 35 ∨ j9 = 9 ∨ j9 = 10 ∨ j9 = 11) → M96 j9 k9 = M j9 k9 := fun j9 k9 h9 => by rw [e97]; exact (zup_n _ _ (by omega)).trans (hF4 j9 k9 h9)
              have r100 : M96 11 (sI a0).toNat = M1 11 (sI a0).toNat := by rw [e97]; exact zup_n _ _ (by omega)
              have o101 : 0 ≤ (sI ((12 * a0) + x24)) ∧ (sI ((12 * a0) + x24)) < 24 := by omega
              refine ⟨o101, ?_⟩
              intro M102 e103
              have hB104 : BI M102 := by rw [e103]; exact BI.up hB98 (rfl : zcd wR 10 = 60) rfl (by omega) (by omega) (by decide)
              have hF105 : ∀ j9 k9 : Nat, ¬ (j9 = 0 ∧ k9 = 35 ∨ j9 = 9 ∨ j9 = 10 ∨ j9 = 11) → M102 j9 k9 = M j9 k9 := fun j9 k9 h9 => by rw [e103]; exact (zup_n _ _ (by omega)).trans (hF99 j9 k9 h9)
              have r106 : M102 11 (sI a0).toNat = M96 11 (sI a0).toNat := by rw [e103]; exact zup_n _ _ (by omega)
              exact hQ _ _ ⟨hB104, hF105, (by omega), trivial⟩
            · skip
              refine ⟨fun c107 => ?_, fun c107 => ?_⟩
              · skip
                refine wL1_of (fun x108 M109 => BI M109 ∧ (∀ j9 k9 : Nat, ¬ (j9 = 0 ∧ k9 = 35 ∨ j9 = 9 ∨ j9 = 10 ∨ j9 = 11) → M109 j9 k9 = M j9 k9) ∧ (0 ≤ x108 ∧ x108 ≤ 11) ∧ (M109 11 (sI a0).toNat = M 11 (sI a0).toNat) ∧ True) (fun x108 M109 => (x108 + 1).toNat) ⟨hB3, hF4, (by omega), (by omega), trivial⟩ (fun K x108 M109 h114 k115 => ?_)
                obtain ⟨hB110, hF111, i112, i113, -⟩ := h114
                have s116 : sI x108 = x108 := sIo (by omega) (by omega)
                have s117 : sI x24 = x24 := sIo (by omega) (by omega)
                refine ⟨fun c118 => ?_, fun c118 => ?_⟩
                · skip
                  have s119 : sI a0 = a0 := sIo (by omega) (by omega)
                  have o120 : 0 ≤ (sI a0) ∧ (sI a0) < 2 := by omega
                  refine ⟨o120, ?_⟩
                  have q121 : 0 ≤ (M109 11 (sI a0).toNat) ∧ (M109 11 (sI a0).toNat) ≤ 12 := BN.at hB110.1 (rfl : zcd wR 11 = 61) rfl
                  have o122 : 0 ≤ (sI a0) ∧ (sI a0) < 2 := by omega
                  refine ⟨o122, ?_⟩
                  intro M123 e124
                  have hB125 : BI M123 := by rw [e124]; exact BI.up hB110 (rfl : zcd wR 11 = 61) rfl (by omega) (by omega) (by decide)
                  have hF126 : ∀ j9 k9 : Nat, ¬ (j9 = 0 ∧ k9 = 35 ∨ j9 = 9 ∨ j9 = 10 ∨ j9 = 11) → M123 j9 k9 = M j9 k9 := fun j9 k9 h9 => by rw [e124]; exact (zup_n _ _ (by omega)).trans (hF111 j9 k9 h9)
                  have r127 : M123 11 (sI a0).toNat = ((M109 11 (sI a0).toNat) + 1) := by rw [e124]; exact zup_s _ _ _ _
                  have s128 := sI_R ((12 * a0) + x24)
                  have s129 := sI_or ((12 * a0) + x24)
                  have o130 : 0 ≤ (sI ((12 * a0) + x24)) ∧ (sI ((12 * a0) + x24)) < 24 := by omega
                  refine ⟨o130, ?_⟩
                  intro M131 e132
                  have hB133 : BI M131 := by rw [e132]; exact BI.up hB125 (rfl : zcd wR 9 = 59) rfl (by omega) (by omega) (by decide)
                  have hF134 : ∀ j9 k9 : Nat, ¬ (j9 = 0 ∧ k9 = 35 ∨ j9 = 9 ∨ j9 = 10 ∨ j9 = 11) → M131 j9 k9 = M j9 k9 := fun j9 k9 h9 => by rw [e132]; exact (zup_n _ _ (by omega)).trans (hF126 j9 k9 h9)
                  have r135 : M131 11 (sI a0).toNat = M123 11 (sI a0).toNat := by rw [e132]; exact zup_n _ _ (by omega)
                  have o136 : 0 ≤ (sI ((12 * a0) + x24)) ∧ (sI ((12 * a0) + x24)) < 24 := by omega
                  refine ⟨o136, ?_⟩
                  intro M137 e138
                  have hB139 : BI M137 := by rw [e138]; exact BI.up hB133 (rfl : zcd wR 10 = 60) rfl (by omega) (by omega) (by decide)
                  have hF140 : ∀ j9 k9 : Nat, ¬ (j9 = 0 ∧ k9 = 35 ∨ j9 = 9 ∨ j9 = 10 ∨ j9 = 11) → M137 j9 k9 = M j9 k9 := fun j9 k9 h9 => by rw [e138]; exact (zup_n _ _ (by omega)).trans (hF134 j9 k9 h9)
                  have r141 : M137 11 (sI a0).toNat = M131 11 (sI a0).toNat := by rw [e138]; exact zup_n _ _ (by omega)
                  exact hQ _ _ ⟨hB139, hF140, (by omega), trivial⟩
                · skip
                  have s142 := sI_R (((12 * a0) + x108) - 1)
                  have s143 := sI_or (((12 * a0) + x108) - 1)
                  have o144 : 0 ≤ (sI (((12 * a0) + x108) - 1)) ∧ (sI (((12 * a0) + x108) - 1)) < 24 := by omega
                  refine ⟨o144, ?_⟩
                  have q145 : 0 ≤ (M109 9 (sI (((12 * a0) + x108) - 1)).toNat) ∧ (M109 9 (sI (((12 * a0) + x108) - 1)).toNat) ≤ 5000 := BN.at hB110.1 (rfl : zcd wR 9 = 59) rfl
                  have s146 := sI_R ((12 * a0) + x108)
                  have s147 := sI_or ((12 * a0) + x108)
                  have o148 : 0 ≤ (sI ((12 * a0) + x108)) ∧ (sI ((12 * a0) + x108)) < 24 := by omega
                  refine ⟨o148, ?_⟩
                  intro M149 e150
                  have hB151 : BI M149 := by rw [e150]; exact BI.up hB110 (rfl : zcd wR 9 = 59) rfl (by omega) (by omega) (by decide)
                  have hF152 : ∀ j9 k9 : Nat, ¬ (j9 = 0 ∧ k9 = 35 ∨ j9 = 9 ∨ j9 = 10 ∨ j9 = 11) → M149 j9 k9 = M j9 k9 := fun j9 k9 h9 => by rw [e150]; exact (zup_n _ _ (by omega)).trans (hF111 j9 k9 h9)
                  have r153 : M149 11 (sI a0).toNat = M109 11 (sI a0).toNat := by rw [e150]; exact zup_n _ _ (by omega)
                  have o154 : 0 ≤ (sI (((12 * a0) + x108) - 1)) ∧ (sI (((12 * a0) + x108) - 1)) < 24 := by omega
                  refine ⟨o154, ?_⟩
                  have q155 : (-9) ≤ (M149 10 (sI (((12 * a0) + x108) - 1)).toNat) ∧ (M149 10 (sI (((12 * a0) + x108) - 1)).toNat) ≤ 9 := BN.at hB151.1 (rfl : zcd wR 10 = 60) rfl
                  have o156 : 0 ≤ (sI ((12 * a0) + x108)) ∧ (sI ((12 * a0) + x108)) < 24 := by omega
                  refine ⟨o156, ?_⟩
                  intro M157 e158
                  have hB159 : BI M157 := by rw [e158]; exact BI.up hB151 (rfl : zcd wR 10 = 60) rfl (by omega) (by omega) (by decide)
                  have hF160 : ∀ j9 k9 : Nat, ¬ (j9 = 0 ∧ k9 = 35 ∨ j9 = 9 ∨ j9 = 10 ∨ j9 = 11) → M157 j9 k9 = M j9 k9 := fun j9 k9 h9 => by rw [e158]; exact (zup_n _ _ (by omega)).trans (hF152 j9 k9 h9)
                  have r161 : M157 11 (sI a0).toNat = M149 11 (sI a0).toNat := by rw [e158]; exact zup_n _ _ (by omega)
                  exact k115 _ _ ⟨hB159, hF160, (by omega), (by omega), trivial⟩ (by omega)
              · skip
                exact hQ _ _ ⟨hB3, hF4, (by omega), trivial⟩
        · skip
          have s162 := sI_R ((12 * a0) + x24)
          have s163 := sI_or ((12 * a0) + x24)
          have o164 : 0 ≤ (sI ((12 * a0) + x24)) ∧ (sI ((12 * a0) + x24)) < 24 := by omega
          refine ⟨o164, ?_⟩
          have q165 : 0 ≤ (M1 9 (sI ((12 * a0) + x24)).toNat) ∧ (M1 9 (sI ((12 * a0) + x24)).toNat) ≤ 5000 := BN.at hB3.1 (rfl : zcd wR 9 = 59) rfl
          have s166 : sI (M1 9 (sI ((12 * a0) + x24)).toNat) = (M1 9 (sI ((12 * a0) + x24)).toNat) := sIo (by omega) (by omega)
          have s167 : sI a1 = a1 := sIo (by omega) (by omega)
          refine ⟨fun c168 => ?_, fun c168 => ?_⟩
          · skip
            refine wJ0_dup ?_
            refine pJ0_dup ?_
            refine ⟨fun c169 => ?_, fun c169 => ?_⟩
            · skip
              refine ⟨fun c170 => ?_, fun c170 => ?_⟩
              · skip
                refine wL1_of (fun x171 M172 => BI M172 ∧ (∀ j9 k9 : Nat, ¬ (j9 = 0 ∧ k9 = 35 ∨ j9 = 9 ∨ j9 = 10 ∨ j9 = 11) → M172 j9 k9 = M j9 k9) ∧ (0 ≤ x171 ∧ x171 ≤ 11) ∧ (M172 11 (sI a0).toNat = M 11 (sI a0).toNat) ∧ True) (fun x171 M172 => (x171 + 1).toNat) ⟨hB3, hF4, (by omega), (by omega), trivial⟩ (fun K x171 M172 h177 k178 => ?_)
                obtain ⟨hB173, hF174, i175, i176, -⟩ := h177
                have s179 : sI x171 = x171 := sIo (by omega) (by omega)
                have s180 : sI x24 = x24 := sIo (by omega) (by omega)
                refine ⟨fun c181 => ?_, fun c181 => ?_⟩
                · skip
                  have s182 : sI a0 = a0 := sIo (by omega) (by omega)
                  have o183 : 0 ≤ (sI a0) ∧ (sI a0) < 2 := by omega
                  refine ⟨o183, ?_⟩
                  have q184 : 0 ≤ (M172 11 (sI a0).toNat) ∧ (M172 11 (sI a0).toNat) ≤ 12 := BN.at hB173.1 (rfl : zcd wR 11 = 61) rfl
                  have o185 : 0 ≤ (sI a0) ∧ (sI a0) < 2 := by omega
                  refine ⟨o185, ?_⟩
                  intro M186 e187
                  have hB188 : BI M186 := by rw [e187]; exact BI.up hB173 (rfl : zcd wR 11 = 61) rfl (by omega) (by omega) (by decide)
                  have hF189 : ∀ j9 k9 : Nat, ¬ (j9 = 0 ∧ k9 = 35 ∨ j9 = 9 ∨ j9 = 10 ∨ j9 = 11) → M186 j9 k9 = M j9 k9 := fun j9 k9 h9 => by rw [e187]; exact (zup_n _ _ (by omega)).trans (hF174 j9 k9 h9)
                  have r190 : M186 11 (sI a0).toNat = ((M172 11 (sI a0).toNat) + 1) := by rw [e187]; exact zup_s _ _ _ _
                  have s191 := sI_R ((12 * a0) + x24)
                  have s192 := sI_or ((12 * a0) + x24)
                  have o193 : 0 ≤ (sI ((12 * a0) + x24)) ∧ (sI ((12 * a0) + x24)) < 24 := by omega
                  refine ⟨o193, ?_⟩
                  intro M194 e195
                  have hB196 : BI M194 := by rw [e195]; exact BI.up hB188 (rfl : zcd wR 9 = 59) rfl (by omega) (by omega) (by decide)
                  have hF197 : ∀ j9 k9 : Nat, ¬ (j9 = 0 ∧ k9 = 35 ∨ j9 = 9 ∨ j9 = 10 ∨ j9 = 11) → M194 j9 k9 = M j9 k9 := fun j9 k9 h9 => by rw [e195]; exact (zup_n _ _ (by omega)).trans (hF189 j9 k9 h9)
                  have r198 : M194 11 (sI a0).toNat = M186 11 (sI a0).toNat := by rw [e195]; exact zup_n _ _ (by omega)
                  have o199 : 0 ≤ (sI ((12 * a0) + x24)) ∧ (sI ((12 * a0) + x24)) < 24 := by omega
                  refine ⟨o199, ?_⟩
                  intro M200 e201
                  have hB202 : BI M200 := by rw [e201]; exact BI.up hB196 (rfl : zcd wR 10 = 60) rfl (by omega) (by omega) (by decide)
                  have hF203 : ∀ j9 k9 : Nat, ¬ (j9 = 0 ∧ k9 = 35 ∨ j9 = 9 ∨ j9 = 10 ∨ j9 = 11) → M200 j9 k9 = M j9 k9 := fun j9 k9 h9 => by rw [e201]; exact (zup_n _ _ (by omega)).trans (hF197 j9 k9 h9)
                  have r204 : M200 11 (sI a0).toNat = M194 11 (sI a0).toNat := by rw [e201]; exact zup_n _ _ (by omega)
                  exact hQ _ _ ⟨hB202, hF203, (by omega), trivial⟩
                · skip
                  have s205 := sI_R (((12 * a0) + x171) - 1)
                  have s206 := sI_or (((12 * a0) + x171) - 1)
                  have o207 : 0 ≤ (sI (((12 * a0) + x171) - 1)) ∧ (sI (((12 * a0) + x171) - 1)) < 24 := by omega
                  refine ⟨o207, ?_⟩
                  have q208 : 0 ≤ (M172 9 (sI (((12 * a0) + x171) - 1)).toNat) ∧ (M172 9 (sI (((12 * a0) + x171) - 1)).toNat) ≤ 5000 := BN.at hB173.1 (rfl : zcd wR 9 = 59) rfl
                  have s209 := sI_R ((12 * a0) + x171)
                  have s210 := sI_or ((12 * a0) + x171)
                  have o211 : 0 ≤ (sI ((12 * a0) + x171)) ∧ (sI ((12 * a0) + x171)) < 24 := by omega
                  refine ⟨o211, ?_⟩
                  intro M212 e213
                  have hB214 : BI M212 := by rw [e213]; exact BI.up hB173 (rfl : zcd wR 9 = 59) rfl (by omega) (by omega) (by decide)
                  have hF215 : ∀ j9 k9 : Nat, ¬ (j9 = 0 ∧ k9 = 35 ∨ j9 = 9 ∨ j9 = 10 ∨ j9 = 11) → M212 j9 k9 = M j9 k9 := fun j9 k9 h9 => by rw [e213]; exact (zup_n _ _ (by omega)).trans (hF174 j9 k9 h9)
                  have r216 : M212 11 (sI a0).toNat = M172 11 (sI a0).toNat := by rw [e213]; exact zup_n _ _ (by omega)
                  have o217 : 0 ≤ (sI (((12 * a0) + x171) - 1)) ∧ (sI (((12 * a0) + x171) - 1)) < 24 := by omega
                  refine ⟨o217, ?_⟩
                  have q218 : (-9) ≤ (M212 10 (sI (((12 * a0) + x171) - 1)).toNat) ∧ (M212 10 (sI (((12 * a0) + x171) - 1)).toNat) ≤ 9 := BN.at hB214.1 (rfl : zcd wR 10 = 60) rfl
                  have o219 : 0 ≤ (sI ((12 * a0) + x171)) ∧ (sI ((12 * a0) + x171)) < 24 := by omega
                  refine ⟨o219, ?_⟩
                  intro M220 e221
                  have hB222 : BI M220 := by rw [e221]; exact BI.up hB214 (rfl : zcd wR 10 = 60) rfl (by omega) (by omega) (by decide)
                  have hF223 : ∀ j9 k9 : Nat, ¬ (j9 = 0 ∧ k9 = 35 ∨ j9 = 9 ∨ j9 = 10 ∨ j9 = 11) → M220 j9 k9 = M j9 k9 := fun j9 k9 h9 => by rw [e221]; exact (zup_n _ _ (by omega)).trans (hF215 j9 k9 h9)
                  have r224 : M220 11 (sI a0).toNat = M212 11 (sI a0).toNat := by rw [e221]; exact zup_n _ _ (by omega)
                  exact k178 _ _ ⟨hB222, hF223, (by omega), (by omega), trivial⟩ (by omega)
              · skip
                exact hQ _ _ ⟨hB3, hF4, (by omega), trivial⟩
            · skip
              have o225 : 0 ≤ (sI ((12 * a0) + x24)) ∧ (sI ((12 * a0) + x24)) < 24 := by omega
              refine ⟨o225, ?_⟩
              refine ⟨fun c227 => ?_, fun c227 => ?_⟩
              · skip
                have o228 : 0 ≤ (sI ((12 * a0) + x24)) ∧ (sI ((12 * a0) + x24)) < 24 := by omega
                refine ⟨o228, ?_⟩
                intro M229 e230
                have hB231 : BI M229 := by rw [e230]; exact BI.up hB3 (rfl : zcd wR 9 = 59) rfl (by omega) (by omega) (by decide)
                have hF232 : ∀ j9 k9 : Nat, ¬ (j9 = 0 ∧ k9 = 35 ∨ j9 = 9 ∨ j9 = 10 ∨ j9 = 11) → M229 j9 k9 = M j9 k9 := fun j9 k9 h9 => by rw [e230]; exact (zup_n _ _ (by omega)).trans (hF4 j9 k9 h9)
                have r233 : M229 11 (sI a0).toNat = M1 11 (sI a0).toNat := by rw [e230]; exact zup_n _ _ (by omega)
                have o234 : 0 ≤ (sI ((12 * a0) + x24)) ∧ (sI ((12 * a0) + x24)) < 24 := by omega
                refine ⟨o234, ?_⟩
                intro M235 e236
                have hB237 : BI M235 := by rw [e236]; exact BI.up hB231 (rfl : zcd wR 10 = 60) rfl (by omega) (by omega) (by decide)
                have hF238 : ∀ j9 k9 : Nat, ¬ (j9 = 0 ∧ k9 = 35 ∨ j9 = 9 ∨ j9 = 10 ∨ j9 = 11) → M235 j9 k9 = M j9 k9 := fun j9 k9 h9 => by rw [e236]; exact (zup_n _ _ (by omega)).trans (hF232 j9 k9 h9)
                have r239 : M235 11 (sI a0).toNat = M229 11 (sI a0).toNat := by rw [e236]; exact zup_n _ _ (by omega)
                exact hQ _ _ ⟨hB237, hF238, (by omega), trivial⟩
              · skip
                refine ⟨fun c240 => ?_, fun c240 => ?_⟩
                · skip
                  refine wL1_of (fun x241 M242 => BI M242 ∧ (∀ j9 k9 : Nat, ¬ (j9 = 0 ∧ k9 = 35 ∨ j9 = 9 ∨ j9 = 10 ∨ j9 = 11) → M242 j9 k9 = M j9 k9) ∧ (0 ≤ x241 ∧ x241 ≤ 11) ∧ (M242 11 (sI a0).toNat = M 11 (sI a0).toNat) ∧ True) (fun x241 M242 => (x241 + 1).toNat) ⟨hB3, hF4, (by omega), (by omega), trivial⟩ (fun K x241 M242 h247 k248 => ?_)
                  obtain ⟨hB243, hF244, i245, i246, -⟩ := h247
                  have s249 : sI x241 = x241 := sIo (by omega) (by omega)
                  have s250 : sI x24 = x24 := sIo (by omega) (by omega)
                  refine ⟨fun c251 => ?_, fun c251 => ?_⟩
                  · skip
                    have s252 : sI a0 = a0 := sIo (by omega) (by omega)
                    have o253 : 0 ≤ (sI a0) ∧ (sI a0) < 2 := by omega
                    refine ⟨o253, ?_⟩
                    have q254 : 0 ≤ (M242 11 (sI a0).toNat) ∧ (M242 11 (sI a0).toNat) ≤ 12 := BN.at hB243.1 (rfl : zcd wR 11 = 61) rfl
                    have o255 : 0 ≤ (sI a0) ∧ (sI a0) < 2 := by omega
                    refine ⟨o255, ?_⟩
                    intro M256 e257
                    have hB258 : BI M256 := by rw [e257]; exact BI.up hB243 (rfl : zcd wR 11 = 61) rfl (by omega) (by omega) (by decide)
                    have hF259 : ∀ j9 k9 : Nat, ¬ (j9 = 0 ∧ k9 = 35 ∨ j9 = 9 ∨ j9 = 10 ∨ j9 = 11) → M256 j9 k9 = M j9 k9 := fun j9 k9 h9 => by rw [e257]; exact (zup_n _ _ (by omega)).trans (hF244 j9 k9 h9)
                    have r260 : M256 11 (sI a0).toNat = ((M242 11 (sI a0).toNat) + 1) := by rw [e257]; exact zup_s _ _ _ _
                    have s261 := sI_R ((12 * a0) + x24)
                    have s262 := sI_or ((12 * a0) + x24)
                    have o263 : 0 ≤ (sI ((12 * a0) + x24)) ∧ (sI ((12 * a0) + x24)) < 24 := by omega
                    refine ⟨o263, ?_⟩
                    intro M264 e265
                    have hB266 : BI M264 := by rw [e265]; exact BI.up hB258 (rfl : zcd wR 9 = 59) rfl (by omega) (by omega) (by decide)
                    have hF267 : ∀ j9 k9 : Nat, ¬ (j9 = 0 ∧ k9 = 35 ∨ j9 = 9 ∨ j9 = 10 ∨ j9 = 11) → M264 j9 k9 = M j9 k9 := fun j9 k9 h9 => by rw [e265]; exact (zup_n _ _ (by omega)).trans (hF259 j9 k9 h9)
                    have r268 : M264 11 (sI a0).toNat = M256 11 (sI a0).toNat := by rw [e265]; exact zup_n _ _ (by omega)
                    have o269 : 0 ≤ (sI ((12 * a0) + x24)) ∧ (sI ((12 * a0) + x24)) < 24 := by omega
                    refine ⟨o269, ?_⟩
                    intro M270 e271
                    have hB272 : BI M270 := by rw [e271]; exact BI.up hB266 (rfl : zcd wR 10 = 60) rfl (by omega) (by omega) (by decide)
                    have hF273 : ∀ j9 k9 : Nat, ¬ (j9 = 0 ∧ k9 = 35 ∨ j9 = 9 ∨ j9 = 10 ∨ j9 = 11) → M270 j9 k9 = M j9 k9 := fun j9 k9 h9 => by rw [e271]; exact (zup_n _ _ (by omega)).trans (hF267 j9 k9 h9)
                    have r274 : M270 11 (sI a0).toNat = M264 11 (sI a0).toNat := by rw [e271]; exact zup_n _ _ (by omega)
                    exact hQ _ _ ⟨hB272, hF273, (by omega), trivial⟩
                  · skip
                    have s275 := sI_R (((12 * a0) + x241) - 1)
                    have s276 := sI_or (((12 * a0) + x241) - 1)
                    have o277 : 0 ≤ (sI (((12 * a0) + x241) - 1)) ∧ (sI (((12 * a0) + x241) - 1)) < 24 := by omega
                    refine ⟨o277, ?_⟩
                    have q278 : 0 ≤ (M242 9 (sI (((12 * a0) + x241) - 1)).toNat) ∧ (M242 9 (sI (((12 * a0) + x241) - 1)).toNat) ≤ 5000 := BN.at hB243.1 (rfl : zcd wR 9 = 59) rfl
                    have s279 := sI_R ((12 * a0) + x241)
                    have s280 := sI_or ((12 * a0) + x241)
                    have o281 : 0 ≤ (sI ((12 * a0) + x241)) ∧ (sI ((12 * a0) + x241)) < 24 := by omega
                    refine ⟨o281, ?_⟩
                    intro M282 e283
                    have hB284 : BI M282 := by rw [e283]; exact BI.up hB243 (rfl : zcd wR 9 = 59) rfl (by omega) (by omega) (by decide)
                    have hF285 : ∀ j9 k9 : Nat, ¬ (j9 = 0 ∧ k9 = 35 ∨ j9 = 9 ∨ j9 = 10 ∨ j9 = 11) → M282 j9 k9 = M j9 k9 := fun j9 k9 h9 => by rw [e283]; exact (zup_n _ _ (by omega)).trans (hF244 j9 k9 h9)
                    have r286 : M282 11 (sI a0).toNat = M242 11 (sI a0).toNat := by rw [e283]; exact zup_n _ _ (by omega)
                    have o287 : 0 ≤ (sI (((12 * a0) + x241) - 1)) ∧ (sI (((12 * a0) + x241) - 1)) < 24 := by omega
                    refine ⟨o287, ?_⟩
                    have q288 : (-9) ≤ (M282 10 (sI (((12 * a0) + x241) - 1)).toNat) ∧ (M282 10 (sI (((12 * a0) + x241) - 1)).toNat) ≤ 9 := BN.at hB284.1 (rfl : zcd wR 10 = 60) rfl
                    have o289 : 0 ≤ (sI ((12 * a0) + x241)) ∧ (sI ((12 * a0) + x241)) < 24 := by omega
                    refine ⟨o289, ?_⟩
                    intro M290 e291
                    have hB292 : BI M290 := by rw [e291]; exact BI.up hB284 (rfl : zcd wR 10 = 60) rfl (by omega) (by omega) (by decide)
                    have hF293 : ∀ j9 k9 : Nat, ¬ (j9 = 0 ∧ k9 = 35 ∨ j9 = 9 ∨ j9 = 10 ∨ j9 = 11) → M290 j9 k9 = M j9 k9 := fun j9 k9 h9 => by rw [e291]; exact (zup_n _ _ (by omega)).trans (hF285 j9 k9 h9)
                    have r294 : M290 11 (sI a0).toNat = M282 11 (sI a0).toNat := by rw [e291]; exact zup_n _ _ (by omega)
                    exact k248 _ _ ⟨hB292, hF293, (by omega), (by omega), trivial⟩ (by omega)
                · skip
                  exact hQ _ _ ⟨hB3, hF4, (by omega), trivial⟩
          · skip
            exact k28 _ ⟨(by omega), (by omega), trivial⟩ (by omega)
      · skip
        exact hQ _ _ ⟨hB3, hF4, (by omega), trivial⟩
end zz31_R01
section zz31_R02
set_option maxHeartbeats 4000000 in
set_option maxRecDepth 100000 in
theorem sR_count {M : zM} {a0 : Int} (hB : BI M) (v0 : (-2147483648) ≤ a0 ∧ a0 ≤ 2147483647) {Q : Int → zM → Prop} (hQ : ∀ (z : Int) (M1 : zM), BI M1 ∧ (∀ j9 k9 : Nat, ¬ (j9 = 0 ∧ k9 = 35) → M1 j9 k9 = M j9 k9) ∧ ((-2147483648) ≤ z ∧ z ≤ 2147483647) ∧ True → Q z M1) : wR_count a0 M Q := by
  unfold wR_count
  have hF0 : ∀ j9 k9 : Nat, ¬ (j9 = 0 ∧ k9 = 35) → M j9 k9 = M j9 k9 := fun j9 k9 _ => rfl
  intro M1 e2
  have hB3 : BI M1 := by rw [e2]; exact BI.up0 hB rfl (by omega) (by omega) (by decide)
  have hF4 : ∀ j9 k9 : Nat, ¬ (j9 = 0 ∧ k9 = 35) → M1 j9 k9 = M j9 k9 := fun j9 k9 h9 => by rw [e2]; exact (zup_n _ _ (by omega)).trans (hF0 j9 k9 h9)
  have s5 : sI a0 = a0 := sIo (by omega) (by omega)
  refine ⟨fun c6 => ?_, fun c6 => ?_⟩
  · skip
    have q7 : 0 ≤ (M1 0 10) ∧ (M1 0 10) ≤ 4 := BN.at hB3.1 (rfl : zcd wR 0 = 50) rfl
    have s8 : sI (M1 0 10) = (M1 0 10) := sIo (by omega) (by omega)
    exact hQ _ _ ⟨hB3, hF4, (by omega), trivial⟩
  refine ⟨fun c9 => ?_, fun c9 => ?_⟩
  · skip
    have q10 : 0 ≤ (M1 0 16) ∧ (M1 0 16) ≤ 6 := BN.at hB3.1 (rfl : zcd wR 0 = 50) rfl
    have s11 : sI (M1 0 16) = (M1 0 16) := sIo (by omega) (by omega)
    exact hQ _ _ ⟨hB3, hF4, (by omega), trivial⟩
  refine ⟨fun c12 => ?_, fun c12 => ?_⟩
  · skip
    have q13 : 0 ≤ (M1 0 24) ∧ (M1 0 24) ≤ 60 := BN.at hB3.1 (rfl : zcd wR 0 = 50) rfl
    have s14 : sI (M1 0 24) = (M1 0 24) := sIo (by omega) (by omega)
    exact hQ _ _ ⟨hB3, hF4, (by omega), trivial⟩
  refine ⟨fun c15 => ?_, fun c15 => ?_⟩
  · skip
    have q16 : 0 ≤ (M1 0 27) ∧ (M1 0 27) ≤ 5 := BN.at hB3.1 (rfl : zcd wR 0 = 50) rfl
    have s17 : sI (M1 0 27) = (M1 0 27) := sIo (by omega) (by omega)
    exact hQ _ _ ⟨hB3, hF4, (by omega), trivial⟩
  refine ⟨fun c18 => ?_, fun c18 => ?_⟩
  · skip
    have q19 : 0 ≤ (M1 0 32) ∧ (M1 0 32) ≤ 16 := BN.at hB3.1 (rfl : zcd wR 0 = 50) rfl
    have s20 : sI (M1 0 32) = (M1 0 32) := sIo (by omega) (by omega)
    exact hQ _ _ ⟨hB3, hF4, (by omega), trivial⟩
  refine ⟨fun c21 => ?_, fun c21 => ?_⟩
  · skip
    have q22 : (-1) ≤ (M1 0 34) ∧ (M1 0 34) ≤ 64 := BN.at hB3.1 (rfl : zcd wR 0 = 50) rfl
    have s23 : sI (M1 0 34) = (M1 0 34) := sIo (by omega) (by omega)
    exact hQ _ _ ⟨hB3, hF4, (by omega), trivial⟩
  refine ⟨fun c24 => ?_, fun c24 => ?_⟩
  · skip
    have q25 : 0 ≤ (M1 0 1) ∧ (M1 0 1) ≤ 100 := BN.at hB3.1 (rfl : zcd wR 0 = 50) rfl
    have s26 : sI (M1 0 1) = (M1 0 1) := sIo (by omega) (by omega)
    exact hQ _ _ ⟨hB3, hF4, (by omega), trivial⟩
  refine ⟨fun c27 => ?_, fun c27 => ?_⟩
  · skip
    have q28 : 0 ≤ (M1 0 3) ∧ (M1 0 3) ≤ 24 := BN.at hB3.1 (rfl : zcd wR 0 = 50) rfl
    have s29 : sI (M1 0 3) = (M1 0 3) := sIo (by omega) (by omega)
    exact hQ _ _ ⟨hB3, hF4, (by omega), trivial⟩
  exact hQ _ _ ⟨hB3, hF4, (by omega), trivial⟩
theorem sR_common : ∀ (n : Nat) {M : zM} {a0 a1 : Int} (hB : BI M) (v0 : 0 ≤ a0 ∧ a0 ≤ 2147483647) (v1 : 0 ≤ a1 ∧ a1 < n) {Q : Int → Prop} (hQ : ∀ z, ((0 ≤ z ∧ z ≤ 2147483647) ∧ z = (Nat.gcd a0.toNat a1.toNat : Int) ∧ True) → Q z), n ≤ 2147483647 → wR_common n a0 a1 M Q := by
  intro n
  induction n with
  | zero => intro M a0 a1 hB v0 v1; omega
  | succ n ih =>
    intro M a0 a1 hB v0 v1 Q hQ hn
    show wR_common_F (wR_common n) a0 a1 M Q
    unfold wR_common_F
    have s0 : sI a0 = a0 := sIo (by omega) (by omega)
    have s1 : sI a1 = a1 := sIo (by omega) (by omega)
    rw [s0, s1]
    refine ⟨fun c => ⟨c, ?_⟩, fun c => ?_⟩
    · have t := tmodN a0 a1 v0.1 (by omega)
      refine ih hB (by omega) (by omega) (fun z hp => hQ z ⟨hp.1, ?_, trivial⟩) (by omega)
      rw [hp.2.1, Int.tmod_eq_emod_of_nonneg v0.1]
      have e : (a0 % a1).toNat = a0.toNat % a1.toNat := by
        rw [Int.toNat_emod v0.1 v1.1]
      rw [e, Nat.gcd_comm, ← Nat.gcd_rec, Nat.gcd_comm]
    · refine hQ _ ⟨by omega, ?_, trivial⟩
      rw [c, show (0 : Int).toNat = 0 from rfl, Nat.gcd_zero_right]
      omega
set_option maxHeartbeats 4000000 in
set_option maxRecDepth 100000 in
theorem sR_steady {M : zM} {a0 : Int} (hB : BI M) (v0 : 0 ≤ a0 ∧ a0 ≤ 1) {Q : Int → Prop} (hQ : ∀ (z : Int), (0 ≤ z ∧ z ≤ 5000) ∧ True → Q z) : wR_steady a0 M Q := by
  unfold wR_steady
  have s1 : sI a0 = a0 := sIo (by omega) (by omega)
  have o2 : 0 ≤ (sI a0) ∧ (sI a0) < 2 := by omega
  refine ⟨o2, ?_⟩
  have q3 : 0 ≤ (M 11 (sI a0).toNat) ∧ (M 11 (sI a0).toNat) ≤ 12 := BN.at hB.1 (rfl : zcd wR 11 = 61) rfl
  have s4 : sI (M 11 (sI a0).toNat) = (M 11 (sI a0).toNat) := sIo (by omega) (by omega)
  refine ⟨fun c5 => ?_, fun c5 => ?_⟩
  · skip
    have o6 : 0 ≤ (sI a0) ∧ (sI a0) < 2 := by omega
    refine ⟨o6, ?_⟩
    have s8 : sI (((12 * a0) + (M 11 (sI a0).toNat)) - 1) = (((12 * a0) + (M 11 (sI a0).toNat)) - 1) := sIo (by omega) (by omega)
    have o9 : 0 ≤ (sI (((12 * a0) + (M 11 (sI a0).toNat)) - 1)) ∧ (sI (((12 * a0) + (M 11 (sI a0).toNat)) - 1)) < 24 := by omega
    refine ⟨o9, ?_⟩
    have q10 : 0 ≤ (M 9 (sI (((12 * a0) + (M 11 (sI a0).toNat)) - 1)).toNat) ∧ (M 9 (sI (((12 * a0) + (M 11 (sI a0).toNat)) - 1)).toNat) ≤ 5000 := BN.at hB.1 (rfl : zcd wR 9 = 59) rfl
    have s11 : sI (M 9 (sI (((12 * a0) + (M 11 (sI a0).toNat)) - 1)).toNat) = (M 9 (sI (((12 * a0) + (M 11 (sI a0).toNat)) - 1)).toNat) := sIo (by omega) (by omega)
    exact hQ _ ⟨(by omega), trivial⟩
  · skip
    exact hQ _ ⟨(by omega), trivial⟩
set_option maxHeartbeats 4000000 in
set_option maxRecDepth 100000 in
theorem sR_lastSpeed {M : zM} {a0 : Int} (hB : BI M) (v0 : 0 ≤ a0 ∧ a0 ≤ 1) {Q : Int → Prop} (hQ : ∀ (z : Int), ((-9) ≤ z ∧ z ≤ 9) ∧ True → Q z) : wR_lastSpeed a0 M Q := by
  unfold wR_lastSpeed
  have s1 : sI a0 = a0 := sIo (by omega) (by omega)
  have o2 : 0 ≤ (sI a0) ∧ (sI a0) < 2 := by omega
  refine ⟨o2, ?_⟩
  have q3 : 0 ≤ (M 11 (sI a0).toNat) ∧ (M 11 (sI a0).toNat) ≤ 12 := BN.at hB.1 (rfl : zcd wR 11 = 61) rfl
  have s4 : sI (M 11 (sI a0).toNat) = (M 11 (sI a0).toNat) := sIo (by omega) (by omega)
  refine ⟨fun c5 => ?_, fun c5 => ?_⟩
  · skip
    have o6 : 0 ≤ (sI a0) ∧ (sI a0) < 2 := by omega
    refine ⟨o6, ?_⟩
    have s8 : sI (((12 * a0) + (M 11 (sI a0).toNat)) - 1) = (((12 * a0) + (M 11 (sI a0).toNat)) - 1) := sIo (by omega) (by omega)
    have o9 : 0 ≤ (sI (((12 * a0) + (M 11 (sI a0).toNat)) - 1)) ∧ (sI (((12 * a0) + (M 11 (sI a0).toNat)) - 1)) < 24 := by omega
    refine ⟨o9, ?_⟩
    have q10 : (-9) ≤ (M 10 (sI (((12 * a0) + (M 11 (sI a0).toNat)) - 1)).toNat) ∧ (M 10 (sI (((12 * a0) + (M 11 (sI a0).toNat)) - 1)).toNat) ≤ 9 := BN.at hB.1 (rfl : zcd wR 10 = 60) rfl
    have s11 : sI (M 10 (sI (((12 * a0) + (M 11 (sI a0).toNat)) - 1)).toNat) = (M 10 (sI (((12 * a0) + (M 11 (sI a0).toNat)) - 1)).toNat) := sIo (by omega) (by omega)
    exact hQ _ ⟨(by omega), trivial⟩
  · skip
    exact hQ _ ⟨(by omega), trivial⟩
theorem gcd_b (x y : Int) (hx : 1 ≤ x) : 1 ≤ (Nat.gcd x.toNat y.toNat : Int) ∧ (Nat.gcd x.toNat y.toNat : Int) ≤ x := by
  have h1 : 0 < Nat.gcd x.toNat y.toNat := Nat.gcd_pos_of_pos_left _ (by omega)
  have h2 : Nat.gcd x.toNat y.toNat ≤ x.toNat := Nat.gcd_le_left _ (by omega)
  omega
theorem tdiv1 (x y : Int) (h1 : 1 ≤ y) (h2 : y ≤ x) : 1 ≤ x.tdiv y ∧ x.tdiv y ≤ x := by
  have h := tdivB x y (by omega) h1
  refine ⟨?_, h.2⟩
  rw [Int.tdiv_eq_ediv_of_nonneg (by omega)]
  exact (Int.le_ediv_iff_mul_le (by omega)).mpr (by omega)
theorem sR_round {M : zM} {a0 : Int} (hB : BI M) (v0 : 0 ≤ a0 ∧ a0 ≤ 3) (p0 : a0 < M 0 10) {Q : Int → Prop} (hQ : ∀ z, ((1 ≤ z ∧ z ≤ 24) ∧ True) → Q z) : wR_round a0 M Q := by
  unfold wR_round
  have s0 : sI a0 = a0 := sIo (by omega) (by omega)
  rw [s0]
  refine ⟨by omega, by omega, by omega, ?_⟩
  have b5 : 0 ≤ M 5 a0.toNat ∧ M 5 a0.toNat ≤ 1 := BN.at hB.1 (rfl : zcd wR 5 = 55) rfl
  have b4 : 0 ≤ M 4 a0.toNat ∧ M 4 a0.toNat ≤ 24 := BN.at hB.1 (rfl : zcd wR 4 = 54) rfl
  have c4 : 1 ≤ M 4 a0.toNat := hB.2 _ (by omega) (by omega)
  have s4 : sI (M 4 a0.toNat) = M 4 a0.toNat := sIo (by omega) (by omega)
  refine sR_lastSpeed hB (by omega) (fun z5 hp => ?_)
  have ab := absI_b z5
  refine sR_common 48 hB (by omega) (by omega) (fun z9 hp9 => ?_) (by omega)
  have g := gcd_b (M 4 a0.toNat) (absI z5) c4
  have e := hp9.2.1
  rw [s4]
  have t := tdiv1 (M 4 a0.toNat) z9 (by omega) (by omega)
  refine ⟨by omega, ?_⟩
  rw [sIo (by omega) (by omega)]
  exact hQ _ ⟨by omega, trivial⟩
set_option maxHeartbeats 4000000 in
set_option maxRecDepth 100000 in
theorem sR_of {M : zM} {a0 : Int} {a1 : Int} (hB : BI M) (v0 : (-2147483648) ≤ a0 ∧ a0 ≤ 2147483647) (v1 : (-2147483648) ≤ a1 ∧ a1 ≤ 2147483647) {Q : Int → zM → Prop} (hQ : ∀ (z : Int) (M1 : zM), BI M1 ∧ (∀ j9 k9 : Nat, ¬ (j9 = 0 ∧ k9 = 35) → M1 j9 k9 = M j9 k9) ∧ ((-2147483648) ≤ z ∧ z ≤ 2147483647) ∧ True → Q z M1) : wR_of a0 a1 M Q := by
  unfold wR_of
  have hF0 : ∀ j9 k9 : Nat, ¬ (j9 = 0 ∧ k9 = 35) → M j9 k9 = M j9 k9 := fun j9 k9 _ => rfl
  intro M1 e2
  have hB3 : BI M1 := by rw [e2]; exact BI.up0 hB rfl (by omega) (by omega) (by decide)
  have hF4 : ∀ j9 k9 : Nat, ¬ (j9 = 0 ∧ k9 = 35) → M1 j9 k9 = M j9 k9 := fun j9 k9 h9 => by rw [e2]; exact (zup_n _ _ (by omega)).trans (hF0 j9 k9 h9)
  refine sR_isRing hB3 (by omega) (fun z5  h6 => ?_)
  obtain ⟨p7, p8, -⟩ := h6
  refine ⟨fun c9 => ?_, fun c9 => ?_⟩
  · skip
    intro M10 e11
    have hB12 : BI M10 := by rw [e11]; exact BI.up0 hB3 rfl (by omega) (by omega) (by decide)
    have hF13 : ∀ j9 k9 : Nat, ¬ (j9 = 0 ∧ k9 = 35) → M10 j9 k9 = M j9 k9 := fun j9 k9 h9 => by rw [e11]; exact (zup_n _ _ (by omega)).trans (hF4 j9 k9 h9)
    exact hQ _ _ ⟨hB12, hF13, (by omega), trivial⟩
  · skip
    refine sR_in hB3 (by omega) (by omega) (by omega) (fun z14  h15 => ?_)
    obtain ⟨p16, p17, -⟩ := h15
    refine ⟨fun c18 => ?_, fun c18 => ?_⟩
    · skip
      have s19 : sI a1 = a1 := sIo (by omega) (by omega)
      refine ⟨fun c20 => ?_, fun c20 => ?_⟩
      · skip
        have s21 : sI a0 = a0 := sIo (by omega) (by omega)
        have o22 : 0 ≤ (sI a0) ∧ (sI a0) < 4 := by omega
        refine ⟨o22, ?_⟩
        have q23 : 0 ≤ (M1 4 (sI a0).toNat) ∧ (M1 4 (sI a0).toNat) ≤ 24 := BN.at hB3.1 (rfl : zcd wR 4 = 54) rfl
        have q24 : (((sI a0).toNat : Nat) : Int) < M1 0 10 → 1 ≤ (M1 4 (sI a0).toNat) := hB3.2 _ (by omega)
        have q25 : 0 ≤ M1 0 10 ∧ M1 0 10 ≤ 4 := BN.at hB3.1 (rfl : zcd wR 0 = 50) rfl
        have s26 : sI (M1 4 (sI a0).toNat) = (M1 4 (sI a0).toNat) := sIo (by omega) (by omega)
        exact hQ _ _ ⟨hB3, hF4, (by omega), trivial⟩
      refine ⟨fun c27 => ?_, fun c27 => ?_⟩
      · skip
        have s28 : sI a0 = a0 := sIo (by omega) (by omega)
        have o29 : 0 ≤ (sI a0) ∧ (sI a0) < 4 := by omega
        refine ⟨o29, ?_⟩
        have q30 : 0 ≤ (M1 5 (sI a0).toNat) ∧ (M1 5 (sI a0).toNat) ≤ 1 := BN.at hB3.1 (rfl : zcd wR 5 = 55) rfl
        have s31 : sI (M1 5 (sI a0).toNat) = (M1 5 (sI a0).toNat) := sIo (by omega) (by omega)
        exact hQ _ _ ⟨hB3, hF4, (by omega), trivial⟩
      refine ⟨fun c32 => ?_, fun c32 => ?_⟩
      · skip
        have s33 : sI a0 = a0 := sIo (by omega) (by omega)
        have o34 : 0 ≤ (sI a0) ∧ (sI a0) < 4 := by omega
        refine ⟨o34, ?_⟩
        have q35 : 0 ≤ (M1 6 (sI a0).toNat) ∧ (M1 6 (sI a0).toNat) ≤ 23 := BN.at hB3.1 (rfl : zcd wR 6 = 56) rfl
        have s36 : sI (M1 6 (sI a0).toNat) = (M1 6 (sI a0).toNat) := sIo (by omega) (by omega)
        exact hQ _ _ ⟨hB3, hF4, (by omega), trivial⟩
      refine ⟨fun c37 => ?_, fun c37 => ?_⟩
      · skip
        have s38 : sI a0 = a0 := sIo (by omega) (by omega)
        have o39 : 0 ≤ (sI a0) ∧ (sI a0) < 4 := by omega
        refine ⟨o39, ?_⟩
        have q40 : (-2147483648) ≤ (M1 7 (sI a0).toNat) ∧ (M1 7 (sI a0).toNat) ≤ 2147483647 := BN.at hB3.1 (rfl : zcd wR 7 = 57) rfl
        have s41 : sI (M1 7 (sI a0).toNat) = (M1 7 (sI a0).toNat) := sIo (by omega) (by omega)
        exact hQ _ _ ⟨hB3, hF4, (by omega), trivial⟩
      refine ⟨fun c42 => ?_, fun c42 => ?_⟩
      · skip
        refine sR_round hB3 (by omega) (by omega) (fun z43  h44 => ?_)
        obtain ⟨p45, -⟩ := h44
        exact hQ _ _ ⟨hB3, hF4, (by omega), trivial⟩
      have s46 : sI a0 = a0 := sIo (by omega) (by omega)
      have o47 : 0 ≤ (sI a0) ∧ (sI a0) < 4 := by omega
      refine ⟨o47, ?_⟩
      have q48 : (-2147483648) ≤ (M1 8 (sI a0).toNat) ∧ (M1 8 (sI a0).toNat) ≤ 2147483647 := BN.at hB3.1 (rfl : zcd wR 8 = 58) rfl
      have s49 : sI (M1 8 (sI a0).toNat) = (M1 8 (sI a0).toNat) := sIo (by omega) (by omega)
      exact hQ _ _ ⟨hB3, hF4, (by omega), trivial⟩
    · skip
      intro M50 e51
      have hB52 : BI M50 := by rw [e51]; exact BI.up0 hB3 rfl (by omega) (by omega) (by decide)
      have hF53 : ∀ j9 k9 : Nat, ¬ (j9 = 0 ∧ k9 = 35) → M50 j9 k9 = M j9 k9 := fun j9 k9 h9 => by rw [e51]; exact (zup_n _ _ (by omega)).trans (hF4 j9 k9 h9)
      exact hQ _ _ ⟨hB52, hF53, (by omega), trivial⟩
set_option maxHeartbeats 4000000 in
set_option maxRecDepth 100000 in
theorem sR_inch {M : zM} {a0 : Int} {a1 : Int} (hB : BI M) (v0 : (-2147483648) ≤ a0 ∧ a0 ≤ 2147483647) (v1 : (-2147483648) ≤ a1 ∧ a1 ≤ 2147483647) {Q : Int → zM → Prop} (hQ : ∀ (z : Int) (M1 : zM), BI M1 ∧ (∀ j9 k9 : Nat, ¬ (j9 = 0 ∧ k9 = 35) → M1 j9 k9 = M j9 k9) ∧ ((-2147483648) ≤ z ∧ z ≤ 2147483647) ∧ True → Q z M1) : wR_inch a0 a1 M Q := by
  unfold wR_inch
  have hF0 : ∀ j9 k9 : Nat, ¬ (j9 = 0 ∧ k9 = 35) → M j9 k9 = M j9 k9 := fun j9 k9 _ => rfl
  intro M1 e2
  have hB3 : BI M1 := by rw [e2]; exact BI.up0 hB rfl (by omega) (by omega) (by decide)
  have hF4 : ∀ j9 k9 : Nat, ¬ (j9 = 0 ∧ k9 = 35) → M1 j9 k9 = M j9 k9 := fun j9 k9 h9 => by rw [e2]; exact (zup_n _ _ (by omega)).trans (hF0 j9 k9 h9)
  refine sR_isRing hB3 (by omega) (fun z5  h6 => ?_)
  obtain ⟨p7, p8, -⟩ := h6
  refine ⟨fun c9 => ?_, fun c9 => ?_⟩
  · skip
    exact hQ _ _ ⟨hB3, hF4, (by omega), trivial⟩
  · skip
    have s10 : sI a0 = a0 := sIo (by omega) (by omega)
    have o11 : 0 ≤ (sI a0) ∧ (sI a0) < 4 := by omega
    refine ⟨o11, ?_⟩
    have q12 : 0 ≤ (M1 4 (sI a0).toNat) ∧ (M1 4 (sI a0).toNat) ≤ 24 := BN.at hB3.1 (rfl : zcd wR 4 = 54) rfl
    have q13 : (((sI a0).toNat : Nat) : Int) < M1 0 10 → 1 ≤ (M1 4 (sI a0).toNat) := hB3.2 _ (by omega)
    have q14 : 0 ≤ M1 0 10 ∧ M1 0 10 ≤ 4 := BN.at hB3.1 (rfl : zcd wR 0 = 50) rfl
    refine sR_in hB3 (by omega) (by omega) (by omega) (fun z15  h16 => ?_)
    obtain ⟨p17, p18, -⟩ := h16
    refine ⟨fun c19 => ?_, fun c19 => ?_⟩
    · skip
      exact hQ _ _ ⟨hB3, hF4, (by omega), trivial⟩
    · skip
      have s20 := sI_R ((24 * a0) + a1)
      have s21 := sI_or ((24 * a0) + a1)
      have o22 : 0 ≤ (sI ((24 * a0) + a1)) ∧ (sI ((24 * a0) + a1)) < 96 := by omega
      refine ⟨o22, ?_⟩
      have q23 : (-2147483648) ≤ (M1 3 (sI ((24 * a0) + a1)).toNat) ∧ (M1 3 (sI ((24 * a0) + a1)).toNat) ≤ 2147483647 := BN.at hB3.1 (rfl : zcd wR 3 = 53) rfl
      have s24 : sI (M1 3 (sI ((24 * a0) + a1)).toNat) = (M1 3 (sI ((24 * a0) + a1)).toNat) := sIo (by omega) (by omega)
      exact hQ _ _ ⟨hB3, hF4, (by omega), trivial⟩
set_option maxHeartbeats 4000000 in
set_option maxRecDepth 100000 in
theorem sR_wayEarly {M : zM} {a0 : Int} {a1 : Int} (hB : BI M) (v0 : 0 ≤ a0 ∧ a0 ≤ 1) {Q : Int → Prop} (hQ : ∀ (z : Int), ((-9223372036854775808) ≤ z ∧ z ≤ 9223372036854775807) ∧ True → Q z) : wR_wayEarly a0 a1 M Q := by
  unfold wR_wayEarly
  refine pL4_of (fun x1 x2 x3 x4 => (0 ≤ x4 ∧ x4 ≤ 1000000) ∧ True) (fun x1 x2 x3 x4 => (1000000 - x4).toNat) ⟨(by omega), trivial⟩ (fun K x1 x2 x3 x4 h6 k7 => ?_)
  obtain ⟨i5, -⟩ := h6
  have s8 : sI a0 = a0 := sIo (by omega) (by omega)
  have o9 : 0 ≤ (sI a0) ∧ (sI a0) < 2 := by omega
  refine ⟨o9, ?_⟩
  have q10 : 0 ≤ (M 11 (sI a0).toNat) ∧ (M 11 (sI a0).toNat) ≤ 12 := BN.at hB.1 (rfl : zcd wR 11 = 61) rfl
  have s11 : sI x4 = x4 := sIo (by omega) (by omega)
  have s12 : sI (M 11 (sI a0).toNat) = (M 11 (sI a0).toNat) := sIo (by omega) (by omega)
  refine pJ0_dup ?_
  refine ⟨fun c13 => ?_, fun c13 => ?_⟩
  · skip
    have s14 := sI_R x3
    have s15 := sI_or x3
    have s16 := sL_R (x1 + ((sI x3) * (a1 - x2)))
    have s17 := sL_or (x1 + ((sI x3) * (a1 - x2)))
    exact hQ _ ⟨(by omega), trivial⟩
  · skip
    have s18 : sI ((12 * a0) + x4) = ((12 * a0) + x4) := sIo (by omega) (by omega)
    have o19 : 0 ≤ (sI ((12 * a0) + x4)) ∧ (sI ((12 * a0) + x4)) < 24 := by omega
    refine ⟨o19, ?_⟩
    have q20 : 0 ≤ (M 9 (sI ((12 * a0) + x4)).toNat) ∧ (M 9 (sI ((12 * a0) + x4)).toNat) ≤ 5000 := BN.at hB.1 (rfl : zcd wR 9 = 59) rfl
    have s21 : sI (M 9 (sI ((12 * a0) + x4)).toNat) = (M 9 (sI ((12 * a0) + x4)).toNat) := sIo (by omega) (by omega)
    have s22 := sL_R a1
    have s23 := sL_or a1
    refine ⟨fun c24 => ?_, fun c24 => ?_⟩
    · skip
      have s25 := sI_R x3
      have s26 := sI_or x3
      have s27 := sL_R (x1 + ((sI x3) * (a1 - x2)))
      have s28 := sL_or (x1 + ((sI x3) * (a1 - x2)))
      exact hQ _ ⟨(by omega), trivial⟩
    · skip
      have s29 := sI_R x3
      have s30 := sI_or x3
      have o31 : 0 ≤ (sI ((12 * a0) + x4)) ∧ (sI ((12 * a0) + x4)) < 24 := by omega
      refine ⟨o31, ?_⟩
      intro t33 e34
      have o35 : 0 ≤ (sI ((12 * a0) + x4)) ∧ (sI ((12 * a0) + x4)) < 24 := by omega
      refine ⟨o35, ?_⟩
      have o37 : 0 ≤ (sI ((12 * a0) + x4)) ∧ (sI ((12 * a0) + x4)) < 24 := by omega
      refine ⟨o37, ?_⟩
      have q38 : (-9) ≤ (M 10 (sI ((12 * a0) + x4)).toNat) ∧ (M 10 (sI ((12 * a0) + x4)).toNat) ≤ 9 := BN.at hB.1 (rfl : zcd wR 10 = 60) rfl
      exact k7 _ _ _ _ ⟨(by omega), trivial⟩ (by omega)
set_option maxHeartbeats 4000000 in
set_option maxRecDepth 100000 in
theorem sR_way {M : zM} {a0 : Int} {a1 : Int} (hB : BI M) (v0 : (-2147483648) ≤ a0 ∧ a0 ≤ 2147483647) (v1 : (-2147483648) ≤ a1 ∧ a1 ≤ 2147483647) {Q : Int → zM → Prop} (hQ : ∀ (z : Int) (M1 : zM), BI M1 ∧ (∀ j9 k9 : Nat, ¬ (j9 = 0 ∧ k9 = 35) → M1 j9 k9 = M j9 k9) ∧ ((-9223372036854775808) ≤ z ∧ z ≤ 9223372036854775807) ∧ True → Q z M1) : wR_way a0 a1 M Q := by
  unfold wR_way
  have hF0 : ∀ j9 k9 : Nat, ¬ (j9 = 0 ∧ k9 = 35) → M j9 k9 = M j9 k9 := fun j9 k9 _ => rfl
  intro M1 e2
  have hB3 : BI M1 := by rw [e2]; exact BI.up0 hB rfl (by omega) (by omega) (by decide)
  have hF4 : ∀ j9 k9 : Nat, ¬ (j9 = 0 ∧ k9 = 35) → M1 j9 k9 = M j9 k9 := fun j9 k9 h9 => by rw [e2]; exact (zup_n _ _ (by omega)).trans (hF0 j9 k9 h9)
  refine sR_isMotor hB3 (by omega) (fun z5  h6 => ?_)
  obtain ⟨p7, p8, -⟩ := h6
  refine ⟨fun c9 => ?_, fun c9 => ?_⟩
  · skip
    intro M10 e11
    have hB12 : BI M10 := by rw [e11]; exact BI.up0 hB3 rfl (by omega) (by omega) (by decide)
    have hF13 : ∀ j9 k9 : Nat, ¬ (j9 = 0 ∧ k9 = 35) → M10 j9 k9 = M j9 k9 := fun j9 k9 h9 => by rw [e11]; exact (zup_n _ _ (by omega)).trans (hF4 j9 k9 h9)
    exact hQ _ _ ⟨hB12, hF13, (by omega), trivial⟩
  · skip
    refine sR_in hB3 (by omega) (by omega) (by omega) (fun z14  h15 => ?_)
    obtain ⟨p16, p17, -⟩ := h15
    refine ⟨fun c18 => ?_, fun c18 => ?_⟩
    · skip
      have s19 : sI a1 = a1 := sIo (by omega) (by omega)
      refine sR_wayEarly hB3 (by omega) (fun z20  h21 => ?_)
      obtain ⟨p22, -⟩ := h21
      exact hQ _ _ ⟨hB3, hF4, (by omega), trivial⟩
    · skip
      intro M23 e24
      have hB25 : BI M23 := by rw [e24]; exact BI.up0 hB3 rfl (by omega) (by omega) (by decide)
      have hF26 : ∀ j9 k9 : Nat, ¬ (j9 = 0 ∧ k9 = 35) → M23 j9 k9 = M j9 k9 := fun j9 k9 h9 => by rw [e24]; exact (zup_n _ _ (by omega)).trans (hF4 j9 k9 h9)
      exact hQ _ _ ⟨hB25, hF26, (by omega), trivial⟩
set_option maxHeartbeats 4000000 in
set_option maxRecDepth 100000 in
theorem sR_wayBy {M : zM} {a0 : Int} {a1 : Int} {a2 : Int} (hB : BI M) (v0 : 0 ≤ a0 ∧ a0 ≤ 1) (v2 : 1 ≤ a2 ∧ a2 ≤ 24) {Q : Int → Prop} (hQ : ∀ (z : Int), (0 ≤ z ∧ z ≤ 23) ∧ (z < a2) ∧ True → Q z) : wR_wayBy a0 a1 a2 M Q := by
  unfold wR_wayBy
  refine sR_steady hB (by omega) (fun z1  h2 => ?_)
  obtain ⟨p3, -⟩ := h2
  have s4 := sL_R a1
  have s5 := sL_or a1
  refine ⟨fun c6 => ?_, fun c6 => ?_⟩
  · skip
    have s7 : sI a2 = a2 := sIo (by omega) (by omega)
    have s8 := sL_R (a1 - z1)
    have s9 := sL_or (a1 - z1)
    have o10 : (sI a2) ≠ 0 := by omega
    refine ⟨o10, ?_⟩
    refine sR_lastSpeed hB (by omega) (fun z11  h12 => ?_)
    obtain ⟨p13, -⟩ := h12
    refine sR_wayEarly hB (by omega) (fun z14  h15 => ?_)
    obtain ⟨p16, -⟩ := h15
    have s17 := sL_R (z14 + (((sL (a1 - z1)).tmod (sI a2)) * z11))
    have s18 := sL_or (z14 + (((sL (a1 - z1)).tmod (sI a2)) * z11))
    have o19 : 0 < (sI a2) := by omega
    refine ⟨o19, ?_⟩
    have q20 := emB (sL (z14 + (((sL (a1 - z1)).tmod (sI a2)) * z11))) (sI a2) (by omega)
    have s21 : sI ((sL (z14 + (((sL (a1 - z1)).tmod (sI a2)) * z11))) % (sI a2)) = ((sL (z14 + (((sL (a1 - z1)).tmod (sI a2)) * z11))) % (sI a2)) := sIo (by omega) (by omega)
    exact hQ _ ⟨(by omega), (by omega), trivial⟩
  · skip
    refine sR_wayEarly hB (by omega) (fun z22  h23 => ?_)
    obtain ⟨p24, -⟩ := h23
    have s25 : sI a2 = a2 := sIo (by omega) (by omega)
    have o26 : 0 < (sI a2) := by omega
    refine ⟨o26, ?_⟩
    have q27 := emB z22 (sI a2) (by omega)
    have s28 : sI (z22 % (sI a2)) = (z22 % (sI a2)) := sIo (by omega) (by omega)
    exact hQ _ ⟨(by omega), (by omega), trivial⟩
set_option maxHeartbeats 4000000 in
set_option maxRecDepth 100000 in
theorem sR_heardAt {M : zM} {a0 : Int} {a1 : Int} (hB : BI M) (v0 : 0 ≤ a0 ∧ a0 ≤ 3) (v1 : 0 ≤ a1 ∧ a1 ≤ 23) (p0 : a0 < M 0 10) {Q : Int → Prop} (hQ : ∀ (z : Int), ((-2147483648) ≤ z ∧ z ≤ 2147483647) ∧ True → Q z) : wR_heardAt a0 a1 M Q := by
  unfold wR_heardAt
  refine pL2_of (fun x1 x2 => (0 ≤ x2 ∧ x2 ≤ 1000000) ∧ True) (fun x1 x2 => (1000000 - x2).toNat) ⟨(by omega), trivial⟩ (fun K x1 x2 h4 k5 => ?_)
  obtain ⟨i3, -⟩ := h4
  have s6 : sI x2 = x2 := sIo (by omega) (by omega)
  refine ⟨fun c7 => ?_, fun c7 => ?_⟩
  · skip
    have s8 := sI_R x1
    have s9 := sI_or x1
    exact hQ _ ⟨(by omega), trivial⟩
  · skip
    have s10 : sI a0 = a0 := sIo (by omega) (by omega)
    have o11 : 0 ≤ (sI a0) ∧ (sI a0) < 4 := by omega
    refine ⟨o11, ?_⟩
    have q12 : (-2147483648) ≤ (M 7 (sI a0).toNat) ∧ (M 7 (sI a0).toNat) ≤ 2147483647 := BN.at hB.1 (rfl : zcd wR 7 = 57) rfl
    have q13 := shrI_R (M 7 (sI a0).toNat) x2
    have q14 := andI_br (shrI (M 7 (sI a0).toNat) x2) (c := 1) (by decide) (by decide)
    refine ⟨fun c15 => ?_, fun c15 => ?_⟩
    · skip
      exact k5 _ _ ⟨(by omega), trivial⟩ (by omega)
    · skip
      have o16 : 0 ≤ (sI a0) ∧ (sI a0) < 4 := by omega
      refine ⟨o16, ?_⟩
      have q17 : 0 ≤ (M 4 (sI a0).toNat) ∧ (M 4 (sI a0).toNat) ≤ 24 := BN.at hB.1 (rfl : zcd wR 4 = 54) rfl
      have q18 : (((sI a0).toNat : Nat) : Int) < M 0 10 → 1 ≤ (M 4 (sI a0).toNat) := hB.2 _ (by omega)
      have q19 : 0 ≤ M 0 10 ∧ M 0 10 ≤ 4 := BN.at hB.1 (rfl : zcd wR 0 = 50) rfl
      have s20 : sI (a1 + x2) = (a1 + x2) := sIo (by omega) (by omega)
      have s21 : sI (M 4 (sI a0).toNat) = (M 4 (sI a0).toNat) := sIo (by omega) (by omega)
      have o22 : (sI (M 4 (sI a0).toNat)) ≠ 0 := by omega
      refine ⟨o22, ?_⟩
      have q23 := tmodN (sI (a1 + x2)) (sI (M 4 (sI a0).toNat)) (by omega) (by omega)
      have s24 : sI ((24 * a0) + ((sI (a1 + x2)).tmod (sI (M 4 (sI a0).toNat)))) = ((24 * a0) + ((sI (a1 + x2)).tmod (sI (M 4 (sI a0).toNat)))) := sIo (by omega) (by omega)
      have o25 : 0 ≤ (sI ((24 * a0) + ((sI (a1 + x2)).tmod (sI (M 4 (sI a0).toNat))))) ∧ (sI ((24 * a0) + ((sI (a1 + x2)).tmod (sI (M 4 (sI a0).toNat))))) < 96 := by omega
      refine ⟨o25, ?_⟩
      have q26 : (-2147483648) ≤ (M 3 (sI ((24 * a0) + ((sI (a1 + x2)).tmod (sI (M 4 (sI a0).toNat))))).toNat) ∧ (M 3 (sI ((24 * a0) + ((sI (a1 + x2)).tmod (sI (M 4 (sI a0).toNat))))).toNat) ≤ 2147483647 := BN.at hB.1 (rfl : zcd wR 3 = 53) rfl
      have q27 := orI_R x1 (M 3 (sI ((24 * a0) + ((sI (a1 + x2)).tmod (sI (M 4 (sI a0).toNat))))).toNat)
      intro t28 e29
      exact k5 _ _ ⟨(by omega), trivial⟩ (by omega)
set_option maxHeartbeats 4000000 in
set_option maxRecDepth 100000 in
theorem sR_heardOf {M : zM} {a0 : Int} {a1 : Int} (hB : BI M) (v0 : 0 ≤ a0 ∧ a0 ≤ 3) (p0 : a0 < M 0 10) {Q : Int → Prop} (hQ : ∀ (z : Int), ((-2147483648) ≤ z ∧ z ≤ 2147483647) ∧ True → Q z) : wR_heardOf a0 a1 M Q := by
  unfold wR_heardOf
  have s1 : sI a0 = a0 := sIo (by omega) (by omega)
  have o2 : 0 ≤ (sI a0) ∧ (sI a0) < 4 := by omega
  refine ⟨o2, ?_⟩
  have q3 : 0 ≤ (M 6 (sI a0).toNat) ∧ (M 6 (sI a0).toNat) ≤ 23 := BN.at hB.1 (rfl : zcd wR 6 = 56) rfl
  have o4 : 0 ≤ (sI a0) ∧ (sI a0) < 4 := by omega
  refine ⟨o4, ?_⟩
  have q5 : 0 ≤ (M 5 (sI a0).toNat) ∧ (M 5 (sI a0).toNat) ≤ 1 := BN.at hB.1 (rfl : zcd wR 5 = 55) rfl
  have o6 : 0 ≤ (sI a0) ∧ (sI a0) < 4 := by omega
  refine ⟨o6, ?_⟩
  have q7 : 0 ≤ (M 4 (sI a0).toNat) ∧ (M 4 (sI a0).toNat) ≤ 24 := BN.at hB.1 (rfl : zcd wR 4 = 54) rfl
  have q8 : (((sI a0).toNat : Nat) : Int) < M 0 10 → 1 ≤ (M 4 (sI a0).toNat) := hB.2 _ (by omega)
  have q9 : 0 ≤ M 0 10 ∧ M 0 10 ≤ 4 := BN.at hB.1 (rfl : zcd wR 0 = 50) rfl
  refine sR_wayBy hB (by omega) (by omega) (fun z10  h11 => ?_)
  obtain ⟨p12, p13, -⟩ := h11
  have o14 : 0 ≤ (sI a0) ∧ (sI a0) < 4 := by omega
  refine ⟨o14, ?_⟩
  have s18 : sI ((M 6 (sI a0).toNat) + z10) = ((M 6 (sI a0).toNat) + z10) := sIo (by omega) (by omega)
  have s19 : sI (M 4 (sI a0).toNat) = (M 4 (sI a0).toNat) := sIo (by omega) (by omega)
  have o20 : (sI (M 4 (sI a0).toNat)) ≠ 0 := by omega
  refine ⟨o20, ?_⟩
  have q21 := tmodN (sI ((M 6 (sI a0).toNat) + z10)) (sI (M 4 (sI a0).toNat)) (by omega) (by omega)
  refine sR_heardAt hB (by omega) (by omega) (by omega) (fun z22  h23 => ?_)
  obtain ⟨p24, -⟩ := h23
  exact hQ _ ⟨(by omega), trivial⟩
set_option maxHeartbeats 4000000 in
set_option maxRecDepth 100000 in
theorem sR_heardInAll {M : zM} {a0 : Int} (hB : BI M)  {Q : Int → Prop} (hQ : ∀ (z : Int), ((-2147483648) ≤ z ∧ z ≤ 2147483647) ∧ True → Q z) : wR_heardInAll a0 M Q := by
  unfold wR_heardInAll
  refine pL2_of (fun x1 x2 => (0 ≤ x2 ∧ x2 ≤ 1000000) ∧ True) (fun x1 x2 => (1000000 - x2).toNat) ⟨(by omega), trivial⟩ (fun K x1 x2 h4 k5 => ?_)
  obtain ⟨i3, -⟩ := h4
  have q6 : 0 ≤ (M 0 10) ∧ (M 0 10) ≤ 4 := BN.at hB.1 (rfl : zcd wR 0 = 50) rfl
  have s7 : sI x2 = x2 := sIo (by omega) (by omega)
  have s8 : sI (M 0 10) = (M 0 10) := sIo (by omega) (by omega)
  refine ⟨fun c9 => ?_, fun c9 => ?_⟩
  · skip
    have s10 := sI_R x1
    have s11 := sI_or x1
    exact hQ _ ⟨(by omega), trivial⟩
  · skip
    refine sR_heardOf hB (by omega) (by omega) (fun z12  h13 => ?_)
    obtain ⟨p14, -⟩ := h13
    have q15 := orI_R x1 z12
    exact k5 _ _ ⟨(by omega), trivial⟩ (by omega)
set_option maxHeartbeats 4000000 in
set_option maxRecDepth 100000 in
theorem sR_heard {M : zM} {a0 : Int} {a1 : Int} (hB : BI M) (v0 : (-2147483648) ≤ a0 ∧ a0 ≤ 2147483647) (v1 : (-9223372036854775808) ≤ a1 ∧ a1 ≤ 9223372036854775807) {Q : Int → zM → Prop} (hQ : ∀ (z : Int) (M1 : zM), BI M1 ∧ (∀ j9 k9 : Nat, ¬ (j9 = 0 ∧ k9 = 35) → M1 j9 k9 = M j9 k9) ∧ ((-2147483648) ≤ z ∧ z ≤ 2147483647) ∧ True → Q z M1) : wR_heard a0 a1 M Q := by
  unfold wR_heard
  have hF0 : ∀ j9 k9 : Nat, ¬ (j9 = 0 ∧ k9 = 35) → M j9 k9 = M j9 k9 := fun j9 k9 _ => rfl
  intro M1 e2
  have hB3 : BI M1 := by rw [e2]; exact BI.up0 hB rfl (by omega) (by omega) (by decide)
  have hF4 : ∀ j9 k9 : Nat, ¬ (j9 = 0 ∧ k9 = 35) → M1 j9 k9 = M j9 k9 := fun j9 k9 h9 => by rw [e2]; exact (zup_n _ _ (by omega)).trans (hF0 j9 k9 h9)
  have s5 : sI a0 = a0 := sIo (by omega) (by omega)
  refine pJ0_dup ?_
  refine ⟨fun c6 => ?_, fun c6 => ?_⟩
  · skip
    have s7 : sL a1 = a1 := sLo (by omega) (by omega)
    refine ⟨fun c8 => ?_, fun c8 => ?_⟩
    · skip
      refine ⟨fun c9 => ?_, fun c9 => ?_⟩
      · skip
        refine sR_heardOf hB3 (by omega) (by omega) (fun z10  h11 => ?_)
        obtain ⟨p12, -⟩ := h11
        exact hQ _ _ ⟨hB3, hF4, (by omega), trivial⟩
      · skip
        refine sR_heardInAll hB3  (fun z13  h14 => ?_)
        obtain ⟨p15, -⟩ := h14
        exact hQ _ _ ⟨hB3, hF4, (by omega), trivial⟩
    · skip
      exact hQ _ _ ⟨hB3, hF4, (by omega), trivial⟩
  · skip
    refine sR_isRing hB3 (by omega) (fun z16  h17 => ?_)
    obtain ⟨p18, p19, -⟩ := h17
    refine ⟨fun c20 => ?_, fun c20 => ?_⟩
    · skip
      exact hQ _ _ ⟨hB3, hF4, (by omega), trivial⟩
    · skip
      have s21 : sL a1 = a1 := sLo (by omega) (by omega)
      refine ⟨fun c22 => ?_, fun c22 => ?_⟩
      · skip
        refine ⟨fun c23 => ?_, fun c23 => ?_⟩
        · skip
          refine sR_heardOf hB3 (by omega) (by omega) (fun z24  h25 => ?_)
          obtain ⟨p26, -⟩ := h25
          exact hQ _ _ ⟨hB3, hF4, (by omega), trivial⟩
        · skip
          refine sR_heardInAll hB3  (fun z27  h28 => ?_)
          obtain ⟨p29, -⟩ := h28
          exact hQ _ _ ⟨hB3, hF4, (by omega), trivial⟩
      · skip
        exact hQ _ _ ⟨hB3, hF4, (by omega), trivial⟩
theorem sR_allRounds {M : zM} (hB : BI M) {Q : Int → Prop} (hQ : ∀ z, ((0 ≤ z ∧ z ≤ 331776) ∧ True) → Q z) : wR_allRounds M Q := by
  unfold wR_allRounds
  have b : 0 ≤ M 0 10 ∧ M 0 10 ≤ 4 := BN.at hB.1 (rfl : zcd wR 0 = 50) rfl
  refine pL2_of (fun x1 x2 => 0 ≤ x1 ∧ ((x2 = 0 ∧ x1 ≤ 1) ∨ (x2 = 1 ∧ x1 ≤ 24) ∨ (x2 = 2 ∧ x1 ≤ 576) ∨ (x2 = 3 ∧ x1 ≤ 13824) ∨ (x2 = 4 ∧ x1 ≤ 331776))) (fun _ x2 => (100 - x2).toNat) ⟨by omega, by omega⟩ (fun K x1 x2 hI hK => ?_)
  obtain ⟨i1, i2⟩ := hI
  have s1 : sL x1 = x1 := sLo (by omega) (by omega)
  have s2 : sI x2 = x2 := sIo (by omega) (by omega)
  have s3 : sI (M 0 10) = M 0 10 := sIo (by omega) (by omega)
  rw [s1, s2, s3]
  refine ⟨fun c => hQ _ ⟨by omega, trivial⟩, fun c => ?_⟩
  refine sR_round hB (by omega) (by omega) (fun z hp => ?_)
  have t := tmodN x1 z i1 (by omega)
  refine ⟨by omega, ?_⟩
  refine sR_common 48 hB (by omega) (by omega) (fun z2 hp2 => ?_) (by omega)
  have g := gcd_b z (x1.tmod z) (by omega)
  have e := hp2.2.1
  refine ⟨by omega, ?_⟩
  have d := tdivB x1 z2 i1 (by omega)
  have m1 := mulB x1 24 (x1.tdiv z2) z d.1 d.2 (by omega) (by omega)
  exact hK _ _ ⟨by omega, by omega⟩ (by omega)
set_option maxHeartbeats 4000000 in
set_option maxRecDepth 100000 in
theorem sR_all {M : zM}  (hB : BI M)  {Q : Int → zM → Prop} (hQ : ∀ (z : Int) (M1 : zM), BI M1 ∧ (∀ j9 k9 : Nat, ¬ (j9 = 0 ∧ k9 = 35) → M1 j9 k9 = M j9 k9) ∧ ((-9223372036854775808) ≤ z ∧ z ≤ 9223372036854775807) ∧ True → Q z M1) : wR_all  M Q := by
  unfold wR_all
  have hF0 : ∀ j9 k9 : Nat, ¬ (j9 = 0 ∧ k9 = 35) → M j9 k9 = M j9 k9 := fun j9 k9 _ => rfl
  intro M1 e2
  have hB3 : BI M1 := by rw [e2]; exact BI.up0 hB rfl (by omega) (by omega) (by decide)
  have hF4 : ∀ j9 k9 : Nat, ¬ (j9 = 0 ∧ k9 = 35) → M1 j9 k9 = M j9 k9 := fun j9 k9 h9 => by rw [e2]; exact (zup_n _ _ (by omega)).trans (hF0 j9 k9 h9)
  refine sR_allRounds hB3  (fun z5  h6 => ?_)
  obtain ⟨p7, -⟩ := h6
  exact hQ _ _ ⟨hB3, hF4, (by omega), trivial⟩
set_option maxHeartbeats 4000000 in
set_option maxRecDepth 100000 in
theorem sR_wish {M : zM} {a0 : Int} {a1 : Int} (hB : BI M) (v0 : (-2147483648) ≤ a0 ∧ a0 ≤ 2147483647) (v1 : (-2147483648) ≤ a1 ∧ a1 ≤ 2147483647) {Q : Int → zM → Prop} (hQ : ∀ (z : Int) (M1 : zM), BI M1 ∧ (∀ j9 k9 : Nat, ¬ (j9 = 0 ∧ k9 = 35 ∨ j9 = 8) → M1 j9 k9 = M j9 k9) ∧ (0 ≤ z ∧ z ≤ 1) ∧ True → Q z M1) : wR_wish a0 a1 M Q := by
  unfold wR_wish
  have hF0 : ∀ j9 k9 : Nat, ¬ (j9 = 0 ∧ k9 = 35 ∨ j9 = 8) → M j9 k9 = M j9 k9 := fun j9 k9 _ => rfl
  intro M1 e2
  have hB3 : BI M1 := by rw [e2]; exact BI.up0 hB rfl (by omega) (by omega) (by decide)
  have hF4 : ∀ j9 k9 : Nat, ¬ (j9 = 0 ∧ k9 = 35 ∨ j9 = 8) → M1 j9 k9 = M j9 k9 := fun j9 k9 h9 => by rw [e2]; exact (zup_n _ _ (by omega)).trans (hF0 j9 k9 h9)
  refine sR_isRing hB3 (by omega) (fun z5  h6 => ?_)
  obtain ⟨p7, p8, -⟩ := h6
  refine ⟨fun c9 => ?_, fun c9 => ?_⟩
  · skip
    exact hQ _ _ ⟨hB3, hF4, (by omega), trivial⟩
  · skip
    refine sR_areSounds hB3 (by omega) (fun z10  h11 => ?_)
    obtain ⟨p12, p13, -⟩ := h11
    refine ⟨fun c14 => ?_, fun c14 => ?_⟩
    · skip
      have s15 : sI a0 = a0 := sIo (by omega) (by omega)
      have o16 : 0 ≤ (sI a0) ∧ (sI a0) < 4 := by omega
      refine ⟨o16, ?_⟩
      intro M17 e18
      have hB19 : BI M17 := by rw [e18]; exact BI.up hB3 (rfl : zcd wR 8 = 58) rfl (by omega) (by omega) (by decide)
      have hF20 : ∀ j9 k9 : Nat, ¬ (j9 = 0 ∧ k9 = 35 ∨ j9 = 8) → M17 j9 k9 = M j9 k9 := fun j9 k9 h9 => by rw [e18]; exact (zup_n _ _ (by omega)).trans (hF4 j9 k9 h9)
      exact hQ _ _ ⟨hB19, hF20, (by omega), trivial⟩
    · skip
      exact hQ _ _ ⟨hB3, hF4, (by omega), trivial⟩
set_option maxHeartbeats 4000000 in
set_option maxRecDepth 100000 in
theorem sR_meetsAt {M : zM} {a0 : Int} (hB : BI M)  {Q : Int → Prop} (hQ : ∀ (z : Int), (0 ≤ z ∧ z ≤ 1) ∧ True → Q z) : wR_meetsAt a0 M Q := by
  unfold wR_meetsAt
  refine pL1_of (fun x1 => (0 ≤ x1 ∧ x1 ≤ 1000000) ∧ True) (fun x1 => (1000000 - x1).toNat) ⟨(by omega), trivial⟩ (fun K x1 h3 k4 => ?_)
  obtain ⟨i2, -⟩ := h3
  have q5 : 0 ≤ (M 0 10) ∧ (M 0 10) ≤ 4 := BN.at hB.1 (rfl : zcd wR 0 = 50) rfl
  have s6 : sI x1 = x1 := sIo (by omega) (by omega)
  have s7 : sI (M 0 10) = (M 0 10) := sIo (by omega) (by omega)
  refine ⟨fun c8 => ?_, fun c8 => ?_⟩
  · skip
    exact hQ _ ⟨(by omega), trivial⟩
  · skip
    refine sR_heardOf hB (by omega) (by omega) (fun z9  h10 => ?_)
    obtain ⟨p11, -⟩ := h10
    have o12 : 0 ≤ (sI x1) ∧ (sI x1) < 4 := by omega
    refine ⟨o12, ?_⟩
    have q13 : (-2147483648) ≤ (M 8 (sI x1).toNat) ∧ (M 8 (sI x1).toNat) ≤ 2147483647 := BN.at hB.1 (rfl : zcd wR 8 = 58) rfl
    have q14 := andI_R z9 (M 8 (sI x1).toNat)
    have o15 : 0 ≤ (sI x1) ∧ (sI x1) < 4 := by omega
    refine ⟨o15, ?_⟩
    have s17 : sI (M 8 (sI x1).toNat) = (M 8 (sI x1).toNat) := sIo (by omega) (by omega)
    refine ⟨fun c18 => ?_, fun c18 => ?_⟩
    · skip
      exact k4 _ ⟨(by omega), trivial⟩ (by omega)
    · skip
      exact hQ _ ⟨(by omega), trivial⟩
set_option maxHeartbeats 4000000 in
set_option maxRecDepth 100000 in
theorem sR_steadyAll {M : zM}  (hB : BI M)  {Q : Int → Prop} (hQ : ∀ (z : Int), (0 ≤ z ∧ z ≤ 5000) ∧ True → Q z) : wR_steadyAll  M Q := by
  unfold wR_steadyAll
  refine sR_steady hB (by omega) (fun z1  h2 => ?_)
  obtain ⟨p3, -⟩ := h2
  refine sR_steady hB (by omega) (fun z4  h5 => ?_)
  obtain ⟨p6, -⟩ := h5
  exact hQ _ ⟨(by omega), trivial⟩
set_option maxHeartbeats 4000000 in
set_option maxRecDepth 100000 in
theorem sR_findHeard {M : zM} {a0 : Int} (hB : BI M)  {Q : zM → Prop} (hQ : ∀ (M1 : zM), BI M1 ∧ (∀ j9 k9 : Nat, ¬ (j9 = 27) → M1 j9 k9 = M j9 k9) ∧ True → Q M1) : wR_findHeard a0 M Q := by
  unfold wR_findHeard
  have hF0 : ∀ j9 k9 : Nat, ¬ (j9 = 27) → M j9 k9 = M j9 k9 := fun j9 k9 _ => rfl
  refine wL1_of (fun x1 M2 => BI M2 ∧ (∀ j9 k9 : Nat, ¬ (j9 = 27) → M2 j9 k9 = M j9 k9) ∧ (0 ≤ x1 ∧ x1 ≤ 1000000) ∧ (M2 0 10 = M 0 10) ∧ True) (fun x1 M2 => (1000000 - x1).toNat) ⟨hB, hF0, (by omega), (by omega), trivial⟩ (fun K x1 M2 h7 k8 => ?_)
  obtain ⟨hB3, hF4, i5, i6, -⟩ := h7
  have q9 : 0 ≤ (M2 0 10) ∧ (M2 0 10) ≤ 4 := BN.at hB3.1 (rfl : zcd wR 0 = 50) rfl
  have s10 : sI x1 = x1 := sIo (by omega) (by omega)
  have s11 : sI (M2 0 10) = (M2 0 10) := sIo (by omega) (by omega)
  refine ⟨fun c12 => ?_, fun c12 => ?_⟩
  · skip
    exact hQ _ ⟨hB3, hF4, trivial⟩
  · skip
    refine wL1_of (fun x13 M14 => BI M14 ∧ (∀ j9 k9 : Nat, ¬ (j9 = 27) → M14 j9 k9 = M j9 k9) ∧ (0 ≤ x13 ∧ x13 ≤ 1000000) ∧ (M14 0 10 = M 0 10) ∧ True) (fun x13 M14 => (1000000 - x13).toNat) ⟨hB3, hF4, (by omega), (by omega), trivial⟩ (fun K x13 M14 h19 k20 => ?_)
    obtain ⟨hB15, hF16, i17, i18, -⟩ := h19
    refine sR_round hB15 (by omega) (by omega) (fun z21  h22 => ?_)
    obtain ⟨p23, -⟩ := h22
    have s24 : sI x13 = x13 := sIo (by omega) (by omega)
    refine ⟨fun c25 => ?_, fun c25 => ?_⟩
    · skip
      exact k8 _ _ ⟨hB15, hF16, (by omega), (by omega), trivial⟩ (by omega)
    · skip
      refine sR_heardOf hB15 (by omega) (by omega) (fun z26  h27 => ?_)
      obtain ⟨p28, -⟩ := h27
      have s29 : sI x1 = x1 := sIo (by omega) (by omega)
      have o30 : 0 ≤ (sI x1) ∧ (sI x1) < 4 := by omega
      refine ⟨o30, ?_⟩
      have q31 : (-2147483648) ≤ (M14 8 (sI x1).toNat) ∧ (M14 8 (sI x1).toNat) ≤ 2147483647 := BN.at hB15.1 (rfl : zcd wR 8 = 58) rfl
      have q32 := andI_R z26 (M14 8 (sI x1).toNat)
      have o33 : 0 ≤ (sI x1) ∧ (sI x1) < 4 := by omega
      refine ⟨o33, ?_⟩
      have s35 : sI (M14 8 (sI x1).toNat) = (M14 8 (sI x1).toNat) := sIo (by omega) (by omega)
      refine ⟨fun c36 => ?_, fun c36 => ?_⟩
      · skip
        have s37 : sI ((24 * x1) + x13) = ((24 * x1) + x13) := sIo (by omega) (by omega)
        have o38 : 0 ≤ (sI ((24 * x1) + x13)) ∧ (sI ((24 * x1) + x13)) < 96 := by omega
        refine ⟨o38, ?_⟩
        intro M39 e40
        have hB41 : BI M39 := by rw [e40]; exact BI.up hB15 (rfl : zcd wR 27 = 77) rfl (by omega) (by omega) (by decide)
        have hF42 : ∀ j9 k9 : Nat, ¬ (j9 = 27) → M39 j9 k9 = M j9 k9 := fun j9 k9 h9 => by rw [e40]; exact (zup_n _ _ (by omega)).trans (hF16 j9 k9 h9)
        have r43 : M39 0 10 = M14 0 10 := by rw [e40]; exact zup_n _ _ (by omega)
        exact k20 _ _ ⟨hB41, hF42, (by omega), (by omega), trivial⟩ (by omega)
      · skip
        have s44 : sI ((24 * x1) + x13) = ((24 * x1) + x13) := sIo (by omega) (by omega)
        have o45 : 0 ≤ (sI ((24 * x1) + x13)) ∧ (sI ((24 * x1) + x13)) < 96 := by omega
        refine ⟨o45, ?_⟩
        intro M46 e47
        have hB48 : BI M46 := by rw [e47]; exact BI.up hB15 (rfl : zcd wR 27 = 77) rfl (by omega) (by omega) (by decide)
        have hF49 : ∀ j9 k9 : Nat, ¬ (j9 = 27) → M46 j9 k9 = M j9 k9 := fun j9 k9 h9 => by rw [e47]; exact (zup_n _ _ (by omega)).trans (hF16 j9 k9 h9)
        have r50 : M46 0 10 = M14 0 10 := by rw [e47]; exact zup_n _ _ (by omega)
        exact k20 _ _ ⟨hB48, hF49, (by omega), (by omega), trivial⟩ (by omega)
set_option maxHeartbeats 4000000 in
set_option maxRecDepth 100000 in
theorem sR_meetsBehind {M : zM} {a0 : Int} (hB : BI M) (v0 : 0 ≤ a0 ∧ a0 ≤ 2147483647) {Q : Int → Prop} (hQ : ∀ (z : Int), (0 ≤ z ∧ z ≤ 1) ∧ True → Q z) : wR_meetsBehind a0 M Q := by
  unfold wR_meetsBehind
  refine pL1_of (fun x1 => (0 ≤ x1 ∧ x1 ≤ 1000000) ∧ True) (fun x1 => (1000000 - x1).toNat) ⟨(by omega), trivial⟩ (fun K x1 h3 k4 => ?_)
  obtain ⟨i2, -⟩ := h3
  have q5 : 0 ≤ (M 0 10) ∧ (M 0 10) ≤ 4 := BN.at hB.1 (rfl : zcd wR 0 = 50) rfl
  have s6 : sI x1 = x1 := sIo (by omega) (by omega)
  have s7 : sI (M 0 10) = (M 0 10) := sIo (by omega) (by omega)
  refine ⟨fun c8 => ?_, fun c8 => ?_⟩
  · skip
    exact hQ _ ⟨(by omega), trivial⟩
  · skip
    refine sR_round hB (by omega) (by omega) (fun z9  h10 => ?_)
    obtain ⟨p11, -⟩ := h10
    have s12 : sI a0 = a0 := sIo (by omega) (by omega)
    have o13 : z9 ≠ 0 := by omega
    refine ⟨o13, ?_⟩
    have q14 := tmodN (sI a0) z9 (by omega) (by omega)
    have s15 : sI ((24 * x1) + ((sI a0).tmod z9)) = ((24 * x1) + ((sI a0).tmod z9)) := sIo (by omega) (by omega)
    have o16 : 0 ≤ (sI ((24 * x1) + ((sI a0).tmod z9))) ∧ (sI ((24 * x1) + ((sI a0).tmod z9))) < 96 := by omega
    refine ⟨o16, ?_⟩
    have q17 : (-2147483648) ≤ (M 27 (sI ((24 * x1) + ((sI a0).tmod z9))).toNat) ∧ (M 27 (sI ((24 * x1) + ((sI a0).tmod z9))).toNat) ≤ 2147483647 := BN.at hB.1 (rfl : zcd wR 27 = 77) rfl
    have s18 : sI (M 27 (sI ((24 * x1) + ((sI a0).tmod z9))).toNat) = (M 27 (sI ((24 * x1) + ((sI a0).tmod z9))).toNat) := sIo (by omega) (by omega)
    refine ⟨fun c19 => ?_, fun c19 => ?_⟩
    · skip
      exact k4 _ ⟨(by omega), trivial⟩ (by omega)
    · skip
      exact hQ _ ⟨(by omega), trivial⟩
set_option maxHeartbeats 4000000 in
set_option maxRecDepth 100000 in
theorem sR_meets {M : zM} {a0 : Int} (hB : BI M) (v0 : (-9223372036854775808) ≤ a0 ∧ a0 ≤ 9223372036854775807) {Q : Int → zM → Prop} (hQ : ∀ (z : Int) (M1 : zM), BI M1 ∧ (∀ j9 k9 : Nat, ¬ (j9 = 0 ∧ k9 = 35 ∨ j9 = 27) → M1 j9 k9 = M j9 k9) ∧ ((-9223372036854775808) ≤ z ∧ z ≤ 9223372036854775807) ∧ True → Q z M1) : wR_meets a0 M Q := by
  unfold wR_meets
  have hF0 : ∀ j9 k9 : Nat, ¬ (j9 = 0 ∧ k9 = 35 ∨ j9 = 27) → M j9 k9 = M j9 k9 := fun j9 k9 _ => rfl
  intro M1 e2
  have hB3 : BI M1 := by rw [e2]; exact BI.up0 hB rfl (by omega) (by omega) (by decide)
  have hF4 : ∀ j9 k9 : Nat, ¬ (j9 = 0 ∧ k9 = 35 ∨ j9 = 27) → M1 j9 k9 = M j9 k9 := fun j9 k9 h9 => by rw [e2]; exact (zup_n _ _ (by omega)).trans (hF0 j9 k9 h9)
  have s5 : sL a0 = a0 := sLo (by omega) (by omega)
  refine ⟨fun c6 => ?_, fun c6 => ?_⟩
  · skip
    exact hQ _ _ ⟨hB3, hF4, (by omega), trivial⟩
  · skip
    refine ⟨fun c7 => ?_, fun c7 => ?_⟩
    · skip
      refine pL1_of (fun x8 => (0 ≤ x8 ∧ x8 ≤ 1152921504606846976) ∧ True) (fun x8 => (9223372036854775807 - x8).toNat) ⟨(by omega), trivial⟩ (fun K x8 h10 k11 => ?_)
      obtain ⟨i9, -⟩ := h10
      refine sR_steadyAll hB3  (fun z12  h13 => ?_)
      obtain ⟨p14, -⟩ := h13
      have s15 : sL x8 = x8 := sLo (by omega) (by omega)
      refine ⟨fun c16 => ?_, fun c16 => ?_⟩
      · skip
        refine sR_findHeard hB3  (fun  M17 h18 => ?_)
        obtain ⟨hB19, f20, -⟩ := h18
        have hF21 : ∀ j9 k9 : Nat, ¬ (j9 = 0 ∧ k9 = 35 ∨ j9 = 27) → M17 j9 k9 = M j9 k9 := fun j9 k9 h9 => ((f20 j9 k9 (by omega)).trans (hF4 j9 k9 h9))
        refine sR_allRounds hB19  (fun z22  h23 => ?_)
        obtain ⟨p24, -⟩ := h23
        refine pL1_of (fun x25 => (0 ≤ x25 ∧ x25 ≤ 1000000) ∧ True) (fun x25 => (1000000 - x25).toNat) ⟨(by omega), trivial⟩ (fun K x25 h27 k28 => ?_)
        obtain ⟨i26, -⟩ := h27
        have s29 : sI x25 = x25 := sIo (by omega) (by omega)
        have s30 : sI z22 = z22 := sIo (by omega) (by omega)
        refine ⟨fun c31 => ?_, fun c31 => ?_⟩
        · skip
          exact hQ _ _ ⟨hB19, hF21, (by omega), trivial⟩
        · skip
          refine sR_meetsBehind hB19 (by omega) (fun z32  h33 => ?_)
          obtain ⟨p34, -⟩ := h33
          refine ⟨fun c35 => ?_, fun c35 => ?_⟩
          · skip
            exact k28 _ ⟨(by omega), trivial⟩ (by omega)
          · skip
            have s36 : sL (x8 + (sI x25)) = (x8 + (sI x25)) := sLo (by omega) (by omega)
            exact hQ _ _ ⟨hB19, hF21, (by omega), trivial⟩
      · skip
        refine sR_meetsAt hB3  (fun z37  h38 => ?_)
        obtain ⟨p39, -⟩ := h38
        refine ⟨fun c40 => ?_, fun c40 => ?_⟩
        · skip
          exact k11 _ ⟨(by omega), trivial⟩ (by omega)
        · skip
          exact hQ _ _ ⟨hB3, hF4, (by omega), trivial⟩
    · skip
      exact hQ _ _ ⟨hB3, hF4, (by omega), trivial⟩
set_option maxHeartbeats 4000000 in
set_option maxRecDepth 100000 in
theorem sR_often {M : zM}  (hB : BI M)  {Q : Int → zM → Prop} (hQ : ∀ (z : Int) (M1 : zM), BI M1 ∧ (∀ j9 k9 : Nat, ¬ (j9 = 0 ∧ k9 = 35 ∨ j9 = 27) → M1 j9 k9 = M j9 k9) ∧ ((-9223372036854775808) ≤ z ∧ z ≤ 9223372036854775807) ∧ True → Q z M1) : wR_often  M Q := by
  unfold wR_often
  have hF0 : ∀ j9 k9 : Nat, ¬ (j9 = 0 ∧ k9 = 35 ∨ j9 = 27) → M j9 k9 = M j9 k9 := fun j9 k9 _ => rfl
  intro M1 e2
  have hB3 : BI M1 := by rw [e2]; exact BI.up0 hB rfl (by omega) (by omega) (by decide)
  have hF4 : ∀ j9 k9 : Nat, ¬ (j9 = 0 ∧ k9 = 35 ∨ j9 = 27) → M1 j9 k9 = M j9 k9 := fun j9 k9 h9 => by rw [e2]; exact (zup_n _ _ (by omega)).trans (hF0 j9 k9 h9)
  refine sR_steadyAll hB3  (fun z5  h6 => ?_)
  obtain ⟨p7, -⟩ := h6
  refine sR_findHeard hB3  (fun  M8 h9 => ?_)
  obtain ⟨hB10, f11, -⟩ := h9
  have hF12 : ∀ j9 k9 : Nat, ¬ (j9 = 0 ∧ k9 = 35 ∨ j9 = 27) → M8 j9 k9 = M j9 k9 := fun j9 k9 h9 => ((f11 j9 k9 (by omega)).trans (hF4 j9 k9 h9))
  refine sR_allRounds hB10  (fun z13  h14 => ?_)
  obtain ⟨p15, -⟩ := h14
  refine pL2_of (fun x16 x17 => (0 ≤ x17 ∧ x17 ≤ 1000000) ∧ True) (fun x16 x17 => (1000000 - x17).toNat) ⟨(by omega), trivial⟩ (fun K x16 x17 h19 k20 => ?_)
  obtain ⟨i18, -⟩ := h19
  have s21 : sI x17 = x17 := sIo (by omega) (by omega)
  have s22 : sI z13 = z13 := sIo (by omega) (by omega)
  refine ⟨fun c23 => ?_, fun c23 => ?_⟩
  · skip
    have s24 := sL_R x16
    have s25 := sL_or x16
    exact hQ _ _ ⟨hB10, hF12, (by omega), trivial⟩
  · skip
    refine sR_meetsBehind hB10 (by omega) (fun z26  h27 => ?_)
    obtain ⟨p28, -⟩ := h27
    refine ⟨fun c29 => ?_, fun c29 => ?_⟩
    · skip
      exact k20 _ _ ⟨(by omega), trivial⟩ (by omega)
    · skip
      exact k20 _ _ ⟨(by omega), trivial⟩ (by omega)
set_option maxHeartbeats 4000000 in
set_option maxRecDepth 100000 in
theorem sR_mark {M : zM} {a0 : Int} {a1 : Int} (hB : BI M) (v0 : (-2147483648) ≤ a0 ∧ a0 ≤ 2147483647) (v1 : (-2147483648) ≤ a1 ∧ a1 ≤ 2147483647) {Q : Int → zM → Prop} (hQ : ∀ (z : Int) (M1 : zM), BI M1 ∧ (∀ j9 k9 : Nat, ¬ (j9 = 0 ∧ k9 = 35 ∨ j9 = 0 ∧ k9 = 16 ∨ j9 = 12 ∨ j9 = 13) → M1 j9 k9 = M j9 k9) ∧ ((-2147483648) ≤ z ∧ z ≤ 2147483647) ∧ ((0 ≤ a0 ∧ a0 ≤ 100000 ∧ 1 ≤ a1 ∧ a1 ≤ 9 ∧ M 0 16 < 6 ∧ z = M 0 16 + 1 ∧ M1 0 16 = M 0 16 + 1) ∨ (¬ (0 ≤ a0 ∧ a0 ≤ 100000 ∧ 1 ≤ a1 ∧ a1 ≤ 9 ∧ M 0 16 < 6) ∧ z = -1 ∧ M1 0 16 = M 0 16)) ∧ True → Q z M1) : wR_mark a0 a1 M Q := by
  unfold wR_mark
  have hF0 : ∀ j9 k9 : Nat, ¬ (j9 = 0 ∧ k9 = 35 ∨ j9 = 0 ∧ k9 = 16 ∨ j9 = 12 ∨ j9 = 13) → M j9 k9 = M j9 k9 := fun j9 k9 _ => rfl
  intro M1 e2
  have hB3 : BI M1 := by rw [e2]; exact BI.up0 hB rfl (by omega) (by omega) (by decide)
  have hF4 : ∀ j9 k9 : Nat, ¬ (j9 = 0 ∧ k9 = 35 ∨ j9 = 0 ∧ k9 = 16 ∨ j9 = 12 ∨ j9 = 13) → M1 j9 k9 = M j9 k9 := fun j9 k9 h9 => by rw [e2]; exact (zup_n _ _ (by omega)).trans (hF0 j9 k9 h9)
  have r5 : M1 0 16 = M 0 16 := by rw [e2]; exact zup_n _ _ (by omega)
  refine sR_in hB3 (by omega) (by omega) (by omega) (fun z6  h7 => ?_)
  obtain ⟨p8, p9, -⟩ := h7
  refine ⟨fun c10 => ?_, fun c10 => ?_⟩
  · skip
    exact hQ _ _ ⟨hB3, hF4, (by omega), (by omega), trivial⟩
  · skip
    refine sR_in hB3 (by omega) (by omega) (by omega) (fun z11  h12 => ?_)
    obtain ⟨p13, p14, -⟩ := h12
    refine ⟨fun c15 => ?_, fun c15 => ?_⟩
    · skip
      exact hQ _ _ ⟨hB3, hF4, (by omega), (by omega), trivial⟩
    · skip
      have q16 : 0 ≤ (M1 0 16) ∧ (M1 0 16) ≤ 6 := BN.at hB3.1 (rfl : zcd wR 0 = 50) rfl
      have s17 : sI (M1 0 16) = (M1 0 16) := sIo (by omega) (by omega)
      refine ⟨fun c18 => ?_, fun c18 => ?_⟩
      · skip
        have o20 : 0 ≤ (sI (M1 0 16)) ∧ (sI (M1 0 16)) < 6 := by omega
        refine ⟨o20, ?_⟩
        intro M21 e22
        have hB23 : BI M21 := by rw [e22]; exact BI.up hB3 (rfl : zcd wR 12 = 62) rfl (by omega) (by omega) (by decide)
        have hF24 : ∀ j9 k9 : Nat, ¬ (j9 = 0 ∧ k9 = 35 ∨ j9 = 0 ∧ k9 = 16 ∨ j9 = 12 ∨ j9 = 13) → M21 j9 k9 = M j9 k9 := fun j9 k9 h9 => by rw [e22]; exact (zup_n _ _ (by omega)).trans (hF4 j9 k9 h9)
        have r25 : M21 0 16 = M1 0 16 := by rw [e22]; exact zup_n _ _ (by omega)
        have q26 : 0 ≤ (M21 0 16) ∧ (M21 0 16) ≤ 6 := BN.at hB23.1 (rfl : zcd wR 0 = 50) rfl
        have s27 : sI (M21 0 16) = (M21 0 16) := sIo (by omega) (by omega)
        have o28 : 0 ≤ (sI (M21 0 16)) ∧ (sI (M21 0 16)) < 6 := by omega
        refine ⟨o28, ?_⟩
        intro M29 e30
        have hB31 : BI M29 := by rw [e30]; exact BI.up hB23 (rfl : zcd wR 13 = 63) rfl (by omega) (by omega) (by decide)
        have hF32 : ∀ j9 k9 : Nat, ¬ (j9 = 0 ∧ k9 = 35 ∨ j9 = 0 ∧ k9 = 16 ∨ j9 = 12 ∨ j9 = 13) → M29 j9 k9 = M j9 k9 := fun j9 k9 h9 => by rw [e30]; exact (zup_n _ _ (by omega)).trans (hF24 j9 k9 h9)
        have r33 : M29 0 16 = M21 0 16 := by rw [e30]; exact zup_n _ _ (by omega)
        have q34 : 0 ≤ (M29 0 16) ∧ (M29 0 16) ≤ 6 := BN.at hB31.1 (rfl : zcd wR 0 = 50) rfl
        intro M35 e36
        have hB37 : BI M35 := by rw [e36]; exact BI.up0 hB31 rfl (by omega) (by omega) (by decide)
        have hF38 : ∀ j9 k9 : Nat, ¬ (j9 = 0 ∧ k9 = 35 ∨ j9 = 0 ∧ k9 = 16 ∨ j9 = 12 ∨ j9 = 13) → M35 j9 k9 = M j9 k9 := fun j9 k9 h9 => by rw [e36]; exact (zup_n _ _ (by omega)).trans (hF32 j9 k9 h9)
        have r39 : M35 0 16 = ((M29 0 16) + 1) := by rw [e36]; exact zup_s _ _ _ _
        have q40 : 0 ≤ (M35 0 16) ∧ (M35 0 16) ≤ 6 := BN.at hB37.1 (rfl : zcd wR 0 = 50) rfl
        have s41 : sI (M35 0 16) = (M35 0 16) := sIo (by omega) (by omega)
        exact hQ _ _ ⟨hB37, hF38, (by omega), (by omega), trivial⟩
      · skip
        exact hQ _ _ ⟨hB3, hF4, (by omega), (by omega), trivial⟩
set_option maxHeartbeats 4000000 in
set_option maxRecDepth 100000 in
theorem sR_truths {M : zM} {a0 : Int} {a1 : Int} {a2 : Int} (hB : BI M) (v0 : 0 ≤ a0 ∧ a0 ≤ 3) (v1 : 0 ≤ a1 ∧ a1 ≤ 23) (v2 : 0 ≤ a2 ∧ a2 ≤ 23) (p0 : a0 < M 0 10) (p1 : a1 = 0 ∨ a1 < M 4 (sI a0).toNat) {Q : Int → Prop} (hQ : ∀ (z : Int), (0 ≤ z ∧ z ≤ 63) ∧ True → Q z) : wR_truths a0 a1 a2 M Q := by
  unfold wR_truths
  have s1 : sI a0 = a0 := sIo (by omega) (by omega)
  have o2 : 0 ≤ (sI a0) ∧ (sI a0) < 4 := by omega
  refine ⟨o2, ?_⟩
  have q3 : 0 ≤ (M 4 (sI a0).toNat) ∧ (M 4 (sI a0).toNat) ≤ 24 := BN.at hB.1 (rfl : zcd wR 4 = 54) rfl
  have q4 : (((sI a0).toNat : Nat) : Int) < M 0 10 → 1 ≤ (M 4 (sI a0).toNat) := hB.2 _ (by omega)
  have q5 : 0 ≤ M 0 10 ∧ M 0 10 ≤ 4 := BN.at hB.1 (rfl : zcd wR 0 = 50) rfl
  refine pL2_of (fun x6 x7 => (0 ≤ x6 ∧ x6 ≤ 63) ∧ (0 ≤ x7 ∧ x7 ≤ 1000000) ∧ True) (fun x6 x7 => (1000000 - x7).toNat) ⟨(by omega), (by omega), trivial⟩ (fun K x6 x7 h10 k11 => ?_)
  obtain ⟨i8, i9, -⟩ := h10
  have q12 : 0 ≤ (M 0 16) ∧ (M 0 16) ≤ 6 := BN.at hB.1 (rfl : zcd wR 0 = 50) rfl
  have s13 : sI x7 = x7 := sIo (by omega) (by omega)
  have s14 : sI (M 0 16) = (M 0 16) := sIo (by omega) (by omega)
  refine ⟨fun c15 => ?_, fun c15 => ?_⟩
  · skip
    have s16 : sI x6 = x6 := sIo (by omega) (by omega)
    exact hQ _ ⟨(by omega), trivial⟩
  · skip
    have s17 : sI a0 = a0 := sIo (by omega) (by omega)
    have o18 : 0 ≤ (sI a0) ∧ (sI a0) < 4 := by omega
    refine ⟨o18, ?_⟩
    have q19 : 0 ≤ (M 5 (sI a0).toNat) ∧ (M 5 (sI a0).toNat) ≤ 1 := BN.at hB.1 (rfl : zcd wR 5 = 55) rfl
    have o20 : 0 ≤ (sI x7) ∧ (sI x7) < 6 := by omega
    refine ⟨o20, ?_⟩
    have q21 : 0 ≤ (M 12 (sI x7).toNat) ∧ (M 12 (sI x7).toNat) ≤ 100000 := BN.at hB.1 (rfl : zcd wR 12 = 62) rfl
    have s22 : sI (M 12 (sI x7).toNat) = (M 12 (sI x7).toNat) := sIo (by omega) (by omega)
    refine sR_wayBy hB (by omega) (by omega) (fun z23  h24 => ?_)
    obtain ⟨p25, p26, -⟩ := h24
    refine pL2_of (fun x27 x28 => (0 ≤ x28 ∧ x28 ≤ 1000000) ∧ True) (fun x27 x28 => (1000000 - x28).toNat) ⟨(by omega), trivial⟩ (fun K x27 x28 h30 k31 => ?_)
    obtain ⟨i29, -⟩ := h30
    have s32 : sI x28 = x28 := sIo (by omega) (by omega)
    refine ⟨fun c33 => ?_, fun c33 => ?_⟩
    · skip
      have s34 := sI_R x27
      have s35 := sI_or x27
      refine ⟨fun c36 => ?_, fun c36 => ?_⟩
      · skip
        exact k11 _ _ ⟨(by omega), (by omega), trivial⟩ (by omega)
      · skip
        have q37 := shl01 1 x7 (by omega) (by omega) (by omega) (by omega)
        have q38 := or64 x6 (shlI 1 x7) (by omega) (by omega) (by omega) (by omega)
        exact k11 _ _ ⟨(by omega), (by omega), trivial⟩ (by omega)
    · skip
      have s39 : sI a0 = a0 := sIo (by omega) (by omega)
      have o40 : 0 ≤ (sI a0) ∧ (sI a0) < 4 := by omega
      refine ⟨o40, ?_⟩
      have q41 : (-2147483648) ≤ (M 7 (sI a0).toNat) ∧ (M 7 (sI a0).toNat) ≤ 2147483647 := BN.at hB.1 (rfl : zcd wR 7 = 57) rfl
      have q42 := shrI_R (M 7 (sI a0).toNat) x28
      have q43 := andI_br (shrI (M 7 (sI a0).toNat) x28) (c := 1) (by decide) (by decide)
      refine ⟨fun c44 => ?_, fun c44 => ?_⟩
      · skip
        exact k31 _ _ ⟨(by omega), trivial⟩ (by omega)
      · skip
        have s45 := sI_R x27
        have s46 := sI_or x27
        refine ⟨fun c47 => ?_, fun c47 => ?_⟩
        · skip
          exact k31 _ _ ⟨(by omega), trivial⟩ (by omega)
        · skip
          have s48 : sI ((a2 + z23) + x28) = ((a2 + z23) + x28) := sIo (by omega) (by omega)
          have s49 : sI ((M 4 (sI a0).toNat) - a1) = ((M 4 (sI a0).toNat) - a1) := sIo (by omega) (by omega)
          have o50 : (sI ((M 4 (sI a0).toNat) - a1)) ≠ 0 := by omega
          refine ⟨o50, ?_⟩
          have q51 := tmodN (sI ((a2 + z23) + x28)) (sI ((M 4 (sI a0).toNat) - a1)) (by omega) (by omega)
          have s52 : sI ((24 * a0) + ((sI ((a2 + z23) + x28)).tmod (sI ((M 4 (sI a0).toNat) - a1)))) = ((24 * a0) + ((sI ((a2 + z23) + x28)).tmod (sI ((M 4 (sI a0).toNat) - a1)))) := sIo (by omega) (by omega)
          have o53 : 0 ≤ (sI ((24 * a0) + ((sI ((a2 + z23) + x28)).tmod (sI ((M 4 (sI a0).toNat) - a1))))) ∧ (sI ((24 * a0) + ((sI ((a2 + z23) + x28)).tmod (sI ((M 4 (sI a0).toNat) - a1))))) < 96 := by omega
          refine ⟨o53, ?_⟩
          have q54 : (-2147483648) ≤ (M 3 (sI ((24 * a0) + ((sI ((a2 + z23) + x28)).tmod (sI ((M 4 (sI a0).toNat) - a1))))).toNat) ∧ (M 3 (sI ((24 * a0) + ((sI ((a2 + z23) + x28)).tmod (sI ((M 4 (sI a0).toNat) - a1))))).toNat) ≤ 2147483647 := BN.at hB.1 (rfl : zcd wR 3 = 53) rfl
          have s55 : sI x7 = x7 := sIo (by omega) (by omega)
          have o56 : 0 ≤ (sI x7) ∧ (sI x7) < 6 := by omega
          refine ⟨o56, ?_⟩
          have q57 : 0 ≤ (M 13 (sI x7).toNat) ∧ (M 13 (sI x7).toNat) ≤ 9 := BN.at hB.1 (rfl : zcd wR 13 = 63) rfl
          have q58 := shrI_R (M 3 (sI ((24 * a0) + ((sI ((a2 + z23) + x28)).tmod (sI ((M 4 (sI a0).toNat) - a1))))).toNat) (M 13 (sI x7).toNat)
          have q59 := andI_br (shrI (M 3 (sI ((24 * a0) + ((sI ((a2 + z23) + x28)).tmod (sI ((M 4 (sI a0).toNat) - a1))))).toNat) (M 13 (sI x7).toNat)) (c := 1) (by decide) (by decide)
          refine ⟨fun c60 => ?_, fun c60 => ?_⟩
          · skip
            exact k31 _ _ ⟨(by omega), trivial⟩ (by omega)
          · skip
            exact k31 _ _ ⟨(by omega), trivial⟩ (by omega)
set_option maxHeartbeats 4000000 in
set_option maxRecDepth 100000 in
theorem sR_keptM {M : zM}  (hB : BI M)  {Q : Int → zM → Prop} (hQ : ∀ (z : Int) (M1 : zM), BI M1 ∧ (∀ j9 k9 : Nat, ¬ (j9 = 0 ∧ k9 = 35) → M1 j9 k9 = M j9 k9) ∧ ((-2147483648) ≤ z ∧ z ≤ 2147483647) ∧ True → Q z M1) : wR_keptM  M Q := by
  unfold wR_keptM
  have hF0 : ∀ j9 k9 : Nat, ¬ (j9 = 0 ∧ k9 = 35) → M j9 k9 = M j9 k9 := fun j9 k9 _ => rfl
  intro M1 e2
  have hB3 : BI M1 := by rw [e2]; exact BI.up0 hB rfl (by omega) (by omega) (by decide)
  have hF4 : ∀ j9 k9 : Nat, ¬ (j9 = 0 ∧ k9 = 35) → M1 j9 k9 = M j9 k9 := fun j9 k9 h9 => by rw [e2]; exact (zup_n _ _ (by omega)).trans (hF0 j9 k9 h9)
  refine pL2_of (fun x5 x6 => (0 ≤ x6 ∧ x6 ≤ 1000000) ∧ True) (fun x5 x6 => (1000000 - x6).toNat) ⟨(by omega), trivial⟩ (fun K x5 x6 h8 k9 => ?_)
  obtain ⟨i7, -⟩ := h8
  have q10 : 0 ≤ (M1 0 10) ∧ (M1 0 10) ≤ 4 := BN.at hB3.1 (rfl : zcd wR 0 = 50) rfl
  have s11 : sI x6 = x6 := sIo (by omega) (by omega)
  have s12 : sI (M1 0 10) = (M1 0 10) := sIo (by omega) (by omega)
  refine ⟨fun c13 => ?_, fun c13 => ?_⟩
  · skip
    have s14 := sI_R x5
    have s15 := sI_or x5
    exact hQ _ _ ⟨hB3, hF4, (by omega), trivial⟩
  · skip
    have o16 : 0 ≤ (sI x6) ∧ (sI x6) < 4 := by omega
    refine ⟨o16, ?_⟩
    have q17 : 0 ≤ (M1 6 (sI x6).toNat) ∧ (M1 6 (sI x6).toNat) ≤ 23 := BN.at hB3.1 (rfl : zcd wR 6 = 56) rfl
    refine sR_truths hB3 (by omega) (by omega) (by omega) (by omega) (by omega) (fun z18  h19 => ?_)
    obtain ⟨p20, -⟩ := h19
    have q21 := orI_R x5 z18
    exact k9 _ _ ⟨(by omega), trivial⟩ (by omega)
theorem sR_costOf {M : zM} {a0 a1 a2 : Int} (hB : BI M) (v0 : 0 ≤ a0 ∧ a0 ≤ 3) (v1 : 0 ≤ a1 ∧ a1 ≤ 23) (v2 : 0 ≤ a2 ∧ a2 ≤ 23) {Q : Int → Prop} (hQ : ∀ z, ((0 ≤ z ∧ z ≤ 200) ∧ z = 5 * a1 + absI (a2 - M 6 (sI a0).toNat) ∧ True) → Q z) : wR_costOf a0 a1 a2 M Q := by
  unfold wR_costOf
  have s0 : sI a0 = a0 := sIo (by omega) (by omega)
  have b : 0 ≤ M 6 (sI a0).toNat ∧ M 6 (sI a0).toNat ≤ 23 := BN.at hB.1 (rfl : zcd wR 6 = 56) rfl
  have s1 : sI (a2 - M 6 (sI a0).toNat) = a2 - M 6 (sI a0).toNat := sIo (by omega) (by omega)
  have ab := absI_b (a2 - M 6 (sI a0).toNat)
  rw [s1]
  refine ⟨by omega, ?_⟩
  rw [sIo (by omega) (by omega)]
  exact hQ _ ⟨by omega, rfl, trivial⟩
/-- what the model's table of plans holds from a ring on: FAR, or the cost of a cut and start and what stands behind it -/
def DPR (M N : zM) (r : Nat) : Prop := ∀ v : Nat, (v : Int) < shlI 1 (M 0 16) → N 28 (64 * r + v) = 268435456 ∨ ∃ c t : Nat, (c : Int) < M 4 r ∧ (t : Int) < M 4 r - c ∧ N 28 (64 * r + v) = (5 * c + absI (t - M 6 r)) + N 28 (64 * (r + 1) + (andI v (xorI (N 29 (24 * (24 * r + c) + t)) (-1))).toNat)
theorem DPR.of {M N N2 : zM} {r : Nat} (h : DPR M N r) (h28 : ∀ i, 64 * r ≤ i → N2 28 i = N 28 i) (h29 : ∀ i, 576 * r ≤ i → N2 29 i = N 29 i) : DPR M N2 r := by
  intro v hv
  rw [h28 _ (by omega)]
  rcases h v hv with h1 | ⟨c, t, h1, h2, h3⟩
  · exact Or.inl h1
  · refine Or.inr ⟨c, t, h1, h2, ?_⟩
    rw [h29 _ (by omega), h28 _ (by omega)]
    exact h3
/-- a plan that can be carried out -/
def PVR (M N : zM) : Prop := ∀ k : Nat, k < 4 → (k : Int) < M 0 10 → (0 ≤ N 22 (2 * k) ∧ N 22 (2 * k) < M 4 k) ∧ (0 ≤ N 22 (2 * k + 1) ∧ N 22 (2 * k + 1) < M 4 k - N 22 (2 * k))
/-- the table's row of a ring, while it is made: all cuts and starts ahead of c, t -/
def PDR (M N : zM) (r : Nat) (c t : Int) : Prop := ∀ v : Nat, (v : Int) < shlI 1 (M 0 16) → N 28 (64 * r + v) = 268435456 ∨ ∃ c2 t2 : Nat, ((c2 : Int) < c ∨ (c2 = c ∧ (t2 : Int) < t)) ∧ (c2 : Int) < M 4 r ∧ (t2 : Int) < M 4 r - c2 ∧ N 28 (64 * r + v) = (5 * c2 + absI (t2 - M 6 r)) + N 28 (64 * (r + 1) + (andI v (xorI (N 29 (24 * (24 * r + c2) + t2)) (-1))).toNat)
set_option maxHeartbeats 16000000 in
theorem sR_findPlan {M : zM} (hB : BI M) {Q : Int → zM → Prop} (hQ : ∀ z M1, (BI M1 ∧ (∀ j9 k9 : Nat, ¬ (j9 = 0 ∧ k9 = 34 ∨ j9 = 22 ∨ j9 = 28 ∨ j9 = 29) → M1 j9 k9 = M j9 k9) ∧ (-1 ≤ z ∧ z ≤ 268435456) ∧ ((z = -1 ∧ M1 0 34 = M 0 34 ∧ M1 22 = M 22) ∨ (0 ≤ z ∧ M1 0 34 = 2 * M 0 10 ∧ PVR M M1)) ∧ True) → Q z M1) : wR_findPlan M Q := by
  unfold wR_findPlan
  have b10 : 0 ≤ M 0 10 ∧ M 0 10 ≤ 4 := BN.at hB.1 (rfl : zcd wR 0 = 50) rfl
  have s10 : sI (M 0 10) = M 0 10 := sIo (by omega) (by omega)
  have b16 : 0 ≤ M 0 16 ∧ M 0 16 ≤ 6 := BN.at hB.1 (rfl : zcd wR 0 = 50) rfl
  have bs := shl1_b (M 0 16) b16.1 b16.2
  obtain ⟨S, eS⟩ : ∃ S, S = shlI 1 (M 0 16) := ⟨_, rfl⟩
  rw [← eS] at bs ⊢
  have sS1 : sI (S - 1) = S - 1 := sIo (by omega) (by omega)
  -- the table's end
  refine wL1_of (fun x N => BI N ∧ (∀ j9 k9 : Nat, ¬ (j9 = 28) → N j9 k9 = M j9 k9) ∧ (0 ≤ x ∧ x ≤ 64)) (fun x _ => (1000 - x).toNat) ⟨hB, fun _ _ _ => rfl, by omega⟩ (fun K x N hI hK => ?_)
  obtain ⟨hBN, FN, ix⟩ := hI
  have sx : sI x = x := sIo (by omega) (by omega)
  have n10 : N 0 10 = M 0 10 := FN 0 10 (by omega)
  have sk : sI (64 * M 0 10 + x) = 64 * M 0 10 + x := sIo (by omega) (by omega)
  rw [sx, n10, sk]
  refine ⟨fun c => ?_, fun c => ⟨fun c2 => ⟨by omega, ?_⟩, fun c2 => ⟨by omega, ?_⟩⟩⟩
  rotate_left
  · intro M169 e169
    exact hK _ _ ⟨by rw [e169]; exact BI.up hBN (rfl : zcd wR 28 = 78) rfl (by omega) (by omega) (by decide), fun j9 k9 h9 => by rw [e169]; exact (zup_n _ _ (by omega)).trans (FN j9 k9 h9), by omega⟩ (by omega)
  · intro M174 e174
    exact hK _ _ ⟨by rw [e174]; exact BI.up hBN (rfl : zcd wR 28 = 78) rfl (by omega) (by omega) (by decide), fun j9 k9 h9 => by rw [e174]; exact (zup_n _ _ (by omega)).trans (FN j9 k9 h9), by omega⟩ (by omega)
  clear hK
  -- ring by ring from the last
  refine wL1_of (fun y P => BI P ∧ (∀ j9 k9 : Nat, ¬ (j9 = 28 ∨ j9 = 29) → P j9 k9 = M j9 k9) ∧ (-1 ≤ y ∧ y < M 0 10) ∧ (∀ k : Nat, k < 4 → y < k → (k : Int) < M 0 10 → DPR M P k)) (fun y _ => (y + 1).toNat) ⟨hBN, fun j9 k9 h9 => FN j9 k9 (by omega), by omega, fun k h1 h2 h3 => by omega⟩ (fun K y P hI hK => ?_)
  obtain ⟨hBP, FP, iy, iD⟩ := hI
  have sy : sI y = y := sIo (by omega) (by omega)
  rw [sy]
  refine ⟨fun c2 => ?_, fun c2 => ?_⟩
  · -- the plan is read
    have hy : y = -1 := by omega
    rw [sS1]
    refine ⟨by omega, ?_⟩
    intro t22 e22
    have b22 : 0 ≤ t22 ∧ t22 ≤ 268435456 := by rw [e22]; exact BN.at hBP.1 (rfl : zcd wR 28 = 78) rfl
    have s22 : sI t22 = t22 := sIo (by omega) (by omega)
    rw [s22]
    refine ⟨fun c3 => ?_, fun c3 => hQ _ _ ⟨hBP, fun j9 k9 h9 => FP j9 k9 (by omega), by omega, Or.inl ⟨rfl, FP 0 34 (by omega), rowF FP 22 (by omega)⟩, trivial⟩⟩
    refine wL2_of (fun w r N => BI N ∧ (∀ j9 k9 : Nat, ¬ (j9 = 22) → N j9 k9 = P j9 k9) ∧ (0 ≤ r ∧ r ≤ M 0 10) ∧ (0 ≤ w ∧ w < S) ∧ P 28 (64 * r.toNat + w.toNat) < 268435456 ∧ (∀ k : Nat, (k : Int) < r → (0 ≤ N 22 (2 * k) ∧ N 22 (2 * k) < M 4 k) ∧ (0 ≤ N 22 (2 * k + 1) ∧ N 22 (2 * k + 1) < M 4 k - N 22 (2 * k)))) (fun _ r _ => (100 - r).toNat) ⟨hBP, fun _ _ _ => rfl, by omega, by omega, by rw [show 64 * (0 : Int).toNat + (S - 1).toNat = (S - 1).toNat by omega, ← e22]; exact c3, fun k h => by omega⟩ (fun K2 w r N hI hK2 => ?_)
    obtain ⟨hBN2, FN2, ir, iw, iv, ip⟩ := hI
    have sr : sI r = r := sIo (by omega) (by omega)
    have n10b : N 0 10 = M 0 10 := (FN2 0 10 (by omega)).trans (FP 0 10 (by omega))
    rw [sr, n10b, s10]
    refine ⟨fun c4 => ?_, fun c4 => ?_⟩
    · intro M36 e36
      refine hQ _ _ ⟨by rw [e36]; exact BI.up0 hBN2 (rfl : cbt 50 34 = (-1, 64)) (by omega) (by omega) (by decide), fun j9 k9 h9 => by rw [e36]; exact (zup_n _ _ (by omega)).trans ((FN2 j9 k9 (by omega)).trans (FP j9 k9 (by omega))), by omega, Or.inr ⟨by omega, by rw [e36, zup_s], fun k hk hk2 => ?_⟩, trivial⟩
      rw [e36, zup_row _ _ (by omega)]
      exact ip k (by omega)
    · obtain ⟨i, ei⟩ : ∃ i : Nat, i = r.toNat := ⟨_, rfl⟩
      have hi : (i : Int) = r := by omega
      have eI : ∀ _ : Nat, i = r.toNat := fun _ => ei
      clear ei
      rw [← eI 0] at iv
      have bL : 0 ≤ M 4 i ∧ M 4 i ≤ 24 := BN.at hB.1 (rfl : zcd wR 4 = 54) rfl
      have b6 : 0 ≤ M 6 i ∧ M 6 i ≤ 23 := BN.at hB.1 (rfl : zcd wR 6 = 56) rfl
      have hD := iD i (by omega) (by omega) (by omega)
      unfold DPR at hD
      rw [← eS] at hD
      rcases hD w.toNat (by omega) with h0 | ⟨cs, ts, h1, h2, h3⟩
      · omega
      rw [show (w.toNat : Int) = w by omega] at h3
      -- cut by cut
      refine wL3_of (fun w2 dn c N2 => BI N2 ∧ (∀ j9 k9 : Nat, ¬ (j9 = 22) → N2 j9 k9 = P j9 k9) ∧ (0 ≤ c ∧ c ≤ M 4 i) ∧ (∀ k : Nat, (k : Int) < r → (0 ≤ N2 22 (2 * k) ∧ N2 22 (2 * k) < M 4 k) ∧ (0 ≤ N2 22 (2 * k + 1) ∧ N2 22 (2 * k + 1) < M 4 k - N2 22 (2 * k))) ∧ ((dn = 0 ∧ w2 = w ∧ c ≤ cs) ∨ (dn = 1 ∧ (0 ≤ w2 ∧ w2 < S) ∧ P 28 (64 * (i + 1) + w2.toNat) < 268435456 ∧ (0 ≤ N2 22 (2 * i) ∧ N2 22 (2 * i) < M 4 i) ∧ (0 ≤ N2 22 (2 * i + 1) ∧ N2 22 (2 * i + 1) < M 4 i - N2 22 (2 * i))))) (fun _ _ c _ => (100 - c).toNat) ⟨hBN2, FN2, by omega, ip, Or.inl ⟨rfl, rfl, by omega⟩⟩ (fun K3 w2 dn c N2 hI hK3 => ?_)
      obtain ⟨hBN3, FN3, ic, ip3, io⟩ := hI
      have sc : sI c = c := sIo (by omega) (by omega)
      have sdn : sI dn = dn := sIo (by omega) (by omega)
      have l4 : N2 4 i = M 4 i := (FN3 4 i (by omega)).trans (FP 4 i (by omega))
      have sl : sI (M 4 i) = M 4 i := sIo (by omega) (by omega)
      have fin : dn = 1 → K2 w2 (r + 1) N2 := by
        intro hd
        rcases io with ⟨h, -, -⟩ | ⟨-, q1, q2, q3, q4⟩
        · omega
        · refine hK2 _ _ _ ⟨hBN3, FN3, by omega, q1, ?_, ?_⟩ (by omega)
          · rw [show (r + 1).toNat = i + 1 by omega]
            exact q2
          · intro k hk
            by_cases hki : k = i
            · subst hki
              exact ⟨q3, q4⟩
            · exact ip3 k (by omega)
      rw [sc, sdn, ← eI 0, l4, sl]
      refine ⟨by omega, fun c5 => fin (by omega), fun c5 => ⟨fun c6 => fin (by omega), fun c6 => ?_⟩⟩
      -- start by start
      refine wL3_of (fun w3 dn2 t N3 => BI N3 ∧ (∀ j9 k9 : Nat, ¬ (j9 = 22) → N3 j9 k9 = P j9 k9) ∧ (0 ≤ t ∧ t ≤ M 4 i - c) ∧ (∀ k : Nat, (k : Int) < r → (0 ≤ N3 22 (2 * k) ∧ N3 22 (2 * k) < M 4 k) ∧ (0 ≤ N3 22 (2 * k + 1) ∧ N3 22 (2 * k + 1) < M 4 k - N3 22 (2 * k))) ∧ ((dn2 = 0 ∧ w3 = w ∧ (c < cs ∨ (c = cs ∧ t ≤ ts))) ∨ (dn2 = 1 ∧ (0 ≤ w3 ∧ w3 < S) ∧ P 28 (64 * (i + 1) + w3.toNat) < 268435456 ∧ (0 ≤ N3 22 (2 * i) ∧ N3 22 (2 * i) < M 4 i) ∧ (0 ≤ N3 22 (2 * i + 1) ∧ N3 22 (2 * i + 1) < M 4 i - N3 22 (2 * i))))) (fun _ _ t _ => (100 - t).toNat) ⟨hBN3, FN3, by omega, ip3, by omega⟩ (fun K4 w3 dn2 t N3 hI hK4 => ?_)
      obtain ⟨hBN4, FN4, it, ip4, io4⟩ := hI
      clear io fin
      have st : sI t = t := sIo (by omega) (by omega)
      have sdn2 : sI dn2 = dn2 := sIo (by omega) (by omega)
      have l42 : N3 4 i = M 4 i := (FN4 4 i (by omega)).trans (FP 4 i (by omega))
      have l62 : N3 6 i = M 6 i := (FN4 6 i (by omega)).trans (FP 6 i (by omega))
      have slc : sI (M 4 i - c) = M 4 i - c := sIo (by omega) (by omega)
      have r28 : N3 28 = P 28 := rowF FN4 28 (by omega)
      have r29 : N3 29 = P 29 := rowF FN4 29 (by omega)
      rw [st, sdn2, l42, slc]
      refine ⟨by omega, fun c7 => hK3 _ _ _ _ ⟨hBN4, FN4, by omega, ip4, by omega⟩ (by omega), fun c7 => ⟨fun c8 => hK3 _ _ _ _ ⟨hBN4, FN4, by omega, ip4, by omega⟩ (by omega), fun c8 => ?_⟩⟩
      have hw3 : w3 = w := by omega
      have io5 : c < cs ∨ (c = cs ∧ t ≤ ts) := by
        rcases io4 with ⟨-, -, h⟩ | ⟨h, -⟩
        · exact h
        · omega
      clear io4
      have io6 : ∀ _ : Nat, c < cs ∨ (c = cs ∧ t ≤ ts) := fun _ => io5
      clear io5
      have sx1 : sI (24 * (24 * r + c) + t) = 24 * (24 * r + c) + t := sIo (by omega) (by omega)
      have ex1 : ∀ _ : Nat, (24 * (24 * r + c) + t).toNat = 24 * (24 * i + c.toNat) + t.toNat := fun _ => by omega
      rw [sx1]
      refine ⟨by omega, ?_⟩
      intro t75 e75
      have bt := andI_le w3 (xorI (N3 29 (24 * (24 * r + c) + t).toNat) (-1)) (by omega) (by omega)
      rw [← e75] at bt
      refine sR_costOf hBN4 (by omega) (by omega) (by omega) (fun z78 h78 => ?_)
      obtain ⟨bz, ez, -⟩ := h78
      rw [sr, ← eI 0, l62] at ez
      have sa : sI (64 * (r + 1) + t75) = 64 * (r + 1) + t75 := sIo (by omega) (by omega)
      have sb : sI (64 * r + w3) = 64 * r + w3 := sIo (by omega) (by omega)
      have ea : ∀ _ : Nat, (64 * (r + 1) + t75).toNat = 64 * (i + 1) + t75.toNat := fun _ => by omega
      have eb : ∀ _ : Nat, (64 * r + w3).toNat = 64 * i + w3.toNat := fun _ => by omega
      have s2r : sI (2 * r) = 2 * r := sIo (by omega) (by omega)
      have s2r1 : sI (2 * r + 1) = 2 * r + 1 := sIo (by omega) (by omega)
      have e2r : ∀ _ : Nat, (2 * r).toNat = 2 * i := fun _ => by omega
      have e2r1 : ∀ _ : Nat, (2 * r + 1).toNat = 2 * i + 1 := fun _ => by omega
      rw [sa, sb, s2r, s2r1, ea 0, eb 0, e2r 0, e2r1 0, r28]
      have ba : 0 ≤ P 28 (64 * (i + 1) + t75.toNat) ∧ P 28 (64 * (i + 1) + t75.toNat) ≤ 268435456 := BN.at hBP.1 (rfl : zcd wR 28 = 78) rfl
      have bb : 0 ≤ P 28 (64 * i + w3.toNat) ∧ P 28 (64 * i + w3.toNat) ≤ 268435456 := BN.at hBP.1 (rfl : zcd wR 28 = 78) rfl
      have sA : sI (z78 + P 28 (64 * (i + 1) + t75.toNat)) = z78 + P 28 (64 * (i + 1) + t75.toNat) := sIo (by omega) (by omega)
      have sB : sI (P 28 (64 * i + w3.toNat)) = P 28 (64 * i + w3.toNat) := sIo (by omega) (by omega)
      rw [sA, sB]
      refine ⟨by omega, by omega, fun c9 => ⟨by omega, ?_⟩, fun c9 => ?_⟩
      · intro M85 e85
        refine ⟨by omega, ?_⟩
        intro M88 e88
        have hB85 : BI M85 := by rw [e85]; exact BI.up hBN4 (rfl : zcd wR 22 = 72) rfl (by omega) (by omega) (by decide)
        have q1 : M88 22 (2 * i) = c := by rw [e88, zup_n _ _ (by omega), e85, zup_s]
        have q2 : M88 22 (2 * i + 1) = t := by rw [e88, zup_s]
        have q3 : P 28 (64 * (i + 1) + t75.toNat) < 268435456 := by rw [hw3] at c9; omega
        refine hK4 _ _ _ _ ⟨by rw [e88]; exact BI.up hB85 (rfl : zcd wR 22 = 72) rfl (by omega) (by omega) (by decide), fun j9 k9 h9 => by rw [e88, e85]; exact (zup_n _ _ (by omega)).trans ((zup_n _ _ (by omega)).trans (FN4 j9 k9 h9)), by omega, fun k hk => ?_, Or.inr ⟨rfl, by omega, q3, by rw [q1]; omega, by rw [q1, q2]; omega⟩⟩ (by omega)
        rw [e88, e85, zup_n _ _ (by omega), zup_n _ _ (by omega), zup_n _ _ (by omega), zup_n _ _ (by omega)]
        exact ip4 k hk
      · refine hK4 _ _ _ _ ⟨hBN4, FN4, by omega, ip4, Or.inl ⟨by omega, hw3, ?_⟩⟩ (by omega)
        rcases io6 0 with h | ⟨h, h'⟩
        · exact Or.inl h
        · refine Or.inr ⟨h, ?_⟩
          by_cases hts : t = ts
          · exfalso
            apply c9
            rw [ez, e75, hw3, r29, ex1 0, h, hts, Int.toNat_natCast, Int.toNat_natCast]
            exact h3.symm
          · omega
  · -- a ring's row of the table is made
    obtain ⟨i, ei⟩ : ∃ i : Nat, i = y.toNat := ⟨_, rfl⟩
    have hi : (i : Int) = y := by omega
    have eI : ∀ _ : Nat, i = y.toNat := fun _ => ei
    clear ei
    have bL : 0 ≤ M 4 i ∧ M 4 i ≤ 24 := BN.at hB.1 (rfl : zcd wR 4 = 54) rfl
    have b6 : 0 ≤ M 6 i ∧ M 6 i ≤ 23 := BN.at hB.1 (rfl : zcd wR 6 = 56) rfl
    have sl : sI (M 4 i) = M 4 i := sIo (by omega) (by omega)
    refine wL1_of (fun x N => BI N ∧ (∀ j9 k9 : Nat, ¬ (j9 = 28 ∧ k9 < 64 * (i + 1)) → N j9 k9 = P j9 k9) ∧ (0 ≤ x ∧ x ≤ 64) ∧ (∀ v : Nat, (v : Int) < x → N 28 (64 * i + v) = 268435456)) (fun x _ => (1000 - x).toNat) ⟨hBP, fun _ _ _ => rfl, by omega, fun v hv => by omega⟩ (fun K2 x2 N2 hI hK2 => ?_)
    obtain ⟨hB2, F2, ix2, iv2⟩ := hI
    have sx2 : sI x2 = x2 := sIo (by omega) (by omega)
    have sk2 : sI (64 * y + x2) = 64 * y + x2 := sIo (by omega) (by omega)
    rw [sx2, sk2, ← eI 0]
    refine ⟨fun c3 => ?_, fun c3 => ⟨by omega, ?_⟩⟩
    rotate_left
    · intro M163 e163
      have e64 : ∀ _ : Nat, (64 * y + x2).toNat = 64 * i + x2.toNat := fun _ => by omega
      rw [e64 0] at e163
      refine hK2 _ _ ⟨by rw [e163]; exact BI.up hB2 (rfl : zcd wR 28 = 78) rfl (by omega) (by omega) (by decide), fun j9 k9 h9 => by rw [e163]; exact (zup_n _ _ (by omega)).trans (F2 j9 k9 h9), by omega, fun v hv => ?_⟩ (by omega)
      rw [e163]
      by_cases h : v = x2.toNat
      · rw [h, zup_s]
      · rw [zup_n _ _ (by omega)]
        exact iv2 v (by omega)
    clear hK2
    -- cut by cut
    refine wL1_of (fun c N => BI N ∧ (∀ j9 k9 : Nat, ¬ (j9 = 28 ∧ k9 < 64 * (i + 1) ∨ j9 = 29 ∧ k9 < 576 * (i + 1)) → N j9 k9 = P j9 k9) ∧ (0 ≤ c ∧ c ≤ M 4 i) ∧ PDR M N i c 0) (fun c _ => (1000 - c).toNat) ⟨hB2, fun j9 k9 h9 => F2 j9 k9 (by omega), by omega, fun v hv => Or.inl (iv2 v (by rw [← eS] at hv; omega))⟩ (fun K3 c N3 hI hK3 => ?_)
    obtain ⟨hB3, F3, ic, iP⟩ := hI
    have sc : sI c = c := sIo (by omega) (by omega)
    have l4 : N3 4 i = M 4 i := (F3 4 i (by omega)).trans (FP 4 i (by omega))
    rw [sc, l4, sl]
    refine ⟨by omega, fun c4 => ?_, fun c4 => ?_⟩
    · refine hK _ _ ⟨hB3, fun j9 k9 h9 => (F3 j9 k9 (by omega)).trans (FP j9 k9 (by omega)), by omega, fun k h1 h2 h3 => ?_⟩ (by omega)
      by_cases hki : k = i
      · subst hki
        intro v hv
        rcases iP v hv with h | ⟨c2, t2, -, h1, h2, h3⟩
        · exact Or.inl h
        · exact Or.inr ⟨c2, t2, h1, h2, h3⟩
      · exact (iD k h1 (by omega) h3).of (fun q hq => F3 28 q (by omega)) (fun q hq => F3 29 q (by omega))
    -- start by start
    refine wL1_of (fun t N => BI N ∧ (∀ j9 k9 : Nat, ¬ (j9 = 28 ∧ k9 < 64 * (i + 1) ∨ j9 = 29 ∧ k9 < 576 * (i + 1)) → N j9 k9 = P j9 k9) ∧ (0 ≤ t ∧ t ≤ M 4 i - c) ∧ PDR M N i c t) (fun t _ => (1000 - t).toNat) ⟨hB3, F3, by omega, iP⟩ (fun K4 t N4 hI hK4 => ?_)
    obtain ⟨hB4, F4, it, iP4⟩ := hI
    have st : sI t = t := sIo (by omega) (by omega)
    have l42 : N4 4 i = M 4 i := (F4 4 i (by omega)).trans (FP 4 i (by omega))
    have l102 : N4 0 10 = M 0 10 := (F4 0 10 (by omega)).trans (FP 0 10 (by omega))
    have slc : sI (M 4 i - c) = M 4 i - c := sIo (by omega) (by omega)
    rw [st, l42, slc]
    refine ⟨by omega, fun c5 => ?_, fun c5 => ?_⟩
    · refine hK3 _ _ ⟨hB4, F4, by omega, fun v hv => ?_⟩ (by omega)
      rcases iP4 v hv with h | ⟨c2, t2, h0, h1, h2, h3⟩
      · exact Or.inl h
      · exact Or.inr ⟨c2, t2, by omega, h1, h2, h3⟩
    refine sR_truths hB4 (by omega) (by omega) (by omega) (by omega) (by rw [sy, ← eI 0, l42]; omega) (fun z131 h131 => ?_)
    obtain ⟨bz, -⟩ := h131
    have sx1 : sI (24 * (24 * y + c) + t) = 24 * (24 * y + c) + t := sIo (by omega) (by omega)
    have ex1 : ∀ _ : Nat, (24 * (24 * y + c) + t).toNat = 24 * (24 * i + c.toNat) + t.toNat := fun _ => by omega
    rw [sx1]
    refine ⟨by omega, ?_⟩
    intro M135 e135
    rw [ex1 0] at e135
    have hB135 : BI M135 := by rw [e135]; exact BI.up hB4 (rfl : zcd wR 29 = 79) rfl (by omega) (by omega) (by decide)
    have r135 : M135 29 (24 * (24 * i + c.toNat) + t.toNat) = z131 := by rw [e135, zup_s]
    have F135 : ∀ j9 k9 : Nat, ¬ (j9 = 28 ∧ k9 < 64 * (i + 1) ∨ j9 = 29 ∧ k9 < 576 * (i + 1)) → M135 j9 k9 = P j9 k9 := fun j9 k9 h9 => by rw [e135]; exact (zup_n _ _ (by omega)).trans (F4 j9 k9 h9)
    refine wL1_of (fun v N => BI N ∧ (∀ j9 k9 : Nat, ¬ (j9 = 28 ∧ k9 < 64 * (i + 1) ∨ j9 = 29 ∧ k9 < 576 * (i + 1)) → N j9 k9 = P j9 k9) ∧ N 29 (24 * (24 * i + c.toNat) + t.toNat) = z131 ∧ (0 ≤ v ∧ v ≤ 64) ∧ PDR M N i c (t + 1)) (fun v _ => (1000 - v).toNat) ⟨hB135, F135, r135, by omega, fun v hv => ?_⟩ (fun K5 v N5 hI hK5 => ?_)
    · rw [e135, zup_row _ _ (show (28 : Nat) ≠ 29 by omega)]
      rcases iP4 v hv with h | ⟨c2, t2, h0, h1, h2, h3⟩
      · exact Or.inl h
      · refine Or.inr ⟨c2, t2, by omega, h1, h2, ?_⟩
        rw [zup_n _ _ (by omega)]
        exact h3
    obtain ⟨hB5, F5, r5, iv5, iP5⟩ := hI
    have sv : sI v = v := sIo (by omega) (by omega)
    have l65 : N5 6 i = M 6 i := (F5 6 i (by omega)).trans (FP 6 i (by omega))
    rw [sv]
    refine ⟨fun c6 => hK4 _ _ ⟨hB5, F5, by omega, iP5⟩ (by omega), fun c6 => ?_⟩
    refine sR_costOf hB5 (by omega) (by omega) (by omega) (fun z150 h150 => ?_)
    obtain ⟨bz2, ez, -⟩ := h150
    rw [sy, ← eI 0, l65] at ez
    have bt := andI_le v (xorI z131 (-1)) (by omega) (by omega)
    obtain ⟨u, eu⟩ : ∃ u, u = andI v (xorI z131 (-1)) := ⟨_, rfl⟩
    rw [← eu] at bt ⊢
    have sa : sI (64 * (y + 1) + u) = 64 * (y + 1) + u := sIo (by omega) (by omega)
    have sb : sI (64 * y + v) = 64 * y + v := sIo (by omega) (by omega)
    have ea : ∀ _ : Nat, (64 * (y + 1) + u).toNat = 64 * (i + 1) + u.toNat := fun _ => by omega
    have eb : ∀ _ : Nat, (64 * y + v).toNat = 64 * i + v.toNat := fun _ => by omega
    rw [sa, sb, ea 0, eb 0]
    have ba : 0 ≤ N5 28 (64 * (i + 1) + u.toNat) ∧ N5 28 (64 * (i + 1) + u.toNat) ≤ 268435456 := BN.at hB5.1 (rfl : zcd wR 28 = 78) rfl
    have bb : 0 ≤ N5 28 (64 * i + v.toNat) ∧ N5 28 (64 * i + v.toNat) ≤ 268435456 := BN.at hB5.1 (rfl : zcd wR 28 = 78) rfl
    refine ⟨by omega, ?_⟩
    intro t154 e154
    have sA : sI t154 = t154 := sIo (by omega) (by omega)
    have sB : sI (N5 28 (64 * i + v.toNat)) = N5 28 (64 * i + v.toNat) := sIo (by omega) (by omega)
    rw [sA, sB]
    refine ⟨by omega, by omega, ?_⟩
    intro M158 e158
    refine hK5 _ _ ⟨by rw [e158]; exact BI.up hB5 (rfl : zcd wR 28 = 78) rfl (by omega) (by omega) (by decide), fun j9 k9 h9 => by rw [e158]; exact (zup_n _ _ (by omega)).trans (F5 j9 k9 h9), by rw [e158, zup_n _ _ (by omega)]; exact r5, by omega, fun v2 hv2 => ?_⟩ (by omega)
    have r158 : M158 29 = N5 29 := by rw [e158]; exact zup_row _ _ (by omega)
    have q158 : ∀ k, M158 28 (64 * (i + 1) + k) = N5 28 (64 * (i + 1) + k) := fun k => by rw [e158]; exact zup_n _ _ (by omega)
    rw [r158]
    by_cases h : v2 = v.toNat
    · subst h
      have h58 : M158 28 (64 * i + v.toNat) = min (N5 28 (64 * i + v.toNat)) t154 := by rw [e158, zup_s]
      rw [h58]
      rcases Int.le_total (N5 28 (64 * i + v.toNat)) t154 with hm | hm
      · rw [Int.min_eq_left hm]
        rcases iP5 _ hv2 with h | ⟨c2, t2, h0, h1, h2, h3⟩
        · exact Or.inl h
        · exact Or.inr ⟨c2, t2, h0, h1, h2, by rw [q158]; exact h3⟩
      · rw [Int.min_eq_right hm]
        refine Or.inr ⟨c.toNat, t.toNat, by omega, by omega, by omega, ?_⟩
        rw [q158, r5, Int.toNat_of_nonneg ic.1, Int.toNat_of_nonneg it.1, Int.toNat_of_nonneg iv5.1, ← eu, e154, ez]
    · rw [show M158 28 (64 * i + v2) = N5 28 (64 * i + v2) by rw [e158]; exact zup_n _ _ (by omega)]
      rcases iP5 v2 hv2 with h | ⟨c2, t2, h0, h1, h2, h3⟩
      · exact Or.inl h
      · exact Or.inr ⟨c2, t2, h0, h1, h2, by rw [q158]; exact h3⟩
end zz31_R02
section zz31_R03
/-! safety of the model, 3 -/
theorem sR_plan {M : zM} (hB : BI M) {Q : Int → zM → Prop} (hQ : ∀ z M1, (BI M1 ∧ (∀ j9 k9 : Nat, ¬ (j9 = 0 ∧ k9 = 35 ∨ j9 = 0 ∧ k9 = 34 ∨ j9 = 22 ∨ j9 = 28 ∨ j9 = 29) → M1 j9 k9 = M j9 k9) ∧ (-1 ≤ z ∧ z ≤ 268435456) ∧ True) → Q z M1) : wR_plan M Q := by
  unfold wR_plan
  intro M1 e1
  have hB1 : BI M1 := by rw [e1]; exact BI.up0 hB (rfl : cbt 50 35 = (-2147483648, 2147483647)) (by omega) (by omega) (by decide)
  refine sR_findPlan hB1 (fun z M3 h => ?_)
  obtain ⟨h1, h2, h3, -⟩ := h
  exact hQ _ _ ⟨h1, fun j9 k9 h9 => (h2 j9 k9 (by omega)).trans (by rw [e1]; exact zup_n _ _ (by omega)), h3, trivial⟩
set_option maxHeartbeats 4000000 in
theorem sR_make {M : zM} (hB : BI M) {Q : Int → zM → Prop} (hQ : ∀ z M1, (BI M1 ∧ (∀ j9 k9 : Nat, ¬ (j9 = 0 ∧ k9 = 35 ∨ j9 = 0 ∧ k9 = 34 ∨ j9 = 4 ∨ j9 = 6 ∨ j9 = 22 ∨ j9 = 28 ∨ j9 = 29) → M1 j9 k9 = M j9 k9) ∧ (-1 ≤ z ∧ z ≤ 268435456) ∧ True) → Q z M1) : wR_make M Q := by
  unfold wR_make
  intro M1 e1
  have hB1 : BI M1 := by rw [e1]; exact BI.up0 hB (rfl : cbt 50 35 = (-2147483648, 2147483647)) (by omega) (by omega) (by decide)
  have F1 : ∀ j9 k9 : Nat, ¬ (j9 = 0 ∧ k9 = 35) → M1 j9 k9 = M j9 k9 := fun j9 k9 h9 => by rw [e1]; exact zup_n _ _ (by omega)
  refine sR_findPlan hB1 (fun z M3 h => ?_)
  obtain ⟨hB3, F3, bz, hP, -⟩ := h
  have b10 : 0 ≤ M1 0 10 ∧ M1 0 10 ≤ 4 := BN.at hB1.1 (rfl : zcd wR 0 = 50) rfl
  have s10 : sI (M1 0 10) = M1 0 10 := sIo (by omega) (by omega)
  refine wL1_of (fun x N => BI N ∧ (∀ j9 k9 : Nat, ¬ (j9 = 4 ∧ (k9 : Int) < x ∨ j9 = 6) → N j9 k9 = M3 j9 k9) ∧ (0 ≤ x ∧ x ≤ 4)) (fun x _ => (1000 - x).toNat) ⟨hB3, fun _ _ _ => rfl, by omega⟩ (fun K x N hI hK => ?_)
  obtain ⟨hBN, FN, ix⟩ := hI
  have sx : sI x = x := sIo (by omega) (by omega)
  have n10 : N 0 10 = M1 0 10 := (FN 0 10 (by omega)).trans (F3 0 10 (by omega))
  have G : ∀ j9 k9 : Nat, ¬ (j9 = 0 ∧ k9 = 35 ∨ j9 = 0 ∧ k9 = 34 ∨ j9 = 4 ∨ j9 = 6 ∨ j9 = 22 ∨ j9 = 28 ∨ j9 = 29) → N j9 k9 = M j9 k9 := fun j9 k9 h9 => (FN j9 k9 (by omega)).trans ((F3 j9 k9 (by omega)).trans (F1 j9 k9 (by omega)))
  rw [sx, n10, s10]
  refine ⟨fun c => hQ _ _ ⟨hBN, G, bz, trivial⟩, fun c => ⟨fun c2 => hQ _ _ ⟨hBN, G, bz, trivial⟩, fun c2 => ?_⟩⟩
  have s2 : sI (2 * x) = 2 * x := sIo (by omega) (by omega)
  have s3 : sI (2 * x + 1) = 2 * x + 1 := sIo (by omega) (by omega)
  obtain ⟨i, ei⟩ : ∃ i : Nat, i = x.toNat := ⟨_, rfl⟩
  have pv : PVR M1 M3 := by
    rcases hP with h | h
    · exact absurd h.1 c2
    · exact h.2.2
  have p := pv i (by omega) (by omega)
  have n4 : N 4 i = M1 4 i := (FN 4 i (by omega)).trans (F3 4 i (by omega))
  have n22 : N 22 = M3 22 := rowF FN 22 (by omega)
  have bl : 0 ≤ M1 4 i ∧ M1 4 i ≤ 24 := BN.at hB1.1 (rfl : zcd wR 4 = 54) rfl
  have e2 : (2 * x).toNat = 2 * i := by omega
  have e3 : (2 * x + 1).toNat = 2 * i + 1 := by omega
  rw [s2, s3, ← ei, e2, e3, n4, n22]
  refine ⟨by omega, by omega, by omega, ?_⟩
  intro M20 e20
  have hB20 : BI M20 := by rw [e20]; exact BI.up4 hBN (by omega) (by omega)
  have r20 : M20 22 = M3 22 := by rw [e20, zup_row _ _ (by omega)]; exact n22
  rw [r20]
  refine ⟨by omega, by omega, ?_⟩
  intro M24 e24
  exact hK _ _ ⟨by rw [e24]; exact BI.up hB20 (rfl : zcd wR 6 = 56) rfl (by omega) (by omega) (by decide), fun j9 k9 h9 => by rw [e24, e20]; exact (zup_n _ _ (by omega)).trans ((zup_n _ _ (by omega)).trans (FN j9 k9 (by omega))), by omega⟩ (by omega)
set_option maxHeartbeats 4000000 in
set_option maxRecDepth 100000 in
theorem sR_cut {M : zM} {a0 : Int} {a1 : Int} (hB : BI M) (v0 : (-2147483648) ≤ a0 ∧ a0 ≤ 2147483647) (v1 : (-2147483648) ≤ a1 ∧ a1 ≤ 2147483647) {Q : Int → zM → Prop} (hQ : ∀ (z : Int) (M1 : zM), BI M1 ∧ (∀ j9 k9 : Nat, ¬ (j9 = 0 ∧ k9 = 35 ∨ j9 = 4 ∨ j9 = 6) → M1 j9 k9 = M j9 k9) ∧ ((-2147483648) ≤ z ∧ z ≤ 2147483647) ∧ True → Q z M1) : wR_cut a0 a1 M Q := by
  unfold wR_cut
  have hF0 : ∀ j9 k9 : Nat, ¬ (j9 = 0 ∧ k9 = 35 ∨ j9 = 4 ∨ j9 = 6) → M j9 k9 = M j9 k9 := fun j9 k9 _ => rfl
  intro M1 e2
  have hB3 : BI M1 := by rw [e2]; exact BI.up0 hB rfl (by omega) (by omega) (by decide)
  have hF4 : ∀ j9 k9 : Nat, ¬ (j9 = 0 ∧ k9 = 35 ∨ j9 = 4 ∨ j9 = 6) → M1 j9 k9 = M j9 k9 := fun j9 k9 h9 => by rw [e2]; exact (zup_n _ _ (by omega)).trans (hF0 j9 k9 h9)
  have r5 : M1 4 (sI a0).toNat = M 4 (sI a0).toNat := by rw [e2]; exact zup_n _ _ (by omega)
  refine sR_isRing hB3 (by omega) (fun z6  h7 => ?_)
  obtain ⟨p8, p9, -⟩ := h7
  refine ⟨fun c10 => ?_, fun c10 => ?_⟩
  · skip
    exact hQ _ _ ⟨hB3, hF4, (by omega), trivial⟩
  · skip
    have s11 : sI a0 = a0 := sIo (by omega) (by omega)
    have o12 : 0 ≤ (sI a0) ∧ (sI a0) < 4 := by omega
    refine ⟨o12, ?_⟩
    have q13 : 0 ≤ (M1 4 (sI a0).toNat) ∧ (M1 4 (sI a0).toNat) ≤ 24 := BN.at hB3.1 (rfl : zcd wR 4 = 54) rfl
    have q14 : (((sI a0).toNat : Nat) : Int) < M1 0 10 → 1 ≤ (M1 4 (sI a0).toNat) := hB3.2 _ (by omega)
    have q15 : 0 ≤ M1 0 10 ∧ M1 0 10 ≤ 4 := BN.at hB3.1 (rfl : zcd wR 0 = 50) rfl
    refine sR_in hB3 (by omega) (by omega) (by omega) (fun z16  h17 => ?_)
    obtain ⟨p18, p19, -⟩ := h17
    refine ⟨fun c20 => ?_, fun c20 => ?_⟩
    · skip
      have o21 : 0 ≤ (sI a0) ∧ (sI a0) < 4 := by omega
      refine ⟨o21, ?_⟩
      have o25 : 0 ≤ (sI a0) ∧ (sI a0) < 4 := by omega
      refine ⟨o25, ?_⟩
      intro M26 e27
      have hB28 : BI M26 := by rw [e27]; exact BI.up4 hB3 (by omega) (by omega)
      have hF29 : ∀ j9 k9 : Nat, ¬ (j9 = 0 ∧ k9 = 35 ∨ j9 = 4 ∨ j9 = 6) → M26 j9 k9 = M j9 k9 := fun j9 k9 h9 => by rw [e27]; exact (zup_n _ _ (by omega)).trans (hF4 j9 k9 h9)
      have r30 : M26 4 (sI a0).toNat = ((M1 4 (sI a0).toNat) - a1) := by rw [e27]; exact zup_s _ _ _ _
      have o31 : 0 ≤ (sI a0) ∧ (sI a0) < 4 := by omega
      refine ⟨o31, ?_⟩
      have q32 : 0 ≤ (M26 6 (sI a0).toNat) ∧ (M26 6 (sI a0).toNat) ≤ 23 := BN.at hB28.1 (rfl : zcd wR 6 = 56) rfl
      have o33 : 0 ≤ (sI a0) ∧ (sI a0) < 4 := by omega
      refine ⟨o33, ?_⟩
      have q34 : 0 ≤ (M26 4 (sI a0).toNat) ∧ (M26 4 (sI a0).toNat) ≤ 24 := BN.at hB28.1 (rfl : zcd wR 4 = 54) rfl
      have q35 : (((sI a0).toNat : Nat) : Int) < M26 0 10 → 1 ≤ (M26 4 (sI a0).toNat) := hB28.2 _ (by omega)
      have q36 : 0 ≤ M26 0 10 ∧ M26 0 10 ≤ 4 := BN.at hB28.1 (rfl : zcd wR 0 = 50) rfl
      have s37 : sI (M26 6 (sI a0).toNat) = (M26 6 (sI a0).toNat) := sIo (by omega) (by omega)
      have s38 : sI (M26 4 (sI a0).toNat) = (M26 4 (sI a0).toNat) := sIo (by omega) (by omega)
      have o39 : (sI (M26 4 (sI a0).toNat)) ≠ 0 := by omega
      refine ⟨o39, ?_⟩
      have q40 := tmodN (sI (M26 6 (sI a0).toNat)) (sI (M26 4 (sI a0).toNat)) (by omega) (by omega)
      have o41 : 0 ≤ (sI a0) ∧ (sI a0) < 4 := by omega
      refine ⟨o41, ?_⟩
      intro M42 e43
      have hB44 : BI M42 := by rw [e43]; exact BI.up hB28 (rfl : zcd wR 6 = 56) rfl (by omega) (by omega) (by decide)
      have hF45 : ∀ j9 k9 : Nat, ¬ (j9 = 0 ∧ k9 = 35 ∨ j9 = 4 ∨ j9 = 6) → M42 j9 k9 = M j9 k9 := fun j9 k9 h9 => by rw [e43]; exact (zup_n _ _ (by omega)).trans (hF29 j9 k9 h9)
      have r46 : M42 4 (sI a0).toNat = M26 4 (sI a0).toNat := by rw [e43]; exact zup_n _ _ (by omega)
      have o47 : 0 ≤ (sI a0) ∧ (sI a0) < 4 := by omega
      refine ⟨o47, ?_⟩
      have q48 : 0 ≤ (M42 4 (sI a0).toNat) ∧ (M42 4 (sI a0).toNat) ≤ 24 := BN.at hB44.1 (rfl : zcd wR 4 = 54) rfl
      have q49 : (((sI a0).toNat : Nat) : Int) < M42 0 10 → 1 ≤ (M42 4 (sI a0).toNat) := hB44.2 _ (by omega)
      have q50 : 0 ≤ M42 0 10 ∧ M42 0 10 ≤ 4 := BN.at hB44.1 (rfl : zcd wR 0 = 50) rfl
      have s51 : sI (M42 4 (sI a0).toNat) = (M42 4 (sI a0).toNat) := sIo (by omega) (by omega)
      exact hQ _ _ ⟨hB44, hF45, (by omega), trivial⟩
    · skip
      exact hQ _ _ ⟨hB3, hF4, (by omega), trivial⟩
set_option maxHeartbeats 4000000 in
set_option maxRecDepth 100000 in
theorem sR_weight {M : zM} {a0 : Int} {a1 : Int} (hB : BI M) (v0 : (-2147483648) ≤ a0 ∧ a0 ≤ 2147483647) (v1 : (-2147483648) ≤ a1 ∧ a1 ≤ 2147483647) {Q : Int → zM → Prop} (hQ : ∀ (z : Int) (M1 : zM), BI M1 ∧ (∀ j9 k9 : Nat, ¬ (j9 = 0 ∧ k9 = 35 ∨ j9 = 14) → M1 j9 k9 = M j9 k9) ∧ ((-2147483648) ≤ z ∧ z ≤ 2147483647) ∧ True → Q z M1) : wR_weight a0 a1 M Q := by
  unfold wR_weight
  have hF0 : ∀ j9 k9 : Nat, ¬ (j9 = 0 ∧ k9 = 35 ∨ j9 = 14) → M j9 k9 = M j9 k9 := fun j9 k9 _ => rfl
  intro M1 e2
  have hB3 : BI M1 := by rw [e2]; exact BI.up0 hB rfl (by omega) (by omega) (by decide)
  have hF4 : ∀ j9 k9 : Nat, ¬ (j9 = 0 ∧ k9 = 35 ∨ j9 = 14) → M1 j9 k9 = M j9 k9 := fun j9 k9 h9 => by rw [e2]; exact (zup_n _ _ (by omega)).trans (hF0 j9 k9 h9)
  refine sR_in hB3 (by omega) (by omega) (by omega) (fun z5  h6 => ?_)
  obtain ⟨p7, p8, -⟩ := h6
  refine ⟨fun c9 => ?_, fun c9 => ?_⟩
  · skip
    exact hQ _ _ ⟨hB3, hF4, (by omega), trivial⟩
  · skip
    refine sR_in hB3 (by omega) (by omega) (by omega) (fun z10  h11 => ?_)
    obtain ⟨p12, p13, -⟩ := h11
    refine ⟨fun c14 => ?_, fun c14 => ?_⟩
    · skip
      have s15 : sI a0 = a0 := sIo (by omega) (by omega)
      have o16 : 0 ≤ (sI a0) ∧ (sI a0) < 10 := by omega
      refine ⟨o16, ?_⟩
      have q17 : (-2147483648) ≤ (M1 14 (sI a0).toNat) ∧ (M1 14 (sI a0).toNat) ≤ 2147483647 := BN.at hB3.1 (rfl : zcd wR 14 = 64) rfl
      have o18 : 0 ≤ (sI a0) ∧ (sI a0) < 10 := by omega
      refine ⟨o18, ?_⟩
      intro M19 e20
      have hB21 : BI M19 := by rw [e20]; exact BI.up hB3 (rfl : zcd wR 14 = 64) rfl (by omega) (by omega) (by decide)
      have hF22 : ∀ j9 k9 : Nat, ¬ (j9 = 0 ∧ k9 = 35 ∨ j9 = 14) → M19 j9 k9 = M j9 k9 := fun j9 k9 h9 => by rw [e20]; exact (zup_n _ _ (by omega)).trans (hF4 j9 k9 h9)
      have s23 : sI (M1 14 (sI a0).toNat) = (M1 14 (sI a0).toNat) := sIo (by omega) (by omega)
      exact hQ _ _ ⟨hB21, hF22, (by omega), trivial⟩
    · skip
      exact hQ _ _ ⟨hB3, hF4, (by omega), trivial⟩
set_option maxHeartbeats 4000000 in
set_option maxRecDepth 100000 in
theorem sR_heads {M : zM} {a0 : Int} {a1 : Int} {a2 : Int} {a3 : Int} (hB : BI M) (v0 : (-2147483648) ≤ a0 ∧ a0 ≤ 2147483647) (v1 : (-2147483648) ≤ a1 ∧ a1 ≤ 2147483647) (v2 : (-2147483648) ≤ a2 ∧ a2 ≤ 2147483647) (v3 : (-2147483648) ≤ a3 ∧ a3 ≤ 2147483647) {Q : Int → zM → Prop} (hQ : ∀ (z : Int) (M1 : zM), BI M1 ∧ (∀ j9 k9 : Nat, ¬ (j9 = 0 ∧ k9 = 35 ∨ j9 = 0 ∧ k9 = 18 ∨ j9 = 0 ∧ k9 = 19 ∨ j9 = 0 ∧ k9 = 20 ∨ j9 = 0 ∧ k9 = 21) → M1 j9 k9 = M j9 k9) ∧ (0 ≤ z ∧ z ≤ 1) ∧ ((z = 1 ∧ (1 ≤ a0 ∧ a0 ≤ 20) ∧ (0 ≤ a1 ∧ a1 ≤ 100) ∧ (1 ≤ a2 ∧ a2 ≤ 20) ∧ (0 ≤ a3 ∧ a3 ≤ 100)) ∨ (z = 0 ∧ ¬ ((1 ≤ a0 ∧ a0 ≤ 20) ∧ (0 ≤ a1 ∧ a1 ≤ 100) ∧ (1 ≤ a2 ∧ a2 ≤ 20) ∧ (0 ≤ a3 ∧ a3 ≤ 100)))) ∧ True → Q z M1) : wR_heads a0 a1 a2 a3 M Q := by
  unfold wR_heads
  have hF0 : ∀ j9 k9 : Nat, ¬ (j9 = 0 ∧ k9 = 35 ∨ j9 = 0 ∧ k9 = 18 ∨ j9 = 0 ∧ k9 = 19 ∨ j9 = 0 ∧ k9 = 20 ∨ j9 = 0 ∧ k9 = 21) → M j9 k9 = M j9 k9 := fun j9 k9 _ => rfl
  intro M1 e2
  have hB3 : BI M1 := by rw [e2]; exact BI.up0 hB rfl (by omega) (by omega) (by decide)
  have hF4 : ∀ j9 k9 : Nat, ¬ (j9 = 0 ∧ k9 = 35 ∨ j9 = 0 ∧ k9 = 18 ∨ j9 = 0 ∧ k9 = 19 ∨ j9 = 0 ∧ k9 = 20 ∨ j9 = 0 ∧ k9 = 21) → M1 j9 k9 = M j9 k9 := fun j9 k9 h9 => by rw [e2]; exact (zup_n _ _ (by omega)).trans (hF0 j9 k9 h9)
  refine sR_in hB3 (by omega) (by omega) (by omega) (fun z5  h6 => ?_)
  obtain ⟨p7, p8, -⟩ := h6
  refine ⟨fun c9 => ?_, fun c9 => ?_⟩
  · skip
    exact hQ _ _ ⟨hB3, hF4, (by omega), (by omega), trivial⟩
  · skip
    refine sR_in hB3 (by omega) (by omega) (by omega) (fun z10  h11 => ?_)
    obtain ⟨p12, p13, -⟩ := h11
    refine ⟨fun c14 => ?_, fun c14 => ?_⟩
    · skip
      exact hQ _ _ ⟨hB3, hF4, (by omega), (by omega), trivial⟩
    · skip
      refine sR_in hB3 (by omega) (by omega) (by omega) (fun z15  h16 => ?_)
      obtain ⟨p17, p18, -⟩ := h16
      refine ⟨fun c19 => ?_, fun c19 => ?_⟩
      · skip
        exact hQ _ _ ⟨hB3, hF4, (by omega), (by omega), trivial⟩
      · skip
        refine sR_in hB3 (by omega) (by omega) (by omega) (fun z20  h21 => ?_)
        obtain ⟨p22, p23, -⟩ := h21
        refine ⟨fun c24 => ?_, fun c24 => ?_⟩
        · skip
          intro M25 e26
          have hB27 : BI M25 := by rw [e26]; exact BI.up0 hB3 rfl (by omega) (by omega) (by decide)
          have hF28 : ∀ j9 k9 : Nat, ¬ (j9 = 0 ∧ k9 = 35 ∨ j9 = 0 ∧ k9 = 18 ∨ j9 = 0 ∧ k9 = 19 ∨ j9 = 0 ∧ k9 = 20 ∨ j9 = 0 ∧ k9 = 21) → M25 j9 k9 = M j9 k9 := fun j9 k9 h9 => by rw [e26]; exact (zup_n _ _ (by omega)).trans (hF4 j9 k9 h9)
          intro M29 e30
          have hB31 : BI M29 := by rw [e30]; exact BI.up0 hB27 rfl (by omega) (by omega) (by decide)
          have hF32 : ∀ j9 k9 : Nat, ¬ (j9 = 0 ∧ k9 = 35 ∨ j9 = 0 ∧ k9 = 18 ∨ j9 = 0 ∧ k9 = 19 ∨ j9 = 0 ∧ k9 = 20 ∨ j9 = 0 ∧ k9 = 21) → M29 j9 k9 = M j9 k9 := fun j9 k9 h9 => by rw [e30]; exact (zup_n _ _ (by omega)).trans (hF28 j9 k9 h9)
          intro M33 e34
          have hB35 : BI M33 := by rw [e34]; exact BI.up0 hB31 rfl (by omega) (by omega) (by decide)
          have hF36 : ∀ j9 k9 : Nat, ¬ (j9 = 0 ∧ k9 = 35 ∨ j9 = 0 ∧ k9 = 18 ∨ j9 = 0 ∧ k9 = 19 ∨ j9 = 0 ∧ k9 = 20 ∨ j9 = 0 ∧ k9 = 21) → M33 j9 k9 = M j9 k9 := fun j9 k9 h9 => by rw [e34]; exact (zup_n _ _ (by omega)).trans (hF32 j9 k9 h9)
          intro M37 e38
          have hB39 : BI M37 := by rw [e38]; exact BI.up0 hB35 rfl (by omega) (by omega) (by decide)
          have hF40 : ∀ j9 k9 : Nat, ¬ (j9 = 0 ∧ k9 = 35 ∨ j9 = 0 ∧ k9 = 18 ∨ j9 = 0 ∧ k9 = 19 ∨ j9 = 0 ∧ k9 = 20 ∨ j9 = 0 ∧ k9 = 21) → M37 j9 k9 = M j9 k9 := fun j9 k9 h9 => by rw [e38]; exact (zup_n _ _ (by omega)).trans (hF36 j9 k9 h9)
          exact hQ _ _ ⟨hB39, hF40, (by omega), (by omega), trivial⟩
        · skip
          exact hQ _ _ ⟨hB3, hF4, (by omega), (by omega), trivial⟩
set_option maxHeartbeats 4000000 in
set_option maxRecDepth 100000 in
theorem sR_stop {M : zM} {a0 : Int} (hB : BI M) (v0 : (-2147483648) ≤ a0 ∧ a0 ≤ 2147483647) {Q : Int → zM → Prop} (hQ : ∀ (z : Int) (M1 : zM), BI M1 ∧ (∀ j9 k9 : Nat, ¬ (j9 = 0 ∧ k9 = 35 ∨ j9 = 0 ∧ k9 = 22) → M1 j9 k9 = M j9 k9) ∧ ((-2147483648) ≤ z ∧ z ≤ 2147483647) ∧ ((0 ≤ a0 ∧ a0 ≤ 2000 ∧ z = M 0 22 ∧ M1 0 22 = a0) ∨ (¬ (0 ≤ a0 ∧ a0 ≤ 2000) ∧ z = -1 ∧ M1 0 22 = M 0 22)) ∧ True → Q z M1) : wR_stop a0 M Q := by
  unfold wR_stop
  have hF0 : ∀ j9 k9 : Nat, ¬ (j9 = 0 ∧ k9 = 35 ∨ j9 = 0 ∧ k9 = 22) → M j9 k9 = M j9 k9 := fun j9 k9 _ => rfl
  intro M1 e2
  have hB3 : BI M1 := by rw [e2]; exact BI.up0 hB rfl (by omega) (by omega) (by decide)
  have hF4 : ∀ j9 k9 : Nat, ¬ (j9 = 0 ∧ k9 = 35 ∨ j9 = 0 ∧ k9 = 22) → M1 j9 k9 = M j9 k9 := fun j9 k9 h9 => by rw [e2]; exact (zup_n _ _ (by omega)).trans (hF0 j9 k9 h9)
  have r5 : M1 0 22 = M 0 22 := by rw [e2]; exact zup_n _ _ (by omega)
  refine sR_in hB3 (by omega) (by omega) (by omega) (fun z6  h7 => ?_)
  obtain ⟨p8, p9, -⟩ := h7
  refine ⟨fun c10 => ?_, fun c10 => ?_⟩
  · skip
    have q11 : 0 ≤ (M1 0 22) ∧ (M1 0 22) ≤ 2000 := BN.at hB3.1 (rfl : zcd wR 0 = 50) rfl
    intro M12 e13
    have hB14 : BI M12 := by rw [e13]; exact BI.up0 hB3 rfl (by omega) (by omega) (by decide)
    have hF15 : ∀ j9 k9 : Nat, ¬ (j9 = 0 ∧ k9 = 35 ∨ j9 = 0 ∧ k9 = 22) → M12 j9 k9 = M j9 k9 := fun j9 k9 h9 => by rw [e13]; exact (zup_n _ _ (by omega)).trans (hF4 j9 k9 h9)
    have r16 : M12 0 22 = a0 := by rw [e13]; exact zup_s _ _ _ _
    have s17 : sI (M1 0 22) = (M1 0 22) := sIo (by omega) (by omega)
    exact hQ _ _ ⟨hB14, hF15, (by omega), (by omega), trivial⟩
  · skip
    exact hQ _ _ ⟨hB3, hF4, (by omega), (by omega), trivial⟩
set_option maxHeartbeats 4000000 in
set_option maxRecDepth 100000 in
theorem sR_findOuts {M : zM} {a0 : Int} (hB : BI M) (v0 : 0 ≤ a0 ∧ a0 ≤ 4000) {Q : zM → Prop} (hQ : ∀ (M1 : zM), BI M1 ∧ (∀ j9 k9 : Nat, ¬ (j9 = 30) → M1 j9 k9 = M j9 k9) ∧ True → Q M1) : wR_findOuts a0 M Q := by
  unfold wR_findOuts
  have hF0 : ∀ j9 k9 : Nat, ¬ (j9 = 30) → M j9 k9 = M j9 k9 := fun j9 k9 _ => rfl
  refine wL1_of (fun x1 M2 => BI M2 ∧ (∀ j9 k9 : Nat, ¬ (j9 = 30) → M2 j9 k9 = M j9 k9) ∧ (0 ≤ x1 ∧ x1 ≤ 1000000) ∧ True) (fun x1 M2 => (1000000 - x1).toNat) ⟨hB, hF0, (by omega), trivial⟩ (fun K x1 M2 h6 k7 => ?_)
  obtain ⟨hB3, hF4, i5, -⟩ := h6
  have s8 : sI x1 = x1 := sIo (by omega) (by omega)
  have s9 : sI a0 = a0 := sIo (by omega) (by omega)
  refine ⟨fun c10 => ?_, fun c10 => ?_⟩
  · skip
    exact hQ _ ⟨hB3, hF4, trivial⟩
  · skip
    have q11 : 0 ≤ (M2 0 22) ∧ (M2 0 22) ≤ 2000 := BN.at hB3.1 (rfl : zcd wR 0 = 50) rfl
    have s12 : sI (M2 0 22) = (M2 0 22) := sIo (by omega) (by omega)
    refine pJ1_dup ?_
    refine ⟨fun c13 => ?_, fun c13 => ?_⟩
    · skip
      have s14 : sI 0 = 0 := sIo (by omega) (by omega)
      have q15 : 0 ≤ (M2 0 18) ∧ (M2 0 18) ≤ 20 := BN.at hB3.1 (rfl : zcd wR 0 = 50) rfl
      have s16 : sI (M2 0 18) = (M2 0 18) := sIo (by omega) (by omega)
      refine pJ1_dup ?_
      refine ⟨fun c17 => ?_, fun c17 => ?_⟩
      · skip
        have q18 : 0 ≤ (M2 0 20) ∧ (M2 0 20) ≤ 20 := BN.at hB3.1 (rfl : zcd wR 0 = 50) rfl
        have s19 : sI (M2 0 20) = (M2 0 20) := sIo (by omega) (by omega)
        refine pJ1_dup ?_
        refine ⟨fun c20 => ?_, fun c20 => ?_⟩
        · skip
          have o21 : 0 ≤ (sI x1) ∧ (sI x1) < 4001 := by omega
          refine ⟨o21, ?_⟩
          intro M22 e23
          have hB24 : BI M22 := by rw [e23]; exact BI.up hB3 (rfl : zcd wR 30 = 80) rfl (by omega) (by omega) (by decide)
          have hF25 : ∀ j9 k9 : Nat, ¬ (j9 = 30) → M22 j9 k9 = M j9 k9 := fun j9 k9 h9 => by rw [e23]; exact (zup_n _ _ (by omega)).trans (hF4 j9 k9 h9)
          exact k7 _ _ ⟨hB24, hF25, (by omega), trivial⟩ (by omega)
        · skip
          have q26 : (-2147483648) ≤ (M2 0 21) ∧ (M2 0 21) ≤ 2147483647 := BN.at hB3.1 (rfl : zcd wR 0 = 50) rfl
          have s28 : sI (x1 - (M2 0 20)) = (x1 - (M2 0 20)) := sIo (by omega) (by omega)
          have o29 : 0 ≤ (sI (x1 - (M2 0 20))) ∧ (sI (x1 - (M2 0 20))) < 4001 := by omega
          refine ⟨o29, ?_⟩
          have q30 : (-2147483648) ≤ (M2 30 (sI (x1 - (M2 0 20))).toNat) ∧ (M2 30 (sI (x1 - (M2 0 20))).toNat) ≤ 2147483647 := BN.at hB3.1 (rfl : zcd wR 30 = 80) rfl
          have s31 := sI_R ((M2 0 21) * (M2 30 (sI (x1 - (M2 0 20))).toNat))
          have s32 := sI_or ((M2 0 21) * (M2 30 (sI (x1 - (M2 0 20))).toNat))
          intro t33 e34
          have s35 := sI_R t33
          have s36 := sI_or t33
          have o37 : 0 ≤ (sI x1) ∧ (sI x1) < 4001 := by omega
          refine ⟨o37, ?_⟩
          intro M38 e39
          have hB40 : BI M38 := by rw [e39]; exact BI.up hB3 (rfl : zcd wR 30 = 80) rfl (by omega) (by omega) (by decide)
          have hF41 : ∀ j9 k9 : Nat, ¬ (j9 = 30) → M38 j9 k9 = M j9 k9 := fun j9 k9 h9 => by rw [e39]; exact (zup_n _ _ (by omega)).trans (hF4 j9 k9 h9)
          exact k7 _ _ ⟨hB40, hF41, (by omega), trivial⟩ (by omega)
      · skip
        have q42 : (-2147483648) ≤ (M2 0 19) ∧ (M2 0 19) ≤ 2147483647 := BN.at hB3.1 (rfl : zcd wR 0 = 50) rfl
        have s44 : sI (x1 - (M2 0 18)) = (x1 - (M2 0 18)) := sIo (by omega) (by omega)
        have o45 : 0 ≤ (sI (x1 - (M2 0 18))) ∧ (sI (x1 - (M2 0 18))) < 4001 := by omega
        refine ⟨o45, ?_⟩
        have q46 : (-2147483648) ≤ (M2 30 (sI (x1 - (M2 0 18))).toNat) ∧ (M2 30 (sI (x1 - (M2 0 18))).toNat) ≤ 2147483647 := BN.at hB3.1 (rfl : zcd wR 30 = 80) rfl
        have s47 := sI_R ((M2 0 19) * (M2 30 (sI (x1 - (M2 0 18))).toNat))
        have s48 := sI_or ((M2 0 19) * (M2 30 (sI (x1 - (M2 0 18))).toNat))
        intro t49 e50
        have q51 : 0 ≤ (M2 0 20) ∧ (M2 0 20) ≤ 20 := BN.at hB3.1 (rfl : zcd wR 0 = 50) rfl
        have s52 : sI (M2 0 20) = (M2 0 20) := sIo (by omega) (by omega)
        refine pJ1_dup ?_
        refine ⟨fun c53 => ?_, fun c53 => ?_⟩
        · skip
          have s54 := sI_R t49
          have s55 := sI_or t49
          have o56 : 0 ≤ (sI x1) ∧ (sI x1) < 4001 := by omega
          refine ⟨o56, ?_⟩
          intro M57 e58
          have hB59 : BI M57 := by rw [e58]; exact BI.up hB3 (rfl : zcd wR 30 = 80) rfl (by omega) (by omega) (by decide)
          have hF60 : ∀ j9 k9 : Nat, ¬ (j9 = 30) → M57 j9 k9 = M j9 k9 := fun j9 k9 h9 => by rw [e58]; exact (zup_n _ _ (by omega)).trans (hF4 j9 k9 h9)
          exact k7 _ _ ⟨hB59, hF60, (by omega), trivial⟩ (by omega)
        · skip
          have q61 : (-2147483648) ≤ (M2 0 21) ∧ (M2 0 21) ≤ 2147483647 := BN.at hB3.1 (rfl : zcd wR 0 = 50) rfl
          have s63 : sI (x1 - (M2 0 20)) = (x1 - (M2 0 20)) := sIo (by omega) (by omega)
          have o64 : 0 ≤ (sI (x1 - (M2 0 20))) ∧ (sI (x1 - (M2 0 20))) < 4001 := by omega
          refine ⟨o64, ?_⟩
          have q65 : (-2147483648) ≤ (M2 30 (sI (x1 - (M2 0 20))).toNat) ∧ (M2 30 (sI (x1 - (M2 0 20))).toNat) ≤ 2147483647 := BN.at hB3.1 (rfl : zcd wR 30 = 80) rfl
          have s66 := sI_R ((M2 0 21) * (M2 30 (sI (x1 - (M2 0 20))).toNat))
          have s67 := sI_or ((M2 0 21) * (M2 30 (sI (x1 - (M2 0 20))).toNat))
          intro t68 e69
          have s70 := sI_R t68
          have s71 := sI_or t68
          have o72 : 0 ≤ (sI x1) ∧ (sI x1) < 4001 := by omega
          refine ⟨o72, ?_⟩
          intro M73 e74
          have hB75 : BI M73 := by rw [e74]; exact BI.up hB3 (rfl : zcd wR 30 = 80) rfl (by omega) (by omega) (by decide)
          have hF76 : ∀ j9 k9 : Nat, ¬ (j9 = 30) → M73 j9 k9 = M j9 k9 := fun j9 k9 h9 => by rw [e74]; exact (zup_n _ _ (by omega)).trans (hF4 j9 k9 h9)
          exact k7 _ _ ⟨hB75, hF76, (by omega), trivial⟩ (by omega)
    · skip
      refine sR_heardInAll hB3  (fun z77  h78 => ?_)
      obtain ⟨p79, -⟩ := h78
      refine pL2_of (fun x80 x81 => (1 ≤ x81 ∧ x81 ≤ 1000000) ∧ True) (fun x80 x81 => (1000000 - x81).toNat) ⟨(by omega), trivial⟩ (fun K x80 x81 h83 k84 => ?_)
      obtain ⟨i82, -⟩ := h83
      have s85 : sI x81 = x81 := sIo (by omega) (by omega)
      refine ⟨fun c86 => ?_, fun c86 => ?_⟩
      · skip
        have q87 : 0 ≤ (M2 0 18) ∧ (M2 0 18) ≤ 20 := BN.at hB3.1 (rfl : zcd wR 0 = 50) rfl
        have s88 : sI x1 = x1 := sIo (by omega) (by omega)
        have s89 : sI (M2 0 18) = (M2 0 18) := sIo (by omega) (by omega)
        refine pJ1_dup ?_
        refine ⟨fun c90 => ?_, fun c90 => ?_⟩
        · skip
          have q91 : 0 ≤ (M2 0 20) ∧ (M2 0 20) ≤ 20 := BN.at hB3.1 (rfl : zcd wR 0 = 50) rfl
          have s92 : sI (M2 0 20) = (M2 0 20) := sIo (by omega) (by omega)
          refine pJ1_dup ?_
          refine ⟨fun c93 => ?_, fun c93 => ?_⟩
          · skip
            have s94 := sI_R x80
            have s95 := sI_or x80
            have o96 : 0 ≤ (sI x1) ∧ (sI x1) < 4001 := by omega
            refine ⟨o96, ?_⟩
            intro M97 e98
            have hB99 : BI M97 := by rw [e98]; exact BI.up hB3 (rfl : zcd wR 30 = 80) rfl (by omega) (by omega) (by decide)
            have hF100 : ∀ j9 k9 : Nat, ¬ (j9 = 30) → M97 j9 k9 = M j9 k9 := fun j9 k9 h9 => by rw [e98]; exact (zup_n _ _ (by omega)).trans (hF4 j9 k9 h9)
            exact k7 _ _ ⟨hB99, hF100, (by omega), trivial⟩ (by omega)
          · skip
            have q101 : (-2147483648) ≤ (M2 0 21) ∧ (M2 0 21) ≤ 2147483647 := BN.at hB3.1 (rfl : zcd wR 0 = 50) rfl
            have s103 : sI (x1 - (M2 0 20)) = (x1 - (M2 0 20)) := sIo (by omega) (by omega)
            have o104 : 0 ≤ (sI (x1 - (M2 0 20))) ∧ (sI (x1 - (M2 0 20))) < 4001 := by omega
            refine ⟨o104, ?_⟩
            have q105 : (-2147483648) ≤ (M2 30 (sI (x1 - (M2 0 20))).toNat) ∧ (M2 30 (sI (x1 - (M2 0 20))).toNat) ≤ 2147483647 := BN.at hB3.1 (rfl : zcd wR 30 = 80) rfl
            have s106 := sI_R ((M2 0 21) * (M2 30 (sI (x1 - (M2 0 20))).toNat))
            have s107 := sI_or ((M2 0 21) * (M2 30 (sI (x1 - (M2 0 20))).toNat))
            intro t108 e109
            have s110 := sI_R t108
            have s111 := sI_or t108
            have o112 : 0 ≤ (sI x1) ∧ (sI x1) < 4001 := by omega
            refine ⟨o112, ?_⟩
            intro M113 e114
            have hB115 : BI M113 := by rw [e114]; exact BI.up hB3 (rfl : zcd wR 30 = 80) rfl (by omega) (by omega) (by decide)
            have hF116 : ∀ j9 k9 : Nat, ¬ (j9 = 30) → M113 j9 k9 = M j9 k9 := fun j9 k9 h9 => by rw [e114]; exact (zup_n _ _ (by omega)).trans (hF4 j9 k9 h9)
            exact k7 _ _ ⟨hB115, hF116, (by omega), trivial⟩ (by omega)
        · skip
          have q117 : (-2147483648) ≤ (M2 0 19) ∧ (M2 0 19) ≤ 2147483647 := BN.at hB3.1 (rfl : zcd wR 0 = 50) rfl
          have s119 : sI (x1 - (M2 0 18)) = (x1 - (M2 0 18)) := sIo (by omega) (by omega)
          have o120 : 0 ≤ (sI (x1 - (M2 0 18))) ∧ (sI (x1 - (M2 0 18))) < 4001 := by omega
          refine ⟨o120, ?_⟩
          have q121 : (-2147483648) ≤ (M2 30 (sI (x1 - (M2 0 18))).toNat) ∧ (M2 30 (sI (x1 - (M2 0 18))).toNat) ≤ 2147483647 := BN.at hB3.1 (rfl : zcd wR 30 = 80) rfl
          have s122 := sI_R ((M2 0 19) * (M2 30 (sI (x1 - (M2 0 18))).toNat))
          have s123 := sI_or ((M2 0 19) * (M2 30 (sI (x1 - (M2 0 18))).toNat))
          intro t124 e125
          have q126 : 0 ≤ (M2 0 20) ∧ (M2 0 20) ≤ 20 := BN.at hB3.1 (rfl : zcd wR 0 = 50) rfl
          have s127 : sI (M2 0 20) = (M2 0 20) := sIo (by omega) (by omega)
          refine pJ1_dup ?_
          refine ⟨fun c128 => ?_, fun c128 => ?_⟩
          · skip
            have s129 := sI_R t124
            have s130 := sI_or t124
            have o131 : 0 ≤ (sI x1) ∧ (sI x1) < 4001 := by omega
            refine ⟨o131, ?_⟩
            intro M132 e133
            have hB134 : BI M132 := by rw [e133]; exact BI.up hB3 (rfl : zcd wR 30 = 80) rfl (by omega) (by omega) (by decide)
            have hF135 : ∀ j9 k9 : Nat, ¬ (j9 = 30) → M132 j9 k9 = M j9 k9 := fun j9 k9 h9 => by rw [e133]; exact (zup_n _ _ (by omega)).trans (hF4 j9 k9 h9)
            exact k7 _ _ ⟨hB134, hF135, (by omega), trivial⟩ (by omega)
          · skip
            have q136 : (-2147483648) ≤ (M2 0 21) ∧ (M2 0 21) ≤ 2147483647 := BN.at hB3.1 (rfl : zcd wR 0 = 50) rfl
            have s138 : sI (x1 - (M2 0 20)) = (x1 - (M2 0 20)) := sIo (by omega) (by omega)
            have o139 : 0 ≤ (sI (x1 - (M2 0 20))) ∧ (sI (x1 - (M2 0 20))) < 4001 := by omega
            refine ⟨o139, ?_⟩
            have q140 : (-2147483648) ≤ (M2 30 (sI (x1 - (M2 0 20))).toNat) ∧ (M2 30 (sI (x1 - (M2 0 20))).toNat) ≤ 2147483647 := BN.at hB3.1 (rfl : zcd wR 30 = 80) rfl
            have s141 := sI_R ((M2 0 21) * (M2 30 (sI (x1 - (M2 0 20))).toNat))
            have s142 := sI_or ((M2 0 21) * (M2 30 (sI (x1 - (M2 0 20))).toNat))
            intro t143 e144
            have s145 := sI_R t143
            have s146 := sI_or t143
            have o147 : 0 ≤ (sI x1) ∧ (sI x1) < 4001 := by omega
            refine ⟨o147, ?_⟩
            intro M148 e149
            have hB150 : BI M148 := by rw [e149]; exact BI.up hB3 (rfl : zcd wR 30 = 80) rfl (by omega) (by omega) (by decide)
            have hF151 : ∀ j9 k9 : Nat, ¬ (j9 = 30) → M148 j9 k9 = M j9 k9 := fun j9 k9 h9 => by rw [e149]; exact (zup_n _ _ (by omega)).trans (hF4 j9 k9 h9)
            exact k7 _ _ ⟨hB150, hF151, (by omega), trivial⟩ (by omega)
      · skip
        have q152 := shrI_R z77 x81
        have q153 := andI_br (shrI z77 x81) (c := 1) (by decide) (by decide)
        refine ⟨fun c154 => ?_, fun c154 => ?_⟩
        · skip
          exact k84 _ _ ⟨(by omega), trivial⟩ (by omega)
        · skip
          have o155 : 0 ≤ (sI x81) ∧ (sI x81) < 10 := by omega
          refine ⟨o155, ?_⟩
          have q156 : (-2147483648) ≤ (M2 14 (sI x81).toNat) ∧ (M2 14 (sI x81).toNat) ≤ 2147483647 := BN.at hB3.1 (rfl : zcd wR 14 = 64) rfl
          exact k84 _ _ ⟨(by omega), trivial⟩ (by omega)
set_option maxHeartbeats 4000000 in
set_option maxRecDepth 100000 in
theorem sR_out {M : zM} {a0 : Int} (hB : BI M) (v0 : (-2147483648) ≤ a0 ∧ a0 ≤ 2147483647) {Q : Int → zM → Prop} (hQ : ∀ (z : Int) (M1 : zM), BI M1 ∧ (∀ j9 k9 : Nat, ¬ (j9 = 0 ∧ k9 = 35 ∨ j9 = 30) → M1 j9 k9 = M j9 k9) ∧ ((-2147483648) ≤ z ∧ z ≤ 2147483647) ∧ True → Q z M1) : wR_out a0 M Q := by
  unfold wR_out
  have hF0 : ∀ j9 k9 : Nat, ¬ (j9 = 0 ∧ k9 = 35 ∨ j9 = 30) → M j9 k9 = M j9 k9 := fun j9 k9 _ => rfl
  intro M1 e2
  have hB3 : BI M1 := by rw [e2]; exact BI.up0 hB rfl (by omega) (by omega) (by decide)
  have hF4 : ∀ j9 k9 : Nat, ¬ (j9 = 0 ∧ k9 = 35 ∨ j9 = 30) → M1 j9 k9 = M j9 k9 := fun j9 k9 h9 => by rw [e2]; exact (zup_n _ _ (by omega)).trans (hF0 j9 k9 h9)
  refine sR_in hB3 (by omega) (by omega) (by omega) (fun z5  h6 => ?_)
  obtain ⟨p7, p8, -⟩ := h6
  refine ⟨fun c9 => ?_, fun c9 => ?_⟩
  · skip
    refine sR_findOuts hB3 (by omega) (fun  M10 h11 => ?_)
    obtain ⟨hB12, f13, -⟩ := h11
    have hF14 : ∀ j9 k9 : Nat, ¬ (j9 = 0 ∧ k9 = 35 ∨ j9 = 30) → M10 j9 k9 = M j9 k9 := fun j9 k9 h9 => ((f13 j9 k9 (by omega)).trans (hF4 j9 k9 h9))
    have s15 : sI a0 = a0 := sIo (by omega) (by omega)
    have o16 : 0 ≤ (sI a0) ∧ (sI a0) < 4001 := by omega
    refine ⟨o16, ?_⟩
    have q17 : (-2147483648) ≤ (M10 30 (sI a0).toNat) ∧ (M10 30 (sI a0).toNat) ≤ 2147483647 := BN.at hB12.1 (rfl : zcd wR 30 = 80) rfl
    have s18 : sI (M10 30 (sI a0).toNat) = (M10 30 (sI a0).toNat) := sIo (by omega) (by omega)
    exact hQ _ _ ⟨hB12, hF14, (by omega), trivial⟩
  · skip
    exact hQ _ _ ⟨hB3, hF4, (by omega), trivial⟩
set_option maxHeartbeats 4000000 in
set_option maxRecDepth 100000 in
theorem sR_areAlike {M : zM} {a0 : Int} {a1 : Int} (hB : BI M) (v0 : 0 ≤ a0 ∧ a0 ≤ 3981) (v1 : 0 ≤ a1 ∧ a1 ≤ 3981) {Q : Int → Prop} (hQ : ∀ (z : Int), (0 ≤ z ∧ z ≤ 1) ∧ True → Q z) : wR_areAlike a0 a1 M Q := by
  unfold wR_areAlike
  refine pL1_of (fun x1 => (0 ≤ x1 ∧ x1 ≤ 1000000) ∧ True) (fun x1 => (1000000 - x1).toNat) ⟨(by omega), trivial⟩ (fun K x1 h3 k4 => ?_)
  obtain ⟨i2, -⟩ := h3
  have s5 : sI x1 = x1 := sIo (by omega) (by omega)
  refine ⟨fun c6 => ?_, fun c6 => ?_⟩
  · skip
    exact hQ _ ⟨(by omega), trivial⟩
  · skip
    have s7 : sI (a0 + x1) = (a0 + x1) := sIo (by omega) (by omega)
    have o8 : 0 ≤ (sI (a0 + x1)) ∧ (sI (a0 + x1)) < 4001 := by omega
    refine ⟨o8, ?_⟩
    have q9 : (-2147483648) ≤ (M 30 (sI (a0 + x1)).toNat) ∧ (M 30 (sI (a0 + x1)).toNat) ≤ 2147483647 := BN.at hB.1 (rfl : zcd wR 30 = 80) rfl
    have s10 : sI (a1 + x1) = (a1 + x1) := sIo (by omega) (by omega)
    have o11 : 0 ≤ (sI (a1 + x1)) ∧ (sI (a1 + x1)) < 4001 := by omega
    refine ⟨o11, ?_⟩
    have q12 : (-2147483648) ≤ (M 30 (sI (a1 + x1)).toNat) ∧ (M 30 (sI (a1 + x1)).toNat) ≤ 2147483647 := BN.at hB.1 (rfl : zcd wR 30 = 80) rfl
    have s13 : sI (M 30 (sI (a0 + x1)).toNat) = (M 30 (sI (a0 + x1)).toNat) := sIo (by omega) (by omega)
    have s14 : sI (M 30 (sI (a1 + x1)).toNat) = (M 30 (sI (a1 + x1)).toNat) := sIo (by omega) (by omega)
    refine ⟨fun c15 => ?_, fun c15 => ?_⟩
    · skip
      exact k4 _ ⟨(by omega), trivial⟩ (by omega)
    · skip
      exact hQ _ ⟨(by omega), trivial⟩
set_option maxHeartbeats 4000000 in
set_option maxRecDepth 100000 in
theorem sR_dies {M : zM}  (hB : BI M)  {Q : Int → zM → Prop} (hQ : ∀ (z : Int) (M1 : zM), BI M1 ∧ (∀ j9 k9 : Nat, ¬ (j9 = 0 ∧ k9 = 35 ∨ j9 = 0 ∧ k9 = 34 ∨ j9 = 22 ∨ j9 = 30) → M1 j9 k9 = M j9 k9) ∧ ((-2147483648) ≤ z ∧ z ≤ 2147483647) ∧ True → Q z M1) : wR_dies  M Q := by
  unfold wR_dies
  have hF0 : ∀ j9 k9 : Nat, ¬ (j9 = 0 ∧ k9 = 35 ∨ j9 = 0 ∧ k9 = 34 ∨ j9 = 22 ∨ j9 = 30) → M j9 k9 = M j9 k9 := fun j9 k9 _ => rfl
  intro M1 e2
  have hB3 : BI M1 := by rw [e2]; exact BI.up0 hB rfl (by omega) (by omega) (by decide)
  have hF4 : ∀ j9 k9 : Nat, ¬ (j9 = 0 ∧ k9 = 35 ∨ j9 = 0 ∧ k9 = 34 ∨ j9 = 22 ∨ j9 = 30) → M1 j9 k9 = M j9 k9 := fun j9 k9 h9 => by rw [e2]; exact (zup_n _ _ (by omega)).trans (hF0 j9 k9 h9)
  have r5 : M1 0 22 = M 0 22 := by rw [e2]; exact zup_n _ _ (by omega)
  refine sR_findOuts hB3 (by omega) (fun  M6 h7 => ?_)
  obtain ⟨hB8, f9, -⟩ := h7
  have hF10 : ∀ j9 k9 : Nat, ¬ (j9 = 0 ∧ k9 = 35 ∨ j9 = 0 ∧ k9 = 34 ∨ j9 = 22 ∨ j9 = 30) → M6 j9 k9 = M j9 k9 := fun j9 k9 h9 => ((f9 j9 k9 (by omega)).trans (hF4 j9 k9 h9))
  have r11 : M6 0 22 = M1 0 22 := f9 0 22 (by omega)
  have q12 : 0 ≤ (M6 0 22) ∧ (M6 0 22) ≤ 2000 := BN.at hB8.1 (rfl : zcd wR 0 = 50) rfl
  refine pL2_of (fun x13 x14 => (0 ≤ x14 ∧ x14 ≤ 1000000) ∧ True) (fun x13 x14 => (1000000 - x14).toNat) ⟨(by omega), trivial⟩ (fun K x13 x14 h16 k17 => ?_)
  obtain ⟨i15, -⟩ := h16
  have s18 : sI x14 = x14 := sIo (by omega) (by omega)
  refine ⟨fun c19 => ?_, fun c19 => ?_⟩
  · skip
    refine pL1_of (fun x20 => ((-1) ≤ x20 ∧ x20 ≤ 3980) ∧ True) (fun x20 => (x20 + 1).toNat) ⟨(by omega), trivial⟩ (fun K x20 h22 k23 => ?_)
    obtain ⟨i21, -⟩ := h22
    have q24 : 0 ≤ (M6 0 22) ∧ (M6 0 22) ≤ 2000 := BN.at hB8.1 (rfl : zcd wR 0 = 50) rfl
    have s25 : sI x20 = x20 := sIo (by omega) (by omega)
    have s26 : sI (M6 0 22) = (M6 0 22) := sIo (by omega) (by omega)
    refine pJ0_dup ?_
    refine ⟨fun c27 => ?_, fun c27 => ?_⟩
    · skip
      refine ⟨fun c29 => ?_, fun c29 => ?_⟩
      · skip
        refine pL1_of (fun x30 => (0 ≤ x30 ∧ x30 ≤ 3980) ∧ (x30 ≤ x20) ∧ True) (fun x30 => (x30 + 1).toNat) ⟨(by omega), (by omega), trivial⟩ (fun K x30 h33 k34 => ?_)
        obtain ⟨i31, i32, -⟩ := h33
        have q35 : 0 ≤ (M6 0 22) ∧ (M6 0 22) ≤ 2000 := BN.at hB8.1 (rfl : zcd wR 0 = 50) rfl
        have s36 : sI x30 = x30 := sIo (by omega) (by omega)
        have s37 : sI (M6 0 22) = (M6 0 22) := sIo (by omega) (by omega)
        refine pJ0_dup ?_
        refine ⟨fun c38 => ?_, fun c38 => ?_⟩
        · skip
          intro M39 e40
          have hB41 : BI M39 := by rw [e40]; exact BI.up hB8 (rfl : zcd wR 22 = 72) rfl (by omega) (by omega) (by decide)
          have hF42 : ∀ j9 k9 : Nat, ¬ (j9 = 0 ∧ k9 = 35 ∨ j9 = 0 ∧ k9 = 34 ∨ j9 = 22 ∨ j9 = 30) → M39 j9 k9 = M j9 k9 := fun j9 k9 h9 => by rw [e40]; exact (zup_n _ _ (by omega)).trans (hF10 j9 k9 h9)
          have r43 : M39 0 22 = M6 0 22 := by rw [e40]; exact zup_n _ _ (by omega)
          intro M44 e45
          have hB46 : BI M44 := by rw [e45]; exact BI.up hB41 (rfl : zcd wR 22 = 72) rfl (by omega) (by omega) (by decide)
          have hF47 : ∀ j9 k9 : Nat, ¬ (j9 = 0 ∧ k9 = 35 ∨ j9 = 0 ∧ k9 = 34 ∨ j9 = 22 ∨ j9 = 30) → M44 j9 k9 = M j9 k9 := fun j9 k9 h9 => by rw [e45]; exact (zup_n _ _ (by omega)).trans (hF42 j9 k9 h9)
          have r48 : M44 0 22 = M39 0 22 := by rw [e45]; exact zup_n _ _ (by omega)
          intro M49 e50
          have hB51 : BI M49 := by rw [e50]; exact BI.up0 hB46 rfl (by omega) (by omega) (by decide)
          have hF52 : ∀ j9 k9 : Nat, ¬ (j9 = 0 ∧ k9 = 35 ∨ j9 = 0 ∧ k9 = 34 ∨ j9 = 22 ∨ j9 = 30) → M49 j9 k9 = M j9 k9 := fun j9 k9 h9 => by rw [e50]; exact (zup_n _ _ (by omega)).trans (hF47 j9 k9 h9)
          have r53 : M49 0 22 = M44 0 22 := by rw [e50]; exact zup_n _ _ (by omega)
          exact hQ _ _ ⟨hB51, hF52, (by omega), trivial⟩
        · skip
          have s54 : sI (x30 - 1) = (x30 - 1) := sIo (by omega) (by omega)
          have o55 : 0 ≤ (sI (x30 - 1)) ∧ (sI (x30 - 1)) < 4001 := by omega
          refine ⟨o55, ?_⟩
          have q56 : (-2147483648) ≤ (M6 30 (sI (x30 - 1)).toNat) ∧ (M6 30 (sI (x30 - 1)).toNat) ≤ 2147483647 := BN.at hB8.1 (rfl : zcd wR 30 = 80) rfl
          have s57 : sI ((x30 - 1) + (3981 - x20)) = ((x30 - 1) + (3981 - x20)) := sIo (by omega) (by omega)
          have o58 : 0 ≤ (sI ((x30 - 1) + (3981 - x20))) ∧ (sI ((x30 - 1) + (3981 - x20))) < 4001 := by omega
          refine ⟨o58, ?_⟩
          have q59 : (-2147483648) ≤ (M6 30 (sI ((x30 - 1) + (3981 - x20))).toNat) ∧ (M6 30 (sI ((x30 - 1) + (3981 - x20))).toNat) ≤ 2147483647 := BN.at hB8.1 (rfl : zcd wR 30 = 80) rfl
          have s60 : sI (M6 30 (sI (x30 - 1)).toNat) = (M6 30 (sI (x30 - 1)).toNat) := sIo (by omega) (by omega)
          have s61 : sI (M6 30 (sI ((x30 - 1) + (3981 - x20))).toNat) = (M6 30 (sI ((x30 - 1) + (3981 - x20))).toNat) := sIo (by omega) (by omega)
          refine ⟨fun c62 => ?_, fun c62 => ?_⟩
          · skip
            intro M63 e64
            have hB65 : BI M63 := by rw [e64]; exact BI.up hB8 (rfl : zcd wR 22 = 72) rfl (by omega) (by omega) (by decide)
            have hF66 : ∀ j9 k9 : Nat, ¬ (j9 = 0 ∧ k9 = 35 ∨ j9 = 0 ∧ k9 = 34 ∨ j9 = 22 ∨ j9 = 30) → M63 j9 k9 = M j9 k9 := fun j9 k9 h9 => by rw [e64]; exact (zup_n _ _ (by omega)).trans (hF10 j9 k9 h9)
            have r67 : M63 0 22 = M6 0 22 := by rw [e64]; exact zup_n _ _ (by omega)
            intro M68 e69
            have hB70 : BI M68 := by rw [e69]; exact BI.up hB65 (rfl : zcd wR 22 = 72) rfl (by omega) (by omega) (by decide)
            have hF71 : ∀ j9 k9 : Nat, ¬ (j9 = 0 ∧ k9 = 35 ∨ j9 = 0 ∧ k9 = 34 ∨ j9 = 22 ∨ j9 = 30) → M68 j9 k9 = M j9 k9 := fun j9 k9 h9 => by rw [e69]; exact (zup_n _ _ (by omega)).trans (hF66 j9 k9 h9)
            have r72 : M68 0 22 = M63 0 22 := by rw [e69]; exact zup_n _ _ (by omega)
            intro M73 e74
            have hB75 : BI M73 := by rw [e74]; exact BI.up0 hB70 rfl (by omega) (by omega) (by decide)
            have hF76 : ∀ j9 k9 : Nat, ¬ (j9 = 0 ∧ k9 = 35 ∨ j9 = 0 ∧ k9 = 34 ∨ j9 = 22 ∨ j9 = 30) → M73 j9 k9 = M j9 k9 := fun j9 k9 h9 => by rw [e74]; exact (zup_n _ _ (by omega)).trans (hF71 j9 k9 h9)
            have r77 : M73 0 22 = M68 0 22 := by rw [e74]; exact zup_n _ _ (by omega)
            exact hQ _ _ ⟨hB75, hF76, (by omega), trivial⟩
          · skip
            exact k34 _ ⟨(by omega), (by omega), trivial⟩ (by omega)
      · skip
        exact hQ _ _ ⟨hB8, hF10, (by omega), trivial⟩
    · skip
      refine sR_areAlike hB8 (by omega) (by omega) (fun z78  h79 => ?_)
      obtain ⟨p80, -⟩ := h79
      refine ⟨fun c81 => ?_, fun c81 => ?_⟩
      · skip
        refine ⟨fun c83 => ?_, fun c83 => ?_⟩
        · skip
          refine pL1_of (fun x84 => (0 ≤ x84 ∧ x84 ≤ 3980) ∧ (x84 ≤ x20) ∧ True) (fun x84 => (x84 + 1).toNat) ⟨(by omega), (by omega), trivial⟩ (fun K x84 h87 k88 => ?_)
          obtain ⟨i85, i86, -⟩ := h87
          have q89 : 0 ≤ (M6 0 22) ∧ (M6 0 22) ≤ 2000 := BN.at hB8.1 (rfl : zcd wR 0 = 50) rfl
          have s90 : sI x84 = x84 := sIo (by omega) (by omega)
          have s91 : sI (M6 0 22) = (M6 0 22) := sIo (by omega) (by omega)
          refine pJ0_dup ?_
          refine ⟨fun c92 => ?_, fun c92 => ?_⟩
          · skip
            intro M93 e94
            have hB95 : BI M93 := by rw [e94]; exact BI.up hB8 (rfl : zcd wR 22 = 72) rfl (by omega) (by omega) (by decide)
            have hF96 : ∀ j9 k9 : Nat, ¬ (j9 = 0 ∧ k9 = 35 ∨ j9 = 0 ∧ k9 = 34 ∨ j9 = 22 ∨ j9 = 30) → M93 j9 k9 = M j9 k9 := fun j9 k9 h9 => by rw [e94]; exact (zup_n _ _ (by omega)).trans (hF10 j9 k9 h9)
            have r97 : M93 0 22 = M6 0 22 := by rw [e94]; exact zup_n _ _ (by omega)
            intro M98 e99
            have hB100 : BI M98 := by rw [e99]; exact BI.up hB95 (rfl : zcd wR 22 = 72) rfl (by omega) (by omega) (by decide)
            have hF101 : ∀ j9 k9 : Nat, ¬ (j9 = 0 ∧ k9 = 35 ∨ j9 = 0 ∧ k9 = 34 ∨ j9 = 22 ∨ j9 = 30) → M98 j9 k9 = M j9 k9 := fun j9 k9 h9 => by rw [e99]; exact (zup_n _ _ (by omega)).trans (hF96 j9 k9 h9)
            have r102 : M98 0 22 = M93 0 22 := by rw [e99]; exact zup_n _ _ (by omega)
            intro M103 e104
            have hB105 : BI M103 := by rw [e104]; exact BI.up0 hB100 rfl (by omega) (by omega) (by decide)
            have hF106 : ∀ j9 k9 : Nat, ¬ (j9 = 0 ∧ k9 = 35 ∨ j9 = 0 ∧ k9 = 34 ∨ j9 = 22 ∨ j9 = 30) → M103 j9 k9 = M j9 k9 := fun j9 k9 h9 => by rw [e104]; exact (zup_n _ _ (by omega)).trans (hF101 j9 k9 h9)
            have r107 : M103 0 22 = M98 0 22 := by rw [e104]; exact zup_n _ _ (by omega)
            exact hQ _ _ ⟨hB105, hF106, (by omega), trivial⟩
          · skip
            have s108 : sI (x84 - 1) = (x84 - 1) := sIo (by omega) (by omega)
            have o109 : 0 ≤ (sI (x84 - 1)) ∧ (sI (x84 - 1)) < 4001 := by omega
            refine ⟨o109, ?_⟩
            have q110 : (-2147483648) ≤ (M6 30 (sI (x84 - 1)).toNat) ∧ (M6 30 (sI (x84 - 1)).toNat) ≤ 2147483647 := BN.at hB8.1 (rfl : zcd wR 30 = 80) rfl
            have s111 : sI ((x84 - 1) + (3981 - x20)) = ((x84 - 1) + (3981 - x20)) := sIo (by omega) (by omega)
            have o112 : 0 ≤ (sI ((x84 - 1) + (3981 - x20))) ∧ (sI ((x84 - 1) + (3981 - x20))) < 4001 := by omega
            refine ⟨o112, ?_⟩
            have q113 : (-2147483648) ≤ (M6 30 (sI ((x84 - 1) + (3981 - x20))).toNat) ∧ (M6 30 (sI ((x84 - 1) + (3981 - x20))).toNat) ≤ 2147483647 := BN.at hB8.1 (rfl : zcd wR 30 = 80) rfl
            have s114 : sI (M6 30 (sI (x84 - 1)).toNat) = (M6 30 (sI (x84 - 1)).toNat) := sIo (by omega) (by omega)
            have s115 : sI (M6 30 (sI ((x84 - 1) + (3981 - x20))).toNat) = (M6 30 (sI ((x84 - 1) + (3981 - x20))).toNat) := sIo (by omega) (by omega)
            refine ⟨fun c116 => ?_, fun c116 => ?_⟩
            · skip
              intro M117 e118
              have hB119 : BI M117 := by rw [e118]; exact BI.up hB8 (rfl : zcd wR 22 = 72) rfl (by omega) (by omega) (by decide)
              have hF120 : ∀ j9 k9 : Nat, ¬ (j9 = 0 ∧ k9 = 35 ∨ j9 = 0 ∧ k9 = 34 ∨ j9 = 22 ∨ j9 = 30) → M117 j9 k9 = M j9 k9 := fun j9 k9 h9 => by rw [e118]; exact (zup_n _ _ (by omega)).trans (hF10 j9 k9 h9)
              have r121 : M117 0 22 = M6 0 22 := by rw [e118]; exact zup_n _ _ (by omega)
              intro M122 e123
              have hB124 : BI M122 := by rw [e123]; exact BI.up hB119 (rfl : zcd wR 22 = 72) rfl (by omega) (by omega) (by decide)
              have hF125 : ∀ j9 k9 : Nat, ¬ (j9 = 0 ∧ k9 = 35 ∨ j9 = 0 ∧ k9 = 34 ∨ j9 = 22 ∨ j9 = 30) → M122 j9 k9 = M j9 k9 := fun j9 k9 h9 => by rw [e123]; exact (zup_n _ _ (by omega)).trans (hF120 j9 k9 h9)
              have r126 : M122 0 22 = M117 0 22 := by rw [e123]; exact zup_n _ _ (by omega)
              intro M127 e128
              have hB129 : BI M127 := by rw [e128]; exact BI.up0 hB124 rfl (by omega) (by omega) (by decide)
              have hF130 : ∀ j9 k9 : Nat, ¬ (j9 = 0 ∧ k9 = 35 ∨ j9 = 0 ∧ k9 = 34 ∨ j9 = 22 ∨ j9 = 30) → M127 j9 k9 = M j9 k9 := fun j9 k9 h9 => by rw [e128]; exact (zup_n _ _ (by omega)).trans (hF125 j9 k9 h9)
              have r131 : M127 0 22 = M122 0 22 := by rw [e128]; exact zup_n _ _ (by omega)
              exact hQ _ _ ⟨hB129, hF130, (by omega), trivial⟩
            · skip
              exact k88 _ ⟨(by omega), (by omega), trivial⟩ (by omega)
        · skip
          exact hQ _ _ ⟨hB8, hF10, (by omega), trivial⟩
      · skip
        exact k23 _ ⟨(by omega), trivial⟩ (by omega)
  · skip
    have o132 : 0 ≤ (sI x14) ∧ (sI x14) < 4001 := by omega
    refine ⟨o132, ?_⟩
    have q133 : (-2147483648) ≤ (M6 30 (sI x14).toNat) ∧ (M6 30 (sI x14).toNat) ≤ 2147483647 := BN.at hB8.1 (rfl : zcd wR 30 = 80) rfl
    have s134 : sI (M6 30 (sI x14).toNat) = (M6 30 (sI x14).toNat) := sIo (by omega) (by omega)
    refine pJ1_dup ?_
    refine ⟨fun c135 => ?_, fun c135 => ?_⟩
    · skip
      have s136 : sI 0 = 0 := sIo (by omega) (by omega)
      refine ⟨fun c137 => ?_, fun c137 => ?_⟩
      · skip
        exact k17 _ _ ⟨(by omega), trivial⟩ (by omega)
      · skip
        have s138 : sI ((x14 - 20) + 1) = ((x14 - 20) + 1) := sIo (by omega) (by omega)
        exact hQ _ _ ⟨hB8, hF10, (by omega), trivial⟩
    · skip
      have s139 := sI_R (x13 + 1)
      have s140 := sI_or (x13 + 1)
      refine ⟨fun c141 => ?_, fun c141 => ?_⟩
      · skip
        exact k17 _ _ ⟨(by omega), trivial⟩ (by omega)
      · skip
        have s142 : sI ((x14 - 20) + 1) = ((x14 - 20) + 1) := sIo (by omega) (by omega)
        exact hQ _ _ ⟨hB8, hF10, (by omega), trivial⟩
set_option maxHeartbeats 4000000 in
set_option maxRecDepth 100000 in
theorem sR_tape {M : zM} {a0 : Int} (hB : BI M) (v0 : (-2147483648) ≤ a0 ∧ a0 ≤ 2147483647) {Q : Int → zM → Prop} (hQ : ∀ (z : Int) (M1 : zM), BI M1 ∧ (∀ j9 k9 : Nat, ¬ (j9 = 0 ∧ k9 = 35 ∨ j9 = 0 ∧ k9 = 24 ∨ j9 = 15) → M1 j9 k9 = M j9 k9) ∧ ((-2147483648) ≤ z ∧ z ≤ 2147483647) ∧ (((a0 = -1 ∨ andI a0 (-1023) = 0) ∧ M 0 24 < 60 ∧ z = M 0 24 + 1 ∧ M1 0 24 = M 0 24 + 1) ∨ (¬ ((a0 = -1 ∨ andI a0 (-1023) = 0) ∧ M 0 24 < 60) ∧ z = -1 ∧ M1 0 24 = M 0 24)) ∧ True → Q z M1) : wR_tape a0 M Q := by
  unfold wR_tape
  have hF0 : ∀ j9 k9 : Nat, ¬ (j9 = 0 ∧ k9 = 35 ∨ j9 = 0 ∧ k9 = 24 ∨ j9 = 15) → M j9 k9 = M j9 k9 := fun j9 k9 _ => rfl
  intro M1 e2
  have hB3 : BI M1 := by rw [e2]; exact BI.up0 hB rfl (by omega) (by omega) (by decide)
  have hF4 : ∀ j9 k9 : Nat, ¬ (j9 = 0 ∧ k9 = 35 ∨ j9 = 0 ∧ k9 = 24 ∨ j9 = 15) → M1 j9 k9 = M j9 k9 := fun j9 k9 h9 => by rw [e2]; exact (zup_n _ _ (by omega)).trans (hF0 j9 k9 h9)
  have r5 : M1 0 24 = M 0 24 := by rw [e2]; exact zup_n _ _ (by omega)
  have s6 : sI a0 = a0 := sIo (by omega) (by omega)
  refine pJ0_dup ?_
  refine ⟨fun c7 => ?_, fun c7 => ?_⟩
  · skip
    have q8 : 0 ≤ (M1 0 24) ∧ (M1 0 24) ≤ 60 := BN.at hB3.1 (rfl : zcd wR 0 = 50) rfl
    have s9 : sI (M1 0 24) = (M1 0 24) := sIo (by omega) (by omega)
    refine ⟨fun c10 => ?_, fun c10 => ?_⟩
    · skip
      have o12 : 0 ≤ (sI (M1 0 24)) ∧ (sI (M1 0 24)) < 60 := by omega
      refine ⟨o12, ?_⟩
      intro M13 e14
      have hB15 : BI M13 := by rw [e14]; exact BI.up hB3 (rfl : zcd wR 15 = 65) rfl (by omega) (by omega) (by decide)
      have hF16 : ∀ j9 k9 : Nat, ¬ (j9 = 0 ∧ k9 = 35 ∨ j9 = 0 ∧ k9 = 24 ∨ j9 = 15) → M13 j9 k9 = M j9 k9 := fun j9 k9 h9 => by rw [e14]; exact (zup_n _ _ (by omega)).trans (hF4 j9 k9 h9)
      have r17 : M13 0 24 = M1 0 24 := by rw [e14]; exact zup_n _ _ (by omega)
      have q18 : 0 ≤ (M13 0 24) ∧ (M13 0 24) ≤ 60 := BN.at hB15.1 (rfl : zcd wR 0 = 50) rfl
      intro M19 e20
      have hB21 : BI M19 := by rw [e20]; exact BI.up0 hB15 rfl (by omega) (by omega) (by decide)
      have hF22 : ∀ j9 k9 : Nat, ¬ (j9 = 0 ∧ k9 = 35 ∨ j9 = 0 ∧ k9 = 24 ∨ j9 = 15) → M19 j9 k9 = M j9 k9 := fun j9 k9 h9 => by rw [e20]; exact (zup_n _ _ (by omega)).trans (hF16 j9 k9 h9)
      have r23 : M19 0 24 = ((M13 0 24) + 1) := by rw [e20]; exact zup_s _ _ _ _
      have q24 : 0 ≤ (M19 0 24) ∧ (M19 0 24) ≤ 60 := BN.at hB21.1 (rfl : zcd wR 0 = 50) rfl
      have s25 : sI (M19 0 24) = (M19 0 24) := sIo (by omega) (by omega)
      exact hQ _ _ ⟨hB21, hF22, (by omega), (by omega), trivial⟩
    · skip
      exact hQ _ _ ⟨hB3, hF4, (by omega), (by omega), trivial⟩
  · skip
    refine sR_areSounds hB3 (by omega) (fun z26  h27 => ?_)
    obtain ⟨p28, p29, -⟩ := h27
    refine ⟨fun c30 => ?_, fun c30 => ?_⟩
    · skip
      exact hQ _ _ ⟨hB3, hF4, (by omega), (by omega), trivial⟩
    · skip
      have q31 : 0 ≤ (M1 0 24) ∧ (M1 0 24) ≤ 60 := BN.at hB3.1 (rfl : zcd wR 0 = 50) rfl
      have s32 : sI (M1 0 24) = (M1 0 24) := sIo (by omega) (by omega)
      refine ⟨fun c33 => ?_, fun c33 => ?_⟩
      · skip
        have o35 : 0 ≤ (sI (M1 0 24)) ∧ (sI (M1 0 24)) < 60 := by omega
        refine ⟨o35, ?_⟩
        intro M36 e37
        have hB38 : BI M36 := by rw [e37]; exact BI.up hB3 (rfl : zcd wR 15 = 65) rfl (by omega) (by omega) (by decide)
        have hF39 : ∀ j9 k9 : Nat, ¬ (j9 = 0 ∧ k9 = 35 ∨ j9 = 0 ∧ k9 = 24 ∨ j9 = 15) → M36 j9 k9 = M j9 k9 := fun j9 k9 h9 => by rw [e37]; exact (zup_n _ _ (by omega)).trans (hF4 j9 k9 h9)
        have r40 : M36 0 24 = M1 0 24 := by rw [e37]; exact zup_n _ _ (by omega)
        have q41 : 0 ≤ (M36 0 24) ∧ (M36 0 24) ≤ 60 := BN.at hB38.1 (rfl : zcd wR 0 = 50) rfl
        intro M42 e43
        have hB44 : BI M42 := by rw [e43]; exact BI.up0 hB38 rfl (by omega) (by omega) (by decide)
        have hF45 : ∀ j9 k9 : Nat, ¬ (j9 = 0 ∧ k9 = 35 ∨ j9 = 0 ∧ k9 = 24 ∨ j9 = 15) → M42 j9 k9 = M j9 k9 := fun j9 k9 h9 => by rw [e43]; exact (zup_n _ _ (by omega)).trans (hF39 j9 k9 h9)
        have r46 : M42 0 24 = ((M36 0 24) + 1) := by rw [e43]; exact zup_s _ _ _ _
        have q47 : 0 ≤ (M42 0 24) ∧ (M42 0 24) ≤ 60 := BN.at hB44.1 (rfl : zcd wR 0 = 50) rfl
        have s48 : sI (M42 0 24) = (M42 0 24) := sIo (by omega) (by omega)
        exact hQ _ _ ⟨hB44, hF45, (by omega), (by omega), trivial⟩
      · skip
        exact hQ _ _ ⟨hB3, hF4, (by omega), (by omega), trivial⟩
set_option maxHeartbeats 4000000 in
set_option maxRecDepth 100000 in
theorem sR_take {M : zM} {a0 : Int} {a1 : Int} (hB : BI M) (v0 : (-2147483648) ≤ a0 ∧ a0 ≤ 2147483647) (v1 : (-2147483648) ≤ a1 ∧ a1 ≤ 2147483647) {Q : Int → zM → Prop} (hQ : ∀ (z : Int) (M1 : zM), BI M1 ∧ (∀ j9 k9 : Nat, ¬ (j9 = 0 ∧ k9 = 35 ∨ j9 = 0 ∧ k9 = 24 ∨ j9 = 15) → M1 j9 k9 = M j9 k9) ∧ (0 ≤ z ∧ z ≤ 1) ∧ ((((0 ≤ a0 ∧ a0 ≤ 100000) ∧ (0 ≤ a1 ∧ a1 ≤ 60)) ∧ z = 1 ∧ M1 0 24 = a1) ∨ (¬ ((0 ≤ a0 ∧ a0 ≤ 100000) ∧ (0 ≤ a1 ∧ a1 ≤ 60)) ∧ z = 0 ∧ M1 0 24 = M 0 24)) ∧ True → Q z M1) : wR_take a0 a1 M Q := by
  unfold wR_take
  have hF0 : ∀ j9 k9 : Nat, ¬ (j9 = 0 ∧ k9 = 35 ∨ j9 = 0 ∧ k9 = 24 ∨ j9 = 15) → M j9 k9 = M j9 k9 := fun j9 k9 _ => rfl
  intro M1 e2
  have hB3 : BI M1 := by rw [e2]; exact BI.up0 hB rfl (by omega) (by omega) (by decide)
  have hF4 : ∀ j9 k9 : Nat, ¬ (j9 = 0 ∧ k9 = 35 ∨ j9 = 0 ∧ k9 = 24 ∨ j9 = 15) → M1 j9 k9 = M j9 k9 := fun j9 k9 h9 => by rw [e2]; exact (zup_n _ _ (by omega)).trans (hF0 j9 k9 h9)
  have r5 : M1 0 24 = M 0 24 := by rw [e2]; exact zup_n _ _ (by omega)
  refine sR_in hB3 (by omega) (by omega) (by omega) (fun z6  h7 => ?_)
  obtain ⟨p8, p9, -⟩ := h7
  refine ⟨fun c10 => ?_, fun c10 => ?_⟩
  · skip
    exact hQ _ _ ⟨hB3, hF4, (by omega), (by omega), trivial⟩
  · skip
    refine sR_in hB3 (by omega) (by omega) (by omega) (fun z11  h12 => ?_)
    obtain ⟨p13, p14, -⟩ := h12
    refine ⟨fun c15 => ?_, fun c15 => ?_⟩
    · skip
      refine wL1_of (fun x16 M17 => BI M17 ∧ (∀ j9 k9 : Nat, ¬ (j9 = 0 ∧ k9 = 35 ∨ j9 = 0 ∧ k9 = 24 ∨ j9 = 15) → M17 j9 k9 = M j9 k9) ∧ (0 ≤ x16 ∧ x16 ≤ 1000000) ∧ True) (fun x16 M17 => (1000000 - x16).toNat) ⟨hB3, hF4, (by omega), trivial⟩ (fun K x16 M17 h21 k22 => ?_)
      obtain ⟨hB18, hF19, i20, -⟩ := h21
      have s23 : sI x16 = x16 := sIo (by omega) (by omega)
      have s24 : sI a1 = a1 := sIo (by omega) (by omega)
      refine ⟨fun c25 => ?_, fun c25 => ?_⟩
      · skip
        intro M26 e27
        have hB28 : BI M26 := by rw [e27]; exact BI.up0 hB18 rfl (by omega) (by omega) (by decide)
        have hF29 : ∀ j9 k9 : Nat, ¬ (j9 = 0 ∧ k9 = 35 ∨ j9 = 0 ∧ k9 = 24 ∨ j9 = 15) → M26 j9 k9 = M j9 k9 := fun j9 k9 h9 => by rw [e27]; exact (zup_n _ _ (by omega)).trans (hF19 j9 k9 h9)
        have r30 : M26 0 24 = a1 := by rw [e27]; exact zup_s _ _ _ _
        exact hQ _ _ ⟨hB28, hF29, (by omega), (by omega), trivial⟩
      · skip
        have s31 := sI_R (a0 + x16)
        have s32 := sI_or (a0 + x16)
        refine sR_heardInAll hB18  (fun z33  h34 => ?_)
        obtain ⟨p35, -⟩ := h34
        have o36 : 0 ≤ (sI x16) ∧ (sI x16) < 60 := by omega
        refine ⟨o36, ?_⟩
        intro M37 e38
        have hB39 : BI M37 := by rw [e38]; exact BI.up hB18 (rfl : zcd wR 15 = 65) rfl (by omega) (by omega) (by decide)
        have hF40 : ∀ j9 k9 : Nat, ¬ (j9 = 0 ∧ k9 = 35 ∨ j9 = 0 ∧ k9 = 24 ∨ j9 = 15) → M37 j9 k9 = M j9 k9 := fun j9 k9 h9 => by rw [e38]; exact (zup_n _ _ (by omega)).trans (hF19 j9 k9 h9)
        have r41 : M37 0 24 = M17 0 24 := by rw [e38]; exact zup_n _ _ (by omega)
        exact k22 _ _ ⟨hB39, hF40, (by omega), trivial⟩ (by omega)
    · skip
      exact hQ _ _ ⟨hB3, hF4, (by omega), (by omega), trivial⟩
set_option maxHeartbeats 4000000 in
set_option maxRecDepth 100000 in
theorem sR_gap {M : zM} {a0 : Int} (hB : BI M) (v0 : (-2147483648) ≤ a0 ∧ a0 ≤ 2147483647) {Q : Int → zM → Prop} (hQ : ∀ (z : Int) (M1 : zM), BI M1 ∧ (∀ j9 k9 : Nat, ¬ (j9 = 0 ∧ k9 = 35 ∨ j9 = 15) → M1 j9 k9 = M j9 k9) ∧ (0 ≤ z ∧ z ≤ 1) ∧ ((z = 1 ∧ 0 ≤ a0 ∧ a0 < M 0 24) ∨ (z = 0 ∧ ¬ (0 ≤ a0 ∧ a0 < M 0 24))) ∧ True → Q z M1) : wR_gap a0 M Q := by
  unfold wR_gap
  have hF0 : ∀ j9 k9 : Nat, ¬ (j9 = 0 ∧ k9 = 35 ∨ j9 = 15) → M j9 k9 = M j9 k9 := fun j9 k9 _ => rfl
  intro M1 e2
  have hB3 : BI M1 := by rw [e2]; exact BI.up0 hB rfl (by omega) (by omega) (by decide)
  have hF4 : ∀ j9 k9 : Nat, ¬ (j9 = 0 ∧ k9 = 35 ∨ j9 = 15) → M1 j9 k9 = M j9 k9 := fun j9 k9 h9 => by rw [e2]; exact (zup_n _ _ (by omega)).trans (hF0 j9 k9 h9)
  have r5 : M1 0 24 = M 0 24 := by rw [e2]; exact zup_n _ _ (by omega)
  have q6 : 0 ≤ (M1 0 24) ∧ (M1 0 24) ≤ 60 := BN.at hB3.1 (rfl : zcd wR 0 = 50) rfl
  refine sR_in hB3 (by omega) (by omega) (by omega) (fun z7  h8 => ?_)
  obtain ⟨p9, p10, -⟩ := h8
  refine ⟨fun c11 => ?_, fun c11 => ?_⟩
  · skip
    have s12 : sI a0 = a0 := sIo (by omega) (by omega)
    have o13 : 0 ≤ (sI a0) ∧ (sI a0) < 60 := by omega
    refine ⟨o13, ?_⟩
    intro M14 e15
    have hB16 : BI M14 := by rw [e15]; exact BI.up hB3 (rfl : zcd wR 15 = 65) rfl (by omega) (by omega) (by decide)
    have hF17 : ∀ j9 k9 : Nat, ¬ (j9 = 0 ∧ k9 = 35 ∨ j9 = 15) → M14 j9 k9 = M j9 k9 := fun j9 k9 h9 => by rw [e15]; exact (zup_n _ _ (by omega)).trans (hF4 j9 k9 h9)
    have r18 : M14 0 24 = M1 0 24 := by rw [e15]; exact zup_n _ _ (by omega)
    exact hQ _ _ ⟨hB16, hF17, (by omega), (by omega), trivial⟩
  · skip
    exact hQ _ _ ⟨hB3, hF4, (by omega), (by omega), trivial⟩
set_option maxHeartbeats 4000000 in
set_option maxRecDepth 100000 in
theorem sR_wipe {M : zM}  (hB : BI M)  {Q : Int → zM → Prop} (hQ : ∀ (z : Int) (M1 : zM), BI M1 ∧ (∀ j9 k9 : Nat, ¬ (j9 = 0 ∧ k9 = 35 ∨ j9 = 0 ∧ k9 = 24) → M1 j9 k9 = M j9 k9) ∧ ((-2147483648) ≤ z ∧ z ≤ 2147483647) ∧ (z = M 0 24 ∧ M1 0 24 = 0) ∧ True → Q z M1) : wR_wipe  M Q := by
  unfold wR_wipe
  have hF0 : ∀ j9 k9 : Nat, ¬ (j9 = 0 ∧ k9 = 35 ∨ j9 = 0 ∧ k9 = 24) → M j9 k9 = M j9 k9 := fun j9 k9 _ => rfl
  intro M1 e2
  have hB3 : BI M1 := by rw [e2]; exact BI.up0 hB rfl (by omega) (by omega) (by decide)
  have hF4 : ∀ j9 k9 : Nat, ¬ (j9 = 0 ∧ k9 = 35 ∨ j9 = 0 ∧ k9 = 24) → M1 j9 k9 = M j9 k9 := fun j9 k9 h9 => by rw [e2]; exact (zup_n _ _ (by omega)).trans (hF0 j9 k9 h9)
  have r5 : M1 0 24 = M 0 24 := by rw [e2]; exact zup_n _ _ (by omega)
  have q6 : 0 ≤ (M1 0 24) ∧ (M1 0 24) ≤ 60 := BN.at hB3.1 (rfl : zcd wR 0 = 50) rfl
  intro M7 e8
  have hB9 : BI M7 := by rw [e8]; exact BI.up0 hB3 rfl (by omega) (by omega) (by decide)
  have hF10 : ∀ j9 k9 : Nat, ¬ (j9 = 0 ∧ k9 = 35 ∨ j9 = 0 ∧ k9 = 24) → M7 j9 k9 = M j9 k9 := fun j9 k9 h9 => by rw [e8]; exact (zup_n _ _ (by omega)).trans (hF4 j9 k9 h9)
  have r11 : M7 0 24 = 0 := by rw [e8]; exact zup_s _ _ _ _
  have s12 : sI (M1 0 24) = (M1 0 24) := sIo (by omega) (by omega)
  exact hQ _ _ ⟨hB9, hF10, (by omega), (by omega), trivial⟩
set_option maxHeartbeats 4000000 in
set_option maxRecDepth 100000 in
theorem sR_isSpan {M : zM} {a0 : Int} (hB : BI M) (v0 : 1 ≤ a0 ∧ a0 ≤ 24) {Q : Int → Prop} (hQ : ∀ (z : Int), (0 ≤ z ∧ z ≤ 1) ∧ True → Q z) : wR_isSpan a0 M Q := by
  unfold wR_isSpan
  refine pL1_of (fun x1 => (0 ≤ x1 ∧ x1 ≤ 1000000) ∧ True) (fun x1 => (1000000 - x1).toNat) ⟨(by omega), trivial⟩ (fun K x1 h3 k4 => ?_)
  obtain ⟨i2, -⟩ := h3
  have q5 : 0 ≤ (M 0 24) ∧ (M 0 24) ≤ 60 := BN.at hB.1 (rfl : zcd wR 0 = 50) rfl
  have s6 : sI x1 = x1 := sIo (by omega) (by omega)
  have s7 : sI (M 0 24) = (M 0 24) := sIo (by omega) (by omega)
  refine ⟨fun c8 => ?_, fun c8 => ?_⟩
  · skip
    exact hQ _ ⟨(by omega), trivial⟩
  · skip
    refine pL1_of (fun x9 => (0 ≤ x9 ∧ x9 ≤ 1000000) ∧ True) (fun x9 => (1000000 - x9).toNat) ⟨(by omega), trivial⟩ (fun K x9 h11 k12 => ?_)
    obtain ⟨i10, -⟩ := h11
    have q13 : 0 ≤ (M 0 24) ∧ (M 0 24) ≤ 60 := BN.at hB.1 (rfl : zcd wR 0 = 50) rfl
    have s14 : sI x9 = x9 := sIo (by omega) (by omega)
    have s15 : sI (M 0 24) = (M 0 24) := sIo (by omega) (by omega)
    refine ⟨fun c16 => ?_, fun c16 => ?_⟩
    · skip
      exact k4 _ ⟨(by omega), trivial⟩ (by omega)
    · skip
      have s17 : sI x1 = x1 := sIo (by omega) (by omega)
      have o18 : 0 ≤ (sI x1) ∧ (sI x1) < 60 := by omega
      refine ⟨o18, ?_⟩
      have q19 : (-2147483648) ≤ (M 15 (sI x1).toNat) ∧ (M 15 (sI x1).toNat) ≤ 2147483647 := BN.at hB.1 (rfl : zcd wR 15 = 65) rfl
      have s20 : sI (M 15 (sI x1).toNat) = (M 15 (sI x1).toNat) := sIo (by omega) (by omega)
      refine ⟨fun c21 => ?_, fun c21 => ?_⟩
      · skip
        exact k12 _ ⟨(by omega), trivial⟩ (by omega)
      · skip
        have o22 : 0 ≤ (sI x9) ∧ (sI x9) < 60 := by omega
        refine ⟨o22, ?_⟩
        have q23 : (-2147483648) ≤ (M 15 (sI x9).toNat) ∧ (M 15 (sI x9).toNat) ≤ 2147483647 := BN.at hB.1 (rfl : zcd wR 15 = 65) rfl
        have s24 : sI (M 15 (sI x9).toNat) = (M 15 (sI x9).toNat) := sIo (by omega) (by omega)
        refine ⟨fun c25 => ?_, fun c25 => ?_⟩
        · skip
          exact k12 _ ⟨(by omega), trivial⟩ (by omega)
        · skip
          have o26 : 0 ≤ (sI x1) ∧ (sI x1) < 60 := by omega
          refine ⟨o26, ?_⟩
          have o28 : 0 ≤ (sI x9) ∧ (sI x9) < 60 := by omega
          refine ⟨o28, ?_⟩
          refine ⟨fun c30 => ?_, fun c30 => ?_⟩
          · skip
            exact k12 _ ⟨(by omega), trivial⟩ (by omega)
          · skip
            exact hQ _ ⟨(by omega), trivial⟩
set_option maxHeartbeats 4000000 in
set_option maxRecDepth 100000 in
theorem sR_span {M : zM} {a0 : Int} (hB : BI M) (v0 : (-2147483648) ≤ a0 ∧ a0 ≤ 2147483647) {Q : Int → zM → Prop} (hQ : ∀ (z : Int) (M1 : zM), BI M1 ∧ (∀ j9 k9 : Nat, ¬ (j9 = 0 ∧ k9 = 35) → M1 j9 k9 = M j9 k9) ∧ ((-2147483648) ≤ z ∧ z ≤ 2147483647) ∧ True → Q z M1) : wR_span a0 M Q := by
  unfold wR_span
  have hF0 : ∀ j9 k9 : Nat, ¬ (j9 = 0 ∧ k9 = 35) → M j9 k9 = M j9 k9 := fun j9 k9 _ => rfl
  intro M1 e2
  have hB3 : BI M1 := by rw [e2]; exact BI.up0 hB rfl (by omega) (by omega) (by decide)
  have hF4 : ∀ j9 k9 : Nat, ¬ (j9 = 0 ∧ k9 = 35) → M1 j9 k9 = M j9 k9 := fun j9 k9 h9 => by rw [e2]; exact (zup_n _ _ (by omega)).trans (hF0 j9 k9 h9)
  refine pL2_of (fun x5 x6 => ((-2147483648) ≤ x5 ∧ x5 ≤ 2147483647) ∧ (1 ≤ x6 ∧ x6 ≤ 1000000) ∧ True) (fun x5 x6 => (1000000 - x6).toNat) ⟨(by omega), (by omega), trivial⟩ (fun K x5 x6 h9 k10 => ?_)
  obtain ⟨i7, i8, -⟩ := h9
  have s11 : sI x6 = x6 := sIo (by omega) (by omega)
  refine ⟨fun c12 => ?_, fun c12 => ?_⟩
  · skip
    exact hQ _ _ ⟨hB3, hF4, (by omega), trivial⟩
  · skip
    have s13 : sI x5 = x5 := sIo (by omega) (by omega)
    refine ⟨fun c14 => ?_, fun c14 => ?_⟩
    · skip
      exact hQ _ _ ⟨hB3, hF4, (by omega), trivial⟩
    · skip
      refine sR_isSpan hB3 (by omega) (fun z15  h16 => ?_)
      obtain ⟨p17, -⟩ := h16
      refine ⟨fun c18 => ?_, fun c18 => ?_⟩
      · skip
        refine ⟨fun c19 => ?_, fun c19 => ?_⟩
        · skip
          exact k10 _ _ ⟨(by omega), (by omega), trivial⟩ (by omega)
        · skip
          exact hQ _ _ ⟨hB3, hF4, (by omega), trivial⟩
      · skip
        exact k10 _ _ ⟨(by omega), (by omega), trivial⟩ (by omega)
set_option maxHeartbeats 4000000 in
set_option maxRecDepth 100000 in
theorem sR_most {M : zM} {a0 : Int} {a1 : Int} (hB : BI M) (v0 : 1 ≤ a0 ∧ a0 ≤ 24) (v1 : 0 ≤ a1 ∧ a1 ≤ 59) {Q : Int → Prop} (hQ : ∀ (z : Int), ((-2147483648) ≤ z ∧ z ≤ 2147483647) ∧ True → Q z) : wR_most a0 a1 M Q := by
  unfold wR_most
  have s1 : sI a1 = a1 := sIo (by omega) (by omega)
  have s2 : sI a0 = a0 := sIo (by omega) (by omega)
  have o3 : (sI a0) ≠ 0 := by omega
  refine ⟨o3, ?_⟩
  have q4 := tmodN (sI a1) (sI a0) (by omega) (by omega)
  refine pL2_of (fun x5 x6 => (0 ≤ x6 ∧ x6 ≤ 1000000) ∧ True) (fun x5 x6 => (1000000 - x6).toNat) ⟨(by omega), trivial⟩ (fun K x5 x6 h8 k9 => ?_)
  obtain ⟨i7, -⟩ := h8
  have q10 : 0 ≤ (M 0 24) ∧ (M 0 24) ≤ 60 := BN.at hB.1 (rfl : zcd wR 0 = 50) rfl
  have s11 : sI x6 = x6 := sIo (by omega) (by omega)
  have s12 : sI (M 0 24) = (M 0 24) := sIo (by omega) (by omega)
  refine ⟨fun c13 => ?_, fun c13 => ?_⟩
  · skip
    have s14 := sI_R x5
    have s15 := sI_or x5
    exact hQ _ ⟨(by omega), trivial⟩
  · skip
    have o16 : 0 ≤ (sI x6) ∧ (sI x6) < 60 := by omega
    refine ⟨o16, ?_⟩
    have q17 : (-2147483648) ≤ (M 15 (sI x6).toNat) ∧ (M 15 (sI x6).toNat) ≤ 2147483647 := BN.at hB.1 (rfl : zcd wR 15 = 65) rfl
    have s18 : sI (M 15 (sI x6).toNat) = (M 15 (sI x6).toNat) := sIo (by omega) (by omega)
    refine ⟨fun c19 => ?_, fun c19 => ?_⟩
    · skip
      exact k9 _ _ ⟨(by omega), trivial⟩ (by omega)
    · skip
      have o20 : 0 ≤ (sI x6) ∧ (sI x6) < 60 := by omega
      refine ⟨o20, ?_⟩
      have q22 := andI_R x5 (M 15 (sI x6).toNat)
      exact k9 _ _ ⟨(by omega), trivial⟩ (by omega)
set_option maxHeartbeats 4000000 in
set_option maxRecDepth 100000 in
theorem sR_isPair {M : zM} {a0 : Int} {a1 : Int} (hB : BI M) (v0 : 1 ≤ a0 ∧ a0 ≤ 24) (v1 : 1 ≤ a1 ∧ a1 ≤ 24) {Q : Int → Prop} (hQ : ∀ (z : Int), (0 ≤ z ∧ z ≤ 1) ∧ True → Q z) : wR_isPair a0 a1 M Q := by
  unfold wR_isPair
  refine pL1_of (fun x1 => (0 ≤ x1 ∧ x1 ≤ 1000000) ∧ True) (fun x1 => (1000000 - x1).toNat) ⟨(by omega), trivial⟩ (fun K x1 h3 k4 => ?_)
  obtain ⟨i2, -⟩ := h3
  have q5 : 0 ≤ (M 0 24) ∧ (M 0 24) ≤ 60 := BN.at hB.1 (rfl : zcd wR 0 = 50) rfl
  have s6 : sI x1 = x1 := sIo (by omega) (by omega)
  have s7 : sI (M 0 24) = (M 0 24) := sIo (by omega) (by omega)
  refine ⟨fun c8 => ?_, fun c8 => ?_⟩
  · skip
    exact hQ _ ⟨(by omega), trivial⟩
  · skip
    have o9 : 0 ≤ (sI x1) ∧ (sI x1) < 60 := by omega
    refine ⟨o9, ?_⟩
    have q10 : (-2147483648) ≤ (M 15 (sI x1).toNat) ∧ (M 15 (sI x1).toNat) ≤ 2147483647 := BN.at hB.1 (rfl : zcd wR 15 = 65) rfl
    have s11 : sI (M 15 (sI x1).toNat) = (M 15 (sI x1).toNat) := sIo (by omega) (by omega)
    refine ⟨fun c12 => ?_, fun c12 => ?_⟩
    · skip
      exact k4 _ ⟨(by omega), trivial⟩ (by omega)
    · skip
      refine sR_most hB (by omega) (by omega) (fun z13  h14 => ?_)
      obtain ⟨p15, -⟩ := h14
      refine sR_most hB (by omega) (by omega) (fun z16  h17 => ?_)
      obtain ⟨p18, -⟩ := h17
      have q19 := orI_R z13 z16
      have o20 : 0 ≤ (sI x1) ∧ (sI x1) < 60 := by omega
      refine ⟨o20, ?_⟩
      refine ⟨fun c22 => ?_, fun c22 => ?_⟩
      · skip
        exact k4 _ ⟨(by omega), trivial⟩ (by omega)
      · skip
        exact hQ _ ⟨(by omega), trivial⟩
end zz31_R03
section zz31_R04
/-! safety of the model, 4 -/
set_option maxHeartbeats 4000000 in
set_option maxRecDepth 100000 in
theorem sR_pairAt {M : zM} {a0 : Int} (hB : BI M) (v0 : 0 ≤ a0 ∧ a0 ≤ 2147483647) {Q : Int → Prop} (hQ : ∀ (z : Int), ((-1) ≤ z ∧ z ≤ 2424) ∧ (z = -1 ∨ (101 ≤ z ∧ z ≤ 2424 ∧ 1 ≤ z % 100 ∧ z % 100 ≤ 24)) ∧ True → Q z) : wR_pairAt a0 M Q := by
  unfold wR_pairAt
  refine pL2_of (fun x1 x2 => (0 ≤ x1 ∧ x1 ≤ 2147483647) ∧ (2 ≤ x2 ∧ x2 ≤ 49) ∧ True) (fun x1 x2 => (1000000 - x2).toNat) ⟨(by omega), (by omega), trivial⟩ (fun K x1 x2 h5 k6 => ?_)
  obtain ⟨i3, i4, -⟩ := h5
  have s7 : sI x2 = x2 := sIo (by omega) (by omega)
  refine ⟨fun c8 => ?_, fun c8 => ?_⟩
  · skip
    exact hQ _ ⟨(by omega), (by omega), trivial⟩
  · skip
    have s9 : sI (x2 - 24) = (x2 - 24) := sIo (by omega) (by omega)
    refine pL2_of (fun x10 x11 => (0 ≤ x10 ∧ x10 ≤ 2147483647) ∧ (1 ≤ x11 ∧ x11 ≤ 25) ∧ (x2 - 24 ≤ x11) ∧ (x11 ≤ x2) ∧ True) (fun x10 x11 => (1000000 - x11).toNat) ⟨(by omega), (by omega), (by omega), (by omega), trivial⟩ (fun K x10 x11 h16 k17 => ?_)
    obtain ⟨i12, i13, i14, i15, -⟩ := h16
    have s18 : sI (2 * x11) = (2 * x11) := sIo (by omega) (by omega)
    have s19 : sI x2 = x2 := sIo (by omega) (by omega)
    refine ⟨fun c20 => ?_, fun c20 => ?_⟩
    · skip
      exact k6 _ _ ⟨(by omega), (by omega), trivial⟩ (by omega)
    · skip
      refine sR_isPair hB (by omega) (by omega) (fun z21  h22 => ?_)
      obtain ⟨p23, -⟩ := h22
      refine ⟨fun c24 => ?_, fun c24 => ?_⟩
      · skip
        have s25 : sI x10 = x10 := sIo (by omega) (by omega)
        refine ⟨fun c26 => ?_, fun c26 => ?_⟩
        · skip
          exact k17 _ _ ⟨(by omega), (by omega), (by omega), (by omega), trivial⟩ (by omega)
        · skip
          have s27 : sI (((100 * x11) + x2) - x11) = (((100 * x11) + x2) - x11) := sIo (by omega) (by omega)
          exact hQ _ ⟨(by omega), (by omega), trivial⟩
      · skip
        exact k17 _ _ ⟨(by omega), (by omega), (by omega), (by omega), trivial⟩ (by omega)
set_option maxHeartbeats 4000000 in
set_option maxRecDepth 100000 in
theorem sR_pair {M : zM} {a0 : Int} (hB : BI M) (v0 : (-2147483648) ≤ a0 ∧ a0 ≤ 2147483647) {Q : Int → zM → Prop} (hQ : ∀ (z : Int) (M1 : zM), BI M1 ∧ (∀ j9 k9 : Nat, ¬ (j9 = 0 ∧ k9 = 35) → M1 j9 k9 = M j9 k9) ∧ ((-2147483648) ≤ z ∧ z ≤ 2147483647) ∧ True → Q z M1) : wR_pair a0 M Q := by
  unfold wR_pair
  have hF0 : ∀ j9 k9 : Nat, ¬ (j9 = 0 ∧ k9 = 35) → M j9 k9 = M j9 k9 := fun j9 k9 _ => rfl
  intro M1 e2
  have hB3 : BI M1 := by rw [e2]; exact BI.up0 hB rfl (by omega) (by omega) (by decide)
  have hF4 : ∀ j9 k9 : Nat, ¬ (j9 = 0 ∧ k9 = 35) → M1 j9 k9 = M j9 k9 := fun j9 k9 h9 => by rw [e2]; exact (zup_n _ _ (by omega)).trans (hF0 j9 k9 h9)
  have s5 : sI a0 = a0 := sIo (by omega) (by omega)
  refine ⟨fun c6 => ?_, fun c6 => ?_⟩
  · skip
    refine sR_pairAt hB3 (by omega) (fun z7  h8 => ?_)
    obtain ⟨p9, p10, -⟩ := h8
    exact hQ _ _ ⟨hB3, hF4, (by omega), trivial⟩
  · skip
    exact hQ _ _ ⟨hB3, hF4, (by omega), trivial⟩
set_option maxHeartbeats 4000000 in
set_option maxRecDepth 100000 in
theorem sR_mended {M : zM} {a0 : Int} (hB : BI M) (v0 : (-2147483648) ≤ a0 ∧ a0 ≤ 2147483647) {Q : Int → zM → Prop} (hQ : ∀ (z : Int) (M1 : zM), BI M1 ∧ (∀ j9 k9 : Nat, ¬ (j9 = 0 ∧ k9 = 35) → M1 j9 k9 = M j9 k9) ∧ ((-2147483648) ≤ z ∧ z ≤ 2147483647) ∧ True → Q z M1) : wR_mended a0 M Q := by
  unfold wR_mended
  have hF0 : ∀ j9 k9 : Nat, ¬ (j9 = 0 ∧ k9 = 35) → M j9 k9 = M j9 k9 := fun j9 k9 _ => rfl
  intro M1 e2
  have hB3 : BI M1 := by rw [e2]; exact BI.up0 hB rfl (by omega) (by omega) (by decide)
  have hF4 : ∀ j9 k9 : Nat, ¬ (j9 = 0 ∧ k9 = 35) → M1 j9 k9 = M j9 k9 := fun j9 k9 h9 => by rw [e2]; exact (zup_n _ _ (by omega)).trans (hF0 j9 k9 h9)
  have q5 : 0 ≤ (M1 0 24) ∧ (M1 0 24) ≤ 60 := BN.at hB3.1 (rfl : zcd wR 0 = 50) rfl
  refine sR_in hB3 (by omega) (by omega) (by omega) (fun z6  h7 => ?_)
  obtain ⟨p8, p9, -⟩ := h7
  refine ⟨fun c10 => ?_, fun c10 => ?_⟩
  · skip
    refine sR_pairAt hB3 (by omega) (fun z11  h12 => ?_)
    obtain ⟨p13, p14, -⟩ := h12
    refine ⟨fun c15 => ?_, fun c15 => ?_⟩
    · skip
      have q16 : (z11.tdiv 100) = z11 / 100 := Int.tdiv_eq_ediv_of_nonneg (by omega)
      refine sR_most hB3 (by omega) (by omega) (fun z17  h18 => ?_)
      obtain ⟨p19, -⟩ := h18
      have q20 : (z11.tmod 100) = z11 % 100 := Int.tmod_eq_emod_of_nonneg (by omega)
      refine sR_most hB3 (by omega) (by omega) (fun z21  h22 => ?_)
      obtain ⟨p23, -⟩ := h22
      have q24 := orI_R z17 z21
      exact hQ _ _ ⟨hB3, hF4, (by omega), trivial⟩
    · skip
      exact hQ _ _ ⟨hB3, hF4, (by omega), trivial⟩
  · skip
    exact hQ _ _ ⟨hB3, hF4, (by omega), trivial⟩
set_option maxHeartbeats 4000000 in
set_option maxRecDepth 100000 in
theorem sR_burn {M : zM}  (hB : BI M)  {Q : Int → zM → Prop} (hQ : ∀ (z : Int) (M1 : zM), BI M1 ∧ (∀ j9 k9 : Nat, ¬ (j9 = 0 ∧ k9 = 35 ∨ j9 = 0 ∧ k9 = 27) → M1 j9 k9 = M j9 k9) ∧ ((-2147483648) ≤ z ∧ z ≤ 2147483647) ∧ (z = M 0 27 ∧ M1 0 27 = 0) ∧ True → Q z M1) : wR_burn  M Q := by
  unfold wR_burn
  have hF0 : ∀ j9 k9 : Nat, ¬ (j9 = 0 ∧ k9 = 35 ∨ j9 = 0 ∧ k9 = 27) → M j9 k9 = M j9 k9 := fun j9 k9 _ => rfl
  intro M1 e2
  have hB3 : BI M1 := by rw [e2]; exact BI.up0 hB rfl (by omega) (by omega) (by decide)
  have hF4 : ∀ j9 k9 : Nat, ¬ (j9 = 0 ∧ k9 = 35 ∨ j9 = 0 ∧ k9 = 27) → M1 j9 k9 = M j9 k9 := fun j9 k9 h9 => by rw [e2]; exact (zup_n _ _ (by omega)).trans (hF0 j9 k9 h9)
  have r5 : M1 0 27 = M 0 27 := by rw [e2]; exact zup_n _ _ (by omega)
  have q6 : 0 ≤ (M1 0 27) ∧ (M1 0 27) ≤ 5 := BN.at hB3.1 (rfl : zcd wR 0 = 50) rfl
  intro M7 e8
  have hB9 : BI M7 := by rw [e8]; exact BI.up0 hB3 rfl (by omega) (by omega) (by decide)
  have hF10 : ∀ j9 k9 : Nat, ¬ (j9 = 0 ∧ k9 = 35 ∨ j9 = 0 ∧ k9 = 27) → M7 j9 k9 = M j9 k9 := fun j9 k9 h9 => by rw [e8]; exact (zup_n _ _ (by omega)).trans (hF4 j9 k9 h9)
  have r11 : M7 0 27 = 0 := by rw [e8]; exact zup_s _ _ _ _
  have s12 : sI (M1 0 27) = (M1 0 27) := sIo (by omega) (by omega)
  exact hQ _ _ ⟨hB9, hF10, (by omega), (by omega), trivial⟩
set_option maxHeartbeats 4000000 in
set_option maxRecDepth 100000 in
theorem sR_keep {M : zM} {a0 : Int} {a1 : Int} (hB : BI M) (v0 : (-2147483648) ≤ a0 ∧ a0 ≤ 2147483647) (v1 : (-2147483648) ≤ a1 ∧ a1 ≤ 2147483647) {Q : Int → zM → Prop} (hQ : ∀ (z : Int) (M1 : zM), BI M1 ∧ (∀ j9 k9 : Nat, ¬ (j9 = 0 ∧ k9 = 35 ∨ j9 = 0 ∧ k9 = 32 ∨ j9 = 18 ∨ j9 = 19 ∨ j9 = 20 ∨ j9 = 21) → M1 j9 k9 = M j9 k9) ∧ ((-2147483648) ≤ z ∧ z ≤ 2147483647) ∧ True → Q z M1) : wR_keep a0 a1 M Q := by
  unfold wR_keep
  have hF0 : ∀ j9 k9 : Nat, ¬ (j9 = 0 ∧ k9 = 35 ∨ j9 = 0 ∧ k9 = 32 ∨ j9 = 18 ∨ j9 = 19 ∨ j9 = 20 ∨ j9 = 21) → M j9 k9 = M j9 k9 := fun j9 k9 _ => rfl
  intro M1 e2
  have hB3 : BI M1 := by rw [e2]; exact BI.up0 hB rfl (by omega) (by omega) (by decide)
  have hF4 : ∀ j9 k9 : Nat, ¬ (j9 = 0 ∧ k9 = 35 ∨ j9 = 0 ∧ k9 = 32 ∨ j9 = 18 ∨ j9 = 19 ∨ j9 = 20 ∨ j9 = 21) → M1 j9 k9 = M j9 k9 := fun j9 k9 h9 => by rw [e2]; exact (zup_n _ _ (by omega)).trans (hF0 j9 k9 h9)
  have r5 : M1 0 32 = M 0 32 := by rw [e2]; exact zup_n _ _ (by omega)
  refine sR_isRing hB3 (by omega) (fun z6  h7 => ?_)
  obtain ⟨p8, p9, -⟩ := h7
  refine ⟨fun c10 => ?_, fun c10 => ?_⟩
  · skip
    exact hQ _ _ ⟨hB3, hF4, (by omega), trivial⟩
  · skip
    refine sR_in hB3 (by omega) (by omega) (by omega) (fun z11  h12 => ?_)
    obtain ⟨p13, p14, -⟩ := h12
    refine ⟨fun c15 => ?_, fun c15 => ?_⟩
    · skip
      exact hQ _ _ ⟨hB3, hF4, (by omega), trivial⟩
    · skip
      have q16 : 0 ≤ (M1 0 32) ∧ (M1 0 32) ≤ 16 := BN.at hB3.1 (rfl : zcd wR 0 = 50) rfl
      have s17 : sI (M1 0 32) = (M1 0 32) := sIo (by omega) (by omega)
      refine ⟨fun c18 => ?_, fun c18 => ?_⟩
      · skip
        exact hQ _ _ ⟨hB3, hF4, (by omega), trivial⟩
      · skip
        refine pJ0_dup ?_
        refine ⟨fun c20 => ?_, fun c20 => ?_⟩
        · skip
          have o22 : 0 ≤ (sI (M1 0 32)) ∧ (sI (M1 0 32)) < 16 := by omega
          refine ⟨o22, ?_⟩
          intro M23 e24
          have hB25 : BI M23 := by rw [e24]; exact BI.up hB3 (rfl : zcd wR 20 = 70) rfl (by omega) (by omega) (by decide)
          have hF26 : ∀ j9 k9 : Nat, ¬ (j9 = 0 ∧ k9 = 35 ∨ j9 = 0 ∧ k9 = 32 ∨ j9 = 18 ∨ j9 = 19 ∨ j9 = 20 ∨ j9 = 21) → M23 j9 k9 = M j9 k9 := fun j9 k9 h9 => by rw [e24]; exact (zup_n _ _ (by omega)).trans (hF4 j9 k9 h9)
          have r27 : M23 0 32 = M1 0 32 := by rw [e24]; exact zup_n _ _ (by omega)
          have q28 : 0 ≤ (M23 0 32) ∧ (M23 0 32) ≤ 16 := BN.at hB25.1 (rfl : zcd wR 0 = 50) rfl
          have s29 : sI (M23 0 32) = (M23 0 32) := sIo (by omega) (by omega)
          have o30 : 0 ≤ (sI (M23 0 32)) ∧ (sI (M23 0 32)) < 16 := by omega
          refine ⟨o30, ?_⟩
          intro M31 e32
          have hB33 : BI M31 := by rw [e32]; exact BI.up hB25 (rfl : zcd wR 21 = 71) rfl (by omega) (by omega) (by decide)
          have hF34 : ∀ j9 k9 : Nat, ¬ (j9 = 0 ∧ k9 = 35 ∨ j9 = 0 ∧ k9 = 32 ∨ j9 = 18 ∨ j9 = 19 ∨ j9 = 20 ∨ j9 = 21) → M31 j9 k9 = M j9 k9 := fun j9 k9 h9 => by rw [e32]; exact (zup_n _ _ (by omega)).trans (hF26 j9 k9 h9)
          have r35 : M31 0 32 = M23 0 32 := by rw [e32]; exact zup_n _ _ (by omega)
          have q36 : 0 ≤ (M31 0 32) ∧ (M31 0 32) ≤ 16 := BN.at hB33.1 (rfl : zcd wR 0 = 50) rfl
          have s37 : sI a0 = a0 := sIo (by omega) (by omega)
          have o38 : 0 ≤ (sI a0) ∧ (sI a0) < 4 := by omega
          refine ⟨o38, ?_⟩
          have q39 : 0 ≤ (M31 4 (sI a0).toNat) ∧ (M31 4 (sI a0).toNat) ≤ 24 := BN.at hB33.1 (rfl : zcd wR 4 = 54) rfl
          have q40 : (((sI a0).toNat : Nat) : Int) < M31 0 10 → 1 ≤ (M31 4 (sI a0).toNat) := hB33.2 _ (by omega)
          have q41 : 0 ≤ M31 0 10 ∧ M31 0 10 ≤ 4 := BN.at hB33.1 (rfl : zcd wR 0 = 50) rfl
          have s42 : sI (M31 0 32) = (M31 0 32) := sIo (by omega) (by omega)
          have o43 : 0 ≤ (sI (M31 0 32)) ∧ (sI (M31 0 32)) < 16 := by omega
          refine ⟨o43, ?_⟩
          intro M44 e45
          have hB46 : BI M44 := by rw [e45]; exact BI.up hB33 (rfl : zcd wR 19 = 69) rfl (by omega) (by omega) (by decide)
          have hF47 : ∀ j9 k9 : Nat, ¬ (j9 = 0 ∧ k9 = 35 ∨ j9 = 0 ∧ k9 = 32 ∨ j9 = 18 ∨ j9 = 19 ∨ j9 = 20 ∨ j9 = 21) → M44 j9 k9 = M j9 k9 := fun j9 k9 h9 => by rw [e45]; exact (zup_n _ _ (by omega)).trans (hF34 j9 k9 h9)
          have r48 : M44 0 32 = M31 0 32 := by rw [e45]; exact zup_n _ _ (by omega)
          refine wL1_of (fun x49 M50 => BI M50 ∧ (∀ j9 k9 : Nat, ¬ (j9 = 0 ∧ k9 = 35 ∨ j9 = 0 ∧ k9 = 32 ∨ j9 = 18 ∨ j9 = 19 ∨ j9 = 20 ∨ j9 = 21) → M50 j9 k9 = M j9 k9) ∧ (0 ≤ x49 ∧ x49 ≤ 1000000) ∧ (M50 0 32 = M 0 32) ∧ True) (fun x49 M50 => (1000000 - x49).toNat) ⟨hB46, hF47, (by omega), (by omega), trivial⟩ (fun K x49 M50 h55 k56 => ?_)
          obtain ⟨hB51, hF52, i53, i54, -⟩ := h55
          have s57 : sI a0 = a0 := sIo (by omega) (by omega)
          have o58 : 0 ≤ (sI a0) ∧ (sI a0) < 4 := by omega
          refine ⟨o58, ?_⟩
          have q59 : 0 ≤ (M50 4 (sI a0).toNat) ∧ (M50 4 (sI a0).toNat) ≤ 24 := BN.at hB51.1 (rfl : zcd wR 4 = 54) rfl
          have q60 : (((sI a0).toNat : Nat) : Int) < M50 0 10 → 1 ≤ (M50 4 (sI a0).toNat) := hB51.2 _ (by omega)
          have q61 : 0 ≤ M50 0 10 ∧ M50 0 10 ≤ 4 := BN.at hB51.1 (rfl : zcd wR 0 = 50) rfl
          have s62 : sI x49 = x49 := sIo (by omega) (by omega)
          have s63 : sI (M50 4 (sI a0).toNat) = (M50 4 (sI a0).toNat) := sIo (by omega) (by omega)
          refine ⟨fun c64 => ?_, fun c64 => ?_⟩
          · skip
            have q65 : 0 ≤ (M50 0 32) ∧ (M50 0 32) ≤ 16 := BN.at hB51.1 (rfl : zcd wR 0 = 50) rfl
            intro M66 e67
            have hB68 : BI M66 := by rw [e67]; exact BI.up0 hB51 rfl (by omega) (by omega) (by decide)
            have hF69 : ∀ j9 k9 : Nat, ¬ (j9 = 0 ∧ k9 = 35 ∨ j9 = 0 ∧ k9 = 32 ∨ j9 = 18 ∨ j9 = 19 ∨ j9 = 20 ∨ j9 = 21) → M66 j9 k9 = M j9 k9 := fun j9 k9 h9 => by rw [e67]; exact (zup_n _ _ (by omega)).trans (hF52 j9 k9 h9)
            have r70 : M66 0 32 = ((M50 0 32) + 1) := by rw [e67]; exact zup_s _ _ _ _
            have q71 : 0 ≤ (M66 0 32) ∧ (M66 0 32) ≤ 16 := BN.at hB68.1 (rfl : zcd wR 0 = 50) rfl
            have s72 : sI ((M66 0 32) - 1) = ((M66 0 32) - 1) := sIo (by omega) (by omega)
            exact hQ _ _ ⟨hB68, hF69, (by omega), trivial⟩
          · skip
            have q73 : 0 ≤ (M50 0 32) ∧ (M50 0 32) ≤ 16 := BN.at hB51.1 (rfl : zcd wR 0 = 50) rfl
            have s74 := sI_R ((24 * a0) + x49)
            have s75 := sI_or ((24 * a0) + x49)
            have o76 : 0 ≤ (sI ((24 * a0) + x49)) ∧ (sI ((24 * a0) + x49)) < 96 := by omega
            refine ⟨o76, ?_⟩
            have q77 : (-2147483648) ≤ (M50 3 (sI ((24 * a0) + x49)).toNat) ∧ (M50 3 (sI ((24 * a0) + x49)).toNat) ≤ 2147483647 := BN.at hB51.1 (rfl : zcd wR 3 = 53) rfl
            have s78 : sI ((24 * (M50 0 32)) + x49) = ((24 * (M50 0 32)) + x49) := sIo (by omega) (by omega)
            have o79 : 0 ≤ (sI ((24 * (M50 0 32)) + x49)) ∧ (sI ((24 * (M50 0 32)) + x49)) < 384 := by omega
            refine ⟨o79, ?_⟩
            intro M80 e81
            have hB82 : BI M80 := by rw [e81]; exact BI.up hB51 (rfl : zcd wR 18 = 68) rfl (by omega) (by omega) (by decide)
            have hF83 : ∀ j9 k9 : Nat, ¬ (j9 = 0 ∧ k9 = 35 ∨ j9 = 0 ∧ k9 = 32 ∨ j9 = 18 ∨ j9 = 19 ∨ j9 = 20 ∨ j9 = 21) → M80 j9 k9 = M j9 k9 := fun j9 k9 h9 => by rw [e81]; exact (zup_n _ _ (by omega)).trans (hF52 j9 k9 h9)
            have r84 : M80 0 32 = M50 0 32 := by rw [e81]; exact zup_n _ _ (by omega)
            exact k56 _ _ ⟨hB82, hF83, (by omega), (by omega), trivial⟩ (by omega)
        · skip
          have s86 : sI ((M1 0 32) - 1) = ((M1 0 32) - 1) := sIo (by omega) (by omega)
          have o87 : 0 ≤ (sI ((M1 0 32) - 1)) ∧ (sI ((M1 0 32) - 1)) < 16 := by omega
          refine ⟨o87, ?_⟩
          have q88 : (-2147483648) ≤ (M1 21 (sI ((M1 0 32) - 1)).toNat) ∧ (M1 21 (sI ((M1 0 32) - 1)).toNat) ≤ 2147483647 := BN.at hB3.1 (rfl : zcd wR 21 = 71) rfl
          have s89 : sI a1 = a1 := sIo (by omega) (by omega)
          have s90 : sI (M1 21 (sI ((M1 0 32) - 1)).toNat) = (M1 21 (sI ((M1 0 32) - 1)).toNat) := sIo (by omega) (by omega)
          refine ⟨fun c91 => ?_, fun c91 => ?_⟩
          · skip
            have o93 : 0 ≤ (sI (M1 0 32)) ∧ (sI (M1 0 32)) < 16 := by omega
            refine ⟨o93, ?_⟩
            intro M94 e95
            have hB96 : BI M94 := by rw [e95]; exact BI.up hB3 (rfl : zcd wR 20 = 70) rfl (by omega) (by omega) (by decide)
            have hF97 : ∀ j9 k9 : Nat, ¬ (j9 = 0 ∧ k9 = 35 ∨ j9 = 0 ∧ k9 = 32 ∨ j9 = 18 ∨ j9 = 19 ∨ j9 = 20 ∨ j9 = 21) → M94 j9 k9 = M j9 k9 := fun j9 k9 h9 => by rw [e95]; exact (zup_n _ _ (by omega)).trans (hF4 j9 k9 h9)
            have r98 : M94 0 32 = M1 0 32 := by rw [e95]; exact zup_n _ _ (by omega)
            have q99 : 0 ≤ (M94 0 32) ∧ (M94 0 32) ≤ 16 := BN.at hB96.1 (rfl : zcd wR 0 = 50) rfl
            have s100 : sI (M94 0 32) = (M94 0 32) := sIo (by omega) (by omega)
            have o101 : 0 ≤ (sI (M94 0 32)) ∧ (sI (M94 0 32)) < 16 := by omega
            refine ⟨o101, ?_⟩
            intro M102 e103
            have hB104 : BI M102 := by rw [e103]; exact BI.up hB96 (rfl : zcd wR 21 = 71) rfl (by omega) (by omega) (by decide)
            have hF105 : ∀ j9 k9 : Nat, ¬ (j9 = 0 ∧ k9 = 35 ∨ j9 = 0 ∧ k9 = 32 ∨ j9 = 18 ∨ j9 = 19 ∨ j9 = 20 ∨ j9 = 21) → M102 j9 k9 = M j9 k9 := fun j9 k9 h9 => by rw [e103]; exact (zup_n _ _ (by omega)).trans (hF97 j9 k9 h9)
            have r106 : M102 0 32 = M94 0 32 := by rw [e103]; exact zup_n _ _ (by omega)
            have q107 : 0 ≤ (M102 0 32) ∧ (M102 0 32) ≤ 16 := BN.at hB104.1 (rfl : zcd wR 0 = 50) rfl
            have s108 : sI a0 = a0 := sIo (by omega) (by omega)
            have o109 : 0 ≤ (sI a0) ∧ (sI a0) < 4 := by omega
            refine ⟨o109, ?_⟩
            have q110 : 0 ≤ (M102 4 (sI a0).toNat) ∧ (M102 4 (sI a0).toNat) ≤ 24 := BN.at hB104.1 (rfl : zcd wR 4 = 54) rfl
            have q111 : (((sI a0).toNat : Nat) : Int) < M102 0 10 → 1 ≤ (M102 4 (sI a0).toNat) := hB104.2 _ (by omega)
            have q112 : 0 ≤ M102 0 10 ∧ M102 0 10 ≤ 4 := BN.at hB104.1 (rfl : zcd wR 0 = 50) rfl
            have s113 : sI (M102 0 32) = (M102 0 32) := sIo (by omega) (by omega)
            have o114 : 0 ≤ (sI (M102 0 32)) ∧ (sI (M102 0 32)) < 16 := by omega
            refine ⟨o114, ?_⟩
            intro M115 e116
            have hB117 : BI M115 := by rw [e116]; exact BI.up hB104 (rfl : zcd wR 19 = 69) rfl (by omega) (by omega) (by decide)
            have hF118 : ∀ j9 k9 : Nat, ¬ (j9 = 0 ∧ k9 = 35 ∨ j9 = 0 ∧ k9 = 32 ∨ j9 = 18 ∨ j9 = 19 ∨ j9 = 20 ∨ j9 = 21) → M115 j9 k9 = M j9 k9 := fun j9 k9 h9 => by rw [e116]; exact (zup_n _ _ (by omega)).trans (hF105 j9 k9 h9)
            have r119 : M115 0 32 = M102 0 32 := by rw [e116]; exact zup_n _ _ (by omega)
            refine wL1_of (fun x120 M121 => BI M121 ∧ (∀ j9 k9 : Nat, ¬ (j9 = 0 ∧ k9 = 35 ∨ j9 = 0 ∧ k9 = 32 ∨ j9 = 18 ∨ j9 = 19 ∨ j9 = 20 ∨ j9 = 21) → M121 j9 k9 = M j9 k9) ∧ (0 ≤ x120 ∧ x120 ≤ 1000000) ∧ (M121 0 32 = M 0 32) ∧ True) (fun x120 M121 => (1000000 - x120).toNat) ⟨hB117, hF118, (by omega), (by omega), trivial⟩ (fun K x120 M121 h126 k127 => ?_)
            obtain ⟨hB122, hF123, i124, i125, -⟩ := h126
            have s128 : sI a0 = a0 := sIo (by omega) (by omega)
            have o129 : 0 ≤ (sI a0) ∧ (sI a0) < 4 := by omega
            refine ⟨o129, ?_⟩
            have q130 : 0 ≤ (M121 4 (sI a0).toNat) ∧ (M121 4 (sI a0).toNat) ≤ 24 := BN.at hB122.1 (rfl : zcd wR 4 = 54) rfl
            have q131 : (((sI a0).toNat : Nat) : Int) < M121 0 10 → 1 ≤ (M121 4 (sI a0).toNat) := hB122.2 _ (by omega)
            have q132 : 0 ≤ M121 0 10 ∧ M121 0 10 ≤ 4 := BN.at hB122.1 (rfl : zcd wR 0 = 50) rfl
            have s133 : sI x120 = x120 := sIo (by omega) (by omega)
            have s134 : sI (M121 4 (sI a0).toNat) = (M121 4 (sI a0).toNat) := sIo (by omega) (by omega)
            refine ⟨fun c135 => ?_, fun c135 => ?_⟩
            · skip
              have q136 : 0 ≤ (M121 0 32) ∧ (M121 0 32) ≤ 16 := BN.at hB122.1 (rfl : zcd wR 0 = 50) rfl
              intro M137 e138
              have hB139 : BI M137 := by rw [e138]; exact BI.up0 hB122 rfl (by omega) (by omega) (by decide)
              have hF140 : ∀ j9 k9 : Nat, ¬ (j9 = 0 ∧ k9 = 35 ∨ j9 = 0 ∧ k9 = 32 ∨ j9 = 18 ∨ j9 = 19 ∨ j9 = 20 ∨ j9 = 21) → M137 j9 k9 = M j9 k9 := fun j9 k9 h9 => by rw [e138]; exact (zup_n _ _ (by omega)).trans (hF123 j9 k9 h9)
              have r141 : M137 0 32 = ((M121 0 32) + 1) := by rw [e138]; exact zup_s _ _ _ _
              have q142 : 0 ≤ (M137 0 32) ∧ (M137 0 32) ≤ 16 := BN.at hB139.1 (rfl : zcd wR 0 = 50) rfl
              have s143 : sI ((M137 0 32) - 1) = ((M137 0 32) - 1) := sIo (by omega) (by omega)
              exact hQ _ _ ⟨hB139, hF140, (by omega), trivial⟩
            · skip
              have q144 : 0 ≤ (M121 0 32) ∧ (M121 0 32) ≤ 16 := BN.at hB122.1 (rfl : zcd wR 0 = 50) rfl
              have s145 := sI_R ((24 * a0) + x120)
              have s146 := sI_or ((24 * a0) + x120)
              have o147 : 0 ≤ (sI ((24 * a0) + x120)) ∧ (sI ((24 * a0) + x120)) < 96 := by omega
              refine ⟨o147, ?_⟩
              have q148 : (-2147483648) ≤ (M121 3 (sI ((24 * a0) + x120)).toNat) ∧ (M121 3 (sI ((24 * a0) + x120)).toNat) ≤ 2147483647 := BN.at hB122.1 (rfl : zcd wR 3 = 53) rfl
              have s149 : sI ((24 * (M121 0 32)) + x120) = ((24 * (M121 0 32)) + x120) := sIo (by omega) (by omega)
              have o150 : 0 ≤ (sI ((24 * (M121 0 32)) + x120)) ∧ (sI ((24 * (M121 0 32)) + x120)) < 384 := by omega
              refine ⟨o150, ?_⟩
              intro M151 e152
              have hB153 : BI M151 := by rw [e152]; exact BI.up hB122 (rfl : zcd wR 18 = 68) rfl (by omega) (by omega) (by decide)
              have hF154 : ∀ j9 k9 : Nat, ¬ (j9 = 0 ∧ k9 = 35 ∨ j9 = 0 ∧ k9 = 32 ∨ j9 = 18 ∨ j9 = 19 ∨ j9 = 20 ∨ j9 = 21) → M151 j9 k9 = M j9 k9 := fun j9 k9 h9 => by rw [e152]; exact (zup_n _ _ (by omega)).trans (hF123 j9 k9 h9)
              have r155 : M151 0 32 = M121 0 32 := by rw [e152]; exact zup_n _ _ (by omega)
              exact k127 _ _ ⟨hB153, hF154, (by omega), (by omega), trivial⟩ (by omega)
          · skip
            exact hQ _ _ ⟨hB3, hF4, (by omega), trivial⟩
set_option maxHeartbeats 4000000 in
set_option maxRecDepth 100000 in
theorem sR_known {M : zM} {a0 : Int} {a1 : Int} (hB : BI M) (v0 : (-2147483648) ≤ a0 ∧ a0 ≤ 2147483647) (v1 : (-2147483648) ≤ a1 ∧ a1 ≤ 2147483647) {Q : Int → zM → Prop} (hQ : ∀ (z : Int) (M1 : zM), BI M1 ∧ (∀ j9 k9 : Nat, ¬ (j9 = 0 ∧ k9 = 35) → M1 j9 k9 = M j9 k9) ∧ ((-2147483648) ≤ z ∧ z ≤ 2147483647) ∧ True → Q z M1) : wR_known a0 a1 M Q := by
  unfold wR_known
  have hF0 : ∀ j9 k9 : Nat, ¬ (j9 = 0 ∧ k9 = 35) → M j9 k9 = M j9 k9 := fun j9 k9 _ => rfl
  intro M1 e2
  have hB3 : BI M1 := by rw [e2]; exact BI.up0 hB rfl (by omega) (by omega) (by decide)
  have hF4 : ∀ j9 k9 : Nat, ¬ (j9 = 0 ∧ k9 = 35) → M1 j9 k9 = M j9 k9 := fun j9 k9 h9 => by rw [e2]; exact (zup_n _ _ (by omega)).trans (hF0 j9 k9 h9)
  have q5 : 0 ≤ (M1 0 32) ∧ (M1 0 32) ≤ 16 := BN.at hB3.1 (rfl : zcd wR 0 = 50) rfl
  refine pL1_of (fun x6 => ((-1) ≤ x6 ∧ x6 ≤ 15) ∧ True) (fun x6 => (x6 + 1).toNat) ⟨(by omega), trivial⟩ (fun K x6 h8 k9 => ?_)
  obtain ⟨i7, -⟩ := h8
  have s10 : sI x6 = x6 := sIo (by omega) (by omega)
  refine ⟨fun c11 => ?_, fun c11 => ?_⟩
  · skip
    exact hQ _ _ ⟨hB3, hF4, (by omega), trivial⟩
  · skip
    have o12 : 0 ≤ (sI x6) ∧ (sI x6) < 16 := by omega
    refine ⟨o12, ?_⟩
    have q13 : (-2147483648) ≤ (M1 20 (sI x6).toNat) ∧ (M1 20 (sI x6).toNat) ≤ 2147483647 := BN.at hB3.1 (rfl : zcd wR 20 = 70) rfl
    have s14 : sI (M1 20 (sI x6).toNat) = (M1 20 (sI x6).toNat) := sIo (by omega) (by omega)
    have s15 : sI a0 = a0 := sIo (by omega) (by omega)
    refine ⟨fun c16 => ?_, fun c16 => ?_⟩
    · skip
      exact k9 _ ⟨(by omega), trivial⟩ (by omega)
    · skip
      have o17 : 0 ≤ (sI x6) ∧ (sI x6) < 16 := by omega
      refine ⟨o17, ?_⟩
      have q18 : (-2147483648) ≤ (M1 21 (sI x6).toNat) ∧ (M1 21 (sI x6).toNat) ≤ 2147483647 := BN.at hB3.1 (rfl : zcd wR 21 = 71) rfl
      have s19 : sI (M1 21 (sI x6).toNat) = (M1 21 (sI x6).toNat) := sIo (by omega) (by omega)
      have s20 : sI a1 = a1 := sIo (by omega) (by omega)
      refine ⟨fun c21 => ?_, fun c21 => ?_⟩
      · skip
        exact k9 _ ⟨(by omega), trivial⟩ (by omega)
      · skip
        exact hQ _ _ ⟨hB3, hF4, (by omega), trivial⟩
set_option maxHeartbeats 4000000 in
set_option maxRecDepth 100000 in
theorem sR_fetch {M : zM} {a0 : Int} (hB : BI M) (v0 : (-2147483648) ≤ a0 ∧ a0 ≤ 2147483647) {Q : Int → zM → Prop} (hQ : ∀ (z : Int) (M1 : zM), BI M1 ∧ (∀ j9 k9 : Nat, ¬ (j9 = 0 ∧ k9 = 35 ∨ j9 = 0 ∧ k9 = 3 ∨ j9 = 2) → M1 j9 k9 = M j9 k9) ∧ ((-2147483648) ≤ z ∧ z ≤ 2147483647) ∧ True → Q z M1) : wR_fetch a0 M Q := by
  unfold wR_fetch
  have hF0 : ∀ j9 k9 : Nat, ¬ (j9 = 0 ∧ k9 = 35 ∨ j9 = 0 ∧ k9 = 3 ∨ j9 = 2) → M j9 k9 = M j9 k9 := fun j9 k9 _ => rfl
  intro M1 e2
  have hB3 : BI M1 := by rw [e2]; exact BI.up0 hB rfl (by omega) (by omega) (by decide)
  have hF4 : ∀ j9 k9 : Nat, ¬ (j9 = 0 ∧ k9 = 35 ∨ j9 = 0 ∧ k9 = 3 ∨ j9 = 2) → M1 j9 k9 = M j9 k9 := fun j9 k9 h9 => by rw [e2]; exact (zup_n _ _ (by omega)).trans (hF0 j9 k9 h9)
  have r5 : M1 0 3 = M 0 3 := by rw [e2]; exact zup_n _ _ (by omega)
  have q6 : 0 ≤ (M1 0 32) ∧ (M1 0 32) ≤ 16 := BN.at hB3.1 (rfl : zcd wR 0 = 50) rfl
  refine sR_in hB3 (by omega) (by omega) (by omega) (fun z7  h8 => ?_)
  obtain ⟨p9, p10, -⟩ := h8
  refine ⟨fun c11 => ?_, fun c11 => ?_⟩
  · skip
    have s12 : sI a0 = a0 := sIo (by omega) (by omega)
    have o13 : 0 ≤ (sI a0) ∧ (sI a0) < 16 := by omega
    refine ⟨o13, ?_⟩
    have q14 : 0 ≤ (M1 19 (sI a0).toNat) ∧ (M1 19 (sI a0).toNat) ≤ 24 := BN.at hB3.1 (rfl : zcd wR 19 = 69) rfl
    intro M15 e16
    have hB17 : BI M15 := by rw [e16]; exact BI.up0 hB3 rfl (by omega) (by omega) (by decide)
    have hF18 : ∀ j9 k9 : Nat, ¬ (j9 = 0 ∧ k9 = 35 ∨ j9 = 0 ∧ k9 = 3 ∨ j9 = 2) → M15 j9 k9 = M j9 k9 := fun j9 k9 h9 => by rw [e16]; exact (zup_n _ _ (by omega)).trans (hF4 j9 k9 h9)
    have r19 : M15 0 3 = (M1 19 (sI a0).toNat) := by rw [e16]; exact zup_s _ _ _ _
    refine wL1_of (fun x20 M21 => BI M21 ∧ (∀ j9 k9 : Nat, ¬ (j9 = 0 ∧ k9 = 35 ∨ j9 = 0 ∧ k9 = 3 ∨ j9 = 2) → M21 j9 k9 = M j9 k9) ∧ (0 ≤ x20 ∧ x20 ≤ 1000000) ∧ True) (fun x20 M21 => (1000000 - x20).toNat) ⟨hB17, hF18, (by omega), trivial⟩ (fun K x20 M21 h25 k26 => ?_)
    obtain ⟨hB22, hF23, i24, -⟩ := h25
    have q27 : 0 ≤ (M21 0 3) ∧ (M21 0 3) ≤ 24 := BN.at hB22.1 (rfl : zcd wR 0 = 50) rfl
    have s28 : sI x20 = x20 := sIo (by omega) (by omega)
    have s29 : sI (M21 0 3) = (M21 0 3) := sIo (by omega) (by omega)
    refine ⟨fun c30 => ?_, fun c30 => ?_⟩
    · skip
      exact hQ _ _ ⟨hB22, hF23, (by omega), trivial⟩
    · skip
      have s32 := sI_R ((24 * a0) + x20)
      have s33 := sI_or ((24 * a0) + x20)
      have o34 : 0 ≤ (sI ((24 * a0) + x20)) ∧ (sI ((24 * a0) + x20)) < 384 := by omega
      refine ⟨o34, ?_⟩
      have q35 : (-2147483648) ≤ (M21 18 (sI ((24 * a0) + x20)).toNat) ∧ (M21 18 (sI ((24 * a0) + x20)).toNat) ≤ 2147483647 := BN.at hB22.1 (rfl : zcd wR 18 = 68) rfl
      have o36 : 0 ≤ (sI x20) ∧ (sI x20) < 24 := by omega
      refine ⟨o36, ?_⟩
      intro M37 e38
      have hB39 : BI M37 := by rw [e38]; exact BI.up hB22 (rfl : zcd wR 2 = 52) rfl (by omega) (by omega) (by decide)
      have hF40 : ∀ j9 k9 : Nat, ¬ (j9 = 0 ∧ k9 = 35 ∨ j9 = 0 ∧ k9 = 3 ∨ j9 = 2) → M37 j9 k9 = M j9 k9 := fun j9 k9 h9 => by rw [e38]; exact (zup_n _ _ (by omega)).trans (hF23 j9 k9 h9)
      have r41 : M37 0 3 = M21 0 3 := by rw [e38]; exact zup_n _ _ (by omega)
      exact k26 _ _ ⟨hB39, hF40, (by omega), trivial⟩ (by omega)
  · skip
    exact hQ _ _ ⟨hB3, hF4, (by omega), trivial⟩
set_option maxHeartbeats 4000000 in
set_option maxRecDepth 100000 in
theorem sR_editsBy {M : zM} {a0 : Int} {a1 : Int} {a2 : Int} (hB : BI M) (v0 : 0 ≤ a0 ∧ a0 ≤ 15) (v1 : 0 ≤ a1 ∧ a1 ≤ 15) (v2 : 0 ≤ a2 ∧ a2 ≤ 23) {Q : Int → zM → Prop} (hQ : ∀ (z : Int) (M1 : zM), BI M1 ∧ (∀ j9 k9 : Nat, ¬ (j9 = 33) → M1 j9 k9 = M j9 k9) ∧ ((-2147483648) ≤ z ∧ z ≤ 2147483647) ∧ True → Q z M1) : wR_editsBy a0 a1 a2 M Q := by
  unfold wR_editsBy
  have hF0 : ∀ j9 k9 : Nat, ¬ (j9 = 33) → M j9 k9 = M j9 k9 := fun j9 k9 _ => rfl
  have s1 : sI a0 = a0 := sIo (by omega) (by omega)
  have o2 : 0 ≤ (sI a0) ∧ (sI a0) < 16 := by omega
  refine ⟨o2, ?_⟩
  have q3 : 0 ≤ (M 19 (sI a0).toNat) ∧ (M 19 (sI a0).toNat) ≤ 24 := BN.at hB.1 (rfl : zcd wR 19 = 69) rfl
  have s4 : sI a1 = a1 := sIo (by omega) (by omega)
  have o5 : 0 ≤ (sI a1) ∧ (sI a1) < 16 := by omega
  refine ⟨o5, ?_⟩
  have q6 : 0 ≤ (M 19 (sI a1).toNat) ∧ (M 19 (sI a1).toNat) ≤ 24 := BN.at hB.1 (rfl : zcd wR 19 = 69) rfl
  refine wL1_of (fun x7 M8 => BI M8 ∧ (∀ j9 k9 : Nat, ¬ (j9 = 33) → M8 j9 k9 = M j9 k9) ∧ (0 ≤ x7 ∧ x7 ≤ 1000000) ∧ True) (fun x7 M8 => (1000000 - x7).toNat) ⟨hB, hF0, (by omega), trivial⟩ (fun K x7 M8 h12 k13 => ?_)
  obtain ⟨hB9, hF10, i11, -⟩ := h12
  have s14 : sI x7 = x7 := sIo (by omega) (by omega)
  have s15 : sI (M 19 (sI a0).toNat) = (M 19 (sI a0).toNat) := sIo (by omega) (by omega)
  refine ⟨fun c16 => ?_, fun c16 => ?_⟩
  · skip
    have s17 : sI ((25 * (M 19 (sI a0).toNat)) + (M 19 (sI a1).toNat)) = ((25 * (M 19 (sI a0).toNat)) + (M 19 (sI a1).toNat)) := sIo (by omega) (by omega)
    have o18 : 0 ≤ (sI ((25 * (M 19 (sI a0).toNat)) + (M 19 (sI a1).toNat))) ∧ (sI ((25 * (M 19 (sI a0).toNat)) + (M 19 (sI a1).toNat))) < 625 := by omega
    refine ⟨o18, ?_⟩
    have q19 : (-2147483648) ≤ (M8 33 (sI ((25 * (M 19 (sI a0).toNat)) + (M 19 (sI a1).toNat))).toNat) ∧ (M8 33 (sI ((25 * (M 19 (sI a0).toNat)) + (M 19 (sI a1).toNat))).toNat) ≤ 2147483647 := BN.at hB9.1 (rfl : zcd wR 33 = 83) rfl
    have s20 : sI (M8 33 (sI ((25 * (M 19 (sI a0).toNat)) + (M 19 (sI a1).toNat))).toNat) = (M8 33 (sI ((25 * (M 19 (sI a0).toNat)) + (M 19 (sI a1).toNat))).toNat) := sIo (by omega) (by omega)
    exact hQ _ _ ⟨hB9, hF10, (by omega), trivial⟩
  · skip
    refine wL1_of (fun x21 M22 => BI M22 ∧ (∀ j9 k9 : Nat, ¬ (j9 = 33) → M22 j9 k9 = M j9 k9) ∧ (0 ≤ x21 ∧ x21 ≤ 1000000) ∧ True) (fun x21 M22 => (1000000 - x21).toNat) ⟨hB9, hF10, (by omega), trivial⟩ (fun K x21 M22 h26 k27 => ?_)
    obtain ⟨hB23, hF24, i25, -⟩ := h26
    have s28 : sI x21 = x21 := sIo (by omega) (by omega)
    have s29 : sI (M 19 (sI a1).toNat) = (M 19 (sI a1).toNat) := sIo (by omega) (by omega)
    refine ⟨fun c30 => ?_, fun c30 => ?_⟩
    · skip
      exact k13 _ _ ⟨hB23, hF24, (by omega), trivial⟩ (by omega)
    · skip
      have s31 : sI x7 = x7 := sIo (by omega) (by omega)
      refine pJ0_dup ?_
      refine ⟨fun c32 => ?_, fun c32 => ?_⟩
      · skip
        have s33 : sI ((25 * x7) + x21) = ((25 * x7) + x21) := sIo (by omega) (by omega)
        have o34 : 0 ≤ (sI ((25 * x7) + x21)) ∧ (sI ((25 * x7) + x21)) < 625 := by omega
        refine ⟨o34, ?_⟩
        intro M35 e36
        have hB37 : BI M35 := by rw [e36]; exact BI.up hB23 (rfl : zcd wR 33 = 83) rfl (by omega) (by omega) (by decide)
        have hF38 : ∀ j9 k9 : Nat, ¬ (j9 = 33) → M35 j9 k9 = M j9 k9 := fun j9 k9 h9 => by rw [e36]; exact (zup_n _ _ (by omega)).trans (hF24 j9 k9 h9)
        exact k27 _ _ ⟨hB37, hF38, (by omega), trivial⟩ (by omega)
      · skip
        refine ⟨fun c39 => ?_, fun c39 => ?_⟩
        · skip
          have s40 : sI (((24 * a0) + x7) - 1) = (((24 * a0) + x7) - 1) := sIo (by omega) (by omega)
          have o41 : 0 ≤ (sI (((24 * a0) + x7) - 1)) ∧ (sI (((24 * a0) + x7) - 1)) < 384 := by omega
          refine ⟨o41, ?_⟩
          have q42 : (-2147483648) ≤ (M22 18 (sI (((24 * a0) + x7) - 1)).toNat) ∧ (M22 18 (sI (((24 * a0) + x7) - 1)).toNat) ≤ 2147483647 := BN.at hB23.1 (rfl : zcd wR 18 = 68) rfl
          have s43 : sI ((x21 - 1) + a2) = ((x21 - 1) + a2) := sIo (by omega) (by omega)
          have o44 : (sI (M 19 (sI a1).toNat)) ≠ 0 := by omega
          refine ⟨o44, ?_⟩
          have q45 := tmodN (sI ((x21 - 1) + a2)) (sI (M 19 (sI a1).toNat)) (by omega) (by omega)
          have s46 : sI ((24 * a1) + ((sI ((x21 - 1) + a2)).tmod (sI (M 19 (sI a1).toNat)))) = ((24 * a1) + ((sI ((x21 - 1) + a2)).tmod (sI (M 19 (sI a1).toNat)))) := sIo (by omega) (by omega)
          have o47 : 0 ≤ (sI ((24 * a1) + ((sI ((x21 - 1) + a2)).tmod (sI (M 19 (sI a1).toNat))))) ∧ (sI ((24 * a1) + ((sI ((x21 - 1) + a2)).tmod (sI (M 19 (sI a1).toNat))))) < 384 := by omega
          refine ⟨o47, ?_⟩
          have q48 : (-2147483648) ≤ (M22 18 (sI ((24 * a1) + ((sI ((x21 - 1) + a2)).tmod (sI (M 19 (sI a1).toNat))))).toNat) ∧ (M22 18 (sI ((24 * a1) + ((sI ((x21 - 1) + a2)).tmod (sI (M 19 (sI a1).toNat))))).toNat) ≤ 2147483647 := BN.at hB23.1 (rfl : zcd wR 18 = 68) rfl
          have s49 : sI (M22 18 (sI (((24 * a0) + x7) - 1)).toNat) = (M22 18 (sI (((24 * a0) + x7) - 1)).toNat) := sIo (by omega) (by omega)
          have s50 : sI (M22 18 (sI ((24 * a1) + ((sI ((x21 - 1) + a2)).tmod (sI (M 19 (sI a1).toNat))))).toNat) = (M22 18 (sI ((24 * a1) + ((sI ((x21 - 1) + a2)).tmod (sI (M 19 (sI a1).toNat))))).toNat) := sIo (by omega) (by omega)
          refine pJ1_dup ?_
          refine ⟨fun c51 => ?_, fun c51 => ?_⟩
          · skip
            have s52 : sI 0 = 0 := sIo (by omega) (by omega)
            have s53 : sI (((25 * (x7 - 1)) + x21) - 1) = (((25 * (x7 - 1)) + x21) - 1) := sIo (by omega) (by omega)
            have o54 : 0 ≤ (sI (((25 * (x7 - 1)) + x21) - 1)) ∧ (sI (((25 * (x7 - 1)) + x21) - 1)) < 625 := by omega
            refine ⟨o54, ?_⟩
            have q55 : (-2147483648) ≤ (M22 33 (sI (((25 * (x7 - 1)) + x21) - 1)).toNat) ∧ (M22 33 (sI (((25 * (x7 - 1)) + x21) - 1)).toNat) ≤ 2147483647 := BN.at hB23.1 (rfl : zcd wR 33 = 83) rfl
            refine pJ1_dup ?_
            refine ⟨fun c56 => ?_, fun c56 => ?_⟩
            · skip
              have s57 : sI 1 = 1 := sIo (by omega) (by omega)
              intro t58 e59
              have s60 : sI ((25 * (x7 - 1)) + x21) = ((25 * (x7 - 1)) + x21) := sIo (by omega) (by omega)
              have o61 : 0 ≤ (sI ((25 * (x7 - 1)) + x21)) ∧ (sI ((25 * (x7 - 1)) + x21)) < 625 := by omega
              refine ⟨o61, ?_⟩
              have q62 : (-2147483648) ≤ (M22 33 (sI ((25 * (x7 - 1)) + x21)).toNat) ∧ (M22 33 (sI ((25 * (x7 - 1)) + x21)).toNat) ≤ 2147483647 := BN.at hB23.1 (rfl : zcd wR 33 = 83) rfl
              have s63 := sI_R (1 + (M22 33 (sI ((25 * (x7 - 1)) + x21)).toNat))
              have s64 := sI_or (1 + (M22 33 (sI ((25 * (x7 - 1)) + x21)).toNat))
              have s65 := sI_R t58
              have s66 := sI_or t58
              intro t67 e68
              have s69 : sI (((25 * x7) + x21) - 1) = (((25 * x7) + x21) - 1) := sIo (by omega) (by omega)
              have o70 : 0 ≤ (sI (((25 * x7) + x21) - 1)) ∧ (sI (((25 * x7) + x21) - 1)) < 625 := by omega
              refine ⟨o70, ?_⟩
              have q71 : (-2147483648) ≤ (M22 33 (sI (((25 * x7) + x21) - 1)).toNat) ∧ (M22 33 (sI (((25 * x7) + x21) - 1)).toNat) ≤ 2147483647 := BN.at hB23.1 (rfl : zcd wR 33 = 83) rfl
              have s72 := sI_R (1 + (M22 33 (sI (((25 * x7) + x21) - 1)).toNat))
              have s73 := sI_or (1 + (M22 33 (sI (((25 * x7) + x21) - 1)).toNat))
              have s74 : sI ((25 * x7) + x21) = ((25 * x7) + x21) := sIo (by omega) (by omega)
              have o75 : 0 ≤ (sI ((25 * x7) + x21)) ∧ (sI ((25 * x7) + x21)) < 625 := by omega
              refine ⟨o75, ?_⟩
              intro M76 e77
              have hB78 : BI M76 := by rw [e77]; exact BI.up hB23 (rfl : zcd wR 33 = 83) rfl (by omega) (by omega) (by decide)
              have hF79 : ∀ j9 k9 : Nat, ¬ (j9 = 33) → M76 j9 k9 = M j9 k9 := fun j9 k9 h9 => by rw [e77]; exact (zup_n _ _ (by omega)).trans (hF24 j9 k9 h9)
              exact k27 _ _ ⟨hB78, hF79, (by omega), trivial⟩ (by omega)
            · skip
              intro t80 e81
              have s82 : sI ((25 * (x7 - 1)) + x21) = ((25 * (x7 - 1)) + x21) := sIo (by omega) (by omega)
              have o83 : 0 ≤ (sI ((25 * (x7 - 1)) + x21)) ∧ (sI ((25 * (x7 - 1)) + x21)) < 625 := by omega
              refine ⟨o83, ?_⟩
              have q84 : (-2147483648) ≤ (M22 33 (sI ((25 * (x7 - 1)) + x21)).toNat) ∧ (M22 33 (sI ((25 * (x7 - 1)) + x21)).toNat) ≤ 2147483647 := BN.at hB23.1 (rfl : zcd wR 33 = 83) rfl
              have s85 := sI_R (1 + (M22 33 (sI ((25 * (x7 - 1)) + x21)).toNat))
              have s86 := sI_or (1 + (M22 33 (sI ((25 * (x7 - 1)) + x21)).toNat))
              have s87 : sI t80 = t80 := sIo (by omega) (by omega)
              intro t88 e89
              have s90 : sI (((25 * x7) + x21) - 1) = (((25 * x7) + x21) - 1) := sIo (by omega) (by omega)
              have o91 : 0 ≤ (sI (((25 * x7) + x21) - 1)) ∧ (sI (((25 * x7) + x21) - 1)) < 625 := by omega
              refine ⟨o91, ?_⟩
              have q92 : (-2147483648) ≤ (M22 33 (sI (((25 * x7) + x21) - 1)).toNat) ∧ (M22 33 (sI (((25 * x7) + x21) - 1)).toNat) ≤ 2147483647 := BN.at hB23.1 (rfl : zcd wR 33 = 83) rfl
              have s93 := sI_R (1 + (M22 33 (sI (((25 * x7) + x21) - 1)).toNat))
              have s94 := sI_or (1 + (M22 33 (sI (((25 * x7) + x21) - 1)).toNat))
              have s95 : sI ((25 * x7) + x21) = ((25 * x7) + x21) := sIo (by omega) (by omega)
              have o96 : 0 ≤ (sI ((25 * x7) + x21)) ∧ (sI ((25 * x7) + x21)) < 625 := by omega
              refine ⟨o96, ?_⟩
              intro M97 e98
              have hB99 : BI M97 := by rw [e98]; exact BI.up hB23 (rfl : zcd wR 33 = 83) rfl (by omega) (by omega) (by decide)
              have hF100 : ∀ j9 k9 : Nat, ¬ (j9 = 33) → M97 j9 k9 = M j9 k9 := fun j9 k9 h9 => by rw [e98]; exact (zup_n _ _ (by omega)).trans (hF24 j9 k9 h9)
              exact k27 _ _ ⟨hB99, hF100, (by omega), trivial⟩ (by omega)
          · skip
            have s101 : sI 1 = 1 := sIo (by omega) (by omega)
            have s102 : sI (((25 * (x7 - 1)) + x21) - 1) = (((25 * (x7 - 1)) + x21) - 1) := sIo (by omega) (by omega)
            have o103 : 0 ≤ (sI (((25 * (x7 - 1)) + x21) - 1)) ∧ (sI (((25 * (x7 - 1)) + x21) - 1)) < 625 := by omega
            refine ⟨o103, ?_⟩
            have q104 : (-2147483648) ≤ (M22 33 (sI (((25 * (x7 - 1)) + x21) - 1)).toNat) ∧ (M22 33 (sI (((25 * (x7 - 1)) + x21) - 1)).toNat) ≤ 2147483647 := BN.at hB23.1 (rfl : zcd wR 33 = 83) rfl
            refine pJ1_dup ?_
            refine ⟨fun c105 => ?_, fun c105 => ?_⟩
            · skip
              intro t106 e107
              have s108 : sI ((25 * (x7 - 1)) + x21) = ((25 * (x7 - 1)) + x21) := sIo (by omega) (by omega)
              have o109 : 0 ≤ (sI ((25 * (x7 - 1)) + x21)) ∧ (sI ((25 * (x7 - 1)) + x21)) < 625 := by omega
              refine ⟨o109, ?_⟩
              have q110 : (-2147483648) ≤ (M22 33 (sI ((25 * (x7 - 1)) + x21)).toNat) ∧ (M22 33 (sI ((25 * (x7 - 1)) + x21)).toNat) ≤ 2147483647 := BN.at hB23.1 (rfl : zcd wR 33 = 83) rfl
              have s111 := sI_R (1 + (M22 33 (sI ((25 * (x7 - 1)) + x21)).toNat))
              have s112 := sI_or (1 + (M22 33 (sI ((25 * (x7 - 1)) + x21)).toNat))
              have s113 := sI_R t106
              have s114 := sI_or t106
              intro t115 e116
              have s117 : sI (((25 * x7) + x21) - 1) = (((25 * x7) + x21) - 1) := sIo (by omega) (by omega)
              have o118 : 0 ≤ (sI (((25 * x7) + x21) - 1)) ∧ (sI (((25 * x7) + x21) - 1)) < 625 := by omega
              refine ⟨o118, ?_⟩
              have q119 : (-2147483648) ≤ (M22 33 (sI (((25 * x7) + x21) - 1)).toNat) ∧ (M22 33 (sI (((25 * x7) + x21) - 1)).toNat) ≤ 2147483647 := BN.at hB23.1 (rfl : zcd wR 33 = 83) rfl
              have s120 := sI_R (1 + (M22 33 (sI (((25 * x7) + x21) - 1)).toNat))
              have s121 := sI_or (1 + (M22 33 (sI (((25 * x7) + x21) - 1)).toNat))
              have s122 : sI ((25 * x7) + x21) = ((25 * x7) + x21) := sIo (by omega) (by omega)
              have o123 : 0 ≤ (sI ((25 * x7) + x21)) ∧ (sI ((25 * x7) + x21)) < 625 := by omega
              refine ⟨o123, ?_⟩
              intro M124 e125
              have hB126 : BI M124 := by rw [e125]; exact BI.up hB23 (rfl : zcd wR 33 = 83) rfl (by omega) (by omega) (by decide)
              have hF127 : ∀ j9 k9 : Nat, ¬ (j9 = 33) → M124 j9 k9 = M j9 k9 := fun j9 k9 h9 => by rw [e125]; exact (zup_n _ _ (by omega)).trans (hF24 j9 k9 h9)
              exact k27 _ _ ⟨hB126, hF127, (by omega), trivial⟩ (by omega)
            · skip
              have s128 : sI 0 = 0 := sIo (by omega) (by omega)
              intro t129 e130
              have s131 : sI ((25 * (x7 - 1)) + x21) = ((25 * (x7 - 1)) + x21) := sIo (by omega) (by omega)
              have o132 : 0 ≤ (sI ((25 * (x7 - 1)) + x21)) ∧ (sI ((25 * (x7 - 1)) + x21)) < 625 := by omega
              refine ⟨o132, ?_⟩
              have q133 : (-2147483648) ≤ (M22 33 (sI ((25 * (x7 - 1)) + x21)).toNat) ∧ (M22 33 (sI ((25 * (x7 - 1)) + x21)).toNat) ≤ 2147483647 := BN.at hB23.1 (rfl : zcd wR 33 = 83) rfl
              have s134 := sI_R (1 + (M22 33 (sI ((25 * (x7 - 1)) + x21)).toNat))
              have s135 := sI_or (1 + (M22 33 (sI ((25 * (x7 - 1)) + x21)).toNat))
              have s136 : sI t129 = t129 := sIo (by omega) (by omega)
              intro t137 e138
              have s139 : sI (((25 * x7) + x21) - 1) = (((25 * x7) + x21) - 1) := sIo (by omega) (by omega)
              have o140 : 0 ≤ (sI (((25 * x7) + x21) - 1)) ∧ (sI (((25 * x7) + x21) - 1)) < 625 := by omega
              refine ⟨o140, ?_⟩
              have q141 : (-2147483648) ≤ (M22 33 (sI (((25 * x7) + x21) - 1)).toNat) ∧ (M22 33 (sI (((25 * x7) + x21) - 1)).toNat) ≤ 2147483647 := BN.at hB23.1 (rfl : zcd wR 33 = 83) rfl
              have s142 := sI_R (1 + (M22 33 (sI (((25 * x7) + x21) - 1)).toNat))
              have s143 := sI_or (1 + (M22 33 (sI (((25 * x7) + x21) - 1)).toNat))
              have s144 : sI ((25 * x7) + x21) = ((25 * x7) + x21) := sIo (by omega) (by omega)
              have o145 : 0 ≤ (sI ((25 * x7) + x21)) ∧ (sI ((25 * x7) + x21)) < 625 := by omega
              refine ⟨o145, ?_⟩
              intro M146 e147
              have hB148 : BI M146 := by rw [e147]; exact BI.up hB23 (rfl : zcd wR 33 = 83) rfl (by omega) (by omega) (by decide)
              have hF149 : ∀ j9 k9 : Nat, ¬ (j9 = 33) → M146 j9 k9 = M j9 k9 := fun j9 k9 h9 => by rw [e147]; exact (zup_n _ _ (by omega)).trans (hF24 j9 k9 h9)
              exact k27 _ _ ⟨hB148, hF149, (by omega), trivial⟩ (by omega)
        · skip
          have s150 : sI ((25 * x7) + x21) = ((25 * x7) + x21) := sIo (by omega) (by omega)
          have o151 : 0 ≤ (sI ((25 * x7) + x21)) ∧ (sI ((25 * x7) + x21)) < 625 := by omega
          refine ⟨o151, ?_⟩
          intro M152 e153
          have hB154 : BI M152 := by rw [e153]; exact BI.up hB23 (rfl : zcd wR 33 = 83) rfl (by omega) (by omega) (by decide)
          have hF155 : ∀ j9 k9 : Nat, ¬ (j9 = 33) → M152 j9 k9 = M j9 k9 := fun j9 k9 h9 => by rw [e153]; exact (zup_n _ _ (by omega)).trans (hF24 j9 k9 h9)
          exact k27 _ _ ⟨hB154, hF155, (by omega), trivial⟩ (by omega)
set_option maxHeartbeats 4000000 in
set_option maxRecDepth 100000 in
theorem sR_edits {M : zM} {a0 : Int} {a1 : Int} (hB : BI M) (v0 : (-2147483648) ≤ a0 ∧ a0 ≤ 2147483647) (v1 : (-2147483648) ≤ a1 ∧ a1 ≤ 2147483647) {Q : Int → zM → Prop} (hQ : ∀ (z : Int) (M1 : zM), BI M1 ∧ (∀ j9 k9 : Nat, ¬ (j9 = 0 ∧ k9 = 35 ∨ j9 = 33) → M1 j9 k9 = M j9 k9) ∧ ((-2147483648) ≤ z ∧ z ≤ 2147483647) ∧ True → Q z M1) : wR_edits a0 a1 M Q := by
  unfold wR_edits
  have hF0 : ∀ j9 k9 : Nat, ¬ (j9 = 0 ∧ k9 = 35 ∨ j9 = 33) → M j9 k9 = M j9 k9 := fun j9 k9 _ => rfl
  intro M1 e2
  have hB3 : BI M1 := by rw [e2]; exact BI.up0 hB rfl (by omega) (by omega) (by decide)
  have hF4 : ∀ j9 k9 : Nat, ¬ (j9 = 0 ∧ k9 = 35 ∨ j9 = 33) → M1 j9 k9 = M j9 k9 := fun j9 k9 h9 => by rw [e2]; exact (zup_n _ _ (by omega)).trans (hF0 j9 k9 h9)
  have q5 : 0 ≤ (M1 0 32) ∧ (M1 0 32) ≤ 16 := BN.at hB3.1 (rfl : zcd wR 0 = 50) rfl
  refine sR_in hB3 (by omega) (by omega) (by omega) (fun z6  h7 => ?_)
  obtain ⟨p8, p9, -⟩ := h7
  refine ⟨fun c10 => ?_, fun c10 => ?_⟩
  · skip
    exact hQ _ _ ⟨hB3, hF4, (by omega), trivial⟩
  · skip
    refine sR_in hB3 (by omega) (by omega) (by omega) (fun z12  h13 => ?_)
    obtain ⟨p14, p15, -⟩ := h13
    refine ⟨fun c16 => ?_, fun c16 => ?_⟩
    · skip
      refine wL2_of (fun x17 x18 M19 => BI M19 ∧ (∀ j9 k9 : Nat, ¬ (j9 = 0 ∧ k9 = 35 ∨ j9 = 33) → M19 j9 k9 = M j9 k9) ∧ (0 ≤ x18 ∧ x18 ≤ 1000000) ∧ True) (fun x17 x18 M19 => (1000000 - x18).toNat) ⟨hB3, hF4, (by omega), trivial⟩ (fun K x17 x18 M19 h23 k24 => ?_)
      obtain ⟨hB20, hF21, i22, -⟩ := h23
      have s25 : sI a1 = a1 := sIo (by omega) (by omega)
      have o26 : 0 ≤ (sI a1) ∧ (sI a1) < 16 := by omega
      refine ⟨o26, ?_⟩
      have q27 : 0 ≤ (M19 19 (sI a1).toNat) ∧ (M19 19 (sI a1).toNat) ≤ 24 := BN.at hB20.1 (rfl : zcd wR 19 = 69) rfl
      have s28 : sI x18 = x18 := sIo (by omega) (by omega)
      have s29 : sI (M19 19 (sI a1).toNat) = (M19 19 (sI a1).toNat) := sIo (by omega) (by omega)
      refine ⟨fun c30 => ?_, fun c30 => ?_⟩
      · skip
        have s31 := sI_R x17
        have s32 := sI_or x17
        exact hQ _ _ ⟨hB20, hF21, (by omega), trivial⟩
      · skip
        refine sR_editsBy hB20 (by omega) (by omega) (by omega) (fun z33 M34 h35 => ?_)
        obtain ⟨hB36, f37, p38, -⟩ := h35
        have hF39 : ∀ j9 k9 : Nat, ¬ (j9 = 0 ∧ k9 = 35 ∨ j9 = 33) → M34 j9 k9 = M j9 k9 := fun j9 k9 h9 => ((f37 j9 k9 (by omega)).trans (hF21 j9 k9 h9))
        have s40 := sI_R x17
        have s41 := sI_or x17
        exact k24 _ _ _ ⟨hB36, hF39, (by omega), trivial⟩ (by omega)
    · skip
      exact hQ _ _ ⟨hB3, hF4, (by omega), trivial⟩
end zz31_R04
section zz31_R05
/-! safety, 5 -/
set_option maxHeartbeats 4000000 in
set_option maxRecDepth 100000 in
theorem sR_row {M : zM} {a0 : Int} (hB : BI M) (v0 : (-2147483648) ≤ a0 ∧ a0 ≤ 2147483647) {Q : Int → zM → Prop} (hQ : ∀ (z : Int) (M1 : zM), BI M1 ∧ (∀ j9 k9 : Nat, ¬ (j9 = 0 ∧ k9 = 35) → M1 j9 k9 = M j9 k9) ∧ ((-2147483648) ≤ z ∧ z ≤ 2147483647) ∧ True → Q z M1) : wR_row a0 M Q := by
  unfold wR_row
  have hF0 : ∀ j9 k9 : Nat, ¬ (j9 = 0 ∧ k9 = 35) → M j9 k9 = M j9 k9 := fun j9 k9 _ => rfl
  intro M1 e2
  have hB3 : BI M1 := by rw [e2]; exact BI.up0 hB rfl (by omega) (by omega) (by decide)
  have hF4 : ∀ j9 k9 : Nat, ¬ (j9 = 0 ∧ k9 = 35) → M1 j9 k9 = M j9 k9 := fun j9 k9 h9 => by rw [e2]; exact (zup_n _ _ (by omega)).trans (hF0 j9 k9 h9)
  have q5 : (-1) ≤ (M1 0 34) ∧ (M1 0 34) ≤ 64 := BN.at hB3.1 (rfl : zcd wR 0 = 50) rfl
  refine sR_in hB3 (by omega) (by omega) (by omega) (fun z6  h7 => ?_)
  obtain ⟨p8, p9, -⟩ := h7
  refine ⟨fun c10 => ?_, fun c10 => ?_⟩
  · skip
    have s11 : sI a0 = a0 := sIo (by omega) (by omega)
    have o12 : 0 ≤ (sI a0) ∧ (sI a0) < 64 := by omega
    refine ⟨o12, ?_⟩
    have q13 : (-2147483648) ≤ (M1 22 (sI a0).toNat) ∧ (M1 22 (sI a0).toNat) ≤ 2147483647 := BN.at hB3.1 (rfl : zcd wR 22 = 72) rfl
    have s14 : sI (M1 22 (sI a0).toNat) = (M1 22 (sI a0).toNat) := sIo (by omega) (by omega)
    exact hQ _ _ ⟨hB3, hF4, (by omega), trivial⟩
  · skip
    intro M15 e16
    have hB17 : BI M15 := by rw [e16]; exact BI.up0 hB3 rfl (by omega) (by omega) (by decide)
    have hF18 : ∀ j9 k9 : Nat, ¬ (j9 = 0 ∧ k9 = 35) → M15 j9 k9 = M j9 k9 := fun j9 k9 h9 => by rw [e16]; exact (zup_n _ _ (by omega)).trans (hF4 j9 k9 h9)
    exact hQ _ _ ⟨hB17, hF18, (by omega), trivial⟩
end zz31_R05
