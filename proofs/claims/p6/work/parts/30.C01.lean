/-! safety of the class, 1 -/
set_option maxHeartbeats 4000000 in
set_option maxRecDepth 100000 in
theorem sC_splice {M : zM}  (hB : BN wC M)  {Q : Int → zM → Prop} (hQ : ∀ (z : Int) (M1 : zM), BN wC M1 ∧ (∀ j9 : Nat, ¬ (1 ≤ j9 ∧ j9 ≤ 31) → M1 j9 = M j9) ∧ ((-2147483648) ≤ z ∧ z ≤ 2147483647) ∧ (M1 1 1 = 0) ∧ True → Q z M1) : wC_splice  M Q := by
  unfold wC_splice
  have hF0 : ∀ j9 : Nat, ¬ (1 ≤ j9 ∧ j9 ≤ 31) → M j9 = M j9 := fun j9 _ => rfl
  refine sC_Splicer_putInto hB (by decide) (rfl : zcd wC 30 = 6) (by omega) (fun z1 M2 h3 => ?_)
  obtain ⟨hB4, f5, p6, p7, -⟩ := h3
  have hF8 : ∀ j9 : Nat, ¬ (1 ≤ j9 ∧ j9 ≤ 31) → M2 j9 = M j9 := fun j9 h9 => ((f5 j9 (by omega)).trans (hF0 j9 h9))
  exact hQ _ _ ⟨hB4, hF8, (by omega), (by omega), trivial⟩
set_option maxHeartbeats 4000000 in
set_option maxRecDepth 100000 in
theorem sC_Strip_at {M : zM} {j : Nat} {a0 : Int} (hB : BN wC M) (lt_j : j < nC) (cd_j : zcd wC j = 6) (v0 : (-2147483648) ≤ a0 ∧ a0 ≤ 2147483647) {Q : Int → Prop} (hQ : ∀ (z : Int), ((-2147483648) ≤ z ∧ z ≤ 2147483647) ∧ True → Q z) : wC_Strip_at j a0 M Q := by
  unfold wC_Strip_at
  obtain ⟨lt1, cd2⟩ := nx_strip j lt_j cd_j
  refine sC_Strip_has hB lt_j cd_j (by omega) (fun z3  h4 => ?_)
  obtain ⟨p5, p6, -⟩ := h4
  refine ⟨fun c7 => ?_, fun c7 => ?_⟩
  · skip
    exact hQ _ ⟨(by omega), trivial⟩
  · skip
    have s8 : sI a0 = a0 := sIo (by omega) (by omega)
    have o9 : 0 ≤ (sI a0) ∧ (sI a0) < 24 := by omega
    refine ⟨o9, ?_⟩
    have q10 : (-2147483648) ≤ (M (j + 1) (sI a0).toNat) ∧ (M (j + 1) (sI a0).toNat) ≤ 2147483647 := BN.at hB cd2 rfl
    have s11 : sI (M (j + 1) (sI a0).toNat) = (M (j + 1) (sI a0).toNat) := sIo (by omega) (by omega)
    exact hQ _ ⟨(by omega), trivial⟩
set_option maxHeartbeats 4000000 in
set_option maxRecDepth 100000 in
theorem sC_hand {M : zM} {a0 : Int} (hB : BN wC M) (v0 : (-2147483648) ≤ a0 ∧ a0 ≤ 2147483647) {Q : Int → Prop} (hQ : ∀ (z : Int), ((-2147483648) ≤ z ∧ z ≤ 2147483647) ∧ True → Q z) : wC_hand a0 M Q := by
  unfold wC_hand
  refine sC_Strip_at hB (by decide) (rfl : zcd wC 30 = 6) (by omega) (fun z1  h2 => ?_)
  obtain ⟨p3, -⟩ := h2
  exact hQ _ ⟨(by omega), trivial⟩
set_option maxHeartbeats 4000000 in
set_option maxRecDepth 100000 in
theorem sC_within {M : zM} {a0 : Int} {a1 : Int} {a2 : Int} (hB : BN wC M) (v0 : (-2147483648) ≤ a0 ∧ a0 ≤ 2147483647) (v1 : (-2147483648) ≤ a1 ∧ a1 ≤ 2147483647) (v2 : (-2147483648) ≤ a2 ∧ a2 ≤ 2147483647) {Q : Int → Prop} (hQ : ∀ (z : Int), (0 ≤ z ∧ z ≤ 1) ∧ ((z = 1 ∧ a1 ≤ a0 ∧ a0 ≤ a2) ∨ (z = 0 ∧ ¬ (a1 ≤ a0 ∧ a0 ≤ a2))) ∧ True → Q z) : wC_within a0 a1 a2 M Q := by
  unfold wC_within
  have s1 : sI a0 = a0 := sIo (by omega) (by omega)
  have s2 : sI a1 = a1 := sIo (by omega) (by omega)
  refine ⟨fun c3 => ?_, fun c3 => ?_⟩
  · skip
    exact hQ _ ⟨(by omega), (by omega), trivial⟩
  · skip
    have s4 : sI a2 = a2 := sIo (by omega) (by omega)
    refine ⟨fun c5 => ?_, fun c5 => ?_⟩
    · skip
      exact hQ _ ⟨(by omega), (by omega), trivial⟩
    · skip
      exact hQ _ ⟨(by omega), (by omega), trivial⟩
set_option maxHeartbeats 4000000 in
set_option maxRecDepth 100000 in
theorem sC_isMotor {M : zM} {a0 : Int} (hB : BN wC M) (v0 : (-2147483648) ≤ a0 ∧ a0 ≤ 2147483647) {Q : Int → Prop} (hQ : ∀ (z : Int), (0 ≤ z ∧ z ≤ 1) ∧ ((z = 1 ∧ 0 ≤ a0 ∧ a0 ≤ 1) ∨ (z = 0 ∧ ¬ (0 ≤ a0 ∧ a0 ≤ 1))) ∧ True → Q z) : wC_isMotor a0 M Q := by
  unfold wC_isMotor
  refine sC_within hB (by omega) (by omega) (by omega) (fun z1  h2 => ?_)
  obtain ⟨p3, p4, -⟩ := h2
  exact hQ _ ⟨(by omega), (by omega), trivial⟩
theorem sC_by {M : zM} {a0 a1 : Int} (hB : BN wC M) (v1 : -2147483648 ≤ a1 ∧ a1 ≤ 2147483647) {Q : Int → Prop} (hQ : ∀ z, ((0 ≤ z ∧ z ≤ 2147483646) ∧ (1 ≤ a1 → z < a1) ∧ (a1 < 1 → z = 0) ∧ True) → Q z) : wC_by a0 a1 M Q := by
  unfold wC_by
  have s1 : sI a1 = a1 := sIo (by omega) (by omega)
  rw [s1]
  refine ⟨fun c => ?_, fun c => hQ _ ⟨by omega, by omega, by omega, trivial⟩⟩
  have t := tmodB (sL a0) a1 (by omega)
  have s2 : sI ((sL a0).tmod a1) = (sL a0).tmod a1 := sIo (by omega) (by omega)
  have s3 : (sL a0).tmod a1 < 0 → sI ((sL a0).tmod a1 + a1) = (sL a0).tmod a1 + a1 := fun h => sIo (by omega) (by omega)
  refine ⟨by omega, fun c2 => hQ _ ⟨by omega, by omega, by omega, trivial⟩, fun c2 => ?_⟩
  have s4 := s3 (by omega)
  exact hQ _ ⟨by omega, by omega, by omega, trivial⟩
set_option maxHeartbeats 4000000 in
set_option maxRecDepth 100000 in
theorem sC_Ring_soundsUnder {M : zM} {j : Nat} {a0 : Int} {a1 : Int} (hB : BN wC M) (lt_j : j < nC) (cd_j : zcd wC j = 14) (v0 : 0 ≤ a0 ∧ a0 ≤ 1000000) (v1 : 0 ≤ a1 ∧ a1 ≤ 24) {Q : Int → Prop} (hQ : ∀ (z : Int), ((-2147483648) ≤ z ∧ z ≤ 2147483647) ∧ True → Q z) : wC_Ring_soundsUnder j a0 a1 M Q := by
  unfold wC_Ring_soundsUnder
  obtain ⟨lt1, cd2, lt3, cd4, lt5, cd6⟩ := nx_ring j lt_j cd_j
  refine pL2_of (fun x7 x8 => (0 ≤ x8 ∧ x8 ≤ 1000000) ∧ True) (fun x7 x8 => (1000000 - x8).toNat) ⟨(by omega), trivial⟩ (fun K x7 x8 h10 k11 => ?_)
  obtain ⟨i9, -⟩ := h10
  have s12 : sI x8 = x8 := sIo (by omega) (by omega)
  refine ⟨fun c13 => ?_, fun c13 => ?_⟩
  · skip
    have s14 := sI_R x7
    exact hQ _ ⟨(by omega), trivial⟩
  · skip
    have q15 : (-2147483648) ≤ (M j 3) ∧ (M j 3) ≤ 2147483647 := BN.at hB cd_j rfl
    have q16 := shrI_R (M j 3) x8
    have q17 := andI_br (shrI (M j 3) x8) (c := 1) (by decide) (by decide)
    refine ⟨fun c18 => ?_, fun c18 => ?_⟩
    · skip
      exact k11 _ _ ⟨(by omega), trivial⟩ (by omega)
    · skip
      have s19 : sI (a0 + x8) = (a0 + x8) := sIo (by omega) (by omega)
      refine sC_by hB (by omega) (fun z20  h21 => ?_)
      obtain ⟨p22, p23, p24, -⟩ := h21
      have o25 : 0 ≤ z20 ∧ z20 < 24 := by omega
      refine ⟨o25, ?_⟩
      have q26 : (-2147483648) ≤ (M (j + 2) z20.toNat) ∧ (M (j + 2) z20.toNat) ≤ 2147483647 := BN.at hB cd4 rfl
      have q27 := orI_R x7 (M (j + 2) z20.toNat)
      exact k11 _ _ ⟨(by omega), trivial⟩ (by omega)
theorem sC_Ring_fillUnder {M : zM} {j a0 : Nat} {a1 : Int} (hB : BN wC M) (lt_j : j < nC) (cd_j : zcd wC j = 14) (lt_a0 : a0 < nC) {q : Nat} (cd_a0 : zcd wC a0 = q) (v1 : 0 ≤ a1 ∧ a1 ≤ 24) (p0 : ∀ k, cbt q k = (-2147483648, 2147483647)) {Q : zM → Prop} (hQ : ∀ M1, (BN wC M1 ∧ (∀ j9 : Nat, ¬ (j9 = a0) → M1 j9 = M j9) ∧ True) → Q M1) : wC_Ring_fillUnder j a0 a1 M Q := by
  unfold wC_Ring_fillUnder
  refine wL1_of (fun x M4 => BN wC M4 ∧ (∀ j9 : Nat, ¬ (j9 = a0) → M4 j9 = M j9) ∧ (0 ≤ x ∧ x ≤ 1000000) ∧ True) (fun x _ => (1000000 - x).toNat) ⟨hB, fun _ _ => rfl, by omega, trivial⟩ (fun K x M4 hI hK => ?_)
  obtain ⟨hB4, hF4, i1, -⟩ := hI
  have s1 : sI a1 = a1 := sIo (by omega) (by omega)
  have s2 : sI x = x := sIo (by omega) (by omega)
  refine ⟨fun c => hQ _ ⟨hB4, hF4, trivial⟩, fun c => ⟨fun c2 => hQ _ ⟨hB4, hF4, trivial⟩, fun c2 => ?_⟩⟩
  refine sC_Ring_soundsUnder hB4 lt_j cd_j (by omega) (by omega) (fun z hp => ?_)
  obtain ⟨p, -⟩ := hp
  refine ⟨⟨by omega, c2⟩, ?_⟩
  intro M5 e5
  exact hK _ _ ⟨by rw [e5]; exact BN.up hB4 cd_a0 (p0 _) p.1 p.2, fun j9 h9 => by rw [e5, zup_row _ _ h9]; exact hF4 j9 h9, by omega, trivial⟩ (by omega)
set_option maxHeartbeats 4000000 in
set_option maxRecDepth 100000 in
theorem sC_Ring_listen {M : zM} {j : Nat} (hB : BN wC M) (lt_j : j < nC) (cd_j : zcd wC j = 14) {Q : zM → Prop} (hQ : ∀ (M1 : zM), BN wC M1 ∧ (∀ j9 : Nat, ¬ (j ≤ j9 ∧ j9 ≤ j + 3) → M1 j9 = M j9) ∧ True → Q M1) : wC_Ring_listen j M Q := by
  unfold wC_Ring_listen
  have hF0 : ∀ j9 : Nat, ¬ (j ≤ j9 ∧ j9 ≤ j + 3) → M j9 = M j9 := fun j9 _ => rfl
  obtain ⟨lt1, cd2, lt3, cd4, lt5, cd6⟩ := nx_ring j lt_j cd_j
  have q7 : 0 ≤ (M (j + 1) 1) ∧ (M (j + 1) 1) ≤ 24 := BN.at hB cd2 rfl
  refine sC_Ring_fillUnder hB lt_j cd_j lt5 cd6 (by omega) (fun _ => rfl) (fun  M8 h9 => ?_)
  obtain ⟨hB10, f11, -⟩ := h9
  have hF12 : ∀ j9 : Nat, ¬ (j ≤ j9 ∧ j9 ≤ j + 3) → M8 j9 = M j9 := fun j9 h9 => ((f11 j9 (by omega)).trans (hF0 j9 h9))
  exact hQ _ ⟨hB10, hF12, trivial⟩
set_option maxHeartbeats 4000000 in
set_option maxRecDepth 100000 in
theorem sC_Ring_begin {M : zM} {j : Nat} {a0 : Nat} {a1 : Int} {a2 : Int} (hB : BN wC M) (lt_j : j < nC) (cd_j : zcd wC j = 14) (lt_a0 : a0 < nC) (cd_a0 : zcd wC a0 = 6) (v1 : 0 ≤ a1 ∧ a1 ≤ 1) (v2 : 0 ≤ a2 ∧ a2 ≤ 23) (p0 : a0 = 30) (p1 : 41 ≤ j) {Q : zM → Prop} (hQ : ∀ (M1 : zM), BN wC M1 ∧ (∀ j9 : Nat, ¬ (j ≤ j9 ∧ j9 ≤ j + 3) → M1 j9 = M j9) ∧ True → Q M1) : wC_Ring_begin j a0 a1 a2 M Q := by
  unfold wC_Ring_begin
  have hF0 : ∀ j9 : Nat, ¬ (j ≤ j9 ∧ j9 ≤ j + 3) → M j9 = M j9 := fun j9 _ => rfl
  obtain ⟨lt1, cd2, lt3, cd4, lt5, cd6⟩ := nx_ring j lt_j cd_j
  obtain ⟨lt7, cd8⟩ := nx_strip a0 lt_a0 cd_a0
  refine sC_Strip_copy hB lt1 cd2 lt_a0 cd_a0 (by omega) (fun  M9 h10 => ?_)
  obtain ⟨hB11, f12, -⟩ := h10
  have hF13 : ∀ j9 : Nat, ¬ (j ≤ j9 ∧ j9 ≤ j + 3) → M9 j9 = M j9 := fun j9 h9 => ((f12 j9 (by omega)).trans (hF0 j9 h9))
  intro M14 e15
  have hB16 : BN wC M14 := by rw [e15]; exact BN.up hB11 cd_j rfl (by omega) (by omega)
  have hF17 : ∀ j9 : Nat, ¬ (j ≤ j9 ∧ j9 ≤ j + 3) → M14 j9 = M j9 := fun j9 h9 => by rw [e15]; exact (zup_row _ _ (by omega)).trans (hF13 j9 h9)
  intro M18 e19
  have hB20 : BN wC M18 := by rw [e19]; exact BN.up hB16 cd_j rfl (by omega) (by omega)
  have hF21 : ∀ j9 : Nat, ¬ (j ≤ j9 ∧ j9 ≤ j + 3) → M18 j9 = M j9 := fun j9 h9 => by rw [e19]; exact (zup_row _ _ (by omega)).trans (hF17 j9 h9)
  intro M22 e23
  have hB24 : BN wC M22 := by rw [e23]; exact BN.up hB20 cd_j rfl (by omega) (by omega)
  have hF25 : ∀ j9 : Nat, ¬ (j ≤ j9 ∧ j9 ≤ j + 3) → M22 j9 = M j9 := fun j9 h9 => by rw [e23]; exact (zup_row _ _ (by omega)).trans (hF21 j9 h9)
  intro M26 e27
  have hB28 : BN wC M26 := by rw [e27]; exact BN.up hB24 cd_j rfl (by omega) (by omega)
  have hF29 : ∀ j9 : Nat, ¬ (j ≤ j9 ∧ j9 ≤ j + 3) → M26 j9 = M j9 := fun j9 h9 => by rw [e27]; exact (zup_row _ _ (by omega)).trans (hF25 j9 h9)
  refine sC_Ring_listen hB28 lt_j cd_j (fun  M30 h31 => ?_)
  obtain ⟨hB32, f33, -⟩ := h31
  have hF34 : ∀ j9 : Nat, ¬ (j ≤ j9 ∧ j9 ≤ j + 3) → M30 j9 = M j9 := fun j9 h9 => ((f33 j9 (by omega)).trans (hF29 j9 h9))
  exact hQ _ ⟨hB32, hF34, trivial⟩
set_option maxHeartbeats 4000000 in
set_option maxRecDepth 100000 in
theorem sC_Studio_add {M : zM} {a0 : Nat} {a1 : Int} {a2 : Int} (hB : BN wC M) (lt_a0 : a0 < nC) (cd_a0 : zcd wC a0 = 6) (v1 : 0 ≤ a1 ∧ a1 ≤ 1) (v2 : 0 ≤ a2 ∧ a2 ≤ 23) (p0 : a0 = 30) {Q : Int → zM → Prop} (hQ : ∀ (z : Int) (M1 : zM), BN wC M1 ∧ (∀ j9 : Nat, ¬ (32 ≤ j9 ∧ j9 ≤ 34 ∨ 41 ≤ j9 ∧ j9 ≤ 56) → M1 j9 = M j9) ∧ ((-2147483648) ≤ z ∧ z ≤ 2147483647) ∧ True → Q z M1) : wC_Studio_add a0 a1 a2 M Q := by
  unfold wC_Studio_add
  have hF0 : ∀ j9 : Nat, ¬ (32 ≤ j9 ∧ j9 ≤ 34 ∨ 41 ≤ j9 ∧ j9 ≤ 56) → M j9 = M j9 := fun j9 _ => rfl
  obtain ⟨lt1, cd2⟩ := nx_strip a0 lt_a0 cd_a0
  have q3 : 0 ≤ (M 32 2) ∧ (M 32 2) ≤ 4 := BN.at hB (rfl : zcd wC 32 = 8) rfl
  have s4 : sI (M 32 2) = (M 32 2) := sIo (by omega) (by omega)
  refine ⟨fun c5 => ?_, fun c5 => ?_⟩
  · skip
    have o7 : 0 ≤ (sI (M 32 2)) ∧ (sI (M 32 2)) < 4 := by omega
    refine ⟨o7, ?_⟩
    obtain ⟨lt8, cd9⟩ : (41 + 4 * (sI (M 32 2)).toNat) < nC ∧ zcd wC (41 + 4 * (sI (M 32 2)).toNat) = 14 := (by decide : ∀ k : Nat, k < 4 → (41 + 4 * k) < nC ∧ zcd wC (41 + 4 * k) = 14) (sI (M 32 2)).toNat (by omega)
    obtain ⟨lt10, cd11, lt12, cd13, lt14, cd15⟩ := nx_ring (41 + 4 * (sI (M 32 2)).toNat) lt8 cd9
    refine sC_Ring_begin hB lt8 cd9 lt_a0 cd_a0 (by omega) (by omega) (by omega) (by omega) (fun  M16 h17 => ?_)
    obtain ⟨hB18, f19, -⟩ := h17
    have hF20 : ∀ j9 : Nat, ¬ (32 ≤ j9 ∧ j9 ≤ 34 ∨ 41 ≤ j9 ∧ j9 ≤ 56) → M16 j9 = M j9 := fun j9 h9 => ((f19 j9 (by omega)).trans (hF0 j9 h9))
    have r21 : M16 32 2 = M 32 2 := congrFun (f19 32 (by omega)) 2
    have q22 : 0 ≤ (M16 32 2) ∧ (M16 32 2) ≤ 4 := BN.at hB18 (rfl : zcd wC 32 = 8) rfl
    intro M23 e24
    have hB25 : BN wC M23 := by rw [e24]; exact BN.up hB18 (rfl : zcd wC 32 = 8) rfl (by omega) (by omega)
    have hF26 : ∀ j9 : Nat, ¬ (32 ≤ j9 ∧ j9 ≤ 34 ∨ 41 ≤ j9 ∧ j9 ≤ 56) → M23 j9 = M j9 := fun j9 h9 => by rw [e24]; exact (zup_row _ _ (by omega)).trans (hF20 j9 h9)
    have r27 : M23 32 2 = ((M16 32 2) + 1) := by rw [e24]; exact zup_s _ _ _ _
    have q28 : 0 ≤ (M23 32 2) ∧ (M23 32 2) ≤ 4 := BN.at hB25 (rfl : zcd wC 32 = 8) rfl
    have s29 : sI ((M23 32 2) - 1) = ((M23 32 2) - 1) := sIo (by omega) (by omega)
    exact hQ _ _ ⟨hB25, hF26, (by omega), trivial⟩
  · skip
    exact hQ _ _ ⟨hB, hF0, (by omega), trivial⟩
set_option maxHeartbeats 4000000 in
set_option maxRecDepth 100000 in
theorem sC_ring {M : zM} {a0 : Int} {a1 : Int} (hB : BN wC M) (v0 : (-2147483648) ≤ a0 ∧ a0 ≤ 2147483647) (v1 : (-2147483648) ≤ a1 ∧ a1 ≤ 2147483647) {Q : Int → zM → Prop} (hQ : ∀ (z : Int) (M1 : zM), BN wC M1 ∧ (∀ j9 : Nat, ¬ (32 ≤ j9 ∧ j9 ≤ 34 ∨ 41 ≤ j9 ∧ j9 ≤ 56) → M1 j9 = M j9) ∧ ((-2147483648) ≤ z ∧ z ≤ 2147483647) ∧ True → Q z M1) : wC_ring a0 a1 M Q := by
  unfold wC_ring
  have hF0 : ∀ j9 : Nat, ¬ (32 ≤ j9 ∧ j9 ≤ 34 ∨ 41 ≤ j9 ∧ j9 ≤ 56) → M j9 = M j9 := fun j9 _ => rfl
  refine sC_isMotor hB (by omega) (fun z1  h2 => ?_)
  obtain ⟨p3, p4, -⟩ := h2
  refine ⟨fun c5 => ?_, fun c5 => ?_⟩
  · skip
    exact hQ _ _ ⟨hB, hF0, (by omega), trivial⟩
  · skip
    refine sC_Strip_has hB (by decide) (rfl : zcd wC 30 = 6) (by omega) (fun z6  h7 => ?_)
    obtain ⟨p8, p9, -⟩ := h7
    refine ⟨fun c10 => ?_, fun c10 => ?_⟩
    · skip
      refine sC_Studio_add hB (by decide) (rfl : zcd wC 30 = 6) (by omega) (by omega) (by omega) (fun z11 M12 h13 => ?_)
      obtain ⟨hB14, f15, p16, -⟩ := h13
      have hF17 : ∀ j9 : Nat, ¬ (32 ≤ j9 ∧ j9 ≤ 34 ∨ 41 ≤ j9 ∧ j9 ≤ 56) → M12 j9 = M j9 := fun j9 h9 => ((f15 j9 (by omega)).trans (hF0 j9 h9))
      exact hQ _ _ ⟨hB14, hF17, (by omega), trivial⟩
    · skip
      exact hQ _ _ ⟨hB, hF0, (by omega), trivial⟩
theorem sC_Studio_find {M : zM} {a0 : Int} (hB : BN wC M) (v0 : -2147483648 ≤ a0 ∧ a0 ≤ 2147483647) {Q : Option Nat → Prop} (hn : (a0 < 0 ∨ M 32 2 ≤ a0) → Q none) (hs : ∀ q, ((q < nC ∧ zcd wC q = 14) ∧ (q = 41 + 4 * a0.toNat ∧ 0 ≤ a0 ∧ a0 < M 32 2 ∧ a0 < 4)) → Q (some q)) : wC_Studio_find a0 M Q := by
  unfold wC_Studio_find
  have b : 0 ≤ M 32 2 ∧ M 32 2 ≤ 4 := BN.at hB (rfl : zcd wC 32 = 8) rfl
  have s1 : sI a0 = a0 := sIo (by omega) (by omega)
  have s2 : sI (M 32 2) = M 32 2 := sIo (by omega) (by omega)
  rw [s1, s2]
  refine ⟨fun c => hn (by omega), fun c => ⟨fun c2 => hn (by omega), fun c2 => ⟨fun c3 => absurd c3 (by omega), fun c3 => ⟨by omega, ?_⟩⟩⟩⟩
  exact hs _ ⟨(by decide : ∀ k : Nat, k < 4 → 41 + 4 * k < nC ∧ zcd wC (41 + 4 * k) = 14) _ (by omega), rfl, c, c2, c3⟩
set_option maxHeartbeats 4000000 in
set_option maxRecDepth 100000 in
theorem sC_Ring_layOver {M : zM} {j : Nat} {a0 : Nat} {a1 : Int} {a2 : Int} (hB : BN wC M) (lt_j : j < nC) (cd_j : zcd wC j = 14) (lt_a0 : a0 < nC) (cd_a0 : zcd wC a0 = 6) (v1 : 0 ≤ a1 ∧ a1 ≤ 23) (v2 : (-2147483648) ≤ a2 ∧ a2 ≤ 2147483647) (p0 : a0 = 30) (p1 : 41 ≤ j) {Q : Int → zM → Prop} (hQ : ∀ (z : Int) (M1 : zM), BN wC M1 ∧ (∀ j9 : Nat, ¬ (j ≤ j9 ∧ j9 ≤ j + 3) → M1 j9 = M j9) ∧ ((-2147483648) ≤ z ∧ z ≤ 2147483647) ∧ True → Q z M1) : wC_Ring_layOver j a0 a1 a2 M Q := by
  unfold wC_Ring_layOver
  have hF0 : ∀ j9 : Nat, ¬ (j ≤ j9 ∧ j9 ≤ j + 3) → M j9 = M j9 := fun j9 _ => rfl
  obtain ⟨lt1, cd2, lt3, cd4, lt5, cd6⟩ := nx_ring j lt_j cd_j
  obtain ⟨lt7, cd8⟩ := nx_strip a0 lt_a0 cd_a0
  refine wL2_of (fun x9 x10 M11 => BN wC M11 ∧ (∀ j9 : Nat, ¬ (j ≤ j9 ∧ j9 ≤ j + 3) → M11 j9 = M j9) ∧ (0 ≤ x10 ∧ x10 ≤ 1000000) ∧ True) (fun x9 x10 M11 => (1000000 - x10).toNat) ⟨hB, hF0, (by omega), trivial⟩ (fun K x9 x10 M11 h15 k16 => ?_)
  obtain ⟨hB12, hF13, i14, -⟩ := h15
  have q17 : 0 ≤ (M11 a0 1) ∧ (M11 a0 1) ≤ 24 := BN.at hB12 cd_a0 rfl
  have s18 : sI x10 = x10 := sIo (by omega) (by omega)
  have s19 : sI (M11 a0 1) = (M11 a0 1) := sIo (by omega) (by omega)
  refine ⟨fun c20 => ?_, fun c20 => ?_⟩
  · skip
    refine sC_Ring_listen hB12 lt_j cd_j (fun  M21 h22 => ?_)
    obtain ⟨hB23, f24, -⟩ := h22
    have hF25 : ∀ j9 : Nat, ¬ (j ≤ j9 ∧ j9 ≤ j + 3) → M21 j9 = M j9 := fun j9 h9 => ((f24 j9 (by omega)).trans (hF13 j9 h9))
    have s26 := sI_R x9
    exact hQ _ _ ⟨hB23, hF25, (by omega), trivial⟩
  · skip
    refine sC_Strip_has hB12 lt1 cd2 (by omega) (fun z27  h28 => ?_)
    obtain ⟨p29, p30, -⟩ := h28
    refine ⟨fun c31 => ?_, fun c31 => ?_⟩
    · skip
      refine sC_Ring_listen hB12 lt_j cd_j (fun  M32 h33 => ?_)
      obtain ⟨hB34, f35, -⟩ := h33
      have hF36 : ∀ j9 : Nat, ¬ (j ≤ j9 ∧ j9 ≤ j + 3) → M32 j9 = M j9 := fun j9 h9 => ((f35 j9 (by omega)).trans (hF13 j9 h9))
      have s37 := sI_R x9
      exact hQ _ _ ⟨hB34, hF36, (by omega), trivial⟩
    · skip
      have s38 : sI (a1 + x10) = (a1 + x10) := sIo (by omega) (by omega)
      have o39 : 0 ≤ (sI (a1 + x10)) ∧ (sI (a1 + x10)) < 24 := by omega
      refine ⟨o39, ?_⟩
      have q40 : (-2147483648) ≤ (M11 (j + 2) (sI (a1 + x10)).toNat) ∧ (M11 (j + 2) (sI (a1 + x10)).toNat) ≤ 2147483647 := BN.at hB12 cd4 rfl
      have s41 : sI a2 = a2 := sIo (by omega) (by omega)
      refine pJ1_dup ?_
      refine ⟨fun c42 => ?_, fun c42 => ?_⟩
      · skip
        have o43 : 0 ≤ (sI x10) ∧ (sI x10) < 24 := by omega
        refine ⟨o43, ?_⟩
        have q44 : (-2147483648) ≤ (M11 (a0 + 1) (sI x10).toNat) ∧ (M11 (a0 + 1) (sI x10).toNat) ≤ 2147483647 := BN.at hB12 cd8 rfl
        have s45 : sI (M11 (a0 + 1) (sI x10).toNat) = (M11 (a0 + 1) (sI x10).toNat) := sIo (by omega) (by omega)
        have o46 : 0 ≤ (sI (a1 + x10)) ∧ (sI (a1 + x10)) < 24 := by omega
        refine ⟨o46, ?_⟩
        intro M47 e48
        have hB49 : BN wC M47 := by rw [e48]; exact BN.up hB12 cd4 rfl (by omega) (by omega)
        have hF50 : ∀ j9 : Nat, ¬ (j ≤ j9 ∧ j9 ≤ j + 3) → M47 j9 = M j9 := fun j9 h9 => by rw [e48]; exact (zup_row _ _ (by omega)).trans (hF13 j9 h9)
        have s51 : sI (M11 (j + 2) (sI (a1 + x10)).toNat) = (M11 (j + 2) (sI (a1 + x10)).toNat) := sIo (by omega) (by omega)
        refine ⟨fun c52 => ?_, fun c52 => ?_⟩
        · skip
          exact k16 _ _ _ ⟨hB49, hF50, (by omega), trivial⟩ (by omega)
        · skip
          exact k16 _ _ _ ⟨hB49, hF50, (by omega), trivial⟩ (by omega)
      · skip
        have o53 : 0 ≤ (sI x10) ∧ (sI x10) < 24 := by omega
        refine ⟨o53, ?_⟩
        have q54 : (-2147483648) ≤ (M11 (a0 + 1) (sI x10).toNat) ∧ (M11 (a0 + 1) (sI x10).toNat) ≤ 2147483647 := BN.at hB12 cd8 rfl
        have q55 := orI_R (M11 (j + 2) (sI (a1 + x10)).toNat) (M11 (a0 + 1) (sI x10).toNat)
        have s56 : sI (orI (M11 (j + 2) (sI (a1 + x10)).toNat) (M11 (a0 + 1) (sI x10).toNat)) = (orI (M11 (j + 2) (sI (a1 + x10)).toNat) (M11 (a0 + 1) (sI x10).toNat)) := sIo (by omega) (by omega)
        have o57 : 0 ≤ (sI (a1 + x10)) ∧ (sI (a1 + x10)) < 24 := by omega
        refine ⟨o57, ?_⟩
        intro M58 e59
        have hB60 : BN wC M58 := by rw [e59]; exact BN.up hB12 cd4 rfl (by omega) (by omega)
        have hF61 : ∀ j9 : Nat, ¬ (j ≤ j9 ∧ j9 ≤ j + 3) → M58 j9 = M j9 := fun j9 h9 => by rw [e59]; exact (zup_row _ _ (by omega)).trans (hF13 j9 h9)
        have s62 : sI (M11 (j + 2) (sI (a1 + x10)).toNat) = (M11 (j + 2) (sI (a1 + x10)).toNat) := sIo (by omega) (by omega)
        refine ⟨fun c63 => ?_, fun c63 => ?_⟩
        · skip
          exact k16 _ _ _ ⟨hB60, hF61, (by omega), trivial⟩ (by omega)
        · skip
          exact k16 _ _ _ ⟨hB60, hF61, (by omega), trivial⟩ (by omega)
set_option maxHeartbeats 4000000 in
set_option maxRecDepth 100000 in
theorem sC_over {M : zM} {a0 : Int} {a1 : Int} {a2 : Int} (hB : BN wC M) (v0 : (-2147483648) ≤ a0 ∧ a0 ≤ 2147483647) (v1 : (-2147483648) ≤ a1 ∧ a1 ≤ 2147483647) (v2 : (-2147483648) ≤ a2 ∧ a2 ≤ 2147483647) {Q : Int → zM → Prop} (hQ : ∀ (z : Int) (M1 : zM), BN wC M1 ∧ (∀ j9 : Nat, ¬ (32 ≤ j9 ∧ j9 ≤ 34 ∨ 41 ≤ j9 ∧ j9 ≤ 56) → M1 j9 = M j9) ∧ ((-2147483648) ≤ z ∧ z ≤ 2147483647) ∧ True → Q z M1) : wC_over a0 a1 a2 M Q := by
  unfold wC_over
  have hF0 : ∀ j9 : Nat, ¬ (32 ≤ j9 ∧ j9 ≤ 34 ∨ 41 ≤ j9 ∧ j9 ≤ 56) → M j9 = M j9 := fun j9 _ => rfl
  refine sC_Studio_find hB (by omega) (fun h2 => ?_) (fun q1 h2 => ?_)
  · skip
    refine ⟨fun _ => ?_, fun q9 h9 => nomatch h9⟩
    exact hQ _ _ ⟨hB, hF0, (by omega), trivial⟩
  · skip
    refine ⟨(fun h9 => nomatch h9), fun q9 h9 => ?_⟩
    obtain rfl := Option.some.inj h9
    obtain ⟨⟨lt3, cd4⟩, h2⟩ := h2
    refine ⟨⟨lt3, cd4⟩, ?_⟩
    obtain ⟨lt5, cd6, lt7, cd8, lt9, cd10⟩ := nx_ring q1 lt3 cd4
    refine sC_Strip_has hB lt5 cd6 (by omega) (fun z11  h12 => ?_)
    obtain ⟨p13, p14, -⟩ := h12
    refine ⟨fun c15 => ?_, fun c15 => ?_⟩
    · skip
      exact hQ _ _ ⟨hB, hF0, (by omega), trivial⟩
    · skip
      refine sC_within hB (by omega) (by omega) (by omega) (fun z16  h17 => ?_)
      obtain ⟨p18, p19, -⟩ := h17
      refine ⟨fun c20 => ?_, fun c20 => ?_⟩
      · skip
        exact hQ _ _ ⟨hB, hF0, (by omega), trivial⟩
      · skip
        have q21 : 0 ≤ (M 30 1) ∧ (M 30 1) ≤ 24 := BN.at hB (rfl : zcd wC 30 = 6) rfl
        have s22 : sI (M 30 1) = (M 30 1) := sIo (by omega) (by omega)
        refine ⟨fun c23 => ?_, fun c23 => ?_⟩
        · skip
          have s24 : sI a2 = a2 := sIo (by omega) (by omega)
          refine ⟨fun c25 => ?_, fun c25 => ?_⟩
          · skip
            refine sC_Ring_layOver hB lt3 cd4 (by decide) (rfl : zcd wC 30 = 6) (by omega) (by omega) (by omega) (by omega) (fun z26 M27 h28 => ?_)
            obtain ⟨hB29, f30, p31, -⟩ := h28
            have hF32 : ∀ j9 : Nat, ¬ (32 ≤ j9 ∧ j9 ≤ 34 ∨ 41 ≤ j9 ∧ j9 ≤ 56) → M27 j9 = M j9 := fun j9 h9 => ((f30 j9 (by omega)).trans (hF0 j9 h9))
            exact hQ _ _ ⟨hB29, hF32, (by omega), trivial⟩
          · skip
            refine sC_Ring_layOver hB lt3 cd4 (by decide) (rfl : zcd wC 30 = 6) (by omega) (by omega) (by omega) (by omega) (fun z33 M34 h35 => ?_)
            obtain ⟨hB36, f37, p38, -⟩ := h35
            have hF39 : ∀ j9 : Nat, ¬ (32 ≤ j9 ∧ j9 ≤ 34 ∨ 41 ≤ j9 ∧ j9 ≤ 56) → M34 j9 = M j9 := fun j9 h9 => ((f37 j9 (by omega)).trans (hF0 j9 h9))
            exact hQ _ _ ⟨hB36, hF39, (by omega), trivial⟩
        · skip
          exact hQ _ _ ⟨hB, hF0, (by omega), trivial⟩
set_option maxHeartbeats 4000000 in
set_option maxRecDepth 100000 in
theorem sC_set {M : zM} {a0 : Int} {a1 : Int} {a2 : Int} (hB : BN wC M) (v0 : (-2147483648) ≤ a0 ∧ a0 ≤ 2147483647) (v1 : (-2147483648) ≤ a1 ∧ a1 ≤ 2147483647) (v2 : (-2147483648) ≤ a2 ∧ a2 ≤ 2147483647) {Q : Int → zM → Prop} (hQ : ∀ (z : Int) (M1 : zM), BN wC M1 ∧ (∀ j9 : Nat, ¬ (32 ≤ j9 ∧ j9 ≤ 34 ∨ 41 ≤ j9 ∧ j9 ≤ 56) → M1 j9 = M j9) ∧ ((-2147483648) ≤ z ∧ z ≤ 2147483647) ∧ True → Q z M1) : wC_set a0 a1 a2 M Q := by
  unfold wC_set
  have hF0 : ∀ j9 : Nat, ¬ (32 ≤ j9 ∧ j9 ≤ 34 ∨ 41 ≤ j9 ∧ j9 ≤ 56) → M j9 = M j9 := fun j9 _ => rfl
  refine sC_Studio_find hB (by omega) (fun h2 => ?_) (fun q1 h2 => ?_)
  · skip
    refine ⟨fun _ => ?_, fun q9 h9 => nomatch h9⟩
    exact hQ _ _ ⟨hB, hF0, (by omega), trivial⟩
  · skip
    refine ⟨(fun h9 => nomatch h9), fun q9 h9 => ?_⟩
    obtain rfl := Option.some.inj h9
    obtain ⟨⟨lt3, cd4⟩, h2⟩ := h2
    refine ⟨⟨lt3, cd4⟩, ?_⟩
    obtain ⟨lt5, cd6, lt7, cd8, lt9, cd10⟩ := nx_ring q1 lt3 cd4
    have s11 : sI a1 = a1 := sIo (by omega) (by omega)
    refine pJ0_dup ?_
    refine ⟨fun c12 => ?_, fun c12 => ?_⟩
    · skip
      refine ⟨fun c13 => ?_, fun c13 => ?_⟩
      · skip
        exact hQ _ _ ⟨hB, hF0, (by omega), trivial⟩
      · skip
        refine sC_Strip_has hB lt5 cd6 (by omega) (fun z14  h15 => ?_)
        obtain ⟨p16, p17, -⟩ := h15
        refine ⟨fun c18 => ?_, fun c18 => ?_⟩
        · skip
          exact hQ _ _ ⟨hB, hF0, (by omega), trivial⟩
        · skip
          have q19 : 0 ≤ (M q1 2) ∧ (M q1 2) ≤ 23 := BN.at hB cd4 rfl
          intro M20 e21
          have hB22 : BN wC M20 := by rw [e21]; exact BN.up hB cd4 rfl (by omega) (by omega)
          have hF23 : ∀ j9 : Nat, ¬ (32 ≤ j9 ∧ j9 ≤ 34 ∨ 41 ≤ j9 ∧ j9 ≤ 56) → M20 j9 = M j9 := fun j9 h9 => by rw [e21]; exact (zup_row _ _ (by omega)).trans (hF0 j9 h9)
          have s24 : sI (M q1 2) = (M q1 2) := sIo (by omega) (by omega)
          exact hQ _ _ ⟨hB22, hF23, (by omega), trivial⟩
    · skip
      refine sC_isMotor hB (by omega) (fun z25  h26 => ?_)
      obtain ⟨p27, p28, -⟩ := h26
      refine ⟨fun c29 => ?_, fun c29 => ?_⟩
      · skip
        refine ⟨fun c30 => ?_, fun c30 => ?_⟩
        · skip
          exact hQ _ _ ⟨hB, hF0, (by omega), trivial⟩
        · skip
          refine sC_Strip_has hB lt5 cd6 (by omega) (fun z31  h32 => ?_)
          obtain ⟨p33, p34, -⟩ := h32
          refine ⟨fun c35 => ?_, fun c35 => ?_⟩
          · skip
            exact hQ _ _ ⟨hB, hF0, (by omega), trivial⟩
          · skip
            have q36 : 0 ≤ (M q1 2) ∧ (M q1 2) ≤ 23 := BN.at hB cd4 rfl
            intro M37 e38
            have hB39 : BN wC M37 := by rw [e38]; exact BN.up hB cd4 rfl (by omega) (by omega)
            have hF40 : ∀ j9 : Nat, ¬ (32 ≤ j9 ∧ j9 ≤ 34 ∨ 41 ≤ j9 ∧ j9 ≤ 56) → M37 j9 = M j9 := fun j9 h9 => by rw [e38]; exact (zup_row _ _ (by omega)).trans (hF0 j9 h9)
            have s41 : sI (M q1 2) = (M q1 2) := sIo (by omega) (by omega)
            exact hQ _ _ ⟨hB39, hF40, (by omega), trivial⟩
      · skip
        have q42 : 0 ≤ (M q1 1) ∧ (M q1 1) ≤ 1 := BN.at hB cd4 rfl
        intro M43 e44
        have hB45 : BN wC M43 := by rw [e44]; exact BN.up hB cd4 rfl (by omega) (by omega)
        have hF46 : ∀ j9 : Nat, ¬ (32 ≤ j9 ∧ j9 ≤ 34 ∨ 41 ≤ j9 ∧ j9 ≤ 56) → M43 j9 = M j9 := fun j9 h9 => by rw [e44]; exact (zup_row _ _ (by omega)).trans (hF0 j9 h9)
        have s47 : sI (M q1 1) = (M q1 1) := sIo (by omega) (by omega)
        exact hQ _ _ ⟨hB45, hF46, (by omega), trivial⟩
set_option maxHeartbeats 4000000 in
set_option maxRecDepth 100000 in
theorem sC_bitCount {M : zM} {a0 : Int} (hB : BN wC M) (v0 : (-2147483648) ≤ a0 ∧ a0 ≤ 2147483647) {Q : Int → Prop} (hQ : ∀ (z : Int), ((-2147483648) ≤ z ∧ z ≤ 2147483647) ∧ True → Q z) : wC_bitCount a0 M Q := by
  unfold wC_bitCount
  have q1 := ushrI_R a0 1
  have q2 := andI_br (ushrI a0 1) (c := 1431655765) (by decide) (by decide)
  have q3 := andI_br (a0 - (andI (ushrI a0 1) 1431655765)) (c := 858993459) (by decide) (by decide)
  have q4 := ushrI_R (a0 - (andI (ushrI a0 1) 1431655765)) 2
  have q5 := andI_br (ushrI (a0 - (andI (ushrI a0 1) 1431655765)) 2) (c := 858993459) (by decide) (by decide)
  intro t6 e7
  have q8 := ushrI_R t6 4
  have q9 := andI_br (t6 + (ushrI t6 4)) (c := 252645135) (by decide) (by decide)
  have q10 := ushrI_R (andI (t6 + (ushrI t6 4)) 252645135) 8
  intro t11 e12
  have q13 := ushrI_R t11 16
  have q14 := andI_br (t11 + (ushrI t11 16)) (c := 63) (by decide) (by decide)
  exact hQ _ ⟨(by omega), trivial⟩
set_option maxHeartbeats 4000000 in
set_option maxRecDepth 100000 in
theorem sC_Ring_putHead {M : zM} {j : Nat} {a0 : Int} {a1 : Int} (hB : BN wC M) (lt_j : j < nC) (cd_j : zcd wC j = 14) (v0 : (-2147483648) ≤ a0 ∧ a0 ≤ 2147483647) (v1 : (-2147483648) ≤ a1 ∧ a1 ≤ 2147483647) {Q : Int → zM → Prop} (hQ : ∀ (z : Int) (M1 : zM), BN wC M1 ∧ (∀ j9 : Nat, ¬ (j ≤ j9 ∧ j9 ≤ j + 3) → M1 j9 = M j9) ∧ ((-2147483648) ≤ z ∧ z ≤ 2147483647) ∧ True → Q z M1) : wC_Ring_putHead j a0 a1 M Q := by
  unfold wC_Ring_putHead
  have hF0 : ∀ j9 : Nat, ¬ (j ≤ j9 ∧ j9 ≤ j + 3) → M j9 = M j9 := fun j9 _ => rfl
  obtain ⟨lt1, cd2, lt3, cd4, lt5, cd6⟩ := nx_ring j lt_j cd_j
  have s7 : sI a1 = a1 := sIo (by omega) (by omega)
  refine pJ1_dup ?_
  refine ⟨fun c8 => ?_, fun c8 => ?_⟩
  · skip
    have q9 : (-2147483648) ≤ (M j 3) ∧ (M j 3) ≤ 2147483647 := BN.at hB cd_j rfl
    have q10 := shlI_R 1 a0
    have q11 := xorI_R (shlI 1 a0) (-1)
    have q12 := andI_R (M j 3) (xorI (shlI 1 a0) (-1))
    have s13 : sI (andI (M j 3) (xorI (shlI 1 a0) (-1))) = (andI (M j 3) (xorI (shlI 1 a0) (-1))) := sIo (by omega) (by omega)
    refine ⟨fun c14 => ?_, fun c14 => ?_⟩
    · skip
      intro M15 e16
      have hB17 : BN wC M15 := by rw [e16]; exact BN.up hB cd_j rfl (by omega) (by omega)
      have hF18 : ∀ j9 : Nat, ¬ (j ≤ j9 ∧ j9 ≤ j + 3) → M15 j9 = M j9 := fun j9 h9 => by rw [e16]; exact (zup_row _ _ (by omega)).trans (hF0 j9 h9)
      refine sC_Ring_listen hB17 lt_j cd_j (fun  M19 h20 => ?_)
      obtain ⟨hB21, f22, -⟩ := h20
      have hF23 : ∀ j9 : Nat, ¬ (j ≤ j9 ∧ j9 ≤ j + 3) → M19 j9 = M j9 := fun j9 h9 => ((f22 j9 (by omega)).trans (hF18 j9 h9))
      have q24 : (-2147483648) ≤ (M19 j 3) ∧ (M19 j 3) ≤ 2147483647 := BN.at hB21 cd_j rfl
      refine sC_bitCount hB21 (by omega) (fun z25  h26 => ?_)
      obtain ⟨p27, -⟩ := h26
      exact hQ _ _ ⟨hB21, hF23, (by omega), trivial⟩
    · skip
      exact hQ _ _ ⟨hB, hF0, (by omega), trivial⟩
  · skip
    have q28 : (-2147483648) ≤ (M j 3) ∧ (M j 3) ≤ 2147483647 := BN.at hB cd_j rfl
    have q29 := shlI_R 1 a0
    have q30 := orI_R (M j 3) (shlI 1 a0)
    have s31 : sI (orI (M j 3) (shlI 1 a0)) = (orI (M j 3) (shlI 1 a0)) := sIo (by omega) (by omega)
    refine ⟨fun c32 => ?_, fun c32 => ?_⟩
    · skip
      intro M33 e34
      have hB35 : BN wC M33 := by rw [e34]; exact BN.up hB cd_j rfl (by omega) (by omega)
      have hF36 : ∀ j9 : Nat, ¬ (j ≤ j9 ∧ j9 ≤ j + 3) → M33 j9 = M j9 := fun j9 h9 => by rw [e34]; exact (zup_row _ _ (by omega)).trans (hF0 j9 h9)
      refine sC_Ring_listen hB35 lt_j cd_j (fun  M37 h38 => ?_)
      obtain ⟨hB39, f40, -⟩ := h38
      have hF41 : ∀ j9 : Nat, ¬ (j ≤ j9 ∧ j9 ≤ j + 3) → M37 j9 = M j9 := fun j9 h9 => ((f40 j9 (by omega)).trans (hF36 j9 h9))
      have q42 : (-2147483648) ≤ (M37 j 3) ∧ (M37 j 3) ≤ 2147483647 := BN.at hB39 cd_j rfl
      refine sC_bitCount hB39 (by omega) (fun z43  h44 => ?_)
      obtain ⟨p45, -⟩ := h44
      exact hQ _ _ ⟨hB39, hF41, (by omega), trivial⟩
    · skip
      exact hQ _ _ ⟨hB, hF0, (by omega), trivial⟩
set_option maxHeartbeats 4000000 in
set_option maxRecDepth 100000 in
theorem sC_head {M : zM} {a0 : Int} {a1 : Int} {a2 : Int} (hB : BN wC M) (v0 : (-2147483648) ≤ a0 ∧ a0 ≤ 2147483647) (v1 : (-2147483648) ≤ a1 ∧ a1 ≤ 2147483647) (v2 : (-2147483648) ≤ a2 ∧ a2 ≤ 2147483647) {Q : Int → zM → Prop} (hQ : ∀ (z : Int) (M1 : zM), BN wC M1 ∧ (∀ j9 : Nat, ¬ (32 ≤ j9 ∧ j9 ≤ 34 ∨ 41 ≤ j9 ∧ j9 ≤ 56) → M1 j9 = M j9) ∧ ((-2147483648) ≤ z ∧ z ≤ 2147483647) ∧ True → Q z M1) : wC_head a0 a1 a2 M Q := by
  unfold wC_head
  have hF0 : ∀ j9 : Nat, ¬ (32 ≤ j9 ∧ j9 ≤ 34 ∨ 41 ≤ j9 ∧ j9 ≤ 56) → M j9 = M j9 := fun j9 _ => rfl
  refine sC_Studio_find hB (by omega) (fun h2 => ?_) (fun q1 h2 => ?_)
  · skip
    refine ⟨fun _ => ?_, fun q9 h9 => nomatch h9⟩
    exact hQ _ _ ⟨hB, hF0, (by omega), trivial⟩
  · skip
    refine ⟨(fun h9 => nomatch h9), fun q9 h9 => ?_⟩
    obtain rfl := Option.some.inj h9
    obtain ⟨⟨lt3, cd4⟩, h2⟩ := h2
    refine ⟨⟨lt3, cd4⟩, ?_⟩
    obtain ⟨lt5, cd6, lt7, cd8, lt9, cd10⟩ := nx_ring q1 lt3 cd4
    refine sC_within hB (by omega) (by omega) (by omega) (fun z11  h12 => ?_)
    obtain ⟨p13, p14, -⟩ := h12
    refine ⟨fun c15 => ?_, fun c15 => ?_⟩
    · skip
      refine sC_Ring_putHead hB lt3 cd4 (by omega) (by omega) (fun z16 M17 h18 => ?_)
      obtain ⟨hB19, f20, p21, -⟩ := h18
      have hF22 : ∀ j9 : Nat, ¬ (32 ≤ j9 ∧ j9 ≤ 34 ∨ 41 ≤ j9 ∧ j9 ≤ 56) → M17 j9 = M j9 := fun j9 h9 => ((f20 j9 (by omega)).trans (hF0 j9 h9))
      exact hQ _ _ ⟨hB19, hF22, (by omega), trivial⟩
    · skip
      exact hQ _ _ ⟨hB, hF0, (by omega), trivial⟩
theorem sC_Studio_motorOf {M : zM} {a0 : Int} (hB : BN wC M) (v0 : -2147483648 ≤ a0 ∧ a0 ≤ 2147483647) {Q : Option Nat → Prop} (hs : ∀ q, ((q < nC ∧ zcd wC q = 11) ∧ ((q = 35 ∧ a0 = 0) ∨ (q = 38 ∧ a0 ≠ 0))) → Q (some q)) : wC_Studio_motorOf a0 M Q := by
  unfold wC_Studio_motorOf
  have s1 : sI a0 = a0 := sIo (by omega) (by omega)
  rw [s1]
  exact ⟨fun c => hs _ ⟨by decide, Or.inr ⟨rfl, c⟩⟩, fun c => hs _ ⟨by decide, Or.inl ⟨rfl, c⟩⟩⟩
set_option maxHeartbeats 4000000 in
set_option maxRecDepth 100000 in
theorem sC_Motor_tell {M : zM} {j : Nat} {a0 : Int} {a1 : Int} (hB : BN wC M) (lt_j : j < nC) (cd_j : zcd wC j = 11) (v0 : 0 ≤ a0 ∧ a0 ≤ 5000) (v1 : (-9) ≤ a1 ∧ a1 ≤ 9) {Q : Int → zM → Prop} (hQ : ∀ (z : Int) (M1 : zM), BN wC M1 ∧ (∀ j9 : Nat, ¬ (j ≤ j9 ∧ j9 ≤ j + 2) → M1 j9 = M j9) ∧ (0 ≤ z ∧ z ≤ 1) ∧ True → Q z M1) : wC_Motor_tell j a0 a1 M Q := by
  unfold wC_Motor_tell
  have hF0 : ∀ j9 : Nat, ¬ (j ≤ j9 ∧ j9 ≤ j + 2) → M j9 = M j9 := fun j9 _ => rfl
  obtain ⟨lt1, cd2, lt3, cd4⟩ := nx_motor j lt_j cd_j
  have b9 : 0 ≤ M j 2 ∧ M j 2 ≤ 12 := BN.at hB cd_j rfl
  refine pL1_of (fun x5 => (0 ≤ x5 ∧ x5 ≤ 1000000) ∧ (x5 ≤ M j 2) ∧ True) (fun x5 => (1000000 - x5).toNat) ⟨(by omega), (by omega), trivial⟩ (fun K x5 h8 k9 => ?_)
  obtain ⟨i6, i7, -⟩ := h8
  have q10 : 0 ≤ (M j 2) ∧ (M j 2) ≤ 12 := BN.at hB cd_j rfl
  have s11 : sI x5 = x5 := sIo (by omega) (by omega)
  have s12 : sI (M j 2) = (M j 2) := sIo (by omega) (by omega)
  refine pJ0_dup ?_
  refine ⟨fun c13 => ?_, fun c13 => ?_⟩
  · skip
    refine pJ0_dup ?_
    refine ⟨fun c15 => ?_, fun c15 => ?_⟩
    · skip
      refine ⟨fun c17 => ?_, fun c17 => ?_⟩
      · skip
        refine wL1_of (fun x19 M20 => BN wC M20 ∧ (∀ j9 : Nat, ¬ (j ≤ j9 ∧ j9 ≤ j + 2) → M20 j9 = M j9) ∧ (0 ≤ x19 ∧ x19 ≤ 11) ∧ (M20 j 2 = M j 2) ∧ True) (fun x19 M20 => (x19 + 1).toNat) ⟨hB, hF0, (by omega), (by omega), trivial⟩ (fun K x19 M20 h25 k26 => ?_)
        obtain ⟨hB21, hF22, i23, i24, -⟩ := h25
        have s27 : sI x19 = x19 := sIo (by omega) (by omega)
        have s28 : sI x5 = x5 := sIo (by omega) (by omega)
        refine ⟨fun c29 => ?_, fun c29 => ?_⟩
        · skip
          have o30 : 0 ≤ (sI x5) ∧ (sI x5) < 12 := by omega
          refine ⟨o30, ?_⟩
          intro M31 e32
          have hB33 : BN wC M31 := by rw [e32]; exact BN.up hB21 cd2 rfl (by omega) (by omega)
          have hF34 : ∀ j9 : Nat, ¬ (j ≤ j9 ∧ j9 ≤ j + 2) → M31 j9 = M j9 := fun j9 h9 => by rw [e32]; exact (zup_row _ _ (by omega)).trans (hF22 j9 h9)
          have r35 : M31 j 2 = M20 j 2 := by rw [e32]; exact zup_n _ _ (by omega)
          have o36 : 0 ≤ (sI x5) ∧ (sI x5) < 12 := by omega
          refine ⟨o36, ?_⟩
          intro M37 e38
          have hB39 : BN wC M37 := by rw [e38]; exact BN.up hB33 cd4 rfl (by omega) (by omega)
          have hF40 : ∀ j9 : Nat, ¬ (j ≤ j9 ∧ j9 ≤ j + 2) → M37 j9 = M j9 := fun j9 h9 => by rw [e38]; exact (zup_row _ _ (by omega)).trans (hF34 j9 h9)
          have r41 : M37 j 2 = M31 j 2 := by rw [e38]; exact zup_n _ _ (by omega)
          have q42 : 0 ≤ (M37 j 2) ∧ (M37 j 2) ≤ 12 := BN.at hB39 cd_j rfl
          intro M43 e44
          have hB45 : BN wC M43 := by rw [e44]; exact BN.up hB39 cd_j rfl (by omega) (by omega)
          have hF46 : ∀ j9 : Nat, ¬ (j ≤ j9 ∧ j9 ≤ j + 2) → M43 j9 = M j9 := fun j9 h9 => by rw [e44]; exact (zup_row _ _ (by omega)).trans (hF40 j9 h9)
          have r47 : M43 j 2 = ((M37 j 2) + 1) := by rw [e44]; exact zup_s _ _ _ _
          exact hQ _ _ ⟨hB45, hF46, (by omega), trivial⟩
        · skip
          have s48 : sI (x19 - 1) = (x19 - 1) := sIo (by omega) (by omega)
          have o49 : 0 ≤ (sI (x19 - 1)) ∧ (sI (x19 - 1)) < 12 := by omega
          refine ⟨o49, ?_⟩
          have q50 : 0 ≤ (M20 (j + 1) (sI (x19 - 1)).toNat) ∧ (M20 (j + 1) (sI (x19 - 1)).toNat) ≤ 5000 := BN.at hB21 cd2 rfl
          have o51 : 0 ≤ (sI x19) ∧ (sI x19) < 12 := by omega
          refine ⟨o51, ?_⟩
          intro M52 e53
          have hB54 : BN wC M52 := by rw [e53]; exact BN.up hB21 cd2 rfl (by omega) (by omega)
          have hF55 : ∀ j9 : Nat, ¬ (j ≤ j9 ∧ j9 ≤ j + 2) → M52 j9 = M j9 := fun j9 h9 => by rw [e53]; exact (zup_row _ _ (by omega)).trans (hF22 j9 h9)
          have r56 : M52 j 2 = M20 j 2 := by rw [e53]; exact zup_n _ _ (by omega)
          have o57 : 0 ≤ (sI (x19 - 1)) ∧ (sI (x19 - 1)) < 12 := by omega
          refine ⟨o57, ?_⟩
          have q58 : (-9) ≤ (M52 (j + 2) (sI (x19 - 1)).toNat) ∧ (M52 (j + 2) (sI (x19 - 1)).toNat) ≤ 9 := BN.at hB54 cd4 rfl
          have o59 : 0 ≤ (sI x19) ∧ (sI x19) < 12 := by omega
          refine ⟨o59, ?_⟩
          intro M60 e61
          have hB62 : BN wC M60 := by rw [e61]; exact BN.up hB54 cd4 rfl (by omega) (by omega)
          have hF63 : ∀ j9 : Nat, ¬ (j ≤ j9 ∧ j9 ≤ j + 2) → M60 j9 = M j9 := fun j9 h9 => by rw [e61]; exact (zup_row _ _ (by omega)).trans (hF55 j9 h9)
          have r64 : M60 j 2 = M52 j 2 := by rw [e61]; exact zup_n _ _ (by omega)
          exact k26 _ _ ⟨hB62, hF63, (by omega), (by omega), trivial⟩ (by omega)
      · skip
        exact hQ _ _ ⟨hB, hF0, (by omega), trivial⟩
    · skip
      have o65 : 0 ≤ (sI x5) ∧ (sI x5) < 12 := by omega
      refine ⟨o65, ?_⟩
      have q66 : 0 ≤ (M (j + 1) (sI x5).toNat) ∧ (M (j + 1) (sI x5).toNat) ≤ 5000 := BN.at hB cd2 rfl
      have s67 : sI (M (j + 1) (sI x5).toNat) = (M (j + 1) (sI x5).toNat) := sIo (by omega) (by omega)
      have s68 : sI a0 = a0 := sIo (by omega) (by omega)
      refine ⟨fun c69 => ?_, fun c69 => ?_⟩
      · skip
        refine ⟨fun c71 => ?_, fun c71 => ?_⟩
        · skip
          refine wL1_of (fun x73 M74 => BN wC M74 ∧ (∀ j9 : Nat, ¬ (j ≤ j9 ∧ j9 ≤ j + 2) → M74 j9 = M j9) ∧ (0 ≤ x73 ∧ x73 ≤ 11) ∧ (M74 j 2 = M j 2) ∧ True) (fun x73 M74 => (x73 + 1).toNat) ⟨hB, hF0, (by omega), (by omega), trivial⟩ (fun K x73 M74 h79 k80 => ?_)
          obtain ⟨hB75, hF76, i77, i78, -⟩ := h79
          have s81 : sI x73 = x73 := sIo (by omega) (by omega)
          have s82 : sI x5 = x5 := sIo (by omega) (by omega)
          refine ⟨fun c83 => ?_, fun c83 => ?_⟩
          · skip
            have o84 : 0 ≤ (sI x5) ∧ (sI x5) < 12 := by omega
            refine ⟨o84, ?_⟩
            intro M85 e86
            have hB87 : BN wC M85 := by rw [e86]; exact BN.up hB75 cd2 rfl (by omega) (by omega)
            have hF88 : ∀ j9 : Nat, ¬ (j ≤ j9 ∧ j9 ≤ j + 2) → M85 j9 = M j9 := fun j9 h9 => by rw [e86]; exact (zup_row _ _ (by omega)).trans (hF76 j9 h9)
            have r89 : M85 j 2 = M74 j 2 := by rw [e86]; exact zup_n _ _ (by omega)
            have o90 : 0 ≤ (sI x5) ∧ (sI x5) < 12 := by omega
            refine ⟨o90, ?_⟩
            intro M91 e92
            have hB93 : BN wC M91 := by rw [e92]; exact BN.up hB87 cd4 rfl (by omega) (by omega)
            have hF94 : ∀ j9 : Nat, ¬ (j ≤ j9 ∧ j9 ≤ j + 2) → M91 j9 = M j9 := fun j9 h9 => by rw [e92]; exact (zup_row _ _ (by omega)).trans (hF88 j9 h9)
            have r95 : M91 j 2 = M85 j 2 := by rw [e92]; exact zup_n _ _ (by omega)
            have q96 : 0 ≤ (M91 j 2) ∧ (M91 j 2) ≤ 12 := BN.at hB93 cd_j rfl
            intro M97 e98
            have hB99 : BN wC M97 := by rw [e98]; exact BN.up hB93 cd_j rfl (by omega) (by omega)
            have hF100 : ∀ j9 : Nat, ¬ (j ≤ j9 ∧ j9 ≤ j + 2) → M97 j9 = M j9 := fun j9 h9 => by rw [e98]; exact (zup_row _ _ (by omega)).trans (hF94 j9 h9)
            have r101 : M97 j 2 = ((M91 j 2) + 1) := by rw [e98]; exact zup_s _ _ _ _
            exact hQ _ _ ⟨hB99, hF100, (by omega), trivial⟩
          · skip
            have s102 : sI (x73 - 1) = (x73 - 1) := sIo (by omega) (by omega)
            have o103 : 0 ≤ (sI (x73 - 1)) ∧ (sI (x73 - 1)) < 12 := by omega
            refine ⟨o103, ?_⟩
            have q104 : 0 ≤ (M74 (j + 1) (sI (x73 - 1)).toNat) ∧ (M74 (j + 1) (sI (x73 - 1)).toNat) ≤ 5000 := BN.at hB75 cd2 rfl
            have o105 : 0 ≤ (sI x73) ∧ (sI x73) < 12 := by omega
            refine ⟨o105, ?_⟩
            intro M106 e107
            have hB108 : BN wC M106 := by rw [e107]; exact BN.up hB75 cd2 rfl (by omega) (by omega)
            have hF109 : ∀ j9 : Nat, ¬ (j ≤ j9 ∧ j9 ≤ j + 2) → M106 j9 = M j9 := fun j9 h9 => by rw [e107]; exact (zup_row _ _ (by omega)).trans (hF76 j9 h9)
            have r110 : M106 j 2 = M74 j 2 := by rw [e107]; exact zup_n _ _ (by omega)
            have o111 : 0 ≤ (sI (x73 - 1)) ∧ (sI (x73 - 1)) < 12 := by omega
            refine ⟨o111, ?_⟩
            have q112 : (-9) ≤ (M106 (j + 2) (sI (x73 - 1)).toNat) ∧ (M106 (j + 2) (sI (x73 - 1)).toNat) ≤ 9 := BN.at hB108 cd4 rfl
            have o113 : 0 ≤ (sI x73) ∧ (sI x73) < 12 := by omega
            refine ⟨o113, ?_⟩
            intro M114 e115
            have hB116 : BN wC M114 := by rw [e115]; exact BN.up hB108 cd4 rfl (by omega) (by omega)
            have hF117 : ∀ j9 : Nat, ¬ (j ≤ j9 ∧ j9 ≤ j + 2) → M114 j9 = M j9 := fun j9 h9 => by rw [e115]; exact (zup_row _ _ (by omega)).trans (hF109 j9 h9)
            have r118 : M114 j 2 = M106 j 2 := by rw [e115]; exact zup_n _ _ (by omega)
            exact k80 _ _ ⟨hB116, hF117, (by omega), (by omega), trivial⟩ (by omega)
        · skip
          exact hQ _ _ ⟨hB, hF0, (by omega), trivial⟩
      · skip
        have o119 : 0 ≤ (sI x5) ∧ (sI x5) < 12 := by omega
        refine ⟨o119, ?_⟩
        intro M120 e121
        have hB122 : BN wC M120 := by rw [e121]; exact BN.up hB cd4 rfl (by omega) (by omega)
        have hF123 : ∀ j9 : Nat, ¬ (j ≤ j9 ∧ j9 ≤ j + 2) → M120 j9 = M j9 := fun j9 h9 => by rw [e121]; exact (zup_row _ _ (by omega)).trans (hF0 j9 h9)
        have r124 : M120 j 2 = M j 2 := by rw [e121]; exact zup_n _ _ (by omega)
        exact hQ _ _ ⟨hB122, hF123, (by omega), trivial⟩
  · skip
    have o125 : 0 ≤ (sI x5) ∧ (sI x5) < 12 := by omega
    refine ⟨o125, ?_⟩
    have q126 : 0 ≤ (M (j + 1) (sI x5).toNat) ∧ (M (j + 1) (sI x5).toNat) ≤ 5000 := BN.at hB cd2 rfl
    have s127 : sI (M (j + 1) (sI x5).toNat) = (M (j + 1) (sI x5).toNat) := sIo (by omega) (by omega)
    have s128 : sI a0 = a0 := sIo (by omega) (by omega)
    refine ⟨fun c129 => ?_, fun c129 => ?_⟩
    · skip
      refine pJ0_dup ?_
      refine ⟨fun c131 => ?_, fun c131 => ?_⟩
      · skip
        refine ⟨fun c133 => ?_, fun c133 => ?_⟩
        · skip
          refine wL1_of (fun x135 M136 => BN wC M136 ∧ (∀ j9 : Nat, ¬ (j ≤ j9 ∧ j9 ≤ j + 2) → M136 j9 = M j9) ∧ (0 ≤ x135 ∧ x135 ≤ 11) ∧ (M136 j 2 = M j 2) ∧ True) (fun x135 M136 => (x135 + 1).toNat) ⟨hB, hF0, (by omega), (by omega), trivial⟩ (fun K x135 M136 h141 k142 => ?_)
          obtain ⟨hB137, hF138, i139, i140, -⟩ := h141
          have s143 : sI x135 = x135 := sIo (by omega) (by omega)
          have s144 : sI x5 = x5 := sIo (by omega) (by omega)
          refine ⟨fun c145 => ?_, fun c145 => ?_⟩
          · skip
            have o146 : 0 ≤ (sI x5) ∧ (sI x5) < 12 := by omega
            refine ⟨o146, ?_⟩
            intro M147 e148
            have hB149 : BN wC M147 := by rw [e148]; exact BN.up hB137 cd2 rfl (by omega) (by omega)
            have hF150 : ∀ j9 : Nat, ¬ (j ≤ j9 ∧ j9 ≤ j + 2) → M147 j9 = M j9 := fun j9 h9 => by rw [e148]; exact (zup_row _ _ (by omega)).trans (hF138 j9 h9)
            have r151 : M147 j 2 = M136 j 2 := by rw [e148]; exact zup_n _ _ (by omega)
            have o152 : 0 ≤ (sI x5) ∧ (sI x5) < 12 := by omega
            refine ⟨o152, ?_⟩
            intro M153 e154
            have hB155 : BN wC M153 := by rw [e154]; exact BN.up hB149 cd4 rfl (by omega) (by omega)
            have hF156 : ∀ j9 : Nat, ¬ (j ≤ j9 ∧ j9 ≤ j + 2) → M153 j9 = M j9 := fun j9 h9 => by rw [e154]; exact (zup_row _ _ (by omega)).trans (hF150 j9 h9)
            have r157 : M153 j 2 = M147 j 2 := by rw [e154]; exact zup_n _ _ (by omega)
            have q158 : 0 ≤ (M153 j 2) ∧ (M153 j 2) ≤ 12 := BN.at hB155 cd_j rfl
            intro M159 e160
            have hB161 : BN wC M159 := by rw [e160]; exact BN.up hB155 cd_j rfl (by omega) (by omega)
            have hF162 : ∀ j9 : Nat, ¬ (j ≤ j9 ∧ j9 ≤ j + 2) → M159 j9 = M j9 := fun j9 h9 => by rw [e160]; exact (zup_row _ _ (by omega)).trans (hF156 j9 h9)
            have r163 : M159 j 2 = ((M153 j 2) + 1) := by rw [e160]; exact zup_s _ _ _ _
            exact hQ _ _ ⟨hB161, hF162, (by omega), trivial⟩
          · skip
            have s164 : sI (x135 - 1) = (x135 - 1) := sIo (by omega) (by omega)
            have o165 : 0 ≤ (sI (x135 - 1)) ∧ (sI (x135 - 1)) < 12 := by omega
            refine ⟨o165, ?_⟩
            have q166 : 0 ≤ (M136 (j + 1) (sI (x135 - 1)).toNat) ∧ (M136 (j + 1) (sI (x135 - 1)).toNat) ≤ 5000 := BN.at hB137 cd2 rfl
            have o167 : 0 ≤ (sI x135) ∧ (sI x135) < 12 := by omega
            refine ⟨o167, ?_⟩
            intro M168 e169
            have hB170 : BN wC M168 := by rw [e169]; exact BN.up hB137 cd2 rfl (by omega) (by omega)
            have hF171 : ∀ j9 : Nat, ¬ (j ≤ j9 ∧ j9 ≤ j + 2) → M168 j9 = M j9 := fun j9 h9 => by rw [e169]; exact (zup_row _ _ (by omega)).trans (hF138 j9 h9)
            have r172 : M168 j 2 = M136 j 2 := by rw [e169]; exact zup_n _ _ (by omega)
            have o173 : 0 ≤ (sI (x135 - 1)) ∧ (sI (x135 - 1)) < 12 := by omega
            refine ⟨o173, ?_⟩
            have q174 : (-9) ≤ (M168 (j + 2) (sI (x135 - 1)).toNat) ∧ (M168 (j + 2) (sI (x135 - 1)).toNat) ≤ 9 := BN.at hB170 cd4 rfl
            have o175 : 0 ≤ (sI x135) ∧ (sI x135) < 12 := by omega
            refine ⟨o175, ?_⟩
            intro M176 e177
            have hB178 : BN wC M176 := by rw [e177]; exact BN.up hB170 cd4 rfl (by omega) (by omega)
            have hF179 : ∀ j9 : Nat, ¬ (j ≤ j9 ∧ j9 ≤ j + 2) → M176 j9 = M j9 := fun j9 h9 => by rw [e177]; exact (zup_row _ _ (by omega)).trans (hF171 j9 h9)
            have r180 : M176 j 2 = M168 j 2 := by rw [e177]; exact zup_n _ _ (by omega)
            exact k142 _ _ ⟨hB178, hF179, (by omega), (by omega), trivial⟩ (by omega)
        · skip
          exact hQ _ _ ⟨hB, hF0, (by omega), trivial⟩
      · skip
        have o181 : 0 ≤ (sI x5) ∧ (sI x5) < 12 := by omega
        refine ⟨o181, ?_⟩
        refine ⟨fun c183 => ?_, fun c183 => ?_⟩
        · skip
          refine ⟨fun c185 => ?_, fun c185 => ?_⟩
          · skip
            refine wL1_of (fun x187 M188 => BN wC M188 ∧ (∀ j9 : Nat, ¬ (j ≤ j9 ∧ j9 ≤ j + 2) → M188 j9 = M j9) ∧ (0 ≤ x187 ∧ x187 ≤ 11) ∧ (M188 j 2 = M j 2) ∧ True) (fun x187 M188 => (x187 + 1).toNat) ⟨hB, hF0, (by omega), (by omega), trivial⟩ (fun K x187 M188 h193 k194 => ?_)
            obtain ⟨hB189, hF190, i191, i192, -⟩ := h193
            have s195 : sI x187 = x187 := sIo (by omega) (by omega)
            have s196 : sI x5 = x5 := sIo (by omega) (by omega)
            refine ⟨fun c197 => ?_, fun c197 => ?_⟩
            · skip
              have o198 : 0 ≤ (sI x5) ∧ (sI x5) < 12 := by omega
              refine ⟨o198, ?_⟩
              intro M199 e200
              have hB201 : BN wC M199 := by rw [e200]; exact BN.up hB189 cd2 rfl (by omega) (by omega)
              have hF202 : ∀ j9 : Nat, ¬ (j ≤ j9 ∧ j9 ≤ j + 2) → M199 j9 = M j9 := fun j9 h9 => by rw [e200]; exact (zup_row _ _ (by omega)).trans (hF190 j9 h9)
              have r203 : M199 j 2 = M188 j 2 := by rw [e200]; exact zup_n _ _ (by omega)
              have o204 : 0 ≤ (sI x5) ∧ (sI x5) < 12 := by omega
              refine ⟨o204, ?_⟩
              intro M205 e206
              have hB207 : BN wC M205 := by rw [e206]; exact BN.up hB201 cd4 rfl (by omega) (by omega)
              have hF208 : ∀ j9 : Nat, ¬ (j ≤ j9 ∧ j9 ≤ j + 2) → M205 j9 = M j9 := fun j9 h9 => by rw [e206]; exact (zup_row _ _ (by omega)).trans (hF202 j9 h9)
              have r209 : M205 j 2 = M199 j 2 := by rw [e206]; exact zup_n _ _ (by omega)
              have q210 : 0 ≤ (M205 j 2) ∧ (M205 j 2) ≤ 12 := BN.at hB207 cd_j rfl
              intro M211 e212
              have hB213 : BN wC M211 := by rw [e212]; exact BN.up hB207 cd_j rfl (by omega) (by omega)
              have hF214 : ∀ j9 : Nat, ¬ (j ≤ j9 ∧ j9 ≤ j + 2) → M211 j9 = M j9 := fun j9 h9 => by rw [e212]; exact (zup_row _ _ (by omega)).trans (hF208 j9 h9)
              have r215 : M211 j 2 = ((M205 j 2) + 1) := by rw [e212]; exact zup_s _ _ _ _
              exact hQ _ _ ⟨hB213, hF214, (by omega), trivial⟩
            · skip
              have s216 : sI (x187 - 1) = (x187 - 1) := sIo (by omega) (by omega)
              have o217 : 0 ≤ (sI (x187 - 1)) ∧ (sI (x187 - 1)) < 12 := by omega
              refine ⟨o217, ?_⟩
              have q218 : 0 ≤ (M188 (j + 1) (sI (x187 - 1)).toNat) ∧ (M188 (j + 1) (sI (x187 - 1)).toNat) ≤ 5000 := BN.at hB189 cd2 rfl
              have o219 : 0 ≤ (sI x187) ∧ (sI x187) < 12 := by omega
              refine ⟨o219, ?_⟩
              intro M220 e221
              have hB222 : BN wC M220 := by rw [e221]; exact BN.up hB189 cd2 rfl (by omega) (by omega)
              have hF223 : ∀ j9 : Nat, ¬ (j ≤ j9 ∧ j9 ≤ j + 2) → M220 j9 = M j9 := fun j9 h9 => by rw [e221]; exact (zup_row _ _ (by omega)).trans (hF190 j9 h9)
              have r224 : M220 j 2 = M188 j 2 := by rw [e221]; exact zup_n _ _ (by omega)
              have o225 : 0 ≤ (sI (x187 - 1)) ∧ (sI (x187 - 1)) < 12 := by omega
              refine ⟨o225, ?_⟩
              have q226 : (-9) ≤ (M220 (j + 2) (sI (x187 - 1)).toNat) ∧ (M220 (j + 2) (sI (x187 - 1)).toNat) ≤ 9 := BN.at hB222 cd4 rfl
              have o227 : 0 ≤ (sI x187) ∧ (sI x187) < 12 := by omega
              refine ⟨o227, ?_⟩
              intro M228 e229
              have hB230 : BN wC M228 := by rw [e229]; exact BN.up hB222 cd4 rfl (by omega) (by omega)
              have hF231 : ∀ j9 : Nat, ¬ (j ≤ j9 ∧ j9 ≤ j + 2) → M228 j9 = M j9 := fun j9 h9 => by rw [e229]; exact (zup_row _ _ (by omega)).trans (hF223 j9 h9)
              have r232 : M228 j 2 = M220 j 2 := by rw [e229]; exact zup_n _ _ (by omega)
              exact k194 _ _ ⟨hB230, hF231, (by omega), (by omega), trivial⟩ (by omega)
          · skip
            exact hQ _ _ ⟨hB, hF0, (by omega), trivial⟩
        · skip
          have o233 : 0 ≤ (sI x5) ∧ (sI x5) < 12 := by omega
          refine ⟨o233, ?_⟩
          intro M234 e235
          have hB236 : BN wC M234 := by rw [e235]; exact BN.up hB cd4 rfl (by omega) (by omega)
          have hF237 : ∀ j9 : Nat, ¬ (j ≤ j9 ∧ j9 ≤ j + 2) → M234 j9 = M j9 := fun j9 h9 => by rw [e235]; exact (zup_row _ _ (by omega)).trans (hF0 j9 h9)
          have r238 : M234 j 2 = M j 2 := by rw [e235]; exact zup_n _ _ (by omega)
          exact hQ _ _ ⟨hB236, hF237, (by omega), trivial⟩
    · skip
      exact k9 _ ⟨(by omega), (by omega), trivial⟩ (by omega)
set_option maxHeartbeats 4000000 in
set_option maxRecDepth 100000 in
theorem sC_motor {M : zM} {a0 : Int} {a1 : Int} {a2 : Int} (hB : BN wC M) (v0 : (-2147483648) ≤ a0 ∧ a0 ≤ 2147483647) (v1 : (-2147483648) ≤ a1 ∧ a1 ≤ 2147483647) (v2 : (-2147483648) ≤ a2 ∧ a2 ≤ 2147483647) {Q : Int → zM → Prop} (hQ : ∀ (z : Int) (M1 : zM), BN wC M1 ∧ (∀ j9 : Nat, ¬ (32 ≤ j9 ∧ j9 ≤ 56) → M1 j9 = M j9) ∧ (0 ≤ z ∧ z ≤ 1) ∧ True → Q z M1) : wC_motor a0 a1 a2 M Q := by
  unfold wC_motor
  have hF0 : ∀ j9 : Nat, ¬ (32 ≤ j9 ∧ j9 ≤ 56) → M j9 = M j9 := fun j9 _ => rfl
  refine sC_isMotor hB (by omega) (fun z1  h2 => ?_)
  obtain ⟨p3, p4, -⟩ := h2
  refine ⟨fun c5 => ?_, fun c5 => ?_⟩
  · skip
    exact hQ _ _ ⟨hB, hF0, (by omega), trivial⟩
  · skip
    refine sC_within hB (by omega) (by omega) (by omega) (fun z6  h7 => ?_)
    obtain ⟨p8, p9, -⟩ := h7
    refine ⟨fun c10 => ?_, fun c10 => ?_⟩
    · skip
      exact hQ _ _ ⟨hB, hF0, (by omega), trivial⟩
    · skip
      refine sC_within hB (by omega) (by omega) (by omega) (fun z11  h12 => ?_)
      obtain ⟨p13, p14, -⟩ := h12
      refine ⟨fun c15 => ?_, fun c15 => ?_⟩
      · skip
        refine sC_Studio_motorOf hB (by omega) (fun q16 h17 => ?_)
        obtain ⟨⟨lt18, cd19⟩, h17⟩ := h17
        refine ⟨q16, rfl, ⟨lt18, cd19⟩, ?_⟩
        obtain ⟨lt20, cd21, lt22, cd23⟩ := nx_motor q16 lt18 cd19
        refine sC_Motor_tell hB lt18 cd19 (by omega) (by omega) (fun z24 M25 h26 => ?_)
        obtain ⟨hB27, f28, p29, -⟩ := h26
        have hF30 : ∀ j9 : Nat, ¬ (32 ≤ j9 ∧ j9 ≤ 56) → M25 j9 = M j9 := fun j9 h9 => ((f28 j9 (by omega)).trans (hF0 j9 h9))
        exact hQ _ _ ⟨hB27, hF30, (by omega), trivial⟩
      · skip
        exact hQ _ _ ⟨hB, hF0, (by omega), trivial⟩
set_option maxHeartbeats 4000000 in
set_option maxRecDepth 100000 in
theorem sC_Motor_forget {M : zM} {j : Nat} (hB : BN wC M) (lt_j : j < nC) (cd_j : zcd wC j = 11) {Q : zM → Prop} (hQ : ∀ (M1 : zM), BN wC M1 ∧ (∀ j9 : Nat, ¬ (j9 = j) → M1 j9 = M j9) ∧ (M1 j 2 = 0) ∧ True → Q M1) : wC_Motor_forget j M Q := by
  unfold wC_Motor_forget
  have hF0 : ∀ j9 : Nat, ¬ (j9 = j) → M j9 = M j9 := fun j9 _ => rfl
  obtain ⟨lt1, cd2, lt3, cd4⟩ := nx_motor j lt_j cd_j
  intro M5 e6
  have hB7 : BN wC M5 := by rw [e6]; exact BN.up hB cd_j rfl (by omega) (by omega)
  have hF8 : ∀ j9 : Nat, ¬ (j9 = j) → M5 j9 = M j9 := fun j9 h9 => by rw [e6]; exact (zup_row _ _ (by omega)).trans (hF0 j9 h9)
  have r9 : M5 j 2 = 0 := by rw [e6]; exact zup_s _ _ _ _
  exact hQ _ ⟨hB7, hF8, (by omega), trivial⟩
theorem sC_Studio_empty {M : zM} (hB : BN wC M) {Q : Int → zM → Prop} (hQ : ∀ z M1, (BN wC M1 ∧ (∀ j9 : Nat, ¬ (j9 = 32 ∨ j9 = 35 ∨ j9 = 38) → M1 j9 = M j9) ∧ (-2147483648 ≤ z ∧ z ≤ 2147483647) ∧ z = M 32 2 ∧ M1 32 2 = 0 ∧ M1 35 2 = 0 ∧ M1 38 2 = 0 ∧ True) → Q z M1) : wC_Studio_empty M Q := by
  unfold wC_Studio_empty
  intro M1 e1
  have hB1 : BN wC M1 := by rw [e1]; exact BN.up hB (rfl : zcd wC 32 = 8) rfl (by omega) (by omega)
  have b : 0 ≤ M 32 2 ∧ M 32 2 ≤ 4 := BN.at hB (rfl : zcd wC 32 = 8) rfl
  have s1 : sI (M 32 2) = M 32 2 := sIo (by omega) (by omega)
  refine wL1_of (fun x N => BN wC N ∧ (∀ j9 : Nat, ¬ (j9 = 32 ∨ j9 = 35 ∨ j9 = 38) → N j9 = M j9) ∧ (0 ≤ x ∧ x ≤ 2) ∧ N 32 2 = 0 ∧ (1 ≤ x → N 35 2 = 0) ∧ (2 ≤ x → N 38 2 = 0)) (fun x _ => (100 - x).toNat) ⟨hB1, fun j9 h9 => by rw [e1]; exact zup_row _ _ (by omega), by omega, by rw [e1, zup_s], fun h => absurd h (by omega), fun h => absurd h (by omega)⟩ (fun K x N hI hK => ?_)
  obtain ⟨hBN, FN, ix, i32, i35, i38⟩ := hI
  have sx : sI x = x := sIo (by omega) (by omega)
  rw [sx, s1]
  refine ⟨fun c => hQ _ _ ⟨hBN, FN, by omega, rfl, i32, i35 (by omega), i38 (by omega), trivial⟩, fun c => ⟨by omega, ?_⟩⟩
  have hx : x = 0 ∨ x = 1 := by omega
  rcases hx with rfl | rfl
  · refine sC_Motor_forget (j := 35) hBN (by decide) (rfl : zcd wC 35 = 11) (fun M20 hp => ?_)
    obtain ⟨h1, h2, h3, -⟩ := hp
    exact hK _ _ ⟨h1, fun j9 h9 => (h2 j9 (by omega)).trans (FN j9 h9), by omega, by rw [h2 32 (by omega)]; exact i32, fun _ => h3, fun h => absurd h (by omega)⟩ (by omega)
  · refine sC_Motor_forget (j := 38) hBN (by decide) (rfl : zcd wC 38 = 11) (fun M20 hp => ?_)
    obtain ⟨h1, h2, h3, -⟩ := hp
    exact hK _ _ ⟨h1, fun j9 h9 => (h2 j9 (by omega)).trans (FN j9 h9), by omega, by rw [h2 32 (by omega)]; exact i32, fun _ => by rw [h2 35 (by omega)]; exact i35 (by omega), fun _ => h3⟩ (by omega)
set_option maxHeartbeats 4000000 in
set_option maxRecDepth 100000 in
theorem sC_clear {M : zM}  (hB : BN wC M)  {Q : Int → zM → Prop} (hQ : ∀ (z : Int) (M1 : zM), BN wC M1 ∧ (∀ j9 : Nat, ¬ (j9 = 32 ∨ j9 = 35 ∨ j9 = 38 ∨ j9 = 60) → M1 j9 = M j9) ∧ ((-2147483648) ≤ z ∧ z ≤ 2147483647) ∧ (z = M 32 2) ∧ (M1 60 2 = 0) ∧ (M1 32 2 = 0) ∧ (M1 35 2 = 0) ∧ (M1 38 2 = 0) ∧ True → Q z M1) : wC_clear  M Q := by
  unfold wC_clear
  have hF0 : ∀ j9 : Nat, ¬ (j9 = 32 ∨ j9 = 35 ∨ j9 = 38 ∨ j9 = 60) → M j9 = M j9 := fun j9 _ => rfl
  intro M1 e2
  have hB3 : BN wC M1 := by rw [e2]; exact BN.up hB (rfl : zcd wC 60 = 19) rfl (by omega) (by omega)
  have hF4 : ∀ j9 : Nat, ¬ (j9 = 32 ∨ j9 = 35 ∨ j9 = 38 ∨ j9 = 60) → M1 j9 = M j9 := fun j9 h9 => by rw [e2]; exact (zup_row _ _ (by omega)).trans (hF0 j9 h9)
  have r5 : M1 60 2 = 0 := by rw [e2]; exact zup_s _ _ _ _
  have r6 : M1 32 2 = M 32 2 := by rw [e2]; exact zup_n _ _ (by omega)
  have r7 : M1 35 2 = M 35 2 := by rw [e2]; exact zup_n _ _ (by omega)
  have r8 : M1 38 2 = M 38 2 := by rw [e2]; exact zup_n _ _ (by omega)
  refine sC_Studio_empty hB3  (fun z9 M10 h11 => ?_)
  obtain ⟨hB12, f13, p14, p15, p16, p17, p18, -⟩ := h11
  have hF19 : ∀ j9 : Nat, ¬ (j9 = 32 ∨ j9 = 35 ∨ j9 = 38 ∨ j9 = 60) → M10 j9 = M j9 := fun j9 h9 => ((f13 j9 (by omega)).trans (hF4 j9 h9))
  have r20 : M10 60 2 = M1 60 2 := congrFun (f13 60 (by omega)) 2
  exact hQ _ _ ⟨hB12, hF19, (by omega), (by omega), (by omega), (by omega), (by omega), (by omega), trivial⟩
set_option maxHeartbeats 4000000 in
set_option maxRecDepth 100000 in
theorem sC_count {M : zM} {a0 : Int} (hB : BN wC M) (v0 : (-2147483648) ≤ a0 ∧ a0 ≤ 2147483647) {Q : Int → Prop} (hQ : ∀ (z : Int), ((-2147483648) ≤ z ∧ z ≤ 2147483647) ∧ True → Q z) : wC_count a0 M Q := by
  unfold wC_count
  have s1 : sI a0 = a0 := sIo (by omega) (by omega)
  refine ⟨fun c2 => ?_, fun c2 => ?_⟩
  · skip
    have q3 : 0 ≤ (M 32 2) ∧ (M 32 2) ≤ 4 := BN.at hB (rfl : zcd wC 32 = 8) rfl
    have s4 : sI (M 32 2) = (M 32 2) := sIo (by omega) (by omega)
    exact hQ _ ⟨(by omega), trivial⟩
  refine ⟨fun c5 => ?_, fun c5 => ?_⟩
  · skip
    have q6 : 0 ≤ (M 60 2) ∧ (M 60 2) ≤ 6 := BN.at hB (rfl : zcd wC 60 = 19) rfl
    have s7 : sI (M 60 2) = (M 60 2) := sIo (by omega) (by omega)
    exact hQ _ ⟨(by omega), trivial⟩
  refine ⟨fun c8 => ?_, fun c8 => ?_⟩
  · skip
    have q9 : 0 ≤ (M 82 1) ∧ (M 82 1) ≤ 60 := BN.at hB (rfl : zcd wC 82 = 34) rfl
    have s10 : sI (M 82 1) = (M 82 1) := sIo (by omega) (by omega)
    exact hQ _ ⟨(by omega), trivial⟩
  refine ⟨fun c11 => ?_, fun c11 => ?_⟩
  · skip
    have q12 : 0 ≤ (M 86 0) ∧ (M 86 0) ≤ 5 := BN.at hB (rfl : zcd wC 86 = 38) rfl
    have s13 : sI (M 86 0) = (M 86 0) := sIo (by omega) (by omega)
    exact hQ _ ⟨(by omega), trivial⟩
  refine ⟨fun c14 => ?_, fun c14 => ?_⟩
  · skip
    have q15 : 0 ≤ (M 96 0) ∧ (M 96 0) ≤ 16 := BN.at hB (rfl : zcd wC 96 = 44) rfl
    have s16 : sI (M 96 0) = (M 96 0) := sIo (by omega) (by omega)
    exact hQ _ ⟨(by omega), trivial⟩
  refine ⟨fun c17 => ?_, fun c17 => ?_⟩
  · skip
    have q18 : 0 ≤ (M 0 10) ∧ (M 0 10) ≤ 40 := BN.at hB (rfl : zcd wC 0 = 0) rfl
    have s19 : sI (M 0 10) = (M 0 10) := sIo (by omega) (by omega)
    exact hQ _ ⟨(by omega), trivial⟩
  refine ⟨fun c20 => ?_, fun c20 => ?_⟩
  · skip
    have q21 : 0 ≤ (M 1 1) ∧ (M 1 1) ≤ 100 := BN.at hB (rfl : zcd wC 1 = 1) rfl
    have s22 : sI (M 1 1) = (M 1 1) := sIo (by omega) (by omega)
    exact hQ _ ⟨(by omega), trivial⟩
  refine ⟨fun c23 => ?_, fun c23 => ?_⟩
  · skip
    have q24 : 0 ≤ (M 30 1) ∧ (M 30 1) ≤ 24 := BN.at hB (rfl : zcd wC 30 = 6) rfl
    have s25 : sI (M 30 1) = (M 30 1) := sIo (by omega) (by omega)
    exact hQ _ ⟨(by omega), trivial⟩
  exact hQ _ ⟨(by omega), trivial⟩
set_option maxHeartbeats 4000000 in
set_option maxRecDepth 100000 in
theorem sC_Motor_lastSpeed {M : zM} {j : Nat} (hB : BN wC M) (lt_j : j < nC) (cd_j : zcd wC j = 11) {Q : Int → Prop} (hQ : ∀ (z : Int), ((-9) ≤ z ∧ z ≤ 9) ∧ True → Q z) : wC_Motor_lastSpeed j M Q := by
  unfold wC_Motor_lastSpeed
  obtain ⟨lt1, cd2, lt3, cd4⟩ := nx_motor j lt_j cd_j
  have q5 : 0 ≤ (M j 2) ∧ (M j 2) ≤ 12 := BN.at hB cd_j rfl
  have s6 : sI (M j 2) = (M j 2) := sIo (by omega) (by omega)
  refine ⟨fun c7 => ?_, fun c7 => ?_⟩
  · skip
    have s9 : sI ((M j 2) - 1) = ((M j 2) - 1) := sIo (by omega) (by omega)
    have o10 : 0 ≤ (sI ((M j 2) - 1)) ∧ (sI ((M j 2) - 1)) < 12 := by omega
    refine ⟨o10, ?_⟩
    have q11 : (-9) ≤ (M (j + 2) (sI ((M j 2) - 1)).toNat) ∧ (M (j + 2) (sI ((M j 2) - 1)).toNat) ≤ 9 := BN.at hB cd4 rfl
    have s12 : sI (M (j + 2) (sI ((M j 2) - 1)).toNat) = (M (j + 2) (sI ((M j 2) - 1)).toNat) := sIo (by omega) (by omega)
    exact hQ _ ⟨(by omega), trivial⟩
  · skip
    exact hQ _ ⟨(by omega), trivial⟩
set_option maxHeartbeats 4000000 in
set_option maxRecDepth 100000 in
theorem sC_greatestDivisor {M : zM} {a0 : Int} {a1 : Int} (hB : BN wC M) (v0 : (-1) ≤ a0 ∧ a0 ≤ 1000000) (v1 : (-9223372036854775808) ≤ a1 ∧ a1 ≤ 9223372036854775807) {Q : Int → Prop} (hQ : ∀ (z : Int), (1 ≤ z ∧ z ≤ 1000000) ∧ (z ≤ a0 ∨ z = 1) ∧ True → Q z) : wC_greatestDivisor a0 a1 M Q := by
  unfold wC_greatestDivisor
  refine pL1_of (fun x1 => ((-1) ≤ x1 ∧ x1 ≤ 1000000) ∧ (x1 ≤ a0) ∧ True) (fun x1 => (x1 + 1).toNat) ⟨(by omega), (by omega), trivial⟩ (fun K x1 h4 k5 => ?_)
  obtain ⟨i2, i3, -⟩ := h4
  have s6 : sI x1 = x1 := sIo (by omega) (by omega)
  refine ⟨fun c7 => ?_, fun c7 => ?_⟩
  · skip
    exact hQ _ ⟨(by omega), (by omega), trivial⟩
  · skip
    have s8 : sI a0 = a0 := sIo (by omega) (by omega)
    have o9 : (sI x1) ≠ 0 := by omega
    refine ⟨o9, ?_⟩
    have s10 := sI_R ((sI a0).tmod (sI x1))
    refine ⟨fun c11 => ?_, fun c11 => ?_⟩
    · skip
      exact k5 _ ⟨(by omega), (by omega), trivial⟩ (by omega)
    · skip
      have s12 : sL a1 = a1 := sLo (by omega) (by omega)
      have o13 : (sI x1) ≠ 0 := by omega
      refine ⟨o13, ?_⟩
      have s14 := sL_R ((sL a1).tmod (sI x1))
      refine ⟨fun c15 => ?_, fun c15 => ?_⟩
      · skip
        exact k5 _ ⟨(by omega), (by omega), trivial⟩ (by omega)
      · skip
        exact hQ _ ⟨(by omega), (by omega), trivial⟩
set_option maxHeartbeats 4000000 in
set_option maxRecDepth 100000 in
theorem sC_withoutShared {M : zM} {a0 : Int} {a1 : Int} (hB : BN wC M) (v0 : 0 ≤ a0 ∧ a0 ≤ 1000000) (v1 : (-9223372036854775808) ≤ a1 ∧ a1 ≤ 9223372036854775807) {Q : Int → Prop} (hQ : ∀ (z : Int), (0 ≤ z ∧ z ≤ 1000000) ∧ (z ≤ a0) ∧ True → Q z) : wC_withoutShared a0 a1 M Q := by
  unfold wC_withoutShared
  refine sC_greatestDivisor hB (by omega) (by omega) (fun z1  h2 => ?_)
  obtain ⟨p3, p4, -⟩ := h2
  refine ⟨fun c5 => ?_, fun c5 => ?_⟩
  · skip
    have s6 : sI a0 = a0 := sIo (by omega) (by omega)
    have o7 : z1 ≠ 0 := by omega
    refine ⟨o7, ?_⟩
    have q8 := tdivB (sI a0) z1 (by omega) (by omega)
    have s9 : sI ((sI a0).tdiv z1) = ((sI a0).tdiv z1) := sIo (by omega) (by omega)
    exact hQ _ ⟨(by omega), (by omega), trivial⟩
  · skip
    have s10 : sI a0 = a0 := sIo (by omega) (by omega)
    exact hQ _ ⟨(by omega), (by omega), trivial⟩
