/-! safety of the model, 2 -/
set_option maxHeartbeats 4000000 in
set_option maxRecDepth 100000 in
theorem sR_clear {M : zM}  (hB : BI M)  {Q : Int → zM → Prop} (hQ : ∀ (z : Int) (M1 : zM), BI M1 ∧ (∀ j9 k9 : Nat, ¬ (j9 = 0 ∧ k9 = 35 ∨ j9 = 0 ∧ k9 = 10 ∨ j9 = 0 ∧ k9 = 16 ∨ j9 = 11) → M1 j9 k9 = M j9 k9) ∧ ((-2147483648) ≤ z ∧ z ≤ 2147483647) ∧ (z = M 0 10) ∧ (M1 0 10 = 0) ∧ (M1 0 16 = 0) ∧ True → Q z M1) : wR_clear  M Q := by
  unfold wR_clear
  have hF0 : ∀ j9 k9 : Nat, ¬ (j9 = 0 ∧ k9 = 35 ∨ j9 = 0 ∧ k9 = 10 ∨ j9 = 0 ∧ k9 = 16 ∨ j9 = 11) → M j9 k9 = M j9 k9 := fun j9 k9 _ => rfl
  intro M1 e2
  have hB3 : BI M1 := by rw [e2]; exact BI.up0 hB rfl (by omega) (by omega) (by decide)
  have hF4 : ∀ j9 k9 : Nat, ¬ (j9 = 0 ∧ k9 = 35 ∨ j9 = 0 ∧ k9 = 10 ∨ j9 = 0 ∧ k9 = 16 ∨ j9 = 11) → M1 j9 k9 = M j9 k9 := fun j9 k9 h9 => by rw [e2]; exact (zup_n _ _ (by omega)).trans (hF0 j9 k9 h9)
  have r5 : M1 0 10 = M 0 10 := by rw [e2]; exact zup_n _ _ (by omega)
  have r6 : M1 0 16 = M 0 16 := by rw [e2]; exact zup_n _ _ (by omega)
  have q7 : 0 ≤ (M1 0 10) ∧ (M1 0 10) ≤ 4 := BN.at hB3.1 (rfl : zcd wR 0 = 50) rfl
  intro M8 e9
  have hB10 : BI M8 := by rw [e9]; exact BI.up10 hB3 (by omega) (by omega)
  have hF11 : ∀ j9 k9 : Nat, ¬ (j9 = 0 ∧ k9 = 35 ∨ j9 = 0 ∧ k9 = 10 ∨ j9 = 0 ∧ k9 = 16 ∨ j9 = 11) → M8 j9 k9 = M j9 k9 := fun j9 k9 h9 => by rw [e9]; exact (zup_n _ _ (by omega)).trans (hF4 j9 k9 h9)
  have r12 : M8 0 10 = 0 := by rw [e9]; exact zup_s _ _ _ _
  have r13 : M8 0 16 = M1 0 16 := by rw [e9]; exact zup_n _ _ (by omega)
  intro M14 e15
  have hB16 : BI M14 := by rw [e15]; exact BI.up0 hB10 rfl (by omega) (by omega) (by decide)
  have hF17 : ∀ j9 k9 : Nat, ¬ (j9 = 0 ∧ k9 = 35 ∨ j9 = 0 ∧ k9 = 10 ∨ j9 = 0 ∧ k9 = 16 ∨ j9 = 11) → M14 j9 k9 = M j9 k9 := fun j9 k9 h9 => by rw [e15]; exact (zup_n _ _ (by omega)).trans (hF11 j9 k9 h9)
  have r18 : M14 0 10 = M8 0 10 := by rw [e15]; exact zup_n _ _ (by omega)
  have r19 : M14 0 16 = 0 := by rw [e15]; exact zup_s _ _ _ _
  refine wL1_of (fun x20 M21 => BI M21 ∧ (∀ j9 k9 : Nat, ¬ (j9 = 0 ∧ k9 = 35 ∨ j9 = 0 ∧ k9 = 10 ∨ j9 = 0 ∧ k9 = 16 ∨ j9 = 11) → M21 j9 k9 = M j9 k9) ∧ (0 ≤ x20 ∧ x20 ≤ 1000000) ∧ (M21 0 10 = 0) ∧ (M21 0 16 = 0) ∧ True) (fun x20 M21 => (1000000 - x20).toNat) ⟨hB16, hF17, (by omega), (by omega), (by omega), trivial⟩ (fun K x20 M21 h27 k28 => ?_)
  obtain ⟨hB22, hF23, i24, i25, i26, -⟩ := h27
  have s29 : sI x20 = x20 := sIo (by omega) (by omega)
  refine ⟨fun c30 => ?_, fun c30 => ?_⟩
  · skip
    have s31 : sI (M1 0 10) = (M1 0 10) := sIo (by omega) (by omega)
    exact hQ _ _ ⟨hB22, hF23, (by omega), (by omega), (by omega), (by omega), trivial⟩
  · skip
    have o32 : 0 ≤ (sI x20) ∧ (sI x20) < 2 := by omega
    refine ⟨o32, ?_⟩
    intro M33 e34
    have hB35 : BI M33 := by rw [e34]; exact BI.up hB22 (rfl : zcd wR 11 = 61) rfl (by omega) (by omega) (by decide)
    have hF36 : ∀ j9 k9 : Nat, ¬ (j9 = 0 ∧ k9 = 35 ∨ j9 = 0 ∧ k9 = 10 ∨ j9 = 0 ∧ k9 = 16 ∨ j9 = 11) → M33 j9 k9 = M j9 k9 := fun j9 k9 h9 => by rw [e34]; exact (zup_n _ _ (by omega)).trans (hF23 j9 k9 h9)
    have r37 : M33 0 10 = M21 0 10 := by rw [e34]; exact zup_n _ _ (by omega)
    have r38 : M33 0 16 = M21 0 16 := by rw [e34]; exact zup_n _ _ (by omega)
    exact k28 _ _ ⟨hB35, hF36, (by omega), (by omega), (by omega), trivial⟩ (by omega)
set_option maxHeartbeats 4000000 in
set_option maxRecDepth 100000 in
theorem sR_count {M : zM} {a0 : Int} (hB : BI M) (v0 : (-2147483648) ≤ a0 ∧ a0 ≤ 2147483647) {Q : Int → zM → Prop} (hQ : ∀ (z : Int) (M1 : zM), BI M1 ∧ (∀ j9 k9 : Nat, ¬ (j9 = 0 ∧ k9 = 35) → M1 j9 k9 = M j9 k9) ∧ ((-2147483648) ≤ z ∧ z ≤ 2147483647) ∧ True → Q z M1) : wR_count a0 M Q := by
  unfold wR_count
  have hF0 : ∀ j9 k9 : Nat, ¬ (j9 = 0 ∧ k9 = 35) → M j9 k9 = M j9 k9 := fun j9 k9 _ => rfl
  intro M1 e2
  have hB3 : BI M1 := by rw [e2]; exact BI.up0 hB rfl (by omega) (by omega) (by decide)
  have hF4 : ∀ j9 k9 : Nat, ¬ (j9 = 0 ∧ k9 = 35) → M1 j9 k9 = M j9 k9 := fun j9 k9 h9 => by rw [e2]; exact (zup_n _ _ (by omega)).trans (hF0 j9 k9 h9)
  have s5 : sI a0 = a0 := sIo (by omega) (by omega)
  refine ⟨fun c6 => ?_, fun c6 => ?_⟩
  · skip
    have q7 : 0 ≤ (M1 0 10) ∧ (M1 0 10) ≤ 4 := BN.at hB3.1 (rfl : zcd wR 0 = 50) rfl
    have s8 : sI (M1 0 10) = (M1 0 10) := sIo (by omega) (by omega)
    exact hQ _ _ ⟨hB3, hF4, (by omega), trivial⟩
  refine ⟨fun c9 => ?_, fun c9 => ?_⟩
  · skip
    have q10 : 0 ≤ (M1 0 16) ∧ (M1 0 16) ≤ 6 := BN.at hB3.1 (rfl : zcd wR 0 = 50) rfl
    have s11 : sI (M1 0 16) = (M1 0 16) := sIo (by omega) (by omega)
    exact hQ _ _ ⟨hB3, hF4, (by omega), trivial⟩
  refine ⟨fun c12 => ?_, fun c12 => ?_⟩
  · skip
    have q13 : 0 ≤ (M1 0 24) ∧ (M1 0 24) ≤ 60 := BN.at hB3.1 (rfl : zcd wR 0 = 50) rfl
    have s14 : sI (M1 0 24) = (M1 0 24) := sIo (by omega) (by omega)
    exact hQ _ _ ⟨hB3, hF4, (by omega), trivial⟩
  refine ⟨fun c15 => ?_, fun c15 => ?_⟩
  · skip
    have q16 : 0 ≤ (M1 0 27) ∧ (M1 0 27) ≤ 5 := BN.at hB3.1 (rfl : zcd wR 0 = 50) rfl
    have s17 : sI (M1 0 27) = (M1 0 27) := sIo (by omega) (by omega)
    exact hQ _ _ ⟨hB3, hF4, (by omega), trivial⟩
  refine ⟨fun c18 => ?_, fun c18 => ?_⟩
  · skip
    have q19 : 0 ≤ (M1 0 32) ∧ (M1 0 32) ≤ 16 := BN.at hB3.1 (rfl : zcd wR 0 = 50) rfl
    have s20 : sI (M1 0 32) = (M1 0 32) := sIo (by omega) (by omega)
    exact hQ _ _ ⟨hB3, hF4, (by omega), trivial⟩
  refine ⟨fun c21 => ?_, fun c21 => ?_⟩
  · skip
    have q22 : (-1) ≤ (M1 0 34) ∧ (M1 0 34) ≤ 64 := BN.at hB3.1 (rfl : zcd wR 0 = 50) rfl
    have s23 : sI (M1 0 34) = (M1 0 34) := sIo (by omega) (by omega)
    exact hQ _ _ ⟨hB3, hF4, (by omega), trivial⟩
  refine ⟨fun c24 => ?_, fun c24 => ?_⟩
  · skip
    have q25 : 0 ≤ (M1 0 1) ∧ (M1 0 1) ≤ 100 := BN.at hB3.1 (rfl : zcd wR 0 = 50) rfl
    have s26 : sI (M1 0 1) = (M1 0 1) := sIo (by omega) (by omega)
    exact hQ _ _ ⟨hB3, hF4, (by omega), trivial⟩
  refine ⟨fun c27 => ?_, fun c27 => ?_⟩
  · skip
    have q28 : 0 ≤ (M1 0 3) ∧ (M1 0 3) ≤ 24 := BN.at hB3.1 (rfl : zcd wR 0 = 50) rfl
    have s29 : sI (M1 0 3) = (M1 0 3) := sIo (by omega) (by omega)
    exact hQ _ _ ⟨hB3, hF4, (by omega), trivial⟩
  exact hQ _ _ ⟨hB3, hF4, (by omega), trivial⟩
theorem sR_common : ∀ (n : Nat) {M : zM} {a0 a1 : Int} (hB : BI M) (v0 : 0 ≤ a0 ∧ a0 ≤ 2147483647) (v1 : 0 ≤ a1 ∧ a1 < n) {Q : Int → Prop} (hQ : ∀ z, ((0 ≤ z ∧ z ≤ 2147483647) ∧ z = (Nat.gcd a0.toNat a1.toNat : Int) ∧ True) → Q z), n ≤ 2147483647 → wR_common n a0 a1 M Q := by
  intro n
  induction n with
  | zero => intro M a0 a1 hB v0 v1; omega
  | succ n ih =>
    intro M a0 a1 hB v0 v1 Q hQ hn
    show wR_common_F (wR_common n) a0 a1 M Q
    unfold wR_common_F
    have s0 : sI a0 = a0 := sIo (by omega) (by omega)
    have s1 : sI a1 = a1 := sIo (by omega) (by omega)
    rw [s0, s1]
    refine ⟨fun c => ⟨c, ?_⟩, fun c => ?_⟩
    · have t := tmodN a0 a1 v0.1 (by omega)
      refine ih hB (by omega) (by omega) (fun z hp => hQ z ⟨hp.1, ?_, trivial⟩) (by omega)
      rw [hp.2.1, Int.tmod_eq_emod_of_nonneg v0.1]
      have e : (a0 % a1).toNat = a0.toNat % a1.toNat := by
        rw [Int.toNat_emod v0.1 v1.1]
      rw [e, Nat.gcd_comm, ← Nat.gcd_rec, Nat.gcd_comm]
    · refine hQ _ ⟨by omega, ?_, trivial⟩
      rw [c, show (0 : Int).toNat = 0 from rfl, Nat.gcd_zero_right]
      omega
set_option maxHeartbeats 4000000 in
set_option maxRecDepth 100000 in
theorem sR_steady {M : zM} {a0 : Int} (hB : BI M) (v0 : 0 ≤ a0 ∧ a0 ≤ 1) {Q : Int → Prop} (hQ : ∀ (z : Int), (0 ≤ z ∧ z ≤ 5000) ∧ True → Q z) : wR_steady a0 M Q := by
  unfold wR_steady
  have s1 : sI a0 = a0 := sIo (by omega) (by omega)
  have o2 : 0 ≤ (sI a0) ∧ (sI a0) < 2 := by omega
  refine ⟨o2, ?_⟩
  have q3 : 0 ≤ (M 11 (sI a0).toNat) ∧ (M 11 (sI a0).toNat) ≤ 12 := BN.at hB.1 (rfl : zcd wR 11 = 61) rfl
  have s4 : sI (M 11 (sI a0).toNat) = (M 11 (sI a0).toNat) := sIo (by omega) (by omega)
  refine ⟨fun c5 => ?_, fun c5 => ?_⟩
  · skip
    have o6 : 0 ≤ (sI a0) ∧ (sI a0) < 2 := by omega
    refine ⟨o6, ?_⟩
    have s8 : sI (((12 * a0) + (M 11 (sI a0).toNat)) - 1) = (((12 * a0) + (M 11 (sI a0).toNat)) - 1) := sIo (by omega) (by omega)
    have o9 : 0 ≤ (sI (((12 * a0) + (M 11 (sI a0).toNat)) - 1)) ∧ (sI (((12 * a0) + (M 11 (sI a0).toNat)) - 1)) < 24 := by omega
    refine ⟨o9, ?_⟩
    have q10 : 0 ≤ (M 9 (sI (((12 * a0) + (M 11 (sI a0).toNat)) - 1)).toNat) ∧ (M 9 (sI (((12 * a0) + (M 11 (sI a0).toNat)) - 1)).toNat) ≤ 5000 := BN.at hB.1 (rfl : zcd wR 9 = 59) rfl
    have s11 : sI (M 9 (sI (((12 * a0) + (M 11 (sI a0).toNat)) - 1)).toNat) = (M 9 (sI (((12 * a0) + (M 11 (sI a0).toNat)) - 1)).toNat) := sIo (by omega) (by omega)
    exact hQ _ ⟨(by omega), trivial⟩
  · skip
    exact hQ _ ⟨(by omega), trivial⟩
set_option maxHeartbeats 4000000 in
set_option maxRecDepth 100000 in
theorem sR_lastSpeed {M : zM} {a0 : Int} (hB : BI M) (v0 : 0 ≤ a0 ∧ a0 ≤ 1) {Q : Int → Prop} (hQ : ∀ (z : Int), ((-9) ≤ z ∧ z ≤ 9) ∧ True → Q z) : wR_lastSpeed a0 M Q := by
  unfold wR_lastSpeed
  have s1 : sI a0 = a0 := sIo (by omega) (by omega)
  have o2 : 0 ≤ (sI a0) ∧ (sI a0) < 2 := by omega
  refine ⟨o2, ?_⟩
  have q3 : 0 ≤ (M 11 (sI a0).toNat) ∧ (M 11 (sI a0).toNat) ≤ 12 := BN.at hB.1 (rfl : zcd wR 11 = 61) rfl
  have s4 : sI (M 11 (sI a0).toNat) = (M 11 (sI a0).toNat) := sIo (by omega) (by omega)
  refine ⟨fun c5 => ?_, fun c5 => ?_⟩
  · skip
    have o6 : 0 ≤ (sI a0) ∧ (sI a0) < 2 := by omega
    refine ⟨o6, ?_⟩
    have s8 : sI (((12 * a0) + (M 11 (sI a0).toNat)) - 1) = (((12 * a0) + (M 11 (sI a0).toNat)) - 1) := sIo (by omega) (by omega)
    have o9 : 0 ≤ (sI (((12 * a0) + (M 11 (sI a0).toNat)) - 1)) ∧ (sI (((12 * a0) + (M 11 (sI a0).toNat)) - 1)) < 24 := by omega
    refine ⟨o9, ?_⟩
    have q10 : (-9) ≤ (M 10 (sI (((12 * a0) + (M 11 (sI a0).toNat)) - 1)).toNat) ∧ (M 10 (sI (((12 * a0) + (M 11 (sI a0).toNat)) - 1)).toNat) ≤ 9 := BN.at hB.1 (rfl : zcd wR 10 = 60) rfl
    have s11 : sI (M 10 (sI (((12 * a0) + (M 11 (sI a0).toNat)) - 1)).toNat) = (M 10 (sI (((12 * a0) + (M 11 (sI a0).toNat)) - 1)).toNat) := sIo (by omega) (by omega)
    exact hQ _ ⟨(by omega), trivial⟩
  · skip
    exact hQ _ ⟨(by omega), trivial⟩
theorem gcd_b (x y : Int) (hx : 1 ≤ x) : 1 ≤ (Nat.gcd x.toNat y.toNat : Int) ∧ (Nat.gcd x.toNat y.toNat : Int) ≤ x := by
  have h1 : 0 < Nat.gcd x.toNat y.toNat := Nat.gcd_pos_of_pos_left _ (by omega)
  have h2 : Nat.gcd x.toNat y.toNat ≤ x.toNat := Nat.gcd_le_left _ (by omega)
  omega
theorem tdiv1 (x y : Int) (h1 : 1 ≤ y) (h2 : y ≤ x) : 1 ≤ x.tdiv y ∧ x.tdiv y ≤ x := by
  have h := tdivB x y (by omega) h1
  refine ⟨?_, h.2⟩
  rw [Int.tdiv_eq_ediv_of_nonneg (by omega)]
  exact (Int.le_ediv_iff_mul_le (by omega)).mpr (by omega)
theorem sR_round {M : zM} {a0 : Int} (hB : BI M) (v0 : 0 ≤ a0 ∧ a0 ≤ 3) (p0 : a0 < M 0 10) {Q : Int → Prop} (hQ : ∀ z, ((1 ≤ z ∧ z ≤ 24) ∧ True) → Q z) : wR_round a0 M Q := by
  unfold wR_round
  have s0 : sI a0 = a0 := sIo (by omega) (by omega)
  rw [s0]
  refine ⟨by omega, by omega, by omega, ?_⟩
  have b5 : 0 ≤ M 5 a0.toNat ∧ M 5 a0.toNat ≤ 1 := BN.at hB.1 (rfl : zcd wR 5 = 55) rfl
  have b4 : 0 ≤ M 4 a0.toNat ∧ M 4 a0.toNat ≤ 24 := BN.at hB.1 (rfl : zcd wR 4 = 54) rfl
  have c4 : 1 ≤ M 4 a0.toNat := hB.2 _ (by omega) (by omega)
  have s4 : sI (M 4 a0.toNat) = M 4 a0.toNat := sIo (by omega) (by omega)
  refine sR_lastSpeed hB (by omega) (fun z5 hp => ?_)
  have ab := absI_b z5
  refine sR_common 48 hB (by omega) (by omega) (fun z9 hp9 => ?_) (by omega)
  have g := gcd_b (M 4 a0.toNat) (absI z5) c4
  have e := hp9.2.1
  rw [s4]
  have t := tdiv1 (M 4 a0.toNat) z9 (by omega) (by omega)
  refine ⟨by omega, ?_⟩
  rw [sIo (by omega) (by omega)]
  exact hQ _ ⟨by omega, trivial⟩
set_option maxHeartbeats 4000000 in
set_option maxRecDepth 100000 in
theorem sR_of {M : zM} {a0 : Int} {a1 : Int} (hB : BI M) (v0 : (-2147483648) ≤ a0 ∧ a0 ≤ 2147483647) (v1 : (-2147483648) ≤ a1 ∧ a1 ≤ 2147483647) {Q : Int → zM → Prop} (hQ : ∀ (z : Int) (M1 : zM), BI M1 ∧ (∀ j9 k9 : Nat, ¬ (j9 = 0 ∧ k9 = 35) → M1 j9 k9 = M j9 k9) ∧ ((-2147483648) ≤ z ∧ z ≤ 2147483647) ∧ True → Q z M1) : wR_of a0 a1 M Q := by
  unfold wR_of
  have hF0 : ∀ j9 k9 : Nat, ¬ (j9 = 0 ∧ k9 = 35) → M j9 k9 = M j9 k9 := fun j9 k9 _ => rfl
  intro M1 e2
  have hB3 : BI M1 := by rw [e2]; exact BI.up0 hB rfl (by omega) (by omega) (by decide)
  have hF4 : ∀ j9 k9 : Nat, ¬ (j9 = 0 ∧ k9 = 35) → M1 j9 k9 = M j9 k9 := fun j9 k9 h9 => by rw [e2]; exact (zup_n _ _ (by omega)).trans (hF0 j9 k9 h9)
  refine sR_isRing hB3 (by omega) (fun z5  h6 => ?_)
  obtain ⟨p7, p8, -⟩ := h6
  refine ⟨fun c9 => ?_, fun c9 => ?_⟩
  · skip
    intro M10 e11
    have hB12 : BI M10 := by rw [e11]; exact BI.up0 hB3 rfl (by omega) (by omega) (by decide)
    have hF13 : ∀ j9 k9 : Nat, ¬ (j9 = 0 ∧ k9 = 35) → M10 j9 k9 = M j9 k9 := fun j9 k9 h9 => by rw [e11]; exact (zup_n _ _ (by omega)).trans (hF4 j9 k9 h9)
    exact hQ _ _ ⟨hB12, hF13, (by omega), trivial⟩
  · skip
    refine sR_in hB3 (by omega) (by omega) (by omega) (fun z14  h15 => ?_)
    obtain ⟨p16, p17, -⟩ := h15
    refine ⟨fun c18 => ?_, fun c18 => ?_⟩
    · skip
      have s19 : sI a1 = a1 := sIo (by omega) (by omega)
      refine ⟨fun c20 => ?_, fun c20 => ?_⟩
      · skip
        have s21 : sI a0 = a0 := sIo (by omega) (by omega)
        have o22 : 0 ≤ (sI a0) ∧ (sI a0) < 4 := by omega
        refine ⟨o22, ?_⟩
        have q23 : 0 ≤ (M1 4 (sI a0).toNat) ∧ (M1 4 (sI a0).toNat) ≤ 24 := BN.at hB3.1 (rfl : zcd wR 4 = 54) rfl
        have q24 : (((sI a0).toNat : Nat) : Int) < M1 0 10 → 1 ≤ (M1 4 (sI a0).toNat) := hB3.2 _ (by omega)
        have q25 : 0 ≤ M1 0 10 ∧ M1 0 10 ≤ 4 := BN.at hB3.1 (rfl : zcd wR 0 = 50) rfl
        have s26 : sI (M1 4 (sI a0).toNat) = (M1 4 (sI a0).toNat) := sIo (by omega) (by omega)
        exact hQ _ _ ⟨hB3, hF4, (by omega), trivial⟩
      refine ⟨fun c27 => ?_, fun c27 => ?_⟩
      · skip
        have s28 : sI a0 = a0 := sIo (by omega) (by omega)
        have o29 : 0 ≤ (sI a0) ∧ (sI a0) < 4 := by omega
        refine ⟨o29, ?_⟩
        have q30 : 0 ≤ (M1 5 (sI a0).toNat) ∧ (M1 5 (sI a0).toNat) ≤ 1 := BN.at hB3.1 (rfl : zcd wR 5 = 55) rfl
        have s31 : sI (M1 5 (sI a0).toNat) = (M1 5 (sI a0).toNat) := sIo (by omega) (by omega)
        exact hQ _ _ ⟨hB3, hF4, (by omega), trivial⟩
      refine ⟨fun c32 => ?_, fun c32 => ?_⟩
      · skip
        have s33 : sI a0 = a0 := sIo (by omega) (by omega)
        have o34 : 0 ≤ (sI a0) ∧ (sI a0) < 4 := by omega
        refine ⟨o34, ?_⟩
        have q35 : 0 ≤ (M1 6 (sI a0).toNat) ∧ (M1 6 (sI a0).toNat) ≤ 23 := BN.at hB3.1 (rfl : zcd wR 6 = 56) rfl
        have s36 : sI (M1 6 (sI a0).toNat) = (M1 6 (sI a0).toNat) := sIo (by omega) (by omega)
        exact hQ _ _ ⟨hB3, hF4, (by omega), trivial⟩
      refine ⟨fun c37 => ?_, fun c37 => ?_⟩
      · skip
        have s38 : sI a0 = a0 := sIo (by omega) (by omega)
        have o39 : 0 ≤ (sI a0) ∧ (sI a0) < 4 := by omega
        refine ⟨o39, ?_⟩
        have q40 : (-2147483648) ≤ (M1 7 (sI a0).toNat) ∧ (M1 7 (sI a0).toNat) ≤ 2147483647 := BN.at hB3.1 (rfl : zcd wR 7 = 57) rfl
        have s41 : sI (M1 7 (sI a0).toNat) = (M1 7 (sI a0).toNat) := sIo (by omega) (by omega)
        exact hQ _ _ ⟨hB3, hF4, (by omega), trivial⟩
      refine ⟨fun c42 => ?_, fun c42 => ?_⟩
      · skip
        refine sR_round hB3 (by omega) (by omega) (fun z43  h44 => ?_)
        obtain ⟨p45, -⟩ := h44
        exact hQ _ _ ⟨hB3, hF4, (by omega), trivial⟩
      have s46 : sI a0 = a0 := sIo (by omega) (by omega)
      have o47 : 0 ≤ (sI a0) ∧ (sI a0) < 4 := by omega
      refine ⟨o47, ?_⟩
      have q48 : (-2147483648) ≤ (M1 8 (sI a0).toNat) ∧ (M1 8 (sI a0).toNat) ≤ 2147483647 := BN.at hB3.1 (rfl : zcd wR 8 = 58) rfl
      have s49 : sI (M1 8 (sI a0).toNat) = (M1 8 (sI a0).toNat) := sIo (by omega) (by omega)
      exact hQ _ _ ⟨hB3, hF4, (by omega), trivial⟩
    · skip
      intro M50 e51
      have hB52 : BI M50 := by rw [e51]; exact BI.up0 hB3 rfl (by omega) (by omega) (by decide)
      have hF53 : ∀ j9 k9 : Nat, ¬ (j9 = 0 ∧ k9 = 35) → M50 j9 k9 = M j9 k9 := fun j9 k9 h9 => by rw [e51]; exact (zup_n _ _ (by omega)).trans (hF4 j9 k9 h9)
      exact hQ _ _ ⟨hB52, hF53, (by omega), trivial⟩
set_option maxHeartbeats 4000000 in
set_option maxRecDepth 100000 in
theorem sR_inch {M : zM} {a0 : Int} {a1 : Int} (hB : BI M) (v0 : (-2147483648) ≤ a0 ∧ a0 ≤ 2147483647) (v1 : (-2147483648) ≤ a1 ∧ a1 ≤ 2147483647) {Q : Int → zM → Prop} (hQ : ∀ (z : Int) (M1 : zM), BI M1 ∧ (∀ j9 k9 : Nat, ¬ (j9 = 0 ∧ k9 = 35) → M1 j9 k9 = M j9 k9) ∧ ((-2147483648) ≤ z ∧ z ≤ 2147483647) ∧ True → Q z M1) : wR_inch a0 a1 M Q := by
  unfold wR_inch
  have hF0 : ∀ j9 k9 : Nat, ¬ (j9 = 0 ∧ k9 = 35) → M j9 k9 = M j9 k9 := fun j9 k9 _ => rfl
  intro M1 e2
  have hB3 : BI M1 := by rw [e2]; exact BI.up0 hB rfl (by omega) (by omega) (by decide)
  have hF4 : ∀ j9 k9 : Nat, ¬ (j9 = 0 ∧ k9 = 35) → M1 j9 k9 = M j9 k9 := fun j9 k9 h9 => by rw [e2]; exact (zup_n _ _ (by omega)).trans (hF0 j9 k9 h9)
  refine sR_isRing hB3 (by omega) (fun z5  h6 => ?_)
  obtain ⟨p7, p8, -⟩ := h6
  refine ⟨fun c9 => ?_, fun c9 => ?_⟩
  · skip
    exact hQ _ _ ⟨hB3, hF4, (by omega), trivial⟩
  · skip
    have s10 : sI a0 = a0 := sIo (by omega) (by omega)
    have o11 : 0 ≤ (sI a0) ∧ (sI a0) < 4 := by omega
    refine ⟨o11, ?_⟩
    have q12 : 0 ≤ (M1 4 (sI a0).toNat) ∧ (M1 4 (sI a0).toNat) ≤ 24 := BN.at hB3.1 (rfl : zcd wR 4 = 54) rfl
    have q13 : (((sI a0).toNat : Nat) : Int) < M1 0 10 → 1 ≤ (M1 4 (sI a0).toNat) := hB3.2 _ (by omega)
    have q14 : 0 ≤ M1 0 10 ∧ M1 0 10 ≤ 4 := BN.at hB3.1 (rfl : zcd wR 0 = 50) rfl
    refine sR_in hB3 (by omega) (by omega) (by omega) (fun z15  h16 => ?_)
    obtain ⟨p17, p18, -⟩ := h16
    refine ⟨fun c19 => ?_, fun c19 => ?_⟩
    · skip
      exact hQ _ _ ⟨hB3, hF4, (by omega), trivial⟩
    · skip
      have s20 := sI_R ((24 * a0) + a1)
      have s21 := sI_or ((24 * a0) + a1)
      have o22 : 0 ≤ (sI ((24 * a0) + a1)) ∧ (sI ((24 * a0) + a1)) < 96 := by omega
      refine ⟨o22, ?_⟩
      have q23 : (-2147483648) ≤ (M1 3 (sI ((24 * a0) + a1)).toNat) ∧ (M1 3 (sI ((24 * a0) + a1)).toNat) ≤ 2147483647 := BN.at hB3.1 (rfl : zcd wR 3 = 53) rfl
      have s24 : sI (M1 3 (sI ((24 * a0) + a1)).toNat) = (M1 3 (sI ((24 * a0) + a1)).toNat) := sIo (by omega) (by omega)
      exact hQ _ _ ⟨hB3, hF4, (by omega), trivial⟩
set_option maxHeartbeats 4000000 in
set_option maxRecDepth 100000 in
theorem sR_wayEarly {M : zM} {a0 : Int} {a1 : Int} (hB : BI M) (v0 : 0 ≤ a0 ∧ a0 ≤ 1) {Q : Int → Prop} (hQ : ∀ (z : Int), ((-9223372036854775808) ≤ z ∧ z ≤ 9223372036854775807) ∧ True → Q z) : wR_wayEarly a0 a1 M Q := by
  unfold wR_wayEarly
  refine pL4_of (fun x1 x2 x3 x4 => (0 ≤ x4 ∧ x4 ≤ 1000000) ∧ True) (fun x1 x2 x3 x4 => (1000000 - x4).toNat) ⟨(by omega), trivial⟩ (fun K x1 x2 x3 x4 h6 k7 => ?_)
  obtain ⟨i5, -⟩ := h6
  have s8 : sI a0 = a0 := sIo (by omega) (by omega)
  have o9 : 0 ≤ (sI a0) ∧ (sI a0) < 2 := by omega
  refine ⟨o9, ?_⟩
  have q10 : 0 ≤ (M 11 (sI a0).toNat) ∧ (M 11 (sI a0).toNat) ≤ 12 := BN.at hB.1 (rfl : zcd wR 11 = 61) rfl
  have s11 : sI x4 = x4 := sIo (by omega) (by omega)
  have s12 : sI (M 11 (sI a0).toNat) = (M 11 (sI a0).toNat) := sIo (by omega) (by omega)
  refine pJ0_dup ?_
  refine ⟨fun c13 => ?_, fun c13 => ?_⟩
  · skip
    have s14 := sI_R x3
    have s15 := sI_or x3
    have s16 := sL_R (x1 + ((sI x3) * (a1 - x2)))
    have s17 := sL_or (x1 + ((sI x3) * (a1 - x2)))
    exact hQ _ ⟨(by omega), trivial⟩
  · skip
    have s18 : sI ((12 * a0) + x4) = ((12 * a0) + x4) := sIo (by omega) (by omega)
    have o19 : 0 ≤ (sI ((12 * a0) + x4)) ∧ (sI ((12 * a0) + x4)) < 24 := by omega
    refine ⟨o19, ?_⟩
    have q20 : 0 ≤ (M 9 (sI ((12 * a0) + x4)).toNat) ∧ (M 9 (sI ((12 * a0) + x4)).toNat) ≤ 5000 := BN.at hB.1 (rfl : zcd wR 9 = 59) rfl
    have s21 : sI (M 9 (sI ((12 * a0) + x4)).toNat) = (M 9 (sI ((12 * a0) + x4)).toNat) := sIo (by omega) (by omega)
    have s22 := sL_R a1
    have s23 := sL_or a1
    refine ⟨fun c24 => ?_, fun c24 => ?_⟩
    · skip
      have s25 := sI_R x3
      have s26 := sI_or x3
      have s27 := sL_R (x1 + ((sI x3) * (a1 - x2)))
      have s28 := sL_or (x1 + ((sI x3) * (a1 - x2)))
      exact hQ _ ⟨(by omega), trivial⟩
    · skip
      have s29 := sI_R x3
      have s30 := sI_or x3
      have o31 : 0 ≤ (sI ((12 * a0) + x4)) ∧ (sI ((12 * a0) + x4)) < 24 := by omega
      refine ⟨o31, ?_⟩
      intro t33 e34
      have o35 : 0 ≤ (sI ((12 * a0) + x4)) ∧ (sI ((12 * a0) + x4)) < 24 := by omega
      refine ⟨o35, ?_⟩
      have o37 : 0 ≤ (sI ((12 * a0) + x4)) ∧ (sI ((12 * a0) + x4)) < 24 := by omega
      refine ⟨o37, ?_⟩
      have q38 : (-9) ≤ (M 10 (sI ((12 * a0) + x4)).toNat) ∧ (M 10 (sI ((12 * a0) + x4)).toNat) ≤ 9 := BN.at hB.1 (rfl : zcd wR 10 = 60) rfl
      exact k7 _ _ _ _ ⟨(by omega), trivial⟩ (by omega)
set_option maxHeartbeats 4000000 in
set_option maxRecDepth 100000 in
theorem sR_way {M : zM} {a0 : Int} {a1 : Int} (hB : BI M) (v0 : (-2147483648) ≤ a0 ∧ a0 ≤ 2147483647) (v1 : (-2147483648) ≤ a1 ∧ a1 ≤ 2147483647) {Q : Int → zM → Prop} (hQ : ∀ (z : Int) (M1 : zM), BI M1 ∧ (∀ j9 k9 : Nat, ¬ (j9 = 0 ∧ k9 = 35) → M1 j9 k9 = M j9 k9) ∧ ((-9223372036854775808) ≤ z ∧ z ≤ 9223372036854775807) ∧ True → Q z M1) : wR_way a0 a1 M Q := by
  unfold wR_way
  have hF0 : ∀ j9 k9 : Nat, ¬ (j9 = 0 ∧ k9 = 35) → M j9 k9 = M j9 k9 := fun j9 k9 _ => rfl
  intro M1 e2
  have hB3 : BI M1 := by rw [e2]; exact BI.up0 hB rfl (by omega) (by omega) (by decide)
  have hF4 : ∀ j9 k9 : Nat, ¬ (j9 = 0 ∧ k9 = 35) → M1 j9 k9 = M j9 k9 := fun j9 k9 h9 => by rw [e2]; exact (zup_n _ _ (by omega)).trans (hF0 j9 k9 h9)
  refine sR_isMotor hB3 (by omega) (fun z5  h6 => ?_)
  obtain ⟨p7, p8, -⟩ := h6
  refine ⟨fun c9 => ?_, fun c9 => ?_⟩
  · skip
    intro M10 e11
    have hB12 : BI M10 := by rw [e11]; exact BI.up0 hB3 rfl (by omega) (by omega) (by decide)
    have hF13 : ∀ j9 k9 : Nat, ¬ (j9 = 0 ∧ k9 = 35) → M10 j9 k9 = M j9 k9 := fun j9 k9 h9 => by rw [e11]; exact (zup_n _ _ (by omega)).trans (hF4 j9 k9 h9)
    exact hQ _ _ ⟨hB12, hF13, (by omega), trivial⟩
  · skip
    refine sR_in hB3 (by omega) (by omega) (by omega) (fun z14  h15 => ?_)
    obtain ⟨p16, p17, -⟩ := h15
    refine ⟨fun c18 => ?_, fun c18 => ?_⟩
    · skip
      have s19 : sI a1 = a1 := sIo (by omega) (by omega)
      refine sR_wayEarly hB3 (by omega) (fun z20  h21 => ?_)
      obtain ⟨p22, -⟩ := h21
      exact hQ _ _ ⟨hB3, hF4, (by omega), trivial⟩
    · skip
      intro M23 e24
      have hB25 : BI M23 := by rw [e24]; exact BI.up0 hB3 rfl (by omega) (by omega) (by decide)
      have hF26 : ∀ j9 k9 : Nat, ¬ (j9 = 0 ∧ k9 = 35) → M23 j9 k9 = M j9 k9 := fun j9 k9 h9 => by rw [e24]; exact (zup_n _ _ (by omega)).trans (hF4 j9 k9 h9)
      exact hQ _ _ ⟨hB25, hF26, (by omega), trivial⟩
set_option maxHeartbeats 4000000 in
set_option maxRecDepth 100000 in
theorem sR_wayBy {M : zM} {a0 : Int} {a1 : Int} {a2 : Int} (hB : BI M) (v0 : 0 ≤ a0 ∧ a0 ≤ 1) (v2 : 1 ≤ a2 ∧ a2 ≤ 24) {Q : Int → Prop} (hQ : ∀ (z : Int), (0 ≤ z ∧ z ≤ 23) ∧ (z < a2) ∧ True → Q z) : wR_wayBy a0 a1 a2 M Q := by
  unfold wR_wayBy
  refine sR_steady hB (by omega) (fun z1  h2 => ?_)
  obtain ⟨p3, -⟩ := h2
  have s4 := sL_R a1
  have s5 := sL_or a1
  refine ⟨fun c6 => ?_, fun c6 => ?_⟩
  · skip
    have s7 : sI a2 = a2 := sIo (by omega) (by omega)
    have s8 := sL_R (a1 - z1)
    have s9 := sL_or (a1 - z1)
    have o10 : (sI a2) ≠ 0 := by omega
    refine ⟨o10, ?_⟩
    refine sR_lastSpeed hB (by omega) (fun z11  h12 => ?_)
    obtain ⟨p13, -⟩ := h12
    refine sR_wayEarly hB (by omega) (fun z14  h15 => ?_)
    obtain ⟨p16, -⟩ := h15
    have s17 := sL_R (z14 + (((sL (a1 - z1)).tmod (sI a2)) * z11))
    have s18 := sL_or (z14 + (((sL (a1 - z1)).tmod (sI a2)) * z11))
    have o19 : 0 < (sI a2) := by omega
    refine ⟨o19, ?_⟩
    have q20 := emB (sL (z14 + (((sL (a1 - z1)).tmod (sI a2)) * z11))) (sI a2) (by omega)
    have s21 : sI ((sL (z14 + (((sL (a1 - z1)).tmod (sI a2)) * z11))) % (sI a2)) = ((sL (z14 + (((sL (a1 - z1)).tmod (sI a2)) * z11))) % (sI a2)) := sIo (by omega) (by omega)
    exact hQ _ ⟨(by omega), (by omega), trivial⟩
  · skip
    refine sR_wayEarly hB (by omega) (fun z22  h23 => ?_)
    obtain ⟨p24, -⟩ := h23
    have s25 : sI a2 = a2 := sIo (by omega) (by omega)
    have o26 : 0 < (sI a2) := by omega
    refine ⟨o26, ?_⟩
    have q27 := emB z22 (sI a2) (by omega)
    have s28 : sI (z22 % (sI a2)) = (z22 % (sI a2)) := sIo (by omega) (by omega)
    exact hQ _ ⟨(by omega), (by omega), trivial⟩
set_option maxHeartbeats 4000000 in
set_option maxRecDepth 100000 in
theorem sR_heardAt {M : zM} {a0 : Int} {a1 : Int} (hB : BI M) (v0 : 0 ≤ a0 ∧ a0 ≤ 3) (v1 : 0 ≤ a1 ∧ a1 ≤ 23) (p0 : a0 < M 0 10) {Q : Int → Prop} (hQ : ∀ (z : Int), ((-2147483648) ≤ z ∧ z ≤ 2147483647) ∧ True → Q z) : wR_heardAt a0 a1 M Q := by
  unfold wR_heardAt
  refine pL2_of (fun x1 x2 => (0 ≤ x2 ∧ x2 ≤ 1000000) ∧ True) (fun x1 x2 => (1000000 - x2).toNat) ⟨(by omega), trivial⟩ (fun K x1 x2 h4 k5 => ?_)
  obtain ⟨i3, -⟩ := h4
  have s6 : sI x2 = x2 := sIo (by omega) (by omega)
  refine ⟨fun c7 => ?_, fun c7 => ?_⟩
  · skip
    have s8 := sI_R x1
    have s9 := sI_or x1
    exact hQ _ ⟨(by omega), trivial⟩
  · skip
    have s10 : sI a0 = a0 := sIo (by omega) (by omega)
    have o11 : 0 ≤ (sI a0) ∧ (sI a0) < 4 := by omega
    refine ⟨o11, ?_⟩
    have q12 : (-2147483648) ≤ (M 7 (sI a0).toNat) ∧ (M 7 (sI a0).toNat) ≤ 2147483647 := BN.at hB.1 (rfl : zcd wR 7 = 57) rfl
    have q13 := shrI_R (M 7 (sI a0).toNat) x2
    have q14 := andI_br (shrI (M 7 (sI a0).toNat) x2) (c := 1) (by decide) (by decide)
    refine ⟨fun c15 => ?_, fun c15 => ?_⟩
    · skip
      exact k5 _ _ ⟨(by omega), trivial⟩ (by omega)
    · skip
      have o16 : 0 ≤ (sI a0) ∧ (sI a0) < 4 := by omega
      refine ⟨o16, ?_⟩
      have q17 : 0 ≤ (M 4 (sI a0).toNat) ∧ (M 4 (sI a0).toNat) ≤ 24 := BN.at hB.1 (rfl : zcd wR 4 = 54) rfl
      have q18 : (((sI a0).toNat : Nat) : Int) < M 0 10 → 1 ≤ (M 4 (sI a0).toNat) := hB.2 _ (by omega)
      have q19 : 0 ≤ M 0 10 ∧ M 0 10 ≤ 4 := BN.at hB.1 (rfl : zcd wR 0 = 50) rfl
      have s20 : sI (a1 + x2) = (a1 + x2) := sIo (by omega) (by omega)
      have s21 : sI (M 4 (sI a0).toNat) = (M 4 (sI a0).toNat) := sIo (by omega) (by omega)
      have o22 : (sI (M 4 (sI a0).toNat)) ≠ 0 := by omega
      refine ⟨o22, ?_⟩
      have q23 := tmodN (sI (a1 + x2)) (sI (M 4 (sI a0).toNat)) (by omega) (by omega)
      have s24 : sI ((24 * a0) + ((sI (a1 + x2)).tmod (sI (M 4 (sI a0).toNat)))) = ((24 * a0) + ((sI (a1 + x2)).tmod (sI (M 4 (sI a0).toNat)))) := sIo (by omega) (by omega)
      have o25 : 0 ≤ (sI ((24 * a0) + ((sI (a1 + x2)).tmod (sI (M 4 (sI a0).toNat))))) ∧ (sI ((24 * a0) + ((sI (a1 + x2)).tmod (sI (M 4 (sI a0).toNat))))) < 96 := by omega
      refine ⟨o25, ?_⟩
      have q26 : (-2147483648) ≤ (M 3 (sI ((24 * a0) + ((sI (a1 + x2)).tmod (sI (M 4 (sI a0).toNat))))).toNat) ∧ (M 3 (sI ((24 * a0) + ((sI (a1 + x2)).tmod (sI (M 4 (sI a0).toNat))))).toNat) ≤ 2147483647 := BN.at hB.1 (rfl : zcd wR 3 = 53) rfl
      have q27 := orI_R x1 (M 3 (sI ((24 * a0) + ((sI (a1 + x2)).tmod (sI (M 4 (sI a0).toNat))))).toNat)
      intro t28 e29
      exact k5 _ _ ⟨(by omega), trivial⟩ (by omega)
set_option maxHeartbeats 4000000 in
set_option maxRecDepth 100000 in
theorem sR_heardOf {M : zM} {a0 : Int} {a1 : Int} (hB : BI M) (v0 : 0 ≤ a0 ∧ a0 ≤ 3) (p0 : a0 < M 0 10) {Q : Int → Prop} (hQ : ∀ (z : Int), ((-2147483648) ≤ z ∧ z ≤ 2147483647) ∧ True → Q z) : wR_heardOf a0 a1 M Q := by
  unfold wR_heardOf
  have s1 : sI a0 = a0 := sIo (by omega) (by omega)
  have o2 : 0 ≤ (sI a0) ∧ (sI a0) < 4 := by omega
  refine ⟨o2, ?_⟩
  have q3 : 0 ≤ (M 6 (sI a0).toNat) ∧ (M 6 (sI a0).toNat) ≤ 23 := BN.at hB.1 (rfl : zcd wR 6 = 56) rfl
  have o4 : 0 ≤ (sI a0) ∧ (sI a0) < 4 := by omega
  refine ⟨o4, ?_⟩
  have q5 : 0 ≤ (M 5 (sI a0).toNat) ∧ (M 5 (sI a0).toNat) ≤ 1 := BN.at hB.1 (rfl : zcd wR 5 = 55) rfl
  have o6 : 0 ≤ (sI a0) ∧ (sI a0) < 4 := by omega
  refine ⟨o6, ?_⟩
  have q7 : 0 ≤ (M 4 (sI a0).toNat) ∧ (M 4 (sI a0).toNat) ≤ 24 := BN.at hB.1 (rfl : zcd wR 4 = 54) rfl
  have q8 : (((sI a0).toNat : Nat) : Int) < M 0 10 → 1 ≤ (M 4 (sI a0).toNat) := hB.2 _ (by omega)
  have q9 : 0 ≤ M 0 10 ∧ M 0 10 ≤ 4 := BN.at hB.1 (rfl : zcd wR 0 = 50) rfl
  refine sR_wayBy hB (by omega) (by omega) (fun z10  h11 => ?_)
  obtain ⟨p12, p13, -⟩ := h11
  have o14 : 0 ≤ (sI a0) ∧ (sI a0) < 4 := by omega
  refine ⟨o14, ?_⟩
  have s18 : sI ((M 6 (sI a0).toNat) + z10) = ((M 6 (sI a0).toNat) + z10) := sIo (by omega) (by omega)
  have s19 : sI (M 4 (sI a0).toNat) = (M 4 (sI a0).toNat) := sIo (by omega) (by omega)
  have o20 : (sI (M 4 (sI a0).toNat)) ≠ 0 := by omega
  refine ⟨o20, ?_⟩
  have q21 := tmodN (sI ((M 6 (sI a0).toNat) + z10)) (sI (M 4 (sI a0).toNat)) (by omega) (by omega)
  refine sR_heardAt hB (by omega) (by omega) (by omega) (fun z22  h23 => ?_)
  obtain ⟨p24, -⟩ := h23
  exact hQ _ ⟨(by omega), trivial⟩
set_option maxHeartbeats 4000000 in
set_option maxRecDepth 100000 in
theorem sR_heardInAll {M : zM} {a0 : Int} (hB : BI M)  {Q : Int → Prop} (hQ : ∀ (z : Int), ((-2147483648) ≤ z ∧ z ≤ 2147483647) ∧ True → Q z) : wR_heardInAll a0 M Q := by
  unfold wR_heardInAll
  refine pL2_of (fun x1 x2 => (0 ≤ x2 ∧ x2 ≤ 1000000) ∧ True) (fun x1 x2 => (1000000 - x2).toNat) ⟨(by omega), trivial⟩ (fun K x1 x2 h4 k5 => ?_)
  obtain ⟨i3, -⟩ := h4
  have q6 : 0 ≤ (M 0 10) ∧ (M 0 10) ≤ 4 := BN.at hB.1 (rfl : zcd wR 0 = 50) rfl
  have s7 : sI x2 = x2 := sIo (by omega) (by omega)
  have s8 : sI (M 0 10) = (M 0 10) := sIo (by omega) (by omega)
  refine ⟨fun c9 => ?_, fun c9 => ?_⟩
  · skip
    have s10 := sI_R x1
    have s11 := sI_or x1
    exact hQ _ ⟨(by omega), trivial⟩
  · skip
    refine sR_heardOf hB (by omega) (by omega) (fun z12  h13 => ?_)
    obtain ⟨p14, -⟩ := h13
    have q15 := orI_R x1 z12
    exact k5 _ _ ⟨(by omega), trivial⟩ (by omega)
set_option maxHeartbeats 4000000 in
set_option maxRecDepth 100000 in
theorem sR_heard {M : zM} {a0 : Int} {a1 : Int} (hB : BI M) (v0 : (-2147483648) ≤ a0 ∧ a0 ≤ 2147483647) (v1 : (-9223372036854775808) ≤ a1 ∧ a1 ≤ 9223372036854775807) {Q : Int → zM → Prop} (hQ : ∀ (z : Int) (M1 : zM), BI M1 ∧ (∀ j9 k9 : Nat, ¬ (j9 = 0 ∧ k9 = 35) → M1 j9 k9 = M j9 k9) ∧ ((-2147483648) ≤ z ∧ z ≤ 2147483647) ∧ True → Q z M1) : wR_heard a0 a1 M Q := by
  unfold wR_heard
  have hF0 : ∀ j9 k9 : Nat, ¬ (j9 = 0 ∧ k9 = 35) → M j9 k9 = M j9 k9 := fun j9 k9 _ => rfl
  intro M1 e2
  have hB3 : BI M1 := by rw [e2]; exact BI.up0 hB rfl (by omega) (by omega) (by decide)
  have hF4 : ∀ j9 k9 : Nat, ¬ (j9 = 0 ∧ k9 = 35) → M1 j9 k9 = M j9 k9 := fun j9 k9 h9 => by rw [e2]; exact (zup_n _ _ (by omega)).trans (hF0 j9 k9 h9)
  have s5 : sI a0 = a0 := sIo (by omega) (by omega)
  refine pJ0_dup ?_
  refine ⟨fun c6 => ?_, fun c6 => ?_⟩
  · skip
    have s7 : sL a1 = a1 := sLo (by omega) (by omega)
    refine ⟨fun c8 => ?_, fun c8 => ?_⟩
    · skip
      refine ⟨fun c9 => ?_, fun c9 => ?_⟩
      · skip
        refine sR_heardOf hB3 (by omega) (by omega) (fun z10  h11 => ?_)
        obtain ⟨p12, -⟩ := h11
        exact hQ _ _ ⟨hB3, hF4, (by omega), trivial⟩
      · skip
        refine sR_heardInAll hB3  (fun z13  h14 => ?_)
        obtain ⟨p15, -⟩ := h14
        exact hQ _ _ ⟨hB3, hF4, (by omega), trivial⟩
    · skip
      exact hQ _ _ ⟨hB3, hF4, (by omega), trivial⟩
  · skip
    refine sR_isRing hB3 (by omega) (fun z16  h17 => ?_)
    obtain ⟨p18, p19, -⟩ := h17
    refine ⟨fun c20 => ?_, fun c20 => ?_⟩
    · skip
      exact hQ _ _ ⟨hB3, hF4, (by omega), trivial⟩
    · skip
      have s21 : sL a1 = a1 := sLo (by omega) (by omega)
      refine ⟨fun c22 => ?_, fun c22 => ?_⟩
      · skip
        refine ⟨fun c23 => ?_, fun c23 => ?_⟩
        · skip
          refine sR_heardOf hB3 (by omega) (by omega) (fun z24  h25 => ?_)
          obtain ⟨p26, -⟩ := h25
          exact hQ _ _ ⟨hB3, hF4, (by omega), trivial⟩
        · skip
          refine sR_heardInAll hB3  (fun z27  h28 => ?_)
          obtain ⟨p29, -⟩ := h28
          exact hQ _ _ ⟨hB3, hF4, (by omega), trivial⟩
      · skip
        exact hQ _ _ ⟨hB3, hF4, (by omega), trivial⟩
theorem sR_allRounds {M : zM} (hB : BI M) {Q : Int → Prop} (hQ : ∀ z, ((0 ≤ z ∧ z ≤ 331776) ∧ True) → Q z) : wR_allRounds M Q := by
  unfold wR_allRounds
  have b : 0 ≤ M 0 10 ∧ M 0 10 ≤ 4 := BN.at hB.1 (rfl : zcd wR 0 = 50) rfl
  refine pL2_of (fun x1 x2 => 0 ≤ x1 ∧ ((x2 = 0 ∧ x1 ≤ 1) ∨ (x2 = 1 ∧ x1 ≤ 24) ∨ (x2 = 2 ∧ x1 ≤ 576) ∨ (x2 = 3 ∧ x1 ≤ 13824) ∨ (x2 = 4 ∧ x1 ≤ 331776))) (fun _ x2 => (100 - x2).toNat) ⟨by omega, by omega⟩ (fun K x1 x2 hI hK => ?_)
  obtain ⟨i1, i2⟩ := hI
  have s1 : sL x1 = x1 := sLo (by omega) (by omega)
  have s2 : sI x2 = x2 := sIo (by omega) (by omega)
  have s3 : sI (M 0 10) = M 0 10 := sIo (by omega) (by omega)
  rw [s1, s2, s3]
  refine ⟨fun c => hQ _ ⟨by omega, trivial⟩, fun c => ?_⟩
  refine sR_round hB (by omega) (by omega) (fun z hp => ?_)
  have t := tmodN x1 z i1 (by omega)
  refine ⟨by omega, ?_⟩
  refine sR_common 48 hB (by omega) (by omega) (fun z2 hp2 => ?_) (by omega)
  have g := gcd_b z (x1.tmod z) (by omega)
  have e := hp2.2.1
  refine ⟨by omega, ?_⟩
  have d := tdivB x1 z2 i1 (by omega)
  have m1 := mulB x1 24 (x1.tdiv z2) z d.1 d.2 (by omega) (by omega)
  exact hK _ _ ⟨by omega, by omega⟩ (by omega)
set_option maxHeartbeats 4000000 in
set_option maxRecDepth 100000 in
theorem sR_all {M : zM}  (hB : BI M)  {Q : Int → zM → Prop} (hQ : ∀ (z : Int) (M1 : zM), BI M1 ∧ (∀ j9 k9 : Nat, ¬ (j9 = 0 ∧ k9 = 35) → M1 j9 k9 = M j9 k9) ∧ ((-9223372036854775808) ≤ z ∧ z ≤ 9223372036854775807) ∧ True → Q z M1) : wR_all  M Q := by
  unfold wR_all
  have hF0 : ∀ j9 k9 : Nat, ¬ (j9 = 0 ∧ k9 = 35) → M j9 k9 = M j9 k9 := fun j9 k9 _ => rfl
  intro M1 e2
  have hB3 : BI M1 := by rw [e2]; exact BI.up0 hB rfl (by omega) (by omega) (by decide)
  have hF4 : ∀ j9 k9 : Nat, ¬ (j9 = 0 ∧ k9 = 35) → M1 j9 k9 = M j9 k9 := fun j9 k9 h9 => by rw [e2]; exact (zup_n _ _ (by omega)).trans (hF0 j9 k9 h9)
  refine sR_allRounds hB3  (fun z5  h6 => ?_)
  obtain ⟨p7, -⟩ := h6
  exact hQ _ _ ⟨hB3, hF4, (by omega), trivial⟩
set_option maxHeartbeats 4000000 in
set_option maxRecDepth 100000 in
theorem sR_wish {M : zM} {a0 : Int} {a1 : Int} (hB : BI M) (v0 : (-2147483648) ≤ a0 ∧ a0 ≤ 2147483647) (v1 : (-2147483648) ≤ a1 ∧ a1 ≤ 2147483647) {Q : Int → zM → Prop} (hQ : ∀ (z : Int) (M1 : zM), BI M1 ∧ (∀ j9 k9 : Nat, ¬ (j9 = 0 ∧ k9 = 35 ∨ j9 = 8) → M1 j9 k9 = M j9 k9) ∧ (0 ≤ z ∧ z ≤ 1) ∧ True → Q z M1) : wR_wish a0 a1 M Q := by
  unfold wR_wish
  have hF0 : ∀ j9 k9 : Nat, ¬ (j9 = 0 ∧ k9 = 35 ∨ j9 = 8) → M j9 k9 = M j9 k9 := fun j9 k9 _ => rfl
  intro M1 e2
  have hB3 : BI M1 := by rw [e2]; exact BI.up0 hB rfl (by omega) (by omega) (by decide)
  have hF4 : ∀ j9 k9 : Nat, ¬ (j9 = 0 ∧ k9 = 35 ∨ j9 = 8) → M1 j9 k9 = M j9 k9 := fun j9 k9 h9 => by rw [e2]; exact (zup_n _ _ (by omega)).trans (hF0 j9 k9 h9)
  refine sR_isRing hB3 (by omega) (fun z5  h6 => ?_)
  obtain ⟨p7, p8, -⟩ := h6
  refine ⟨fun c9 => ?_, fun c9 => ?_⟩
  · skip
    exact hQ _ _ ⟨hB3, hF4, (by omega), trivial⟩
  · skip
    refine sR_areSounds hB3 (by omega) (fun z10  h11 => ?_)
    obtain ⟨p12, p13, -⟩ := h11
    refine ⟨fun c14 => ?_, fun c14 => ?_⟩
    · skip
      have s15 : sI a0 = a0 := sIo (by omega) (by omega)
      have o16 : 0 ≤ (sI a0) ∧ (sI a0) < 4 := by omega
      refine ⟨o16, ?_⟩
      intro M17 e18
      have hB19 : BI M17 := by rw [e18]; exact BI.up hB3 (rfl : zcd wR 8 = 58) rfl (by omega) (by omega) (by decide)
      have hF20 : ∀ j9 k9 : Nat, ¬ (j9 = 0 ∧ k9 = 35 ∨ j9 = 8) → M17 j9 k9 = M j9 k9 := fun j9 k9 h9 => by rw [e18]; exact (zup_n _ _ (by omega)).trans (hF4 j9 k9 h9)
      exact hQ _ _ ⟨hB19, hF20, (by omega), trivial⟩
    · skip
      exact hQ _ _ ⟨hB3, hF4, (by omega), trivial⟩
set_option maxHeartbeats 4000000 in
set_option maxRecDepth 100000 in
theorem sR_meetsAt {M : zM} {a0 : Int} (hB : BI M)  {Q : Int → Prop} (hQ : ∀ (z : Int), (0 ≤ z ∧ z ≤ 1) ∧ True → Q z) : wR_meetsAt a0 M Q := by
  unfold wR_meetsAt
  refine pL1_of (fun x1 => (0 ≤ x1 ∧ x1 ≤ 1000000) ∧ True) (fun x1 => (1000000 - x1).toNat) ⟨(by omega), trivial⟩ (fun K x1 h3 k4 => ?_)
  obtain ⟨i2, -⟩ := h3
  have q5 : 0 ≤ (M 0 10) ∧ (M 0 10) ≤ 4 := BN.at hB.1 (rfl : zcd wR 0 = 50) rfl
  have s6 : sI x1 = x1 := sIo (by omega) (by omega)
  have s7 : sI (M 0 10) = (M 0 10) := sIo (by omega) (by omega)
  refine ⟨fun c8 => ?_, fun c8 => ?_⟩
  · skip
    exact hQ _ ⟨(by omega), trivial⟩
  · skip
    refine sR_heardOf hB (by omega) (by omega) (fun z9  h10 => ?_)
    obtain ⟨p11, -⟩ := h10
    have o12 : 0 ≤ (sI x1) ∧ (sI x1) < 4 := by omega
    refine ⟨o12, ?_⟩
    have q13 : (-2147483648) ≤ (M 8 (sI x1).toNat) ∧ (M 8 (sI x1).toNat) ≤ 2147483647 := BN.at hB.1 (rfl : zcd wR 8 = 58) rfl
    have q14 := andI_R z9 (M 8 (sI x1).toNat)
    have o15 : 0 ≤ (sI x1) ∧ (sI x1) < 4 := by omega
    refine ⟨o15, ?_⟩
    have s17 : sI (M 8 (sI x1).toNat) = (M 8 (sI x1).toNat) := sIo (by omega) (by omega)
    refine ⟨fun c18 => ?_, fun c18 => ?_⟩
    · skip
      exact k4 _ ⟨(by omega), trivial⟩ (by omega)
    · skip
      exact hQ _ ⟨(by omega), trivial⟩
set_option maxHeartbeats 4000000 in
set_option maxRecDepth 100000 in
theorem sR_steadyAll {M : zM}  (hB : BI M)  {Q : Int → Prop} (hQ : ∀ (z : Int), (0 ≤ z ∧ z ≤ 5000) ∧ True → Q z) : wR_steadyAll  M Q := by
  unfold wR_steadyAll
  refine sR_steady hB (by omega) (fun z1  h2 => ?_)
  obtain ⟨p3, -⟩ := h2
  refine sR_steady hB (by omega) (fun z4  h5 => ?_)
  obtain ⟨p6, -⟩ := h5
  exact hQ _ ⟨(by omega), trivial⟩
set_option maxHeartbeats 4000000 in
set_option maxRecDepth 100000 in
theorem sR_findHeard {M : zM} {a0 : Int} (hB : BI M)  {Q : zM → Prop} (hQ : ∀ (M1 : zM), BI M1 ∧ (∀ j9 k9 : Nat, ¬ (j9 = 27) → M1 j9 k9 = M j9 k9) ∧ True → Q M1) : wR_findHeard a0 M Q := by
  unfold wR_findHeard
  have hF0 : ∀ j9 k9 : Nat, ¬ (j9 = 27) → M j9 k9 = M j9 k9 := fun j9 k9 _ => rfl
  refine wL1_of (fun x1 M2 => BI M2 ∧ (∀ j9 k9 : Nat, ¬ (j9 = 27) → M2 j9 k9 = M j9 k9) ∧ (0 ≤ x1 ∧ x1 ≤ 1000000) ∧ (M2 0 10 = M 0 10) ∧ True) (fun x1 M2 => (1000000 - x1).toNat) ⟨hB, hF0, (by omega), (by omega), trivial⟩ (fun K x1 M2 h7 k8 => ?_)
  obtain ⟨hB3, hF4, i5, i6, -⟩ := h7
  have q9 : 0 ≤ (M2 0 10) ∧ (M2 0 10) ≤ 4 := BN.at hB3.1 (rfl : zcd wR 0 = 50) rfl
  have s10 : sI x1 = x1 := sIo (by omega) (by omega)
  have s11 : sI (M2 0 10) = (M2 0 10) := sIo (by omega) (by omega)
  refine ⟨fun c12 => ?_, fun c12 => ?_⟩
  · skip
    exact hQ _ ⟨hB3, hF4, trivial⟩
  · skip
    refine wL1_of (fun x13 M14 => BI M14 ∧ (∀ j9 k9 : Nat, ¬ (j9 = 27) → M14 j9 k9 = M j9 k9) ∧ (0 ≤ x13 ∧ x13 ≤ 1000000) ∧ (M14 0 10 = M 0 10) ∧ True) (fun x13 M14 => (1000000 - x13).toNat) ⟨hB3, hF4, (by omega), (by omega), trivial⟩ (fun K x13 M14 h19 k20 => ?_)
    obtain ⟨hB15, hF16, i17, i18, -⟩ := h19
    refine sR_round hB15 (by omega) (by omega) (fun z21  h22 => ?_)
    obtain ⟨p23, -⟩ := h22
    have s24 : sI x13 = x13 := sIo (by omega) (by omega)
    refine ⟨fun c25 => ?_, fun c25 => ?_⟩
    · skip
      exact k8 _ _ ⟨hB15, hF16, (by omega), (by omega), trivial⟩ (by omega)
    · skip
      refine sR_heardOf hB15 (by omega) (by omega) (fun z26  h27 => ?_)
      obtain ⟨p28, -⟩ := h27
      have s29 : sI x1 = x1 := sIo (by omega) (by omega)
      have o30 : 0 ≤ (sI x1) ∧ (sI x1) < 4 := by omega
      refine ⟨o30, ?_⟩
      have q31 : (-2147483648) ≤ (M14 8 (sI x1).toNat) ∧ (M14 8 (sI x1).toNat) ≤ 2147483647 := BN.at hB15.1 (rfl : zcd wR 8 = 58) rfl
      have q32 := andI_R z26 (M14 8 (sI x1).toNat)
      have o33 : 0 ≤ (sI x1) ∧ (sI x1) < 4 := by omega
      refine ⟨o33, ?_⟩
      have s35 : sI (M14 8 (sI x1).toNat) = (M14 8 (sI x1).toNat) := sIo (by omega) (by omega)
      refine ⟨fun c36 => ?_, fun c36 => ?_⟩
      · skip
        have s37 : sI ((24 * x1) + x13) = ((24 * x1) + x13) := sIo (by omega) (by omega)
        have o38 : 0 ≤ (sI ((24 * x1) + x13)) ∧ (sI ((24 * x1) + x13)) < 96 := by omega
        refine ⟨o38, ?_⟩
        intro M39 e40
        have hB41 : BI M39 := by rw [e40]; exact BI.up hB15 (rfl : zcd wR 27 = 77) rfl (by omega) (by omega) (by decide)
        have hF42 : ∀ j9 k9 : Nat, ¬ (j9 = 27) → M39 j9 k9 = M j9 k9 := fun j9 k9 h9 => by rw [e40]; exact (zup_n _ _ (by omega)).trans (hF16 j9 k9 h9)
        have r43 : M39 0 10 = M14 0 10 := by rw [e40]; exact zup_n _ _ (by omega)
        exact k20 _ _ ⟨hB41, hF42, (by omega), (by omega), trivial⟩ (by omega)
      · skip
        have s44 : sI ((24 * x1) + x13) = ((24 * x1) + x13) := sIo (by omega) (by omega)
        have o45 : 0 ≤ (sI ((24 * x1) + x13)) ∧ (sI ((24 * x1) + x13)) < 96 := by omega
        refine ⟨o45, ?_⟩
        intro M46 e47
        have hB48 : BI M46 := by rw [e47]; exact BI.up hB15 (rfl : zcd wR 27 = 77) rfl (by omega) (by omega) (by decide)
        have hF49 : ∀ j9 k9 : Nat, ¬ (j9 = 27) → M46 j9 k9 = M j9 k9 := fun j9 k9 h9 => by rw [e47]; exact (zup_n _ _ (by omega)).trans (hF16 j9 k9 h9)
        have r50 : M46 0 10 = M14 0 10 := by rw [e47]; exact zup_n _ _ (by omega)
        exact k20 _ _ ⟨hB48, hF49, (by omega), (by omega), trivial⟩ (by omega)
set_option maxHeartbeats 4000000 in
set_option maxRecDepth 100000 in
theorem sR_meetsBehind {M : zM} {a0 : Int} (hB : BI M) (v0 : 0 ≤ a0 ∧ a0 ≤ 2147483647) {Q : Int → Prop} (hQ : ∀ (z : Int), (0 ≤ z ∧ z ≤ 1) ∧ True → Q z) : wR_meetsBehind a0 M Q := by
  unfold wR_meetsBehind
  refine pL1_of (fun x1 => (0 ≤ x1 ∧ x1 ≤ 1000000) ∧ True) (fun x1 => (1000000 - x1).toNat) ⟨(by omega), trivial⟩ (fun K x1 h3 k4 => ?_)
  obtain ⟨i2, -⟩ := h3
  have q5 : 0 ≤ (M 0 10) ∧ (M 0 10) ≤ 4 := BN.at hB.1 (rfl : zcd wR 0 = 50) rfl
  have s6 : sI x1 = x1 := sIo (by omega) (by omega)
  have s7 : sI (M 0 10) = (M 0 10) := sIo (by omega) (by omega)
  refine ⟨fun c8 => ?_, fun c8 => ?_⟩
  · skip
    exact hQ _ ⟨(by omega), trivial⟩
  · skip
    refine sR_round hB (by omega) (by omega) (fun z9  h10 => ?_)
    obtain ⟨p11, -⟩ := h10
    have s12 : sI a0 = a0 := sIo (by omega) (by omega)
    have o13 : z9 ≠ 0 := by omega
    refine ⟨o13, ?_⟩
    have q14 := tmodN (sI a0) z9 (by omega) (by omega)
    have s15 : sI ((24 * x1) + ((sI a0).tmod z9)) = ((24 * x1) + ((sI a0).tmod z9)) := sIo (by omega) (by omega)
    have o16 : 0 ≤ (sI ((24 * x1) + ((sI a0).tmod z9))) ∧ (sI ((24 * x1) + ((sI a0).tmod z9))) < 96 := by omega
    refine ⟨o16, ?_⟩
    have q17 : (-2147483648) ≤ (M 27 (sI ((24 * x1) + ((sI a0).tmod z9))).toNat) ∧ (M 27 (sI ((24 * x1) + ((sI a0).tmod z9))).toNat) ≤ 2147483647 := BN.at hB.1 (rfl : zcd wR 27 = 77) rfl
    have s18 : sI (M 27 (sI ((24 * x1) + ((sI a0).tmod z9))).toNat) = (M 27 (sI ((24 * x1) + ((sI a0).tmod z9))).toNat) := sIo (by omega) (by omega)
    refine ⟨fun c19 => ?_, fun c19 => ?_⟩
    · skip
      exact k4 _ ⟨(by omega), trivial⟩ (by omega)
    · skip
      exact hQ _ ⟨(by omega), trivial⟩
set_option maxHeartbeats 4000000 in
set_option maxRecDepth 100000 in
theorem sR_meets {M : zM} {a0 : Int} (hB : BI M) (v0 : (-9223372036854775808) ≤ a0 ∧ a0 ≤ 9223372036854775807) {Q : Int → zM → Prop} (hQ : ∀ (z : Int) (M1 : zM), BI M1 ∧ (∀ j9 k9 : Nat, ¬ (j9 = 0 ∧ k9 = 35 ∨ j9 = 27) → M1 j9 k9 = M j9 k9) ∧ ((-9223372036854775808) ≤ z ∧ z ≤ 9223372036854775807) ∧ True → Q z M1) : wR_meets a0 M Q := by
  unfold wR_meets
  have hF0 : ∀ j9 k9 : Nat, ¬ (j9 = 0 ∧ k9 = 35 ∨ j9 = 27) → M j9 k9 = M j9 k9 := fun j9 k9 _ => rfl
  intro M1 e2
  have hB3 : BI M1 := by rw [e2]; exact BI.up0 hB rfl (by omega) (by omega) (by decide)
  have hF4 : ∀ j9 k9 : Nat, ¬ (j9 = 0 ∧ k9 = 35 ∨ j9 = 27) → M1 j9 k9 = M j9 k9 := fun j9 k9 h9 => by rw [e2]; exact (zup_n _ _ (by omega)).trans (hF0 j9 k9 h9)
  have s5 : sL a0 = a0 := sLo (by omega) (by omega)
  refine ⟨fun c6 => ?_, fun c6 => ?_⟩
  · skip
    exact hQ _ _ ⟨hB3, hF4, (by omega), trivial⟩
  · skip
    refine ⟨fun c7 => ?_, fun c7 => ?_⟩
    · skip
      refine pL1_of (fun x8 => (0 ≤ x8 ∧ x8 ≤ 1152921504606846976) ∧ True) (fun x8 => (9223372036854775807 - x8).toNat) ⟨(by omega), trivial⟩ (fun K x8 h10 k11 => ?_)
      obtain ⟨i9, -⟩ := h10
      refine sR_steadyAll hB3  (fun z12  h13 => ?_)
      obtain ⟨p14, -⟩ := h13
      have s15 : sL x8 = x8 := sLo (by omega) (by omega)
      refine ⟨fun c16 => ?_, fun c16 => ?_⟩
      · skip
        refine sR_findHeard hB3  (fun  M17 h18 => ?_)
        obtain ⟨hB19, f20, -⟩ := h18
        have hF21 : ∀ j9 k9 : Nat, ¬ (j9 = 0 ∧ k9 = 35 ∨ j9 = 27) → M17 j9 k9 = M j9 k9 := fun j9 k9 h9 => ((f20 j9 k9 (by omega)).trans (hF4 j9 k9 h9))
        refine sR_allRounds hB19  (fun z22  h23 => ?_)
        obtain ⟨p24, -⟩ := h23
        refine pL1_of (fun x25 => (0 ≤ x25 ∧ x25 ≤ 1000000) ∧ True) (fun x25 => (1000000 - x25).toNat) ⟨(by omega), trivial⟩ (fun K x25 h27 k28 => ?_)
        obtain ⟨i26, -⟩ := h27
        have s29 : sI x25 = x25 := sIo (by omega) (by omega)
        have s30 : sI z22 = z22 := sIo (by omega) (by omega)
        refine ⟨fun c31 => ?_, fun c31 => ?_⟩
        · skip
          exact hQ _ _ ⟨hB19, hF21, (by omega), trivial⟩
        · skip
          refine sR_meetsBehind hB19 (by omega) (fun z32  h33 => ?_)
          obtain ⟨p34, -⟩ := h33
          refine ⟨fun c35 => ?_, fun c35 => ?_⟩
          · skip
            exact k28 _ ⟨(by omega), trivial⟩ (by omega)
          · skip
            have s36 : sL (x8 + (sI x25)) = (x8 + (sI x25)) := sLo (by omega) (by omega)
            exact hQ _ _ ⟨hB19, hF21, (by omega), trivial⟩
      · skip
        refine sR_meetsAt hB3  (fun z37  h38 => ?_)
        obtain ⟨p39, -⟩ := h38
        refine ⟨fun c40 => ?_, fun c40 => ?_⟩
        · skip
          exact k11 _ ⟨(by omega), trivial⟩ (by omega)
        · skip
          exact hQ _ _ ⟨hB3, hF4, (by omega), trivial⟩
    · skip
      exact hQ _ _ ⟨hB3, hF4, (by omega), trivial⟩
set_option maxHeartbeats 4000000 in
set_option maxRecDepth 100000 in
theorem sR_often {M : zM}  (hB : BI M)  {Q : Int → zM → Prop} (hQ : ∀ (z : Int) (M1 : zM), BI M1 ∧ (∀ j9 k9 : Nat, ¬ (j9 = 0 ∧ k9 = 35 ∨ j9 = 27) → M1 j9 k9 = M j9 k9) ∧ ((-9223372036854775808) ≤ z ∧ z ≤ 9223372036854775807) ∧ True → Q z M1) : wR_often  M Q := by
  unfold wR_often
  have hF0 : ∀ j9 k9 : Nat, ¬ (j9 = 0 ∧ k9 = 35 ∨ j9 = 27) → M j9 k9 = M j9 k9 := fun j9 k9 _ => rfl
  intro M1 e2
  have hB3 : BI M1 := by rw [e2]; exact BI.up0 hB rfl (by omega) (by omega) (by decide)
  have hF4 : ∀ j9 k9 : Nat, ¬ (j9 = 0 ∧ k9 = 35 ∨ j9 = 27) → M1 j9 k9 = M j9 k9 := fun j9 k9 h9 => by rw [e2]; exact (zup_n _ _ (by omega)).trans (hF0 j9 k9 h9)
  refine sR_steadyAll hB3  (fun z5  h6 => ?_)
  obtain ⟨p7, -⟩ := h6
  refine sR_findHeard hB3  (fun  M8 h9 => ?_)
  obtain ⟨hB10, f11, -⟩ := h9
  have hF12 : ∀ j9 k9 : Nat, ¬ (j9 = 0 ∧ k9 = 35 ∨ j9 = 27) → M8 j9 k9 = M j9 k9 := fun j9 k9 h9 => ((f11 j9 k9 (by omega)).trans (hF4 j9 k9 h9))
  refine sR_allRounds hB10  (fun z13  h14 => ?_)
  obtain ⟨p15, -⟩ := h14
  refine pL2_of (fun x16 x17 => (0 ≤ x17 ∧ x17 ≤ 1000000) ∧ True) (fun x16 x17 => (1000000 - x17).toNat) ⟨(by omega), trivial⟩ (fun K x16 x17 h19 k20 => ?_)
  obtain ⟨i18, -⟩ := h19
  have s21 : sI x17 = x17 := sIo (by omega) (by omega)
  have s22 : sI z13 = z13 := sIo (by omega) (by omega)
  refine ⟨fun c23 => ?_, fun c23 => ?_⟩
  · skip
    have s24 := sL_R x16
    have s25 := sL_or x16
    exact hQ _ _ ⟨hB10, hF12, (by omega), trivial⟩
  · skip
    refine sR_meetsBehind hB10 (by omega) (fun z26  h27 => ?_)
    obtain ⟨p28, -⟩ := h27
    refine ⟨fun c29 => ?_, fun c29 => ?_⟩
    · skip
      exact k20 _ _ ⟨(by omega), trivial⟩ (by omega)
    · skip
      exact k20 _ _ ⟨(by omega), trivial⟩ (by omega)
set_option maxHeartbeats 4000000 in
set_option maxRecDepth 100000 in
theorem sR_mark {M : zM} {a0 : Int} {a1 : Int} (hB : BI M) (v0 : (-2147483648) ≤ a0 ∧ a0 ≤ 2147483647) (v1 : (-2147483648) ≤ a1 ∧ a1 ≤ 2147483647) {Q : Int → zM → Prop} (hQ : ∀ (z : Int) (M1 : zM), BI M1 ∧ (∀ j9 k9 : Nat, ¬ (j9 = 0 ∧ k9 = 35 ∨ j9 = 0 ∧ k9 = 16 ∨ j9 = 12 ∨ j9 = 13) → M1 j9 k9 = M j9 k9) ∧ ((-2147483648) ≤ z ∧ z ≤ 2147483647) ∧ ((0 ≤ a0 ∧ a0 ≤ 100000 ∧ 1 ≤ a1 ∧ a1 ≤ 9 ∧ M 0 16 < 6 ∧ z = M 0 16 + 1 ∧ M1 0 16 = M 0 16 + 1) ∨ (¬ (0 ≤ a0 ∧ a0 ≤ 100000 ∧ 1 ≤ a1 ∧ a1 ≤ 9 ∧ M 0 16 < 6) ∧ z = -1 ∧ M1 0 16 = M 0 16)) ∧ True → Q z M1) : wR_mark a0 a1 M Q := by
  unfold wR_mark
  have hF0 : ∀ j9 k9 : Nat, ¬ (j9 = 0 ∧ k9 = 35 ∨ j9 = 0 ∧ k9 = 16 ∨ j9 = 12 ∨ j9 = 13) → M j9 k9 = M j9 k9 := fun j9 k9 _ => rfl
  intro M1 e2
  have hB3 : BI M1 := by rw [e2]; exact BI.up0 hB rfl (by omega) (by omega) (by decide)
  have hF4 : ∀ j9 k9 : Nat, ¬ (j9 = 0 ∧ k9 = 35 ∨ j9 = 0 ∧ k9 = 16 ∨ j9 = 12 ∨ j9 = 13) → M1 j9 k9 = M j9 k9 := fun j9 k9 h9 => by rw [e2]; exact (zup_n _ _ (by omega)).trans (hF0 j9 k9 h9)
  have r5 : M1 0 16 = M 0 16 := by rw [e2]; exact zup_n _ _ (by omega)
  refine sR_in hB3 (by omega) (by omega) (by omega) (fun z6  h7 => ?_)
  obtain ⟨p8, p9, -⟩ := h7
  refine ⟨fun c10 => ?_, fun c10 => ?_⟩
  · skip
    exact hQ _ _ ⟨hB3, hF4, (by omega), (by omega), trivial⟩
  · skip
    refine sR_in hB3 (by omega) (by omega) (by omega) (fun z11  h12 => ?_)
    obtain ⟨p13, p14, -⟩ := h12
    refine ⟨fun c15 => ?_, fun c15 => ?_⟩
    · skip
      exact hQ _ _ ⟨hB3, hF4, (by omega), (by omega), trivial⟩
    · skip
      have q16 : 0 ≤ (M1 0 16) ∧ (M1 0 16) ≤ 6 := BN.at hB3.1 (rfl : zcd wR 0 = 50) rfl
      have s17 : sI (M1 0 16) = (M1 0 16) := sIo (by omega) (by omega)
      refine ⟨fun c18 => ?_, fun c18 => ?_⟩
      · skip
        have o20 : 0 ≤ (sI (M1 0 16)) ∧ (sI (M1 0 16)) < 6 := by omega
        refine ⟨o20, ?_⟩
        intro M21 e22
        have hB23 : BI M21 := by rw [e22]; exact BI.up hB3 (rfl : zcd wR 12 = 62) rfl (by omega) (by omega) (by decide)
        have hF24 : ∀ j9 k9 : Nat, ¬ (j9 = 0 ∧ k9 = 35 ∨ j9 = 0 ∧ k9 = 16 ∨ j9 = 12 ∨ j9 = 13) → M21 j9 k9 = M j9 k9 := fun j9 k9 h9 => by rw [e22]; exact (zup_n _ _ (by omega)).trans (hF4 j9 k9 h9)
        have r25 : M21 0 16 = M1 0 16 := by rw [e22]; exact zup_n _ _ (by omega)
        have q26 : 0 ≤ (M21 0 16) ∧ (M21 0 16) ≤ 6 := BN.at hB23.1 (rfl : zcd wR 0 = 50) rfl
        have s27 : sI (M21 0 16) = (M21 0 16) := sIo (by omega) (by omega)
        have o28 : 0 ≤ (sI (M21 0 16)) ∧ (sI (M21 0 16)) < 6 := by omega
        refine ⟨o28, ?_⟩
        intro M29 e30
        have hB31 : BI M29 := by rw [e30]; exact BI.up hB23 (rfl : zcd wR 13 = 63) rfl (by omega) (by omega) (by decide)
        have hF32 : ∀ j9 k9 : Nat, ¬ (j9 = 0 ∧ k9 = 35 ∨ j9 = 0 ∧ k9 = 16 ∨ j9 = 12 ∨ j9 = 13) → M29 j9 k9 = M j9 k9 := fun j9 k9 h9 => by rw [e30]; exact (zup_n _ _ (by omega)).trans (hF24 j9 k9 h9)
        have r33 : M29 0 16 = M21 0 16 := by rw [e30]; exact zup_n _ _ (by omega)
        have q34 : 0 ≤ (M29 0 16) ∧ (M29 0 16) ≤ 6 := BN.at hB31.1 (rfl : zcd wR 0 = 50) rfl
        intro M35 e36
        have hB37 : BI M35 := by rw [e36]; exact BI.up0 hB31 rfl (by omega) (by omega) (by decide)
        have hF38 : ∀ j9 k9 : Nat, ¬ (j9 = 0 ∧ k9 = 35 ∨ j9 = 0 ∧ k9 = 16 ∨ j9 = 12 ∨ j9 = 13) → M35 j9 k9 = M j9 k9 := fun j9 k9 h9 => by rw [e36]; exact (zup_n _ _ (by omega)).trans (hF32 j9 k9 h9)
        have r39 : M35 0 16 = ((M29 0 16) + 1) := by rw [e36]; exact zup_s _ _ _ _
        have q40 : 0 ≤ (M35 0 16) ∧ (M35 0 16) ≤ 6 := BN.at hB37.1 (rfl : zcd wR 0 = 50) rfl
        have s41 : sI (M35 0 16) = (M35 0 16) := sIo (by omega) (by omega)
        exact hQ _ _ ⟨hB37, hF38, (by omega), (by omega), trivial⟩
      · skip
        exact hQ _ _ ⟨hB3, hF4, (by omega), (by omega), trivial⟩
set_option maxHeartbeats 4000000 in
set_option maxRecDepth 100000 in
theorem sR_truths {M : zM} {a0 : Int} {a1 : Int} {a2 : Int} (hB : BI M) (v0 : 0 ≤ a0 ∧ a0 ≤ 3) (v1 : 0 ≤ a1 ∧ a1 ≤ 23) (v2 : 0 ≤ a2 ∧ a2 ≤ 23) (p0 : a0 < M 0 10) (p1 : a1 = 0 ∨ a1 < M 4 (sI a0).toNat) {Q : Int → Prop} (hQ : ∀ (z : Int), (0 ≤ z ∧ z ≤ 63) ∧ True → Q z) : wR_truths a0 a1 a2 M Q := by
  unfold wR_truths
  have s1 : sI a0 = a0 := sIo (by omega) (by omega)
  have o2 : 0 ≤ (sI a0) ∧ (sI a0) < 4 := by omega
  refine ⟨o2, ?_⟩
  have q3 : 0 ≤ (M 4 (sI a0).toNat) ∧ (M 4 (sI a0).toNat) ≤ 24 := BN.at hB.1 (rfl : zcd wR 4 = 54) rfl
  have q4 : (((sI a0).toNat : Nat) : Int) < M 0 10 → 1 ≤ (M 4 (sI a0).toNat) := hB.2 _ (by omega)
  have q5 : 0 ≤ M 0 10 ∧ M 0 10 ≤ 4 := BN.at hB.1 (rfl : zcd wR 0 = 50) rfl
  refine pL2_of (fun x6 x7 => (0 ≤ x6 ∧ x6 ≤ 63) ∧ (0 ≤ x7 ∧ x7 ≤ 1000000) ∧ True) (fun x6 x7 => (1000000 - x7).toNat) ⟨(by omega), (by omega), trivial⟩ (fun K x6 x7 h10 k11 => ?_)
  obtain ⟨i8, i9, -⟩ := h10
  have q12 : 0 ≤ (M 0 16) ∧ (M 0 16) ≤ 6 := BN.at hB.1 (rfl : zcd wR 0 = 50) rfl
  have s13 : sI x7 = x7 := sIo (by omega) (by omega)
  have s14 : sI (M 0 16) = (M 0 16) := sIo (by omega) (by omega)
  refine ⟨fun c15 => ?_, fun c15 => ?_⟩
  · skip
    have s16 : sI x6 = x6 := sIo (by omega) (by omega)
    exact hQ _ ⟨(by omega), trivial⟩
  · skip
    have s17 : sI a0 = a0 := sIo (by omega) (by omega)
    have o18 : 0 ≤ (sI a0) ∧ (sI a0) < 4 := by omega
    refine ⟨o18, ?_⟩
    have q19 : 0 ≤ (M 5 (sI a0).toNat) ∧ (M 5 (sI a0).toNat) ≤ 1 := BN.at hB.1 (rfl : zcd wR 5 = 55) rfl
    have o20 : 0 ≤ (sI x7) ∧ (sI x7) < 6 := by omega
    refine ⟨o20, ?_⟩
    have q21 : 0 ≤ (M 12 (sI x7).toNat) ∧ (M 12 (sI x7).toNat) ≤ 100000 := BN.at hB.1 (rfl : zcd wR 12 = 62) rfl
    have s22 : sI (M 12 (sI x7).toNat) = (M 12 (sI x7).toNat) := sIo (by omega) (by omega)
    refine sR_wayBy hB (by omega) (by omega) (fun z23  h24 => ?_)
    obtain ⟨p25, p26, -⟩ := h24
    refine pL2_of (fun x27 x28 => (0 ≤ x28 ∧ x28 ≤ 1000000) ∧ True) (fun x27 x28 => (1000000 - x28).toNat) ⟨(by omega), trivial⟩ (fun K x27 x28 h30 k31 => ?_)
    obtain ⟨i29, -⟩ := h30
    have s32 : sI x28 = x28 := sIo (by omega) (by omega)
    refine ⟨fun c33 => ?_, fun c33 => ?_⟩
    · skip
      have s34 := sI_R x27
      have s35 := sI_or x27
      refine ⟨fun c36 => ?_, fun c36 => ?_⟩
      · skip
        exact k11 _ _ ⟨(by omega), (by omega), trivial⟩ (by omega)
      · skip
        have q37 := shl01 1 x7 (by omega) (by omega) (by omega) (by omega)
        have q38 := or64 x6 (shlI 1 x7) (by omega) (by omega) (by omega) (by omega)
        exact k11 _ _ ⟨(by omega), (by omega), trivial⟩ (by omega)
    · skip
      have s39 : sI a0 = a0 := sIo (by omega) (by omega)
      have o40 : 0 ≤ (sI a0) ∧ (sI a0) < 4 := by omega
      refine ⟨o40, ?_⟩
      have q41 : (-2147483648) ≤ (M 7 (sI a0).toNat) ∧ (M 7 (sI a0).toNat) ≤ 2147483647 := BN.at hB.1 (rfl : zcd wR 7 = 57) rfl
      have q42 := shrI_R (M 7 (sI a0).toNat) x28
      have q43 := andI_br (shrI (M 7 (sI a0).toNat) x28) (c := 1) (by decide) (by decide)
      refine ⟨fun c44 => ?_, fun c44 => ?_⟩
      · skip
        exact k31 _ _ ⟨(by omega), trivial⟩ (by omega)
      · skip
        have s45 := sI_R x27
        have s46 := sI_or x27
        refine ⟨fun c47 => ?_, fun c47 => ?_⟩
        · skip
          exact k31 _ _ ⟨(by omega), trivial⟩ (by omega)
        · skip
          have s48 : sI ((a2 + z23) + x28) = ((a2 + z23) + x28) := sIo (by omega) (by omega)
          have s49 : sI ((M 4 (sI a0).toNat) - a1) = ((M 4 (sI a0).toNat) - a1) := sIo (by omega) (by omega)
          have o50 : (sI ((M 4 (sI a0).toNat) - a1)) ≠ 0 := by omega
          refine ⟨o50, ?_⟩
          have q51 := tmodN (sI ((a2 + z23) + x28)) (sI ((M 4 (sI a0).toNat) - a1)) (by omega) (by omega)
          have s52 : sI ((24 * a0) + ((sI ((a2 + z23) + x28)).tmod (sI ((M 4 (sI a0).toNat) - a1)))) = ((24 * a0) + ((sI ((a2 + z23) + x28)).tmod (sI ((M 4 (sI a0).toNat) - a1)))) := sIo (by omega) (by omega)
          have o53 : 0 ≤ (sI ((24 * a0) + ((sI ((a2 + z23) + x28)).tmod (sI ((M 4 (sI a0).toNat) - a1))))) ∧ (sI ((24 * a0) + ((sI ((a2 + z23) + x28)).tmod (sI ((M 4 (sI a0).toNat) - a1))))) < 96 := by omega
          refine ⟨o53, ?_⟩
          have q54 : (-2147483648) ≤ (M 3 (sI ((24 * a0) + ((sI ((a2 + z23) + x28)).tmod (sI ((M 4 (sI a0).toNat) - a1))))).toNat) ∧ (M 3 (sI ((24 * a0) + ((sI ((a2 + z23) + x28)).tmod (sI ((M 4 (sI a0).toNat) - a1))))).toNat) ≤ 2147483647 := BN.at hB.1 (rfl : zcd wR 3 = 53) rfl
          have s55 : sI x7 = x7 := sIo (by omega) (by omega)
          have o56 : 0 ≤ (sI x7) ∧ (sI x7) < 6 := by omega
          refine ⟨o56, ?_⟩
          have q57 : 0 ≤ (M 13 (sI x7).toNat) ∧ (M 13 (sI x7).toNat) ≤ 9 := BN.at hB.1 (rfl : zcd wR 13 = 63) rfl
          have q58 := shrI_R (M 3 (sI ((24 * a0) + ((sI ((a2 + z23) + x28)).tmod (sI ((M 4 (sI a0).toNat) - a1))))).toNat) (M 13 (sI x7).toNat)
          have q59 := andI_br (shrI (M 3 (sI ((24 * a0) + ((sI ((a2 + z23) + x28)).tmod (sI ((M 4 (sI a0).toNat) - a1))))).toNat) (M 13 (sI x7).toNat)) (c := 1) (by decide) (by decide)
          refine ⟨fun c60 => ?_, fun c60 => ?_⟩
          · skip
            exact k31 _ _ ⟨(by omega), trivial⟩ (by omega)
          · skip
            exact k31 _ _ ⟨(by omega), trivial⟩ (by omega)
set_option maxHeartbeats 4000000 in
set_option maxRecDepth 100000 in
theorem sR_keptM {M : zM}  (hB : BI M)  {Q : Int → zM → Prop} (hQ : ∀ (z : Int) (M1 : zM), BI M1 ∧ (∀ j9 k9 : Nat, ¬ (j9 = 0 ∧ k9 = 35) → M1 j9 k9 = M j9 k9) ∧ ((-2147483648) ≤ z ∧ z ≤ 2147483647) ∧ True → Q z M1) : wR_keptM  M Q := by
  unfold wR_keptM
  have hF0 : ∀ j9 k9 : Nat, ¬ (j9 = 0 ∧ k9 = 35) → M j9 k9 = M j9 k9 := fun j9 k9 _ => rfl
  intro M1 e2
  have hB3 : BI M1 := by rw [e2]; exact BI.up0 hB rfl (by omega) (by omega) (by decide)
  have hF4 : ∀ j9 k9 : Nat, ¬ (j9 = 0 ∧ k9 = 35) → M1 j9 k9 = M j9 k9 := fun j9 k9 h9 => by rw [e2]; exact (zup_n _ _ (by omega)).trans (hF0 j9 k9 h9)
  refine pL2_of (fun x5 x6 => (0 ≤ x6 ∧ x6 ≤ 1000000) ∧ True) (fun x5 x6 => (1000000 - x6).toNat) ⟨(by omega), trivial⟩ (fun K x5 x6 h8 k9 => ?_)
  obtain ⟨i7, -⟩ := h8
  have q10 : 0 ≤ (M1 0 10) ∧ (M1 0 10) ≤ 4 := BN.at hB3.1 (rfl : zcd wR 0 = 50) rfl
  have s11 : sI x6 = x6 := sIo (by omega) (by omega)
  have s12 : sI (M1 0 10) = (M1 0 10) := sIo (by omega) (by omega)
  refine ⟨fun c13 => ?_, fun c13 => ?_⟩
  · skip
    have s14 := sI_R x5
    have s15 := sI_or x5
    exact hQ _ _ ⟨hB3, hF4, (by omega), trivial⟩
  · skip
    have o16 : 0 ≤ (sI x6) ∧ (sI x6) < 4 := by omega
    refine ⟨o16, ?_⟩
    have q17 : 0 ≤ (M1 6 (sI x6).toNat) ∧ (M1 6 (sI x6).toNat) ≤ 23 := BN.at hB3.1 (rfl : zcd wR 6 = 56) rfl
    refine sR_truths hB3 (by omega) (by omega) (by omega) (by omega) (by omega) (fun z18  h19 => ?_)
    obtain ⟨p20, -⟩ := h19
    have q21 := orI_R x5 z18
    exact k9 _ _ ⟨(by omega), trivial⟩ (by omega)
set_option maxHeartbeats 4000000 in
set_option maxRecDepth 100000 in
theorem sR_costOf {M : zM} {a0 : Int} {a1 : Int} {a2 : Int} (hB : BI M) (v0 : 0 ≤ a0 ∧ a0 ≤ 3) (v1 : 0 ≤ a1 ∧ a1 ≤ 23) (v2 : 0 ≤ a2 ∧ a2 ≤ 23) {Q : Int → Prop} (hQ : ∀ (z : Int), (0 ≤ z ∧ z ≤ 200) ∧ True → Q z) : wR_costOf a0 a1 a2 M Q := by
  unfold wR_costOf
  have s1 : sI a0 = a0 := sIo (by omega) (by omega)
  have o2 : 0 ≤ (sI a0) ∧ (sI a0) < 4 := by omega
  refine ⟨o2, ?_⟩
  have q3 : 0 ≤ (M 6 (sI a0).toNat) ∧ (M 6 (sI a0).toNat) ≤ 23 := BN.at hB.1 (rfl : zcd wR 6 = 56) rfl
  have s4 : sI (a2 - (M 6 (sI a0).toNat)) = (a2 - (M 6 (sI a0).toNat)) := sIo (by omega) (by omega)
  have q5 := absI_b (sI (a2 - (M 6 (sI a0).toNat)))
  have s6 : sI ((5 * a1) + (absI (sI (a2 - (M 6 (sI a0).toNat))))) = ((5 * a1) + (absI (sI (a2 - (M 6 (sI a0).toNat))))) := sIo (by omega) (by omega)
  exact hQ _ ⟨(by omega), trivial⟩
set_option maxHeartbeats 4000000 in
set_option maxRecDepth 100000 in
theorem sR_cut {M : zM} {a0 : Int} {a1 : Int} (hB : BI M) (v0 : (-2147483648) ≤ a0 ∧ a0 ≤ 2147483647) (v1 : (-2147483648) ≤ a1 ∧ a1 ≤ 2147483647) {Q : Int → zM → Prop} (hQ : ∀ (z : Int) (M1 : zM), BI M1 ∧ (∀ j9 k9 : Nat, ¬ (j9 = 0 ∧ k9 = 35 ∨ j9 = 4 ∨ j9 = 6) → M1 j9 k9 = M j9 k9) ∧ ((-2147483648) ≤ z ∧ z ≤ 2147483647) ∧ True → Q z M1) : wR_cut a0 a1 M Q := by
  unfold wR_cut
  have hF0 : ∀ j9 k9 : Nat, ¬ (j9 = 0 ∧ k9 = 35 ∨ j9 = 4 ∨ j9 = 6) → M j9 k9 = M j9 k9 := fun j9 k9 _ => rfl
  intro M1 e2
  have hB3 : BI M1 := by rw [e2]; exact BI.up0 hB rfl (by omega) (by omega) (by decide)
  have hF4 : ∀ j9 k9 : Nat, ¬ (j9 = 0 ∧ k9 = 35 ∨ j9 = 4 ∨ j9 = 6) → M1 j9 k9 = M j9 k9 := fun j9 k9 h9 => by rw [e2]; exact (zup_n _ _ (by omega)).trans (hF0 j9 k9 h9)
  have r5 : M1 4 (sI a0).toNat = M 4 (sI a0).toNat := by rw [e2]; exact zup_n _ _ (by omega)
  refine sR_isRing hB3 (by omega) (fun z6  h7 => ?_)
  obtain ⟨p8, p9, -⟩ := h7
  refine ⟨fun c10 => ?_, fun c10 => ?_⟩
  · skip
    exact hQ _ _ ⟨hB3, hF4, (by omega), trivial⟩
  · skip
    have s11 : sI a0 = a0 := sIo (by omega) (by omega)
    have o12 : 0 ≤ (sI a0) ∧ (sI a0) < 4 := by omega
    refine ⟨o12, ?_⟩
    have q13 : 0 ≤ (M1 4 (sI a0).toNat) ∧ (M1 4 (sI a0).toNat) ≤ 24 := BN.at hB3.1 (rfl : zcd wR 4 = 54) rfl
    have q14 : (((sI a0).toNat : Nat) : Int) < M1 0 10 → 1 ≤ (M1 4 (sI a0).toNat) := hB3.2 _ (by omega)
    have q15 : 0 ≤ M1 0 10 ∧ M1 0 10 ≤ 4 := BN.at hB3.1 (rfl : zcd wR 0 = 50) rfl
    refine sR_in hB3 (by omega) (by omega) (by omega) (fun z16  h17 => ?_)
    obtain ⟨p18, p19, -⟩ := h17
    refine ⟨fun c20 => ?_, fun c20 => ?_⟩
    · skip
      have o21 : 0 ≤ (sI a0) ∧ (sI a0) < 4 := by omega
      refine ⟨o21, ?_⟩
      have o25 : 0 ≤ (sI a0) ∧ (sI a0) < 4 := by omega
      refine ⟨o25, ?_⟩
      intro M26 e27
      have hB28 : BI M26 := by rw [e27]; exact BI.up4 hB3 (by omega) (by omega)
      have hF29 : ∀ j9 k9 : Nat, ¬ (j9 = 0 ∧ k9 = 35 ∨ j9 = 4 ∨ j9 = 6) → M26 j9 k9 = M j9 k9 := fun j9 k9 h9 => by rw [e27]; exact (zup_n _ _ (by omega)).trans (hF4 j9 k9 h9)
      have r30 : M26 4 (sI a0).toNat = ((M1 4 (sI a0).toNat) - a1) := by rw [e27]; exact zup_s _ _ _ _
      have o31 : 0 ≤ (sI a0) ∧ (sI a0) < 4 := by omega
      refine ⟨o31, ?_⟩
      have q32 : 0 ≤ (M26 6 (sI a0).toNat) ∧ (M26 6 (sI a0).toNat) ≤ 23 := BN.at hB28.1 (rfl : zcd wR 6 = 56) rfl
      have o33 : 0 ≤ (sI a0) ∧ (sI a0) < 4 := by omega
      refine ⟨o33, ?_⟩
      have q34 : 0 ≤ (M26 4 (sI a0).toNat) ∧ (M26 4 (sI a0).toNat) ≤ 24 := BN.at hB28.1 (rfl : zcd wR 4 = 54) rfl
      have q35 : (((sI a0).toNat : Nat) : Int) < M26 0 10 → 1 ≤ (M26 4 (sI a0).toNat) := hB28.2 _ (by omega)
      have q36 : 0 ≤ M26 0 10 ∧ M26 0 10 ≤ 4 := BN.at hB28.1 (rfl : zcd wR 0 = 50) rfl
      have s37 : sI (M26 6 (sI a0).toNat) = (M26 6 (sI a0).toNat) := sIo (by omega) (by omega)
      have s38 : sI (M26 4 (sI a0).toNat) = (M26 4 (sI a0).toNat) := sIo (by omega) (by omega)
      have o39 : (sI (M26 4 (sI a0).toNat)) ≠ 0 := by omega
      refine ⟨o39, ?_⟩
      have q40 := tmodN (sI (M26 6 (sI a0).toNat)) (sI (M26 4 (sI a0).toNat)) (by omega) (by omega)
      have o41 : 0 ≤ (sI a0) ∧ (sI a0) < 4 := by omega
      refine ⟨o41, ?_⟩
      intro M42 e43
      have hB44 : BI M42 := by rw [e43]; exact BI.up hB28 (rfl : zcd wR 6 = 56) rfl (by omega) (by omega) (by decide)
      have hF45 : ∀ j9 k9 : Nat, ¬ (j9 = 0 ∧ k9 = 35 ∨ j9 = 4 ∨ j9 = 6) → M42 j9 k9 = M j9 k9 := fun j9 k9 h9 => by rw [e43]; exact (zup_n _ _ (by omega)).trans (hF29 j9 k9 h9)
      have r46 : M42 4 (sI a0).toNat = M26 4 (sI a0).toNat := by rw [e43]; exact zup_n _ _ (by omega)
      have o47 : 0 ≤ (sI a0) ∧ (sI a0) < 4 := by omega
      refine ⟨o47, ?_⟩
      have q48 : 0 ≤ (M42 4 (sI a0).toNat) ∧ (M42 4 (sI a0).toNat) ≤ 24 := BN.at hB44.1 (rfl : zcd wR 4 = 54) rfl
      have q49 : (((sI a0).toNat : Nat) : Int) < M42 0 10 → 1 ≤ (M42 4 (sI a0).toNat) := hB44.2 _ (by omega)
      have q50 : 0 ≤ M42 0 10 ∧ M42 0 10 ≤ 4 := BN.at hB44.1 (rfl : zcd wR 0 = 50) rfl
      have s51 : sI (M42 4 (sI a0).toNat) = (M42 4 (sI a0).toNat) := sIo (by omega) (by omega)
      exact hQ _ _ ⟨hB44, hF45, (by omega), trivial⟩
    · skip
      exact hQ _ _ ⟨hB3, hF4, (by omega), trivial⟩
