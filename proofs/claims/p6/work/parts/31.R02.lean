/-! safety of the model, 2 -/
set_option maxHeartbeats 4000000 in
set_option maxRecDepth 100000 in
theorem sR_clear {M : zM}  (hB : BI M)  {Q : Int → zM → Prop} (hQ : ∀ (z : Int) (M1 : zM), BI M1 ∧ (∀ j9 k9 : Nat, ¬ (j9 = 0 ∧ k9 = 35 ∨ j9 = 0 ∧ k9 = 10 ∨ j9 = 0 ∧ k9 = 16 ∨ j9 = 11) → M1 j9 k9 = M j9 k9) ∧ ((-2147483648) ≤ z ∧ z ≤ 2147483647) ∧ (z = M 0 10) ∧ (M1 0 10 = 0) ∧ (M1 0 16 = 0) ∧ True → Q z M1) : wR_clear  M Q := by
  unfold wR_clear
  have hF0 : ∀ j9 k9 : Nat, ¬ (j9 = 0 ∧ k9 = 35 ∨ j9 = 0 ∧ k9 = 10 ∨ j9 = 0 ∧ k9 = 16 ∨ j9 = 11) → M j9 k9 = M j9 k9 := fun j9 k9 _ => rfl
  intro M1 e2
  have hB3 : BI M1 := by rw [e2]; exact BI.up0 hB rfl (by omega) (by omega) (by decide)
  have hF4 : ∀ j9 k9 : Nat, ¬ (j9 = 0 ∧ k9 = 35 ∨ j9 = 0 ∧ k9 = 10 ∨ j9 = 0 ∧ k9 = 16 ∨ j9 = 11) → M1 j9 k9 = M j9 k9 := fun j9 k9 h9 => by rw [e2]; exact (zup_n _ _ (by omega)).trans (hF0 j9 k9 h9)
  have r5 : M1 0 10 = M 0 10 := by rw [e2]; exact zup_n _ _ (by omega)
  have r6 : M1 0 16 = M 0 16 := by rw [e2]; exact zup_n _ _ (by omega)
  have q7 : 0 ≤ (M1 0 10) ∧ (M1 0 10) ≤ 4 := BN.at hB3.1 (rfl : zcd wR 0 = 50) rfl
  intro M8 e9
  have hB10 : BI M8 := by rw [e9]; exact BI.up10 hB3 (by omega) (by omega)
  have hF11 : ∀ j9 k9 : Nat, ¬ (j9 = 0 ∧ k9 = 35 ∨ j9 = 0 ∧ k9 = 10 ∨ j9 = 0 ∧ k9 = 16 ∨ j9 = 11) → M8 j9 k9 = M j9 k9 := fun j9 k9 h9 => by rw [e9]; exact (zup_n _ _ (by omega)).trans (hF4 j9 k9 h9)
  have r12 : M8 0 10 = 0 := by rw [e9]; exact zup_s _ _ _ _
  have r13 : M8 0 16 = M1 0 16 := by rw [e9]; exact zup_n _ _ (by omega)
  intro M14 e15
  have hB16 : BI M14 := by rw [e15]; exact BI.up0 hB10 rfl (by omega) (by omega) (by decide)
  have hF17 : ∀ j9 k9 : Nat, ¬ (j9 = 0 ∧ k9 = 35 ∨ j9 = 0 ∧ k9 = 10 ∨ j9 = 0 ∧ k9 = 16 ∨ j9 = 11) → M14 j9 k9 = M j9 k9 := fun j9 k9 h9 => by rw [e15]; exact (zup_n _ _ (by omega)).trans (hF11 j9 k9 h9)
  have r18 : M14 0 10 = M8 0 10 := by rw [e15]; exact zup_n _ _ (by omega)
  have r19 : M14 0 16 = 0 := by rw [e15]; exact zup_s _ _ _ _
  refine wL1_of (fun x20 M21 => BI M21 ∧ (∀ j9 k9 : Nat, ¬ (j9 = 0 ∧ k9 = 35 ∨ j9 = 0 ∧ k9 = 10 ∨ j9 = 0 ∧ k9 = 16 ∨ j9 = 11) → M21 j9 k9 = M j9 k9) ∧ (0 ≤ x20 ∧ x20 ≤ 1000000) ∧ (M21 0 10 = 0) ∧ (M21 0 16 = 0) ∧ True) (fun x20 M21 => (1000000 - x20).toNat) ⟨hB16, hF17, (by omega), (by omega), (by omega), trivial⟩ (fun K x20 M21 h27 k28 => ?_)
  obtain ⟨hB22, hF23, i24, i25, i26, -⟩ := h27
  have s29 : sI x20 = x20 := sIo (by omega) (by omega)
  refine ⟨fun c30 => ?_, fun c30 => ?_⟩
  · skip
    have s31 : sI (M1 0 10) = (M1 0 10) := sIo (by omega) (by omega)
    exact hQ _ _ ⟨hB22, hF23, (by omega), (by omega), (by omega), (by omega), trivial⟩
  · skip
    have o32 : 0 ≤ (sI x20) ∧ (sI x20) < 2 := by omega
    refine ⟨o32, ?_⟩
    intro M33 e34
    have hB35 : BI M33 := by rw [e34]; exact BI.up hB22 (rfl : zcd wR 11 = 61) rfl (by omega) (by omega) (by decide)
    have hF36 : ∀ j9 k9 : Nat, ¬ (j9 = 0 ∧ k9 = 35 ∨ j9 = 0 ∧ k9 = 10 ∨ j9 = 0 ∧ k9 = 16 ∨ j9 = 11) → M33 j9 k9 = M j9 k9 := fun j9 k9 h9 => by rw [e34]; exact (zup_n _ _ (by omega)).trans (hF23 j9 k9 h9)
    have r37 : M33 0 10 = M21 0 10 := by rw [e34]; exact zup_n _ _ (by omega)
    have r38 : M33 0 16 = M21 0 16 := by rw [e34]; exact zup_n _ _ (by omega)
    exact k28 _ _ ⟨hB35, hF36, (by omega), (by omega), (by omega), trivial⟩ (by omega)
set_option maxHeartbeats 4000000 in
set_option maxRecDepth 100000 in
theorem sR_count {M : zM} {a0 : Int} (hB : BI M) (v0 : (-2147483648) ≤ a0 ∧ a0 ≤ 2147483647) {Q : Int → zM → Prop} (hQ : ∀ (z : Int) (M1 : zM), BI M1 ∧ (∀ j9 k9 : Nat, ¬ (j9 = 0 ∧ k9 = 35) → M1 j9 k9 = M j9 k9) ∧ ((-2147483648) ≤ z ∧ z ≤ 2147483647) ∧ True → Q z M1) : wR_count a0 M Q := by
  unfold wR_count
  have hF0 : ∀ j9 k9 : Nat, ¬ (j9 = 0 ∧ k9 = 35) → M j9 k9 = M j9 k9 := fun j9 k9 _ => rfl
  intro M1 e2
  have hB3 : BI M1 := by rw [e2]; exact BI.up0 hB rfl (by omega) (by omega) (by decide)
  have hF4 : ∀ j9 k9 : Nat, ¬ (j9 = 0 ∧ k9 = 35) → M1 j9 k9 = M j9 k9 := fun j9 k9 h9 => by rw [e2]; exact (zup_n _ _ (by omega)).trans (hF0 j9 k9 h9)
  have s5 : sI a0 = a0 := sIo (by omega) (by omega)
  refine ⟨fun c6 => ?_, fun c6 => ?_⟩
  · skip
    have q7 : 0 ≤ (M1 0 10) ∧ (M1 0 10) ≤ 4 := BN.at hB3.1 (rfl : zcd wR 0 = 50) rfl
    have s8 : sI (M1 0 10) = (M1 0 10) := sIo (by omega) (by omega)
    exact hQ _ _ ⟨hB3, hF4, (by omega), trivial⟩
  refine ⟨fun c9 => ?_, fun c9 => ?_⟩
  · skip
    have q10 : 0 ≤ (M1 0 16) ∧ (M1 0 16) ≤ 6 := BN.at hB3.1 (rfl : zcd wR 0 = 50) rfl
    have s11 : sI (M1 0 16) = (M1 0 16) := sIo (by omega) (by omega)
    exact hQ _ _ ⟨hB3, hF4, (by omega), trivial⟩
  refine ⟨fun c12 => ?_, fun c12 => ?_⟩
  · skip
    have q13 : 0 ≤ (M1 0 24) ∧ (M1 0 24) ≤ 60 := BN.at hB3.1 (rfl : zcd wR 0 = 50) rfl
    have s14 : sI (M1 0 24) = (M1 0 24) := sIo (by omega) (by omega)
    exact hQ _ _ ⟨hB3, hF4, (by omega), trivial⟩
  refine ⟨fun c15 => ?_, fun c15 => ?_⟩
  · skip
    have q16 : 0 ≤ (M1 0 27) ∧ (M1 0 27) ≤ 5 := BN.at hB3.1 (rfl : zcd wR 0 = 50) rfl
    have s17 : sI (M1 0 27) = (M1 0 27) := sIo (by omega) (by omega)
    exact hQ _ _ ⟨hB3, hF4, (by omega), trivial⟩
  refine ⟨fun c18 => ?_, fun c18 => ?_⟩
  · skip
    have q19 : 0 ≤ (M1 0 32) ∧ (M1 0 32) ≤ 16 := BN.at hB3.1 (rfl : zcd wR 0 = 50) rfl
    have s20 : sI (M1 0 32) = (M1 0 32) := sIo (by omega) (by omega)
    exact hQ _ _ ⟨hB3, hF4, (by omega), trivial⟩
  refine ⟨fun c21 => ?_, fun c21 => ?_⟩
  · skip
    have q22 : (-1) ≤ (M1 0 34) ∧ (M1 0 34) ≤ 64 := BN.at hB3.1 (rfl : zcd wR 0 = 50) rfl
    have s23 : sI (M1 0 34) = (M1 0 34) := sIo (by omega) (by omega)
    exact hQ _ _ ⟨hB3, hF4, (by omega), trivial⟩
  refine ⟨fun c24 => ?_, fun c24 => ?_⟩
  · skip
    have q25 : 0 ≤ (M1 0 1) ∧ (M1 0 1) ≤ 100 := BN.at hB3.1 (rfl : zcd wR 0 = 50) rfl
    have s26 : sI (M1 0 1) = (M1 0 1) := sIo (by omega) (by omega)
    exact hQ _ _ ⟨hB3, hF4, (by omega), trivial⟩
  refine ⟨fun c27 => ?_, fun c27 => ?_⟩
  · skip
    have q28 : 0 ≤ (M1 0 3) ∧ (M1 0 3) ≤ 24 := BN.at hB3.1 (rfl : zcd wR 0 = 50) rfl
    have s29 : sI (M1 0 3) = (M1 0 3) := sIo (by omega) (by omega)
    exact hQ _ _ ⟨hB3, hF4, (by omega), trivial⟩
  exact hQ _ _ ⟨hB3, hF4, (by omega), trivial⟩
theorem sR_common : ∀ (n : Nat) {M : zM} {a0 a1 : Int} (hB : BI M) (v0 : 0 ≤ a0 ∧ a0 ≤ 2147483647) (v1 : 0 ≤ a1 ∧ a1 < n) {Q : Int → Prop} (hQ : ∀ z, ((0 ≤ z ∧ z ≤ 2147483647) ∧ z = (Nat.gcd a0.toNat a1.toNat : Int) ∧ True) → Q z), n ≤ 2147483647 → wR_common n a0 a1 M Q := by
  intro n
  induction n with
  | zero => intro M a0 a1 hB v0 v1; omega
  | succ n ih =>
    intro M a0 a1 hB v0 v1 Q hQ hn
    show wR_common_F (wR_common n) a0 a1 M Q
    unfold wR_common_F
    have s0 : sI a0 = a0 := sIo (by omega) (by omega)
    have s1 : sI a1 = a1 := sIo (by omega) (by omega)
    rw [s0, s1]
    refine ⟨fun c => ⟨c, ?_⟩, fun c => ?_⟩
    · have t := tmodN a0 a1 v0.1 (by omega)
      refine ih hB (by omega) (by omega) (fun z hp => hQ z ⟨hp.1, ?_, trivial⟩) (by omega)
      rw [hp.2.1, Int.tmod_eq_emod_of_nonneg v0.1]
      have e : (a0 % a1).toNat = a0.toNat % a1.toNat := by
        rw [Int.toNat_emod v0.1 v1.1]
      rw [e, Nat.gcd_comm, ← Nat.gcd_rec, Nat.gcd_comm]
    · refine hQ _ ⟨by omega, ?_, trivial⟩
      rw [c, show (0 : Int).toNat = 0 from rfl, Nat.gcd_zero_right]
      omega
set_option maxHeartbeats 4000000 in
set_option maxRecDepth 100000 in
theorem sR_steady {M : zM} {a0 : Int} (hB : BI M) (v0 : 0 ≤ a0 ∧ a0 ≤ 1) {Q : Int → Prop} (hQ : ∀ (z : Int), (0 ≤ z ∧ z ≤ 5000) ∧ True → Q z) : wR_steady a0 M Q := by
  unfold wR_steady
  have s1 : sI a0 = a0 := sIo (by omega) (by omega)
  have o2 : 0 ≤ (sI a0) ∧ (sI a0) < 2 := by omega
  refine ⟨o2, ?_⟩
  have q3 : 0 ≤ (M 11 (sI a0).toNat) ∧ (M 11 (sI a0).toNat) ≤ 12 := BN.at hB.1 (rfl : zcd wR 11 = 61) rfl
  have s4 : sI (M 11 (sI a0).toNat) = (M 11 (sI a0).toNat) := sIo (by omega) (by omega)
  refine ⟨fun c5 => ?_, fun c5 => ?_⟩
  · skip
    have o6 : 0 ≤ (sI a0) ∧ (sI a0) < 2 := by omega
    refine ⟨o6, ?_⟩
    have s8 : sI (((12 * a0) + (M 11 (sI a0).toNat)) - 1) = (((12 * a0) + (M 11 (sI a0).toNat)) - 1) := sIo (by omega) (by omega)
    have o9 : 0 ≤ (sI (((12 * a0) + (M 11 (sI a0).toNat)) - 1)) ∧ (sI (((12 * a0) + (M 11 (sI a0).toNat)) - 1)) < 24 := by omega
    refine ⟨o9, ?_⟩
    have q10 : 0 ≤ (M 9 (sI (((12 * a0) + (M 11 (sI a0).toNat)) - 1)).toNat) ∧ (M 9 (sI (((12 * a0) + (M 11 (sI a0).toNat)) - 1)).toNat) ≤ 5000 := BN.at hB.1 (rfl : zcd wR 9 = 59) rfl
    have s11 : sI (M 9 (sI (((12 * a0) + (M 11 (sI a0).toNat)) - 1)).toNat) = (M 9 (sI (((12 * a0) + (M 11 (sI a0).toNat)) - 1)).toNat) := sIo (by omega) (by omega)
    exact hQ _ ⟨(by omega), trivial⟩
  · skip
    exact hQ _ ⟨(by omega), trivial⟩
set_option maxHeartbeats 4000000 in
set_option maxRecDepth 100000 in
theorem sR_lastSpeed {M : zM} {a0 : Int} (hB : BI M) (v0 : 0 ≤ a0 ∧ a0 ≤ 1) {Q : Int → Prop} (hQ : ∀ (z : Int), ((-9) ≤ z ∧ z ≤ 9) ∧ True → Q z) : wR_lastSpeed a0 M Q := by
  unfold wR_lastSpeed
  have s1 : sI a0 = a0 := sIo (by omega) (by omega)
  have o2 : 0 ≤ (sI a0) ∧ (sI a0) < 2 := by omega
  refine ⟨o2, ?_⟩
  have q3 : 0 ≤ (M 11 (sI a0).toNat) ∧ (M 11 (sI a0).toNat) ≤ 12 := BN.at hB.1 (rfl : zcd wR 11 = 61) rfl
  have s4 : sI (M 11 (sI a0).toNat) = (M 11 (sI a0).toNat) := sIo (by omega) (by omega)
  refine ⟨fun c5 => ?_, fun c5 => ?_⟩
  · skip
    have o6 : 0 ≤ (sI a0) ∧ (sI a0) < 2 := by omega
    refine ⟨o6, ?_⟩
    have s8 : sI (((12 * a0) + (M 11 (sI a0).toNat)) - 1) = (((12 * a0) + (M 11 (sI a0).toNat)) - 1) := sIo (by omega) (by omega)
    have o9 : 0 ≤ (sI (((12 * a0) + (M 11 (sI a0).toNat)) - 1)) ∧ (sI (((12 * a0) + (M 11 (sI a0).toNat)) - 1)) < 24 := by omega
    refine ⟨o9, ?_⟩
    have q10 : (-9) ≤ (M 10 (sI (((12 * a0) + (M 11 (sI a0).toNat)) - 1)).toNat) ∧ (M 10 (sI (((12 * a0) + (M 11 (sI a0).toNat)) - 1)).toNat) ≤ 9 := BN.at hB.1 (rfl : zcd wR 10 = 60) rfl
    have s11 : sI (M 10 (sI (((12 * a0) + (M 11 (sI a0).toNat)) - 1)).toNat) = (M 10 (sI (((12 * a0) + (M 11 (sI a0).toNat)) - 1)).toNat) := sIo (by omega) (by omega)
    exact hQ _ ⟨(by omega), trivial⟩
  · skip
    exact hQ _ ⟨(by omega), trivial⟩
theorem gcd_b (x y : Int) (hx : 1 ≤ x) : 1 ≤ (Nat.gcd x.toNat y.toNat : Int) ∧ (Nat.gcd x.toNat y.toNat : Int) ≤ x := by
  have h1 : 0 < Nat.gcd x.toNat y.toNat := Nat.gcd_pos_of_pos_left _ (by omega)
  have h2 : Nat.gcd x.toNat y.toNat ≤ x.toNat := Nat.gcd_le_left _ (by omega)
  omega
theorem tdiv1 (x y : Int) (h1 : 1 ≤ y) (h2 : y ≤ x) : 1 ≤ x.tdiv y ∧ x.tdiv y ≤ x := by
  have h := tdivB x y (by omega) h1
  refine ⟨?_, h.2⟩
  rw [Int.tdiv_eq_ediv_of_nonneg (by omega)]
  exact (Int.le_ediv_iff_mul_le (by omega)).mpr (by omega)
theorem sR_round {M : zM} {a0 : Int} (hB : BI M) (v0 : 0 ≤ a0 ∧ a0 ≤ 3) (p0 : a0 < M 0 10) {Q : Int → Prop} (hQ : ∀ z, ((1 ≤ z ∧ z ≤ 24) ∧ True) → Q z) : wR_round a0 M Q := by
  unfold wR_round
  have s0 : sI a0 = a0 := sIo (by omega) (by omega)
  rw [s0]
  refine ⟨by omega, by omega, by omega, ?_⟩
  have b5 : 0 ≤ M 5 a0.toNat ∧ M 5 a0.toNat ≤ 1 := BN.at hB.1 (rfl : zcd wR 5 = 55) rfl
  have b4 : 0 ≤ M 4 a0.toNat ∧ M 4 a0.toNat ≤ 24 := BN.at hB.1 (rfl : zcd wR 4 = 54) rfl
  have c4 : 1 ≤ M 4 a0.toNat := hB.2 _ (by omega) (by omega)
  have s4 : sI (M 4 a0.toNat) = M 4 a0.toNat := sIo (by omega) (by omega)
  refine sR_lastSpeed hB (by omega) (fun z5 hp => ?_)
  have ab := absI_b z5
  refine sR_common 48 hB (by omega) (by omega) (fun z9 hp9 => ?_) (by omega)
  have g := gcd_b (M 4 a0.toNat) (absI z5) c4
  have e := hp9.2.1
  rw [s4]
  have t := tdiv1 (M 4 a0.toNat) z9 (by omega) (by omega)
  refine ⟨by omega, ?_⟩
  rw [sIo (by omega) (by omega)]
  exact hQ _ ⟨by omega, trivial⟩
set_option maxHeartbeats 4000000 in
set_option maxRecDepth 100000 in
theorem sR_of {M : zM} {a0 : Int} {a1 : Int} (hB : BI M) (v0 : (-2147483648) ≤ a0 ∧ a0 ≤ 2147483647) (v1 : (-2147483648) ≤ a1 ∧ a1 ≤ 2147483647) {Q : Int → zM → Prop} (hQ : ∀ (z : Int) (M1 : zM), BI M1 ∧ (∀ j9 k9 : Nat, ¬ (j9 = 0 ∧ k9 = 35) → M1 j9 k9 = M j9 k9) ∧ ((-2147483648) ≤ z ∧ z ≤ 2147483647) ∧ True → Q z M1) : wR_of a0 a1 M Q := by
  unfold wR_of
  have hF0 : ∀ j9 k9 : Nat, ¬ (j9 = 0 ∧ k9 = 35) → M j9 k9 = M j9 k9 := fun j9 k9 _ => rfl
  intro M1 e2
  have hB3 : BI M1 := by rw [e2]; exact BI.up0 hB rfl (by omega) (by omega) (by decide)
  have hF4 : ∀ j9 k9 : Nat, ¬ (j9 = 0 ∧ k9 = 35) → M1 j9 k9 = M j9 k9 := fun j9 k9 h9 => by rw [e2]; exact (zup_n _ _ (by omega)).trans (hF0 j9 k9 h9)
  refine sR_isRing hB3 (by omega) (fun z5  h6 => ?_)
  obtain ⟨p7, p8, -⟩ := h6
  refine ⟨fun c9 => ?_, fun c9 => ?_⟩
  · skip
    intro M10 e11
    have hB12 : BI M10 := by rw [e11]; exact BI.up0 hB3 rfl (by omega) (by omega) (by decide)
    have hF13 : ∀ j9 k9 : Nat, ¬ (j9 = 0 ∧ k9 = 35) → M10 j9 k9 = M j9 k9 := fun j9 k9 h9 => by rw [e11]; exact (zup_n _ _ (by omega)).trans (hF4 j9 k9 h9)
    exact hQ _ _ ⟨hB12, hF13, (by omega), trivial⟩
  · skip
    refine sR_in hB3 (by omega) (by omega) (by omega) (fun z14  h15 => ?_)
    obtain ⟨p16, p17, -⟩ := h15
    refine ⟨fun c18 => ?_, fun c18 => ?_⟩
    · skip
      have s19 : sI a1 = a1 := sIo (by omega) (by omega)
      refine ⟨fun c20 => ?_, fun c20 => ?_⟩
      · skip
        have s21 : sI a0 = a0 := sIo (by omega) (by omega)
        have o22 : 0 ≤ (sI a0) ∧ (sI a0) < 4 := by omega
        refine ⟨o22, ?_⟩
        have q23 : 0 ≤ (M1 4 (sI a0).toNat) ∧ (M1 4 (sI a0).toNat) ≤ 24 := BN.at hB3.1 (rfl : zcd wR 4 = 54) rfl
        have q24 : (((sI a0).toNat : Nat) : Int) < M1 0 10 → 1 ≤ (M1 4 (sI a0).toNat) := hB3.2 _ (by omega)
        have q25 : 0 ≤ M1 0 10 ∧ M1 0 10 ≤ 4 := BN.at hB3.1 (rfl : zcd wR 0 = 50) rfl
        have s26 : sI (M1 4 (sI a0).toNat) = (M1 4 (sI a0).toNat) := sIo (by omega) (by omega)
        exact hQ _ _ ⟨hB3, hF4, (by omega), trivial⟩
      refine ⟨fun c27 => ?_, fun c27 => ?_⟩
      · skip
        have s28 : sI a0 = a0 := sIo (by omega) (by omega)
        have o29 : 0 ≤ (sI a0) ∧ (sI a0) < 4 := by omega
        refine ⟨o29, ?_⟩
        have q30 : 0 ≤ (M1 5 (sI a0).toNat) ∧ (M1 5 (sI a0).toNat) ≤ 1 := BN.at hB3.1 (rfl : zcd wR 5 = 55) rfl
        have s31 : sI (M1 5 (sI a0).toNat) = (M1 5 (sI a0).toNat) := sIo (by omega) (by omega)
        exact hQ _ _ ⟨hB3, hF4, (by omega), trivial⟩
      refine ⟨fun c32 => ?_, fun c32 => ?_⟩
      · skip
        have s33 : sI a0 = a0 := sIo (by omega) (by omega)
        have o34 : 0 ≤ (sI a0) ∧ (sI a0) < 4 := by omega
        refine ⟨o34, ?_⟩
        have q35 : 0 ≤ (M1 6 (sI a0).toNat) ∧ (M1 6 (sI a0).toNat) ≤ 23 := BN.at hB3.1 (rfl : zcd wR 6 = 56) rfl
        have s36 : sI (M1 6 (sI a0).toNat) = (M1 6 (sI a0).toNat) := sIo (by omega) (by omega)
        exact hQ _ _ ⟨hB3, hF4, (by omega), trivial⟩
      refine ⟨fun c37 => ?_, fun c37 => ?_⟩
      · skip
        have s38 : sI a0 = a0 := sIo (by omega) (by omega)
        have o39 : 0 ≤ (sI a0) ∧ (sI a0) < 4 := by omega
        refine ⟨o39, ?_⟩
        have q40 : (-2147483648) ≤ (M1 7 (sI a0).toNat) ∧ (M1 7 (sI a0).toNat) ≤ 2147483647 := BN.at hB3.1 (rfl : zcd wR 7 = 57) rfl
        have s41 : sI (M1 7 (sI a0).toNat) = (M1 7 (sI a0).toNat) := sIo (by omega) (by omega)
        exact hQ _ _ ⟨hB3, hF4, (by omega), trivial⟩
      refine ⟨fun c42 => ?_, fun c42 => ?_⟩
      · skip
        refine sR_round hB3 (by omega) (by omega) (fun z43  h44 => ?_)
        obtain ⟨p45, -⟩ := h44
        exact hQ _ _ ⟨hB3, hF4, (by omega), trivial⟩
      have s46 : sI a0 = a0 := sIo (by omega) (by omega)
      have o47 : 0 ≤ (sI a0) ∧ (sI a0) < 4 := by omega
      refine ⟨o47, ?_⟩
      have q48 : (-2147483648) ≤ (M1 8 (sI a0).toNat) ∧ (M1 8 (sI a0).toNat) ≤ 2147483647 := BN.at hB3.1 (rfl : zcd wR 8 = 58) rfl
      have s49 : sI (M1 8 (sI a0).toNat) = (M1 8 (sI a0).toNat) := sIo (by omega) (by omega)
      exact hQ _ _ ⟨hB3, hF4, (by omega), trivial⟩
    · skip
      intro M50 e51
      have hB52 : BI M50 := by rw [e51]; exact BI.up0 hB3 rfl (by omega) (by omega) (by decide)
      have hF53 : ∀ j9 k9 : Nat, ¬ (j9 = 0 ∧ k9 = 35) → M50 j9 k9 = M j9 k9 := fun j9 k9 h9 => by rw [e51]; exact (zup_n _ _ (by omega)).trans (hF4 j9 k9 h9)
      exact hQ _ _ ⟨hB52, hF53, (by omega), trivial⟩
set_option maxHeartbeats 4000000 in
set_option maxRecDepth 100000 in
theorem sR_inch {M : zM} {a0 : Int} {a1 : Int} (hB : BI M) (v0 : (-2147483648) ≤ a0 ∧ a0 ≤ 2147483647) (v1 : (-2147483648) ≤ a1 ∧ a1 ≤ 2147483647) {Q : Int → zM → Prop} (hQ : ∀ (z : Int) (M1 : zM), BI M1 ∧ (∀ j9 k9 : Nat, ¬ (j9 = 0 ∧ k9 = 35) → M1 j9 k9 = M j9 k9) ∧ ((-2147483648) ≤ z ∧ z ≤ 2147483647) ∧ True → Q z M1) : wR_inch a0 a1 M Q := by
  unfold wR_inch
  have hF0 : ∀ j9 k9 : Nat, ¬ (j9 = 0 ∧ k9 = 35) → M j9 k9 = M j9 k9 := fun j9 k9 _ => rfl
  intro M1 e2
  have hB3 : BI M1 := by rw [e2]; exact BI.up0 hB rfl (by omega) (by omega) (by decide)
  have hF4 : ∀ j9 k9 : Nat, ¬ (j9 = 0 ∧ k9 = 35) → M1 j9 k9 = M j9 k9 := fun j9 k9 h9 => by rw [e2]; exact (zup_n _ _ (by omega)).trans (hF0 j9 k9 h9)
  refine sR_isRing hB3 (by omega) (fun z5  h6 => ?_)
  obtain ⟨p7, p8, -⟩ := h6
  refine ⟨fun c9 => ?_, fun c9 => ?_⟩
  · skip
    exact hQ _ _ ⟨hB3, hF4, (by omega), trivial⟩
  · skip
    have s10 : sI a0 = a0 := sIo (by omega) (by omega)
    have o11 : 0 ≤ (sI a0) ∧ (sI a0) < 4 := by omega
    refine ⟨o11, ?_⟩
    have q12 : 0 ≤ (M1 4 (sI a0).toNat) ∧ (M1 4 (sI a0).toNat) ≤ 24 := BN.at hB3.1 (rfl : zcd wR 4 = 54) rfl
    have q13 : (((sI a0).toNat : Nat) : Int) < M1 0 10 → 1 ≤ (M1 4 (sI a0).toNat) := hB3.2 _ (by omega)
    have q14 : 0 ≤ M1 0 10 ∧ M1 0 10 ≤ 4 := BN.at hB3.1 (rfl : zcd wR 0 = 50) rfl
    refine sR_in hB3 (by omega) (by omega) (by omega) (fun z15  h16 => ?_)
    obtain ⟨p17, p18, -⟩ := h16
    refine ⟨fun c19 => ?_, fun c19 => ?_⟩
    · skip
      exact hQ _ _ ⟨hB3, hF4, (by omega), trivial⟩
    · skip
      have s20 := sI_R ((24 * a0) + a1)
      have s21 := sI_or ((24 * a0) + a1)
      have o22 : 0 ≤ (sI ((24 * a0) + a1)) ∧ (sI ((24 * a0) + a1)) < 96 := by omega
      refine ⟨o22, ?_⟩
      have q23 : (-2147483648) ≤ (M1 3 (sI ((24 * a0) + a1)).toNat) ∧ (M1 3 (sI ((24 * a0) + a1)).toNat) ≤ 2147483647 := BN.at hB3.1 (rfl : zcd wR 3 = 53) rfl
      have s24 : sI (M1 3 (sI ((24 * a0) + a1)).toNat) = (M1 3 (sI ((24 * a0) + a1)).toNat) := sIo (by omega) (by omega)
      exact hQ _ _ ⟨hB3, hF4, (by omega), trivial⟩
set_option maxHeartbeats 4000000 in
set_option maxRecDepth 100000 in
theorem sR_wayEarly {M : zM} {a0 : Int} {a1 : Int} (hB : BI M) (v0 : 0 ≤ a0 ∧ a0 ≤ 1) {Q : Int → Prop} (hQ : ∀ (z : Int), ((-9223372036854775808) ≤ z ∧ z ≤ 9223372036854775807) ∧ True → Q z) : wR_wayEarly a0 a1 M Q := by
  unfold wR_wayEarly
  refine pL4_of (fun x1 x2 x3 x4 => (0 ≤ x4 ∧ x4 ≤ 1000000) ∧ True) (fun x1 x2 x3 x4 => (1000000 - x4).toNat) ⟨(by omega), trivial⟩ (fun K x1 x2 x3 x4 h6 k7 => ?_)
  obtain ⟨i5, -⟩ := h6
  have s8 : sI a0 = a0 := sIo (by omega) (by omega)
  have o9 : 0 ≤ (sI a0) ∧ (sI a0) < 2 := by omega
  refine ⟨o9, ?_⟩
  have q10 : 0 ≤ (M 11 (sI a0).toNat) ∧ (M 11 (sI a0).toNat) ≤ 12 := BN.at hB.1 (rfl : zcd wR 11 = 61) rfl
  have s11 : sI x4 = x4 := sIo (by omega) (by omega)
  have s12 : sI (M 11 (sI a0).toNat) = (M 11 (sI a0).toNat) := sIo (by omega) (by omega)
  refine pJ0_dup ?_
  refine ⟨fun c13 => ?_, fun c13 => ?_⟩
  · skip
    have s14 := sI_R x3
    have s15 := sI_or x3
    have s16 := sL_R (x1 + ((sI x3) * (a1 - x2)))
    have s17 := sL_or (x1 + ((sI x3) * (a1 - x2)))
    exact hQ _ ⟨(by omega), trivial⟩
  · skip
    have s18 : sI ((12 * a0) + x4) = ((12 * a0) + x4) := sIo (by omega) (by omega)
    have o19 : 0 ≤ (sI ((12 * a0) + x4)) ∧ (sI ((12 * a0) + x4)) < 24 := by omega
    refine ⟨o19, ?_⟩
    have q20 : 0 ≤ (M 9 (sI ((12 * a0) + x4)).toNat) ∧ (M 9 (sI ((12 * a0) + x4)).toNat) ≤ 5000 := BN.at hB.1 (rfl : zcd wR 9 = 59) rfl
    have s21 : sI (M 9 (sI ((12 * a0) + x4)).toNat) = (M 9 (sI ((12 * a0) + x4)).toNat) := sIo (by omega) (by omega)
    have s22 := sL_R a1
    have s23 := sL_or a1
    refine ⟨fun c24 => ?_, fun c24 => ?_⟩
    · skip
      have s25 := sI_R x3
      have s26 := sI_or x3
      have s27 := sL_R (x1 + ((sI x3) * (a1 - x2)))
      have s28 := sL_or (x1 + ((sI x3) * (a1 - x2)))
      exact hQ _ ⟨(by omega), trivial⟩
    · skip
      have s29 := sI_R x3
      have s30 := sI_or x3
      have o31 : 0 ≤ (sI ((12 * a0) + x4)) ∧ (sI ((12 * a0) + x4)) < 24 := by omega
      refine ⟨o31, ?_⟩
      intro t33 e34
      have o35 : 0 ≤ (sI ((12 * a0) + x4)) ∧ (sI ((12 * a0) + x4)) < 24 := by omega
      refine ⟨o35, ?_⟩
      have o37 : 0 ≤ (sI ((12 * a0) + x4)) ∧ (sI ((12 * a0) + x4)) < 24 := by omega
      refine ⟨o37, ?_⟩
      have q38 : (-9) ≤ (M 10 (sI ((12 * a0) + x4)).toNat) ∧ (M 10 (sI ((12 * a0) + x4)).toNat) ≤ 9 := BN.at hB.1 (rfl : zcd wR 10 = 60) rfl
      exact k7 _ _ _ _ ⟨(by omega), trivial⟩ (by omega)
set_option maxHeartbeats 4000000 in
set_option maxRecDepth 100000 in
theorem sR_way {M : zM} {a0 : Int} {a1 : Int} (hB : BI M) (v0 : (-2147483648) ≤ a0 ∧ a0 ≤ 2147483647) (v1 : (-2147483648) ≤ a1 ∧ a1 ≤ 2147483647) {Q : Int → zM → Prop} (hQ : ∀ (z : Int) (M1 : zM), BI M1 ∧ (∀ j9 k9 : Nat, ¬ (j9 = 0 ∧ k9 = 35) → M1 j9 k9 = M j9 k9) ∧ ((-9223372036854775808) ≤ z ∧ z ≤ 9223372036854775807) ∧ True → Q z M1) : wR_way a0 a1 M Q := by
  unfold wR_way
  have hF0 : ∀ j9 k9 : Nat, ¬ (j9 = 0 ∧ k9 = 35) → M j9 k9 = M j9 k9 := fun j9 k9 _ => rfl
  intro M1 e2
  have hB3 : BI M1 := by rw [e2]; exact BI.up0 hB rfl (by omega) (by omega) (by decide)
  have hF4 : ∀ j9 k9 : Nat, ¬ (j9 = 0 ∧ k9 = 35) → M1 j9 k9 = M j9 k9 := fun j9 k9 h9 => by rw [e2]; exact (zup_n _ _ (by omega)).trans (hF0 j9 k9 h9)
  refine sR_isMotor hB3 (by omega) (fun z5  h6 => ?_)
  obtain ⟨p7, p8, -⟩ := h6
  refine ⟨fun c9 => ?_, fun c9 => ?_⟩
  · skip
    intro M10 e11
    have hB12 : BI M10 := by rw [e11]; exact BI.up0 hB3 rfl (by omega) (by omega) (by decide)
    have hF13 : ∀ j9 k9 : Nat, ¬ (j9 = 0 ∧ k9 = 35) → M10 j9 k9 = M j9 k9 := fun j9 k9 h9 => by rw [e11]; exact (zup_n _ _ (by omega)).trans (hF4 j9 k9 h9)
    exact hQ _ _ ⟨hB12, hF13, (by omega), trivial⟩
  · skip
    refine sR_in hB3 (by omega) (by omega) (by omega) (fun z14  h15 => ?_)
    obtain ⟨p16, p17, -⟩ := h15
    refine ⟨fun c18 => ?_, fun c18 => ?_⟩
    · skip
      have s19 : sI a1 = a1 := sIo (by omega) (by omega)
      refine sR_wayEarly hB3 (by omega) (fun z20  h21 => ?_)
      obtain ⟨p22, -⟩ := h21
      exact hQ _ _ ⟨hB3, hF4, (by omega), trivial⟩
    · skip
      intro M23 e24
      have hB25 : BI M23 := by rw [e24]; exact BI.up0 hB3 rfl (by omega) (by omega) (by decide)
      have hF26 : ∀ j9 k9 : Nat, ¬ (j9 = 0 ∧ k9 = 35) → M23 j9 k9 = M j9 k9 := fun j9 k9 h9 => by rw [e24]; exact (zup_n _ _ (by omega)).trans (hF4 j9 k9 h9)
      exact hQ _ _ ⟨hB25, hF26, (by omega), trivial⟩
set_option maxHeartbeats 4000000 in
set_option maxRecDepth 100000 in
theorem sR_wayBy {M : zM} {a0 : Int} {a1 : Int} {a2 : Int} (hB : BI M) (v0 : 0 ≤ a0 ∧ a0 ≤ 1) (v2 : 1 ≤ a2 ∧ a2 ≤ 24) {Q : Int → Prop} (hQ : ∀ (z : Int), (0 ≤ z ∧ z ≤ 23) ∧ (z < a2) ∧ True → Q z) : wR_wayBy a0 a1 a2 M Q := by
  unfold wR_wayBy
  refine sR_steady hB (by omega) (fun z1  h2 => ?_)
  obtain ⟨p3, -⟩ := h2
  have s4 := sL_R a1
  have s5 := sL_or a1
  refine ⟨fun c6 => ?_, fun c6 => ?_⟩
  · skip
    have s7 : sI a2 = a2 := sIo (by omega) (by omega)
    have s8 := sL_R (a1 - z1)
    have s9 := sL_or (a1 - z1)
    have o10 : (sI a2) ≠ 0 := by omega
    refine ⟨o10, ?_⟩
    refine sR_lastSpeed hB (by omega) (fun z11  h12 => ?_)
    obtain ⟨p13, -⟩ := h12
    refine sR_wayEarly hB (by omega) (fun z14  h15 => ?_)
    obtain ⟨p16, -⟩ := h15
    have s17 := sL_R (z14 + (((sL (a1 - z1)).tmod (sI a2)) * z11))
    have s18 := sL_or (z14 + (((sL (a1 - z1)).tmod (sI a2)) * z11))
    have o19 : 0 < (sI a2) := by omega
    refine ⟨o19, ?_⟩
    have q20 := emB (sL (z14 + (((sL (a1 - z1)).tmod (sI a2)) * z11))) (sI a2) (by omega)
    have s21 : sI ((sL (z14 + (((sL (a1 - z1)).tmod (sI a2)) * z11))) % (sI a2)) = ((sL (z14 + (((sL (a1 - z1)).tmod (sI a2)) * z11))) % (sI a2)) := sIo (by omega) (by omega)
    exact hQ _ ⟨(by omega), (by omega), trivial⟩
  · skip
    refine sR_wayEarly hB (by omega) (fun z22  h23 => ?_)
    obtain ⟨p24, -⟩ := h23
    have s25 : sI a2 = a2 := sIo (by omega) (by omega)
    have o26 : 0 < (sI a2) := by omega
    refine ⟨o26, ?_⟩
    have q27 := emB z22 (sI a2) (by omega)
    have s28 : sI (z22 % (sI a2)) = (z22 % (sI a2)) := sIo (by omega) (by omega)
    exact hQ _ ⟨(by omega), (by omega), trivial⟩
set_option maxHeartbeats 4000000 in
set_option maxRecDepth 100000 in
theorem sR_heardAt {M : zM} {a0 : Int} {a1 : Int} (hB : BI M) (v0 : 0 ≤ a0 ∧ a0 ≤ 3) (v1 : 0 ≤ a1 ∧ a1 ≤ 23) (p0 : a0 < M 0 10) {Q : Int → Prop} (hQ : ∀ (z : Int), ((-2147483648) ≤ z ∧ z ≤ 2147483647) ∧ True → Q z) : wR_heardAt a0 a1 M Q := by
  unfold wR_heardAt
  refine pL2_of (fun x1 x2 => (0 ≤ x2 ∧ x2 ≤ 1000000) ∧ True) (fun x1 x2 => (1000000 - x2).toNat) ⟨(by omega), trivial⟩ (fun K x1 x2 h4 k5 => ?_)
  obtain ⟨i3, -⟩ := h4
  have s6 : sI x2 = x2 := sIo (by omega) (by omega)
  refine ⟨fun c7 => ?_, fun c7 => ?_⟩
  · skip
    have s8 := sI_R x1
    have s9 := sI_or x1
    exact hQ _ ⟨(by omega), trivial⟩
  · skip
    have s10 : sI a0 = a0 := sIo (by omega) (by omega)
    have o11 : 0 ≤ (sI a0) ∧ (sI a0) < 4 := by omega
    refine ⟨o11, ?_⟩
    have q12 : (-2147483648) ≤ (M 7 (sI a0).toNat) ∧ (M 7 (sI a0).toNat) ≤ 2147483647 := BN.at hB.1 (rfl : zcd wR 7 = 57) rfl
    have q13 := shrI_R (M 7 (sI a0).toNat) x2
    have q14 := andI_br (shrI (M 7 (sI a0).toNat) x2) (c := 1) (by decide) (by decide)
    refine ⟨fun c15 => ?_, fun c15 => ?_⟩
    · skip
      exact k5 _ _ ⟨(by omega), trivial⟩ (by omega)
    · skip
      have o16 : 0 ≤ (sI a0) ∧ (sI a0) < 4 := by omega
      refine ⟨o16, ?_⟩
      have q17 : 0 ≤ (M 4 (sI a0).toNat) ∧ (M 4 (sI a0).toNat) ≤ 24 := BN.at hB.1 (rfl : zcd wR 4 = 54) rfl
      have q18 : (((sI a0).toNat : Nat) : Int) < M 0 10 → 1 ≤ (M 4 (sI a0).toNat) := hB.2 _ (by omega)
      have q19 : 0 ≤ M 0 10 ∧ M 0 10 ≤ 4 := BN.at hB.1 (rfl : zcd wR 0 = 50) rfl
      have s20 : sI (a1 + x2) = (a1 + x2) := sIo (by omega) (by omega)
      have s21 : sI (M 4 (sI a0).toNat) = (M 4 (sI a0).toNat) := sIo (by omega) (by omega)
      have o22 : (sI (M 4 (sI a0).toNat)) ≠ 0 := by omega
      refine ⟨o22, ?_⟩
      have q23 := tmodN (sI (a1 + x2)) (sI (M 4 (sI a0).toNat)) (by omega) (by omega)
      have s24 : sI ((24 * a0) + ((sI (a1 + x2)).tmod (sI (M 4 (sI a0).toNat)))) = ((24 * a0) + ((sI (a1 + x2)).tmod (sI (M 4 (sI a0).toNat)))) := sIo (by omega) (by omega)
      have o25 : 0 ≤ (sI ((24 * a0) + ((sI (a1 + x2)).tmod (sI (M 4 (sI a0).toNat))))) ∧ (sI ((24 * a0) + ((sI (a1 + x2)).tmod (sI (M 4 (sI a0).toNat))))) < 96 := by omega
      refine ⟨o25, ?_⟩
      have q26 : (-2147483648) ≤ (M 3 (sI ((24 * a0) + ((sI (a1 + x2)).tmod (sI (M 4 (sI a0).toNat))))).toNat) ∧ (M 3 (sI ((24 * a0) + ((sI (a1 + x2)).tmod (sI (M 4 (sI a0).toNat))))).toNat) ≤ 2147483647 := BN.at hB.1 (rfl : zcd wR 3 = 53) rfl
      have q27 := orI_R x1 (M 3 (sI ((24 * a0) + ((sI (a1 + x2)).tmod (sI (M 4 (sI a0).toNat))))).toNat)
      intro t28 e29
      exact k5 _ _ ⟨(by omega), trivial⟩ (by omega)
set_option maxHeartbeats 4000000 in
set_option maxRecDepth 100000 in
theorem sR_heardOf {M : zM} {a0 : Int} {a1 : Int} (hB : BI M) (v0 : 0 ≤ a0 ∧ a0 ≤ 3) (p0 : a0 < M 0 10) {Q : Int → Prop} (hQ : ∀ (z : Int), ((-2147483648) ≤ z ∧ z ≤ 2147483647) ∧ True → Q z) : wR_heardOf a0 a1 M Q := by
  unfold wR_heardOf
  have s1 : sI a0 = a0 := sIo (by omega) (by omega)
  have o2 : 0 ≤ (sI a0) ∧ (sI a0) < 4 := by omega
  refine ⟨o2, ?_⟩
  have q3 : 0 ≤ (M 6 (sI a0).toNat) ∧ (M 6 (sI a0).toNat) ≤ 23 := BN.at hB.1 (rfl : zcd wR 6 = 56) rfl
  have o4 : 0 ≤ (sI a0) ∧ (sI a0) < 4 := by omega
  refine ⟨o4, ?_⟩
  have q5 : 0 ≤ (M 5 (sI a0).toNat) ∧ (M 5 (sI a0).toNat) ≤ 1 := BN.at hB.1 (rfl : zcd wR 5 = 55) rfl
  have o6 : 0 ≤ (sI a0) ∧ (sI a0) < 4 := by omega
  refine ⟨o6, ?_⟩
  have q7 : 0 ≤ (M 4 (sI a0).toNat) ∧ (M 4 (sI a0).toNat) ≤ 24 := BN.at hB.1 (rfl : zcd wR 4 = 54) rfl
  have q8 : (((sI a0).toNat : Nat) : Int) < M 0 10 → 1 ≤ (M 4 (sI a0).toNat) := hB.2 _ (by omega)
  have q9 : 0 ≤ M 0 10 ∧ M 0 10 ≤ 4 := BN.at hB.1 (rfl : zcd wR 0 = 50) rfl
  refine sR_wayBy hB (by omega) (by omega) (fun z10  h11 => ?_)
  obtain ⟨p12, p13, -⟩ := h11
  have o14 : 0 ≤ (sI a0) ∧ (sI a0) < 4 := by omega
  refine ⟨o14, ?_⟩
  have s18 : sI ((M 6 (sI a0).toNat) + z10) = ((M 6 (sI a0).toNat) + z10) := sIo (by omega) (by omega)
  have s19 : sI (M 4 (sI a0).toNat) = (M 4 (sI a0).toNat) := sIo (by omega) (by omega)
  have o20 : (sI (M 4 (sI a0).toNat)) ≠ 0 := by omega
  refine ⟨o20, ?_⟩
  have q21 := tmodN (sI ((M 6 (sI a0).toNat) + z10)) (sI (M 4 (sI a0).toNat)) (by omega) (by omega)
  refine sR_heardAt hB (by omega) (by omega) (by omega) (fun z22  h23 => ?_)
  obtain ⟨p24, -⟩ := h23
  exact hQ _ ⟨(by omega), trivial⟩
set_option maxHeartbeats 4000000 in
set_option maxRecDepth 100000 in
theorem sR_heardInAll {M : zM} {a0 : Int} (hB : BI M)  {Q : Int → Prop} (hQ : ∀ (z : Int), ((-2147483648) ≤ z ∧ z ≤ 2147483647) ∧ True → Q z) : wR_heardInAll a0 M Q := by
  unfold wR_heardInAll
  refine pL2_of (fun x1 x2 => (0 ≤ x2 ∧ x2 ≤ 1000000) ∧ True) (fun x1 x2 => (1000000 - x2).toNat) ⟨(by omega), trivial⟩ (fun K x1 x2 h4 k5 => ?_)
  obtain ⟨i3, -⟩ := h4
  have q6 : 0 ≤ (M 0 10) ∧ (M 0 10) ≤ 4 := BN.at hB.1 (rfl : zcd wR 0 = 50) rfl
  have s7 : sI x2 = x2 := sIo (by omega) (by omega)
  have s8 : sI (M 0 10) = (M 0 10) := sIo (by omega) (by omega)
  refine ⟨fun c9 => ?_, fun c9 => ?_⟩
  · skip
    have s10 := sI_R x1
    have s11 := sI_or x1
    exact hQ _ ⟨(by omega), trivial⟩
  · skip
    refine sR_heardOf hB (by omega) (by omega) (fun z12  h13 => ?_)
    obtain ⟨p14, -⟩ := h13
    have q15 := orI_R x1 z12
    exact k5 _ _ ⟨(by omega), trivial⟩ (by omega)
set_option maxHeartbeats 4000000 in
set_option maxRecDepth 100000 in
theorem sR_heard {M : zM} {a0 : Int} {a1 : Int} (hB : BI M) (v0 : (-2147483648) ≤ a0 ∧ a0 ≤ 2147483647) (v1 : (-9223372036854775808) ≤ a1 ∧ a1 ≤ 9223372036854775807) {Q : Int → zM → Prop} (hQ : ∀ (z : Int) (M1 : zM), BI M1 ∧ (∀ j9 k9 : Nat, ¬ (j9 = 0 ∧ k9 = 35) → M1 j9 k9 = M j9 k9) ∧ ((-2147483648) ≤ z ∧ z ≤ 2147483647) ∧ True → Q z M1) : wR_heard a0 a1 M Q := by
  unfold wR_heard
  have hF0 : ∀ j9 k9 : Nat, ¬ (j9 = 0 ∧ k9 = 35) → M j9 k9 = M j9 k9 := fun j9 k9 _ => rfl
  intro M1 e2
  have hB3 : BI M1 := by rw [e2]; exact BI.up0 hB rfl (by omega) (by omega) (by decide)
  have hF4 : ∀ j9 k9 : Nat, ¬ (j9 = 0 ∧ k9 = 35) → M1 j9 k9 = M j9 k9 := fun j9 k9 h9 => by rw [e2]; exact (zup_n _ _ (by omega)).trans (hF0 j9 k9 h9)
  have s5 : sI a0 = a0 := sIo (by omega) (by omega)
  refine pJ0_dup ?_
  refine ⟨fun c6 => ?_, fun c6 => ?_⟩
  · skip
    have s7 : sL a1 = a1 := sLo (by omega) (by omega)
    refine ⟨fun c8 => ?_, fun c8 => ?_⟩
    · skip
      refine ⟨fun c9 => ?_, fun c9 => ?_⟩
      · skip
        refine sR_heardOf hB3 (by omega) (by omega) (fun z10  h11 => ?_)
        obtain ⟨p12, -⟩ := h11
        exact hQ _ _ ⟨hB3, hF4, (by omega), trivial⟩
      · skip
        refine sR_heardInAll hB3  (fun z13  h14 => ?_)
        obtain ⟨p15, -⟩ := h14
        exact hQ _ _ ⟨hB3, hF4, (by omega), trivial⟩
    · skip
      exact hQ _ _ ⟨hB3, hF4, (by omega), trivial⟩
  · skip
    refine sR_isRing hB3 (by omega) (fun z16  h17 => ?_)
    obtain ⟨p18, p19, -⟩ := h17
    refine ⟨fun c20 => ?_, fun c20 => ?_⟩
    · skip
      exact hQ _ _ ⟨hB3, hF4, (by omega), trivial⟩
    · skip
      have s21 : sL a1 = a1 := sLo (by omega) (by omega)
      refine ⟨fun c22 => ?_, fun c22 => ?_⟩
      · skip
        refine ⟨fun c23 => ?_, fun c23 => ?_⟩
        · skip
          refine sR_heardOf hB3 (by omega) (by omega) (fun z24  h25 => ?_)
          obtain ⟨p26, -⟩ := h25
          exact hQ _ _ ⟨hB3, hF4, (by omega), trivial⟩
        · skip
          refine sR_heardInAll hB3  (fun z27  h28 => ?_)
          obtain ⟨p29, -⟩ := h28
          exact hQ _ _ ⟨hB3, hF4, (by omega), trivial⟩
      · skip
        exact hQ _ _ ⟨hB3, hF4, (by omega), trivial⟩
theorem sR_allRounds {M : zM} (hB : BI M) {Q : Int → Prop} (hQ : ∀ z, ((0 ≤ z ∧ z ≤ 331776) ∧ True) → Q z) : wR_allRounds M Q := by
  unfold wR_allRounds
  have b : 0 ≤ M 0 10 ∧ M 0 10 ≤ 4 := BN.at hB.1 (rfl : zcd wR 0 = 50) rfl
  refine pL2_of (fun x1 x2 => 0 ≤ x1 ∧ ((x2 = 0 ∧ x1 ≤ 1) ∨ (x2 = 1 ∧ x1 ≤ 24) ∨ (x2 = 2 ∧ x1 ≤ 576) ∨ (x2 = 3 ∧ x1 ≤ 13824) ∨ (x2 = 4 ∧ x1 ≤ 331776))) (fun _ x2 => (100 - x2).toNat) ⟨by omega, by omega⟩ (fun K x1 x2 hI hK => ?_)
  obtain ⟨i1, i2⟩ := hI
  have s1 : sL x1 = x1 := sLo (by omega) (by omega)
  have s2 : sI x2 = x2 := sIo (by omega) (by omega)
  have s3 : sI (M 0 10) = M 0 10 := sIo (by omega) (by omega)
  rw [s1, s2, s3]
  refine ⟨fun c => hQ _ ⟨by omega, trivial⟩, fun c => ?_⟩
  refine sR_round hB (by omega) (by omega) (fun z hp => ?_)
  have t := tmodN x1 z i1 (by omega)
  refine ⟨by omega, ?_⟩
  refine sR_common 48 hB (by omega) (by omega) (fun z2 hp2 => ?_) (by omega)
  have g := gcd_b z (x1.tmod z) (by omega)
  have e := hp2.2.1
  refine ⟨by omega, ?_⟩
  have d := tdivB x1 z2 i1 (by omega)
  have m1 := mulB x1 24 (x1.tdiv z2) z d.1 d.2 (by omega) (by omega)
  exact hK _ _ ⟨by omega, by omega⟩ (by omega)
set_option maxHeartbeats 4000000 in
set_option maxRecDepth 100000 in
theorem sR_all {M : zM}  (hB : BI M)  {Q : Int → zM → Prop} (hQ : ∀ (z : Int) (M1 : zM), BI M1 ∧ (∀ j9 k9 : Nat, ¬ (j9 = 0 ∧ k9 = 35) → M1 j9 k9 = M j9 k9) ∧ ((-9223372036854775808) ≤ z ∧ z ≤ 9223372036854775807) ∧ True → Q z M1) : wR_all  M Q := by
  unfold wR_all
  have hF0 : ∀ j9 k9 : Nat, ¬ (j9 = 0 ∧ k9 = 35) → M j9 k9 = M j9 k9 := fun j9 k9 _ => rfl
  intro M1 e2
  have hB3 : BI M1 := by rw [e2]; exact BI.up0 hB rfl (by omega) (by omega) (by decide)
  have hF4 : ∀ j9 k9 : Nat, ¬ (j9 = 0 ∧ k9 = 35) → M1 j9 k9 = M j9 k9 := fun j9 k9 h9 => by rw [e2]; exact (zup_n _ _ (by omega)).trans (hF0 j9 k9 h9)
  refine sR_allRounds hB3  (fun z5  h6 => ?_)
  obtain ⟨p7, -⟩ := h6
  exact hQ _ _ ⟨hB3, hF4, (by omega), trivial⟩
set_option maxHeartbeats 4000000 in
set_option maxRecDepth 100000 in
theorem sR_wish {M : zM} {a0 : Int} {a1 : Int} (hB : BI M) (v0 : (-2147483648) ≤ a0 ∧ a0 ≤ 2147483647) (v1 : (-2147483648) ≤ a1 ∧ a1 ≤ 2147483647) {Q : Int → zM → Prop} (hQ : ∀ (z : Int) (M1 : zM), BI M1 ∧ (∀ j9 k9 : Nat, ¬ (j9 = 0 ∧ k9 = 35 ∨ j9 = 8) → M1 j9 k9 = M j9 k9) ∧ (0 ≤ z ∧ z ≤ 1) ∧ True → Q z M1) : wR_wish a0 a1 M Q := by
  unfold wR_wish
  have hF0 : ∀ j9 k9 : Nat, ¬ (j9 = 0 ∧ k9 = 35 ∨ j9 = 8) → M j9 k9 = M j9 k9 := fun j9 k9 _ => rfl
  intro M1 e2
  have hB3 : BI M1 := by rw [e2]; exact BI.up0 hB rfl (by omega) (by omega) (by decide)
  have hF4 : ∀ j9 k9 : Nat, ¬ (j9 = 0 ∧ k9 = 35 ∨ j9 = 8) → M1 j9 k9 = M j9 k9 := fun j9 k9 h9 => by rw [e2]; exact (zup_n _ _ (by omega)).trans (hF0 j9 k9 h9)
  refine sR_isRing hB3 (by omega) (fun z5  h6 => ?_)
  obtain ⟨p7, p8, -⟩ := h6
  refine ⟨fun c9 => ?_, fun c9 => ?_⟩
  · skip
    exact hQ _ _ ⟨hB3, hF4, (by omega), trivial⟩
  · skip
    refine sR_areSounds hB3 (by omega) (fun z10  h11 => ?_)
    obtain ⟨p12, p13, -⟩ := h11
    refine ⟨fun c14 => ?_, fun c14 => ?_⟩
    · skip
      have s15 : sI a0 = a0 := sIo (by omega) (by omega)
      have o16 : 0 ≤ (sI a0) ∧ (sI a0) < 4 := by omega
      refine ⟨o16, ?_⟩
      intro M17 e18
      have hB19 : BI M17 := by rw [e18]; exact BI.up hB3 (rfl : zcd wR 8 = 58) rfl (by omega) (by omega) (by decide)
      have hF20 : ∀ j9 k9 : Nat, ¬ (j9 = 0 ∧ k9 = 35 ∨ j9 = 8) → M17 j9 k9 = M j9 k9 := fun j9 k9 h9 => by rw [e18]; exact (zup_n _ _ (by omega)).trans (hF4 j9 k9 h9)
      exact hQ _ _ ⟨hB19, hF20, (by omega), trivial⟩
    · skip
      exact hQ _ _ ⟨hB3, hF4, (by omega), trivial⟩
set_option maxHeartbeats 4000000 in
set_option maxRecDepth 100000 in
theorem sR_meetsAt {M : zM} {a0 : Int} (hB : BI M)  {Q : Int → Prop} (hQ : ∀ (z : Int), (0 ≤ z ∧ z ≤ 1) ∧ True → Q z) : wR_meetsAt a0 M Q := by
  unfold wR_meetsAt
  refine pL1_of (fun x1 => (0 ≤ x1 ∧ x1 ≤ 1000000) ∧ True) (fun x1 => (1000000 - x1).toNat) ⟨(by omega), trivial⟩ (fun K x1 h3 k4 => ?_)
  obtain ⟨i2, -⟩ := h3
  have q5 : 0 ≤ (M 0 10) ∧ (M 0 10) ≤ 4 := BN.at hB.1 (rfl : zcd wR 0 = 50) rfl
  have s6 : sI x1 = x1 := sIo (by omega) (by omega)
  have s7 : sI (M 0 10) = (M 0 10) := sIo (by omega) (by omega)
  refine ⟨fun c8 => ?_, fun c8 => ?_⟩
  · skip
    exact hQ _ ⟨(by omega), trivial⟩
  · skip
    refine sR_heardOf hB (by omega) (by omega) (fun z9  h10 => ?_)
    obtain ⟨p11, -⟩ := h10
    have o12 : 0 ≤ (sI x1) ∧ (sI x1) < 4 := by omega
    refine ⟨o12, ?_⟩
    have q13 : (-2147483648) ≤ (M 8 (sI x1).toNat) ∧ (M 8 (sI x1).toNat) ≤ 2147483647 := BN.at hB.1 (rfl : zcd wR 8 = 58) rfl
    have q14 := andI_R z9 (M 8 (sI x1).toNat)
    have o15 : 0 ≤ (sI x1) ∧ (sI x1) < 4 := by omega
    refine ⟨o15, ?_⟩
    have s17 : sI (M 8 (sI x1).toNat) = (M 8 (sI x1).toNat) := sIo (by omega) (by omega)
    refine ⟨fun c18 => ?_, fun c18 => ?_⟩
    · skip
      exact k4 _ ⟨(by omega), trivial⟩ (by omega)
    · skip
      exact hQ _ ⟨(by omega), trivial⟩
set_option maxHeartbeats 4000000 in
set_option maxRecDepth 100000 in
theorem sR_steadyAll {M : zM}  (hB : BI M)  {Q : Int → Prop} (hQ : ∀ (z : Int), (0 ≤ z ∧ z ≤ 5000) ∧ True → Q z) : wR_steadyAll  M Q := by
  unfold wR_steadyAll
  refine sR_steady hB (by omega) (fun z1  h2 => ?_)
  obtain ⟨p3, -⟩ := h2
  refine sR_steady hB (by omega) (fun z4  h5 => ?_)
  obtain ⟨p6, -⟩ := h5
  exact hQ _ ⟨(by omega), trivial⟩
set_option maxHeartbeats 4000000 in
set_option maxRecDepth 100000 in
theorem sR_findHeard {M : zM} {a0 : Int} (hB : BI M)  {Q : zM → Prop} (hQ : ∀ (M1 : zM), BI M1 ∧ (∀ j9 k9 : Nat, ¬ (j9 = 27) → M1 j9 k9 = M j9 k9) ∧ True → Q M1) : wR_findHeard a0 M Q := by
  unfold wR_findHeard
  have hF0 : ∀ j9 k9 : Nat, ¬ (j9 = 27) → M j9 k9 = M j9 k9 := fun j9 k9 _ => rfl
  refine wL1_of (fun x1 M2 => BI M2 ∧ (∀ j9 k9 : Nat, ¬ (j9 = 27) → M2 j9 k9 = M j9 k9) ∧ (0 ≤ x1 ∧ x1 ≤ 1000000) ∧ (M2 0 10 = M 0 10) ∧ True) (fun x1 M2 => (1000000 - x1).toNat) ⟨hB, hF0, (by omega), (by omega), trivial⟩ (fun K x1 M2 h7 k8 => ?_)
  obtain ⟨hB3, hF4, i5, i6, -⟩ := h7
  have q9 : 0 ≤ (M2 0 10) ∧ (M2 0 10) ≤ 4 := BN.at hB3.1 (rfl : zcd wR 0 = 50) rfl
  have s10 : sI x1 = x1 := sIo (by omega) (by omega)
  have s11 : sI (M2 0 10) = (M2 0 10) := sIo (by omega) (by omega)
  refine ⟨fun c12 => ?_, fun c12 => ?_⟩
  · skip
    exact hQ _ ⟨hB3, hF4, trivial⟩
  · skip
    refine wL1_of (fun x13 M14 => BI M14 ∧ (∀ j9 k9 : Nat, ¬ (j9 = 27) → M14 j9 k9 = M j9 k9) ∧ (0 ≤ x13 ∧ x13 ≤ 1000000) ∧ (M14 0 10 = M 0 10) ∧ True) (fun x13 M14 => (1000000 - x13).toNat) ⟨hB3, hF4, (by omega), (by omega), trivial⟩ (fun K x13 M14 h19 k20 => ?_)
    obtain ⟨hB15, hF16, i17, i18, -⟩ := h19
    refine sR_round hB15 (by omega) (by omega) (fun z21  h22 => ?_)
    obtain ⟨p23, -⟩ := h22
    have s24 : sI x13 = x13 := sIo (by omega) (by omega)
    refine ⟨fun c25 => ?_, fun c25 => ?_⟩
    · skip
      exact k8 _ _ ⟨hB15, hF16, (by omega), (by omega), trivial⟩ (by omega)
    · skip
      refine sR_heardOf hB15 (by omega) (by omega) (fun z26  h27 => ?_)
      obtain ⟨p28, -⟩ := h27
      have s29 : sI x1 = x1 := sIo (by omega) (by omega)
      have o30 : 0 ≤ (sI x1) ∧ (sI x1) < 4 := by omega
      refine ⟨o30, ?_⟩
      have q31 : (-2147483648) ≤ (M14 8 (sI x1).toNat) ∧ (M14 8 (sI x1).toNat) ≤ 2147483647 := BN.at hB15.1 (rfl : zcd wR 8 = 58) rfl
      have q32 := andI_R z26 (M14 8 (sI x1).toNat)
      have o33 : 0 ≤ (sI x1) ∧ (sI x1) < 4 := by omega
      refine ⟨o33, ?_⟩
      have s35 : sI (M14 8 (sI x1).toNat) = (M14 8 (sI x1).toNat) := sIo (by omega) (by omega)
      refine ⟨fun c36 => ?_, fun c36 => ?_⟩
      · skip
        have s37 : sI ((24 * x1) + x13) = ((24 * x1) + x13) := sIo (by omega) (by omega)
        have o38 : 0 ≤ (sI ((24 * x1) + x13)) ∧ (sI ((24 * x1) + x13)) < 96 := by omega
        refine ⟨o38, ?_⟩
        intro M39 e40
        have hB41 : BI M39 := by rw [e40]; exact BI.up hB15 (rfl : zcd wR 27 = 77) rfl (by omega) (by omega) (by decide)
        have hF42 : ∀ j9 k9 : Nat, ¬ (j9 = 27) → M39 j9 k9 = M j9 k9 := fun j9 k9 h9 => by rw [e40]; exact (zup_n _ _ (by omega)).trans (hF16 j9 k9 h9)
        have r43 : M39 0 10 = M14 0 10 := by rw [e40]; exact zup_n _ _ (by omega)
        exact k20 _ _ ⟨hB41, hF42, (by omega), (by omega), trivial⟩ (by omega)
      · skip
        have s44 : sI ((24 * x1) + x13) = ((24 * x1) + x13) := sIo (by omega) (by omega)
        have o45 : 0 ≤ (sI ((24 * x1) + x13)) ∧ (sI ((24 * x1) + x13)) < 96 := by omega
        refine ⟨o45, ?_⟩
        intro M46 e47
        have hB48 : BI M46 := by rw [e47]; exact BI.up hB15 (rfl : zcd wR 27 = 77) rfl (by omega) (by omega) (by decide)
        have hF49 : ∀ j9 k9 : Nat, ¬ (j9 = 27) → M46 j9 k9 = M j9 k9 := fun j9 k9 h9 => by rw [e47]; exact (zup_n _ _ (by omega)).trans (hF16 j9 k9 h9)
        have r50 : M46 0 10 = M14 0 10 := by rw [e47]; exact zup_n _ _ (by omega)
        exact k20 _ _ ⟨hB48, hF49, (by omega), (by omega), trivial⟩ (by omega)
set_option maxHeartbeats 4000000 in
set_option maxRecDepth 100000 in
theorem sR_meetsBehind {M : zM} {a0 : Int} (hB : BI M) (v0 : 0 ≤ a0 ∧ a0 ≤ 2147483647) {Q : Int → Prop} (hQ : ∀ (z : Int), (0 ≤ z ∧ z ≤ 1) ∧ True → Q z) : wR_meetsBehind a0 M Q := by
  unfold wR_meetsBehind
  refine pL1_of (fun x1 => (0 ≤ x1 ∧ x1 ≤ 1000000) ∧ True) (fun x1 => (1000000 - x1).toNat) ⟨(by omega), trivial⟩ (fun K x1 h3 k4 => ?_)
  obtain ⟨i2, -⟩ := h3
  have q5 : 0 ≤ (M 0 10) ∧ (M 0 10) ≤ 4 := BN.at hB.1 (rfl : zcd wR 0 = 50) rfl
  have s6 : sI x1 = x1 := sIo (by omega) (by omega)
  have s7 : sI (M 0 10) = (M 0 10) := sIo (by omega) (by omega)
  refine ⟨fun c8 => ?_, fun c8 => ?_⟩
  · skip
    exact hQ _ ⟨(by omega), trivial⟩
  · skip
    refine sR_round hB (by omega) (by omega) (fun z9  h10 => ?_)
    obtain ⟨p11, -⟩ := h10
    have s12 : sI a0 = a0 := sIo (by omega) (by omega)
    have o13 : z9 ≠ 0 := by omega
    refine ⟨o13, ?_⟩
    have q14 := tmodN (sI a0) z9 (by omega) (by omega)
    have s15 : sI ((24 * x1) + ((sI a0).tmod z9)) = ((24 * x1) + ((sI a0).tmod z9)) := sIo (by omega) (by omega)
    have o16 : 0 ≤ (sI ((24 * x1) + ((sI a0).tmod z9))) ∧ (sI ((24 * x1) + ((sI a0).tmod z9))) < 96 := by omega
    refine ⟨o16, ?_⟩
    have q17 : (-2147483648) ≤ (M 27 (sI ((24 * x1) + ((sI a0).tmod z9))).toNat) ∧ (M 27 (sI ((24 * x1) + ((sI a0).tmod z9))).toNat) ≤ 2147483647 := BN.at hB.1 (rfl : zcd wR 27 = 77) rfl
    have s18 : sI (M 27 (sI ((24 * x1) + ((sI a0).tmod z9))).toNat) = (M 27 (sI ((24 * x1) + ((sI a0).tmod z9))).toNat) := sIo (by omega) (by omega)
    refine ⟨fun c19 => ?_, fun c19 => ?_⟩
    · skip
      exact k4 _ ⟨(by omega), trivial⟩ (by omega)
    · skip
      exact hQ _ ⟨(by omega), trivial⟩
set_option maxHeartbeats 4000000 in
set_option maxRecDepth 100000 in
theorem sR_meets {M : zM} {a0 : Int} (hB : BI M) (v0 : (-9223372036854775808) ≤ a0 ∧ a0 ≤ 9223372036854775807) {Q : Int → zM → Prop} (hQ : ∀ (z : Int) (M1 : zM), BI M1 ∧ (∀ j9 k9 : Nat, ¬ (j9 = 0 ∧ k9 = 35 ∨ j9 = 27) → M1 j9 k9 = M j9 k9) ∧ ((-9223372036854775808) ≤ z ∧ z ≤ 9223372036854775807) ∧ True → Q z M1) : wR_meets a0 M Q := by
  unfold wR_meets
  have hF0 : ∀ j9 k9 : Nat, ¬ (j9 = 0 ∧ k9 = 35 ∨ j9 = 27) → M j9 k9 = M j9 k9 := fun j9 k9 _ => rfl
  intro M1 e2
  have hB3 : BI M1 := by rw [e2]; exact BI.up0 hB rfl (by omega) (by omega) (by decide)
  have hF4 : ∀ j9 k9 : Nat, ¬ (j9 = 0 ∧ k9 = 35 ∨ j9 = 27) → M1 j9 k9 = M j9 k9 := fun j9 k9 h9 => by rw [e2]; exact (zup_n _ _ (by omega)).trans (hF0 j9 k9 h9)
  have s5 : sL a0 = a0 := sLo (by omega) (by omega)
  refine ⟨fun c6 => ?_, fun c6 => ?_⟩
  · skip
    exact hQ _ _ ⟨hB3, hF4, (by omega), trivial⟩
  · skip
    refine ⟨fun c7 => ?_, fun c7 => ?_⟩
    · skip
      refine pL1_of (fun x8 => (0 ≤ x8 ∧ x8 ≤ 1152921504606846976) ∧ True) (fun x8 => (9223372036854775807 - x8).toNat) ⟨(by omega), trivial⟩ (fun K x8 h10 k11 => ?_)
      obtain ⟨i9, -⟩ := h10
      refine sR_steadyAll hB3  (fun z12  h13 => ?_)
      obtain ⟨p14, -⟩ := h13
      have s15 : sL x8 = x8 := sLo (by omega) (by omega)
      refine ⟨fun c16 => ?_, fun c16 => ?_⟩
      · skip
        refine sR_findHeard hB3  (fun  M17 h18 => ?_)
        obtain ⟨hB19, f20, -⟩ := h18
        have hF21 : ∀ j9 k9 : Nat, ¬ (j9 = 0 ∧ k9 = 35 ∨ j9 = 27) → M17 j9 k9 = M j9 k9 := fun j9 k9 h9 => ((f20 j9 k9 (by omega)).trans (hF4 j9 k9 h9))
        refine sR_allRounds hB19  (fun z22  h23 => ?_)
        obtain ⟨p24, -⟩ := h23
        refine pL1_of (fun x25 => (0 ≤ x25 ∧ x25 ≤ 1000000) ∧ True) (fun x25 => (1000000 - x25).toNat) ⟨(by omega), trivial⟩ (fun K x25 h27 k28 => ?_)
        obtain ⟨i26, -⟩ := h27
        have s29 : sI x25 = x25 := sIo (by omega) (by omega)
        have s30 : sI z22 = z22 := sIo (by omega) (by omega)
        refine ⟨fun c31 => ?_, fun c31 => ?_⟩
        · skip
          exact hQ _ _ ⟨hB19, hF21, (by omega), trivial⟩
        · skip
          refine sR_meetsBehind hB19 (by omega) (fun z32  h33 => ?_)
          obtain ⟨p34, -⟩ := h33
          refine ⟨fun c35 => ?_, fun c35 => ?_⟩
          · skip
            exact k28 _ ⟨(by omega), trivial⟩ (by omega)
          · skip
            have s36 : sL (x8 + (sI x25)) = (x8 + (sI x25)) := sLo (by omega) (by omega)
            exact hQ _ _ ⟨hB19, hF21, (by omega), trivial⟩
      · skip
        refine sR_meetsAt hB3  (fun z37  h38 => ?_)
        obtain ⟨p39, -⟩ := h38
        refine ⟨fun c40 => ?_, fun c40 => ?_⟩
        · skip
          exact k11 _ ⟨(by omega), trivial⟩ (by omega)
        · skip
          exact hQ _ _ ⟨hB3, hF4, (by omega), trivial⟩
    · skip
      exact hQ _ _ ⟨hB3, hF4, (by omega), trivial⟩
set_option maxHeartbeats 4000000 in
set_option maxRecDepth 100000 in
theorem sR_often {M : zM}  (hB : BI M)  {Q : Int → zM → Prop} (hQ : ∀ (z : Int) (M1 : zM), BI M1 ∧ (∀ j9 k9 : Nat, ¬ (j9 = 0 ∧ k9 = 35 ∨ j9 = 27) → M1 j9 k9 = M j9 k9) ∧ ((-9223372036854775808) ≤ z ∧ z ≤ 9223372036854775807) ∧ True → Q z M1) : wR_often  M Q := by
  unfold wR_often
  have hF0 : ∀ j9 k9 : Nat, ¬ (j9 = 0 ∧ k9 = 35 ∨ j9 = 27) → M j9 k9 = M j9 k9 := fun j9 k9 _ => rfl
  intro M1 e2
  have hB3 : BI M1 := by rw [e2]; exact BI.up0 hB rfl (by omega) (by omega) (by decide)
  have hF4 : ∀ j9 k9 : Nat, ¬ (j9 = 0 ∧ k9 = 35 ∨ j9 = 27) → M1 j9 k9 = M j9 k9 := fun j9 k9 h9 => by rw [e2]; exact (zup_n _ _ (by omega)).trans (hF0 j9 k9 h9)
  refine sR_steadyAll hB3  (fun z5  h6 => ?_)
  obtain ⟨p7, -⟩ := h6
  refine sR_findHeard hB3  (fun  M8 h9 => ?_)
  obtain ⟨hB10, f11, -⟩ := h9
  have hF12 : ∀ j9 k9 : Nat, ¬ (j9 = 0 ∧ k9 = 35 ∨ j9 = 27) → M8 j9 k9 = M j9 k9 := fun j9 k9 h9 => ((f11 j9 k9 (by omega)).trans (hF4 j9 k9 h9))
  refine sR_allRounds hB10  (fun z13  h14 => ?_)
  obtain ⟨p15, -⟩ := h14
  refine pL2_of (fun x16 x17 => (0 ≤ x17 ∧ x17 ≤ 1000000) ∧ True) (fun x16 x17 => (1000000 - x17).toNat) ⟨(by omega), trivial⟩ (fun K x16 x17 h19 k20 => ?_)
  obtain ⟨i18, -⟩ := h19
  have s21 : sI x17 = x17 := sIo (by omega) (by omega)
  have s22 : sI z13 = z13 := sIo (by omega) (by omega)
  refine ⟨fun c23 => ?_, fun c23 => ?_⟩
  · skip
    have s24 := sL_R x16
    have s25 := sL_or x16
    exact hQ _ _ ⟨hB10, hF12, (by omega), trivial⟩
  · skip
    refine sR_meetsBehind hB10 (by omega) (fun z26  h27 => ?_)
    obtain ⟨p28, -⟩ := h27
    refine ⟨fun c29 => ?_, fun c29 => ?_⟩
    · skip
      exact k20 _ _ ⟨(by omega), trivial⟩ (by omega)
    · skip
      exact k20 _ _ ⟨(by omega), trivial⟩ (by omega)
set_option maxHeartbeats 4000000 in
set_option maxRecDepth 100000 in
theorem sR_mark {M : zM} {a0 : Int} {a1 : Int} (hB : BI M) (v0 : (-2147483648) ≤ a0 ∧ a0 ≤ 2147483647) (v1 : (-2147483648) ≤ a1 ∧ a1 ≤ 2147483647) {Q : Int → zM → Prop} (hQ : ∀ (z : Int) (M1 : zM), BI M1 ∧ (∀ j9 k9 : Nat, ¬ (j9 = 0 ∧ k9 = 35 ∨ j9 = 0 ∧ k9 = 16 ∨ j9 = 12 ∨ j9 = 13) → M1 j9 k9 = M j9 k9) ∧ ((-2147483648) ≤ z ∧ z ≤ 2147483647) ∧ ((0 ≤ a0 ∧ a0 ≤ 100000 ∧ 1 ≤ a1 ∧ a1 ≤ 9 ∧ M 0 16 < 6 ∧ z = M 0 16 + 1 ∧ M1 0 16 = M 0 16 + 1) ∨ (¬ (0 ≤ a0 ∧ a0 ≤ 100000 ∧ 1 ≤ a1 ∧ a1 ≤ 9 ∧ M 0 16 < 6) ∧ z = -1 ∧ M1 0 16 = M 0 16)) ∧ True → Q z M1) : wR_mark a0 a1 M Q := by
  unfold wR_mark
  have hF0 : ∀ j9 k9 : Nat, ¬ (j9 = 0 ∧ k9 = 35 ∨ j9 = 0 ∧ k9 = 16 ∨ j9 = 12 ∨ j9 = 13) → M j9 k9 = M j9 k9 := fun j9 k9 _ => rfl
  intro M1 e2
  have hB3 : BI M1 := by rw [e2]; exact BI.up0 hB rfl (by omega) (by omega) (by decide)
  have hF4 : ∀ j9 k9 : Nat, ¬ (j9 = 0 ∧ k9 = 35 ∨ j9 = 0 ∧ k9 = 16 ∨ j9 = 12 ∨ j9 = 13) → M1 j9 k9 = M j9 k9 := fun j9 k9 h9 => by rw [e2]; exact (zup_n _ _ (by omega)).trans (hF0 j9 k9 h9)
  have r5 : M1 0 16 = M 0 16 := by rw [e2]; exact zup_n _ _ (by omega)
  refine sR_in hB3 (by omega) (by omega) (by omega) (fun z6  h7 => ?_)
  obtain ⟨p8, p9, -⟩ := h7
  refine ⟨fun c10 => ?_, fun c10 => ?_⟩
  · skip
    exact hQ _ _ ⟨hB3, hF4, (by omega), (by omega), trivial⟩
  · skip
    refine sR_in hB3 (by omega) (by omega) (by omega) (fun z11  h12 => ?_)
    obtain ⟨p13, p14, -⟩ := h12
    refine ⟨fun c15 => ?_, fun c15 => ?_⟩
    · skip
      exact hQ _ _ ⟨hB3, hF4, (by omega), (by omega), trivial⟩
    · skip
      have q16 : 0 ≤ (M1 0 16) ∧ (M1 0 16) ≤ 6 := BN.at hB3.1 (rfl : zcd wR 0 = 50) rfl
      have s17 : sI (M1 0 16) = (M1 0 16) := sIo (by omega) (by omega)
      refine ⟨fun c18 => ?_, fun c18 => ?_⟩
      · skip
        have o20 : 0 ≤ (sI (M1 0 16)) ∧ (sI (M1 0 16)) < 6 := by omega
        refine ⟨o20, ?_⟩
        intro M21 e22
        have hB23 : BI M21 := by rw [e22]; exact BI.up hB3 (rfl : zcd wR 12 = 62) rfl (by omega) (by omega) (by decide)
        have hF24 : ∀ j9 k9 : Nat, ¬ (j9 = 0 ∧ k9 = 35 ∨ j9 = 0 ∧ k9 = 16 ∨ j9 = 12 ∨ j9 = 13) → M21 j9 k9 = M j9 k9 := fun j9 k9 h9 => by rw [e22]; exact (zup_n _ _ (by omega)).trans (hF4 j9 k9 h9)
        have r25 : M21 0 16 = M1 0 16 := by rw [e22]; exact zup_n _ _ (by omega)
        have q26 : 0 ≤ (M21 0 16) ∧ (M21 0 16) ≤ 6 := BN.at hB23.1 (rfl : zcd wR 0 = 50) rfl
        have s27 : sI (M21 0 16) = (M21 0 16) := sIo (by omega) (by omega)
        have o28 : 0 ≤ (sI (M21 0 16)) ∧ (sI (M21 0 16)) < 6 := by omega
        refine ⟨o28, ?_⟩
        intro M29 e30
        have hB31 : BI M29 := by rw [e30]; exact BI.up hB23 (rfl : zcd wR 13 = 63) rfl (by omega) (by omega) (by decide)
        have hF32 : ∀ j9 k9 : Nat, ¬ (j9 = 0 ∧ k9 = 35 ∨ j9 = 0 ∧ k9 = 16 ∨ j9 = 12 ∨ j9 = 13) → M29 j9 k9 = M j9 k9 := fun j9 k9 h9 => by rw [e30]; exact (zup_n _ _ (by omega)).trans (hF24 j9 k9 h9)
        have r33 : M29 0 16 = M21 0 16 := by rw [e30]; exact zup_n _ _ (by omega)
        have q34 : 0 ≤ (M29 0 16) ∧ (M29 0 16) ≤ 6 := BN.at hB31.1 (rfl : zcd wR 0 = 50) rfl
        intro M35 e36
        have hB37 : BI M35 := by rw [e36]; exact BI.up0 hB31 rfl (by omega) (by omega) (by decide)
        have hF38 : ∀ j9 k9 : Nat, ¬ (j9 = 0 ∧ k9 = 35 ∨ j9 = 0 ∧ k9 = 16 ∨ j9 = 12 ∨ j9 = 13) → M35 j9 k9 = M j9 k9 := fun j9 k9 h9 => by rw [e36]; exact (zup_n _ _ (by omega)).trans (hF32 j9 k9 h9)
        have r39 : M35 0 16 = ((M29 0 16) + 1) := by rw [e36]; exact zup_s _ _ _ _
        have q40 : 0 ≤ (M35 0 16) ∧ (M35 0 16) ≤ 6 := BN.at hB37.1 (rfl : zcd wR 0 = 50) rfl
        have s41 : sI (M35 0 16) = (M35 0 16) := sIo (by omega) (by omega)
        exact hQ _ _ ⟨hB37, hF38, (by omega), (by omega), trivial⟩
      · skip
        exact hQ _ _ ⟨hB3, hF4, (by omega), (by omega), trivial⟩
set_option maxHeartbeats 4000000 in
set_option maxRecDepth 100000 in
theorem sR_truths {M : zM} {a0 : Int} {a1 : Int} {a2 : Int} (hB : BI M) (v0 : 0 ≤ a0 ∧ a0 ≤ 3) (v1 : 0 ≤ a1 ∧ a1 ≤ 23) (v2 : 0 ≤ a2 ∧ a2 ≤ 23) (p0 : a0 < M 0 10) (p1 : a1 = 0 ∨ a1 < M 4 (sI a0).toNat) {Q : Int → Prop} (hQ : ∀ (z : Int), (0 ≤ z ∧ z ≤ 63) ∧ True → Q z) : wR_truths a0 a1 a2 M Q := by
  unfold wR_truths
  have s1 : sI a0 = a0 := sIo (by omega) (by omega)
  have o2 : 0 ≤ (sI a0) ∧ (sI a0) < 4 := by omega
  refine ⟨o2, ?_⟩
  have q3 : 0 ≤ (M 4 (sI a0).toNat) ∧ (M 4 (sI a0).toNat) ≤ 24 := BN.at hB.1 (rfl : zcd wR 4 = 54) rfl
  have q4 : (((sI a0).toNat : Nat) : Int) < M 0 10 → 1 ≤ (M 4 (sI a0).toNat) := hB.2 _ (by omega)
  have q5 : 0 ≤ M 0 10 ∧ M 0 10 ≤ 4 := BN.at hB.1 (rfl : zcd wR 0 = 50) rfl
  refine pL2_of (fun x6 x7 => (0 ≤ x6 ∧ x6 ≤ 63) ∧ (0 ≤ x7 ∧ x7 ≤ 1000000) ∧ True) (fun x6 x7 => (1000000 - x7).toNat) ⟨(by omega), (by omega), trivial⟩ (fun K x6 x7 h10 k11 => ?_)
  obtain ⟨i8, i9, -⟩ := h10
  have q12 : 0 ≤ (M 0 16) ∧ (M 0 16) ≤ 6 := BN.at hB.1 (rfl : zcd wR 0 = 50) rfl
  have s13 : sI x7 = x7 := sIo (by omega) (by omega)
  have s14 : sI (M 0 16) = (M 0 16) := sIo (by omega) (by omega)
  refine ⟨fun c15 => ?_, fun c15 => ?_⟩
  · skip
    have s16 : sI x6 = x6 := sIo (by omega) (by omega)
    exact hQ _ ⟨(by omega), trivial⟩
  · skip
    have s17 : sI a0 = a0 := sIo (by omega) (by omega)
    have o18 : 0 ≤ (sI a0) ∧ (sI a0) < 4 := by omega
    refine ⟨o18, ?_⟩
    have q19 : 0 ≤ (M 5 (sI a0).toNat) ∧ (M 5 (sI a0).toNat) ≤ 1 := BN.at hB.1 (rfl : zcd wR 5 = 55) rfl
    have o20 : 0 ≤ (sI x7) ∧ (sI x7) < 6 := by omega
    refine ⟨o20, ?_⟩
    have q21 : 0 ≤ (M 12 (sI x7).toNat) ∧ (M 12 (sI x7).toNat) ≤ 100000 := BN.at hB.1 (rfl : zcd wR 12 = 62) rfl
    have s22 : sI (M 12 (sI x7).toNat) = (M 12 (sI x7).toNat) := sIo (by omega) (by omega)
    refine sR_wayBy hB (by omega) (by omega) (fun z23  h24 => ?_)
    obtain ⟨p25, p26, -⟩ := h24
    refine pL2_of (fun x27 x28 => (0 ≤ x28 ∧ x28 ≤ 1000000) ∧ True) (fun x27 x28 => (1000000 - x28).toNat) ⟨(by omega), trivial⟩ (fun K x27 x28 h30 k31 => ?_)
    obtain ⟨i29, -⟩ := h30
    have s32 : sI x28 = x28 := sIo (by omega) (by omega)
    refine ⟨fun c33 => ?_, fun c33 => ?_⟩
    · skip
      have s34 := sI_R x27
      have s35 := sI_or x27
      refine ⟨fun c36 => ?_, fun c36 => ?_⟩
      · skip
        exact k11 _ _ ⟨(by omega), (by omega), trivial⟩ (by omega)
      · skip
        have q37 := shl01 1 x7 (by omega) (by omega) (by omega) (by omega)
        have q38 := or64 x6 (shlI 1 x7) (by omega) (by omega) (by omega) (by omega)
        exact k11 _ _ ⟨(by omega), (by omega), trivial⟩ (by omega)
    · skip
      have s39 : sI a0 = a0 := sIo (by omega) (by omega)
      have o40 : 0 ≤ (sI a0) ∧ (sI a0) < 4 := by omega
      refine ⟨o40, ?_⟩
      have q41 : (-2147483648) ≤ (M 7 (sI a0).toNat) ∧ (M 7 (sI a0).toNat) ≤ 2147483647 := BN.at hB.1 (rfl : zcd wR 7 = 57) rfl
      have q42 := shrI_R (M 7 (sI a0).toNat) x28
      have q43 := andI_br (shrI (M 7 (sI a0).toNat) x28) (c := 1) (by decide) (by decide)
      refine ⟨fun c44 => ?_, fun c44 => ?_⟩
      · skip
        exact k31 _ _ ⟨(by omega), trivial⟩ (by omega)
      · skip
        have s45 := sI_R x27
        have s46 := sI_or x27
        refine ⟨fun c47 => ?_, fun c47 => ?_⟩
        · skip
          exact k31 _ _ ⟨(by omega), trivial⟩ (by omega)
        · skip
          have s48 : sI ((a2 + z23) + x28) = ((a2 + z23) + x28) := sIo (by omega) (by omega)
          have s49 : sI ((M 4 (sI a0).toNat) - a1) = ((M 4 (sI a0).toNat) - a1) := sIo (by omega) (by omega)
          have o50 : (sI ((M 4 (sI a0).toNat) - a1)) ≠ 0 := by omega
          refine ⟨o50, ?_⟩
          have q51 := tmodN (sI ((a2 + z23) + x28)) (sI ((M 4 (sI a0).toNat) - a1)) (by omega) (by omega)
          have s52 : sI ((24 * a0) + ((sI ((a2 + z23) + x28)).tmod (sI ((M 4 (sI a0).toNat) - a1)))) = ((24 * a0) + ((sI ((a2 + z23) + x28)).tmod (sI ((M 4 (sI a0).toNat) - a1)))) := sIo (by omega) (by omega)
          have o53 : 0 ≤ (sI ((24 * a0) + ((sI ((a2 + z23) + x28)).tmod (sI ((M 4 (sI a0).toNat) - a1))))) ∧ (sI ((24 * a0) + ((sI ((a2 + z23) + x28)).tmod (sI ((M 4 (sI a0).toNat) - a1))))) < 96 := by omega
          refine ⟨o53, ?_⟩
          have q54 : (-2147483648) ≤ (M 3 (sI ((24 * a0) + ((sI ((a2 + z23) + x28)).tmod (sI ((M 4 (sI a0).toNat) - a1))))).toNat) ∧ (M 3 (sI ((24 * a0) + ((sI ((a2 + z23) + x28)).tmod (sI ((M 4 (sI a0).toNat) - a1))))).toNat) ≤ 2147483647 := BN.at hB.1 (rfl : zcd wR 3 = 53) rfl
          have s55 : sI x7 = x7 := sIo (by omega) (by omega)
          have o56 : 0 ≤ (sI x7) ∧ (sI x7) < 6 := by omega
          refine ⟨o56, ?_⟩
          have q57 : 0 ≤ (M 13 (sI x7).toNat) ∧ (M 13 (sI x7).toNat) ≤ 9 := BN.at hB.1 (rfl : zcd wR 13 = 63) rfl
          have q58 := shrI_R (M 3 (sI ((24 * a0) + ((sI ((a2 + z23) + x28)).tmod (sI ((M 4 (sI a0).toNat) - a1))))).toNat) (M 13 (sI x7).toNat)
          have q59 := andI_br (shrI (M 3 (sI ((24 * a0) + ((sI ((a2 + z23) + x28)).tmod (sI ((M 4 (sI a0).toNat) - a1))))).toNat) (M 13 (sI x7).toNat)) (c := 1) (by decide) (by decide)
          refine ⟨fun c60 => ?_, fun c60 => ?_⟩
          · skip
            exact k31 _ _ ⟨(by omega), trivial⟩ (by omega)
          · skip
            exact k31 _ _ ⟨(by omega), trivial⟩ (by omega)
set_option maxHeartbeats 4000000 in
set_option maxRecDepth 100000 in
theorem sR_keptM {M : zM}  (hB : BI M)  {Q : Int → zM → Prop} (hQ : ∀ (z : Int) (M1 : zM), BI M1 ∧ (∀ j9 k9 : Nat, ¬ (j9 = 0 ∧ k9 = 35) → M1 j9 k9 = M j9 k9) ∧ ((-2147483648) ≤ z ∧ z ≤ 2147483647) ∧ True → Q z M1) : wR_keptM  M Q := by
  unfold wR_keptM
  have hF0 : ∀ j9 k9 : Nat, ¬ (j9 = 0 ∧ k9 = 35) → M j9 k9 = M j9 k9 := fun j9 k9 _ => rfl
  intro M1 e2
  have hB3 : BI M1 := by rw [e2]; exact BI.up0 hB rfl (by omega) (by omega) (by decide)
  have hF4 : ∀ j9 k9 : Nat, ¬ (j9 = 0 ∧ k9 = 35) → M1 j9 k9 = M j9 k9 := fun j9 k9 h9 => by rw [e2]; exact (zup_n _ _ (by omega)).trans (hF0 j9 k9 h9)
  refine pL2_of (fun x5 x6 => (0 ≤ x6 ∧ x6 ≤ 1000000) ∧ True) (fun x5 x6 => (1000000 - x6).toNat) ⟨(by omega), trivial⟩ (fun K x5 x6 h8 k9 => ?_)
  obtain ⟨i7, -⟩ := h8
  have q10 : 0 ≤ (M1 0 10) ∧ (M1 0 10) ≤ 4 := BN.at hB3.1 (rfl : zcd wR 0 = 50) rfl
  have s11 : sI x6 = x6 := sIo (by omega) (by omega)
  have s12 : sI (M1 0 10) = (M1 0 10) := sIo (by omega) (by omega)
  refine ⟨fun c13 => ?_, fun c13 => ?_⟩
  · skip
    have s14 := sI_R x5
    have s15 := sI_or x5
    exact hQ _ _ ⟨hB3, hF4, (by omega), trivial⟩
  · skip
    have o16 : 0 ≤ (sI x6) ∧ (sI x6) < 4 := by omega
    refine ⟨o16, ?_⟩
    have q17 : 0 ≤ (M1 6 (sI x6).toNat) ∧ (M1 6 (sI x6).toNat) ≤ 23 := BN.at hB3.1 (rfl : zcd wR 6 = 56) rfl
    refine sR_truths hB3 (by omega) (by omega) (by omega) (by omega) (by omega) (fun z18  h19 => ?_)
    obtain ⟨p20, -⟩ := h19
    have q21 := orI_R x5 z18
    exact k9 _ _ ⟨(by omega), trivial⟩ (by omega)
theorem sR_costOf {M : zM} {a0 a1 a2 : Int} (hB : BI M) (v0 : 0 ≤ a0 ∧ a0 ≤ 3) (v1 : 0 ≤ a1 ∧ a1 ≤ 23) (v2 : 0 ≤ a2 ∧ a2 ≤ 23) {Q : Int → Prop} (hQ : ∀ z, ((0 ≤ z ∧ z ≤ 200) ∧ z = 5 * a1 + absI (a2 - M 6 (sI a0).toNat) ∧ True) → Q z) : wR_costOf a0 a1 a2 M Q := by
  unfold wR_costOf
  have s0 : sI a0 = a0 := sIo (by omega) (by omega)
  have b : 0 ≤ M 6 (sI a0).toNat ∧ M 6 (sI a0).toNat ≤ 23 := BN.at hB.1 (rfl : zcd wR 6 = 56) rfl
  have s1 : sI (a2 - M 6 (sI a0).toNat) = a2 - M 6 (sI a0).toNat := sIo (by omega) (by omega)
  have ab := absI_b (a2 - M 6 (sI a0).toNat)
  rw [s1]
  refine ⟨by omega, ?_⟩
  rw [sIo (by omega) (by omega)]
  exact hQ _ ⟨by omega, rfl, trivial⟩
/-- what the model's table of plans holds from a ring on: FAR, or the cost of a cut and start and what stands behind it -/
def DPR (M N : zM) (r : Nat) : Prop := ∀ v : Nat, (v : Int) < shlI 1 (M 0 16) → N 28 (64 * r + v) = 268435456 ∨ ∃ c t : Nat, (c : Int) < M 4 r ∧ (t : Int) < M 4 r - c ∧ N 28 (64 * r + v) = (5 * c + absI (t - M 6 r)) + N 28 (64 * (r + 1) + (andI v (xorI (N 29 (24 * (24 * r + c) + t)) (-1))).toNat)
theorem DPR.of {M N N2 : zM} {r : Nat} (h : DPR M N r) (h28 : ∀ i, 64 * r ≤ i → N2 28 i = N 28 i) (h29 : ∀ i, 576 * r ≤ i → N2 29 i = N 29 i) : DPR M N2 r := by
  intro v hv
  rw [h28 _ (by omega)]
  rcases h v hv with h1 | ⟨c, t, h1, h2, h3⟩
  · exact Or.inl h1
  · refine Or.inr ⟨c, t, h1, h2, ?_⟩
    rw [h29 _ (by omega), h28 _ (by omega)]
    exact h3
/-- a plan that can be carried out -/
def PVR (M N : zM) : Prop := ∀ k : Nat, k < 4 → (k : Int) < M 0 10 → (0 ≤ N 22 (2 * k) ∧ N 22 (2 * k) < M 4 k) ∧ (0 ≤ N 22 (2 * k + 1) ∧ N 22 (2 * k + 1) < M 4 k - N 22 (2 * k))
/-- the table's row of a ring, while it is made: all cuts and starts ahead of c, t -/
def PDR (M N : zM) (r : Nat) (c t : Int) : Prop := ∀ v : Nat, (v : Int) < shlI 1 (M 0 16) → N 28 (64 * r + v) = 268435456 ∨ ∃ c2 t2 : Nat, ((c2 : Int) < c ∨ (c2 = c ∧ (t2 : Int) < t)) ∧ (c2 : Int) < M 4 r ∧ (t2 : Int) < M 4 r - c2 ∧ N 28 (64 * r + v) = (5 * c2 + absI (t2 - M 6 r)) + N 28 (64 * (r + 1) + (andI v (xorI (N 29 (24 * (24 * r + c2) + t2)) (-1))).toNat)
set_option maxHeartbeats 16000000 in
theorem sR_findPlan {M : zM} (hB : BI M) {Q : Int → zM → Prop} (hQ : ∀ z M1, (BI M1 ∧ (∀ j9 k9 : Nat, ¬ (j9 = 0 ∧ k9 = 34 ∨ j9 = 22 ∨ j9 = 28 ∨ j9 = 29) → M1 j9 k9 = M j9 k9) ∧ (-1 ≤ z ∧ z ≤ 268435456) ∧ ((z = -1 ∧ M1 0 34 = M 0 34 ∧ M1 22 = M 22) ∨ (0 ≤ z ∧ M1 0 34 = 2 * M 0 10 ∧ PVR M M1)) ∧ True) → Q z M1) : wR_findPlan M Q := by
  unfold wR_findPlan
  have b10 : 0 ≤ M 0 10 ∧ M 0 10 ≤ 4 := BN.at hB.1 (rfl : zcd wR 0 = 50) rfl
  have s10 : sI (M 0 10) = M 0 10 := sIo (by omega) (by omega)
  have b16 : 0 ≤ M 0 16 ∧ M 0 16 ≤ 6 := BN.at hB.1 (rfl : zcd wR 0 = 50) rfl
  have bs := shl1_b (M 0 16) b16.1 b16.2
  obtain ⟨S, eS⟩ : ∃ S, S = shlI 1 (M 0 16) := ⟨_, rfl⟩
  rw [← eS] at bs ⊢
  have sS1 : sI (S - 1) = S - 1 := sIo (by omega) (by omega)
  -- the table's end
  refine wL1_of (fun x N => BI N ∧ (∀ j9 k9 : Nat, ¬ (j9 = 28) → N j9 k9 = M j9 k9) ∧ (0 ≤ x ∧ x ≤ 64)) (fun x _ => (1000 - x).toNat) ⟨hB, fun _ _ _ => rfl, by omega⟩ (fun K x N hI hK => ?_)
  obtain ⟨hBN, FN, ix⟩ := hI
  have sx : sI x = x := sIo (by omega) (by omega)
  have n10 : N 0 10 = M 0 10 := FN 0 10 (by omega)
  have sk : sI (64 * M 0 10 + x) = 64 * M 0 10 + x := sIo (by omega) (by omega)
  rw [sx, n10, sk]
  refine ⟨fun c => ?_, fun c => ⟨fun c2 => ⟨by omega, ?_⟩, fun c2 => ⟨by omega, ?_⟩⟩⟩
  rotate_left
  · intro M169 e169
    exact hK _ _ ⟨by rw [e169]; exact BI.up hBN (rfl : zcd wR 28 = 78) rfl (by omega) (by omega) (by decide), fun j9 k9 h9 => by rw [e169]; exact (zup_n _ _ (by omega)).trans (FN j9 k9 h9), by omega⟩ (by omega)
  · intro M174 e174
    exact hK _ _ ⟨by rw [e174]; exact BI.up hBN (rfl : zcd wR 28 = 78) rfl (by omega) (by omega) (by decide), fun j9 k9 h9 => by rw [e174]; exact (zup_n _ _ (by omega)).trans (FN j9 k9 h9), by omega⟩ (by omega)
  clear hK
  -- ring by ring from the last
  refine wL1_of (fun y P => BI P ∧ (∀ j9 k9 : Nat, ¬ (j9 = 28 ∨ j9 = 29) → P j9 k9 = M j9 k9) ∧ (-1 ≤ y ∧ y < M 0 10) ∧ (∀ k : Nat, k < 4 → y < k → (k : Int) < M 0 10 → DPR M P k)) (fun y _ => (y + 1).toNat) ⟨hBN, fun j9 k9 h9 => FN j9 k9 (by omega), by omega, fun k h1 h2 h3 => by omega⟩ (fun K y P hI hK => ?_)
  obtain ⟨hBP, FP, iy, iD⟩ := hI
  have sy : sI y = y := sIo (by omega) (by omega)
  rw [sy]
  refine ⟨fun c2 => ?_, fun c2 => ?_⟩
  · -- the plan is read
    have hy : y = -1 := by omega
    rw [sS1]
    refine ⟨by omega, ?_⟩
    intro t22 e22
    have b22 : 0 ≤ t22 ∧ t22 ≤ 268435456 := by rw [e22]; exact BN.at hBP.1 (rfl : zcd wR 28 = 78) rfl
    have s22 : sI t22 = t22 := sIo (by omega) (by omega)
    rw [s22]
    refine ⟨fun c3 => ?_, fun c3 => hQ _ _ ⟨hBP, fun j9 k9 h9 => FP j9 k9 (by omega), by omega, Or.inl ⟨rfl, FP 0 34 (by omega), rowF FP 22 (by omega)⟩, trivial⟩⟩
    refine wL2_of (fun w r N => BI N ∧ (∀ j9 k9 : Nat, ¬ (j9 = 22) → N j9 k9 = P j9 k9) ∧ (0 ≤ r ∧ r ≤ M 0 10) ∧ (0 ≤ w ∧ w < S) ∧ P 28 (64 * r.toNat + w.toNat) < 268435456 ∧ (∀ k : Nat, (k : Int) < r → (0 ≤ N 22 (2 * k) ∧ N 22 (2 * k) < M 4 k) ∧ (0 ≤ N 22 (2 * k + 1) ∧ N 22 (2 * k + 1) < M 4 k - N 22 (2 * k)))) (fun _ r _ => (100 - r).toNat) ⟨hBP, fun _ _ _ => rfl, by omega, by omega, by rw [show 64 * (0 : Int).toNat + (S - 1).toNat = (S - 1).toNat by omega, ← e22]; exact c3, fun k h => by omega⟩ (fun K2 w r N hI hK2 => ?_)
    obtain ⟨hBN2, FN2, ir, iw, iv, ip⟩ := hI
    have sr : sI r = r := sIo (by omega) (by omega)
    have n10b : N 0 10 = M 0 10 := (FN2 0 10 (by omega)).trans (FP 0 10 (by omega))
    rw [sr, n10b, s10]
    refine ⟨fun c4 => ?_, fun c4 => ?_⟩
    · intro M36 e36
      refine hQ _ _ ⟨by rw [e36]; exact BI.up0 hBN2 (rfl : cbt 50 34 = (-1, 64)) (by omega) (by omega) (by decide), fun j9 k9 h9 => by rw [e36]; exact (zup_n _ _ (by omega)).trans ((FN2 j9 k9 (by omega)).trans (FP j9 k9 (by omega))), by omega, Or.inr ⟨by omega, by rw [e36, zup_s], fun k hk hk2 => ?_⟩, trivial⟩
      rw [e36, zup_row _ _ (by omega)]
      exact ip k (by omega)
    · obtain ⟨i, ei⟩ : ∃ i : Nat, i = r.toNat := ⟨_, rfl⟩
      have hi : (i : Int) = r := by omega
      rw [← ei] at iv
      have bL : 0 ≤ M 4 i ∧ M 4 i ≤ 24 := BN.at hB.1 (rfl : zcd wR 4 = 54) rfl
      have b6 : 0 ≤ M 6 i ∧ M 6 i ≤ 23 := BN.at hB.1 (rfl : zcd wR 6 = 56) rfl
      have hD := iD i (by omega) (by omega) (by omega)
      unfold DPR at hD
      rw [← eS] at hD
      rcases hD w.toNat (by omega) with h0 | ⟨cs, ts, h1, h2, h3⟩
      · omega
      rw [show (w.toNat : Int) = w by omega] at h3
      -- cut by cut
      refine wL3_of (fun w2 dn c N2 => BI N2 ∧ (∀ j9 k9 : Nat, ¬ (j9 = 22) → N2 j9 k9 = P j9 k9) ∧ (0 ≤ c ∧ c ≤ M 4 i) ∧ (∀ k : Nat, (k : Int) < r → (0 ≤ N2 22 (2 * k) ∧ N2 22 (2 * k) < M 4 k) ∧ (0 ≤ N2 22 (2 * k + 1) ∧ N2 22 (2 * k + 1) < M 4 k - N2 22 (2 * k))) ∧ ((dn = 0 ∧ w2 = w ∧ c ≤ cs) ∨ (dn = 1 ∧ (0 ≤ w2 ∧ w2 < S) ∧ P 28 (64 * (i + 1) + w2.toNat) < 268435456 ∧ (0 ≤ N2 22 (2 * i) ∧ N2 22 (2 * i) < M 4 i) ∧ (0 ≤ N2 22 (2 * i + 1) ∧ N2 22 (2 * i + 1) < M 4 i - N2 22 (2 * i))))) (fun _ _ c _ => (100 - c).toNat) ⟨hBN2, FN2, by omega, ip, Or.inl ⟨rfl, rfl, by omega⟩⟩ (fun K3 w2 dn c N2 hI hK3 => ?_)
      obtain ⟨hBN3, FN3, ic, ip3, io⟩ := hI
      have sc : sI c = c := sIo (by omega) (by omega)
      have sdn : sI dn = dn := sIo (by omega) (by omega)
      have l4 : N2 4 i = M 4 i := (FN3 4 i (by omega)).trans (FP 4 i (by omega))
      have sl : sI (M 4 i) = M 4 i := sIo (by omega) (by omega)
      have fin : dn = 1 → K2 w2 (r + 1) N2 := by
        intro hd
        rcases io with ⟨h, -, -⟩ | ⟨-, q1, q2, q3, q4⟩
        · omega
        · refine hK2 _ _ _ ⟨hBN3, FN3, by omega, q1, ?_, ?_⟩ (by omega)
          · rw [show (r + 1).toNat = i + 1 by omega]
            exact q2
          · intro k hk
            by_cases hki : k = i
            · subst hki
              exact ⟨q3, q4⟩
            · exact ip3 k (by omega)
      rw [sc, sdn, ← ei, l4, sl]
      refine ⟨by omega, fun c5 => fin (by omega), fun c5 => ⟨fun c6 => fin (by omega), fun c6 => ?_⟩⟩
      -- start by start
      refine wL3_of (fun w3 dn2 t N3 => BI N3 ∧ (∀ j9 k9 : Nat, ¬ (j9 = 22) → N3 j9 k9 = P j9 k9) ∧ (0 ≤ t ∧ t ≤ M 4 i - c) ∧ (∀ k : Nat, (k : Int) < r → (0 ≤ N3 22 (2 * k) ∧ N3 22 (2 * k) < M 4 k) ∧ (0 ≤ N3 22 (2 * k + 1) ∧ N3 22 (2 * k + 1) < M 4 k - N3 22 (2 * k))) ∧ ((dn2 = 0 ∧ w3 = w ∧ (c < cs ∨ (c = cs ∧ t ≤ ts))) ∨ (dn2 = 1 ∧ (0 ≤ w3 ∧ w3 < S) ∧ P 28 (64 * (i + 1) + w3.toNat) < 268435456 ∧ (0 ≤ N3 22 (2 * i) ∧ N3 22 (2 * i) < M 4 i) ∧ (0 ≤ N3 22 (2 * i + 1) ∧ N3 22 (2 * i + 1) < M 4 i - N3 22 (2 * i))))) (fun _ _ t _ => (100 - t).toNat) ⟨hBN3, FN3, by omega, ip3, by omega⟩ (fun K4 w3 dn2 t N3 hI hK4 => ?_)
      obtain ⟨hBN4, FN4, it, ip4, io4⟩ := hI
      have st : sI t = t := sIo (by omega) (by omega)
      have sdn2 : sI dn2 = dn2 := sIo (by omega) (by omega)
      have l42 : N3 4 i = M 4 i := (FN4 4 i (by omega)).trans (FP 4 i (by omega))
      have l62 : N3 6 i = M 6 i := (FN4 6 i (by omega)).trans (FP 6 i (by omega))
      have slc : sI (M 4 i - c) = M 4 i - c := sIo (by omega) (by omega)
      have r28 : N3 28 = P 28 := rowF FN4 28 (by omega)
      have r29 : N3 29 = P 29 := rowF FN4 29 (by omega)
      rw [st, sdn2, l42, slc]
      refine ⟨by omega, fun c7 => hK3 _ _ _ _ ⟨hBN4, FN4, by omega, ip4, by omega⟩ (by omega), fun c7 => ⟨fun c8 => hK3 _ _ _ _ ⟨hBN4, FN4, by omega, ip4, by omega⟩ (by omega), fun c8 => ?_⟩⟩
      have hw3 : w3 = w := by omega
      have sx1 : sI (24 * (24 * r + c) + t) = 24 * (24 * r + c) + t := sIo (by omega) (by omega)
      have ex1 : (24 * (24 * r + c) + t).toNat = 24 * (24 * i + c.toNat) + t.toNat := by omega
      rw [sx1]
      refine ⟨by omega, ?_⟩
      intro t75 e75
      have bt := andI_le w3 (xorI (N3 29 (24 * (24 * r + c) + t).toNat) (-1)) (by omega) (by omega)
      rw [← e75] at bt
      refine sR_costOf hBN4 (by omega) (by omega) (by omega) (fun z78 h78 => ?_)
      obtain ⟨bz, ez, -⟩ := h78
      rw [sr, ← ei, l62] at ez
      have sa : sI (64 * (r + 1) + t75) = 64 * (r + 1) + t75 := sIo (by omega) (by omega)
      have sb : sI (64 * r + w3) = 64 * r + w3 := sIo (by omega) (by omega)
      have ea : (64 * (r + 1) + t75).toNat = 64 * (i + 1) + t75.toNat := by omega
      have eb : (64 * r + w3).toNat = 64 * i + w3.toNat := by omega
      have s2r : sI (2 * r) = 2 * r := sIo (by omega) (by omega)
      have s2r1 : sI (2 * r + 1) = 2 * r + 1 := sIo (by omega) (by omega)
      have e2r : (2 * r).toNat = 2 * i := by omega
      have e2r1 : (2 * r + 1).toNat = 2 * i + 1 := by omega
      rw [sa, sb, s2r, s2r1, ea, eb, e2r, e2r1, r28]
      have ba : 0 ≤ P 28 (64 * (i + 1) + t75.toNat) ∧ P 28 (64 * (i + 1) + t75.toNat) ≤ 268435456 := BN.at hBP.1 (rfl : zcd wR 28 = 78) rfl
      have bb : 0 ≤ P 28 (64 * i + w3.toNat) ∧ P 28 (64 * i + w3.toNat) ≤ 268435456 := BN.at hBP.1 (rfl : zcd wR 28 = 78) rfl
      have sA : sI (z78 + P 28 (64 * (i + 1) + t75.toNat)) = z78 + P 28 (64 * (i + 1) + t75.toNat) := sIo (by omega) (by omega)
      have sB : sI (P 28 (64 * i + w3.toNat)) = P 28 (64 * i + w3.toNat) := sIo (by omega) (by omega)
      rw [sA, sB]
      refine ⟨by omega, by omega, fun c9 => ⟨by omega, ?_⟩, fun c9 => ?_⟩
      · intro M85 e85
        refine ⟨by omega, ?_⟩
        intro M88 e88
        have hB85 : BI M85 := by rw [e85]; exact BI.up hBN4 (rfl : zcd wR 22 = 72) rfl (by omega) (by omega) (by decide)
        have q1 : M88 22 (2 * i) = c := by rw [e88, zup_n _ _ (by omega), e85, zup_s]
        have q2 : M88 22 (2 * i + 1) = t := by rw [e88, zup_s]
        have q3 : P 28 (64 * (i + 1) + t75.toNat) < 268435456 := by rw [hw3] at c9; omega
        refine hK4 _ _ _ _ ⟨by rw [e88]; exact BI.up hB85 (rfl : zcd wR 22 = 72) rfl (by omega) (by omega) (by decide), fun j9 k9 h9 => by rw [e88, e85]; exact (zup_n _ _ (by omega)).trans ((zup_n _ _ (by omega)).trans (FN4 j9 k9 h9)), by omega, fun k hk => ?_, Or.inr ⟨rfl, by omega, q3, by rw [q1]; omega, by rw [q1, q2]; omega⟩⟩ (by omega)
        rw [e88, e85, zup_n _ _ (by omega), zup_n _ _ (by omega), zup_n _ _ (by omega), zup_n _ _ (by omega)]
        exact ip4 k hk
      · refine hK4 _ _ _ _ ⟨hBN4, FN4, by omega, ip4, Or.inl ⟨by omega, hw3, ?_⟩⟩ (by omega)
        rcases io4 with ⟨-, -, h | ⟨h, h'⟩⟩ | ⟨h, -⟩
        · exact Or.inl h
        · refine Or.inr ⟨h, ?_⟩
          by_cases hts : t = ts
          · exfalso
            apply c9
            rw [ez, e75, hw3, r29, ex1, h, hts, Int.toNat_natCast, Int.toNat_natCast]
            exact h3.symm
          · omega
        · omega
  · -- a ring's row of the table is made
    obtain ⟨i, ei⟩ : ∃ i : Nat, i = y.toNat := ⟨_, rfl⟩
    have hi : (i : Int) = y := by omega
    have bL : 0 ≤ M 4 i ∧ M 4 i ≤ 24 := BN.at hB.1 (rfl : zcd wR 4 = 54) rfl
    have b6 : 0 ≤ M 6 i ∧ M 6 i ≤ 23 := BN.at hB.1 (rfl : zcd wR 6 = 56) rfl
    have sl : sI (M 4 i) = M 4 i := sIo (by omega) (by omega)
    refine wL1_of (fun x N => BI N ∧ (∀ j9 k9 : Nat, ¬ (j9 = 28 ∧ k9 < 64 * (i + 1)) → N j9 k9 = P j9 k9) ∧ (0 ≤ x ∧ x ≤ 64) ∧ (∀ v : Nat, (v : Int) < x → N 28 (64 * i + v) = 268435456)) (fun x _ => (1000 - x).toNat) ⟨hBP, fun _ _ _ => rfl, by omega, fun v hv => by omega⟩ (fun K2 x2 N2 hI hK2 => ?_)
    obtain ⟨hB2, F2, ix2, iv2⟩ := hI
    have sx2 : sI x2 = x2 := sIo (by omega) (by omega)
    have sk2 : sI (64 * y + x2) = 64 * y + x2 := sIo (by omega) (by omega)
    rw [sx2, sk2, ← ei]
    refine ⟨fun c3 => ?_, fun c3 => ⟨by omega, ?_⟩⟩
    rotate_left
    · intro M163 e163
      have e64 : (64 * y + x2).toNat = 64 * i + x2.toNat := by omega
      rw [e64] at e163
      refine hK2 _ _ ⟨by rw [e163]; exact BI.up hB2 (rfl : zcd wR 28 = 78) rfl (by omega) (by omega) (by decide), fun j9 k9 h9 => by rw [e163]; exact (zup_n _ _ (by omega)).trans (F2 j9 k9 h9), by omega, fun v hv => ?_⟩ (by omega)
      rw [e163]
      by_cases h : v = x2.toNat
      · rw [h, zup_s]
      · rw [zup_n _ _ (by omega)]
        exact iv2 v (by omega)
    clear hK2
    -- cut by cut
    refine wL1_of (fun c N => BI N ∧ (∀ j9 k9 : Nat, ¬ (j9 = 28 ∧ k9 < 64 * (i + 1) ∨ j9 = 29 ∧ k9 < 576 * (i + 1)) → N j9 k9 = P j9 k9) ∧ (0 ≤ c ∧ c ≤ M 4 i) ∧ PDR M N i c 0) (fun c _ => (1000 - c).toNat) ⟨hB2, fun j9 k9 h9 => F2 j9 k9 (by omega), by omega, fun v hv => Or.inl (iv2 v (by rw [← eS] at hv; omega))⟩ (fun K3 c N3 hI hK3 => ?_)
    obtain ⟨hB3, F3, ic, iP⟩ := hI
    have sc : sI c = c := sIo (by omega) (by omega)
    have l4 : N3 4 i = M 4 i := (F3 4 i (by omega)).trans (FP 4 i (by omega))
    rw [sc, l4, sl]
    refine ⟨by omega, fun c4 => ?_, fun c4 => ?_⟩
    · refine hK _ _ ⟨hB3, fun j9 k9 h9 => (F3 j9 k9 (by omega)).trans (FP j9 k9 (by omega)), by omega, fun k h1 h2 h3 => ?_⟩ (by omega)
      by_cases hki : k = i
      · subst hki
        intro v hv
        rcases iP v hv with h | ⟨c2, t2, -, h1, h2, h3⟩
        · exact Or.inl h
        · exact Or.inr ⟨c2, t2, h1, h2, h3⟩
      · exact (iD k h1 (by omega) h3).of (fun q hq => F3 28 q (by omega)) (fun q hq => F3 29 q (by omega))
    -- start by start
    refine wL1_of (fun t N => BI N ∧ (∀ j9 k9 : Nat, ¬ (j9 = 28 ∧ k9 < 64 * (i + 1) ∨ j9 = 29 ∧ k9 < 576 * (i + 1)) → N j9 k9 = P j9 k9) ∧ (0 ≤ t ∧ t ≤ M 4 i - c) ∧ PDR M N i c t) (fun t _ => (1000 - t).toNat) ⟨hB3, F3, by omega, iP⟩ (fun K4 t N4 hI hK4 => ?_)
    obtain ⟨hB4, F4, it, iP4⟩ := hI
    have st : sI t = t := sIo (by omega) (by omega)
    have l42 : N4 4 i = M 4 i := (F4 4 i (by omega)).trans (FP 4 i (by omega))
    have l102 : N4 0 10 = M 0 10 := (F4 0 10 (by omega)).trans (FP 0 10 (by omega))
    have slc : sI (M 4 i - c) = M 4 i - c := sIo (by omega) (by omega)
    rw [st, l42, slc]
    refine ⟨by omega, fun c5 => ?_, fun c5 => ?_⟩
    · refine hK3 _ _ ⟨hB4, F4, by omega, fun v hv => ?_⟩ (by omega)
      rcases iP4 v hv with h | ⟨c2, t2, h0, h1, h2, h3⟩
      · exact Or.inl h
      · exact Or.inr ⟨c2, t2, by omega, h1, h2, h3⟩
    refine sR_truths hB4 (by omega) (by omega) (by omega) (by omega) (by rw [sy, ← ei, l42]; omega) (fun z131 h131 => ?_)
    obtain ⟨bz, -⟩ := h131
    have sx1 : sI (24 * (24 * y + c) + t) = 24 * (24 * y + c) + t := sIo (by omega) (by omega)
    have ex1 : (24 * (24 * y + c) + t).toNat = 24 * (24 * i + c.toNat) + t.toNat := by omega
    rw [sx1]
    refine ⟨by omega, ?_⟩
    intro M135 e135
    rw [ex1] at e135
    have hB135 : BI M135 := by rw [e135]; exact BI.up hB4 (rfl : zcd wR 29 = 79) rfl (by omega) (by omega) (by decide)
    have r135 : M135 29 (24 * (24 * i + c.toNat) + t.toNat) = z131 := by rw [e135, zup_s]
    have F135 : ∀ j9 k9 : Nat, ¬ (j9 = 28 ∧ k9 < 64 * (i + 1) ∨ j9 = 29 ∧ k9 < 576 * (i + 1)) → M135 j9 k9 = P j9 k9 := fun j9 k9 h9 => by rw [e135]; exact (zup_n _ _ (by omega)).trans (F4 j9 k9 h9)
    refine wL1_of (fun v N => BI N ∧ (∀ j9 k9 : Nat, ¬ (j9 = 28 ∧ k9 < 64 * (i + 1) ∨ j9 = 29 ∧ k9 < 576 * (i + 1)) → N j9 k9 = P j9 k9) ∧ N 29 (24 * (24 * i + c.toNat) + t.toNat) = z131 ∧ (0 ≤ v ∧ v ≤ 64) ∧ PDR M N i c (t + 1)) (fun v _ => (1000 - v).toNat) ⟨hB135, F135, r135, by omega, fun v hv => ?_⟩ (fun K5 v N5 hI hK5 => ?_)
    · rw [e135, zup_row _ _ (show (28 : Nat) ≠ 29 by omega)]
      rcases iP4 v hv with h | ⟨c2, t2, h0, h1, h2, h3⟩
      · exact Or.inl h
      · refine Or.inr ⟨c2, t2, by omega, h1, h2, ?_⟩
        rw [zup_n _ _ (by omega)]
        exact h3
    obtain ⟨hB5, F5, r5, iv5, iP5⟩ := hI
    have sv : sI v = v := sIo (by omega) (by omega)
    have l65 : N5 6 i = M 6 i := (F5 6 i (by omega)).trans (FP 6 i (by omega))
    rw [sv]
    refine ⟨fun c6 => hK4 _ _ ⟨hB5, F5, by omega, iP5⟩ (by omega), fun c6 => ?_⟩
    refine sR_costOf hB5 (by omega) (by omega) (by omega) (fun z150 h150 => ?_)
    obtain ⟨bz2, ez, -⟩ := h150
    rw [sy, ← ei, l65] at ez
    have bt := andI_le v (xorI z131 (-1)) (by omega) (by omega)
    obtain ⟨u, eu⟩ : ∃ u, u = andI v (xorI z131 (-1)) := ⟨_, rfl⟩
    rw [← eu] at bt ⊢
    have sa : sI (64 * (y + 1) + u) = 64 * (y + 1) + u := sIo (by omega) (by omega)
    have sb : sI (64 * y + v) = 64 * y + v := sIo (by omega) (by omega)
    have ea : (64 * (y + 1) + u).toNat = 64 * (i + 1) + u.toNat := by omega
    have eb : (64 * y + v).toNat = 64 * i + v.toNat := by omega
    rw [sa, sb, ea, eb]
    have ba : 0 ≤ N5 28 (64 * (i + 1) + u.toNat) ∧ N5 28 (64 * (i + 1) + u.toNat) ≤ 268435456 := BN.at hB5.1 (rfl : zcd wR 28 = 78) rfl
    have bb : 0 ≤ N5 28 (64 * i + v.toNat) ∧ N5 28 (64 * i + v.toNat) ≤ 268435456 := BN.at hB5.1 (rfl : zcd wR 28 = 78) rfl
    refine ⟨by omega, ?_⟩
    intro t154 e154
    have sA : sI t154 = t154 := sIo (by omega) (by omega)
    have sB : sI (N5 28 (64 * i + v.toNat)) = N5 28 (64 * i + v.toNat) := sIo (by omega) (by omega)
    rw [sA, sB]
    refine ⟨by omega, by omega, ?_⟩
    intro M158 e158
    refine hK5 _ _ ⟨by rw [e158]; exact BI.up hB5 (rfl : zcd wR 28 = 78) rfl (by omega) (by omega) (by decide), fun j9 k9 h9 => by rw [e158]; exact (zup_n _ _ (by omega)).trans (F5 j9 k9 h9), by rw [e158, zup_n _ _ (by omega)]; exact r5, by omega, fun v2 hv2 => ?_⟩ (by omega)
    have r158 : M158 29 = N5 29 := by rw [e158]; exact zup_row _ _ (by omega)
    have q158 : ∀ k, M158 28 (64 * (i + 1) + k) = N5 28 (64 * (i + 1) + k) := fun k => by rw [e158]; exact zup_n _ _ (by omega)
    rw [r158]
    by_cases h : v2 = v.toNat
    · subst h
      have h58 : M158 28 (64 * i + v.toNat) = min (N5 28 (64 * i + v.toNat)) t154 := by rw [e158, zup_s]
      rw [h58]
      rcases Int.le_total (N5 28 (64 * i + v.toNat)) t154 with hm | hm
      · rw [Int.min_eq_left hm]
        rcases iP5 _ hv2 with h | ⟨c2, t2, h0, h1, h2, h3⟩
        · exact Or.inl h
        · exact Or.inr ⟨c2, t2, h0, h1, h2, by rw [q158]; exact h3⟩
      · rw [Int.min_eq_right hm]
        refine Or.inr ⟨c.toNat, t.toNat, by omega, by omega, by omega, ?_⟩
        rw [q158, r5, Int.toNat_of_nonneg ic.1, Int.toNat_of_nonneg it.1, Int.toNat_of_nonneg iv5.1, ← eu, e154, ez]
    · rw [show M158 28 (64 * i + v2) = N5 28 (64 * i + v2) by rw [e158]; exact zup_n _ _ (by omega)]
      rcases iP5 v2 hv2 with h | ⟨c2, t2, h0, h1, h2, h3⟩
      · exact Or.inl h
      · exact Or.inr ⟨c2, t2, h0, h1, h2, by rw [q158]; exact h3⟩
