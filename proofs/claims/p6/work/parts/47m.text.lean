/-! the text is alike: four signs of a number -/
theorem bu_and (y : Int) : andI y 255 = (((iI y).toBitVec.toNat % 256 : Nat) : Int) := by
  unfold andI
  refine i32_nat ?_ (by omega)
  rw [Int32.toBitVec_and, BitVec.toNat_and, show (iI 255).toBitVec.toNat = 2 ^ 8 - 1 by decide, Nat.and_two_pow_sub_one_eq_mod]
theorem bu_b8 (y : Int) : bU (b8I y) = (((iI y).toBitVec.toNat % 256 : Nat) : Int) := by
  have e : b8I y = ((iI y).toBitVec.setWidth 8).toInt := by
    unfold b8I
    rw [Int8.toInt_toInt32]
    show (iI y).toInt8.toBitVec.toInt = _
    rw [Int32.toBitVec_toInt8, BitVec.signExtend_eq_setWidth_of_le _ (by decide)]
  have h1 : ((iI y).toBitVec.setWidth 8).toNat = (iI y).toBitVec.toNat % 256 := BitVec.toNat_setWidth 8 _
  have h2 := ((iI y).toBitVec.setWidth 8).isLt
  unfold bU
  rw [e, BitVec.toInt_eq_toNat_cond]
  by_cases c : 2 * ((iI y).toBitVec.setWidth 8).toNat < 2 ^ 8
  · rw [if_pos c, if_neg (by omega), h1]
  · rw [if_neg c, if_pos (by omega)]
    omega
theorem bu_ushr (v : Int) : (iI (ushrI v 24)).toBitVec.toNat = (iI v).toBitVec.toNat / 2 ^ 24 ∧ (iI (ushrI v 16)).toBitVec.toNat = (iI v).toBitVec.toNat / 2 ^ 16 ∧ (iI (ushrI v 8)).toBitVec.toNat = (iI v).toBitVec.toNat / 2 ^ 8 ∧ (iI (ushrI v 0)).toBitVec.toNat = (iI v).toBitVec.toNat := by
  unfold ushrI
  rw [iI_e, iI_e, iI_e, iI_e]
  have e : ∀ (K : UInt32), ((iI v).toUInt32 >>> K).toInt32.toBitVec.toNat = (iI v).toBitVec.toNat >>> (K.toBitVec % 32#32).toNat := fun K => rfl
  refine ⟨?_, ?_, ?_, ?_⟩
  · rw [e, show (((iI 24).toUInt32 &&& Int32.toUInt32 31).toBitVec % 32#32).toNat = 24 by decide, Nat.shiftRight_eq_div_pow]
  · rw [e, show (((iI 16).toUInt32 &&& Int32.toUInt32 31).toBitVec % 32#32).toNat = 16 by decide, Nat.shiftRight_eq_div_pow]
  · rw [e, show (((iI 8).toUInt32 &&& Int32.toUInt32 31).toBitVec % 32#32).toNat = 8 by decide, Nat.shiftRight_eq_div_pow]
  · rw [e, show (((iI 0).toUInt32 &&& Int32.toUInt32 31).toBitVec % 32#32).toNat = 0 by decide, Nat.shiftRight_zero]
theorem bu_shr (v : Int) : (iI (shrI v 24)).toBitVec.toNat % 256 = (iI v).toBitVec.toNat / 2 ^ 24 % 256 ∧ (iI (shrI v 16)).toBitVec.toNat % 256 = (iI v).toBitVec.toNat / 2 ^ 16 % 256 ∧ (iI (shrI v 8)).toBitVec.toNat % 256 = (iI v).toBitVec.toNat / 2 ^ 8 % 256 := by
  have hl := (iI v).toBitVec.isLt
  have e : ∀ (y : Int), (iI (shrI v y)).toBitVec = (iI v).toBitVec.sshiftRight' (((iI y) &&& 31).toBitVec.smod 32) := fun y => by
    unfold shrI
    rw [iI_e, Int32.toBitVec_shiftRight]
  refine ⟨?_, ?_, ?_⟩
  · rw [e, BitVec.toNat_sshiftRight', show (((iI 24) &&& 31).toBitVec.smod 32).toNat = 24 by decide, Nat.shiftRight_eq_div_pow, Nat.shiftRight_eq_div_pow]
    split <;> omega
  · rw [e, BitVec.toNat_sshiftRight', show (((iI 16) &&& 31).toBitVec.smod 32).toNat = 16 by decide, Nat.shiftRight_eq_div_pow, Nat.shiftRight_eq_div_pow]
    split <;> omega
  · rw [e, BitVec.toNat_sshiftRight', show (((iI 8) &&& 31).toBitVec.smod 32).toNat = 8 by decide, Nat.shiftRight_eq_div_pow, Nat.shiftRight_eq_div_pow]
    split <;> omega
def by4 (v : Int) (q : Nat) : Int := if q = 0 then b8I (shrI v 24) else if q = 1 then b8I (shrI v 16) else if q = 2 then b8I (shrI v 8) else b8I v
theorem by4_e (v : Int) (q : Nat) (h : q < 4) : andI (ushrI v ((24 - 8 * q : Nat) : Int)) 255 = bU (by4 v q) := by
  have u := bu_ushr v
  have s := bu_shr v
  rw [bu_and]
  rcases (by omega : q = 0 ∨ q = 1 ∨ q = 2 ∨ q = 3) with rfl | rfl | rfl | rfl
  · show (((iI (ushrI v 24)).toBitVec.toNat % 256 : Nat) : Int) = bU (b8I (shrI v 24))
    rw [bu_b8, u.1, s.1]
  · show (((iI (ushrI v 16)).toBitVec.toNat % 256 : Nat) : Int) = bU (b8I (shrI v 16))
    rw [bu_b8, u.2.1, s.2.1]
  · show (((iI (ushrI v 8)).toBitVec.toNat % 256 : Nat) : Int) = bU (b8I (shrI v 8))
    rw [bu_b8, u.2.2.1, s.2.2]
  · show (((iI (ushrI v 0)).toBitVec.toNat % 256 : Nat) : Int) = bU (b8I v)
    rw [bu_b8, u.2.2.2]
set_option maxHeartbeats 1000000 in
theorem fC_sign {M : zM} {a0 : Int} (hB : BN wC M) (v0 : (-2147483648) ≤ a0 ∧ a0 ≤ 2147483647) {Q : Int → zM → Prop} (hQ : ∀ (z : Int) (M1 : zM), BN wC M1 ∧ (∀ j9 : Nat, ¬ (1 ≤ j9 ∧ j9 ≤ 29) → M1 j9 = M j9) ∧ ((-2147483648) ≤ z ∧ z ≤ 2147483647) ∧ ((M 1 1 ≤ 96 ∧ z = M 1 1 + 4 ∧ M1 1 1 = M 1 1 + 4) ∨ (96 < M 1 1 ∧ z = -1 ∧ M1 1 1 = M 1 1)) ∧ (∀ i : Nat, (i : Int) < M 1 1 → M1 2 i = M 2 i) ∧ (M 1 1 ≤ 96 → ∀ q : Nat, q < 4 → M1 2 ((M 1 1).toNat + q) = andI (ushrI a0 ((24 - 8 * q : Nat) : Int)) 255) → Q z M1) : wC_sign a0 M Q := by
  unfold wC_sign wC_Splicer_add
  have bn : 0 ≤ M 1 1 ∧ M 1 1 ≤ 100 := BN.at hB (rfl : zcd wC 1 = 1) rfl
  have s4 : sI (M 1 1 + 4) = M 1 1 + 4 := sIo (by omega) (by omega)
  rw [s4]
  refine ⟨fun c => ?_, fun c => hQ _ _ ⟨hB, fun _ _ => rfl, by omega, by omega, fun _ _ => rfl, fun h => by omega⟩⟩
  refine wL1_of (fun x M2 => BN wC M2 ∧ (∀ j9 : Nat, ¬ (1 ≤ j9 ∧ j9 ≤ 29) → M2 j9 = M j9) ∧ (∀ i : Nat, (i : Int) < M 1 1 → M2 2 i = M 2 i) ∧ ∃ q : Nat, x = 24 - 8 * (q : Int) ∧ q ≤ 4 ∧ M2 1 1 = M 1 1 + (q : Int) ∧ ∀ p : Nat, p < q → M2 2 ((M 1 1).toNat + p) = andI (ushrI a0 ((24 - 8 * p : Nat) : Int)) 255) (fun x _ => (x + 100).toNat) ⟨hB, fun _ _ => rfl, fun _ _ => rfl, 0, rfl, by omega, by omega, fun p hp => absurd hp (Nat.not_lt_zero p)⟩ (fun K x M2 h k => ?_)
  obtain ⟨b2, f2, o2, q, rfl, q4, n2, hv⟩ := h
  have sx : sI (24 - 8 * (q : Int)) = 24 - 8 * (q : Int) := sIo (by omega) (by omega)
  have sn : sI (M2 1 1) = M2 1 1 := sIo (by omega) (by omega)
  have tn : (M2 1 1).toNat = (M 1 1).toNat + q := by omega
  rw [sx, sn, tn]
  refine ⟨fun c2 => hQ _ _ ⟨b2, f2, by omega, by omega, o2, fun _ p hp => hv p (by omega)⟩, fun c2 => ⟨by omega, fun M3 e3 => fun M4 e4 => ?_⟩⟩
  have hb := andI_br (ushrI a0 (24 - 8 * (q : Int))) (c := 255) (by decide) (by decide)
  have b3 : BN wC M3 := by rw [e3]; exact BN.up b2 (rfl : zcd wC 2 = 2) rfl hb.1 hb.2
  have n3 : M3 1 1 = M 1 1 + (q : Int) := by rw [e3, zup_n _ _ (by omega)]; exact n2
  refine k _ _ ⟨by rw [e4]; exact BN.up b3 (rfl : zcd wC 1 = 1) rfl (by omega) (by omega), fun j9 h9 => by rw [e4, zup_row _ _ (by omega), e3, zup_row _ _ (by omega)]; exact f2 j9 h9, fun i hi => by rw [e4, zup_n _ _ (by omega), e3, zup_n _ _ (by omega)]; exact o2 i hi, q + 1, by omega, by omega, by rw [e4, zup_s, n3]; omega, fun p hp => ?_⟩ (by omega)
  rw [e4, zup_n _ _ (by omega), e3]
  by_cases c5 : p = q
  · rw [c5, zup_s, show (24 - 8 * (q : Int)) = ((24 - 8 * q : Nat) : Int) by omega]
  · rw [zup_n _ _ (by omega)]
    exact hv p (by omega)
set_option maxHeartbeats 1000000 in
theorem fR_sign {M : zM} {a0 : Int} (hB : BI M) (v0 : (-2147483648) ≤ a0 ∧ a0 ≤ 2147483647) {Q : Int → zM → Prop} (hQ : ∀ (z : Int) (M1 : zM), BI M1 ∧ (∀ j9 k9 : Nat, ¬ (j9 = 0 ∧ k9 = 35 ∨ j9 = 0 ∧ k9 = 1 ∨ j9 = 1) → M1 j9 k9 = M j9 k9) ∧ ((-2147483648) ≤ z ∧ z ≤ 2147483647) ∧ ((M 0 1 ≤ 96 ∧ z = M 0 1 + 4 ∧ M1 0 1 = M 0 1 + 4) ∨ (96 < M 0 1 ∧ z = -1 ∧ M1 0 1 = M 0 1)) ∧ (∀ i : Nat, (i : Int) < M 0 1 → M1 1 i = M 1 i) ∧ (M 0 1 ≤ 96 → ∀ q : Nat, q < 4 → M1 1 ((M 0 1).toNat + q) = by4 a0 q) → Q z M1) : wR_sign a0 M Q := by
  unfold wR_sign
  intro M1 e1
  have hB1 : BI M1 := by rw [e1]; exact BI.up0 hB rfl (by omega) (by omega) (by decide)
  have n1 : M1 0 1 = M 0 1 := by rw [e1, zup_n _ _ (by omega)]
  have bn : 0 ≤ M 0 1 ∧ M 0 1 ≤ 100 := BN.at hB.1 (rfl : zcd wR 0 = 50) rfl
  have s4 : sI (M 0 1 + 4) = M 0 1 + 4 := sIo (by omega) (by omega)
  have s0 : sI (M 0 1) = M 0 1 := sIo (by omega) (by omega)
  rw [n1, s4, s0]
  refine ⟨fun c => ?_, fun c => hQ _ _ ⟨hB1, fun j9 k9 h9 => by rw [e1, zup_n _ _ (by omega)], by omega, Or.inr ⟨by omega, rfl, n1⟩, fun i hi => by rw [e1, zup_n _ _ (by omega)], fun h => by omega⟩⟩
  refine ⟨by omega, fun M5 e5 => ?_⟩
  have n5 : M5 0 1 = M 0 1 := by rw [e5, zup_n _ _ (by omega)]; exact n1
  have d1 : sI (M 0 1 + 1) = M 0 1 + 1 := sIo (by omega) (by omega)
  have d2 : sI (M 0 1 + 2) = M 0 1 + 2 := sIo (by omega) (by omega)
  have d3 : sI (M 0 1 + 3) = M 0 1 + 3 := sIo (by omega) (by omega)
  have t1 : (M 0 1 + 1).toNat = (M 0 1).toNat + 1 := by omega
  have t2 : (M 0 1 + 2).toNat = (M 0 1).toNat + 2 := by omega
  have t3 : (M 0 1 + 3).toNat = (M 0 1).toNat + 3 := by omega
  rw [n5, d1, t1]
  refine ⟨by omega, fun M8 e8 => ?_⟩
  have n8 : M8 0 1 = M 0 1 := by rw [e8, zup_n _ _ (by omega)]; exact n5
  rw [n8, d2, t2]
  refine ⟨by omega, fun M11 e11 => ?_⟩
  have n11 : M11 0 1 = M 0 1 := by rw [e11, zup_n _ _ (by omega)]; exact n8
  rw [n11, d3, t3]
  refine ⟨by omega, fun M14 e14 => fun M16 e16 => ?_⟩
  have n14 : M14 0 1 = M 0 1 := by rw [e14, zup_n _ _ (by omega)]; exact n11
  have n16 : M16 0 1 = M 0 1 + 4 := by rw [e16, zup_s, n14]
  have g1 := b8I_in (shrI a0 24)
  have g2 := b8I_in (shrI a0 16)
  have g3 := b8I_in (shrI a0 8)
  have g4 := b8I_in a0
  have b5 : BI M5 := by rw [e5]; exact BI.up hB1 (rfl : zcd wR 1 = 51) rfl g1.1 g1.2 (by decide)
  have b8 : BI M8 := by rw [e8]; exact BI.up b5 (rfl : zcd wR 1 = 51) rfl g2.1 g2.2 (by decide)
  have b11 : BI M11 := by rw [e11]; exact BI.up b8 (rfl : zcd wR 1 = 51) rfl g3.1 g3.2 (by decide)
  have b14 : BI M14 := by rw [e14]; exact BI.up b11 (rfl : zcd wR 1 = 51) rfl g4.1 g4.2 (by decide)
  have b16 : BI M16 := by rw [e16]; exact BI.up0 b14 (rfl : cbt 50 1 = (0, 100)) (by omega) (by omega) (by decide)
  rw [n16, s4]
  refine hQ _ _ ⟨b16, fun j9 k9 h9 => by rw [e16, zup_n _ _ (by omega), e14, zup_n _ _ (by omega), e11, zup_n _ _ (by omega), e8, zup_n _ _ (by omega), e5, zup_n _ _ (by omega), e1, zup_n _ _ (by omega)], by omega, Or.inl ⟨by omega, rfl, n16⟩, fun i hi => by rw [e16, zup_n _ _ (by omega), e14, zup_n _ _ (by omega), e11, zup_n _ _ (by omega), e8, zup_n _ _ (by omega), e5, zup_n _ _ (by omega), e1, zup_n _ _ (by omega)], fun _ q hq => ?_⟩
  unfold by4
  rcases (by omega : q = 0 ∨ q = 1 ∨ q = 2 ∨ q = 3) with rfl | rfl | rfl | rfl
  · rw [if_pos rfl, e16, zup_n _ _ (by omega), e14, zup_n _ _ (by omega), e11, zup_n _ _ (by omega), e8, zup_n _ _ (by omega), e5, Nat.add_zero, zup_s]
  · rw [if_neg (by omega), if_pos rfl, e16, zup_n _ _ (by omega), e14, zup_n _ _ (by omega), e11, zup_n _ _ (by omega), e8, zup_s]
  · rw [if_neg (by omega), if_neg (by omega), if_pos rfl, e16, zup_n _ _ (by omega), e14, zup_n _ _ (by omega), e11, zup_s]
  · rw [if_neg (by omega), if_neg (by omega), if_neg (by omega), e16, zup_n _ _ (by omega), e14, zup_s]
theorem fC_end {M : zM} {a0 : Int} (hB : BN wC M) (v0 : (-2147483648) ≤ a0 ∧ a0 ≤ 2147483647) {Q : Int → zM → Prop} (hQ : ∀ (z : Int) (M1 : zM), BN wC M1 ∧ (∀ j9 : Nat, ¬ (j9 = 1) → M1 j9 = M j9) ∧ (0 ≤ z ∧ z ≤ 1) ∧ ((0 ≤ a0 ∧ a0 ≤ M 1 1 ∧ z = 1 ∧ M1 1 1 = a0) ∨ ((a0 < 0 ∨ M 1 1 < a0) ∧ z = 0 ∧ M1 1 1 = M 1 1)) ∧ True → Q z M1) : wC_end a0 M Q := by
  unfold wC_end wC_Splicer_keepFirst
  have bn : 0 ≤ M 1 1 ∧ M 1 1 ≤ 100 := BN.at hB (rfl : zcd wC 1 = 1) rfl
  have s0 : sI a0 = a0 := sIo v0.1 v0.2
  have sn : sI (M 1 1) = M 1 1 := sIo (by omega) (by omega)
  rw [s0, sn]
  refine ⟨fun c => hQ _ _ ⟨hB, fun _ _ => rfl, by omega, by omega, trivial⟩, fun c => ⟨fun c2 => fun M3 e3 => ?_, fun c2 => hQ _ _ ⟨hB, fun _ _ => rfl, by omega, by omega, trivial⟩⟩⟩
  exact hQ _ _ ⟨by rw [e3]; exact BN.up hB (rfl : zcd wC 1 = 1) rfl (by omega) (by omega), fun j9 h9 => by rw [e3, zup_row _ _ h9], by omega, Or.inl ⟨c, c2, rfl, by rw [e3, zup_s]⟩, trivial⟩
theorem tx_sign {MC MR M8 M9 : zM} {a0 : Int} (hC : 0 ≤ MC 1 1) (h : iTx MC MR) (p : ((MC 1 1 ≤ 96 ∧ M8 1 1 = MC 1 1 + 4) ∨ (96 < MC 1 1 ∧ M8 1 1 = MC 1 1)) ∧ (∀ i : Nat, (i : Int) < MC 1 1 → M8 2 i = MC 2 i) ∧ (MC 1 1 ≤ 96 → ∀ q : Nat, q < 4 → M8 2 ((MC 1 1).toNat + q) = andI (ushrI a0 ((24 - 8 * q : Nat) : Int)) 255)) (e : M8 1 1 = M9 0 1) (q : (∀ i : Nat, (i : Int) < MR 0 1 → M9 1 i = MR 1 i) ∧ (MR 0 1 ≤ 96 → ∀ q : Nat, q < 4 → M9 1 ((MR 0 1).toNat + q) = by4 a0 q)) : iTx M8 M9 := by
  obtain ⟨x1, x2⟩ := h
  obtain ⟨p1, p2, p3⟩ := p
  obtain ⟨q2, q3⟩ := q
  refine ⟨e, fun i hi => ?_⟩
  by_cases c : (i : Int) < MC 1 1
  · rw [p2 i c, q2 i (by omega)]
    exact x2 i c
  · have hi4 : i - (MC 1 1).toNat < 4 := by omega
    have a := p3 (by omega) (i - (MC 1 1).toNat) hi4
    have b := q3 (by omega) (i - (MC 1 1).toNat) hi4
    rw [show (MC 1 1).toNat + (i - (MC 1 1).toNat) = i by omega] at a
    rw [show (MR 0 1).toNat + (i - (MC 1 1).toNat) = i by omega] at b
    rw [a, b]
    exact by4_e a0 _ hi4
theorem tx_less {MC MR M8 M9 : zM} (h : iTx MC MR) (e : M8 1 1 = M9 0 1) (hl : M8 1 1 ≤ MC 1 1) (p : M8 2 = MC 2) (q : M9 1 = MR 1) : iTx M8 M9 := ⟨e, fun i hi => by rw [p, q]; exact h.2 i (by omega)⟩
