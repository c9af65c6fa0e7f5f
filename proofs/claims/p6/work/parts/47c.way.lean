/-! the ways of the motors, alike -/
def wyS (T S : Nat → Int) : Nat → Int × Int × Int
  | 0 => (0, 0, 1)
  | i + 1 => ((wyS T S i).1 + (T i - (wyS T S i).2.1) * (wyS T S i).2.2, T i, S i)
theorem wyS_cg {T S TR SR : Nat → Int} : ∀ p : Nat, (∀ i : Nat, i < p → T i = TR i ∧ S i = SR i) → wyS T S p = wyS TR SR p
  | 0, _ => rfl
  | p + 1, h => by
    have a := wyS_cg p (fun i hi => h i (by omega))
    have b := h p (by omega)
    show ((wyS T S p).1 + (T p - (wyS T S p).2.1) * (wyS T S p).2.2, T p, S p) = ((wyS TR SR p).1 + (TR p - (wyS TR SR p).2.1) * (wyS TR SR p).2.2, TR p, SR p)
    rw [a, b.1, b.2]
def wayR (n : Int) (T S : Nat → Int) (t z : Int) : Prop := ∃ p : Nat, (p : Int) ≤ n ∧ (∀ i : Nat, i < p → T i < t) ∧ ((p : Int) < n → t ≤ T p) ∧ z = sL ((wyS T S p).1 + (t - (wyS T S p).2.1) * (wyS T S p).2.2)
theorem way_det {n nR t z zR : Int} {T S TR SR : Nat → Int} (h : mo n T S nR TR SR) (P : wayR n T S t z) (R : wayR nR TR SR t zR) : z = zR := by
  obtain ⟨hn, hTS⟩ := h
  obtain ⟨p, p1, p2, p3, p4⟩ := P
  obtain ⟨q, q1, q2, q3, q4⟩ := R
  have e : p = q := by
    rcases Nat.lt_trichotomy p q with c | c | c
    · have a := q2 p c
      have b := p3 (by omega)
      have d := (hTS p (by omega)).1
      omega
    · exact c
    · have a := p2 q c
      have b := q3 (by omega)
      have d := (hTS q (by omega)).1
      omega
  subst e
  rw [p4, q4, wyS_cg p (fun i hi => hTS i (by omega))]
set_option maxHeartbeats 4000000 in
theorem fC_Motor_wayTo {M : zM} {j : Nat} {a0 : Int} (hB : BN wC M) (lt_j : j < nC) (cd_j : zcd wC j = 11) (v0 : -9223372036854775808 ≤ a0 ∧ a0 ≤ 9223372036854775807) {Q : Int → Prop} (hQ : ∀ z : Int, wayR (M j 2) (M (j + 1)) (M (j + 2)) a0 z → Q z) : wC_Motor_wayTo j a0 M Q := by
  unfold wC_Motor_wayTo
  obtain ⟨lt1, cd2, lt3, cd4⟩ := nx_motor j lt_j cd_j
  have bn : 0 ≤ M j 2 ∧ M j 2 ≤ 12 := BN.at hB cd_j rfl
  have sn : sI (M j 2) = M j 2 := sIo (by omega) (by omega)
  have bT : ∀ i, sI (M (j + 1) i) = M (j + 1) i := fun i => by
    have b : 0 ≤ M (j + 1) i ∧ M (j + 1) i ≤ 5000 := BN.at hB cd2 rfl
    exact sIo (by omega) (by omega)
  have bS : ∀ i, -9 ≤ M (j + 2) i ∧ M (j + 2) i ≤ 9 := fun i => BN.at hB cd4 rfl
  have s0 : sL a0 = a0 := sLo v0.1 v0.2
  refine pL4_of (fun x5 x6 x7 x8 => ∃ p : Nat, x8 = p ∧ (p : Int) ≤ M j 2 ∧ (∀ i : Nat, i < p → M (j + 1) i < a0) ∧ x5 = (wyS (M (j + 1)) (M (j + 2)) p).1 ∧ x6 = (wyS (M (j + 1)) (M (j + 2)) p).2.1 ∧ x7 = (wyS (M (j + 1)) (M (j + 2)) p).2.2 ∧ (-9 ≤ x7 ∧ x7 ≤ 9)) (fun _ _ _ x8 => (100 - x8).toNat) ⟨0, rfl, by omega, fun i hi => absurd hi (by omega), rfl, rfl, rfl, by omega⟩ (fun K x5 x6 x7 x8 h k => ?_)
  obtain ⟨p, rfl, h1, h2, h3, h4, h5, h6⟩ := h
  have sp : sI (p : Int) = p := sIo (by omega) (by omega)
  have tp : ((p : Int)).toNat = p := by omega
  have s7 : sI x7 = x7 := sIo (by omega) (by omega)
  simp only [sp, tp, sn, bT, s0, s7]
  refine pJ0_of (M j 2 ≤ p ∨ a0 ≤ M (j + 1) p) (fun hJ => hQ _ ⟨p, h1, h2, fun h => hJ.resolve_left (by omega), by rw [h3, h4, h5]⟩) ⟨fun c => Or.inl c, fun c => ⟨⟨by omega, by omega⟩, fun c2 => Or.inr c2, fun c2 => ⟨⟨by omega, by omega⟩, fun t e => ⟨⟨by omega, by omega⟩, ⟨by omega, by omega⟩, k _ _ _ _ ⟨p + 1, by omega, by omega, fun i hi => ?_, by rw [e, h3, h4, h5]; rfl, rfl, rfl, bS p⟩ (by omega)⟩⟩⟩⟩
  by_cases c3 : i < p
  · exact h2 i c3
  · rw [show i = p by omega]
    exact c2
set_option maxHeartbeats 4000000 in
theorem fR_wayEarly {M : zM} {a0 a1 : Int} (hB : BI M) (v0 : 0 ≤ a0 ∧ a0 ≤ 1) (v1 : -9223372036854775808 ≤ a1 ∧ a1 ≤ 9223372036854775807) {Q : Int → Prop} (hQ : ∀ z : Int, wayR (M 11 a0.toNat) (fun i => M 9 (12 * a0.toNat + i)) (fun i => M 10 (12 * a0.toNat + i)) a1 z → Q z) : wR_wayEarly a0 a1 M Q := by
  unfold wR_wayEarly
  obtain ⟨m, rfl⟩ : ∃ m : Nat, a0 = m := ⟨a0.toNat, by omega⟩
  have sm : sI (m : Int) = m := sIo (by omega) (by omega)
  have tm : ((m : Int)).toNat = m := by omega
  rw [tm] at hQ
  have bn : 0 ≤ M 11 m ∧ M 11 m ≤ 12 := BN.at hB.1 (rfl : zcd wR 11 = 61) rfl
  have sn : sI (M 11 m) = M 11 m := sIo (by omega) (by omega)
  have bT : ∀ i, sI (M 9 i) = M 9 i := fun i => by
    have b : 0 ≤ M 9 i ∧ M 9 i ≤ 5000 := BN.at hB.1 (rfl : zcd wR 9 = 59) rfl
    exact sIo (by omega) (by omega)
  have bS : ∀ i, -9 ≤ M 10 i ∧ M 10 i ≤ 9 := fun i => BN.at hB.1 (rfl : zcd wR 10 = 60) rfl
  have s0 : sL a1 = a1 := sLo v1.1 v1.2
  refine pL4_of (fun x5 x6 x7 x8 => ∃ p : Nat, x8 = p ∧ (p : Int) ≤ M 11 m ∧ (∀ i : Nat, i < p → M 9 (12 * m + i) < a1) ∧ x5 = (wyS (fun i => M 9 (12 * m + i)) (fun i => M 10 (12 * m + i)) p).1 ∧ x6 = (wyS (fun i => M 9 (12 * m + i)) (fun i => M 10 (12 * m + i)) p).2.1 ∧ x7 = (wyS (fun i => M 9 (12 * m + i)) (fun i => M 10 (12 * m + i)) p).2.2 ∧ (-9 ≤ x7 ∧ x7 ≤ 9)) (fun _ _ _ x8 => (100 - x8).toNat) ⟨0, rfl, by omega, fun i hi => absurd hi (by omega), rfl, rfl, rfl, by omega⟩ (fun K x5 x6 x7 x8 h k => ?_)
  obtain ⟨p, rfl, h1, h2, h3, h4, h5, h6⟩ := h
  have sp : sI (p : Int) = p := sIo (by omega) (by omega)
  have s7 : sI x7 = x7 := sIo (by omega) (by omega)
  have ep : sI (12 * (m : Int) + (p : Int)) = 12 * (m : Int) + (p : Int) := sIo (by omega) (by omega)
  have tp : (12 * (m : Int) + (p : Int)).toNat = 12 * m + p := by omega
  simp only [sm, tm, sp, ep, tp, sn, bT, s0, s7]
  refine ⟨⟨by omega, by omega⟩, ?_⟩
  refine pJ0_of (M 11 m ≤ p ∨ a1 ≤ M 9 (12 * m + p)) (fun hJ => hQ _ ⟨p, h1, h2, fun h => hJ.resolve_left (by omega), by rw [h3, h4, h5, Int.mul_comm]⟩) ⟨fun c => Or.inl c, fun c => ⟨⟨by omega, by omega⟩, fun c2 => Or.inr c2, fun c2 => ⟨⟨by omega, by omega⟩, fun t e => ⟨⟨by omega, by omega⟩, ⟨by omega, by omega⟩, k _ _ _ _ ⟨p + 1, by omega, by omega, fun i hi => ?_, by rw [e, h3, h4, h5, Int.mul_comm]; rfl, rfl, rfl, bS _⟩ (by omega)⟩⟩⟩⟩
  by_cases c3 : i < p
  · exact h2 i c3
  · rw [show i = p by omega]
    exact c2
def cWay (a0 a1 : Int) : Prop := (0 ≤ a0 ∧ a0 ≤ 1) ∧ (0 ≤ a1 ∧ a1 ≤ 1000000000)
theorem fC_way {M : zM} {a0 a1 : Int} (hB : BN wC M) (v0 : -2147483648 ≤ a0 ∧ a0 ≤ 2147483647) (v1 : -2147483648 ≤ a1 ∧ a1 ≤ 2147483647) {Q : Int → Prop} {X : Prop} (hX : ¬ cWay a0 a1 → X) (hQ : ∀ z : Int, cWay a0 a1 ∧ ((a0 = 0 ∧ wayR (M 35 2) (M 36) (M 37) a1 z) ∨ (a0 = 1 ∧ wayR (M 38 2) (M 39) (M 40) a1 z)) → Q z) : wC_way a0 a1 M Q X := by
  unfold wC_way
  refine sC_isMotor hB v0 (fun z p => ?_)
  obtain ⟨-, p1, -⟩ := p
  refine ⟨fun c => hX (fun h => by unfold cWay at h; omega), fun c => ?_⟩
  refine sC_within hB v1 (by omega) (by omega) (fun z2 p => ?_)
  obtain ⟨-, p2, -⟩ := p
  refine ⟨fun c2 => ?_, fun c => hX (fun h => by unfold cWay at h; omega)⟩
  refine sC_Studio_motorOf hB v0 (fun q hq => ?_)
  obtain ⟨⟨lt, cd⟩, hq⟩ := hq
  refine ⟨q, rfl, ⟨lt, cd⟩, ?_⟩
  rw [sIo v1.1 v1.2]
  refine fC_Motor_wayTo hB lt cd (by omega) (fun z9 h => ?_)
  rcases hq with ⟨rfl, h0⟩ | ⟨rfl, h0⟩
  · exact hQ _ ⟨⟨by omega, by omega⟩, Or.inl ⟨h0, h⟩⟩
  · exact hQ _ ⟨⟨by omega, by omega⟩, Or.inr ⟨by omega, h⟩⟩
theorem fR_way {M : zM} {a0 a1 : Int} (hB : BI M) (v0 : -2147483648 ≤ a0 ∧ a0 ≤ 2147483647) (v1 : -2147483648 ≤ a1 ∧ a1 ≤ 2147483647) {Q : Int → zM → Prop} (hQ : ∀ (z : Int) (M1 : zM), BI M1 ∧ (∀ j9 k9 : Nat, ¬ (j9 = 0 ∧ k9 = 35) → M1 j9 k9 = M j9 k9) ∧ ((cWay a0 a1 ∧ wayR (M 11 a0.toNat) (fun i => M 9 (12 * a0.toNat + i)) (fun i => M 10 (12 * a0.toNat + i)) a1 z ∧ M1 0 35 = 0) ∨ (¬ cWay a0 a1 ∧ M1 0 35 = 1)) → Q z M1) : wR_way a0 a1 M Q := by
  unfold wR_way
  intro M1 e1
  have hB1 : BI M1 := by rw [e1]; exact BI.up0 hB rfl (by omega) (by omega) (by decide)
  have hF1 : ∀ j9 k9 : Nat, ¬ (j9 = 0 ∧ k9 = 35) → M1 j9 k9 = M j9 k9 := fun j9 k9 h9 => by rw [e1]; exact zup_n _ _ (by omega)
  have r9 : M1 9 = M 9 := by rw [e1]; exact zup_row _ _ (by omega)
  have r10 : M1 10 = M 10 := by rw [e1]; exact zup_row _ _ (by omega)
  have r11 : M1 11 = M 11 := by rw [e1]; exact zup_row _ _ (by omega)
  have no : ¬ cWay a0 a1 → ∀ M8 : zM, M8 = zup M1 0 35 1 → Q 0 M8 := fun hn M8 e8 => hQ _ _ ⟨by rw [e8]; exact BI.up0 hB1 rfl (by omega) (by omega) (by decide), fun j9 k9 h9 => by rw [e8, zup_n _ _ (by omega)]; exact hF1 j9 k9 h9, Or.inr ⟨hn, by rw [e8]; exact zup_s _ _ _ _⟩⟩
  refine sR_isMotor hB1 v0 (fun z p => ?_)
  obtain ⟨-, p1, -⟩ := p
  refine ⟨fun c => no (fun h => by unfold cWay at h; omega), fun c => ?_⟩
  refine sR_in hB1 v1 (by omega) (by omega) (fun z2 p => ?_)
  obtain ⟨-, p2, -⟩ := p
  refine ⟨fun c2 => ?_, fun c => no (fun h => by unfold cWay at h; omega)⟩
  rw [sIo v1.1 v1.2]
  refine fR_wayEarly hB1 (by omega) (by omega) (fun z9 h => ?_)
  rw [r9, r10, r11] at h
  exact hQ _ _ ⟨hB1, hF1, Or.inl ⟨⟨by omega, by omega⟩, h, by rw [e1]; exact zup_s _ _ _ _⟩⟩
theorem way_step {A B C D E F R9 R10 R11 : Nat → Int} {a0 a1 z z9 : Int} (h : iMo A B C D E F R9 R10 R11) (p : cWay a0 a1 ∧ ((a0 = 0 ∧ wayR (A 2) B C a1 z) ∨ (a0 = 1 ∧ wayR (D 2) E F a1 z))) (q : wayR (R11 a0.toNat) (fun i => R9 (12 * a0.toNat + i)) (fun i => R10 (12 * a0.toNat + i)) a1 z9) : z = z9 := by
  obtain ⟨g1, g2⟩ := h
  obtain ⟨-, ⟨rfl, p⟩ | ⟨rfl, p⟩⟩ := p
  · exact way_det g1 p q
  · exact way_det g2 p q
