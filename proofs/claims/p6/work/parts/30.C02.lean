/-! safety of the class, 2 -/
set_option maxHeartbeats 4000000 in
set_option maxRecDepth 100000 in
theorem sC_Motor_round {M : zM} {j : Nat} {a0 : Int} (hB : BN wC M) (lt_j : j < nC) (cd_j : zcd wC j = 11) (v0 : 0 ≤ a0 ∧ a0 ≤ 24) {Q : Int → Prop} (hQ : ∀ (z : Int), (0 ≤ z ∧ z ≤ 24) ∧ True → Q z) : wC_Motor_round j a0 M Q := by
  unfold wC_Motor_round
  obtain ⟨lt1, cd2, lt3, cd4⟩ := nx_motor j lt_j cd_j
  refine sC_Motor_lastSpeed hB lt_j cd_j (fun z5  h6 => ?_)
  obtain ⟨p7, -⟩ := h6
  refine sC_withoutShared hB (by omega) (by omega) (fun z8  h9 => ?_)
  obtain ⟨p10, p11, -⟩ := h9
  exact hQ _ ⟨(by omega), trivial⟩
set_option maxHeartbeats 4000000 in
set_option maxRecDepth 100000 in
theorem sC_Studio_roundOf {M : zM} {a0 : Nat} (hB : BN wC M) (lt_a0 : a0 < nC) (cd_a0 : zcd wC a0 = 14) {Q : Int → Prop} (hQ : ∀ (z : Int), (0 ≤ z ∧ z ≤ 24) ∧ True → Q z) : wC_Studio_roundOf a0 M Q := by
  unfold wC_Studio_roundOf
  obtain ⟨lt1, cd2, lt3, cd4, lt5, cd6⟩ := nx_ring a0 lt_a0 cd_a0
  have q7 : 0 ≤ (M a0 1) ∧ (M a0 1) ≤ 1 := BN.at hB cd_a0 rfl
  refine sC_Studio_motorOf hB (by omega) (fun q8 h9 => ?_)
  obtain ⟨⟨lt10, cd11⟩, h9⟩ := h9
  refine ⟨q8, rfl, ⟨lt10, cd11⟩, ?_⟩
  obtain ⟨lt12, cd13, lt14, cd15⟩ := nx_motor q8 lt10 cd11
  have q16 : 0 ≤ (M (a0 + 1) 1) ∧ (M (a0 + 1) 1) ≤ 24 := BN.at hB cd2 rfl
  refine sC_Motor_round hB lt10 cd11 (by omega) (fun z17  h18 => ?_)
  obtain ⟨p19, -⟩ := h18
  exact hQ _ ⟨(by omega), trivial⟩
set_option maxHeartbeats 4000000 in
set_option maxRecDepth 100000 in
theorem sC_of {M : zM} {a0 : Int} {a1 : Int} (hB : BN wC M) (v0 : (-2147483648) ≤ a0 ∧ a0 ≤ 2147483647) (v1 : (-2147483648) ≤ a1 ∧ a1 ≤ 2147483647) {Q : Int → Prop} {X : Prop} (hX : X) (hQ : ∀ (z : Int), ((-2147483648) ≤ z ∧ z ≤ 2147483647) ∧ True → Q z) : wC_of a0 a1 M Q X := by
  unfold wC_of
  refine sC_Studio_find hB (by omega) (fun h2 => ?_) (fun q1 h2 => ?_)
  · skip
    refine ⟨fun _ => ?_, fun q9 h9 => nomatch h9⟩
    exact hX
  · skip
    refine ⟨(fun h9 => nomatch h9), fun q9 h9 => ?_⟩
    obtain rfl := Option.some.inj h9
    obtain ⟨⟨lt3, cd4⟩, h2⟩ := h2
    refine ⟨⟨lt3, cd4⟩, ?_⟩
    obtain ⟨lt5, cd6, lt7, cd8, lt9, cd10⟩ := nx_ring q1 lt3 cd4
    have s11 : sI a1 = a1 := sIo (by omega) (by omega)
    refine ⟨fun c12 => ?_, fun c12 => ?_⟩
    · skip
      have q13 : 0 ≤ (M (q1 + 1) 1) ∧ (M (q1 + 1) 1) ≤ 24 := BN.at hB cd6 rfl
      have s14 : sI (M (q1 + 1) 1) = (M (q1 + 1) 1) := sIo (by omega) (by omega)
      exact hQ _ ⟨(by omega), trivial⟩
    refine ⟨fun c15 => ?_, fun c15 => ?_⟩
    · skip
      have q16 : 0 ≤ (M q1 1) ∧ (M q1 1) ≤ 1 := BN.at hB cd4 rfl
      have s17 : sI (M q1 1) = (M q1 1) := sIo (by omega) (by omega)
      exact hQ _ ⟨(by omega), trivial⟩
    refine ⟨fun c18 => ?_, fun c18 => ?_⟩
    · skip
      have q19 : 0 ≤ (M q1 2) ∧ (M q1 2) ≤ 23 := BN.at hB cd4 rfl
      have s20 : sI (M q1 2) = (M q1 2) := sIo (by omega) (by omega)
      exact hQ _ ⟨(by omega), trivial⟩
    refine ⟨fun c21 => ?_, fun c21 => ?_⟩
    · skip
      have q22 : (-2147483648) ≤ (M q1 3) ∧ (M q1 3) ≤ 2147483647 := BN.at hB cd4 rfl
      have s23 : sI (M q1 3) = (M q1 3) := sIo (by omega) (by omega)
      exact hQ _ ⟨(by omega), trivial⟩
    refine ⟨fun c24 => ?_, fun c24 => ?_⟩
    · skip
      refine sC_Studio_roundOf hB lt3 cd4 (fun z25  h26 => ?_)
      obtain ⟨p27, -⟩ := h26
      exact hQ _ ⟨(by omega), trivial⟩
    refine ⟨fun c28 => ?_, fun c28 => ?_⟩
    · skip
      have q29 : (-2147483648) ≤ (M q1 4) ∧ (M q1 4) ≤ 2147483647 := BN.at hB cd4 rfl
      have s30 : sI (M q1 4) = (M q1 4) := sIo (by omega) (by omega)
      exact hQ _ ⟨(by omega), trivial⟩
    exact hX
set_option maxHeartbeats 4000000 in
set_option maxRecDepth 100000 in
theorem sC_inch {M : zM} {a0 : Int} {a1 : Int} (hB : BN wC M) (v0 : (-2147483648) ≤ a0 ∧ a0 ≤ 2147483647) (v1 : (-2147483648) ≤ a1 ∧ a1 ≤ 2147483647) {Q : Int → Prop} (hQ : ∀ (z : Int), ((-2147483648) ≤ z ∧ z ≤ 2147483647) ∧ True → Q z) : wC_inch a0 a1 M Q := by
  unfold wC_inch
  refine sC_Studio_find hB (by omega) (fun h2 => ?_) (fun q1 h2 => ?_)
  · skip
    refine ⟨fun _ => ?_, fun q9 h9 => nomatch h9⟩
    exact hQ _ ⟨(by omega), trivial⟩
  · skip
    refine ⟨(fun h9 => nomatch h9), fun q9 h9 => ?_⟩
    obtain rfl := Option.some.inj h9
    obtain ⟨⟨lt3, cd4⟩, h2⟩ := h2
    refine ⟨⟨lt3, cd4⟩, ?_⟩
    obtain ⟨lt5, cd6, lt7, cd8, lt9, cd10⟩ := nx_ring q1 lt3 cd4
    refine sC_Strip_at hB lt5 cd6 (by omega) (fun z11  h12 => ?_)
    obtain ⟨p13, -⟩ := h12
    exact hQ _ ⟨(by omega), trivial⟩
set_option maxHeartbeats 4000000 in
set_option maxRecDepth 100000 in
theorem sC_Motor_wayTo {M : zM} {j : Nat} {a0 : Int} (hB : BN wC M) (lt_j : j < nC) (cd_j : zcd wC j = 11) {Q : Int → Prop} (hQ : ∀ (z : Int), ((-9223372036854775808) ≤ z ∧ z ≤ 9223372036854775807) ∧ True → Q z) : wC_Motor_wayTo j a0 M Q := by
  unfold wC_Motor_wayTo
  obtain ⟨lt1, cd2, lt3, cd4⟩ := nx_motor j lt_j cd_j
  refine pL4_of (fun x5 x6 x7 x8 => (0 ≤ x8 ∧ x8 ≤ 1000000) ∧ True) (fun x5 x6 x7 x8 => (1000000 - x8).toNat) ⟨(by omega), trivial⟩ (fun K x5 x6 x7 x8 h10 k11 => ?_)
  obtain ⟨i9, -⟩ := h10
  have q12 : 0 ≤ (M j 2) ∧ (M j 2) ≤ 12 := BN.at hB cd_j rfl
  have s13 : sI x8 = x8 := sIo (by omega) (by omega)
  have s14 : sI (M j 2) = (M j 2) := sIo (by omega) (by omega)
  refine pJ0_dup ?_
  refine ⟨fun c15 => ?_, fun c15 => ?_⟩
  · skip
    have s16 := sI_R x7
    have s17 := sL_R (x5 + ((a0 - x6) * (sI x7)))
    exact hQ _ ⟨(by omega), trivial⟩
  · skip
    have o18 : 0 ≤ (sI x8) ∧ (sI x8) < 12 := by omega
    refine ⟨o18, ?_⟩
    have q19 : 0 ≤ (M (j + 1) (sI x8).toNat) ∧ (M (j + 1) (sI x8).toNat) ≤ 5000 := BN.at hB cd2 rfl
    have s20 : sI (M (j + 1) (sI x8).toNat) = (M (j + 1) (sI x8).toNat) := sIo (by omega) (by omega)
    have s21 := sL_R a0
    refine ⟨fun c22 => ?_, fun c22 => ?_⟩
    · skip
      have s23 := sI_R x7
      have s24 := sL_R (x5 + ((a0 - x6) * (sI x7)))
      exact hQ _ ⟨(by omega), trivial⟩
    · skip
      have o25 : 0 ≤ (sI x8) ∧ (sI x8) < 12 := by omega
      refine ⟨o25, ?_⟩
      have s27 := sI_R x7
      intro t28 e29
      have o30 : 0 ≤ (sI x8) ∧ (sI x8) < 12 := by omega
      refine ⟨o30, ?_⟩
      have o32 : 0 ≤ (sI x8) ∧ (sI x8) < 12 := by omega
      refine ⟨o32, ?_⟩
      have q33 : (-9) ≤ (M (j + 2) (sI x8).toNat) ∧ (M (j + 2) (sI x8).toNat) ≤ 9 := BN.at hB cd4 rfl
      exact k11 _ _ _ _ ⟨(by omega), trivial⟩ (by omega)
set_option maxHeartbeats 4000000 in
set_option maxRecDepth 100000 in
theorem sC_way {M : zM} {a0 : Int} {a1 : Int} (hB : BN wC M) (v0 : (-2147483648) ≤ a0 ∧ a0 ≤ 2147483647) (v1 : (-2147483648) ≤ a1 ∧ a1 ≤ 2147483647) {Q : Int → Prop} {X : Prop} (hX : X) (hQ : ∀ (z : Int), ((-9223372036854775808) ≤ z ∧ z ≤ 9223372036854775807) ∧ True → Q z) : wC_way a0 a1 M Q X := by
  unfold wC_way
  refine sC_isMotor hB (by omega) (fun z1  h2 => ?_)
  obtain ⟨p3, p4, -⟩ := h2
  refine ⟨fun c5 => ?_, fun c5 => ?_⟩
  · skip
    exact hX
  · skip
    refine sC_within hB (by omega) (by omega) (by omega) (fun z6  h7 => ?_)
    obtain ⟨p8, p9, -⟩ := h7
    refine ⟨fun c10 => ?_, fun c10 => ?_⟩
    · skip
      refine sC_Studio_motorOf hB (by omega) (fun q11 h12 => ?_)
      obtain ⟨⟨lt13, cd14⟩, h12⟩ := h12
      refine ⟨q11, rfl, ⟨lt13, cd14⟩, ?_⟩
      obtain ⟨lt15, cd16, lt17, cd18⟩ := nx_motor q11 lt13 cd14
      have s19 : sI a1 = a1 := sIo (by omega) (by omega)
      refine sC_Motor_wayTo hB lt13 cd14 (fun z20  h21 => ?_)
      obtain ⟨p22, -⟩ := h21
      exact hQ _ ⟨(by omega), trivial⟩
    · skip
      exact hX
set_option maxHeartbeats 4000000 in
set_option maxRecDepth 100000 in
theorem sC_Motor_steady {M : zM} {j : Nat} (hB : BN wC M) (lt_j : j < nC) (cd_j : zcd wC j = 11) {Q : Int → Prop} (hQ : ∀ (z : Int), (0 ≤ z ∧ z ≤ 5000) ∧ True → Q z) : wC_Motor_steady j M Q := by
  unfold wC_Motor_steady
  obtain ⟨lt1, cd2, lt3, cd4⟩ := nx_motor j lt_j cd_j
  have q5 : 0 ≤ (M j 2) ∧ (M j 2) ≤ 12 := BN.at hB cd_j rfl
  have s6 : sI (M j 2) = (M j 2) := sIo (by omega) (by omega)
  refine ⟨fun c7 => ?_, fun c7 => ?_⟩
  · skip
    have s9 : sI ((M j 2) - 1) = ((M j 2) - 1) := sIo (by omega) (by omega)
    have o10 : 0 ≤ (sI ((M j 2) - 1)) ∧ (sI ((M j 2) - 1)) < 12 := by omega
    refine ⟨o10, ?_⟩
    have q11 : 0 ≤ (M (j + 1) (sI ((M j 2) - 1)).toNat) ∧ (M (j + 1) (sI ((M j 2) - 1)).toNat) ≤ 5000 := BN.at hB cd2 rfl
    have s12 : sI (M (j + 1) (sI ((M j 2) - 1)).toNat) = (M (j + 1) (sI ((M j 2) - 1)).toNat) := sIo (by omega) (by omega)
    exact hQ _ ⟨(by omega), trivial⟩
  · skip
    exact hQ _ ⟨(by omega), trivial⟩
set_option maxHeartbeats 4000000 in
set_option maxRecDepth 100000 in
theorem sC_Motor_wayBy {M : zM} {j : Nat} {a0 : Int} {a1 : Int} (hB : BN wC M) (lt_j : j < nC) (cd_j : zcd wC j = 11) (v1 : 0 ≤ a1 ∧ a1 ≤ 24) {Q : Int → Prop} (hQ : ∀ (z : Int), (0 ≤ z ∧ z ≤ 2147483646) ∧ (1 ≤ a1 → z < a1) ∧ (a1 < 1 → z = 0) ∧ True → Q z) : wC_Motor_wayBy j a0 a1 M Q := by
  unfold wC_Motor_wayBy
  obtain ⟨lt1, cd2, lt3, cd4⟩ := nx_motor j lt_j cd_j
  refine sC_Motor_steady hB lt_j cd_j (fun z5  h6 => ?_)
  obtain ⟨p7, -⟩ := h6
  have s8 := sL_R (a0 - z5)
  refine sC_Motor_wayTo hB lt_j cd_j (fun z9  h10 => ?_)
  obtain ⟨p11, -⟩ := h10
  refine sC_by hB (by omega) (fun z12  h13 => ?_)
  obtain ⟨p14, p15, p16, -⟩ := h13
  refine sC_Motor_lastSpeed hB lt_j cd_j (fun z17  h18 => ?_)
  obtain ⟨p19, -⟩ := h18
  refine sC_by hB (by omega) (fun z20  h21 => ?_)
  obtain ⟨p22, p23, p24, -⟩ := h21
  exact hQ _ ⟨(by omega), (by omega), (by omega), trivial⟩
set_option maxHeartbeats 4000000 in
set_option maxRecDepth 100000 in
theorem sC_Ring_heardBehind {M : zM} {j : Nat} {a0 : Int} (hB : BN wC M) (lt_j : j < nC) (cd_j : zcd wC j = 14) (v0 : (-2147483648) ≤ a0 ∧ a0 ≤ 2147483647) {Q : Int → Prop} (hQ : ∀ (z : Int), ((-2147483648) ≤ z ∧ z ≤ 2147483647) ∧ True → Q z) : wC_Ring_heardBehind j a0 M Q := by
  unfold wC_Ring_heardBehind
  obtain ⟨lt1, cd2, lt3, cd4, lt5, cd6⟩ := nx_ring j lt_j cd_j
  have q7 : 0 ≤ (M j 2) ∧ (M j 2) ≤ 23 := BN.at hB cd_j rfl
  have s8 := sI_R ((M j 2) + a0)
  have q9 : 0 ≤ (M (j + 1) 1) ∧ (M (j + 1) 1) ≤ 24 := BN.at hB cd2 rfl
  refine sC_by hB (by omega) (fun z10  h11 => ?_)
  obtain ⟨p12, p13, p14, -⟩ := h11
  have o15 : 0 ≤ z10 ∧ z10 < 24 := by omega
  refine ⟨o15, ?_⟩
  have q16 : (-2147483648) ≤ (M (j + 3) z10.toNat) ∧ (M (j + 3) z10.toNat) ≤ 2147483647 := BN.at hB cd6 rfl
  have s17 : sI (M (j + 3) z10.toNat) = (M (j + 3) z10.toNat) := sIo (by omega) (by omega)
  exact hQ _ ⟨(by omega), trivial⟩
set_option maxHeartbeats 4000000 in
set_option maxRecDepth 100000 in
theorem sC_Studio_heardOf {M : zM} {a0 : Nat} {a1 : Int} (hB : BN wC M) (lt_a0 : a0 < nC) (cd_a0 : zcd wC a0 = 14) {Q : Int → Prop} (hQ : ∀ (z : Int), ((-2147483648) ≤ z ∧ z ≤ 2147483647) ∧ True → Q z) : wC_Studio_heardOf a0 a1 M Q := by
  unfold wC_Studio_heardOf
  obtain ⟨lt1, cd2, lt3, cd4, lt5, cd6⟩ := nx_ring a0 lt_a0 cd_a0
  have q7 : 0 ≤ (M a0 1) ∧ (M a0 1) ≤ 1 := BN.at hB cd_a0 rfl
  refine sC_Studio_motorOf hB (by omega) (fun q8 h9 => ?_)
  obtain ⟨⟨lt10, cd11⟩, h9⟩ := h9
  refine ⟨q8, rfl, ⟨lt10, cd11⟩, ?_⟩
  obtain ⟨lt12, cd13, lt14, cd15⟩ := nx_motor q8 lt10 cd11
  have q16 : 0 ≤ (M (a0 + 1) 1) ∧ (M (a0 + 1) 1) ≤ 24 := BN.at hB cd2 rfl
  refine sC_Motor_wayBy hB lt10 cd11 (by omega) (fun z17  h18 => ?_)
  obtain ⟨p19, p20, p21, -⟩ := h18
  refine sC_Ring_heardBehind hB lt_a0 cd_a0 (by omega) (fun z22  h23 => ?_)
  obtain ⟨p24, -⟩ := h23
  exact hQ _ ⟨(by omega), trivial⟩
set_option maxHeartbeats 4000000 in
set_option maxRecDepth 100000 in
theorem sC_Studio_heardInAll {M : zM} {a0 : Int} (hB : BN wC M)  {Q : Int → Prop} (hQ : ∀ (z : Int), ((-2147483648) ≤ z ∧ z ≤ 2147483647) ∧ True → Q z) : wC_Studio_heardInAll a0 M Q := by
  unfold wC_Studio_heardInAll
  refine pL2_of (fun x1 x2 => (0 ≤ x2 ∧ x2 ≤ 1000000) ∧ True) (fun x1 x2 => (1000000 - x2).toNat) ⟨(by omega), trivial⟩ (fun K x1 x2 h4 k5 => ?_)
  obtain ⟨i3, -⟩ := h4
  have q6 : 0 ≤ (M 32 2) ∧ (M 32 2) ≤ 4 := BN.at hB (rfl : zcd wC 32 = 8) rfl
  have s7 : sI x2 = x2 := sIo (by omega) (by omega)
  have s8 : sI (M 32 2) = (M 32 2) := sIo (by omega) (by omega)
  refine ⟨fun c9 => ?_, fun c9 => ?_⟩
  · skip
    have s10 := sI_R x1
    exact hQ _ ⟨(by omega), trivial⟩
  · skip
    have o11 : 0 ≤ (sI x2) ∧ (sI x2) < 4 := by omega
    refine ⟨o11, ?_⟩
    obtain ⟨lt12, cd13⟩ : (41 + 4 * (sI x2).toNat) < nC ∧ zcd wC (41 + 4 * (sI x2).toNat) = 14 := (by decide : ∀ k : Nat, k < 4 → (41 + 4 * k) < nC ∧ zcd wC (41 + 4 * k) = 14) (sI x2).toNat (by omega)
    obtain ⟨lt14, cd15, lt16, cd17, lt18, cd19⟩ := nx_ring (41 + 4 * (sI x2).toNat) lt12 cd13
    refine sC_Studio_heardOf hB lt12 cd13 (fun z20  h21 => ?_)
    obtain ⟨p22, -⟩ := h21
    have q23 := orI_R x1 z20
    exact k5 _ _ ⟨(by omega), trivial⟩ (by omega)
set_option maxHeartbeats 4000000 in
set_option maxRecDepth 100000 in
theorem sC_heard {M : zM} {a0 : Int} {a1 : Int} (hB : BN wC M) (v0 : (-2147483648) ≤ a0 ∧ a0 ≤ 2147483647) (v1 : (-9223372036854775808) ≤ a1 ∧ a1 ≤ 9223372036854775807) {Q : Int → Prop} (hQ : ∀ (z : Int), ((-2147483648) ≤ z ∧ z ≤ 2147483647) ∧ True → Q z) : wC_heard a0 a1 M Q := by
  unfold wC_heard
  have s1 : sL a1 = a1 := sLo (by omega) (by omega)
  refine ⟨fun c2 => ?_, fun c2 => ?_⟩
  · skip
    have s3 : sI a0 = a0 := sIo (by omega) (by omega)
    refine ⟨fun c4 => ?_, fun c4 => ?_⟩
    · skip
      refine sC_Studio_find hB (by omega) (fun h6 => ?_) (fun q5 h6 => ?_)
      · skip
        refine ⟨fun _ => ?_, fun q9 h9 => nomatch h9⟩
        exact hQ _ ⟨(by omega), trivial⟩
      · skip
        refine ⟨(fun h9 => nomatch h9), fun q9 h9 => ?_⟩
        obtain rfl := Option.some.inj h9
        obtain ⟨⟨lt7, cd8⟩, h6⟩ := h6
        refine ⟨⟨lt7, cd8⟩, ?_⟩
        obtain ⟨lt9, cd10, lt11, cd12, lt13, cd14⟩ := nx_ring q5 lt7 cd8
        refine sC_Studio_heardOf hB lt7 cd8 (fun z15  h16 => ?_)
        obtain ⟨p17, -⟩ := h16
        exact hQ _ ⟨(by omega), trivial⟩
    · skip
      refine sC_Studio_heardInAll hB  (fun z18  h19 => ?_)
      obtain ⟨p20, -⟩ := h19
      exact hQ _ ⟨(by omega), trivial⟩
  · skip
    exact hQ _ ⟨(by omega), trivial⟩
set_option maxHeartbeats 4000000 in
set_option maxRecDepth 100000 in
theorem sC_Studio_steady {M : zM}  (hB : BN wC M)  {Q : Int → Prop} (hQ : ∀ (z : Int), (0 ≤ z ∧ z ≤ 5000) ∧ True → Q z) : wC_Studio_steady  M Q := by
  unfold wC_Studio_steady
  refine sC_Motor_steady hB (by decide) (rfl : zcd wC 35 = 11) (fun z1  h2 => ?_)
  obtain ⟨p3, -⟩ := h2
  refine sC_Motor_steady hB (by decide) (rfl : zcd wC 38 = 11) (fun z4  h5 => ?_)
  obtain ⟨p6, -⟩ := h5
  exact hQ _ ⟨(by omega), trivial⟩
set_option maxHeartbeats 4000000 in
set_option maxRecDepth 100000 in
theorem sC_Studio_grants {M : zM} {a0 : Nat} {a1 : Int} (hB : BN wC M) (lt_a0 : a0 < nC) (cd_a0 : zcd wC a0 = 14) {Q : Int → Prop} (hQ : ∀ (z : Int), (0 ≤ z ∧ z ≤ 1) ∧ True → Q z) : wC_Studio_grants a0 a1 M Q := by
  unfold wC_Studio_grants
  obtain ⟨lt1, cd2, lt3, cd4, lt5, cd6⟩ := nx_ring a0 lt_a0 cd_a0
  have q7 : (-2147483648) ≤ (M a0 4) ∧ (M a0 4) ≤ 2147483647 := BN.at hB cd_a0 rfl
  refine sC_Studio_heardOf hB lt_a0 cd_a0 (fun z8  h9 => ?_)
  obtain ⟨p10, -⟩ := h9
  have q11 := xorI_R z8 (-1)
  have q12 := andI_R (M a0 4) (xorI z8 (-1))
  refine ⟨fun c13 => ?_, fun c13 => ?_⟩
  · skip
    exact hQ _ ⟨(by omega), trivial⟩
  · skip
    exact hQ _ ⟨(by omega), trivial⟩
set_option maxHeartbeats 4000000 in
set_option maxRecDepth 100000 in
theorem sC_Meeting_turnsOf {M : zM} {a1 : Nat} {a2 : Int} (hB : BN wC M) (lt_a1 : a1 < nC) (cd_a1 : zcd wC a1 = 14) (v2 : 0 ≤ a2 ∧ a2 ≤ 24) {Q : Int → Prop} (hQ : ∀ (z : Int), ((-2147483648) ≤ z ∧ z ≤ 2147483647) ∧ True → Q z) : wC_Meeting_turnsOf a1 a2 M Q := by
  unfold wC_Meeting_turnsOf
  obtain ⟨lt1, cd2, lt3, cd4, lt5, cd6⟩ := nx_ring a1 lt_a1 cd_a1
  refine pL2_of (fun x7 x8 => (0 ≤ x8 ∧ x8 ≤ 1000000) ∧ True) (fun x7 x8 => (1000000 - x8).toNat) ⟨(by omega), trivial⟩ (fun K x7 x8 h10 k11 => ?_)
  obtain ⟨i9, -⟩ := h10
  have s12 : sI x8 = x8 := sIo (by omega) (by omega)
  have s13 : sI a2 = a2 := sIo (by omega) (by omega)
  refine ⟨fun c14 => ?_, fun c14 => ?_⟩
  · skip
    have s15 := sI_R x7
    exact hQ _ ⟨(by omega), trivial⟩
  · skip
    have q16 : 0 ≤ (M 57 1) ∧ (M 57 1) ≤ 5000 := BN.at hB (rfl : zcd wC 57 = 16) rfl
    refine sC_Studio_grants hB lt_a1 cd_a1 (fun z17  h18 => ?_)
    obtain ⟨p19, -⟩ := h18
    refine ⟨fun c20 => ?_, fun c20 => ?_⟩
    · skip
      exact k11 _ _ ⟨(by omega), trivial⟩ (by omega)
    · skip
      have q21 := shlI_R 1 x8
      have q22 := orI_R x7 (shlI 1 x8)
      exact k11 _ _ ⟨(by omega), trivial⟩ (by omega)
set_option maxHeartbeats 4000000 in
set_option maxRecDepth 100000 in
theorem sC_Meeting_look {M : zM}  (hB : BN wC M)  {Q : zM → Prop} (hQ : ∀ (M1 : zM), BN wC M1 ∧ (∀ j9 : Nat, ¬ (57 ≤ j9 ∧ j9 ≤ 59) → M1 j9 = M j9) ∧ True → Q M1) : wC_Meeting_look  M Q := by
  unfold wC_Meeting_look
  have hF0 : ∀ j9 : Nat, ¬ (57 ≤ j9 ∧ j9 ≤ 59) → M j9 = M j9 := fun j9 _ => rfl
  refine sC_Studio_steady hB  (fun z1  h2 => ?_)
  obtain ⟨p3, -⟩ := h2
  intro M4 e5
  have hB6 : BN wC M4 := by rw [e5]; exact BN.up hB (rfl : zcd wC 57 = 16) rfl (by omega) (by omega)
  have hF7 : ∀ j9 : Nat, ¬ (57 ≤ j9 ∧ j9 ≤ 59) → M4 j9 = M j9 := fun j9 h9 => by rw [e5]; exact (zup_row _ _ (by omega)).trans (hF0 j9 h9)
  have r8 : M4 57 0 = M 57 0 := by rw [e5]; exact zup_n _ _ (by omega)
  intro M9 e10
  have hB11 : BN wC M9 := by rw [e10]; exact BN.up hB6 (rfl : zcd wC 57 = 16) rfl (by omega) (by omega)
  have hF12 : ∀ j9 : Nat, ¬ (57 ≤ j9 ∧ j9 ≤ 59) → M9 j9 = M j9 := fun j9 h9 => by rw [e10]; exact (zup_row _ _ (by omega)).trans (hF7 j9 h9)
  have r13 : M9 57 0 = 0 := by rw [e10]; exact zup_s _ _ _ _
  refine wL1_of (fun x14 M15 => BN wC M15 ∧ (∀ j9 : Nat, ¬ (57 ≤ j9 ∧ j9 ≤ 59) → M15 j9 = M j9) ∧ (0 ≤ x14 ∧ x14 ≤ 4) ∧ (M15 57 0 ≤ x14) ∧ True) (fun x14 M15 => (1000000 - x14).toNat) ⟨hB11, hF12, (by omega), (by omega), trivial⟩ (fun K x14 M15 h20 k21 => ?_)
  obtain ⟨hB16, hF17, i18, i19, -⟩ := h20
  have s22 : sI x14 = x14 := sIo (by omega) (by omega)
  refine ⟨fun c23 => ?_, fun c23 => ?_⟩
  · skip
    exact hQ _ ⟨hB16, hF17, trivial⟩
  · skip
    refine sC_Studio_find hB16 (by omega) (fun h25 => ?_) (fun q24 h25 => ?_)
    · skip
      refine ⟨fun _ => ?_, fun q9 h9 => nomatch h9⟩
      exact k21 _ _ ⟨hB16, hF17, (by omega), (by omega), trivial⟩ (by omega)
    · skip
      refine ⟨(fun h9 => nomatch h9), fun q9 h9 => ?_⟩
      obtain rfl := Option.some.inj h9
      obtain ⟨⟨lt26, cd27⟩, h25⟩ := h25
      refine ⟨⟨lt26, cd27⟩, ?_⟩
      obtain ⟨lt28, cd29, lt30, cd31, lt32, cd33⟩ := nx_ring q24 lt26 cd27
      refine sC_Studio_roundOf hB16 lt26 cd27 (fun z34  h35 => ?_)
      obtain ⟨p36, -⟩ := h35
      have o37 : 0 ≤ (sI x14) ∧ (sI x14) < 4 := by omega
      refine ⟨o37, ?_⟩
      intro M38 e39
      have hB40 : BN wC M38 := by rw [e39]; exact BN.up hB16 (rfl : zcd wC 58 = 17) rfl (by omega) (by omega)
      have hF41 : ∀ j9 : Nat, ¬ (57 ≤ j9 ∧ j9 ≤ 59) → M38 j9 = M j9 := fun j9 h9 => by rw [e39]; exact (zup_row _ _ (by omega)).trans (hF17 j9 h9)
      have r42 : M38 57 0 = M15 57 0 := by rw [e39]; exact zup_n _ _ (by omega)
      have o43 : 0 ≤ (sI x14) ∧ (sI x14) < 4 := by omega
      refine ⟨o43, ?_⟩
      have q44 : 0 ≤ (M38 58 (sI x14).toNat) ∧ (M38 58 (sI x14).toNat) ≤ 24 := BN.at hB40 (rfl : zcd wC 58 = 17) rfl
      refine sC_Meeting_turnsOf hB40 lt26 cd27 (by omega) (fun z45  h46 => ?_)
      obtain ⟨p47, -⟩ := h46
      have o48 : 0 ≤ (sI x14) ∧ (sI x14) < 4 := by omega
      refine ⟨o48, ?_⟩
      intro M49 e50
      have hB51 : BN wC M49 := by rw [e50]; exact BN.up hB40 (rfl : zcd wC 59 = 18) rfl (by omega) (by omega)
      have hF52 : ∀ j9 : Nat, ¬ (57 ≤ j9 ∧ j9 ≤ 59) → M49 j9 = M j9 := fun j9 h9 => by rw [e50]; exact (zup_row _ _ (by omega)).trans (hF41 j9 h9)
      have r53 : M49 57 0 = M38 57 0 := by rw [e50]; exact zup_n _ _ (by omega)
      have q54 : 0 ≤ (M49 57 0) ∧ (M49 57 0) ≤ 4 := BN.at hB51 (rfl : zcd wC 57 = 16) rfl
      intro M55 e56
      have hB57 : BN wC M55 := by rw [e56]; exact BN.up hB51 (rfl : zcd wC 57 = 16) rfl (by omega) (by omega)
      have hF58 : ∀ j9 : Nat, ¬ (57 ≤ j9 ∧ j9 ≤ 59) → M55 j9 = M j9 := fun j9 h9 => by rw [e56]; exact (zup_row _ _ (by omega)).trans (hF52 j9 h9)
      have r59 : M55 57 0 = ((M49 57 0) + 1) := by rw [e56]; exact zup_s _ _ _ _
      exact k21 _ _ ⟨hB57, hF58, (by omega), (by omega), trivial⟩ (by omega)
set_option maxHeartbeats 4000000 in
set_option maxRecDepth 100000 in
theorem sC_leastMultiple {M : zM} {a0 : Int} {a1 : Int} (hB : BN wC M) (v0 : (-9223372036854775808) ≤ a0 ∧ a0 ≤ 9223372036854775807) (v1 : 0 ≤ a1 ∧ a1 ≤ 1000000) {Q : Int → Prop} (hQ : ∀ (z : Int), ((-9223372036854775808) ≤ z ∧ z ≤ 9223372036854775807) ∧ True → Q z) : wC_leastMultiple a0 a1 M Q := by
  unfold wC_leastMultiple
  refine sC_withoutShared hB (by omega) (by omega) (fun z1  h2 => ?_)
  obtain ⟨p3, p4, -⟩ := h2
  have s5 := sL_R (a0 * z1)
  exact hQ _ ⟨(by omega), trivial⟩
set_option maxHeartbeats 4000000 in
set_option maxRecDepth 100000 in
theorem sC_Meeting_allTicks {M : zM}  (hB : BN wC M)  {Q : Int → Prop} (hQ : ∀ (z : Int), ((-9223372036854775808) ≤ z ∧ z ≤ 9223372036854775807) ∧ True → Q z) : wC_Meeting_allTicks  M Q := by
  unfold wC_Meeting_allTicks
  refine pL2_of (fun x1 x2 => ((-9223372036854775808) ≤ x1 ∧ x1 ≤ 9223372036854775807) ∧ (0 ≤ x2 ∧ x2 ≤ 1000000) ∧ True) (fun x1 x2 => (1000000 - x2).toNat) ⟨(by omega), (by omega), trivial⟩ (fun K x1 x2 h5 k6 => ?_)
  obtain ⟨i3, i4, -⟩ := h5
  have q7 : 0 ≤ (M 57 0) ∧ (M 57 0) ≤ 4 := BN.at hB (rfl : zcd wC 57 = 16) rfl
  have s8 : sI x2 = x2 := sIo (by omega) (by omega)
  have s9 : sI (M 57 0) = (M 57 0) := sIo (by omega) (by omega)
  refine ⟨fun c10 => ?_, fun c10 => ?_⟩
  · skip
    have s11 : sL x1 = x1 := sLo (by omega) (by omega)
    exact hQ _ ⟨(by omega), trivial⟩
  · skip
    have o12 : 0 ≤ (sI x2) ∧ (sI x2) < 4 := by omega
    refine ⟨o12, ?_⟩
    have q13 : 0 ≤ (M 58 (sI x2).toNat) ∧ (M 58 (sI x2).toNat) ≤ 24 := BN.at hB (rfl : zcd wC 58 = 17) rfl
    refine sC_leastMultiple hB (by omega) (by omega) (fun z14  h15 => ?_)
    obtain ⟨p16, -⟩ := h15
    exact k6 _ _ ⟨(by omega), (by omega), trivial⟩ (by omega)
set_option maxHeartbeats 4000000 in
set_option maxRecDepth 100000 in
theorem sC_all {M : zM}  (hB : BN wC M)  {Q : Int → zM → Prop} (hQ : ∀ (z : Int) (M1 : zM), BN wC M1 ∧ (∀ j9 : Nat, ¬ (57 ≤ j9 ∧ j9 ≤ 59) → M1 j9 = M j9) ∧ ((-9223372036854775808) ≤ z ∧ z ≤ 9223372036854775807) ∧ True → Q z M1) : wC_all  M Q := by
  unfold wC_all
  have hF0 : ∀ j9 : Nat, ¬ (57 ≤ j9 ∧ j9 ≤ 59) → M j9 = M j9 := fun j9 _ => rfl
  refine sC_Meeting_look hB  (fun  M1 h2 => ?_)
  obtain ⟨hB3, f4, -⟩ := h2
  have hF5 : ∀ j9 : Nat, ¬ (57 ≤ j9 ∧ j9 ≤ 59) → M1 j9 = M j9 := fun j9 h9 => ((f4 j9 (by omega)).trans (hF0 j9 h9))
  refine sC_Meeting_allTicks hB3  (fun z6  h7 => ?_)
  obtain ⟨p8, -⟩ := h7
  exact hQ _ _ ⟨hB3, hF5, (by omega), trivial⟩
set_option maxHeartbeats 4000000 in
set_option maxRecDepth 100000 in
theorem sC_isSounds {M : zM} {a0 : Int} (hB : BN wC M) (v0 : (-2147483648) ≤ a0 ∧ a0 ≤ 2147483647) {Q : Int → Prop} (hQ : ∀ (z : Int), (0 ≤ z ∧ z ≤ 1) ∧ ((z = 1 ∧ andI a0 (-1023) = 0) ∨ (z = 0 ∧ ¬ (andI a0 (-1023) = 0))) ∧ True → Q z) : wC_isSounds a0 M Q := by
  unfold wC_isSounds
  have q1 := andI_R a0 (-1023)
  refine ⟨fun c2 => ?_, fun c2 => ?_⟩
  · skip
    exact hQ _ ⟨(by omega), (by omega), trivial⟩
  · skip
    exact hQ _ ⟨(by omega), (by omega), trivial⟩
set_option maxHeartbeats 4000000 in
set_option maxRecDepth 100000 in
theorem sC_wish {M : zM} {a0 : Int} {a1 : Int} (hB : BN wC M) (v0 : (-2147483648) ≤ a0 ∧ a0 ≤ 2147483647) (v1 : (-2147483648) ≤ a1 ∧ a1 ≤ 2147483647) {Q : Int → zM → Prop} (hQ : ∀ (z : Int) (M1 : zM), BN wC M1 ∧ (∀ j9 : Nat, ¬ (32 ≤ j9 ∧ j9 ≤ 34 ∨ 41 ≤ j9 ∧ j9 ≤ 56) → M1 j9 = M j9) ∧ (0 ≤ z ∧ z ≤ 1) ∧ True → Q z M1) : wC_wish a0 a1 M Q := by
  unfold wC_wish
  have hF0 : ∀ j9 : Nat, ¬ (32 ≤ j9 ∧ j9 ≤ 34 ∨ 41 ≤ j9 ∧ j9 ≤ 56) → M j9 = M j9 := fun j9 _ => rfl
  refine sC_Studio_find hB (by omega) (fun h2 => ?_) (fun q1 h2 => ?_)
  · skip
    refine ⟨fun _ => ?_, fun q9 h9 => nomatch h9⟩
    exact hQ _ _ ⟨hB, hF0, (by omega), trivial⟩
  · skip
    refine ⟨(fun h9 => nomatch h9), fun q9 h9 => ?_⟩
    obtain rfl := Option.some.inj h9
    obtain ⟨⟨lt3, cd4⟩, h2⟩ := h2
    refine ⟨⟨lt3, cd4⟩, ?_⟩
    obtain ⟨lt5, cd6, lt7, cd8, lt9, cd10⟩ := nx_ring q1 lt3 cd4
    refine sC_isSounds hB (by omega) (fun z11  h12 => ?_)
    obtain ⟨p13, p14, -⟩ := h12
    refine ⟨fun c15 => ?_, fun c15 => ?_⟩
    · skip
      intro M16 e17
      have hB18 : BN wC M16 := by rw [e17]; exact BN.up hB cd4 rfl (by omega) (by omega)
      have hF19 : ∀ j9 : Nat, ¬ (32 ≤ j9 ∧ j9 ≤ 34 ∨ 41 ≤ j9 ∧ j9 ≤ 56) → M16 j9 = M j9 := fun j9 h9 => by rw [e17]; exact (zup_row _ _ (by omega)).trans (hF0 j9 h9)
      exact hQ _ _ ⟨hB18, hF19, (by omega), trivial⟩
    · skip
      exact hQ _ _ ⟨hB, hF0, (by omega), trivial⟩
set_option maxHeartbeats 4000000 in
set_option maxRecDepth 100000 in
theorem sC_Studio_meetsAt {M : zM} {a0 : Int} (hB : BN wC M)  {Q : Int → Prop} (hQ : ∀ (z : Int), (0 ≤ z ∧ z ≤ 1) ∧ True → Q z) : wC_Studio_meetsAt a0 M Q := by
  unfold wC_Studio_meetsAt
  refine pL1_of (fun x1 => (0 ≤ x1 ∧ x1 ≤ 1000000) ∧ True) (fun x1 => (1000000 - x1).toNat) ⟨(by omega), trivial⟩ (fun K x1 h3 k4 => ?_)
  obtain ⟨i2, -⟩ := h3
  have q5 : 0 ≤ (M 32 2) ∧ (M 32 2) ≤ 4 := BN.at hB (rfl : zcd wC 32 = 8) rfl
  have s6 : sI x1 = x1 := sIo (by omega) (by omega)
  have s7 : sI (M 32 2) = (M 32 2) := sIo (by omega) (by omega)
  refine ⟨fun c8 => ?_, fun c8 => ?_⟩
  · skip
    exact hQ _ ⟨(by omega), trivial⟩
  · skip
    have o9 : 0 ≤ (sI x1) ∧ (sI x1) < 4 := by omega
    refine ⟨o9, ?_⟩
    obtain ⟨lt10, cd11⟩ : (41 + 4 * (sI x1).toNat) < nC ∧ zcd wC (41 + 4 * (sI x1).toNat) = 14 := (by decide : ∀ k : Nat, k < 4 → (41 + 4 * k) < nC ∧ zcd wC (41 + 4 * k) = 14) (sI x1).toNat (by omega)
    obtain ⟨lt12, cd13, lt14, cd15, lt16, cd17⟩ := nx_ring (41 + 4 * (sI x1).toNat) lt10 cd11
    refine sC_Studio_grants hB lt10 cd11 (fun z18  h19 => ?_)
    obtain ⟨p20, -⟩ := h19
    refine ⟨fun c21 => ?_, fun c21 => ?_⟩
    · skip
      exact k4 _ ⟨(by omega), trivial⟩ (by omega)
    · skip
      exact hQ _ ⟨(by omega), trivial⟩
set_option maxHeartbeats 4000000 in
set_option maxRecDepth 100000 in
theorem sC_Meeting_sharedTicks {M : zM}  (hB : BN wC M)  {Q : Int → Prop} (hQ : ∀ (z : Int), ((-2147483648) ≤ z ∧ z ≤ 2147483647) ∧ True → Q z) : wC_Meeting_sharedTicks  M Q := by
  unfold wC_Meeting_sharedTicks
  refine pL2_of (fun x1 x2 => ((-9223372036854775808) ≤ x1 ∧ x1 ≤ 9223372036854775807) ∧ (0 ≤ x2 ∧ x2 ≤ 1000000) ∧ True) (fun x1 x2 => (1000000 - x2).toNat) ⟨(by omega), (by omega), trivial⟩ (fun K x1 x2 h5 k6 => ?_)
  obtain ⟨i3, i4, -⟩ := h5
  have q7 : 0 ≤ (M 57 0) ∧ (M 57 0) ≤ 4 := BN.at hB (rfl : zcd wC 57 = 16) rfl
  have s8 : sI x2 = x2 := sIo (by omega) (by omega)
  have s9 : sI (M 57 0) = (M 57 0) := sIo (by omega) (by omega)
  refine ⟨fun c10 => ?_, fun c10 => ?_⟩
  · skip
    have s11 := sI_R x1
    exact hQ _ ⟨(by omega), trivial⟩
  · skip
    refine pL2_of (fun x12 x13 => ((-9223372036854775808) ≤ x12 ∧ x12 ≤ 9223372036854775807) ∧ (0 ≤ x13 ∧ x13 ≤ 1000000) ∧ True) (fun x12 x13 => (1000000 - x13).toNat) ⟨(by omega), (by omega), trivial⟩ (fun K x12 x13 h16 k17 => ?_)
    obtain ⟨i14, i15, -⟩ := h16
    have q18 : 0 ≤ (M 57 0) ∧ (M 57 0) ≤ 4 := BN.at hB (rfl : zcd wC 57 = 16) rfl
    have s19 : sI x13 = x13 := sIo (by omega) (by omega)
    have s20 : sI (M 57 0) = (M 57 0) := sIo (by omega) (by omega)
    refine ⟨fun c21 => ?_, fun c21 => ?_⟩
    · skip
      exact k6 _ _ ⟨(by omega), (by omega), trivial⟩ (by omega)
    · skip
      have s22 : sI x2 = x2 := sIo (by omega) (by omega)
      have o23 : 0 ≤ (sI x2) ∧ (sI x2) < 4 := by omega
      refine ⟨o23, ?_⟩
      have q24 : 0 ≤ (M 58 (sI x2).toNat) ∧ (M 58 (sI x2).toNat) ≤ 24 := BN.at hB (rfl : zcd wC 58 = 17) rfl
      have o25 : 0 ≤ (sI x13) ∧ (sI x13) < 4 := by omega
      refine ⟨o25, ?_⟩
      have q26 : 0 ≤ (M 58 (sI x13).toNat) ∧ (M 58 (sI x13).toNat) ≤ 24 := BN.at hB (rfl : zcd wC 58 = 17) rfl
      have s27 : sI (M 58 (sI x13).toNat) = (M 58 (sI x13).toNat) := sIo (by omega) (by omega)
      refine sC_greatestDivisor hB (by omega) (by omega) (fun z28  h29 => ?_)
      obtain ⟨p30, p31, -⟩ := h29
      refine sC_leastMultiple hB (by omega) (by omega) (fun z32  h33 => ?_)
      obtain ⟨p34, -⟩ := h33
      exact k17 _ _ ⟨(by omega), (by omega), trivial⟩ (by omega)
set_option maxHeartbeats 4000000 in
set_option maxRecDepth 100000 in
theorem sC_Meeting_turnsAlike {M : zM} {a0 : Int} {a1 : Int} {a2 : Int} (hB : BN wC M) (v0 : 0 ≤ a0 ∧ a0 ≤ 3) (v1 : (-2147483648) ≤ a1 ∧ a1 ≤ 2147483647) (v2 : 0 ≤ a2 ∧ a2 ≤ 24) {Q : Int → Prop} (hQ : ∀ (z : Int), ((-2147483648) ≤ z ∧ z ≤ 2147483647) ∧ True → Q z) : wC_Meeting_turnsAlike a0 a1 a2 M Q := by
  unfold wC_Meeting_turnsAlike
  have s1 : sI a1 = a1 := sIo (by omega) (by omega)
  refine sC_by hB (by omega) (fun z2  h3 => ?_)
  obtain ⟨p4, p5, p6, -⟩ := h3
  refine pL2_of (fun x7 x8 => (0 ≤ x8 ∧ x8 ≤ 48) ∧ True) (fun x7 x8 => (48 - x8).toNat) ⟨(by omega), trivial⟩ (fun K x7 x8 h10 k11 => ?_)
  obtain ⟨i9, -⟩ := h10
  have s12 : sI a0 = a0 := sIo (by omega) (by omega)
  have o13 : 0 ≤ (sI a0) ∧ (sI a0) < 4 := by omega
  refine ⟨o13, ?_⟩
  have q14 : 0 ≤ (M 58 (sI a0).toNat) ∧ (M 58 (sI a0).toNat) ≤ 24 := BN.at hB (rfl : zcd wC 58 = 17) rfl
  have s15 : sI x8 = x8 := sIo (by omega) (by omega)
  have s16 : sI (M 58 (sI a0).toNat) = (M 58 (sI a0).toNat) := sIo (by omega) (by omega)
  refine ⟨fun c17 => ?_, fun c17 => ?_⟩
  · skip
    have s18 := sI_R x7
    exact hQ _ ⟨(by omega), trivial⟩
  · skip
    have o19 : 0 ≤ (sI a0) ∧ (sI a0) < 4 := by omega
    refine ⟨o19, ?_⟩
    have q20 : (-2147483648) ≤ (M 59 (sI a0).toNat) ∧ (M 59 (sI a0).toNat) ≤ 2147483647 := BN.at hB (rfl : zcd wC 59 = 18) rfl
    have q21 := shrI_R (M 59 (sI a0).toNat) x8
    have q22 := andI_br (shrI (M 59 (sI a0).toNat) x8) (c := 1) (by decide) (by decide)
    intro t23 e24
    have s25 : sI a2 = a2 := sIo (by omega) (by omega)
    exact k11 _ _ ⟨(by omega), trivial⟩ (by omega)
set_option maxHeartbeats 4000000 in
set_option maxRecDepth 100000 in
theorem sC_Meeting_howOften {M : zM}  (hB : BN wC M)  {Q : Int → Prop} (hQ : ∀ (z : Int), ((-9223372036854775808) ≤ z ∧ z ≤ 9223372036854775807) ∧ True → Q z) : wC_Meeting_howOften  M Q := by
  unfold wC_Meeting_howOften
  refine sC_Meeting_sharedTicks hB  (fun z1  h2 => ?_)
  obtain ⟨p3, -⟩ := h2
  refine pL2_of (fun x4 x5 => (0 ≤ x5 ∧ x5 ≤ 2147483647) ∧ True) (fun x4 x5 => (2147483647 - x5).toNat) ⟨(by omega), trivial⟩ (fun K x4 x5 h7 k8 => ?_)
  obtain ⟨i6, -⟩ := h7
  have s9 : sI x5 = x5 := sIo (by omega) (by omega)
  refine ⟨fun c10 => ?_, fun c10 => ?_⟩
  · skip
    have s11 := sL_R x4
    exact hQ _ ⟨(by omega), trivial⟩
  · skip
    refine pL2_of (fun x12 x13 => (0 ≤ x13 ∧ x13 ≤ 1000000) ∧ True) (fun x12 x13 => (1000000 - x13).toNat) ⟨(by omega), trivial⟩ (fun K x12 x13 h15 k16 => ?_)
    obtain ⟨i14, -⟩ := h15
    have q17 : 0 ≤ (M 57 0) ∧ (M 57 0) ≤ 4 := BN.at hB (rfl : zcd wC 57 = 16) rfl
    have s18 : sI x13 = x13 := sIo (by omega) (by omega)
    have s19 : sI (M 57 0) = (M 57 0) := sIo (by omega) (by omega)
    refine ⟨fun c20 => ?_, fun c20 => ?_⟩
    · skip
      exact k8 _ _ ⟨(by omega), trivial⟩ (by omega)
    · skip
      have o21 : 0 ≤ (sI x13) ∧ (sI x13) < 4 := by omega
      refine ⟨o21, ?_⟩
      have q22 : 0 ≤ (M 58 (sI x13).toNat) ∧ (M 58 (sI x13).toNat) ≤ 24 := BN.at hB (rfl : zcd wC 58 = 17) rfl
      refine sC_greatestDivisor hB (by omega) (by omega) (fun z23  h24 => ?_)
      obtain ⟨p25, p26, -⟩ := h24
      refine sC_Meeting_turnsAlike hB (by omega) (by omega) (by omega) (fun z27  h28 => ?_)
      obtain ⟨p29, -⟩ := h28
      exact k16 _ _ ⟨(by omega), trivial⟩ (by omega)
set_option maxHeartbeats 4000000 in
set_option maxRecDepth 100000 in
theorem sC_Meeting_ticksToTurn {M : zM} {a0 : Int} {a1 : Int} (hB : BN wC M) (v0 : 0 ≤ a0 ∧ a0 ≤ 3) (v1 : (-2147483648) ≤ a1 ∧ a1 ≤ 2147483647) {Q : Int → Prop} (hQ : ∀ (z : Int), ((-2147483648) ≤ z ∧ z ≤ 2147483647) ∧ True → Q z) : wC_Meeting_ticksToTurn a0 a1 M Q := by
  unfold wC_Meeting_ticksToTurn
  have s1 : sI a0 = a0 := sIo (by omega) (by omega)
  have o2 : 0 ≤ (sI a0) ∧ (sI a0) < 4 := by omega
  refine ⟨o2, ?_⟩
  have q3 : 0 ≤ (M 58 (sI a0).toNat) ∧ (M 58 (sI a0).toNat) ≤ 24 := BN.at hB (rfl : zcd wC 58 = 17) rfl
  refine pL1_of (fun x4 => (0 ≤ x4 ∧ x4 ≤ 1000000) ∧ True) (fun x4 => (1000000 - x4).toNat) ⟨(by omega), trivial⟩ (fun K x4 h6 k7 => ?_)
  obtain ⟨i5, -⟩ := h6
  have s8 : sI x4 = x4 := sIo (by omega) (by omega)
  have s9 : sI (M 58 (sI a0).toNat) = (M 58 (sI a0).toNat) := sIo (by omega) (by omega)
  refine ⟨fun c10 => ?_, fun c10 => ?_⟩
  · skip
    exact hQ _ ⟨(by omega), trivial⟩
  · skip
    have s11 : sI a0 = a0 := sIo (by omega) (by omega)
    have o12 : 0 ≤ (sI a0) ∧ (sI a0) < 4 := by omega
    refine ⟨o12, ?_⟩
    have q13 : (-2147483648) ≤ (M 59 (sI a0).toNat) ∧ (M 59 (sI a0).toNat) ≤ 2147483647 := BN.at hB (rfl : zcd wC 59 = 18) rfl
    have s14 := sI_R (a1 + x4)
    refine sC_by hB (by omega) (fun z15  h16 => ?_)
    obtain ⟨p17, p18, p19, -⟩ := h16
    have q20 := shrI_R (M 59 (sI a0).toNat) z15
    have q21 := andI_br (shrI (M 59 (sI a0).toNat) z15) (c := 1) (by decide) (by decide)
    refine ⟨fun c22 => ?_, fun c22 => ?_⟩
    · skip
      exact k7 _ ⟨(by omega), trivial⟩ (by omega)
    · skip
      exact hQ _ ⟨(by omega), trivial⟩
set_option maxHeartbeats 4000000 in
set_option maxRecDepth 100000 in
theorem sC_Meeting_firstSteady {M : zM} {a0 : Int} (hB : BN wC M) (v0 : (-9223372036854775808) ≤ a0 ∧ a0 ≤ 9223372036854775807) {Q : Int → Prop} (hQ : ∀ (z : Int), ((-9223372036854775808) ≤ z ∧ z ≤ 9223372036854775807) ∧ True → Q z) : wC_Meeting_firstSteady a0 M Q := by
  unfold wC_Meeting_firstSteady
  refine sC_Meeting_allTicks hB  (fun z1  h2 => ?_)
  obtain ⟨p3, -⟩ := h2
  refine pL2_of (fun x4 x5 => (0 ≤ x5 ∧ x5 ≤ 9223372036854775807) ∧ True) (fun x4 x5 => (9223372036854775807 - x5).toNat) ⟨(by omega), trivial⟩ (fun K x4 x5 h7 k8 => ?_)
  obtain ⟨i6, -⟩ := h7
  have s9 : sL x5 = x5 := sLo (by omega) (by omega)
  refine ⟨fun c10 => ?_, fun c10 => ?_⟩
  · skip
    exact hQ _ ⟨(by omega), trivial⟩
  · skip
    have s11 := sL_R x4
    have s12 := sL_R (a0 + z1)
    refine ⟨fun c13 => ?_, fun c13 => ?_⟩
    · skip
      exact hQ _ ⟨(by omega), trivial⟩
    · skip
      refine pL2_of (fun x14 x15 => (0 ≤ x15 ∧ x15 ≤ 1000000) ∧ True) (fun x14 x15 => (1000000 - x15).toNat) ⟨(by omega), trivial⟩ (fun K x14 x15 h17 k18 => ?_)
      obtain ⟨i16, -⟩ := h17
      have q19 : 0 ≤ (M 57 0) ∧ (M 57 0) ≤ 4 := BN.at hB (rfl : zcd wC 57 = 16) rfl
      have s20 : sI x15 = x15 := sIo (by omega) (by omega)
      have s21 : sI (M 57 0) = (M 57 0) := sIo (by omega) (by omega)
      refine ⟨fun c22 => ?_, fun c22 => ?_⟩
      · skip
        have s23 := sL_R x14
        have s24 := sL_R x4
        refine ⟨fun c25 => ?_, fun c25 => ?_⟩
        · skip
          exact k8 _ _ ⟨(by omega), trivial⟩ (by omega)
        · skip
          exact hQ _ ⟨(by omega), trivial⟩
      · skip
        have q26 : 0 ≤ (M 57 1) ∧ (M 57 1) ≤ 5000 := BN.at hB (rfl : zcd wC 57 = 16) rfl
        have o27 : 0 ≤ (sI x15) ∧ (sI x15) < 4 := by omega
        refine ⟨o27, ?_⟩
        have q28 : 0 ≤ (M 58 (sI x15).toNat) ∧ (M 58 (sI x15).toNat) ≤ 24 := BN.at hB (rfl : zcd wC 58 = 17) rfl
        refine sC_by hB (by omega) (fun z29  h30 => ?_)
        obtain ⟨p31, p32, p33, -⟩ := h30
        refine sC_Meeting_ticksToTurn hB (by omega) (by omega) (fun z34  h35 => ?_)
        obtain ⟨p36, -⟩ := h35
        exact k18 _ _ ⟨(by omega), trivial⟩ (by omega)
set_option maxHeartbeats 4000000 in
set_option maxRecDepth 100000 in
theorem sC_Meeting_first {M : zM} {a1 : Int} (hB : BN wC M) (v1 : 0 ≤ a1 ∧ a1 ≤ 1152921504606846976) {Q : Int → Prop} (hQ : ∀ (z : Int), ((-9223372036854775808) ≤ z ∧ z ≤ 9223372036854775807) ∧ True → Q z) : wC_Meeting_first a1 M Q := by
  unfold wC_Meeting_first
  refine pL1_of (fun x1 => (0 ≤ x1 ∧ x1 ≤ 9223372036854775807) ∧ True) (fun x1 => (9223372036854775807 - x1).toNat) ⟨(by omega), trivial⟩ (fun K x1 h3 k4 => ?_)
  obtain ⟨i2, -⟩ := h3
  have q5 : 0 ≤ (M 57 1) ∧ (M 57 1) ≤ 5000 := BN.at hB (rfl : zcd wC 57 = 16) rfl
  have s6 : sL x1 = x1 := sLo (by omega) (by omega)
  have s7 : sL (M 57 1) = (M 57 1) := sLo (by omega) (by omega)
  refine ⟨fun c8 => ?_, fun c8 => ?_⟩
  · skip
    refine sC_Meeting_howOften hB  (fun z9  h10 => ?_)
    obtain ⟨p11, -⟩ := h10
    refine ⟨fun c12 => ?_, fun c12 => ?_⟩
    · skip
      have s14 : sL a1 = a1 := sLo (by omega) (by omega)
      refine sC_Meeting_firstSteady hB (by omega) (fun z15  h16 => ?_)
      obtain ⟨p17, -⟩ := h16
      exact hQ _ ⟨(by omega), trivial⟩
    · skip
      exact hQ _ ⟨(by omega), trivial⟩
  · skip
    refine sC_Studio_meetsAt hB  (fun z18  h19 => ?_)
    obtain ⟨p20, -⟩ := h19
    refine ⟨fun c21 => ?_, fun c21 => ?_⟩
    · skip
      exact k4 _ ⟨(by omega), trivial⟩ (by omega)
    · skip
      exact hQ _ ⟨(by omega), trivial⟩
set_option maxHeartbeats 4000000 in
set_option maxRecDepth 100000 in
theorem sC_meets {M : zM} {a0 : Int} (hB : BN wC M) (v0 : (-9223372036854775808) ≤ a0 ∧ a0 ≤ 9223372036854775807) {Q : Int → zM → Prop} (hQ : ∀ (z : Int) (M1 : zM), BN wC M1 ∧ (∀ j9 : Nat, ¬ (57 ≤ j9 ∧ j9 ≤ 59) → M1 j9 = M j9) ∧ ((-9223372036854775808) ≤ z ∧ z ≤ 9223372036854775807) ∧ True → Q z M1) : wC_meets a0 M Q := by
  unfold wC_meets
  have hF0 : ∀ j9 : Nat, ¬ (57 ≤ j9 ∧ j9 ≤ 59) → M j9 = M j9 := fun j9 _ => rfl
  have s1 : sL a0 = a0 := sLo (by omega) (by omega)
  refine ⟨fun c2 => ?_, fun c2 => ?_⟩
  · skip
    exact hQ _ _ ⟨hB, hF0, (by omega), trivial⟩
  · skip
    refine ⟨fun c3 => ?_, fun c3 => ?_⟩
    · skip
      refine sC_Meeting_look hB  (fun  M4 h5 => ?_)
      obtain ⟨hB6, f7, -⟩ := h5
      have hF8 : ∀ j9 : Nat, ¬ (57 ≤ j9 ∧ j9 ≤ 59) → M4 j9 = M j9 := fun j9 h9 => ((f7 j9 (by omega)).trans (hF0 j9 h9))
      refine sC_Meeting_first hB6 (by omega) (fun z9  h10 => ?_)
      obtain ⟨p11, -⟩ := h10
      exact hQ _ _ ⟨hB6, hF8, (by omega), trivial⟩
    · skip
      exact hQ _ _ ⟨hB, hF0, (by omega), trivial⟩
set_option maxHeartbeats 4000000 in
set_option maxRecDepth 100000 in
theorem sC_often {M : zM}  (hB : BN wC M)  {Q : Int → zM → Prop} (hQ : ∀ (z : Int) (M1 : zM), BN wC M1 ∧ (∀ j9 : Nat, ¬ (57 ≤ j9 ∧ j9 ≤ 59) → M1 j9 = M j9) ∧ ((-9223372036854775808) ≤ z ∧ z ≤ 9223372036854775807) ∧ True → Q z M1) : wC_often  M Q := by
  unfold wC_often
  have hF0 : ∀ j9 : Nat, ¬ (57 ≤ j9 ∧ j9 ≤ 59) → M j9 = M j9 := fun j9 _ => rfl
  refine sC_Meeting_look hB  (fun  M1 h2 => ?_)
  obtain ⟨hB3, f4, -⟩ := h2
  have hF5 : ∀ j9 : Nat, ¬ (57 ≤ j9 ∧ j9 ≤ 59) → M1 j9 = M j9 := fun j9 h9 => ((f4 j9 (by omega)).trans (hF0 j9 h9))
  refine sC_Meeting_howOften hB3  (fun z6  h7 => ?_)
  obtain ⟨p8, -⟩ := h7
  exact hQ _ _ ⟨hB3, hF5, (by omega), trivial⟩
set_option maxHeartbeats 4000000 in
set_option maxRecDepth 100000 in
theorem sC_isSound {M : zM} {a0 : Int} (hB : BN wC M) (v0 : (-2147483648) ≤ a0 ∧ a0 ≤ 2147483647) {Q : Int → Prop} (hQ : ∀ (z : Int), (0 ≤ z ∧ z ≤ 1) ∧ ((z = 1 ∧ 1 ≤ a0 ∧ a0 ≤ 9) ∨ (z = 0 ∧ ¬ (1 ≤ a0 ∧ a0 ≤ 9))) ∧ True → Q z) : wC_isSound a0 M Q := by
  unfold wC_isSound
  refine sC_within hB (by omega) (by omega) (by omega) (fun z1  h2 => ?_)
  obtain ⟨p3, p4, -⟩ := h2
  exact hQ _ ⟨(by omega), (by omega), trivial⟩
set_option maxHeartbeats 4000000 in
set_option maxRecDepth 100000 in
theorem sC_Planner_add {M : zM} {a0 : Int} {a1 : Int} (hB : BN wC M) (v0 : 0 ≤ a0 ∧ a0 ≤ 100000) (v1 : 1 ≤ a1 ∧ a1 ≤ 9) {Q : Int → zM → Prop} (hQ : ∀ (z : Int) (M1 : zM), BN wC M1 ∧ (∀ j9 : Nat, ¬ (60 ≤ j9 ∧ j9 ≤ 77) → M1 j9 = M j9) ∧ ((-2147483648) ≤ z ∧ z ≤ 2147483647) ∧ ((M 60 2 < 6 ∧ z = M 60 2 + 1 ∧ M1 60 2 = M 60 2 + 1) ∨ (M 60 2 = 6 ∧ z = -1 ∧ M1 60 2 = M 60 2)) ∧ True → Q z M1) : wC_Planner_add a0 a1 M Q := by
  unfold wC_Planner_add
  have hF0 : ∀ j9 : Nat, ¬ (60 ≤ j9 ∧ j9 ≤ 77) → M j9 = M j9 := fun j9 _ => rfl
  have q1 : 0 ≤ (M 60 2) ∧ (M 60 2) ≤ 6 := BN.at hB (rfl : zcd wC 60 = 19) rfl
  have s2 : sI (M 60 2) = (M 60 2) := sIo (by omega) (by omega)
  refine ⟨fun c3 => ?_, fun c3 => ?_⟩
  · skip
    have o5 : 0 ≤ (sI (M 60 2)) ∧ (sI (M 60 2)) < 6 := by omega
    refine ⟨o5, ?_⟩
    intro M6 e7
    have hB8 : BN wC M6 := by rw [e7]; exact BN.up hB (rfl : zcd wC 61 = 20) rfl (by omega) (by omega)
    have hF9 : ∀ j9 : Nat, ¬ (60 ≤ j9 ∧ j9 ≤ 77) → M6 j9 = M j9 := fun j9 h9 => by rw [e7]; exact (zup_row _ _ (by omega)).trans (hF0 j9 h9)
    have r10 : M6 60 2 = M 60 2 := by rw [e7]; exact zup_n _ _ (by omega)
    have q11 : 0 ≤ (M6 60 2) ∧ (M6 60 2) ≤ 6 := BN.at hB8 (rfl : zcd wC 60 = 19) rfl
    have s12 : sI (M6 60 2) = (M6 60 2) := sIo (by omega) (by omega)
    have o13 : 0 ≤ (sI (M6 60 2)) ∧ (sI (M6 60 2)) < 6 := by omega
    refine ⟨o13, ?_⟩
    intro M14 e15
    have hB16 : BN wC M14 := by rw [e15]; exact BN.up hB8 (rfl : zcd wC 62 = 21) rfl (by omega) (by omega)
    have hF17 : ∀ j9 : Nat, ¬ (60 ≤ j9 ∧ j9 ≤ 77) → M14 j9 = M j9 := fun j9 h9 => by rw [e15]; exact (zup_row _ _ (by omega)).trans (hF9 j9 h9)
    have r18 : M14 60 2 = M6 60 2 := by rw [e15]; exact zup_n _ _ (by omega)
    have q19 : 0 ≤ (M14 60 2) ∧ (M14 60 2) ≤ 6 := BN.at hB16 (rfl : zcd wC 60 = 19) rfl
    intro M20 e21
    have hB22 : BN wC M20 := by rw [e21]; exact BN.up hB16 (rfl : zcd wC 60 = 19) rfl (by omega) (by omega)
    have hF23 : ∀ j9 : Nat, ¬ (60 ≤ j9 ∧ j9 ≤ 77) → M20 j9 = M j9 := fun j9 h9 => by rw [e21]; exact (zup_row _ _ (by omega)).trans (hF17 j9 h9)
    have r24 : M20 60 2 = ((M14 60 2) + 1) := by rw [e21]; exact zup_s _ _ _ _
    have q25 : 0 ≤ (M20 60 2) ∧ (M20 60 2) ≤ 6 := BN.at hB22 (rfl : zcd wC 60 = 19) rfl
    have s26 : sI (M20 60 2) = (M20 60 2) := sIo (by omega) (by omega)
    exact hQ _ _ ⟨hB22, hF23, (by omega), (by omega), trivial⟩
  · skip
    exact hQ _ _ ⟨hB, hF0, (by omega), (by omega), trivial⟩
set_option maxHeartbeats 4000000 in
set_option maxRecDepth 100000 in
theorem sC_mark {M : zM} {a0 : Int} {a1 : Int} (hB : BN wC M) (v0 : (-2147483648) ≤ a0 ∧ a0 ≤ 2147483647) (v1 : (-2147483648) ≤ a1 ∧ a1 ≤ 2147483647) {Q : Int → zM → Prop} (hQ : ∀ (z : Int) (M1 : zM), BN wC M1 ∧ (∀ j9 : Nat, ¬ (60 ≤ j9 ∧ j9 ≤ 77) → M1 j9 = M j9) ∧ ((-2147483648) ≤ z ∧ z ≤ 2147483647) ∧ ((0 ≤ a0 ∧ a0 ≤ 100000 ∧ 1 ≤ a1 ∧ a1 ≤ 9 ∧ M 60 2 < 6 ∧ z = M 60 2 + 1 ∧ M1 60 2 = M 60 2 + 1) ∨ (¬ (0 ≤ a0 ∧ a0 ≤ 100000 ∧ 1 ≤ a1 ∧ a1 ≤ 9 ∧ M 60 2 < 6) ∧ z = -1 ∧ M1 60 2 = M 60 2)) ∧ True → Q z M1) : wC_mark a0 a1 M Q := by
  unfold wC_mark
  have hF0 : ∀ j9 : Nat, ¬ (60 ≤ j9 ∧ j9 ≤ 77) → M j9 = M j9 := fun j9 _ => rfl
  refine sC_within hB (by omega) (by omega) (by omega) (fun z1  h2 => ?_)
  obtain ⟨p3, p4, -⟩ := h2
  refine ⟨fun c5 => ?_, fun c5 => ?_⟩
  · skip
    exact hQ _ _ ⟨hB, hF0, (by omega), (by omega), trivial⟩
  · skip
    refine sC_isSound hB (by omega) (fun z6  h7 => ?_)
    obtain ⟨p8, p9, -⟩ := h7
    refine ⟨fun c10 => ?_, fun c10 => ?_⟩
    · skip
      refine sC_Planner_add hB (by omega) (by omega) (fun z11 M12 h13 => ?_)
      obtain ⟨hB14, f15, p16, p17, -⟩ := h13
      have hF18 : ∀ j9 : Nat, ¬ (60 ≤ j9 ∧ j9 ≤ 77) → M12 j9 = M j9 := fun j9 h9 => ((f15 j9 (by omega)).trans (hF0 j9 h9))
      exact hQ _ _ ⟨hB14, hF18, (by omega), (by omega), trivial⟩
    · skip
      exact hQ _ _ ⟨hB, hF0, (by omega), (by omega), trivial⟩
set_option maxHeartbeats 4000000 in
set_option maxRecDepth 100000 in
theorem sC_Planner_marksTrue {M : zM}  (hB : BN wC M)  {Q : Int → Prop} (hQ : ∀ (z : Int), ((-2147483648) ≤ z ∧ z ≤ 2147483647) ∧ True → Q z) : wC_Planner_marksTrue  M Q := by
  unfold wC_Planner_marksTrue
  refine pL2_of (fun x1 x2 => (0 ≤ x2 ∧ x2 ≤ 1000000) ∧ True) (fun x1 x2 => (1000000 - x2).toNat) ⟨(by omega), trivial⟩ (fun K x1 x2 h4 k5 => ?_)
  obtain ⟨i3, -⟩ := h4
  have q6 : 0 ≤ (M 60 2) ∧ (M 60 2) ≤ 6 := BN.at hB (rfl : zcd wC 60 = 19) rfl
  have s7 : sI x2 = x2 := sIo (by omega) (by omega)
  have s8 : sI (M 60 2) = (M 60 2) := sIo (by omega) (by omega)
  refine ⟨fun c9 => ?_, fun c9 => ?_⟩
  · skip
    have s10 := sI_R x1
    exact hQ _ ⟨(by omega), trivial⟩
  · skip
    have o11 : 0 ≤ (sI x2) ∧ (sI x2) < 6 := by omega
    refine ⟨o11, ?_⟩
    have q12 : 0 ≤ (M 61 (sI x2).toNat) ∧ (M 61 (sI x2).toNat) ≤ 100000 := BN.at hB (rfl : zcd wC 61 = 20) rfl
    have s13 : sI (M 61 (sI x2).toNat) = (M 61 (sI x2).toNat) := sIo (by omega) (by omega)
    refine sC_Studio_heardInAll hB  (fun z14  h15 => ?_)
    obtain ⟨p16, -⟩ := h15
    have o17 : 0 ≤ (sI x2) ∧ (sI x2) < 6 := by omega
    refine ⟨o17, ?_⟩
    have q18 : 0 ≤ (M 62 (sI x2).toNat) ∧ (M 62 (sI x2).toNat) ≤ 9 := BN.at hB (rfl : zcd wC 62 = 21) rfl
    have q19 := shrI_R z14 (M 62 (sI x2).toNat)
    have q20 := andI_br (shrI z14 (M 62 (sI x2).toNat)) (c := 1) (by decide) (by decide)
    have q21 := shlI_R (andI (shrI z14 (M 62 (sI x2).toNat)) 1) x2
    have q22 := orI_R x1 (shlI (andI (shrI z14 (M 62 (sI x2).toNat)) 1) x2)
    intro t23 e24
    exact k5 _ _ ⟨(by omega), trivial⟩ (by omega)
set_option maxHeartbeats 4000000 in
set_option maxRecDepth 100000 in
theorem sC_kept {M : zM}  (hB : BN wC M)  {Q : Int → Prop} (hQ : ∀ (z : Int), ((-2147483648) ≤ z ∧ z ≤ 2147483647) ∧ True → Q z) : wC_kept  M Q := by
  unfold wC_kept
  refine sC_Planner_marksTrue hB  (fun z1  h2 => ?_)
  obtain ⟨p3, -⟩ := h2
  exact hQ _ ⟨(by omega), trivial⟩
theorem sC_fill {M : zM} {a0 : Nat} {a1 : Int} (hB : BN wC M) (lt_a0 : a0 < nC) {q : Nat} {lo hi : Int} (cd_a0 : zcd wC a0 = q) (v1 : -2147483648 ≤ a1 ∧ a1 ≤ 2147483647) (p0 : ∀ k, cbt q k = (lo, hi)) (p1 : lo ≤ a1) (p2 : a1 ≤ hi) {Q : zM → Prop} (hQ : ∀ M1, (BN wC M1 ∧ (∀ j9 : Nat, ¬ (j9 = a0) → M1 j9 = M j9) ∧ (∀ k : Nat, (k : Int) < (zln wC a0 : Int) → M1 a0 k = a1) ∧ True) → Q M1) : wC_fill a0 a1 M Q := by
  unfold wC_fill
  have hz : zln wC a0 < 10000 := (by decide : ∀ j, j < nC → zln wC j < 10000) a0 lt_a0
  refine wL1_of (fun x M4 => BN wC M4 ∧ (∀ j9 : Nat, ¬ (j9 = a0) → M4 j9 = M j9) ∧ (0 ≤ x ∧ x ≤ 1000000) ∧ (∀ k : Nat, (k : Int) < x → M4 a0 k = a1) ∧ True) (fun x _ => (1000000 - x).toNat) ⟨hB, fun _ _ => rfl, by omega, fun k h => by omega, trivial⟩ (fun K x M4 hI hK => ?_)
  obtain ⟨hB4, hF4, i1, i2, -⟩ := hI
  have s2 : sI x = x := sIo (by omega) (by omega)
  refine ⟨fun c => hQ _ ⟨hB4, hF4, fun k hk => i2 k (by omega), trivial⟩, fun c => ?_⟩
  refine ⟨⟨by omega, by omega⟩, ?_⟩
  intro M5 e5
  refine hK _ _ ⟨by rw [e5]; exact BN.up hB4 cd_a0 (p0 _) p1 p2, fun j9 h9 => by rw [e5, zup_row _ _ h9]; exact hF4 j9 h9, by omega, fun k hk => ?_, trivial⟩ (by omega)
  rw [e5]
  by_cases h : k = (sI x).toNat
  · subst h
    exact zup_s _ _ _ _
  · rw [zup_n _ _ (fun q => h q.2)]
    exact i2 k (by omega)
set_option maxHeartbeats 4000000 in
set_option maxRecDepth 100000 in
theorem sC_Planner_trueFrom {M : zM} {a0 : Int} {a1 : Int} (hB : BN wC M) (v0 : 0 ≤ a0 ∧ a0 ≤ 23) (v1 : 0 ≤ a1 ∧ a1 ≤ 24) {Q : Int → Prop} (hQ : ∀ (z : Int), (0 ≤ z ∧ z ≤ 63) ∧ True → Q z) : wC_Planner_trueFrom a0 a1 M Q := by
  unfold wC_Planner_trueFrom
  refine pL2_of (fun x1 x2 => (0 ≤ x1 ∧ x1 ≤ 63) ∧ (0 ≤ x2 ∧ x2 ≤ 1000000) ∧ True) (fun x1 x2 => (1000000 - x2).toNat) ⟨(by omega), (by omega), trivial⟩ (fun K x1 x2 h5 k6 => ?_)
  obtain ⟨i3, i4, -⟩ := h5
  have q7 : 0 ≤ (M 60 2) ∧ (M 60 2) ≤ 6 := BN.at hB (rfl : zcd wC 60 = 19) rfl
  have s8 : sI x2 = x2 := sIo (by omega) (by omega)
  have s9 : sI (M 60 2) = (M 60 2) := sIo (by omega) (by omega)
  refine ⟨fun c10 => ?_, fun c10 => ?_⟩
  · skip
    have s11 : sI x1 = x1 := sIo (by omega) (by omega)
    exact hQ _ ⟨(by omega), trivial⟩
  · skip
    have o12 : 0 ≤ (sI x2) ∧ (sI x2) < 6 := by omega
    refine ⟨o12, ?_⟩
    have q13 : (-2147483648) ≤ (M 77 (sI x2).toNat) ∧ (M 77 (sI x2).toNat) ≤ 2147483647 := BN.at hB (rfl : zcd wC 77 = 29) rfl
    have s14 := sI_R (a0 + (M 77 (sI x2).toNat))
    refine sC_by hB (by omega) (fun z15  h16 => ?_)
    obtain ⟨p17, p18, p19, -⟩ := h16
    have o20 : 0 ≤ z15 ∧ z15 < 24 := by omega
    refine ⟨o20, ?_⟩
    have q21 : (-2147483648) ≤ (M 76 z15.toNat) ∧ (M 76 z15.toNat) ≤ 2147483647 := BN.at hB (rfl : zcd wC 76 = 28) rfl
    have o22 : 0 ≤ (sI x2) ∧ (sI x2) < 6 := by omega
    refine ⟨o22, ?_⟩
    have q23 : 0 ≤ (M 62 (sI x2).toNat) ∧ (M 62 (sI x2).toNat) ≤ 9 := BN.at hB (rfl : zcd wC 62 = 21) rfl
    have q24 := shrI_R (M 76 z15.toNat) (M 62 (sI x2).toNat)
    have q25 := andI_br (shrI (M 76 z15.toNat) (M 62 (sI x2).toNat)) (c := 1) (by decide) (by decide)
    have q26 := shl01 (andI (shrI (M 76 z15.toNat) (M 62 (sI x2).toNat)) 1) x2 (by omega) (by omega) (by omega) (by omega)
    have q27 := or64 x1 (shlI (andI (shrI (M 76 z15.toNat) (M 62 (sI x2).toNat)) 1) x2) (by omega) (by omega) (by omega) (by omega)
    intro t28 e29
    exact k6 _ _ ⟨(by omega), (by omega), trivial⟩ (by omega)
set_option maxHeartbeats 4000000 in
set_option maxRecDepth 100000 in
theorem sC_Planner_listTrue {M : zM} {a0 : Nat} {a1 : Nat} {a2 : Nat} (hB : BN wC M) (lt_a0 : a0 < nC) (cd_a0 : zcd wC a0 = 14) (lt_a1 : a1 < nC) (cd_a1 : zcd wC a1 = 11) (lt_a2 : a2 < nC) (cd_a2 : zcd wC a2 = 24) {Q : zM → Prop} (hQ : ∀ (M1 : zM), BN wC M1 ∧ (∀ j9 : Nat, ¬ (j9 = a2 ∨ j9 = 76 ∨ j9 = 77) → M1 j9 = M j9) ∧ True → Q M1) : wC_Planner_listTrue a0 a1 a2 M Q := by
  unfold wC_Planner_listTrue
  have hF0 : ∀ j9 : Nat, ¬ (j9 = a2 ∨ j9 = 76 ∨ j9 = 77) → M j9 = M j9 := fun j9 _ => rfl
  have hln_a2 : zln wC a2 = 300 := zln_of cd_a2 rfl
  obtain ⟨lt1, cd2, lt3, cd4, lt5, cd6⟩ := nx_ring a0 lt_a0 cd_a0
  obtain ⟨lt7, cd8, lt9, cd10⟩ := nx_motor a1 lt_a1 cd_a1
  have q11 : 0 ≤ (M (a0 + 1) 1) ∧ (M (a0 + 1) 1) ≤ 24 := BN.at hB cd2 rfl
  refine wL2_of (fun x12 x13 M14 => BN wC M14 ∧ (∀ j9 : Nat, ¬ (j9 = a2 ∨ j9 = 76 ∨ j9 = 77) → M14 j9 = M j9) ∧ (0 ≤ x12 ∧ x12 ≤ 1000000) ∧ (0 ≤ x13 ∧ x13 ≤ 24) ∧ True) (fun x12 x13 M14 => (x13 + 1).toNat) ⟨hB, hF0, (by omega), (by omega), trivial⟩ (fun K x12 x13 M14 h19 k20 => ?_)
  obtain ⟨hB15, hF16, i17, i18, -⟩ := h19
  have s21 : sI x13 = x13 := sIo (by omega) (by omega)
  refine ⟨fun c22 => ?_, fun c22 => ?_⟩
  · skip
    exact hQ _ ⟨hB15, hF16, trivial⟩
  · skip
    refine sC_Ring_fillUnder hB15 lt_a0 cd_a0 (by decide) (rfl : zcd wC 76 = 28) (by omega) (fun _ => rfl) (fun  M23 h24 => ?_)
    obtain ⟨hB25, f26, -⟩ := h24
    have hF27 : ∀ j9 : Nat, ¬ (j9 = a2 ∨ j9 = 76 ∨ j9 = 77) → M23 j9 = M j9 := fun j9 h9 => ((f26 j9 (by omega)).trans (hF16 j9 h9))
    refine wL1_of (fun x28 M29 => BN wC M29 ∧ (∀ j9 : Nat, ¬ (j9 = a2 ∨ j9 = 76 ∨ j9 = 77) → M29 j9 = M j9) ∧ (0 ≤ x28 ∧ x28 ≤ 1000000) ∧ True) (fun x28 M29 => (1000000 - x28).toNat) ⟨hB25, hF27, (by omega), trivial⟩ (fun K x28 M29 h33 k34 => ?_)
    obtain ⟨hB30, hF31, i32, -⟩ := h33
    have q35 : 0 ≤ (M29 60 2) ∧ (M29 60 2) ≤ 6 := BN.at hB30 (rfl : zcd wC 60 = 19) rfl
    have s36 : sI x28 = x28 := sIo (by omega) (by omega)
    have s37 : sI (M29 60 2) = (M29 60 2) := sIo (by omega) (by omega)
    refine ⟨fun c38 => ?_, fun c38 => ?_⟩
    · skip
      refine wL2_of (fun x39 x40 M41 => BN wC M41 ∧ (∀ j9 : Nat, ¬ (j9 = a2 ∨ j9 = 76 ∨ j9 = 77) → M41 j9 = M j9) ∧ (0 ≤ x39 ∧ x39 ≤ 1000000) ∧ (0 ≤ x40 ∧ x40 ≤ 1000000) ∧ True) (fun x39 x40 M41 => (1000000 - x40).toNat) ⟨hB30, hF31, (by omega), (by omega), trivial⟩ (fun K x39 x40 M41 h46 k47 => ?_)
      obtain ⟨hB42, hF43, i44, i45, -⟩ := h46
      have s48 : sI x40 = x40 := sIo (by omega) (by omega)
      have s49 : sI x13 = x13 := sIo (by omega) (by omega)
      refine ⟨fun c50 => ?_, fun c50 => ?_⟩
      · skip
        exact k20 _ _ _ ⟨hB42, hF43, (by omega), (by omega), trivial⟩ (by omega)
      · skip
        have s51 : sI x39 = x39 := sIo (by omega) (by omega)
        refine ⟨fun c52 => ?_, fun c52 => ?_⟩
        · skip
          exact k20 _ _ _ ⟨hB42, hF43, (by omega), (by omega), trivial⟩ (by omega)
        · skip
          refine sC_Planner_trueFrom hB42 (by omega) (by omega) (fun z53  h54 => ?_)
          obtain ⟨p55, -⟩ := h54
          have o56 : 0 ≤ (sI x39) ∧ (sI x39) < (zln wC a2) := by omega
          refine ⟨o56, ?_⟩
          intro M57 e58
          have hB59 : BN wC M57 := by rw [e58]; exact BN.up hB42 cd_a2 rfl (by omega) (by omega)
          have hF60 : ∀ j9 : Nat, ¬ (j9 = a2 ∨ j9 = 76 ∨ j9 = 77) → M57 j9 = M j9 := fun j9 h9 => by rw [e58]; exact (zup_row _ _ (by omega)).trans (hF43 j9 h9)
          exact k47 _ _ _ ⟨hB59, hF60, (by omega), (by omega), trivial⟩ (by omega)
    · skip
      have o61 : 0 ≤ (sI x28) ∧ (sI x28) < 6 := by omega
      refine ⟨o61, ?_⟩
      have q62 : 0 ≤ (M29 61 (sI x28).toNat) ∧ (M29 61 (sI x28).toNat) ≤ 100000 := BN.at hB30 (rfl : zcd wC 61 = 20) rfl
      have s63 : sI (M29 61 (sI x28).toNat) = (M29 61 (sI x28).toNat) := sIo (by omega) (by omega)
      refine sC_Motor_wayBy hB30 lt_a1 cd_a1 (by omega) (fun z64  h65 => ?_)
      obtain ⟨p66, p67, p68, -⟩ := h65
      have o69 : 0 ≤ (sI x28) ∧ (sI x28) < 6 := by omega
      refine ⟨o69, ?_⟩
      intro M70 e71
      have hB72 : BN wC M70 := by rw [e71]; exact BN.up hB30 (rfl : zcd wC 77 = 29) rfl (by omega) (by omega)
      have hF73 : ∀ j9 : Nat, ¬ (j9 = a2 ∨ j9 = 76 ∨ j9 = 77) → M70 j9 = M j9 := fun j9 h9 => by rw [e71]; exact (zup_row _ _ (by omega)).trans (hF31 j9 h9)
      exact k34 _ _ ⟨hB72, hF73, (by omega), trivial⟩ (by omega)
/-- where a row begins in a triangle of rows, each shorter by one -/
def trI (n : Int) : Nat → Int
  | 0 => 0
  | c + 1 => trI n c + (n - c)
theorem trI_le0 : ∀ n : Nat, n < 25 → ∀ c : Nat, c < n → 0 ≤ trI n c ∧ trI n c + (n - c) ≤ 300 := by decide +kernel
theorem trI_le {n : Int} (h0 : 0 ≤ n) (h1 : n ≤ 24) {c : Nat} (hc : (c : Int) < n) : 0 ≤ trI n c ∧ trI n c + (n - c) ≤ 300 := by
  have h := trI_le0 n.toNat (by omega) c (by omega)
  rw [Int.toNat_of_nonneg h0] at h
  exact h
theorem trI_s (n : Int) (c : Int) (h : 0 ≤ c) : trI n (c + 1).toNat = trI n c.toNat + (n - c) := by
  rw [show (c + 1).toNat = c.toNat + 1 by omega]
  show trI n c.toNat + (n - (c.toNat : Int)) = _
  rw [Int.toNat_of_nonneg h]
theorem sC_Planner_cost {M : zM} {a0 : Nat} {a1 a2 : Int} (hB : BN wC M) (lt_a0 : a0 < nC) (cd_a0 : zcd wC a0 = 14) (v1 : 0 ≤ a1 ∧ a1 ≤ 23) (v2 : 0 ≤ a2 ∧ a2 ≤ 23) {Q : Int → Prop} (hQ : ∀ z, ((0 ≤ z ∧ z ≤ 200) ∧ z = 5 * a1 + absI (a2 - M a0 2) ∧ True) → Q z) : wC_Planner_cost a0 a1 a2 M Q := by
  unfold wC_Planner_cost
  have b : 0 ≤ M a0 2 ∧ M a0 2 ≤ 23 := BN.at hB cd_a0 rfl
  have s1 : sI (a2 - M a0 2) = a2 - M a0 2 := sIo (by omega) (by omega)
  have ab := absI_b (a2 - M a0 2)
  rw [s1, sIo (by omega) (by omega)]
  exact hQ _ ⟨by omega, rfl, trivial⟩
/-- what stands in cheapest: by which cut and start -/
def CHC (M : zM) (len : Int) (r a : Nat) (row : Nat → Int) : Prop := ∀ s : Nat, s < 64 → row s = 1000000 ∨ ∃ c t : Nat, (c : Int) < len ∧ (t : Int) < len - c ∧ M a (trI len c + t).toNat = s ∧ row s = 5 * c + absI (t - M r 2)
set_option maxHeartbeats 4000000 in
theorem sC_Planner_listCheapest {M : zM} {a0 a1 : Nat} (hB : BN wC M) (lt_a0 : a0 < nC) (cd_a0 : zcd wC a0 = 14) (lt_a1 : a1 < nC) (cd_a1 : zcd wC a1 = 24) {Q : zM → Prop} (hQ : ∀ M1, (BN wC M1 ∧ (∀ j9 : Nat, ¬ (j9 = 75) → M1 j9 = M j9) ∧ CHC M (M (a0 + 1) 1) a0 a1 (M1 75) ∧ True) → Q M1) : wC_Planner_listCheapest a0 a1 M Q := by
  unfold wC_Planner_listCheapest
  obtain ⟨lt1, cd1, -, -, -, -⟩ := nx_ring a0 lt_a0 cd_a0
  have hln : zln wC a1 = 300 := zln_of cd_a1 rfl
  have n0 : a0 ≠ 75 := by rintro rfl; exact absurd cd_a0 (by decide)
  have n1 : a0 + 1 ≠ 75 := by intro h; rw [h] at cd1; exact absurd cd1 (by decide)
  have n2 : a1 ≠ 75 := by rintro rfl; exact absurd cd_a1 (by decide)
  refine sC_fill hB (by decide) (rfl : zcd wC 75 = 27) (by omega) (fun _ => rfl) (by omega) (by omega) (fun M1 hp => ?_)
  obtain ⟨hB1, hF1, hfull, -⟩ := hp
  obtain ⟨L, eL⟩ : ∃ L, L = M (a0 + 1) 1 := ⟨_, rfl⟩
  rw [← eL] at hQ
  have bL : 0 ≤ L ∧ L ≤ 24 := by rw [eL]; exact BN.at hB cd1 rfl
  refine wL2_of (fun k c M4 => BN wC M4 ∧ (∀ j9 : Nat, ¬ (j9 = 75) → M4 j9 = M j9) ∧ (0 ≤ c ∧ c ≤ L) ∧ k = trI L c.toNat ∧ CHC M L a0 a1 (M4 75) ∧ True) (fun _ c _ => (100 - c).toNat) ⟨hB1, hF1, by omega, rfl, fun s hs => Or.inl (hfull s (by have hz75 : zln wC 75 = 64 := zln_of (rfl : zcd wC 75 = 27) rfl; omega)), trivial⟩ (fun K k c M4 hI hK => ?_)
  obtain ⟨hB4, hF4, ic, ik, iC, -⟩ := hI
  have s1 : sI (M4 (a0 + 1) 1) = L := by rw [hF4 _ n1, ← eL]; exact sIo (by omega) (by omega)
  have s2 : sI c = c := sIo (by omega) (by omega)
  refine ⟨fun c1 => hQ _ ⟨hB4, hF4, iC, trivial⟩, fun c1 => ?_⟩
  have hcl : c < L := by omega
  have tb := trI_le bL.1 bL.2 (c := c.toNat) (by omega)
  have hcn : (c.toNat : Int) = c := Int.toNat_of_nonneg ic.1
  refine wL2_of (fun k2 t M5 => BN wC M5 ∧ (∀ j9 : Nat, ¬ (j9 = 75) → M5 j9 = M j9) ∧ (0 ≤ t ∧ t ≤ L - c) ∧ k2 = trI L c.toNat + t ∧ CHC M L a0 a1 (M5 75) ∧ True) (fun _ t _ => (100 - t).toNat) ⟨hB4, hF4, by omega, by omega, iC, trivial⟩ (fun K2 k2 t M5 hI2 hK2 => ?_)
  obtain ⟨hB5, hF5, it, ik2, iC5, -⟩ := hI2
  have s3 : sI (M5 (a0 + 1) 1 - c) = L - c := by rw [hF5 _ n1, ← eL]; exact sIo (by omega) (by omega)
  have s4 : sI t = t := sIo (by omega) (by omega)
  have s5 : sI k2 = k2 := sIo (by omega) (by omega)
  refine ⟨fun c2 => hK _ _ _ ⟨hB5, hF5, by omega, ?_, iC5, trivial⟩ (by omega), fun c2 => ⟨fun c3 => absurd c3 (by omega), fun c3 => ?_⟩⟩
  · rw [trI_s L c ic.1]
    omega
  · have bm : 0 ≤ M5 a1 (sI k2).toNat ∧ M5 a1 (sI k2).toNat ≤ 63 := BN.at hB5 cd_a1 rfl
    have s6 : sI (M5 a1 (sI k2).toNat) = M5 a1 (sI k2).toNat := sIo (by omega) (by omega)
    have b7 : 0 ≤ M5 75 (sI (M5 a1 (sI k2).toNat)).toNat ∧ M5 75 (sI (M5 a1 (sI k2).toNat)).toNat ≤ 1000000 := BN.at hB5 (rfl : zcd wC 75 = 27) rfl
    have s7 : sI (M5 75 (sI (M5 a1 (sI k2).toNat)).toNat) = M5 75 (sI (M5 a1 (sI k2).toNat)).toNat := sIo (by omega) (by omega)
    refine ⟨by omega, by omega, by omega, ?_⟩
    refine sC_Planner_cost hB5 lt_a0 cd_a0 (by omega) (by omega) (fun z hp => ?_)
    obtain ⟨p1, p2, -⟩ := hp
    refine ⟨by omega, ?_⟩
    intro M6 e6
    refine hK2 _ _ _ ⟨by rw [e6]; exact BN.up hB5 (rfl : zcd wC 75 = 27) rfl (by omega) (by omega), fun j9 h9 => by rw [e6, zup_row _ _ h9]; exact hF5 j9 h9, by omega, by omega, ?_, trivial⟩ (by omega)
    intro s hs
    rw [e6]
    by_cases h : s = (sI (M5 a1 (sI k2).toNat)).toNat
    · rw [h, zup_s]
      rcases Int.le_total (sI (M5 75 (sI (M5 a1 (sI k2).toNat)).toNat)) z with hm | hm
      · rw [Int.min_eq_left hm, s7, ← h]
        exact iC5 s hs
      · rw [Int.min_eq_right hm]
        refine Or.inr ⟨c.toNat, t.toNat, by omega, by omega, ?_, ?_⟩
        · rw [Int.toNat_of_nonneg it.1, ← ik2, ← hF5 a1 n2]
          have s8 : M5 a1 k2.toNat = M5 a1 (sI k2).toNat := by rw [s5]
          omega
        · rw [hcn, Int.toNat_of_nonneg it.1, p2, hF5 a0 n0]
    · rw [zup_n _ _ (fun q => h q.2)]
      exact iC5 s hs
/-- what stands in a row of costs: out of the cheapest and the row behind -/
def ACC (M : zM) (sets : Int) (b0 : Nat) (ch row : Nat → Int) : Prop := ∀ w : Nat, (w : Int) < sets → row w = 1000000 ∨ ∃ g : Nat, (g : Int) < sets ∧ row w = ch g + M b0 (andI w (xorI g (-1))).toNat
set_option maxHeartbeats 4000000 in
theorem sC_Planner_addCosts {M : zM} {a0 a1 : Nat} (hB : BN wC M) (lt_a0 : a0 < nC) (cd_a0 : zcd wC a0 = 26) (lt_a1 : a1 < nC) (cd_a1 : zcd wC a1 = 26) (p0 : a0 ≠ a1) {Q : zM → Prop} (hQ : ∀ M1, (BN wC M1 ∧ (∀ j9 : Nat, ¬ (j9 = a1) → M1 j9 = M j9) ∧ ACC M (shlI 1 (M 60 2)) a0 (M 75) (M1 a1) ∧ True) → Q M1) : wC_Planner_addCosts a0 a1 M Q := by
  unfold wC_Planner_addCosts
  have l0 : zln wC a0 = 64 := zln_of cd_a0 rfl
  have l1 : zln wC a1 = 64 := zln_of cd_a1 rfl
  have n1 : 75 ≠ a1 := by rintro rfl; exact absurd cd_a1 (by decide)
  have b1 : 0 ≤ M 60 2 ∧ M 60 2 ≤ 6 := BN.at hB (rfl : zcd wC 60 = 19) rfl
  have bs := shl1_b (M 60 2) b1.1 b1.2
  obtain ⟨S, eS⟩ : ∃ S, S = shlI 1 (M 60 2) := ⟨_, rfl⟩
  rw [← eS] at hQ bs ⊢
  refine wL1_of (fun x M4 => BN wC M4 ∧ (∀ j9 : Nat, ¬ (j9 = a1) → M4 j9 = M j9) ∧ (0 ≤ x ∧ x ≤ 64) ∧ (∀ w : Nat, (w : Int) < x → M4 a1 w = 1000000 ∨ ∃ g : Nat, (g : Int) < S ∧ M4 a1 w = M 75 g + M a0 (andI w (xorI g (-1))).toNat) ∧ True) (fun x _ => (100 - x).toNat) ⟨hB, fun _ _ => rfl, by omega, fun w h => by omega, trivial⟩ (fun K x M4 hI hK => ?_)
  obtain ⟨hB4, hF4, ix, iA, -⟩ := hI
  have s1 : sI x = x := sIo (by omega) (by omega)
  refine ⟨fun c => hQ _ ⟨hB4, hF4, fun w hw => iA w (by omega), trivial⟩, fun c => ?_⟩
  refine pL2_of (fun y t => (0 ≤ t ∧ t ≤ 64) ∧ (0 ≤ y ∧ y ≤ 1000000) ∧ (y = 1000000 ∨ ∃ g : Nat, (g : Int) < S ∧ y = M 75 g + M a0 (andI x (xorI g (-1))).toNat) ∧ True) (fun _ t => (100 - t).toNat) ⟨by omega, by omega, Or.inl rfl, trivial⟩ (fun K2 y t hI2 hK2 => ?_)
  obtain ⟨it, iy, ig, -⟩ := hI2
  have s2 : sI t = t := sIo (by omega) (by omega)
  have s3 : sI y = y := sIo (by omega) (by omega)
  refine ⟨fun c2 => ⟨by omega, ?_⟩, fun c2 => ?_⟩
  · intro M5 e5
    refine hK _ _ ⟨by rw [e5]; exact BN.up hB4 cd_a1 rfl (by omega) (by omega), fun j9 h9 => by rw [e5, zup_row _ _ h9]; exact hF4 j9 h9, by omega, ?_, trivial⟩ (by omega)
    intro w hw
    rw [e5]
    by_cases h : w = (sI x).toNat
    · have hx : (w : Int) = x := by omega
      rw [h, zup_s, ← h, hx]
      exact ig
    · rw [zup_n _ _ (fun q => h q.2)]
      exact iA w (by omega)
  · have ba := andI_le x (xorI t (-1)) (by omega) (by omega)
    have b7 : 0 ≤ M4 75 (sI t).toNat ∧ M4 75 (sI t).toNat ≤ 1000000 := BN.at hB4 (rfl : zcd wC 75 = 27) rfl
    have b8 : 0 ≤ M4 a0 (andI x (xorI t (-1))).toNat ∧ M4 a0 (andI x (xorI t (-1))).toNat ≤ 1000000 := BN.at hB4 cd_a0 rfl
    have s4 : sI (M4 75 (sI t).toNat + M4 a0 (andI x (xorI t (-1))).toNat) = M4 75 (sI t).toNat + M4 a0 (andI x (xorI t (-1))).toNat := sIo (by omega) (by omega)
    refine ⟨by omega, by omega, ?_⟩
    intro v ev
    refine hK2 _ _ ⟨by omega, by omega, ?_, trivial⟩ (by omega)
    rw [s3, s4] at ev
    rcases Int.le_total y (M4 75 (sI t).toNat + M4 a0 (andI x (xorI t (-1))).toNat) with hm | hm
    · rw [Int.min_eq_left hm] at ev
      rw [ev]
      exact ig
    · rw [Int.min_eq_right hm] at ev
      refine Or.inr ⟨t.toNat, by omega, ?_⟩
      rw [ev, hF4 75 n1, hF4 a0 p0, Int.toNat_of_nonneg it.1, s2]
