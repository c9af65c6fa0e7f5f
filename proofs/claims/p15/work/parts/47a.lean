section zz47b_motor
/-! what the two worlds do alike: the motors -/
def mo (n : Int) (T S : Nat → Int) (nR : Int) (TR SR : Nat → Int) : Prop := n = nR ∧ ∀ i : Nat, (i : Int) < n → T i = TR i ∧ S i = SR i
/-- what is told: of n ticks and speeds, z, and n1 ticks and speeds then -/
def tellS (n : Int) (T S : Nat → Int) (t v z n1 : Int) (T1 S1 : Nat → Int) : Prop := ∃ p : Nat, (p : Int) ≤ n ∧ (∀ i : Nat, i < p → T i < t) ∧ ((p : Int) < n → t ≤ T p) ∧ (((p : Int) < n ∧ T p = t ∧ z = 1 ∧ n1 = n ∧ ∀ i : Nat, (i : Int) < n → T1 i = T i ∧ S1 i = (if i = p then v else S i)) ∨ (¬ ((p : Int) < n ∧ T p = t) ∧ n = 12 ∧ z = 0 ∧ n1 = n ∧ ∀ i : Nat, (i : Int) < n → T1 i = T i ∧ S1 i = S i) ∨ (¬ ((p : Int) < n ∧ T p = t) ∧ n < 12 ∧ z = 1 ∧ n1 = n + 1 ∧ ∀ i : Nat, (i : Int) < n + 1 → T1 i = (if i < p then T i else if i = p then t else T (i - 1)) ∧ S1 i = (if i < p then S i else if i = p then v else S (i - 1))))
theorem tell_det {n nR t v z n1 zR nR1 : Int} {T S TR SR T1 S1 TR1 SR1 : Nat → Int} (h : mo n T S nR TR SR) (P : tellS n T S t v z n1 T1 S1) (R : tellS nR TR SR t v zR nR1 TR1 SR1) : z = zR ∧ mo n1 T1 S1 nR1 TR1 SR1 := by
  obtain ⟨hn, hTS⟩ := h
  obtain ⟨p, p1, p2, p3, p4⟩ := P
  obtain ⟨q, q1, q2, q3, q4⟩ := R
  have e : p = q := by
    rcases Nat.lt_trichotomy p q with c | c | c
    · have a := q2 p c
      have b := p3 (by omega)
      have d := (hTS p (by omega)).1
      omega
    · exact c
    · have a := p2 q c
      have b := q3 (by omega)
      have d := (hTS q (by omega)).1
      omega
  subst e
  have hp : (p : Int) < n → T p = TR p := fun c => (hTS p c).1
  rcases p4 with A | A | A
  · obtain ⟨a1, a2, a3, a4, a5⟩ := A
    rcases q4 with B | B | B
    · obtain ⟨b1, b2, b3, b4, b5⟩ := B
      refine ⟨by omega, by omega, fun i hi => ?_⟩
      have x := a5 i (by omega)
      have y := b5 i (by omega)
      have w := hTS i (by omega)
      rw [x.1, x.2, y.1, y.2]
      refine ⟨w.1, ?_⟩
      by_cases c : i = p
      · rw [if_pos c, if_pos c]
      · rw [if_neg c, if_neg c]
        exact w.2
    · exfalso
      obtain ⟨b1, b2, -⟩ := B
      exact b1 ⟨by omega, by have := hp a1; omega⟩
    · exfalso
      obtain ⟨b1, b2, -⟩ := B
      exact b1 ⟨by omega, by have := hp a1; omega⟩
  · obtain ⟨a1, a2, a3, a4, a5⟩ := A
    rcases q4 with B | B | B
    · exfalso
      obtain ⟨b1, b2, -⟩ := B
      exact a1 ⟨by omega, by have := hp (by omega); omega⟩
    · obtain ⟨b1, b2, b3, b4, b5⟩ := B
      refine ⟨by omega, by omega, fun i hi => ?_⟩
      have x := a5 i (by omega)
      have y := b5 i (by omega)
      have w := hTS i (by omega)
      rw [x.1, x.2, y.1, y.2]
      exact w
    · exfalso
      obtain ⟨b1, b2, -⟩ := B
      omega
  · obtain ⟨a1, a2, a3, a4, a5⟩ := A
    rcases q4 with B | B | B
    · exfalso
      obtain ⟨b1, b2, -⟩ := B
      exact a1 ⟨by omega, by have := hp (by omega); omega⟩
    · exfalso
      obtain ⟨b1, b2, -⟩ := B
      omega
    · obtain ⟨b1, b2, b3, b4, b5⟩ := B
      refine ⟨by omega, by omega, fun i hi => ?_⟩
      have x := a5 i (by omega)
      have y := b5 i (by omega)
      rw [x.1, x.2, y.1, y.2]
      by_cases c1 : i < p
      · have w := hTS i (by omega)
        rw [if_pos c1, if_pos c1, if_pos c1, if_pos c1]
        exact w
      · rw [if_neg c1, if_neg c1, if_neg c1, if_neg c1]
        by_cases c2 : i = p
        · rw [if_pos c2, if_pos c2, if_pos c2, if_pos c2]
          exact ⟨rfl, rfl⟩
        · have w := hTS (i - 1) (by omega)
          rw [if_neg c2, if_neg c2, if_neg c2, if_neg c2]
          exact w
set_option maxHeartbeats 4000000 in
theorem fC_Motor_tell {M : zM} {j : Nat} {a0 a1 : Int} (hB : BN wC M) (lt_j : j < nC) (cd_j : zcd wC j = 11) (v0 : 0 ≤ a0 ∧ a0 ≤ 5000) (v1 : -9 ≤ a1 ∧ a1 ≤ 9) {Q : Int → zM → Prop} (hQ : ∀ (z : Int) (M1 : zM), BN wC M1 ∧ (∀ j9 : Nat, ¬ (j ≤ j9 ∧ j9 ≤ j + 2) → M1 j9 = M j9) ∧ tellS (M j 2) (M (j + 1)) (M (j + 2)) a0 a1 z (M1 j 2) (M1 (j + 1)) (M1 (j + 2)) → Q z M1) : wC_Motor_tell j a0 a1 M Q := by
  unfold wC_Motor_tell
  obtain ⟨lt1, cd2, lt3, cd4⟩ := nx_motor j lt_j cd_j
  have bn : 0 ≤ M j 2 ∧ M j 2 ≤ 12 := BN.at hB cd_j rfl
  have sn : sI (M j 2) = M j 2 := sIo (by omega) (by omega)
  have bT : ∀ i, sI (M (j + 1) i) = M (j + 1) i := fun i => by
    have b : 0 ≤ M (j + 1) i ∧ M (j + 1) i ≤ 5000 := BN.at hB cd2 rfl
    exact sIo (by omega) (by omega)
  have s0 : sI a0 = a0 := sIo (by omega) (by omega)
  refine pL1_of (fun x => (0 ≤ x ∧ x ≤ M j 2) ∧ ∀ i : Nat, (i : Int) < x → M (j + 1) i < a0) (fun x => (100 - x).toNat) ⟨⟨by omega, by omega⟩, fun i hi => absurd hi (by omega)⟩ (fun K x h k => ?_)
  obtain ⟨h1, h2⟩ := h
  have sx : sI x = x := sIo (by omega) (by omega)
  simp only [sx, sn, s0, bT]
  refine pJ0_of (M j 2 ≤ x ∨ a0 ≤ M (j + 1) x.toNat) (fun hJ => ?_) ⟨fun c => Or.inl c, fun c => ⟨⟨by omega, by omega⟩, fun c2 => Or.inr c2, fun c2 => k _ ⟨⟨by omega, by omega⟩, fun i hi => ?_⟩ (by omega)⟩⟩
  · refine pJ0_of (¬ (x < M j 2 ∧ M (j + 1) x.toNat = a0)) (fun hN => ?_) ⟨fun c => fun h => by omega, fun c => ⟨⟨by omega, by omega⟩, fun c2 => fun h => c2 h.2, fun c2 => ⟨⟨by omega, by omega⟩, fun M61 e61 => ?_⟩⟩⟩
    · refine ⟨fun c => ?_, fun c => ?_⟩
      · refine wL1_of (fun y M2 => BN wC M2 ∧ (∀ j9 : Nat, ¬ (j ≤ j9 ∧ j9 ≤ j + 2) → M2 j9 = M j9) ∧ M2 j 2 = M j 2 ∧ (x ≤ y ∧ y ≤ M j 2) ∧ (∀ i : Nat, M2 (j + 1) i = if (i : Int) ≤ y ∨ M j 2 < i then M (j + 1) i else M (j + 1) (i - 1)) ∧ (∀ i : Nat, M2 (j + 2) i = if (i : Int) ≤ y ∨ M j 2 < i then M (j + 2) i else M (j + 2) (i - 1))) (fun y _ => (y + 1).toNat) ⟨hB, fun _ _ => rfl, rfl, ⟨by omega, by omega⟩, fun i => by rw [if_pos (by omega)], fun i => by rw [if_pos (by omega)]⟩ (fun K2 y M2 h9 k9 => ?_)
        obtain ⟨b2, f2, n2, y2, t2, u2⟩ := h9
        have sy : sI y = y := sIo (by omega) (by omega)
        simp only [sy]
        refine ⟨fun c4 => ?_, fun c4 => ?_⟩
        · refine ⟨⟨by omega, by omega⟩, ?_⟩
          intro M3 e3
          refine ⟨⟨by omega, by omega⟩, ?_⟩
          intro M4 e4 M5 e5
          have b3 : BN wC M3 := by rw [e3]; exact BN.up b2 cd2 rfl (by omega) (by omega)
          have b4 : BN wC M4 := by rw [e4]; exact BN.up b3 cd4 rfl (by omega) (by omega)
          have n4 : M4 j 2 = M j 2 := by rw [e4, zup_n _ _ (by omega), e3, zup_n _ _ (by omega)]; exact n2
          have b5 : BN wC M5 := by rw [e5]; exact BN.up b4 cd_j rfl (by omega) (by omega)
          refine hQ _ _ ⟨b5, fun j9 h9 => by rw [e5, zup_row _ _ (by omega), e4, zup_row _ _ (by omega), e3, zup_row _ _ (by omega)]; exact f2 j9 h9, x.toNat, by omega, fun i hi => h2 i (by omega), fun h => ?_, Or.inr (Or.inr ⟨fun h => hN ⟨by omega, h.2⟩, by omega, rfl, by rw [e5, zup_s]; omega, fun i hi => ⟨?_, ?_⟩⟩)⟩
          · rcases hJ with hJ | hJ
            · omega
            · exact hJ
          · rw [e5, zup_n _ _ (by omega), e4, zup_n _ _ (by omega), e3]
            by_cases c5 : i = x.toNat
            · rw [c5, zup_s, if_neg (by omega), if_pos rfl]
            · rw [zup_n _ _ (by omega), t2 i]
              by_cases c6 : i < x.toNat
              · rw [if_pos (by omega), if_pos c6]
              · rw [if_neg (by omega), if_neg c6, if_neg c5]
          · rw [e5, zup_n _ _ (by omega), e4]
            by_cases c5 : i = x.toNat
            · rw [c5, zup_s, if_neg (by omega), if_pos rfl]
            · rw [zup_n _ _ (by omega), e3, zup_n _ _ (by omega), u2 i]
              by_cases c6 : i < x.toNat
              · rw [if_pos (by omega), if_pos c6]
              · rw [if_neg (by omega), if_neg c6, if_neg c5]
        · have sy1 : sI (y - 1) = y - 1 := sIo (by omega) (by omega)
          simp only [sy1]
          have bt : 0 ≤ M2 (j + 1) (y - 1).toNat ∧ M2 (j + 1) (y - 1).toNat ≤ 5000 := BN.at b2 cd2 rfl
          refine ⟨⟨by omega, by omega⟩, ⟨by omega, by omega⟩, ?_⟩
          intro M3 e3
          have b3 : BN wC M3 := by rw [e3]; exact BN.up b2 cd2 rfl (by omega) (by omega)
          have bs : -9 ≤ M3 (j + 2) (y - 1).toNat ∧ M3 (j + 2) (y - 1).toNat ≤ 9 := BN.at b3 cd4 rfl
          refine ⟨⟨by omega, by omega⟩, ⟨by omega, by omega⟩, ?_⟩
          intro M4 e4
          have b4 : BN wC M4 := by rw [e4]; exact BN.up b3 cd4 rfl (by omega) (by omega)
          refine k9 _ _ ⟨b4, fun j9 h9 => by rw [e4, zup_row _ _ (by omega), e3, zup_row _ _ (by omega)]; exact f2 j9 h9, by rw [e4, zup_n _ _ (by omega), e3, zup_n _ _ (by omega)]; exact n2, ⟨by omega, by omega⟩, fun i => ?_, fun i => ?_⟩ (by omega)
          · rw [e4, zup_n _ _ (by omega), e3]
            by_cases c5 : i = y.toNat
            · rw [c5, zup_s, t2, if_pos (by omega), if_neg (by omega), show (y - 1).toNat = y.toNat - 1 by omega]
            · rw [zup_n _ _ (by omega), t2 i]
              by_cases c6 : (i : Int) ≤ y ∨ M j 2 < i
              · rw [if_pos c6, if_pos (by omega)]
              · rw [if_neg c6, if_neg (by omega)]
          · rw [e4]
            by_cases c5 : i = y.toNat
            · rw [c5, zup_s, e3, zup_n _ _ (by omega), u2, if_pos (by omega), if_neg (by omega), show (y - 1).toNat = y.toNat - 1 by omega]
            · rw [zup_n _ _ (by omega), e3, zup_n _ _ (by omega), u2 i]
              by_cases c6 : (i : Int) ≤ y ∨ M j 2 < i
              · rw [if_pos c6, if_pos (by omega)]
              · rw [if_neg c6, if_neg (by omega)]
      · exact hQ _ _ ⟨hB, fun _ _ => rfl, x.toNat, by omega, fun i hi => h2 i (by omega), fun h => hJ.resolve_left (by omega), Or.inr (Or.inl ⟨fun h => hN ⟨by omega, h.2⟩, by omega, rfl, rfl, fun i _ => ⟨rfl, rfl⟩⟩)⟩
    · have b6 : BN wC M61 := by rw [e61]; exact BN.up hB cd4 rfl (by omega) (by omega)
      refine hQ _ _ ⟨b6, fun j9 h9 => by rw [e61]; exact zup_row _ _ (by omega), x.toNat, by omega, fun i hi => h2 i (by omega), fun h => by omega, Or.inl ⟨by omega, c2, rfl, by rw [e61]; exact zup_n _ _ (by omega), fun i hi => ⟨by rw [e61]; exact zup_n _ _ (by omega), ?_⟩⟩⟩
      rw [e61]
      by_cases c5 : i = x.toNat
      · rw [c5, zup_s, if_pos rfl]
      · rw [zup_n _ _ (by omega), if_neg c5]
  · by_cases c3 : (i : Int) < x
    · exact h2 i c3
    · rw [show i = x.toNat by omega]
      exact c2
def cMo (a0 a1 a2 : Int) : Prop := (0 ≤ a0 ∧ a0 ≤ 1) ∧ (0 ≤ a1 ∧ a1 ≤ 5000) ∧ (-9 ≤ a2 ∧ a2 ≤ 9)
set_option maxHeartbeats 4000000 in
theorem fC_motor {M : zM} {a0 a1 a2 : Int} (hB : BN wC M) (v0 : -2147483648 ≤ a0 ∧ a0 ≤ 2147483647) (v1 : -2147483648 ≤ a1 ∧ a1 ≤ 2147483647) (v2 : -2147483648 ≤ a2 ∧ a2 ≤ 2147483647) {Q : Int → zM → Prop} (hQ : ∀ (z : Int) (M1 : zM), BN wC M1 ∧ (∀ j9 : Nat, ¬ (35 ≤ j9 ∧ j9 ≤ 40) → M1 j9 = M j9) ∧ ((cMo a0 a1 a2 ∧ ((a0 = 0 ∧ tellS (M 35 2) (M 36) (M 37) a1 a2 z (M1 35 2) (M1 36) (M1 37) ∧ M1 38 = M 38 ∧ M1 39 = M 39 ∧ M1 40 = M 40) ∨ (a0 = 1 ∧ tellS (M 38 2) (M 39) (M 40) a1 a2 z (M1 38 2) (M1 39) (M1 40) ∧ M1 35 = M 35 ∧ M1 36 = M 36 ∧ M1 37 = M 37))) ∨ (¬ cMo a0 a1 a2 ∧ z = 0 ∧ M1 35 = M 35 ∧ M1 36 = M 36 ∧ M1 37 = M 37 ∧ M1 38 = M 38 ∧ M1 39 = M 39 ∧ M1 40 = M 40)) → Q z M1) : wC_motor a0 a1 a2 M Q := by
  unfold wC_motor
  have no : ∀ {z : Int}, z = 0 → ¬ cMo a0 a1 a2 → Q 0 M := fun _ h => hQ _ _ ⟨hB, fun _ _ => rfl, Or.inr ⟨h, rfl, rfl, rfl, rfl, rfl, rfl, rfl⟩⟩
  refine sC_isMotor hB v0 (fun z p => ?_)
  obtain ⟨-, p1, -⟩ := p
  refine ⟨fun c => no c (fun h => by unfold cMo at h; omega), fun c => ?_⟩
  refine sC_within hB v1 (by omega) (by omega) (fun z2 p => ?_)
  obtain ⟨-, p2, -⟩ := p
  refine ⟨fun c => no c (fun h => by unfold cMo at h; omega), fun c2 => ?_⟩
  refine sC_within hB v2 (by omega) (by omega) (fun z3 p => ?_)
  obtain ⟨-, p3, -⟩ := p
  refine ⟨fun c3 => ?_, fun c => no c (fun h => by unfold cMo at h; omega)⟩
  refine sC_Studio_motorOf hB v0 (fun q hq => ?_)
  obtain ⟨⟨lt, cd⟩, hq⟩ := hq
  refine ⟨q, rfl, ⟨lt, cd⟩, ?_⟩
  refine fC_Motor_tell hB lt cd (by omega) (by omega) (fun z9 M1 h => ?_)
  obtain ⟨b1, f1, t1⟩ := h
  rcases hq with ⟨rfl, h0⟩ | ⟨rfl, h0⟩
  · exact hQ _ _ ⟨b1, fun j9 h9 => f1 j9 (by omega), Or.inl ⟨⟨by omega, by omega, by omega⟩, Or.inl ⟨h0, t1, f1 38 (by omega), f1 39 (by omega), f1 40 (by omega)⟩⟩⟩
  · exact hQ _ _ ⟨b1, fun j9 h9 => f1 j9 (by omega), Or.inl ⟨⟨by omega, by omega, by omega⟩, Or.inr ⟨by omega, t1, f1 35 (by omega), f1 36 (by omega), f1 37 (by omega)⟩⟩⟩
set_option maxHeartbeats 8000000 in
theorem fR_motor {M : zM} {a0 a1 a2 : Int} (hB : BI M) (v0 : -2147483648 ≤ a0 ∧ a0 ≤ 2147483647) (v1 : -2147483648 ≤ a1 ∧ a1 ≤ 2147483647) (v2 : -2147483648 ≤ a2 ∧ a2 ≤ 2147483647) {Q : Int → zM → Prop} (hQ : ∀ (z : Int) (M1 : zM), BI M1 ∧ (∀ j9 k9 : Nat, ¬ (j9 = 0 ∧ k9 = 35 ∨ j9 = 9 ∨ j9 = 10 ∨ j9 = 11) → M1 j9 k9 = M j9 k9) ∧ ((cMo a0 a1 a2 ∧ ∃ m : Nat, (m : Int) = a0 ∧ tellS (M 11 m) (fun i => M 9 (12 * m + i)) (fun i => M 10 (12 * m + i)) a1 a2 z (M1 11 m) (fun i => M1 9 (12 * m + i)) (fun i => M1 10 (12 * m + i)) ∧ (∀ q : Nat, q ≠ m → M1 11 q = M 11 q) ∧ (∀ q : Nat, ¬ (12 * m ≤ q ∧ q < 12 * m + 12) → M1 9 q = M 9 q ∧ M1 10 q = M 10 q)) ∨ (¬ cMo a0 a1 a2 ∧ z = 0 ∧ M1 9 = M 9 ∧ M1 10 = M 10 ∧ M1 11 = M 11)) → Q z M1) : wR_motor a0 a1 a2 M Q := by
  unfold wR_motor
  intro M1 e1
  have hB1 : BI M1 := by rw [e1]; exact BI.up0 hB rfl (by omega) (by omega) (by decide)
  have hF1 : ∀ j9 k9 : Nat, ¬ (j9 = 0 ∧ k9 = 35 ∨ j9 = 9 ∨ j9 = 10 ∨ j9 = 11) → M1 j9 k9 = M j9 k9 := fun j9 k9 h9 => by rw [e1]; exact zup_n _ _ (by omega)
  have r9 : M1 9 = M 9 := by rw [e1]; exact zup_row _ _ (by omega)
  have r10 : M1 10 = M 10 := by rw [e1]; exact zup_row _ _ (by omega)
  have r11 : M1 11 = M 11 := by rw [e1]; exact zup_row _ _ (by omega)
  rw [← r9, ← r10, ← r11] at hQ
  have no : ∀ {z : Int}, z = 0 → ¬ cMo a0 a1 a2 → Q 0 M1 := fun _ h => hQ _ _ ⟨hB1, hF1, Or.inr ⟨h, rfl, rfl, rfl, rfl⟩⟩
  refine sR_isMotor hB1 v0 (fun z p => ?_)
  obtain ⟨-, p1, -⟩ := p
  refine ⟨fun c => no c (fun h => by unfold cMo at h; omega), fun c => ?_⟩
  refine sR_in hB1 v1 (by omega) (by omega) (fun z2 p => ?_)
  obtain ⟨-, p2, -⟩ := p
  refine ⟨fun c => no c (fun h => by unfold cMo at h; omega), fun c2 => ?_⟩
  refine sR_in hB1 v2 (by omega) (by omega) (fun z3 p => ?_)
  obtain ⟨-, p3, -⟩ := p
  refine ⟨fun c3 => ?_, fun c => no c (fun h => by unfold cMo at h; omega)⟩
  have yes : cMo a0 a1 a2 := ⟨by omega, by omega, by omega⟩
  have m01 : 0 ≤ a0 ∧ a0 ≤ 1 := yes.1
  have m02 : 0 ≤ a1 ∧ a1 ≤ 5000 := yes.2.1
  have m03 : -9 ≤ a2 ∧ a2 ≤ 9 := yes.2.2
  clear p1 p2 p3 c c2 c3 no
  obtain ⟨m, rfl⟩ : ∃ m : Nat, a0 = m := ⟨a0.toNat, by omega⟩
  have sm : sI (m : Int) = m := sIo (by omega) (by omega)
  have tm : ∀ _ : Nat, ((m : Int)).toNat = m := fun _ => by omega
  have bn : 0 ≤ M1 11 m ∧ M1 11 m ≤ 12 := BN.at hB1.1 (rfl : zcd wR 11 = 61) rfl
  have sn : sI (M1 11 m) = M1 11 m := sIo (by omega) (by omega)
  have bT : ∀ i, sI (M1 9 i) = M1 9 i := fun i => by
    have b : 0 ≤ M1 9 i ∧ M1 9 i ≤ 5000 := BN.at hB1.1 (rfl : zcd wR 9 = 59) rfl
    exact sIo (by omega) (by omega)
  have s1 : sI a1 = a1 := sIo (by omega) (by omega)
  simp only [sm, tm 0, sn, s1, bT]
  refine ⟨⟨by omega, by omega⟩, ?_⟩
  refine pL1_of (fun x => (0 ≤ x ∧ x ≤ M1 11 m) ∧ ∀ i : Nat, (i : Int) < x → M1 9 (12 * m + i) < a1) (fun x => (100 - x).toNat) ⟨⟨by omega, by omega⟩, fun i hi => absurd hi (by omega)⟩ (fun K x h k => ?_)
  obtain ⟨h1, h2⟩ := h
  have sx : sI x = x := sIo (by omega) (by omega)
  have ex : sI (12 * (m : Int) + x) = 12 * (m : Int) + x := sIo (by omega) (by omega)
  have tx : ∀ _ : Nat, (12 * (m : Int) + x).toNat = 12 * m + x.toNat := fun _ => by omega
  simp only [sx, ex, tx 0]
  refine pJ0_of (M1 11 m ≤ x ∨ a1 ≤ M1 9 (12 * m + x.toNat)) (fun hJ => ?_) ⟨fun c => Or.inl c, fun c => ⟨⟨by omega, by omega⟩, fun c2 => Or.inr c2, fun c2 => k _ ⟨⟨by omega, by omega⟩, fun i hi => ?_⟩ (by omega)⟩⟩
  · have hJ2 : ∀ _ : Nat, x < M1 11 m → a1 ≤ M1 9 (12 * m + x.toNat) := fun _ h => by
      rcases hJ with hJ | hJ
      · omega
      · exact hJ
    clear hJ
    refine wJ0_of (fun M2 => BI M2 ∧ (∀ j9 k9 : Nat, ¬ (j9 = 0 ∧ k9 = 35 ∨ j9 = 9 ∨ j9 = 10 ∨ j9 = 11) → M2 j9 k9 = M j9 k9) ∧ ((x < M1 11 m ∧ M1 9 (12 * m + x.toNat) = a1 ∧ M2 = M1) ∨ (¬ (x < M1 11 m ∧ M1 9 (12 * m + x.toNat) = a1) ∧ M1 11 m < 12 ∧ M2 11 m = M1 11 m + 1 ∧ (∀ q : Nat, q ≠ m → M2 11 q = M1 11 q) ∧ (∀ q : Nat, M2 9 q = if 12 * m + x.toNat < q ∧ q ≤ 12 * m + (M1 11 m).toNat then M1 9 (q - 1) else M1 9 q) ∧ (∀ q : Nat, M2 10 q = if 12 * m + x.toNat < q ∧ q ≤ 12 * m + (M1 11 m).toNat then M1 10 (q - 1) else M1 10 q)))) (fun M2 hM => ?_) ?_
    · obtain ⟨b2, f2, hM⟩ := hM
      have hx : x < 12 := by rcases hM with ⟨h, -⟩ | ⟨-, h, -⟩ <;> omega
      refine ⟨⟨by omega, by omega⟩, ?_⟩
      intro M3 e3
      refine ⟨⟨by omega, by omega⟩, ?_⟩
      intro M4 e4
      have b3 : BI M3 := by rw [e3]; exact BI.up b2 (rfl : zcd wR 9 = 59) rfl (by omega) (by omega) (by decide)
      have b4 : BI M4 := by rw [e4]; exact BI.up b3 (rfl : zcd wR 10 = 60) rfl (by omega) (by omega) (by decide)
      have f4 : ∀ j9 k9 : Nat, ¬ (j9 = 0 ∧ k9 = 35 ∨ j9 = 9 ∨ j9 = 10 ∨ j9 = 11) → M4 j9 k9 = M j9 k9 := fun j9 k9 h9 => by rw [e4, zup_n _ _ (by omega), e3, zup_n _ _ (by omega)]; exact f2 j9 k9 h9
      have w11 : M4 11 = M2 11 := by rw [e4, zup_row _ _ (by omega), e3, zup_row _ _ (by omega)]
      have w9 : ∀ q : Nat, M4 9 q = if q = 12 * m + x.toNat then a1 else M2 9 q := fun q => by
        rw [e4, zup_n _ _ (by omega), e3]
        by_cases c : q = 12 * m + x.toNat
        · rw [c, zup_s, if_pos rfl]
        · rw [zup_n _ _ (by omega), if_neg c]
      have w10 : ∀ q : Nat, M4 10 q = if q = 12 * m + x.toNat then a2 else M2 10 q := fun q => by
        rw [e4]
        by_cases c : q = 12 * m + x.toNat
        · rw [c, zup_s, if_pos rfl]
        · rw [zup_n _ _ (by omega), if_neg c, e3, zup_n _ _ (by omega)]
      rcases hM with ⟨c5, c6, c7⟩ | ⟨c5, c6, c7, c8, c9, c10⟩
      · rw [c7] at w11 w9 w10
        have v9 : ∀ q : Nat, M4 9 q = M1 9 q := fun q => by
          rw [w9]
          by_cases c : q = 12 * m + x.toNat
          · rw [if_pos c, c, c6]
          · rw [if_neg c]
        refine hQ _ _ ⟨b4, f4, Or.inl ⟨yes, m, rfl, ⟨x.toNat, by omega, fun i hi => h2 i (by omega), fun _ => Int.le_of_eq c6.symm, Or.inl ⟨by omega, c6, rfl, congrFun w11 m, fun i hi => ⟨v9 _, ?_⟩⟩⟩, fun q _ => congrFun w11 q, fun q hq => ⟨v9 q, ?_⟩⟩⟩
        · show M4 10 (12 * m + i) = if i = x.toNat then a2 else M1 10 (12 * m + i)
          rw [w10]
          by_cases c : i = x.toNat
          · rw [if_pos (by omega), if_pos c]
          · rw [if_neg (by omega), if_neg c]
        · rw [w10, if_neg (by omega)]
      · refine hQ _ _ ⟨b4, f4, Or.inl ⟨yes, m, rfl, ⟨x.toNat, by omega, fun i hi => h2 i (by omega), fun h => hJ2 0 (by omega), Or.inr (Or.inr ⟨fun h => c5 ⟨by omega, h.2⟩, c6, rfl, (congrFun w11 m).trans c7, fun i hi => ⟨?_, ?_⟩⟩)⟩, fun q hq => (congrFun w11 q).trans (c8 q hq), fun q hq => ⟨?_, ?_⟩⟩⟩
        · show M4 9 (12 * m + i) = if i < x.toNat then M1 9 (12 * m + i) else if i = x.toNat then a1 else M1 9 (12 * m + (i - 1))
          rw [w9]
          by_cases c : i = x.toNat
          · rw [if_pos (by omega), if_neg (by omega), if_pos c]
          · rw [if_neg (by omega), c9]
            by_cases d : i < x.toNat
            · rw [if_neg (by omega), if_pos d]
            · rw [if_pos (by omega), if_neg d, if_neg c, show 12 * m + i - 1 = 12 * m + (i - 1) by omega]
        · show M4 10 (12 * m + i) = if i < x.toNat then M1 10 (12 * m + i) else if i = x.toNat then a2 else M1 10 (12 * m + (i - 1))
          rw [w10]
          by_cases c : i = x.toNat
          · rw [if_pos (by omega), if_neg (by omega), if_pos c]
          · rw [if_neg (by omega), c10]
            by_cases d : i < x.toNat
            · rw [if_neg (by omega), if_pos d]
            · rw [if_pos (by omega), if_neg d, if_neg c, show 12 * m + i - 1 = 12 * m + (i - 1) by omega]
        · rw [w9, if_neg (by omega), c9, if_neg (by omega)]
        · rw [w10, if_neg (by omega), c10, if_neg (by omega)]
    · refine pJ0_of (¬ (x < M1 11 m ∧ M1 9 (12 * m + x.toNat) = a1)) (fun hN => ?_) ⟨fun c => fun h => by omega, fun c => ⟨⟨by omega, by omega⟩, fun c2 => ⟨hB1, hF1, Or.inl ⟨by omega, c2, rfl⟩⟩, fun c2 => fun h => c2 h.2⟩⟩
      refine ⟨fun c => ?_, fun c => hQ _ _ ⟨hB1, hF1, Or.inl ⟨yes, m, rfl, ⟨x.toNat, by omega, fun i hi => h2 i (by omega), fun h => hJ2 0 (by omega), Or.inr (Or.inl ⟨fun h => hN ⟨by omega, h.2⟩, c, rfl, rfl, fun i _ => ⟨rfl, rfl⟩⟩)⟩, fun _ _ => rfl, fun _ _ => ⟨rfl, rfl⟩⟩⟩⟩
      refine wL1_of (fun y M2 => BI M2 ∧ (∀ j9 k9 : Nat, ¬ (j9 = 0 ∧ k9 = 35 ∨ j9 = 9 ∨ j9 = 10 ∨ j9 = 11) → M2 j9 k9 = M j9 k9) ∧ M2 11 = M1 11 ∧ (x ≤ y ∧ y ≤ M1 11 m) ∧ (∀ q : Nat, M2 9 q = if 12 * m + y.toNat < q ∧ q ≤ 12 * m + (M1 11 m).toNat then M1 9 (q - 1) else M1 9 q) ∧ (∀ q : Nat, M2 10 q = if 12 * m + y.toNat < q ∧ q ≤ 12 * m + (M1 11 m).toNat then M1 10 (q - 1) else M1 10 q)) (fun y _ => (y + 1).toNat) ⟨hB1, hF1, rfl, ⟨by omega, by omega⟩, fun q => by rw [if_neg (by omega)], fun q => by rw [if_neg (by omega)]⟩ (fun K2 y M2 h9 k9 => ?_)
      obtain ⟨b2, f2, n2, y2, t2, u2⟩ := h9
      have nm : M2 11 m = M1 11 m := congrFun n2 m
      have sy : sI y = y := sIo (by omega) (by omega)
      have ey : sI (12 * (m : Int) + y) = 12 * (m : Int) + y := sIo (by omega) (by omega)
      have ty : ∀ _ : Nat, (12 * (m : Int) + y).toNat = 12 * m + y.toNat := fun _ => by omega
      have ez : sI (12 * (m : Int) + y - 1) = 12 * (m : Int) + y - 1 := sIo (by omega) (by omega)
      have tz : ∀ _ : Nat, (12 * (m : Int) + y - 1).toNat = 12 * m + y.toNat - 1 := fun _ => by omega
      simp only [sy, ey, ty 0, ez, tz 0]
      refine ⟨fun c4 => ?_, fun c4 => ?_⟩
      · refine ⟨⟨by omega, by omega⟩, ⟨by omega, by omega⟩, ?_⟩
        intro M3 e3
        have b3 : BI M3 := by rw [e3]; exact BI.up b2 (rfl : zcd wR 11 = 61) rfl (by omega) (by omega) (by decide)
        have exy : y = x := by omega
        exact ⟨b3, fun j9 k9 h9 => by rw [e3]; exact (zup_n _ _ (by omega)).trans (f2 j9 k9 h9), Or.inr ⟨hN, by omega, by rw [e3, zup_s, nm], fun q hq => by rw [e3, zup_n _ _ (by omega), n2], fun q => by rw [e3, zup_n _ _ (by omega), t2 q, exy], fun q => by rw [e3, zup_n _ _ (by omega), u2 q, exy]⟩⟩
      · have bt : 0 ≤ M2 9 (12 * m + y.toNat - 1) ∧ M2 9 (12 * m + y.toNat - 1) ≤ 5000 := BN.at b2.1 (rfl : zcd wR 9 = 59) rfl
        refine ⟨⟨by omega, by omega⟩, ⟨by omega, by omega⟩, ?_⟩
        intro M3 e3
        have b3 : BI M3 := by rw [e3]; exact BI.up b2 (rfl : zcd wR 9 = 59) rfl (by omega) (by omega) (by decide)
        have bs : -9 ≤ M3 10 (12 * m + y.toNat - 1) ∧ M3 10 (12 * m + y.toNat - 1) ≤ 9 := BN.at b3.1 (rfl : zcd wR 10 = 60) rfl
        refine ⟨⟨by omega, by omega⟩, ⟨by omega, by omega⟩, ?_⟩
        intro M4 e4
        have b4 : BI M4 := by rw [e4]; exact BI.up b3 (rfl : zcd wR 10 = 60) rfl (by omega) (by omega) (by decide)
        refine k9 _ _ ⟨b4, fun j9 k9 h9 => by rw [e4, zup_n _ _ (by omega), e3, zup_n _ _ (by omega)]; exact f2 j9 k9 h9, by rw [e4, zup_row _ _ (by omega), e3, zup_row _ _ (by omega)]; exact n2, ⟨by omega, by omega⟩, fun q => ?_, fun q => ?_⟩ (by omega)
        · rw [e4, zup_n _ _ (by omega), e3]
          by_cases c5 : q = 12 * m + y.toNat
          · rw [c5, zup_s, t2, if_neg (by omega), if_pos (by omega)]
          · rw [zup_n _ _ (by omega), t2 q]
            by_cases c6 : 12 * m + y.toNat < q ∧ q ≤ 12 * m + (M1 11 m).toNat
            · rw [if_pos c6, if_pos (by omega)]
            · rw [if_neg c6, if_neg (by omega)]
        · rw [e4]
          by_cases c5 : q = 12 * m + y.toNat
          · rw [c5, zup_s, e3, zup_n _ _ (by omega), u2, if_neg (by omega), if_pos (by omega)]
          · rw [zup_n _ _ (by omega), e3, zup_n _ _ (by omega), u2 q]
            by_cases c6 : 12 * m + y.toNat < q ∧ q ≤ 12 * m + (M1 11 m).toNat
            · rw [if_pos c6, if_pos (by omega)]
            · rw [if_neg c6, if_neg (by omega)]
  · by_cases c3 : (i : Int) < x
    · exact h2 i c3
    · rw [show i = x.toNat by omega]
      exact c2
/-- the motors are alike -/
def iMo (A B C D E F R9 R10 R11 : Nat → Int) : Prop := mo (A 2) B C (R11 0) (fun i => R9 (12 * 0 + i)) (fun i => R10 (12 * 0 + i)) ∧ mo (D 2) E F (R11 1) (fun i => R9 (12 * 1 + i)) (fun i => R10 (12 * 1 + i))
theorem mo_step {A B C D E F R9 R10 R11 A1 B1 C1 D1 E1 F1 S9 S10 S11 : Nat → Int} {a0 a1 a2 z z9 : Int} (hA : A 2 ≤ 12) (hD : D 2 ≤ 12) (h : iMo A B C D E F R9 R10 R11) (p : (cMo a0 a1 a2 ∧ ((a0 = 0 ∧ tellS (A 2) B C a1 a2 z (A1 2) B1 C1 ∧ D1 = D ∧ E1 = E ∧ F1 = F) ∨ (a0 = 1 ∧ tellS (D 2) E F a1 a2 z (D1 2) E1 F1 ∧ A1 = A ∧ B1 = B ∧ C1 = C))) ∨ (¬ cMo a0 a1 a2 ∧ z = 0 ∧ A1 = A ∧ B1 = B ∧ C1 = C ∧ D1 = D ∧ E1 = E ∧ F1 = F)) (q : (cMo a0 a1 a2 ∧ ∃ m : Nat, (m : Int) = a0 ∧ tellS (R11 m) (fun i => R9 (12 * m + i)) (fun i => R10 (12 * m + i)) a1 a2 z9 (S11 m) (fun i => S9 (12 * m + i)) (fun i => S10 (12 * m + i)) ∧ (∀ q : Nat, q ≠ m → S11 q = R11 q) ∧ (∀ q : Nat, ¬ (12 * m ≤ q ∧ q < 12 * m + 12) → S9 q = R9 q ∧ S10 q = R10 q)) ∨ (¬ cMo a0 a1 a2 ∧ z9 = 0 ∧ S9 = R9 ∧ S10 = R10 ∧ S11 = R11)) : z = z9 ∧ iMo A1 B1 C1 D1 E1 F1 S9 S10 S11 := by
  obtain ⟨g1, g2⟩ := h
  rcases p with ⟨cp, hp⟩ | ⟨cp, p1, p2, p3, p4, p5, p6, p7⟩
  · rcases q with ⟨cq, m, hm, tq, o11, o9⟩ | ⟨cq, -⟩
    · rcases hp with ⟨h0, t, d1, d2, d3⟩ | ⟨h0, t, d1, d2, d3⟩
      · obtain rfl : m = 0 := by omega
        have w := tell_det g1 t tq
        refine ⟨w.1, w.2, ?_⟩
        rw [d1, d2, d3]
        refine ⟨by rw [o11 1 (by omega)]; exact g2.1, fun i hi => ?_⟩
        have w2 := g2.2 i hi
        have w3 := o9 (12 * 1 + i) (by omega)
        show E i = S9 (12 * 1 + i) ∧ F i = S10 (12 * 1 + i)
        rw [w3.1, w3.2]
        exact w2
      · obtain rfl : m = 1 := by omega
        have w := tell_det g2 t tq
        refine ⟨w.1, ?_, w.2⟩
        rw [d1, d2, d3]
        refine ⟨by rw [o11 0 (by omega)]; exact g1.1, fun i hi => ?_⟩
        have w2 := g1.2 i hi
        have w3 := o9 (12 * 0 + i) (by omega)
        show B i = S9 (12 * 0 + i) ∧ C i = S10 (12 * 0 + i)
        rw [w3.1, w3.2]
        exact w2
    · exact absurd cp cq
  · rcases q with ⟨cq, -⟩ | ⟨cq, q1, q2, q3, q4⟩
    · exact absurd cq cp
    · rw [p2, p3, p4, p5, p6, p7, q2, q3, q4]
      exact ⟨by omega, g1, g2⟩
theorem mo_clear {A B C D E F R9 R10 R11 : Nat → Int} (h1 : A 2 = 0) (h2 : D 2 = 0) (h3 : R11 0 = 0) (h4 : R11 1 = 0) : iMo A B C D E F R9 R10 R11 := ⟨⟨by omega, fun i hi => absurd hi (by omega)⟩, ⟨by omega, fun i hi => absurd hi (by omega)⟩⟩
theorem fR_clear {M : zM}  (hB : BI M)  {Q : Int → zM → Prop} (hQ : ∀ (z : Int) (M1 : zM), BI M1 ∧ (∀ j9 k9 : Nat, ¬ (j9 = 0 ∧ k9 = 35 ∨ j9 = 0 ∧ k9 = 10 ∨ j9 = 0 ∧ k9 = 16 ∨ j9 = 11) → M1 j9 k9 = M j9 k9) ∧ ((-2147483648) ≤ z ∧ z ≤ 2147483647) ∧ M1 0 16 = 0 ∧ M1 0 10 = 0 ∧ M1 11 0 = 0 ∧ M1 11 1 = 0 ∧ z = M 0 10 → Q z M1) : wR_clear  M Q := by
  unfold wR_clear
  intro M1 e1 M3 e3 M5 e5
  have b1 : BI M1 := by rw [e1]; exact BI.up0 hB rfl (by omega) (by omega) (by decide)
  have b3 : BI M3 := by rw [e3]; exact BI.up10 b1 (by omega) (by omega)
  have b5 : BI M5 := by rw [e5]; exact BI.up0 b3 rfl (by omega) (by omega) (by decide)
  have r10 : M1 0 10 = M 0 10 := by rw [e1]; exact zup_n _ _ (by omega)
  have bn : 0 ≤ M1 0 10 ∧ M1 0 10 ≤ 4 := BN.at b1.1 (rfl : zcd wR 0 = 50) rfl
  have sn : sI (M1 0 10) = M 0 10 := by rw [← r10]; exact sIo (by omega) (by omega)
  refine wL1_of (fun x M2 => BI M2 ∧ (∀ j9 k9 : Nat, ¬ (j9 = 0 ∧ k9 = 35 ∨ j9 = 0 ∧ k9 = 10 ∨ j9 = 0 ∧ k9 = 16 ∨ j9 = 11) → M2 j9 k9 = M j9 k9) ∧ M2 0 16 = 0 ∧ M2 0 10 = 0 ∧ (0 ≤ x ∧ x ≤ 2) ∧ ∀ i : Nat, (i : Int) < x → M2 11 i = 0) (fun x _ => (100 - x).toNat) ⟨b5, fun j9 k9 h9 => by rw [e5, zup_n _ _ (by omega), e3, zup_n _ _ (by omega), e1, zup_n _ _ (by omega)], by rw [e5, zup_s], by rw [e5, zup_n _ _ (by omega), e3, zup_s], ⟨by omega, by omega⟩, fun i hi => absurd hi (by omega)⟩ (fun K x M2 h k => ?_)
  obtain ⟨b2, f2, n2, m2, hx, hd⟩ := h
  have sx : sI x = x := sIo (by omega) (by omega)
  simp only [sx, sn]
  refine ⟨fun c => hQ _ _ ⟨b2, f2, ⟨by omega, by omega⟩, n2, m2, hd 0 (by omega), hd 1 (by omega), rfl⟩, fun c => ⟨⟨by omega, by omega⟩, fun M4 e4 => k _ _ ⟨by rw [e4]; exact BI.up b2 (rfl : zcd wR 11 = 61) rfl (by omega) (by omega) (by decide), fun j9 k9 h9 => by rw [e4, zup_n _ _ (by omega)]; exact f2 j9 k9 h9, by rw [e4, zup_n _ _ (by omega)]; exact n2, by rw [e4, zup_n _ _ (by omega)]; exact m2, ⟨by omega, by omega⟩, fun i hi => ?_⟩ (by omega)⟩⟩
  rw [e4]
  by_cases c5 : i = x.toNat
  · rw [c5, zup_s]
  · rw [zup_n _ _ (by omega)]
    exact hd i (by omega)
end zz47b_motor
section zz47c_way
/-! the ways of the motors, alike -/
def wyS (T S : Nat → Int) : Nat → Int × Int × Int
  | 0 => (0, 0, 1)
  | i + 1 => ((wyS T S i).1 + (T i - (wyS T S i).2.1) * (wyS T S i).2.2, T i, S i)
theorem wyS_cg {T S TR SR : Nat → Int} : ∀ p : Nat, (∀ i : Nat, i < p → T i = TR i ∧ S i = SR i) → wyS T S p = wyS TR SR p
  | 0, _ => rfl
  | p + 1, h => by
    have a := wyS_cg p (fun i hi => h i (by omega))
    have b := h p (by omega)
    show ((wyS T S p).1 + (T p - (wyS T S p).2.1) * (wyS T S p).2.2, T p, S p) = ((wyS TR SR p).1 + (TR p - (wyS TR SR p).2.1) * (wyS TR SR p).2.2, TR p, SR p)
    rw [a, b.1, b.2]
def wayR (n : Int) (T S : Nat → Int) (t z : Int) : Prop := ∃ p : Nat, (p : Int) ≤ n ∧ (∀ i : Nat, i < p → T i < t) ∧ ((p : Int) < n → t ≤ T p) ∧ z = sL ((wyS T S p).1 + (t - (wyS T S p).2.1) * (wyS T S p).2.2)
theorem way_det {n nR t z zR : Int} {T S TR SR : Nat → Int} (h : mo n T S nR TR SR) (P : wayR n T S t z) (R : wayR nR TR SR t zR) : z = zR := by
  obtain ⟨hn, hTS⟩ := h
  obtain ⟨p, p1, p2, p3, p4⟩ := P
  obtain ⟨q, q1, q2, q3, q4⟩ := R
  have e : p = q := by
    rcases Nat.lt_trichotomy p q with c | c | c
    · have a := q2 p c
      have b := p3 (by omega)
      have d := (hTS p (by omega)).1
      omega
    · exact c
    · have a := p2 q c
      have b := q3 (by omega)
      have d := (hTS q (by omega)).1
      omega
  subst e
  rw [p4, q4, wyS_cg p (fun i hi => hTS i (by omega))]
set_option maxHeartbeats 4000000 in
theorem fC_Motor_wayTo {M : zM} {j : Nat} {a0 : Int} (hB : BN wC M) (lt_j : j < nC) (cd_j : zcd wC j = 11) (v0 : -9223372036854775808 ≤ a0 ∧ a0 ≤ 9223372036854775807) {Q : Int → Prop} (hQ : ∀ z : Int, wayR (M j 2) (M (j + 1)) (M (j + 2)) a0 z → Q z) : wC_Motor_wayTo j a0 M Q := by
  unfold wC_Motor_wayTo
  obtain ⟨lt1, cd2, lt3, cd4⟩ := nx_motor j lt_j cd_j
  have bn : 0 ≤ M j 2 ∧ M j 2 ≤ 12 := BN.at hB cd_j rfl
  have sn : sI (M j 2) = M j 2 := sIo (by omega) (by omega)
  have bT : ∀ i, sI (M (j + 1) i) = M (j + 1) i := fun i => by
    have b : 0 ≤ M (j + 1) i ∧ M (j + 1) i ≤ 5000 := BN.at hB cd2 rfl
    exact sIo (by omega) (by omega)
  have bS : ∀ i, -9 ≤ M (j + 2) i ∧ M (j + 2) i ≤ 9 := fun i => BN.at hB cd4 rfl
  have s0 : sL a0 = a0 := sLo v0.1 v0.2
  refine pL4_of (fun x5 x6 x7 x8 => ∃ p : Nat, x8 = p ∧ (p : Int) ≤ M j 2 ∧ (∀ i : Nat, i < p → M (j + 1) i < a0) ∧ x5 = (wyS (M (j + 1)) (M (j + 2)) p).1 ∧ x6 = (wyS (M (j + 1)) (M (j + 2)) p).2.1 ∧ x7 = (wyS (M (j + 1)) (M (j + 2)) p).2.2 ∧ (-9 ≤ x7 ∧ x7 ≤ 9)) (fun _ _ _ x8 => (100 - x8).toNat) ⟨0, rfl, by omega, fun i hi => absurd hi (by omega), rfl, rfl, rfl, by omega⟩ (fun K x5 x6 x7 x8 h k => ?_)
  obtain ⟨p, rfl, h1, h2, h3, h4, h5, h6⟩ := h
  have sp : sI (p : Int) = p := sIo (by omega) (by omega)
  have tp : ((p : Int)).toNat = p := by omega
  have s7 : sI x7 = x7 := sIo (by omega) (by omega)
  simp only [sp, tp, sn, bT, s0, s7]
  refine pJ0_of (M j 2 ≤ p ∨ a0 ≤ M (j + 1) p) (fun hJ => hQ _ ⟨p, h1, h2, fun h => hJ.resolve_left (by omega), by rw [h3, h4, h5]⟩) ⟨fun c => Or.inl c, fun c => ⟨⟨by omega, by omega⟩, fun c2 => Or.inr c2, fun c2 => ⟨⟨by omega, by omega⟩, fun t e => ⟨⟨by omega, by omega⟩, ⟨by omega, by omega⟩, k _ _ _ _ ⟨p + 1, by omega, by omega, fun i hi => ?_, by rw [e, h3, h4, h5]; rfl, rfl, rfl, bS p⟩ (by omega)⟩⟩⟩⟩
  by_cases c3 : i < p
  · exact h2 i c3
  · rw [show i = p by omega]
    exact c2
set_option maxHeartbeats 4000000 in
theorem fR_wayEarly {M : zM} {a0 a1 : Int} (hB : BI M) (v0 : 0 ≤ a0 ∧ a0 ≤ 1) (v1 : -9223372036854775808 ≤ a1 ∧ a1 ≤ 9223372036854775807) {Q : Int → Prop} (hQ : ∀ z : Int, wayR (M 11 a0.toNat) (fun i => M 9 (12 * a0.toNat + i)) (fun i => M 10 (12 * a0.toNat + i)) a1 z → Q z) : wR_wayEarly a0 a1 M Q := by
  unfold wR_wayEarly
  obtain ⟨m, rfl⟩ : ∃ m : Nat, a0 = m := ⟨a0.toNat, by omega⟩
  have sm : sI (m : Int) = m := sIo (by omega) (by omega)
  have tm : ((m : Int)).toNat = m := by omega
  rw [tm] at hQ
  have bn : 0 ≤ M 11 m ∧ M 11 m ≤ 12 := BN.at hB.1 (rfl : zcd wR 11 = 61) rfl
  have sn : sI (M 11 m) = M 11 m := sIo (by omega) (by omega)
  have bT : ∀ i, sI (M 9 i) = M 9 i := fun i => by
    have b : 0 ≤ M 9 i ∧ M 9 i ≤ 5000 := BN.at hB.1 (rfl : zcd wR 9 = 59) rfl
    exact sIo (by omega) (by omega)
  have bS : ∀ i, -9 ≤ M 10 i ∧ M 10 i ≤ 9 := fun i => BN.at hB.1 (rfl : zcd wR 10 = 60) rfl
  have s0 : sL a1 = a1 := sLo v1.1 v1.2
  refine pL4_of (fun x5 x6 x7 x8 => ∃ p : Nat, x8 = p ∧ (p : Int) ≤ M 11 m ∧ (∀ i : Nat, i < p → M 9 (12 * m + i) < a1) ∧ x5 = (wyS (fun i => M 9 (12 * m + i)) (fun i => M 10 (12 * m + i)) p).1 ∧ x6 = (wyS (fun i => M 9 (12 * m + i)) (fun i => M 10 (12 * m + i)) p).2.1 ∧ x7 = (wyS (fun i => M 9 (12 * m + i)) (fun i => M 10 (12 * m + i)) p).2.2 ∧ (-9 ≤ x7 ∧ x7 ≤ 9)) (fun _ _ _ x8 => (100 - x8).toNat) ⟨0, rfl, by omega, fun i hi => absurd hi (by omega), rfl, rfl, rfl, by omega⟩ (fun K x5 x6 x7 x8 h k => ?_)
  obtain ⟨p, rfl, h1, h2, h3, h4, h5, h6⟩ := h
  have sp : sI (p : Int) = p := sIo (by omega) (by omega)
  have s7 : sI x7 = x7 := sIo (by omega) (by omega)
  have ep : sI (12 * (m : Int) + (p : Int)) = 12 * (m : Int) + (p : Int) := sIo (by omega) (by omega)
  have tp : (12 * (m : Int) + (p : Int)).toNat = 12 * m + p := by omega
  simp only [sm, tm, sp, ep, tp, sn, bT, s0, s7]
  refine ⟨⟨by omega, by omega⟩, ?_⟩
  refine pJ0_of (M 11 m ≤ p ∨ a1 ≤ M 9 (12 * m + p)) (fun hJ => hQ _ ⟨p, h1, h2, fun h => hJ.resolve_left (by omega), by rw [h3, h4, h5, Int.mul_comm]⟩) ⟨fun c => Or.inl c, fun c => ⟨⟨by omega, by omega⟩, fun c2 => Or.inr c2, fun c2 => ⟨⟨by omega, by omega⟩, fun t e => ⟨⟨by omega, by omega⟩, ⟨by omega, by omega⟩, k _ _ _ _ ⟨p + 1, by omega, by omega, fun i hi => ?_, by rw [e, h3, h4, h5, Int.mul_comm]; rfl, rfl, rfl, bS _⟩ (by omega)⟩⟩⟩⟩
  by_cases c3 : i < p
  · exact h2 i c3
  · rw [show i = p by omega]
    exact c2
def cWay (a0 a1 : Int) : Prop := (0 ≤ a0 ∧ a0 ≤ 1) ∧ (0 ≤ a1 ∧ a1 ≤ 1000000000)
theorem fC_way {M : zM} {a0 a1 : Int} (hB : BN wC M) (v0 : -2147483648 ≤ a0 ∧ a0 ≤ 2147483647) (v1 : -2147483648 ≤ a1 ∧ a1 ≤ 2147483647) {Q : Int → Prop} {X : Prop} (hX : ¬ cWay a0 a1 → X) (hQ : ∀ z : Int, cWay a0 a1 ∧ ((a0 = 0 ∧ wayR (M 35 2) (M 36) (M 37) a1 z) ∨ (a0 = 1 ∧ wayR (M 38 2) (M 39) (M 40) a1 z)) → Q z) : wC_way a0 a1 M Q X := by
  unfold wC_way
  refine sC_isMotor hB v0 (fun z p => ?_)
  obtain ⟨-, p1, -⟩ := p
  refine ⟨fun c => hX (fun h => by unfold cWay at h; omega), fun c => ?_⟩
  refine sC_within hB v1 (by omega) (by omega) (fun z2 p => ?_)
  obtain ⟨-, p2, -⟩ := p
  refine ⟨fun c2 => ?_, fun c => hX (fun h => by unfold cWay at h; omega)⟩
  refine sC_Studio_motorOf hB v0 (fun q hq => ?_)
  obtain ⟨⟨lt, cd⟩, hq⟩ := hq
  refine ⟨q, rfl, ⟨lt, cd⟩, ?_⟩
  rw [sIo v1.1 v1.2]
  refine fC_Motor_wayTo hB lt cd (by omega) (fun z9 h => ?_)
  rcases hq with ⟨rfl, h0⟩ | ⟨rfl, h0⟩
  · exact hQ _ ⟨⟨by omega, by omega⟩, Or.inl ⟨h0, h⟩⟩
  · exact hQ _ ⟨⟨by omega, by omega⟩, Or.inr ⟨by omega, h⟩⟩
theorem fR_way {M : zM} {a0 a1 : Int} (hB : BI M) (v0 : -2147483648 ≤ a0 ∧ a0 ≤ 2147483647) (v1 : -2147483648 ≤ a1 ∧ a1 ≤ 2147483647) {Q : Int → zM → Prop} (hQ : ∀ (z : Int) (M1 : zM), BI M1 ∧ (∀ j9 k9 : Nat, ¬ (j9 = 0 ∧ k9 = 35) → M1 j9 k9 = M j9 k9) ∧ ((cWay a0 a1 ∧ wayR (M 11 a0.toNat) (fun i => M 9 (12 * a0.toNat + i)) (fun i => M 10 (12 * a0.toNat + i)) a1 z ∧ M1 0 35 = 0) ∨ (¬ cWay a0 a1 ∧ M1 0 35 = 1)) → Q z M1) : wR_way a0 a1 M Q := by
  unfold wR_way
  intro M1 e1
  have hB1 : BI M1 := by rw [e1]; exact BI.up0 hB rfl (by omega) (by omega) (by decide)
  have hF1 : ∀ j9 k9 : Nat, ¬ (j9 = 0 ∧ k9 = 35) → M1 j9 k9 = M j9 k9 := fun j9 k9 h9 => by rw [e1]; exact zup_n _ _ (by omega)
  have r9 : M1 9 = M 9 := by rw [e1]; exact zup_row _ _ (by omega)
  have r10 : M1 10 = M 10 := by rw [e1]; exact zup_row _ _ (by omega)
  have r11 : M1 11 = M 11 := by rw [e1]; exact zup_row _ _ (by omega)
  have no : ¬ cWay a0 a1 → ∀ M8 : zM, M8 = zup M1 0 35 1 → Q 0 M8 := fun hn M8 e8 => hQ _ _ ⟨by rw [e8]; exact BI.up0 hB1 rfl (by omega) (by omega) (by decide), fun j9 k9 h9 => by rw [e8, zup_n _ _ (by omega)]; exact hF1 j9 k9 h9, Or.inr ⟨hn, by rw [e8]; exact zup_s _ _ _ _⟩⟩
  refine sR_isMotor hB1 v0 (fun z p => ?_)
  obtain ⟨-, p1, -⟩ := p
  refine ⟨fun c => no (fun h => by unfold cWay at h; omega), fun c => ?_⟩
  refine sR_in hB1 v1 (by omega) (by omega) (fun z2 p => ?_)
  obtain ⟨-, p2, -⟩ := p
  refine ⟨fun c2 => ?_, fun c => no (fun h => by unfold cWay at h; omega)⟩
  rw [sIo v1.1 v1.2]
  refine fR_wayEarly hB1 (by omega) (by omega) (fun z9 h => ?_)
  rw [r9, r10, r11] at h
  exact hQ _ _ ⟨hB1, hF1, Or.inl ⟨⟨by omega, by omega⟩, h, by rw [e1]; exact zup_s _ _ _ _⟩⟩
theorem way_step {A B C D E F R9 R10 R11 : Nat → Int} {a0 a1 z z9 : Int} (h : iMo A B C D E F R9 R10 R11) (p : cWay a0 a1 ∧ ((a0 = 0 ∧ wayR (A 2) B C a1 z) ∨ (a0 = 1 ∧ wayR (D 2) E F a1 z))) (q : wayR (R11 a0.toNat) (fun i => R9 (12 * a0.toNat + i)) (fun i => R10 (12 * a0.toNat + i)) a1 z9) : z = z9 := by
  obtain ⟨g1, g2⟩ := h
  obtain ⟨-, ⟨rfl, p⟩ | ⟨rfl, p⟩⟩ := p
  · exact way_det g1 p q
  · exact way_det g2 p q
end zz47c_way
