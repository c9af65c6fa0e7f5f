section zz47b_motor
/-! what the two worlds do alike: the motors -/
def mo (n : Int) (T S : Nat → Int) (nR : Int) (TR SR : Nat → Int) : Prop := n = nR ∧ ∀ i : Nat, (i : Int) < n → T i = TR i ∧ S i = SR i
/-- what is told: of n ticks and speeds, z, and n1 ticks and speeds then -/
def tellS (n : Int) (T S : Nat → Int) (t v z n1 : Int) (T1 S1 : Nat → Int) : Prop := ∃ p : Nat, (p : Int) ≤ n ∧ (∀ i : Nat, i < p → T i < t) ∧ ((p : Int) < n → t ≤ T p) ∧ (((p : Int) < n ∧ T p = t ∧ z = 1 ∧ n1 = n ∧ ∀ i : Nat, (i : Int) < n → T1 i = T i ∧ S1 i = (if i = p then v else S i)) ∨ (¬ ((p : Int) < n ∧ T p = t) ∧ n = 12 ∧ z = 0 ∧ n1 = n ∧ ∀ i : Nat, (i : Int) < n → T1 i = T i ∧ S1 i = S i) ∨ (¬ ((p : Int) < n ∧ T p = t) ∧ n < 12 ∧ z = 1 ∧ n1 = n + 1 ∧ ∀ i : Nat, (i : Int) < n + 1 → T1 i = (if i < p then T i else if i = p then t else T (i - 1)) ∧ S1 i = (if i < p then S i else if i = p then v else S (i - 1))))
theorem tell_det {n nR t v z n1 zR nR1 : Int} {T S TR SR T1 S1 TR1 SR1 : Nat → Int} (h : mo n T S nR TR SR) (P : tellS n T S t v z n1 T1 S1) (R : tellS nR TR SR t v zR nR1 TR1 SR1) : z = zR ∧ mo n1 T1 S1 nR1 TR1 SR1 := by
  obtain ⟨hn, hTS⟩ := h
  obtain ⟨p, p1, p2, p3, p4⟩ := P
  obtain ⟨q, q1, q2, q3, q4⟩ := R
  have e : p = q := by
    rcases Nat.lt_trichotomy p q with c | c | c
    · have a := q2 p c
      have b := p3 (by omega)
      have d := (hTS p (by omega)).1
      omega
    · exact c
    · have a := p2 q c
      have b := q3 (by omega)
      have d := (hTS q (by omega)).1
      omega
  subst e
  have hp : (p : Int) < n → T p = TR p := fun c => (hTS p c).1
  rcases p4 with A | A | A
  · obtain ⟨a1, a2, a3, a4, a5⟩ := A
    rcases q4 with B | B | B
    · obtain ⟨b1, b2, b3, b4, b5⟩ := B
      refine ⟨by omega, by omega, fun i hi => ?_⟩
      have x := a5 i (by omega)
      have y := b5 i (by omega)
      have w := hTS i (by omega)
      rw [x.1, x.2, y.1, y.2]
      refine ⟨w.1, ?_⟩
      by_cases c : i = p
      · rw [if_pos c, if_pos c]
      · rw [if_neg c, if_neg c]
        exact w.2
    · exfalso
      obtain ⟨b1, b2, -⟩ := B
      exact b1 ⟨by omega, by have := hp a1; omega⟩
    · exfalso
      obtain ⟨b1, b2, -⟩ := B
      exact b1 ⟨by omega, by have := hp a1; omega⟩
  · obtain ⟨a1, a2, a3, a4, a5⟩ := A
    rcases q4 with B | B | B
    · exfalso
      obtain ⟨b1, b2, -⟩ := B
      exact a1 ⟨by omega, by have := hp (by omega); omega⟩
    · obtain ⟨b1, b2, b3, b4, b5⟩ := B
      refine ⟨by omega, by omega, fun i hi => ?_⟩
      have x := a5 i (by omega)
      have y := b5 i (by omega)
      have w := hTS i (by omega)
      rw [x.1, x.2, y.1, y.2]
      exact w
    · exfalso
      obtain ⟨b1, b2, -⟩ := B
      omega
  · obtain ⟨a1, a2, a3, a4, a5⟩ := A
    rcases q4 with B | B | B
    · exfalso
      obtain ⟨b1, b2, -⟩ := B
      exact a1 ⟨by omega, by have := hp (by omega); omega⟩
    · exfalso
      obtain ⟨b1, b2, -⟩ := B
      omega
    · obtain ⟨b1, b2, b3, b4, b5⟩ := B
      refine ⟨by omega, by omega, fun i hi => ?_⟩
      have x := a5 i (by omega)
      have y := b5 i (by omega)
      rw [x.1, x.2, y.1, y.2]
      by_cases c1 : i < p
      · have w := hTS i (by omega)
        rw [if_pos c1, if_pos c1, if_pos c1, if_pos c1]
        exact w
      · rw [if_neg c1, if_neg c1, if_neg c1, if_neg c1]
        by_cases c2 : i = p
        · rw [if_pos c2, if_pos c2, if_pos c2, if_pos c2]
          exact ⟨rfl, rfl⟩
        · have w := hTS (i - 1) (by omega)
          rw [if_neg c2, if_neg c2, if_neg c2, if_neg c2]
          exact w
set_option maxHeartbeats 4000000 in
theorem fC_Motor_tell {M : zM} {j : Nat} {a0 a1 : Int} (hB : BN wC M) (lt_j : j < nC) (cd_j : zcd wC j = 11) (v0 : 0 ≤ a0 ∧ a0 ≤ 5000) (v1 : -9 ≤ a1 ∧ a1 ≤ 9) {Q : Int → zM → Prop} (hQ : ∀ (z : Int) (M1 : zM), BN wC M1 ∧ (∀ j9 : Nat, ¬ (j ≤ j9 ∧ j9 ≤ j + 2) → M1 j9 = M j9) ∧ tellS (M j 2) (M (j + 1)) (M (j + 2)) a0 a1 z (M1 j 2) (M1 (j + 1)) (M1 (j + 2)) → Q z M1) : wC_Motor_tell j a0 a1 M Q := by
  unfold wC_Motor_tell
  obtain ⟨lt1, cd2, lt3, cd4⟩ := nx_motor j lt_j cd_j
  have bn : 0 ≤ M j 2 ∧ M j 2 ≤ 12 := BN.at hB cd_j rfl
  have sn : sI (M j 2) = M j 2 := sIo (by omega) (by omega)
  have bT : ∀ i, sI (M (j + 1) i) = M (j + 1) i := fun i => by
    have b : 0 ≤ M (j + 1) i ∧ M (j + 1) i ≤ 5000 := BN.at hB cd2 rfl
    exact sIo (by omega) (by omega)
  have s0 : sI a0 = a0 := sIo (by omega) (by omega)
  refine pL1_of (fun x => (0 ≤ x ∧ x ≤ M j 2) ∧ ∀ i : Nat, (i : Int) < x → M (j + 1) i < a0) (fun x => (100 - x).toNat) ⟨⟨by omega, by omega⟩, fun i hi => absurd hi (by omega)⟩ (fun K x h k => ?_)
  obtain ⟨h1, h2⟩ := h
  have sx : sI x = x := sIo (by omega) (by omega)
  simp only [sx, sn, s0, bT]
  refine pJ0_of (M j 2 ≤ x ∨ a0 ≤ M (j + 1) x.toNat) (fun hJ => ?_) ⟨fun c => Or.inl c, fun c => ⟨⟨by omega, by omega⟩, fun c2 => Or.inr c2, fun c2 => k _ ⟨⟨by omega, by omega⟩, fun i hi => ?_⟩ (by omega)⟩⟩
  · refine pJ0_of (¬ (x < M j 2 ∧ M (j + 1) x.toNat = a0)) (fun hN => ?_) ⟨fun c => fun h => by omega, fun c => ⟨⟨by omega, by omega⟩, fun c2 => fun h => c2 h.2, fun c2 => ⟨⟨by omega, by omega⟩, fun M61 e61 => ?_⟩⟩⟩
    · refine ⟨fun c => ?_, fun c => ?_⟩
      · refine wL1_of (fun y M2 => BN wC M2 ∧ (∀ j9 : Nat, ¬ (j ≤ j9 ∧ j9 ≤ j + 2) → M2 j9 = M j9) ∧ M2 j 2 = M j 2 ∧ (x ≤ y ∧ y ≤ M j 2) ∧ (∀ i : Nat, M2 (j + 1) i = if (i : Int) ≤ y ∨ M j 2 < i then M (j + 1) i else M (j + 1) (i - 1)) ∧ (∀ i : Nat, M2 (j + 2) i = if (i : Int) ≤ y ∨ M j 2 < i then M (j + 2) i else M (j + 2) (i - 1))) (fun y _ => (y + 1).toNat) ⟨hB, fun _ _ => rfl, rfl, ⟨by omega, by omega⟩, fun i => by rw [if_pos (by omega)], fun i => by rw [if_pos (by omega)]⟩ (fun K2 y M2 h9 k9 => ?_)
        obtain ⟨b2, f2, n2, y2, t2, u2⟩ := h9
        have sy : sI y = y := sIo (by omega) (by omega)
        simp only [sy]
        refine ⟨fun c4 => ?_, fun c4 => ?_⟩
        · refine ⟨⟨by omega, by omega⟩, ?_⟩
          intro M3 e3
          refine ⟨⟨by omega, by omega⟩, ?_⟩
          intro M4 e4 M5 e5
          have b3 : BN wC M3 := by rw [e3]; exact BN.up b2 cd2 rfl (by omega) (by omega)
          have b4 : BN wC M4 := by rw [e4]; exact BN.up b3 cd4 rfl (by omega) (by omega)
          have n4 : M4 j 2 = M j 2 := by rw [e4, zup_n _ _ (by omega), e3, zup_n _ _ (by omega)]; exact n2
          have b5 : BN wC M5 := by rw [e5]; exact BN.up b4 cd_j rfl (by omega) (by omega)
          refine hQ _ _ ⟨b5, fun j9 h9 => by rw [e5, zup_row _ _ (by omega), e4, zup_row _ _ (by omega), e3, zup_row _ _ (by omega)]; exact f2 j9 h9, x.toNat, by omega, fun i hi => h2 i (by omega), fun h => ?_, Or.inr (Or.inr ⟨fun h => hN ⟨by omega, h.2⟩, by omega, rfl, by rw [e5, zup_s]; omega, fun i hi => ⟨?_, ?_⟩⟩)⟩
          · rcases hJ with hJ | hJ
            · omega
            · exact hJ
          · rw [e5, zup_n _ _ (by omega), e4, zup_n _ _ (by omega), e3]
            by_cases c5 : i = x.toNat
            · rw [c5, zup_s, if_neg (by omega), if_pos rfl]
            · rw [zup_n _ _ (by omega), t2 i]
              by_cases c6 : i < x.toNat
              · rw [if_pos (by omega), if_pos c6]
              · rw [if_neg (by omega), if_neg c6, if_neg c5]
          · rw [e5, zup_n _ _ (by omega), e4]
            by_cases c5 : i = x.toNat
            · rw [c5, zup_s, if_neg (by omega), if_pos rfl]
            · rw [zup_n _ _ (by omega), e3, zup_n _ _ (by omega), u2 i]
              by_cases c6 : i < x.toNat
              · rw [if_pos (by omega), if_pos c6]
              · rw [if_neg (by omega), if_neg c6, if_neg c5]
        · have sy1 : sI (y - 1) = y - 1 := sIo (by omega) (by omega)
          simp only [sy1]
          have bt : 0 ≤ M2 (j + 1) (y - 1).toNat ∧ M2 (j + 1) (y - 1).toNat ≤ 5000 := BN.at b2 cd2 rfl
          refine ⟨⟨by omega, by omega⟩, ⟨by omega, by omega⟩, ?_⟩
          intro M3 e3
          have b3 : BN wC M3 := by rw [e3]; exact BN.up b2 cd2 rfl (by omega) (by omega)
          have bs : -9 ≤ M3 (j + 2) (y - 1).toNat ∧ M3 (j + 2) (y - 1).toNat ≤ 9 := BN.at b3 cd4 rfl
          refine ⟨⟨by omega, by omega⟩, ⟨by omega, by omega⟩, ?_⟩
          intro M4 e4
          have b4 : BN wC M4 := by rw [e4]; exact BN.up b3 cd4 rfl (by omega) (by omega)
          refine k9 _ _ ⟨b4, fun j9 h9 => by rw [e4, zup_row _ _ (by omega), e3, zup_row _ _ (by omega)]; exact f2 j9 h9, by rw [e4, zup_n _ _ (by omega), e3, zup_n _ _ (by omega)]; exact n2, ⟨by omega, by omega⟩, fun i => ?_, fun i => ?_⟩ (by omega)
          · rw [e4, zup_n _ _ (by omega), e3]
            by_cases c5 : i = y.toNat
            · rw [c5, zup_s, t2, if_pos (by omega), if_neg (by omega), show (y - 1).toNat = y.toNat - 1 by omega]
            · rw [zup_n _ _ (by omega), t2 i]
              by_cases c6 : (i : Int) ≤ y ∨ M j 2 < i
              · rw [if_pos c6, if_pos (by omega)]
              · rw [if_neg c6, if_neg (by omega)]
          · rw [e4]
            by_cases c5 : i = y.toNat
            · rw [c5, zup_s, e3, zup_n _ _ (by omega), u2, if_pos (by omega), if_neg (by omega), show (y - 1).toNat = y.toNat - 1 by omega]
            · rw [zup_n _ _ (by omega), e3, zup_n _ _ (by omega), u2 i]
              by_cases c6 : (i : Int) ≤ y ∨ M j 2 < i
              · rw [if_pos c6, if_pos (by omega)]
              · rw [if_neg c6, if_neg (by omega)]
      · exact hQ _ _ ⟨hB, fun _ _ => rfl, x.toNat, by omega, fun i hi => h2 i (by omega), fun h => hJ.resolve_left (by omega), Or.inr (Or.inl ⟨fun h => hN ⟨by omega, h.2⟩, by omega, rfl, rfl, fun i _ => ⟨rfl, rfl⟩⟩)⟩
    · have b6 : BN wC M61 := by rw [e61]; exact BN.up hB cd4 rfl (by omega) (by omega)
      refine hQ _ _ ⟨b6, fun j9 h9 => by rw [e61]; exact zup_row _ _ (by omega), x.toNat, by omega, fun i hi => h2 i (by omega), fun h => by omega, Or.inl ⟨by omega, c2, rfl, by rw [e61]; exact zup_n _ _ (by omega), fun i hi => ⟨by rw [e61]; exact zup_n _ _ (by omega), ?_⟩⟩⟩
      rw [e61]
      by_cases c5 : i = x.toNat
      · rw [c5, zup_s, if_pos rfl]
      · rw [zup_n _ _ (by omega), if_neg c5]
  · by_cases c3 : (i : Int) < x
    · exact h2 i c3
    · rw [show i = x.toNat by omega]
      exact c2
def cMo (a0 a1 a2 : Int) : Prop := (0 ≤ a0 ∧ a0 ≤ 1) ∧ (0 ≤ a1 ∧ a1 ≤ 5000) ∧ (-9 ≤ a2 ∧ a2 ≤ 9)
set_option maxHeartbeats 4000000 in
theorem fC_motor {M : zM} {a0 a1 a2 : Int} (hB : BN wC M) (v0 : -2147483648 ≤ a0 ∧ a0 ≤ 2147483647) (v1 : -2147483648 ≤ a1 ∧ a1 ≤ 2147483647) (v2 : -2147483648 ≤ a2 ∧ a2 ≤ 2147483647) {Q : Int → zM → Prop} (hQ : ∀ (z : Int) (M1 : zM), BN wC M1 ∧ (∀ j9 : Nat, ¬ (35 ≤ j9 ∧ j9 ≤ 40) → M1 j9 = M j9) ∧ ((cMo a0 a1 a2 ∧ ((a0 = 0 ∧ tellS (M 35 2) (M 36) (M 37) a1 a2 z (M1 35 2) (M1 36) (M1 37) ∧ M1 38 = M 38 ∧ M1 39 = M 39 ∧ M1 40 = M 40) ∨ (a0 = 1 ∧ tellS (M 38 2) (M 39) (M 40) a1 a2 z (M1 38 2) (M1 39) (M1 40) ∧ M1 35 = M 35 ∧ M1 36 = M 36 ∧ M1 37 = M 37))) ∨ (¬ cMo a0 a1 a2 ∧ z = 0 ∧ M1 35 = M 35 ∧ M1 36 = M 36 ∧ M1 37 = M 37 ∧ M1 38 = M 38 ∧ M1 39 = M 39 ∧ M1 40 = M 40)) → Q z M1) : wC_motor a0 a1 a2 M Q := by
  unfold wC_motor
  have no : ∀ {z : Int}, z = 0 → ¬ cMo a0 a1 a2 → Q 0 M := fun _ h => hQ _ _ ⟨hB, fun _ _ => rfl, Or.inr ⟨h, rfl, rfl, rfl, rfl, rfl, rfl, rfl⟩⟩
  refine sC_isMotor hB v0 (fun z p => ?_)
  obtain ⟨-, p1, -⟩ := p
  refine ⟨fun c => no c (fun h => by unfold cMo at h; omega), fun c => ?_⟩
  refine sC_within hB v1 (by omega) (by omega) (fun z2 p => ?_)
  obtain ⟨-, p2, -⟩ := p
  refine ⟨fun c => no c (fun h => by unfold cMo at h; omega), fun c2 => ?_⟩
  refine sC_within hB v2 (by omega) (by omega) (fun z3 p => ?_)
  obtain ⟨-, p3, -⟩ := p
  refine ⟨fun c3 => ?_, fun c => no c (fun h => by unfold cMo at h; omega)⟩
  refine sC_Studio_motorOf hB v0 (fun q hq => ?_)
  obtain ⟨⟨lt, cd⟩, hq⟩ := hq
  refine ⟨q, rfl, ⟨lt, cd⟩, ?_⟩
  refine fC_Motor_tell hB lt cd (by omega) (by omega) (fun z9 M1 h => ?_)
  obtain ⟨b1, f1, t1⟩ := h
  rcases hq with ⟨rfl, h0⟩ | ⟨rfl, h0⟩
  · exact hQ _ _ ⟨b1, fun j9 h9 => f1 j9 (by omega), Or.inl ⟨⟨by omega, by omega, by omega⟩, Or.inl ⟨h0, t1, f1 38 (by omega), f1 39 (by omega), f1 40 (by omega)⟩⟩⟩
  · exact hQ _ _ ⟨b1, fun j9 h9 => f1 j9 (by omega), Or.inl ⟨⟨by omega, by omega, by omega⟩, Or.inr ⟨by omega, t1, f1 35 (by omega), f1 36 (by omega), f1 37 (by omega)⟩⟩⟩
set_option maxHeartbeats 8000000 in
theorem fR_motor {M : zM} {a0 a1 a2 : Int} (hB : BI M) (v0 : -2147483648 ≤ a0 ∧ a0 ≤ 2147483647) (v1 : -2147483648 ≤ a1 ∧ a1 ≤ 2147483647) (v2 : -2147483648 ≤ a2 ∧ a2 ≤ 2147483647) {Q : Int → zM → Prop} (hQ : ∀ (z : Int) (M1 : zM), BI M1 ∧ (∀ j9 k9 : Nat, ¬ (j9 = 0 ∧ k9 = 35 ∨ j9 = 9 ∨ j9 = 10 ∨ j9 = 11) → M1 j9 k9 = M j9 k9) ∧ ((cMo a0 a1 a2 ∧ ∃ m : Nat, (m : Int) = a0 ∧ tellS (M 11 m) (fun i => M 9 (12 * m + i)) (fun i => M 10 (12 * m + i)) a1 a2 z (M1 11 m) (fun i => M1 9 (12 * m + i)) (fun i => M1 10 (12 * m + i)) ∧ (∀ q : Nat, q ≠ m → M1 11 q = M 11 q) ∧ (∀ q : Nat, ¬ (12 * m ≤ q ∧ q < 12 * m + 12) → M1 9 q = M 9 q ∧ M1 10 q = M 10 q)) ∨ (¬ cMo a0 a1 a2 ∧ z = 0 ∧ M1 9 = M 9 ∧ M1 10 = M 10 ∧ M1 11 = M 11)) → Q z M1) : wR_motor a0 a1 a2 M Q := by
  unfold wR_motor
  intro M1 e1
  have hB1 : BI M1 := by rw [e1]; exact BI.up0 hB rfl (by omega) (by omega) (by decide)
  have hF1 : ∀ j9 k9 : Nat, ¬ (j9 = 0 ∧ k9 = 35 ∨ j9 = 9 ∨ j9 = 10 ∨ j9 = 11) → M1 j9 k9 = M j9 k9 := fun j9 k9 h9 => by rw [e1]; exact zup_n _ _ (by omega)
  have r9 : M1 9 = M 9 := by rw [e1]; exact zup_row _ _ (by omega)
  have r10 : M1 10 = M 10 := by rw [e1]; exact zup_row _ _ (by omega)
  have r11 : M1 11 = M 11 := by rw [e1]; exact zup_row _ _ (by omega)
  rw [← r9, ← r10, ← r11] at hQ
  have no : ∀ {z : Int}, z = 0 → ¬ cMo a0 a1 a2 → Q 0 M1 := fun _ h => hQ _ _ ⟨hB1, hF1, Or.inr ⟨h, rfl, rfl, rfl, rfl⟩⟩
  refine sR_isMotor hB1 v0 (fun z p => ?_)
  obtain ⟨-, p1, -⟩ := p
  refine ⟨fun c => no c (fun h => by unfold cMo at h; omega), fun c => ?_⟩
  refine sR_in hB1 v1 (by omega) (by omega) (fun z2 p => ?_)
  obtain ⟨-, p2, -⟩ := p
  refine ⟨fun c => no c (fun h => by unfold cMo at h; omega), fun c2 => ?_⟩
  refine sR_in hB1 v2 (by omega) (by omega) (fun z3 p => ?_)
  obtain ⟨-, p3, -⟩ := p
  refine ⟨fun c3 => ?_, fun c => no c (fun h => by unfold cMo at h; omega)⟩
  have yes : cMo a0 a1 a2 := ⟨by omega, by omega, by omega⟩
  have m01 : 0 ≤ a0 ∧ a0 ≤ 1 := yes.1
  have m02 : 0 ≤ a1 ∧ a1 ≤ 5000 := yes.2.1
  have m03 : -9 ≤ a2 ∧ a2 ≤ 9 := yes.2.2
  clear p1 p2 p3 c c2 c3 no
  obtain ⟨m, rfl⟩ : ∃ m : Nat, a0 = m := ⟨a0.toNat, by omega⟩
  have sm : sI (m : Int) = m := sIo (by omega) (by omega)
  have tm : ∀ _ : Nat, ((m : Int)).toNat = m := fun _ => by omega
  have bn : 0 ≤ M1 11 m ∧ M1 11 m ≤ 12 := BN.at hB1.1 (rfl : zcd wR 11 = 61) rfl
  have sn : sI (M1 11 m) = M1 11 m := sIo (by omega) (by omega)
  have bT : ∀ i, sI (M1 9 i) = M1 9 i := fun i => by
    have b : 0 ≤ M1 9 i ∧ M1 9 i ≤ 5000 := BN.at hB1.1 (rfl : zcd wR 9 = 59) rfl
    exact sIo (by omega) (by omega)
  have s1 : sI a1 = a1 := sIo (by omega) (by omega)
  simp only [sm, tm 0, sn, s1, bT]
  refine ⟨⟨by omega, by omega⟩, ?_⟩
  refine pL1_of (fun x => (0 ≤ x ∧ x ≤ M1 11 m) ∧ ∀ i : Nat, (i : Int) < x → M1 9 (12 * m + i) < a1) (fun x => (100 - x).toNat) ⟨⟨by omega, by omega⟩, fun i hi => absurd hi (by omega)⟩ (fun K x h k => ?_)
  obtain ⟨h1, h2⟩ := h
  have sx : sI x = x := sIo (by omega) (by omega)
  have ex : sI (12 * (m : Int) + x) = 12 * (m : Int) + x := sIo (by omega) (by omega)
  have tx : ∀ _ : Nat, (12 * (m : Int) + x).toNat = 12 * m + x.toNat := fun _ => by omega
  simp only [sx, ex, tx 0]
  refine pJ0_of (M1 11 m ≤ x ∨ a1 ≤ M1 9 (12 * m + x.toNat)) (fun hJ => ?_) ⟨fun c => Or.inl c, fun c => ⟨⟨by omega, by omega⟩, fun c2 => Or.inr c2, fun c2 => k _ ⟨⟨by omega, by omega⟩, fun i hi => ?_⟩ (by omega)⟩⟩
  · have hJ2 : ∀ _ : Nat, x < M1 11 m → a1 ≤ M1 9 (12 * m + x.toNat) := fun _ h => by
      rcases hJ with hJ | hJ
      · omega
      · exact hJ
    clear hJ
    refine wJ0_of (fun M2 => BI M2 ∧ (∀ j9 k9 : Nat, ¬ (j9 = 0 ∧ k9 = 35 ∨ j9 = 9 ∨ j9 = 10 ∨ j9 = 11) → M2 j9 k9 = M j9 k9) ∧ ((x < M1 11 m ∧ M1 9 (12 * m + x.toNat) = a1 ∧ M2 = M1) ∨ (¬ (x < M1 11 m ∧ M1 9 (12 * m + x.toNat) = a1) ∧ M1 11 m < 12 ∧ M2 11 m = M1 11 m + 1 ∧ (∀ q : Nat, q ≠ m → M2 11 q = M1 11 q) ∧ (∀ q : Nat, M2 9 q = if 12 * m + x.toNat < q ∧ q ≤ 12 * m + (M1 11 m).toNat then M1 9 (q - 1) else M1 9 q) ∧ (∀ q : Nat, M2 10 q = if 12 * m + x.toNat < q ∧ q ≤ 12 * m + (M1 11 m).toNat then M1 10 (q - 1) else M1 10 q)))) (fun M2 hM => ?_) ?_
    · obtain ⟨b2, f2, hM⟩ := hM
      have hx : x < 12 := by rcases hM with ⟨h, -⟩ | ⟨-, h, -⟩ <;> omega
      refine ⟨⟨by omega, by omega⟩, ?_⟩
      intro M3 e3
      refine ⟨⟨by omega, by omega⟩, ?_⟩
      intro M4 e4
      have b3 : BI M3 := by rw [e3]; exact BI.up b2 (rfl : zcd wR 9 = 59) rfl (by omega) (by omega) (by decide)
      have b4 : BI M4 := by rw [e4]; exact BI.up b3 (rfl : zcd wR 10 = 60) rfl (by omega) (by omega) (by decide)
      have f4 : ∀ j9 k9 : Nat, ¬ (j9 = 0 ∧ k9 = 35 ∨ j9 = 9 ∨ j9 = 10 ∨ j9 = 11) → M4 j9 k9 = M j9 k9 := fun j9 k9 h9 => by rw [e4, zup_n _ _ (by omega), e3, zup_n _ _ (by omega)]; exact f2 j9 k9 h9
      have w11 : M4 11 = M2 11 := by rw [e4, zup_row _ _ (by omega), e3, zup_row _ _ (by omega)]
      have w9 : ∀ q : Nat, M4 9 q = if q = 12 * m + x.toNat then a1 else M2 9 q := fun q => by
        rw [e4, zup_n _ _ (by omega), e3]
        by_cases c : q = 12 * m + x.toNat
        · rw [c, zup_s, if_pos rfl]
        · rw [zup_n _ _ (by omega), if_neg c]
      have w10 : ∀ q : Nat, M4 10 q = if q = 12 * m + x.toNat then a2 else M2 10 q := fun q => by
        rw [e4]
        by_cases c : q = 12 * m + x.toNat
        · rw [c, zup_s, if_pos rfl]
        · rw [zup_n _ _ (by omega), if_neg c, e3, zup_n _ _ (by omega)]
      rcases hM with ⟨c5, c6, c7⟩ | ⟨c5, c6, c7, c8, c9, c10⟩
      · rw [c7] at w11 w9 w10
        have v9 : ∀ q : Nat, M4 9 q = M1 9 q := fun q => by
          rw [w9]
          by_cases c : q = 12 * m + x.toNat
          · rw [if_pos c, c, c6]
          · rw [if_neg c]
        refine hQ _ _ ⟨b4, f4, Or.inl ⟨yes, m, rfl, ⟨x.toNat, by omega, fun i hi => h2 i (by omega), fun _ => Int.le_of_eq c6.symm, Or.inl ⟨by omega, c6, rfl, congrFun w11 m, fun i hi => ⟨v9 _, ?_⟩⟩⟩, fun q _ => congrFun w11 q, fun q hq => ⟨v9 q, ?_⟩⟩⟩
        · show M4 10 (12 * m + i) = if i = x.toNat then a2 else M1 10 (12 * m + i)
          rw [w10]
          by_cases c : i = x.toNat
          · rw [if_pos (by omega), if_pos c]
          · rw [if_neg (by omega), if_neg c]
        · rw [w10, if_neg (by omega)]
      · refine hQ _ _ ⟨b4, f4, Or.inl ⟨yes, m, rfl, ⟨x.toNat, by omega, fun i hi => h2 i (by omega), fun h => hJ2 0 (by omega), Or.inr (Or.inr ⟨fun h => c5 ⟨by omega, h.2⟩, c6, rfl, (congrFun w11 m).trans c7, fun i hi => ⟨?_, ?_⟩⟩)⟩, fun q hq => (congrFun w11 q).trans (c8 q hq), fun q hq => ⟨?_, ?_⟩⟩⟩
        · show M4 9 (12 * m + i) = if i < x.toNat then M1 9 (12 * m + i) else if i = x.toNat then a1 else M1 9 (12 * m + (i - 1))
          rw [w9]
          by_cases c : i = x.toNat
          · rw [if_pos (by omega), if_neg (by omega), if_pos c]
          · rw [if_neg (by omega), c9]
            by_cases d : i < x.toNat
            · rw [if_neg (by omega), if_pos d]
            · rw [if_pos (by omega), if_neg d, if_neg c, show 12 * m + i - 1 = 12 * m + (i - 1) by omega]
        · show M4 10 (12 * m + i) = if i < x.toNat then M1 10 (12 * m + i) else if i = x.toNat then a2 else M1 10 (12 * m + (i - 1))
          rw [w10]
          by_cases c : i = x.toNat
          · rw [if_pos (by omega), if_neg (by omega), if_pos c]
          · rw [if_neg (by omega), c10]
            by_cases d : i < x.toNat
            · rw [if_neg (by omega), if_pos d]
            · rw [if_pos (by omega), if_neg d, if_neg c, show 12 * m + i - 1 = 12 * m + (i - 1) by omega]
        · rw [w9, if_neg (by omega), c9, if_neg (by omega)]
        · rw [w10, if_neg (by omega), c10, if_neg (by omega)]
    · refine pJ0_of (¬ (x < M1 11 m ∧ M1 9 (12 * m + x.toNat) = a1)) (fun hN => ?_) ⟨fun c => fun h => by omega, fun c => ⟨⟨by omega, by omega⟩, fun c2 => ⟨hB1, hF1, Or.inl ⟨by omega, c2, rfl⟩⟩, fun c2 => fun h => c2 h.2⟩⟩
      refine ⟨fun c => ?_, fun c => hQ _ _ ⟨hB1, hF1, Or.inl ⟨yes, m, rfl, ⟨x.toNat, by omega, fun i hi => h2 i (by omega), fun h => hJ2 0 (by omega), Or.inr (Or.inl ⟨fun h => hN ⟨by omega, h.2⟩, c, rfl, rfl, fun i _ => ⟨rfl, rfl⟩⟩)⟩, fun _ _ => rfl, fun _ _ => ⟨rfl, rfl⟩⟩⟩⟩
      refine wL1_of (fun y M2 => BI M2 ∧ (∀ j9 k9 : Nat, ¬ (j9 = 0 ∧ k9 = 35 ∨ j9 = 9 ∨ j9 = 10 ∨ j9 = 11) → M2 j9 k9 = M j9 k9) ∧ M2 11 = M1 11 ∧ (x ≤ y ∧ y ≤ M1 11 m) ∧ (∀ q : Nat, M2 9 q = if 12 * m + y.toNat < q ∧ q ≤ 12 * m + (M1 11 m).toNat then M1 9 (q - 1) else M1 9 q) ∧ (∀ q : Nat, M2 10 q = if 12 * m + y.toNat < q ∧ q ≤ 12 * m + (M1 11 m).toNat then M1 10 (q - 1) else M1 10 q)) (fun y _ => (y + 1).toNat) ⟨hB1, hF1, rfl, ⟨by omega, by omega⟩, fun q => by rw [if_neg (by omega)], fun q => by rw [if_neg (by omega)]⟩ (fun K2 y M2 h9 k9 => ?_)
      obtain ⟨b2, f2, n2, y2, t2, u2⟩ := h9
      have nm : M2 11 m = M1 11 m := congrFun n2 m
      have sy : sI y = y := sIo (by omega) (by omega)
      have ey : sI (12 * (m : Int) + y) = 12 * (m : Int) + y := sIo (by omega) (by omega)
      have ty : ∀ _ : Nat, (12 * (m : Int) + y).toNat = 12 * m + y.toNat := fun _ => by omega
      have ez : sI (12 * (m : Int) + y - 1) = 12 * (m : Int) + y - 1 := sIo (by omega) (by omega)
      have tz : ∀ _ : Nat, (12 * (m : Int) + y - 1).toNat = 12 * m + y.toNat - 1 := fun _ => by omega
      simp only [sy, ey, ty 0, ez, tz 0]
      refine ⟨fun c4 => ?_, fun c4 => ?_⟩
      · refine ⟨⟨by omega, by omega⟩, ⟨by omega, by omega⟩, ?_⟩
        intro M3 e3
        have b3 : BI M3 := by rw [e3]; exact BI.up b2 (rfl : zcd wR 11 = 61) rfl (by omega) (by omega) (by decide)
        have exy : y = x := by omega
        exact ⟨b3, fun j9 k9 h9 => by rw [e3]; exact (zup_n _ _ (by omega)).trans (f2 j9 k9 h9), Or.inr ⟨hN, by omega, by rw [e3, zup_s, nm], fun q hq => by rw [e3, zup_n _ _ (by omega), n2], fun q => by rw [e3, zup_n _ _ (by omega), t2 q, exy], fun q => by rw [e3, zup_n _ _ (by omega), u2 q, exy]⟩⟩
      · have bt : 0 ≤ M2 9 (12 * m + y.toNat - 1) ∧ M2 9 (12 * m + y.toNat - 1) ≤ 5000 := BN.at b2.1 (rfl : zcd wR 9 = 59) rfl
        refine ⟨⟨by omega, by omega⟩, ⟨by omega, by omega⟩, ?_⟩
        intro M3 e3
        have b3 : BI M3 := by rw [e3]; exact BI.up b2 (rfl : zcd wR 9 = 59) rfl (by omega) (by omega) (by decide)
        have bs : -9 ≤ M3 10 (12 * m + y.toNat - 1) ∧ M3 10 (12 * m + y.toNat - 1) ≤ 9 := BN.at b3.1 (rfl : zcd wR 10 = 60) rfl
        refine ⟨⟨by omega, by omega⟩, ⟨by omega, by omega⟩, ?_⟩
        intro M4 e4
        have b4 : BI M4 := by rw [e4]; exact BI.up b3 (rfl : zcd wR 10 = 60) rfl (by omega) (by omega) (by decide)
        refine k9 _ _ ⟨b4, fun j9 k9 h9 => by rw [e4, zup_n _ _ (by omega), e3, zup_n _ _ (by omega)]; exact f2 j9 k9 h9, by rw [e4, zup_row _ _ (by omega), e3, zup_row _ _ (by omega)]; exact n2, ⟨by omega, by omega⟩, fun q => ?_, fun q => ?_⟩ (by omega)
        · rw [e4, zup_n _ _ (by omega), e3]
          by_cases c5 : q = 12 * m + y.toNat
          · rw [c5, zup_s, t2, if_neg (by omega), if_pos (by omega)]
          · rw [zup_n _ _ (by omega), t2 q]
            by_cases c6 : 12 * m + y.toNat < q ∧ q ≤ 12 * m + (M1 11 m).toNat
            · rw [if_pos c6, if_pos (by omega)]
            · rw [if_neg c6, if_neg (by omega)]
        · rw [e4]
          by_cases c5 : q = 12 * m + y.toNat
          · rw [c5, zup_s, e3, zup_n _ _ (by omega), u2, if_neg (by omega), if_pos (by omega)]
          · rw [zup_n _ _ (by omega), e3, zup_n _ _ (by omega), u2 q]
            by_cases c6 : 12 * m + y.toNat < q ∧ q ≤ 12 * m + (M1 11 m).toNat
            · rw [if_pos c6, if_pos (by omega)]
            · rw [if_neg c6, if_neg (by omega)]
  · by_cases c3 : (i : Int) < x
    · exact h2 i c3
    · rw [show i = x.toNat by omega]
      exact c2
/-- the motors are alike -/
def iMo (A B C D E F R9 R10 R11 : Nat → Int) : Prop := mo (A 2) B C (R11 0) (fun i => R9 (12 * 0 + i)) (fun i => R10 (12 * 0 + i)) ∧ mo (D 2) E F (R11 1) (fun i => R9 (12 * 1 + i)) (fun i => R10 (12 * 1 + i))
theorem mo_step {A B C D E F R9 R10 R11 A1 B1 C1 D1 E1 F1 S9 S10 S11 : Nat → Int} {a0 a1 a2 z z9 : Int} (hA : A 2 ≤ 12) (hD : D 2 ≤ 12) (h : iMo A B C D E F R9 R10 R11) (p : (cMo a0 a1 a2 ∧ ((a0 = 0 ∧ tellS (A 2) B C a1 a2 z (A1 2) B1 C1 ∧ D1 = D ∧ E1 = E ∧ F1 = F) ∨ (a0 = 1 ∧ tellS (D 2) E F a1 a2 z (D1 2) E1 F1 ∧ A1 = A ∧ B1 = B ∧ C1 = C))) ∨ (¬ cMo a0 a1 a2 ∧ z = 0 ∧ A1 = A ∧ B1 = B ∧ C1 = C ∧ D1 = D ∧ E1 = E ∧ F1 = F)) (q : (cMo a0 a1 a2 ∧ ∃ m : Nat, (m : Int) = a0 ∧ tellS (R11 m) (fun i => R9 (12 * m + i)) (fun i => R10 (12 * m + i)) a1 a2 z9 (S11 m) (fun i => S9 (12 * m + i)) (fun i => S10 (12 * m + i)) ∧ (∀ q : Nat, q ≠ m → S11 q = R11 q) ∧ (∀ q : Nat, ¬ (12 * m ≤ q ∧ q < 12 * m + 12) → S9 q = R9 q ∧ S10 q = R10 q)) ∨ (¬ cMo a0 a1 a2 ∧ z9 = 0 ∧ S9 = R9 ∧ S10 = R10 ∧ S11 = R11)) : z = z9 ∧ iMo A1 B1 C1 D1 E1 F1 S9 S10 S11 := by
  obtain ⟨g1, g2⟩ := h
  rcases p with ⟨cp, hp⟩ | ⟨cp, p1, p2, p3, p4, p5, p6, p7⟩
  · rcases q with ⟨cq, m, hm, tq, o11, o9⟩ | ⟨cq, -⟩
    · rcases hp with ⟨h0, t, d1, d2, d3⟩ | ⟨h0, t, d1, d2, d3⟩
      · obtain rfl : m = 0 := by omega
        have w := tell_det g1 t tq
        refine ⟨w.1, w.2, ?_⟩
        rw [d1, d2, d3]
        refine ⟨by rw [o11 1 (by omega)]; exact g2.1, fun i hi => ?_⟩
        have w2 := g2.2 i hi
        have w3 := o9 (12 * 1 + i) (by omega)
        show E i = S9 (12 * 1 + i) ∧ F i = S10 (12 * 1 + i)
        rw [w3.1, w3.2]
        exact w2
      · obtain rfl : m = 1 := by omega
        have w := tell_det g2 t tq
        refine ⟨w.1, ?_, w.2⟩
        rw [d1, d2, d3]
        refine ⟨by rw [o11 0 (by omega)]; exact g1.1, fun i hi => ?_⟩
        have w2 := g1.2 i hi
        have w3 := o9 (12 * 0 + i) (by omega)
        show B i = S9 (12 * 0 + i) ∧ C i = S10 (12 * 0 + i)
        rw [w3.1, w3.2]
        exact w2
    · exact absurd cp cq
  · rcases q with ⟨cq, -⟩ | ⟨cq, q1, q2, q3, q4⟩
    · exact absurd cq cp
    · rw [p2, p3, p4, p5, p6, p7, q2, q3, q4]
      exact ⟨by omega, g1, g2⟩
theorem mo_clear {A B C D E F R9 R10 R11 : Nat → Int} (h1 : A 2 = 0) (h2 : D 2 = 0) (h3 : R11 0 = 0) (h4 : R11 1 = 0) : iMo A B C D E F R9 R10 R11 := ⟨⟨by omega, fun i hi => absurd hi (by omega)⟩, ⟨by omega, fun i hi => absurd hi (by omega)⟩⟩
theorem fR_clear {M : zM}  (hB : BI M)  {Q : Int → zM → Prop} (hQ : ∀ (z : Int) (M1 : zM), BI M1 ∧ (∀ j9 k9 : Nat, ¬ (j9 = 0 ∧ k9 = 35 ∨ j9 = 0 ∧ k9 = 10 ∨ j9 = 0 ∧ k9 = 16 ∨ j9 = 11) → M1 j9 k9 = M j9 k9) ∧ ((-2147483648) ≤ z ∧ z ≤ 2147483647) ∧ M1 0 16 = 0 ∧ M1 0 10 = 0 ∧ M1 11 0 = 0 ∧ M1 11 1 = 0 ∧ z = M 0 10 → Q z M1) : wR_clear  M Q := by
  unfold wR_clear
  intro M1 e1 M3 e3 M5 e5
  have b1 : BI M1 := by rw [e1]; exact BI.up0 hB rfl (by omega) (by omega) (by decide)
  have b3 : BI M3 := by rw [e3]; exact BI.up10 b1 (by omega) (by omega)
  have b5 : BI M5 := by rw [e5]; exact BI.up0 b3 rfl (by omega) (by omega) (by decide)
  have r10 : M1 0 10 = M 0 10 := by rw [e1]; exact zup_n _ _ (by omega)
  have bn : 0 ≤ M1 0 10 ∧ M1 0 10 ≤ 4 := BN.at b1.1 (rfl : zcd wR 0 = 50) rfl
  have sn : sI (M1 0 10) = M 0 10 := by rw [← r10]; exact sIo (by omega) (by omega)
  refine wL1_of (fun x M2 => BI M2 ∧ (∀ j9 k9 : Nat, ¬ (j9 = 0 ∧ k9 = 35 ∨ j9 = 0 ∧ k9 = 10 ∨ j9 = 0 ∧ k9 = 16 ∨ j9 = 11) → M2 j9 k9 = M j9 k9) ∧ M2 0 16 = 0 ∧ M2 0 10 = 0 ∧ (0 ≤ x ∧ x ≤ 2) ∧ ∀ i : Nat, (i : Int) < x → M2 11 i = 0) (fun x _ => (100 - x).toNat) ⟨b5, fun j9 k9 h9 => by rw [e5, zup_n _ _ (by omega), e3, zup_n _ _ (by omega), e1, zup_n _ _ (by omega)], by rw [e5, zup_s], by rw [e5, zup_n _ _ (by omega), e3, zup_s], ⟨by omega, by omega⟩, fun i hi => absurd hi (by omega)⟩ (fun K x M2 h k => ?_)
  obtain ⟨b2, f2, n2, m2, hx, hd⟩ := h
  have sx : sI x = x := sIo (by omega) (by omega)
  simp only [sx, sn]
  refine ⟨fun c => hQ _ _ ⟨b2, f2, ⟨by omega, by omega⟩, n2, m2, hd 0 (by omega), hd 1 (by omega), rfl⟩, fun c => ⟨⟨by omega, by omega⟩, fun M4 e4 => k _ _ ⟨by rw [e4]; exact BI.up b2 (rfl : zcd wR 11 = 61) rfl (by omega) (by omega) (by decide), fun j9 k9 h9 => by rw [e4, zup_n _ _ (by omega)]; exact f2 j9 k9 h9, by rw [e4, zup_n _ _ (by omega)]; exact n2, by rw [e4, zup_n _ _ (by omega)]; exact m2, ⟨by omega, by omega⟩, fun i hi => ?_⟩ (by omega)⟩⟩
  rw [e4]
  by_cases c5 : i = x.toNat
  · rw [c5, zup_s]
  · rw [zup_n _ _ (by omega)]
    exact hd i (by omega)
end zz47b_motor
section zz47c_way
/-! the ways of the motors, alike -/
def wyS (T S : Nat → Int) : Nat → Int × Int × Int
  | 0 => (0, 0, 1)
  | i + 1 => ((wyS T S i).1 + (T i - (wyS T S i).2.1) * (wyS T S i).2.2, T i, S i)
theorem wyS_cg {T S TR SR : Nat → Int} : ∀ p : Nat, (∀ i : Nat, i < p → T i = TR i ∧ S i = SR i) → wyS T S p = wyS TR SR p
  | 0, _ => rfl
  | p + 1, h => by
    have a := wyS_cg p (fun i hi => h i (by omega))
    have b := h p (by omega)
    show ((wyS T S p).1 + (T p - (wyS T S p).2.1) * (wyS T S p).2.2, T p, S p) = ((wyS TR SR p).1 + (TR p - (wyS TR SR p).2.1) * (wyS TR SR p).2.2, TR p, SR p)
    rw [a, b.1, b.2]
def wayR (n : Int) (T S : Nat → Int) (t z : Int) : Prop := ∃ p : Nat, (p : Int) ≤ n ∧ (∀ i : Nat, i < p → T i < t) ∧ ((p : Int) < n → t ≤ T p) ∧ z = sL ((wyS T S p).1 + (t - (wyS T S p).2.1) * (wyS T S p).2.2)
theorem way_det {n nR t z zR : Int} {T S TR SR : Nat → Int} (h : mo n T S nR TR SR) (P : wayR n T S t z) (R : wayR nR TR SR t zR) : z = zR := by
  obtain ⟨hn, hTS⟩ := h
  obtain ⟨p, p1, p2, p3, p4⟩ := P
  obtain ⟨q, q1, q2, q3, q4⟩ := R
  have e : p = q := by
    rcases Nat.lt_trichotomy p q with c | c | c
    · have a := q2 p c
      have b := p3 (by omega)
      have d := (hTS p (by omega)).1
      omega
    · exact c
    · have a := p2 q c
      have b := q3 (by omega)
      have d := (hTS q (by omega)).1
      omega
  subst e
  rw [p4, q4, wyS_cg p (fun i hi => hTS i (by omega))]
set_option maxHeartbeats 4000000 in
theorem fC_Motor_wayTo {M : zM} {j : Nat} {a0 : Int} (hB : BN wC M) (lt_j : j < nC) (cd_j : zcd wC j = 11) (v0 : -9223372036854775808 ≤ a0 ∧ a0 ≤ 9223372036854775807) {Q : Int → Prop} (hQ : ∀ z : Int, wayR (M j 2) (M (j + 1)) (M (j + 2)) a0 z → Q z) : wC_Motor_wayTo j a0 M Q := by
  unfold wC_Motor_wayTo
  obtain ⟨lt1, cd2, lt3, cd4⟩ := nx_motor j lt_j cd_j
  have bn : 0 ≤ M j 2 ∧ M j 2 ≤ 12 := BN.at hB cd_j rfl
  have sn : sI (M j 2) = M j 2 := sIo (by omega) (by omega)
  have bT : ∀ i, sI (M (j + 1) i) = M (j + 1) i := fun i => by
    have b : 0 ≤ M (j + 1) i ∧ M (j + 1) i ≤ 5000 := BN.at hB cd2 rfl
    exact sIo (by omega) (by omega)
  have bS : ∀ i, -9 ≤ M (j + 2) i ∧ M (j + 2) i ≤ 9 := fun i => BN.at hB cd4 rfl
  have s0 : sL a0 = a0 := sLo v0.1 v0.2
  refine pL4_of (fun x5 x6 x7 x8 => ∃ p : Nat, x8 = p ∧ (p : Int) ≤ M j 2 ∧ (∀ i : Nat, i < p → M (j + 1) i < a0) ∧ x5 = (wyS (M (j + 1)) (M (j + 2)) p).1 ∧ x6 = (wyS (M (j + 1)) (M (j + 2)) p).2.1 ∧ x7 = (wyS (M (j + 1)) (M (j + 2)) p).2.2 ∧ (-9 ≤ x7 ∧ x7 ≤ 9)) (fun _ _ _ x8 => (100 - x8).toNat) ⟨0, rfl, by omega, fun i hi => absurd hi (by omega), rfl, rfl, rfl, by omega⟩ (fun K x5 x6 x7 x8 h k => ?_)
  obtain ⟨p, rfl, h1, h2, h3, h4, h5, h6⟩ := h
  have sp : sI (p : Int) = p := sIo (by omega) (by omega)
  have tp : ((p : Int)).toNat = p := by omega
  have s7 : sI x7 = x7 := sIo (by omega) (by omega)
  simp only [sp, tp, sn, bT, s0, s7]
  refine pJ0_of (M j 2 ≤ p ∨ a0 ≤ M (j + 1) p) (fun hJ => hQ _ ⟨p, h1, h2, fun h => hJ.resolve_left (by omega), by rw [h3, h4, h5]⟩) ⟨fun c => Or.inl c, fun c => ⟨⟨by omega, by omega⟩, fun c2 => Or.inr c2, fun c2 => ⟨⟨by omega, by omega⟩, fun t e => ⟨⟨by omega, by omega⟩, ⟨by omega, by omega⟩, k _ _ _ _ ⟨p + 1, by omega, by omega, fun i hi => ?_, by rw [e, h3, h4, h5]; rfl, rfl, rfl, bS p⟩ (by omega)⟩⟩⟩⟩
  by_cases c3 : i < p
  · exact h2 i c3
  · rw [show i = p by omega]
    exact c2
set_option maxHeartbeats 4000000 in
theorem fR_wayEarly {M : zM} {a0 a1 : Int} (hB : BI M) (v0 : 0 ≤ a0 ∧ a0 ≤ 1) (v1 : -9223372036854775808 ≤ a1 ∧ a1 ≤ 9223372036854775807) {Q : Int → Prop} (hQ : ∀ z : Int, wayR (M 11 a0.toNat) (fun i => M 9 (12 * a0.toNat + i)) (fun i => M 10 (12 * a0.toNat + i)) a1 z → Q z) : wR_wayEarly a0 a1 M Q := by
  unfold wR_wayEarly
  obtain ⟨m, rfl⟩ : ∃ m : Nat, a0 = m := ⟨a0.toNat, by omega⟩
  have sm : sI (m : Int) = m := sIo (by omega) (by omega)
  have tm : ((m : Int)).toNat = m := by omega
  rw [tm] at hQ
  have bn : 0 ≤ M 11 m ∧ M 11 m ≤ 12 := BN.at hB.1 (rfl : zcd wR 11 = 61) rfl
  have sn : sI (M 11 m) = M 11 m := sIo (by omega) (by omega)
  have bT : ∀ i, sI (M 9 i) = M 9 i := fun i => by
    have b : 0 ≤ M 9 i ∧ M 9 i ≤ 5000 := BN.at hB.1 (rfl : zcd wR 9 = 59) rfl
    exact sIo (by omega) (by omega)
  have bS : ∀ i, -9 ≤ M 10 i ∧ M 10 i ≤ 9 := fun i => BN.at hB.1 (rfl : zcd wR 10 = 60) rfl
  have s0 : sL a1 = a1 := sLo v1.1 v1.2
  refine pL4_of (fun x5 x6 x7 x8 => ∃ p : Nat, x8 = p ∧ (p : Int) ≤ M 11 m ∧ (∀ i : Nat, i < p → M 9 (12 * m + i) < a1) ∧ x5 = (wyS (fun i => M 9 (12 * m + i)) (fun i => M 10 (12 * m + i)) p).1 ∧ x6 = (wyS (fun i => M 9 (12 * m + i)) (fun i => M 10 (12 * m + i)) p).2.1 ∧ x7 = (wyS (fun i => M 9 (12 * m + i)) (fun i => M 10 (12 * m + i)) p).2.2 ∧ (-9 ≤ x7 ∧ x7 ≤ 9)) (fun _ _ _ x8 => (100 - x8).toNat) ⟨0, rfl, by omega, fun i hi => absurd hi (by omega), rfl, rfl, rfl, by omega⟩ (fun K x5 x6 x7 x8 h k => ?_)
  obtain ⟨p, rfl, h1, h2, h3, h4, h5, h6⟩ := h
  have sp : sI (p : Int) = p := sIo (by omega) (by omega)
  have s7 : sI x7 = x7 := sIo (by omega) (by omega)
  have ep : sI (12 * (m : Int) + (p : Int)) = 12 * (m : Int) + (p : Int) := sIo (by omega) (by omega)
  have tp : (12 * (m : Int) + (p : Int)).toNat = 12 * m + p := by omega
  simp only [sm, tm, sp, ep, tp, sn, bT, s0, s7]
  refine ⟨⟨by omega, by omega⟩, ?_⟩
  refine pJ0_of (M 11 m ≤ p ∨ a1 ≤ M 9 (12 * m + p)) (fun hJ => hQ _ ⟨p, h1, h2, fun h => hJ.resolve_left (by omega), by rw [h3, h4, h5, Int.mul_comm]⟩) ⟨fun c => Or.inl c, fun c => ⟨⟨by omega, by omega⟩, fun c2 => Or.inr c2, fun c2 => ⟨⟨by omega, by omega⟩, fun t e => ⟨⟨by omega, by omega⟩, ⟨by omega, by omega⟩, k _ _ _ _ ⟨p + 1, by omega, by omega, fun i hi => ?_, by rw [e, h3, h4, h5, Int.mul_comm]; rfl, rfl, rfl, bS _⟩ (by omega)⟩⟩⟩⟩
  by_cases c3 : i < p
  · exact h2 i c3
  · rw [show i = p by omega]
    exact c2
end zz47c_way
section zz47e_sm
/-! the reading of a text as a machine with a state and a level, and that it reads what PK says -/
def smA (l v : Int) : Int × Int := if 48 ≤ v ∧ v ≤ 57 then (1, l) else if v = 91 then (4, l) else if v = 40 ∧ l < 5 then (0, l + 1) else (-1, l)
def smT (l v : Int) : Int × Int := if v = 41 then (if 1 ≤ l then (1, l - 1) else (-1, l - 1)) else if v = 42 then (2, l) else if v = 47 then (3, l) else if v = 126 then (1, l) else smA l v
def smS (st : Int × Int) (v : Int) : Int × Int := if st.1 = 0 then smA st.2 v else if st.1 = 1 then smT st.2 v else if st.1 = 2 then (if 50 ≤ v ∧ v ≤ 57 then (1, st.2) else (-1, st.2)) else if st.1 = 3 then (if 49 ≤ v ∧ v ≤ 57 then (0, st.2) else (-1, st.2)) else if st.1 = 4 then (if 49 ≤ v ∧ v ≤ 57 then (5, st.2) else (-1, st.2)) else if st.1 = 5 then (if v = 93 then (1, st.2) else if 49 ≤ v ∧ v ≤ 57 then (5, st.2) else (-1, st.2)) else (-1, st.2)
theorem sm0 (l v : Int) : smS (0, l) v = smA l v := by simp [smS]
theorem sm1 (l v : Int) : smS (1, l) v = smT l v := by simp [smS]
theorem sm2 (l v : Int) : smS (2, l) v = if 50 ≤ v ∧ v ≤ 57 then (1, l) else (-1, l) := by simp [smS]
theorem sm3 (l v : Int) : smS (3, l) v = if 49 ≤ v ∧ v ≤ 57 then (0, l) else (-1, l) := by simp [smS]
theorem sm4 (l v : Int) : smS (4, l) v = if 49 ≤ v ∧ v ≤ 57 then (5, l) else (-1, l) := by simp [smS]
theorem sm5 (l v : Int) : smS (5, l) v = if v = 93 then (1, l) else if 49 ≤ v ∧ v ≤ 57 then (5, l) else (-1, l) := by simp [smS]
theorem smw (st : Int × Int) (v : Int) (h : st.1 = -1) : (smS st v).1 = -1 := by unfold smS; rw [h, if_neg (by decide), if_neg (by decide), if_neg (by decide), if_neg (by decide), if_neg (by decide), if_neg (by decide)]
def smR (f : Nat → Int) : Nat → Int × Int → Nat → Int × Int
  | 0, st, _ => st
  | k + 1, st, p => smR f k (smS st (f p)) (p + 1)
theorem smR_snoc (f : Nat → Int) : ∀ (k : Nat) (st : Int × Int) (p : Nat), smR f (k + 1) st p = smS (smR f k st p) (f (p + k))
  | 0, _, _ => rfl
  | k + 1, st, p => by
    rw [show smR f (k + 1 + 1) st p = smR f (k + 1) (smS st (f p)) (p + 1) from rfl, smR_snoc f k, show smR f (k + 1) st p = smR f k (smS st (f p)) (p + 1) from rfl, show p + 1 + k = p + (k + 1) by omega]
theorem smR_w (f : Nat → Int) : ∀ (k : Nat) (st : Int × Int) (p : Nat), st.1 = -1 → (smR f k st p).1 = -1
  | 0, _, _, h => h
  | k + 1, st, p, h => smR_w f k (smS st (f p)) (p + 1) (smw st _ h)
/-- it is read to its end -/
def AC (T : Nat → Int) (s : Int) (st : Int × Int) (p : Int) : Prop := smR T (s - p).toNat st p.toNat = (1, 0)
theorem AC_s {T : Nat → Int} {s p : Int} {st : Int × Int} (h0 : 0 ≤ p) (h1 : p < s) : AC T s st p ↔ AC T s (smS st (T p.toNat)) (p + 1) := by
  unfold AC
  rw [show (s - p).toNat = (s - (p + 1)).toNat + 1 by omega, show (p + 1).toNat = p.toNat + 1 by omega]
  exact Iff.rfl
theorem AC_w {T : Nat → Int} {s p l : Int} : ¬ AC T s (-1, l) p := fun h => by
  have a := smR_w T (s - p).toNat (-1, l) p.toNat rfl
  rw [h] at a
  exact absurd a (by decide)
theorem AC_e {T : Nat → Int} {s p : Int} {st : Int × Int} (h : p = s) : AC T s st p ↔ st = (1, 0) := by
  unfold AC
  rw [show (s - p).toNat = 0 by omega]
  exact Iff.rfl
theorem AC_n {T : Nat → Int} {s p a l : Int} (ha : a ≠ 1) (h : p = s) : ¬ AC T s (a, l) p := fun x => ha (congrArg Prod.fst ((AC_e h).mp x))
/-- where a reading is done, it goes on as the machine does -/
def stk (k : Nat) : Int := if k ≤ 2 then 0 else if k = 3 then 5 else 1
theorem PK_hi {T : Nat → Int} {s : Int} : ∀ (n k d : Nat) (p q : Int), SK T s n k d p q → p ≤ s → p ≤ 60 → q ≤ s ∧ q ≤ 60 := by
  intro n
  induction n with
  | zero => intro k d p q h; exact h.elim
  | succ n ih =>
    intro k d p q h h1 h2
    match k, h with
    | 0, h =>
      rcases h with ⟨a, b⟩ | ⟨a, b, c, e⟩ | ⟨a, b, c, e, r, x, y, z⟩
      · unfold HS at a; omega
      · unfold HS at b; exact ih _ _ _ _ e (by omega) (by omega)
      · unfold HS at y; omega
    | 1, ⟨r, x, y⟩ =>
      have a := ih _ _ _ _ x h1 h2
      exact ih _ _ _ _ y a.1 a.2
    | 2, ⟨r, x, y⟩ =>
      have a := ih _ _ _ _ x h1 h2
      exact ih _ _ _ _ y a.1 a.2
    | 3, h =>
      rcases h with ⟨a, b⟩ | ⟨a, b, c⟩
      · unfold HS at a; exact ih _ _ _ _ b (by omega) (by omega)
      · unfold HS at b; omega
    | 4, h =>
      rcases h with ⟨a, b⟩ | ⟨a, b, c, e⟩ | h
      · unfold HS at a; exact ih _ _ _ _ b (by omega) (by omega)
      · unfold HS at c; exact ih _ _ _ _ e (by omega) (by omega)
      · omega
    | 5, h =>
      rcases h with ⟨a, b, r, x, y⟩ | ⟨a, b, r, x, y⟩ | h
      · unfold HS at b
        have a := ih _ _ _ _ x (by omega) (by omega)
        exact ih _ _ _ _ y a.1 a.2
      · have a := ih _ _ _ _ x h1 h2
        exact ih _ _ _ _ y a.1 a.2
      · omega
    | _ + 6, h => exact h.elim
set_option maxHeartbeats 2000000 in
theorem PK_ac {T : Nat → Int} {s : Int} : ∀ (n k d : Nat) (p q : Int), d ≤ 5 → SK T s n k d p q → 0 ≤ p → q ≤ s → AC T s (1, (d : Int)) q → AC T s (stk k, (d : Int)) p := by
  intro n
  induction n with
  | zero => intro k d p q _ h; exact h.elim
  | succ n ih =>
    intro k d p q hd h h0 hq ha
    match k, h with
    | 0, h =>
      show AC T s (0, (d : Int)) p
      rcases h with ⟨a, b⟩ | ⟨a, b, c, e⟩ | ⟨a, b, c, e, r, x, y, z⟩
      · unfold HS at a
        rw [AC_s h0 (by omega), sm0]
        unfold smA
        rw [if_pos (by omega), ← b]
        exact ha
      · unfold HS at a b c
        have w : AC T s (5, (d : Int)) (p + 1) := ih 3 _ _ _ hd e (by omega) hq ha
        rw [AC_s (by omega) (by omega), sm5, if_neg (by omega), if_pos (by omega)] at w
        rw [AC_s h0 (by omega), sm0]
        unfold smA
        rw [if_neg (by omega), if_pos (by omega), AC_s (by omega) (by omega), sm4, if_pos (by omega)]
        exact w
      · unfold HS at a b c y
        have hr := PK_hi _ _ _ _ _ x (by omega) (by omega)
        have w : AC T s (0, ((d + 1 : Nat) : Int)) (p + 1) := by
          refine ih 2 _ _ _ (by omega) x (by omega) (by omega) ?_
          have hr0 := PK_le _ _ _ _ _ x
          rw [AC_s (by omega) (by omega), sm1]
          unfold smT
          rw [if_pos (by omega), if_pos (by omega), ← z, show ((d + 1 : Nat) : Int) - 1 = (d : Int) by omega]
          exact ha
        rw [AC_s h0 (by omega), sm0]
        unfold smA
        rw [if_neg (by omega), if_neg (by omega), if_pos (by omega), show (d : Int) + 1 = ((d + 1 : Nat) : Int) by omega]
        exact w
    | 1, ⟨r, x, y⟩ =>
      have hr := PK_le _ _ _ _ _ x
      have hr2 := PK_le _ _ _ _ _ y
      have w : AC T s (1, (d : Int)) r := ih 4 _ _ _ hd y (by omega) hq ha
      exact ih 0 _ _ _ hd x h0 (by omega) w
    | 2, ⟨r, x, y⟩ =>
      have hr := PK_le _ _ _ _ _ x
      have hr2 := PK_le _ _ _ _ _ y
      have w : AC T s (1, (d : Int)) r := ih 5 _ _ _ hd y (by omega) hq ha
      exact ih 1 _ _ _ hd x h0 (by omega) w
    | 3, h =>
      show AC T s (5, (d : Int)) p
      rcases h with ⟨a, b⟩ | ⟨a, b, c⟩
      · unfold HS at a
        rw [AC_s h0 (by omega), sm5, if_neg (by omega), if_pos (by omega)]
        exact ih 3 _ _ _ hd b (by omega) hq ha
      · unfold HS at b
        rw [AC_s h0 (by omega), sm5, if_pos (by omega), ← c]
        exact ha
    | 4, h =>
      show AC T s (1, (d : Int)) p
      rcases h with ⟨a, b⟩ | ⟨a, b, c, e⟩ | ⟨a, b, c⟩
      · unfold HS at a
        rw [AC_s h0 (by omega), sm1]
        unfold smT
        rw [if_neg (by omega), if_neg (by omega), if_neg (by omega), if_pos (by omega)]
        exact ih 4 _ _ _ hd b (by omega) hq ha
      · unfold HS at b c
        rw [AC_s h0 (by omega), sm1]
        unfold smT
        rw [if_neg (by omega), if_pos (by omega), AC_s (by omega) (by omega), sm2, if_pos (by omega), show p + 1 + 1 = p + 2 by omega]
        exact ih 4 _ _ _ hd e (by omega) hq ha
      · rw [← c]
        exact ha
    | 5, h =>
      show AC T s (1, (d : Int)) p
      rcases h with ⟨a, b, r, x, y⟩ | ⟨a, b, r, x, y⟩ | ⟨a, b, c⟩
      · unfold HS at a b
        have hr := PK_le _ _ _ _ _ x
        have hr2 := PK_le _ _ _ _ _ y
        have w : AC T s (1, (d : Int)) r := ih 5 _ _ _ hd y (by omega) hq ha
        have w2 : AC T s (0, (d : Int)) (p + 2) := ih 1 _ _ _ hd x (by omega) (by omega) w
        rw [AC_s h0 (by omega), sm1]
        unfold smT
        rw [if_neg (by omega), if_neg (by omega), if_pos (by omega), AC_s (by omega) (by omega), sm3, if_pos (by omega), show p + 1 + 1 = p + 2 by omega]
        exact w2
      · have hr := PK_le _ _ _ _ _ x
        have hr2 := PK_le _ _ _ _ _ y
        have w : AC T s (1, (d : Int)) r := ih 5 _ _ _ hd y (by omega) hq ha
        have w2 : AC T s (0, (d : Int)) p := ih 1 _ _ _ hd x h0 (by omega) w
        unfold AT HS at b
        rw [AC_s h0 (by omega), sm0] at w2
        rw [AC_s h0 (by omega), sm1]
        unfold smT
        rw [if_neg (by omega), if_neg (by omega), if_neg (by omega), if_neg (by omega)]
        exact w2
      · rw [← c]
        exact ha
    | _ + 6, h => exact h.elim
theorem ac3 {T : Nat → Int} {s : Int} (h60 : s ≤ 60) (d : Nat) : ∀ (N : Nat) (p : Int), (s - p).toNat ≤ N → 0 ≤ p → p ≤ s → AC T s (5, (d : Int)) p → ∃ q, p < q ∧ q ≤ s ∧ PK T s 3 d p q ∧ AC T s (1, (d : Int)) q := by
  intro N
  induction N with
  | zero => intro p h1 h2 h3 h; exact absurd h (AC_n (by decide) (by omega))
  | succ N ih =>
    intro p h1 h2 h3 h
    by_cases c : p = s
    · exact absurd h (AC_n (by decide) c)
    · rw [AC_s h2 (by omega), sm5] at h
      by_cases c1 : T p.toNat = 93
      · rw [if_pos c1] at h
        exact ⟨p + 1, by omega, by omega, PK3.mpr (Or.inr ⟨fun x => by unfold HS at x; omega, by unfold HS; omega, rfl⟩), h⟩
      · rw [if_neg c1] at h
        by_cases c2 : 49 ≤ T p.toNat ∧ T p.toNat ≤ 57
        · rw [if_pos c2] at h
          obtain ⟨q, q1, q2, q3, q4⟩ := ih (p + 1) (by omega) (by omega) (by omega) h
          exact ⟨q, by omega, q2, PK3.mpr (Or.inl ⟨by unfold HS; omega, q3⟩), q4⟩
        · rw [if_neg c2] at h
          exact absurd h AC_w
theorem ac4 {T : Nat → Int} {s : Int} (h60 : s ≤ 60) (d : Nat) : ∀ (N : Nat) (p : Int), (s - p).toNat ≤ N → 0 ≤ p → p ≤ s → AC T s (1, (d : Int)) p → ∃ q, p ≤ q ∧ q ≤ s ∧ PK T s 4 d p q ∧ AC T s (1, (d : Int)) q ∧ ¬ HS T s q 126 126 ∧ ¬ HS T s q 42 42 := by
  intro N
  induction N with
  | zero =>
    intro p h1 h2 h3 h
    have n1 : ¬ HS T s p 126 126 := fun x => by unfold HS at x; omega
    have n2 : ¬ HS T s p 42 42 := fun x => by unfold HS at x; omega
    exact ⟨p, by omega, by omega, PK4.mpr (Or.inr (Or.inr ⟨n1, n2, rfl⟩)), h, n1, n2⟩
  | succ N ih =>
    intro p h1 h2 h3 h
    by_cases n1 : HS T s p 126 126
    · have m := n1
      unfold HS at m
      rw [AC_s h2 (by omega), sm1] at h
      unfold smT at h
      rw [if_neg (by omega), if_neg (by omega), if_neg (by omega), if_pos (by omega)] at h
      obtain ⟨q, q1, q2, q3, q4⟩ := ih (p + 1) (by omega) (by omega) (by omega) h
      exact ⟨q, by omega, q2, PK4.mpr (Or.inl ⟨n1, q3⟩), q4⟩
    · by_cases n2 : HS T s p 42 42
      · have m := n2
        unfold HS at m
        rw [AC_s h2 (by omega), sm1] at h
        unfold smT at h
        rw [if_neg (by omega), if_pos (by omega)] at h
        by_cases c : p + 1 = s
        · exact absurd h (AC_n (by decide) c)
        · rw [AC_s (by omega) (by omega), sm2] at h
          by_cases c2 : 50 ≤ T (p + 1).toNat ∧ T (p + 1).toNat ≤ 57
          · rw [if_pos c2, show p + 1 + 1 = p + 2 by omega] at h
            obtain ⟨q, q1, q2, q3, q4⟩ := ih (p + 2) (by omega) (by omega) (by omega) h
            exact ⟨q, by omega, q2, PK4.mpr (Or.inr (Or.inl ⟨n1, n2, by unfold HS; omega, q3⟩)), q4⟩
          · rw [if_neg c2] at h
            exact absurd h AC_w
      · exact ⟨p, by omega, h3, PK4.mpr (Or.inr (Or.inr ⟨n1, n2, rfl⟩)), h, n1, n2⟩
set_option maxHeartbeats 2000000 in
theorem acM {T : Nat → Int} {s : Int} (h60 : s ≤ 60) : ∀ (N : Nat) (p : Int) (d : Nat), d ≤ 5 → (s - p).toNat ≤ N → 0 ≤ p → p ≤ s →
    (AC T s (0, (d : Int)) p → ∃ q, p < q ∧ q ≤ s ∧ PK T s 1 d p q ∧ AC T s (1, (d : Int)) q ∧ ¬ HS T s q 126 126 ∧ ¬ HS T s q 42 42) ∧
    (AC T s (1, (d : Int)) p → ¬ HS T s p 126 126 → ¬ HS T s p 42 42 → ∃ q, p ≤ q ∧ q ≤ s ∧ PK T s 5 d p q ∧ AC T s (1, (d : Int)) q ∧ (q = s ∨ T q.toNat = 41)) ∧
    (AC T s (0, (d : Int)) p → ∃ q, p < q ∧ q ≤ s ∧ PK T s 2 d p q ∧ AC T s (1, (d : Int)) q ∧ (q = s ∨ T q.toNat = 41)) := by
  intro N
  induction N with
  | zero =>
    intro p d hd h1 h2 h3
    refine ⟨fun h => absurd h (AC_n (by decide) (by omega)), fun h _ _ => ⟨p, by omega, h3, PK5.mpr (Or.inr (Or.inr ⟨fun x => by unfold HS at x; omega, fun x => by unfold AT HS at x; omega, rfl⟩)), h, Or.inl (by omega)⟩, fun h => absurd h (AC_n (by decide) (by omega))⟩
  | succ N ih =>
    intro p d hd h1 h2 h3
    have A0 : AC T s (0, (d : Int)) p → ∃ q, p < q ∧ q ≤ s ∧ PK T s 0 d p q ∧ AC T s (1, (d : Int)) q := by
      intro h
      by_cases c : p = s
      · exact absurd h (AC_n (by decide) c)
      rw [AC_s h2 (by omega), sm0] at h
      unfold smA at h
      by_cases c1 : 48 ≤ T p.toNat ∧ T p.toNat ≤ 57
      · rw [if_pos c1] at h
        exact ⟨p + 1, by omega, by omega, PK0.mpr (Or.inl ⟨by unfold HS; omega, rfl⟩), h⟩
      rw [if_neg c1] at h
      by_cases c2 : T p.toNat = 91
      · rw [if_pos c2] at h
        by_cases c3 : p + 1 = s
        · exact absurd h (AC_n (by decide) c3)
        rw [AC_s (by omega) (by omega), sm4] at h
        by_cases c4 : 49 ≤ T (p + 1).toNat ∧ T (p + 1).toNat ≤ 57
        · rw [if_pos c4] at h
          obtain ⟨q, q1, q2, q3, q4⟩ := ac3 h60 d _ (p + 1 + 1) (Nat.le_refl _) (by omega) (by omega) h
          exact ⟨q, by omega, q2, PK0.mpr (Or.inr (Or.inl ⟨fun x => by unfold HS at x; omega, by unfold HS; omega, by unfold HS; omega, PK3.mpr (Or.inl ⟨by unfold HS; omega, q3⟩)⟩)), q4⟩
        · rw [if_neg c4] at h
          exact absurd h AC_w
      rw [if_neg c2] at h
      by_cases c3 : T p.toNat = 40 ∧ (d : Int) < 5
      · rw [if_pos c3, show (d : Int) + 1 = ((d + 1 : Nat) : Int) by omega] at h
        obtain ⟨r, r1, r2, r3, r4, r5⟩ := (ih (p + 1) (d + 1) (by omega) (by omega) (by omega) (by omega)).2.2 h
        by_cases c4 : r = s
        · have e := congrArg Prod.snd ((AC_e c4).mp r4)
          exact absurd e (by show ¬ (((d + 1 : Nat) : Int) = 0); omega)
        have e41 : T r.toNat = 41 := r5.resolve_left c4
        rw [AC_s (by omega) (by omega), sm1] at r4
        unfold smT at r4
        rw [if_pos e41, if_pos (by omega), show ((d + 1 : Nat) : Int) - 1 = (d : Int) by omega] at r4
        exact ⟨r + 1, by omega, by omega, PK0.mpr (Or.inr (Or.inr ⟨fun x => by unfold HS at x; omega, fun x => by unfold HS at x; omega, by unfold HS; omega, by omega, r, r3, by unfold HS; omega, rfl⟩)), r4⟩
      · rw [if_neg c3] at h
        exact absurd h AC_w
    have A1 : AC T s (0, (d : Int)) p → ∃ q, p < q ∧ q ≤ s ∧ PK T s 1 d p q ∧ AC T s (1, (d : Int)) q ∧ ¬ HS T s q 126 126 ∧ ¬ HS T s q 42 42 := by
      intro h
      obtain ⟨r, r1, r2, r3, r4⟩ := A0 h
      obtain ⟨q, q1, q2, q3, q4⟩ := ac4 h60 d _ r (Nat.le_refl _) (by omega) r2 r4
      exact ⟨q, by omega, q2, PK1.mpr ⟨r, r3, q3⟩, q4⟩
    refine ⟨A1, ?_, ?_⟩
    · intro h n1 n2
      by_cases c : p = s
      · exact ⟨p, by omega, h3, PK5.mpr (Or.inr (Or.inr ⟨fun x => by unfold HS at x; omega, fun x => by unfold AT HS at x; omega, rfl⟩)), h, Or.inl c⟩
      have m1 : T p.toNat ≠ 126 := fun x => n1 (by unfold HS; omega)
      have m2 : T p.toNat ≠ 42 := fun x => n2 (by unfold HS; omega)
      by_cases c1 : T p.toNat = 41
      · exact ⟨p, by omega, h3, PK5.mpr (Or.inr (Or.inr ⟨fun x => by unfold HS at x; omega, fun x => by unfold AT HS at x; omega, rfl⟩)), h, Or.inr c1⟩
      rw [AC_s h2 (by omega), sm1] at h
      unfold smT at h
      rw [if_neg c1, if_neg m2] at h
      by_cases c2 : T p.toNat = 47
      · rw [if_pos c2] at h
        by_cases c3 : p + 1 = s
        · exact absurd h (AC_n (by decide) c3)
        rw [AC_s (by omega) (by omega), sm3] at h
        by_cases c4 : 49 ≤ T (p + 1).toNat ∧ T (p + 1).toNat ≤ 57
        · rw [if_pos c4, show p + 1 + 1 = p + 2 by omega] at h
          obtain ⟨r, r1, r2, r3, r4, r5, r6⟩ := (ih (p + 2) d hd (by omega) (by omega) (by omega)).1 h
          obtain ⟨q, q1, q2, q3, q4⟩ := (ih r d hd (by omega) (by omega) r2).2.1 r4 r5 r6
          exact ⟨q, by omega, q2, PK5.mpr (Or.inl ⟨by unfold HS; omega, by unfold HS; omega, r, r3, q3⟩), q4⟩
        · rw [if_neg c4] at h
          exact absurd h AC_w
      rw [if_neg c2, if_neg m1] at h
      have hA : AC T s (0, (d : Int)) p := by
        rw [AC_s h2 (by omega), sm0]
        exact h
      obtain ⟨r, r1, r2, r3, r4, r5, r6⟩ := A1 hA
      obtain ⟨q, q1, q2, q3, q4⟩ := (ih r d hd (by omega) (by omega) r2).2.1 r4 r5 r6
      have at0 : AT T s p := by
        by_cases d1 : 48 ≤ T p.toNat ∧ T p.toNat ≤ 57
        · exact Or.inl (by unfold HS; omega)
        by_cases d2 : T p.toNat = 91
        · exact Or.inr (Or.inl (by unfold HS; omega))
        by_cases d3 : T p.toNat = 40
        · exact Or.inr (Or.inr (by unfold HS; omega))
        unfold smA at h
        rw [if_neg d1, if_neg d2, if_neg (by omega)] at h
        exact absurd h AC_w
      exact ⟨q, by omega, q2, PK5.mpr (Or.inr (Or.inl ⟨fun x => by unfold HS at x; omega, at0, r, r3, q3⟩)), q4⟩
    · intro h
      obtain ⟨r, r1, r2, r3, r4, r5, r6⟩ := A1 h
      obtain ⟨q, q1, q2, q3, q4⟩ := (ih r d hd (by omega) (by omega) r2).2.1 r4 r5 r6
      exact ⟨q, by omega, q2, PK2.mpr ⟨r, r3, q3⟩, q4⟩
/-- what can be read to its end is what the machine reads to its end -/
theorem PK_iff {T : Nat → Int} {s : Int} (h0 : 0 ≤ s) : (∃ q, PK T s 2 0 0 q ∧ s ≤ q) ↔ (s ≤ 60 ∧ AC T s (0, 0) 0) := by
  constructor
  · rintro ⟨q, ⟨n, h⟩, hq⟩
    have hi := PK_hi _ _ _ _ _ h h0 (by omega)
    refine ⟨by omega, ?_⟩
    exact PK_ac n 2 0 0 q (by omega) h (by omega) hi.1 ((AC_e (by omega)).mpr rfl)
  · rintro ⟨h60, h⟩
    obtain ⟨q, q1, q2, q3, q4, q5⟩ := (acM h60 _ 0 0 (by omega) (Nat.le_refl _) (by omega) h0).2.2 h
    refine ⟨q, q3, ?_⟩
    by_cases c : q = s
    · omega
    · exfalso
      have e41 : T q.toNat = 41 := q5.resolve_left c
      rw [AC_s (by omega) (by omega), sm1] at q4
      unfold smT at q4
      rw [if_pos e41, if_neg (by decide)] at q4
      exact AC_w q4
end zz47e_sm
section zz47f_wrong
/-! the class reads a text as that machine does -/
theorem smR_add (f : Nat → Int) : ∀ (a b : Nat) (st : Int × Int) (p : Nat), smR f (a + b) st p = smR f b (smR f a st p) (p + a)
  | 0, b, st, p => by rw [Nat.zero_add]; rfl
  | a + 1, b, st, p => by
    rw [show a + 1 + b = (a + b) + 1 by omega, show smR f (a + b + 1) st p = smR f (a + b) (smS st (f p)) (p + 1) from rfl, smR_add f a b, show p + 1 + a = p + (a + 1) by omega]
    rfl
theorem smX (st : Int × Int) (v : Int) (h : v < 0 ∨ 128 ≤ v) : smS st v = (-1, st.2) := by
  have a : smA st.2 v = (-1, st.2) := by
    unfold smA
    rw [if_neg (by omega), if_neg (by omega), if_neg (by omega)]
  have b : smT st.2 v = (-1, st.2) := by
    unfold smT
    rw [if_neg (by omega), if_neg (by omega), if_neg (by omega), if_neg (by omega)]
    exact a
  unfold smS
  by_cases c0 : st.1 = 0
  · rw [if_pos c0]
    exact a
  rw [if_neg c0]
  by_cases c1 : st.1 = 1
  · rw [if_pos c1]
    exact b
  rw [if_neg c1]
  by_cases c2 : st.1 = 2
  · rw [if_pos c2, if_neg (by omega)]
  rw [if_neg c2]
  by_cases c3 : st.1 = 3
  · rw [if_pos c3, if_neg (by omega)]
  rw [if_neg c3]
  by_cases c4 : st.1 = 4
  · rw [if_pos c4, if_neg (by omega)]
  rw [if_neg c4]
  by_cases c5 : st.1 = 5
  · rw [if_pos c5, if_neg (by omega), if_neg (by omega)]
  rw [if_neg c5]
/-- a byte, from 0 on -/
def bU (v : Int) : Int := if v < 0 then v + 256 else v
theorem smR_bU {f T : Nat → Int} {n : Nat} (hT : ∀ i, -128 ≤ T i) (h : ∀ i : Nat, i < n → f i = bU (T i)) : ∀ (k : Nat) (st : Int × Int) (p : Nat), p + k ≤ n → smR f k st p = smR T k st p
  | 0, _, _, _ => rfl
  | k + 1, st, p, hp => by
    have e : smS st (f p) = smS st (T p) := by
      rw [h p (by omega)]
      unfold bU
      by_cases c : T p < 0
      · rw [if_pos c, smX st _ (Or.inl c), smX st _ (Or.inr (by have := hT p; omega))]
      · rw [if_neg c]
    show smR f k (smS st (f p)) (p + 1) = smR T k (smS st (T p)) (p + 1)
    rw [e]
    exact smR_bU hT h k _ _ (by omega)
theorem fC_bAtom {M : zM} {a0 : Int} (hB : BN wC M) (v0 : 0 ≤ a0 ∧ a0 ≤ 255) {Q : Int → zM → Prop} (hQ : ∀ (z : Int) (M1 : zM), BN wC M1 ∧ (∀ a b : Nat, ¬ (a = 1 ∧ b = 2) → M1 a b = M a b) ∧ (z, M1 1 2) = smA (M 1 2) a0 → Q z M1) : wC_Splicer_behindAtomStart a0 M Q := by
  unfold wC_Splicer_behindAtomStart
  have s0 : sI a0 = a0 := sIo (by omega) (by omega)
  have bl : -1 ≤ M 1 2 ∧ M 1 2 ≤ 5 := BN.at hB (rfl : zcd wC 1 = 1) rfl
  have sl : sI (M 1 2) = M 1 2 := sIo (by omega) (by omega)
  simp only [s0, sl]
  refine sC_Splicer_isDigit hB (by omega) (by omega) (fun z p => ?_)
  obtain ⟨-, p1, -⟩ := p
  refine ⟨fun c => ⟨fun c2 => ⟨fun c3 => ?_, fun c3 => ⟨fun c4 => ?_, fun c4 => fun M9 e9 => ?_⟩⟩, fun c2 => ?_⟩, fun c => ?_⟩
  · exact hQ _ _ ⟨hB, fun _ _ _ => rfl, by unfold smA; rw [if_neg (by omega), if_neg (by omega), if_neg (by omega)]⟩
  · exact hQ _ _ ⟨hB, fun _ _ _ => rfl, by unfold smA; rw [if_neg (by omega), if_neg (by omega), if_neg (by omega)]⟩
  · exact hQ _ _ ⟨by rw [e9]; exact BN.up hB (rfl : zcd wC 1 = 1) rfl (by omega) (by omega), fun a b h => by rw [e9]; exact zup_n _ _ h, by unfold smA; rw [if_neg (by omega), if_neg (by omega), if_pos (by omega), e9, zup_s]⟩
  · exact hQ _ _ ⟨hB, fun _ _ _ => rfl, by unfold smA; rw [if_neg (by omega), if_pos (by omega)]⟩
  · exact hQ _ _ ⟨hB, fun _ _ _ => rfl, by unfold smA; rw [if_pos (by omega)]⟩
theorem fC_bTerm {M : zM} {a0 : Int} (hB : BN wC M) (v0 : 0 ≤ a0 ∧ a0 ≤ 255) (hl : 0 ≤ M 1 2) {Q : Int → zM → Prop} (hQ : ∀ (z : Int) (M1 : zM), BN wC M1 ∧ (∀ a b : Nat, ¬ (a = 1 ∧ b = 2) → M1 a b = M a b) ∧ (z, M1 1 2) = smT (M 1 2) a0 → Q z M1) : wC_Splicer_behindTermSign a0 M Q := by
  unfold wC_Splicer_behindTermSign
  have s0 : sI a0 = a0 := sIo (by omega) (by omega)
  have bl : -1 ≤ M 1 2 ∧ M 1 2 ≤ 5 := BN.at hB (rfl : zcd wC 1 = 1) rfl
  simp only [s0]
  refine ⟨fun c => fun M2 e2 => ?_, fun c => ⟨fun c2 => ?_, fun c2 => ⟨fun c3 => ?_, fun c3 => ⟨fun c4 => ?_, fun c4 => ?_⟩⟩⟩⟩
  · have b2 : BN wC M2 := by rw [e2]; exact BN.up hB (rfl : zcd wC 1 = 1) rfl (by omega) (by omega)
    have f2 : ∀ a b : Nat, ¬ (a = 1 ∧ b = 2) → M2 a b = M a b := fun a b h => by rw [e2]; exact zup_n _ _ h
    have n2 : M2 1 2 = M 1 2 - 1 := by rw [e2, zup_s]
    have s2 : sI (M2 1 2) = M 1 2 - 1 := by rw [n2]; exact sIo (by omega) (by omega)
    rw [s2]
    refine ⟨fun d => ?_, fun d => ?_⟩
    · exact hQ _ _ ⟨b2, f2, by unfold smT; rw [if_pos c, if_pos (by omega), n2]⟩
    · exact hQ _ _ ⟨b2, f2, by unfold smT; rw [if_pos c, if_neg (by omega), n2]⟩
  · exact hQ _ _ ⟨hB, fun _ _ _ => rfl, by unfold smT; rw [if_neg c, if_pos c2]⟩
  · exact hQ _ _ ⟨hB, fun _ _ _ => rfl, by unfold smT; rw [if_neg c, if_neg c2, if_pos c3]⟩
  · exact hQ _ _ ⟨hB, fun _ _ _ => rfl, by unfold smT; rw [if_neg c, if_neg c2, if_neg c3, if_pos c4]⟩
  · refine fC_bAtom hB v0 (fun z M1 h => hQ _ _ ⟨h.1, h.2.1, ?_⟩)
    unfold smT
    rw [if_neg c, if_neg c2, if_neg c3, if_neg c4]
    exact h.2.2
set_option maxHeartbeats 1000000 in
theorem fC_behind {M : zM} {a0 a1 : Int} (hB : BN wC M) (v0 : 0 ≤ a0 ∧ a0 ≤ 5) (v1 : 0 ≤ a1 ∧ a1 ≤ 255) (hl : 0 ≤ M 1 2) {Q : Int → zM → Prop} (hQ : ∀ (z : Int) (M1 : zM), BN wC M1 ∧ (∀ a b : Nat, ¬ (a = 1 ∧ b = 2) → M1 a b = M a b) ∧ (z, M1 1 2) = smS (a0, M 1 2) a1 → Q z M1) : wC_Splicer_behind a0 a1 M Q := by
  unfold wC_Splicer_behind
  have s0 : sI a0 = a0 := sIo (by omega) (by omega)
  have s1 : sI a1 = a1 := sIo (by omega) (by omega)
  simp only [s0, s1]
  have dig : ∀ {z lo n : Int}, (z = 1 ∧ lo ≤ a1 ∧ a1 ≤ 57) ∨ (z = 0 ∧ ¬ (lo ≤ a1 ∧ a1 ≤ 57)) → smS (a0, M 1 2) a1 = (if lo ≤ a1 ∧ a1 ≤ 57 then (n, M 1 2) else (-1, M 1 2)) → (z = 0 → Q (-1) M) ∧ (z ≠ 0 → Q n M) := by
    intro z lo n p e
    refine ⟨fun c => hQ _ _ ⟨hB, fun _ _ _ => rfl, ?_⟩, fun c => hQ _ _ ⟨hB, fun _ _ _ => rfl, ?_⟩⟩
    · rw [e, if_neg (by omega)]
    · rw [e, if_pos (by omega)]
  refine ⟨fun c => ?_, fun c => ⟨fun c1 => ?_, fun c1 => ⟨fun c2 => ?_, fun c2 => ⟨fun c3 => ?_, fun c3 => ⟨fun c4 => ?_, fun c4 => ⟨fun c5 => ?_, fun c5 => absurd v0 (by omega)⟩⟩⟩⟩⟩⟩
  · refine fC_bAtom hB v1 (fun z M1 h => hQ _ _ ⟨h.1, h.2.1, ?_⟩)
    rw [c, sm0]
    exact h.2.2
  · refine fC_bTerm hB v1 hl (fun z M1 h => hQ _ _ ⟨h.1, h.2.1, ?_⟩)
    rw [c1, sm1]
    exact h.2.2
  · refine sC_Splicer_isDigit hB (by omega) (by omega) (fun z p => ?_)
    exact dig p.2.1 (by rw [c2, sm2])
  · refine sC_Splicer_isDigit hB (by omega) (by omega) (fun z p => ?_)
    exact dig p.2.1 (by rw [c3, sm3])
  · refine sC_Splicer_isDigit hB (by omega) (by omega) (fun z p => ?_)
    exact dig p.2.1 (by rw [c4, sm4])
  · refine ⟨fun c6 => ?_, fun c6 => ?_⟩
    · refine sC_Splicer_isDigit hB (by omega) (by omega) (fun z p => ?_)
      exact dig p.2.1 (by rw [c5, sm5, if_neg c6])
    · exact hQ _ _ ⟨hB, fun _ _ _ => rfl, by rw [c5, sm5, if_pos c6]⟩
theorem smA_in {l v : Int} (hl : 0 ≤ l) : -1 ≤ (smA l v).1 ∧ (smA l v).1 ≤ 5 ∧ ((smA l v).1 = -1 ∨ 0 ≤ (smA l v).2) := by
  unfold smA
  by_cases c1 : 48 ≤ v ∧ v ≤ 57
  · rw [if_pos c1]; exact ⟨by simp, by simp, Or.inr hl⟩
  rw [if_neg c1]
  by_cases c2 : v = 91
  · rw [if_pos c2]; exact ⟨by simp, by simp, Or.inr hl⟩
  rw [if_neg c2]
  by_cases c3 : v = 40 ∧ l < 5
  · rw [if_pos c3]; exact ⟨by simp, by simp, Or.inr (by show 0 ≤ l + 1; omega)⟩
  · rw [if_neg c3]; exact ⟨by simp, by simp, Or.inl rfl⟩
theorem smT_in {l v : Int} (hl : 0 ≤ l) : -1 ≤ (smT l v).1 ∧ (smT l v).1 ≤ 5 ∧ ((smT l v).1 = -1 ∨ 0 ≤ (smT l v).2) := by
  unfold smT
  by_cases c1 : v = 41
  · rw [if_pos c1]
    by_cases c : 1 ≤ l
    · rw [if_pos c]; exact ⟨by simp, by simp, Or.inr (by show 0 ≤ l - 1; omega)⟩
    · rw [if_neg c]; exact ⟨by simp, by simp, Or.inl rfl⟩
  rw [if_neg c1]
  by_cases c2 : v = 42
  · rw [if_pos c2]; exact ⟨by simp, by simp, Or.inr hl⟩
  rw [if_neg c2]
  by_cases c3 : v = 47
  · rw [if_pos c3]; exact ⟨by simp, by simp, Or.inr hl⟩
  rw [if_neg c3]
  by_cases c4 : v = 126
  · rw [if_pos c4]; exact ⟨by simp, by simp, Or.inr hl⟩
  rw [if_neg c4]
  exact smA_in hl
theorem smS_in {a l v : Int} (ha : 0 ≤ a ∧ a ≤ 5) (hl : 0 ≤ l) : -1 ≤ (smS (a, l) v).1 ∧ (smS (a, l) v).1 ≤ 5 ∧ ((smS (a, l) v).1 = -1 ∨ 0 ≤ (smS (a, l) v).2) := by
  have dig : ∀ (lo n : Int), (-1 ≤ n ∧ n ≤ 5) → -1 ≤ (if lo ≤ v ∧ v ≤ 57 then (n, l) else ((-1 : Int), l)).1 ∧ (if lo ≤ v ∧ v ≤ 57 then (n, l) else ((-1 : Int), l)).1 ≤ 5 ∧ ((if lo ≤ v ∧ v ≤ 57 then (n, l) else ((-1 : Int), l)).1 = -1 ∨ 0 ≤ (if lo ≤ v ∧ v ≤ 57 then (n, l) else ((-1 : Int), l)).2) := by
    intro lo n hn
    by_cases c : lo ≤ v ∧ v ≤ 57
    · rw [if_pos c]; exact ⟨hn.1, hn.2, Or.inr hl⟩
    · rw [if_neg c]; exact ⟨by simp, by simp, Or.inl rfl⟩
  rcases (by omega : a = 0 ∨ a = 1 ∨ a = 2 ∨ a = 3 ∨ a = 4 ∨ a = 5) with rfl | rfl | rfl | rfl | rfl | rfl
  · rw [sm0]; exact smA_in hl
  · rw [sm1]; exact smT_in hl
  · rw [sm2]; exact dig _ _ (by decide)
  · rw [sm3]; exact dig _ _ (by decide)
  · rw [sm4]; exact dig _ _ (by decide)
  · rw [sm5]
    by_cases c : v = 93
    · rw [if_pos c]; exact ⟨by simp, by simp, Or.inr hl⟩
    · rw [if_neg c]; exact dig _ _ (by decide)
set_option maxHeartbeats 1000000 in
theorem fC_firstWrong {M : zM} (hB : BN wC M) {Q : Int → zM → Prop} (hQ : ∀ (z : Int) (M1 : zM), BN wC M1 ∧ (∀ a b : Nat, ¬ (a = 1 ∧ b = 2) → M1 a b = M a b) ∧ ((z = -1 ∧ M 1 1 ≤ 60 ∧ AC (M 2) (M 1 1) (0, 0) 0) ∨ (0 ≤ z ∧ z ≤ 100 ∧ ¬ (M 1 1 ≤ 60 ∧ AC (M 2) (M 1 1) (0, 0) 0))) → Q z M1) : wC_Splicer_firstWrong M Q := by
  unfold wC_Splicer_firstWrong
  intro M1 e1
  have bn : 0 ≤ M 1 1 ∧ M 1 1 ≤ 100 := BN.at hB (rfl : zcd wC 1 = 1) rfl
  refine wL2_of (fun x y M2 => BN wC M2 ∧ (∀ a b : Nat, ¬ (a = 1 ∧ b = 2) → M2 a b = M a b) ∧ (0 ≤ y ∧ y ≤ M 1 1 ∧ y ≤ 60) ∧ (x, M2 1 2) = smR (M 2) y.toNat (0, 0) 0 ∧ (0 ≤ x ∧ x ≤ 5) ∧ 0 ≤ M2 1 2) (fun _ y _ => (1000 - y).toNat) ⟨by rw [e1]; exact BN.up hB (rfl : zcd wC 1 = 1) rfl (by omega) (by omega), fun a b h => by rw [e1]; exact zup_n _ _ h, by omega, by rw [e1, zup_s]; rfl, by omega, by rw [e1, zup_s]; omega⟩ (fun K x y M2 h k => ?_)
  obtain ⟨b2, f2, hy, hr, hx, hl⟩ := h
  have n2 : M2 1 1 = M 1 1 := f2 1 1 (by omega)
  have r2 : M2 2 = M 2 := funext fun q => f2 2 q (by omega)
  have sn : sI (M 1 1) = M 1 1 := sIo (by omega) (by omega)
  have sy : sI y = y := sIo (by omega) (by omega)
  have sx : sI x = x := sIo (by omega) (by omega)
  have bl : -1 ≤ M2 1 2 ∧ M2 1 2 ≤ 5 := BN.at b2 (rfl : zcd wC 1 = 1) rfl
  have sl : sI (M2 1 2) = M2 1 2 := sIo (by omega) (by omega)
  have bs : 0 ≤ M 2 y.toNat ∧ M 2 y.toNat ≤ 255 := BN.at hB (rfl : zcd wC 2 = 2) rfl
  simp only [n2, r2, sn, sy, sx, sl]
  refine pJ0_of (M 1 1 ≤ y ∨ 60 ≤ y) (fun hJ => ?_) ⟨fun c => Or.inl c, fun c => ⟨fun c2 => Or.inr c2, fun c2 => ⟨⟨by omega, by omega⟩, ?_⟩⟩⟩
  · refine ⟨fun c => ?_, fun c => hQ _ _ ⟨b2, f2, Or.inr ⟨by omega, by omega, fun h => by omega⟩⟩⟩
    have ey : y = M 1 1 := by omega
    have ea : AC (M 2) (M 1 1) (0, 0) 0 ↔ (x, M2 1 2) = (1, 0) := by
      unfold AC
      rw [hr, ey, show (M 1 1 - 0).toNat = (M 1 1).toNat by omega]
      exact Iff.rfl
    refine ⟨fun d => hQ _ _ ⟨b2, f2, Or.inr ⟨by omega, by omega, fun h => d (congrArg Prod.fst (ea.mp h.2))⟩⟩, fun d => ⟨fun d2 => hQ _ _ ⟨b2, f2, Or.inr ⟨by omega, by omega, fun h => d2 (congrArg Prod.snd (ea.mp h.2))⟩⟩, fun d2 => hQ _ _ ⟨b2, f2, Or.inl ⟨rfl, c, ea.mpr (by rw [d, d2])⟩⟩⟩⟩
  · refine fC_behind b2 hx bs hl (fun z M3 h3 => ?_)
    obtain ⟨b3, f3, h3⟩ := h3
    have hr3 : (z, M3 1 2) = smR (M 2) (y + 1).toNat (0, 0) 0 := by
      rw [show (y + 1).toNat = y.toNat + 1 by omega, smR_snoc, ← hr, Nat.zero_add]
      exact h3
    have f4 : ∀ a b : Nat, ¬ (a = 1 ∧ b = 2) → M3 a b = M a b := fun a b h => (f3 a b h).trans (f2 a b h)
    have hin := smS_in (a := x) (l := M2 1 2) (v := M 2 y.toNat) hx hl
    rw [← h3] at hin
    refine ⟨fun d => k _ _ _ ⟨b3, f4, by omega, hr3, ⟨by have := hin.1; show 0 ≤ z; have : -1 ≤ z := this; omega, hin.2.1⟩, hin.2.2.resolve_left d⟩ (by omega), fun d => hQ _ _ ⟨b3, f4, Or.inr ⟨by omega, by omega, fun h => ?_⟩⟩⟩
    have w := smR_add (M 2) (y + 1).toNat ((M 1 1).toNat - (y + 1).toNat) (0, 0) 0
    rw [← hr3, show (y + 1).toNat + ((M 1 1).toNat - (y + 1).toNat) = (M 1 1 - 0).toNat by omega] at w
    have h2 := h.2
    unfold AC at h2
    rw [show (0 : Int).toNat = 0 from rfl, w] at h2
    have e := smR_w (M 2) ((M 1 1).toNat - (y + 1).toNat) (z, M3 1 2) (0 + (y + 1).toNat) d
    rw [h2] at e
    exact absurd e (by decide)
end zz47f_wrong
section zz47g_strip
/-! strips of the class, by what they hold -/
abbrev SV : Type := Nat × (Nat → Int)
def isS (M : zM) (j : Nat) (x : SV) : Prop := M j 1 = (x.1 : Int) ∧ ∀ k : Nat, k < x.1 → M (j + 1) k = x.2 k
theorem isS_cg {M M1 : zM} {j : Nat} {x : SV} (h : isS M j x) (e1 : M1 j 1 = M j 1) (e2 : ∀ k, M1 (j + 1) k = M (j + 1) k) : isS M1 j x := ⟨by rw [e1]; exact h.1, fun k hk => by rw [e2]; exact h.2 k hk⟩
def turnV (x : SV) : SV := (x.1, fun k => x.2 (x.1 - 1 - k))
def repV (x : SV) (t : Nat) : SV := (x.1 * t, fun k => x.2 (k % x.1))
def layV (r t : SV) (d : Nat) : SV := (r.1 + t.1 - d, fun k => if k < r.1 - d then r.2 k else orI (t.2 (k - (r.1 - d))) (if k < r.1 then r.2 k else 0))
def addV (x : SV) (b : Int) : SV := (x.1, fun k => if k = 0 then orI (x.2 0) b else x.2 k)
theorem fC_copy {M : zM} {j a0 : Nat} {x : SV} (hB : BN wC M) (cd_j : zcd wC j = 6) (cd_j1 : zcd wC (j + 1) = 7) (cd_a : zcd wC a0 = 6) (ha : a0 ≠ j ∧ a0 ≠ j + 1 ∧ a0 + 1 ≠ j) (h : isS M a0 x) {Q : zM → Prop} (hQ : ∀ M1 : zM, BN wC M1 ∧ (∀ a b : Nat, ¬ (a = j ∧ b = 1 ∨ a = j + 1) → M1 a b = M a b) ∧ isS M1 j x ∧ (∀ k : Nat, k < 24 → M1 (j + 1) k = M (a0 + 1) k) → Q M1) : wC_Strip_copy j a0 M Q := by
  unfold wC_Strip_copy
  obtain ⟨h1, h2⟩ := h
  have bl : 0 ≤ M a0 1 ∧ M a0 1 ≤ 24 := BN.at hB cd_a rfl
  intro M5 e5
  have b5 : BN wC M5 := by rw [e5]; exact BN.up hB cd_j rfl (by omega) (by omega)
  refine ⟨by omega, fun M8 e8 => ?_⟩
  have b8 : BN wC M8 := by rw [e8]; exact BN.cp b5 cd_j1 (fun _ => rfl) (fun k => BN.r32 b5 _ k)
  have row : ∀ k : Nat, k < 24 → M8 (j + 1) k = M (a0 + 1) k := fun k hk => by
    rw [e8]
    unfold zcp
    rw [if_pos ⟨rfl, Nat.zero_le _, by show k < 0 + 24; omega⟩, e5, zup_n _ _ (by omega)]
    show M (a0 + 1) (0 + (k - 0)) = M (a0 + 1) k
    rw [Nat.zero_add, Nat.sub_zero]
  have fr : ∀ a b : Nat, ¬ (a = j ∧ b = 1 ∨ a = j + 1) → M8 a b = M a b := fun a b hab => by
    rw [e8, zcp_row (by omega), e5, zup_n _ _ (by omega)]
  have len : M8 j 1 = M a0 1 := by rw [e8, zcp_row (by omega), e5, zup_s]
  exact hQ _ ⟨b8, fr, ⟨by rw [len]; exact h1, fun k hk => by rw [row k (by omega)]; exact h2 k hk⟩, row⟩
theorem fC_becomeInch {M : zM} {j : Nat} {a0 : Int} (hB : BN wC M) (cd_j : zcd wC j = 6) (cd_j1 : zcd wC (j + 1) = 7) (v0 : -2147483648 ≤ a0 ∧ a0 ≤ 2147483647) {Q : zM → Prop} (hQ : ∀ M1 : zM, BN wC M1 ∧ (∀ a b : Nat, ¬ (a = j ∧ b = 1 ∨ a = j + 1) → M1 a b = M a b) ∧ isS M1 j (1, fun _ => a0) → Q M1) : wC_Strip_becomeInch j a0 M Q := by
  unfold wC_Strip_becomeInch
  intro M3 e3 M5 e5
  have b3 : BN wC M3 := by rw [e3]; exact BN.up hB cd_j1 rfl v0.1 v0.2
  have b5 : BN wC M5 := by rw [e5]; exact BN.up b3 cd_j rfl (by omega) (by omega)
  refine hQ _ ⟨b5, fun a b hab => by rw [e5, zup_n _ _ (by omega), e3, zup_n _ _ (by omega)], by rw [e5, zup_s]; rfl, fun k hk => ?_⟩
  have hk : k < 1 := hk
  rw [e5, zup_n _ _ (by omega), e3, show k = 0 by omega, zup_s]
theorem fC_addTo {M : zM} {j : Nat} {a1 : Int} {x : SV} (hB : BN wC M) (lt_j : j < nC) (cd_j : zcd wC j = 6) (cd_j1 : zcd wC (j + 1) = 7) (h : isS M j x) {Q : zM → Prop} (hQ : ∀ M1 : zM, BN wC M1 ∧ (∀ a b : Nat, ¬ (a = j + 1) → M1 a b = M a b) ∧ isS M1 j (addV x a1) → Q M1) : wC_Strip_addTo j 0 a1 M Q := by
  unfold wC_Strip_addTo
  obtain ⟨h1, h2⟩ := h
  have s0 : sI (0 : Int) = 0 := sIo (by omega) (by omega)
  refine sC_Strip_has hB lt_j cd_j (by omega) (fun z p => ?_)
  obtain ⟨-, p1, -⟩ := p
  refine ⟨fun c => hQ _ ⟨hB, fun _ _ _ => rfl, h1, fun k hk => ?_⟩, fun c => ?_⟩
  · have hk : k < x.1 := hk
    exfalso
    omega
  · rw [s0]
    refine ⟨by omega, by omega, fun M3 e3 => ?_⟩
    refine hQ _ ⟨by rw [e3]; exact BN.up hB cd_j1 rfl (orI_R _ _).1 (orI_R _ _).2, fun a b hab => by rw [e3, zup_n _ _ (by omega)], by rw [e3, zup_n _ _ (by omega)]; exact h1, fun k hk => ?_⟩
    have hk : k < x.1 := hk
    show M3 (j + 1) k = if k = 0 then orI (x.2 0) a1 else x.2 k
    rw [e3, show (0 : Int).toNat = 0 from rfl]
    by_cases c5 : k = 0
    · rw [c5, zup_s, if_pos rfl, h2 0 (by omega)]
    · rw [zup_n _ _ (by omega), if_neg c5]
      exact h2 k hk
set_option maxHeartbeats 1000000 in
theorem fC_repeat {M : zM} {j : Nat} {a0 : Int} {x : SV} {t : Nat} (hB : BN wC M) (cd_j : zcd wC j = 6) (cd_j1 : zcd wC (j + 1) = 7) (h : isS M j x) (ht : a0 = (t : Int)) (hm : x.1 * t ≤ 24) {Q : zM → Prop} (hQ : ∀ M1 : zM, BN wC M1 ∧ (∀ a b : Nat, ¬ (a = j ∧ b = 1 ∨ a = j + 1) → M1 a b = M a b) ∧ isS M1 j (repV x t) → Q M1) : wC_Strip_repeat j a0 M Q := by
  unfold wC_Strip_repeat
  obtain ⟨n, f⟩ := x
  obtain ⟨h1, h2⟩ := h
  have h1 : M j 1 = (n : Int) := h1
  have hm : n * t ≤ 24 := hm
  have bl : 0 ≤ M j 1 ∧ M j 1 ≤ 24 := BN.at hB cd_j rfl
  have e0 : min (sI (M j 1 * a0)) 24 = ((n * t : Nat) : Int) := by
    rw [h1, ht, ← Int.natCast_mul, sIo (by omega) (by omega)]
    omega
  rw [e0, h1]
  refine wL1_of (fun y M2 => BN wC M2 ∧ (∀ a b : Nat, ¬ (a = j ∧ b = 1 ∨ a = j + 1) → M2 a b = M a b) ∧ M2 j 1 = (n : Int) ∧ ∃ i : Nat, y = (i : Int) ∧ n ≤ i ∧ i ≤ 24 ∧ ∀ k : Nat, k < i → M2 (j + 1) k = f (k % n)) (fun y _ => (1000 - y).toNat) ⟨hB, fun _ _ _ => rfl, h1, n, rfl, Nat.le_refl _, by omega, fun k hk => by rw [Nat.mod_eq_of_lt hk]; exact h2 k hk⟩ (fun K y M2 h k => ?_)
  obtain ⟨b2, f2, n2, i, rfl, i1, i2, hv⟩ := h
  have si : sI (i : Int) = i := sIo (by omega) (by omega)
  have sd : sI ((i : Int) - (n : Int)) = ((i - n : Nat) : Int) := by rw [sIo (by omega) (by omega)]; omega
  have ti : ((i : Int)).toNat = i := by omega
  have td : (((i - n : Nat) : Int)).toNat = i - n := by omega
  simp only [n2, si, sd, ti, td]
  refine ⟨fun c => fun M3 e3 => ?_, fun c => ⟨⟨by omega, by omega⟩, ⟨by omega, by omega⟩, fun M3 e3 => ?_⟩⟩
  · refine hQ _ ⟨by rw [e3]; exact BN.up b2 cd_j rfl (by omega) (by omega), fun a b hab => by rw [e3, zup_n _ _ (by omega)]; exact f2 a b hab, by rw [e3, zup_s]; rfl, fun k hk => ?_⟩
    have hk : k < n * t := hk
    show M3 (j + 1) k = f (k % n)
    rw [e3, zup_n _ _ (by omega)]
    exact hv k (by omega)
  · have hr := BN.r32 b2 (j + 1) (i - n)
    refine k _ _ ⟨by rw [e3]; exact BN.up b2 cd_j1 rfl hr.1 hr.2, fun a b hab => by rw [e3, zup_n _ _ (by omega)]; exact f2 a b hab, by rw [e3, zup_n _ _ (by omega)]; exact n2, i + 1, by omega, by omega, by omega, fun q hq => ?_⟩ (by omega)
    rw [e3]
    by_cases c5 : q = i
    · have hn : 0 < n := by
        rcases Nat.eq_zero_or_pos n with e | e
        · rw [e, Nat.zero_mul] at c
          omega
        · exact e
      rw [c5, zup_s, hv (i - n) (by omega), ← Nat.mod_eq_sub_mod i1]
    · rw [zup_n _ _ (by omega)]
      exact hv q (by omega)
set_option maxHeartbeats 1000000 in
theorem fC_turn {M : zM} {j : Nat} {x : SV} (hB : BN wC M) (cd_j : zcd wC j = 6) (cd_j1 : zcd wC (j + 1) = 7) (h : isS M j x) {Q : zM → Prop} (hQ : ∀ M1 : zM, BN wC M1 ∧ (∀ a b : Nat, ¬ (a = j + 1) → M1 a b = M a b) ∧ isS M1 j (turnV x) → Q M1) : wC_Strip_turn j M Q := by
  unfold wC_Strip_turn
  obtain ⟨n, f⟩ := x
  obtain ⟨h1, h2⟩ := h
  have h1 : M j 1 = (n : Int) := h1
  have bl : 0 ≤ M j 1 ∧ M j 1 ≤ 24 := BN.at hB cd_j rfl
  have sn : sI (n : Int) = n := sIo (by omega) (by omega)
  have e0 : sI ((n : Int).tdiv 2) = ((n / 2 : Nat) : Int) := by
    rw [Int.tdiv_eq_ediv_of_nonneg (by omega), sIo (by omega) (by omega)]
    omega
  refine wL1_of (fun y M2 => BN wC M2 ∧ (∀ a b : Nat, ¬ (a = j + 1) → M2 a b = M a b) ∧ ∃ i : Nat, y = (i : Int) ∧ i ≤ n / 2 ∧ ∀ k : Nat, k < n → M2 (j + 1) k = if k < i ∨ n - i ≤ k then f (n - 1 - k) else f k) (fun y _ => (1000 - y).toNat) ⟨hB, fun _ _ _ => rfl, 0, rfl, by omega, fun k hk => by rw [if_neg (by omega)]; exact h2 k hk⟩ (fun K y M2 h k => ?_)
  obtain ⟨b2, f2, i, rfl, i1, hv⟩ := h
  have n2 : M2 j 1 = (n : Int) := by rw [f2 j 1 (by omega)]; exact h1
  have si : sI (i : Int) = i := sIo (by omega) (by omega)
  have ti : ((i : Int)).toNat = i := by omega
  simp only [n2, sn, e0, si, ti]
  refine ⟨fun c => ?_, fun c => ?_⟩
  · refine hQ _ ⟨b2, f2, by rw [n2]; rfl, fun k hk => ?_⟩
    have hk : k < n := hk
    show M2 (j + 1) k = f (n - 1 - k)
    rw [hv k hk]
    by_cases c5 : k < i ∨ n - i ≤ k
    · rw [if_pos c5]
    · rw [if_neg c5, show n - 1 - k = k by omega]
  · have sd : sI ((n : Int) - 1 - (i : Int)) = ((n - 1 - i : Nat) : Int) := by rw [sIo (by omega) (by omega)]; omega
    have td : (((n - 1 - i : Nat) : Int)).toNat = n - 1 - i := by omega
    simp only [sd, td]
    refine ⟨⟨by omega, by omega⟩, ⟨by omega, by omega⟩, ⟨by omega, by omega⟩, fun M3 e3 => ?_⟩
    have n3 : M3 j 1 = (n : Int) := by rw [e3, zup_n _ _ (by omega)]; exact n2
    simp only [n3, sd, td]
    refine ⟨⟨by omega, by omega⟩, fun M4 e4 => ?_⟩
    have r1 := BN.r32 b2 (j + 1) (n - 1 - i)
    have r2 := BN.r32 b2 (j + 1) i
    have b3 : BN wC M3 := by rw [e3]; exact BN.up b2 cd_j1 rfl r1.1 r1.2
    refine k _ _ ⟨by rw [e4]; exact BN.up b3 cd_j1 rfl r2.1 r2.2, fun a b hab => by rw [e4, zup_n _ _ (by omega), e3, zup_n _ _ (by omega)]; exact f2 a b hab, i + 1, by omega, by omega, fun q hq => ?_⟩ (by omega)
    rw [e4]
    by_cases c5 : q = n - 1 - i
    · rw [c5, zup_s, if_pos (by omega), hv i (by omega), if_neg (by omega), show n - 1 - (n - 1 - i) = i by omega]
    · rw [zup_n _ _ (by omega), e3]
      by_cases c6 : q = i
      · rw [c6, zup_s, if_pos (by omega), hv (n - 1 - i) (by omega), if_neg (by omega)]
      · rw [zup_n _ _ (by omega), hv q hq]
        by_cases c7 : q < i ∨ n - i ≤ q
        · rw [if_pos c7, if_pos (by omega)]
        · rw [if_neg c7, if_neg (by omega)]
set_option maxHeartbeats 1000000 in
theorem fC_putBehind {M : zM} {j a0 : Nat} {a1 : Int} {r t : SV} {d : Nat} (hB : BN wC M) (cd_j : zcd wC j = 6) (cd_j1 : zcd wC (j + 1) = 7) (cd_a : zcd wC a0 = 6) (ha : a0 ≠ j ∧ a0 ≠ j + 1 ∧ a0 + 1 ≠ j) (hr : isS M j r) (ht : isS M a0 t) (hd : a1 = (d : Int)) (d1 : d ≤ r.1) (d2 : d ≤ t.1) (d3 : r.1 + t.1 - d ≤ 24) {Q : zM → Prop} (hQ : ∀ M1 : zM, BN wC M1 ∧ (∀ a b : Nat, ¬ (a = j ∧ b = 1 ∨ a = j + 1) → M1 a b = M a b) ∧ isS M1 j (layV r t d) → Q M1) : wC_Strip_putBehind j a0 a1 M Q := by
  unfold wC_Strip_putBehind
  obtain ⟨n, f⟩ := r
  obtain ⟨m, g⟩ := t
  obtain ⟨r1, r2⟩ := hr
  obtain ⟨t1, t2⟩ := ht
  have r1 : M j 1 = (n : Int) := r1
  have t1 : M a0 1 = (m : Int) := t1
  have d1 : d ≤ n := d1
  have d2 : d ≤ m := d2
  have d3 : n + m - d ≤ 24 := d3
  have bl : 0 ≤ M j 1 ∧ M j 1 ≤ 24 := BN.at hB cd_j rfl
  have bm : 0 ≤ M a0 1 ∧ M a0 1 ≤ 24 := BN.at hB cd_a rfl
  have e0 : max 0 (sI (M j 1 - a1)) = ((n - d : Nat) : Int) := by
    rw [r1, hd, sIo (by omega) (by omega)]
    omega
  rw [e0]
  refine wL2_of (fun x y M2 => BN wC M2 ∧ (∀ a b : Nat, ¬ (a = j + 1) → M2 a b = M a b) ∧ ∃ i : Nat, y = (i : Int) ∧ x = ((n - d + i : Nat) : Int) ∧ i ≤ m ∧ ∀ k : Nat, M2 (j + 1) k = if n - d ≤ k ∧ k < n - d + i then orI (g (k - (n - d))) (if k < n then f k else 0) else M (j + 1) k) (fun _ y _ => (1000 - y).toNat) ⟨hB, fun _ _ _ => rfl, 0, rfl, rfl, by omega, fun k => by rw [if_neg (by omega)]⟩ (fun K x y M2 h k => ?_)
  obtain ⟨b2, f2, i, rfl, rfl, hi, hv⟩ := h
  have m2 : M2 a0 1 = (m : Int) := by rw [f2 a0 1 (by omega)]; exact t1
  have n2 : M2 j 1 = (n : Int) := by rw [f2 j 1 (by omega)]; exact r1
  have sn : sI (n : Int) = n := sIo (by omega) (by omega)
  have sm : sI (m : Int) = m := sIo (by omega) (by omega)
  have si : sI (i : Int) = i := sIo (by omega) (by omega)
  have sx : sI ((n - d + i : Nat) : Int) = ((n - d + i : Nat) : Int) := sIo (by omega) (by omega)
  have ti : ((i : Int)).toNat = i := by omega
  have tx : (((n - d + i : Nat) : Int)).toNat = n - d + i := by omega
  simp only [m2, n2, sn, sm, si, sx, ti, tx]
  refine ⟨fun c => fun M3 e3 => ?_, fun c => ⟨fun c2 => absurd c2 (by omega), fun c2 => ⟨⟨by omega, by omega⟩, fun c3 => ⟨⟨by omega, by omega⟩, fun M3 e3 => ?_⟩, fun c3 => ⟨⟨by omega, by omega⟩, ⟨by omega, by omega⟩, fun M3 e3 => ?_⟩⟩⟩⟩
  · refine hQ _ ⟨by rw [e3]; exact BN.up b2 cd_j rfl (by omega) (by omega), fun a b hab => by rw [e3, zup_n _ _ (by omega)]; exact f2 a b (by omega), ?_, fun k hk => ?_⟩
    · show M3 j 1 = ((n + m - d : Nat) : Int)
      rw [e3, zup_s]
      omega
    · have hk : k < n + m - d := hk
      show M3 (j + 1) k = if k < n - d then f k else orI (g (k - (n - d))) (if k < n then f k else 0)
      rw [e3, zup_n _ _ (by omega), hv]
      by_cases c4 : k < n - d
      · rw [if_neg (by omega), if_pos c4]
        exact r2 k (by show k < n; omega)
      · rw [if_pos (by omega), if_neg c4]
  · have hg : M2 (a0 + 1) i = g i := by rw [f2 (a0 + 1) i (by omega)]; exact t2 i (by show i < m; omega)
    refine k _ _ _ ⟨by rw [e3]; exact BN.up b2 cd_j1 rfl (orI_R _ _).1 (orI_R _ _).2, fun a b hab => by rw [e3, zup_n _ _ (by omega)]; exact f2 a b hab, i + 1, by omega, by omega, by omega, fun q => ?_⟩ (by omega)
    rw [e3]
    by_cases c5 : q = n - d + i
    · rw [c5, zup_s, if_pos (by omega), if_neg (by omega), hg, show n - d + i - (n - d) = i by omega]
    · rw [zup_n _ _ (by omega), hv]
      by_cases c6 : n - d ≤ q ∧ q < n - d + i
      · rw [if_pos c6, if_pos (show n - d ≤ q ∧ q < n - d + (i + 1) by omega)]
      · rw [if_neg c6, if_neg (show ¬ (n - d ≤ q ∧ q < n - d + (i + 1)) by omega)]
  · have hg : M2 (a0 + 1) i = g i := by rw [f2 (a0 + 1) i (by omega)]; exact t2 i (by show i < m; omega)
    have hf : M2 (j + 1) (n - d + i) = f (n - d + i) := by rw [hv, if_neg (by omega)]; exact r2 _ (by show n - d + i < n; omega)
    refine k _ _ _ ⟨by rw [e3]; exact BN.up b2 cd_j1 rfl (orI_R _ _).1 (orI_R _ _).2, fun a b hab => by rw [e3, zup_n _ _ (by omega)]; exact f2 a b hab, i + 1, by omega, by omega, by omega, fun q => ?_⟩ (by omega)
    rw [e3]
    by_cases c5 : q = n - d + i
    · rw [c5, zup_s, if_pos (by omega), if_pos (by omega), hg, hf, show n - d + i - (n - d) = i by omega]
    · rw [zup_n _ _ (by omega), hv]
      by_cases c6 : n - d ≤ q ∧ q < n - d + i
      · rw [if_pos c6, if_pos (show n - d ≤ q ∧ q < n - d + (i + 1) by omega)]
      · rw [if_neg c6, if_neg (show ¬ (n - d ≤ q ∧ q < n - d + (i + 1)) by omega)]
end zz47g_strip
section zz47h_put
/-! the putting together of a strip: the class's machine -/
abbrev CSt : Type := Nat × Int × (Nat → SV) × (Nat → SV) × (Nat → Nat)
def uS (f : Nat → SV) (i : Nat) (x : SV) : Nat → SV := fun k => if k = i then x else f k
def uN (f : Nat → Nat) (i x : Nat) : Nat → Nat := fun k => if k = i then x else f k
theorem uS_s (f : Nat → SV) (i : Nat) (x : SV) : uS f i x i = x := if_pos rfl
theorem uS_n (f : Nat → SV) {i k : Nat} (x : SV) (h : k ≠ i) : uS f i x k = f k := if_neg h
theorem uN_s (f : Nat → Nat) (i x : Nat) : uN f i x i = x := if_pos rfl
theorem uN_n (f : Nat → Nat) {i k : Nat} (x : Nat) (h : k ≠ i) : uN f i x k = f k := if_neg h
def csM (M : zM) : CSt → Prop
  | (l, a, R, T, D) => M 1 2 = (l : Int) ∧ M 1 3 = a ∧ l ≤ 5 ∧ (∀ i : Nat, i < 6 → isS M (6 + 4 * i) (R i)) ∧ (∀ i : Nat, i < 6 → isS M (8 + 4 * i) (T i)) ∧ (∀ i : Nat, i < 6 → M 5 i = (D i : Int)) ∧ (∀ i : Nat, i ≤ l → D i ≤ (R i).1)
def layC : CSt → Option CSt
  | (l, a, R, T, D) => if (T l).1 = 0 then some (l, a, R, T, D) else if (T l).1 < D l then none else if 24 < (R l).1 + (T l).1 - D l then none else some (l, a, uS R l (layV (R l) (T l) (D l)), uS T l (0, (T l).2), uN D l 0)
def setT (b : Int) : CSt → CSt
  | (l, a, R, T, D) => (l, a, R, uS T l (1, fun _ => b), D)
def begC (s : CSt) (b : Int) : Option CSt := (layC s).map (setT b)
def opnC : CSt → CSt
  | (l, a, R, T, D) => if l < 5 then (l + 1, a, uS R (l + 1) (0, (R (l + 1)).2), uS T (l + 1) (0, (T (l + 1)).2), uN D (l + 1) 0) else (l, a, R, T, D)
def clsC : CSt → CSt
  | (l, a, R, T, D) => if 0 < l then (l - 1, a, R, uS T (l - 1) (R l), D) else (l, a, R, T, D)
def digC : CSt → Nat → Option CSt
  | (l, a, R, T, D), v => if a = 42 then (if 24 < (T l).1 * v then none else some (l, 0, R, uS T l (repV (T l) v), D)) else if a = 47 then (if (R l).1 < v then none else some (l, 0, R, T, uN D l v)) else if a = 91 then some (l, a, R, uS T l (addV (T l) (shlI 1 (v : Int))), D) else begC (l, a, R, T, D) (if v = 0 then 0 else shlI 1 (v : Int))
def sgnC : CSt → Int → Option CSt
  | (l, a, R, T, D), v => if v = 40 then (layC (l, a, R, T, D)).map opnC else if v = 41 then (layC (l, a, R, T, D)).map clsC else if v = 42 then some (l, 42, R, T, D) else if v = 47 then layC (l, 47, R, T, D) else if v = 91 then begC (l, 91, R, T, D) 0 else if v = 93 then some (l, 0, R, T, D) else if v = 126 then some (l, a, R, uS T l (turnV (T l)), D) else some (l, a, R, T, D)
def stepC (s : CSt) (v : Int) : Option CSt := if 48 ≤ v ∧ v ≤ 57 then digC s (v - 48).toNat else sgnC s v
def runC (f : Nat → Int) : Nat → CSt → Nat → Option CSt
  | 0, s, _ => some s
  | k + 1, s, p => (stepC s (f p)).bind (fun s1 => runC f k s1 (p + 1))
def FRs (M1 M : zM) : Prop := ∀ a b : Nat, ¬ ((a = 1 ∧ (b = 2 ∨ b = 3)) ∨ (5 ≤ a ∧ a ≤ 29)) → M1 a b = M a b
theorem FRs.tr {M M1 M2 : zM} (h : FRs M1 M) (h2 : FRs M2 M1) : FRs M2 M := fun a b hab => (h2 a b hab).trans (h a b hab)
def spost (M : zM) (o : Option CSt) (z : Int) (M1 : zM) : Prop := BN wC M1 ∧ FRs M1 M ∧ (-101 ≤ z ∧ z ≤ 0) ∧ ((z = 0 ∧ ∃ s1, o = some s1 ∧ csM M1 s1) ∨ (z ≠ 0 ∧ o = none))
theorem cdR (i : Nat) (h : i < 6) : 6 + 4 * i < nC ∧ zcd wC (6 + 4 * i) = 6 ∧ zcd wC (6 + 4 * i + 1) = 7 := (by decide : ∀ i : Nat, i < 6 → 6 + 4 * i < nC ∧ zcd wC (6 + 4 * i) = 6 ∧ zcd wC (6 + 4 * i + 1) = 7) i h
theorem cdT (i : Nat) (h : i < 6) : 8 + 4 * i < nC ∧ zcd wC (8 + 4 * i) = 6 ∧ zcd wC (8 + 4 * i + 1) = 7 := (by decide : ∀ i : Nat, i < 6 → 8 + 4 * i < nC ∧ zcd wC (8 + 4 * i) = 6 ∧ zcd wC (8 + 4 * i + 1) = 7) i h
theorem csM_T {M M1 : zM} {l : Nat} {a : Int} {R T : Nat → SV} {D : Nat → Nat} {x : SV} (h : csM M (l, a, R, T, D)) (f : ∀ a b : Nat, ¬ (a = 8 + 4 * l ∧ b = 1 ∨ a = 8 + 4 * l + 1) → M1 a b = M a b) (hx : isS M1 (8 + 4 * l) x) : csM M1 (l, a, R, uS T l x, D) := by
  obtain ⟨h1, h2, h3, hR, hT, hD, hO⟩ := h
  refine ⟨by rw [f 1 2 (by omega)]; exact h1, by rw [f 1 3 (by omega)]; exact h2, h3, fun i hi => isS_cg (hR i hi) (f _ _ (by omega)) (fun k => f _ _ (by omega)), fun i hi => ?_, fun i hi => by rw [f 5 i (by omega)]; exact hD i hi, hO⟩
  by_cases c : i = l
  · rw [c, uS_s]
    exact hx
  · rw [uS_n _ _ c]
    exact isS_cg (hT i hi) (f _ _ (by omega)) (fun k => f _ _ (by omega))
theorem csM_a {M M1 : zM} {l : Nat} {a a1 : Int} {R T : Nat → SV} {D : Nat → Nat} (h : csM M (l, a, R, T, D)) (e : M1 = zup M 1 3 a1) : csM M1 (l, a1, R, T, D) := by
  obtain ⟨h1, h2, h3, hR, hT, hD, hO⟩ := h
  exact ⟨by rw [e, zup_n _ _ (by omega)]; exact h1, by rw [e, zup_s], h3, fun i hi => isS_cg (hR i hi) (by rw [e, zup_n _ _ (by omega)]) (fun k => by rw [e, zup_n _ _ (by omega)]), fun i hi => isS_cg (hT i hi) (by rw [e, zup_n _ _ (by omega)]) (fun k => by rw [e, zup_n _ _ (by omega)]), fun i hi => by rw [e, zup_n _ _ (by omega)]; exact hD i hi, hO⟩
theorem csM_D {M M1 : zM} {l v : Nat} {a : Int} {R T : Nat → SV} {D : Nat → Nat} (h : csM M (l, a, R, T, D)) (e : M1 = zup M 5 l (v : Int)) (hv : v ≤ (R l).1) : csM M1 (l, a, R, T, uN D l v) := by
  obtain ⟨h1, h2, h3, hR, hT, hD, hO⟩ := h
  refine ⟨by rw [e, zup_n _ _ (by omega)]; exact h1, by rw [e, zup_n _ _ (by omega)]; exact h2, h3, fun i hi => isS_cg (hR i hi) (by rw [e, zup_n _ _ (by omega)]) (fun k => by rw [e, zup_n _ _ (by omega)]), fun i hi => isS_cg (hT i hi) (by rw [e, zup_n _ _ (by omega)]) (fun k => by rw [e, zup_n _ _ (by omega)]), fun i hi => ?_, fun i hi => ?_⟩
  · by_cases c : i = l
    · rw [c, uN_s, e, zup_s]
    · rw [uN_n _ _ c, e, zup_n _ _ (by omega)]
      exact hD i hi
  · by_cases c : i = l
    · rw [c, uN_s]
      exact hv
    · rw [uN_n _ _ c]
      exact hO i hi
set_option maxHeartbeats 2000000 in
theorem fC_layTerm {M : zM} {s : CSt} (hB : BN wC M) (h : csM M s) {Q : Int → zM → Prop} (hQ : ∀ (z : Int) (M1 : zM), spost M (layC s) z M1 → Q z M1) : wC_Splicer_layTerm M Q := by
  obtain ⟨l, a, R, T, D⟩ := s
  have h0 := h
  obtain ⟨h1, h2, h3, hR, hT, hD, hO⟩ := h
  have sl : sI (l : Int) = l := sIo (by omega) (by omega)
  have tl : ((l : Int)).toNat = l := by omega
  have rl := hR l (by omega)
  have tt := hT l (by omega)
  have dl := hD l (by omega)
  have ol := hO l (Nat.le_refl _)
  have rn : M (6 + 4 * l) 1 = ((R l).1 : Int) := rl.1
  have tn : M (8 + 4 * l) 1 = ((T l).1 : Int) := tt.1
  have br : 0 ≤ M (6 + 4 * l) 1 ∧ M (6 + 4 * l) 1 ≤ 24 := BN.at hB (cdR l (by omega)).2.1 rfl
  have bt : 0 ≤ M (8 + 4 * l) 1 ∧ M (8 + 4 * l) 1 ≤ 24 := BN.at hB (cdT l (by omega)).2.1 rfl
  have bd : 0 ≤ M 5 l ∧ M 5 l ≤ 9 := BN.at hB (rfl : zcd wC 5 = 5) rfl
  have sm : sI ((T l).1 : Int) = ((T l).1 : Int) := sIo (by omega) (by omega)
  have sd : sI (D l : Int) = (D l : Int) := sIo (by omega) (by omega)
  have se : sI (((R l).1 : Int) + ((T l).1 : Int) - (D l : Int)) = ((R l).1 : Int) + ((T l).1 : Int) - (D l : Int) := sIo (by omega) (by omega)
  unfold wC_Splicer_layTerm
  simp only [h1, sl, tl, rn, tn, dl, sm, sd, se]
  refine ⟨⟨by omega, by omega⟩, ⟨by omega, by omega⟩, fun c => ⟨⟨by omega, by omega⟩, fun c2 => ⟨fun c3 => ?_, fun c3 => ?_⟩, fun c2 => ?_⟩, fun c => ?_⟩
  · have el : layC (l, a, R, T, D) = some (l, a, uS R l (layV (R l) (T l) (D l)), uS T l (0, (T l).2), uN D l 0) := by
      simp only [layC]
      rw [if_neg (by omega), if_neg (by omega), if_neg (by omega)]
    refine fC_putBehind hB (cdR l (by omega)).2.1 (cdR l (by omega)).2.2 (cdT l (by omega)).2.1 ⟨by omega, by omega, by omega⟩ rl tt rfl ol (by omega) (by omega) (fun M15 h15 => ?_)
    obtain ⟨b15, f15, r15⟩ := h15
    intro M16 e16
    have n16 : M16 1 2 = (l : Int) := by rw [e16, zup_n _ _ (by omega), f15 1 2 (by omega)]; exact h1
    simp only [n16, sl, tl]
    refine ⟨⟨by omega, by omega⟩, fun M19 e19 => ?_⟩
    have b16 : BN wC M16 := by rw [e16]; exact BN.up b15 (cdT l (by omega)).2.1 rfl (by omega) (by omega)
    have b19 : BN wC M19 := by rw [e19]; exact BN.up b16 (rfl : zcd wC 5 = 5) rfl (by omega) (by omega)
    have f19 : ∀ p q : Nat, ¬ (p = 6 + 4 * l ∧ q = 1 ∨ p = 6 + 4 * l + 1 ∨ p = 8 + 4 * l ∧ q = 1 ∨ p = 5 ∧ q = l) → M19 p q = M p q := fun p q hpq => by
      rw [e19, zup_n _ _ (by omega), e16, zup_n _ _ (by omega), f15 _ _ (by omega)]
    refine hQ _ _ ⟨b19, fun p q hpq => f19 p q (by omega), by omega, Or.inl ⟨rfl, _, el, ?_⟩⟩
    refine ⟨by rw [f19 1 2 (by omega)]; exact h1, by rw [f19 1 3 (by omega)]; exact h2, h3, fun i hi => ?_, fun i hi => ?_, fun i hi => ?_, fun i hi => ?_⟩
    · by_cases c5 : i = l
      · rw [c5, uS_s]
        exact isS_cg r15 (by rw [e19, zup_n _ _ (by omega), e16, zup_n _ _ (by omega)]) (fun k => by rw [e19, zup_n _ _ (by omega), e16, zup_n _ _ (by omega)])
      · rw [uS_n _ _ c5]
        exact isS_cg (hR i hi) (f19 _ _ (by omega)) (fun k => f19 _ _ (by omega))
    · by_cases c5 : i = l
      · rw [c5, uS_s]
        refine ⟨?_, fun k hk => absurd hk (Nat.not_lt_zero k)⟩
        rw [e19, zup_n _ _ (by omega), e16, zup_s]
        rfl
      · rw [uS_n _ _ c5]
        exact isS_cg (hT i hi) (f19 _ _ (by omega)) (fun k => f19 _ _ (by omega))
    · by_cases c5 : i = l
      · rw [c5, uN_s, e19, zup_s]
        rfl
      · rw [uN_n _ _ c5, f19 _ _ (by omega)]
        exact hD i hi
    · by_cases c5 : i = l
      · rw [c5, uN_s]
        exact Nat.zero_le _
      · rw [uN_n _ _ c5, uS_n _ _ c5]
        exact hO i hi
  · have el : layC (l, a, R, T, D) = none := by
      simp only [layC]
      rw [if_neg (by omega), if_neg (by omega), if_pos (by omega)]
    exact hQ _ _ ⟨hB, fun _ _ _ => rfl, by omega, Or.inr ⟨by decide, el⟩⟩
  · have el : layC (l, a, R, T, D) = none := by
      simp only [layC]
      rw [if_neg (by omega), if_pos (by omega)]
    exact hQ _ _ ⟨hB, fun _ _ _ => rfl, by omega, Or.inr ⟨by decide, el⟩⟩
  · have el : layC (l, a, R, T, D) = some (l, a, R, T, D) := by
      simp only [layC]
      rw [if_pos (by omega)]
    exact hQ _ _ ⟨hB, fun _ _ _ => rfl, by omega, Or.inl ⟨rfl, _, el, h0⟩⟩
set_option maxHeartbeats 1000000 in
theorem fC_beginTerm {M : zM} {s : CSt} {a0 : Int} (hB : BN wC M) (v0 : -2147483648 ≤ a0 ∧ a0 ≤ 2147483647) (h : csM M s) {Q : Int → zM → Prop} (hQ : ∀ (z : Int) (M1 : zM), spost M (begC s a0) z M1 → Q z M1) : wC_Splicer_beginTerm a0 M Q := by
  unfold wC_Splicer_beginTerm
  refine fC_layTerm hB h (fun z M1 p => ?_)
  obtain ⟨b1, f1, hz, p⟩ := p
  rcases p with ⟨z0, s1, e1, m1⟩ | ⟨z0, e1⟩
  · refine ⟨fun c => absurd z0 c, fun _ => ?_⟩
    obtain ⟨l, a, R, T, D⟩ := s1
    have m0 := m1
    obtain ⟨h1, h2, h3, -⟩ := m1
    have sl : sI (l : Int) = l := sIo (by omega) (by omega)
    have tl : ((l : Int)).toNat = l := by omega
    simp only [h1, sl, tl]
    refine ⟨⟨by omega, by omega⟩, ?_⟩
    refine fC_becomeInch b1 (cdT l (by omega)).2.1 (cdT l (by omega)).2.2 v0 (fun M2 p2 => ?_)
    obtain ⟨b2, f2, i2⟩ := p2
    refine hQ _ _ ⟨b2, f1.tr (fun p q hpq => f2 p q (by omega)), hz, Or.inl ⟨z0, _, ?_, csM_T m0 f2 i2⟩⟩
    unfold begC
    rw [e1]
    rfl
  · refine ⟨fun c => hQ _ _ ⟨b1, f1, hz, Or.inr ⟨z0, ?_⟩⟩, fun c => absurd c z0⟩
    unfold begC
    rw [e1]
    rfl
set_option maxHeartbeats 2000000 in
theorem fC_open {M : zM} {s : CSt} (hB : BN wC M) (h : csM M s) {Q : Int → zM → Prop} (hQ : ∀ (z : Int) (M1 : zM), spost M ((layC s).map opnC) z M1 → Q z M1) : wC_Splicer_open M Q := by
  unfold wC_Splicer_open
  refine fC_layTerm hB h (fun z M1 p => ?_)
  obtain ⟨b1, f1, hz, p⟩ := p
  rcases p with ⟨z0, s1, e1, m1⟩ | ⟨z0, e1⟩
  · refine ⟨fun c => absurd z0 c, fun _ => ?_⟩
    obtain ⟨l, a, R, T, D⟩ := s1
    have m0 := m1
    obtain ⟨h1, h2, h3, hR, hT, hD, hO⟩ := m1
    have sl : sI (l : Int) = l := sIo (by omega) (by omega)
    simp only [h1, sl]
    refine ⟨fun c => hQ _ _ ⟨b1, f1, hz, Or.inl ⟨z0, (l, a, R, T, D), ?_, m0⟩⟩, fun c => fun M6 e6 => ?_⟩
    · rw [e1]
      show some (opnC (l, a, R, T, D)) = _
      simp only [opnC]
      rw [if_neg (by omega)]
    · unfold wC_Splicer_openRow
      have n6 : M6 1 2 = ((l + 1 : Nat) : Int) := by rw [e6, zup_s]; omega
      have b6 : BN wC M6 := by rw [e6]; exact BN.up b1 (rfl : zcd wC 1 = 1) rfl (by omega) (by omega)
      have sl1 : sI ((l + 1 : Nat) : Int) = ((l + 1 : Nat) : Int) := sIo (by omega) (by omega)
      have tl1 : (((l + 1 : Nat) : Int)).toNat = l + 1 := by omega
      simp only [n6, sl1, tl1]
      refine ⟨⟨by omega, by omega⟩, fun M7 e7 => ?_⟩
      have b7 : BN wC M7 := by rw [e7]; exact BN.up b6 (cdR (l + 1) (by omega)).2.1 rfl (by omega) (by omega)
      have n7 : M7 1 2 = ((l + 1 : Nat) : Int) := by rw [e7, zup_n _ _ (by omega)]; exact n6
      simp only [n7, sl1, tl1]
      refine ⟨⟨by omega, by omega⟩, fun M8 e8 => ?_⟩
      have b8 : BN wC M8 := by rw [e8]; exact BN.up b7 (cdT (l + 1) (by omega)).2.1 rfl (by omega) (by omega)
      have n8 : M8 1 2 = ((l + 1 : Nat) : Int) := by rw [e8, zup_n _ _ (by omega)]; exact n7
      simp only [n8, sl1, tl1]
      refine ⟨⟨by omega, by omega⟩, fun M9 e9 => ?_⟩
      have b9 : BN wC M9 := by rw [e9]; exact BN.up b8 (rfl : zcd wC 5 = 5) rfl (by omega) (by omega)
      have n9 : M9 1 2 = ((l + 1 : Nat) : Int) := by rw [e9, zup_n _ _ (by omega)]; exact n8
      have f9 : ∀ p q : Nat, ¬ (p = 1 ∧ q = 2 ∨ p = 6 + 4 * (l + 1) ∧ q = 1 ∨ p = 8 + 4 * (l + 1) ∧ q = 1 ∨ p = 5 ∧ q = l + 1) → M9 p q = M1 p q := fun p q hpq => by
        rw [e9, zup_n _ _ (by omega), e8, zup_n _ _ (by omega), e7, zup_n _ _ (by omega), e6, zup_n _ _ (by omega)]
      refine hQ _ _ ⟨b9, f1.tr (fun p q hpq => f9 p q (by omega)), hz, Or.inl ⟨z0, (l + 1, a, uS R (l + 1) (0, (R (l + 1)).2), uS T (l + 1) (0, (T (l + 1)).2), uN D (l + 1) 0), ?_, ?_⟩⟩
      · rw [e1]
        show some (opnC (l, a, R, T, D)) = _
        simp only [opnC]
        rw [if_pos (by omega)]
      · refine ⟨n9, by rw [f9 1 3 (by omega)]; exact h2, by omega, fun i hi => ?_, fun i hi => ?_, fun i hi => ?_, fun i hi => ?_⟩
        · by_cases c5 : i = l + 1
          · rw [c5, uS_s]
            refine ⟨?_, fun k hk => absurd hk (Nat.not_lt_zero k)⟩
            rw [e9, zup_n _ _ (by omega), e8, zup_n _ _ (by omega), e7, zup_s]
            rfl
          · rw [uS_n _ _ c5]
            exact isS_cg (hR i hi) (f9 _ _ (by omega)) (fun k => f9 _ _ (by omega))
        · by_cases c5 : i = l + 1
          · rw [c5, uS_s]
            refine ⟨?_, fun k hk => absurd hk (Nat.not_lt_zero k)⟩
            rw [e9, zup_n _ _ (by omega), e8, zup_s]
            rfl
          · rw [uS_n _ _ c5]
            exact isS_cg (hT i hi) (f9 _ _ (by omega)) (fun k => f9 _ _ (by omega))
        · by_cases c5 : i = l + 1
          · rw [c5, uN_s, e9, zup_s]
            rfl
          · rw [uN_n _ _ c5, f9 _ _ (by omega)]
            exact hD i hi
        · by_cases c5 : i = l + 1
          · rw [c5, uN_s]
            exact Nat.zero_le _
          · rw [uN_n _ _ c5, uS_n _ _ c5]
            exact hO i (by omega)
  · refine ⟨fun c => hQ _ _ ⟨b1, f1, hz, Or.inr ⟨z0, ?_⟩⟩, fun c => absurd c z0⟩
    rw [e1]
    rfl
set_option maxHeartbeats 2000000 in
theorem fC_close {M : zM} {s : CSt} (hB : BN wC M) (h : csM M s) {Q : Int → zM → Prop} (hQ : ∀ (z : Int) (M1 : zM), spost M ((layC s).map clsC) z M1 → Q z M1) : wC_Splicer_close M Q := by
  unfold wC_Splicer_close
  refine fC_layTerm hB h (fun z M1 p => ?_)
  obtain ⟨b1, f1, hz, p⟩ := p
  rcases p with ⟨z0, s1, e1, m1⟩ | ⟨z0, e1⟩
  · refine ⟨fun c => absurd z0 c, fun _ => ?_⟩
    obtain ⟨l, a, R, T, D⟩ := s1
    have m0 := m1
    obtain ⟨h1, h2, h3, hR, hT, hD, hO⟩ := m1
    have sl : sI (l : Int) = l := sIo (by omega) (by omega)
    simp only [h1, sl]
    refine ⟨fun c => hQ _ _ ⟨b1, f1, hz, Or.inl ⟨z0, (l, a, R, T, D), ?_, m0⟩⟩, fun c => fun M6 e6 => ?_⟩
    · rw [e1]
      show some (clsC (l, a, R, T, D)) = _
      simp only [clsC]
      rw [if_neg (by omega)]
    · have n6 : M6 1 2 = ((l - 1 : Nat) : Int) := by rw [e6, zup_s]; omega
      have b6 : BN wC M6 := by rw [e6]; exact BN.up b1 (rfl : zcd wC 1 = 1) rfl (by omega) (by omega)
      have sl1 : sI ((l - 1 : Nat) : Int) = ((l - 1 : Nat) : Int) := sIo (by omega) (by omega)
      have tl1 : (((l - 1 : Nat) : Int)).toNat = l - 1 := by omega
      have sl2 : sI (((l - 1 : Nat) : Int) + 1) = (l : Int) := by rw [sIo (by omega) (by omega)]; omega
      have tl2 : ((l : Int)).toNat = l := by omega
      simp only [n6, sl1, tl1, sl2, tl2]
      have hl6 : isS M6 (6 + 4 * l) (R l) := isS_cg (hR l (by omega)) (by rw [e6, zup_n _ _ (by omega)]) (fun k => by rw [e6, zup_n _ _ (by omega)])
      refine ⟨⟨by omega, by omega⟩, ⟨by omega, by omega⟩, ?_⟩
      refine fC_copy b6 (cdT (l - 1) (by omega)).2.1 (cdT (l - 1) (by omega)).2.2 (cdR l (by omega)).2.1 ⟨by omega, by omega, by omega⟩ hl6 (fun M7 p7 => ?_)
      obtain ⟨b7, f7, i7, -⟩ := p7
      have f8 : ∀ p q : Nat, ¬ (p = 1 ∧ q = 2 ∨ p = 8 + 4 * (l - 1) ∧ q = 1 ∨ p = 8 + 4 * (l - 1) + 1) → M7 p q = M1 p q := fun p q hpq => by
        rw [f7 _ _ (by omega), e6, zup_n _ _ (by omega)]
      refine hQ _ _ ⟨b7, f1.tr (fun p q hpq => f8 p q (by omega)), hz, Or.inl ⟨z0, (l - 1, a, R, uS T (l - 1) (R l), D), ?_, ?_⟩⟩
      · rw [e1]
        show some (clsC (l, a, R, T, D)) = _
        simp only [clsC]
        rw [if_pos (by omega)]
      · refine ⟨by rw [f7 1 2 (by omega)]; exact n6, by rw [f8 1 3 (by omega)]; exact h2, by omega, fun i hi => isS_cg (hR i hi) (f8 _ _ (by omega)) (fun k => f8 _ _ (by omega)), fun i hi => ?_, fun i hi => by rw [f8 _ _ (by omega)]; exact hD i hi, fun i hi => hO i (by omega)⟩
        by_cases c5 : i = l - 1
        · rw [c5, uS_s]
          exact i7
        · rw [uS_n _ _ c5]
          exact isS_cg (hT i hi) (f8 _ _ (by omega)) (fun k => f8 _ _ (by omega))
  · refine ⟨fun c => hQ _ _ ⟨b1, f1, hz, Or.inr ⟨z0, ?_⟩⟩, fun c => absurd c z0⟩
    rw [e1]
    rfl
theorem FRs_a {M M1 : zM} {v : Int} (e : M1 = zup M 1 3 v) : FRs M1 M := fun a b hab => by rw [e, zup_n _ _ (by omega)]
theorem spost_tr {M M0 : zM} {o : Option CSt} {z : Int} {M1 : zM} (f : FRs M M0) (p : spost M o z M1) : spost M0 o z M1 := ⟨p.1, f.tr p.2.1, p.2.2⟩
set_option maxHeartbeats 2000000 in
theorem fC_readDigit {M : zM} {s : CSt} {a0 : Int} {v : Nat} (hB : BN wC M) (hv : a0 = (v : Int)) (h9 : v ≤ 9) (h : csM M s) {Q : Int → zM → Prop} (hQ : ∀ (z : Int) (M1 : zM), spost M (digC s v) z M1 → Q z M1) : wC_Splicer_readDigit a0 M Q := by
  unfold wC_Splicer_readDigit
  obtain ⟨l, a, R, T, D⟩ := s
  have h0 := h
  obtain ⟨h1, h2, h3, hR, hT, hD, hO⟩ := h
  have sl : sI (l : Int) = l := sIo (by omega) (by omega)
  have tl : ((l : Int)).toNat = l := by omega
  have sv : sI (v : Int) = v := sIo (by omega) (by omega)
  have ba := BN.r32 hB 1 3
  rw [h2] at ba
  have sa : sI a = a := sIo (by omega) (by omega)
  have rn : M (6 + 4 * l) 1 = ((R l).1 : Int) := (hR l (by omega)).1
  have tn : M (8 + 4 * l) 1 = ((T l).1 : Int) := (hT l (by omega)).1
  have br : 0 ≤ M (6 + 4 * l) 1 ∧ M (6 + 4 * l) 1 ≤ 24 := BN.at hB (cdR l (by omega)).2.1 rfl
  have bt : 0 ≤ M (8 + 4 * l) 1 ∧ M (8 + 4 * l) 1 ≤ 24 := BN.at hB (cdT l (by omega)).2.1 rfl
  subst hv
  simp only [h1, h2, sl, tl, sv, sa]
  refine ⟨fun c => fun M2 e2 => ?_, fun c => ⟨fun c2 => fun M8 e8 => ?_, fun c2 => ⟨fun c3 => ⟨⟨by omega, by omega⟩, ?_⟩, fun c3 => ⟨fun c4 => ?_, fun c4 => ?_⟩⟩⟩⟩
  · have b2 : BN wC M2 := by rw [e2]; exact BN.up hB (rfl : zcd wC 1 = 1) rfl (by omega) (by omega)
    have m2 := csM_a h0 e2
    have n2 : M2 1 2 = (l : Int) := m2.1
    have t2 : M2 (8 + 4 * l) 1 = ((T l).1 : Int) := (m2.2.2.2.2.1 l (by omega)).1
    have hp : (T l).1 * v ≤ 24 * 9 := Nat.mul_le_mul (by omega) h9
    have ep : ((T l).1 : Int) * (v : Int) = (((T l).1 * v : Nat) : Int) := (Int.natCast_mul _ _).symm
    have sp : sI (((T l).1 * v : Nat) : Int) = (((T l).1 * v : Nat) : Int) := sIo (by omega) (by omega)
    unfold wC_Splicer_repeatTerm
    simp only [n2, sl, tl, t2, ep, sp]
    refine ⟨⟨by omega, by omega⟩, fun c5 => ⟨⟨by omega, by omega⟩, ?_⟩, fun c5 => ?_⟩
    · refine fC_repeat b2 (cdT l (by omega)).2.1 (cdT l (by omega)).2.2 (m2.2.2.2.2.1 l (by omega)) rfl (by omega) (fun M3 p3 => ?_)
      obtain ⟨b3, f3, i3⟩ := p3
      refine hQ _ _ ⟨b3, (FRs_a e2).tr (fun p q hpq => f3 p q (by omega)), by omega, Or.inl ⟨rfl, _, ?_, csM_T m2 f3 i3⟩⟩
      simp only [digC]
      rw [if_pos c, if_neg (by omega)]
    · refine hQ _ _ ⟨b2, FRs_a e2, by omega, Or.inr ⟨by decide, ?_⟩⟩
      simp only [digC]
      rw [if_pos c, if_pos (by omega)]
  · have b8 : BN wC M8 := by rw [e8]; exact BN.up hB (rfl : zcd wC 1 = 1) rfl (by omega) (by omega)
    have m8 := csM_a h0 e8
    have n8 : M8 1 2 = (l : Int) := m8.1
    simp only [n8, sl, tl]
    refine ⟨⟨by omega, by omega⟩, fun M11 e11 => ?_⟩
    have b11 : BN wC M11 := by rw [e11]; exact BN.up b8 (rfl : zcd wC 5 = 5) rfl (by omega) (by omega)
    have n11 : M11 1 2 = (l : Int) := by rw [e11, zup_n _ _ (by omega)]; exact n8
    have r11 : M11 (6 + 4 * l) 1 = ((R l).1 : Int) := by rw [e11, zup_n _ _ (by omega), e8, zup_n _ _ (by omega)]; exact rn
    have sr : sI ((R l).1 : Int) = ((R l).1 : Int) := sIo (by omega) (by omega)
    have f11 : FRs M11 M := fun p q hpq => by rw [e11, zup_n _ _ (by omega), e8, zup_n _ _ (by omega)]
    simp only [n11, sl, tl, r11, sr]
    refine ⟨⟨by omega, by omega⟩, fun c5 => ?_, fun c5 => ?_⟩
    · refine hQ _ _ ⟨b11, f11, by omega, Or.inl ⟨rfl, _, ?_, csM_D m8 e11 (by omega)⟩⟩
      simp only [digC]
      rw [if_neg c, if_pos c2, if_neg (by omega)]
    · refine hQ _ _ ⟨b11, f11, by omega, Or.inr ⟨by decide, ?_⟩⟩
      simp only [digC]
      rw [if_neg c, if_pos c2, if_pos (by omega)]
  · refine fC_addTo hB (cdT l (by omega)).1 (cdT l (by omega)).2.1 (cdT l (by omega)).2.2 (hT l (by omega)) (fun M3 p3 => ?_)
    obtain ⟨b3, f3, i3⟩ := p3
    refine hQ _ _ ⟨b3, fun p q hpq => f3 p q (by omega), by omega, Or.inl ⟨rfl, _, ?_, csM_T h0 (fun p q hpq => f3 p q (by omega)) i3⟩⟩
    simp only [digC]
    rw [if_neg c, if_neg c2, if_pos c3]
  · refine fC_beginTerm hB ⟨(shlI_R _ _).1, (shlI_R _ _).2⟩ h0 (fun z M1 p => hQ _ _ ?_)
    have e : digC (l, a, R, T, D) v = begC (l, a, R, T, D) (shlI 1 (v : Int)) := by
      simp only [digC]
      rw [if_neg c, if_neg c2, if_neg c3, if_neg (by omega)]
    rw [e]
    exact p
  · refine fC_beginTerm hB ⟨by omega, by omega⟩ h0 (fun z M1 p => hQ _ _ ?_)
    have e : digC (l, a, R, T, D) v = begC (l, a, R, T, D) 0 := by
      simp only [digC]
      rw [if_neg c, if_neg c2, if_neg c3, if_pos (by omega)]
    rw [e]
    exact p
set_option maxHeartbeats 2000000 in
theorem fC_readSign {M : zM} {s : CSt} {a0 : Int} (hB : BN wC M) (v0 : 0 ≤ a0 ∧ a0 ≤ 255) (h : csM M s) {Q : Int → zM → Prop} (hQ : ∀ (z : Int) (M1 : zM), spost M (sgnC s a0) z M1 → Q z M1) : wC_Splicer_readSign a0 M Q := by
  unfold wC_Splicer_readSign
  obtain ⟨l, a, R, T, D⟩ := s
  have h0 := h
  obtain ⟨h1, h2, h3, hR, hT, hD, hO⟩ := h
  have sl : sI (l : Int) = l := sIo (by omega) (by omega)
  have tl : ((l : Int)).toNat = l := by omega
  have s0 : sI a0 = a0 := sIo (by omega) (by omega)
  simp only [h1, sl, tl, s0]
  have up : ∀ (w : Int), -2147483648 ≤ w ∧ w ≤ 2147483647 → ∀ M1 : zM, M1 = zup M 1 3 w → BN wC M1 := fun w hw M1 e => by rw [e]; exact BN.up hB (rfl : zcd wC 1 = 1) rfl hw.1 hw.2
  refine ⟨fun c => ?_, fun c => ⟨fun c1 => ?_, fun c1 => ⟨fun c2 => fun M10 e10 => ?_, fun c2 => ⟨fun c3 => fun M13 e13 => ?_, fun c3 => ⟨fun c4 => fun M19 e19 => ?_, fun c4 => ⟨fun c5 => fun M25 e25 => ?_, fun c5 => ⟨fun c6 => ⟨⟨by omega, by omega⟩, ?_⟩, fun c6 => ?_⟩⟩⟩⟩⟩⟩⟩
  · have e : sgnC (l, a, R, T, D) a0 = (layC (l, a, R, T, D)).map opnC := by
      simp only [sgnC]
      rw [if_pos c]
    rw [e] at hQ
    exact fC_open hB h0 hQ
  · have e : sgnC (l, a, R, T, D) a0 = (layC (l, a, R, T, D)).map clsC := by
      simp only [sgnC]
      rw [if_neg c, if_pos c1]
    rw [e] at hQ
    exact fC_close hB h0 hQ
  · refine hQ _ _ ⟨up _ (by omega) _ e10, FRs_a e10, by omega, Or.inl ⟨rfl, (l, 42, R, T, D), ?_, csM_a h0 (by rw [e10, c2])⟩⟩
    simp only [sgnC]
    rw [if_neg c, if_neg c1, if_pos c2]
  · have e : sgnC (l, a, R, T, D) a0 = layC (l, 47, R, T, D) := by
      simp only [sgnC]
      rw [if_neg c, if_neg c1, if_neg c2, if_pos c3]
    rw [e] at hQ
    exact fC_layTerm (up _ (by omega) _ e13) (csM_a h0 (by rw [e13, c3])) (fun z M1 p => hQ _ _ (spost_tr (FRs_a e13) p))
  · have e : sgnC (l, a, R, T, D) a0 = begC (l, 91, R, T, D) 0 := by
      simp only [sgnC]
      rw [if_neg c, if_neg c1, if_neg c2, if_neg c3, if_pos c4]
    rw [e] at hQ
    exact fC_beginTerm (up _ (by omega) _ e19) ⟨by omega, by omega⟩ (csM_a h0 (by rw [e19, c4])) (fun z M1 p => hQ _ _ (spost_tr (FRs_a e19) p))
  · refine hQ _ _ ⟨up _ (by omega) _ e25, FRs_a e25, by omega, Or.inl ⟨rfl, (l, 0, R, T, D), ?_, csM_a h0 e25⟩⟩
    simp only [sgnC]
    rw [if_neg c, if_neg c1, if_neg c2, if_neg c3, if_neg c4, if_pos c5]
  · refine fC_turn hB (cdT l (by omega)).2.1 (cdT l (by omega)).2.2 (hT l (by omega)) (fun M3 p3 => ?_)
    obtain ⟨b3, f3, i3⟩ := p3
    refine hQ _ _ ⟨b3, fun p q hpq => f3 p q (by omega), by omega, Or.inl ⟨rfl, _, ?_, csM_T h0 (fun p q hpq => f3 p q (by omega)) i3⟩⟩
    simp only [sgnC]
    rw [if_neg c, if_neg c1, if_neg c2, if_neg c3, if_neg c4, if_neg c5, if_pos c6]
  · refine hQ _ _ ⟨hB, fun _ _ _ => rfl, by omega, Or.inl ⟨rfl, _, ?_, h0⟩⟩
    simp only [sgnC]
    rw [if_neg c, if_neg c1, if_neg c2, if_neg c3, if_neg c4, if_neg c5, if_neg c6]
theorem runC_snoc (f : Nat → Int) : ∀ (k : Nat) (s : CSt) (p : Nat), runC f (k + 1) s p = (runC f k s p).bind (fun s1 => stepC s1 (f (p + k)))
  | 0, s, p => by
    show (stepC s (f p)).bind (fun s1 => some s1) = stepC s (f (p + 0))
    cases stepC s (f p) <;> rfl
  | k + 1, s, p => by
    rw [show runC f (k + 1 + 1) s p = (stepC s (f p)).bind (fun s1 => runC f (k + 1) s1 (p + 1)) from rfl, show runC f (k + 1) s p = (stepC s (f p)).bind (fun s1 => runC f k s1 (p + 1)) from rfl]
    cases stepC s (f p) with
    | none => rfl
    | some s1 =>
      show runC f (k + 1) s1 (p + 1) = (runC f k s1 (p + 1)).bind _
      rw [runC_snoc f k s1 (p + 1), show p + 1 + k = p + (k + 1) by omega]
/-- a machine that begins -/
def cs0 (M : zM) : CSt := (0, 0, fun i => if i = 0 then (0, fun k => M 7 k) else ((M (6 + 4 * i) 1).toNat, M (6 + 4 * i + 1)), fun i => if i = 0 then (0, fun k => M 9 k) else ((M (8 + 4 * i) 1).toNat, M (8 + 4 * i + 1)), fun i => if i = 0 then 0 else (M 5 i).toNat)
set_option maxHeartbeats 2000000 in
theorem fC_putTogether {M : zM} (hB : BN wC M) {Q : Int → zM → Prop} (hQ : ∀ (z : Int) (M1 : zM), spost M ((runC (M 2) (M 1 1).toNat (cs0 M) 0).bind layC) z M1 → Q z M1) : wC_Splicer_putTogether M Q := by
  unfold wC_Splicer_putTogether wC_Splicer_openRow
  have bn : 0 ≤ M 1 1 ∧ M 1 1 ≤ 100 := BN.at hB (rfl : zcd wC 1 = 1) rfl
  intro M1 e1 M3 e3
  have b1 : BN wC M1 := by rw [e1]; exact BN.up hB (rfl : zcd wC 1 = 1) rfl (by omega) (by omega)
  have b3 : BN wC M3 := by rw [e3]; exact BN.up b1 (rfl : zcd wC 1 = 1) rfl (by omega) (by omega)
  have n3 : M3 1 2 = 0 := by rw [e3, zup_n _ _ (by omega), e1, zup_s]
  have s0 : sI (0 : Int) = 0 := sIo (by omega) (by omega)
  have t0 : (0 : Int).toNat = 0 := rfl
  simp only [n3, s0, t0, Nat.mul_zero, Nat.add_zero]
  refine ⟨⟨by omega, by omega⟩, fun M6 e6 => ?_⟩
  have b6 : BN wC M6 := by rw [e6]; exact BN.up b3 (cdR 0 (by omega)).2.1 rfl (by omega) (by omega)
  have n6 : M6 1 2 = 0 := by rw [e6, zup_n _ _ (by omega)]; exact n3
  simp only [n6, s0, t0, Nat.mul_zero, Nat.add_zero]
  refine ⟨⟨by omega, by omega⟩, fun M7 e7 => ?_⟩
  have b7 : BN wC M7 := by rw [e7]; exact BN.up b6 (cdT 0 (by omega)).2.1 rfl (by omega) (by omega)
  have n7 : M7 1 2 = 0 := by rw [e7, zup_n _ _ (by omega)]; exact n6
  simp only [n7, s0, t0]
  refine ⟨⟨by omega, by omega⟩, fun M8 e8 => ?_⟩
  have b8 : BN wC M8 := by rw [e8]; exact BN.up b7 (rfl : zcd wC 5 = 5) rfl (by omega) (by omega)
  have f8 : ∀ p q : Nat, ¬ (p = 1 ∧ q = 2 ∨ p = 1 ∧ q = 3 ∨ p = 6 ∧ q = 1 ∨ p = 8 ∧ q = 1 ∨ p = 5 ∧ q = 0) → M8 p q = M p q := fun p q hpq => by
    rw [e8, zup_n _ _ (by omega), e7, zup_n _ _ (by omega), e6, zup_n _ _ (by omega), e3, zup_n _ _ (by omega), e1, zup_n _ _ (by omega)]
  have m8 : csM M8 (cs0 M) := by
    refine ⟨by rw [e8, zup_n _ _ (by omega)]; exact n7, by rw [e8, zup_n _ _ (by omega), e7, zup_n _ _ (by omega), e6, zup_n _ _ (by omega), e3, zup_s], by omega, fun i hi => ?_, fun i hi => ?_, fun i hi => ?_, fun i hi => ?_⟩
    · dsimp only
      by_cases c : i = 0
      · subst c
        rw [if_pos rfl]
        exact ⟨by rw [e8, zup_n _ _ (by omega), e7, zup_n _ _ (by omega), e6, zup_s]; rfl, fun k hk => absurd hk (Nat.not_lt_zero k)⟩
      · rw [if_neg c]
        have b : 0 ≤ M (6 + 4 * i) 1 ∧ M (6 + 4 * i) 1 ≤ 24 := BN.at hB (cdR i hi).2.1 rfl
        exact ⟨by rw [f8 _ _ (by omega)]; show M (6 + 4 * i) 1 = (((M (6 + 4 * i) 1).toNat : Nat) : Int); omega, fun k _ => f8 _ _ (by omega)⟩
    · dsimp only
      by_cases c : i = 0
      · subst c
        rw [if_pos rfl]
        exact ⟨by rw [e8, zup_n _ _ (by omega), e7, zup_s]; rfl, fun k hk => absurd hk (Nat.not_lt_zero k)⟩
      · rw [if_neg c]
        have b : 0 ≤ M (8 + 4 * i) 1 ∧ M (8 + 4 * i) 1 ≤ 24 := BN.at hB (cdT i hi).2.1 rfl
        exact ⟨by rw [f8 _ _ (by omega)]; show M (8 + 4 * i) 1 = (((M (8 + 4 * i) 1).toNat : Nat) : Int); omega, fun k _ => f8 _ _ (by omega)⟩
    · dsimp only
      by_cases c : i = 0
      · subst c
        rw [if_pos rfl, e8, zup_s]
        rfl
      · rw [if_neg c, f8 _ _ (by omega)]
        have b : 0 ≤ M 5 i ∧ M 5 i ≤ 9 := BN.at hB (rfl : zcd wC 5 = 5) rfl
        omega
    · dsimp only
      rw [show i = 0 by omega, if_pos rfl]
      exact Nat.zero_le _
  have f8s : FRs M8 M := fun p q hpq => f8 p q (by omega)
  refine wL2_of (fun x y M2 => BN wC M2 ∧ FRs M2 M ∧ ((-101 ≤ x ∧ x ≤ 0) ∧ 0 ≤ y ∧ y ≤ M 1 1) ∧ ((x = 0 ∧ ∃ s1, runC (M 2) y.toNat (cs0 M) 0 = some s1 ∧ csM M2 s1) ∨ (x ≠ 0 ∧ runC (M 2) y.toNat (cs0 M) 0 = none))) (fun _ y _ => (1000 - y).toNat) ⟨b8, f8s, ⟨by omega, by omega, by omega⟩, Or.inl ⟨rfl, cs0 M, rfl, m8⟩⟩ (fun K x y M2 h k => ?_)
  obtain ⟨b2, f2, hy, hr⟩ := h
  have n2 : M2 1 1 = M 1 1 := f2 1 1 (by omega)
  have r2 : M2 2 = M 2 := funext fun q => f2 2 q (by omega)
  have sn : sI (M 1 1) = M 1 1 := sIo (by omega) (by omega)
  have sy : sI y = y := sIo (by omega) (by omega)
  have sx : sI x = x := sIo (by omega) (by omega)
  have bs : 0 ≤ M 2 y.toNat ∧ M 2 y.toNat ≤ 255 := BN.at hB (rfl : zcd wC 2 = 2) rfl
  simp only [n2, r2, sn, sy, sx]
  have nn : ∀ (i : Nat), runC (M 2) y.toNat (cs0 M) 0 = none → runC (M 2) (y.toNat + i) (cs0 M) 0 = none := by
    intro i h
    induction i with
    | zero => exact h
    | succ i ih =>
      rw [show y.toNat + (i + 1) = (y.toNat + i) + 1 by omega, runC_snoc, ih]
      rfl
  refine ⟨fun c => ?_, fun c => ⟨fun c2 => ⟨fun c3 => ?_, fun c3 => absurd c3 c2⟩, fun c2 => ⟨⟨by omega, by omega⟩, ?_⟩⟩⟩
  · have ey : y = M 1 1 := by omega
    rw [ey] at hr
    refine ⟨fun d => ?_, fun d => ?_⟩
    · rcases hr with ⟨h1, -⟩ | ⟨h1, h2⟩
      · exact absurd h1 d
      · refine hQ _ _ ⟨b2, f2, hy.1, Or.inr ⟨d, ?_⟩⟩
        rw [h2]
        rfl
    · rcases hr with ⟨h1, s1, h2, h3⟩ | ⟨h1, h2⟩
      · refine fC_layTerm b2 h3 (fun z M4 p => hQ _ _ ?_)
        rw [h2]
        exact spost_tr f2 p
      · exact absurd d h1
  · rcases hr with ⟨h1, -⟩ | ⟨h1, h2⟩
    · exact absurd h1 c3
    · refine hQ _ _ ⟨b2, f2, hy.1, Or.inr ⟨c3, ?_⟩⟩
      have w := nn ((M 1 1).toNat - y.toNat) h2
      rw [show y.toNat + ((M 1 1).toNat - y.toNat) = (M 1 1).toNat by omega] at w
      rw [w]
      rfl
  · obtain ⟨s1, h2, h3⟩ : ∃ s1, runC (M 2) y.toNat (cs0 M) 0 = some s1 ∧ csM M2 s1 := by
      rcases hr with ⟨h1, h2⟩ | ⟨h1, h2⟩
      · exact h2
      · exact absurd c2 h1
    have go : ∀ (z : Int) (M3 : zM), spost M2 (stepC s1 (M 2 y.toNat)) z M3 → K z (y + 1) M3 := by
      intro z M3 p
      obtain ⟨p1, p2, p3, p4⟩ := p
      refine k _ _ _ ⟨p1, f2.tr p2, ⟨p3, by omega, by omega⟩, ?_⟩ (by omega)
      rw [show (y + 1).toNat = y.toNat + 1 by omega, runC_snoc, h2, Nat.zero_add]
      exact p4
    refine sC_Splicer_isDigit b2 (by omega) (by omega) (fun z p => ?_)
    obtain ⟨-, p1, -⟩ := p
    refine ⟨fun d => ⟨⟨by omega, by omega⟩, ?_⟩, fun d => ⟨⟨by omega, by omega⟩, ?_⟩⟩
    · refine fC_readSign b2 bs h3 (fun z M3 p => go _ _ ?_)
      unfold stepC
      rw [if_neg (by omega)]
      exact p
    · refine fC_readDigit (v := (M 2 y.toNat - 48).toNat) b2 (by omega) (by omega) h3 (fun z M3 p => go _ _ ?_)
      unfold stepC
      rw [if_pos (by omega)]
      exact p
end zz47h_put
section zz47i_made
/-! the model puts together what the class's machine does: terms -/
theorem runC_add (f : Nat → Int) : ∀ (a b : Nat) (s : CSt) (p : Nat), runC f (a + b) s p = (runC f a s p).bind (fun s1 => runC f b s1 (p + a))
  | 0, b, s, p => by rw [Nat.zero_add]; rfl
  | a + 1, b, s, p => by
    rw [show a + 1 + b = (a + b) + 1 by omega, show runC f (a + b + 1) s p = (stepC s (f p)).bind (fun s1 => runC f (a + b) s1 (p + 1)) from rfl, show runC f (a + 1) s p = (stepC s (f p)).bind (fun s1 => runC f a s1 (p + 1)) from rfl]
    cases stepC s (f p) with
    | none => rfl
    | some s1 =>
      show runC f (a + b) s1 (p + 1) = (runC f a s1 (p + 1)).bind _
      rw [runC_add f a b s1 (p + 1), show p + 1 + a = p + (a + 1) by omega]
def Rn (f : Nat → Int) (cs : CSt) (p q : Int) (cs2 : CSt) : Prop := 0 ≤ p ∧ p ≤ q ∧ runC f (q - p).toNat cs p.toNat = some cs2
def Dd (f : Nat → Int) (s : Int) (cs : CSt) (p : Int) : Prop := (runC f (s - p).toNat cs p.toNat).bind layC = none
theorem Rn_0 {f : Nat → Int} {cs : CSt} {p : Int} (h : 0 ≤ p) : Rn f cs p p cs := ⟨h, Int.le_refl _, by rw [show (p - p).toNat = 0 by omega]; rfl⟩
theorem Rn_tr {f : Nat → Int} {cs c1 c2 : CSt} {p q r : Int} (h : Rn f cs p q c1) (h2 : Rn f c1 q r c2) : Rn f cs p r c2 := by
  obtain ⟨a1, a2, a3⟩ := h
  obtain ⟨b1, b2, b3⟩ := h2
  refine ⟨a1, by omega, ?_⟩
  rw [show (r - p).toNat = (q - p).toNat + (r - q).toNat by omega, runC_add, a3, show p.toNat + (q - p).toNat = q.toNat by omega]
  exact b3
theorem Rn_s {f : Nat → Int} {cs c1 c2 : CSt} {p q : Int} (h : Rn f cs p q c1) (e : stepC c1 (f q.toNat) = some c2) : Rn f cs p (q + 1) c2 := by
  refine Rn_tr h ⟨by have := h.1; have := h.2.1; omega, by omega, ?_⟩
  rw [show (q + 1 - q).toNat = 1 by omega]
  show (stepC c1 (f q.toNat)).bind (fun s1 => some s1) = some c2
  rw [e]
  rfl
theorem Dd_r {f : Nat → Int} {s : Int} {cs c1 : CSt} {p q : Int} (h : Rn f cs p q c1) (hq : q ≤ s) (h2 : Dd f s c1 q) : Dd f s cs p := by
  obtain ⟨a1, a2, a3⟩ := h
  unfold Dd
  rw [show (s - p).toNat = (q - p).toNat + (s - q).toNat by omega, runC_add, a3, show p.toNat + (q - p).toNat = q.toNat by omega]
  exact h2
theorem Dd_s {f : Nat → Int} {s : Int} {cs c1 : CSt} {p q : Int} (h : Rn f cs p q c1) (hq : q < s) (e : stepC c1 (f q.toNat) = none) : Dd f s cs p := by
  refine Dd_r h (by omega) ?_
  unfold Dd
  rw [show (s - q).toNat = (s - q - 1).toNat + 1 by omega]
  show ((stepC c1 (f q.toNat)).bind _).bind layC = none
  rw [e]
  rfl
theorem st_star {l : Nat} {a v : Int} {R T : Nat → SV} {D : Nat → Nat} (h : v = 42) : stepC (l, a, R, T, D) v = some (l, 42, R, T, D) := by
  subst h
  rfl
theorem st_til {l : Nat} {a v : Int} {R T : Nat → SV} {D : Nat → Nat} (h : v = 126) : stepC (l, a, R, T, D) v = some (l, a, R, uS T l (turnV (T l)), D) := by
  subst h
  rfl
theorem sn_end {l : Nat} {a v : Int} {R T : Nat → SV} {D : Nat → Nat} (h : v = 93) : stepC (l, a, R, T, D) v = some (l, 0, R, T, D) := by
  subst h
  rfl
theorem st_brk {l : Nat} {a v : Int} {R T : Nat → SV} {D : Nat → Nat} (h : v = 91) : stepC (l, a, R, T, D) v = begC (l, 91, R, T, D) 0 := by
  subst h
  rfl
theorem st_sl {l : Nat} {a v : Int} {R T : Nat → SV} {D : Nat → Nat} (h : v = 47) : stepC (l, a, R, T, D) v = layC (l, 47, R, T, D) := by
  subst h
  rfl
theorem st_opn {l : Nat} {a v : Int} {R T : Nat → SV} {D : Nat → Nat} (h : v = 40) : stepC (l, a, R, T, D) v = (layC (l, a, R, T, D)).map opnC := by
  subst h
  rfl
theorem st_cls {l : Nat} {a v : Int} {R T : Nat → SV} {D : Nat → Nat} (h : v = 41) : stepC (l, a, R, T, D) v = (layC (l, a, R, T, D)).map clsC := by
  subst h
  rfl
theorem st_rep {l : Nat} {v : Int} {R T : Nat → SV} {D : Nat → Nat} (h : 48 ≤ v ∧ v ≤ 57) : stepC (l, 42, R, T, D) v = if 24 < (T l).1 * (v - 48).toNat then none else some (l, 0, R, uS T l (repV (T l) (v - 48).toNat), D) := by
  unfold stepC
  rw [if_pos h]
  rfl
theorem st_shr {l : Nat} {v : Int} {R T : Nat → SV} {D : Nat → Nat} (h : 48 ≤ v ∧ v ≤ 57) : stepC (l, 47, R, T, D) v = if (R l).1 < (v - 48).toNat then none else some (l, 0, R, T, uN D l (v - 48).toNat) := by
  unfold stepC
  rw [if_pos h]
  rfl
theorem st_in {l : Nat} {v : Int} {R T : Nat → SV} {D : Nat → Nat} (h : 48 ≤ v ∧ v ≤ 57) : stepC (l, 91, R, T, D) v = some (l, 91, R, uS T l (addV (T l) (shlI 1 ((v - 48).toNat : Int))), D) := by
  unfold stepC
  rw [if_pos h]
  rfl
theorem st_dig {l : Nat} {v : Int} {R T : Nat → SV} {D : Nat → Nat} (h : 48 ≤ v ∧ v ≤ 57) : stepC (l, 0, R, T, D) v = begC (l, 0, R, T, D) (if (v - 48).toNat = 0 then 0 else shlI 1 ((v - 48).toNat : Int)) := by
  unfold stepC
  rw [if_pos h]
  rfl
theorem lay_some {l l1 : Nat} {a a1 : Int} {R T R1 T1 : Nat → SV} {D D1 : Nat → Nat} (h : layC (l, a, R, T, D) = some (l1, a1, R1, T1, D1)) : l1 = l ∧ a1 = a ∧ (T1 l).1 = 0 ∧ (∀ i : Nat, i ≠ l → R1 i = R i ∧ T1 i = T i ∧ D1 i = D i) ∧ (((T l).1 = 0 ∧ R1 = R ∧ T1 = T ∧ D1 = D) ∨ ((T l).1 ≠ 0 ∧ D l ≤ (T l).1 ∧ (R l).1 + (T l).1 - D l ≤ 24 ∧ R1 l = layV (R l) (T l) (D l) ∧ D1 l = 0)) := by
  simp only [layC] at h
  by_cases c : (T l).1 = 0
  · rw [if_pos c] at h
    cases h
    exact ⟨rfl, rfl, c, fun _ _ => ⟨rfl, rfl, rfl⟩, Or.inl ⟨c, rfl, rfl, rfl⟩⟩
  rw [if_neg c] at h
  by_cases c2 : (T l).1 < D l
  · rw [if_pos c2] at h
    cases h
  rw [if_neg c2] at h
  by_cases c3 : 24 < (R l).1 + (T l).1 - D l
  · rw [if_pos c3] at h
    cases h
  rw [if_neg c3] at h
  cases h
  exact ⟨rfl, rfl, by rw [uS_s], fun i hi => ⟨uS_n _ _ hi, uS_n _ _ hi, uN_n _ _ hi⟩, Or.inr ⟨c, by omega, by omega, uS_s _ _ _, uN_s _ _ _⟩⟩
theorem lay_a {l : Nat} {a b : Int} {R T R1 T1 : Nat → SV} {D D1 : Nat → Nat} (h : layC (l, a, R, T, D) = some (l, a, R1, T1, D1)) : layC (l, b, R, T, D) = some (l, b, R1, T1, D1) := by
  simp only [layC] at h ⊢
  by_cases c : (T l).1 = 0
  · rw [if_pos c] at h ⊢
    cases h
    rfl
  rw [if_neg c] at h ⊢
  by_cases c2 : (T l).1 < D l
  · rw [if_pos c2] at h
    cases h
  rw [if_neg c2] at h ⊢
  by_cases c3 : 24 < (R l).1 + (T l).1 - D l
  · rw [if_pos c3] at h
    cases h
  rw [if_neg c3] at h ⊢
  cases h
  rfl
theorem lay_no {l : Nat} {a : Int} {R T : Nat → SV} {D : Nat → Nat} (c : (T l).1 ≠ 0) (h : (T l).1 < D l ∨ 24 < (R l).1 + (T l).1 - D l) : layC (l, a, R, T, D) = none := by
  simp only [layC]
  rw [if_neg c]
  by_cases c2 : (T l).1 < D l
  · rw [if_pos c2]
  · rw [if_neg c2, if_pos (by omega)]
theorem lay_yes {l : Nat} {a : Int} {R T : Nat → SV} {D : Nat → Nat} (c : (T l).1 ≠ 0) (h1 : D l ≤ (T l).1) (h2 : (R l).1 + (T l).1 - D l ≤ 24) : layC (l, a, R, T, D) = some (l, a, uS R l (layV (R l) (T l) (D l)), uS T l (0, (T l).2), uN D l 0) := by
  simp only [layC]
  rw [if_neg c, if_neg (by omega), if_neg (by omega)]
theorem lay_0 {l : Nat} {a : Int} {R T : Nat → SV} {D : Nat → Nat} (c : (T l).1 = 0) : layC (l, a, R, T, D) = some (l, a, R, T, D) := by
  simp only [layC]
  rw [if_pos c]
def isT (N : zM) (d : Nat) (x : SV) : Prop := N 26 d = (x.1 : Int) ∧ ∀ k : Nat, k < x.1 → N 25 (24 * d + k) = x.2 k
def isW (N : zM) (d : Nat) (x : SV) : Prop := N 24 d = (x.1 : Int) ∧ ∀ k : Nat, k < x.1 → N 23 (24 * d + k) = x.2 k
def FF1 (d : Nat) (M N : zM) : Prop := ∀ j k : Nat, ¬ (j = 0 ∧ k = 36 ∨ j = 23 ∧ 24 * (d + 1) ≤ k ∨ j = 24 ∧ d + 1 ≤ k ∨ j = 25 ∧ 24 * d ≤ k ∨ j = 26 ∧ d ≤ k) → N j k = M j k
def FF2 (d : Nat) (M N : zM) : Prop := ∀ j k : Nat, ¬ (j = 0 ∧ k = 36 ∨ j = 23 ∧ 24 * d ≤ k ∨ j = 24 ∧ d ≤ k ∨ j = 25 ∧ 24 * d ≤ k ∨ j = 26 ∧ d ≤ k) → N j k = M j k
def VT1 (f : Nat → Int) (s : Int) (d : Nat) (q : Int) (M0 : zM) (cs : CSt) (p0 : Int) (R T : Nat → SV) (D : Nat → Nat) (z : Int) (M1 : zM) : Prop := BI M1 ∧ FF1 d M0 M1 ∧ (0 ≤ M1 0 36 ∧ M1 0 36 ≤ 60) ∧ (-101 ≤ z ∧ z ≤ 0) ∧ ((z < 0 ∧ Dd f s cs p0) ∨ (z = 0 ∧ M1 0 36 = q ∧ ∃ R2 T2 : Nat → SV, ∃ D2 : Nat → Nat, Rn f cs p0 q (d, 0, R2, T2, D2) ∧ (∀ i : Nat, i ≤ d → R2 i = R i ∧ D2 i = D i) ∧ (∀ i : Nat, i < d → T2 i = T i) ∧ 1 ≤ (T2 d).1 ∧ isT M1 d (T2 d)))
theorem VT1_cg {f : Nat → Int} {s : Int} {d : Nat} {q : Int} {M0 : zM} {cs : CSt} {p0 : Int} {R T R' T' : Nat → SV} {D D' : Nat → Nat} {z : Int} {M1 : zM} (h : VT1 f s d q M0 cs p0 R' T' D' z M1) (h1 : ∀ i : Nat, i ≤ d → R' i = R i ∧ D' i = D i) (h2 : ∀ i : Nat, i < d → T' i = T i) : VT1 f s d q M0 cs p0 R T D z M1 := by
  obtain ⟨a1, a2, a3, a4, a5⟩ := h
  refine ⟨a1, a2, a3, a4, ?_⟩
  rcases a5 with a5 | ⟨b1, b2, R2, T2, D2, b3, b4, b5, b6⟩
  · exact Or.inl a5
  · exact Or.inr ⟨b1, b2, R2, T2, D2, b3, fun i hi => ⟨(b4 i hi).1.trans (h1 i hi).1, (b4 i hi).2.trans (h1 i hi).2⟩, fun i hi => (b5 i hi).trans (h2 i hi), b6⟩
theorem sgnf {f T : Nat → Int} {s : Int} (hf : ∀ i : Nat, (i : Int) < s → f i = bU (T i)) {p lo hi : Int} (h : HS T s p lo hi) (h0 : 0 ≤ p) (hl : 0 ≤ lo) : f p.toNat = T p.toNat := by
  unfold HS at h
  rw [hf p.toNat (by omega)]
  unfold bU
  rw [if_neg (by omega)]
set_option maxHeartbeats 4000000 in
theorem vt_tail {T f : Nat → Int} {s : Int} {d : Nat} {M0 M : zM} {Q : Int → zM → Prop} {q p0 : Int} {cs : CSt} {R Tm : Nat → SV} {D : Nat → Nat} (hf : ∀ i : Nat, (i : Int) < s → f i = bU (T i)) (hd : d ≤ 5) (hB : BI M) (hF : FF1 d M0 M) (hT : M0 1 = T) (hs : M0 0 1 = s) (hp : 0 ≤ M 0 36 ∧ M 0 36 ≤ 60) (pk : PK T s 4 d (M 0 36) q) (hr : Rn f cs p0 (M 0 36) (d, 0, R, Tm, D)) (h1 : 1 ≤ (Tm d).1) (ht : isT M d (Tm d)) (hQ : ∀ (z : Int) (M1 : zM), VT1 f s d q M0 cs p0 R Tm D z M1 → Q z M1) : wR_mtTail (d : Int) Q M := by
  unfold wR_mtTail
  refine wL0_of (fun N => BI N ∧ FF1 d M0 N ∧ (0 ≤ N 0 36 ∧ N 0 36 ≤ 60) ∧ PK T s 4 d (N 0 36) q ∧ ∃ Tn : Nat → SV, Rn f cs p0 (N 0 36) (d, 0, R, Tn, D) ∧ (∀ i : Nat, i ≠ d → Tn i = Tm i) ∧ 1 ≤ (Tn d).1 ∧ isT N d (Tn d)) (fun N => (100 - N 0 36).toNat) ⟨hB, hF, hp, pk, Tm, hr, fun _ _ => rfl, h1, ht⟩ (fun K N hI hK => ?_)
  obtain ⟨hBN, FN, pN, pkN, Tn, hrN, hTn, h1N, htN⟩ := hI
  have TN : N 1 = T := (funext fun k => FN 1 k (by omega)).trans hT
  have SN : N 0 1 = s := (FN 0 1 (by omega)).trans hs
  have sd : sI (d : Int) = d := sIo (by omega) (by omega)
  have dd : ((d : Int)).toNat = d := rfl
  have bz : 0 ≤ N 26 d ∧ N 26 d ≤ 24 := BN.at hBN.1 (rfl : zcd wR 26 = 76) rfl
  have sz : sI (N 26 d) = N 26 d := sIo (by omega) (by omega)
  have hn : N 26 d = ((Tn d).1 : Int) := htN.1
  have hg := htN.2
  rw [sd, dd, sz]
  refine sR_has hBN (by omega) (by omega) (fun z43 c43 => ?_)
  obtain ⟨-, c43, -⟩ := c43
  rw [TN, SN] at c43
  refine pJ0_of (HS T s (N 0 36) 126 126 ∨ HS T s (N 0 36) 42 42) (fun hJ => ?_) ⟨fun e43 => Or.inl (hyes c43 (by omega)), fun e43 => ?_⟩
  · refine ⟨by omega, ?_⟩
    refine sR_has hBN (by omega) (by omega) (fun z56 c56 => ?_)
    obtain ⟨-, c56, -⟩ := c56
    rw [TN, SN] at c56
    refine ⟨fun e56 => ?_, fun e56 => ?_⟩
    · have n56 : ¬ HS T s (N 0 36) 126 126 := hno c56 (by omega)
      have y42 : HS T s (N 0 36) 42 42 := hJ.resolve_left n56
      have h4 : HS T s (N 0 36 + 1) 50 57 ∧ PK T s 4 d (N 0 36 + 2) q := by
        rcases PK4.mp pkN with h | h | h
        · exact absurd h.1 n56
        · exact ⟨h.2.2.1, h.2.2.2⟩
        · exact absurd y42 h.2.1
      have pl : N 0 36 + 1 < 60 := h4.1.1.2
      have ps : N 0 36 + 1 < s := h4.1.1.1
      have hv := h4.1.2
      have f1 : f (N 0 36).toNat = T (N 0 36).toNat := sgnf hf y42 pN.1 (by omega)
      have f2 : f (N 0 36 + 1).toNat = T (N 0 36 + 1).toNat := sgnf hf h4.1 (by omega) (by omega)
      have e42 : f (N 0 36).toNat = 42 := by have := y42.2; omega
      have r1 := Rn_s hrN (st_star e42)
      have hv2 := hv
      rw [← TN] at hv
      have s3 : sI (N 0 36 + 1) = N 0 36 + 1 := sIo (by omega) (by omega)
      rw [s3]
      refine ⟨by omega, ?_⟩
      intro t61 e61
      have bt : 2 ≤ t61 ∧ t61 ≤ 9 := by omega
      have ev : (f (N 0 36 + 1).toNat - 48).toNat = t61.toNat := by rw [f2, e61, TN]
      have tv : t61 = (t61.toNat : Int) := by omega
      have st := st_rep (l := d) (R := R) (T := Tn) (D := D) (v := f (N 0 36 + 1).toNat) (by omega)
      rw [ev] at st
      have emul : N 26 d * t61 = (((Tn d).1 * t61.toNat : Nat) : Int) := by
        rw [hn, Int.natCast_mul, ← tv]
      intro M63 e63
      have p63 : M63 0 36 = N 0 36 + 2 := by rw [e63]; exact zup_s _ _ _ _
      have hB63 : BI M63 := by rw [e63]; exact BIp hBN (by omega) (by omega)
      have F63 : FF1 d M0 M63 := fun j9 k9 h9 => by rw [e63]; exact (zup_n _ _ (by omega)).trans (FN j9 k9 h9)
      have mb := mulB 24 9 (N 26 d) t61 bz.1 bz.2 (by omega) (by omega)
      have sm : sI (N 26 d * t61) = N 26 d * t61 := sIo (by omega) (by omega)
      rw [sm]
      have mge : N 26 d ≤ N 26 d * t61 := by
        have h := Int.mul_le_mul_of_nonneg_left (a := 1) (b := t61) (c := N 26 d) (by omega) bz.1
        omega
      refine ⟨fun c => ?_, fun c => hQ _ _ ⟨hB63, F63, by omega, by omega, Or.inl ⟨by omega, Dd_s r1 ps (by rw [st, if_pos (by omega)])⟩⟩⟩
      rw [if_neg (by omega)] at st
      have r2 := Rn_s r1 st
      rw [show N 0 36 + 1 + 1 = N 0 36 + 2 by omega] at r2
      refine wL1_of (fun x P => BI P ∧ FF1 d M0 P ∧ P 0 36 = N 0 36 + 2 ∧ ∃ i : Nat, x = (i : Int) ∧ (Tn d).1 ≤ i ∧ (i : Int) ≤ N 26 d * t61 ∧ ∀ k : Nat, k < i → P 25 (24 * d + k) = (Tn d).2 (k % (Tn d).1)) (fun x _ => (1000 - x).toNat) ⟨hB63, F63, p63, (Tn d).1, hn, Nat.le_refl _, by omega, fun k hk => by rw [e63, zup_n _ _ (by omega), Nat.mod_eq_of_lt hk]; exact hg k hk⟩ (fun K2 x P hI2 hK2 => ?_)
      obtain ⟨hBP, FP, pP, i, rfl, i1, i2, hv3⟩ := hI2
      have sx : sI (i : Int) = i := sIo (by omega) (by omega)
      rw [sx]
      refine ⟨fun c2 => ⟨by omega, ?_⟩, fun c2 => ?_⟩
      · intro M77 e77
        have p77 : M77 0 36 = N 0 36 + 2 := by rw [e77, zup_n _ _ (by omega), pP]
        refine hK _ ⟨by rw [e77]; exact BI.up hBP (rfl : zcd wR 26 = 76) rfl (by omega) (by omega) (by decide), fun j9 k9 h9 => by rw [e77]; exact (zup_n _ _ (by omega)).trans (FP j9 k9 h9), by omega, by rw [p77]; exact h4.2, uS Tn d (repV (Tn d) t61.toNat), by rw [p77]; exact r2, fun i hi => (uS_n _ _ hi).trans (hTn i hi), ?_, ?_⟩ (by omega)
        · rw [uS_s]
          show 1 ≤ (Tn d).1 * t61.toNat
          have := Nat.mul_le_mul h1N (show 1 ≤ t61.toNat by omega)
          omega
        · rw [uS_s]
          refine ⟨by rw [e77, zup_s, emul]; rfl, fun k hk => ?_⟩
          have hk : k < (Tn d).1 * t61.toNat := hk
          rw [e77, zup_n _ _ (by omega)]
          exact hv3 k (by omega)
      · have s5 : sI ((24 * (d : Int) + (i : Int)) - N 26 d) = (24 * (d : Int) + (i : Int)) - N 26 d := sIo (by omega) (by omega)
        have s6 : sI (24 * (d : Int) + (i : Int)) = 24 * (d : Int) + (i : Int) := sIo (by omega) (by omega)
        have t5 : ((24 * (d : Int) + (i : Int)) - N 26 d).toNat = 24 * d + (i - (Tn d).1) := by omega
        have t6 : (24 * (d : Int) + (i : Int)).toNat = 24 * d + i := by omega
        rw [s5, s6, t5, t6]
        refine ⟨by omega, by omega, ?_⟩
        intro M83 e83
        have br := BN.r32 hBP.1 25 (24 * d + (i - (Tn d).1))
        refine hK2 _ _ ⟨by rw [e83]; exact BI.up hBP (rfl : zcd wR 25 = 75) rfl br.1 br.2 (by decide), fun j9 k9 h9 => by rw [e83]; exact (zup_n _ _ (by omega)).trans (FP j9 k9 h9), by rw [e83, zup_n _ _ (by omega)]; exact pP, i + 1, by omega, by omega, by omega, fun k hk => ?_⟩ (by omega)
        rw [e83]
        by_cases c5 : k = i
        · rw [c5, zup_s, hv3 _ (by omega), ← Nat.mod_eq_sub_mod i1]
        · rw [zup_n _ _ (by omega)]
          exact hv3 k (by omega)
    · have y56 : HS T s (N 0 36) 126 126 := hyes c56 (by omega)
      have pl : N 0 36 < 60 := y56.1.2
      have pk2 : PK T s 4 d (N 0 36 + 1) q := by
        rcases PK4.mp pkN with h | h | h
        · exact h.2
        · exact absurd y56 h.1
        · exact absurd y56 h.1
      have f1 : f (N 0 36).toNat = T (N 0 36).toNat := sgnf hf y56 pN.1 (by omega)
      have e126 : f (N 0 36).toNat = 126 := by have := y56.2; omega
      have r1 := Rn_s hrN (st_til e126)
      intro M87 e87
      have p87 : M87 0 36 = N 0 36 + 1 := by rw [e87]; exact zup_s _ _ _ _
      have hB87 : BI M87 := by rw [e87]; exact BIp hBN (by omega) (by omega)
      have F87 : FF1 d M0 M87 := fun j9 k9 h9 => by rw [e87]; exact (zup_n _ _ (by omega)).trans (FN j9 k9 h9)
      have hh : (N 26 d).tdiv 2 = N 26 d / 2 := Int.tdiv_eq_ediv_of_nonneg bz.1
      have sh : sI ((N 26 d).tdiv 2) = (((Tn d).1 / 2 : Nat) : Int) := by rw [hh, sIo (by omega) (by omega)]; omega
      rw [sh]
      refine wL1_of (fun x P => BI P ∧ FF1 d M0 P ∧ P 0 36 = N 0 36 + 1 ∧ P 26 d = N 26 d ∧ ∃ i : Nat, x = (i : Int) ∧ i ≤ (Tn d).1 / 2 ∧ ∀ k : Nat, k < (Tn d).1 → P 25 (24 * d + k) = if k < i ∨ (Tn d).1 - i ≤ k then (Tn d).2 ((Tn d).1 - 1 - k) else (Tn d).2 k) (fun x _ => (1000 - x).toNat) ⟨hB87, F87, p87, by rw [e87]; exact zup_n _ _ (by omega), 0, rfl, by omega, fun k hk => by rw [if_neg (by omega), e87, zup_n _ _ (by omega)]; exact hg k hk⟩ (fun K2 x P hI2 hK2 => ?_)
      obtain ⟨hBP, FP, pP, nP, i, rfl, i1, hv3⟩ := hI2
      have sx : sI (i : Int) = i := sIo (by omega) (by omega)
      rw [sx]
      refine ⟨fun c2 => hK _ ⟨hBP, FP, by omega, by rw [pP]; exact pk2, uS Tn d (turnV (Tn d)), by rw [pP]; exact r1, fun i hi => (uS_n _ _ hi).trans (hTn i hi), by rw [uS_s]; exact h1N, ?_⟩ (by omega), fun c2 => ?_⟩
      · rw [uS_s]
        refine ⟨by rw [nP]; exact hn, fun k hk => ?_⟩
        have hk : k < (Tn d).1 := hk
        show P 25 (24 * d + k) = (Tn d).2 ((Tn d).1 - 1 - k)
        rw [hv3 k hk]
        by_cases c5 : k < i ∨ (Tn d).1 - i ≤ k
        · rw [if_pos c5]
        · rw [if_neg c5, show (Tn d).1 - 1 - k = k by omega]
      · have s5 : sI (((24 * (d : Int) + N 26 d) - 1) - (i : Int)) = ((24 * (d : Int) + N 26 d) - 1) - (i : Int) := sIo (by omega) (by omega)
        have s6 : sI (24 * (d : Int) + (i : Int)) = 24 * (d : Int) + (i : Int) := sIo (by omega) (by omega)
        have t5 : (((24 * (d : Int) + N 26 d) - 1) - (i : Int)).toNat = 24 * d + ((Tn d).1 - 1 - i) := by omega
        have t6 : (24 * (d : Int) + (i : Int)).toNat = 24 * d + i := by omega
        rw [s5, s6, t5, t6]
        refine ⟨by omega, by omega, by omega, ?_⟩
        intro M104 e104
        have br := BN.r32 hBP.1 25 (24 * d + ((Tn d).1 - 1 - i))
        have br2 := BN.r32 hBP.1 25 (24 * d + i)
        have hB104 : BI M104 := by rw [e104]; exact BI.up hBP (rfl : zcd wR 25 = 75) rfl br.1 br.2 (by decide)
        refine ⟨by omega, ?_⟩
        intro M107 e107
        refine hK2 _ _ ⟨by rw [e107]; exact BI.up hB104 (rfl : zcd wR 25 = 75) rfl br2.1 br2.2 (by decide), fun j9 k9 h9 => by rw [e107, e104]; exact (zup_n _ _ (by omega)).trans ((zup_n _ _ (by omega)).trans (FP j9 k9 h9)), by rw [e107, e104, zup_n _ _ (by omega), zup_n _ _ (by omega)]; exact pP, by rw [e107, e104, zup_n _ _ (by omega), zup_n _ _ (by omega)]; exact nP, i + 1, by omega, by omega, fun k hk => ?_⟩ (by omega)
        rw [e107]
        by_cases c5 : k = (Tn d).1 - 1 - i
        · rw [c5, zup_s, if_pos (by omega), hv3 i (by omega), if_neg (by omega), show (Tn d).1 - 1 - ((Tn d).1 - 1 - i) = i by omega]
        · rw [zup_n _ _ (by omega), e104]
          by_cases c6 : k = i
          · rw [c6, zup_s, if_pos (by omega), hv3 _ (by omega), if_neg (by omega)]
          · rw [zup_n _ _ (by omega), hv3 k hk]
            by_cases c7 : k < i ∨ (Tn d).1 - i ≤ k
            · rw [if_pos c7, if_pos (show k < i + 1 ∨ (Tn d).1 - (i + 1) ≤ k by omega)]
            · rw [if_neg c7, if_neg (show ¬ (k < i + 1 ∨ (Tn d).1 - (i + 1) ≤ k) by omega)]
  · have n43 : ¬ HS T s (N 0 36) 126 126 := hno c43 (by omega)
    refine sR_has hBN (by omega) (by omega) (fun z113 c113 => ?_)
    obtain ⟨-, c113, -⟩ := c113
    rw [TN, SN] at c113
    refine ⟨fun e113 => ?_, fun e113 => Or.inr (hyes c113 (by omega))⟩
    have n113 : ¬ HS T s (N 0 36) 42 42 := hno c113 (by omega)
    have eq : N 0 36 = q := by
      rcases PK4.mp pkN with h | h | h
      · exact absurd h.1 n43
      · exact absurd h.2.1 n113
      · exact h.2.2.symm
    rw [eq] at hrN
    exact hQ _ _ ⟨hBN, FN, pN, by omega, Or.inr ⟨rfl, eq, R, Tn, D, hrN, fun _ _ => ⟨rfl, rfl⟩, fun i hi => hTn i (by omega), h1N, htN⟩⟩
end zz47i_made
section zz47j_rows
/-! the model puts together what the class's machine does: rows -/
def NXr (T : Nat → Int) (s : Int) (d : Nat) (q : Int) : Prop := (q = s ∧ d = 0) ∨ HS T s q 41 41
def SpV1 (f T : Nat → Int) (s : Int) (d : Nat) (Rm : Int → zM → (Int → zM → Prop) → Prop) : Prop := ∀ (M : zM) (Q : Int → zM → Prop) (q : Int) (R Tm : Nat → SV) (D : Nat → Nat) (R1 T1 : Nat → SV) (D1 : Nat → Nat), BI M → M 1 = T → M 0 1 = s → (0 ≤ M 0 36 ∧ M 0 36 ≤ 60) → PK T s 1 d (M 0 36) q → layC (d, 0, R, Tm, D) = some (d, 0, R1, T1, D1) → (∀ (z : Int) (M1 : zM), VT1 f s d q M (d, 0, R, Tm, D) (M 0 36) R1 T1 D1 z M1 → Q z M1) → Rm (d : Int) M Q
def VT2 (f : Nat → Int) (s : Int) (d : Nat) (q : Int) (M0 : zM) (R T : Nat → SV) (D : Nat → Nat) (z : Int) (M1 : zM) : Prop := BI M1 ∧ FF2 d M0 M1 ∧ (0 ≤ M1 0 36 ∧ M1 0 36 ≤ 60) ∧ (-101 ≤ z ∧ z ≤ 0) ∧ ((z < 0 ∧ Dd f s (d, 0, R, T, D) (M0 0 36)) ∨ (z = 0 ∧ M1 0 36 = q ∧ ∃ R2 T2 : Nat → SV, ∃ D2 : Nat → Nat, ∃ R3 T3 : Nat → SV, ∃ D3 : Nat → Nat, Rn f (d, 0, R, T, D) (M0 0 36) q (d, 0, R2, T2, D2) ∧ layC (d, 0, R2, T2, D2) = some (d, 0, R3, T3, D3) ∧ (∀ i : Nat, i < d → R2 i = R i ∧ D2 i = D i ∧ T2 i = T i) ∧ isW M1 d (R3 d) ∧ 1 ≤ (R3 d).1))
def SpV2 (f T : Nat → Int) (s : Int) (d : Nat) (Rm : Int → zM → (Int → zM → Prop) → Prop) : Prop := ∀ (M : zM) (Q : Int → zM → Prop) (q : Int) (R Tm : Nat → SV) (D : Nat → Nat), BI M → M 1 = T → M 0 1 = s → (0 ≤ M 0 36 ∧ M 0 36 ≤ 60) → PK T s 2 d (M 0 36) q → NXr T s d q → (Tm d).1 = 0 → (R d).1 = 0 → D d = 0 → (∀ (z : Int) (M1 : zM), VT2 f s d q M R Tm D z M1 → Q z M1) → Rm (d : Int) M Q
theorem beg_some {l : Nat} {a b : Int} {R T R1 T1 : Nat → SV} {D D1 : Nat → Nat} (h : layC (l, a, R, T, D) = some (l, a, R1, T1, D1)) : begC (l, a, R, T, D) b = some (l, a, R1, uS T1 l (1, fun _ => b), D1) := by
  unfold begC
  rw [h]
  rfl
set_option maxHeartbeats 4000000 in
theorem vk_term {T f : Nat → Int} {s : Int} {d : Nat} {Rm : Int → zM → (Int → zM → Prop) → Prop} (hf : ∀ i : Nat, (i : Int) < s → f i = bU (T i)) (hd : d ≤ 5) (hR : d < 5 → SpV2 f T s (d + 1) Rm) : SpV1 f T s d (wR_makeTerm_F Rm) := by
  intro M Q q R Tm D R1 T1 D1 hB hT hs hp pk hL hQ
  obtain ⟨r, pk0, pk4⟩ := PK1.mp pk
  obtain ⟨-, -, hT0, hoth, -⟩ := lay_some hL
  unfold wR_makeTerm_F
  have sd : sI (d : Int) = d := sIo (by omega) (by omega)
  have dd : ((d : Int)).toNat = d := rfl
  have s24 : sI (24 * (d : Int)) = 24 * (d : Int) := sIo (by omega) (by omega)
  have t24 : (24 * (d : Int)).toNat = 24 * d := by omega
  have r0 : Rn f (d, 0, R, Tm, D) (M 0 36) (M 0 36) (d, 0, R, Tm, D) := Rn_0 hp.1
  refine sR_has hB (by omega) (by omega) (fun z2 c2 => ?_)
  obtain ⟨-, c2, -⟩ := c2
  rw [hT, hs] at c2
  refine ⟨fun e2 => ?_, fun e2 => ?_⟩
  · have n2 : ¬ HS T s (M 0 36) 48 57 := hno c2 (by omega)
    refine sR_has hB (by omega) (by omega) (fun z7 c7 => ?_)
    obtain ⟨-, c7, -⟩ := c7
    rw [hT, hs] at c7
    refine ⟨fun e7 => ?_, fun e7 => ?_⟩
    · have n7 : ¬ HS T s (M 0 36) 91 91 := hno c7 (by omega)
      have h3 : HS T s (M 0 36) 40 40 ∧ d ≠ 5 ∧ ∃ r2, PK T s 2 (d + 1) (M 0 36 + 1) r2 ∧ HS T s r2 41 41 ∧ r = r2 + 1 := by
        rcases PK0.mp pk0 with h | h | h
        · exact absurd h.1 n2
        · exact absurd h.2.1 n7
        · exact h.2.2
      obtain ⟨y12, hd5, r2, pk2, y41, er⟩ := h3
      have pl : M 0 36 < 60 := y12.1.2
      have ps : M 0 36 < s := y12.1.1
      have pl2 : r2 < 60 := y41.1.2
      have ps2 : r2 < s := y41.1.1
      have hr20 : M 0 36 + 1 ≤ r2 := by
        obtain ⟨nn, h⟩ := pk2
        exact PK_le _ _ _ _ _ h
      have e40 : f (M 0 36).toNat = 40 := by have := sgnf hf y12 hp.1 (by omega); have := y12.2; omega
      have e41 : f r2.toNat = 41 := by have := sgnf hf y41 (by omega) (by omega); have := y41.2; omega
      have eo : stepC (d, 0, R, Tm, D) (f (M 0 36).toNat) = some (d + 1, 0, uS R1 (d + 1) (0, (R1 (d + 1)).2), uS T1 (d + 1) (0, (T1 (d + 1)).2), uN D1 (d + 1) 0) := by
        rw [st_opn e40, hL]
        show some (opnC (d, 0, R1, T1, D1)) = _
        simp only [opnC]
        rw [if_pos (by omega)]
      have ro := Rn_s r0 eo
      intro M11 e11
      have p11 : M11 0 36 = M 0 36 + 1 := by rw [e11]; exact zup_s _ _ _ _
      have hB11 : BI M11 := by rw [e11]; exact BIp hB (by omega) (by omega)
      have F11 : FF2 (d + 1) M M11 := fun j9 k9 h9 => by rw [e11]; exact zup_n _ _ (by omega)
      rw [show ((d : Int) + 1) = ((d + 1 : Nat) : Int) from rfl]
      refine hR (by omega) M11 _ r2 (uS R1 (d + 1) (0, (R1 (d + 1)).2)) (uS T1 (d + 1) (0, (T1 (d + 1)).2)) (uN D1 (d + 1) 0) hB11 ((funext fun k => F11 1 k (by omega)).trans hT) ((F11 0 1 (by omega)).trans hs) (by omega) (by rw [p11]; exact pk2) (Or.inr y41) (by rw [uS_s]) (by rw [uS_s]) (uN_s _ _ _) (fun z14 M13 h14 => ?_)
      obtain ⟨hB13, F13, p13, zr, h14⟩ := h14
      have G13 : FF1 d M M13 := fun j9 k9 h9 => (F13 j9 k9 (by omega)).trans (F11 j9 k9 (by omega))
      refine ⟨fun e14 => ?_, fun e14 => hQ _ _ ⟨hB13, G13, p13, zr, Or.inl ⟨e14, ?_⟩⟩⟩
      · obtain ⟨q13, R2, T2, D2, R3, T3, D3, rn, hl3, hag, hw, hw1⟩ : M13 0 36 = r2 ∧ ∃ R2 T2 : Nat → SV, ∃ D2 : Nat → Nat, ∃ R3 T3 : Nat → SV, ∃ D3 : Nat → Nat, Rn f (d + 1, 0, uS R1 (d + 1) (0, (R1 (d + 1)).2), uS T1 (d + 1) (0, (T1 (d + 1)).2), uN D1 (d + 1) 0) (M11 0 36) r2 (d + 1, 0, R2, T2, D2) ∧ layC (d + 1, 0, R2, T2, D2) = some (d + 1, 0, R3, T3, D3) ∧ (∀ i : Nat, i < d + 1 → R2 i = uS R1 (d + 1) (0, (R1 (d + 1)).2) i ∧ D2 i = uN D1 (d + 1) 0 i ∧ T2 i = uS T1 (d + 1) (0, (T1 (d + 1)).2) i) ∧ isW M13 (d + 1) (R3 (d + 1)) ∧ 1 ≤ (R3 (d + 1)).1 := by
          rcases h14 with h14 | h14
          · omega
          · exact h14.2
        obtain ⟨-, -, -, hoth3, -⟩ := lay_some hl3
        rw [p11] at rn
        have rn2 := Rn_tr ro rn
        have ec : stepC (d + 1, 0, R2, T2, D2) (f r2.toNat) = some (d, 0, R3, uS T3 d (R3 (d + 1)), D3) := by
          rw [st_cls e41, hl3]
          show some (clsC (d + 1, 0, R3, T3, D3)) = _
          simp only [clsC]
          rw [if_pos (by omega), show d + 1 - 1 = d by omega]
        have rn3 := Rn_s rn2 ec
        rw [← er] at rn3
        have ag : ∀ i : Nat, i ≤ d → R3 i = R1 i ∧ D3 i = D1 i := fun i hi => by
          have a := hoth3 i (by omega)
          have b := hag i (by omega)
          exact ⟨a.1.trans (b.1.trans (uS_n _ _ (by omega))), a.2.2.trans (b.2.1.trans (uN_n _ _ (by omega)))⟩
        have ag2 : ∀ i : Nat, i < d → uS T3 d (R3 (d + 1)) i = T1 i := fun i hi => by
          have a := hoth3 i (by omega)
          have b := hag i (by omega)
          rw [uS_n _ _ (by omega)]
          exact a.2.1.trans (b.2.2.trans (uS_n _ _ (by omega)))
        intro M17 e17
        have p17 : M17 0 36 = r := by rw [e17, zup_s]; omega
        have hB17 : BI M17 := by rw [e17]; exact BIp hB13 (by omega) (by omega)
        have F17 : FF1 d M M17 := fun j9 k9 h9 => by rw [e17]; exact (zup_n _ _ (by omega)).trans (G13 j9 k9 h9)
        have s1 : sI ((d + 1 : Nat) : Int) = ((d + 1 : Nat) : Int) := sIo (by omega) (by omega)
        have d1 : (((d + 1 : Nat) : Int)).toNat = d + 1 := rfl
        rw [s1, sd, d1, dd]
        refine ⟨by omega, by omega, ?_⟩
        intro M21 e21
        have bz : 0 ≤ M17 24 (d + 1) ∧ M17 24 (d + 1) ≤ 24 := BN.at hB17.1 (rfl : zcd wR 24 = 74) rfl
        have w17 : M17 24 (d + 1) = ((R3 (d + 1)).1 : Int) := by rw [e17, zup_n _ _ (by omega)]; exact hw.1
        refine wL1_of (fun x P => BI P ∧ FF1 d M P ∧ P 0 36 = r ∧ P 26 d = ((R3 (d + 1)).1 : Int) ∧ (∀ k : Nat, P 23 k = M13 23 k) ∧ ∃ i : Nat, x = (i : Int) ∧ i ≤ (R3 (d + 1)).1 ∧ ∀ k : Nat, k < i → P 25 (24 * d + k) = (R3 (d + 1)).2 k) (fun x _ => (1000 - x).toNat) ⟨by rw [e21]; exact BI.up hB17 (rfl : zcd wR 26 = 76) rfl bz.1 bz.2 (by decide), fun j9 k9 h9 => by rw [e21]; exact (zup_n _ _ (by omega)).trans (F17 j9 k9 h9), by rw [e21, zup_n _ _ (by omega)]; exact p17, by rw [e21, zup_s]; exact w17, fun k => by rw [e21, zup_n _ _ (by omega), e17, zup_n _ _ (by omega)], 0, rfl, by omega, fun k hk => absurd hk (Nat.not_lt_zero k)⟩ (fun K2 x P hI2 hK2 => ?_)
        obtain ⟨hBP, FP, pP, nP, wP, i, rfl, i1, hv⟩ := hI2
        have sx : sI (i : Int) = i := sIo (by omega) (by omega)
        have bz2 : 0 ≤ P 26 d ∧ P 26 d ≤ 24 := BN.at hBP.1 (rfl : zcd wR 26 = 76) rfl
        have sz2 : sI (P 26 d) = P 26 d := sIo (by omega) (by omega)
        rw [sx, sz2]
        refine ⟨by omega, fun c => ?_, fun c => ?_⟩
        · have h := vt_tail hf hd hBP FP hT hs (by omega) (by rw [pP]; exact pk4) (by rw [pP]; exact rn3) (by rw [uS_s]; exact hw1) (by rw [uS_s]; exact ⟨nP, fun k hk => hv k (by omega)⟩) (fun z M1 h => hQ z M1 (VT1_cg h ag ag2))
          unfold wR_mtTail at h
          rw [sd, dd] at h
          exact h
        · have s5 : sI ((24 * (d : Int) + 24) + (i : Int)) = (24 * (d : Int) + 24) + (i : Int) := sIo (by omega) (by omega)
          have s6 : sI (24 * (d : Int) + (i : Int)) = 24 * (d : Int) + (i : Int) := sIo (by omega) (by omega)
          have t5 : ((24 * (d : Int) + 24) + (i : Int)).toNat = 24 * (d + 1) + i := by omega
          have t6 : (24 * (d : Int) + (i : Int)).toNat = 24 * d + i := by omega
          rw [s5, s6, t5, t6]
          refine ⟨by omega, by omega, ?_⟩
          intro M119 e119
          have br := BN.r32 hBP.1 23 (24 * (d + 1) + i)
          refine hK2 _ _ ⟨by rw [e119]; exact BI.up hBP (rfl : zcd wR 25 = 75) rfl br.1 br.2 (by decide), fun j9 k9 h9 => by rw [e119]; exact (zup_n _ _ (by omega)).trans (FP j9 k9 h9), by rw [e119, zup_n _ _ (by omega)]; exact pP, by rw [e119, zup_n _ _ (by omega)]; exact nP, fun k => by rw [e119, zup_n _ _ (by omega)]; exact wP k, i + 1, by omega, by omega, fun k hk => ?_⟩ (by omega)
          rw [e119]
          by_cases c5 : k = i
          · rw [c5, zup_s, wP]
            exact hw.2 i (by omega)
          · rw [zup_n _ _ (by omega)]
            exact hv k (by omega)
      · have h := h14.resolve_right (fun x => by omega)
        have h2 := h.2
        rw [p11] at h2
        exact Dd_r ro (by omega) h2
    · have y7 : HS T s (M 0 36) 91 91 := hyes c7 (by omega)
      have pl : M 0 36 < 60 := y7.1.2
      have e91 : f (M 0 36).toNat = 91 := by have := sgnf hf y7 hp.1 (by omega); have := y7.2; omega
      have pk3 : PK T s 3 d (M 0 36 + 1) r := by
        rcases PK0.mp pk0 with h | h | h
        · exact absurd h.1 n2
        · exact h.2.2.2
        · exact absurd y7 h.2.1
      have eb : stepC (d, 0, R, Tm, D) (f (M 0 36).toNat) = some (d, 91, R1, uS T1 d (1, fun _ => 0), D1) := by
        rw [st_brk e91]
        exact beg_some (lay_a hL)
      have rb := Rn_s r0 eb
      intro M123 e123
      have p123 : M123 0 36 = M 0 36 + 1 := by rw [e123]; exact zup_s _ _ _ _
      refine wL1_of (fun x P => BI P ∧ FF1 d M P ∧ (0 ≤ P 0 36 ∧ P 0 36 ≤ 60) ∧ R32 x ∧ PK T s 3 d (P 0 36) r ∧ ∃ Tn : Nat → SV, Rn f (d, 0, R, Tm, D) (M 0 36) (P 0 36) (d, 91, R1, Tn, D1) ∧ (∀ i : Nat, i ≠ d → Tn i = T1 i) ∧ (Tn d).1 = 1 ∧ (Tn d).2 0 = x) (fun _ P => (100 - P 0 36).toNat) ⟨by rw [e123]; exact BIp hB (by omega) (by omega), fun j9 k9 h9 => by rw [e123]; exact zup_n _ _ (by omega), by omega, ⟨by omega, by omega⟩, by rw [p123]; exact pk3, _, by rw [p123]; exact rb, fun i hi => uS_n _ _ hi, by rw [uS_s], by rw [uS_s]⟩ (fun K2 x P hI2 hK2 => ?_)
      obtain ⟨hBP, FP, pP, rx, pkP, Tn, rn, hTn, hT1, hTx⟩ := hI2
      have TP : P 1 = T := (funext fun k => FP 1 k (by omega)).trans hT
      have SP : P 0 1 = s := (FP 0 1 (by omega)).trans hs
      have sp36 : sI (P 0 36) = P 0 36 := sIo (by omega) (by omega)
      refine sR_has hBP (by omega) (by omega) (fun z135 c135 => ?_)
      obtain ⟨-, c135, -⟩ := c135
      rw [TP, SP] at c135
      rw [sd, dd, sp36, s24, t24]
      refine ⟨fun e135 => ?_, fun e135 => ?_⟩
      · have n135 : ¬ HS T s (P 0 36) 49 57 := hno c135 (by omega)
        have h5 : HS T s (P 0 36) 93 93 ∧ r = P 0 36 + 1 := by
          rcases PK3.mp pkP with h | h
          · exact absurd h.1 n135
          · exact h.2
        have pl3 : P 0 36 < 60 := h5.1.1.2
        have e93 : f (P 0 36).toNat = 93 := by have := sgnf hf h5.1 pP.1 (by omega); have := h5.1.2; omega
        have rn2 := Rn_s rn (sn_end e93)
        rw [← h5.2] at rn2
        intro M139 e139
        have hB139 : BI M139 := by rw [e139]; exact BIp hBP (by omega) (by omega)
        refine ⟨by omega, ?_⟩
        intro M142 e142
        have hB142 : BI M142 := by rw [e142]; exact BI.up hB139 (rfl : zcd wR 25 = 75) rfl rx.1 rx.2 (by decide)
        refine ⟨by omega, ?_⟩
        intro M145 e145
        have p145 : M145 0 36 = r := by rw [e145, zup_n _ _ (by omega), e142, zup_n _ _ (by omega), e139, zup_s]; omega
        have h := vt_tail (M := M145) hf hd (by rw [e145]; exact BI.up hB142 (rfl : zcd wR 26 = 76) rfl (by omega) (by omega) (by decide)) (fun j9 k9 h9 => by rw [e145, e142, e139]; exact (zup_n _ _ (by omega)).trans ((zup_n _ _ (by omega)).trans ((zup_n _ _ (by omega)).trans (FP j9 k9 h9)))) hT hs (by omega) (by rw [p145]; exact pk4) (by rw [p145]; exact rn2) (by omega) ⟨by rw [e145, zup_s, hT1]; rfl, fun k hk => by rw [show k = 0 by omega, hTx, e145, zup_n _ _ (by omega), e142, Nat.add_zero, zup_s]⟩ (fun z M1 h => hQ z M1 (VT1_cg h (fun _ _ => ⟨rfl, rfl⟩) (fun i hi => hTn i (by omega))))
        unfold wR_mtTail at h
        rw [sd, dd] at h
        exact h
      · have y135 : HS T s (P 0 36) 49 57 := hyes c135 (by omega)
        have pl3 : P 0 36 < 60 := y135.1.2
        have fv : f (P 0 36).toNat = T (P 0 36).toNat := sgnf hf y135 pP.1 (by omega)
        have hv := y135.2
        have si := st_in (l := d) (R := R1) (T := Tn) (D := D1) (v := f (P 0 36).toNat) (by omega)
        have rn2 := Rn_s rn si
        refine ⟨by omega, ?_⟩
        intro t231 e231 M233 e233
        have p233 : M233 0 36 = P 0 36 + 1 := by rw [e233]; exact zup_s _ _ _ _
        refine hK2 _ _ ⟨by rw [e233]; exact BIp hBP (by omega) (by omega), fun j9 k9 h9 => by rw [e233]; exact (zup_n _ _ (by omega)).trans (FP j9 k9 h9), by omega, by rw [e231]; exact orI_R _ _, ?_, _, by rw [p233]; exact rn2, fun i hi => (uS_n _ _ hi).trans (hTn i hi), by rw [uS_s]; exact hT1, ?_⟩ (by omega)
        · rw [p233]
          rcases PK3.mp pkP with h | h
          · exact h.2
          · exact absurd y135 h.1
        · rw [uS_s]
          show (if (0 : Nat) = 0 then orI ((Tn d).2 0) (shlI 1 ((f (P 0 36).toNat - 48).toNat : Int)) else (Tn d).2 0) = t231
          rw [if_pos rfl, hTx, e231, fv, TP, show (((T (P 0 36).toNat - 48).toNat : Nat) : Int) = T (P 0 36).toNat - 48 by omega]
  · have y2 : HS T s (M 0 36) 48 57 := hyes c2 (by omega)
    have pl : M 0 36 < 60 := y2.1.2
    have er : r = M 0 36 + 1 := by
      rcases PK0.mp pk0 with h | h | h
      · exact h.2
      · exact absurd y2 h.1
      · exact absurd y2 h.1
    have fv : f (M 0 36).toNat = T (M 0 36).toNat := sgnf hf y2 hp.1 (by omega)
    have hv := y2.2
    have ed := st_dig (l := d) (R := R) (T := Tm) (D := D) (v := f (M 0 36).toNat) (by omega)
    rw [beg_some hL] at ed
    have rn2 := Rn_s r0 ed
    rw [← er] at rn2
    have s36 : sI (M 0 36) = M 0 36 := sIo (by omega) (by omega)
    have bt : -128 ≤ M 1 (M 0 36).toNat ∧ M 1 (M 0 36).toNat ≤ 127 := BN.at hB.1 (rfl : zcd wR 1 = 51) rfl
    have st : sI (M 1 (M 0 36).toNat) = M 1 (M 0 36).toNat := sIo (by omega) (by omega)
    rw [sd, dd, s36, s24, t24, st, hT]
    refine ⟨by omega, ?_⟩
    refine pJ1_of (fun x => R32 x ∧ x = (if (f (M 0 36).toNat - 48).toNat = 0 then 0 else shlI 1 ((f (M 0 36).toNat - 48).toNat : Int))) (fun x rx => ?_) ⟨fun c => ⟨by omega, shlI_R _ _, ?_⟩, fun c => ⟨⟨by omega, by omega⟩, ?_⟩⟩
    · refine ⟨by omega, ?_⟩
      intro M244 e244
      have hB244 : BI M244 := by rw [e244]; exact BI.up hB (rfl : zcd wR 25 = 75) rfl rx.1.1 rx.1.2 (by decide)
      refine ⟨by omega, ?_⟩
      intro M247 e247
      have hB247 : BI M247 := by rw [e247]; exact BI.up hB244 (rfl : zcd wR 26 = 76) rfl (by omega) (by omega) (by decide)
      have p247 : M247 0 36 = M 0 36 := by rw [e247, zup_n _ _ (by omega), e244, zup_n _ _ (by omega)]
      intro M249 e249
      have p249 : M249 0 36 = r := by rw [e249, zup_s]; omega
      have h := vt_tail (M := M249) hf hd (by rw [e249]; exact BIp hB247 (by omega) (by omega)) (fun j9 k9 h9 => by rw [e249, e247, e244]; exact (zup_n _ _ (by omega)).trans ((zup_n _ _ (by omega)).trans (zup_n _ _ (by omega)))) hT hs (by omega) (by rw [p249]; exact pk4) (by rw [p249]; exact rn2) (by rw [uS_s]; exact Nat.le_refl 1) (by rw [uS_s]; exact ⟨by rw [e249, zup_n _ _ (by omega), e247, zup_s]; rfl, fun k hk => by have hk : k < 1 := hk; rw [show k = 0 by omega, e249, zup_n _ _ (by omega), e247, zup_n _ _ (by omega), e244, Nat.add_zero, zup_s]; exact rx.2⟩) (fun z M1 h => hQ z M1 (VT1_cg h (fun _ _ => ⟨rfl, rfl⟩) (fun i hi => uS_n _ _ (by omega))))
      unfold wR_mtTail at h
      rw [sd, dd] at h
      exact h
    · rw [if_neg (by omega), fv, show (((T (M 0 36).toNat - 48).toNat : Nat) : Int) = T (M 0 36).toNat - 48 by omega]
    · rw [if_pos (by omega)]
/-- what follows a term lays it down -/
theorem Dd_lay {f T : Nat → Int} {s p : Int} {d : Nat} {cs : CSt} {p0 : Int} {R Tm : Nat → SV} {D : Nat → Nat} (hf : ∀ i : Nat, (i : Int) < s → f i = bU (T i)) (hr : Rn f cs p0 p (d, 0, R, Tm, D)) (hn : p = s ∨ HS T s p 47 47 ∨ AT T s p ∨ HS T s p 41 41) (hl : ∀ a : Int, layC (d, a, R, Tm, D) = none) : Dd f s cs p0 := by
  have h0 : 0 ≤ p := by have := hr.1; have := hr.2.1; omega
  rcases hn with h | h | h | h
  · subst h
    refine Dd_r hr (Int.le_refl _) ?_
    unfold Dd
    rw [show (p - p).toNat = 0 by omega]
    exact hl 0
  · refine Dd_s hr h.1.1 ?_
    rw [st_sl (by have := sgnf hf h h0 (by omega); have := h.2; omega)]
    exact hl 47
  · unfold AT at h
    rcases h with h | h | h
    · refine Dd_s hr h.1.1 ?_
      rw [st_dig (by have := sgnf hf h h0 (by omega); have := h.2; omega)]
      unfold begC
      rw [hl 0]
      rfl
    · refine Dd_s hr h.1.1 ?_
      rw [st_brk (by have := sgnf hf h h0 (by omega); have := h.2; omega)]
      unfold begC
      rw [hl 91]
      rfl
    · refine Dd_s hr h.1.1 ?_
      rw [st_opn (by have := sgnf hf h h0 (by omega); have := h.2; omega), hl 0]
      rfl
  · refine Dd_s hr h.1.1 ?_
    rw [st_cls (by have := sgnf hf h h0 (by omega); have := h.2; omega), hl 0]
    rfl
theorem PK5_nx {T : Nat → Int} {s : Int} {d : Nat} {r q : Int} (h : PK T s 5 d r q) (hq : NXr T s d q) : r = s ∨ HS T s r 47 47 ∨ AT T s r ∨ HS T s r 41 41 := by
  rcases PK5.mp h with h | h | h
  · exact Or.inr (Or.inl h.1)
  · exact Or.inr (Or.inr (Or.inl h.2.1))
  · rw [← h.2.2]
    rcases hq with ⟨h, -⟩ | h
    · exact Or.inl h
    · exact Or.inr (Or.inr (Or.inr h))
end zz47j_rows
section zz47k_row
/-! the model puts together what the class's machine does: the whole -/
theorem orI_0 {x : Int} (h : -2147483648 ≤ x ∧ x ≤ 2147483647) : orI x 0 = x := by
  have e : iI 0 = (0 : Int32) := by decide
  unfold orI
  rw [e, Int32.or_zero]
  exact iI_t h
theorem PK1_s {T : Nat → Int} {s : Int} {d : Nat} {p q : Int} (h : PK T s 1 d p q) : p < s := by
  obtain ⟨r, x, y⟩ := PK1.mp h
  rcases PK0.mp x with h | h | h
  · exact h.1.1.1
  · exact h.2.1.1.1
  · exact h.2.2.1.1.1
set_option maxHeartbeats 8000000 in
theorem vr_tail {T f : Nat → Int} {s : Int} {d : Nat} {Rm : Int → zM → (Int → zM → Prop) → Prop} {M0 M : zM} {Q : Int → zM → Prop} {q : Int} {R0 T0 : Nat → SV} {D0 : Nat → Nat} (hf : ∀ i : Nat, (i : Int) < s → f i = bU (T i)) (hd : d ≤ 5) (hR : SpV1 f T s d Rm) (hB : BI M) (hF : FF2 d M0 M) (hT : M0 1 = T) (hs : M0 0 1 = s) (hp : 0 ≤ M 0 36 ∧ M 0 36 ≤ 60) (pk : PK T s 5 d (M 0 36) q) (hq : NXr T s d q)
    (hcs : ∃ R Tm : Nat → SV, ∃ D : Nat → Nat, ∃ R3 T3 : Nat → SV, ∃ D3 : Nat → Nat, Rn f (d, 0, R0, T0, D0) (M0 0 36) (M 0 36) (d, 0, R, Tm, D) ∧ 1 ≤ (Tm d).1 ∧ layC (d, 0, R, Tm, D) = some (d, 0, R3, T3, D3) ∧ (∀ i : Nat, i < d → R i = R0 i ∧ D i = D0 i ∧ Tm i = T0 i) ∧ isW M d (R3 d) ∧ 1 ≤ (R3 d).1)
    (hQ : ∀ (z : Int) (M1 : zM), VT2 f s d q M0 R0 T0 D0 z M1 → Q z M1) : wR_mrTail Rm (d : Int) Q M := by
  unfold wR_mrTail
  refine wL0_of (fun N => BI N ∧ FF2 d M0 N ∧ (0 ≤ N 0 36 ∧ N 0 36 ≤ 60) ∧ PK T s 5 d (N 0 36) q ∧ ∃ R Tm : Nat → SV, ∃ D : Nat → Nat, ∃ R3 T3 : Nat → SV, ∃ D3 : Nat → Nat, Rn f (d, 0, R0, T0, D0) (M0 0 36) (N 0 36) (d, 0, R, Tm, D) ∧ 1 ≤ (Tm d).1 ∧ layC (d, 0, R, Tm, D) = some (d, 0, R3, T3, D3) ∧ (∀ i : Nat, i < d → R i = R0 i ∧ D i = D0 i ∧ Tm i = T0 i) ∧ isW N d (R3 d) ∧ 1 ≤ (R3 d).1) (fun N => (100 - N 0 36).toNat) ⟨hB, hF, hp, pk, hcs⟩ (fun K N hI hK => ?_)
  obtain ⟨hBN, FN, pN, pkN, R, Tm, D, R3, T3, D3, rn, h1, hL, ag, hw, hw1⟩ := hI
  obtain ⟨-, -, hT30, hoth, hlay⟩ := lay_some hL
  have ag3 : ∀ i : Nat, i < d → R3 i = R0 i ∧ D3 i = D0 i ∧ T3 i = T0 i := fun i hi => by
    have a := hoth i (by omega)
    have b := ag i hi
    exact ⟨a.1.trans b.1, a.2.2.trans b.2.1, a.2.1.trans b.2.2⟩
  have TN : N 1 = T := (funext fun k => FN 1 k (by omega)).trans hT
  have SN : N 0 1 = s := (FN 0 1 (by omega)).trans hs
  have sd : sI (d : Int) = d := sIo (by omega) (by omega)
  have dd : ((d : Int)).toNat = d := rfl
  rw [sd, dd]
  clear dd
  refine sR_has hBN (by omega) (by omega) (fun z29 c29 => ?_)
  obtain ⟨-, c29, -⟩ := c29
  rw [TN, SN] at c29
  refine pJ0_of (HS T s (N 0 36) 47 47 ∨ AT T s (N 0 36)) (fun hJ => ?_) ⟨fun e29 => Or.inl (hyes c29 (by omega)), fun e29 => ?_⟩
  · refine sR_has hBN (by omega) (by omega) (fun z51 c51 => ?_)
    obtain ⟨-, c51, -⟩ := c51
    rw [TN, SN] at c51
    refine wJ1_of (fun x P => (0 ≤ x ∧ x ≤ 9) ∧ BI P ∧ FF2 d M0 P ∧ (N 0 36 ≤ P 0 36 ∧ P 0 36 ≤ 60) ∧ (∃ r, PK T s 1 d (P 0 36) r ∧ PK T s 5 d r q) ∧ ∃ RA TA : Nat → SV, ∃ DA : Nat → Nat, ∃ RB TB : Nat → SV, ∃ DB : Nat → Nat, layC (d, 0, RA, TA, DA) = some (d, 0, RB, TB, DB) ∧ isW P d (RB d) ∧ ((Rn f (d, 0, R0, T0, D0) (M0 0 36) (P 0 36) (d, 0, RA, TA, DA) ∧ (∀ i : Nat, i < d → RB i = R0 i ∧ DB i = D0 i ∧ TB i = T0 i) ∧ DB d = x.toNat ∧ x.toNat ≤ (RB d).1) ∨ ((RB d).1 < x.toNat ∧ Dd f s (d, 0, R0, T0, D0) (M0 0 36)))) (fun x P hI2 => ?_) ⟨fun e51 => ?_, fun e51 => ?_⟩
    · obtain ⟨ix, hBP, FP, pP, ⟨r, pk1, pk5⟩, RA, TA, DA, RB, TB, DB, hLB, hwP, hcas⟩ := hI2
      have hcase := fun _ : Nat => hcas
      clear hcas c29 c51 hJ
      have lt := PK_lt pk1
      have ps := PK1_s pk1
      have rs : r ≤ s := by
        obtain ⟨nn, h⟩ := pk1
        exact (PK_hi _ _ _ _ _ h (by omega) (by omega)).1
      have sx : sI x = x := sIo (by omega) (by omega)
      refine hR P _ r RA TA DA RB TB DB hBP ((funext fun k => FP 1 k (by omega)).trans hT) ((FP 0 1 (by omega)).trans hs) (by omega) pk1 hLB (fun z65 M64 h65 => ?_)
      obtain ⟨hB64, F64, p64, zr, h64⟩ := h65
      have h65 := fun _ : Nat => h64
      clear h64
      have G64 : FF2 d M0 M64 := fun j9 k9 h9 => (F64 j9 k9 (by omega)).trans (FP j9 k9 h9)
      have dead : z65 < 0 → Dd f s (d, 0, R0, T0, D0) (M0 0 36) := fun hz => by
        rcases hcase 0 with ⟨ra, -⟩ | ⟨-, hd9⟩
        · exact Dd_r ra (by omega) ((h65 0).resolve_right (fun x => by omega)).2
        · exact hd9
      refine ⟨fun e65 => ?_, fun e65 => hQ _ _ ⟨hB64, G64, p64, zr, Or.inl ⟨e65, dead e65⟩⟩⟩
      obtain ⟨q64, R2, T2, D2, rn2, ag2, agT, hT2, ht⟩ := ((h65 0).resolve_left (fun x => by omega)).2
      have w24 : M64 24 d = ((RB d).1 : Int) := (F64 24 d (by omega)).trans hwP.1
      have w23 : ∀ k : Nat, k < (RB d).1 → M64 23 (24 * d + k) = (RB d).2 k := fun k hk => by
        have b : 0 ≤ P 24 d ∧ P 24 d ≤ 24 := BN.at hBP.1 (rfl : zcd wR 24 = 74) rfl
        have e := hwP.1
        rw [F64 23 (24 * d + k) (by omega)]
        exact hwP.2 k hk
      have b24 : 0 ≤ M64 24 d ∧ M64 24 d ≤ 24 := BN.at hB64.1 (rfl : zcd wR 24 = 74) rfl
      have b26 : 0 ≤ M64 26 d ∧ M64 26 d ≤ 24 := BN.at hB64.1 (rfl : zcd wR 26 = 76) rfl
      have w26 : M64 26 d = ((T2 d).1 : Int) := ht.1
      have s24 : sI (M64 24 d) = M64 24 d := sIo (by omega) (by omega)
      have s26 : sI (M64 26 d) = M64 26 d := sIo (by omega) (by omega)
      have s50 : sI ((M64 24 d - x) + M64 26 d) = (M64 24 d - x) + M64 26 d := sIo (by omega) (by omega)
      rw [sx, s24, s26, s50]
      have eR : R2 d = RB d := (ag2 d (Nat.le_refl _)).1
      have eD : D2 d = DB d := (ag2 d (Nat.le_refl _)).2
      have nx := PK5_nx pk5 hq
      refine ⟨by omega, fun c => hQ _ _ ⟨hB64, G64, p64, by omega, Or.inl ⟨by omega, ?_⟩⟩, fun c => ⟨by omega, fun c2 => ⟨by omega, by omega, fun c3 => ?_, fun c3 => hQ _ _ ⟨hB64, G64, p64, by omega, Or.inl ⟨by omega, ?_⟩⟩⟩, fun c2 => hQ _ _ ⟨hB64, G64, p64, by omega, Or.inl ⟨by omega, ?_⟩⟩⟩⟩
      · rcases hcase 0 with ⟨-, -, -, hx⟩ | ⟨-, hd9⟩
        · omega
        · exact hd9
      · obtain ⟨ra, agB, hDx, hx⟩ := (hcase 0).resolve_right (fun x => by have := x.1; omega)
        have ra2 := Rn_tr ra rn2
        have ly := lay_yes (l := d) (a := 0) (R := R2) (T := T2) (D := D2) (by omega) (by rw [eD]; omega) (by rw [eR, eD]; omega)
        refine wL1_of (fun y P2 => BI P2 ∧ (∀ j9 k9 : Nat, ¬ (j9 = 23 ∧ 24 * d ≤ k9) → P2 j9 k9 = M64 j9 k9) ∧ ∃ i : Nat, y = (i : Int) ∧ i ≤ (T2 d).1 ∧ ∀ k : Nat, P2 23 (24 * d + k) = if (RB d).1 - x.toNat ≤ k ∧ k < (RB d).1 - x.toNat + i then orI ((T2 d).2 (k - ((RB d).1 - x.toNat))) (if k < (RB d).1 then (RB d).2 k else 0) else M64 23 (24 * d + k)) (fun y _ => (1000 - y).toNat) ⟨hB64, fun _ _ _ => rfl, 0, rfl, by omega, fun k => by rw [if_neg (by omega)]⟩ (fun K2 y P2 hI3 hK2 => ?_)
        obtain ⟨hB2, F2, i, rfl, i1, hv⟩ := hI3
        have sy : sI (i : Int) = i := sIo (by omega) (by omega)
        have e26 : P2 26 d = M64 26 d := F2 26 d (by omega)
        rw [sy, e26, s26]
        refine ⟨by omega, fun c4 => ⟨by omega, by omega, ?_⟩, fun c4 => ?_⟩
        · intro M88 e88
          have p88 : M88 0 36 = r := by rw [e88, zup_n _ _ (by omega), F2 0 36 (by omega)]; exact q64
          refine hK _ ⟨by rw [e88]; exact BI.up hB2 (rfl : zcd wR 24 = 74) rfl (by omega) (by omega) (by decide), fun j9 k9 h9 => by rw [e88]; exact (zup_n _ _ (by omega)).trans ((F2 j9 k9 (by omega)).trans (G64 j9 k9 h9)), by omega, by rw [p88]; exact pk5, R2, T2, D2, _, _, _, by rw [p88]; exact ra2, hT2, ly, fun i hi => ?_, ?_, ?_⟩ (by omega)
          · have a := ag2 i (by omega)
            have b := agB i hi
            exact ⟨a.1.trans b.1, a.2.trans b.2.1, (agT i hi).trans b.2.2⟩
          · rw [uS_s]
            refine ⟨?_, fun k hk => ?_⟩
            · show M88 24 d = (((R2 d).1 + (T2 d).1 - D2 d : Nat) : Int)
              rw [e88, zup_s, eR, eD]
              omega
            · have hk : k < (R2 d).1 + (T2 d).1 - D2 d := hk
              show M88 23 (24 * d + k) = if k < (R2 d).1 - D2 d then (R2 d).2 k else orI ((T2 d).2 (k - ((R2 d).1 - D2 d))) (if k < (R2 d).1 then (R2 d).2 k else 0)
              rw [eR, eD] at hk ⊢
              rw [hDx] at hk ⊢
              rw [e88, zup_n _ _ (by omega), hv]
              by_cases c6 : k < (RB d).1 - x.toNat
              · rw [if_neg (by omega), if_pos c6]
                exact w23 k (by omega)
              · rw [if_pos (by omega), if_neg c6]
          · rw [uS_s]
            show 1 ≤ (R2 d).1 + (T2 d).1 - D2 d
            rw [eR, eD]
            omega
        · intro t92 e92
          have s6 : sI (24 * (d : Int) + (i : Int)) = 24 * (d : Int) + (i : Int) := sIo (by omega) (by omega)
          have s7 : sI t92 = t92 := sIo (by omega) (by omega)
          have t6 : ∀ _ : Nat, (24 * (d : Int) + (i : Int)).toNat = 24 * d + i := fun _ => by omega
          have t7 : ∀ _ : Nat, t92.toNat = 24 * d + ((RB d).1 - x.toNat + i) := fun _ => by omega
          have g25 : P2 25 (24 * d + i) = (T2 d).2 i := by rw [F2 25 _ (by omega)]; exact ht.2 i (by omega)
          rw [s6, s7, t6 0, t7 0]
          have o1 := orI_R (P2 25 (24 * d + i)) 0
          have o2 := orI_R (P2 25 (24 * d + i)) (P2 23 (24 * d + ((RB d).1 - x.toNat + i)))
          refine ⟨by omega, fun c5 => ⟨by omega, ?_⟩, fun c5 => ⟨by omega, by omega, ?_⟩⟩
          · intro M97 e97
            refine hK2 _ _ ⟨by rw [e97]; exact BI.up hB2 (rfl : zcd wR 23 = 73) rfl o1.1 o1.2 (by decide), fun j9 k9 h9 => by rw [e97]; exact (zup_n _ _ (by omega)).trans (F2 j9 k9 h9), i + 1, by omega, by omega, fun k => ?_⟩ (by omega)
            rw [e97]
            by_cases c6 : k = (RB d).1 - x.toNat + i
            · rw [c6, zup_s, if_pos (by omega), if_neg (by omega), g25, show (RB d).1 - x.toNat + i - ((RB d).1 - x.toNat) = i by omega]
            · rw [zup_n _ _ (by omega), hv]
              by_cases c7 : (RB d).1 - x.toNat ≤ k ∧ k < (RB d).1 - x.toNat + i
              · rw [if_pos c7, if_pos (show (RB d).1 - x.toNat ≤ k ∧ k < (RB d).1 - x.toNat + (i + 1) by omega)]
              · rw [if_neg c7, if_neg (show ¬ ((RB d).1 - x.toNat ≤ k ∧ k < (RB d).1 - x.toNat + (i + 1)) by omega)]
          · intro M103 e103
            refine hK2 _ _ ⟨by rw [e103]; exact BI.up hB2 (rfl : zcd wR 23 = 73) rfl o2.1 o2.2 (by decide), fun j9 k9 h9 => by rw [e103]; exact (zup_n _ _ (by omega)).trans (F2 j9 k9 h9), i + 1, by omega, by omega, fun k => ?_⟩ (by omega)
            rw [e103]
            by_cases c6 : k = (RB d).1 - x.toNat + i
            · rw [c6, zup_s, if_pos (by omega), if_pos (by omega), g25, hv, if_neg (by omega), w23 _ (by omega), show (RB d).1 - x.toNat + i - ((RB d).1 - x.toNat) = i by omega]
            · rw [zup_n _ _ (by omega), hv]
              by_cases c7 : (RB d).1 - x.toNat ≤ k ∧ k < (RB d).1 - x.toNat + i
              · rw [if_pos c7, if_pos (show (RB d).1 - x.toNat ≤ k ∧ k < (RB d).1 - x.toNat + (i + 1) by omega)]
              · rw [if_neg c7, if_neg (show ¬ ((RB d).1 - x.toNat ≤ k ∧ k < (RB d).1 - x.toNat + (i + 1)) by omega)]
      · obtain ⟨ra, agB, hDx, hx⟩ := (hcase 0).resolve_right (fun x => by have := x.1; omega)
        exact Dd_lay hf (Rn_tr ra rn2) nx (fun a => lay_no (by omega) (Or.inr (by rw [eR, eD]; omega)))
      · obtain ⟨ra, agB, hDx, hx⟩ := (hcase 0).resolve_right (fun x => by have := x.1; omega)
        exact Dd_lay hf (Rn_tr ra rn2) nx (fun a => lay_no (by omega) (Or.inl (by rw [eD]; omega)))
    · have n51 : ¬ HS T s (N 0 36) 47 47 := hno c51 (by omega)
      refine ⟨by omega, hBN, FN, by omega, ?_, R, Tm, D, R3, T3, D3, hL, hw, Or.inl ⟨rn, ag3, ?_, Nat.zero_le _⟩⟩
      · rcases PK5.mp pkN with h | h | h
        · exact absurd h.1 n51
        · exact h.2.2
        · rcases hJ with h2 | h2
          · exact absurd h2 n51
          · exact absurd h2 h.2.1
      · rcases hlay with h | h
        · have := h.1
          omega
        · exact h.2.2.2.2
    · have y51 : HS T s (N 0 36) 47 47 := hyes c51 (by omega)
      have h4 : HS T s (N 0 36 + 1) 49 57 ∧ ∃ r, PK T s 1 d (N 0 36 + 2) r ∧ PK T s 5 d r q := by
        rcases PK5.mp pkN with h | h | h
        · exact h.2
        · exact absurd y51 h.1
        · exact absurd y51 h.1
      have pl : N 0 36 + 1 < 60 := h4.1.1.2
      have ps : N 0 36 + 1 < s := h4.1.1.1
      have hv := h4.1.2
      have e47 : f (N 0 36).toNat = 47 := by have := sgnf hf y51 pN.1 (by omega); have := y51.2; omega
      have f2 : f (N 0 36 + 1).toNat = T (N 0 36 + 1).toNat := sgnf hf h4.1 (by omega) (by omega)
      have es : stepC (d, 0, R, Tm, D) (f (N 0 36).toNat) = some (d, 47, R3, T3, D3) := by
        rw [st_sl e47]
        exact lay_a hL
      have rs := Rn_s rn es
      have sh := st_shr (l := d) (R := R3) (T := T3) (D := D3) (v := f (N 0 36 + 1).toNat) (by omega)
      rw [← TN] at hv
      have s3 : sI (N 0 36 + 1) = N 0 36 + 1 := sIo (by omega) (by omega)
      rw [s3]
      refine ⟨by omega, ?_⟩
      intro t109 e109 M111 e111
      have p111 : M111 0 36 = N 0 36 + 2 := by rw [e111]; exact zup_s _ _ _ _
      have ev : (f (N 0 36 + 1).toNat - 48).toNat = t109.toNat := by rw [f2, e109, TN]
      rw [ev] at sh
      refine ⟨by omega, by rw [e111]; exact BIp hBN (by omega) (by omega), fun j9 k9 h9 => by rw [e111]; exact (zup_n _ _ (by omega)).trans (FN j9 k9 h9), by omega, by rw [p111]; exact h4.2, R3, T3, uN D3 d t109.toNat, R3, T3, uN D3 d t109.toNat, lay_0 hT30, ⟨by rw [e111, zup_n _ _ (by omega)]; exact hw.1, fun k hk => by rw [e111, zup_n _ _ (by omega)]; exact hw.2 k hk⟩, ?_⟩
      by_cases c7 : (R3 d).1 < t109.toNat
      · rw [if_pos c7] at sh
        exact Or.inr ⟨c7, Dd_s rs ps sh⟩
      · rw [if_neg c7] at sh
        have rs2 := Rn_s rs sh
        rw [show N 0 36 + 1 + 1 = N 0 36 + 2 by omega] at rs2
        exact Or.inl ⟨by rw [p111]; exact rs2, fun i hi => ⟨(ag3 i hi).1, (uN_n _ _ (by omega)).trans (ag3 i hi).2.1, (ag3 i hi).2.2⟩, uN_s _ _ _, by omega⟩
  · have n29 : ¬ HS T s (N 0 36) 47 47 := hno c29 (by omega)
    refine sR_has hBN (by omega) (by omega) (fun z115 c115 => ?_)
    obtain ⟨-, c115, -⟩ := c115
    rw [TN, SN] at c115
    refine ⟨fun e => Or.inr (Or.inl (hyes c115 (by omega))), fun e115 => ?_⟩
    have n115 : ¬ HS T s (N 0 36) 48 57 := hno c115 (by omega)
    refine sR_has hBN (by omega) (by omega) (fun z120 c120 => ?_)
    obtain ⟨-, c120, -⟩ := c120
    rw [TN, SN] at c120
    refine ⟨fun e => Or.inr (Or.inr (Or.inl (hyes c120 (by omega)))), fun e120 => ?_⟩
    have n120 : ¬ HS T s (N 0 36) 91 91 := hno c120 (by omega)
    refine sR_has hBN (by omega) (by omega) (fun z125 c125 => ?_)
    obtain ⟨-, c125, -⟩ := c125
    rw [TN, SN] at c125
    refine ⟨fun e125 => ?_, fun e => Or.inr (Or.inr (Or.inr (hyes c125 (by omega))))⟩
    have n125 : ¬ HS T s (N 0 36) 40 40 := hno c125 (by omega)
    have eq : N 0 36 = q := by
      rcases PK5.mp pkN with h | h | h
      · exact absurd h.1 n29
      · rcases h.2.1 with h | h | h
        · exact absurd h n115
        · exact absurd h n120
        · exact absurd h n125
      · exact h.2.2.symm
    rw [eq] at rn
    exact hQ _ _ ⟨hBN, FN, pN, by omega, Or.inr ⟨rfl, eq, R, Tm, D, R3, T3, D3, rn, hL, ag, hw, hw1⟩⟩
set_option maxHeartbeats 4000000 in
theorem vk_row {T f : Nat → Int} {s : Int} {d : Nat} {Rm : Int → zM → (Int → zM → Prop) → Prop} (hf : ∀ i : Nat, (i : Int) < s → f i = bU (T i)) (hd : d ≤ 5) (hR : SpV1 f T s d Rm) : SpV2 f T s d (wR_makeRow_F Rm) := by
  intro M Q q R Tm D hB hT hs hp pk hq hT0 hR0 hD0 hQ
  obtain ⟨r, pk1, pk5⟩ := PK2.mp pk
  unfold wR_makeRow_F
  have sd : sI (d : Int) = d := sIo (by omega) (by omega)
  have dd : ((d : Int)).toNat = d := rfl
  refine hR M _ r R Tm D R Tm D hB hT hs hp pk1 (lay_0 hT0) (fun z2 M1 h2 => ?_)
  obtain ⟨hB1, F1, p1, zr, h2⟩ := h2
  have G1 : FF2 d M M1 := fun j9 k9 h9 => F1 j9 k9 (by omega)
  refine ⟨fun e2 => ?_, fun e2 => hQ _ _ ⟨hB1, G1, p1, zr, Or.inl ⟨e2, (h2.resolve_right (fun x => by omega)).2⟩⟩⟩
  obtain ⟨q1, R2, T2, D2, rn2, ag2, agT, hT2, ht⟩ := (h2.resolve_left (fun x => by omega)).2
  have eR : (R2 d).1 = 0 := by rw [(ag2 d (Nat.le_refl _)).1]; exact hR0
  have eD : D2 d = 0 := by rw [(ag2 d (Nat.le_refl _)).2]; exact hD0
  have b26 : 0 ≤ M1 26 d ∧ M1 26 d ≤ 24 := BN.at hB1.1 (rfl : zcd wR 26 = 76) rfl
  have w26 : M1 26 d = ((T2 d).1 : Int) := ht.1
  have ly := lay_yes (l := d) (a := 0) (R := R2) (T := T2) (D := D2) (by omega) (by omega) (by omega)
  rw [sd, dd]
  refine ⟨by omega, by omega, ?_⟩
  intro M7 e7
  refine wL1_of (fun x P => BI P ∧ FF2 d M P ∧ P 0 36 = r ∧ (∀ k : Nat, P 26 k = M1 26 k) ∧ (∀ k : Nat, P 25 k = M1 25 k) ∧ P 24 d = ((T2 d).1 : Int) ∧ ∃ i : Nat, x = (i : Int) ∧ i ≤ (T2 d).1 ∧ ∀ k : Nat, k < i → P 23 (24 * d + k) = (T2 d).2 k) (fun x _ => (1000 - x).toNat) ⟨by rw [e7]; exact BI.up hB1 (rfl : zcd wR 24 = 74) rfl b26.1 b26.2 (by decide), fun j9 k9 h9 => by rw [e7]; exact (zup_n _ _ (by omega)).trans (G1 j9 k9 h9), by rw [e7, zup_n _ _ (by omega)]; exact q1, fun k => by rw [e7, zup_n _ _ (by omega)], fun k => by rw [e7, zup_n _ _ (by omega)], by rw [e7, zup_s]; exact w26, 0, rfl, by omega, fun k hk => absurd hk (Nat.not_lt_zero k)⟩ (fun K2 x P hI2 hK2 => ?_)
  obtain ⟨hBP, FP, pP, n26, n25, n24, i, rfl, i1, hv⟩ := hI2
  have sx : sI (i : Int) = i := sIo (by omega) (by omega)
  have e26 : P 26 d = ((T2 d).1 : Int) := (n26 d).trans w26
  have sz2 : sI (P 26 d) = P 26 d := sIo (by omega) (by omega)
  have s6 : sI (24 * (d : Int) + (i : Int)) = 24 * (d : Int) + (i : Int) := sIo (by omega) (by omega)
  have t6 : (24 * (d : Int) + (i : Int)).toNat = 24 * d + i := by omega
  rw [sx, sz2]
  refine ⟨by omega, fun c => ?_, fun c => ?_⟩
  · have h := vr_tail (Q := Q) (R0 := R) (T0 := Tm) (D0 := D) hf hd hR hBP FP hT hs (by omega) (by rw [pP]; exact pk5) hq ⟨R2, T2, D2, _, _, _, by rw [pP]; exact rn2, hT2, ly, fun i hi => ⟨(ag2 i (by omega)).1, (ag2 i (by omega)).2, agT i hi⟩, ?_, ?_⟩ hQ
    · unfold wR_mrTail at h
      rw [sd, dd] at h
      exact h
    · rw [uS_s]
      refine ⟨?_, fun k hk => ?_⟩
      · show P 24 d = (((R2 d).1 + (T2 d).1 - D2 d : Nat) : Int)
        rw [n24]
        omega
      · have hk : k < (R2 d).1 + (T2 d).1 - D2 d := hk
        show P 23 (24 * d + k) = if k < (R2 d).1 - D2 d then (R2 d).2 k else orI ((T2 d).2 (k - ((R2 d).1 - D2 d))) (if k < (R2 d).1 then (R2 d).2 k else 0)
        have hr := BN.r32 hBP.1 23 (24 * d + k)
        rw [if_neg (by omega), if_neg (by omega), show k - ((R2 d).1 - D2 d) = k by omega, ← hv k (by omega), orI_0 hr]
    · rw [uS_s]
      show 1 ≤ (R2 d).1 + (T2 d).1 - D2 d
      omega
  · rw [s6, t6]
    refine ⟨by omega, by omega, ?_⟩
    intro M131 e131
    have br := BN.r32 hBP.1 25 (24 * d + i)
    refine hK2 _ _ ⟨by rw [e131]; exact BI.up hBP (rfl : zcd wR 23 = 73) rfl br.1 br.2 (by decide), fun j9 k9 h9 => by rw [e131]; exact (zup_n _ _ (by omega)).trans (FP j9 k9 h9), by rw [e131, zup_n _ _ (by omega)]; exact pP, fun k => by rw [e131, zup_n _ _ (by omega)]; exact n26 k, fun k => by rw [e131, zup_n _ _ (by omega)]; exact n25 k, by rw [e131, zup_n _ _ (by omega)]; exact n24, i + 1, by omega, by omega, fun k hk => ?_⟩ (by omega)
    rw [e131]
    by_cases c5 : k = i
    · rw [c5, zup_s, n25]
      exact ht.2 i (by omega)
    · rw [zup_n _ _ (by omega)]
      exact hv k (by omega)
theorem vp_make {f T : Nat → Int} {s : Int} (hf : ∀ i : Nat, (i : Int) < s → f i = bU (T i)) : ∀ (n d : Nat), d ≤ 5 → 6 ≤ n + d → SpV2 f T s d (wR_makeRow n) := by
  intro n
  induction n with
  | zero => intro d h1 h2; omega
  | succ n ih =>
    intro d h1 h2
    show SpV2 f T s d (wR_makeRow_F (wR_makeTerm_F (wR_makeRow n)))
    exact vk_row hf h1 (vk_term hf h1 (fun h => ih (d + 1) (by omega) (by omega)))
end zz47k_row
section zz47l_splice
/-! a splice in the two worlds -/
def frS (R T : Nat → SV) (D : Nat → Nat) : Prop := (R 0).1 = 0 ∧ (T 0).1 = 0 ∧ D 0 = 0
set_option maxHeartbeats 2000000 in
theorem fC_splice {M : zM}  (hB : BN wC M)  {Q : Int → zM → Prop} (hQ : ∀ (z : Int) (M1 : zM), BN wC M1 ∧ (∀ j9 : Nat, ¬ (1 ≤ j9 ∧ j9 ≤ 31) → M1 j9 = M j9) ∧ ((-2147483648) ≤ z ∧ z ≤ 2147483647) ∧ (M1 1 1 = 0) ∧ (((M 1 1 ≤ 60 ∧ AC (M 2) (M 1 1) (0, 0) 0) ∧ ∃ R T : Nat → SV, ∃ D : Nat → Nat, frS R T D ∧ ((∃ l : Nat, ∃ a : Int, ∃ R1 T1 : Nat → SV, ∃ D1 : Nat → Nat, (runC (M 2) (M 1 1).toNat (0, 0, R, T, D) 0).bind layC = some (l, a, R1, T1, D1) ∧ isS M1 30 (R1 0)) ∨ ((runC (M 2) (M 1 1).toNat (0, 0, R, T, D) 0).bind layC = none ∧ M1 30 = M 30 ∧ M1 31 = M 31))) ∨ (¬ (M 1 1 ≤ 60 ∧ AC (M 2) (M 1 1) (0, 0) 0) ∧ M1 30 = M 30 ∧ M1 31 = M 31)) → Q z M1) : wC_splice  M Q := by
  unfold wC_splice wC_Splicer_putInto
  refine fC_firstWrong hB (fun z M3 h3 => ?_)
  obtain ⟨b3, f3, h3⟩ := h3
  have r30 : M3 30 = M 30 := funext fun q => f3 30 q (by omega)
  have r31 : M3 31 = M 31 := funext fun q => f3 31 q (by omega)
  have r2 : M3 2 = M 2 := funext fun q => f3 2 q (by omega)
  have r1 : M3 1 1 = M 1 1 := f3 1 1 (by omega)
  refine wJ1_of (fun x N => BN wC N ∧ FRs N M ∧ (-101 ≤ x ∧ x ≤ 0) ∧ (((M 1 1 ≤ 60 ∧ AC (M 2) (M 1 1) (0, 0) 0) ∧ ∃ R T : Nat → SV, ∃ D : Nat → Nat, frS R T D ∧ ((x = 0 ∧ ∃ l : Nat, ∃ a : Int, ∃ R1 T1 : Nat → SV, ∃ D1 : Nat → Nat, (runC (M 2) (M 1 1).toNat (0, 0, R, T, D) 0).bind layC = some (l, a, R1, T1, D1) ∧ isS N 6 (R1 0)) ∨ (x ≠ 0 ∧ (runC (M 2) (M 1 1).toNat (0, 0, R, T, D) 0).bind layC = none))) ∨ (¬ (M 1 1 ≤ 60 ∧ AC (M 2) (M 1 1) (0, 0) 0) ∧ x ≠ 0))) (fun x N hI => ?_) ⟨fun e => ?_, fun e => ?_⟩
  · obtain ⟨bN, fN, ix, hI⟩ := hI
    have sx : sI x = x := sIo (by omega) (by omega)
    have n30 : N 30 = M 30 := funext fun q => fN 30 q (by omega)
    have n31 : N 31 = M 31 := funext fun q => fN 31 q (by omega)
    intro M14 e14
    have b14 : BN wC M14 := by rw [e14]; exact BN.up bN (rfl : zcd wC 1 = 1) rfl (by omega) (by omega)
    have f14 : ∀ j9 : Nat, ¬ (1 ≤ j9 ∧ j9 ≤ 31) → M14 j9 = M j9 := fun j9 h9 => funext fun q => by rw [e14, zup_n _ _ (by omega)]; exact fN j9 q (by omega)
    have c14 : M14 1 1 = 0 := by rw [e14, zup_s]
    have m30 : M14 30 = M 30 := by rw [e14, zup_row _ _ (by omega)]; exact n30
    have m31 : M14 31 = M 31 := by rw [e14, zup_row _ _ (by omega)]; exact n31
    rw [sx]
    refine ⟨fun c => hQ _ _ ⟨b14, f14, by omega, c14, ?_⟩, fun c => ?_⟩
    · rcases hI with ⟨h1, R, T, D, h2, ⟨h3, -⟩ | ⟨-, h3⟩⟩ | ⟨h1, -⟩
      · exact absurd h3 c
      · exact Or.inl ⟨h1, R, T, D, h2, Or.inr ⟨h3, m30, m31⟩⟩
      · exact Or.inr ⟨h1, m30, m31⟩
    · obtain ⟨h1, R, T, D, h2, l, a, R1, T1, D1, h3, h4⟩ : (M 1 1 ≤ 60 ∧ AC (M 2) (M 1 1) (0, 0) 0) ∧ ∃ R T : Nat → SV, ∃ D : Nat → Nat, frS R T D ∧ ∃ l : Nat, ∃ a : Int, ∃ R1 T1 : Nat → SV, ∃ D1 : Nat → Nat, (runC (M 2) (M 1 1).toNat (0, 0, R, T, D) 0).bind layC = some (l, a, R1, T1, D1) ∧ isS N 6 (R1 0) := by
        rcases hI with ⟨h1, R, T, D, h2, ⟨-, h3⟩ | ⟨h3, -⟩⟩ | ⟨h1, h3⟩
        · exact ⟨h1, R, T, D, h2, h3⟩
        · exact absurd c h3
        · exact absurd c h3
      have h6 : isS M14 6 (R1 0) := isS_cg h4 (by rw [e14, zup_n _ _ (by omega)]) (fun k => by rw [e14, zup_n _ _ (by omega)])
      refine fC_copy b14 (rfl : zcd wC 30 = 6) (rfl : zcd wC (30 + 1) = 7) (rfl : zcd wC 6 = 6) ⟨by omega, by omega, by omega⟩ h6 (fun M17 h17 => ?_)
      obtain ⟨b17, f17, i17, -⟩ := h17
      have b1 := BN.r32 b17 30 1
      have s1 : sI (M17 30 1) = M17 30 1 := sIo b1.1 b1.2
      rw [s1]
      exact hQ _ _ ⟨b17, fun j9 h9 => (funext fun q => f17 j9 q (by omega)).trans (f14 j9 h9), b1, (f17 1 1 (by omega)).trans c14, Or.inl ⟨h1, R, T, D, h2, Or.inl ⟨l, a, R1, T1, D1, h3, i17⟩⟩⟩
  · rcases h3 with ⟨h, -⟩ | ⟨h1, h2, h3⟩
    · exact absurd h e
    · exact ⟨b3, fun a b hab => f3 a b (by omega), by omega, Or.inr ⟨h3, by omega⟩⟩
  · rcases h3 with ⟨-, h⟩ | ⟨h1, h2, h3⟩
    · refine fC_putTogether b3 (fun z20 M19 p => ?_)
      obtain ⟨p1, p2, p3, p4⟩ := p
      rw [r2, r1] at p4
      refine ⟨p1, fun a b hab => (p2 a b hab).trans (f3 a b (by omega)), p3, Or.inl ⟨h, (cs0 M3).2.2.1, (cs0 M3).2.2.2.1, (cs0 M3).2.2.2.2, ⟨rfl, rfl, rfl⟩, ?_⟩⟩
      rcases p4 with ⟨p5, ⟨l, a, R1, T1, D1⟩, p6, p7⟩ | ⟨p5, p6⟩
      · exact Or.inl ⟨p5, l, a, R1, T1, D1, p6, p7.2.2.2.1 0 (by omega)⟩
      · exact Or.inr ⟨p5, p6⟩
    · omega
set_option maxHeartbeats 4000000 in
theorem gR_splice {M : zM} {f : Nat → Int} {R T : Nat → SV} {D : Nat → Nat} (hB : BI M) (hf : ∀ i : Nat, (i : Int) < M 0 1 → f i = bU (M 1 i)) (h0 : frS R T D) {Q : Int → zM → Prop} (hQ : ∀ z M1, (BI M1 ∧ (∀ j9 k9 : Nat, ¬ (j9 = 0 ∧ k9 = 35 ∨ j9 = 0 ∧ k9 = 36 ∨ j9 = 0 ∧ k9 = 37 ∨ j9 = 0 ∧ k9 = 1 ∨ j9 = 0 ∧ k9 = 3 ∨ j9 = 2 ∨ 23 ≤ j9 ∧ j9 ≤ 26) → M1 j9 k9 = M j9 k9) ∧ (-2147483648 ≤ z ∧ z ≤ 2147483647) ∧ M1 0 1 = 0 ∧ (((M 0 1 ≤ 60 ∧ AC (M 1) (M 0 1) (0, 0) 0) ∧ ((∃ l : Nat, ∃ a : Int, ∃ R1 T1 : Nat → SV, ∃ D1 : Nat → Nat, (runC f (M 0 1).toNat (0, 0, R, T, D) 0).bind layC = some (l, a, R1, T1, D1) ∧ M1 0 3 = ((R1 0).1 : Int) ∧ ∀ k : Nat, k < (R1 0).1 → M1 2 k = (R1 0).2 k) ∨ ((runC f (M 0 1).toNat (0, 0, R, T, D) 0).bind layC = none ∧ M1 0 3 = M 0 3 ∧ M1 2 = M 2))) ∨ (¬ (M 0 1 ≤ 60 ∧ AC (M 1) (M 0 1) (0, 0) 0) ∧ M1 0 3 = M 0 3 ∧ M1 2 = M 2))) → Q z M1) : wR_splice M Q := by
  unfold wR_splice
  intro M1 e1 M3 e3 M5 e5
  have hB1 : BI M1 := by rw [e1]; exact BI.up0 hB (rfl : cbt 50 35 = (-2147483648, 2147483647)) (by omega) (by omega) (by decide)
  have hB3 : BI M3 := by rw [e3]; exact BIp hB1 (by omega) (by omega)
  have hB5 : BI M5 := by rw [e5]; exact BI.up0 hB3 (rfl : cbt 50 37 = (-2147483648, 2147483647)) (by omega) (by omega) (by decide)
  have F5 : ∀ j9 k9 : Nat, ¬ (j9 = 0 ∧ k9 = 35 ∨ j9 = 0 ∧ k9 = 36 ∨ j9 = 0 ∧ k9 = 37) → M5 j9 k9 = M j9 k9 := fun j9 k9 h9 => by rw [e5, e3, e1]; exact (zup_n _ _ (by omega)).trans ((zup_n _ _ (by omega)).trans (zup_n _ _ (by omega)))
  have p5 : M5 0 36 = 0 := by rw [e5, zup_n _ _ (by omega), e3, zup_s]
  have t5 : M5 1 = M 1 := funext fun k => F5 1 k (by omega)
  have n5 : M5 0 1 = M 0 1 := F5 0 1 (by omega)
  have bs : 0 ≤ M 0 1 ∧ M 0 1 ≤ 100 := BN.at hB.1 (rfl : zcd wR 0 = 50) rfl
  have acc := PK_iff (T := M 1) (s := M 0 1) bs.1
  refine sp_skip (M 1) (M 0 1) 6 0 (by omega) (by omega) M5 _ hB5 t5 n5 (by omega) (fun z8 M7 h8 => ?_)
  obtain ⟨⟨hB7, F7⟩, p7, h8⟩ := h8
  rw [p5] at h8
  have G7 : ∀ j9 k9 : Nat, ¬ (j9 = 0 ∧ k9 = 35 ∨ j9 = 0 ∧ k9 = 36 ∨ j9 = 0 ∧ k9 = 37) → M7 j9 k9 = M j9 k9 := fun j9 k9 h9 => (F7 j9 k9 (by omega)).trans (F5 j9 k9 h9)
  have S7 : M7 0 1 = M 0 1 := G7 0 1 (by omega)
  have s1 : sI (M 0 1) = M 0 1 := sIo (by omega) (by omega)
  have s36 : sI (M7 0 36) = M7 0 36 := sIo (by omega) (by omega)
  rw [S7, s1, s36]
  refine wJ1_of (fun x P => BI P ∧ (∀ j9 k9 : Nat, ¬ (j9 = 0 ∧ k9 = 35 ∨ j9 = 0 ∧ k9 = 36 ∨ j9 = 0 ∧ k9 = 37) → P j9 k9 = M j9 k9) ∧ (0 ≤ x ∧ x ≤ 1) ∧ ((x ≠ 0 ∧ M 0 1 ≤ 60 ∧ AC (M 1) (M 0 1) (0, 0) 0 ∧ PK (M 1) (M 0 1) 2 0 0 (M 0 1)) ∨ (x = 0 ∧ ¬ (M 0 1 ≤ 60 ∧ AC (M 1) (M 0 1) (0, 0) 0)))) (fun x P hI => ?_) ⟨fun e8 => ⟨hB7, G7, by omega, Or.inr ⟨e8, fun h => ?_⟩⟩, fun e8 => ⟨fun c => ⟨hB7, G7, by omega, Or.inl ?_⟩, fun c => ?_⟩⟩
  · obtain ⟨hBP, FP, ix, hx⟩ := hI
    have sx : sI x = x := sIo (by omega) (by omega)
    rw [sx]
    refine wJ1_of (fun y N => BI N ∧ (∀ j9 k9 : Nat, ¬ (j9 = 0 ∧ k9 = 35 ∨ j9 = 0 ∧ k9 = 36 ∨ j9 = 0 ∧ k9 = 37 ∨ 23 ≤ j9 ∧ j9 ≤ 26) → N j9 k9 = M j9 k9) ∧ (-101 ≤ y ∧ y ≤ 0) ∧ (x = 0 ∨ (y < 0 ∧ (runC f (M 0 1).toNat (0, 0, R, T, D) 0).bind layC = none) ∨ (y = 0 ∧ ∃ R1 T1 : Nat → SV, ∃ D1 : Nat → Nat, (runC f (M 0 1).toNat (0, 0, R, T, D) 0).bind layC = some (0, 0, R1, T1, D1) ∧ isW N 0 (R1 0)))) (fun y N hI2 => ?_) ⟨fun e => ⟨hBP, fun j9 k9 h9 => FP j9 k9 (by omega), by omega, Or.inl e⟩, fun e => ?_⟩
    · obtain ⟨hBN, FN, iy, hy⟩ := hI2
      have sy : sI y = y := sIo (by omega) (by omega)
      rw [sy]
      intro M29 e29
      have hB29 : BI M29 := by rw [e29]; exact BI.up0 hBN (rfl : cbt 50 1 = (0, 100)) (by omega) (by omega) (by decide)
      have F29 : ∀ j9 k9 : Nat, ¬ (j9 = 0 ∧ k9 = 35 ∨ j9 = 0 ∧ k9 = 36 ∨ j9 = 0 ∧ k9 = 37 ∨ j9 = 0 ∧ k9 = 1 ∨ j9 = 0 ∧ k9 = 3 ∨ j9 = 2 ∨ 23 ≤ j9 ∧ j9 ≤ 26) → M29 j9 k9 = M j9 k9 := fun j9 k9 h9 => by rw [e29]; exact (zup_n _ _ (by omega)).trans (FN j9 k9 (by omega))
      have r29 : M29 0 1 = 0 := by rw [e29, zup_s]
      have h3 : M29 0 3 = M 0 3 := by rw [e29, zup_n _ _ (by omega)]; exact FN 0 3 (by omega)
      have h2 : M29 2 = M 2 := by rw [e29, zup_row _ _ (by omega)]; exact funext fun k => FN 2 k (by omega)
      refine ⟨fun c => ⟨fun c2 => ?_, fun c2 => hQ _ _ ⟨hB29, F29, by omega, r29, Or.inl ⟨?_, Or.inr ⟨?_, h3, h2⟩⟩⟩⟩, fun c => ?_⟩
      · have b24 : 0 ≤ M29 24 0 ∧ M29 24 0 ≤ 24 := BN.at hB29.1 (rfl : zcd wR 24 = 74) rfl
        obtain ⟨hx1, hx2, hx3, -⟩ := hx.resolve_right (fun h => c h.1)
        obtain ⟨-, R1, T1, D1, hrun, hw⟩ := (hy.resolve_left c).resolve_left (fun h => by omega)
        have w24 : M29 24 0 = ((R1 0).1 : Int) := by rw [e29, zup_n _ _ (by omega)]; exact hw.1
        have w23 : ∀ k : Nat, k < (R1 0).1 → M29 23 k = (R1 0).2 k := fun k hk => by
          have e := hw.2 k hk
          rw [show 24 * 0 + k = k by omega] at e
          rw [e29, zup_n _ _ (by omega)]
          exact e
        intro M33 e33
        refine wL1_of (fun w P2 => BI P2 ∧ (∀ j9 k9 : Nat, ¬ (j9 = 0 ∧ k9 = 35 ∨ j9 = 0 ∧ k9 = 36 ∨ j9 = 0 ∧ k9 = 37 ∨ j9 = 0 ∧ k9 = 1 ∨ j9 = 0 ∧ k9 = 3 ∨ j9 = 2 ∨ 23 ≤ j9 ∧ j9 ≤ 26) → P2 j9 k9 = M j9 k9) ∧ P2 0 1 = 0 ∧ P2 0 3 = ((R1 0).1 : Int) ∧ (∀ k : Nat, P2 23 k = M29 23 k) ∧ ∃ i : Nat, w = (i : Int) ∧ i ≤ (R1 0).1 ∧ ∀ k : Nat, k < i → P2 2 k = (R1 0).2 k) (fun w _ => (1000 - w).toNat) ⟨by rw [e33]; exact BI.up0 hB29 (rfl : cbt 50 3 = (0, 24)) b24.1 b24.2 (by decide), fun j9 k9 h9 => by rw [e33]; exact (zup_n _ _ (by omega)).trans (F29 j9 k9 h9), by rw [e33, zup_n _ _ (by omega)]; exact r29, by rw [e33, zup_s]; exact w24, fun k => by rw [e33, zup_n _ _ (by omega)], 0, rfl, by omega, fun k hk => absurd hk (Nat.not_lt_zero k)⟩ (fun K w P2 hI3 hK => ?_)
        obtain ⟨hB2, F2, r2, n3, n23, i, rfl, i1, hv⟩ := hI3
        have s3 : sI ((R1 0).1 : Int) = ((R1 0).1 : Int) := sIo (by omega) (by omega)
        have sw : sI (i : Int) = i := sIo (by omega) (by omega)
        have tw : ((i : Int)).toNat = i := by omega
        rw [n3, s3, sw, tw]
        refine ⟨fun c3 => hQ _ _ ⟨hB2, F2, by omega, r2, Or.inl ⟨⟨hx2, hx3⟩, Or.inl ⟨_, _, R1, T1, D1, hrun, n3, fun k hk => hv k (by omega)⟩⟩⟩, fun c3 => ⟨by omega, by omega, ?_⟩⟩
        intro M47 e47
        have br := BN.r32 hB2.1 23 i
        refine hK _ _ ⟨by rw [e47]; exact BI.up hB2 (rfl : zcd wR 2 = 52) rfl br.1 br.2 (by decide), fun j9 k9 h9 => by rw [e47]; exact (zup_n _ _ (by omega)).trans (F2 j9 k9 h9), by rw [e47, zup_n _ _ (by omega)]; exact r2, by rw [e47, zup_n _ _ (by omega)]; exact n3, fun k => by rw [e47, zup_n _ _ (by omega)]; exact n23 k, i + 1, by omega, by omega, fun k hk => ?_⟩ (by omega)
        rw [e47]
        by_cases c5 : k = i
        · rw [c5, zup_s, n23]
          exact w23 i (by omega)
        · rw [zup_n _ _ (by omega)]
          exact hv k (by omega)
      · obtain ⟨-, hx2, hx3, -⟩ := hx.resolve_right (fun h => c h.1)
        exact ⟨hx2, hx3⟩
      · exact ((hy.resolve_left c).resolve_right (fun h => by have := h.1; omega)).2
      · have r := sI_R ((-1) - M29 0 37)
        exact hQ _ _ ⟨hB29, F29, by have := r.1; have := r.2; omega, r29, Or.inr ⟨(hx.resolve_left (fun h => h.1 c)).2, h3, h2⟩⟩
    · obtain ⟨-, hx2, hx3, pkq⟩ := hx.resolve_right (fun h => e h.1)
      intro M52 e52
      have p52 : M52 0 36 = 0 := by rw [e52]; exact zup_s _ _ _ _
      have F52 : ∀ j9 k9 : Nat, ¬ (j9 = 0 ∧ k9 = 35 ∨ j9 = 0 ∧ k9 = 36 ∨ j9 = 0 ∧ k9 = 37) → M52 j9 k9 = M j9 k9 := fun j9 k9 h9 => by rw [e52]; exact (zup_n _ _ (by omega)).trans (FP j9 k9 h9)
      have T52 : M52 1 = M 1 := funext fun k => F52 1 k (by omega)
      have S52 : M52 0 1 = M 0 1 := F52 0 1 (by omega)
      refine vp_make hf 6 0 (by omega) (by omega) M52 _ (M 0 1) R T D (by rw [e52]; exact BIp hBP (by omega) (by omega)) T52 S52 (by omega) (by rw [p52]; exact pkq) (Or.inl ⟨rfl, rfl⟩) h0.2.1 h0.1 h0.2.2 (fun z55 M54 h55 => ?_)
      obtain ⟨hB54, F54, p54, zr, h55⟩ := h55
      rw [p52] at h55
      refine ⟨hB54, fun j9 k9 h9 => (F54 j9 k9 (by omega)).trans (F52 j9 k9 (by omega)), zr, Or.inr ?_⟩
      rcases h55 with ⟨h6, h7⟩ | ⟨h6, h7, R2, T2, D2, R3, T3, D3, rn, ly, -, hw, -⟩
      · refine Or.inl ⟨h6, ?_⟩
        unfold Dd at h7
        rw [show (M 0 1 - 0).toNat = (M 0 1).toNat by omega] at h7
        exact h7
      · refine Or.inr ⟨h6, R3, T3, D3, ?_, hw⟩
        have r3 := rn.2.2
        rw [show (M 0 1 - 0).toNat = (M 0 1).toNat by omega] at r3
        rw [show (0 : Int).toNat = 0 from rfl] at r3
        rw [r3]
        exact ly
  · obtain ⟨q, h1, h2⟩ := acc.mpr h
    rcases h8 with ⟨h9, -⟩ | ⟨-, h9⟩
    · omega
    · exact h9 q h1
  · rcases h8 with ⟨-, -, h⟩ | ⟨h, -⟩
    · have a := acc.mp ⟨_, h, c⟩
      have hi : M7 0 36 ≤ M 0 1 := by
        obtain ⟨nn, h⟩ := h
        exact (PK_hi _ _ _ _ _ h (by omega) (by omega)).1
      have e : M7 0 36 = M 0 1 := by omega
      rw [e] at h
      exact ⟨e8, a.1, a.2, h⟩
    · exact absurd h e8
  · refine sR_isWrong hB7 (fun z60 M59 h => ?_)
    obtain ⟨h1, h2, -, h3, -⟩ := h
    refine ⟨h1, fun j9 k9 h9 => (h2 j9 k9 (by omega)).trans (G7 j9 k9 h9), by omega, Or.inr ⟨h3, fun h => ?_⟩⟩
    obtain ⟨q, k1, k2⟩ := acc.mpr h
    rcases h8 with ⟨-, -, h9⟩ | ⟨h9, -⟩
    · have e := PK_det k1 h9
      omega
    · exact absurd h9 e8
/-- the text and the hand are alike -/
def iTx (MC MR : zM) : Prop := MC 1 1 = MR 0 1 ∧ ∀ i : Nat, (i : Int) < MC 1 1 → MC 2 i = bU (MR 1 i)
def iHa (MC MR : zM) : Prop := MC 30 1 = MR 0 3 ∧ ∀ k : Nat, (k : Int) < MC 30 1 → MC 31 k = MR 2 k
theorem AC_bU {f T : Nat → Int} {s : Int} (h0 : 0 ≤ s) (hT : ∀ i, -128 ≤ T i) (h : ∀ i : Nat, (i : Int) < s → f i = bU (T i)) : AC f s (0, 0) 0 ↔ AC T s (0, 0) 0 := by
  unfold AC
  rw [smR_bU (n := s.toNat) hT (fun i hi => h i (by omega)) (s - 0).toNat (0, 0) (0 : Int).toNat (by rw [show (0 : Int).toNat = 0 from rfl]; omega)]
/-- both worlds splice alike -/
theorem splice_two {MC MR : zM} (hC : BN wC MC) (hR : BI MR) (hx : iTx MC MR) (ha : iHa MC MR) {Q : zM → zM → Prop} (hQ : ∀ (z z9 : Int) (M8 M9 : zM), BN wC M8 → (∀ j9 : Nat, ¬ (1 ≤ j9 ∧ j9 ≤ 31) → M8 j9 = MC j9) → M8 1 1 = 0 → BI M9 → (∀ j9 k9 : Nat, ¬ (j9 = 0 ∧ k9 = 35 ∨ j9 = 0 ∧ k9 = 36 ∨ j9 = 0 ∧ k9 = 37 ∨ j9 = 0 ∧ k9 = 1 ∨ j9 = 0 ∧ k9 = 3 ∨ j9 = 2 ∨ 23 ≤ j9 ∧ j9 ≤ 26) → M9 j9 k9 = MR j9 k9) → M9 0 1 = 0 → iHa M8 M9 → Q M8 M9) : wC_splice MC (fun _ M8 => wR_splice MR (fun _ M9 => Q M8 M9)) := by
  obtain ⟨x1, x2⟩ := hx
  obtain ⟨a1, a2⟩ := ha
  have bs : 0 ≤ MR 0 1 ∧ MR 0 1 ≤ 100 := BN.at hR.1 (rfl : zcd wR 0 = 50) rfl
  have hf : ∀ i : Nat, (i : Int) < MR 0 1 → MC 2 i = bU (MR 1 i) := fun i hi => x2 i (by omega)
  have hT : ∀ i, -128 ≤ MR 1 i := fun i => (BN.at hR.1 (rfl : zcd wR 1 = 51) rfl : -128 ≤ MR 1 i ∧ MR 1 i ≤ 127).1
  have ac := AC_bU (f := MC 2) bs.1 hT hf
  refine fC_splice hC (fun z M8 h8 => ?_)
  obtain ⟨b8, f8, -, n8, h8⟩ := h8
  rw [x1, ac] at h8
  have same : ∀ {M9 : zM}, M8 30 = MC 30 → M8 31 = MC 31 → M9 0 3 = MR 0 3 → M9 2 = MR 2 → iHa M8 M9 := fun e1 e2 e3 e4 => by
    unfold iHa
    rw [e1, e2, e3, e4]
    exact ⟨a1, a2⟩
  rcases h8 with ⟨ok, R, T, D, h0, hrun⟩ | ⟨no, e30, e31⟩
  · refine gR_splice (f := MC 2) hR hf h0 (fun z9 M9 h9 => ?_)
    obtain ⟨b9, f9, -, n9, h9⟩ := h9
    refine hQ z z9 M8 M9 b8 f8 n8 b9 f9 n9 ?_
    rcases h9 with ⟨-, h9⟩ | ⟨no, -⟩
    · rcases hrun with ⟨l, a, R1, T1, D1, e1, i1⟩ | ⟨e1, e30, e31⟩
      · rcases h9 with ⟨l2, a2', R2, T2, D2, e2, i2, i3⟩ | ⟨e2, -⟩
        · rw [e1] at e2
          cases e2
          exact ⟨i1.1.trans i2.symm, fun k hk => by have e := i1.1; exact (i1.2 k (by omega)).trans (i3 k (by omega)).symm⟩
        · rw [e1] at e2
          cases e2
      · rcases h9 with ⟨l2, a2', R2, T2, D2, e2, -⟩ | ⟨e2, e3, e4⟩
        · rw [e1] at e2
          cases e2
        · exact same e30 e31 e3 e4
    · exact absurd ok no
  · refine gR_splice (f := MC 2) (R := fun _ => (0, fun _ => 0)) (T := fun _ => (0, fun _ => 0)) (D := fun _ => 0) hR hf ⟨rfl, rfl, rfl⟩ (fun z9 M9 h9 => ?_)
    obtain ⟨b9, f9, -, n9, h9⟩ := h9
    refine hQ z z9 M8 M9 b8 f8 n8 b9 f9 n9 ?_
    rcases h9 with ⟨ok, -⟩ | ⟨-, e3, e4⟩
    · exact absurd ok no
    · exact same e30 e31 e3 e4
end zz47l_splice
section zz47m_text
/-! the text is alike: four signs of a number -/
theorem bu_and (y : Int) : andI y 255 = (((iI y).toBitVec.toNat % 256 : Nat) : Int) := by
  unfold andI
  refine i32_nat ?_ (by omega)
  rw [Int32.toBitVec_and, BitVec.toNat_and, show (iI 255).toBitVec.toNat = 2 ^ 8 - 1 by decide, Nat.and_two_pow_sub_one_eq_mod]
theorem bu_b8 (y : Int) : bU (b8I y) = (((iI y).toBitVec.toNat % 256 : Nat) : Int) := by
  have e : b8I y = ((iI y).toBitVec.setWidth 8).toInt := by
    unfold b8I
    rw [Int8.toInt_toInt32]
    show (iI y).toInt8.toBitVec.toInt = _
    rw [Int32.toBitVec_toInt8, BitVec.signExtend_eq_setWidth_of_le _ (by decide)]
  have h1 : ((iI y).toBitVec.setWidth 8).toNat = (iI y).toBitVec.toNat % 256 := BitVec.toNat_setWidth 8 _
  have h2 := ((iI y).toBitVec.setWidth 8).isLt
  unfold bU
  rw [e, BitVec.toInt_eq_toNat_cond]
  by_cases c : 2 * ((iI y).toBitVec.setWidth 8).toNat < 2 ^ 8
  · rw [if_pos c, if_neg (by omega), h1]
  · rw [if_neg c, if_pos (by omega)]
    omega
theorem bu_ushr (v : Int) : (iI (ushrI v 24)).toBitVec.toNat = (iI v).toBitVec.toNat / 2 ^ 24 ∧ (iI (ushrI v 16)).toBitVec.toNat = (iI v).toBitVec.toNat / 2 ^ 16 ∧ (iI (ushrI v 8)).toBitVec.toNat = (iI v).toBitVec.toNat / 2 ^ 8 ∧ (iI (ushrI v 0)).toBitVec.toNat = (iI v).toBitVec.toNat := by
  unfold ushrI
  rw [iI_e, iI_e, iI_e, iI_e]
  have e : ∀ (K : UInt32), ((iI v).toUInt32 >>> K).toInt32.toBitVec.toNat = (iI v).toBitVec.toNat >>> (K.toBitVec % 32#32).toNat := fun K => rfl
  refine ⟨?_, ?_, ?_, ?_⟩
  · rw [e, show (((iI 24).toUInt32 &&& Int32.toUInt32 31).toBitVec % 32#32).toNat = 24 by decide, Nat.shiftRight_eq_div_pow]
  · rw [e, show (((iI 16).toUInt32 &&& Int32.toUInt32 31).toBitVec % 32#32).toNat = 16 by decide, Nat.shiftRight_eq_div_pow]
  · rw [e, show (((iI 8).toUInt32 &&& Int32.toUInt32 31).toBitVec % 32#32).toNat = 8 by decide, Nat.shiftRight_eq_div_pow]
  · rw [e, show (((iI 0).toUInt32 &&& Int32.toUInt32 31).toBitVec % 32#32).toNat = 0 by decide, Nat.shiftRight_zero]
theorem bu_shr (v : Int) : (iI (shrI v 24)).toBitVec.toNat % 256 = (iI v).toBitVec.toNat / 2 ^ 24 % 256 ∧ (iI (shrI v 16)).toBitVec.toNat % 256 = (iI v).toBitVec.toNat / 2 ^ 16 % 256 ∧ (iI (shrI v 8)).toBitVec.toNat % 256 = (iI v).toBitVec.toNat / 2 ^ 8 % 256 := by
  have hl := (iI v).toBitVec.isLt
  have e : ∀ (y : Int), (iI (shrI v y)).toBitVec = (iI v).toBitVec.sshiftRight' (((iI y) &&& 31).toBitVec.smod 32) := fun y => by
    unfold shrI
    rw [iI_e, Int32.toBitVec_shiftRight]
  refine ⟨?_, ?_, ?_⟩
  · rw [e, BitVec.toNat_sshiftRight', show (((iI 24) &&& 31).toBitVec.smod 32).toNat = 24 by decide, Nat.shiftRight_eq_div_pow, Nat.shiftRight_eq_div_pow]
    split <;> omega
  · rw [e, BitVec.toNat_sshiftRight', show (((iI 16) &&& 31).toBitVec.smod 32).toNat = 16 by decide, Nat.shiftRight_eq_div_pow, Nat.shiftRight_eq_div_pow]
    split <;> omega
  · rw [e, BitVec.toNat_sshiftRight', show (((iI 8) &&& 31).toBitVec.smod 32).toNat = 8 by decide, Nat.shiftRight_eq_div_pow, Nat.shiftRight_eq_div_pow]
    split <;> omega
def by4 (v : Int) (q : Nat) : Int := if q = 0 then b8I (shrI v 24) else if q = 1 then b8I (shrI v 16) else if q = 2 then b8I (shrI v 8) else b8I v
theorem by4_e (v : Int) (q : Nat) (h : q < 4) : andI (ushrI v ((24 - 8 * q : Nat) : Int)) 255 = bU (by4 v q) := by
  have u := bu_ushr v
  have s := bu_shr v
  rw [bu_and]
  rcases (by omega : q = 0 ∨ q = 1 ∨ q = 2 ∨ q = 3) with rfl | rfl | rfl | rfl
  · show (((iI (ushrI v 24)).toBitVec.toNat % 256 : Nat) : Int) = bU (b8I (shrI v 24))
    rw [bu_b8, u.1, s.1]
  · show (((iI (ushrI v 16)).toBitVec.toNat % 256 : Nat) : Int) = bU (b8I (shrI v 16))
    rw [bu_b8, u.2.1, s.2.1]
  · show (((iI (ushrI v 8)).toBitVec.toNat % 256 : Nat) : Int) = bU (b8I (shrI v 8))
    rw [bu_b8, u.2.2.1, s.2.2]
  · show (((iI (ushrI v 0)).toBitVec.toNat % 256 : Nat) : Int) = bU (b8I v)
    rw [bu_b8, u.2.2.2]
set_option maxHeartbeats 1000000 in
theorem fC_sign {M : zM} {a0 : Int} (hB : BN wC M) (v0 : (-2147483648) ≤ a0 ∧ a0 ≤ 2147483647) {Q : Int → zM → Prop} (hQ : ∀ (z : Int) (M1 : zM), BN wC M1 ∧ (∀ j9 : Nat, ¬ (1 ≤ j9 ∧ j9 ≤ 29) → M1 j9 = M j9) ∧ ((-2147483648) ≤ z ∧ z ≤ 2147483647) ∧ ((M 1 1 ≤ 96 ∧ z = M 1 1 + 4 ∧ M1 1 1 = M 1 1 + 4) ∨ (96 < M 1 1 ∧ z = -1 ∧ M1 1 1 = M 1 1)) ∧ (∀ i : Nat, (i : Int) < M 1 1 → M1 2 i = M 2 i) ∧ (M 1 1 ≤ 96 → ∀ q : Nat, q < 4 → M1 2 ((M 1 1).toNat + q) = andI (ushrI a0 ((24 - 8 * q : Nat) : Int)) 255) → Q z M1) : wC_sign a0 M Q := by
  unfold wC_sign wC_Splicer_add
  have bn : 0 ≤ M 1 1 ∧ M 1 1 ≤ 100 := BN.at hB (rfl : zcd wC 1 = 1) rfl
  have s4 : sI (M 1 1 + 4) = M 1 1 + 4 := sIo (by omega) (by omega)
  rw [s4]
  refine ⟨fun c => ?_, fun c => hQ _ _ ⟨hB, fun _ _ => rfl, by omega, by omega, fun _ _ => rfl, fun h => by omega⟩⟩
  refine wL1_of (fun x M2 => BN wC M2 ∧ (∀ j9 : Nat, ¬ (1 ≤ j9 ∧ j9 ≤ 29) → M2 j9 = M j9) ∧ (∀ i : Nat, (i : Int) < M 1 1 → M2 2 i = M 2 i) ∧ ∃ q : Nat, x = 24 - 8 * (q : Int) ∧ q ≤ 4 ∧ M2 1 1 = M 1 1 + (q : Int) ∧ ∀ p : Nat, p < q → M2 2 ((M 1 1).toNat + p) = andI (ushrI a0 ((24 - 8 * p : Nat) : Int)) 255) (fun x _ => (x + 100).toNat) ⟨hB, fun _ _ => rfl, fun _ _ => rfl, 0, rfl, by omega, by omega, fun p hp => absurd hp (Nat.not_lt_zero p)⟩ (fun K x M2 h k => ?_)
  obtain ⟨b2, f2, o2, q, rfl, q4, n2, hv⟩ := h
  have sx : sI (24 - 8 * (q : Int)) = 24 - 8 * (q : Int) := sIo (by omega) (by omega)
  have sn : sI (M2 1 1) = M2 1 1 := sIo (by omega) (by omega)
  have tn : (M2 1 1).toNat = (M 1 1).toNat + q := by omega
  rw [sx, sn, tn]
  refine ⟨fun c2 => hQ _ _ ⟨b2, f2, by omega, by omega, o2, fun _ p hp => hv p (by omega)⟩, fun c2 => ⟨by omega, fun M3 e3 => fun M4 e4 => ?_⟩⟩
  have hb := andI_br (ushrI a0 (24 - 8 * (q : Int))) (c := 255) (by decide) (by decide)
  have b3 : BN wC M3 := by rw [e3]; exact BN.up b2 (rfl : zcd wC 2 = 2) rfl hb.1 hb.2
  have n3 : M3 1 1 = M 1 1 + (q : Int) := by rw [e3, zup_n _ _ (by omega)]; exact n2
  refine k _ _ ⟨by rw [e4]; exact BN.up b3 (rfl : zcd wC 1 = 1) rfl (by omega) (by omega), fun j9 h9 => by rw [e4, zup_row _ _ (by omega), e3, zup_row _ _ (by omega)]; exact f2 j9 h9, fun i hi => by rw [e4, zup_n _ _ (by omega), e3, zup_n _ _ (by omega)]; exact o2 i hi, q + 1, by omega, by omega, by rw [e4, zup_s, n3]; omega, fun p hp => ?_⟩ (by omega)
  rw [e4, zup_n _ _ (by omega), e3]
  by_cases c5 : p = q
  · rw [c5, zup_s, show (24 - 8 * (q : Int)) = ((24 - 8 * q : Nat) : Int) by omega]
  · rw [zup_n _ _ (by omega)]
    exact hv p (by omega)
set_option maxHeartbeats 1000000 in
theorem fR_sign {M : zM} {a0 : Int} (hB : BI M) (v0 : (-2147483648) ≤ a0 ∧ a0 ≤ 2147483647) {Q : Int → zM → Prop} (hQ : ∀ (z : Int) (M1 : zM), BI M1 ∧ (∀ j9 k9 : Nat, ¬ (j9 = 0 ∧ k9 = 35 ∨ j9 = 0 ∧ k9 = 1 ∨ j9 = 1) → M1 j9 k9 = M j9 k9) ∧ ((-2147483648) ≤ z ∧ z ≤ 2147483647) ∧ ((M 0 1 ≤ 96 ∧ z = M 0 1 + 4 ∧ M1 0 1 = M 0 1 + 4) ∨ (96 < M 0 1 ∧ z = -1 ∧ M1 0 1 = M 0 1)) ∧ (∀ i : Nat, (i : Int) < M 0 1 → M1 1 i = M 1 i) ∧ (M 0 1 ≤ 96 → ∀ q : Nat, q < 4 → M1 1 ((M 0 1).toNat + q) = by4 a0 q) → Q z M1) : wR_sign a0 M Q := by
  unfold wR_sign
  intro M1 e1
  have hB1 : BI M1 := by rw [e1]; exact BI.up0 hB rfl (by omega) (by omega) (by decide)
  have n1 : M1 0 1 = M 0 1 := by rw [e1, zup_n _ _ (by omega)]
  have bn : 0 ≤ M 0 1 ∧ M 0 1 ≤ 100 := BN.at hB.1 (rfl : zcd wR 0 = 50) rfl
  obtain ⟨n, hn⟩ : ∃ n : Nat, M 0 1 = (n : Int) := ⟨(M 0 1).toNat, by omega⟩
  have tn : ∀ _ : Nat, (M 0 1).toNat = n := fun _ => by omega
  rw [tn 0] at hQ
  have s4 : sI (M 0 1 + 4) = M 0 1 + 4 := sIo (by omega) (by omega)
  have s0 : sI (M 0 1) = M 0 1 := sIo (by omega) (by omega)
  rw [n1, s4, s0, tn 0]
  refine ⟨fun c => ?_, fun c => hQ _ _ ⟨hB1, fun j9 k9 h9 => by rw [e1, zup_n _ _ (by omega)], by omega, Or.inr ⟨by omega, rfl, n1⟩, fun i hi => by rw [e1, zup_n _ _ (by omega)], fun h => by omega⟩⟩
  refine ⟨by omega, fun M5 e5 => ?_⟩
  have n5 : M5 0 1 = M 0 1 := by rw [e5, zup_n _ _ (by omega)]; exact n1
  have d1 : sI (M 0 1 + 1) = M 0 1 + 1 := sIo (by omega) (by omega)
  have d2 : sI (M 0 1 + 2) = M 0 1 + 2 := sIo (by omega) (by omega)
  have d3 : sI (M 0 1 + 3) = M 0 1 + 3 := sIo (by omega) (by omega)
  have t1 : ∀ _ : Nat, (M 0 1 + 1).toNat = n + 1 := fun _ => by omega
  have t2 : ∀ _ : Nat, (M 0 1 + 2).toNat = n + 2 := fun _ => by omega
  have t3 : ∀ _ : Nat, (M 0 1 + 3).toNat = n + 3 := fun _ => by omega
  rw [n5, d1, t1 0]
  refine ⟨by omega, fun M8 e8 => ?_⟩
  have n8 : M8 0 1 = M 0 1 := by rw [e8, zup_n _ _ (by omega)]; exact n5
  rw [n8, d2, t2 0]
  refine ⟨by omega, fun M11 e11 => ?_⟩
  have n11 : M11 0 1 = M 0 1 := by rw [e11, zup_n _ _ (by omega)]; exact n8
  rw [n11, d3, t3 0]
  refine ⟨by omega, fun M14 e14 => fun M16 e16 => ?_⟩
  have n14 : M14 0 1 = M 0 1 := by rw [e14, zup_n _ _ (by omega)]; exact n11
  have n16 : M16 0 1 = M 0 1 + 4 := by rw [e16, zup_s, n14]
  have g1 := b8I_in (shrI a0 24)
  have g2 := b8I_in (shrI a0 16)
  have g3 := b8I_in (shrI a0 8)
  have g4 := b8I_in a0
  have b5 : BI M5 := by rw [e5]; exact BI.up hB1 (rfl : zcd wR 1 = 51) rfl g1.1 g1.2 (by decide)
  have b8 : BI M8 := by rw [e8]; exact BI.up b5 (rfl : zcd wR 1 = 51) rfl g2.1 g2.2 (by decide)
  have b11 : BI M11 := by rw [e11]; exact BI.up b8 (rfl : zcd wR 1 = 51) rfl g3.1 g3.2 (by decide)
  have b14 : BI M14 := by rw [e14]; exact BI.up b11 (rfl : zcd wR 1 = 51) rfl g4.1 g4.2 (by decide)
  have b16 : BI M16 := by rw [e16]; exact BI.up0 b14 (rfl : cbt 50 1 = (0, 100)) (by omega) (by omega) (by decide)
  rw [n16, s4]
  refine hQ _ _ ⟨b16, fun j9 k9 h9 => by rw [e16, zup_n _ _ (by omega), e14, zup_n _ _ (by omega), e11, zup_n _ _ (by omega), e8, zup_n _ _ (by omega), e5, zup_n _ _ (by omega), e1, zup_n _ _ (by omega)], by omega, Or.inl ⟨by omega, rfl, n16⟩, fun i hi => by rw [e16, zup_n _ _ (by omega), e14, zup_n _ _ (by omega), e11, zup_n _ _ (by omega), e8, zup_n _ _ (by omega), e5, zup_n _ _ (by omega), e1, zup_n _ _ (by omega)], fun _ q hq => ?_⟩
  unfold by4
  rcases (by omega : q = 0 ∨ q = 1 ∨ q = 2 ∨ q = 3) with rfl | rfl | rfl | rfl
  · rw [if_pos rfl, e16, zup_n _ _ (by omega), e14, zup_n _ _ (by omega), e11, zup_n _ _ (by omega), e8, zup_n _ _ (by omega), e5, Nat.add_zero, zup_s]
  · rw [if_neg (by omega), if_pos rfl, e16, zup_n _ _ (by omega), e14, zup_n _ _ (by omega), e11, zup_n _ _ (by omega), e8, zup_s]
  · rw [if_neg (by omega), if_neg (by omega), if_pos rfl, e16, zup_n _ _ (by omega), e14, zup_n _ _ (by omega), e11, zup_s]
  · rw [if_neg (by omega), if_neg (by omega), if_neg (by omega), e16, zup_n _ _ (by omega), e14, zup_s]
theorem fC_end {M : zM} {a0 : Int} (hB : BN wC M) (v0 : (-2147483648) ≤ a0 ∧ a0 ≤ 2147483647) {Q : Int → zM → Prop} (hQ : ∀ (z : Int) (M1 : zM), BN wC M1 ∧ (∀ j9 : Nat, ¬ (j9 = 1) → M1 j9 = M j9) ∧ (0 ≤ z ∧ z ≤ 1) ∧ ((0 ≤ a0 ∧ a0 ≤ M 1 1 ∧ z = 1 ∧ M1 1 1 = a0) ∨ ((a0 < 0 ∨ M 1 1 < a0) ∧ z = 0 ∧ M1 1 1 = M 1 1)) ∧ True → Q z M1) : wC_end a0 M Q := by
  unfold wC_end wC_Splicer_keepFirst
  have bn : 0 ≤ M 1 1 ∧ M 1 1 ≤ 100 := BN.at hB (rfl : zcd wC 1 = 1) rfl
  have s0 : sI a0 = a0 := sIo v0.1 v0.2
  have sn : sI (M 1 1) = M 1 1 := sIo (by omega) (by omega)
  rw [s0, sn]
  refine ⟨fun c => hQ _ _ ⟨hB, fun _ _ => rfl, by omega, by omega, trivial⟩, fun c => ⟨fun c2 => fun M3 e3 => ?_, fun c2 => hQ _ _ ⟨hB, fun _ _ => rfl, by omega, by omega, trivial⟩⟩⟩
  exact hQ _ _ ⟨by rw [e3]; exact BN.up hB (rfl : zcd wC 1 = 1) rfl (by omega) (by omega), fun j9 h9 => by rw [e3, zup_row _ _ h9], by omega, Or.inl ⟨c, c2, rfl, by rw [e3, zup_s]⟩, trivial⟩
theorem tx_sign {MC MR M8 M9 : zM} {a0 : Int} (hC : 0 ≤ MC 1 1) (h : iTx MC MR) (p : ((MC 1 1 ≤ 96 ∧ M8 1 1 = MC 1 1 + 4) ∨ (96 < MC 1 1 ∧ M8 1 1 = MC 1 1)) ∧ (∀ i : Nat, (i : Int) < MC 1 1 → M8 2 i = MC 2 i) ∧ (MC 1 1 ≤ 96 → ∀ q : Nat, q < 4 → M8 2 ((MC 1 1).toNat + q) = andI (ushrI a0 ((24 - 8 * q : Nat) : Int)) 255)) (e : M8 1 1 = M9 0 1) (q : (∀ i : Nat, (i : Int) < MR 0 1 → M9 1 i = MR 1 i) ∧ (MR 0 1 ≤ 96 → ∀ q : Nat, q < 4 → M9 1 ((MR 0 1).toNat + q) = by4 a0 q)) : iTx M8 M9 := by
  obtain ⟨x1, x2⟩ := h
  obtain ⟨p1, p2, p3⟩ := p
  obtain ⟨q2, q3⟩ := q
  refine ⟨e, fun i hi => ?_⟩
  by_cases c : (i : Int) < MC 1 1
  · rw [p2 i c, q2 i (by omega)]
    exact x2 i c
  · have hi4 : i - (MC 1 1).toNat < 4 := by omega
    have a := p3 (by omega) (i - (MC 1 1).toNat) hi4
    have b := q3 (by omega) (i - (MC 1 1).toNat) hi4
    rw [show (MC 1 1).toNat + (i - (MC 1 1).toNat) = i by omega] at a
    rw [show (MR 0 1).toNat + (i - (MC 1 1).toNat) = i by omega] at b
    rw [a, b]
    exact by4_e a0 _ hi4
theorem tx_less {MC MR M8 M9 : zM} (h : iTx MC MR) (e : M8 1 1 = M9 0 1) (hl : M8 1 1 ≤ MC 1 1) (p : M8 2 = MC 2) (q : M9 1 = MR 1) : iTx M8 M9 := ⟨e, fun i hi => by rw [p, q]; exact h.2 i (by omega)⟩
end zz47m_text
