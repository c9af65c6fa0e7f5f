section zz31_R00
/-! safety of the model, 0 -/
theorem sI_or (z : Int) : sI z = z ∨ z < -2147483648 ∨ 2147483647 < z := by
  by_cases h : -2147483648 ≤ z ∧ z ≤ 2147483647
  · exact Or.inl (sIo h.1 h.2)
  · omega
theorem sL_or (z : Int) : sL z = z ∨ z < -9223372036854775808 ∨ 9223372036854775807 < z := by
  by_cases h : -9223372036854775808 ≤ z ∧ z ≤ 9223372036854775807
  · exact Or.inl (sLo h.1 h.2)
  · omega
set_option maxHeartbeats 4000000 in
set_option maxRecDepth 100000 in
theorem sR_in {M : zM} {a0 : Int} {a1 : Int} {a2 : Int} (hB : BI M) (v0 : (-2147483648) ≤ a0 ∧ a0 ≤ 2147483647) (v1 : (-2147483648) ≤ a1 ∧ a1 ≤ 2147483647) (v2 : (-2147483648) ≤ a2 ∧ a2 ≤ 2147483647) {Q : Int → Prop} (hQ : ∀ (z : Int), (0 ≤ z ∧ z ≤ 1) ∧ ((z = 1 ∧ a1 ≤ a0 ∧ a0 ≤ a2) ∨ (z = 0 ∧ ¬ (a1 ≤ a0 ∧ a0 ≤ a2))) ∧ True → Q z) : wR_in a0 a1 a2 M Q := by
  unfold wR_in
  have s1 : sI a0 = a0 := sIo (by omega) (by omega)
  have s2 : sI a1 = a1 := sIo (by omega) (by omega)
  refine ⟨fun c3 => ?_, fun c3 => ?_⟩
  · skip
    exact hQ _ ⟨(by omega), (by omega), trivial⟩
  · skip
    have s4 : sI a2 = a2 := sIo (by omega) (by omega)
    refine ⟨fun c5 => ?_, fun c5 => ?_⟩
    · skip
      exact hQ _ ⟨(by omega), (by omega), trivial⟩
    · skip
      exact hQ _ ⟨(by omega), (by omega), trivial⟩
set_option maxHeartbeats 4000000 in
set_option maxRecDepth 100000 in
theorem sR_areSounds {M : zM} {a0 : Int} (hB : BI M) (v0 : (-2147483648) ≤ a0 ∧ a0 ≤ 2147483647) {Q : Int → Prop} (hQ : ∀ (z : Int), (0 ≤ z ∧ z ≤ 1) ∧ ((z = 1 ∧ andI a0 (-1023) = 0) ∨ (z = 0 ∧ ¬ (andI a0 (-1023) = 0))) ∧ True → Q z) : wR_areSounds a0 M Q := by
  unfold wR_areSounds
  have q1 := andI_R a0 (-1023)
  refine ⟨fun c2 => ?_, fun c2 => ?_⟩
  · skip
    exact hQ _ ⟨(by omega), (by omega), trivial⟩
  · skip
    exact hQ _ ⟨(by omega), (by omega), trivial⟩
set_option maxHeartbeats 4000000 in
set_option maxRecDepth 100000 in
theorem sR_isRing {M : zM} {a0 : Int} (hB : BI M) (v0 : (-2147483648) ≤ a0 ∧ a0 ≤ 2147483647) {Q : Int → Prop} (hQ : ∀ (z : Int), (0 ≤ z ∧ z ≤ 1) ∧ ((z = 1 ∧ 0 ≤ a0 ∧ a0 < M 0 10 ∧ a0 < 4) ∨ (z = 0 ∧ ¬ (0 ≤ a0 ∧ a0 < M 0 10))) ∧ True → Q z) : wR_isRing a0 M Q := by
  unfold wR_isRing
  have q1 : 0 ≤ (M 0 10) ∧ (M 0 10) ≤ 4 := BN.at hB.1 (rfl : zcd wR 0 = 50) rfl
  refine sR_in hB (by omega) (by omega) (by omega) (fun z2  h3 => ?_)
  obtain ⟨p4, p5, -⟩ := h3
  exact hQ _ ⟨(by omega), (by omega), trivial⟩
set_option maxHeartbeats 4000000 in
set_option maxRecDepth 100000 in
theorem sR_isMotor {M : zM} {a0 : Int} (hB : BI M) (v0 : (-2147483648) ≤ a0 ∧ a0 ≤ 2147483647) {Q : Int → Prop} (hQ : ∀ (z : Int), (0 ≤ z ∧ z ≤ 1) ∧ ((z = 1 ∧ 0 ≤ a0 ∧ a0 ≤ 1) ∨ (z = 0 ∧ ¬ (0 ≤ a0 ∧ a0 ≤ 1))) ∧ True → Q z) : wR_isMotor a0 M Q := by
  unfold wR_isMotor
  have s1 : sI a0 = a0 := sIo (by omega) (by omega)
  refine ⟨fun c2 => ?_, fun c2 => ?_⟩
  · skip
    exact hQ _ ⟨(by omega), (by omega), trivial⟩
  · skip
    refine ⟨fun c3 => ?_, fun c3 => ?_⟩
    · skip
      exact hQ _ ⟨(by omega), (by omega), trivial⟩
    · skip
      exact hQ _ ⟨(by omega), (by omega), trivial⟩
set_option maxHeartbeats 4000000 in
set_option maxRecDepth 100000 in
theorem sR_end {M : zM} {a0 : Int} (hB : BI M) (v0 : (-2147483648) ≤ a0 ∧ a0 ≤ 2147483647) {Q : Int → zM → Prop} (hQ : ∀ (z : Int) (M1 : zM), BI M1 ∧ (∀ j9 k9 : Nat, ¬ (j9 = 0 ∧ k9 = 35 ∨ j9 = 0 ∧ k9 = 1) → M1 j9 k9 = M j9 k9) ∧ (0 ≤ z ∧ z ≤ 1) ∧ ((0 ≤ a0 ∧ a0 ≤ M 0 1 ∧ z = 1 ∧ M1 0 1 = a0) ∨ ((a0 < 0 ∨ M 0 1 < a0) ∧ z = 0 ∧ M1 0 1 = M 0 1)) ∧ True → Q z M1) : wR_end a0 M Q := by
  unfold wR_end
  have hF0 : ∀ j9 k9 : Nat, ¬ (j9 = 0 ∧ k9 = 35 ∨ j9 = 0 ∧ k9 = 1) → M j9 k9 = M j9 k9 := fun j9 k9 _ => rfl
  intro M1 e2
  have hB3 : BI M1 := by rw [e2]; exact BI.up0 hB rfl (by omega) (by omega) (by decide)
  have hF4 : ∀ j9 k9 : Nat, ¬ (j9 = 0 ∧ k9 = 35 ∨ j9 = 0 ∧ k9 = 1) → M1 j9 k9 = M j9 k9 := fun j9 k9 h9 => by rw [e2]; exact (zup_n _ _ (by omega)).trans (hF0 j9 k9 h9)
  have r5 : M1 0 1 = M 0 1 := by rw [e2]; exact zup_n _ _ (by omega)
  have s6 : sI a0 = a0 := sIo (by omega) (by omega)
  refine ⟨fun c7 => ?_, fun c7 => ?_⟩
  · skip
    exact hQ _ _ ⟨hB3, hF4, (by omega), (by omega), trivial⟩
  · skip
    have q8 : 0 ≤ (M1 0 1) ∧ (M1 0 1) ≤ 100 := BN.at hB3.1 (rfl : zcd wR 0 = 50) rfl
    have s9 : sI (M1 0 1) = (M1 0 1) := sIo (by omega) (by omega)
    refine ⟨fun c10 => ?_, fun c10 => ?_⟩
    · skip
      intro M11 e12
      have hB13 : BI M11 := by rw [e12]; exact BI.up0 hB3 rfl (by omega) (by omega) (by decide)
      have hF14 : ∀ j9 k9 : Nat, ¬ (j9 = 0 ∧ k9 = 35 ∨ j9 = 0 ∧ k9 = 1) → M11 j9 k9 = M j9 k9 := fun j9 k9 h9 => by rw [e12]; exact (zup_n _ _ (by omega)).trans (hF4 j9 k9 h9)
      have r15 : M11 0 1 = a0 := by rw [e12]; exact zup_s _ _ _ _
      exact hQ _ _ ⟨hB13, hF14, (by omega), (by omega), trivial⟩
    · skip
      exact hQ _ _ ⟨hB3, hF4, (by omega), (by omega), trivial⟩
/-- the sign at a place is one of these -/
def HS (T : Nat → Int) (s p lo hi : Int) : Prop := (p < s ∧ p < 60) ∧ lo ≤ T p.toNat ∧ T p.toNat ≤ hi
theorem hno {z : Int} {P : Prop} (c : (z = 1 ∧ P) ∨ (z = 0 ∧ ¬ P)) (h : z = 0) : ¬ P := by
  rcases c with c | c
  · omega
  · exact c.2
theorem hyes {z : Int} {P : Prop} (c : (z = 1 ∧ P) ∨ (z = 0 ∧ ¬ P)) (h : z ≠ 0) : P := by
  rcases c with c | c
  · exact c.2
  · omega
theorem sR_has {M : zM} {a0 a1 : Int} (hB : BI M) (v0 : -2147483648 ≤ a0 ∧ a0 ≤ 2147483647) (v1 : -2147483648 ≤ a1 ∧ a1 ≤ 2147483647) {Q : Int → Prop} (hQ : ∀ z, ((0 ≤ z ∧ z ≤ 1) ∧ ((z = 1 ∧ HS (M 1) (M 0 1) (M 0 36) a0 a1) ∨ (z = 0 ∧ ¬ HS (M 1) (M 0 1) (M 0 36) a0 a1)) ∧ True) → Q z) : wR_has a0 a1 M Q := by
  unfold wR_has
  unfold HS at hQ
  have b1 : 0 ≤ M 0 1 ∧ M 0 1 ≤ 100 := BN.at hB.1 (rfl : zcd wR 0 = 50) rfl
  have b2 : 0 ≤ M 0 36 ∧ M 0 36 ≤ 100 := BN.at hB.1 (rfl : zcd wR 0 = 50) rfl
  have b3 : -128 ≤ M 1 (M 0 36).toNat ∧ M 1 (M 0 36).toNat ≤ 127 := BN.at hB.1 (rfl : zcd wR 1 = 51) rfl
  have s1 : sI (M 0 1) = M 0 1 := sIo (by omega) (by omega)
  have s2 : sI (M 0 36) = M 0 36 := sIo (by omega) (by omega)
  have s3 : sI a0 = a0 := sIo (by omega) (by omega)
  have s4 : sI a1 = a1 := sIo (by omega) (by omega)
  have s5 : sI (M 1 (M 0 36).toNat) = M 1 (M 0 36).toNat := sIo (by omega) (by omega)
  rw [s1, s2, s3, s4, s5]
  refine ⟨fun c => hQ _ ⟨by omega, Or.inr ⟨rfl, by omega⟩, trivial⟩, fun c => ⟨fun c2 => hQ _ ⟨by omega, Or.inr ⟨rfl, by omega⟩, trivial⟩, fun c2 => ⟨by omega, fun c3 => hQ _ ⟨by omega, Or.inr ⟨rfl, by omega⟩, trivial⟩, fun c3 => ⟨by omega, fun c4 => hQ _ ⟨by omega, Or.inr ⟨rfl, by omega⟩, trivial⟩, fun c4 => hQ _ ⟨by omega, Or.inl ⟨rfl, by omega⟩, trivial⟩⟩⟩⟩⟩
set_option maxHeartbeats 4000000 in
set_option maxRecDepth 100000 in
theorem sR_isWrong {M : zM}  (hB : BI M)  {Q : Int → zM → Prop} (hQ : ∀ (z : Int) (M1 : zM), BI M1 ∧ (∀ j9 k9 : Nat, ¬ (j9 = 0 ∧ k9 = 37) → M1 j9 k9 = M j9 k9) ∧ (0 ≤ z ∧ z ≤ 1) ∧ (z = 0) ∧ True → Q z M1) : wR_isWrong  M Q := by
  unfold wR_isWrong
  have hF0 : ∀ j9 k9 : Nat, ¬ (j9 = 0 ∧ k9 = 37) → M j9 k9 = M j9 k9 := fun j9 k9 _ => rfl
  have q1 : (-2147483648) ≤ (M 0 37) ∧ (M 0 37) ≤ 2147483647 := BN.at hB.1 (rfl : zcd wR 0 = 50) rfl
  have s2 : sI (M 0 37) = (M 0 37) := sIo (by omega) (by omega)
  refine ⟨fun c3 => ?_, fun c3 => ?_⟩
  · skip
    exact hQ _ _ ⟨hB, hF0, (by omega), (by omega), trivial⟩
  · skip
    have q4 : 0 ≤ (M 0 36) ∧ (M 0 36) ≤ 100 := BN.at hB.1 (rfl : zcd wR 0 = 50) rfl
    intro M5 e6
    have hB7 : BI M5 := by rw [e6]; exact BI.up0 hB rfl (by omega) (by omega) (by decide)
    have hF8 : ∀ j9 k9 : Nat, ¬ (j9 = 0 ∧ k9 = 37) → M5 j9 k9 = M j9 k9 := fun j9 k9 h9 => by rw [e6]; exact (zup_n _ _ (by omega)).trans (hF0 j9 k9 h9)
    have r9 : M5 0 36 = M 0 36 := by rw [e6]; exact zup_n _ _ (by omega)
    have r10 : M5 0 1 = M 0 1 := by rw [e6]; exact zup_n _ _ (by omega)
    exact hQ _ _ ⟨hB7, hF8, (by omega), (by omega), trivial⟩
/-- an atom can begin here -/
def AT (T : Nat → Int) (s p : Int) : Prop := HS T s p 48 57 ∨ HS T s p 91 91 ∨ HS T s p 40 40
/-- what a text can be read as: 0 an atom, 1 a term, 2 a row, 3 digits and a bracket's end, 4 the end of a term, 5 the end of a row; at a depth, from a place to a place; the first number bounds the depth of the reading -/
def SK (T : Nat → Int) (s : Int) : Nat → Nat → Nat → Int → Int → Prop
  | 0, _, _, _, _ => False
  | n + 1, 0, d, p, q => (HS T s p 48 57 ∧ q = p + 1) ∨ (¬ HS T s p 48 57 ∧ HS T s p 91 91 ∧ HS T s (p + 1) 49 57 ∧ SK T s n 3 d (p + 1) q) ∨ (¬ HS T s p 48 57 ∧ ¬ HS T s p 91 91 ∧ HS T s p 40 40 ∧ d ≠ 5 ∧ ∃ r, SK T s n 2 (d + 1) (p + 1) r ∧ HS T s r 41 41 ∧ q = r + 1)
  | n + 1, 1, d, p, q => ∃ r, SK T s n 0 d p r ∧ SK T s n 4 d r q
  | n + 1, 2, d, p, q => ∃ r, SK T s n 1 d p r ∧ SK T s n 5 d r q
  | n + 1, 3, d, p, q => (HS T s p 49 57 ∧ SK T s n 3 d (p + 1) q) ∨ (¬ HS T s p 49 57 ∧ HS T s p 93 93 ∧ q = p + 1)
  | n + 1, 4, d, p, q => (HS T s p 126 126 ∧ SK T s n 4 d (p + 1) q) ∨ (¬ HS T s p 126 126 ∧ HS T s p 42 42 ∧ HS T s (p + 1) 50 57 ∧ SK T s n 4 d (p + 2) q) ∨ (¬ HS T s p 126 126 ∧ ¬ HS T s p 42 42 ∧ q = p)
  | n + 1, 5, d, p, q => (HS T s p 47 47 ∧ HS T s (p + 1) 49 57 ∧ ∃ r, SK T s n 1 d (p + 2) r ∧ SK T s n 5 d r q) ∨ (¬ HS T s p 47 47 ∧ AT T s p ∧ ∃ r, SK T s n 1 d p r ∧ SK T s n 5 d r q) ∨ (¬ HS T s p 47 47 ∧ ¬ AT T s p ∧ q = p)
  | _ + 1, _ + 6, _, _, _ => False
theorem SK_s (T : Nat → Int) (s : Int) : ∀ (n k d : Nat) (p q : Int), SK T s n k d p q → SK T s (n + 1) k d p q := by
  intro n
  induction n with
  | zero => intro k d p q h; exact h.elim
  | succ n ih =>
    intro k d p q h
    match k, h with
    | 0, h =>
      rcases h with h | ⟨a, b, c, e⟩ | ⟨a, b, c, e, r, x, y⟩
      · exact Or.inl h
      · exact Or.inr (Or.inl ⟨a, b, c, ih _ _ _ _ e⟩)
      · exact Or.inr (Or.inr ⟨a, b, c, e, r, ih _ _ _ _ x, y⟩)
    | 1, h =>
      obtain ⟨r, x, y⟩ := h
      exact ⟨r, ih _ _ _ _ x, ih _ _ _ _ y⟩
    | 2, h =>
      obtain ⟨r, x, y⟩ := h
      exact ⟨r, ih _ _ _ _ x, ih _ _ _ _ y⟩
    | 3, h =>
      rcases h with ⟨a, b⟩ | h
      · exact Or.inl ⟨a, ih _ _ _ _ b⟩
      · exact Or.inr h
    | 4, h =>
      rcases h with ⟨a, b⟩ | ⟨a, b, c, e⟩ | h
      · exact Or.inl ⟨a, ih _ _ _ _ b⟩
      · exact Or.inr (Or.inl ⟨a, b, c, ih _ _ _ _ e⟩)
      · exact Or.inr (Or.inr h)
    | 5, h =>
      rcases h with ⟨a, b, r, x, y⟩ | ⟨a, b, r, x, y⟩ | h
      · exact Or.inl ⟨a, b, r, ih _ _ _ _ x, ih _ _ _ _ y⟩
      · exact Or.inr (Or.inl ⟨a, b, r, ih _ _ _ _ x, ih _ _ _ _ y⟩)
      · exact Or.inr (Or.inr h)
    | _ + 6, h => exact h.elim
theorem SK_le {T : Nat → Int} {s : Int} {n m k d : Nat} {p q : Int} (h : SK T s n k d p q) (hm : n ≤ m) : SK T s m k d p q := by
  obtain ⟨i, rfl⟩ := Nat.exists_eq_add_of_le hm
  clear hm
  induction i with
  | zero => exact h
  | succ i ih => exact SK_s T s _ k d p q ih
def PK (T : Nat → Int) (s : Int) (k d : Nat) (p q : Int) : Prop := ∃ n, SK T s n k d p q
theorem PK_and {T : Nat → Int} {s : Int} {k d k2 d2 : Nat} {p q p2 q2 : Int} (h : PK T s k d p q) (h2 : PK T s k2 d2 p2 q2) : ∃ n, SK T s n k d p q ∧ SK T s n k2 d2 p2 q2 := by
  obtain ⟨n, a⟩ := h
  obtain ⟨m, b⟩ := h2
  exact ⟨max n m, SK_le a (Nat.le_max_left _ _), SK_le b (Nat.le_max_right _ _)⟩
theorem SK_det (T : Nat → Int) (s : Int) : ∀ (n k d : Nat) (p q q2 : Int), SK T s n k d p q → SK T s n k d p q2 → q = q2 := by
  intro n
  induction n with
  | zero => intro k d p q q2 h; exact h.elim
  | succ n ih =>
    intro k d p q q2 h h2
    match k, h, h2 with
    | 0, h, h2 =>
      rcases h with ⟨a, b⟩ | ⟨a, b, c, e⟩ | ⟨a, b, c, e, r, x, y, z⟩
      · rcases h2 with ⟨a2, b2⟩ | h2 | h2
        · omega
        · exact absurd a h2.1
        · exact absurd a h2.1
      · rcases h2 with h2 | ⟨a2, b2, c2, e2⟩ | h2
        · exact absurd h2.1 a
        · exact ih _ _ _ _ _ e e2
        · exact absurd b h2.2.1
      · rcases h2 with h2 | h2 | ⟨a2, b2, c2, e2, r2, x2, y2, z2⟩
        · exact absurd h2.1 a
        · exact absurd h2.2.1 b
        · have := ih _ _ _ _ _ x x2
          omega
    | 1, ⟨r, x, y⟩, ⟨r2, x2, y2⟩ =>
      have e := ih _ _ _ _ _ x x2
      subst e
      exact ih _ _ _ _ _ y y2
    | 2, ⟨r, x, y⟩, ⟨r2, x2, y2⟩ =>
      have e := ih _ _ _ _ _ x x2
      subst e
      exact ih _ _ _ _ _ y y2
    | 3, h, h2 =>
      rcases h with ⟨a, b⟩ | ⟨a, b, c⟩
      · rcases h2 with ⟨a2, b2⟩ | h2
        · exact ih _ _ _ _ _ b b2
        · exact absurd a h2.1
      · rcases h2 with h2 | ⟨a2, b2, c2⟩
        · exact absurd h2.1 a
        · omega
    | 4, h, h2 =>
      rcases h with ⟨a, b⟩ | ⟨a, b, c, e⟩ | ⟨a, b, c⟩
      · rcases h2 with ⟨a2, b2⟩ | h2 | h2
        · exact ih _ _ _ _ _ b b2
        · exact absurd a h2.1
        · exact absurd a h2.1
      · rcases h2 with h2 | ⟨a2, b2, c2, e2⟩ | h2
        · exact absurd h2.1 a
        · exact ih _ _ _ _ _ e e2
        · exact absurd b h2.2.1
      · rcases h2 with h2 | h2 | ⟨a2, b2, c2⟩
        · exact absurd h2.1 a
        · exact absurd h2.2.1 b
        · omega
    | 5, h, h2 =>
      rcases h with ⟨a, b, r, x, y⟩ | ⟨a, b, r, x, y⟩ | ⟨a, b, c⟩
      · rcases h2 with ⟨a2, b2, r2, x2, y2⟩ | h2 | h2
        · have e := ih _ _ _ _ _ x x2
          subst e
          exact ih _ _ _ _ _ y y2
        · exact absurd a h2.1
        · exact absurd a h2.1
      · rcases h2 with h2 | ⟨a2, b2, r2, x2, y2⟩ | h2
        · exact absurd h2.1 a
        · have e := ih _ _ _ _ _ x x2
          subst e
          exact ih _ _ _ _ _ y y2
        · exact absurd b h2.2.1
      · rcases h2 with h2 | h2 | ⟨a2, b2, c2⟩
        · exact absurd h2.1 a
        · exact absurd h2.2.1 b
        · omega
    | _ + 6, h, _ => exact h.elim
theorem PK_det {T : Nat → Int} {s : Int} {k d : Nat} {p q q2 : Int} (h : PK T s k d p q) (h2 : PK T s k d p q2) : q = q2 := by
  obtain ⟨n, a, b⟩ := PK_and h h2
  exact SK_det T s n k d p q q2 a b
theorem PK0 {T : Nat → Int} {s : Int} {d : Nat} {p q : Int} : PK T s 0 d p q ↔ (HS T s p 48 57 ∧ q = p + 1) ∨ (¬ HS T s p 48 57 ∧ HS T s p 91 91 ∧ HS T s (p + 1) 49 57 ∧ PK T s 3 d (p + 1) q) ∨ (¬ HS T s p 48 57 ∧ ¬ HS T s p 91 91 ∧ HS T s p 40 40 ∧ d ≠ 5 ∧ ∃ r, PK T s 2 (d + 1) (p + 1) r ∧ HS T s r 41 41 ∧ q = r + 1) := by
  constructor
  · rintro ⟨n, h⟩
    match n, h with
    | n + 1, h =>
      rcases h with h | ⟨a, b, c, e⟩ | ⟨a, b, c, e, r, x, y⟩
      · exact Or.inl h
      · exact Or.inr (Or.inl ⟨a, b, c, n, e⟩)
      · exact Or.inr (Or.inr ⟨a, b, c, e, r, ⟨n, x⟩, y⟩)
  · rintro (h | ⟨a, b, c, n, e⟩ | ⟨a, b, c, e, r, ⟨n, x⟩, y⟩)
    · exact ⟨1, Or.inl h⟩
    · exact ⟨n + 1, Or.inr (Or.inl ⟨a, b, c, e⟩)⟩
    · exact ⟨n + 1, Or.inr (Or.inr ⟨a, b, c, e, r, x, y⟩)⟩
theorem PK1 {T : Nat → Int} {s : Int} {d : Nat} {p q : Int} : PK T s 1 d p q ↔ ∃ r, PK T s 0 d p r ∧ PK T s 4 d r q := by
  constructor
  · rintro ⟨n, h⟩
    match n, h with
    | n + 1, ⟨r, x, y⟩ => exact ⟨r, ⟨n, x⟩, ⟨n, y⟩⟩
  · rintro ⟨r, x, y⟩
    obtain ⟨n, x, y⟩ := PK_and x y
    exact ⟨n + 1, r, x, y⟩
theorem PK2 {T : Nat → Int} {s : Int} {d : Nat} {p q : Int} : PK T s 2 d p q ↔ ∃ r, PK T s 1 d p r ∧ PK T s 5 d r q := by
  constructor
  · rintro ⟨n, h⟩
    match n, h with
    | n + 1, ⟨r, x, y⟩ => exact ⟨r, ⟨n, x⟩, ⟨n, y⟩⟩
  · rintro ⟨r, x, y⟩
    obtain ⟨n, x, y⟩ := PK_and x y
    exact ⟨n + 1, r, x, y⟩
theorem PK3 {T : Nat → Int} {s : Int} {d : Nat} {p q : Int} : PK T s 3 d p q ↔ (HS T s p 49 57 ∧ PK T s 3 d (p + 1) q) ∨ (¬ HS T s p 49 57 ∧ HS T s p 93 93 ∧ q = p + 1) := by
  constructor
  · rintro ⟨n, h⟩
    match n, h with
    | n + 1, h =>
      rcases h with ⟨a, b⟩ | h
      · exact Or.inl ⟨a, n, b⟩
      · exact Or.inr h
  · rintro (⟨a, n, b⟩ | h)
    · exact ⟨n + 1, Or.inl ⟨a, b⟩⟩
    · exact ⟨1, Or.inr h⟩
theorem PK4 {T : Nat → Int} {s : Int} {d : Nat} {p q : Int} : PK T s 4 d p q ↔ (HS T s p 126 126 ∧ PK T s 4 d (p + 1) q) ∨ (¬ HS T s p 126 126 ∧ HS T s p 42 42 ∧ HS T s (p + 1) 50 57 ∧ PK T s 4 d (p + 2) q) ∨ (¬ HS T s p 126 126 ∧ ¬ HS T s p 42 42 ∧ q = p) := by
  constructor
  · rintro ⟨n, h⟩
    match n, h with
    | n + 1, h =>
      rcases h with ⟨a, b⟩ | ⟨a, b, c, e⟩ | h
      · exact Or.inl ⟨a, n, b⟩
      · exact Or.inr (Or.inl ⟨a, b, c, n, e⟩)
      · exact Or.inr (Or.inr h)
  · rintro (⟨a, n, b⟩ | ⟨a, b, c, n, e⟩ | h)
    · exact ⟨n + 1, Or.inl ⟨a, b⟩⟩
    · exact ⟨n + 1, Or.inr (Or.inl ⟨a, b, c, e⟩)⟩
    · exact ⟨1, Or.inr (Or.inr h)⟩
theorem PK5 {T : Nat → Int} {s : Int} {d : Nat} {p q : Int} : PK T s 5 d p q ↔ (HS T s p 47 47 ∧ HS T s (p + 1) 49 57 ∧ ∃ r, PK T s 1 d (p + 2) r ∧ PK T s 5 d r q) ∨ (¬ HS T s p 47 47 ∧ AT T s p ∧ ∃ r, PK T s 1 d p r ∧ PK T s 5 d r q) ∨ (¬ HS T s p 47 47 ∧ ¬ AT T s p ∧ q = p) := by
  constructor
  · rintro ⟨n, h⟩
    match n, h with
    | n + 1, h =>
      rcases h with ⟨a, b, r, x, y⟩ | ⟨a, b, r, x, y⟩ | h
      · exact Or.inl ⟨a, b, r, ⟨n, x⟩, ⟨n, y⟩⟩
      · exact Or.inr (Or.inl ⟨a, b, r, ⟨n, x⟩, ⟨n, y⟩⟩)
      · exact Or.inr (Or.inr h)
  · rintro (⟨a, b, r, x, y⟩ | ⟨a, b, r, x, y⟩ | h)
    · obtain ⟨n, x, y⟩ := PK_and x y
      exact ⟨n + 1, Or.inl ⟨a, b, r, x, y⟩⟩
    · obtain ⟨n, x, y⟩ := PK_and x y
      exact ⟨n + 1, Or.inr (Or.inl ⟨a, b, r, x, y⟩)⟩
    · exact ⟨1, Or.inr (Or.inr h)⟩
/-- what skipping answers: whether the text can be read so, and where that ends -/
def SPost (T : Nat → Int) (s : Int) (k d : Nat) (M : zM) (z : Int) (M1 : zM) : Prop := (BI M1 ∧ (∀ j9 k9 : Nat, ¬ (j9 = 0 ∧ k9 = 36 ∨ j9 = 0 ∧ k9 = 37) → M1 j9 k9 = M j9 k9)) ∧ (0 ≤ M1 0 36 ∧ M1 0 36 ≤ 60) ∧ ((z = 1 ∧ M 0 36 < M1 0 36 ∧ PK T s k d (M 0 36) (M1 0 36)) ∨ (z = 0 ∧ ∀ q, ¬ PK T s k d (M 0 36) q))
def SpR (T : Nat → Int) (s : Int) (k d : Nat) (R : Int → zM → (Int → zM → Prop) → Prop) : Prop := ∀ (M : zM) (Q : Int → zM → Prop), BI M → M 1 = T → M 0 1 = s → (0 ≤ M 0 36 ∧ M 0 36 ≤ 60) → (∀ z M1, SPost T s k d M z M1 → Q z M1) → R (d : Int) M Q
theorem rowF {M M1 : zM} {P : Nat → Nat → Prop} (h : ∀ j9 k9 : Nat, ¬ P j9 k9 → M1 j9 k9 = M j9 k9) (j : Nat) (hj : ∀ k, ¬ P j k) : M1 j = M j := by
  funext k
  exact h j k (hj k)
/-- one place on -/
theorem BIp {M : zM} (h : BI M) {v : Int} (h1 : 0 ≤ v) (h2 : v ≤ 100) : BI (zup M 0 36 v) := BI.up0 h (rfl : cbt 50 36 = (0, 100)) h1 h2 (by decide)
theorem sp_wrong {T : Nat → Int} {s : Int} {k d : Nat} {M0 M : zM} {Q : Int → zM → Prop} (hB : BI M) (hF : ∀ j9 k9 : Nat, ¬ (j9 = 0 ∧ k9 = 36 ∨ j9 = 0 ∧ k9 = 37) → M j9 k9 = M0 j9 k9) (hp : 0 ≤ M 0 36 ∧ M 0 36 ≤ 60) (hn : ∀ q, ¬ PK T s k d (M0 0 36) q) (hQ : ∀ z M1, SPost T s k d M0 z M1 → Q z M1) : wR_isWrong M (fun z M1 => Q z M1) := by
  refine sR_isWrong hB (fun z M1 h => ?_)
  obtain ⟨h1, h2, -, h3, -⟩ := h
  have e : M1 0 36 = M 0 36 := h2 0 36 (by omega)
  exact hQ _ _ ⟨⟨h1, fun j9 k9 h9 => (h2 j9 k9 (by omega)).trans (hF j9 k9 h9)⟩, by omega, Or.inr ⟨h3, hn⟩⟩
theorem sp_atom {T : Nat → Int} {s : Int} {d : Nat} {R : Int → zM → (Int → zM → Prop) → Prop} (hd : d ≤ 5) (hR : d < 5 → SpR T s 2 (d + 1) R) : SpR T s 0 d (wR_skipAtom_F R) := by
  intro M Q hB hT hs hp hQ
  unfold wR_skipAtom_F
  have F0 : ∀ j9 k9 : Nat, ¬ (j9 = 0 ∧ k9 = 36 ∨ j9 = 0 ∧ k9 = 37) → M j9 k9 = M j9 k9 := fun _ _ _ => rfl
  refine sR_has hB (by omega) (by omega) (fun z2 c2 => ?_)
  obtain ⟨-, c2, -⟩ := c2
  rw [hT, hs] at c2
  refine ⟨fun e2 => ?_, fun e2 => ?_⟩
  · have n2 : ¬ HS T s (M 0 36) 48 57 := hno c2 (by omega)
    refine sR_has hB (by omega) (by omega) (fun z7 c7 => ?_)
    obtain ⟨-, c7, -⟩ := c7
    rw [hT, hs] at c7
    refine ⟨fun e7 => ?_, fun e7 => ?_⟩
    · have n7 : ¬ HS T s (M 0 36) 91 91 := hno c7 (by omega)
      refine sR_has hB (by omega) (by omega) (fun z12 c12 => ?_)
      obtain ⟨-, c12, -⟩ := c12
      rw [hT, hs] at c12
      have sd : sI (d : Int) = d := sIo (by omega) (by omega)
      refine ⟨fun e12 => ?_, fun e12 => ?_⟩
      · have n12 : ¬ HS T s (M 0 36) 40 40 := hno c12 (by omega)
        refine sp_wrong hB F0 hp (fun q hq => ?_) hQ
        rcases PK0.mp hq with h | h | h
        · exact n2 h.1
        · exact n7 h.2.1
        · exact n12 h.2.2.1
      · have y12 : HS T s (M 0 36) 40 40 := hyes c12 (by omega)
        rw [sd]
        refine ⟨fun e5 => ?_, fun e5 => ?_⟩
        · intro M20 e20
          have pl : M 0 36 < 60 := y12.1.2
          have hB20 : BI M20 := by rw [e20]; exact BIp hB (by omega) (by omega)
          have F20 : ∀ j9 k9 : Nat, ¬ (j9 = 0 ∧ k9 = 36) → M20 j9 k9 = M j9 k9 := fun j9 k9 h9 => by rw [e20]; exact zup_n _ _ h9
          have p20 : M20 0 36 = M 0 36 + 1 := by rw [e20]; exact zup_s _ _ _ _
          refine hR (by omega) M20 _ hB20 ((rowF F20 1 (by omega)).trans hT) ((F20 0 1 (by omega)).trans hs) (by omega) (fun z23 M22 h22 => ?_)
          obtain ⟨⟨hB22, F22⟩, p22, h22⟩ := h22
          rw [p20] at h22
          have T22 : M22 1 = T := (rowF F22 1 (by omega)).trans ((rowF F20 1 (by omega)).trans hT)
          have S22 : M22 0 1 = s := (F22 0 1 (by omega)).trans ((F20 0 1 (by omega)).trans hs)
          have F2 : ∀ j9 k9 : Nat, ¬ (j9 = 0 ∧ k9 = 36 ∨ j9 = 0 ∧ k9 = 37) → M22 j9 k9 = M j9 k9 := fun j9 k9 h9 => (F22 j9 k9 h9).trans (F20 j9 k9 (by omega))
          refine ⟨fun e23 => ?_, fun e23 => ?_⟩
          · rcases h22 with ⟨-, lt, pk⟩ | ⟨h, -⟩
            · refine sR_has hB22 (by omega) (by omega) (fun z27 c27 => ?_)
              obtain ⟨-, c27, -⟩ := c27
              rw [T22, S22] at c27
              refine ⟨fun e27 => ?_, fun e27 => ?_⟩
              · have y27 : HS T s (M22 0 36) 41 41 := hyes c27 (by omega)
                have pl2 : M22 0 36 < 60 := y27.1.2
                intro M31 e31
                have p31 : M31 0 36 = M22 0 36 + 1 := by rw [e31]; exact zup_s _ _ _ _
                refine hQ _ _ ⟨⟨by rw [e31]; exact BIp hB22 (by omega) (by omega), fun j9 k9 h9 => by rw [e31, zup_n _ _ (by omega)]; exact F2 j9 k9 h9⟩, by omega, Or.inl ⟨rfl, by omega, ?_⟩⟩
                rw [p31]
                exact PK0.mpr (Or.inr (Or.inr ⟨n2, n7, y12, by omega, _, pk, y27, rfl⟩))
              · have n27 : ¬ HS T s (M22 0 36) 41 41 := hno c27 (by omega)
                refine sp_wrong hB22 F2 p22 (fun q hq => ?_) hQ
                rcases PK0.mp hq with h | h | h
                · exact n2 h.1
                · exact n7 h.2.1
                · obtain ⟨-, -, -, -, r, x, y, -⟩ := h
                  rw [PK_det x pk] at y
                  exact n27 y
            · exact absurd h e23
          · rcases h22 with ⟨h, -⟩ | ⟨-, h⟩
            · omega
            · refine hQ _ _ ⟨⟨hB22, F2⟩, p22, Or.inr ⟨rfl, fun q hq => ?_⟩⟩
              rcases PK0.mp hq with h0 | h0 | h0
              · exact n2 h0.1
              · exact n7 h0.2.1
              · obtain ⟨-, -, -, -, r, x, -⟩ := h0
                exact h r x
        · refine sp_wrong hB F0 hp (fun q hq => ?_) hQ
          rcases PK0.mp hq with h | h | h
          · exact n2 h.1
          · exact n7 h.2.1
          · omega
    · have y7 : HS T s (M 0 36) 91 91 := hyes c7 (by omega)
      intro M39 e39
      have pl : M 0 36 < 60 := y7.1.2
      have hB39 : BI M39 := by rw [e39]; exact BIp hB (by omega) (by omega)
      have F39 : ∀ j9 k9 : Nat, ¬ (j9 = 0 ∧ k9 = 36) → M39 j9 k9 = M j9 k9 := fun j9 k9 h9 => by rw [e39]; exact zup_n _ _ h9
      have p39 : M39 0 36 = M 0 36 + 1 := by rw [e39]; exact zup_s _ _ _ _
      have T39 : M39 1 = T := (rowF F39 1 (by omega)).trans hT
      have S39 : M39 0 1 = s := (F39 0 1 (by omega)).trans hs
      refine sR_has hB39 (by omega) (by omega) (fun z42 c42 => ?_)
      obtain ⟨-, c42, -⟩ := c42
      rw [T39, S39] at c42
      refine ⟨fun e42 => ?_, fun e42 => ?_⟩
      · have y42 : HS T s (M39 0 36) 49 57 := hyes c42 (by omega)
        have y43 := y42
        rw [p39] at y43
        refine wL0_of (fun N => BI N ∧ (∀ j9 k9 : Nat, ¬ (j9 = 0 ∧ k9 = 36 ∨ j9 = 0 ∧ k9 = 37) → N j9 k9 = M j9 k9) ∧ (M 0 36 < N 0 36 ∧ N 0 36 ≤ 60) ∧ (∀ q, PK T s 0 d (M 0 36) q ↔ PK T s 3 d (N 0 36) q)) (fun N => (100 - N 0 36).toNat) ⟨hB39, fun j9 k9 h9 => F39 j9 k9 (by omega), by omega, fun q => ?_⟩ (fun K N hI hK => ?_)
        · rw [p39]
          constructor
          · intro h
            rcases PK0.mp h with h | h | h
            · exact absurd h.1 n2
            · exact h.2.2.2
            · exact absurd y7 h.2.1
          · exact fun h => PK0.mpr (Or.inr (Or.inl ⟨n2, y7, y43, h⟩))
        · obtain ⟨hBN, FN, pN, eN⟩ := hI
          have TN : N 1 = T := (rowF FN 1 (by omega)).trans hT
          have SN : N 0 1 = s := (FN 0 1 (by omega)).trans hs
          refine sR_has hBN (by omega) (by omega) (fun z55 c55 => ?_)
          obtain ⟨-, c55, -⟩ := c55
          rw [TN, SN] at c55
          refine ⟨fun e55 => ?_, fun e55 => ?_⟩
          · have n55 : ¬ HS T s (N 0 36) 49 57 := hno c55 (by omega)
            refine sR_has hBN (by omega) (by omega) (fun z60 c60 => ?_)
            obtain ⟨-, c60, -⟩ := c60
            rw [TN, SN] at c60
            refine ⟨fun e60 => ?_, fun e60 => ?_⟩
            · have y60 : HS T s (N 0 36) 93 93 := hyes c60 (by omega)
              have pl2 : N 0 36 < 60 := y60.1.2
              intro M64 e64
              have p64 : M64 0 36 = N 0 36 + 1 := by rw [e64]; exact zup_s _ _ _ _
              refine hQ _ _ ⟨⟨by rw [e64]; exact BIp hBN (by omega) (by omega), fun j9 k9 h9 => by rw [e64, zup_n _ _ (by omega)]; exact FN j9 k9 h9⟩, by omega, Or.inl ⟨rfl, by omega, ?_⟩⟩
              rw [p64]
              exact (eN _).mpr (PK3.mpr (Or.inr ⟨n55, y60, rfl⟩))
            · have n60 : ¬ HS T s (N 0 36) 93 93 := hno c60 (by omega)
              refine sp_wrong hBN FN (by omega) (fun q hq => ?_) hQ
              rcases PK3.mp ((eN q).mp hq) with h | h
              · exact n55 h.1
              · exact n60 h.2.1
          · have y55 : HS T s (N 0 36) 49 57 := hyes c55 (by omega)
            have pl2 : N 0 36 < 60 := y55.1.2
            intro M69 e69
            have p69 : M69 0 36 = N 0 36 + 1 := by rw [e69]; exact zup_s _ _ _ _
            refine hK _ ⟨by rw [e69]; exact BIp hBN (by omega) (by omega), fun j9 k9 h9 => by rw [e69, zup_n _ _ (by omega)]; exact FN j9 k9 h9, by omega, fun q => ?_⟩ (by omega)
            rw [eN q, p69]
            constructor
            · intro h
              rcases PK3.mp h with h | h
              · exact h.2
              · exact absurd y55 h.1
            · exact fun h => PK3.mpr (Or.inl ⟨y55, h⟩)
      · have n42 : ¬ HS T s (M39 0 36) 49 57 := hno c42 (by omega)
        rw [p39] at n42
        refine sp_wrong hB39 (fun j9 k9 h9 => F39 j9 k9 (by omega)) (by omega) (fun q hq => ?_) hQ
        rcases PK0.mp hq with h | h | h
        · exact n2 h.1
        · exact n42 h.2.2.1
        · exact h.2.1 y7
  · have y2 : HS T s (M 0 36) 48 57 := hyes c2 (by omega)
    have pl : M 0 36 < 60 := y2.1.2
    intro M76 e76
    have p76 : M76 0 36 = M 0 36 + 1 := by rw [e76]; exact zup_s _ _ _ _
    refine hQ _ _ ⟨⟨by rw [e76]; exact BIp hB (by omega) (by omega), fun j9 k9 h9 => by rw [e76]; exact zup_n _ _ (by omega)⟩, by omega, Or.inl ⟨rfl, by omega, ?_⟩⟩
    rw [p76]
    exact PK0.mpr (Or.inl ⟨y2, rfl⟩)
theorem sp_term {T : Nat → Int} {s : Int} {d : Nat} {R : Int → zM → (Int → zM → Prop) → Prop} (hR : SpR T s 0 d R) : SpR T s 1 d (wR_skipTerm_F R) := by
  intro M Q hB hT hs hp hQ
  unfold wR_skipTerm_F
  refine hR M _ hB hT hs hp (fun z2 M1 h1 => ?_)
  obtain ⟨⟨hB1, F1⟩, p1, h1⟩ := h1
  refine ⟨fun e2 => ?_, fun e2 => ?_⟩
  · rcases h1 with ⟨-, lt, pk⟩ | ⟨h, -⟩
    · refine wL0_of (fun N => BI N ∧ (∀ j9 k9 : Nat, ¬ (j9 = 0 ∧ k9 = 36 ∨ j9 = 0 ∧ k9 = 37) → N j9 k9 = M j9 k9) ∧ (M 0 36 < N 0 36 ∧ N 0 36 ≤ 60) ∧ (∀ q, PK T s 1 d (M 0 36) q ↔ PK T s 4 d (N 0 36) q)) (fun N => (100 - N 0 36).toNat) ⟨hB1, F1, by omega, fun q => ?_⟩ (fun K N hI hK => ?_)
      · constructor
        · intro h
          obtain ⟨r, x, y⟩ := PK1.mp h
          rw [PK_det x pk] at y
          exact y
        · exact fun h => PK1.mpr ⟨_, pk, h⟩
      · obtain ⟨hBN, FN, pN, eN⟩ := hI
        have TN : N 1 = T := (rowF FN 1 (by omega)).trans hT
        have SN : N 0 1 = s := (FN 0 1 (by omega)).trans hs
        refine sR_has hBN (by omega) (by omega) (fun z14 c14 => ?_)
        obtain ⟨-, c14, -⟩ := c14
        rw [TN, SN] at c14
        refine ⟨fun e14 => ?_, fun e14 => ?_⟩
        · have n14 : ¬ HS T s (N 0 36) 126 126 := hno c14 (by omega)
          refine sR_has hBN (by omega) (by omega) (fun z19 c19 => ?_)
          obtain ⟨-, c19, -⟩ := c19
          rw [TN, SN] at c19
          refine ⟨fun e19 => ?_, fun e19 => ?_⟩
          · have n19 : ¬ HS T s (N 0 36) 42 42 := hno c19 (by omega)
            exact hQ _ _ ⟨⟨hBN, FN⟩, by omega, Or.inl ⟨rfl, by omega, (eN _).mpr (PK4.mpr (Or.inr (Or.inr ⟨n14, n19, rfl⟩)))⟩⟩
          · have y19 : HS T s (N 0 36) 42 42 := hyes c19 (by omega)
            have pl : N 0 36 < 60 := y19.1.2
            intro M23 e23
            have p23 : M23 0 36 = N 0 36 + 1 := by rw [e23]; exact zup_s _ _ _ _
            have hB23 : BI M23 := by rw [e23]; exact BIp hBN (by omega) (by omega)
            have F23 : ∀ j9 k9 : Nat, ¬ (j9 = 0 ∧ k9 = 36 ∨ j9 = 0 ∧ k9 = 37) → M23 j9 k9 = M j9 k9 := fun j9 k9 h9 => by rw [e23, zup_n _ _ (by omega)]; exact FN j9 k9 h9
            refine sR_has hB23 (by omega) (by omega) (fun z26 c26 => ?_)
            obtain ⟨-, c26, -⟩ := c26
            rw [(rowF F23 1 (by omega)).trans hT, (F23 0 1 (by omega)).trans hs, p23] at c26
            refine ⟨fun e26 => ?_, fun e26 => ?_⟩
            · have y26 : HS T s (N 0 36 + 1) 50 57 := hyes c26 (by omega)
              have pl2 : N 0 36 + 1 < 60 := y26.1.2
              intro M30 e30
              have p30 : M30 0 36 = N 0 36 + 2 := by rw [e30, zup_s]; omega
              refine hK _ ⟨by rw [e30]; exact BIp hB23 (by omega) (by omega), fun j9 k9 h9 => by rw [e30, zup_n _ _ (by omega)]; exact F23 j9 k9 h9, by omega, fun q => ?_⟩ (by omega)
              rw [eN q, p30]
              constructor
              · intro h
                rcases PK4.mp h with h | h | h
                · exact absurd h.1 n14
                · exact h.2.2.2
                · exact absurd y19 h.2.1
              · exact fun h => PK4.mpr (Or.inr (Or.inl ⟨n14, y19, y26, h⟩))
            · have n26 : ¬ HS T s (N 0 36 + 1) 50 57 := hno c26 (by omega)
              refine sp_wrong hB23 F23 (by omega) (fun q hq => ?_) hQ
              rcases PK4.mp ((eN q).mp hq) with h | h | h
              · exact n14 h.1
              · exact n26 h.2.2.1
              · exact h.2.1 y19
        · have y14 : HS T s (N 0 36) 126 126 := hyes c14 (by omega)
          have pl : N 0 36 < 60 := y14.1.2
          intro M37 e37
          have p37 : M37 0 36 = N 0 36 + 1 := by rw [e37]; exact zup_s _ _ _ _
          refine hK _ ⟨by rw [e37]; exact BIp hBN (by omega) (by omega), fun j9 k9 h9 => by rw [e37, zup_n _ _ (by omega)]; exact FN j9 k9 h9, by omega, fun q => ?_⟩ (by omega)
          rw [eN q, p37]
          constructor
          · intro h
            rcases PK4.mp h with h | h | h
            · exact h.2
            · exact absurd y14 h.1
            · exact absurd y14 h.1
          · exact fun h => PK4.mpr (Or.inl ⟨y14, h⟩)
    · exact absurd h e2
  · rcases h1 with ⟨h, -⟩ | ⟨-, h⟩
    · omega
    · refine hQ _ _ ⟨⟨hB1, F1⟩, p1, Or.inr ⟨rfl, fun q hq => ?_⟩⟩
      obtain ⟨r, x, -⟩ := PK1.mp hq
      exact h r x
theorem sp_row {T : Nat → Int} {s : Int} {d : Nat} {R : Int → zM → (Int → zM → Prop) → Prop} (hR : SpR T s 1 d R) : SpR T s 2 d (wR_skipRow_F R) := by
  intro M Q hB hT hs hp hQ
  unfold wR_skipRow_F
  refine hR M _ hB hT hs hp (fun z2 M1 h1 => ?_)
  obtain ⟨⟨hB1, F1⟩, p1, h1⟩ := h1
  refine ⟨fun e2 => ?_, fun e2 => ?_⟩
  · rcases h1 with ⟨-, lt, pk⟩ | ⟨h, -⟩
    · refine wL0_of (fun N => BI N ∧ (∀ j9 k9 : Nat, ¬ (j9 = 0 ∧ k9 = 36 ∨ j9 = 0 ∧ k9 = 37) → N j9 k9 = M j9 k9) ∧ (M 0 36 < N 0 36 ∧ N 0 36 ≤ 60) ∧ (∀ q, PK T s 2 d (M 0 36) q ↔ PK T s 5 d (N 0 36) q)) (fun N => (100 - N 0 36).toNat) ⟨hB1, F1, by omega, fun q => ?_⟩ (fun K N hI hK => ?_)
      · constructor
        · intro h
          obtain ⟨r, x, y⟩ := PK2.mp h
          rw [PK_det x pk] at y
          exact y
        · exact fun h => PK2.mpr ⟨_, pk, h⟩
      · obtain ⟨hBN, FN, pN, eN⟩ := hI
        have TN : N 1 = T := (rowF FN 1 (by omega)).trans hT
        have SN : N 0 1 = s := (FN 0 1 (by omega)).trans hs
        have at_ : ¬ HS T s (N 0 36) 47 47 → AT T s (N 0 36) → R (d : Int) N (fun z M' => (z ≠ 0 → K M') ∧ (z = 0 → Q 0 M')) := by
          intro n14 ha
          refine hR N _ hBN TN SN (by omega) (fun z M' hz => ?_)
          obtain ⟨⟨hB', F'⟩, p', hz⟩ := hz
          have F2 : ∀ j9 k9 : Nat, ¬ (j9 = 0 ∧ k9 = 36 ∨ j9 = 0 ∧ k9 = 37) → M' j9 k9 = M j9 k9 := fun j9 k9 h9 => (F' j9 k9 h9).trans (FN j9 k9 h9)
          refine ⟨fun ez => ?_, fun ez => ?_⟩
          · rcases hz with ⟨-, lt2, pk2⟩ | ⟨h, -⟩
            · refine hK _ ⟨hB', F2, by omega, fun q => ?_⟩ (by omega)
              rw [eN q]
              constructor
              · intro h
                rcases PK5.mp h with h | ⟨-, -, r, x, y⟩ | h
                · exact absurd h.1 n14
                · rw [PK_det x pk2] at y
                  exact y
                · exact absurd ha h.2.1
              · exact fun h => PK5.mpr (Or.inr (Or.inl ⟨n14, ha, _, pk2, h⟩))
            · exact absurd h ez
          · rcases hz with ⟨h, -⟩ | ⟨-, hz⟩
            · omega
            · refine hQ _ _ ⟨⟨hB', F2⟩, p', Or.inr ⟨rfl, fun q hq => ?_⟩⟩
              rcases PK5.mp ((eN q).mp hq) with h | ⟨-, -, r, x, -⟩ | h
              · exact n14 h.1
              · exact hz r x
              · exact h.2.1 ha
        refine sR_has hBN (by omega) (by omega) (fun z14 c14 => ?_)
        obtain ⟨-, c14, -⟩ := c14
        rw [TN, SN] at c14
        refine ⟨fun e14 => ?_, fun e14 => ?_⟩
        · have n14 : ¬ HS T s (N 0 36) 47 47 := hno c14 (by omega)
          refine sR_has hBN (by omega) (by omega) (fun z19 c19 => ?_)
          obtain ⟨-, c19, -⟩ := c19
          rw [TN, SN] at c19
          refine ⟨fun e19 => at_ n14 (Or.inl (hyes c19 (by omega))), fun e19 => ?_⟩
          have n19 : ¬ HS T s (N 0 36) 48 57 := hno c19 (by omega)
          refine sR_has hBN (by omega) (by omega) (fun z30 c30 => ?_)
          obtain ⟨-, c30, -⟩ := c30
          rw [TN, SN] at c30
          refine ⟨fun e30 => at_ n14 (Or.inr (Or.inl (hyes c30 (by omega)))), fun e30 => ?_⟩
          have n30 : ¬ HS T s (N 0 36) 91 91 := hno c30 (by omega)
          refine sR_has hBN (by omega) (by omega) (fun z41 c41 => ?_)
          obtain ⟨-, c41, -⟩ := c41
          rw [TN, SN] at c41
          refine ⟨fun e41 => ?_, fun e41 => at_ n14 (Or.inr (Or.inr (hyes c41 (by omega))))⟩
          have n41 : ¬ HS T s (N 0 36) 40 40 := hno c41 (by omega)
          refine hQ _ _ ⟨⟨hBN, FN⟩, by omega, Or.inl ⟨rfl, by omega, (eN _).mpr (PK5.mpr (Or.inr (Or.inr ⟨n14, ?_, rfl⟩)))⟩⟩
          rintro (h | h | h)
          · exact n19 h
          · exact n30 h
          · exact n41 h
        · have y14 : HS T s (N 0 36) 47 47 := hyes c14 (by omega)
          have pl : N 0 36 < 60 := y14.1.2
          intro M51 e51
          have p51 : M51 0 36 = N 0 36 + 1 := by rw [e51]; exact zup_s _ _ _ _
          have hB51 : BI M51 := by rw [e51]; exact BIp hBN (by omega) (by omega)
          have F51 : ∀ j9 k9 : Nat, ¬ (j9 = 0 ∧ k9 = 36 ∨ j9 = 0 ∧ k9 = 37) → M51 j9 k9 = M j9 k9 := fun j9 k9 h9 => by rw [e51, zup_n _ _ (by omega)]; exact FN j9 k9 h9
          refine sR_has hB51 (by omega) (by omega) (fun z54 c54 => ?_)
          obtain ⟨-, c54, -⟩ := c54
          rw [(rowF F51 1 (by omega)).trans hT, (F51 0 1 (by omega)).trans hs, p51] at c54
          refine ⟨fun e54 => ?_, fun e54 => ?_⟩
          · have y54 : HS T s (N 0 36 + 1) 49 57 := hyes c54 (by omega)
            have pl2 : N 0 36 + 1 < 60 := y54.1.2
            intro M58 e58
            have p58 : M58 0 36 = N 0 36 + 2 := by rw [e58, zup_s]; omega
            have hB58 : BI M58 := by rw [e58]; exact BIp hB51 (by omega) (by omega)
            have F58 : ∀ j9 k9 : Nat, ¬ (j9 = 0 ∧ k9 = 36 ∨ j9 = 0 ∧ k9 = 37) → M58 j9 k9 = M j9 k9 := fun j9 k9 h9 => by rw [e58, zup_n _ _ (by omega)]; exact F51 j9 k9 h9
            refine hR M58 _ hB58 ((rowF F58 1 (by omega)).trans hT) ((F58 0 1 (by omega)).trans hs) (by omega) (fun z M' hz => ?_)
            obtain ⟨⟨hB', F'⟩, p', hz⟩ := hz
            rw [p58] at hz
            have F2 : ∀ j9 k9 : Nat, ¬ (j9 = 0 ∧ k9 = 36 ∨ j9 = 0 ∧ k9 = 37) → M' j9 k9 = M j9 k9 := fun j9 k9 h9 => (F' j9 k9 h9).trans (F58 j9 k9 h9)
            refine ⟨fun ez => ?_, fun ez => ?_⟩
            · rcases hz with ⟨-, lt2, pk2⟩ | ⟨h, -⟩
              · refine hK _ ⟨hB', F2, by omega, fun q => ?_⟩ (by omega)
                rw [eN q]
                constructor
                · intro h
                  rcases PK5.mp h with ⟨-, -, r, x, y⟩ | h | h
                  · rw [PK_det x pk2] at y
                    exact y
                  · exact absurd y14 h.1
                  · exact absurd y14 h.1
                · exact fun h => PK5.mpr (Or.inl ⟨y14, y54, _, pk2, h⟩)
              · exact absurd h ez
            · rcases hz with ⟨h, -⟩ | ⟨-, hz⟩
              · omega
              · refine hQ _ _ ⟨⟨hB', F2⟩, p', Or.inr ⟨rfl, fun q hq => ?_⟩⟩
                rcases PK5.mp ((eN q).mp hq) with ⟨-, -, r, x, -⟩ | h | h
                · exact hz r x
                · exact h.1 y14
                · exact h.1 y14
          · have n54 : ¬ HS T s (N 0 36 + 1) 49 57 := hno c54 (by omega)
            refine sp_wrong hB51 F51 (by omega) (fun q hq => ?_) hQ
            rcases PK5.mp ((eN q).mp hq) with h | h | h
            · exact n54 h.2.1
            · exact h.1 y14
            · exact h.1 y14
    · exact absurd h e2
  · rcases h1 with ⟨h, -⟩ | ⟨-, h⟩
    · omega
    · refine hQ _ _ ⟨⟨hB1, F1⟩, p1, Or.inr ⟨rfl, fun q hq => ?_⟩⟩
      obtain ⟨r, x, -⟩ := PK2.mp hq
      exact h r x
theorem sp_skip (T : Nat → Int) (s : Int) : ∀ (n d : Nat), d ≤ 5 → 6 ≤ n + d → SpR T s 2 d (wR_skipRow n) := by
  intro n
  induction n with
  | zero => intro d h1 h2; omega
  | succ n ih =>
    intro d h1 h2
    show SpR T s 2 d (wR_skipRow_F (wR_skipTerm_F (wR_skipAtom_F (wR_skipRow n))))
    exact sp_row (sp_term (sp_atom h1 (fun h => ih (d + 1) (by omega) (by omega))))
/-- the end of a term, as it is put together -/
def wR_mtTail (a0 : Int) (Q : Int → zM → Prop) (N : zM) : Prop := wL0 (fun K254 M34 => wR_has 126 126 M34 (fun z43 => pJ0 (fun J276 => (z43 ≠ 0 → J276) ∧ (z43 = 0 → wR_has 42 42 M34 (fun z113 => (z113 = 0 → Q 0 M34) ∧ (z113 ≠ 0 → J276)))) (((0 ≤ (sI a0) ∧ (sI a0) < 6) ∧ wR_has 126 126 M34 (fun z56 => (z56 = 0 → ((0 ≤ (sI ((M34 0 36) + 1)) ∧ (sI ((M34 0 36) + 1)) < 100) ∧ (∀ t61 : Int, t61 = ((M34 1 (sI ((M34 0 36) + 1)).toNat) - 48) → (∀ M63 : zM, M63 = zup M34 0 36 ((M34 0 36) + 2) → ((sI ((M34 26 (sI a0).toNat) * t61)) ≤ 24 → wL1 (fun K413 x66 M67 => ((sI ((M34 26 (sI a0).toNat) * t61)) ≤ (sI x66) → ((0 ≤ (sI a0) ∧ (sI a0) < 6) ∧ (∀ M77 : zM, M77 = zup M67 26 (sI a0).toNat ((M34 26 (sI a0).toNat) * t61) → K254 M77))) ∧ ((sI x66) < (sI ((M34 26 (sI a0).toNat) * t61)) → ((0 ≤ (sI (((24 * a0) + x66) - (M34 26 (sI a0).toNat))) ∧ (sI (((24 * a0) + x66) - (M34 26 (sI a0).toNat))) < 144) ∧ ((0 ≤ (sI ((24 * a0) + x66)) ∧ (sI ((24 * a0) + x66)) < 144) ∧ (∀ M83 : zM, M83 = zup M67 25 (sI ((24 * a0) + x66)).toNat (M67 25 (sI (((24 * a0) + x66) - (M34 26 (sI a0).toNat))).toNat) → K413 (x66 + 1) M83))))) (M34 26 (sI a0).toNat) M63) ∧ (24 < (sI ((M34 26 (sI a0).toNat) * t61)) → Q (-100) M63))))) ∧ (z56 ≠ 0 → (∀ M87 : zM, M87 = zup M34 0 36 ((M34 0 36) + 1) → wL1 (fun K307 x89 M90 => ((sI ((sI (M34 26 (sI a0).toNat)).tdiv 2)) ≤ (sI x89) → K254 M90) ∧ ((sI x89) < (sI ((sI (M34 26 (sI a0).toNat)).tdiv 2)) → ((0 ≤ (sI ((24 * a0) + x89)) ∧ (sI ((24 * a0) + x89)) < 144) ∧ ((0 ≤ (sI ((((24 * a0) + (M34 26 (sI a0).toNat)) - 1) - x89)) ∧ (sI ((((24 * a0) + (M34 26 (sI a0).toNat)) - 1) - x89)) < 144) ∧ ((0 ≤ (sI ((24 * a0) + x89)) ∧ (sI ((24 * a0) + x89)) < 144) ∧ (∀ M104 : zM, M104 = zup M90 25 (sI ((24 * a0) + x89)).toNat (M90 25 (sI ((((24 * a0) + (M34 26 (sI a0).toNat)) - 1) - x89)).toNat) → ((0 ≤ (sI ((((24 * a0) + (M34 26 (sI a0).toNat)) - 1) - x89)) ∧ (sI ((((24 * a0) + (M34 26 (sI a0).toNat)) - 1) - x89)) < 144) ∧ (∀ M107 : zM, M107 = zup M104 25 (sI ((((24 * a0) + (M34 26 (sI a0).toNat)) - 1) - x89)).toNat (M90 25 (sI ((24 * a0) + x89)).toNat) → K307 (x89 + 1) M107)))))))) 0 M87))))))) N
/-- the end of a row, as it is put together -/
def wR_mrTail (R9 : Int → zM → (Int → zM → Prop) → Prop) (a0 : Int) (Q : Int → zM → Prop) (N : zM) : Prop := wL0 (fun K64 M20 => wR_has 47 47 M20 (fun z29 => pJ0 (fun J108 => (z29 ≠ 0 → J108) ∧ (z29 = 0 → wR_has 48 57 M20 (fun z115 => (z115 ≠ 0 → J108) ∧ (z115 = 0 → wR_has 91 91 M20 (fun z120 => (z120 ≠ 0 → J108) ∧ (z120 = 0 → wR_has 40 40 M20 (fun z125 => (z125 = 0 → Q 0 M20) ∧ (z125 ≠ 0 → J108)))))))) (wR_has 47 47 M20 (fun z51 => wJ1 (fun J146 => (z51 = 0 → J146 0 M20) ∧ (z51 ≠ 0 → ((0 ≤ (sI ((M20 0 36) + 1)) ∧ (sI ((M20 0 36) + 1)) < 100) ∧ (∀ t109 : Int, t109 = ((M20 1 (sI ((M20 0 36) + 1)).toNat) - 48) → (∀ M111 : zM, M111 = zup M20 0 36 ((M20 0 36) + 2) → J146 t109 M111))))) (fun (x60 : Int) (M61 : zM) => R9 a0 M61 (fun z65 M64 => (0 ≤ z65 → ((0 ≤ (sI a0) ∧ (sI a0) < 6) ∧ ((sI (M64 24 (sI a0).toNat)) < (sI x60) → Q (-101) M64) ∧ ((sI x60) ≤ (sI (M64 24 (sI a0).toNat)) → ((0 ≤ (sI a0) ∧ (sI a0) < 6) ∧ ((sI x60) ≤ (sI (M64 26 (sI a0).toNat)) → ((0 ≤ (sI a0) ∧ (sI a0) < 6) ∧ ((0 ≤ (sI a0) ∧ (sI a0) < 6) ∧ ((sI (((M64 24 (sI a0).toNat) - x60) + (M64 26 (sI a0).toNat))) ≤ 24 → wL1 (fun K211 x75 M76 => ((0 ≤ (sI a0) ∧ (sI a0) < 6) ∧ ((sI (M76 26 (sI a0).toNat)) ≤ (sI x75) → ((0 ≤ (sI a0) ∧ (sI a0) < 6) ∧ ((0 ≤ (sI a0) ∧ (sI a0) < 6) ∧ (∀ M88 : zM, M88 = zup M76 24 (sI a0).toNat (((M64 24 (sI a0).toNat) - x60) + (M76 26 (sI a0).toNat)) → K64 M88)))) ∧ ((sI x75) < (sI (M76 26 (sI a0).toNat)) → (∀ t92 : Int, t92 = (((24 * a0) + ((M64 24 (sI a0).toNat) - x60)) + x75) → ((0 ≤ (sI ((24 * a0) + x75)) ∧ (sI ((24 * a0) + x75)) < 144) ∧ ((sI x60) ≤ (sI x75) → ((0 ≤ (sI t92) ∧ (sI t92) < 144) ∧ (∀ M97 : zM, M97 = zup M76 23 (sI t92).toNat (orI (M76 25 (sI ((24 * a0) + x75)).toNat) 0) → K211 (x75 + 1) M97))) ∧ ((sI x75) < (sI x60) → ((0 ≤ (sI t92) ∧ (sI t92) < 144) ∧ ((0 ≤ (sI t92) ∧ (sI t92) < 144) ∧ (∀ M103 : zM, M103 = zup M76 23 (sI t92).toNat (orI (M76 25 (sI ((24 * a0) + x75)).toNat) (M76 23 (sI t92).toNat)) → K211 (x75 + 1) M103))))))))) 0 M64) ∧ (24 < (sI (((M64 24 (sI a0).toNat) - x60) + (M64 26 (sI a0).toNat))) → Q (-100) M64)))) ∧ ((sI (M64 26 (sI a0).toNat)) < (sI x60) → Q (-101) M64))))) ∧ (z65 < 0 → Q z65 M64))))))) N
theorem PK_le {T : Nat → Int} {s : Int} : ∀ (n k d : Nat) (p q : Int), SK T s n k d p q → p ≤ q := by
  intro n
  induction n with
  | zero => intro k d p q h; exact h.elim
  | succ n ih =>
    intro k d p q h
    match k, h with
    | 0, h =>
      rcases h with h | ⟨a, b, c, e⟩ | ⟨a, b, c, e, r, x, y⟩
      · omega
      · have := ih _ _ _ _ e
        omega
      · have := ih _ _ _ _ x
        omega
    | 1, ⟨r, x, y⟩ =>
      have := ih _ _ _ _ x
      have := ih _ _ _ _ y
      omega
    | 2, ⟨r, x, y⟩ =>
      have := ih _ _ _ _ x
      have := ih _ _ _ _ y
      omega
    | 3, h =>
      rcases h with ⟨a, b⟩ | h
      · have := ih _ _ _ _ b
        omega
      · omega
    | 4, h =>
      rcases h with ⟨a, b⟩ | ⟨a, b, c, e⟩ | h
      · have := ih _ _ _ _ b
        omega
      · have := ih _ _ _ _ e
        omega
      · omega
    | 5, h =>
      rcases h with ⟨a, b, r, x, y⟩ | ⟨a, b, r, x, y⟩ | h
      · have := ih _ _ _ _ x
        have := ih _ _ _ _ y
        omega
      · have := ih _ _ _ _ x
        have := ih _ _ _ _ y
        omega
      · omega
    | _ + 6, h => exact h.elim
theorem PK_lt {T : Nat → Int} {s : Int} {d : Nat} {p q : Int} (h : PK T s 1 d p q) : p < q := by
  obtain ⟨r, x, y⟩ := PK1.mp h
  obtain ⟨n, y⟩ := y
  have h1 := PK_le n 4 d r q y
  rcases PK0.mp x with h | ⟨-, -, -, m, h⟩ | ⟨-, -, -, -, r2, ⟨m, h⟩, -, e⟩
  · omega
  · have := PK_le m 3 d (p + 1) r h
    omega
  · have := PK_le m 2 (d + 1) (p + 1) r2 h
    omega
end zz31_R00
section zz31_R01
set_option maxHeartbeats 4000000 in
set_option maxRecDepth 100000 in
theorem sR_hand {M : zM} {a0 : Int} (hB : BI M) (v0 : (-2147483648) ≤ a0 ∧ a0 ≤ 2147483647) {Q : Int → zM → Prop} (hQ : ∀ (z : Int) (M1 : zM), BI M1 ∧ (∀ j9 k9 : Nat, ¬ (j9 = 0 ∧ k9 = 35) → M1 j9 k9 = M j9 k9) ∧ ((-2147483648) ≤ z ∧ z ≤ 2147483647) ∧ True → Q z M1) : wR_hand a0 M Q := by
  unfold wR_hand
  have hF0 : ∀ j9 k9 : Nat, ¬ (j9 = 0 ∧ k9 = 35) → M j9 k9 = M j9 k9 := fun j9 k9 _ => rfl
  intro M1 e2
  have hB3 : BI M1 := by rw [e2]; exact BI.up0 hB rfl (by omega) (by omega) (by decide)
  have hF4 : ∀ j9 k9 : Nat, ¬ (j9 = 0 ∧ k9 = 35) → M1 j9 k9 = M j9 k9 := fun j9 k9 h9 => by rw [e2]; exact (zup_n _ _ (by omega)).trans (hF0 j9 k9 h9)
  have q5 : 0 ≤ (M1 0 3) ∧ (M1 0 3) ≤ 24 := BN.at hB3.1 (rfl : zcd wR 0 = 50) rfl
  refine sR_in hB3 (by omega) (by omega) (by omega) (fun z6  h7 => ?_)
  obtain ⟨p8, p9, -⟩ := h7
  refine ⟨fun c10 => ?_, fun c10 => ?_⟩
  · skip
    exact hQ _ _ ⟨hB3, hF4, (by omega), trivial⟩
  · skip
    have s11 : sI a0 = a0 := sIo (by omega) (by omega)
    have o12 : 0 ≤ (sI a0) ∧ (sI a0) < 24 := by omega
    refine ⟨o12, ?_⟩
    have q13 : (-2147483648) ≤ (M1 2 (sI a0).toNat) ∧ (M1 2 (sI a0).toNat) ≤ 2147483647 := BN.at hB3.1 (rfl : zcd wR 2 = 52) rfl
    have s14 : sI (M1 2 (sI a0).toNat) = (M1 2 (sI a0).toNat) := sIo (by omega) (by omega)
    exact hQ _ _ ⟨hB3, hF4, (by omega), trivial⟩
end zz31_R01
section zz31_R02
set_option maxHeartbeats 4000000 in
set_option maxRecDepth 100000 in
theorem sR_count {M : zM} {a0 : Int} (hB : BI M) (v0 : (-2147483648) ≤ a0 ∧ a0 ≤ 2147483647) {Q : Int → zM → Prop} (hQ : ∀ (z : Int) (M1 : zM), BI M1 ∧ (∀ j9 k9 : Nat, ¬ (j9 = 0 ∧ k9 = 35) → M1 j9 k9 = M j9 k9) ∧ ((-2147483648) ≤ z ∧ z ≤ 2147483647) ∧ True → Q z M1) : wR_count a0 M Q := by
  unfold wR_count
  have hF0 : ∀ j9 k9 : Nat, ¬ (j9 = 0 ∧ k9 = 35) → M j9 k9 = M j9 k9 := fun j9 k9 _ => rfl
  intro M1 e2
  have hB3 : BI M1 := by rw [e2]; exact BI.up0 hB rfl (by omega) (by omega) (by decide)
  have hF4 : ∀ j9 k9 : Nat, ¬ (j9 = 0 ∧ k9 = 35) → M1 j9 k9 = M j9 k9 := fun j9 k9 h9 => by rw [e2]; exact (zup_n _ _ (by omega)).trans (hF0 j9 k9 h9)
  have s5 : sI a0 = a0 := sIo (by omega) (by omega)
  refine ⟨fun c6 => ?_, fun c6 => ?_⟩
  · skip
    have q7 : 0 ≤ (M1 0 10) ∧ (M1 0 10) ≤ 4 := BN.at hB3.1 (rfl : zcd wR 0 = 50) rfl
    have s8 : sI (M1 0 10) = (M1 0 10) := sIo (by omega) (by omega)
    exact hQ _ _ ⟨hB3, hF4, (by omega), trivial⟩
  refine ⟨fun c9 => ?_, fun c9 => ?_⟩
  · skip
    have q10 : 0 ≤ (M1 0 16) ∧ (M1 0 16) ≤ 6 := BN.at hB3.1 (rfl : zcd wR 0 = 50) rfl
    have s11 : sI (M1 0 16) = (M1 0 16) := sIo (by omega) (by omega)
    exact hQ _ _ ⟨hB3, hF4, (by omega), trivial⟩
  refine ⟨fun c12 => ?_, fun c12 => ?_⟩
  · skip
    have q13 : 0 ≤ (M1 0 24) ∧ (M1 0 24) ≤ 60 := BN.at hB3.1 (rfl : zcd wR 0 = 50) rfl
    have s14 : sI (M1 0 24) = (M1 0 24) := sIo (by omega) (by omega)
    exact hQ _ _ ⟨hB3, hF4, (by omega), trivial⟩
  refine ⟨fun c15 => ?_, fun c15 => ?_⟩
  · skip
    have q16 : 0 ≤ (M1 0 27) ∧ (M1 0 27) ≤ 5 := BN.at hB3.1 (rfl : zcd wR 0 = 50) rfl
    have s17 : sI (M1 0 27) = (M1 0 27) := sIo (by omega) (by omega)
    exact hQ _ _ ⟨hB3, hF4, (by omega), trivial⟩
  refine ⟨fun c18 => ?_, fun c18 => ?_⟩
  · skip
    have q19 : 0 ≤ (M1 0 32) ∧ (M1 0 32) ≤ 16 := BN.at hB3.1 (rfl : zcd wR 0 = 50) rfl
    have s20 : sI (M1 0 32) = (M1 0 32) := sIo (by omega) (by omega)
    exact hQ _ _ ⟨hB3, hF4, (by omega), trivial⟩
  refine ⟨fun c21 => ?_, fun c21 => ?_⟩
  · skip
    have q22 : (-1) ≤ (M1 0 34) ∧ (M1 0 34) ≤ 64 := BN.at hB3.1 (rfl : zcd wR 0 = 50) rfl
    have s23 : sI (M1 0 34) = (M1 0 34) := sIo (by omega) (by omega)
    exact hQ _ _ ⟨hB3, hF4, (by omega), trivial⟩
  refine ⟨fun c24 => ?_, fun c24 => ?_⟩
  · skip
    have q25 : 0 ≤ (M1 0 1) ∧ (M1 0 1) ≤ 100 := BN.at hB3.1 (rfl : zcd wR 0 = 50) rfl
    have s26 : sI (M1 0 1) = (M1 0 1) := sIo (by omega) (by omega)
    exact hQ _ _ ⟨hB3, hF4, (by omega), trivial⟩
  refine ⟨fun c27 => ?_, fun c27 => ?_⟩
  · skip
    have q28 : 0 ≤ (M1 0 3) ∧ (M1 0 3) ≤ 24 := BN.at hB3.1 (rfl : zcd wR 0 = 50) rfl
    have s29 : sI (M1 0 3) = (M1 0 3) := sIo (by omega) (by omega)
    exact hQ _ _ ⟨hB3, hF4, (by omega), trivial⟩
  exact hQ _ _ ⟨hB3, hF4, (by omega), trivial⟩
theorem sR_common : ∀ (n : Nat) {M : zM} {a0 a1 : Int} (hB : BI M) (v0 : 0 ≤ a0 ∧ a0 ≤ 2147483647) (v1 : 0 ≤ a1 ∧ a1 < n) {Q : Int → Prop} (hQ : ∀ z, ((0 ≤ z ∧ z ≤ 2147483647) ∧ z = (Nat.gcd a0.toNat a1.toNat : Int) ∧ True) → Q z), n ≤ 2147483647 → wR_common n a0 a1 M Q := by
  intro n
  induction n with
  | zero => intro M a0 a1 hB v0 v1; omega
  | succ n ih =>
    intro M a0 a1 hB v0 v1 Q hQ hn
    show wR_common_F (wR_common n) a0 a1 M Q
    unfold wR_common_F
    have s0 : sI a0 = a0 := sIo (by omega) (by omega)
    have s1 : sI a1 = a1 := sIo (by omega) (by omega)
    rw [s0, s1]
    refine ⟨fun c => ⟨c, ?_⟩, fun c => ?_⟩
    · have t := tmodN a0 a1 v0.1 (by omega)
      refine ih hB (by omega) (by omega) (fun z hp => hQ z ⟨hp.1, ?_, trivial⟩) (by omega)
      rw [hp.2.1, Int.tmod_eq_emod_of_nonneg v0.1]
      have e : (a0 % a1).toNat = a0.toNat % a1.toNat := by
        rw [Int.toNat_emod v0.1 v1.1]
      rw [e, Nat.gcd_comm, ← Nat.gcd_rec, Nat.gcd_comm]
    · refine hQ _ ⟨by omega, ?_, trivial⟩
      rw [c, show (0 : Int).toNat = 0 from rfl, Nat.gcd_zero_right]
      omega
set_option maxHeartbeats 4000000 in
set_option maxRecDepth 100000 in
theorem sR_steady {M : zM} {a0 : Int} (hB : BI M) (v0 : 0 ≤ a0 ∧ a0 ≤ 1) {Q : Int → Prop} (hQ : ∀ (z : Int), (0 ≤ z ∧ z ≤ 5000) ∧ True → Q z) : wR_steady a0 M Q := by
  unfold wR_steady
  have s1 : sI a0 = a0 := sIo (by omega) (by omega)
  have o2 : 0 ≤ (sI a0) ∧ (sI a0) < 2 := by omega
  refine ⟨o2, ?_⟩
  have q3 : 0 ≤ (M 11 (sI a0).toNat) ∧ (M 11 (sI a0).toNat) ≤ 12 := BN.at hB.1 (rfl : zcd wR 11 = 61) rfl
  have s4 : sI (M 11 (sI a0).toNat) = (M 11 (sI a0).toNat) := sIo (by omega) (by omega)
  refine ⟨fun c5 => ?_, fun c5 => ?_⟩
  · skip
    have o6 : 0 ≤ (sI a0) ∧ (sI a0) < 2 := by omega
    refine ⟨o6, ?_⟩
    have s8 : sI (((12 * a0) + (M 11 (sI a0).toNat)) - 1) = (((12 * a0) + (M 11 (sI a0).toNat)) - 1) := sIo (by omega) (by omega)
    have o9 : 0 ≤ (sI (((12 * a0) + (M 11 (sI a0).toNat)) - 1)) ∧ (sI (((12 * a0) + (M 11 (sI a0).toNat)) - 1)) < 24 := by omega
    refine ⟨o9, ?_⟩
    have q10 : 0 ≤ (M 9 (sI (((12 * a0) + (M 11 (sI a0).toNat)) - 1)).toNat) ∧ (M 9 (sI (((12 * a0) + (M 11 (sI a0).toNat)) - 1)).toNat) ≤ 5000 := BN.at hB.1 (rfl : zcd wR 9 = 59) rfl
    have s11 : sI (M 9 (sI (((12 * a0) + (M 11 (sI a0).toNat)) - 1)).toNat) = (M 9 (sI (((12 * a0) + (M 11 (sI a0).toNat)) - 1)).toNat) := sIo (by omega) (by omega)
    exact hQ _ ⟨(by omega), trivial⟩
  · skip
    exact hQ _ ⟨(by omega), trivial⟩
set_option maxHeartbeats 4000000 in
set_option maxRecDepth 100000 in
theorem sR_lastSpeed {M : zM} {a0 : Int} (hB : BI M) (v0 : 0 ≤ a0 ∧ a0 ≤ 1) {Q : Int → Prop} (hQ : ∀ (z : Int), ((-9) ≤ z ∧ z ≤ 9) ∧ True → Q z) : wR_lastSpeed a0 M Q := by
  unfold wR_lastSpeed
  have s1 : sI a0 = a0 := sIo (by omega) (by omega)
  have o2 : 0 ≤ (sI a0) ∧ (sI a0) < 2 := by omega
  refine ⟨o2, ?_⟩
  have q3 : 0 ≤ (M 11 (sI a0).toNat) ∧ (M 11 (sI a0).toNat) ≤ 12 := BN.at hB.1 (rfl : zcd wR 11 = 61) rfl
  have s4 : sI (M 11 (sI a0).toNat) = (M 11 (sI a0).toNat) := sIo (by omega) (by omega)
  refine ⟨fun c5 => ?_, fun c5 => ?_⟩
  · skip
    have o6 : 0 ≤ (sI a0) ∧ (sI a0) < 2 := by omega
    refine ⟨o6, ?_⟩
    have s8 : sI (((12 * a0) + (M 11 (sI a0).toNat)) - 1) = (((12 * a0) + (M 11 (sI a0).toNat)) - 1) := sIo (by omega) (by omega)
    have o9 : 0 ≤ (sI (((12 * a0) + (M 11 (sI a0).toNat)) - 1)) ∧ (sI (((12 * a0) + (M 11 (sI a0).toNat)) - 1)) < 24 := by omega
    refine ⟨o9, ?_⟩
    have q10 : (-9) ≤ (M 10 (sI (((12 * a0) + (M 11 (sI a0).toNat)) - 1)).toNat) ∧ (M 10 (sI (((12 * a0) + (M 11 (sI a0).toNat)) - 1)).toNat) ≤ 9 := BN.at hB.1 (rfl : zcd wR 10 = 60) rfl
    have s11 : sI (M 10 (sI (((12 * a0) + (M 11 (sI a0).toNat)) - 1)).toNat) = (M 10 (sI (((12 * a0) + (M 11 (sI a0).toNat)) - 1)).toNat) := sIo (by omega) (by omega)
    exact hQ _ ⟨(by omega), trivial⟩
  · skip
    exact hQ _ ⟨(by omega), trivial⟩
theorem gcd_b (x y : Int) (hx : 1 ≤ x) : 1 ≤ (Nat.gcd x.toNat y.toNat : Int) ∧ (Nat.gcd x.toNat y.toNat : Int) ≤ x := by
  have h1 : 0 < Nat.gcd x.toNat y.toNat := Nat.gcd_pos_of_pos_left _ (by omega)
  have h2 : Nat.gcd x.toNat y.toNat ≤ x.toNat := Nat.gcd_le_left _ (by omega)
  omega
theorem tdiv1 (x y : Int) (h1 : 1 ≤ y) (h2 : y ≤ x) : 1 ≤ x.tdiv y ∧ x.tdiv y ≤ x := by
  have h := tdivB x y (by omega) h1
  refine ⟨?_, h.2⟩
  rw [Int.tdiv_eq_ediv_of_nonneg (by omega)]
  exact (Int.le_ediv_iff_mul_le (by omega)).mpr (by omega)
theorem sR_round {M : zM} {a0 : Int} (hB : BI M) (v0 : 0 ≤ a0 ∧ a0 ≤ 3) (p0 : a0 < M 0 10) {Q : Int → Prop} (hQ : ∀ z, ((1 ≤ z ∧ z ≤ 24) ∧ True) → Q z) : wR_round a0 M Q := by
  unfold wR_round
  have s0 : sI a0 = a0 := sIo (by omega) (by omega)
  rw [s0]
  refine ⟨by omega, by omega, by omega, ?_⟩
  have b5 : 0 ≤ M 5 a0.toNat ∧ M 5 a0.toNat ≤ 1 := BN.at hB.1 (rfl : zcd wR 5 = 55) rfl
  have b4 : 0 ≤ M 4 a0.toNat ∧ M 4 a0.toNat ≤ 24 := BN.at hB.1 (rfl : zcd wR 4 = 54) rfl
  have c4 : 1 ≤ M 4 a0.toNat := hB.2 _ (by omega) (by omega)
  have s4 : sI (M 4 a0.toNat) = M 4 a0.toNat := sIo (by omega) (by omega)
  refine sR_lastSpeed hB (by omega) (fun z5 hp => ?_)
  have ab := absI_b z5
  refine sR_common 48 hB (by omega) (by omega) (fun z9 hp9 => ?_) (by omega)
  have g := gcd_b (M 4 a0.toNat) (absI z5) c4
  have e := hp9.2.1
  rw [s4]
  have t := tdiv1 (M 4 a0.toNat) z9 (by omega) (by omega)
  refine ⟨by omega, ?_⟩
  rw [sIo (by omega) (by omega)]
  exact hQ _ ⟨by omega, trivial⟩
set_option maxHeartbeats 4000000 in
set_option maxRecDepth 100000 in
theorem sR_of {M : zM} {a0 : Int} {a1 : Int} (hB : BI M) (v0 : (-2147483648) ≤ a0 ∧ a0 ≤ 2147483647) (v1 : (-2147483648) ≤ a1 ∧ a1 ≤ 2147483647) {Q : Int → zM → Prop} (hQ : ∀ (z : Int) (M1 : zM), BI M1 ∧ (∀ j9 k9 : Nat, ¬ (j9 = 0 ∧ k9 = 35) → M1 j9 k9 = M j9 k9) ∧ ((-2147483648) ≤ z ∧ z ≤ 2147483647) ∧ True → Q z M1) : wR_of a0 a1 M Q := by
  unfold wR_of
  have hF0 : ∀ j9 k9 : Nat, ¬ (j9 = 0 ∧ k9 = 35) → M j9 k9 = M j9 k9 := fun j9 k9 _ => rfl
  intro M1 e2
  have hB3 : BI M1 := by rw [e2]; exact BI.up0 hB rfl (by omega) (by omega) (by decide)
  have hF4 : ∀ j9 k9 : Nat, ¬ (j9 = 0 ∧ k9 = 35) → M1 j9 k9 = M j9 k9 := fun j9 k9 h9 => by rw [e2]; exact (zup_n _ _ (by omega)).trans (hF0 j9 k9 h9)
  refine sR_isRing hB3 (by omega) (fun z5  h6 => ?_)
  obtain ⟨p7, p8, -⟩ := h6
  refine ⟨fun c9 => ?_, fun c9 => ?_⟩
  · skip
    intro M10 e11
    have hB12 : BI M10 := by rw [e11]; exact BI.up0 hB3 rfl (by omega) (by omega) (by decide)
    have hF13 : ∀ j9 k9 : Nat, ¬ (j9 = 0 ∧ k9 = 35) → M10 j9 k9 = M j9 k9 := fun j9 k9 h9 => by rw [e11]; exact (zup_n _ _ (by omega)).trans (hF4 j9 k9 h9)
    exact hQ _ _ ⟨hB12, hF13, (by omega), trivial⟩
  · skip
    refine sR_in hB3 (by omega) (by omega) (by omega) (fun z14  h15 => ?_)
    obtain ⟨p16, p17, -⟩ := h15
    refine ⟨fun c18 => ?_, fun c18 => ?_⟩
    · skip
      have s19 : sI a1 = a1 := sIo (by omega) (by omega)
      refine ⟨fun c20 => ?_, fun c20 => ?_⟩
      · skip
        have s21 : sI a0 = a0 := sIo (by omega) (by omega)
        have o22 : 0 ≤ (sI a0) ∧ (sI a0) < 4 := by omega
        refine ⟨o22, ?_⟩
        have q23 : 0 ≤ (M1 4 (sI a0).toNat) ∧ (M1 4 (sI a0).toNat) ≤ 24 := BN.at hB3.1 (rfl : zcd wR 4 = 54) rfl
        have q24 : (((sI a0).toNat : Nat) : Int) < M1 0 10 → 1 ≤ (M1 4 (sI a0).toNat) := hB3.2 _ (by omega)
        have q25 : 0 ≤ M1 0 10 ∧ M1 0 10 ≤ 4 := BN.at hB3.1 (rfl : zcd wR 0 = 50) rfl
        have s26 : sI (M1 4 (sI a0).toNat) = (M1 4 (sI a0).toNat) := sIo (by omega) (by omega)
        exact hQ _ _ ⟨hB3, hF4, (by omega), trivial⟩
      refine ⟨fun c27 => ?_, fun c27 => ?_⟩
      · skip
        have s28 : sI a0 = a0 := sIo (by omega) (by omega)
        have o29 : 0 ≤ (sI a0) ∧ (sI a0) < 4 := by omega
        refine ⟨o29, ?_⟩
        have q30 : 0 ≤ (M1 5 (sI a0).toNat) ∧ (M1 5 (sI a0).toNat) ≤ 1 := BN.at hB3.1 (rfl : zcd wR 5 = 55) rfl
        have s31 : sI (M1 5 (sI a0).toNat) = (M1 5 (sI a0).toNat) := sIo (by omega) (by omega)
        exact hQ _ _ ⟨hB3, hF4, (by omega), trivial⟩
      refine ⟨fun c32 => ?_, fun c32 => ?_⟩
      · skip
        have s33 : sI a0 = a0 := sIo (by omega) (by omega)
        have o34 : 0 ≤ (sI a0) ∧ (sI a0) < 4 := by omega
        refine ⟨o34, ?_⟩
        have q35 : 0 ≤ (M1 6 (sI a0).toNat) ∧ (M1 6 (sI a0).toNat) ≤ 23 := BN.at hB3.1 (rfl : zcd wR 6 = 56) rfl
        have s36 : sI (M1 6 (sI a0).toNat) = (M1 6 (sI a0).toNat) := sIo (by omega) (by omega)
        exact hQ _ _ ⟨hB3, hF4, (by omega), trivial⟩
      refine ⟨fun c37 => ?_, fun c37 => ?_⟩
      · skip
        have s38 : sI a0 = a0 := sIo (by omega) (by omega)
        have o39 : 0 ≤ (sI a0) ∧ (sI a0) < 4 := by omega
        refine ⟨o39, ?_⟩
        have q40 : (-2147483648) ≤ (M1 7 (sI a0).toNat) ∧ (M1 7 (sI a0).toNat) ≤ 2147483647 := BN.at hB3.1 (rfl : zcd wR 7 = 57) rfl
        have s41 : sI (M1 7 (sI a0).toNat) = (M1 7 (sI a0).toNat) := sIo (by omega) (by omega)
        exact hQ _ _ ⟨hB3, hF4, (by omega), trivial⟩
      refine ⟨fun c42 => ?_, fun c42 => ?_⟩
      · skip
        refine sR_round hB3 (by omega) (by omega) (fun z43  h44 => ?_)
        obtain ⟨p45, -⟩ := h44
        exact hQ _ _ ⟨hB3, hF4, (by omega), trivial⟩
      have s46 : sI a0 = a0 := sIo (by omega) (by omega)
      have o47 : 0 ≤ (sI a0) ∧ (sI a0) < 4 := by omega
      refine ⟨o47, ?_⟩
      have q48 : (-2147483648) ≤ (M1 8 (sI a0).toNat) ∧ (M1 8 (sI a0).toNat) ≤ 2147483647 := BN.at hB3.1 (rfl : zcd wR 8 = 58) rfl
      have s49 : sI (M1 8 (sI a0).toNat) = (M1 8 (sI a0).toNat) := sIo (by omega) (by omega)
      exact hQ _ _ ⟨hB3, hF4, (by omega), trivial⟩
    · skip
      intro M50 e51
      have hB52 : BI M50 := by rw [e51]; exact BI.up0 hB3 rfl (by omega) (by omega) (by decide)
      have hF53 : ∀ j9 k9 : Nat, ¬ (j9 = 0 ∧ k9 = 35) → M50 j9 k9 = M j9 k9 := fun j9 k9 h9 => by rw [e51]; exact (zup_n _ _ (by omega)).trans (hF4 j9 k9 h9)
      exact hQ _ _ ⟨hB52, hF53, (by omega), trivial⟩
set_option maxHeartbeats 4000000 in
set_option maxRecDepth 100000 in
theorem sR_inch {M : zM} {a0 : Int} {a1 : Int} (hB : BI M) (v0 : (-2147483648) ≤ a0 ∧ a0 ≤ 2147483647) (v1 : (-2147483648) ≤ a1 ∧ a1 ≤ 2147483647) {Q : Int → zM → Prop} (hQ : ∀ (z : Int) (M1 : zM), BI M1 ∧ (∀ j9 k9 : Nat, ¬ (j9 = 0 ∧ k9 = 35) → M1 j9 k9 = M j9 k9) ∧ ((-2147483648) ≤ z ∧ z ≤ 2147483647) ∧ True → Q z M1) : wR_inch a0 a1 M Q := by
  unfold wR_inch
  have hF0 : ∀ j9 k9 : Nat, ¬ (j9 = 0 ∧ k9 = 35) → M j9 k9 = M j9 k9 := fun j9 k9 _ => rfl
  intro M1 e2
  have hB3 : BI M1 := by rw [e2]; exact BI.up0 hB rfl (by omega) (by omega) (by decide)
  have hF4 : ∀ j9 k9 : Nat, ¬ (j9 = 0 ∧ k9 = 35) → M1 j9 k9 = M j9 k9 := fun j9 k9 h9 => by rw [e2]; exact (zup_n _ _ (by omega)).trans (hF0 j9 k9 h9)
  refine sR_isRing hB3 (by omega) (fun z5  h6 => ?_)
  obtain ⟨p7, p8, -⟩ := h6
  refine ⟨fun c9 => ?_, fun c9 => ?_⟩
  · skip
    exact hQ _ _ ⟨hB3, hF4, (by omega), trivial⟩
  · skip
    have s10 : sI a0 = a0 := sIo (by omega) (by omega)
    have o11 : 0 ≤ (sI a0) ∧ (sI a0) < 4 := by omega
    refine ⟨o11, ?_⟩
    have q12 : 0 ≤ (M1 4 (sI a0).toNat) ∧ (M1 4 (sI a0).toNat) ≤ 24 := BN.at hB3.1 (rfl : zcd wR 4 = 54) rfl
    have q13 : (((sI a0).toNat : Nat) : Int) < M1 0 10 → 1 ≤ (M1 4 (sI a0).toNat) := hB3.2 _ (by omega)
    have q14 : 0 ≤ M1 0 10 ∧ M1 0 10 ≤ 4 := BN.at hB3.1 (rfl : zcd wR 0 = 50) rfl
    refine sR_in hB3 (by omega) (by omega) (by omega) (fun z15  h16 => ?_)
    obtain ⟨p17, p18, -⟩ := h16
    refine ⟨fun c19 => ?_, fun c19 => ?_⟩
    · skip
      exact hQ _ _ ⟨hB3, hF4, (by omega), trivial⟩
    · skip
      have s20 := sI_R ((24 * a0) + a1)
      have s21 := sI_or ((24 * a0) + a1)
      have o22 : 0 ≤ (sI ((24 * a0) + a1)) ∧ (sI ((24 * a0) + a1)) < 96 := by omega
      refine ⟨o22, ?_⟩
      have q23 : (-2147483648) ≤ (M1 3 (sI ((24 * a0) + a1)).toNat) ∧ (M1 3 (sI ((24 * a0) + a1)).toNat) ≤ 2147483647 := BN.at hB3.1 (rfl : zcd wR 3 = 53) rfl
      have s24 : sI (M1 3 (sI ((24 * a0) + a1)).toNat) = (M1 3 (sI ((24 * a0) + a1)).toNat) := sIo (by omega) (by omega)
      exact hQ _ _ ⟨hB3, hF4, (by omega), trivial⟩
set_option maxHeartbeats 4000000 in
set_option maxRecDepth 100000 in
theorem sR_wayEarly {M : zM} {a0 : Int} {a1 : Int} (hB : BI M) (v0 : 0 ≤ a0 ∧ a0 ≤ 1) {Q : Int → Prop} (hQ : ∀ (z : Int), ((-9223372036854775808) ≤ z ∧ z ≤ 9223372036854775807) ∧ True → Q z) : wR_wayEarly a0 a1 M Q := by
  unfold wR_wayEarly
  refine pL4_of (fun x1 x2 x3 x4 => (0 ≤ x4 ∧ x4 ≤ 1000000) ∧ True) (fun x1 x2 x3 x4 => (1000000 - x4).toNat) ⟨(by omega), trivial⟩ (fun K x1 x2 x3 x4 h6 k7 => ?_)
  obtain ⟨i5, -⟩ := h6
  have s8 : sI a0 = a0 := sIo (by omega) (by omega)
  have o9 : 0 ≤ (sI a0) ∧ (sI a0) < 2 := by omega
  refine ⟨o9, ?_⟩
  have q10 : 0 ≤ (M 11 (sI a0).toNat) ∧ (M 11 (sI a0).toNat) ≤ 12 := BN.at hB.1 (rfl : zcd wR 11 = 61) rfl
  have s11 : sI x4 = x4 := sIo (by omega) (by omega)
  have s12 : sI (M 11 (sI a0).toNat) = (M 11 (sI a0).toNat) := sIo (by omega) (by omega)
  refine pJ0_dup ?_
  refine ⟨fun c13 => ?_, fun c13 => ?_⟩
  · skip
    have s14 := sI_R x3
    have s15 := sI_or x3
    have s16 := sL_R (x1 + ((sI x3) * (a1 - x2)))
    have s17 := sL_or (x1 + ((sI x3) * (a1 - x2)))
    exact hQ _ ⟨(by omega), trivial⟩
  · skip
    have s18 : sI ((12 * a0) + x4) = ((12 * a0) + x4) := sIo (by omega) (by omega)
    have o19 : 0 ≤ (sI ((12 * a0) + x4)) ∧ (sI ((12 * a0) + x4)) < 24 := by omega
    refine ⟨o19, ?_⟩
    have q20 : 0 ≤ (M 9 (sI ((12 * a0) + x4)).toNat) ∧ (M 9 (sI ((12 * a0) + x4)).toNat) ≤ 5000 := BN.at hB.1 (rfl : zcd wR 9 = 59) rfl
    have s21 : sI (M 9 (sI ((12 * a0) + x4)).toNat) = (M 9 (sI ((12 * a0) + x4)).toNat) := sIo (by omega) (by omega)
    have s22 := sL_R a1
    have s23 := sL_or a1
    refine ⟨fun c24 => ?_, fun c24 => ?_⟩
    · skip
      have s25 := sI_R x3
      have s26 := sI_or x3
      have s27 := sL_R (x1 + ((sI x3) * (a1 - x2)))
      have s28 := sL_or (x1 + ((sI x3) * (a1 - x2)))
      exact hQ _ ⟨(by omega), trivial⟩
    · skip
      have s29 := sI_R x3
      have s30 := sI_or x3
      have o31 : 0 ≤ (sI ((12 * a0) + x4)) ∧ (sI ((12 * a0) + x4)) < 24 := by omega
      refine ⟨o31, ?_⟩
      intro t33 e34
      have o35 : 0 ≤ (sI ((12 * a0) + x4)) ∧ (sI ((12 * a0) + x4)) < 24 := by omega
      refine ⟨o35, ?_⟩
      have o37 : 0 ≤ (sI ((12 * a0) + x4)) ∧ (sI ((12 * a0) + x4)) < 24 := by omega
      refine ⟨o37, ?_⟩
      have q38 : (-9) ≤ (M 10 (sI ((12 * a0) + x4)).toNat) ∧ (M 10 (sI ((12 * a0) + x4)).toNat) ≤ 9 := BN.at hB.1 (rfl : zcd wR 10 = 60) rfl
      exact k7 _ _ _ _ ⟨(by omega), trivial⟩ (by omega)
set_option maxHeartbeats 4000000 in
set_option maxRecDepth 100000 in
theorem sR_way {M : zM} {a0 : Int} {a1 : Int} (hB : BI M) (v0 : (-2147483648) ≤ a0 ∧ a0 ≤ 2147483647) (v1 : (-2147483648) ≤ a1 ∧ a1 ≤ 2147483647) {Q : Int → zM → Prop} (hQ : ∀ (z : Int) (M1 : zM), BI M1 ∧ (∀ j9 k9 : Nat, ¬ (j9 = 0 ∧ k9 = 35) → M1 j9 k9 = M j9 k9) ∧ ((-9223372036854775808) ≤ z ∧ z ≤ 9223372036854775807) ∧ True → Q z M1) : wR_way a0 a1 M Q := by
  unfold wR_way
  have hF0 : ∀ j9 k9 : Nat, ¬ (j9 = 0 ∧ k9 = 35) → M j9 k9 = M j9 k9 := fun j9 k9 _ => rfl
  intro M1 e2
  have hB3 : BI M1 := by rw [e2]; exact BI.up0 hB rfl (by omega) (by omega) (by decide)
  have hF4 : ∀ j9 k9 : Nat, ¬ (j9 = 0 ∧ k9 = 35) → M1 j9 k9 = M j9 k9 := fun j9 k9 h9 => by rw [e2]; exact (zup_n _ _ (by omega)).trans (hF0 j9 k9 h9)
  refine sR_isMotor hB3 (by omega) (fun z5  h6 => ?_)
  obtain ⟨p7, p8, -⟩ := h6
  refine ⟨fun c9 => ?_, fun c9 => ?_⟩
  · skip
    intro M10 e11
    have hB12 : BI M10 := by rw [e11]; exact BI.up0 hB3 rfl (by omega) (by omega) (by decide)
    have hF13 : ∀ j9 k9 : Nat, ¬ (j9 = 0 ∧ k9 = 35) → M10 j9 k9 = M j9 k9 := fun j9 k9 h9 => by rw [e11]; exact (zup_n _ _ (by omega)).trans (hF4 j9 k9 h9)
    exact hQ _ _ ⟨hB12, hF13, (by omega), trivial⟩
  · skip
    refine sR_in hB3 (by omega) (by omega) (by omega) (fun z14  h15 => ?_)
    obtain ⟨p16, p17, -⟩ := h15
    refine ⟨fun c18 => ?_, fun c18 => ?_⟩
    · skip
      have s19 : sI a1 = a1 := sIo (by omega) (by omega)
      refine sR_wayEarly hB3 (by omega) (fun z20  h21 => ?_)
      obtain ⟨p22, -⟩ := h21
      exact hQ _ _ ⟨hB3, hF4, (by omega), trivial⟩
    · skip
      intro M23 e24
      have hB25 : BI M23 := by rw [e24]; exact BI.up0 hB3 rfl (by omega) (by omega) (by decide)
      have hF26 : ∀ j9 k9 : Nat, ¬ (j9 = 0 ∧ k9 = 35) → M23 j9 k9 = M j9 k9 := fun j9 k9 h9 => by rw [e24]; exact (zup_n _ _ (by omega)).trans (hF4 j9 k9 h9)
      exact hQ _ _ ⟨hB25, hF26, (by omega), trivial⟩
set_option maxHeartbeats 4000000 in
set_option maxRecDepth 100000 in
theorem sR_wayBy {M : zM} {a0 : Int} {a1 : Int} {a2 : Int} (hB : BI M) (v0 : 0 ≤ a0 ∧ a0 ≤ 1) (v2 : 1 ≤ a2 ∧ a2 ≤ 24) {Q : Int → Prop} (hQ : ∀ (z : Int), (0 ≤ z ∧ z ≤ 23) ∧ (z < a2) ∧ True → Q z) : wR_wayBy a0 a1 a2 M Q := by
  unfold wR_wayBy
  refine sR_steady hB (by omega) (fun z1  h2 => ?_)
  obtain ⟨p3, -⟩ := h2
  have s4 := sL_R a1
  have s5 := sL_or a1
  refine ⟨fun c6 => ?_, fun c6 => ?_⟩
  · skip
    have s7 : sI a2 = a2 := sIo (by omega) (by omega)
    have s8 := sL_R (a1 - z1)
    have s9 := sL_or (a1 - z1)
    have o10 : (sI a2) ≠ 0 := by omega
    refine ⟨o10, ?_⟩
    refine sR_lastSpeed hB (by omega) (fun z11  h12 => ?_)
    obtain ⟨p13, -⟩ := h12
    refine sR_wayEarly hB (by omega) (fun z14  h15 => ?_)
    obtain ⟨p16, -⟩ := h15
    have s17 := sL_R (z14 + (((sL (a1 - z1)).tmod (sI a2)) * z11))
    have s18 := sL_or (z14 + (((sL (a1 - z1)).tmod (sI a2)) * z11))
    have o19 : 0 < (sI a2) := by omega
    refine ⟨o19, ?_⟩
    have q20 := emB (sL (z14 + (((sL (a1 - z1)).tmod (sI a2)) * z11))) (sI a2) (by omega)
    have s21 : sI ((sL (z14 + (((sL (a1 - z1)).tmod (sI a2)) * z11))) % (sI a2)) = ((sL (z14 + (((sL (a1 - z1)).tmod (sI a2)) * z11))) % (sI a2)) := sIo (by omega) (by omega)
    exact hQ _ ⟨(by omega), (by omega), trivial⟩
  · skip
    refine sR_wayEarly hB (by omega) (fun z22  h23 => ?_)
    obtain ⟨p24, -⟩ := h23
    have s25 : sI a2 = a2 := sIo (by omega) (by omega)
    have o26 : 0 < (sI a2) := by omega
    refine ⟨o26, ?_⟩
    have q27 := emB z22 (sI a2) (by omega)
    have s28 : sI (z22 % (sI a2)) = (z22 % (sI a2)) := sIo (by omega) (by omega)
    exact hQ _ ⟨(by omega), (by omega), trivial⟩
set_option maxHeartbeats 4000000 in
set_option maxRecDepth 100000 in
theorem sR_heardAt {M : zM} {a0 : Int} {a1 : Int} (hB : BI M) (v0 : 0 ≤ a0 ∧ a0 ≤ 3) (v1 : 0 ≤ a1 ∧ a1 ≤ 23) (p0 : a0 < M 0 10) {Q : Int → Prop} (hQ : ∀ (z : Int), ((-2147483648) ≤ z ∧ z ≤ 2147483647) ∧ True → Q z) : wR_heardAt a0 a1 M Q := by
  unfold wR_heardAt
  refine pL2_of (fun x1 x2 => (0 ≤ x2 ∧ x2 ≤ 1000000) ∧ True) (fun x1 x2 => (1000000 - x2).toNat) ⟨(by omega), trivial⟩ (fun K x1 x2 h4 k5 => ?_)
  obtain ⟨i3, -⟩ := h4
  have s6 : sI x2 = x2 := sIo (by omega) (by omega)
  refine ⟨fun c7 => ?_, fun c7 => ?_⟩
  · skip
    have s8 := sI_R x1
    have s9 := sI_or x1
    exact hQ _ ⟨(by omega), trivial⟩
  · skip
    have s10 : sI a0 = a0 := sIo (by omega) (by omega)
    have o11 : 0 ≤ (sI a0) ∧ (sI a0) < 4 := by omega
    refine ⟨o11, ?_⟩
    have q12 : (-2147483648) ≤ (M 7 (sI a0).toNat) ∧ (M 7 (sI a0).toNat) ≤ 2147483647 := BN.at hB.1 (rfl : zcd wR 7 = 57) rfl
    have q13 := shrI_R (M 7 (sI a0).toNat) x2
    have q14 := andI_br (shrI (M 7 (sI a0).toNat) x2) (c := 1) (by decide) (by decide)
    refine ⟨fun c15 => ?_, fun c15 => ?_⟩
    · skip
      exact k5 _ _ ⟨(by omega), trivial⟩ (by omega)
    · skip
      have o16 : 0 ≤ (sI a0) ∧ (sI a0) < 4 := by omega
      refine ⟨o16, ?_⟩
      have q17 : 0 ≤ (M 4 (sI a0).toNat) ∧ (M 4 (sI a0).toNat) ≤ 24 := BN.at hB.1 (rfl : zcd wR 4 = 54) rfl
      have q18 : (((sI a0).toNat : Nat) : Int) < M 0 10 → 1 ≤ (M 4 (sI a0).toNat) := hB.2 _ (by omega)
      have q19 : 0 ≤ M 0 10 ∧ M 0 10 ≤ 4 := BN.at hB.1 (rfl : zcd wR 0 = 50) rfl
      have s20 : sI (a1 + x2) = (a1 + x2) := sIo (by omega) (by omega)
      have s21 : sI (M 4 (sI a0).toNat) = (M 4 (sI a0).toNat) := sIo (by omega) (by omega)
      have o22 : (sI (M 4 (sI a0).toNat)) ≠ 0 := by omega
      refine ⟨o22, ?_⟩
      have q23 := tmodN (sI (a1 + x2)) (sI (M 4 (sI a0).toNat)) (by omega) (by omega)
      have s24 : sI ((24 * a0) + ((sI (a1 + x2)).tmod (sI (M 4 (sI a0).toNat)))) = ((24 * a0) + ((sI (a1 + x2)).tmod (sI (M 4 (sI a0).toNat)))) := sIo (by omega) (by omega)
      have o25 : 0 ≤ (sI ((24 * a0) + ((sI (a1 + x2)).tmod (sI (M 4 (sI a0).toNat))))) ∧ (sI ((24 * a0) + ((sI (a1 + x2)).tmod (sI (M 4 (sI a0).toNat))))) < 96 := by omega
      refine ⟨o25, ?_⟩
      have q26 : (-2147483648) ≤ (M 3 (sI ((24 * a0) + ((sI (a1 + x2)).tmod (sI (M 4 (sI a0).toNat))))).toNat) ∧ (M 3 (sI ((24 * a0) + ((sI (a1 + x2)).tmod (sI (M 4 (sI a0).toNat))))).toNat) ≤ 2147483647 := BN.at hB.1 (rfl : zcd wR 3 = 53) rfl
      have q27 := orI_R x1 (M 3 (sI ((24 * a0) + ((sI (a1 + x2)).tmod (sI (M 4 (sI a0).toNat))))).toNat)
      intro t28 e29
      exact k5 _ _ ⟨(by omega), trivial⟩ (by omega)
set_option maxHeartbeats 4000000 in
set_option maxRecDepth 100000 in
theorem sR_heardOf {M : zM} {a0 : Int} {a1 : Int} (hB : BI M) (v0 : 0 ≤ a0 ∧ a0 ≤ 3) (p0 : a0 < M 0 10) {Q : Int → Prop} (hQ : ∀ (z : Int), ((-2147483648) ≤ z ∧ z ≤ 2147483647) ∧ True → Q z) : wR_heardOf a0 a1 M Q := by
  unfold wR_heardOf
  have s1 : sI a0 = a0 := sIo (by omega) (by omega)
  have o2 : 0 ≤ (sI a0) ∧ (sI a0) < 4 := by omega
  refine ⟨o2, ?_⟩
  have q3 : 0 ≤ (M 6 (sI a0).toNat) ∧ (M 6 (sI a0).toNat) ≤ 23 := BN.at hB.1 (rfl : zcd wR 6 = 56) rfl
  have o4 : 0 ≤ (sI a0) ∧ (sI a0) < 4 := by omega
  refine ⟨o4, ?_⟩
  have q5 : 0 ≤ (M 5 (sI a0).toNat) ∧ (M 5 (sI a0).toNat) ≤ 1 := BN.at hB.1 (rfl : zcd wR 5 = 55) rfl
  have o6 : 0 ≤ (sI a0) ∧ (sI a0) < 4 := by omega
  refine ⟨o6, ?_⟩
  have q7 : 0 ≤ (M 4 (sI a0).toNat) ∧ (M 4 (sI a0).toNat) ≤ 24 := BN.at hB.1 (rfl : zcd wR 4 = 54) rfl
  have q8 : (((sI a0).toNat : Nat) : Int) < M 0 10 → 1 ≤ (M 4 (sI a0).toNat) := hB.2 _ (by omega)
  have q9 : 0 ≤ M 0 10 ∧ M 0 10 ≤ 4 := BN.at hB.1 (rfl : zcd wR 0 = 50) rfl
  refine sR_wayBy hB (by omega) (by omega) (fun z10  h11 => ?_)
  obtain ⟨p12, p13, -⟩ := h11
  have o14 : 0 ≤ (sI a0) ∧ (sI a0) < 4 := by omega
  refine ⟨o14, ?_⟩
  have s18 : sI ((M 6 (sI a0).toNat) + z10) = ((M 6 (sI a0).toNat) + z10) := sIo (by omega) (by omega)
  have s19 : sI (M 4 (sI a0).toNat) = (M 4 (sI a0).toNat) := sIo (by omega) (by omega)
  have o20 : (sI (M 4 (sI a0).toNat)) ≠ 0 := by omega
  refine ⟨o20, ?_⟩
  have q21 := tmodN (sI ((M 6 (sI a0).toNat) + z10)) (sI (M 4 (sI a0).toNat)) (by omega) (by omega)
  refine sR_heardAt hB (by omega) (by omega) (by omega) (fun z22  h23 => ?_)
  obtain ⟨p24, -⟩ := h23
  exact hQ _ ⟨(by omega), trivial⟩
set_option maxHeartbeats 4000000 in
set_option maxRecDepth 100000 in
theorem sR_heardInAll {M : zM} {a0 : Int} (hB : BI M)  {Q : Int → Prop} (hQ : ∀ (z : Int), ((-2147483648) ≤ z ∧ z ≤ 2147483647) ∧ True → Q z) : wR_heardInAll a0 M Q := by
  unfold wR_heardInAll
  refine pL2_of (fun x1 x2 => (0 ≤ x2 ∧ x2 ≤ 1000000) ∧ True) (fun x1 x2 => (1000000 - x2).toNat) ⟨(by omega), trivial⟩ (fun K x1 x2 h4 k5 => ?_)
  obtain ⟨i3, -⟩ := h4
  have q6 : 0 ≤ (M 0 10) ∧ (M 0 10) ≤ 4 := BN.at hB.1 (rfl : zcd wR 0 = 50) rfl
  have s7 : sI x2 = x2 := sIo (by omega) (by omega)
  have s8 : sI (M 0 10) = (M 0 10) := sIo (by omega) (by omega)
  refine ⟨fun c9 => ?_, fun c9 => ?_⟩
  · skip
    have s10 := sI_R x1
    have s11 := sI_or x1
    exact hQ _ ⟨(by omega), trivial⟩
  · skip
    refine sR_heardOf hB (by omega) (by omega) (fun z12  h13 => ?_)
    obtain ⟨p14, -⟩ := h13
    have q15 := orI_R x1 z12
    exact k5 _ _ ⟨(by omega), trivial⟩ (by omega)
set_option maxHeartbeats 4000000 in
set_option maxRecDepth 100000 in
theorem sR_heard {M : zM} {a0 : Int} {a1 : Int} (hB : BI M) (v0 : (-2147483648) ≤ a0 ∧ a0 ≤ 2147483647) (v1 : (-9223372036854775808) ≤ a1 ∧ a1 ≤ 9223372036854775807) {Q : Int → zM → Prop} (hQ : ∀ (z : Int) (M1 : zM), BI M1 ∧ (∀ j9 k9 : Nat, ¬ (j9 = 0 ∧ k9 = 35) → M1 j9 k9 = M j9 k9) ∧ ((-2147483648) ≤ z ∧ z ≤ 2147483647) ∧ True → Q z M1) : wR_heard a0 a1 M Q := by
  unfold wR_heard
  have hF0 : ∀ j9 k9 : Nat, ¬ (j9 = 0 ∧ k9 = 35) → M j9 k9 = M j9 k9 := fun j9 k9 _ => rfl
  intro M1 e2
  have hB3 : BI M1 := by rw [e2]; exact BI.up0 hB rfl (by omega) (by omega) (by decide)
  have hF4 : ∀ j9 k9 : Nat, ¬ (j9 = 0 ∧ k9 = 35) → M1 j9 k9 = M j9 k9 := fun j9 k9 h9 => by rw [e2]; exact (zup_n _ _ (by omega)).trans (hF0 j9 k9 h9)
  have s5 : sI a0 = a0 := sIo (by omega) (by omega)
  refine pJ0_dup ?_
  refine ⟨fun c6 => ?_, fun c6 => ?_⟩
  · skip
    have s7 : sL a1 = a1 := sLo (by omega) (by omega)
    refine ⟨fun c8 => ?_, fun c8 => ?_⟩
    · skip
      refine ⟨fun c9 => ?_, fun c9 => ?_⟩
      · skip
        refine sR_heardOf hB3 (by omega) (by omega) (fun z10  h11 => ?_)
        obtain ⟨p12, -⟩ := h11
        exact hQ _ _ ⟨hB3, hF4, (by omega), trivial⟩
      · skip
        refine sR_heardInAll hB3  (fun z13  h14 => ?_)
        obtain ⟨p15, -⟩ := h14
        exact hQ _ _ ⟨hB3, hF4, (by omega), trivial⟩
    · skip
      exact hQ _ _ ⟨hB3, hF4, (by omega), trivial⟩
  · skip
    refine sR_isRing hB3 (by omega) (fun z16  h17 => ?_)
    obtain ⟨p18, p19, -⟩ := h17
    refine ⟨fun c20 => ?_, fun c20 => ?_⟩
    · skip
      exact hQ _ _ ⟨hB3, hF4, (by omega), trivial⟩
    · skip
      have s21 : sL a1 = a1 := sLo (by omega) (by omega)
      refine ⟨fun c22 => ?_, fun c22 => ?_⟩
      · skip
        refine ⟨fun c23 => ?_, fun c23 => ?_⟩
        · skip
          refine sR_heardOf hB3 (by omega) (by omega) (fun z24  h25 => ?_)
          obtain ⟨p26, -⟩ := h25
          exact hQ _ _ ⟨hB3, hF4, (by omega), trivial⟩
        · skip
          refine sR_heardInAll hB3  (fun z27  h28 => ?_)
          obtain ⟨p29, -⟩ := h28
          exact hQ _ _ ⟨hB3, hF4, (by omega), trivial⟩
      · skip
        exact hQ _ _ ⟨hB3, hF4, (by omega), trivial⟩
theorem sR_allRounds {M : zM} (hB : BI M) {Q : Int → Prop} (hQ : ∀ z, ((0 ≤ z ∧ z ≤ 331776) ∧ True) → Q z) : wR_allRounds M Q := by
  unfold wR_allRounds
  have b : 0 ≤ M 0 10 ∧ M 0 10 ≤ 4 := BN.at hB.1 (rfl : zcd wR 0 = 50) rfl
  refine pL2_of (fun x1 x2 => 0 ≤ x1 ∧ ((x2 = 0 ∧ x1 ≤ 1) ∨ (x2 = 1 ∧ x1 ≤ 24) ∨ (x2 = 2 ∧ x1 ≤ 576) ∨ (x2 = 3 ∧ x1 ≤ 13824) ∨ (x2 = 4 ∧ x1 ≤ 331776))) (fun _ x2 => (100 - x2).toNat) ⟨by omega, by omega⟩ (fun K x1 x2 hI hK => ?_)
  obtain ⟨i1, i2⟩ := hI
  have s1 : sL x1 = x1 := sLo (by omega) (by omega)
  have s2 : sI x2 = x2 := sIo (by omega) (by omega)
  have s3 : sI (M 0 10) = M 0 10 := sIo (by omega) (by omega)
  rw [s1, s2, s3]
  refine ⟨fun c => hQ _ ⟨by omega, trivial⟩, fun c => ?_⟩
  refine sR_round hB (by omega) (by omega) (fun z hp => ?_)
  have t := tmodN x1 z i1 (by omega)
  refine ⟨by omega, ?_⟩
  refine sR_common 48 hB (by omega) (by omega) (fun z2 hp2 => ?_) (by omega)
  have g := gcd_b z (x1.tmod z) (by omega)
  have e := hp2.2.1
  refine ⟨by omega, ?_⟩
  have d := tdivB x1 z2 i1 (by omega)
  have m1 := mulB x1 24 (x1.tdiv z2) z d.1 d.2 (by omega) (by omega)
  exact hK _ _ ⟨by omega, by omega⟩ (by omega)
set_option maxHeartbeats 4000000 in
set_option maxRecDepth 100000 in
theorem sR_all {M : zM}  (hB : BI M)  {Q : Int → zM → Prop} (hQ : ∀ (z : Int) (M1 : zM), BI M1 ∧ (∀ j9 k9 : Nat, ¬ (j9 = 0 ∧ k9 = 35) → M1 j9 k9 = M j9 k9) ∧ ((-9223372036854775808) ≤ z ∧ z ≤ 9223372036854775807) ∧ True → Q z M1) : wR_all  M Q := by
  unfold wR_all
  have hF0 : ∀ j9 k9 : Nat, ¬ (j9 = 0 ∧ k9 = 35) → M j9 k9 = M j9 k9 := fun j9 k9 _ => rfl
  intro M1 e2
  have hB3 : BI M1 := by rw [e2]; exact BI.up0 hB rfl (by omega) (by omega) (by decide)
  have hF4 : ∀ j9 k9 : Nat, ¬ (j9 = 0 ∧ k9 = 35) → M1 j9 k9 = M j9 k9 := fun j9 k9 h9 => by rw [e2]; exact (zup_n _ _ (by omega)).trans (hF0 j9 k9 h9)
  refine sR_allRounds hB3  (fun z5  h6 => ?_)
  obtain ⟨p7, -⟩ := h6
  exact hQ _ _ ⟨hB3, hF4, (by omega), trivial⟩
set_option maxHeartbeats 4000000 in
set_option maxRecDepth 100000 in
theorem sR_meetsAt {M : zM} {a0 : Int} (hB : BI M)  {Q : Int → Prop} (hQ : ∀ (z : Int), (0 ≤ z ∧ z ≤ 1) ∧ True → Q z) : wR_meetsAt a0 M Q := by
  unfold wR_meetsAt
  refine pL1_of (fun x1 => (0 ≤ x1 ∧ x1 ≤ 1000000) ∧ True) (fun x1 => (1000000 - x1).toNat) ⟨(by omega), trivial⟩ (fun K x1 h3 k4 => ?_)
  obtain ⟨i2, -⟩ := h3
  have q5 : 0 ≤ (M 0 10) ∧ (M 0 10) ≤ 4 := BN.at hB.1 (rfl : zcd wR 0 = 50) rfl
  have s6 : sI x1 = x1 := sIo (by omega) (by omega)
  have s7 : sI (M 0 10) = (M 0 10) := sIo (by omega) (by omega)
  refine ⟨fun c8 => ?_, fun c8 => ?_⟩
  · skip
    exact hQ _ ⟨(by omega), trivial⟩
  · skip
    refine sR_heardOf hB (by omega) (by omega) (fun z9  h10 => ?_)
    obtain ⟨p11, -⟩ := h10
    have o12 : 0 ≤ (sI x1) ∧ (sI x1) < 4 := by omega
    refine ⟨o12, ?_⟩
    have q13 : (-2147483648) ≤ (M 8 (sI x1).toNat) ∧ (M 8 (sI x1).toNat) ≤ 2147483647 := BN.at hB.1 (rfl : zcd wR 8 = 58) rfl
    have q14 := andI_R z9 (M 8 (sI x1).toNat)
    have o15 : 0 ≤ (sI x1) ∧ (sI x1) < 4 := by omega
    refine ⟨o15, ?_⟩
    have s17 : sI (M 8 (sI x1).toNat) = (M 8 (sI x1).toNat) := sIo (by omega) (by omega)
    refine ⟨fun c18 => ?_, fun c18 => ?_⟩
    · skip
      exact k4 _ ⟨(by omega), trivial⟩ (by omega)
    · skip
      exact hQ _ ⟨(by omega), trivial⟩
set_option maxHeartbeats 4000000 in
set_option maxRecDepth 100000 in
theorem sR_steadyAll {M : zM}  (hB : BI M)  {Q : Int → Prop} (hQ : ∀ (z : Int), (0 ≤ z ∧ z ≤ 5000) ∧ True → Q z) : wR_steadyAll  M Q := by
  unfold wR_steadyAll
  refine sR_steady hB (by omega) (fun z1  h2 => ?_)
  obtain ⟨p3, -⟩ := h2
  refine sR_steady hB (by omega) (fun z4  h5 => ?_)
  obtain ⟨p6, -⟩ := h5
  exact hQ _ ⟨(by omega), trivial⟩
set_option maxHeartbeats 4000000 in
set_option maxRecDepth 100000 in
theorem sR_findHeard {M : zM} {a0 : Int} (hB : BI M)  {Q : zM → Prop} (hQ : ∀ (M1 : zM), BI M1 ∧ (∀ j9 k9 : Nat, ¬ (j9 = 27) → M1 j9 k9 = M j9 k9) ∧ True → Q M1) : wR_findHeard a0 M Q := by
  unfold wR_findHeard
  have hF0 : ∀ j9 k9 : Nat, ¬ (j9 = 27) → M j9 k9 = M j9 k9 := fun j9 k9 _ => rfl
  refine wL1_of (fun x1 M2 => BI M2 ∧ (∀ j9 k9 : Nat, ¬ (j9 = 27) → M2 j9 k9 = M j9 k9) ∧ (0 ≤ x1 ∧ x1 ≤ 1000000) ∧ (M2 0 10 = M 0 10) ∧ True) (fun x1 M2 => (1000000 - x1).toNat) ⟨hB, hF0, (by omega), (by omega), trivial⟩ (fun K x1 M2 h7 k8 => ?_)
  obtain ⟨hB3, hF4, i5, i6, -⟩ := h7
  have q9 : 0 ≤ (M2 0 10) ∧ (M2 0 10) ≤ 4 := BN.at hB3.1 (rfl : zcd wR 0 = 50) rfl
  have s10 : sI x1 = x1 := sIo (by omega) (by omega)
  have s11 : sI (M2 0 10) = (M2 0 10) := sIo (by omega) (by omega)
  refine ⟨fun c12 => ?_, fun c12 => ?_⟩
  · skip
    exact hQ _ ⟨hB3, hF4, trivial⟩
  · skip
    refine wL1_of (fun x13 M14 => BI M14 ∧ (∀ j9 k9 : Nat, ¬ (j9 = 27) → M14 j9 k9 = M j9 k9) ∧ (0 ≤ x13 ∧ x13 ≤ 1000000) ∧ (M14 0 10 = M 0 10) ∧ True) (fun x13 M14 => (1000000 - x13).toNat) ⟨hB3, hF4, (by omega), (by omega), trivial⟩ (fun K x13 M14 h19 k20 => ?_)
    obtain ⟨hB15, hF16, i17, i18, -⟩ := h19
    refine sR_round hB15 (by omega) (by omega) (fun z21  h22 => ?_)
    obtain ⟨p23, -⟩ := h22
    have s24 : sI x13 = x13 := sIo (by omega) (by omega)
    refine ⟨fun c25 => ?_, fun c25 => ?_⟩
    · skip
      exact k8 _ _ ⟨hB15, hF16, (by omega), (by omega), trivial⟩ (by omega)
    · skip
      refine sR_heardOf hB15 (by omega) (by omega) (fun z26  h27 => ?_)
      obtain ⟨p28, -⟩ := h27
      have s29 : sI x1 = x1 := sIo (by omega) (by omega)
      have o30 : 0 ≤ (sI x1) ∧ (sI x1) < 4 := by omega
      refine ⟨o30, ?_⟩
      have q31 : (-2147483648) ≤ (M14 8 (sI x1).toNat) ∧ (M14 8 (sI x1).toNat) ≤ 2147483647 := BN.at hB15.1 (rfl : zcd wR 8 = 58) rfl
      have q32 := andI_R z26 (M14 8 (sI x1).toNat)
      have o33 : 0 ≤ (sI x1) ∧ (sI x1) < 4 := by omega
      refine ⟨o33, ?_⟩
      have s35 : sI (M14 8 (sI x1).toNat) = (M14 8 (sI x1).toNat) := sIo (by omega) (by omega)
      refine ⟨fun c36 => ?_, fun c36 => ?_⟩
      · skip
        have s37 : sI ((24 * x1) + x13) = ((24 * x1) + x13) := sIo (by omega) (by omega)
        have o38 : 0 ≤ (sI ((24 * x1) + x13)) ∧ (sI ((24 * x1) + x13)) < 96 := by omega
        refine ⟨o38, ?_⟩
        intro M39 e40
        have hB41 : BI M39 := by rw [e40]; exact BI.up hB15 (rfl : zcd wR 27 = 77) rfl (by omega) (by omega) (by decide)
        have hF42 : ∀ j9 k9 : Nat, ¬ (j9 = 27) → M39 j9 k9 = M j9 k9 := fun j9 k9 h9 => by rw [e40]; exact (zup_n _ _ (by omega)).trans (hF16 j9 k9 h9)
        have r43 : M39 0 10 = M14 0 10 := by rw [e40]; exact zup_n _ _ (by omega)
        exact k20 _ _ ⟨hB41, hF42, (by omega), (by omega), trivial⟩ (by omega)
      · skip
        have s44 : sI ((24 * x1) + x13) = ((24 * x1) + x13) := sIo (by omega) (by omega)
        have o45 : 0 ≤ (sI ((24 * x1) + x13)) ∧ (sI ((24 * x1) + x13)) < 96 := by omega
        refine ⟨o45, ?_⟩
        intro M46 e47
        have hB48 : BI M46 := by rw [e47]; exact BI.up hB15 (rfl : zcd wR 27 = 77) rfl (by omega) (by omega) (by decide)
        have hF49 : ∀ j9 k9 : Nat, ¬ (j9 = 27) → M46 j9 k9 = M j9 k9 := fun j9 k9 h9 => by rw [e47]; exact (zup_n _ _ (by omega)).trans (hF16 j9 k9 h9)
        have r50 : M46 0 10 = M14 0 10 := by rw [e47]; exact zup_n _ _ (by omega)
        exact k20 _ _ ⟨hB48, hF49, (by omega), (by omega), trivial⟩ (by omega)
set_option maxHeartbeats 4000000 in
set_option maxRecDepth 100000 in
theorem sR_meetsBehind {M : zM} {a0 : Int} (hB : BI M) (v0 : 0 ≤ a0 ∧ a0 ≤ 2147483647) {Q : Int → Prop} (hQ : ∀ (z : Int), (0 ≤ z ∧ z ≤ 1) ∧ True → Q z) : wR_meetsBehind a0 M Q := by
  unfold wR_meetsBehind
  refine pL1_of (fun x1 => (0 ≤ x1 ∧ x1 ≤ 1000000) ∧ True) (fun x1 => (1000000 - x1).toNat) ⟨(by omega), trivial⟩ (fun K x1 h3 k4 => ?_)
  obtain ⟨i2, -⟩ := h3
  have q5 : 0 ≤ (M 0 10) ∧ (M 0 10) ≤ 4 := BN.at hB.1 (rfl : zcd wR 0 = 50) rfl
  have s6 : sI x1 = x1 := sIo (by omega) (by omega)
  have s7 : sI (M 0 10) = (M 0 10) := sIo (by omega) (by omega)
  refine ⟨fun c8 => ?_, fun c8 => ?_⟩
  · skip
    exact hQ _ ⟨(by omega), trivial⟩
  · skip
    refine sR_round hB (by omega) (by omega) (fun z9  h10 => ?_)
    obtain ⟨p11, -⟩ := h10
    have s12 : sI a0 = a0 := sIo (by omega) (by omega)
    have o13 : z9 ≠ 0 := by omega
    refine ⟨o13, ?_⟩
    have q14 := tmodN (sI a0) z9 (by omega) (by omega)
    have s15 : sI ((24 * x1) + ((sI a0).tmod z9)) = ((24 * x1) + ((sI a0).tmod z9)) := sIo (by omega) (by omega)
    have o16 : 0 ≤ (sI ((24 * x1) + ((sI a0).tmod z9))) ∧ (sI ((24 * x1) + ((sI a0).tmod z9))) < 96 := by omega
    refine ⟨o16, ?_⟩
    have q17 : (-2147483648) ≤ (M 27 (sI ((24 * x1) + ((sI a0).tmod z9))).toNat) ∧ (M 27 (sI ((24 * x1) + ((sI a0).tmod z9))).toNat) ≤ 2147483647 := BN.at hB.1 (rfl : zcd wR 27 = 77) rfl
    have s18 : sI (M 27 (sI ((24 * x1) + ((sI a0).tmod z9))).toNat) = (M 27 (sI ((24 * x1) + ((sI a0).tmod z9))).toNat) := sIo (by omega) (by omega)
    refine ⟨fun c19 => ?_, fun c19 => ?_⟩
    · skip
      exact k4 _ ⟨(by omega), trivial⟩ (by omega)
    · skip
      exact hQ _ ⟨(by omega), trivial⟩
set_option maxHeartbeats 4000000 in
set_option maxRecDepth 100000 in
theorem sR_meets {M : zM} {a0 : Int} (hB : BI M) (v0 : (-9223372036854775808) ≤ a0 ∧ a0 ≤ 9223372036854775807) {Q : Int → zM → Prop} (hQ : ∀ (z : Int) (M1 : zM), BI M1 ∧ (∀ j9 k9 : Nat, ¬ (j9 = 0 ∧ k9 = 35 ∨ j9 = 27) → M1 j9 k9 = M j9 k9) ∧ ((-9223372036854775808) ≤ z ∧ z ≤ 9223372036854775807) ∧ True → Q z M1) : wR_meets a0 M Q := by
  unfold wR_meets
  have hF0 : ∀ j9 k9 : Nat, ¬ (j9 = 0 ∧ k9 = 35 ∨ j9 = 27) → M j9 k9 = M j9 k9 := fun j9 k9 _ => rfl
  intro M1 e2
  have hB3 : BI M1 := by rw [e2]; exact BI.up0 hB rfl (by omega) (by omega) (by decide)
  have hF4 : ∀ j9 k9 : Nat, ¬ (j9 = 0 ∧ k9 = 35 ∨ j9 = 27) → M1 j9 k9 = M j9 k9 := fun j9 k9 h9 => by rw [e2]; exact (zup_n _ _ (by omega)).trans (hF0 j9 k9 h9)
  have s5 : sL a0 = a0 := sLo (by omega) (by omega)
  refine ⟨fun c6 => ?_, fun c6 => ?_⟩
  · skip
    exact hQ _ _ ⟨hB3, hF4, (by omega), trivial⟩
  · skip
    refine ⟨fun c7 => ?_, fun c7 => ?_⟩
    · skip
      refine pL1_of (fun x8 => (0 ≤ x8 ∧ x8 ≤ 1152921504606846976) ∧ True) (fun x8 => (9223372036854775807 - x8).toNat) ⟨(by omega), trivial⟩ (fun K x8 h10 k11 => ?_)
      obtain ⟨i9, -⟩ := h10
      refine sR_steadyAll hB3  (fun z12  h13 => ?_)
      obtain ⟨p14, -⟩ := h13
      have s15 : sL x8 = x8 := sLo (by omega) (by omega)
      refine ⟨fun c16 => ?_, fun c16 => ?_⟩
      · skip
        refine sR_findHeard hB3  (fun  M17 h18 => ?_)
        obtain ⟨hB19, f20, -⟩ := h18
        have hF21 : ∀ j9 k9 : Nat, ¬ (j9 = 0 ∧ k9 = 35 ∨ j9 = 27) → M17 j9 k9 = M j9 k9 := fun j9 k9 h9 => ((f20 j9 k9 (by omega)).trans (hF4 j9 k9 h9))
        refine sR_allRounds hB19  (fun z22  h23 => ?_)
        obtain ⟨p24, -⟩ := h23
        refine pL1_of (fun x25 => (0 ≤ x25 ∧ x25 ≤ 1000000) ∧ True) (fun x25 => (1000000 - x25).toNat) ⟨(by omega), trivial⟩ (fun K x25 h27 k28 => ?_)
        obtain ⟨i26, -⟩ := h27
        have s29 : sI x25 = x25 := sIo (by omega) (by omega)
        have s30 : sI z22 = z22 := sIo (by omega) (by omega)
        refine ⟨fun c31 => ?_, fun c31 => ?_⟩
        · skip
          exact hQ _ _ ⟨hB19, hF21, (by omega), trivial⟩
        · skip
          refine sR_meetsBehind hB19 (by omega) (fun z32  h33 => ?_)
          obtain ⟨p34, -⟩ := h33
          refine ⟨fun c35 => ?_, fun c35 => ?_⟩
          · skip
            exact k28 _ ⟨(by omega), trivial⟩ (by omega)
          · skip
            have s36 : sL (x8 + (sI x25)) = (x8 + (sI x25)) := sLo (by omega) (by omega)
            exact hQ _ _ ⟨hB19, hF21, (by omega), trivial⟩
      · skip
        refine sR_meetsAt hB3  (fun z37  h38 => ?_)
        obtain ⟨p39, -⟩ := h38
        refine ⟨fun c40 => ?_, fun c40 => ?_⟩
        · skip
          exact k11 _ ⟨(by omega), trivial⟩ (by omega)
        · skip
          exact hQ _ _ ⟨hB3, hF4, (by omega), trivial⟩
    · skip
      exact hQ _ _ ⟨hB3, hF4, (by omega), trivial⟩
set_option maxHeartbeats 4000000 in
set_option maxRecDepth 100000 in
theorem sR_often {M : zM}  (hB : BI M)  {Q : Int → zM → Prop} (hQ : ∀ (z : Int) (M1 : zM), BI M1 ∧ (∀ j9 k9 : Nat, ¬ (j9 = 0 ∧ k9 = 35 ∨ j9 = 27) → M1 j9 k9 = M j9 k9) ∧ ((-9223372036854775808) ≤ z ∧ z ≤ 9223372036854775807) ∧ True → Q z M1) : wR_often  M Q := by
  unfold wR_often
  have hF0 : ∀ j9 k9 : Nat, ¬ (j9 = 0 ∧ k9 = 35 ∨ j9 = 27) → M j9 k9 = M j9 k9 := fun j9 k9 _ => rfl
  intro M1 e2
  have hB3 : BI M1 := by rw [e2]; exact BI.up0 hB rfl (by omega) (by omega) (by decide)
  have hF4 : ∀ j9 k9 : Nat, ¬ (j9 = 0 ∧ k9 = 35 ∨ j9 = 27) → M1 j9 k9 = M j9 k9 := fun j9 k9 h9 => by rw [e2]; exact (zup_n _ _ (by omega)).trans (hF0 j9 k9 h9)
  refine sR_steadyAll hB3  (fun z5  h6 => ?_)
  obtain ⟨p7, -⟩ := h6
  refine sR_findHeard hB3  (fun  M8 h9 => ?_)
  obtain ⟨hB10, f11, -⟩ := h9
  have hF12 : ∀ j9 k9 : Nat, ¬ (j9 = 0 ∧ k9 = 35 ∨ j9 = 27) → M8 j9 k9 = M j9 k9 := fun j9 k9 h9 => ((f11 j9 k9 (by omega)).trans (hF4 j9 k9 h9))
  refine sR_allRounds hB10  (fun z13  h14 => ?_)
  obtain ⟨p15, -⟩ := h14
  refine pL2_of (fun x16 x17 => (0 ≤ x17 ∧ x17 ≤ 1000000) ∧ True) (fun x16 x17 => (1000000 - x17).toNat) ⟨(by omega), trivial⟩ (fun K x16 x17 h19 k20 => ?_)
  obtain ⟨i18, -⟩ := h19
  have s21 : sI x17 = x17 := sIo (by omega) (by omega)
  have s22 : sI z13 = z13 := sIo (by omega) (by omega)
  refine ⟨fun c23 => ?_, fun c23 => ?_⟩
  · skip
    have s24 := sL_R x16
    have s25 := sL_or x16
    exact hQ _ _ ⟨hB10, hF12, (by omega), trivial⟩
  · skip
    refine sR_meetsBehind hB10 (by omega) (fun z26  h27 => ?_)
    obtain ⟨p28, -⟩ := h27
    refine ⟨fun c29 => ?_, fun c29 => ?_⟩
    · skip
      exact k20 _ _ ⟨(by omega), trivial⟩ (by omega)
    · skip
      exact k20 _ _ ⟨(by omega), trivial⟩ (by omega)
set_option maxHeartbeats 4000000 in
set_option maxRecDepth 100000 in
theorem sR_truths {M : zM} {a0 : Int} {a1 : Int} {a2 : Int} (hB : BI M) (v0 : 0 ≤ a0 ∧ a0 ≤ 3) (v1 : 0 ≤ a1 ∧ a1 ≤ 23) (v2 : 0 ≤ a2 ∧ a2 ≤ 23) (p0 : a0 < M 0 10) (p1 : a1 = 0 ∨ a1 < M 4 (sI a0).toNat) {Q : Int → Prop} (hQ : ∀ (z : Int), (0 ≤ z ∧ z ≤ 63) ∧ True → Q z) : wR_truths a0 a1 a2 M Q := by
  unfold wR_truths
  have s1 : sI a0 = a0 := sIo (by omega) (by omega)
  have o2 : 0 ≤ (sI a0) ∧ (sI a0) < 4 := by omega
  refine ⟨o2, ?_⟩
  have q3 : 0 ≤ (M 4 (sI a0).toNat) ∧ (M 4 (sI a0).toNat) ≤ 24 := BN.at hB.1 (rfl : zcd wR 4 = 54) rfl
  have q4 : (((sI a0).toNat : Nat) : Int) < M 0 10 → 1 ≤ (M 4 (sI a0).toNat) := hB.2 _ (by omega)
  have q5 : 0 ≤ M 0 10 ∧ M 0 10 ≤ 4 := BN.at hB.1 (rfl : zcd wR 0 = 50) rfl
  refine pL2_of (fun x6 x7 => (0 ≤ x6 ∧ x6 ≤ 63) ∧ (0 ≤ x7 ∧ x7 ≤ 1000000) ∧ True) (fun x6 x7 => (1000000 - x7).toNat) ⟨(by omega), (by omega), trivial⟩ (fun K x6 x7 h10 k11 => ?_)
  obtain ⟨i8, i9, -⟩ := h10
  have q12 : 0 ≤ (M 0 16) ∧ (M 0 16) ≤ 6 := BN.at hB.1 (rfl : zcd wR 0 = 50) rfl
  have s13 : sI x7 = x7 := sIo (by omega) (by omega)
  have s14 : sI (M 0 16) = (M 0 16) := sIo (by omega) (by omega)
  refine ⟨fun c15 => ?_, fun c15 => ?_⟩
  · skip
    have s16 : sI x6 = x6 := sIo (by omega) (by omega)
    exact hQ _ ⟨(by omega), trivial⟩
  · skip
    have s17 : sI a0 = a0 := sIo (by omega) (by omega)
    have o18 : 0 ≤ (sI a0) ∧ (sI a0) < 4 := by omega
    refine ⟨o18, ?_⟩
    have q19 : 0 ≤ (M 5 (sI a0).toNat) ∧ (M 5 (sI a0).toNat) ≤ 1 := BN.at hB.1 (rfl : zcd wR 5 = 55) rfl
    have o20 : 0 ≤ (sI x7) ∧ (sI x7) < 6 := by omega
    refine ⟨o20, ?_⟩
    have q21 : 0 ≤ (M 12 (sI x7).toNat) ∧ (M 12 (sI x7).toNat) ≤ 100000 := BN.at hB.1 (rfl : zcd wR 12 = 62) rfl
    have s22 : sI (M 12 (sI x7).toNat) = (M 12 (sI x7).toNat) := sIo (by omega) (by omega)
    refine sR_wayBy hB (by omega) (by omega) (fun z23  h24 => ?_)
    obtain ⟨p25, p26, -⟩ := h24
    refine pL2_of (fun x27 x28 => (0 ≤ x28 ∧ x28 ≤ 1000000) ∧ True) (fun x27 x28 => (1000000 - x28).toNat) ⟨(by omega), trivial⟩ (fun K x27 x28 h30 k31 => ?_)
    obtain ⟨i29, -⟩ := h30
    have s32 : sI x28 = x28 := sIo (by omega) (by omega)
    refine ⟨fun c33 => ?_, fun c33 => ?_⟩
    · skip
      have s34 := sI_R x27
      have s35 := sI_or x27
      refine ⟨fun c36 => ?_, fun c36 => ?_⟩
      · skip
        exact k11 _ _ ⟨(by omega), (by omega), trivial⟩ (by omega)
      · skip
        have q37 := shl01 1 x7 (by omega) (by omega) (by omega) (by omega)
        have q38 := or64 x6 (shlI 1 x7) (by omega) (by omega) (by omega) (by omega)
        exact k11 _ _ ⟨(by omega), (by omega), trivial⟩ (by omega)
    · skip
      have s39 : sI a0 = a0 := sIo (by omega) (by omega)
      have o40 : 0 ≤ (sI a0) ∧ (sI a0) < 4 := by omega
      refine ⟨o40, ?_⟩
      have q41 : (-2147483648) ≤ (M 7 (sI a0).toNat) ∧ (M 7 (sI a0).toNat) ≤ 2147483647 := BN.at hB.1 (rfl : zcd wR 7 = 57) rfl
      have q42 := shrI_R (M 7 (sI a0).toNat) x28
      have q43 := andI_br (shrI (M 7 (sI a0).toNat) x28) (c := 1) (by decide) (by decide)
      refine ⟨fun c44 => ?_, fun c44 => ?_⟩
      · skip
        exact k31 _ _ ⟨(by omega), trivial⟩ (by omega)
      · skip
        have s45 := sI_R x27
        have s46 := sI_or x27
        refine ⟨fun c47 => ?_, fun c47 => ?_⟩
        · skip
          exact k31 _ _ ⟨(by omega), trivial⟩ (by omega)
        · skip
          have s48 : sI ((a2 + z23) + x28) = ((a2 + z23) + x28) := sIo (by omega) (by omega)
          have s49 : sI ((M 4 (sI a0).toNat) - a1) = ((M 4 (sI a0).toNat) - a1) := sIo (by omega) (by omega)
          have o50 : (sI ((M 4 (sI a0).toNat) - a1)) ≠ 0 := by omega
          refine ⟨o50, ?_⟩
          have q51 := tmodN (sI ((a2 + z23) + x28)) (sI ((M 4 (sI a0).toNat) - a1)) (by omega) (by omega)
          have s52 : sI ((24 * a0) + ((sI ((a2 + z23) + x28)).tmod (sI ((M 4 (sI a0).toNat) - a1)))) = ((24 * a0) + ((sI ((a2 + z23) + x28)).tmod (sI ((M 4 (sI a0).toNat) - a1)))) := sIo (by omega) (by omega)
          have o53 : 0 ≤ (sI ((24 * a0) + ((sI ((a2 + z23) + x28)).tmod (sI ((M 4 (sI a0).toNat) - a1))))) ∧ (sI ((24 * a0) + ((sI ((a2 + z23) + x28)).tmod (sI ((M 4 (sI a0).toNat) - a1))))) < 96 := by omega
          refine ⟨o53, ?_⟩
          have q54 : (-2147483648) ≤ (M 3 (sI ((24 * a0) + ((sI ((a2 + z23) + x28)).tmod (sI ((M 4 (sI a0).toNat) - a1))))).toNat) ∧ (M 3 (sI ((24 * a0) + ((sI ((a2 + z23) + x28)).tmod (sI ((M 4 (sI a0).toNat) - a1))))).toNat) ≤ 2147483647 := BN.at hB.1 (rfl : zcd wR 3 = 53) rfl
          have s55 : sI x7 = x7 := sIo (by omega) (by omega)
          have o56 : 0 ≤ (sI x7) ∧ (sI x7) < 6 := by omega
          refine ⟨o56, ?_⟩
          have q57 : 0 ≤ (M 13 (sI x7).toNat) ∧ (M 13 (sI x7).toNat) ≤ 9 := BN.at hB.1 (rfl : zcd wR 13 = 63) rfl
          have q58 := shrI_R (M 3 (sI ((24 * a0) + ((sI ((a2 + z23) + x28)).tmod (sI ((M 4 (sI a0).toNat) - a1))))).toNat) (M 13 (sI x7).toNat)
          have q59 := andI_br (shrI (M 3 (sI ((24 * a0) + ((sI ((a2 + z23) + x28)).tmod (sI ((M 4 (sI a0).toNat) - a1))))).toNat) (M 13 (sI x7).toNat)) (c := 1) (by decide) (by decide)
          refine ⟨fun c60 => ?_, fun c60 => ?_⟩
          · skip
            exact k31 _ _ ⟨(by omega), trivial⟩ (by omega)
          · skip
            exact k31 _ _ ⟨(by omega), trivial⟩ (by omega)
set_option maxHeartbeats 4000000 in
set_option maxRecDepth 100000 in
theorem sR_keptM {M : zM}  (hB : BI M)  {Q : Int → zM → Prop} (hQ : ∀ (z : Int) (M1 : zM), BI M1 ∧ (∀ j9 k9 : Nat, ¬ (j9 = 0 ∧ k9 = 35) → M1 j9 k9 = M j9 k9) ∧ ((-2147483648) ≤ z ∧ z ≤ 2147483647) ∧ True → Q z M1) : wR_keptM  M Q := by
  unfold wR_keptM
  have hF0 : ∀ j9 k9 : Nat, ¬ (j9 = 0 ∧ k9 = 35) → M j9 k9 = M j9 k9 := fun j9 k9 _ => rfl
  intro M1 e2
  have hB3 : BI M1 := by rw [e2]; exact BI.up0 hB rfl (by omega) (by omega) (by decide)
  have hF4 : ∀ j9 k9 : Nat, ¬ (j9 = 0 ∧ k9 = 35) → M1 j9 k9 = M j9 k9 := fun j9 k9 h9 => by rw [e2]; exact (zup_n _ _ (by omega)).trans (hF0 j9 k9 h9)
  refine pL2_of (fun x5 x6 => (0 ≤ x6 ∧ x6 ≤ 1000000) ∧ True) (fun x5 x6 => (1000000 - x6).toNat) ⟨(by omega), trivial⟩ (fun K x5 x6 h8 k9 => ?_)
  obtain ⟨i7, -⟩ := h8
  have q10 : 0 ≤ (M1 0 10) ∧ (M1 0 10) ≤ 4 := BN.at hB3.1 (rfl : zcd wR 0 = 50) rfl
  have s11 : sI x6 = x6 := sIo (by omega) (by omega)
  have s12 : sI (M1 0 10) = (M1 0 10) := sIo (by omega) (by omega)
  refine ⟨fun c13 => ?_, fun c13 => ?_⟩
  · skip
    have s14 := sI_R x5
    have s15 := sI_or x5
    exact hQ _ _ ⟨hB3, hF4, (by omega), trivial⟩
  · skip
    have o16 : 0 ≤ (sI x6) ∧ (sI x6) < 4 := by omega
    refine ⟨o16, ?_⟩
    have q17 : 0 ≤ (M1 6 (sI x6).toNat) ∧ (M1 6 (sI x6).toNat) ≤ 23 := BN.at hB3.1 (rfl : zcd wR 6 = 56) rfl
    refine sR_truths hB3 (by omega) (by omega) (by omega) (by omega) (by omega) (fun z18  h19 => ?_)
    obtain ⟨p20, -⟩ := h19
    have q21 := orI_R x5 z18
    exact k9 _ _ ⟨(by omega), trivial⟩ (by omega)
/-- what the model's table of plans holds from a ring on: FAR, or the cost of a cut and start and what stands behind it -/
def DPR (M N : zM) (r : Nat) : Prop := ∀ v : Nat, (v : Int) < shlI 1 (M 0 16) → N 28 (64 * r + v) = 268435456 ∨ ∃ c t : Nat, (c : Int) < M 4 r ∧ (t : Int) < M 4 r - c ∧ N 28 (64 * r + v) = (5 * c + absI (t - M 6 r)) + N 28 (64 * (r + 1) + (andI v (xorI (N 29 (24 * (24 * r + c) + t)) (-1))).toNat)
theorem DPR.of {M N N2 : zM} {r : Nat} (h : DPR M N r) (h28 : ∀ i, 64 * r ≤ i → N2 28 i = N 28 i) (h29 : ∀ i, 576 * r ≤ i → N2 29 i = N 29 i) : DPR M N2 r := by
  intro v hv
  rw [h28 _ (by omega)]
  rcases h v hv with h1 | ⟨c, t, h1, h2, h3⟩
  · exact Or.inl h1
  · refine Or.inr ⟨c, t, h1, h2, ?_⟩
    rw [h29 _ (by omega), h28 _ (by omega)]
    exact h3
end zz31_R02
section zz31_R03
set_option maxHeartbeats 4000000 in
set_option maxRecDepth 100000 in
theorem sR_weight {M : zM} {a0 : Int} {a1 : Int} (hB : BI M) (v0 : (-2147483648) ≤ a0 ∧ a0 ≤ 2147483647) (v1 : (-2147483648) ≤ a1 ∧ a1 ≤ 2147483647) {Q : Int → zM → Prop} (hQ : ∀ (z : Int) (M1 : zM), BI M1 ∧ (∀ j9 k9 : Nat, ¬ (j9 = 0 ∧ k9 = 35 ∨ j9 = 14) → M1 j9 k9 = M j9 k9) ∧ ((-2147483648) ≤ z ∧ z ≤ 2147483647) ∧ True → Q z M1) : wR_weight a0 a1 M Q := by
  unfold wR_weight
  have hF0 : ∀ j9 k9 : Nat, ¬ (j9 = 0 ∧ k9 = 35 ∨ j9 = 14) → M j9 k9 = M j9 k9 := fun j9 k9 _ => rfl
  intro M1 e2
  have hB3 : BI M1 := by rw [e2]; exact BI.up0 hB rfl (by omega) (by omega) (by decide)
  have hF4 : ∀ j9 k9 : Nat, ¬ (j9 = 0 ∧ k9 = 35 ∨ j9 = 14) → M1 j9 k9 = M j9 k9 := fun j9 k9 h9 => by rw [e2]; exact (zup_n _ _ (by omega)).trans (hF0 j9 k9 h9)
  refine sR_in hB3 (by omega) (by omega) (by omega) (fun z5  h6 => ?_)
  obtain ⟨p7, p8, -⟩ := h6
  refine ⟨fun c9 => ?_, fun c9 => ?_⟩
  · skip
    exact hQ _ _ ⟨hB3, hF4, (by omega), trivial⟩
  · skip
    refine sR_in hB3 (by omega) (by omega) (by omega) (fun z10  h11 => ?_)
    obtain ⟨p12, p13, -⟩ := h11
    refine ⟨fun c14 => ?_, fun c14 => ?_⟩
    · skip
      have s15 : sI a0 = a0 := sIo (by omega) (by omega)
      have o16 : 0 ≤ (sI a0) ∧ (sI a0) < 10 := by omega
      refine ⟨o16, ?_⟩
      have q17 : (-2147483648) ≤ (M1 14 (sI a0).toNat) ∧ (M1 14 (sI a0).toNat) ≤ 2147483647 := BN.at hB3.1 (rfl : zcd wR 14 = 64) rfl
      have o18 : 0 ≤ (sI a0) ∧ (sI a0) < 10 := by omega
      refine ⟨o18, ?_⟩
      intro M19 e20
      have hB21 : BI M19 := by rw [e20]; exact BI.up hB3 (rfl : zcd wR 14 = 64) rfl (by omega) (by omega) (by decide)
      have hF22 : ∀ j9 k9 : Nat, ¬ (j9 = 0 ∧ k9 = 35 ∨ j9 = 14) → M19 j9 k9 = M j9 k9 := fun j9 k9 h9 => by rw [e20]; exact (zup_n _ _ (by omega)).trans (hF4 j9 k9 h9)
      have s23 : sI (M1 14 (sI a0).toNat) = (M1 14 (sI a0).toNat) := sIo (by omega) (by omega)
      exact hQ _ _ ⟨hB21, hF22, (by omega), trivial⟩
    · skip
      exact hQ _ _ ⟨hB3, hF4, (by omega), trivial⟩
set_option maxHeartbeats 4000000 in
set_option maxRecDepth 100000 in
theorem sR_heads {M : zM} {a0 : Int} {a1 : Int} {a2 : Int} {a3 : Int} (hB : BI M) (v0 : (-2147483648) ≤ a0 ∧ a0 ≤ 2147483647) (v1 : (-2147483648) ≤ a1 ∧ a1 ≤ 2147483647) (v2 : (-2147483648) ≤ a2 ∧ a2 ≤ 2147483647) (v3 : (-2147483648) ≤ a3 ∧ a3 ≤ 2147483647) {Q : Int → zM → Prop} (hQ : ∀ (z : Int) (M1 : zM), BI M1 ∧ (∀ j9 k9 : Nat, ¬ (j9 = 0 ∧ k9 = 35 ∨ j9 = 0 ∧ k9 = 18 ∨ j9 = 0 ∧ k9 = 19 ∨ j9 = 0 ∧ k9 = 20 ∨ j9 = 0 ∧ k9 = 21) → M1 j9 k9 = M j9 k9) ∧ (0 ≤ z ∧ z ≤ 1) ∧ ((z = 1 ∧ (1 ≤ a0 ∧ a0 ≤ 20) ∧ (0 ≤ a1 ∧ a1 ≤ 100) ∧ (1 ≤ a2 ∧ a2 ≤ 20) ∧ (0 ≤ a3 ∧ a3 ≤ 100)) ∨ (z = 0 ∧ ¬ ((1 ≤ a0 ∧ a0 ≤ 20) ∧ (0 ≤ a1 ∧ a1 ≤ 100) ∧ (1 ≤ a2 ∧ a2 ≤ 20) ∧ (0 ≤ a3 ∧ a3 ≤ 100)))) ∧ True → Q z M1) : wR_heads a0 a1 a2 a3 M Q := by
  unfold wR_heads
  have hF0 : ∀ j9 k9 : Nat, ¬ (j9 = 0 ∧ k9 = 35 ∨ j9 = 0 ∧ k9 = 18 ∨ j9 = 0 ∧ k9 = 19 ∨ j9 = 0 ∧ k9 = 20 ∨ j9 = 0 ∧ k9 = 21) → M j9 k9 = M j9 k9 := fun j9 k9 _ => rfl
  intro M1 e2
  have hB3 : BI M1 := by rw [e2]; exact BI.up0 hB rfl (by omega) (by omega) (by decide)
  have hF4 : ∀ j9 k9 : Nat, ¬ (j9 = 0 ∧ k9 = 35 ∨ j9 = 0 ∧ k9 = 18 ∨ j9 = 0 ∧ k9 = 19 ∨ j9 = 0 ∧ k9 = 20 ∨ j9 = 0 ∧ k9 = 21) → M1 j9 k9 = M j9 k9 := fun j9 k9 h9 => by rw [e2]; exact (zup_n _ _ (by omega)).trans (hF0 j9 k9 h9)
  refine sR_in hB3 (by omega) (by omega) (by omega) (fun z5  h6 => ?_)
  obtain ⟨p7, p8, -⟩ := h6
  refine ⟨fun c9 => ?_, fun c9 => ?_⟩
  · skip
    exact hQ _ _ ⟨hB3, hF4, (by omega), (by omega), trivial⟩
  · skip
    refine sR_in hB3 (by omega) (by omega) (by omega) (fun z10  h11 => ?_)
    obtain ⟨p12, p13, -⟩ := h11
    refine ⟨fun c14 => ?_, fun c14 => ?_⟩
    · skip
      exact hQ _ _ ⟨hB3, hF4, (by omega), (by omega), trivial⟩
    · skip
      refine sR_in hB3 (by omega) (by omega) (by omega) (fun z15  h16 => ?_)
      obtain ⟨p17, p18, -⟩ := h16
      refine ⟨fun c19 => ?_, fun c19 => ?_⟩
      · skip
        exact hQ _ _ ⟨hB3, hF4, (by omega), (by omega), trivial⟩
      · skip
        refine sR_in hB3 (by omega) (by omega) (by omega) (fun z20  h21 => ?_)
        obtain ⟨p22, p23, -⟩ := h21
        refine ⟨fun c24 => ?_, fun c24 => ?_⟩
        · skip
          intro M25 e26
          have hB27 : BI M25 := by rw [e26]; exact BI.up0 hB3 rfl (by omega) (by omega) (by decide)
          have hF28 : ∀ j9 k9 : Nat, ¬ (j9 = 0 ∧ k9 = 35 ∨ j9 = 0 ∧ k9 = 18 ∨ j9 = 0 ∧ k9 = 19 ∨ j9 = 0 ∧ k9 = 20 ∨ j9 = 0 ∧ k9 = 21) → M25 j9 k9 = M j9 k9 := fun j9 k9 h9 => by rw [e26]; exact (zup_n _ _ (by omega)).trans (hF4 j9 k9 h9)
          intro M29 e30
          have hB31 : BI M29 := by rw [e30]; exact BI.up0 hB27 rfl (by omega) (by omega) (by decide)
          have hF32 : ∀ j9 k9 : Nat, ¬ (j9 = 0 ∧ k9 = 35 ∨ j9 = 0 ∧ k9 = 18 ∨ j9 = 0 ∧ k9 = 19 ∨ j9 = 0 ∧ k9 = 20 ∨ j9 = 0 ∧ k9 = 21) → M29 j9 k9 = M j9 k9 := fun j9 k9 h9 => by rw [e30]; exact (zup_n _ _ (by omega)).trans (hF28 j9 k9 h9)
          intro M33 e34
          have hB35 : BI M33 := by rw [e34]; exact BI.up0 hB31 rfl (by omega) (by omega) (by decide)
          have hF36 : ∀ j9 k9 : Nat, ¬ (j9 = 0 ∧ k9 = 35 ∨ j9 = 0 ∧ k9 = 18 ∨ j9 = 0 ∧ k9 = 19 ∨ j9 = 0 ∧ k9 = 20 ∨ j9 = 0 ∧ k9 = 21) → M33 j9 k9 = M j9 k9 := fun j9 k9 h9 => by rw [e34]; exact (zup_n _ _ (by omega)).trans (hF32 j9 k9 h9)
          intro M37 e38
          have hB39 : BI M37 := by rw [e38]; exact BI.up0 hB35 rfl (by omega) (by omega) (by decide)
          have hF40 : ∀ j9 k9 : Nat, ¬ (j9 = 0 ∧ k9 = 35 ∨ j9 = 0 ∧ k9 = 18 ∨ j9 = 0 ∧ k9 = 19 ∨ j9 = 0 ∧ k9 = 20 ∨ j9 = 0 ∧ k9 = 21) → M37 j9 k9 = M j9 k9 := fun j9 k9 h9 => by rw [e38]; exact (zup_n _ _ (by omega)).trans (hF36 j9 k9 h9)
          exact hQ _ _ ⟨hB39, hF40, (by omega), (by omega), trivial⟩
        · skip
          exact hQ _ _ ⟨hB3, hF4, (by omega), (by omega), trivial⟩
set_option maxHeartbeats 4000000 in
set_option maxRecDepth 100000 in
theorem sR_stop {M : zM} {a0 : Int} (hB : BI M) (v0 : (-2147483648) ≤ a0 ∧ a0 ≤ 2147483647) {Q : Int → zM → Prop} (hQ : ∀ (z : Int) (M1 : zM), BI M1 ∧ (∀ j9 k9 : Nat, ¬ (j9 = 0 ∧ k9 = 35 ∨ j9 = 0 ∧ k9 = 22) → M1 j9 k9 = M j9 k9) ∧ ((-2147483648) ≤ z ∧ z ≤ 2147483647) ∧ ((0 ≤ a0 ∧ a0 ≤ 2000 ∧ z = M 0 22 ∧ M1 0 22 = a0) ∨ (¬ (0 ≤ a0 ∧ a0 ≤ 2000) ∧ z = -1 ∧ M1 0 22 = M 0 22)) ∧ True → Q z M1) : wR_stop a0 M Q := by
  unfold wR_stop
  have hF0 : ∀ j9 k9 : Nat, ¬ (j9 = 0 ∧ k9 = 35 ∨ j9 = 0 ∧ k9 = 22) → M j9 k9 = M j9 k9 := fun j9 k9 _ => rfl
  intro M1 e2
  have hB3 : BI M1 := by rw [e2]; exact BI.up0 hB rfl (by omega) (by omega) (by decide)
  have hF4 : ∀ j9 k9 : Nat, ¬ (j9 = 0 ∧ k9 = 35 ∨ j9 = 0 ∧ k9 = 22) → M1 j9 k9 = M j9 k9 := fun j9 k9 h9 => by rw [e2]; exact (zup_n _ _ (by omega)).trans (hF0 j9 k9 h9)
  have r5 : M1 0 22 = M 0 22 := by rw [e2]; exact zup_n _ _ (by omega)
  refine sR_in hB3 (by omega) (by omega) (by omega) (fun z6  h7 => ?_)
  obtain ⟨p8, p9, -⟩ := h7
  refine ⟨fun c10 => ?_, fun c10 => ?_⟩
  · skip
    have q11 : 0 ≤ (M1 0 22) ∧ (M1 0 22) ≤ 2000 := BN.at hB3.1 (rfl : zcd wR 0 = 50) rfl
    intro M12 e13
    have hB14 : BI M12 := by rw [e13]; exact BI.up0 hB3 rfl (by omega) (by omega) (by decide)
    have hF15 : ∀ j9 k9 : Nat, ¬ (j9 = 0 ∧ k9 = 35 ∨ j9 = 0 ∧ k9 = 22) → M12 j9 k9 = M j9 k9 := fun j9 k9 h9 => by rw [e13]; exact (zup_n _ _ (by omega)).trans (hF4 j9 k9 h9)
    have r16 : M12 0 22 = a0 := by rw [e13]; exact zup_s _ _ _ _
    have s17 : sI (M1 0 22) = (M1 0 22) := sIo (by omega) (by omega)
    exact hQ _ _ ⟨hB14, hF15, (by omega), (by omega), trivial⟩
  · skip
    exact hQ _ _ ⟨hB3, hF4, (by omega), (by omega), trivial⟩
set_option maxHeartbeats 4000000 in
set_option maxRecDepth 100000 in
theorem sR_findOuts {M : zM} {a0 : Int} (hB : BI M) (v0 : 0 ≤ a0 ∧ a0 ≤ 4000) {Q : zM → Prop} (hQ : ∀ (M1 : zM), BI M1 ∧ (∀ j9 k9 : Nat, ¬ (j9 = 30) → M1 j9 k9 = M j9 k9) ∧ True → Q M1) : wR_findOuts a0 M Q := by
  unfold wR_findOuts
  have hF0 : ∀ j9 k9 : Nat, ¬ (j9 = 30) → M j9 k9 = M j9 k9 := fun j9 k9 _ => rfl
  refine wL1_of (fun x1 M2 => BI M2 ∧ (∀ j9 k9 : Nat, ¬ (j9 = 30) → M2 j9 k9 = M j9 k9) ∧ (0 ≤ x1 ∧ x1 ≤ 1000000) ∧ True) (fun x1 M2 => (1000000 - x1).toNat) ⟨hB, hF0, (by omega), trivial⟩ (fun K x1 M2 h6 k7 => ?_)
  obtain ⟨hB3, hF4, i5, -⟩ := h6
  have s8 : sI x1 = x1 := sIo (by omega) (by omega)
  have s9 : sI a0 = a0 := sIo (by omega) (by omega)
  refine ⟨fun c10 => ?_, fun c10 => ?_⟩
  · skip
    exact hQ _ ⟨hB3, hF4, trivial⟩
  · skip
    have q11 : 0 ≤ (M2 0 22) ∧ (M2 0 22) ≤ 2000 := BN.at hB3.1 (rfl : zcd wR 0 = 50) rfl
    have s12 : sI (M2 0 22) = (M2 0 22) := sIo (by omega) (by omega)
    refine pJ1_dup ?_
    refine ⟨fun c13 => ?_, fun c13 => ?_⟩
    · skip
      have s14 : sI 0 = 0 := sIo (by omega) (by omega)
      have q15 : 0 ≤ (M2 0 18) ∧ (M2 0 18) ≤ 20 := BN.at hB3.1 (rfl : zcd wR 0 = 50) rfl
      have s16 : sI (M2 0 18) = (M2 0 18) := sIo (by omega) (by omega)
      refine pJ1_dup ?_
      refine ⟨fun c17 => ?_, fun c17 => ?_⟩
      · skip
        have q18 : 0 ≤ (M2 0 20) ∧ (M2 0 20) ≤ 20 := BN.at hB3.1 (rfl : zcd wR 0 = 50) rfl
        have s19 : sI (M2 0 20) = (M2 0 20) := sIo (by omega) (by omega)
        refine pJ1_dup ?_
        refine ⟨fun c20 => ?_, fun c20 => ?_⟩
        · skip
          have o21 : 0 ≤ (sI x1) ∧ (sI x1) < 4001 := by omega
          refine ⟨o21, ?_⟩
          intro M22 e23
          have hB24 : BI M22 := by rw [e23]; exact BI.up hB3 (rfl : zcd wR 30 = 80) rfl (by omega) (by omega) (by decide)
          have hF25 : ∀ j9 k9 : Nat, ¬ (j9 = 30) → M22 j9 k9 = M j9 k9 := fun j9 k9 h9 => by rw [e23]; exact (zup_n _ _ (by omega)).trans (hF4 j9 k9 h9)
          exact k7 _ _ ⟨hB24, hF25, (by omega), trivial⟩ (by omega)
        · skip
          have q26 : (-2147483648) ≤ (M2 0 21) ∧ (M2 0 21) ≤ 2147483647 := BN.at hB3.1 (rfl : zcd wR 0 = 50) rfl
          have s28 : sI (x1 - (M2 0 20)) = (x1 - (M2 0 20)) := sIo (by omega) (by omega)
          have o29 : 0 ≤ (sI (x1 - (M2 0 20))) ∧ (sI (x1 - (M2 0 20))) < 4001 := by omega
          refine ⟨o29, ?_⟩
          have q30 : (-2147483648) ≤ (M2 30 (sI (x1 - (M2 0 20))).toNat) ∧ (M2 30 (sI (x1 - (M2 0 20))).toNat) ≤ 2147483647 := BN.at hB3.1 (rfl : zcd wR 30 = 80) rfl
          have s31 := sI_R ((M2 0 21) * (M2 30 (sI (x1 - (M2 0 20))).toNat))
          have s32 := sI_or ((M2 0 21) * (M2 30 (sI (x1 - (M2 0 20))).toNat))
          intro t33 e34
          have s35 := sI_R t33
          have s36 := sI_or t33
          have o37 : 0 ≤ (sI x1) ∧ (sI x1) < 4001 := by omega
          refine ⟨o37, ?_⟩
          intro M38 e39
          have hB40 : BI M38 := by rw [e39]; exact BI.up hB3 (rfl : zcd wR 30 = 80) rfl (by omega) (by omega) (by decide)
          have hF41 : ∀ j9 k9 : Nat, ¬ (j9 = 30) → M38 j9 k9 = M j9 k9 := fun j9 k9 h9 => by rw [e39]; exact (zup_n _ _ (by omega)).trans (hF4 j9 k9 h9)
          exact k7 _ _ ⟨hB40, hF41, (by omega), trivial⟩ (by omega)
      · skip
        have q42 : (-2147483648) ≤ (M2 0 19) ∧ (M2 0 19) ≤ 2147483647 := BN.at hB3.1 (rfl : zcd wR 0 = 50) rfl
        have s44 : sI (x1 - (M2 0 18)) = (x1 - (M2 0 18)) := sIo (by omega) (by omega)
        have o45 : 0 ≤ (sI (x1 - (M2 0 18))) ∧ (sI (x1 - (M2 0 18))) < 4001 := by omega
        refine ⟨o45, ?_⟩
        have q46 : (-2147483648) ≤ (M2 30 (sI (x1 - (M2 0 18))).toNat) ∧ (M2 30 (sI (x1 - (M2 0 18))).toNat) ≤ 2147483647 := BN.at hB3.1 (rfl : zcd wR 30 = 80) rfl
        have s47 := sI_R ((M2 0 19) * (M2 30 (sI (x1 - (M2 0 18))).toNat))
        have s48 := sI_or ((M2 0 19) * (M2 30 (sI (x1 - (M2 0 18))).toNat))
        intro t49 e50
        have q51 : 0 ≤ (M2 0 20) ∧ (M2 0 20) ≤ 20 := BN.at hB3.1 (rfl : zcd wR 0 = 50) rfl
        have s52 : sI (M2 0 20) = (M2 0 20) := sIo (by omega) (by omega)
        refine pJ1_dup ?_
        refine ⟨fun c53 => ?_, fun c53 => ?_⟩
        · skip
          have s54 := sI_R t49
          have s55 := sI_or t49
          have o56 : 0 ≤ (sI x1) ∧ (sI x1) < 4001 := by omega
          refine ⟨o56, ?_⟩
          intro M57 e58
          have hB59 : BI M57 := by rw [e58]; exact BI.up hB3 (rfl : zcd wR 30 = 80) rfl (by omega) (by omega) (by decide)
          have hF60 : ∀ j9 k9 : Nat, ¬ (j9 = 30) → M57 j9 k9 = M j9 k9 := fun j9 k9 h9 => by rw [e58]; exact (zup_n _ _ (by omega)).trans (hF4 j9 k9 h9)
          exact k7 _ _ ⟨hB59, hF60, (by omega), trivial⟩ (by omega)
        · skip
          have q61 : (-2147483648) ≤ (M2 0 21) ∧ (M2 0 21) ≤ 2147483647 := BN.at hB3.1 (rfl : zcd wR 0 = 50) rfl
          have s63 : sI (x1 - (M2 0 20)) = (x1 - (M2 0 20)) := sIo (by omega) (by omega)
          have o64 : 0 ≤ (sI (x1 - (M2 0 20))) ∧ (sI (x1 - (M2 0 20))) < 4001 := by omega
          refine ⟨o64, ?_⟩
          have q65 : (-2147483648) ≤ (M2 30 (sI (x1 - (M2 0 20))).toNat) ∧ (M2 30 (sI (x1 - (M2 0 20))).toNat) ≤ 2147483647 := BN.at hB3.1 (rfl : zcd wR 30 = 80) rfl
          have s66 := sI_R ((M2 0 21) * (M2 30 (sI (x1 - (M2 0 20))).toNat))
          have s67 := sI_or ((M2 0 21) * (M2 30 (sI (x1 - (M2 0 20))).toNat))
          intro t68 e69
          have s70 := sI_R t68
          have s71 := sI_or t68
          have o72 : 0 ≤ (sI x1) ∧ (sI x1) < 4001 := by omega
          refine ⟨o72, ?_⟩
          intro M73 e74
          have hB75 : BI M73 := by rw [e74]; exact BI.up hB3 (rfl : zcd wR 30 = 80) rfl (by omega) (by omega) (by decide)
          have hF76 : ∀ j9 k9 : Nat, ¬ (j9 = 30) → M73 j9 k9 = M j9 k9 := fun j9 k9 h9 => by rw [e74]; exact (zup_n _ _ (by omega)).trans (hF4 j9 k9 h9)
          exact k7 _ _ ⟨hB75, hF76, (by omega), trivial⟩ (by omega)
    · skip
      refine sR_heardInAll hB3  (fun z77  h78 => ?_)
      obtain ⟨p79, -⟩ := h78
      refine pL2_of (fun x80 x81 => (1 ≤ x81 ∧ x81 ≤ 1000000) ∧ True) (fun x80 x81 => (1000000 - x81).toNat) ⟨(by omega), trivial⟩ (fun K x80 x81 h83 k84 => ?_)
      obtain ⟨i82, -⟩ := h83
      have s85 : sI x81 = x81 := sIo (by omega) (by omega)
      refine ⟨fun c86 => ?_, fun c86 => ?_⟩
      · skip
        have q87 : 0 ≤ (M2 0 18) ∧ (M2 0 18) ≤ 20 := BN.at hB3.1 (rfl : zcd wR 0 = 50) rfl
        have s88 : sI x1 = x1 := sIo (by omega) (by omega)
        have s89 : sI (M2 0 18) = (M2 0 18) := sIo (by omega) (by omega)
        refine pJ1_dup ?_
        refine ⟨fun c90 => ?_, fun c90 => ?_⟩
        · skip
          have q91 : 0 ≤ (M2 0 20) ∧ (M2 0 20) ≤ 20 := BN.at hB3.1 (rfl : zcd wR 0 = 50) rfl
          have s92 : sI (M2 0 20) = (M2 0 20) := sIo (by omega) (by omega)
          refine pJ1_dup ?_
          refine ⟨fun c93 => ?_, fun c93 => ?_⟩
          · skip
            have s94 := sI_R x80
            have s95 := sI_or x80
            have o96 : 0 ≤ (sI x1) ∧ (sI x1) < 4001 := by omega
            refine ⟨o96, ?_⟩
            intro M97 e98
            have hB99 : BI M97 := by rw [e98]; exact BI.up hB3 (rfl : zcd wR 30 = 80) rfl (by omega) (by omega) (by decide)
            have hF100 : ∀ j9 k9 : Nat, ¬ (j9 = 30) → M97 j9 k9 = M j9 k9 := fun j9 k9 h9 => by rw [e98]; exact (zup_n _ _ (by omega)).trans (hF4 j9 k9 h9)
            exact k7 _ _ ⟨hB99, hF100, (by omega), trivial⟩ (by omega)
          · skip
            have q101 : (-2147483648) ≤ (M2 0 21) ∧ (M2 0 21) ≤ 2147483647 := BN.at hB3.1 (rfl : zcd wR 0 = 50) rfl
            have s103 : sI (x1 - (M2 0 20)) = (x1 - (M2 0 20)) := sIo (by omega) (by omega)
            have o104 : 0 ≤ (sI (x1 - (M2 0 20))) ∧ (sI (x1 - (M2 0 20))) < 4001 := by omega
            refine ⟨o104, ?_⟩
            have q105 : (-2147483648) ≤ (M2 30 (sI (x1 - (M2 0 20))).toNat) ∧ (M2 30 (sI (x1 - (M2 0 20))).toNat) ≤ 2147483647 := BN.at hB3.1 (rfl : zcd wR 30 = 80) rfl
            have s106 := sI_R ((M2 0 21) * (M2 30 (sI (x1 - (M2 0 20))).toNat))
            have s107 := sI_or ((M2 0 21) * (M2 30 (sI (x1 - (M2 0 20))).toNat))
            intro t108 e109
            have s110 := sI_R t108
            have s111 := sI_or t108
            have o112 : 0 ≤ (sI x1) ∧ (sI x1) < 4001 := by omega
            refine ⟨o112, ?_⟩
            intro M113 e114
            have hB115 : BI M113 := by rw [e114]; exact BI.up hB3 (rfl : zcd wR 30 = 80) rfl (by omega) (by omega) (by decide)
            have hF116 : ∀ j9 k9 : Nat, ¬ (j9 = 30) → M113 j9 k9 = M j9 k9 := fun j9 k9 h9 => by rw [e114]; exact (zup_n _ _ (by omega)).trans (hF4 j9 k9 h9)
            exact k7 _ _ ⟨hB115, hF116, (by omega), trivial⟩ (by omega)
        · skip
          have q117 : (-2147483648) ≤ (M2 0 19) ∧ (M2 0 19) ≤ 2147483647 := BN.at hB3.1 (rfl : zcd wR 0 = 50) rfl
          have s119 : sI (x1 - (M2 0 18)) = (x1 - (M2 0 18)) := sIo (by omega) (by omega)
          have o120 : 0 ≤ (sI (x1 - (M2 0 18))) ∧ (sI (x1 - (M2 0 18))) < 4001 := by omega
          refine ⟨o120, ?_⟩
          have q121 : (-2147483648) ≤ (M2 30 (sI (x1 - (M2 0 18))).toNat) ∧ (M2 30 (sI (x1 - (M2 0 18))).toNat) ≤ 2147483647 := BN.at hB3.1 (rfl : zcd wR 30 = 80) rfl
          have s122 := sI_R ((M2 0 19) * (M2 30 (sI (x1 - (M2 0 18))).toNat))
          have s123 := sI_or ((M2 0 19) * (M2 30 (sI (x1 - (M2 0 18))).toNat))
          intro t124 e125
          have q126 : 0 ≤ (M2 0 20) ∧ (M2 0 20) ≤ 20 := BN.at hB3.1 (rfl : zcd wR 0 = 50) rfl
          have s127 : sI (M2 0 20) = (M2 0 20) := sIo (by omega) (by omega)
          refine pJ1_dup ?_
          refine ⟨fun c128 => ?_, fun c128 => ?_⟩
          · skip
            have s129 := sI_R t124
            have s130 := sI_or t124
            have o131 : 0 ≤ (sI x1) ∧ (sI x1) < 4001 := by omega
            refine ⟨o131, ?_⟩
            intro M132 e133
            have hB134 : BI M132 := by rw [e133]; exact BI.up hB3 (rfl : zcd wR 30 = 80) rfl (by omega) (by omega) (by decide)
            have hF135 : ∀ j9 k9 : Nat, ¬ (j9 = 30) → M132 j9 k9 = M j9 k9 := fun j9 k9 h9 => by rw [e133]; exact (zup_n _ _ (by omega)).trans (hF4 j9 k9 h9)
            exact k7 _ _ ⟨hB134, hF135, (by omega), trivial⟩ (by omega)
          · skip
            have q136 : (-2147483648) ≤ (M2 0 21) ∧ (M2 0 21) ≤ 2147483647 := BN.at hB3.1 (rfl : zcd wR 0 = 50) rfl
            have s138 : sI (x1 - (M2 0 20)) = (x1 - (M2 0 20)) := sIo (by omega) (by omega)
            have o139 : 0 ≤ (sI (x1 - (M2 0 20))) ∧ (sI (x1 - (M2 0 20))) < 4001 := by omega
            refine ⟨o139, ?_⟩
            have q140 : (-2147483648) ≤ (M2 30 (sI (x1 - (M2 0 20))).toNat) ∧ (M2 30 (sI (x1 - (M2 0 20))).toNat) ≤ 2147483647 := BN.at hB3.1 (rfl : zcd wR 30 = 80) rfl
            have s141 := sI_R ((M2 0 21) * (M2 30 (sI (x1 - (M2 0 20))).toNat))
            have s142 := sI_or ((M2 0 21) * (M2 30 (sI (x1 - (M2 0 20))).toNat))
            intro t143 e144
            have s145 := sI_R t143
            have s146 := sI_or t143
            have o147 : 0 ≤ (sI x1) ∧ (sI x1) < 4001 := by omega
            refine ⟨o147, ?_⟩
            intro M148 e149
            have hB150 : BI M148 := by rw [e149]; exact BI.up hB3 (rfl : zcd wR 30 = 80) rfl (by omega) (by omega) (by decide)
            have hF151 : ∀ j9 k9 : Nat, ¬ (j9 = 30) → M148 j9 k9 = M j9 k9 := fun j9 k9 h9 => by rw [e149]; exact (zup_n _ _ (by omega)).trans (hF4 j9 k9 h9)
            exact k7 _ _ ⟨hB150, hF151, (by omega), trivial⟩ (by omega)
      · skip
        have q152 := shrI_R z77 x81
        have q153 := andI_br (shrI z77 x81) (c := 1) (by decide) (by decide)
        refine ⟨fun c154 => ?_, fun c154 => ?_⟩
        · skip
          exact k84 _ _ ⟨(by omega), trivial⟩ (by omega)
        · skip
          have o155 : 0 ≤ (sI x81) ∧ (sI x81) < 10 := by omega
          refine ⟨o155, ?_⟩
          have q156 : (-2147483648) ≤ (M2 14 (sI x81).toNat) ∧ (M2 14 (sI x81).toNat) ≤ 2147483647 := BN.at hB3.1 (rfl : zcd wR 14 = 64) rfl
          exact k84 _ _ ⟨(by omega), trivial⟩ (by omega)
set_option maxHeartbeats 4000000 in
set_option maxRecDepth 100000 in
theorem sR_out {M : zM} {a0 : Int} (hB : BI M) (v0 : (-2147483648) ≤ a0 ∧ a0 ≤ 2147483647) {Q : Int → zM → Prop} (hQ : ∀ (z : Int) (M1 : zM), BI M1 ∧ (∀ j9 k9 : Nat, ¬ (j9 = 0 ∧ k9 = 35 ∨ j9 = 30) → M1 j9 k9 = M j9 k9) ∧ ((-2147483648) ≤ z ∧ z ≤ 2147483647) ∧ True → Q z M1) : wR_out a0 M Q := by
  unfold wR_out
  have hF0 : ∀ j9 k9 : Nat, ¬ (j9 = 0 ∧ k9 = 35 ∨ j9 = 30) → M j9 k9 = M j9 k9 := fun j9 k9 _ => rfl
  intro M1 e2
  have hB3 : BI M1 := by rw [e2]; exact BI.up0 hB rfl (by omega) (by omega) (by decide)
  have hF4 : ∀ j9 k9 : Nat, ¬ (j9 = 0 ∧ k9 = 35 ∨ j9 = 30) → M1 j9 k9 = M j9 k9 := fun j9 k9 h9 => by rw [e2]; exact (zup_n _ _ (by omega)).trans (hF0 j9 k9 h9)
  refine sR_in hB3 (by omega) (by omega) (by omega) (fun z5  h6 => ?_)
  obtain ⟨p7, p8, -⟩ := h6
  refine ⟨fun c9 => ?_, fun c9 => ?_⟩
  · skip
    refine sR_findOuts hB3 (by omega) (fun  M10 h11 => ?_)
    obtain ⟨hB12, f13, -⟩ := h11
    have hF14 : ∀ j9 k9 : Nat, ¬ (j9 = 0 ∧ k9 = 35 ∨ j9 = 30) → M10 j9 k9 = M j9 k9 := fun j9 k9 h9 => ((f13 j9 k9 (by omega)).trans (hF4 j9 k9 h9))
    have s15 : sI a0 = a0 := sIo (by omega) (by omega)
    have o16 : 0 ≤ (sI a0) ∧ (sI a0) < 4001 := by omega
    refine ⟨o16, ?_⟩
    have q17 : (-2147483648) ≤ (M10 30 (sI a0).toNat) ∧ (M10 30 (sI a0).toNat) ≤ 2147483647 := BN.at hB12.1 (rfl : zcd wR 30 = 80) rfl
    have s18 : sI (M10 30 (sI a0).toNat) = (M10 30 (sI a0).toNat) := sIo (by omega) (by omega)
    exact hQ _ _ ⟨hB12, hF14, (by omega), trivial⟩
  · skip
    exact hQ _ _ ⟨hB3, hF4, (by omega), trivial⟩
set_option maxHeartbeats 4000000 in
set_option maxRecDepth 100000 in
theorem sR_areAlike {M : zM} {a0 : Int} {a1 : Int} (hB : BI M) (v0 : 0 ≤ a0 ∧ a0 ≤ 3981) (v1 : 0 ≤ a1 ∧ a1 ≤ 3981) {Q : Int → Prop} (hQ : ∀ (z : Int), (0 ≤ z ∧ z ≤ 1) ∧ True → Q z) : wR_areAlike a0 a1 M Q := by
  unfold wR_areAlike
  refine pL1_of (fun x1 => (0 ≤ x1 ∧ x1 ≤ 1000000) ∧ True) (fun x1 => (1000000 - x1).toNat) ⟨(by omega), trivial⟩ (fun K x1 h3 k4 => ?_)
  obtain ⟨i2, -⟩ := h3
  have s5 : sI x1 = x1 := sIo (by omega) (by omega)
  refine ⟨fun c6 => ?_, fun c6 => ?_⟩
  · skip
    exact hQ _ ⟨(by omega), trivial⟩
  · skip
    have s7 : sI (a0 + x1) = (a0 + x1) := sIo (by omega) (by omega)
    have o8 : 0 ≤ (sI (a0 + x1)) ∧ (sI (a0 + x1)) < 4001 := by omega
    refine ⟨o8, ?_⟩
    have q9 : (-2147483648) ≤ (M 30 (sI (a0 + x1)).toNat) ∧ (M 30 (sI (a0 + x1)).toNat) ≤ 2147483647 := BN.at hB.1 (rfl : zcd wR 30 = 80) rfl
    have s10 : sI (a1 + x1) = (a1 + x1) := sIo (by omega) (by omega)
    have o11 : 0 ≤ (sI (a1 + x1)) ∧ (sI (a1 + x1)) < 4001 := by omega
    refine ⟨o11, ?_⟩
    have q12 : (-2147483648) ≤ (M 30 (sI (a1 + x1)).toNat) ∧ (M 30 (sI (a1 + x1)).toNat) ≤ 2147483647 := BN.at hB.1 (rfl : zcd wR 30 = 80) rfl
    have s13 : sI (M 30 (sI (a0 + x1)).toNat) = (M 30 (sI (a0 + x1)).toNat) := sIo (by omega) (by omega)
    have s14 : sI (M 30 (sI (a1 + x1)).toNat) = (M 30 (sI (a1 + x1)).toNat) := sIo (by omega) (by omega)
    refine ⟨fun c15 => ?_, fun c15 => ?_⟩
    · skip
      exact k4 _ ⟨(by omega), trivial⟩ (by omega)
    · skip
      exact hQ _ ⟨(by omega), trivial⟩
set_option maxHeartbeats 4000000 in
set_option maxRecDepth 100000 in
theorem sR_dies {M : zM}  (hB : BI M)  {Q : Int → zM → Prop} (hQ : ∀ (z : Int) (M1 : zM), BI M1 ∧ (∀ j9 k9 : Nat, ¬ (j9 = 0 ∧ k9 = 35 ∨ j9 = 0 ∧ k9 = 34 ∨ j9 = 22 ∨ j9 = 30) → M1 j9 k9 = M j9 k9) ∧ ((-2147483648) ≤ z ∧ z ≤ 2147483647) ∧ True → Q z M1) : wR_dies  M Q := by
  unfold wR_dies
  have hF0 : ∀ j9 k9 : Nat, ¬ (j9 = 0 ∧ k9 = 35 ∨ j9 = 0 ∧ k9 = 34 ∨ j9 = 22 ∨ j9 = 30) → M j9 k9 = M j9 k9 := fun j9 k9 _ => rfl
  intro M1 e2
  have hB3 : BI M1 := by rw [e2]; exact BI.up0 hB rfl (by omega) (by omega) (by decide)
  have hF4 : ∀ j9 k9 : Nat, ¬ (j9 = 0 ∧ k9 = 35 ∨ j9 = 0 ∧ k9 = 34 ∨ j9 = 22 ∨ j9 = 30) → M1 j9 k9 = M j9 k9 := fun j9 k9 h9 => by rw [e2]; exact (zup_n _ _ (by omega)).trans (hF0 j9 k9 h9)
  have r5 : M1 0 22 = M 0 22 := by rw [e2]; exact zup_n _ _ (by omega)
  refine sR_findOuts hB3 (by omega) (fun  M6 h7 => ?_)
  obtain ⟨hB8, f9, -⟩ := h7
  have hF10 : ∀ j9 k9 : Nat, ¬ (j9 = 0 ∧ k9 = 35 ∨ j9 = 0 ∧ k9 = 34 ∨ j9 = 22 ∨ j9 = 30) → M6 j9 k9 = M j9 k9 := fun j9 k9 h9 => ((f9 j9 k9 (by omega)).trans (hF4 j9 k9 h9))
  have r11 : M6 0 22 = M1 0 22 := f9 0 22 (by omega)
  have q12 : 0 ≤ (M6 0 22) ∧ (M6 0 22) ≤ 2000 := BN.at hB8.1 (rfl : zcd wR 0 = 50) rfl
  refine pL2_of (fun x13 x14 => (0 ≤ x14 ∧ x14 ≤ 1000000) ∧ True) (fun x13 x14 => (1000000 - x14).toNat) ⟨(by omega), trivial⟩ (fun K x13 x14 h16 k17 => ?_)
  obtain ⟨i15, -⟩ := h16
  have s18 : sI x14 = x14 := sIo (by omega) (by omega)
  refine ⟨fun c19 => ?_, fun c19 => ?_⟩
  · skip
    refine pL1_of (fun x20 => ((-1) ≤ x20 ∧ x20 ≤ 3980) ∧ True) (fun x20 => (x20 + 1).toNat) ⟨(by omega), trivial⟩ (fun K x20 h22 k23 => ?_)
    obtain ⟨i21, -⟩ := h22
    have q24 : 0 ≤ (M6 0 22) ∧ (M6 0 22) ≤ 2000 := BN.at hB8.1 (rfl : zcd wR 0 = 50) rfl
    have s25 : sI x20 = x20 := sIo (by omega) (by omega)
    have s26 : sI (M6 0 22) = (M6 0 22) := sIo (by omega) (by omega)
    refine pJ0_dup ?_
    refine ⟨fun c27 => ?_, fun c27 => ?_⟩
    · skip
      refine ⟨fun c29 => ?_, fun c29 => ?_⟩
      · skip
        refine pL1_of (fun x30 => (0 ≤ x30 ∧ x30 ≤ 3980) ∧ (x30 ≤ x20) ∧ True) (fun x30 => (x30 + 1).toNat) ⟨(by omega), (by omega), trivial⟩ (fun K x30 h33 k34 => ?_)
        obtain ⟨i31, i32, -⟩ := h33
        have q35 : 0 ≤ (M6 0 22) ∧ (M6 0 22) ≤ 2000 := BN.at hB8.1 (rfl : zcd wR 0 = 50) rfl
        have s36 : sI x30 = x30 := sIo (by omega) (by omega)
        have s37 : sI (M6 0 22) = (M6 0 22) := sIo (by omega) (by omega)
        refine pJ0_dup ?_
        refine ⟨fun c38 => ?_, fun c38 => ?_⟩
        · skip
          intro M39 e40
          have hB41 : BI M39 := by rw [e40]; exact BI.up hB8 (rfl : zcd wR 22 = 72) rfl (by omega) (by omega) (by decide)
          have hF42 : ∀ j9 k9 : Nat, ¬ (j9 = 0 ∧ k9 = 35 ∨ j9 = 0 ∧ k9 = 34 ∨ j9 = 22 ∨ j9 = 30) → M39 j9 k9 = M j9 k9 := fun j9 k9 h9 => by rw [e40]; exact (zup_n _ _ (by omega)).trans (hF10 j9 k9 h9)
          have r43 : M39 0 22 = M6 0 22 := by rw [e40]; exact zup_n _ _ (by omega)
          intro M44 e45
          have hB46 : BI M44 := by rw [e45]; exact BI.up hB41 (rfl : zcd wR 22 = 72) rfl (by omega) (by omega) (by decide)
          have hF47 : ∀ j9 k9 : Nat, ¬ (j9 = 0 ∧ k9 = 35 ∨ j9 = 0 ∧ k9 = 34 ∨ j9 = 22 ∨ j9 = 30) → M44 j9 k9 = M j9 k9 := fun j9 k9 h9 => by rw [e45]; exact (zup_n _ _ (by omega)).trans (hF42 j9 k9 h9)
          have r48 : M44 0 22 = M39 0 22 := by rw [e45]; exact zup_n _ _ (by omega)
          intro M49 e50
          have hB51 : BI M49 := by rw [e50]; exact BI.up0 hB46 rfl (by omega) (by omega) (by decide)
          have hF52 : ∀ j9 k9 : Nat, ¬ (j9 = 0 ∧ k9 = 35 ∨ j9 = 0 ∧ k9 = 34 ∨ j9 = 22 ∨ j9 = 30) → M49 j9 k9 = M j9 k9 := fun j9 k9 h9 => by rw [e50]; exact (zup_n _ _ (by omega)).trans (hF47 j9 k9 h9)
          have r53 : M49 0 22 = M44 0 22 := by rw [e50]; exact zup_n _ _ (by omega)
          exact hQ _ _ ⟨hB51, hF52, (by omega), trivial⟩
        · skip
          have s54 : sI (x30 - 1) = (x30 - 1) := sIo (by omega) (by omega)
          have o55 : 0 ≤ (sI (x30 - 1)) ∧ (sI (x30 - 1)) < 4001 := by omega
          refine ⟨o55, ?_⟩
          have q56 : (-2147483648) ≤ (M6 30 (sI (x30 - 1)).toNat) ∧ (M6 30 (sI (x30 - 1)).toNat) ≤ 2147483647 := BN.at hB8.1 (rfl : zcd wR 30 = 80) rfl
          have s57 : sI ((x30 - 1) + (3981 - x20)) = ((x30 - 1) + (3981 - x20)) := sIo (by omega) (by omega)
          have o58 : 0 ≤ (sI ((x30 - 1) + (3981 - x20))) ∧ (sI ((x30 - 1) + (3981 - x20))) < 4001 := by omega
          refine ⟨o58, ?_⟩
          have q59 : (-2147483648) ≤ (M6 30 (sI ((x30 - 1) + (3981 - x20))).toNat) ∧ (M6 30 (sI ((x30 - 1) + (3981 - x20))).toNat) ≤ 2147483647 := BN.at hB8.1 (rfl : zcd wR 30 = 80) rfl
          have s60 : sI (M6 30 (sI (x30 - 1)).toNat) = (M6 30 (sI (x30 - 1)).toNat) := sIo (by omega) (by omega)
          have s61 : sI (M6 30 (sI ((x30 - 1) + (3981 - x20))).toNat) = (M6 30 (sI ((x30 - 1) + (3981 - x20))).toNat) := sIo (by omega) (by omega)
          refine ⟨fun c62 => ?_, fun c62 => ?_⟩
          · skip
            intro M63 e64
            have hB65 : BI M63 := by rw [e64]; exact BI.up hB8 (rfl : zcd wR 22 = 72) rfl (by omega) (by omega) (by decide)
            have hF66 : ∀ j9 k9 : Nat, ¬ (j9 = 0 ∧ k9 = 35 ∨ j9 = 0 ∧ k9 = 34 ∨ j9 = 22 ∨ j9 = 30) → M63 j9 k9 = M j9 k9 := fun j9 k9 h9 => by rw [e64]; exact (zup_n _ _ (by omega)).trans (hF10 j9 k9 h9)
            have r67 : M63 0 22 = M6 0 22 := by rw [e64]; exact zup_n _ _ (by omega)
            intro M68 e69
            have hB70 : BI M68 := by rw [e69]; exact BI.up hB65 (rfl : zcd wR 22 = 72) rfl (by omega) (by omega) (by decide)
            have hF71 : ∀ j9 k9 : Nat, ¬ (j9 = 0 ∧ k9 = 35 ∨ j9 = 0 ∧ k9 = 34 ∨ j9 = 22 ∨ j9 = 30) → M68 j9 k9 = M j9 k9 := fun j9 k9 h9 => by rw [e69]; exact (zup_n _ _ (by omega)).trans (hF66 j9 k9 h9)
            have r72 : M68 0 22 = M63 0 22 := by rw [e69]; exact zup_n _ _ (by omega)
            intro M73 e74
            have hB75 : BI M73 := by rw [e74]; exact BI.up0 hB70 rfl (by omega) (by omega) (by decide)
            have hF76 : ∀ j9 k9 : Nat, ¬ (j9 = 0 ∧ k9 = 35 ∨ j9 = 0 ∧ k9 = 34 ∨ j9 = 22 ∨ j9 = 30) → M73 j9 k9 = M j9 k9 := fun j9 k9 h9 => by rw [e74]; exact (zup_n _ _ (by omega)).trans (hF71 j9 k9 h9)
            have r77 : M73 0 22 = M68 0 22 := by rw [e74]; exact zup_n _ _ (by omega)
            exact hQ _ _ ⟨hB75, hF76, (by omega), trivial⟩
          · skip
            exact k34 _ ⟨(by omega), (by omega), trivial⟩ (by omega)
      · skip
        exact hQ _ _ ⟨hB8, hF10, (by omega), trivial⟩
    · skip
      refine sR_areAlike hB8 (by omega) (by omega) (fun z78  h79 => ?_)
      obtain ⟨p80, -⟩ := h79
      refine ⟨fun c81 => ?_, fun c81 => ?_⟩
      · skip
        refine ⟨fun c83 => ?_, fun c83 => ?_⟩
        · skip
          refine pL1_of (fun x84 => (0 ≤ x84 ∧ x84 ≤ 3980) ∧ (x84 ≤ x20) ∧ True) (fun x84 => (x84 + 1).toNat) ⟨(by omega), (by omega), trivial⟩ (fun K x84 h87 k88 => ?_)
          obtain ⟨i85, i86, -⟩ := h87
          have q89 : 0 ≤ (M6 0 22) ∧ (M6 0 22) ≤ 2000 := BN.at hB8.1 (rfl : zcd wR 0 = 50) rfl
          have s90 : sI x84 = x84 := sIo (by omega) (by omega)
          have s91 : sI (M6 0 22) = (M6 0 22) := sIo (by omega) (by omega)
          refine pJ0_dup ?_
          refine ⟨fun c92 => ?_, fun c92 => ?_⟩
          · skip
            intro M93 e94
            have hB95 : BI M93 := by rw [e94]; exact BI.up hB8 (rfl : zcd wR 22 = 72) rfl (by omega) (by omega) (by decide)
            have hF96 : ∀ j9 k9 : Nat, ¬ (j9 = 0 ∧ k9 = 35 ∨ j9 = 0 ∧ k9 = 34 ∨ j9 = 22 ∨ j9 = 30) → M93 j9 k9 = M j9 k9 := fun j9 k9 h9 => by rw [e94]; exact (zup_n _ _ (by omega)).trans (hF10 j9 k9 h9)
            have r97 : M93 0 22 = M6 0 22 := by rw [e94]; exact zup_n _ _ (by omega)
            intro M98 e99
            have hB100 : BI M98 := by rw [e99]; exact BI.up hB95 (rfl : zcd wR 22 = 72) rfl (by omega) (by omega) (by decide)
            have hF101 : ∀ j9 k9 : Nat, ¬ (j9 = 0 ∧ k9 = 35 ∨ j9 = 0 ∧ k9 = 34 ∨ j9 = 22 ∨ j9 = 30) → M98 j9 k9 = M j9 k9 := fun j9 k9 h9 => by rw [e99]; exact (zup_n _ _ (by omega)).trans (hF96 j9 k9 h9)
            have r102 : M98 0 22 = M93 0 22 := by rw [e99]; exact zup_n _ _ (by omega)
            intro M103 e104
            have hB105 : BI M103 := by rw [e104]; exact BI.up0 hB100 rfl (by omega) (by omega) (by decide)
            have hF106 : ∀ j9 k9 : Nat, ¬ (j9 = 0 ∧ k9 = 35 ∨ j9 = 0 ∧ k9 = 34 ∨ j9 = 22 ∨ j9 = 30) → M103 j9 k9 = M j9 k9 := fun j9 k9 h9 => by rw [e104]; exact (zup_n _ _ (by omega)).trans (hF101 j9 k9 h9)
            have r107 : M103 0 22 = M98 0 22 := by rw [e104]; exact zup_n _ _ (by omega)
            exact hQ _ _ ⟨hB105, hF106, (by omega), trivial⟩
          · skip
            have s108 : sI (x84 - 1) = (x84 - 1) := sIo (by omega) (by omega)
            have o109 : 0 ≤ (sI (x84 - 1)) ∧ (sI (x84 - 1)) < 4001 := by omega
            refine ⟨o109, ?_⟩
            have q110 : (-2147483648) ≤ (M6 30 (sI (x84 - 1)).toNat) ∧ (M6 30 (sI (x84 - 1)).toNat) ≤ 2147483647 := BN.at hB8.1 (rfl : zcd wR 30 = 80) rfl
            have s111 : sI ((x84 - 1) + (3981 - x20)) = ((x84 - 1) + (3981 - x20)) := sIo (by omega) (by omega)
            have o112 : 0 ≤ (sI ((x84 - 1) + (3981 - x20))) ∧ (sI ((x84 - 1) + (3981 - x20))) < 4001 := by omega
            refine ⟨o112, ?_⟩
            have q113 : (-2147483648) ≤ (M6 30 (sI ((x84 - 1) + (3981 - x20))).toNat) ∧ (M6 30 (sI ((x84 - 1) + (3981 - x20))).toNat) ≤ 2147483647 := BN.at hB8.1 (rfl : zcd wR 30 = 80) rfl
            have s114 : sI (M6 30 (sI (x84 - 1)).toNat) = (M6 30 (sI (x84 - 1)).toNat) := sIo (by omega) (by omega)
            have s115 : sI (M6 30 (sI ((x84 - 1) + (3981 - x20))).toNat) = (M6 30 (sI ((x84 - 1) + (3981 - x20))).toNat) := sIo (by omega) (by omega)
            refine ⟨fun c116 => ?_, fun c116 => ?_⟩
            · skip
              intro M117 e118
              have hB119 : BI M117 := by rw [e118]; exact BI.up hB8 (rfl : zcd wR 22 = 72) rfl (by omega) (by omega) (by decide)
              have hF120 : ∀ j9 k9 : Nat, ¬ (j9 = 0 ∧ k9 = 35 ∨ j9 = 0 ∧ k9 = 34 ∨ j9 = 22 ∨ j9 = 30) → M117 j9 k9 = M j9 k9 := fun j9 k9 h9 => by rw [e118]; exact (zup_n _ _ (by omega)).trans (hF10 j9 k9 h9)
              have r121 : M117 0 22 = M6 0 22 := by rw [e118]; exact zup_n _ _ (by omega)
              intro M122 e123
              have hB124 : BI M122 := by rw [e123]; exact BI.up hB119 (rfl : zcd wR 22 = 72) rfl (by omega) (by omega) (by decide)
              have hF125 : ∀ j9 k9 : Nat, ¬ (j9 = 0 ∧ k9 = 35 ∨ j9 = 0 ∧ k9 = 34 ∨ j9 = 22 ∨ j9 = 30) → M122 j9 k9 = M j9 k9 := fun j9 k9 h9 => by rw [e123]; exact (zup_n _ _ (by omega)).trans (hF120 j9 k9 h9)
              have r126 : M122 0 22 = M117 0 22 := by rw [e123]; exact zup_n _ _ (by omega)
              intro M127 e128
              have hB129 : BI M127 := by rw [e128]; exact BI.up0 hB124 rfl (by omega) (by omega) (by decide)
              have hF130 : ∀ j9 k9 : Nat, ¬ (j9 = 0 ∧ k9 = 35 ∨ j9 = 0 ∧ k9 = 34 ∨ j9 = 22 ∨ j9 = 30) → M127 j9 k9 = M j9 k9 := fun j9 k9 h9 => by rw [e128]; exact (zup_n _ _ (by omega)).trans (hF125 j9 k9 h9)
              have r131 : M127 0 22 = M122 0 22 := by rw [e128]; exact zup_n _ _ (by omega)
              exact hQ _ _ ⟨hB129, hF130, (by omega), trivial⟩
            · skip
              exact k88 _ ⟨(by omega), (by omega), trivial⟩ (by omega)
        · skip
          exact hQ _ _ ⟨hB8, hF10, (by omega), trivial⟩
      · skip
        exact k23 _ ⟨(by omega), trivial⟩ (by omega)
  · skip
    have o132 : 0 ≤ (sI x14) ∧ (sI x14) < 4001 := by omega
    refine ⟨o132, ?_⟩
    have q133 : (-2147483648) ≤ (M6 30 (sI x14).toNat) ∧ (M6 30 (sI x14).toNat) ≤ 2147483647 := BN.at hB8.1 (rfl : zcd wR 30 = 80) rfl
    have s134 : sI (M6 30 (sI x14).toNat) = (M6 30 (sI x14).toNat) := sIo (by omega) (by omega)
    refine pJ1_dup ?_
    refine ⟨fun c135 => ?_, fun c135 => ?_⟩
    · skip
      have s136 : sI 0 = 0 := sIo (by omega) (by omega)
      refine ⟨fun c137 => ?_, fun c137 => ?_⟩
      · skip
        exact k17 _ _ ⟨(by omega), trivial⟩ (by omega)
      · skip
        have s138 : sI ((x14 - 20) + 1) = ((x14 - 20) + 1) := sIo (by omega) (by omega)
        exact hQ _ _ ⟨hB8, hF10, (by omega), trivial⟩
    · skip
      have s139 := sI_R (x13 + 1)
      have s140 := sI_or (x13 + 1)
      refine ⟨fun c141 => ?_, fun c141 => ?_⟩
      · skip
        exact k17 _ _ ⟨(by omega), trivial⟩ (by omega)
      · skip
        have s142 : sI ((x14 - 20) + 1) = ((x14 - 20) + 1) := sIo (by omega) (by omega)
        exact hQ _ _ ⟨hB8, hF10, (by omega), trivial⟩
set_option maxHeartbeats 4000000 in
set_option maxRecDepth 100000 in
theorem sR_tape {M : zM} {a0 : Int} (hB : BI M) (v0 : (-2147483648) ≤ a0 ∧ a0 ≤ 2147483647) {Q : Int → zM → Prop} (hQ : ∀ (z : Int) (M1 : zM), BI M1 ∧ (∀ j9 k9 : Nat, ¬ (j9 = 0 ∧ k9 = 35 ∨ j9 = 0 ∧ k9 = 24 ∨ j9 = 15) → M1 j9 k9 = M j9 k9) ∧ ((-2147483648) ≤ z ∧ z ≤ 2147483647) ∧ (((a0 = -1 ∨ andI a0 (-1023) = 0) ∧ M 0 24 < 60 ∧ z = M 0 24 + 1 ∧ M1 0 24 = M 0 24 + 1) ∨ (¬ ((a0 = -1 ∨ andI a0 (-1023) = 0) ∧ M 0 24 < 60) ∧ z = -1 ∧ M1 0 24 = M 0 24)) ∧ True → Q z M1) : wR_tape a0 M Q := by
  unfold wR_tape
  have hF0 : ∀ j9 k9 : Nat, ¬ (j9 = 0 ∧ k9 = 35 ∨ j9 = 0 ∧ k9 = 24 ∨ j9 = 15) → M j9 k9 = M j9 k9 := fun j9 k9 _ => rfl
  intro M1 e2
  have hB3 : BI M1 := by rw [e2]; exact BI.up0 hB rfl (by omega) (by omega) (by decide)
  have hF4 : ∀ j9 k9 : Nat, ¬ (j9 = 0 ∧ k9 = 35 ∨ j9 = 0 ∧ k9 = 24 ∨ j9 = 15) → M1 j9 k9 = M j9 k9 := fun j9 k9 h9 => by rw [e2]; exact (zup_n _ _ (by omega)).trans (hF0 j9 k9 h9)
  have r5 : M1 0 24 = M 0 24 := by rw [e2]; exact zup_n _ _ (by omega)
  have s6 : sI a0 = a0 := sIo (by omega) (by omega)
  refine pJ0_dup ?_
  refine ⟨fun c7 => ?_, fun c7 => ?_⟩
  · skip
    have q8 : 0 ≤ (M1 0 24) ∧ (M1 0 24) ≤ 60 := BN.at hB3.1 (rfl : zcd wR 0 = 50) rfl
    have s9 : sI (M1 0 24) = (M1 0 24) := sIo (by omega) (by omega)
    refine ⟨fun c10 => ?_, fun c10 => ?_⟩
    · skip
      have o12 : 0 ≤ (sI (M1 0 24)) ∧ (sI (M1 0 24)) < 60 := by omega
      refine ⟨o12, ?_⟩
      intro M13 e14
      have hB15 : BI M13 := by rw [e14]; exact BI.up hB3 (rfl : zcd wR 15 = 65) rfl (by omega) (by omega) (by decide)
      have hF16 : ∀ j9 k9 : Nat, ¬ (j9 = 0 ∧ k9 = 35 ∨ j9 = 0 ∧ k9 = 24 ∨ j9 = 15) → M13 j9 k9 = M j9 k9 := fun j9 k9 h9 => by rw [e14]; exact (zup_n _ _ (by omega)).trans (hF4 j9 k9 h9)
      have r17 : M13 0 24 = M1 0 24 := by rw [e14]; exact zup_n _ _ (by omega)
      have q18 : 0 ≤ (M13 0 24) ∧ (M13 0 24) ≤ 60 := BN.at hB15.1 (rfl : zcd wR 0 = 50) rfl
      intro M19 e20
      have hB21 : BI M19 := by rw [e20]; exact BI.up0 hB15 rfl (by omega) (by omega) (by decide)
      have hF22 : ∀ j9 k9 : Nat, ¬ (j9 = 0 ∧ k9 = 35 ∨ j9 = 0 ∧ k9 = 24 ∨ j9 = 15) → M19 j9 k9 = M j9 k9 := fun j9 k9 h9 => by rw [e20]; exact (zup_n _ _ (by omega)).trans (hF16 j9 k9 h9)
      have r23 : M19 0 24 = ((M13 0 24) + 1) := by rw [e20]; exact zup_s _ _ _ _
      have q24 : 0 ≤ (M19 0 24) ∧ (M19 0 24) ≤ 60 := BN.at hB21.1 (rfl : zcd wR 0 = 50) rfl
      have s25 : sI (M19 0 24) = (M19 0 24) := sIo (by omega) (by omega)
      exact hQ _ _ ⟨hB21, hF22, (by omega), (by omega), trivial⟩
    · skip
      exact hQ _ _ ⟨hB3, hF4, (by omega), (by omega), trivial⟩
  · skip
    refine sR_areSounds hB3 (by omega) (fun z26  h27 => ?_)
    obtain ⟨p28, p29, -⟩ := h27
    refine ⟨fun c30 => ?_, fun c30 => ?_⟩
    · skip
      exact hQ _ _ ⟨hB3, hF4, (by omega), (by omega), trivial⟩
    · skip
      have q31 : 0 ≤ (M1 0 24) ∧ (M1 0 24) ≤ 60 := BN.at hB3.1 (rfl : zcd wR 0 = 50) rfl
      have s32 : sI (M1 0 24) = (M1 0 24) := sIo (by omega) (by omega)
      refine ⟨fun c33 => ?_, fun c33 => ?_⟩
      · skip
        have o35 : 0 ≤ (sI (M1 0 24)) ∧ (sI (M1 0 24)) < 60 := by omega
        refine ⟨o35, ?_⟩
        intro M36 e37
        have hB38 : BI M36 := by rw [e37]; exact BI.up hB3 (rfl : zcd wR 15 = 65) rfl (by omega) (by omega) (by decide)
        have hF39 : ∀ j9 k9 : Nat, ¬ (j9 = 0 ∧ k9 = 35 ∨ j9 = 0 ∧ k9 = 24 ∨ j9 = 15) → M36 j9 k9 = M j9 k9 := fun j9 k9 h9 => by rw [e37]; exact (zup_n _ _ (by omega)).trans (hF4 j9 k9 h9)
        have r40 : M36 0 24 = M1 0 24 := by rw [e37]; exact zup_n _ _ (by omega)
        have q41 : 0 ≤ (M36 0 24) ∧ (M36 0 24) ≤ 60 := BN.at hB38.1 (rfl : zcd wR 0 = 50) rfl
        intro M42 e43
        have hB44 : BI M42 := by rw [e43]; exact BI.up0 hB38 rfl (by omega) (by omega) (by decide)
        have hF45 : ∀ j9 k9 : Nat, ¬ (j9 = 0 ∧ k9 = 35 ∨ j9 = 0 ∧ k9 = 24 ∨ j9 = 15) → M42 j9 k9 = M j9 k9 := fun j9 k9 h9 => by rw [e43]; exact (zup_n _ _ (by omega)).trans (hF39 j9 k9 h9)
        have r46 : M42 0 24 = ((M36 0 24) + 1) := by rw [e43]; exact zup_s _ _ _ _
        have q47 : 0 ≤ (M42 0 24) ∧ (M42 0 24) ≤ 60 := BN.at hB44.1 (rfl : zcd wR 0 = 50) rfl
        have s48 : sI (M42 0 24) = (M42 0 24) := sIo (by omega) (by omega)
        exact hQ _ _ ⟨hB44, hF45, (by omega), (by omega), trivial⟩
      · skip
        exact hQ _ _ ⟨hB3, hF4, (by omega), (by omega), trivial⟩
set_option maxHeartbeats 4000000 in
set_option maxRecDepth 100000 in
theorem sR_take {M : zM} {a0 : Int} {a1 : Int} (hB : BI M) (v0 : (-2147483648) ≤ a0 ∧ a0 ≤ 2147483647) (v1 : (-2147483648) ≤ a1 ∧ a1 ≤ 2147483647) {Q : Int → zM → Prop} (hQ : ∀ (z : Int) (M1 : zM), BI M1 ∧ (∀ j9 k9 : Nat, ¬ (j9 = 0 ∧ k9 = 35 ∨ j9 = 0 ∧ k9 = 24 ∨ j9 = 15) → M1 j9 k9 = M j9 k9) ∧ (0 ≤ z ∧ z ≤ 1) ∧ ((((0 ≤ a0 ∧ a0 ≤ 100000) ∧ (0 ≤ a1 ∧ a1 ≤ 60)) ∧ z = 1 ∧ M1 0 24 = a1) ∨ (¬ ((0 ≤ a0 ∧ a0 ≤ 100000) ∧ (0 ≤ a1 ∧ a1 ≤ 60)) ∧ z = 0 ∧ M1 0 24 = M 0 24)) ∧ True → Q z M1) : wR_take a0 a1 M Q := by
  unfold wR_take
  have hF0 : ∀ j9 k9 : Nat, ¬ (j9 = 0 ∧ k9 = 35 ∨ j9 = 0 ∧ k9 = 24 ∨ j9 = 15) → M j9 k9 = M j9 k9 := fun j9 k9 _ => rfl
  intro M1 e2
  have hB3 : BI M1 := by rw [e2]; exact BI.up0 hB rfl (by omega) (by omega) (by decide)
  have hF4 : ∀ j9 k9 : Nat, ¬ (j9 = 0 ∧ k9 = 35 ∨ j9 = 0 ∧ k9 = 24 ∨ j9 = 15) → M1 j9 k9 = M j9 k9 := fun j9 k9 h9 => by rw [e2]; exact (zup_n _ _ (by omega)).trans (hF0 j9 k9 h9)
  have r5 : M1 0 24 = M 0 24 := by rw [e2]; exact zup_n _ _ (by omega)
  refine sR_in hB3 (by omega) (by omega) (by omega) (fun z6  h7 => ?_)
  obtain ⟨p8, p9, -⟩ := h7
  refine ⟨fun c10 => ?_, fun c10 => ?_⟩
  · skip
    exact hQ _ _ ⟨hB3, hF4, (by omega), (by omega), trivial⟩
  · skip
    refine sR_in hB3 (by omega) (by omega) (by omega) (fun z11  h12 => ?_)
    obtain ⟨p13, p14, -⟩ := h12
    refine ⟨fun c15 => ?_, fun c15 => ?_⟩
    · skip
      refine wL1_of (fun x16 M17 => BI M17 ∧ (∀ j9 k9 : Nat, ¬ (j9 = 0 ∧ k9 = 35 ∨ j9 = 0 ∧ k9 = 24 ∨ j9 = 15) → M17 j9 k9 = M j9 k9) ∧ (0 ≤ x16 ∧ x16 ≤ 1000000) ∧ True) (fun x16 M17 => (1000000 - x16).toNat) ⟨hB3, hF4, (by omega), trivial⟩ (fun K x16 M17 h21 k22 => ?_)
      obtain ⟨hB18, hF19, i20, -⟩ := h21
      have s23 : sI x16 = x16 := sIo (by omega) (by omega)
      have s24 : sI a1 = a1 := sIo (by omega) (by omega)
      refine ⟨fun c25 => ?_, fun c25 => ?_⟩
      · skip
        intro M26 e27
        have hB28 : BI M26 := by rw [e27]; exact BI.up0 hB18 rfl (by omega) (by omega) (by decide)
        have hF29 : ∀ j9 k9 : Nat, ¬ (j9 = 0 ∧ k9 = 35 ∨ j9 = 0 ∧ k9 = 24 ∨ j9 = 15) → M26 j9 k9 = M j9 k9 := fun j9 k9 h9 => by rw [e27]; exact (zup_n _ _ (by omega)).trans (hF19 j9 k9 h9)
        have r30 : M26 0 24 = a1 := by rw [e27]; exact zup_s _ _ _ _
        exact hQ _ _ ⟨hB28, hF29, (by omega), (by omega), trivial⟩
      · skip
        have s31 := sI_R (a0 + x16)
        have s32 := sI_or (a0 + x16)
        refine sR_heardInAll hB18  (fun z33  h34 => ?_)
        obtain ⟨p35, -⟩ := h34
        have o36 : 0 ≤ (sI x16) ∧ (sI x16) < 60 := by omega
        refine ⟨o36, ?_⟩
        intro M37 e38
        have hB39 : BI M37 := by rw [e38]; exact BI.up hB18 (rfl : zcd wR 15 = 65) rfl (by omega) (by omega) (by decide)
        have hF40 : ∀ j9 k9 : Nat, ¬ (j9 = 0 ∧ k9 = 35 ∨ j9 = 0 ∧ k9 = 24 ∨ j9 = 15) → M37 j9 k9 = M j9 k9 := fun j9 k9 h9 => by rw [e38]; exact (zup_n _ _ (by omega)).trans (hF19 j9 k9 h9)
        have r41 : M37 0 24 = M17 0 24 := by rw [e38]; exact zup_n _ _ (by omega)
        exact k22 _ _ ⟨hB39, hF40, (by omega), trivial⟩ (by omega)
    · skip
      exact hQ _ _ ⟨hB3, hF4, (by omega), (by omega), trivial⟩
set_option maxHeartbeats 4000000 in
set_option maxRecDepth 100000 in
theorem sR_gap {M : zM} {a0 : Int} (hB : BI M) (v0 : (-2147483648) ≤ a0 ∧ a0 ≤ 2147483647) {Q : Int → zM → Prop} (hQ : ∀ (z : Int) (M1 : zM), BI M1 ∧ (∀ j9 k9 : Nat, ¬ (j9 = 0 ∧ k9 = 35 ∨ j9 = 15) → M1 j9 k9 = M j9 k9) ∧ (0 ≤ z ∧ z ≤ 1) ∧ ((z = 1 ∧ 0 ≤ a0 ∧ a0 < M 0 24) ∨ (z = 0 ∧ ¬ (0 ≤ a0 ∧ a0 < M 0 24))) ∧ True → Q z M1) : wR_gap a0 M Q := by
  unfold wR_gap
  have hF0 : ∀ j9 k9 : Nat, ¬ (j9 = 0 ∧ k9 = 35 ∨ j9 = 15) → M j9 k9 = M j9 k9 := fun j9 k9 _ => rfl
  intro M1 e2
  have hB3 : BI M1 := by rw [e2]; exact BI.up0 hB rfl (by omega) (by omega) (by decide)
  have hF4 : ∀ j9 k9 : Nat, ¬ (j9 = 0 ∧ k9 = 35 ∨ j9 = 15) → M1 j9 k9 = M j9 k9 := fun j9 k9 h9 => by rw [e2]; exact (zup_n _ _ (by omega)).trans (hF0 j9 k9 h9)
  have r5 : M1 0 24 = M 0 24 := by rw [e2]; exact zup_n _ _ (by omega)
  have q6 : 0 ≤ (M1 0 24) ∧ (M1 0 24) ≤ 60 := BN.at hB3.1 (rfl : zcd wR 0 = 50) rfl
  refine sR_in hB3 (by omega) (by omega) (by omega) (fun z7  h8 => ?_)
  obtain ⟨p9, p10, -⟩ := h8
  refine ⟨fun c11 => ?_, fun c11 => ?_⟩
  · skip
    have s12 : sI a0 = a0 := sIo (by omega) (by omega)
    have o13 : 0 ≤ (sI a0) ∧ (sI a0) < 60 := by omega
    refine ⟨o13, ?_⟩
    intro M14 e15
    have hB16 : BI M14 := by rw [e15]; exact BI.up hB3 (rfl : zcd wR 15 = 65) rfl (by omega) (by omega) (by decide)
    have hF17 : ∀ j9 k9 : Nat, ¬ (j9 = 0 ∧ k9 = 35 ∨ j9 = 15) → M14 j9 k9 = M j9 k9 := fun j9 k9 h9 => by rw [e15]; exact (zup_n _ _ (by omega)).trans (hF4 j9 k9 h9)
    have r18 : M14 0 24 = M1 0 24 := by rw [e15]; exact zup_n _ _ (by omega)
    exact hQ _ _ ⟨hB16, hF17, (by omega), (by omega), trivial⟩
  · skip
    exact hQ _ _ ⟨hB3, hF4, (by omega), (by omega), trivial⟩
set_option maxHeartbeats 4000000 in
set_option maxRecDepth 100000 in
theorem sR_wipe {M : zM}  (hB : BI M)  {Q : Int → zM → Prop} (hQ : ∀ (z : Int) (M1 : zM), BI M1 ∧ (∀ j9 k9 : Nat, ¬ (j9 = 0 ∧ k9 = 35 ∨ j9 = 0 ∧ k9 = 24) → M1 j9 k9 = M j9 k9) ∧ ((-2147483648) ≤ z ∧ z ≤ 2147483647) ∧ (z = M 0 24 ∧ M1 0 24 = 0) ∧ True → Q z M1) : wR_wipe  M Q := by
  unfold wR_wipe
  have hF0 : ∀ j9 k9 : Nat, ¬ (j9 = 0 ∧ k9 = 35 ∨ j9 = 0 ∧ k9 = 24) → M j9 k9 = M j9 k9 := fun j9 k9 _ => rfl
  intro M1 e2
  have hB3 : BI M1 := by rw [e2]; exact BI.up0 hB rfl (by omega) (by omega) (by decide)
  have hF4 : ∀ j9 k9 : Nat, ¬ (j9 = 0 ∧ k9 = 35 ∨ j9 = 0 ∧ k9 = 24) → M1 j9 k9 = M j9 k9 := fun j9 k9 h9 => by rw [e2]; exact (zup_n _ _ (by omega)).trans (hF0 j9 k9 h9)
  have r5 : M1 0 24 = M 0 24 := by rw [e2]; exact zup_n _ _ (by omega)
  have q6 : 0 ≤ (M1 0 24) ∧ (M1 0 24) ≤ 60 := BN.at hB3.1 (rfl : zcd wR 0 = 50) rfl
  intro M7 e8
  have hB9 : BI M7 := by rw [e8]; exact BI.up0 hB3 rfl (by omega) (by omega) (by decide)
  have hF10 : ∀ j9 k9 : Nat, ¬ (j9 = 0 ∧ k9 = 35 ∨ j9 = 0 ∧ k9 = 24) → M7 j9 k9 = M j9 k9 := fun j9 k9 h9 => by rw [e8]; exact (zup_n _ _ (by omega)).trans (hF4 j9 k9 h9)
  have r11 : M7 0 24 = 0 := by rw [e8]; exact zup_s _ _ _ _
  have s12 : sI (M1 0 24) = (M1 0 24) := sIo (by omega) (by omega)
  exact hQ _ _ ⟨hB9, hF10, (by omega), (by omega), trivial⟩
set_option maxHeartbeats 4000000 in
set_option maxRecDepth 100000 in
theorem sR_isSpan {M : zM} {a0 : Int} (hB : BI M) (v0 : 1 ≤ a0 ∧ a0 ≤ 24) {Q : Int → Prop} (hQ : ∀ (z : Int), (0 ≤ z ∧ z ≤ 1) ∧ True → Q z) : wR_isSpan a0 M Q := by
  unfold wR_isSpan
  refine pL1_of (fun x1 => (0 ≤ x1 ∧ x1 ≤ 1000000) ∧ True) (fun x1 => (1000000 - x1).toNat) ⟨(by omega), trivial⟩ (fun K x1 h3 k4 => ?_)
  obtain ⟨i2, -⟩ := h3
  have q5 : 0 ≤ (M 0 24) ∧ (M 0 24) ≤ 60 := BN.at hB.1 (rfl : zcd wR 0 = 50) rfl
  have s6 : sI x1 = x1 := sIo (by omega) (by omega)
  have s7 : sI (M 0 24) = (M 0 24) := sIo (by omega) (by omega)
  refine ⟨fun c8 => ?_, fun c8 => ?_⟩
  · skip
    exact hQ _ ⟨(by omega), trivial⟩
  · skip
    refine pL1_of (fun x9 => (0 ≤ x9 ∧ x9 ≤ 1000000) ∧ True) (fun x9 => (1000000 - x9).toNat) ⟨(by omega), trivial⟩ (fun K x9 h11 k12 => ?_)
    obtain ⟨i10, -⟩ := h11
    have q13 : 0 ≤ (M 0 24) ∧ (M 0 24) ≤ 60 := BN.at hB.1 (rfl : zcd wR 0 = 50) rfl
    have s14 : sI x9 = x9 := sIo (by omega) (by omega)
    have s15 : sI (M 0 24) = (M 0 24) := sIo (by omega) (by omega)
    refine ⟨fun c16 => ?_, fun c16 => ?_⟩
    · skip
      exact k4 _ ⟨(by omega), trivial⟩ (by omega)
    · skip
      have s17 : sI x1 = x1 := sIo (by omega) (by omega)
      have o18 : 0 ≤ (sI x1) ∧ (sI x1) < 60 := by omega
      refine ⟨o18, ?_⟩
      have q19 : (-2147483648) ≤ (M 15 (sI x1).toNat) ∧ (M 15 (sI x1).toNat) ≤ 2147483647 := BN.at hB.1 (rfl : zcd wR 15 = 65) rfl
      have s20 : sI (M 15 (sI x1).toNat) = (M 15 (sI x1).toNat) := sIo (by omega) (by omega)
      refine ⟨fun c21 => ?_, fun c21 => ?_⟩
      · skip
        exact k12 _ ⟨(by omega), trivial⟩ (by omega)
      · skip
        have o22 : 0 ≤ (sI x9) ∧ (sI x9) < 60 := by omega
        refine ⟨o22, ?_⟩
        have q23 : (-2147483648) ≤ (M 15 (sI x9).toNat) ∧ (M 15 (sI x9).toNat) ≤ 2147483647 := BN.at hB.1 (rfl : zcd wR 15 = 65) rfl
        have s24 : sI (M 15 (sI x9).toNat) = (M 15 (sI x9).toNat) := sIo (by omega) (by omega)
        refine ⟨fun c25 => ?_, fun c25 => ?_⟩
        · skip
          exact k12 _ ⟨(by omega), trivial⟩ (by omega)
        · skip
          have o26 : 0 ≤ (sI x1) ∧ (sI x1) < 60 := by omega
          refine ⟨o26, ?_⟩
          have o28 : 0 ≤ (sI x9) ∧ (sI x9) < 60 := by omega
          refine ⟨o28, ?_⟩
          refine ⟨fun c30 => ?_, fun c30 => ?_⟩
          · skip
            exact k12 _ ⟨(by omega), trivial⟩ (by omega)
          · skip
            exact hQ _ ⟨(by omega), trivial⟩
set_option maxHeartbeats 4000000 in
set_option maxRecDepth 100000 in
theorem sR_span {M : zM} {a0 : Int} (hB : BI M) (v0 : (-2147483648) ≤ a0 ∧ a0 ≤ 2147483647) {Q : Int → zM → Prop} (hQ : ∀ (z : Int) (M1 : zM), BI M1 ∧ (∀ j9 k9 : Nat, ¬ (j9 = 0 ∧ k9 = 35) → M1 j9 k9 = M j9 k9) ∧ ((-2147483648) ≤ z ∧ z ≤ 2147483647) ∧ True → Q z M1) : wR_span a0 M Q := by
  unfold wR_span
  have hF0 : ∀ j9 k9 : Nat, ¬ (j9 = 0 ∧ k9 = 35) → M j9 k9 = M j9 k9 := fun j9 k9 _ => rfl
  intro M1 e2
  have hB3 : BI M1 := by rw [e2]; exact BI.up0 hB rfl (by omega) (by omega) (by decide)
  have hF4 : ∀ j9 k9 : Nat, ¬ (j9 = 0 ∧ k9 = 35) → M1 j9 k9 = M j9 k9 := fun j9 k9 h9 => by rw [e2]; exact (zup_n _ _ (by omega)).trans (hF0 j9 k9 h9)
  refine pL2_of (fun x5 x6 => ((-2147483648) ≤ x5 ∧ x5 ≤ 2147483647) ∧ (1 ≤ x6 ∧ x6 ≤ 1000000) ∧ True) (fun x5 x6 => (1000000 - x6).toNat) ⟨(by omega), (by omega), trivial⟩ (fun K x5 x6 h9 k10 => ?_)
  obtain ⟨i7, i8, -⟩ := h9
  have s11 : sI x6 = x6 := sIo (by omega) (by omega)
  refine ⟨fun c12 => ?_, fun c12 => ?_⟩
  · skip
    exact hQ _ _ ⟨hB3, hF4, (by omega), trivial⟩
  · skip
    have s13 : sI x5 = x5 := sIo (by omega) (by omega)
    refine ⟨fun c14 => ?_, fun c14 => ?_⟩
    · skip
      exact hQ _ _ ⟨hB3, hF4, (by omega), trivial⟩
    · skip
      refine sR_isSpan hB3 (by omega) (fun z15  h16 => ?_)
      obtain ⟨p17, -⟩ := h16
      refine ⟨fun c18 => ?_, fun c18 => ?_⟩
      · skip
        refine ⟨fun c19 => ?_, fun c19 => ?_⟩
        · skip
          exact k10 _ _ ⟨(by omega), (by omega), trivial⟩ (by omega)
        · skip
          exact hQ _ _ ⟨hB3, hF4, (by omega), trivial⟩
      · skip
        exact k10 _ _ ⟨(by omega), (by omega), trivial⟩ (by omega)
set_option maxHeartbeats 4000000 in
set_option maxRecDepth 100000 in
theorem sR_most {M : zM} {a0 : Int} {a1 : Int} (hB : BI M) (v0 : 1 ≤ a0 ∧ a0 ≤ 24) (v1 : 0 ≤ a1 ∧ a1 ≤ 59) {Q : Int → Prop} (hQ : ∀ (z : Int), ((-2147483648) ≤ z ∧ z ≤ 2147483647) ∧ True → Q z) : wR_most a0 a1 M Q := by
  unfold wR_most
  have s1 : sI a1 = a1 := sIo (by omega) (by omega)
  have s2 : sI a0 = a0 := sIo (by omega) (by omega)
  have o3 : (sI a0) ≠ 0 := by omega
  refine ⟨o3, ?_⟩
  have q4 := tmodN (sI a1) (sI a0) (by omega) (by omega)
  refine pL2_of (fun x5 x6 => (0 ≤ x6 ∧ x6 ≤ 1000000) ∧ True) (fun x5 x6 => (1000000 - x6).toNat) ⟨(by omega), trivial⟩ (fun K x5 x6 h8 k9 => ?_)
  obtain ⟨i7, -⟩ := h8
  have q10 : 0 ≤ (M 0 24) ∧ (M 0 24) ≤ 60 := BN.at hB.1 (rfl : zcd wR 0 = 50) rfl
  have s11 : sI x6 = x6 := sIo (by omega) (by omega)
  have s12 : sI (M 0 24) = (M 0 24) := sIo (by omega) (by omega)
  refine ⟨fun c13 => ?_, fun c13 => ?_⟩
  · skip
    have s14 := sI_R x5
    have s15 := sI_or x5
    exact hQ _ ⟨(by omega), trivial⟩
  · skip
    have o16 : 0 ≤ (sI x6) ∧ (sI x6) < 60 := by omega
    refine ⟨o16, ?_⟩
    have q17 : (-2147483648) ≤ (M 15 (sI x6).toNat) ∧ (M 15 (sI x6).toNat) ≤ 2147483647 := BN.at hB.1 (rfl : zcd wR 15 = 65) rfl
    have s18 : sI (M 15 (sI x6).toNat) = (M 15 (sI x6).toNat) := sIo (by omega) (by omega)
    refine ⟨fun c19 => ?_, fun c19 => ?_⟩
    · skip
      exact k9 _ _ ⟨(by omega), trivial⟩ (by omega)
    · skip
      have o20 : 0 ≤ (sI x6) ∧ (sI x6) < 60 := by omega
      refine ⟨o20, ?_⟩
      have q22 := andI_R x5 (M 15 (sI x6).toNat)
      exact k9 _ _ ⟨(by omega), trivial⟩ (by omega)
set_option maxHeartbeats 4000000 in
set_option maxRecDepth 100000 in
theorem sR_isPair {M : zM} {a0 : Int} {a1 : Int} (hB : BI M) (v0 : 1 ≤ a0 ∧ a0 ≤ 24) (v1 : 1 ≤ a1 ∧ a1 ≤ 24) {Q : Int → Prop} (hQ : ∀ (z : Int), (0 ≤ z ∧ z ≤ 1) ∧ True → Q z) : wR_isPair a0 a1 M Q := by
  unfold wR_isPair
  refine pL1_of (fun x1 => (0 ≤ x1 ∧ x1 ≤ 1000000) ∧ True) (fun x1 => (1000000 - x1).toNat) ⟨(by omega), trivial⟩ (fun K x1 h3 k4 => ?_)
  obtain ⟨i2, -⟩ := h3
  have q5 : 0 ≤ (M 0 24) ∧ (M 0 24) ≤ 60 := BN.at hB.1 (rfl : zcd wR 0 = 50) rfl
  have s6 : sI x1 = x1 := sIo (by omega) (by omega)
  have s7 : sI (M 0 24) = (M 0 24) := sIo (by omega) (by omega)
  refine ⟨fun c8 => ?_, fun c8 => ?_⟩
  · skip
    exact hQ _ ⟨(by omega), trivial⟩
  · skip
    have o9 : 0 ≤ (sI x1) ∧ (sI x1) < 60 := by omega
    refine ⟨o9, ?_⟩
    have q10 : (-2147483648) ≤ (M 15 (sI x1).toNat) ∧ (M 15 (sI x1).toNat) ≤ 2147483647 := BN.at hB.1 (rfl : zcd wR 15 = 65) rfl
    have s11 : sI (M 15 (sI x1).toNat) = (M 15 (sI x1).toNat) := sIo (by omega) (by omega)
    refine ⟨fun c12 => ?_, fun c12 => ?_⟩
    · skip
      exact k4 _ ⟨(by omega), trivial⟩ (by omega)
    · skip
      refine sR_most hB (by omega) (by omega) (fun z13  h14 => ?_)
      obtain ⟨p15, -⟩ := h14
      refine sR_most hB (by omega) (by omega) (fun z16  h17 => ?_)
      obtain ⟨p18, -⟩ := h17
      have q19 := orI_R z13 z16
      have o20 : 0 ≤ (sI x1) ∧ (sI x1) < 60 := by omega
      refine ⟨o20, ?_⟩
      refine ⟨fun c22 => ?_, fun c22 => ?_⟩
      · skip
        exact k4 _ ⟨(by omega), trivial⟩ (by omega)
      · skip
        exact hQ _ ⟨(by omega), trivial⟩
end zz31_R03
section zz31_R04
/-! safety of the model, 4 -/
set_option maxHeartbeats 4000000 in
set_option maxRecDepth 100000 in
theorem sR_pairAt {M : zM} {a0 : Int} (hB : BI M) (v0 : 0 ≤ a0 ∧ a0 ≤ 2147483647) {Q : Int → Prop} (hQ : ∀ (z : Int), ((-1) ≤ z ∧ z ≤ 2424) ∧ (z = -1 ∨ (101 ≤ z ∧ z ≤ 2424 ∧ 1 ≤ z % 100 ∧ z % 100 ≤ 24)) ∧ True → Q z) : wR_pairAt a0 M Q := by
  unfold wR_pairAt
  refine pL2_of (fun x1 x2 => (0 ≤ x1 ∧ x1 ≤ 2147483647) ∧ (2 ≤ x2 ∧ x2 ≤ 49) ∧ True) (fun x1 x2 => (1000000 - x2).toNat) ⟨(by omega), (by omega), trivial⟩ (fun K x1 x2 h5 k6 => ?_)
  obtain ⟨i3, i4, -⟩ := h5
  have s7 : sI x2 = x2 := sIo (by omega) (by omega)
  refine ⟨fun c8 => ?_, fun c8 => ?_⟩
  · skip
    exact hQ _ ⟨(by omega), (by omega), trivial⟩
  · skip
    have s9 : sI (x2 - 24) = (x2 - 24) := sIo (by omega) (by omega)
    refine pL2_of (fun x10 x11 => (0 ≤ x10 ∧ x10 ≤ 2147483647) ∧ (1 ≤ x11 ∧ x11 ≤ 25) ∧ (x2 - 24 ≤ x11) ∧ (x11 ≤ x2) ∧ True) (fun x10 x11 => (1000000 - x11).toNat) ⟨(by omega), (by omega), (by omega), (by omega), trivial⟩ (fun K x10 x11 h16 k17 => ?_)
    obtain ⟨i12, i13, i14, i15, -⟩ := h16
    have s18 : sI (2 * x11) = (2 * x11) := sIo (by omega) (by omega)
    have s19 : sI x2 = x2 := sIo (by omega) (by omega)
    refine ⟨fun c20 => ?_, fun c20 => ?_⟩
    · skip
      exact k6 _ _ ⟨(by omega), (by omega), trivial⟩ (by omega)
    · skip
      refine sR_isPair hB (by omega) (by omega) (fun z21  h22 => ?_)
      obtain ⟨p23, -⟩ := h22
      refine ⟨fun c24 => ?_, fun c24 => ?_⟩
      · skip
        have s25 : sI x10 = x10 := sIo (by omega) (by omega)
        refine ⟨fun c26 => ?_, fun c26 => ?_⟩
        · skip
          exact k17 _ _ ⟨(by omega), (by omega), (by omega), (by omega), trivial⟩ (by omega)
        · skip
          have s27 : sI (((100 * x11) + x2) - x11) = (((100 * x11) + x2) - x11) := sIo (by omega) (by omega)
          exact hQ _ ⟨(by omega), (by omega), trivial⟩
      · skip
        exact k17 _ _ ⟨(by omega), (by omega), (by omega), (by omega), trivial⟩ (by omega)
set_option maxHeartbeats 4000000 in
set_option maxRecDepth 100000 in
theorem sR_pair {M : zM} {a0 : Int} (hB : BI M) (v0 : (-2147483648) ≤ a0 ∧ a0 ≤ 2147483647) {Q : Int → zM → Prop} (hQ : ∀ (z : Int) (M1 : zM), BI M1 ∧ (∀ j9 k9 : Nat, ¬ (j9 = 0 ∧ k9 = 35) → M1 j9 k9 = M j9 k9) ∧ ((-2147483648) ≤ z ∧ z ≤ 2147483647) ∧ True → Q z M1) : wR_pair a0 M Q := by
  unfold wR_pair
  have hF0 : ∀ j9 k9 : Nat, ¬ (j9 = 0 ∧ k9 = 35) → M j9 k9 = M j9 k9 := fun j9 k9 _ => rfl
  intro M1 e2
  have hB3 : BI M1 := by rw [e2]; exact BI.up0 hB rfl (by omega) (by omega) (by decide)
  have hF4 : ∀ j9 k9 : Nat, ¬ (j9 = 0 ∧ k9 = 35) → M1 j9 k9 = M j9 k9 := fun j9 k9 h9 => by rw [e2]; exact (zup_n _ _ (by omega)).trans (hF0 j9 k9 h9)
  have s5 : sI a0 = a0 := sIo (by omega) (by omega)
  refine ⟨fun c6 => ?_, fun c6 => ?_⟩
  · skip
    refine sR_pairAt hB3 (by omega) (fun z7  h8 => ?_)
    obtain ⟨p9, p10, -⟩ := h8
    exact hQ _ _ ⟨hB3, hF4, (by omega), trivial⟩
  · skip
    exact hQ _ _ ⟨hB3, hF4, (by omega), trivial⟩
set_option maxHeartbeats 4000000 in
set_option maxRecDepth 100000 in
theorem sR_mended {M : zM} {a0 : Int} (hB : BI M) (v0 : (-2147483648) ≤ a0 ∧ a0 ≤ 2147483647) {Q : Int → zM → Prop} (hQ : ∀ (z : Int) (M1 : zM), BI M1 ∧ (∀ j9 k9 : Nat, ¬ (j9 = 0 ∧ k9 = 35) → M1 j9 k9 = M j9 k9) ∧ ((-2147483648) ≤ z ∧ z ≤ 2147483647) ∧ True → Q z M1) : wR_mended a0 M Q := by
  unfold wR_mended
  have hF0 : ∀ j9 k9 : Nat, ¬ (j9 = 0 ∧ k9 = 35) → M j9 k9 = M j9 k9 := fun j9 k9 _ => rfl
  intro M1 e2
  have hB3 : BI M1 := by rw [e2]; exact BI.up0 hB rfl (by omega) (by omega) (by decide)
  have hF4 : ∀ j9 k9 : Nat, ¬ (j9 = 0 ∧ k9 = 35) → M1 j9 k9 = M j9 k9 := fun j9 k9 h9 => by rw [e2]; exact (zup_n _ _ (by omega)).trans (hF0 j9 k9 h9)
  have q5 : 0 ≤ (M1 0 24) ∧ (M1 0 24) ≤ 60 := BN.at hB3.1 (rfl : zcd wR 0 = 50) rfl
  refine sR_in hB3 (by omega) (by omega) (by omega) (fun z6  h7 => ?_)
  obtain ⟨p8, p9, -⟩ := h7
  refine ⟨fun c10 => ?_, fun c10 => ?_⟩
  · skip
    refine sR_pairAt hB3 (by omega) (fun z11  h12 => ?_)
    obtain ⟨p13, p14, -⟩ := h12
    refine ⟨fun c15 => ?_, fun c15 => ?_⟩
    · skip
      have q16 : (z11.tdiv 100) = z11 / 100 := Int.tdiv_eq_ediv_of_nonneg (by omega)
      refine sR_most hB3 (by omega) (by omega) (fun z17  h18 => ?_)
      obtain ⟨p19, -⟩ := h18
      have q20 : (z11.tmod 100) = z11 % 100 := Int.tmod_eq_emod_of_nonneg (by omega)
      refine sR_most hB3 (by omega) (by omega) (fun z21  h22 => ?_)
      obtain ⟨p23, -⟩ := h22
      have q24 := orI_R z17 z21
      exact hQ _ _ ⟨hB3, hF4, (by omega), trivial⟩
    · skip
      exact hQ _ _ ⟨hB3, hF4, (by omega), trivial⟩
  · skip
    exact hQ _ _ ⟨hB3, hF4, (by omega), trivial⟩
set_option maxHeartbeats 4000000 in
set_option maxRecDepth 100000 in
theorem sR_piece {M : zM} {a0 : Int} {a1 : Int} (hB : BI M) (v0 : (-2147483648) ≤ a0 ∧ a0 ≤ 2147483647) (v1 : (-2147483648) ≤ a1 ∧ a1 ≤ 2147483647) {Q : Int → zM → Prop} (hQ : ∀ (z : Int) (M1 : zM), BI M1 ∧ (∀ j9 k9 : Nat, ¬ (j9 = 0 ∧ k9 = 35 ∨ j9 = 0 ∧ k9 = 27 ∨ j9 = 16 ∨ j9 = 17) → M1 j9 k9 = M j9 k9) ∧ ((-2147483648) ≤ z ∧ z ≤ 2147483647) ∧ ((M 0 27 < 5 ∧ z = M 0 27 ∧ M1 0 27 = M 0 27 + 1) ∨ (z = -1 ∧ M1 0 27 = M 0 27)) ∧ True → Q z M1) : wR_piece a0 a1 M Q := by
  unfold wR_piece
  have hF0 : ∀ j9 k9 : Nat, ¬ (j9 = 0 ∧ k9 = 35 ∨ j9 = 0 ∧ k9 = 27 ∨ j9 = 16 ∨ j9 = 17) → M j9 k9 = M j9 k9 := fun j9 k9 _ => rfl
  intro M1 e2
  have hB3 : BI M1 := by rw [e2]; exact BI.up0 hB rfl (by omega) (by omega) (by decide)
  have hF4 : ∀ j9 k9 : Nat, ¬ (j9 = 0 ∧ k9 = 35 ∨ j9 = 0 ∧ k9 = 27 ∨ j9 = 16 ∨ j9 = 17) → M1 j9 k9 = M j9 k9 := fun j9 k9 h9 => by rw [e2]; exact (zup_n _ _ (by omega)).trans (hF0 j9 k9 h9)
  have r5 : M1 0 27 = M 0 27 := by rw [e2]; exact zup_n _ _ (by omega)
  refine sR_in hB3 (by omega) (by omega) (by omega) (fun z6  h7 => ?_)
  obtain ⟨p8, p9, -⟩ := h7
  refine ⟨fun c10 => ?_, fun c10 => ?_⟩
  · skip
    exact hQ _ _ ⟨hB3, hF4, (by omega), (by omega), trivial⟩
  · skip
    have q11 : 0 ≤ (M1 0 27) ∧ (M1 0 27) ≤ 5 := BN.at hB3.1 (rfl : zcd wR 0 = 50) rfl
    have s12 : sI (M1 0 27) = (M1 0 27) := sIo (by omega) (by omega)
    refine ⟨fun c13 => ?_, fun c13 => ?_⟩
    · skip
      refine pL1_of (fun x14 => (0 ≤ x14 ∧ x14 ≤ 1000000) ∧ True) (fun x14 => (1000000 - x14).toNat) ⟨(by omega), trivial⟩ (fun K x14 h16 k17 => ?_)
      obtain ⟨i15, -⟩ := h16
      have s18 : sI x14 = x14 := sIo (by omega) (by omega)
      have s19 : sI a1 = a1 := sIo (by omega) (by omega)
      refine ⟨fun c20 => ?_, fun c20 => ?_⟩
      · skip
        refine wL1_of (fun x21 M22 => BI M22 ∧ (∀ j9 k9 : Nat, ¬ (j9 = 0 ∧ k9 = 35 ∨ j9 = 0 ∧ k9 = 27 ∨ j9 = 16 ∨ j9 = 17) → M22 j9 k9 = M j9 k9) ∧ (0 ≤ x21 ∧ x21 ≤ 1000000) ∧ (M22 0 27 = M 0 27) ∧ True) (fun x21 M22 => (1000000 - x21).toNat) ⟨hB3, hF4, (by omega), (by omega), trivial⟩ (fun K x21 M22 h27 k28 => ?_)
        obtain ⟨hB23, hF24, i25, i26, -⟩ := h27
        have s29 : sI x21 = x21 := sIo (by omega) (by omega)
        have s30 : sI a1 = a1 := sIo (by omega) (by omega)
        refine ⟨fun c31 => ?_, fun c31 => ?_⟩
        · skip
          have q32 : 0 ≤ (M22 0 27) ∧ (M22 0 27) ≤ 5 := BN.at hB23.1 (rfl : zcd wR 0 = 50) rfl
          have s33 : sI (M22 0 27) = (M22 0 27) := sIo (by omega) (by omega)
          have o34 : 0 ≤ (sI (M22 0 27)) ∧ (sI (M22 0 27)) < 5 := by omega
          refine ⟨o34, ?_⟩
          intro M35 e36
          have hB37 : BI M35 := by rw [e36]; exact BI.up hB23 (rfl : zcd wR 17 = 67) rfl (by omega) (by omega) (by decide)
          have hF38 : ∀ j9 k9 : Nat, ¬ (j9 = 0 ∧ k9 = 35 ∨ j9 = 0 ∧ k9 = 27 ∨ j9 = 16 ∨ j9 = 17) → M35 j9 k9 = M j9 k9 := fun j9 k9 h9 => by rw [e36]; exact (zup_n _ _ (by omega)).trans (hF24 j9 k9 h9)
          have r39 : M35 0 27 = M22 0 27 := by rw [e36]; exact zup_n _ _ (by omega)
          have q40 : 0 ≤ (M35 0 27) ∧ (M35 0 27) ≤ 5 := BN.at hB37.1 (rfl : zcd wR 0 = 50) rfl
          intro M41 e42
          have hB43 : BI M41 := by rw [e42]; exact BI.up0 hB37 rfl (by omega) (by omega) (by decide)
          have hF44 : ∀ j9 k9 : Nat, ¬ (j9 = 0 ∧ k9 = 35 ∨ j9 = 0 ∧ k9 = 27 ∨ j9 = 16 ∨ j9 = 17) → M41 j9 k9 = M j9 k9 := fun j9 k9 h9 => by rw [e42]; exact (zup_n _ _ (by omega)).trans (hF38 j9 k9 h9)
          have r45 : M41 0 27 = ((M35 0 27) + 1) := by rw [e42]; exact zup_s _ _ _ _
          have q46 : 0 ≤ (M41 0 27) ∧ (M41 0 27) ≤ 5 := BN.at hB43.1 (rfl : zcd wR 0 = 50) rfl
          have s47 : sI ((M41 0 27) - 1) = ((M41 0 27) - 1) := sIo (by omega) (by omega)
          exact hQ _ _ ⟨hB43, hF44, (by omega), (by omega), trivial⟩
        · skip
          have q48 : 0 ≤ (M22 0 27) ∧ (M22 0 27) ≤ 5 := BN.at hB23.1 (rfl : zcd wR 0 = 50) rfl
          have q49 := ushrI_R a0 (28 - (4 * x21))
          have q50 := andI_br (ushrI a0 (28 - (4 * x21))) (c := 15) (by decide) (by decide)
          have s51 : sI ((8 * (M22 0 27)) + x21) = ((8 * (M22 0 27)) + x21) := sIo (by omega) (by omega)
          have o52 : 0 ≤ (sI ((8 * (M22 0 27)) + x21)) ∧ (sI ((8 * (M22 0 27)) + x21)) < 40 := by omega
          refine ⟨o52, ?_⟩
          intro M53 e54
          have hB55 : BI M53 := by rw [e54]; exact BI.up hB23 (rfl : zcd wR 16 = 66) rfl (by omega) (by omega) (by decide)
          have hF56 : ∀ j9 k9 : Nat, ¬ (j9 = 0 ∧ k9 = 35 ∨ j9 = 0 ∧ k9 = 27 ∨ j9 = 16 ∨ j9 = 17) → M53 j9 k9 = M j9 k9 := fun j9 k9 h9 => by rw [e54]; exact (zup_n _ _ (by omega)).trans (hF24 j9 k9 h9)
          have r57 : M53 0 27 = M22 0 27 := by rw [e54]; exact zup_n _ _ (by omega)
          exact k28 _ _ ⟨hB55, hF56, (by omega), (by omega), trivial⟩ (by omega)
      · skip
        have q58 := ushrI_R a0 (28 - (4 * x14))
        have q59 := andI_br (ushrI a0 (28 - (4 * x14))) (c := 15) (by decide) (by decide)
        refine ⟨fun c60 => ?_, fun c60 => ?_⟩
        · skip
          exact k17 _ ⟨(by omega), trivial⟩ (by omega)
        · skip
          exact hQ _ _ ⟨hB3, hF4, (by omega), (by omega), trivial⟩
    · skip
      exact hQ _ _ ⟨hB3, hF4, (by omega), (by omega), trivial⟩
set_option maxHeartbeats 4000000 in
set_option maxRecDepth 100000 in
theorem sR_burn {M : zM}  (hB : BI M)  {Q : Int → zM → Prop} (hQ : ∀ (z : Int) (M1 : zM), BI M1 ∧ (∀ j9 k9 : Nat, ¬ (j9 = 0 ∧ k9 = 35 ∨ j9 = 0 ∧ k9 = 27) → M1 j9 k9 = M j9 k9) ∧ ((-2147483648) ≤ z ∧ z ≤ 2147483647) ∧ (z = M 0 27 ∧ M1 0 27 = 0) ∧ True → Q z M1) : wR_burn  M Q := by
  unfold wR_burn
  have hF0 : ∀ j9 k9 : Nat, ¬ (j9 = 0 ∧ k9 = 35 ∨ j9 = 0 ∧ k9 = 27) → M j9 k9 = M j9 k9 := fun j9 k9 _ => rfl
  intro M1 e2
  have hB3 : BI M1 := by rw [e2]; exact BI.up0 hB rfl (by omega) (by omega) (by decide)
  have hF4 : ∀ j9 k9 : Nat, ¬ (j9 = 0 ∧ k9 = 35 ∨ j9 = 0 ∧ k9 = 27) → M1 j9 k9 = M j9 k9 := fun j9 k9 h9 => by rw [e2]; exact (zup_n _ _ (by omega)).trans (hF0 j9 k9 h9)
  have r5 : M1 0 27 = M 0 27 := by rw [e2]; exact zup_n _ _ (by omega)
  have q6 : 0 ≤ (M1 0 27) ∧ (M1 0 27) ≤ 5 := BN.at hB3.1 (rfl : zcd wR 0 = 50) rfl
  intro M7 e8
  have hB9 : BI M7 := by rw [e8]; exact BI.up0 hB3 rfl (by omega) (by omega) (by decide)
  have hF10 : ∀ j9 k9 : Nat, ¬ (j9 = 0 ∧ k9 = 35 ∨ j9 = 0 ∧ k9 = 27) → M7 j9 k9 = M j9 k9 := fun j9 k9 h9 => by rw [e8]; exact (zup_n _ _ (by omega)).trans (hF4 j9 k9 h9)
  have r11 : M7 0 27 = 0 := by rw [e8]; exact zup_s _ _ _ _
  have s12 : sI (M1 0 27) = (M1 0 27) := sIo (by omega) (by omega)
  exact hQ _ _ ⟨hB9, hF10, (by omega), (by omega), trivial⟩
set_option maxHeartbeats 4000000 in
set_option maxRecDepth 100000 in
theorem sR_sound {M : zM} {a0 : Int} {a1 : Int} {a2 : Int} (hB : BI M) (v0 : 0 ≤ a0 ∧ a0 ≤ 4) (v1 : (-2147483648) ≤ a1 ∧ a1 ≤ 2147483647) (v2 : 0 ≤ a2 ∧ a2 ≤ 7) (p0 : a2 < M 17 (sI a0).toNat) {Q : Int → Prop} (hQ : ∀ (z : Int), ((-2147483648) ≤ z ∧ z ≤ 2147483647) ∧ True → Q z) : wR_sound a0 a1 a2 M Q := by
  unfold wR_sound
  have s1 : sI a1 = a1 := sIo (by omega) (by omega)
  refine ⟨fun c2 => ?_, fun c2 => ?_⟩
  · skip
    have s3 : sI ((8 * a0) + a2) = ((8 * a0) + a2) := sIo (by omega) (by omega)
    have o4 : 0 ≤ (sI ((8 * a0) + a2)) ∧ (sI ((8 * a0) + a2)) < 40 := by omega
    refine ⟨o4, ?_⟩
    have q5 : (-2147483648) ≤ (M 16 (sI ((8 * a0) + a2)).toNat) ∧ (M 16 (sI ((8 * a0) + a2)).toNat) ≤ 2147483647 := BN.at hB.1 (rfl : zcd wR 16 = 66) rfl
    have s6 : sI (M 16 (sI ((8 * a0) + a2)).toNat) = (M 16 (sI ((8 * a0) + a2)).toNat) := sIo (by omega) (by omega)
    exact hQ _ ⟨(by omega), trivial⟩
  · skip
    have s7 : sI a0 = a0 := sIo (by omega) (by omega)
    have o8 : 0 ≤ (sI a0) ∧ (sI a0) < 5 := by omega
    refine ⟨o8, ?_⟩
    have q9 : 0 ≤ (M 17 (sI a0).toNat) ∧ (M 17 (sI a0).toNat) ≤ 8 := BN.at hB.1 (rfl : zcd wR 17 = 67) rfl
    have s10 : sI ((8 * a0) + (((M 17 (sI a0).toNat) - 1) - a2)) = ((8 * a0) + (((M 17 (sI a0).toNat) - 1) - a2)) := sIo (by omega) (by omega)
    have o11 : 0 ≤ (sI ((8 * a0) + (((M 17 (sI a0).toNat) - 1) - a2))) ∧ (sI ((8 * a0) + (((M 17 (sI a0).toNat) - 1) - a2))) < 40 := by omega
    refine ⟨o11, ?_⟩
    have q12 : (-2147483648) ≤ (M 16 (sI ((8 * a0) + (((M 17 (sI a0).toNat) - 1) - a2))).toNat) ∧ (M 16 (sI ((8 * a0) + (((M 17 (sI a0).toNat) - 1) - a2))).toNat) ≤ 2147483647 := BN.at hB.1 (rfl : zcd wR 16 = 66) rfl
    have s13 : sI (M 16 (sI ((8 * a0) + (((M 17 (sI a0).toNat) - 1) - a2))).toNat) = (M 16 (sI ((8 * a0) + (((M 17 (sI a0).toNat) - 1) - a2))).toNat) := sIo (by omega) (by omega)
    exact hQ _ ⟨(by omega), trivial⟩
set_option maxHeartbeats 4000000 in
set_option maxRecDepth 100000 in
theorem sR_lies {M : zM} {a0 : Int} {a1 : Int} {a2 : Int} {a3 : Int} {a4 : Int} (hB : BI M) (v0 : 0 ≤ a0 ∧ a0 ≤ 200) (v1 : 0 ≤ a1 ∧ a1 ≤ 40) (v2 : 0 ≤ a2 ∧ a2 ≤ 4) (v3 : (-2147483648) ≤ a3 ∧ a3 ≤ 2147483647) (v4 : 0 ≤ a4 ∧ a4 ≤ 8) (p0 : a4 ≤ a1) (p1 : a4 ≤ M 17 (sI a2).toNat) {Q : Int → Prop} (hQ : ∀ (z : Int), (0 ≤ z ∧ z ≤ 1) ∧ (a4 ≤ 0 → z = 1) ∧ True → Q z) : wR_lies a0 a1 a2 a3 a4 M Q := by
  unfold wR_lies
  refine pL1_of (fun x1 => (0 ≤ x1 ∧ x1 ≤ 1000000) ∧ True) (fun x1 => (1000000 - x1).toNat) ⟨(by omega), trivial⟩ (fun K x1 h3 k4 => ?_)
  obtain ⟨i2, -⟩ := h3
  have s5 : sI x1 = x1 := sIo (by omega) (by omega)
  have s6 : sI a4 = a4 := sIo (by omega) (by omega)
  refine ⟨fun c7 => ?_, fun c7 => ?_⟩
  · skip
    exact hQ _ ⟨(by omega), (by omega), trivial⟩
  · skip
    have s8 : sI (((a0 + a1) - a4) + x1) = (((a0 + a1) - a4) + x1) := sIo (by omega) (by omega)
    have o9 : 0 ≤ (sI (((a0 + a1) - a4) + x1)) ∧ (sI (((a0 + a1) - a4) + x1)) < 240 := by omega
    refine ⟨o9, ?_⟩
    have q10 : (-2147483648) ≤ (M 31 (sI (((a0 + a1) - a4) + x1)).toNat) ∧ (M 31 (sI (((a0 + a1) - a4) + x1)).toNat) ≤ 2147483647 := BN.at hB.1 (rfl : zcd wR 31 = 81) rfl
    refine sR_sound hB (by omega) (by omega) (by omega) (by omega) (fun z11  h12 => ?_)
    obtain ⟨p13, -⟩ := h12
    have s14 : sI (M 31 (sI (((a0 + a1) - a4) + x1)).toNat) = (M 31 (sI (((a0 + a1) - a4) + x1)).toNat) := sIo (by omega) (by omega)
    refine ⟨fun c15 => ?_, fun c15 => ?_⟩
    · skip
      exact k4 _ ⟨(by omega), trivial⟩ (by omega)
    · skip
      exact hQ _ ⟨(by omega), (by omega), trivial⟩
set_option maxHeartbeats 8000000 in
theorem sR_joinFrom : ∀ (n : Nat) {M : zM} {a0 a1 a2 : Int} (hB : BI M) (v0 : 0 ≤ a0 ∧ a0 ≤ 5) (v2 : 0 ≤ a2 ∧ a2 ≤ 8 * a0) (p0 : a0 ≤ M 0 27) (p1 : 6 ≤ (n : Int) + a0) {Q : zM → Prop} (hQ : ∀ M1, (BI M1 ∧ (∀ j9 k9 : Nat, ¬ (j9 = 0 ∧ k9 = 48 ∨ j9 = 31 ∨ j9 = 32) → M1 j9 k9 = M j9 k9) ∧ True) → Q M1), wR_joinFrom n a0 a1 a2 M Q := by
  intro n
  induction n with
  | zero => intro M a0 a1 a2 hB v0 v2 p0 p1; omega
  | succ n ih =>
    intro M a0 a1 a2 hB v0 v2 p0 p1 Q hQ
    show wR_joinFrom_F (wR_joinFrom n) a0 a1 a2 M Q
    unfold wR_joinFrom_F
    have b27 : 0 ≤ M 0 27 ∧ M 0 27 ≤ 5 := BN.at hB.1 (rfl : zcd wR 0 = 50) rfl
    have b48 : -1 ≤ M 0 48 ∧ M 0 48 ≤ 40 := BN.at hB.1 (rfl : zcd wR 0 = 50) rfl
    have s0 : sI a0 = a0 := sIo (by omega) (by omega)
    have s2 : sI a2 = a2 := sIo (by omega) (by omega)
    have s27 : sI (M 0 27) = M 0 27 := sIo (by omega) (by omega)
    have s48 : sI (M 0 48) = M 0 48 := sIo (by omega) (by omega)
    have F0 : ∀ j9 k9 : Nat, ¬ (j9 = 0 ∧ k9 = 48 ∨ j9 = 31 ∨ j9 = 32) → M j9 k9 = M j9 k9 := fun _ _ _ => rfl
    rw [s0, s2, s27, s48]
    refine ⟨fun c => ?_, fun c => ?_⟩
    · refine wL1_of (fun x N => BI N ∧ (∀ j9 k9 : Nat, ¬ (j9 = 0 ∧ k9 = 48 ∨ j9 = 31 ∨ j9 = 32) → N j9 k9 = M j9 k9) ∧ (0 ≤ x ∧ x ≤ 5)) (fun x _ => (1000 - x).toNat) ⟨hB, F0, by omega⟩ (fun K x N hI hK => ?_)
      obtain ⟨hBN, FN, ix⟩ := hI
      have sx : sI x = x := sIo (by omega) (by omega)
      have n27 : N 0 27 = M 0 27 := FN 0 27 (by omega)
      rw [sx, n27, s27]
      refine ⟨fun c2 => hQ _ ⟨hBN, FN, trivial⟩, fun c2 => ⟨fun c3 => ?_, fun c3 => hK _ _ ⟨hBN, FN, by omega⟩ (by omega)⟩⟩
      obtain ⟨i, ei⟩ : ∃ i : Nat, i = x.toNat := ⟨_, rfl⟩
      refine wL1_of (fun y P => BI P ∧ (∀ j9 k9 : Nat, ¬ (j9 = 0 ∧ k9 = 48 ∨ j9 = 31 ∨ j9 = 32) → P j9 k9 = M j9 k9) ∧ (0 ≤ y ∧ y ≤ 2)) (fun y _ => (1000 - y).toNat) ⟨hBN, FN, by omega⟩ (fun K2 y P hI hK2 => ?_)
      obtain ⟨hBP, FP, iy⟩ := hI
      have sy : sI y = y := sIo (by omega) (by omega)
      have b17 : 0 ≤ P 17 i ∧ P 17 i ≤ 8 := BN.at hBP.1 (rfl : zcd wR 17 = 67) rfl
      have s17 : sI (P 17 i) = P 17 i := sIo (by omega) (by omega)
      rw [sy, ← ei, s17]
      refine ⟨fun c4 => hK _ _ ⟨hBP, FP, by omega⟩ (by omega), fun c4 => ⟨by omega, ?_⟩⟩
      intro t26 e26
      refine pL1_of (fun v => (0 ≤ v ∧ v ≤ a2 ∧ v ≤ P 17 i)) (fun v => (v + 1).toNat) (by omega) (fun K3 v hv hK3 => ?_)
      have key : ∀ x37, R32 x37 → wR_lies (40 * a0) a2 x x37 v P (fun z41 => (z41 ≠ 0 → wL1 (fun K244 x45 M46 => (a2 ≤ sI x45 → wL1 (fun K280 x55 M56 => (0 ≤ x ∧ x < 5) ∧ (sI (M56 17 i) ≤ sI x55 → (0 ≤ x ∧ x < 5) ∧ wR_joinFrom n (a0 + 1) (orI a1 (shlI 1 x)) (a2 + M56 17 i - v) M56 (fun M67 => K2 (y + 1) M67)) ∧ (sI x55 < sI (M56 17 i) → (y ≠ 1 → wR_sound x 0 x55 M56 (fun z72 => (0 ≤ sI (40 * a0 + 40 + a2 + x55 - v) ∧ sI (40 * a0 + 40 + a2 + x55 - v) < 240) ∧ (∀ M76 : zM, M76 = zup M56 31 (sI (40 * a0 + 40 + a2 + x55 - v)).toNat z72 → K280 (x55 + 1) M76))) ∧ (y = 1 → wR_sound x 1 x55 M56 (fun z81 => (0 ≤ sI (40 * a0 + 40 + a2 + x55 - v) ∧ sI (40 * a0 + 40 + a2 + x55 - v) < 240) ∧ (∀ M85 : zM, M85 = zup M56 31 (sI (40 * a0 + 40 + a2 + x55 - v)).toNat z81 → K280 (x55 + 1) M85))))) v M46) ∧ (sI x45 < a2 → (0 ≤ sI (40 * a0 + x45) ∧ sI (40 * a0 + x45) < 240) ∧ (0 ≤ sI (40 * a0 + 40 + x45) ∧ sI (40 * a0 + 40 + x45) < 240) ∧ (∀ M91 : zM, M91 = zup M46 31 (sI (40 * a0 + 40 + x45)).toNat (M46 31 (sI (40 * a0 + x45)).toNat) → K244 (x45 + 1) M91))) 0 P) ∧ (z41 = 0 → K3 (v + (-1)))) := by
        intro x37 rx
        refine sR_lies hBP (by omega) (by omega) (by omega) ⟨rx.1, rx.2⟩ (by omega) (by omega) (by rw [sx, ← ei]; omega) (fun z41 h41 => ?_)
        obtain ⟨-, h41, -⟩ := h41
        refine ⟨fun e41 => ?_, fun e41 => hK3 _ (by omega) (by omega)⟩
        refine wL1_of (fun k A => BI A ∧ (∀ j9 k9 : Nat, ¬ (j9 = 31) → A j9 k9 = P j9 k9) ∧ (0 ≤ k ∧ k ≤ 40)) (fun k _ => (1000 - k).toNat) ⟨hBP, fun _ _ _ => rfl, by omega⟩ (fun K4 k A hI hK4 => ?_)
        obtain ⟨hBA, FA, ik⟩ := hI
        have sk : sI k = k := sIo (by omega) (by omega)
        have se1 : sI (40 * a0 + k) = 40 * a0 + k := sIo (by omega) (by omega)
        have se2 : sI (40 * a0 + 40 + k) = 40 * a0 + 40 + k := sIo (by omega) (by omega)
        rw [sk, se1, se2]
        refine ⟨fun c5 => ?_, fun c5 => ⟨by omega, by omega, ?_⟩⟩
        · refine wL1_of (fun m B => BI B ∧ (∀ j9 k9 : Nat, ¬ (j9 = 31) → B j9 k9 = P j9 k9) ∧ (v ≤ m ∧ m ≤ 8)) (fun m _ => (1000 - m).toNat) ⟨hBA, FA, by omega⟩ (fun K5 m B hI hK5 => ?_)
          obtain ⟨hBB, FB, im⟩ := hI
          have sm : sI m = m := sIo (by omega) (by omega)
          have r17 : B 17 i = P 17 i := FB 17 i (by omega)
          have GB : ∀ j9 k9 : Nat, ¬ (j9 = 0 ∧ k9 = 48 ∨ j9 = 31 ∨ j9 = 32) → B j9 k9 = M j9 k9 := fun j9 k9 h9 => (FB j9 k9 (by omega)).trans (FP j9 k9 h9)
          rw [sm, r17, s17]
          refine ⟨by omega, fun c6 => ⟨by omega, ?_⟩, fun c6 => ?_⟩
          · refine ih hBB (by omega) (by omega) (by rw [GB 0 27 (by omega)]; omega) (by omega) (fun M67 h67 => ?_)
            obtain ⟨hB67, F67, -⟩ := h67
            exact hK2 _ _ ⟨hB67, fun j9 k9 h9 => (F67 j9 k9 h9).trans (GB j9 k9 h9), by omega⟩ (by omega)
          · have se3 : sI (40 * a0 + 40 + a2 + m - v) = 40 * a0 + 40 + a2 + m - v := sIo (by omega) (by omega)
            rw [se3]
            have st : ∀ z : Int, -2147483648 ≤ z ∧ z ≤ 2147483647 → (0 ≤ 40 * a0 + 40 + a2 + m - v ∧ 40 * a0 + 40 + a2 + m - v < 240) ∧ (∀ M76 : zM, M76 = zup B 31 (40 * a0 + 40 + a2 + m - v).toNat z → K5 (m + 1) M76) := by
              intro z hz
              refine ⟨by omega, ?_⟩
              intro M76 e76
              exact hK5 _ _ ⟨by rw [e76]; exact BI.up hBB (rfl : zcd wR 31 = 81) rfl hz.1 hz.2 (by decide), fun j9 k9 h9 => by rw [e76]; exact (zup_n _ _ (by omega)).trans (FB j9 k9 h9), by omega⟩ (by omega)
            refine ⟨fun c7 => ?_, fun c7 => ?_⟩
            · exact sR_sound hBB (by omega) (by omega) (by omega) (by rw [sx, ← ei, r17]; omega) (fun z hz => st z hz.1)
            · exact sR_sound hBB (by omega) (by omega) (by omega) (by rw [sx, ← ei, r17]; omega) (fun z hz => st z hz.1)
        · intro M91 e91
          have br := BN.r32 hBA.1 31 (40 * a0 + k).toNat
          exact hK4 _ _ ⟨by rw [e91]; exact BI.up hBA (rfl : zcd wR 31 = 81) rfl br.1 br.2 (by decide), fun j9 k9 h9 => by rw [e91]; exact (zup_n _ _ (by omega)).trans (FA j9 k9 h9), by omega⟩ (by omega)
      exact pJ1_of (fun z => R32 z) key ⟨fun _ => ⟨by omega, by omega⟩, fun _ => ⟨by omega, by omega⟩⟩
    · refine pJ1_of (fun _ => True) (fun x102 _ => ?_) (pJ0_of True (fun _ => trivial) ⟨fun _ => trivial, fun _ => ⟨fun _ => trivial, fun _ => trivial⟩⟩)
      refine pL2_of (fun _ k => (0 ≤ k ∧ k ≤ 40)) (fun _ k => (1000 - k).toNat) (by omega) (fun K l k hk hK => ?_)
      have sk : sI k = k := sIo (by omega) (by omega)
      have se1 : sI (40 * a0 + k) = 40 * a0 + k := sIo (by omega) (by omega)
      rw [sk, se1]
      refine pJ0_of True (fun _ => ?_) ⟨fun _ => trivial, fun c2 => ⟨fun _ => trivial, fun c3 => ⟨fun _ => trivial, fun c4 => ⟨by omega, by omega, fun c5 => ⟨by omega, by omega, fun c6 => hK _ _ (by omega) (by omega), fun c6 => hQ _ ⟨hB, F0, trivial⟩⟩, fun c5 => hK _ _ (by omega) (by omega)⟩⟩⟩⟩
      refine ⟨fun c2 => ?_, fun c2 => hQ _ ⟨hB, F0, trivial⟩⟩
      intro M130 e130
      refine wL1_of (fun x N => BI N ∧ (∀ j9 k9 : Nat, ¬ (j9 = 0 ∧ k9 = 48 ∨ j9 = 31 ∨ j9 = 32) → N j9 k9 = M j9 k9) ∧ (0 ≤ x ∧ x ≤ 40)) (fun x _ => (1000 - x).toNat) ⟨by rw [e130]; exact BI.up0 hB (rfl : cbt 50 48 = (-1, 40)) (by omega) (by omega) (by decide), fun j9 k9 h9 => by rw [e130]; exact zup_n _ _ (by omega), by omega⟩ (fun K2 x N hI hK2 => ?_)
      obtain ⟨hBN, FN, ix⟩ := hI
      have sx : sI x = x := sIo (by omega) (by omega)
      have se2 : sI (40 * a0 + x) = 40 * a0 + x := sIo (by omega) (by omega)
      rw [sx, se2]
      refine ⟨fun c3 => hQ _ ⟨hBN, FN, trivial⟩, fun c3 => ⟨by omega, by omega, ?_⟩⟩
      intro M144 e144
      have br := BN.r32 hBN.1 31 (40 * a0 + x).toNat
      exact hK2 _ _ ⟨by rw [e144]; exact BI.up hBN (rfl : zcd wR 32 = 82) rfl br.1 br.2 (by decide), fun j9 k9 h9 => by rw [e144]; exact (zup_n _ _ (by omega)).trans (FN j9 k9 h9), by omega⟩ (by omega)
set_option maxHeartbeats 4000000 in
theorem sR_join {M : zM} (hB : BI M) {Q : Int → zM → Prop} (hQ : ∀ z M1, (BI M1 ∧ (∀ j9 k9 : Nat, ¬ (j9 = 0 ∧ k9 = 35 ∨ j9 = 0 ∧ k9 = 48 ∨ j9 = 0 ∧ k9 = 34 ∨ j9 = 31 ∨ j9 = 32 ∨ j9 = 22) → M1 j9 k9 = M j9 k9) ∧ (-2147483648 ≤ z ∧ z ≤ 2147483647) ∧ True) → Q z M1) : wR_join M Q := by
  unfold wR_join
  intro M1 e1 M3 e3
  have hB1 : BI M1 := by rw [e1]; exact BI.up0 hB (rfl : cbt 50 35 = (-2147483648, 2147483647)) (by omega) (by omega) (by decide)
  have hB3 : BI M3 := by rw [e3]; exact BI.up0 hB1 (rfl : cbt 50 48 = (-1, 40)) (by omega) (by omega) (by decide)
  have b27 : 0 ≤ M3 0 27 ∧ M3 0 27 ≤ 5 := BN.at hB3.1 (rfl : zcd wR 0 = 50) rfl
  refine sR_joinFrom 6 hB3 (by omega) (by omega) (by omega) (by omega) (fun M5 h5 => ?_)
  obtain ⟨hB5, F5, -⟩ := h5
  have b48 : -1 ≤ M5 0 48 ∧ M5 0 48 ≤ 40 := BN.at hB5.1 (rfl : zcd wR 0 = 50) rfl
  intro M6 e6
  have r34 : M6 0 34 = M5 0 48 := by rw [e6, zup_s]
  refine wL1_of (fun x N => BI N ∧ (∀ j9 k9 : Nat, ¬ (j9 = 0 ∧ k9 = 35 ∨ j9 = 0 ∧ k9 = 48 ∨ j9 = 0 ∧ k9 = 34 ∨ j9 = 31 ∨ j9 = 32 ∨ j9 = 22) → N j9 k9 = M j9 k9) ∧ N 0 34 = M5 0 48 ∧ (0 ≤ x ∧ x ≤ 40)) (fun x _ => (1000 - x).toNat) ⟨by rw [e6]; exact BI.up0 hB5 (rfl : cbt 50 34 = (-1, 64)) (by omega) (by omega) (by decide), fun j9 k9 h9 => by rw [e6]; exact (zup_n _ _ (by omega)).trans ((F5 j9 k9 (by omega)).trans (by rw [e3, e1]; exact (zup_n _ _ (by omega)).trans (zup_n _ _ (by omega)))), r34, by omega⟩ (fun K x N hI hK => ?_)
  obtain ⟨hBN, FN, n34, ix⟩ := hI
  have sx : sI x = x := sIo (by omega) (by omega)
  have s34 : sI (M5 0 48) = M5 0 48 := sIo (by omega) (by omega)
  rw [sx, n34, s34]
  have r := sI_R (N 0 48)
  refine ⟨fun c => hQ _ _ ⟨hBN, FN, by have := r.1; have := r.2; omega, trivial⟩, fun c => ⟨by omega, by omega, ?_⟩⟩
  intro M20 e20
  have br := BN.r32 hBN.1 32 x.toNat
  exact hK _ _ ⟨by rw [e20]; exact BI.up hBN (rfl : zcd wR 22 = 72) rfl br.1 br.2 (by decide), fun j9 k9 h9 => by rw [e20]; exact (zup_n _ _ (by omega)).trans (FN j9 k9 h9), by rw [e20, zup_n _ _ (by omega)]; exact n34, by omega⟩ (by omega)
set_option maxHeartbeats 4000000 in
set_option maxRecDepth 100000 in
theorem sR_known {M : zM} {a0 : Int} {a1 : Int} (hB : BI M) (v0 : (-2147483648) ≤ a0 ∧ a0 ≤ 2147483647) (v1 : (-2147483648) ≤ a1 ∧ a1 ≤ 2147483647) {Q : Int → zM → Prop} (hQ : ∀ (z : Int) (M1 : zM), BI M1 ∧ (∀ j9 k9 : Nat, ¬ (j9 = 0 ∧ k9 = 35) → M1 j9 k9 = M j9 k9) ∧ ((-2147483648) ≤ z ∧ z ≤ 2147483647) ∧ True → Q z M1) : wR_known a0 a1 M Q := by
  unfold wR_known
  have hF0 : ∀ j9 k9 : Nat, ¬ (j9 = 0 ∧ k9 = 35) → M j9 k9 = M j9 k9 := fun j9 k9 _ => rfl
  intro M1 e2
  have hB3 : BI M1 := by rw [e2]; exact BI.up0 hB rfl (by omega) (by omega) (by decide)
  have hF4 : ∀ j9 k9 : Nat, ¬ (j9 = 0 ∧ k9 = 35) → M1 j9 k9 = M j9 k9 := fun j9 k9 h9 => by rw [e2]; exact (zup_n _ _ (by omega)).trans (hF0 j9 k9 h9)
  have q5 : 0 ≤ (M1 0 32) ∧ (M1 0 32) ≤ 16 := BN.at hB3.1 (rfl : zcd wR 0 = 50) rfl
  refine pL1_of (fun x6 => ((-1) ≤ x6 ∧ x6 ≤ 15) ∧ True) (fun x6 => (x6 + 1).toNat) ⟨(by omega), trivial⟩ (fun K x6 h8 k9 => ?_)
  obtain ⟨i7, -⟩ := h8
  have s10 : sI x6 = x6 := sIo (by omega) (by omega)
  refine ⟨fun c11 => ?_, fun c11 => ?_⟩
  · skip
    exact hQ _ _ ⟨hB3, hF4, (by omega), trivial⟩
  · skip
    have o12 : 0 ≤ (sI x6) ∧ (sI x6) < 16 := by omega
    refine ⟨o12, ?_⟩
    have q13 : (-2147483648) ≤ (M1 20 (sI x6).toNat) ∧ (M1 20 (sI x6).toNat) ≤ 2147483647 := BN.at hB3.1 (rfl : zcd wR 20 = 70) rfl
    have s14 : sI (M1 20 (sI x6).toNat) = (M1 20 (sI x6).toNat) := sIo (by omega) (by omega)
    have s15 : sI a0 = a0 := sIo (by omega) (by omega)
    refine ⟨fun c16 => ?_, fun c16 => ?_⟩
    · skip
      exact k9 _ ⟨(by omega), trivial⟩ (by omega)
    · skip
      have o17 : 0 ≤ (sI x6) ∧ (sI x6) < 16 := by omega
      refine ⟨o17, ?_⟩
      have q18 : (-2147483648) ≤ (M1 21 (sI x6).toNat) ∧ (M1 21 (sI x6).toNat) ≤ 2147483647 := BN.at hB3.1 (rfl : zcd wR 21 = 71) rfl
      have s19 : sI (M1 21 (sI x6).toNat) = (M1 21 (sI x6).toNat) := sIo (by omega) (by omega)
      have s20 : sI a1 = a1 := sIo (by omega) (by omega)
      refine ⟨fun c21 => ?_, fun c21 => ?_⟩
      · skip
        exact k9 _ ⟨(by omega), trivial⟩ (by omega)
      · skip
        exact hQ _ _ ⟨hB3, hF4, (by omega), trivial⟩
end zz31_R04
section zz31_R05
/-! safety, 5 -/
set_option maxHeartbeats 4000000 in
set_option maxRecDepth 100000 in
theorem sR_row {M : zM} {a0 : Int} (hB : BI M) (v0 : (-2147483648) ≤ a0 ∧ a0 ≤ 2147483647) {Q : Int → zM → Prop} (hQ : ∀ (z : Int) (M1 : zM), BI M1 ∧ (∀ j9 k9 : Nat, ¬ (j9 = 0 ∧ k9 = 35) → M1 j9 k9 = M j9 k9) ∧ ((-2147483648) ≤ z ∧ z ≤ 2147483647) ∧ True → Q z M1) : wR_row a0 M Q := by
  unfold wR_row
  have hF0 : ∀ j9 k9 : Nat, ¬ (j9 = 0 ∧ k9 = 35) → M j9 k9 = M j9 k9 := fun j9 k9 _ => rfl
  intro M1 e2
  have hB3 : BI M1 := by rw [e2]; exact BI.up0 hB rfl (by omega) (by omega) (by decide)
  have hF4 : ∀ j9 k9 : Nat, ¬ (j9 = 0 ∧ k9 = 35) → M1 j9 k9 = M j9 k9 := fun j9 k9 h9 => by rw [e2]; exact (zup_n _ _ (by omega)).trans (hF0 j9 k9 h9)
  have q5 : (-1) ≤ (M1 0 34) ∧ (M1 0 34) ≤ 64 := BN.at hB3.1 (rfl : zcd wR 0 = 50) rfl
  refine sR_in hB3 (by omega) (by omega) (by omega) (fun z6  h7 => ?_)
  obtain ⟨p8, p9, -⟩ := h7
  refine ⟨fun c10 => ?_, fun c10 => ?_⟩
  · skip
    have s11 : sI a0 = a0 := sIo (by omega) (by omega)
    have o12 : 0 ≤ (sI a0) ∧ (sI a0) < 64 := by omega
    refine ⟨o12, ?_⟩
    have q13 : (-2147483648) ≤ (M1 22 (sI a0).toNat) ∧ (M1 22 (sI a0).toNat) ≤ 2147483647 := BN.at hB3.1 (rfl : zcd wR 22 = 72) rfl
    have s14 : sI (M1 22 (sI a0).toNat) = (M1 22 (sI a0).toNat) := sIo (by omega) (by omega)
    exact hQ _ _ ⟨hB3, hF4, (by omega), trivial⟩
  · skip
    intro M15 e16
    have hB17 : BI M15 := by rw [e16]; exact BI.up0 hB3 rfl (by omega) (by omega) (by decide)
    have hF18 : ∀ j9 k9 : Nat, ¬ (j9 = 0 ∧ k9 = 35) → M15 j9 k9 = M j9 k9 := fun j9 k9 h9 => by rw [e16]; exact (zup_n _ _ (by omega)).trans (hF4 j9 k9 h9)
    exact hQ _ _ ⟨hB17, hF18, (by omega), trivial⟩
end zz31_R05
