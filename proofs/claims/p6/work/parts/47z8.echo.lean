/-! echoes -/
theorem ms_lt {N x y : Int} (h : x < N) (e : y = x + 1) : (N - y).toNat < (N - x).toNat := by omega
theorem hvC_cg {M M2 : zM} (f : ∀ j : Nat, 32 ≤ j → j ≤ 56 → M2 j = M j) {t z : Int} {r : Nat} (hr : r < 4) (h : hvC M2 t r z) : hvC M t r z := by
  obtain ⟨n, w, x1, x2, x3⟩ := h
  refine ⟨n, w, ?_, ?_, ?_⟩
  · rw [f _ (by omega) (by omega)] at x1
    exact x1
  · have ej : jmo (M2 (41 + 4 * r) 1) = jmo (M (41 + 4 * r) 1) := by rw [f _ (by omega) (by omega)]
    have bj : 35 ≤ jmo (M (41 + 4 * r) 1) ∧ jmo (M (41 + 4 * r) 1) ≤ 38 := by unfold jmo; split <;> omega
    rw [ej, f _ (by omega) (by omega), f (jmo (M (41 + 4 * r) 1) + 1) (by omega) (by omega), f (jmo (M (41 + 4 * r) 1) + 2) (by omega) (by omega)] at x2
    exact x2
  · rw [f (41 + 4 * r) (by omega) (by omega), f (41 + 4 * r + 2) (by omega) (by omega)] at x3
    exact x3
theorem uok_cg {M M2 : zM} (f : ∀ j : Nat, 32 ≤ j → j ≤ 56 → M2 j = M j) {r : Nat} (hr : r < 4) (h : uok M r) : uok M2 r := by
  obtain ⟨n, x1, x2, x3, x4⟩ := h
  refine ⟨n, x1, x2, by rw [f _ (by omega) (by omega)]; exact x3, fun a ha => ?_⟩
  rw [f (41 + 4 * r + 3) (by omega) (by omega), f (41 + 4 * r) (by omega) (by omega), f (41 + 4 * r + 2) (by omega) (by omega)]
  exact x4 a ha
theorem hvR_cg {M M2 : zM} (f : ∀ p q : Nat, 3 ≤ p → p ≤ 11 → M2 p q = M p q) {t z : Int} {r : Nat} (h : hvR M2 t r z) : hvR M t r z := by
  obtain ⟨n, w, x1, x2, x3⟩ := h
  refine ⟨n, w, ?_, ?_, ?_⟩
  · rw [f 4 r (by omega) (by omega)] at x1
    exact x1
  · rw [f 5 r (by omega) (by omega), f 11 _ (by omega) (by omega), show M2 9 = M 9 from funext fun q => f 9 q (by omega) (by omega), show M2 10 = M 10 from funext fun q => f 10 q (by omega) (by omega)] at x2
    exact x2
  · rw [f 7 r (by omega) (by omega), f 6 r (by omega) (by omega), show M2 3 = M 3 from funext fun q => f 3 q (by omega) (by omega)] at x3
    exact x3
def haC (M : zM) (t z : Int) : Prop := ∃ v : Nat → Int, (∀ r : Nat, (r : Int) < M 32 2 → hvC M t r (v r)) ∧ z = orF v (M 32 2).toNat
def haR (M : zM) (t z : Int) : Prop := ∃ v : Nat → Int, (∀ r : Nat, (r : Int) < M 0 10 → hvR M t r (v r)) ∧ z = orF v (M 0 10).toNat
theorem haC_cg {M M2 : zM} (hB : BN wC M) (f : ∀ j : Nat, 32 ≤ j → j ≤ 56 → M2 j = M j) {t z : Int} (h : haC M2 t z) : haC M t z := by
  have bn : 0 ≤ M 32 2 ∧ M 32 2 ≤ 4 := BN.at hB (rfl : zcd wC 32 = 8) rfl
  obtain ⟨v, x1, x2⟩ := h
  rw [f 32 (by omega) (by omega)] at x1 x2
  exact ⟨v, fun r hr => hvC_cg f (by omega) (x1 r hr), x2⟩
theorem haR_cg {M M2 : zM} (f : ∀ p q : Nat, 3 ≤ p → p ≤ 11 → M2 p q = M p q) (f0 : M2 0 10 = M 0 10) {t z : Int} (h : haR M2 t z) : haR M t z := by
  obtain ⟨v, x1, x2⟩ := h
  rw [f0] at x1 x2
  exact ⟨v, fun r hr => hvR_cg f (x1 r hr), x2⟩
/-- how loud sounds are -/
def ldF (W : Nat → Int) (x : Int) : Nat → Int
  | 0 => 0
  | k + 1 => ldF W x k + (if bt x ((k + 1 : Nat) : Int) = 1 then W (k + 1) else 0)
theorem ldF_b {W : Nat → Int} {x : Int} (hW : ∀ k : Nat, 1 ≤ k → k < 10 → 0 ≤ W k ∧ W k ≤ 200) : ∀ k : Nat, k < 10 → 0 ≤ ldF W x k ∧ ldF W x k ≤ 200 * (k : Int)
  | 0, _ => ⟨by show (0 : Int) ≤ 0; omega, by show (0 : Int) ≤ 200 * ((0 : Nat) : Int); omega⟩
  | k + 1, h => by
    have a := ldF_b (x := x) hW k (by omega)
    have w := hW (k + 1) (by omega) h
    show 0 ≤ ldF W x k + (if bt x ((k + 1 : Nat) : Int) = 1 then W (k + 1) else 0) ∧ ldF W x k + (if bt x ((k + 1 : Nat) : Int) = 1 then W (k + 1) else 0) ≤ 200 * ((k + 1 : Nat) : Int)
    split <;> omega
theorem ldF_cg {W W2 : Nat → Int} {x : Int} : ∀ k : Nat, k < 10 → (∀ i : Nat, 1 ≤ i → i < 10 → W i = W2 i) → ldF W x k = ldF W2 x k
  | 0, _, _ => rfl
  | k + 1, h, e => by
    show ldF W x k + (if bt x ((k + 1 : Nat) : Int) = 1 then W (k + 1) else 0) = ldF W2 x k + (if bt x ((k + 1 : Nat) : Int) = 1 then W2 (k + 1) else 0)
    rw [ldF_cg k (by omega) e, e (k + 1) (by omega) h]
def iEc (MC MR : zM) : Prop := MC 78 0 = MR 0 22 ∧ MC 78 3 = MR 0 18 ∧ MC 78 4 = MR 0 19 ∧ MC 78 5 = MR 0 20 ∧ MC 78 6 = MR 0 21 ∧ (1 ≤ MC 78 3 ∧ MC 78 3 ≤ 20) ∧ (0 ≤ MC 78 4 ∧ MC 78 4 ≤ 100) ∧ (1 ≤ MC 78 5 ∧ MC 78 5 ≤ 20) ∧ (0 ≤ MC 78 6 ∧ MC 78 6 ≤ 100) ∧ ∀ k : Nat, 1 ≤ k → k < 10 → 0 ≤ MC 80 k ∧ MC 80 k ≤ 200
theorem iEc_kept {MC MR M8 M9 : zM} (h : iEc MC MR) (h78 : ∀ k : Nat, M8 78 k = MC 78 k) (h80 : M8 80 = MC 80) (e22 : M9 0 22 = MR 0 22) (e18 : M9 0 18 = MR 0 18) (e19 : M9 0 19 = MR 0 19) (e20 : M9 0 20 = MR 0 20) (e21 : M9 0 21 = MR 0 21) : iEc M8 M9 := by
  unfold iEc
  rw [h78 0, h78 3, h78 4, h78 5, h78 6, h80, e22, e18, e19, e20, e21]
  exact h
def cHs (a0 a1 a2 a3 : Int) : Prop := (1 ≤ a0 ∧ a0 ≤ 20) ∧ (0 ≤ a1 ∧ a1 ≤ 100) ∧ (1 ≤ a2 ∧ a2 ≤ 20) ∧ (0 ≤ a3 ∧ a3 ≤ 100)
theorem fC_heads {M : zM} {a0 a1 a2 a3 : Int} (hB : BN wC M) (v0 : -2147483648 ≤ a0 ∧ a0 ≤ 2147483647) (v1 : -2147483648 ≤ a1 ∧ a1 ≤ 2147483647) (v2 : -2147483648 ≤ a2 ∧ a2 ≤ 2147483647) (v3 : -2147483648 ≤ a3 ∧ a3 ≤ 2147483647) {Q : Int → zM → Prop} (hQ : ∀ (z : Int) (M1 : zM), BN wC M1 ∧ (∀ j9 : Nat, ¬ (j9 = 78) → M1 j9 = M j9) ∧ M1 78 0 = M 78 0 ∧ ((cHs a0 a1 a2 a3 ∧ z = 1 ∧ M1 78 3 = a0 ∧ M1 78 4 = a1 ∧ M1 78 5 = a2 ∧ M1 78 6 = a3) ∨ (¬ cHs a0 a1 a2 a3 ∧ z = 0 ∧ M1 = M)) → Q z M1) : wC_heads a0 a1 a2 a3 M Q := by
  unfold wC_heads
  have no : ¬ cHs a0 a1 a2 a3 → Q 0 M := fun h => hQ _ _ ⟨hB, fun _ _ => rfl, rfl, Or.inr ⟨h, rfl, rfl⟩⟩
  refine sC_within hB v0 (by omega) (by omega) (fun z2 h2 => ?_)
  obtain ⟨-, h2, -⟩ := h2
  refine ⟨fun c => no (fun x => by have := x.1; omega), fun c => ?_⟩
  refine sC_within hB v1 (by omega) (by omega) (fun z3 h3 => ?_)
  obtain ⟨-, h3, -⟩ := h3
  refine ⟨fun c => no (fun x => by have := x.2.1; omega), fun c => ?_⟩
  refine sC_within hB v2 (by omega) (by omega) (fun z4 h4 => ?_)
  obtain ⟨-, h4, -⟩ := h4
  refine ⟨fun c => no (fun x => by have := x.2.2.1; omega), fun c => ?_⟩
  refine sC_within hB v3 (by omega) (by omega) (fun z5 h5 => ?_)
  obtain ⟨-, h5, -⟩ := h5
  refine ⟨fun c => ?_, fun c => no (fun x => by have := x.2.2.2; omega)⟩
  have g : cHs a0 a1 a2 a3 := ⟨by omega, by omega, by omega, by omega⟩
  clear h2 h3 h4 h5 no
  obtain ⟨g0, g1, g2, g3⟩ := id g
  unfold wC_Echo_place
  intro M1 e1 M3 e3 M5 e5 M7 e7
  refine hQ _ _ ⟨?_, fun j9 h9 => by rw [e7, zup_row _ _ (by omega), e5, zup_row _ _ (by omega), e3, zup_row _ _ (by omega), e1, zup_row _ _ (by omega)], by rw [e7, zup_n _ _ (by omega), e5, zup_n _ _ (by omega), e3, zup_n _ _ (by omega), e1, zup_n _ _ (by omega)], Or.inl ⟨g, rfl, ?_, ?_, ?_, ?_⟩⟩
  · rw [e7, e5, e3, e1]
    exact BN.up (BN.up (BN.up (BN.up hB (rfl : zcd wC 78 = 30) (rfl : cbt 30 3 = (0, 20)) (by omega) (by omega)) (rfl : zcd wC 78 = 30) (rfl : cbt 30 4 = (-2147483648, 2147483647)) (by omega) (by omega)) (rfl : zcd wC 78 = 30) (rfl : cbt 30 5 = (0, 20)) (by omega) (by omega)) (rfl : zcd wC 78 = 30) (rfl : cbt 30 6 = (-2147483648, 2147483647)) (by omega) (by omega)
  · rw [e7, zup_n _ _ (by omega), e5, zup_n _ _ (by omega), e3, zup_n _ _ (by omega), e1, zup_s]
  · rw [e7, zup_n _ _ (by omega), e5, zup_n _ _ (by omega), e3, zup_s]
  · rw [e7, zup_n _ _ (by omega), e5, zup_s]
  · rw [e7, zup_s]
theorem fR_heads {M : zM} {a0 a1 a2 a3 : Int} (hB : BI M) (v0 : -2147483648 ≤ a0 ∧ a0 ≤ 2147483647) (v1 : -2147483648 ≤ a1 ∧ a1 ≤ 2147483647) (v2 : -2147483648 ≤ a2 ∧ a2 ≤ 2147483647) (v3 : -2147483648 ≤ a3 ∧ a3 ≤ 2147483647) {Q : Int → zM → Prop} (hQ : ∀ (z : Int) (M1 : zM), BI M1 ∧ (∀ j9 k9 : Nat, ¬ (j9 = 0 ∧ k9 = 35 ∨ j9 = 0 ∧ k9 = 18 ∨ j9 = 0 ∧ k9 = 19 ∨ j9 = 0 ∧ k9 = 20 ∨ j9 = 0 ∧ k9 = 21) → M1 j9 k9 = M j9 k9) ∧ ((cHs a0 a1 a2 a3 ∧ z = 1 ∧ M1 0 18 = a0 ∧ M1 0 19 = a1 ∧ M1 0 20 = a2 ∧ M1 0 21 = a3) ∨ (¬ cHs a0 a1 a2 a3 ∧ z = 0 ∧ M1 0 18 = M 0 18 ∧ M1 0 19 = M 0 19 ∧ M1 0 20 = M 0 20 ∧ M1 0 21 = M 0 21)) → Q z M1) : wR_heads a0 a1 a2 a3 M Q := by
  unfold wR_heads
  intro M1 e1
  have hB1 : BI M1 := by rw [e1]; exact BI.up0 hB (rfl : cbt 50 35 = (-2147483648, 2147483647)) (by omega) (by omega) (by decide)
  have F1 : ∀ j9 k9 : Nat, ¬ (j9 = 0 ∧ k9 = 35) → M1 j9 k9 = M j9 k9 := fun j9 k9 h9 => by rw [e1]; exact zup_n _ _ (by omega)
  have no : ¬ cHs a0 a1 a2 a3 → Q 0 M1 := fun h => hQ _ _ ⟨hB1, fun j9 k9 h9 => F1 j9 k9 (by omega), Or.inr ⟨h, rfl, F1 0 18 (by omega), F1 0 19 (by omega), F1 0 20 (by omega), F1 0 21 (by omega)⟩⟩
  refine sR_in hB1 v0 (by omega) (by omega) (fun z2 h2 => ?_)
  obtain ⟨-, h2, -⟩ := h2
  refine ⟨fun c => no (fun x => by have := x.1; omega), fun c => ?_⟩
  refine sR_in hB1 v1 (by omega) (by omega) (fun z3 h3 => ?_)
  obtain ⟨-, h3, -⟩ := h3
  refine ⟨fun c => no (fun x => by have := x.2.1; omega), fun c => ?_⟩
  refine sR_in hB1 v2 (by omega) (by omega) (fun z4 h4 => ?_)
  obtain ⟨-, h4, -⟩ := h4
  refine ⟨fun c => no (fun x => by have := x.2.2.1; omega), fun c => ?_⟩
  refine sR_in hB1 v3 (by omega) (by omega) (fun z5 h5 => ?_)
  obtain ⟨-, h5, -⟩ := h5
  refine ⟨fun c => ?_, fun c => no (fun x => by have := x.2.2.2; omega)⟩
  have g : cHs a0 a1 a2 a3 := ⟨by omega, by omega, by omega, by omega⟩
  clear h2 h3 h4 h5 no
  obtain ⟨g0, g1, g2, g3⟩ := id g
  intro M3 e3 M5 e5 M7 e7 M9 e9
  refine hQ _ _ ⟨?_, fun j9 k9 h9 => by rw [e9, zup_n _ _ (by omega), e7, zup_n _ _ (by omega), e5, zup_n _ _ (by omega), e3, zup_n _ _ (by omega)]; exact F1 j9 k9 (by omega), Or.inl ⟨g, rfl, ?_, ?_, ?_, ?_⟩⟩
  · rw [e9, e7, e5, e3]
    exact BI.up0 (BI.up0 (BI.up0 (BI.up0 hB1 (rfl : cbt 50 18 = (0, 20)) (by omega) (by omega) (by decide)) (rfl : cbt 50 19 = (-2147483648, 2147483647)) (by omega) (by omega) (by decide)) (rfl : cbt 50 20 = (0, 20)) (by omega) (by omega) (by decide)) (rfl : cbt 50 21 = (-2147483648, 2147483647)) (by omega) (by omega) (by decide)
  · rw [e9, zup_n _ _ (by omega), e7, zup_n _ _ (by omega), e5, zup_n _ _ (by omega), e3, zup_s]
  · rw [e9, zup_n _ _ (by omega), e7, zup_n _ _ (by omega), e5, zup_s]
  · rw [e9, zup_n _ _ (by omega), e7, zup_s]
  · rw [e9, zup_s]
theorem ec_heads {MC MR M8 M9 : zM} {a0 a1 a2 a3 z z9 : Int} (h : iEc MC MR) (f8 : ∀ j9 : Nat, ¬ (j9 = 78) → M8 j9 = MC j9) (e0 : M8 78 0 = MC 78 0) (p : (cHs a0 a1 a2 a3 ∧ z = 1 ∧ M8 78 3 = a0 ∧ M8 78 4 = a1 ∧ M8 78 5 = a2 ∧ M8 78 6 = a3) ∨ (¬ cHs a0 a1 a2 a3 ∧ z = 0 ∧ M8 = MC)) (e22 : M9 0 22 = MR 0 22) (q : (cHs a0 a1 a2 a3 ∧ z9 = 1 ∧ M9 0 18 = a0 ∧ M9 0 19 = a1 ∧ M9 0 20 = a2 ∧ M9 0 21 = a3) ∨ (¬ cHs a0 a1 a2 a3 ∧ z9 = 0 ∧ M9 0 18 = MR 0 18 ∧ M9 0 19 = MR 0 19 ∧ M9 0 20 = MR 0 20 ∧ M9 0 21 = MR 0 21)) : z = z9 ∧ iEc M8 M9 := by
  obtain ⟨h0, h1, h2, h3, h4, h5, h6, h7, h8, h9⟩ := h
  rcases p with ⟨c, p0, p1, p2, p3, p4⟩ | ⟨c, p0, p1⟩
  · rcases q with ⟨-, q0, q1, q2, q3, q4⟩ | ⟨c2, -⟩
    · obtain ⟨c0, c1, c2, c3⟩ := c
      unfold iEc
      rw [f8 80 (by omega), p1, p2, p3, p4, q1, q2, q3, q4]
      exact ⟨by omega, by omega, rfl, rfl, rfl, rfl, c0, c1, c2, c3, h9⟩
    · exact absurd c c2
  · rcases q with ⟨c2, -⟩ | ⟨-, q0, q1, q2, q3, q4⟩
    · exact absurd c2 c
    · unfold iEc
      rw [p1, q1, q2, q3, q4, e22]
      exact ⟨by omega, h0, h1, h2, h3, h4, h5, h6, h7, h8, h9⟩
theorem fC_stop {M : zM} {a0 : Int} (hB : BN wC M) (v0 : -2147483648 ≤ a0 ∧ a0 ≤ 2147483647) {Q : Int → zM → Prop} (hQ : ∀ (z : Int) (M1 : zM), BN wC M1 ∧ (∀ j9 : Nat, ¬ (j9 = 78) → M1 j9 = M j9) ∧ (∀ k : Nat, k ≠ 0 → M1 78 k = M 78 k) ∧ (((0 ≤ a0 ∧ a0 ≤ 2000) ∧ z = M 78 0 ∧ M1 78 0 = a0) ∨ (¬ (0 ≤ a0 ∧ a0 ≤ 2000) ∧ z = -1 ∧ M1 78 0 = M 78 0)) → Q z M1) : wC_stop a0 M Q := by
  unfold wC_stop
  have b0 : 0 ≤ M 78 0 ∧ M 78 0 ≤ 2000 := BN.at hB (rfl : zcd wC 78 = 30) rfl
  refine sC_within hB v0 (by omega) (by omega) (fun z2 h2 => ?_)
  obtain ⟨-, h2, -⟩ := h2
  rw [sIo (z := M 78 0) (by omega) (by omega)]
  refine ⟨fun c M6 e6 => hQ _ _ ⟨by rw [e6]; exact BN.up hB (rfl : zcd wC 78 = 30) (rfl : cbt 30 0 = (0, 2000)) (by omega) (by omega), fun j9 h9 => by rw [e6, zup_row _ _ (by omega)], fun k hk => by rw [e6, zup_n _ _ (by omega)], Or.inl ⟨by omega, rfl, by rw [e6, zup_s]⟩⟩, fun c => hQ _ _ ⟨hB, fun _ _ => rfl, fun _ _ => rfl, Or.inr ⟨by omega, rfl, rfl⟩⟩⟩
theorem ec_stop {MC MR M8 M9 : zM} {a0 z z9 : Int} (h : iEc MC MR) (f8 : ∀ j9 : Nat, ¬ (j9 = 78) → M8 j9 = MC j9) (g8 : ∀ k : Nat, k ≠ 0 → M8 78 k = MC 78 k) (p : ((0 ≤ a0 ∧ a0 ≤ 2000) ∧ z = MC 78 0 ∧ M8 78 0 = a0) ∨ (¬ (0 ≤ a0 ∧ a0 ≤ 2000) ∧ z = -1 ∧ M8 78 0 = MC 78 0)) (e18 : M9 0 18 = MR 0 18) (e19 : M9 0 19 = MR 0 19) (e20 : M9 0 20 = MR 0 20) (e21 : M9 0 21 = MR 0 21) (q : (0 ≤ a0 ∧ a0 ≤ 2000 ∧ z9 = MR 0 22 ∧ M9 0 22 = a0) ∨ (¬ (0 ≤ a0 ∧ a0 ≤ 2000) ∧ z9 = -1 ∧ M9 0 22 = MR 0 22)) : z = z9 ∧ iEc M8 M9 := by
  obtain ⟨h0, h1, h2, h3, h4, h5, h6, h7, h8, h9⟩ := h
  unfold iEc
  rw [f8 80 (by omega), g8 3 (by omega), g8 4 (by omega), g8 5 (by omega), g8 6 (by omega), e18, e19, e20, e21]
  exact ⟨by omega, by omega, h1, h2, h3, h4, h5, h6, h7, h8, h9⟩
def bhF (O : Nat → Int) (t : Nat) (d g : Int) : Int := if (t : Int) < d then 0 else (O ((t : Int) - d).toNat * g).tdiv 100
theorem bh_b {x g : Int} (hx : 0 ≤ x ∧ x ≤ 5000) (hg : 0 ≤ g ∧ g ≤ 100) : (0 ≤ x * g ∧ x * g ≤ 500000) ∧ (0 ≤ (x * g).tdiv 100 ∧ (x * g).tdiv 100 ≤ 5000) := by
  have a : 0 ≤ x * g := Int.mul_nonneg hx.1 hg.1
  have b : x * g ≤ 5000 * 100 := Int.mul_le_mul hx.2 hg.2 hg.1 (by omega)
  rw [Int.tdiv_eq_ediv_of_nonneg a]
  omega
theorem bhF_b {O : Nat → Int} {t : Nat} {d g : Int} (hO : ∀ i : Nat, i < t → 0 ≤ O i ∧ O i ≤ 5000) (hd : 1 ≤ d) (hg : 0 ≤ g ∧ g ≤ 100) : 0 ≤ bhF O t d g ∧ bhF O t d g ≤ 5000 := by
  unfold bhF
  split
  · omega
  · exact (bh_b (hO _ (by omega)) hg).2
theorem bhF_cg {O O2 : Nat → Int} {t : Nat} {d g : Int} (h : ∀ i : Nat, i < t → O i = O2 i) (hd : 1 ≤ d) : bhF O t d g = bhF O2 t d g := by
  unfold bhF
  split
  · rfl
  · rw [h _ (by omega)]
def okO (O I : Nat → Int) (n : Nat) (d a e b : Int) : Prop := ∀ t : Nat, t < n → O t = min (I t + bhF O t d a + bhF O t e b) 5000 ∧ 0 ≤ O t ∧ O t ≤ 5000
theorem okO_det {O O2 I I2 : Nat → Int} {n : Nat} {d a e b : Int} (hd : 1 ≤ d) (he : 1 ≤ e) (p : okO O I n d a e b) (q : okO O2 I2 n d a e b) (hI : ∀ t : Nat, t < n → I t = I2 t) : ∀ t : Nat, t < n → O t = O2 t := fun t => by
  induction t using Nat.strongRecOn with
  | _ t ih =>
    intro ht
    have g : ∀ i : Nat, i < t → O i = O2 i := fun i hi => ih i hi (by omega)
    rw [(p t ht).1, (q t ht).1, hI t ht, bhF_cg g hd, bhF_cg g he]
theorem okO_up {O I : Nat → Int} {n : Nat} {d a e b v y : Int} (hd : 1 ≤ d) (he : 1 ≤ e) (h : okO O I n d a e b) (hv : v = min (y + bhF O n d a + bhF O n e b) 5000) (bv : 0 ≤ v ∧ v ≤ 5000) {O2 : Nat → Int} (hO : ∀ i : Nat, O2 i = if i = n then v else O i) : okO O2 (fun t => if t = n then y else I t) (n + 1) d a e b := fun t ht => by
  have g : ∀ i : Nat, i < t → O2 i = O i := fun i hi => by rw [hO, if_neg (by omega)]
  rw [bhF_cg g hd, bhF_cg g he]
  by_cases c : t = n
  · subst c
    rw [hO, if_pos rfl]
    dsimp only
    rw [if_pos rfl]
    exact ⟨hv, bv⟩
  · rw [hO, if_neg c]
    dsimp only
    rw [if_neg c]
    exact h t (by omega)
def inC (M : zM) (t : Nat) (y : Int) : Prop := ((t : Int) < M 78 0 ∧ ∃ x : Int, haC M (t : Int) x ∧ y = ldF (M 80) x 9) ∨ (¬ (t : Int) < M 78 0 ∧ y = 0)
def inR (M : zM) (t : Nat) (y : Int) : Prop := ((t : Int) < M 0 22 ∧ ∃ x : Int, haR M (t : Int) x ∧ y = ldF (M 14) x 9) ∨ (¬ (t : Int) < M 0 22 ∧ y = 0)
theorem fC_loudness {M : zM} {a0 : Int} (hB : BN wC M) (hW : ∀ k : Nat, 1 ≤ k → k < 10 → 0 ≤ M 80 k ∧ M 80 k ≤ 200) {Q : Int → Prop} (hQ : Q (ldF (M 80) a0 9)) : wC_Echo_loudness a0 M Q := by
  unfold wC_Echo_loudness
  refine pL2_of (fun x y => ∃ k : Nat, y = ((k + 1 : Nat) : Int) ∧ k ≤ 9 ∧ x = ldF (M 80) a0 k) (fun _ y => (1000 - y).toNat) ⟨0, rfl, by omega, rfl⟩ (fun K x y h k => ?_)
  obtain ⟨i, rfl, hi, rfl⟩ := h
  have b := ldF_b (x := a0) hW i (by omega)
  have si : sI ((i + 1 : Nat) : Int) = ((i + 1 : Nat) : Int) := sIo (by omega) (by omega)
  rw [si, sIo (z := ldF (M 80) a0 i) (by omega) (by omega), show (((i + 1 : Nat) : Int)).toNat = i + 1 by omega]
  refine ⟨fun c => by rw [show i = 9 by omega]; exact hQ, fun c => ⟨by omega, fun t e => k _ _ ⟨i + 1, by omega, by omega, ?_⟩ (by omega)⟩⟩
  have e : t = ldF (M 80) a0 i + bt a0 ((i + 1 : Nat) : Int) * M 80 (i + 1) := e
  show t = ldF (M 80) a0 i + (if bt a0 ((i + 1 : Nat) : Int) = 1 then M 80 (i + 1) else 0)
  have bb := bt_b a0 ((i + 1 : Nat) : Int)
  rw [e]
  by_cases c5 : bt a0 ((i + 1 : Nat) : Int) = 1
  · rw [if_pos c5, c5, Int.one_mul]
  · rw [if_neg c5, show bt a0 ((i + 1 : Nat) : Int) = 0 by omega, Int.zero_mul]
theorem fC_ebehind {M : zM} {t : Nat} {d g a0 : Int} (ht : t ≤ 4000) (ha : a0 = (t : Int) - d) (hd : 1 ≤ d ∧ d ≤ 20) (hg : 0 ≤ g ∧ g ≤ 100) (hO : ∀ i : Nat, i < t → 0 ≤ M 81 i ∧ M 81 i ≤ 5000) {Q : Int → Prop} (hQ : Q (bhF (M 81) t d g)) : wC_Echo_behind a0 g M Q := by
  unfold wC_Echo_behind wC_Echo_outAt
  unfold bhF at hQ
  rw [sIo (z := a0) (by omega) (by omega)]
  refine ⟨fun c => ?_, fun c => ⟨fun c2 => absurd c2 (by omega), fun c2 => ⟨by omega, ?_⟩⟩⟩
  · rw [if_pos (by omega)] at hQ
    rw [Int.zero_mul, show sI ((sI 0).tdiv 100) = 0 by decide]
    exact hQ
  · rw [if_neg (by omega), ← ha] at hQ
    have b := hO a0.toNat (by omega)
    have bb := bh_b b hg
    rw [sIo (z := M 81 a0.toNat) (by omega) (by omega), sIo (z := M 81 a0.toNat * g) (by omega) (by omega), sIo (z := (M 81 a0.toNat * g).tdiv 100) (by omega) (by omega)]
    exact hQ
