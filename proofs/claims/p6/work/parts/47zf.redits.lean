/-! versions: edits, the model's -/
theorem edT_24 {A B : Nat → Int} {m turn i k : Nat} (hi : i ≤ 24) (hk : k ≤ 24) : 0 ≤ edT A B m turn i k ∧ edT A B m turn i k ≤ 24 := by
  have b := edT_b (A := A) (B := B) (m := m) (turn := turn) i k
  omega
theorem ed_val {a b d w t1 t2 : Int} (ha : 0 ≤ a ∧ a ≤ 24) (hb : 0 ≤ b ∧ b ≤ 24) (hd : 0 ≤ d ∧ d ≤ 24) (hw : 0 ≤ w ∧ w ≤ 1) (e1 : t1 = a + w) (e2 : t2 = min (sI t1) (sI (1 + b))) : min t2 (sI (1 + d)) = min (min (a + w) (1 + b)) (1 + d) := by
  rw [e2, e1, sIo (z := a + w) (by omega) (by omega), sIo (z := 1 + b) (by omega) (by omega), sIo (z := 1 + d) (by omega) (by omega)]
set_option maxHeartbeats 4000000 in
theorem fR_editsBy {M : zM} {x y n m turn : Nat} {a0 a1 a2 : Int} (hB : BI M) (hx : x < 16) (hy : y < 16) (e0 : a0 = (x : Int)) (e1 : a1 = (y : Int)) (e2 : a2 = (turn : Int)) (h1 : M 19 x = (n : Int)) (h2 : M 19 y = (m : Int)) (hn : 1 ≤ n ∧ n ≤ 24) (hm : 1 ≤ m ∧ m ≤ 24) (ht : turn < m) {Q : Int → zM → Prop} (hQ : ∀ M1 : zM, BI M1 ∧ (∀ j9 k9 : Nat, ¬ (j9 = 33) → M1 j9 k9 = M j9 k9) → Q (edT (fun k => M 18 (24 * x + k)) (fun k => M 18 (24 * y + k)) m turn n m) M1) : wR_editsBy a0 a1 a2 M Q := by
  unfold wR_editsBy
  rw [e0, e1, e2, sIo (z := (x : Int)) (by omega) (by omega), sIo (z := (y : Int)) (by omega) (by omega), show ((x : Int)).toNat = x by omega, show ((y : Int)).toNat = y by omega, h1, h2, sIo (z := (n : Int)) (by omega) (by omega), sIo (z := (m : Int)) (by omega) (by omega)]
  refine ⟨by omega, by omega, ?_⟩
  have hcd : zcd wR 33 = 83 := rfl
  refine wL1_of (fun z M2 => BI M2 ∧ (∀ j9 k9 : Nat, ¬ (j9 = 33) → M2 j9 k9 = M j9 k9) ∧ ∃ i : Nat, z = (i : Int) ∧ i ≤ n + 1 ∧ ∀ j k : Nat, j < i → k ≤ m → M2 33 (25 * j + k) = edT (fun k => M 18 (24 * x + k)) (fun k => M 18 (24 * y + k)) m turn j k) (fun z _ => (1000 - z).toNat) ⟨hB, fun _ _ _ => rfl, 0, rfl, by omega, fun j k h => absurd h (Nat.not_lt_zero j)⟩ (fun K z M2 h k => ?_)
  obtain ⟨b2, f2, i, rfl, hi, hv⟩ := h
  have si : sI (i : Int) = i := sIo (by omega) (by omega)
  have s25 : sI (25 * (n : Int) + (m : Int)) = ((25 * n + m : Nat) : Int) := by rw [sIo (by omega) (by omega)]; omega
  rw [si, s25, show (((25 * n + m : Nat) : Int)).toNat = 25 * n + m by omega]
  refine ⟨fun c => ⟨by omega, ?_⟩, fun c => ?_⟩
  · have b := edT_b (A := fun k => M 18 (24 * x + k)) (B := fun k => M 18 (24 * y + k)) (m := m) (turn := turn) n m
    rw [hv n m (by omega) (by omega), sIo (by omega) (by omega)]
    exact hQ _ ⟨b2, f2⟩
  · refine wL1_of (fun z M3 => BI M3 ∧ (∀ j9 k9 : Nat, ¬ (j9 = 33) → M3 j9 k9 = M j9 k9) ∧ ∃ q : Nat, z = (q : Int) ∧ q ≤ m + 1 ∧ (∀ j k : Nat, j < i → k ≤ m → M3 33 (25 * j + k) = edT (fun k => M 18 (24 * x + k)) (fun k => M 18 (24 * y + k)) m turn j k) ∧ ∀ k : Nat, k < q → M3 33 (25 * i + k) = edT (fun k => M 18 (24 * x + k)) (fun k => M 18 (24 * y + k)) m turn i k) (fun z _ => (1000 - z).toNat) ⟨b2, f2, 0, rfl, by omega, hv, fun k h => absurd h (Nat.not_lt_zero k)⟩ (fun K3 z M3 h3 k3 => ?_)
    obtain ⟨b3, f3, q, rfl, hq, hv3, hw3⟩ := h3
    have sq : sI (q : Int) = q := sIo (by omega) (by omega)
    have s1 : sI (25 * (i : Int) + (q : Int)) = ((25 * i + q : Nat) : Int) := by rw [sIo (by omega) (by omega)]; omega
    have t1 : (((25 * i + q : Nat) : Int)).toNat = 25 * i + q := by omega
    rw [sq, s1, t1]
    have put : ∀ v : Int, v = edT (fun k => M 18 (24 * x + k)) (fun k => M 18 (24 * y + k)) m turn i q → q ≤ m → ∀ M6 : zM, M6 = zup M3 33 (25 * i + q) v → K3 ((q : Int) + 1) M6 := fun v hv0 hqm M6 e6 => by
      have b := edT_b (A := fun k => M 18 (24 * x + k)) (B := fun k => M 18 (24 * y + k)) (m := m) (turn := turn) i q
      rw [← hv0] at b
      refine k3 _ _ ⟨by rw [e6]; exact BI.up b3 hcd rfl (by omega) (by omega) (by decide), fun j9 k9 h9 => by rw [e6, zup_n _ _ (by omega)]; exact f3 j9 k9 h9, q + 1, by omega, by omega, fun j k hj hk => by rw [e6, zup_n _ _ (by omega)]; exact hv3 j k hj hk, fun k hk => ?_⟩ (by omega)
      rw [e6]
      by_cases c5 : k = q
      · rw [c5, zup_s]
        exact hv0
      · rw [zup_n _ _ (by omega)]
        exact hw3 k (by omega)
    refine ⟨fun c3 => k _ _ ⟨b3, f3, i + 1, by omega, by omega, fun j k hj hk => ?_⟩ (by omega), fun c3 => ?_⟩
    · by_cases c5 : j = i
      · rw [c5]
        exact hw3 k (by omega)
      · exact hv3 j k (by omega) hk
    · refine pJ0_of (i = 0 ∨ q = 0) (fun hj => ⟨by omega, fun M6 e6 => put _ ?_ (by omega) M6 e6⟩) ⟨fun c4 => Or.inl (by omega), fun c4 => ⟨fun c5 => ?_, fun c5 => Or.inr (by omega)⟩⟩
      · by_cases c0 : i = 0
        · subst c0
          show ((0 : Nat) : Int) + (q : Int) = (q : Int)
          omega
        · obtain ⟨i2, rfl⟩ : ∃ i2 : Nat, i = i2 + 1 := ⟨i - 1, by omega⟩
          have q0 : q = 0 := by omega
          subst q0
          show ((i2 + 1 : Nat) : Int) + ((0 : Nat) : Int) = (i2 : Int) + 1
          omega
      · obtain ⟨i2, rfl⟩ : ∃ i2 : Nat, i = i2 + 1 := ⟨i - 1, by omega⟩
        obtain ⟨q2, rfl⟩ : ∃ q2 : Nat, q = q2 + 1 := ⟨q - 1, by omega⟩
        have lt := Nat.mod_lt (turn + q2) (show m > 0 by omega)
        have a1 : sI (24 * (x : Int) + ((i2 + 1 : Nat) : Int) - 1) = ((24 * x + i2 : Nat) : Int) := by rw [sIo (by omega) (by omega)]; omega
        have a2 : sI (((q2 + 1 : Nat) : Int) - 1 + (turn : Int)) = ((turn + q2 : Nat) : Int) := by rw [sIo (by omega) (by omega)]; omega
        have a3 : ((turn + q2 : Nat) : Int).tmod (m : Int) = (((turn + q2) % m : Nat) : Int) := by
          rw [Int.tmod_eq_emod_of_nonneg (by omega)]
          exact (Int.natCast_emod _ _).symm
        have a4 : sI (24 * (y : Int) + (((turn + q2) % m : Nat) : Int)) = ((24 * y + (turn + q2) % m : Nat) : Int) := by rw [sIo (by omega) (by omega)]; omega
        have a5 : sI (25 * (((i2 + 1 : Nat) : Int) - 1) + ((q2 + 1 : Nat) : Int) - 1) = ((25 * i2 + q2 : Nat) : Int) := by rw [sIo (by omega) (by omega)]; omega
        have a6 : sI (25 * (((i2 + 1 : Nat) : Int) - 1) + ((q2 + 1 : Nat) : Int)) = ((25 * i2 + (q2 + 1) : Nat) : Int) := by rw [sIo (by omega) (by omega)]; omega
        have a7 : sI (25 * ((i2 + 1 : Nat) : Int) + ((q2 + 1 : Nat) : Int) - 1) = ((25 * (i2 + 1) + q2 : Nat) : Int) := by rw [sIo (by omega) (by omega)]; omega
        rw [a1, a2, a3, a4, a5, a6, a7, show (((24 * x + i2 : Nat) : Int)).toNat = 24 * x + i2 by omega, show (((24 * y + (turn + q2) % m : Nat) : Int)).toNat = 24 * y + (turn + q2) % m by omega, show (((25 * i2 + q2 : Nat) : Int)).toNat = 25 * i2 + q2 by omega, show (((25 * i2 + (q2 + 1) : Nat) : Int)).toNat = 25 * i2 + (q2 + 1) by omega, show (((25 * (i2 + 1) + q2 : Nat) : Int)).toNat = 25 * (i2 + 1) + q2 by omega]
        have ra := BN.r32 hB.1 18 (24 * x + i2)
        have rb := BN.r32 hB.1 18 (24 * y + (turn + q2) % m)
        rw [f3 18 (24 * x + i2) (by omega), f3 18 (24 * y + (turn + q2) % m) (by omega), sIo ra.1 ra.2, sIo rb.1 rb.2]
        have p0 := edT_24 (A := fun k => M 18 (24 * x + k)) (B := fun k => M 18 (24 * y + k)) (m := m) (turn := turn) (i := i2) (k := q2) (by omega) (by omega)
        have p1 := edT_24 (A := fun k => M 18 (24 * x + k)) (B := fun k => M 18 (24 * y + k)) (m := m) (turn := turn) (i := i2) (k := q2 + 1) (by omega) (by omega)
        have p2 := edT_24 (A := fun k => M 18 (24 * x + k)) (B := fun k => M 18 (24 * y + k)) (m := m) (turn := turn) (i := i2 + 1) (k := q2) (by omega) (by omega)
        rw [hv3 i2 q2 (by omega) (by omega), hv3 i2 (q2 + 1) (by omega) (by omega), hw3 q2 (by omega)]
        refine ⟨by omega, by omega, by omega, ?_⟩
        refine pJ1_of (fun w => w = if M 18 (24 * x + i2) = M 18 (24 * y + (turn + q2) % m) then 1 else 0) (fun w hw => ?_) ⟨fun c6 => by rw [if_neg c6], fun c6 => by rw [if_pos c6]⟩
        have sw : sI w = w := by rw [hw]; split <;> decide
        rw [sw]
        refine ⟨by omega, ?_⟩
        refine pJ1_of (fun w2 => w2 = if M 18 (24 * x + i2) = M 18 (24 * y + (turn + q2) % m) then 0 else 1) (fun w2 hw2 t74 e74 => ⟨by omega, fun t77 e77 => ⟨by omega, by omega, fun M6 e6 => put _ ?_ (by omega) M6 e6⟩⟩) ⟨fun c6 => ?_, fun c6 => ?_⟩
        · have bw : 0 ≤ w2 ∧ w2 ≤ 1 := by rw [hw2]; split <;> decide
          have e : edT (fun k => M 18 (24 * x + k)) (fun k => M 18 (24 * y + k)) m turn (i2 + 1) (q2 + 1) = min (min (edT (fun k => M 18 (24 * x + k)) (fun k => M 18 (24 * y + k)) m turn i2 q2 + (if M 18 (24 * x + i2) = M 18 (24 * y + (turn + q2) % m) then 0 else 1)) (1 + edT (fun k => M 18 (24 * x + k)) (fun k => M 18 (24 * y + k)) m turn i2 (q2 + 1))) (1 + edT (fun k => M 18 (24 * x + k)) (fun k => M 18 (24 * y + k)) m turn (i2 + 1) q2) := rfl
          rw [e, ← hw2]
          exact ed_val p0 p1 p2 bw e74 e77
        · rw [if_neg (fun x => by rw [hw, if_pos x] at c6; omega)]
        · rw [if_pos (Decidable.byContradiction (fun x => c6 (by rw [hw, if_neg x])))]
theorem fR_edits {M : zM} {a0 a1 : Int} (hB : BI M) (hl : ∀ v : Nat, (v : Int) < M 0 32 → 1 ≤ M 19 v) (v0 : -2147483648 ≤ a0 ∧ a0 ≤ 2147483647) (v1 : -2147483648 ≤ a1 ∧ a1 ≤ 2147483647) {Q : Int → zM → Prop} (hQ : ∀ (z : Int) (M1 : zM), BI M1 ∧ (∀ j9 k9 : Nat, ¬ (j9 = 0 ∧ k9 = 35 ∨ j9 = 33) → M1 j9 k9 = M j9 k9) ∧ (((0 ≤ a0 ∧ a0 < M 0 32) ∧ (0 ≤ a1 ∧ a1 < M 0 32) ∧ ∃ x y n m : Nat, a0 = (x : Int) ∧ a1 = (y : Int) ∧ M 19 x = (n : Int) ∧ M 19 y = (m : Int) ∧ z = mnF (fun t => edT (fun k => M 18 (24 * x + k)) (fun k => M 18 (24 * y + k)) m t n m) 268435456 m) ∨ (¬ ((0 ≤ a0 ∧ a0 < M 0 32) ∧ (0 ≤ a1 ∧ a1 < M 0 32)) ∧ z = -1)) → Q z M1) : wR_edits a0 a1 M Q := by
  unfold wR_edits
  intro M1 e1
  have hB1 : BI M1 := by rw [e1]; exact BI.up0 hB (rfl : cbt 50 35 = (-2147483648, 2147483647)) (by omega) (by omega) (by decide)
  have F1 : ∀ j9 k9 : Nat, ¬ (j9 = 0 ∧ k9 = 35) → M1 j9 k9 = M j9 k9 := fun j9 k9 h9 => by rw [e1]; exact zup_n _ _ (by omega)
  have bc : 0 ≤ M 0 32 ∧ M 0 32 ≤ 16 := BN.at hB.1 (rfl : zcd wR 0 = 50) rfl
  have no : ¬ ((0 ≤ a0 ∧ a0 < M 0 32) ∧ (0 ≤ a1 ∧ a1 < M 0 32)) → Q (-1) M1 := fun h => hQ _ _ ⟨hB1, fun j9 k9 h9 => F1 j9 k9 (by omega), Or.inr ⟨h, rfl⟩⟩
  rw [F1 0 32 (by omega)]
  refine sR_in hB1 v0 (by omega) (by omega) (fun z2 h2 => ?_)
  obtain ⟨-, h2, -⟩ := h2
  refine ⟨fun c => no (fun x => by have := x.1; omega), fun c => ?_⟩
  refine sR_in hB1 v1 (by omega) (by omega) (fun z7 h7 => ?_)
  obtain ⟨-, h7, -⟩ := h7
  refine ⟨fun d => ?_, fun d => no (fun x => by have := x.2; omega)⟩
  have g : (0 ≤ a0 ∧ a0 < M 0 32) ∧ (0 ≤ a1 ∧ a1 < M 0 32) := ⟨by omega, by omega⟩
  clear h2 h7 c d no
  obtain ⟨x, hx⟩ : ∃ x : Nat, a0 = (x : Int) := ⟨a0.toNat, by omega⟩
  obtain ⟨y, hy⟩ : ∃ y : Nat, a1 = (y : Int) := ⟨a1.toNat, by omega⟩
  have bn : 0 ≤ M 19 x ∧ M 19 x ≤ 24 := BN.at hB.1 (rfl : zcd wR 19 = 69) rfl
  have bm : 0 ≤ M 19 y ∧ M 19 y ≤ 24 := BN.at hB.1 (rfl : zcd wR 19 = 69) rfl
  have l1 := hl x (by omega)
  have l2 := hl y (by omega)
  obtain ⟨n, hn⟩ : ∃ n : Nat, M 19 x = (n : Int) := ⟨(M 19 x).toNat, by omega⟩
  obtain ⟨m, hm⟩ : ∃ m : Nat, M 19 y = (m : Int) := ⟨(M 19 y).toNat, by omega⟩
  have s1 : sI a1 = (y : Int) := by rw [hy]; exact sIo (by omega) (by omega)
  rw [s1, show ((y : Int)).toNat = y by omega]
  refine wL2_of (fun z t M2 => BI M2 ∧ (∀ j9 k9 : Nat, ¬ (j9 = 33) → M2 j9 k9 = M1 j9 k9) ∧ ∃ u : Nat, t = (u : Int) ∧ u ≤ m ∧ z = mnF (fun t => edT (fun k => M 18 (24 * x + k)) (fun k => M 18 (24 * y + k)) m t n m) 268435456 u) (fun _ t _ => (1000 - t).toNat) ⟨hB1, fun _ _ _ => rfl, 0, rfl, by omega, rfl⟩ (fun K z t M2 h k => ?_)
  obtain ⟨b2, f2, u, rfl, hu, rfl⟩ := h
  have bz := mnF_b (f := fun t => edT (fun k => M 18 (24 * x + k)) (fun k => M 18 (24 * y + k)) m t n m) (x := 268435456) (by omega) (fun k => (edT_b _ _).1) u
  have F2 : ∀ j9 k9 : Nat, ¬ (j9 = 0 ∧ k9 = 35 ∨ j9 = 33) → M2 j9 k9 = M j9 k9 := fun j9 k9 h9 => (f2 j9 k9 (by omega)).trans (F1 j9 k9 (by omega))
  rw [F2 19 y (by omega), hm, sIo (z := (u : Int)) (by omega) (by omega), sIo (z := (m : Int)) (by omega) (by omega), sIo (z := mnF (fun t => edT (fun k => M 18 (24 * x + k)) (fun k => M 18 (24 * y + k)) m t n m) 268435456 u) (by omega) (by omega)]
  refine ⟨by omega, fun c => hQ _ _ ⟨b2, F2, Or.inl ⟨g.1, g.2, x, y, n, m, hx, hy, hn, hm, by rw [show u = m by omega]⟩⟩, fun c => ?_⟩
  refine fR_editsBy (x := x) (y := y) (n := n) (m := m) (turn := u) b2 (by omega) (by omega) hx hy rfl (by rw [F2 19 x (by omega)]; exact hn) (by rw [F2 19 y (by omega)]; exact hm) ⟨by omega, by omega⟩ ⟨by omega, by omega⟩ (by omega) (fun M3 h3 => ?_)
  obtain ⟨b3, f3⟩ := h3
  rw [show (fun k => M2 18 (24 * x + k)) = fun k => M 18 (24 * x + k) from funext fun k => F2 18 _ (by omega), show (fun k => M2 18 (24 * y + k)) = fun k => M 18 (24 * y + k) from funext fun k => F2 18 _ (by omega)]
  exact k _ _ _ ⟨b3, fun j9 k9 h9 => (f3 j9 k9 h9).trans (f2 j9 k9 h9), u + 1, by omega, by omega, rfl⟩ (by omega)
theorem edits_det {MC MR : zM} {a0 a1 z z9 : Int} (h : iVe MC MR) (p : ((0 ≤ a0 ∧ a0 < MC 96 0) ∧ (0 ≤ a1 ∧ a1 < MC 96 0) ∧ ∃ x y n m : Nat, a0 = (x : Int) ∧ a1 = (y : Int) ∧ MC (101 + 2 * x) 1 = (n : Int) ∧ MC (101 + 2 * y) 1 = (m : Int) ∧ z = mnF (fun t => edT (MC (101 + 2 * x + 1)) (MC (101 + 2 * y + 1)) m t n m) (max (n : Int) (m : Int)) m) ∨ (¬ ((0 ≤ a0 ∧ a0 < MC 96 0) ∧ (0 ≤ a1 ∧ a1 < MC 96 0)) ∧ z = -1)) (q : ((0 ≤ a0 ∧ a0 < MR 0 32) ∧ (0 ≤ a1 ∧ a1 < MR 0 32) ∧ ∃ x y n m : Nat, a0 = (x : Int) ∧ a1 = (y : Int) ∧ MR 19 x = (n : Int) ∧ MR 19 y = (m : Int) ∧ z9 = mnF (fun t => edT (fun k => MR 18 (24 * x + k)) (fun k => MR 18 (24 * y + k)) m t n m) 268435456 m) ∨ (¬ ((0 ≤ a0 ∧ a0 < MR 0 32) ∧ (0 ≤ a1 ∧ a1 < MR 0 32)) ∧ z9 = -1)) : z = z9 := by
  obtain ⟨h1, h2, h3⟩ := h
  rw [← h1] at q
  rcases p with ⟨c, d, x, y, n, m, p1, p2, p3, p4, p5⟩ | ⟨c, p1⟩
  · rcases q with ⟨-, -, x9, y9, n9, m9, q1, q2, q3, q4, q5⟩ | ⟨c2, -⟩
    · obtain rfl : x = x9 := by omega
      obtain rfl : y = y9 := by omega
      obtain ⟨-, -, nn, n1, n2, n3, n4, n5⟩ := h3 x (by omega)
      obtain ⟨-, -, mm, m1, m2, m3, m4, m5⟩ := h3 y (by omega)
      obtain rfl : n = nn := by omega
      obtain rfl : m = mm := by omega
      obtain rfl : n = n9 := by omega
      obtain rfl : m = m9 := by omega
      obtain ⟨w, rfl⟩ : ∃ w : Nat, m = w + 1 := ⟨m - 1, by omega⟩
      rw [p5, q5]
      have b := edT_b (A := MC (101 + 2 * x + 1)) (B := MC (101 + 2 * y + 1)) (m := w + 1) (turn := 0) n (w + 1)
      exact mnF_eq (by omega) (by omega) w (fun k _ => edT_cg (by omega) m5 n n5 (w + 1))
    · exact absurd ⟨c, d⟩ c2
  · rcases q with ⟨c2, d2, -⟩ | ⟨-, q1⟩
    · exact absurd ⟨c2, d2⟩ c
    · omega
