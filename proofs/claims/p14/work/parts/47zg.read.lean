/-! plain readings: hand, inch, heard, of -/
def atP (n : Int) (T : Nat → Int) (a z : Int) : Prop := ((0 ≤ a ∧ a < n) ∧ z = T a.toNat) ∨ (¬ (0 ≤ a ∧ a < n) ∧ z = -1)
theorem fC_Strip_at {M : zM} {j : Nat} {a0 : Int} (hB : BN wC M) (hj : 0 ≤ M j 1 ∧ M j 1 ≤ 24) (v0 : -2147483648 ≤ a0 ∧ a0 ≤ 2147483647) {Q : Int → Prop} (hQ : ∀ z : Int, atP (M j 1) (M (j + 1)) a0 z → Q z) : wC_Strip_at j a0 M Q := by
  unfold wC_Strip_at wC_Strip_has
  have r := BN.r32 hB (j + 1) a0.toNat
  rw [sIo v0.1 v0.2, sIo (z := M j 1) (by omega) (by omega), sIo r.1 r.2]
  exact ⟨fun c => ⟨fun _ => hQ _ (Or.inr ⟨by omega, rfl⟩), fun h => absurd rfl h⟩, fun c => ⟨fun d => ⟨fun _ => hQ _ (Or.inr ⟨by omega, rfl⟩), fun h => absurd rfl h⟩, fun d => ⟨fun e => ⟨fun _ => absurd e (by omega), fun h => absurd rfl h⟩, fun e => ⟨fun h => absurd h (by decide), fun _ => ⟨by omega, hQ _ (Or.inl ⟨⟨c, d⟩, rfl⟩)⟩⟩⟩⟩⟩
theorem at_det {n n9 : Int} {T T9 : Nat → Int} {a z z9 : Int} (e : n = n9) (h : ∀ k : Nat, (k : Int) < n → T k = T9 k) (p : atP n T a z) (q : atP n9 T9 a z9) : z = z9 := by
  unfold atP at p q
  rw [← e] at q
  rcases p with ⟨c, p⟩ | ⟨c, p⟩
  · rcases q with ⟨-, q⟩ | ⟨c2, -⟩
    · rw [p, q, h _ (by omega)]
    · exact absurd c c2
  · rcases q with ⟨c2, -⟩ | ⟨-, q⟩
    · exact absurd c2 c
    · omega
theorem fC_inch {M : zM} {a0 a1 : Int} (hB : BN wC M) (v0 : -2147483648 ≤ a0 ∧ a0 ≤ 2147483647) (v1 : -2147483648 ≤ a1 ∧ a1 ≤ 2147483647) {Q : Int → Prop} (hQ : ∀ z : Int, ((∃ r : Nat, a0 = (r : Int) ∧ (r : Int) < M 32 2 ∧ atP (M (41 + 4 * r + 1) 1) (M (41 + 4 * r + 2)) a1 z) ∨ (¬ (0 ≤ a0 ∧ a0 < M 32 2) ∧ z = -1)) → Q z) : wC_inch a0 a1 M Q := by
  unfold wC_inch
  refine fC_find hB v0 (fun h => ⟨fun _ => hQ _ (Or.inr ⟨h, rfl⟩), fun q h => nomatch h⟩) (fun r hr h1 h2 => ⟨(fun h => nomatch h), fun q hq => ?_⟩)
  obtain rfl := Option.some.inj hq
  obtain ⟨c1, c2, c3, -⟩ := rg_cd r h2
  exact ⟨⟨c1, c2⟩, fC_Strip_at hB (BN.at hB c3 rfl) v1 (fun z hz => hQ _ (Or.inl ⟨r, hr, h1, hz⟩))⟩
theorem fR_inch {M : zM} {a0 a1 : Int} (hB : BI M) (v0 : -2147483648 ≤ a0 ∧ a0 ≤ 2147483647) (v1 : -2147483648 ≤ a1 ∧ a1 ≤ 2147483647) {Q : Int → zM → Prop} (hQ : ∀ (z : Int) (M1 : zM), BI M1 ∧ (∀ j9 k9 : Nat, ¬ (j9 = 0 ∧ k9 = 35) → M1 j9 k9 = M j9 k9) ∧ ((∃ r : Nat, a0 = (r : Int) ∧ (r : Int) < M 0 10 ∧ atP (M 4 r) (fun k => M 3 (24 * r + k)) a1 z) ∨ (¬ (0 ≤ a0 ∧ a0 < M 0 10) ∧ z = -1)) → Q z M1) : wR_inch a0 a1 M Q := by
  unfold wR_inch
  intro M1 e1
  have hB1 : BI M1 := by rw [e1]; exact BI.up0 hB (rfl : cbt 50 35 = (-2147483648, 2147483647)) (by omega) (by omega) (by decide)
  have F1 : ∀ j9 k9 : Nat, ¬ (j9 = 0 ∧ k9 = 35) → M1 j9 k9 = M j9 k9 := fun j9 k9 h9 => by rw [e1]; exact zup_n _ _ (by omega)
  have r10 : M1 0 10 = M 0 10 := F1 0 10 (by omega)
  refine fR_isRing hB1 v0 (fun h => ⟨fun _ => hQ _ _ ⟨hB1, F1, Or.inr ⟨by rw [← r10]; exact h, rfl⟩⟩, fun c => absurd rfl c⟩) (fun r hr h1 h2 => ⟨fun c => absurd c (by decide), fun _ => ?_⟩)
  rw [r10] at h1
  have bl : 0 ≤ M 4 r ∧ M 4 r ≤ 24 := BN.at hB.1 (rfl : zcd wR 4 = 54) rfl
  rw [sIo v0.1 v0.2, show a0.toNat = r by omega, F1 4 r (by omega)]
  refine ⟨by omega, ?_⟩
  refine sR_in hB1 v1 (by omega) (by omega) (fun z2 h2' => ?_)
  obtain ⟨-, h2', -⟩ := h2'
  refine ⟨fun c => hQ _ _ ⟨hB1, F1, Or.inl ⟨r, hr, h1, Or.inr ⟨by omega, rfl⟩⟩⟩, fun c => ?_⟩
  have rr := BN.r32 hB.1 3 (24 * r + a1.toNat)
  rw [sIo (z := 24 * a0 + a1) (by omega) (by omega), show (24 * a0 + a1).toNat = 24 * r + a1.toNat by omega, F1 3 _ (by omega), sIo rr.1 rr.2]
  exact ⟨by omega, hQ _ _ ⟨hB1, F1, Or.inl ⟨r, hr, h1, Or.inl ⟨by omega, rfl⟩⟩⟩⟩
theorem inch_det {MC MR : zM} {a0 a1 z z9 : Int} (h : iRi MC MR) (p : (∃ r : Nat, a0 = (r : Int) ∧ (r : Int) < MC 32 2 ∧ atP (MC (41 + 4 * r + 1) 1) (MC (41 + 4 * r + 2)) a1 z) ∨ (¬ (0 ≤ a0 ∧ a0 < MC 32 2) ∧ z = -1)) (q : (∃ r : Nat, a0 = (r : Int) ∧ (r : Int) < MR 0 10 ∧ atP (MR 4 r) (fun k => MR 3 (24 * r + k)) a1 z9) ∨ (¬ (0 ≤ a0 ∧ a0 < MR 0 10) ∧ z9 = -1)) : z = z9 := by
  have e := h.1
  rcases p with ⟨r, p1, p2, p3⟩ | ⟨c, p⟩
  · rcases q with ⟨r9, q1, q2, q3⟩ | ⟨c2, -⟩
    · obtain rfl : r = r9 := by omega
      obtain ⟨n, a1', a2', a3, a4, a5, a6, a7, a8, a9, a10, -⟩ := h.2.2 r p2
      exact at_det (by omega) (fun k hk => a10 k (by omega)) p3 q3
    · omega
  · rcases q with ⟨r9, q1, q2, -⟩ | ⟨-, q⟩
    · omega
    · omega
