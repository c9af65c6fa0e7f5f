/-! rings: a new one, alike -/
def cRg (cnt n a0 a1 : Int) : Prop := (0 ≤ a0 ∧ a0 ≤ 1) ∧ (0 ≤ a1 ∧ a1 < n) ∧ cnt < 4
set_option maxHeartbeats 2000000 in
theorem fC_ring {M : zM} {a0 a1 : Int} (hB : BN wC M) (v0 : -2147483648 ≤ a0 ∧ a0 ≤ 2147483647) (v1 : -2147483648 ≤ a1 ∧ a1 ≤ 2147483647) {Q : Int → zM → Prop} (hQ : ∀ (z : Int) (M1 : zM), BN wC M1 ∧ (∀ j9 : Nat, ¬ (j9 = 32 ∨ 41 ≤ j9 ∧ j9 ≤ 56) → M1 j9 = M j9) ∧ ((cRg (M 32 2) (M 30 1) a0 a1 ∧ ∃ c n : Nat, M 32 2 = (c : Int) ∧ c < 4 ∧ M 30 1 = (n : Int) ∧ 1 ≤ n ∧ z = (c : Int) ∧ M1 32 2 = (c : Int) + 1 ∧ (∀ p q : Nat, ¬ (p = 32 ∧ q = 2 ∨ 41 + 4 * c ≤ p ∧ p ≤ 41 + 4 * c + 3) → M1 p q = M p q) ∧ M1 (41 + 4 * c) 1 = a0 ∧ M1 (41 + 4 * c) 2 = a1 ∧ M1 (41 + 4 * c) 3 = 1 ∧ M1 (41 + 4 * c) 4 = 0 ∧ M1 (41 + 4 * c + 1) 1 = (n : Int) ∧ (∀ k : Nat, k < 24 → M1 (41 + 4 * c + 2) k = M 31 k) ∧ (∀ a : Nat, a < n → M1 (41 + 4 * c + 3) a = orU 1 (M1 (41 + 4 * c + 2)) n a 24)) ∨ (¬ cRg (M 32 2) (M 30 1) a0 a1 ∧ z = -1 ∧ M1 = M)) → Q z M1) : wC_ring a0 a1 M Q := by
  unfold wC_ring
  have no : ¬ cRg (M 32 2) (M 30 1) a0 a1 → Q (-1) M := fun h => hQ _ _ ⟨hB, fun _ _ => rfl, Or.inr ⟨h, rfl, rfl⟩⟩
  have bn : 0 ≤ M 30 1 ∧ M 30 1 ≤ 24 := BN.at hB (rfl : zcd wC 30 = 6) rfl
  have bc : 0 ≤ M 32 2 ∧ M 32 2 ≤ 4 := BN.at hB (rfl : zcd wC 32 = 8) rfl
  refine sC_isMotor hB v0 (fun z p => ?_)
  obtain ⟨-, p, -⟩ := p
  refine ⟨fun d => no (fun x => by have := x.1; omega), fun d => ?_⟩
  refine sC_Strip_has hB (by decide) (rfl : zcd wC 30 = 6) v1 (fun z2 p2 => ?_)
  obtain ⟨-, p2, -⟩ := p2
  refine ⟨fun d2 => ?_, fun d2 => no (fun x => by have := x.2.1; omega)⟩
  unfold wC_Studio_add
  have sc : sI (M 32 2) = M 32 2 := sIo (by omega) (by omega)
  rw [sc]
  refine ⟨fun d3 => ⟨by omega, ?_⟩, fun d3 => no (fun x => by have := x.2.2; omega)⟩
  obtain ⟨c, hc⟩ : ∃ c : Nat, M 32 2 = (c : Int) := ⟨(M 32 2).toNat, by omega⟩
  obtain ⟨n, hn⟩ : ∃ n : Nat, M 30 1 = (n : Int) := ⟨(M 30 1).toNat, by omega⟩
  have tc : (M 32 2).toNat = c := by omega
  have c4 : c < 4 := by omega
  obtain ⟨g1, g2, g3, g4, g5, g6⟩ := rg_cd c c4
  rw [tc]
  unfold wC_Ring_begin
  refine fC_copy (x := (n, M 31)) hB g3 g4 (rfl : zcd wC 30 = 6) ⟨by omega, by omega, by omega⟩ ⟨hn, fun k _ => rfl⟩ (fun M9 h9 => ?_)
  obtain ⟨b9, f9, i9, r9⟩ := h9
  intro M10 e10 M12 e12 M14 e14 M16 e16
  have b10 : BN wC M10 := by rw [e10]; exact BN.up b9 g2 rfl (by omega) (by omega)
  have b12 : BN wC M12 := by rw [e12]; exact BN.up b10 g2 rfl (by omega) (by omega)
  have b14 : BN wC M14 := by rw [e14]; exact BN.up b12 g2 rfl (by omega) (by omega)
  have b16 : BN wC M16 := by rw [e16]; exact BN.up b14 g2 rfl (by omega) (by omega)
  have f16 : ∀ p q : Nat, ¬ (p = 41 + 4 * c ∧ 1 ≤ q ∧ q ≤ 4) → M16 p q = M9 p q := fun p q h => by rw [e16, zup_n _ _ (by omega), e14, zup_n _ _ (by omega), e12, zup_n _ _ (by omega), e10, zup_n _ _ (by omega)]
  have l16 : M16 (41 + 4 * c + 1) 1 = (n : Int) := (f16 _ _ (by omega)).trans i9.1
  refine fC_listen b16 c4 (by omega) l16 (fun M3 h3 => ?_)
  obtain ⟨b3, f3, h3⟩ := h3
  intro M4 e4
  have n3 : M3 32 2 = (c : Int) := by rw [f3 _ _ (by omega), f16 _ _ (by omega), f9 _ _ (by omega)]; exact hc
  have b4 : BN wC M4 := by rw [e4]; exact BN.up b3 (rfl : zcd wC 32 = 8) rfl (by omega) (by omega)
  have n4 : M4 32 2 = (c : Int) + 1 := by rw [e4, zup_s, n3]
  have sz : sI (M4 32 2 - 1) = (c : Int) := by rw [n4, sIo (by omega) (by omega)]; omega
  have f4 : ∀ p q : Nat, ¬ (p = 32 ∧ q = 2 ∨ p = 41 + 4 * c + 3) → M4 p q = M16 p q := fun p q h => by rw [e4, zup_n _ _ (by omega), f3 _ _ (by omega)]
  have fr : ∀ p q : Nat, ¬ (p = 32 ∧ q = 2 ∨ 41 + 4 * c ≤ p ∧ p ≤ 41 + 4 * c + 3) → M4 p q = M p q := fun p q h => by rw [f4 _ _ (by omega), f16 _ _ (by omega), f9 _ _ (by omega)]
  rw [sz]
  refine hQ _ _ ⟨b4, fun j9 h9 => funext fun q => fr j9 q (by omega), Or.inl ⟨⟨by omega, by omega, by omega⟩, c, n, hc, c4, hn, by omega, rfl, n4, fr, ?_, ?_, ?_, ?_, ?_, ?_, ?_⟩⟩
  · rw [f4 _ _ (by omega), e16, zup_n _ _ (by omega), e14, zup_n _ _ (by omega), e12, zup_n _ _ (by omega), e10, zup_s]
  · rw [f4 _ _ (by omega), e16, zup_n _ _ (by omega), e14, zup_n _ _ (by omega), e12, zup_s]
  · rw [f4 _ _ (by omega), e16, zup_n _ _ (by omega), e14, zup_s]
  · rw [f4 _ _ (by omega), e16, zup_s]
  · rw [f4 _ _ (by omega)]
    exact l16
  · intro k hk
    rw [f4 _ _ (by omega), f16 _ _ (by omega)]
    exact r9 k hk
  · intro a ha
    have e16' : M16 (41 + 4 * c) 3 = 1 := by rw [e16, zup_n _ _ (by omega), e14, zup_s]
    rw [e4, zup_n _ _ (by omega), h3 a ha, e16']
    exact orU_cg (by omega) (fun k _ => by rw [zup_n _ _ (by omega), f3 _ _ (by omega)]) 24
set_option maxHeartbeats 2000000 in
theorem fR_ring {M : zM} {a0 a1 : Int} (hB : BI M) (v0 : -2147483648 ≤ a0 ∧ a0 ≤ 2147483647) (v1 : -2147483648 ≤ a1 ∧ a1 ≤ 2147483647) {Q : Int → zM → Prop} (hQ : ∀ (z : Int) (M1 : zM), BI M1 ∧ (∀ j9 k9 : Nat, ¬ (j9 = 0 ∧ k9 = 35 ∨ j9 = 0 ∧ k9 = 10 ∨ j9 = 3 ∨ j9 = 4 ∨ j9 = 5 ∨ j9 = 6 ∨ j9 = 7 ∨ j9 = 8) → M1 j9 k9 = M j9 k9) ∧ ((cRg (M 0 10) (M 0 3) a0 a1 ∧ ∃ c n : Nat, M 0 10 = (c : Int) ∧ M 0 3 = (n : Int) ∧ z = (c : Int) ∧ M1 0 10 = (c : Int) + 1 ∧ (∀ j k : Nat, 4 ≤ j ∧ j ≤ 8 → k ≠ c → M1 j k = M j k) ∧ (∀ k : Nat, ¬ (24 * c ≤ k ∧ k < 24 * c + 24) → M1 3 k = M 3 k) ∧ M1 4 c = (n : Int) ∧ M1 5 c = a0 ∧ M1 6 c = a1 ∧ M1 7 c = 1 ∧ M1 8 c = 0 ∧ (∀ k : Nat, k < n → M1 3 (24 * c + k) = M 2 k)) ∨ (¬ cRg (M 0 10) (M 0 3) a0 a1 ∧ z = -1 ∧ ∀ j9 k9 : Nat, ¬ (j9 = 0 ∧ k9 = 35) → M1 j9 k9 = M j9 k9)) → Q z M1) : wR_ring a0 a1 M Q := by
  unfold wR_ring
  intro M1 e1
  have hB1 : BI M1 := by rw [e1]; exact BI.up0 hB (rfl : cbt 50 35 = (-2147483648, 2147483647)) (by omega) (by omega) (by decide)
  have F1 : ∀ j9 k9 : Nat, ¬ (j9 = 0 ∧ k9 = 35) → M1 j9 k9 = M j9 k9 := fun j9 k9 h9 => by rw [e1]; exact zup_n _ _ (by omega)
  have r3 : M1 0 3 = M 0 3 := F1 0 3 (by omega)
  have r10 : M1 0 10 = M 0 10 := F1 0 10 (by omega)
  have no : ¬ cRg (M 0 10) (M 0 3) a0 a1 → Q (-1) M1 := fun h => hQ _ _ ⟨hB1, fun j9 k9 h9 => F1 j9 k9 (by omega), Or.inr ⟨h, rfl, F1⟩⟩
  have b3 : 0 ≤ M 0 3 ∧ M 0 3 ≤ 24 := BN.at hB.1 (rfl : zcd wR 0 = 50) rfl
  have b10 : 0 ≤ M 0 10 ∧ M 0 10 ≤ 4 := BN.at hB.1 (rfl : zcd wR 0 = 50) rfl
  have s3 : sI (M 0 3) = M 0 3 := sIo (by omega) (by omega)
  have s10 : sI (M 0 10) = M 0 10 := sIo (by omega) (by omega)
  rw [r3, r10, s3, s10]
  refine ⟨fun d => no (fun x => by have := x.2.1; omega), fun d => ?_⟩
  refine sR_isMotor hB1 (by omega) (fun z5 h5 => ?_)
  obtain ⟨-, h5, -⟩ := h5
  refine ⟨fun e5 => no (fun x => by have := x.1; omega), fun e5 => ?_⟩
  refine sR_in hB1 (by omega) (by omega) (by omega) (fun z10 h10 => ?_)
  obtain ⟨-, h10, -⟩ := h10
  refine ⟨fun e10 => no (fun x => by have := x.2.1; omega), fun e10 => ⟨fun c4 => ⟨by omega, ?_⟩, fun c4 => no (fun x => by have := x.2.2; omega)⟩⟩
  have gg : cRg (M 0 10) (M 0 3) a0 a1 := ⟨by omega, by omega, by omega⟩
  have ga : 0 ≤ a0 ∧ a0 ≤ 1 := gg.1
  have gb : 0 ≤ a1 ∧ a1 < M 0 3 := gg.2.1
  have gc : M 0 10 < 4 := gg.2.2
  clear h5 h10 e5 e10 no d
  obtain ⟨c, hc⟩ : ∃ c : Nat, M 0 10 = (c : Int) := ⟨(M 0 10).toNat, by omega⟩
  obtain ⟨n, hn⟩ : ∃ n : Nat, M 0 3 = (n : Int) := ⟨(M 0 3).toNat, by omega⟩
  have tc : (M 0 10).toNat = c := by omega
  intro M16 e16
  rw [tc] at e16
  refine wL1_of (fun x P => BI P ∧ (∀ j k : Nat, ¬ (j = 0 ∧ k = 35 ∨ j = 3 ∧ 24 * c ≤ k ∧ k < 24 * c + 24 ∨ j = 4 ∧ k = c) → P j k = M j k) ∧ P 4 c = (n : Int) ∧ ∃ i : Nat, x = (i : Int) ∧ i ≤ n ∧ ∀ k : Nat, k < i → P 3 (24 * c + k) = M 2 k) (fun x _ => (1000 - x).toNat) ⟨by rw [e16]; exact BI.up4 hB1 (by omega) (by omega), fun j k h => by rw [e16, zup_n _ _ (by omega)]; exact F1 j k (by omega), by rw [e16, zup_s]; exact hn, 0, rfl, by omega, fun k h => absurd h (Nat.not_lt_zero k)⟩ (fun K x P hI hK => ?_)
  obtain ⟨hBP, FP, p4, i, rfl, i1, hv⟩ := hI
  have q10 : P 0 10 = (c : Int) := (FP 0 10 (by omega)).trans hc
  have q3 : P 0 3 = (n : Int) := (FP 0 3 (by omega)).trans hn
  have sc : sI (c : Int) = c := sIo (by omega) (by omega)
  have sn : sI (n : Int) = n := sIo (by omega) (by omega)
  have sx : sI (i : Int) = i := sIo (by omega) (by omega)
  have tcc : ((c : Int)).toNat = c := by omega
  have tx : ((i : Int)).toNat = i := by omega
  rw [q3, q10, sn, sc, sx, tcc, tx]
  refine ⟨fun c5 => ⟨by omega, ?_⟩, fun c5 => ?_⟩
  · intro M29 e29
    have hB29 : BI M29 := by rw [e29]; exact BI.up hBP (rfl : zcd wR 5 = 55) rfl (by omega) (by omega) (by decide)
    have r29 : M29 0 10 = (c : Int) := by rw [e29, zup_n _ _ (by omega)]; exact q10
    rw [r29, sc, tcc]
    refine ⟨by omega, ?_⟩
    intro M32 e32
    have hB32 : BI M32 := by rw [e32]; exact BI.up hB29 (rfl : zcd wR 6 = 56) rfl (by omega) (by omega) (by decide)
    have r32 : M32 0 10 = (c : Int) := by rw [e32, zup_n _ _ (by omega)]; exact r29
    rw [r32, sc, tcc]
    refine ⟨by omega, ?_⟩
    intro M35 e35
    have hB35 : BI M35 := by rw [e35]; exact BI.up hB32 (rfl : zcd wR 7 = 57) rfl (by omega) (by omega) (by decide)
    have r35 : M35 0 10 = (c : Int) := by rw [e35, zup_n _ _ (by omega)]; exact r32
    rw [r35, sc, tcc]
    refine ⟨by omega, ?_⟩
    intro M38 e38
    have hB38 : BI M38 := by rw [e38]; exact BI.up hB35 (rfl : zcd wR 8 = 58) rfl (by omega) (by omega) (by decide)
    have r38 : M38 0 10 = (c : Int) := by rw [e38, zup_n _ _ (by omega)]; exact r35
    have r4 : M38 4 c = (n : Int) := by rw [e38, zup_n _ _ (by omega), e35, zup_n _ _ (by omega), e32, zup_n _ _ (by omega), e29, zup_n _ _ (by omega)]; exact p4
    intro M40 e40
    have t38 : (M38 0 10).toNat = c := by omega
    have n40 : M40 0 10 = (c : Int) + 1 := by rw [e40, zup_s, r38]
    have sz : sI (M40 0 10 - 1) = (c : Int) := by rw [n40, sIo (by omega) (by omega)]; omega
    have g40 : ∀ j k : Nat, ¬ (j = 0 ∧ k = 10 ∨ 5 ≤ j ∧ j ≤ 8 ∧ k = c) → M40 j k = P j k := fun j k h => by rw [e40, zup_n _ _ (by omega), e38, zup_n _ _ (by omega), e35, zup_n _ _ (by omega), e32, zup_n _ _ (by omega), e29, zup_n _ _ (by omega)]
    rw [sz]
    refine hQ _ _ ⟨by rw [e40]; exact BI.upR hB38 rfl (by omega) (by rw [t38, r4]; omega), fun j9 k9 h9 => by rw [g40 _ _ (by omega)]; exact FP j9 k9 (by omega), Or.inl ⟨gg, c, n, hc, hn, rfl, n40, fun j k hj hk => by rw [g40 _ _ (by omega)]; exact FP j k (by omega), fun k hk => by rw [g40 _ _ (by omega)]; exact FP 3 k (by omega), by rw [g40 _ _ (by omega)]; exact p4, ?_, ?_, ?_, ?_, fun k hk => by rw [g40 _ _ (by omega)]; exact hv k (by omega)⟩⟩
    · rw [e40, zup_n _ _ (by omega), e38, zup_n _ _ (by omega), e35, zup_n _ _ (by omega), e32, zup_n _ _ (by omega), e29, zup_s]
    · rw [e40, zup_n _ _ (by omega), e38, zup_n _ _ (by omega), e35, zup_n _ _ (by omega), e32, zup_s]
    · rw [e40, zup_n _ _ (by omega), e38, zup_n _ _ (by omega), e35, zup_s]
    · rw [e40, zup_n _ _ (by omega), e38, zup_s]
  · have s6 : sI (24 * (c : Int) + (i : Int)) = 24 * (c : Int) + (i : Int) := sIo (by omega) (by omega)
    have t6 : (24 * (c : Int) + (i : Int)).toNat = 24 * c + i := by omega
    rw [s6, t6]
    refine ⟨by omega, by omega, ?_⟩
    intro M44 e44
    have br := BN.r32 hBP.1 2 i
    refine hK _ _ ⟨by rw [e44]; exact BI.up hBP (rfl : zcd wR 3 = 53) rfl br.1 br.2 (by decide), fun j k h => by rw [e44, zup_n _ _ (by omega)]; exact FP j k h, by rw [e44, zup_n _ _ (by omega)]; exact p4, i + 1, by omega, by omega, fun k hk => ?_⟩ (by omega)
    rw [e44]
    by_cases c5 : k = i
    · rw [c5, zup_s]
      exact FP 2 i (by omega)
    · rw [zup_n _ _ (by omega)]
      exact hv k (by omega)
theorem ri_ring {MC MR M8 M9 : zM} {a0 a1 z z9 : Int} (h : iRi MC MR) (ha : iHa MC MR) (hb : 0 ≤ MC 30 1 ∧ MC 30 1 ≤ 24) (p : (cRg (MC 32 2) (MC 30 1) a0 a1 ∧ ∃ c n : Nat, MC 32 2 = (c : Int) ∧ c < 4 ∧ MC 30 1 = (n : Int) ∧ 1 ≤ n ∧ z = (c : Int) ∧ M8 32 2 = (c : Int) + 1 ∧ (∀ p q : Nat, ¬ (p = 32 ∧ q = 2 ∨ 41 + 4 * c ≤ p ∧ p ≤ 41 + 4 * c + 3) → M8 p q = MC p q) ∧ M8 (41 + 4 * c) 1 = a0 ∧ M8 (41 + 4 * c) 2 = a1 ∧ M8 (41 + 4 * c) 3 = 1 ∧ M8 (41 + 4 * c) 4 = 0 ∧ M8 (41 + 4 * c + 1) 1 = (n : Int) ∧ (∀ k : Nat, k < 24 → M8 (41 + 4 * c + 2) k = MC 31 k) ∧ (∀ a : Nat, a < n → M8 (41 + 4 * c + 3) a = orU 1 (M8 (41 + 4 * c + 2)) n a 24)) ∨ (¬ cRg (MC 32 2) (MC 30 1) a0 a1 ∧ z = -1 ∧ M8 = MC)) (q : (cRg (MR 0 10) (MR 0 3) a0 a1 ∧ ∃ c n : Nat, MR 0 10 = (c : Int) ∧ MR 0 3 = (n : Int) ∧ z9 = (c : Int) ∧ M9 0 10 = (c : Int) + 1 ∧ (∀ j k : Nat, 4 ≤ j ∧ j ≤ 8 → k ≠ c → M9 j k = MR j k) ∧ (∀ k : Nat, ¬ (24 * c ≤ k ∧ k < 24 * c + 24) → M9 3 k = MR 3 k) ∧ M9 4 c = (n : Int) ∧ M9 5 c = a0 ∧ M9 6 c = a1 ∧ M9 7 c = 1 ∧ M9 8 c = 0 ∧ (∀ k : Nat, k < n → M9 3 (24 * c + k) = MR 2 k)) ∨ (¬ cRg (MR 0 10) (MR 0 3) a0 a1 ∧ z9 = -1 ∧ ∀ j9 k9 : Nat, ¬ (j9 = 0 ∧ k9 = 35) → M9 j9 k9 = MR j9 k9)) : z = z9 ∧ iRi M8 M9 := by
  obtain ⟨g1, g2, g3⟩ := id h
  obtain ⟨k1, k2⟩ := ha
  rw [← g1, ← k1] at q
  rcases p with ⟨p1, c, n, hc, c4, hn, n1, d1, d2, d3, d4, d5, d6, d7, d8, d9, d10⟩ | ⟨p1, p2, p3⟩
  · rcases q with ⟨q1, c', n', hc', hn', e1, e2, e3, e4, e5, e6, e7, e8, e9, e10⟩ | ⟨q1, -⟩
    · have ec : c' = c := by omega
      have en : n' = n := by omega
      subst ec
      subst en
      refine ⟨by omega, by omega, by omega, fun r hr => ?_⟩
      by_cases cr : r = c'
      · rw [cr]
        have b1 := p1.2.1
        refine ⟨n', n1, by omega, d8, e5, by rw [d4, e6], by rw [d5, e7], by rw [e7]; omega, by rw [d6, e8], by rw [d7, e9], fun k hk => ?_, fun a ha => ?_⟩
        · rw [d9 k (by omega), e10 k hk]
          exact k2 k (by omega)
        · rw [d6]
          exact d10 a ha
      · exact ri_cg (g3 r (by omega)) (fun j hj => funext fun q => d3 j q (by omega)) (e3 4 r (by omega) cr) (e3 5 r (by omega) cr) (e3 6 r (by omega) cr) (e3 7 r (by omega) cr) (e3 8 r (by omega) cr) (fun k hk => e4 _ (by omega))
    · exact absurd p1 q1
  · rcases q with ⟨q1, -⟩ | ⟨q1, q2, q3⟩
    · exact absurd q1 p1
    · rw [p3]
      exact ⟨by omega, iRi_kept h (fun j _ => rfl) rfl (q3 0 10 (by omega)) (funext fun k => q3 3 k (by omega)) (funext fun k => q3 4 k (by omega)) (funext fun k => q3 5 k (by omega)) (funext fun k => q3 6 k (by omega)) (funext fun k => q3 7 k (by omega)) (funext fun k => q3 8 k (by omega))⟩
