/-! rings: head and cut, alike -/
def hdI (is h o : Int) : Int := if is = 0 then andI h (xorI (shlI 1 o) (-1)) else orI h (shlI 1 o)
theorem hdI_r (is h o : Int) : -2147483648 ≤ hdI is h o ∧ hdI is h o ≤ 2147483647 := by
  unfold hdI
  by_cases c : is = 0
  · rw [if_pos c]
    exact andI_R _ _
  · rw [if_neg c]
    exact orI_R _ _
def cHd (cnt : Int) (hs : Nat → Int) (a0 a1 a2 : Int) : Prop := (0 ≤ a0 ∧ a0 < cnt) ∧ (0 ≤ a1 ∧ a1 ≤ 23) ∧ hdI a2 (hs a0.toNat) a1 ≠ 0
set_option maxHeartbeats 1000000 in
theorem fC_head {M : zM} {a0 a1 a2 : Int} (hB : BN wC M) (hlen : ∀ r : Nat, (r : Int) < M 32 2 → 1 ≤ M (41 + 4 * r + 1) 1) (v0 : -2147483648 ≤ a0 ∧ a0 ≤ 2147483647) (v1 : -2147483648 ≤ a1 ∧ a1 ≤ 2147483647) (v2 : -2147483648 ≤ a2 ∧ a2 ≤ 2147483647) {Q : Int → zM → Prop} (hQ : ∀ (z : Int) (M1 : zM), BN wC M1 ∧ (∀ j9 : Nat, ¬ (41 ≤ j9 ∧ j9 ≤ 56) → M1 j9 = M j9) ∧ ((cHd (M 32 2) (fun r => M (41 + 4 * r) 3) a0 a1 a2 ∧ ∃ r n : Nat, a0 = (r : Int) ∧ r < 4 ∧ M (41 + 4 * r + 1) 1 = (n : Int) ∧ 1 ≤ n ∧ z = bcI (hdI a2 (M (41 + 4 * r) 3) a1) ∧ (∀ p q : Nat, ¬ (p = 41 + 4 * r ∧ q = 3 ∨ p = 41 + 4 * r + 3 ∧ q < n) → M1 p q = M p q) ∧ M1 (41 + 4 * r) 3 = hdI a2 (M (41 + 4 * r) 3) a1 ∧ (∀ a : Nat, a < n → M1 (41 + 4 * r + 3) a = orU (hdI a2 (M (41 + 4 * r) 3) a1) (M (41 + 4 * r + 2)) n a 24)) ∨ (¬ cHd (M 32 2) (fun r => M (41 + 4 * r) 3) a0 a1 a2 ∧ z = -1 ∧ M1 = M)) → Q z M1) : wC_head a0 a1 a2 M Q := by
  unfold wC_head
  have no : ¬ cHd (M 32 2) (fun r => M (41 + 4 * r) 3) a0 a1 a2 → Q (-1) M := fun h => hQ _ _ ⟨hB, fun _ _ => rfl, Or.inr ⟨h, rfl, rfl⟩⟩
  refine fC_find hB v0 (fun h => ⟨fun _ => no (fun x => h x.1), fun q h => nomatch h⟩) (fun r hr h1 h2 => ⟨(fun h => nomatch h), fun q hq => ?_⟩)
  obtain rfl := Option.some.inj hq
  obtain ⟨c1, c2, c3, c4, c5, -⟩ := rg_cd r h2
  have hra : a0.toNat = r := by omega
  have hl := hlen r h1
  have bl : 0 ≤ M (41 + 4 * r + 1) 1 ∧ M (41 + 4 * r + 1) 1 ≤ 24 := BN.at hB c3 rfl
  refine ⟨⟨c1, c2⟩, ?_⟩
  refine sC_within hB v1 (by omega) (by omega) (fun z p => ?_)
  obtain ⟨-, p, -⟩ := p
  refine ⟨fun c => ?_, fun c => no (fun x => by have := x.2.1; omega)⟩
  unfold wC_Ring_putHead
  have s2 : sI a2 = a2 := sIo v2.1 v2.2
  rw [s2]
  refine pJ1_of (fun x => x = hdI a2 (M (41 + 4 * r) 3) a1) (fun x hx => ?_) ⟨fun d => by unfold hdI; rw [if_pos d], fun d => by unfold hdI; rw [if_neg d]⟩
  have rx := hdI_r a2 (M (41 + 4 * r) 3) a1
  rw [← hx] at rx
  have sx : sI x = x := sIo rx.1 rx.2
  rw [sx]
  refine ⟨fun d => fun M2 e2 => ?_, fun d => no (fun x9 => x9.2.2 ?_)⟩
  · have b2 : BN wC M2 := by rw [e2]; exact BN.up hB c2 rfl rx.1 rx.2
    have l2 : M2 (41 + 4 * r + 1) 1 = ((M (41 + 4 * r + 1) 1).toNat : Int) := by rw [e2, zup_n _ _ (by omega)]; omega
    refine fC_listen b2 h2 (by omega) l2 (fun M3 h3 => ?_)
    obtain ⟨b3, f3, g3⟩ := h3
    have e3 : M3 (41 + 4 * r) 3 = x := by rw [f3 _ _ (by omega), e2, zup_s]
    have f4 : ∀ p q : Nat, ¬ (p = 41 + 4 * r ∧ q = 3 ∨ p = 41 + 4 * r + 3 ∧ q < (M (41 + 4 * r + 1) 1).toNat) → M3 p q = M p q := fun p q h => by rw [f3 _ _ (by omega), e2, zup_n _ _ (by omega)]
    refine fC_bitCount ?_
    rw [e3, hx]
    refine hQ _ _ ⟨b3, fun j9 h9 => funext fun q => f4 j9 q (by omega), Or.inl ⟨⟨by omega, by omega, by rw [hra, ← hx]; exact d⟩, r, (M (41 + 4 * r + 1) 1).toNat, hr, h2, by omega, by omega, rfl, f4, e3.trans hx, fun a ha => ?_⟩⟩
    rw [g3 a ha, e2, zup_s, zup_row _ _ (by omega), hx]
  · rw [hra, ← hx]
    exact d
set_option maxHeartbeats 1000000 in
theorem fR_head {M : zM} {a0 a1 a2 : Int} (hB : BI M) (v0 : -2147483648 ≤ a0 ∧ a0 ≤ 2147483647) (v1 : -2147483648 ≤ a1 ∧ a1 ≤ 2147483647) (v2 : -2147483648 ≤ a2 ∧ a2 ≤ 2147483647) {Q : Int → zM → Prop} (hQ : ∀ (z : Int) (M1 : zM), BI M1 ∧ (∀ j9 k9 : Nat, ¬ (j9 = 0 ∧ k9 = 35 ∨ j9 = 7) → M1 j9 k9 = M j9 k9) ∧ ((cHd (M 0 10) (M 7) a0 a1 a2 ∧ z = bcI (hdI a2 (M 7 a0.toNat) a1) ∧ ∀ k : Nat, M1 7 k = if k = a0.toNat then hdI a2 (M 7 a0.toNat) a1 else M 7 k) ∨ (¬ cHd (M 0 10) (M 7) a0 a1 a2 ∧ z = -1 ∧ M1 7 = M 7)) → Q z M1) : wR_head a0 a1 a2 M Q := by
  unfold wR_head
  intro M1 e1
  have hB1 : BI M1 := by rw [e1]; exact BI.up0 hB rfl (by omega) (by omega) (by decide)
  have hF1 : ∀ j9 k9 : Nat, ¬ (j9 = 0 ∧ k9 = 35 ∨ j9 = 7) → M1 j9 k9 = M j9 k9 := fun j9 k9 h9 => by rw [e1]; exact zup_n _ _ (by omega)
  have r10 : M1 0 10 = M 0 10 := by rw [e1]; exact zup_n _ _ (by omega)
  have r7 : M1 7 = M 7 := by rw [e1]; exact zup_row _ _ (by omega)
  have no : ¬ cHd (M 0 10) (M 7) a0 a1 a2 → Q (-1) M1 := fun h => hQ _ _ ⟨hB1, hF1, Or.inr ⟨h, rfl, r7⟩⟩
  refine fR_isRing hB1 v0 (fun h => ⟨fun _ => no (fun x => h (by rw [r10]; exact x.1)), fun c => absurd rfl c⟩) (fun r hr h1 h2 => ⟨fun c => absurd c (by decide), fun _ => ?_⟩)
  have s0 : sI a0 = a0 := sIo v0.1 v0.2
  have s2 : sI a2 = a2 := sIo v2.1 v2.2
  have hra : a0.toNat = r := by omega
  rw [s0, s2, hra, r7]
  refine sR_in hB1 v1 (by omega) (by omega) (fun z p => ?_)
  obtain ⟨-, p, -⟩ := p
  refine ⟨fun c => ?_, fun c => no (fun x => by have := x.2.1; omega)⟩
  refine pJ1_of (fun x => x = hdI a2 (M 7 r) a1) (fun x hx => ?_) ⟨fun d => ⟨by omega, by unfold hdI; rw [if_pos d]⟩, fun d => ⟨by omega, by unfold hdI; rw [if_neg d]⟩⟩
  have rx := hdI_r a2 (M 7 r) a1
  rw [← hx] at rx
  have sx : sI x = x := sIo rx.1 rx.2
  rw [sx]
  refine ⟨fun d => ⟨by omega, fun M2 e2 => ?_⟩, fun d => no (fun x9 => x9.2.2 ?_)⟩
  · refine fR_bitCount ?_
    rw [hx]
    refine hQ _ _ ⟨by rw [e2]; exact BI.up hB1 (rfl : zcd wR 7 = 57) rfl rx.1 rx.2 (by decide), fun j9 k9 h9 => by rw [e2, zup_n _ _ (by omega)]; exact hF1 j9 k9 h9, Or.inl ⟨⟨by omega, by omega, by rw [hra, ← hx]; exact d⟩, by rw [hra], fun k => ?_⟩⟩
    rw [e2, hra]
    by_cases c5 : k = r
    · rw [c5, zup_s, if_pos rfl, hx]
    · rw [zup_n _ _ (by omega), if_neg c5, r7]
  · rw [hra, ← hx]
    exact d
theorem ri_len {MC MR : zM} (h : iRi MC MR) : ∀ r : Nat, (r : Int) < MC 32 2 → 1 ≤ MC (41 + 4 * r + 1) 1 := fun r hr => by
  obtain ⟨n, a1, a2, a3, -⟩ := h.2.2 r hr
  omega
theorem ri_head {MC MR M8 M9 : zM} {a0 a1 a2 z z9 : Int} (h : iRi MC MR) (f8 : ∀ j9 : Nat, ¬ (41 ≤ j9 ∧ j9 ≤ 56) → M8 j9 = MC j9) (p : (cHd (MC 32 2) (fun r => MC (41 + 4 * r) 3) a0 a1 a2 ∧ ∃ r n : Nat, a0 = (r : Int) ∧ r < 4 ∧ MC (41 + 4 * r + 1) 1 = (n : Int) ∧ 1 ≤ n ∧ z = bcI (hdI a2 (MC (41 + 4 * r) 3) a1) ∧ (∀ p q : Nat, ¬ (p = 41 + 4 * r ∧ q = 3 ∨ p = 41 + 4 * r + 3 ∧ q < n) → M8 p q = MC p q) ∧ M8 (41 + 4 * r) 3 = hdI a2 (MC (41 + 4 * r) 3) a1 ∧ (∀ a : Nat, a < n → M8 (41 + 4 * r + 3) a = orU (hdI a2 (MC (41 + 4 * r) 3) a1) (MC (41 + 4 * r + 2)) n a 24)) ∨ (¬ cHd (MC 32 2) (fun r => MC (41 + 4 * r) 3) a0 a1 a2 ∧ z = -1 ∧ M8 = MC)) (f9 : ∀ j9 k9 : Nat, ¬ (j9 = 0 ∧ k9 = 35 ∨ j9 = 7) → M9 j9 k9 = MR j9 k9) (q : (cHd (MR 0 10) (MR 7) a0 a1 a2 ∧ z9 = bcI (hdI a2 (MR 7 a0.toNat) a1) ∧ ∀ k : Nat, M9 7 k = if k = a0.toNat then hdI a2 (MR 7 a0.toNat) a1 else MR 7 k) ∨ (¬ cHd (MR 0 10) (MR 7) a0 a1 a2 ∧ z9 = -1 ∧ M9 7 = MR 7)) : z = z9 ∧ iRi M8 M9 := by
  have g1 := h.1
  have ec : cHd (MC 32 2) (fun r => MC (41 + 4 * r) 3) a0 a1 a2 ↔ cHd (MR 0 10) (MR 7) a0 a1 a2 := by
    unfold cHd
    dsimp only
    rw [g1]
    constructor
    · rintro ⟨x, y⟩
      obtain ⟨n, -, -, -, -, -, -, -, b8, -⟩ := h.2.2 a0.toNat (by omega)
      rw [b8] at y
      exact ⟨x, y⟩
    · rintro ⟨x, y⟩
      obtain ⟨n, -, -, -, -, -, -, -, b8, -⟩ := h.2.2 a0.toNat (by omega)
      rw [b8]
      exact ⟨x, y⟩
  rw [← ec] at q
  rcases p with ⟨p1, r, m, hr, hr4, hm, hm1, d1, d2, d3, d4⟩ | ⟨p1, p2, p3⟩
  · rcases q with ⟨q1, e1, e2⟩ | ⟨q1, -⟩
    · have ha := p1.1
      have hra : a0.toNat = r := by omega
      rw [hra] at e1 e2
      obtain ⟨n, a1', a2', a3, a4, a5, a6, a7, a8, a9, a10, a11⟩ := h.2.2 r (by omega)
      have hmn : m = n := by omega
      subst hmn
      refine ⟨by rw [d1, e1, a8], iRi_one (r0 := r) h (fun j hj => funext fun q => d2 j q (by omega)) (d2 32 2 (by omega)) (f9 0 10 (by omega)) (fun j k hj hk => ?_) (fun q _ => f9 3 q (by omega)) ?_⟩
      · by_cases c : j = 7
        · rw [c, e2, if_neg hk]
        · exact f9 j k (by omega)
      · refine ⟨m, a1', a2', by rw [d2 _ _ (by omega)]; exact a3, (f9 4 _ (by omega)).trans a4, by rw [d2 _ _ (by omega), f9 5 _ (by omega)]; exact a5, by rw [d2 _ _ (by omega), f9 6 _ (by omega)]; exact a6, by rw [f9 6 _ (by omega)]; exact a7, by rw [d3, e2, if_pos rfl, a8], by rw [d2 _ _ (by omega), f9 8 _ (by omega)]; exact a9, fun k hk => by rw [d2 _ _ (by omega), f9 3 _ (by omega)]; exact a10 k hk, fun a ha => ?_⟩
        rw [d3, d4 a ha]
        exact orU_cg a1' (fun k hk => (d2 _ k (by omega)).symm) 24
    · exact absurd p1 q1
  · rcases q with ⟨q1, -⟩ | ⟨q1, q2, q3⟩
    · exact absurd q1 p1
    · rw [p3]
      exact ⟨by omega, iRi_kept h (fun j _ => rfl) rfl (f9 0 10 (by omega)) (funext fun k => f9 3 k (by omega)) (funext fun k => f9 4 k (by omega)) (funext fun k => f9 5 k (by omega)) (funext fun k => f9 6 k (by omega)) q3 (funext fun k => f9 8 k (by omega))⟩
/-- a ring cut, the class's -/
theorem fC_cutBy {M : zM} {r n c : Nat} {a0 : Int} (hB : BN wC M) (hr : r < 4) (hn : M (41 + 4 * r + 1) 1 = (n : Int)) (ha : a0 = (c : Int)) (hc : c < n) {Q : zM → Prop} (hQ : ∀ M1 : zM, BN wC M1 ∧ (∀ p q : Nat, ¬ (p = 41 + 4 * r ∧ q = 2 ∨ p = 41 + 4 * r + 1 ∧ q = 1 ∨ p = 41 + 4 * r + 3 ∧ q < n - c) → M1 p q = M p q) ∧ M1 (41 + 4 * r + 1) 1 = ((n - c : Nat) : Int) ∧ M1 (41 + 4 * r) 2 = M (41 + 4 * r) 2 % ((n - c : Nat) : Int) ∧ (∀ a : Nat, a < n - c → M1 (41 + 4 * r + 3) a = orU (M (41 + 4 * r) 3) (M (41 + 4 * r + 2)) (n - c) a 24) → Q M1) : wC_Ring_cutBy (41 + 4 * r) a0 M Q := by
  unfold wC_Ring_cutBy
  obtain ⟨c1, c2, c3, c4, c5, -⟩ := rg_cd r hr
  have bl : 0 ≤ M (41 + 4 * r + 1) 1 ∧ M (41 + 4 * r + 1) 1 ≤ 24 := BN.at hB c3 rfl
  intro M7 e7
  have b7 : BN wC M7 := by rw [e7]; exact BN.up hB c3 rfl (by omega) (by omega)
  have l7 : M7 (41 + 4 * r + 1) 1 = ((n - c : Nat) : Int) := by rw [e7, zup_s, hn, ha]; omega
  have t7 : M7 (41 + 4 * r) 2 = M (41 + 4 * r) 2 := by rw [e7, zup_n _ _ (by omega)]
  have bs : 0 ≤ M (41 + 4 * r) 2 ∧ M (41 + 4 * r) 2 ≤ 23 := BN.at hB c2 rfl
  have ss : sI (M (41 + 4 * r) 2) = M (41 + 4 * r) 2 := sIo (by omega) (by omega)
  rw [l7, t7, ss]
  refine fC_by (by omega) (by omega) ?_
  intro M13 e13
  have em := emB (M (41 + 4 * r) 2) ((n - c : Nat) : Int) (by omega)
  have b13 : BN wC M13 := by rw [e13]; exact BN.up b7 c2 rfl (by omega) (by omega)
  have l13 : M13 (41 + 4 * r + 1) 1 = ((n - c : Nat) : Int) := by rw [e13, zup_n _ _ (by omega)]; exact l7
  refine fC_listen b13 hr (by omega) l13 (fun M3 h3 => ?_)
  obtain ⟨b3, f3, g3⟩ := h3
  refine hQ _ ⟨b3, fun p q h => by rw [f3 _ _ (by omega), e13, zup_n _ _ (by omega), e7, zup_n _ _ (by omega)], by rw [f3 _ _ (by omega)]; exact l13, by rw [f3 _ _ (by omega), e13, zup_s], fun a ha => ?_⟩
  rw [g3 a ha, e13, zup_n _ _ (by omega), zup_row _ _ (by omega), e7, zup_n _ _ (by omega), zup_row _ _ (by omega)]
def cCu (cnt : Int) (len : Nat → Int) (a0 a1 : Int) : Prop := (0 ≤ a0 ∧ a0 < cnt) ∧ (0 ≤ a1 ∧ a1 < len a0.toNat)
theorem fC_cut {M : zM} {a0 a1 : Int} (hB : BN wC M) (v0 : -2147483648 ≤ a0 ∧ a0 ≤ 2147483647) (v1 : -2147483648 ≤ a1 ∧ a1 ≤ 2147483647) {Q : Int → zM → Prop} (hQ : ∀ (z : Int) (M1 : zM), BN wC M1 ∧ (∀ j9 : Nat, ¬ (41 ≤ j9 ∧ j9 ≤ 56) → M1 j9 = M j9) ∧ ((cCu (M 32 2) (fun r => M (41 + 4 * r + 1) 1) a0 a1 ∧ ∃ r n c : Nat, a0 = (r : Int) ∧ r < 4 ∧ M (41 + 4 * r + 1) 1 = (n : Int) ∧ a1 = (c : Int) ∧ c < n ∧ z = ((n - c : Nat) : Int) ∧ (∀ p q : Nat, ¬ (p = 41 + 4 * r ∧ q = 2 ∨ p = 41 + 4 * r + 1 ∧ q = 1 ∨ p = 41 + 4 * r + 3 ∧ q < n - c) → M1 p q = M p q) ∧ M1 (41 + 4 * r + 1) 1 = ((n - c : Nat) : Int) ∧ M1 (41 + 4 * r) 2 = M (41 + 4 * r) 2 % ((n - c : Nat) : Int) ∧ (∀ a : Nat, a < n - c → M1 (41 + 4 * r + 3) a = orU (M (41 + 4 * r) 3) (M (41 + 4 * r + 2)) (n - c) a 24)) ∨ (¬ cCu (M 32 2) (fun r => M (41 + 4 * r + 1) 1) a0 a1 ∧ z = -1 ∧ M1 = M)) → Q z M1) : wC_cut a0 a1 M Q := by
  unfold wC_cut
  have no : ¬ cCu (M 32 2) (fun r => M (41 + 4 * r + 1) 1) a0 a1 → Q (-1) M := fun h => hQ _ _ ⟨hB, fun _ _ => rfl, Or.inr ⟨h, rfl, rfl⟩⟩
  refine fC_find hB v0 (fun h => ⟨fun _ => no (fun x => h x.1), fun q h => nomatch h⟩) (fun r hr h1 h2 => ⟨(fun h => nomatch h), fun q hq => ?_⟩)
  obtain rfl := Option.some.inj hq
  obtain ⟨c1, c2, c3, c4, c5, -⟩ := rg_cd r h2
  have hra : a0.toNat = r := by omega
  have bl : 0 ≤ M (41 + 4 * r + 1) 1 ∧ M (41 + 4 * r + 1) 1 ≤ 24 := BN.at hB c3 rfl
  refine ⟨⟨c1, c2⟩, ?_⟩
  refine sC_Strip_has hB (by have e1 : nC = 134 := rfl; omega) c3 v1 (fun z p => ?_)
  obtain ⟨-, p, -⟩ := p
  refine ⟨fun d => ?_, fun d => no (fun x => ?_)⟩
  · refine fC_cutBy (n := (M (41 + 4 * r + 1) 1).toNat) (c := a1.toNat) hB h2 (by omega) (by omega) (by omega) (fun M1 h => ?_)
    obtain ⟨b1, f1, l1, s1, g1⟩ := h
    have sl : sI (M1 (41 + 4 * r + 1) 1) = (((M (41 + 4 * r + 1) 1).toNat - a1.toNat : Nat) : Int) := by rw [l1]; exact sIo (by omega) (by omega)
    rw [sl]
    exact hQ _ _ ⟨b1, fun j9 h9 => funext fun q => f1 j9 q (by omega), Or.inl ⟨⟨by omega, by omega, by rw [hra]; show a1 < M (41 + 4 * r + 1) 1; omega⟩, r, (M (41 + 4 * r + 1) 1).toNat, a1.toNat, hr, h2, by omega, by omega, by omega, rfl, f1, l1, s1, g1⟩⟩
  · have y := x.2
    rw [hra] at y
    have y : 0 ≤ a1 ∧ a1 < M (41 + 4 * r + 1) 1 := y
    omega
set_option maxHeartbeats 1000000 in
theorem fR_cut {M : zM} {a0 a1 : Int} (hB : BI M) (v0 : -2147483648 ≤ a0 ∧ a0 ≤ 2147483647) (v1 : -2147483648 ≤ a1 ∧ a1 ≤ 2147483647) {Q : Int → zM → Prop} (hQ : ∀ (z : Int) (M1 : zM), BI M1 ∧ (∀ j9 k9 : Nat, ¬ (j9 = 0 ∧ k9 = 35 ∨ j9 = 4 ∨ j9 = 6) → M1 j9 k9 = M j9 k9) ∧ ((cCu (M 0 10) (M 4) a0 a1 ∧ z = M 4 a0.toNat - a1 ∧ (∀ k : Nat, M1 4 k = if k = a0.toNat then M 4 a0.toNat - a1 else M 4 k) ∧ (∀ k : Nat, M1 6 k = if k = a0.toNat then M 6 a0.toNat % (M 4 a0.toNat - a1) else M 6 k)) ∨ (¬ cCu (M 0 10) (M 4) a0 a1 ∧ z = -1 ∧ M1 4 = M 4 ∧ M1 6 = M 6)) → Q z M1) : wR_cut a0 a1 M Q := by
  unfold wR_cut
  intro M1 e1
  have hB1 : BI M1 := by rw [e1]; exact BI.up0 hB rfl (by omega) (by omega) (by decide)
  have hF1 : ∀ j9 k9 : Nat, ¬ (j9 = 0 ∧ k9 = 35 ∨ j9 = 4 ∨ j9 = 6) → M1 j9 k9 = M j9 k9 := fun j9 k9 h9 => by rw [e1]; exact zup_n _ _ (by omega)
  have r10 : M1 0 10 = M 0 10 := by rw [e1]; exact zup_n _ _ (by omega)
  have r4 : M1 4 = M 4 := by rw [e1]; exact zup_row _ _ (by omega)
  have r6 : M1 6 = M 6 := by rw [e1]; exact zup_row _ _ (by omega)
  have no : ¬ cCu (M 0 10) (M 4) a0 a1 → Q (-1) M1 := fun h => hQ _ _ ⟨hB1, hF1, Or.inr ⟨h, rfl, r4, r6⟩⟩
  refine fR_isRing hB1 v0 (fun h => ⟨fun _ => no (fun x => h (by rw [r10]; exact x.1)), fun c => absurd rfl c⟩) (fun r hr h1 h2 => ⟨fun c => absurd c (by decide), fun _ => ?_⟩)
  have s0 : sI a0 = a0 := sIo v0.1 v0.2
  have hra : a0.toNat = r := by omega
  have bl : 0 ≤ M 4 r ∧ M 4 r ≤ 24 := BN.at hB.1 (rfl : zcd wR 4 = 54) rfl
  have bs : 0 ≤ M 6 r ∧ M 6 r ≤ 23 := BN.at hB.1 (rfl : zcd wR 6 = 56) rfl
  rw [s0, hra, r4]
  refine ⟨by omega, ?_⟩
  refine sR_in hB1 v1 (by omega) (by omega) (fun z p => ?_)
  obtain ⟨-, p, -⟩ := p
  refine ⟨fun c => ?_, fun c => no (fun x => by have y := x.2; rw [hra] at y; omega)⟩
  refine ⟨by omega, by omega, fun M2 e2 => ?_⟩
  have l2 : M2 4 r = M 4 r - a1 := by rw [e2, zup_s]
  have t2 : M2 6 r = M 6 r := by rw [e2, zup_n _ _ (by omega), r6]
  have b2 : BI M2 := by rw [e2]; exact BI.up4 hB1 (by omega) (by omega)
  have s4 : sI (M 4 r - a1) = M 4 r - a1 := sIo (by omega) (by omega)
  have s6 : sI (M 6 r) = M 6 r := sIo (by omega) (by omega)
  rw [l2, t2, s4, s6, Int.tmod_eq_emod_of_nonneg bs.1]
  refine ⟨by omega, by omega, by omega, by omega, fun M3 e3 => ?_⟩
  have em := emB (M 6 r) (M 4 r - a1) (by omega)
  have l3 : M3 4 r = M 4 r - a1 := by rw [e3, zup_n _ _ (by omega)]; exact l2
  rw [l3, s4]
  refine ⟨by omega, ?_⟩
  refine hQ _ _ ⟨by rw [e3]; exact BI.up b2 (rfl : zcd wR 6 = 56) rfl (by omega) (by omega) (by decide), fun j9 k9 h9 => by rw [e3, zup_n _ _ (by omega), e2, zup_n _ _ (by omega)]; exact hF1 j9 k9 h9, Or.inl ⟨⟨by omega, by rw [hra]; omega⟩, by rw [hra], fun k => ?_, fun k => ?_⟩⟩
  · rw [e3, zup_n _ _ (by omega), e2, hra]
    by_cases c5 : k = r
    · rw [c5, zup_s, if_pos rfl]
    · rw [zup_n _ _ (by omega), if_neg c5, r4]
  · rw [e3, hra]
    by_cases c5 : k = r
    · rw [c5, zup_s, if_pos rfl]
    · rw [zup_n _ _ (by omega), if_neg c5, e2, zup_n _ _ (by omega), r6]
theorem ri_cut {MC MR M8 M9 : zM} {a0 a1 z z9 : Int} (h : iRi MC MR) (p : (cCu (MC 32 2) (fun r => MC (41 + 4 * r + 1) 1) a0 a1 ∧ ∃ r n c : Nat, a0 = (r : Int) ∧ r < 4 ∧ MC (41 + 4 * r + 1) 1 = (n : Int) ∧ a1 = (c : Int) ∧ c < n ∧ z = ((n - c : Nat) : Int) ∧ (∀ p q : Nat, ¬ (p = 41 + 4 * r ∧ q = 2 ∨ p = 41 + 4 * r + 1 ∧ q = 1 ∨ p = 41 + 4 * r + 3 ∧ q < n - c) → M8 p q = MC p q) ∧ M8 (41 + 4 * r + 1) 1 = ((n - c : Nat) : Int) ∧ M8 (41 + 4 * r) 2 = MC (41 + 4 * r) 2 % ((n - c : Nat) : Int) ∧ (∀ a : Nat, a < n - c → M8 (41 + 4 * r + 3) a = orU (MC (41 + 4 * r) 3) (MC (41 + 4 * r + 2)) (n - c) a 24)) ∨ (¬ cCu (MC 32 2) (fun r => MC (41 + 4 * r + 1) 1) a0 a1 ∧ z = -1 ∧ M8 = MC)) (f9 : ∀ j9 k9 : Nat, ¬ (j9 = 0 ∧ k9 = 35 ∨ j9 = 4 ∨ j9 = 6) → M9 j9 k9 = MR j9 k9) (q : (cCu (MR 0 10) (MR 4) a0 a1 ∧ z9 = MR 4 a0.toNat - a1 ∧ (∀ k : Nat, M9 4 k = if k = a0.toNat then MR 4 a0.toNat - a1 else MR 4 k) ∧ (∀ k : Nat, M9 6 k = if k = a0.toNat then MR 6 a0.toNat % (MR 4 a0.toNat - a1) else MR 6 k)) ∨ (¬ cCu (MR 0 10) (MR 4) a0 a1 ∧ z9 = -1 ∧ M9 4 = MR 4 ∧ M9 6 = MR 6)) : z = z9 ∧ iRi M8 M9 := by
  have g1 := h.1
  have ec : cCu (MC 32 2) (fun r => MC (41 + 4 * r + 1) 1) a0 a1 ↔ cCu (MR 0 10) (MR 4) a0 a1 := by
    unfold cCu
    dsimp only
    rw [g1]
    constructor
    · rintro ⟨x, y⟩
      obtain ⟨n, -, -, b3, b4, -⟩ := h.2.2 a0.toNat (by omega)
      rw [b3] at y
      rw [b4]
      exact ⟨x, y⟩
    · rintro ⟨x, y⟩
      obtain ⟨n, -, -, b3, b4, -⟩ := h.2.2 a0.toNat (by omega)
      rw [b4] at y
      rw [b3]
      exact ⟨x, y⟩
  rw [← ec] at q
  rcases p with ⟨p1, r, m, c, hr, hr4, hm, hc, hcm, d1, d2, d3, d4, d5⟩ | ⟨p1, p2, p3⟩
  · rcases q with ⟨q1, e1, e2, e3⟩ | ⟨q1, -⟩
    · have ha := p1.1
      have hra : a0.toNat = r := by omega
      rw [hra] at e1 e2 e3
      obtain ⟨n, a1', a2', a3, a4, a5, a6, a7, a8, a9, a10, a11⟩ := h.2.2 r (by omega)
      have hmn : m = n := by omega
      subst hmn
      have el : MR 4 r - a1 = ((m - c : Nat) : Int) := by omega
      rw [el] at e1 e2 e3
      have em := emB (MR 6 r) ((m - c : Nat) : Int) (by omega)
      refine ⟨by rw [d1, e1], iRi_one (r0 := r) h (fun j hj => funext fun q => d2 j q (by omega)) (d2 32 2 (by omega)) (f9 0 10 (by omega)) (fun j k hj hk => ?_) (fun q _ => f9 3 q (by omega)) ?_⟩
      · by_cases c : j = 4
        · rw [c, e2, if_neg hk]
        · by_cases c2 : j = 6
          · rw [c2, e3, if_neg hk]
          · exact f9 j k (by omega)
      · refine ⟨m - c, by omega, by omega, d3, by rw [e2, if_pos rfl], by rw [d2 _ _ (by omega), f9 5 _ (by omega)]; exact a5, by rw [d4, e3, if_pos rfl, a6], by rw [e3, if_pos rfl]; exact em, by rw [d2 _ _ (by omega), f9 7 _ (by omega)]; exact a8, by rw [d2 _ _ (by omega), f9 8 _ (by omega)]; exact a9, fun k hk => by rw [d2 _ _ (by omega), f9 3 _ (by omega)]; exact a10 k (by omega), fun a ha => ?_⟩
        rw [d2 (41 + 4 * r) 3 (by omega), d5 a ha]
        exact orU_cg (by omega) (fun k hk => (d2 _ k (by omega)).symm) 24
    · exact absurd p1 q1
  · rcases q with ⟨q1, -⟩ | ⟨q1, q2, q3, q4⟩
    · exact absurd q1 p1
    · rw [p3]
      exact ⟨by omega, iRi_kept h (fun j _ => rfl) rfl (f9 0 10 (by omega)) (funext fun k => f9 3 k (by omega)) q3 (funext fun k => f9 5 k (by omega)) q4 (funext fun k => f9 7 k (by omega)) (funext fun k => f9 8 k (by omega))⟩
