/-! rings: wish and set, alike -/
theorem fC_find {M : zM} {a0 : Int} (hB : BN wC M) (v0 : -2147483648 ≤ a0 ∧ a0 ≤ 2147483647) {Q : Option Nat → Prop} (hn : ¬ (0 ≤ a0 ∧ a0 < M 32 2) → Q none) (hs : ∀ r : Nat, a0 = (r : Int) → (r : Int) < M 32 2 → r < 4 → Q (some (41 + 4 * r))) : wC_Studio_find a0 M Q := by
  refine sC_Studio_find hB v0 (fun h => hn (fun h2 => by omega)) (fun q hq => ?_)
  obtain ⟨-, h1, h2, h3, h4⟩ := hq
  rw [h1]
  exact hs a0.toNat (by omega) (by omega) (by omega)
theorem fR_isRing {M : zM} {a0 : Int} (hB : BI M) (v0 : -2147483648 ≤ a0 ∧ a0 ≤ 2147483647) {Q : Int → Prop} (hn : ¬ (0 ≤ a0 ∧ a0 < M 0 10) → Q 0) (hs : ∀ r : Nat, a0 = (r : Int) → (r : Int) < M 0 10 → r < 4 → Q 1) : wR_isRing a0 M Q := by
  refine sR_isRing hB v0 (fun z p => ?_)
  obtain ⟨-, p, -⟩ := p
  rcases p with ⟨rfl, h1, h2, h3⟩ | ⟨rfl, h⟩
  · exact hs a0.toNat (by omega) (by omega) (by omega)
  · exact hn h
def cWi (cnt a0 a1 : Int) : Prop := (0 ≤ a0 ∧ a0 < cnt) ∧ andI a1 (-1023) = 0
theorem fC_wish {M : zM} {a0 a1 : Int} (hB : BN wC M) (v0 : -2147483648 ≤ a0 ∧ a0 ≤ 2147483647) (v1 : -2147483648 ≤ a1 ∧ a1 ≤ 2147483647) {Q : Int → zM → Prop} (hQ : ∀ (z : Int) (M1 : zM), BN wC M1 ∧ (∀ j9 : Nat, ¬ (41 ≤ j9 ∧ j9 ≤ 56) → M1 j9 = M j9) ∧ ((cWi (M 32 2) a0 a1 ∧ z = 1 ∧ a0 < 4 ∧ M1 = zup M (41 + 4 * a0.toNat) 4 a1) ∨ (¬ cWi (M 32 2) a0 a1 ∧ z = 0 ∧ M1 = M)) → Q z M1) : wC_wish a0 a1 M Q := by
  unfold wC_wish
  have no : ¬ cWi (M 32 2) a0 a1 → Q 0 M := fun h => hQ _ _ ⟨hB, fun _ _ => rfl, Or.inr ⟨h, rfl, rfl⟩⟩
  refine fC_find hB v0 (fun h => ⟨fun _ => no (fun x => h x.1), fun q h => nomatch h⟩) (fun r hr h1 h2 => ⟨(fun h => nomatch h), fun q hq => ?_⟩)
  obtain rfl := Option.some.inj hq
  obtain ⟨c1, c2, -⟩ := rg_cd r h2
  refine ⟨⟨c1, c2⟩, ?_⟩
  refine sC_isSounds hB v1 (fun z p => ?_)
  obtain ⟨-, p, -⟩ := p
  refine ⟨fun c => fun M1 e1 => ?_, fun c => no (fun x => by have := x.2; omega)⟩
  refine hQ _ _ ⟨by rw [e1]; exact BN.up hB c2 rfl v1.1 v1.2, fun j9 h9 => by rw [e1, zup_row _ _ (by omega)], Or.inl ⟨⟨by omega, by omega⟩, rfl, by omega, by rw [e1, hr]; rfl⟩⟩
theorem fR_wish {M : zM} {a0 a1 : Int} (hB : BI M) (v0 : -2147483648 ≤ a0 ∧ a0 ≤ 2147483647) (v1 : -2147483648 ≤ a1 ∧ a1 ≤ 2147483647) {Q : Int → zM → Prop} (hQ : ∀ (z : Int) (M1 : zM), BI M1 ∧ (∀ j9 k9 : Nat, ¬ (j9 = 0 ∧ k9 = 35 ∨ j9 = 8) → M1 j9 k9 = M j9 k9) ∧ ((cWi (M 0 10) a0 a1 ∧ z = 1 ∧ ∀ k : Nat, M1 8 k = if k = a0.toNat then a1 else M 8 k) ∨ (¬ cWi (M 0 10) a0 a1 ∧ z = 0 ∧ M1 8 = M 8)) → Q z M1) : wR_wish a0 a1 M Q := by
  unfold wR_wish
  intro M1 e1
  have hB1 : BI M1 := by rw [e1]; exact BI.up0 hB rfl (by omega) (by omega) (by decide)
  have hF1 : ∀ j9 k9 : Nat, ¬ (j9 = 0 ∧ k9 = 35 ∨ j9 = 8) → M1 j9 k9 = M j9 k9 := fun j9 k9 h9 => by rw [e1]; exact zup_n _ _ (by omega)
  have r10 : M1 0 10 = M 0 10 := by rw [e1]; exact zup_n _ _ (by omega)
  have r8 : M1 8 = M 8 := by rw [e1]; exact zup_row _ _ (by omega)
  have no : ¬ cWi (M 0 10) a0 a1 → Q 0 M1 := fun h => hQ _ _ ⟨hB1, hF1, Or.inr ⟨h, rfl, r8⟩⟩
  refine fR_isRing hB1 v0 (fun h => ⟨fun _ => no (fun x => h (by rw [r10]; exact x.1)), fun c => absurd rfl c⟩) (fun r hr h1 h2 => ⟨fun c => absurd c (by decide), fun _ => ?_⟩)
  refine sR_areSounds hB1 v1 (fun z p => ?_)
  obtain ⟨-, p, -⟩ := p
  have s0 : sI a0 = a0 := sIo v0.1 v0.2
  rw [s0]
  refine ⟨fun c => ⟨by omega, fun M2 e2 => ?_⟩, fun c => no (fun x => by have := x.2; omega)⟩
  refine hQ _ _ ⟨by rw [e2]; exact BI.up hB1 (rfl : zcd wR 8 = 58) rfl v1.1 v1.2 (by decide), fun j9 k9 h9 => by rw [e2, zup_n _ _ (by omega)]; exact hF1 j9 k9 h9, Or.inl ⟨⟨by omega, by omega⟩, rfl, fun k => ?_⟩⟩
  rw [e2]
  by_cases c5 : k = a0.toNat
  · rw [c5, zup_s, if_pos rfl]
  · rw [zup_n _ _ (by omega), if_neg c5, r8]
theorem ri_wish {MC MR M8 M9 : zM} {a0 a1 z z9 : Int} (h : iRi MC MR) (p : (cWi (MC 32 2) a0 a1 ∧ z = 1 ∧ a0 < 4 ∧ M8 = zup MC (41 + 4 * a0.toNat) 4 a1) ∨ (¬ cWi (MC 32 2) a0 a1 ∧ z = 0 ∧ M8 = MC)) (f9 : ∀ j9 k9 : Nat, ¬ (j9 = 0 ∧ k9 = 35 ∨ j9 = 8) → M9 j9 k9 = MR j9 k9) (q : (cWi (MR 0 10) a0 a1 ∧ z9 = 1 ∧ ∀ k : Nat, M9 8 k = if k = a0.toNat then a1 else MR 8 k) ∨ (¬ cWi (MR 0 10) a0 a1 ∧ z9 = 0 ∧ M9 8 = MR 8)) : z = z9 ∧ iRi M8 M9 := by
  have g1 := h.1
  rw [← g1] at q
  rcases p with ⟨p1, p2, p3, p4⟩ | ⟨p1, p2, p3⟩
  · rcases q with ⟨q1, q2, q3⟩ | ⟨q1, -⟩
    · have ha := p1.1
      refine ⟨by omega, iRi_one (r0 := a0.toNat) h (fun j hj => by rw [p4, zup_row _ _ (by omega)]) (by rw [p4, zup_n _ _ (by omega)]) (f9 0 10 (by omega)) (fun j r hj hr => ?_) (fun q _ => f9 3 q (by omega)) ?_⟩
      · by_cases c : j = 8
        · rw [c, q3, if_neg hr]
        · exact f9 j r (by omega)
      · obtain ⟨n, a1', a2, a3, a4, a5, a6, a7, a8, a9, a10, a11⟩ := h.2.2 a0.toNat (by omega)
        refine ⟨n, a1', a2, by rw [p4, zup_n _ _ (by omega)]; exact a3, (f9 4 _ (by omega)).trans a4, by rw [p4, zup_n _ _ (by omega), f9 5 _ (by omega)]; exact a5, by rw [p4, zup_n _ _ (by omega), f9 6 _ (by omega)]; exact a6, by rw [f9 6 _ (by omega)]; exact a7, by rw [p4, zup_n _ _ (by omega), f9 7 _ (by omega)]; exact a8, by rw [p4, zup_s, q3, if_pos rfl], fun k hk => by rw [p4, zup_n _ _ (by omega), f9 3 _ (by omega)]; exact a10 k hk, fun a ha => ?_⟩
        rw [p4, zup_n _ _ (by omega), zup_n _ _ (by omega), zup_row _ _ (by omega)]
        exact a11 a ha
    · exact absurd p1 q1
  · rcases q with ⟨q1, -⟩ | ⟨q1, q2, q3⟩
    · exact absurd q1 p1
    · rw [p3]
      exact ⟨by omega, iRi_kept h (fun j _ => rfl) rfl (f9 0 10 (by omega)) (funext fun k => f9 3 k (by omega)) (funext fun k => f9 4 k (by omega)) (funext fun k => f9 5 k (by omega)) (funext fun k => f9 6 k (by omega)) (funext fun k => f9 7 k (by omega)) q3⟩
def cSe (cnt : Int) (len : Nat → Int) (a0 a1 a2 : Int) : Prop := (0 ≤ a0 ∧ a0 < cnt) ∧ ((a1 = 0 ∧ 0 ≤ a2 ∧ a2 ≤ 1) ∨ (a1 = 1 ∧ 0 ≤ a2 ∧ a2 < len a0.toNat))
set_option maxHeartbeats 1000000 in
theorem fC_set {M : zM} {a0 a1 a2 : Int} (hB : BN wC M) (v0 : -2147483648 ≤ a0 ∧ a0 ≤ 2147483647) (v1 : -2147483648 ≤ a1 ∧ a1 ≤ 2147483647) (v2 : -2147483648 ≤ a2 ∧ a2 ≤ 2147483647) {Q : Int → zM → Prop} (hQ : ∀ (z : Int) (M1 : zM), BN wC M1 ∧ (∀ j9 : Nat, ¬ (41 ≤ j9 ∧ j9 ≤ 56) → M1 j9 = M j9) ∧ ((cSe (M 32 2) (fun r => M (41 + 4 * r + 1) 1) a0 a1 a2 ∧ a0 < 4 ∧ ((a1 = 0 ∧ z = M (41 + 4 * a0.toNat) 1 ∧ M1 = zup M (41 + 4 * a0.toNat) 1 a2) ∨ (a1 = 1 ∧ z = M (41 + 4 * a0.toNat) 2 ∧ M1 = zup M (41 + 4 * a0.toNat) 2 a2))) ∨ (¬ cSe (M 32 2) (fun r => M (41 + 4 * r + 1) 1) a0 a1 a2 ∧ z = -1 ∧ M1 = M)) → Q z M1) : wC_set a0 a1 a2 M Q := by
  unfold wC_set
  have no : ¬ cSe (M 32 2) (fun r => M (41 + 4 * r + 1) 1) a0 a1 a2 → Q (-1) M := fun h => hQ _ _ ⟨hB, fun _ _ => rfl, Or.inr ⟨h, rfl, rfl⟩⟩
  refine fC_find hB v0 (fun h => ⟨fun _ => no (fun x => h x.1), fun q h => nomatch h⟩) (fun r hr h1 h2 => ⟨(fun h => nomatch h), fun q hq => ?_⟩)
  obtain rfl := Option.some.inj hq
  obtain ⟨c1, c2, c3, -⟩ := rg_cd r h2
  have hra : a0.toNat = r := by omega
  have s1 : sI a1 = a1 := sIo v1.1 v1.2
  have b1 := BN.r32 hB (41 + 4 * r) 1
  have b2 := BN.r32 hB (41 + 4 * r) 2
  have bl : 0 ≤ M (41 + 4 * r + 1) 1 ∧ M (41 + 4 * r + 1) 1 ≤ 24 := BN.at hB c3 rfl
  rw [s1, sIo b1.1 b1.2, sIo b2.1 b2.2]
  refine ⟨⟨c1, c2⟩, ?_⟩
  refine pJ0_of (¬ (a1 = 0 ∧ 0 ≤ a2 ∧ a2 ≤ 1)) (fun hJ => ?_) ⟨fun c => fun h => c h.1, fun c => ?_⟩
  · refine ⟨fun c => no (fun x => by rcases x.2 with y | y <;> omega), fun c => ?_⟩
    refine sC_Strip_has hB (by have e1 : nC = 134 := rfl; omega) c3 v2 (fun z p => ?_)
    obtain ⟨-, p, -⟩ := p
    refine ⟨fun d => no (fun x => ?_), fun d => fun M1 e1 => ?_⟩
    · have y := x.2
      rw [hra] at y
      have y : (a1 = 0 ∧ 0 ≤ a2 ∧ a2 ≤ 1) ∨ (a1 = 1 ∧ 0 ≤ a2 ∧ a2 < M (41 + 4 * r + 1) 1) := y
      omega
    · refine hQ _ _ ⟨by rw [e1]; exact BN.up hB c2 rfl (by omega) (by omega), fun j9 h9 => by rw [e1, zup_row _ _ (by omega)], Or.inl ⟨⟨by omega, Or.inr ⟨c, by omega, ?_⟩⟩, by omega, Or.inr ⟨c, by rw [hra], by rw [hra]; exact e1⟩⟩⟩
      rw [hra]
      show a2 < M (41 + 4 * r + 1) 1
      omega
  · refine sC_isMotor hB v2 (fun z p => ?_)
    obtain ⟨-, p, -⟩ := p
    refine ⟨fun d => fun h => by omega, fun d => fun M1 e1 => ?_⟩
    exact hQ _ _ ⟨by rw [e1]; exact BN.up hB c2 rfl (by omega) (by omega), fun j9 h9 => by rw [e1, zup_row _ _ (by omega)], Or.inl ⟨⟨by omega, Or.inl ⟨c, by omega⟩⟩, by omega, Or.inl ⟨c, by rw [hra], by rw [hra]; exact e1⟩⟩⟩
set_option maxHeartbeats 1000000 in
theorem fR_set {M : zM} {a0 a1 a2 : Int} (hB : BI M) (v0 : -2147483648 ≤ a0 ∧ a0 ≤ 2147483647) (v1 : -2147483648 ≤ a1 ∧ a1 ≤ 2147483647) (v2 : -2147483648 ≤ a2 ∧ a2 ≤ 2147483647) {Q : Int → zM → Prop} (hQ : ∀ (z : Int) (M1 : zM), BI M1 ∧ (∀ j9 k9 : Nat, ¬ (j9 = 0 ∧ k9 = 35 ∨ j9 = 5 ∨ j9 = 6) → M1 j9 k9 = M j9 k9) ∧ ((cSe (M 0 10) (M 4) a0 a1 a2 ∧ ((a1 = 0 ∧ z = M 5 a0.toNat ∧ (∀ k : Nat, M1 5 k = if k = a0.toNat then a2 else M 5 k) ∧ M1 6 = M 6) ∨ (a1 = 1 ∧ z = M 6 a0.toNat ∧ (∀ k : Nat, M1 6 k = if k = a0.toNat then a2 else M 6 k) ∧ M1 5 = M 5))) ∨ (¬ cSe (M 0 10) (M 4) a0 a1 a2 ∧ z = -1 ∧ M1 5 = M 5 ∧ M1 6 = M 6)) → Q z M1) : wR_set a0 a1 a2 M Q := by
  unfold wR_set
  intro M1 e1
  have hB1 : BI M1 := by rw [e1]; exact BI.up0 hB rfl (by omega) (by omega) (by decide)
  have hF1 : ∀ j9 k9 : Nat, ¬ (j9 = 0 ∧ k9 = 35 ∨ j9 = 5 ∨ j9 = 6) → M1 j9 k9 = M j9 k9 := fun j9 k9 h9 => by rw [e1]; exact zup_n _ _ (by omega)
  have r10 : M1 0 10 = M 0 10 := by rw [e1]; exact zup_n _ _ (by omega)
  have r4 : M1 4 = M 4 := by rw [e1]; exact zup_row _ _ (by omega)
  have r5 : M1 5 = M 5 := by rw [e1]; exact zup_row _ _ (by omega)
  have r6 : M1 6 = M 6 := by rw [e1]; exact zup_row _ _ (by omega)
  have no : ¬ cSe (M 0 10) (M 4) a0 a1 a2 → Q (-1) M1 := fun h => hQ _ _ ⟨hB1, hF1, Or.inr ⟨h, rfl, r5, r6⟩⟩
  refine fR_isRing hB1 v0 (fun h => ⟨fun _ => no (fun x => h (by rw [r10]; exact x.1)), fun c => absurd rfl c⟩) (fun r hr h1 h2 => ⟨fun c => absurd c (by decide), fun _ => ?_⟩)
  have s0 : sI a0 = a0 := sIo v0.1 v0.2
  have s1 : sI a1 = a1 := sIo v1.1 v1.2
  have hra : a0.toNat = r := by omega
  have bl : 0 ≤ M1 4 r ∧ M1 4 r ≤ 24 := BN.at hB1.1 (rfl : zcd wR 4 = 54) rfl
  rw [s0, s1, hra]
  refine sR_in hB1 v1 (by omega) (by omega) (fun z p => ?_)
  obtain ⟨-, p, -⟩ := p
  refine ⟨fun c => no (fun x => by rcases x.2 with y | y <;> omega), fun c => ?_⟩
  refine pJ0_of ((a1 = 0 ∧ 0 ≤ a2 ∧ a2 ≤ 1) ∨ (a1 = 1 ∧ 0 ≤ a2 ∧ a2 < M1 4 r)) (fun hJ => ?_) ⟨fun d => ⟨by omega, ?_⟩, fun d => ?_⟩
  · have ok : cSe (M 0 10) (M 4) a0 a1 a2 := ⟨by omega, by rw [hra, ← r4]; exact hJ⟩
    refine pJ1_of (fun x => (a1 = 0 ∧ x = M 5 r) ∨ (a1 = 1 ∧ x = M 6 r)) (fun x hx => ?_) ⟨fun d => ⟨by omega, Or.inr ⟨by omega, by rw [r6]⟩⟩, fun d => ⟨by omega, Or.inl ⟨d, by rw [r5]⟩⟩⟩
    have b5 := BN.r32 hB.1 5 r
    have b6 := BN.r32 hB.1 6 r
    have sx : sI x = x := sIo (by omega) (by omega)
    rw [sx]
    refine ⟨fun d => ⟨by omega, fun M2 e2 => ?_⟩, fun d => ⟨by omega, fun M2 e2 => ?_⟩⟩
    · refine hQ _ _ ⟨by rw [e2]; exact BI.up hB1 (rfl : zcd wR 6 = 56) rfl (by omega) (by omega) (by decide), fun j9 k9 h9 => by rw [e2, zup_n _ _ (by omega)]; exact hF1 j9 k9 h9, Or.inl ⟨ok, Or.inr ⟨by omega, by rw [hra]; omega, fun k => ?_, by rw [e2, zup_row _ _ (by omega)]; exact r5⟩⟩⟩
      rw [e2, hra]
      by_cases c5 : k = r
      · rw [c5, zup_s, if_pos rfl]
      · rw [zup_n _ _ (by omega), if_neg c5, r6]
    · refine hQ _ _ ⟨by rw [e2]; exact BI.up hB1 (rfl : zcd wR 5 = 55) rfl (by omega) (by omega) (by decide), fun j9 k9 h9 => by rw [e2, zup_n _ _ (by omega)]; exact hF1 j9 k9 h9, Or.inl ⟨ok, Or.inl ⟨d, by rw [hra]; omega, fun k => ?_, by rw [e2, zup_row _ _ (by omega)]; exact r6⟩⟩⟩
      rw [e2, hra]
      by_cases c5 : k = r
      · rw [c5, zup_s, if_pos rfl]
      · rw [zup_n _ _ (by omega), if_neg c5, r5]
  · refine sR_in hB1 v2 (by omega) (by omega) (fun z2 p2 => ?_)
    obtain ⟨-, p2, -⟩ := p2
    refine ⟨fun e => by omega, fun e => no (fun x => ?_)⟩
    have y := x.2
    rw [hra, ← r4] at y
    omega
  · refine sR_isMotor hB1 v2 (fun z2 p2 => ?_)
    obtain ⟨-, p2, -⟩ := p2
    exact ⟨fun e => by omega, fun e => no (fun x => by have y := x.2; omega)⟩
theorem ri_set {MC MR M8 M9 : zM} {a0 a1 a2 z z9 : Int} (h : iRi MC MR) (p : (cSe (MC 32 2) (fun r => MC (41 + 4 * r + 1) 1) a0 a1 a2 ∧ a0 < 4 ∧ ((a1 = 0 ∧ z = MC (41 + 4 * a0.toNat) 1 ∧ M8 = zup MC (41 + 4 * a0.toNat) 1 a2) ∨ (a1 = 1 ∧ z = MC (41 + 4 * a0.toNat) 2 ∧ M8 = zup MC (41 + 4 * a0.toNat) 2 a2))) ∨ (¬ cSe (MC 32 2) (fun r => MC (41 + 4 * r + 1) 1) a0 a1 a2 ∧ z = -1 ∧ M8 = MC)) (f9 : ∀ j9 k9 : Nat, ¬ (j9 = 0 ∧ k9 = 35 ∨ j9 = 5 ∨ j9 = 6) → M9 j9 k9 = MR j9 k9) (q : (cSe (MR 0 10) (MR 4) a0 a1 a2 ∧ ((a1 = 0 ∧ z9 = MR 5 a0.toNat ∧ (∀ k : Nat, M9 5 k = if k = a0.toNat then a2 else MR 5 k) ∧ M9 6 = MR 6) ∨ (a1 = 1 ∧ z9 = MR 6 a0.toNat ∧ (∀ k : Nat, M9 6 k = if k = a0.toNat then a2 else MR 6 k) ∧ M9 5 = MR 5))) ∨ (¬ cSe (MR 0 10) (MR 4) a0 a1 a2 ∧ z9 = -1 ∧ M9 5 = MR 5 ∧ M9 6 = MR 6)) : z = z9 ∧ iRi M8 M9 := by
  have g1 := h.1
  have ec : cSe (MC 32 2) (fun r => MC (41 + 4 * r + 1) 1) a0 a1 a2 ↔ cSe (MR 0 10) (MR 4) a0 a1 a2 := by
    unfold cSe
    dsimp only
    rw [g1]
    constructor
    · rintro ⟨x, y⟩
      obtain ⟨n, -, -, b3, b4, -⟩ := h.2.2 a0.toNat (by omega)
      rw [b4]
      rw [b3] at y
      exact ⟨x, y⟩
    · rintro ⟨x, y⟩
      obtain ⟨n, -, -, b3, b4, -⟩ := h.2.2 a0.toNat (by omega)
      rw [b3]
      rw [b4] at y
      exact ⟨x, y⟩
  rw [← ec] at q
  rcases p with ⟨p1, p3, p4⟩ | ⟨p1, p2, p3⟩
  · rcases q with ⟨q1, q4⟩ | ⟨q1, -⟩
    · have ha := p1.1
      obtain ⟨n, a1', a2', a3, a4, a5, a6, a7, a8, a9, a10, a11⟩ := h.2.2 a0.toNat (by omega)
      have st : a1 = 1 → 0 ≤ a2 ∧ a2 < n := fun e => by
        have y : (a1 = 0 ∧ 0 ≤ a2 ∧ a2 ≤ 1) ∨ (a1 = 1 ∧ 0 ≤ a2 ∧ a2 < MC (41 + 4 * a0.toNat + 1) 1) := p1.2
        omega
      rcases p4 with ⟨d1, d2, d3⟩ | ⟨d1, d2, d3⟩
      · obtain ⟨e1, e2, e3, e4⟩ := q4.resolve_right (fun x => by have := x.1; omega)
        refine ⟨by rw [d2, e2]; exact a5, iRi_one (r0 := a0.toNat) h (fun j hj => by rw [d3, zup_row _ _ (by omega)]) (by rw [d3, zup_n _ _ (by omega)]) (f9 0 10 (by omega)) (fun j r hj hr => ?_) (fun q _ => f9 3 q (by omega)) ?_⟩
        · by_cases c : j = 5
          · rw [c, e3, if_neg hr]
          · by_cases c2 : j = 6
            · rw [c2, e4]
            · exact f9 j r (by omega)
        · refine ⟨n, a1', a2', by rw [d3, zup_n _ _ (by omega)]; exact a3, (f9 4 _ (by omega)).trans a4, by rw [d3, zup_s, e3, if_pos rfl], by rw [d3, zup_n _ _ (by omega), e4]; exact a6, by rw [e4]; exact a7, by rw [d3, zup_n _ _ (by omega), f9 7 _ (by omega)]; exact a8, by rw [d3, zup_n _ _ (by omega), f9 8 _ (by omega)]; exact a9, fun k hk => by rw [d3, zup_n _ _ (by omega), f9 3 _ (by omega)]; exact a10 k hk, fun a ha => ?_⟩
          rw [d3, zup_n _ _ (by omega), zup_n _ _ (by omega), zup_row _ _ (by omega)]
          exact a11 a ha
      · obtain ⟨e1, e2, e3, e4⟩ := q4.resolve_left (fun x => by have := x.1; omega)
        refine ⟨by rw [d2, e2]; exact a6, iRi_one (r0 := a0.toNat) h (fun j hj => by rw [d3, zup_row _ _ (by omega)]) (by rw [d3, zup_n _ _ (by omega)]) (f9 0 10 (by omega)) (fun j r hj hr => ?_) (fun q _ => f9 3 q (by omega)) ?_⟩
        · by_cases c : j = 6
          · rw [c, e3, if_neg hr]
          · by_cases c2 : j = 5
            · rw [c2, e4]
            · exact f9 j r (by omega)
        · refine ⟨n, a1', a2', by rw [d3, zup_n _ _ (by omega)]; exact a3, (f9 4 _ (by omega)).trans a4, by rw [d3, zup_n _ _ (by omega), e4]; exact a5, by rw [d3, zup_s, e3, if_pos rfl], by rw [e3, if_pos rfl]; exact st d1, by rw [d3, zup_n _ _ (by omega), f9 7 _ (by omega)]; exact a8, by rw [d3, zup_n _ _ (by omega), f9 8 _ (by omega)]; exact a9, fun k hk => by rw [d3, zup_n _ _ (by omega), f9 3 _ (by omega)]; exact a10 k hk, fun a ha => ?_⟩
          rw [d3, zup_n _ _ (by omega), zup_n _ _ (by omega), zup_row _ _ (by omega)]
          exact a11 a ha
    · exact absurd p1 q1
  · rcases q with ⟨q1, -⟩ | ⟨q1, q2, q3, q4⟩
    · exact absurd q1 p1
    · rw [p3]
      exact ⟨by omega, iRi_kept h (fun j _ => rfl) rfl (f9 0 10 (by omega)) (funext fun k => f9 3 k (by omega)) (funext fun k => f9 4 k (by omega)) q3 q4 (funext fun k => f9 7 k (by omega)) (funext fun k => f9 8 k (by omega))⟩
