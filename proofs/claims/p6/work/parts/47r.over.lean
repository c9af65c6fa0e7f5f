/-! rings: laid over, alike -/
def ovV (w o h : Int) : Int := if w = 0 then h else orI o h
def ovN (w : Int) (S H : Nat → Int) (p : Nat) : Nat → Int
  | 0 => 0
  | i + 1 => ovN w S H p i + (if ovV w (S (p + i)) (H i) = S (p + i) then 0 else 1)
theorem ovN_b (w : Int) (S H : Nat → Int) (p : Nat) : ∀ i : Nat, 0 ≤ ovN w S H p i ∧ ovN w S H p i ≤ (i : Int)
  | 0 => ⟨by show (0 : Int) ≤ 0; omega, by show (0 : Int) ≤ ((0 : Nat) : Int); omega⟩
  | i + 1 => by
    have a := ovN_b w S H p i
    show 0 ≤ ovN w S H p i + (if ovV w (S (p + i)) (H i) = S (p + i) then 0 else 1) ∧ ovN w S H p i + (if ovV w (S (p + i)) (H i) = S (p + i) then 0 else 1) ≤ ((i + 1 : Nat) : Int)
    by_cases c : ovV w (S (p + i)) (H i) = S (p + i)
    · rw [if_pos c]
      omega
    · rw [if_neg c]
      omega
theorem ovN_cg {w : Int} {S H S2 H2 : Nat → Int} {p : Nat} : ∀ i : Nat, (∀ k : Nat, k < i → S (p + k) = S2 (p + k) ∧ H k = H2 k) → ovN w S H p i = ovN w S2 H2 p i
  | 0, _ => rfl
  | i + 1, h => by
    have a := ovN_cg (w := w) i (fun k hk => h k (by omega))
    have b := h i (by omega)
    show ovN w S H p i + (if ovV w (S (p + i)) (H i) = S (p + i) then 0 else 1) = ovN w S2 H2 p i + (if ovV w (S2 (p + i)) (H2 i) = S2 (p + i) then 0 else 1)
    rw [a, b.1, b.2]
theorem ovV_r {w o h : Int} (hh : -2147483648 ≤ h ∧ h ≤ 2147483647) : -2147483648 ≤ ovV w o h ∧ ovV w o h ≤ 2147483647 := by
  unfold ovV
  by_cases c : w = 0
  · rw [if_pos c]
    exact hh
  · rw [if_neg c]
    exact orI_R _ _
set_option maxHeartbeats 2000000 in
theorem fC_layOver {M : zM} {r n m p : Nat} {w : Int} (hB : BN wC M) (hr : r < 4) (hw : 0 ≤ w ∧ w ≤ 1) (hn : M (41 + 4 * r + 1) 1 = (n : Int)) (hm : M 30 1 = (m : Int)) (hp : p < n) {Q : Int → zM → Prop} (hQ : ∀ (z : Int) (M1 : zM), BN wC M1 ∧ (∃ i : Nat, i ≤ m ∧ p + i ≤ n ∧ (i = m ∨ p + i = n) ∧ z = ovN w (M (41 + 4 * r + 2)) (M 31) p i ∧ (∀ P q : Nat, ¬ (P = 41 + 4 * r + 2 ∧ p ≤ q ∧ q < p + i ∨ P = 41 + 4 * r + 3 ∧ q < n) → M1 P q = M P q) ∧ (∀ k : Nat, k < i → M1 (41 + 4 * r + 2) (p + k) = ovV w (M (41 + 4 * r + 2) (p + k)) (M 31 k)) ∧ (∀ a : Nat, a < n → M1 (41 + 4 * r + 3) a = orU (M (41 + 4 * r) 3) (M1 (41 + 4 * r + 2)) n a 24)) → Q z M1) : wC_Ring_layOver (41 + 4 * r) 30 (p : Int) w M Q := by
  unfold wC_Ring_layOver
  obtain ⟨g1, g2, g3, g4, g5, g6⟩ := rg_cd r hr
  have bn : 0 ≤ M (41 + 4 * r + 1) 1 ∧ M (41 + 4 * r + 1) 1 ≤ 24 := BN.at hB g3 rfl
  have bm : 0 ≤ M 30 1 ∧ M 30 1 ≤ 24 := BN.at hB (rfl : zcd wC 30 = 6) rfl
  have sw : sI w = w := sIo (by omega) (by omega)
  refine wL2_of (fun x y M2 => BN wC M2 ∧ ∃ i : Nat, y = (i : Int) ∧ i ≤ m ∧ p + i ≤ n ∧ x = ovN w (M (41 + 4 * r + 2)) (M 31) p i ∧ (∀ P q : Nat, ¬ (P = 41 + 4 * r + 2 ∧ p ≤ q ∧ q < p + i) → M2 P q = M P q) ∧ (∀ k : Nat, k < i → M2 (41 + 4 * r + 2) (p + k) = ovV w (M (41 + 4 * r + 2) (p + k)) (M 31 k))) (fun _ y _ => (1000 - y).toNat) ⟨hB, 0, rfl, by omega, by omega, rfl, fun _ _ _ => rfl, fun k h => absurd h (Nat.not_lt_zero k)⟩ (fun K x y M2 h k => ?_)
  obtain ⟨b2, i, rfl, i1, i2, rfl, f2, hv⟩ := h
  have m2 : M2 30 1 = (m : Int) := (f2 _ _ (by omega)).trans hm
  have n2 : M2 (41 + 4 * r + 1) 1 = (n : Int) := (f2 _ _ (by omega)).trans hn
  have sm : sI (m : Int) = m := sIo (by omega) (by omega)
  have si : sI (i : Int) = i := sIo (by omega) (by omega)
  have ti : ((i : Int)).toNat = i := by omega
  have ob := ovN_b w (M (41 + 4 * r + 2)) (M 31) p i
  have so : sI (ovN w (M (41 + 4 * r + 2)) (M 31) p i) = ovN w (M (41 + 4 * r + 2)) (M 31) p i := sIo (by omega) (by omega)
  have sp : sI ((p : Int) + (i : Int)) = (p : Int) + (i : Int) := sIo (by omega) (by omega)
  have tp : ((p : Int) + (i : Int)).toNat = p + i := by omega
  have fin : (i = m ∨ p + i = n) → wC_Ring_listen (41 + 4 * r) M2 (fun M20 => Q (ovN w (M (41 + 4 * r + 2)) (M 31) p i) M20) := fun he => by
    refine fC_listen b2 hr (by omega) n2 (fun M3 h3 => ?_)
    obtain ⟨b3, f3, h3⟩ := h3
    refine hQ _ _ ⟨b3, i, i1, i2, he, rfl, fun P q h => by rw [f3 _ _ (by omega)]; exact f2 _ _ (by omega), fun k hk => by rw [f3 _ _ (by omega)]; exact hv k hk, fun a ha => ?_⟩
    rw [h3 a ha, f2 (41 + 4 * r) 3 (by omega)]
    exact orU_cg (by omega) (fun k _ => (f3 _ _ (by omega)).symm) 24
  rw [m2, sm, si, so, sp, ti, tp, sw]
  refine ⟨fun c => fin (by omega), fun c => ?_⟩
  refine sC_Strip_has b2 (by have e1 : nC = 134 := rfl; omega) g3 (by omega) (fun z q => ?_)
  obtain ⟨-, q, -⟩ := q
  rw [n2] at q
  refine ⟨fun d => fin (by omega), fun d => ⟨by omega, ?_⟩⟩
  have e31 : M2 (30 + 1) i = M 31 i := f2 31 i (by omega)
  have e43 : M2 (41 + 4 * r + 2) (p + i) = M (41 + 4 * r + 2) (p + i) := f2 _ _ (by omega)
  have r31 := BN.r32 hB 31 i
  have r43 := BN.r32 hB (41 + 4 * r + 2) (p + i)
  rw [e31, e43]
  refine pJ1_of (fun x => x = ovV w (M (41 + 4 * r + 2) (p + i)) (M 31 i)) (fun x hx => ?_) ⟨fun d2 => ⟨by omega, by unfold ovV; rw [if_pos d2]⟩, fun d2 => ⟨by omega, by unfold ovV; rw [if_neg d2]⟩⟩
  have rx := ovV_r (w := w) (o := M (41 + 4 * r + 2) (p + i)) r31
  rw [← hx] at rx
  rw [sIo rx.1 rx.2, sIo r43.1 r43.2]
  refine ⟨by omega, fun M3 e3 => ?_⟩
  have b3 : BN wC M3 := by rw [e3]; exact BN.up b2 g4 rfl rx.1 rx.2
  have f3 : ∀ P q : Nat, ¬ (P = 41 + 4 * r + 2 ∧ p ≤ q ∧ q < p + (i + 1)) → M3 P q = M P q := fun P q h => by rw [e3, zup_n _ _ (by omega)]; exact f2 _ _ (by omega)
  have v3 : ∀ k : Nat, k < i + 1 → M3 (41 + 4 * r + 2) (p + k) = ovV w (M (41 + 4 * r + 2) (p + k)) (M 31 k) := fun k hk => by
    rw [e3]
    by_cases c5 : k = i
    · rw [c5, zup_s, hx]
    · rw [zup_n _ _ (by omega)]
      exact hv k (by omega)
  refine ⟨fun d2 => k _ _ _ ⟨b3, i + 1, by omega, by omega, by omega, ?_, f3, v3⟩ (by omega), fun d2 => k _ _ _ ⟨b3, i + 1, by omega, by omega, by omega, ?_, f3, v3⟩ (by omega)⟩
  · show _ = ovN w (M (41 + 4 * r + 2)) (M 31) p i + (if ovV w (M (41 + 4 * r + 2) (p + i)) (M 31 i) = M (41 + 4 * r + 2) (p + i) then 0 else 1)
    rw [if_neg (by rw [← hx]; exact d2)]
  · show _ = ovN w (M (41 + 4 * r + 2)) (M 31) p i + (if ovV w (M (41 + 4 * r + 2) (p + i)) (M 31 i) = M (41 + 4 * r + 2) (p + i) then 0 else 1)
    rw [if_pos (by rw [← hx]; exact d2)]
def cOv (cnt m : Int) (len : Nat → Int) (a0 a1 a2 : Int) : Prop := (0 ≤ a0 ∧ a0 < cnt) ∧ (0 ≤ a1 ∧ a1 < len a0.toNat) ∧ (0 ≤ a2 ∧ a2 ≤ 1) ∧ m ≠ 0
theorem fC_over {M : zM} {a0 a1 a2 : Int} (hB : BN wC M) (v0 : -2147483648 ≤ a0 ∧ a0 ≤ 2147483647) (v1 : -2147483648 ≤ a1 ∧ a1 ≤ 2147483647) (v2 : -2147483648 ≤ a2 ∧ a2 ≤ 2147483647) {Q : Int → zM → Prop} (hQ : ∀ (z : Int) (M1 : zM), BN wC M1 ∧ (∀ j9 : Nat, ¬ (41 ≤ j9 ∧ j9 ≤ 56) → M1 j9 = M j9) ∧ ((cOv (M 32 2) (M 30 1) (fun r => M (41 + 4 * r + 1) 1) a0 a1 a2 ∧ ∃ r n m p i : Nat, a0 = (r : Int) ∧ r < 4 ∧ M (41 + 4 * r + 1) 1 = (n : Int) ∧ M 30 1 = (m : Int) ∧ a1 = (p : Int) ∧ p < n ∧ i ≤ m ∧ p + i ≤ n ∧ (i = m ∨ p + i = n) ∧ z = ovN a2 (M (41 + 4 * r + 2)) (M 31) p i ∧ (∀ P q : Nat, ¬ (P = 41 + 4 * r + 2 ∧ p ≤ q ∧ q < p + i ∨ P = 41 + 4 * r + 3 ∧ q < n) → M1 P q = M P q) ∧ (∀ k : Nat, k < i → M1 (41 + 4 * r + 2) (p + k) = ovV a2 (M (41 + 4 * r + 2) (p + k)) (M 31 k)) ∧ (∀ a : Nat, a < n → M1 (41 + 4 * r + 3) a = orU (M (41 + 4 * r) 3) (M1 (41 + 4 * r + 2)) n a 24)) ∨ (¬ cOv (M 32 2) (M 30 1) (fun r => M (41 + 4 * r + 1) 1) a0 a1 a2 ∧ z = -1 ∧ M1 = M)) → Q z M1) : wC_over a0 a1 a2 M Q := by
  unfold wC_over
  have no : ¬ cOv (M 32 2) (M 30 1) (fun r => M (41 + 4 * r + 1) 1) a0 a1 a2 → Q (-1) M := fun h => hQ _ _ ⟨hB, fun _ _ => rfl, Or.inr ⟨h, rfl, rfl⟩⟩
  refine fC_find hB v0 (fun h => ⟨fun _ => no (fun x => h x.1), fun q h => nomatch h⟩) (fun r hr h1 h2 => ⟨(fun h => nomatch h), fun q hq => ?_⟩)
  obtain rfl := Option.some.inj hq
  obtain ⟨c1, c2, c3, c4, c5, -⟩ := rg_cd r h2
  have hra : a0.toNat = r := by omega
  have bl : 0 ≤ M (41 + 4 * r + 1) 1 ∧ M (41 + 4 * r + 1) 1 ≤ 24 := BN.at hB c3 rfl
  have bm : 0 ≤ M 30 1 ∧ M 30 1 ≤ 24 := BN.at hB (rfl : zcd wC 30 = 6) rfl
  refine ⟨⟨c1, c2⟩, ?_⟩
  have un : cOv (M 32 2) (M 30 1) (fun r => M (41 + 4 * r + 1) 1) a0 a1 a2 → (0 ≤ a1 ∧ a1 < M (41 + 4 * r + 1) 1) ∧ (0 ≤ a2 ∧ a2 ≤ 1) ∧ M 30 1 ≠ 0 := fun x => by
    have y := x.2
    rw [hra] at y
    exact y
  refine sC_Strip_has hB (by have e1 : nC = 134 := rfl; omega) c3 v1 (fun z p => ?_)
  obtain ⟨-, p, -⟩ := p
  refine ⟨fun d => no (fun x => by have := (un x).1; omega), fun d => ?_⟩
  refine sC_within hB v2 (by omega) (by omega) (fun z2 p2 => ?_)
  obtain ⟨-, p2, -⟩ := p2
  refine ⟨fun d2 => no (fun x => by have := (un x).2.1; omega), fun d2 => ?_⟩
  have sm : sI (M 30 1) = M 30 1 := sIo (by omega) (by omega)
  have s2 : sI a2 = a2 := sIo v2.1 v2.2
  rw [sm, s2]
  refine ⟨fun d3 => ?_, fun d3 => no (fun x => (un x).2.2 d3)⟩
  have ok : cOv (M 32 2) (M 30 1) (fun r => M (41 + 4 * r + 1) 1) a0 a1 a2 := ⟨by omega, by rw [hra]; exact ⟨by omega, by show a1 < M (41 + 4 * r + 1) 1; omega⟩, by omega, d3⟩
  have go : wC_Ring_layOver (41 + 4 * r) 30 a1 a2 M (fun z26 M25 => Q z26 M25) := by
    have ea : a1 = ((a1.toNat : Nat) : Int) := by omega
    rw [ea]
    refine fC_layOver (n := (M (41 + 4 * r + 1) 1).toNat) (m := (M 30 1).toNat) hB h2 (by omega) (by omega) (by omega) (by omega) (fun z9 M1 h => ?_)
    obtain ⟨b1, i, i1, i2, i3, i4, i5, i6, i7⟩ := h
    exact hQ _ _ ⟨b1, fun j9 h9 => funext fun q => i5 j9 q (by omega), Or.inl ⟨ok, r, (M (41 + 4 * r + 1) 1).toNat, (M 30 1).toNat, a1.toNat, i, hr, h2, by omega, by omega, ea, by omega, i1, i2, i3, i4, i5, i6, i7⟩⟩
  refine ⟨fun d4 => ?_, fun d4 => ?_⟩
  · rw [show a2 = 0 by omega] at go
    exact go
  · rw [show a2 = 1 by omega] at go
    exact go
set_option maxHeartbeats 2000000 in
theorem fR_over {M : zM} {a0 a1 a2 : Int} (hB : BI M) (v0 : -2147483648 ≤ a0 ∧ a0 ≤ 2147483647) (v1 : -2147483648 ≤ a1 ∧ a1 ≤ 2147483647) (v2 : -2147483648 ≤ a2 ∧ a2 ≤ 2147483647) {Q : Int → zM → Prop} (hQ : ∀ (z : Int) (M1 : zM), BI M1 ∧ (∀ j9 k9 : Nat, ¬ (j9 = 0 ∧ k9 = 35 ∨ j9 = 3) → M1 j9 k9 = M j9 k9) ∧ ((cOv (M 0 10) (M 0 3) (M 4) a0 a1 a2 ∧ ∃ r n m p i : Nat, a0 = (r : Int) ∧ M 4 r = (n : Int) ∧ M 0 3 = (m : Int) ∧ a1 = (p : Int) ∧ i ≤ m ∧ p + i ≤ n ∧ (i = m ∨ p + i = n) ∧ z = ovN a2 (fun k => M 3 (24 * r + k)) (M 2) p i ∧ (∀ q : Nat, ¬ (24 * r + p ≤ q ∧ q < 24 * r + p + i) → M1 3 q = M 3 q) ∧ (∀ k : Nat, k < i → M1 3 (24 * r + (p + k)) = ovV a2 (M 3 (24 * r + (p + k))) (M 2 k))) ∨ (¬ cOv (M 0 10) (M 0 3) (M 4) a0 a1 a2 ∧ z = -1 ∧ M1 3 = M 3)) → Q z M1) : wR_over a0 a1 a2 M Q := by
  unfold wR_over
  intro M1 e1
  have hB1 : BI M1 := by rw [e1]; exact BI.up0 hB rfl (by omega) (by omega) (by decide)
  have hF1 : ∀ j9 k9 : Nat, ¬ (j9 = 0 ∧ k9 = 35) → M1 j9 k9 = M j9 k9 := fun j9 k9 h9 => by rw [e1]; exact zup_n _ _ (by omega)
  have r10 : M1 0 10 = M 0 10 := hF1 0 10 (by omega)
  have r03 : M1 0 3 = M 0 3 := hF1 0 3 (by omega)
  have r4 : M1 4 = M 4 := funext fun k => hF1 4 k (by omega)
  have r3 : M1 3 = M 3 := funext fun k => hF1 3 k (by omega)
  have no : ¬ cOv (M 0 10) (M 0 3) (M 4) a0 a1 a2 → Q (-1) M1 := fun h => hQ _ _ ⟨hB1, fun j9 k9 h9 => hF1 j9 k9 (by omega), Or.inr ⟨h, rfl, r3⟩⟩
  refine fR_isRing hB1 v0 (fun h => ⟨fun _ => no (fun x => h (by rw [r10]; exact x.1)), fun c => absurd rfl c⟩) (fun r hr h1 h2 => ⟨fun c => absurd c (by decide), fun _ => ?_⟩)
  have s0 : sI a0 = a0 := sIo v0.1 v0.2
  have s2 : sI a2 = a2 := sIo v2.1 v2.2
  have hra : a0.toNat = r := by omega
  have bl : 0 ≤ M 4 r ∧ M 4 r ≤ 24 := BN.at hB.1 (rfl : zcd wR 4 = 54) rfl
  have bm : 0 ≤ M 0 3 ∧ M 0 3 ≤ 24 := BN.at hB.1 (rfl : zcd wR 0 = 50) rfl
  have un : cOv (M 0 10) (M 0 3) (M 4) a0 a1 a2 → (0 ≤ a1 ∧ a1 < M 4 r) ∧ (0 ≤ a2 ∧ a2 ≤ 1) ∧ M 0 3 ≠ 0 := fun x => by
    have y := x.2
    rw [hra] at y
    exact y
  have sm : sI (M 0 3) = M 0 3 := sIo (by omega) (by omega)
  rw [s0, s2, hra, r4, r03, sm]
  refine ⟨by omega, ?_⟩
  refine sR_in hB1 v1 (by omega) (by omega) (fun z p => ?_)
  obtain ⟨-, p, -⟩ := p
  refine ⟨fun c => no (fun x => by have := (un x).1; omega), fun c => ?_⟩
  refine sR_in hB1 v2 (by omega) (by omega) (fun z2 p2 => ?_)
  obtain ⟨-, p2, -⟩ := p2
  refine ⟨fun c2 => no (fun x => by have := (un x).2.1; omega), fun c2 => ⟨fun c3 => ?_, fun c3 => no (fun x => (un x).2.2 c3)⟩⟩
  have ok : cOv (M 0 10) (M 0 3) (M 4) a0 a1 a2 := ⟨by omega, by rw [hra]; omega, by omega, c3⟩
  obtain ⟨n, hn⟩ : ∃ n : Nat, M 4 r = (n : Int) := ⟨(M 4 r).toNat, by omega⟩
  obtain ⟨m, hm⟩ : ∃ m : Nat, M 0 3 = (m : Int) := ⟨(M 0 3).toNat, by omega⟩
  obtain ⟨q, hq⟩ : ∃ q : Nat, a1 = (q : Int) := ⟨a1.toNat, by omega⟩
  refine wL2_of (fun x y M2 => BI M2 ∧ (∀ j k : Nat, ¬ (j = 0 ∧ k = 35 ∨ j = 3) → M2 j k = M j k) ∧ ∃ i : Nat, y = (i : Int) ∧ i ≤ m ∧ q + i ≤ n ∧ x = ovN a2 (fun k => M 3 (24 * r + k)) (M 2) q i ∧ (∀ k : Nat, ¬ (24 * r + q ≤ k ∧ k < 24 * r + q + i) → M2 3 k = M 3 k) ∧ (∀ k : Nat, k < i → M2 3 (24 * r + (q + k)) = ovV a2 (M 3 (24 * r + (q + k))) (M 2 k))) (fun _ y _ => (1000 - y).toNat) ⟨hB1, fun j k h => hF1 j k (by omega), 0, rfl, by omega, by omega, rfl, fun k _ => hF1 3 k (by omega), fun k h => absurd h (Nat.not_lt_zero k)⟩ (fun K x y M2 h k => ?_)
  obtain ⟨b2, f2, i, rfl, i1, i2, rfl, g2, hv⟩ := h
  have m2 : M2 0 3 = (m : Int) := (f2 _ _ (by omega)).trans hm
  have n2 : M2 4 r = (n : Int) := (f2 _ _ (by omega)).trans hn
  have snm : sI (m : Int) = m := sIo (by omega) (by omega)
  have snn : sI (n : Int) = n := sIo (by omega) (by omega)
  have si : sI (i : Int) = i := sIo (by omega) (by omega)
  have ti : ((i : Int)).toNat = i := by omega
  have ob := ovN_b a2 (fun k => M 3 (24 * r + k)) (M 2) q i
  have so : sI (ovN a2 (fun k => M 3 (24 * r + k)) (M 2) q i) = ovN a2 (fun k => M 3 (24 * r + k)) (M 2) q i := sIo (by omega) (by omega)
  have sp : sI (a1 + (i : Int)) = (q : Int) + (i : Int) := by rw [hq]; exact sIo (by omega) (by omega)
  have sq : sI (24 * a0 + a1 + (i : Int)) = 24 * (r : Int) + (q : Int) + (i : Int) := by rw [hr, hq]; exact sIo (by omega) (by omega)
  have tq : (24 * (r : Int) + (q : Int) + (i : Int)).toNat = 24 * r + (q + i) := by omega
  have fin : (i = m ∨ q + i = n) → Q (ovN a2 (fun k => M 3 (24 * r + k)) (M 2) q i) M2 := fun he => hQ _ _ ⟨b2, f2, Or.inl ⟨ok, r, n, m, q, i, hr, hn, hm, hq, i1, i2, he, rfl, g2, hv⟩⟩
  rw [m2, n2, snm, snn, si, so, sp, sq, ti, tq]
  refine ⟨fun c4 => fin (by omega), fun c4 => ⟨by omega, fun c5 => fin (by omega), fun c5 => ?_⟩⟩
  have e2 : M2 2 i = M 2 i := f2 2 i (by omega)
  have e3 : M2 3 (24 * r + (q + i)) = M 3 (24 * r + (q + i)) := g2 _ (by omega)
  have r2' := BN.r32 hB.1 2 i
  have r3' := BN.r32 hB.1 3 (24 * r + (q + i))
  rw [e2, e3]
  refine pJ1_of (fun x => x = ovV a2 (M 3 (24 * r + (q + i))) (M 2 i)) (fun x hx => ?_) ⟨fun d2 => ⟨by omega, by omega, by unfold ovV; rw [if_neg d2]⟩, fun d2 => ⟨by omega, by unfold ovV; rw [if_pos d2]⟩⟩
  have rx := ovV_r (w := a2) (o := M 3 (24 * r + (q + i))) r2'
  rw [← hx] at rx
  rw [sIo rx.1 rx.2, sIo r3'.1 r3'.2]
  have up : ∀ M3 : zM, M3 = zup M2 3 (24 * r + (q + i)) x → BI M3 ∧ (∀ j k : Nat, ¬ (j = 0 ∧ k = 35 ∨ j = 3) → M3 j k = M j k) ∧ (∀ k : Nat, ¬ (24 * r + q ≤ k ∧ k < 24 * r + q + (i + 1)) → M3 3 k = M 3 k) ∧ (∀ k : Nat, k < i + 1 → M3 3 (24 * r + (q + k)) = ovV a2 (M 3 (24 * r + (q + k))) (M 2 k)) := fun M3 e => by
    refine ⟨by rw [e]; exact BI.up b2 (rfl : zcd wR 3 = 53) rfl rx.1 rx.2 (by decide), fun j k h => by rw [e, zup_n _ _ (by omega)]; exact f2 j k h, fun k h => by rw [e, zup_n _ _ (by omega)]; exact g2 k (by omega), fun k hk => ?_⟩
    rw [e]
    by_cases c6 : k = i
    · rw [c6, zup_s, hx]
    · rw [zup_n _ _ (by omega)]
      exact hv k (by omega)
  refine ⟨by omega, fun d2 => ⟨by omega, fun M3 e3' => ?_⟩, fun d2 => ⟨by omega, fun M3 e3' => ?_⟩⟩
  · obtain ⟨u1, u2, u3, u4⟩ := up M3 e3'
    refine k _ _ _ ⟨u1, u2, i + 1, by omega, by omega, by omega, ?_, u3, u4⟩ (by omega)
    show _ = ovN a2 (fun k => M 3 (24 * r + k)) (M 2) q i + (if ovV a2 (M 3 (24 * r + (q + i))) (M 2 i) = M 3 (24 * r + (q + i)) then 0 else 1)
    rw [if_pos (by rw [← hx]; exact d2), Int.add_zero]
  · obtain ⟨u1, u2, u3, u4⟩ := up M3 e3'
    refine k _ _ _ ⟨u1, u2, i + 1, by omega, by omega, by omega, ?_, u3, u4⟩ (by omega)
    show _ = ovN a2 (fun k => M 3 (24 * r + k)) (M 2) q i + (if ovV a2 (M 3 (24 * r + (q + i))) (M 2 i) = M 3 (24 * r + (q + i)) then 0 else 1)
    rw [if_neg (by rw [← hx]; exact d2)]
theorem ri_over {MC MR M8 M9 : zM} {a0 a1 a2 z z9 : Int} (h : iRi MC MR) (hH : iHa MC MR) (p : (cOv (MC 32 2) (MC 30 1) (fun r => MC (41 + 4 * r + 1) 1) a0 a1 a2 ∧ ∃ r n m p i : Nat, a0 = (r : Int) ∧ r < 4 ∧ MC (41 + 4 * r + 1) 1 = (n : Int) ∧ MC 30 1 = (m : Int) ∧ a1 = (p : Int) ∧ p < n ∧ i ≤ m ∧ p + i ≤ n ∧ (i = m ∨ p + i = n) ∧ z = ovN a2 (MC (41 + 4 * r + 2)) (MC 31) p i ∧ (∀ P q : Nat, ¬ (P = 41 + 4 * r + 2 ∧ p ≤ q ∧ q < p + i ∨ P = 41 + 4 * r + 3 ∧ q < n) → M8 P q = MC P q) ∧ (∀ k : Nat, k < i → M8 (41 + 4 * r + 2) (p + k) = ovV a2 (MC (41 + 4 * r + 2) (p + k)) (MC 31 k)) ∧ (∀ a : Nat, a < n → M8 (41 + 4 * r + 3) a = orU (MC (41 + 4 * r) 3) (M8 (41 + 4 * r + 2)) n a 24)) ∨ (¬ cOv (MC 32 2) (MC 30 1) (fun r => MC (41 + 4 * r + 1) 1) a0 a1 a2 ∧ z = -1 ∧ M8 = MC)) (f9 : ∀ j9 k9 : Nat, ¬ (j9 = 0 ∧ k9 = 35 ∨ j9 = 3) → M9 j9 k9 = MR j9 k9) (q : (cOv (MR 0 10) (MR 0 3) (MR 4) a0 a1 a2 ∧ ∃ r n m p i : Nat, a0 = (r : Int) ∧ MR 4 r = (n : Int) ∧ MR 0 3 = (m : Int) ∧ a1 = (p : Int) ∧ i ≤ m ∧ p + i ≤ n ∧ (i = m ∨ p + i = n) ∧ z9 = ovN a2 (fun k => MR 3 (24 * r + k)) (MR 2) p i ∧ (∀ q : Nat, ¬ (24 * r + p ≤ q ∧ q < 24 * r + p + i) → M9 3 q = MR 3 q) ∧ (∀ k : Nat, k < i → M9 3 (24 * r + (p + k)) = ovV a2 (MR 3 (24 * r + (p + k))) (MR 2 k))) ∨ (¬ cOv (MR 0 10) (MR 0 3) (MR 4) a0 a1 a2 ∧ z9 = -1 ∧ M9 3 = MR 3)) : z = z9 ∧ iRi M8 M9 := by
  have g1 := h.1
  have k1 := hH.1
  have ec : cOv (MC 32 2) (MC 30 1) (fun r => MC (41 + 4 * r + 1) 1) a0 a1 a2 ↔ cOv (MR 0 10) (MR 0 3) (MR 4) a0 a1 a2 := by
    unfold cOv
    dsimp only
    rw [g1, k1]
    constructor
    · rintro ⟨x, y⟩
      obtain ⟨n, -, -, b3, b4, -⟩ := h.2.2 a0.toNat (by omega)
      rw [b3] at y
      rw [b4]
      exact ⟨x, y⟩
    · rintro ⟨x, y⟩
      obtain ⟨n, -, -, b3, b4, -⟩ := h.2.2 a0.toNat (by omega)
      rw [b4] at y
      rw [b3]
      exact ⟨x, y⟩
  rw [← ec] at q
  rcases p with ⟨p1, r, n, m, s, i, hr, hr4, hn, hm, hs, hsn, i1, i2, i3, d1, d2, d3, d4⟩ | ⟨p1, p2, p3⟩
  · rcases q with ⟨q1, r', n', m', s', i', hr', hn', hm', hs', j1, j2, j3, e1, e2, e3⟩ | ⟨q1, -⟩
    · have ha := p1.1
      have er : r' = r := by omega
      subst er
      obtain ⟨l, a1', a2', a3, a4, a5, a6, a7, a8, a9, a10, a11⟩ := h.2.2 r' (by omega)
      have es : s' = s := by omega
      have ei : i' = i := by omega
      have el : l = n := by omega
      subst es
      subst ei
      subst el
      have hand : ∀ k : Nat, k < i' → MC 31 k = MR 2 k := fun k hk => hH.2 k (by omega)
      refine ⟨?_, iRi_one (r0 := r') h (fun j hj => funext fun q => d2 j q (by omega)) (d2 32 2 (by omega)) (f9 0 10 (by omega)) (fun j k hj hk => f9 j k (by omega)) (fun q hq => e2 q (by omega)) ?_⟩
      · rw [d1, e1]
        exact ovN_cg i' (fun k hk => ⟨a10 _ (by omega), hand k hk⟩)
      · refine ⟨l, a1', a2', by rw [d2 _ _ (by omega)]; exact a3, (f9 4 _ (by omega)).trans a4, by rw [d2 _ _ (by omega), f9 5 _ (by omega)]; exact a5, by rw [d2 _ _ (by omega), f9 6 _ (by omega)]; exact a6, by rw [f9 6 _ (by omega)]; exact a7, by rw [d2 _ _ (by omega), f9 7 _ (by omega)]; exact a8, by rw [d2 _ _ (by omega), f9 8 _ (by omega)]; exact a9, fun k hk => ?_, fun a ha => by rw [d2 (41 + 4 * r') 3 (by omega)]; exact d4 a ha⟩
        by_cases c : s' ≤ k ∧ k < s' + i'
        · have x := d3 (k - s') (by omega)
          have y := e3 (k - s') (by omega)
          rw [show s' + (k - s') = k by omega] at x y
          rw [x, y, a10 k hk, hand _ (by omega)]
        · rw [d2 _ _ (by omega), e2 _ (by omega)]
          exact a10 k hk
    · exact absurd p1 q1
  · rcases q with ⟨q1, -⟩ | ⟨q1, q2, q3⟩
    · exact absurd q1 p1
    · rw [p3]
      exact ⟨by omega, iRi_kept h (fun j _ => rfl) rfl (f9 0 10 (by omega)) q3 (funext fun k => f9 4 k (by omega)) (funext fun k => f9 5 k (by omega)) (funext fun k => f9 6 k (by omega)) (funext fun k => f9 7 k (by omega)) (funext fun k => f9 8 k (by omega))⟩
