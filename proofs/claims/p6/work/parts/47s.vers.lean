/-! versions, alike -/
def iVe (MC MR : zM) : Prop := MC 96 0 = MR 0 32 ∧ MC 96 0 ≤ 16 ∧ ∀ v : Nat, (v : Int) < MC 96 0 → MC 98 v = MR 20 v ∧ MC 99 v = MR 21 v ∧ ∃ n : Nat, 1 ≤ n ∧ n ≤ 24 ∧ MC (101 + 2 * v) 1 = (n : Int) ∧ MR 19 v = (n : Int) ∧ ∀ k : Nat, k < n → MC (101 + 2 * v + 1) k = MR 18 (24 * v + k)
theorem iVe_kept {MC MR M8 M9 : zM} (h : iVe MC MR) (hC : ∀ j : Nat, 98 ≤ j ∧ j ≤ 132 ∧ j ≠ 100 → M8 j = MC j) (h0 : M8 96 0 = MC 96 0) (h1 : M9 0 32 = MR 0 32) (h18 : M9 18 = MR 18) (h19 : M9 19 = MR 19) (h20 : M9 20 = MR 20) (h21 : M9 21 = MR 21) : iVe M8 M9 := by
  obtain ⟨g1, g2, g3⟩ := h
  refine ⟨by rw [h0, h1]; exact g1, by rw [h0]; exact g2, fun v hv => ?_⟩
  rw [h0] at hv
  obtain ⟨a1, a2, n, a3, a4, a5, a6, a7⟩ := g3 v hv
  rw [hC 98 (by omega), hC 99 (by omega), hC (101 + 2 * v) (by omega), hC (101 + 2 * v + 1) (by omega), h18, h19, h20, h21]
  exact ⟨a1, a2, n, a3, a4, a5, a6, a7⟩
theorem ve_cd (v : Nat) (h : v < 16) : 101 + 2 * v < nC ∧ zcd wC (101 + 2 * v) = 6 ∧ zcd wC (101 + 2 * v + 1) = 7 := (by decide : ∀ v : Nat, v < 16 → 101 + 2 * v < nC ∧ zcd wC (101 + 2 * v) = 6 ∧ zcd wC (101 + 2 * v + 1) = 7) v h
def cKe (cnt vs day0 a0 a1 : Int) : Prop := (0 ≤ a0 ∧ a0 < cnt) ∧ (0 ≤ a1 ∧ a1 ≤ 999) ∧ vs < 16 ∧ (0 < vs → day0 ≤ a1)
set_option maxHeartbeats 2000000 in
theorem fC_keep {M : zM} {a0 a1 : Int} (hB : BN wC M) (v0 : -2147483648 ≤ a0 ∧ a0 ≤ 2147483647) (v1 : -2147483648 ≤ a1 ∧ a1 ≤ 2147483647) {Q : Int → zM → Prop} (hQ : ∀ (z : Int) (M1 : zM), BN wC M1 ∧ (∀ j9 : Nat, ¬ (j9 = 96 ∨ 98 ≤ j9 ∧ j9 ≤ 132 ∧ j9 ≠ 100) → M1 j9 = M j9) ∧ ((cKe (M 32 2) (M 96 0) (M 99 (M 96 0 - 1).toNat) a0 a1 ∧ ∃ r c n : Nat, a0 = (r : Int) ∧ r < 4 ∧ M 96 0 = (c : Int) ∧ c < 16 ∧ M (41 + 4 * r + 1) 1 = (n : Int) ∧ z = (c : Int) ∧ M1 96 0 = (c : Int) + 1 ∧ (∀ p q : Nat, ¬ (p = 96 ∧ q = 0 ∨ p = 98 ∧ q = c ∨ p = 99 ∧ q = c ∨ p = 101 + 2 * c ∧ q = 1 ∨ p = 101 + 2 * c + 1) → M1 p q = M p q) ∧ M1 98 c = a0 ∧ M1 99 c = a1 ∧ M1 (101 + 2 * c) 1 = (n : Int) ∧ (∀ k : Nat, k < n → M1 (101 + 2 * c + 1) k = M (41 + 4 * r + 2) k)) ∨ (¬ cKe (M 32 2) (M 96 0) (M 99 (M 96 0 - 1).toNat) a0 a1 ∧ z = -1 ∧ M1 = M)) → Q z M1) : wC_keep a0 a1 M Q := by
  unfold wC_keep
  have no : ¬ cKe (M 32 2) (M 96 0) (M 99 (M 96 0 - 1).toNat) a0 a1 → Q (-1) M := fun h => hQ _ _ ⟨hB, fun _ _ => rfl, Or.inr ⟨h, rfl, rfl⟩⟩
  refine fC_find hB v0 (fun h => ⟨fun _ => no (fun x => h x.1), fun q h => nomatch h⟩) (fun r hr h1 h2 => ⟨(fun h => nomatch h), fun q hq => ?_⟩)
  obtain rfl := Option.some.inj hq
  obtain ⟨g1, g2, g3, g4, g5, -⟩ := rg_cd r h2
  refine ⟨⟨g1, g2⟩, ?_⟩
  refine sC_within hB v1 (by omega) (by omega) (fun z p => ?_)
  obtain ⟨-, p, -⟩ := p
  refine ⟨fun d => ?_, fun d => no (fun x => by have := x.2.1; omega)⟩
  unfold wC_Versions_add
  have bv : 0 ≤ M 96 0 ∧ M 96 0 ≤ 16 := BN.at hB (rfl : zcd wC 96 = 44) rfl
  have bl : 0 ≤ M (41 + 4 * r + 1) 1 ∧ M (41 + 4 * r + 1) 1 ≤ 24 := BN.at hB g3 rfl
  have sv : sI (M 96 0) = M 96 0 := sIo (by omega) (by omega)
  have sv1 : sI (M 96 0 - 1) = M 96 0 - 1 := sIo (by omega) (by omega)
  have s1 : sI a1 = a1 := sIo v1.1 v1.2
  have b99 := BN.r32 hB 99 (M 96 0 - 1).toNat
  have s99 : sI (M 99 (M 96 0 - 1).toNat) = M 99 (M 96 0 - 1).toNat := sIo b99.1 b99.2
  rw [sv, sv1, s1, s99]
  refine ⟨fun d2 => no (fun x => by have := x.2.2.1; omega), fun d2 => ?_⟩
  refine pJ0_of (0 < M 96 0 → M 99 (M 96 0 - 1).toNat ≤ a1) (fun hJ => ?_) ⟨fun d3 => fun h => by omega, fun d3 => ⟨by omega, fun d4 => fun _ => d4, fun d4 => no (fun x => by have := x.2.2.2 d3; omega)⟩⟩
  obtain ⟨c, hc⟩ : ∃ c : Nat, M 96 0 = (c : Int) := ⟨(M 96 0).toNat, by omega⟩
  obtain ⟨n, hn⟩ : ∃ n : Nat, M (41 + 4 * r + 1) 1 = (n : Int) := ⟨(M (41 + 4 * r + 1) 1).toNat, by omega⟩
  have ok : cKe (M 32 2) (M 96 0) (M 99 (M 96 0 - 1).toNat) a0 a1 := ⟨by omega, by omega, d2, hJ⟩
  have tc : (M 96 0).toNat = c := by omega
  have tcc : ((c : Int)).toNat = c := by omega
  have sc : sI (c : Int) = c := sIo (by omega) (by omega)
  obtain ⟨w1, w2, w3⟩ := ve_cd c (by omega)
  refine ⟨by omega, ?_⟩
  rw [tc]
  refine fC_copy (x := (n, M (41 + 4 * r + 2))) hB w2 w3 g3 ⟨by omega, by omega, by omega⟩ ⟨hn, fun k _ => rfl⟩ (fun M14 h14 => ?_)
  obtain ⟨b14, f14, i14, -⟩ := h14
  have n14 : M14 96 0 = (c : Int) := (f14 _ _ (by omega)).trans hc
  rw [n14, sc, tcc]
  refine ⟨by omega, fun M16 e16 => ?_⟩
  have b16 : BN wC M16 := by rw [e16]; exact BN.up b14 (rfl : zcd wC 98 = 46) rfl v0.1 v0.2
  have n16 : M16 96 0 = (c : Int) := by rw [e16, zup_n _ _ (by omega)]; exact n14
  rw [n16, sc, tcc]
  refine ⟨by omega, fun M19 e19 => fun M21 e21 => ?_⟩
  have b19 : BN wC M19 := by rw [e19]; exact BN.up b16 (rfl : zcd wC 99 = 47) rfl v1.1 v1.2
  have n19 : M19 96 0 = (c : Int) := by rw [e19, zup_n _ _ (by omega)]; exact n16
  have b21 : BN wC M21 := by rw [e21]; exact BN.up b19 (rfl : zcd wC 96 = 44) rfl (by omega) (by omega)
  have n21 : M21 96 0 = (c : Int) + 1 := by rw [e21, zup_s, n19]
  have sz : sI (M21 96 0 - 1) = (c : Int) := by rw [n21, sIo (by omega) (by omega)]; omega
  have f21 : ∀ p q : Nat, ¬ (p = 96 ∧ q = 0 ∨ p = 98 ∧ q = c ∨ p = 99 ∧ q = c ∨ p = 101 + 2 * c ∧ q = 1 ∨ p = 101 + 2 * c + 1) → M21 p q = M p q := fun p q h => by rw [e21, zup_n _ _ (by omega), e19, zup_n _ _ (by omega), e16, zup_n _ _ (by omega)]; exact f14 _ _ (by omega)
  rw [sz]
  refine hQ _ _ ⟨b21, fun j9 h9 => funext fun q => f21 j9 q (by omega), Or.inl ⟨ok, r, c, n, hr, h2, hc, by omega, hn, rfl, n21, f21, ?_, ?_, ?_, fun k hk => ?_⟩⟩
  · rw [e21, zup_n _ _ (by omega), e19, zup_n _ _ (by omega), e16, zup_s]
  · rw [e21, zup_n _ _ (by omega), e19, zup_s]
  · rw [e21, zup_n _ _ (by omega), e19, zup_n _ _ (by omega), e16, zup_n _ _ (by omega)]
    exact i14.1
  · rw [e21, zup_n _ _ (by omega), e19, zup_n _ _ (by omega), e16, zup_n _ _ (by omega)]
    exact i14.2 k hk
set_option maxHeartbeats 2000000 in
theorem fR_keep {M : zM} {a0 a1 : Int} (hB : BI M) (v0 : -2147483648 ≤ a0 ∧ a0 ≤ 2147483647) (v1 : -2147483648 ≤ a1 ∧ a1 ≤ 2147483647) {Q : Int → zM → Prop} (hQ : ∀ (z : Int) (M1 : zM), BI M1 ∧ (∀ j9 k9 : Nat, ¬ (j9 = 0 ∧ k9 = 35 ∨ j9 = 0 ∧ k9 = 32 ∨ j9 = 18 ∨ j9 = 19 ∨ j9 = 20 ∨ j9 = 21) → M1 j9 k9 = M j9 k9) ∧ ((cKe (M 0 10) (M 0 32) (M 21 (M 0 32 - 1).toNat) a0 a1 ∧ ∃ r c n : Nat, a0 = (r : Int) ∧ M 0 32 = (c : Int) ∧ M 4 r = (n : Int) ∧ z = (c : Int) ∧ M1 0 32 = (c : Int) + 1 ∧ (∀ j k : Nat, 19 ≤ j ∧ j ≤ 21 → k ≠ c → M1 j k = M j k) ∧ (∀ k : Nat, ¬ (24 * c ≤ k ∧ k < 24 * c + 24) → M1 18 k = M 18 k) ∧ M1 20 c = a0 ∧ M1 21 c = a1 ∧ M1 19 c = (n : Int) ∧ (∀ k : Nat, k < n → M1 18 (24 * c + k) = M 3 (24 * r + k))) ∨ (¬ cKe (M 0 10) (M 0 32) (M 21 (M 0 32 - 1).toNat) a0 a1 ∧ z = -1 ∧ ∀ j9 k9 : Nat, ¬ (j9 = 0 ∧ k9 = 35) → M1 j9 k9 = M j9 k9)) → Q z M1) : wR_keep a0 a1 M Q := by
  unfold wR_keep
  intro M1 e1
  have hB1 : BI M1 := by rw [e1]; exact BI.up0 hB rfl (by omega) (by omega) (by decide)
  have hF1 : ∀ j9 k9 : Nat, ¬ (j9 = 0 ∧ k9 = 35) → M1 j9 k9 = M j9 k9 := fun j9 k9 h9 => by rw [e1]; exact zup_n _ _ (by omega)
  have r10 : M1 0 10 = M 0 10 := hF1 0 10 (by omega)
  have r32 : M1 0 32 = M 0 32 := hF1 0 32 (by omega)
  have r21 : M1 21 = M 21 := funext fun k => hF1 21 k (by omega)
  have no : ¬ cKe (M 0 10) (M 0 32) (M 21 (M 0 32 - 1).toNat) a0 a1 → Q (-1) M1 := fun h => hQ _ _ ⟨hB1, fun j9 k9 h9 => hF1 j9 k9 (by omega), Or.inr ⟨h, rfl, hF1⟩⟩
  refine fR_isRing hB1 v0 (fun h => ⟨fun _ => no (fun x => h (by rw [r10]; exact x.1)), fun c => absurd rfl c⟩) (fun r hr h1 h2 => ⟨fun c => absurd c (by decide), fun _ => ?_⟩)
  refine sR_in hB1 v1 (by omega) (by omega) (fun z p => ?_)
  obtain ⟨-, p, -⟩ := p
  refine ⟨fun d => no (fun x => by have := x.2.1; omega), fun d => ?_⟩
  have bv : 0 ≤ M 0 32 ∧ M 0 32 ≤ 16 := BN.at hB.1 (rfl : zcd wR 0 = 50) rfl
  have bl : 0 ≤ M 4 r ∧ M 4 r ≤ 24 := BN.at hB.1 (rfl : zcd wR 4 = 54) rfl
  have sv : sI (M 0 32) = M 0 32 := sIo (by omega) (by omega)
  have sv1 : sI (M 0 32 - 1) = M 0 32 - 1 := sIo (by omega) (by omega)
  have s0 : sI a0 = a0 := sIo v0.1 v0.2
  have s1 : sI a1 = a1 := sIo v1.1 v1.2
  have b21 := BN.r32 hB.1 21 (M 0 32 - 1).toNat
  have s21 : sI (M 21 (M 0 32 - 1).toNat) = M 21 (M 0 32 - 1).toNat := sIo b21.1 b21.2
  have hra : a0.toNat = r := by omega
  rw [r32, r21, sv, sv1, s0, s1, s21, hra]
  refine ⟨fun d2 => no (fun x => by have := x.2.2.1; omega), fun d2 => ?_⟩
  refine pJ0_of (0 < M 0 32 → M 21 (M 0 32 - 1).toNat ≤ a1) (fun hJ => ?_) ⟨fun d3 => fun h => by omega, fun d3 => ⟨by omega, fun d4 => fun _ => d4, fun d4 => no (fun x => by have := x.2.2.2 d3; omega)⟩⟩
  obtain ⟨c, hc⟩ : ∃ c : Nat, M 0 32 = (c : Int) := ⟨(M 0 32).toNat, by omega⟩
  obtain ⟨n, hn⟩ : ∃ n : Nat, M 4 r = (n : Int) := ⟨(M 4 r).toNat, by omega⟩
  have ok : cKe (M 0 10) (M 0 32) (M 21 (M 0 32 - 1).toNat) a0 a1 := ⟨by omega, by omega, by omega, hJ⟩
  have tc : (M 0 32).toNat = c := by omega
  have tcc : ((c : Int)).toNat = c := by omega
  have sc : sI (c : Int) = c := sIo (by omega) (by omega)
  refine ⟨by omega, ?_⟩
  rw [tc]
  intro M20 e20
  have b20 : BI M20 := by rw [e20]; exact BI.up hB1 (rfl : zcd wR 20 = 70) rfl v0.1 v0.2 (by decide)
  have n20 : M20 0 32 = (c : Int) := by rw [e20, zup_n _ _ (by omega), r32]; exact hc
  rw [n20, sc, tcc]
  refine ⟨by omega, fun M23 e23 => ?_⟩
  have b23 : BI M23 := by rw [e23]; exact BI.up b20 (rfl : zcd wR 21 = 71) rfl v1.1 v1.2 (by decide)
  have n23 : M23 0 32 = (c : Int) := by rw [e23, zup_n _ _ (by omega)]; exact n20
  have l23 : M23 4 r = (n : Int) := by rw [e23, zup_n _ _ (by omega), e20, zup_n _ _ (by omega), hF1 _ _ (by omega)]; exact hn
  rw [n23, sc, tcc, l23]
  refine ⟨by omega, by omega, fun M27 e27 => ?_⟩
  refine wL1_of (fun x P => BI P ∧ (∀ j k : Nat, ¬ (j = 0 ∧ k = 35 ∨ j = 18 ∧ 24 * c ≤ k ∧ k < 24 * c + 24 ∨ 19 ≤ j ∧ j ≤ 21 ∧ k = c) → P j k = M j k) ∧ P 20 c = a0 ∧ P 21 c = a1 ∧ P 19 c = (n : Int) ∧ ∃ i : Nat, x = (i : Int) ∧ i ≤ n ∧ ∀ k : Nat, k < i → P 18 (24 * c + k) = M 3 (24 * r + k)) (fun x _ => (1000 - x).toNat) ⟨by rw [e27]; exact BI.up b23 (rfl : zcd wR 19 = 69) rfl (by omega) (by omega) (by decide), fun j k h => by rw [e27, zup_n _ _ (by omega), e23, zup_n _ _ (by omega), e20, zup_n _ _ (by omega)]; exact hF1 j k (by omega), by rw [e27, zup_n _ _ (by omega), e23, zup_n _ _ (by omega), e20, zup_s], by rw [e27, zup_n _ _ (by omega), e23, zup_s], by rw [e27, zup_s], 0, rfl, by omega, fun k h => absurd h (Nat.not_lt_zero k)⟩ (fun K x P hI hK => ?_)
  obtain ⟨bP, fP, p20, p21, p19, i, rfl, i1, hv⟩ := hI
  have q32 : P 0 32 = (c : Int) := (fP _ _ (by omega)).trans hc
  have q4 : P 4 r = (n : Int) := (fP _ _ (by omega)).trans hn
  have sn : sI (n : Int) = n := sIo (by omega) (by omega)
  have si : sI (i : Int) = i := sIo (by omega) (by omega)
  have sa : sI (24 * a0 + (i : Int)) = 24 * (r : Int) + (i : Int) := by rw [hr]; exact sIo (by omega) (by omega)
  have sb : sI (24 * (c : Int) + (i : Int)) = 24 * (c : Int) + (i : Int) := sIo (by omega) (by omega)
  have ta : (24 * (r : Int) + (i : Int)).toNat = 24 * r + i := by omega
  have tb : (24 * (c : Int) + (i : Int)).toNat = 24 * c + i := by omega
  rw [q32, q4, sn, si, sa, sb, ta, tb]
  refine ⟨by omega, fun d3 => fun M40 e40 => ?_, fun d3 => ?_⟩
  · have n40 : M40 0 32 = (c : Int) + 1 := by rw [e40, zup_s]
    have sz : sI (M40 0 32 - 1) = (c : Int) := by rw [n40, sIo (by omega) (by omega)]; omega
    rw [sz]
    exact hQ _ _ ⟨by rw [e40]; exact BI.up0 bP rfl (by omega) (by omega) (by decide), fun j k h => by rw [e40, zup_n _ _ (by omega)]; exact fP j k (by omega), Or.inl ⟨ok, r, c, n, hr, hc, hn, rfl, n40, fun j k hj hk => by rw [e40, zup_n _ _ (by omega)]; exact fP j k (by omega), fun k hk => by rw [e40, zup_n _ _ (by omega)]; exact fP 18 k (by omega), by rw [e40, zup_n _ _ (by omega)]; exact p20, by rw [e40, zup_n _ _ (by omega)]; exact p21, by rw [e40, zup_n _ _ (by omega)]; exact p19, fun k hk => by rw [e40, zup_n _ _ (by omega)]; exact hv k (by omega)⟩⟩
  · have br := BN.r32 bP.1 3 (24 * r + i)
    refine ⟨by omega, by omega, fun M44 e44 => ?_⟩
    refine hK _ _ ⟨by rw [e44]; exact BI.up bP (rfl : zcd wR 18 = 68) rfl br.1 br.2 (by decide), fun j k h => by rw [e44, zup_n _ _ (by omega)]; exact fP j k h, by rw [e44, zup_n _ _ (by omega)]; exact p20, by rw [e44, zup_n _ _ (by omega)]; exact p21, by rw [e44, zup_n _ _ (by omega)]; exact p19, i + 1, by omega, by omega, fun k hk => ?_⟩ (by omega)
    rw [e44]
    by_cases c5 : k = i
    · rw [c5, zup_s]
      exact fP 3 _ (by omega)
    · rw [zup_n _ _ (by omega)]
      exact hv k (by omega)
theorem ve_keep {MC MR M8 M9 : zM} {a0 a1 z z9 : Int} (h : iVe MC MR) (hR : iRi MC MR) (hv0 : 0 ≤ MC 96 0) (p : (cKe (MC 32 2) (MC 96 0) (MC 99 (MC 96 0 - 1).toNat) a0 a1 ∧ ∃ r c n : Nat, a0 = (r : Int) ∧ r < 4 ∧ MC 96 0 = (c : Int) ∧ c < 16 ∧ MC (41 + 4 * r + 1) 1 = (n : Int) ∧ z = (c : Int) ∧ M8 96 0 = (c : Int) + 1 ∧ (∀ p q : Nat, ¬ (p = 96 ∧ q = 0 ∨ p = 98 ∧ q = c ∨ p = 99 ∧ q = c ∨ p = 101 + 2 * c ∧ q = 1 ∨ p = 101 + 2 * c + 1) → M8 p q = MC p q) ∧ M8 98 c = a0 ∧ M8 99 c = a1 ∧ M8 (101 + 2 * c) 1 = (n : Int) ∧ (∀ k : Nat, k < n → M8 (101 + 2 * c + 1) k = MC (41 + 4 * r + 2) k)) ∨ (¬ cKe (MC 32 2) (MC 96 0) (MC 99 (MC 96 0 - 1).toNat) a0 a1 ∧ z = -1 ∧ M8 = MC)) (q : (cKe (MR 0 10) (MR 0 32) (MR 21 (MR 0 32 - 1).toNat) a0 a1 ∧ ∃ r c n : Nat, a0 = (r : Int) ∧ MR 0 32 = (c : Int) ∧ MR 4 r = (n : Int) ∧ z9 = (c : Int) ∧ M9 0 32 = (c : Int) + 1 ∧ (∀ j k : Nat, 19 ≤ j ∧ j ≤ 21 → k ≠ c → M9 j k = MR j k) ∧ (∀ k : Nat, ¬ (24 * c ≤ k ∧ k < 24 * c + 24) → M9 18 k = MR 18 k) ∧ M9 20 c = a0 ∧ M9 21 c = a1 ∧ M9 19 c = (n : Int) ∧ (∀ k : Nat, k < n → M9 18 (24 * c + k) = MR 3 (24 * r + k))) ∨ (¬ cKe (MR 0 10) (MR 0 32) (MR 21 (MR 0 32 - 1).toNat) a0 a1 ∧ z9 = -1 ∧ ∀ j9 k9 : Nat, ¬ (j9 = 0 ∧ k9 = 35) → M9 j9 k9 = MR j9 k9)) : z = z9 ∧ iVe M8 M9 := by
  obtain ⟨g1, g2, g3⟩ := id h
  have ec : cKe (MC 32 2) (MC 96 0) (MC 99 (MC 96 0 - 1).toNat) a0 a1 ↔ cKe (MR 0 10) (MR 0 32) (MR 21 (MR 0 32 - 1).toNat) a0 a1 := by
    have e1 := hR.1
    unfold cKe
    by_cases c : 0 < MC 96 0
    · have e2 := (g3 (MC 96 0 - 1).toNat (by omega)).2.1
      rw [e1, g1] at *
      rw [e2]
    · constructor
      · rintro ⟨x1, x2, x3, x4⟩
        exact ⟨by omega, x2, by omega, fun x => by omega⟩
      · rintro ⟨x1, x2, x3, x4⟩
        exact ⟨by omega, x2, by omega, fun x => by omega⟩
  rw [← ec] at q
  rcases p with ⟨p1, r, c, n, hr, hr4, hc, c16, hn, d1, d2, d3, d4, d5, d6, d7⟩ | ⟨p1, p2, p3⟩
  · rcases q with ⟨q1, r', c', n', hr', hc', hn', e1, e2, e3, e4, e5, e6, e7, e8⟩ | ⟨q1, -⟩
    · have er : r' = r := by omega
      have ecc : c' = c := by omega
      subst er
      subst ecc
      obtain ⟨l, a1', a2', a3, a4, a5, a6, a7, a8, a9, a10, a11⟩ := hR.2.2 r' (by have := p1.1; omega)
      have en : n' = n := by omega
      have el : l = n := by omega
      subst en
      subst el
      refine ⟨by omega, by omega, by omega, fun v hv => ?_⟩
      by_cases cv : v = c'
      · subst cv
        exact ⟨by rw [d4, e5], by rw [d5, e6], l, a1', a2', d6, e7, fun k hk => by rw [d7 k hk, e8 k hk]; exact a10 k hk⟩
      · obtain ⟨b1, b2, m, b3, b4, b5, b6, b7⟩ := g3 v (by omega)
        exact ⟨by rw [d3 _ _ (by omega), e3 20 v (by omega) cv]; exact b1, by rw [d3 _ _ (by omega), e3 21 v (by omega) cv]; exact b2, m, b3, b4, by rw [d3 _ _ (by omega)]; exact b5, by rw [e3 19 v (by omega) cv]; exact b6, fun k hk => by rw [d3 _ _ (by omega), e4 _ (by omega)]; exact b7 k hk⟩
    · exact absurd p1 q1
  · rcases q with ⟨q1, -⟩ | ⟨q1, q2, q3⟩
    · exact absurd q1 p1
    · rw [p3]
      exact ⟨by omega, iVe_kept h (fun _ _ => rfl) rfl (q3 0 32 (by omega)) (funext fun k => q3 18 k (by omega)) (funext fun k => q3 19 k (by omega)) (funext fun k => q3 20 k (by omega)) (funext fun k => q3 21 k (by omega))⟩
/-- fetched: the hand is that version -/
theorem fC_fetch {M : zM} {a0 : Int} (hB : BN wC M) (v0 : -2147483648 ≤ a0 ∧ a0 ≤ 2147483647) {Q : Int → zM → Prop} (hQ : ∀ (z : Int) (M1 : zM), BN wC M1 ∧ (∀ j9 : Nat, ¬ (30 ≤ j9 ∧ j9 ≤ 31) → M1 j9 = M j9) ∧ (((0 ≤ a0 ∧ a0 < M 96 0) ∧ ∃ v n : Nat, a0 = (v : Int) ∧ M (101 + 2 * v) 1 = (n : Int) ∧ z = (n : Int) ∧ M1 30 1 = (n : Int) ∧ ∀ k : Nat, k < n → M1 31 k = M (101 + 2 * v + 1) k) ∨ (¬ (0 ≤ a0 ∧ a0 < M 96 0) ∧ z = -1 ∧ M1 30 = M 30 ∧ M1 31 = M 31)) → Q z M1) : wC_fetch a0 M Q := by
  unfold wC_fetch
  refine sC_Versions_find hB v0 (fun h => ⟨fun _ => hQ _ _ ⟨hB, fun _ _ => rfl, Or.inr ⟨fun x => by omega, rfl, rfl, rfl⟩⟩, fun q h => nomatch h⟩) (fun q hq => ⟨(fun h => nomatch h), fun q9 h9 => ?_⟩)
  obtain rfl := Option.some.inj h9
  obtain ⟨⟨c1, c2⟩, rfl, h2, h3, h4⟩ := hq
  obtain ⟨w1, w2, w3⟩ := ve_cd a0.toNat (by omega)
  have bl : 0 ≤ M (101 + 2 * a0.toNat) 1 ∧ M (101 + 2 * a0.toNat) 1 ≤ 24 := BN.at hB w2 rfl
  refine ⟨⟨c1, c2⟩, ?_⟩
  refine fC_copy (x := ((M (101 + 2 * a0.toNat) 1).toNat, M (101 + 2 * a0.toNat + 1))) hB (rfl : zcd wC 30 = 6) (rfl : zcd wC (30 + 1) = 7) w2 ⟨by omega, by omega, by omega⟩ ⟨by show M (101 + 2 * a0.toNat) 1 = (((M (101 + 2 * a0.toNat) 1).toNat : Nat) : Int); omega, fun k _ => rfl⟩ (fun M9 h9 => ?_)
  obtain ⟨b9, f9, i9, -⟩ := h9
  have n9 : M9 30 1 = (((M (101 + 2 * a0.toNat) 1).toNat : Nat) : Int) := i9.1
  have s9 : sI (M9 30 1) = (((M (101 + 2 * a0.toNat) 1).toNat : Nat) : Int) := by rw [n9]; exact sIo (by omega) (by omega)
  rw [s9]
  exact hQ _ _ ⟨b9, fun j9 h9 => funext fun q => f9 j9 q (by omega), Or.inl ⟨by omega, a0.toNat, (M (101 + 2 * a0.toNat) 1).toNat, by omega, by omega, rfl, n9, i9.2⟩⟩
theorem fR_fetch {M : zM} {a0 : Int} (hB : BI M) (v0 : -2147483648 ≤ a0 ∧ a0 ≤ 2147483647) {Q : Int → zM → Prop} (hQ : ∀ (z : Int) (M1 : zM), BI M1 ∧ (∀ j9 k9 : Nat, ¬ (j9 = 0 ∧ k9 = 35 ∨ j9 = 0 ∧ k9 = 3 ∨ j9 = 2) → M1 j9 k9 = M j9 k9) ∧ (((0 ≤ a0 ∧ a0 < M 0 32) ∧ ∃ v n : Nat, a0 = (v : Int) ∧ M 19 v = (n : Int) ∧ z = (n : Int) ∧ M1 0 3 = (n : Int) ∧ ∀ k : Nat, k < n → M1 2 k = M 18 (24 * v + k)) ∨ (¬ (0 ≤ a0 ∧ a0 < M 0 32) ∧ z = -1 ∧ M1 0 3 = M 0 3 ∧ M1 2 = M 2)) → Q z M1) : wR_fetch a0 M Q := by
  unfold wR_fetch
  intro M1 e1
  have hB1 : BI M1 := by rw [e1]; exact BI.up0 hB rfl (by omega) (by omega) (by decide)
  have hF1 : ∀ j9 k9 : Nat, ¬ (j9 = 0 ∧ k9 = 35) → M1 j9 k9 = M j9 k9 := fun j9 k9 h9 => by rw [e1]; exact zup_n _ _ (by omega)
  have r32 : M1 0 32 = M 0 32 := hF1 0 32 (by omega)
  have bv : 0 ≤ M 0 32 ∧ M 0 32 ≤ 16 := BN.at hB.1 (rfl : zcd wR 0 = 50) rfl
  have s0 : sI a0 = a0 := sIo v0.1 v0.2
  rw [r32, s0]
  refine sR_in hB1 v0 (by omega) (by omega) (fun z p => ?_)
  obtain ⟨-, p, -⟩ := p
  refine ⟨fun d => ⟨by omega, fun M9 e9 => ?_⟩, fun d => hQ _ _ ⟨hB1, fun j k h => hF1 j k (by omega), Or.inr ⟨fun x => by omega, rfl, hF1 0 3 (by omega), funext fun k => hF1 2 k (by omega)⟩⟩⟩
  obtain ⟨v, hv⟩ : ∃ v : Nat, a0 = (v : Int) := ⟨a0.toNat, by omega⟩
  have tv : a0.toNat = v := by omega
  have bl : 0 ≤ M 19 v ∧ M 19 v ≤ 24 := BN.at hB.1 (rfl : zcd wR 19 = 69) rfl
  obtain ⟨n, hn⟩ : ∃ n : Nat, M 19 v = (n : Int) := ⟨(M 19 v).toNat, by omega⟩
  rw [tv, hF1 19 v (by omega), hn] at e9
  refine wL1_of (fun x P => BI P ∧ (∀ j k : Nat, ¬ (j = 0 ∧ k = 35 ∨ j = 0 ∧ k = 3 ∨ j = 2) → P j k = M j k) ∧ P 0 3 = (n : Int) ∧ ∃ i : Nat, x = (i : Int) ∧ i ≤ n ∧ ∀ k : Nat, k < i → P 2 k = M 18 (24 * v + k)) (fun x _ => (1000 - x).toNat) ⟨by rw [e9]; exact BI.up0 hB1 (rfl : cbt 50 3 = (0, 24)) (by omega) (by omega) (by decide), fun j k h => by rw [e9, zup_n _ _ (by omega)]; exact hF1 j k (by omega), by rw [e9, zup_s], 0, rfl, by omega, fun k h => absurd h (Nat.not_lt_zero k)⟩ (fun K x P hI hK => ?_)
  obtain ⟨bP, fP, p3, i, rfl, i1, hw⟩ := hI
  have sn : sI (n : Int) = n := sIo (by omega) (by omega)
  have si : sI (i : Int) = i := sIo (by omega) (by omega)
  have sa : sI (24 * a0 + (i : Int)) = 24 * (v : Int) + (i : Int) := by rw [hv]; exact sIo (by omega) (by omega)
  have ta : (24 * (v : Int) + (i : Int)).toNat = 24 * v + i := by omega
  have ti : ((i : Int)).toNat = i := by omega
  rw [p3, sn, si, sa, ta, ti]
  refine ⟨fun d3 => hQ _ _ ⟨bP, fP, Or.inl ⟨by omega, v, n, hv, hn, rfl, p3, fun k hk => hw k (by omega)⟩⟩, fun d3 => ⟨by omega, by omega, fun M23 e23 => ?_⟩⟩
  have br := BN.r32 bP.1 18 (24 * v + i)
  refine hK _ _ ⟨by rw [e23]; exact BI.up bP (rfl : zcd wR 2 = 52) rfl br.1 br.2 (by decide), fun j k h => by rw [e23, zup_n _ _ (by omega)]; exact fP j k h, by rw [e23, zup_n _ _ (by omega)]; exact p3, i + 1, by omega, by omega, fun k hk => ?_⟩ (by omega)
  rw [e23]
  by_cases c5 : k = i
  · rw [c5, zup_s]
    exact fP 18 _ (by omega)
  · rw [zup_n _ _ (by omega)]
    exact hw k (by omega)
theorem ha_fetch {MC MR M8 M9 : zM} {a0 z z9 : Int} (h : iHa MC MR) (hV : iVe MC MR) (p : ((0 ≤ a0 ∧ a0 < MC 96 0) ∧ ∃ v n : Nat, a0 = (v : Int) ∧ MC (101 + 2 * v) 1 = (n : Int) ∧ z = (n : Int) ∧ M8 30 1 = (n : Int) ∧ ∀ k : Nat, k < n → M8 31 k = MC (101 + 2 * v + 1) k) ∨ (¬ (0 ≤ a0 ∧ a0 < MC 96 0) ∧ z = -1 ∧ M8 30 = MC 30 ∧ M8 31 = MC 31)) (q : ((0 ≤ a0 ∧ a0 < MR 0 32) ∧ ∃ v n : Nat, a0 = (v : Int) ∧ MR 19 v = (n : Int) ∧ z9 = (n : Int) ∧ M9 0 3 = (n : Int) ∧ ∀ k : Nat, k < n → M9 2 k = MR 18 (24 * v + k)) ∨ (¬ (0 ≤ a0 ∧ a0 < MR 0 32) ∧ z9 = -1 ∧ M9 0 3 = MR 0 3 ∧ M9 2 = MR 2)) : z = z9 ∧ iHa M8 M9 := by
  obtain ⟨g1, g2, g3⟩ := hV
  rw [← g1] at q
  rcases p with ⟨p1, v, n, hv, hn, d1, d2, d3⟩ | ⟨p1, p2, p3, p4⟩
  · rcases q with ⟨q1, v', n', hv', hn', e1, e2, e3⟩ | ⟨q1, -⟩
    · have ev : v' = v := by omega
      subst ev
      obtain ⟨-, -, m, b1, b2, b3, b4, b5⟩ := g3 v' (by omega)
      have en : n' = n := by omega
      have em : m = n := by omega
      subst en
      subst em
      exact ⟨by omega, by omega, fun k hk => by rw [d3 k (by omega), e3 k (by omega)]; exact b5 k (by omega)⟩
    · exact absurd p1 q1
  · rcases q with ⟨q1, -⟩ | ⟨q1, q2, q3, q4⟩
    · exact absurd q1 p1
    · refine ⟨by omega, ?_⟩
      unfold iHa
      rw [p3, p4, q3, q4]
      exact h
