section zz47s_vers
/-! versions, alike -/
def iVe (MC MR : zM) : Prop := MC 96 0 = MR 0 32 ∧ MC 96 0 ≤ 16 ∧ ∀ v : Nat, (v : Int) < MC 96 0 → MC 98 v = MR 20 v ∧ MC 99 v = MR 21 v ∧ ∃ n : Nat, 1 ≤ n ∧ n ≤ 24 ∧ MC (101 + 2 * v) 1 = (n : Int) ∧ MR 19 v = (n : Int) ∧ ∀ k : Nat, k < n → MC (101 + 2 * v + 1) k = MR 18 (24 * v + k)
theorem iVe_kept {MC MR M8 M9 : zM} (h : iVe MC MR) (hC : ∀ j : Nat, 98 ≤ j ∧ j ≤ 132 ∧ j ≠ 100 → M8 j = MC j) (h0 : M8 96 0 = MC 96 0) (h1 : M9 0 32 = MR 0 32) (h18 : M9 18 = MR 18) (h19 : M9 19 = MR 19) (h20 : M9 20 = MR 20) (h21 : M9 21 = MR 21) : iVe M8 M9 := by
  obtain ⟨g1, g2, g3⟩ := h
  refine ⟨by rw [h0, h1]; exact g1, by rw [h0]; exact g2, fun v hv => ?_⟩
  rw [h0] at hv
  obtain ⟨a1, a2, n, a3, a4, a5, a6, a7⟩ := g3 v hv
  rw [hC 98 (by omega), hC 99 (by omega), hC (101 + 2 * v) (by omega), hC (101 + 2 * v + 1) (by omega), h18, h19, h20, h21]
  exact ⟨a1, a2, n, a3, a4, a5, a6, a7⟩
theorem ve_cd (v : Nat) (h : v < 16) : 101 + 2 * v < nC ∧ zcd wC (101 + 2 * v) = 6 ∧ zcd wC (101 + 2 * v + 1) = 7 := (by decide : ∀ v : Nat, v < 16 → 101 + 2 * v < nC ∧ zcd wC (101 + 2 * v) = 6 ∧ zcd wC (101 + 2 * v + 1) = 7) v h
def cKe (cnt vs day0 a0 a1 : Int) : Prop := (0 ≤ a0 ∧ a0 < cnt) ∧ (0 ≤ a1 ∧ a1 ≤ 999) ∧ vs < 16 ∧ (0 < vs → day0 ≤ a1)
set_option maxHeartbeats 2000000 in
theorem fC_keep {M : zM} {a0 a1 : Int} (hB : BN wC M) (v0 : -2147483648 ≤ a0 ∧ a0 ≤ 2147483647) (v1 : -2147483648 ≤ a1 ∧ a1 ≤ 2147483647) {Q : Int → zM → Prop} (hQ : ∀ (z : Int) (M1 : zM), BN wC M1 ∧ (∀ j9 : Nat, ¬ (j9 = 96 ∨ 98 ≤ j9 ∧ j9 ≤ 132 ∧ j9 ≠ 100) → M1 j9 = M j9) ∧ ((cKe (M 32 2) (M 96 0) (M 99 (M 96 0 - 1).toNat) a0 a1 ∧ ∃ r c n : Nat, a0 = (r : Int) ∧ r < 4 ∧ M 96 0 = (c : Int) ∧ c < 16 ∧ M (41 + 4 * r + 1) 1 = (n : Int) ∧ z = (c : Int) ∧ M1 96 0 = (c : Int) + 1 ∧ (∀ p q : Nat, ¬ (p = 96 ∧ q = 0 ∨ p = 98 ∧ q = c ∨ p = 99 ∧ q = c ∨ p = 101 + 2 * c ∧ q = 1 ∨ p = 101 + 2 * c + 1) → M1 p q = M p q) ∧ M1 98 c = a0 ∧ M1 99 c = a1 ∧ M1 (101 + 2 * c) 1 = (n : Int) ∧ (∀ k : Nat, k < n → M1 (101 + 2 * c + 1) k = M (41 + 4 * r + 2) k)) ∨ (¬ cKe (M 32 2) (M 96 0) (M 99 (M 96 0 - 1).toNat) a0 a1 ∧ z = -1 ∧ M1 = M)) → Q z M1) : wC_keep a0 a1 M Q := by
  unfold wC_keep
  have no : ¬ cKe (M 32 2) (M 96 0) (M 99 (M 96 0 - 1).toNat) a0 a1 → Q (-1) M := fun h => hQ _ _ ⟨hB, fun _ _ => rfl, Or.inr ⟨h, rfl, rfl⟩⟩
  refine fC_find hB v0 (fun h => ⟨fun _ => no (fun x => h x.1), fun q h => nomatch h⟩) (fun r hr h1 h2 => ⟨(fun h => nomatch h), fun q hq => ?_⟩)
  obtain rfl := Option.some.inj hq
  obtain ⟨g1, g2, g3, g4, g5, -⟩ := rg_cd r h2
  refine ⟨⟨g1, g2⟩, ?_⟩
  refine sC_within hB v1 (by omega) (by omega) (fun z p => ?_)
  obtain ⟨-, p, -⟩ := p
  refine ⟨fun d => ?_, fun d => no (fun x => by have := x.2.1; omega)⟩
  unfold wC_Versions_add
  have bv : 0 ≤ M 96 0 ∧ M 96 0 ≤ 16 := BN.at hB (rfl : zcd wC 96 = 44) rfl
  have bl : 0 ≤ M (41 + 4 * r + 1) 1 ∧ M (41 + 4 * r + 1) 1 ≤ 24 := BN.at hB g3 rfl
  have sv : sI (M 96 0) = M 96 0 := sIo (by omega) (by omega)
  have sv1 : sI (M 96 0 - 1) = M 96 0 - 1 := sIo (by omega) (by omega)
  have s1 : sI a1 = a1 := sIo v1.1 v1.2
  have b99 := BN.r32 hB 99 (M 96 0 - 1).toNat
  have s99 : sI (M 99 (M 96 0 - 1).toNat) = M 99 (M 96 0 - 1).toNat := sIo b99.1 b99.2
  rw [sv, sv1, s1, s99]
  clear sv sv1 s1 s99 b99
  refine ⟨fun d2 => no (fun x => by have := x.2.2.1; omega), fun d2 => ?_⟩
  refine pJ0_of (0 < M 96 0 → M 99 (M 96 0 - 1).toNat ≤ a1) (fun hJ => ?_) ⟨fun d3 => fun h => by omega, fun d3 => ⟨by omega, fun d4 => fun _ => d4, fun d4 => no (fun x => by have := x.2.2.2 d3; omega)⟩⟩
  obtain ⟨c, hc⟩ : ∃ c : Nat, M 96 0 = (c : Int) := ⟨(M 96 0).toNat, by omega⟩
  obtain ⟨n, hn⟩ : ∃ n : Nat, M (41 + 4 * r + 1) 1 = (n : Int) := ⟨(M (41 + 4 * r + 1) 1).toNat, by omega⟩
  have ok : cKe (M 32 2) (M 96 0) (M 99 (M 96 0 - 1).toNat) a0 a1 := ⟨by omega, by omega, d2, hJ⟩
  clear hJ no p d
  have tc : (M 96 0).toNat = c := by omega
  have tcc : ((c : Int)).toNat = c := by omega
  have sc : sI (c : Int) = c := sIo (by omega) (by omega)
  obtain ⟨w1, w2, w3⟩ := ve_cd c (by omega)
  refine ⟨by omega, ?_⟩
  rw [tc]
  clear tc
  refine fC_copy (x := (n, M (41 + 4 * r + 2))) hB w2 w3 g3 ⟨by omega, by omega, by omega⟩ ⟨hn, fun k _ => rfl⟩ (fun M14 h14 => ?_)
  obtain ⟨b14, f14, i14, -⟩ := h14
  have n14 : M14 96 0 = (c : Int) := (f14 _ _ (by omega)).trans hc
  rw [n14, sc, tcc]
  refine ⟨by omega, fun M16 e16 => ?_⟩
  have b16 : BN wC M16 := by rw [e16]; exact BN.up b14 (rfl : zcd wC 98 = 46) rfl v0.1 v0.2
  have n16 : M16 96 0 = (c : Int) := by rw [e16, zup_n _ _ (by omega)]; exact n14
  rw [n16, sc, tcc]
  clear tcc
  refine ⟨by omega, fun M19 e19 => fun M21 e21 => ?_⟩
  have b19 : BN wC M19 := by rw [e19]; exact BN.up b16 (rfl : zcd wC 99 = 47) rfl v1.1 v1.2
  have n19 : M19 96 0 = (c : Int) := by rw [e19, zup_n _ _ (by omega)]; exact n16
  have b21 : BN wC M21 := by rw [e21]; exact BN.up b19 (rfl : zcd wC 96 = 44) rfl (by omega) (by omega)
  have n21 : M21 96 0 = (c : Int) + 1 := by rw [e21, zup_s, n19]
  have sz : sI (M21 96 0 - 1) = (c : Int) := by rw [n21, sIo (by omega) (by omega)]; omega
  have f21 : ∀ p q : Nat, ¬ (p = 96 ∧ q = 0 ∨ p = 98 ∧ q = c ∨ p = 99 ∧ q = c ∨ p = 101 + 2 * c ∧ q = 1 ∨ p = 101 + 2 * c + 1) → M21 p q = M p q := fun p q h => by rw [e21, zup_n _ _ (by omega), e19, zup_n _ _ (by omega), e16, zup_n _ _ (by omega)]; exact f14 _ _ (by omega)
  rw [sz]
  refine hQ _ _ ⟨b21, fun j9 h9 => funext fun q => f21 j9 q (by omega), Or.inl ⟨ok, r, c, n, hr, h2, hc, by omega, hn, rfl, n21, f21, ?_, ?_, ?_, fun k hk => ?_⟩⟩
  · rw [e21, zup_n _ _ (by omega), e19, zup_n _ _ (by omega), e16, zup_s]
  · rw [e21, zup_n _ _ (by omega), e19, zup_s]
  · rw [e21, zup_n _ _ (by omega), e19, zup_n _ _ (by omega), e16, zup_n _ _ (by omega)]
    exact i14.1
  · rw [e21, zup_n _ _ (by omega), e19, zup_n _ _ (by omega), e16, zup_n _ _ (by omega)]
    exact i14.2 k hk
set_option maxHeartbeats 2000000 in
theorem fR_keep {M : zM} {a0 a1 : Int} (hB : BI M) (v0 : -2147483648 ≤ a0 ∧ a0 ≤ 2147483647) (v1 : -2147483648 ≤ a1 ∧ a1 ≤ 2147483647) {Q : Int → zM → Prop} (hQ : ∀ (z : Int) (M1 : zM), BI M1 ∧ (∀ j9 k9 : Nat, ¬ (j9 = 0 ∧ k9 = 35 ∨ j9 = 0 ∧ k9 = 32 ∨ j9 = 18 ∨ j9 = 19 ∨ j9 = 20 ∨ j9 = 21) → M1 j9 k9 = M j9 k9) ∧ ((cKe (M 0 10) (M 0 32) (M 21 (M 0 32 - 1).toNat) a0 a1 ∧ ∃ r c n : Nat, a0 = (r : Int) ∧ M 0 32 = (c : Int) ∧ M 4 r = (n : Int) ∧ z = (c : Int) ∧ M1 0 32 = (c : Int) + 1 ∧ (∀ j k : Nat, 19 ≤ j ∧ j ≤ 21 → k ≠ c → M1 j k = M j k) ∧ (∀ k : Nat, ¬ (24 * c ≤ k ∧ k < 24 * c + 24) → M1 18 k = M 18 k) ∧ M1 20 c = a0 ∧ M1 21 c = a1 ∧ M1 19 c = (n : Int) ∧ (∀ k : Nat, k < n → M1 18 (24 * c + k) = M 3 (24 * r + k))) ∨ (¬ cKe (M 0 10) (M 0 32) (M 21 (M 0 32 - 1).toNat) a0 a1 ∧ z = -1 ∧ ∀ j9 k9 : Nat, ¬ (j9 = 0 ∧ k9 = 35) → M1 j9 k9 = M j9 k9)) → Q z M1) : wR_keep a0 a1 M Q := by
  unfold wR_keep
  intro M1 e1
  have hB1 : BI M1 := by rw [e1]; exact BI.up0 hB rfl (by omega) (by omega) (by decide)
  have hF1 : ∀ j9 k9 : Nat, ¬ (j9 = 0 ∧ k9 = 35) → M1 j9 k9 = M j9 k9 := fun j9 k9 h9 => by rw [e1]; exact zup_n _ _ (by omega)
  have r10 : M1 0 10 = M 0 10 := hF1 0 10 (by omega)
  have r32 : M1 0 32 = M 0 32 := hF1 0 32 (by omega)
  have r21 : M1 21 = M 21 := funext fun k => hF1 21 k (by omega)
  have no : ¬ cKe (M 0 10) (M 0 32) (M 21 (M 0 32 - 1).toNat) a0 a1 → Q (-1) M1 := fun h => hQ _ _ ⟨hB1, fun j9 k9 h9 => hF1 j9 k9 (by omega), Or.inr ⟨h, rfl, hF1⟩⟩
  refine fR_isRing hB1 v0 (fun h => ⟨fun _ => no (fun x => h (by rw [r10]; exact x.1)), fun c => absurd rfl c⟩) (fun r hr h1 h2 => ⟨fun c => absurd c (by decide), fun _ => ?_⟩)
  refine sR_in hB1 v1 (by omega) (by omega) (fun z p => ?_)
  obtain ⟨-, p, -⟩ := p
  refine ⟨fun d => no (fun x => by have := x.2.1; omega), fun d => ?_⟩
  have bv : 0 ≤ M 0 32 ∧ M 0 32 ≤ 16 := BN.at hB.1 (rfl : zcd wR 0 = 50) rfl
  have bl : 0 ≤ M 4 r ∧ M 4 r ≤ 24 := BN.at hB.1 (rfl : zcd wR 4 = 54) rfl
  have sv : sI (M 0 32) = M 0 32 := sIo (by omega) (by omega)
  have sv1 : sI (M 0 32 - 1) = M 0 32 - 1 := sIo (by omega) (by omega)
  have s0 : sI a0 = a0 := sIo v0.1 v0.2
  have s1 : sI a1 = a1 := sIo v1.1 v1.2
  have b21 := BN.r32 hB.1 21 (M 0 32 - 1).toNat
  have s21 : sI (M 21 (M 0 32 - 1).toNat) = M 21 (M 0 32 - 1).toNat := sIo b21.1 b21.2
  have hra : a0.toNat = r := by omega
  rw [r32, r21, sv, sv1, s0, s1, s21, hra]
  clear sv sv1 s0 s1 s21 hra b21
  refine ⟨fun d2 => no (fun x => by have := x.2.2.1; omega), fun d2 => ?_⟩
  refine pJ0_of (0 < M 0 32 → M 21 (M 0 32 - 1).toNat ≤ a1) (fun hJ => ?_) ⟨fun d3 => fun h => by omega, fun d3 => ⟨by omega, fun d4 => fun _ => d4, fun d4 => no (fun x => by have := x.2.2.2 d3; omega)⟩⟩
  obtain ⟨c, hc⟩ : ∃ c : Nat, M 0 32 = (c : Int) := ⟨(M 0 32).toNat, by omega⟩
  obtain ⟨n, hn⟩ : ∃ n : Nat, M 4 r = (n : Int) := ⟨(M 4 r).toNat, by omega⟩
  have ok : cKe (M 0 10) (M 0 32) (M 21 (M 0 32 - 1).toNat) a0 a1 := ⟨by omega, by omega, by omega, hJ⟩
  clear hJ p d no
  have tc : (M 0 32).toNat = c := by omega
  have tcc : ((c : Int)).toNat = c := by omega
  have sc : sI (c : Int) = c := sIo (by omega) (by omega)
  refine ⟨by omega, ?_⟩
  rw [tc]
  clear tc
  intro M20 e20
  have b20 : BI M20 := by rw [e20]; exact BI.up hB1 (rfl : zcd wR 20 = 70) rfl v0.1 v0.2 (by decide)
  have n20 : M20 0 32 = (c : Int) := by rw [e20, zup_n _ _ (by omega), r32]; exact hc
  rw [n20, sc, tcc]
  refine ⟨by omega, fun M23 e23 => ?_⟩
  have b23 : BI M23 := by rw [e23]; exact BI.up b20 (rfl : zcd wR 21 = 71) rfl v1.1 v1.2 (by decide)
  have n23 : M23 0 32 = (c : Int) := by rw [e23, zup_n _ _ (by omega)]; exact n20
  have l23 : M23 4 r = (n : Int) := by rw [e23, zup_n _ _ (by omega), e20, zup_n _ _ (by omega), hF1 _ _ (by omega)]; exact hn
  rw [n23, sc, tcc, l23]
  clear tcc
  refine ⟨by omega, by omega, fun M27 e27 => ?_⟩
  refine wL1_of (fun x P => BI P ∧ (∀ j k : Nat, ¬ (j = 0 ∧ k = 35 ∨ j = 18 ∧ 24 * c ≤ k ∧ k < 24 * c + 24 ∨ 19 ≤ j ∧ j ≤ 21 ∧ k = c) → P j k = M j k) ∧ P 20 c = a0 ∧ P 21 c = a1 ∧ P 19 c = (n : Int) ∧ ∃ i : Nat, x = (i : Int) ∧ i ≤ n ∧ ∀ k : Nat, k < i → P 18 (24 * c + k) = M 3 (24 * r + k)) (fun x _ => (1000 - x).toNat) ⟨by rw [e27]; exact BI.up b23 (rfl : zcd wR 19 = 69) rfl (by omega) (by omega) (by decide), fun j k h => by rw [e27, zup_n _ _ (by omega), e23, zup_n _ _ (by omega), e20, zup_n _ _ (by omega)]; exact hF1 j k (by omega), by rw [e27, zup_n _ _ (by omega), e23, zup_n _ _ (by omega), e20, zup_s], by rw [e27, zup_n _ _ (by omega), e23, zup_s], by rw [e27, zup_s], 0, rfl, by omega, fun k h => absurd h (Nat.not_lt_zero k)⟩ (fun K x P hI hK => ?_)
  obtain ⟨bP, fP, p20, p21, p19, i, rfl, i1, hv⟩ := hI
  have q32 : P 0 32 = (c : Int) := (fP _ _ (by omega)).trans hc
  have q4 : P 4 r = (n : Int) := (fP _ _ (by omega)).trans hn
  have sn : sI (n : Int) = n := sIo (by omega) (by omega)
  have si : sI (i : Int) = i := sIo (by omega) (by omega)
  have sa : sI (24 * a0 + (i : Int)) = 24 * (r : Int) + (i : Int) := by rw [hr]; exact sIo (by omega) (by omega)
  have sb : sI (24 * (c : Int) + (i : Int)) = 24 * (c : Int) + (i : Int) := sIo (by omega) (by omega)
  have ta : (24 * (r : Int) + (i : Int)).toNat = 24 * r + i := by omega
  have tb : (24 * (c : Int) + (i : Int)).toNat = 24 * c + i := by omega
  rw [q32, q4, sn, si, sa, sb, ta, tb]
  clear sa sb ta tb sn si
  refine ⟨by omega, fun d3 => fun M40 e40 => ?_, fun d3 => ?_⟩
  · have n40 : M40 0 32 = (c : Int) + 1 := by rw [e40, zup_s]
    have sz : sI (M40 0 32 - 1) = (c : Int) := by rw [n40, sIo (by omega) (by omega)]; omega
    rw [sz]
    exact hQ _ _ ⟨by rw [e40]; exact BI.up0 bP rfl (by omega) (by omega) (by decide), fun j k h => by rw [e40, zup_n _ _ (by omega)]; exact fP j k (by omega), Or.inl ⟨ok, r, c, n, hr, hc, hn, rfl, n40, fun j k hj hk => by rw [e40, zup_n _ _ (by omega)]; exact fP j k (by omega), fun k hk => by rw [e40, zup_n _ _ (by omega)]; exact fP 18 k (by omega), by rw [e40, zup_n _ _ (by omega)]; exact p20, by rw [e40, zup_n _ _ (by omega)]; exact p21, by rw [e40, zup_n _ _ (by omega)]; exact p19, fun k hk => by rw [e40, zup_n _ _ (by omega)]; exact hv k (by omega)⟩⟩
  · have br := BN.r32 bP.1 3 (24 * r + i)
    refine ⟨by omega, by omega, fun M44 e44 => ?_⟩
    refine hK _ _ ⟨by rw [e44]; exact BI.up bP (rfl : zcd wR 18 = 68) rfl br.1 br.2 (by decide), fun j k h => by rw [e44, zup_n _ _ (by omega)]; exact fP j k h, by rw [e44, zup_n _ _ (by omega)]; exact p20, by rw [e44, zup_n _ _ (by omega)]; exact p21, by rw [e44, zup_n _ _ (by omega)]; exact p19, i + 1, by omega, by omega, fun k hk => ?_⟩ (by omega)
    rw [e44]
    by_cases c5 : k = i
    · rw [c5, zup_s]
      exact fP 3 _ (by omega)
    · rw [zup_n _ _ (by omega)]
      exact hv k (by omega)
theorem ve_keep {MC MR M8 M9 : zM} {a0 a1 z z9 : Int} (h : iVe MC MR) (hR : iRi MC MR) (hv0 : 0 ≤ MC 96 0) (p : (cKe (MC 32 2) (MC 96 0) (MC 99 (MC 96 0 - 1).toNat) a0 a1 ∧ ∃ r c n : Nat, a0 = (r : Int) ∧ r < 4 ∧ MC 96 0 = (c : Int) ∧ c < 16 ∧ MC (41 + 4 * r + 1) 1 = (n : Int) ∧ z = (c : Int) ∧ M8 96 0 = (c : Int) + 1 ∧ (∀ p q : Nat, ¬ (p = 96 ∧ q = 0 ∨ p = 98 ∧ q = c ∨ p = 99 ∧ q = c ∨ p = 101 + 2 * c ∧ q = 1 ∨ p = 101 + 2 * c + 1) → M8 p q = MC p q) ∧ M8 98 c = a0 ∧ M8 99 c = a1 ∧ M8 (101 + 2 * c) 1 = (n : Int) ∧ (∀ k : Nat, k < n → M8 (101 + 2 * c + 1) k = MC (41 + 4 * r + 2) k)) ∨ (¬ cKe (MC 32 2) (MC 96 0) (MC 99 (MC 96 0 - 1).toNat) a0 a1 ∧ z = -1 ∧ M8 = MC)) (q : (cKe (MR 0 10) (MR 0 32) (MR 21 (MR 0 32 - 1).toNat) a0 a1 ∧ ∃ r c n : Nat, a0 = (r : Int) ∧ MR 0 32 = (c : Int) ∧ MR 4 r = (n : Int) ∧ z9 = (c : Int) ∧ M9 0 32 = (c : Int) + 1 ∧ (∀ j k : Nat, 19 ≤ j ∧ j ≤ 21 → k ≠ c → M9 j k = MR j k) ∧ (∀ k : Nat, ¬ (24 * c ≤ k ∧ k < 24 * c + 24) → M9 18 k = MR 18 k) ∧ M9 20 c = a0 ∧ M9 21 c = a1 ∧ M9 19 c = (n : Int) ∧ (∀ k : Nat, k < n → M9 18 (24 * c + k) = MR 3 (24 * r + k))) ∨ (¬ cKe (MR 0 10) (MR 0 32) (MR 21 (MR 0 32 - 1).toNat) a0 a1 ∧ z9 = -1 ∧ ∀ j9 k9 : Nat, ¬ (j9 = 0 ∧ k9 = 35) → M9 j9 k9 = MR j9 k9)) : z = z9 ∧ iVe M8 M9 := by
  obtain ⟨g1, g2, g3⟩ := id h
  have ec : cKe (MC 32 2) (MC 96 0) (MC 99 (MC 96 0 - 1).toNat) a0 a1 ↔ cKe (MR 0 10) (MR 0 32) (MR 21 (MR 0 32 - 1).toNat) a0 a1 := by
    have e1 := hR.1
    unfold cKe
    by_cases c : 0 < MC 96 0
    · have e2 := (g3 (MC 96 0 - 1).toNat (by omega)).2.1
      rw [e1, g1] at *
      rw [e2]
    · constructor
      · rintro ⟨x1, x2, x3, x4⟩
        exact ⟨by omega, x2, by omega, fun x => by omega⟩
      · rintro ⟨x1, x2, x3, x4⟩
        exact ⟨by omega, x2, by omega, fun x => by omega⟩
  rw [← ec] at q
  rcases p with ⟨p1, r, c, n, hr, hr4, hc, c16, hn, d1, d2, d3, d4, d5, d6, d7⟩ | ⟨p1, p2, p3⟩
  · rcases q with ⟨q1, r', c', n', hr', hc', hn', e1, e2, e3, e4, e5, e6, e7, e8⟩ | ⟨q1, -⟩
    · have er : r' = r := by omega
      have ecc : c' = c := by omega
      subst er
      subst ecc
      obtain ⟨l, a1', a2', a3, a4, a5, a6, a7, a8, a9, a10, a11⟩ := hR.2.2 r' (by have := p1.1; omega)
      have en : n' = n := by omega
      have el : l = n := by omega
      subst en
      subst el
      refine ⟨by omega, by omega, by omega, fun v hv => ?_⟩
      by_cases cv : v = c'
      · subst cv
        exact ⟨by rw [d4, e5], by rw [d5, e6], l, a1', a2', d6, e7, fun k hk => by rw [d7 k hk, e8 k hk]; exact a10 k hk⟩
      · obtain ⟨b1, b2, m, b3, b4, b5, b6, b7⟩ := g3 v (by omega)
        exact ⟨by rw [d3 _ _ (by omega), e3 20 v (by omega) cv]; exact b1, by rw [d3 _ _ (by omega), e3 21 v (by omega) cv]; exact b2, m, b3, b4, by rw [d3 _ _ (by omega)]; exact b5, by rw [e3 19 v (by omega) cv]; exact b6, fun k hk => by rw [d3 _ _ (by omega), e4 _ (by omega)]; exact b7 k hk⟩
    · exact absurd p1 q1
  · rcases q with ⟨q1, -⟩ | ⟨q1, q2, q3⟩
    · exact absurd q1 p1
    · rw [p3]
      exact ⟨by omega, iVe_kept h (fun _ _ => rfl) rfl (q3 0 32 (by omega)) (funext fun k => q3 18 k (by omega)) (funext fun k => q3 19 k (by omega)) (funext fun k => q3 20 k (by omega)) (funext fun k => q3 21 k (by omega))⟩
/-- fetched: the hand is that version -/
theorem fC_fetch {M : zM} {a0 : Int} (hB : BN wC M) (v0 : -2147483648 ≤ a0 ∧ a0 ≤ 2147483647) {Q : Int → zM → Prop} (hQ : ∀ (z : Int) (M1 : zM), BN wC M1 ∧ (∀ j9 : Nat, ¬ (30 ≤ j9 ∧ j9 ≤ 31) → M1 j9 = M j9) ∧ (((0 ≤ a0 ∧ a0 < M 96 0) ∧ ∃ v n : Nat, a0 = (v : Int) ∧ M (101 + 2 * v) 1 = (n : Int) ∧ z = (n : Int) ∧ M1 30 1 = (n : Int) ∧ ∀ k : Nat, k < n → M1 31 k = M (101 + 2 * v + 1) k) ∨ (¬ (0 ≤ a0 ∧ a0 < M 96 0) ∧ z = -1 ∧ M1 30 = M 30 ∧ M1 31 = M 31)) → Q z M1) : wC_fetch a0 M Q := by
  unfold wC_fetch
  refine sC_Versions_find hB v0 (fun h => ⟨fun _ => hQ _ _ ⟨hB, fun _ _ => rfl, Or.inr ⟨fun x => by omega, rfl, rfl, rfl⟩⟩, fun q h => nomatch h⟩) (fun q hq => ⟨(fun h => nomatch h), fun q9 h9 => ?_⟩)
  obtain rfl := Option.some.inj h9
  obtain ⟨⟨c1, c2⟩, rfl, h2, h3, h4⟩ := hq
  obtain ⟨w1, w2, w3⟩ := ve_cd a0.toNat (by omega)
  have bl : 0 ≤ M (101 + 2 * a0.toNat) 1 ∧ M (101 + 2 * a0.toNat) 1 ≤ 24 := BN.at hB w2 rfl
  refine ⟨⟨c1, c2⟩, ?_⟩
  refine fC_copy (x := ((M (101 + 2 * a0.toNat) 1).toNat, M (101 + 2 * a0.toNat + 1))) hB (rfl : zcd wC 30 = 6) (rfl : zcd wC (30 + 1) = 7) w2 ⟨by omega, by omega, by omega⟩ ⟨by show M (101 + 2 * a0.toNat) 1 = (((M (101 + 2 * a0.toNat) 1).toNat : Nat) : Int); omega, fun k _ => rfl⟩ (fun M9 h9 => ?_)
  obtain ⟨b9, f9, i9, -⟩ := h9
  have n9 : M9 30 1 = (((M (101 + 2 * a0.toNat) 1).toNat : Nat) : Int) := i9.1
  have s9 : sI (M9 30 1) = (((M (101 + 2 * a0.toNat) 1).toNat : Nat) : Int) := by rw [n9]; exact sIo (by omega) (by omega)
  rw [s9]
  exact hQ _ _ ⟨b9, fun j9 h9 => funext fun q => f9 j9 q (by omega), Or.inl ⟨by omega, a0.toNat, (M (101 + 2 * a0.toNat) 1).toNat, by omega, by omega, rfl, n9, i9.2⟩⟩
theorem fR_fetch {M : zM} {a0 : Int} (hB : BI M) (v0 : -2147483648 ≤ a0 ∧ a0 ≤ 2147483647) {Q : Int → zM → Prop} (hQ : ∀ (z : Int) (M1 : zM), BI M1 ∧ (∀ j9 k9 : Nat, ¬ (j9 = 0 ∧ k9 = 35 ∨ j9 = 0 ∧ k9 = 3 ∨ j9 = 2) → M1 j9 k9 = M j9 k9) ∧ (((0 ≤ a0 ∧ a0 < M 0 32) ∧ ∃ v n : Nat, a0 = (v : Int) ∧ M 19 v = (n : Int) ∧ z = (n : Int) ∧ M1 0 3 = (n : Int) ∧ ∀ k : Nat, k < n → M1 2 k = M 18 (24 * v + k)) ∨ (¬ (0 ≤ a0 ∧ a0 < M 0 32) ∧ z = -1 ∧ M1 0 3 = M 0 3 ∧ M1 2 = M 2)) → Q z M1) : wR_fetch a0 M Q := by
  unfold wR_fetch
  intro M1 e1
  have hB1 : BI M1 := by rw [e1]; exact BI.up0 hB rfl (by omega) (by omega) (by decide)
  have hF1 : ∀ j9 k9 : Nat, ¬ (j9 = 0 ∧ k9 = 35) → M1 j9 k9 = M j9 k9 := fun j9 k9 h9 => by rw [e1]; exact zup_n _ _ (by omega)
  have r32 : M1 0 32 = M 0 32 := hF1 0 32 (by omega)
  have bv : 0 ≤ M 0 32 ∧ M 0 32 ≤ 16 := BN.at hB.1 (rfl : zcd wR 0 = 50) rfl
  have s0 : sI a0 = a0 := sIo v0.1 v0.2
  rw [r32, s0]
  refine sR_in hB1 v0 (by omega) (by omega) (fun z p => ?_)
  obtain ⟨-, p, -⟩ := p
  refine ⟨fun d => ⟨by omega, fun M9 e9 => ?_⟩, fun d => hQ _ _ ⟨hB1, fun j k h => hF1 j k (by omega), Or.inr ⟨fun x => by omega, rfl, hF1 0 3 (by omega), funext fun k => hF1 2 k (by omega)⟩⟩⟩
  obtain ⟨v, hv⟩ : ∃ v : Nat, a0 = (v : Int) := ⟨a0.toNat, by omega⟩
  have tv : a0.toNat = v := by omega
  have bl : 0 ≤ M 19 v ∧ M 19 v ≤ 24 := BN.at hB.1 (rfl : zcd wR 19 = 69) rfl
  obtain ⟨n, hn⟩ : ∃ n : Nat, M 19 v = (n : Int) := ⟨(M 19 v).toNat, by omega⟩
  rw [tv, hF1 19 v (by omega), hn] at e9
  refine wL1_of (fun x P => BI P ∧ (∀ j k : Nat, ¬ (j = 0 ∧ k = 35 ∨ j = 0 ∧ k = 3 ∨ j = 2) → P j k = M j k) ∧ P 0 3 = (n : Int) ∧ ∃ i : Nat, x = (i : Int) ∧ i ≤ n ∧ ∀ k : Nat, k < i → P 2 k = M 18 (24 * v + k)) (fun x _ => (1000 - x).toNat) ⟨by rw [e9]; exact BI.up0 hB1 (rfl : cbt 50 3 = (0, 24)) (by omega) (by omega) (by decide), fun j k h => by rw [e9, zup_n _ _ (by omega)]; exact hF1 j k (by omega), by rw [e9, zup_s], 0, rfl, by omega, fun k h => absurd h (Nat.not_lt_zero k)⟩ (fun K x P hI hK => ?_)
  obtain ⟨bP, fP, p3, i, rfl, i1, hw⟩ := hI
  have sn : sI (n : Int) = n := sIo (by omega) (by omega)
  have si : sI (i : Int) = i := sIo (by omega) (by omega)
  have sa : sI (24 * a0 + (i : Int)) = 24 * (v : Int) + (i : Int) := by rw [hv]; exact sIo (by omega) (by omega)
  have ta : (24 * (v : Int) + (i : Int)).toNat = 24 * v + i := by omega
  have ti : ((i : Int)).toNat = i := by omega
  rw [p3, sn, si, sa, ta, ti]
  refine ⟨fun d3 => hQ _ _ ⟨bP, fP, Or.inl ⟨by omega, v, n, hv, hn, rfl, p3, fun k hk => hw k (by omega)⟩⟩, fun d3 => ⟨by omega, by omega, fun M23 e23 => ?_⟩⟩
  have br := BN.r32 bP.1 18 (24 * v + i)
  refine hK _ _ ⟨by rw [e23]; exact BI.up bP (rfl : zcd wR 2 = 52) rfl br.1 br.2 (by decide), fun j k h => by rw [e23, zup_n _ _ (by omega)]; exact fP j k h, by rw [e23, zup_n _ _ (by omega)]; exact p3, i + 1, by omega, by omega, fun k hk => ?_⟩ (by omega)
  rw [e23]
  by_cases c5 : k = i
  · rw [c5, zup_s]
    exact fP 18 _ (by omega)
  · rw [zup_n _ _ (by omega)]
    exact hw k (by omega)
theorem ha_fetch {MC MR M8 M9 : zM} {a0 z z9 : Int} (h : iHa MC MR) (hV : iVe MC MR) (p : ((0 ≤ a0 ∧ a0 < MC 96 0) ∧ ∃ v n : Nat, a0 = (v : Int) ∧ MC (101 + 2 * v) 1 = (n : Int) ∧ z = (n : Int) ∧ M8 30 1 = (n : Int) ∧ ∀ k : Nat, k < n → M8 31 k = MC (101 + 2 * v + 1) k) ∨ (¬ (0 ≤ a0 ∧ a0 < MC 96 0) ∧ z = -1 ∧ M8 30 = MC 30 ∧ M8 31 = MC 31)) (q : ((0 ≤ a0 ∧ a0 < MR 0 32) ∧ ∃ v n : Nat, a0 = (v : Int) ∧ MR 19 v = (n : Int) ∧ z9 = (n : Int) ∧ M9 0 3 = (n : Int) ∧ ∀ k : Nat, k < n → M9 2 k = MR 18 (24 * v + k)) ∨ (¬ (0 ≤ a0 ∧ a0 < MR 0 32) ∧ z9 = -1 ∧ M9 0 3 = MR 0 3 ∧ M9 2 = MR 2)) : z = z9 ∧ iHa M8 M9 := by
  obtain ⟨g1, g2, g3⟩ := hV
  rw [← g1] at q
  rcases p with ⟨p1, v, n, hv, hn, d1, d2, d3⟩ | ⟨p1, p2, p3, p4⟩
  · rcases q with ⟨q1, v', n', hv', hn', e1, e2, e3⟩ | ⟨q1, -⟩
    · have ev : v' = v := by omega
      subst ev
      obtain ⟨-, -, m, b1, b2, b3, b4, b5⟩ := g3 v' (by omega)
      have en : n' = n := by omega
      have em : m = n := by omega
      subst en
      subst em
      exact ⟨by omega, by omega, fun k hk => by rw [d3 k (by omega), e3 k (by omega)]; exact b5 k (by omega)⟩
    · exact absurd p1 q1
  · rcases q with ⟨q1, -⟩ | ⟨q1, q2, q3, q4⟩
    · exact absurd q1 p1
    · refine ⟨by omega, ?_⟩
      unfold iHa
      rw [p3, p4, q3, q4]
      exact h
end zz47s_vers
section zz47t_wayby
/-! the way by a length, alike; what is heard -/
theorem mul59 (a b : Int) (ha : -5000 ≤ a ∧ a ≤ 5000) (hb : -9 ≤ b ∧ b ≤ 9) : -45000 ≤ a * b ∧ a * b ≤ 45000 := by
  have e : b = -9 ∨ b = -8 ∨ b = -7 ∨ b = -6 ∨ b = -5 ∨ b = -4 ∨ b = -3 ∨ b = -2 ∨ b = -1 ∨ b = 0 ∨ b = 1 ∨ b = 2 ∨ b = 3 ∨ b = 4 ∨ b = 5 ∨ b = 6 ∨ b = 7 ∨ b = 8 ∨ b = 9 := by omega
  rcases e with rfl | rfl | rfl | rfl | rfl | rfl | rfl | rfl | rfl | rfl | rfl | rfl | rfl | rfl | rfl | rfl | rfl | rfl | rfl <;> omega
theorem wyS_b {T S : Nat → Int} (hT : ∀ i, 0 ≤ T i ∧ T i ≤ 5000) (hS : ∀ i, -9 ≤ S i ∧ S i ≤ 9) : ∀ p : Nat, (-45000 * (p : Int) ≤ (wyS T S p).1 ∧ (wyS T S p).1 ≤ 45000 * (p : Int)) ∧ (0 ≤ (wyS T S p).2.1 ∧ (wyS T S p).2.1 ≤ 5000) ∧ (-9 ≤ (wyS T S p).2.2 ∧ (wyS T S p).2.2 ≤ 9)
  | 0 => ⟨⟨by show -45000 * ((0 : Nat) : Int) ≤ 0; omega, by show (0 : Int) ≤ 45000 * ((0 : Nat) : Int); omega⟩, ⟨by show (0 : Int) ≤ 0; omega, by show (0 : Int) ≤ 5000; omega⟩, by show (-9 : Int) ≤ 1; omega, by show (1 : Int) ≤ 9; omega⟩
  | p + 1 => by
    obtain ⟨h1, h2, h3⟩ := wyS_b hT hS p
    have m := mul59 (T p - (wyS T S p).2.1) (wyS T S p).2.2 (by have := hT p; omega) h3
    refine ⟨?_, hT p, hS p⟩
    show -45000 * ((p + 1 : Nat) : Int) ≤ (wyS T S p).1 + (T p - (wyS T S p).2.1) * (wyS T S p).2.2 ∧ (wyS T S p).1 + (T p - (wyS T S p).2.1) * (wyS T S p).2.2 ≤ 45000 * ((p + 1 : Nat) : Int)
    omega
theorem wayR_b {n t z : Int} {T S : Nat → Int} (hT : ∀ i, 0 ≤ T i ∧ T i ≤ 5000) (hS : ∀ i, -9 ≤ S i ∧ S i ≤ 9) (hn : n ≤ 12) (ht : 0 ≤ t ∧ t ≤ 5000) (h : wayR n T S t z) : -1000000 ≤ z ∧ z ≤ 1000000 := by
  obtain ⟨p, p1, p2, p3, p4⟩ := h
  obtain ⟨h1, h2, h3⟩ := wyS_b hT hS p
  have m := mul59 (t - (wyS T S p).2.1) (wyS T S p).2.2 (by omega) h3
  rw [p4, sLo (by omega) (by omega)]
  omega
def stI (n : Int) (T : Nat → Int) : Int := if n = 0 then 0 else T (n - 1).toNat
def lsI (n : Int) (S : Nat → Int) : Int := if n = 0 then 1 else S (n - 1).toNat
/-- the way to a tick by a length -/
def wbR (n : Int) (T S : Nat → Int) (t len z : Int) : Prop := ∃ w : Int, wayR n T S (min t (stI n T)) w ∧ z = (w + (max 0 (t - stI n T) % len) * lsI n S) % len
theorem st_cg {n nR : Int} {T S TR SR : Nat → Int} (h0 : 0 ≤ n) (h : mo n T S nR TR SR) : stI n T = stI nR TR ∧ lsI n S = lsI nR SR := by
  obtain ⟨h1, h2⟩ := h
  subst h1
  unfold stI lsI
  by_cases c : n = 0
  · rw [if_pos c, if_pos c, if_pos c, if_pos c]
    exact ⟨rfl, rfl⟩
  · have w := h2 (n - 1).toNat (by omega)
    rw [if_neg c, if_neg c, if_neg c, if_neg c]
    exact w
theorem st_b {n : Int} {T : Nat → Int} (hT : ∀ i, 0 ≤ T i ∧ T i ≤ 5000) : 0 ≤ stI n T ∧ stI n T ≤ 5000 := by
  unfold stI
  by_cases c : n = 0
  · rw [if_pos c]
    omega
  · rw [if_neg c]
    exact hT _
theorem ls_b {n : Int} {S : Nat → Int} (hS : ∀ i, -9 ≤ S i ∧ S i ≤ 9) : -9 ≤ lsI n S ∧ lsI n S ≤ 9 := by
  unfold lsI
  by_cases c : n = 0
  · rw [if_pos c]
    omega
  · rw [if_neg c]
    exact hS _
set_option maxHeartbeats 1000000 in
theorem fC_wayBy {M : zM} {j : Nat} {a0 a1 : Int} (hB : BN wC M) (lt_j : j < nC) (cd_j : zcd wC j = 11) (v0 : 0 ≤ a0 ∧ a0 ≤ 9223372036854775807) (v1 : 1 ≤ a1 ∧ a1 ≤ 24) {Q : Int → Prop} (hQ : ∀ z : Int, wbR (M j 2) (M (j + 1)) (M (j + 2)) a0 a1 z → Q z) : wC_Motor_wayBy j a0 a1 M Q := by
  unfold wC_Motor_wayBy wC_Motor_steady wC_Motor_lastSpeed
  obtain ⟨lt1, cd2, lt3, cd4⟩ := nx_motor j lt_j cd_j
  have bn : 0 ≤ M j 2 ∧ M j 2 ≤ 12 := BN.at hB cd_j rfl
  have hT : ∀ i, 0 ≤ M (j + 1) i ∧ M (j + 1) i ≤ 5000 := fun i => BN.at hB cd2 rfl
  have hS : ∀ i, -9 ≤ M (j + 2) i ∧ M (j + 2) i ≤ 9 := fun i => BN.at hB cd4 rfl
  have sn : sI (M j 2) = M j 2 := sIo (by omega) (by omega)
  have sn1 : sI (M j 2 - 1) = M j 2 - 1 := sIo (by omega) (by omega)
  have bt := hT (M j 2 - 1).toNat
  have bs := hS (M j 2 - 1).toNat
  rw [sn, sn1, sIo (z := M (j + 1) (M j 2 - 1).toNat) (by omega) (by omega)]
  have b1 := st_b (n := M j 2) hT
  have b2 := ls_b (n := M j 2) hS
  have main : ∀ z : Int, z = stI (M j 2) (M (j + 1)) → wC_Motor_wayTo j (a0 - (max 0 (sL (a0 - z)))) M (fun z10 => wC_by (max 0 (sL (a0 - z))) a1 M (fun z14 => ((M j 2 ≠ 0 → ((0 ≤ M j 2 - 1 ∧ M j 2 - 1 < 12) ∧ wC_by (z10 + (z14 * sI (M (j + 2) (M j 2 - 1).toNat))) a1 M (fun z22 => Q z22))) ∧ (M j 2 = 0 → wC_by (z10 + (z14 * 1)) a1 M (fun z22 => Q z22))))) := by
    intro z hz
    have sl : sL (a0 - z) = a0 - z := sLo (by omega) (by omega)
    rw [sl]
    refine fC_Motor_wayTo hB lt_j cd_j (by omega) (fun w hw => ?_)
    have ew : a0 - max 0 (a0 - z) = min a0 (stI (M j 2) (M (j + 1))) := by omega
    rw [ew] at hw
    have wb := wayR_b hT hS (by omega) (by omega) hw
    refine fC_by (by omega) (by omega) ?_
    have em := emB (max 0 (a0 - z)) a1 (by omega)
    have fin : wC_by (w + (max 0 (a0 - z) % a1) * lsI (M j 2) (M (j + 2))) a1 M (fun z22 => Q z22) := by
      have m := mul59 (max 0 (a0 - z) % a1) (lsI (M j 2) (M (j + 2))) (by omega) b2
      refine fC_by (by omega) (by omega) ?_
      exact hQ _ ⟨w, hw, by rw [hz]⟩
    refine ⟨fun c => ⟨by omega, ?_⟩, fun c => ?_⟩
    · unfold lsI at fin
      rw [if_neg c] at fin
      rw [sIo (z := M (j + 2) (M j 2 - 1).toNat) (by omega) (by omega)]
      exact fin
    · unfold lsI at fin
      rw [if_pos c] at fin
      exact fin
  refine ⟨fun c => ⟨by omega, main _ ?_⟩, fun c => main _ ?_⟩
  · unfold stI
    rw [if_neg c]
  · unfold stI
    rw [if_pos c]
set_option maxHeartbeats 1000000 in
theorem fR_wayBy {M : zM} {m : Nat} {a0 a1 a2 : Int} (hB : BI M) (hm : a0 = (m : Int)) (h01 : m ≤ 1) (v1 : 0 ≤ a1 ∧ a1 ≤ 9223372036854775807) (v2 : 1 ≤ a2 ∧ a2 ≤ 24) {Q : Int → Prop} (hQ : ∀ z : Int, wbR (M 11 m) (fun i => M 9 (12 * m + i)) (fun i => M 10 (12 * m + i)) a1 a2 z → Q z) : wR_wayBy a0 a1 a2 M Q := by
  unfold wR_wayBy wR_steady wR_lastSpeed
  have bn : 0 ≤ M 11 m ∧ M 11 m ≤ 12 := BN.at hB.1 (rfl : zcd wR 11 = 61) rfl
  have hT0 : ∀ i, 0 ≤ M 9 i ∧ M 9 i ≤ 5000 := fun i => BN.at hB.1 (rfl : zcd wR 9 = 59) rfl
  have hS0 : ∀ i, -9 ≤ M 10 i ∧ M 10 i ≤ 9 := fun i => BN.at hB.1 (rfl : zcd wR 10 = 60) rfl
  have hT : ∀ i, 0 ≤ (fun i => M 9 (12 * m + i)) i ∧ (fun i => M 9 (12 * m + i)) i ≤ 5000 := fun i => hT0 _
  have hS : ∀ i, -9 ≤ (fun i => M 10 (12 * m + i)) i ∧ (fun i => M 10 (12 * m + i)) i ≤ 9 := fun i => hS0 _
  have sa : sI a0 = (m : Int) := by rw [hm]; exact sIo (by omega) (by omega)
  have ta : ((m : Int)).toNat = m := by omega
  have sn : sI (M 11 m) = M 11 m := sIo (by omega) (by omega)
  have sk : sI (12 * a0 + M 11 m - 1) = 12 * (m : Int) + M 11 m - 1 := by rw [hm]; exact sIo (by omega) (by omega)
  have s1 : sL a1 = a1 := sLo (by omega) (by omega)
  have s2 : sI a2 = a2 := sIo (by omega) (by omega)
  have b1 := st_b (n := M 11 m) hT
  have b2 := ls_b (n := M 11 m) hS
  rw [sa, ta, sn, sk, s1, s2]
  have main : ∀ z : Int, z = stI (M 11 m) (fun i => M 9 (12 * m + i)) → ((z < a1 → ((a2 ≠ 0) ∧ ((0 ≤ (m : Int) ∧ (m : Int) < 2) ∧ (M 11 m ≠ 0 → ((0 ≤ (m : Int) ∧ (m : Int) < 2) ∧ ((0 ≤ 12 * (m : Int) + M 11 m - 1 ∧ 12 * (m : Int) + M 11 m - 1 < 24) ∧ wR_wayEarly a0 z M (fun z12 => ((0 < a2) ∧ Q (sI ((sL (z12 + (((sL (a1 - z)).tmod a2) * sI (M 10 (12 * (m : Int) + M 11 m - 1).toNat)))) % a2))))))) ∧ (M 11 m = 0 → wR_wayEarly a0 z M (fun z12 => ((0 < a2) ∧ Q (sI ((sL (z12 + (((sL (a1 - z)).tmod a2) * 1))) % a2)))))))) ∧ (a1 ≤ z → wR_wayEarly a0 a1 M (fun z17 => ((0 < a2) ∧ Q (sI (z17 % a2)))))) := by
    intro z hz
    refine ⟨fun c => ⟨by omega, ⟨by omega, by omega⟩, ?_⟩, fun c => ?_⟩
    · have sl : sL (a1 - z) = a1 - z := sLo (by omega) (by omega)
      have et : (a1 - z).tmod a2 = (a1 - z) % a2 := Int.tmod_eq_emod_of_nonneg (by omega)
      have em := emB (a1 - z) a2 (by omega)
      have fin : wR_wayEarly a0 z M (fun z12 => ((0 < a2) ∧ Q (sI ((sL (z12 + (((a1 - z) % a2) * lsI (M 11 m) (fun i => M 10 (12 * m + i))))) % a2)))) := by
        refine fR_wayEarly hB (by omega) (by omega) (fun w hw => ⟨by omega, ?_⟩)
        rw [hm, ta] at hw
        have wb := wayR_b hT hS (by omega) (by omega) hw
        have mm := mul59 ((a1 - z) % a2) (lsI (M 11 m) (fun i => M 10 (12 * m + i))) (by omega) b2
        have e9 := emB (w + (a1 - z) % a2 * lsI (M 11 m) (fun i => M 10 (12 * m + i))) a2 (by omega)
        rw [sLo (by omega) (by omega), sIo (by omega) (by omega)]
        refine hQ _ ⟨w, by rw [show min a1 (stI (M 11 m) (fun i => M 9 (12 * m + i))) = z by omega]; exact hw, ?_⟩
        rw [show max 0 (a1 - stI (M 11 m) (fun i => M 9 (12 * m + i))) = a1 - z by omega]
      rw [sl, et]
      refine ⟨fun d => ⟨⟨by omega, by omega⟩, ⟨by omega, by omega⟩, ?_⟩, fun d => ?_⟩
      · unfold lsI at fin
        rw [if_neg d] at fin
        have e8 : (12 * (m : Int) + M 11 m - 1).toNat = 12 * m + (M 11 m - 1).toNat := by omega
        have b8 := hS0 (12 * m + (M 11 m - 1).toNat)
        rw [e8, sIo (z := M 10 (12 * m + (M 11 m - 1).toNat)) (by omega) (by omega)]
        exact fin
      · unfold lsI at fin
        rw [if_pos d] at fin
        exact fin
    · refine fR_wayEarly hB (by omega) (by omega) (fun w hw => ⟨by omega, ?_⟩)
      rw [hm, ta] at hw
      have e9 := emB w a2 (by omega)
      rw [sIo (by omega) (by omega)]
      refine hQ _ ⟨w, by rw [show min a1 (stI (M 11 m) (fun i => M 9 (12 * m + i))) = a1 by omega]; exact hw, ?_⟩
      rw [show max 0 (a1 - stI (M 11 m) (fun i => M 9 (12 * m + i))) = 0 by omega, Int.zero_emod, Int.zero_mul, Int.add_zero]
  refine ⟨⟨by omega, by omega⟩, fun c => ⟨⟨by omega, by omega⟩, ⟨by omega, by omega⟩, ?_⟩, fun c => main _ ?_⟩
  · have e8 : (12 * (m : Int) + M 11 m - 1).toNat = 12 * m + (M 11 m - 1).toNat := by omega
    have b8 := hT0 (12 * m + (M 11 m - 1).toNat)
    refine main _ ?_
    rw [e8, sIo (by omega) (by omega)]
    unfold stI
    rw [if_neg c]
  · unfold stI
    rw [if_pos c]
end zz47t_wayby
section zz47u_heard
/-! what is heard, alike -/
def jmo (m : Int) : Nat := if m = 0 then 35 else 38
theorem wbR_r {n t len z : Int} {T S : Nat → Int} (hl : 0 < len) (h : wbR n T S t len z) : 0 ≤ z ∧ z < len := by
  obtain ⟨w, -, e⟩ := h
  rw [e]
  exact emB _ _ hl
theorem mo_of {A B C D E F R9 R10 R11 : Nat → Int} {M : zM} (h : iMo A B C D E F R9 R10 R11) (e1 : A = M 35) (e2 : B = M 36) (e3 : C = M 37) (e4 : D = M 38) (e5 : E = M 39) (e6 : F = M 40) {m : Int} (hm : 0 ≤ m ∧ m ≤ 1) : mo (M (jmo m) 2) (M (jmo m + 1)) (M (jmo m + 2)) (R11 m.toNat) (fun i => R9 (12 * m.toNat + i)) (fun i => R10 (12 * m.toNat + i)) := by
  subst e1
  subst e2
  subst e3
  subst e4
  subst e5
  subst e6
  rcases (by omega : m = 0 ∨ m = 1) with rfl | rfl
  · exact h.1
  · exact h.2
end zz47u_heard
section zz47v_bits
/-! bits of sounds; what a turning makes true -/
def bt (x s : Int) : Int := andI (shrI x s) 1
theorem bt_b (x s : Int) : 0 ≤ bt x s ∧ bt x s ≤ 1 := andI_br (shrI x s) (c := 1) (by decide) (by decide)
theorem bt_nat (x s : Int) : bt x s = ((((iI x).toBitVec.sshiftRight' (((iI s) &&& 31).toBitVec.smod 32)).toNat % 2 : Nat) : Int) := by
  unfold bt andI
  refine i32_nat ?_ (by omega)
  unfold shrI
  rw [iI_e, Int32.toBitVec_and, BitVec.toNat_and, Int32.toBitVec_shiftRight, show (iI 1).toBitVec.toNat = 2 ^ 1 - 1 by decide, Nat.and_two_pow_sub_one_eq_mod]
theorem bt_or (x y s : Int) : bt (orI x y) s = 1 ↔ (bt x s = 1 ∨ bt y s = 1) := by
  have e : (iI (orI x y)).toBitVec.sshiftRight' (((iI s) &&& 31).toBitVec.smod 32) = (iI x).toBitVec.sshiftRight' (((iI s) &&& 31).toBitVec.smod 32) ||| (iI y).toBitVec.sshiftRight' (((iI s) &&& 31).toBitVec.smod 32) := by
    unfold orI
    rw [iI_e, Int32.toBitVec_or]
    exact BitVec.sshiftRight_or_distrib _ _ _
  rw [bt_nat, bt_nat, bt_nat, e, BitVec.toNat_or]
  have h := Nat.or_mod_two_eq_one (a := ((iI x).toBitVec.sshiftRight' (((iI s) &&& 31).toBitVec.smod 32)).toNat) (b := ((iI y).toBitVec.sshiftRight' (((iI s) &&& 31).toBitVec.smod 32)).toNat)
  omega
theorem bt_0 (s : Int) : bt 0 s = 0 := by
  rw [bt_nat]
  have e : (iI 0).toBitVec = 0#32 := by decide
  rw [e, BitVec.sshiftRight_eq', BitVec.zero_sshiftRight]
  rfl
/-- bits put together -/
def trB (b : Nat → Int) : Nat → Int
  | 0 => 0
  | m + 1 => if b m = 1 then orI (trB b m) (shlI 1 (m : Int)) else trB b m
theorem trB_b {b : Nat → Int} : ∀ m : Nat, m ≤ 6 → 0 ≤ trB b m ∧ trB b m ≤ 63
  | 0, _ => ⟨by show (0 : Int) ≤ 0; omega, by show (0 : Int) ≤ 63; omega⟩
  | m + 1, h => by
    have a := trB_b (b := b) m (by omega)
    show 0 ≤ (if b m = 1 then orI (trB b m) (shlI 1 (m : Int)) else trB b m) ∧ (if b m = 1 then orI (trB b m) (shlI 1 (m : Int)) else trB b m) ≤ 63
    by_cases c : b m = 1
    · rw [if_pos c]
      have s := shl01 1 (m : Int) (by omega) (by omega) (by omega) (by omega)
      exact or64 _ _ a.1 a.2 (by omega) (by omega)
    · rw [if_neg c]
      exact a
theorem trB_cg {b b2 : Nat → Int} : ∀ m : Nat, (∀ k : Nat, k < m → (b k = 1 ↔ b2 k = 1)) → trB b m = trB b2 m
  | 0, _ => rfl
  | m + 1, h => by
    have a := trB_cg (b := b) (b2 := b2) m (fun k hk => h k (by omega))
    have c := h m (by omega)
    show (if b m = 1 then orI (trB b m) (shlI 1 (m : Int)) else trB b m) = (if b2 m = 1 then orI (trB b2 m) (shlI 1 (m : Int)) else trB b2 m)
    rw [a]
    by_cases d : b m = 1
    · rw [if_pos d, if_pos (c.mp d)]
    · rw [if_neg d, if_neg (fun x => d (c.mpr x))]
theorem shl0 (m : Nat) (h : m ≤ 5) : shlI 0 (m : Int) = 0 := by
  rcases (by omega : m = 0 ∨ m = 1 ∨ m = 2 ∨ m = 3 ∨ m = 4 ∨ m = 5) with rfl | rfl | rfl | rfl | rfl | rfl <;> decide
/-- the first tick not before t -/
def fsP (T : Nat → Int) (t : Int) : Nat → Nat → Nat
  | 0, i => i
  | k + 1, i => if T i < t then fsP T t k (i + 1) else i
theorem fsP_s {T : Nat → Int} {t : Int} : ∀ (k i : Nat), i ≤ fsP T t k i ∧ fsP T t k i ≤ i + k ∧ (∀ j : Nat, i ≤ j → j < fsP T t k i → T j < t) ∧ (fsP T t k i < i + k → t ≤ T (fsP T t k i))
  | 0, i => ⟨Nat.le_refl _, Nat.le_refl _, fun j h1 h2 => absurd h2 (Nat.not_lt.mpr h1), fun h => absurd h (Nat.lt_irrefl _)⟩
  | k + 1, i => by
    have a := fsP_s (T := T) (t := t) k (i + 1)
    show i ≤ (if T i < t then fsP T t k (i + 1) else i) ∧ (if T i < t then fsP T t k (i + 1) else i) ≤ i + (k + 1) ∧ (∀ j : Nat, i ≤ j → j < (if T i < t then fsP T t k (i + 1) else i) → T j < t) ∧ ((if T i < t then fsP T t k (i + 1) else i) < i + (k + 1) → t ≤ T (if T i < t then fsP T t k (i + 1) else i))
    by_cases c : T i < t
    · rw [if_pos c]
      refine ⟨by omega, by omega, fun j h1 h2 => ?_, fun h => a.2.2.2 (by omega)⟩
      by_cases cj : j = i
      · rw [cj]
        exact c
      · exact a.2.2.1 j (by omega) h2
    · rw [if_neg c]
      exact ⟨by omega, by omega, fun j h1 h2 => by omega, fun _ => by omega⟩
def wayF (n : Int) (T S : Nat → Int) (t : Int) : Int := sL ((wyS T S (fsP T t n.toNat 0)).1 + (t - (wyS T S (fsP T t n.toNat 0)).2.1) * (wyS T S (fsP T t n.toNat 0)).2.2)
theorem wayF_R {n t : Int} {T S : Nat → Int} (h0 : 0 ≤ n) : wayR n T S t (wayF n T S t) := by
  have a := fsP_s (T := T) (t := t) n.toNat 0
  exact ⟨fsP T t n.toNat 0, by omega, fun i hi => a.2.2.1 i (by omega) hi, fun h => a.2.2.2 (by omega), rfl⟩
def wbF (n : Int) (T S : Nat → Int) (t len : Int) : Int := (wayF n T S (min t (stI n T)) + (max 0 (t - stI n T) % len) * lsI n S) % len
theorem mo_rf {n : Int} {T S : Nat → Int} : mo n T S n T S := ⟨rfl, fun _ _ => ⟨rfl, rfl⟩⟩
theorem wbR_F {n t len z : Int} {T S : Nat → Int} (h0 : 0 ≤ n) (h : wbR n T S t len z) : z = wbF n T S t len := by
  obtain ⟨w, w1, w2⟩ := h
  rw [w2, way_det mo_rf w1 (wayF_R h0)]
  rfl
theorem wbF_cg {n nR : Int} {T S TR SR : Nat → Int} (h0 : 0 ≤ n) (h : mo n T S nR TR SR) (t len : Int) : wbF n T S t len = wbF nR TR SR t len := by
  obtain ⟨e1, e2⟩ := st_cg h0 h
  have h2 : 0 ≤ nR := by have := h.1; omega
  unfold wbF
  rw [← e1, ← e2, way_det h (wayF_R h0) (wayF_R h2)]
theorem wbF_b {n : Int} {T S : Nat → Int} {t len : Int} (h : 0 < len) : 0 ≤ wbF n T S t len ∧ wbF n T S t len < len := emB _ _ h
/-- what a ring makes true, cut to n inches and begun at a -/
def trV (h : Int) (I : Nat → Int) (wb : Int → Int → Int) (cnt : Nat) (tk sd : Nat → Int) (n a : Nat) : Int := trB (fun m => bt (orU h I n (((a : Int) + wb (tk m) (n : Int)) % (n : Int)).toNat 24) (sd m)) cnt
theorem trV_cg {h : Int} {I J : Nat → Int} {wb wb2 : Int → Int → Int} {cnt : Nat} {tk sd tk2 sd2 : Nat → Int} {n a : Nat} (hn : 1 ≤ n) (hI : ∀ k : Nat, k < n → I k = J k) (hw : ∀ t : Int, wb t (n : Int) = wb2 t (n : Int)) (hm : ∀ m : Nat, m < cnt → tk m = tk2 m ∧ sd m = sd2 m) : trV h I wb cnt tk sd n a = trV h J wb2 cnt tk2 sd2 n a := by
  unfold trV
  refine trB_cg cnt (fun m hk => ?_)
  rw [(hm m hk).1, (hm m hk).2, hw, orU_cg hn hI]
theorem trV_b {h : Int} {I : Nat → Int} {wb : Int → Int → Int} {cnt : Nat} {tk sd : Nat → Int} {n a : Nat} (hc : cnt ≤ 6) : 0 ≤ trV h I wb cnt tk sd n a ∧ trV h I wb cnt tk sd n a ≤ 63 := trB_b cnt hc
end zz47v_bits
section zz47w_plan1
/-! plans: what turnings make true, the class's rows -/
def off (n : Nat) : Nat → Nat
  | 0 => 0
  | c + 1 => off n c + (n - c)
theorem off_b (n c : Nat) (hn : n ≤ 24) (hc : c < n) : off n c + (n - c) ≤ 300 := (by decide +kernel : ∀ n : Nat, n < 25 → ∀ c : Nat, c < n → off n c + (n - c) ≤ 300) n (by omega) c hc
theorem off_m (n : Nat) {c2 : Nat} : ∀ c : Nat, c2 < c → off n c2 + (n - c2) ≤ off n c
  | 0, h => absurd h (Nat.not_lt_zero _)
  | c + 1, h => by
    show off n c2 + (n - c2) ≤ off n c + (n - c)
    by_cases e : c2 = c
    · rw [e]
      exact Nat.le_refl _
    · have a := off_m n (c2 := c2) c (by omega)
      omega
set_option maxHeartbeats 1000000 in
theorem fC_trueFrom {M : zM} {a n : Nat} (hB : BN wC M) (ha : a < 24) (hn : 1 ≤ n ∧ n ≤ 24) (hw : ∀ m : Nat, (m : Int) < M 60 2 → 0 ≤ M 77 m ∧ M 77 m < (n : Int)) {Q : Int → Prop} (hQ : Q (trB (fun m => bt (M 76 (((a : Int) + M 77 m) % (n : Int)).toNat) (M 62 m)) (M 60 2).toNat)) : wC_Planner_trueFrom (a : Int) (n : Int) M Q := by
  unfold wC_Planner_trueFrom
  have bc : 0 ≤ M 60 2 ∧ M 60 2 ≤ 6 := BN.at hB (rfl : zcd wC 60 = 19) rfl
  have sc : sI (M 60 2) = M 60 2 := sIo (by omega) (by omega)
  refine pL2_of (fun x y => ∃ m : Nat, y = (m : Int) ∧ (m : Int) ≤ M 60 2 ∧ x = trB (fun m => bt (M 76 (((a : Int) + M 77 m) % (n : Int)).toNat) (M 62 m)) m) (fun _ y => (1000 - y).toNat) ⟨0, rfl, by omega, rfl⟩ (fun K x y h k => ?_)
  obtain ⟨m, rfl, h1, rfl⟩ := h
  have sm : sI (m : Int) = m := sIo (by omega) (by omega)
  have tm : ((m : Int)).toNat = m := by omega
  have rx := trB_b (b := fun m => bt (M 76 (((a : Int) + M 77 m) % (n : Int)).toNat) (M 62 m)) m (by omega)
  rw [sm, sc, tm, sIo (z := trB (fun m => bt (M 76 (((a : Int) + M 77 m) % (n : Int)).toNat) (M 62 m)) m) (by omega) (by omega)]
  refine ⟨fun c => ?_, fun c => ⟨by omega, ?_⟩⟩
  · rw [show m = (M 60 2).toNat by omega]
    exact hQ
  · have w := hw m c
    rw [sIo (z := (a : Int) + M 77 m) (by omega) (by omega)]
    refine fC_by (by omega) (by omega) ?_
    have em := emB ((a : Int) + M 77 m) (n : Int) (by omega)
    refine ⟨by omega, by omega, fun t e => k _ _ ⟨m + 1, by omega, by omega, ?_⟩ (by omega)⟩
    have b := bt_b (M 76 (((a : Int) + M 77 m) % (n : Int)).toNat) (M 62 m)
    show t = if bt (M 76 (((a : Int) + M 77 m) % (n : Int)).toNat) (M 62 m) = 1 then orI (trB (fun m => bt (M 76 (((a : Int) + M 77 m) % (n : Int)).toNat) (M 62 m)) m) (shlI 1 (m : Int)) else trB (fun m => bt (M 76 (((a : Int) + M 77 m) % (n : Int)).toNat) (M 62 m)) m
    have e : t = orI (trB (fun m => bt (M 76 (((a : Int) + M 77 m) % (n : Int)).toNat) (M 62 m)) m) (shlI (bt (M 76 (((a : Int) + M 77 m) % (n : Int)).toNat) (M 62 m)) (m : Int)) := e
    by_cases d : bt (M 76 (((a : Int) + M 77 m) % (n : Int)).toNat) (M 62 m) = 1
    · rw [if_pos d, e, d]
    · rw [if_neg d, e, show bt (M 76 (((a : Int) + M 77 m) % (n : Int)).toNat) (M 62 m) = 0 by omega, shl0 m (by omega), orI_0 (by omega)]
/-- what ring r makes true, of the class -/
def tvC (M : zM) (r c s : Nat) : Int := trV (M (41 + 4 * r) 3) (M (41 + 4 * r + 2)) (wbF (M (jmo (M (41 + 4 * r) 1)) 2) (M (jmo (M (41 + 4 * r) 1) + 1)) (M (jmo (M (41 + 4 * r) 1) + 2))) (M 60 2).toNat (M 61) (M 62) ((M (41 + 4 * r + 1) 1).toNat - c) s
theorem tvC_cg {M M1 : zM} {r c s : Nat} (h : ∀ j : Nat, (35 ≤ j ∧ j ≤ 62) → M1 j = M j) (hr : r < 4) : tvC M1 r c s = tvC M r c s := by
  unfold tvC jmo
  rw [h (41 + 4 * r) (by omega), h (41 + 4 * r + 1) (by omega), h (41 + 4 * r + 2) (by omega), h 60 (by omega), h 61 (by omega), h 62 (by omega)]
  by_cases c5 : M (41 + 4 * r) 1 = 0
  · rw [if_pos c5, h 35 (by omega), h (35 + 1) (by omega), h (35 + 2) (by omega)]
  · rw [if_neg c5, h 38 (by omega), h (38 + 1) (by omega), h (38 + 2) (by omega)]
set_option maxHeartbeats 4000000 in
theorem fC_listTrue {M : zM} {r n j : Nat} (hB : BN wC M) (hr : r < 4) (hj : j = jmo (M (41 + 4 * r) 1)) (hn : M (41 + 4 * r + 1) 1 = (n : Int)) (n1 : 1 ≤ n) {Q : zM → Prop} (hQ : ∀ M1 : zM, BN wC M1 ∧ (∀ p : Nat, ¬ (p = 65 + r ∨ p = 76 ∨ p = 77) → M1 p = M p) ∧ (∀ c s : Nat, c < n → s < n - c → M1 (65 + r) (off n c + s) = tvC M r c s) → Q M1) : wC_Planner_listTrue (41 + 4 * r) j (65 + r) M Q := by
  unfold wC_Planner_listTrue
  obtain ⟨g1, g2, g3, g4, g5, g6⟩ := rg_cd r hr
  have bl : 0 ≤ M (41 + 4 * r + 1) 1 ∧ M (41 + 4 * r + 1) 1 ≤ 24 := BN.at hB g3 rfl
  have bc : 0 ≤ M 60 2 ∧ M 60 2 ≤ 6 := BN.at hB (rfl : zcd wC 60 = 19) rfl
  obtain ⟨z1, z2⟩ := (by decide : ∀ r : Nat, r < 4 → zcd wC (65 + r) = 24 ∧ zln wC (65 + r) = 300) r hr
  have hjj : j = 35 ∨ j = 38 := by
    rw [hj]
    unfold jmo
    by_cases c5 : M (41 + 4 * r) 1 = 0
    · rw [if_pos c5]
      exact Or.inl rfl
    · rw [if_neg c5]
      exact Or.inr rfl
  have cdj : j < nC ∧ zcd wC j = 11 := by rcases hjj with e | e <;> rw [e] <;> decide
  have tv : ∀ c s : Nat, c < n → tvC M r c s = trB (fun m => bt (orU (M (41 + 4 * r) 3) (M (41 + 4 * r + 2)) (n - c) (((s : Int) + wbF (M j 2) (M (j + 1)) (M (j + 2)) (M 61 m) ((n - c : Nat) : Int)) % ((n - c : Nat) : Int)).toNat 24) (M 62 m)) (M 60 2).toNat := fun c s hc => by
    unfold tvC trV
    rw [← hj, hn, show ((n : Int)).toNat = n by omega]
  rw [hn]
  refine wL2_of (fun x y M2 => BN wC M2 ∧ (∀ p : Nat, ¬ (p = 65 + r ∨ p = 76 ∨ p = 77) → M2 p = M p) ∧ ∃ c : Nat, y = (n : Int) - (c : Int) ∧ c ≤ n ∧ x = (off n c : Int) ∧ ∀ c' s : Nat, c' < c → s < n - c' → M2 (65 + r) (off n c' + s) = tvC M r c' s) (fun _ y _ => (y + 1).toNat) ⟨hB, fun _ _ => rfl, 0, by omega, by omega, rfl, fun c' s h => absurd h (Nat.not_lt_zero c')⟩ (fun K x y M2 h k => ?_)
  obtain ⟨b2, f2, c, rfl, hc, rfl, hv⟩ := h
  have sy : sI ((n : Int) - (c : Int)) = (n : Int) - (c : Int) := sIo (by omega) (by omega)
  rw [sy]
  refine ⟨fun d => hQ _ ⟨b2, f2, fun c' s h1 h2 => hv c' s (by omega) h2⟩, fun d => ?_⟩
  have ob := off_b n c (by omega) (by omega)
  have ey : (n : Int) - (c : Int) = ((n - c : Nat) : Int) := by omega
  rw [ey]
  refine fC_fillUnder b2 (rfl : zln wC 76 = 24) (fun _ => rfl) ⟨by omega, by omega⟩ ⟨by omega, by omega⟩ (fun M22 h22 => ?_)
  obtain ⟨b22, f22, u22⟩ := h22
  rw [f2 (41 + 4 * r) (by omega), f2 (41 + 4 * r + 2) (by omega)] at u22
  have f22' : ∀ p : Nat, ¬ (p = 65 + r ∨ p = 76 ∨ p = 77) → M22 p = M p := fun p hp => (funext fun q => f22 p q (by omega)).trans (f2 p hp)
  have v22 : M22 (65 + r) = M2 (65 + r) := funext fun q => f22 (65 + r) q (by omega)
  refine wL1_of (fun w M3 => BN wC M3 ∧ (∀ p : Nat, ¬ (p = 65 + r ∨ p = 76 ∨ p = 77) → M3 p = M p) ∧ M3 (65 + r) = M2 (65 + r) ∧ M3 76 = M22 76 ∧ ∃ m : Nat, w = (m : Int) ∧ (m : Int) ≤ M 60 2 ∧ ∀ i : Nat, i < m → M3 77 i = wbF (M j 2) (M (j + 1)) (M (j + 2)) (M 61 i) ((n - c : Nat) : Int)) (fun w _ => (1000 - w).toNat) ⟨b22, f22', v22, rfl, 0, rfl, by omega, fun i h => absurd h (Nat.not_lt_zero i)⟩ (fun K2 w M3 h3 k2 => ?_)
  obtain ⟨b3, f3, v3, u3, m, rfl, hm, hw⟩ := h3
  have n3 : M3 60 = M 60 := f3 60 (by omega)
  have sc : sI (M 60 2) = M 60 2 := sIo (by omega) (by omega)
  have sm : sI (m : Int) = m := sIo (by omega) (by omega)
  have tm : ((m : Int)).toNat = m := by omega
  rw [n3, sc, sm, tm]
  refine ⟨fun d2 => ?_, fun d2 => ⟨by omega, ?_⟩⟩
  · refine wL2_of (fun x y M4 => BN wC M4 ∧ (∀ p : Nat, ¬ (p = 65 + r ∨ p = 76 ∨ p = 77) → M4 p = M p) ∧ M4 76 = M22 76 ∧ M4 77 = M3 77 ∧ ∃ s : Nat, y = (s : Int) ∧ s ≤ n - c ∧ x = ((off n c + s : Nat) : Int) ∧ (∀ c' s' : Nat, c' < c → s' < n - c' → M4 (65 + r) (off n c' + s') = tvC M r c' s') ∧ (∀ s' : Nat, s' < s → M4 (65 + r) (off n c + s') = tvC M r c s')) (fun _ y _ => (1000 - y).toNat) ⟨b3, f3, u3, rfl, 0, rfl, by omega, rfl, fun c' s' h1 h2 => by rw [v3]; exact hv c' s' h1 h2, fun s' h => absurd h (Nat.not_lt_zero s')⟩ (fun K3 x y M4 h4 k3 => ?_)
    obtain ⟨b4, f4, u4, w4, s, rfl, hs, rfl, hv4, hw4⟩ := h4
    have ss : sI (s : Int) = s := sIo (by omega) (by omega)
    have sl : sI ((n - c : Nat) : Int) = ((n - c : Nat) : Int) := sIo (by omega) (by omega)
    have sx : sI ((off n c + s : Nat) : Int) = ((off n c + s : Nat) : Int) := sIo (by omega) (by omega)
    have tx : (((off n c + s : Nat) : Int)).toNat = off n c + s := by omega
    have done : s = n - c → K ((off n c + s : Nat) : Int) (((n - c : Nat) : Int) + (-1)) M4 := fun e => by
      refine k _ _ _ ⟨b4, f4, c + 1, by omega, by omega, ?_, fun c' s' h1 h2 => ?_⟩ (by omega)
      · show ((off n c + s : Nat) : Int) = ((off n c + (n - c) : Nat) : Int)
        rw [e]
      · by_cases e2 : c' = c
        · subst e2
          exact hw4 s' (by omega)
        · exact hv4 c' s' (by omega) h2
    rw [ss, sx, tx, z2]
    refine ⟨fun d3 => done (by omega), fun d3 => ⟨fun d4 => absurd d4 (by omega), fun d4 => ?_⟩⟩
    have e60 : M4 60 = M 60 := f4 60 (by omega)
    have w77 : ∀ i : Nat, (i : Int) < M 60 2 → M4 77 i = wbF (M j 2) (M (j + 1)) (M (j + 2)) (M 61 i) ((n - c : Nat) : Int) := fun i hi => by rw [w4]; exact hw i (by omega)
    refine fC_trueFrom b4 (by omega) ⟨by omega, by omega⟩ (fun i hi => ?_) ?_
    · rw [e60] at hi
      rw [w77 i hi]
      exact wbF_b (by omega)
    · have et : trB (fun m => bt (M4 76 (((s : Int) + M4 77 m) % ((n - c : Nat) : Int)).toNat) (M4 62 m)) (M4 60 2).toNat = tvC M r c s := by
        rw [tv c s (by omega), e60]
        refine trB_cg _ (fun m hm2 => ?_)
        have em := emB ((s : Int) + wbF (M j 2) (M (j + 1)) (M (j + 2)) (M 61 m) ((n - c : Nat) : Int)) ((n - c : Nat) : Int) (by omega)
        rw [w77 m (by omega), f4 62 (by omega), u4, u22 _ (by omega)]
      rw [et]
      have bt2 : 0 ≤ tvC M r c s ∧ tvC M r c s ≤ 63 := trV_b (by omega)
      refine ⟨by omega, fun M5 e5 => ?_⟩
      refine k3 _ _ _ ⟨by rw [e5]; exact BN.up b4 z1 rfl (by omega) (by omega), fun p hp => by rw [e5, zup_row _ _ (by omega)]; exact f4 p hp, by rw [e5, zup_row _ _ (by omega)]; exact u4, by rw [e5, zup_row _ _ (by omega)]; exact w4, s + 1, by omega, by omega, by omega, fun c' s' h1 h2 => ?_, fun s' h1 => ?_⟩ (by omega)
      · have om := off_m n c h1
        rw [e5, zup_n _ _ (by omega)]
        exact hv4 c' s' h1 h2
      · rw [e5]
        by_cases c6 : s' = s
        · rw [c6, zup_s]
        · rw [zup_n _ _ (by omega)]
          exact hw4 s' (by omega)
  · have b61 : 0 ≤ M3 61 m ∧ M3 61 m ≤ 100000 := BN.at b3 (rfl : zcd wC 61 = 20) rfl
    rw [sIo (z := M3 61 m) (by omega) (by omega)]
    refine fC_wayBy b3 cdj.1 cdj.2 (by omega) (by omega) (fun z hz => ?_)
    have bj : 0 ≤ M3 j 2 ∧ M3 j 2 ≤ 12 := BN.at b3 cdj.2 rfl
    have ez := wbR_F bj.1 hz
    rw [f3 j (by omega), f3 (j + 1) (by omega), f3 (j + 2) (by omega), f3 61 (by omega)] at ez
    have bz := wbR_r (by omega) hz
    refine ⟨by omega, fun M5 e5 => ?_⟩
    refine k2 _ _ ⟨by rw [e5]; exact BN.up b3 (rfl : zcd wC 77 = 29) rfl (by omega) (by omega), fun p hp => by rw [e5, zup_row _ _ (by omega)]; exact f3 p hp, by rw [e5, zup_row _ _ (by omega)]; exact v3, by rw [e5, zup_row _ _ (by omega)]; exact u3, m + 1, by omega, by omega, fun i hi => ?_⟩ (by omega)
    rw [e5]
    by_cases c6 : i = m
    · rw [c6, zup_s, ez]
    · rw [zup_n _ _ (by omega)]
      exact hw i (by omega)
end zz47w_plan1
section zz47x_plan2
/-! plans: the class's rows of costs -/
def an (w t : Int) : Int := andI w (xorI t (-1))
theorem an_b {w t : Int} (h : 0 ≤ w ∧ w ≤ 2147483647) : 0 ≤ an w t ∧ an w t ≤ w := andI_le w _ h.1 h.2
def cstI (st : Int) (c s : Nat) : Int := 5 * (c : Int) + absI ((s : Int) - st)
theorem cstI_b {st : Int} {c s : Nat} (h : 0 ≤ st ∧ st ≤ 23) (hc : c < 24) (hs : s < 24) : 0 ≤ cstI st c s ∧ cstI st c s ≤ 200 := by
  unfold cstI
  have := absI_b ((s : Int) - st)
  omega
theorem sh_pow (m : Nat) (h : m ≤ 6) : shlI 1 (m : Int) = ((2 ^ m : Nat) : Int) := by
  rcases (by omega : m = 0 ∨ m = 1 ∨ m = 2 ∨ m = 3 ∨ m = 4 ∨ m = 5 ∨ m = 6) with rfl | rfl | rfl | rfl | rfl | rfl | rfl <;> decide
theorem pow_b (m : Nat) (h : m ≤ 6) : 1 ≤ 2 ^ m ∧ 2 ^ m ≤ 64 := by
  rcases (by omega : m = 0 ∨ m = 1 ∨ m = 2 ∨ m = 3 ∨ m = 4 ∨ m = 5 ∨ m = 6) with rfl | rfl | rfl | rfl | rfl | rfl | rfl <;> decide
theorem trB_lt {b : Nat → Int} : ∀ m : Nat, m ≤ 6 → trB b m < ((2 ^ m : Nat) : Int)
  | 0, _ => by show (0 : Int) < ((2 ^ 0 : Nat) : Int); decide
  | m + 1, h => by
    have a := trB_lt (b := b) m (by omega)
    have c := trB_b (b := b) m (by omega)
    have p := pow_b m (by omega)
    have e : (2 : Nat) ^ (m + 1) = 2 ^ m * 2 := Nat.pow_succ 2 m
    show (if b m = 1 then orI (trB b m) (shlI 1 (m : Int)) else trB b m) < ((2 ^ (m + 1) : Nat) : Int)
    by_cases d : b m = 1
    · rw [if_pos d, sh_pow m (by omega), orI_nat c.1 (by omega) (by omega) (by omega)]
      have l := Nat.or_lt_two_pow (x := (trB b m).toNat) (y := (((2 ^ m : Nat) : Int)).toNat) (n := m + 1) (by omega) (by omega)
      omega
    · rw [if_neg d]
      omega
def vld (n c s : Nat) : Prop := c < n ∧ s < n - c
def bef (c s c2 s2 : Nat) : Prop := c2 < c ∨ (c2 = c ∧ s2 < s)
theorem bef_lt {n c s c2 s2 : Nat} (h : s2 < n - c2) (h2 : c2 < c + 1) (e : s = n - c) : bef c s c2 s2 := by
  unfold bef
  by_cases e2 : c2 = c
  · subst e2
    exact Or.inr ⟨rfl, by omega⟩
  · exact Or.inl (by omega)
/-- the cheapest of those that make g true -/
def chP (P : Nat → Nat → Prop) (tv cs : Nat → Nat → Int) (g x : Int) : Prop := 0 ≤ x ∧ x ≤ 1000000 ∧ (∀ c s : Nat, P c s → tv c s = g → x ≤ cs c s) ∧ (x = 1000000 ∨ ∃ c s : Nat, P c s ∧ tv c s = g ∧ x = cs c s)
theorem fC_cost {M : zM} {r c s : Nat} (hB : BN wC M) (hr : r < 4) (hc : c < 24) (hs : s < 24) {Q : Int → Prop} (hQ : Q (cstI (M (41 + 4 * r) 2) c s)) : wC_Planner_cost (41 + 4 * r) (c : Int) (s : Int) M Q := by
  unfold wC_Planner_cost
  obtain ⟨g1, g2, -⟩ := rg_cd r hr
  have bs : 0 ≤ M (41 + 4 * r) 2 ∧ M (41 + 4 * r) 2 ≤ 23 := BN.at hB g2 rfl
  have b := cstI_b (c := c) (s := s) bs hc hs
  unfold cstI at b hQ
  rw [sIo (z := (s : Int) - M (41 + 4 * r) 2) (by omega) (by omega), sIo (by omega) (by omega)]
  exact hQ
theorem fC_fill {M : zM} {a0 N : Nat} {v : Int} (hB : BN wC M) (hN : zln wC a0 = N) (hN2 : N ≤ 1000) {q : Nat} {lo hi : Int} (hq : zcd wC a0 = q) (hbd : ∀ k, cbt q k = (lo, hi)) (hv : lo ≤ v ∧ v ≤ hi) {Q : zM → Prop} (hQ : ∀ M1 : zM, BN wC M1 ∧ (∀ p : Nat, p ≠ a0 → M1 p = M p) ∧ (∀ k : Nat, k < N → M1 a0 k = v) → Q M1) : wC_fill a0 v M Q := by
  unfold wC_fill
  rw [hN]
  refine wL1_of (fun x M2 => BN wC M2 ∧ (∀ p : Nat, p ≠ a0 → M2 p = M p) ∧ ∃ i : Nat, x = (i : Int) ∧ i ≤ N ∧ ∀ k : Nat, k < i → M2 a0 k = v) (fun x _ => (2000 - x).toNat) ⟨hB, fun _ _ => rfl, 0, rfl, by omega, fun k h => absurd h (Nat.not_lt_zero k)⟩ (fun K x M2 h k => ?_)
  obtain ⟨b2, f2, i, rfl, i1, hv2⟩ := h
  have si : sI (i : Int) = i := sIo (by omega) (by omega)
  have ti : ((i : Int)).toNat = i := by omega
  rw [si, ti]
  refine ⟨fun c => hQ _ ⟨b2, f2, fun k hk => hv2 k (by omega)⟩, fun c => ⟨by omega, fun M3 e3 => ?_⟩⟩
  refine k _ _ ⟨by rw [e3]; exact BN.up b2 hq (hbd i) hv.1 hv.2, fun p hp => by rw [e3, zup_row _ _ hp]; exact f2 p hp, i + 1, by omega, by omega, fun k hk => ?_⟩ (by omega)
  rw [e3]
  by_cases c5 : k = i
  · rw [c5, zup_s]
  · rw [zup_n _ _ (fun x => c5 x.2)]
    exact hv2 k (by omega)
set_option maxHeartbeats 4000000 in
theorem fC_listCheapest {M : zM} {r n : Nat} {tv : Nat → Nat → Int} (hB : BN wC M) (hr : r < 4) (hn : M (41 + 4 * r + 1) 1 = (n : Int)) (ht : ∀ c s : Nat, vld n c s → M (65 + r) (off n c + s) = tv c s) (hb : ∀ c s : Nat, 0 ≤ tv c s ∧ tv c s ≤ 63) {Q : zM → Prop} (hQ : ∀ M1 : zM, BN wC M1 ∧ (∀ p : Nat, p ≠ 75 → M1 p = M p) ∧ (∀ g : Nat, g < 64 → chP (vld n) tv (cstI (M (41 + 4 * r) 2)) (g : Int) (M1 75 g)) → Q M1) : wC_Planner_listCheapest (41 + 4 * r) (65 + r) M Q := by
  unfold wC_Planner_listCheapest
  obtain ⟨g1, g2, g3, g4, g5, g6⟩ := rg_cd r hr
  have bl : 0 ≤ M (41 + 4 * r + 1) 1 ∧ M (41 + 4 * r + 1) 1 ≤ 24 := BN.at hB g3 rfl
  have bs : 0 ≤ M (41 + 4 * r) 2 ∧ M (41 + 4 * r) 2 ≤ 23 := BN.at hB g2 rfl
  obtain ⟨z1, z2⟩ := (by decide : ∀ r : Nat, r < 4 → zcd wC (65 + r) = 24 ∧ zln wC (65 + r) = 300) r hr
  refine fC_fill (N := 64) hB (rfl : zln wC 75 = 64) (by omega) (rfl : zcd wC 75 = 27) (fun _ => rfl) (by omega) (fun M7 h7 => ?_)
  obtain ⟨b7, f7, v7⟩ := h7
  refine wL2_of (fun x y M2 => BN wC M2 ∧ (∀ p : Nat, p ≠ 75 → M2 p = M p) ∧ ∃ c : Nat, y = (c : Int) ∧ c ≤ n ∧ x = (off n c : Int) ∧ ∀ g : Nat, g < 64 → chP (fun c2 s2 => vld n c2 s2 ∧ c2 < c) tv (cstI (M (41 + 4 * r) 2)) (g : Int) (M2 75 g)) (fun _ y _ => (1000 - y).toNat) ⟨b7, f7, 0, rfl, by omega, rfl, fun g hg => ⟨by rw [v7 g hg]; omega, by rw [v7 g hg]; omega, fun c s h => absurd h.2 (Nat.not_lt_zero c), Or.inl (v7 g hg)⟩⟩ (fun K x y M2 h k => ?_)
  obtain ⟨b2, f2, c, rfl, hc, rfl, hv⟩ := h
  have sy : sI (c : Int) = c := sIo (by omega) (by omega)
  have l2 : M2 (41 + 4 * r + 1) 1 = (n : Int) := by rw [f2 _ (by omega)]; exact hn
  have sn : sI (n : Int) = n := sIo (by omega) (by omega)
  rw [sy, l2, sn]
  refine ⟨fun d => hQ _ ⟨b2, f2, fun g hg => ?_⟩, fun d => ?_⟩
  · obtain ⟨a1, a2, a3, a4⟩ := hv g hg
    refine ⟨a1, a2, fun c2 s2 h2 => a3 c2 s2 ⟨h2, by have := h2.1; omega⟩, ?_⟩
    rcases a4 with a4 | ⟨c2, s2, p1, p2⟩
    · exact Or.inl a4
    · exact Or.inr ⟨c2, s2, p1.1, p2⟩
  have ob := off_b n c (by omega) (by omega)
  refine wL2_of (fun x y M4 => BN wC M4 ∧ (∀ p : Nat, p ≠ 75 → M4 p = M p) ∧ ∃ s : Nat, y = (s : Int) ∧ s ≤ n - c ∧ x = ((off n c + s : Nat) : Int) ∧ ∀ g : Nat, g < 64 → chP (fun c2 s2 => vld n c2 s2 ∧ bef c s c2 s2) tv (cstI (M (41 + 4 * r) 2)) (g : Int) (M4 75 g)) (fun _ y _ => (1000 - y).toNat) ⟨b2, f2, 0, rfl, by omega, rfl, fun g hg => ?_⟩ (fun K3 x y M4 h4 k3 => ?_)
  · obtain ⟨a1, a2, a3, a4⟩ := hv g hg
    refine ⟨a1, a2, fun c2 s2 h2 => a3 c2 s2 ⟨h2.1, by have := h2.2; unfold bef at this; omega⟩, ?_⟩
    rcases a4 with a4 | ⟨c2, s2, p1, p2⟩
    · exact Or.inl a4
    · exact Or.inr ⟨c2, s2, ⟨p1.1, Or.inl p1.2⟩, p2⟩
  obtain ⟨b4, f4, s, rfl, hs, rfl, hw⟩ := h4
  have ss : sI (s : Int) = s := sIo (by omega) (by omega)
  have l4 : M4 (41 + 4 * r + 1) 1 = (n : Int) := by rw [f4 _ (by omega)]; exact hn
  have sl : sI ((n : Int) - (c : Int)) = ((n - c : Nat) : Int) := by rw [sIo (by omega) (by omega)]; omega
  have sx : sI ((off n c + s : Nat) : Int) = ((off n c + s : Nat) : Int) := sIo (by omega) (by omega)
  have tx : (((off n c + s : Nat) : Int)).toNat = off n c + s := by omega
  have done : s = n - c → K ((off n c + s : Nat) : Int) ((c : Int) + 1) M4 := fun e => by
    refine k _ _ _ ⟨b4, f4, c + 1, by omega, by omega, by show ((off n c + s : Nat) : Int) = ((off n c + (n - c) : Nat) : Int); rw [e], fun g hg => ?_⟩ (by omega)
    obtain ⟨a1, a2, a3, a4⟩ := hw g hg
    refine ⟨a1, a2, fun c2 s2 h2 => a3 c2 s2 ⟨h2.1, bef_lt h2.1.2 h2.2 e⟩, ?_⟩
    rcases a4 with a4 | ⟨c2, s2, p1, p2⟩
    · exact Or.inl a4
    · exact Or.inr ⟨c2, s2, ⟨p1.1, by have := p1.2; unfold bef at this; omega⟩, p2⟩
  rw [ss, l4, sl, sx, tx, z2]
  refine ⟨fun d3 => done (by omega), fun d3 => ⟨fun d4 => absurd d4 (by omega), fun d4 => ?_⟩⟩
  have vv : vld n c s := ⟨by omega, by omega⟩
  have e65 : M4 (65 + r) (off n c + s) = tv c s := by rw [f4 _ (by omega)]; exact ht c s vv
  have tb := hb c s
  have st : sI (tv c s) = tv c s := sIo (by omega) (by omega)
  rw [e65, st]
  refine ⟨by omega, by omega, by omega, ?_⟩
  refine fC_cost b4 hr (by omega) (by omega) ?_
  rw [f4 (41 + 4 * r) (by omega)]
  have cb := cstI_b (c := c) (s := s) bs (by omega) (by omega)
  have hh := hw (tv c s).toNat (by omega)
  rw [show (((tv c s).toNat : Nat) : Int) = tv c s by omega] at hh
  obtain ⟨x1, x2, x3, x4⟩ := hh
  rw [sIo (z := M4 75 (tv c s).toNat) (by omega) (by omega)]
  refine ⟨by omega, fun M5 e5 => ?_⟩
  refine k3 _ _ _ ⟨by rw [e5]; exact BN.up b4 (rfl : zcd wC 75 = 27) rfl (by omega) (by omega), fun p hp => by rw [e5, zup_row _ _ hp]; exact f4 p hp, s + 1, by omega, by omega, by omega, fun g hg => ?_⟩ (by omega)
  have bb : ∀ c2 s2 : Nat, bef c (s + 1) c2 s2 → bef c s c2 s2 ∨ (c2 = c ∧ s2 = s) := fun c2 s2 h => by unfold bef at h ⊢; omega
  have b1 : ∀ c2 s2 : Nat, bef c s c2 s2 → bef c (s + 1) c2 s2 := fun c2 s2 h => by unfold bef at h ⊢; omega
  obtain ⟨a1, a2, a3, a4⟩ := hw g hg
  rw [e5]
  by_cases cg : g = (tv c s).toNat
  · rw [cg, zup_s]
    have eg : (((tv c s).toNat : Nat) : Int) = tv c s := by omega
    rw [eg]
    refine ⟨by omega, by omega, fun c2 s2 h2 h3 => ?_, ?_⟩
    · rcases bb c2 s2 h2.2 with h4 | ⟨rfl, rfl⟩
      · have := x3 c2 s2 ⟨h2.1, h4⟩ h3
        omega
      · omega
    · by_cases cm : M4 75 (tv c s).toNat ≤ cstI (M (41 + 4 * r) 2) c s
      · rw [show min (M4 75 (tv c s).toNat) (cstI (M (41 + 4 * r) 2) c s) = M4 75 (tv c s).toNat by omega]
        rcases x4 with x4 | ⟨c2, s2, p1, p2⟩
        · exact Or.inl x4
        · exact Or.inr ⟨c2, s2, ⟨p1.1, b1 _ _ p1.2⟩, p2⟩
      · rw [show min (M4 75 (tv c s).toNat) (cstI (M (41 + 4 * r) 2) c s) = cstI (M (41 + 4 * r) 2) c s by omega]
        exact Or.inr ⟨c, s, ⟨vv, Or.inr ⟨rfl, by omega⟩⟩, rfl, rfl⟩
  · rw [zup_n _ _ (by omega)]
    refine ⟨a1, a2, fun c2 s2 h2 h3 => ?_, ?_⟩
    · rcases bb c2 s2 h2.2 with h4 | ⟨rfl, rfl⟩
      · exact a3 c2 s2 ⟨h2.1, h4⟩ h3
      · omega
    · rcases a4 with a4 | ⟨c2, s2, p1, p2⟩
      · exact Or.inl a4
      · exact Or.inr ⟨c2, s2, ⟨p1.1, b1 _ _ p1.2⟩, p2⟩
end zz47x_plan2
section zz47y_plan3
/-! plans: the class's sums of costs and its choice -/
def plP (n : Nat) (tv cs : Nat → Nat → Int) (beh : Int → Int) (NV w x : Int) : Prop := 0 ≤ x ∧ x ≤ NV ∧ (∀ c s : Nat, vld n c s → x ≤ cs c s + beh (an w (tv c s))) ∧ (x = NV ∨ ∃ c s : Nat, vld n c s ∧ x = cs c s + beh (an w (tv c s)))
def fsP2 (n : Nat) (tv cs : Nat → Nat → Int) (beh : Int → Int) (w X : Int) (c s : Nat) : Prop := vld n c s ∧ cs c s + beh (an w (tv c s)) = X ∧ ∀ c2 s2 : Nat, vld n c2 s2 → bef c s c2 s2 → cs c2 s2 + beh (an w (tv c2 s2)) ≠ X
theorem co_cd (i : Nat) (h : i < 5) : zcd wC (70 + i) = 26 ∧ zln wC (70 + i) = 64 := (by decide : ∀ i : Nat, i < 5 → zcd wC (70 + i) = 26 ∧ zln wC (70 + i) = 64) i h
set_option maxHeartbeats 2000000 in
theorem fC_addCosts {M : zM} {i n m : Nat} {tv cs : Nat → Nat → Int} (hB : BN wC M) (hi : i < 4) (hm : M 60 2 = (m : Int)) (hch : ∀ g : Nat, g < 64 → chP (vld n) tv cs (g : Int) (M 75 g)) (htv : ∀ c s : Nat, 0 ≤ tv c s ∧ tv c s < ((2 ^ m : Nat) : Int)) {Q : zM → Prop} (hQ : ∀ M1 : zM, BN wC M1 ∧ (∀ p : Nat, p ≠ 70 + i → M1 p = M p) ∧ (∀ w : Nat, w < 2 ^ m → plP n tv cs (fun u => M (70 + (i + 1)) u.toNat) 1000000 (w : Int) (M1 (70 + i) w)) → Q M1) : wC_Planner_addCosts (70 + (i + 1)) (70 + i) M Q := by
  unfold wC_Planner_addCosts
  have bc : 0 ≤ M 60 2 ∧ M 60 2 ≤ 6 := BN.at hB (rfl : zcd wC 60 = 19) rfl
  have m6 : m ≤ 6 := by omega
  have pw := pow_b m m6
  obtain ⟨z1, z2⟩ := co_cd i (by omega)
  obtain ⟨z3, z4⟩ := co_cd (i + 1) (by omega)
  rw [hm, sh_pow m m6]
  refine wL1_of (fun x M2 => BN wC M2 ∧ (∀ p : Nat, p ≠ 70 + i → M2 p = M p) ∧ ∃ w : Nat, x = (w : Int) ∧ w ≤ 2 ^ m ∧ ∀ u : Nat, u < w → plP n tv cs (fun u => M (70 + (i + 1)) u.toNat) 1000000 (u : Int) (M2 (70 + i) u)) (fun x _ => (1000 - x).toNat) ⟨hB, fun _ _ => rfl, 0, rfl, by omega, fun u h => absurd h (Nat.not_lt_zero u)⟩ (fun K x M2 h k => ?_)
  obtain ⟨b2, f2, w, rfl, hw, hv⟩ := h
  have sw : sI (w : Int) = w := sIo (by omega) (by omega)
  have tw : ((w : Int)).toNat = w := by omega
  rw [sw]
  refine ⟨fun d => hQ _ ⟨b2, f2, fun u hu => hv u (by omega)⟩, fun d => ?_⟩
  refine pL2_of (fun x y => ∃ g : Nat, y = (g : Int) ∧ g ≤ 2 ^ m ∧ 0 ≤ x ∧ x ≤ 1000000 ∧ (∀ u : Nat, u < g → x ≤ M 75 u + M (70 + (i + 1)) (an (w : Int) (u : Int)).toNat) ∧ (x = 1000000 ∨ ∃ u : Nat, u < g ∧ x = M 75 u + M (70 + (i + 1)) (an (w : Int) (u : Int)).toNat)) (fun _ y => (1000 - y).toNat) ⟨0, rfl, by omega, by omega, by omega, fun u h => absurd h (Nat.not_lt_zero u), Or.inl rfl⟩ (fun K3 x y h3 k3 => ?_)
  obtain ⟨g, rfl, hg, x0, x1, x2, x3⟩ := h3
  have sg : sI (g : Int) = g := sIo (by omega) (by omega)
  have tg : ((g : Int)).toNat = g := by omega
  have sx : sI x = x := sIo (by omega) (by omega)
  rw [sg, tg, tw, sx]
  refine ⟨fun d2 => ⟨by rw [z2]; omega, fun M5 e5 => ?_⟩, fun d2 => ⟨by omega, ?_⟩⟩
  · refine k _ _ ⟨by rw [e5]; exact BN.up b2 z1 rfl (by omega) (by omega), fun p hp => by rw [e5, zup_row _ _ hp]; exact f2 p hp, w + 1, by omega, by omega, fun u hu => ?_⟩ (by omega)
    rw [e5]
    by_cases c5 : u = w
    · rw [c5, zup_s]
      refine ⟨x0, x1, fun c s hv => ?_, ?_⟩
      · obtain ⟨t1, t2⟩ := htv c s
        have a := x2 (tv c s).toNat (by omega)
        obtain ⟨-, -, c3, -⟩ := hch (tv c s).toNat (by omega)
        have c4 := c3 c s hv (by omega)
        rw [show (((tv c s).toNat : Nat) : Int) = tv c s by omega] at a
        show x ≤ cs c s + M (70 + (i + 1)) (an (w : Int) (tv c s)).toNat
        omega
      · rcases x3 with x3 | ⟨u, hu, x3⟩
        · exact Or.inl x3
        · obtain ⟨c1, c2, c3, c4⟩ := hch u (by omega)
          have bw : 0 ≤ M (70 + (i + 1)) (an (w : Int) (u : Int)).toNat ∧ M (70 + (i + 1)) (an (w : Int) (u : Int)).toNat ≤ 1000000 := BN.at hB z3 rfl
          rcases c4 with c4 | ⟨c, s, hv, e1, e2⟩
          · exact Or.inl (by omega)
          · refine Or.inr ⟨c, s, hv, ?_⟩
            show x = cs c s + M (70 + (i + 1)) (an (w : Int) (tv c s)).toNat
            rw [e1]
            omega
    · rw [zup_n _ _ (by omega)]
      exact hv u (by omega)
  · have ab : 0 ≤ andI (w : Int) (xorI (g : Int) (-1)) ∧ andI (w : Int) (xorI (g : Int) (-1)) ≤ (w : Int) := an_b (by omega)
    rw [z4, f2 75 (by omega), f2 (70 + (i + 1)) (by omega)]
    obtain ⟨c1, c2, -, -⟩ := hch g (by omega)
    have bw : 0 ≤ M (70 + (i + 1)) (andI (w : Int) (xorI (g : Int) (-1))).toNat ∧ M (70 + (i + 1)) (andI (w : Int) (xorI (g : Int) (-1))).toNat ≤ 1000000 := BN.at hB z3 rfl
    rw [sIo (z := M 75 g + M (70 + (i + 1)) (andI (w : Int) (xorI (g : Int) (-1))).toNat) (by omega) (by omega)]
    refine ⟨by omega, fun t e => k3 _ _ ⟨g + 1, by omega, by omega, by omega, by omega, fun u hu => ?_, ?_⟩ (by omega)⟩
    · by_cases c6 : u = g
      · rw [c6]
        show t ≤ M 75 g + M (70 + (i + 1)) (andI (w : Int) (xorI (g : Int) (-1))).toNat
        omega
      · have := x2 u (by omega)
        omega
    · by_cases c6 : x ≤ M 75 g + M (70 + (i + 1)) (andI (w : Int) (xorI (g : Int) (-1))).toNat
      · rcases x3 with x3 | ⟨u, hu, x3⟩
        · exact Or.inl (by omega)
        · exact Or.inr ⟨u, by omega, by omega⟩
      · refine Or.inr ⟨g, by omega, ?_⟩
        show t = M 75 g + M (70 + (i + 1)) (andI (w : Int) (xorI (g : Int) (-1))).toNat
        omega
set_option maxHeartbeats 2000000 in
theorem fC_choose {M : zM} {i n w : Nat} {tv : Nat → Nat → Int} (hB : BN wC M) (hi : i < 4) (hn : M (41 + 4 * i + 1) 1 = (n : Int)) (ht : ∀ c s : Nat, vld n c s → M (65 + i) (off n c + s) = tv c s) (hw : w < 64) (hex : ∃ c s : Nat, vld n c s ∧ M (70 + i) w = cstI (M (41 + 4 * i) 2) c s + M (70 + (i + 1)) (an (w : Int) (tv c s)).toNat) {Q : Int → zM → Prop} (hQ : ∀ (z : Int) (M1 : zM), (∃ c s : Nat, fsP2 n tv (cstI (M (41 + 4 * i) 2)) (fun u => M (70 + (i + 1)) u.toNat) (w : Int) (M (70 + i) w) c s ∧ z = an (w : Int) (tv c s) ∧ M1 = zup (zup M 63 (2 * i) (c : Int)) 63 (2 * i + 1) (s : Int)) → Q z M1) : wC_Planner_choose (some (41 + 4 * i)) (i : Int) (w : Int) M Q := by
  unfold wC_Planner_choose
  refine ⟨(fun h => nomatch h), fun q hq => ?_⟩
  obtain rfl := Option.some.inj hq
  obtain ⟨g1, g2, g3, g4, g5, g6⟩ := rg_cd i hi
  have bl : 0 ≤ M (41 + 4 * i + 1) 1 ∧ M (41 + 4 * i + 1) 1 ≤ 24 := BN.at hB g3 rfl
  have bs : 0 ≤ M (41 + 4 * i) 2 ∧ M (41 + 4 * i) 2 ≤ 23 := BN.at hB g2 rfl
  obtain ⟨z1, z2⟩ := co_cd i (by omega)
  obtain ⟨z3, z4⟩ := co_cd (i + 1) (by omega)
  have si : sI (i : Int) = i := sIo (by omega) (by omega)
  have si1 : sI ((i : Int) + 1) = ((i + 1 : Nat) : Int) := by rw [sIo (by omega) (by omega)]; omega
  have sn : sI (n : Int) = n := sIo (by omega) (by omega)
  have sw : sI (w : Int) = w := sIo (by omega) (by omega)
  have ti : ((i : Int)).toNat = i := by omega
  have ti1 : (((i + 1 : Nat) : Int)).toNat = i + 1 := by omega
  have tw : ((w : Int)).toNat = w := by omega
  have s2i : sI (2 * (i : Int)) = ((2 * i : Nat) : Int) := by rw [sIo (by omega) (by omega)]; omega
  have s2j : sI (2 * (i : Int) + 1) = ((2 * i + 1 : Nat) : Int) := by rw [sIo (by omega) (by omega)]; omega
  have t2i : (((2 * i : Nat) : Int)).toNat = 2 * i := by omega
  have t2j : (((2 * i + 1 : Nat) : Int)).toNat = 2 * i + 1 := by omega
  refine pL2_of (fun x y => ∃ c : Nat, y = (c : Int) ∧ c ≤ n ∧ x = (off n c : Int) ∧ ∀ c2 s2 : Nat, vld n c2 s2 → c2 < c → cstI (M (41 + 4 * i) 2) c2 s2 + M (70 + (i + 1)) (an (w : Int) (tv c2 s2)).toNat ≠ M (70 + i) w) (fun _ y => (1000 - y).toNat) ⟨0, rfl, by omega, rfl, fun c s _ h => absurd h (Nat.not_lt_zero c)⟩ (fun K x y h k => ?_)
  obtain ⟨c, rfl, hc, rfl, hv⟩ := h
  have sc : sI (c : Int) = c := sIo (by omega) (by omega)
  rw [hn, sn, sc]
  refine ⟨fun d => ?_, fun d => ?_⟩
  · obtain ⟨c2, s2, v2, e2⟩ := hex
    exact absurd e2.symm (hv c2 s2 v2 (by have := v2.1; omega))
  have ob := off_b n c (by omega) (by omega)
  refine pL2_of (fun x y => ∃ s : Nat, y = (s : Int) ∧ s ≤ n - c ∧ x = ((off n c + s : Nat) : Int) ∧ ∀ c2 s2 : Nat, vld n c2 s2 → bef c s c2 s2 → cstI (M (41 + 4 * i) 2) c2 s2 + M (70 + (i + 1)) (an (w : Int) (tv c2 s2)).toNat ≠ M (70 + i) w) (fun _ y => (1000 - y).toNat) ⟨0, rfl, by omega, rfl, fun c2 s2 h2 h3 => hv c2 s2 h2 (by unfold bef at h3; omega)⟩ (fun K3 x y h3 k3 => ?_)
  obtain ⟨s, rfl, hs, rfl, hu⟩ := h3
  have ss : sI (s : Int) = s := sIo (by omega) (by omega)
  have snc : sI ((n : Int) - (c : Int)) = ((n - c : Nat) : Int) := by rw [sIo (by omega) (by omega)]; omega
  have sx : sI ((off n c + s : Nat) : Int) = ((off n c + s : Nat) : Int) := sIo (by omega) (by omega)
  have tx : (((off n c + s : Nat) : Int)).toNat = off n c + s := by omega
  have done : s = n - c → K ((off n c + s : Nat) : Int) ((c : Int) + 1) := fun e => by
    refine k _ _ ⟨c + 1, by omega, by omega, ?_, fun c2 s2 h2 h3 => hu c2 s2 h2 ?_⟩ (by omega)
    · show ((off n c + s : Nat) : Int) = ((off n c + (n - c) : Nat) : Int)
      rw [e]
    · have h4 := h2.2
      unfold bef
      by_cases e2 : c2 = c
      · subst e2
        exact Or.inr ⟨rfl, by omega⟩
      · exact Or.inl (by omega)
  rw [ss, snc, sx, tx, si, si1, ti, ti1, sw, tw, s2i, s2j, t2i, t2j]
  refine ⟨fun d3 => done (by omega), fun d3 => ⟨fun d4 => absurd d4 (by omega), fun d4 => ?_⟩⟩
  have vv : vld n c s := ⟨by omega, by omega⟩
  have et : M (65 + 1 * i) (off n c + s) = tv c s := by rw [Nat.one_mul]; exact ht c s vv
  refine ⟨by omega, by omega, fun t e => ?_⟩
  have e : t = an (w : Int) (tv c s) := by rw [e, et]; rfl
  have ab : 0 ≤ an (w : Int) (tv c s) ∧ an (w : Int) (tv c s) ≤ (w : Int) := an_b (by omega)
  refine fC_cost hB hi (by omega) (by omega) ?_
  have cb := cstI_b (c := c) (s := s) bs (by omega) (by omega)
  rw [Nat.one_mul, Nat.one_mul]
  have bw : 0 ≤ M (70 + (i + 1)) t.toNat ∧ M (70 + (i + 1)) t.toNat ≤ 1000000 := BN.at hB z3 rfl
  have bx : 0 ≤ M (70 + i) w ∧ M (70 + i) w ≤ 1000000 := BN.at hB z1 rfl
  rw [sIo (z := cstI (M (41 + 4 * i) 2) c s + M (70 + (i + 1)) t.toNat) (by omega) (by omega), sIo (z := M (70 + i) w) (by omega) (by omega)]
  refine ⟨by omega, by omega, by omega, by omega, fun d5 => ?_, fun d5 => ⟨by omega, fun M5 e5 => ⟨by omega, fun M6 e6 => ?_⟩⟩⟩
  · refine k3 _ _ ⟨s + 1, by omega, by omega, by omega, fun c2 s2 h2 h3 => ?_⟩ (by omega)
    by_cases c6 : c2 = c ∧ s2 = s
    · rw [c6.1, c6.2, ← e]
      exact d5
    · exact hu c2 s2 h2 (by unfold bef at h3 ⊢; omega)
  · refine hQ _ _ ⟨c, s, ⟨vv, ?_, hu⟩, e, by rw [e6, e5]⟩
    show cstI (M (41 + 4 * i) 2) c s + M (70 + (i + 1)) (an (w : Int) (tv c s)).toNat = M (70 + i) w
    rw [← e]
    exact d5
end zz47y_plan3
