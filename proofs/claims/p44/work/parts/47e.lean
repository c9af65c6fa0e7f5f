section zz47z4_rfind
/-! plans: the model finds the least plan -/
def plQ (P : Nat → Nat → Prop) (tv cs : Nat → Nat → Int) (beh : Int → Int) (NV w x : Int) : Prop := 0 ≤ x ∧ x ≤ NV ∧ (∀ c s : Nat, P c s → x ≤ cs c s + beh (an w (tv c s))) ∧ (x = NV ∨ ∃ c s : Nat, P c s ∧ x = cs c s + beh (an w (tv c s)))
theorem plQ_cg {P P2 : Nat → Nat → Prop} {tv cs : Nat → Nat → Int} {beh : Int → Int} {NV w x : Int} (h : plQ P tv cs beh NV w x) (e : ∀ c s : Nat, P c s ↔ P2 c s) : plQ P2 tv cs beh NV w x := by
  obtain ⟨a, b, c, d⟩ := h
  refine ⟨a, b, fun c2 s2 h2 => c c2 s2 ((e c2 s2).mpr h2), ?_⟩
  rcases d with d | ⟨c2, s2, d1, d2⟩
  · exact Or.inl d
  · exact Or.inr ⟨c2, s2, (e c2 s2).mp d1, d2⟩
theorem plQ_add {P P2 : Nat → Nat → Prop} {tv cs : Nat → Nat → Int} {beh : Int → Int} {NV w x y : Int} {c s : Nat} (h : plQ P tv cs beh NV w x) (e : ∀ c2 s2 : Nat, P2 c2 s2 ↔ P c2 s2 ∨ (c2 = c ∧ s2 = s)) (hy : y = min x (cs c s + beh (an w (tv c s)))) (h0 : 0 ≤ cs c s + beh (an w (tv c s))) : plQ P2 tv cs beh NV w y := by
  obtain ⟨a, b, h3, h4⟩ := h
  refine ⟨by omega, by omega, fun c2 s2 h2 => ?_, ?_⟩
  · rcases (e c2 s2).mp h2 with h5 | ⟨rfl, rfl⟩
    · have := h3 c2 s2 h5
      omega
    · omega
  · by_cases cm : x ≤ cs c s + beh (an w (tv c s))
    · rcases h4 with h4 | ⟨c2, s2, d1, d2⟩
      · exact Or.inl (by omega)
      · exact Or.inr ⟨c2, s2, (e c2 s2).mpr (Or.inl d1), by omega⟩
    · clear h3 h4
      exact Or.inr ⟨c, s, (e c s).mpr (Or.inr ⟨rfl, rfl⟩), by omega⟩
theorem fR_costOf {M : zM} {j c s : Nat} (hB : BI M) (hj : j < 4) (hc : c < 24) (hs : s < 24) {Q : Int → Prop} (hQ : Q (csR M j c s)) : wR_costOf (j : Int) (c : Int) (s : Int) M Q := by
  unfold wR_costOf
  have bs : 0 ≤ M 6 j ∧ M 6 j ≤ 23 := BN.at hB.1 (rfl : zcd wR 6 = 56) rfl
  have b := cstI_b (c := c) (s := s) bs hc hs
  unfold csR at hQ
  unfold cstI at b hQ
  rw [sIo (z := (j : Int)) (by omega) (by omega), show ((j : Int)).toNat = j by omega, sIo (z := (s : Int) - M 6 j) (by omega) (by omega), sIo (z := 5 * (c : Int) + absI ((s : Int) - M 6 j)) (by omega) (by omega)]
  exact ⟨by omega, hQ⟩
/-- the model's tables from ring i on -/
def flR (M M2 : zM) (R m i : Nat) : Prop := BI M2 ∧ (∀ p q : Nat, ¬ (p = 28 ∨ p = 29) → M2 p q = M p q) ∧ (∀ w : Nat, w < 2 ^ m → M2 28 (64 * R + w) = if w = 0 then 0 else 268435456) ∧ (∀ k : Nat, i ≤ k → k < R → (∀ c s : Nat, vld (lenR M k) c s → M2 29 (24 * (24 * k + c) + s) = tvR M k c s) ∧ ∀ w : Nat, w < 2 ^ m → plP (lenR M k) (tvR M k) (csR M k) (fun u => M2 28 (64 * (k + 1) + u.toNat)) 268435456 (w : Int) (M2 28 (64 * k + w)))
theorem flR_28 {M M2 : zM} {R m j w : Nat} {v : Int} (h : flR M M2 R m (j + 1)) (hj : j < R) (hw : w < 64) (hv : 0 ≤ v ∧ v ≤ 268435456) : flR M (zup M2 28 (64 * j + w) v) R m (j + 1) := by
  obtain ⟨a, b, c, d⟩ := h
  refine ⟨BI.up a (rfl : zcd wR 28 = 78) rfl hv.1 hv.2 (by decide), fun p q hp => by rw [zup_n _ _ (by omega)]; exact b p q hp, fun u hu => by rw [zup_n _ _ (by omega)]; exact c u hu, fun k h1 h2 => ⟨fun c2 s2 h3 => by rw [zup_n _ _ (by omega)]; exact (d k h1 h2).1 c2 s2 h3, fun u hu => ?_⟩⟩
  have e : (fun x : Int => zup M2 28 (64 * j + w) v 28 (64 * (k + 1) + x.toNat)) = fun x : Int => M2 28 (64 * (k + 1) + x.toNat) := funext fun x => zup_n _ _ (by omega)
  rw [e, zup_n _ _ (by omega)]
  exact (d k h1 h2).2 u hu
theorem flR_29 {M M2 : zM} {R m j c s : Nat} {v : Int} (h : flR M M2 R m (j + 1)) (hl : ∀ k : Nat, lenR M k ≤ 24) (hj : j < R) (hc : c < 24) (hs : s < 24) (hv : 0 ≤ v ∧ v ≤ 63) : flR M (zup M2 29 (24 * (24 * j + c) + s) v) R m (j + 1) := by
  obtain ⟨a, b, e, d⟩ := h
  refine ⟨BI.up a (rfl : zcd wR 29 = 79) rfl hv.1 hv.2 (by decide), fun p q hp => by rw [zup_n _ _ (by omega)]; exact b p q hp, fun u hu => by rw [zup_n _ _ (by omega)]; exact e u hu, fun k h1 h2 => ⟨fun c2 s2 h3 => ?_, fun u hu => ?_⟩⟩
  · have := hl k
    have h4 := h3.1
    have h5 := h3.2
    rw [zup_n _ _ (by omega)]
    exact (d k h1 h2).1 c2 s2 h3
  · have e2 : (fun x : Int => zup M2 29 (24 * (24 * j + c) + s) v 28 (64 * (k + 1) + x.toNat)) = fun x : Int => M2 28 (64 * (k + 1) + x.toNat) := funext fun x => zup_n _ _ (by omega)
    rw [e2, zup_n _ _ (by omega)]
    exact (d k h1 h2).2 u hu
theorem bef_s {c s c2 s2 : Nat} : bef c (s + 1) c2 s2 ↔ bef c s c2 s2 ∨ (c2 = c ∧ s2 = s) := by
  unfold bef
  omega
theorem bef_0 {c c2 s2 : Nat} : bef c 0 c2 s2 ↔ c2 < c := by
  unfold bef
  omega
theorem bef_e {n c c2 s2 : Nat} (h : vld n c2 s2) : bef c (n - c) c2 s2 ↔ c2 < c + 1 := by
  have h1 := h.1
  have h2 := h.2
  unfold bef
  by_cases e : c2 = c
  · subst e
    omega
  · omega
set_option maxHeartbeats 8000000 in
theorem fR_findPlan {M : zM} (hB : BI M) {Q : Int → zM → Prop} (hQ : ∀ (z : Int) (M1 : zM), BI M1 ∧ (∀ j9 k9 : Nat, ¬ (j9 = 0 ∧ k9 = 34 ∨ j9 = 22 ∨ j9 = 28 ∨ j9 = 29) → M1 j9 k9 = M j9 k9) ∧ plnP 268435456 (M 0 10).toNat (M 0 16).toNat (lenR M) (tvR M) (csR M) z (M1 22) → Q z M1) : wR_findPlan M Q := by
  unfold wR_findPlan
  have b10 : 0 ≤ M 0 10 ∧ M 0 10 ≤ 4 := BN.at hB.1 (rfl : zcd wR 0 = 50) rfl
  have b16 : 0 ≤ M 0 16 ∧ M 0 16 ≤ 6 := BN.at hB.1 (rfl : zcd wR 0 = 50) rfl
  obtain ⟨R, hR⟩ : ∃ R : Nat, M 0 10 = (R : Int) := ⟨(M 0 10).toNat, by omega⟩
  obtain ⟨m, hm⟩ : ∃ m : Nat, M 0 16 = (m : Int) := ⟨(M 0 16).toNat, by omega⟩
  have sR : sI (R : Int) = R := sIo (by omega) (by omega)
  have pw := pow_b m (by omega)
  have hl : ∀ k : Nat, lenR M k ≤ 24 := fun k => by
    have b : 0 ≤ M 4 k ∧ M 4 k ≤ 24 := BN.at hB.1 (rfl : zcd wR 4 = 54) rfl
    unfold lenR
    omega
  have hst : ∀ k : Nat, 0 ≤ M 6 k ∧ M 6 k ≤ 23 := fun k => BN.at hB.1 (rfl : zcd wR 6 = 56) rfl
  have tvb : ∀ k c s : Nat, 0 ≤ tvR M k c s ∧ tvR M k c s ≤ 63 := fun k c s => by
    unfold tvR trV
    rw [hm, Int.toNat_natCast (m)]
    exact trB_b m (by omega)
  rw [hR, hm, Int.toNat_natCast (R), Int.toNat_natCast (m)] at hQ
  rw [hm, sh_pow m (by omega)]
  refine wL1_of (fun x M2 => BI M2 ∧ (∀ p q : Nat, ¬ (p = 28 ∨ p = 29) → M2 p q = M p q) ∧ ∃ w : Nat, x = (w : Int) ∧ w ≤ 2 ^ m ∧ ∀ u : Nat, u < w → M2 28 (64 * R + u) = if u = 0 then 0 else 268435456) (fun x _ => (1000 - x).toNat) ⟨hB, fun _ _ _ => rfl, 0, rfl, by omega, fun u h => absurd h (Nat.not_lt_zero u)⟩ (fun K x M2 h k => ?_)
  obtain ⟨b2, f2, w, rfl, hw, hv⟩ := h
  have sw : sI (w : Int) = w := sIo (by omega) (by omega)
  have r2 : M2 0 10 = (R : Int) := (f2 0 10 (by omega)).trans hR
  have s64 : sI (64 * (R : Int) + (w : Int)) = ((64 * R + w : Nat) : Int) := by rw [sIo (by omega) (by omega)]; omega
  rw [sw, r2, s64, Int.toNat_natCast (64 * R + w)]
  refine ⟨fun d => ?_, fun d => ⟨fun d2 => ⟨by omega, fun M5 e5 => ?_⟩, fun d2 => ⟨by omega, fun M5 e5 => ?_⟩⟩⟩
  rotate_left
  · refine k _ _ ⟨by rw [e5]; exact BI.up b2 (rfl : zcd wR 28 = 78) rfl (by omega) (by omega) (by decide), fun p q hp => by rw [e5, zup_n _ _ (by omega)]; exact f2 p q hp, w + 1, by omega, by omega, fun u hu => ?_⟩ (by omega)
    rw [e5]
    by_cases c5 : u = w
    · rw [c5, zup_s, if_neg (by omega)]
    · rw [zup_n _ _ (by omega)]
      exact hv u (by omega)
  · refine k _ _ ⟨by rw [e5]; exact BI.up b2 (rfl : zcd wR 28 = 78) rfl (by omega) (by omega) (by decide), fun p q hp => by rw [e5, zup_n _ _ (by omega)]; exact f2 p q hp, w + 1, by omega, by omega, fun u hu => ?_⟩ (by omega)
    rw [e5]
    by_cases c5 : u = w
    · rw [c5, zup_s, if_pos (by omega)]
    · rw [zup_n _ _ (by omega)]
      exact hv u (by omega)
  have ew : w = 2 ^ m := by omega
  subst ew
  clear s64 sw d
  refine wL1_of (fun x M3 => ∃ i : Nat, x = (i : Int) - 1 ∧ i ≤ R ∧ flR M M3 R m i) (fun x _ => (x + 1).toNat) ⟨R, rfl, by omega, b2, f2, hv, fun k h1 h2 => absurd h1 (by omega)⟩ (fun K2 x M3 h3 k2 => ?_)
  obtain ⟨i, rfl, hi, hf⟩ := h3
  have sx : sI ((i : Int) - 1) = (i : Int) - 1 := sIo (by omega) (by omega)
  rw [sx]
  refine ⟨fun d => ?_, fun d => ?_⟩
  · have i0 : i = 0 := by omega
    subst i0
    obtain ⟨b3, f3, v3, t3⟩ := hf
    have sw : sI (((2 ^ m : Nat) : Int) - 1) = (((2 ^ m - 1 : Nat)) : Int) := by rw [sIo (by omega) (by omega)]; omega
    have ew : ((2 ^ m : Nat) : Int) - 1 = (((2 ^ m - 1 : Nat)) : Int) := by omega
    rw [sw, Int.toNat_natCast (2 ^ m - 1), ew]
    refine ⟨by omega, fun t e => ?_⟩
    have bt : 0 ≤ M3 28 (2 ^ m - 1) ∧ M3 28 (2 ^ m - 1) ≤ 268435456 := BN.at b3.1 (rfl : zcd wR 28 = 78) rfl
    have st : sI t = t := sIo (by omega) (by omega)
    rw [st]
    have PB : plB 268435456 R m (lenR M) (tvR M) (csR M) (fun k u => M3 28 (64 * k + u.toNat)) := by
      refine ⟨fun w hw => ?_, fun k hk w hw => ?_⟩
      · show M3 28 (64 * R + ((w : Int)).toNat) = _
        rw [show ((w : Int)).toNat = w by omega]
        exact v3 w hw
      · show plP (lenR M k) (tvR M k) (csR M k) (fun u => M3 28 (64 * (k + 1) + u.toNat)) 268435456 (w : Int) (M3 28 (64 * k + ((w : Int)).toNat))
        rw [show ((w : Int)).toNat = w by omega]
        exact (t3 k (by omega) hk).2 w hw
    have e0 : (fun (k : Nat) (u : Int) => M3 28 (64 * k + u.toNat)) 0 (((2 ^ m - 1 : Nat)) : Int) = M3 28 (2 ^ m - 1) := by
      show M3 28 (64 * 0 + ((((2 ^ m - 1 : Nat)) : Int)).toNat) = _
      rw [Int.toNat_natCast (2 ^ m - 1), Nat.mul_zero, Nat.zero_add]
    refine ⟨fun d2 => ?_, fun d2 => hQ _ _ ⟨b3, fun p q hp => f3 p q (by omega), (fun k u => M3 28 (64 * k + u.toNat)), PB, Or.inl ⟨rfl, by rw [e0]; omega⟩⟩⟩
    refine wL2_of (fun x y M4 => BI M4 ∧ (∀ p q : Nat, p ≠ 22 → M4 p q = M3 p q) ∧ ∃ k : Nat, y = (k : Int) ∧ k ≤ R ∧ ∃ W : Nat → Int, x = W k ∧ W 0 = (((2 ^ m - 1 : Nat)) : Int) ∧ 0 ≤ W k ∧ W k < ((2 ^ m : Nat) : Int) ∧ M3 28 (64 * k + (W k).toNat) < 268435456 ∧ chn k (lenR M) (tvR M) (csR M) (fun k u => M3 28 (64 * k + u.toNat)) W (M4 22)) (fun _ y _ => (1000 - y).toNat) ⟨b3, fun _ _ _ => rfl, 0, rfl, by omega, fun _ => (((2 ^ m - 1 : Nat)) : Int), rfl, rfl, by show (0 : Int) ≤ (((2 ^ m - 1 : Nat)) : Int); omega, by show (((2 ^ m - 1 : Nat)) : Int) < ((2 ^ m : Nat) : Int); omega, by have := e0; dsimp only at this ⊢; omega, fun k h => absurd h (Nat.not_lt_zero k)⟩ (fun K4 x y M4 h4 k4 => ?_)
    obtain ⟨b4, f4, j, rfl, hj, W, rfl, w0, w1, w2, w3, wc⟩ := h4
    have sj : sI (j : Int) = j := sIo (by omega) (by omega)
    have r4 : M4 0 10 = (R : Int) := ((f4 0 10 (by omega)).trans (f3 0 10 (by omega))).trans hR
    rw [sj, Int.toNat_natCast (j), r4, sR]
    refine ⟨fun d3 M5 e5 => hQ _ _ ⟨by rw [e5]; exact BI.up0 b4 (rfl : cbt 50 34 = (-1, 64)) (by omega) (by omega) (by decide), fun p q hp => by rw [e5, zup_n _ _ (by omega), f4 _ _ (by omega)]; exact f3 p q (by omega), (fun k u => M3 28 (64 * k + u.toNat)), PB, Or.inr ⟨?_, ?_, W, w0, ?_⟩⟩, fun d3 => ?_⟩
    · rw [e0]
      exact e
    · rw [e0]
      omega
    · rw [show R = j by omega, e5, zup_row _ _ (by omega)]
      exact wc
    · obtain ⟨n, hn⟩ : ∃ n : Nat, lenR M j = n := ⟨_, rfl⟩
      have ln : M 4 j = (n : Int) := by
        have b : 0 ≤ M 4 j ∧ M 4 j ≤ 24 := BN.at hB.1 (rfl : zcd wR 4 = 54) rfl
        unfold lenR at hn
        omega
      have n24 : n ≤ 24 := by have := hl j; omega
      have sn : sI (n : Int) = n := sIo (by omega) (by omega)
      obtain ⟨w, hw5⟩ : ∃ w : Nat, W j = (w : Int) := ⟨(W j).toNat, by omega⟩
      obtain ⟨hv1, hv2⟩ := t3 j (by omega) (by omega)
      have hvw := hv2 w (by omega)
      rw [hn] at hv1 hvw
      have tw2 : (W j).toNat = w := by omega
      rw [tw2] at w3
      clear tw2
      have hex : ∃ c s : Nat, vld n c s ∧ M3 28 (64 * j + w) = csR M j c s + M3 28 (64 * (j + 1) + (an (w : Int) (tvR M j c s)).toNat) := by
        obtain ⟨p0, p1, p2, p3⟩ := hvw
        rcases p3 with p3 | ⟨c, s, v, p3⟩
        · omega
        · exact ⟨c, s, v, p3⟩
      have l4 : ∀ M5 : zM, (∀ p q : Nat, p ≠ 22 → M5 p q = M3 p q) → M5 4 j = (n : Int) := fun M5 f5 => by rw [f5 4 j (by omega), f3 4 j (by omega)]; exact ln
      have end2 : ∀ (x : Int) (M5 : zM), (∃ c s : Nat, fsP2 n (tvR M j) (csR M j) (fun u => M3 28 (64 * (j + 1) + u.toNat)) (w : Int) (M3 28 (64 * j + w)) c s ∧ x = an (w : Int) (tvR M j c s) ∧ M5 = zup (zup M4 22 (2 * j) (c : Int)) 22 (2 * j + 1) (s : Int)) → K4 x ((j : Int) + 1) M5 := fun x M5 h5 => by
        obtain ⟨c, s, hf, rfl, e5⟩ := h5
        have ab := an_b (w := (w : Int)) (t := tvR M j c s) (by omega)
        have vv := hf.1
        have v1 := vv.1
        have v2 := vv.2
        have hf2 : csR M j c s + M3 28 (64 * (j + 1) + (an (w : Int) (tvR M j c s)).toNat) = M3 28 (64 * j + w) := hf.2.1
        have cb : 0 ≤ csR M j c s ∧ csR M j c s ≤ 200 := cstI_b (hst j) (by omega) (by omega)
        refine k4 _ _ _ ⟨by rw [e5]; exact BI.up (BI.up b4 (rfl : zcd wR 22 = 72) rfl (by omega) (by omega) (by decide)) (rfl : zcd wR 22 = 72) rfl (by omega) (by omega) (by decide), fun p q hp => by rw [e5, zup_n _ _ (by omega), zup_n _ _ (by omega)]; exact f4 p q hp, j + 1, by omega, by omega, fun q => if q = j + 1 then an (w : Int) (tvR M j c s) else W q, ?_, ?_, ?_, ?_, ?_, fun k hk => ?_⟩ (by omega)
        · dsimp only
          rw [if_pos rfl]
        · dsimp only
          rw [if_neg (by omega)]
          exact w0
        · dsimp only
          rw [if_pos rfl]
          exact ab.1
        · dsimp only
          rw [if_pos rfl]
          omega
        · dsimp only
          rw [if_pos rfl]
          omega
        · dsimp only
          rw [if_neg (show ¬ k = j + 1 by omega)]
          by_cases c6 : k = j
          · subst c6
            rw [if_pos rfl]
            refine ⟨c, s, by rw [e5, zup_n _ _ (by omega), zup_s], by rw [e5, zup_s], ?_, by rw [hw5]⟩
            rw [hn, hw5, show ((w : Int)).toNat = w by omega]
            exact hf
          · rw [if_neg (show ¬ k + 1 = j + 1 by omega)]
            obtain ⟨c7, s7, x1, x2, x3⟩ := wc k (by omega)
            exact ⟨c7, s7, by rw [e5, zup_n _ _ (by omega), zup_n _ _ (by omega)]; exact x1, by rw [e5, zup_n _ _ (by omega), zup_n _ _ (by omega)]; exact x2, x3⟩
      rw [hw5]
      have sw2 : sI (w : Int) = w := sIo (by omega) (by omega)
      have s2i : sI (2 * (j : Int)) = ((2 * j : Nat) : Int) := by rw [sIo (by omega) (by omega)]; omega
      have s2j : sI (2 * (j : Int) + 1) = ((2 * j + 1 : Nat) : Int) := by rw [sIo (by omega) (by omega)]; omega
      have s64 : sI (64 * (j : Int) + (w : Int)) = ((64 * j + w : Nat) : Int) := by rw [sIo (by omega) (by omega)]; omega
      refine wL3_of (fun x d y M5 => (∃ c : Nat, y = (c : Int) ∧ c ≤ n) ∧ ((d = 0 ∧ x = (w : Int) ∧ M5 = M4 ∧ ∀ c2 s2 : Nat, vld n c2 s2 → (c2 : Int) < y → csR M j c2 s2 + M3 28 (64 * (j + 1) + (an (w : Int) (tvR M j c2 s2)).toNat) ≠ M3 28 (64 * j + w)) ∨ (d = 1 ∧ (∀ p q : Nat, p ≠ 22 → M5 p q = M3 p q) ∧ ∃ c s : Nat, fsP2 n (tvR M j) (csR M j) (fun u => M3 28 (64 * (j + 1) + u.toNat)) (w : Int) (M3 28 (64 * j + w)) c s ∧ x = an (w : Int) (tvR M j c s) ∧ M5 = zup (zup M4 22 (2 * j) (c : Int)) 22 (2 * j + 1) (s : Int)))) (fun _ _ y _ => (1000 - y).toNat) ⟨⟨0, rfl, by omega⟩, Or.inl ⟨rfl, rfl, rfl, fun c2 s2 _ h => by omega⟩⟩ (fun K5 x d y M5 h5 k5 => ?_)
      obtain ⟨⟨c, rfl, hc⟩, h5⟩ := h5
      have sc : sI (c : Int) = c := sIo (by omega) (by omega)
      have f5 : ∀ p q : Nat, p ≠ 22 → M5 p q = M3 p q := by
        rcases h5 with ⟨-, -, e5, -⟩ | ⟨-, e5, -⟩
        · rw [e5]
          exact f4
        · exact e5
      have sd : sI d = d := by
        rcases h5 with ⟨h, -⟩ | ⟨h, -⟩
        · rw [h]
          decide
        · rw [h]
          decide
      rw [l4 M5 f5, sn, sc, sd]
      refine ⟨by omega, fun d4 => ?_, fun d4 => ⟨fun d5 => ?_, fun d5 => ?_⟩⟩
      · rcases h5 with ⟨-, -, -, h⟩ | ⟨-, -, h⟩
        · obtain ⟨c2, s2, v2, e2⟩ := hex
          exact absurd e2.symm (h c2 s2 v2 (by have := v2.1; omega))
        · exact end2 _ _ h
      · rcases h5 with ⟨h, -⟩ | ⟨-, -, h⟩
        · exact absurd h d5
        · exact end2 _ _ h
      · rcases h5 with ⟨-, rfl, rfl, hv⟩ | ⟨h, -⟩
        rotate_left
        · omega
        subst d5
        have snc : sI ((n : Int) - (c : Int)) = ((n - c : Nat) : Int) := by rw [sIo (by omega) (by omega)]; omega
        refine wL3_of (fun x d y M6 => (∃ s : Nat, y = (s : Int) ∧ s ≤ n - c) ∧ ((d = 0 ∧ x = (w : Int) ∧ M6 = M5 ∧ ∀ s' : Nat, y = (s' : Int) → ∀ c2 s2 : Nat, vld n c2 s2 → bef c s' c2 s2 → csR M j c2 s2 + M3 28 (64 * (j + 1) + (an (w : Int) (tvR M j c2 s2)).toNat) ≠ M3 28 (64 * j + w)) ∨ (d = 1 ∧ (∀ p q : Nat, p ≠ 22 → M6 p q = M3 p q) ∧ ∃ c s : Nat, fsP2 n (tvR M j) (csR M j) (fun u => M3 28 (64 * (j + 1) + u.toNat)) (w : Int) (M3 28 (64 * j + w)) c s ∧ x = an (w : Int) (tvR M j c s) ∧ M6 = zup (zup M5 22 (2 * j) (c : Int)) 22 (2 * j + 1) (s : Int)))) (fun _ _ y _ => (1000 - y).toNat) ⟨⟨0, rfl, by omega⟩, Or.inl ⟨rfl, rfl, rfl, fun s' e c2 s2 v h => hv c2 s2 v (by unfold bef at h; omega)⟩⟩ (fun K6 x d y M6 h6 k6 => ?_)
        obtain ⟨⟨s, rfl, hs⟩, h6⟩ := h6
        have ss : sI (s : Int) = s := sIo (by omega) (by omega)
        have f6 : ∀ p q : Nat, p ≠ 22 → M6 p q = M3 p q := by
          rcases h6 with ⟨-, -, e6, -⟩ | ⟨-, e6, -⟩
          · rw [e6]
            exact f4
          · exact e6
        have sd : sI d = d := by
          rcases h6 with ⟨h, -⟩ | ⟨h, -⟩
          · rw [h]
            decide
          · rw [h]
            decide
        have s24 : sI (24 * (24 * (j : Int) + (c : Int)) + (s : Int)) = ((24 * (24 * j + c) + s : Nat) : Int) := by rw [sIo (by omega) (by omega)]; omega
        rw [l4 M6 f6, snc, ss, sd, s24, Int.toNat_natCast (24 * (24 * j + c) + s)]
        have done1 : d ≠ 0 → K5 x d ((c : Int) + 1) M6 := fun hd => by
          rcases h6 with ⟨h, -⟩ | h
          · exact absurd h hd
          · exact k5 _ _ _ _ ⟨⟨c + 1, by omega, by omega⟩, Or.inr h⟩ (by omega)
        refine ⟨by omega, fun d6 => ?_, fun d6 => ⟨done1, fun d7 => ?_⟩⟩
        · by_cases hd : d = 0
          · rcases h6 with ⟨-, e6, e7, h⟩ | ⟨h, -⟩
            · refine k5 _ _ _ _ ⟨⟨c + 1, by omega, by omega⟩, Or.inl ⟨hd, e6, e7, fun c2 s2 v h2 => h s rfl c2 s2 v ?_⟩⟩ (by omega)
              exact bef_lt v.2 (by omega) (by omega)
            · omega
          · exact done1 hd
        · rcases h6 with ⟨-, rfl, rfl, hu⟩ | ⟨h, -⟩
          rotate_left
          · omega
          have hu := hu s rfl
          have vv : vld n c s := ⟨by omega, by omega⟩
          refine ⟨by omega, fun t9 e9 => ?_⟩
          rw [f6 29 _ (by omega), hv1 c s vv] at e9
          have e9 : t9 = an (w : Int) (tvR M j c s) := e9
          have ab : 0 ≤ an (w : Int) (tvR M j c s) ∧ an (w : Int) (tvR M j c s) ≤ (w : Int) := an_b (by omega)
          obtain ⟨a, ha⟩ : ∃ a : Nat, t9 = (a : Int) := ⟨t9.toNat, by omega⟩
          have s65 : sI (64 * ((j : Int) + 1) + (a : Int)) = ((64 * (j + 1) + a : Nat) : Int) := by rw [sIo (by omega) (by omega)]; omega
          have ea : (an (w : Int) (tvR M j c s)).toNat = a := by omega
          refine fR_costOf (c := c) (s := s) b4 (by omega) (by omega) (by omega) ?_
          have ecs : csR M6 j = csR M j := by unfold csR; rw [f6 6 j (by omega), f3 6 j (by omega)]
          have cb : 0 ≤ csR M j c s ∧ csR M j c s ≤ 200 := cstI_b (hst j) (by omega) (by omega)
          have b8 : 0 ≤ M3 28 (64 * (j + 1) + a) ∧ M3 28 (64 * (j + 1) + a) ≤ 268435456 := BN.at b3.1 (rfl : zcd wR 28 = 78) rfl
          have b9 : 0 ≤ M3 28 (64 * j + w) ∧ M3 28 (64 * j + w) ≤ 268435456 := BN.at b3.1 (rfl : zcd wR 28 = 78) rfl
          rw [ecs, ha, s65, Int.toNat_natCast (64 * (j + 1) + a), s64, Int.toNat_natCast (64 * j + w), f6 28 _ (by omega), f6 28 _ (by omega), sIo (z := csR M j c s + M3 28 (64 * (j + 1) + a)) (by omega) (by omega), sIo (z := M3 28 (64 * j + w)) (by omega) (by omega), s2i, s2j, Int.toNat_natCast (2 * j), Int.toNat_natCast (2 * j + 1)]
          refine ⟨by omega, by omega, fun d8 => ⟨by omega, fun M7 e7 => ⟨by omega, fun M8 e8 => ?_⟩⟩, fun d8 => ?_⟩
          · refine k6 _ _ _ _ ⟨⟨s + 1, by omega, by omega⟩, Or.inr ⟨rfl, fun p q hp => by rw [e8, zup_n _ _ (by omega), e7, zup_n _ _ (by omega)]; exact f6 p q hp, c, s, ⟨vv, ?_, hu⟩, by rw [← e9, ha], by rw [e8, e7]⟩⟩ (by omega)
            show csR M j c s + M3 28 (64 * (j + 1) + (an (w : Int) (tvR M j c s)).toNat) = M3 28 (64 * j + w)
            rw [ea]
            exact d8
          · refine k6 _ _ _ _ ⟨⟨s + 1, by omega, by omega⟩, Or.inl ⟨d7, rfl, rfl, fun s' es c2 s2 v h => ?_⟩⟩ (by omega)
            obtain rfl : s' = s + 1 := by omega
            rcases bef_s.mp h with h | ⟨rfl, rfl⟩
            · exact hu c2 s2 v h
            · rw [ea]
              exact d8
  · obtain ⟨j, rfl⟩ : ∃ j : Nat, i = j + 1 := ⟨i - 1, by omega⟩
    have ej : ((j + 1 : Nat) : Int) - 1 = (j : Int) := by omega
    have sj : sI (j : Int) = j := sIo (by omega) (by omega)
    rw [ej, Int.toNat_natCast (j)]
    refine wL1_of (fun x M4 => flR M M4 R m (j + 1) ∧ (∀ q : Nat, 64 * (j + 1) ≤ q → M4 28 q = M3 28 q) ∧ ∃ w : Nat, x = (w : Int) ∧ w ≤ 2 ^ m ∧ ∀ u : Nat, u < w → M4 28 (64 * j + u) = 268435456) (fun x _ => (1000 - x).toNat) ⟨hf, fun _ _ => rfl, 0, rfl, by omega, fun u h => absurd h (Nat.not_lt_zero u)⟩ (fun K4 x M4 h4 k4 => ?_)
    obtain ⟨g4, q4, w, rfl, hw4, hv4⟩ := h4
    have sw : sI (w : Int) = w := sIo (by omega) (by omega)
    have s64 : sI (64 * (j : Int) + (w : Int)) = ((64 * j + w : Nat) : Int) := by rw [sIo (by omega) (by omega)]; omega
    rw [sw, s64, Int.toNat_natCast (64 * j + w)]
    refine ⟨fun d2 => ?_, fun d2 => ⟨by omega, fun M5 e5 => ?_⟩⟩
    rotate_left
    · refine k4 _ _ ⟨by rw [e5]; exact flR_28 g4 (by omega) (by omega) (by omega), fun q hq => by rw [e5, zup_n _ _ (by omega)]; exact q4 q hq, w + 1, by omega, by omega, fun u hu => ?_⟩ (by omega)
      rw [e5]
      by_cases c5 : u = w
      · rw [c5, zup_s]
      · rw [zup_n _ _ (by omega)]
        exact hv4 u (by omega)
    have ew : w = 2 ^ m := by omega
    subst ew
    clear s64 sw d2
    obtain ⟨n, hn⟩ : ∃ n : Nat, lenR M j = n := ⟨_, rfl⟩
    have ln : M 4 j = (n : Int) := by
      have b : 0 ≤ M 4 j ∧ M 4 j ≤ 24 := BN.at hB.1 (rfl : zcd wR 4 = 54) rfl
      unfold lenR at hn
      omega
    have n24 : n ≤ 24 := by have := hl j; omega
    have sn : sI (n : Int) = n := sIo (by omega) (by omega)
    refine wL1_of (fun x M5 => flR M M5 R m (j + 1) ∧ (∀ q : Nat, 64 * (j + 1) ≤ q → M5 28 q = M3 28 q) ∧ ∃ c : Nat, x = (c : Int) ∧ c ≤ n ∧ (∀ c2 s2 : Nat, vld n c2 s2 → c2 < c → M5 29 (24 * (24 * j + c2) + s2) = tvR M j c2 s2) ∧ ∀ u : Nat, u < 2 ^ m → plQ (fun c2 s2 => vld n c2 s2 ∧ c2 < c) (tvR M j) (csR M j) (fun u => M3 28 (64 * (j + 1) + u.toNat)) 268435456 (u : Int) (M5 28 (64 * j + u))) (fun x _ => (1000 - x).toNat) ⟨g4, q4, 0, rfl, by omega, fun c2 s2 _ h => absurd h (Nat.not_lt_zero c2), fun u hu => ⟨by rw [hv4 u hu]; omega, by rw [hv4 u hu]; omega, fun c2 s2 h => absurd h.2 (Nat.not_lt_zero c2), Or.inl (hv4 u hu)⟩⟩ (fun K5 x M5 h5 k5 => ?_)
    obtain ⟨g5, q5, c, rfl, hc, tv5, hv5⟩ := h5
    have sc : sI (c : Int) = c := sIo (by omega) (by omega)
    have l5 : M5 4 j = (n : Int) := (g5.2.1 4 j (by omega)).trans ln
    rw [l5, sn, sc]
    refine ⟨by omega, fun d2 => ?_, fun d2 => ?_⟩
    · refine k2 _ _ ⟨j, by omega, by omega, g5.1, g5.2.1, g5.2.2.1, fun q h1 h2 => ?_⟩ (by omega)
      by_cases c6 : q = j
      · subst c6
        refine ⟨fun c2 s2 v => tv5 c2 s2 (by rw [← hn]; exact v) (by have := v.1; omega), fun u hu => ?_⟩
        obtain ⟨a1, a2, a3, a4⟩ := hv5 u hu
        have eV : (fun x : Int => M5 28 (64 * (q + 1) + x.toNat)) = fun x : Int => M3 28 (64 * (q + 1) + x.toNat) := funext fun x => q5 _ (by omega)
        rw [eV, hn]
        refine ⟨a1, a2, fun c2 s2 v => a3 c2 s2 ⟨v, by have := v.1; omega⟩, ?_⟩
        rcases a4 with a4 | ⟨c2, s2, a5, a6⟩
        · exact Or.inl a4
        · exact Or.inr ⟨c2, s2, a5.1, a6⟩
      · exact g5.2.2.2 q (by omega) h2
    · refine wL1_of (fun x M6 => flR M M6 R m (j + 1) ∧ (∀ q : Nat, 64 * (j + 1) ≤ q → M6 28 q = M3 28 q) ∧ ∃ s : Nat, x = (s : Int) ∧ s ≤ n - c ∧ (∀ c2 s2 : Nat, vld n c2 s2 → bef c s c2 s2 → M6 29 (24 * (24 * j + c2) + s2) = tvR M j c2 s2) ∧ ∀ u : Nat, u < 2 ^ m → plQ (fun c2 s2 => vld n c2 s2 ∧ bef c s c2 s2) (tvR M j) (csR M j) (fun u => M3 28 (64 * (j + 1) + u.toNat)) 268435456 (u : Int) (M6 28 (64 * j + u))) (fun x _ => (1000 - x).toNat) ⟨g5, q5, 0, rfl, by omega, fun c2 s2 h1 h2 => tv5 c2 s2 h1 (bef_0.mp h2), fun u hu => plQ_cg (hv5 u hu) (fun c2 s2 => by rw [bef_0])⟩ (fun K6 x M6 h6 k6 => ?_)
      obtain ⟨g6, q6, s, rfl, hs, tv6, hv6⟩ := h6
      have ss : sI (s : Int) = s := sIo (by omega) (by omega)
      have l6 : M6 4 j = (n : Int) := (g6.2.1 4 j (by omega)).trans ln
      have snc : sI ((n : Int) - (c : Int)) = ((n - c : Nat) : Int) := by rw [sIo (by omega) (by omega)]; omega
      have s24 : sI (24 * (24 * (j : Int) + (c : Int)) + (s : Int)) = ((24 * (24 * j + c) + s : Nat) : Int) := by rw [sIo (by omega) (by omega)]; omega
      rw [l6, snc, ss, s24, Int.toNat_natCast (24 * (24 * j + c) + s)]
      refine ⟨by omega, fun d3 => ?_, fun d3 => ?_⟩
      · have es : s = n - c := by omega
        subst es
        refine k5 _ _ ⟨g6, q6, c + 1, by omega, by omega, fun c2 s2 v h => tv6 c2 s2 v ((bef_e v).mpr h), fun u hu => plQ_cg (hv6 u hu) (fun c2 s2 => ?_)⟩ (by omega)
        constructor
        · rintro ⟨v, h⟩
          exact ⟨v, (bef_e v).mp h⟩
        · rintro ⟨v, h⟩
          exact ⟨v, (bef_e v).mpr h⟩
      · have vv : vld n c s := ⟨by omega, by omega⟩
        have ft : ∀ p q : Nat, p ≤ 13 → ¬ (p = 0 ∧ (q = 34 ∨ q = 35)) → M6 p q = M p q := fun p q h1 h2 => g6.2.1 p q (by omega)
        have el : lenR M6 j = n := by unfold lenR; rw [l6]; omega
        refine fR_truths g6.1 (by rw [g6.2.1 0 10 (by omega), hR]; omega) (by rw [el]; exact vv) ⟨by omega, fun M7 e7 => ?_⟩
        rw [tvR_cg ft] at e7 ⊢
        have tb := tvb j c s
        have g7 : flR M M7 R m (j + 1) := by rw [e7]; exact flR_29 g6 hl (by omega) (by omega) (by omega) tb
        have tv7 : ∀ c2 s2 : Nat, vld n c2 s2 → bef c (s + 1) c2 s2 → M7 29 (24 * (24 * j + c2) + s2) = tvR M j c2 s2 := fun c2 s2 v h => by
          have v1 := v.1
          have v2 := v.2
          rcases bef_s.mp h with h | ⟨rfl, rfl⟩
          · have hb : ¬ (c2 = c ∧ s2 = s) := by unfold bef at h; omega
            rw [e7, zup_n _ _ (by omega)]
            exact tv6 c2 s2 v h
          · rw [e7, zup_s]
        have q7 : ∀ q : Nat, M7 28 q = M6 28 q := fun q => by rw [e7, zup_n _ _ (by omega)]
        refine wL1_of (fun x M8 => flR M M8 R m (j + 1) ∧ (∀ q : Nat, 64 * (j + 1) ≤ q → M8 28 q = M3 28 q) ∧ M8 29 = M7 29 ∧ ∃ w : Nat, x = (w : Int) ∧ w ≤ 2 ^ m ∧ (∀ u : Nat, u < w → plQ (fun c2 s2 => vld n c2 s2 ∧ bef c (s + 1) c2 s2) (tvR M j) (csR M j) (fun u => M3 28 (64 * (j + 1) + u.toNat)) 268435456 (u : Int) (M8 28 (64 * j + u))) ∧ (∀ u : Nat, w ≤ u → u < 2 ^ m → M8 28 (64 * j + u) = M6 28 (64 * j + u))) (fun x _ => (1000 - x).toNat) ⟨g7, fun q hq => (q7 q).trans (q6 q hq), rfl, 0, rfl, by omega, fun u h => absurd h (Nat.not_lt_zero u), fun u _ _ => q7 _⟩ (fun K8 x M8 h8 k8 => ?_)
        obtain ⟨g8, q8, e29, w, rfl, hw8, hv8, hu8⟩ := h8
        have sw : sI (w : Int) = w := sIo (by omega) (by omega)
        rw [sw]
        refine ⟨fun d4 => k6 _ _ ⟨g8, q8, s + 1, by omega, by omega, fun c2 s2 v h => by rw [e29]; exact tv7 c2 s2 v h, fun u hu => hv8 u (by omega)⟩ (by omega), fun d4 => ?_⟩
        have ab : 0 ≤ an (w : Int) (tvR M j c s) ∧ an (w : Int) (tvR M j c s) ≤ (w : Int) := an_b (by omega)
        obtain ⟨a, ha⟩ : ∃ a : Nat, an (w : Int) (tvR M j c s) = (a : Int) := ⟨(an (w : Int) (tvR M j c s)).toNat, by omega⟩
        have hA : andI (w : Int) (xorI (tvR M j c s) (-1)) = (a : Int) := ha
        have s64 : sI (64 * (j : Int) + (w : Int)) = ((64 * j + w : Nat) : Int) := by rw [sIo (by omega) (by omega)]; omega
        have s65 : sI (64 * ((j : Int) + 1) + (a : Int)) = ((64 * (j + 1) + a : Nat) : Int) := by rw [sIo (by omega) (by omega)]; omega
        rw [hA, s64, Int.toNat_natCast (64 * j + w), s65, Int.toNat_natCast (64 * (j + 1) + a)]
        refine fR_costOf g8.1 (by omega) (by omega) (by omega) ?_
        have ecs : csR M8 j = csR M j := by unfold csR; rw [g8.2.1 6 j (by omega)]
        rw [ecs]
        have cb : 0 ≤ csR M j c s ∧ csR M j c s ≤ 200 := cstI_b (hst j) (by omega) (by omega)
        have b8 : 0 ≤ M8 28 (64 * (j + 1) + a) ∧ M8 28 (64 * (j + 1) + a) ≤ 268435456 := BN.at g8.1.1 (rfl : zcd wR 28 = 78) rfl
        have b9 : 0 ≤ M8 28 (64 * j + w) ∧ M8 28 (64 * j + w) ≤ 268435456 := BN.at g8.1.1 (rfl : zcd wR 28 = 78) rfl
        refine ⟨by omega, fun t e => ⟨by omega, by omega, fun M9 e9 => ?_⟩⟩
        have st : sI t = t := sIo (by omega) (by omega)
        rw [st, sIo (z := M8 28 (64 * j + w)) (by omega) (by omega)] at e9
        have vb : 0 ≤ min (M8 28 (64 * j + w)) t ∧ min (M8 28 (64 * j + w)) t ≤ 268435456 := by omega
        refine k8 _ _ ⟨by rw [e9]; exact flR_28 g8 (by omega) (by omega) vb, fun q hq => by rw [e9, zup_n _ _ (by omega)]; exact q8 q hq, by rw [e9, zup_row _ _ (by omega)]; exact e29, w + 1, by omega, by omega, fun u hu => ?_, fun u h1 h2 => ?_⟩ (by omega)
        · rw [e9]
          by_cases c6 : u = w
          · rw [c6, zup_s]
            have p6 := hv6 w (by omega)
            rw [← hu8 w (by omega) (by omega)] at p6
            refine plQ_add p6 (fun c2 s2 => ?_) (c := c) (s := s) ?_ ?_
            · rw [bef_s]
              constructor
              · rintro ⟨v, h | h⟩
                · exact Or.inl ⟨v, h⟩
                · exact Or.inr h
              · rintro (⟨v, h⟩ | h)
                · exact ⟨v, Or.inl h⟩
                · exact ⟨by rw [h.1, h.2]; exact vv, Or.inr h⟩
            · rw [ha, e, q8 (64 * (j + 1) + a) (by omega), show ((a : Int)).toNat = a by omega]
            · rw [ha, show ((a : Int)).toNat = a by omega, ← q8 (64 * (j + 1) + a) (by omega)]
              omega
          · rw [zup_n _ _ (by omega)]
            exact hv8 u (by omega)
        · rw [e9, zup_n _ _ (by omega)]
          exact hu8 u (by omega) h2
end zz47z4_rfind
section zz47z5_plans
/-! plans: both sides alike -/
set_option maxHeartbeats 2000000 in
theorem fR_make {M : zM} (hB : BI M) {Q : Int → zM → Prop} (hQ : ∀ (z : Int) (M1 : zM), BI M1 ∧ (∀ j9 k9 : Nat, ¬ (j9 = 0 ∧ k9 = 35 ∨ j9 = 0 ∧ k9 = 34 ∨ j9 = 4 ∨ j9 = 6 ∨ j9 = 22 ∨ j9 = 28 ∨ j9 = 29) → M1 j9 k9 = M j9 k9) ∧ (∃ pl : Nat → Int, plnP 268435456 (M 0 10).toNat (M 0 16).toNat (lenR M) (tvR M) (csR M) z pl ∧ (z = -1 → M1 4 = M 4 ∧ M1 6 = M 6) ∧ (z ≠ -1 → ∀ r : Nat, r < (M 0 10).toNat → M1 4 r = M 4 r - pl (2 * r) ∧ M1 6 r = pl (2 * r + 1))) → Q z M1) : wR_make M Q := by
  unfold wR_make
  intro M1 e1
  have hB1 : BI M1 := by rw [e1]; exact BI.up0 hB (rfl : cbt 50 35 = (-2147483648, 2147483647)) (by omega) (by omega) (by decide)
  have F1 : ∀ j9 k9 : Nat, ¬ (j9 = 0 ∧ k9 = 35) → M1 j9 k9 = M j9 k9 := fun j9 k9 h9 => by rw [e1]; exact zup_n _ _ (by omega)
  have b10 : 0 ≤ M 0 10 ∧ M 0 10 ≤ 4 := BN.at hB.1 (rfl : zcd wR 0 = 50) rfl
  have el : lenR M1 = lenR M := funext fun k => by unfold lenR; rw [F1 4 k (by omega)]
  have et : tvR M1 = tvR M := funext fun r => funext fun c => funext fun s => tvR_cg (fun p q h1 h2 => F1 p q (by omega))
  have ec : csR M1 = csR M := funext fun k => by unfold csR; rw [F1 6 k (by omega)]
  refine fR_findPlan hB1 (fun z M3 h3 => ?_)
  obtain ⟨b3, f3, p3⟩ := h3
  rw [F1 0 10 (by omega), F1 0 16 (by omega), el, et, ec] at p3
  have r3 : M3 0 10 = M 0 10 := (f3 0 10 (by omega)).trans (F1 0 10 (by omega))
  have s10 : sI (M 0 10) = M 0 10 := sIo (by omega) (by omega)
  by_cases hz : z = -1
  · have fin : Q z M3 := hQ _ _ ⟨b3, fun j9 k9 h9 => (f3 j9 k9 (by omega)).trans (F1 j9 k9 (by omega)), M3 22, p3, fun _ => ⟨funext fun k => (f3 4 k (by omega)).trans (F1 4 k (by omega)), funext fun k => (f3 6 k (by omega)).trans (F1 6 k (by omega))⟩, fun h => absurd hz h⟩
    refine wL1_of (fun x M7 => x = 0 ∧ M7 = M3) (fun x _ => 0) ⟨rfl, rfl⟩ (fun K x M7 h k => ?_)
    obtain ⟨rfl, rfl⟩ := h
    exact ⟨fun _ => fin, fun _ => ⟨fun _ => fin, fun h => absurd hz h⟩⟩
  · have hc := p3
    obtain ⟨V, -, hc⟩ := hc
    rcases hc with hc | ⟨-, -, W, -, hc⟩
    · exact absurd hc.1 hz
    have hcs := chn_cs hc
    have hl : ∀ k : Nat, 0 ≤ M 4 k ∧ M 4 k ≤ 24 := fun k => BN.at hB.1 (rfl : zcd wR 4 = 54) rfl
    refine wL1_of (fun x M7 => BI M7 ∧ (∀ j9 k9 : Nat, ¬ (j9 = 4 ∨ j9 = 6) → M7 j9 k9 = M3 j9 k9) ∧ ∃ i : Nat, x = (i : Int) ∧ (i : Int) ≤ M 0 10 ∧ (∀ r : Nat, i ≤ r → M7 4 r = M 4 r ∧ M7 6 r = M 6 r) ∧ ∀ r : Nat, r < i → M7 4 r = M 4 r - M3 22 (2 * r) ∧ M7 6 r = M3 22 (2 * r + 1)) (fun x _ => (1000 - x).toNat) ⟨b3, fun _ _ _ => rfl, 0, rfl, by omega, fun r _ => ⟨(f3 4 r (by omega)).trans (F1 4 r (by omega)), (f3 6 r (by omega)).trans (F1 6 r (by omega))⟩, fun r h => absurd h (Nat.not_lt_zero r)⟩ (fun K x M7 h k => ?_)
    obtain ⟨b7, f7, i, rfl, hi, hu, hd⟩ := h
    have si : sI (i : Int) = i := sIo (by omega) (by omega)
    have ti : ((i : Int)).toNat = i := by omega
    have r7 : M7 0 10 = M 0 10 := (f7 0 10 (by omega)).trans r3
    have s2i : sI (2 * (i : Int)) = ((2 * i : Nat) : Int) := by rw [sIo (by omega) (by omega)]; omega
    have s2j : sI (2 * (i : Int) + 1) = ((2 * i + 1 : Nat) : Int) := by rw [sIo (by omega) (by omega)]; omega
    have t2i : (((2 * i : Nat) : Int)).toNat = 2 * i := by omega
    have t2j : (((2 * i + 1 : Nat) : Int)).toNat = 2 * i + 1 := by omega
    rw [r7, s10, si, ti, s2i, s2j, t2i, t2j]
    refine ⟨fun c => hQ _ _ ⟨b7, fun j9 k9 h9 => by rw [f7 _ _ (by omega), f3 _ _ (by omega)]; exact F1 j9 k9 (by omega), M3 22, p3, fun h => absurd h hz, fun _ r hr => hd r (by omega)⟩, fun c => ⟨fun h => absurd h hz, fun _ => ⟨by omega, by omega, by omega, fun M8 e8 => ⟨by omega, by omega, fun M9 e9 => ?_⟩⟩⟩⟩
    obtain ⟨h1, h2, v1, v2⟩ := hcs i (by omega)
    obtain ⟨u1, u2⟩ := hu i (by omega)
    have hli := hl i
    unfold lenR at v1 v2
    rw [u1, f7 22 _ (by omega)] at e8
    have b8 : BI M8 := by rw [e8]; exact BI.up4 b7 (by omega) (by omega)
    have e22 : M8 22 (2 * i + 1) = M3 22 (2 * i + 1) := by rw [e8, zup_n _ _ (by omega)]; exact f7 22 _ (by omega)
    rw [e22] at e9
    refine k _ _ ⟨by rw [e9]; exact BI.up b8 (rfl : zcd wR 6 = 56) rfl (by omega) (by omega) (by decide), fun j9 k9 h9 => by rw [e9, zup_n _ _ (by omega), e8, zup_n _ _ (by omega)]; exact f7 j9 k9 h9, i + 1, by omega, by omega, fun r hr => ?_, fun r hr => ?_⟩ (by omega)
    · have := hu r (by omega)
      rw [e9, zup_n _ _ (by omega), zup_n _ _ (by omega), e8, zup_n _ _ (by omega), zup_n _ _ (by omega)]
      exact this
    · rw [e9]
      by_cases c5 : r = i
      · subst c5
        rw [zup_s, zup_n _ _ (by omega), e8, zup_s]
        exact ⟨rfl, rfl⟩
      · rw [zup_n _ _ (by omega), zup_n _ _ (by omega), e8, zup_n _ _ (by omega), zup_n _ _ (by omega)]
        exact hd r (by omega)
theorem fR_plan {M : zM} (hB : BI M) {Q : Int → zM → Prop} (hQ : ∀ (z : Int) (M1 : zM), BI M1 ∧ (∀ j9 k9 : Nat, ¬ (j9 = 0 ∧ k9 = 35 ∨ j9 = 0 ∧ k9 = 34 ∨ j9 = 22 ∨ j9 = 28 ∨ j9 = 29) → M1 j9 k9 = M j9 k9) ∧ (∃ pl : Nat → Int, plnP 268435456 (M 0 10).toNat (M 0 16).toNat (lenR M) (tvR M) (csR M) z pl) → Q z M1) : wR_plan M Q := by
  unfold wR_plan
  intro M1 e1
  have hB1 : BI M1 := by rw [e1]; exact BI.up0 hB (rfl : cbt 50 35 = (-2147483648, 2147483647)) (by omega) (by omega) (by decide)
  have F1 : ∀ j9 k9 : Nat, ¬ (j9 = 0 ∧ k9 = 35) → M1 j9 k9 = M j9 k9 := fun j9 k9 h9 => by rw [e1]; exact zup_n _ _ (by omega)
  have el : lenR M1 = lenR M := funext fun k => by unfold lenR; rw [F1 4 k (by omega)]
  have et : tvR M1 = tvR M := funext fun r => funext fun c => funext fun s => tvR_cg (fun p q h1 h2 => F1 p q (by omega))
  have ec : csR M1 = csR M := funext fun k => by unfold csR; rw [F1 6 k (by omega)]
  refine fR_findPlan hB1 (fun z M3 h3 => ?_)
  obtain ⟨b3, f3, p3⟩ := h3
  rw [F1 0 10 (by omega), F1 0 16 (by omega), el, et, ec] at p3
  exact hQ _ _ ⟨b3, fun j9 k9 h9 => (f3 j9 k9 (by omega)).trans (F1 j9 k9 (by omega)), _, p3⟩
/-- the marks, alike -/
def iMk (MC MR : zM) : Prop := MC 60 2 = MR 0 16 ∧ ∀ k : Nat, (k : Int) < MC 60 2 → MC 61 k = MR 12 k ∧ MC 62 k = MR 13 k
theorem tv_det {MC MR : zM} (hC : BN wC MC) (hR : iRi MC MR) (hM : iMo (MC 35) (MC 36) (MC 37) (MC 38) (MC 39) (MC 40) (MR 9) (MR 10) (MR 11)) (hK : iMk MC MR) {r c s : Nat} (hr : (r : Int) < MC 32 2) (hc : c < lenC MC r) : tvC MC r c s = tvR MR r c s := by
  obtain ⟨n, a1, a2, a3, a4, a5, a6, a7, a8, a9, a10, a11⟩ := hR.2.2 r hr
  have r4 : r < 4 := by have := hR.2.1; omega
  obtain ⟨g1, g2, -⟩ := rg_cd r r4
  have bm : 0 ≤ MC (41 + 4 * r) 1 ∧ MC (41 + 4 * r) 1 ≤ 1 := BN.at hC g2 rfl
  have bj : 0 ≤ MC (jmo (MC (41 + 4 * r) 1)) 2 ∧ MC (jmo (MC (41 + 4 * r) 1)) 2 ≤ 12 := BN.at hC (jmo_cd _).2 rfl
  have bc : 0 ≤ MC 60 2 ∧ MC 60 2 ≤ 6 := BN.at hC (rfl : zcd wC 60 = 19) rfl
  have hmo := mo_of hM rfl rfl rfl rfl rfl rfl (m := MC (41 + 4 * r) 1) bm
  unfold lenC at hc
  unfold tvC tvR
  rw [← hK.1, a4, a3, ← a8]
  rw [a5] at hmo bj ⊢
  exact trV_cg (by omega) (fun k hk => a10 k (by omega)) (fun t => wbF_cg bj.1 hmo t _) (fun m hm => hK.2 m (by omega))
theorem pl_alike {MC MR : zM} {z z9 : Int} {pl pl9 : Nat → Int} (hC : BN wC MC) (hR : iRi MC MR) (hM : iMo (MC 35) (MC 36) (MC 37) (MC 38) (MC 39) (MC 40) (MR 9) (MR 10) (MR 11)) (hK : iMk MC MR) (p : plnP 1000000 (MC 32 2).toNat (MC 60 2).toNat (lenC MC) (tvC MC) (csC MC) z pl) (q : plnP 268435456 (MR 0 10).toNat (MR 0 16).toNat (lenR MR) (tvR MR) (csR MR) z9 pl9) : z = z9 ∧ (z ≠ -1 → ∀ k : Nat, k < (MC 32 2).toNat → ∃ c s : Nat, vld (lenC MC k) c s ∧ pl (2 * k) = (c : Int) ∧ pl (2 * k + 1) = (s : Int) ∧ pl9 (2 * k) = (c : Int) ∧ pl9 (2 * k + 1) = (s : Int)) := by
  have bn : 0 ≤ MC 32 2 ∧ MC 32 2 ≤ 4 := BN.at hC (rfl : zcd wC 32 = 8) rfl
  have bc : 0 ≤ MC 60 2 ∧ MC 60 2 ≤ 6 := BN.at hC (rfl : zcd wC 60 = 19) rfl
  have el : ∀ k : Nat, k < (MC 32 2).toNat → lenR MR k = lenC MC k := fun k hk => by
    obtain ⟨n, a1, a2, a3, a4, -⟩ := hR.2.2 k (by omega)
    unfold lenR lenC
    rw [a3, a4]
  have q2 : plnP 268435456 (MC 32 2).toNat (MC 60 2).toNat (lenC MC) (tvR MR) (csR MR) z9 pl9 := by
    rw [← hR.1, ← hK.1] at q
    obtain ⟨V, ⟨v1, v2⟩, v3⟩ := q
    refine ⟨V, ⟨v1, fun k hk w hw => by rw [← el k hk]; exact v2 k hk w hw⟩, ?_⟩
    rcases v3 with v3 | ⟨w1, w2, W, w3, w4⟩
    · exact Or.inl v3
    · exact Or.inr ⟨w1, w2, W, w3, fun k hk => by rw [← el k hk]; exact w4 k hk⟩
  refine pln_det (by omega) (by omega) (fun k hk c s v => tv_det hC hR hM hK (by omega) v.1) (fun k hk c s v => ?_) p q2
  obtain ⟨n, a1, a2, a3, a4, a5, a6, a7, -⟩ := hR.2.2 k (by omega)
  have v1 := v.1
  have v2 := v.2
  unfold lenC at v1 v2
  have cb := cstI_b (st := MR 6 k) (c := c) (s := s) (by omega) (by omega) (by omega)
  unfold csC csR
  rw [a6]
  exact ⟨rfl, cb⟩
theorem ri_make {MC MR M8 M9 : zM} {z z9 : Int} (hC : BN wC MC) (hR : iRi MC MR) (hM : iMo (MC 35) (MC 36) (MC 37) (MC 38) (MC 39) (MC 40) (MR 9) (MR 10) (MR 11)) (hK : iMk MC MR) (f8 : ∀ j9 : Nat, ¬ (63 ≤ j9 ∧ j9 ≤ 77 ∨ 41 ≤ j9 ∧ j9 ≤ 56) → M8 j9 = MC j9) (p : ∃ pl : Nat → Int, plnP 1000000 (MC 32 2).toNat (MC 60 2).toNat (lenC MC) (tvC MC) (csC MC) z pl ∧ (z = -1 → ∀ j9 : Nat, 41 ≤ j9 ∧ j9 ≤ 56 → M8 j9 = MC j9) ∧ (z ≠ -1 → ∀ r : Nat, r < (MC 32 2).toNat → cutd MC M8 r (lenC MC r) (pl (2 * r)).toNat (pl (2 * r + 1)).toNat)) (f9 : ∀ j9 k9 : Nat, ¬ (j9 = 0 ∧ k9 = 35 ∨ j9 = 0 ∧ k9 = 34 ∨ j9 = 4 ∨ j9 = 6 ∨ j9 = 22 ∨ j9 = 28 ∨ j9 = 29) → M9 j9 k9 = MR j9 k9) (q : ∃ pl : Nat → Int, plnP 268435456 (MR 0 10).toNat (MR 0 16).toNat (lenR MR) (tvR MR) (csR MR) z9 pl ∧ (z9 = -1 → M9 4 = MR 4 ∧ M9 6 = MR 6) ∧ (z9 ≠ -1 → ∀ r : Nat, r < (MR 0 10).toNat → M9 4 r = MR 4 r - pl (2 * r) ∧ M9 6 r = pl (2 * r + 1))) : z = z9 ∧ iRi M8 M9 := by
  obtain ⟨pl, p1, p2, p3⟩ := p
  obtain ⟨pl9, q1, q2, q3⟩ := q
  obtain ⟨e, al⟩ := pl_alike hC hR hM hK p1 q1
  refine ⟨e, ?_⟩
  by_cases hz : z = -1
  · obtain ⟨q4, q6⟩ := q2 (by omega)
    exact iRi_kept hR (p2 hz) (congrFun (f8 32 (by omega)) 2) (f9 0 10 (by omega)) (funext fun k => f9 3 k (by omega)) q4 (funext fun k => f9 5 k (by omega)) q6 (funext fun k => f9 7 k (by omega)) (funext fun k => f9 8 k (by omega))
  · obtain ⟨h1, h2, h3⟩ := hR
    have e32 : M8 32 2 = MC 32 2 := congrFun (f8 32 (by omega)) 2
    refine ⟨by rw [e32, f9 0 10 (by omega)]; exact h1, by rw [e32]; exact h2, fun r hr => ?_⟩
    rw [e32] at hr
    obtain ⟨n, a1, a2, a3, a4, a5, a6, a7, a8, a9, a10, a11⟩ := h3 r hr
    obtain ⟨c, s, v, x1, x2, y1, y2⟩ := al hz r (by omega)
    have d := p3 hz r (by omega)
    have g := q3 (by omega) r (by omega)
    have t1 : (pl (2 * r)).toNat = c := by omega
    have t2 : (pl (2 * r + 1)).toNat = s := by omega
    have en : lenC MC r = n := by unfold lenC; omega
    rw [t1, t2, en] at d
    rw [en] at v
    obtain ⟨v1, v2⟩ := v
    obtain ⟨d1, d2, d3, d4, d5, d6, d7⟩ := d
    refine ⟨n - c, by omega, by omega, d5, by omega, by rw [d1, f9 5 r (by omega)]; exact a5, by omega, by omega, by rw [d3, f9 7 r (by omega)]; exact a8, by rw [d4, f9 8 r (by omega)]; exact a9, fun k hk => by rw [d6, f9 3 _ (by omega)]; exact a10 k (by omega), fun a ha => by rw [d3, d6]; exact d7 a ha⟩
end zz47z5_plans
section zz47z6_marks
/-! marks and those that are true -/
def cMk (cnt a0 a1 : Int) : Prop := (0 ≤ a0 ∧ a0 ≤ 100000) ∧ (1 ≤ a1 ∧ a1 ≤ 9) ∧ cnt < 6
theorem fC_mark {M : zM} {a0 a1 : Int} (hB : BN wC M) (v0 : -2147483648 ≤ a0 ∧ a0 ≤ 2147483647) (v1 : -2147483648 ≤ a1 ∧ a1 ≤ 2147483647) {Q : Int → zM → Prop} (hQ : ∀ (z : Int) (M1 : zM), BN wC M1 ∧ (∀ j9 : Nat, ¬ (60 ≤ j9 ∧ j9 ≤ 77) → M1 j9 = M j9) ∧ ((cMk (M 60 2) a0 a1 ∧ z = M 60 2 + 1 ∧ M1 60 2 = M 60 2 + 1 ∧ (∀ k : Nat, M1 61 k = if (k : Int) = M 60 2 then a0 else M 61 k) ∧ (∀ k : Nat, M1 62 k = if (k : Int) = M 60 2 then a1 else M 62 k)) ∨ (¬ cMk (M 60 2) a0 a1 ∧ z = -1 ∧ M1 = M)) → Q z M1) : wC_mark a0 a1 M Q := by
  unfold wC_mark
  have bc : 0 ≤ M 60 2 ∧ M 60 2 ≤ 6 := BN.at hB (rfl : zcd wC 60 = 19) rfl
  have no : ¬ cMk (M 60 2) a0 a1 → Q (-1) M := fun h => hQ _ _ ⟨hB, fun _ _ => rfl, Or.inr ⟨h, rfl, rfl⟩⟩
  refine sC_within hB v0 (by omega) (by omega) (fun z2 h2 => ?_)
  obtain ⟨-, h2, -⟩ := h2
  refine ⟨fun c => no (fun x => by have := x.1; omega), fun c => ?_⟩
  refine sC_isSound hB v1 (fun z7 h7 => ?_)
  obtain ⟨-, h7, -⟩ := h7
  refine ⟨fun d => ?_, fun d => no (fun x => by have := x.2.1; omega)⟩
  have g0 : 0 ≤ a0 ∧ a0 ≤ 100000 := by omega
  have g1 : 1 ≤ a1 ∧ a1 ≤ 9 := by omega
  clear h2 h7 c d
  unfold wC_Planner_add
  obtain ⟨m, hm⟩ : ∃ m : Nat, M 60 2 = (m : Int) := ⟨(M 60 2).toNat, by omega⟩
  have sm : sI (M 60 2) = (m : Int) := by rw [hm]; exact sIo (by omega) (by omega)
  have tm : ((m : Int)).toNat = m := by omega
  rw [sm, tm]
  refine ⟨fun c => ⟨by omega, fun M3 e3 => ?_⟩, fun c => no (fun x => by have := x.2.2; omega)⟩
  have r3 : M3 60 2 = (m : Int) := by rw [e3, zup_n _ _ (by omega)]; exact hm
  have s3 : sI (M3 60 2) = (m : Int) := by rw [r3]; exact sIo (by omega) (by omega)
  rw [s3, tm]
  refine ⟨by omega, fun M6 e6 M8 e8 => ?_⟩
  have r6 : M6 60 2 = (m : Int) := by rw [e6, zup_n _ _ (by omega)]; exact r3
  rw [r6] at e8
  have r8 : M8 60 2 = (m : Int) + 1 := by rw [e8, zup_s]
  rw [r8, sIo (z := (m : Int) + 1) (by omega) (by omega)]
  refine hQ _ _ ⟨?_, fun j9 h9 => ?_, Or.inl ⟨⟨g0, g1, by omega⟩, by omega, by omega, fun k => ?_, fun k => ?_⟩⟩
  · rw [e8, e6, e3]
    exact BN.up (BN.up (BN.up hB (rfl : zcd wC 61 = 20) rfl (by omega) (by omega)) (rfl : zcd wC 62 = 21) rfl (by omega) (by omega)) (rfl : zcd wC 60 = 19) rfl (by omega) (by omega)
  · rw [e8, zup_row _ _ (by omega), e6, zup_row _ _ (by omega), e3, zup_row _ _ (by omega)]
  · rw [e8, zup_n _ _ (by omega), e6, zup_n _ _ (by omega), e3]
    by_cases c5 : k = m
    · rw [c5, zup_s, if_pos (by omega)]
    · rw [zup_n _ _ (by omega), if_neg (by omega)]
  · rw [e8, zup_n _ _ (by omega), e6]
    by_cases c5 : k = m
    · rw [c5, zup_s, if_pos (by omega)]
    · rw [zup_n _ _ (by omega), if_neg (by omega), e3, zup_n _ _ (by omega)]
theorem fR_mark {M : zM} {a0 a1 : Int} (hB : BI M) (v0 : -2147483648 ≤ a0 ∧ a0 ≤ 2147483647) (v1 : -2147483648 ≤ a1 ∧ a1 ≤ 2147483647) {Q : Int → zM → Prop} (hQ : ∀ (z : Int) (M1 : zM), BI M1 ∧ (∀ j9 k9 : Nat, ¬ (j9 = 0 ∧ k9 = 35 ∨ j9 = 0 ∧ k9 = 16 ∨ j9 = 12 ∨ j9 = 13) → M1 j9 k9 = M j9 k9) ∧ ((cMk (M 0 16) a0 a1 ∧ z = M 0 16 + 1 ∧ M1 0 16 = M 0 16 + 1 ∧ (∀ k : Nat, M1 12 k = if (k : Int) = M 0 16 then a0 else M 12 k) ∧ (∀ k : Nat, M1 13 k = if (k : Int) = M 0 16 then a1 else M 13 k)) ∨ (¬ cMk (M 0 16) a0 a1 ∧ z = -1 ∧ M1 0 16 = M 0 16 ∧ M1 12 = M 12 ∧ M1 13 = M 13)) → Q z M1) : wR_mark a0 a1 M Q := by
  unfold wR_mark
  intro M1 e1
  have hB1 : BI M1 := by rw [e1]; exact BI.up0 hB (rfl : cbt 50 35 = (-2147483648, 2147483647)) (by omega) (by omega) (by decide)
  have F1 : ∀ j9 k9 : Nat, ¬ (j9 = 0 ∧ k9 = 35) → M1 j9 k9 = M j9 k9 := fun j9 k9 h9 => by rw [e1]; exact zup_n _ _ (by omega)
  have r16 : M1 0 16 = M 0 16 := F1 0 16 (by omega)
  have bc : 0 ≤ M 0 16 ∧ M 0 16 ≤ 6 := BN.at hB.1 (rfl : zcd wR 0 = 50) rfl
  have no : ¬ cMk (M 0 16) a0 a1 → Q (-1) M1 := fun h => hQ _ _ ⟨hB1, fun j9 k9 h9 => F1 j9 k9 (by omega), Or.inr ⟨h, rfl, r16, funext fun k => F1 12 k (by omega), funext fun k => F1 13 k (by omega)⟩⟩
  refine sR_in hB1 v0 (by omega) (by omega) (fun z2 h2 => ?_)
  obtain ⟨-, h2, -⟩ := h2
  refine ⟨fun c => no (fun x => by have := x.1; omega), fun c => ?_⟩
  refine sR_in hB1 v1 (by omega) (by omega) (fun z7 h7 => ?_)
  obtain ⟨-, h7, -⟩ := h7
  refine ⟨fun d => no (fun x => by have := x.2.1; omega), fun d => ?_⟩
  have g0 : 0 ≤ a0 ∧ a0 ≤ 100000 := by omega
  have g1 : 1 ≤ a1 ∧ a1 ≤ 9 := by omega
  clear h2 h7 c d
  obtain ⟨m, hm⟩ : ∃ m : Nat, M 0 16 = (m : Int) := ⟨(M 0 16).toNat, by omega⟩
  have sm : sI (M 0 16) = (m : Int) := by rw [hm]; exact sIo (by omega) (by omega)
  have tm : ((m : Int)).toNat = m := by omega
  rw [r16, sm, tm]
  refine ⟨fun c => ⟨by omega, fun M3 e3 => ?_⟩, fun c => no (fun x => by have := x.2.2; omega)⟩
  have r3 : M3 0 16 = (m : Int) := by rw [e3, zup_n _ _ (by omega)]; omega
  have s3 : sI (M3 0 16) = (m : Int) := by rw [r3]; exact sIo (by omega) (by omega)
  rw [s3, tm]
  refine ⟨by omega, fun M6 e6 M8 e8 => ?_⟩
  have r6 : M6 0 16 = (m : Int) := by rw [e6, zup_n _ _ (by omega)]; exact r3
  rw [r6] at e8
  have r8 : M8 0 16 = (m : Int) + 1 := by rw [e8, zup_s]
  rw [r8, sIo (z := (m : Int) + 1) (by omega) (by omega)]
  refine hQ _ _ ⟨?_, fun j9 k9 h9 => ?_, Or.inl ⟨⟨g0, g1, by omega⟩, by omega, by omega, fun k => ?_, fun k => ?_⟩⟩
  · rw [e8, e6, e3]
    exact BI.up0 (BI.up (BI.up hB1 (rfl : zcd wR 12 = 62) rfl (by omega) (by omega) (by decide)) (rfl : zcd wR 13 = 63) rfl (by omega) (by omega) (by decide)) (rfl : cbt 50 16 = (0, 6)) (by omega) (by omega) (by decide)
  · rw [e8, zup_n _ _ (by omega), e6, zup_n _ _ (by omega), e3, zup_n _ _ (by omega)]
    exact F1 j9 k9 (by omega)
  · rw [e8, zup_n _ _ (by omega), e6, zup_n _ _ (by omega), e3]
    by_cases c5 : k = m
    · rw [c5, zup_s, if_pos (by omega)]
    · rw [zup_n _ _ (by omega), if_neg (by omega)]
      exact F1 12 k (by omega)
  · rw [e8, zup_n _ _ (by omega), e6]
    by_cases c5 : k = m
    · rw [c5, zup_s, if_pos (by omega)]
    · rw [zup_n _ _ (by omega), if_neg (by omega), e3, zup_n _ _ (by omega)]
      exact F1 13 k (by omega)
theorem iMk_kept {MC MR M8 M9 : zM} (h : iMk MC MR) (hC : ∀ j : Nat, 61 ≤ j ∧ j ≤ 62 → M8 j = MC j) (h0 : M8 60 2 = MC 60 2) (h16 : M9 0 16 = MR 0 16) (h12 : M9 12 = MR 12) (h13 : M9 13 = MR 13) : iMk M8 M9 := by
  unfold iMk
  rw [h0, h16, hC 61 (by omega), hC 62 (by omega), h12, h13]
  exact h
theorem mk_mark {MC MR M8 M9 : zM} {a0 a1 z z9 : Int} (h : iMk MC MR) (p : (cMk (MC 60 2) a0 a1 ∧ z = MC 60 2 + 1 ∧ M8 60 2 = MC 60 2 + 1 ∧ (∀ k : Nat, M8 61 k = if (k : Int) = MC 60 2 then a0 else MC 61 k) ∧ (∀ k : Nat, M8 62 k = if (k : Int) = MC 60 2 then a1 else MC 62 k)) ∨ (¬ cMk (MC 60 2) a0 a1 ∧ z = -1 ∧ M8 = MC)) (q : (cMk (MR 0 16) a0 a1 ∧ z9 = MR 0 16 + 1 ∧ M9 0 16 = MR 0 16 + 1 ∧ (∀ k : Nat, M9 12 k = if (k : Int) = MR 0 16 then a0 else MR 12 k) ∧ (∀ k : Nat, M9 13 k = if (k : Int) = MR 0 16 then a1 else MR 13 k)) ∨ (¬ cMk (MR 0 16) a0 a1 ∧ z9 = -1 ∧ M9 0 16 = MR 0 16 ∧ M9 12 = MR 12 ∧ M9 13 = MR 13)) : z = z9 ∧ iMk M8 M9 := by
  obtain ⟨h1, h2⟩ := h
  rw [← h1] at q
  rcases p with ⟨c, p1, p2, p3, p4⟩ | ⟨c, p1, p2⟩
  · rcases q with ⟨-, q1, q2, q3, q4⟩ | ⟨c2, -⟩
    · refine ⟨by omega, by omega, fun k hk => ?_⟩
      rw [p3, p4, q3, q4]
      by_cases c5 : (k : Int) = MC 60 2
      · rw [if_pos c5, if_pos c5, if_pos c5, if_pos c5]
        exact ⟨rfl, rfl⟩
      · rw [if_neg c5, if_neg c5, if_neg c5, if_neg c5]
        exact h2 k (by omega)
    · exact absurd c c2
  · rcases q with ⟨c2, -⟩ | ⟨-, q1, q2, q3, q4⟩
    · exact absurd c2 c
    · rw [p2]
      exact ⟨by omega, by unfold iMk; rw [q2, q3, q4]; exact ⟨rfl, h2⟩⟩
end zz47z6_marks
