/-! plans: the class finds the least plan -/
def lenC (M : zM) (k : Nat) : Nat := (M (41 + 4 * k + 1) 1).toNat
def csC (M : zM) (k : Nat) : Nat → Nat → Int := cstI (M (41 + 4 * k) 2)
theorem jmo_cd (m : Int) : jmo m < nC ∧ zcd wC (jmo m) = 11 := by
  unfold jmo
  by_cases c : m = 0
  · rw [if_pos c]
    decide
  · rw [if_neg c]
    decide
theorem fC_motorOf {M : zM} {a0 : Int} (v : 0 ≤ a0 ∧ a0 ≤ 1) {Q : Option Nat → Prop} (hQ : Q (some (jmo a0))) : wC_Studio_motorOf a0 M Q := by
  unfold wC_Studio_motorOf
  unfold jmo at hQ
  rw [sIo (by omega) (by omega)]
  refine ⟨fun c => ?_, fun c => ?_⟩
  · rw [if_neg c] at hQ
    exact hQ
  · rw [if_pos c] at hQ
    exact hQ
set_option maxHeartbeats 4000000 in
theorem fC_Planner_find {M : zM} (hB : BN wC M) (hlen : ∀ r : Nat, (r : Int) < M 32 2 → 1 ≤ M (41 + 4 * r + 1) 1) {Q : Int → zM → Prop} (hQ : ∀ (z : Int) (M1 : zM), BN wC M1 ∧ (∀ p : Nat, ¬ (p = 63 ∨ 65 ≤ p ∧ p ≤ 77) → M1 p = M p) ∧ plnP 1000000 (M 32 2).toNat (M 60 2).toNat (lenC M) (tvC M) (csC M) z (M1 63) → Q z M1) : wC_Planner_find M Q := by
  unfold wC_Planner_find
  have bn : 0 ≤ M 32 2 ∧ M 32 2 ≤ 4 := BN.at hB (rfl : zcd wC 32 = 8) rfl
  have bc : 0 ≤ M 60 2 ∧ M 60 2 ≤ 6 := BN.at hB (rfl : zcd wC 60 = 19) rfl
  obtain ⟨R, hR⟩ : ∃ R : Nat, M 32 2 = (R : Int) := ⟨(M 32 2).toNat, by omega⟩
  obtain ⟨m, hm⟩ : ∃ m : Nat, M 60 2 = (m : Int) := ⟨(M 60 2).toNat, by omega⟩
  have sR : sI (R : Int) = R := sIo (by omega) (by omega)
  have tR : ((R : Int)).toNat = R := by omega
  have tm : ((m : Int)).toNat = m := by omega
  have pw := pow_b m (by omega)
  rw [hR, hm, tR, tm] at hQ
  rw [hR, sR, tR, Nat.one_mul]
  refine ⟨by omega, ?_⟩
  obtain ⟨z1, z2⟩ := co_cd R (by omega)
  refine fC_fill (N := 64) hB z2 (by omega) z1 (fun _ => rfl) (by omega) (fun M4 h4 => ?_)
  obtain ⟨b4, f4, v4⟩ := h4
  refine ⟨by omega, fun M8 e8 => ?_⟩
  have tvb : ∀ k c s : Nat, 0 ≤ tvC M k c s ∧ tvC M k c s < ((2 ^ m : Nat) : Int) := fun k c s => by
    unfold tvC trV
    rw [hm, tm]
    exact ⟨(trB_b m (by omega)).1, trB_lt m (by omega)⟩
  refine wL1_of (fun x M2 => BN wC M2 ∧ (∀ p : Nat, ¬ (65 ≤ p ∧ p ≤ 77) → M2 p = M p) ∧ ∃ i : Nat, x = (i : Int) - 1 ∧ i ≤ R ∧ (∀ w : Nat, w < 2 ^ m → M2 (70 + R) w = if w = 0 then 0 else 1000000) ∧ (∀ k : Nat, i ≤ k → k < R → (∀ c s : Nat, vld (lenC M k) c s → M2 (65 + k) (off (lenC M k) c + s) = tvC M k c s) ∧ ∀ w : Nat, w < 2 ^ m → plP (lenC M k) (tvC M k) (csC M k) (fun u => M2 (70 + (k + 1)) u.toNat) 1000000 (w : Int) (M2 (70 + k) w))) (fun x _ => (x + 1).toNat) ⟨by rw [e8]; exact BN.up b4 z1 rfl (by omega) (by omega), fun p hp => by rw [e8, zup_row _ _ (by omega)]; exact f4 p (by omega), R, rfl, by omega, fun w hw => ?_, fun k h1 h2 => absurd h1 (by omega)⟩ (fun K x M2 h k => ?_)
  · rw [e8]
    by_cases c0 : w = 0
    · rw [c0, zup_s, if_pos rfl]
    · rw [zup_n _ _ (by omega), if_neg c0]
      exact v4 w (by omega)
  obtain ⟨b2, f2, i, rfl, hi, hv0, hv⟩ := h
  have n2 : M2 32 2 = (R : Int) := by rw [f2 32 (by omega)]; exact hR
  have m2 : M2 60 2 = (m : Int) := by rw [f2 60 (by omega)]; exact hm
  have sx : sI ((i : Int) - 1) = (i : Int) - 1 := sIo (by omega) (by omega)
  rw [sx, m2, sh_pow m (by omega)]
  refine ⟨fun d => ?_, fun d => ?_⟩
  · have i0 : i = 0 := by omega
    subst i0
    have sw : sI (((2 ^ m : Nat) : Int) - 1) = (((2 ^ m - 1 : Nat)) : Int) := by rw [sIo (by omega) (by omega)]; omega
    have ew : ((2 ^ m : Nat) : Int) - 1 = (((2 ^ m - 1 : Nat)) : Int) := by omega
    have tw : ((((2 ^ m - 1 : Nat)) : Int)).toNat = 2 ^ m - 1 := by omega
    rw [sw, tw, ew]
    refine ⟨by omega, fun t e => ?_⟩
    have bt : 0 ≤ M2 70 (2 ^ m - 1) ∧ M2 70 (2 ^ m - 1) ≤ 1000000 := BN.at b2 (rfl : zcd wC 70 = 26) rfl
    have st : sI t = t := sIo (by omega) (by omega)
    rw [st]
    have PB : plB 1000000 R m (lenC M) (tvC M) (csC M) (fun k u => M2 (70 + k) u.toNat) := by
      refine ⟨fun w hw => ?_, fun k hk w hw => ?_⟩
      · show M2 (70 + R) ((w : Int)).toNat = _
        rw [show ((w : Int)).toNat = w by omega]
        exact hv0 w hw
      · show plP (lenC M k) (tvC M k) (csC M k) (fun u => M2 (70 + (k + 1)) u.toNat) 1000000 (w : Int) (M2 (70 + k) ((w : Int)).toNat)
        rw [show ((w : Int)).toNat = w by omega]
        exact (hv k (by omega) hk).2 w hw
    refine ⟨fun d2 => ?_, fun d2 => hQ _ _ ⟨b2, fun p hp => f2 p (by omega), (fun k u => M2 (70 + k) u.toNat), PB, Or.inl ⟨rfl, by show M2 (70 + 0) ((((2 ^ m - 1 : Nat)) : Int)).toNat = 1000000; rw [tw]; show M2 70 (2 ^ m - 1) = 1000000; omega⟩⟩⟩
    refine wL2_of (fun x y M3 => BN wC M3 ∧ (∀ p : Nat, p ≠ 63 → M3 p = M2 p) ∧ ∃ k : Nat, y = (k : Int) ∧ k ≤ R ∧ ∃ W : Nat → Int, x = W k ∧ W 0 = (((2 ^ m - 1 : Nat)) : Int) ∧ 0 ≤ W k ∧ W k < ((2 ^ m : Nat) : Int) ∧ M2 (70 + k) (W k).toNat < 1000000 ∧ chn k (lenC M) (tvC M) (csC M) (fun k u => M2 (70 + k) u.toNat) W (M3 63)) (fun _ y _ => (1000 - y).toNat) ⟨b2, fun _ _ => rfl, 0, rfl, by omega, fun _ => (((2 ^ m - 1 : Nat)) : Int), rfl, rfl, by show (0 : Int) ≤ (((2 ^ m - 1 : Nat)) : Int); omega, by show (((2 ^ m - 1 : Nat)) : Int) < ((2 ^ m : Nat) : Int); omega, by show M2 70 ((((2 ^ m - 1 : Nat)) : Int)).toNat < 1000000; rw [tw]; omega, fun k h => absurd h (Nat.not_lt_zero k)⟩ (fun K2 x y M3 h3 k2 => ?_)
    obtain ⟨b3, f3, j, rfl, hj, W, rfl, w0, w1, w2, w3, wc⟩ := h3
    have sj : sI (j : Int) = j := sIo (by omega) (by omega)
    rw [sj]
    refine ⟨fun d3 => hQ _ _ ⟨b3, fun p hp => by rw [f3 p (by omega)]; exact f2 p (by omega), (fun k u => M2 (70 + k) u.toNat), PB, Or.inr ⟨?_, ?_, W, w0, ?_⟩⟩, fun d3 => ?_⟩
    · show t = M2 (70 + 0) ((((2 ^ m - 1 : Nat)) : Int)).toNat
      rw [tw]
      exact e
    · show M2 (70 + 0) ((((2 ^ m - 1 : Nat)) : Int)).toNat < 1000000
      rw [tw]
      show M2 70 (2 ^ m - 1) < 1000000
      omega
    · rw [show R = j by omega]
      exact wc
    · have n3 : M3 32 2 = (R : Int) := by rw [f3 32 (by omega)]; exact n2
      refine fC_find b3 (by omega) (fun h => absurd ⟨by omega, by rw [n3]; exact d3⟩ h) (fun r hr h1 h2 => ⟨(fun h => nomatch h), fun q hq => ?_⟩)
      obtain rfl := Option.some.inj hq
      obtain rfl : j = r := by omega
      obtain ⟨g1, g2, g3, g4, g5, g6⟩ := rg_cd j h2
      refine ⟨⟨g1, g2⟩, ?_⟩
      have bl : 0 ≤ M (41 + 4 * j + 1) 1 ∧ M (41 + 4 * j + 1) 1 ≤ 24 := BN.at hB g3 rfl
      have ln : M3 (41 + 4 * j + 1) 1 = ((lenC M j : Nat) : Int) := by
        rw [f3 _ (by omega), f2 _ (by omega)]
        unfold lenC
        omega
      have eW : W j = (((W j).toNat : Nat) : Int) := by omega
      obtain ⟨hv1, hv2⟩ := hv j (by omega) (by omega)
      have st3 : M3 (41 + 4 * j) 2 = M (41 + 4 * j) 2 := by rw [f3 _ (by omega), f2 _ (by omega)]
      have e70 : ∀ q : Nat, 65 ≤ q → M3 q = M2 q := fun q hq => f3 q (by omega)
      rw [eW]
      refine fC_choose (tv := tvC M j) b3 h2 ln (fun c s v => by rw [e70 _ (by omega)]; exact hv1 c s v) (by omega) ?_ (fun z M5 h5 => ?_)
      · obtain ⟨p0, p1, p2, p3⟩ := hv2 (W j).toNat (by omega)
        rcases p3 with p3 | ⟨c, s, v, p3⟩
        · omega
        · refine ⟨c, s, v, ?_⟩
          rw [e70 (70 + j) (by omega), e70 (70 + (j + 1)) (by omega), st3]
          exact p3
      · obtain ⟨c, s, hf, rfl, e5⟩ := h5
        rw [st3, e70 (70 + j) (by omega), e70 (70 + (j + 1)) (by omega), ← eW] at hf
        have ab := an_b (w := W j) (t := tvC M j c s) (by omega)
        have hf2 : csC M j c s + M2 (70 + (j + 1)) (an (W j) (tvC M j c s)).toNat = M2 (70 + j) (W j).toNat := hf.2.1
        have vv := hf.1
        have v1 := vv.1
        have v2 := vv.2
        have bst : 0 ≤ M (41 + 4 * j) 2 ∧ M (41 + 4 * j) 2 ≤ 23 := BN.at hB g2 rfl
        have l24 : lenC M j ≤ 24 := by unfold lenC; omega
        have cb : 0 ≤ csC M j c s ∧ csC M j c s ≤ 200 := cstI_b (c := c) (s := s) bst (by omega) (by omega)
        refine k2 _ _ _ ⟨by rw [e5]; exact BN.up (BN.up b3 (rfl : zcd wC 63 = 22) rfl (by omega) (by omega)) (rfl : zcd wC 63 = 22) rfl (by omega) (by omega), fun p hp => by rw [e5, zup_row _ _ hp, zup_row _ _ hp]; exact f3 p hp, j + 1, by omega, by omega, fun q => if q = j + 1 then an (W j) (tvC M j c s) else W q, ?_, ?_, ?_, ?_, ?_, fun k hk => ?_⟩ (by omega)
        · dsimp only
          rw [if_pos rfl, ← eW]
        · dsimp only
          rw [if_neg (by omega)]
          exact w0
        · dsimp only
          rw [if_pos rfl]
          exact ab.1
        · dsimp only
          rw [if_pos rfl]
          omega
        · dsimp only
          rw [if_pos rfl]
          omega
        · dsimp only
          rw [if_neg (show ¬ k = j + 1 by omega)]
          by_cases c6 : k = j
          · subst c6
            rw [if_pos rfl]
            exact ⟨c, s, by rw [e5, zup_n _ _ (by omega), zup_s], by rw [e5, zup_s], hf, rfl⟩
          · rw [if_neg (show ¬ k + 1 = j + 1 by omega)]
            obtain ⟨c7, s7, x1, x2, x3⟩ := wc k (by omega)
            exact ⟨c7, s7, by rw [e5, zup_n _ _ (by omega), zup_n _ _ (by omega)]; exact x1, by rw [e5, zup_n _ _ (by omega), zup_n _ _ (by omega)]; exact x2, x3⟩
  · obtain ⟨j, rfl⟩ : ∃ j : Nat, i = j + 1 := ⟨i - 1, by omega⟩
    have ej : ((j + 1 : Nat) : Int) - 1 = (j : Int) := by omega
    have ej1 : (j : Int) + 1 = ((j + 1 : Nat) : Int) := by omega
    have sj : sI (j : Int) = j := sIo (by omega) (by omega)
    have sj1 : sI ((j + 1 : Nat) : Int) = ((j + 1 : Nat) : Int) := sIo (by omega) (by omega)
    have tj : ((j : Int)).toNat = j := by omega
    have tj1 : (((j + 1 : Nat) : Int)).toNat = j + 1 := by omega
    rw [ej]
    refine fC_find b2 (by omega) (fun h => absurd ⟨by omega, by rw [n2]; omega⟩ h) (fun r hr h1 h2 => ⟨(fun h => nomatch h), fun q hq => ?_⟩)
    obtain rfl := Option.some.inj hq
    obtain rfl : j = r := by omega
    obtain ⟨g1, g2, g3, g4, g5, g6⟩ := rg_cd j h2
    refine ⟨⟨g1, g2⟩, ?_⟩
    have bl : 0 ≤ M (41 + 4 * j + 1) 1 ∧ M (41 + 4 * j + 1) 1 ≤ 24 := BN.at hB g3 rfl
    have l1 := hlen j (by omega)
    have bmo : 0 ≤ M (41 + 4 * j) 1 ∧ M (41 + 4 * j) 1 ≤ 1 := BN.at hB g2 rfl
    have ln : M2 (41 + 4 * j + 1) 1 = ((lenC M j : Nat) : Int) := by
      rw [f2 _ (by omega)]
      unfold lenC
      omega
    have ln1 : 1 ≤ lenC M j := by unfold lenC; omega
    have mo2 : M2 (41 + 4 * j) 1 = M (41 + 4 * j) 1 := by rw [f2 _ (by omega)]
    have st2 : M2 (41 + 4 * j) 2 = M (41 + 4 * j) 2 := by rw [f2 _ (by omega)]
    have sjj : sI ((j : Int) + 1) = ((j + 1 : Nat) : Int) := by rw [sIo (by omega) (by omega)]; omega
    have f12 : ∀ q : Nat, 35 ≤ q ∧ q ≤ 62 → M2 q = M q := fun q hq => f2 q (by omega)
    refine fC_motorOf (by rw [mo2]; exact bmo) ?_
    rw [sjj, tj, tj1, Nat.one_mul, Nat.one_mul]
    refine ⟨jmo (M2 (41 + 4 * j) 1), rfl, jmo_cd _, by omega, ?_⟩
    refine fC_listTrue b2 h2 rfl ln ln1 (fun M5 h5 => ?_)
    obtain ⟨b5, f5, v5⟩ := h5
    refine ⟨by omega, ?_⟩
    have v5' : ∀ c s : Nat, vld (lenC M j) c s → M5 (65 + j) (off (lenC M j) c + s) = tvC M j c s := fun c s v => by
      rw [v5 c s v.1 v.2]
      exact tvC_cg f12 h2
    have st5 : M5 (41 + 4 * j) 2 = M (41 + 4 * j) 2 := by rw [f5 _ (by omega)]; exact st2
    refine fC_listCheapest (tv := tvC M j) b5 h2 (by rw [f5 _ (by omega)]; exact ln) v5' (fun c s => by have := tvb j c s; omega) (fun M6 h6 => ?_)
    obtain ⟨b6, f6, v6⟩ := h6
    rw [st5] at v6
    refine ⟨by omega, by omega, ?_⟩
    refine fC_addCosts (m := m) (n := lenC M j) (tv := tvC M j) (cs := csC M j) b6 h2 (by rw [f6 _ (by omega), f5 _ (by omega)]; exact m2) v6 (fun c s => tvb j c s) (fun M7 h7 => ?_)
    obtain ⟨b7, f7, v7⟩ := h7
    have e65 : ∀ q : Nat, q ≠ 70 + j ∧ q ≠ 75 ∧ q ≠ 65 + j ∧ q ≠ 76 ∧ q ≠ 77 → M7 q = M2 q := fun q hq => by rw [f7 _ (by omega), f6 _ (by omega), f5 _ (by omega)]
    refine k _ _ ⟨b7, fun p hp => by rw [e65 _ (by omega)]; exact f2 p hp, j, by omega, by omega, fun w hw => by rw [e65 _ (by omega)]; exact hv0 w hw, fun q h3 h4 => ?_⟩ (by omega)
    by_cases c6 : q = j
    · subst c6
      refine ⟨fun c s v => ?_, fun w hw => ?_⟩
      · rw [f7 _ (by omega), f6 _ (by omega)]
        exact v5' c s v
      · have := v7 w hw
        rw [f7 (70 + (q + 1)) (by omega)]
        exact this
    · obtain ⟨x1, x2⟩ := hv q (by omega) h4
      refine ⟨fun c s v => ?_, fun w hw => ?_⟩
      · rw [e65 _ (by omega)]
        exact x1 c s v
      · rw [e65 (70 + (q + 1)) (by omega), e65 (70 + q) (by omega)]
        exact x2 w hw
