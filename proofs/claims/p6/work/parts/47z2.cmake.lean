/-! plans: the class's plan and make -/
theorem fC_plan {M : zM} (hB : BN wC M) (hlen : ∀ r : Nat, (r : Int) < M 32 2 → 1 ≤ M (41 + 4 * r + 1) 1) {Q : Int → zM → Prop} (hQ : ∀ z M1, (BN wC M1 ∧ (∀ j9 : Nat, ¬ (63 ≤ j9 ∧ j9 ≤ 77 ∨ j9 = 0 ∨ j9 = 133) → M1 j9 = M j9) ∧ ∃ pl : Nat → Int, plnP 1000000 (M 32 2).toNat (M 60 2).toNat (lenC M) (tvC M) (csC M) z pl) → Q z M1) : wC_plan M Q := by
  unfold wC_plan
  refine fC_Planner_find hB hlen (fun z M1 hp => ?_)
  obtain ⟨hB1, hF1, p1⟩ := hp
  refine ⟨fun c => hQ _ _ ⟨hB1, fun j9 h9 => hF1 j9 (by omega), _, p1⟩, fun c => ?_⟩
  have b1 : 0 ≤ M1 32 2 ∧ M1 32 2 ≤ 4 := BN.at hB1 (rfl : zcd wC 32 = 8) rfl
  refine sC_tell hB1 (by decide) (rfl : zcd wC 63 = 22) (by omega) (by decide) (fun M5 hp => ?_)
  obtain ⟨hB5, hF5, -⟩ := hp
  exact hQ _ _ ⟨hB5, fun j9 h9 => (hF5 j9 (by omega)).trans (hF1 j9 (by omega)), _, p1⟩
/-- ring r of M1 is that of M, cut by c and begun at s -/
def cutd (M M1 : zM) (r n c s : Nat) : Prop := M1 (41 + 4 * r) 1 = M (41 + 4 * r) 1 ∧ M1 (41 + 4 * r) 2 = (s : Int) ∧ M1 (41 + 4 * r) 3 = M (41 + 4 * r) 3 ∧ M1 (41 + 4 * r) 4 = M (41 + 4 * r) 4 ∧ M1 (41 + 4 * r + 1) 1 = ((n - c : Nat) : Int) ∧ M1 (41 + 4 * r + 2) = M (41 + 4 * r + 2) ∧ ∀ a : Nat, a < n - c → M1 (41 + 4 * r + 3) a = orU (M (41 + 4 * r) 3) (M (41 + 4 * r + 2)) (n - c) a 24
set_option maxHeartbeats 4000000 in
theorem fC_carryOut {M : zM} {R : Nat} {cc ss : Nat → Nat} (hB : BN wC M) (hR : M 32 2 = (R : Int)) (hc : ∀ r : Nat, r < R → M 63 (2 * r) = (cc r : Int) ∧ M 63 (2 * r + 1) = (ss r : Int) ∧ vld (lenC M r) (cc r) (ss r)) {Q : zM → Prop} (hQ : ∀ M1 : zM, BN wC M1 ∧ (∀ j9 : Nat, ¬ (41 ≤ j9 ∧ j9 ≤ 56) → M1 j9 = M j9) ∧ (∀ r : Nat, r < R → cutd M M1 r (lenC M r) (cc r) (ss r)) → Q M1) : wC_Planner_carryOut M Q := by
  unfold wC_Planner_carryOut
  have bn : 0 ≤ M 32 2 ∧ M 32 2 ≤ 4 := BN.at hB (rfl : zcd wC 32 = 8) rfl
  refine wL1_of (fun x M2 => BN wC M2 ∧ (∀ j9 : Nat, ¬ (41 ≤ j9 ∧ j9 ≤ 56) → M2 j9 = M j9) ∧ ∃ i : Nat, x = (i : Int) ∧ i ≤ 4 ∧ (∀ r : Nat, r < i → r < R → cutd M M2 r (lenC M r) (cc r) (ss r)) ∧ (∀ j9 : Nat, 41 + 4 * i ≤ j9 → M2 j9 = M j9)) (fun x _ => (1000 - x).toNat) ⟨hB, fun _ _ => rfl, 0, rfl, by omega, fun r h => absurd h (Nat.not_lt_zero r), fun _ _ => rfl⟩ (fun K x M2 h k => ?_)
  obtain ⟨b2, f2, i, rfl, hi, hd, hu⟩ := h
  have si : sI (i : Int) = i := sIo (by omega) (by omega)
  have n2 : M2 32 2 = (R : Int) := by rw [f2 32 (by omega)]; exact hR
  rw [si]
  refine ⟨fun d => hQ _ ⟨b2, f2, fun r hr => hd r (by omega) hr⟩, fun d => ?_⟩
  refine fC_find b2 (by omega) (fun h => ⟨fun _ => ?_, fun q hq => nomatch hq⟩) (fun r hr h1 h2 => ⟨(fun h => nomatch h), fun q hq => ?_⟩)
  · refine k _ _ ⟨b2, f2, i + 1, by omega, by omega, fun r h1 h2 => ?_, fun j hj => hu j (by omega)⟩ (by omega)
    by_cases c5 : r = i
    · subst c5
      exact absurd ⟨by omega, by omega⟩ h
    · exact hd r (by omega) h2
  · obtain rfl := Option.some.inj hq
    obtain rfl : i = r := by omega
    obtain ⟨g1, g2, g3, g4, g5, g6⟩ := rg_cd i h2
    have hiR : i < R := by omega
    obtain ⟨p1, p2, v1, v2⟩ := hc i hiR
    have bl : 0 ≤ M (41 + 4 * i + 1) 1 ∧ M (41 + 4 * i + 1) 1 ≤ 24 := BN.at hB g3 rfl
    have l24 : lenC M i ≤ 24 := by unfold lenC; omega
    have ln : M (41 + 4 * i + 1) 1 = ((lenC M i : Nat) : Int) := by unfold lenC; omega
    have s2 : sI (2 * (i : Int)) = ((2 * i : Nat) : Int) := by rw [sIo (by omega) (by omega)]; omega
    have s2j : sI (2 * (i : Int) + 1) = ((2 * i + 1 : Nat) : Int) := by rw [sIo (by omega) (by omega)]; omega
    have t2 : (((2 * i : Nat) : Int)).toNat = 2 * i := by omega
    have t2j : (((2 * i + 1 : Nat) : Int)).toNat = 2 * i + 1 := by omega
    rw [s2, s2j, t2, t2j]
    refine ⟨⟨g1, g2⟩, by omega, ?_⟩
    refine fC_cutBy (n := lenC M i) (c := cc i) b2 h2 (by rw [hu _ (by omega)]; exact ln) (by rw [f2 63 (by omega)]; exact p1) v1 (fun M5 h5 => ?_)
    obtain ⟨b5, f5, l5, t5, u5⟩ := h5
    rw [hu (41 + 4 * i) (by omega), hu (41 + 4 * i + 2) (by omega)] at u5
    refine ⟨by omega, fun M6 e6 => ?_⟩
    have e63 : M5 63 (2 * i + 1) = (ss i : Int) := by rw [f5 _ _ (by omega), f2 63 (by omega)]; exact p2
    rw [e63] at e6
    have f6 : ∀ p q : Nat, ¬ (p = 41 + 4 * i ∧ q = 2 ∨ p = 41 + 4 * i + 1 ∧ q = 1 ∨ p = 41 + 4 * i + 3 ∧ q < lenC M i - cc i) → M6 p q = M2 p q := fun p q hp => by
      rw [e6, zup_n _ _ (by omega)]
      exact f5 p q hp
    refine k _ _ ⟨by rw [e6]; exact BN.up b5 g2 rfl (by omega) (by omega), fun j9 h9 => ?_, i + 1, by omega, by omega, fun r h3 h4 => ?_, fun j9 h9 => ?_⟩ (by omega)
    · rw [← f2 j9 h9]
      exact funext fun q => f6 j9 q (by omega)
    · by_cases c5 : r = i
      · subst c5
        refine ⟨?_, ?_, ?_, ?_, ?_, ?_, fun a ha => ?_⟩
        · rw [f6 _ _ (by omega), hu _ (by omega)]
        · rw [e6, zup_s]
        · rw [f6 _ _ (by omega), hu _ (by omega)]
        · rw [f6 _ _ (by omega), hu _ (by omega)]
        · rw [e6, zup_n _ _ (by omega)]
          exact l5
        · rw [← hu (41 + 4 * r + 2) (by omega)]
          exact funext fun q => f6 _ q (by omega)
        · rw [e6, zup_n _ _ (by omega)]
          exact u5 a ha
      · have r4 : r < i := by omega
        obtain ⟨x1, x2, x3, x4, x5, x6, x7⟩ := hd r r4 h4
        refine ⟨?_, ?_, ?_, ?_, ?_, ?_, fun a ha => ?_⟩
        · rw [f6 _ _ (by omega)]
          exact x1
        · rw [f6 _ _ (by omega)]
          exact x2
        · rw [f6 _ _ (by omega)]
          exact x3
        · rw [f6 _ _ (by omega)]
          exact x4
        · rw [f6 _ _ (by omega)]
          exact x5
        · rw [← x6]
          exact funext fun q => f6 _ q (by omega)
        · rw [f6 _ _ (by omega)]
          exact x7 a ha
    · rw [← hu j9 (by omega)]
      exact funext fun q => f6 j9 q (by omega)
theorem chn_cs {R : Nat} {len : Nat → Nat} {tv cs : Nat → Nat → Nat → Int} {V : Nat → Int → Int} {W pl : Nat → Int} (h : chn R len tv cs V W pl) : ∀ k : Nat, k < R → pl (2 * k) = (((pl (2 * k)).toNat : Nat) : Int) ∧ pl (2 * k + 1) = (((pl (2 * k + 1)).toNat : Nat) : Int) ∧ vld (len k) (pl (2 * k)).toNat (pl (2 * k + 1)).toNat := fun k hk => by
  obtain ⟨c, s, h1, h2, h3, -⟩ := h k hk
  have e1 : (pl (2 * k)).toNat = c := by omega
  have e2 : (pl (2 * k + 1)).toNat = s := by omega
  rw [e1, e2]
  exact ⟨h1, h2, h3.1⟩
theorem fC_make {M : zM} (hB : BN wC M) (hlen : ∀ r : Nat, (r : Int) < M 32 2 → 1 ≤ M (41 + 4 * r + 1) 1) {Q : Int → zM → Prop} (hQ : ∀ z M1, (BN wC M1 ∧ (∀ j9 : Nat, ¬ (63 ≤ j9 ∧ j9 ≤ 77 ∨ 41 ≤ j9 ∧ j9 ≤ 56) → M1 j9 = M j9) ∧ ∃ pl : Nat → Int, plnP 1000000 (M 32 2).toNat (M 60 2).toNat (lenC M) (tvC M) (csC M) z pl ∧ (z = -1 → ∀ j9 : Nat, 41 ≤ j9 ∧ j9 ≤ 56 → M1 j9 = M j9) ∧ (z ≠ -1 → ∀ r : Nat, r < (M 32 2).toNat → cutd M M1 r (lenC M r) (pl (2 * r)).toNat (pl (2 * r + 1)).toNat)) → Q z M1) : wC_make M Q := by
  unfold wC_make
  have bn : 0 ≤ M 32 2 ∧ M 32 2 ≤ 4 := BN.at hB (rfl : zcd wC 32 = 8) rfl
  refine fC_Planner_find hB hlen (fun z M1 hp => ?_)
  obtain ⟨hB1, hF1, p1⟩ := hp
  refine ⟨fun c => hQ _ _ ⟨hB1, fun j9 h9 => hF1 j9 (by omega), _, p1, fun _ j9 h9 => hF1 j9 (by omega), fun h => absurd c h⟩, fun c => ?_⟩
  have e41 : ∀ q : Nat, 41 ≤ q ∧ q ≤ 56 → M1 q = M q := fun q hq => hF1 q (by omega)
  have ec : ∀ r : Nat, r < (M 32 2).toNat → lenC M1 r = lenC M r := fun r hr => by unfold lenC; rw [e41 _ (by omega)]
  have hc := p1
  obtain ⟨V, -, hc⟩ := hc
  rcases hc with hc | ⟨-, -, W, -, hc⟩
  · exact absurd hc.1 c
  have hcs := chn_cs hc
  refine fC_carryOut (R := (M 32 2).toNat) (cc := fun r => (M1 63 (2 * r)).toNat) (ss := fun r => (M1 63 (2 * r + 1)).toNat) hB1 (by rw [hF1 32 (by omega)]; omega) (fun r hr => by rw [ec r hr]; exact hcs r hr) (fun M5 h5 => ?_)
  obtain ⟨b5, f5, d5⟩ := h5
  refine hQ _ _ ⟨b5, fun j9 h9 => (f5 j9 (by omega)).trans (hF1 j9 (by omega)), M1 63, p1, fun h => absurd h c, fun _ r hr => ?_⟩
  have d := d5 r hr
  rw [ec r hr] at d
  unfold cutd at d ⊢
  rw [e41 (41 + 4 * r) (by omega), e41 (41 + 4 * r + 2) (by omega)] at d
  exact d
set_option maxHeartbeats 1000000 in
theorem fC_kept {M : zM} (hB : BN wC M) (hu : ∀ r : Nat, (r : Int) < M 32 2 → uok M r) {Q : Int → Prop} (hQ : ∀ z : Int, (∃ H : Nat → Int, (∀ m : Nat, (m : Int) < M 60 2 → ∃ v : Nat → Int, (∀ r : Nat, (r : Int) < M 32 2 → hvC M (M 61 m) r (v r)) ∧ H m = orF v (M 32 2).toNat) ∧ z = trB (fun m => bt (H m) (M 62 m)) (M 60 2).toNat) → Q z) : wC_kept M Q := by
  unfold wC_kept wC_Planner_marksTrue
  have bc : 0 ≤ M 60 2 ∧ M 60 2 ≤ 6 := BN.at hB (rfl : zcd wC 60 = 19) rfl
  have sc : sI (M 60 2) = M 60 2 := sIo (by omega) (by omega)
  refine pL2_of (fun x y => ∃ m : Nat, y = (m : Int) ∧ (m : Int) ≤ M 60 2 ∧ ∃ H : Nat → Int, (∀ i : Nat, i < m → ∃ v : Nat → Int, (∀ r : Nat, (r : Int) < M 32 2 → hvC M (M 61 i) r (v r)) ∧ H i = orF v (M 32 2).toNat) ∧ x = trB (fun i => bt (H i) (M 62 i)) m) (fun _ y => (1000 - y).toNat) ⟨0, rfl, by omega, fun _ => 0, fun i h => absurd h (Nat.not_lt_zero i), rfl⟩ (fun K x y h k => ?_)
  obtain ⟨m, rfl, h1, H, hH, rfl⟩ := h
  have sm : sI (m : Int) = m := sIo (by omega) (by omega)
  have tm : ((m : Int)).toNat = m := by omega
  have rx := trB_b (b := fun i => bt (H i) (M 62 i)) m (by omega)
  rw [sm, sc, tm, sIo (z := trB (fun i => bt (H i) (M 62 i)) m) (by omega) (by omega)]
  refine ⟨fun c => hQ _ ⟨H, fun i hi => hH i (by omega), by rw [show (M 60 2).toNat = m by omega]⟩, fun c => ⟨by omega, ?_⟩⟩
  have b61 : 0 ≤ M 61 m ∧ M 61 m ≤ 100000 := BN.at hB (rfl : zcd wC 61 = 20) rfl
  rw [sIo (z := M 61 m) (by omega) (by omega)]
  refine fC_heardInAll hB hu (by omega) (fun z hz => ⟨by omega, fun t e => ?_⟩)
  have ec : trB (fun i => bt ((fun q => if q = m then z else H q) i) (M 62 i)) m = trB (fun i => bt (H i) (M 62 i)) m := trB_cg m (fun i hi => by dsimp only; rw [if_neg (show ¬ i = m by omega)])
  refine k _ _ ⟨m + 1, by omega, by omega, fun q => if q = m then z else H q, fun i hi => ?_, ?_⟩ (by omega)
  · dsimp only
    by_cases c5 : i = m
    · rw [if_pos c5, c5]
      exact hz
    · rw [if_neg c5]
      exact hH i (by omega)
  · show t = if bt (if m = m then z else H m) (M 62 m) = 1 then orI (trB (fun i => bt ((fun q => if q = m then z else H q) i) (M 62 i)) m) (shlI 1 (m : Int)) else trB (fun i => bt ((fun q => if q = m then z else H q) i) (M 62 i)) m
    rw [ec, if_pos (rfl : m = m)]
    have b := bt_b z (M 62 m)
    have e : t = orI (trB (fun i => bt (H i) (M 62 i)) m) (shlI (bt z (M 62 m)) (m : Int)) := e
    by_cases d : bt z (M 62 m) = 1
    · rw [if_pos d, e, d]
    · rw [if_neg d, e, show bt z (M 62 m) = 0 by omega, shl0 m (by omega), orI_0 (by omega)]
