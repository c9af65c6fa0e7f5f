/-! plans: what turnings make true, the class's rows -/
def off (n : Nat) : Nat → Nat
  | 0 => 0
  | c + 1 => off n c + (n - c)
theorem off_b (n c : Nat) (hn : n ≤ 24) (hc : c < n) : off n c + (n - c) ≤ 300 := (by decide +kernel : ∀ n : Nat, n < 25 → ∀ c : Nat, c < n → off n c + (n - c) ≤ 300) n (by omega) c hc
theorem off_m (n : Nat) {c2 : Nat} : ∀ c : Nat, c2 < c → off n c2 + (n - c2) ≤ off n c
  | 0, h => absurd h (Nat.not_lt_zero _)
  | c + 1, h => by
    show off n c2 + (n - c2) ≤ off n c + (n - c)
    by_cases e : c2 = c
    · rw [e]
      exact Nat.le_refl _
    · have a := off_m n (c2 := c2) c (by omega)
      omega
set_option maxHeartbeats 1000000 in
theorem fC_trueFrom {M : zM} {a n : Nat} (hB : BN wC M) (ha : a < 24) (hn : 1 ≤ n ∧ n ≤ 24) (hw : ∀ m : Nat, (m : Int) < M 60 2 → 0 ≤ M 77 m ∧ M 77 m < (n : Int)) {Q : Int → Prop} (hQ : Q (trB (fun m => bt (M 76 (((a : Int) + M 77 m) % (n : Int)).toNat) (M 62 m)) (M 60 2).toNat)) : wC_Planner_trueFrom (a : Int) (n : Int) M Q := by
  unfold wC_Planner_trueFrom
  have bc : 0 ≤ M 60 2 ∧ M 60 2 ≤ 6 := BN.at hB (rfl : zcd wC 60 = 19) rfl
  have sc : sI (M 60 2) = M 60 2 := sIo (by omega) (by omega)
  refine pL2_of (fun x y => ∃ m : Nat, y = (m : Int) ∧ (m : Int) ≤ M 60 2 ∧ x = trB (fun m => bt (M 76 (((a : Int) + M 77 m) % (n : Int)).toNat) (M 62 m)) m) (fun _ y => (1000 - y).toNat) ⟨0, rfl, by omega, rfl⟩ (fun K x y h k => ?_)
  obtain ⟨m, rfl, h1, rfl⟩ := h
  have sm : sI (m : Int) = m := sIo (by omega) (by omega)
  have tm : ((m : Int)).toNat = m := by omega
  have rx := trB_b (b := fun m => bt (M 76 (((a : Int) + M 77 m) % (n : Int)).toNat) (M 62 m)) m (by omega)
  rw [sm, sc, tm, sIo (z := trB (fun m => bt (M 76 (((a : Int) + M 77 m) % (n : Int)).toNat) (M 62 m)) m) (by omega) (by omega)]
  refine ⟨fun c => ?_, fun c => ⟨by omega, ?_⟩⟩
  · rw [show m = (M 60 2).toNat by omega]
    exact hQ
  · have w := hw m c
    rw [sIo (z := (a : Int) + M 77 m) (by omega) (by omega)]
    refine fC_by (by omega) (by omega) ?_
    have em := emB ((a : Int) + M 77 m) (n : Int) (by omega)
    refine ⟨by omega, by omega, fun t e => k _ _ ⟨m + 1, by omega, by omega, ?_⟩ (by omega)⟩
    have b := bt_b (M 76 (((a : Int) + M 77 m) % (n : Int)).toNat) (M 62 m)
    show t = if bt (M 76 (((a : Int) + M 77 m) % (n : Int)).toNat) (M 62 m) = 1 then orI (trB (fun m => bt (M 76 (((a : Int) + M 77 m) % (n : Int)).toNat) (M 62 m)) m) (shlI 1 (m : Int)) else trB (fun m => bt (M 76 (((a : Int) + M 77 m) % (n : Int)).toNat) (M 62 m)) m
    have e : t = orI (trB (fun m => bt (M 76 (((a : Int) + M 77 m) % (n : Int)).toNat) (M 62 m)) m) (shlI (bt (M 76 (((a : Int) + M 77 m) % (n : Int)).toNat) (M 62 m)) (m : Int)) := e
    by_cases d : bt (M 76 (((a : Int) + M 77 m) % (n : Int)).toNat) (M 62 m) = 1
    · rw [if_pos d, e, d]
    · rw [if_neg d, e, show bt (M 76 (((a : Int) + M 77 m) % (n : Int)).toNat) (M 62 m) = 0 by omega, shl0 m (by omega), orI_0 (by omega)]
/-- what ring r makes true, of the class -/
def tvC (M : zM) (r c s : Nat) : Int := trV (M (41 + 4 * r) 3) (M (41 + 4 * r + 2)) (wbF (M (jmo (M (41 + 4 * r) 1)) 2) (M (jmo (M (41 + 4 * r) 1) + 1)) (M (jmo (M (41 + 4 * r) 1) + 2))) (M 60 2).toNat (M 61) (M 62) ((M (41 + 4 * r + 1) 1).toNat - c) s
theorem tvC_cg {M M1 : zM} {r c s : Nat} (h : ∀ j : Nat, (35 ≤ j ∧ j ≤ 62) → M1 j = M j) (hr : r < 4) : tvC M1 r c s = tvC M r c s := by
  unfold tvC jmo
  rw [h (41 + 4 * r) (by omega), h (41 + 4 * r + 1) (by omega), h (41 + 4 * r + 2) (by omega), h 60 (by omega), h 61 (by omega), h 62 (by omega)]
  by_cases c5 : M (41 + 4 * r) 1 = 0
  · rw [if_pos c5, h 35 (by omega), h (35 + 1) (by omega), h (35 + 2) (by omega)]
  · rw [if_neg c5, h 38 (by omega), h (38 + 1) (by omega), h (38 + 2) (by omega)]
set_option maxHeartbeats 4000000 in
theorem fC_listTrue {M : zM} {r n j : Nat} (hB : BN wC M) (hr : r < 4) (hj : j = jmo (M (41 + 4 * r) 1)) (hn : M (41 + 4 * r + 1) 1 = (n : Int)) (n1 : 1 ≤ n) {Q : zM → Prop} (hQ : ∀ M1 : zM, BN wC M1 ∧ (∀ p : Nat, ¬ (p = 65 + r ∨ p = 76 ∨ p = 77) → M1 p = M p) ∧ (∀ c s : Nat, c < n → s < n - c → M1 (65 + r) (off n c + s) = tvC M r c s) → Q M1) : wC_Planner_listTrue (41 + 4 * r) j (65 + r) M Q := by
  unfold wC_Planner_listTrue
  obtain ⟨g1, g2, g3, g4, g5, g6⟩ := rg_cd r hr
  have bl : 0 ≤ M (41 + 4 * r + 1) 1 ∧ M (41 + 4 * r + 1) 1 ≤ 24 := BN.at hB g3 rfl
  have bc : 0 ≤ M 60 2 ∧ M 60 2 ≤ 6 := BN.at hB (rfl : zcd wC 60 = 19) rfl
  obtain ⟨z1, z2⟩ := (by decide : ∀ r : Nat, r < 4 → zcd wC (65 + r) = 24 ∧ zln wC (65 + r) = 300) r hr
  have hjj : j = 35 ∨ j = 38 := by
    rw [hj]
    unfold jmo
    by_cases c5 : M (41 + 4 * r) 1 = 0
    · rw [if_pos c5]
      exact Or.inl rfl
    · rw [if_neg c5]
      exact Or.inr rfl
  have cdj : j < nC ∧ zcd wC j = 11 := by rcases hjj with e | e <;> rw [e] <;> decide
  have tv : ∀ c s : Nat, c < n → tvC M r c s = trB (fun m => bt (orU (M (41 + 4 * r) 3) (M (41 + 4 * r + 2)) (n - c) (((s : Int) + wbF (M j 2) (M (j + 1)) (M (j + 2)) (M 61 m) ((n - c : Nat) : Int)) % ((n - c : Nat) : Int)).toNat 24) (M 62 m)) (M 60 2).toNat := fun c s hc => by
    unfold tvC trV
    rw [← hj, hn, show ((n : Int)).toNat = n by omega]
  rw [hn]
  refine wL2_of (fun x y M2 => BN wC M2 ∧ (∀ p : Nat, ¬ (p = 65 + r ∨ p = 76 ∨ p = 77) → M2 p = M p) ∧ ∃ c : Nat, y = (n : Int) - (c : Int) ∧ c ≤ n ∧ x = (off n c : Int) ∧ ∀ c' s : Nat, c' < c → s < n - c' → M2 (65 + r) (off n c' + s) = tvC M r c' s) (fun _ y _ => (y + 1).toNat) ⟨hB, fun _ _ => rfl, 0, by omega, by omega, rfl, fun c' s h => absurd h (Nat.not_lt_zero c')⟩ (fun K x y M2 h k => ?_)
  obtain ⟨b2, f2, c, rfl, hc, rfl, hv⟩ := h
  have sy : sI ((n : Int) - (c : Int)) = (n : Int) - (c : Int) := sIo (by omega) (by omega)
  rw [sy]
  refine ⟨fun d => hQ _ ⟨b2, f2, fun c' s h1 h2 => hv c' s (by omega) h2⟩, fun d => ?_⟩
  have ob := off_b n c (by omega) (by omega)
  have ey : (n : Int) - (c : Int) = ((n - c : Nat) : Int) := by omega
  rw [ey]
  refine fC_fillUnder b2 (rfl : zln wC 76 = 24) (fun _ => rfl) ⟨by omega, by omega⟩ ⟨by omega, by omega⟩ (fun M22 h22 => ?_)
  obtain ⟨b22, f22, u22⟩ := h22
  rw [f2 (41 + 4 * r) (by omega), f2 (41 + 4 * r + 2) (by omega)] at u22
  have f22' : ∀ p : Nat, ¬ (p = 65 + r ∨ p = 76 ∨ p = 77) → M22 p = M p := fun p hp => (funext fun q => f22 p q (by omega)).trans (f2 p hp)
  have v22 : M22 (65 + r) = M2 (65 + r) := funext fun q => f22 (65 + r) q (by omega)
  refine wL1_of (fun w M3 => BN wC M3 ∧ (∀ p : Nat, ¬ (p = 65 + r ∨ p = 76 ∨ p = 77) → M3 p = M p) ∧ M3 (65 + r) = M2 (65 + r) ∧ M3 76 = M22 76 ∧ ∃ m : Nat, w = (m : Int) ∧ (m : Int) ≤ M 60 2 ∧ ∀ i : Nat, i < m → M3 77 i = wbF (M j 2) (M (j + 1)) (M (j + 2)) (M 61 i) ((n - c : Nat) : Int)) (fun w _ => (1000 - w).toNat) ⟨b22, f22', v22, rfl, 0, rfl, by omega, fun i h => absurd h (Nat.not_lt_zero i)⟩ (fun K2 w M3 h3 k2 => ?_)
  obtain ⟨b3, f3, v3, u3, m, rfl, hm, hw⟩ := h3
  have n3 : M3 60 = M 60 := f3 60 (by omega)
  have sc : sI (M 60 2) = M 60 2 := sIo (by omega) (by omega)
  have sm : sI (m : Int) = m := sIo (by omega) (by omega)
  have tm : ((m : Int)).toNat = m := by omega
  rw [n3, sc, sm, tm]
  refine ⟨fun d2 => ?_, fun d2 => ⟨by omega, ?_⟩⟩
  · refine wL2_of (fun x y M4 => BN wC M4 ∧ (∀ p : Nat, ¬ (p = 65 + r ∨ p = 76 ∨ p = 77) → M4 p = M p) ∧ M4 76 = M22 76 ∧ M4 77 = M3 77 ∧ ∃ s : Nat, y = (s : Int) ∧ s ≤ n - c ∧ x = ((off n c + s : Nat) : Int) ∧ (∀ c' s' : Nat, c' < c → s' < n - c' → M4 (65 + r) (off n c' + s') = tvC M r c' s') ∧ (∀ s' : Nat, s' < s → M4 (65 + r) (off n c + s') = tvC M r c s')) (fun _ y _ => (1000 - y).toNat) ⟨b3, f3, u3, rfl, 0, rfl, by omega, rfl, fun c' s' h1 h2 => by rw [v3]; exact hv c' s' h1 h2, fun s' h => absurd h (Nat.not_lt_zero s')⟩ (fun K3 x y M4 h4 k3 => ?_)
    obtain ⟨b4, f4, u4, w4, s, rfl, hs, rfl, hv4, hw4⟩ := h4
    have ss : sI (s : Int) = s := sIo (by omega) (by omega)
    have sl : sI ((n - c : Nat) : Int) = ((n - c : Nat) : Int) := sIo (by omega) (by omega)
    have sx : sI ((off n c + s : Nat) : Int) = ((off n c + s : Nat) : Int) := sIo (by omega) (by omega)
    have tx : (((off n c + s : Nat) : Int)).toNat = off n c + s := by omega
    have done : s = n - c → K ((off n c + s : Nat) : Int) (((n - c : Nat) : Int) + (-1)) M4 := fun e => by
      refine k _ _ _ ⟨b4, f4, c + 1, by omega, by omega, ?_, fun c' s' h1 h2 => ?_⟩ (by omega)
      · show ((off n c + s : Nat) : Int) = ((off n c + (n - c) : Nat) : Int)
        rw [e]
      · by_cases e2 : c' = c
        · subst e2
          exact hw4 s' (by omega)
        · exact hv4 c' s' (by omega) h2
    rw [ss, sx, tx, z2]
    refine ⟨fun d3 => done (by omega), fun d3 => ⟨fun d4 => absurd d4 (by omega), fun d4 => ?_⟩⟩
    have e60 : M4 60 = M 60 := f4 60 (by omega)
    have w77 : ∀ i : Nat, (i : Int) < M 60 2 → M4 77 i = wbF (M j 2) (M (j + 1)) (M (j + 2)) (M 61 i) ((n - c : Nat) : Int) := fun i hi => by rw [w4]; exact hw i (by omega)
    refine fC_trueFrom b4 (by omega) ⟨by omega, by omega⟩ (fun i hi => ?_) ?_
    · rw [e60] at hi
      rw [w77 i hi]
      exact wbF_b (by omega)
    · have et : trB (fun m => bt (M4 76 (((s : Int) + M4 77 m) % ((n - c : Nat) : Int)).toNat) (M4 62 m)) (M4 60 2).toNat = tvC M r c s := by
        rw [tv c s (by omega), e60]
        refine trB_cg _ (fun m hm2 => ?_)
        have em := emB ((s : Int) + wbF (M j 2) (M (j + 1)) (M (j + 2)) (M 61 m) ((n - c : Nat) : Int)) ((n - c : Nat) : Int) (by omega)
        rw [w77 m (by omega), f4 62 (by omega), u4, u22 _ (by omega)]
      rw [et]
      have bt2 : 0 ≤ tvC M r c s ∧ tvC M r c s ≤ 63 := trV_b (by omega)
      refine ⟨by omega, fun M5 e5 => ?_⟩
      refine k3 _ _ _ ⟨by rw [e5]; exact BN.up b4 z1 rfl (by omega) (by omega), fun p hp => by rw [e5, zup_row _ _ (by omega)]; exact f4 p hp, by rw [e5, zup_row _ _ (by omega)]; exact u4, by rw [e5, zup_row _ _ (by omega)]; exact w4, s + 1, by omega, by omega, by omega, fun c' s' h1 h2 => ?_, fun s' h1 => ?_⟩ (by omega)
      · have om := off_m n c h1
        rw [e5, zup_n _ _ (by omega)]
        exact hv4 c' s' h1 h2
      · rw [e5]
        by_cases c6 : s' = s
        · rw [c6, zup_s]
        · rw [zup_n _ _ (by omega)]
          exact hw4 s' (by omega)
  · have b61 : 0 ≤ M3 61 m ∧ M3 61 m ≤ 100000 := BN.at b3 (rfl : zcd wC 61 = 20) rfl
    rw [sIo (z := M3 61 m) (by omega) (by omega)]
    refine fC_wayBy b3 cdj.1 cdj.2 (by omega) (by omega) (fun z hz => ?_)
    have bj : 0 ≤ M3 j 2 ∧ M3 j 2 ≤ 12 := BN.at b3 cdj.2 rfl
    have ez := wbR_F bj.1 hz
    rw [f3 j (by omega), f3 (j + 1) (by omega), f3 (j + 2) (by omega), f3 61 (by omega)] at ez
    have bz := wbR_r (by omega) hz
    refine ⟨by omega, fun M5 e5 => ?_⟩
    refine k2 _ _ ⟨by rw [e5]; exact BN.up b3 (rfl : zcd wC 77 = 29) rfl (by omega) (by omega), fun p hp => by rw [e5, zup_row _ _ (by omega)]; exact f3 p hp, by rw [e5, zup_row _ _ (by omega)]; exact v3, by rw [e5, zup_row _ _ (by omega)]; exact u3, m + 1, by omega, by omega, fun i hi => ?_⟩ (by omega)
    rw [e5]
    by_cases c6 : i = m
    · rw [c6, zup_s, ez]
    · rw [zup_n _ _ (by omega)]
      exact hw i (by omega)
