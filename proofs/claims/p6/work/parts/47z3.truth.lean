/-! plans: what turnings make true, the model's -/
def tvR (M : zM) (r c s : Nat) : Int := trV (M 7 r) (fun k => M 3 (24 * r + k)) (wbF (M 11 (M 5 r).toNat) (fun i => M 9 (12 * (M 5 r).toNat + i)) (fun i => M 10 (12 * (M 5 r).toNat + i))) (M 0 16).toNat (M 12) (M 13) ((M 4 r).toNat - c) s
def lenR (M : zM) (k : Nat) : Nat := (M 4 k).toNat
def csR (M : zM) (k : Nat) : Nat → Nat → Int := cstI (M 6 k)
set_option maxHeartbeats 4000000 in
theorem fR_truths {M : zM} {r c s : Nat} (hB : BI M) (hr : (r : Int) < M 0 10) (hv : vld (lenR M r) c s) {Q : Int → Prop} (hQ : Q (tvR M r c s)) : wR_truths (r : Int) (c : Int) (s : Int) M Q := by
  unfold wR_truths
  have b10 : 0 ≤ M 0 10 ∧ M 0 10 ≤ 4 := BN.at hB.1 (rfl : zcd wR 0 = 50) rfl
  have b16 : 0 ≤ M 0 16 ∧ M 0 16 ≤ 6 := BN.at hB.1 (rfl : zcd wR 0 = 50) rfl
  have r4 : r < 4 := by omega
  have bl : 0 ≤ M 4 r ∧ M 4 r ≤ 24 := BN.at hB.1 (rfl : zcd wR 4 = 54) rfl
  have bm : 0 ≤ M 5 r ∧ M 5 r ≤ 1 := BN.at hB.1 (rfl : zcd wR 5 = 55) rfl
  obtain ⟨v1, v2⟩ := hv
  obtain ⟨n, hn⟩ : ∃ n : Nat, lenR M r = n := ⟨_, rfl⟩
  have ln : M 4 r = (n : Int) := by unfold lenR at hn; omega
  rw [hn] at v1 v2
  have sr : sI (r : Int) = r := sIo (by omega) (by omega)
  have tr : ((r : Int)).toNat = r := by omega
  have s16 : sI (M 0 16) = M 0 16 := sIo (by omega) (by omega)
  have nc : (n : Int) - (c : Int) = ((n - c : Nat) : Int) := by omega
  have snc : sI ((n - c : Nat) : Int) = ((n - c : Nat) : Int) := sIo (by omega) (by omega)
  have tn : ((n : Int)).toNat = n := by omega
  unfold tvR trV at hQ
  rw [ln, tn] at hQ
  rw [sr, tr, ln, nc, s16, snc]
  refine ⟨by omega, ?_⟩
  refine pL2_of (fun x y => ∃ m : Nat, y = (m : Int) ∧ (m : Int) ≤ M 0 16 ∧ x = trB (fun m => bt (orU (M 7 r) (fun k => M 3 (24 * r + k)) (n - c) (((s : Int) + wbF (M 11 (M 5 r).toNat) (fun i => M 9 (12 * (M 5 r).toNat + i)) (fun i => M 10 (12 * (M 5 r).toNat + i)) (M 12 m) ((n - c : Nat) : Int)) % ((n - c : Nat) : Int)).toNat 24) (M 13 m)) m) (fun _ y => (1000 - y).toNat) ⟨0, rfl, by omega, rfl⟩ (fun K x y h k => ?_)
  obtain ⟨m, rfl, hm, rfl⟩ := h
  have sm : sI (m : Int) = m := sIo (by omega) (by omega)
  have tm : ((m : Int)).toNat = m := by omega
  have rx := trB_b (b := fun m => bt (orU (M 7 r) (fun k => M 3 (24 * r + k)) (n - c) (((s : Int) + wbF (M 11 (M 5 r).toNat) (fun i => M 9 (12 * (M 5 r).toNat + i)) (fun i => M 10 (12 * (M 5 r).toNat + i)) (M 12 m) ((n - c : Nat) : Int)) % ((n - c : Nat) : Int)).toNat 24) (M 13 m)) m (by omega)
  rw [sm, tm, sIo (z := trB (fun m => bt (orU (M 7 r) (fun k => M 3 (24 * r + k)) (n - c) (((s : Int) + wbF (M 11 (M 5 r).toNat) (fun i => M 9 (12 * (M 5 r).toNat + i)) (fun i => M 10 (12 * (M 5 r).toNat + i)) (M 12 m) ((n - c : Nat) : Int)) % ((n - c : Nat) : Int)).toNat 24) (M 13 m)) m) (by omega) (by omega)]
  refine ⟨fun d => ?_, fun d => ⟨by omega, by omega, ?_⟩⟩
  · rw [show (M 0 16).toNat = m by omega] at hQ
    exact hQ
  have b12 : 0 ≤ M 12 m ∧ M 12 m ≤ 100000 := BN.at hB.1 (rfl : zcd wR 12 = 62) rfl
  have b11 : 0 ≤ M 11 (M 5 r).toNat ∧ M 11 (M 5 r).toNat ≤ 12 := BN.at hB.1 (rfl : zcd wR 11 = 61) rfl
  rw [sIo (z := M 12 m) (by omega) (by omega)]
  refine fR_wayBy (m := (M 5 r).toNat) hB (by omega) (by omega) (by omega) (by omega) (fun w hw => ?_)
  have wr := wbR_r (by omega) hw
  have ew := wbR_F b11.1 hw
  have em := emB ((s : Int) + w) ((n - c : Nat) : Int) (by omega)
  obtain ⟨a, ha⟩ : ∃ a : Nat, ((s : Int) + w) % ((n - c : Nat) : Int) = (a : Int) := ⟨(((s : Int) + w) % ((n - c : Nat) : Int)).toNat, by omega⟩
  have step : ∀ v : Int, v = (if bt (orU (M 7 r) (fun k => M 3 (24 * r + k)) (n - c) a 24) (M 13 m) = 1 then orI (trB (fun m => bt (orU (M 7 r) (fun k => M 3 (24 * r + k)) (n - c) (((s : Int) + wbF (M 11 (M 5 r).toNat) (fun i => M 9 (12 * (M 5 r).toNat + i)) (fun i => M 10 (12 * (M 5 r).toNat + i)) (M 12 m) ((n - c : Nat) : Int)) % ((n - c : Nat) : Int)).toNat 24) (M 13 m)) m) (shlI 1 (m : Int)) else trB (fun m => bt (orU (M 7 r) (fun k => M 3 (24 * r + k)) (n - c) (((s : Int) + wbF (M 11 (M 5 r).toNat) (fun i => M 9 (12 * (M 5 r).toNat + i)) (fun i => M 10 (12 * (M 5 r).toNat + i)) (M 12 m) ((n - c : Nat) : Int)) % ((n - c : Nat) : Int)).toNat 24) (M 13 m)) m) → K v ((m : Int) + 1) := fun v hv => by
    refine k _ _ ⟨m + 1, by omega, by omega, ?_⟩ (by omega)
    rw [hv]
    show _ = if bt (orU (M 7 r) (fun k => M 3 (24 * r + k)) (n - c) (((s : Int) + wbF (M 11 (M 5 r).toNat) (fun i => M 9 (12 * (M 5 r).toNat + i)) (fun i => M 10 (12 * (M 5 r).toNat + i)) (M 12 m) ((n - c : Nat) : Int)) % ((n - c : Nat) : Int)).toNat 24) (M 13 m) = 1 then _ else _
    rw [← ew, ha, show ((a : Int)).toNat = a by omega]
  refine pL2_of (fun x y => ∃ o : Nat, y = (o : Int) ∧ o ≤ 24 ∧ ((x = 1 ∧ bt (orU (M 7 r) (fun k => M 3 (24 * r + k)) (n - c) a o) (M 13 m) = 1) ∨ (x = 0 ∧ ¬ bt (orU (M 7 r) (fun k => M 3 (24 * r + k)) (n - c) a o) (M 13 m) = 1))) (fun _ y => (1000 - y).toNat) ⟨0, rfl, by omega, Or.inr ⟨rfl, fun e => by have y := bt_0 (M 13 m); have e : bt 0 (M 13 m) = 1 := e; omega⟩⟩ (fun K3 x y h3 k3 => ?_)
  obtain ⟨o, rfl, ho, hx⟩ := h3
  have so : sI (o : Int) = o := sIo (by omega) (by omega)
  have sx : sI x = x := sIo (by omega) (by omega)
  rw [so, sx]
  refine ⟨fun d2 => ?_, fun d2 => ⟨by omega, ?_⟩⟩
  · rw [show o = 24 by omega] at hx
    refine ⟨fun d3 => step _ ?_, fun d3 => step _ ?_⟩
    · rw [if_neg (by omega)]
    · rw [if_pos (by omega)]
  have b1 := bt_b (M 7 r) (o : Int)
  have hx0 : bt (M 7 r) (o : Int) ≠ 1 → orU (M 7 r) (fun k => M 3 (24 * r + k)) (n - c) a (o + 1) = orU (M 7 r) (fun k => M 3 (24 * r + k)) (n - c) a o := fun c5 => if_pos (show bt (M 7 r) (o : Int) = 0 by omega)
  have hx1 : bt (M 7 r) (o : Int) = 1 → orU (M 7 r) (fun k => M 3 (24 * r + k)) (n - c) a (o + 1) = orI (orU (M 7 r) (fun k => M 3 (24 * r + k)) (n - c) a o) (M 3 (24 * r + (a + o) % (n - c))) := fun c5 => if_neg (show ¬ bt (M 7 r) (o : Int) = 0 by omega)
  refine ⟨fun d3 => k3 _ _ ⟨o + 1, by omega, by omega, ?_⟩ (by omega), fun d3 => ?_⟩
  · rw [hx0 d3]
    exact hx
  have bo := bt_or (orU (M 7 r) (fun k => M 3 (24 * r + k)) (n - c) a o) (M 3 (24 * r + (a + o) % (n - c))) (M 13 m)
  rw [← hx1 d3] at bo
  have e1 : ((s : Int) + w + (o : Int)).tmod ((n - c : Nat) : Int) = (((a + o) % (n - c) : Nat) : Int) := by
    rw [Int.tmod_eq_emod_of_nonneg (by omega), Int.natCast_emod, Int.natCast_add, ← ha, Int.emod_add_emod]
  have lt := Nat.mod_lt (a + o) (show n - c > 0 by omega)
  rw [sIo (z := (s : Int) + w + (o : Int)) (by omega) (by omega), e1, sIo (z := 24 * (r : Int) + (((a + o) % (n - c) : Nat) : Int)) (by omega) (by omega), show (24 * (r : Int) + (((a + o) % (n - c) : Nat) : Int)).toNat = 24 * r + (a + o) % (n - c) by omega]
  refine ⟨fun d4 => k3 _ _ ⟨o + 1, by omega, by omega, Or.inl ⟨rfl, bo.mpr (Or.inl ?_)⟩⟩ (by omega), fun d4 => ⟨by omega, by omega, by omega, fun d5 => k3 _ _ ⟨o + 1, by omega, by omega, Or.inr ⟨rfl, fun e => ?_⟩⟩ (by omega), fun d5 => k3 _ _ ⟨o + 1, by omega, by omega, Or.inl ⟨rfl, bo.mpr (Or.inr d5)⟩⟩ (by omega)⟩⟩
  · rcases hx with hx | hx
    · exact hx.2
    · exact absurd hx.1 d4
  · rcases bo.mp e with e | e
    · rcases hx with hx | hx
      · omega
      · exact hx.2 e
    · exact d5 e
theorem tvR_cg {M M1 : zM} {r c s : Nat} (h : ∀ p q : Nat, p ≤ 13 → ¬ (p = 0 ∧ (q = 34 ∨ q = 35)) → M1 p q = M p q) : tvR M1 r c s = tvR M r c s := by
  unfold tvR
  rw [h 7 r (by omega) (by omega), h 5 r (by omega) (by omega), h 4 r (by omega) (by omega), h 0 16 (by omega) (by omega), h 11 _ (by omega) (by omega), show M1 12 = M 12 from funext fun q => h 12 q (by omega) (by omega), show M1 13 = M 13 from funext fun q => h 13 q (by omega) (by omega), show M1 3 = M 3 from funext fun q => h 3 q (by omega) (by omega), show M1 9 = M 9 from funext fun q => h 9 q (by omega) (by omega), show M1 10 = M 10 from funext fun q => h 10 q (by omega) (by omega)]
set_option maxHeartbeats 2000000 in
theorem fR_keptM {M : zM} (hB : BI M) (hs : ∀ r : Nat, (r : Int) < M 0 10 → 0 ≤ M 6 r ∧ M 6 r < M 4 r) {Q : Int → zM → Prop} (hQ : ∀ (z : Int) (M1 : zM), BI M1 ∧ (∀ j9 k9 : Nat, ¬ (j9 = 0 ∧ k9 = 35) → M1 j9 k9 = M j9 k9) ∧ z = orF (fun r => tvR M r 0 (M 6 r).toNat) (M 0 10).toNat → Q z M1) : wR_keptM M Q := by
  unfold wR_keptM
  intro M1 e1
  have hB1 : BI M1 := by rw [e1]; exact BI.up0 hB (rfl : cbt 50 35 = (-2147483648, 2147483647)) (by omega) (by omega) (by decide)
  have F1 : ∀ j9 k9 : Nat, ¬ (j9 = 0 ∧ k9 = 35) → M1 j9 k9 = M j9 k9 := fun j9 k9 h9 => by rw [e1]; exact zup_n _ _ (by omega)
  have b10 : 0 ≤ M 0 10 ∧ M 0 10 ≤ 4 := BN.at hB.1 (rfl : zcd wR 0 = 50) rfl
  have r10 : M1 0 10 = M 0 10 := F1 0 10 (by omega)
  have s10 : sI (M 0 10) = M 0 10 := sIo (by omega) (by omega)
  rw [r10, s10]
  refine pL2_of (fun x y => ∃ i : Nat, y = (i : Int) ∧ (i : Int) ≤ M 0 10 ∧ x = orF (fun r => tvR M r 0 (M 6 r).toNat) i) (fun _ y => (1000 - y).toNat) ⟨0, rfl, by omega, rfl⟩ (fun K x y h k => ?_)
  obtain ⟨i, rfl, hi, rfl⟩ := h
  have si : sI (i : Int) = i := sIo (by omega) (by omega)
  have ti : ((i : Int)).toNat = i := by omega
  have rx := orF_r (fun r => tvR M r 0 (M 6 r).toNat) i
  rw [si, ti, sIo (z := orF (fun r => tvR M r 0 (M 6 r).toNat) i) rx.1 rx.2]
  refine ⟨fun d => hQ _ _ ⟨hB1, F1, by rw [show (M 0 10).toNat = i by omega]⟩, fun d => ⟨by omega, ?_⟩⟩
  obtain ⟨h1, h2⟩ := hs i d
  have e6 : M1 6 i = (((M 6 i).toNat : Nat) : Int) := by rw [F1 6 i (by omega)]; omega
  rw [e6]
  refine fR_truths (c := 0) hB1 (by rw [r10]; exact d) ⟨?_, ?_⟩ (k _ _ ⟨i + 1, by omega, by omega, ?_⟩ (by omega))
  · unfold lenR
    rw [F1 4 i (by omega)]
    omega
  · unfold lenR
    rw [F1 4 i (by omega)]
    omega
  · show orI _ _ = orI _ _
    rw [tvR_cg (fun p q h1 h2 => F1 p q (by omega))]
