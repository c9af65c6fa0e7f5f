/-! plans: both sides alike -/
set_option maxHeartbeats 2000000 in
theorem fR_make {M : zM} (hB : BI M) {Q : Int → zM → Prop} (hQ : ∀ (z : Int) (M1 : zM), BI M1 ∧ (∀ j9 k9 : Nat, ¬ (j9 = 0 ∧ k9 = 35 ∨ j9 = 0 ∧ k9 = 34 ∨ j9 = 4 ∨ j9 = 6 ∨ j9 = 22 ∨ j9 = 28 ∨ j9 = 29) → M1 j9 k9 = M j9 k9) ∧ (∃ pl : Nat → Int, plnP 268435456 (M 0 10).toNat (M 0 16).toNat (lenR M) (tvR M) (csR M) z pl ∧ (z = -1 → M1 4 = M 4 ∧ M1 6 = M 6) ∧ (z ≠ -1 → ∀ r : Nat, r < (M 0 10).toNat → M1 4 r = M 4 r - pl (2 * r) ∧ M1 6 r = pl (2 * r + 1))) → Q z M1) : wR_make M Q := by
  unfold wR_make
  intro M1 e1
  have hB1 : BI M1 := by rw [e1]; exact BI.up0 hB (rfl : cbt 50 35 = (-2147483648, 2147483647)) (by omega) (by omega) (by decide)
  have F1 : ∀ j9 k9 : Nat, ¬ (j9 = 0 ∧ k9 = 35) → M1 j9 k9 = M j9 k9 := fun j9 k9 h9 => by rw [e1]; exact zup_n _ _ (by omega)
  have b10 : 0 ≤ M 0 10 ∧ M 0 10 ≤ 4 := BN.at hB.1 (rfl : zcd wR 0 = 50) rfl
  have el : lenR M1 = lenR M := funext fun k => by unfold lenR; rw [F1 4 k (by omega)]
  have et : tvR M1 = tvR M := funext fun r => funext fun c => funext fun s => tvR_cg (fun p q h1 h2 => F1 p q (by omega))
  have ec : csR M1 = csR M := funext fun k => by unfold csR; rw [F1 6 k (by omega)]
  refine fR_findPlan hB1 (fun z M3 h3 => ?_)
  obtain ⟨b3, f3, p3⟩ := h3
  rw [F1 0 10 (by omega), F1 0 16 (by omega), el, et, ec] at p3
  have r3 : M3 0 10 = M 0 10 := (f3 0 10 (by omega)).trans (F1 0 10 (by omega))
  have s10 : sI (M 0 10) = M 0 10 := sIo (by omega) (by omega)
  by_cases hz : z = -1
  · have fin : Q z M3 := hQ _ _ ⟨b3, fun j9 k9 h9 => (f3 j9 k9 (by omega)).trans (F1 j9 k9 (by omega)), M3 22, p3, fun _ => ⟨funext fun k => (f3 4 k (by omega)).trans (F1 4 k (by omega)), funext fun k => (f3 6 k (by omega)).trans (F1 6 k (by omega))⟩, fun h => absurd hz h⟩
    refine wL1_of (fun x M7 => x = 0 ∧ M7 = M3) (fun x _ => 0) ⟨rfl, rfl⟩ (fun K x M7 h k => ?_)
    obtain ⟨rfl, rfl⟩ := h
    exact ⟨fun _ => fin, fun _ => ⟨fun _ => fin, fun h => absurd hz h⟩⟩
  · have hc := p3
    obtain ⟨V, -, hc⟩ := hc
    rcases hc with hc | ⟨-, -, W, -, hc⟩
    · exact absurd hc.1 hz
    have hcs := chn_cs hc
    have hl : ∀ k : Nat, 0 ≤ M 4 k ∧ M 4 k ≤ 24 := fun k => BN.at hB.1 (rfl : zcd wR 4 = 54) rfl
    refine wL1_of (fun x M7 => BI M7 ∧ (∀ j9 k9 : Nat, ¬ (j9 = 4 ∨ j9 = 6) → M7 j9 k9 = M3 j9 k9) ∧ ∃ i : Nat, x = (i : Int) ∧ (i : Int) ≤ M 0 10 ∧ (∀ r : Nat, i ≤ r → M7 4 r = M 4 r ∧ M7 6 r = M 6 r) ∧ ∀ r : Nat, r < i → M7 4 r = M 4 r - M3 22 (2 * r) ∧ M7 6 r = M3 22 (2 * r + 1)) (fun x _ => (1000 - x).toNat) ⟨b3, fun _ _ _ => rfl, 0, rfl, by omega, fun r _ => ⟨(f3 4 r (by omega)).trans (F1 4 r (by omega)), (f3 6 r (by omega)).trans (F1 6 r (by omega))⟩, fun r h => absurd h (Nat.not_lt_zero r)⟩ (fun K x M7 h k => ?_)
    obtain ⟨b7, f7, i, rfl, hi, hu, hd⟩ := h
    have si : sI (i : Int) = i := sIo (by omega) (by omega)
    have ti : ((i : Int)).toNat = i := by omega
    have r7 : M7 0 10 = M 0 10 := (f7 0 10 (by omega)).trans r3
    have s2i : sI (2 * (i : Int)) = ((2 * i : Nat) : Int) := by rw [sIo (by omega) (by omega)]; omega
    have s2j : sI (2 * (i : Int) + 1) = ((2 * i + 1 : Nat) : Int) := by rw [sIo (by omega) (by omega)]; omega
    have t2i : (((2 * i : Nat) : Int)).toNat = 2 * i := by omega
    have t2j : (((2 * i + 1 : Nat) : Int)).toNat = 2 * i + 1 := by omega
    rw [r7, s10, si, ti, s2i, s2j, t2i, t2j]
    refine ⟨fun c => hQ _ _ ⟨b7, fun j9 k9 h9 => by rw [f7 _ _ (by omega), f3 _ _ (by omega)]; exact F1 j9 k9 (by omega), M3 22, p3, fun h => absurd h hz, fun _ r hr => hd r (by omega)⟩, fun c => ⟨fun h => absurd h hz, fun _ => ⟨by omega, by omega, by omega, fun M8 e8 => ⟨by omega, by omega, fun M9 e9 => ?_⟩⟩⟩⟩
    obtain ⟨h1, h2, v1, v2⟩ := hcs i (by omega)
    obtain ⟨u1, u2⟩ := hu i (by omega)
    have hli := hl i
    unfold lenR at v1 v2
    rw [u1, f7 22 _ (by omega)] at e8
    have b8 : BI M8 := by rw [e8]; exact BI.up4 b7 (by omega) (by omega)
    have e22 : M8 22 (2 * i + 1) = M3 22 (2 * i + 1) := by rw [e8, zup_n _ _ (by omega)]; exact f7 22 _ (by omega)
    rw [e22] at e9
    refine k _ _ ⟨by rw [e9]; exact BI.up b8 (rfl : zcd wR 6 = 56) rfl (by omega) (by omega) (by decide), fun j9 k9 h9 => by rw [e9, zup_n _ _ (by omega), e8, zup_n _ _ (by omega)]; exact f7 j9 k9 h9, i + 1, by omega, by omega, fun r hr => ?_, fun r hr => ?_⟩ (by omega)
    · have := hu r (by omega)
      rw [e9, zup_n _ _ (by omega), zup_n _ _ (by omega), e8, zup_n _ _ (by omega), zup_n _ _ (by omega)]
      exact this
    · rw [e9]
      by_cases c5 : r = i
      · subst c5
        rw [zup_s, zup_n _ _ (by omega), e8, zup_s]
        exact ⟨rfl, rfl⟩
      · rw [zup_n _ _ (by omega), zup_n _ _ (by omega), e8, zup_n _ _ (by omega), zup_n _ _ (by omega)]
        exact hd r (by omega)
theorem fR_plan {M : zM} (hB : BI M) {Q : Int → zM → Prop} (hQ : ∀ (z : Int) (M1 : zM), BI M1 ∧ (∀ j9 k9 : Nat, ¬ (j9 = 0 ∧ k9 = 35 ∨ j9 = 0 ∧ k9 = 34 ∨ j9 = 22 ∨ j9 = 28 ∨ j9 = 29) → M1 j9 k9 = M j9 k9) ∧ (∃ pl : Nat → Int, plnP 268435456 (M 0 10).toNat (M 0 16).toNat (lenR M) (tvR M) (csR M) z pl) → Q z M1) : wR_plan M Q := by
  unfold wR_plan
  intro M1 e1
  have hB1 : BI M1 := by rw [e1]; exact BI.up0 hB (rfl : cbt 50 35 = (-2147483648, 2147483647)) (by omega) (by omega) (by decide)
  have F1 : ∀ j9 k9 : Nat, ¬ (j9 = 0 ∧ k9 = 35) → M1 j9 k9 = M j9 k9 := fun j9 k9 h9 => by rw [e1]; exact zup_n _ _ (by omega)
  have el : lenR M1 = lenR M := funext fun k => by unfold lenR; rw [F1 4 k (by omega)]
  have et : tvR M1 = tvR M := funext fun r => funext fun c => funext fun s => tvR_cg (fun p q h1 h2 => F1 p q (by omega))
  have ec : csR M1 = csR M := funext fun k => by unfold csR; rw [F1 6 k (by omega)]
  refine fR_findPlan hB1 (fun z M3 h3 => ?_)
  obtain ⟨b3, f3, p3⟩ := h3
  rw [F1 0 10 (by omega), F1 0 16 (by omega), el, et, ec] at p3
  exact hQ _ _ ⟨b3, fun j9 k9 h9 => (f3 j9 k9 (by omega)).trans (F1 j9 k9 (by omega)), _, p3⟩
/-- the marks, alike -/
def iMk (MC MR : zM) : Prop := MC 60 2 = MR 0 16 ∧ ∀ k : Nat, (k : Int) < MC 60 2 → MC 61 k = MR 12 k ∧ MC 62 k = MR 13 k
theorem tv_det {MC MR : zM} (hC : BN wC MC) (hR : iRi MC MR) (hM : iMo (MC 35) (MC 36) (MC 37) (MC 38) (MC 39) (MC 40) (MR 9) (MR 10) (MR 11)) (hK : iMk MC MR) {r c s : Nat} (hr : (r : Int) < MC 32 2) (hc : c < lenC MC r) : tvC MC r c s = tvR MR r c s := by
  obtain ⟨n, a1, a2, a3, a4, a5, a6, a7, a8, a9, a10, a11⟩ := hR.2.2 r hr
  have r4 : r < 4 := by have := hR.2.1; omega
  obtain ⟨g1, g2, -⟩ := rg_cd r r4
  have bm : 0 ≤ MC (41 + 4 * r) 1 ∧ MC (41 + 4 * r) 1 ≤ 1 := BN.at hC g2 rfl
  have bj : 0 ≤ MC (jmo (MC (41 + 4 * r) 1)) 2 ∧ MC (jmo (MC (41 + 4 * r) 1)) 2 ≤ 12 := BN.at hC (jmo_cd _).2 rfl
  have bc : 0 ≤ MC 60 2 ∧ MC 60 2 ≤ 6 := BN.at hC (rfl : zcd wC 60 = 19) rfl
  have hmo := mo_of hM rfl rfl rfl rfl rfl rfl (m := MC (41 + 4 * r) 1) bm
  unfold lenC at hc
  unfold tvC tvR
  rw [← hK.1, a4, a3, ← a8]
  rw [a5] at hmo bj ⊢
  exact trV_cg (by omega) (fun k hk => a10 k (by omega)) (fun t => wbF_cg bj.1 hmo t _) (fun m hm => hK.2 m (by omega))
theorem pl_alike {MC MR : zM} {z z9 : Int} {pl pl9 : Nat → Int} (hC : BN wC MC) (hR : iRi MC MR) (hM : iMo (MC 35) (MC 36) (MC 37) (MC 38) (MC 39) (MC 40) (MR 9) (MR 10) (MR 11)) (hK : iMk MC MR) (p : plnP 1000000 (MC 32 2).toNat (MC 60 2).toNat (lenC MC) (tvC MC) (csC MC) z pl) (q : plnP 268435456 (MR 0 10).toNat (MR 0 16).toNat (lenR MR) (tvR MR) (csR MR) z9 pl9) : z = z9 ∧ (z ≠ -1 → ∀ k : Nat, k < (MC 32 2).toNat → ∃ c s : Nat, vld (lenC MC k) c s ∧ pl (2 * k) = (c : Int) ∧ pl (2 * k + 1) = (s : Int) ∧ pl9 (2 * k) = (c : Int) ∧ pl9 (2 * k + 1) = (s : Int)) := by
  have bn : 0 ≤ MC 32 2 ∧ MC 32 2 ≤ 4 := BN.at hC (rfl : zcd wC 32 = 8) rfl
  have bc : 0 ≤ MC 60 2 ∧ MC 60 2 ≤ 6 := BN.at hC (rfl : zcd wC 60 = 19) rfl
  have el : ∀ k : Nat, k < (MC 32 2).toNat → lenR MR k = lenC MC k := fun k hk => by
    obtain ⟨n, a1, a2, a3, a4, -⟩ := hR.2.2 k (by omega)
    unfold lenR lenC
    rw [a3, a4]
  have q2 : plnP 268435456 (MC 32 2).toNat (MC 60 2).toNat (lenC MC) (tvR MR) (csR MR) z9 pl9 := by
    rw [← hR.1, ← hK.1] at q
    obtain ⟨V, ⟨v1, v2⟩, v3⟩ := q
    refine ⟨V, ⟨v1, fun k hk w hw => by rw [← el k hk]; exact v2 k hk w hw⟩, ?_⟩
    rcases v3 with v3 | ⟨w1, w2, W, w3, w4⟩
    · exact Or.inl v3
    · exact Or.inr ⟨w1, w2, W, w3, fun k hk => by rw [← el k hk]; exact w4 k hk⟩
  refine pln_det (by omega) (by omega) (fun k hk c s v => tv_det hC hR hM hK (by omega) v.1) (fun k hk c s v => ?_) p q2
  obtain ⟨n, a1, a2, a3, a4, a5, a6, a7, -⟩ := hR.2.2 k (by omega)
  have v1 := v.1
  have v2 := v.2
  unfold lenC at v1 v2
  have cb := cstI_b (st := MR 6 k) (c := c) (s := s) (by omega) (by omega) (by omega)
  unfold csC csR
  rw [a6]
  exact ⟨rfl, cb⟩
theorem ri_make {MC MR M8 M9 : zM} {z z9 : Int} (hC : BN wC MC) (hR : iRi MC MR) (hM : iMo (MC 35) (MC 36) (MC 37) (MC 38) (MC 39) (MC 40) (MR 9) (MR 10) (MR 11)) (hK : iMk MC MR) (f8 : ∀ j9 : Nat, ¬ (63 ≤ j9 ∧ j9 ≤ 77 ∨ 41 ≤ j9 ∧ j9 ≤ 56) → M8 j9 = MC j9) (p : ∃ pl : Nat → Int, plnP 1000000 (MC 32 2).toNat (MC 60 2).toNat (lenC MC) (tvC MC) (csC MC) z pl ∧ (z = -1 → ∀ j9 : Nat, 41 ≤ j9 ∧ j9 ≤ 56 → M8 j9 = MC j9) ∧ (z ≠ -1 → ∀ r : Nat, r < (MC 32 2).toNat → cutd MC M8 r (lenC MC r) (pl (2 * r)).toNat (pl (2 * r + 1)).toNat)) (f9 : ∀ j9 k9 : Nat, ¬ (j9 = 0 ∧ k9 = 35 ∨ j9 = 0 ∧ k9 = 34 ∨ j9 = 4 ∨ j9 = 6 ∨ j9 = 22 ∨ j9 = 28 ∨ j9 = 29) → M9 j9 k9 = MR j9 k9) (q : ∃ pl : Nat → Int, plnP 268435456 (MR 0 10).toNat (MR 0 16).toNat (lenR MR) (tvR MR) (csR MR) z9 pl ∧ (z9 = -1 → M9 4 = MR 4 ∧ M9 6 = MR 6) ∧ (z9 ≠ -1 → ∀ r : Nat, r < (MR 0 10).toNat → M9 4 r = MR 4 r - pl (2 * r) ∧ M9 6 r = pl (2 * r + 1))) : z = z9 ∧ iRi M8 M9 := by
  obtain ⟨pl, p1, p2, p3⟩ := p
  obtain ⟨pl9, q1, q2, q3⟩ := q
  obtain ⟨e, al⟩ := pl_alike hC hR hM hK p1 q1
  refine ⟨e, ?_⟩
  by_cases hz : z = -1
  · obtain ⟨q4, q6⟩ := q2 (by omega)
    exact iRi_kept hR (p2 hz) (congrFun (f8 32 (by omega)) 2) (f9 0 10 (by omega)) (funext fun k => f9 3 k (by omega)) q4 (funext fun k => f9 5 k (by omega)) q6 (funext fun k => f9 7 k (by omega)) (funext fun k => f9 8 k (by omega))
  · obtain ⟨h1, h2, h3⟩ := hR
    have e32 : M8 32 2 = MC 32 2 := congrFun (f8 32 (by omega)) 2
    refine ⟨by rw [e32, f9 0 10 (by omega)]; exact h1, by rw [e32]; exact h2, fun r hr => ?_⟩
    rw [e32] at hr
    obtain ⟨n, a1, a2, a3, a4, a5, a6, a7, a8, a9, a10, a11⟩ := h3 r hr
    obtain ⟨c, s, v, x1, x2, y1, y2⟩ := al hz r (by omega)
    have d := p3 hz r (by omega)
    have g := q3 (by omega) r (by omega)
    have t1 : (pl (2 * r)).toNat = c := by omega
    have t2 : (pl (2 * r + 1)).toNat = s := by omega
    have en : lenC MC r = n := by unfold lenC; omega
    rw [t1, t2, en] at d
    rw [en] at v
    obtain ⟨v1, v2⟩ := v
    obtain ⟨d1, d2, d3, d4, d5, d6, d7⟩ := d
    refine ⟨n - c, by omega, by omega, d5, by omega, by rw [d1, f9 5 r (by omega)]; exact a5, by omega, by omega, by rw [d3, f9 7 r (by omega)]; exact a8, by rw [d4, f9 8 r (by omega)]; exact a9, fun k hk => by rw [d6, f9 3 _ (by omega)]; exact a10 k (by omega), fun a ha => by rw [d3, d6]; exact d7 a ha⟩
