section zz47za_dies
/-! echoes: dies -/
theorem fC_outAt {M : zM} {a0 : Int} (h : 0 ≤ a0 ∧ a0 ≤ 4000) (hO : 0 ≤ M 81 a0.toNat ∧ M 81 a0.toNat ≤ 5000) {Q : Int → Prop} (hQ : Q (M 81 a0.toNat)) : wC_Echo_outAt a0 M Q := by
  unfold wC_Echo_outAt
  rw [sIo (z := a0) (by omega) (by omega)]
  refine ⟨fun c => absurd c (by omega), fun _ => ⟨fun c => absurd c (by omega), fun _ => ⟨by omega, ?_⟩⟩⟩
  rw [sIo (z := M 81 a0.toNat) (by omega) (by omega)]
  exact hQ
theorem fC_firstSilence {M : zM} (hO : ∀ i : Nat, i < 4001 → 0 ≤ M 81 i ∧ M 81 i ≤ 5000) (hs : 0 ≤ M 78 0 ∧ M 78 0 ≤ 2000) {Q : Int → Prop} (hQ : Q (fsF (M 81) (4001 - (M 78 0).toNat) 0 (M 78 0).toNat)) : wC_Echo_firstSilence M Q := by
  unfold wC_Echo_firstSilence
  refine pL2_of (fun s y => ∃ t : Nat, y = (t : Int) ∧ t ≤ 4001 ∧ 0 ≤ s ∧ s ≤ (t : Int) ∧ fsF (M 81) (4001 - t) s t = fsF (M 81) (4001 - (M 78 0).toNat) 0 (M 78 0).toNat) (fun _ y => (10000 - y).toNat) ⟨(M 78 0).toNat, by omega, by omega, by omega, by omega, rfl⟩ (fun K s y h k => ?_)
  obtain ⟨t, rfl, ht, s0, s1, he⟩ := h
  have st : sI (t : Int) = t := sIo (by omega) (by omega)
  rw [st]
  refine ⟨fun c => ?_, fun c => ?_⟩
  · rw [show 4001 - t = 0 by omega] at he
    rw [← he] at hQ
    exact hQ
  · refine fC_outAt (by omega) (by rw [show ((t : Int)).toNat = t by omega]; exact hO t (by omega)) ?_
    rw [show ((t : Int)).toNat = t by omega]
    have eu : fsF (M 81) (4001 - t) s t = if (if M 81 t = 0 then s + 1 else 0) = 20 then (t : Int) - 19 else fsF (M 81) (4001 - (t + 1)) (if M 81 t = 0 then s + 1 else 0) (t + 1) := by
      rw [show 4001 - t = (4001 - (t + 1)) + 1 by omega]
      rfl
    refine pJ1_of (fun w => w = if M 81 t = 0 then s + 1 else 0) (fun w hw => ?_) ⟨fun c2 => by rw [if_neg c2], fun c2 => by rw [if_pos c2]⟩
    have bw : 0 ≤ w ∧ w ≤ (t : Int) + 1 := by rw [hw]; split <;> omega
    rw [← hw] at eu
    rw [sIo (z := w) (by omega) (by omega)]
    refine ⟨fun c2 => k _ _ ⟨t + 1, by omega, by omega, by omega, by omega, ?_⟩ (ms_lt (by omega) rfl), fun c2 => ?_⟩
    · rw [← he, eu, if_neg c2]
    · rw [← he, eu, if_pos c2] at hQ
      rw [show (t : Int) - 20 + 1 = (t : Int) - 19 by omega, sIo (z := (t : Int) - 19) (by omega) (by omega)]
      exact hQ
theorem fC_alike {M : zM} {a1 : Int} {u : Nat} (hO : ∀ i : Nat, i < 4001 → 0 ≤ M 81 i ∧ M 81 i ≤ 5000) (hu : u ≤ 3981) (ha : a1 = 3981 - (u : Int)) {Q : Int → Prop} (hQ : Q (if (∀ i : Nat, i < 20 → M 81 (3981 + i) = M 81 (3981 - u + i)) then 1 else 0)) : wC_Echo_alike 3981 a1 M Q := by
  unfold wC_Echo_alike
  refine pL1_of (fun x => ∃ i : Nat, x = (i : Int) ∧ i ≤ 20 ∧ ∀ j : Nat, j < i → M 81 (3981 + j) = M 81 (3981 - u + j)) (fun x => (1000 - x).toNat) ⟨0, rfl, by omega, fun j h => absurd h (Nat.not_lt_zero j)⟩ (fun K x h k => ?_)
  obtain ⟨i, rfl, hi, hv⟩ := h
  have si : sI (i : Int) = i := sIo (by omega) (by omega)
  have t1 : (3981 + (i : Int)).toNat = 3981 + i := by omega
  have t2 : (a1 + (i : Int)).toNat = 3981 - u + i := by omega
  rw [si]
  refine ⟨fun c => ?_, fun c => ?_⟩
  · rw [if_pos (fun j hj => hv j (by omega))] at hQ
    exact hQ
  · refine fC_outAt (by omega) (by rw [t1]; exact hO _ (by omega)) ?_
    refine fC_outAt (by omega) (by rw [t2]; exact hO _ (by omega)) ?_
    rw [t1, t2]
    refine ⟨fun c2 => k _ ⟨i + 1, by omega, by omega, fun j hj => ?_⟩ (by omega), fun c2 => ?_⟩
    · by_cases c3 : j = i
      · rw [c3]
        exact c2
      · exact hv j (by omega)
    · rw [if_neg (fun x => c2 (x i (by omega)))] at hQ
      exact hQ
theorem fC_comesBackIn {M : zM} (hO : ∀ i : Nat, i < 4001 → 0 ≤ M 81 i ∧ M 81 i ≤ 5000) (hs : 0 ≤ M 78 0 ∧ M 78 0 ≤ 2000) {Q : Int → Prop} (hQ : ∀ z : Int, z = cbF (M 81) (3981 - (M 78 0).toNat) 1 → (-1 ≤ z ∧ z ≤ 3981 - M 78 0 ∧ (z ≠ -1 → 1 ≤ z)) → Q z) : wC_Echo_comesBackIn M Q := by
  unfold wC_Echo_comesBackIn
  have s0 : sI (M 78 0) = M 78 0 := sIo (by omega) (by omega)
  rw [s0]
  refine pL1_of (fun x => ∃ u : Nat, x = (u : Int) ∧ 1 ≤ u ∧ (u : Int) ≤ 3982 - M 78 0 ∧ cbF (M 81) (3982 - (M 78 0).toNat - u) u = cbF (M 81) (3981 - (M 78 0).toNat) 1) (fun x => (10000 - x).toNat) ⟨1, rfl, by omega, by omega, by rw [show 3982 - (M 78 0).toNat - 1 = 3981 - (M 78 0).toNat by omega]⟩ (fun K x h k => ?_)
  obtain ⟨u, rfl, h1, h2, he⟩ := h
  rw [sIo (z := 3981 - (u : Int)) (by omega) (by omega), sIo (z := (u : Int)) (by omega) (by omega)]
  refine ⟨fun c => hQ _ ?_ (by omega), fun c => ?_⟩
  · rw [← he, show 3982 - (M 78 0).toNat - u = 0 by omega]
    rfl
  · have eu : cbF (M 81) (3982 - (M 78 0).toNat - u) u = if (∀ i : Nat, i < 20 → M 81 (3981 + i) = M 81 (3981 - u + i)) then (u : Int) else cbF (M 81) (3982 - (M 78 0).toNat - (u + 1)) (u + 1) := by
      rw [show 3982 - (M 78 0).toNat - u = (3982 - (M 78 0).toNat - (u + 1)) + 1 by omega]
      rfl
    refine fC_alike (u := u) hO (by omega) rfl ?_
    by_cases d : ∀ i : Nat, i < 20 → M 81 (3981 + i) = M 81 (3981 - u + i)
    · rw [if_pos d] at eu ⊢
      exact ⟨fun c2 => absurd c2 (by decide), fun _ => hQ _ (by rw [← he, eu]) (by omega)⟩
    · rw [if_neg d] at eu ⊢
      exact ⟨fun _ => k _ ⟨u + 1, by omega, by omega, by omega, by rw [← he, eu]⟩ (ms_lt (by omega) rfl), fun c2 => absurd rfl c2⟩
set_option maxHeartbeats 2000000 in
theorem fC_dies {M : zM} (hB : BN wC M) (hu : ∀ r : Nat, (r : Int) < M 32 2 → uok M r) (hW : ∀ k : Nat, 1 ≤ k → k < 10 → 0 ≤ M 80 k ∧ M 80 k ≤ 200) (h3 : 1 ≤ M 78 3 ∧ M 78 3 ≤ 20) (h4 : 0 ≤ M 78 4 ∧ M 78 4 ≤ 100) (h5 : 1 ≤ M 78 5 ∧ M 78 5 ≤ 20) (h6 : 0 ≤ M 78 6 ∧ M 78 6 ≤ 100) {Q : Int → zM → Prop} (hQ : ∀ (z : Int) (M1 : zM), BN wC M1 ∧ (∀ j9 : Nat, ¬ (j9 = 79 ∨ j9 = 81 ∨ j9 = 0 ∨ j9 = 133) → M1 j9 = M j9) ∧ (∃ O I : Nat → Int, okO O I 4001 (M 78 3) (M 78 4) (M 78 5) (M 78 6) ∧ (∀ t : Nat, t < 4001 → inC M t (I t)) ∧ z = diF O (M 78 0).toNat) → Q z M1) : wC_dies M Q := by
  unfold wC_dies wC_Echo_fate
  have b0 : 0 ≤ M 78 0 ∧ M 78 0 ≤ 2000 := BN.at hB (rfl : zcd wC 78 = 30) rfl
  refine fC_run (n := 4000) hB hu hW h3 h4 h5 h6 rfl (by omega) (fun M1 h1 => ?_)
  obtain ⟨b1, f1, I, i1, i2⟩ := h1
  have e78 : M1 78 0 = M 78 0 := by rw [f1 78 (by omega)]
  have hO : ∀ i : Nat, i < 4001 → 0 ≤ M1 81 i ∧ M1 81 i ≤ 5000 := fun i hi => (i1 i hi).2
  have fin : ∀ (z : Int) (M5 : zM), BN wC M5 → (∀ j9 : Nat, ¬ (j9 = 79 ∨ j9 = 81) → M5 j9 = M j9) → z = diF (M1 81) (M 78 0).toNat → ((z ≠ -2 → Q z M5) ∧ (z = -2 → wC_tell 79 2 M5 (fun M6 => Q z M6))) := fun z M5 b5 f5 hz => by
    refine ⟨fun _ => hQ _ _ ⟨b5, fun j9 h9 => f5 j9 (by omega), M1 81, I, i1, i2, hz⟩, fun _ => ?_⟩
    refine sC_tell b5 (by decide) (rfl : zcd wC 79 = 31) (by omega) (by decide) (fun M6 h6 => ?_)
    obtain ⟨b6, f6, -⟩ := h6
    exact hQ _ _ ⟨b6, fun j9 h9 => (f6 j9 (by omega)).trans (f5 j9 (by omega)), M1 81, I, i1, i2, hz⟩
  have fin1 : ∀ z : Int, z = diF (M1 81) (M 78 0).toNat → ((z ≠ -2 → Q z M1) ∧ (z = -2 → wC_tell 79 2 M1 (fun M6 => Q z M6))) := fun z hz => fin z M1 b1 (fun j9 h9 => f1 j9 (by omega)) hz
  refine fC_firstSilence hO (by rw [e78]; exact b0) ?_
  rw [e78]
  obtain ⟨s, hs⟩ : ∃ s : Nat, (M 78 0).toNat = s := ⟨_, rfl⟩
  unfold diF at fin1 fin
  rw [hs] at fin1 fin ⊢
  refine ⟨fun c => ?_, fun c => fin1 _ (by rw [if_neg c])⟩
  rw [if_pos c] at fin1 fin
  refine fC_comesBackIn hO (by rw [e78]; exact b0) (fun z hz bz => ?_)
  rw [e78, hs] at hz
  rw [e78] at bz
  refine ⟨fun c2 => ?_, fun c2 => fin1 _ (by rw [← hz, if_pos c2])⟩
  rw [← hz, if_neg c2] at fin
  have f79 : ∀ (x y : Int), -2147483648 ≤ x ∧ x ≤ 2147483647 → -2147483648 ≤ y ∧ y ≤ 2147483647 → ∀ M34 : zM, M34 = zup M1 79 0 x → ∀ M36 : zM, M36 = zup M34 79 1 y → ((-2 : Int) ≠ -2 → Q (-2) M36) ∧ ((-2 : Int) = -2 → wC_tell 79 2 M36 (fun M6 => Q (-2) M6)) := fun x y hx hy M34 e34 M36 e36 => by
    refine fin (-2) M36 ?_ (fun j9 h9 => ?_) rfl
    · rw [e36, e34]
      exact BN.up (BN.up b1 (rfl : zcd wC 79 = 31) rfl hx.1 hx.2) (rfl : zcd wC 79 = 31) rfl hy.1 hy.2
    · rw [e36, zup_row _ _ (by omega), e34, zup_row _ _ (by omega)]
      exact f1 j9 (by omega)
  refine pL1_of (fun x => M 78 0 ≤ x ∧ x ≤ 4000 - z) (fun x => (x + 1).toNat) ⟨by omega, by omega⟩ (fun K x h k => ?_)
  rw [sIo (z := x) (by omega) (by omega), sIo (z := M 78 0) (by omega) (by omega)]
  refine pJ0_of True (fun _ => f79 x z (by omega) (by omega)) ⟨fun _ => trivial, fun c3 => ?_⟩
  refine fC_outAt (by omega) (hO _ (by omega)) ?_
  refine fC_outAt (by omega) (hO _ (by omega)) ?_
  exact ⟨fun _ => trivial, fun _ => k _ (by omega) (by omega)⟩
end zz47za_dies
section zz47zb_rdies
/-! echoes: dies, the model's -/
theorem fR_areAlike {M : zM} {a0 : Int} {u : Nat} (hO : ∀ i : Nat, i < 4001 → 0 ≤ M 30 i ∧ M 30 i ≤ 5000) (hu : u ≤ 3981) (ha : a0 = 3981 - (u : Int)) {Q : Int → Prop} (hQ : Q (if (∀ i : Nat, i < 20 → M 30 (3981 + i) = M 30 (3981 - u + i)) then 1 else 0)) : wR_areAlike a0 3981 M Q := by
  unfold wR_areAlike
  refine pL1_of (fun x => ∃ i : Nat, x = (i : Int) ∧ i ≤ 20 ∧ ∀ j : Nat, j < i → M 30 (3981 + j) = M 30 (3981 - u + j)) (fun x => (1000 - x).toNat) ⟨0, rfl, by omega, fun j h => absurd h (Nat.not_lt_zero j)⟩ (fun K x h k => ?_)
  obtain ⟨i, rfl, hi, hv⟩ := h
  have si : sI (i : Int) = i := sIo (by omega) (by omega)
  rw [si]
  refine ⟨fun c => ?_, fun c => ?_⟩
  · rw [if_pos (fun j hj => hv j (by omega))] at hQ
    exact hQ
  · have t1 : (3981 + (i : Int)).toNat = 3981 + i := by omega
    have t2 : (a0 + (i : Int)).toNat = 3981 - u + i := by omega
    have o1 := hO (3981 + i) (by omega)
    have o2 := hO (3981 - u + i) (by omega)
    rw [sIo (z := a0 + (i : Int)) (by omega) (by omega), sIo (z := 3981 + (i : Int)) (by omega) (by omega), t1, t2, sIo (z := M 30 (3981 + i)) (by omega) (by omega), sIo (z := M 30 (3981 - u + i)) (by omega) (by omega)]
    refine ⟨by omega, by omega, fun c2 => k _ ⟨i + 1, by omega, by omega, fun j hj => ?_⟩ (by omega), fun c2 => ?_⟩
    · by_cases c3 : j = i
      · rw [c3]
        exact c2.symm
      · exact hv j (by omega)
    · rw [if_neg (fun x => c2 (x i (by omega)).symm)] at hQ
      exact hQ
set_option maxHeartbeats 4000000 in
theorem fR_dies {M : zM} (hB : BI M) (hW : ∀ k : Nat, 1 ≤ k → k < 10 → 0 ≤ M 14 k ∧ M 14 k ≤ 200) (h3 : 1 ≤ M 0 18 ∧ M 0 18 ≤ 20) (h4 : 0 ≤ M 0 19 ∧ M 0 19 ≤ 100) (h5 : 1 ≤ M 0 20 ∧ M 0 20 ≤ 20) (h6 : 0 ≤ M 0 21 ∧ M 0 21 ≤ 100) {Q : Int → zM → Prop} (hQ : ∀ (z : Int) (M1 : zM), BI M1 ∧ (∀ j9 k9 : Nat, ¬ (j9 = 0 ∧ k9 = 35 ∨ j9 = 0 ∧ k9 = 34 ∨ j9 = 22 ∨ j9 = 30) → M1 j9 k9 = M j9 k9) ∧ (∃ O I : Nat → Int, okO O I 4001 (M 0 18) (M 0 19) (M 0 20) (M 0 21) ∧ (∀ t : Nat, t < 4001 → inR M t (I t)) ∧ z = diF O (M 0 22).toNat) → Q z M1) : wR_dies M Q := by
  unfold wR_dies
  intro M1 e1
  have hB1 : BI M1 := by rw [e1]; exact BI.up0 hB (rfl : cbt 50 35 = (-2147483648, 2147483647)) (by omega) (by omega) (by decide)
  have F1 : ∀ j9 k9 : Nat, ¬ (j9 = 0 ∧ k9 = 35) → M1 j9 k9 = M j9 k9 := fun j9 k9 h9 => by rw [e1]; exact zup_n _ _ (by omega)
  have b0 : 0 ≤ M 0 22 ∧ M 0 22 ≤ 2000 := BN.at hB.1 (rfl : zcd wR 0 = 50) rfl
  have ir : ∀ (t : Nat) (y : Int), inR M1 t y → inR M t y := fun t y h => by
    rcases h with ⟨x1, x, x2, x3⟩ | ⟨x1, x2⟩
    · rw [F1 0 22 (by omega)] at x1
      rw [show M1 14 = M 14 from funext fun q => F1 14 q (by omega)] at x3
      exact Or.inl ⟨x1, x, haR_cg (fun p q h1 h2 => F1 p q (by omega)) (F1 0 10 (by omega)) x2, x3⟩
    · rw [F1 0 22 (by omega)] at x1
      exact Or.inr ⟨x1, x2⟩
  refine fR_findOuts (n := 4000) hB1 (by rw [show M1 14 = M 14 from funext fun q => F1 14 q (by omega)]; exact hW) (by rw [F1 0 18 (by omega)]; exact h3) (by rw [F1 0 19 (by omega)]; exact h4) (by rw [F1 0 20 (by omega)]; exact h5) (by rw [F1 0 21 (by omega)]; exact h6) rfl (by omega) (fun M3 h8 => ?_)
  obtain ⟨b3, f3, I, i1, i2⟩ := h8
  rw [F1 0 18 (by omega), F1 0 19 (by omega), F1 0 20 (by omega), F1 0 21 (by omega)] at i1
  have hO : ∀ i : Nat, i < 4001 → 0 ≤ M3 30 i ∧ M3 30 i ≤ 5000 := fun i hi => (i1 i hi).2
  have e22 : M3 0 22 = M 0 22 := (f3 0 22 (by omega)).trans (F1 0 22 (by omega))
  have f3' : ∀ j9 k9 : Nat, ¬ (j9 = 0 ∧ k9 = 35 ∨ j9 = 30) → M3 j9 k9 = M j9 k9 := fun j9 k9 h9 => (f3 j9 k9 (by omega)).trans (F1 j9 k9 (by omega))
  have fin : ∀ (z : Int) (M5 : zM), BI M5 → (∀ j9 k9 : Nat, ¬ (j9 = 0 ∧ k9 = 35 ∨ j9 = 0 ∧ k9 = 34 ∨ j9 = 22 ∨ j9 = 30) → M5 j9 k9 = M j9 k9) → z = diF (M3 30) (M 0 22).toNat → Q z M5 := fun z M5 b5 f5 hz => hQ _ _ ⟨b5, f5, M3 30, I, i1, fun t ht => ir t _ (i2 t ht), hz⟩
  have s22 : sI (M 0 22) = M 0 22 := sIo (by omega) (by omega)
  obtain ⟨s, hs⟩ : ∃ s : Nat, (M 0 22).toNat = s := ⟨_, rfl⟩
  have es : M 0 22 = (s : Int) := by omega
  rw [hs] at fin
  unfold diF at fin
  rw [e22, s22, es]
  refine pL2_of (fun w y => ∃ t : Nat, y = (t : Int) ∧ t ≤ 4001 ∧ 0 ≤ w ∧ w ≤ (t : Int) ∧ fsF (M3 30) (4001 - t) w t = fsF (M3 30) (4001 - s) 0 s) (fun _ y => (10000 - y).toNat) ⟨s, rfl, by omega, by omega, by omega, rfl⟩ (fun K w y h k => ?_)
  obtain ⟨t, rfl, ht, w0, w1, he⟩ := h
  have st : sI (t : Int) = t := sIo (by omega) (by omega)
  have tt : ((t : Int)).toNat = t := by omega
  rw [st, tt]
  refine ⟨fun c => ?_, fun c => ⟨by omega, ?_⟩⟩
  rotate_left
  · have eu : fsF (M3 30) (4001 - t) w t = if (if M3 30 t = 0 then w + 1 else 0) = 20 then (t : Int) - 19 else fsF (M3 30) (4001 - (t + 1)) (if M3 30 t = 0 then w + 1 else 0) (t + 1) := by
      rw [show 4001 - t = (4001 - (t + 1)) + 1 by omega]
      rfl
    have ot := hO t (by omega)
    rw [sIo (z := M3 30 t) (by omega) (by omega)]
    refine pJ1_of (fun x => x = if M3 30 t = 0 then w + 1 else 0) (fun x hx => ?_) ⟨fun c2 => by rw [if_neg c2], fun c2 => by rw [if_pos c2]⟩
    have bw : 0 ≤ x ∧ x ≤ (t : Int) + 1 := by rw [hx]; split <;> omega
    rw [← hx] at eu
    rw [sIo (z := x) (by omega) (by omega)]
    refine ⟨fun c2 => k _ _ ⟨t + 1, by omega, by omega, by omega, by omega, ?_⟩ (ms_lt (by omega) rfl), fun c2 => ?_⟩
    · rw [← he, eu, if_neg c2]
    · rw [if_pos c2] at eu
      rw [show (t : Int) - 20 + 1 = (t : Int) - 19 by omega, sIo (z := (t : Int) - 19) (by omega) (by omega)]
      refine fin _ _ b3 (fun j9 k9 h9 => f3' j9 k9 (by omega)) ?_
      have x9 : x = 20 → (19 : Int) ≤ (t : Int) := fun _ => by omega
      rw [← he, eu, if_neg (by have := x9 c2; omega)]
  · have e1 : fsF (M3 30) (4001 - s) 0 s = -1 := by
      rw [← he, show 4001 - t = 0 by omega]
      rfl
    rw [if_pos e1] at fin
    refine pL1_of (fun x => ∃ u : Nat, x = 3981 - (u : Int) ∧ 1 ≤ u ∧ u ≤ 3982 - s ∧ cbF (M3 30) (3982 - s - u) u = cbF (M3 30) (3981 - s) 1) (fun x => (x + 10).toNat) ⟨1, rfl, by omega, by omega, by rw [show 3982 - s - 1 = 3981 - s by omega]⟩ (fun K2 x h2 k2 => ?_)
    obtain ⟨u, rfl, u1, u2, hu⟩ := h2
    rw [sIo (z := 3981 - (u : Int)) (by omega) (by omega)]
    refine pJ0_of ((u = 3982 - s ∧ cbF (M3 30) (3981 - s) 1 = -1) ∨ (u < 3982 - s ∧ cbF (M3 30) (3981 - s) 1 ≠ -1)) (fun hj => ⟨fun c2 => ?_, fun c2 => ?_⟩) ⟨fun c2 => Or.inl ⟨by omega, ?_⟩, fun c2 => ?_⟩
    · rcases hj with hj | hj
      · omega
      rw [if_neg hj.2] at fin
      refine pL1_of (fun x => (s : Int) ≤ x ∧ x ≤ 3981 - (u : Int)) (fun x => (x + 1).toNat) ⟨by omega, by omega⟩ (fun K4 x h4' k4 => ?_)
      rw [sIo (z := x) (by omega) (by omega)]
      refine pJ0_of True (fun _ M49 e49 M51 e51 M53 e53 => ?_) ⟨fun _ => trivial, fun c3 => ?_⟩
      · refine fin (-2) M53 ?_ (fun j9 k9 h9 => ?_) rfl
        · rw [e53, e51, e49]
          exact BI.up0 (BI.up (BI.up b3 (rfl : zcd wR 22 = 72) rfl (by omega) (by omega) (by decide)) (rfl : zcd wR 22 = 72) rfl (by omega) (by omega) (by decide)) (rfl : cbt 50 34 = (-1, 64)) (by omega) (by omega) (by decide)
        · rw [e53, zup_n _ _ (by omega), e51, zup_n _ _ (by omega), e49, zup_n _ _ (by omega)]
          exact f3' j9 k9 (by omega)
      · rw [sIo (z := x - 1) (by omega) (by omega), sIo (z := x - 1 + (3981 - (3981 - (u : Int)))) (by omega) (by omega)]
        exact ⟨by omega, by omega, fun _ => trivial, fun _ => k4 _ (by omega) (by omega)⟩
    · rcases hj with hj | hj
      · rw [if_pos hj.2] at fin
        exact fin _ _ b3 (fun j9 k9 h9 => f3' j9 k9 (by omega)) rfl
      · omega
    · rw [← hu, show 3982 - s - u = 0 by omega]
      rfl
    · have eu : cbF (M3 30) (3982 - s - u) u = if (∀ i : Nat, i < 20 → M3 30 (3981 + i) = M3 30 (3981 - u + i)) then (u : Int) else cbF (M3 30) (3982 - s - (u + 1)) (u + 1) := by
        rw [show 3982 - s - u = (3982 - s - (u + 1)) + 1 by omega]
        rfl
      refine fR_areAlike (u := u) hO (by omega) rfl ?_
      by_cases d : ∀ i : Nat, i < 20 → M3 30 (3981 + i) = M3 30 (3981 - u + i)
      · rw [if_pos d] at eu ⊢
        exact ⟨fun _ => Or.inr ⟨by omega, by rw [← hu, eu]; omega⟩, fun c3 => absurd c3 (by decide)⟩
      · rw [if_neg d] at eu ⊢
        exact ⟨fun c3 => absurd rfl c3, fun _ => k2 _ ⟨u + 1, by omega, by omega, by omega, by rw [← hu, eu]⟩ (by omega)⟩
theorem dies_det {MC MR : zM} {z z9 : Int} (hC : BN wC MC) (hR : iRi MC MR) (hM : iMo (MC 35) (MC 36) (MC 37) (MC 38) (MC 39) (MC 40) (MR 9) (MR 10) (MR 11)) (hE : iEc MC MR) (hW : iWe (MC 80) (MR 14)) (p : ∃ O I : Nat → Int, okO O I 4001 (MC 78 3) (MC 78 4) (MC 78 5) (MC 78 6) ∧ (∀ t : Nat, t < 4001 → inC MC t (I t)) ∧ z = diF O (MC 78 0).toNat) (q : ∃ O I : Nat → Int, okO O I 4001 (MR 0 18) (MR 0 19) (MR 0 20) (MR 0 21) ∧ (∀ t : Nat, t < 4001 → inR MR t (I t)) ∧ z9 = diF O (MR 0 22).toNat) : z = z9 := by
  obtain ⟨e0, e1, e2, e3, e4, e5, e6, e7, e8, e9⟩ := id hE
  obtain ⟨O, I, p1, p2, p3⟩ := p
  obtain ⟨O2, I2, q1, q2, q3⟩ := q
  have b0 : 0 ≤ MC 78 0 ∧ MC 78 0 ≤ 2000 := BN.at hC (rfl : zcd wC 78 = 30) rfl
  rw [← e1, ← e2, ← e3, ← e4] at q1
  rw [← e0] at q3
  have g := okO_det e5.1 e7.1 p1 q1 (fun t ht => in_det hC hR hM hE hW (p2 t ht) (q2 t ht))
  rw [p3, q3]
  unfold diF
  rw [fsF_cg (4001 - (MC 78 0).toNat) 0 (MC 78 0).toNat (fun i hi => g i (by omega)), cbF_cg g _ 1 (by omega)]
end zz47zb_rdies
