/-! the putting together of a strip: the class's machine -/
abbrev CSt : Type := Nat × Int × (Nat → SV) × (Nat → SV) × (Nat → Nat)
def uS (f : Nat → SV) (i : Nat) (x : SV) : Nat → SV := fun k => if k = i then x else f k
def uN (f : Nat → Nat) (i x : Nat) : Nat → Nat := fun k => if k = i then x else f k
theorem uS_s (f : Nat → SV) (i : Nat) (x : SV) : uS f i x i = x := if_pos rfl
theorem uS_n (f : Nat → SV) {i k : Nat} (x : SV) (h : k ≠ i) : uS f i x k = f k := if_neg h
theorem uN_s (f : Nat → Nat) (i x : Nat) : uN f i x i = x := if_pos rfl
theorem uN_n (f : Nat → Nat) {i k : Nat} (x : Nat) (h : k ≠ i) : uN f i x k = f k := if_neg h
def csM (M : zM) : CSt → Prop
  | (l, a, R, T, D) => M 1 2 = (l : Int) ∧ M 1 3 = a ∧ l ≤ 5 ∧ (∀ i : Nat, i < 6 → isS M (6 + 4 * i) (R i)) ∧ (∀ i : Nat, i < 6 → isS M (8 + 4 * i) (T i)) ∧ (∀ i : Nat, i < 6 → M 5 i = (D i : Int)) ∧ (∀ i : Nat, i ≤ l → D i ≤ (R i).1)
def layC : CSt → Option CSt
  | (l, a, R, T, D) => if (T l).1 = 0 then some (l, a, R, T, D) else if (T l).1 < D l then none else if 24 < (R l).1 + (T l).1 - D l then none else some (l, a, uS R l (layV (R l) (T l) (D l)), uS T l (0, (T l).2), uN D l 0)
def setT (b : Int) : CSt → CSt
  | (l, a, R, T, D) => (l, a, R, uS T l (1, fun _ => b), D)
def begC (s : CSt) (b : Int) : Option CSt := (layC s).map (setT b)
def opnC : CSt → CSt
  | (l, a, R, T, D) => if l < 5 then (l + 1, a, uS R (l + 1) (0, (R (l + 1)).2), uS T (l + 1) (0, (T (l + 1)).2), uN D (l + 1) 0) else (l, a, R, T, D)
def clsC : CSt → CSt
  | (l, a, R, T, D) => if 0 < l then (l - 1, a, R, uS T (l - 1) (R l), D) else (l, a, R, T, D)
def digC : CSt → Nat → Option CSt
  | (l, a, R, T, D), v => if a = 42 then (if 24 < (T l).1 * v then none else some (l, 0, R, uS T l (repV (T l) v), D)) else if a = 47 then (if (R l).1 < v then none else some (l, 0, R, T, uN D l v)) else if a = 91 then some (l, a, R, uS T l (addV (T l) (shlI 1 (v : Int))), D) else begC (l, a, R, T, D) (if v = 0 then 0 else shlI 1 (v : Int))
def sgnC : CSt → Int → Option CSt
  | (l, a, R, T, D), v => if v = 40 then (layC (l, a, R, T, D)).map opnC else if v = 41 then (layC (l, a, R, T, D)).map clsC else if v = 42 then some (l, 42, R, T, D) else if v = 47 then layC (l, 47, R, T, D) else if v = 91 then begC (l, 91, R, T, D) 0 else if v = 93 then some (l, 0, R, T, D) else if v = 126 then some (l, a, R, uS T l (turnV (T l)), D) else some (l, a, R, T, D)
def stepC (s : CSt) (v : Int) : Option CSt := if 48 ≤ v ∧ v ≤ 57 then digC s (v - 48).toNat else sgnC s v
def runC (f : Nat → Int) : Nat → CSt → Nat → Option CSt
  | 0, s, _ => some s
  | k + 1, s, p => (stepC s (f p)).bind (fun s1 => runC f k s1 (p + 1))
def FRs (M1 M : zM) : Prop := ∀ a b : Nat, ¬ ((a = 1 ∧ (b = 2 ∨ b = 3)) ∨ (5 ≤ a ∧ a ≤ 29)) → M1 a b = M a b
theorem FRs.tr {M M1 M2 : zM} (h : FRs M1 M) (h2 : FRs M2 M1) : FRs M2 M := fun a b hab => (h2 a b hab).trans (h a b hab)
def spost (M : zM) (o : Option CSt) (z : Int) (M1 : zM) : Prop := BN wC M1 ∧ FRs M1 M ∧ (-101 ≤ z ∧ z ≤ 0) ∧ ((z = 0 ∧ ∃ s1, o = some s1 ∧ csM M1 s1) ∨ (z ≠ 0 ∧ o = none))
theorem cdR (i : Nat) (h : i < 6) : 6 + 4 * i < nC ∧ zcd wC (6 + 4 * i) = 6 ∧ zcd wC (6 + 4 * i + 1) = 7 := (by decide : ∀ i : Nat, i < 6 → 6 + 4 * i < nC ∧ zcd wC (6 + 4 * i) = 6 ∧ zcd wC (6 + 4 * i + 1) = 7) i h
theorem cdT (i : Nat) (h : i < 6) : 8 + 4 * i < nC ∧ zcd wC (8 + 4 * i) = 6 ∧ zcd wC (8 + 4 * i + 1) = 7 := (by decide : ∀ i : Nat, i < 6 → 8 + 4 * i < nC ∧ zcd wC (8 + 4 * i) = 6 ∧ zcd wC (8 + 4 * i + 1) = 7) i h
theorem csM_T {M M1 : zM} {l : Nat} {a : Int} {R T : Nat → SV} {D : Nat → Nat} {x : SV} (h : csM M (l, a, R, T, D)) (f : ∀ a b : Nat, ¬ (a = 8 + 4 * l ∧ b = 1 ∨ a = 8 + 4 * l + 1) → M1 a b = M a b) (hx : isS M1 (8 + 4 * l) x) : csM M1 (l, a, R, uS T l x, D) := by
  obtain ⟨h1, h2, h3, hR, hT, hD, hO⟩ := h
  refine ⟨by rw [f 1 2 (by omega)]; exact h1, by rw [f 1 3 (by omega)]; exact h2, h3, fun i hi => isS_cg (hR i hi) (f _ _ (by omega)) (fun k => f _ _ (by omega)), fun i hi => ?_, fun i hi => by rw [f 5 i (by omega)]; exact hD i hi, hO⟩
  by_cases c : i = l
  · rw [c, uS_s]
    exact hx
  · rw [uS_n _ _ c]
    exact isS_cg (hT i hi) (f _ _ (by omega)) (fun k => f _ _ (by omega))
theorem csM_a {M M1 : zM} {l : Nat} {a a1 : Int} {R T : Nat → SV} {D : Nat → Nat} (h : csM M (l, a, R, T, D)) (e : M1 = zup M 1 3 a1) : csM M1 (l, a1, R, T, D) := by
  obtain ⟨h1, h2, h3, hR, hT, hD, hO⟩ := h
  exact ⟨by rw [e, zup_n _ _ (by omega)]; exact h1, by rw [e, zup_s], h3, fun i hi => isS_cg (hR i hi) (by rw [e, zup_n _ _ (by omega)]) (fun k => by rw [e, zup_n _ _ (by omega)]), fun i hi => isS_cg (hT i hi) (by rw [e, zup_n _ _ (by omega)]) (fun k => by rw [e, zup_n _ _ (by omega)]), fun i hi => by rw [e, zup_n _ _ (by omega)]; exact hD i hi, hO⟩
theorem csM_D {M M1 : zM} {l v : Nat} {a : Int} {R T : Nat → SV} {D : Nat → Nat} (h : csM M (l, a, R, T, D)) (e : M1 = zup M 5 l (v : Int)) (hv : v ≤ (R l).1) : csM M1 (l, a, R, T, uN D l v) := by
  obtain ⟨h1, h2, h3, hR, hT, hD, hO⟩ := h
  refine ⟨by rw [e, zup_n _ _ (by omega)]; exact h1, by rw [e, zup_n _ _ (by omega)]; exact h2, h3, fun i hi => isS_cg (hR i hi) (by rw [e, zup_n _ _ (by omega)]) (fun k => by rw [e, zup_n _ _ (by omega)]), fun i hi => isS_cg (hT i hi) (by rw [e, zup_n _ _ (by omega)]) (fun k => by rw [e, zup_n _ _ (by omega)]), fun i hi => ?_, fun i hi => ?_⟩
  · by_cases c : i = l
    · rw [c, uN_s, e, zup_s]
    · rw [uN_n _ _ c, e, zup_n _ _ (by omega)]
      exact hD i hi
  · by_cases c : i = l
    · rw [c, uN_s]
      exact hv
    · rw [uN_n _ _ c]
      exact hO i hi
set_option maxHeartbeats 2000000 in
theorem fC_layTerm {M : zM} {s : CSt} (hB : BN wC M) (h : csM M s) {Q : Int → zM → Prop} (hQ : ∀ (z : Int) (M1 : zM), spost M (layC s) z M1 → Q z M1) : wC_Splicer_layTerm M Q := by
  obtain ⟨l, a, R, T, D⟩ := s
  have h0 := h
  obtain ⟨h1, h2, h3, hR, hT, hD, hO⟩ := h
  have sl : sI (l : Int) = l := sIo (by omega) (by omega)
  have tl : ((l : Int)).toNat = l := by omega
  have rl := hR l (by omega)
  have tt := hT l (by omega)
  have dl := hD l (by omega)
  have ol := hO l (Nat.le_refl _)
  have rn : M (6 + 4 * l) 1 = ((R l).1 : Int) := rl.1
  have tn : M (8 + 4 * l) 1 = ((T l).1 : Int) := tt.1
  have br : 0 ≤ M (6 + 4 * l) 1 ∧ M (6 + 4 * l) 1 ≤ 24 := BN.at hB (cdR l (by omega)).2.1 rfl
  have bt : 0 ≤ M (8 + 4 * l) 1 ∧ M (8 + 4 * l) 1 ≤ 24 := BN.at hB (cdT l (by omega)).2.1 rfl
  have bd : 0 ≤ M 5 l ∧ M 5 l ≤ 9 := BN.at hB (rfl : zcd wC 5 = 5) rfl
  have sm : sI ((T l).1 : Int) = ((T l).1 : Int) := sIo (by omega) (by omega)
  have sd : sI (D l : Int) = (D l : Int) := sIo (by omega) (by omega)
  have se : sI (((R l).1 : Int) + ((T l).1 : Int) - (D l : Int)) = ((R l).1 : Int) + ((T l).1 : Int) - (D l : Int) := sIo (by omega) (by omega)
  unfold wC_Splicer_layTerm
  simp only [h1, sl, tl, rn, tn, dl, sm, sd, se]
  refine ⟨⟨by omega, by omega⟩, ⟨by omega, by omega⟩, fun c => ⟨⟨by omega, by omega⟩, fun c2 => ⟨fun c3 => ?_, fun c3 => ?_⟩, fun c2 => ?_⟩, fun c => ?_⟩
  · have el : layC (l, a, R, T, D) = some (l, a, uS R l (layV (R l) (T l) (D l)), uS T l (0, (T l).2), uN D l 0) := by
      simp only [layC]
      rw [if_neg (by omega), if_neg (by omega), if_neg (by omega)]
    refine fC_putBehind hB (cdR l (by omega)).2.1 (cdR l (by omega)).2.2 (cdT l (by omega)).2.1 ⟨by omega, by omega, by omega⟩ rl tt rfl ol (by omega) (by omega) (fun M15 h15 => ?_)
    obtain ⟨b15, f15, r15⟩ := h15
    intro M16 e16
    have n16 : M16 1 2 = (l : Int) := by rw [e16, zup_n _ _ (by omega), f15 1 2 (by omega)]; exact h1
    simp only [n16, sl, tl]
    refine ⟨⟨by omega, by omega⟩, fun M19 e19 => ?_⟩
    have b16 : BN wC M16 := by rw [e16]; exact BN.up b15 (cdT l (by omega)).2.1 rfl (by omega) (by omega)
    have b19 : BN wC M19 := by rw [e19]; exact BN.up b16 (rfl : zcd wC 5 = 5) rfl (by omega) (by omega)
    have f19 : ∀ p q : Nat, ¬ (p = 6 + 4 * l ∧ q = 1 ∨ p = 6 + 4 * l + 1 ∨ p = 8 + 4 * l ∧ q = 1 ∨ p = 5 ∧ q = l) → M19 p q = M p q := fun p q hpq => by
      rw [e19, zup_n _ _ (by omega), e16, zup_n _ _ (by omega), f15 _ _ (by omega)]
    refine hQ _ _ ⟨b19, fun p q hpq => f19 p q (by omega), by omega, Or.inl ⟨rfl, _, el, ?_⟩⟩
    refine ⟨by rw [f19 1 2 (by omega)]; exact h1, by rw [f19 1 3 (by omega)]; exact h2, h3, fun i hi => ?_, fun i hi => ?_, fun i hi => ?_, fun i hi => ?_⟩
    · by_cases c5 : i = l
      · rw [c5, uS_s]
        exact isS_cg r15 (by rw [e19, zup_n _ _ (by omega), e16, zup_n _ _ (by omega)]) (fun k => by rw [e19, zup_n _ _ (by omega), e16, zup_n _ _ (by omega)])
      · rw [uS_n _ _ c5]
        exact isS_cg (hR i hi) (f19 _ _ (by omega)) (fun k => f19 _ _ (by omega))
    · by_cases c5 : i = l
      · rw [c5, uS_s]
        refine ⟨?_, fun k hk => absurd hk (Nat.not_lt_zero k)⟩
        rw [e19, zup_n _ _ (by omega), e16, zup_s]
        rfl
      · rw [uS_n _ _ c5]
        exact isS_cg (hT i hi) (f19 _ _ (by omega)) (fun k => f19 _ _ (by omega))
    · by_cases c5 : i = l
      · rw [c5, uN_s, e19, zup_s]
        rfl
      · rw [uN_n _ _ c5, f19 _ _ (by omega)]
        exact hD i hi
    · by_cases c5 : i = l
      · rw [c5, uN_s]
        exact Nat.zero_le _
      · rw [uN_n _ _ c5, uS_n _ _ c5]
        exact hO i hi
  · have el : layC (l, a, R, T, D) = none := by
      simp only [layC]
      rw [if_neg (by omega), if_neg (by omega), if_pos (by omega)]
    exact hQ _ _ ⟨hB, fun _ _ _ => rfl, by omega, Or.inr ⟨by decide, el⟩⟩
  · have el : layC (l, a, R, T, D) = none := by
      simp only [layC]
      rw [if_neg (by omega), if_pos (by omega)]
    exact hQ _ _ ⟨hB, fun _ _ _ => rfl, by omega, Or.inr ⟨by decide, el⟩⟩
  · have el : layC (l, a, R, T, D) = some (l, a, R, T, D) := by
      simp only [layC]
      rw [if_pos (by omega)]
    exact hQ _ _ ⟨hB, fun _ _ _ => rfl, by omega, Or.inl ⟨rfl, _, el, h0⟩⟩
theorem lay_l {s s1 : CSt} (h : layC s = some s1) : s1.1 = s.1 := by
  obtain ⟨l, a, R, T, D⟩ := s
  simp only [layC] at h
  by_cases c : (T l).1 = 0
  · rw [if_pos c] at h
    rw [← Option.some.inj h]
  rw [if_neg c] at h
  by_cases c2 : (T l).1 < D l
  · rw [if_pos c2] at h
    cases h
  rw [if_neg c2] at h
  by_cases c3 : 24 < (R l).1 + (T l).1 - D l
  · rw [if_pos c3] at h
    cases h
  rw [if_neg c3] at h
  rw [← Option.some.inj h]
set_option maxHeartbeats 1000000 in
theorem fC_beginTerm {M : zM} {s : CSt} {a0 : Int} (hB : BN wC M) (v0 : -2147483648 ≤ a0 ∧ a0 ≤ 2147483647) (h : csM M s) {Q : Int → zM → Prop} (hQ : ∀ (z : Int) (M1 : zM), spost M (begC s a0) z M1 → Q z M1) : wC_Splicer_beginTerm a0 M Q := by
  unfold wC_Splicer_beginTerm
  refine fC_layTerm hB h (fun z M1 p => ?_)
  obtain ⟨b1, f1, hz, p⟩ := p
  rcases p with ⟨z0, s1, e1, m1⟩ | ⟨z0, e1⟩
  · refine ⟨fun c => absurd z0 c, fun _ => ?_⟩
    obtain ⟨l, a, R, T, D⟩ := s1
    have m0 := m1
    obtain ⟨h1, h2, h3, -⟩ := m1
    have sl : sI (l : Int) = l := sIo (by omega) (by omega)
    have tl : ((l : Int)).toNat = l := by omega
    simp only [h1, sl, tl]
    refine ⟨⟨by omega, by omega⟩, ?_⟩
    refine fC_becomeInch b1 (cdT l (by omega)).2.1 (cdT l (by omega)).2.2 v0 (fun M2 p2 => ?_)
    obtain ⟨b2, f2, i2⟩ := p2
    refine hQ _ _ ⟨b2, f1.tr (fun p q hpq => f2 p q (by omega)), hz, Or.inl ⟨z0, _, ?_, csM_T m0 f2 i2⟩⟩
    unfold begC
    rw [e1]
    rfl
  · refine ⟨fun c => hQ _ _ ⟨b1, f1, hz, Or.inr ⟨z0, ?_⟩⟩, fun c => absurd c z0⟩
    unfold begC
    rw [e1]
    rfl
set_option maxHeartbeats 2000000 in
theorem fC_open {M : zM} {s : CSt} (hB : BN wC M) (h : csM M s) {Q : Int → zM → Prop} (hQ : ∀ (z : Int) (M1 : zM), spost M ((layC s).map opnC) z M1 → Q z M1) : wC_Splicer_open M Q := by
  unfold wC_Splicer_open
  refine fC_layTerm hB h (fun z M1 p => ?_)
  obtain ⟨b1, f1, hz, p⟩ := p
  rcases p with ⟨z0, s1, e1, m1⟩ | ⟨z0, e1⟩
  · refine ⟨fun c => absurd z0 c, fun _ => ?_⟩
    obtain ⟨l, a, R, T, D⟩ := s1
    have m0 := m1
    obtain ⟨h1, h2, h3, hR, hT, hD, hO⟩ := m1
    have sl : sI (l : Int) = l := sIo (by omega) (by omega)
    simp only [h1, sl]
    refine ⟨fun c => hQ _ _ ⟨b1, f1, hz, Or.inl ⟨z0, (l, a, R, T, D), ?_, m0⟩⟩, fun c => fun M6 e6 => ?_⟩
    · rw [e1]
      show some (opnC (l, a, R, T, D)) = _
      simp only [opnC]
      rw [if_neg (by omega)]
    · unfold wC_Splicer_openRow
      have n6 : M6 1 2 = ((l + 1 : Nat) : Int) := by rw [e6, zup_s]; omega
      have b6 : BN wC M6 := by rw [e6]; exact BN.up b1 (rfl : zcd wC 1 = 1) rfl (by omega) (by omega)
      have sl1 : sI ((l + 1 : Nat) : Int) = ((l + 1 : Nat) : Int) := sIo (by omega) (by omega)
      have tl1 : (((l + 1 : Nat) : Int)).toNat = l + 1 := by omega
      simp only [n6, sl1, tl1]
      refine ⟨⟨by omega, by omega⟩, fun M7 e7 => ?_⟩
      have b7 : BN wC M7 := by rw [e7]; exact BN.up b6 (cdR (l + 1) (by omega)).2.1 rfl (by omega) (by omega)
      have n7 : M7 1 2 = ((l + 1 : Nat) : Int) := by rw [e7, zup_n _ _ (by omega)]; exact n6
      simp only [n7, sl1, tl1]
      refine ⟨⟨by omega, by omega⟩, fun M8 e8 => ?_⟩
      have b8 : BN wC M8 := by rw [e8]; exact BN.up b7 (cdT (l + 1) (by omega)).2.1 rfl (by omega) (by omega)
      have n8 : M8 1 2 = ((l + 1 : Nat) : Int) := by rw [e8, zup_n _ _ (by omega)]; exact n7
      simp only [n8, sl1, tl1]
      refine ⟨⟨by omega, by omega⟩, fun M9 e9 => ?_⟩
      have b9 : BN wC M9 := by rw [e9]; exact BN.up b8 (rfl : zcd wC 5 = 5) rfl (by omega) (by omega)
      have n9 : M9 1 2 = ((l + 1 : Nat) : Int) := by rw [e9, zup_n _ _ (by omega)]; exact n8
      have f9 : ∀ p q : Nat, ¬ (p = 1 ∧ q = 2 ∨ p = 6 + 4 * (l + 1) ∧ q = 1 ∨ p = 8 + 4 * (l + 1) ∧ q = 1 ∨ p = 5 ∧ q = l + 1) → M9 p q = M1 p q := fun p q hpq => by
        rw [e9, zup_n _ _ (by omega), e8, zup_n _ _ (by omega), e7, zup_n _ _ (by omega), e6, zup_n _ _ (by omega)]
      refine hQ _ _ ⟨b9, f1.tr (fun p q hpq => f9 p q (by omega)), hz, Or.inl ⟨z0, (l + 1, a, uS R (l + 1) (0, (R (l + 1)).2), uS T (l + 1) (0, (T (l + 1)).2), uN D (l + 1) 0), ?_, ?_⟩⟩
      · rw [e1]
        show some (opnC (l, a, R, T, D)) = _
        simp only [opnC]
        rw [if_pos (by omega)]
      · refine ⟨n9, by rw [f9 1 3 (by omega)]; exact h2, by omega, fun i hi => ?_, fun i hi => ?_, fun i hi => ?_, fun i hi => ?_⟩
        · by_cases c5 : i = l + 1
          · rw [c5, uS_s]
            refine ⟨?_, fun k hk => absurd hk (Nat.not_lt_zero k)⟩
            rw [e9, zup_n _ _ (by omega), e8, zup_n _ _ (by omega), e7, zup_s]
            rfl
          · rw [uS_n _ _ c5]
            exact isS_cg (hR i hi) (f9 _ _ (by omega)) (fun k => f9 _ _ (by omega))
        · by_cases c5 : i = l + 1
          · rw [c5, uS_s]
            refine ⟨?_, fun k hk => absurd hk (Nat.not_lt_zero k)⟩
            rw [e9, zup_n _ _ (by omega), e8, zup_s]
            rfl
          · rw [uS_n _ _ c5]
            exact isS_cg (hT i hi) (f9 _ _ (by omega)) (fun k => f9 _ _ (by omega))
        · by_cases c5 : i = l + 1
          · rw [c5, uN_s, e9, zup_s]
            rfl
          · rw [uN_n _ _ c5, f9 _ _ (by omega)]
            exact hD i hi
        · by_cases c5 : i = l + 1
          · rw [c5, uN_s]
            exact Nat.zero_le _
          · rw [uN_n _ _ c5, uS_n _ _ c5]
            exact hO i (by omega)
  · refine ⟨fun c => hQ _ _ ⟨b1, f1, hz, Or.inr ⟨z0, ?_⟩⟩, fun c => absurd c z0⟩
    rw [e1]
    rfl
set_option maxHeartbeats 2000000 in
theorem fC_close {M : zM} {s : CSt} (hB : BN wC M) (h : csM M s) {Q : Int → zM → Prop} (hQ : ∀ (z : Int) (M1 : zM), spost M ((layC s).map clsC) z M1 → Q z M1) : wC_Splicer_close M Q := by
  unfold wC_Splicer_close
  refine fC_layTerm hB h (fun z M1 p => ?_)
  obtain ⟨b1, f1, hz, p⟩ := p
  rcases p with ⟨z0, s1, e1, m1⟩ | ⟨z0, e1⟩
  · refine ⟨fun c => absurd z0 c, fun _ => ?_⟩
    obtain ⟨l, a, R, T, D⟩ := s1
    have m0 := m1
    obtain ⟨h1, h2, h3, hR, hT, hD, hO⟩ := m1
    have sl : sI (l : Int) = l := sIo (by omega) (by omega)
    simp only [h1, sl]
    refine ⟨fun c => hQ _ _ ⟨b1, f1, hz, Or.inl ⟨z0, (l, a, R, T, D), ?_, m0⟩⟩, fun c => fun M6 e6 => ?_⟩
    · rw [e1]
      show some (clsC (l, a, R, T, D)) = _
      simp only [clsC]
      rw [if_neg (by omega)]
    · have n6 : M6 1 2 = ((l - 1 : Nat) : Int) := by rw [e6, zup_s]; omega
      have b6 : BN wC M6 := by rw [e6]; exact BN.up b1 (rfl : zcd wC 1 = 1) rfl (by omega) (by omega)
      have sl1 : sI ((l - 1 : Nat) : Int) = ((l - 1 : Nat) : Int) := sIo (by omega) (by omega)
      have tl1 : (((l - 1 : Nat) : Int)).toNat = l - 1 := by omega
      have sl2 : sI (((l - 1 : Nat) : Int) + 1) = (l : Int) := by rw [sIo (by omega) (by omega)]; omega
      have tl2 : ((l : Int)).toNat = l := by omega
      simp only [n6, sl1, tl1, sl2, tl2]
      have hl6 : isS M6 (6 + 4 * l) (R l) := isS_cg (hR l (by omega)) (by rw [e6, zup_n _ _ (by omega)]) (fun k => by rw [e6, zup_n _ _ (by omega)])
      refine ⟨⟨by omega, by omega⟩, ⟨by omega, by omega⟩, ?_⟩
      refine fC_copy b6 (cdT (l - 1) (by omega)).2.1 (cdT (l - 1) (by omega)).2.2 (cdR l (by omega)).2.1 ⟨by omega, by omega, by omega⟩ hl6 (fun M7 p7 => ?_)
      obtain ⟨b7, f7, i7, -⟩ := p7
      have f8 : ∀ p q : Nat, ¬ (p = 1 ∧ q = 2 ∨ p = 8 + 4 * (l - 1) ∧ q = 1 ∨ p = 8 + 4 * (l - 1) + 1) → M7 p q = M1 p q := fun p q hpq => by
        rw [f7 _ _ (by omega), e6, zup_n _ _ (by omega)]
      refine hQ _ _ ⟨b7, f1.tr (fun p q hpq => f8 p q (by omega)), hz, Or.inl ⟨z0, (l - 1, a, R, uS T (l - 1) (R l), D), ?_, ?_⟩⟩
      · rw [e1]
        show some (clsC (l, a, R, T, D)) = _
        simp only [clsC]
        rw [if_pos (by omega)]
      · refine ⟨by rw [f7 1 2 (by omega)]; exact n6, by rw [f8 1 3 (by omega)]; exact h2, by omega, fun i hi => isS_cg (hR i hi) (f8 _ _ (by omega)) (fun k => f8 _ _ (by omega)), fun i hi => ?_, fun i hi => by rw [f8 _ _ (by omega)]; exact hD i hi, fun i hi => hO i (by omega)⟩
        by_cases c5 : i = l - 1
        · rw [c5, uS_s]
          exact i7
        · rw [uS_n _ _ c5]
          exact isS_cg (hT i hi) (f8 _ _ (by omega)) (fun k => f8 _ _ (by omega))
  · refine ⟨fun c => hQ _ _ ⟨b1, f1, hz, Or.inr ⟨z0, ?_⟩⟩, fun c => absurd c z0⟩
    rw [e1]
    rfl
theorem FRs_a {M M1 : zM} {v : Int} (e : M1 = zup M 1 3 v) : FRs M1 M := fun a b hab => by rw [e, zup_n _ _ (by omega)]
theorem spost_tr {M M0 : zM} {o : Option CSt} {z : Int} {M1 : zM} (f : FRs M M0) (p : spost M o z M1) : spost M0 o z M1 := ⟨p.1, f.tr p.2.1, p.2.2⟩
set_option maxHeartbeats 2000000 in
theorem fC_readDigit {M : zM} {s : CSt} {a0 : Int} {v : Nat} (hB : BN wC M) (hv : a0 = (v : Int)) (h9 : v ≤ 9) (h : csM M s) {Q : Int → zM → Prop} (hQ : ∀ (z : Int) (M1 : zM), spost M (digC s v) z M1 → Q z M1) : wC_Splicer_readDigit a0 M Q := by
  unfold wC_Splicer_readDigit
  obtain ⟨l, a, R, T, D⟩ := s
  have h0 := h
  obtain ⟨h1, h2, h3, hR, hT, hD, hO⟩ := h
  have sl : sI (l : Int) = l := sIo (by omega) (by omega)
  have tl : ((l : Int)).toNat = l := by omega
  have sv : sI (v : Int) = v := sIo (by omega) (by omega)
  have ba := BN.r32 hB 1 3
  rw [h2] at ba
  have sa : sI a = a := sIo (by omega) (by omega)
  have rn : M (6 + 4 * l) 1 = ((R l).1 : Int) := (hR l (by omega)).1
  have tn : M (8 + 4 * l) 1 = ((T l).1 : Int) := (hT l (by omega)).1
  have br : 0 ≤ M (6 + 4 * l) 1 ∧ M (6 + 4 * l) 1 ≤ 24 := BN.at hB (cdR l (by omega)).2.1 rfl
  have bt : 0 ≤ M (8 + 4 * l) 1 ∧ M (8 + 4 * l) 1 ≤ 24 := BN.at hB (cdT l (by omega)).2.1 rfl
  subst hv
  simp only [h1, h2, sl, tl, sv, sa]
  refine ⟨fun c => fun M2 e2 => ?_, fun c => ⟨fun c2 => fun M8 e8 => ?_, fun c2 => ⟨fun c3 => ⟨⟨by omega, by omega⟩, ?_⟩, fun c3 => ⟨fun c4 => ?_, fun c4 => ?_⟩⟩⟩⟩
  · have b2 : BN wC M2 := by rw [e2]; exact BN.up hB (rfl : zcd wC 1 = 1) rfl (by omega) (by omega)
    have m2 := csM_a h0 e2
    have n2 : M2 1 2 = (l : Int) := m2.1
    have t2 : M2 (8 + 4 * l) 1 = ((T l).1 : Int) := (m2.2.2.2.2.1 l (by omega)).1
    have hp : (T l).1 * v ≤ 24 * 9 := Nat.mul_le_mul (by omega) h9
    have ep : ((T l).1 : Int) * (v : Int) = (((T l).1 * v : Nat) : Int) := (Int.natCast_mul _ _).symm
    have sp : sI (((T l).1 * v : Nat) : Int) = (((T l).1 * v : Nat) : Int) := sIo (by omega) (by omega)
    unfold wC_Splicer_repeatTerm
    simp only [n2, sl, tl, t2, ep, sp]
    refine ⟨⟨by omega, by omega⟩, fun c5 => ⟨⟨by omega, by omega⟩, ?_⟩, fun c5 => ?_⟩
    · refine fC_repeat b2 (cdT l (by omega)).2.1 (cdT l (by omega)).2.2 (m2.2.2.2.2.1 l (by omega)) rfl (by omega) (fun M3 p3 => ?_)
      obtain ⟨b3, f3, i3⟩ := p3
      refine hQ _ _ ⟨b3, (FRs_a e2).tr (fun p q hpq => f3 p q (by omega)), by omega, Or.inl ⟨rfl, _, ?_, csM_T m2 f3 i3⟩⟩
      simp only [digC]
      rw [if_pos c, if_neg (by omega)]
    · refine hQ _ _ ⟨b2, FRs_a e2, by omega, Or.inr ⟨by decide, ?_⟩⟩
      simp only [digC]
      rw [if_pos c, if_pos (by omega)]
  · have b8 : BN wC M8 := by rw [e8]; exact BN.up hB (rfl : zcd wC 1 = 1) rfl (by omega) (by omega)
    have m8 := csM_a h0 e8
    have n8 : M8 1 2 = (l : Int) := m8.1
    simp only [n8, sl, tl]
    refine ⟨⟨by omega, by omega⟩, fun M11 e11 => ?_⟩
    have b11 : BN wC M11 := by rw [e11]; exact BN.up b8 (rfl : zcd wC 5 = 5) rfl (by omega) (by omega)
    have n11 : M11 1 2 = (l : Int) := by rw [e11, zup_n _ _ (by omega)]; exact n8
    have r11 : M11 (6 + 4 * l) 1 = ((R l).1 : Int) := by rw [e11, zup_n _ _ (by omega), e8, zup_n _ _ (by omega)]; exact rn
    have sr : sI ((R l).1 : Int) = ((R l).1 : Int) := sIo (by omega) (by omega)
    have f11 : FRs M11 M := fun p q hpq => by rw [e11, zup_n _ _ (by omega), e8, zup_n _ _ (by omega)]
    simp only [n11, sl, tl, r11, sr]
    refine ⟨⟨by omega, by omega⟩, fun c5 => ?_, fun c5 => ?_⟩
    · refine hQ _ _ ⟨b11, f11, by omega, Or.inl ⟨rfl, _, ?_, csM_D m8 e11 (by omega)⟩⟩
      simp only [digC]
      rw [if_neg c, if_pos c2, if_neg (by omega)]
    · refine hQ _ _ ⟨b11, f11, by omega, Or.inr ⟨by decide, ?_⟩⟩
      simp only [digC]
      rw [if_neg c, if_pos c2, if_pos (by omega)]
  · refine fC_addTo hB (cdT l (by omega)).1 (cdT l (by omega)).2.1 (cdT l (by omega)).2.2 (hT l (by omega)) (fun M3 p3 => ?_)
    obtain ⟨b3, f3, i3⟩ := p3
    refine hQ _ _ ⟨b3, fun p q hpq => f3 p q (by omega), by omega, Or.inl ⟨rfl, _, ?_, csM_T h0 (fun p q hpq => f3 p q (by omega)) i3⟩⟩
    simp only [digC]
    rw [if_neg c, if_neg c2, if_pos c3]
  · refine fC_beginTerm hB ⟨(shlI_R _ _).1, (shlI_R _ _).2⟩ h0 (fun z M1 p => hQ _ _ ?_)
    have e : digC (l, a, R, T, D) v = begC (l, a, R, T, D) (shlI 1 (v : Int)) := by
      simp only [digC]
      rw [if_neg c, if_neg c2, if_neg c3, if_neg (by omega)]
    rw [e]
    exact p
  · refine fC_beginTerm hB ⟨by omega, by omega⟩ h0 (fun z M1 p => hQ _ _ ?_)
    have e : digC (l, a, R, T, D) v = begC (l, a, R, T, D) 0 := by
      simp only [digC]
      rw [if_neg c, if_neg c2, if_neg c3, if_pos (by omega)]
    rw [e]
    exact p
set_option maxHeartbeats 2000000 in
theorem fC_readSign {M : zM} {s : CSt} {a0 : Int} (hB : BN wC M) (v0 : 0 ≤ a0 ∧ a0 ≤ 255) (h : csM M s) {Q : Int → zM → Prop} (hQ : ∀ (z : Int) (M1 : zM), spost M (sgnC s a0) z M1 → Q z M1) : wC_Splicer_readSign a0 M Q := by
  unfold wC_Splicer_readSign
  obtain ⟨l, a, R, T, D⟩ := s
  have h0 := h
  obtain ⟨h1, h2, h3, hR, hT, hD, hO⟩ := h
  have sl : sI (l : Int) = l := sIo (by omega) (by omega)
  have tl : ((l : Int)).toNat = l := by omega
  have s0 : sI a0 = a0 := sIo (by omega) (by omega)
  simp only [h1, sl, tl, s0]
  have up : ∀ (w : Int), -2147483648 ≤ w ∧ w ≤ 2147483647 → ∀ M1 : zM, M1 = zup M 1 3 w → BN wC M1 := fun w hw M1 e => by rw [e]; exact BN.up hB (rfl : zcd wC 1 = 1) rfl hw.1 hw.2
  refine ⟨fun c => ?_, fun c => ⟨fun c1 => ?_, fun c1 => ⟨fun c2 => fun M10 e10 => ?_, fun c2 => ⟨fun c3 => fun M13 e13 => ?_, fun c3 => ⟨fun c4 => fun M19 e19 => ?_, fun c4 => ⟨fun c5 => fun M25 e25 => ?_, fun c5 => ⟨fun c6 => ⟨⟨by omega, by omega⟩, ?_⟩, fun c6 => ?_⟩⟩⟩⟩⟩⟩⟩
  · have e : sgnC (l, a, R, T, D) a0 = (layC (l, a, R, T, D)).map opnC := by
      simp only [sgnC]
      rw [if_pos c]
    rw [e] at hQ
    exact fC_open hB h0 hQ
  · have e : sgnC (l, a, R, T, D) a0 = (layC (l, a, R, T, D)).map clsC := by
      simp only [sgnC]
      rw [if_neg c, if_pos c1]
    rw [e] at hQ
    exact fC_close hB h0 hQ
  · refine hQ _ _ ⟨up _ (by omega) _ e10, FRs_a e10, by omega, Or.inl ⟨rfl, (l, 42, R, T, D), ?_, csM_a h0 (by rw [e10, c2])⟩⟩
    simp only [sgnC]
    rw [if_neg c, if_neg c1, if_pos c2]
  · have e : sgnC (l, a, R, T, D) a0 = layC (l, 47, R, T, D) := by
      simp only [sgnC]
      rw [if_neg c, if_neg c1, if_neg c2, if_pos c3]
    rw [e] at hQ
    exact fC_layTerm (up _ (by omega) _ e13) (csM_a h0 (by rw [e13, c3])) (fun z M1 p => hQ _ _ (spost_tr (FRs_a e13) p))
  · have e : sgnC (l, a, R, T, D) a0 = begC (l, 91, R, T, D) 0 := by
      simp only [sgnC]
      rw [if_neg c, if_neg c1, if_neg c2, if_neg c3, if_pos c4]
    rw [e] at hQ
    exact fC_beginTerm (up _ (by omega) _ e19) ⟨by omega, by omega⟩ (csM_a h0 (by rw [e19, c4])) (fun z M1 p => hQ _ _ (spost_tr (FRs_a e19) p))
  · refine hQ _ _ ⟨up _ (by omega) _ e25, FRs_a e25, by omega, Or.inl ⟨rfl, (l, 0, R, T, D), ?_, csM_a h0 e25⟩⟩
    simp only [sgnC]
    rw [if_neg c, if_neg c1, if_neg c2, if_neg c3, if_neg c4, if_pos c5]
  · refine fC_turn hB (cdT l (by omega)).2.1 (cdT l (by omega)).2.2 (hT l (by omega)) (fun M3 p3 => ?_)
    obtain ⟨b3, f3, i3⟩ := p3
    refine hQ _ _ ⟨b3, fun p q hpq => f3 p q (by omega), by omega, Or.inl ⟨rfl, _, ?_, csM_T h0 (fun p q hpq => f3 p q (by omega)) i3⟩⟩
    simp only [sgnC]
    rw [if_neg c, if_neg c1, if_neg c2, if_neg c3, if_neg c4, if_neg c5, if_pos c6]
  · refine hQ _ _ ⟨hB, fun _ _ _ => rfl, by omega, Or.inl ⟨rfl, _, ?_, h0⟩⟩
    simp only [sgnC]
    rw [if_neg c, if_neg c1, if_neg c2, if_neg c3, if_neg c4, if_neg c5, if_neg c6]
theorem runC_snoc (f : Nat → Int) : ∀ (k : Nat) (s : CSt) (p : Nat), runC f (k + 1) s p = (runC f k s p).bind (fun s1 => stepC s1 (f (p + k)))
  | 0, s, p => by
    show (stepC s (f p)).bind (fun s1 => some s1) = stepC s (f (p + 0))
    cases stepC s (f p) <;> rfl
  | k + 1, s, p => by
    rw [show runC f (k + 1 + 1) s p = (stepC s (f p)).bind (fun s1 => runC f (k + 1) s1 (p + 1)) from rfl, show runC f (k + 1) s p = (stepC s (f p)).bind (fun s1 => runC f k s1 (p + 1)) from rfl]
    cases stepC s (f p) with
    | none => rfl
    | some s1 =>
      show runC f (k + 1) s1 (p + 1) = (runC f k s1 (p + 1)).bind _
      rw [runC_snoc f k s1 (p + 1), show p + 1 + k = p + (k + 1) by omega]
/-- a machine that begins -/
def cs0 (M : zM) : CSt := (0, 0, fun i => if i = 0 then (0, fun k => M 7 k) else ((M (6 + 4 * i) 1).toNat, M (6 + 4 * i + 1)), fun i => if i = 0 then (0, fun k => M 9 k) else ((M (8 + 4 * i) 1).toNat, M (8 + 4 * i + 1)), fun i => if i = 0 then 0 else (M 5 i).toNat)
set_option maxHeartbeats 2000000 in
theorem fC_putTogether {M : zM} (hB : BN wC M) {Q : Int → zM → Prop} (hQ : ∀ (z : Int) (M1 : zM), spost M ((runC (M 2) (M 1 1).toNat (cs0 M) 0).bind layC) z M1 → Q z M1) : wC_Splicer_putTogether M Q := by
  unfold wC_Splicer_putTogether wC_Splicer_openRow
  have bn : 0 ≤ M 1 1 ∧ M 1 1 ≤ 100 := BN.at hB (rfl : zcd wC 1 = 1) rfl
  intro M1 e1 M3 e3
  have b1 : BN wC M1 := by rw [e1]; exact BN.up hB (rfl : zcd wC 1 = 1) rfl (by omega) (by omega)
  have b3 : BN wC M3 := by rw [e3]; exact BN.up b1 (rfl : zcd wC 1 = 1) rfl (by omega) (by omega)
  have n3 : M3 1 2 = 0 := by rw [e3, zup_n _ _ (by omega), e1, zup_s]
  have s0 : sI (0 : Int) = 0 := sIo (by omega) (by omega)
  have t0 : (0 : Int).toNat = 0 := rfl
  simp only [n3, s0, t0, Nat.mul_zero, Nat.add_zero]
  refine ⟨⟨by omega, by omega⟩, fun M6 e6 => ?_⟩
  have b6 : BN wC M6 := by rw [e6]; exact BN.up b3 (cdR 0 (by omega)).2.1 rfl (by omega) (by omega)
  have n6 : M6 1 2 = 0 := by rw [e6, zup_n _ _ (by omega)]; exact n3
  simp only [n6, s0, t0, Nat.mul_zero, Nat.add_zero]
  refine ⟨⟨by omega, by omega⟩, fun M7 e7 => ?_⟩
  have b7 : BN wC M7 := by rw [e7]; exact BN.up b6 (cdT 0 (by omega)).2.1 rfl (by omega) (by omega)
  have n7 : M7 1 2 = 0 := by rw [e7, zup_n _ _ (by omega)]; exact n6
  simp only [n7, s0, t0]
  refine ⟨⟨by omega, by omega⟩, fun M8 e8 => ?_⟩
  have b8 : BN wC M8 := by rw [e8]; exact BN.up b7 (rfl : zcd wC 5 = 5) rfl (by omega) (by omega)
  have f8 : ∀ p q : Nat, ¬ (p = 1 ∧ q = 2 ∨ p = 1 ∧ q = 3 ∨ p = 6 ∧ q = 1 ∨ p = 8 ∧ q = 1 ∨ p = 5 ∧ q = 0) → M8 p q = M p q := fun p q hpq => by
    rw [e8, zup_n _ _ (by omega), e7, zup_n _ _ (by omega), e6, zup_n _ _ (by omega), e3, zup_n _ _ (by omega), e1, zup_n _ _ (by omega)]
  have m8 : csM M8 (cs0 M) := by
    refine ⟨by rw [e8, zup_n _ _ (by omega)]; exact n7, by rw [e8, zup_n _ _ (by omega), e7, zup_n _ _ (by omega), e6, zup_n _ _ (by omega), e3, zup_s], by omega, fun i hi => ?_, fun i hi => ?_, fun i hi => ?_, fun i hi => ?_⟩
    · dsimp only
      by_cases c : i = 0
      · subst c
        rw [if_pos rfl]
        exact ⟨by rw [e8, zup_n _ _ (by omega), e7, zup_n _ _ (by omega), e6, zup_s]; rfl, fun k hk => absurd hk (Nat.not_lt_zero k)⟩
      · rw [if_neg c]
        have b : 0 ≤ M (6 + 4 * i) 1 ∧ M (6 + 4 * i) 1 ≤ 24 := BN.at hB (cdR i hi).2.1 rfl
        exact ⟨by rw [f8 _ _ (by omega)]; show M (6 + 4 * i) 1 = (((M (6 + 4 * i) 1).toNat : Nat) : Int); omega, fun k _ => f8 _ _ (by omega)⟩
    · dsimp only
      by_cases c : i = 0
      · subst c
        rw [if_pos rfl]
        exact ⟨by rw [e8, zup_n _ _ (by omega), e7, zup_s]; rfl, fun k hk => absurd hk (Nat.not_lt_zero k)⟩
      · rw [if_neg c]
        have b : 0 ≤ M (8 + 4 * i) 1 ∧ M (8 + 4 * i) 1 ≤ 24 := BN.at hB (cdT i hi).2.1 rfl
        exact ⟨by rw [f8 _ _ (by omega)]; show M (8 + 4 * i) 1 = (((M (8 + 4 * i) 1).toNat : Nat) : Int); omega, fun k _ => f8 _ _ (by omega)⟩
    · dsimp only
      by_cases c : i = 0
      · subst c
        rw [if_pos rfl, e8, zup_s]
        rfl
      · rw [if_neg c, f8 _ _ (by omega)]
        have b : 0 ≤ M 5 i ∧ M 5 i ≤ 9 := BN.at hB (rfl : zcd wC 5 = 5) rfl
        omega
    · dsimp only
      rw [show i = 0 by omega, if_pos rfl]
      exact Nat.zero_le _
  have f8s : FRs M8 M := fun p q hpq => f8 p q (by omega)
  refine wL2_of (fun x y M2 => BN wC M2 ∧ FRs M2 M ∧ ((-101 ≤ x ∧ x ≤ 0) ∧ 0 ≤ y ∧ y ≤ M 1 1) ∧ ((x = 0 ∧ ∃ s1, runC (M 2) y.toNat (cs0 M) 0 = some s1 ∧ csM M2 s1) ∨ (x ≠ 0 ∧ runC (M 2) y.toNat (cs0 M) 0 = none))) (fun _ y _ => (1000 - y).toNat) ⟨b8, f8s, ⟨by omega, by omega, by omega⟩, Or.inl ⟨rfl, cs0 M, rfl, m8⟩⟩ (fun K x y M2 h k => ?_)
  obtain ⟨b2, f2, hy, hr⟩ := h
  have n2 : M2 1 1 = M 1 1 := f2 1 1 (by omega)
  have r2 : M2 2 = M 2 := funext fun q => f2 2 q (by omega)
  have sn : sI (M 1 1) = M 1 1 := sIo (by omega) (by omega)
  have sy : sI y = y := sIo (by omega) (by omega)
  have sx : sI x = x := sIo (by omega) (by omega)
  have bs : 0 ≤ M 2 y.toNat ∧ M 2 y.toNat ≤ 255 := BN.at hB (rfl : zcd wC 2 = 2) rfl
  simp only [n2, r2, sn, sy, sx]
  have nn : ∀ (i : Nat), runC (M 2) y.toNat (cs0 M) 0 = none → runC (M 2) (y.toNat + i) (cs0 M) 0 = none := by
    intro i h
    induction i with
    | zero => exact h
    | succ i ih =>
      rw [show y.toNat + (i + 1) = (y.toNat + i) + 1 by omega, runC_snoc, ih]
      rfl
  refine ⟨fun c => ?_, fun c => ⟨fun c2 => ⟨fun c3 => ?_, fun c3 => absurd c3 c2⟩, fun c2 => ⟨⟨by omega, by omega⟩, ?_⟩⟩⟩
  · have ey : y = M 1 1 := by omega
    rw [ey] at hr
    refine ⟨fun d => ?_, fun d => ?_⟩
    · rcases hr with ⟨h1, -⟩ | ⟨h1, h2⟩
      · exact absurd h1 d
      · refine hQ _ _ ⟨b2, f2, hy.1, Or.inr ⟨d, ?_⟩⟩
        rw [h2]
        rfl
    · rcases hr with ⟨h1, s1, h2, h3⟩ | ⟨h1, h2⟩
      · refine fC_layTerm b2 h3 (fun z M4 p => hQ _ _ ?_)
        rw [h2]
        exact spost_tr f2 p
      · exact absurd d h1
  · rcases hr with ⟨h1, -⟩ | ⟨h1, h2⟩
    · exact absurd h1 c3
    · refine hQ _ _ ⟨b2, f2, hy.1, Or.inr ⟨c3, ?_⟩⟩
      have w := nn ((M 1 1).toNat - y.toNat) h2
      rw [show y.toNat + ((M 1 1).toNat - y.toNat) = (M 1 1).toNat by omega] at w
      rw [w]
      rfl
  · obtain ⟨s1, h2, h3⟩ : ∃ s1, runC (M 2) y.toNat (cs0 M) 0 = some s1 ∧ csM M2 s1 := by
      rcases hr with ⟨h1, h2⟩ | ⟨h1, h2⟩
      · exact h2
      · exact absurd c2 h1
    have go : ∀ (z : Int) (M3 : zM), spost M2 (stepC s1 (M 2 y.toNat)) z M3 → K z (y + 1) M3 := by
      intro z M3 p
      obtain ⟨p1, p2, p3, p4⟩ := p
      refine k _ _ _ ⟨p1, f2.tr p2, ⟨p3, by omega, by omega⟩, ?_⟩ (by omega)
      rw [show (y + 1).toNat = y.toNat + 1 by omega, runC_snoc, h2, Nat.zero_add]
      exact p4
    refine sC_Splicer_isDigit b2 (by omega) (by omega) (fun z p => ?_)
    obtain ⟨-, p1, -⟩ := p
    refine ⟨fun d => ⟨⟨by omega, by omega⟩, ?_⟩, fun d => ⟨⟨by omega, by omega⟩, ?_⟩⟩
    · refine fC_readSign b2 bs h3 (fun z M3 p => go _ _ ?_)
      unfold stepC
      rw [if_neg (by omega)]
      exact p
    · refine fC_readDigit (v := (M 2 y.toNat - 48).toNat) b2 (by omega) (by omega) h3 (fun z M3 p => go _ _ ?_)
      unfold stepC
      rw [if_pos (by omega)]
      exact p
