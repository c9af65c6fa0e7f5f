/-! the class reads a text as that machine does -/
theorem smR_add (f : Nat → Int) : ∀ (a b : Nat) (st : Int × Int) (p : Nat), smR f (a + b) st p = smR f b (smR f a st p) (p + a)
  | 0, b, st, p => by rw [Nat.zero_add]; rfl
  | a + 1, b, st, p => by
    rw [show a + 1 + b = (a + b) + 1 by omega, show smR f (a + b + 1) st p = smR f (a + b) (smS st (f p)) (p + 1) from rfl, smR_add f a b, show p + 1 + a = p + (a + 1) by omega]
    rfl
theorem smX (st : Int × Int) (v : Int) (h : v < 0 ∨ 128 ≤ v) : smS st v = (-1, st.2) := by
  have a : smA st.2 v = (-1, st.2) := by
    unfold smA
    rw [if_neg (by omega), if_neg (by omega), if_neg (by omega)]
  have b : smT st.2 v = (-1, st.2) := by
    unfold smT
    rw [if_neg (by omega), if_neg (by omega), if_neg (by omega), if_neg (by omega)]
    exact a
  unfold smS
  by_cases c0 : st.1 = 0
  · rw [if_pos c0]
    exact a
  rw [if_neg c0]
  by_cases c1 : st.1 = 1
  · rw [if_pos c1]
    exact b
  rw [if_neg c1]
  by_cases c2 : st.1 = 2
  · rw [if_pos c2, if_neg (by omega)]
  rw [if_neg c2]
  by_cases c3 : st.1 = 3
  · rw [if_pos c3, if_neg (by omega)]
  rw [if_neg c3]
  by_cases c4 : st.1 = 4
  · rw [if_pos c4, if_neg (by omega)]
  rw [if_neg c4]
  by_cases c5 : st.1 = 5
  · rw [if_pos c5, if_neg (by omega), if_neg (by omega)]
  rw [if_neg c5]
/-- a byte, from 0 on -/
def bU (v : Int) : Int := if v < 0 then v + 256 else v
theorem smR_bU {f T : Nat → Int} {n : Nat} (hT : ∀ i, -128 ≤ T i) (h : ∀ i : Nat, i < n → f i = bU (T i)) : ∀ (k : Nat) (st : Int × Int) (p : Nat), p + k ≤ n → smR f k st p = smR T k st p
  | 0, _, _, _ => rfl
  | k + 1, st, p, hp => by
    have e : smS st (f p) = smS st (T p) := by
      rw [h p (by omega)]
      unfold bU
      by_cases c : T p < 0
      · rw [if_pos c, smX st _ (Or.inl c), smX st _ (Or.inr (by have := hT p; omega))]
      · rw [if_neg c]
    show smR f k (smS st (f p)) (p + 1) = smR T k (smS st (T p)) (p + 1)
    rw [e]
    exact smR_bU hT h k _ _ (by omega)
theorem fC_bAtom {M : zM} {a0 : Int} (hB : BN wC M) (v0 : 0 ≤ a0 ∧ a0 ≤ 255) {Q : Int → zM → Prop} (hQ : ∀ (z : Int) (M1 : zM), BN wC M1 ∧ (∀ a b : Nat, ¬ (a = 1 ∧ b = 2) → M1 a b = M a b) ∧ (z, M1 1 2) = smA (M 1 2) a0 → Q z M1) : wC_Splicer_behindAtomStart a0 M Q := by
  unfold wC_Splicer_behindAtomStart
  have s0 : sI a0 = a0 := sIo (by omega) (by omega)
  have bl : -1 ≤ M 1 2 ∧ M 1 2 ≤ 5 := BN.at hB (rfl : zcd wC 1 = 1) rfl
  have sl : sI (M 1 2) = M 1 2 := sIo (by omega) (by omega)
  simp only [s0, sl]
  refine sC_Splicer_isDigit hB (by omega) (by omega) (fun z p => ?_)
  obtain ⟨-, p1, -⟩ := p
  refine ⟨fun c => ⟨fun c2 => ⟨fun c3 => ?_, fun c3 => ⟨fun c4 => ?_, fun c4 => fun M9 e9 => ?_⟩⟩, fun c2 => ?_⟩, fun c => ?_⟩
  · exact hQ _ _ ⟨hB, fun _ _ _ => rfl, by unfold smA; rw [if_neg (by omega), if_neg (by omega), if_neg (by omega)]⟩
  · exact hQ _ _ ⟨hB, fun _ _ _ => rfl, by unfold smA; rw [if_neg (by omega), if_neg (by omega), if_neg (by omega)]⟩
  · exact hQ _ _ ⟨by rw [e9]; exact BN.up hB (rfl : zcd wC 1 = 1) rfl (by omega) (by omega), fun a b h => by rw [e9]; exact zup_n _ _ h, by unfold smA; rw [if_neg (by omega), if_neg (by omega), if_pos (by omega), e9, zup_s]⟩
  · exact hQ _ _ ⟨hB, fun _ _ _ => rfl, by unfold smA; rw [if_neg (by omega), if_pos (by omega)]⟩
  · exact hQ _ _ ⟨hB, fun _ _ _ => rfl, by unfold smA; rw [if_pos (by omega)]⟩
theorem fC_bTerm {M : zM} {a0 : Int} (hB : BN wC M) (v0 : 0 ≤ a0 ∧ a0 ≤ 255) (hl : 0 ≤ M 1 2) {Q : Int → zM → Prop} (hQ : ∀ (z : Int) (M1 : zM), BN wC M1 ∧ (∀ a b : Nat, ¬ (a = 1 ∧ b = 2) → M1 a b = M a b) ∧ (z, M1 1 2) = smT (M 1 2) a0 → Q z M1) : wC_Splicer_behindTermSign a0 M Q := by
  unfold wC_Splicer_behindTermSign
  have s0 : sI a0 = a0 := sIo (by omega) (by omega)
  have bl : -1 ≤ M 1 2 ∧ M 1 2 ≤ 5 := BN.at hB (rfl : zcd wC 1 = 1) rfl
  simp only [s0]
  refine ⟨fun c => fun M2 e2 => ?_, fun c => ⟨fun c2 => ?_, fun c2 => ⟨fun c3 => ?_, fun c3 => ⟨fun c4 => ?_, fun c4 => ?_⟩⟩⟩⟩
  · have b2 : BN wC M2 := by rw [e2]; exact BN.up hB (rfl : zcd wC 1 = 1) rfl (by omega) (by omega)
    have f2 : ∀ a b : Nat, ¬ (a = 1 ∧ b = 2) → M2 a b = M a b := fun a b h => by rw [e2]; exact zup_n _ _ h
    have n2 : M2 1 2 = M 1 2 - 1 := by rw [e2, zup_s]
    have s2 : sI (M2 1 2) = M 1 2 - 1 := by rw [n2]; exact sIo (by omega) (by omega)
    rw [s2]
    refine ⟨fun d => ?_, fun d => ?_⟩
    · exact hQ _ _ ⟨b2, f2, by unfold smT; rw [if_pos c, if_pos (by omega), n2]⟩
    · exact hQ _ _ ⟨b2, f2, by unfold smT; rw [if_pos c, if_neg (by omega), n2]⟩
  · exact hQ _ _ ⟨hB, fun _ _ _ => rfl, by unfold smT; rw [if_neg c, if_pos c2]⟩
  · exact hQ _ _ ⟨hB, fun _ _ _ => rfl, by unfold smT; rw [if_neg c, if_neg c2, if_pos c3]⟩
  · exact hQ _ _ ⟨hB, fun _ _ _ => rfl, by unfold smT; rw [if_neg c, if_neg c2, if_neg c3, if_pos c4]⟩
  · refine fC_bAtom hB v0 (fun z M1 h => hQ _ _ ⟨h.1, h.2.1, ?_⟩)
    unfold smT
    rw [if_neg c, if_neg c2, if_neg c3, if_neg c4]
    exact h.2.2
set_option maxHeartbeats 1000000 in
theorem fC_behind {M : zM} {a0 a1 : Int} (hB : BN wC M) (v0 : 0 ≤ a0 ∧ a0 ≤ 5) (v1 : 0 ≤ a1 ∧ a1 ≤ 255) (hl : 0 ≤ M 1 2) {Q : Int → zM → Prop} (hQ : ∀ (z : Int) (M1 : zM), BN wC M1 ∧ (∀ a b : Nat, ¬ (a = 1 ∧ b = 2) → M1 a b = M a b) ∧ (z, M1 1 2) = smS (a0, M 1 2) a1 → Q z M1) : wC_Splicer_behind a0 a1 M Q := by
  unfold wC_Splicer_behind
  have s0 : sI a0 = a0 := sIo (by omega) (by omega)
  have s1 : sI a1 = a1 := sIo (by omega) (by omega)
  simp only [s0, s1]
  have dig : ∀ {z lo n : Int}, (z = 1 ∧ lo ≤ a1 ∧ a1 ≤ 57) ∨ (z = 0 ∧ ¬ (lo ≤ a1 ∧ a1 ≤ 57)) → smS (a0, M 1 2) a1 = (if lo ≤ a1 ∧ a1 ≤ 57 then (n, M 1 2) else (-1, M 1 2)) → (z = 0 → Q (-1) M) ∧ (z ≠ 0 → Q n M) := by
    intro z lo n p e
    refine ⟨fun c => hQ _ _ ⟨hB, fun _ _ _ => rfl, ?_⟩, fun c => hQ _ _ ⟨hB, fun _ _ _ => rfl, ?_⟩⟩
    · rw [e, if_neg (by omega)]
    · rw [e, if_pos (by omega)]
  refine ⟨fun c => ?_, fun c => ⟨fun c1 => ?_, fun c1 => ⟨fun c2 => ?_, fun c2 => ⟨fun c3 => ?_, fun c3 => ⟨fun c4 => ?_, fun c4 => ⟨fun c5 => ?_, fun c5 => absurd v0 (by omega)⟩⟩⟩⟩⟩⟩
  · refine fC_bAtom hB v1 (fun z M1 h => hQ _ _ ⟨h.1, h.2.1, ?_⟩)
    rw [c, sm0]
    exact h.2.2
  · refine fC_bTerm hB v1 hl (fun z M1 h => hQ _ _ ⟨h.1, h.2.1, ?_⟩)
    rw [c1, sm1]
    exact h.2.2
  · refine sC_Splicer_isDigit hB (by omega) (by omega) (fun z p => ?_)
    exact dig p.2.1 (by rw [c2, sm2])
  · refine sC_Splicer_isDigit hB (by omega) (by omega) (fun z p => ?_)
    exact dig p.2.1 (by rw [c3, sm3])
  · refine sC_Splicer_isDigit hB (by omega) (by omega) (fun z p => ?_)
    exact dig p.2.1 (by rw [c4, sm4])
  · refine ⟨fun c6 => ?_, fun c6 => ?_⟩
    · refine sC_Splicer_isDigit hB (by omega) (by omega) (fun z p => ?_)
      exact dig p.2.1 (by rw [c5, sm5, if_neg c6])
    · exact hQ _ _ ⟨hB, fun _ _ _ => rfl, by rw [c5, sm5, if_pos c6]⟩
theorem smA_in {l v : Int} (hl : 0 ≤ l) : -1 ≤ (smA l v).1 ∧ (smA l v).1 ≤ 5 ∧ ((smA l v).1 = -1 ∨ 0 ≤ (smA l v).2) := by
  unfold smA
  by_cases c1 : 48 ≤ v ∧ v ≤ 57
  · rw [if_pos c1]; exact ⟨by simp, by simp, Or.inr hl⟩
  rw [if_neg c1]
  by_cases c2 : v = 91
  · rw [if_pos c2]; exact ⟨by simp, by simp, Or.inr hl⟩
  rw [if_neg c2]
  by_cases c3 : v = 40 ∧ l < 5
  · rw [if_pos c3]; exact ⟨by simp, by simp, Or.inr (by show 0 ≤ l + 1; omega)⟩
  · rw [if_neg c3]; exact ⟨by simp, by simp, Or.inl rfl⟩
theorem smT_in {l v : Int} (hl : 0 ≤ l) : -1 ≤ (smT l v).1 ∧ (smT l v).1 ≤ 5 ∧ ((smT l v).1 = -1 ∨ 0 ≤ (smT l v).2) := by
  unfold smT
  by_cases c1 : v = 41
  · rw [if_pos c1]
    by_cases c : 1 ≤ l
    · rw [if_pos c]; exact ⟨by simp, by simp, Or.inr (by show 0 ≤ l - 1; omega)⟩
    · rw [if_neg c]; exact ⟨by simp, by simp, Or.inl rfl⟩
  rw [if_neg c1]
  by_cases c2 : v = 42
  · rw [if_pos c2]; exact ⟨by simp, by simp, Or.inr hl⟩
  rw [if_neg c2]
  by_cases c3 : v = 47
  · rw [if_pos c3]; exact ⟨by simp, by simp, Or.inr hl⟩
  rw [if_neg c3]
  by_cases c4 : v = 126
  · rw [if_pos c4]; exact ⟨by simp, by simp, Or.inr hl⟩
  rw [if_neg c4]
  exact smA_in hl
theorem smS_in {a l v : Int} (ha : 0 ≤ a ∧ a ≤ 5) (hl : 0 ≤ l) : -1 ≤ (smS (a, l) v).1 ∧ (smS (a, l) v).1 ≤ 5 ∧ ((smS (a, l) v).1 = -1 ∨ 0 ≤ (smS (a, l) v).2) := by
  have dig : ∀ (lo n : Int), (-1 ≤ n ∧ n ≤ 5) → -1 ≤ (if lo ≤ v ∧ v ≤ 57 then (n, l) else ((-1 : Int), l)).1 ∧ (if lo ≤ v ∧ v ≤ 57 then (n, l) else ((-1 : Int), l)).1 ≤ 5 ∧ ((if lo ≤ v ∧ v ≤ 57 then (n, l) else ((-1 : Int), l)).1 = -1 ∨ 0 ≤ (if lo ≤ v ∧ v ≤ 57 then (n, l) else ((-1 : Int), l)).2) := by
    intro lo n hn
    by_cases c : lo ≤ v ∧ v ≤ 57
    · rw [if_pos c]; exact ⟨hn.1, hn.2, Or.inr hl⟩
    · rw [if_neg c]; exact ⟨by simp, by simp, Or.inl rfl⟩
  rcases (by omega : a = 0 ∨ a = 1 ∨ a = 2 ∨ a = 3 ∨ a = 4 ∨ a = 5) with rfl | rfl | rfl | rfl | rfl | rfl
  · rw [sm0]; exact smA_in hl
  · rw [sm1]; exact smT_in hl
  · rw [sm2]; exact dig _ _ (by decide)
  · rw [sm3]; exact dig _ _ (by decide)
  · rw [sm4]; exact dig _ _ (by decide)
  · rw [sm5]
    by_cases c : v = 93
    · rw [if_pos c]; exact ⟨by simp, by simp, Or.inr hl⟩
    · rw [if_neg c]; exact dig _ _ (by decide)
set_option maxHeartbeats 1000000 in
theorem fC_firstWrong {M : zM} (hB : BN wC M) {Q : Int → zM → Prop} (hQ : ∀ (z : Int) (M1 : zM), BN wC M1 ∧ (∀ a b : Nat, ¬ (a = 1 ∧ b = 2) → M1 a b = M a b) ∧ ((z = -1 ∧ M 1 1 ≤ 60 ∧ AC (M 2) (M 1 1) (0, 0) 0) ∨ (0 ≤ z ∧ z ≤ 100 ∧ ¬ (M 1 1 ≤ 60 ∧ AC (M 2) (M 1 1) (0, 0) 0))) → Q z M1) : wC_Splicer_firstWrong M Q := by
  unfold wC_Splicer_firstWrong
  intro M1 e1
  have bn : 0 ≤ M 1 1 ∧ M 1 1 ≤ 100 := BN.at hB (rfl : zcd wC 1 = 1) rfl
  refine wL2_of (fun x y M2 => BN wC M2 ∧ (∀ a b : Nat, ¬ (a = 1 ∧ b = 2) → M2 a b = M a b) ∧ (0 ≤ y ∧ y ≤ M 1 1 ∧ y ≤ 60) ∧ (x, M2 1 2) = smR (M 2) y.toNat (0, 0) 0 ∧ (0 ≤ x ∧ x ≤ 5) ∧ 0 ≤ M2 1 2) (fun _ y _ => (1000 - y).toNat) ⟨by rw [e1]; exact BN.up hB (rfl : zcd wC 1 = 1) rfl (by omega) (by omega), fun a b h => by rw [e1]; exact zup_n _ _ h, by omega, by rw [e1, zup_s]; rfl, by omega, by rw [e1, zup_s]; omega⟩ (fun K x y M2 h k => ?_)
  obtain ⟨b2, f2, hy, hr, hx, hl⟩ := h
  have n2 : M2 1 1 = M 1 1 := f2 1 1 (by omega)
  have r2 : M2 2 = M 2 := funext fun q => f2 2 q (by omega)
  have sn : sI (M 1 1) = M 1 1 := sIo (by omega) (by omega)
  have sy : sI y = y := sIo (by omega) (by omega)
  have sx : sI x = x := sIo (by omega) (by omega)
  have bl : -1 ≤ M2 1 2 ∧ M2 1 2 ≤ 5 := BN.at b2 (rfl : zcd wC 1 = 1) rfl
  have sl : sI (M2 1 2) = M2 1 2 := sIo (by omega) (by omega)
  have bs : 0 ≤ M 2 y.toNat ∧ M 2 y.toNat ≤ 255 := BN.at hB (rfl : zcd wC 2 = 2) rfl
  simp only [n2, r2, sn, sy, sx, sl]
  refine pJ0_of (M 1 1 ≤ y ∨ 60 ≤ y) (fun hJ => ?_) ⟨fun c => Or.inl c, fun c => ⟨fun c2 => Or.inr c2, fun c2 => ⟨⟨by omega, by omega⟩, ?_⟩⟩⟩
  · refine ⟨fun c => ?_, fun c => hQ _ _ ⟨b2, f2, Or.inr ⟨by omega, by omega, fun h => by omega⟩⟩⟩
    have ey : y = M 1 1 := by omega
    have ea : AC (M 2) (M 1 1) (0, 0) 0 ↔ (x, M2 1 2) = (1, 0) := by
      unfold AC
      rw [hr, ey, show (M 1 1 - 0).toNat = (M 1 1).toNat by omega]
      exact Iff.rfl
    refine ⟨fun d => hQ _ _ ⟨b2, f2, Or.inr ⟨by omega, by omega, fun h => d (congrArg Prod.fst (ea.mp h.2))⟩⟩, fun d => ⟨fun d2 => hQ _ _ ⟨b2, f2, Or.inr ⟨by omega, by omega, fun h => d2 (congrArg Prod.snd (ea.mp h.2))⟩⟩, fun d2 => hQ _ _ ⟨b2, f2, Or.inl ⟨rfl, c, ea.mpr (by rw [d, d2])⟩⟩⟩⟩
  · refine fC_behind b2 hx bs hl (fun z M3 h3 => ?_)
    obtain ⟨b3, f3, h3⟩ := h3
    have hr3 : (z, M3 1 2) = smR (M 2) (y + 1).toNat (0, 0) 0 := by
      rw [show (y + 1).toNat = y.toNat + 1 by omega, smR_snoc, ← hr, Nat.zero_add]
      exact h3
    have f4 : ∀ a b : Nat, ¬ (a = 1 ∧ b = 2) → M3 a b = M a b := fun a b h => (f3 a b h).trans (f2 a b h)
    have hin := smS_in (a := x) (l := M2 1 2) (v := M 2 y.toNat) hx hl
    rw [← h3] at hin
    refine ⟨fun d => k _ _ _ ⟨b3, f4, by omega, hr3, ⟨by have := hin.1; show 0 ≤ z; have : -1 ≤ z := this; omega, hin.2.1⟩, hin.2.2.resolve_left d⟩ (by omega), fun d => hQ _ _ ⟨b3, f4, Or.inr ⟨by omega, by omega, fun h => ?_⟩⟩⟩
    have w := smR_add (M 2) (y + 1).toNat ((M 1 1).toNat - (y + 1).toNat) (0, 0) 0
    rw [← hr3, show (y + 1).toNat + ((M 1 1).toNat - (y + 1).toNat) = (M 1 1 - 0).toNat by omega] at w
    have h2 := h.2
    unfold AC at h2
    rw [show (0 : Int).toNat = 0 from rfl, w] at h2
    have e := smR_w (M 2) ((M 1 1).toNat - (y + 1).toNat) (z, M3 1 2) (0 + (y + 1).toNat) d
    rw [h2] at e
    exact absurd e (by decide)
