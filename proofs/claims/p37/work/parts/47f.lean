section zz47zc_span
/-! old tapes: spans that fit -/
def spV (T : Nat → Int) (n p : Nat) : Int := if (∀ t : Nat, t < n → ∀ u : Nat, u < t → u % p = t % p → (T t = -1 ∨ T u = -1 ∨ T t = T u)) then 1 else 0
theorem spV_b (T : Nat → Int) (n p : Nat) : spV T n p = 0 ∨ spV T n p = 1 := by
  unfold spV
  split
  · exact Or.inr rfl
  · exact Or.inl rfl
theorem spV_cg {T T2 : Nat → Int} {n p : Nat} (h : ∀ k : Nat, k < n → T k = T2 k) : spV T n p = spV T2 n p := by
  unfold spV
  by_cases c : ∀ t : Nat, t < n → ∀ u : Nat, u < t → u % p = t % p → (T t = -1 ∨ T u = -1 ∨ T t = T u)
  · rw [if_pos c, if_pos (fun t ht u hu e => by rw [← h t ht, ← h u (by omega)]; exact c t ht u hu e)]
  · rw [if_neg c, if_neg (fun x => c (fun t ht u hu e => by rw [h t ht, h u (by omega)]; exact x t ht u hu e))]
theorem lt_nx {u t : Nat} (h : u < t + 1) (n : ¬ u = t) : u < t := by omega
def srS (f : Nat → Int) : Nat → Nat → Int → Int
  | 0, _, _ => -1
  | k + 1, p, left => if f p = 0 then srS f k (p + 1) left else if left = 0 then (p : Int) else srS f k (p + 1) (left - 1)
theorem srS_n {f : Nat → Int} : ∀ (k p : Nat) (left : Int), left < 0 → srS f k p left = -1
  | 0, _, _, _ => rfl
  | k + 1, p, left, h => by
    show (if f p = 0 then srS f k (p + 1) left else if left = 0 then (p : Int) else srS f k (p + 1) (left - 1)) = -1
    rw [srS_n k (p + 1) left h, srS_n k (p + 1) (left - 1) (by omega), if_neg (show ¬ left = 0 by omega)]
    split <;> rfl
theorem srS_cg {f g : Nat → Int} (h : ∀ p : Nat, f p = g p) : ∀ (k p : Nat) (left : Int), srS f k p left = srS g k p left := fun k p left => by rw [show f = g from funext h]
set_option maxHeartbeats 2000000 in
theorem fC_spanFits {M : zM} {p : Nat} {a0 : Int} (hB : BN wC M) (ha : a0 = (p : Int)) (hp : 1 ≤ p ∧ p ≤ 24) {Q : Int → zM → Prop} (hQ : ∀ M1 : zM, BN wC M1 ∧ (∀ j9 : Nat, ¬ (j9 = 84) → M1 j9 = M j9) → Q (spV (M 83) (M 82 1).toNat p) M1) : wC_OldTape_spanFits a0 M Q := by
  unfold wC_OldTape_spanFits
  have bc : 0 ≤ M 82 1 ∧ M 82 1 ≤ 60 := BN.at hB (rfl : zcd wC 82 = 34) rfl
  refine fC_fill (N := 24) hB (rfl : zln wC 84 = 24) (by omega) (rfl : zcd wC 84 = 36) (fun _ => rfl) (by omega) (fun M1 h1 => ?_)
  obtain ⟨b1, f1, v1⟩ := h1
  refine wL1_of (fun x M2 => BN wC M2 ∧ (∀ j9 : Nat, ¬ (j9 = 84) → M2 j9 = M j9) ∧ ∃ t : Nat, x = (t : Int) ∧ (t : Int) ≤ M 82 1 ∧ (∀ t' : Nat, t' < t → ∀ u : Nat, u < t' → u % p = t' % p → (M 83 t' = -1 ∨ M 83 u = -1 ∨ M 83 t' = M 83 u)) ∧ ∀ i : Nat, i < p → (M2 84 i = -1 ∧ ∀ u : Nat, u < t → u % p = i → M 83 u = -1) ∨ (M2 84 i ≠ -1 ∧ (∃ u : Nat, u < t ∧ u % p = i ∧ M 83 u = M2 84 i) ∧ ∀ u : Nat, u < t → u % p = i → (M 83 u = -1 ∨ M 83 u = M2 84 i))) (fun x _ => (1000 - x).toNat) ⟨b1, f1, 0, rfl, by omega, fun t' h => absurd h (Nat.not_lt_zero t'), fun i hi => Or.inl ⟨v1 i (by omega), fun u h => absurd h (Nat.not_lt_zero u)⟩⟩ (fun K x M2 h k => ?_)
  obtain ⟨b2, f2, t, rfl, ht, hok, hv⟩ := h
  have st : sI (t : Int) = t := sIo (by omega) (by omega)
  have tt : ((t : Int)).toNat = t := by omega
  have s82 : sI (M 82 1) = M 82 1 := sIo (by omega) (by omega)
  rw [f2 82 (by omega), f2 83 (by omega), st, tt, s82]
  refine ⟨fun c => ?_, fun c => ?_⟩
  · have e : spV (M 83) (M 82 1).toNat p = 1 := if_pos (fun t' h' u hu e => hok t' (by omega) u hu e)
    have q := hQ M2 ⟨b2, f2⟩
    rw [e] at q
    exact q
  · refine fC_by (by omega) (by omega) ?_
    have em : (t : Int) % a0 = ((t % p : Nat) : Int) := by rw [ha]; exact (Int.natCast_emod t p).symm
    have lt := Nat.mod_lt t (show p > 0 by omega)
    have r84 := BN.r32 b2 84 (t % p)
    have r83 := BN.r32 hB 83 t
    rw [em, show (((t % p : Nat) : Int)).toNat = t % p by omega, sIo (z := M2 84 (t % p)) (by omega) (by omega), sIo (z := M 83 t) (by omega) (by omega)]
    have step : ∀ M3 : zM, BN wC M3 → (∀ j9 : Nat, ¬ (j9 = 84) → M3 j9 = M j9) → (∀ u : Nat, u < t → u % p = t % p → (M 83 t = -1 ∨ M 83 u = -1 ∨ M 83 t = M 83 u)) → (∀ i : Nat, i ≠ t % p → M3 84 i = M2 84 i) → ((M3 84 (t % p) = -1 ∧ ∀ u : Nat, u < t + 1 → u % p = t % p → M 83 u = -1) ∨ (M3 84 (t % p) ≠ -1 ∧ (∃ u : Nat, u < t + 1 ∧ u % p = t % p ∧ M 83 u = M3 84 (t % p)) ∧ ∀ u : Nat, u < t + 1 → u % p = t % p → (M 83 u = -1 ∨ M 83 u = M3 84 (t % p)))) → K ((t : Int) + 1) M3 := fun M3 b3 f3 h3 g3 x3 => by
      refine k _ _ ⟨b3, f3, t + 1, by omega, by omega, fun t' h' u hu e => ?_, fun i hi => ?_⟩ (by omega)
      · by_cases c5 : t' = t
        · subst c5
          exact h3 u hu e
        · exact hok t' (by omega) u hu e
      · by_cases c5 : i = t % p
        · rw [c5]
          exact x3
        · rw [g3 i c5]
          rcases hv i hi with ⟨y1, y2⟩ | ⟨y1, ⟨u, y2, y3, y4⟩, y5⟩
          · exact Or.inl ⟨y1, fun u hu e => y2 u (lt_nx hu (fun c6 => c5 (by rw [← e, c6]))) e⟩
          · exact Or.inr ⟨y1, ⟨u, by omega, y3, y4⟩, fun w hw e => y5 w (lt_nx hw (fun c6 => c5 (by rw [← e, c6]))) e⟩
    refine ⟨by omega, fun c2 => ⟨by omega, fun c3 => ?_, fun c3 => ⟨by omega, by omega, fun c4 => ?_, fun c4 => ?_⟩⟩, fun c2 => ⟨by omega, by omega, fun M3 e3 => ?_⟩⟩
    · rcases hv (t % p) lt with ⟨y1, y2⟩ | ⟨y1, ⟨u, y2, y3, y4⟩, y5⟩
      · exact absurd y1 c2
      · refine step M2 b2 f2 (fun _ _ _ => Or.inl c3) (fun _ _ => rfl) (Or.inr ⟨y1, ⟨u, by omega, y3, y4⟩, fun w hw e => ?_⟩)
        by_cases c6 : w = t
        · rw [c6]
          exact Or.inl c3
        · exact y5 w (by omega) e
    · rcases hv (t % p) lt with ⟨y1, y2⟩ | ⟨y1, ⟨u, y2, y3, y4⟩, y5⟩
      · exact absurd y1 c2
      · refine step M2 b2 f2 (fun w hw e => ?_) (fun _ _ => rfl) (Or.inr ⟨y1, ⟨u, by omega, y3, y4⟩, fun w hw e => ?_⟩)
        · rcases y5 w hw e with z | z
          · exact Or.inr (Or.inl z)
          · exact Or.inr (Or.inr (by rw [c4, z]))
        · by_cases c6 : w = t
          · rw [c6]
            exact Or.inr c4
          · exact y5 w (by omega) e
    · rcases hv (t % p) lt with ⟨y1, y2⟩ | ⟨y1, ⟨u, y2, y3, y4⟩, y5⟩
      · exact absurd y1 c2
      · have e : spV (M 83) (M 82 1).toNat p = 0 := if_neg (fun x => by
          rcases x t (by omega) u y2 y3 with z | z | z
          · exact c3 z
          · rw [y4] at z
            exact c2 z
          · rw [y4] at z
            exact c4 z)
        have q := hQ M2 ⟨b2, f2⟩
        rw [e] at q
        exact q
    · rcases hv (t % p) lt with ⟨y1, y2⟩ | ⟨y1, -⟩
      · refine step M3 (by rw [e3]; exact BN.up b2 (rfl : zcd wC 84 = 36) rfl r83.1 r83.2) (fun j9 h9 => by rw [e3, zup_row _ _ h9]; exact f2 j9 h9) (fun u hu e => Or.inr (Or.inl (y2 u hu e))) (fun i hi => by rw [e3, zup_n _ _ (by omega)]) ?_
        rw [e3, zup_s]
        by_cases c5 : M 83 t = -1
        · refine Or.inl ⟨c5, fun u hu e => ?_⟩
          by_cases c6 : u = t
          · rw [c6]
            exact c5
          · exact y2 u (by omega) e
        · refine Or.inr ⟨c5, ⟨t, by omega, rfl, rfl⟩, fun u hu e => ?_⟩
          by_cases c6 : u = t
          · rw [c6]
            exact Or.inr rfl
          · exact Or.inl (y2 u (by omega) e)
      · exact absurd c2 y1
theorem fC_span {M : zM} {a0 : Int} (hB : BN wC M) (v0 : -2147483648 ≤ a0 ∧ a0 ≤ 2147483647) {Q : Int → zM → Prop} (hQ : ∀ (z : Int) (M1 : zM), BN wC M1 ∧ (∀ j9 : Nat, ¬ (82 ≤ j9 ∧ j9 ≤ 85) → M1 j9 = M j9) ∧ (M1 82 = M 82 ∧ M1 83 = M 83) ∧ z = srS (spV (M 83) (M 82 1).toNat) 24 1 a0 → Q z M1) : wC_span a0 M Q := by
  unfold wC_span wC_OldTape_spanNumber
  refine wL2_of (fun x y M2 => BN wC M2 ∧ (∀ j9 : Nat, ¬ (j9 = 84) → M2 j9 = M j9) ∧ ∃ p : Nat, y = (p : Int) ∧ 1 ≤ p ∧ p ≤ 25 ∧ 0 ≤ x ∧ x < (p : Int) ∧ srS (spV (M 83) (M 82 1).toNat) (25 - p) p (a0 - x) = srS (spV (M 83) (M 82 1).toNat) 24 1 a0) (fun _ y _ => (1000 - y).toNat) ⟨hB, fun _ _ => rfl, 1, rfl, by omega, by omega, by omega, by omega, by rw [show a0 - 0 = a0 by omega]⟩ (fun K x y M2 h k => ?_)
  obtain ⟨b2, f2, p, rfl, p1, p2, x0, x1, he⟩ := h
  have sp : sI (p : Int) = p := sIo (by omega) (by omega)
  have fin : ∀ (z : Int) (M3 : zM), BN wC M3 → (∀ j9 : Nat, ¬ (j9 = 84) → M3 j9 = M j9) → z = srS (spV (M 83) (M 82 1).toNat) 24 1 a0 → Q z M3 := fun z M3 b3 f3 hz => hQ _ _ ⟨b3, fun j9 h9 => f3 j9 (by omega), ⟨f3 82 (by omega), f3 83 (by omega)⟩, hz⟩
  rw [sp, sIo (z := x) (by omega) (by omega), sIo v0.1 v0.2]
  refine ⟨fun c => fin _ _ b2 f2 ?_, fun c => ?_⟩
  · rw [← he, show 25 - p = 0 by omega]
    rfl
  · have eu : srS (spV (M 83) (M 82 1).toNat) (25 - p) p (a0 - x) = if spV (M 83) (M 82 1).toNat p = 0 then srS (spV (M 83) (M 82 1).toNat) (25 - (p + 1)) (p + 1) (a0 - x) else if a0 - x = 0 then (p : Int) else srS (spV (M 83) (M 82 1).toNat) (25 - (p + 1)) (p + 1) (a0 - x - 1) := by
      rw [show 25 - p = (25 - (p + 1)) + 1 by omega]
      rfl
    refine fC_spanFits (p := p) b2 rfl ⟨p1, by omega⟩ (fun M3 h3 => ?_)
    obtain ⟨b3, f3⟩ := h3
    rw [f2 83 (by omega), f2 82 (by omega)]
    have f3' : ∀ j9 : Nat, ¬ (j9 = 84) → M3 j9 = M j9 := fun j9 h9 => (f3 j9 h9).trans (f2 j9 h9)
    have bs := spV_b (M 83) (M 82 1).toNat p
    refine ⟨fun c2 => k _ _ _ ⟨b3, f3', p + 1, by omega, by omega, by omega, x0, by omega, ?_⟩ (by omega), fun c2 => ⟨fun c3 => k _ _ _ ⟨b3, f3', p + 1, by omega, by omega, by omega, by omega, by omega, ?_⟩ (by omega), fun c3 => fin _ _ b3 f3' ?_⟩⟩
    · rw [← he, eu, if_pos c2]
    · rw [← he, eu, if_neg c2, if_neg (by omega), show a0 - (x + 1) = a0 - x - 1 by omega]
    · rw [← he, eu, if_neg c2, if_pos (by omega)]
theorem fR_isSpan {M : zM} {p : Nat} {a0 : Int} (hB : BI M) (ha : a0 = (p : Int)) (hp : 1 ≤ p ∧ p ≤ 24) {Q : Int → Prop} (hQ : Q (spV (M 15) (M 0 24).toNat p)) : wR_isSpan a0 M Q := by
  unfold wR_isSpan
  have bc : 0 ≤ M 0 24 ∧ M 0 24 ≤ 60 := BN.at hB.1 (rfl : zcd wR 0 = 50) rfl
  have s24 : sI (M 0 24) = M 0 24 := sIo (by omega) (by omega)
  rw [s24]
  refine pL1_of (fun x => ∃ t : Nat, x = (t : Int) ∧ (t : Int) ≤ M 0 24 ∧ ∀ u : Nat, u < t → ∀ w : Nat, (w : Int) < M 0 24 → u < w → u % p = w % p → (M 15 w = -1 ∨ M 15 u = -1 ∨ M 15 w = M 15 u)) (fun x => (1000 - x).toNat) ⟨0, rfl, by omega, fun u h => absurd h (Nat.not_lt_zero u)⟩ (fun K x h k => ?_)
  obtain ⟨t, rfl, ht, hok⟩ := h
  have st : sI (t : Int) = t := sIo (by omega) (by omega)
  have tt : ((t : Int)).toNat = t := by omega
  have r15 := BN.r32 hB.1 15 t
  rw [st, tt, ha]
  refine ⟨fun c => ?_, fun c => ?_⟩
  · have e : spV (M 15) (M 0 24).toNat p = 1 := if_pos (fun t' h' u hu e => hok u (by omega) t' (by omega) hu e)
    rw [e] at hQ
    exact hQ
  · refine pL1_of (fun y => ∃ w : Nat, y = (w : Int) ∧ t < w ∧ (w : Int) < M 0 24 + (p : Int) ∧ w % p = t % p ∧ ∀ v : Nat, t < v → v < w → t % p = v % p → (M 15 v = -1 ∨ M 15 t = -1 ∨ M 15 v = M 15 t)) (fun y => (1000 - y).toNat) ⟨t + p, by omega, by omega, by omega, Nat.add_mod_right t p, fun v h1 h2 e => ?_⟩ (fun K2 y h2 k2 => ?_)
    · exfalso
      have d := Nat.sub_mod_eq_zero_of_mod_eq e.symm
      have z := Nat.le_of_dvd (by omega) (Nat.dvd_of_mod_eq_zero d)
      omega
    obtain ⟨w, rfl, w1, w2, w3, hw⟩ := h2
    have sw : sI (w : Int) = w := sIo (by omega) (by omega)
    have tw : ((w : Int)).toNat = w := by omega
    have r16 := BN.r32 hB.1 15 w
    rw [sw, tw, sIo (z := M 15 t) (by omega) (by omega), sIo (z := M 15 w) (by omega) (by omega)]
    refine ⟨fun c2 => k _ ⟨t + 1, by omega, by omega, fun u hu v h1 h2 e => ?_⟩ (by omega), fun c2 => ?_⟩
    · by_cases c5 : u = t
      · subst c5
        exact hw v h2 (by omega) e
      · exact hok u (by omega) v h1 h2 e
    · have step : (M 15 w = -1 ∨ M 15 t = -1 ∨ M 15 w = M 15 t) → K2 ((w : Int) + (p : Int)) := fun g => by
        refine k2 _ ⟨w + p, by omega, by omega, by omega, by rw [Nat.add_mod_right]; exact w3, fun v h1 h2 e => ?_⟩ (by omega)
        by_cases c5 : v < w
        · exact hw v h1 c5 e
        · by_cases c6 : v = w
          · rw [c6]
            exact g
          · exfalso
            have d := Nat.sub_mod_eq_zero_of_mod_eq (e.symm.trans w3.symm)
            have z := Nat.le_of_dvd (by omega) (Nat.dvd_of_mod_eq_zero d)
            omega
      refine ⟨by omega, fun c3 => step (Or.inr (Or.inl c3)), fun c3 => ⟨by omega, fun c4 => step (Or.inl c4), fun c4 => ⟨by omega, by omega, fun c5 => step (Or.inr (Or.inr c5.symm)), fun c5 => ?_⟩⟩⟩
      have e : spV (M 15) (M 0 24).toNat p = 0 := if_neg (fun x => by
        rcases x w (by omega) t w1 w3.symm with z | z | z
        · exact c4 z
        · exact c3 z
        · exact c5 z.symm)
      rw [e] at hQ
      exact hQ
theorem fR_span {M : zM} {a0 : Int} (hB : BI M) (v0 : -2147483648 ≤ a0 ∧ a0 ≤ 2147483647) {Q : Int → zM → Prop} (hQ : ∀ (z : Int) (M1 : zM), BI M1 ∧ (∀ j9 k9 : Nat, ¬ (j9 = 0 ∧ k9 = 35) → M1 j9 k9 = M j9 k9) ∧ z = srS (spV (M 15) (M 0 24).toNat) 24 1 a0 → Q z M1) : wR_span a0 M Q := by
  unfold wR_span
  intro M1 e1
  have hB1 : BI M1 := by rw [e1]; exact BI.up0 hB (rfl : cbt 50 35 = (-2147483648, 2147483647)) (by omega) (by omega) (by decide)
  have F1 : ∀ j9 k9 : Nat, ¬ (j9 = 0 ∧ k9 = 35) → M1 j9 k9 = M j9 k9 := fun j9 k9 h9 => by rw [e1]; exact zup_n _ _ (by omega)
  have fin : ∀ z : Int, z = srS (spV (M 15) (M 0 24).toNat) 24 1 a0 → Q z M1 := fun z hz => hQ _ _ ⟨hB1, F1, hz⟩
  have e15 : M1 15 = M 15 := funext fun q => F1 15 q (by omega)
  refine pL2_of (fun x y => ∃ p : Nat, y = (p : Int) ∧ 1 ≤ p ∧ p ≤ 25 ∧ a0 - (p : Int) + 1 ≤ x ∧ (0 ≤ x ∨ x = -1 ∨ x = a0) ∧ x ≤ a0 ∧ srS (spV (M 15) (M 0 24).toNat) (25 - p) p x = srS (spV (M 15) (M 0 24).toNat) 24 1 a0) (fun _ y => (1000 - y).toNat) ⟨1, rfl, by omega, by omega, by omega, by omega, by omega, rfl⟩ (fun K x y h k => ?_)
  obtain ⟨p, rfl, p1, p2, x0, x1, x2, he⟩ := h
  have sp : sI (p : Int) = p := sIo (by omega) (by omega)
  rw [sp, sIo (z := x) (by omega) (by omega)]
  refine ⟨fun c => fin _ ?_, fun c => ⟨fun c2 => fin _ ?_, fun c2 => ?_⟩⟩
  · rw [← he, show 25 - p = 0 by omega]
    rfl
  · rw [← he, srS_n _ _ _ c2]
  · have eu : srS (spV (M 15) (M 0 24).toNat) (25 - p) p x = if spV (M 15) (M 0 24).toNat p = 0 then srS (spV (M 15) (M 0 24).toNat) (25 - (p + 1)) (p + 1) x else if x = 0 then (p : Int) else srS (spV (M 15) (M 0 24).toNat) (25 - (p + 1)) (p + 1) (x - 1) := by
      rw [show 25 - p = (25 - (p + 1)) + 1 by omega]
      rfl
    refine fR_isSpan (p := p) hB1 rfl ⟨p1, by omega⟩ ?_
    rw [e15, F1 0 24 (by omega)]
    refine ⟨fun c3 => ⟨fun c4 => k _ _ ⟨p + 1, by omega, by omega, by omega, by omega, by omega, by omega, ?_⟩ (by omega), fun c4 => fin _ ?_⟩, fun c3 => k _ _ ⟨p + 1, by omega, by omega, by omega, by omega, by omega, by omega, ?_⟩ (by omega)⟩
    · rw [← he, eu, if_neg c3, if_neg c4]
      rfl
    · rw [← he, eu, if_neg c3, if_pos c4]
    · rw [← he, eu, if_pos c3]
theorem span_det {MC MR : zM} {a0 z z9 : Int} (h : iTa MC MR) (p : z = srS (spV (MC 83) (MC 82 1).toNat) 24 1 a0) (q : z9 = srS (spV (MR 15) (MR 0 24).toNat) 24 1 a0) : z = z9 := by
  obtain ⟨h1, h2, h3⟩ := h
  rw [p, q, ← h1]
  exact srS_cg (fun k => spV_cg (fun i hi => h3 i (by omega))) _ _ _
end zz47zc_span
section zz47zd_pair
/-! old tapes: pairs that fit, what is mended -/
def grt (T : Nat → Int) (p i : Nat) : Nat → Int
  | 0 => 1022
  | n + 1 => if n % p = i ∧ ¬ T n = -1 then andI (grt T p i n) (T n) else grt T p i n
theorem grt_r (T : Nat → Int) (p i : Nat) : ∀ n : Nat, -2147483648 ≤ grt T p i n ∧ grt T p i n ≤ 2147483647
  | 0 => ⟨by show (-2147483648 : Int) ≤ 1022; omega, by show (1022 : Int) ≤ 2147483647; omega⟩
  | n + 1 => by
    have a := grt_r T p i n
    show -2147483648 ≤ (if n % p = i ∧ ¬ T n = -1 then andI (grt T p i n) (T n) else grt T p i n) ∧ (if n % p = i ∧ ¬ T n = -1 then andI (grt T p i n) (T n) else grt T p i n) ≤ 2147483647
    split
    · exact andI_R _ _
    · exact a
theorem grt_cg {T T2 : Nat → Int} {p i : Nat} : ∀ n : Nat, (∀ k : Nat, k < n → T k = T2 k) → grt T p i n = grt T2 p i n
  | 0, _ => rfl
  | n + 1, h => by
    show (if n % p = i ∧ ¬ T n = -1 then andI (grt T p i n) (T n) else grt T p i n) = (if n % p = i ∧ ¬ T2 n = -1 then andI (grt T2 p i n) (T2 n) else grt T2 p i n)
    rw [grt_cg n (fun k hk => h k (by omega)), h n (by omega)]
theorem grt_0 {T : Nat → Int} {p i : Nat} (hp : i < p) : ∀ n : Nat, n ≤ i → grt T p i n = 1022
  | 0, _ => rfl
  | n + 1, h => by
    show (if n % p = i ∧ ¬ T n = -1 then andI (grt T p i n) (T n) else grt T p i n) = 1022
    have e := Nat.mod_eq_of_lt (show n < p by omega)
    rw [if_neg (by omega)]
    exact grt_0 hp n (by omega)
theorem grt_sk {T : Nat → Int} {p i u : Nat} (hu : u % p = i) : ∀ n : Nat, u < n → n ≤ u + p → grt T p i n = if ¬ T u = -1 then andI (grt T p i u) (T u) else grt T p i u
  | 0, h, _ => absurd h (Nat.not_lt_zero u)
  | n + 1, h, h2 => by
    show (if n % p = i ∧ ¬ T n = -1 then andI (grt T p i n) (T n) else grt T p i n) = _
    by_cases c : n = u
    · subst c
      by_cases d : T n = -1
      · rw [if_neg (fun x => x.2 d), if_neg (fun x => x d)]
      · rw [if_pos ⟨hu, d⟩, if_pos d]
    · have ne : ¬ n % p = i := fun e => by
        have d := Nat.sub_mod_eq_zero_of_mod_eq (e.trans hu.symm)
        have z := Nat.le_of_dvd (by omega) (Nat.dvd_of_mod_eq_zero d)
        omega
      rw [if_neg (fun x => ne x.1)]
      exact grt_sk hu n (by omega) (by omega)
def ptV (T : Nat → Int) (n p q : Nat) : Int := if (∀ t : Nat, t < n → (T t = -1 ∨ orI (grt T p (t % p) n) (grt T q (t % q) n) = T t)) then 1 else 0
theorem ptV_cg {T T2 : Nat → Int} {n p q : Nat} (h : ∀ k : Nat, k < n → T k = T2 k) : ptV T n p q = ptV T2 n p q := by
  unfold ptV
  by_cases c : ∀ t : Nat, t < n → (T t = -1 ∨ orI (grt T p (t % p) n) (grt T q (t % q) n) = T t)
  · rw [if_pos c, if_pos (fun t ht => by rw [← h t ht, ← grt_cg n h, ← grt_cg n h]; exact c t ht)]
  · rw [if_neg c, if_neg (fun x => c (fun t ht => by rw [h t ht, grt_cg n h, grt_cg n h]; exact x t ht))]
def srP (f : Nat → Nat → Int) : Nat → Nat → Nat → Int → Int
  | 0, _, _, _ => -1
  | k + 1, s, p, left => if 48 < s then -1 else if s < 2 * p then srP f k (s + 1) (max 1 (s + 1 - 24)) left else if f p (s - p) = 0 then srP f k s (p + 1) left else if left = 0 then 100 * (p : Int) + (s : Int) - (p : Int) else srP f k s (p + 1) (left - 1)
theorem srP_n {f : Nat → Nat → Int} : ∀ (k s p : Nat) (left : Int), left < 0 → srP f k s p left = -1
  | 0, _, _, _, _ => rfl
  | k + 1, s, p, left, h => by
    show (if 48 < s then -1 else if s < 2 * p then srP f k (s + 1) (max 1 (s + 1 - 24)) left else if f p (s - p) = 0 then srP f k s (p + 1) left else if left = 0 then 100 * (p : Int) + (s : Int) - (p : Int) else srP f k s (p + 1) (left - 1)) = -1
    rw [srP_n k (s + 1) _ left h, srP_n k s (p + 1) left h, srP_n k s (p + 1) (left - 1) (by omega), if_neg (show ¬ left = 0 by omega)]
    split
    · rfl
    · split
      · rfl
      · split <;> rfl
theorem fC_makeGreatest {M : zM} {j p : Nat} {a1 : Int} (hB : BN wC M) (hj : j = 84 ∨ j = 85) (ha : a1 = (p : Int)) (hp : 1 ≤ p ∧ p ≤ 24) {Q : zM → Prop} (hQ : ∀ M1 : zM, BN wC M1 ∧ (∀ j9 : Nat, j9 ≠ j → M1 j9 = M j9) ∧ (∀ i : Nat, i < p → M1 j i = grt (M 83) p i (M 82 1).toNat) → Q M1) : wC_OldTape_makeGreatest j a1 M Q := by
  unfold wC_OldTape_makeGreatest
  have bc : 0 ≤ M 82 1 ∧ M 82 1 ≤ 60 := BN.at hB (rfl : zcd wC 82 = 34) rfl
  have hln : zln wC j = 24 := by rcases hj with e | e <;> rw [e] <;> rfl
  have hcd : ∀ k : Nat, cbt (zcd wC j) k = (-2147483648, 2147483647) := by rcases hj with e | e <;> rw [e] <;> exact fun _ => rfl
  refine fC_fill (N := 24) hB hln (by omega) rfl hcd (by omega) (fun M1 h1 => ?_)
  obtain ⟨b1, f1, v1⟩ := h1
  refine wL1_of (fun x M2 => BN wC M2 ∧ (∀ j9 : Nat, j9 ≠ j → M2 j9 = M j9) ∧ ∃ t : Nat, x = (t : Int) ∧ (t : Int) ≤ M 82 1 ∧ ∀ i : Nat, i < p → M2 j i = grt (M 83) p i t) (fun x _ => (1000 - x).toNat) ⟨b1, f1, 0, rfl, by omega, fun i hi => v1 i (by omega)⟩ (fun K x M2 h k => ?_)
  obtain ⟨b2, f2, t, rfl, ht, hv⟩ := h
  have st : sI (t : Int) = t := sIo (by omega) (by omega)
  have tt : ((t : Int)).toNat = t := by omega
  have r83 := BN.r32 hB 83 t
  rw [f2 82 (by omega), f2 83 (by omega), st, tt, sIo (z := M 82 1) (by omega) (by omega), sIo (z := M 83 t) (by omega) (by omega), hln]
  refine ⟨fun c => hQ _ ⟨b2, f2, fun i hi => by rw [show (M 82 1).toNat = t by omega]; exact hv i hi⟩, fun c => ⟨by omega, fun c2 => ?_, fun c2 => ?_⟩⟩
  · refine k _ _ ⟨b2, f2, t + 1, by omega, by omega, fun i hi => ?_⟩ (by omega)
    show M2 j i = if t % p = i ∧ ¬ M 83 t = -1 then andI (grt (M 83) p i t) (M 83 t) else grt (M 83) p i t
    rw [if_neg (fun x => x.2 c2)]
    exact hv i hi
  · refine fC_by (by omega) (by omega) ?_
    have em : (t : Int) % a1 = ((t % p : Nat) : Int) := by rw [ha]; exact (Int.natCast_emod t p).symm
    have lt := Nat.mod_lt t (show p > 0 by omega)
    rw [em, show (((t % p : Nat) : Int)).toNat = t % p by omega]
    refine ⟨by omega, by omega, by omega, fun M3 e3 => ?_⟩
    have ra := andI_R (M2 j (t % p)) (M 83 t)
    refine k _ _ ⟨by rw [e3]; exact BN.up b2 rfl (hcd _) ra.1 ra.2, fun j9 h9 => by rw [e3, zup_row _ _ h9]; exact f2 j9 h9, t + 1, by omega, by omega, fun i hi => ?_⟩ (by omega)
    show M3 j i = if t % p = i ∧ ¬ M 83 t = -1 then andI (grt (M 83) p i t) (M 83 t) else grt (M 83) p i t
    rw [e3]
    by_cases c5 : i = t % p
    · rw [c5, zup_s, if_pos ⟨rfl, c2⟩, hv _ lt]
    · rw [zup_n _ _ (by omega), if_neg (fun x => c5 x.1.symm)]
      exact hv i hi
theorem fC_pairFits {M : zM} {p q : Nat} {a0 a1 : Int} (hB : BN wC M) (ha : a0 = (p : Int)) (hb : a1 = (q : Int)) (hp : 1 ≤ p ∧ p ≤ 24) (hq : 1 ≤ q ∧ q ≤ 24) {Q : Int → zM → Prop} (hQ : ∀ M1 : zM, BN wC M1 ∧ (∀ j9 : Nat, ¬ (84 ≤ j9 ∧ j9 ≤ 85) → M1 j9 = M j9) ∧ (∀ i : Nat, i < p → M1 84 i = grt (M 83) p i (M 82 1).toNat) ∧ (∀ i : Nat, i < q → M1 85 i = grt (M 83) q i (M 82 1).toNat) → Q (ptV (M 83) (M 82 1).toNat p q) M1) : wC_OldTape_pairFits a0 a1 M Q := by
  unfold wC_OldTape_pairFits
  have bc : 0 ≤ M 82 1 ∧ M 82 1 ≤ 60 := BN.at hB (rfl : zcd wC 82 = 34) rfl
  refine fC_makeGreatest (p := p) hB (Or.inl rfl) ha hp (fun M1 h1 => ?_)
  obtain ⟨b1, f1, v1⟩ := h1
  refine fC_makeGreatest (p := q) b1 (Or.inr rfl) hb hq (fun M2 h2 => ?_)
  obtain ⟨b2, f2, v2⟩ := h2
  rw [f1 83 (by omega), f1 82 (by omega)] at v2
  have g84 : ∀ i : Nat, i < p → M2 84 i = grt (M 83) p i (M 82 1).toNat := fun i hi => by rw [f2 84 (by omega)]; exact v1 i hi
  have f9 : ∀ j9 : Nat, ¬ (84 ≤ j9 ∧ j9 ≤ 85) → M2 j9 = M j9 := fun j9 h9 => (f2 j9 (by omega)).trans (f1 j9 (by omega))
  have Q2 := hQ M2 ⟨b2, f9, g84, v2⟩
  rw [f9 82 (by omega), f9 83 (by omega), sIo (z := M 82 1) (by omega) (by omega)]
  refine pL1_of (fun x => ∃ t : Nat, x = (t : Int) ∧ (t : Int) ≤ M 82 1 ∧ ∀ u : Nat, u < t → (M 83 u = -1 ∨ orI (grt (M 83) p (u % p) (M 82 1).toNat) (grt (M 83) q (u % q) (M 82 1).toNat) = M 83 u)) (fun x => (1000 - x).toNat) ⟨0, rfl, by omega, fun u h => absurd h (Nat.not_lt_zero u)⟩ (fun K x h k => ?_)
  obtain ⟨t, rfl, ht, hv⟩ := h
  have st : sI (t : Int) = t := sIo (by omega) (by omega)
  have tt : ((t : Int)).toNat = t := by omega
  have r83 := BN.r32 hB 83 t
  rw [st, tt, sIo (z := M 83 t) (by omega) (by omega)]
  refine ⟨fun c => ?_, fun c => ⟨by omega, fun c2 => ?_, fun c2 => ?_⟩⟩
  · have e : ptV (M 83) (M 82 1).toNat p q = 1 := if_pos (fun u hu => hv u (by omega))
    rw [e] at Q2
    exact Q2
  · refine k _ ⟨t + 1, by omega, by omega, fun u hu => ?_⟩ (by omega)
    by_cases c5 : u = t
    · rw [c5]
      exact Or.inl c2
    · exact hv u (by omega)
  · refine fC_by (by omega) (by omega) ?_
    have em : (t : Int) % a0 = ((t % p : Nat) : Int) := by rw [ha]; exact (Int.natCast_emod t p).symm
    have em2 : (t : Int) % a1 = ((t % q : Nat) : Int) := by rw [hb]; exact (Int.natCast_emod t q).symm
    have lt := Nat.mod_lt t (show p > 0 by omega)
    have lt2 := Nat.mod_lt t (show q > 0 by omega)
    rw [em, show (((t % p : Nat) : Int)).toNat = t % p by omega, g84 _ lt]
    refine ⟨by omega, ?_⟩
    refine fC_by (by omega) (by omega) ?_
    rw [em2, show (((t % q : Nat) : Int)).toNat = t % q by omega, v2 _ lt2]
    refine ⟨by omega, by omega, fun c3 => k _ ⟨t + 1, by omega, by omega, fun u hu => ?_⟩ (by omega), fun c3 => ?_⟩
    · by_cases c5 : u = t
      · rw [c5]
        exact Or.inr c3
      · exact hv u (by omega)
    · have e : ptV (M 83) (M 82 1).toNat p q = 0 := if_neg (fun x => (x t (by omega)).elim c2 c3)
      rw [e] at Q2
      exact Q2
set_option maxHeartbeats 2000000 in
theorem fC_pairNumber {M : zM} {a0 : Int} (hB : BN wC M) (v0 : -2147483648 ≤ a0 ∧ a0 ≤ 2147483647) {Q : Int → zM → Prop} (hQ : ∀ (z : Int) (M1 : zM), BN wC M1 ∧ (∀ j9 : Nat, ¬ (84 ≤ j9 ∧ j9 ≤ 85) → M1 j9 = M j9) ∧ z = srP (ptV (M 83) (M 82 1).toNat) 2000 2 1 a0 ∧ (z ≠ -1 → ∃ p q : Nat, (1 ≤ p ∧ p ≤ 24) ∧ (1 ≤ q ∧ q ≤ 24) ∧ z = 100 * (p : Int) + (q : Int) ∧ (∀ i : Nat, i < p → M1 84 i = grt (M 83) p i (M 82 1).toNat) ∧ (∀ i : Nat, i < q → M1 85 i = grt (M 83) q i (M 82 1).toNat)) → Q z M1) : wC_OldTape_pairNumber a0 M Q := by
  unfold wC_OldTape_pairNumber
  obtain ⟨f, hf⟩ : ∃ f : Nat → Nat → Int, ptV (M 83) (M 82 1).toNat = f := ⟨_, rfl⟩
  rw [hf] at hQ
  refine wL2_of (fun x y M2 => BN wC M2 ∧ (∀ j9 : Nat, ¬ (84 ≤ j9 ∧ j9 ≤ 85) → M2 j9 = M j9) ∧ ∃ s : Nat, y = (s : Int) ∧ 2 ≤ s ∧ s ≤ 49 ∧ 0 ≤ x ∧ x ≤ 100 * ((s : Int) - 2) ∧ ∃ k : Nat, 30 * (50 - s) + 26 ≤ k + max 1 (s - 24) ∧ srP f k s (max 1 (s - 24)) (a0 - x) = srP f 2000 2 1 a0) (fun _ y _ => (1000 - y).toNat) ⟨hB, fun _ _ => rfl, 2, rfl, by omega, by omega, by omega, by omega, 2000, by omega, by rw [show a0 - 0 = a0 by omega]; rfl⟩ (fun K x y M2 h k => ?_)
  obtain ⟨b2, f2, s, rfl, s1, s2, x0, x1, w, w1, he⟩ := h
  have ss : sI (s : Int) = s := sIo (by omega) (by omega)
  have s24 : sI ((s : Int) - 24) = (s : Int) - 24 := sIo (by omega) (by omega)
  rw [ss, s24, sIo v0.1 v0.2]
  refine ⟨fun c => hQ _ _ ⟨b2, f2, ?_, fun h => absurd rfl h⟩, fun c => ?_⟩
  · rw [← he]
    obtain ⟨w2, rfl⟩ : ∃ w2 : Nat, w = w2 + 1 := ⟨w - 1, by omega⟩
    show -1 = if 48 < s then (-1 : Int) else _
    rw [if_pos (by omega)]
  refine wL2_of (fun x' y' M3 => BN wC M3 ∧ (∀ j9 : Nat, ¬ (84 ≤ j9 ∧ j9 ≤ 85) → M3 j9 = M j9) ∧ ∃ p : Nat, y' = (p : Int) ∧ 1 ≤ p ∧ p ≤ 25 ∧ s ≤ p + 24 ∧ x ≤ x' ∧ x' ≤ x + (p : Int) ∧ ∃ k : Nat, 30 * (50 - s) + 26 ≤ k + p ∧ srP f k s p (a0 - x') = srP f 2000 2 1 a0) (fun _ y' _ => (1000 - y').toNat) ⟨b2, f2, max 1 (s - 24), by omega, by omega, by omega, by omega, by omega, by omega, w, w1, he⟩ (fun K3 x' y' M3 h3 k3 => ?_)
  obtain ⟨b3, f3, p, rfl, p1, p2, p3, y0, y1, w', w2, he3⟩ := h3
  clear he w1
  obtain ⟨w4, rfl⟩ : ∃ w4 : Nat, w' = w4 + 1 := ⟨w' - 1, by omega⟩
  have eu : srP f (w4 + 1) s p (a0 - x') = if 48 < s then -1 else if s < 2 * p then srP f w4 (s + 1) (max 1 (s + 1 - 24)) (a0 - x') else if f p (s - p) = 0 then srP f w4 s (p + 1) (a0 - x') else if a0 - x' = 0 then 100 * (p : Int) + (s : Int) - (p : Int) else srP f w4 s (p + 1) (a0 - x' - 1) := rfl
  rw [if_neg (by omega)] at eu
  rw [sIo (z := (s : Int) - (p : Int)) (by omega) (by omega), sIo (z := (p : Int)) (by omega) (by omega), sIo (z := x') (by omega) (by omega)]
  refine ⟨fun c2 => ?_, fun c2 => ?_⟩
  · rw [if_pos (by omega)] at eu
    exact k _ _ _ ⟨b3, f3, s + 1, by omega, by omega, by omega, by omega, by omega, w4, by omega, by rw [← he3, eu]⟩ (by omega)
  · rw [if_neg (by omega)] at eu
    refine fC_pairFits (p := p) (q := s - p) b3 rfl (by omega) ⟨p1, by omega⟩ ⟨by omega, by omega⟩ (fun M5 h5 => ?_)
    obtain ⟨b5, f5, u5, t5⟩ := h5
    rw [f3 83 (by omega), f3 82 (by omega)] at u5 t5 ⊢
    rw [hf]
    have f5' : ∀ j9 : Nat, ¬ (84 ≤ j9 ∧ j9 ≤ 85) → M5 j9 = M j9 := fun j9 h9 => (f5 j9 h9).trans (f3 j9 h9)
    refine ⟨fun c3 => ?_, fun c3 => ⟨fun c4 => ?_, fun c4 => ?_⟩⟩
    · rw [if_pos c3] at eu
      exact k3 _ _ _ ⟨b5, f5', p + 1, by omega, by omega, by omega, by omega, y0, by omega, w4, by omega, by rw [← he3, eu]⟩ (by omega)
    · rw [if_neg c3, if_neg (by omega)] at eu
      exact k3 _ _ _ ⟨b5, f5', p + 1, by omega, by omega, by omega, by omega, by omega, by omega, w4, by omega, by rw [← he3, eu, show a0 - (x' + 1) = a0 - x' - 1 by omega]⟩ (by omega)
    · rw [if_neg c3, if_pos (by omega)] at eu
      rw [sIo (z := 100 * (p : Int) + (s : Int) - (p : Int)) (by omega) (by omega)]
      exact hQ _ _ ⟨b5, f5', by rw [← he3, eu], fun _ => ⟨p, s - p, ⟨p1, by omega⟩, ⟨by omega, by omega⟩, by omega, u5, t5⟩⟩
theorem fC_pair {M : zM} {a0 : Int} (hB : BN wC M) (v0 : -2147483648 ≤ a0 ∧ a0 ≤ 2147483647) {Q : Int → zM → Prop} (hQ : ∀ (z : Int) (M1 : zM), BN wC M1 ∧ (∀ j9 : Nat, ¬ (82 ≤ j9 ∧ j9 ≤ 85) → M1 j9 = M j9) ∧ (M1 82 = M 82 ∧ M1 83 = M 83) ∧ z = srP (ptV (M 83) (M 82 1).toNat) 2000 2 1 a0 → Q z M1) : wC_pair a0 M Q := by
  unfold wC_pair
  refine fC_pairNumber hB v0 (fun z M1 h => ?_)
  obtain ⟨b1, f1, hz, -⟩ := h
  exact hQ _ _ ⟨b1, fun j9 h9 => f1 j9 (by omega), ⟨f1 82 (by omega), f1 83 (by omega)⟩, hz⟩
def mdV (T : Nat → Int) (n t : Nat) : Int := if srP (ptV T n) 2000 2 1 0 = -1 then -1 else orI (grt T ((srP (ptV T n) 2000 2 1 0).tdiv 100).toNat (t % ((srP (ptV T n) 2000 2 1 0).tdiv 100).toNat) n) (grt T ((srP (ptV T n) 2000 2 1 0).tmod 100).toNat (t % ((srP (ptV T n) 2000 2 1 0).tmod 100).toNat) n)
theorem fC_mended {M : zM} {a0 : Int} (hB : BN wC M) (v0 : -2147483648 ≤ a0 ∧ a0 ≤ 2147483647) {Q : Int → zM → Prop} (hQ : ∀ (z : Int) (M1 : zM), BN wC M1 ∧ (∀ j9 : Nat, ¬ (82 ≤ j9 ∧ j9 ≤ 85) → M1 j9 = M j9) ∧ (M1 82 = M 82 ∧ M1 83 = M 83) ∧ (((0 ≤ a0 ∧ a0 < M 82 1) ∧ z = mdV (M 83) (M 82 1).toNat a0.toNat) ∨ (¬ (0 ≤ a0 ∧ a0 < M 82 1) ∧ z = -1)) → Q z M1) : wC_mended a0 M Q := by
  unfold wC_mended wC_OldTape_mendedAt
  have bc : 0 ≤ M 82 1 ∧ M 82 1 ≤ 60 := BN.at hB (rfl : zcd wC 82 = 34) rfl
  have no : ¬ (0 ≤ a0 ∧ a0 < M 82 1) → Q (-1) M := fun h => hQ _ _ ⟨hB, fun _ _ => rfl, ⟨rfl, rfl⟩, Or.inr ⟨h, rfl⟩⟩
  rw [sIo v0.1 v0.2, sIo (z := M 82 1) (by omega) (by omega)]
  refine ⟨fun c => no (by omega), fun c => ⟨fun d => ?_, fun d => no (by omega)⟩⟩
  refine fC_pairNumber hB (by omega) (fun z M1 h => ?_)
  obtain ⟨b1, f1, hz, hp⟩ := h
  have fin : ∀ y : Int, y = mdV (M 83) (M 82 1).toNat a0.toNat → Q y M1 := fun y hy => hQ _ _ ⟨b1, fun j9 h9 => f1 j9 (by omega), ⟨f1 82 (by omega), f1 83 (by omega)⟩, Or.inl ⟨⟨c, d⟩, hy⟩⟩
  unfold mdV at fin
  rw [← hz] at fin
  refine ⟨fun c2 => ?_, fun c2 => fin _ (by rw [if_pos c2])⟩
  rw [if_neg c2] at fin
  obtain ⟨p, q, p1, q1, e, u, t⟩ := hp c2
  have e1 : z.tdiv 100 = (p : Int) := by rw [Int.tdiv_eq_ediv_of_nonneg (by omega)]; omega
  have e2 : z.tmod 100 = (q : Int) := by rw [Int.tmod_eq_emod_of_nonneg (by omega)]; omega
  rw [e1, e2] at fin ⊢
  refine fC_by (by omega) (by omega) ?_
  have ea : a0 = ((a0.toNat : Nat) : Int) := by omega
  have em : a0 % (p : Int) = ((a0.toNat % p : Nat) : Int) := by rw [ea]; exact (Int.natCast_emod _ p).symm
  have em2 : a0 % (q : Int) = ((a0.toNat % q : Nat) : Int) := by rw [ea]; exact (Int.natCast_emod _ q).symm
  have lt := Nat.mod_lt a0.toNat (show p > 0 by omega)
  have lt2 := Nat.mod_lt a0.toNat (show q > 0 by omega)
  rw [em, show (((a0.toNat % p : Nat) : Int)).toNat = a0.toNat % p by omega, u _ lt]
  refine ⟨by omega, ?_⟩
  refine fC_by (by omega) (by omega) ?_
  rw [em2, show (((a0.toNat % q : Nat) : Int)).toNat = a0.toNat % q by omega, t _ lt2]
  refine ⟨by omega, fin _ ?_⟩
  rw [show ((p : Int)).toNat = p by omega, show ((q : Int)).toNat = q by omega]
theorem fR_most {M : zM} {p t : Nat} {a0 a1 : Int} (hB : BI M) (ha : a0 = (p : Int)) (hb : a1 = (t : Int)) (hp : 1 ≤ p ∧ p ≤ 24) (ht : (t : Int) < M 0 24) {Q : Int → Prop} (hQ : Q (grt (M 15) p (t % p) (M 0 24).toNat)) : wR_most a0 a1 M Q := by
  unfold wR_most
  have bc : 0 ≤ M 0 24 ∧ M 0 24 ≤ 60 := BN.at hB.1 (rfl : zcd wR 0 = 50) rfl
  have lt := Nat.mod_lt t (show p > 0 by omega)
  have le := Nat.mod_le t p
  have em : (sI a1).tmod (sI a0) = ((t % p : Nat) : Int) := by
    rw [ha, hb, sIo (by omega) (by omega), sIo (by omega) (by omega), Int.tmod_eq_emod_of_nonneg (by omega)]
    exact (Int.natCast_emod t p).symm
  rw [em, ha, sIo (z := (p : Int)) (by omega) (by omega), sIo (z := M 0 24) (by omega) (by omega)]
  refine ⟨by omega, ?_⟩
  refine pL2_of (fun x y => ∃ u : Nat, y = (u : Int) ∧ u % p = t % p ∧ (u : Int) < M 0 24 + (p : Int) ∧ x = grt (M 15) p (t % p) (min u (M 0 24).toNat)) (fun _ y => (1000 - y).toNat) ⟨t % p, rfl, Nat.mod_mod t p, by omega, by rw [grt_0 lt _ (by omega)]⟩ (fun K x y h k => ?_)
  obtain ⟨u, rfl, u1, u2, rfl⟩ := h
  have r := grt_r (M 15) p (t % p) (min u (M 0 24).toNat)
  have r15 := BN.r32 hB.1 15 u
  rw [sIo (z := (u : Int)) (by omega) (by omega), sIo (z := grt (M 15) p (t % p) (min u (M 0 24).toNat)) r.1 r.2, show ((u : Int)).toNat = u by omega, sIo (z := M 15 u) (by omega) (by omega)]
  refine ⟨fun c => by rw [show min u (M 0 24).toNat = (M 0 24).toNat by omega]; exact hQ, fun c => ?_⟩
  have sk := grt_sk (T := M 15) u1 (min (u + p) (M 0 24).toNat) (by omega) (by omega)
  have mu : min u (M 0 24).toNat = u := by omega
  refine ⟨by omega, fun c2 => k _ _ ⟨u + p, by omega, by rw [Nat.add_mod_right]; exact u1, by omega, ?_⟩ (by omega), fun c2 => ⟨by omega, k _ _ ⟨u + p, by omega, by rw [Nat.add_mod_right]; exact u1, by omega, ?_⟩ (by omega)⟩⟩
  · rw [sk, if_neg (fun x => x c2), mu]
  · rw [sk, if_pos c2, mu]
theorem fR_isPair {M : zM} {p q : Nat} {a0 a1 : Int} (hB : BI M) (ha : a0 = (p : Int)) (hb : a1 = (q : Int)) (hp : 1 ≤ p ∧ p ≤ 24) (hq : 1 ≤ q ∧ q ≤ 24) {Q : Int → Prop} (hQ : Q (ptV (M 15) (M 0 24).toNat p q)) : wR_isPair a0 a1 M Q := by
  unfold wR_isPair
  have bc : 0 ≤ M 0 24 ∧ M 0 24 ≤ 60 := BN.at hB.1 (rfl : zcd wR 0 = 50) rfl
  rw [sIo (z := M 0 24) (by omega) (by omega)]
  refine pL1_of (fun x => ∃ t : Nat, x = (t : Int) ∧ (t : Int) ≤ M 0 24 ∧ ∀ u : Nat, u < t → (M 15 u = -1 ∨ orI (grt (M 15) p (u % p) (M 0 24).toNat) (grt (M 15) q (u % q) (M 0 24).toNat) = M 15 u)) (fun x => (1000 - x).toNat) ⟨0, rfl, by omega, fun u h => absurd h (Nat.not_lt_zero u)⟩ (fun K x h k => ?_)
  obtain ⟨t, rfl, ht, hv⟩ := h
  have st : sI (t : Int) = t := sIo (by omega) (by omega)
  have tt : ((t : Int)).toNat = t := by omega
  have r15 := BN.r32 hB.1 15 t
  rw [st, tt, sIo (z := M 15 t) (by omega) (by omega)]
  refine ⟨fun c => ?_, fun c => ⟨by omega, fun c2 => ?_, fun c2 => ?_⟩⟩
  · have e : ptV (M 15) (M 0 24).toNat p q = 1 := if_pos (fun u hu => hv u (by omega))
    rw [e] at hQ
    exact hQ
  · refine k _ ⟨t + 1, by omega, by omega, fun u hu => ?_⟩ (by omega)
    by_cases c5 : u = t
    · rw [c5]
      exact Or.inl c2
    · exact hv u (by omega)
  · refine fR_most (p := p) (t := t) hB ha rfl hp c ?_
    refine fR_most (p := q) (t := t) hB hb rfl hq c ?_
    refine ⟨by omega, fun c3 => k _ ⟨t + 1, by omega, by omega, fun u hu => ?_⟩ (by omega), fun c3 => ?_⟩
    · by_cases c5 : u = t
      · rw [c5]
        exact Or.inr c3
      · exact hv u (by omega)
    · have e : ptV (M 15) (M 0 24).toNat p q = 0 := if_neg (fun x => (x t (by omega)).elim c2 c3)
      rw [e] at hQ
      exact hQ
set_option maxHeartbeats 2000000 in
theorem fR_pairAt {M : zM} {a0 : Int} (hB : BI M) (v0 : 0 ≤ a0 ∧ a0 ≤ 2147483647) {Q : Int → Prop} (hQ : ∀ z : Int, z = srP (ptV (M 15) (M 0 24).toNat) 2000 2 1 a0 → (z ≠ -1 → ∃ p q : Nat, (1 ≤ p ∧ p ≤ 24) ∧ (1 ≤ q ∧ q ≤ 24) ∧ z = 100 * (p : Int) + (q : Int)) → Q z) : wR_pairAt a0 M Q := by
  unfold wR_pairAt
  obtain ⟨f, hf⟩ : ∃ f : Nat → Nat → Int, ptV (M 15) (M 0 24).toNat = f := ⟨_, rfl⟩
  rw [hf] at hQ
  refine pL2_of (fun x y => ∃ s : Nat, y = (s : Int) ∧ 2 ≤ s ∧ s ≤ 49 ∧ 0 ≤ x ∧ x ≤ a0 ∧ ∃ k : Nat, 30 * (50 - s) + 26 ≤ k + max 1 (s - 24) ∧ srP f k s (max 1 (s - 24)) x = srP f 2000 2 1 a0) (fun _ y => (1000 - y).toNat) ⟨2, rfl, by omega, by omega, by omega, by omega, 2000, by omega, rfl⟩ (fun K x y h k => ?_)
  obtain ⟨s, rfl, s1, s2, x0, x1, w, w1, he⟩ := h
  have ss : sI (s : Int) = s := sIo (by omega) (by omega)
  have s24 : sI ((s : Int) - 24) = (s : Int) - 24 := sIo (by omega) (by omega)
  rw [ss, s24]
  refine ⟨fun c => hQ _ ?_ (fun h => absurd rfl h), fun c => ?_⟩
  · rw [← he]
    obtain ⟨w2, rfl⟩ : ∃ w2 : Nat, w = w2 + 1 := ⟨w - 1, by omega⟩
    show -1 = if 48 < s then (-1 : Int) else _
    rw [if_pos (by omega)]
  refine pL2_of (fun x' y' => ∃ p : Nat, y' = (p : Int) ∧ 1 ≤ p ∧ p ≤ 25 ∧ s ≤ p + 24 ∧ 0 ≤ x' ∧ x' ≤ a0 ∧ ∃ k : Nat, 30 * (50 - s) + 26 ≤ k + p ∧ srP f k s p x' = srP f 2000 2 1 a0) (fun _ y' => (1000 - y').toNat) ⟨max 1 (s - 24), by omega, by omega, by omega, by omega, by omega, by omega, w, w1, he⟩ (fun K3 x' y' h3 k3 => ?_)
  obtain ⟨p, rfl, p1, p2, p3, y0, y1, w', w2, he3⟩ := h3
  clear he w1
  obtain ⟨w4, rfl⟩ : ∃ w4 : Nat, w' = w4 + 1 := ⟨w' - 1, by omega⟩
  have eu : srP f (w4 + 1) s p x' = if 48 < s then -1 else if s < 2 * p then srP f w4 (s + 1) (max 1 (s + 1 - 24)) x' else if f p (s - p) = 0 then srP f w4 s (p + 1) x' else if x' = 0 then 100 * (p : Int) + (s : Int) - (p : Int) else srP f w4 s (p + 1) (x' - 1) := rfl
  rw [if_neg (by omega)] at eu
  rw [sIo (z := 2 * (p : Int)) (by omega) (by omega), sIo (z := x') (by omega) (by omega)]
  refine ⟨fun c2 => ?_, fun c2 => ?_⟩
  · rw [if_pos (by omega)] at eu
    exact k _ _ ⟨s + 1, by omega, by omega, by omega, by omega, by omega, w4, by omega, by rw [← he3, eu]⟩ (by omega)
  · rw [if_neg (by omega)] at eu
    refine fR_isPair (p := p) (q := s - p) hB rfl (by omega) ⟨p1, by omega⟩ ⟨by omega, by omega⟩ ?_
    rw [hf]
    refine ⟨fun c3 => ⟨fun c4 => ?_, fun c4 => ?_⟩, fun c3 => ?_⟩
    · rw [if_neg c3, if_neg c4] at eu
      exact k3 _ _ ⟨p + 1, by omega, by omega, by omega, by omega, by omega, by omega, w4, by omega, by rw [← he3, eu]; rfl⟩ (by omega)
    · rw [if_neg c3, if_pos c4] at eu
      rw [sIo (z := 100 * (p : Int) + (s : Int) - (p : Int)) (by omega) (by omega)]
      exact hQ _ (by rw [← he3, eu]) (fun _ => ⟨p, s - p, ⟨p1, by omega⟩, ⟨by omega, by omega⟩, by omega⟩)
    · rw [if_pos c3] at eu
      exact k3 _ _ ⟨p + 1, by omega, by omega, by omega, by omega, y0, by omega, w4, by omega, by rw [← he3, eu]⟩ (by omega)
theorem fR_pair {M : zM} {a0 : Int} (hB : BI M) (v0 : -2147483648 ≤ a0 ∧ a0 ≤ 2147483647) {Q : Int → zM → Prop} (hQ : ∀ (z : Int) (M1 : zM), BI M1 ∧ (∀ j9 k9 : Nat, ¬ (j9 = 0 ∧ k9 = 35) → M1 j9 k9 = M j9 k9) ∧ z = srP (ptV (M 15) (M 0 24).toNat) 2000 2 1 a0 → Q z M1) : wR_pair a0 M Q := by
  unfold wR_pair
  intro M1 e1
  have hB1 : BI M1 := by rw [e1]; exact BI.up0 hB (rfl : cbt 50 35 = (-2147483648, 2147483647)) (by omega) (by omega) (by decide)
  have F1 : ∀ j9 k9 : Nat, ¬ (j9 = 0 ∧ k9 = 35) → M1 j9 k9 = M j9 k9 := fun j9 k9 h9 => by rw [e1]; exact zup_n _ _ (by omega)
  have e15 : M1 15 = M 15 := funext fun q => F1 15 q (by omega)
  rw [sIo v0.1 v0.2]
  refine ⟨fun c => ?_, fun c => hQ _ _ ⟨hB1, F1, by rw [srP_n _ _ _ _ c]⟩⟩
  refine fR_pairAt hB1 ⟨c, v0.2⟩ (fun z hz _ => hQ _ _ ⟨hB1, F1, ?_⟩)
  rw [hz, e15, F1 0 24 (by omega)]
theorem fR_mended {M : zM} {a0 : Int} (hB : BI M) (v0 : -2147483648 ≤ a0 ∧ a0 ≤ 2147483647) {Q : Int → zM → Prop} (hQ : ∀ (z : Int) (M1 : zM), BI M1 ∧ (∀ j9 k9 : Nat, ¬ (j9 = 0 ∧ k9 = 35) → M1 j9 k9 = M j9 k9) ∧ (((0 ≤ a0 ∧ a0 < M 0 24) ∧ z = mdV (M 15) (M 0 24).toNat a0.toNat) ∨ (¬ (0 ≤ a0 ∧ a0 < M 0 24) ∧ z = -1)) → Q z M1) : wR_mended a0 M Q := by
  unfold wR_mended
  intro M1 e1
  have hB1 : BI M1 := by rw [e1]; exact BI.up0 hB (rfl : cbt 50 35 = (-2147483648, 2147483647)) (by omega) (by omega) (by decide)
  have F1 : ∀ j9 k9 : Nat, ¬ (j9 = 0 ∧ k9 = 35) → M1 j9 k9 = M j9 k9 := fun j9 k9 h9 => by rw [e1]; exact zup_n _ _ (by omega)
  have e15 : M1 15 = M 15 := funext fun q => F1 15 q (by omega)
  have r24 : M1 0 24 = M 0 24 := F1 0 24 (by omega)
  have bc : 0 ≤ M 0 24 ∧ M 0 24 ≤ 60 := BN.at hB.1 (rfl : zcd wR 0 = 50) rfl
  rw [r24]
  refine sR_in hB1 v0 (by omega) (by omega) (fun z2 h2 => ?_)
  obtain ⟨-, h2, -⟩ := h2
  refine ⟨fun c => ?_, fun c => hQ _ _ ⟨hB1, F1, Or.inr ⟨by omega, rfl⟩⟩⟩
  have g : 0 ≤ a0 ∧ a0 < M 0 24 := by omega
  clear h2 c
  have fin : ∀ y : Int, y = mdV (M 15) (M 0 24).toNat a0.toNat → Q y M1 := fun y hy => hQ _ _ ⟨hB1, F1, Or.inl ⟨g, hy⟩⟩
  refine fR_pairAt hB1 (by omega) (fun z hz hp => ?_)
  rw [e15, r24] at hz
  unfold mdV at fin
  rw [← hz] at fin
  refine ⟨fun c2 => ?_, fun c2 => fin _ (by rw [if_pos c2])⟩
  rw [if_neg c2] at fin
  obtain ⟨p, q, p1, q1, e⟩ := hp c2
  have e1 : z.tdiv 100 = (p : Int) := by rw [Int.tdiv_eq_ediv_of_nonneg (by omega)]; omega
  have e2 : z.tmod 100 = (q : Int) := by rw [Int.tmod_eq_emod_of_nonneg (by omega)]; omega
  rw [e1, e2] at fin ⊢
  refine fR_most (p := p) (t := a0.toNat) hB1 rfl (by omega) p1 (by omega) ?_
  refine fR_most (p := q) (t := a0.toNat) hB1 rfl (by omega) q1 (by omega) ?_
  rw [e15, r24]
  refine fin _ ?_
  rw [show ((p : Int)).toNat = p by omega, show ((q : Int)).toNat = q by omega]
theorem ptf_cg {T T2 : Nat → Int} {n : Nat} (h : ∀ k : Nat, k < n → T k = T2 k) : ptV T n = ptV T2 n := funext fun p => funext fun q => ptV_cg h
theorem pair_det {MC MR : zM} {a0 z z9 : Int} (h : iTa MC MR) (p : z = srP (ptV (MC 83) (MC 82 1).toNat) 2000 2 1 a0) (q : z9 = srP (ptV (MR 15) (MR 0 24).toNat) 2000 2 1 a0) : z = z9 := by
  obtain ⟨h1, h2, h3⟩ := h
  rw [p, q, ← h1, ptf_cg (fun i hi => h3 i (by omega))]
theorem mended_det {MC MR : zM} {a0 z z9 : Int} (h : iTa MC MR) (p : ((0 ≤ a0 ∧ a0 < MC 82 1) ∧ z = mdV (MC 83) (MC 82 1).toNat a0.toNat) ∨ (¬ (0 ≤ a0 ∧ a0 < MC 82 1) ∧ z = -1)) (q : ((0 ≤ a0 ∧ a0 < MR 0 24) ∧ z9 = mdV (MR 15) (MR 0 24).toNat a0.toNat) ∨ (¬ (0 ≤ a0 ∧ a0 < MR 0 24) ∧ z9 = -1)) : z = z9 := by
  obtain ⟨h1, h2, h3⟩ := h
  rw [← h1] at q
  rcases p with ⟨c, p1⟩ | ⟨c, p1⟩
  · rcases q with ⟨-, q1⟩ | ⟨c2, -⟩
    · rw [p1, q1]
      unfold mdV
      have g : ∀ k : Nat, k < (MC 82 1).toNat → MC 83 k = MR 15 k := fun i hi => h3 i (by omega)
      rw [ptf_cg g, grt_cg _ g, grt_cg _ g]
    · exact absurd c c2
  · rcases q with ⟨c2, -⟩ | ⟨-, q1⟩
    · exact absurd c2 c
    · omega
end zz47zd_pair
