/-! the reading of a text as a machine with a state and a level, and that it reads what PK says -/
def smA (l v : Int) : Int × Int := if 48 ≤ v ∧ v ≤ 57 then (1, l) else if v = 91 then (4, l) else if v = 40 ∧ l < 5 then (0, l + 1) else (-1, l)
def smT (l v : Int) : Int × Int := if v = 41 then (if 1 ≤ l then (1, l - 1) else (-1, l - 1)) else if v = 42 then (2, l) else if v = 47 then (3, l) else if v = 126 then (1, l) else smA l v
def smS (st : Int × Int) (v : Int) : Int × Int := if st.1 = 0 then smA st.2 v else if st.1 = 1 then smT st.2 v else if st.1 = 2 then (if 50 ≤ v ∧ v ≤ 57 then (1, st.2) else (-1, st.2)) else if st.1 = 3 then (if 49 ≤ v ∧ v ≤ 57 then (0, st.2) else (-1, st.2)) else if st.1 = 4 then (if 49 ≤ v ∧ v ≤ 57 then (5, st.2) else (-1, st.2)) else if st.1 = 5 then (if v = 93 then (1, st.2) else if 49 ≤ v ∧ v ≤ 57 then (5, st.2) else (-1, st.2)) else (-1, st.2)
theorem sm0 (l v : Int) : smS (0, l) v = smA l v := by simp [smS]
theorem sm1 (l v : Int) : smS (1, l) v = smT l v := by simp [smS]
theorem sm2 (l v : Int) : smS (2, l) v = if 50 ≤ v ∧ v ≤ 57 then (1, l) else (-1, l) := by simp [smS]
theorem sm3 (l v : Int) : smS (3, l) v = if 49 ≤ v ∧ v ≤ 57 then (0, l) else (-1, l) := by simp [smS]
theorem sm4 (l v : Int) : smS (4, l) v = if 49 ≤ v ∧ v ≤ 57 then (5, l) else (-1, l) := by simp [smS]
theorem sm5 (l v : Int) : smS (5, l) v = if v = 93 then (1, l) else if 49 ≤ v ∧ v ≤ 57 then (5, l) else (-1, l) := by simp [smS]
theorem smw (st : Int × Int) (v : Int) (h : st.1 = -1) : (smS st v).1 = -1 := by unfold smS; rw [h, if_neg (by decide), if_neg (by decide), if_neg (by decide), if_neg (by decide), if_neg (by decide), if_neg (by decide)]
def smR (f : Nat → Int) : Nat → Int × Int → Nat → Int × Int
  | 0, st, _ => st
  | k + 1, st, p => smR f k (smS st (f p)) (p + 1)
theorem smR_snoc (f : Nat → Int) : ∀ (k : Nat) (st : Int × Int) (p : Nat), smR f (k + 1) st p = smS (smR f k st p) (f (p + k))
  | 0, _, _ => rfl
  | k + 1, st, p => by
    rw [show smR f (k + 1 + 1) st p = smR f (k + 1) (smS st (f p)) (p + 1) from rfl, smR_snoc f k, show smR f (k + 1) st p = smR f k (smS st (f p)) (p + 1) from rfl, show p + 1 + k = p + (k + 1) by omega]
theorem smR_w (f : Nat → Int) : ∀ (k : Nat) (st : Int × Int) (p : Nat), st.1 = -1 → (smR f k st p).1 = -1
  | 0, _, _, h => h
  | k + 1, st, p, h => smR_w f k (smS st (f p)) (p + 1) (smw st _ h)
/-- it is read to its end -/
def AC (T : Nat → Int) (s : Int) (st : Int × Int) (p : Int) : Prop := smR T (s - p).toNat st p.toNat = (1, 0)
theorem AC_s {T : Nat → Int} {s p : Int} {st : Int × Int} (h0 : 0 ≤ p) (h1 : p < s) : AC T s st p ↔ AC T s (smS st (T p.toNat)) (p + 1) := by
  unfold AC
  rw [show (s - p).toNat = (s - (p + 1)).toNat + 1 by omega, show (p + 1).toNat = p.toNat + 1 by omega]
  exact Iff.rfl
theorem AC_w {T : Nat → Int} {s p l : Int} : ¬ AC T s (-1, l) p := fun h => by
  have a := smR_w T (s - p).toNat (-1, l) p.toNat rfl
  rw [h] at a
  exact absurd a (by decide)
theorem AC_e {T : Nat → Int} {s p : Int} {st : Int × Int} (h : p = s) : AC T s st p ↔ st = (1, 0) := by
  unfold AC
  rw [show (s - p).toNat = 0 by omega]
  exact Iff.rfl
theorem AC_n {T : Nat → Int} {s p a l : Int} (ha : a ≠ 1) (h : p = s) : ¬ AC T s (a, l) p := fun x => ha (congrArg Prod.fst ((AC_e h).mp x))
/-- where a reading is done, it goes on as the machine does -/
def stk (k : Nat) : Int := if k ≤ 2 then 0 else if k = 3 then 5 else 1
theorem PK_hi {T : Nat → Int} {s : Int} : ∀ (n k d : Nat) (p q : Int), SK T s n k d p q → p ≤ s → p ≤ 60 → q ≤ s ∧ q ≤ 60 := by
  intro n
  induction n with
  | zero => intro k d p q h; exact h.elim
  | succ n ih =>
    intro k d p q h h1 h2
    match k, h with
    | 0, h =>
      rcases h with ⟨a, b⟩ | ⟨a, b, c, e⟩ | ⟨a, b, c, e, r, x, y, z⟩
      · unfold HS at a; omega
      · unfold HS at b; exact ih _ _ _ _ e (by omega) (by omega)
      · unfold HS at y; omega
    | 1, ⟨r, x, y⟩ =>
      have a := ih _ _ _ _ x h1 h2
      exact ih _ _ _ _ y a.1 a.2
    | 2, ⟨r, x, y⟩ =>
      have a := ih _ _ _ _ x h1 h2
      exact ih _ _ _ _ y a.1 a.2
    | 3, h =>
      rcases h with ⟨a, b⟩ | ⟨a, b, c⟩
      · unfold HS at a; exact ih _ _ _ _ b (by omega) (by omega)
      · unfold HS at b; omega
    | 4, h =>
      rcases h with ⟨a, b⟩ | ⟨a, b, c, e⟩ | h
      · unfold HS at a; exact ih _ _ _ _ b (by omega) (by omega)
      · unfold HS at c; exact ih _ _ _ _ e (by omega) (by omega)
      · omega
    | 5, h =>
      rcases h with ⟨a, b, r, x, y⟩ | ⟨a, b, r, x, y⟩ | h
      · unfold HS at b
        have a := ih _ _ _ _ x (by omega) (by omega)
        exact ih _ _ _ _ y a.1 a.2
      · have a := ih _ _ _ _ x h1 h2
        exact ih _ _ _ _ y a.1 a.2
      · omega
    | _ + 6, h => exact h.elim
set_option maxHeartbeats 2000000 in
theorem PK_ac {T : Nat → Int} {s : Int} : ∀ (n k d : Nat) (p q : Int), d ≤ 5 → SK T s n k d p q → 0 ≤ p → q ≤ s → AC T s (1, (d : Int)) q → AC T s (stk k, (d : Int)) p := by
  intro n
  induction n with
  | zero => intro k d p q _ h; exact h.elim
  | succ n ih =>
    intro k d p q hd h h0 hq ha
    match k, h with
    | 0, h =>
      show AC T s (0, (d : Int)) p
      rcases h with ⟨a, b⟩ | ⟨a, b, c, e⟩ | ⟨a, b, c, e, r, x, y, z⟩
      · unfold HS at a
        rw [AC_s h0 (by omega), sm0]
        unfold smA
        rw [if_pos (by omega), ← b]
        exact ha
      · unfold HS at a b c
        have w : AC T s (5, (d : Int)) (p + 1) := ih 3 _ _ _ hd e (by omega) hq ha
        rw [AC_s (by omega) (by omega), sm5, if_neg (by omega), if_pos (by omega)] at w
        rw [AC_s h0 (by omega), sm0]
        unfold smA
        rw [if_neg (by omega), if_pos (by omega), AC_s (by omega) (by omega), sm4, if_pos (by omega)]
        exact w
      · unfold HS at a b c y
        have hr := PK_hi _ _ _ _ _ x (by omega) (by omega)
        have w : AC T s (0, ((d + 1 : Nat) : Int)) (p + 1) := by
          refine ih 2 _ _ _ (by omega) x (by omega) (by omega) ?_
          have hr0 := PK_le _ _ _ _ _ x
          rw [AC_s (by omega) (by omega), sm1]
          unfold smT
          rw [if_pos (by omega), if_pos (by omega), ← z, show ((d + 1 : Nat) : Int) - 1 = (d : Int) by omega]
          exact ha
        rw [AC_s h0 (by omega), sm0]
        unfold smA
        rw [if_neg (by omega), if_neg (by omega), if_pos (by omega), show (d : Int) + 1 = ((d + 1 : Nat) : Int) by omega]
        exact w
    | 1, ⟨r, x, y⟩ =>
      have hr := PK_le _ _ _ _ _ x
      have hr2 := PK_le _ _ _ _ _ y
      have w : AC T s (1, (d : Int)) r := ih 4 _ _ _ hd y (by omega) hq ha
      exact ih 0 _ _ _ hd x h0 (by omega) w
    | 2, ⟨r, x, y⟩ =>
      have hr := PK_le _ _ _ _ _ x
      have hr2 := PK_le _ _ _ _ _ y
      have w : AC T s (1, (d : Int)) r := ih 5 _ _ _ hd y (by omega) hq ha
      exact ih 1 _ _ _ hd x h0 (by omega) w
    | 3, h =>
      show AC T s (5, (d : Int)) p
      rcases h with ⟨a, b⟩ | ⟨a, b, c⟩
      · unfold HS at a
        rw [AC_s h0 (by omega), sm5, if_neg (by omega), if_pos (by omega)]
        exact ih 3 _ _ _ hd b (by omega) hq ha
      · unfold HS at b
        rw [AC_s h0 (by omega), sm5, if_pos (by omega), ← c]
        exact ha
    | 4, h =>
      show AC T s (1, (d : Int)) p
      rcases h with ⟨a, b⟩ | ⟨a, b, c, e⟩ | ⟨a, b, c⟩
      · unfold HS at a
        rw [AC_s h0 (by omega), sm1]
        unfold smT
        rw [if_neg (by omega), if_neg (by omega), if_neg (by omega), if_pos (by omega)]
        exact ih 4 _ _ _ hd b (by omega) hq ha
      · unfold HS at b c
        rw [AC_s h0 (by omega), sm1]
        unfold smT
        rw [if_neg (by omega), if_pos (by omega), AC_s (by omega) (by omega), sm2, if_pos (by omega), show p + 1 + 1 = p + 2 by omega]
        exact ih 4 _ _ _ hd e (by omega) hq ha
      · rw [← c]
        exact ha
    | 5, h =>
      show AC T s (1, (d : Int)) p
      rcases h with ⟨a, b, r, x, y⟩ | ⟨a, b, r, x, y⟩ | ⟨a, b, c⟩
      · unfold HS at a b
        have hr := PK_le _ _ _ _ _ x
        have hr2 := PK_le _ _ _ _ _ y
        have w : AC T s (1, (d : Int)) r := ih 5 _ _ _ hd y (by omega) hq ha
        have w2 : AC T s (0, (d : Int)) (p + 2) := ih 1 _ _ _ hd x (by omega) (by omega) w
        rw [AC_s h0 (by omega), sm1]
        unfold smT
        rw [if_neg (by omega), if_neg (by omega), if_pos (by omega), AC_s (by omega) (by omega), sm3, if_pos (by omega), show p + 1 + 1 = p + 2 by omega]
        exact w2
      · have hr := PK_le _ _ _ _ _ x
        have hr2 := PK_le _ _ _ _ _ y
        have w : AC T s (1, (d : Int)) r := ih 5 _ _ _ hd y (by omega) hq ha
        have w2 : AC T s (0, (d : Int)) p := ih 1 _ _ _ hd x h0 (by omega) w
        unfold AT HS at b
        rw [AC_s h0 (by omega), sm0] at w2
        rw [AC_s h0 (by omega), sm1]
        unfold smT
        rw [if_neg (by omega), if_neg (by omega), if_neg (by omega), if_neg (by omega)]
        exact w2
      · rw [← c]
        exact ha
    | _ + 6, h => exact h.elim
theorem ac3 {T : Nat → Int} {s : Int} (h60 : s ≤ 60) (d : Nat) : ∀ (N : Nat) (p : Int), (s - p).toNat ≤ N → 0 ≤ p → p ≤ s → AC T s (5, (d : Int)) p → ∃ q, p < q ∧ q ≤ s ∧ PK T s 3 d p q ∧ AC T s (1, (d : Int)) q := by
  intro N
  induction N with
  | zero => intro p h1 h2 h3 h; exact absurd h (AC_n (by decide) (by omega))
  | succ N ih =>
    intro p h1 h2 h3 h
    by_cases c : p = s
    · exact absurd h (AC_n (by decide) c)
    · rw [AC_s h2 (by omega), sm5] at h
      by_cases c1 : T p.toNat = 93
      · rw [if_pos c1] at h
        exact ⟨p + 1, by omega, by omega, PK3.mpr (Or.inr ⟨fun x => by unfold HS at x; omega, by unfold HS; omega, rfl⟩), h⟩
      · rw [if_neg c1] at h
        by_cases c2 : 49 ≤ T p.toNat ∧ T p.toNat ≤ 57
        · rw [if_pos c2] at h
          obtain ⟨q, q1, q2, q3, q4⟩ := ih (p + 1) (by omega) (by omega) (by omega) h
          exact ⟨q, by omega, q2, PK3.mpr (Or.inl ⟨by unfold HS; omega, q3⟩), q4⟩
        · rw [if_neg c2] at h
          exact absurd h AC_w
theorem ac4 {T : Nat → Int} {s : Int} (h60 : s ≤ 60) (d : Nat) : ∀ (N : Nat) (p : Int), (s - p).toNat ≤ N → 0 ≤ p → p ≤ s → AC T s (1, (d : Int)) p → ∃ q, p ≤ q ∧ q ≤ s ∧ PK T s 4 d p q ∧ AC T s (1, (d : Int)) q ∧ ¬ HS T s q 126 126 ∧ ¬ HS T s q 42 42 := by
  intro N
  induction N with
  | zero =>
    intro p h1 h2 h3 h
    have n1 : ¬ HS T s p 126 126 := fun x => by unfold HS at x; omega
    have n2 : ¬ HS T s p 42 42 := fun x => by unfold HS at x; omega
    exact ⟨p, by omega, by omega, PK4.mpr (Or.inr (Or.inr ⟨n1, n2, rfl⟩)), h, n1, n2⟩
  | succ N ih =>
    intro p h1 h2 h3 h
    by_cases n1 : HS T s p 126 126
    · have m := n1
      unfold HS at m
      rw [AC_s h2 (by omega), sm1] at h
      unfold smT at h
      rw [if_neg (by omega), if_neg (by omega), if_neg (by omega), if_pos (by omega)] at h
      obtain ⟨q, q1, q2, q3, q4⟩ := ih (p + 1) (by omega) (by omega) (by omega) h
      exact ⟨q, by omega, q2, PK4.mpr (Or.inl ⟨n1, q3⟩), q4⟩
    · by_cases n2 : HS T s p 42 42
      · have m := n2
        unfold HS at m
        rw [AC_s h2 (by omega), sm1] at h
        unfold smT at h
        rw [if_neg (by omega), if_pos (by omega)] at h
        by_cases c : p + 1 = s
        · exact absurd h (AC_n (by decide) c)
        · rw [AC_s (by omega) (by omega), sm2] at h
          by_cases c2 : 50 ≤ T (p + 1).toNat ∧ T (p + 1).toNat ≤ 57
          · rw [if_pos c2, show p + 1 + 1 = p + 2 by omega] at h
            obtain ⟨q, q1, q2, q3, q4⟩ := ih (p + 2) (by omega) (by omega) (by omega) h
            exact ⟨q, by omega, q2, PK4.mpr (Or.inr (Or.inl ⟨n1, n2, by unfold HS; omega, q3⟩)), q4⟩
          · rw [if_neg c2] at h
            exact absurd h AC_w
      · exact ⟨p, by omega, h3, PK4.mpr (Or.inr (Or.inr ⟨n1, n2, rfl⟩)), h, n1, n2⟩
set_option maxHeartbeats 2000000 in
theorem acM {T : Nat → Int} {s : Int} (h60 : s ≤ 60) : ∀ (N : Nat) (p : Int) (d : Nat), d ≤ 5 → (s - p).toNat ≤ N → 0 ≤ p → p ≤ s →
    (AC T s (0, (d : Int)) p → ∃ q, p < q ∧ q ≤ s ∧ PK T s 1 d p q ∧ AC T s (1, (d : Int)) q ∧ ¬ HS T s q 126 126 ∧ ¬ HS T s q 42 42) ∧
    (AC T s (1, (d : Int)) p → ¬ HS T s p 126 126 → ¬ HS T s p 42 42 → ∃ q, p ≤ q ∧ q ≤ s ∧ PK T s 5 d p q ∧ AC T s (1, (d : Int)) q ∧ (q = s ∨ T q.toNat = 41)) ∧
    (AC T s (0, (d : Int)) p → ∃ q, p < q ∧ q ≤ s ∧ PK T s 2 d p q ∧ AC T s (1, (d : Int)) q ∧ (q = s ∨ T q.toNat = 41)) := by
  intro N
  induction N with
  | zero =>
    intro p d hd h1 h2 h3
    refine ⟨fun h => absurd h (AC_n (by decide) (by omega)), fun h _ _ => ⟨p, by omega, h3, PK5.mpr (Or.inr (Or.inr ⟨fun x => by unfold HS at x; omega, fun x => by unfold AT HS at x; omega, rfl⟩)), h, Or.inl (by omega)⟩, fun h => absurd h (AC_n (by decide) (by omega))⟩
  | succ N ih =>
    intro p d hd h1 h2 h3
    have A0 : AC T s (0, (d : Int)) p → ∃ q, p < q ∧ q ≤ s ∧ PK T s 0 d p q ∧ AC T s (1, (d : Int)) q := by
      intro h
      by_cases c : p = s
      · exact absurd h (AC_n (by decide) c)
      rw [AC_s h2 (by omega), sm0] at h
      unfold smA at h
      by_cases c1 : 48 ≤ T p.toNat ∧ T p.toNat ≤ 57
      · rw [if_pos c1] at h
        exact ⟨p + 1, by omega, by omega, PK0.mpr (Or.inl ⟨by unfold HS; omega, rfl⟩), h⟩
      rw [if_neg c1] at h
      by_cases c2 : T p.toNat = 91
      · rw [if_pos c2] at h
        by_cases c3 : p + 1 = s
        · exact absurd h (AC_n (by decide) c3)
        rw [AC_s (by omega) (by omega), sm4] at h
        by_cases c4 : 49 ≤ T (p + 1).toNat ∧ T (p + 1).toNat ≤ 57
        · rw [if_pos c4] at h
          obtain ⟨q, q1, q2, q3, q4⟩ := ac3 h60 d _ (p + 1 + 1) (Nat.le_refl _) (by omega) (by omega) h
          exact ⟨q, by omega, q2, PK0.mpr (Or.inr (Or.inl ⟨fun x => by unfold HS at x; omega, by unfold HS; omega, by unfold HS; omega, PK3.mpr (Or.inl ⟨by unfold HS; omega, q3⟩)⟩)), q4⟩
        · rw [if_neg c4] at h
          exact absurd h AC_w
      rw [if_neg c2] at h
      by_cases c3 : T p.toNat = 40 ∧ (d : Int) < 5
      · rw [if_pos c3, show (d : Int) + 1 = ((d + 1 : Nat) : Int) by omega] at h
        obtain ⟨r, r1, r2, r3, r4, r5⟩ := (ih (p + 1) (d + 1) (by omega) (by omega) (by omega) (by omega)).2.2 h
        by_cases c4 : r = s
        · have e := congrArg Prod.snd ((AC_e c4).mp r4)
          exact absurd e (by show ¬ (((d + 1 : Nat) : Int) = 0); omega)
        have e41 : T r.toNat = 41 := r5.resolve_left c4
        rw [AC_s (by omega) (by omega), sm1] at r4
        unfold smT at r4
        rw [if_pos e41, if_pos (by omega), show ((d + 1 : Nat) : Int) - 1 = (d : Int) by omega] at r4
        exact ⟨r + 1, by omega, by omega, PK0.mpr (Or.inr (Or.inr ⟨fun x => by unfold HS at x; omega, fun x => by unfold HS at x; omega, by unfold HS; omega, by omega, r, r3, by unfold HS; omega, rfl⟩)), r4⟩
      · rw [if_neg c3] at h
        exact absurd h AC_w
    have A1 : AC T s (0, (d : Int)) p → ∃ q, p < q ∧ q ≤ s ∧ PK T s 1 d p q ∧ AC T s (1, (d : Int)) q ∧ ¬ HS T s q 126 126 ∧ ¬ HS T s q 42 42 := by
      intro h
      obtain ⟨r, r1, r2, r3, r4⟩ := A0 h
      obtain ⟨q, q1, q2, q3, q4⟩ := ac4 h60 d _ r (Nat.le_refl _) (by omega) r2 r4
      exact ⟨q, by omega, q2, PK1.mpr ⟨r, r3, q3⟩, q4⟩
    refine ⟨A1, ?_, ?_⟩
    · intro h n1 n2
      by_cases c : p = s
      · exact ⟨p, by omega, h3, PK5.mpr (Or.inr (Or.inr ⟨fun x => by unfold HS at x; omega, fun x => by unfold AT HS at x; omega, rfl⟩)), h, Or.inl c⟩
      have m1 : T p.toNat ≠ 126 := fun x => n1 (by unfold HS; omega)
      have m2 : T p.toNat ≠ 42 := fun x => n2 (by unfold HS; omega)
      by_cases c1 : T p.toNat = 41
      · exact ⟨p, by omega, h3, PK5.mpr (Or.inr (Or.inr ⟨fun x => by unfold HS at x; omega, fun x => by unfold AT HS at x; omega, rfl⟩)), h, Or.inr c1⟩
      rw [AC_s h2 (by omega), sm1] at h
      unfold smT at h
      rw [if_neg c1, if_neg m2] at h
      by_cases c2 : T p.toNat = 47
      · rw [if_pos c2] at h
        by_cases c3 : p + 1 = s
        · exact absurd h (AC_n (by decide) c3)
        rw [AC_s (by omega) (by omega), sm3] at h
        by_cases c4 : 49 ≤ T (p + 1).toNat ∧ T (p + 1).toNat ≤ 57
        · rw [if_pos c4, show p + 1 + 1 = p + 2 by omega] at h
          obtain ⟨r, r1, r2, r3, r4, r5, r6⟩ := (ih (p + 2) d hd (by omega) (by omega) (by omega)).1 h
          obtain ⟨q, q1, q2, q3, q4⟩ := (ih r d hd (by omega) (by omega) r2).2.1 r4 r5 r6
          exact ⟨q, by omega, q2, PK5.mpr (Or.inl ⟨by unfold HS; omega, by unfold HS; omega, r, r3, q3⟩), q4⟩
        · rw [if_neg c4] at h
          exact absurd h AC_w
      rw [if_neg c2, if_neg m1] at h
      have hA : AC T s (0, (d : Int)) p := by
        rw [AC_s h2 (by omega), sm0]
        exact h
      obtain ⟨r, r1, r2, r3, r4, r5, r6⟩ := A1 hA
      obtain ⟨q, q1, q2, q3, q4⟩ := (ih r d hd (by omega) (by omega) r2).2.1 r4 r5 r6
      have at0 : AT T s p := by
        by_cases d1 : 48 ≤ T p.toNat ∧ T p.toNat ≤ 57
        · exact Or.inl (by unfold HS; omega)
        by_cases d2 : T p.toNat = 91
        · exact Or.inr (Or.inl (by unfold HS; omega))
        by_cases d3 : T p.toNat = 40
        · exact Or.inr (Or.inr (by unfold HS; omega))
        unfold smA at h
        rw [if_neg d1, if_neg d2, if_neg (by omega)] at h
        exact absurd h AC_w
      exact ⟨q, by omega, q2, PK5.mpr (Or.inr (Or.inl ⟨fun x => by unfold HS at x; omega, at0, r, r3, q3⟩)), q4⟩
    · intro h
      obtain ⟨r, r1, r2, r3, r4, r5, r6⟩ := A1 h
      obtain ⟨q, q1, q2, q3, q4⟩ := (ih r d hd (by omega) (by omega) r2).2.1 r4 r5 r6
      exact ⟨q, by omega, q2, PK2.mpr ⟨r, r3, q3⟩, q4⟩
/-- what can be read to its end is what the machine reads to its end -/
theorem PK_iff {T : Nat → Int} {s : Int} (h0 : 0 ≤ s) : (∃ q, PK T s 2 0 0 q ∧ s ≤ q) ↔ (s ≤ 60 ∧ AC T s (0, 0) 0) := by
  constructor
  · rintro ⟨q, ⟨n, h⟩, hq⟩
    have hi := PK_hi _ _ _ _ _ h h0 (by omega)
    refine ⟨by omega, ?_⟩
    exact PK_ac n 2 0 0 q (by omega) h (by omega) hi.1 ((AC_e (by omega)).mpr rfl)
  · rintro ⟨h60, h⟩
    obtain ⟨q, q1, q2, q3, q4, q5⟩ := (acM h60 _ 0 0 (by omega) (Nat.le_refl _) (by omega) h0).2.2 h
    refine ⟨q, q3, ?_⟩
    by_cases c : q = s
    · omega
    · exfalso
      have e41 : T q.toNat = 41 := q5.resolve_left c
      rw [AC_s (by omega) (by omega), sm1] at q4
      unfold smT at q4
      rw [if_pos e41, if_neg (by decide)] at q4
      exact AC_w q4
