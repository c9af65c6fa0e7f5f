/-! plans: the class's sums of costs and its choice -/
def plP (n : Nat) (tv cs : Nat → Nat → Int) (beh : Int → Int) (NV w x : Int) : Prop := 0 ≤ x ∧ x ≤ NV ∧ (∀ c s : Nat, vld n c s → x ≤ cs c s + beh (an w (tv c s))) ∧ (x = NV ∨ ∃ c s : Nat, vld n c s ∧ x = cs c s + beh (an w (tv c s)))
def fsP2 (n : Nat) (tv cs : Nat → Nat → Int) (beh : Int → Int) (w X : Int) (c s : Nat) : Prop := vld n c s ∧ cs c s + beh (an w (tv c s)) = X ∧ ∀ c2 s2 : Nat, vld n c2 s2 → bef c s c2 s2 → cs c2 s2 + beh (an w (tv c2 s2)) ≠ X
theorem co_cd (i : Nat) (h : i < 5) : zcd wC (70 + i) = 26 ∧ zln wC (70 + i) = 64 := (by decide : ∀ i : Nat, i < 5 → zcd wC (70 + i) = 26 ∧ zln wC (70 + i) = 64) i h
set_option maxHeartbeats 2000000 in
theorem fC_addCosts {M : zM} {i n m : Nat} {tv cs : Nat → Nat → Int} (hB : BN wC M) (hi : i < 4) (hm : M 60 2 = (m : Int)) (hch : ∀ g : Nat, g < 64 → chP (vld n) tv cs (g : Int) (M 75 g)) (htv : ∀ c s : Nat, 0 ≤ tv c s ∧ tv c s < ((2 ^ m : Nat) : Int)) {Q : zM → Prop} (hQ : ∀ M1 : zM, BN wC M1 ∧ (∀ p : Nat, p ≠ 70 + i → M1 p = M p) ∧ (∀ w : Nat, w < 2 ^ m → plP n tv cs (fun u => M (70 + (i + 1)) u.toNat) 1000000 (w : Int) (M1 (70 + i) w)) → Q M1) : wC_Planner_addCosts (70 + (i + 1)) (70 + i) M Q := by
  unfold wC_Planner_addCosts
  have bc : 0 ≤ M 60 2 ∧ M 60 2 ≤ 6 := BN.at hB (rfl : zcd wC 60 = 19) rfl
  have m6 : m ≤ 6 := by omega
  have pw := pow_b m m6
  obtain ⟨z1, z2⟩ := co_cd i (by omega)
  obtain ⟨z3, z4⟩ := co_cd (i + 1) (by omega)
  rw [hm, sh_pow m m6]
  refine wL1_of (fun x M2 => BN wC M2 ∧ (∀ p : Nat, p ≠ 70 + i → M2 p = M p) ∧ ∃ w : Nat, x = (w : Int) ∧ w ≤ 2 ^ m ∧ ∀ u : Nat, u < w → plP n tv cs (fun u => M (70 + (i + 1)) u.toNat) 1000000 (u : Int) (M2 (70 + i) u)) (fun x _ => (1000 - x).toNat) ⟨hB, fun _ _ => rfl, 0, rfl, by omega, fun u h => absurd h (Nat.not_lt_zero u)⟩ (fun K x M2 h k => ?_)
  obtain ⟨b2, f2, w, rfl, hw, hv⟩ := h
  have sw : sI (w : Int) = w := sIo (by omega) (by omega)
  have tw : ((w : Int)).toNat = w := by omega
  rw [sw]
  refine ⟨fun d => hQ _ ⟨b2, f2, fun u hu => hv u (by omega)⟩, fun d => ?_⟩
  refine pL2_of (fun x y => ∃ g : Nat, y = (g : Int) ∧ g ≤ 2 ^ m ∧ 0 ≤ x ∧ x ≤ 1000000 ∧ (∀ u : Nat, u < g → x ≤ M 75 u + M (70 + (i + 1)) (an (w : Int) (u : Int)).toNat) ∧ (x = 1000000 ∨ ∃ u : Nat, u < g ∧ x = M 75 u + M (70 + (i + 1)) (an (w : Int) (u : Int)).toNat)) (fun _ y => (1000 - y).toNat) ⟨0, rfl, by omega, by omega, by omega, fun u h => absurd h (Nat.not_lt_zero u), Or.inl rfl⟩ (fun K3 x y h3 k3 => ?_)
  obtain ⟨g, rfl, hg, x0, x1, x2, x3⟩ := h3
  have sg : sI (g : Int) = g := sIo (by omega) (by omega)
  have tg : ((g : Int)).toNat = g := by omega
  have sx : sI x = x := sIo (by omega) (by omega)
  rw [sg, tg, tw, sx]
  refine ⟨fun d2 => ⟨by rw [z2]; omega, fun M5 e5 => ?_⟩, fun d2 => ⟨by omega, ?_⟩⟩
  · refine k _ _ ⟨by rw [e5]; exact BN.up b2 z1 rfl (by omega) (by omega), fun p hp => by rw [e5, zup_row _ _ hp]; exact f2 p hp, w + 1, by omega, by omega, fun u hu => ?_⟩ (by omega)
    rw [e5]
    by_cases c5 : u = w
    · rw [c5, zup_s]
      refine ⟨x0, x1, fun c s hv => ?_, ?_⟩
      · obtain ⟨t1, t2⟩ := htv c s
        have a := x2 (tv c s).toNat (by omega)
        obtain ⟨-, -, c3, -⟩ := hch (tv c s).toNat (by omega)
        have c4 := c3 c s hv (by omega)
        rw [show (((tv c s).toNat : Nat) : Int) = tv c s by omega] at a
        show x ≤ cs c s + M (70 + (i + 1)) (an (w : Int) (tv c s)).toNat
        omega
      · rcases x3 with x3 | ⟨u, hu, x3⟩
        · exact Or.inl x3
        · obtain ⟨c1, c2, c3, c4⟩ := hch u (by omega)
          have bw : 0 ≤ M (70 + (i + 1)) (an (w : Int) (u : Int)).toNat ∧ M (70 + (i + 1)) (an (w : Int) (u : Int)).toNat ≤ 1000000 := BN.at hB z3 rfl
          rcases c4 with c4 | ⟨c, s, hv, e1, e2⟩
          · exact Or.inl (by omega)
          · refine Or.inr ⟨c, s, hv, ?_⟩
            show x = cs c s + M (70 + (i + 1)) (an (w : Int) (tv c s)).toNat
            rw [e1]
            omega
    · rw [zup_n _ _ (by omega)]
      exact hv u (by omega)
  · have ab : 0 ≤ andI (w : Int) (xorI (g : Int) (-1)) ∧ andI (w : Int) (xorI (g : Int) (-1)) ≤ (w : Int) := an_b (by omega)
    rw [z4, f2 75 (by omega), f2 (70 + (i + 1)) (by omega)]
    obtain ⟨c1, c2, -, -⟩ := hch g (by omega)
    have bw : 0 ≤ M (70 + (i + 1)) (andI (w : Int) (xorI (g : Int) (-1))).toNat ∧ M (70 + (i + 1)) (andI (w : Int) (xorI (g : Int) (-1))).toNat ≤ 1000000 := BN.at hB z3 rfl
    rw [sIo (z := M 75 g + M (70 + (i + 1)) (andI (w : Int) (xorI (g : Int) (-1))).toNat) (by omega) (by omega)]
    refine ⟨by omega, fun t e => k3 _ _ ⟨g + 1, by omega, by omega, by omega, by omega, fun u hu => ?_, ?_⟩ (by omega)⟩
    · by_cases c6 : u = g
      · rw [c6]
        show t ≤ M 75 g + M (70 + (i + 1)) (andI (w : Int) (xorI (g : Int) (-1))).toNat
        omega
      · have := x2 u (by omega)
        omega
    · by_cases c6 : x ≤ M 75 g + M (70 + (i + 1)) (andI (w : Int) (xorI (g : Int) (-1))).toNat
      · rcases x3 with x3 | ⟨u, hu, x3⟩
        · exact Or.inl (by omega)
        · exact Or.inr ⟨u, by omega, by omega⟩
      · refine Or.inr ⟨g, by omega, ?_⟩
        show t = M 75 g + M (70 + (i + 1)) (andI (w : Int) (xorI (g : Int) (-1))).toNat
        omega
set_option maxHeartbeats 2000000 in
theorem fC_choose {M : zM} {i n w : Nat} {tv : Nat → Nat → Int} (hB : BN wC M) (hi : i < 4) (hn : M (41 + 4 * i + 1) 1 = (n : Int)) (ht : ∀ c s : Nat, vld n c s → M (65 + i) (off n c + s) = tv c s) (hw : w < 64) (hex : ∃ c s : Nat, vld n c s ∧ M (70 + i) w = cstI (M (41 + 4 * i) 2) c s + M (70 + (i + 1)) (an (w : Int) (tv c s)).toNat) {Q : Int → zM → Prop} (hQ : ∀ (z : Int) (M1 : zM), (∃ c s : Nat, fsP2 n tv (cstI (M (41 + 4 * i) 2)) (fun u => M (70 + (i + 1)) u.toNat) (w : Int) (M (70 + i) w) c s ∧ z = an (w : Int) (tv c s) ∧ M1 = zup (zup M 63 (2 * i) (c : Int)) 63 (2 * i + 1) (s : Int)) → Q z M1) : wC_Planner_choose (some (41 + 4 * i)) (i : Int) (w : Int) M Q := by
  unfold wC_Planner_choose
  refine ⟨(fun h => nomatch h), fun q hq => ?_⟩
  obtain rfl := Option.some.inj hq
  obtain ⟨g1, g2, g3, g4, g5, g6⟩ := rg_cd i hi
  have bl : 0 ≤ M (41 + 4 * i + 1) 1 ∧ M (41 + 4 * i + 1) 1 ≤ 24 := BN.at hB g3 rfl
  have bs : 0 ≤ M (41 + 4 * i) 2 ∧ M (41 + 4 * i) 2 ≤ 23 := BN.at hB g2 rfl
  obtain ⟨z1, z2⟩ := co_cd i (by omega)
  obtain ⟨z3, z4⟩ := co_cd (i + 1) (by omega)
  have si : sI (i : Int) = i := sIo (by omega) (by omega)
  have si1 : sI ((i : Int) + 1) = ((i + 1 : Nat) : Int) := by rw [sIo (by omega) (by omega)]; omega
  have sn : sI (n : Int) = n := sIo (by omega) (by omega)
  have sw : sI (w : Int) = w := sIo (by omega) (by omega)
  have ti : ((i : Int)).toNat = i := by omega
  have ti1 : (((i + 1 : Nat) : Int)).toNat = i + 1 := by omega
  have tw : ((w : Int)).toNat = w := by omega
  have s2i : sI (2 * (i : Int)) = ((2 * i : Nat) : Int) := by rw [sIo (by omega) (by omega)]; omega
  have s2j : sI (2 * (i : Int) + 1) = ((2 * i + 1 : Nat) : Int) := by rw [sIo (by omega) (by omega)]; omega
  have t2i : (((2 * i : Nat) : Int)).toNat = 2 * i := by omega
  have t2j : (((2 * i + 1 : Nat) : Int)).toNat = 2 * i + 1 := by omega
  refine pL2_of (fun x y => ∃ c : Nat, y = (c : Int) ∧ c ≤ n ∧ x = (off n c : Int) ∧ ∀ c2 s2 : Nat, vld n c2 s2 → c2 < c → cstI (M (41 + 4 * i) 2) c2 s2 + M (70 + (i + 1)) (an (w : Int) (tv c2 s2)).toNat ≠ M (70 + i) w) (fun _ y => (1000 - y).toNat) ⟨0, rfl, by omega, rfl, fun c s _ h => absurd h (Nat.not_lt_zero c)⟩ (fun K x y h k => ?_)
  obtain ⟨c, rfl, hc, rfl, hv⟩ := h
  have sc : sI (c : Int) = c := sIo (by omega) (by omega)
  rw [hn, sn, sc]
  refine ⟨fun d => ?_, fun d => ?_⟩
  · obtain ⟨c2, s2, v2, e2⟩ := hex
    exact absurd e2.symm (hv c2 s2 v2 (by have := v2.1; omega))
  have ob := off_b n c (by omega) (by omega)
  refine pL2_of (fun x y => ∃ s : Nat, y = (s : Int) ∧ s ≤ n - c ∧ x = ((off n c + s : Nat) : Int) ∧ ∀ c2 s2 : Nat, vld n c2 s2 → bef c s c2 s2 → cstI (M (41 + 4 * i) 2) c2 s2 + M (70 + (i + 1)) (an (w : Int) (tv c2 s2)).toNat ≠ M (70 + i) w) (fun _ y => (1000 - y).toNat) ⟨0, rfl, by omega, rfl, fun c2 s2 h2 h3 => hv c2 s2 h2 (by unfold bef at h3; omega)⟩ (fun K3 x y h3 k3 => ?_)
  obtain ⟨s, rfl, hs, rfl, hu⟩ := h3
  have ss : sI (s : Int) = s := sIo (by omega) (by omega)
  have snc : sI ((n : Int) - (c : Int)) = ((n - c : Nat) : Int) := by rw [sIo (by omega) (by omega)]; omega
  have sx : sI ((off n c + s : Nat) : Int) = ((off n c + s : Nat) : Int) := sIo (by omega) (by omega)
  have tx : (((off n c + s : Nat) : Int)).toNat = off n c + s := by omega
  have done : s = n - c → K ((off n c + s : Nat) : Int) ((c : Int) + 1) := fun e => by
    refine k _ _ ⟨c + 1, by omega, by omega, ?_, fun c2 s2 h2 h3 => hu c2 s2 h2 ?_⟩ (by omega)
    · show ((off n c + s : Nat) : Int) = ((off n c + (n - c) : Nat) : Int)
      rw [e]
    · have h4 := h2.2
      unfold bef
      by_cases e2 : c2 = c
      · subst e2
        exact Or.inr ⟨rfl, by omega⟩
      · exact Or.inl (by omega)
  rw [ss, snc, sx, tx, si, si1, ti, ti1, sw, tw, s2i, s2j, t2i, t2j]
  refine ⟨fun d3 => done (by omega), fun d3 => ⟨fun d4 => absurd d4 (by omega), fun d4 => ?_⟩⟩
  have vv : vld n c s := ⟨by omega, by omega⟩
  have et : M (65 + 1 * i) (off n c + s) = tv c s := by rw [Nat.one_mul]; exact ht c s vv
  refine ⟨by omega, by omega, fun t e => ?_⟩
  have e : t = an (w : Int) (tv c s) := by rw [e, et]; rfl
  have ab : 0 ≤ an (w : Int) (tv c s) ∧ an (w : Int) (tv c s) ≤ (w : Int) := an_b (by omega)
  refine fC_cost hB hi (by omega) (by omega) ?_
  have cb := cstI_b (c := c) (s := s) bs (by omega) (by omega)
  rw [Nat.one_mul, Nat.one_mul]
  have bw : 0 ≤ M (70 + (i + 1)) t.toNat ∧ M (70 + (i + 1)) t.toNat ≤ 1000000 := BN.at hB z3 rfl
  have bx : 0 ≤ M (70 + i) w ∧ M (70 + i) w ≤ 1000000 := BN.at hB z1 rfl
  rw [sIo (z := cstI (M (41 + 4 * i) 2) c s + M (70 + (i + 1)) t.toNat) (by omega) (by omega), sIo (z := M (70 + i) w) (by omega) (by omega)]
  refine ⟨by omega, by omega, by omega, by omega, fun d5 => ?_, fun d5 => ⟨by omega, fun M5 e5 => ⟨by omega, fun M6 e6 => ?_⟩⟩⟩
  · refine k3 _ _ ⟨s + 1, by omega, by omega, by omega, fun c2 s2 h2 h3 => ?_⟩ (by omega)
    by_cases c6 : c2 = c ∧ s2 = s
    · rw [c6.1, c6.2, ← e]
      exact d5
    · exact hu c2 s2 h2 (by unfold bef at h3 ⊢; omega)
  · refine hQ _ _ ⟨c, s, ⟨vv, ?_, hu⟩, e, by rw [e6, e5]⟩
    show cstI (M (41 + 4 * i) 2) c s + M (70 + (i + 1)) (an (w : Int) (tv c s)).toNat = M (70 + i) w
    rw [← e]
    exact d5
