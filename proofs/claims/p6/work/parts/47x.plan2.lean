/-! plans: the class's rows of costs -/
def an (w t : Int) : Int := andI w (xorI t (-1))
theorem an_b {w t : Int} (h : 0 ≤ w ∧ w ≤ 2147483647) : 0 ≤ an w t ∧ an w t ≤ w := andI_le w _ h.1 h.2
def cstI (st : Int) (c s : Nat) : Int := 5 * (c : Int) + absI ((s : Int) - st)
theorem cstI_b {st : Int} {c s : Nat} (h : 0 ≤ st ∧ st ≤ 23) (hc : c < 24) (hs : s < 24) : 0 ≤ cstI st c s ∧ cstI st c s ≤ 200 := by
  unfold cstI
  have := absI_b ((s : Int) - st)
  omega
theorem sh_pow (m : Nat) (h : m ≤ 6) : shlI 1 (m : Int) = ((2 ^ m : Nat) : Int) := by
  rcases (by omega : m = 0 ∨ m = 1 ∨ m = 2 ∨ m = 3 ∨ m = 4 ∨ m = 5 ∨ m = 6) with rfl | rfl | rfl | rfl | rfl | rfl | rfl <;> decide
theorem pow_b (m : Nat) (h : m ≤ 6) : 1 ≤ 2 ^ m ∧ 2 ^ m ≤ 64 := by
  rcases (by omega : m = 0 ∨ m = 1 ∨ m = 2 ∨ m = 3 ∨ m = 4 ∨ m = 5 ∨ m = 6) with rfl | rfl | rfl | rfl | rfl | rfl | rfl <;> decide
theorem trB_lt {b : Nat → Int} : ∀ m : Nat, m ≤ 6 → trB b m < ((2 ^ m : Nat) : Int)
  | 0, _ => by show (0 : Int) < ((2 ^ 0 : Nat) : Int); decide
  | m + 1, h => by
    have a := trB_lt (b := b) m (by omega)
    have c := trB_b (b := b) m (by omega)
    have p := pow_b m (by omega)
    have e : (2 : Nat) ^ (m + 1) = 2 ^ m * 2 := Nat.pow_succ 2 m
    show (if b m = 1 then orI (trB b m) (shlI 1 (m : Int)) else trB b m) < ((2 ^ (m + 1) : Nat) : Int)
    by_cases d : b m = 1
    · rw [if_pos d, sh_pow m (by omega), orI_nat c.1 (by omega) (by omega) (by omega)]
      have l := Nat.or_lt_two_pow (x := (trB b m).toNat) (y := (((2 ^ m : Nat) : Int)).toNat) (n := m + 1) (by omega) (by omega)
      omega
    · rw [if_neg d]
      omega
def vld (n c s : Nat) : Prop := c < n ∧ s < n - c
def bef (c s c2 s2 : Nat) : Prop := c2 < c ∨ (c2 = c ∧ s2 < s)
theorem bef_lt {n c s c2 s2 : Nat} (h : s2 < n - c2) (h2 : c2 < c + 1) (e : s = n - c) : bef c s c2 s2 := by
  unfold bef
  by_cases e2 : c2 = c
  · subst e2
    exact Or.inr ⟨rfl, by omega⟩
  · exact Or.inl (by omega)
/-- the cheapest of those that make g true -/
def chP (P : Nat → Nat → Prop) (tv cs : Nat → Nat → Int) (g x : Int) : Prop := 0 ≤ x ∧ x ≤ 1000000 ∧ (∀ c s : Nat, P c s → tv c s = g → x ≤ cs c s) ∧ (x = 1000000 ∨ ∃ c s : Nat, P c s ∧ tv c s = g ∧ x = cs c s)
theorem fC_cost {M : zM} {r c s : Nat} (hB : BN wC M) (hr : r < 4) (hc : c < 24) (hs : s < 24) {Q : Int → Prop} (hQ : Q (cstI (M (41 + 4 * r) 2) c s)) : wC_Planner_cost (41 + 4 * r) (c : Int) (s : Int) M Q := by
  unfold wC_Planner_cost
  obtain ⟨g1, g2, -⟩ := rg_cd r hr
  have bs : 0 ≤ M (41 + 4 * r) 2 ∧ M (41 + 4 * r) 2 ≤ 23 := BN.at hB g2 rfl
  have b := cstI_b (c := c) (s := s) bs hc hs
  unfold cstI at b hQ
  rw [sIo (z := (s : Int) - M (41 + 4 * r) 2) (by omega) (by omega), sIo (by omega) (by omega)]
  exact hQ
theorem fC_fill {M : zM} {a0 N : Nat} {v : Int} (hB : BN wC M) (hN : zln wC a0 = N) (hN2 : N ≤ 1000) {q : Nat} {lo hi : Int} (hq : zcd wC a0 = q) (hbd : ∀ k, cbt q k = (lo, hi)) (hv : lo ≤ v ∧ v ≤ hi) {Q : zM → Prop} (hQ : ∀ M1 : zM, BN wC M1 ∧ (∀ p : Nat, p ≠ a0 → M1 p = M p) ∧ (∀ k : Nat, k < N → M1 a0 k = v) → Q M1) : wC_fill a0 v M Q := by
  unfold wC_fill
  rw [hN]
  refine wL1_of (fun x M2 => BN wC M2 ∧ (∀ p : Nat, p ≠ a0 → M2 p = M p) ∧ ∃ i : Nat, x = (i : Int) ∧ i ≤ N ∧ ∀ k : Nat, k < i → M2 a0 k = v) (fun x _ => (2000 - x).toNat) ⟨hB, fun _ _ => rfl, 0, rfl, by omega, fun k h => absurd h (Nat.not_lt_zero k)⟩ (fun K x M2 h k => ?_)
  obtain ⟨b2, f2, i, rfl, i1, hv2⟩ := h
  have si : sI (i : Int) = i := sIo (by omega) (by omega)
  have ti : ((i : Int)).toNat = i := by omega
  rw [si, ti]
  refine ⟨fun c => hQ _ ⟨b2, f2, fun k hk => hv2 k (by omega)⟩, fun c => ⟨by omega, fun M3 e3 => ?_⟩⟩
  refine k _ _ ⟨by rw [e3]; exact BN.up b2 hq (hbd i) hv.1 hv.2, fun p hp => by rw [e3, zup_row _ _ hp]; exact f2 p hp, i + 1, by omega, by omega, fun k hk => ?_⟩ (by omega)
  rw [e3]
  by_cases c5 : k = i
  · rw [c5, zup_s]
  · rw [zup_n _ _ (fun x => c5 x.2)]
    exact hv2 k (by omega)
set_option maxHeartbeats 4000000 in
theorem fC_listCheapest {M : zM} {r n : Nat} {tv : Nat → Nat → Int} (hB : BN wC M) (hr : r < 4) (hn : M (41 + 4 * r + 1) 1 = (n : Int)) (ht : ∀ c s : Nat, vld n c s → M (65 + r) (off n c + s) = tv c s) (hb : ∀ c s : Nat, 0 ≤ tv c s ∧ tv c s ≤ 63) {Q : zM → Prop} (hQ : ∀ M1 : zM, BN wC M1 ∧ (∀ p : Nat, p ≠ 75 → M1 p = M p) ∧ (∀ g : Nat, g < 64 → chP (vld n) tv (cstI (M (41 + 4 * r) 2)) (g : Int) (M1 75 g)) → Q M1) : wC_Planner_listCheapest (41 + 4 * r) (65 + r) M Q := by
  unfold wC_Planner_listCheapest
  obtain ⟨g1, g2, g3, g4, g5, g6⟩ := rg_cd r hr
  have bl : 0 ≤ M (41 + 4 * r + 1) 1 ∧ M (41 + 4 * r + 1) 1 ≤ 24 := BN.at hB g3 rfl
  have bs : 0 ≤ M (41 + 4 * r) 2 ∧ M (41 + 4 * r) 2 ≤ 23 := BN.at hB g2 rfl
  obtain ⟨z1, z2⟩ := (by decide : ∀ r : Nat, r < 4 → zcd wC (65 + r) = 24 ∧ zln wC (65 + r) = 300) r hr
  refine fC_fill (N := 64) hB (rfl : zln wC 75 = 64) (by omega) (rfl : zcd wC 75 = 27) (fun _ => rfl) (by omega) (fun M7 h7 => ?_)
  obtain ⟨b7, f7, v7⟩ := h7
  refine wL2_of (fun x y M2 => BN wC M2 ∧ (∀ p : Nat, p ≠ 75 → M2 p = M p) ∧ ∃ c : Nat, y = (c : Int) ∧ c ≤ n ∧ x = (off n c : Int) ∧ ∀ g : Nat, g < 64 → chP (fun c2 s2 => vld n c2 s2 ∧ c2 < c) tv (cstI (M (41 + 4 * r) 2)) (g : Int) (M2 75 g)) (fun _ y _ => (1000 - y).toNat) ⟨b7, f7, 0, rfl, by omega, rfl, fun g hg => ⟨by rw [v7 g hg]; omega, by rw [v7 g hg]; omega, fun c s h => absurd h.2 (Nat.not_lt_zero c), Or.inl (v7 g hg)⟩⟩ (fun K x y M2 h k => ?_)
  obtain ⟨b2, f2, c, rfl, hc, rfl, hv⟩ := h
  have sy : sI (c : Int) = c := sIo (by omega) (by omega)
  have l2 : M2 (41 + 4 * r + 1) 1 = (n : Int) := by rw [f2 _ (by omega)]; exact hn
  have sn : sI (n : Int) = n := sIo (by omega) (by omega)
  rw [sy, l2, sn]
  refine ⟨fun d => hQ _ ⟨b2, f2, fun g hg => ?_⟩, fun d => ?_⟩
  · obtain ⟨a1, a2, a3, a4⟩ := hv g hg
    refine ⟨a1, a2, fun c2 s2 h2 => a3 c2 s2 ⟨h2, by have := h2.1; omega⟩, ?_⟩
    rcases a4 with a4 | ⟨c2, s2, p1, p2⟩
    · exact Or.inl a4
    · exact Or.inr ⟨c2, s2, p1.1, p2⟩
  have ob := off_b n c (by omega) (by omega)
  refine wL2_of (fun x y M4 => BN wC M4 ∧ (∀ p : Nat, p ≠ 75 → M4 p = M p) ∧ ∃ s : Nat, y = (s : Int) ∧ s ≤ n - c ∧ x = ((off n c + s : Nat) : Int) ∧ ∀ g : Nat, g < 64 → chP (fun c2 s2 => vld n c2 s2 ∧ bef c s c2 s2) tv (cstI (M (41 + 4 * r) 2)) (g : Int) (M4 75 g)) (fun _ y _ => (1000 - y).toNat) ⟨b2, f2, 0, rfl, by omega, rfl, fun g hg => ?_⟩ (fun K3 x y M4 h4 k3 => ?_)
  · obtain ⟨a1, a2, a3, a4⟩ := hv g hg
    refine ⟨a1, a2, fun c2 s2 h2 => a3 c2 s2 ⟨h2.1, by have := h2.2; unfold bef at this; omega⟩, ?_⟩
    rcases a4 with a4 | ⟨c2, s2, p1, p2⟩
    · exact Or.inl a4
    · exact Or.inr ⟨c2, s2, ⟨p1.1, Or.inl p1.2⟩, p2⟩
  obtain ⟨b4, f4, s, rfl, hs, rfl, hw⟩ := h4
  have ss : sI (s : Int) = s := sIo (by omega) (by omega)
  have l4 : M4 (41 + 4 * r + 1) 1 = (n : Int) := by rw [f4 _ (by omega)]; exact hn
  have sl : sI ((n : Int) - (c : Int)) = ((n - c : Nat) : Int) := by rw [sIo (by omega) (by omega)]; omega
  have sx : sI ((off n c + s : Nat) : Int) = ((off n c + s : Nat) : Int) := sIo (by omega) (by omega)
  have tx : (((off n c + s : Nat) : Int)).toNat = off n c + s := by omega
  have done : s = n - c → K ((off n c + s : Nat) : Int) ((c : Int) + 1) M4 := fun e => by
    refine k _ _ _ ⟨b4, f4, c + 1, by omega, by omega, by show ((off n c + s : Nat) : Int) = ((off n c + (n - c) : Nat) : Int); rw [e], fun g hg => ?_⟩ (by omega)
    obtain ⟨a1, a2, a3, a4⟩ := hw g hg
    refine ⟨a1, a2, fun c2 s2 h2 => a3 c2 s2 ⟨h2.1, bef_lt h2.1.2 h2.2 e⟩, ?_⟩
    rcases a4 with a4 | ⟨c2, s2, p1, p2⟩
    · exact Or.inl a4
    · exact Or.inr ⟨c2, s2, ⟨p1.1, by have := p1.2; unfold bef at this; omega⟩, p2⟩
  rw [ss, l4, sl, sx, tx, z2]
  refine ⟨fun d3 => done (by omega), fun d3 => ⟨fun d4 => absurd d4 (by omega), fun d4 => ?_⟩⟩
  have vv : vld n c s := ⟨by omega, by omega⟩
  have e65 : M4 (65 + r) (off n c + s) = tv c s := by rw [f4 _ (by omega)]; exact ht c s vv
  have tb := hb c s
  have st : sI (tv c s) = tv c s := sIo (by omega) (by omega)
  rw [e65, st]
  refine ⟨by omega, by omega, by omega, ?_⟩
  refine fC_cost b4 hr (by omega) (by omega) ?_
  rw [f4 (41 + 4 * r) (by omega)]
  have cb := cstI_b (c := c) (s := s) bs (by omega) (by omega)
  have hh := hw (tv c s).toNat (by omega)
  rw [show (((tv c s).toNat : Nat) : Int) = tv c s by omega] at hh
  obtain ⟨x1, x2, x3, x4⟩ := hh
  rw [sIo (z := M4 75 (tv c s).toNat) (by omega) (by omega)]
  refine ⟨by omega, fun M5 e5 => ?_⟩
  refine k3 _ _ _ ⟨by rw [e5]; exact BN.up b4 (rfl : zcd wC 75 = 27) rfl (by omega) (by omega), fun p hp => by rw [e5, zup_row _ _ hp]; exact f4 p hp, s + 1, by omega, by omega, by omega, fun g hg => ?_⟩ (by omega)
  have bb : ∀ c2 s2 : Nat, bef c (s + 1) c2 s2 → bef c s c2 s2 ∨ (c2 = c ∧ s2 = s) := fun c2 s2 h => by unfold bef at h ⊢; omega
  have b1 : ∀ c2 s2 : Nat, bef c s c2 s2 → bef c (s + 1) c2 s2 := fun c2 s2 h => by unfold bef at h ⊢; omega
  obtain ⟨a1, a2, a3, a4⟩ := hw g hg
  rw [e5]
  by_cases cg : g = (tv c s).toNat
  · rw [cg, zup_s]
    have eg : (((tv c s).toNat : Nat) : Int) = tv c s := by omega
    rw [eg]
    refine ⟨by omega, by omega, fun c2 s2 h2 h3 => ?_, ?_⟩
    · rcases bb c2 s2 h2.2 with h4 | ⟨rfl, rfl⟩
      · have := x3 c2 s2 ⟨h2.1, h4⟩ h3
        omega
      · omega
    · by_cases cm : M4 75 (tv c s).toNat ≤ cstI (M (41 + 4 * r) 2) c s
      · rw [show min (M4 75 (tv c s).toNat) (cstI (M (41 + 4 * r) 2) c s) = M4 75 (tv c s).toNat by omega]
        rcases x4 with x4 | ⟨c2, s2, p1, p2⟩
        · exact Or.inl x4
        · exact Or.inr ⟨c2, s2, ⟨p1.1, b1 _ _ p1.2⟩, p2⟩
      · rw [show min (M4 75 (tv c s).toNat) (cstI (M (41 + 4 * r) 2) c s) = cstI (M (41 + 4 * r) 2) c s by omega]
        exact Or.inr ⟨c, s, ⟨vv, Or.inr ⟨rfl, by omega⟩⟩, rfl, rfl⟩
  · rw [zup_n _ _ (by omega)]
    refine ⟨a1, a2, fun c2 s2 h2 h3 => ?_, ?_⟩
    · rcases bb c2 s2 h2.2 with h4 | ⟨rfl, rfl⟩
      · exact a3 c2 s2 ⟨h2.1, h4⟩ h3
      · omega
    · rcases a4 with a4 | ⟨c2, s2, p1, p2⟩
      · exact Or.inl a4
      · exact Or.inr ⟨c2, s2, ⟨p1.1, b1 _ _ p1.2⟩, p2⟩
