section zz47ze_edits
/-- the table of edits, a row out of the one ahead -/
def edR (prev c : Nat → Int) (i : Int) : Nat → Int
  | 0 => i
  | k + 1 => min (min (prev k + c k) (1 + prev (k + 1))) (1 + edR prev c i k)
def edT (A B : Nat → Int) (m turn : Nat) : Nat → Nat → Int
  | 0 => fun k => (k : Int)
  | i + 1 => edR (edT A B m turn i) (fun k => if A i = B ((turn + k) % m) then 0 else 1) ((i : Int) + 1)
theorem edR_b {prev c : Nat → Int} {i : Int} (hi : 1 ≤ i) (hc : ∀ k : Nat, 0 ≤ c k ∧ c k ≤ 1) (hp : ∀ k : Nat, 0 ≤ prev k ∧ prev k ≤ max (i - 1) (k : Int)) : ∀ k : Nat, 0 ≤ edR prev c i k ∧ edR prev c i k ≤ max i (k : Int)
  | 0 => ⟨by show 0 ≤ i; omega, by show i ≤ max i ((0 : Nat) : Int); omega⟩
  | k + 1 => by
    have a := edR_b hi hc hp k
    have b := hp k
    have d := hp (k + 1)
    have e := hc k
    show 0 ≤ min (min (prev k + c k) (1 + prev (k + 1))) (1 + edR prev c i k) ∧ min (min (prev k + c k) (1 + prev (k + 1))) (1 + edR prev c i k) ≤ max i ((k + 1 : Nat) : Int)
    omega
theorem edT_b {A B : Nat → Int} {m turn : Nat} : ∀ i k : Nat, 0 ≤ edT A B m turn i k ∧ edT A B m turn i k ≤ max (i : Int) (k : Int)
  | 0, k => ⟨by show (0 : Int) ≤ (k : Int); omega, by show (k : Int) ≤ max ((0 : Nat) : Int) (k : Int); omega⟩
  | i + 1, k => by
    have a := edR_b (prev := edT A B m turn i) (c := fun k => if A i = B ((turn + k) % m) then 0 else 1) (i := (i : Int) + 1) (by omega) (fun k => by split <;> omega) (fun k => by have := edT_b (A := A) (B := B) (m := m) (turn := turn) i k; omega) k
    show 0 ≤ edR (edT A B m turn i) (fun k => if A i = B ((turn + k) % m) then 0 else 1) ((i : Int) + 1) k ∧ edR (edT A B m turn i) (fun k => if A i = B ((turn + k) % m) then 0 else 1) ((i : Int) + 1) k ≤ max ((i + 1 : Nat) : Int) (k : Int)
    omega
theorem edR_cg {prev prev2 c c2 : Nat → Int} {i : Int} (hp : ∀ k : Nat, prev k = prev2 k) : ∀ k : Nat, (∀ j : Nat, j < k → c j = c2 j) → edR prev c i k = edR prev2 c2 i k
  | 0, _ => rfl
  | k + 1, h => by
    show min (min (prev k + c k) (1 + prev (k + 1))) (1 + edR prev c i k) = min (min (prev2 k + c2 k) (1 + prev2 (k + 1))) (1 + edR prev2 c2 i k)
    rw [edR_cg hp k (fun j hj => h j (by omega)), hp k, hp (k + 1), h k (by omega)]
theorem edT_cg {A B A2 B2 : Nat → Int} {m turn : Nat} (hm : 1 ≤ m) (hB : ∀ k : Nat, k < m → B k = B2 k) : ∀ i : Nat, (∀ k : Nat, k < i → A k = A2 k) → ∀ k : Nat, edT A B m turn i k = edT A2 B2 m turn i k
  | 0, _, _ => rfl
  | i + 1, h, k => by
    show edR (edT A B m turn i) (fun k => if A i = B ((turn + k) % m) then 0 else 1) ((i : Int) + 1) k = edR (edT A2 B2 m turn i) (fun k => if A2 i = B2 ((turn + k) % m) then 0 else 1) ((i : Int) + 1) k
    exact edR_cg (fun k => edT_cg hm hB i (fun j hj => h j (by omega)) k) k (fun j _ => by rw [h i (by omega), hB _ (Nat.mod_lt _ hm)])
def mnF (f : Nat → Int) (x : Int) : Nat → Int
  | 0 => x
  | t + 1 => min (mnF f x t) (f t)
theorem mnF_eq {f g : Nat → Int} {x y : Int} (hx : f 0 ≤ x) (hy : f 0 ≤ y) : ∀ t : Nat, (∀ k : Nat, k < t + 1 → f k = g k) → mnF f x (t + 1) = mnF g y (t + 1)
  | 0, h => by
    show min x (f 0) = min y (g 0)
    have := h 0 (by omega)
    omega
  | t + 1, h => by
    show min (mnF f x (t + 1)) (f (t + 1)) = min (mnF g y (t + 1)) (g (t + 1))
    rw [mnF_eq hx hy t (fun k hk => h k (by omega)), h (t + 1) (by omega)]
theorem mnF_b {f : Nat → Int} {x : Int} (hx : 0 ≤ x ∧ x ≤ 268435456) (hf : ∀ k : Nat, 0 ≤ f k) : ∀ t : Nat, 0 ≤ mnF f x t ∧ mnF f x t ≤ 268435456
  | 0 => hx
  | t + 1 => by
    have a := mnF_b hx hf t
    have b := hf t
    show 0 ≤ min (mnF f x t) (f t) ∧ min (mnF f x t) (f t) ≤ 268435456
    omega
set_option maxHeartbeats 4000000 in
theorem fC_editsTurned {M : zM} {j1 j2 n m turn : Nat} {a2 : Int} (hB : BN wC M) (h1 : M j1 1 = (n : Int)) (h2 : M j2 1 = (m : Int)) (hn : n ≤ 24) (hm : 1 ≤ m ∧ m ≤ 24) (ht : turn < m) (ha : a2 = (turn : Int)) (d1 : j1 ≠ 100 ∧ j1 + 1 ≠ 100) (d2 : j2 ≠ 100 ∧ j2 + 1 ≠ 100) {Q : Int → zM → Prop} (hQ : ∀ M1 : zM, BN wC M1 ∧ (∀ j9 : Nat, ¬ (j9 = 100) → M1 j9 = M j9) → Q (edT (M (j1 + 1)) (M (j2 + 1)) m turn n m) M1) : wC_Versions_editsTurned j1 j2 a2 M Q := by
  unfold wC_Versions_editsTurned
  have sm : sI (m : Int) = m := sIo (by omega) (by omega)
  have sn : sI (n : Int) = n := sIo (by omega) (by omega)
  have tm : ((m : Int)).toNat = m := by omega
  have c100 : zcd wC 100 = 48 := rfl
  refine wL1_of (fun x M2 => BN wC M2 ∧ (∀ j9 : Nat, ¬ (j9 = 100) → M2 j9 = M j9) ∧ ∃ k : Nat, x = (k : Int) ∧ k ≤ m + 1 ∧ ∀ i : Nat, i < k → M2 100 i = (i : Int)) (fun x _ => (1000 - x).toNat) ⟨hB, fun _ _ => rfl, 0, rfl, by omega, fun i h => absurd h (Nat.not_lt_zero i)⟩ (fun K x M2 h k => ?_)
  obtain ⟨b2, f2, q, rfl, hq, hv⟩ := h
  have sq : sI (q : Int) = q := sIo (by omega) (by omega)
  rw [f2 j2 d2.1, h2, sm, sq, show ((q : Int)).toNat = q by omega]
  refine ⟨fun c => ?_, fun c => ⟨by omega, fun M3 e3 => ?_⟩⟩
  rotate_left
  · refine k _ _ ⟨by rw [e3]; exact BN.up b2 c100 rfl (by omega) (by omega), fun j9 h9 => by rw [e3, zup_row _ _ h9]; exact f2 j9 h9, q + 1, by omega, by omega, fun i hi => ?_⟩ (by omega)
    rw [e3]
    by_cases c5 : i = q
    · rw [c5, zup_s]
    · rw [zup_n _ _ (by omega)]
      exact hv i (by omega)
  · refine wL1_of (fun x M3 => BN wC M3 ∧ (∀ j9 : Nat, ¬ (j9 = 100) → M3 j9 = M j9) ∧ ∃ i : Nat, x = (i : Int) ∧ i ≤ n ∧ ∀ k : Nat, k ≤ m → M3 100 k = edT (M (j1 + 1)) (M (j2 + 1)) m turn i k) (fun x _ => (1000 - x).toNat) ⟨b2, f2, 0, rfl, by omega, fun i hi => hv i (by omega)⟩ (fun K3 x M3 h3 k3 => ?_)
    obtain ⟨b3, f3, i, rfl, hi, hv3⟩ := h3
    have si : sI (i : Int) = i := sIo (by omega) (by omega)
    rw [f3 j1 d1.1, f3 j2 d2.1, h1, h2, sm, sn, si, tm, show ((i : Int)).toNat = i by omega]
    refine ⟨fun c3 => ⟨by omega, ?_⟩, fun c3 M4 e4 => ?_⟩
    · have e := hv3 m (by omega)
      rw [show i = n by omega] at e
      have b := edT_b (A := M (j1 + 1)) (B := M (j2 + 1)) (m := m) (turn := turn) n m
      rw [e, sIo (by omega) (by omega)]
      exact hQ _ ⟨b3, f3⟩
    · have b4 : BN wC M4 := by rw [e4]; exact BN.up b3 c100 rfl (by omega) (by omega)
      have f4 : ∀ j9 : Nat, ¬ (j9 = 100) → M4 j9 = M j9 := fun j9 h9 => by rw [e4, zup_row _ _ h9]; exact f3 j9 h9
      refine wL2_of (fun x y M5 => BN wC M5 ∧ (∀ j9 : Nat, ¬ (j9 = 100) → M5 j9 = M j9) ∧ ∃ k : Nat, y = (k : Int) ∧ k ≤ m ∧ x = edT (M (j1 + 1)) (M (j2 + 1)) m turn i k ∧ (∀ u : Nat, u ≤ k → M5 100 u = edT (M (j1 + 1)) (M (j2 + 1)) m turn (i + 1) u) ∧ ∀ u : Nat, k < u → u ≤ m → M5 100 u = edT (M (j1 + 1)) (M (j2 + 1)) m turn i u) (fun _ y _ => (1000 - y).toNat) ⟨b4, f4, 0, rfl, by omega, hv3 0 (by omega), fun u hu => ?_, fun u h1 h2 => ?_⟩ (fun K5 x y M5 h5 k5 => ?_)
      · rw [e4, show u = 0 by omega, zup_s]
        rfl
      · rw [e4, zup_n _ _ (by omega)]
        exact hv3 u h2
      · obtain ⟨b5, f5, u, rfl, hu, rfl, hv5, hw5⟩ := h5
        have su : sI (u : Int) = u := sIo (by omega) (by omega)
        have su1 : sI ((u : Int) + 1) = ((u + 1 : Nat) : Int) := by rw [sIo (by omega) (by omega)]; omega
        have st : sI (a2 + (u : Int)) = ((turn + u : Nat) : Int) := by rw [sIo (by omega) (by omega)]; omega
        rw [f5 j2 d2.1, h2, sm, su, su1, st, show ((u : Int)).toNat = u by omega, show (((u + 1 : Nat) : Int)).toNat = u + 1 by omega]
        refine ⟨fun c5 => k3 _ _ ⟨b5, f5, i + 1, by omega, by omega, fun v hv => hv5 v (by omega)⟩ (by omega), fun c5 => ⟨by omega, ?_⟩⟩
        refine fC_by (by omega) (by omega) ?_
        have em : ((turn + u : Nat) : Int) % (m : Int) = (((turn + u) % m : Nat) : Int) := (Int.natCast_emod _ _).symm
        have lt := Nat.mod_lt (turn + u) (show m > 0 by omega)
        have ra := BN.r32 hB (j1 + 1) i
        have rb := BN.r32 hB (j2 + 1) ((turn + u) % m)
        rw [em, show ((((turn + u) % m : Nat) : Int)).toNat = (turn + u) % m by omega, f5 (j1 + 1) d1.2, f5 (j2 + 1) d2.2, sIo ra.1 ra.2, sIo rb.1 rb.2]
        refine ⟨by omega, ?_⟩
        have bp := edT_b (A := M (j1 + 1)) (B := M (j2 + 1)) (m := m) (turn := turn) i u
        have bp1 := edT_b (A := M (j1 + 1)) (B := M (j2 + 1)) (m := m) (turn := turn) i (u + 1)
        have bn := edT_b (A := M (j1 + 1)) (B := M (j2 + 1)) (m := m) (turn := turn) (i + 1) u
        refine pJ1_of (fun w => w = if M (j1 + 1) i = M (j2 + 1) ((turn + u) % m) then 1 else 0) (fun w hw => ?_) ⟨fun c6 => by rw [if_neg c6], fun c6 => by rw [if_pos c6]⟩
        have sw : sI w = w := by rw [hw]; split <;> decide
        rw [sw]
        refine pJ1_of (fun w2 => w2 = edT (M (j1 + 1)) (M (j2 + 1)) m turn i u + (if M (j1 + 1) i = M (j2 + 1) ((turn + u) % m) then 0 else 1)) (fun w2 hw2 => ?_) ⟨fun c6 => ?_, fun c6 => ?_⟩
        · have bw : 0 ≤ w2 ∧ w2 ≤ 100 := by rw [hw2]; split <;> omega
          rw [hw5 (u + 1) (by omega) (by omega), hv5 u (by omega), sIo (z := w2) (by omega) (by omega), sIo (z := edT (M (j1 + 1)) (M (j2 + 1)) m turn i (u + 1)) (by omega) (by omega), sIo (z := edT (M (j1 + 1)) (M (j2 + 1)) m turn (i + 1) u) (by omega) (by omega)]
          rw [sIo (z := 1 + min (edT (M (j1 + 1)) (M (j2 + 1)) m turn i (u + 1)) (edT (M (j1 + 1)) (M (j2 + 1)) m turn (i + 1) u)) (by omega) (by omega)]
          refine ⟨by omega, by omega, by omega, fun M6 e6 => ?_⟩
          have es : edT (M (j1 + 1)) (M (j2 + 1)) m turn (i + 1) (u + 1) = min w2 (1 + min (edT (M (j1 + 1)) (M (j2 + 1)) m turn i (u + 1)) (edT (M (j1 + 1)) (M (j2 + 1)) m turn (i + 1) u)) := by
            have e : edT (M (j1 + 1)) (M (j2 + 1)) m turn (i + 1) (u + 1) = min (min (edT (M (j1 + 1)) (M (j2 + 1)) m turn i u + (if M (j1 + 1) i = M (j2 + 1) ((turn + u) % m) then 0 else 1)) (1 + edT (M (j1 + 1)) (M (j2 + 1)) m turn i (u + 1))) (1 + edT (M (j1 + 1)) (M (j2 + 1)) m turn (i + 1) u) := rfl
            rw [e, ← hw2]
            omega
          rw [← es] at e6
          have be := edT_b (A := M (j1 + 1)) (B := M (j2 + 1)) (m := m) (turn := turn) (i + 1) (u + 1)
          refine k5 _ _ _ ⟨by rw [e6]; exact BN.up b5 c100 rfl (by omega) (by omega), fun j9 h9 => by rw [e6, zup_row _ _ h9]; exact f5 j9 h9, u + 1, by omega, by omega, rfl, fun v hv => ?_, fun v h7 h8 => ?_⟩ (by omega)
          · rw [e6]
            by_cases c7 : v = u + 1
            · rw [c7, zup_s]
            · rw [zup_n _ _ (by omega)]
              exact hv5 v (by omega)
          · rw [e6, zup_n _ _ (by omega)]
            exact hw5 v (by omega) h8
        · rw [if_neg (fun x => by rw [hw, if_pos x] at c6; omega)]
        · rw [if_pos (Decidable.byContradiction (fun x => c6 (by rw [hw, if_neg x])))]
          omega
theorem fC_vfind {M : zM} {a : Int} (hB : BN wC M) (v : -2147483648 ≤ a ∧ a ≤ 2147483647) {P : Option Nat → Prop} (hn : ¬ (0 ≤ a ∧ a < M 96 0) → P none) (hs : ∀ x : Nat, a = (x : Int) → (x : Int) < M 96 0 → x < 16 → P (some (101 + 2 * x))) : wC_Versions_find a M P := by
  unfold wC_Versions_find
  have bc : 0 ≤ M 96 0 ∧ M 96 0 ≤ 16 := BN.at hB (rfl : zcd wC 96 = 44) rfl
  rw [sIo v.1 v.2, sIo (z := M 96 0) (by omega) (by omega)]
  exact ⟨fun c => hn (by omega), fun c => ⟨fun d => hn (by omega), fun d => ⟨fun e => absurd e (by omega), fun e => ⟨by omega, hs a.toNat (by omega) (by omega) (by omega)⟩⟩⟩⟩
theorem fC_edits {M : zM} {a0 a1 : Int} (hB : BN wC M) (hl : ∀ v : Nat, (v : Int) < M 96 0 → 1 ≤ M (101 + 2 * v) 1) (v0 : -2147483648 ≤ a0 ∧ a0 ≤ 2147483647) (v1 : -2147483648 ≤ a1 ∧ a1 ≤ 2147483647) {Q : Int → zM → Prop} (hQ : ∀ (z : Int) (M1 : zM), BN wC M1 ∧ (∀ j9 : Nat, ¬ (j9 = 100) → M1 j9 = M j9) ∧ (((0 ≤ a0 ∧ a0 < M 96 0) ∧ (0 ≤ a1 ∧ a1 < M 96 0) ∧ ∃ x y n m : Nat, a0 = (x : Int) ∧ a1 = (y : Int) ∧ M (101 + 2 * x) 1 = (n : Int) ∧ M (101 + 2 * y) 1 = (m : Int) ∧ z = mnF (fun t => edT (M (101 + 2 * x + 1)) (M (101 + 2 * y + 1)) m t n m) (max (n : Int) (m : Int)) m) ∨ (¬ ((0 ≤ a0 ∧ a0 < M 96 0) ∧ (0 ≤ a1 ∧ a1 < M 96 0)) ∧ z = -1)) → Q z M1) : wC_edits a0 a1 M Q := by
  unfold wC_edits
  have bc : 0 ≤ M 96 0 ∧ M 96 0 ≤ 16 := BN.at hB (rfl : zcd wC 96 = 44) rfl
  have no : ¬ ((0 ≤ a0 ∧ a0 < M 96 0) ∧ (0 ≤ a1 ∧ a1 < M 96 0)) → Q (-1) M := fun h => hQ _ _ ⟨hB, fun _ _ => rfl, Or.inr ⟨h, rfl⟩⟩
  refine fC_vfind hB v0 (fun h0 => ⟨fun _ => ?_, fun q hq => nomatch hq⟩) (fun x hx x1 x2 => ⟨(fun h => nomatch h), fun q hq => ?_⟩)
  · refine fC_vfind hB v1 (fun _ => ⟨fun _ => no (fun x => h0 x.1), fun q hq => nomatch hq⟩) (fun y hy y1 y2 => ⟨(fun h => nomatch h), fun q hq => ?_⟩)
    obtain rfl := Option.some.inj hq
    obtain ⟨c1, c2, c3⟩ := ve_cd y y2
    exact ⟨⟨c1, c2⟩, no (fun x => h0 x.1)⟩
  · obtain rfl := Option.some.inj hq
    obtain ⟨c1, c2, c3⟩ := ve_cd x x2
    refine ⟨⟨c1, c2⟩, ?_⟩
    refine fC_vfind hB v1 (fun h1 => ⟨fun _ => no (fun x => h1 x.2), fun q hq => nomatch hq⟩) (fun y hy y1 y2 => ⟨(fun h => nomatch h), fun q hq => ?_⟩)
    obtain rfl := Option.some.inj hq
    obtain ⟨g1, g2, g3⟩ := ve_cd y y2
    refine ⟨⟨g1, g2⟩, ?_⟩
    unfold wC_Versions_fewestEdits
    have bn : 0 ≤ M (101 + 2 * x) 1 ∧ M (101 + 2 * x) 1 ≤ 24 := BN.at hB c2 rfl
    have bm : 0 ≤ M (101 + 2 * y) 1 ∧ M (101 + 2 * y) 1 ≤ 24 := BN.at hB g2 rfl
    have l1 := hl x x1
    have l2 := hl y y1
    obtain ⟨n, hn⟩ : ∃ n : Nat, M (101 + 2 * x) 1 = (n : Int) := ⟨(M (101 + 2 * x) 1).toNat, by omega⟩
    obtain ⟨m, hm⟩ : ∃ m : Nat, M (101 + 2 * y) 1 = (m : Int) := ⟨(M (101 + 2 * y) 1).toNat, by omega⟩
    rw [hn, hm, sIo (z := (n : Int)) (by omega) (by omega), sIo (z := (m : Int)) (by omega) (by omega)]
    refine wL2_of (fun z t M2 => BN wC M2 ∧ (∀ j9 : Nat, ¬ (j9 = 100) → M2 j9 = M j9) ∧ ∃ u : Nat, t = (u : Int) ∧ u ≤ m ∧ z = mnF (fun t => edT (M (101 + 2 * x + 1)) (M (101 + 2 * y + 1)) m t n m) (max (n : Int) (m : Int)) u) (fun _ t _ => (1000 - t).toNat) ⟨hB, fun _ _ => rfl, 0, rfl, by omega, rfl⟩ (fun K z t M2 h k => ?_)
    obtain ⟨b2, f2, u, rfl, hu, rfl⟩ := h
    have bz := mnF_b (f := fun t => edT (M (101 + 2 * x + 1)) (M (101 + 2 * y + 1)) m t n m) (x := max (n : Int) (m : Int)) (by omega) (fun k => (edT_b _ _).1) u
    rw [f2 (101 + 2 * y) (by omega), hm, sIo (z := (u : Int)) (by omega) (by omega), sIo (z := (m : Int)) (by omega) (by omega), sIo (z := mnF (fun t => edT (M (101 + 2 * x + 1)) (M (101 + 2 * y + 1)) m t n m) (max (n : Int) (m : Int)) u) (by omega) (by omega)]
    refine ⟨fun c => hQ _ _ ⟨b2, f2, Or.inl ⟨by omega, by omega, x, y, n, m, hx, hy, hn, hm, by rw [show u = m by omega]⟩⟩, fun c => ?_⟩
    refine fC_editsTurned (n := n) (m := m) (turn := u) b2 (by rw [f2 _ (by omega)]; exact hn) (by rw [f2 _ (by omega)]; exact hm) (by omega) (by omega) (by omega) rfl ⟨by omega, by omega⟩ ⟨by omega, by omega⟩ (fun M3 h3 => ?_)
    obtain ⟨b3, f3⟩ := h3
    rw [f2 (101 + 2 * x + 1) (by omega), f2 (101 + 2 * y + 1) (by omega)]
    exact k _ _ _ ⟨b3, fun j9 h9 => (f3 j9 h9).trans (f2 j9 h9), u + 1, by omega, by omega, rfl⟩ (by omega)
end zz47ze_edits
section zz47zf_redits
/-! versions: edits, the model's -/
theorem edT_24 {A B : Nat → Int} {m turn i k : Nat} (hi : i ≤ 24) (hk : k ≤ 24) : 0 ≤ edT A B m turn i k ∧ edT A B m turn i k ≤ 24 := by
  have b := edT_b (A := A) (B := B) (m := m) (turn := turn) i k
  omega
theorem ed_val {a b d w t1 t2 : Int} (ha : 0 ≤ a ∧ a ≤ 24) (hb : 0 ≤ b ∧ b ≤ 24) (hd : 0 ≤ d ∧ d ≤ 24) (hw : 0 ≤ w ∧ w ≤ 1) (e1 : t1 = a + w) (e2 : t2 = min (sI t1) (sI (1 + b))) : min t2 (sI (1 + d)) = min (min (a + w) (1 + b)) (1 + d) := by
  rw [e2, e1, sIo (z := a + w) (by omega) (by omega), sIo (z := 1 + b) (by omega) (by omega), sIo (z := 1 + d) (by omega) (by omega)]
set_option maxHeartbeats 4000000 in
theorem fR_editsBy {M : zM} {x y n m turn : Nat} {a0 a1 a2 : Int} (hB : BI M) (hx : x < 16) (hy : y < 16) (e0 : a0 = (x : Int)) (e1 : a1 = (y : Int)) (e2 : a2 = (turn : Int)) (h1 : M 19 x = (n : Int)) (h2 : M 19 y = (m : Int)) (hn : 1 ≤ n ∧ n ≤ 24) (hm : 1 ≤ m ∧ m ≤ 24) (ht : turn < m) {Q : Int → zM → Prop} (hQ : ∀ M1 : zM, BI M1 ∧ (∀ j9 k9 : Nat, ¬ (j9 = 33) → M1 j9 k9 = M j9 k9) → Q (edT (fun k => M 18 (24 * x + k)) (fun k => M 18 (24 * y + k)) m turn n m) M1) : wR_editsBy a0 a1 a2 M Q := by
  unfold wR_editsBy
  rw [e0, e1, e2, sIo (z := (x : Int)) (by omega) (by omega), sIo (z := (y : Int)) (by omega) (by omega), show ((x : Int)).toNat = x by omega, show ((y : Int)).toNat = y by omega, h1, h2, sIo (z := (n : Int)) (by omega) (by omega), sIo (z := (m : Int)) (by omega) (by omega)]
  refine ⟨by omega, by omega, ?_⟩
  have hcd : zcd wR 33 = 83 := rfl
  refine wL1_of (fun z M2 => BI M2 ∧ (∀ j9 k9 : Nat, ¬ (j9 = 33) → M2 j9 k9 = M j9 k9) ∧ ∃ i : Nat, z = (i : Int) ∧ i ≤ n + 1 ∧ ∀ j k : Nat, j < i → k ≤ m → M2 33 (25 * j + k) = edT (fun k => M 18 (24 * x + k)) (fun k => M 18 (24 * y + k)) m turn j k) (fun z _ => (1000 - z).toNat) ⟨hB, fun _ _ _ => rfl, 0, rfl, by omega, fun j k h => absurd h (Nat.not_lt_zero j)⟩ (fun K z M2 h k => ?_)
  obtain ⟨b2, f2, i, rfl, hi, hv⟩ := h
  have si : sI (i : Int) = i := sIo (by omega) (by omega)
  have s25 : sI (25 * (n : Int) + (m : Int)) = ((25 * n + m : Nat) : Int) := by rw [sIo (by omega) (by omega)]; omega
  rw [si, s25, show (((25 * n + m : Nat) : Int)).toNat = 25 * n + m by omega]
  refine ⟨fun c => ⟨by omega, ?_⟩, fun c => ?_⟩
  · have b := edT_b (A := fun k => M 18 (24 * x + k)) (B := fun k => M 18 (24 * y + k)) (m := m) (turn := turn) n m
    rw [hv n m (by omega) (by omega), sIo (by omega) (by omega)]
    exact hQ _ ⟨b2, f2⟩
  · refine wL1_of (fun z M3 => BI M3 ∧ (∀ j9 k9 : Nat, ¬ (j9 = 33) → M3 j9 k9 = M j9 k9) ∧ ∃ q : Nat, z = (q : Int) ∧ q ≤ m + 1 ∧ (∀ j k : Nat, j < i → k ≤ m → M3 33 (25 * j + k) = edT (fun k => M 18 (24 * x + k)) (fun k => M 18 (24 * y + k)) m turn j k) ∧ ∀ k : Nat, k < q → M3 33 (25 * i + k) = edT (fun k => M 18 (24 * x + k)) (fun k => M 18 (24 * y + k)) m turn i k) (fun z _ => (1000 - z).toNat) ⟨b2, f2, 0, rfl, by omega, hv, fun k h => absurd h (Nat.not_lt_zero k)⟩ (fun K3 z M3 h3 k3 => ?_)
    obtain ⟨b3, f3, q, rfl, hq, hv3, hw3⟩ := h3
    have sq : sI (q : Int) = q := sIo (by omega) (by omega)
    have s1 : sI (25 * (i : Int) + (q : Int)) = ((25 * i + q : Nat) : Int) := by rw [sIo (by omega) (by omega)]; omega
    have t1 : (((25 * i + q : Nat) : Int)).toNat = 25 * i + q := by omega
    rw [sq, s1, t1]
    have put : ∀ v : Int, v = edT (fun k => M 18 (24 * x + k)) (fun k => M 18 (24 * y + k)) m turn i q → q ≤ m → ∀ M6 : zM, M6 = zup M3 33 (25 * i + q) v → K3 ((q : Int) + 1) M6 := fun v hv0 hqm M6 e6 => by
      have b := edT_b (A := fun k => M 18 (24 * x + k)) (B := fun k => M 18 (24 * y + k)) (m := m) (turn := turn) i q
      rw [← hv0] at b
      refine k3 _ _ ⟨by rw [e6]; exact BI.up b3 hcd rfl (by omega) (by omega) (by decide), fun j9 k9 h9 => by rw [e6, zup_n _ _ (by omega)]; exact f3 j9 k9 h9, q + 1, by omega, by omega, fun j k hj hk => by rw [e6, zup_n _ _ (by omega)]; exact hv3 j k hj hk, fun k hk => ?_⟩ (by omega)
      rw [e6]
      by_cases c5 : k = q
      · rw [c5, zup_s]
        exact hv0
      · rw [zup_n _ _ (by omega)]
        exact hw3 k (by omega)
    refine ⟨fun c3 => k _ _ ⟨b3, f3, i + 1, by omega, by omega, fun j k hj hk => ?_⟩ (by omega), fun c3 => ?_⟩
    · by_cases c5 : j = i
      · rw [c5]
        exact hw3 k (by omega)
      · exact hv3 j k (by omega) hk
    · refine pJ0_of (i = 0 ∨ q = 0) (fun hj => ⟨by omega, fun M6 e6 => put _ ?_ (by omega) M6 e6⟩) ⟨fun c4 => Or.inl (by omega), fun c4 => ⟨fun c5 => ?_, fun c5 => Or.inr (by omega)⟩⟩
      · by_cases c0 : i = 0
        · subst c0
          show ((0 : Nat) : Int) + (q : Int) = (q : Int)
          omega
        · obtain ⟨i2, rfl⟩ : ∃ i2 : Nat, i = i2 + 1 := ⟨i - 1, by omega⟩
          have q0 : q = 0 := by omega
          subst q0
          show ((i2 + 1 : Nat) : Int) + ((0 : Nat) : Int) = (i2 : Int) + 1
          omega
      · obtain ⟨i2, rfl⟩ : ∃ i2 : Nat, i = i2 + 1 := ⟨i - 1, by omega⟩
        obtain ⟨q2, rfl⟩ : ∃ q2 : Nat, q = q2 + 1 := ⟨q - 1, by omega⟩
        have lt := Nat.mod_lt (turn + q2) (show m > 0 by omega)
        have a1 : sI (24 * (x : Int) + ((i2 + 1 : Nat) : Int) - 1) = ((24 * x + i2 : Nat) : Int) := by rw [sIo (by omega) (by omega)]; omega
        have a2 : sI (((q2 + 1 : Nat) : Int) - 1 + (turn : Int)) = ((turn + q2 : Nat) : Int) := by rw [sIo (by omega) (by omega)]; omega
        have a3 : ((turn + q2 : Nat) : Int).tmod (m : Int) = (((turn + q2) % m : Nat) : Int) := by
          rw [Int.tmod_eq_emod_of_nonneg (by omega)]
          exact (Int.natCast_emod _ _).symm
        have a4 : sI (24 * (y : Int) + (((turn + q2) % m : Nat) : Int)) = ((24 * y + (turn + q2) % m : Nat) : Int) := by rw [sIo (by omega) (by omega)]; omega
        have a5 : sI (25 * (((i2 + 1 : Nat) : Int) - 1) + ((q2 + 1 : Nat) : Int) - 1) = ((25 * i2 + q2 : Nat) : Int) := by rw [sIo (by omega) (by omega)]; omega
        have a6 : sI (25 * (((i2 + 1 : Nat) : Int) - 1) + ((q2 + 1 : Nat) : Int)) = ((25 * i2 + (q2 + 1) : Nat) : Int) := by rw [sIo (by omega) (by omega)]; omega
        have a7 : sI (25 * ((i2 + 1 : Nat) : Int) + ((q2 + 1 : Nat) : Int) - 1) = ((25 * (i2 + 1) + q2 : Nat) : Int) := by rw [sIo (by omega) (by omega)]; omega
        rw [a1, a2, a3, a4, a5, a6, a7, show (((24 * x + i2 : Nat) : Int)).toNat = 24 * x + i2 by omega, show (((24 * y + (turn + q2) % m : Nat) : Int)).toNat = 24 * y + (turn + q2) % m by omega, show (((25 * i2 + q2 : Nat) : Int)).toNat = 25 * i2 + q2 by omega, show (((25 * i2 + (q2 + 1) : Nat) : Int)).toNat = 25 * i2 + (q2 + 1) by omega, show (((25 * (i2 + 1) + q2 : Nat) : Int)).toNat = 25 * (i2 + 1) + q2 by omega]
        have ra := BN.r32 hB.1 18 (24 * x + i2)
        have rb := BN.r32 hB.1 18 (24 * y + (turn + q2) % m)
        rw [f3 18 (24 * x + i2) (by omega), f3 18 (24 * y + (turn + q2) % m) (by omega), sIo ra.1 ra.2, sIo rb.1 rb.2]
        have p0 := edT_24 (A := fun k => M 18 (24 * x + k)) (B := fun k => M 18 (24 * y + k)) (m := m) (turn := turn) (i := i2) (k := q2) (by omega) (by omega)
        have p1 := edT_24 (A := fun k => M 18 (24 * x + k)) (B := fun k => M 18 (24 * y + k)) (m := m) (turn := turn) (i := i2) (k := q2 + 1) (by omega) (by omega)
        have p2 := edT_24 (A := fun k => M 18 (24 * x + k)) (B := fun k => M 18 (24 * y + k)) (m := m) (turn := turn) (i := i2 + 1) (k := q2) (by omega) (by omega)
        rw [hv3 i2 q2 (by omega) (by omega), hv3 i2 (q2 + 1) (by omega) (by omega), hw3 q2 (by omega)]
        refine ⟨by omega, by omega, by omega, ?_⟩
        refine pJ1_of (fun w => w = if M 18 (24 * x + i2) = M 18 (24 * y + (turn + q2) % m) then 1 else 0) (fun w hw => ?_) ⟨fun c6 => by rw [if_neg c6], fun c6 => by rw [if_pos c6]⟩
        have sw : sI w = w := by rw [hw]; split <;> decide
        rw [sw]
        refine ⟨by omega, ?_⟩
        refine pJ1_of (fun w2 => w2 = if M 18 (24 * x + i2) = M 18 (24 * y + (turn + q2) % m) then 0 else 1) (fun w2 hw2 t74 e74 => ⟨by omega, fun t77 e77 => ⟨by omega, by omega, fun M6 e6 => put _ ?_ (by omega) M6 e6⟩⟩) ⟨fun c6 => ?_, fun c6 => ?_⟩
        · have bw : 0 ≤ w2 ∧ w2 ≤ 1 := by rw [hw2]; split <;> decide
          have e : edT (fun k => M 18 (24 * x + k)) (fun k => M 18 (24 * y + k)) m turn (i2 + 1) (q2 + 1) = min (min (edT (fun k => M 18 (24 * x + k)) (fun k => M 18 (24 * y + k)) m turn i2 q2 + (if M 18 (24 * x + i2) = M 18 (24 * y + (turn + q2) % m) then 0 else 1)) (1 + edT (fun k => M 18 (24 * x + k)) (fun k => M 18 (24 * y + k)) m turn i2 (q2 + 1))) (1 + edT (fun k => M 18 (24 * x + k)) (fun k => M 18 (24 * y + k)) m turn (i2 + 1) q2) := rfl
          rw [e, ← hw2]
          exact ed_val p0 p1 p2 bw e74 e77
        · rw [if_neg (fun x => by rw [hw, if_pos x] at c6; omega)]
        · rw [if_pos (Decidable.byContradiction (fun x => c6 (by rw [hw, if_neg x])))]
theorem fR_edits {M : zM} {a0 a1 : Int} (hB : BI M) (hl : ∀ v : Nat, (v : Int) < M 0 32 → 1 ≤ M 19 v) (v0 : -2147483648 ≤ a0 ∧ a0 ≤ 2147483647) (v1 : -2147483648 ≤ a1 ∧ a1 ≤ 2147483647) {Q : Int → zM → Prop} (hQ : ∀ (z : Int) (M1 : zM), BI M1 ∧ (∀ j9 k9 : Nat, ¬ (j9 = 0 ∧ k9 = 35 ∨ j9 = 33) → M1 j9 k9 = M j9 k9) ∧ (((0 ≤ a0 ∧ a0 < M 0 32) ∧ (0 ≤ a1 ∧ a1 < M 0 32) ∧ ∃ x y n m : Nat, a0 = (x : Int) ∧ a1 = (y : Int) ∧ M 19 x = (n : Int) ∧ M 19 y = (m : Int) ∧ z = mnF (fun t => edT (fun k => M 18 (24 * x + k)) (fun k => M 18 (24 * y + k)) m t n m) 268435456 m) ∨ (¬ ((0 ≤ a0 ∧ a0 < M 0 32) ∧ (0 ≤ a1 ∧ a1 < M 0 32)) ∧ z = -1)) → Q z M1) : wR_edits a0 a1 M Q := by
  unfold wR_edits
  intro M1 e1
  have hB1 : BI M1 := by rw [e1]; exact BI.up0 hB (rfl : cbt 50 35 = (-2147483648, 2147483647)) (by omega) (by omega) (by decide)
  have F1 : ∀ j9 k9 : Nat, ¬ (j9 = 0 ∧ k9 = 35) → M1 j9 k9 = M j9 k9 := fun j9 k9 h9 => by rw [e1]; exact zup_n _ _ (by omega)
  have bc : 0 ≤ M 0 32 ∧ M 0 32 ≤ 16 := BN.at hB.1 (rfl : zcd wR 0 = 50) rfl
  have no : ¬ ((0 ≤ a0 ∧ a0 < M 0 32) ∧ (0 ≤ a1 ∧ a1 < M 0 32)) → Q (-1) M1 := fun h => hQ _ _ ⟨hB1, fun j9 k9 h9 => F1 j9 k9 (by omega), Or.inr ⟨h, rfl⟩⟩
  rw [F1 0 32 (by omega)]
  refine sR_in hB1 v0 (by omega) (by omega) (fun z2 h2 => ?_)
  obtain ⟨-, h2, -⟩ := h2
  refine ⟨fun c => no (fun x => by have := x.1; omega), fun c => ?_⟩
  refine sR_in hB1 v1 (by omega) (by omega) (fun z7 h7 => ?_)
  obtain ⟨-, h7, -⟩ := h7
  refine ⟨fun d => ?_, fun d => no (fun x => by have := x.2; omega)⟩
  have g : (0 ≤ a0 ∧ a0 < M 0 32) ∧ (0 ≤ a1 ∧ a1 < M 0 32) := ⟨by omega, by omega⟩
  clear h2 h7 c d no
  obtain ⟨x, hx⟩ : ∃ x : Nat, a0 = (x : Int) := ⟨a0.toNat, by omega⟩
  obtain ⟨y, hy⟩ : ∃ y : Nat, a1 = (y : Int) := ⟨a1.toNat, by omega⟩
  have bn : 0 ≤ M 19 x ∧ M 19 x ≤ 24 := BN.at hB.1 (rfl : zcd wR 19 = 69) rfl
  have bm : 0 ≤ M 19 y ∧ M 19 y ≤ 24 := BN.at hB.1 (rfl : zcd wR 19 = 69) rfl
  have l1 := hl x (by omega)
  have l2 := hl y (by omega)
  obtain ⟨n, hn⟩ : ∃ n : Nat, M 19 x = (n : Int) := ⟨(M 19 x).toNat, by omega⟩
  obtain ⟨m, hm⟩ : ∃ m : Nat, M 19 y = (m : Int) := ⟨(M 19 y).toNat, by omega⟩
  have s1 : sI a1 = (y : Int) := by rw [hy]; exact sIo (by omega) (by omega)
  rw [s1, show ((y : Int)).toNat = y by omega]
  refine wL2_of (fun z t M2 => BI M2 ∧ (∀ j9 k9 : Nat, ¬ (j9 = 33) → M2 j9 k9 = M1 j9 k9) ∧ ∃ u : Nat, t = (u : Int) ∧ u ≤ m ∧ z = mnF (fun t => edT (fun k => M 18 (24 * x + k)) (fun k => M 18 (24 * y + k)) m t n m) 268435456 u) (fun _ t _ => (1000 - t).toNat) ⟨hB1, fun _ _ _ => rfl, 0, rfl, by omega, rfl⟩ (fun K z t M2 h k => ?_)
  obtain ⟨b2, f2, u, rfl, hu, rfl⟩ := h
  have bz := mnF_b (f := fun t => edT (fun k => M 18 (24 * x + k)) (fun k => M 18 (24 * y + k)) m t n m) (x := 268435456) (by omega) (fun k => (edT_b _ _).1) u
  have F2 : ∀ j9 k9 : Nat, ¬ (j9 = 0 ∧ k9 = 35 ∨ j9 = 33) → M2 j9 k9 = M j9 k9 := fun j9 k9 h9 => (f2 j9 k9 (by omega)).trans (F1 j9 k9 (by omega))
  rw [F2 19 y (by omega), hm, sIo (z := (u : Int)) (by omega) (by omega), sIo (z := (m : Int)) (by omega) (by omega), sIo (z := mnF (fun t => edT (fun k => M 18 (24 * x + k)) (fun k => M 18 (24 * y + k)) m t n m) 268435456 u) (by omega) (by omega)]
  refine ⟨by omega, fun c => hQ _ _ ⟨b2, F2, Or.inl ⟨g.1, g.2, x, y, n, m, hx, hy, hn, hm, by rw [show u = m by omega]⟩⟩, fun c => ?_⟩
  refine fR_editsBy (x := x) (y := y) (n := n) (m := m) (turn := u) b2 (by omega) (by omega) hx hy rfl (by rw [F2 19 x (by omega)]; exact hn) (by rw [F2 19 y (by omega)]; exact hm) ⟨by omega, by omega⟩ ⟨by omega, by omega⟩ (by omega) (fun M3 h3 => ?_)
  obtain ⟨b3, f3⟩ := h3
  rw [show (fun k => M2 18 (24 * x + k)) = fun k => M 18 (24 * x + k) from funext fun k => F2 18 _ (by omega), show (fun k => M2 18 (24 * y + k)) = fun k => M 18 (24 * y + k) from funext fun k => F2 18 _ (by omega)]
  exact k _ _ _ ⟨b3, fun j9 k9 h9 => (f3 j9 k9 h9).trans (f2 j9 k9 h9), u + 1, by omega, by omega, rfl⟩ (by omega)
theorem edits_det {MC MR : zM} {a0 a1 z z9 : Int} (h : iVe MC MR) (p : ((0 ≤ a0 ∧ a0 < MC 96 0) ∧ (0 ≤ a1 ∧ a1 < MC 96 0) ∧ ∃ x y n m : Nat, a0 = (x : Int) ∧ a1 = (y : Int) ∧ MC (101 + 2 * x) 1 = (n : Int) ∧ MC (101 + 2 * y) 1 = (m : Int) ∧ z = mnF (fun t => edT (MC (101 + 2 * x + 1)) (MC (101 + 2 * y + 1)) m t n m) (max (n : Int) (m : Int)) m) ∨ (¬ ((0 ≤ a0 ∧ a0 < MC 96 0) ∧ (0 ≤ a1 ∧ a1 < MC 96 0)) ∧ z = -1)) (q : ((0 ≤ a0 ∧ a0 < MR 0 32) ∧ (0 ≤ a1 ∧ a1 < MR 0 32) ∧ ∃ x y n m : Nat, a0 = (x : Int) ∧ a1 = (y : Int) ∧ MR 19 x = (n : Int) ∧ MR 19 y = (m : Int) ∧ z9 = mnF (fun t => edT (fun k => MR 18 (24 * x + k)) (fun k => MR 18 (24 * y + k)) m t n m) 268435456 m) ∨ (¬ ((0 ≤ a0 ∧ a0 < MR 0 32) ∧ (0 ≤ a1 ∧ a1 < MR 0 32)) ∧ z9 = -1)) : z = z9 := by
  obtain ⟨h1, h2, h3⟩ := h
  rw [← h1] at q
  rcases p with ⟨c, d, x, y, n, m, p1, p2, p3, p4, p5⟩ | ⟨c, p1⟩
  · rcases q with ⟨-, -, x9, y9, n9, m9, q1, q2, q3, q4, q5⟩ | ⟨c2, -⟩
    · obtain rfl : x = x9 := by omega
      obtain rfl : y = y9 := by omega
      obtain ⟨-, -, nn, n1, n2, n3, n4, n5⟩ := h3 x (by omega)
      obtain ⟨-, -, mm, m1, m2, m3, m4, m5⟩ := h3 y (by omega)
      obtain rfl : n = nn := by omega
      obtain rfl : m = mm := by omega
      obtain rfl : n = n9 := by omega
      obtain rfl : m = m9 := by omega
      obtain ⟨w, rfl⟩ : ∃ w : Nat, m = w + 1 := ⟨m - 1, by omega⟩
      rw [p5, q5]
      have b := edT_b (A := MC (101 + 2 * x + 1)) (B := MC (101 + 2 * y + 1)) (m := w + 1) (turn := 0) n (w + 1)
      exact mnF_eq (by omega) (by omega) w (fun k _ => edT_cg (by omega) m5 n n5 (w + 1))
    · exact absurd ⟨c, d⟩ c2
  · rcases q with ⟨c2, d2, -⟩ | ⟨-, q1⟩
    · exact absurd ⟨c2, d2⟩ c
    · omega
end zz47zf_redits
