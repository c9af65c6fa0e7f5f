/-! versions: what is known, edits -/
def knF (R D : Nat → Int) (r d : Int) : Nat → Int
  | 0 => -1
  | n + 1 => if R n = r ∧ D n ≤ d then (n : Int) else knF R D r d n
theorem knF_cg {R D R2 D2 : Nat → Int} {r d : Int} : ∀ n : Nat, (∀ k : Nat, k < n → R k = R2 k ∧ D k = D2 k) → knF R D r d n = knF R2 D2 r d n
  | 0, _ => rfl
  | n + 1, h => by
    show (if R n = r ∧ D n ≤ d then (n : Int) else knF R D r d n) = (if R2 n = r ∧ D2 n ≤ d then (n : Int) else knF R2 D2 r d n)
    rw [knF_cg n (fun k hk => h k (by omega)), (h n (by omega)).1, (h n (by omega)).2]
theorem fC_known {M : zM} {a0 a1 : Int} (hB : BN wC M) (v0 : -2147483648 ≤ a0 ∧ a0 ≤ 2147483647) (v1 : -2147483648 ≤ a1 ∧ a1 ≤ 2147483647) {Q : Int → Prop} (hQ : ∀ z : Int, z = knF (M 98) (M 99) a0 a1 (M 96 0).toNat → Q z) : wC_known a0 a1 M Q := by
  unfold wC_known wC_Versions_latest
  have bc : 0 ≤ M 96 0 ∧ M 96 0 ≤ 16 := BN.at hB (rfl : zcd wC 96 = 44) rfl
  refine pL1_of (fun x => ∃ n : Nat, x = (n : Int) - 1 ∧ n ≤ 16 ∧ knF (M 98) (M 99) a0 a1 n = knF (M 98) (M 99) a0 a1 (M 96 0).toNat) (fun x => (x + 1).toNat) ⟨(M 96 0).toNat, by omega, by omega, rfl⟩ (fun K x h k => ?_)
  obtain ⟨n, rfl, hn, he⟩ := h
  rw [sIo (z := (n : Int) - 1) (by omega) (by omega), sIo v0.1 v0.2, sIo v1.1 v1.2]
  refine ⟨fun c => hQ _ ?_, fun c => ?_⟩
  · rw [← he, show n = 0 by omega]
    rfl
  · obtain ⟨m, rfl⟩ : ∃ m : Nat, n = m + 1 := ⟨n - 1, by omega⟩
    have em : ((m + 1 : Nat) : Int) - 1 = (m : Int) := by omega
    have r98 := BN.r32 hB 98 m
    have r99 := BN.r32 hB 99 m
    have eu : knF (M 98) (M 99) a0 a1 (m + 1) = if M 98 m = a0 ∧ M 99 m ≤ a1 then (m : Int) else knF (M 98) (M 99) a0 a1 m := rfl
    rw [em, show ((m : Int)).toNat = m by omega, sIo (z := M 98 m) (by omega) (by omega), sIo (z := M 99 m) (by omega) (by omega)]
    refine ⟨by omega, fun c2 => k _ ⟨m, by omega, by omega, ?_⟩ (by omega), fun c2 => ⟨by omega, fun c3 => k _ ⟨m, by omega, by omega, ?_⟩ (by omega), fun c3 => hQ _ ?_⟩⟩
    · rw [← he, eu, if_neg (fun x => c2 x.1)]
    · rw [← he, eu, if_neg (fun x => by have := x.2; omega)]
    · rw [← he, eu, if_pos ⟨c2, c3⟩]
theorem fR_known {M : zM} {a0 a1 : Int} (hB : BI M) (v0 : -2147483648 ≤ a0 ∧ a0 ≤ 2147483647) (v1 : -2147483648 ≤ a1 ∧ a1 ≤ 2147483647) {Q : Int → zM → Prop} (hQ : ∀ (z : Int) (M1 : zM), BI M1 ∧ (∀ j9 k9 : Nat, ¬ (j9 = 0 ∧ k9 = 35) → M1 j9 k9 = M j9 k9) ∧ z = knF (M 20) (M 21) a0 a1 (M 0 32).toNat → Q z M1) : wR_known a0 a1 M Q := by
  unfold wR_known
  intro M1 e1
  have hB1 : BI M1 := by rw [e1]; exact BI.up0 hB (rfl : cbt 50 35 = (-2147483648, 2147483647)) (by omega) (by omega) (by decide)
  have F1 : ∀ j9 k9 : Nat, ¬ (j9 = 0 ∧ k9 = 35) → M1 j9 k9 = M j9 k9 := fun j9 k9 h9 => by rw [e1]; exact zup_n _ _ (by omega)
  have bc : 0 ≤ M 0 32 ∧ M 0 32 ≤ 16 := BN.at hB.1 (rfl : zcd wR 0 = 50) rfl
  have fin : ∀ z : Int, z = knF (M 20) (M 21) a0 a1 (M 0 32).toNat → Q z M1 := fun z hz => hQ _ _ ⟨hB1, F1, hz⟩
  rw [F1 0 32 (by omega)]
  refine pL1_of (fun x => ∃ n : Nat, x = (n : Int) - 1 ∧ n ≤ 16 ∧ knF (M 20) (M 21) a0 a1 n = knF (M 20) (M 21) a0 a1 (M 0 32).toNat) (fun x => (x + 1).toNat) ⟨(M 0 32).toNat, by omega, by omega, rfl⟩ (fun K x h k => ?_)
  obtain ⟨n, rfl, hn, he⟩ := h
  rw [sIo (z := (n : Int) - 1) (by omega) (by omega), sIo v0.1 v0.2, sIo v1.1 v1.2]
  refine ⟨fun c => fin _ ?_, fun c => ?_⟩
  · rw [← he, show n = 0 by omega]
    rfl
  · obtain ⟨m, rfl⟩ : ∃ m : Nat, n = m + 1 := ⟨n - 1, by omega⟩
    have em : ((m + 1 : Nat) : Int) - 1 = (m : Int) := by omega
    have r98 := BN.r32 hB.1 20 m
    have r99 := BN.r32 hB.1 21 m
    have eu : knF (M 20) (M 21) a0 a1 (m + 1) = if M 20 m = a0 ∧ M 21 m ≤ a1 then (m : Int) else knF (M 20) (M 21) a0 a1 m := rfl
    rw [em, show ((m : Int)).toNat = m by omega, F1 20 m (by omega), F1 21 m (by omega), sIo (z := M 20 m) (by omega) (by omega), sIo (z := M 21 m) (by omega) (by omega)]
    refine ⟨by omega, fun c2 => k _ ⟨m, by omega, by omega, ?_⟩ (by omega), fun c2 => ⟨by omega, fun c3 => k _ ⟨m, by omega, by omega, ?_⟩ (by omega), fun c3 => fin _ ?_⟩⟩
    · rw [← he, eu, if_neg (fun x => c2 x.1)]
    · rw [← he, eu, if_neg (fun x => by have := x.2; omega)]
    · rw [← he, eu, if_pos ⟨c2, c3⟩]
theorem known_det {MC MR : zM} {a0 a1 z z9 : Int} (hC : BN wC MC) (h : iVe MC MR) (p : z = knF (MC 98) (MC 99) a0 a1 (MC 96 0).toNat) (q : z9 = knF (MR 20) (MR 21) a0 a1 (MR 0 32).toNat) : z = z9 := by
  obtain ⟨h1, h2, h3⟩ := h
  have bc : 0 ≤ MC 96 0 ∧ MC 96 0 ≤ 16 := BN.at hC (rfl : zcd wC 96 = 44) rfl
  rw [p, q, ← h1]
  exact knF_cg _ (fun k hk => by
    obtain ⟨a, b, -⟩ := h3 k (by omega)
    exact ⟨a, b⟩)
/-- the table of edits, a row out of the one ahead -/
def edR (prev c : Nat → Int) (i : Int) : Nat → Int
  | 0 => i
  | k + 1 => min (min (prev k + c k) (1 + prev (k + 1))) (1 + edR prev c i k)
def edT (A B : Nat → Int) (m turn : Nat) : Nat → Nat → Int
  | 0 => fun k => (k : Int)
  | i + 1 => edR (edT A B m turn i) (fun k => if A i = B ((turn + k) % m) then 0 else 1) ((i : Int) + 1)
theorem edR_b {prev c : Nat → Int} {i : Int} (hi : 1 ≤ i) (hc : ∀ k : Nat, 0 ≤ c k ∧ c k ≤ 1) (hp : ∀ k : Nat, 0 ≤ prev k ∧ prev k ≤ max (i - 1) (k : Int)) : ∀ k : Nat, 0 ≤ edR prev c i k ∧ edR prev c i k ≤ max i (k : Int)
  | 0 => ⟨by show 0 ≤ i; omega, by show i ≤ max i ((0 : Nat) : Int); omega⟩
  | k + 1 => by
    have a := edR_b hi hc hp k
    have b := hp k
    have d := hp (k + 1)
    have e := hc k
    show 0 ≤ min (min (prev k + c k) (1 + prev (k + 1))) (1 + edR prev c i k) ∧ min (min (prev k + c k) (1 + prev (k + 1))) (1 + edR prev c i k) ≤ max i ((k + 1 : Nat) : Int)
    omega
theorem edT_b {A B : Nat → Int} {m turn : Nat} : ∀ i k : Nat, 0 ≤ edT A B m turn i k ∧ edT A B m turn i k ≤ max (i : Int) (k : Int)
  | 0, k => ⟨by show (0 : Int) ≤ (k : Int); omega, by show (k : Int) ≤ max ((0 : Nat) : Int) (k : Int); omega⟩
  | i + 1, k => by
    have a := edR_b (prev := edT A B m turn i) (c := fun k => if A i = B ((turn + k) % m) then 0 else 1) (i := (i : Int) + 1) (by omega) (fun k => by split <;> omega) (fun k => by have := edT_b (A := A) (B := B) (m := m) (turn := turn) i k; omega) k
    show 0 ≤ edR (edT A B m turn i) (fun k => if A i = B ((turn + k) % m) then 0 else 1) ((i : Int) + 1) k ∧ edR (edT A B m turn i) (fun k => if A i = B ((turn + k) % m) then 0 else 1) ((i : Int) + 1) k ≤ max ((i + 1 : Nat) : Int) (k : Int)
    omega
theorem edR_cg {prev prev2 c c2 : Nat → Int} {i : Int} (hp : ∀ k : Nat, prev k = prev2 k) : ∀ k : Nat, (∀ j : Nat, j < k → c j = c2 j) → edR prev c i k = edR prev2 c2 i k
  | 0, _ => rfl
  | k + 1, h => by
    show min (min (prev k + c k) (1 + prev (k + 1))) (1 + edR prev c i k) = min (min (prev2 k + c2 k) (1 + prev2 (k + 1))) (1 + edR prev2 c2 i k)
    rw [edR_cg hp k (fun j hj => h j (by omega)), hp k, hp (k + 1), h k (by omega)]
theorem edT_cg {A B A2 B2 : Nat → Int} {m turn : Nat} (hm : 1 ≤ m) (hB : ∀ k : Nat, k < m → B k = B2 k) : ∀ i : Nat, (∀ k : Nat, k < i → A k = A2 k) → ∀ k : Nat, edT A B m turn i k = edT A2 B2 m turn i k
  | 0, _, _ => rfl
  | i + 1, h, k => by
    show edR (edT A B m turn i) (fun k => if A i = B ((turn + k) % m) then 0 else 1) ((i : Int) + 1) k = edR (edT A2 B2 m turn i) (fun k => if A2 i = B2 ((turn + k) % m) then 0 else 1) ((i : Int) + 1) k
    exact edR_cg (fun k => edT_cg hm hB i (fun j hj => h j (by omega)) k) k (fun j _ => by rw [h i (by omega), hB _ (Nat.mod_lt _ hm)])
def mnF (f : Nat → Int) (x : Int) : Nat → Int
  | 0 => x
  | t + 1 => min (mnF f x t) (f t)
theorem mnF_eq {f g : Nat → Int} {x y : Int} (hx : f 0 ≤ x) (hy : f 0 ≤ y) : ∀ t : Nat, (∀ k : Nat, k < t + 1 → f k = g k) → mnF f x (t + 1) = mnF g y (t + 1)
  | 0, h => by
    show min x (f 0) = min y (g 0)
    have := h 0 (by omega)
    omega
  | t + 1, h => by
    show min (mnF f x (t + 1)) (f (t + 1)) = min (mnF g y (t + 1)) (g (t + 1))
    rw [mnF_eq hx hy t (fun k hk => h k (by omega)), h (t + 1) (by omega)]
theorem mnF_b {f : Nat → Int} {x : Int} (hx : 0 ≤ x ∧ x ≤ 268435456) (hf : ∀ k : Nat, 0 ≤ f k) : ∀ t : Nat, 0 ≤ mnF f x t ∧ mnF f x t ≤ 268435456
  | 0 => hx
  | t + 1 => by
    have a := mnF_b hx hf t
    have b := hf t
    show 0 ≤ min (mnF f x t) (f t) ∧ min (mnF f x t) (f t) ≤ 268435456
    omega
set_option maxHeartbeats 4000000 in
theorem fC_editsTurned {M : zM} {j1 j2 n m turn : Nat} {a2 : Int} (hB : BN wC M) (h1 : M j1 1 = (n : Int)) (h2 : M j2 1 = (m : Int)) (hn : n ≤ 24) (hm : 1 ≤ m ∧ m ≤ 24) (ht : turn < m) (ha : a2 = (turn : Int)) (d1 : j1 ≠ 100 ∧ j1 + 1 ≠ 100) (d2 : j2 ≠ 100 ∧ j2 + 1 ≠ 100) {Q : Int → zM → Prop} (hQ : ∀ M1 : zM, BN wC M1 ∧ (∀ j9 : Nat, ¬ (j9 = 100) → M1 j9 = M j9) → Q (edT (M (j1 + 1)) (M (j2 + 1)) m turn n m) M1) : wC_Versions_editsTurned j1 j2 a2 M Q := by
  unfold wC_Versions_editsTurned
  have sm : sI (m : Int) = m := sIo (by omega) (by omega)
  have sn : sI (n : Int) = n := sIo (by omega) (by omega)
  have tm : ((m : Int)).toNat = m := by omega
  have c100 : zcd wC 100 = 48 := rfl
  refine wL1_of (fun x M2 => BN wC M2 ∧ (∀ j9 : Nat, ¬ (j9 = 100) → M2 j9 = M j9) ∧ ∃ k : Nat, x = (k : Int) ∧ k ≤ m + 1 ∧ ∀ i : Nat, i < k → M2 100 i = (i : Int)) (fun x _ => (1000 - x).toNat) ⟨hB, fun _ _ => rfl, 0, rfl, by omega, fun i h => absurd h (Nat.not_lt_zero i)⟩ (fun K x M2 h k => ?_)
  obtain ⟨b2, f2, q, rfl, hq, hv⟩ := h
  have sq : sI (q : Int) = q := sIo (by omega) (by omega)
  rw [f2 j2 d2.1, h2, sm, sq, show ((q : Int)).toNat = q by omega]
  refine ⟨fun c => ?_, fun c => ⟨by omega, fun M3 e3 => ?_⟩⟩
  rotate_left
  · refine k _ _ ⟨by rw [e3]; exact BN.up b2 c100 rfl (by omega) (by omega), fun j9 h9 => by rw [e3, zup_row _ _ h9]; exact f2 j9 h9, q + 1, by omega, by omega, fun i hi => ?_⟩ (by omega)
    rw [e3]
    by_cases c5 : i = q
    · rw [c5, zup_s]
    · rw [zup_n _ _ (by omega)]
      exact hv i (by omega)
  · refine wL1_of (fun x M3 => BN wC M3 ∧ (∀ j9 : Nat, ¬ (j9 = 100) → M3 j9 = M j9) ∧ ∃ i : Nat, x = (i : Int) ∧ i ≤ n ∧ ∀ k : Nat, k ≤ m → M3 100 k = edT (M (j1 + 1)) (M (j2 + 1)) m turn i k) (fun x _ => (1000 - x).toNat) ⟨b2, f2, 0, rfl, by omega, fun i hi => hv i (by omega)⟩ (fun K3 x M3 h3 k3 => ?_)
    obtain ⟨b3, f3, i, rfl, hi, hv3⟩ := h3
    have si : sI (i : Int) = i := sIo (by omega) (by omega)
    rw [f3 j1 d1.1, f3 j2 d2.1, h1, h2, sm, sn, si, tm, show ((i : Int)).toNat = i by omega]
    refine ⟨fun c3 => ⟨by omega, ?_⟩, fun c3 M4 e4 => ?_⟩
    · have e := hv3 m (by omega)
      rw [show i = n by omega] at e
      have b := edT_b (A := M (j1 + 1)) (B := M (j2 + 1)) (m := m) (turn := turn) n m
      rw [e, sIo (by omega) (by omega)]
      exact hQ _ ⟨b3, f3⟩
    · have b4 : BN wC M4 := by rw [e4]; exact BN.up b3 c100 rfl (by omega) (by omega)
      have f4 : ∀ j9 : Nat, ¬ (j9 = 100) → M4 j9 = M j9 := fun j9 h9 => by rw [e4, zup_row _ _ h9]; exact f3 j9 h9
      refine wL2_of (fun x y M5 => BN wC M5 ∧ (∀ j9 : Nat, ¬ (j9 = 100) → M5 j9 = M j9) ∧ ∃ k : Nat, y = (k : Int) ∧ k ≤ m ∧ x = edT (M (j1 + 1)) (M (j2 + 1)) m turn i k ∧ (∀ u : Nat, u ≤ k → M5 100 u = edT (M (j1 + 1)) (M (j2 + 1)) m turn (i + 1) u) ∧ ∀ u : Nat, k < u → u ≤ m → M5 100 u = edT (M (j1 + 1)) (M (j2 + 1)) m turn i u) (fun _ y _ => (1000 - y).toNat) ⟨b4, f4, 0, rfl, by omega, hv3 0 (by omega), fun u hu => ?_, fun u h1 h2 => ?_⟩ (fun K5 x y M5 h5 k5 => ?_)
      · rw [e4, show u = 0 by omega, zup_s]
        rfl
      · rw [e4, zup_n _ _ (by omega)]
        exact hv3 u h2
      · obtain ⟨b5, f5, u, rfl, hu, rfl, hv5, hw5⟩ := h5
        have su : sI (u : Int) = u := sIo (by omega) (by omega)
        have su1 : sI ((u : Int) + 1) = ((u + 1 : Nat) : Int) := by rw [sIo (by omega) (by omega)]; omega
        have st : sI (a2 + (u : Int)) = ((turn + u : Nat) : Int) := by rw [sIo (by omega) (by omega)]; omega
        rw [f5 j2 d2.1, h2, sm, su, su1, st, show ((u : Int)).toNat = u by omega, show (((u + 1 : Nat) : Int)).toNat = u + 1 by omega]
        refine ⟨fun c5 => k3 _ _ ⟨b5, f5, i + 1, by omega, by omega, fun v hv => hv5 v (by omega)⟩ (by omega), fun c5 => ⟨by omega, ?_⟩⟩
        refine fC_by (by omega) (by omega) ?_
        have em : ((turn + u : Nat) : Int) % (m : Int) = (((turn + u) % m : Nat) : Int) := (Int.natCast_emod _ _).symm
        have lt := Nat.mod_lt (turn + u) (show m > 0 by omega)
        have ra := BN.r32 hB (j1 + 1) i
        have rb := BN.r32 hB (j2 + 1) ((turn + u) % m)
        rw [em, show ((((turn + u) % m : Nat) : Int)).toNat = (turn + u) % m by omega, f5 (j1 + 1) d1.2, f5 (j2 + 1) d2.2, sIo ra.1 ra.2, sIo rb.1 rb.2]
        refine ⟨by omega, ?_⟩
        have bp := edT_b (A := M (j1 + 1)) (B := M (j2 + 1)) (m := m) (turn := turn) i u
        have bp1 := edT_b (A := M (j1 + 1)) (B := M (j2 + 1)) (m := m) (turn := turn) i (u + 1)
        have bn := edT_b (A := M (j1 + 1)) (B := M (j2 + 1)) (m := m) (turn := turn) (i + 1) u
        refine pJ1_of (fun w => w = if M (j1 + 1) i = M (j2 + 1) ((turn + u) % m) then 1 else 0) (fun w hw => ?_) ⟨fun c6 => by rw [if_neg c6], fun c6 => by rw [if_pos c6]⟩
        have sw : sI w = w := by rw [hw]; split <;> decide
        rw [sw]
        refine pJ1_of (fun w2 => w2 = edT (M (j1 + 1)) (M (j2 + 1)) m turn i u + (if M (j1 + 1) i = M (j2 + 1) ((turn + u) % m) then 0 else 1)) (fun w2 hw2 => ?_) ⟨fun c6 => ?_, fun c6 => ?_⟩
        · have bw : 0 ≤ w2 ∧ w2 ≤ 100 := by rw [hw2]; split <;> omega
          rw [hw5 (u + 1) (by omega) (by omega), hv5 u (by omega), sIo (z := w2) (by omega) (by omega), sIo (z := edT (M (j1 + 1)) (M (j2 + 1)) m turn i (u + 1)) (by omega) (by omega), sIo (z := edT (M (j1 + 1)) (M (j2 + 1)) m turn (i + 1) u) (by omega) (by omega)]
          rw [sIo (z := 1 + min (edT (M (j1 + 1)) (M (j2 + 1)) m turn i (u + 1)) (edT (M (j1 + 1)) (M (j2 + 1)) m turn (i + 1) u)) (by omega) (by omega)]
          refine ⟨by omega, by omega, by omega, fun M6 e6 => ?_⟩
          have es : edT (M (j1 + 1)) (M (j2 + 1)) m turn (i + 1) (u + 1) = min w2 (1 + min (edT (M (j1 + 1)) (M (j2 + 1)) m turn i (u + 1)) (edT (M (j1 + 1)) (M (j2 + 1)) m turn (i + 1) u)) := by
            have e : edT (M (j1 + 1)) (M (j2 + 1)) m turn (i + 1) (u + 1) = min (min (edT (M (j1 + 1)) (M (j2 + 1)) m turn i u + (if M (j1 + 1) i = M (j2 + 1) ((turn + u) % m) then 0 else 1)) (1 + edT (M (j1 + 1)) (M (j2 + 1)) m turn i (u + 1))) (1 + edT (M (j1 + 1)) (M (j2 + 1)) m turn (i + 1) u) := rfl
            rw [e, ← hw2]
            omega
          rw [← es] at e6
          have be := edT_b (A := M (j1 + 1)) (B := M (j2 + 1)) (m := m) (turn := turn) (i + 1) (u + 1)
          refine k5 _ _ _ ⟨by rw [e6]; exact BN.up b5 c100 rfl (by omega) (by omega), fun j9 h9 => by rw [e6, zup_row _ _ h9]; exact f5 j9 h9, u + 1, by omega, by omega, rfl, fun v hv => ?_, fun v h7 h8 => ?_⟩ (by omega)
          · rw [e6]
            by_cases c7 : v = u + 1
            · rw [c7, zup_s]
            · rw [zup_n _ _ (by omega)]
              exact hv5 v (by omega)
          · rw [e6, zup_n _ _ (by omega)]
            exact hw5 v (by omega) h8
        · rw [if_neg (fun x => by rw [hw, if_pos x] at c6; omega)]
        · rw [if_pos (Decidable.byContradiction (fun x => c6 (by rw [hw, if_neg x])))]
          omega
theorem fC_vfind {M : zM} {a : Int} (hB : BN wC M) (v : -2147483648 ≤ a ∧ a ≤ 2147483647) {P : Option Nat → Prop} (hn : ¬ (0 ≤ a ∧ a < M 96 0) → P none) (hs : ∀ x : Nat, a = (x : Int) → (x : Int) < M 96 0 → x < 16 → P (some (101 + 2 * x))) : wC_Versions_find a M P := by
  unfold wC_Versions_find
  have bc : 0 ≤ M 96 0 ∧ M 96 0 ≤ 16 := BN.at hB (rfl : zcd wC 96 = 44) rfl
  rw [sIo v.1 v.2, sIo (z := M 96 0) (by omega) (by omega)]
  exact ⟨fun c => hn (by omega), fun c => ⟨fun d => hn (by omega), fun d => ⟨fun e => absurd e (by omega), fun e => ⟨by omega, hs a.toNat (by omega) (by omega) (by omega)⟩⟩⟩⟩
theorem fC_edits {M : zM} {a0 a1 : Int} (hB : BN wC M) (hl : ∀ v : Nat, (v : Int) < M 96 0 → 1 ≤ M (101 + 2 * v) 1) (v0 : -2147483648 ≤ a0 ∧ a0 ≤ 2147483647) (v1 : -2147483648 ≤ a1 ∧ a1 ≤ 2147483647) {Q : Int → zM → Prop} (hQ : ∀ (z : Int) (M1 : zM), BN wC M1 ∧ (∀ j9 : Nat, ¬ (j9 = 100) → M1 j9 = M j9) ∧ (((0 ≤ a0 ∧ a0 < M 96 0) ∧ (0 ≤ a1 ∧ a1 < M 96 0) ∧ ∃ x y n m : Nat, a0 = (x : Int) ∧ a1 = (y : Int) ∧ M (101 + 2 * x) 1 = (n : Int) ∧ M (101 + 2 * y) 1 = (m : Int) ∧ z = mnF (fun t => edT (M (101 + 2 * x + 1)) (M (101 + 2 * y + 1)) m t n m) (max (n : Int) (m : Int)) m) ∨ (¬ ((0 ≤ a0 ∧ a0 < M 96 0) ∧ (0 ≤ a1 ∧ a1 < M 96 0)) ∧ z = -1)) → Q z M1) : wC_edits a0 a1 M Q := by
  unfold wC_edits
  have bc : 0 ≤ M 96 0 ∧ M 96 0 ≤ 16 := BN.at hB (rfl : zcd wC 96 = 44) rfl
  have no : ¬ ((0 ≤ a0 ∧ a0 < M 96 0) ∧ (0 ≤ a1 ∧ a1 < M 96 0)) → Q (-1) M := fun h => hQ _ _ ⟨hB, fun _ _ => rfl, Or.inr ⟨h, rfl⟩⟩
  refine fC_vfind hB v0 (fun h0 => ⟨fun _ => ?_, fun q hq => nomatch hq⟩) (fun x hx x1 x2 => ⟨(fun h => nomatch h), fun q hq => ?_⟩)
  · refine fC_vfind hB v1 (fun _ => ⟨fun _ => no (fun x => h0 x.1), fun q hq => nomatch hq⟩) (fun y hy y1 y2 => ⟨(fun h => nomatch h), fun q hq => ?_⟩)
    obtain rfl := Option.some.inj hq
    obtain ⟨c1, c2, c3⟩ := ve_cd y y2
    exact ⟨⟨c1, c2⟩, no (fun x => h0 x.1)⟩
  · obtain rfl := Option.some.inj hq
    obtain ⟨c1, c2, c3⟩ := ve_cd x x2
    refine ⟨⟨c1, c2⟩, ?_⟩
    refine fC_vfind hB v1 (fun h1 => ⟨fun _ => no (fun x => h1 x.2), fun q hq => nomatch hq⟩) (fun y hy y1 y2 => ⟨(fun h => nomatch h), fun q hq => ?_⟩)
    obtain rfl := Option.some.inj hq
    obtain ⟨g1, g2, g3⟩ := ve_cd y y2
    refine ⟨⟨g1, g2⟩, ?_⟩
    unfold wC_Versions_fewestEdits
    have bn : 0 ≤ M (101 + 2 * x) 1 ∧ M (101 + 2 * x) 1 ≤ 24 := BN.at hB c2 rfl
    have bm : 0 ≤ M (101 + 2 * y) 1 ∧ M (101 + 2 * y) 1 ≤ 24 := BN.at hB g2 rfl
    have l1 := hl x x1
    have l2 := hl y y1
    obtain ⟨n, hn⟩ : ∃ n : Nat, M (101 + 2 * x) 1 = (n : Int) := ⟨(M (101 + 2 * x) 1).toNat, by omega⟩
    obtain ⟨m, hm⟩ : ∃ m : Nat, M (101 + 2 * y) 1 = (m : Int) := ⟨(M (101 + 2 * y) 1).toNat, by omega⟩
    rw [hn, hm, sIo (z := (n : Int)) (by omega) (by omega), sIo (z := (m : Int)) (by omega) (by omega)]
    refine wL2_of (fun z t M2 => BN wC M2 ∧ (∀ j9 : Nat, ¬ (j9 = 100) → M2 j9 = M j9) ∧ ∃ u : Nat, t = (u : Int) ∧ u ≤ m ∧ z = mnF (fun t => edT (M (101 + 2 * x + 1)) (M (101 + 2 * y + 1)) m t n m) (max (n : Int) (m : Int)) u) (fun _ t _ => (1000 - t).toNat) ⟨hB, fun _ _ => rfl, 0, rfl, by omega, rfl⟩ (fun K z t M2 h k => ?_)
    obtain ⟨b2, f2, u, rfl, hu, rfl⟩ := h
    have bz := mnF_b (f := fun t => edT (M (101 + 2 * x + 1)) (M (101 + 2 * y + 1)) m t n m) (x := max (n : Int) (m : Int)) (by omega) (fun k => (edT_b _ _).1) u
    rw [f2 (101 + 2 * y) (by omega), hm, sIo (z := (u : Int)) (by omega) (by omega), sIo (z := (m : Int)) (by omega) (by omega), sIo (z := mnF (fun t => edT (M (101 + 2 * x + 1)) (M (101 + 2 * y + 1)) m t n m) (max (n : Int) (m : Int)) u) (by omega) (by omega)]
    refine ⟨fun c => hQ _ _ ⟨b2, f2, Or.inl ⟨by omega, by omega, x, y, n, m, hx, hy, hn, hm, by rw [show u = m by omega]⟩⟩, fun c => ?_⟩
    refine fC_editsTurned (n := n) (m := m) (turn := u) b2 (by rw [f2 _ (by omega)]; exact hn) (by rw [f2 _ (by omega)]; exact hm) (by omega) (by omega) (by omega) rfl ⟨by omega, by omega⟩ ⟨by omega, by omega⟩ (fun M3 h3 => ?_)
    obtain ⟨b3, f3⟩ := h3
    rw [f2 (101 + 2 * x + 1) (by omega), f2 (101 + 2 * y + 1) (by omega)]
    exact k _ _ _ ⟨b3, fun j9 h9 => (f3 j9 h9).trans (f2 j9 h9), u + 1, by omega, by omega, rfl⟩ (by omega)
