/-! what is heard, alike -/
def jmo (m : Int) : Nat := if m = 0 then 35 else 38
def hvC (M : zM) (t : Int) (r : Nat) (z : Int) : Prop := ∃ n : Nat, ∃ w : Int, M (41 + 4 * r + 1) 1 = (n : Int) ∧ wbR (M (jmo (M (41 + 4 * r) 1)) 2) (M (jmo (M (41 + 4 * r) 1) + 1)) (M (jmo (M (41 + 4 * r) 1) + 2)) t (n : Int) w ∧ z = orU (M (41 + 4 * r) 3) (M (41 + 4 * r + 2)) n ((M (41 + 4 * r) 2 + w) % (n : Int)).toNat 24
def hvR (M : zM) (t : Int) (r : Nat) (z : Int) : Prop := ∃ n : Nat, ∃ w : Int, M 4 r = (n : Int) ∧ wbR (M 11 (M 5 r).toNat) (fun i => M 9 (12 * (M 5 r).toNat + i)) (fun i => M 10 (12 * (M 5 r).toNat + i)) t (n : Int) w ∧ z = orU (M 7 r) (fun k => M 3 (24 * r + k)) n ((M 6 r + w) % (n : Int)).toNat 24
def uok (M : zM) (r : Nat) : Prop := ∃ n : Nat, 1 ≤ n ∧ n ≤ 24 ∧ M (41 + 4 * r + 1) 1 = (n : Int) ∧ ∀ a : Nat, a < n → M (41 + 4 * r + 3) a = orU (M (41 + 4 * r) 3) (M (41 + 4 * r + 2)) n a 24
theorem ri_uok {MC MR : zM} (h : iRi MC MR) : ∀ r : Nat, (r : Int) < MC 32 2 → uok MC r := fun r hr => by
  obtain ⟨n, a1, a2, a3, a4, a5, a6, a7, a8, a9, a10, a11⟩ := h.2.2 r hr
  exact ⟨n, a1, a2, a3, a11⟩
theorem wbR_r {n t len z : Int} {T S : Nat → Int} (hl : 0 < len) (h : wbR n T S t len z) : 0 ≤ z ∧ z < len := by
  obtain ⟨w, -, e⟩ := h
  rw [e]
  exact emB _ _ hl
theorem mo_of {A B C D E F R9 R10 R11 : Nat → Int} {M : zM} (h : iMo A B C D E F R9 R10 R11) (e1 : A = M 35) (e2 : B = M 36) (e3 : C = M 37) (e4 : D = M 38) (e5 : E = M 39) (e6 : F = M 40) {m : Int} (hm : 0 ≤ m ∧ m ≤ 1) : mo (M (jmo m) 2) (M (jmo m + 1)) (M (jmo m + 2)) (R11 m.toNat) (fun i => R9 (12 * m.toNat + i)) (fun i => R10 (12 * m.toNat + i)) := by
  subst e1
  subst e2
  subst e3
  subst e4
  subst e5
  subst e6
  rcases (by omega : m = 0 ∨ m = 1) with rfl | rfl
  · exact h.1
  · exact h.2
set_option maxHeartbeats 1000000 in
theorem fC_heardOf {M : zM} {r : Nat} {a1 : Int} (hB : BN wC M) (hr : r < 4) (hu : uok M r) (v1 : 0 ≤ a1 ∧ a1 ≤ 9223372036854775807) {Q : Int → Prop} (hQ : ∀ z : Int, hvC M a1 r z → Q z) : wC_Studio_heardOf (41 + 4 * r) a1 M Q := by
  unfold wC_Studio_heardOf
  obtain ⟨n, n1, n2, hn, hun⟩ := hu
  obtain ⟨g1, g2, g3, g4, g5, g6⟩ := rg_cd r hr
  have bm : 0 ≤ M (41 + 4 * r) 1 ∧ M (41 + 4 * r) 1 ≤ 1 := BN.at hB g2 rfl
  have bs : 0 ≤ M (41 + 4 * r) 2 ∧ M (41 + 4 * r) 2 ≤ 23 := BN.at hB g2 rfl
  refine sC_Studio_motorOf hB (by omega) (fun q hq => ?_)
  obtain ⟨⟨lt, cd⟩, hq⟩ := hq
  have eq : q = jmo (M (41 + 4 * r) 1) := by
    unfold jmo
    rcases hq with ⟨e, h0⟩ | ⟨e, h0⟩
    · rw [if_pos h0, e]
    · rw [if_neg h0, e]
  refine ⟨q, rfl, ⟨lt, cd⟩, ?_⟩
  rw [hn]
  refine fC_wayBy hB lt cd v1 (by omega) (fun w hw => ?_)
  have wr := wbR_r (by omega) hw
  unfold wC_Ring_heardBehind
  rw [sIo (z := M (41 + 4 * r) 2 + w) (by omega) (by omega), hn]
  refine fC_by (by omega) (by omega) ?_
  have em := emB (M (41 + 4 * r) 2 + w) (n : Int) (by omega)
  refine ⟨by omega, ?_⟩
  rw [hun _ (by omega)]
  have rx := orU_r (M (41 + 4 * r) 3) (M (41 + 4 * r + 2)) n ((M (41 + 4 * r) 2 + w) % (n : Int)).toNat 24
  rw [sIo rx.1 rx.2]
  refine hQ _ ⟨n, w, hn, ?_, rfl⟩
  rw [← eq]
  exact hw
def orF (v : Nat → Int) : Nat → Int
  | 0 => 0
  | k + 1 => orI (orF v k) (v k)
theorem orF_r (v : Nat → Int) : ∀ k : Nat, -2147483648 ≤ orF v k ∧ orF v k ≤ 2147483647
  | 0 => ⟨by show -2147483648 ≤ (0 : Int); omega, by show (0 : Int) ≤ 2147483647; omega⟩
  | k + 1 => orI_R _ _
theorem orF_cg {v u : Nat → Int} : ∀ k : Nat, (∀ i : Nat, i < k → v i = u i) → orF v k = orF u k
  | 0, _ => rfl
  | k + 1, h => by
    show orI (orF v k) (v k) = orI (orF u k) (u k)
    rw [orF_cg k (fun i hi => h i (by omega)), h k (by omega)]
theorem fC_heardInAll {M : zM} {a0 : Int} (hB : BN wC M) (hu : ∀ r : Nat, (r : Int) < M 32 2 → uok M r) (v0 : 0 ≤ a0 ∧ a0 ≤ 9223372036854775807) {Q : Int → Prop} (hQ : ∀ z : Int, (∃ v : Nat → Int, (∀ r : Nat, (r : Int) < M 32 2 → hvC M a0 r (v r)) ∧ z = orF v (M 32 2).toNat) → Q z) : wC_Studio_heardInAll a0 M Q := by
  unfold wC_Studio_heardInAll
  have bn : 0 ≤ M 32 2 ∧ M 32 2 ≤ 4 := BN.at hB (rfl : zcd wC 32 = 8) rfl
  have sn : sI (M 32 2) = M 32 2 := sIo (by omega) (by omega)
  refine pL2_of (fun x y => ∃ i : Nat, y = (i : Int) ∧ (i : Int) ≤ M 32 2 ∧ ∃ v : Nat → Int, (∀ r : Nat, r < i → hvC M a0 r (v r)) ∧ x = orF v i) (fun _ y => (1000 - y).toNat) ⟨0, rfl, by omega, fun _ => 0, fun r h => absurd h (Nat.not_lt_zero r), rfl⟩ (fun K x y h k => ?_)
  obtain ⟨i, rfl, i1, v, hv, rfl⟩ := h
  have si : sI (i : Int) = i := sIo (by omega) (by omega)
  have ti : ((i : Int)).toNat = i := by omega
  have rx := orF_r v i
  rw [si, sn, ti, sIo (z := orF v i) rx.1 rx.2]
  refine ⟨fun c => hQ _ ⟨v, fun r hr => hv r (by omega), by rw [show (M 32 2).toNat = i by omega]⟩, fun c => ⟨by omega, ?_⟩⟩
  refine fC_heardOf hB (by omega) (hu i c) v0 (fun z hz => ?_)
  refine k _ _ ⟨i + 1, by omega, by omega, fun q => if q = i then z else v q, fun r hr => ?_, ?_⟩ (by omega)
  · dsimp only
    by_cases c5 : r = i
    · rw [if_pos c5, c5]
      exact hz
    · rw [if_neg c5]
      exact hv r (by omega)
  · show orI (orF v i) z = orI (orF (fun q => if q = i then z else v q) i) (if i = i then z else v i)
    rw [if_pos rfl, orF_cg (v := fun q => if q = i then z else v q) (u := v) i (fun q hq => if_neg (by omega))]
set_option maxHeartbeats 1000000 in
theorem fR_heardAt {M : zM} {r a n : Nat} (hB : BI M) (hr : r < 4) (ha : a < 24) (hn : M 4 r = (n : Int)) (n1 : 1 ≤ n) {Q : Int → Prop} (hQ : Q (orU (M 7 r) (fun k => M 3 (24 * r + k)) n a 24)) : wR_heardAt (r : Int) (a : Int) M Q := by
  unfold wR_heardAt
  have bl : 0 ≤ M 4 r ∧ M 4 r ≤ 24 := BN.at hB.1 (rfl : zcd wR 4 = 54) rfl
  have sr : sI (r : Int) = r := sIo (by omega) (by omega)
  have tr : ((r : Int)).toNat = r := by omega
  have sn : sI (n : Int) = n := sIo (by omega) (by omega)
  rw [sr, tr, hn, sn]
  refine pL2_of (fun x y => ∃ o : Nat, y = (o : Int) ∧ o ≤ 24 ∧ x = orU (M 7 r) (fun k => M 3 (24 * r + k)) n a o) (fun _ y => (1000 - y).toNat) ⟨0, rfl, by omega, rfl⟩ (fun K x y h k => ?_)
  obtain ⟨o, rfl, h1, rfl⟩ := h
  have so : sI (o : Int) = o := sIo (by omega) (by omega)
  have rx := orU_r (M 7 r) (fun k => M 3 (24 * r + k)) n a o
  have b1 := andI_br (shrI (M 7 r) (o : Int)) (c := 1) (by decide) (by decide)
  have sa : sI ((a : Int) + (o : Int)) = (a : Int) + (o : Int) := sIo (by omega) (by omega)
  have em : ((a : Int) + (o : Int)).tmod (n : Int) = (((a + o) % n : Nat) : Int) := by
    rw [Int.tmod_eq_emod_of_nonneg (by omega), show (a : Int) + (o : Int) = ((a + o : Nat) : Int) by omega]
    exact (Int.natCast_emod _ _).symm
  have lt := Nat.mod_lt (a + o) (show n > 0 by omega)
  have sb : sI (24 * (r : Int) + (((a + o) % n : Nat) : Int)) = 24 * (r : Int) + (((a + o) % n : Nat) : Int) := sIo (by omega) (by omega)
  have tb : (24 * (r : Int) + (((a + o) % n : Nat) : Int)).toNat = 24 * r + (a + o) % n := by omega
  rw [so, sIo rx.1 rx.2, sa, em, sb, tb]
  refine ⟨fun c => ?_, fun c => ⟨by omega, fun c2 => k _ _ ⟨o + 1, by omega, by omega, ?_⟩ (by omega), fun c2 => ⟨by omega, by omega, by omega, fun t e => k _ _ ⟨o + 1, by omega, by omega, ?_⟩ (by omega)⟩⟩⟩
  · rw [show o = 24 by omega]
    exact hQ
  · show _ = if andI (shrI (M 7 r) (o : Int)) 1 = 0 then orU (M 7 r) (fun k => M 3 (24 * r + k)) n a o else orI (orU (M 7 r) (fun k => M 3 (24 * r + k)) n a o) (M 3 (24 * r + (a + o) % n))
    rw [if_pos (by omega)]
  · show _ = if andI (shrI (M 7 r) (o : Int)) 1 = 0 then orU (M 7 r) (fun k => M 3 (24 * r + k)) n a o else orI (orU (M 7 r) (fun k => M 3 (24 * r + k)) n a o) (M 3 (24 * r + (a + o) % n))
    rw [if_neg (by omega), e]
theorem fR_heardOf {M : zM} {r : Nat} {a1 : Int} (hB : BI M) (hr : (r : Int) < M 0 10) (v1 : 0 ≤ a1 ∧ a1 ≤ 9223372036854775807) {Q : Int → Prop} (hQ : ∀ z : Int, hvR M a1 r z → Q z) : wR_heardOf (r : Int) a1 M Q := by
  unfold wR_heardOf
  have b10 : 0 ≤ M 0 10 ∧ M 0 10 ≤ 4 := BN.at hB.1 (rfl : zcd wR 0 = 50) rfl
  have r4 : r < 4 := by omega
  have l1 := hB.2 r r4 hr
  have bl : 0 ≤ M 4 r ∧ M 4 r ≤ 24 := BN.at hB.1 (rfl : zcd wR 4 = 54) rfl
  have bm : 0 ≤ M 5 r ∧ M 5 r ≤ 1 := BN.at hB.1 (rfl : zcd wR 5 = 55) rfl
  have bs : 0 ≤ M 6 r ∧ M 6 r ≤ 23 := BN.at hB.1 (rfl : zcd wR 6 = 56) rfl
  have sr : sI (r : Int) = r := sIo (by omega) (by omega)
  have tr : ((r : Int)).toNat = r := by omega
  obtain ⟨n, hn⟩ : ∃ n : Nat, M 4 r = (n : Int) := ⟨(M 4 r).toNat, by omega⟩
  have sn : sI (n : Int) = n := sIo (by omega) (by omega)
  rw [sr, tr, hn, sn]
  refine ⟨⟨by omega, by omega⟩, ⟨by omega, by omega⟩, ⟨by omega, by omega⟩, ?_⟩
  refine fR_wayBy (m := (M 5 r).toNat) hB (by omega) (by omega) v1 (by omega) (fun w hw => ?_)
  have wr := wbR_r (by omega) hw
  rw [sIo (z := M 6 r + w) (by omega) (by omega), Int.tmod_eq_emod_of_nonneg (by omega)]
  have em := emB (M 6 r + w) (n : Int) (by omega)
  refine ⟨⟨by omega, by omega⟩, by omega, ?_⟩
  have e9 : (M 6 r + w) % (n : Int) = ((((M 6 r + w) % (n : Int)).toNat : Nat) : Int) := by omega
  rw [e9]
  refine fR_heardAt hB r4 (by omega) hn (by omega) ?_
  exact hQ _ ⟨n, w, hn, hw, rfl⟩
theorem fR_heardInAll {M : zM} {a0 : Int} (hB : BI M) (v0 : 0 ≤ a0 ∧ a0 ≤ 9223372036854775807) {Q : Int → Prop} (hQ : ∀ z : Int, (∃ v : Nat → Int, (∀ r : Nat, (r : Int) < M 0 10 → hvR M a0 r (v r)) ∧ z = orF v (M 0 10).toNat) → Q z) : wR_heardInAll a0 M Q := by
  unfold wR_heardInAll
  have bn : 0 ≤ M 0 10 ∧ M 0 10 ≤ 4 := BN.at hB.1 (rfl : zcd wR 0 = 50) rfl
  have sn : sI (M 0 10) = M 0 10 := sIo (by omega) (by omega)
  refine pL2_of (fun x y => ∃ i : Nat, y = (i : Int) ∧ (i : Int) ≤ M 0 10 ∧ ∃ v : Nat → Int, (∀ r : Nat, r < i → hvR M a0 r (v r)) ∧ x = orF v i) (fun _ y => (1000 - y).toNat) ⟨0, rfl, by omega, fun _ => 0, fun r h => absurd h (Nat.not_lt_zero r), rfl⟩ (fun K x y h k => ?_)
  obtain ⟨i, rfl, i1, v, hv, rfl⟩ := h
  have si : sI (i : Int) = i := sIo (by omega) (by omega)
  have rx := orF_r v i
  rw [si, sn, sIo (z := orF v i) rx.1 rx.2]
  refine ⟨fun c => hQ _ ⟨v, fun r hr => hv r (by omega), by rw [show (M 0 10).toNat = i by omega]⟩, fun c => ?_⟩
  refine fR_heardOf hB c v0 (fun z hz => ?_)
  refine k _ _ ⟨i + 1, by omega, by omega, fun q => if q = i then z else v q, fun r hr => ?_, ?_⟩ (by omega)
  · dsimp only
    by_cases c5 : r = i
    · rw [if_pos c5, c5]
      exact hz
    · rw [if_neg c5]
      exact hv r (by omega)
  · show orI (orF v i) z = orI (orF (fun q => if q = i then z else v q) i) (if i = i then z else v i)
    rw [if_pos rfl, orF_cg (v := fun q => if q = i then z else v q) (u := v) i (fun q hq => if_neg (by omega))]
theorem hv_det {MC MR : zM} {t z z9 : Int} {r : Nat} (hC : BN wC MC) (hR : iRi MC MR) (hM : iMo (MC 35) (MC 36) (MC 37) (MC 38) (MC 39) (MC 40) (MR 9) (MR 10) (MR 11)) (hr : (r : Int) < MC 32 2) (p : hvC MC t r z) (q : hvR MR t r z9) : z = z9 := by
  obtain ⟨n, w, p1, p2, p3⟩ := p
  obtain ⟨m, v, q1, q2, q3⟩ := q
  obtain ⟨l, a1, a2, a3, a4, a5, a6, a7, a8, a9, a10, a11⟩ := hR.2.2 r hr
  have r4 : r < 4 := by have := hR.2.1; omega
  obtain ⟨g1, g2, -⟩ := rg_cd r r4
  have bm : 0 ≤ MC (41 + 4 * r) 1 ∧ MC (41 + 4 * r) 1 ≤ 1 := BN.at hC g2 rfl
  have en : n = l := by omega
  have em : m = l := by omega
  subst en
  subst em
  have mm := mo_of (M := MC) hM rfl rfl rfl rfl rfl rfl bm
  rw [← a5] at q2
  have bn : 0 ≤ MC (jmo (MC (41 + 4 * r) 1)) 2 := by
    unfold jmo
    by_cases c : MC (41 + 4 * r) 1 = 0
    · rw [if_pos c]
      exact (BN.at hC (rfl : zcd wC 35 = 11) rfl : (0 : Int) ≤ MC 35 2 ∧ MC 35 2 ≤ 12).1
    · rw [if_neg c]
      exact (BN.at hC (rfl : zcd wC 38 = 11) rfl : (0 : Int) ≤ MC 38 2 ∧ MC 38 2 ≤ 12).1
  have e := wb_det bn mm p2 q2
  subst e
  rw [p3, q3, a8, a6]
  have eb := emB (MR 6 r + w) (m : Int) (by omega)
  exact orU_cg a1 a10 24
theorem hall_det {MC MR : zM} {t z z9 : Int} (hC : BN wC MC) (hR : iRi MC MR) (hM : iMo (MC 35) (MC 36) (MC 37) (MC 38) (MC 39) (MC 40) (MR 9) (MR 10) (MR 11)) (p : ∃ v : Nat → Int, (∀ r : Nat, (r : Int) < MC 32 2 → hvC MC t r (v r)) ∧ z = orF v (MC 32 2).toNat) (q : ∃ v : Nat → Int, (∀ r : Nat, (r : Int) < MR 0 10 → hvR MR t r (v r)) ∧ z9 = orF v (MR 0 10).toNat) : z = z9 := by
  obtain ⟨v, p1, p2⟩ := p
  obtain ⟨u, q1, q2⟩ := q
  have g := hR.1
  rw [p2, q2, ← g]
  exact orF_cg _ (fun i hi => hv_det hC hR hM (by omega) (p1 i (by omega)) (q1 i (by omega)))
