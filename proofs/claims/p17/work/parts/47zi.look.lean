/-! meetings: what is looked up; all -/
def hvF (M : zM) (t : Int) (r : Nat) : Int := orU (M (41 + 4 * r) 3) (M (41 + 4 * r + 2)) (lenC M r) ((M (41 + 4 * r) 2 + wbF (M (jmo (M (41 + 4 * r) 1)) 2) (M (jmo (M (41 + 4 * r) 1) + 1)) (M (jmo (M (41 + 4 * r) 1) + 2)) t ((lenC M r : Nat) : Int)) % ((lenC M r : Nat) : Int)).toNat 24
theorem hvC_F {M : zM} {t z : Int} {r : Nat} (hB : BN wC M) (h : hvC M t r z) : z = hvF M t r := by
  obtain ⟨n, w, w1, w2, w3⟩ := h
  obtain ⟨-, bT⟩ := jS_b hB (M (41 + 4 * r) 1)
  have en : lenC M r = n := by unfold lenC; omega
  rw [w3, wbR_F bT.1 w2]
  unfold hvF
  rw [en]
def gC (M : zM) (t : Int) (r : Nat) : Int := if andI (M (41 + 4 * r) 4) (xorI (hvF M t r) (-1)) = 0 then 1 else 0
def cgD (M M2 : zM) : Prop := ∀ j : Nat, 32 ≤ j → j ≤ 56 → M2 j = M j
theorem gC_cg {M M2 : zM} (f : cgD M M2) {t : Int} {r : Nat} (hr : r < 4) : gC M2 t r = gC M t r := by
  have ej : jmo (M2 (41 + 4 * r) 1) = jmo (M (41 + 4 * r) 1) := by rw [f _ (by omega) (by omega)]
  have bj : 35 ≤ jmo (M (41 + 4 * r) 1) ∧ jmo (M (41 + 4 * r) 1) ≤ 38 := by rcases jmo_n (M (41 + 4 * r) 1) with e | e <;> omega
  unfold gC hvF lenC
  rw [ej, f _ (by omega) (by omega), f (41 + 4 * r + 1) (by omega) (by omega), f (41 + 4 * r + 2) (by omega) (by omega), f (jmo (M (41 + 4 * r) 1)) (by omega) (by omega), f (jmo (M (41 + 4 * r) 1) + 1) (by omega) (by omega), f (jmo (M (41 + 4 * r) 1) + 2) (by omega) (by omega)]
theorem rdC_cg {M M2 : zM} (f : cgD M M2) {r : Nat} (hr : r < 4) : rdC M2 r = rdC M r := by
  have ej : jmo (M2 (41 + 4 * r) 1) = jmo (M (41 + 4 * r) 1) := by rw [f _ (by omega) (by omega)]
  have bj : 35 ≤ jmo (M (41 + 4 * r) 1) ∧ jmo (M (41 + 4 * r) 1) ≤ 38 := by rcases jmo_n (M (41 + 4 * r) 1) with e | e <;> omega
  unfold rdC lenC
  rw [ej, f (41 + 4 * r + 1) (by omega) (by omega), f (jmo (M (41 + 4 * r) 1)) (by omega) (by omega), f (jmo (M (41 + 4 * r) 1) + 2) (by omega) (by omega)]
theorem fC_grants {M : zM} {r : Nat} {a1 : Int} (hB : BN wC M) (hr : r < 4) (hu : uok M r) (v1 : 0 ≤ a1 ∧ a1 ≤ 9223372036854775807) {Q : Int → Prop} (hQ : Q (gC M a1 r)) : wC_Studio_grants (41 + 4 * r) a1 M Q := by
  unfold wC_Studio_grants
  refine fC_heardOf hB hr hu v1 (fun z hz => ?_)
  have e := hvC_F hB hz
  unfold gC at hQ
  rw [← e] at hQ
  refine ⟨fun c => ?_, fun c => ?_⟩
  · rw [if_neg c] at hQ
    exact hQ
  · rw [if_pos c] at hQ
    exact hQ
theorem trB_r {b : Nat → Int} : ∀ m : Nat, -2147483648 ≤ trB b m ∧ trB b m ≤ 2147483647
  | 0 => ⟨by show (-2147483648 : Int) ≤ 0; omega, by show (0 : Int) ≤ 2147483647; omega⟩
  | m + 1 => by
    have a := trB_r (b := b) m
    show -2147483648 ≤ (if b m = 1 then orI (trB b m) (shlI 1 (m : Int)) else trB b m) ∧ (if b m = 1 then orI (trB b m) (shlI 1 (m : Int)) else trB b m) ≤ 2147483647
    by_cases c : b m = 1
    · rw [if_pos c]
      exact orI_R _ _
    · rw [if_neg c]
      exact a
def stC (M : zM) : Int := max (stI (M 35 2) (M 36)) (stI (M 38 2) (M 39))
theorem fC_Motor_steady {M : zM} {j : Nat} (hB : BN wC M) (hj : j = 35 ∨ j = 38) {Q : Int → Prop} (hQ : Q (stI (M j 2) (M (j + 1)))) : wC_Motor_steady j M Q := by
  unfold wC_Motor_steady
  have b : 0 ≤ M j 2 ∧ M j 2 ≤ 12 := by rcases hj with e | e <;> rw [e] <;> exact BN.at hB (rfl : zcd wC _ = 11) rfl
  have bt : 0 ≤ M (j + 1) (M j 2 - 1).toNat ∧ M (j + 1) (M j 2 - 1).toNat ≤ 5000 := by rcases hj with e | e <;> rw [e] <;> exact BN.at hB (rfl : zcd wC _ = 12) rfl
  unfold stI at hQ
  rw [sIo (z := M j 2) (by omega) (by omega), sIo (z := M j 2 - 1) (by omega) (by omega), sIo (z := M (j + 1) (M j 2 - 1).toNat) (by omega) (by omega)]
  refine ⟨fun c => ⟨by omega, ?_⟩, fun c => ?_⟩
  · rw [if_neg c] at hQ
    exact hQ
  · rw [if_pos c] at hQ
    exact hQ
theorem stC_b {M : zM} (hB : BN wC M) : 0 ≤ stC M ∧ stC M ≤ 5000 := by
  have a := st_b (n := M 35 2) (T := M 36) (fun i => BN.at hB (rfl : zcd wC 36 = 12) rfl)
  have b := st_b (n := M 38 2) (T := M 39) (fun i => BN.at hB (rfl : zcd wC 39 = 12) rfl)
  unfold stC
  omega
/-- what stands of a meeting once it has been looked up -/
def lkC (M M1 : zM) : Prop := BN wC M1 ∧ (∀ j9 : Nat, ¬ (57 ≤ j9 ∧ j9 ≤ 59) → M1 j9 = M j9) ∧ M1 57 0 = M 32 2 ∧ M1 57 1 = stC M ∧ (∀ r : Nat, (r : Int) < M 32 2 → M1 58 r = ((rdC M r : Nat) : Int)) ∧ (∀ r : Nat, (r : Int) < M 32 2 → M1 59 r = trB (fun t => gC M (stC M + (t : Int)) r) (rdC M r))
theorem fC_turnsOf {M : zM} {r n : Nat} {a2 : Int} (hB : BN wC M) (hr : r < 4) (hu : uok M r) (hn : n ≤ 24) (ha : a2 = (n : Int)) (hs : 0 ≤ M 57 1 ∧ M 57 1 ≤ 5000) {Q : Int → Prop} (hQ : Q (trB (fun t => gC M (M 57 1 + (t : Int)) r) n)) : wC_Meeting_turnsOf (41 + 4 * r) a2 M Q := by
  unfold wC_Meeting_turnsOf
  refine pL2_of (fun x y => ∃ t : Nat, y = (t : Int) ∧ t ≤ n ∧ x = trB (fun t => gC M (M 57 1 + (t : Int)) r) t) (fun _ y => (1000 - y).toNat) ⟨0, rfl, by omega, rfl⟩ (fun K x y h k => ?_)
  obtain ⟨t, rfl, ht, rfl⟩ := h
  have rx := trB_r (b := fun t => gC M (M 57 1 + (t : Int)) r) t
  rw [ha, sIo (z := (n : Int)) (by omega) (by omega), sIo (z := (t : Int)) (by omega) (by omega), sIo (z := trB (fun t => gC M (M 57 1 + (t : Int)) r) t) rx.1 rx.2]
  refine ⟨fun c => by rw [show t = n by omega]; exact hQ, fun c => ?_⟩
  refine fC_grants hB hr hu (by omega) ?_
  refine ⟨fun c2 => k _ _ ⟨t + 1, by omega, by omega, ?_⟩ (by omega), fun c2 => k _ _ ⟨t + 1, by omega, by omega, ?_⟩ (by omega)⟩
  · show _ = if gC M (M 57 1 + (t : Int)) r = 1 then _ else _
    rw [if_neg (by omega)]
  · have g : gC M (M 57 1 + (t : Int)) r = 1 := by
      unfold gC at c2 ⊢
      split
      · rfl
      · rename_i h
        rw [if_neg h] at c2
        exact absurd rfl c2
    show _ = if gC M (M 57 1 + (t : Int)) r = 1 then _ else _
    rw [if_pos g]
set_option maxHeartbeats 2000000 in
theorem fC_look {M : zM} (hB : BN wC M) (hu : ∀ r : Nat, (r : Int) < M 32 2 → uok M r) {Q : zM → Prop} (hQ : ∀ M1 : zM, lkC M M1 → Q M1) : wC_Meeting_look M Q := by
  unfold wC_Meeting_look wC_Studio_steady
  have bn : 0 ≤ M 32 2 ∧ M 32 2 ≤ 4 := BN.at hB (rfl : zcd wC 32 = 8) rfl
  have bs := stC_b hB
  refine fC_Motor_steady hB (Or.inl rfl) ?_
  refine fC_Motor_steady hB (Or.inr rfl) ?_
  intro M5 e5 M7 e7
  have e5 : M5 = zup M 57 1 (stC M) := e5
  have b7 : BN wC M7 := by rw [e7, e5]; exact BN.up (BN.up hB (rfl : zcd wC 57 = 16) (rfl : cbt 16 1 = (0, 5000)) bs.1 bs.2) (rfl : zcd wC 57 = 16) (rfl : cbt 16 0 = (0, 4)) (by omega) (by omega)
  refine wL1_of (fun x M2 => BN wC M2 ∧ (∀ j9 : Nat, ¬ (57 ≤ j9 ∧ j9 ≤ 59) → M2 j9 = M j9) ∧ M2 57 1 = stC M ∧ ∃ i : Nat, x = (i : Int) ∧ i ≤ 4 ∧ M2 57 0 = min (i : Int) (M 32 2) ∧ (∀ r : Nat, r < i → (r : Int) < M 32 2 → M2 58 r = ((rdC M r : Nat) : Int) ∧ M2 59 r = trB (fun t => gC M (stC M + (t : Int)) r) (rdC M r))) (fun x _ => (1000 - x).toNat) ⟨b7, fun j9 h9 => by rw [e7, zup_row _ _ (by omega), e5, zup_row _ _ (by omega)], by rw [e7, zup_n _ _ (by omega), e5, zup_s], 0, rfl, by omega, by rw [e7, zup_s]; omega, fun r h => absurd h (Nat.not_lt_zero r)⟩ (fun K x M2 h k => ?_)
  obtain ⟨b2, f2, s2, i, rfl, hi, hc, hv⟩ := h
  have si : sI (i : Int) = i := sIo (by omega) (by omega)
  have ti : ((i : Int)).toNat = i := by omega
  have cg2 : cgD M M2 := fun j h1 h2 => f2 j (by omega)
  have n2 : M2 32 2 = M 32 2 := by rw [f2 32 (by omega)]
  rw [si, ti]
  refine ⟨fun c => hQ _ ⟨b2, f2, by omega, s2, fun r hr => (hv r (by omega) hr).1, fun r hr => (hv r (by omega) hr).2⟩, fun c => ?_⟩
  refine fC_find b2 (by omega) (fun h => ⟨fun _ => k _ _ ⟨b2, f2, s2, i + 1, by omega, by omega, by omega, fun r h1 h2 => hv r (by omega) h2⟩ (by omega), fun q hq => nomatch hq⟩) (fun r hr h1 h2 => ⟨(fun h => nomatch h), fun q hq => ?_⟩)
  obtain rfl := Option.some.inj hq
  obtain rfl : i = r := by omega
  obtain ⟨g1, g2, g3, -⟩ := rg_cd i h2
  rw [n2] at h1
  obtain ⟨l, l1, l2, l3, l4⟩ := hu i h1
  have rb : rdC M i ≤ 24 := by
    have b := rdN_b (n := lenC M i) (s := lsI (M (jmo (M (41 + 4 * i) 1)) 2) (M (jmo (M (41 + 4 * i) 1) + 2))) (by unfold lenC; omega)
    have e : lenC M i = l := by unfold lenC; omega
    unfold rdC
    omega
  refine ⟨⟨g1, g2⟩, ?_⟩
  refine fC_roundOf b2 h2 (by rw [f2 _ (by omega)]; omega) ?_
  rw [rdC_cg cg2 h2]
  refine ⟨by omega, fun M8 e8 => ⟨by omega, ?_⟩⟩
  have b8 : BN wC M8 := by rw [e8]; exact BN.up b2 (rfl : zcd wC 58 = 17) rfl (by omega) (by omega)
  have f8 : ∀ j9 : Nat, ¬ (57 ≤ j9 ∧ j9 ≤ 59) → M8 j9 = M j9 := fun j9 h9 => by rw [e8, zup_row _ _ (by omega)]; exact f2 j9 h9
  have cg8 : cgD M M8 := fun j h1 h2 => f8 j (by omega)
  have s8 : M8 57 1 = stC M := by rw [e8, zup_n _ _ (by omega)]; exact s2
  have r8 : M8 58 i = ((rdC M i : Nat) : Int) := by rw [e8, zup_s]
  rw [r8]
  refine fC_turnsOf b8 h2 (uok_cg (fun j h1 h2 => f8 j (by omega)) h2 (hu i h1)) rb rfl (by rw [s8]; exact bs) ?_
  have et : trB (fun t => gC M8 (M8 57 1 + (t : Int)) i) (rdC M i) = trB (fun t => gC M (stC M + (t : Int)) i) (rdC M i) := trB_cg _ (fun t _ => by rw [s8, gC_cg cg8 h2])
  rw [et]
  have rt := trB_r (b := fun t => gC M (stC M + (t : Int)) i) (rdC M i)
  refine ⟨by omega, fun M10 e10 M12 e12 => ?_⟩
  have x10 : M10 57 0 = (i : Int) := by rw [e10, zup_n _ _ (by omega), e8, zup_n _ _ (by omega), hc]; omega
  rw [x10] at e12
  have b10 : BN wC M10 := by rw [e10]; exact BN.up b8 (rfl : zcd wC 59 = 18) rfl rt.1 rt.2
  refine k _ _ ⟨by rw [e12]; exact BN.up b10 (rfl : zcd wC 57 = 16) (rfl : cbt 16 0 = (0, 4)) (by omega) (by omega), fun j9 h9 => by rw [e12, zup_row _ _ (by omega), e10, zup_row _ _ (by omega)]; exact f8 j9 h9, by rw [e12, zup_n _ _ (by omega), e10, zup_n _ _ (by omega)]; exact s8, i + 1, by omega, by omega, by rw [e12, zup_s]; omega, fun r h3 h4 => ?_⟩ (by omega)
  rw [e12, zup_n _ _ (by omega), zup_n _ _ (by omega), e10, zup_n _ _ (by omega)]
  by_cases c5 : r = i
  · rw [c5, zup_s]
    exact ⟨r8, rfl⟩
  · rw [zup_n _ _ (by omega), e8, zup_n _ _ (by omega), zup_n _ _ (by omega)]
    exact hv r (by omega) h4
def lcR (f : Nat → Nat) : Nat → Nat
  | 0 => 1
  | i + 1 => Nat.lcm (lcR f i) (f i)
theorem lcR_cg {f g : Nat → Nat} : ∀ i : Nat, (∀ k : Nat, k < i → f k = g k) → lcR f i = lcR g i
  | 0, _ => rfl
  | i + 1, h => by
    show Nat.lcm (lcR f i) (f i) = Nat.lcm (lcR g i) (g i)
    rw [lcR_cg i (fun k hk => h k (by omega)), h i (by omega)]
theorem lcR_b {f : Nat → Nat} : ∀ i : Nat, (∀ k : Nat, k < i → 1 ≤ f k ∧ f k ≤ 24) → 1 ≤ lcR f i ∧ lcR f i ≤ 24 ^ i
  | 0, _ => ⟨Nat.le_refl 1, Nat.le_refl 1⟩
  | i + 1, h => by
    have a := lcR_b i (fun k hk => h k (by omega))
    have b := h i (by omega)
    have p : 0 < Nat.lcm (lcR f i) (f i) := Nat.lcm_pos (by omega) (by omega)
    have d := Nat.le_of_dvd (Nat.mul_pos (show 0 < lcR f i by omega) (show 0 < f i by omega)) (Nat.lcm_dvd_mul (lcR f i) (f i))
    have e : lcR f i * f i ≤ 24 ^ i * 24 := Nat.mul_le_mul a.2 b.2
    refine ⟨p, ?_⟩
    show Nat.lcm (lcR f i) (f i) ≤ 24 ^ (i + 1)
    rw [Nat.pow_succ]
    exact Nat.le_trans d e
theorem lcR_4 {f : Nat → Nat} {i : Nat} (hi : i ≤ 4) (h : ∀ k : Nat, k < i → 1 ≤ f k ∧ f k ≤ 24) : 1 ≤ lcR f i ∧ lcR f i ≤ 331776 := by
  have a := lcR_b i h
  have b : 24 ^ i ≤ 24 ^ 4 := Nat.pow_le_pow_right (by omega) hi
  have c : (24 : Nat) ^ 4 = 331776 := by decide
  omega
theorem lcm_rd {a n : Nat} (ha : 1 ≤ a) (hn : 1 ≤ n) : a * rdN n (a : Int) = Nat.lcm a n := by
  unfold rdN Nat.lcm
  rw [Int.natAbs_natCast, Nat.gcd_comm n a, Nat.mul_div_assoc _ (Nat.gcd_dvd_right a n)]
theorem lcm_md {a n : Nat} (ha : 1 ≤ a) (hn : 1 ≤ n) : a / Nat.gcd n (a % n) * n = Nat.lcm a n := by
  have e : Nat.gcd n (a % n) = Nat.gcd a n := by rw [Nat.gcd_comm a n, Nat.gcd_rec n a, Nat.gcd_comm]
  obtain ⟨k, hk⟩ := Nat.gcd_dvd_left a n
  have p := Nat.gcd_pos_of_pos_left n (show 0 < a by omega)
  rw [e]
  unfold Nat.lcm
  have h1 : a / Nat.gcd a n = k := Nat.div_eq_of_eq_mul_right p hk
  have h2 : a * n / Nat.gcd a n = k * n := Nat.div_eq_of_eq_mul_right p (by rw [← Nat.mul_assoc, ← hk])
  rw [h1, h2]
theorem fC_allTicks {M : zM} {f : Nat → Nat} {R : Nat} (hR : R ≤ 4) (h0 : M 57 0 = (R : Int)) (hf : ∀ r : Nat, r < R → M 58 r = ((f r : Nat) : Int) ∧ 1 ≤ f r ∧ f r ≤ 24) {Q : Int → Prop} (hQ : Q ((lcR f R : Nat) : Int)) : wC_Meeting_allTicks M Q := by
  unfold wC_Meeting_allTicks
  rw [h0, sIo (z := (R : Int)) (by omega) (by omega)]
  refine pL2_of (fun x y => ∃ i : Nat, y = (i : Int) ∧ i ≤ R ∧ x = ((lcR f i : Nat) : Int)) (fun _ y => (1000 - y).toNat) ⟨0, rfl, by omega, rfl⟩ (fun K x y h k => ?_)
  obtain ⟨i, rfl, hi, rfl⟩ := h
  have b := lcR_4 (f := f) (i := i) (by omega) (fun k hk => (hf k (by omega)).2)
  rw [sIo (z := (i : Int)) (by omega) (by omega), show ((i : Int)).toNat = i by omega, sLo (z := ((lcR f i : Nat) : Int)) (by omega) (by omega)]
  refine ⟨fun c => by rw [show i = R by omega]; exact hQ, fun c => ⟨by omega, ?_⟩⟩
  obtain ⟨h1, h2, h3⟩ := hf i (by omega)
  have b1 := lcR_4 (f := f) (i := i + 1) (by omega) (fun k hk => (hf k (by omega)).2)
  unfold wC_leastMultiple
  refine fC_withoutShared (n := f i) h1 (by omega) (by omega) ?_
  have e : ((lcR f i : Nat) : Int) * ((rdN (f i) ((lcR f i : Nat) : Int) : Nat) : Int) = ((lcR f (i + 1) : Nat) : Int) := by
    rw [← Int.natCast_mul, lcm_rd b.1 h2]
    rfl
  rw [e, sLo (z := ((lcR f (i + 1) : Nat) : Int)) (by omega) (by omega)]
  exact k _ _ ⟨i + 1, by omega, by omega, rfl⟩ (by omega)
theorem rdC_b {M : zM} (hB : BN wC M) {r : Nat} (hr : r < 4) (hu : uok M r) : 1 ≤ rdC M r ∧ rdC M r ≤ 24 := by
  obtain ⟨l, l1, l2, l3, -⟩ := hu
  have e : lenC M r = l := by unfold lenC; omega
  have b := rdN_b (n := lenC M r) (s := lsI (M (jmo (M (41 + 4 * r) 1)) 2) (M (jmo (M (41 + 4 * r) 1) + 2))) (by omega)
  unfold rdC
  omega
theorem fC_all {M : zM} (hB : BN wC M) (hu : ∀ r : Nat, (r : Int) < M 32 2 → uok M r) {Q : Int → zM → Prop} (hQ : ∀ (z : Int) (M1 : zM), BN wC M1 ∧ (∀ j9 : Nat, ¬ (57 ≤ j9 ∧ j9 ≤ 59) → M1 j9 = M j9) ∧ z = ((lcR (rdC M) (M 32 2).toNat : Nat) : Int) → Q z M1) : wC_all M Q := by
  unfold wC_all
  have bn : 0 ≤ M 32 2 ∧ M 32 2 ≤ 4 := BN.at hB (rfl : zcd wC 32 = 8) rfl
  refine fC_look hB hu (fun M1 h1 => ?_)
  obtain ⟨b1, f1, c1, s1, r1, t1⟩ := h1
  refine fC_allTicks (f := rdC M) (R := (M 32 2).toNat) (by omega) (by omega) (fun r hr => ⟨r1 r (by omega), rdC_b hB (by omega) (hu r (by omega))⟩) ?_
  exact hQ _ _ ⟨b1, f1, rfl⟩
theorem rdR_b {M : zM} (hB : BI M) {r : Nat} (hr : (r : Int) < M 0 10) : 1 ≤ rdR M r ∧ rdR M r ≤ 24 := by
  have b10 : 0 ≤ M 0 10 ∧ M 0 10 ≤ 4 := BN.at hB.1 (rfl : zcd wR 0 = 50) rfl
  have l1 := hB.2 r (by omega) hr
  have bl : 0 ≤ M 4 r ∧ M 4 r ≤ 24 := BN.at hB.1 (rfl : zcd wR 4 = 54) rfl
  have b := rdN_b (n := lenR M r) (s := lsI (M 11 (M 5 r).toNat) (fun i => M 10 (12 * (M 5 r).toNat + i))) (by unfold lenR; omega)
  have e : lenR M r ≤ 24 := by unfold lenR; omega
  unfold rdR
  omega
theorem fR_allRounds {M : zM} (hB : BI M) {Q : Int → Prop} (hQ : Q ((lcR (rdR M) (M 0 10).toNat : Nat) : Int)) : wR_allRounds M Q := by
  unfold wR_allRounds
  have b10 : 0 ≤ M 0 10 ∧ M 0 10 ≤ 4 := BN.at hB.1 (rfl : zcd wR 0 = 50) rfl
  rw [sIo (z := M 0 10) (by omega) (by omega)]
  refine pL2_of (fun x y => ∃ i : Nat, y = (i : Int) ∧ (i : Int) ≤ M 0 10 ∧ x = ((lcR (rdR M) i : Nat) : Int)) (fun _ y => (1000 - y).toNat) ⟨0, rfl, by omega, rfl⟩ (fun K x y h k => ?_)
  obtain ⟨i, rfl, hi, rfl⟩ := h
  have b := lcR_4 (f := rdR M) (i := i) (by omega) (fun k hk => rdR_b hB (by omega))
  rw [sIo (z := (i : Int)) (by omega) (by omega), sLo (z := ((lcR (rdR M) i : Nat) : Int)) (by omega) (by omega)]
  refine ⟨fun c => by rw [show (M 0 10).toNat = i by omega] at hQ; exact hQ, fun c => ?_⟩
  obtain ⟨h2, h3⟩ := rdR_b hB c
  refine fR_round hB c ⟨by omega, ?_⟩
  have em : ((lcR (rdR M) i : Nat) : Int).tmod ((rdR M i : Nat) : Int) = ((lcR (rdR M) i % rdR M i : Nat) : Int) := by
    rw [Int.tmod_eq_emod_of_nonneg (by omega)]
    exact (Int.natCast_emod _ _).symm
  have lt := Nat.mod_lt (lcR (rdR M) i) (show rdR M i > 0 by omega)
  rw [em]
  refine sR_common 48 hB (by omega) (by omega) (fun z hz => ?_) (by omega)
  obtain ⟨-, hz, -⟩ := hz
  rw [show (((rdR M i : Nat) : Int)).toNat = rdR M i by omega, show (((lcR (rdR M) i % rdR M i : Nat) : Int)).toNat = lcR (rdR M) i % rdR M i by omega] at hz
  have p := Nat.gcd_pos_of_pos_left (lcR (rdR M) i % rdR M i) (show 0 < rdR M i by omega)
  have e : ((lcR (rdR M) i : Nat) : Int).tdiv z * ((rdR M i : Nat) : Int) = ((lcR (rdR M) (i + 1) : Nat) : Int) := by
    rw [hz, Int.tdiv_eq_ediv_of_nonneg (by omega), ← Int.natCast_ediv, ← Int.natCast_mul, lcm_md b.1 h2]
    rfl
  rw [e]
  exact ⟨by omega, k _ _ ⟨i + 1, by omega, by omega, rfl⟩ (by omega)⟩
theorem rdR_cg {M M1 : zM} (f : ∀ p q : Nat, 3 ≤ p → p ≤ 11 → M1 p q = M p q) (r : Nat) : rdR M1 r = rdR M r := by
  unfold rdR lenR
  rw [f 4 r (by omega) (by omega), f 5 r (by omega) (by omega), f 11 _ (by omega) (by omega), show M1 10 = M 10 from funext fun q => f 10 q (by omega) (by omega)]
theorem fR_all {M : zM} (hB : BI M) {Q : Int → zM → Prop} (hQ : ∀ (z : Int) (M1 : zM), BI M1 ∧ (∀ j9 k9 : Nat, ¬ (j9 = 0 ∧ k9 = 35) → M1 j9 k9 = M j9 k9) ∧ z = ((lcR (rdR M) (M 0 10).toNat : Nat) : Int) → Q z M1) : wR_all M Q := by
  unfold wR_all
  intro M1 e1
  have hB1 : BI M1 := by rw [e1]; exact BI.up0 hB (rfl : cbt 50 35 = (-2147483648, 2147483647)) (by omega) (by omega) (by decide)
  have F1 : ∀ j9 k9 : Nat, ¬ (j9 = 0 ∧ k9 = 35) → M1 j9 k9 = M j9 k9 := fun j9 k9 h9 => by rw [e1]; exact zup_n _ _ (by omega)
  refine fR_allRounds hB1 ?_
  have e : rdR M1 = rdR M := funext fun r => rdR_cg (fun p q h1 h2 => F1 p q (by omega)) r
  rw [e, F1 0 10 (by omega)]
  exact hQ _ _ ⟨hB1, F1, rfl⟩
theorem all_det {MC MR : zM} {z z9 : Int} (hC : BN wC MC) (hR : iRi MC MR) (hM : iMo (MC 35) (MC 36) (MC 37) (MC 38) (MC 39) (MC 40) (MR 9) (MR 10) (MR 11)) (p : z = ((lcR (rdC MC) (MC 32 2).toNat : Nat) : Int)) (q : z9 = ((lcR (rdR MR) (MR 0 10).toNat : Nat) : Int)) : z = z9 := by
  have bn : 0 ≤ MC 32 2 ∧ MC 32 2 ≤ 4 := BN.at hC (rfl : zcd wC 32 = 8) rfl
  rw [p, q, ← hR.1, lcR_cg _ (fun k hk => rd_det hC hR hM (by omega))]
