section zz47zi_look
/-! meetings: what is looked up; all -/
def hvF (M : zM) (t : Int) (r : Nat) : Int := orU (M (41 + 4 * r) 3) (M (41 + 4 * r + 2)) (lenC M r) ((M (41 + 4 * r) 2 + wbF (M (jmo (M (41 + 4 * r) 1)) 2) (M (jmo (M (41 + 4 * r) 1) + 1)) (M (jmo (M (41 + 4 * r) 1) + 2)) t ((lenC M r : Nat) : Int)) % ((lenC M r : Nat) : Int)).toNat 24
theorem hvC_F {M : zM} {t z : Int} {r : Nat} (hB : BN wC M) (h : hvC M t r z) : z = hvF M t r := by
  obtain ⟨n, w, w1, w2, w3⟩ := h
  obtain ⟨-, bT⟩ := jS_b hB (M (41 + 4 * r) 1)
  have en : lenC M r = n := by unfold lenC; omega
  rw [w3, wbR_F bT.1 w2]
  unfold hvF
  rw [en]
def gC (M : zM) (t : Int) (r : Nat) : Int := if andI (M (41 + 4 * r) 4) (xorI (hvF M t r) (-1)) = 0 then 1 else 0
def cgD (M M2 : zM) : Prop := ∀ j : Nat, 32 ≤ j → j ≤ 56 → M2 j = M j
theorem gC_cg {M M2 : zM} (f : cgD M M2) {t : Int} {r : Nat} (hr : r < 4) : gC M2 t r = gC M t r := by
  have ej : jmo (M2 (41 + 4 * r) 1) = jmo (M (41 + 4 * r) 1) := by rw [f _ (by omega) (by omega)]
  have bj : 35 ≤ jmo (M (41 + 4 * r) 1) ∧ jmo (M (41 + 4 * r) 1) ≤ 38 := by rcases jmo_n (M (41 + 4 * r) 1) with e | e <;> omega
  unfold gC hvF lenC
  rw [ej, f _ (by omega) (by omega), f (41 + 4 * r + 1) (by omega) (by omega), f (41 + 4 * r + 2) (by omega) (by omega), f (jmo (M (41 + 4 * r) 1)) (by omega) (by omega), f (jmo (M (41 + 4 * r) 1) + 1) (by omega) (by omega), f (jmo (M (41 + 4 * r) 1) + 2) (by omega) (by omega)]
theorem rdC_cg {M M2 : zM} (f : cgD M M2) {r : Nat} (hr : r < 4) : rdC M2 r = rdC M r := by
  have ej : jmo (M2 (41 + 4 * r) 1) = jmo (M (41 + 4 * r) 1) := by rw [f _ (by omega) (by omega)]
  have bj : 35 ≤ jmo (M (41 + 4 * r) 1) ∧ jmo (M (41 + 4 * r) 1) ≤ 38 := by rcases jmo_n (M (41 + 4 * r) 1) with e | e <;> omega
  unfold rdC lenC
  rw [ej, f (41 + 4 * r + 1) (by omega) (by omega), f (jmo (M (41 + 4 * r) 1)) (by omega) (by omega), f (jmo (M (41 + 4 * r) 1) + 2) (by omega) (by omega)]
theorem fC_grants {M : zM} {r : Nat} {a1 : Int} (hB : BN wC M) (hr : r < 4) (hu : uok M r) (v1 : 0 ≤ a1 ∧ a1 ≤ 9223372036854775807) {Q : Int → Prop} (hQ : Q (gC M a1 r)) : wC_Studio_grants (41 + 4 * r) a1 M Q := by
  unfold wC_Studio_grants
  refine fC_heardOf hB hr hu v1 (fun z hz => ?_)
  have e := hvC_F hB hz
  unfold gC at hQ
  rw [← e] at hQ
  refine ⟨fun c => ?_, fun c => ?_⟩
  · rw [if_neg c] at hQ
    exact hQ
  · rw [if_pos c] at hQ
    exact hQ
theorem trB_r {b : Nat → Int} : ∀ m : Nat, -2147483648 ≤ trB b m ∧ trB b m ≤ 2147483647
  | 0 => ⟨by show (-2147483648 : Int) ≤ 0; omega, by show (0 : Int) ≤ 2147483647; omega⟩
  | m + 1 => by
    have a := trB_r (b := b) m
    show -2147483648 ≤ (if b m = 1 then orI (trB b m) (shlI 1 (m : Int)) else trB b m) ∧ (if b m = 1 then orI (trB b m) (shlI 1 (m : Int)) else trB b m) ≤ 2147483647
    by_cases c : b m = 1
    · rw [if_pos c]
      exact orI_R _ _
    · rw [if_neg c]
      exact a
theorem bt_shl (m t : Nat) (hm : m < 25) (ht : t < 25) : bt (shlI 1 (m : Int)) (t : Int) = if t = m then 1 else 0 := (by decide +kernel : ∀ m : Nat, m < 25 → ∀ t : Nat, t < 25 → bt (shlI 1 (m : Int)) (t : Int) = if t = m then 1 else 0) m hm t ht
theorem bt_trB {b : Nat → Int} {t : Nat} (ht : t < 25) : ∀ m : Nat, m ≤ 25 → (bt (trB b m) (t : Int) = 1 ↔ t < m ∧ b t = 1)
  | 0, _ => by
    constructor
    · intro e
      have e : bt 0 (t : Int) = 1 := e
      have y := bt_0 (t : Int)
      omega
    · intro e
      exact absurd e.1 (Nat.not_lt_zero t)
  | m + 1, hm => by
    have ih := bt_trB (b := b) ht m (by omega)
    have s := bt_shl m t (by omega) ht
    show bt (if b m = 1 then orI (trB b m) (shlI 1 (m : Int)) else trB b m) (t : Int) = 1 ↔ _
    by_cases c : b m = 1
    · rw [if_pos c, bt_or, ih]
      by_cases e : t = m
      · subst e
        rw [if_pos rfl] at s
        constructor
        · intro _
          exact ⟨by omega, c⟩
        · intro _
          exact Or.inr s
      · rw [if_neg e] at s
        constructor
        · rintro (h | h)
          · exact ⟨by omega, h.2⟩
          · omega
        · intro h
          exact Or.inl ⟨by omega, h.2⟩
    · rw [if_neg c, ih]
      constructor
      · intro h
        exact ⟨by omega, h.2⟩
      · intro h
        have : t ≠ m := fun e => c (by rw [← e]; exact h.2)
        exact ⟨by omega, h.2⟩
def stC (M : zM) : Int := max (stI (M 35 2) (M 36)) (stI (M 38 2) (M 39))
theorem fC_Motor_steady {M : zM} {j : Nat} (hB : BN wC M) (hj : j = 35 ∨ j = 38) {Q : Int → Prop} (hQ : Q (stI (M j 2) (M (j + 1)))) : wC_Motor_steady j M Q := by
  unfold wC_Motor_steady
  have b : 0 ≤ M j 2 ∧ M j 2 ≤ 12 := by rcases hj with e | e <;> rw [e] <;> exact BN.at hB (rfl : zcd wC _ = 11) rfl
  have bt : 0 ≤ M (j + 1) (M j 2 - 1).toNat ∧ M (j + 1) (M j 2 - 1).toNat ≤ 5000 := by rcases hj with e | e <;> rw [e] <;> exact BN.at hB (rfl : zcd wC _ = 12) rfl
  unfold stI at hQ
  rw [sIo (z := M j 2) (by omega) (by omega), sIo (z := M j 2 - 1) (by omega) (by omega), sIo (z := M (j + 1) (M j 2 - 1).toNat) (by omega) (by omega)]
  refine ⟨fun c => ⟨by omega, ?_⟩, fun c => ?_⟩
  · rw [if_neg c] at hQ
    exact hQ
  · rw [if_pos c] at hQ
    exact hQ
theorem stC_b {M : zM} (hB : BN wC M) : 0 ≤ stC M ∧ stC M ≤ 5000 := by
  have a := st_b (n := M 35 2) (T := M 36) (fun i => BN.at hB (rfl : zcd wC 36 = 12) rfl)
  have b := st_b (n := M 38 2) (T := M 39) (fun i => BN.at hB (rfl : zcd wC 39 = 12) rfl)
  unfold stC
  omega
/-- what stands of a meeting once it has been looked up -/
def lkC (M M1 : zM) : Prop := BN wC M1 ∧ (∀ j9 : Nat, ¬ (57 ≤ j9 ∧ j9 ≤ 59) → M1 j9 = M j9) ∧ M1 57 0 = M 32 2 ∧ M1 57 1 = stC M ∧ (∀ r : Nat, (r : Int) < M 32 2 → M1 58 r = ((rdC M r : Nat) : Int)) ∧ (∀ r : Nat, (r : Int) < M 32 2 → M1 59 r = trB (fun t => gC M (stC M + (t : Int)) r) (rdC M r))
theorem fC_turnsOf {M : zM} {r n : Nat} {a2 : Int} (hB : BN wC M) (hr : r < 4) (hu : uok M r) (hn : n ≤ 24) (ha : a2 = (n : Int)) (hs : 0 ≤ M 57 1 ∧ M 57 1 ≤ 5000) {Q : Int → Prop} (hQ : Q (trB (fun t => gC M (M 57 1 + (t : Int)) r) n)) : wC_Meeting_turnsOf (41 + 4 * r) a2 M Q := by
  unfold wC_Meeting_turnsOf
  refine pL2_of (fun x y => ∃ t : Nat, y = (t : Int) ∧ t ≤ n ∧ x = trB (fun t => gC M (M 57 1 + (t : Int)) r) t) (fun _ y => (1000 - y).toNat) ⟨0, rfl, by omega, rfl⟩ (fun K x y h k => ?_)
  obtain ⟨t, rfl, ht, rfl⟩ := h
  have rx := trB_r (b := fun t => gC M (M 57 1 + (t : Int)) r) t
  rw [ha, sIo (z := (n : Int)) (by omega) (by omega), sIo (z := (t : Int)) (by omega) (by omega), sIo (z := trB (fun t => gC M (M 57 1 + (t : Int)) r) t) rx.1 rx.2]
  refine ⟨fun c => by rw [show t = n by omega]; exact hQ, fun c => ?_⟩
  refine fC_grants hB hr hu (by omega) ?_
  refine ⟨fun c2 => k _ _ ⟨t + 1, by omega, by omega, ?_⟩ (by omega), fun c2 => k _ _ ⟨t + 1, by omega, by omega, ?_⟩ (by omega)⟩
  · show _ = if gC M (M 57 1 + (t : Int)) r = 1 then _ else _
    rw [if_neg (by omega)]
  · have g : gC M (M 57 1 + (t : Int)) r = 1 := by
      unfold gC at c2 ⊢
      split
      · rfl
      · rename_i h
        rw [if_neg h] at c2
        exact absurd rfl c2
    show _ = if gC M (M 57 1 + (t : Int)) r = 1 then _ else _
    rw [if_pos g]
set_option maxHeartbeats 2000000 in
theorem fC_look {M : zM} (hB : BN wC M) (hu : ∀ r : Nat, (r : Int) < M 32 2 → uok M r) {Q : zM → Prop} (hQ : ∀ M1 : zM, lkC M M1 → Q M1) : wC_Meeting_look M Q := by
  unfold wC_Meeting_look wC_Studio_steady
  have bn : 0 ≤ M 32 2 ∧ M 32 2 ≤ 4 := BN.at hB (rfl : zcd wC 32 = 8) rfl
  have bs := stC_b hB
  refine fC_Motor_steady hB (Or.inl rfl) ?_
  refine fC_Motor_steady hB (Or.inr rfl) ?_
  intro M5 e5 M7 e7
  have e5 : M5 = zup M 57 1 (stC M) := e5
  have b7 : BN wC M7 := by rw [e7, e5]; exact BN.up (BN.up hB (rfl : zcd wC 57 = 16) (rfl : cbt 16 1 = (0, 5000)) bs.1 bs.2) (rfl : zcd wC 57 = 16) (rfl : cbt 16 0 = (0, 4)) (by omega) (by omega)
  refine wL1_of (fun x M2 => BN wC M2 ∧ (∀ j9 : Nat, ¬ (57 ≤ j9 ∧ j9 ≤ 59) → M2 j9 = M j9) ∧ M2 57 1 = stC M ∧ ∃ i : Nat, x = (i : Int) ∧ i ≤ 4 ∧ M2 57 0 = min (i : Int) (M 32 2) ∧ (∀ r : Nat, r < i → (r : Int) < M 32 2 → M2 58 r = ((rdC M r : Nat) : Int) ∧ M2 59 r = trB (fun t => gC M (stC M + (t : Int)) r) (rdC M r))) (fun x _ => (1000 - x).toNat) ⟨b7, fun j9 h9 => by rw [e7, zup_row _ _ (by omega), e5, zup_row _ _ (by omega)], by rw [e7, zup_n _ _ (by omega), e5, zup_s], 0, rfl, by omega, by rw [e7, zup_s]; omega, fun r h => absurd h (Nat.not_lt_zero r)⟩ (fun K x M2 h k => ?_)
  obtain ⟨b2, f2, s2, i, rfl, hi, hc, hv⟩ := h
  have si : sI (i : Int) = i := sIo (by omega) (by omega)
  have ti : ((i : Int)).toNat = i := by omega
  have cg2 : cgD M M2 := fun j h1 h2 => f2 j (by omega)
  have n2 : M2 32 2 = M 32 2 := by rw [f2 32 (by omega)]
  rw [si, ti]
  refine ⟨fun c => hQ _ ⟨b2, f2, by omega, s2, fun r hr => (hv r (by omega) hr).1, fun r hr => (hv r (by omega) hr).2⟩, fun c => ?_⟩
  refine fC_find b2 (by omega) (fun h => ⟨fun _ => k _ _ ⟨b2, f2, s2, i + 1, by omega, by omega, by omega, fun r h1 h2 => hv r (by omega) h2⟩ (by omega), fun q hq => nomatch hq⟩) (fun r hr h1 h2 => ⟨(fun h => nomatch h), fun q hq => ?_⟩)
  obtain rfl := Option.some.inj hq
  obtain rfl : i = r := by omega
  obtain ⟨g1, g2, g3, -⟩ := rg_cd i h2
  rw [n2] at h1
  obtain ⟨l, l1, l2, l3, l4⟩ := hu i h1
  have rb : rdC M i ≤ 24 := by
    have b := rdN_b (n := lenC M i) (s := lsI (M (jmo (M (41 + 4 * i) 1)) 2) (M (jmo (M (41 + 4 * i) 1) + 2))) (by unfold lenC; omega)
    have e : lenC M i = l := by unfold lenC; omega
    unfold rdC
    omega
  refine ⟨⟨g1, g2⟩, ?_⟩
  refine fC_roundOf b2 h2 (by rw [f2 _ (by omega)]; omega) ?_
  rw [rdC_cg cg2 h2]
  refine ⟨by omega, fun M8 e8 => ⟨by omega, ?_⟩⟩
  have b8 : BN wC M8 := by rw [e8]; exact BN.up b2 (rfl : zcd wC 58 = 17) rfl (by omega) (by omega)
  have f8 : ∀ j9 : Nat, ¬ (57 ≤ j9 ∧ j9 ≤ 59) → M8 j9 = M j9 := fun j9 h9 => by rw [e8, zup_row _ _ (by omega)]; exact f2 j9 h9
  have cg8 : cgD M M8 := fun j h1 h2 => f8 j (by omega)
  have s8 : M8 57 1 = stC M := by rw [e8, zup_n _ _ (by omega)]; exact s2
  have r8 : M8 58 i = ((rdC M i : Nat) : Int) := by rw [e8, zup_s]
  rw [r8]
  refine fC_turnsOf b8 h2 (uok_cg (fun j h1 h2 => f8 j (by omega)) h2 (hu i h1)) rb rfl (by rw [s8]; exact bs) ?_
  have et : trB (fun t => gC M8 (M8 57 1 + (t : Int)) i) (rdC M i) = trB (fun t => gC M (stC M + (t : Int)) i) (rdC M i) := trB_cg _ (fun t _ => by rw [s8, gC_cg cg8 h2])
  rw [et]
  have rt := trB_r (b := fun t => gC M (stC M + (t : Int)) i) (rdC M i)
  refine ⟨by omega, fun M10 e10 M12 e12 => ?_⟩
  have x10 : M10 57 0 = (i : Int) := by rw [e10, zup_n _ _ (by omega), e8, zup_n _ _ (by omega), hc]; omega
  rw [x10] at e12
  have b10 : BN wC M10 := by rw [e10]; exact BN.up b8 (rfl : zcd wC 59 = 18) rfl rt.1 rt.2
  refine k _ _ ⟨by rw [e12]; exact BN.up b10 (rfl : zcd wC 57 = 16) (rfl : cbt 16 0 = (0, 4)) (by omega) (by omega), fun j9 h9 => by rw [e12, zup_row _ _ (by omega), e10, zup_row _ _ (by omega)]; exact f8 j9 h9, by rw [e12, zup_n _ _ (by omega), e10, zup_n _ _ (by omega)]; exact s8, i + 1, by omega, by omega, by rw [e12, zup_s]; omega, fun r h3 h4 => ?_⟩ (by omega)
  rw [e12, zup_n _ _ (by omega), zup_n _ _ (by omega), e10, zup_n _ _ (by omega)]
  by_cases c5 : r = i
  · rw [c5, zup_s]
    exact ⟨r8, rfl⟩
  · rw [zup_n _ _ (by omega), e8, zup_n _ _ (by omega), zup_n _ _ (by omega)]
    exact hv r (by omega) h4
def lcR (f : Nat → Nat) : Nat → Nat
  | 0 => 1
  | i + 1 => Nat.lcm (lcR f i) (f i)
theorem lcR_cg {f g : Nat → Nat} : ∀ i : Nat, (∀ k : Nat, k < i → f k = g k) → lcR f i = lcR g i
  | 0, _ => rfl
  | i + 1, h => by
    show Nat.lcm (lcR f i) (f i) = Nat.lcm (lcR g i) (g i)
    rw [lcR_cg i (fun k hk => h k (by omega)), h i (by omega)]
theorem lcR_b {f : Nat → Nat} : ∀ i : Nat, (∀ k : Nat, k < i → 1 ≤ f k ∧ f k ≤ 24) → 1 ≤ lcR f i ∧ lcR f i ≤ 24 ^ i
  | 0, _ => ⟨Nat.le_refl 1, Nat.le_refl 1⟩
  | i + 1, h => by
    have a := lcR_b i (fun k hk => h k (by omega))
    have b := h i (by omega)
    have p : 0 < Nat.lcm (lcR f i) (f i) := Nat.lcm_pos (by omega) (by omega)
    have d := Nat.le_of_dvd (Nat.mul_pos (show 0 < lcR f i by omega) (show 0 < f i by omega)) (Nat.lcm_dvd_mul (lcR f i) (f i))
    have e : lcR f i * f i ≤ 24 ^ i * 24 := Nat.mul_le_mul a.2 b.2
    refine ⟨p, ?_⟩
    show Nat.lcm (lcR f i) (f i) ≤ 24 ^ (i + 1)
    rw [Nat.pow_succ]
    exact Nat.le_trans d e
theorem lcR_4 {f : Nat → Nat} {i : Nat} (hi : i ≤ 4) (h : ∀ k : Nat, k < i → 1 ≤ f k ∧ f k ≤ 24) : 1 ≤ lcR f i ∧ lcR f i ≤ 331776 := by
  have a := lcR_b i h
  have b : 24 ^ i ≤ 24 ^ 4 := Nat.pow_le_pow_right (by omega) hi
  have c : (24 : Nat) ^ 4 = 331776 := by decide
  omega
theorem lcm_rd {a n : Nat} (ha : 1 ≤ a) (hn : 1 ≤ n) : a * rdN n (a : Int) = Nat.lcm a n := by
  unfold rdN Nat.lcm
  rw [Int.natAbs_natCast, Nat.gcd_comm n a, Nat.mul_div_assoc _ (Nat.gcd_dvd_right a n)]
theorem lcm_md {a n : Nat} (ha : 1 ≤ a) (hn : 1 ≤ n) : a / Nat.gcd n (a % n) * n = Nat.lcm a n := by
  have e : Nat.gcd n (a % n) = Nat.gcd a n := by rw [Nat.gcd_comm a n, Nat.gcd_rec n a, Nat.gcd_comm]
  obtain ⟨k, hk⟩ := Nat.gcd_dvd_left a n
  have p := Nat.gcd_pos_of_pos_left n (show 0 < a by omega)
  rw [e]
  unfold Nat.lcm
  have h1 : a / Nat.gcd a n = k := Nat.div_eq_of_eq_mul_right p hk
  have h2 : a * n / Nat.gcd a n = k * n := Nat.div_eq_of_eq_mul_right p (by rw [← Nat.mul_assoc, ← hk])
  rw [h1, h2]
theorem rdC_b {M : zM} (hB : BN wC M) {r : Nat} (hr : r < 4) (hu : uok M r) : 1 ≤ rdC M r ∧ rdC M r ≤ 24 := by
  obtain ⟨l, l1, l2, l3, -⟩ := hu
  have e : lenC M r = l := by unfold lenC; omega
  have b := rdN_b (n := lenC M r) (s := lsI (M (jmo (M (41 + 4 * r) 1)) 2) (M (jmo (M (41 + 4 * r) 1) + 2))) (by omega)
  unfold rdC
  omega
theorem rdR_b {M : zM} (hB : BI M) {r : Nat} (hr : (r : Int) < M 0 10) : 1 ≤ rdR M r ∧ rdR M r ≤ 24 := by
  have b10 : 0 ≤ M 0 10 ∧ M 0 10 ≤ 4 := BN.at hB.1 (rfl : zcd wR 0 = 50) rfl
  have l1 := hB.2 r (by omega) hr
  have bl : 0 ≤ M 4 r ∧ M 4 r ≤ 24 := BN.at hB.1 (rfl : zcd wR 4 = 54) rfl
  have b := rdN_b (n := lenR M r) (s := lsI (M 11 (M 5 r).toNat) (fun i => M 10 (12 * (M 5 r).toNat + i))) (by unfold lenR; omega)
  have e : lenR M r ≤ 24 := by unfold lenR; omega
  unfold rdR
  omega
theorem fR_allRounds {M : zM} (hB : BI M) {Q : Int → Prop} (hQ : Q ((lcR (rdR M) (M 0 10).toNat : Nat) : Int)) : wR_allRounds M Q := by
  unfold wR_allRounds
  have b10 : 0 ≤ M 0 10 ∧ M 0 10 ≤ 4 := BN.at hB.1 (rfl : zcd wR 0 = 50) rfl
  rw [sIo (z := M 0 10) (by omega) (by omega)]
  refine pL2_of (fun x y => ∃ i : Nat, y = (i : Int) ∧ (i : Int) ≤ M 0 10 ∧ x = ((lcR (rdR M) i : Nat) : Int)) (fun _ y => (1000 - y).toNat) ⟨0, rfl, by omega, rfl⟩ (fun K x y h k => ?_)
  obtain ⟨i, rfl, hi, rfl⟩ := h
  have b := lcR_4 (f := rdR M) (i := i) (by omega) (fun k hk => rdR_b hB (by omega))
  rw [sIo (z := (i : Int)) (by omega) (by omega), sLo (z := ((lcR (rdR M) i : Nat) : Int)) (by omega) (by omega)]
  refine ⟨fun c => by rw [show (M 0 10).toNat = i by omega] at hQ; exact hQ, fun c => ?_⟩
  obtain ⟨h2, h3⟩ := rdR_b hB c
  refine fR_round hB c ⟨by omega, ?_⟩
  have em : ((lcR (rdR M) i : Nat) : Int).tmod ((rdR M i : Nat) : Int) = ((lcR (rdR M) i % rdR M i : Nat) : Int) := by
    rw [Int.tmod_eq_emod_of_nonneg (by omega)]
    exact (Int.natCast_emod _ _).symm
  have lt := Nat.mod_lt (lcR (rdR M) i) (show rdR M i > 0 by omega)
  rw [em]
  refine sR_common 48 hB (by omega) (by omega) (fun z hz => ?_) (by omega)
  obtain ⟨-, hz, -⟩ := hz
  rw [show (((rdR M i : Nat) : Int)).toNat = rdR M i by omega, show (((lcR (rdR M) i % rdR M i : Nat) : Int)).toNat = lcR (rdR M) i % rdR M i by omega] at hz
  have p := Nat.gcd_pos_of_pos_left (lcR (rdR M) i % rdR M i) (show 0 < rdR M i by omega)
  have e : ((lcR (rdR M) i : Nat) : Int).tdiv z * ((rdR M i : Nat) : Int) = ((lcR (rdR M) (i + 1) : Nat) : Int) := by
    rw [hz, Int.tdiv_eq_ediv_of_nonneg (by omega), ← Int.natCast_ediv, ← Int.natCast_mul, lcm_md b.1 h2]
    rfl
  rw [e]
  exact ⟨by omega, k _ _ ⟨i + 1, by omega, by omega, rfl⟩ (by omega)⟩
theorem rdR_cg {M M1 : zM} (f : ∀ p q : Nat, 3 ≤ p → p ≤ 11 → M1 p q = M p q) (r : Nat) : rdR M1 r = rdR M r := by
  unfold rdR lenR
  rw [f 4 r (by omega) (by omega), f 5 r (by omega) (by omega), f 11 _ (by omega) (by omega), show M1 10 = M 10 from funext fun q => f 10 q (by omega) (by omega)]
end zz47zi_look
section zz47zj_count
/-! meetings: counting by what rounds share -/
def sm (f : Nat → Nat) : Nat → Nat
  | 0 => 0
  | n + 1 => sm f n + f n
theorem sm_cg {f g : Nat → Nat} : ∀ n : Nat, (∀ k : Nat, k < n → f k = g k) → sm f n = sm g n
  | 0, _ => rfl
  | n + 1, h => by
    show sm f n + f n = sm g n + g n
    rw [sm_cg n (fun k hk => h k (by omega)), h n (by omega)]
theorem sm_add {f g : Nat → Nat} : ∀ n : Nat, sm (fun k => f k + g k) n = sm f n + sm g n
  | 0 => rfl
  | n + 1 => by
    show sm (fun k => f k + g k) n + (f n + g n) = (sm f n + f n) + (sm g n + g n)
    rw [sm_add n]
    omega
theorem sm_mulr {f : Nat → Nat} {c : Nat} : ∀ n : Nat, sm (fun k => f k * c) n = sm f n * c
  | 0 => (Nat.zero_mul c).symm
  | n + 1 => by
    show sm (fun k => f k * c) n + f n * c = (sm f n + f n) * c
    rw [sm_mulr n, Nat.add_mul]
theorem sm_mull {f : Nat → Nat} {c : Nat} (n : Nat) : sm (fun k => c * f k) n = c * sm f n := by
  rw [Nat.mul_comm c, ← sm_mulr n]
  exact sm_cg n (fun k _ => Nat.mul_comm _ _)
theorem sm_0 {f : Nat → Nat} : ∀ n : Nat, (∀ k : Nat, k < n → f k = 0) → sm f n = 0
  | 0, _ => rfl
  | n + 1, h => by
    show sm f n + f n = 0
    rw [sm_0 n (fun k hk => h k (by omega)), h n (by omega)]
theorem sm_ex {F : Nat → Nat → Nat} {n : Nat} : ∀ m : Nat, sm (fun q => sm (fun u => F q u) n) m = sm (fun u => sm (fun q => F q u) m) n
  | 0 => (sm_0 n (fun _ _ => rfl)).symm
  | m + 1 => by
    show sm (fun q => sm (fun u => F q u) n) m + sm (fun u => F m u) n = sm (fun u => sm (fun q => F q u) m + F m u) n
    rw [sm_ex m, sm_add]
theorem sm_app {f : Nat → Nat} {a : Nat} : ∀ b : Nat, sm f (a + b) = sm f a + sm (fun k => f (a + k)) b
  | 0 => rfl
  | b + 1 => by
    show sm f (a + b) + f (a + b) = sm f a + (sm (fun k => f (a + k)) b + f (a + b))
    rw [sm_app b]
    omega
theorem sm_bl {F : Nat → Nat} {A : Nat} : ∀ m : Nat, sm F (A * m) = sm (fun q => sm (fun a => F (A * q + a)) A) m
  | 0 => rfl
  | m + 1 => by
    rw [Nat.mul_succ, sm_app, sm_bl m]
    rfl
theorem sm_one {y : Nat → Nat} {x : Nat} : ∀ n : Nat, sm (fun u => if u = x then y u else 0) n = if x < n then y x else 0
  | 0 => by
    rw [if_neg (Nat.not_lt_zero x)]
    rfl
  | n + 1 => by
    show sm (fun u => if u = x then y u else 0) n + (if n = x then y n else 0) = _
    rw [sm_one n]
    by_cases c : n = x
    · subst c
      rw [if_pos rfl, if_neg (Nat.lt_irrefl n), if_pos (by omega), Nat.zero_add]
    · rw [if_neg c, Nat.add_zero]
      by_cases d : x < n
      · rw [if_pos d, if_pos (by omega)]
      · rw [if_neg d, if_neg (by omega)]
def pr (f : Nat → Nat) : Nat → Nat
  | 0 => 1
  | i + 1 => pr f i * f i
theorem pr_cg {f g : Nat → Nat} : ∀ n : Nat, (∀ k : Nat, k < n → f k = g k) → pr f n = pr g n
  | 0, _ => rfl
  | n + 1, h => by
    show pr f n * f n = pr g n * g n
    rw [pr_cg n (fun k hk => h k (by omega)), h n (by omega)]
set_option maxRecDepth 100000 in
theorem ct_br : ∀ n : Nat, n < 25 → ∀ A : Nat, A < n → ∀ d : Nat, d < n → sm (fun q => if A * q % n = d then 1 else 0) (n / Nat.gcd A n) = if d % Nat.gcd A n = 0 then 1 else 0 := by decide +kernel
theorem ad_md {p q n : Nat} (hp : p < n) (hq : q < n) : (p + q) % n = if p + q < n then p + q else p + q - n := by
  by_cases c : p + q < n
  · rw [if_pos c, Nat.mod_eq_of_lt c]
  · rw [if_neg c, Nat.mod_eq_sub_mod (by omega), Nat.mod_eq_of_lt (by omega)]
theorem dv_sub {g u a : Nat} (h : a ≤ u) : (u - a) % g = 0 ↔ u % g = a % g := by
  constructor
  · intro e
    obtain ⟨k, hk⟩ := Nat.dvd_of_mod_eq_zero e
    rw [show u = a + g * k by omega, Nat.add_mul_mod_self_left]
  · intro e
    exact Nat.sub_mod_eq_zero_of_mod_eq e
/-- how many steps of A from a on come to u, by n -/
theorem ct_hit {A n a u : Nat} (hA : 1 ≤ A) (hn : 1 ≤ n ∧ n < 25) (hu : u < n) : sm (fun q => if (A * q + a) % n = u then 1 else 0) (n / Nat.gcd A n) = if u % Nat.gcd A n = a % Nat.gcd A n then 1 else 0 := by
  have ha := Nat.mod_lt a (show n > 0 by omega)
  have hA2 := Nat.mod_lt A (show n > 0 by omega)
  have eg : Nat.gcd A n = Nat.gcd (A % n) n := by rw [Nat.gcd_comm A n, Nat.gcd_rec n A]
  have gn : Nat.gcd A n ∣ n := Nat.gcd_dvd_right A n
  have hd := Nat.mod_lt (u + (n - a % n)) (show n > 0 by omega)
  have br := ct_br n (by omega) (A % n) hA2 ((u + (n - a % n)) % n) hd
  rw [← eg] at br
  have e1 : sm (fun q => if (A * q + a) % n = u then 1 else 0) (n / Nat.gcd A n) = sm (fun q => if A % n * q % n = (u + (n - a % n)) % n then 1 else 0) (n / Nat.gcd A n) := by
    refine sm_cg _ (fun q _ => ?_)
    have e2 : A % n * q % n = A * q % n := by rw [Nat.mul_mod, Nat.mod_mod, ← Nat.mul_mod]
    have hx := Nat.mod_lt (A * q) (show n > 0 by omega)
    rw [e2, Nat.add_mod, ad_md hx ha]
    have e3 : (u + (n - a % n)) % n = if a % n = 0 then u else if u + (n - a % n) < n then u + (n - a % n) else u + (n - a % n) - n := by
      by_cases c : a % n = 0
      · rw [if_pos c, c, Nat.sub_zero, Nat.add_mod_right, Nat.mod_eq_of_lt hu]
      · rw [if_neg c, ad_md hu (by omega)]
    rw [e3]
    have iffe : ((if A * q % n + a % n < n then A * q % n + a % n else A * q % n + a % n - n) = u) ↔ (A * q % n = if a % n = 0 then u else if u + (n - a % n) < n then u + (n - a % n) else u + (n - a % n) - n) := by
      by_cases c : a % n = 0
      · rw [if_pos c]
        split <;> omega
      · rw [if_neg c]
        split <;> split <;> omega
    by_cases c : (if A * q % n + a % n < n then A * q % n + a % n else A * q % n + a % n - n) = u
    · rw [if_pos c, if_pos (iffe.mp c)]
    · rw [if_neg c, if_neg (fun x => c (iffe.mpr x))]
  have e4 : ((u + (n - a % n)) % n % Nat.gcd A n = 0) ↔ (u % Nat.gcd A n = a % Nat.gcd A n) := by
    rw [Nat.mod_mod_of_dvd _ gn, show u + (n - a % n) = (u + n) - a % n by omega, dv_sub (by omega), Nat.mod_mod_of_dvd _ gn]
    have e5 : (u + n) % Nat.gcd A n = u % Nat.gcd A n := by
      obtain ⟨k, hk⟩ := gn
      rw [show u + n = u + Nat.gcd A n * k by omega, Nat.add_mul_mod_self_left]
    rw [e5]
  rw [e1, br]
  by_cases c : u % Nat.gcd A n = a % Nat.gcd A n
  · rw [if_pos c, if_pos (e4.mpr c)]
  · rw [if_neg c, if_neg (fun x => c (e4.mp x))]
/-- two moduli -/
theorem crt_sm {P b : Nat → Nat} {A n : Nat} (hA : 1 ≤ A) (hn : 1 ≤ n ∧ n < 25) : sm (fun k => P (k % A) * b (k % n)) (Nat.lcm A n) = sm (fun a => P a * sm (fun u => if u % Nat.gcd A n = a % Nat.gcd A n then b u else 0) n) A := by
  have gp := Nat.gcd_pos_of_pos_left n (show 0 < A by omega)
  have el : Nat.lcm A n = A * (n / Nat.gcd A n) := by
    unfold Nat.lcm
    rw [Nat.mul_div_assoc _ (Nat.gcd_dvd_right A n)]
  rw [el, sm_bl]
  have e1 : sm (fun q => sm (fun a => P ((A * q + a) % A) * b ((A * q + a) % n)) A) (n / Nat.gcd A n) = sm (fun q => sm (fun a => P a * b ((A * q + a) % n)) A) (n / Nat.gcd A n) := sm_cg _ (fun q _ => sm_cg _ (fun a ha => by rw [Nat.mul_add_mod, Nat.mod_eq_of_lt ha]))
  rw [e1, sm_ex]
  refine sm_cg _ (fun a _ => ?_)
  rw [sm_mull]
  congr 1
  have e2 : sm (fun q => b ((A * q + a) % n)) (n / Nat.gcd A n) = sm (fun q => sm (fun u => if u = (A * q + a) % n then b u else 0) n) (n / Nat.gcd A n) := sm_cg _ (fun q _ => by rw [sm_one, if_pos (Nat.mod_lt _ (by omega))])
  rw [e2, sm_ex]
  refine sm_cg _ (fun u hu => ?_)
  have e3 : sm (fun q => if u = (A * q + a) % n then b u else 0) (n / Nat.gcd A n) = sm (fun q => (if (A * q + a) % n = u then 1 else 0) * b u) (n / Nat.gcd A n) := sm_cg _ (fun q _ => by
    by_cases c : (A * q + a) % n = u
    · rw [if_pos c, if_pos c.symm, Nat.one_mul]
    · rw [if_neg c, if_neg (fun x => c x.symm), Nat.zero_mul])
  rw [e3, sm_mulr, ct_hit hA hn hu]
  by_cases c : u % Nat.gcd A n = a % Nat.gcd A n
  · rw [if_pos c, if_pos c, Nat.one_mul]
  · rw [if_neg c, if_neg c, Nat.zero_mul]
theorem dv_lcm {x a b : Nat} (hx : 0 < x) (h : x ∣ Nat.lcm a b) : x ∣ Nat.lcm (Nat.gcd x a) (Nat.gcd x b) := by
  have gp : 0 < Nat.gcd (Nat.gcd x a) (Nat.gcd x b) := Nat.gcd_pos_of_pos_left _ (Nat.gcd_pos_of_pos_left a hx)
  have gu := Nat.gcd_dvd_left (Nat.gcd x a) (Nat.gcd x b)
  have gv := Nat.gcd_dvd_right (Nat.gcd x a) (Nat.gcd x b)
  have k1 : x * Nat.gcd (Nat.gcd x a) (Nat.gcd x b) ∣ x * Nat.gcd x b := Nat.mul_dvd_mul_left x gv
  have k2 : x * Nat.gcd (Nat.gcd x a) (Nat.gcd x b) ∣ a * x := by
    rw [Nat.mul_comm a x]
    exact Nat.mul_dvd_mul_left x (Nat.dvd_trans gu (Nat.gcd_dvd_right x a))
  have k3 : x * Nat.gcd (Nat.gcd x a) (Nat.gcd x b) ∣ a * b := by
    rw [← Nat.gcd_mul_lcm a b, Nat.mul_comm]
    exact Nat.mul_dvd_mul (Nat.dvd_gcd (Nat.dvd_trans gu (Nat.gcd_dvd_right x a)) (Nat.dvd_trans gv (Nat.gcd_dvd_right x b))) h
  have k4 : x * Nat.gcd (Nat.gcd x a) (Nat.gcd x b) ∣ a * Nat.gcd x b := by
    have g := Nat.dvd_gcd k2 k3
    rw [Nat.gcd_mul_left a x b] at g
    exact g
  have k5 : x * Nat.gcd (Nat.gcd x a) (Nat.gcd x b) ∣ Nat.gcd x a * Nat.gcd x b := by
    rw [← Nat.gcd_mul_right]
    exact Nat.dvd_gcd k1 k4
  rw [← Nat.gcd_mul_lcm (Nat.gcd x a) (Nat.gcd x b), Nat.mul_comm x] at k5
  exact Nat.dvd_of_mul_dvd_mul_left gp k5
def lcT (T : Nat) (n : Nat → Nat) : Nat → Nat
  | 0 => T
  | i + 1 => Nat.lcm (lcT T n i) (n i)
theorem lcT_pos {T : Nat} {n : Nat → Nat} (hT : 1 ≤ T) : ∀ m : Nat, (∀ k : Nat, k < m → 1 ≤ n k) → 1 ≤ lcT T n m
  | 0, _ => hT
  | m + 1, h => Nat.lcm_pos (lcT_pos hT m (fun k hk => h k (by omega))) (h m (by omega))
theorem lcT_T {T : Nat} {n : Nat → Nat} : ∀ m : Nat, T ∣ lcT T n m
  | 0 => Nat.dvd_refl T
  | m + 1 => Nat.dvd_trans (lcT_T m) (Nat.dvd_lcm_left _ _)
theorem lcT_n {T : Nat} {n : Nat → Nat} : ∀ m k : Nat, k < m → n k ∣ lcT T n m
  | 0, k, h => absurd h (Nat.not_lt_zero k)
  | m + 1, k, h => by
    by_cases c : k = m
    · rw [c]
      exact Nat.dvd_lcm_right _ _
    · exact Nat.dvd_trans (lcT_n m k (by omega)) (Nat.dvd_lcm_left _ _)
theorem lcT_d {T R : Nat} {n : Nat → Nat} (hT : ∀ i j : Nat, i < j → j < R → Nat.gcd (n i) (n j) ∣ T) {m : Nat} (hm : m < R) : ∀ (j d : Nat), j ≤ m → 0 < d → d ∣ n m → d ∣ lcT T n j → d ∣ T
  | 0, d, _, _, _, h => h
  | j + 1, d, hj, d0, d1, h => by
    have s := dv_lcm d0 h
    have a := lcT_d hT hm j (Nat.gcd d (lcT T n j)) (by omega) (Nat.gcd_pos_of_pos_left _ d0) (Nat.dvd_trans (Nat.gcd_dvd_left _ _) d1) (Nat.gcd_dvd_right _ _)
    have b : Nat.gcd d (n j) ∣ T := Nat.dvd_trans (Nat.dvd_gcd (Nat.gcd_dvd_right _ _) (Nat.dvd_trans (Nat.gcd_dvd_left _ _) d1)) (hT j m (by omega) hm)
    exact Nat.dvd_trans s (Nat.lcm_dvd a b)
def cnt (B : Nat → Nat → Nat) (n : Nat → Nat) (T i t : Nat) : Nat := sm (fun u => if u % Nat.gcd (n i) T = t % Nat.gcd (n i) T then B i u else 0) (n i)
theorem often_t {B : Nat → Nat → Nat} {n : Nat → Nat} {T R t : Nat} (hT0 : 1 ≤ T) (hT : ∀ i j : Nat, i < j → j < R → Nat.gcd (n i) (n j) ∣ T) (hn : ∀ k : Nat, k < R → 1 ≤ n k ∧ n k < 25) (ht : t < T) : ∀ m : Nat, m ≤ R → sm (fun k => (if k % T = t then 1 else 0) * pr (fun i => B i (k % n i)) m) (lcT T n m) = pr (fun i => cnt B n T i t) m
  | 0, _ => by
    show sm (fun k => (if k % T = t then 1 else 0) * 1) T = 1
    have e : sm (fun k => (if k % T = t then 1 else 0) * 1) T = sm (fun k => if k = t then 1 else 0) T := sm_cg T (fun k hk => by rw [Nat.mod_eq_of_lt hk, Nat.mul_one])
    rw [e, sm_one (y := fun _ => 1), if_pos ht]
  | m + 1, hm => by
    have ih := often_t (B := B) hT0 hT hn ht m (by omega)
    obtain ⟨n1, n2⟩ := hn m (by omega)
    have Ap : 1 ≤ lcT T n m := lcT_pos hT0 m (fun k hk => (hn k (by omega)).1)
    have TA := lcT_T (T := T) (n := n) m
    have e1 : sm (fun k => (if k % T = t then 1 else 0) * pr (fun i => B i (k % n i)) (m + 1)) (lcT T n (m + 1)) = sm (fun k => (fun a => (if a % T = t then 1 else 0) * pr (fun i => B i (a % n i)) m) (k % lcT T n m) * B m (k % n m)) (Nat.lcm (lcT T n m) (n m)) := by
      refine sm_cg _ (fun k _ => ?_)
      show (if k % T = t then 1 else 0) * (pr (fun i => B i (k % n i)) m * B m (k % n m)) = ((if k % lcT T n m % T = t then 1 else 0) * pr (fun i => B i (k % lcT T n m % n i)) m) * B m (k % n m)
      rw [Nat.mod_mod_of_dvd k TA, Nat.mul_assoc]
      congr 2
      exact pr_cg m (fun i hi => by rw [Nat.mod_mod_of_dvd k (lcT_n m i hi)])
    rw [e1]
    refine (crt_sm (P := fun a => (if a % T = t then 1 else 0) * pr (fun i => B i (a % n i)) m) (b := B m) Ap ⟨n1, n2⟩).trans ?_
    have gT : Nat.gcd (lcT T n m) (n m) = Nat.gcd (n m) T := by
      refine Nat.dvd_antisymm ?_ ?_
      · have d := lcT_d hT (by omega) m (Nat.gcd (lcT T n m) (n m)) (Nat.le_refl m) (Nat.gcd_pos_of_pos_left _ Ap) (Nat.gcd_dvd_right _ _) (Nat.gcd_dvd_left _ _)
        exact Nat.dvd_gcd (Nat.gcd_dvd_right _ _) d
      · exact Nat.dvd_gcd (Nat.dvd_trans (Nat.gcd_dvd_right _ _) TA) (Nat.gcd_dvd_left _ _)
    have e2 : sm (fun a => ((if a % T = t then 1 else 0) * pr (fun i => B i (a % n i)) m) * sm (fun u => if u % Nat.gcd (lcT T n m) (n m) = a % Nat.gcd (lcT T n m) (n m) then B m u else 0) (n m)) (lcT T n m) = sm (fun a => ((if a % T = t then 1 else 0) * pr (fun i => B i (a % n i)) m) * cnt B n T m t) (lcT T n m) := by
      refine sm_cg _ (fun a _ => ?_)
      by_cases c : a % T = t
      · rw [if_pos c, gT]
        have em : a % Nat.gcd (n m) T = t % Nat.gcd (n m) T := by rw [← c, Nat.mod_mod_of_dvd a (Nat.gcd_dvd_right _ _)]
        rw [em]
        rfl
      · rw [if_neg c, Nat.zero_mul, Nat.zero_mul, Nat.zero_mul]
    refine e2.trans ?_
    rw [sm_mulr, ih]
    rfl
theorem often_eq {B : Nat → Nat → Nat} {n : Nat → Nat} {T R : Nat} (hT0 : 1 ≤ T) (hT : ∀ i j : Nat, i < j → j < R → Nat.gcd (n i) (n j) ∣ T) (hn : ∀ k : Nat, k < R → 1 ≤ n k ∧ n k < 25) (hL : T ∣ lcR n R) : sm (fun k => pr (fun i => B i (k % n i)) R) (lcR n R) = sm (fun t => pr (fun i => cnt B n T i t) R) T := by
  have eL : lcT T n R = lcR n R := by
    have a : ∀ m : Nat, m ≤ R → lcR n m ∣ lcT T n m := fun m => by
      induction m with
      | zero => intro _; exact Nat.one_dvd _
      | succ m ih => intro hm; exact Nat.lcm_dvd (Nat.dvd_trans (ih (by omega)) (Nat.dvd_lcm_left _ _)) (Nat.dvd_lcm_right _ _)
    have b0 : ∀ m k : Nat, k < m → n k ∣ lcR n m := fun m => by
      induction m with
      | zero => intro k hk; exact absurd hk (Nat.not_lt_zero k)
      | succ m ih =>
        intro k hk
        by_cases c : k = m
        · rw [c]
          exact Nat.dvd_lcm_right _ _
        · exact Nat.dvd_trans (ih k (by omega)) (Nat.dvd_lcm_left _ _)
    have b : ∀ m : Nat, m ≤ R → lcT T n m ∣ lcR n R := fun m => by
      induction m with
      | zero => intro _; exact hL
      | succ m ih => intro hm; exact Nat.lcm_dvd (ih (by omega)) (b0 R m (by omega))
    exact Nat.dvd_antisymm (b R (Nat.le_refl R)) (a R (Nat.le_refl R))
  have e1 : sm (fun k => pr (fun i => B i (k % n i)) R) (lcR n R) = sm (fun k => sm (fun t => (if k % T = t then 1 else 0) * pr (fun i => B i (k % n i)) R) T) (lcR n R) := by
    refine sm_cg _ (fun k _ => ?_)
    rw [sm_mulr]
    have e : sm (fun t => if k % T = t then 1 else 0) T = 1 := by
      have e2 : sm (fun t => if k % T = t then 1 else 0) T = sm (fun t => if t = k % T then 1 else 0) T := sm_cg T (fun t _ => by
        by_cases c : k % T = t
        · rw [if_pos c, if_pos c.symm]
        · rw [if_neg c, if_neg (fun x => c x.symm)])
      rw [e2, sm_one (y := fun _ => 1), if_pos (Nat.mod_lt k (by omega))]
    rw [e, Nat.one_mul]
  rw [e1, sm_ex]
  refine sm_cg _ (fun t ht => ?_)
  rw [← eL]
  exact often_t hT0 hT hn ht R (Nat.le_refl R)
end zz47zj_count
section zz47zk_often
/-! meetings: how often, the class's -/
theorem sm_sk {b : Nat → Nat} {g c u : Nat} (hu : u % g = c) : ∀ n : Nat, u < n → n ≤ u + g → sm (fun v => if v % g = c then b v else 0) n = sm (fun v => if v % g = c then b v else 0) u + b u
  | 0, h, _ => absurd h (Nat.not_lt_zero u)
  | n + 1, h, h2 => by
    show sm (fun v => if v % g = c then b v else 0) n + (if n % g = c then b n else 0) = _
    by_cases e : n = u
    · subst e
      rw [if_pos hu]
    · have ne : ¬ n % g = c := fun x => by
        have d := Nat.sub_mod_eq_zero_of_mod_eq (x.trans hu.symm)
        have z := Nat.le_of_dvd (by omega) (Nat.dvd_of_mod_eq_zero d)
        omega
      rw [if_neg ne, Nat.add_zero]
      exact sm_sk hu n (by omega) (by omega)
theorem sm_sk0 {b : Nat → Nat} {g c : Nat} (hc : c < g) (n : Nat) (hn : n ≤ c) : sm (fun v => if v % g = c then b v else 0) n = 0 := sm_0 n (fun v hv => if_neg (by rw [Nat.mod_eq_of_lt (by omega)]; omega))
def bC (M : zM) (i u : Nat) : Nat := (bt (M 59 i) (u : Int)).toNat
theorem bC_b (M : zM) (i u : Nat) : bC M i u ≤ 1 ∧ ((bC M i u : Nat) : Int) = bt (M 59 i) (u : Int) := by
  have b := bt_b (M 59 i) (u : Int)
  unfold bC
  omega
theorem sm_le {f : Nat → Nat} {c : Nat} (h : ∀ k : Nat, f k ≤ c) : ∀ n : Nat, sm f n ≤ n * c
  | 0 => by rw [Nat.zero_mul]; exact Nat.le_refl 0
  | n + 1 => by
    have a := sm_le h n
    have b := h n
    show sm f n + f n ≤ (n + 1) * c
    rw [Nat.add_mul, Nat.one_mul]
    omega
theorem pr_le {f : Nat → Nat} (h : ∀ k : Nat, f k ≤ 1) : ∀ n : Nat, pr f n ≤ 1
  | 0 => Nat.le_refl 1
  | n + 1 => by
    have a := pr_le h n
    have b := h n
    show pr f n * f n ≤ 1
    exact Nat.le_trans (Nat.mul_le_mul a b) (Nat.le_refl 1)
theorem fC_turnsAlike {M : zM} {i t g n : Nat} {a1 a2 : Int} (hi : i < 4) (h58 : M 58 i = (n : Int)) (hn : n ≤ 24) (hg : 1 ≤ g ∧ g ≤ 24) (ht : t ≤ 1000000) (e1 : a1 = (t : Int)) (e2 : a2 = (g : Int)) {Q : Int → Prop} (hQ : Q ((sm (fun u => if u % g = t % g then bC M i u else 0) n : Nat) : Int)) : wC_Meeting_turnsAlike (i : Int) a1 a2 M Q := by
  unfold wC_Meeting_turnsAlike
  rw [e1, e2, sIo (z := (t : Int)) (by omega) (by omega)]
  refine fC_by (by omega) (by omega) ?_
  have em : (t : Int) % (g : Int) = ((t % g : Nat) : Int) := (Int.natCast_emod t g).symm
  have lt := Nat.mod_lt t (show g > 0 by omega)
  rw [em, sIo (z := (i : Int)) (by omega) (by omega), show ((i : Int)).toNat = i by omega, h58, sIo (z := (n : Int)) (by omega) (by omega), sIo (z := (g : Int)) (by omega) (by omega)]
  refine pL2_of (fun x y => ∃ u : Nat, y = (u : Int) ∧ u % g = t % g ∧ u < n + g + 24 ∧ x = ((sm (fun v => if v % g = t % g then bC M i v else 0) (min u n) : Nat) : Int)) (fun _ y => (1000 - y).toNat) ⟨t % g, rfl, Nat.mod_mod t g, by omega, by rw [sm_sk0 lt _ (by omega)]; rfl⟩ (fun K x y h k => ?_)
  obtain ⟨u, rfl, u1, u2, rfl⟩ := h
  have sb := sm_le (f := fun v => if v % g = t % g then bC M i v else 0) (c := 1) (fun v => by
    have := (bC_b M i v).1
    split <;> omega) (min u n)
  rw [sIo (z := (u : Int)) (by omega) (by omega), sIo (z := ((sm (fun v => if v % g = t % g then bC M i v else 0) (min u n) : Nat) : Int)) (by omega) (by omega)]
  refine ⟨by omega, fun c => by rw [show min u n = n by omega]; exact hQ, fun c => ⟨by omega, fun w e => ?_⟩⟩
  have sk := sm_sk (b := bC M i) u1 (min (u + g) n) (by omega) (by omega)
  have mu : min u n = u := by omega
  have bb := (bC_b M i u).2
  have e : w = ((sm (fun v => if v % g = t % g then bC M i v else 0) (min u n) : Nat) : Int) + bt (M 59 i) (u : Int) := e
  rw [show (u : Int) + max 1 (g : Int) = ((u + g : Nat) : Int) by omega]
  refine k _ _ ⟨u + g, rfl, by rw [Nat.add_mod_right]; exact u1, by omega, ?_⟩ (by omega)
  rw [e, sk, mu]
  omega
theorem lcR_n {n : Nat → Nat} : ∀ m k : Nat, k < m → n k ∣ lcR n m
  | 0, k, h => absurd h (Nat.not_lt_zero k)
  | m + 1, k, h => by
    by_cases c : k = m
    · rw [c]
      exact Nat.dvd_lcm_right _ _
    · exact Nat.dvd_trans (lcR_n m k (by omega)) (Nat.dvd_lcm_left _ _)
set_option maxHeartbeats 2000000 in
theorem fC_sharedTicks {M : zM} {n : Nat → Nat} {R : Nat} (hR : R ≤ 4) (h0 : M 57 0 = (R : Int)) (hf : ∀ r : Nat, r < R → M 58 r = ((n r : Nat) : Int) ∧ 1 ≤ n r ∧ n r ≤ 24) {Q : Int → Prop} (hQ : ∀ T : Nat, 1 ≤ T → T ∣ lcR n R → (∀ i j : Nat, i < j → j < R → Nat.gcd (n i) (n j) ∣ T) → Q (T : Int)) : wC_Meeting_sharedTicks M Q := by
  unfold wC_Meeting_sharedTicks
  have bL := lcR_4 hR (fun k hk => (hf k hk).2)
  rw [h0, sIo (z := (R : Int)) (by omega) (by omega)]
  refine pL2_of (fun x y => ∃ i T : Nat, y = (i : Int) ∧ i ≤ R ∧ x = (T : Int) ∧ 1 ≤ T ∧ T ∣ lcR n R ∧ ∀ a b : Nat, a < i → a < b → b < R → Nat.gcd (n a) (n b) ∣ T) (fun _ y => (1000 - y).toNat) ⟨0, 1, rfl, by omega, rfl, by omega, Nat.one_dvd _, fun a b h => absurd h (Nat.not_lt_zero a)⟩ (fun K x y h k => ?_)
  obtain ⟨i, T, rfl, hi, rfl, T1, T2, T3⟩ := h
  have Tb := Nat.le_of_dvd (by omega) T2
  rw [sIo (z := (i : Int)) (by omega) (by omega), sIo (z := (T : Int)) (by omega) (by omega)]
  refine ⟨fun c => hQ T T1 T2 (fun a b h1 h2 => T3 a b (by omega) h1 h2), fun c => ?_⟩
  refine pL2_of (fun x y => ∃ j S : Nat, y = (j : Int) ∧ i < j ∧ j ≤ R ∧ x = (S : Int) ∧ 1 ≤ S ∧ S ∣ lcR n R ∧ T ∣ S ∧ ∀ b : Nat, i < b → b < j → Nat.gcd (n i) (n b) ∣ S) (fun _ y => (1000 - y).toNat) ⟨i + 1, T, by omega, by omega, by omega, rfl, T1, T2, Nat.dvd_refl T, fun b h1 h2 => by omega⟩ (fun K3 x y h3 k3 => ?_)
  obtain ⟨j, S, rfl, j1, j2, rfl, S1, S2, S3, S4⟩ := h3
  have Sb := Nat.le_of_dvd (by omega) S2
  rw [sIo (z := (j : Int)) (by omega) (by omega)]
  refine ⟨fun c3 => k _ _ ⟨i + 1, S, by omega, by omega, rfl, S1, S2, fun a b h1 h2 h4 => ?_⟩ (by omega), fun c3 => ⟨by omega, by omega, ?_⟩⟩
  · by_cases c5 : a = i
    · rw [c5]
      exact S4 b (by omega) (by omega)
    · exact Nat.dvd_trans (T3 a b (by omega) h2 h4) S3
  · obtain ⟨a1, a2, a3⟩ := hf i (by omega)
    obtain ⟨b1, b2, b3⟩ := hf j (by omega)
    rw [show ((i : Int)).toNat = i by omega, show ((j : Int)).toNat = j by omega, a1, b1, sIo (z := ((n j : Nat) : Int)) (by omega) (by omega)]
    refine fC_greatestDivisor (n := n i) rfl (by omega) (by omega) ?_
    rw [Int.natAbs_natCast]
    have gp := Nat.gcd_pos_of_pos_left (n j) (show 0 < n i by omega)
    have gl := Nat.le_of_dvd (by omega) (Nat.gcd_dvd_left (n i) (n j))
    unfold wC_leastMultiple
    refine fC_withoutShared (n := Nat.gcd (n i) (n j)) rfl (by omega) (by omega) ?_
    have gL : Nat.gcd (n i) (n j) ∣ lcR n R := Nat.dvd_trans (Nat.gcd_dvd_left _ _) (lcR_n R i (by omega))
    have nL : Nat.lcm S (Nat.gcd (n i) (n j)) ∣ lcR n R := Nat.lcm_dvd S2 gL
    have nb := Nat.le_of_dvd (by omega) nL
    rw [← Int.natCast_mul, lcm_rd S1 gp, sLo (z := ((Nat.lcm S (Nat.gcd (n i) (n j)) : Nat) : Int)) (by omega) (by omega)]
    refine k3 _ _ ⟨j + 1, Nat.lcm S (Nat.gcd (n i) (n j)), by omega, by omega, by omega, rfl, Nat.lcm_pos S1 gp, nL, Nat.dvd_trans S3 (Nat.dvd_lcm_left _ _), fun b h1 h2 => ?_⟩ (by omega)
    by_cases c5 : b = j
    · rw [c5]
      exact Nat.dvd_lcm_right _ _
    · exact Nat.dvd_trans (S4 b h1 (by omega)) (Nat.dvd_lcm_left _ _)
/-- at how many of all ticks -/
def ofN (B : Nat → Nat → Nat) (n : Nat → Nat) (R : Nat) : Nat := sm (fun k => pr (fun i => B i (k % n i)) R) (lcR n R)
set_option maxHeartbeats 2000000 in
theorem fC_howOften {M : zM} {n : Nat → Nat} {R : Nat} (hR : R ≤ 4) (h0 : M 57 0 = (R : Int)) (hf : ∀ r : Nat, r < R → M 58 r = ((n r : Nat) : Int) ∧ 1 ≤ n r ∧ n r ≤ 24) {Q : Int → Prop} (hQ : Q ((ofN (bC M) n R : Nat) : Int)) : wC_Meeting_howOften M Q := by
  unfold wC_Meeting_howOften
  have bL := lcR_4 hR (fun k hk => (hf k hk).2)
  refine fC_sharedTicks hR h0 hf (fun T T1 T2 T3 => ?_)
  have Tb := Nat.le_of_dvd (by omega) T2
  have eq := often_eq (B := bC M) T1 T3 (fun k hk => ⟨(hf k hk).2.1, by have := (hf k hk).2.2; omega⟩) T2
  have le : ofN (bC M) n R ≤ lcR n R * 1 := sm_le (fun k => pr_le (fun i => (bC_b M i (k % n i)).1) R) _
  rw [h0, sIo (z := (R : Int)) (by omega) (by omega)]
  refine pL2_of (fun x y => ∃ t : Nat, y = (t : Int) ∧ t ≤ T ∧ x = ((sm (fun t => pr (fun i => cnt (bC M) n T i t) R) t : Nat) : Int)) (fun _ y => (1000000 - y).toNat) ⟨0, rfl, by omega, rfl⟩ (fun K x y h k => ?_)
  obtain ⟨t, rfl, ht, rfl⟩ := h
  rw [sIo (z := (t : Int)) (by omega) (by omega)]
  refine ⟨fun c => ?_, fun c => ?_⟩
  · have et : t = T := by omega
    have e : sm (fun t => pr (fun i => cnt (bC M) n T i t) R) t = ofN (bC M) n R := by rw [et]; exact eq.symm
    rw [e, sLo (z := ((ofN (bC M) n R : Nat) : Int)) (by omega) (by omega)]
    exact hQ
  · refine pL2_of (fun x y => ∃ i : Nat, y = (i : Int) ∧ i ≤ R ∧ x = ((pr (fun i => cnt (bC M) n T i t) i : Nat) : Int)) (fun _ y => (1000 - y).toNat) ⟨0, rfl, by omega, rfl⟩ (fun K3 x y h3 k3 => ?_)
    obtain ⟨i, rfl, hi, rfl⟩ := h3
    rw [sIo (z := (i : Int)) (by omega) (by omega)]
    refine ⟨fun c3 => ?_, fun c3 => ⟨by omega, ?_⟩⟩
    · rw [show i = R by omega, ← Int.natCast_add]
      exact k _ _ ⟨t + 1, by omega, by omega, rfl⟩ (ms_lt (by omega) rfl)
    · obtain ⟨a1, a2, a3⟩ := hf i (by omega)
      rw [show ((i : Int)).toNat = i by omega, a1]
      refine fC_greatestDivisor (n := n i) rfl (by omega) (by omega) ?_
      rw [Int.natAbs_natCast]
      have gp := Nat.gcd_pos_of_pos_left T (show 0 < n i by omega)
      have gl := Nat.le_of_dvd (by omega) (Nat.gcd_dvd_left (n i) T)
      refine fC_turnsAlike (n := n i) (t := t) (by omega) a1 a3 ⟨gp, by omega⟩ (by omega) rfl rfl ?_
      rw [← Int.natCast_mul]
      exact k3 _ _ ⟨i + 1, by omega, by omega, rfl⟩ (by omega)
theorem fC_often {M : zM} (hB : BN wC M) (hu : ∀ r : Nat, (r : Int) < M 32 2 → uok M r) {Q : Int → zM → Prop} (hQ : ∀ (z : Int) (M1 : zM), BN wC M1 ∧ (∀ j9 : Nat, ¬ (57 ≤ j9 ∧ j9 ≤ 59) → M1 j9 = M j9) ∧ z = ((ofN (fun i u => (gC M (stC M + (u : Int)) i).toNat) (rdC M) (M 32 2).toNat : Nat) : Int) → Q z M1) : wC_often M Q := by
  unfold wC_often
  have bn : 0 ≤ M 32 2 ∧ M 32 2 ≤ 4 := BN.at hB (rfl : zcd wC 32 = 8) rfl
  refine fC_look hB hu (fun M1 h1 => ?_)
  obtain ⟨b1, f1, c1, s1, r1, t1⟩ := h1
  have rb : ∀ r : Nat, r < (M 32 2).toNat → 1 ≤ rdC M r ∧ rdC M r ≤ 24 := fun r hr => rdC_b hB (by omega) (hu r (by omega))
  refine fC_howOften (n := rdC M) (R := (M 32 2).toNat) (by omega) (by omega) (fun r hr => ⟨r1 r (by omega), rb r hr⟩) ?_
  refine hQ _ _ ⟨b1, f1, ?_⟩
  have e : ofN (bC M1) (rdC M) (M 32 2).toNat = ofN (fun i u => (gC M (stC M + (u : Int)) i).toNat) (rdC M) (M 32 2).toNat := by
    unfold ofN
    refine sm_cg _ (fun k _ => pr_cg _ (fun i hi => ?_))
    have rr := rb i hi
    have lt := Nat.mod_lt k (show rdC M i > 0 by omega)
    have h := bt_trB (b := fun t => gC M (stC M + (t : Int)) i) (t := k % rdC M i) (by omega) (rdC M i) (by omega)
    rw [← t1 i (by omega)] at h
    have bb := bt_b (M1 59 i) ((k % rdC M i : Nat) : Int)
    unfold bC
    show (bt (M1 59 i) ((k % rdC M i : Nat) : Int)).toNat = (gC M (stC M + ((k % rdC M i : Nat) : Int)) i).toNat
    by_cases c : gC M (stC M + ((k % rdC M i : Nat) : Int)) i = 1
    · rw [c, h.mpr ⟨lt, c⟩]
    · have g0 : gC M (stC M + ((k % rdC M i : Nat) : Int)) i = 0 := by
        unfold gC at c ⊢
        split
        · rename_i x
          rw [if_pos x] at c
          exact absurd rfl c
        · rfl
      have n1 : ¬ bt (M1 59 i) ((k % rdC M i : Nat) : Int) = 1 := fun x => c (h.mp x).2
      rw [g0, show bt (M1 59 i) ((k % rdC M i : Nat) : Int) = 0 by omega]
  rw [e]
end zz47zk_often
section zz47zl_roften
/-! meetings: how often, the model's -/
def hvG (M : zM) (t : Int) (r : Nat) : Int := orU (M 7 r) (fun k => M 3 (24 * r + k)) (lenR M r) ((M 6 r + wbF (M 11 (M 5 r).toNat) (fun i => M 9 (12 * (M 5 r).toNat + i)) (fun i => M 10 (12 * (M 5 r).toNat + i)) t ((lenR M r : Nat) : Int)) % ((lenR M r : Nat) : Int)).toNat 24
theorem hvR_G {M : zM} {t z : Int} {r : Nat} (hB : BI M) (h : hvR M t r z) : z = hvG M t r := by
  obtain ⟨n, w, w1, w2, w3⟩ := h
  have b11 : 0 ≤ M 11 (M 5 r).toNat ∧ M 11 (M 5 r).toNat ≤ 12 := BN.at hB.1 (rfl : zcd wR 11 = 61) rfl
  have en : lenR M r = n := by unfold lenR; omega
  rw [w3, wbR_F b11.1 w2]
  unfold hvG
  rw [en]
def gR (M : zM) (t : Int) (r : Nat) : Nat := if andI (hvG M t r) (M 8 r) = M 8 r then 1 else 0
theorem gR_b (M : zM) (t : Int) (r : Nat) : gR M t r ≤ 1 := by
  unfold gR
  split <;> omega
def cgR (M M2 : zM) : Prop := ∀ p q : Nat, 3 ≤ p → p ≤ 11 → M2 p q = M p q
theorem gR_cg {M M2 : zM} (f : cgR M M2) (t : Int) (r : Nat) : gR M2 t r = gR M t r := by
  unfold gR hvG lenR
  rw [f 4 r (by omega) (by omega), f 5 r (by omega) (by omega), f 6 r (by omega) (by omega), f 7 r (by omega) (by omega), f 8 r (by omega) (by omega), f 11 _ (by omega) (by omega), show M2 9 = M 9 from funext fun q => f 9 q (by omega) (by omega), show M2 10 = M 10 from funext fun q => f 10 q (by omega) (by omega), show M2 3 = M 3 from funext fun q => f 3 q (by omega) (by omega)]
theorem and_sub {w h : Int} (hw : -2147483648 ≤ w ∧ w ≤ 2147483647) : andI w (xorI h (-1)) = 0 ↔ andI h w = w := by
  have e1 : (iI (-1)).toBitVec = BitVec.allOnes 32 := by decide
  have key : iI w &&& (iI h ^^^ iI (-1)) = 0 ↔ iI h &&& iI w = iI w := by
    rw [← Int32.toBitVec_inj, ← Int32.toBitVec_inj, Int32.toBitVec_and, Int32.toBitVec_and, Int32.toBitVec_xor, e1, show (0 : Int32).toBitVec = 0#32 from rfl]
    generalize (iI w).toBitVec = a
    generalize (iI h).toBitVec = b
    constructor
    · intro e
      refine BitVec.eq_of_getLsbD_eq (fun i hi => ?_)
      have x := congrArg (fun v : BitVec 32 => v.getLsbD i) e
      simp only [BitVec.getLsbD_and, BitVec.getLsbD_xor, BitVec.getLsbD_allOnes, BitVec.getLsbD_zero, hi, decide_true] at x ⊢
      cases ha : a.getLsbD i <;> cases hb : b.getLsbD i <;> simp_all
    · intro e
      refine BitVec.eq_of_getLsbD_eq (fun i hi => ?_)
      have x := congrArg (fun v : BitVec 32 => v.getLsbD i) e
      simp only [BitVec.getLsbD_and, BitVec.getLsbD_xor, BitVec.getLsbD_allOnes, BitVec.getLsbD_zero, hi, decide_true] at x ⊢
      cases ha : a.getLsbD i <;> cases hb : b.getLsbD i <;> simp_all
  constructor
  · intro e
    have e2 : iI w &&& (iI h ^^^ iI (-1)) = 0 := Int32.toInt_inj.mp (by
      rw [show (0 : Int32).toInt = 0 from rfl, ← e]
      unfold andI xorI
      rw [iI_e])
    unfold andI
    rw [key.mp e2]
    exact iI_t hw
  · intro e
    have e2 : iI h &&& iI w = iI w := Int32.toInt_inj.mp (by
      rw [iI_t hw]
      exact e)
    unfold andI xorI
    rw [iI_e, key.mpr e2]
    rfl
theorem g_det {MC MR : zM} {t : Int} {r : Nat} (hC : BN wC MC) (hR : iRi MC MR) (hM : iMo (MC 35) (MC 36) (MC 37) (MC 38) (MC 39) (MC 40) (MR 9) (MR 10) (MR 11)) (hr : (r : Int) < MC 32 2) : gC MC t r = ((gR MR t r : Nat) : Int) := by
  obtain ⟨n, a1, a2, a3, a4, a5, a6, a7, a8, a9, a10, a11⟩ := hR.2.2 r hr
  have r4 : r < 4 := by have := hR.2.1; omega
  obtain ⟨g1, g2, -⟩ := rg_cd r r4
  have bm : 0 ≤ MC (41 + 4 * r) 1 ∧ MC (41 + 4 * r) 1 ≤ 1 := BN.at hC g2 rfl
  have hmo := mo_of hM rfl rfl rfl rfl rfl rfl (m := MC (41 + 4 * r) 1) bm
  obtain ⟨-, bT⟩ := jS_b hC (MC (41 + 4 * r) 1)
  have bw := BN.r32 hC (41 + 4 * r) 4
  have lC : lenC MC r = n := by unfold lenC; omega
  have lR : lenR MR r = n := by unfold lenR; omega
  have eh : hvF MC t r = hvG MR t r := by
    unfold hvF hvG
    rw [lC, lR, a6, ← a8, wbF_cg bT.1 hmo, a5]
    exact orU_cg a1 (fun k hk => a10 k hk) 24
  have s := and_sub (w := MC (41 + 4 * r) 4) (h := hvF MC t r) bw
  unfold gC gR
  rw [← eh, ← a9]
  by_cases c : andI (MC (41 + 4 * r) 4) (xorI (hvF MC t r) (-1)) = 0
  · rw [if_pos c, if_pos (s.mp c)]
    rfl
  · rw [if_neg c, if_neg (fun x => c (s.mpr x))]
    rfl
def stR (M : zM) : Int := max (stI (M 11 0) (fun i => M 9 (12 * 0 + i))) (stI (M 11 1) (fun i => M 9 (12 * 1 + i)))
theorem fR_steady {M : zM} {m : Nat} {a0 : Int} (hB : BI M) (ha : a0 = (m : Int)) (hm : m ≤ 1) {Q : Int → Prop} (hQ : Q (stI (M 11 m) (fun i => M 9 (12 * m + i)))) : wR_steady a0 M Q := by
  unfold wR_steady
  have b : 0 ≤ M 11 m ∧ M 11 m ≤ 12 := BN.at hB.1 (rfl : zcd wR 11 = 61) rfl
  have bt : 0 ≤ M 9 (12 * m + (M 11 m - 1).toNat) ∧ M 9 (12 * m + (M 11 m - 1).toNat) ≤ 5000 := BN.at hB.1 (rfl : zcd wR 9 = 59) rfl
  unfold stI at hQ
  rw [ha, sIo (z := (m : Int)) (by omega) (by omega), show ((m : Int)).toNat = m by omega, sIo (z := M 11 m) (by omega) (by omega)]
  refine ⟨by omega, fun c => ⟨by omega, ?_⟩, fun c => ?_⟩
  · rw [if_neg c] at hQ
    rw [sIo (z := 12 * (m : Int) + M 11 m - 1) (by omega) (by omega), show (12 * (m : Int) + M 11 m - 1).toNat = 12 * m + (M 11 m - 1).toNat by omega, sIo (z := M 9 (12 * m + (M 11 m - 1).toNat)) (by omega) (by omega)]
    exact ⟨by omega, hQ⟩
  · rw [if_pos c] at hQ
    exact hQ
theorem fR_steadyAll {M : zM} (hB : BI M) {Q : Int → Prop} (hQ : Q (stR M)) : wR_steadyAll M Q := by
  unfold wR_steadyAll
  refine fR_steady (m := 0) hB rfl (by omega) ?_
  refine fR_steady (m := 1) hB rfl (by omega) ?_
  exact hQ
theorem stR_b {M : zM} (hB : BI M) : 0 ≤ stR M ∧ stR M ≤ 5000 := by
  have bt : ∀ i : Nat, 0 ≤ M 9 i ∧ M 9 i ≤ 5000 := fun i => BN.at hB.1 (rfl : zcd wR 9 = 59) rfl
  have a := st_b (n := M 11 0) (T := fun i => M 9 (12 * 0 + i)) (fun i => bt _)
  have b := st_b (n := M 11 1) (T := fun i => M 9 (12 * 1 + i)) (fun i => bt _)
  unfold stR
  omega
theorem stR_cg {M M2 : zM} (f : cgR M M2) : stR M2 = stR M := by
  unfold stR
  rw [f 11 0 (by omega) (by omega), f 11 1 (by omega) (by omega), show M2 9 = M 9 from funext fun q => f 9 q (by omega) (by omega)]
theorem steady_det {MC MR : zM} (hC : BN wC MC) (hM : iMo (MC 35) (MC 36) (MC 37) (MC 38) (MC 39) (MC 40) (MR 9) (MR 10) (MR 11)) : stC MC = stR MR := by
  have m0 := mo_of hM rfl rfl rfl rfl rfl rfl (m := 0) (by omega)
  have m1 := mo_of hM rfl rfl rfl rfl rfl rfl (m := 1) (by omega)
  have b0 : 0 ≤ MC 35 2 ∧ MC 35 2 ≤ 12 := BN.at hC (rfl : zcd wC 35 = 11) rfl
  have b1 : 0 ≤ MC 38 2 ∧ MC 38 2 ≤ 12 := BN.at hC (rfl : zcd wC 38 = 11) rfl
  have e0 := (st_cg b0.1 m0).1
  have e1 := (st_cg b1.1 m1).1
  unfold stC stR
  show max (stI (MC 35 2) (MC (jmo 0 + 1))) (stI (MC 38 2) (MC (jmo 1 + 1))) = _
  rw [e0, e1]
  rfl
set_option maxHeartbeats 2000000 in
theorem fR_findHeard {M : zM} {a0 : Int} (hB : BI M) (hs : 0 ≤ a0 ∧ a0 ≤ 1152921504606846976) {Q : zM → Prop} (hQ : ∀ M1 : zM, BI M1 ∧ (∀ j9 k9 : Nat, ¬ (j9 = 27) → M1 j9 k9 = M j9 k9) ∧ (∀ r u : Nat, (r : Int) < M 0 10 → u < rdR M r → M1 27 (24 * r + u) = ((gR M (a0 + (u : Int)) r : Nat) : Int)) → Q M1) : wR_findHeard a0 M Q := by
  unfold wR_findHeard
  have b10 : 0 ≤ M 0 10 ∧ M 0 10 ≤ 4 := BN.at hB.1 (rfl : zcd wR 0 = 50) rfl
  refine wL1_of (fun x M2 => BI M2 ∧ (∀ j9 k9 : Nat, ¬ (j9 = 27) → M2 j9 k9 = M j9 k9) ∧ ∃ i : Nat, x = (i : Int) ∧ (i : Int) ≤ M 0 10 ∧ ∀ r u : Nat, r < i → u < rdR M r → M2 27 (24 * r + u) = ((gR M (a0 + (u : Int)) r : Nat) : Int)) (fun x _ => (1000 - x).toNat) ⟨hB, fun _ _ _ => rfl, 0, rfl, by omega, fun r u h => absurd h (Nat.not_lt_zero r)⟩ (fun K x M2 h k => ?_)
  obtain ⟨b2, f2, i, rfl, hi, hv⟩ := h
  rw [f2 0 10 (by omega), sIo (z := M 0 10) (by omega) (by omega), sIo (z := (i : Int)) (by omega) (by omega), show ((i : Int)).toNat = i by omega]
  refine ⟨fun c => hQ _ ⟨b2, f2, fun r u hr hu => hv r u (by omega) hu⟩, fun c => ?_⟩
  obtain ⟨n1, n2⟩ := rdR_b hB c
  refine wL1_of (fun x M3 => BI M3 ∧ (∀ j9 k9 : Nat, ¬ (j9 = 27) → M3 j9 k9 = M j9 k9) ∧ ∃ u : Nat, x = (u : Int) ∧ u ≤ rdR M i ∧ (∀ r v : Nat, r < i → v < rdR M r → M3 27 (24 * r + v) = ((gR M (a0 + (v : Int)) r : Nat) : Int)) ∧ ∀ v : Nat, v < u → M3 27 (24 * i + v) = ((gR M (a0 + (v : Int)) i : Nat) : Int)) (fun x _ => (1000 - x).toNat) ⟨b2, f2, 0, rfl, by omega, hv, fun v h => absurd h (Nat.not_lt_zero v)⟩ (fun K3 x M3 h3 k3 => ?_)
  obtain ⟨b3, f3, u, rfl, hu, hv3, hw3⟩ := h3
  have cg3 : cgR M M3 := fun p q h1 h2 => f3 p q (by omega)
  refine fR_round b3 (by rw [f3 0 10 (by omega)]; exact c) ?_
  rw [rdR_cg cg3, sIo (z := (u : Int)) (by omega) (by omega)]
  refine ⟨fun c3 => k _ _ ⟨b3, f3, i + 1, by omega, by omega, fun r v hr hv9 => ?_⟩ (by omega), fun c3 => ?_⟩
  · by_cases c5 : r = i
    · rw [c5] at hv9 ⊢
      exact hw3 v (by omega)
    · exact hv3 r v (by omega) hv9
  · refine fR_heardOf b3 (by rw [f3 0 10 (by omega)]; exact c) (by omega) (fun z hz => ?_)
    have ez : z = hvG M (a0 + (u : Int)) i := hvR_G hB (hvR_cg cg3 hz)
    have w8 := BN.r32 hB.1 8 i
    rw [f3 8 i (by omega), sIo (z := M 8 i) (by omega) (by omega), sIo (z := 24 * (i : Int) + (u : Int)) (by omega) (by omega), show (24 * (i : Int) + (u : Int)).toNat = 24 * i + u by omega]
    have put : ∀ v : Int, v = ((gR M (a0 + (u : Int)) i : Nat) : Int) → ∀ M5 : zM, M5 = zup M3 27 (24 * i + u) v → K3 ((u : Int) + 1) M5 := fun v hv0 M5 e5 => by
      have bb := gR_b M (a0 + (u : Int)) i
      refine k3 _ _ ⟨by rw [e5]; exact BI.up b3 (rfl : zcd wR 27 = 77) rfl (by omega) (by omega) (by decide), fun j9 k9 h9 => by rw [e5, zup_n _ _ (by omega)]; exact f3 j9 k9 h9, u + 1, by omega, by omega, fun r v hr hv9 => ?_, fun v hv9 => ?_⟩ (by omega)
      · have rb := (rdR_b hB (r := r) (by omega)).2
        rw [e5, zup_n _ _ (by omega)]
        exact hv3 r v hr hv9
      · rw [e5]
        by_cases c5 : v = u
        · rw [c5, zup_s]
          exact hv0
        · rw [zup_n _ _ (by omega)]
          exact hw3 v (by omega)
    refine ⟨by omega, by omega, fun c4 => ⟨by omega, put 0 ?_⟩, fun c4 => ⟨by omega, put 1 ?_⟩⟩
    · unfold gR
      rw [← ez, if_neg c4]
      rfl
    · unfold gR
      rw [← ez, if_pos c4]
      rfl
theorem pr_z {f : Nat → Nat} {i : Nat} (h : f i = 0) : ∀ n : Nat, i < n → pr f n = 0
  | 0, hi => absurd hi (Nat.not_lt_zero i)
  | n + 1, hi => by
    show pr f n * f n = 0
    by_cases c : i = n
    · rw [← c, h, Nat.mul_zero]
    · rw [pr_z h n (by omega), Nat.zero_mul]
theorem fR_meetsBehind {M : zM} {B : Nat → Nat → Nat} {a0 : Int} {k : Nat} (hB : BI M) (hk : k ≤ 1000000) (ha : a0 = (k : Int)) (hv : ∀ r u : Nat, (r : Int) < M 0 10 → u < rdR M r → M 27 (24 * r + u) = ((B r u : Nat) : Int) ∧ B r u ≤ 1) {Q : Int → Prop} (hQ : Q ((pr (fun i => B i (k % rdR M i)) (M 0 10).toNat : Nat) : Int)) : wR_meetsBehind a0 M Q := by
  unfold wR_meetsBehind
  have b10 : 0 ≤ M 0 10 ∧ M 0 10 ≤ 4 := BN.at hB.1 (rfl : zcd wR 0 = 50) rfl
  rw [ha, sIo (z := (k : Int)) (by omega) (by omega), sIo (z := M 0 10) (by omega) (by omega)]
  refine pL1_of (fun x => ∃ i : Nat, x = (i : Int) ∧ (i : Int) ≤ M 0 10 ∧ pr (fun i => B i (k % rdR M i)) i = 1) (fun x => (1000 - x).toNat) ⟨0, rfl, by omega, rfl⟩ (fun K x h k3 => ?_)
  obtain ⟨i, rfl, hi, hp⟩ := h
  rw [sIo (z := (i : Int)) (by omega) (by omega)]
  refine ⟨fun c => ?_, fun c => ?_⟩
  · rw [show (M 0 10).toNat = i by omega, hp] at hQ
    exact hQ
  · obtain ⟨n1, n2⟩ := rdR_b hB c
    refine fR_round hB c ⟨by omega, ?_⟩
    have em : (k : Int).tmod ((rdR M i : Nat) : Int) = ((k % rdR M i : Nat) : Int) := by
      rw [Int.tmod_eq_emod_of_nonneg (by omega)]
      exact (Int.natCast_emod _ _).symm
    have lt := Nat.mod_lt k (show rdR M i > 0 by omega)
    obtain ⟨v1, v2⟩ := hv i (k % rdR M i) c lt
    rw [em, sIo (z := 24 * (i : Int) + ((k % rdR M i : Nat) : Int)) (by omega) (by omega), show (24 * (i : Int) + ((k % rdR M i : Nat) : Int)).toNat = 24 * i + k % rdR M i by omega, v1, sIo (z := ((B i (k % rdR M i) : Nat) : Int)) (by omega) (by omega)]
    refine ⟨by omega, fun c2 => k3 _ ⟨i + 1, by omega, by omega, ?_⟩ (by omega), fun c2 => ?_⟩
    · show pr (fun i => B i (k % rdR M i)) i * B i (k % rdR M i) = 1
      rw [hp, show B i (k % rdR M i) = 1 by omega]
    · rw [pr_z (i := i) (show B i (k % rdR M i) = 0 by omega) _ (by omega)] at hQ
      exact hQ
theorem fR_often {M : zM} (hB : BI M) {Q : Int → zM → Prop} (hQ : ∀ (z : Int) (M1 : zM), BI M1 ∧ (∀ j9 k9 : Nat, ¬ (j9 = 0 ∧ k9 = 35 ∨ j9 = 27) → M1 j9 k9 = M j9 k9) ∧ z = ((ofN (fun i u => gR M (stR M + (u : Int)) i) (rdR M) (M 0 10).toNat : Nat) : Int) → Q z M1) : wR_often M Q := by
  unfold wR_often
  intro M1 e1
  have hB1 : BI M1 := by rw [e1]; exact BI.up0 hB (rfl : cbt 50 35 = (-2147483648, 2147483647)) (by omega) (by omega) (by decide)
  have F1 : ∀ j9 k9 : Nat, ¬ (j9 = 0 ∧ k9 = 35) → M1 j9 k9 = M j9 k9 := fun j9 k9 h9 => by rw [e1]; exact zup_n _ _ (by omega)
  have b10 : 0 ≤ M 0 10 ∧ M 0 10 ≤ 4 := BN.at hB.1 (rfl : zcd wR 0 = 50) rfl
  have cg1 : cgR M M1 := fun p q h1 h2 => F1 p q (by omega)
  have sb := stR_b hB
  refine fR_steadyAll hB1 ?_
  rw [stR_cg cg1]
  refine fR_findHeard hB1 (by omega) (fun M7 h7 => ?_)
  obtain ⟨b7, f7, v7⟩ := h7
  have F7 : ∀ j9 k9 : Nat, ¬ (j9 = 0 ∧ k9 = 35 ∨ j9 = 27) → M7 j9 k9 = M j9 k9 := fun j9 k9 h9 => (f7 j9 k9 (by omega)).trans (F1 j9 k9 (by omega))
  have cg7 : cgR M M7 := fun p q h1 h2 => F7 p q (by omega)
  have er : rdR M7 = rdR M := funext fun r => rdR_cg cg7 r
  refine fR_allRounds b7 ?_
  rw [er, F7 0 10 (by omega)]
  have bL := lcR_4 (f := rdR M) (i := (M 0 10).toNat) (by omega) (fun k hk => rdR_b hB (by omega))
  have v7' : ∀ r u : Nat, (r : Int) < M7 0 10 → u < rdR M7 r → M7 27 (24 * r + u) = ((gR M (stR M + (u : Int)) r : Nat) : Int) ∧ gR M (stR M + (u : Int)) r ≤ 1 := fun r u hr hu => by
    rw [er] at hu
    rw [F7 0 10 (by omega)] at hr
    refine ⟨?_, gR_b _ _ _⟩
    rw [v7 r u (by rw [F1 0 10 (by omega)]; exact hr) (by rw [rdR_cg cg1]; exact hu), gR_cg cg1]
  have le := sm_le (f := fun k => pr (fun i => gR M (stR M + ((k % rdR M i : Nat) : Int)) i) (M 0 10).toNat) (c := 1) (fun k => pr_le (fun i => gR_b _ _ _) _)
  rw [sIo (z := ((lcR (rdR M) (M 0 10).toNat : Nat) : Int)) (by omega) (by omega)]
  refine pL2_of (fun x y => ∃ k : Nat, y = (k : Int) ∧ k ≤ lcR (rdR M) (M 0 10).toNat ∧ x = ((sm (fun k => pr (fun i => gR M (stR M + ((k % rdR M i : Nat) : Int)) i) (M 0 10).toNat) k : Nat) : Int)) (fun _ y => (1000000 - y).toNat) ⟨0, rfl, by omega, rfl⟩ (fun K x y h k3 => ?_)
  obtain ⟨k, rfl, hk, rfl⟩ := h
  have lk := le k
  rw [sIo (z := (k : Int)) (by omega) (by omega), sLo (z := ((sm (fun k => pr (fun i => gR M (stR M + ((k % rdR M i : Nat) : Int)) i) (M 0 10).toNat) k : Nat) : Int)) (by omega) (by omega)]
  refine ⟨fun c => hQ _ _ ⟨b7, F7, ?_⟩, fun c => ?_⟩
  · rw [show k = lcR (rdR M) (M 0 10).toNat by omega]
    rfl
  · refine fR_meetsBehind (k := k) (B := fun r u => gR M (stR M + (u : Int)) r) b7 (by omega) rfl v7' ?_
    rw [er, F7 0 10 (by omega)]
    have pl := pr_le (f := fun i => gR M (stR M + ((k % rdR M i : Nat) : Int)) i) (fun i => gR_b _ _ _) (M 0 10).toNat
    have es : sm (fun k => pr (fun i => gR M (stR M + ((k % rdR M i : Nat) : Int)) i) (M 0 10).toNat) (k + 1) = sm (fun k => pr (fun i => gR M (stR M + ((k % rdR M i : Nat) : Int)) i) (M 0 10).toNat) k + pr (fun i => gR M (stR M + ((k % rdR M i : Nat) : Int)) i) (M 0 10).toNat := rfl
    refine ⟨fun c2 => k3 _ _ ⟨k + 1, by omega, by omega, by rw [es]; omega⟩ (ms_lt (by omega) rfl), fun c2 => k3 _ _ ⟨k + 1, by omega, by omega, by rw [es]; omega⟩ (ms_lt (by omega) rfl)⟩
theorem often_det {MC MR : zM} {z z9 : Int} (hC : BN wC MC) (hR : iRi MC MR) (hM : iMo (MC 35) (MC 36) (MC 37) (MC 38) (MC 39) (MC 40) (MR 9) (MR 10) (MR 11)) (p : z = ((ofN (fun i u => (gC MC (stC MC + (u : Int)) i).toNat) (rdC MC) (MC 32 2).toNat : Nat) : Int)) (q : z9 = ((ofN (fun i u => gR MR (stR MR + (u : Int)) i) (rdR MR) (MR 0 10).toNat : Nat) : Int)) : z = z9 := by
  have bn : 0 ≤ MC 32 2 ∧ MC 32 2 ≤ 4 := BN.at hC (rfl : zcd wC 32 = 8) rfl
  rw [p, q, ← hR.1, ← steady_det hC hM]
  unfold ofN
  rw [lcR_cg _ (fun k hk => rd_det hC hR hM (by omega))]
  congr 1
  refine sm_cg _ (fun k _ => pr_cg _ (fun i hi => ?_))
  rw [rd_det hC hR hM (by omega)]
  show (gC MC (stC MC + ((k % rdR MR i : Nat) : Int)) i).toNat = gR MR (stC MC + ((k % rdR MR i : Nat) : Int)) i
  rw [g_det hC hR hM (by omega)]
  omega
end zz47zl_roften
