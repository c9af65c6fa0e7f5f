/-! the way by a length, alike; what is heard -/
theorem mul59 (a b : Int) (ha : -5000 ≤ a ∧ a ≤ 5000) (hb : -9 ≤ b ∧ b ≤ 9) : -45000 ≤ a * b ∧ a * b ≤ 45000 := by
  have e : b = -9 ∨ b = -8 ∨ b = -7 ∨ b = -6 ∨ b = -5 ∨ b = -4 ∨ b = -3 ∨ b = -2 ∨ b = -1 ∨ b = 0 ∨ b = 1 ∨ b = 2 ∨ b = 3 ∨ b = 4 ∨ b = 5 ∨ b = 6 ∨ b = 7 ∨ b = 8 ∨ b = 9 := by omega
  rcases e with rfl | rfl | rfl | rfl | rfl | rfl | rfl | rfl | rfl | rfl | rfl | rfl | rfl | rfl | rfl | rfl | rfl | rfl | rfl <;> omega
theorem wyS_b {T S : Nat → Int} (hT : ∀ i, 0 ≤ T i ∧ T i ≤ 5000) (hS : ∀ i, -9 ≤ S i ∧ S i ≤ 9) : ∀ p : Nat, (-45000 * (p : Int) ≤ (wyS T S p).1 ∧ (wyS T S p).1 ≤ 45000 * (p : Int)) ∧ (0 ≤ (wyS T S p).2.1 ∧ (wyS T S p).2.1 ≤ 5000) ∧ (-9 ≤ (wyS T S p).2.2 ∧ (wyS T S p).2.2 ≤ 9)
  | 0 => ⟨⟨by show -45000 * ((0 : Nat) : Int) ≤ 0; omega, by show (0 : Int) ≤ 45000 * ((0 : Nat) : Int); omega⟩, ⟨by show (0 : Int) ≤ 0; omega, by show (0 : Int) ≤ 5000; omega⟩, by show (-9 : Int) ≤ 1; omega, by show (1 : Int) ≤ 9; omega⟩
  | p + 1 => by
    obtain ⟨h1, h2, h3⟩ := wyS_b hT hS p
    have m := mul59 (T p - (wyS T S p).2.1) (wyS T S p).2.2 (by have := hT p; omega) h3
    refine ⟨?_, hT p, hS p⟩
    show -45000 * ((p + 1 : Nat) : Int) ≤ (wyS T S p).1 + (T p - (wyS T S p).2.1) * (wyS T S p).2.2 ∧ (wyS T S p).1 + (T p - (wyS T S p).2.1) * (wyS T S p).2.2 ≤ 45000 * ((p + 1 : Nat) : Int)
    omega
theorem wayR_b {n t z : Int} {T S : Nat → Int} (hT : ∀ i, 0 ≤ T i ∧ T i ≤ 5000) (hS : ∀ i, -9 ≤ S i ∧ S i ≤ 9) (hn : n ≤ 12) (ht : 0 ≤ t ∧ t ≤ 5000) (h : wayR n T S t z) : -1000000 ≤ z ∧ z ≤ 1000000 := by
  obtain ⟨p, p1, p2, p3, p4⟩ := h
  obtain ⟨h1, h2, h3⟩ := wyS_b hT hS p
  have m := mul59 (t - (wyS T S p).2.1) (wyS T S p).2.2 (by omega) h3
  rw [p4, sLo (by omega) (by omega)]
  omega
def stI (n : Int) (T : Nat → Int) : Int := if n = 0 then 0 else T (n - 1).toNat
def lsI (n : Int) (S : Nat → Int) : Int := if n = 0 then 1 else S (n - 1).toNat
/-- the way to a tick by a length -/
def wbR (n : Int) (T S : Nat → Int) (t len z : Int) : Prop := ∃ w : Int, wayR n T S (min t (stI n T)) w ∧ z = (w + (max 0 (t - stI n T) % len) * lsI n S) % len
theorem st_cg {n nR : Int} {T S TR SR : Nat → Int} (h0 : 0 ≤ n) (h : mo n T S nR TR SR) : stI n T = stI nR TR ∧ lsI n S = lsI nR SR := by
  obtain ⟨h1, h2⟩ := h
  subst h1
  unfold stI lsI
  by_cases c : n = 0
  · rw [if_pos c, if_pos c, if_pos c, if_pos c]
    exact ⟨rfl, rfl⟩
  · have w := h2 (n - 1).toNat (by omega)
    rw [if_neg c, if_neg c, if_neg c, if_neg c]
    exact w
theorem wb_det {n nR t len z zR : Int} {T S TR SR : Nat → Int} (h0 : 0 ≤ n) (h : mo n T S nR TR SR) (P : wbR n T S t len z) (R : wbR nR TR SR t len zR) : z = zR := by
  obtain ⟨e1, e2⟩ := st_cg h0 h
  obtain ⟨w, w1, w2⟩ := P
  obtain ⟨v, v1, v2⟩ := R
  rw [← e1] at v1
  rw [w2, v2, ← e1, ← e2, way_det h w1 v1]
theorem st_b {n : Int} {T : Nat → Int} (hT : ∀ i, 0 ≤ T i ∧ T i ≤ 5000) : 0 ≤ stI n T ∧ stI n T ≤ 5000 := by
  unfold stI
  by_cases c : n = 0
  · rw [if_pos c]
    omega
  · rw [if_neg c]
    exact hT _
theorem ls_b {n : Int} {S : Nat → Int} (hS : ∀ i, -9 ≤ S i ∧ S i ≤ 9) : -9 ≤ lsI n S ∧ lsI n S ≤ 9 := by
  unfold lsI
  by_cases c : n = 0
  · rw [if_pos c]
    omega
  · rw [if_neg c]
    exact hS _
set_option maxHeartbeats 1000000 in
theorem fC_wayBy {M : zM} {j : Nat} {a0 a1 : Int} (hB : BN wC M) (lt_j : j < nC) (cd_j : zcd wC j = 11) (v0 : 0 ≤ a0 ∧ a0 ≤ 9223372036854775807) (v1 : 1 ≤ a1 ∧ a1 ≤ 24) {Q : Int → Prop} (hQ : ∀ z : Int, wbR (M j 2) (M (j + 1)) (M (j + 2)) a0 a1 z → Q z) : wC_Motor_wayBy j a0 a1 M Q := by
  unfold wC_Motor_wayBy wC_Motor_steady wC_Motor_lastSpeed
  obtain ⟨lt1, cd2, lt3, cd4⟩ := nx_motor j lt_j cd_j
  have bn : 0 ≤ M j 2 ∧ M j 2 ≤ 12 := BN.at hB cd_j rfl
  have hT : ∀ i, 0 ≤ M (j + 1) i ∧ M (j + 1) i ≤ 5000 := fun i => BN.at hB cd2 rfl
  have hS : ∀ i, -9 ≤ M (j + 2) i ∧ M (j + 2) i ≤ 9 := fun i => BN.at hB cd4 rfl
  have sn : sI (M j 2) = M j 2 := sIo (by omega) (by omega)
  have sn1 : sI (M j 2 - 1) = M j 2 - 1 := sIo (by omega) (by omega)
  have bt := hT (M j 2 - 1).toNat
  have bs := hS (M j 2 - 1).toNat
  rw [sn, sn1, sIo (z := M (j + 1) (M j 2 - 1).toNat) (by omega) (by omega)]
  have b1 := st_b (n := M j 2) hT
  have b2 := ls_b (n := M j 2) hS
  have main : ∀ z : Int, z = stI (M j 2) (M (j + 1)) → wC_Motor_wayTo j (a0 - (max 0 (sL (a0 - z)))) M (fun z10 => wC_by (max 0 (sL (a0 - z))) a1 M (fun z14 => ((M j 2 ≠ 0 → ((0 ≤ M j 2 - 1 ∧ M j 2 - 1 < 12) ∧ wC_by (z10 + (z14 * sI (M (j + 2) (M j 2 - 1).toNat))) a1 M (fun z22 => Q z22))) ∧ (M j 2 = 0 → wC_by (z10 + (z14 * 1)) a1 M (fun z22 => Q z22))))) := by
    intro z hz
    have sl : sL (a0 - z) = a0 - z := sLo (by omega) (by omega)
    rw [sl]
    refine fC_Motor_wayTo hB lt_j cd_j (by omega) (fun w hw => ?_)
    have ew : a0 - max 0 (a0 - z) = min a0 (stI (M j 2) (M (j + 1))) := by omega
    rw [ew] at hw
    have wb := wayR_b hT hS (by omega) (by omega) hw
    refine fC_by (by omega) (by omega) ?_
    have em := emB (max 0 (a0 - z)) a1 (by omega)
    have fin : wC_by (w + (max 0 (a0 - z) % a1) * lsI (M j 2) (M (j + 2))) a1 M (fun z22 => Q z22) := by
      have m := mul59 (max 0 (a0 - z) % a1) (lsI (M j 2) (M (j + 2))) (by omega) b2
      refine fC_by (by omega) (by omega) ?_
      exact hQ _ ⟨w, hw, by rw [hz]⟩
    refine ⟨fun c => ⟨by omega, ?_⟩, fun c => ?_⟩
    · unfold lsI at fin
      rw [if_neg c] at fin
      rw [sIo (z := M (j + 2) (M j 2 - 1).toNat) (by omega) (by omega)]
      exact fin
    · unfold lsI at fin
      rw [if_pos c] at fin
      exact fin
  refine ⟨fun c => ⟨by omega, main _ ?_⟩, fun c => main _ ?_⟩
  · unfold stI
    rw [if_neg c]
  · unfold stI
    rw [if_pos c]
set_option maxHeartbeats 1000000 in
theorem fR_wayBy {M : zM} {m : Nat} {a0 a1 a2 : Int} (hB : BI M) (hm : a0 = (m : Int)) (h01 : m ≤ 1) (v1 : 0 ≤ a1 ∧ a1 ≤ 9223372036854775807) (v2 : 1 ≤ a2 ∧ a2 ≤ 24) {Q : Int → Prop} (hQ : ∀ z : Int, wbR (M 11 m) (fun i => M 9 (12 * m + i)) (fun i => M 10 (12 * m + i)) a1 a2 z → Q z) : wR_wayBy a0 a1 a2 M Q := by
  unfold wR_wayBy wR_steady wR_lastSpeed
  have bn : 0 ≤ M 11 m ∧ M 11 m ≤ 12 := BN.at hB.1 (rfl : zcd wR 11 = 61) rfl
  have hT0 : ∀ i, 0 ≤ M 9 i ∧ M 9 i ≤ 5000 := fun i => BN.at hB.1 (rfl : zcd wR 9 = 59) rfl
  have hS0 : ∀ i, -9 ≤ M 10 i ∧ M 10 i ≤ 9 := fun i => BN.at hB.1 (rfl : zcd wR 10 = 60) rfl
  have hT : ∀ i, 0 ≤ (fun i => M 9 (12 * m + i)) i ∧ (fun i => M 9 (12 * m + i)) i ≤ 5000 := fun i => hT0 _
  have hS : ∀ i, -9 ≤ (fun i => M 10 (12 * m + i)) i ∧ (fun i => M 10 (12 * m + i)) i ≤ 9 := fun i => hS0 _
  have sa : sI a0 = (m : Int) := by rw [hm]; exact sIo (by omega) (by omega)
  have ta : ((m : Int)).toNat = m := by omega
  have sn : sI (M 11 m) = M 11 m := sIo (by omega) (by omega)
  have sk : sI (12 * a0 + M 11 m - 1) = 12 * (m : Int) + M 11 m - 1 := by rw [hm]; exact sIo (by omega) (by omega)
  have s1 : sL a1 = a1 := sLo (by omega) (by omega)
  have s2 : sI a2 = a2 := sIo (by omega) (by omega)
  have b1 := st_b (n := M 11 m) hT
  have b2 := ls_b (n := M 11 m) hS
  rw [sa, ta, sn, sk, s1, s2]
  have main : ∀ z : Int, z = stI (M 11 m) (fun i => M 9 (12 * m + i)) → ((z < a1 → ((a2 ≠ 0) ∧ ((0 ≤ (m : Int) ∧ (m : Int) < 2) ∧ (M 11 m ≠ 0 → ((0 ≤ (m : Int) ∧ (m : Int) < 2) ∧ ((0 ≤ 12 * (m : Int) + M 11 m - 1 ∧ 12 * (m : Int) + M 11 m - 1 < 24) ∧ wR_wayEarly a0 z M (fun z12 => ((0 < a2) ∧ Q (sI ((sL (z12 + (((sL (a1 - z)).tmod a2) * sI (M 10 (12 * (m : Int) + M 11 m - 1).toNat)))) % a2))))))) ∧ (M 11 m = 0 → wR_wayEarly a0 z M (fun z12 => ((0 < a2) ∧ Q (sI ((sL (z12 + (((sL (a1 - z)).tmod a2) * 1))) % a2)))))))) ∧ (a1 ≤ z → wR_wayEarly a0 a1 M (fun z17 => ((0 < a2) ∧ Q (sI (z17 % a2)))))) := by
    intro z hz
    refine ⟨fun c => ⟨by omega, ⟨by omega, by omega⟩, ?_⟩, fun c => ?_⟩
    · have sl : sL (a1 - z) = a1 - z := sLo (by omega) (by omega)
      have et : (a1 - z).tmod a2 = (a1 - z) % a2 := Int.tmod_eq_emod_of_nonneg (by omega)
      have em := emB (a1 - z) a2 (by omega)
      have fin : wR_wayEarly a0 z M (fun z12 => ((0 < a2) ∧ Q (sI ((sL (z12 + (((a1 - z) % a2) * lsI (M 11 m) (fun i => M 10 (12 * m + i))))) % a2)))) := by
        refine fR_wayEarly hB (by omega) (by omega) (fun w hw => ⟨by omega, ?_⟩)
        rw [hm, ta] at hw
        have wb := wayR_b hT hS (by omega) (by omega) hw
        have mm := mul59 ((a1 - z) % a2) (lsI (M 11 m) (fun i => M 10 (12 * m + i))) (by omega) b2
        have e9 := emB (w + (a1 - z) % a2 * lsI (M 11 m) (fun i => M 10 (12 * m + i))) a2 (by omega)
        rw [sLo (by omega) (by omega), sIo (by omega) (by omega)]
        refine hQ _ ⟨w, by rw [show min a1 (stI (M 11 m) (fun i => M 9 (12 * m + i))) = z by omega]; exact hw, ?_⟩
        rw [show max 0 (a1 - stI (M 11 m) (fun i => M 9 (12 * m + i))) = a1 - z by omega]
      rw [sl, et]
      refine ⟨fun d => ⟨⟨by omega, by omega⟩, ⟨by omega, by omega⟩, ?_⟩, fun d => ?_⟩
      · unfold lsI at fin
        rw [if_neg d] at fin
        have e8 : (12 * (m : Int) + M 11 m - 1).toNat = 12 * m + (M 11 m - 1).toNat := by omega
        have b8 := hS0 (12 * m + (M 11 m - 1).toNat)
        rw [e8, sIo (z := M 10 (12 * m + (M 11 m - 1).toNat)) (by omega) (by omega)]
        exact fin
      · unfold lsI at fin
        rw [if_pos d] at fin
        exact fin
    · refine fR_wayEarly hB (by omega) (by omega) (fun w hw => ⟨by omega, ?_⟩)
      rw [hm, ta] at hw
      have e9 := emB w a2 (by omega)
      rw [sIo (by omega) (by omega)]
      refine hQ _ ⟨w, by rw [show min a1 (stI (M 11 m) (fun i => M 9 (12 * m + i))) = a1 by omega]; exact hw, ?_⟩
      rw [show max 0 (a1 - stI (M 11 m) (fun i => M 9 (12 * m + i))) = 0 by omega, Int.zero_emod, Int.zero_mul, Int.add_zero]
  refine ⟨⟨by omega, by omega⟩, fun c => ⟨⟨by omega, by omega⟩, ⟨by omega, by omega⟩, ?_⟩, fun c => main _ ?_⟩
  · have e8 : (12 * (m : Int) + M 11 m - 1).toNat = 12 * m + (M 11 m - 1).toNat := by omega
    have b8 := hT0 (12 * m + (M 11 m - 1).toNat)
    refine main _ ?_
    rw [e8, sIo (by omega) (by omega)]
    unfold stI
    rw [if_neg c]
  · unfold stI
    rw [if_pos c]
