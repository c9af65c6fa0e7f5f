/-! rounds -/
theorem absI_v (s : Int) (h : -9 ≤ s ∧ s ≤ 9) : absI s = (s.natAbs : Int) := by
  unfold absI
  split <;> omega
def rdN (n : Nat) (s : Int) : Nat := n / Nat.gcd n s.natAbs
theorem rdN_b {n : Nat} {s : Int} (hn : 1 ≤ n) : 1 ≤ rdN n s ∧ rdN n s ≤ n := by
  unfold rdN
  have g := Nat.gcd_dvd_left n s.natAbs
  have p := Nat.gcd_pos_of_pos_left s.natAbs (show 0 < n by omega)
  exact ⟨Nat.div_pos (Nat.le_of_dvd (by omega) g) p, Nat.div_le_self _ _⟩
theorem gd_eq {n x : Nat} {a : Int} (h1 : 1 ≤ x) (hx : x = 1 ∨ (x ∣ n ∧ x ∣ a.natAbs)) (hn : 1 ≤ n) (hv : ∀ d : Nat, x < d → d ≤ n → ¬ (d ∣ n ∧ d ∣ a.natAbs)) : Nat.gcd n a.natAbs = x := by
  have g1 := Nat.gcd_dvd_left n a.natAbs
  have g2 := Nat.gcd_dvd_right n a.natAbs
  have p := Nat.gcd_pos_of_pos_left a.natAbs (show 0 < n by omega)
  have le := Nat.le_of_dvd (show 0 < n by omega) g1
  have nl : ¬ x < Nat.gcd n a.natAbs := fun c => hv _ c le ⟨g1, g2⟩
  rcases hx with rfl | ⟨x1, x2⟩
  · omega
  · have := Nat.le_of_dvd p (Nat.dvd_gcd x1 x2)
    omega
theorem fC_greatestDivisor {M : zM} {n : Nat} {a0 a1 : Int} (ha : a0 = (n : Int)) (hn : 1 ≤ n ∧ n ≤ 1000000) (v1 : -9223372036854775808 ≤ a1 ∧ a1 ≤ 9223372036854775807) {Q : Int → Prop} (hQ : Q ((Nat.gcd n a1.natAbs : Nat) : Int)) : wC_greatestDivisor a0 a1 M Q := by
  unfold wC_greatestDivisor
  rw [ha, sIo (z := (n : Int)) (by omega) (by omega), sLo v1.1 v1.2]
  refine pL1_of (fun x => ∃ d : Nat, x = (d : Int) ∧ 1 ≤ d ∧ d ≤ n ∧ ∀ e : Nat, d < e → e ≤ n → ¬ (e ∣ n ∧ e ∣ a1.natAbs)) (fun x => x.toNat) ⟨n, rfl, hn.1, Nat.le_refl n, fun e h1 h2 => absurd h1 (by omega)⟩ (fun K x h k => ?_)
  obtain ⟨d, rfl, d1, d2, hv⟩ := h
  rw [sIo (z := (d : Int)) (by omega) (by omega)]
  have t1 : (n : Int).tmod (d : Int) = ((n % d : Nat) : Int) := by
    rw [Int.tmod_eq_emod_of_nonneg (by omega)]
    exact (Int.natCast_emod _ _).symm
  have lt := Nat.mod_lt n (show d > 0 by omega)
  have t2 : -(d : Int) < a1.tmod (d : Int) ∧ a1.tmod (d : Int) < (d : Int) := by
    have a := Int.tmod_lt_of_pos a1 (show 0 < (d : Int) by omega)
    have b := Int.tmod_lt_of_pos (-a1) (show 0 < (d : Int) by omega)
    rw [Int.neg_tmod] at b
    omega
  rw [t1, sIo (z := ((n % d : Nat) : Int)) (by omega) (by omega), sLo (z := a1.tmod (d : Int)) (by omega) (by omega)]
  have i1 : ((n % d : Nat) : Int) = 0 ↔ d ∣ n := by
    rw [Nat.dvd_iff_mod_eq_zero]
    omega
  have i2 : a1.tmod (d : Int) = 0 ↔ d ∣ a1.natAbs := by
    rw [← Int.ofNat_dvd_left]
    exact ⟨fun e => Int.dvd_of_tmod_eq_zero e, fun e => Int.tmod_eq_zero_of_dvd e⟩
  refine ⟨fun c => ?_, fun c => ⟨by omega, fun c2 => ?_, fun c2 => ⟨by omega, fun c3 => ?_, fun c3 => ?_⟩⟩⟩
  · rw [gd_eq (x := 1) (by omega) (Or.inl rfl) hn.1 (fun e h1 h2 => hv e (by omega) h2)] at hQ
    exact hQ
  · refine k _ ⟨d - 1, by omega, by omega, by omega, fun e h1 h2 => ?_⟩ (by omega)
    by_cases c5 : e = d
    · subst c5
      exact fun x => c2 (i1.mpr x.1)
    · exact hv e (by omega) h2
  · refine k _ ⟨d - 1, by omega, by omega, by omega, fun e h1 h2 => ?_⟩ (by omega)
    by_cases c5 : e = d
    · subst c5
      exact fun x => c3 (i2.mpr x.2)
    · exact hv e (by omega) h2
  · rw [gd_eq (x := d) d1 (Or.inr ⟨i1.mp c2, i2.mp c3⟩) hn.1 hv] at hQ
    exact hQ
theorem fC_withoutShared {M : zM} {n : Nat} {a0 a1 : Int} (ha : a0 = (n : Int)) (hn : 1 ≤ n ∧ n ≤ 1000000) (v1 : -9223372036854775808 ≤ a1 ∧ a1 ≤ 9223372036854775807) {Q : Int → Prop} (hQ : Q ((rdN n a1 : Nat) : Int)) : wC_withoutShared a0 a1 M Q := by
  unfold wC_withoutShared
  refine fC_greatestDivisor ha hn v1 ?_
  have p := Nat.gcd_pos_of_pos_left a1.natAbs (show 0 < n by omega)
  have b := rdN_b (s := a1) hn.1
  refine ⟨fun _ => ⟨by omega, ?_⟩, fun c => absurd c (by omega)⟩
  rw [ha, sIo (z := (n : Int)) (by omega) (by omega), Int.tdiv_eq_ediv_of_nonneg (by omega)]
  have e : (n : Int) / ((Nat.gcd n a1.natAbs : Nat) : Int) = ((rdN n a1 : Nat) : Int) := (Int.natCast_ediv _ _).symm
  rw [e, sIo (by omega) (by omega)]
  exact hQ
def rdC (M : zM) (r : Nat) : Nat := rdN (lenC M r) (lsI (M (jmo (M (41 + 4 * r) 1)) 2) (M (jmo (M (41 + 4 * r) 1) + 2)))
def rdR (M : zM) (r : Nat) : Nat := rdN (lenR M r) (lsI (M 11 (M 5 r).toNat) (fun i => M 10 (12 * (M 5 r).toNat + i)))
theorem jmo_n (m : Int) : jmo m = 35 ∨ jmo m = 38 := by
  unfold jmo
  split
  · exact Or.inl rfl
  · exact Or.inr rfl
theorem jS_b {M : zM} (hB : BN wC M) (m : Int) : (∀ i : Nat, -9 ≤ M (jmo m + 2) i ∧ M (jmo m + 2) i ≤ 9) ∧ (0 ≤ M (jmo m) 2 ∧ M (jmo m) 2 ≤ 12) := by
  rcases jmo_n m with e | e
  · rw [e]
    exact ⟨fun i => BN.at hB (rfl : zcd wC 37 = 13) rfl, BN.at hB (rfl : zcd wC 35 = 11) rfl⟩
  · rw [e]
    exact ⟨fun i => BN.at hB (rfl : zcd wC 40 = 13) rfl, BN.at hB (rfl : zcd wC 38 = 11) rfl⟩
theorem fC_roundOf {M : zM} {r : Nat} (hB : BN wC M) (hr : r < 4) (h1 : 1 ≤ M (41 + 4 * r + 1) 1) {Q : Int → Prop} (hQ : Q ((rdC M r : Nat) : Int)) : wC_Studio_roundOf (41 + 4 * r) M Q := by
  unfold wC_Studio_roundOf
  obtain ⟨g1, g2, g3, -⟩ := rg_cd r hr
  have bm : 0 ≤ M (41 + 4 * r) 1 ∧ M (41 + 4 * r) 1 ≤ 1 := BN.at hB g2 rfl
  have bl : 0 ≤ M (41 + 4 * r + 1) 1 ∧ M (41 + 4 * r + 1) 1 ≤ 24 := BN.at hB g3 rfl
  refine fC_motorOf bm ⟨_, rfl, jmo_cd _, ?_⟩
  obtain ⟨bS, bT⟩ := jS_b hB (M (41 + 4 * r) 1)
  unfold wC_Motor_round wC_Motor_lastSpeed
  unfold rdC at hQ
  have lb := ls_b (n := M (jmo (M (41 + 4 * r) 1)) 2) bS
  have go : wC_withoutShared (M (41 + 4 * r + 1) 1) (lsI (M (jmo (M (41 + 4 * r) 1)) 2) (M (jmo (M (41 + 4 * r) 1) + 2))) M (fun z => Q z) := fC_withoutShared (n := lenC M r) (by unfold lenC; omega) (by unfold lenC; omega) (by omega) hQ
  unfold lsI at go lb
  have b9 := bS (M (jmo (M (41 + 4 * r) 1)) 2 - 1).toNat
  rw [sIo (z := M (jmo (M (41 + 4 * r) 1)) 2) (by omega) (by omega), sIo (z := M (jmo (M (41 + 4 * r) 1)) 2 - 1) (by omega) (by omega), sIo (z := M (jmo (M (41 + 4 * r) 1) + 2) (M (jmo (M (41 + 4 * r) 1)) 2 - 1).toNat) (by omega) (by omega)]
  refine ⟨fun c => ⟨by omega, ?_⟩, fun c => ?_⟩
  · rw [if_neg c] at go
    exact go
  · rw [if_pos c] at go
    exact go
theorem fR_round {M : zM} {r : Nat} (hB : BI M) (hr : (r : Int) < M 0 10) {Q : Int → Prop} (hQ : Q ((rdR M r : Nat) : Int)) : wR_round (r : Int) M Q := by
  unfold wR_round
  have b10 : 0 ≤ M 0 10 ∧ M 0 10 ≤ 4 := BN.at hB.1 (rfl : zcd wR 0 = 50) rfl
  have r4 : r < 4 := by omega
  have l1 := hB.2 r r4 hr
  have bl : 0 ≤ M 4 r ∧ M 4 r ≤ 24 := BN.at hB.1 (rfl : zcd wR 4 = 54) rfl
  have bm : 0 ≤ M 5 r ∧ M 5 r ≤ 1 := BN.at hB.1 (rfl : zcd wR 5 = 55) rfl
  rw [sIo (z := (r : Int)) (by omega) (by omega), show ((r : Int)).toNat = r by omega]
  refine ⟨by omega, by omega, by omega, ?_⟩
  obtain ⟨m, hm⟩ : ∃ m : Nat, M 5 r = (m : Int) := ⟨(M 5 r).toNat, by omega⟩
  unfold rdR at hQ
  rw [hm, show ((m : Int)).toNat = m by omega] at hQ
  have b11 : 0 ≤ M 11 m ∧ M 11 m ≤ 12 := BN.at hB.1 (rfl : zcd wR 11 = 61) rfl
  have bS : ∀ i : Nat, -9 ≤ M 10 (12 * m + i) ∧ M 10 (12 * m + i) ≤ 9 := fun i => BN.at hB.1 (rfl : zcd wR 10 = 60) rfl
  have lb := ls_b (n := M 11 m) (S := fun i => M 10 (12 * m + i)) bS
  have go : ∀ s : Int, s = lsI (M 11 m) (fun i => M 10 (12 * m + i)) → wR_common 48 (M 4 r) (absI s) M (fun z9 => (z9 ≠ 0) ∧ Q (sI ((sI (M 4 r)).tdiv z9))) := fun s hs => by
    rw [← hs] at lb hQ
    have ab := absI_v s (by omega)
    refine sR_common 48 hB (by omega) (by omega) (fun z hz => ?_) (by omega)
    obtain ⟨-, hz, -⟩ := hz
    have ez : z = ((Nat.gcd (lenR M r) s.natAbs : Nat) : Int) := by
      rw [hz, show (absI s).toNat = s.natAbs by omega]
      rfl
    have ln : M 4 r = ((lenR M r : Nat) : Int) := by unfold lenR; omega
    have p := Nat.gcd_pos_of_pos_left s.natAbs (show 0 < lenR M r by unfold lenR; omega)
    have b := rdN_b (n := lenR M r) (s := s) (by unfold lenR; omega)
    have e : ((lenR M r : Nat) : Int) / ((Nat.gcd (lenR M r) s.natAbs : Nat) : Int) = ((rdN (lenR M r) s : Nat) : Int) := (Int.natCast_ediv _ _).symm
    rw [ln, sIo (z := ((lenR M r : Nat) : Int)) (by omega) (by omega), ez, Int.tdiv_eq_ediv_of_nonneg (by omega), e, sIo (by omega) (by omega)]
    exact ⟨by omega, hQ⟩
  unfold wR_lastSpeed
  unfold lsI at go
  rw [hm, sIo (z := (m : Int)) (by omega) (by omega), show ((m : Int)).toNat = m by omega, sIo (z := M 11 m) (by omega) (by omega)]
  refine ⟨by omega, fun c => ⟨by omega, ?_⟩, fun c => go 1 (by rw [if_pos c])⟩
  have b9 := bS (M 11 m - 1).toNat
  rw [sIo (z := 12 * (m : Int) + M 11 m - 1) (by omega) (by omega), show (12 * (m : Int) + M 11 m - 1).toNat = 12 * m + (M 11 m - 1).toNat by omega, sIo (z := M 10 (12 * m + (M 11 m - 1).toNat)) (by omega) (by omega)]
  exact ⟨by omega, go _ (by rw [if_neg c])⟩
theorem rd_det {MC MR : zM} {r : Nat} (hC : BN wC MC) (hR : iRi MC MR) (hM : iMo (MC 35) (MC 36) (MC 37) (MC 38) (MC 39) (MC 40) (MR 9) (MR 10) (MR 11)) (hr : (r : Int) < MC 32 2) : rdC MC r = rdR MR r := by
  obtain ⟨n, a1, a2, a3, a4, a5, -⟩ := hR.2.2 r hr
  have r4 : r < 4 := by have := hR.2.1; omega
  obtain ⟨g1, g2, -⟩ := rg_cd r r4
  have bm : 0 ≤ MC (41 + 4 * r) 1 ∧ MC (41 + 4 * r) 1 ≤ 1 := BN.at hC g2 rfl
  have hmo := mo_of hM rfl rfl rfl rfl rfl rfl (m := MC (41 + 4 * r) 1) bm
  obtain ⟨-, bT⟩ := jS_b hC (MC (41 + 4 * r) 1)
  obtain ⟨-, e⟩ := st_cg bT.1 hmo
  unfold rdC rdR lenC lenR
  rw [e, a3, a4, a5]
