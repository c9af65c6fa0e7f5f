section zz47z0_find
/-! plans: the least plan, of both sides by one property -/
def chn (R : Nat) (len : Nat → Nat) (tv cs : Nat → Nat → Nat → Int) (V : Nat → Int → Int) (W pl : Nat → Int) : Prop := ∀ k : Nat, k < R → ∃ c s : Nat, pl (2 * k) = (c : Int) ∧ pl (2 * k + 1) = (s : Int) ∧ fsP2 (len k) (tv k) (cs k) (V (k + 1)) (W k) (V k (W k)) c s ∧ W (k + 1) = an (W k) (tv k c s)
def plB (NV : Int) (R m : Nat) (len : Nat → Nat) (tv cs : Nat → Nat → Nat → Int) (V : Nat → Int → Int) : Prop := (∀ w : Nat, w < 2 ^ m → V R (w : Int) = if w = 0 then 0 else NV) ∧ (∀ k : Nat, k < R → ∀ w : Nat, w < 2 ^ m → plP (len k) (tv k) (cs k) (V (k + 1)) NV (w : Int) (V k (w : Int)))
def plnP (NV : Int) (R m : Nat) (len : Nat → Nat) (tv cs : Nat → Nat → Nat → Int) (z : Int) (pl : Nat → Int) : Prop := ∃ V : Nat → Int → Int, plB NV R m len tv cs V ∧ ((z = -1 ∧ V 0 (((2 ^ m - 1 : Nat)) : Int) = NV) ∨ (z = V 0 (((2 ^ m - 1 : Nat)) : Int) ∧ V 0 (((2 ^ m - 1 : Nat)) : Int) < NV ∧ ∃ W : Nat → Int, W 0 = (((2 ^ m - 1 : Nat)) : Int) ∧ chn R len tv cs V W pl))
def relP (B x y : Int) : Prop := (x = y ∧ 0 ≤ x ∧ x ≤ B) ∨ (x = 1000000 ∧ y = 268435456)
theorem pl_rel {n : Nat} {tv cs tv2 cs2 : Nat → Nat → Int} {beh beh2 : Int → Int} {w x y B : Int} (b0 : 0 ≤ B ∧ B ≤ 800) (hw : 0 ≤ w ∧ w ≤ 63) (ht : ∀ c s : Nat, vld n c s → tv c s = tv2 c s) (hc : ∀ c s : Nat, vld n c s → cs c s = cs2 c s ∧ 0 ≤ cs c s ∧ cs c s ≤ 200) (hb : ∀ u : Int, 0 ≤ u → u ≤ w → relP B (beh u) (beh2 u)) (P : plP n tv cs beh 1000000 w x) (Q : plP n tv2 cs2 beh2 268435456 w y) : relP (B + 200) x y := by
  obtain ⟨p0, p1, p2, p3⟩ := P
  obtain ⟨q0, q1, q2, q3⟩ := Q
  have key : ∀ c s : Nat, vld n c s → relP B (beh (an w (tv c s))) (beh2 (an w (tv2 c s))) ∧ cs c s = cs2 c s ∧ 0 ≤ cs c s ∧ cs c s ≤ 200 := fun c s v => by
    have a := an_b (w := w) (t := tv c s) (by omega)
    rw [← ht c s v]
    exact ⟨hb _ a.1 a.2, hc c s v⟩
  unfold relP at key ⊢
  rcases q3 with q3 | ⟨c, s, v, q3⟩
  · rcases p3 with p3 | ⟨c, s, v, p3⟩
    · exact Or.inr ⟨p3, q3⟩
    · have a := key c s v
      have b := q2 c s v
      omega
  · have a := key c s v
    have b := p2 c s v
    rcases p3 with p3 | ⟨c3, s3, v3, p3⟩
    · omega
    · have a3 := key c3 s3 v3
      have b3 := q2 c3 s3 v3
      omega
theorem plB_rel {R m : Nat} {len : Nat → Nat} {tv cs tv2 cs2 : Nat → Nat → Nat → Int} {V V2 : Nat → Int → Int} (hR : R ≤ 4) (hm : m ≤ 6) (ht : ∀ k : Nat, k < R → ∀ c s : Nat, vld (len k) c s → tv k c s = tv2 k c s) (hc : ∀ k : Nat, k < R → ∀ c s : Nat, vld (len k) c s → cs k c s = cs2 k c s ∧ 0 ≤ cs k c s ∧ cs k c s ≤ 200) (P : plB 1000000 R m len tv cs V) (Q : plB 268435456 R m len tv2 cs2 V2) : ∀ j : Nat, j ≤ R → ∀ w : Nat, w < 2 ^ m → relP (200 * (j : Int)) (V (R - j) (w : Int)) (V2 (R - j) (w : Int))
  | 0, _, w, hw => by
    have a := P.1 w hw
    have b := Q.1 w hw
    unfold relP
    rw [show R - 0 = R by omega, a, b]
    by_cases c : w = 0
    · rw [if_pos c, if_pos c]
      omega
    · rw [if_neg c, if_neg c]
      omega
  | j + 1, hj, w, hw => by
    have ih := plB_rel hR hm ht hc P Q j (by omega)
    have p := P.2 (R - (j + 1)) (by omega) w hw
    have q := Q.2 (R - (j + 1)) (by omega) w hw
    have pb := pow_b m hm
    rw [show R - (j + 1) + 1 = R - j by omega] at p q
    have r := pl_rel (B := 200 * (j : Int)) (by omega) (by omega) (ht (R - (j + 1)) (by omega)) (hc (R - (j + 1)) (by omega)) (fun u u0 u1 => by
      have := ih u.toNat (by omega)
      rw [show ((u.toNat : Nat) : Int) = u by omega] at this
      exact this) p q
    rw [show 200 * ((j + 1 : Nat) : Int) = 200 * (j : Int) + 200 by omega]
    exact r
theorem fs_uq {n : Nat} {tv cs tv2 cs2 : Nat → Nat → Int} {beh beh2 : Int → Int} {w X Y B : Int} {c s c2 s2 : Nat} (b0 : 0 ≤ B ∧ B ≤ 800) (hw : 0 ≤ w ∧ w ≤ 63) (ht : ∀ c s : Nat, vld n c s → tv c s = tv2 c s) (hc : ∀ c s : Nat, vld n c s → cs c s = cs2 c s ∧ 0 ≤ cs c s ∧ cs c s ≤ 200) (hb : ∀ u : Int, 0 ≤ u → u ≤ w → relP B (beh u) (beh2 u)) (hX : X = Y ∧ 0 ≤ X ∧ X < 1000000) (P : fsP2 n tv cs beh w X c s) (Q : fsP2 n tv2 cs2 beh2 w Y c2 s2) : c = c2 ∧ s = s2 := by
  obtain ⟨p1, p2, p3⟩ := P
  obtain ⟨q1, q2, q3⟩ := Q
  have key : ∀ c s : Nat, vld n c s → relP B (beh (an w (tv c s))) (beh2 (an w (tv2 c s))) ∧ cs c s = cs2 c s ∧ 0 ≤ cs c s ∧ cs c s ≤ 200 := fun c s v => by
    have a := an_b (w := w) (t := tv c s) (by omega)
    rw [← ht c s v]
    exact ⟨hb _ a.1 a.2, hc c s v⟩
  unfold relP at key
  have a := key c s p1
  have b := key c2 s2 q1
  have t : bef c s c2 s2 ∨ bef c2 s2 c s ∨ (c = c2 ∧ s = s2) := by unfold bef; omega
  rcases t with t | t | t
  · have x := p3 c2 s2 q1 t
    omega
  · have x := q3 c s p1 t
    omega
  · exact t
theorem pln_det {R m : Nat} {len : Nat → Nat} {tv cs tv2 cs2 : Nat → Nat → Nat → Int} {z z2 : Int} {pl pl2 : Nat → Int} (hR : R ≤ 4) (hm : m ≤ 6) (ht : ∀ k : Nat, k < R → ∀ c s : Nat, vld (len k) c s → tv k c s = tv2 k c s) (hc : ∀ k : Nat, k < R → ∀ c s : Nat, vld (len k) c s → cs k c s = cs2 k c s ∧ 0 ≤ cs k c s ∧ cs k c s ≤ 200) (P : plnP 1000000 R m len tv cs z pl) (Q : plnP 268435456 R m len tv2 cs2 z2 pl2) : z = z2 ∧ (z ≠ -1 → ∀ k : Nat, k < R → ∃ c s : Nat, vld (len k) c s ∧ pl (2 * k) = (c : Int) ∧ pl (2 * k + 1) = (s : Int) ∧ pl2 (2 * k) = (c : Int) ∧ pl2 (2 * k + 1) = (s : Int)) := by
  obtain ⟨V, PB, PC⟩ := P
  obtain ⟨V2, QB, QC⟩ := Q
  have rl := plB_rel hR hm ht hc PB QB
  have pb := pow_b m hm
  have r0 := rl R (by omega) (2 ^ m - 1) (by omega)
  rw [show R - R = 0 by omega] at r0
  have r0' := r0
  unfold relP at r0'
  rcases PC with ⟨p1, p2⟩ | ⟨p1, p2, W, p3, p4⟩
  · rcases QC with ⟨q1, q2⟩ | ⟨q1, q2, -⟩
    · exact ⟨by omega, fun h => absurd p1 h⟩
    · omega
  · rcases QC with ⟨q1, q2⟩ | ⟨q1, q2, W2, q3, q4⟩
    · omega
    · refine ⟨by omega, fun _ => ?_⟩
      have ch : ∀ k : Nat, k ≤ R → W k = W2 k ∧ 0 ≤ W k ∧ W k ≤ (((2 ^ m - 1 : Nat)) : Int) ∧ V k (W k) < 1000000 := fun k => by
        induction k with
        | zero => intro _; exact ⟨by omega, by omega, by omega, by rw [p3]; exact p2⟩
        | succ k ih =>
          intro hk
          obtain ⟨i1, i2, i3, i4⟩ := ih (by omega)
          obtain ⟨c, s, -, -, f1, f2⟩ := p4 k (by omega)
          obtain ⟨c2, s2, -, -, g1, g2⟩ := q4 k (by omega)
          have rk := rl (R - k) (by omega) (W k).toNat (by omega)
          rw [show R - (R - k) = k by omega, show (((W k).toNat : Nat) : Int) = W k by omega] at rk
          unfold relP at rk
          rw [← i1] at g1 g2
          obtain ⟨e1, e2⟩ := fs_uq (B := 200 * ((R - (k + 1) : Nat) : Int)) (by omega) ⟨i2, by omega⟩ (ht k (by omega)) (hc k (by omega)) (fun u u0 u1 => by
            have := rl (R - (k + 1)) (by omega) u.toNat (by omega)
            rw [show R - (R - (k + 1)) = k + 1 by omega, show ((u.toNat : Nat) : Int) = u by omega] at this
            exact this) (by omega) f1 g1
          subst e1
          subst e2
          have a := an_b (w := W k) (t := tv k c s) (by omega)
          have cb := hc k (by omega) c s f1.1
          have f12 := f1.2.1
          rw [f2]
          exact ⟨by rw [g2, ht k (by omega) c s f1.1], by omega, by omega, by omega⟩
      intro k hk
      obtain ⟨i1, i2, i3, i4⟩ := ch k (by omega)
      obtain ⟨c, s, d1, d2, f1, f2⟩ := p4 k (by omega)
      obtain ⟨c2, s2, h1, h2, g1, g2⟩ := q4 k (by omega)
      have rk := rl (R - k) (by omega) (W k).toNat (by omega)
      rw [show R - (R - k) = k by omega, show (((W k).toNat : Nat) : Int) = W k by omega] at rk
      unfold relP at rk
      rw [← i1] at g1 g2
      obtain ⟨e1, e2⟩ := fs_uq (B := 200 * ((R - (k + 1) : Nat) : Int)) (by omega) ⟨i2, by omega⟩ (ht k (by omega)) (hc k (by omega)) (fun u u0 u1 => by
        have := rl (R - (k + 1)) (by omega) u.toNat (by omega)
        rw [show R - (R - (k + 1)) = k + 1 by omega, show ((u.toNat : Nat) : Int) = u by omega] at this
        exact this) (by omega) f1 g1
      subst e1
      subst e2
      exact ⟨c, s, f1.1, d1, d2, h1, h2⟩
end zz47z0_find
section zz47z1_cfind
/-! plans: the class finds the least plan -/
def lenC (M : zM) (k : Nat) : Nat := (M (41 + 4 * k + 1) 1).toNat
def csC (M : zM) (k : Nat) : Nat → Nat → Int := cstI (M (41 + 4 * k) 2)
theorem jmo_cd (m : Int) : jmo m < nC ∧ zcd wC (jmo m) = 11 := by
  unfold jmo
  by_cases c : m = 0
  · rw [if_pos c]
    decide
  · rw [if_neg c]
    decide
theorem fC_motorOf {M : zM} {a0 : Int} (v : 0 ≤ a0 ∧ a0 ≤ 1) {Q : Option Nat → Prop} (hQ : Q (some (jmo a0))) : wC_Studio_motorOf a0 M Q := by
  unfold wC_Studio_motorOf
  unfold jmo at hQ
  rw [sIo (by omega) (by omega)]
  refine ⟨fun c => ?_, fun c => ?_⟩
  · rw [if_neg c] at hQ
    exact hQ
  · rw [if_pos c] at hQ
    exact hQ
set_option maxHeartbeats 4000000 in
theorem fC_Planner_find {M : zM} (hB : BN wC M) (hlen : ∀ r : Nat, (r : Int) < M 32 2 → 1 ≤ M (41 + 4 * r + 1) 1) {Q : Int → zM → Prop} (hQ : ∀ (z : Int) (M1 : zM), BN wC M1 ∧ (∀ p : Nat, ¬ (p = 63 ∨ 65 ≤ p ∧ p ≤ 77) → M1 p = M p) ∧ plnP 1000000 (M 32 2).toNat (M 60 2).toNat (lenC M) (tvC M) (csC M) z (M1 63) → Q z M1) : wC_Planner_find M Q := by
  unfold wC_Planner_find
  have bn : 0 ≤ M 32 2 ∧ M 32 2 ≤ 4 := BN.at hB (rfl : zcd wC 32 = 8) rfl
  have bc : 0 ≤ M 60 2 ∧ M 60 2 ≤ 6 := BN.at hB (rfl : zcd wC 60 = 19) rfl
  obtain ⟨R, hR⟩ : ∃ R : Nat, M 32 2 = (R : Int) := ⟨(M 32 2).toNat, by omega⟩
  obtain ⟨m, hm⟩ : ∃ m : Nat, M 60 2 = (m : Int) := ⟨(M 60 2).toNat, by omega⟩
  have sR : sI (R : Int) = R := sIo (by omega) (by omega)
  have tR : ((R : Int)).toNat = R := by omega
  have tm : ((m : Int)).toNat = m := by omega
  have pw := pow_b m (by omega)
  rw [hR, hm, tR, tm] at hQ
  rw [hR, sR, tR, Nat.one_mul]
  refine ⟨by omega, ?_⟩
  obtain ⟨z1, z2⟩ := co_cd R (by omega)
  refine fC_fill (N := 64) hB z2 (by omega) z1 (fun _ => rfl) (by omega) (fun M4 h4 => ?_)
  obtain ⟨b4, f4, v4⟩ := h4
  refine ⟨by omega, fun M8 e8 => ?_⟩
  have tvb : ∀ k c s : Nat, 0 ≤ tvC M k c s ∧ tvC M k c s < ((2 ^ m : Nat) : Int) := fun k c s => by
    unfold tvC trV
    rw [hm, tm]
    exact ⟨(trB_b m (by omega)).1, trB_lt m (by omega)⟩
  refine wL1_of (fun x M2 => BN wC M2 ∧ (∀ p : Nat, ¬ (65 ≤ p ∧ p ≤ 77) → M2 p = M p) ∧ ∃ i : Nat, x = (i : Int) - 1 ∧ i ≤ R ∧ (∀ w : Nat, w < 2 ^ m → M2 (70 + R) w = if w = 0 then 0 else 1000000) ∧ (∀ k : Nat, i ≤ k → k < R → (∀ c s : Nat, vld (lenC M k) c s → M2 (65 + k) (off (lenC M k) c + s) = tvC M k c s) ∧ ∀ w : Nat, w < 2 ^ m → plP (lenC M k) (tvC M k) (csC M k) (fun u => M2 (70 + (k + 1)) u.toNat) 1000000 (w : Int) (M2 (70 + k) w))) (fun x _ => (x + 1).toNat) ⟨by rw [e8]; exact BN.up b4 z1 rfl (by omega) (by omega), fun p hp => by rw [e8, zup_row _ _ (by omega)]; exact f4 p (by omega), R, rfl, by omega, fun w hw => ?_, fun k h1 h2 => absurd h1 (by omega)⟩ (fun K x M2 h k => ?_)
  · rw [e8]
    by_cases c0 : w = 0
    · rw [c0, zup_s, if_pos rfl]
    · rw [zup_n _ _ (by omega), if_neg c0]
      exact v4 w (by omega)
  obtain ⟨b2, f2, i, rfl, hi, hv0, hv⟩ := h
  have n2 : M2 32 2 = (R : Int) := by rw [f2 32 (by omega)]; exact hR
  have m2 : M2 60 2 = (m : Int) := by rw [f2 60 (by omega)]; exact hm
  have sx : sI ((i : Int) - 1) = (i : Int) - 1 := sIo (by omega) (by omega)
  rw [sx, m2, sh_pow m (by omega)]
  refine ⟨fun d => ?_, fun d => ?_⟩
  · have i0 : i = 0 := by omega
    subst i0
    have sw : sI (((2 ^ m : Nat) : Int) - 1) = (((2 ^ m - 1 : Nat)) : Int) := by rw [sIo (by omega) (by omega)]; omega
    have ew : ((2 ^ m : Nat) : Int) - 1 = (((2 ^ m - 1 : Nat)) : Int) := by omega
    have tw : ((((2 ^ m - 1 : Nat)) : Int)).toNat = 2 ^ m - 1 := by omega
    rw [sw, tw, ew]
    refine ⟨by omega, fun t e => ?_⟩
    have bt : 0 ≤ M2 70 (2 ^ m - 1) ∧ M2 70 (2 ^ m - 1) ≤ 1000000 := BN.at b2 (rfl : zcd wC 70 = 26) rfl
    have st : sI t = t := sIo (by omega) (by omega)
    rw [st]
    have PB : plB 1000000 R m (lenC M) (tvC M) (csC M) (fun k u => M2 (70 + k) u.toNat) := by
      refine ⟨fun w hw => ?_, fun k hk w hw => ?_⟩
      · show M2 (70 + R) ((w : Int)).toNat = _
        rw [show ((w : Int)).toNat = w by omega]
        exact hv0 w hw
      · show plP (lenC M k) (tvC M k) (csC M k) (fun u => M2 (70 + (k + 1)) u.toNat) 1000000 (w : Int) (M2 (70 + k) ((w : Int)).toNat)
        rw [show ((w : Int)).toNat = w by omega]
        exact (hv k (by omega) hk).2 w hw
    refine ⟨fun d2 => ?_, fun d2 => hQ _ _ ⟨b2, fun p hp => f2 p (by omega), (fun k u => M2 (70 + k) u.toNat), PB, Or.inl ⟨rfl, by show M2 (70 + 0) ((((2 ^ m - 1 : Nat)) : Int)).toNat = 1000000; rw [tw]; show M2 70 (2 ^ m - 1) = 1000000; omega⟩⟩⟩
    refine wL2_of (fun x y M3 => BN wC M3 ∧ (∀ p : Nat, p ≠ 63 → M3 p = M2 p) ∧ ∃ k : Nat, y = (k : Int) ∧ k ≤ R ∧ ∃ W : Nat → Int, x = W k ∧ W 0 = (((2 ^ m - 1 : Nat)) : Int) ∧ 0 ≤ W k ∧ W k < ((2 ^ m : Nat) : Int) ∧ M2 (70 + k) (W k).toNat < 1000000 ∧ chn k (lenC M) (tvC M) (csC M) (fun k u => M2 (70 + k) u.toNat) W (M3 63)) (fun _ y _ => (1000 - y).toNat) ⟨b2, fun _ _ => rfl, 0, rfl, by omega, fun _ => (((2 ^ m - 1 : Nat)) : Int), rfl, rfl, by show (0 : Int) ≤ (((2 ^ m - 1 : Nat)) : Int); omega, by show (((2 ^ m - 1 : Nat)) : Int) < ((2 ^ m : Nat) : Int); omega, by show M2 70 ((((2 ^ m - 1 : Nat)) : Int)).toNat < 1000000; rw [tw]; omega, fun k h => absurd h (Nat.not_lt_zero k)⟩ (fun K2 x y M3 h3 k2 => ?_)
    obtain ⟨b3, f3, j, rfl, hj, W, rfl, w0, w1, w2, w3, wc⟩ := h3
    have sj : sI (j : Int) = j := sIo (by omega) (by omega)
    rw [sj]
    refine ⟨fun d3 => hQ _ _ ⟨b3, fun p hp => by rw [f3 p (by omega)]; exact f2 p (by omega), (fun k u => M2 (70 + k) u.toNat), PB, Or.inr ⟨?_, ?_, W, w0, ?_⟩⟩, fun d3 => ?_⟩
    · show t = M2 (70 + 0) ((((2 ^ m - 1 : Nat)) : Int)).toNat
      rw [tw]
      exact e
    · show M2 (70 + 0) ((((2 ^ m - 1 : Nat)) : Int)).toNat < 1000000
      rw [tw]
      show M2 70 (2 ^ m - 1) < 1000000
      omega
    · rw [show R = j by omega]
      exact wc
    · have n3 : M3 32 2 = (R : Int) := by rw [f3 32 (by omega)]; exact n2
      refine fC_find b3 (by omega) (fun h => absurd ⟨by omega, by rw [n3]; exact d3⟩ h) (fun r hr h1 h2 => ⟨(fun h => nomatch h), fun q hq => ?_⟩)
      obtain rfl := Option.some.inj hq
      obtain rfl : j = r := by omega
      obtain ⟨g1, g2, g3, g4, g5, g6⟩ := rg_cd j h2
      refine ⟨⟨g1, g2⟩, ?_⟩
      have bl : 0 ≤ M (41 + 4 * j + 1) 1 ∧ M (41 + 4 * j + 1) 1 ≤ 24 := BN.at hB g3 rfl
      have ln : M3 (41 + 4 * j + 1) 1 = ((lenC M j : Nat) : Int) := by
        rw [f3 _ (by omega), f2 _ (by omega)]
        unfold lenC
        omega
      have eW : W j = (((W j).toNat : Nat) : Int) := by omega
      obtain ⟨hv1, hv2⟩ := hv j (by omega) (by omega)
      have st3 : M3 (41 + 4 * j) 2 = M (41 + 4 * j) 2 := by rw [f3 _ (by omega), f2 _ (by omega)]
      have e70 : ∀ q : Nat, 65 ≤ q → M3 q = M2 q := fun q hq => f3 q (by omega)
      rw [eW]
      refine fC_choose (tv := tvC M j) b3 h2 ln (fun c s v => by rw [e70 _ (by omega)]; exact hv1 c s v) (by omega) ?_ (fun z M5 h5 => ?_)
      · obtain ⟨p0, p1, p2, p3⟩ := hv2 (W j).toNat (by omega)
        rcases p3 with p3 | ⟨c, s, v, p3⟩
        · omega
        · refine ⟨c, s, v, ?_⟩
          rw [e70 (70 + j) (by omega), e70 (70 + (j + 1)) (by omega), st3]
          exact p3
      · obtain ⟨c, s, hf, rfl, e5⟩ := h5
        rw [st3, e70 (70 + j) (by omega), e70 (70 + (j + 1)) (by omega), ← eW] at hf
        have ab := an_b (w := W j) (t := tvC M j c s) (by omega)
        have hf2 : csC M j c s + M2 (70 + (j + 1)) (an (W j) (tvC M j c s)).toNat = M2 (70 + j) (W j).toNat := hf.2.1
        have vv := hf.1
        have v1 := vv.1
        have v2 := vv.2
        have bst : 0 ≤ M (41 + 4 * j) 2 ∧ M (41 + 4 * j) 2 ≤ 23 := BN.at hB g2 rfl
        have l24 : lenC M j ≤ 24 := by unfold lenC; omega
        have cb : 0 ≤ csC M j c s ∧ csC M j c s ≤ 200 := cstI_b (c := c) (s := s) bst (by omega) (by omega)
        refine k2 _ _ _ ⟨by rw [e5]; exact BN.up (BN.up b3 (rfl : zcd wC 63 = 22) rfl (by omega) (by omega)) (rfl : zcd wC 63 = 22) rfl (by omega) (by omega), fun p hp => by rw [e5, zup_row _ _ hp, zup_row _ _ hp]; exact f3 p hp, j + 1, by omega, by omega, fun q => if q = j + 1 then an (W j) (tvC M j c s) else W q, ?_, ?_, ?_, ?_, ?_, fun k hk => ?_⟩ (by omega)
        · dsimp only
          rw [if_pos rfl, ← eW]
        · dsimp only
          rw [if_neg (by omega)]
          exact w0
        · dsimp only
          rw [if_pos rfl]
          exact ab.1
        · dsimp only
          rw [if_pos rfl]
          omega
        · dsimp only
          rw [if_pos rfl]
          omega
        · dsimp only
          rw [if_neg (show ¬ k = j + 1 by omega)]
          by_cases c6 : k = j
          · subst c6
            rw [if_pos rfl]
            exact ⟨c, s, by rw [e5, zup_n _ _ (by omega), zup_s], by rw [e5, zup_s], hf, rfl⟩
          · rw [if_neg (show ¬ k + 1 = j + 1 by omega)]
            obtain ⟨c7, s7, x1, x2, x3⟩ := wc k (by omega)
            exact ⟨c7, s7, by rw [e5, zup_n _ _ (by omega), zup_n _ _ (by omega)]; exact x1, by rw [e5, zup_n _ _ (by omega), zup_n _ _ (by omega)]; exact x2, x3⟩
  · obtain ⟨j, rfl⟩ : ∃ j : Nat, i = j + 1 := ⟨i - 1, by omega⟩
    have ej : ((j + 1 : Nat) : Int) - 1 = (j : Int) := by omega
    have ej1 : (j : Int) + 1 = ((j + 1 : Nat) : Int) := by omega
    have sj : sI (j : Int) = j := sIo (by omega) (by omega)
    have sj1 : sI ((j + 1 : Nat) : Int) = ((j + 1 : Nat) : Int) := sIo (by omega) (by omega)
    have tj : ((j : Int)).toNat = j := by omega
    have tj1 : (((j + 1 : Nat) : Int)).toNat = j + 1 := by omega
    rw [ej]
    refine fC_find b2 (by omega) (fun h => absurd ⟨by omega, by rw [n2]; omega⟩ h) (fun r hr h1 h2 => ⟨(fun h => nomatch h), fun q hq => ?_⟩)
    obtain rfl := Option.some.inj hq
    obtain rfl : j = r := by omega
    obtain ⟨g1, g2, g3, g4, g5, g6⟩ := rg_cd j h2
    refine ⟨⟨g1, g2⟩, ?_⟩
    have bl : 0 ≤ M (41 + 4 * j + 1) 1 ∧ M (41 + 4 * j + 1) 1 ≤ 24 := BN.at hB g3 rfl
    have l1 := hlen j (by omega)
    have bmo : 0 ≤ M (41 + 4 * j) 1 ∧ M (41 + 4 * j) 1 ≤ 1 := BN.at hB g2 rfl
    have ln : M2 (41 + 4 * j + 1) 1 = ((lenC M j : Nat) : Int) := by
      rw [f2 _ (by omega)]
      unfold lenC
      omega
    have ln1 : 1 ≤ lenC M j := by unfold lenC; omega
    have mo2 : M2 (41 + 4 * j) 1 = M (41 + 4 * j) 1 := by rw [f2 _ (by omega)]
    have st2 : M2 (41 + 4 * j) 2 = M (41 + 4 * j) 2 := by rw [f2 _ (by omega)]
    have sjj : sI ((j : Int) + 1) = ((j + 1 : Nat) : Int) := by rw [sIo (by omega) (by omega)]; omega
    have f12 : ∀ q : Nat, 35 ≤ q ∧ q ≤ 62 → M2 q = M q := fun q hq => f2 q (by omega)
    refine fC_motorOf (by rw [mo2]; exact bmo) ?_
    rw [sjj, tj, tj1, Nat.one_mul, Nat.one_mul]
    refine ⟨jmo (M2 (41 + 4 * j) 1), rfl, jmo_cd _, by omega, ?_⟩
    refine fC_listTrue b2 h2 rfl ln ln1 (fun M5 h5 => ?_)
    obtain ⟨b5, f5, v5⟩ := h5
    refine ⟨by omega, ?_⟩
    have v5' : ∀ c s : Nat, vld (lenC M j) c s → M5 (65 + j) (off (lenC M j) c + s) = tvC M j c s := fun c s v => by
      rw [v5 c s v.1 v.2]
      exact tvC_cg f12 h2
    have st5 : M5 (41 + 4 * j) 2 = M (41 + 4 * j) 2 := by rw [f5 _ (by omega)]; exact st2
    refine fC_listCheapest (tv := tvC M j) b5 h2 (by rw [f5 _ (by omega)]; exact ln) v5' (fun c s => by have := tvb j c s; omega) (fun M6 h6 => ?_)
    obtain ⟨b6, f6, v6⟩ := h6
    rw [st5] at v6
    refine ⟨by omega, by omega, ?_⟩
    refine fC_addCosts (m := m) (n := lenC M j) (tv := tvC M j) (cs := csC M j) b6 h2 (by rw [f6 _ (by omega), f5 _ (by omega)]; exact m2) v6 (fun c s => tvb j c s) (fun M7 h7 => ?_)
    obtain ⟨b7, f7, v7⟩ := h7
    have e65 : ∀ q : Nat, q ≠ 70 + j ∧ q ≠ 75 ∧ q ≠ 65 + j ∧ q ≠ 76 ∧ q ≠ 77 → M7 q = M2 q := fun q hq => by rw [f7 _ (by omega), f6 _ (by omega), f5 _ (by omega)]
    refine k _ _ ⟨b7, fun p hp => by rw [e65 _ (by omega)]; exact f2 p hp, j, by omega, by omega, fun w hw => by rw [e65 _ (by omega)]; exact hv0 w hw, fun q h3 h4 => ?_⟩ (by omega)
    by_cases c6 : q = j
    · subst c6
      refine ⟨fun c s v => ?_, fun w hw => ?_⟩
      · rw [f7 _ (by omega), f6 _ (by omega)]
        exact v5' c s v
      · have := v7 w hw
        rw [f7 (70 + (q + 1)) (by omega)]
        exact this
    · obtain ⟨x1, x2⟩ := hv q (by omega) h4
      refine ⟨fun c s v => ?_, fun w hw => ?_⟩
      · rw [e65 _ (by omega)]
        exact x1 c s v
      · rw [e65 (70 + (q + 1)) (by omega), e65 (70 + q) (by omega)]
        exact x2 w hw
end zz47z1_cfind
section zz47z2_cmake
/-! plans: the class's plan and make -/
theorem fC_plan {M : zM} (hB : BN wC M) (hlen : ∀ r : Nat, (r : Int) < M 32 2 → 1 ≤ M (41 + 4 * r + 1) 1) {Q : Int → zM → Prop} (hQ : ∀ z M1, (BN wC M1 ∧ (∀ j9 : Nat, ¬ (63 ≤ j9 ∧ j9 ≤ 77 ∨ j9 = 0 ∨ j9 = 133) → M1 j9 = M j9) ∧ ∃ pl : Nat → Int, plnP 1000000 (M 32 2).toNat (M 60 2).toNat (lenC M) (tvC M) (csC M) z pl) → Q z M1) : wC_plan M Q := by
  unfold wC_plan
  refine fC_Planner_find hB hlen (fun z M1 hp => ?_)
  obtain ⟨hB1, hF1, p1⟩ := hp
  refine ⟨fun c => hQ _ _ ⟨hB1, fun j9 h9 => hF1 j9 (by omega), _, p1⟩, fun c => ?_⟩
  have b1 : 0 ≤ M1 32 2 ∧ M1 32 2 ≤ 4 := BN.at hB1 (rfl : zcd wC 32 = 8) rfl
  refine sC_tell hB1 (by decide) (rfl : zcd wC 63 = 22) (by omega) (by decide) (fun M5 hp => ?_)
  obtain ⟨hB5, hF5, -⟩ := hp
  exact hQ _ _ ⟨hB5, fun j9 h9 => (hF5 j9 (by omega)).trans (hF1 j9 (by omega)), _, p1⟩
/-- ring r of M1 is that of M, cut by c and begun at s -/
def cutd (M M1 : zM) (r n c s : Nat) : Prop := M1 (41 + 4 * r) 1 = M (41 + 4 * r) 1 ∧ M1 (41 + 4 * r) 2 = (s : Int) ∧ M1 (41 + 4 * r) 3 = M (41 + 4 * r) 3 ∧ M1 (41 + 4 * r) 4 = M (41 + 4 * r) 4 ∧ M1 (41 + 4 * r + 1) 1 = ((n - c : Nat) : Int) ∧ M1 (41 + 4 * r + 2) = M (41 + 4 * r + 2) ∧ ∀ a : Nat, a < n - c → M1 (41 + 4 * r + 3) a = orU (M (41 + 4 * r) 3) (M (41 + 4 * r + 2)) (n - c) a 24
set_option maxHeartbeats 4000000 in
theorem fC_carryOut {M : zM} {R : Nat} {cc ss : Nat → Nat} (hB : BN wC M) (hR : M 32 2 = (R : Int)) (hc : ∀ r : Nat, r < R → M 63 (2 * r) = (cc r : Int) ∧ M 63 (2 * r + 1) = (ss r : Int) ∧ vld (lenC M r) (cc r) (ss r)) {Q : zM → Prop} (hQ : ∀ M1 : zM, BN wC M1 ∧ (∀ j9 : Nat, ¬ (41 ≤ j9 ∧ j9 ≤ 56) → M1 j9 = M j9) ∧ (∀ r : Nat, r < R → cutd M M1 r (lenC M r) (cc r) (ss r)) → Q M1) : wC_Planner_carryOut M Q := by
  unfold wC_Planner_carryOut
  have bn : 0 ≤ M 32 2 ∧ M 32 2 ≤ 4 := BN.at hB (rfl : zcd wC 32 = 8) rfl
  refine wL1_of (fun x M2 => BN wC M2 ∧ (∀ j9 : Nat, ¬ (41 ≤ j9 ∧ j9 ≤ 56) → M2 j9 = M j9) ∧ ∃ i : Nat, x = (i : Int) ∧ i ≤ 4 ∧ (∀ r : Nat, r < i → r < R → cutd M M2 r (lenC M r) (cc r) (ss r)) ∧ (∀ j9 : Nat, 41 + 4 * i ≤ j9 → M2 j9 = M j9)) (fun x _ => (1000 - x).toNat) ⟨hB, fun _ _ => rfl, 0, rfl, by omega, fun r h => absurd h (Nat.not_lt_zero r), fun _ _ => rfl⟩ (fun K x M2 h k => ?_)
  obtain ⟨b2, f2, i, rfl, hi, hd, hu⟩ := h
  have si : sI (i : Int) = i := sIo (by omega) (by omega)
  have n2 : M2 32 2 = (R : Int) := by rw [f2 32 (by omega)]; exact hR
  rw [si]
  refine ⟨fun d => hQ _ ⟨b2, f2, fun r hr => hd r (by omega) hr⟩, fun d => ?_⟩
  refine fC_find b2 (by omega) (fun h => ⟨fun _ => ?_, fun q hq => nomatch hq⟩) (fun r hr h1 h2 => ⟨(fun h => nomatch h), fun q hq => ?_⟩)
  · refine k _ _ ⟨b2, f2, i + 1, by omega, by omega, fun r h1 h2 => ?_, fun j hj => hu j (by omega)⟩ (by omega)
    by_cases c5 : r = i
    · subst c5
      exact absurd ⟨by omega, by omega⟩ h
    · exact hd r (by omega) h2
  · obtain rfl := Option.some.inj hq
    obtain rfl : i = r := by omega
    obtain ⟨g1, g2, g3, g4, g5, g6⟩ := rg_cd i h2
    have hiR : i < R := by omega
    obtain ⟨p1, p2, v1, v2⟩ := hc i hiR
    have bl : 0 ≤ M (41 + 4 * i + 1) 1 ∧ M (41 + 4 * i + 1) 1 ≤ 24 := BN.at hB g3 rfl
    have l24 : lenC M i ≤ 24 := by unfold lenC; omega
    have ln : M (41 + 4 * i + 1) 1 = ((lenC M i : Nat) : Int) := by unfold lenC; omega
    have s2 : sI (2 * (i : Int)) = ((2 * i : Nat) : Int) := by rw [sIo (by omega) (by omega)]; omega
    have s2j : sI (2 * (i : Int) + 1) = ((2 * i + 1 : Nat) : Int) := by rw [sIo (by omega) (by omega)]; omega
    have t2 : (((2 * i : Nat) : Int)).toNat = 2 * i := by omega
    have t2j : (((2 * i + 1 : Nat) : Int)).toNat = 2 * i + 1 := by omega
    rw [s2, s2j, t2, t2j]
    refine ⟨⟨g1, g2⟩, by omega, ?_⟩
    refine fC_cutBy (n := lenC M i) (c := cc i) b2 h2 (by rw [hu _ (by omega)]; exact ln) (by rw [f2 63 (by omega)]; exact p1) v1 (fun M5 h5 => ?_)
    obtain ⟨b5, f5, l5, t5, u5⟩ := h5
    rw [hu (41 + 4 * i) (by omega), hu (41 + 4 * i + 2) (by omega)] at u5
    refine ⟨by omega, fun M6 e6 => ?_⟩
    have e63 : M5 63 (2 * i + 1) = (ss i : Int) := by rw [f5 _ _ (by omega), f2 63 (by omega)]; exact p2
    rw [e63] at e6
    have f6 : ∀ p q : Nat, ¬ (p = 41 + 4 * i ∧ q = 2 ∨ p = 41 + 4 * i + 1 ∧ q = 1 ∨ p = 41 + 4 * i + 3 ∧ q < lenC M i - cc i) → M6 p q = M2 p q := fun p q hp => by
      rw [e6, zup_n _ _ (by omega)]
      exact f5 p q hp
    refine k _ _ ⟨by rw [e6]; exact BN.up b5 g2 rfl (by omega) (by omega), fun j9 h9 => ?_, i + 1, by omega, by omega, fun r h3 h4 => ?_, fun j9 h9 => ?_⟩ (by omega)
    · rw [← f2 j9 h9]
      exact funext fun q => f6 j9 q (by omega)
    · by_cases c5 : r = i
      · subst c5
        refine ⟨?_, ?_, ?_, ?_, ?_, ?_, fun a ha => ?_⟩
        · rw [f6 _ _ (by omega), hu _ (by omega)]
        · rw [e6, zup_s]
        · rw [f6 _ _ (by omega), hu _ (by omega)]
        · rw [f6 _ _ (by omega), hu _ (by omega)]
        · rw [e6, zup_n _ _ (by omega)]
          exact l5
        · rw [← hu (41 + 4 * r + 2) (by omega)]
          exact funext fun q => f6 _ q (by omega)
        · rw [e6, zup_n _ _ (by omega)]
          exact u5 a ha
      · have r4 : r < i := by omega
        obtain ⟨x1, x2, x3, x4, x5, x6, x7⟩ := hd r r4 h4
        refine ⟨?_, ?_, ?_, ?_, ?_, ?_, fun a ha => ?_⟩
        · rw [f6 _ _ (by omega)]
          exact x1
        · rw [f6 _ _ (by omega)]
          exact x2
        · rw [f6 _ _ (by omega)]
          exact x3
        · rw [f6 _ _ (by omega)]
          exact x4
        · rw [f6 _ _ (by omega)]
          exact x5
        · rw [← x6]
          exact funext fun q => f6 _ q (by omega)
        · rw [f6 _ _ (by omega)]
          exact x7 a ha
    · rw [← hu j9 (by omega)]
      exact funext fun q => f6 j9 q (by omega)
theorem chn_cs {R : Nat} {len : Nat → Nat} {tv cs : Nat → Nat → Nat → Int} {V : Nat → Int → Int} {W pl : Nat → Int} (h : chn R len tv cs V W pl) : ∀ k : Nat, k < R → pl (2 * k) = (((pl (2 * k)).toNat : Nat) : Int) ∧ pl (2 * k + 1) = (((pl (2 * k + 1)).toNat : Nat) : Int) ∧ vld (len k) (pl (2 * k)).toNat (pl (2 * k + 1)).toNat := fun k hk => by
  obtain ⟨c, s, h1, h2, h3, -⟩ := h k hk
  have e1 : (pl (2 * k)).toNat = c := by omega
  have e2 : (pl (2 * k + 1)).toNat = s := by omega
  rw [e1, e2]
  exact ⟨h1, h2, h3.1⟩
theorem fC_make {M : zM} (hB : BN wC M) (hlen : ∀ r : Nat, (r : Int) < M 32 2 → 1 ≤ M (41 + 4 * r + 1) 1) {Q : Int → zM → Prop} (hQ : ∀ z M1, (BN wC M1 ∧ (∀ j9 : Nat, ¬ (63 ≤ j9 ∧ j9 ≤ 77 ∨ 41 ≤ j9 ∧ j9 ≤ 56) → M1 j9 = M j9) ∧ ∃ pl : Nat → Int, plnP 1000000 (M 32 2).toNat (M 60 2).toNat (lenC M) (tvC M) (csC M) z pl ∧ (z = -1 → ∀ j9 : Nat, 41 ≤ j9 ∧ j9 ≤ 56 → M1 j9 = M j9) ∧ (z ≠ -1 → ∀ r : Nat, r < (M 32 2).toNat → cutd M M1 r (lenC M r) (pl (2 * r)).toNat (pl (2 * r + 1)).toNat)) → Q z M1) : wC_make M Q := by
  unfold wC_make
  have bn : 0 ≤ M 32 2 ∧ M 32 2 ≤ 4 := BN.at hB (rfl : zcd wC 32 = 8) rfl
  refine fC_Planner_find hB hlen (fun z M1 hp => ?_)
  obtain ⟨hB1, hF1, p1⟩ := hp
  refine ⟨fun c => hQ _ _ ⟨hB1, fun j9 h9 => hF1 j9 (by omega), _, p1, fun _ j9 h9 => hF1 j9 (by omega), fun h => absurd c h⟩, fun c => ?_⟩
  have e41 : ∀ q : Nat, 41 ≤ q ∧ q ≤ 56 → M1 q = M q := fun q hq => hF1 q (by omega)
  have ec : ∀ r : Nat, r < (M 32 2).toNat → lenC M1 r = lenC M r := fun r hr => by unfold lenC; rw [e41 _ (by omega)]
  have hc := p1
  obtain ⟨V, -, hc⟩ := hc
  rcases hc with hc | ⟨-, -, W, -, hc⟩
  · exact absurd hc.1 c
  have hcs := chn_cs hc
  refine fC_carryOut (R := (M 32 2).toNat) (cc := fun r => (M1 63 (2 * r)).toNat) (ss := fun r => (M1 63 (2 * r + 1)).toNat) hB1 (by rw [hF1 32 (by omega)]; omega) (fun r hr => by rw [ec r hr]; exact hcs r hr) (fun M5 h5 => ?_)
  obtain ⟨b5, f5, d5⟩ := h5
  refine hQ _ _ ⟨b5, fun j9 h9 => (f5 j9 (by omega)).trans (hF1 j9 (by omega)), M1 63, p1, fun h => absurd h c, fun _ r hr => ?_⟩
  have d := d5 r hr
  rw [ec r hr] at d
  unfold cutd at d ⊢
  rw [e41 (41 + 4 * r) (by omega), e41 (41 + 4 * r + 2) (by omega)] at d
  exact d
end zz47z2_cmake
section zz47z3_truth
/-! plans: what turnings make true, the model's -/
def tvR (M : zM) (r c s : Nat) : Int := trV (M 7 r) (fun k => M 3 (24 * r + k)) (wbF (M 11 (M 5 r).toNat) (fun i => M 9 (12 * (M 5 r).toNat + i)) (fun i => M 10 (12 * (M 5 r).toNat + i))) (M 0 16).toNat (M 12) (M 13) ((M 4 r).toNat - c) s
def lenR (M : zM) (k : Nat) : Nat := (M 4 k).toNat
def csR (M : zM) (k : Nat) : Nat → Nat → Int := cstI (M 6 k)
set_option maxHeartbeats 4000000 in
theorem fR_truths {M : zM} {r c s : Nat} (hB : BI M) (hr : (r : Int) < M 0 10) (hv : vld (lenR M r) c s) {Q : Int → Prop} (hQ : Q (tvR M r c s)) : wR_truths (r : Int) (c : Int) (s : Int) M Q := by
  unfold wR_truths
  have b10 : 0 ≤ M 0 10 ∧ M 0 10 ≤ 4 := BN.at hB.1 (rfl : zcd wR 0 = 50) rfl
  have b16 : 0 ≤ M 0 16 ∧ M 0 16 ≤ 6 := BN.at hB.1 (rfl : zcd wR 0 = 50) rfl
  have r4 : r < 4 := by omega
  have bl : 0 ≤ M 4 r ∧ M 4 r ≤ 24 := BN.at hB.1 (rfl : zcd wR 4 = 54) rfl
  have bm : 0 ≤ M 5 r ∧ M 5 r ≤ 1 := BN.at hB.1 (rfl : zcd wR 5 = 55) rfl
  obtain ⟨v1, v2⟩ := hv
  obtain ⟨n, hn⟩ : ∃ n : Nat, lenR M r = n := ⟨_, rfl⟩
  have ln : M 4 r = (n : Int) := by unfold lenR at hn; omega
  rw [hn] at v1 v2
  have sr : sI (r : Int) = r := sIo (by omega) (by omega)
  have tr : ((r : Int)).toNat = r := by omega
  have s16 : sI (M 0 16) = M 0 16 := sIo (by omega) (by omega)
  have nc : (n : Int) - (c : Int) = ((n - c : Nat) : Int) := by omega
  have snc : sI ((n - c : Nat) : Int) = ((n - c : Nat) : Int) := sIo (by omega) (by omega)
  have tn : ((n : Int)).toNat = n := by omega
  unfold tvR trV at hQ
  rw [ln, tn] at hQ
  rw [sr, tr, ln, nc, s16, snc]
  refine ⟨by omega, ?_⟩
  refine pL2_of (fun x y => ∃ m : Nat, y = (m : Int) ∧ (m : Int) ≤ M 0 16 ∧ x = trB (fun m => bt (orU (M 7 r) (fun k => M 3 (24 * r + k)) (n - c) (((s : Int) + wbF (M 11 (M 5 r).toNat) (fun i => M 9 (12 * (M 5 r).toNat + i)) (fun i => M 10 (12 * (M 5 r).toNat + i)) (M 12 m) ((n - c : Nat) : Int)) % ((n - c : Nat) : Int)).toNat 24) (M 13 m)) m) (fun _ y => (1000 - y).toNat) ⟨0, rfl, by omega, rfl⟩ (fun K x y h k => ?_)
  obtain ⟨m, rfl, hm, rfl⟩ := h
  have sm : sI (m : Int) = m := sIo (by omega) (by omega)
  have tm : ((m : Int)).toNat = m := by omega
  have rx := trB_b (b := fun m => bt (orU (M 7 r) (fun k => M 3 (24 * r + k)) (n - c) (((s : Int) + wbF (M 11 (M 5 r).toNat) (fun i => M 9 (12 * (M 5 r).toNat + i)) (fun i => M 10 (12 * (M 5 r).toNat + i)) (M 12 m) ((n - c : Nat) : Int)) % ((n - c : Nat) : Int)).toNat 24) (M 13 m)) m (by omega)
  rw [sm, tm, sIo (z := trB (fun m => bt (orU (M 7 r) (fun k => M 3 (24 * r + k)) (n - c) (((s : Int) + wbF (M 11 (M 5 r).toNat) (fun i => M 9 (12 * (M 5 r).toNat + i)) (fun i => M 10 (12 * (M 5 r).toNat + i)) (M 12 m) ((n - c : Nat) : Int)) % ((n - c : Nat) : Int)).toNat 24) (M 13 m)) m) (by omega) (by omega)]
  refine ⟨fun d => ?_, fun d => ⟨by omega, by omega, ?_⟩⟩
  · rw [show (M 0 16).toNat = m by omega] at hQ
    exact hQ
  have b12 : 0 ≤ M 12 m ∧ M 12 m ≤ 100000 := BN.at hB.1 (rfl : zcd wR 12 = 62) rfl
  have b11 : 0 ≤ M 11 (M 5 r).toNat ∧ M 11 (M 5 r).toNat ≤ 12 := BN.at hB.1 (rfl : zcd wR 11 = 61) rfl
  rw [sIo (z := M 12 m) (by omega) (by omega)]
  refine fR_wayBy (m := (M 5 r).toNat) hB (by omega) (by omega) (by omega) (by omega) (fun w hw => ?_)
  have wr := wbR_r (by omega) hw
  have ew := wbR_F b11.1 hw
  have em := emB ((s : Int) + w) ((n - c : Nat) : Int) (by omega)
  obtain ⟨a, ha⟩ : ∃ a : Nat, ((s : Int) + w) % ((n - c : Nat) : Int) = (a : Int) := ⟨(((s : Int) + w) % ((n - c : Nat) : Int)).toNat, by omega⟩
  have step : ∀ v : Int, v = (if bt (orU (M 7 r) (fun k => M 3 (24 * r + k)) (n - c) a 24) (M 13 m) = 1 then orI (trB (fun m => bt (orU (M 7 r) (fun k => M 3 (24 * r + k)) (n - c) (((s : Int) + wbF (M 11 (M 5 r).toNat) (fun i => M 9 (12 * (M 5 r).toNat + i)) (fun i => M 10 (12 * (M 5 r).toNat + i)) (M 12 m) ((n - c : Nat) : Int)) % ((n - c : Nat) : Int)).toNat 24) (M 13 m)) m) (shlI 1 (m : Int)) else trB (fun m => bt (orU (M 7 r) (fun k => M 3 (24 * r + k)) (n - c) (((s : Int) + wbF (M 11 (M 5 r).toNat) (fun i => M 9 (12 * (M 5 r).toNat + i)) (fun i => M 10 (12 * (M 5 r).toNat + i)) (M 12 m) ((n - c : Nat) : Int)) % ((n - c : Nat) : Int)).toNat 24) (M 13 m)) m) → K v ((m : Int) + 1) := fun v hv => by
    refine k _ _ ⟨m + 1, by omega, by omega, ?_⟩ (by omega)
    rw [hv]
    show _ = if bt (orU (M 7 r) (fun k => M 3 (24 * r + k)) (n - c) (((s : Int) + wbF (M 11 (M 5 r).toNat) (fun i => M 9 (12 * (M 5 r).toNat + i)) (fun i => M 10 (12 * (M 5 r).toNat + i)) (M 12 m) ((n - c : Nat) : Int)) % ((n - c : Nat) : Int)).toNat 24) (M 13 m) = 1 then _ else _
    rw [← ew, ha, show ((a : Int)).toNat = a by omega]
  refine pL2_of (fun x y => ∃ o : Nat, y = (o : Int) ∧ o ≤ 24 ∧ ((x = 1 ∧ bt (orU (M 7 r) (fun k => M 3 (24 * r + k)) (n - c) a o) (M 13 m) = 1) ∨ (x = 0 ∧ ¬ bt (orU (M 7 r) (fun k => M 3 (24 * r + k)) (n - c) a o) (M 13 m) = 1))) (fun _ y => (1000 - y).toNat) ⟨0, rfl, by omega, Or.inr ⟨rfl, fun e => by have y := bt_0 (M 13 m); have e : bt 0 (M 13 m) = 1 := e; omega⟩⟩ (fun K3 x y h3 k3 => ?_)
  obtain ⟨o, rfl, ho, hx⟩ := h3
  have so : sI (o : Int) = o := sIo (by omega) (by omega)
  have sx : sI x = x := sIo (by omega) (by omega)
  rw [so, sx]
  refine ⟨fun d2 => ?_, fun d2 => ⟨by omega, ?_⟩⟩
  · rw [show o = 24 by omega] at hx
    refine ⟨fun d3 => step _ ?_, fun d3 => step _ ?_⟩
    · rw [if_neg (by omega)]
    · rw [if_pos (by omega)]
  have b1 := bt_b (M 7 r) (o : Int)
  have hx0 : bt (M 7 r) (o : Int) ≠ 1 → orU (M 7 r) (fun k => M 3 (24 * r + k)) (n - c) a (o + 1) = orU (M 7 r) (fun k => M 3 (24 * r + k)) (n - c) a o := fun c5 => if_pos (show bt (M 7 r) (o : Int) = 0 by omega)
  have hx1 : bt (M 7 r) (o : Int) = 1 → orU (M 7 r) (fun k => M 3 (24 * r + k)) (n - c) a (o + 1) = orI (orU (M 7 r) (fun k => M 3 (24 * r + k)) (n - c) a o) (M 3 (24 * r + (a + o) % (n - c))) := fun c5 => if_neg (show ¬ bt (M 7 r) (o : Int) = 0 by omega)
  refine ⟨fun d3 => k3 _ _ ⟨o + 1, by omega, by omega, ?_⟩ (by omega), fun d3 => ?_⟩
  · rw [hx0 d3]
    exact hx
  have bo := bt_or (orU (M 7 r) (fun k => M 3 (24 * r + k)) (n - c) a o) (M 3 (24 * r + (a + o) % (n - c))) (M 13 m)
  rw [← hx1 d3] at bo
  have e1 : ((s : Int) + w + (o : Int)).tmod ((n - c : Nat) : Int) = (((a + o) % (n - c) : Nat) : Int) := by
    rw [Int.tmod_eq_emod_of_nonneg (by omega), Int.natCast_emod, Int.natCast_add, ← ha, Int.emod_add_emod]
  have lt := Nat.mod_lt (a + o) (show n - c > 0 by omega)
  rw [sIo (z := (s : Int) + w + (o : Int)) (by omega) (by omega), e1, sIo (z := 24 * (r : Int) + (((a + o) % (n - c) : Nat) : Int)) (by omega) (by omega), show (24 * (r : Int) + (((a + o) % (n - c) : Nat) : Int)).toNat = 24 * r + (a + o) % (n - c) by omega]
  refine ⟨fun d4 => k3 _ _ ⟨o + 1, by omega, by omega, Or.inl ⟨rfl, bo.mpr (Or.inl ?_)⟩⟩ (by omega), fun d4 => ⟨by omega, by omega, by omega, fun d5 => k3 _ _ ⟨o + 1, by omega, by omega, Or.inr ⟨rfl, fun e => ?_⟩⟩ (by omega), fun d5 => k3 _ _ ⟨o + 1, by omega, by omega, Or.inl ⟨rfl, bo.mpr (Or.inr d5)⟩⟩ (by omega)⟩⟩
  · rcases hx with hx | hx
    · exact hx.2
    · exact absurd hx.1 d4
  · rcases bo.mp e with e | e
    · rcases hx with hx | hx
      · omega
      · exact hx.2 e
    · exact d5 e
theorem tvR_cg {M M1 : zM} {r c s : Nat} (h : ∀ p q : Nat, p ≤ 13 → ¬ (p = 0 ∧ (q = 34 ∨ q = 35)) → M1 p q = M p q) : tvR M1 r c s = tvR M r c s := by
  unfold tvR
  rw [h 7 r (by omega) (by omega), h 5 r (by omega) (by omega), h 4 r (by omega) (by omega), h 0 16 (by omega) (by omega), h 11 _ (by omega) (by omega), show M1 12 = M 12 from funext fun q => h 12 q (by omega) (by omega), show M1 13 = M 13 from funext fun q => h 13 q (by omega) (by omega), show M1 3 = M 3 from funext fun q => h 3 q (by omega) (by omega), show M1 9 = M 9 from funext fun q => h 9 q (by omega) (by omega), show M1 10 = M 10 from funext fun q => h 10 q (by omega) (by omega)]
end zz47z3_truth
