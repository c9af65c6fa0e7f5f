/-! plans: the least plan, of both sides by one property -/
def chn (R : Nat) (len : Nat → Nat) (tv cs : Nat → Nat → Nat → Int) (V : Nat → Int → Int) (W pl : Nat → Int) : Prop := ∀ k : Nat, k < R → ∃ c s : Nat, pl (2 * k) = (c : Int) ∧ pl (2 * k + 1) = (s : Int) ∧ fsP2 (len k) (tv k) (cs k) (V (k + 1)) (W k) (V k (W k)) c s ∧ W (k + 1) = an (W k) (tv k c s)
def plB (NV : Int) (R m : Nat) (len : Nat → Nat) (tv cs : Nat → Nat → Nat → Int) (V : Nat → Int → Int) : Prop := (∀ w : Nat, w < 2 ^ m → V R (w : Int) = if w = 0 then 0 else NV) ∧ (∀ k : Nat, k < R → ∀ w : Nat, w < 2 ^ m → plP (len k) (tv k) (cs k) (V (k + 1)) NV (w : Int) (V k (w : Int)))
def plnP (NV : Int) (R m : Nat) (len : Nat → Nat) (tv cs : Nat → Nat → Nat → Int) (z : Int) (pl : Nat → Int) : Prop := ∃ V : Nat → Int → Int, plB NV R m len tv cs V ∧ ((z = -1 ∧ V 0 (((2 ^ m - 1 : Nat)) : Int) = NV) ∨ (z = V 0 (((2 ^ m - 1 : Nat)) : Int) ∧ V 0 (((2 ^ m - 1 : Nat)) : Int) < NV ∧ ∃ W : Nat → Int, W 0 = (((2 ^ m - 1 : Nat)) : Int) ∧ chn R len tv cs V W pl))
def relP (B x y : Int) : Prop := (x = y ∧ 0 ≤ x ∧ x ≤ B) ∨ (x = 1000000 ∧ y = 268435456)
theorem pl_rel {n : Nat} {tv cs tv2 cs2 : Nat → Nat → Int} {beh beh2 : Int → Int} {w x y B : Int} (b0 : 0 ≤ B ∧ B ≤ 800) (hw : 0 ≤ w ∧ w ≤ 63) (ht : ∀ c s : Nat, vld n c s → tv c s = tv2 c s) (hc : ∀ c s : Nat, vld n c s → cs c s = cs2 c s ∧ 0 ≤ cs c s ∧ cs c s ≤ 200) (hb : ∀ u : Int, 0 ≤ u → u ≤ w → relP B (beh u) (beh2 u)) (P : plP n tv cs beh 1000000 w x) (Q : plP n tv2 cs2 beh2 268435456 w y) : relP (B + 200) x y := by
  obtain ⟨p0, p1, p2, p3⟩ := P
  obtain ⟨q0, q1, q2, q3⟩ := Q
  have key : ∀ c s : Nat, vld n c s → relP B (beh (an w (tv c s))) (beh2 (an w (tv2 c s))) ∧ cs c s = cs2 c s ∧ 0 ≤ cs c s ∧ cs c s ≤ 200 := fun c s v => by
    have a := an_b (w := w) (t := tv c s) (by omega)
    rw [← ht c s v]
    exact ⟨hb _ a.1 a.2, hc c s v⟩
  unfold relP at key ⊢
  rcases q3 with q3 | ⟨c, s, v, q3⟩
  · rcases p3 with p3 | ⟨c, s, v, p3⟩
    · exact Or.inr ⟨p3, q3⟩
    · have a := key c s v
      have b := q2 c s v
      omega
  · have a := key c s v
    have b := p2 c s v
    rcases p3 with p3 | ⟨c3, s3, v3, p3⟩
    · omega
    · have a3 := key c3 s3 v3
      have b3 := q2 c3 s3 v3
      omega
theorem plB_rel {R m : Nat} {len : Nat → Nat} {tv cs tv2 cs2 : Nat → Nat → Nat → Int} {V V2 : Nat → Int → Int} (hR : R ≤ 4) (hm : m ≤ 6) (ht : ∀ k : Nat, k < R → ∀ c s : Nat, vld (len k) c s → tv k c s = tv2 k c s) (hc : ∀ k : Nat, k < R → ∀ c s : Nat, vld (len k) c s → cs k c s = cs2 k c s ∧ 0 ≤ cs k c s ∧ cs k c s ≤ 200) (P : plB 1000000 R m len tv cs V) (Q : plB 268435456 R m len tv2 cs2 V2) : ∀ j : Nat, j ≤ R → ∀ w : Nat, w < 2 ^ m → relP (200 * (j : Int)) (V (R - j) (w : Int)) (V2 (R - j) (w : Int))
  | 0, _, w, hw => by
    have a := P.1 w hw
    have b := Q.1 w hw
    unfold relP
    rw [show R - 0 = R by omega, a, b]
    by_cases c : w = 0
    · rw [if_pos c, if_pos c]
      omega
    · rw [if_neg c, if_neg c]
      omega
  | j + 1, hj, w, hw => by
    have ih := plB_rel hR hm ht hc P Q j (by omega)
    have p := P.2 (R - (j + 1)) (by omega) w hw
    have q := Q.2 (R - (j + 1)) (by omega) w hw
    have pb := pow_b m hm
    rw [show R - (j + 1) + 1 = R - j by omega] at p q
    have r := pl_rel (B := 200 * (j : Int)) (by omega) (by omega) (ht (R - (j + 1)) (by omega)) (hc (R - (j + 1)) (by omega)) (fun u u0 u1 => by
      have := ih u.toNat (by omega)
      rw [show ((u.toNat : Nat) : Int) = u by omega] at this
      exact this) p q
    rw [show 200 * ((j + 1 : Nat) : Int) = 200 * (j : Int) + 200 by omega]
    exact r
theorem fs_uq {n : Nat} {tv cs tv2 cs2 : Nat → Nat → Int} {beh beh2 : Int → Int} {w X Y B : Int} {c s c2 s2 : Nat} (b0 : 0 ≤ B ∧ B ≤ 800) (hw : 0 ≤ w ∧ w ≤ 63) (ht : ∀ c s : Nat, vld n c s → tv c s = tv2 c s) (hc : ∀ c s : Nat, vld n c s → cs c s = cs2 c s ∧ 0 ≤ cs c s ∧ cs c s ≤ 200) (hb : ∀ u : Int, 0 ≤ u → u ≤ w → relP B (beh u) (beh2 u)) (hX : X = Y ∧ 0 ≤ X ∧ X < 1000000) (P : fsP2 n tv cs beh w X c s) (Q : fsP2 n tv2 cs2 beh2 w Y c2 s2) : c = c2 ∧ s = s2 := by
  obtain ⟨p1, p2, p3⟩ := P
  obtain ⟨q1, q2, q3⟩ := Q
  have key : ∀ c s : Nat, vld n c s → relP B (beh (an w (tv c s))) (beh2 (an w (tv2 c s))) ∧ cs c s = cs2 c s ∧ 0 ≤ cs c s ∧ cs c s ≤ 200 := fun c s v => by
    have a := an_b (w := w) (t := tv c s) (by omega)
    rw [← ht c s v]
    exact ⟨hb _ a.1 a.2, hc c s v⟩
  unfold relP at key
  have a := key c s p1
  have b := key c2 s2 q1
  have t : bef c s c2 s2 ∨ bef c2 s2 c s ∨ (c = c2 ∧ s = s2) := by unfold bef; omega
  rcases t with t | t | t
  · have x := p3 c2 s2 q1 t
    omega
  · have x := q3 c s p1 t
    omega
  · exact t
theorem pln_det {R m : Nat} {len : Nat → Nat} {tv cs tv2 cs2 : Nat → Nat → Nat → Int} {z z2 : Int} {pl pl2 : Nat → Int} (hR : R ≤ 4) (hm : m ≤ 6) (ht : ∀ k : Nat, k < R → ∀ c s : Nat, vld (len k) c s → tv k c s = tv2 k c s) (hc : ∀ k : Nat, k < R → ∀ c s : Nat, vld (len k) c s → cs k c s = cs2 k c s ∧ 0 ≤ cs k c s ∧ cs k c s ≤ 200) (P : plnP 1000000 R m len tv cs z pl) (Q : plnP 268435456 R m len tv2 cs2 z2 pl2) : z = z2 ∧ (z ≠ -1 → ∀ k : Nat, k < R → ∃ c s : Nat, vld (len k) c s ∧ pl (2 * k) = (c : Int) ∧ pl (2 * k + 1) = (s : Int) ∧ pl2 (2 * k) = (c : Int) ∧ pl2 (2 * k + 1) = (s : Int)) := by
  obtain ⟨V, PB, PC⟩ := P
  obtain ⟨V2, QB, QC⟩ := Q
  have rl := plB_rel hR hm ht hc PB QB
  have pb := pow_b m hm
  have r0 := rl R (by omega) (2 ^ m - 1) (by omega)
  rw [show R - R = 0 by omega] at r0
  have r0' := r0
  unfold relP at r0'
  rcases PC with ⟨p1, p2⟩ | ⟨p1, p2, W, p3, p4⟩
  · rcases QC with ⟨q1, q2⟩ | ⟨q1, q2, -⟩
    · exact ⟨by omega, fun h => absurd p1 h⟩
    · omega
  · rcases QC with ⟨q1, q2⟩ | ⟨q1, q2, W2, q3, q4⟩
    · omega
    · refine ⟨by omega, fun _ => ?_⟩
      have ch : ∀ k : Nat, k ≤ R → W k = W2 k ∧ 0 ≤ W k ∧ W k ≤ (((2 ^ m - 1 : Nat)) : Int) ∧ V k (W k) < 1000000 := fun k => by
        induction k with
        | zero => intro _; exact ⟨by omega, by omega, by omega, by rw [p3]; exact p2⟩
        | succ k ih =>
          intro hk
          obtain ⟨i1, i2, i3, i4⟩ := ih (by omega)
          obtain ⟨c, s, -, -, f1, f2⟩ := p4 k (by omega)
          obtain ⟨c2, s2, -, -, g1, g2⟩ := q4 k (by omega)
          have rk := rl (R - k) (by omega) (W k).toNat (by omega)
          rw [show R - (R - k) = k by omega, show (((W k).toNat : Nat) : Int) = W k by omega] at rk
          unfold relP at rk
          rw [← i1] at g1 g2
          obtain ⟨e1, e2⟩ := fs_uq (B := 200 * ((R - (k + 1) : Nat) : Int)) (by omega) ⟨i2, by omega⟩ (ht k (by omega)) (hc k (by omega)) (fun u u0 u1 => by
            have := rl (R - (k + 1)) (by omega) u.toNat (by omega)
            rw [show R - (R - (k + 1)) = k + 1 by omega, show ((u.toNat : Nat) : Int) = u by omega] at this
            exact this) (by omega) f1 g1
          subst e1
          subst e2
          have a := an_b (w := W k) (t := tv k c s) (by omega)
          have cb := hc k (by omega) c s f1.1
          have f12 := f1.2.1
          rw [f2]
          exact ⟨by rw [g2, ht k (by omega) c s f1.1], by omega, by omega, by omega⟩
      intro k hk
      obtain ⟨i1, i2, i3, i4⟩ := ch k (by omega)
      obtain ⟨c, s, d1, d2, f1, f2⟩ := p4 k (by omega)
      obtain ⟨c2, s2, h1, h2, g1, g2⟩ := q4 k (by omega)
      have rk := rl (R - k) (by omega) (W k).toNat (by omega)
      rw [show R - (R - k) = k by omega, show (((W k).toNat : Nat) : Int) = W k by omega] at rk
      unfold relP at rk
      rw [← i1] at g1 g2
      obtain ⟨e1, e2⟩ := fs_uq (B := 200 * ((R - (k + 1) : Nat) : Int)) (by omega) ⟨i2, by omega⟩ (ht k (by omega)) (hc k (by omega)) (fun u u0 u1 => by
        have := rl (R - (k + 1)) (by omega) u.toNat (by omega)
        rw [show R - (R - (k + 1)) = k + 1 by omega, show ((u.toNat : Nat) : Int) = u by omega] at this
        exact this) (by omega) f1 g1
      subst e1
      subst e2
      exact ⟨c, s, f1.1, d1, d2, h1, h2⟩
