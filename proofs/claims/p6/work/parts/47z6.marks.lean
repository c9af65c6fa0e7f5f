/-! marks and those that are true -/
def cMk (cnt a0 a1 : Int) : Prop := (0 ≤ a0 ∧ a0 ≤ 100000) ∧ (1 ≤ a1 ∧ a1 ≤ 9) ∧ cnt < 6
theorem fC_mark {M : zM} {a0 a1 : Int} (hB : BN wC M) (v0 : -2147483648 ≤ a0 ∧ a0 ≤ 2147483647) (v1 : -2147483648 ≤ a1 ∧ a1 ≤ 2147483647) {Q : Int → zM → Prop} (hQ : ∀ (z : Int) (M1 : zM), BN wC M1 ∧ (∀ j9 : Nat, ¬ (60 ≤ j9 ∧ j9 ≤ 77) → M1 j9 = M j9) ∧ ((cMk (M 60 2) a0 a1 ∧ z = M 60 2 + 1 ∧ M1 60 2 = M 60 2 + 1 ∧ (∀ k : Nat, M1 61 k = if (k : Int) = M 60 2 then a0 else M 61 k) ∧ (∀ k : Nat, M1 62 k = if (k : Int) = M 60 2 then a1 else M 62 k)) ∨ (¬ cMk (M 60 2) a0 a1 ∧ z = -1 ∧ M1 = M)) → Q z M1) : wC_mark a0 a1 M Q := by
  unfold wC_mark
  have bc : 0 ≤ M 60 2 ∧ M 60 2 ≤ 6 := BN.at hB (rfl : zcd wC 60 = 19) rfl
  have no : ¬ cMk (M 60 2) a0 a1 → Q (-1) M := fun h => hQ _ _ ⟨hB, fun _ _ => rfl, Or.inr ⟨h, rfl, rfl⟩⟩
  refine sC_within hB v0 (by omega) (by omega) (fun z2 h2 => ?_)
  obtain ⟨-, h2, -⟩ := h2
  refine ⟨fun c => no (fun x => by have := x.1; omega), fun c => ?_⟩
  refine sC_isSound hB v1 (fun z7 h7 => ?_)
  obtain ⟨-, h7, -⟩ := h7
  refine ⟨fun d => ?_, fun d => no (fun x => by have := x.2.1; omega)⟩
  have g0 : 0 ≤ a0 ∧ a0 ≤ 100000 := by omega
  have g1 : 1 ≤ a1 ∧ a1 ≤ 9 := by omega
  clear h2 h7 c d
  unfold wC_Planner_add
  obtain ⟨m, hm⟩ : ∃ m : Nat, M 60 2 = (m : Int) := ⟨(M 60 2).toNat, by omega⟩
  have sm : sI (M 60 2) = (m : Int) := by rw [hm]; exact sIo (by omega) (by omega)
  have tm : ((m : Int)).toNat = m := by omega
  rw [sm, tm]
  refine ⟨fun c => ⟨by omega, fun M3 e3 => ?_⟩, fun c => no (fun x => by have := x.2.2; omega)⟩
  have r3 : M3 60 2 = (m : Int) := by rw [e3, zup_n _ _ (by omega)]; exact hm
  have s3 : sI (M3 60 2) = (m : Int) := by rw [r3]; exact sIo (by omega) (by omega)
  rw [s3, tm]
  refine ⟨by omega, fun M6 e6 M8 e8 => ?_⟩
  have r6 : M6 60 2 = (m : Int) := by rw [e6, zup_n _ _ (by omega)]; exact r3
  rw [r6] at e8
  have r8 : M8 60 2 = (m : Int) + 1 := by rw [e8, zup_s]
  rw [r8, sIo (z := (m : Int) + 1) (by omega) (by omega)]
  refine hQ _ _ ⟨?_, fun j9 h9 => ?_, Or.inl ⟨⟨g0, g1, by omega⟩, by omega, by omega, fun k => ?_, fun k => ?_⟩⟩
  · rw [e8, e6, e3]
    exact BN.up (BN.up (BN.up hB (rfl : zcd wC 61 = 20) rfl (by omega) (by omega)) (rfl : zcd wC 62 = 21) rfl (by omega) (by omega)) (rfl : zcd wC 60 = 19) rfl (by omega) (by omega)
  · rw [e8, zup_row _ _ (by omega), e6, zup_row _ _ (by omega), e3, zup_row _ _ (by omega)]
  · rw [e8, zup_n _ _ (by omega), e6, zup_n _ _ (by omega), e3]
    by_cases c5 : k = m
    · rw [c5, zup_s, if_pos (by omega)]
    · rw [zup_n _ _ (by omega), if_neg (by omega)]
  · rw [e8, zup_n _ _ (by omega), e6]
    by_cases c5 : k = m
    · rw [c5, zup_s, if_pos (by omega)]
    · rw [zup_n _ _ (by omega), if_neg (by omega), e3, zup_n _ _ (by omega)]
theorem fR_mark {M : zM} {a0 a1 : Int} (hB : BI M) (v0 : -2147483648 ≤ a0 ∧ a0 ≤ 2147483647) (v1 : -2147483648 ≤ a1 ∧ a1 ≤ 2147483647) {Q : Int → zM → Prop} (hQ : ∀ (z : Int) (M1 : zM), BI M1 ∧ (∀ j9 k9 : Nat, ¬ (j9 = 0 ∧ k9 = 35 ∨ j9 = 0 ∧ k9 = 16 ∨ j9 = 12 ∨ j9 = 13) → M1 j9 k9 = M j9 k9) ∧ ((cMk (M 0 16) a0 a1 ∧ z = M 0 16 + 1 ∧ M1 0 16 = M 0 16 + 1 ∧ (∀ k : Nat, M1 12 k = if (k : Int) = M 0 16 then a0 else M 12 k) ∧ (∀ k : Nat, M1 13 k = if (k : Int) = M 0 16 then a1 else M 13 k)) ∨ (¬ cMk (M 0 16) a0 a1 ∧ z = -1 ∧ M1 0 16 = M 0 16 ∧ M1 12 = M 12 ∧ M1 13 = M 13)) → Q z M1) : wR_mark a0 a1 M Q := by
  unfold wR_mark
  intro M1 e1
  have hB1 : BI M1 := by rw [e1]; exact BI.up0 hB (rfl : cbt 50 35 = (-2147483648, 2147483647)) (by omega) (by omega) (by decide)
  have F1 : ∀ j9 k9 : Nat, ¬ (j9 = 0 ∧ k9 = 35) → M1 j9 k9 = M j9 k9 := fun j9 k9 h9 => by rw [e1]; exact zup_n _ _ (by omega)
  have r16 : M1 0 16 = M 0 16 := F1 0 16 (by omega)
  have bc : 0 ≤ M 0 16 ∧ M 0 16 ≤ 6 := BN.at hB.1 (rfl : zcd wR 0 = 50) rfl
  have no : ¬ cMk (M 0 16) a0 a1 → Q (-1) M1 := fun h => hQ _ _ ⟨hB1, fun j9 k9 h9 => F1 j9 k9 (by omega), Or.inr ⟨h, rfl, r16, funext fun k => F1 12 k (by omega), funext fun k => F1 13 k (by omega)⟩⟩
  refine sR_in hB1 v0 (by omega) (by omega) (fun z2 h2 => ?_)
  obtain ⟨-, h2, -⟩ := h2
  refine ⟨fun c => no (fun x => by have := x.1; omega), fun c => ?_⟩
  refine sR_in hB1 v1 (by omega) (by omega) (fun z7 h7 => ?_)
  obtain ⟨-, h7, -⟩ := h7
  refine ⟨fun d => no (fun x => by have := x.2.1; omega), fun d => ?_⟩
  have g0 : 0 ≤ a0 ∧ a0 ≤ 100000 := by omega
  have g1 : 1 ≤ a1 ∧ a1 ≤ 9 := by omega
  clear h2 h7 c d
  obtain ⟨m, hm⟩ : ∃ m : Nat, M 0 16 = (m : Int) := ⟨(M 0 16).toNat, by omega⟩
  have sm : sI (M 0 16) = (m : Int) := by rw [hm]; exact sIo (by omega) (by omega)
  have tm : ((m : Int)).toNat = m := by omega
  rw [r16, sm, tm]
  refine ⟨fun c => ⟨by omega, fun M3 e3 => ?_⟩, fun c => no (fun x => by have := x.2.2; omega)⟩
  have r3 : M3 0 16 = (m : Int) := by rw [e3, zup_n _ _ (by omega)]; omega
  have s3 : sI (M3 0 16) = (m : Int) := by rw [r3]; exact sIo (by omega) (by omega)
  rw [s3, tm]
  refine ⟨by omega, fun M6 e6 M8 e8 => ?_⟩
  have r6 : M6 0 16 = (m : Int) := by rw [e6, zup_n _ _ (by omega)]; exact r3
  rw [r6] at e8
  have r8 : M8 0 16 = (m : Int) + 1 := by rw [e8, zup_s]
  rw [r8, sIo (z := (m : Int) + 1) (by omega) (by omega)]
  refine hQ _ _ ⟨?_, fun j9 k9 h9 => ?_, Or.inl ⟨⟨g0, g1, by omega⟩, by omega, by omega, fun k => ?_, fun k => ?_⟩⟩
  · rw [e8, e6, e3]
    exact BI.up0 (BI.up (BI.up hB1 (rfl : zcd wR 12 = 62) rfl (by omega) (by omega) (by decide)) (rfl : zcd wR 13 = 63) rfl (by omega) (by omega) (by decide)) (rfl : cbt 50 16 = (0, 6)) (by omega) (by omega) (by decide)
  · rw [e8, zup_n _ _ (by omega), e6, zup_n _ _ (by omega), e3, zup_n _ _ (by omega)]
    exact F1 j9 k9 (by omega)
  · rw [e8, zup_n _ _ (by omega), e6, zup_n _ _ (by omega), e3]
    by_cases c5 : k = m
    · rw [c5, zup_s, if_pos (by omega)]
    · rw [zup_n _ _ (by omega), if_neg (by omega)]
      exact F1 12 k (by omega)
  · rw [e8, zup_n _ _ (by omega), e6]
    by_cases c5 : k = m
    · rw [c5, zup_s, if_pos (by omega)]
    · rw [zup_n _ _ (by omega), if_neg (by omega), e3, zup_n _ _ (by omega)]
      exact F1 13 k (by omega)
theorem iMk_kept {MC MR M8 M9 : zM} (h : iMk MC MR) (hC : ∀ j : Nat, 61 ≤ j ∧ j ≤ 62 → M8 j = MC j) (h0 : M8 60 2 = MC 60 2) (h16 : M9 0 16 = MR 0 16) (h12 : M9 12 = MR 12) (h13 : M9 13 = MR 13) : iMk M8 M9 := by
  unfold iMk
  rw [h0, h16, hC 61 (by omega), hC 62 (by omega), h12, h13]
  exact h
theorem mk_mark {MC MR M8 M9 : zM} {a0 a1 z z9 : Int} (h : iMk MC MR) (p : (cMk (MC 60 2) a0 a1 ∧ z = MC 60 2 + 1 ∧ M8 60 2 = MC 60 2 + 1 ∧ (∀ k : Nat, M8 61 k = if (k : Int) = MC 60 2 then a0 else MC 61 k) ∧ (∀ k : Nat, M8 62 k = if (k : Int) = MC 60 2 then a1 else MC 62 k)) ∨ (¬ cMk (MC 60 2) a0 a1 ∧ z = -1 ∧ M8 = MC)) (q : (cMk (MR 0 16) a0 a1 ∧ z9 = MR 0 16 + 1 ∧ M9 0 16 = MR 0 16 + 1 ∧ (∀ k : Nat, M9 12 k = if (k : Int) = MR 0 16 then a0 else MR 12 k) ∧ (∀ k : Nat, M9 13 k = if (k : Int) = MR 0 16 then a1 else MR 13 k)) ∨ (¬ cMk (MR 0 16) a0 a1 ∧ z9 = -1 ∧ M9 0 16 = MR 0 16 ∧ M9 12 = MR 12 ∧ M9 13 = MR 13)) : z = z9 ∧ iMk M8 M9 := by
  obtain ⟨h1, h2⟩ := h
  rw [← h1] at q
  rcases p with ⟨c, p1, p2, p3, p4⟩ | ⟨c, p1, p2⟩
  · rcases q with ⟨-, q1, q2, q3, q4⟩ | ⟨c2, -⟩
    · refine ⟨by omega, by omega, fun k hk => ?_⟩
      rw [p3, p4, q3, q4]
      by_cases c5 : (k : Int) = MC 60 2
      · rw [if_pos c5, if_pos c5, if_pos c5, if_pos c5]
        exact ⟨rfl, rfl⟩
      · rw [if_neg c5, if_neg c5, if_neg c5, if_neg c5]
        exact h2 k (by omega)
    · exact absurd c c2
  · rcases q with ⟨c2, -⟩ | ⟨-, q1, q2, q3, q4⟩
    · exact absurd c2 c
    · rw [p2]
      exact ⟨by omega, by unfold iMk; rw [q2, q3, q4]; exact ⟨rfl, h2⟩⟩
theorem orI_as (a b c d : Int) (ha : 0 ≤ a ∧ a ≤ 63) (hb : 0 ≤ b ∧ b ≤ 63) (hc : 0 ≤ c ∧ c ≤ 63) (hd : 0 ≤ d ∧ d ≤ 63) : orI (orI a b) (orI c d) = orI (orI a c) (orI b d) := by
  have o := fun x y (hx : 0 ≤ x ∧ x ≤ 63) (hy : 0 ≤ y ∧ y ≤ 63) => or64 x y hx.1 hx.2 hy.1 hy.2
  have o1 := o a b ha hb
  have o2 := o c d hc hd
  have o3 := o a c ha hc
  have o4 := o b d hb hd
  have n : ∀ x y : Int, 0 ≤ x ∧ x ≤ 63 → 0 ≤ y ∧ y ≤ 63 → (orI x y).toNat = x.toNat ||| y.toNat := fun x y hx hy => by
    rw [orI_nat hx.1 (by omega) hy.1 (by omega)]
    rfl
  rw [orI_nat o1.1 (by omega) o2.1 (by omega), orI_nat o3.1 (by omega) o4.1 (by omega), n a b ha hb, n c d hc hd, n a c ha hc, n b d hb hd]
  congr 1
  rw [Nat.or_assoc, Nat.or_assoc, ← Nat.or_assoc b.toNat, ← Nat.or_assoc c.toNat, Nat.or_comm b.toNat c.toNat]
theorem trB_or {b1 b2 b3 : Nat → Int} : ∀ m : Nat, m ≤ 6 → (∀ k : Nat, k < m → (b3 k = 1 ↔ b1 k = 1 ∨ b2 k = 1)) → trB b3 m = orI (trB b1 m) (trB b2 m)
  | 0, _, _ => by
    show (0 : Int) = orI 0 0
    decide
  | m + 1, hm, h => by
    have ih := trB_or (b1 := b1) (b2 := b2) (b3 := b3) m (by omega) (fun k hk => h k (by omega))
    have x1 := trB_b (b := b1) m (by omega)
    have x2 := trB_b (b := b2) m (by omega)
    have s := shl01 1 (m : Int) (by omega) (by omega) (by omega) (by omega)
    have hh := h m (by omega)
    show (if b3 m = 1 then orI (trB b3 m) (shlI 1 (m : Int)) else trB b3 m) = orI (if b1 m = 1 then orI (trB b1 m) (shlI 1 (m : Int)) else trB b1 m) (if b2 m = 1 then orI (trB b2 m) (shlI 1 (m : Int)) else trB b2 m)
    have z1 : orI (shlI 1 (m : Int)) (shlI 1 (m : Int)) = shlI 1 (m : Int) := by
      rw [orI_nat (by omega) (by omega) (by omega) (by omega), Nat.or_self]
      omega
    have z0 : orI 0 (shlI 1 (m : Int)) = shlI 1 (m : Int) := by
      rw [orI_nat (by omega) (by omega) (by omega) (by omega), show (0 : Int).toNat = 0 from rfl, Nat.zero_or]
      omega
    by_cases c1 : b1 m = 1
    · rw [if_pos c1, if_pos (hh.mpr (Or.inl c1)), ih]
      by_cases c2 : b2 m = 1
      · rw [if_pos c2, orI_as _ _ _ _ x1 ⟨by omega, by omega⟩ x2 ⟨by omega, by omega⟩, z1]
      · rw [if_neg c2]
        have e := orI_as (trB b1 m) (shlI 1 (m : Int)) (trB b2 m) 0 x1 ⟨by omega, by omega⟩ x2 ⟨by omega, by omega⟩
        rw [orI_0 (x := trB b2 m) (by omega), orI_0 (x := shlI 1 (m : Int)) (by omega)] at e
        exact e.symm
    · rw [if_neg c1]
      by_cases c2 : b2 m = 1
      · rw [if_pos c2, if_pos (hh.mpr (Or.inr c2)), ih]
        have e := orI_as (trB b1 m) 0 (trB b2 m) (shlI 1 (m : Int)) x1 ⟨by omega, by omega⟩ x2 ⟨by omega, by omega⟩
        rw [orI_0 (x := trB b1 m) (by omega), z0] at e
        exact e.symm
      · rw [if_neg c2, if_neg (fun x => (hh.mp x).elim c1 c2), ih]
theorem trB_0 {b : Nat → Int} : ∀ m : Nat, (∀ k : Nat, k < m → ¬ b k = 1) → trB b m = 0
  | 0, _ => rfl
  | m + 1, h => by
    show (if b m = 1 then orI (trB b m) (shlI 1 (m : Int)) else trB b m) = 0
    rw [if_neg (h m (by omega))]
    exact trB_0 m (fun k hk => h k (by omega))
theorem trB_orF {u : Nat → Nat → Int} {sd : Nat → Int} {m : Nat} (hm : m ≤ 6) : ∀ R : Nat, trB (fun k => bt (orF (fun r => u r k) R) (sd k)) m = orF (fun r => trB (fun k => bt (u r k) (sd k)) m) R
  | 0 => trB_0 m (fun k _ e => by
    have y := bt_0 (sd k)
    have e : bt 0 (sd k) = 1 := e
    omega)
  | R + 1 => by
    show trB (fun k => bt (orI (orF (fun r => u r k) R) (u R k)) (sd k)) m = orI (orF (fun r => trB (fun k => bt (u r k) (sd k)) m) R) (trB (fun k => bt (u R k) (sd k)) m)
    rw [← trB_orF hm R]
    exact trB_or m hm (fun k _ => bt_or _ _ _)
theorem kept_det {MC MR : zM} {z z9 : Int} (hC : BN wC MC) (hR : iRi MC MR) (hM : iMo (MC 35) (MC 36) (MC 37) (MC 38) (MC 39) (MC 40) (MR 9) (MR 10) (MR 11)) (hK : iMk MC MR) (p : ∃ H : Nat → Int, (∀ m : Nat, (m : Int) < MC 60 2 → ∃ v : Nat → Int, (∀ r : Nat, (r : Int) < MC 32 2 → hvC MC (MC 61 m) r (v r)) ∧ H m = orF v (MC 32 2).toNat) ∧ z = trB (fun m => bt (H m) (MC 62 m)) (MC 60 2).toNat) (q : z9 = orF (fun r => tvR MR r 0 (MR 6 r).toNat) (MR 0 10).toNat) : z = z9 := by
  obtain ⟨H, hH, rfl⟩ := p
  have bn : 0 ≤ MC 32 2 ∧ MC 32 2 ≤ 4 := BN.at hC (rfl : zcd wC 32 = 8) rfl
  have bc : 0 ≤ MC 60 2 ∧ MC 60 2 ≤ 6 := BN.at hC (rfl : zcd wC 60 = 19) rfl
  have eH : ∀ m : Nat, m < (MC 60 2).toNat → H m = orF (fun r => orU (MC (41 + 4 * r) 3) (MC (41 + 4 * r + 2)) (lenC MC r) (((((MC (41 + 4 * r) 2).toNat : Nat) : Int) + wbF (MC (jmo (MC (41 + 4 * r) 1)) 2) (MC (jmo (MC (41 + 4 * r) 1) + 1)) (MC (jmo (MC (41 + 4 * r) 1) + 2)) (MC 61 m) ((lenC MC r : Nat) : Int)) % ((lenC MC r : Nat) : Int)).toNat 24) (MC 32 2).toNat := fun m hm => by
    obtain ⟨v, v1, v2⟩ := hH m (by omega)
    rw [v2]
    refine orF_cg _ (fun r hr => ?_)
    obtain ⟨n, w, w1, w2, w3⟩ := v1 r (by omega)
    obtain ⟨g1, g2, -⟩ := rg_cd r (by omega)
    have bs : 0 ≤ MC (41 + 4 * r) 2 ∧ MC (41 + 4 * r) 2 ≤ 23 := BN.at hC g2 rfl
    have bj : 0 ≤ MC (jmo (MC (41 + 4 * r) 1)) 2 ∧ MC (jmo (MC (41 + 4 * r) 1)) 2 ≤ 12 := BN.at hC (jmo_cd _).2 rfl
    have en : lenC MC r = n := by unfold lenC; omega
    rw [w3, wbR_F bj.1 w2]
    rw [en, show (((MC (41 + 4 * r) 2).toNat : Nat) : Int) = MC (41 + 4 * r) 2 by omega]
  have e1 : trB (fun m => bt (H m) (MC 62 m)) (MC 60 2).toNat = trB (fun m => bt (orF (fun r => orU (MC (41 + 4 * r) 3) (MC (41 + 4 * r + 2)) (lenC MC r) (((((MC (41 + 4 * r) 2).toNat : Nat) : Int) + wbF (MC (jmo (MC (41 + 4 * r) 1)) 2) (MC (jmo (MC (41 + 4 * r) 1) + 1)) (MC (jmo (MC (41 + 4 * r) 1) + 2)) (MC 61 m) ((lenC MC r : Nat) : Int)) % ((lenC MC r : Nat) : Int)).toNat 24) (MC 32 2).toNat) (MC 62 m)) (MC 60 2).toNat := trB_cg _ (fun m hm => by rw [eH m hm])
  rw [e1, trB_orF (u := fun r m => orU (MC (41 + 4 * r) 3) (MC (41 + 4 * r + 2)) (lenC MC r) (((((MC (41 + 4 * r) 2).toNat : Nat) : Int) + wbF (MC (jmo (MC (41 + 4 * r) 1)) 2) (MC (jmo (MC (41 + 4 * r) 1) + 1)) (MC (jmo (MC (41 + 4 * r) 1) + 2)) (MC 61 m) ((lenC MC r : Nat) : Int)) % ((lenC MC r : Nat) : Int)).toNat 24) (by omega), q, ← hR.1]
  refine orF_cg _ (fun r hr => ?_)
  obtain ⟨n, a1, a2, a3, a4, a5, a6, -⟩ := hR.2.2 r (by omega)
  rw [← a6, ← tv_det hC hR hM hK (by omega) (by unfold lenC; omega)]
  rfl
