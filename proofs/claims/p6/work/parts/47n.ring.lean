/-! rings: what is under the heads -/
theorem tm_em (a b : Int) : a % b = (a.tmod b) % b := by
  have h : a.tmod b + b * a.tdiv b = a := Int.tmod_add_mul_tdiv a b
  have e := Int.add_mul_emod_self_left (a.tmod b) b (a.tdiv b)
  rw [h] at e
  exact e
theorem fC_by {M : zM} {a0 a1 : Int} (v0 : -9223372036854775808 ≤ a0 ∧ a0 ≤ 9223372036854775807) (v1 : 1 ≤ a1 ∧ a1 ≤ 2147483647) {Q : Int → Prop} (hQ : Q (a0 % a1)) : wC_by a0 a1 M Q := by
  unfold wC_by
  have s0 : sL a0 = a0 := sLo v0.1 v0.2
  have s1 : sI a1 = a1 := sIo (by omega) (by omega)
  have b := tmodB a0 a1 (by omega)
  have s2 : sI (a0.tmod a1) = a0.tmod a1 := sIo (by omega) (by omega)
  have e := tm_em a0 a1
  rw [s0, s1, s2]
  refine ⟨fun c => ⟨by omega, fun c2 => ?_, fun c2 => ?_⟩, fun c => absurd c (by omega)⟩
  · rw [Int.emod_eq_of_lt c2 b.2] at e
    rw [← e]
    exact hQ
  · have s3 : sI (a0.tmod a1 + a1) = a0.tmod a1 + a1 := sIo (by omega) (by omega)
    have e2 := Int.add_emod_right (a0.tmod a1) a1
    rw [Int.emod_eq_of_lt (by omega) (by omega)] at e2
    rw [s3, e2, ← e]
    exact hQ
def bcI (x : Int) : Int := andI (((andI (((andI (x - (andI (ushrI x 1) 1431655765)) 858993459) + (andI (ushrI (x - (andI (ushrI x 1) 1431655765)) 2) 858993459)) + (ushrI ((andI (x - (andI (ushrI x 1) 1431655765)) 858993459) + (andI (ushrI (x - (andI (ushrI x 1) 1431655765)) 2) 858993459)) 4)) 252645135) + (ushrI (andI (((andI (x - (andI (ushrI x 1) 1431655765)) 858993459) + (andI (ushrI (x - (andI (ushrI x 1) 1431655765)) 2) 858993459)) + (ushrI ((andI (x - (andI (ushrI x 1) 1431655765)) 858993459) + (andI (ushrI (x - (andI (ushrI x 1) 1431655765)) 2) 858993459)) 4)) 252645135) 8)) + (ushrI ((andI (((andI (x - (andI (ushrI x 1) 1431655765)) 858993459) + (andI (ushrI (x - (andI (ushrI x 1) 1431655765)) 2) 858993459)) + (ushrI ((andI (x - (andI (ushrI x 1) 1431655765)) 858993459) + (andI (ushrI (x - (andI (ushrI x 1) 1431655765)) 2) 858993459)) 4)) 252645135) + (ushrI (andI (((andI (x - (andI (ushrI x 1) 1431655765)) 858993459) + (andI (ushrI (x - (andI (ushrI x 1) 1431655765)) 2) 858993459)) + (ushrI ((andI (x - (andI (ushrI x 1) 1431655765)) 858993459) + (andI (ushrI (x - (andI (ushrI x 1) 1431655765)) 2) 858993459)) 4)) 252645135) 8)) 16)) 63
theorem fC_bitCount {M : zM} {a0 : Int} {Q : Int → Prop} (hQ : Q (bcI a0)) : wC_bitCount a0 M Q := by
  unfold wC_bitCount
  intro t1 e1 t3 e3
  subst e1
  subst e3
  exact hQ
theorem fR_bitCount {M : zM} {a0 : Int} {Q : Int → Prop} (hQ : Q (bcI a0)) : wR_bitCount a0 M Q := by
  unfold wR_bitCount
  intro t1 e1 t3 e3
  subst e1
  subst e3
  exact hQ
def orU (h : Int) (I : Nat → Int) (n a : Nat) : Nat → Int
  | 0 => 0
  | o + 1 => if andI (shrI h (o : Int)) 1 = 0 then orU h I n a o else orI (orU h I n a o) (I ((a + o) % n))
theorem orU_r (h : Int) (I : Nat → Int) (n a : Nat) : ∀ o : Nat, -2147483648 ≤ orU h I n a o ∧ orU h I n a o ≤ 2147483647
  | 0 => ⟨by show -2147483648 ≤ (0 : Int); omega, by show (0 : Int) ≤ 2147483647; omega⟩
  | o + 1 => by
    have a1 := orU_r h I n a o
    show -2147483648 ≤ (if andI (shrI h (o : Int)) 1 = 0 then orU h I n a o else orI (orU h I n a o) (I ((a + o) % n))) ∧ (if andI (shrI h (o : Int)) 1 = 0 then orU h I n a o else orI (orU h I n a o) (I ((a + o) % n))) ≤ 2147483647
    by_cases c : andI (shrI h (o : Int)) 1 = 0
    · rw [if_pos c]
      exact a1
    · rw [if_neg c]
      exact orI_R _ _
theorem orU_cg {h : Int} {I J : Nat → Int} {n a : Nat} (hn : 1 ≤ n) (hI : ∀ k : Nat, k < n → I k = J k) : ∀ o : Nat, orU h I n a o = orU h J n a o
  | 0 => rfl
  | o + 1 => by
    have e := orU_cg hn hI (h := h) (a := a) o
    show (if andI (shrI h (o : Int)) 1 = 0 then orU h I n a o else orI (orU h I n a o) (I ((a + o) % n))) = (if andI (shrI h (o : Int)) 1 = 0 then orU h J n a o else orI (orU h J n a o) (J ((a + o) % n)))
    rw [e, hI _ (Nat.mod_lt _ hn)]
set_option maxHeartbeats 1000000 in
theorem fC_soundsUnder {M : zM} {j a n : Nat} (hB : BN wC M) (ha : a < 24) (hn : 1 ≤ n ∧ n ≤ 24) {Q : Int → Prop} (hQ : Q (orU (M j 3) (M (j + 2)) n a 24)) : wC_Ring_soundsUnder j (a : Int) (n : Int) M Q := by
  unfold wC_Ring_soundsUnder
  refine pL2_of (fun x y => ∃ o : Nat, y = (o : Int) ∧ o ≤ 24 ∧ x = orU (M j 3) (M (j + 2)) n a o) (fun _ y => (1000 - y).toNat) ⟨0, rfl, by omega, rfl⟩ (fun K x y h k => ?_)
  obtain ⟨o, rfl, h1, rfl⟩ := h
  have so : sI (o : Int) = o := sIo (by omega) (by omega)
  have rx := orU_r (M j 3) (M (j + 2)) n a o
  have sx : sI (orU (M j 3) (M (j + 2)) n a o) = orU (M j 3) (M (j + 2)) n a o := sIo rx.1 rx.2
  rw [so, sx]
  refine ⟨fun c => ?_, fun c => ⟨fun c2 => k _ _ ⟨o + 1, by omega, by omega, ?_⟩ (by omega), fun c2 => ?_⟩⟩
  · rw [show o = 24 by omega]
    exact hQ
  · show _ = if andI (shrI (M j 3) (o : Int)) 1 = 0 then orU (M j 3) (M (j + 2)) n a o else orI (orU (M j 3) (M (j + 2)) n a o) (M (j + 2) ((a + o) % n))
    rw [if_pos c2]
  · have sa : sI ((a : Int) + (o : Int)) = (a : Int) + (o : Int) := sIo (by omega) (by omega)
    rw [sa]
    have em : ((a : Int) + (o : Int)) % (n : Int) = (((a + o) % n : Nat) : Int) := by
      rw [show (a : Int) + (o : Int) = ((a + o : Nat) : Int) by omega]
      exact (Int.natCast_emod _ _).symm
    have lt := Nat.mod_lt (a + o) (show n > 0 by omega)
    refine fC_by (by omega) (by omega) ?_
    rw [em]
    refine ⟨by omega, k _ _ ⟨o + 1, by omega, by omega, ?_⟩ (by omega)⟩
    show _ = if andI (shrI (M j 3) (o : Int)) 1 = 0 then orU (M j 3) (M (j + 2)) n a o else orI (orU (M j 3) (M (j + 2)) n a o) (M (j + 2) ((a + o) % n))
    rw [if_neg c2]
    rfl
set_option maxHeartbeats 1000000 in
theorem fC_fillUnder {M : zM} {j a0 n : Nat} (hB : BN wC M) (hln : zln wC a0 = 24) (hbd : ∀ k, cbt (zcd wC a0) k = (-2147483648, 2147483647)) (hj : a0 ≠ j ∧ a0 ≠ j + 2) (hn : 1 ≤ n ∧ n ≤ 24) {Q : zM → Prop} (hQ : ∀ M1 : zM, BN wC M1 ∧ (∀ p q : Nat, ¬ (p = a0 ∧ q < n) → M1 p q = M p q) ∧ (∀ a : Nat, a < n → M1 a0 a = orU (M j 3) (M (j + 2)) n a 24) → Q M1) : wC_Ring_fillUnder j a0 (n : Int) M Q := by
  unfold wC_Ring_fillUnder
  have sn : sI (n : Int) = n := sIo (by omega) (by omega)
  refine wL1_of (fun x M2 => BN wC M2 ∧ (∀ p q : Nat, ¬ (p = a0 ∧ q < n) → M2 p q = M p q) ∧ ∃ i : Nat, x = (i : Int) ∧ i ≤ n ∧ ∀ a : Nat, a < i → M2 a0 a = orU (M j 3) (M (j + 2)) n a 24) (fun x _ => (1000 - x).toNat) ⟨hB, fun _ _ _ => rfl, 0, rfl, by omega, fun a h => absurd h (Nat.not_lt_zero a)⟩ (fun K x M2 h k => ?_)
  obtain ⟨b2, f2, i, rfl, i1, hv⟩ := h
  have si : sI (i : Int) = i := sIo (by omega) (by omega)
  have ti : ((i : Int)).toNat = i := by omega
  rw [si, sn, hln, ti]
  refine ⟨fun c => hQ _ ⟨b2, f2, fun a ha => hv a (by omega)⟩, fun c => ⟨fun c2 => absurd c2 (by omega), fun c2 => ?_⟩⟩
  have ej : M2 j 3 = M j 3 := f2 j 3 (fun h => hj.1 h.1.symm)
  have ei : M2 (j + 2) = M (j + 2) := funext fun q => f2 (j + 2) q (fun h => hj.2 h.1.symm)
  refine fC_soundsUnder b2 (by omega) hn ?_
  rw [ej, ei]
  refine ⟨by omega, fun M3 e3 => ?_⟩
  have rx := orU_r (M j 3) (M (j + 2)) n i 24
  refine k _ _ ⟨by rw [e3]; exact BN.up b2 rfl (hbd i) rx.1 rx.2, fun p q hpq => by rw [e3, zup_n _ _ (fun h => hpq ⟨h.1, by omega⟩)]; exact f2 p q hpq, i + 1, by omega, by omega, fun a ha => ?_⟩ (by omega)
  rw [e3]
  by_cases c5 : a = i
  · rw [c5, zup_s]
  · rw [zup_n _ _ (by omega)]
    exact hv a (by omega)
theorem rg_cd (r : Nat) (h : r < 4) : 41 + 4 * r < nC ∧ zcd wC (41 + 4 * r) = 14 ∧ zcd wC (41 + 4 * r + 1) = 6 ∧ zcd wC (41 + 4 * r + 2) = 7 ∧ zcd wC (41 + 4 * r + 3) = 15 ∧ zln wC (41 + 4 * r + 3) = 24 := (by decide : ∀ r : Nat, r < 4 → 41 + 4 * r < nC ∧ zcd wC (41 + 4 * r) = 14 ∧ zcd wC (41 + 4 * r + 1) = 6 ∧ zcd wC (41 + 4 * r + 2) = 7 ∧ zcd wC (41 + 4 * r + 3) = 15 ∧ zln wC (41 + 4 * r + 3) = 24) r h
theorem fC_listen {M : zM} {r n : Nat} (hB : BN wC M) (hr : r < 4) (hn : 1 ≤ n) (e : M (41 + 4 * r + 1) 1 = (n : Int)) {Q : zM → Prop} (hQ : ∀ M1 : zM, BN wC M1 ∧ (∀ p q : Nat, ¬ (p = 41 + 4 * r + 3 ∧ q < n) → M1 p q = M p q) ∧ (∀ a : Nat, a < n → M1 (41 + 4 * r + 3) a = orU (M (41 + 4 * r) 3) (M (41 + 4 * r + 2)) n a 24) → Q M1) : wC_Ring_listen (41 + 4 * r) M Q := by
  unfold wC_Ring_listen
  obtain ⟨c1, c2, c3, c4, c5, c6⟩ := rg_cd r hr
  have b : 0 ≤ M (41 + 4 * r + 1) 1 ∧ M (41 + 4 * r + 1) 1 ≤ 24 := BN.at hB c3 rfl
  rw [e]
  exact fC_fillUnder hB c6 (fun k => by rw [c5]; rfl) ⟨by omega, by omega⟩ ⟨hn, by omega⟩ hQ
/-- one ring, alike -/
def ri (MC MR : zM) (r : Nat) : Prop := ∃ n : Nat, 1 ≤ n ∧ n ≤ 24 ∧ MC (41 + 4 * r + 1) 1 = (n : Int) ∧ MR 4 r = (n : Int) ∧ MC (41 + 4 * r) 1 = MR 5 r ∧ MC (41 + 4 * r) 2 = MR 6 r ∧ (0 ≤ MR 6 r ∧ MR 6 r < n) ∧ MC (41 + 4 * r) 3 = MR 7 r ∧ MC (41 + 4 * r) 4 = MR 8 r ∧ (∀ k : Nat, k < n → MC (41 + 4 * r + 2) k = MR 3 (24 * r + k)) ∧ (∀ a : Nat, a < n → MC (41 + 4 * r + 3) a = orU (MC (41 + 4 * r) 3) (MC (41 + 4 * r + 2)) n a 24)
def iRi (MC MR : zM) : Prop := MC 32 2 = MR 0 10 ∧ MC 32 2 ≤ 4 ∧ ∀ r : Nat, (r : Int) < MC 32 2 → ri MC MR r
theorem ri_cg {MC MR M8 M9 : zM} {r : Nat} (h : ri MC MR r) (hC : ∀ j : Nat, 41 + 4 * r ≤ j ∧ j ≤ 41 + 4 * r + 3 → M8 j = MC j) (h4 : M9 4 r = MR 4 r) (h5 : M9 5 r = MR 5 r) (h6 : M9 6 r = MR 6 r) (h7 : M9 7 r = MR 7 r) (h8 : M9 8 r = MR 8 r) (h3 : ∀ k : Nat, k < 24 → M9 3 (24 * r + k) = MR 3 (24 * r + k)) : ri M8 M9 r := by
  obtain ⟨n, a1, a2, a3, a4, a5, a6, a7, a8, a9, a10, a11⟩ := h
  unfold ri
  rw [hC (41 + 4 * r) (by omega), hC (41 + 4 * r + 1) (by omega), hC (41 + 4 * r + 2) (by omega), hC (41 + 4 * r + 3) (by omega), h4, h5, h6, h7, h8]
  exact ⟨n, a1, a2, a3, a4, a5, a6, a7, a8, a9, fun k hk => by rw [h3 k (by omega)]; exact a10 k hk, a11⟩
theorem iRi_kept {MC MR M8 M9 : zM} (h : iRi MC MR) (hC : ∀ j : Nat, 41 ≤ j ∧ j ≤ 56 → M8 j = MC j) (h0 : M8 32 2 = MC 32 2) (h10 : M9 0 10 = MR 0 10) (h3 : M9 3 = MR 3) (h4 : M9 4 = MR 4) (h5 : M9 5 = MR 5) (h6 : M9 6 = MR 6) (h7 : M9 7 = MR 7) (h8 : M9 8 = MR 8) : iRi M8 M9 := by
  obtain ⟨g1, g2, g3⟩ := h
  refine ⟨by rw [h0, h10]; exact g1, by rw [h0]; exact g2, fun r hr => ?_⟩
  rw [h0] at hr
  exact ri_cg (g3 r hr) (fun j hj => hC j (by omega)) (by rw [h4]) (by rw [h5]) (by rw [h6]) (by rw [h7]) (by rw [h8]) (fun k _ => by rw [h3])
/-- one ring changes, the others stand -/
theorem iRi_one {MC MR M8 M9 : zM} {r0 : Nat} (h : iRi MC MR) (hC : ∀ j : Nat, 41 ≤ j ∧ j ≤ 56 ∧ ¬ (41 + 4 * r0 ≤ j ∧ j ≤ 41 + 4 * r0 + 3) → M8 j = MC j) (h0 : M8 32 2 = MC 32 2) (h10 : M9 0 10 = MR 0 10) (h48 : ∀ j r : Nat, 4 ≤ j ∧ j ≤ 8 → r ≠ r0 → M9 j r = MR j r) (h3 : ∀ q : Nat, ¬ (24 * r0 ≤ q ∧ q < 24 * r0 + 24) → M9 3 q = MR 3 q) (hr : ri M8 M9 r0) : iRi M8 M9 := by
  obtain ⟨g1, g2, g3⟩ := h
  refine ⟨by rw [h0, h10]; exact g1, by rw [h0]; exact g2, fun r hr2 => ?_⟩
  rw [h0] at hr2
  by_cases c : r = r0
  · rw [c]
    exact hr
  · exact ri_cg (g3 r hr2) (fun j hj => hC j (by omega)) (h48 4 r (by omega) c) (h48 5 r (by omega) c) (h48 6 r (by omega) c) (h48 7 r (by omega) c) (h48 8 r (by omega) c) (fun k hk => h3 _ (by omega))
