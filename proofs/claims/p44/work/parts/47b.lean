section zz47n_ring
/-! rings: what is under the heads -/
theorem tm_em (a b : Int) : a % b = (a.tmod b) % b := by
  have h : a.tmod b + b * a.tdiv b = a := Int.tmod_add_mul_tdiv a b
  have e := Int.add_mul_emod_self_left (a.tmod b) b (a.tdiv b)
  rw [h] at e
  exact e
theorem fC_by {M : zM} {a0 a1 : Int} (v0 : -9223372036854775808 ≤ a0 ∧ a0 ≤ 9223372036854775807) (v1 : 1 ≤ a1 ∧ a1 ≤ 2147483647) {Q : Int → Prop} (hQ : Q (a0 % a1)) : wC_by a0 a1 M Q := by
  unfold wC_by
  have s0 : sL a0 = a0 := sLo v0.1 v0.2
  have s1 : sI a1 = a1 := sIo (by omega) (by omega)
  have b := tmodB a0 a1 (by omega)
  have s2 : sI (a0.tmod a1) = a0.tmod a1 := sIo (by omega) (by omega)
  have e := tm_em a0 a1
  rw [s0, s1, s2]
  refine ⟨fun c => ⟨by omega, fun c2 => ?_, fun c2 => ?_⟩, fun c => absurd c (by omega)⟩
  · rw [Int.emod_eq_of_lt c2 b.2] at e
    rw [← e]
    exact hQ
  · have s3 : sI (a0.tmod a1 + a1) = a0.tmod a1 + a1 := sIo (by omega) (by omega)
    have e2 := Int.add_emod_right (a0.tmod a1) a1
    rw [Int.emod_eq_of_lt (by omega) (by omega)] at e2
    rw [s3, e2, ← e]
    exact hQ
def bcI (x : Int) : Int := andI (((andI (((andI (x - (andI (ushrI x 1) 1431655765)) 858993459) + (andI (ushrI (x - (andI (ushrI x 1) 1431655765)) 2) 858993459)) + (ushrI ((andI (x - (andI (ushrI x 1) 1431655765)) 858993459) + (andI (ushrI (x - (andI (ushrI x 1) 1431655765)) 2) 858993459)) 4)) 252645135) + (ushrI (andI (((andI (x - (andI (ushrI x 1) 1431655765)) 858993459) + (andI (ushrI (x - (andI (ushrI x 1) 1431655765)) 2) 858993459)) + (ushrI ((andI (x - (andI (ushrI x 1) 1431655765)) 858993459) + (andI (ushrI (x - (andI (ushrI x 1) 1431655765)) 2) 858993459)) 4)) 252645135) 8)) + (ushrI ((andI (((andI (x - (andI (ushrI x 1) 1431655765)) 858993459) + (andI (ushrI (x - (andI (ushrI x 1) 1431655765)) 2) 858993459)) + (ushrI ((andI (x - (andI (ushrI x 1) 1431655765)) 858993459) + (andI (ushrI (x - (andI (ushrI x 1) 1431655765)) 2) 858993459)) 4)) 252645135) + (ushrI (andI (((andI (x - (andI (ushrI x 1) 1431655765)) 858993459) + (andI (ushrI (x - (andI (ushrI x 1) 1431655765)) 2) 858993459)) + (ushrI ((andI (x - (andI (ushrI x 1) 1431655765)) 858993459) + (andI (ushrI (x - (andI (ushrI x 1) 1431655765)) 2) 858993459)) 4)) 252645135) 8)) 16)) 63
theorem fC_bitCount {M : zM} {a0 : Int} {Q : Int → Prop} (hQ : Q (bcI a0)) : wC_bitCount a0 M Q := by
  unfold wC_bitCount
  intro t1 e1 t3 e3
  subst e1
  subst e3
  exact hQ
theorem fR_bitCount {M : zM} {a0 : Int} {Q : Int → Prop} (hQ : Q (bcI a0)) : wR_bitCount a0 M Q := by
  unfold wR_bitCount
  intro t1 e1 t3 e3
  subst e1
  subst e3
  exact hQ
def orU (h : Int) (I : Nat → Int) (n a : Nat) : Nat → Int
  | 0 => 0
  | o + 1 => if andI (shrI h (o : Int)) 1 = 0 then orU h I n a o else orI (orU h I n a o) (I ((a + o) % n))
theorem orU_r (h : Int) (I : Nat → Int) (n a : Nat) : ∀ o : Nat, -2147483648 ≤ orU h I n a o ∧ orU h I n a o ≤ 2147483647
  | 0 => ⟨by show -2147483648 ≤ (0 : Int); omega, by show (0 : Int) ≤ 2147483647; omega⟩
  | o + 1 => by
    have a1 := orU_r h I n a o
    show -2147483648 ≤ (if andI (shrI h (o : Int)) 1 = 0 then orU h I n a o else orI (orU h I n a o) (I ((a + o) % n))) ∧ (if andI (shrI h (o : Int)) 1 = 0 then orU h I n a o else orI (orU h I n a o) (I ((a + o) % n))) ≤ 2147483647
    by_cases c : andI (shrI h (o : Int)) 1 = 0
    · rw [if_pos c]
      exact a1
    · rw [if_neg c]
      exact orI_R _ _
theorem orU_cg {h : Int} {I J : Nat → Int} {n a : Nat} (hn : 1 ≤ n) (hI : ∀ k : Nat, k < n → I k = J k) : ∀ o : Nat, orU h I n a o = orU h J n a o
  | 0 => rfl
  | o + 1 => by
    have e := orU_cg hn hI (h := h) (a := a) o
    show (if andI (shrI h (o : Int)) 1 = 0 then orU h I n a o else orI (orU h I n a o) (I ((a + o) % n))) = (if andI (shrI h (o : Int)) 1 = 0 then orU h J n a o else orI (orU h J n a o) (J ((a + o) % n)))
    rw [e, hI _ (Nat.mod_lt _ hn)]
set_option maxHeartbeats 1000000 in
theorem fC_soundsUnder {M : zM} {j a n : Nat} (hB : BN wC M) (ha : a < 24) (hn : 1 ≤ n ∧ n ≤ 24) {Q : Int → Prop} (hQ : Q (orU (M j 3) (M (j + 2)) n a 24)) : wC_Ring_soundsUnder j (a : Int) (n : Int) M Q := by
  unfold wC_Ring_soundsUnder
  refine pL2_of (fun x y => ∃ o : Nat, y = (o : Int) ∧ o ≤ 24 ∧ x = orU (M j 3) (M (j + 2)) n a o) (fun _ y => (1000 - y).toNat) ⟨0, rfl, by omega, rfl⟩ (fun K x y h k => ?_)
  obtain ⟨o, rfl, h1, rfl⟩ := h
  have so : sI (o : Int) = o := sIo (by omega) (by omega)
  have rx := orU_r (M j 3) (M (j + 2)) n a o
  have sx : sI (orU (M j 3) (M (j + 2)) n a o) = orU (M j 3) (M (j + 2)) n a o := sIo rx.1 rx.2
  rw [so, sx]
  refine ⟨fun c => ?_, fun c => ⟨fun c2 => k _ _ ⟨o + 1, by omega, by omega, ?_⟩ (by omega), fun c2 => ?_⟩⟩
  · rw [show o = 24 by omega]
    exact hQ
  · show _ = if andI (shrI (M j 3) (o : Int)) 1 = 0 then orU (M j 3) (M (j + 2)) n a o else orI (orU (M j 3) (M (j + 2)) n a o) (M (j + 2) ((a + o) % n))
    rw [if_pos c2]
  · have sa : sI ((a : Int) + (o : Int)) = (a : Int) + (o : Int) := sIo (by omega) (by omega)
    rw [sa]
    have em : ((a : Int) + (o : Int)) % (n : Int) = (((a + o) % n : Nat) : Int) := by
      rw [show (a : Int) + (o : Int) = ((a + o : Nat) : Int) by omega]
      exact (Int.natCast_emod _ _).symm
    have lt := Nat.mod_lt (a + o) (show n > 0 by omega)
    refine fC_by (by omega) (by omega) ?_
    rw [em]
    refine ⟨by omega, k _ _ ⟨o + 1, by omega, by omega, ?_⟩ (by omega)⟩
    show _ = if andI (shrI (M j 3) (o : Int)) 1 = 0 then orU (M j 3) (M (j + 2)) n a o else orI (orU (M j 3) (M (j + 2)) n a o) (M (j + 2) ((a + o) % n))
    rw [if_neg c2]
    rfl
set_option maxHeartbeats 1000000 in
theorem fC_fillUnder {M : zM} {j a0 n : Nat} (hB : BN wC M) (hln : zln wC a0 = 24) (hbd : ∀ k, cbt (zcd wC a0) k = (-2147483648, 2147483647)) (hj : a0 ≠ j ∧ a0 ≠ j + 2) (hn : 1 ≤ n ∧ n ≤ 24) {Q : zM → Prop} (hQ : ∀ M1 : zM, BN wC M1 ∧ (∀ p q : Nat, ¬ (p = a0 ∧ q < n) → M1 p q = M p q) ∧ (∀ a : Nat, a < n → M1 a0 a = orU (M j 3) (M (j + 2)) n a 24) → Q M1) : wC_Ring_fillUnder j a0 (n : Int) M Q := by
  unfold wC_Ring_fillUnder
  have sn : sI (n : Int) = n := sIo (by omega) (by omega)
  refine wL1_of (fun x M2 => BN wC M2 ∧ (∀ p q : Nat, ¬ (p = a0 ∧ q < n) → M2 p q = M p q) ∧ ∃ i : Nat, x = (i : Int) ∧ i ≤ n ∧ ∀ a : Nat, a < i → M2 a0 a = orU (M j 3) (M (j + 2)) n a 24) (fun x _ => (1000 - x).toNat) ⟨hB, fun _ _ _ => rfl, 0, rfl, by omega, fun a h => absurd h (Nat.not_lt_zero a)⟩ (fun K x M2 h k => ?_)
  obtain ⟨b2, f2, i, rfl, i1, hv⟩ := h
  have si : sI (i : Int) = i := sIo (by omega) (by omega)
  have ti : ((i : Int)).toNat = i := by omega
  rw [si, sn, hln, ti]
  refine ⟨fun c => hQ _ ⟨b2, f2, fun a ha => hv a (by omega)⟩, fun c => ⟨fun c2 => absurd c2 (by omega), fun c2 => ?_⟩⟩
  have ej : M2 j 3 = M j 3 := f2 j 3 (fun h => hj.1 h.1.symm)
  have ei : M2 (j + 2) = M (j + 2) := funext fun q => f2 (j + 2) q (fun h => hj.2 h.1.symm)
  refine fC_soundsUnder b2 (by omega) hn ?_
  rw [ej, ei]
  refine ⟨by omega, fun M3 e3 => ?_⟩
  have rx := orU_r (M j 3) (M (j + 2)) n i 24
  refine k _ _ ⟨by rw [e3]; exact BN.up b2 rfl (hbd i) rx.1 rx.2, fun p q hpq => by rw [e3, zup_n _ _ (fun h => hpq ⟨h.1, by omega⟩)]; exact f2 p q hpq, i + 1, by omega, by omega, fun a ha => ?_⟩ (by omega)
  rw [e3]
  by_cases c5 : a = i
  · rw [c5, zup_s]
  · rw [zup_n _ _ (by omega)]
    exact hv a (by omega)
theorem rg_cd (r : Nat) (h : r < 4) : 41 + 4 * r < nC ∧ zcd wC (41 + 4 * r) = 14 ∧ zcd wC (41 + 4 * r + 1) = 6 ∧ zcd wC (41 + 4 * r + 2) = 7 ∧ zcd wC (41 + 4 * r + 3) = 15 ∧ zln wC (41 + 4 * r + 3) = 24 := (by decide : ∀ r : Nat, r < 4 → 41 + 4 * r < nC ∧ zcd wC (41 + 4 * r) = 14 ∧ zcd wC (41 + 4 * r + 1) = 6 ∧ zcd wC (41 + 4 * r + 2) = 7 ∧ zcd wC (41 + 4 * r + 3) = 15 ∧ zln wC (41 + 4 * r + 3) = 24) r h
theorem fC_listen {M : zM} {r n : Nat} (hB : BN wC M) (hr : r < 4) (hn : 1 ≤ n) (e : M (41 + 4 * r + 1) 1 = (n : Int)) {Q : zM → Prop} (hQ : ∀ M1 : zM, BN wC M1 ∧ (∀ p q : Nat, ¬ (p = 41 + 4 * r + 3 ∧ q < n) → M1 p q = M p q) ∧ (∀ a : Nat, a < n → M1 (41 + 4 * r + 3) a = orU (M (41 + 4 * r) 3) (M (41 + 4 * r + 2)) n a 24) → Q M1) : wC_Ring_listen (41 + 4 * r) M Q := by
  unfold wC_Ring_listen
  obtain ⟨c1, c2, c3, c4, c5, c6⟩ := rg_cd r hr
  have b : 0 ≤ M (41 + 4 * r + 1) 1 ∧ M (41 + 4 * r + 1) 1 ≤ 24 := BN.at hB c3 rfl
  rw [e]
  exact fC_fillUnder hB c6 (fun k => by rw [c5]; rfl) ⟨by omega, by omega⟩ ⟨hn, by omega⟩ hQ
/-- one ring, alike -/
def ri (MC MR : zM) (r : Nat) : Prop := ∃ n : Nat, 1 ≤ n ∧ n ≤ 24 ∧ MC (41 + 4 * r + 1) 1 = (n : Int) ∧ MR 4 r = (n : Int) ∧ MC (41 + 4 * r) 1 = MR 5 r ∧ MC (41 + 4 * r) 2 = MR 6 r ∧ (0 ≤ MR 6 r ∧ MR 6 r < n) ∧ MC (41 + 4 * r) 3 = MR 7 r ∧ MC (41 + 4 * r) 4 = MR 8 r ∧ (∀ k : Nat, k < n → MC (41 + 4 * r + 2) k = MR 3 (24 * r + k)) ∧ (∀ a : Nat, a < n → MC (41 + 4 * r + 3) a = orU (MC (41 + 4 * r) 3) (MC (41 + 4 * r + 2)) n a 24)
def iRi (MC MR : zM) : Prop := MC 32 2 = MR 0 10 ∧ MC 32 2 ≤ 4 ∧ ∀ r : Nat, (r : Int) < MC 32 2 → ri MC MR r
theorem ri_cg {MC MR M8 M9 : zM} {r : Nat} (h : ri MC MR r) (hC : ∀ j : Nat, 41 + 4 * r ≤ j ∧ j ≤ 41 + 4 * r + 3 → M8 j = MC j) (h4 : M9 4 r = MR 4 r) (h5 : M9 5 r = MR 5 r) (h6 : M9 6 r = MR 6 r) (h7 : M9 7 r = MR 7 r) (h8 : M9 8 r = MR 8 r) (h3 : ∀ k : Nat, k < 24 → M9 3 (24 * r + k) = MR 3 (24 * r + k)) : ri M8 M9 r := by
  obtain ⟨n, a1, a2, a3, a4, a5, a6, a7, a8, a9, a10, a11⟩ := h
  unfold ri
  rw [hC (41 + 4 * r) (by omega), hC (41 + 4 * r + 1) (by omega), hC (41 + 4 * r + 2) (by omega), hC (41 + 4 * r + 3) (by omega), h4, h5, h6, h7, h8]
  exact ⟨n, a1, a2, a3, a4, a5, a6, a7, a8, a9, fun k hk => by rw [h3 k (by omega)]; exact a10 k hk, a11⟩
theorem iRi_kept {MC MR M8 M9 : zM} (h : iRi MC MR) (hC : ∀ j : Nat, 41 ≤ j ∧ j ≤ 56 → M8 j = MC j) (h0 : M8 32 2 = MC 32 2) (h10 : M9 0 10 = MR 0 10) (h3 : M9 3 = MR 3) (h4 : M9 4 = MR 4) (h5 : M9 5 = MR 5) (h6 : M9 6 = MR 6) (h7 : M9 7 = MR 7) (h8 : M9 8 = MR 8) : iRi M8 M9 := by
  obtain ⟨g1, g2, g3⟩ := h
  refine ⟨by rw [h0, h10]; exact g1, by rw [h0]; exact g2, fun r hr => ?_⟩
  rw [h0] at hr
  exact ri_cg (g3 r hr) (fun j hj => hC j (by omega)) (by rw [h4]) (by rw [h5]) (by rw [h6]) (by rw [h7]) (by rw [h8]) (fun k _ => by rw [h3])
/-- one ring changes, the others stand -/
theorem iRi_one {MC MR M8 M9 : zM} {r0 : Nat} (h : iRi MC MR) (hC : ∀ j : Nat, 41 ≤ j ∧ j ≤ 56 ∧ ¬ (41 + 4 * r0 ≤ j ∧ j ≤ 41 + 4 * r0 + 3) → M8 j = MC j) (h0 : M8 32 2 = MC 32 2) (h10 : M9 0 10 = MR 0 10) (h48 : ∀ j r : Nat, 4 ≤ j ∧ j ≤ 8 → r ≠ r0 → M9 j r = MR j r) (h3 : ∀ q : Nat, ¬ (24 * r0 ≤ q ∧ q < 24 * r0 + 24) → M9 3 q = MR 3 q) (hr : ri M8 M9 r0) : iRi M8 M9 := by
  obtain ⟨g1, g2, g3⟩ := h
  refine ⟨by rw [h0, h10]; exact g1, by rw [h0]; exact g2, fun r hr2 => ?_⟩
  rw [h0] at hr2
  by_cases c : r = r0
  · rw [c]
    exact hr
  · exact ri_cg (g3 r hr2) (fun j hj => hC j (by omega)) (h48 4 r (by omega) c) (h48 5 r (by omega) c) (h48 6 r (by omega) c) (h48 7 r (by omega) c) (h48 8 r (by omega) c) (fun k hk => h3 _ (by omega))
end zz47n_ring
section zz47o_rset
/-! rings: wish and set, alike -/
theorem fC_find {M : zM} {a0 : Int} (hB : BN wC M) (v0 : -2147483648 ≤ a0 ∧ a0 ≤ 2147483647) {Q : Option Nat → Prop} (hn : ¬ (0 ≤ a0 ∧ a0 < M 32 2) → Q none) (hs : ∀ r : Nat, a0 = (r : Int) → (r : Int) < M 32 2 → r < 4 → Q (some (41 + 4 * r))) : wC_Studio_find a0 M Q := by
  refine sC_Studio_find hB v0 (fun h => hn (fun h2 => by omega)) (fun q hq => ?_)
  obtain ⟨-, h1, h2, h3, h4⟩ := hq
  rw [h1]
  exact hs a0.toNat (by omega) (by omega) (by omega)
theorem fR_isRing {M : zM} {a0 : Int} (hB : BI M) (v0 : -2147483648 ≤ a0 ∧ a0 ≤ 2147483647) {Q : Int → Prop} (hn : ¬ (0 ≤ a0 ∧ a0 < M 0 10) → Q 0) (hs : ∀ r : Nat, a0 = (r : Int) → (r : Int) < M 0 10 → r < 4 → Q 1) : wR_isRing a0 M Q := by
  refine sR_isRing hB v0 (fun z p => ?_)
  obtain ⟨-, p, -⟩ := p
  rcases p with ⟨rfl, h1, h2, h3⟩ | ⟨rfl, h⟩
  · exact hs a0.toNat (by omega) (by omega) (by omega)
  · exact hn h
def cWi (cnt a0 a1 : Int) : Prop := (0 ≤ a0 ∧ a0 < cnt) ∧ andI a1 (-1023) = 0
theorem fC_wish {M : zM} {a0 a1 : Int} (hB : BN wC M) (v0 : -2147483648 ≤ a0 ∧ a0 ≤ 2147483647) (v1 : -2147483648 ≤ a1 ∧ a1 ≤ 2147483647) {Q : Int → zM → Prop} (hQ : ∀ (z : Int) (M1 : zM), BN wC M1 ∧ (∀ j9 : Nat, ¬ (41 ≤ j9 ∧ j9 ≤ 56) → M1 j9 = M j9) ∧ ((cWi (M 32 2) a0 a1 ∧ z = 1 ∧ a0 < 4 ∧ M1 = zup M (41 + 4 * a0.toNat) 4 a1) ∨ (¬ cWi (M 32 2) a0 a1 ∧ z = 0 ∧ M1 = M)) → Q z M1) : wC_wish a0 a1 M Q := by
  unfold wC_wish
  have no : ¬ cWi (M 32 2) a0 a1 → Q 0 M := fun h => hQ _ _ ⟨hB, fun _ _ => rfl, Or.inr ⟨h, rfl, rfl⟩⟩
  refine fC_find hB v0 (fun h => ⟨fun _ => no (fun x => h x.1), fun q h => nomatch h⟩) (fun r hr h1 h2 => ⟨(fun h => nomatch h), fun q hq => ?_⟩)
  obtain rfl := Option.some.inj hq
  obtain ⟨c1, c2, -⟩ := rg_cd r h2
  refine ⟨⟨c1, c2⟩, ?_⟩
  refine sC_isSounds hB v1 (fun z p => ?_)
  obtain ⟨-, p, -⟩ := p
  refine ⟨fun c => fun M1 e1 => ?_, fun c => no (fun x => by have := x.2; omega)⟩
  refine hQ _ _ ⟨by rw [e1]; exact BN.up hB c2 rfl v1.1 v1.2, fun j9 h9 => by rw [e1, zup_row _ _ (by omega)], Or.inl ⟨⟨by omega, by omega⟩, rfl, by omega, by rw [e1, hr]; rfl⟩⟩
theorem fR_wish {M : zM} {a0 a1 : Int} (hB : BI M) (v0 : -2147483648 ≤ a0 ∧ a0 ≤ 2147483647) (v1 : -2147483648 ≤ a1 ∧ a1 ≤ 2147483647) {Q : Int → zM → Prop} (hQ : ∀ (z : Int) (M1 : zM), BI M1 ∧ (∀ j9 k9 : Nat, ¬ (j9 = 0 ∧ k9 = 35 ∨ j9 = 8) → M1 j9 k9 = M j9 k9) ∧ ((cWi (M 0 10) a0 a1 ∧ z = 1 ∧ ∀ k : Nat, M1 8 k = if k = a0.toNat then a1 else M 8 k) ∨ (¬ cWi (M 0 10) a0 a1 ∧ z = 0 ∧ M1 8 = M 8)) → Q z M1) : wR_wish a0 a1 M Q := by
  unfold wR_wish
  intro M1 e1
  have hB1 : BI M1 := by rw [e1]; exact BI.up0 hB rfl (by omega) (by omega) (by decide)
  have hF1 : ∀ j9 k9 : Nat, ¬ (j9 = 0 ∧ k9 = 35 ∨ j9 = 8) → M1 j9 k9 = M j9 k9 := fun j9 k9 h9 => by rw [e1]; exact zup_n _ _ (by omega)
  have r10 : M1 0 10 = M 0 10 := by rw [e1]; exact zup_n _ _ (by omega)
  have r8 : M1 8 = M 8 := by rw [e1]; exact zup_row _ _ (by omega)
  have no : ¬ cWi (M 0 10) a0 a1 → Q 0 M1 := fun h => hQ _ _ ⟨hB1, hF1, Or.inr ⟨h, rfl, r8⟩⟩
  refine fR_isRing hB1 v0 (fun h => ⟨fun _ => no (fun x => h (by rw [r10]; exact x.1)), fun c => absurd rfl c⟩) (fun r hr h1 h2 => ⟨fun c => absurd c (by decide), fun _ => ?_⟩)
  refine sR_areSounds hB1 v1 (fun z p => ?_)
  obtain ⟨-, p, -⟩ := p
  have s0 : sI a0 = a0 := sIo v0.1 v0.2
  rw [s0]
  refine ⟨fun c => ⟨by omega, fun M2 e2 => ?_⟩, fun c => no (fun x => by have := x.2; omega)⟩
  refine hQ _ _ ⟨by rw [e2]; exact BI.up hB1 (rfl : zcd wR 8 = 58) rfl v1.1 v1.2 (by decide), fun j9 k9 h9 => by rw [e2, zup_n _ _ (by omega)]; exact hF1 j9 k9 h9, Or.inl ⟨⟨by omega, by omega⟩, rfl, fun k => ?_⟩⟩
  rw [e2]
  by_cases c5 : k = a0.toNat
  · rw [c5, zup_s, if_pos rfl]
  · rw [zup_n _ _ (by omega), if_neg c5, r8]
theorem ri_wish {MC MR M8 M9 : zM} {a0 a1 z z9 : Int} (h : iRi MC MR) (p : (cWi (MC 32 2) a0 a1 ∧ z = 1 ∧ a0 < 4 ∧ M8 = zup MC (41 + 4 * a0.toNat) 4 a1) ∨ (¬ cWi (MC 32 2) a0 a1 ∧ z = 0 ∧ M8 = MC)) (f9 : ∀ j9 k9 : Nat, ¬ (j9 = 0 ∧ k9 = 35 ∨ j9 = 8) → M9 j9 k9 = MR j9 k9) (q : (cWi (MR 0 10) a0 a1 ∧ z9 = 1 ∧ ∀ k : Nat, M9 8 k = if k = a0.toNat then a1 else MR 8 k) ∨ (¬ cWi (MR 0 10) a0 a1 ∧ z9 = 0 ∧ M9 8 = MR 8)) : z = z9 ∧ iRi M8 M9 := by
  have g1 := h.1
  rw [← g1] at q
  rcases p with ⟨p1, p2, p3, p4⟩ | ⟨p1, p2, p3⟩
  · rcases q with ⟨q1, q2, q3⟩ | ⟨q1, -⟩
    · have ha := p1.1
      refine ⟨by omega, iRi_one (r0 := a0.toNat) h (fun j hj => by rw [p4, zup_row _ _ (by omega)]) (by rw [p4, zup_n _ _ (by omega)]) (f9 0 10 (by omega)) (fun j r hj hr => ?_) (fun q _ => f9 3 q (by omega)) ?_⟩
      · by_cases c : j = 8
        · rw [c, q3, if_neg hr]
        · exact f9 j r (by omega)
      · obtain ⟨n, a1', a2, a3, a4, a5, a6, a7, a8, a9, a10, a11⟩ := h.2.2 a0.toNat (by omega)
        refine ⟨n, a1', a2, by rw [p4, zup_n _ _ (by omega)]; exact a3, (f9 4 _ (by omega)).trans a4, by rw [p4, zup_n _ _ (by omega), f9 5 _ (by omega)]; exact a5, by rw [p4, zup_n _ _ (by omega), f9 6 _ (by omega)]; exact a6, by rw [f9 6 _ (by omega)]; exact a7, by rw [p4, zup_n _ _ (by omega), f9 7 _ (by omega)]; exact a8, by rw [p4, zup_s, q3, if_pos rfl], fun k hk => by rw [p4, zup_n _ _ (by omega), f9 3 _ (by omega)]; exact a10 k hk, fun a ha => ?_⟩
        rw [p4, zup_n _ _ (by omega), zup_n _ _ (by omega), zup_row _ _ (by omega)]
        exact a11 a ha
    · exact absurd p1 q1
  · rcases q with ⟨q1, -⟩ | ⟨q1, q2, q3⟩
    · exact absurd q1 p1
    · rw [p3]
      exact ⟨by omega, iRi_kept h (fun j _ => rfl) rfl (f9 0 10 (by omega)) (funext fun k => f9 3 k (by omega)) (funext fun k => f9 4 k (by omega)) (funext fun k => f9 5 k (by omega)) (funext fun k => f9 6 k (by omega)) (funext fun k => f9 7 k (by omega)) q3⟩
def cSe (cnt : Int) (len : Nat → Int) (a0 a1 a2 : Int) : Prop := (0 ≤ a0 ∧ a0 < cnt) ∧ ((a1 = 0 ∧ 0 ≤ a2 ∧ a2 ≤ 1) ∨ (a1 = 1 ∧ 0 ≤ a2 ∧ a2 < len a0.toNat))
set_option maxHeartbeats 1000000 in
theorem fC_set {M : zM} {a0 a1 a2 : Int} (hB : BN wC M) (v0 : -2147483648 ≤ a0 ∧ a0 ≤ 2147483647) (v1 : -2147483648 ≤ a1 ∧ a1 ≤ 2147483647) (v2 : -2147483648 ≤ a2 ∧ a2 ≤ 2147483647) {Q : Int → zM → Prop} (hQ : ∀ (z : Int) (M1 : zM), BN wC M1 ∧ (∀ j9 : Nat, ¬ (41 ≤ j9 ∧ j9 ≤ 56) → M1 j9 = M j9) ∧ ((cSe (M 32 2) (fun r => M (41 + 4 * r + 1) 1) a0 a1 a2 ∧ a0 < 4 ∧ ((a1 = 0 ∧ z = M (41 + 4 * a0.toNat) 1 ∧ M1 = zup M (41 + 4 * a0.toNat) 1 a2) ∨ (a1 = 1 ∧ z = M (41 + 4 * a0.toNat) 2 ∧ M1 = zup M (41 + 4 * a0.toNat) 2 a2))) ∨ (¬ cSe (M 32 2) (fun r => M (41 + 4 * r + 1) 1) a0 a1 a2 ∧ z = -1 ∧ M1 = M)) → Q z M1) : wC_set a0 a1 a2 M Q := by
  unfold wC_set
  have no : ¬ cSe (M 32 2) (fun r => M (41 + 4 * r + 1) 1) a0 a1 a2 → Q (-1) M := fun h => hQ _ _ ⟨hB, fun _ _ => rfl, Or.inr ⟨h, rfl, rfl⟩⟩
  refine fC_find hB v0 (fun h => ⟨fun _ => no (fun x => h x.1), fun q h => nomatch h⟩) (fun r hr h1 h2 => ⟨(fun h => nomatch h), fun q hq => ?_⟩)
  obtain rfl := Option.some.inj hq
  obtain ⟨c1, c2, c3, -⟩ := rg_cd r h2
  have hra : a0.toNat = r := by omega
  have s1 : sI a1 = a1 := sIo v1.1 v1.2
  have b1 := BN.r32 hB (41 + 4 * r) 1
  have b2 := BN.r32 hB (41 + 4 * r) 2
  have bl : 0 ≤ M (41 + 4 * r + 1) 1 ∧ M (41 + 4 * r + 1) 1 ≤ 24 := BN.at hB c3 rfl
  rw [s1, sIo b1.1 b1.2, sIo b2.1 b2.2]
  refine ⟨⟨c1, c2⟩, ?_⟩
  refine pJ0_of (¬ (a1 = 0 ∧ 0 ≤ a2 ∧ a2 ≤ 1)) (fun hJ => ?_) ⟨fun c => fun h => c h.1, fun c => ?_⟩
  · refine ⟨fun c => no (fun x => by rcases x.2 with y | y <;> omega), fun c => ?_⟩
    refine sC_Strip_has hB (by have e1 : nC = 134 := rfl; omega) c3 v2 (fun z p => ?_)
    obtain ⟨-, p, -⟩ := p
    refine ⟨fun d => no (fun x => ?_), fun d => fun M1 e1 => ?_⟩
    · have y := x.2
      rw [hra] at y
      have y : (a1 = 0 ∧ 0 ≤ a2 ∧ a2 ≤ 1) ∨ (a1 = 1 ∧ 0 ≤ a2 ∧ a2 < M (41 + 4 * r + 1) 1) := y
      omega
    · refine hQ _ _ ⟨by rw [e1]; exact BN.up hB c2 rfl (by omega) (by omega), fun j9 h9 => by rw [e1, zup_row _ _ (by omega)], Or.inl ⟨⟨by omega, Or.inr ⟨c, by omega, ?_⟩⟩, by omega, Or.inr ⟨c, by rw [hra], by rw [hra]; exact e1⟩⟩⟩
      rw [hra]
      show a2 < M (41 + 4 * r + 1) 1
      omega
  · refine sC_isMotor hB v2 (fun z p => ?_)
    obtain ⟨-, p, -⟩ := p
    refine ⟨fun d => fun h => by omega, fun d => fun M1 e1 => ?_⟩
    exact hQ _ _ ⟨by rw [e1]; exact BN.up hB c2 rfl (by omega) (by omega), fun j9 h9 => by rw [e1, zup_row _ _ (by omega)], Or.inl ⟨⟨by omega, Or.inl ⟨c, by omega⟩⟩, by omega, Or.inl ⟨c, by rw [hra], by rw [hra]; exact e1⟩⟩⟩
set_option maxHeartbeats 1000000 in
theorem fR_set {M : zM} {a0 a1 a2 : Int} (hB : BI M) (v0 : -2147483648 ≤ a0 ∧ a0 ≤ 2147483647) (v1 : -2147483648 ≤ a1 ∧ a1 ≤ 2147483647) (v2 : -2147483648 ≤ a2 ∧ a2 ≤ 2147483647) {Q : Int → zM → Prop} (hQ : ∀ (z : Int) (M1 : zM), BI M1 ∧ (∀ j9 k9 : Nat, ¬ (j9 = 0 ∧ k9 = 35 ∨ j9 = 5 ∨ j9 = 6) → M1 j9 k9 = M j9 k9) ∧ ((cSe (M 0 10) (M 4) a0 a1 a2 ∧ ((a1 = 0 ∧ z = M 5 a0.toNat ∧ (∀ k : Nat, M1 5 k = if k = a0.toNat then a2 else M 5 k) ∧ M1 6 = M 6) ∨ (a1 = 1 ∧ z = M 6 a0.toNat ∧ (∀ k : Nat, M1 6 k = if k = a0.toNat then a2 else M 6 k) ∧ M1 5 = M 5))) ∨ (¬ cSe (M 0 10) (M 4) a0 a1 a2 ∧ z = -1 ∧ M1 5 = M 5 ∧ M1 6 = M 6)) → Q z M1) : wR_set a0 a1 a2 M Q := by
  unfold wR_set
  intro M1 e1
  have hB1 : BI M1 := by rw [e1]; exact BI.up0 hB rfl (by omega) (by omega) (by decide)
  have hF1 : ∀ j9 k9 : Nat, ¬ (j9 = 0 ∧ k9 = 35 ∨ j9 = 5 ∨ j9 = 6) → M1 j9 k9 = M j9 k9 := fun j9 k9 h9 => by rw [e1]; exact zup_n _ _ (by omega)
  have r10 : M1 0 10 = M 0 10 := by rw [e1]; exact zup_n _ _ (by omega)
  have r4 : M1 4 = M 4 := by rw [e1]; exact zup_row _ _ (by omega)
  have r5 : M1 5 = M 5 := by rw [e1]; exact zup_row _ _ (by omega)
  have r6 : M1 6 = M 6 := by rw [e1]; exact zup_row _ _ (by omega)
  have no : ¬ cSe (M 0 10) (M 4) a0 a1 a2 → Q (-1) M1 := fun h => hQ _ _ ⟨hB1, hF1, Or.inr ⟨h, rfl, r5, r6⟩⟩
  refine fR_isRing hB1 v0 (fun h => ⟨fun _ => no (fun x => h (by rw [r10]; exact x.1)), fun c => absurd rfl c⟩) (fun r hr h1 h2 => ⟨fun c => absurd c (by decide), fun _ => ?_⟩)
  have s0 : sI a0 = a0 := sIo v0.1 v0.2
  have s1 : sI a1 = a1 := sIo v1.1 v1.2
  have hra : a0.toNat = r := by omega
  have bl : 0 ≤ M1 4 r ∧ M1 4 r ≤ 24 := BN.at hB1.1 (rfl : zcd wR 4 = 54) rfl
  rw [s0, s1, hra]
  refine sR_in hB1 v1 (by omega) (by omega) (fun z p => ?_)
  obtain ⟨-, p, -⟩ := p
  refine ⟨fun c => no (fun x => by rcases x.2 with y | y <;> omega), fun c => ?_⟩
  refine pJ0_of ((a1 = 0 ∧ 0 ≤ a2 ∧ a2 ≤ 1) ∨ (a1 = 1 ∧ 0 ≤ a2 ∧ a2 < M1 4 r)) (fun hJ => ?_) ⟨fun d => ⟨by omega, ?_⟩, fun d => ?_⟩
  · have ok : cSe (M 0 10) (M 4) a0 a1 a2 := ⟨by omega, by rw [hra, ← r4]; exact hJ⟩
    refine pJ1_of (fun x => (a1 = 0 ∧ x = M 5 r) ∨ (a1 = 1 ∧ x = M 6 r)) (fun x hx => ?_) ⟨fun d => ⟨by omega, Or.inr ⟨by omega, by rw [r6]⟩⟩, fun d => ⟨by omega, Or.inl ⟨d, by rw [r5]⟩⟩⟩
    have b5 := BN.r32 hB.1 5 r
    have b6 := BN.r32 hB.1 6 r
    have sx : sI x = x := sIo (by omega) (by omega)
    rw [sx]
    refine ⟨fun d => ⟨by omega, fun M2 e2 => ?_⟩, fun d => ⟨by omega, fun M2 e2 => ?_⟩⟩
    · refine hQ _ _ ⟨by rw [e2]; exact BI.up hB1 (rfl : zcd wR 6 = 56) rfl (by omega) (by omega) (by decide), fun j9 k9 h9 => by rw [e2, zup_n _ _ (by omega)]; exact hF1 j9 k9 h9, Or.inl ⟨ok, Or.inr ⟨by omega, by rw [hra]; omega, fun k => ?_, by rw [e2, zup_row _ _ (by omega)]; exact r5⟩⟩⟩
      rw [e2, hra]
      by_cases c5 : k = r
      · rw [c5, zup_s, if_pos rfl]
      · rw [zup_n _ _ (by omega), if_neg c5, r6]
    · refine hQ _ _ ⟨by rw [e2]; exact BI.up hB1 (rfl : zcd wR 5 = 55) rfl (by omega) (by omega) (by decide), fun j9 k9 h9 => by rw [e2, zup_n _ _ (by omega)]; exact hF1 j9 k9 h9, Or.inl ⟨ok, Or.inl ⟨d, by rw [hra]; omega, fun k => ?_, by rw [e2, zup_row _ _ (by omega)]; exact r6⟩⟩⟩
      rw [e2, hra]
      by_cases c5 : k = r
      · rw [c5, zup_s, if_pos rfl]
      · rw [zup_n _ _ (by omega), if_neg c5, r5]
  · refine sR_in hB1 v2 (by omega) (by omega) (fun z2 p2 => ?_)
    obtain ⟨-, p2, -⟩ := p2
    refine ⟨fun e => by omega, fun e => no (fun x => ?_)⟩
    have y := x.2
    rw [hra, ← r4] at y
    omega
  · refine sR_isMotor hB1 v2 (fun z2 p2 => ?_)
    obtain ⟨-, p2, -⟩ := p2
    exact ⟨fun e => by omega, fun e => no (fun x => by have y := x.2; omega)⟩
theorem ri_set {MC MR M8 M9 : zM} {a0 a1 a2 z z9 : Int} (h : iRi MC MR) (p : (cSe (MC 32 2) (fun r => MC (41 + 4 * r + 1) 1) a0 a1 a2 ∧ a0 < 4 ∧ ((a1 = 0 ∧ z = MC (41 + 4 * a0.toNat) 1 ∧ M8 = zup MC (41 + 4 * a0.toNat) 1 a2) ∨ (a1 = 1 ∧ z = MC (41 + 4 * a0.toNat) 2 ∧ M8 = zup MC (41 + 4 * a0.toNat) 2 a2))) ∨ (¬ cSe (MC 32 2) (fun r => MC (41 + 4 * r + 1) 1) a0 a1 a2 ∧ z = -1 ∧ M8 = MC)) (f9 : ∀ j9 k9 : Nat, ¬ (j9 = 0 ∧ k9 = 35 ∨ j9 = 5 ∨ j9 = 6) → M9 j9 k9 = MR j9 k9) (q : (cSe (MR 0 10) (MR 4) a0 a1 a2 ∧ ((a1 = 0 ∧ z9 = MR 5 a0.toNat ∧ (∀ k : Nat, M9 5 k = if k = a0.toNat then a2 else MR 5 k) ∧ M9 6 = MR 6) ∨ (a1 = 1 ∧ z9 = MR 6 a0.toNat ∧ (∀ k : Nat, M9 6 k = if k = a0.toNat then a2 else MR 6 k) ∧ M9 5 = MR 5))) ∨ (¬ cSe (MR 0 10) (MR 4) a0 a1 a2 ∧ z9 = -1 ∧ M9 5 = MR 5 ∧ M9 6 = MR 6)) : z = z9 ∧ iRi M8 M9 := by
  have g1 := h.1
  have ec : cSe (MC 32 2) (fun r => MC (41 + 4 * r + 1) 1) a0 a1 a2 ↔ cSe (MR 0 10) (MR 4) a0 a1 a2 := by
    unfold cSe
    dsimp only
    rw [g1]
    constructor
    · rintro ⟨x, y⟩
      obtain ⟨n, -, -, b3, b4, -⟩ := h.2.2 a0.toNat (by omega)
      rw [b4]
      rw [b3] at y
      exact ⟨x, y⟩
    · rintro ⟨x, y⟩
      obtain ⟨n, -, -, b3, b4, -⟩ := h.2.2 a0.toNat (by omega)
      rw [b3]
      rw [b4] at y
      exact ⟨x, y⟩
  rw [← ec] at q
  rcases p with ⟨p1, p3, p4⟩ | ⟨p1, p2, p3⟩
  · rcases q with ⟨q1, q4⟩ | ⟨q1, -⟩
    · have ha := p1.1
      obtain ⟨n, a1', a2', a3, a4, a5, a6, a7, a8, a9, a10, a11⟩ := h.2.2 a0.toNat (by omega)
      have st : a1 = 1 → 0 ≤ a2 ∧ a2 < n := fun e => by
        have y : (a1 = 0 ∧ 0 ≤ a2 ∧ a2 ≤ 1) ∨ (a1 = 1 ∧ 0 ≤ a2 ∧ a2 < MC (41 + 4 * a0.toNat + 1) 1) := p1.2
        omega
      rcases p4 with ⟨d1, d2, d3⟩ | ⟨d1, d2, d3⟩
      · obtain ⟨e1, e2, e3, e4⟩ := q4.resolve_right (fun x => by have := x.1; omega)
        refine ⟨by rw [d2, e2]; exact a5, iRi_one (r0 := a0.toNat) h (fun j hj => by rw [d3, zup_row _ _ (by omega)]) (by rw [d3, zup_n _ _ (by omega)]) (f9 0 10 (by omega)) (fun j r hj hr => ?_) (fun q _ => f9 3 q (by omega)) ?_⟩
        · by_cases c : j = 5
          · rw [c, e3, if_neg hr]
          · by_cases c2 : j = 6
            · rw [c2, e4]
            · exact f9 j r (by omega)
        · refine ⟨n, a1', a2', by rw [d3, zup_n _ _ (by omega)]; exact a3, (f9 4 _ (by omega)).trans a4, by rw [d3, zup_s, e3, if_pos rfl], by rw [d3, zup_n _ _ (by omega), e4]; exact a6, by rw [e4]; exact a7, by rw [d3, zup_n _ _ (by omega), f9 7 _ (by omega)]; exact a8, by rw [d3, zup_n _ _ (by omega), f9 8 _ (by omega)]; exact a9, fun k hk => by rw [d3, zup_n _ _ (by omega), f9 3 _ (by omega)]; exact a10 k hk, fun a ha => ?_⟩
          rw [d3, zup_n _ _ (by omega), zup_n _ _ (by omega), zup_row _ _ (by omega)]
          exact a11 a ha
      · obtain ⟨e1, e2, e3, e4⟩ := q4.resolve_left (fun x => by have := x.1; omega)
        refine ⟨by rw [d2, e2]; exact a6, iRi_one (r0 := a0.toNat) h (fun j hj => by rw [d3, zup_row _ _ (by omega)]) (by rw [d3, zup_n _ _ (by omega)]) (f9 0 10 (by omega)) (fun j r hj hr => ?_) (fun q _ => f9 3 q (by omega)) ?_⟩
        · by_cases c : j = 6
          · rw [c, e3, if_neg hr]
          · by_cases c2 : j = 5
            · rw [c2, e4]
            · exact f9 j r (by omega)
        · refine ⟨n, a1', a2', by rw [d3, zup_n _ _ (by omega)]; exact a3, (f9 4 _ (by omega)).trans a4, by rw [d3, zup_n _ _ (by omega), e4]; exact a5, by rw [d3, zup_s, e3, if_pos rfl], by rw [e3, if_pos rfl]; exact st d1, by rw [d3, zup_n _ _ (by omega), f9 7 _ (by omega)]; exact a8, by rw [d3, zup_n _ _ (by omega), f9 8 _ (by omega)]; exact a9, fun k hk => by rw [d3, zup_n _ _ (by omega), f9 3 _ (by omega)]; exact a10 k hk, fun a ha => ?_⟩
          rw [d3, zup_n _ _ (by omega), zup_n _ _ (by omega), zup_row _ _ (by omega)]
          exact a11 a ha
    · exact absurd p1 q1
  · rcases q with ⟨q1, -⟩ | ⟨q1, q2, q3, q4⟩
    · exact absurd q1 p1
    · rw [p3]
      exact ⟨by omega, iRi_kept h (fun j _ => rfl) rfl (f9 0 10 (by omega)) (funext fun k => f9 3 k (by omega)) (funext fun k => f9 4 k (by omega)) q3 q4 (funext fun k => f9 7 k (by omega)) (funext fun k => f9 8 k (by omega))⟩
end zz47o_rset
section zz47p_rhead
/-! rings: head and cut, alike -/
def hdI (is h o : Int) : Int := if is = 0 then andI h (xorI (shlI 1 o) (-1)) else orI h (shlI 1 o)
theorem hdI_r (is h o : Int) : -2147483648 ≤ hdI is h o ∧ hdI is h o ≤ 2147483647 := by
  unfold hdI
  by_cases c : is = 0
  · rw [if_pos c]
    exact andI_R _ _
  · rw [if_neg c]
    exact orI_R _ _
def cHd (cnt : Int) (hs : Nat → Int) (a0 a1 a2 : Int) : Prop := (0 ≤ a0 ∧ a0 < cnt) ∧ (0 ≤ a1 ∧ a1 ≤ 23) ∧ hdI a2 (hs a0.toNat) a1 ≠ 0
set_option maxHeartbeats 1000000 in
theorem fC_head {M : zM} {a0 a1 a2 : Int} (hB : BN wC M) (hlen : ∀ r : Nat, (r : Int) < M 32 2 → 1 ≤ M (41 + 4 * r + 1) 1) (v0 : -2147483648 ≤ a0 ∧ a0 ≤ 2147483647) (v1 : -2147483648 ≤ a1 ∧ a1 ≤ 2147483647) (v2 : -2147483648 ≤ a2 ∧ a2 ≤ 2147483647) {Q : Int → zM → Prop} (hQ : ∀ (z : Int) (M1 : zM), BN wC M1 ∧ (∀ j9 : Nat, ¬ (41 ≤ j9 ∧ j9 ≤ 56) → M1 j9 = M j9) ∧ ((cHd (M 32 2) (fun r => M (41 + 4 * r) 3) a0 a1 a2 ∧ ∃ r n : Nat, a0 = (r : Int) ∧ r < 4 ∧ M (41 + 4 * r + 1) 1 = (n : Int) ∧ 1 ≤ n ∧ z = bcI (hdI a2 (M (41 + 4 * r) 3) a1) ∧ (∀ p q : Nat, ¬ (p = 41 + 4 * r ∧ q = 3 ∨ p = 41 + 4 * r + 3 ∧ q < n) → M1 p q = M p q) ∧ M1 (41 + 4 * r) 3 = hdI a2 (M (41 + 4 * r) 3) a1 ∧ (∀ a : Nat, a < n → M1 (41 + 4 * r + 3) a = orU (hdI a2 (M (41 + 4 * r) 3) a1) (M (41 + 4 * r + 2)) n a 24)) ∨ (¬ cHd (M 32 2) (fun r => M (41 + 4 * r) 3) a0 a1 a2 ∧ z = -1 ∧ M1 = M)) → Q z M1) : wC_head a0 a1 a2 M Q := by
  unfold wC_head
  have no : ¬ cHd (M 32 2) (fun r => M (41 + 4 * r) 3) a0 a1 a2 → Q (-1) M := fun h => hQ _ _ ⟨hB, fun _ _ => rfl, Or.inr ⟨h, rfl, rfl⟩⟩
  refine fC_find hB v0 (fun h => ⟨fun _ => no (fun x => h x.1), fun q h => nomatch h⟩) (fun r hr h1 h2 => ⟨(fun h => nomatch h), fun q hq => ?_⟩)
  obtain rfl := Option.some.inj hq
  obtain ⟨c1, c2, c3, c4, c5, -⟩ := rg_cd r h2
  have hra : a0.toNat = r := by omega
  have hl := hlen r h1
  have bl : 0 ≤ M (41 + 4 * r + 1) 1 ∧ M (41 + 4 * r + 1) 1 ≤ 24 := BN.at hB c3 rfl
  refine ⟨⟨c1, c2⟩, ?_⟩
  refine sC_within hB v1 (by omega) (by omega) (fun z p => ?_)
  obtain ⟨-, p, -⟩ := p
  refine ⟨fun c => ?_, fun c => no (fun x => by have := x.2.1; omega)⟩
  unfold wC_Ring_putHead
  have s2 : sI a2 = a2 := sIo v2.1 v2.2
  rw [s2]
  refine pJ1_of (fun x => x = hdI a2 (M (41 + 4 * r) 3) a1) (fun x hx => ?_) ⟨fun d => by unfold hdI; rw [if_pos d], fun d => by unfold hdI; rw [if_neg d]⟩
  have rx := hdI_r a2 (M (41 + 4 * r) 3) a1
  rw [← hx] at rx
  have sx : sI x = x := sIo rx.1 rx.2
  rw [sx]
  refine ⟨fun d => fun M2 e2 => ?_, fun d => no (fun x9 => x9.2.2 ?_)⟩
  · have b2 : BN wC M2 := by rw [e2]; exact BN.up hB c2 rfl rx.1 rx.2
    have l2 : M2 (41 + 4 * r + 1) 1 = ((M (41 + 4 * r + 1) 1).toNat : Int) := by rw [e2, zup_n _ _ (by omega)]; omega
    refine fC_listen b2 h2 (by omega) l2 (fun M3 h3 => ?_)
    obtain ⟨b3, f3, g3⟩ := h3
    have e3 : M3 (41 + 4 * r) 3 = x := by rw [f3 _ _ (by omega), e2, zup_s]
    have f4 : ∀ p q : Nat, ¬ (p = 41 + 4 * r ∧ q = 3 ∨ p = 41 + 4 * r + 3 ∧ q < (M (41 + 4 * r + 1) 1).toNat) → M3 p q = M p q := fun p q h => by rw [f3 _ _ (by omega), e2, zup_n _ _ (by omega)]
    refine fC_bitCount ?_
    rw [e3, hx]
    refine hQ _ _ ⟨b3, fun j9 h9 => funext fun q => f4 j9 q (by omega), Or.inl ⟨⟨by omega, by omega, by rw [hra, ← hx]; exact d⟩, r, (M (41 + 4 * r + 1) 1).toNat, hr, h2, by omega, by omega, rfl, f4, e3.trans hx, fun a ha => ?_⟩⟩
    rw [g3 a ha, e2, zup_s, zup_row _ _ (by omega), hx]
  · rw [hra, ← hx]
    exact d
set_option maxHeartbeats 1000000 in
theorem fR_head {M : zM} {a0 a1 a2 : Int} (hB : BI M) (v0 : -2147483648 ≤ a0 ∧ a0 ≤ 2147483647) (v1 : -2147483648 ≤ a1 ∧ a1 ≤ 2147483647) (v2 : -2147483648 ≤ a2 ∧ a2 ≤ 2147483647) {Q : Int → zM → Prop} (hQ : ∀ (z : Int) (M1 : zM), BI M1 ∧ (∀ j9 k9 : Nat, ¬ (j9 = 0 ∧ k9 = 35 ∨ j9 = 7) → M1 j9 k9 = M j9 k9) ∧ ((cHd (M 0 10) (M 7) a0 a1 a2 ∧ z = bcI (hdI a2 (M 7 a0.toNat) a1) ∧ ∀ k : Nat, M1 7 k = if k = a0.toNat then hdI a2 (M 7 a0.toNat) a1 else M 7 k) ∨ (¬ cHd (M 0 10) (M 7) a0 a1 a2 ∧ z = -1 ∧ M1 7 = M 7)) → Q z M1) : wR_head a0 a1 a2 M Q := by
  unfold wR_head
  intro M1 e1
  have hB1 : BI M1 := by rw [e1]; exact BI.up0 hB rfl (by omega) (by omega) (by decide)
  have hF1 : ∀ j9 k9 : Nat, ¬ (j9 = 0 ∧ k9 = 35 ∨ j9 = 7) → M1 j9 k9 = M j9 k9 := fun j9 k9 h9 => by rw [e1]; exact zup_n _ _ (by omega)
  have r10 : M1 0 10 = M 0 10 := by rw [e1]; exact zup_n _ _ (by omega)
  have r7 : M1 7 = M 7 := by rw [e1]; exact zup_row _ _ (by omega)
  have no : ¬ cHd (M 0 10) (M 7) a0 a1 a2 → Q (-1) M1 := fun h => hQ _ _ ⟨hB1, hF1, Or.inr ⟨h, rfl, r7⟩⟩
  refine fR_isRing hB1 v0 (fun h => ⟨fun _ => no (fun x => h (by rw [r10]; exact x.1)), fun c => absurd rfl c⟩) (fun r hr h1 h2 => ⟨fun c => absurd c (by decide), fun _ => ?_⟩)
  have s0 : sI a0 = a0 := sIo v0.1 v0.2
  have s2 : sI a2 = a2 := sIo v2.1 v2.2
  have hra : a0.toNat = r := by omega
  rw [s0, s2, hra, r7]
  refine sR_in hB1 v1 (by omega) (by omega) (fun z p => ?_)
  obtain ⟨-, p, -⟩ := p
  refine ⟨fun c => ?_, fun c => no (fun x => by have := x.2.1; omega)⟩
  refine pJ1_of (fun x => x = hdI a2 (M 7 r) a1) (fun x hx => ?_) ⟨fun d => ⟨by omega, by unfold hdI; rw [if_pos d]⟩, fun d => ⟨by omega, by unfold hdI; rw [if_neg d]⟩⟩
  have rx := hdI_r a2 (M 7 r) a1
  rw [← hx] at rx
  have sx : sI x = x := sIo rx.1 rx.2
  rw [sx]
  refine ⟨fun d => ⟨by omega, fun M2 e2 => ?_⟩, fun d => no (fun x9 => x9.2.2 ?_)⟩
  · refine fR_bitCount ?_
    rw [hx]
    refine hQ _ _ ⟨by rw [e2]; exact BI.up hB1 (rfl : zcd wR 7 = 57) rfl rx.1 rx.2 (by decide), fun j9 k9 h9 => by rw [e2, zup_n _ _ (by omega)]; exact hF1 j9 k9 h9, Or.inl ⟨⟨by omega, by omega, by rw [hra, ← hx]; exact d⟩, by rw [hra], fun k => ?_⟩⟩
    rw [e2, hra]
    by_cases c5 : k = r
    · rw [c5, zup_s, if_pos rfl, hx]
    · rw [zup_n _ _ (by omega), if_neg c5, r7]
  · rw [hra, ← hx]
    exact d
theorem ri_len {MC MR : zM} (h : iRi MC MR) : ∀ r : Nat, (r : Int) < MC 32 2 → 1 ≤ MC (41 + 4 * r + 1) 1 := fun r hr => by
  obtain ⟨n, a1, a2, a3, -⟩ := h.2.2 r hr
  omega
theorem ri_head {MC MR M8 M9 : zM} {a0 a1 a2 z z9 : Int} (h : iRi MC MR) (f8 : ∀ j9 : Nat, ¬ (41 ≤ j9 ∧ j9 ≤ 56) → M8 j9 = MC j9) (p : (cHd (MC 32 2) (fun r => MC (41 + 4 * r) 3) a0 a1 a2 ∧ ∃ r n : Nat, a0 = (r : Int) ∧ r < 4 ∧ MC (41 + 4 * r + 1) 1 = (n : Int) ∧ 1 ≤ n ∧ z = bcI (hdI a2 (MC (41 + 4 * r) 3) a1) ∧ (∀ p q : Nat, ¬ (p = 41 + 4 * r ∧ q = 3 ∨ p = 41 + 4 * r + 3 ∧ q < n) → M8 p q = MC p q) ∧ M8 (41 + 4 * r) 3 = hdI a2 (MC (41 + 4 * r) 3) a1 ∧ (∀ a : Nat, a < n → M8 (41 + 4 * r + 3) a = orU (hdI a2 (MC (41 + 4 * r) 3) a1) (MC (41 + 4 * r + 2)) n a 24)) ∨ (¬ cHd (MC 32 2) (fun r => MC (41 + 4 * r) 3) a0 a1 a2 ∧ z = -1 ∧ M8 = MC)) (f9 : ∀ j9 k9 : Nat, ¬ (j9 = 0 ∧ k9 = 35 ∨ j9 = 7) → M9 j9 k9 = MR j9 k9) (q : (cHd (MR 0 10) (MR 7) a0 a1 a2 ∧ z9 = bcI (hdI a2 (MR 7 a0.toNat) a1) ∧ ∀ k : Nat, M9 7 k = if k = a0.toNat then hdI a2 (MR 7 a0.toNat) a1 else MR 7 k) ∨ (¬ cHd (MR 0 10) (MR 7) a0 a1 a2 ∧ z9 = -1 ∧ M9 7 = MR 7)) : z = z9 ∧ iRi M8 M9 := by
  have g1 := h.1
  have ec : cHd (MC 32 2) (fun r => MC (41 + 4 * r) 3) a0 a1 a2 ↔ cHd (MR 0 10) (MR 7) a0 a1 a2 := by
    unfold cHd
    dsimp only
    rw [g1]
    constructor
    · rintro ⟨x, y⟩
      obtain ⟨n, -, -, -, -, -, -, -, b8, -⟩ := h.2.2 a0.toNat (by omega)
      rw [b8] at y
      exact ⟨x, y⟩
    · rintro ⟨x, y⟩
      obtain ⟨n, -, -, -, -, -, -, -, b8, -⟩ := h.2.2 a0.toNat (by omega)
      rw [b8]
      exact ⟨x, y⟩
  rw [← ec] at q
  rcases p with ⟨p1, r, m, hr, hr4, hm, hm1, d1, d2, d3, d4⟩ | ⟨p1, p2, p3⟩
  · rcases q with ⟨q1, e1, e2⟩ | ⟨q1, -⟩
    · have ha := p1.1
      have hra : a0.toNat = r := by omega
      rw [hra] at e1 e2
      obtain ⟨n, a1', a2', a3, a4, a5, a6, a7, a8, a9, a10, a11⟩ := h.2.2 r (by omega)
      have hmn : m = n := by omega
      subst hmn
      refine ⟨by rw [d1, e1, a8], iRi_one (r0 := r) h (fun j hj => funext fun q => d2 j q (by omega)) (d2 32 2 (by omega)) (f9 0 10 (by omega)) (fun j k hj hk => ?_) (fun q _ => f9 3 q (by omega)) ?_⟩
      · by_cases c : j = 7
        · rw [c, e2, if_neg hk]
        · exact f9 j k (by omega)
      · refine ⟨m, a1', a2', by rw [d2 _ _ (by omega)]; exact a3, (f9 4 _ (by omega)).trans a4, by rw [d2 _ _ (by omega), f9 5 _ (by omega)]; exact a5, by rw [d2 _ _ (by omega), f9 6 _ (by omega)]; exact a6, by rw [f9 6 _ (by omega)]; exact a7, by rw [d3, e2, if_pos rfl, a8], by rw [d2 _ _ (by omega), f9 8 _ (by omega)]; exact a9, fun k hk => by rw [d2 _ _ (by omega), f9 3 _ (by omega)]; exact a10 k hk, fun a ha => ?_⟩
        rw [d3, d4 a ha]
        exact orU_cg a1' (fun k hk => (d2 _ k (by omega)).symm) 24
    · exact absurd p1 q1
  · rcases q with ⟨q1, -⟩ | ⟨q1, q2, q3⟩
    · exact absurd q1 p1
    · rw [p3]
      exact ⟨by omega, iRi_kept h (fun j _ => rfl) rfl (f9 0 10 (by omega)) (funext fun k => f9 3 k (by omega)) (funext fun k => f9 4 k (by omega)) (funext fun k => f9 5 k (by omega)) (funext fun k => f9 6 k (by omega)) q3 (funext fun k => f9 8 k (by omega))⟩
/-- a ring cut, the class's -/
theorem fC_cutBy {M : zM} {r n c : Nat} {a0 : Int} (hB : BN wC M) (hr : r < 4) (hn : M (41 + 4 * r + 1) 1 = (n : Int)) (ha : a0 = (c : Int)) (hc : c < n) {Q : zM → Prop} (hQ : ∀ M1 : zM, BN wC M1 ∧ (∀ p q : Nat, ¬ (p = 41 + 4 * r ∧ q = 2 ∨ p = 41 + 4 * r + 1 ∧ q = 1 ∨ p = 41 + 4 * r + 3 ∧ q < n - c) → M1 p q = M p q) ∧ M1 (41 + 4 * r + 1) 1 = ((n - c : Nat) : Int) ∧ M1 (41 + 4 * r) 2 = M (41 + 4 * r) 2 % ((n - c : Nat) : Int) ∧ (∀ a : Nat, a < n - c → M1 (41 + 4 * r + 3) a = orU (M (41 + 4 * r) 3) (M (41 + 4 * r + 2)) (n - c) a 24) → Q M1) : wC_Ring_cutBy (41 + 4 * r) a0 M Q := by
  unfold wC_Ring_cutBy
  obtain ⟨c1, c2, c3, c4, c5, -⟩ := rg_cd r hr
  have bl : 0 ≤ M (41 + 4 * r + 1) 1 ∧ M (41 + 4 * r + 1) 1 ≤ 24 := BN.at hB c3 rfl
  intro M7 e7
  have b7 : BN wC M7 := by rw [e7]; exact BN.up hB c3 rfl (by omega) (by omega)
  have l7 : M7 (41 + 4 * r + 1) 1 = ((n - c : Nat) : Int) := by rw [e7, zup_s, hn, ha]; omega
  have t7 : M7 (41 + 4 * r) 2 = M (41 + 4 * r) 2 := by rw [e7, zup_n _ _ (by omega)]
  have bs : 0 ≤ M (41 + 4 * r) 2 ∧ M (41 + 4 * r) 2 ≤ 23 := BN.at hB c2 rfl
  have ss : sI (M (41 + 4 * r) 2) = M (41 + 4 * r) 2 := sIo (by omega) (by omega)
  rw [l7, t7, ss]
  refine fC_by (by omega) (by omega) ?_
  intro M13 e13
  have em := emB (M (41 + 4 * r) 2) ((n - c : Nat) : Int) (by omega)
  have b13 : BN wC M13 := by rw [e13]; exact BN.up b7 c2 rfl (by omega) (by omega)
  have l13 : M13 (41 + 4 * r + 1) 1 = ((n - c : Nat) : Int) := by rw [e13, zup_n _ _ (by omega)]; exact l7
  refine fC_listen b13 hr (by omega) l13 (fun M3 h3 => ?_)
  obtain ⟨b3, f3, g3⟩ := h3
  refine hQ _ ⟨b3, fun p q h => by rw [f3 _ _ (by omega), e13, zup_n _ _ (by omega), e7, zup_n _ _ (by omega)], by rw [f3 _ _ (by omega)]; exact l13, by rw [f3 _ _ (by omega), e13, zup_s], fun a ha => ?_⟩
  rw [g3 a ha, e13, zup_n _ _ (by omega), zup_row _ _ (by omega), e7, zup_n _ _ (by omega), zup_row _ _ (by omega)]
def cCu (cnt : Int) (len : Nat → Int) (a0 a1 : Int) : Prop := (0 ≤ a0 ∧ a0 < cnt) ∧ (0 ≤ a1 ∧ a1 < len a0.toNat)
theorem fC_cut {M : zM} {a0 a1 : Int} (hB : BN wC M) (v0 : -2147483648 ≤ a0 ∧ a0 ≤ 2147483647) (v1 : -2147483648 ≤ a1 ∧ a1 ≤ 2147483647) {Q : Int → zM → Prop} (hQ : ∀ (z : Int) (M1 : zM), BN wC M1 ∧ (∀ j9 : Nat, ¬ (41 ≤ j9 ∧ j9 ≤ 56) → M1 j9 = M j9) ∧ ((cCu (M 32 2) (fun r => M (41 + 4 * r + 1) 1) a0 a1 ∧ ∃ r n c : Nat, a0 = (r : Int) ∧ r < 4 ∧ M (41 + 4 * r + 1) 1 = (n : Int) ∧ a1 = (c : Int) ∧ c < n ∧ z = ((n - c : Nat) : Int) ∧ (∀ p q : Nat, ¬ (p = 41 + 4 * r ∧ q = 2 ∨ p = 41 + 4 * r + 1 ∧ q = 1 ∨ p = 41 + 4 * r + 3 ∧ q < n - c) → M1 p q = M p q) ∧ M1 (41 + 4 * r + 1) 1 = ((n - c : Nat) : Int) ∧ M1 (41 + 4 * r) 2 = M (41 + 4 * r) 2 % ((n - c : Nat) : Int) ∧ (∀ a : Nat, a < n - c → M1 (41 + 4 * r + 3) a = orU (M (41 + 4 * r) 3) (M (41 + 4 * r + 2)) (n - c) a 24)) ∨ (¬ cCu (M 32 2) (fun r => M (41 + 4 * r + 1) 1) a0 a1 ∧ z = -1 ∧ M1 = M)) → Q z M1) : wC_cut a0 a1 M Q := by
  unfold wC_cut
  have no : ¬ cCu (M 32 2) (fun r => M (41 + 4 * r + 1) 1) a0 a1 → Q (-1) M := fun h => hQ _ _ ⟨hB, fun _ _ => rfl, Or.inr ⟨h, rfl, rfl⟩⟩
  refine fC_find hB v0 (fun h => ⟨fun _ => no (fun x => h x.1), fun q h => nomatch h⟩) (fun r hr h1 h2 => ⟨(fun h => nomatch h), fun q hq => ?_⟩)
  obtain rfl := Option.some.inj hq
  obtain ⟨c1, c2, c3, c4, c5, -⟩ := rg_cd r h2
  have hra : a0.toNat = r := by omega
  have bl : 0 ≤ M (41 + 4 * r + 1) 1 ∧ M (41 + 4 * r + 1) 1 ≤ 24 := BN.at hB c3 rfl
  refine ⟨⟨c1, c2⟩, ?_⟩
  refine sC_Strip_has hB (by have e1 : nC = 134 := rfl; omega) c3 v1 (fun z p => ?_)
  obtain ⟨-, p, -⟩ := p
  refine ⟨fun d => ?_, fun d => no (fun x => ?_)⟩
  · refine fC_cutBy (n := (M (41 + 4 * r + 1) 1).toNat) (c := a1.toNat) hB h2 (by omega) (by omega) (by omega) (fun M1 h => ?_)
    obtain ⟨b1, f1, l1, s1, g1⟩ := h
    have sl : sI (M1 (41 + 4 * r + 1) 1) = (((M (41 + 4 * r + 1) 1).toNat - a1.toNat : Nat) : Int) := by rw [l1]; exact sIo (by omega) (by omega)
    rw [sl]
    exact hQ _ _ ⟨b1, fun j9 h9 => funext fun q => f1 j9 q (by omega), Or.inl ⟨⟨by omega, by omega, by rw [hra]; show a1 < M (41 + 4 * r + 1) 1; omega⟩, r, (M (41 + 4 * r + 1) 1).toNat, a1.toNat, hr, h2, by omega, by omega, by omega, rfl, f1, l1, s1, g1⟩⟩
  · have y := x.2
    rw [hra] at y
    have y : 0 ≤ a1 ∧ a1 < M (41 + 4 * r + 1) 1 := y
    omega
set_option maxHeartbeats 1000000 in
theorem fR_cut {M : zM} {a0 a1 : Int} (hB : BI M) (v0 : -2147483648 ≤ a0 ∧ a0 ≤ 2147483647) (v1 : -2147483648 ≤ a1 ∧ a1 ≤ 2147483647) {Q : Int → zM → Prop} (hQ : ∀ (z : Int) (M1 : zM), BI M1 ∧ (∀ j9 k9 : Nat, ¬ (j9 = 0 ∧ k9 = 35 ∨ j9 = 4 ∨ j9 = 6) → M1 j9 k9 = M j9 k9) ∧ ((cCu (M 0 10) (M 4) a0 a1 ∧ z = M 4 a0.toNat - a1 ∧ (∀ k : Nat, M1 4 k = if k = a0.toNat then M 4 a0.toNat - a1 else M 4 k) ∧ (∀ k : Nat, M1 6 k = if k = a0.toNat then M 6 a0.toNat % (M 4 a0.toNat - a1) else M 6 k)) ∨ (¬ cCu (M 0 10) (M 4) a0 a1 ∧ z = -1 ∧ M1 4 = M 4 ∧ M1 6 = M 6)) → Q z M1) : wR_cut a0 a1 M Q := by
  unfold wR_cut
  intro M1 e1
  have hB1 : BI M1 := by rw [e1]; exact BI.up0 hB rfl (by omega) (by omega) (by decide)
  have hF1 : ∀ j9 k9 : Nat, ¬ (j9 = 0 ∧ k9 = 35 ∨ j9 = 4 ∨ j9 = 6) → M1 j9 k9 = M j9 k9 := fun j9 k9 h9 => by rw [e1]; exact zup_n _ _ (by omega)
  have r10 : M1 0 10 = M 0 10 := by rw [e1]; exact zup_n _ _ (by omega)
  have r4 : M1 4 = M 4 := by rw [e1]; exact zup_row _ _ (by omega)
  have r6 : M1 6 = M 6 := by rw [e1]; exact zup_row _ _ (by omega)
  have no : ¬ cCu (M 0 10) (M 4) a0 a1 → Q (-1) M1 := fun h => hQ _ _ ⟨hB1, hF1, Or.inr ⟨h, rfl, r4, r6⟩⟩
  refine fR_isRing hB1 v0 (fun h => ⟨fun _ => no (fun x => h (by rw [r10]; exact x.1)), fun c => absurd rfl c⟩) (fun r hr h1 h2 => ⟨fun c => absurd c (by decide), fun _ => ?_⟩)
  have s0 : sI a0 = a0 := sIo v0.1 v0.2
  have hra : a0.toNat = r := by omega
  have bl : 0 ≤ M 4 r ∧ M 4 r ≤ 24 := BN.at hB.1 (rfl : zcd wR 4 = 54) rfl
  have bs : 0 ≤ M 6 r ∧ M 6 r ≤ 23 := BN.at hB.1 (rfl : zcd wR 6 = 56) rfl
  rw [s0, hra, r4]
  refine ⟨by omega, ?_⟩
  refine sR_in hB1 v1 (by omega) (by omega) (fun z p => ?_)
  obtain ⟨-, p, -⟩ := p
  refine ⟨fun c => ?_, fun c => no (fun x => by have y := x.2; rw [hra] at y; omega)⟩
  refine ⟨by omega, by omega, fun M2 e2 => ?_⟩
  have l2 : M2 4 r = M 4 r - a1 := by rw [e2, zup_s]
  have t2 : M2 6 r = M 6 r := by rw [e2, zup_n _ _ (by omega), r6]
  have b2 : BI M2 := by rw [e2]; exact BI.up4 hB1 (by omega) (by omega)
  have s4 : sI (M 4 r - a1) = M 4 r - a1 := sIo (by omega) (by omega)
  have s6 : sI (M 6 r) = M 6 r := sIo (by omega) (by omega)
  rw [l2, t2, s4, s6, Int.tmod_eq_emod_of_nonneg bs.1]
  refine ⟨by omega, by omega, by omega, by omega, fun M3 e3 => ?_⟩
  have em := emB (M 6 r) (M 4 r - a1) (by omega)
  have l3 : M3 4 r = M 4 r - a1 := by rw [e3, zup_n _ _ (by omega)]; exact l2
  rw [l3, s4]
  refine ⟨by omega, ?_⟩
  refine hQ _ _ ⟨by rw [e3]; exact BI.up b2 (rfl : zcd wR 6 = 56) rfl (by omega) (by omega) (by decide), fun j9 k9 h9 => by rw [e3, zup_n _ _ (by omega), e2, zup_n _ _ (by omega)]; exact hF1 j9 k9 h9, Or.inl ⟨⟨by omega, by rw [hra]; omega⟩, by rw [hra], fun k => ?_, fun k => ?_⟩⟩
  · rw [e3, zup_n _ _ (by omega), e2, hra]
    by_cases c5 : k = r
    · rw [c5, zup_s, if_pos rfl]
    · rw [zup_n _ _ (by omega), if_neg c5, r4]
  · rw [e3, hra]
    by_cases c5 : k = r
    · rw [c5, zup_s, if_pos rfl]
    · rw [zup_n _ _ (by omega), if_neg c5, e2, zup_n _ _ (by omega), r6]
theorem ri_cut {MC MR M8 M9 : zM} {a0 a1 z z9 : Int} (h : iRi MC MR) (p : (cCu (MC 32 2) (fun r => MC (41 + 4 * r + 1) 1) a0 a1 ∧ ∃ r n c : Nat, a0 = (r : Int) ∧ r < 4 ∧ MC (41 + 4 * r + 1) 1 = (n : Int) ∧ a1 = (c : Int) ∧ c < n ∧ z = ((n - c : Nat) : Int) ∧ (∀ p q : Nat, ¬ (p = 41 + 4 * r ∧ q = 2 ∨ p = 41 + 4 * r + 1 ∧ q = 1 ∨ p = 41 + 4 * r + 3 ∧ q < n - c) → M8 p q = MC p q) ∧ M8 (41 + 4 * r + 1) 1 = ((n - c : Nat) : Int) ∧ M8 (41 + 4 * r) 2 = MC (41 + 4 * r) 2 % ((n - c : Nat) : Int) ∧ (∀ a : Nat, a < n - c → M8 (41 + 4 * r + 3) a = orU (MC (41 + 4 * r) 3) (MC (41 + 4 * r + 2)) (n - c) a 24)) ∨ (¬ cCu (MC 32 2) (fun r => MC (41 + 4 * r + 1) 1) a0 a1 ∧ z = -1 ∧ M8 = MC)) (f9 : ∀ j9 k9 : Nat, ¬ (j9 = 0 ∧ k9 = 35 ∨ j9 = 4 ∨ j9 = 6) → M9 j9 k9 = MR j9 k9) (q : (cCu (MR 0 10) (MR 4) a0 a1 ∧ z9 = MR 4 a0.toNat - a1 ∧ (∀ k : Nat, M9 4 k = if k = a0.toNat then MR 4 a0.toNat - a1 else MR 4 k) ∧ (∀ k : Nat, M9 6 k = if k = a0.toNat then MR 6 a0.toNat % (MR 4 a0.toNat - a1) else MR 6 k)) ∨ (¬ cCu (MR 0 10) (MR 4) a0 a1 ∧ z9 = -1 ∧ M9 4 = MR 4 ∧ M9 6 = MR 6)) : z = z9 ∧ iRi M8 M9 := by
  have g1 := h.1
  have ec : cCu (MC 32 2) (fun r => MC (41 + 4 * r + 1) 1) a0 a1 ↔ cCu (MR 0 10) (MR 4) a0 a1 := by
    unfold cCu
    dsimp only
    rw [g1]
    constructor
    · rintro ⟨x, y⟩
      obtain ⟨n, -, -, b3, b4, -⟩ := h.2.2 a0.toNat (by omega)
      rw [b3] at y
      rw [b4]
      exact ⟨x, y⟩
    · rintro ⟨x, y⟩
      obtain ⟨n, -, -, b3, b4, -⟩ := h.2.2 a0.toNat (by omega)
      rw [b4] at y
      rw [b3]
      exact ⟨x, y⟩
  rw [← ec] at q
  rcases p with ⟨p1, r, m, c, hr, hr4, hm, hc, hcm, d1, d2, d3, d4, d5⟩ | ⟨p1, p2, p3⟩
  · rcases q with ⟨q1, e1, e2, e3⟩ | ⟨q1, -⟩
    · have ha := p1.1
      have hra : a0.toNat = r := by omega
      rw [hra] at e1 e2 e3
      obtain ⟨n, a1', a2', a3, a4, a5, a6, a7, a8, a9, a10, a11⟩ := h.2.2 r (by omega)
      have hmn : m = n := by omega
      subst hmn
      have el : MR 4 r - a1 = ((m - c : Nat) : Int) := by omega
      rw [el] at e1 e2 e3
      have em := emB (MR 6 r) ((m - c : Nat) : Int) (by omega)
      refine ⟨by rw [d1, e1], iRi_one (r0 := r) h (fun j hj => funext fun q => d2 j q (by omega)) (d2 32 2 (by omega)) (f9 0 10 (by omega)) (fun j k hj hk => ?_) (fun q _ => f9 3 q (by omega)) ?_⟩
      · by_cases c : j = 4
        · rw [c, e2, if_neg hk]
        · by_cases c2 : j = 6
          · rw [c2, e3, if_neg hk]
          · exact f9 j k (by omega)
      · refine ⟨m - c, by omega, by omega, d3, by rw [e2, if_pos rfl], by rw [d2 _ _ (by omega), f9 5 _ (by omega)]; exact a5, by rw [d4, e3, if_pos rfl, a6], by rw [e3, if_pos rfl]; exact em, by rw [d2 _ _ (by omega), f9 7 _ (by omega)]; exact a8, by rw [d2 _ _ (by omega), f9 8 _ (by omega)]; exact a9, fun k hk => by rw [d2 _ _ (by omega), f9 3 _ (by omega)]; exact a10 k (by omega), fun a ha => ?_⟩
        rw [d2 (41 + 4 * r) 3 (by omega), d5 a ha]
        exact orU_cg (by omega) (fun k hk => (d2 _ k (by omega)).symm) 24
    · exact absurd p1 q1
  · rcases q with ⟨q1, -⟩ | ⟨q1, q2, q3, q4⟩
    · exact absurd q1 p1
    · rw [p3]
      exact ⟨by omega, iRi_kept h (fun j _ => rfl) rfl (f9 0 10 (by omega)) (funext fun k => f9 3 k (by omega)) q3 (funext fun k => f9 5 k (by omega)) q4 (funext fun k => f9 7 k (by omega)) (funext fun k => f9 8 k (by omega))⟩
end zz47p_rhead
section zz47q_ring2
/-! rings: a new one, alike -/
def cRg (cnt n a0 a1 : Int) : Prop := (0 ≤ a0 ∧ a0 ≤ 1) ∧ (0 ≤ a1 ∧ a1 < n) ∧ cnt < 4
set_option maxHeartbeats 2000000 in
theorem fC_ring {M : zM} {a0 a1 : Int} (hB : BN wC M) (v0 : -2147483648 ≤ a0 ∧ a0 ≤ 2147483647) (v1 : -2147483648 ≤ a1 ∧ a1 ≤ 2147483647) {Q : Int → zM → Prop} (hQ : ∀ (z : Int) (M1 : zM), BN wC M1 ∧ (∀ j9 : Nat, ¬ (j9 = 32 ∨ 41 ≤ j9 ∧ j9 ≤ 56) → M1 j9 = M j9) ∧ ((cRg (M 32 2) (M 30 1) a0 a1 ∧ ∃ c n : Nat, M 32 2 = (c : Int) ∧ c < 4 ∧ M 30 1 = (n : Int) ∧ 1 ≤ n ∧ z = (c : Int) ∧ M1 32 2 = (c : Int) + 1 ∧ (∀ p q : Nat, ¬ (p = 32 ∧ q = 2 ∨ 41 + 4 * c ≤ p ∧ p ≤ 41 + 4 * c + 3) → M1 p q = M p q) ∧ M1 (41 + 4 * c) 1 = a0 ∧ M1 (41 + 4 * c) 2 = a1 ∧ M1 (41 + 4 * c) 3 = 1 ∧ M1 (41 + 4 * c) 4 = 0 ∧ M1 (41 + 4 * c + 1) 1 = (n : Int) ∧ (∀ k : Nat, k < 24 → M1 (41 + 4 * c + 2) k = M 31 k) ∧ (∀ a : Nat, a < n → M1 (41 + 4 * c + 3) a = orU 1 (M1 (41 + 4 * c + 2)) n a 24)) ∨ (¬ cRg (M 32 2) (M 30 1) a0 a1 ∧ z = -1 ∧ M1 = M)) → Q z M1) : wC_ring a0 a1 M Q := by
  unfold wC_ring
  have no : ¬ cRg (M 32 2) (M 30 1) a0 a1 → Q (-1) M := fun h => hQ _ _ ⟨hB, fun _ _ => rfl, Or.inr ⟨h, rfl, rfl⟩⟩
  have bn : 0 ≤ M 30 1 ∧ M 30 1 ≤ 24 := BN.at hB (rfl : zcd wC 30 = 6) rfl
  have bc : 0 ≤ M 32 2 ∧ M 32 2 ≤ 4 := BN.at hB (rfl : zcd wC 32 = 8) rfl
  refine sC_isMotor hB v0 (fun z p => ?_)
  obtain ⟨-, p, -⟩ := p
  refine ⟨fun d => no (fun x => by have := x.1; omega), fun d => ?_⟩
  refine sC_Strip_has hB (by decide) (rfl : zcd wC 30 = 6) v1 (fun z2 p2 => ?_)
  obtain ⟨-, p2, -⟩ := p2
  refine ⟨fun d2 => ?_, fun d2 => no (fun x => by have := x.2.1; omega)⟩
  unfold wC_Studio_add
  have sc : sI (M 32 2) = M 32 2 := sIo (by omega) (by omega)
  rw [sc]
  refine ⟨fun d3 => ⟨by omega, ?_⟩, fun d3 => no (fun x => by have := x.2.2; omega)⟩
  obtain ⟨c, hc⟩ : ∃ c : Nat, M 32 2 = (c : Int) := ⟨(M 32 2).toNat, by omega⟩
  obtain ⟨n, hn⟩ : ∃ n : Nat, M 30 1 = (n : Int) := ⟨(M 30 1).toNat, by omega⟩
  have tc : (M 32 2).toNat = c := by omega
  have c4 : c < 4 := by omega
  obtain ⟨g1, g2, g3, g4, g5, g6⟩ := rg_cd c c4
  rw [tc]
  unfold wC_Ring_begin
  refine fC_copy (x := (n, M 31)) hB g3 g4 (rfl : zcd wC 30 = 6) ⟨by omega, by omega, by omega⟩ ⟨hn, fun k _ => rfl⟩ (fun M9 h9 => ?_)
  obtain ⟨b9, f9, i9, r9⟩ := h9
  intro M10 e10 M12 e12 M14 e14 M16 e16
  have b10 : BN wC M10 := by rw [e10]; exact BN.up b9 g2 rfl (by omega) (by omega)
  have b12 : BN wC M12 := by rw [e12]; exact BN.up b10 g2 rfl (by omega) (by omega)
  have b14 : BN wC M14 := by rw [e14]; exact BN.up b12 g2 rfl (by omega) (by omega)
  have b16 : BN wC M16 := by rw [e16]; exact BN.up b14 g2 rfl (by omega) (by omega)
  have f16 : ∀ p q : Nat, ¬ (p = 41 + 4 * c ∧ 1 ≤ q ∧ q ≤ 4) → M16 p q = M9 p q := fun p q h => by rw [e16, zup_n _ _ (by omega), e14, zup_n _ _ (by omega), e12, zup_n _ _ (by omega), e10, zup_n _ _ (by omega)]
  have l16 : M16 (41 + 4 * c + 1) 1 = (n : Int) := (f16 _ _ (by omega)).trans i9.1
  refine fC_listen b16 c4 (by omega) l16 (fun M3 h3 => ?_)
  obtain ⟨b3, f3, h3⟩ := h3
  intro M4 e4
  have n3 : M3 32 2 = (c : Int) := by rw [f3 _ _ (by omega), f16 _ _ (by omega), f9 _ _ (by omega)]; exact hc
  have b4 : BN wC M4 := by rw [e4]; exact BN.up b3 (rfl : zcd wC 32 = 8) rfl (by omega) (by omega)
  have n4 : M4 32 2 = (c : Int) + 1 := by rw [e4, zup_s, n3]
  have sz : sI (M4 32 2 - 1) = (c : Int) := by rw [n4, sIo (by omega) (by omega)]; omega
  have f4 : ∀ p q : Nat, ¬ (p = 32 ∧ q = 2 ∨ p = 41 + 4 * c + 3) → M4 p q = M16 p q := fun p q h => by rw [e4, zup_n _ _ (by omega), f3 _ _ (by omega)]
  have fr : ∀ p q : Nat, ¬ (p = 32 ∧ q = 2 ∨ 41 + 4 * c ≤ p ∧ p ≤ 41 + 4 * c + 3) → M4 p q = M p q := fun p q h => by rw [f4 _ _ (by omega), f16 _ _ (by omega), f9 _ _ (by omega)]
  rw [sz]
  refine hQ _ _ ⟨b4, fun j9 h9 => funext fun q => fr j9 q (by omega), Or.inl ⟨⟨by omega, by omega, by omega⟩, c, n, hc, c4, hn, by omega, rfl, n4, fr, ?_, ?_, ?_, ?_, ?_, ?_, ?_⟩⟩
  · rw [f4 _ _ (by omega), e16, zup_n _ _ (by omega), e14, zup_n _ _ (by omega), e12, zup_n _ _ (by omega), e10, zup_s]
  · rw [f4 _ _ (by omega), e16, zup_n _ _ (by omega), e14, zup_n _ _ (by omega), e12, zup_s]
  · rw [f4 _ _ (by omega), e16, zup_n _ _ (by omega), e14, zup_s]
  · rw [f4 _ _ (by omega), e16, zup_s]
  · rw [f4 _ _ (by omega)]
    exact l16
  · intro k hk
    rw [f4 _ _ (by omega), f16 _ _ (by omega)]
    exact r9 k hk
  · intro a ha
    have e16' : M16 (41 + 4 * c) 3 = 1 := by rw [e16, zup_n _ _ (by omega), e14, zup_s]
    rw [e4, zup_n _ _ (by omega), h3 a ha, e16']
    exact orU_cg (by omega) (fun k _ => by rw [zup_n _ _ (by omega), f3 _ _ (by omega)]) 24
set_option maxHeartbeats 2000000 in
theorem fR_ring {M : zM} {a0 a1 : Int} (hB : BI M) (v0 : -2147483648 ≤ a0 ∧ a0 ≤ 2147483647) (v1 : -2147483648 ≤ a1 ∧ a1 ≤ 2147483647) {Q : Int → zM → Prop} (hQ : ∀ (z : Int) (M1 : zM), BI M1 ∧ (∀ j9 k9 : Nat, ¬ (j9 = 0 ∧ k9 = 35 ∨ j9 = 0 ∧ k9 = 10 ∨ j9 = 3 ∨ j9 = 4 ∨ j9 = 5 ∨ j9 = 6 ∨ j9 = 7 ∨ j9 = 8) → M1 j9 k9 = M j9 k9) ∧ ((cRg (M 0 10) (M 0 3) a0 a1 ∧ ∃ c n : Nat, M 0 10 = (c : Int) ∧ M 0 3 = (n : Int) ∧ z = (c : Int) ∧ M1 0 10 = (c : Int) + 1 ∧ (∀ j k : Nat, 4 ≤ j ∧ j ≤ 8 → k ≠ c → M1 j k = M j k) ∧ (∀ k : Nat, ¬ (24 * c ≤ k ∧ k < 24 * c + 24) → M1 3 k = M 3 k) ∧ M1 4 c = (n : Int) ∧ M1 5 c = a0 ∧ M1 6 c = a1 ∧ M1 7 c = 1 ∧ M1 8 c = 0 ∧ (∀ k : Nat, k < n → M1 3 (24 * c + k) = M 2 k)) ∨ (¬ cRg (M 0 10) (M 0 3) a0 a1 ∧ z = -1 ∧ ∀ j9 k9 : Nat, ¬ (j9 = 0 ∧ k9 = 35) → M1 j9 k9 = M j9 k9)) → Q z M1) : wR_ring a0 a1 M Q := by
  unfold wR_ring
  intro M1 e1
  have hB1 : BI M1 := by rw [e1]; exact BI.up0 hB (rfl : cbt 50 35 = (-2147483648, 2147483647)) (by omega) (by omega) (by decide)
  have F1 : ∀ j9 k9 : Nat, ¬ (j9 = 0 ∧ k9 = 35) → M1 j9 k9 = M j9 k9 := fun j9 k9 h9 => by rw [e1]; exact zup_n _ _ (by omega)
  have r3 : M1 0 3 = M 0 3 := F1 0 3 (by omega)
  have r10 : M1 0 10 = M 0 10 := F1 0 10 (by omega)
  have no : ¬ cRg (M 0 10) (M 0 3) a0 a1 → Q (-1) M1 := fun h => hQ _ _ ⟨hB1, fun j9 k9 h9 => F1 j9 k9 (by omega), Or.inr ⟨h, rfl, F1⟩⟩
  have b3 : 0 ≤ M 0 3 ∧ M 0 3 ≤ 24 := BN.at hB.1 (rfl : zcd wR 0 = 50) rfl
  have b10 : 0 ≤ M 0 10 ∧ M 0 10 ≤ 4 := BN.at hB.1 (rfl : zcd wR 0 = 50) rfl
  have s3 : sI (M 0 3) = M 0 3 := sIo (by omega) (by omega)
  have s10 : sI (M 0 10) = M 0 10 := sIo (by omega) (by omega)
  rw [r3, r10, s3, s10]
  refine ⟨fun d => no (fun x => by have := x.2.1; omega), fun d => ?_⟩
  refine sR_isMotor hB1 (by omega) (fun z5 h5 => ?_)
  obtain ⟨-, h5, -⟩ := h5
  refine ⟨fun e5 => no (fun x => by have := x.1; omega), fun e5 => ?_⟩
  refine sR_in hB1 (by omega) (by omega) (by omega) (fun z10 h10 => ?_)
  obtain ⟨-, h10, -⟩ := h10
  refine ⟨fun e10 => no (fun x => by have := x.2.1; omega), fun e10 => ⟨fun c4 => ⟨by omega, ?_⟩, fun c4 => no (fun x => by have := x.2.2; omega)⟩⟩
  have gg : cRg (M 0 10) (M 0 3) a0 a1 := ⟨by omega, by omega, by omega⟩
  have ga : 0 ≤ a0 ∧ a0 ≤ 1 := gg.1
  have gb : 0 ≤ a1 ∧ a1 < M 0 3 := gg.2.1
  have gc : M 0 10 < 4 := gg.2.2
  clear h5 h10 e5 e10 no d
  obtain ⟨c, hc⟩ : ∃ c : Nat, M 0 10 = (c : Int) := ⟨(M 0 10).toNat, by omega⟩
  obtain ⟨n, hn⟩ : ∃ n : Nat, M 0 3 = (n : Int) := ⟨(M 0 3).toNat, by omega⟩
  have tc : (M 0 10).toNat = c := by omega
  intro M16 e16
  rw [tc] at e16
  clear tc
  refine wL1_of (fun x P => BI P ∧ (∀ j k : Nat, ¬ (j = 0 ∧ k = 35 ∨ j = 3 ∧ 24 * c ≤ k ∧ k < 24 * c + 24 ∨ j = 4 ∧ k = c) → P j k = M j k) ∧ P 4 c = (n : Int) ∧ ∃ i : Nat, x = (i : Int) ∧ i ≤ n ∧ ∀ k : Nat, k < i → P 3 (24 * c + k) = M 2 k) (fun x _ => (1000 - x).toNat) ⟨by rw [e16]; exact BI.up4 hB1 (by omega) (by omega), fun j k h => by rw [e16, zup_n _ _ (by omega)]; exact F1 j k (by omega), by rw [e16, zup_s]; exact hn, 0, rfl, by omega, fun k h => absurd h (Nat.not_lt_zero k)⟩ (fun K x P hI hK => ?_)
  obtain ⟨hBP, FP, p4, i, rfl, i1, hv⟩ := hI
  have q10 : P 0 10 = (c : Int) := (FP 0 10 (by omega)).trans hc
  have q3 : P 0 3 = (n : Int) := (FP 0 3 (by omega)).trans hn
  have sc : sI (c : Int) = c := sIo (by omega) (by omega)
  have sn : sI (n : Int) = n := sIo (by omega) (by omega)
  have sx : sI (i : Int) = i := sIo (by omega) (by omega)
  have tcc : ((c : Int)).toNat = c := by omega
  have tx : ((i : Int)).toNat = i := by omega
  rw [q3, q10, sn, sc, sx, tcc, tx]
  clear tx
  refine ⟨fun c5 => ⟨by omega, ?_⟩, fun c5 => ?_⟩
  · intro M29 e29
    have hB29 : BI M29 := by rw [e29]; exact BI.up hBP (rfl : zcd wR 5 = 55) rfl (by omega) (by omega) (by decide)
    have r29 : M29 0 10 = (c : Int) := by rw [e29, zup_n _ _ (by omega)]; exact q10
    rw [r29, sc, tcc]
    refine ⟨by omega, ?_⟩
    intro M32 e32
    have hB32 : BI M32 := by rw [e32]; exact BI.up hB29 (rfl : zcd wR 6 = 56) rfl (by omega) (by omega) (by decide)
    have r32 : M32 0 10 = (c : Int) := by rw [e32, zup_n _ _ (by omega)]; exact r29
    rw [r32, sc, tcc]
    refine ⟨by omega, ?_⟩
    intro M35 e35
    have hB35 : BI M35 := by rw [e35]; exact BI.up hB32 (rfl : zcd wR 7 = 57) rfl (by omega) (by omega) (by decide)
    have r35 : M35 0 10 = (c : Int) := by rw [e35, zup_n _ _ (by omega)]; exact r32
    rw [r35, sc, tcc]
    clear tcc
    refine ⟨by omega, ?_⟩
    intro M38 e38
    have hB38 : BI M38 := by rw [e38]; exact BI.up hB35 (rfl : zcd wR 8 = 58) rfl (by omega) (by omega) (by decide)
    have r38 : M38 0 10 = (c : Int) := by rw [e38, zup_n _ _ (by omega)]; exact r35
    have r4 : M38 4 c = (n : Int) := by rw [e38, zup_n _ _ (by omega), e35, zup_n _ _ (by omega), e32, zup_n _ _ (by omega), e29, zup_n _ _ (by omega)]; exact p4
    intro M40 e40
    have n40 : M40 0 10 = (c : Int) + 1 := by rw [e40, zup_s, r38]
    have sz : sI (M40 0 10 - 1) = (c : Int) := by rw [n40, sIo (by omega) (by omega)]; omega
    have g40 : ∀ j k : Nat, ¬ (j = 0 ∧ k = 10 ∨ 5 ≤ j ∧ j ≤ 8 ∧ k = c) → M40 j k = P j k := fun j k h => by rw [e40, zup_n _ _ (by omega), e38, zup_n _ _ (by omega), e35, zup_n _ _ (by omega), e32, zup_n _ _ (by omega), e29, zup_n _ _ (by omega)]
    rw [sz]
    refine hQ _ _ ⟨by rw [e40]; exact BI.upR hB38 rfl (by omega) (by rw [show (M38 0 10).toNat = c by omega, r4]; omega), fun j9 k9 h9 => by rw [g40 _ _ (by omega)]; exact FP j9 k9 (by omega), Or.inl ⟨gg, c, n, hc, hn, rfl, n40, fun j k hj hk => by rw [g40 _ _ (by omega)]; exact FP j k (by omega), fun k hk => by rw [g40 _ _ (by omega)]; exact FP 3 k (by omega), by rw [g40 _ _ (by omega)]; exact p4, ?_, ?_, ?_, ?_, fun k hk => by rw [g40 _ _ (by omega)]; exact hv k (by omega)⟩⟩
    · rw [e40, zup_n _ _ (by omega), e38, zup_n _ _ (by omega), e35, zup_n _ _ (by omega), e32, zup_n _ _ (by omega), e29, zup_s]
    · rw [e40, zup_n _ _ (by omega), e38, zup_n _ _ (by omega), e35, zup_n _ _ (by omega), e32, zup_s]
    · rw [e40, zup_n _ _ (by omega), e38, zup_n _ _ (by omega), e35, zup_s]
    · rw [e40, zup_n _ _ (by omega), e38, zup_s]
  · have s6 : sI (24 * (c : Int) + (i : Int)) = 24 * (c : Int) + (i : Int) := sIo (by omega) (by omega)
    have t6 : (24 * (c : Int) + (i : Int)).toNat = 24 * c + i := by omega
    rw [s6, t6]
    clear t6 tcc
    refine ⟨by omega, by omega, ?_⟩
    intro M44 e44
    have br := BN.r32 hBP.1 2 i
    refine hK _ _ ⟨by rw [e44]; exact BI.up hBP (rfl : zcd wR 3 = 53) rfl br.1 br.2 (by decide), fun j k h => by rw [e44, zup_n _ _ (by omega)]; exact FP j k h, by rw [e44, zup_n _ _ (by omega)]; exact p4, i + 1, by omega, by omega, fun k hk => ?_⟩ (by omega)
    rw [e44]
    by_cases c5 : k = i
    · rw [c5, zup_s]
      exact FP 2 i (by omega)
    · rw [zup_n _ _ (by omega)]
      exact hv k (by omega)
theorem ri_ring {MC MR M8 M9 : zM} {a0 a1 z z9 : Int} (h : iRi MC MR) (ha : iHa MC MR) (hb : 0 ≤ MC 30 1 ∧ MC 30 1 ≤ 24) (p : (cRg (MC 32 2) (MC 30 1) a0 a1 ∧ ∃ c n : Nat, MC 32 2 = (c : Int) ∧ c < 4 ∧ MC 30 1 = (n : Int) ∧ 1 ≤ n ∧ z = (c : Int) ∧ M8 32 2 = (c : Int) + 1 ∧ (∀ p q : Nat, ¬ (p = 32 ∧ q = 2 ∨ 41 + 4 * c ≤ p ∧ p ≤ 41 + 4 * c + 3) → M8 p q = MC p q) ∧ M8 (41 + 4 * c) 1 = a0 ∧ M8 (41 + 4 * c) 2 = a1 ∧ M8 (41 + 4 * c) 3 = 1 ∧ M8 (41 + 4 * c) 4 = 0 ∧ M8 (41 + 4 * c + 1) 1 = (n : Int) ∧ (∀ k : Nat, k < 24 → M8 (41 + 4 * c + 2) k = MC 31 k) ∧ (∀ a : Nat, a < n → M8 (41 + 4 * c + 3) a = orU 1 (M8 (41 + 4 * c + 2)) n a 24)) ∨ (¬ cRg (MC 32 2) (MC 30 1) a0 a1 ∧ z = -1 ∧ M8 = MC)) (q : (cRg (MR 0 10) (MR 0 3) a0 a1 ∧ ∃ c n : Nat, MR 0 10 = (c : Int) ∧ MR 0 3 = (n : Int) ∧ z9 = (c : Int) ∧ M9 0 10 = (c : Int) + 1 ∧ (∀ j k : Nat, 4 ≤ j ∧ j ≤ 8 → k ≠ c → M9 j k = MR j k) ∧ (∀ k : Nat, ¬ (24 * c ≤ k ∧ k < 24 * c + 24) → M9 3 k = MR 3 k) ∧ M9 4 c = (n : Int) ∧ M9 5 c = a0 ∧ M9 6 c = a1 ∧ M9 7 c = 1 ∧ M9 8 c = 0 ∧ (∀ k : Nat, k < n → M9 3 (24 * c + k) = MR 2 k)) ∨ (¬ cRg (MR 0 10) (MR 0 3) a0 a1 ∧ z9 = -1 ∧ ∀ j9 k9 : Nat, ¬ (j9 = 0 ∧ k9 = 35) → M9 j9 k9 = MR j9 k9)) : z = z9 ∧ iRi M8 M9 := by
  obtain ⟨g1, g2, g3⟩ := id h
  obtain ⟨k1, k2⟩ := ha
  rw [← g1, ← k1] at q
  rcases p with ⟨p1, c, n, hc, c4, hn, n1, d1, d2, d3, d4, d5, d6, d7, d8, d9, d10⟩ | ⟨p1, p2, p3⟩
  · rcases q with ⟨q1, c', n', hc', hn', e1, e2, e3, e4, e5, e6, e7, e8, e9, e10⟩ | ⟨q1, -⟩
    · have ec : c' = c := by omega
      have en : n' = n := by omega
      subst ec
      subst en
      refine ⟨by omega, by omega, by omega, fun r hr => ?_⟩
      by_cases cr : r = c'
      · rw [cr]
        have b1 := p1.2.1
        refine ⟨n', n1, by omega, d8, e5, by rw [d4, e6], by rw [d5, e7], by rw [e7]; omega, by rw [d6, e8], by rw [d7, e9], fun k hk => ?_, fun a ha => ?_⟩
        · rw [d9 k (by omega), e10 k hk]
          exact k2 k (by omega)
        · rw [d6]
          exact d10 a ha
      · exact ri_cg (g3 r (by omega)) (fun j hj => funext fun q => d3 j q (by omega)) (e3 4 r (by omega) cr) (e3 5 r (by omega) cr) (e3 6 r (by omega) cr) (e3 7 r (by omega) cr) (e3 8 r (by omega) cr) (fun k hk => e4 _ (by omega))
    · exact absurd p1 q1
  · rcases q with ⟨q1, -⟩ | ⟨q1, q2, q3⟩
    · exact absurd q1 p1
    · rw [p3]
      exact ⟨by omega, iRi_kept h (fun j _ => rfl) rfl (q3 0 10 (by omega)) (funext fun k => q3 3 k (by omega)) (funext fun k => q3 4 k (by omega)) (funext fun k => q3 5 k (by omega)) (funext fun k => q3 6 k (by omega)) (funext fun k => q3 7 k (by omega)) (funext fun k => q3 8 k (by omega))⟩
end zz47q_ring2
section zz47r_over
/-! rings: laid over, alike -/
def ovV (w o h : Int) : Int := if w = 0 then h else orI o h
def ovN (w : Int) (S H : Nat → Int) (p : Nat) : Nat → Int
  | 0 => 0
  | i + 1 => ovN w S H p i + (if ovV w (S (p + i)) (H i) = S (p + i) then 0 else 1)
theorem ovN_b (w : Int) (S H : Nat → Int) (p : Nat) : ∀ i : Nat, 0 ≤ ovN w S H p i ∧ ovN w S H p i ≤ (i : Int)
  | 0 => ⟨by show (0 : Int) ≤ 0; omega, by show (0 : Int) ≤ ((0 : Nat) : Int); omega⟩
  | i + 1 => by
    have a := ovN_b w S H p i
    show 0 ≤ ovN w S H p i + (if ovV w (S (p + i)) (H i) = S (p + i) then 0 else 1) ∧ ovN w S H p i + (if ovV w (S (p + i)) (H i) = S (p + i) then 0 else 1) ≤ ((i + 1 : Nat) : Int)
    by_cases c : ovV w (S (p + i)) (H i) = S (p + i)
    · rw [if_pos c]
      omega
    · rw [if_neg c]
      omega
theorem ovN_cg {w : Int} {S H S2 H2 : Nat → Int} {p : Nat} : ∀ i : Nat, (∀ k : Nat, k < i → S (p + k) = S2 (p + k) ∧ H k = H2 k) → ovN w S H p i = ovN w S2 H2 p i
  | 0, _ => rfl
  | i + 1, h => by
    have a := ovN_cg (w := w) i (fun k hk => h k (by omega))
    have b := h i (by omega)
    show ovN w S H p i + (if ovV w (S (p + i)) (H i) = S (p + i) then 0 else 1) = ovN w S2 H2 p i + (if ovV w (S2 (p + i)) (H2 i) = S2 (p + i) then 0 else 1)
    rw [a, b.1, b.2]
theorem ovV_r {w o h : Int} (hh : -2147483648 ≤ h ∧ h ≤ 2147483647) : -2147483648 ≤ ovV w o h ∧ ovV w o h ≤ 2147483647 := by
  unfold ovV
  by_cases c : w = 0
  · rw [if_pos c]
    exact hh
  · rw [if_neg c]
    exact orI_R _ _
set_option maxHeartbeats 2000000 in
theorem fC_layOver {M : zM} {r n m p : Nat} {w : Int} (hB : BN wC M) (hr : r < 4) (hw : 0 ≤ w ∧ w ≤ 1) (hn : M (41 + 4 * r + 1) 1 = (n : Int)) (hm : M 30 1 = (m : Int)) (hp : p < n) {Q : Int → zM → Prop} (hQ : ∀ (z : Int) (M1 : zM), BN wC M1 ∧ (∃ i : Nat, i ≤ m ∧ p + i ≤ n ∧ (i = m ∨ p + i = n) ∧ z = ovN w (M (41 + 4 * r + 2)) (M 31) p i ∧ (∀ P q : Nat, ¬ (P = 41 + 4 * r + 2 ∧ p ≤ q ∧ q < p + i ∨ P = 41 + 4 * r + 3 ∧ q < n) → M1 P q = M P q) ∧ (∀ k : Nat, k < i → M1 (41 + 4 * r + 2) (p + k) = ovV w (M (41 + 4 * r + 2) (p + k)) (M 31 k)) ∧ (∀ a : Nat, a < n → M1 (41 + 4 * r + 3) a = orU (M (41 + 4 * r) 3) (M1 (41 + 4 * r + 2)) n a 24)) → Q z M1) : wC_Ring_layOver (41 + 4 * r) 30 (p : Int) w M Q := by
  unfold wC_Ring_layOver
  obtain ⟨g1, g2, g3, g4, g5, g6⟩ := rg_cd r hr
  have bn : 0 ≤ M (41 + 4 * r + 1) 1 ∧ M (41 + 4 * r + 1) 1 ≤ 24 := BN.at hB g3 rfl
  have bm : 0 ≤ M 30 1 ∧ M 30 1 ≤ 24 := BN.at hB (rfl : zcd wC 30 = 6) rfl
  have sw : sI w = w := sIo (by omega) (by omega)
  refine wL2_of (fun x y M2 => BN wC M2 ∧ ∃ i : Nat, y = (i : Int) ∧ i ≤ m ∧ p + i ≤ n ∧ x = ovN w (M (41 + 4 * r + 2)) (M 31) p i ∧ (∀ P q : Nat, ¬ (P = 41 + 4 * r + 2 ∧ p ≤ q ∧ q < p + i) → M2 P q = M P q) ∧ (∀ k : Nat, k < i → M2 (41 + 4 * r + 2) (p + k) = ovV w (M (41 + 4 * r + 2) (p + k)) (M 31 k))) (fun _ y _ => (1000 - y).toNat) ⟨hB, 0, rfl, by omega, by omega, rfl, fun _ _ _ => rfl, fun k h => absurd h (Nat.not_lt_zero k)⟩ (fun K x y M2 h k => ?_)
  obtain ⟨b2, i, rfl, i1, i2, rfl, f2, hv⟩ := h
  have m2 : M2 30 1 = (m : Int) := (f2 _ _ (by omega)).trans hm
  have n2 : M2 (41 + 4 * r + 1) 1 = (n : Int) := (f2 _ _ (by omega)).trans hn
  have sm : sI (m : Int) = m := sIo (by omega) (by omega)
  have si : sI (i : Int) = i := sIo (by omega) (by omega)
  have ti : ((i : Int)).toNat = i := by omega
  have ob := ovN_b w (M (41 + 4 * r + 2)) (M 31) p i
  have so : sI (ovN w (M (41 + 4 * r + 2)) (M 31) p i) = ovN w (M (41 + 4 * r + 2)) (M 31) p i := sIo (by omega) (by omega)
  have sp : sI ((p : Int) + (i : Int)) = (p : Int) + (i : Int) := sIo (by omega) (by omega)
  have tp : ((p : Int) + (i : Int)).toNat = p + i := by omega
  have fin : (i = m ∨ p + i = n) → wC_Ring_listen (41 + 4 * r) M2 (fun M20 => Q (ovN w (M (41 + 4 * r + 2)) (M 31) p i) M20) := fun he => by
    refine fC_listen b2 hr (by omega) n2 (fun M3 h3 => ?_)
    obtain ⟨b3, f3, h3⟩ := h3
    refine hQ _ _ ⟨b3, i, i1, i2, he, rfl, fun P q h => by rw [f3 _ _ (by omega)]; exact f2 _ _ (by omega), fun k hk => by rw [f3 _ _ (by omega)]; exact hv k hk, fun a ha => ?_⟩
    rw [h3 a ha, f2 (41 + 4 * r) 3 (by omega)]
    exact orU_cg (by omega) (fun k _ => (f3 _ _ (by omega)).symm) 24
  rw [m2, sm, si, so, sp, ti, tp, sw]
  refine ⟨fun c => fin (by omega), fun c => ?_⟩
  refine sC_Strip_has b2 (by have e1 : nC = 134 := rfl; omega) g3 (by omega) (fun z q => ?_)
  obtain ⟨-, q, -⟩ := q
  rw [n2] at q
  refine ⟨fun d => fin (by omega), fun d => ⟨by omega, ?_⟩⟩
  have e31 : M2 (30 + 1) i = M 31 i := f2 31 i (by omega)
  have e43 : M2 (41 + 4 * r + 2) (p + i) = M (41 + 4 * r + 2) (p + i) := f2 _ _ (by omega)
  have r31 := BN.r32 hB 31 i
  have r43 := BN.r32 hB (41 + 4 * r + 2) (p + i)
  rw [e31, e43]
  refine pJ1_of (fun x => x = ovV w (M (41 + 4 * r + 2) (p + i)) (M 31 i)) (fun x hx => ?_) ⟨fun d2 => ⟨by omega, by unfold ovV; rw [if_pos d2]⟩, fun d2 => ⟨by omega, by unfold ovV; rw [if_neg d2]⟩⟩
  have rx := ovV_r (w := w) (o := M (41 + 4 * r + 2) (p + i)) r31
  rw [← hx] at rx
  rw [sIo rx.1 rx.2, sIo r43.1 r43.2]
  refine ⟨by omega, fun M3 e3 => ?_⟩
  have b3 : BN wC M3 := by rw [e3]; exact BN.up b2 g4 rfl rx.1 rx.2
  have f3 : ∀ P q : Nat, ¬ (P = 41 + 4 * r + 2 ∧ p ≤ q ∧ q < p + (i + 1)) → M3 P q = M P q := fun P q h => by rw [e3, zup_n _ _ (by omega)]; exact f2 _ _ (by omega)
  have v3 : ∀ k : Nat, k < i + 1 → M3 (41 + 4 * r + 2) (p + k) = ovV w (M (41 + 4 * r + 2) (p + k)) (M 31 k) := fun k hk => by
    rw [e3]
    by_cases c5 : k = i
    · rw [c5, zup_s, hx]
    · rw [zup_n _ _ (by omega)]
      exact hv k (by omega)
  refine ⟨fun d2 => k _ _ _ ⟨b3, i + 1, by omega, by omega, by omega, ?_, f3, v3⟩ (by omega), fun d2 => k _ _ _ ⟨b3, i + 1, by omega, by omega, by omega, ?_, f3, v3⟩ (by omega)⟩
  · show _ = ovN w (M (41 + 4 * r + 2)) (M 31) p i + (if ovV w (M (41 + 4 * r + 2) (p + i)) (M 31 i) = M (41 + 4 * r + 2) (p + i) then 0 else 1)
    rw [if_neg (by rw [← hx]; exact d2)]
  · show _ = ovN w (M (41 + 4 * r + 2)) (M 31) p i + (if ovV w (M (41 + 4 * r + 2) (p + i)) (M 31 i) = M (41 + 4 * r + 2) (p + i) then 0 else 1)
    rw [if_pos (by rw [← hx]; exact d2)]
def cOv (cnt m : Int) (len : Nat → Int) (a0 a1 a2 : Int) : Prop := (0 ≤ a0 ∧ a0 < cnt) ∧ (0 ≤ a1 ∧ a1 < len a0.toNat) ∧ (0 ≤ a2 ∧ a2 ≤ 1) ∧ m ≠ 0
theorem fC_over {M : zM} {a0 a1 a2 : Int} (hB : BN wC M) (v0 : -2147483648 ≤ a0 ∧ a0 ≤ 2147483647) (v1 : -2147483648 ≤ a1 ∧ a1 ≤ 2147483647) (v2 : -2147483648 ≤ a2 ∧ a2 ≤ 2147483647) {Q : Int → zM → Prop} (hQ : ∀ (z : Int) (M1 : zM), BN wC M1 ∧ (∀ j9 : Nat, ¬ (41 ≤ j9 ∧ j9 ≤ 56) → M1 j9 = M j9) ∧ ((cOv (M 32 2) (M 30 1) (fun r => M (41 + 4 * r + 1) 1) a0 a1 a2 ∧ ∃ r n m p i : Nat, a0 = (r : Int) ∧ r < 4 ∧ M (41 + 4 * r + 1) 1 = (n : Int) ∧ M 30 1 = (m : Int) ∧ a1 = (p : Int) ∧ p < n ∧ i ≤ m ∧ p + i ≤ n ∧ (i = m ∨ p + i = n) ∧ z = ovN a2 (M (41 + 4 * r + 2)) (M 31) p i ∧ (∀ P q : Nat, ¬ (P = 41 + 4 * r + 2 ∧ p ≤ q ∧ q < p + i ∨ P = 41 + 4 * r + 3 ∧ q < n) → M1 P q = M P q) ∧ (∀ k : Nat, k < i → M1 (41 + 4 * r + 2) (p + k) = ovV a2 (M (41 + 4 * r + 2) (p + k)) (M 31 k)) ∧ (∀ a : Nat, a < n → M1 (41 + 4 * r + 3) a = orU (M (41 + 4 * r) 3) (M1 (41 + 4 * r + 2)) n a 24)) ∨ (¬ cOv (M 32 2) (M 30 1) (fun r => M (41 + 4 * r + 1) 1) a0 a1 a2 ∧ z = -1 ∧ M1 = M)) → Q z M1) : wC_over a0 a1 a2 M Q := by
  unfold wC_over
  have no : ¬ cOv (M 32 2) (M 30 1) (fun r => M (41 + 4 * r + 1) 1) a0 a1 a2 → Q (-1) M := fun h => hQ _ _ ⟨hB, fun _ _ => rfl, Or.inr ⟨h, rfl, rfl⟩⟩
  refine fC_find hB v0 (fun h => ⟨fun _ => no (fun x => h x.1), fun q h => nomatch h⟩) (fun r hr h1 h2 => ⟨(fun h => nomatch h), fun q hq => ?_⟩)
  obtain rfl := Option.some.inj hq
  obtain ⟨c1, c2, c3, c4, c5, -⟩ := rg_cd r h2
  have hra : a0.toNat = r := by omega
  have bl : 0 ≤ M (41 + 4 * r + 1) 1 ∧ M (41 + 4 * r + 1) 1 ≤ 24 := BN.at hB c3 rfl
  have bm : 0 ≤ M 30 1 ∧ M 30 1 ≤ 24 := BN.at hB (rfl : zcd wC 30 = 6) rfl
  refine ⟨⟨c1, c2⟩, ?_⟩
  have un : cOv (M 32 2) (M 30 1) (fun r => M (41 + 4 * r + 1) 1) a0 a1 a2 → (0 ≤ a1 ∧ a1 < M (41 + 4 * r + 1) 1) ∧ (0 ≤ a2 ∧ a2 ≤ 1) ∧ M 30 1 ≠ 0 := fun x => by
    have y := x.2
    rw [hra] at y
    exact y
  refine sC_Strip_has hB (by have e1 : nC = 134 := rfl; omega) c3 v1 (fun z p => ?_)
  obtain ⟨-, p, -⟩ := p
  refine ⟨fun d => no (fun x => by have := (un x).1; omega), fun d => ?_⟩
  refine sC_within hB v2 (by omega) (by omega) (fun z2 p2 => ?_)
  obtain ⟨-, p2, -⟩ := p2
  refine ⟨fun d2 => no (fun x => by have := (un x).2.1; omega), fun d2 => ?_⟩
  have sm : sI (M 30 1) = M 30 1 := sIo (by omega) (by omega)
  have s2 : sI a2 = a2 := sIo v2.1 v2.2
  rw [sm, s2]
  refine ⟨fun d3 => ?_, fun d3 => no (fun x => (un x).2.2 d3)⟩
  have ok : cOv (M 32 2) (M 30 1) (fun r => M (41 + 4 * r + 1) 1) a0 a1 a2 := ⟨by omega, by rw [hra]; exact ⟨by omega, by show a1 < M (41 + 4 * r + 1) 1; omega⟩, by omega, d3⟩
  have go : wC_Ring_layOver (41 + 4 * r) 30 a1 a2 M (fun z26 M25 => Q z26 M25) := by
    have ea : a1 = ((a1.toNat : Nat) : Int) := by omega
    rw [ea]
    refine fC_layOver (n := (M (41 + 4 * r + 1) 1).toNat) (m := (M 30 1).toNat) hB h2 (by omega) (by omega) (by omega) (by omega) (fun z9 M1 h => ?_)
    obtain ⟨b1, i, i1, i2, i3, i4, i5, i6, i7⟩ := h
    exact hQ _ _ ⟨b1, fun j9 h9 => funext fun q => i5 j9 q (by omega), Or.inl ⟨ok, r, (M (41 + 4 * r + 1) 1).toNat, (M 30 1).toNat, a1.toNat, i, hr, h2, by omega, by omega, ea, by omega, i1, i2, i3, i4, i5, i6, i7⟩⟩
  refine ⟨fun d4 => ?_, fun d4 => ?_⟩
  · rw [show a2 = 0 by omega] at go
    exact go
  · rw [show a2 = 1 by omega] at go
    exact go
set_option maxHeartbeats 2000000 in
theorem fR_over {M : zM} {a0 a1 a2 : Int} (hB : BI M) (v0 : -2147483648 ≤ a0 ∧ a0 ≤ 2147483647) (v1 : -2147483648 ≤ a1 ∧ a1 ≤ 2147483647) (v2 : -2147483648 ≤ a2 ∧ a2 ≤ 2147483647) {Q : Int → zM → Prop} (hQ : ∀ (z : Int) (M1 : zM), BI M1 ∧ (∀ j9 k9 : Nat, ¬ (j9 = 0 ∧ k9 = 35 ∨ j9 = 3) → M1 j9 k9 = M j9 k9) ∧ ((cOv (M 0 10) (M 0 3) (M 4) a0 a1 a2 ∧ ∃ r n m p i : Nat, a0 = (r : Int) ∧ M 4 r = (n : Int) ∧ M 0 3 = (m : Int) ∧ a1 = (p : Int) ∧ i ≤ m ∧ p + i ≤ n ∧ (i = m ∨ p + i = n) ∧ z = ovN a2 (fun k => M 3 (24 * r + k)) (M 2) p i ∧ (∀ q : Nat, ¬ (24 * r + p ≤ q ∧ q < 24 * r + p + i) → M1 3 q = M 3 q) ∧ (∀ k : Nat, k < i → M1 3 (24 * r + (p + k)) = ovV a2 (M 3 (24 * r + (p + k))) (M 2 k))) ∨ (¬ cOv (M 0 10) (M 0 3) (M 4) a0 a1 a2 ∧ z = -1 ∧ M1 3 = M 3)) → Q z M1) : wR_over a0 a1 a2 M Q := by
  unfold wR_over
  intro M1 e1
  have hB1 : BI M1 := by rw [e1]; exact BI.up0 hB rfl (by omega) (by omega) (by decide)
  have hF1 : ∀ j9 k9 : Nat, ¬ (j9 = 0 ∧ k9 = 35) → M1 j9 k9 = M j9 k9 := fun j9 k9 h9 => by rw [e1]; exact zup_n _ _ (by omega)
  have r10 : M1 0 10 = M 0 10 := hF1 0 10 (by omega)
  have r03 : M1 0 3 = M 0 3 := hF1 0 3 (by omega)
  have r4 : M1 4 = M 4 := funext fun k => hF1 4 k (by omega)
  have r3 : M1 3 = M 3 := funext fun k => hF1 3 k (by omega)
  have no : ¬ cOv (M 0 10) (M 0 3) (M 4) a0 a1 a2 → Q (-1) M1 := fun h => hQ _ _ ⟨hB1, fun j9 k9 h9 => hF1 j9 k9 (by omega), Or.inr ⟨h, rfl, r3⟩⟩
  refine fR_isRing hB1 v0 (fun h => ⟨fun _ => no (fun x => h (by rw [r10]; exact x.1)), fun c => absurd rfl c⟩) (fun r hr h1 h2 => ⟨fun c => absurd c (by decide), fun _ => ?_⟩)
  have s0 : sI a0 = a0 := sIo v0.1 v0.2
  have s2 : sI a2 = a2 := sIo v2.1 v2.2
  have hra : a0.toNat = r := by omega
  have bl : 0 ≤ M 4 r ∧ M 4 r ≤ 24 := BN.at hB.1 (rfl : zcd wR 4 = 54) rfl
  have bm : 0 ≤ M 0 3 ∧ M 0 3 ≤ 24 := BN.at hB.1 (rfl : zcd wR 0 = 50) rfl
  have un : cOv (M 0 10) (M 0 3) (M 4) a0 a1 a2 → (0 ≤ a1 ∧ a1 < M 4 r) ∧ (0 ≤ a2 ∧ a2 ≤ 1) ∧ M 0 3 ≠ 0 := fun x => by
    have y := x.2
    rw [hra] at y
    exact y
  have sm : sI (M 0 3) = M 0 3 := sIo (by omega) (by omega)
  rw [s0, s2, hra, r4, r03, sm]
  refine ⟨by omega, ?_⟩
  refine sR_in hB1 v1 (by omega) (by omega) (fun z p => ?_)
  obtain ⟨-, p, -⟩ := p
  refine ⟨fun c => no (fun x => by have := (un x).1; omega), fun c => ?_⟩
  refine sR_in hB1 v2 (by omega) (by omega) (fun z2 p2 => ?_)
  obtain ⟨-, p2, -⟩ := p2
  refine ⟨fun c2 => no (fun x => by have := (un x).2.1; omega), fun c2 => ⟨fun c3 => ?_, fun c3 => no (fun x => (un x).2.2 c3)⟩⟩
  have ok : cOv (M 0 10) (M 0 3) (M 4) a0 a1 a2 := ⟨by omega, by rw [hra]; omega, by omega, c3⟩
  obtain ⟨n, hn⟩ : ∃ n : Nat, M 4 r = (n : Int) := ⟨(M 4 r).toNat, by omega⟩
  obtain ⟨m, hm⟩ : ∃ m : Nat, M 0 3 = (m : Int) := ⟨(M 0 3).toNat, by omega⟩
  obtain ⟨q, hq⟩ : ∃ q : Nat, a1 = (q : Int) := ⟨a1.toNat, by omega⟩
  refine wL2_of (fun x y M2 => BI M2 ∧ (∀ j k : Nat, ¬ (j = 0 ∧ k = 35 ∨ j = 3) → M2 j k = M j k) ∧ ∃ i : Nat, y = (i : Int) ∧ i ≤ m ∧ q + i ≤ n ∧ x = ovN a2 (fun k => M 3 (24 * r + k)) (M 2) q i ∧ (∀ k : Nat, ¬ (24 * r + q ≤ k ∧ k < 24 * r + q + i) → M2 3 k = M 3 k) ∧ (∀ k : Nat, k < i → M2 3 (24 * r + (q + k)) = ovV a2 (M 3 (24 * r + (q + k))) (M 2 k))) (fun _ y _ => (1000 - y).toNat) ⟨hB1, fun j k h => hF1 j k (by omega), 0, rfl, by omega, by omega, rfl, fun k _ => hF1 3 k (by omega), fun k h => absurd h (Nat.not_lt_zero k)⟩ (fun K x y M2 h k => ?_)
  obtain ⟨b2, f2, i, rfl, i1, i2, rfl, g2, hv⟩ := h
  have m2 : M2 0 3 = (m : Int) := (f2 _ _ (by omega)).trans hm
  have n2 : M2 4 r = (n : Int) := (f2 _ _ (by omega)).trans hn
  have snm : sI (m : Int) = m := sIo (by omega) (by omega)
  have snn : sI (n : Int) = n := sIo (by omega) (by omega)
  have si : sI (i : Int) = i := sIo (by omega) (by omega)
  have ti : ((i : Int)).toNat = i := by omega
  have ob := ovN_b a2 (fun k => M 3 (24 * r + k)) (M 2) q i
  have so : sI (ovN a2 (fun k => M 3 (24 * r + k)) (M 2) q i) = ovN a2 (fun k => M 3 (24 * r + k)) (M 2) q i := sIo (by omega) (by omega)
  have sp : sI (a1 + (i : Int)) = (q : Int) + (i : Int) := by rw [hq]; exact sIo (by omega) (by omega)
  have sq : sI (24 * a0 + a1 + (i : Int)) = 24 * (r : Int) + (q : Int) + (i : Int) := by rw [hr, hq]; exact sIo (by omega) (by omega)
  have tq : (24 * (r : Int) + (q : Int) + (i : Int)).toNat = 24 * r + (q + i) := by omega
  have fin : (i = m ∨ q + i = n) → Q (ovN a2 (fun k => M 3 (24 * r + k)) (M 2) q i) M2 := fun he => hQ _ _ ⟨b2, f2, Or.inl ⟨ok, r, n, m, q, i, hr, hn, hm, hq, i1, i2, he, rfl, g2, hv⟩⟩
  rw [m2, n2, snm, snn, si, so, sp, sq, ti, tq]
  refine ⟨fun c4 => fin (by omega), fun c4 => ⟨by omega, fun c5 => fin (by omega), fun c5 => ?_⟩⟩
  have e2 : M2 2 i = M 2 i := f2 2 i (by omega)
  have e3 : M2 3 (24 * r + (q + i)) = M 3 (24 * r + (q + i)) := g2 _ (by omega)
  have r2' := BN.r32 hB.1 2 i
  have r3' := BN.r32 hB.1 3 (24 * r + (q + i))
  rw [e2, e3]
  refine pJ1_of (fun x => x = ovV a2 (M 3 (24 * r + (q + i))) (M 2 i)) (fun x hx => ?_) ⟨fun d2 => ⟨by omega, by omega, by unfold ovV; rw [if_neg d2]⟩, fun d2 => ⟨by omega, by unfold ovV; rw [if_pos d2]⟩⟩
  have rx := ovV_r (w := a2) (o := M 3 (24 * r + (q + i))) r2'
  rw [← hx] at rx
  rw [sIo rx.1 rx.2, sIo r3'.1 r3'.2]
  have up : ∀ M3 : zM, M3 = zup M2 3 (24 * r + (q + i)) x → BI M3 ∧ (∀ j k : Nat, ¬ (j = 0 ∧ k = 35 ∨ j = 3) → M3 j k = M j k) ∧ (∀ k : Nat, ¬ (24 * r + q ≤ k ∧ k < 24 * r + q + (i + 1)) → M3 3 k = M 3 k) ∧ (∀ k : Nat, k < i + 1 → M3 3 (24 * r + (q + k)) = ovV a2 (M 3 (24 * r + (q + k))) (M 2 k)) := fun M3 e => by
    refine ⟨by rw [e]; exact BI.up b2 (rfl : zcd wR 3 = 53) rfl rx.1 rx.2 (by decide), fun j k h => by rw [e, zup_n _ _ (by omega)]; exact f2 j k h, fun k h => by rw [e, zup_n _ _ (by omega)]; exact g2 k (by omega), fun k hk => ?_⟩
    rw [e]
    by_cases c6 : k = i
    · rw [c6, zup_s, hx]
    · rw [zup_n _ _ (by omega)]
      exact hv k (by omega)
  refine ⟨by omega, fun d2 => ⟨by omega, fun M3 e3' => ?_⟩, fun d2 => ⟨by omega, fun M3 e3' => ?_⟩⟩
  · obtain ⟨u1, u2, u3, u4⟩ := up M3 e3'
    refine k _ _ _ ⟨u1, u2, i + 1, by omega, by omega, by omega, ?_, u3, u4⟩ (by omega)
    show _ = ovN a2 (fun k => M 3 (24 * r + k)) (M 2) q i + (if ovV a2 (M 3 (24 * r + (q + i))) (M 2 i) = M 3 (24 * r + (q + i)) then 0 else 1)
    rw [if_pos (by rw [← hx]; exact d2), Int.add_zero]
  · obtain ⟨u1, u2, u3, u4⟩ := up M3 e3'
    refine k _ _ _ ⟨u1, u2, i + 1, by omega, by omega, by omega, ?_, u3, u4⟩ (by omega)
    show _ = ovN a2 (fun k => M 3 (24 * r + k)) (M 2) q i + (if ovV a2 (M 3 (24 * r + (q + i))) (M 2 i) = M 3 (24 * r + (q + i)) then 0 else 1)
    rw [if_neg (by rw [← hx]; exact d2)]
theorem ri_over {MC MR M8 M9 : zM} {a0 a1 a2 z z9 : Int} (h : iRi MC MR) (hH : iHa MC MR) (p : (cOv (MC 32 2) (MC 30 1) (fun r => MC (41 + 4 * r + 1) 1) a0 a1 a2 ∧ ∃ r n m p i : Nat, a0 = (r : Int) ∧ r < 4 ∧ MC (41 + 4 * r + 1) 1 = (n : Int) ∧ MC 30 1 = (m : Int) ∧ a1 = (p : Int) ∧ p < n ∧ i ≤ m ∧ p + i ≤ n ∧ (i = m ∨ p + i = n) ∧ z = ovN a2 (MC (41 + 4 * r + 2)) (MC 31) p i ∧ (∀ P q : Nat, ¬ (P = 41 + 4 * r + 2 ∧ p ≤ q ∧ q < p + i ∨ P = 41 + 4 * r + 3 ∧ q < n) → M8 P q = MC P q) ∧ (∀ k : Nat, k < i → M8 (41 + 4 * r + 2) (p + k) = ovV a2 (MC (41 + 4 * r + 2) (p + k)) (MC 31 k)) ∧ (∀ a : Nat, a < n → M8 (41 + 4 * r + 3) a = orU (MC (41 + 4 * r) 3) (M8 (41 + 4 * r + 2)) n a 24)) ∨ (¬ cOv (MC 32 2) (MC 30 1) (fun r => MC (41 + 4 * r + 1) 1) a0 a1 a2 ∧ z = -1 ∧ M8 = MC)) (f9 : ∀ j9 k9 : Nat, ¬ (j9 = 0 ∧ k9 = 35 ∨ j9 = 3) → M9 j9 k9 = MR j9 k9) (q : (cOv (MR 0 10) (MR 0 3) (MR 4) a0 a1 a2 ∧ ∃ r n m p i : Nat, a0 = (r : Int) ∧ MR 4 r = (n : Int) ∧ MR 0 3 = (m : Int) ∧ a1 = (p : Int) ∧ i ≤ m ∧ p + i ≤ n ∧ (i = m ∨ p + i = n) ∧ z9 = ovN a2 (fun k => MR 3 (24 * r + k)) (MR 2) p i ∧ (∀ q : Nat, ¬ (24 * r + p ≤ q ∧ q < 24 * r + p + i) → M9 3 q = MR 3 q) ∧ (∀ k : Nat, k < i → M9 3 (24 * r + (p + k)) = ovV a2 (MR 3 (24 * r + (p + k))) (MR 2 k))) ∨ (¬ cOv (MR 0 10) (MR 0 3) (MR 4) a0 a1 a2 ∧ z9 = -1 ∧ M9 3 = MR 3)) : z = z9 ∧ iRi M8 M9 := by
  have g1 := h.1
  have k1 := hH.1
  have ec : cOv (MC 32 2) (MC 30 1) (fun r => MC (41 + 4 * r + 1) 1) a0 a1 a2 ↔ cOv (MR 0 10) (MR 0 3) (MR 4) a0 a1 a2 := by
    unfold cOv
    dsimp only
    rw [g1, k1]
    constructor
    · rintro ⟨x, y⟩
      obtain ⟨n, -, -, b3, b4, -⟩ := h.2.2 a0.toNat (by omega)
      rw [b3] at y
      rw [b4]
      exact ⟨x, y⟩
    · rintro ⟨x, y⟩
      obtain ⟨n, -, -, b3, b4, -⟩ := h.2.2 a0.toNat (by omega)
      rw [b4] at y
      rw [b3]
      exact ⟨x, y⟩
  rw [← ec] at q
  rcases p with ⟨p1, r, n, m, s, i, hr, hr4, hn, hm, hs, hsn, i1, i2, i3, d1, d2, d3, d4⟩ | ⟨p1, p2, p3⟩
  · rcases q with ⟨q1, r', n', m', s', i', hr', hn', hm', hs', j1, j2, j3, e1, e2, e3⟩ | ⟨q1, -⟩
    · have ha := p1.1
      have er : r' = r := by omega
      subst er
      obtain ⟨l, a1', a2', a3, a4, a5, a6, a7, a8, a9, a10, a11⟩ := h.2.2 r' (by omega)
      have es : s' = s := by omega
      have ei : i' = i := by omega
      have el : l = n := by omega
      subst es
      subst ei
      subst el
      have hand : ∀ k : Nat, k < i' → MC 31 k = MR 2 k := fun k hk => hH.2 k (by omega)
      refine ⟨?_, iRi_one (r0 := r') h (fun j hj => funext fun q => d2 j q (by omega)) (d2 32 2 (by omega)) (f9 0 10 (by omega)) (fun j k hj hk => f9 j k (by omega)) (fun q hq => e2 q (by omega)) ?_⟩
      · rw [d1, e1]
        exact ovN_cg i' (fun k hk => ⟨a10 _ (by omega), hand k hk⟩)
      · refine ⟨l, a1', a2', by rw [d2 _ _ (by omega)]; exact a3, (f9 4 _ (by omega)).trans a4, by rw [d2 _ _ (by omega), f9 5 _ (by omega)]; exact a5, by rw [d2 _ _ (by omega), f9 6 _ (by omega)]; exact a6, by rw [f9 6 _ (by omega)]; exact a7, by rw [d2 _ _ (by omega), f9 7 _ (by omega)]; exact a8, by rw [d2 _ _ (by omega), f9 8 _ (by omega)]; exact a9, fun k hk => ?_, fun a ha => by rw [d2 (41 + 4 * r') 3 (by omega)]; exact d4 a ha⟩
        by_cases c : s' ≤ k ∧ k < s' + i'
        · have x := d3 (k - s') (by omega)
          have y := e3 (k - s') (by omega)
          rw [show s' + (k - s') = k by omega] at x y
          rw [x, y, a10 k hk, hand _ (by omega)]
        · rw [d2 _ _ (by omega), e2 _ (by omega)]
          exact a10 k hk
    · exact absurd p1 q1
  · rcases q with ⟨q1, -⟩ | ⟨q1, q2, q3⟩
    · exact absurd q1 p1
    · rw [p3]
      exact ⟨by omega, iRi_kept h (fun j _ => rfl) rfl (f9 0 10 (by omega)) q3 (funext fun k => f9 4 k (by omega)) (funext fun k => f9 5 k (by omega)) (funext fun k => f9 6 k (by omega)) (funext fun k => f9 7 k (by omega)) (funext fun k => f9 8 k (by omega))⟩
end zz47r_over
