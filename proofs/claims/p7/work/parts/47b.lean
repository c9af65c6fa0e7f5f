section zz47n_ring
/-! rings: what is under the heads -/
theorem tm_em (a b : Int) : a % b = (a.tmod b) % b := by
  have h : a.tmod b + b * a.tdiv b = a := Int.tmod_add_mul_tdiv a b
  have e := Int.add_mul_emod_self_left (a.tmod b) b (a.tdiv b)
  rw [h] at e
  exact e
theorem fC_by {M : zM} {a0 a1 : Int} (v0 : -9223372036854775808 ≤ a0 ∧ a0 ≤ 9223372036854775807) (v1 : 1 ≤ a1 ∧ a1 ≤ 2147483647) {Q : Int → Prop} (hQ : Q (a0 % a1)) : wC_by a0 a1 M Q := by
  unfold wC_by
  have s0 : sL a0 = a0 := sLo v0.1 v0.2
  have s1 : sI a1 = a1 := sIo (by omega) (by omega)
  have b := tmodB a0 a1 (by omega)
  have s2 : sI (a0.tmod a1) = a0.tmod a1 := sIo (by omega) (by omega)
  have e := tm_em a0 a1
  rw [s0, s1, s2]
  refine ⟨fun c => ⟨by omega, fun c2 => ?_, fun c2 => ?_⟩, fun c => absurd c (by omega)⟩
  · rw [Int.emod_eq_of_lt c2 b.2] at e
    rw [← e]
    exact hQ
  · have s3 : sI (a0.tmod a1 + a1) = a0.tmod a1 + a1 := sIo (by omega) (by omega)
    have e2 := Int.add_emod_right (a0.tmod a1) a1
    rw [Int.emod_eq_of_lt (by omega) (by omega)] at e2
    rw [s3, e2, ← e]
    exact hQ
def bcI (x : Int) : Int := andI (((andI (((andI (x - (andI (ushrI x 1) 1431655765)) 858993459) + (andI (ushrI (x - (andI (ushrI x 1) 1431655765)) 2) 858993459)) + (ushrI ((andI (x - (andI (ushrI x 1) 1431655765)) 858993459) + (andI (ushrI (x - (andI (ushrI x 1) 1431655765)) 2) 858993459)) 4)) 252645135) + (ushrI (andI (((andI (x - (andI (ushrI x 1) 1431655765)) 858993459) + (andI (ushrI (x - (andI (ushrI x 1) 1431655765)) 2) 858993459)) + (ushrI ((andI (x - (andI (ushrI x 1) 1431655765)) 858993459) + (andI (ushrI (x - (andI (ushrI x 1) 1431655765)) 2) 858993459)) 4)) 252645135) 8)) + (ushrI ((andI (((andI (x - (andI (ushrI x 1) 1431655765)) 858993459) + (andI (ushrI (x - (andI (ushrI x 1) 1431655765)) 2) 858993459)) + (ushrI ((andI (x - (andI (ushrI x 1) 1431655765)) 858993459) + (andI (ushrI (x - (andI (ushrI x 1) 1431655765)) 2) 858993459)) 4)) 252645135) + (ushrI (andI (((andI (x - (andI (ushrI x 1) 1431655765)) 858993459) + (andI (ushrI (x - (andI (ushrI x 1) 1431655765)) 2) 858993459)) + (ushrI ((andI (x - (andI (ushrI x 1) 1431655765)) 858993459) + (andI (ushrI (x - (andI (ushrI x 1) 1431655765)) 2) 858993459)) 4)) 252645135) 8)) 16)) 63
theorem fC_bitCount {M : zM} {a0 : Int} {Q : Int → Prop} (hQ : Q (bcI a0)) : wC_bitCount a0 M Q := by
  unfold wC_bitCount
  intro t1 e1 t3 e3
  subst e1
  subst e3
  exact hQ
theorem fR_bitCount {M : zM} {a0 : Int} {Q : Int → Prop} (hQ : Q (bcI a0)) : wR_bitCount a0 M Q := by
  unfold wR_bitCount
  intro t1 e1 t3 e3
  subst e1
  subst e3
  exact hQ
def orU (h : Int) (I : Nat → Int) (n a : Nat) : Nat → Int
  | 0 => 0
  | o + 1 => if andI (shrI h (o : Int)) 1 = 0 then orU h I n a o else orI (orU h I n a o) (I ((a + o) % n))
theorem orU_r (h : Int) (I : Nat → Int) (n a : Nat) : ∀ o : Nat, -2147483648 ≤ orU h I n a o ∧ orU h I n a o ≤ 2147483647
  | 0 => ⟨by show -2147483648 ≤ (0 : Int); omega, by show (0 : Int) ≤ 2147483647; omega⟩
  | o + 1 => by
    have a1 := orU_r h I n a o
    show -2147483648 ≤ (if andI (shrI h (o : Int)) 1 = 0 then orU h I n a o else orI (orU h I n a o) (I ((a + o) % n))) ∧ (if andI (shrI h (o : Int)) 1 = 0 then orU h I n a o else orI (orU h I n a o) (I ((a + o) % n))) ≤ 2147483647
    by_cases c : andI (shrI h (o : Int)) 1 = 0
    · rw [if_pos c]
      exact a1
    · rw [if_neg c]
      exact orI_R _ _
theorem orU_cg {h : Int} {I J : Nat → Int} {n a : Nat} (hn : 1 ≤ n) (hI : ∀ k : Nat, k < n → I k = J k) : ∀ o : Nat, orU h I n a o = orU h J n a o
  | 0 => rfl
  | o + 1 => by
    have e := orU_cg hn hI (h := h) (a := a) o
    show (if andI (shrI h (o : Int)) 1 = 0 then orU h I n a o else orI (orU h I n a o) (I ((a + o) % n))) = (if andI (shrI h (o : Int)) 1 = 0 then orU h J n a o else orI (orU h J n a o) (J ((a + o) % n)))
    rw [e, hI _ (Nat.mod_lt _ hn)]
set_option maxHeartbeats 1000000 in
theorem fC_soundsUnder {M : zM} {j a n : Nat} (hB : BN wC M) (ha : a < 24) (hn : 1 ≤ n ∧ n ≤ 24) {Q : Int → Prop} (hQ : Q (orU (M j 3) (M (j + 2)) n a 24)) : wC_Ring_soundsUnder j (a : Int) (n : Int) M Q := by
  unfold wC_Ring_soundsUnder
  refine pL2_of (fun x y => ∃ o : Nat, y = (o : Int) ∧ o ≤ 24 ∧ x = orU (M j 3) (M (j + 2)) n a o) (fun _ y => (1000 - y).toNat) ⟨0, rfl, by omega, rfl⟩ (fun K x y h k => ?_)
  obtain ⟨o, rfl, h1, rfl⟩ := h
  have so : sI (o : Int) = o := sIo (by omega) (by omega)
  have rx := orU_r (M j 3) (M (j + 2)) n a o
  have sx : sI (orU (M j 3) (M (j + 2)) n a o) = orU (M j 3) (M (j + 2)) n a o := sIo rx.1 rx.2
  rw [so, sx]
  refine ⟨fun c => ?_, fun c => ⟨fun c2 => k _ _ ⟨o + 1, by omega, by omega, ?_⟩ (by omega), fun c2 => ?_⟩⟩
  · rw [show o = 24 by omega]
    exact hQ
  · show _ = if andI (shrI (M j 3) (o : Int)) 1 = 0 then orU (M j 3) (M (j + 2)) n a o else orI (orU (M j 3) (M (j + 2)) n a o) (M (j + 2) ((a + o) % n))
    rw [if_pos c2]
  · have sa : sI ((a : Int) + (o : Int)) = (a : Int) + (o : Int) := sIo (by omega) (by omega)
    rw [sa]
    have em : ((a : Int) + (o : Int)) % (n : Int) = (((a + o) % n : Nat) : Int) := by
      rw [show (a : Int) + (o : Int) = ((a + o : Nat) : Int) by omega]
      exact (Int.natCast_emod _ _).symm
    have lt := Nat.mod_lt (a + o) (show n > 0 by omega)
    refine fC_by (by omega) (by omega) ?_
    rw [em]
    refine ⟨by omega, k _ _ ⟨o + 1, by omega, by omega, ?_⟩ (by omega)⟩
    show _ = if andI (shrI (M j 3) (o : Int)) 1 = 0 then orU (M j 3) (M (j + 2)) n a o else orI (orU (M j 3) (M (j + 2)) n a o) (M (j + 2) ((a + o) % n))
    rw [if_neg c2]
    rfl
set_option maxHeartbeats 1000000 in
theorem fC_fillUnder {M : zM} {j a0 n : Nat} (hB : BN wC M) (hln : zln wC a0 = 24) (hbd : ∀ k, cbt (zcd wC a0) k = (-2147483648, 2147483647)) (hj : a0 ≠ j ∧ a0 ≠ j + 2) (hn : 1 ≤ n ∧ n ≤ 24) {Q : zM → Prop} (hQ : ∀ M1 : zM, BN wC M1 ∧ (∀ p q : Nat, ¬ (p = a0 ∧ q < n) → M1 p q = M p q) ∧ (∀ a : Nat, a < n → M1 a0 a = orU (M j 3) (M (j + 2)) n a 24) → Q M1) : wC_Ring_fillUnder j a0 (n : Int) M Q := by
  unfold wC_Ring_fillUnder
  have sn : sI (n : Int) = n := sIo (by omega) (by omega)
  refine wL1_of (fun x M2 => BN wC M2 ∧ (∀ p q : Nat, ¬ (p = a0 ∧ q < n) → M2 p q = M p q) ∧ ∃ i : Nat, x = (i : Int) ∧ i ≤ n ∧ ∀ a : Nat, a < i → M2 a0 a = orU (M j 3) (M (j + 2)) n a 24) (fun x _ => (1000 - x).toNat) ⟨hB, fun _ _ _ => rfl, 0, rfl, by omega, fun a h => absurd h (Nat.not_lt_zero a)⟩ (fun K x M2 h k => ?_)
  obtain ⟨b2, f2, i, rfl, i1, hv⟩ := h
  have si : sI (i : Int) = i := sIo (by omega) (by omega)
  have ti : ((i : Int)).toNat = i := by omega
  rw [si, sn, hln, ti]
  refine ⟨fun c => hQ _ ⟨b2, f2, fun a ha => hv a (by omega)⟩, fun c => ⟨fun c2 => absurd c2 (by omega), fun c2 => ?_⟩⟩
  have ej : M2 j 3 = M j 3 := f2 j 3 (fun h => hj.1 h.1.symm)
  have ei : M2 (j + 2) = M (j + 2) := funext fun q => f2 (j + 2) q (fun h => hj.2 h.1.symm)
  refine fC_soundsUnder b2 (by omega) hn ?_
  rw [ej, ei]
  refine ⟨by omega, fun M3 e3 => ?_⟩
  have rx := orU_r (M j 3) (M (j + 2)) n i 24
  refine k _ _ ⟨by rw [e3]; exact BN.up b2 rfl (hbd i) rx.1 rx.2, fun p q hpq => by rw [e3, zup_n _ _ (fun h => hpq ⟨h.1, by omega⟩)]; exact f2 p q hpq, i + 1, by omega, by omega, fun a ha => ?_⟩ (by omega)
  rw [e3]
  by_cases c5 : a = i
  · rw [c5, zup_s]
  · rw [zup_n _ _ (by omega)]
    exact hv a (by omega)
theorem rg_cd (r : Nat) (h : r < 4) : 41 + 4 * r < nC ∧ zcd wC (41 + 4 * r) = 14 ∧ zcd wC (41 + 4 * r + 1) = 6 ∧ zcd wC (41 + 4 * r + 2) = 7 ∧ zcd wC (41 + 4 * r + 3) = 15 ∧ zln wC (41 + 4 * r + 3) = 24 := (by decide : ∀ r : Nat, r < 4 → 41 + 4 * r < nC ∧ zcd wC (41 + 4 * r) = 14 ∧ zcd wC (41 + 4 * r + 1) = 6 ∧ zcd wC (41 + 4 * r + 2) = 7 ∧ zcd wC (41 + 4 * r + 3) = 15 ∧ zln wC (41 + 4 * r + 3) = 24) r h
theorem fC_listen {M : zM} {r n : Nat} (hB : BN wC M) (hr : r < 4) (hn : 1 ≤ n) (e : M (41 + 4 * r + 1) 1 = (n : Int)) {Q : zM → Prop} (hQ : ∀ M1 : zM, BN wC M1 ∧ (∀ p q : Nat, ¬ (p = 41 + 4 * r + 3 ∧ q < n) → M1 p q = M p q) ∧ (∀ a : Nat, a < n → M1 (41 + 4 * r + 3) a = orU (M (41 + 4 * r) 3) (M (41 + 4 * r + 2)) n a 24) → Q M1) : wC_Ring_listen (41 + 4 * r) M Q := by
  unfold wC_Ring_listen
  obtain ⟨c1, c2, c3, c4, c5, c6⟩ := rg_cd r hr
  have b : 0 ≤ M (41 + 4 * r + 1) 1 ∧ M (41 + 4 * r + 1) 1 ≤ 24 := BN.at hB c3 rfl
  rw [e]
  exact fC_fillUnder hB c6 (fun k => by rw [c5]; rfl) ⟨by omega, by omega⟩ ⟨hn, by omega⟩ hQ
/-- one ring, alike -/
def ri (MC MR : zM) (r : Nat) : Prop := ∃ n : Nat, 1 ≤ n ∧ n ≤ 24 ∧ MC (41 + 4 * r + 1) 1 = (n : Int) ∧ MR 4 r = (n : Int) ∧ MC (41 + 4 * r) 1 = MR 5 r ∧ MC (41 + 4 * r) 2 = MR 6 r ∧ (0 ≤ MR 6 r ∧ MR 6 r < n) ∧ MC (41 + 4 * r) 3 = MR 7 r ∧ MC (41 + 4 * r) 4 = MR 8 r ∧ (∀ k : Nat, k < n → MC (41 + 4 * r + 2) k = MR 3 (24 * r + k)) ∧ (∀ a : Nat, a < n → MC (41 + 4 * r + 3) a = orU (MC (41 + 4 * r) 3) (MC (41 + 4 * r + 2)) n a 24)
def iRi (MC MR : zM) : Prop := MC 32 2 = MR 0 10 ∧ MC 32 2 ≤ 4 ∧ ∀ r : Nat, (r : Int) < MC 32 2 → ri MC MR r
theorem ri_cg {MC MR M8 M9 : zM} {r : Nat} (h : ri MC MR r) (hC : ∀ j : Nat, 41 + 4 * r ≤ j ∧ j ≤ 41 + 4 * r + 3 → M8 j = MC j) (h4 : M9 4 r = MR 4 r) (h5 : M9 5 r = MR 5 r) (h6 : M9 6 r = MR 6 r) (h7 : M9 7 r = MR 7 r) (h8 : M9 8 r = MR 8 r) (h3 : ∀ k : Nat, k < 24 → M9 3 (24 * r + k) = MR 3 (24 * r + k)) : ri M8 M9 r := by
  obtain ⟨n, a1, a2, a3, a4, a5, a6, a7, a8, a9, a10, a11⟩ := h
  unfold ri
  rw [hC (41 + 4 * r) (by omega), hC (41 + 4 * r + 1) (by omega), hC (41 + 4 * r + 2) (by omega), hC (41 + 4 * r + 3) (by omega), h4, h5, h6, h7, h8]
  exact ⟨n, a1, a2, a3, a4, a5, a6, a7, a8, a9, fun k hk => by rw [h3 k (by omega)]; exact a10 k hk, a11⟩
theorem iRi_kept {MC MR M8 M9 : zM} (h : iRi MC MR) (hC : ∀ j : Nat, 41 ≤ j ∧ j ≤ 56 → M8 j = MC j) (h0 : M8 32 2 = MC 32 2) (h10 : M9 0 10 = MR 0 10) (h3 : M9 3 = MR 3) (h4 : M9 4 = MR 4) (h5 : M9 5 = MR 5) (h6 : M9 6 = MR 6) (h7 : M9 7 = MR 7) (h8 : M9 8 = MR 8) : iRi M8 M9 := by
  obtain ⟨g1, g2, g3⟩ := h
  refine ⟨by rw [h0, h10]; exact g1, by rw [h0]; exact g2, fun r hr => ?_⟩
  rw [h0] at hr
  exact ri_cg (g3 r hr) (fun j hj => hC j (by omega)) (by rw [h4]) (by rw [h5]) (by rw [h6]) (by rw [h7]) (by rw [h8]) (fun k _ => by rw [h3])
/-- one ring changes, the others stand -/
theorem iRi_one {MC MR M8 M9 : zM} {r0 : Nat} (h : iRi MC MR) (hC : ∀ j : Nat, 41 ≤ j ∧ j ≤ 56 ∧ ¬ (41 + 4 * r0 ≤ j ∧ j ≤ 41 + 4 * r0 + 3) → M8 j = MC j) (h0 : M8 32 2 = MC 32 2) (h10 : M9 0 10 = MR 0 10) (h48 : ∀ j r : Nat, 4 ≤ j ∧ j ≤ 8 → r ≠ r0 → M9 j r = MR j r) (h3 : ∀ q : Nat, ¬ (24 * r0 ≤ q ∧ q < 24 * r0 + 24) → M9 3 q = MR 3 q) (hr : ri M8 M9 r0) : iRi M8 M9 := by
  obtain ⟨g1, g2, g3⟩ := h
  refine ⟨by rw [h0, h10]; exact g1, by rw [h0]; exact g2, fun r hr2 => ?_⟩
  rw [h0] at hr2
  by_cases c : r = r0
  · rw [c]
    exact hr
  · exact ri_cg (g3 r hr2) (fun j hj => hC j (by omega)) (h48 4 r (by omega) c) (h48 5 r (by omega) c) (h48 6 r (by omega) c) (h48 7 r (by omega) c) (h48 8 r (by omega) c) (fun k hk => h3 _ (by omega))
end zz47n_ring
section zz47o_rset
/-! rings: wish and set, alike -/
theorem fC_find {M : zM} {a0 : Int} (hB : BN wC M) (v0 : -2147483648 ≤ a0 ∧ a0 ≤ 2147483647) {Q : Option Nat → Prop} (hn : ¬ (0 ≤ a0 ∧ a0 < M 32 2) → Q none) (hs : ∀ r : Nat, a0 = (r : Int) → (r : Int) < M 32 2 → r < 4 → Q (some (41 + 4 * r))) : wC_Studio_find a0 M Q := by
  refine sC_Studio_find hB v0 (fun h => hn (fun h2 => by omega)) (fun q hq => ?_)
  obtain ⟨-, h1, h2, h3, h4⟩ := hq
  rw [h1]
  exact hs a0.toNat (by omega) (by omega) (by omega)
theorem fR_isRing {M : zM} {a0 : Int} (hB : BI M) (v0 : -2147483648 ≤ a0 ∧ a0 ≤ 2147483647) {Q : Int → Prop} (hn : ¬ (0 ≤ a0 ∧ a0 < M 0 10) → Q 0) (hs : ∀ r : Nat, a0 = (r : Int) → (r : Int) < M 0 10 → r < 4 → Q 1) : wR_isRing a0 M Q := by
  refine sR_isRing hB v0 (fun z p => ?_)
  obtain ⟨-, p, -⟩ := p
  rcases p with ⟨rfl, h1, h2, h3⟩ | ⟨rfl, h⟩
  · exact hs a0.toNat (by omega) (by omega) (by omega)
  · exact hn h
def cWi (cnt a0 a1 : Int) : Prop := (0 ≤ a0 ∧ a0 < cnt) ∧ andI a1 (-1023) = 0
theorem fC_wish {M : zM} {a0 a1 : Int} (hB : BN wC M) (v0 : -2147483648 ≤ a0 ∧ a0 ≤ 2147483647) (v1 : -2147483648 ≤ a1 ∧ a1 ≤ 2147483647) {Q : Int → zM → Prop} (hQ : ∀ (z : Int) (M1 : zM), BN wC M1 ∧ (∀ j9 : Nat, ¬ (41 ≤ j9 ∧ j9 ≤ 56) → M1 j9 = M j9) ∧ ((cWi (M 32 2) a0 a1 ∧ z = 1 ∧ a0 < 4 ∧ M1 = zup M (41 + 4 * a0.toNat) 4 a1) ∨ (¬ cWi (M 32 2) a0 a1 ∧ z = 0 ∧ M1 = M)) → Q z M1) : wC_wish a0 a1 M Q := by
  unfold wC_wish
  have no : ¬ cWi (M 32 2) a0 a1 → Q 0 M := fun h => hQ _ _ ⟨hB, fun _ _ => rfl, Or.inr ⟨h, rfl, rfl⟩⟩
  refine fC_find hB v0 (fun h => ⟨fun _ => no (fun x => h x.1), fun q h => nomatch h⟩) (fun r hr h1 h2 => ⟨(fun h => nomatch h), fun q hq => ?_⟩)
  obtain rfl := Option.some.inj hq
  obtain ⟨c1, c2, -⟩ := rg_cd r h2
  refine ⟨⟨c1, c2⟩, ?_⟩
  refine sC_isSounds hB v1 (fun z p => ?_)
  obtain ⟨-, p, -⟩ := p
  refine ⟨fun c => fun M1 e1 => ?_, fun c => no (fun x => by have := x.2; omega)⟩
  refine hQ _ _ ⟨by rw [e1]; exact BN.up hB c2 rfl v1.1 v1.2, fun j9 h9 => by rw [e1, zup_row _ _ (by omega)], Or.inl ⟨⟨by omega, by omega⟩, rfl, by omega, by rw [e1, hr]; rfl⟩⟩
theorem fR_wish {M : zM} {a0 a1 : Int} (hB : BI M) (v0 : -2147483648 ≤ a0 ∧ a0 ≤ 2147483647) (v1 : -2147483648 ≤ a1 ∧ a1 ≤ 2147483647) {Q : Int → zM → Prop} (hQ : ∀ (z : Int) (M1 : zM), BI M1 ∧ (∀ j9 k9 : Nat, ¬ (j9 = 0 ∧ k9 = 35 ∨ j9 = 8) → M1 j9 k9 = M j9 k9) ∧ ((cWi (M 0 10) a0 a1 ∧ z = 1 ∧ ∀ k : Nat, M1 8 k = if k = a0.toNat then a1 else M 8 k) ∨ (¬ cWi (M 0 10) a0 a1 ∧ z = 0 ∧ M1 8 = M 8)) → Q z M1) : wR_wish a0 a1 M Q := by
  unfold wR_wish
  intro M1 e1
  have hB1 : BI M1 := by rw [e1]; exact BI.up0 hB rfl (by omega) (by omega) (by decide)
  have hF1 : ∀ j9 k9 : Nat, ¬ (j9 = 0 ∧ k9 = 35 ∨ j9 = 8) → M1 j9 k9 = M j9 k9 := fun j9 k9 h9 => by rw [e1]; exact zup_n _ _ (by omega)
  have r10 : M1 0 10 = M 0 10 := by rw [e1]; exact zup_n _ _ (by omega)
  have r8 : M1 8 = M 8 := by rw [e1]; exact zup_row _ _ (by omega)
  have no : ¬ cWi (M 0 10) a0 a1 → Q 0 M1 := fun h => hQ _ _ ⟨hB1, hF1, Or.inr ⟨h, rfl, r8⟩⟩
  refine fR_isRing hB1 v0 (fun h => ⟨fun _ => no (fun x => h (by rw [r10]; exact x.1)), fun c => absurd rfl c⟩) (fun r hr h1 h2 => ⟨fun c => absurd c (by decide), fun _ => ?_⟩)
  refine sR_areSounds hB1 v1 (fun z p => ?_)
  obtain ⟨-, p, -⟩ := p
  have s0 : sI a0 = a0 := sIo v0.1 v0.2
  rw [s0]
  refine ⟨fun c => ⟨by omega, fun M2 e2 => ?_⟩, fun c => no (fun x => by have := x.2; omega)⟩
  refine hQ _ _ ⟨by rw [e2]; exact BI.up hB1 (rfl : zcd wR 8 = 58) rfl v1.1 v1.2 (by decide), fun j9 k9 h9 => by rw [e2, zup_n _ _ (by omega)]; exact hF1 j9 k9 h9, Or.inl ⟨⟨by omega, by omega⟩, rfl, fun k => ?_⟩⟩
  rw [e2]
  by_cases c5 : k = a0.toNat
  · rw [c5, zup_s, if_pos rfl]
  · rw [zup_n _ _ (by omega), if_neg c5, r8]
theorem ri_wish {MC MR M8 M9 : zM} {a0 a1 z z9 : Int} (h : iRi MC MR) (p : (cWi (MC 32 2) a0 a1 ∧ z = 1 ∧ a0 < 4 ∧ M8 = zup MC (41 + 4 * a0.toNat) 4 a1) ∨ (¬ cWi (MC 32 2) a0 a1 ∧ z = 0 ∧ M8 = MC)) (f9 : ∀ j9 k9 : Nat, ¬ (j9 = 0 ∧ k9 = 35 ∨ j9 = 8) → M9 j9 k9 = MR j9 k9) (q : (cWi (MR 0 10) a0 a1 ∧ z9 = 1 ∧ ∀ k : Nat, M9 8 k = if k = a0.toNat then a1 else MR 8 k) ∨ (¬ cWi (MR 0 10) a0 a1 ∧ z9 = 0 ∧ M9 8 = MR 8)) : z = z9 ∧ iRi M8 M9 := by
  have g1 := h.1
  rw [← g1] at q
  rcases p with ⟨p1, p2, p3, p4⟩ | ⟨p1, p2, p3⟩
  · rcases q with ⟨q1, q2, q3⟩ | ⟨q1, -⟩
    · have ha := p1.1
      refine ⟨by omega, iRi_one (r0 := a0.toNat) h (fun j hj => by rw [p4, zup_row _ _ (by omega)]) (by rw [p4, zup_n _ _ (by omega)]) (f9 0 10 (by omega)) (fun j r hj hr => ?_) (fun q _ => f9 3 q (by omega)) ?_⟩
      · by_cases c : j = 8
        · rw [c, q3, if_neg hr]
        · exact f9 j r (by omega)
      · obtain ⟨n, a1', a2, a3, a4, a5, a6, a7, a8, a9, a10, a11⟩ := h.2.2 a0.toNat (by omega)
        refine ⟨n, a1', a2, by rw [p4, zup_n _ _ (by omega)]; exact a3, (f9 4 _ (by omega)).trans a4, by rw [p4, zup_n _ _ (by omega), f9 5 _ (by omega)]; exact a5, by rw [p4, zup_n _ _ (by omega), f9 6 _ (by omega)]; exact a6, by rw [f9 6 _ (by omega)]; exact a7, by rw [p4, zup_n _ _ (by omega), f9 7 _ (by omega)]; exact a8, by rw [p4, zup_s, q3, if_pos rfl], fun k hk => by rw [p4, zup_n _ _ (by omega), f9 3 _ (by omega)]; exact a10 k hk, fun a ha => ?_⟩
        rw [p4, zup_n _ _ (by omega), zup_n _ _ (by omega), zup_row _ _ (by omega)]
        exact a11 a ha
    · exact absurd p1 q1
  · rcases q with ⟨q1, -⟩ | ⟨q1, q2, q3⟩
    · exact absurd q1 p1
    · rw [p3]
      exact ⟨by omega, iRi_kept h (fun j _ => rfl) rfl (f9 0 10 (by omega)) (funext fun k => f9 3 k (by omega)) (funext fun k => f9 4 k (by omega)) (funext fun k => f9 5 k (by omega)) (funext fun k => f9 6 k (by omega)) (funext fun k => f9 7 k (by omega)) q3⟩
def cSe (cnt : Int) (len : Nat → Int) (a0 a1 a2 : Int) : Prop := (0 ≤ a0 ∧ a0 < cnt) ∧ ((a1 = 0 ∧ 0 ≤ a2 ∧ a2 ≤ 1) ∨ (a1 = 1 ∧ 0 ≤ a2 ∧ a2 < len a0.toNat))
set_option maxHeartbeats 1000000 in
theorem fC_set {M : zM} {a0 a1 a2 : Int} (hB : BN wC M) (v0 : -2147483648 ≤ a0 ∧ a0 ≤ 2147483647) (v1 : -2147483648 ≤ a1 ∧ a1 ≤ 2147483647) (v2 : -2147483648 ≤ a2 ∧ a2 ≤ 2147483647) {Q : Int → zM → Prop} (hQ : ∀ (z : Int) (M1 : zM), BN wC M1 ∧ (∀ j9 : Nat, ¬ (41 ≤ j9 ∧ j9 ≤ 56) → M1 j9 = M j9) ∧ ((cSe (M 32 2) (fun r => M (41 + 4 * r + 1) 1) a0 a1 a2 ∧ a0 < 4 ∧ ((a1 = 0 ∧ z = M (41 + 4 * a0.toNat) 1 ∧ M1 = zup M (41 + 4 * a0.toNat) 1 a2) ∨ (a1 = 1 ∧ z = M (41 + 4 * a0.toNat) 2 ∧ M1 = zup M (41 + 4 * a0.toNat) 2 a2))) ∨ (¬ cSe (M 32 2) (fun r => M (41 + 4 * r + 1) 1) a0 a1 a2 ∧ z = -1 ∧ M1 = M)) → Q z M1) : wC_set a0 a1 a2 M Q := by
  unfold wC_set
  have no : ¬ cSe (M 32 2) (fun r => M (41 + 4 * r + 1) 1) a0 a1 a2 → Q (-1) M := fun h => hQ _ _ ⟨hB, fun _ _ => rfl, Or.inr ⟨h, rfl, rfl⟩⟩
  refine fC_find hB v0 (fun h => ⟨fun _ => no (fun x => h x.1), fun q h => nomatch h⟩) (fun r hr h1 h2 => ⟨(fun h => nomatch h), fun q hq => ?_⟩)
  obtain rfl := Option.some.inj hq
  obtain ⟨c1, c2, c3, -⟩ := rg_cd r h2
  have hra : a0.toNat = r := by omega
  have s1 : sI a1 = a1 := sIo v1.1 v1.2
  have b1 := BN.r32 hB (41 + 4 * r) 1
  have b2 := BN.r32 hB (41 + 4 * r) 2
  have bl : 0 ≤ M (41 + 4 * r + 1) 1 ∧ M (41 + 4 * r + 1) 1 ≤ 24 := BN.at hB c3 rfl
  rw [s1, sIo b1.1 b1.2, sIo b2.1 b2.2]
  refine ⟨⟨c1, c2⟩, ?_⟩
  refine pJ0_of (¬ (a1 = 0 ∧ 0 ≤ a2 ∧ a2 ≤ 1)) (fun hJ => ?_) ⟨fun c => fun h => c h.1, fun c => ?_⟩
  · refine ⟨fun c => no (fun x => by rcases x.2 with y | y <;> omega), fun c => ?_⟩
    refine sC_Strip_has hB (by have e1 : nC = 134 := rfl; omega) c3 v2 (fun z p => ?_)
    obtain ⟨-, p, -⟩ := p
    refine ⟨fun d => no (fun x => ?_), fun d => fun M1 e1 => ?_⟩
    · have y := x.2
      rw [hra] at y
      have y : (a1 = 0 ∧ 0 ≤ a2 ∧ a2 ≤ 1) ∨ (a1 = 1 ∧ 0 ≤ a2 ∧ a2 < M (41 + 4 * r + 1) 1) := y
      omega
    · refine hQ _ _ ⟨by rw [e1]; exact BN.up hB c2 rfl (by omega) (by omega), fun j9 h9 => by rw [e1, zup_row _ _ (by omega)], Or.inl ⟨⟨by omega, Or.inr ⟨c, by omega, ?_⟩⟩, by omega, Or.inr ⟨c, by rw [hra], by rw [hra]; exact e1⟩⟩⟩
      rw [hra]
      show a2 < M (41 + 4 * r + 1) 1
      omega
  · refine sC_isMotor hB v2 (fun z p => ?_)
    obtain ⟨-, p, -⟩ := p
    refine ⟨fun d => fun h => by omega, fun d => fun M1 e1 => ?_⟩
    exact hQ _ _ ⟨by rw [e1]; exact BN.up hB c2 rfl (by omega) (by omega), fun j9 h9 => by rw [e1, zup_row _ _ (by omega)], Or.inl ⟨⟨by omega, Or.inl ⟨c, by omega⟩⟩, by omega, Or.inl ⟨c, by rw [hra], by rw [hra]; exact e1⟩⟩⟩
set_option maxHeartbeats 1000000 in
theorem fR_set {M : zM} {a0 a1 a2 : Int} (hB : BI M) (v0 : -2147483648 ≤ a0 ∧ a0 ≤ 2147483647) (v1 : -2147483648 ≤ a1 ∧ a1 ≤ 2147483647) (v2 : -2147483648 ≤ a2 ∧ a2 ≤ 2147483647) {Q : Int → zM → Prop} (hQ : ∀ (z : Int) (M1 : zM), BI M1 ∧ (∀ j9 k9 : Nat, ¬ (j9 = 0 ∧ k9 = 35 ∨ j9 = 5 ∨ j9 = 6) → M1 j9 k9 = M j9 k9) ∧ ((cSe (M 0 10) (M 4) a0 a1 a2 ∧ ((a1 = 0 ∧ z = M 5 a0.toNat ∧ (∀ k : Nat, M1 5 k = if k = a0.toNat then a2 else M 5 k) ∧ M1 6 = M 6) ∨ (a1 = 1 ∧ z = M 6 a0.toNat ∧ (∀ k : Nat, M1 6 k = if k = a0.toNat then a2 else M 6 k) ∧ M1 5 = M 5))) ∨ (¬ cSe (M 0 10) (M 4) a0 a1 a2 ∧ z = -1 ∧ M1 5 = M 5 ∧ M1 6 = M 6)) → Q z M1) : wR_set a0 a1 a2 M Q := by
  unfold wR_set
  intro M1 e1
  have hB1 : BI M1 := by rw [e1]; exact BI.up0 hB rfl (by omega) (by omega) (by decide)
  have hF1 : ∀ j9 k9 : Nat, ¬ (j9 = 0 ∧ k9 = 35 ∨ j9 = 5 ∨ j9 = 6) → M1 j9 k9 = M j9 k9 := fun j9 k9 h9 => by rw [e1]; exact zup_n _ _ (by omega)
  have r10 : M1 0 10 = M 0 10 := by rw [e1]; exact zup_n _ _ (by omega)
  have r4 : M1 4 = M 4 := by rw [e1]; exact zup_row _ _ (by omega)
  have r5 : M1 5 = M 5 := by rw [e1]; exact zup_row _ _ (by omega)
  have r6 : M1 6 = M 6 := by rw [e1]; exact zup_row _ _ (by omega)
  have no : ¬ cSe (M 0 10) (M 4) a0 a1 a2 → Q (-1) M1 := fun h => hQ _ _ ⟨hB1, hF1, Or.inr ⟨h, rfl, r5, r6⟩⟩
  refine fR_isRing hB1 v0 (fun h => ⟨fun _ => no (fun x => h (by rw [r10]; exact x.1)), fun c => absurd rfl c⟩) (fun r hr h1 h2 => ⟨fun c => absurd c (by decide), fun _ => ?_⟩)
  have s0 : sI a0 = a0 := sIo v0.1 v0.2
  have s1 : sI a1 = a1 := sIo v1.1 v1.2
  have hra : a0.toNat = r := by omega
  have bl : 0 ≤ M1 4 r ∧ M1 4 r ≤ 24 := BN.at hB1.1 (rfl : zcd wR 4 = 54) rfl
  rw [s0, s1, hra]
  refine sR_in hB1 v1 (by omega) (by omega) (fun z p => ?_)
  obtain ⟨-, p, -⟩ := p
  refine ⟨fun c => no (fun x => by rcases x.2 with y | y <;> omega), fun c => ?_⟩
  refine pJ0_of ((a1 = 0 ∧ 0 ≤ a2 ∧ a2 ≤ 1) ∨ (a1 = 1 ∧ 0 ≤ a2 ∧ a2 < M1 4 r)) (fun hJ => ?_) ⟨fun d => ⟨by omega, ?_⟩, fun d => ?_⟩
  · have ok : cSe (M 0 10) (M 4) a0 a1 a2 := ⟨by omega, by rw [hra, ← r4]; exact hJ⟩
    refine pJ1_of (fun x => (a1 = 0 ∧ x = M 5 r) ∨ (a1 = 1 ∧ x = M 6 r)) (fun x hx => ?_) ⟨fun d => ⟨by omega, Or.inr ⟨by omega, by rw [r6]⟩⟩, fun d => ⟨by omega, Or.inl ⟨d, by rw [r5]⟩⟩⟩
    have b5 := BN.r32 hB.1 5 r
    have b6 := BN.r32 hB.1 6 r
    have sx : sI x = x := sIo (by omega) (by omega)
    rw [sx]
    refine ⟨fun d => ⟨by omega, fun M2 e2 => ?_⟩, fun d => ⟨by omega, fun M2 e2 => ?_⟩⟩
    · refine hQ _ _ ⟨by rw [e2]; exact BI.up hB1 (rfl : zcd wR 6 = 56) rfl (by omega) (by omega) (by decide), fun j9 k9 h9 => by rw [e2, zup_n _ _ (by omega)]; exact hF1 j9 k9 h9, Or.inl ⟨ok, Or.inr ⟨by omega, by rw [hra]; omega, fun k => ?_, by rw [e2, zup_row _ _ (by omega)]; exact r5⟩⟩⟩
      rw [e2, hra]
      by_cases c5 : k = r
      · rw [c5, zup_s, if_pos rfl]
      · rw [zup_n _ _ (by omega), if_neg c5, r6]
    · refine hQ _ _ ⟨by rw [e2]; exact BI.up hB1 (rfl : zcd wR 5 = 55) rfl (by omega) (by omega) (by decide), fun j9 k9 h9 => by rw [e2, zup_n _ _ (by omega)]; exact hF1 j9 k9 h9, Or.inl ⟨ok, Or.inl ⟨d, by rw [hra]; omega, fun k => ?_, by rw [e2, zup_row _ _ (by omega)]; exact r6⟩⟩⟩
      rw [e2, hra]
      by_cases c5 : k = r
      · rw [c5, zup_s, if_pos rfl]
      · rw [zup_n _ _ (by omega), if_neg c5, r5]
  · refine sR_in hB1 v2 (by omega) (by omega) (fun z2 p2 => ?_)
    obtain ⟨-, p2, -⟩ := p2
    refine ⟨fun e => by omega, fun e => no (fun x => ?_)⟩
    have y := x.2
    rw [hra, ← r4] at y
    omega
  · refine sR_isMotor hB1 v2 (fun z2 p2 => ?_)
    obtain ⟨-, p2, -⟩ := p2
    exact ⟨fun e => by omega, fun e => no (fun x => by have y := x.2; omega)⟩
theorem ri_set {MC MR M8 M9 : zM} {a0 a1 a2 z z9 : Int} (h : iRi MC MR) (p : (cSe (MC 32 2) (fun r => MC (41 + 4 * r + 1) 1) a0 a1 a2 ∧ a0 < 4 ∧ ((a1 = 0 ∧ z = MC (41 + 4 * a0.toNat) 1 ∧ M8 = zup MC (41 + 4 * a0.toNat) 1 a2) ∨ (a1 = 1 ∧ z = MC (41 + 4 * a0.toNat) 2 ∧ M8 = zup MC (41 + 4 * a0.toNat) 2 a2))) ∨ (¬ cSe (MC 32 2) (fun r => MC (41 + 4 * r + 1) 1) a0 a1 a2 ∧ z = -1 ∧ M8 = MC)) (f9 : ∀ j9 k9 : Nat, ¬ (j9 = 0 ∧ k9 = 35 ∨ j9 = 5 ∨ j9 = 6) → M9 j9 k9 = MR j9 k9) (q : (cSe (MR 0 10) (MR 4) a0 a1 a2 ∧ ((a1 = 0 ∧ z9 = MR 5 a0.toNat ∧ (∀ k : Nat, M9 5 k = if k = a0.toNat then a2 else MR 5 k) ∧ M9 6 = MR 6) ∨ (a1 = 1 ∧ z9 = MR 6 a0.toNat ∧ (∀ k : Nat, M9 6 k = if k = a0.toNat then a2 else MR 6 k) ∧ M9 5 = MR 5))) ∨ (¬ cSe (MR 0 10) (MR 4) a0 a1 a2 ∧ z9 = -1 ∧ M9 5 = MR 5 ∧ M9 6 = MR 6)) : z = z9 ∧ iRi M8 M9 := by
  have g1 := h.1
  have ec : cSe (MC 32 2) (fun r => MC (41 + 4 * r + 1) 1) a0 a1 a2 ↔ cSe (MR 0 10) (MR 4) a0 a1 a2 := by
    unfold cSe
    dsimp only
    rw [g1]
    constructor
    · rintro ⟨x, y⟩
      obtain ⟨n, -, -, b3, b4, -⟩ := h.2.2 a0.toNat (by omega)
      rw [b4]
      rw [b3] at y
      exact ⟨x, y⟩
    · rintro ⟨x, y⟩
      obtain ⟨n, -, -, b3, b4, -⟩ := h.2.2 a0.toNat (by omega)
      rw [b3]
      rw [b4] at y
      exact ⟨x, y⟩
  rw [← ec] at q
  rcases p with ⟨p1, p3, p4⟩ | ⟨p1, p2, p3⟩
  · rcases q with ⟨q1, q4⟩ | ⟨q1, -⟩
    · have ha := p1.1
      obtain ⟨n, a1', a2', a3, a4, a5, a6, a7, a8, a9, a10, a11⟩ := h.2.2 a0.toNat (by omega)
      have st : a1 = 1 → 0 ≤ a2 ∧ a2 < n := fun e => by
        have y : (a1 = 0 ∧ 0 ≤ a2 ∧ a2 ≤ 1) ∨ (a1 = 1 ∧ 0 ≤ a2 ∧ a2 < MC (41 + 4 * a0.toNat + 1) 1) := p1.2
        omega
      rcases p4 with ⟨d1, d2, d3⟩ | ⟨d1, d2, d3⟩
      · obtain ⟨e1, e2, e3, e4⟩ := q4.resolve_right (fun x => by have := x.1; omega)
        refine ⟨by rw [d2, e2]; exact a5, iRi_one (r0 := a0.toNat) h (fun j hj => by rw [d3, zup_row _ _ (by omega)]) (by rw [d3, zup_n _ _ (by omega)]) (f9 0 10 (by omega)) (fun j r hj hr => ?_) (fun q _ => f9 3 q (by omega)) ?_⟩
        · by_cases c : j = 5
          · rw [c, e3, if_neg hr]
          · by_cases c2 : j = 6
            · rw [c2, e4]
            · exact f9 j r (by omega)
        · refine ⟨n, a1', a2', by rw [d3, zup_n _ _ (by omega)]; exact a3, (f9 4 _ (by omega)).trans a4, by rw [d3, zup_s, e3, if_pos rfl], by rw [d3, zup_n _ _ (by omega), e4]; exact a6, by rw [e4]; exact a7, by rw [d3, zup_n _ _ (by omega), f9 7 _ (by omega)]; exact a8, by rw [d3, zup_n _ _ (by omega), f9 8 _ (by omega)]; exact a9, fun k hk => by rw [d3, zup_n _ _ (by omega), f9 3 _ (by omega)]; exact a10 k hk, fun a ha => ?_⟩
          rw [d3, zup_n _ _ (by omega), zup_n _ _ (by omega), zup_row _ _ (by omega)]
          exact a11 a ha
      · obtain ⟨e1, e2, e3, e4⟩ := q4.resolve_left (fun x => by have := x.1; omega)
        refine ⟨by rw [d2, e2]; exact a6, iRi_one (r0 := a0.toNat) h (fun j hj => by rw [d3, zup_row _ _ (by omega)]) (by rw [d3, zup_n _ _ (by omega)]) (f9 0 10 (by omega)) (fun j r hj hr => ?_) (fun q _ => f9 3 q (by omega)) ?_⟩
        · by_cases c : j = 6
          · rw [c, e3, if_neg hr]
          · by_cases c2 : j = 5
            · rw [c2, e4]
            · exact f9 j r (by omega)
        · refine ⟨n, a1', a2', by rw [d3, zup_n _ _ (by omega)]; exact a3, (f9 4 _ (by omega)).trans a4, by rw [d3, zup_n _ _ (by omega), e4]; exact a5, by rw [d3, zup_s, e3, if_pos rfl], by rw [e3, if_pos rfl]; exact st d1, by rw [d3, zup_n _ _ (by omega), f9 7 _ (by omega)]; exact a8, by rw [d3, zup_n _ _ (by omega), f9 8 _ (by omega)]; exact a9, fun k hk => by rw [d3, zup_n _ _ (by omega), f9 3 _ (by omega)]; exact a10 k hk, fun a ha => ?_⟩
          rw [d3, zup_n _ _ (by omega), zup_n _ _ (by omega), zup_row _ _ (by omega)]
          exact a11 a ha
    · exact absurd p1 q1
  · rcases q with ⟨q1, -⟩ | ⟨q1, q2, q3, q4⟩
    · exact absurd q1 p1
    · rw [p3]
      exact ⟨by omega, iRi_kept h (fun j _ => rfl) rfl (f9 0 10 (by omega)) (funext fun k => f9 3 k (by omega)) (funext fun k => f9 4 k (by omega)) q3 q4 (funext fun k => f9 7 k (by omega)) (funext fun k => f9 8 k (by omega))⟩
end zz47o_rset
section zz47p_rhead
/-! rings: head and cut, alike -/
def hdI (is h o : Int) : Int := if is = 0 then andI h (xorI (shlI 1 o) (-1)) else orI h (shlI 1 o)
theorem hdI_r (is h o : Int) : -2147483648 ≤ hdI is h o ∧ hdI is h o ≤ 2147483647 := by
  unfold hdI
  by_cases c : is = 0
  · rw [if_pos c]
    exact andI_R _ _
  · rw [if_neg c]
    exact orI_R _ _
def cHd (cnt : Int) (hs : Nat → Int) (a0 a1 a2 : Int) : Prop := (0 ≤ a0 ∧ a0 < cnt) ∧ (0 ≤ a1 ∧ a1 ≤ 23) ∧ hdI a2 (hs a0.toNat) a1 ≠ 0
set_option maxHeartbeats 1000000 in
theorem fC_head {M : zM} {a0 a1 a2 : Int} (hB : BN wC M) (hlen : ∀ r : Nat, (r : Int) < M 32 2 → 1 ≤ M (41 + 4 * r + 1) 1) (v0 : -2147483648 ≤ a0 ∧ a0 ≤ 2147483647) (v1 : -2147483648 ≤ a1 ∧ a1 ≤ 2147483647) (v2 : -2147483648 ≤ a2 ∧ a2 ≤ 2147483647) {Q : Int → zM → Prop} (hQ : ∀ (z : Int) (M1 : zM), BN wC M1 ∧ (∀ j9 : Nat, ¬ (41 ≤ j9 ∧ j9 ≤ 56) → M1 j9 = M j9) ∧ ((cHd (M 32 2) (fun r => M (41 + 4 * r) 3) a0 a1 a2 ∧ ∃ r n : Nat, a0 = (r : Int) ∧ r < 4 ∧ M (41 + 4 * r + 1) 1 = (n : Int) ∧ 1 ≤ n ∧ z = bcI (hdI a2 (M (41 + 4 * r) 3) a1) ∧ (∀ p q : Nat, ¬ (p = 41 + 4 * r ∧ q = 3 ∨ p = 41 + 4 * r + 3 ∧ q < n) → M1 p q = M p q) ∧ M1 (41 + 4 * r) 3 = hdI a2 (M (41 + 4 * r) 3) a1 ∧ (∀ a : Nat, a < n → M1 (41 + 4 * r + 3) a = orU (hdI a2 (M (41 + 4 * r) 3) a1) (M (41 + 4 * r + 2)) n a 24)) ∨ (¬ cHd (M 32 2) (fun r => M (41 + 4 * r) 3) a0 a1 a2 ∧ z = -1 ∧ M1 = M)) → Q z M1) : wC_head a0 a1 a2 M Q := by
  unfold wC_head
  have no : ¬ cHd (M 32 2) (fun r => M (41 + 4 * r) 3) a0 a1 a2 → Q (-1) M := fun h => hQ _ _ ⟨hB, fun _ _ => rfl, Or.inr ⟨h, rfl, rfl⟩⟩
  refine fC_find hB v0 (fun h => ⟨fun _ => no (fun x => h x.1), fun q h => nomatch h⟩) (fun r hr h1 h2 => ⟨(fun h => nomatch h), fun q hq => ?_⟩)
  obtain rfl := Option.some.inj hq
  obtain ⟨c1, c2, c3, c4, c5, -⟩ := rg_cd r h2
  have hra : a0.toNat = r := by omega
  have hl := hlen r h1
  have bl : 0 ≤ M (41 + 4 * r + 1) 1 ∧ M (41 + 4 * r + 1) 1 ≤ 24 := BN.at hB c3 rfl
  refine ⟨⟨c1, c2⟩, ?_⟩
  refine sC_within hB v1 (by omega) (by omega) (fun z p => ?_)
  obtain ⟨-, p, -⟩ := p
  refine ⟨fun c => ?_, fun c => no (fun x => by have := x.2.1; omega)⟩
  unfold wC_Ring_putHead
  have s2 : sI a2 = a2 := sIo v2.1 v2.2
  rw [s2]
  refine pJ1_of (fun x => x = hdI a2 (M (41 + 4 * r) 3) a1) (fun x hx => ?_) ⟨fun d => by unfold hdI; rw [if_pos d], fun d => by unfold hdI; rw [if_neg d]⟩
  have rx := hdI_r a2 (M (41 + 4 * r) 3) a1
  rw [← hx] at rx
  have sx : sI x = x := sIo rx.1 rx.2
  rw [sx]
  refine ⟨fun d => fun M2 e2 => ?_, fun d => no (fun x9 => x9.2.2 ?_)⟩
  · have b2 : BN wC M2 := by rw [e2]; exact BN.up hB c2 rfl rx.1 rx.2
    have l2 : M2 (41 + 4 * r + 1) 1 = ((M (41 + 4 * r + 1) 1).toNat : Int) := by rw [e2, zup_n _ _ (by omega)]; omega
    refine fC_listen b2 h2 (by omega) l2 (fun M3 h3 => ?_)
    obtain ⟨b3, f3, g3⟩ := h3
    have e3 : M3 (41 + 4 * r) 3 = x := by rw [f3 _ _ (by omega), e2, zup_s]
    have f4 : ∀ p q : Nat, ¬ (p = 41 + 4 * r ∧ q = 3 ∨ p = 41 + 4 * r + 3 ∧ q < (M (41 + 4 * r + 1) 1).toNat) → M3 p q = M p q := fun p q h => by rw [f3 _ _ (by omega), e2, zup_n _ _ (by omega)]
    refine fC_bitCount ?_
    rw [e3, hx]
    refine hQ _ _ ⟨b3, fun j9 h9 => funext fun q => f4 j9 q (by omega), Or.inl ⟨⟨by omega, by omega, by rw [hra, ← hx]; exact d⟩, r, (M (41 + 4 * r + 1) 1).toNat, hr, h2, by omega, by omega, rfl, f4, e3.trans hx, fun a ha => ?_⟩⟩
    rw [g3 a ha, e2, zup_s, zup_row _ _ (by omega), hx]
  · rw [hra, ← hx]
    exact d
set_option maxHeartbeats 1000000 in
theorem fR_head {M : zM} {a0 a1 a2 : Int} (hB : BI M) (v0 : -2147483648 ≤ a0 ∧ a0 ≤ 2147483647) (v1 : -2147483648 ≤ a1 ∧ a1 ≤ 2147483647) (v2 : -2147483648 ≤ a2 ∧ a2 ≤ 2147483647) {Q : Int → zM → Prop} (hQ : ∀ (z : Int) (M1 : zM), BI M1 ∧ (∀ j9 k9 : Nat, ¬ (j9 = 0 ∧ k9 = 35 ∨ j9 = 7) → M1 j9 k9 = M j9 k9) ∧ ((cHd (M 0 10) (M 7) a0 a1 a2 ∧ z = bcI (hdI a2 (M 7 a0.toNat) a1) ∧ ∀ k : Nat, M1 7 k = if k = a0.toNat then hdI a2 (M 7 a0.toNat) a1 else M 7 k) ∨ (¬ cHd (M 0 10) (M 7) a0 a1 a2 ∧ z = -1 ∧ M1 7 = M 7)) → Q z M1) : wR_head a0 a1 a2 M Q := by
  unfold wR_head
  intro M1 e1
  have hB1 : BI M1 := by rw [e1]; exact BI.up0 hB rfl (by omega) (by omega) (by decide)
  have hF1 : ∀ j9 k9 : Nat, ¬ (j9 = 0 ∧ k9 = 35 ∨ j9 = 7) → M1 j9 k9 = M j9 k9 := fun j9 k9 h9 => by rw [e1]; exact zup_n _ _ (by omega)
  have r10 : M1 0 10 = M 0 10 := by rw [e1]; exact zup_n _ _ (by omega)
  have r7 : M1 7 = M 7 := by rw [e1]; exact zup_row _ _ (by omega)
  have no : ¬ cHd (M 0 10) (M 7) a0 a1 a2 → Q (-1) M1 := fun h => hQ _ _ ⟨hB1, hF1, Or.inr ⟨h, rfl, r7⟩⟩
  refine fR_isRing hB1 v0 (fun h => ⟨fun _ => no (fun x => h (by rw [r10]; exact x.1)), fun c => absurd rfl c⟩) (fun r hr h1 h2 => ⟨fun c => absurd c (by decide), fun _ => ?_⟩)
  have s0 : sI a0 = a0 := sIo v0.1 v0.2
  have s2 : sI a2 = a2 := sIo v2.1 v2.2
  have hra : a0.toNat = r := by omega
  rw [s0, s2, hra, r7]
  refine sR_in hB1 v1 (by omega) (by omega) (fun z p => ?_)
  obtain ⟨-, p, -⟩ := p
  refine ⟨fun c => ?_, fun c => no (fun x => by have := x.2.1; omega)⟩
  refine pJ1_of (fun x => x = hdI a2 (M 7 r) a1) (fun x hx => ?_) ⟨fun d => ⟨by omega, by unfold hdI; rw [if_pos d]⟩, fun d => ⟨by omega, by unfold hdI; rw [if_neg d]⟩⟩
  have rx := hdI_r a2 (M 7 r) a1
  rw [← hx] at rx
  have sx : sI x = x := sIo rx.1 rx.2
  rw [sx]
  refine ⟨fun d => ⟨by omega, fun M2 e2 => ?_⟩, fun d => no (fun x9 => x9.2.2 ?_)⟩
  · refine fR_bitCount ?_
    rw [hx]
    refine hQ _ _ ⟨by rw [e2]; exact BI.up hB1 (rfl : zcd wR 7 = 57) rfl rx.1 rx.2 (by decide), fun j9 k9 h9 => by rw [e2, zup_n _ _ (by omega)]; exact hF1 j9 k9 h9, Or.inl ⟨⟨by omega, by omega, by rw [hra, ← hx]; exact d⟩, by rw [hra], fun k => ?_⟩⟩
    rw [e2, hra]
    by_cases c5 : k = r
    · rw [c5, zup_s, if_pos rfl, hx]
    · rw [zup_n _ _ (by omega), if_neg c5, r7]
  · rw [hra, ← hx]
    exact d
theorem ri_len {MC MR : zM} (h : iRi MC MR) : ∀ r : Nat, (r : Int) < MC 32 2 → 1 ≤ MC (41 + 4 * r + 1) 1 := fun r hr => by
  obtain ⟨n, a1, a2, a3, -⟩ := h.2.2 r hr
  omega
theorem ri_head {MC MR M8 M9 : zM} {a0 a1 a2 z z9 : Int} (h : iRi MC MR) (f8 : ∀ j9 : Nat, ¬ (41 ≤ j9 ∧ j9 ≤ 56) → M8 j9 = MC j9) (p : (cHd (MC 32 2) (fun r => MC (41 + 4 * r) 3) a0 a1 a2 ∧ ∃ r n : Nat, a0 = (r : Int) ∧ r < 4 ∧ MC (41 + 4 * r + 1) 1 = (n : Int) ∧ 1 ≤ n ∧ z = bcI (hdI a2 (MC (41 + 4 * r) 3) a1) ∧ (∀ p q : Nat, ¬ (p = 41 + 4 * r ∧ q = 3 ∨ p = 41 + 4 * r + 3 ∧ q < n) → M8 p q = MC p q) ∧ M8 (41 + 4 * r) 3 = hdI a2 (MC (41 + 4 * r) 3) a1 ∧ (∀ a : Nat, a < n → M8 (41 + 4 * r + 3) a = orU (hdI a2 (MC (41 + 4 * r) 3) a1) (MC (41 + 4 * r + 2)) n a 24)) ∨ (¬ cHd (MC 32 2) (fun r => MC (41 + 4 * r) 3) a0 a1 a2 ∧ z = -1 ∧ M8 = MC)) (f9 : ∀ j9 k9 : Nat, ¬ (j9 = 0 ∧ k9 = 35 ∨ j9 = 7) → M9 j9 k9 = MR j9 k9) (q : (cHd (MR 0 10) (MR 7) a0 a1 a2 ∧ z9 = bcI (hdI a2 (MR 7 a0.toNat) a1) ∧ ∀ k : Nat, M9 7 k = if k = a0.toNat then hdI a2 (MR 7 a0.toNat) a1 else MR 7 k) ∨ (¬ cHd (MR 0 10) (MR 7) a0 a1 a2 ∧ z9 = -1 ∧ M9 7 = MR 7)) : z = z9 ∧ iRi M8 M9 := by
  have g1 := h.1
  have ec : cHd (MC 32 2) (fun r => MC (41 + 4 * r) 3) a0 a1 a2 ↔ cHd (MR 0 10) (MR 7) a0 a1 a2 := by
    unfold cHd
    dsimp only
    rw [g1]
    constructor
    · rintro ⟨x, y⟩
      obtain ⟨n, -, -, -, -, -, -, -, b8, -⟩ := h.2.2 a0.toNat (by omega)
      rw [b8] at y
      exact ⟨x, y⟩
    · rintro ⟨x, y⟩
      obtain ⟨n, -, -, -, -, -, -, -, b8, -⟩ := h.2.2 a0.toNat (by omega)
      rw [b8]
      exact ⟨x, y⟩
  rw [← ec] at q
  rcases p with ⟨p1, r, m, hr, hr4, hm, hm1, d1, d2, d3, d4⟩ | ⟨p1, p2, p3⟩
  · rcases q with ⟨q1, e1, e2⟩ | ⟨q1, -⟩
    · have ha := p1.1
      have hra : a0.toNat = r := by omega
      rw [hra] at e1 e2
      obtain ⟨n, a1', a2', a3, a4, a5, a6, a7, a8, a9, a10, a11⟩ := h.2.2 r (by omega)
      have hmn : m = n := by omega
      subst hmn
      refine ⟨by rw [d1, e1, a8], iRi_one (r0 := r) h (fun j hj => funext fun q => d2 j q (by omega)) (d2 32 2 (by omega)) (f9 0 10 (by omega)) (fun j k hj hk => ?_) (fun q _ => f9 3 q (by omega)) ?_⟩
      · by_cases c : j = 7
        · rw [c, e2, if_neg hk]
        · exact f9 j k (by omega)
      · refine ⟨m, a1', a2', by rw [d2 _ _ (by omega)]; exact a3, (f9 4 _ (by omega)).trans a4, by rw [d2 _ _ (by omega), f9 5 _ (by omega)]; exact a5, by rw [d2 _ _ (by omega), f9 6 _ (by omega)]; exact a6, by rw [f9 6 _ (by omega)]; exact a7, by rw [d3, e2, if_pos rfl, a8], by rw [d2 _ _ (by omega), f9 8 _ (by omega)]; exact a9, fun k hk => by rw [d2 _ _ (by omega), f9 3 _ (by omega)]; exact a10 k hk, fun a ha => ?_⟩
        rw [d3, d4 a ha]
        exact orU_cg a1' (fun k hk => (d2 _ k (by omega)).symm) 24
    · exact absurd p1 q1
  · rcases q with ⟨q1, -⟩ | ⟨q1, q2, q3⟩
    · exact absurd q1 p1
    · rw [p3]
      exact ⟨by omega, iRi_kept h (fun j _ => rfl) rfl (f9 0 10 (by omega)) (funext fun k => f9 3 k (by omega)) (funext fun k => f9 4 k (by omega)) (funext fun k => f9 5 k (by omega)) (funext fun k => f9 6 k (by omega)) q3 (funext fun k => f9 8 k (by omega))⟩
/-- a ring cut, the class's -/
theorem fC_cutBy {M : zM} {r n c : Nat} {a0 : Int} (hB : BN wC M) (hr : r < 4) (hn : M (41 + 4 * r + 1) 1 = (n : Int)) (ha : a0 = (c : Int)) (hc : c < n) {Q : zM → Prop} (hQ : ∀ M1 : zM, BN wC M1 ∧ (∀ p q : Nat, ¬ (p = 41 + 4 * r ∧ q = 2 ∨ p = 41 + 4 * r + 1 ∧ q = 1 ∨ p = 41 + 4 * r + 3 ∧ q < n - c) → M1 p q = M p q) ∧ M1 (41 + 4 * r + 1) 1 = ((n - c : Nat) : Int) ∧ M1 (41 + 4 * r) 2 = M (41 + 4 * r) 2 % ((n - c : Nat) : Int) ∧ (∀ a : Nat, a < n - c → M1 (41 + 4 * r + 3) a = orU (M (41 + 4 * r) 3) (M (41 + 4 * r + 2)) (n - c) a 24) → Q M1) : wC_Ring_cutBy (41 + 4 * r) a0 M Q := by
  unfold wC_Ring_cutBy
  obtain ⟨c1, c2, c3, c4, c5, -⟩ := rg_cd r hr
  have bl : 0 ≤ M (41 + 4 * r + 1) 1 ∧ M (41 + 4 * r + 1) 1 ≤ 24 := BN.at hB c3 rfl
  intro M7 e7
  have b7 : BN wC M7 := by rw [e7]; exact BN.up hB c3 rfl (by omega) (by omega)
  have l7 : M7 (41 + 4 * r + 1) 1 = ((n - c : Nat) : Int) := by rw [e7, zup_s, hn, ha]; omega
  have t7 : M7 (41 + 4 * r) 2 = M (41 + 4 * r) 2 := by rw [e7, zup_n _ _ (by omega)]
  have bs : 0 ≤ M (41 + 4 * r) 2 ∧ M (41 + 4 * r) 2 ≤ 23 := BN.at hB c2 rfl
  have ss : sI (M (41 + 4 * r) 2) = M (41 + 4 * r) 2 := sIo (by omega) (by omega)
  rw [l7, t7, ss]
  refine fC_by (by omega) (by omega) ?_
  intro M13 e13
  have em := emB (M (41 + 4 * r) 2) ((n - c : Nat) : Int) (by omega)
  have b13 : BN wC M13 := by rw [e13]; exact BN.up b7 c2 rfl (by omega) (by omega)
  have l13 : M13 (41 + 4 * r + 1) 1 = ((n - c : Nat) : Int) := by rw [e13, zup_n _ _ (by omega)]; exact l7
  refine fC_listen b13 hr (by omega) l13 (fun M3 h3 => ?_)
  obtain ⟨b3, f3, g3⟩ := h3
  refine hQ _ ⟨b3, fun p q h => by rw [f3 _ _ (by omega), e13, zup_n _ _ (by omega), e7, zup_n _ _ (by omega)], by rw [f3 _ _ (by omega)]; exact l13, by rw [f3 _ _ (by omega), e13, zup_s], fun a ha => ?_⟩
  rw [g3 a ha, e13, zup_n _ _ (by omega), zup_row _ _ (by omega), e7, zup_n _ _ (by omega), zup_row _ _ (by omega)]
def cCu (cnt : Int) (len : Nat → Int) (a0 a1 : Int) : Prop := (0 ≤ a0 ∧ a0 < cnt) ∧ (0 ≤ a1 ∧ a1 < len a0.toNat)
theorem fC_cut {M : zM} {a0 a1 : Int} (hB : BN wC M) (v0 : -2147483648 ≤ a0 ∧ a0 ≤ 2147483647) (v1 : -2147483648 ≤ a1 ∧ a1 ≤ 2147483647) {Q : Int → zM → Prop} (hQ : ∀ (z : Int) (M1 : zM), BN wC M1 ∧ (∀ j9 : Nat, ¬ (41 ≤ j9 ∧ j9 ≤ 56) → M1 j9 = M j9) ∧ ((cCu (M 32 2) (fun r => M (41 + 4 * r + 1) 1) a0 a1 ∧ ∃ r n c : Nat, a0 = (r : Int) ∧ r < 4 ∧ M (41 + 4 * r + 1) 1 = (n : Int) ∧ a1 = (c : Int) ∧ c < n ∧ z = ((n - c : Nat) : Int) ∧ (∀ p q : Nat, ¬ (p = 41 + 4 * r ∧ q = 2 ∨ p = 41 + 4 * r + 1 ∧ q = 1 ∨ p = 41 + 4 * r + 3 ∧ q < n - c) → M1 p q = M p q) ∧ M1 (41 + 4 * r + 1) 1 = ((n - c : Nat) : Int) ∧ M1 (41 + 4 * r) 2 = M (41 + 4 * r) 2 % ((n - c : Nat) : Int) ∧ (∀ a : Nat, a < n - c → M1 (41 + 4 * r + 3) a = orU (M (41 + 4 * r) 3) (M (41 + 4 * r + 2)) (n - c) a 24)) ∨ (¬ cCu (M 32 2) (fun r => M (41 + 4 * r + 1) 1) a0 a1 ∧ z = -1 ∧ M1 = M)) → Q z M1) : wC_cut a0 a1 M Q := by
  unfold wC_cut
  have no : ¬ cCu (M 32 2) (fun r => M (41 + 4 * r + 1) 1) a0 a1 → Q (-1) M := fun h => hQ _ _ ⟨hB, fun _ _ => rfl, Or.inr ⟨h, rfl, rfl⟩⟩
  refine fC_find hB v0 (fun h => ⟨fun _ => no (fun x => h x.1), fun q h => nomatch h⟩) (fun r hr h1 h2 => ⟨(fun h => nomatch h), fun q hq => ?_⟩)
  obtain rfl := Option.some.inj hq
  obtain ⟨c1, c2, c3, c4, c5, -⟩ := rg_cd r h2
  have hra : a0.toNat = r := by omega
  have bl : 0 ≤ M (41 + 4 * r + 1) 1 ∧ M (41 + 4 * r + 1) 1 ≤ 24 := BN.at hB c3 rfl
  refine ⟨⟨c1, c2⟩, ?_⟩
  refine sC_Strip_has hB (by have e1 : nC = 134 := rfl; omega) c3 v1 (fun z p => ?_)
  obtain ⟨-, p, -⟩ := p
  refine ⟨fun d => ?_, fun d => no (fun x => ?_)⟩
  · refine fC_cutBy (n := (M (41 + 4 * r + 1) 1).toNat) (c := a1.toNat) hB h2 (by omega) (by omega) (by omega) (fun M1 h => ?_)
    obtain ⟨b1, f1, l1, s1, g1⟩ := h
    have sl : sI (M1 (41 + 4 * r + 1) 1) = (((M (41 + 4 * r + 1) 1).toNat - a1.toNat : Nat) : Int) := by rw [l1]; exact sIo (by omega) (by omega)
    rw [sl]
    exact hQ _ _ ⟨b1, fun j9 h9 => funext fun q => f1 j9 q (by omega), Or.inl ⟨⟨by omega, by omega, by rw [hra]; show a1 < M (41 + 4 * r + 1) 1; omega⟩, r, (M (41 + 4 * r + 1) 1).toNat, a1.toNat, hr, h2, by omega, by omega, by omega, rfl, f1, l1, s1, g1⟩⟩
  · have y := x.2
    rw [hra] at y
    have y : 0 ≤ a1 ∧ a1 < M (41 + 4 * r + 1) 1 := y
    omega
set_option maxHeartbeats 1000000 in
theorem fR_cut {M : zM} {a0 a1 : Int} (hB : BI M) (v0 : -2147483648 ≤ a0 ∧ a0 ≤ 2147483647) (v1 : -2147483648 ≤ a1 ∧ a1 ≤ 2147483647) {Q : Int → zM → Prop} (hQ : ∀ (z : Int) (M1 : zM), BI M1 ∧ (∀ j9 k9 : Nat, ¬ (j9 = 0 ∧ k9 = 35 ∨ j9 = 4 ∨ j9 = 6) → M1 j9 k9 = M j9 k9) ∧ ((cCu (M 0 10) (M 4) a0 a1 ∧ z = M 4 a0.toNat - a1 ∧ (∀ k : Nat, M1 4 k = if k = a0.toNat then M 4 a0.toNat - a1 else M 4 k) ∧ (∀ k : Nat, M1 6 k = if k = a0.toNat then M 6 a0.toNat % (M 4 a0.toNat - a1) else M 6 k)) ∨ (¬ cCu (M 0 10) (M 4) a0 a1 ∧ z = -1 ∧ M1 4 = M 4 ∧ M1 6 = M 6)) → Q z M1) : wR_cut a0 a1 M Q := by
  unfold wR_cut
  intro M1 e1
  have hB1 : BI M1 := by rw [e1]; exact BI.up0 hB rfl (by omega) (by omega) (by decide)
  have hF1 : ∀ j9 k9 : Nat, ¬ (j9 = 0 ∧ k9 = 35 ∨ j9 = 4 ∨ j9 = 6) → M1 j9 k9 = M j9 k9 := fun j9 k9 h9 => by rw [e1]; exact zup_n _ _ (by omega)
  have r10 : M1 0 10 = M 0 10 := by rw [e1]; exact zup_n _ _ (by omega)
  have r4 : M1 4 = M 4 := by rw [e1]; exact zup_row _ _ (by omega)
  have r6 : M1 6 = M 6 := by rw [e1]; exact zup_row _ _ (by omega)
  have no : ¬ cCu (M 0 10) (M 4) a0 a1 → Q (-1) M1 := fun h => hQ _ _ ⟨hB1, hF1, Or.inr ⟨h, rfl, r4, r6⟩⟩
  refine fR_isRing hB1 v0 (fun h => ⟨fun _ => no (fun x => h (by rw [r10]; exact x.1)), fun c => absurd rfl c⟩) (fun r hr h1 h2 => ⟨fun c => absurd c (by decide), fun _ => ?_⟩)
  have s0 : sI a0 = a0 := sIo v0.1 v0.2
  have hra : a0.toNat = r := by omega
  have bl : 0 ≤ M 4 r ∧ M 4 r ≤ 24 := BN.at hB.1 (rfl : zcd wR 4 = 54) rfl
  have bs : 0 ≤ M 6 r ∧ M 6 r ≤ 23 := BN.at hB.1 (rfl : zcd wR 6 = 56) rfl
  rw [s0, hra, r4]
  refine ⟨by omega, ?_⟩
  refine sR_in hB1 v1 (by omega) (by omega) (fun z p => ?_)
  obtain ⟨-, p, -⟩ := p
  refine ⟨fun c => ?_, fun c => no (fun x => by have y := x.2; rw [hra] at y; omega)⟩
  refine ⟨by omega, by omega, fun M2 e2 => ?_⟩
  have l2 : M2 4 r = M 4 r - a1 := by rw [e2, zup_s]
  have t2 : M2 6 r = M 6 r := by rw [e2, zup_n _ _ (by omega), r6]
  have b2 : BI M2 := by rw [e2]; exact BI.up4 hB1 (by omega) (by omega)
  have s4 : sI (M 4 r - a1) = M 4 r - a1 := sIo (by omega) (by omega)
  have s6 : sI (M 6 r) = M 6 r := sIo (by omega) (by omega)
  rw [l2, t2, s4, s6, Int.tmod_eq_emod_of_nonneg bs.1]
  refine ⟨by omega, by omega, by omega, by omega, fun M3 e3 => ?_⟩
  have em := emB (M 6 r) (M 4 r - a1) (by omega)
  have l3 : M3 4 r = M 4 r - a1 := by rw [e3, zup_n _ _ (by omega)]; exact l2
  rw [l3, s4]
  refine ⟨by omega, ?_⟩
  refine hQ _ _ ⟨by rw [e3]; exact BI.up b2 (rfl : zcd wR 6 = 56) rfl (by omega) (by omega) (by decide), fun j9 k9 h9 => by rw [e3, zup_n _ _ (by omega), e2, zup_n _ _ (by omega)]; exact hF1 j9 k9 h9, Or.inl ⟨⟨by omega, by rw [hra]; omega⟩, by rw [hra], fun k => ?_, fun k => ?_⟩⟩
  · rw [e3, zup_n _ _ (by omega), e2, hra]
    by_cases c5 : k = r
    · rw [c5, zup_s, if_pos rfl]
    · rw [zup_n _ _ (by omega), if_neg c5, r4]
  · rw [e3, hra]
    by_cases c5 : k = r
    · rw [c5, zup_s, if_pos rfl]
    · rw [zup_n _ _ (by omega), if_neg c5, e2, zup_n _ _ (by omega), r6]
theorem ri_cut {MC MR M8 M9 : zM} {a0 a1 z z9 : Int} (h : iRi MC MR) (p : (cCu (MC 32 2) (fun r => MC (41 + 4 * r + 1) 1) a0 a1 ∧ ∃ r n c : Nat, a0 = (r : Int) ∧ r < 4 ∧ MC (41 + 4 * r + 1) 1 = (n : Int) ∧ a1 = (c : Int) ∧ c < n ∧ z = ((n - c : Nat) : Int) ∧ (∀ p q : Nat, ¬ (p = 41 + 4 * r ∧ q = 2 ∨ p = 41 + 4 * r + 1 ∧ q = 1 ∨ p = 41 + 4 * r + 3 ∧ q < n - c) → M8 p q = MC p q) ∧ M8 (41 + 4 * r + 1) 1 = ((n - c : Nat) : Int) ∧ M8 (41 + 4 * r) 2 = MC (41 + 4 * r) 2 % ((n - c : Nat) : Int) ∧ (∀ a : Nat, a < n - c → M8 (41 + 4 * r + 3) a = orU (MC (41 + 4 * r) 3) (MC (41 + 4 * r + 2)) (n - c) a 24)) ∨ (¬ cCu (MC 32 2) (fun r => MC (41 + 4 * r + 1) 1) a0 a1 ∧ z = -1 ∧ M8 = MC)) (f9 : ∀ j9 k9 : Nat, ¬ (j9 = 0 ∧ k9 = 35 ∨ j9 = 4 ∨ j9 = 6) → M9 j9 k9 = MR j9 k9) (q : (cCu (MR 0 10) (MR 4) a0 a1 ∧ z9 = MR 4 a0.toNat - a1 ∧ (∀ k : Nat, M9 4 k = if k = a0.toNat then MR 4 a0.toNat - a1 else MR 4 k) ∧ (∀ k : Nat, M9 6 k = if k = a0.toNat then MR 6 a0.toNat % (MR 4 a0.toNat - a1) else MR 6 k)) ∨ (¬ cCu (MR 0 10) (MR 4) a0 a1 ∧ z9 = -1 ∧ M9 4 = MR 4 ∧ M9 6 = MR 6)) : z = z9 ∧ iRi M8 M9 := by
  have g1 := h.1
  have ec : cCu (MC 32 2) (fun r => MC (41 + 4 * r + 1) 1) a0 a1 ↔ cCu (MR 0 10) (MR 4) a0 a1 := by
    unfold cCu
    dsimp only
    rw [g1]
    constructor
    · rintro ⟨x, y⟩
      obtain ⟨n, -, -, b3, b4, -⟩ := h.2.2 a0.toNat (by omega)
      rw [b3] at y
      rw [b4]
      exact ⟨x, y⟩
    · rintro ⟨x, y⟩
      obtain ⟨n, -, -, b3, b4, -⟩ := h.2.2 a0.toNat (by omega)
      rw [b4] at y
      rw [b3]
      exact ⟨x, y⟩
  rw [← ec] at q
  rcases p with ⟨p1, r, m, c, hr, hr4, hm, hc, hcm, d1, d2, d3, d4, d5⟩ | ⟨p1, p2, p3⟩
  · rcases q with ⟨q1, e1, e2, e3⟩ | ⟨q1, -⟩
    · have ha := p1.1
      have hra : a0.toNat = r := by omega
      rw [hra] at e1 e2 e3
      obtain ⟨n, a1', a2', a3, a4, a5, a6, a7, a8, a9, a10, a11⟩ := h.2.2 r (by omega)
      have hmn : m = n := by omega
      subst hmn
      have el : MR 4 r - a1 = ((m - c : Nat) : Int) := by omega
      rw [el] at e1 e2 e3
      have em := emB (MR 6 r) ((m - c : Nat) : Int) (by omega)
      refine ⟨by rw [d1, e1], iRi_one (r0 := r) h (fun j hj => funext fun q => d2 j q (by omega)) (d2 32 2 (by omega)) (f9 0 10 (by omega)) (fun j k hj hk => ?_) (fun q _ => f9 3 q (by omega)) ?_⟩
      · by_cases c : j = 4
        · rw [c, e2, if_neg hk]
        · by_cases c2 : j = 6
          · rw [c2, e3, if_neg hk]
          · exact f9 j k (by omega)
      · refine ⟨m - c, by omega, by omega, d3, by rw [e2, if_pos rfl], by rw [d2 _ _ (by omega), f9 5 _ (by omega)]; exact a5, by rw [d4, e3, if_pos rfl, a6], by rw [e3, if_pos rfl]; exact em, by rw [d2 _ _ (by omega), f9 7 _ (by omega)]; exact a8, by rw [d2 _ _ (by omega), f9 8 _ (by omega)]; exact a9, fun k hk => by rw [d2 _ _ (by omega), f9 3 _ (by omega)]; exact a10 k (by omega), fun a ha => ?_⟩
        rw [d2 (41 + 4 * r) 3 (by omega), d5 a ha]
        exact orU_cg (by omega) (fun k hk => (d2 _ k (by omega)).symm) 24
    · exact absurd p1 q1
  · rcases q with ⟨q1, -⟩ | ⟨q1, q2, q3, q4⟩
    · exact absurd q1 p1
    · rw [p3]
      exact ⟨by omega, iRi_kept h (fun j _ => rfl) rfl (f9 0 10 (by omega)) (funext fun k => f9 3 k (by omega)) q3 (funext fun k => f9 5 k (by omega)) q4 (funext fun k => f9 7 k (by omega)) (funext fun k => f9 8 k (by omega))⟩
end zz47p_rhead
section zz47q_ring2
/-! rings: a new one, alike -/
def cRg (cnt n a0 a1 : Int) : Prop := (0 ≤ a0 ∧ a0 ≤ 1) ∧ (0 ≤ a1 ∧ a1 < n) ∧ cnt < 4
set_option maxHeartbeats 2000000 in
theorem fC_ring {M : zM} {a0 a1 : Int} (hB : BN wC M) (v0 : -2147483648 ≤ a0 ∧ a0 ≤ 2147483647) (v1 : -2147483648 ≤ a1 ∧ a1 ≤ 2147483647) {Q : Int → zM → Prop} (hQ : ∀ (z : Int) (M1 : zM), BN wC M1 ∧ (∀ j9 : Nat, ¬ (j9 = 32 ∨ 41 ≤ j9 ∧ j9 ≤ 56) → M1 j9 = M j9) ∧ ((cRg (M 32 2) (M 30 1) a0 a1 ∧ ∃ c n : Nat, M 32 2 = (c : Int) ∧ c < 4 ∧ M 30 1 = (n : Int) ∧ 1 ≤ n ∧ z = (c : Int) ∧ M1 32 2 = (c : Int) + 1 ∧ (∀ p q : Nat, ¬ (p = 32 ∧ q = 2 ∨ 41 + 4 * c ≤ p ∧ p ≤ 41 + 4 * c + 3) → M1 p q = M p q) ∧ M1 (41 + 4 * c) 1 = a0 ∧ M1 (41 + 4 * c) 2 = a1 ∧ M1 (41 + 4 * c) 3 = 1 ∧ M1 (41 + 4 * c) 4 = 0 ∧ M1 (41 + 4 * c + 1) 1 = (n : Int) ∧ (∀ k : Nat, k < 24 → M1 (41 + 4 * c + 2) k = M 31 k) ∧ (∀ a : Nat, a < n → M1 (41 + 4 * c + 3) a = orU 1 (M1 (41 + 4 * c + 2)) n a 24)) ∨ (¬ cRg (M 32 2) (M 30 1) a0 a1 ∧ z = -1 ∧ M1 = M)) → Q z M1) : wC_ring a0 a1 M Q := by
  unfold wC_ring
  have no : ¬ cRg (M 32 2) (M 30 1) a0 a1 → Q (-1) M := fun h => hQ _ _ ⟨hB, fun _ _ => rfl, Or.inr ⟨h, rfl, rfl⟩⟩
  have bn : 0 ≤ M 30 1 ∧ M 30 1 ≤ 24 := BN.at hB (rfl : zcd wC 30 = 6) rfl
  have bc : 0 ≤ M 32 2 ∧ M 32 2 ≤ 4 := BN.at hB (rfl : zcd wC 32 = 8) rfl
  refine sC_isMotor hB v0 (fun z p => ?_)
  obtain ⟨-, p, -⟩ := p
  refine ⟨fun d => no (fun x => by have := x.1; omega), fun d => ?_⟩
  refine sC_Strip_has hB (by decide) (rfl : zcd wC 30 = 6) v1 (fun z2 p2 => ?_)
  obtain ⟨-, p2, -⟩ := p2
  refine ⟨fun d2 => ?_, fun d2 => no (fun x => by have := x.2.1; omega)⟩
  unfold wC_Studio_add
  have sc : sI (M 32 2) = M 32 2 := sIo (by omega) (by omega)
  rw [sc]
  refine ⟨fun d3 => ⟨by omega, ?_⟩, fun d3 => no (fun x => by have := x.2.2; omega)⟩
  obtain ⟨c, hc⟩ : ∃ c : Nat, M 32 2 = (c : Int) := ⟨(M 32 2).toNat, by omega⟩
  obtain ⟨n, hn⟩ : ∃ n : Nat, M 30 1 = (n : Int) := ⟨(M 30 1).toNat, by omega⟩
  have tc : (M 32 2).toNat = c := by omega
  have c4 : c < 4 := by omega
  obtain ⟨g1, g2, g3, g4, g5, g6⟩ := rg_cd c c4
  rw [tc]
  unfold wC_Ring_begin
  refine fC_copy (x := (n, M 31)) hB g3 g4 (rfl : zcd wC 30 = 6) ⟨by omega, by omega, by omega⟩ ⟨hn, fun k _ => rfl⟩ (fun M9 h9 => ?_)
  obtain ⟨b9, f9, i9, r9⟩ := h9
  intro M10 e10 M12 e12 M14 e14 M16 e16
  have b10 : BN wC M10 := by rw [e10]; exact BN.up b9 g2 rfl (by omega) (by omega)
  have b12 : BN wC M12 := by rw [e12]; exact BN.up b10 g2 rfl (by omega) (by omega)
  have b14 : BN wC M14 := by rw [e14]; exact BN.up b12 g2 rfl (by omega) (by omega)
  have b16 : BN wC M16 := by rw [e16]; exact BN.up b14 g2 rfl (by omega) (by omega)
  have f16 : ∀ p q : Nat, ¬ (p = 41 + 4 * c ∧ 1 ≤ q ∧ q ≤ 4) → M16 p q = M9 p q := fun p q h => by rw [e16, zup_n _ _ (by omega), e14, zup_n _ _ (by omega), e12, zup_n _ _ (by omega), e10, zup_n _ _ (by omega)]
  have l16 : M16 (41 + 4 * c + 1) 1 = (n : Int) := (f16 _ _ (by omega)).trans i9.1
  refine fC_listen b16 c4 (by omega) l16 (fun M3 h3 => ?_)
  obtain ⟨b3, f3, h3⟩ := h3
  intro M4 e4
  have n3 : M3 32 2 = (c : Int) := by rw [f3 _ _ (by omega), f16 _ _ (by omega), f9 _ _ (by omega)]; exact hc
  have b4 : BN wC M4 := by rw [e4]; exact BN.up b3 (rfl : zcd wC 32 = 8) rfl (by omega) (by omega)
  have n4 : M4 32 2 = (c : Int) + 1 := by rw [e4, zup_s, n3]
  have sz : sI (M4 32 2 - 1) = (c : Int) := by rw [n4, sIo (by omega) (by omega)]; omega
  have f4 : ∀ p q : Nat, ¬ (p = 32 ∧ q = 2 ∨ p = 41 + 4 * c + 3) → M4 p q = M16 p q := fun p q h => by rw [e4, zup_n _ _ (by omega), f3 _ _ (by omega)]
  have fr : ∀ p q : Nat, ¬ (p = 32 ∧ q = 2 ∨ 41 + 4 * c ≤ p ∧ p ≤ 41 + 4 * c + 3) → M4 p q = M p q := fun p q h => by rw [f4 _ _ (by omega), f16 _ _ (by omega), f9 _ _ (by omega)]
  rw [sz]
  refine hQ _ _ ⟨b4, fun j9 h9 => funext fun q => fr j9 q (by omega), Or.inl ⟨⟨by omega, by omega, by omega⟩, c, n, hc, c4, hn, by omega, rfl, n4, fr, ?_, ?_, ?_, ?_, ?_, ?_, ?_⟩⟩
  · rw [f4 _ _ (by omega), e16, zup_n _ _ (by omega), e14, zup_n _ _ (by omega), e12, zup_n _ _ (by omega), e10, zup_s]
  · rw [f4 _ _ (by omega), e16, zup_n _ _ (by omega), e14, zup_n _ _ (by omega), e12, zup_s]
  · rw [f4 _ _ (by omega), e16, zup_n _ _ (by omega), e14, zup_s]
  · rw [f4 _ _ (by omega), e16, zup_s]
  · rw [f4 _ _ (by omega)]
    exact l16
  · intro k hk
    rw [f4 _ _ (by omega), f16 _ _ (by omega)]
    exact r9 k hk
  · intro a ha
    have e16' : M16 (41 + 4 * c) 3 = 1 := by rw [e16, zup_n _ _ (by omega), e14, zup_s]
    rw [e4, zup_n _ _ (by omega), h3 a ha, e16']
    exact orU_cg (by omega) (fun k _ => by rw [zup_n _ _ (by omega), f3 _ _ (by omega)]) 24
set_option maxHeartbeats 2000000 in
theorem fR_ring {M : zM} {a0 a1 : Int} (hB : BI M) (v0 : -2147483648 ≤ a0 ∧ a0 ≤ 2147483647) (v1 : -2147483648 ≤ a1 ∧ a1 ≤ 2147483647) {Q : Int → zM → Prop} (hQ : ∀ (z : Int) (M1 : zM), BI M1 ∧ (∀ j9 k9 : Nat, ¬ (j9 = 0 ∧ k9 = 35 ∨ j9 = 0 ∧ k9 = 10 ∨ j9 = 3 ∨ j9 = 4 ∨ j9 = 5 ∨ j9 = 6 ∨ j9 = 7 ∨ j9 = 8) → M1 j9 k9 = M j9 k9) ∧ ((cRg (M 0 10) (M 0 3) a0 a1 ∧ ∃ c n : Nat, M 0 10 = (c : Int) ∧ M 0 3 = (n : Int) ∧ z = (c : Int) ∧ M1 0 10 = (c : Int) + 1 ∧ (∀ j k : Nat, 4 ≤ j ∧ j ≤ 8 → k ≠ c → M1 j k = M j k) ∧ (∀ k : Nat, ¬ (24 * c ≤ k ∧ k < 24 * c + 24) → M1 3 k = M 3 k) ∧ M1 4 c = (n : Int) ∧ M1 5 c = a0 ∧ M1 6 c = a1 ∧ M1 7 c = 1 ∧ M1 8 c = 0 ∧ (∀ k : Nat, k < n → M1 3 (24 * c + k) = M 2 k)) ∨ (¬ cRg (M 0 10) (M 0 3) a0 a1 ∧ z = -1 ∧ ∀ j9 k9 : Nat, ¬ (j9 = 0 ∧ k9 = 35) → M1 j9 k9 = M j9 k9)) → Q z M1) : wR_ring a0 a1 M Q := by
  unfold wR_ring
  intro M1 e1
  have hB1 : BI M1 := by rw [e1]; exact BI.up0 hB (rfl : cbt 50 35 = (-2147483648, 2147483647)) (by omega) (by omega) (by decide)
  have F1 : ∀ j9 k9 : Nat, ¬ (j9 = 0 ∧ k9 = 35) → M1 j9 k9 = M j9 k9 := fun j9 k9 h9 => by rw [e1]; exact zup_n _ _ (by omega)
  have r3 : M1 0 3 = M 0 3 := F1 0 3 (by omega)
  have r10 : M1 0 10 = M 0 10 := F1 0 10 (by omega)
  have no : ¬ cRg (M 0 10) (M 0 3) a0 a1 → Q (-1) M1 := fun h => hQ _ _ ⟨hB1, fun j9 k9 h9 => F1 j9 k9 (by omega), Or.inr ⟨h, rfl, F1⟩⟩
  have b3 : 0 ≤ M 0 3 ∧ M 0 3 ≤ 24 := BN.at hB.1 (rfl : zcd wR 0 = 50) rfl
  have b10 : 0 ≤ M 0 10 ∧ M 0 10 ≤ 4 := BN.at hB.1 (rfl : zcd wR 0 = 50) rfl
  have s3 : sI (M 0 3) = M 0 3 := sIo (by omega) (by omega)
  have s10 : sI (M 0 10) = M 0 10 := sIo (by omega) (by omega)
  rw [r3, r10, s3, s10]
  refine ⟨fun d => no (fun x => by have := x.2.1; omega), fun d => ?_⟩
  refine sR_isMotor hB1 (by omega) (fun z5 h5 => ?_)
  obtain ⟨-, h5, -⟩ := h5
  refine ⟨fun e5 => no (fun x => by have := x.1; omega), fun e5 => ?_⟩
  refine sR_in hB1 (by omega) (by omega) (by omega) (fun z10 h10 => ?_)
  obtain ⟨-, h10, -⟩ := h10
  refine ⟨fun e10 => no (fun x => by have := x.2.1; omega), fun e10 => ⟨fun c4 => ⟨by omega, ?_⟩, fun c4 => no (fun x => by have := x.2.2; omega)⟩⟩
  have gg : cRg (M 0 10) (M 0 3) a0 a1 := ⟨by omega, by omega, by omega⟩
  have ga : 0 ≤ a0 ∧ a0 ≤ 1 := gg.1
  have gb : 0 ≤ a1 ∧ a1 < M 0 3 := gg.2.1
  have gc : M 0 10 < 4 := gg.2.2
  clear h5 h10 e5 e10 no d
  obtain ⟨c, hc⟩ : ∃ c : Nat, M 0 10 = (c : Int) := ⟨(M 0 10).toNat, by omega⟩
  obtain ⟨n, hn⟩ : ∃ n : Nat, M 0 3 = (n : Int) := ⟨(M 0 3).toNat, by omega⟩
  have tc : (M 0 10).toNat = c := by omega
  intro M16 e16
  rw [tc] at e16
  refine wL1_of (fun x P => BI P ∧ (∀ j k : Nat, ¬ (j = 0 ∧ k = 35 ∨ j = 3 ∧ 24 * c ≤ k ∧ k < 24 * c + 24 ∨ j = 4 ∧ k = c) → P j k = M j k) ∧ P 4 c = (n : Int) ∧ ∃ i : Nat, x = (i : Int) ∧ i ≤ n ∧ ∀ k : Nat, k < i → P 3 (24 * c + k) = M 2 k) (fun x _ => (1000 - x).toNat) ⟨by rw [e16]; exact BI.up4 hB1 (by omega) (by omega), fun j k h => by rw [e16, zup_n _ _ (by omega)]; exact F1 j k (by omega), by rw [e16, zup_s]; exact hn, 0, rfl, by omega, fun k h => absurd h (Nat.not_lt_zero k)⟩ (fun K x P hI hK => ?_)
  obtain ⟨hBP, FP, p4, i, rfl, i1, hv⟩ := hI
  have q10 : P 0 10 = (c : Int) := (FP 0 10 (by omega)).trans hc
  have q3 : P 0 3 = (n : Int) := (FP 0 3 (by omega)).trans hn
  have sc : sI (c : Int) = c := sIo (by omega) (by omega)
  have sn : sI (n : Int) = n := sIo (by omega) (by omega)
  have sx : sI (i : Int) = i := sIo (by omega) (by omega)
  have tcc : ((c : Int)).toNat = c := by omega
  have tx : ((i : Int)).toNat = i := by omega
  rw [q3, q10, sn, sc, sx, tcc, tx]
  refine ⟨fun c5 => ⟨by omega, ?_⟩, fun c5 => ?_⟩
  · intro M29 e29
    have hB29 : BI M29 := by rw [e29]; exact BI.up hBP (rfl : zcd wR 5 = 55) rfl (by omega) (by omega) (by decide)
    have r29 : M29 0 10 = (c : Int) := by rw [e29, zup_n _ _ (by omega)]; exact q10
    rw [r29, sc, tcc]
    refine ⟨by omega, ?_⟩
    intro M32 e32
    have hB32 : BI M32 := by rw [e32]; exact BI.up hB29 (rfl : zcd wR 6 = 56) rfl (by omega) (by omega) (by decide)
    have r32 : M32 0 10 = (c : Int) := by rw [e32, zup_n _ _ (by omega)]; exact r29
    rw [r32, sc, tcc]
    refine ⟨by omega, ?_⟩
    intro M35 e35
    have hB35 : BI M35 := by rw [e35]; exact BI.up hB32 (rfl : zcd wR 7 = 57) rfl (by omega) (by omega) (by decide)
    have r35 : M35 0 10 = (c : Int) := by rw [e35, zup_n _ _ (by omega)]; exact r32
    rw [r35, sc, tcc]
    refine ⟨by omega, ?_⟩
    intro M38 e38
    have hB38 : BI M38 := by rw [e38]; exact BI.up hB35 (rfl : zcd wR 8 = 58) rfl (by omega) (by omega) (by decide)
    have r38 : M38 0 10 = (c : Int) := by rw [e38, zup_n _ _ (by omega)]; exact r35
    have r4 : M38 4 c = (n : Int) := by rw [e38, zup_n _ _ (by omega), e35, zup_n _ _ (by omega), e32, zup_n _ _ (by omega), e29, zup_n _ _ (by omega)]; exact p4
    intro M40 e40
    have t38 : (M38 0 10).toNat = c := by omega
    have n40 : M40 0 10 = (c : Int) + 1 := by rw [e40, zup_s, r38]
    have sz : sI (M40 0 10 - 1) = (c : Int) := by rw [n40, sIo (by omega) (by omega)]; omega
    have g40 : ∀ j k : Nat, ¬ (j = 0 ∧ k = 10 ∨ 5 ≤ j ∧ j ≤ 8 ∧ k = c) → M40 j k = P j k := fun j k h => by rw [e40, zup_n _ _ (by omega), e38, zup_n _ _ (by omega), e35, zup_n _ _ (by omega), e32, zup_n _ _ (by omega), e29, zup_n _ _ (by omega)]
    rw [sz]
    refine hQ _ _ ⟨by rw [e40]; exact BI.upR hB38 rfl (by omega) (by rw [t38, r4]; omega), fun j9 k9 h9 => by rw [g40 _ _ (by omega)]; exact FP j9 k9 (by omega), Or.inl ⟨gg, c, n, hc, hn, rfl, n40, fun j k hj hk => by rw [g40 _ _ (by omega)]; exact FP j k (by omega), fun k hk => by rw [g40 _ _ (by omega)]; exact FP 3 k (by omega), by rw [g40 _ _ (by omega)]; exact p4, ?_, ?_, ?_, ?_, fun k hk => by rw [g40 _ _ (by omega)]; exact hv k (by omega)⟩⟩
    · rw [e40, zup_n _ _ (by omega), e38, zup_n _ _ (by omega), e35, zup_n _ _ (by omega), e32, zup_n _ _ (by omega), e29, zup_s]
    · rw [e40, zup_n _ _ (by omega), e38, zup_n _ _ (by omega), e35, zup_n _ _ (by omega), e32, zup_s]
    · rw [e40, zup_n _ _ (by omega), e38, zup_n _ _ (by omega), e35, zup_s]
    · rw [e40, zup_n _ _ (by omega), e38, zup_s]
  · have s6 : sI (24 * (c : Int) + (i : Int)) = 24 * (c : Int) + (i : Int) := sIo (by omega) (by omega)
    have t6 : (24 * (c : Int) + (i : Int)).toNat = 24 * c + i := by omega
    rw [s6, t6]
    refine ⟨by omega, by omega, ?_⟩
    intro M44 e44
    have br := BN.r32 hBP.1 2 i
    refine hK _ _ ⟨by rw [e44]; exact BI.up hBP (rfl : zcd wR 3 = 53) rfl br.1 br.2 (by decide), fun j k h => by rw [e44, zup_n _ _ (by omega)]; exact FP j k h, by rw [e44, zup_n _ _ (by omega)]; exact p4, i + 1, by omega, by omega, fun k hk => ?_⟩ (by omega)
    rw [e44]
    by_cases c5 : k = i
    · rw [c5, zup_s]
      exact FP 2 i (by omega)
    · rw [zup_n _ _ (by omega)]
      exact hv k (by omega)
theorem ri_ring {MC MR M8 M9 : zM} {a0 a1 z z9 : Int} (h : iRi MC MR) (ha : iHa MC MR) (hb : 0 ≤ MC 30 1 ∧ MC 30 1 ≤ 24) (p : (cRg (MC 32 2) (MC 30 1) a0 a1 ∧ ∃ c n : Nat, MC 32 2 = (c : Int) ∧ c < 4 ∧ MC 30 1 = (n : Int) ∧ 1 ≤ n ∧ z = (c : Int) ∧ M8 32 2 = (c : Int) + 1 ∧ (∀ p q : Nat, ¬ (p = 32 ∧ q = 2 ∨ 41 + 4 * c ≤ p ∧ p ≤ 41 + 4 * c + 3) → M8 p q = MC p q) ∧ M8 (41 + 4 * c) 1 = a0 ∧ M8 (41 + 4 * c) 2 = a1 ∧ M8 (41 + 4 * c) 3 = 1 ∧ M8 (41 + 4 * c) 4 = 0 ∧ M8 (41 + 4 * c + 1) 1 = (n : Int) ∧ (∀ k : Nat, k < 24 → M8 (41 + 4 * c + 2) k = MC 31 k) ∧ (∀ a : Nat, a < n → M8 (41 + 4 * c + 3) a = orU 1 (M8 (41 + 4 * c + 2)) n a 24)) ∨ (¬ cRg (MC 32 2) (MC 30 1) a0 a1 ∧ z = -1 ∧ M8 = MC)) (q : (cRg (MR 0 10) (MR 0 3) a0 a1 ∧ ∃ c n : Nat, MR 0 10 = (c : Int) ∧ MR 0 3 = (n : Int) ∧ z9 = (c : Int) ∧ M9 0 10 = (c : Int) + 1 ∧ (∀ j k : Nat, 4 ≤ j ∧ j ≤ 8 → k ≠ c → M9 j k = MR j k) ∧ (∀ k : Nat, ¬ (24 * c ≤ k ∧ k < 24 * c + 24) → M9 3 k = MR 3 k) ∧ M9 4 c = (n : Int) ∧ M9 5 c = a0 ∧ M9 6 c = a1 ∧ M9 7 c = 1 ∧ M9 8 c = 0 ∧ (∀ k : Nat, k < n → M9 3 (24 * c + k) = MR 2 k)) ∨ (¬ cRg (MR 0 10) (MR 0 3) a0 a1 ∧ z9 = -1 ∧ ∀ j9 k9 : Nat, ¬ (j9 = 0 ∧ k9 = 35) → M9 j9 k9 = MR j9 k9)) : z = z9 ∧ iRi M8 M9 := by
  obtain ⟨g1, g2, g3⟩ := id h
  obtain ⟨k1, k2⟩ := ha
  rw [← g1, ← k1] at q
  rcases p with ⟨p1, c, n, hc, c4, hn, n1, d1, d2, d3, d4, d5, d6, d7, d8, d9, d10⟩ | ⟨p1, p2, p3⟩
  · rcases q with ⟨q1, c', n', hc', hn', e1, e2, e3, e4, e5, e6, e7, e8, e9, e10⟩ | ⟨q1, -⟩
    · have ec : c' = c := by omega
      have en : n' = n := by omega
      subst ec
      subst en
      refine ⟨by omega, by omega, by omega, fun r hr => ?_⟩
      by_cases cr : r = c'
      · rw [cr]
        have b1 := p1.2.1
        refine ⟨n', n1, by omega, d8, e5, by rw [d4, e6], by rw [d5, e7], by rw [e7]; omega, by rw [d6, e8], by rw [d7, e9], fun k hk => ?_, fun a ha => ?_⟩
        · rw [d9 k (by omega), e10 k hk]
          exact k2 k (by omega)
        · rw [d6]
          exact d10 a ha
      · exact ri_cg (g3 r (by omega)) (fun j hj => funext fun q => d3 j q (by omega)) (e3 4 r (by omega) cr) (e3 5 r (by omega) cr) (e3 6 r (by omega) cr) (e3 7 r (by omega) cr) (e3 8 r (by omega) cr) (fun k hk => e4 _ (by omega))
    · exact absurd p1 q1
  · rcases q with ⟨q1, -⟩ | ⟨q1, q2, q3⟩
    · exact absurd q1 p1
    · rw [p3]
      exact ⟨by omega, iRi_kept h (fun j _ => rfl) rfl (q3 0 10 (by omega)) (funext fun k => q3 3 k (by omega)) (funext fun k => q3 4 k (by omega)) (funext fun k => q3 5 k (by omega)) (funext fun k => q3 6 k (by omega)) (funext fun k => q3 7 k (by omega)) (funext fun k => q3 8 k (by omega))⟩
end zz47q_ring2
section zz47r_over
/-! rings: laid over, alike -/
def ovV (w o h : Int) : Int := if w = 0 then h else orI o h
def ovN (w : Int) (S H : Nat → Int) (p : Nat) : Nat → Int
  | 0 => 0
  | i + 1 => ovN w S H p i + (if ovV w (S (p + i)) (H i) = S (p + i) then 0 else 1)
theorem ovN_b (w : Int) (S H : Nat → Int) (p : Nat) : ∀ i : Nat, 0 ≤ ovN w S H p i ∧ ovN w S H p i ≤ (i : Int)
  | 0 => ⟨by show (0 : Int) ≤ 0; omega, by show (0 : Int) ≤ ((0 : Nat) : Int); omega⟩
  | i + 1 => by
    have a := ovN_b w S H p i
    show 0 ≤ ovN w S H p i + (if ovV w (S (p + i)) (H i) = S (p + i) then 0 else 1) ∧ ovN w S H p i + (if ovV w (S (p + i)) (H i) = S (p + i) then 0 else 1) ≤ ((i + 1 : Nat) : Int)
    by_cases c : ovV w (S (p + i)) (H i) = S (p + i)
    · rw [if_pos c]
      omega
    · rw [if_neg c]
      omega
theorem ovN_cg {w : Int} {S H S2 H2 : Nat → Int} {p : Nat} : ∀ i : Nat, (∀ k : Nat, k < i → S (p + k) = S2 (p + k) ∧ H k = H2 k) → ovN w S H p i = ovN w S2 H2 p i
  | 0, _ => rfl
  | i + 1, h => by
    have a := ovN_cg (w := w) i (fun k hk => h k (by omega))
    have b := h i (by omega)
    show ovN w S H p i + (if ovV w (S (p + i)) (H i) = S (p + i) then 0 else 1) = ovN w S2 H2 p i + (if ovV w (S2 (p + i)) (H2 i) = S2 (p + i) then 0 else 1)
    rw [a, b.1, b.2]
theorem ovV_r {w o h : Int} (hh : -2147483648 ≤ h ∧ h ≤ 2147483647) : -2147483648 ≤ ovV w o h ∧ ovV w o h ≤ 2147483647 := by
  unfold ovV
  by_cases c : w = 0
  · rw [if_pos c]
    exact hh
  · rw [if_neg c]
    exact orI_R _ _
set_option maxHeartbeats 2000000 in
theorem fC_layOver {M : zM} {r n m p : Nat} {w : Int} (hB : BN wC M) (hr : r < 4) (hw : 0 ≤ w ∧ w ≤ 1) (hn : M (41 + 4 * r + 1) 1 = (n : Int)) (hm : M 30 1 = (m : Int)) (hp : p < n) {Q : Int → zM → Prop} (hQ : ∀ (z : Int) (M1 : zM), BN wC M1 ∧ (∃ i : Nat, i ≤ m ∧ p + i ≤ n ∧ (i = m ∨ p + i = n) ∧ z = ovN w (M (41 + 4 * r + 2)) (M 31) p i ∧ (∀ P q : Nat, ¬ (P = 41 + 4 * r + 2 ∧ p ≤ q ∧ q < p + i ∨ P = 41 + 4 * r + 3 ∧ q < n) → M1 P q = M P q) ∧ (∀ k : Nat, k < i → M1 (41 + 4 * r + 2) (p + k) = ovV w (M (41 + 4 * r + 2) (p + k)) (M 31 k)) ∧ (∀ a : Nat, a < n → M1 (41 + 4 * r + 3) a = orU (M (41 + 4 * r) 3) (M1 (41 + 4 * r + 2)) n a 24)) → Q z M1) : wC_Ring_layOver (41 + 4 * r) 30 (p : Int) w M Q := by
  unfold wC_Ring_layOver
  obtain ⟨g1, g2, g3, g4, g5, g6⟩ := rg_cd r hr
  have bn : 0 ≤ M (41 + 4 * r + 1) 1 ∧ M (41 + 4 * r + 1) 1 ≤ 24 := BN.at hB g3 rfl
  have bm : 0 ≤ M 30 1 ∧ M 30 1 ≤ 24 := BN.at hB (rfl : zcd wC 30 = 6) rfl
  have sw : sI w = w := sIo (by omega) (by omega)
  refine wL2_of (fun x y M2 => BN wC M2 ∧ ∃ i : Nat, y = (i : Int) ∧ i ≤ m ∧ p + i ≤ n ∧ x = ovN w (M (41 + 4 * r + 2)) (M 31) p i ∧ (∀ P q : Nat, ¬ (P = 41 + 4 * r + 2 ∧ p ≤ q ∧ q < p + i) → M2 P q = M P q) ∧ (∀ k : Nat, k < i → M2 (41 + 4 * r + 2) (p + k) = ovV w (M (41 + 4 * r + 2) (p + k)) (M 31 k))) (fun _ y _ => (1000 - y).toNat) ⟨hB, 0, rfl, by omega, by omega, rfl, fun _ _ _ => rfl, fun k h => absurd h (Nat.not_lt_zero k)⟩ (fun K x y M2 h k => ?_)
  obtain ⟨b2, i, rfl, i1, i2, rfl, f2, hv⟩ := h
  have m2 : M2 30 1 = (m : Int) := (f2 _ _ (by omega)).trans hm
  have n2 : M2 (41 + 4 * r + 1) 1 = (n : Int) := (f2 _ _ (by omega)).trans hn
  have sm : sI (m : Int) = m := sIo (by omega) (by omega)
  have si : sI (i : Int) = i := sIo (by omega) (by omega)
  have ti : ((i : Int)).toNat = i := by omega
  have ob := ovN_b w (M (41 + 4 * r + 2)) (M 31) p i
  have so : sI (ovN w (M (41 + 4 * r + 2)) (M 31) p i) = ovN w (M (41 + 4 * r + 2)) (M 31) p i := sIo (by omega) (by omega)
  have sp : sI ((p : Int) + (i : Int)) = (p : Int) + (i : Int) := sIo (by omega) (by omega)
  have tp : ((p : Int) + (i : Int)).toNat = p + i := by omega
  have fin : (i = m ∨ p + i = n) → wC_Ring_listen (41 + 4 * r) M2 (fun M20 => Q (ovN w (M (41 + 4 * r + 2)) (M 31) p i) M20) := fun he => by
    refine fC_listen b2 hr (by omega) n2 (fun M3 h3 => ?_)
    obtain ⟨b3, f3, h3⟩ := h3
    refine hQ _ _ ⟨b3, i, i1, i2, he, rfl, fun P q h => by rw [f3 _ _ (by omega)]; exact f2 _ _ (by omega), fun k hk => by rw [f3 _ _ (by omega)]; exact hv k hk, fun a ha => ?_⟩
    rw [h3 a ha, f2 (41 + 4 * r) 3 (by omega)]
    exact orU_cg (by omega) (fun k _ => (f3 _ _ (by omega)).symm) 24
  rw [m2, sm, si, so, sp, ti, tp, sw]
  refine ⟨fun c => fin (by omega), fun c => ?_⟩
  refine sC_Strip_has b2 (by have e1 : nC = 134 := rfl; omega) g3 (by omega) (fun z q => ?_)
  obtain ⟨-, q, -⟩ := q
  rw [n2] at q
  refine ⟨fun d => fin (by omega), fun d => ⟨by omega, ?_⟩⟩
  have e31 : M2 (30 + 1) i = M 31 i := f2 31 i (by omega)
  have e43 : M2 (41 + 4 * r + 2) (p + i) = M (41 + 4 * r + 2) (p + i) := f2 _ _ (by omega)
  have r31 := BN.r32 hB 31 i
  have r43 := BN.r32 hB (41 + 4 * r + 2) (p + i)
  rw [e31, e43]
  refine pJ1_of (fun x => x = ovV w (M (41 + 4 * r + 2) (p + i)) (M 31 i)) (fun x hx => ?_) ⟨fun d2 => ⟨by omega, by unfold ovV; rw [if_pos d2]⟩, fun d2 => ⟨by omega, by unfold ovV; rw [if_neg d2]⟩⟩
  have rx := ovV_r (w := w) (o := M (41 + 4 * r + 2) (p + i)) r31
  rw [← hx] at rx
  rw [sIo rx.1 rx.2, sIo r43.1 r43.2]
  refine ⟨by omega, fun M3 e3 => ?_⟩
  have b3 : BN wC M3 := by rw [e3]; exact BN.up b2 g4 rfl rx.1 rx.2
  have f3 : ∀ P q : Nat, ¬ (P = 41 + 4 * r + 2 ∧ p ≤ q ∧ q < p + (i + 1)) → M3 P q = M P q := fun P q h => by rw [e3, zup_n _ _ (by omega)]; exact f2 _ _ (by omega)
  have v3 : ∀ k : Nat, k < i + 1 → M3 (41 + 4 * r + 2) (p + k) = ovV w (M (41 + 4 * r + 2) (p + k)) (M 31 k) := fun k hk => by
    rw [e3]
    by_cases c5 : k = i
    · rw [c5, zup_s, hx]
    · rw [zup_n _ _ (by omega)]
      exact hv k (by omega)
  refine ⟨fun d2 => k _ _ _ ⟨b3, i + 1, by omega, by omega, by omega, ?_, f3, v3⟩ (by omega), fun d2 => k _ _ _ ⟨b3, i + 1, by omega, by omega, by omega, ?_, f3, v3⟩ (by omega)⟩
  · show _ = ovN w (M (41 + 4 * r + 2)) (M 31) p i + (if ovV w (M (41 + 4 * r + 2) (p + i)) (M 31 i) = M (41 + 4 * r + 2) (p + i) then 0 else 1)
    rw [if_neg (by rw [← hx]; exact d2)]
  · show _ = ovN w (M (41 + 4 * r + 2)) (M 31) p i + (if ovV w (M (41 + 4 * r + 2) (p + i)) (M 31 i) = M (41 + 4 * r + 2) (p + i) then 0 else 1)
    rw [if_pos (by rw [← hx]; exact d2)]
def cOv (cnt m : Int) (len : Nat → Int) (a0 a1 a2 : Int) : Prop := (0 ≤ a0 ∧ a0 < cnt) ∧ (0 ≤ a1 ∧ a1 < len a0.toNat) ∧ (0 ≤ a2 ∧ a2 ≤ 1) ∧ m ≠ 0
theorem fC_over {M : zM} {a0 a1 a2 : Int} (hB : BN wC M) (v0 : -2147483648 ≤ a0 ∧ a0 ≤ 2147483647) (v1 : -2147483648 ≤ a1 ∧ a1 ≤ 2147483647) (v2 : -2147483648 ≤ a2 ∧ a2 ≤ 2147483647) {Q : Int → zM → Prop} (hQ : ∀ (z : Int) (M1 : zM), BN wC M1 ∧ (∀ j9 : Nat, ¬ (41 ≤ j9 ∧ j9 ≤ 56) → M1 j9 = M j9) ∧ ((cOv (M 32 2) (M 30 1) (fun r => M (41 + 4 * r + 1) 1) a0 a1 a2 ∧ ∃ r n m p i : Nat, a0 = (r : Int) ∧ r < 4 ∧ M (41 + 4 * r + 1) 1 = (n : Int) ∧ M 30 1 = (m : Int) ∧ a1 = (p : Int) ∧ p < n ∧ i ≤ m ∧ p + i ≤ n ∧ (i = m ∨ p + i = n) ∧ z = ovN a2 (M (41 + 4 * r + 2)) (M 31) p i ∧ (∀ P q : Nat, ¬ (P = 41 + 4 * r + 2 ∧ p ≤ q ∧ q < p + i ∨ P = 41 + 4 * r + 3 ∧ q < n) → M1 P q = M P q) ∧ (∀ k : Nat, k < i → M1 (41 + 4 * r + 2) (p + k) = ovV a2 (M (41 + 4 * r + 2) (p + k)) (M 31 k)) ∧ (∀ a : Nat, a < n → M1 (41 + 4 * r + 3) a = orU (M (41 + 4 * r) 3) (M1 (41 + 4 * r + 2)) n a 24)) ∨ (¬ cOv (M 32 2) (M 30 1) (fun r => M (41 + 4 * r + 1) 1) a0 a1 a2 ∧ z = -1 ∧ M1 = M)) → Q z M1) : wC_over a0 a1 a2 M Q := by
  unfold wC_over
  have no : ¬ cOv (M 32 2) (M 30 1) (fun r => M (41 + 4 * r + 1) 1) a0 a1 a2 → Q (-1) M := fun h => hQ _ _ ⟨hB, fun _ _ => rfl, Or.inr ⟨h, rfl, rfl⟩⟩
  refine fC_find hB v0 (fun h => ⟨fun _ => no (fun x => h x.1), fun q h => nomatch h⟩) (fun r hr h1 h2 => ⟨(fun h => nomatch h), fun q hq => ?_⟩)
  obtain rfl := Option.some.inj hq
  obtain ⟨c1, c2, c3, c4, c5, -⟩ := rg_cd r h2
  have hra : a0.toNat = r := by omega
  have bl : 0 ≤ M (41 + 4 * r + 1) 1 ∧ M (41 + 4 * r + 1) 1 ≤ 24 := BN.at hB c3 rfl
  have bm : 0 ≤ M 30 1 ∧ M 30 1 ≤ 24 := BN.at hB (rfl : zcd wC 30 = 6) rfl
  refine ⟨⟨c1, c2⟩, ?_⟩
  have un : cOv (M 32 2) (M 30 1) (fun r => M (41 + 4 * r + 1) 1) a0 a1 a2 → (0 ≤ a1 ∧ a1 < M (41 + 4 * r + 1) 1) ∧ (0 ≤ a2 ∧ a2 ≤ 1) ∧ M 30 1 ≠ 0 := fun x => by
    have y := x.2
    rw [hra] at y
    exact y
  refine sC_Strip_has hB (by have e1 : nC = 134 := rfl; omega) c3 v1 (fun z p => ?_)
  obtain ⟨-, p, -⟩ := p
  refine ⟨fun d => no (fun x => by have := (un x).1; omega), fun d => ?_⟩
  refine sC_within hB v2 (by omega) (by omega) (fun z2 p2 => ?_)
  obtain ⟨-, p2, -⟩ := p2
  refine ⟨fun d2 => no (fun x => by have := (un x).2.1; omega), fun d2 => ?_⟩
  have sm : sI (M 30 1) = M 30 1 := sIo (by omega) (by omega)
  have s2 : sI a2 = a2 := sIo v2.1 v2.2
  rw [sm, s2]
  refine ⟨fun d3 => ?_, fun d3 => no (fun x => (un x).2.2 d3)⟩
  have ok : cOv (M 32 2) (M 30 1) (fun r => M (41 + 4 * r + 1) 1) a0 a1 a2 := ⟨by omega, by rw [hra]; exact ⟨by omega, by show a1 < M (41 + 4 * r + 1) 1; omega⟩, by omega, d3⟩
  have go : wC_Ring_layOver (41 + 4 * r) 30 a1 a2 M (fun z26 M25 => Q z26 M25) := by
    have ea : a1 = ((a1.toNat : Nat) : Int) := by omega
    rw [ea]
    refine fC_layOver (n := (M (41 + 4 * r + 1) 1).toNat) (m := (M 30 1).toNat) hB h2 (by omega) (by omega) (by omega) (by omega) (fun z9 M1 h => ?_)
    obtain ⟨b1, i, i1, i2, i3, i4, i5, i6, i7⟩ := h
    exact hQ _ _ ⟨b1, fun j9 h9 => funext fun q => i5 j9 q (by omega), Or.inl ⟨ok, r, (M (41 + 4 * r + 1) 1).toNat, (M 30 1).toNat, a1.toNat, i, hr, h2, by omega, by omega, ea, by omega, i1, i2, i3, i4, i5, i6, i7⟩⟩
  refine ⟨fun d4 => ?_, fun d4 => ?_⟩
  · rw [show a2 = 0 by omega] at go
    exact go
  · rw [show a2 = 1 by omega] at go
    exact go
set_option maxHeartbeats 2000000 in
theorem fR_over {M : zM} {a0 a1 a2 : Int} (hB : BI M) (v0 : -2147483648 ≤ a0 ∧ a0 ≤ 2147483647) (v1 : -2147483648 ≤ a1 ∧ a1 ≤ 2147483647) (v2 : -2147483648 ≤ a2 ∧ a2 ≤ 2147483647) {Q : Int → zM → Prop} (hQ : ∀ (z : Int) (M1 : zM), BI M1 ∧ (∀ j9 k9 : Nat, ¬ (j9 = 0 ∧ k9 = 35 ∨ j9 = 3) → M1 j9 k9 = M j9 k9) ∧ ((cOv (M 0 10) (M 0 3) (M 4) a0 a1 a2 ∧ ∃ r n m p i : Nat, a0 = (r : Int) ∧ M 4 r = (n : Int) ∧ M 0 3 = (m : Int) ∧ a1 = (p : Int) ∧ i ≤ m ∧ p + i ≤ n ∧ (i = m ∨ p + i = n) ∧ z = ovN a2 (fun k => M 3 (24 * r + k)) (M 2) p i ∧ (∀ q : Nat, ¬ (24 * r + p ≤ q ∧ q < 24 * r + p + i) → M1 3 q = M 3 q) ∧ (∀ k : Nat, k < i → M1 3 (24 * r + (p + k)) = ovV a2 (M 3 (24 * r + (p + k))) (M 2 k))) ∨ (¬ cOv (M 0 10) (M 0 3) (M 4) a0 a1 a2 ∧ z = -1 ∧ M1 3 = M 3)) → Q z M1) : wR_over a0 a1 a2 M Q := by
  unfold wR_over
  intro M1 e1
  have hB1 : BI M1 := by rw [e1]; exact BI.up0 hB rfl (by omega) (by omega) (by decide)
  have hF1 : ∀ j9 k9 : Nat, ¬ (j9 = 0 ∧ k9 = 35) → M1 j9 k9 = M j9 k9 := fun j9 k9 h9 => by rw [e1]; exact zup_n _ _ (by omega)
  have r10 : M1 0 10 = M 0 10 := hF1 0 10 (by omega)
  have r03 : M1 0 3 = M 0 3 := hF1 0 3 (by omega)
  have r4 : M1 4 = M 4 := funext fun k => hF1 4 k (by omega)
  have r3 : M1 3 = M 3 := funext fun k => hF1 3 k (by omega)
  have no : ¬ cOv (M 0 10) (M 0 3) (M 4) a0 a1 a2 → Q (-1) M1 := fun h => hQ _ _ ⟨hB1, fun j9 k9 h9 => hF1 j9 k9 (by omega), Or.inr ⟨h, rfl, r3⟩⟩
  refine fR_isRing hB1 v0 (fun h => ⟨fun _ => no (fun x => h (by rw [r10]; exact x.1)), fun c => absurd rfl c⟩) (fun r hr h1 h2 => ⟨fun c => absurd c (by decide), fun _ => ?_⟩)
  have s0 : sI a0 = a0 := sIo v0.1 v0.2
  have s2 : sI a2 = a2 := sIo v2.1 v2.2
  have hra : a0.toNat = r := by omega
  have bl : 0 ≤ M 4 r ∧ M 4 r ≤ 24 := BN.at hB.1 (rfl : zcd wR 4 = 54) rfl
  have bm : 0 ≤ M 0 3 ∧ M 0 3 ≤ 24 := BN.at hB.1 (rfl : zcd wR 0 = 50) rfl
  have un : cOv (M 0 10) (M 0 3) (M 4) a0 a1 a2 → (0 ≤ a1 ∧ a1 < M 4 r) ∧ (0 ≤ a2 ∧ a2 ≤ 1) ∧ M 0 3 ≠ 0 := fun x => by
    have y := x.2
    rw [hra] at y
    exact y
  have sm : sI (M 0 3) = M 0 3 := sIo (by omega) (by omega)
  rw [s0, s2, hra, r4, r03, sm]
  refine ⟨by omega, ?_⟩
  refine sR_in hB1 v1 (by omega) (by omega) (fun z p => ?_)
  obtain ⟨-, p, -⟩ := p
  refine ⟨fun c => no (fun x => by have := (un x).1; omega), fun c => ?_⟩
  refine sR_in hB1 v2 (by omega) (by omega) (fun z2 p2 => ?_)
  obtain ⟨-, p2, -⟩ := p2
  refine ⟨fun c2 => no (fun x => by have := (un x).2.1; omega), fun c2 => ⟨fun c3 => ?_, fun c3 => no (fun x => (un x).2.2 c3)⟩⟩
  have ok : cOv (M 0 10) (M 0 3) (M 4) a0 a1 a2 := ⟨by omega, by rw [hra]; omega, by omega, c3⟩
  obtain ⟨n, hn⟩ : ∃ n : Nat, M 4 r = (n : Int) := ⟨(M 4 r).toNat, by omega⟩
  obtain ⟨m, hm⟩ : ∃ m : Nat, M 0 3 = (m : Int) := ⟨(M 0 3).toNat, by omega⟩
  obtain ⟨q, hq⟩ : ∃ q : Nat, a1 = (q : Int) := ⟨a1.toNat, by omega⟩
  refine wL2_of (fun x y M2 => BI M2 ∧ (∀ j k : Nat, ¬ (j = 0 ∧ k = 35 ∨ j = 3) → M2 j k = M j k) ∧ ∃ i : Nat, y = (i : Int) ∧ i ≤ m ∧ q + i ≤ n ∧ x = ovN a2 (fun k => M 3 (24 * r + k)) (M 2) q i ∧ (∀ k : Nat, ¬ (24 * r + q ≤ k ∧ k < 24 * r + q + i) → M2 3 k = M 3 k) ∧ (∀ k : Nat, k < i → M2 3 (24 * r + (q + k)) = ovV a2 (M 3 (24 * r + (q + k))) (M 2 k))) (fun _ y _ => (1000 - y).toNat) ⟨hB1, fun j k h => hF1 j k (by omega), 0, rfl, by omega, by omega, rfl, fun k _ => hF1 3 k (by omega), fun k h => absurd h (Nat.not_lt_zero k)⟩ (fun K x y M2 h k => ?_)
  obtain ⟨b2, f2, i, rfl, i1, i2, rfl, g2, hv⟩ := h
  have m2 : M2 0 3 = (m : Int) := (f2 _ _ (by omega)).trans hm
  have n2 : M2 4 r = (n : Int) := (f2 _ _ (by omega)).trans hn
  have snm : sI (m : Int) = m := sIo (by omega) (by omega)
  have snn : sI (n : Int) = n := sIo (by omega) (by omega)
  have si : sI (i : Int) = i := sIo (by omega) (by omega)
  have ti : ((i : Int)).toNat = i := by omega
  have ob := ovN_b a2 (fun k => M 3 (24 * r + k)) (M 2) q i
  have so : sI (ovN a2 (fun k => M 3 (24 * r + k)) (M 2) q i) = ovN a2 (fun k => M 3 (24 * r + k)) (M 2) q i := sIo (by omega) (by omega)
  have sp : sI (a1 + (i : Int)) = (q : Int) + (i : Int) := by rw [hq]; exact sIo (by omega) (by omega)
  have sq : sI (24 * a0 + a1 + (i : Int)) = 24 * (r : Int) + (q : Int) + (i : Int) := by rw [hr, hq]; exact sIo (by omega) (by omega)
  have tq : (24 * (r : Int) + (q : Int) + (i : Int)).toNat = 24 * r + (q + i) := by omega
  have fin : (i = m ∨ q + i = n) → Q (ovN a2 (fun k => M 3 (24 * r + k)) (M 2) q i) M2 := fun he => hQ _ _ ⟨b2, f2, Or.inl ⟨ok, r, n, m, q, i, hr, hn, hm, hq, i1, i2, he, rfl, g2, hv⟩⟩
  rw [m2, n2, snm, snn, si, so, sp, sq, ti, tq]
  refine ⟨fun c4 => fin (by omega), fun c4 => ⟨by omega, fun c5 => fin (by omega), fun c5 => ?_⟩⟩
  have e2 : M2 2 i = M 2 i := f2 2 i (by omega)
  have e3 : M2 3 (24 * r + (q + i)) = M 3 (24 * r + (q + i)) := g2 _ (by omega)
  have r2' := BN.r32 hB.1 2 i
  have r3' := BN.r32 hB.1 3 (24 * r + (q + i))
  rw [e2, e3]
  refine pJ1_of (fun x => x = ovV a2 (M 3 (24 * r + (q + i))) (M 2 i)) (fun x hx => ?_) ⟨fun d2 => ⟨by omega, by omega, by unfold ovV; rw [if_neg d2]⟩, fun d2 => ⟨by omega, by unfold ovV; rw [if_pos d2]⟩⟩
  have rx := ovV_r (w := a2) (o := M 3 (24 * r + (q + i))) r2'
  rw [← hx] at rx
  rw [sIo rx.1 rx.2, sIo r3'.1 r3'.2]
  have up : ∀ M3 : zM, M3 = zup M2 3 (24 * r + (q + i)) x → BI M3 ∧ (∀ j k : Nat, ¬ (j = 0 ∧ k = 35 ∨ j = 3) → M3 j k = M j k) ∧ (∀ k : Nat, ¬ (24 * r + q ≤ k ∧ k < 24 * r + q + (i + 1)) → M3 3 k = M 3 k) ∧ (∀ k : Nat, k < i + 1 → M3 3 (24 * r + (q + k)) = ovV a2 (M 3 (24 * r + (q + k))) (M 2 k)) := fun M3 e => by
    refine ⟨by rw [e]; exact BI.up b2 (rfl : zcd wR 3 = 53) rfl rx.1 rx.2 (by decide), fun j k h => by rw [e, zup_n _ _ (by omega)]; exact f2 j k h, fun k h => by rw [e, zup_n _ _ (by omega)]; exact g2 k (by omega), fun k hk => ?_⟩
    rw [e]
    by_cases c6 : k = i
    · rw [c6, zup_s, hx]
    · rw [zup_n _ _ (by omega)]
      exact hv k (by omega)
  refine ⟨by omega, fun d2 => ⟨by omega, fun M3 e3' => ?_⟩, fun d2 => ⟨by omega, fun M3 e3' => ?_⟩⟩
  · obtain ⟨u1, u2, u3, u4⟩ := up M3 e3'
    refine k _ _ _ ⟨u1, u2, i + 1, by omega, by omega, by omega, ?_, u3, u4⟩ (by omega)
    show _ = ovN a2 (fun k => M 3 (24 * r + k)) (M 2) q i + (if ovV a2 (M 3 (24 * r + (q + i))) (M 2 i) = M 3 (24 * r + (q + i)) then 0 else 1)
    rw [if_pos (by rw [← hx]; exact d2), Int.add_zero]
  · obtain ⟨u1, u2, u3, u4⟩ := up M3 e3'
    refine k _ _ _ ⟨u1, u2, i + 1, by omega, by omega, by omega, ?_, u3, u4⟩ (by omega)
    show _ = ovN a2 (fun k => M 3 (24 * r + k)) (M 2) q i + (if ovV a2 (M 3 (24 * r + (q + i))) (M 2 i) = M 3 (24 * r + (q + i)) then 0 else 1)
    rw [if_neg (by rw [← hx]; exact d2)]
theorem ri_over {MC MR M8 M9 : zM} {a0 a1 a2 z z9 : Int} (h : iRi MC MR) (hH : iHa MC MR) (p : (cOv (MC 32 2) (MC 30 1) (fun r => MC (41 + 4 * r + 1) 1) a0 a1 a2 ∧ ∃ r n m p i : Nat, a0 = (r : Int) ∧ r < 4 ∧ MC (41 + 4 * r + 1) 1 = (n : Int) ∧ MC 30 1 = (m : Int) ∧ a1 = (p : Int) ∧ p < n ∧ i ≤ m ∧ p + i ≤ n ∧ (i = m ∨ p + i = n) ∧ z = ovN a2 (MC (41 + 4 * r + 2)) (MC 31) p i ∧ (∀ P q : Nat, ¬ (P = 41 + 4 * r + 2 ∧ p ≤ q ∧ q < p + i ∨ P = 41 + 4 * r + 3 ∧ q < n) → M8 P q = MC P q) ∧ (∀ k : Nat, k < i → M8 (41 + 4 * r + 2) (p + k) = ovV a2 (MC (41 + 4 * r + 2) (p + k)) (MC 31 k)) ∧ (∀ a : Nat, a < n → M8 (41 + 4 * r + 3) a = orU (MC (41 + 4 * r) 3) (M8 (41 + 4 * r + 2)) n a 24)) ∨ (¬ cOv (MC 32 2) (MC 30 1) (fun r => MC (41 + 4 * r + 1) 1) a0 a1 a2 ∧ z = -1 ∧ M8 = MC)) (f9 : ∀ j9 k9 : Nat, ¬ (j9 = 0 ∧ k9 = 35 ∨ j9 = 3) → M9 j9 k9 = MR j9 k9) (q : (cOv (MR 0 10) (MR 0 3) (MR 4) a0 a1 a2 ∧ ∃ r n m p i : Nat, a0 = (r : Int) ∧ MR 4 r = (n : Int) ∧ MR 0 3 = (m : Int) ∧ a1 = (p : Int) ∧ i ≤ m ∧ p + i ≤ n ∧ (i = m ∨ p + i = n) ∧ z9 = ovN a2 (fun k => MR 3 (24 * r + k)) (MR 2) p i ∧ (∀ q : Nat, ¬ (24 * r + p ≤ q ∧ q < 24 * r + p + i) → M9 3 q = MR 3 q) ∧ (∀ k : Nat, k < i → M9 3 (24 * r + (p + k)) = ovV a2 (MR 3 (24 * r + (p + k))) (MR 2 k))) ∨ (¬ cOv (MR 0 10) (MR 0 3) (MR 4) a0 a1 a2 ∧ z9 = -1 ∧ M9 3 = MR 3)) : z = z9 ∧ iRi M8 M9 := by
  have g1 := h.1
  have k1 := hH.1
  have ec : cOv (MC 32 2) (MC 30 1) (fun r => MC (41 + 4 * r + 1) 1) a0 a1 a2 ↔ cOv (MR 0 10) (MR 0 3) (MR 4) a0 a1 a2 := by
    unfold cOv
    dsimp only
    rw [g1, k1]
    constructor
    · rintro ⟨x, y⟩
      obtain ⟨n, -, -, b3, b4, -⟩ := h.2.2 a0.toNat (by omega)
      rw [b3] at y
      rw [b4]
      exact ⟨x, y⟩
    · rintro ⟨x, y⟩
      obtain ⟨n, -, -, b3, b4, -⟩ := h.2.2 a0.toNat (by omega)
      rw [b4] at y
      rw [b3]
      exact ⟨x, y⟩
  rw [← ec] at q
  rcases p with ⟨p1, r, n, m, s, i, hr, hr4, hn, hm, hs, hsn, i1, i2, i3, d1, d2, d3, d4⟩ | ⟨p1, p2, p3⟩
  · rcases q with ⟨q1, r', n', m', s', i', hr', hn', hm', hs', j1, j2, j3, e1, e2, e3⟩ | ⟨q1, -⟩
    · have ha := p1.1
      have er : r' = r := by omega
      subst er
      obtain ⟨l, a1', a2', a3, a4, a5, a6, a7, a8, a9, a10, a11⟩ := h.2.2 r' (by omega)
      have es : s' = s := by omega
      have ei : i' = i := by omega
      have el : l = n := by omega
      subst es
      subst ei
      subst el
      have hand : ∀ k : Nat, k < i' → MC 31 k = MR 2 k := fun k hk => hH.2 k (by omega)
      refine ⟨?_, iRi_one (r0 := r') h (fun j hj => funext fun q => d2 j q (by omega)) (d2 32 2 (by omega)) (f9 0 10 (by omega)) (fun j k hj hk => f9 j k (by omega)) (fun q hq => e2 q (by omega)) ?_⟩
      · rw [d1, e1]
        exact ovN_cg i' (fun k hk => ⟨a10 _ (by omega), hand k hk⟩)
      · refine ⟨l, a1', a2', by rw [d2 _ _ (by omega)]; exact a3, (f9 4 _ (by omega)).trans a4, by rw [d2 _ _ (by omega), f9 5 _ (by omega)]; exact a5, by rw [d2 _ _ (by omega), f9 6 _ (by omega)]; exact a6, by rw [f9 6 _ (by omega)]; exact a7, by rw [d2 _ _ (by omega), f9 7 _ (by omega)]; exact a8, by rw [d2 _ _ (by omega), f9 8 _ (by omega)]; exact a9, fun k hk => ?_, fun a ha => by rw [d2 (41 + 4 * r') 3 (by omega)]; exact d4 a ha⟩
        by_cases c : s' ≤ k ∧ k < s' + i'
        · have x := d3 (k - s') (by omega)
          have y := e3 (k - s') (by omega)
          rw [show s' + (k - s') = k by omega] at x y
          rw [x, y, a10 k hk, hand _ (by omega)]
        · rw [d2 _ _ (by omega), e2 _ (by omega)]
          exact a10 k hk
    · exact absurd p1 q1
  · rcases q with ⟨q1, -⟩ | ⟨q1, q2, q3⟩
    · exact absurd q1 p1
    · rw [p3]
      exact ⟨by omega, iRi_kept h (fun j _ => rfl) rfl (f9 0 10 (by omega)) q3 (funext fun k => f9 4 k (by omega)) (funext fun k => f9 5 k (by omega)) (funext fun k => f9 6 k (by omega)) (funext fun k => f9 7 k (by omega)) (funext fun k => f9 8 k (by omega))⟩
end zz47r_over
section zz47s_vers
/-! versions, alike -/
def iVe (MC MR : zM) : Prop := MC 96 0 = MR 0 32 ∧ MC 96 0 ≤ 16 ∧ ∀ v : Nat, (v : Int) < MC 96 0 → MC 98 v = MR 20 v ∧ MC 99 v = MR 21 v ∧ ∃ n : Nat, 1 ≤ n ∧ n ≤ 24 ∧ MC (101 + 2 * v) 1 = (n : Int) ∧ MR 19 v = (n : Int) ∧ ∀ k : Nat, k < n → MC (101 + 2 * v + 1) k = MR 18 (24 * v + k)
theorem iVe_kept {MC MR M8 M9 : zM} (h : iVe MC MR) (hC : ∀ j : Nat, 98 ≤ j ∧ j ≤ 132 ∧ j ≠ 100 → M8 j = MC j) (h0 : M8 96 0 = MC 96 0) (h1 : M9 0 32 = MR 0 32) (h18 : M9 18 = MR 18) (h19 : M9 19 = MR 19) (h20 : M9 20 = MR 20) (h21 : M9 21 = MR 21) : iVe M8 M9 := by
  obtain ⟨g1, g2, g3⟩ := h
  refine ⟨by rw [h0, h1]; exact g1, by rw [h0]; exact g2, fun v hv => ?_⟩
  rw [h0] at hv
  obtain ⟨a1, a2, n, a3, a4, a5, a6, a7⟩ := g3 v hv
  rw [hC 98 (by omega), hC 99 (by omega), hC (101 + 2 * v) (by omega), hC (101 + 2 * v + 1) (by omega), h18, h19, h20, h21]
  exact ⟨a1, a2, n, a3, a4, a5, a6, a7⟩
theorem ve_cd (v : Nat) (h : v < 16) : 101 + 2 * v < nC ∧ zcd wC (101 + 2 * v) = 6 ∧ zcd wC (101 + 2 * v + 1) = 7 := (by decide : ∀ v : Nat, v < 16 → 101 + 2 * v < nC ∧ zcd wC (101 + 2 * v) = 6 ∧ zcd wC (101 + 2 * v + 1) = 7) v h
def cKe (cnt vs day0 a0 a1 : Int) : Prop := (0 ≤ a0 ∧ a0 < cnt) ∧ (0 ≤ a1 ∧ a1 ≤ 999) ∧ vs < 16 ∧ (0 < vs → day0 ≤ a1)
set_option maxHeartbeats 2000000 in
theorem fC_keep {M : zM} {a0 a1 : Int} (hB : BN wC M) (v0 : -2147483648 ≤ a0 ∧ a0 ≤ 2147483647) (v1 : -2147483648 ≤ a1 ∧ a1 ≤ 2147483647) {Q : Int → zM → Prop} (hQ : ∀ (z : Int) (M1 : zM), BN wC M1 ∧ (∀ j9 : Nat, ¬ (j9 = 96 ∨ 98 ≤ j9 ∧ j9 ≤ 132 ∧ j9 ≠ 100) → M1 j9 = M j9) ∧ ((cKe (M 32 2) (M 96 0) (M 99 (M 96 0 - 1).toNat) a0 a1 ∧ ∃ r c n : Nat, a0 = (r : Int) ∧ r < 4 ∧ M 96 0 = (c : Int) ∧ c < 16 ∧ M (41 + 4 * r + 1) 1 = (n : Int) ∧ z = (c : Int) ∧ M1 96 0 = (c : Int) + 1 ∧ (∀ p q : Nat, ¬ (p = 96 ∧ q = 0 ∨ p = 98 ∧ q = c ∨ p = 99 ∧ q = c ∨ p = 101 + 2 * c ∧ q = 1 ∨ p = 101 + 2 * c + 1) → M1 p q = M p q) ∧ M1 98 c = a0 ∧ M1 99 c = a1 ∧ M1 (101 + 2 * c) 1 = (n : Int) ∧ (∀ k : Nat, k < n → M1 (101 + 2 * c + 1) k = M (41 + 4 * r + 2) k)) ∨ (¬ cKe (M 32 2) (M 96 0) (M 99 (M 96 0 - 1).toNat) a0 a1 ∧ z = -1 ∧ M1 = M)) → Q z M1) : wC_keep a0 a1 M Q := by
  unfold wC_keep
  have no : ¬ cKe (M 32 2) (M 96 0) (M 99 (M 96 0 - 1).toNat) a0 a1 → Q (-1) M := fun h => hQ _ _ ⟨hB, fun _ _ => rfl, Or.inr ⟨h, rfl, rfl⟩⟩
  refine fC_find hB v0 (fun h => ⟨fun _ => no (fun x => h x.1), fun q h => nomatch h⟩) (fun r hr h1 h2 => ⟨(fun h => nomatch h), fun q hq => ?_⟩)
  obtain rfl := Option.some.inj hq
  obtain ⟨g1, g2, g3, g4, g5, -⟩ := rg_cd r h2
  refine ⟨⟨g1, g2⟩, ?_⟩
  refine sC_within hB v1 (by omega) (by omega) (fun z p => ?_)
  obtain ⟨-, p, -⟩ := p
  refine ⟨fun d => ?_, fun d => no (fun x => by have := x.2.1; omega)⟩
  unfold wC_Versions_add
  have bv : 0 ≤ M 96 0 ∧ M 96 0 ≤ 16 := BN.at hB (rfl : zcd wC 96 = 44) rfl
  have bl : 0 ≤ M (41 + 4 * r + 1) 1 ∧ M (41 + 4 * r + 1) 1 ≤ 24 := BN.at hB g3 rfl
  have sv : sI (M 96 0) = M 96 0 := sIo (by omega) (by omega)
  have sv1 : sI (M 96 0 - 1) = M 96 0 - 1 := sIo (by omega) (by omega)
  have s1 : sI a1 = a1 := sIo v1.1 v1.2
  have b99 := BN.r32 hB 99 (M 96 0 - 1).toNat
  have s99 : sI (M 99 (M 96 0 - 1).toNat) = M 99 (M 96 0 - 1).toNat := sIo b99.1 b99.2
  rw [sv, sv1, s1, s99]
  refine ⟨fun d2 => no (fun x => by have := x.2.2.1; omega), fun d2 => ?_⟩
  refine pJ0_of (0 < M 96 0 → M 99 (M 96 0 - 1).toNat ≤ a1) (fun hJ => ?_) ⟨fun d3 => fun h => by omega, fun d3 => ⟨by omega, fun d4 => fun _ => d4, fun d4 => no (fun x => by have := x.2.2.2 d3; omega)⟩⟩
  obtain ⟨c, hc⟩ : ∃ c : Nat, M 96 0 = (c : Int) := ⟨(M 96 0).toNat, by omega⟩
  obtain ⟨n, hn⟩ : ∃ n : Nat, M (41 + 4 * r + 1) 1 = (n : Int) := ⟨(M (41 + 4 * r + 1) 1).toNat, by omega⟩
  have ok : cKe (M 32 2) (M 96 0) (M 99 (M 96 0 - 1).toNat) a0 a1 := ⟨by omega, by omega, d2, hJ⟩
  have tc : (M 96 0).toNat = c := by omega
  have tcc : ((c : Int)).toNat = c := by omega
  have sc : sI (c : Int) = c := sIo (by omega) (by omega)
  obtain ⟨w1, w2, w3⟩ := ve_cd c (by omega)
  refine ⟨by omega, ?_⟩
  rw [tc]
  refine fC_copy (x := (n, M (41 + 4 * r + 2))) hB w2 w3 g3 ⟨by omega, by omega, by omega⟩ ⟨hn, fun k _ => rfl⟩ (fun M14 h14 => ?_)
  obtain ⟨b14, f14, i14, -⟩ := h14
  have n14 : M14 96 0 = (c : Int) := (f14 _ _ (by omega)).trans hc
  rw [n14, sc, tcc]
  refine ⟨by omega, fun M16 e16 => ?_⟩
  have b16 : BN wC M16 := by rw [e16]; exact BN.up b14 (rfl : zcd wC 98 = 46) rfl v0.1 v0.2
  have n16 : M16 96 0 = (c : Int) := by rw [e16, zup_n _ _ (by omega)]; exact n14
  rw [n16, sc, tcc]
  refine ⟨by omega, fun M19 e19 => fun M21 e21 => ?_⟩
  have b19 : BN wC M19 := by rw [e19]; exact BN.up b16 (rfl : zcd wC 99 = 47) rfl v1.1 v1.2
  have n19 : M19 96 0 = (c : Int) := by rw [e19, zup_n _ _ (by omega)]; exact n16
  have b21 : BN wC M21 := by rw [e21]; exact BN.up b19 (rfl : zcd wC 96 = 44) rfl (by omega) (by omega)
  have n21 : M21 96 0 = (c : Int) + 1 := by rw [e21, zup_s, n19]
  have sz : sI (M21 96 0 - 1) = (c : Int) := by rw [n21, sIo (by omega) (by omega)]; omega
  have f21 : ∀ p q : Nat, ¬ (p = 96 ∧ q = 0 ∨ p = 98 ∧ q = c ∨ p = 99 ∧ q = c ∨ p = 101 + 2 * c ∧ q = 1 ∨ p = 101 + 2 * c + 1) → M21 p q = M p q := fun p q h => by rw [e21, zup_n _ _ (by omega), e19, zup_n _ _ (by omega), e16, zup_n _ _ (by omega)]; exact f14 _ _ (by omega)
  rw [sz]
  refine hQ _ _ ⟨b21, fun j9 h9 => funext fun q => f21 j9 q (by omega), Or.inl ⟨ok, r, c, n, hr, h2, hc, by omega, hn, rfl, n21, f21, ?_, ?_, ?_, fun k hk => ?_⟩⟩
  · rw [e21, zup_n _ _ (by omega), e19, zup_n _ _ (by omega), e16, zup_s]
  · rw [e21, zup_n _ _ (by omega), e19, zup_s]
  · rw [e21, zup_n _ _ (by omega), e19, zup_n _ _ (by omega), e16, zup_n _ _ (by omega)]
    exact i14.1
  · rw [e21, zup_n _ _ (by omega), e19, zup_n _ _ (by omega), e16, zup_n _ _ (by omega)]
    exact i14.2 k hk
set_option maxHeartbeats 2000000 in
theorem fR_keep {M : zM} {a0 a1 : Int} (hB : BI M) (v0 : -2147483648 ≤ a0 ∧ a0 ≤ 2147483647) (v1 : -2147483648 ≤ a1 ∧ a1 ≤ 2147483647) {Q : Int → zM → Prop} (hQ : ∀ (z : Int) (M1 : zM), BI M1 ∧ (∀ j9 k9 : Nat, ¬ (j9 = 0 ∧ k9 = 35 ∨ j9 = 0 ∧ k9 = 32 ∨ j9 = 18 ∨ j9 = 19 ∨ j9 = 20 ∨ j9 = 21) → M1 j9 k9 = M j9 k9) ∧ ((cKe (M 0 10) (M 0 32) (M 21 (M 0 32 - 1).toNat) a0 a1 ∧ ∃ r c n : Nat, a0 = (r : Int) ∧ M 0 32 = (c : Int) ∧ M 4 r = (n : Int) ∧ z = (c : Int) ∧ M1 0 32 = (c : Int) + 1 ∧ (∀ j k : Nat, 19 ≤ j ∧ j ≤ 21 → k ≠ c → M1 j k = M j k) ∧ (∀ k : Nat, ¬ (24 * c ≤ k ∧ k < 24 * c + 24) → M1 18 k = M 18 k) ∧ M1 20 c = a0 ∧ M1 21 c = a1 ∧ M1 19 c = (n : Int) ∧ (∀ k : Nat, k < n → M1 18 (24 * c + k) = M 3 (24 * r + k))) ∨ (¬ cKe (M 0 10) (M 0 32) (M 21 (M 0 32 - 1).toNat) a0 a1 ∧ z = -1 ∧ ∀ j9 k9 : Nat, ¬ (j9 = 0 ∧ k9 = 35) → M1 j9 k9 = M j9 k9)) → Q z M1) : wR_keep a0 a1 M Q := by
  unfold wR_keep
  intro M1 e1
  have hB1 : BI M1 := by rw [e1]; exact BI.up0 hB rfl (by omega) (by omega) (by decide)
  have hF1 : ∀ j9 k9 : Nat, ¬ (j9 = 0 ∧ k9 = 35) → M1 j9 k9 = M j9 k9 := fun j9 k9 h9 => by rw [e1]; exact zup_n _ _ (by omega)
  have r10 : M1 0 10 = M 0 10 := hF1 0 10 (by omega)
  have r32 : M1 0 32 = M 0 32 := hF1 0 32 (by omega)
  have r21 : M1 21 = M 21 := funext fun k => hF1 21 k (by omega)
  have no : ¬ cKe (M 0 10) (M 0 32) (M 21 (M 0 32 - 1).toNat) a0 a1 → Q (-1) M1 := fun h => hQ _ _ ⟨hB1, fun j9 k9 h9 => hF1 j9 k9 (by omega), Or.inr ⟨h, rfl, hF1⟩⟩
  refine fR_isRing hB1 v0 (fun h => ⟨fun _ => no (fun x => h (by rw [r10]; exact x.1)), fun c => absurd rfl c⟩) (fun r hr h1 h2 => ⟨fun c => absurd c (by decide), fun _ => ?_⟩)
  refine sR_in hB1 v1 (by omega) (by omega) (fun z p => ?_)
  obtain ⟨-, p, -⟩ := p
  refine ⟨fun d => no (fun x => by have := x.2.1; omega), fun d => ?_⟩
  have bv : 0 ≤ M 0 32 ∧ M 0 32 ≤ 16 := BN.at hB.1 (rfl : zcd wR 0 = 50) rfl
  have bl : 0 ≤ M 4 r ∧ M 4 r ≤ 24 := BN.at hB.1 (rfl : zcd wR 4 = 54) rfl
  have sv : sI (M 0 32) = M 0 32 := sIo (by omega) (by omega)
  have sv1 : sI (M 0 32 - 1) = M 0 32 - 1 := sIo (by omega) (by omega)
  have s0 : sI a0 = a0 := sIo v0.1 v0.2
  have s1 : sI a1 = a1 := sIo v1.1 v1.2
  have b21 := BN.r32 hB.1 21 (M 0 32 - 1).toNat
  have s21 : sI (M 21 (M 0 32 - 1).toNat) = M 21 (M 0 32 - 1).toNat := sIo b21.1 b21.2
  have hra : a0.toNat = r := by omega
  rw [r32, r21, sv, sv1, s0, s1, s21, hra]
  refine ⟨fun d2 => no (fun x => by have := x.2.2.1; omega), fun d2 => ?_⟩
  refine pJ0_of (0 < M 0 32 → M 21 (M 0 32 - 1).toNat ≤ a1) (fun hJ => ?_) ⟨fun d3 => fun h => by omega, fun d3 => ⟨by omega, fun d4 => fun _ => d4, fun d4 => no (fun x => by have := x.2.2.2 d3; omega)⟩⟩
  obtain ⟨c, hc⟩ : ∃ c : Nat, M 0 32 = (c : Int) := ⟨(M 0 32).toNat, by omega⟩
  obtain ⟨n, hn⟩ : ∃ n : Nat, M 4 r = (n : Int) := ⟨(M 4 r).toNat, by omega⟩
  have ok : cKe (M 0 10) (M 0 32) (M 21 (M 0 32 - 1).toNat) a0 a1 := ⟨by omega, by omega, by omega, hJ⟩
  have tc : (M 0 32).toNat = c := by omega
  have tcc : ((c : Int)).toNat = c := by omega
  have sc : sI (c : Int) = c := sIo (by omega) (by omega)
  refine ⟨by omega, ?_⟩
  rw [tc]
  intro M20 e20
  have b20 : BI M20 := by rw [e20]; exact BI.up hB1 (rfl : zcd wR 20 = 70) rfl v0.1 v0.2 (by decide)
  have n20 : M20 0 32 = (c : Int) := by rw [e20, zup_n _ _ (by omega), r32]; exact hc
  rw [n20, sc, tcc]
  refine ⟨by omega, fun M23 e23 => ?_⟩
  have b23 : BI M23 := by rw [e23]; exact BI.up b20 (rfl : zcd wR 21 = 71) rfl v1.1 v1.2 (by decide)
  have n23 : M23 0 32 = (c : Int) := by rw [e23, zup_n _ _ (by omega)]; exact n20
  have l23 : M23 4 r = (n : Int) := by rw [e23, zup_n _ _ (by omega), e20, zup_n _ _ (by omega), hF1 _ _ (by omega)]; exact hn
  rw [n23, sc, tcc, l23]
  refine ⟨by omega, by omega, fun M27 e27 => ?_⟩
  refine wL1_of (fun x P => BI P ∧ (∀ j k : Nat, ¬ (j = 0 ∧ k = 35 ∨ j = 18 ∧ 24 * c ≤ k ∧ k < 24 * c + 24 ∨ 19 ≤ j ∧ j ≤ 21 ∧ k = c) → P j k = M j k) ∧ P 20 c = a0 ∧ P 21 c = a1 ∧ P 19 c = (n : Int) ∧ ∃ i : Nat, x = (i : Int) ∧ i ≤ n ∧ ∀ k : Nat, k < i → P 18 (24 * c + k) = M 3 (24 * r + k)) (fun x _ => (1000 - x).toNat) ⟨by rw [e27]; exact BI.up b23 (rfl : zcd wR 19 = 69) rfl (by omega) (by omega) (by decide), fun j k h => by rw [e27, zup_n _ _ (by omega), e23, zup_n _ _ (by omega), e20, zup_n _ _ (by omega)]; exact hF1 j k (by omega), by rw [e27, zup_n _ _ (by omega), e23, zup_n _ _ (by omega), e20, zup_s], by rw [e27, zup_n _ _ (by omega), e23, zup_s], by rw [e27, zup_s], 0, rfl, by omega, fun k h => absurd h (Nat.not_lt_zero k)⟩ (fun K x P hI hK => ?_)
  obtain ⟨bP, fP, p20, p21, p19, i, rfl, i1, hv⟩ := hI
  have q32 : P 0 32 = (c : Int) := (fP _ _ (by omega)).trans hc
  have q4 : P 4 r = (n : Int) := (fP _ _ (by omega)).trans hn
  have sn : sI (n : Int) = n := sIo (by omega) (by omega)
  have si : sI (i : Int) = i := sIo (by omega) (by omega)
  have sa : sI (24 * a0 + (i : Int)) = 24 * (r : Int) + (i : Int) := by rw [hr]; exact sIo (by omega) (by omega)
  have sb : sI (24 * (c : Int) + (i : Int)) = 24 * (c : Int) + (i : Int) := sIo (by omega) (by omega)
  have ta : (24 * (r : Int) + (i : Int)).toNat = 24 * r + i := by omega
  have tb : (24 * (c : Int) + (i : Int)).toNat = 24 * c + i := by omega
  rw [q32, q4, sn, si, sa, sb, ta, tb]
  refine ⟨by omega, fun d3 => fun M40 e40 => ?_, fun d3 => ?_⟩
  · have n40 : M40 0 32 = (c : Int) + 1 := by rw [e40, zup_s]
    have sz : sI (M40 0 32 - 1) = (c : Int) := by rw [n40, sIo (by omega) (by omega)]; omega
    rw [sz]
    exact hQ _ _ ⟨by rw [e40]; exact BI.up0 bP rfl (by omega) (by omega) (by decide), fun j k h => by rw [e40, zup_n _ _ (by omega)]; exact fP j k (by omega), Or.inl ⟨ok, r, c, n, hr, hc, hn, rfl, n40, fun j k hj hk => by rw [e40, zup_n _ _ (by omega)]; exact fP j k (by omega), fun k hk => by rw [e40, zup_n _ _ (by omega)]; exact fP 18 k (by omega), by rw [e40, zup_n _ _ (by omega)]; exact p20, by rw [e40, zup_n _ _ (by omega)]; exact p21, by rw [e40, zup_n _ _ (by omega)]; exact p19, fun k hk => by rw [e40, zup_n _ _ (by omega)]; exact hv k (by omega)⟩⟩
  · have br := BN.r32 bP.1 3 (24 * r + i)
    refine ⟨by omega, by omega, fun M44 e44 => ?_⟩
    refine hK _ _ ⟨by rw [e44]; exact BI.up bP (rfl : zcd wR 18 = 68) rfl br.1 br.2 (by decide), fun j k h => by rw [e44, zup_n _ _ (by omega)]; exact fP j k h, by rw [e44, zup_n _ _ (by omega)]; exact p20, by rw [e44, zup_n _ _ (by omega)]; exact p21, by rw [e44, zup_n _ _ (by omega)]; exact p19, i + 1, by omega, by omega, fun k hk => ?_⟩ (by omega)
    rw [e44]
    by_cases c5 : k = i
    · rw [c5, zup_s]
      exact fP 3 _ (by omega)
    · rw [zup_n _ _ (by omega)]
      exact hv k (by omega)
theorem ve_keep {MC MR M8 M9 : zM} {a0 a1 z z9 : Int} (h : iVe MC MR) (hR : iRi MC MR) (hv0 : 0 ≤ MC 96 0) (p : (cKe (MC 32 2) (MC 96 0) (MC 99 (MC 96 0 - 1).toNat) a0 a1 ∧ ∃ r c n : Nat, a0 = (r : Int) ∧ r < 4 ∧ MC 96 0 = (c : Int) ∧ c < 16 ∧ MC (41 + 4 * r + 1) 1 = (n : Int) ∧ z = (c : Int) ∧ M8 96 0 = (c : Int) + 1 ∧ (∀ p q : Nat, ¬ (p = 96 ∧ q = 0 ∨ p = 98 ∧ q = c ∨ p = 99 ∧ q = c ∨ p = 101 + 2 * c ∧ q = 1 ∨ p = 101 + 2 * c + 1) → M8 p q = MC p q) ∧ M8 98 c = a0 ∧ M8 99 c = a1 ∧ M8 (101 + 2 * c) 1 = (n : Int) ∧ (∀ k : Nat, k < n → M8 (101 + 2 * c + 1) k = MC (41 + 4 * r + 2) k)) ∨ (¬ cKe (MC 32 2) (MC 96 0) (MC 99 (MC 96 0 - 1).toNat) a0 a1 ∧ z = -1 ∧ M8 = MC)) (q : (cKe (MR 0 10) (MR 0 32) (MR 21 (MR 0 32 - 1).toNat) a0 a1 ∧ ∃ r c n : Nat, a0 = (r : Int) ∧ MR 0 32 = (c : Int) ∧ MR 4 r = (n : Int) ∧ z9 = (c : Int) ∧ M9 0 32 = (c : Int) + 1 ∧ (∀ j k : Nat, 19 ≤ j ∧ j ≤ 21 → k ≠ c → M9 j k = MR j k) ∧ (∀ k : Nat, ¬ (24 * c ≤ k ∧ k < 24 * c + 24) → M9 18 k = MR 18 k) ∧ M9 20 c = a0 ∧ M9 21 c = a1 ∧ M9 19 c = (n : Int) ∧ (∀ k : Nat, k < n → M9 18 (24 * c + k) = MR 3 (24 * r + k))) ∨ (¬ cKe (MR 0 10) (MR 0 32) (MR 21 (MR 0 32 - 1).toNat) a0 a1 ∧ z9 = -1 ∧ ∀ j9 k9 : Nat, ¬ (j9 = 0 ∧ k9 = 35) → M9 j9 k9 = MR j9 k9)) : z = z9 ∧ iVe M8 M9 := by
  obtain ⟨g1, g2, g3⟩ := id h
  have ec : cKe (MC 32 2) (MC 96 0) (MC 99 (MC 96 0 - 1).toNat) a0 a1 ↔ cKe (MR 0 10) (MR 0 32) (MR 21 (MR 0 32 - 1).toNat) a0 a1 := by
    have e1 := hR.1
    unfold cKe
    by_cases c : 0 < MC 96 0
    · have e2 := (g3 (MC 96 0 - 1).toNat (by omega)).2.1
      rw [e1, g1] at *
      rw [e2]
    · constructor
      · rintro ⟨x1, x2, x3, x4⟩
        exact ⟨by omega, x2, by omega, fun x => by omega⟩
      · rintro ⟨x1, x2, x3, x4⟩
        exact ⟨by omega, x2, by omega, fun x => by omega⟩
  rw [← ec] at q
  rcases p with ⟨p1, r, c, n, hr, hr4, hc, c16, hn, d1, d2, d3, d4, d5, d6, d7⟩ | ⟨p1, p2, p3⟩
  · rcases q with ⟨q1, r', c', n', hr', hc', hn', e1, e2, e3, e4, e5, e6, e7, e8⟩ | ⟨q1, -⟩
    · have er : r' = r := by omega
      have ecc : c' = c := by omega
      subst er
      subst ecc
      obtain ⟨l, a1', a2', a3, a4, a5, a6, a7, a8, a9, a10, a11⟩ := hR.2.2 r' (by have := p1.1; omega)
      have en : n' = n := by omega
      have el : l = n := by omega
      subst en
      subst el
      refine ⟨by omega, by omega, by omega, fun v hv => ?_⟩
      by_cases cv : v = c'
      · subst cv
        exact ⟨by rw [d4, e5], by rw [d5, e6], l, a1', a2', d6, e7, fun k hk => by rw [d7 k hk, e8 k hk]; exact a10 k hk⟩
      · obtain ⟨b1, b2, m, b3, b4, b5, b6, b7⟩ := g3 v (by omega)
        exact ⟨by rw [d3 _ _ (by omega), e3 20 v (by omega) cv]; exact b1, by rw [d3 _ _ (by omega), e3 21 v (by omega) cv]; exact b2, m, b3, b4, by rw [d3 _ _ (by omega)]; exact b5, by rw [e3 19 v (by omega) cv]; exact b6, fun k hk => by rw [d3 _ _ (by omega), e4 _ (by omega)]; exact b7 k hk⟩
    · exact absurd p1 q1
  · rcases q with ⟨q1, -⟩ | ⟨q1, q2, q3⟩
    · exact absurd q1 p1
    · rw [p3]
      exact ⟨by omega, iVe_kept h (fun _ _ => rfl) rfl (q3 0 32 (by omega)) (funext fun k => q3 18 k (by omega)) (funext fun k => q3 19 k (by omega)) (funext fun k => q3 20 k (by omega)) (funext fun k => q3 21 k (by omega))⟩
/-- fetched: the hand is that version -/
theorem fC_fetch {M : zM} {a0 : Int} (hB : BN wC M) (v0 : -2147483648 ≤ a0 ∧ a0 ≤ 2147483647) {Q : Int → zM → Prop} (hQ : ∀ (z : Int) (M1 : zM), BN wC M1 ∧ (∀ j9 : Nat, ¬ (30 ≤ j9 ∧ j9 ≤ 31) → M1 j9 = M j9) ∧ (((0 ≤ a0 ∧ a0 < M 96 0) ∧ ∃ v n : Nat, a0 = (v : Int) ∧ M (101 + 2 * v) 1 = (n : Int) ∧ z = (n : Int) ∧ M1 30 1 = (n : Int) ∧ ∀ k : Nat, k < n → M1 31 k = M (101 + 2 * v + 1) k) ∨ (¬ (0 ≤ a0 ∧ a0 < M 96 0) ∧ z = -1 ∧ M1 30 = M 30 ∧ M1 31 = M 31)) → Q z M1) : wC_fetch a0 M Q := by
  unfold wC_fetch
  refine sC_Versions_find hB v0 (fun h => ⟨fun _ => hQ _ _ ⟨hB, fun _ _ => rfl, Or.inr ⟨fun x => by omega, rfl, rfl, rfl⟩⟩, fun q h => nomatch h⟩) (fun q hq => ⟨(fun h => nomatch h), fun q9 h9 => ?_⟩)
  obtain rfl := Option.some.inj h9
  obtain ⟨⟨c1, c2⟩, rfl, h2, h3, h4⟩ := hq
  obtain ⟨w1, w2, w3⟩ := ve_cd a0.toNat (by omega)
  have bl : 0 ≤ M (101 + 2 * a0.toNat) 1 ∧ M (101 + 2 * a0.toNat) 1 ≤ 24 := BN.at hB w2 rfl
  refine ⟨⟨c1, c2⟩, ?_⟩
  refine fC_copy (x := ((M (101 + 2 * a0.toNat) 1).toNat, M (101 + 2 * a0.toNat + 1))) hB (rfl : zcd wC 30 = 6) (rfl : zcd wC (30 + 1) = 7) w2 ⟨by omega, by omega, by omega⟩ ⟨by show M (101 + 2 * a0.toNat) 1 = (((M (101 + 2 * a0.toNat) 1).toNat : Nat) : Int); omega, fun k _ => rfl⟩ (fun M9 h9 => ?_)
  obtain ⟨b9, f9, i9, -⟩ := h9
  have n9 : M9 30 1 = (((M (101 + 2 * a0.toNat) 1).toNat : Nat) : Int) := i9.1
  have s9 : sI (M9 30 1) = (((M (101 + 2 * a0.toNat) 1).toNat : Nat) : Int) := by rw [n9]; exact sIo (by omega) (by omega)
  rw [s9]
  exact hQ _ _ ⟨b9, fun j9 h9 => funext fun q => f9 j9 q (by omega), Or.inl ⟨by omega, a0.toNat, (M (101 + 2 * a0.toNat) 1).toNat, by omega, by omega, rfl, n9, i9.2⟩⟩
theorem fR_fetch {M : zM} {a0 : Int} (hB : BI M) (v0 : -2147483648 ≤ a0 ∧ a0 ≤ 2147483647) {Q : Int → zM → Prop} (hQ : ∀ (z : Int) (M1 : zM), BI M1 ∧ (∀ j9 k9 : Nat, ¬ (j9 = 0 ∧ k9 = 35 ∨ j9 = 0 ∧ k9 = 3 ∨ j9 = 2) → M1 j9 k9 = M j9 k9) ∧ (((0 ≤ a0 ∧ a0 < M 0 32) ∧ ∃ v n : Nat, a0 = (v : Int) ∧ M 19 v = (n : Int) ∧ z = (n : Int) ∧ M1 0 3 = (n : Int) ∧ ∀ k : Nat, k < n → M1 2 k = M 18 (24 * v + k)) ∨ (¬ (0 ≤ a0 ∧ a0 < M 0 32) ∧ z = -1 ∧ M1 0 3 = M 0 3 ∧ M1 2 = M 2)) → Q z M1) : wR_fetch a0 M Q := by
  unfold wR_fetch
  intro M1 e1
  have hB1 : BI M1 := by rw [e1]; exact BI.up0 hB rfl (by omega) (by omega) (by decide)
  have hF1 : ∀ j9 k9 : Nat, ¬ (j9 = 0 ∧ k9 = 35) → M1 j9 k9 = M j9 k9 := fun j9 k9 h9 => by rw [e1]; exact zup_n _ _ (by omega)
  have r32 : M1 0 32 = M 0 32 := hF1 0 32 (by omega)
  have bv : 0 ≤ M 0 32 ∧ M 0 32 ≤ 16 := BN.at hB.1 (rfl : zcd wR 0 = 50) rfl
  have s0 : sI a0 = a0 := sIo v0.1 v0.2
  rw [r32, s0]
  refine sR_in hB1 v0 (by omega) (by omega) (fun z p => ?_)
  obtain ⟨-, p, -⟩ := p
  refine ⟨fun d => ⟨by omega, fun M9 e9 => ?_⟩, fun d => hQ _ _ ⟨hB1, fun j k h => hF1 j k (by omega), Or.inr ⟨fun x => by omega, rfl, hF1 0 3 (by omega), funext fun k => hF1 2 k (by omega)⟩⟩⟩
  obtain ⟨v, hv⟩ : ∃ v : Nat, a0 = (v : Int) := ⟨a0.toNat, by omega⟩
  have tv : a0.toNat = v := by omega
  have bl : 0 ≤ M 19 v ∧ M 19 v ≤ 24 := BN.at hB.1 (rfl : zcd wR 19 = 69) rfl
  obtain ⟨n, hn⟩ : ∃ n : Nat, M 19 v = (n : Int) := ⟨(M 19 v).toNat, by omega⟩
  rw [tv, hF1 19 v (by omega), hn] at e9
  refine wL1_of (fun x P => BI P ∧ (∀ j k : Nat, ¬ (j = 0 ∧ k = 35 ∨ j = 0 ∧ k = 3 ∨ j = 2) → P j k = M j k) ∧ P 0 3 = (n : Int) ∧ ∃ i : Nat, x = (i : Int) ∧ i ≤ n ∧ ∀ k : Nat, k < i → P 2 k = M 18 (24 * v + k)) (fun x _ => (1000 - x).toNat) ⟨by rw [e9]; exact BI.up0 hB1 (rfl : cbt 50 3 = (0, 24)) (by omega) (by omega) (by decide), fun j k h => by rw [e9, zup_n _ _ (by omega)]; exact hF1 j k (by omega), by rw [e9, zup_s], 0, rfl, by omega, fun k h => absurd h (Nat.not_lt_zero k)⟩ (fun K x P hI hK => ?_)
  obtain ⟨bP, fP, p3, i, rfl, i1, hw⟩ := hI
  have sn : sI (n : Int) = n := sIo (by omega) (by omega)
  have si : sI (i : Int) = i := sIo (by omega) (by omega)
  have sa : sI (24 * a0 + (i : Int)) = 24 * (v : Int) + (i : Int) := by rw [hv]; exact sIo (by omega) (by omega)
  have ta : (24 * (v : Int) + (i : Int)).toNat = 24 * v + i := by omega
  have ti : ((i : Int)).toNat = i := by omega
  rw [p3, sn, si, sa, ta, ti]
  refine ⟨fun d3 => hQ _ _ ⟨bP, fP, Or.inl ⟨by omega, v, n, hv, hn, rfl, p3, fun k hk => hw k (by omega)⟩⟩, fun d3 => ⟨by omega, by omega, fun M23 e23 => ?_⟩⟩
  have br := BN.r32 bP.1 18 (24 * v + i)
  refine hK _ _ ⟨by rw [e23]; exact BI.up bP (rfl : zcd wR 2 = 52) rfl br.1 br.2 (by decide), fun j k h => by rw [e23, zup_n _ _ (by omega)]; exact fP j k h, by rw [e23, zup_n _ _ (by omega)]; exact p3, i + 1, by omega, by omega, fun k hk => ?_⟩ (by omega)
  rw [e23]
  by_cases c5 : k = i
  · rw [c5, zup_s]
    exact fP 18 _ (by omega)
  · rw [zup_n _ _ (by omega)]
    exact hw k (by omega)
theorem ha_fetch {MC MR M8 M9 : zM} {a0 z z9 : Int} (h : iHa MC MR) (hV : iVe MC MR) (p : ((0 ≤ a0 ∧ a0 < MC 96 0) ∧ ∃ v n : Nat, a0 = (v : Int) ∧ MC (101 + 2 * v) 1 = (n : Int) ∧ z = (n : Int) ∧ M8 30 1 = (n : Int) ∧ ∀ k : Nat, k < n → M8 31 k = MC (101 + 2 * v + 1) k) ∨ (¬ (0 ≤ a0 ∧ a0 < MC 96 0) ∧ z = -1 ∧ M8 30 = MC 30 ∧ M8 31 = MC 31)) (q : ((0 ≤ a0 ∧ a0 < MR 0 32) ∧ ∃ v n : Nat, a0 = (v : Int) ∧ MR 19 v = (n : Int) ∧ z9 = (n : Int) ∧ M9 0 3 = (n : Int) ∧ ∀ k : Nat, k < n → M9 2 k = MR 18 (24 * v + k)) ∨ (¬ (0 ≤ a0 ∧ a0 < MR 0 32) ∧ z9 = -1 ∧ M9 0 3 = MR 0 3 ∧ M9 2 = MR 2)) : z = z9 ∧ iHa M8 M9 := by
  obtain ⟨g1, g2, g3⟩ := hV
  rw [← g1] at q
  rcases p with ⟨p1, v, n, hv, hn, d1, d2, d3⟩ | ⟨p1, p2, p3, p4⟩
  · rcases q with ⟨q1, v', n', hv', hn', e1, e2, e3⟩ | ⟨q1, -⟩
    · have ev : v' = v := by omega
      subst ev
      obtain ⟨-, -, m, b1, b2, b3, b4, b5⟩ := g3 v' (by omega)
      have en : n' = n := by omega
      have em : m = n := by omega
      subst en
      subst em
      exact ⟨by omega, by omega, fun k hk => by rw [d3 k (by omega), e3 k (by omega)]; exact b5 k (by omega)⟩
    · exact absurd p1 q1
  · rcases q with ⟨q1, -⟩ | ⟨q1, q2, q3, q4⟩
    · exact absurd q1 p1
    · refine ⟨by omega, ?_⟩
      unfold iHa
      rw [p3, p4, q3, q4]
      exact h
end zz47s_vers
section zz47t_wayby
/-! the way by a length, alike; what is heard -/
theorem mul59 (a b : Int) (ha : -5000 ≤ a ∧ a ≤ 5000) (hb : -9 ≤ b ∧ b ≤ 9) : -45000 ≤ a * b ∧ a * b ≤ 45000 := by
  have e : b = -9 ∨ b = -8 ∨ b = -7 ∨ b = -6 ∨ b = -5 ∨ b = -4 ∨ b = -3 ∨ b = -2 ∨ b = -1 ∨ b = 0 ∨ b = 1 ∨ b = 2 ∨ b = 3 ∨ b = 4 ∨ b = 5 ∨ b = 6 ∨ b = 7 ∨ b = 8 ∨ b = 9 := by omega
  rcases e with rfl | rfl | rfl | rfl | rfl | rfl | rfl | rfl | rfl | rfl | rfl | rfl | rfl | rfl | rfl | rfl | rfl | rfl | rfl <;> omega
theorem wyS_b {T S : Nat → Int} (hT : ∀ i, 0 ≤ T i ∧ T i ≤ 5000) (hS : ∀ i, -9 ≤ S i ∧ S i ≤ 9) : ∀ p : Nat, (-45000 * (p : Int) ≤ (wyS T S p).1 ∧ (wyS T S p).1 ≤ 45000 * (p : Int)) ∧ (0 ≤ (wyS T S p).2.1 ∧ (wyS T S p).2.1 ≤ 5000) ∧ (-9 ≤ (wyS T S p).2.2 ∧ (wyS T S p).2.2 ≤ 9)
  | 0 => ⟨⟨by show -45000 * ((0 : Nat) : Int) ≤ 0; omega, by show (0 : Int) ≤ 45000 * ((0 : Nat) : Int); omega⟩, ⟨by show (0 : Int) ≤ 0; omega, by show (0 : Int) ≤ 5000; omega⟩, by show (-9 : Int) ≤ 1; omega, by show (1 : Int) ≤ 9; omega⟩
  | p + 1 => by
    obtain ⟨h1, h2, h3⟩ := wyS_b hT hS p
    have m := mul59 (T p - (wyS T S p).2.1) (wyS T S p).2.2 (by have := hT p; omega) h3
    refine ⟨?_, hT p, hS p⟩
    show -45000 * ((p + 1 : Nat) : Int) ≤ (wyS T S p).1 + (T p - (wyS T S p).2.1) * (wyS T S p).2.2 ∧ (wyS T S p).1 + (T p - (wyS T S p).2.1) * (wyS T S p).2.2 ≤ 45000 * ((p + 1 : Nat) : Int)
    omega
theorem wayR_b {n t z : Int} {T S : Nat → Int} (hT : ∀ i, 0 ≤ T i ∧ T i ≤ 5000) (hS : ∀ i, -9 ≤ S i ∧ S i ≤ 9) (hn : n ≤ 12) (ht : 0 ≤ t ∧ t ≤ 5000) (h : wayR n T S t z) : -1000000 ≤ z ∧ z ≤ 1000000 := by
  obtain ⟨p, p1, p2, p3, p4⟩ := h
  obtain ⟨h1, h2, h3⟩ := wyS_b hT hS p
  have m := mul59 (t - (wyS T S p).2.1) (wyS T S p).2.2 (by omega) h3
  rw [p4, sLo (by omega) (by omega)]
  omega
def stI (n : Int) (T : Nat → Int) : Int := if n = 0 then 0 else T (n - 1).toNat
def lsI (n : Int) (S : Nat → Int) : Int := if n = 0 then 1 else S (n - 1).toNat
/-- the way to a tick by a length -/
def wbR (n : Int) (T S : Nat → Int) (t len z : Int) : Prop := ∃ w : Int, wayR n T S (min t (stI n T)) w ∧ z = (w + (max 0 (t - stI n T) % len) * lsI n S) % len
theorem st_cg {n nR : Int} {T S TR SR : Nat → Int} (h0 : 0 ≤ n) (h : mo n T S nR TR SR) : stI n T = stI nR TR ∧ lsI n S = lsI nR SR := by
  obtain ⟨h1, h2⟩ := h
  subst h1
  unfold stI lsI
  by_cases c : n = 0
  · rw [if_pos c, if_pos c, if_pos c, if_pos c]
    exact ⟨rfl, rfl⟩
  · have w := h2 (n - 1).toNat (by omega)
    rw [if_neg c, if_neg c, if_neg c, if_neg c]
    exact w
theorem wb_det {n nR t len z zR : Int} {T S TR SR : Nat → Int} (h0 : 0 ≤ n) (h : mo n T S nR TR SR) (P : wbR n T S t len z) (R : wbR nR TR SR t len zR) : z = zR := by
  obtain ⟨e1, e2⟩ := st_cg h0 h
  obtain ⟨w, w1, w2⟩ := P
  obtain ⟨v, v1, v2⟩ := R
  rw [← e1] at v1
  rw [w2, v2, ← e1, ← e2, way_det h w1 v1]
theorem st_b {n : Int} {T : Nat → Int} (hT : ∀ i, 0 ≤ T i ∧ T i ≤ 5000) : 0 ≤ stI n T ∧ stI n T ≤ 5000 := by
  unfold stI
  by_cases c : n = 0
  · rw [if_pos c]
    omega
  · rw [if_neg c]
    exact hT _
theorem ls_b {n : Int} {S : Nat → Int} (hS : ∀ i, -9 ≤ S i ∧ S i ≤ 9) : -9 ≤ lsI n S ∧ lsI n S ≤ 9 := by
  unfold lsI
  by_cases c : n = 0
  · rw [if_pos c]
    omega
  · rw [if_neg c]
    exact hS _
set_option maxHeartbeats 1000000 in
theorem fC_wayBy {M : zM} {j : Nat} {a0 a1 : Int} (hB : BN wC M) (lt_j : j < nC) (cd_j : zcd wC j = 11) (v0 : 0 ≤ a0 ∧ a0 ≤ 9223372036854775807) (v1 : 1 ≤ a1 ∧ a1 ≤ 24) {Q : Int → Prop} (hQ : ∀ z : Int, wbR (M j 2) (M (j + 1)) (M (j + 2)) a0 a1 z → Q z) : wC_Motor_wayBy j a0 a1 M Q := by
  unfold wC_Motor_wayBy wC_Motor_steady wC_Motor_lastSpeed
  obtain ⟨lt1, cd2, lt3, cd4⟩ := nx_motor j lt_j cd_j
  have bn : 0 ≤ M j 2 ∧ M j 2 ≤ 12 := BN.at hB cd_j rfl
  have hT : ∀ i, 0 ≤ M (j + 1) i ∧ M (j + 1) i ≤ 5000 := fun i => BN.at hB cd2 rfl
  have hS : ∀ i, -9 ≤ M (j + 2) i ∧ M (j + 2) i ≤ 9 := fun i => BN.at hB cd4 rfl
  have sn : sI (M j 2) = M j 2 := sIo (by omega) (by omega)
  have sn1 : sI (M j 2 - 1) = M j 2 - 1 := sIo (by omega) (by omega)
  have bt := hT (M j 2 - 1).toNat
  have bs := hS (M j 2 - 1).toNat
  rw [sn, sn1, sIo (z := M (j + 1) (M j 2 - 1).toNat) (by omega) (by omega)]
  have b1 := st_b (n := M j 2) hT
  have b2 := ls_b (n := M j 2) hS
  have main : ∀ z : Int, z = stI (M j 2) (M (j + 1)) → wC_Motor_wayTo j (a0 - (max 0 (sL (a0 - z)))) M (fun z10 => wC_by (max 0 (sL (a0 - z))) a1 M (fun z14 => ((M j 2 ≠ 0 → ((0 ≤ M j 2 - 1 ∧ M j 2 - 1 < 12) ∧ wC_by (z10 + (z14 * sI (M (j + 2) (M j 2 - 1).toNat))) a1 M (fun z22 => Q z22))) ∧ (M j 2 = 0 → wC_by (z10 + (z14 * 1)) a1 M (fun z22 => Q z22))))) := by
    intro z hz
    have sl : sL (a0 - z) = a0 - z := sLo (by omega) (by omega)
    rw [sl]
    refine fC_Motor_wayTo hB lt_j cd_j (by omega) (fun w hw => ?_)
    have ew : a0 - max 0 (a0 - z) = min a0 (stI (M j 2) (M (j + 1))) := by omega
    rw [ew] at hw
    have wb := wayR_b hT hS (by omega) (by omega) hw
    refine fC_by (by omega) (by omega) ?_
    have em := emB (max 0 (a0 - z)) a1 (by omega)
    have fin : wC_by (w + (max 0 (a0 - z) % a1) * lsI (M j 2) (M (j + 2))) a1 M (fun z22 => Q z22) := by
      have m := mul59 (max 0 (a0 - z) % a1) (lsI (M j 2) (M (j + 2))) (by omega) b2
      refine fC_by (by omega) (by omega) ?_
      exact hQ _ ⟨w, hw, by rw [hz]⟩
    refine ⟨fun c => ⟨by omega, ?_⟩, fun c => ?_⟩
    · unfold lsI at fin
      rw [if_neg c] at fin
      rw [sIo (z := M (j + 2) (M j 2 - 1).toNat) (by omega) (by omega)]
      exact fin
    · unfold lsI at fin
      rw [if_pos c] at fin
      exact fin
  refine ⟨fun c => ⟨by omega, main _ ?_⟩, fun c => main _ ?_⟩
  · unfold stI
    rw [if_neg c]
  · unfold stI
    rw [if_pos c]
set_option maxHeartbeats 1000000 in
theorem fR_wayBy {M : zM} {m : Nat} {a0 a1 a2 : Int} (hB : BI M) (hm : a0 = (m : Int)) (h01 : m ≤ 1) (v1 : 0 ≤ a1 ∧ a1 ≤ 9223372036854775807) (v2 : 1 ≤ a2 ∧ a2 ≤ 24) {Q : Int → Prop} (hQ : ∀ z : Int, wbR (M 11 m) (fun i => M 9 (12 * m + i)) (fun i => M 10 (12 * m + i)) a1 a2 z → Q z) : wR_wayBy a0 a1 a2 M Q := by
  unfold wR_wayBy wR_steady wR_lastSpeed
  have bn : 0 ≤ M 11 m ∧ M 11 m ≤ 12 := BN.at hB.1 (rfl : zcd wR 11 = 61) rfl
  have hT0 : ∀ i, 0 ≤ M 9 i ∧ M 9 i ≤ 5000 := fun i => BN.at hB.1 (rfl : zcd wR 9 = 59) rfl
  have hS0 : ∀ i, -9 ≤ M 10 i ∧ M 10 i ≤ 9 := fun i => BN.at hB.1 (rfl : zcd wR 10 = 60) rfl
  have hT : ∀ i, 0 ≤ (fun i => M 9 (12 * m + i)) i ∧ (fun i => M 9 (12 * m + i)) i ≤ 5000 := fun i => hT0 _
  have hS : ∀ i, -9 ≤ (fun i => M 10 (12 * m + i)) i ∧ (fun i => M 10 (12 * m + i)) i ≤ 9 := fun i => hS0 _
  have sa : sI a0 = (m : Int) := by rw [hm]; exact sIo (by omega) (by omega)
  have ta : ((m : Int)).toNat = m := by omega
  have sn : sI (M 11 m) = M 11 m := sIo (by omega) (by omega)
  have sk : sI (12 * a0 + M 11 m - 1) = 12 * (m : Int) + M 11 m - 1 := by rw [hm]; exact sIo (by omega) (by omega)
  have s1 : sL a1 = a1 := sLo (by omega) (by omega)
  have s2 : sI a2 = a2 := sIo (by omega) (by omega)
  have b1 := st_b (n := M 11 m) hT
  have b2 := ls_b (n := M 11 m) hS
  rw [sa, ta, sn, sk, s1, s2]
  have main : ∀ z : Int, z = stI (M 11 m) (fun i => M 9 (12 * m + i)) → ((z < a1 → ((a2 ≠ 0) ∧ ((0 ≤ (m : Int) ∧ (m : Int) < 2) ∧ (M 11 m ≠ 0 → ((0 ≤ (m : Int) ∧ (m : Int) < 2) ∧ ((0 ≤ 12 * (m : Int) + M 11 m - 1 ∧ 12 * (m : Int) + M 11 m - 1 < 24) ∧ wR_wayEarly a0 z M (fun z12 => ((0 < a2) ∧ Q (sI ((sL (z12 + (((sL (a1 - z)).tmod a2) * sI (M 10 (12 * (m : Int) + M 11 m - 1).toNat)))) % a2))))))) ∧ (M 11 m = 0 → wR_wayEarly a0 z M (fun z12 => ((0 < a2) ∧ Q (sI ((sL (z12 + (((sL (a1 - z)).tmod a2) * 1))) % a2)))))))) ∧ (a1 ≤ z → wR_wayEarly a0 a1 M (fun z17 => ((0 < a2) ∧ Q (sI (z17 % a2)))))) := by
    intro z hz
    refine ⟨fun c => ⟨by omega, ⟨by omega, by omega⟩, ?_⟩, fun c => ?_⟩
    · have sl : sL (a1 - z) = a1 - z := sLo (by omega) (by omega)
      have et : (a1 - z).tmod a2 = (a1 - z) % a2 := Int.tmod_eq_emod_of_nonneg (by omega)
      have em := emB (a1 - z) a2 (by omega)
      have fin : wR_wayEarly a0 z M (fun z12 => ((0 < a2) ∧ Q (sI ((sL (z12 + (((a1 - z) % a2) * lsI (M 11 m) (fun i => M 10 (12 * m + i))))) % a2)))) := by
        refine fR_wayEarly hB (by omega) (by omega) (fun w hw => ⟨by omega, ?_⟩)
        rw [hm, ta] at hw
        have wb := wayR_b hT hS (by omega) (by omega) hw
        have mm := mul59 ((a1 - z) % a2) (lsI (M 11 m) (fun i => M 10 (12 * m + i))) (by omega) b2
        have e9 := emB (w + (a1 - z) % a2 * lsI (M 11 m) (fun i => M 10 (12 * m + i))) a2 (by omega)
        rw [sLo (by omega) (by omega), sIo (by omega) (by omega)]
        refine hQ _ ⟨w, by rw [show min a1 (stI (M 11 m) (fun i => M 9 (12 * m + i))) = z by omega]; exact hw, ?_⟩
        rw [show max 0 (a1 - stI (M 11 m) (fun i => M 9 (12 * m + i))) = a1 - z by omega]
      rw [sl, et]
      refine ⟨fun d => ⟨⟨by omega, by omega⟩, ⟨by omega, by omega⟩, ?_⟩, fun d => ?_⟩
      · unfold lsI at fin
        rw [if_neg d] at fin
        have e8 : (12 * (m : Int) + M 11 m - 1).toNat = 12 * m + (M 11 m - 1).toNat := by omega
        have b8 := hS0 (12 * m + (M 11 m - 1).toNat)
        rw [e8, sIo (z := M 10 (12 * m + (M 11 m - 1).toNat)) (by omega) (by omega)]
        exact fin
      · unfold lsI at fin
        rw [if_pos d] at fin
        exact fin
    · refine fR_wayEarly hB (by omega) (by omega) (fun w hw => ⟨by omega, ?_⟩)
      rw [hm, ta] at hw
      have e9 := emB w a2 (by omega)
      rw [sIo (by omega) (by omega)]
      refine hQ _ ⟨w, by rw [show min a1 (stI (M 11 m) (fun i => M 9 (12 * m + i))) = a1 by omega]; exact hw, ?_⟩
      rw [show max 0 (a1 - stI (M 11 m) (fun i => M 9 (12 * m + i))) = 0 by omega, Int.zero_emod, Int.zero_mul, Int.add_zero]
  refine ⟨⟨by omega, by omega⟩, fun c => ⟨⟨by omega, by omega⟩, ⟨by omega, by omega⟩, ?_⟩, fun c => main _ ?_⟩
  · have e8 : (12 * (m : Int) + M 11 m - 1).toNat = 12 * m + (M 11 m - 1).toNat := by omega
    have b8 := hT0 (12 * m + (M 11 m - 1).toNat)
    refine main _ ?_
    rw [e8, sIo (by omega) (by omega)]
    unfold stI
    rw [if_neg c]
  · unfold stI
    rw [if_pos c]
end zz47t_wayby
section zz47u_heard
/-! what is heard, alike -/
def jmo (m : Int) : Nat := if m = 0 then 35 else 38
def hvC (M : zM) (t : Int) (r : Nat) (z : Int) : Prop := ∃ n : Nat, ∃ w : Int, M (41 + 4 * r + 1) 1 = (n : Int) ∧ wbR (M (jmo (M (41 + 4 * r) 1)) 2) (M (jmo (M (41 + 4 * r) 1) + 1)) (M (jmo (M (41 + 4 * r) 1) + 2)) t (n : Int) w ∧ z = orU (M (41 + 4 * r) 3) (M (41 + 4 * r + 2)) n ((M (41 + 4 * r) 2 + w) % (n : Int)).toNat 24
def hvR (M : zM) (t : Int) (r : Nat) (z : Int) : Prop := ∃ n : Nat, ∃ w : Int, M 4 r = (n : Int) ∧ wbR (M 11 (M 5 r).toNat) (fun i => M 9 (12 * (M 5 r).toNat + i)) (fun i => M 10 (12 * (M 5 r).toNat + i)) t (n : Int) w ∧ z = orU (M 7 r) (fun k => M 3 (24 * r + k)) n ((M 6 r + w) % (n : Int)).toNat 24
def uok (M : zM) (r : Nat) : Prop := ∃ n : Nat, 1 ≤ n ∧ n ≤ 24 ∧ M (41 + 4 * r + 1) 1 = (n : Int) ∧ ∀ a : Nat, a < n → M (41 + 4 * r + 3) a = orU (M (41 + 4 * r) 3) (M (41 + 4 * r + 2)) n a 24
theorem ri_uok {MC MR : zM} (h : iRi MC MR) : ∀ r : Nat, (r : Int) < MC 32 2 → uok MC r := fun r hr => by
  obtain ⟨n, a1, a2, a3, a4, a5, a6, a7, a8, a9, a10, a11⟩ := h.2.2 r hr
  exact ⟨n, a1, a2, a3, a11⟩
theorem wbR_r {n t len z : Int} {T S : Nat → Int} (hl : 0 < len) (h : wbR n T S t len z) : 0 ≤ z ∧ z < len := by
  obtain ⟨w, -, e⟩ := h
  rw [e]
  exact emB _ _ hl
theorem mo_of {A B C D E F R9 R10 R11 : Nat → Int} {M : zM} (h : iMo A B C D E F R9 R10 R11) (e1 : A = M 35) (e2 : B = M 36) (e3 : C = M 37) (e4 : D = M 38) (e5 : E = M 39) (e6 : F = M 40) {m : Int} (hm : 0 ≤ m ∧ m ≤ 1) : mo (M (jmo m) 2) (M (jmo m + 1)) (M (jmo m + 2)) (R11 m.toNat) (fun i => R9 (12 * m.toNat + i)) (fun i => R10 (12 * m.toNat + i)) := by
  subst e1
  subst e2
  subst e3
  subst e4
  subst e5
  subst e6
  rcases (by omega : m = 0 ∨ m = 1) with rfl | rfl
  · exact h.1
  · exact h.2
set_option maxHeartbeats 1000000 in
theorem fC_heardOf {M : zM} {r : Nat} {a1 : Int} (hB : BN wC M) (hr : r < 4) (hu : uok M r) (v1 : 0 ≤ a1 ∧ a1 ≤ 9223372036854775807) {Q : Int → Prop} (hQ : ∀ z : Int, hvC M a1 r z → Q z) : wC_Studio_heardOf (41 + 4 * r) a1 M Q := by
  unfold wC_Studio_heardOf
  obtain ⟨n, n1, n2, hn, hun⟩ := hu
  obtain ⟨g1, g2, g3, g4, g5, g6⟩ := rg_cd r hr
  have bm : 0 ≤ M (41 + 4 * r) 1 ∧ M (41 + 4 * r) 1 ≤ 1 := BN.at hB g2 rfl
  have bs : 0 ≤ M (41 + 4 * r) 2 ∧ M (41 + 4 * r) 2 ≤ 23 := BN.at hB g2 rfl
  refine sC_Studio_motorOf hB (by omega) (fun q hq => ?_)
  obtain ⟨⟨lt, cd⟩, hq⟩ := hq
  have eq : q = jmo (M (41 + 4 * r) 1) := by
    unfold jmo
    rcases hq with ⟨e, h0⟩ | ⟨e, h0⟩
    · rw [if_pos h0, e]
    · rw [if_neg h0, e]
  refine ⟨q, rfl, ⟨lt, cd⟩, ?_⟩
  rw [hn]
  refine fC_wayBy hB lt cd v1 (by omega) (fun w hw => ?_)
  have wr := wbR_r (by omega) hw
  unfold wC_Ring_heardBehind
  rw [sIo (z := M (41 + 4 * r) 2 + w) (by omega) (by omega), hn]
  refine fC_by (by omega) (by omega) ?_
  have em := emB (M (41 + 4 * r) 2 + w) (n : Int) (by omega)
  refine ⟨by omega, ?_⟩
  rw [hun _ (by omega)]
  have rx := orU_r (M (41 + 4 * r) 3) (M (41 + 4 * r + 2)) n ((M (41 + 4 * r) 2 + w) % (n : Int)).toNat 24
  rw [sIo rx.1 rx.2]
  refine hQ _ ⟨n, w, hn, ?_, rfl⟩
  rw [← eq]
  exact hw
def orF (v : Nat → Int) : Nat → Int
  | 0 => 0
  | k + 1 => orI (orF v k) (v k)
theorem orF_r (v : Nat → Int) : ∀ k : Nat, -2147483648 ≤ orF v k ∧ orF v k ≤ 2147483647
  | 0 => ⟨by show -2147483648 ≤ (0 : Int); omega, by show (0 : Int) ≤ 2147483647; omega⟩
  | k + 1 => orI_R _ _
theorem orF_cg {v u : Nat → Int} : ∀ k : Nat, (∀ i : Nat, i < k → v i = u i) → orF v k = orF u k
  | 0, _ => rfl
  | k + 1, h => by
    show orI (orF v k) (v k) = orI (orF u k) (u k)
    rw [orF_cg k (fun i hi => h i (by omega)), h k (by omega)]
theorem fC_heardInAll {M : zM} {a0 : Int} (hB : BN wC M) (hu : ∀ r : Nat, (r : Int) < M 32 2 → uok M r) (v0 : 0 ≤ a0 ∧ a0 ≤ 9223372036854775807) {Q : Int → Prop} (hQ : ∀ z : Int, (∃ v : Nat → Int, (∀ r : Nat, (r : Int) < M 32 2 → hvC M a0 r (v r)) ∧ z = orF v (M 32 2).toNat) → Q z) : wC_Studio_heardInAll a0 M Q := by
  unfold wC_Studio_heardInAll
  have bn : 0 ≤ M 32 2 ∧ M 32 2 ≤ 4 := BN.at hB (rfl : zcd wC 32 = 8) rfl
  have sn : sI (M 32 2) = M 32 2 := sIo (by omega) (by omega)
  refine pL2_of (fun x y => ∃ i : Nat, y = (i : Int) ∧ (i : Int) ≤ M 32 2 ∧ ∃ v : Nat → Int, (∀ r : Nat, r < i → hvC M a0 r (v r)) ∧ x = orF v i) (fun _ y => (1000 - y).toNat) ⟨0, rfl, by omega, fun _ => 0, fun r h => absurd h (Nat.not_lt_zero r), rfl⟩ (fun K x y h k => ?_)
  obtain ⟨i, rfl, i1, v, hv, rfl⟩ := h
  have si : sI (i : Int) = i := sIo (by omega) (by omega)
  have ti : ((i : Int)).toNat = i := by omega
  have rx := orF_r v i
  rw [si, sn, ti, sIo (z := orF v i) rx.1 rx.2]
  refine ⟨fun c => hQ _ ⟨v, fun r hr => hv r (by omega), by rw [show (M 32 2).toNat = i by omega]⟩, fun c => ⟨by omega, ?_⟩⟩
  refine fC_heardOf hB (by omega) (hu i c) v0 (fun z hz => ?_)
  refine k _ _ ⟨i + 1, by omega, by omega, fun q => if q = i then z else v q, fun r hr => ?_, ?_⟩ (by omega)
  · dsimp only
    by_cases c5 : r = i
    · rw [if_pos c5, c5]
      exact hz
    · rw [if_neg c5]
      exact hv r (by omega)
  · show orI (orF v i) z = orI (orF (fun q => if q = i then z else v q) i) (if i = i then z else v i)
    rw [if_pos rfl, orF_cg (v := fun q => if q = i then z else v q) (u := v) i (fun q hq => if_neg (by omega))]
set_option maxHeartbeats 1000000 in
theorem fR_heardAt {M : zM} {r a n : Nat} (hB : BI M) (hr : r < 4) (ha : a < 24) (hn : M 4 r = (n : Int)) (n1 : 1 ≤ n) {Q : Int → Prop} (hQ : Q (orU (M 7 r) (fun k => M 3 (24 * r + k)) n a 24)) : wR_heardAt (r : Int) (a : Int) M Q := by
  unfold wR_heardAt
  have bl : 0 ≤ M 4 r ∧ M 4 r ≤ 24 := BN.at hB.1 (rfl : zcd wR 4 = 54) rfl
  have sr : sI (r : Int) = r := sIo (by omega) (by omega)
  have tr : ((r : Int)).toNat = r := by omega
  have sn : sI (n : Int) = n := sIo (by omega) (by omega)
  rw [sr, tr, hn, sn]
  refine pL2_of (fun x y => ∃ o : Nat, y = (o : Int) ∧ o ≤ 24 ∧ x = orU (M 7 r) (fun k => M 3 (24 * r + k)) n a o) (fun _ y => (1000 - y).toNat) ⟨0, rfl, by omega, rfl⟩ (fun K x y h k => ?_)
  obtain ⟨o, rfl, h1, rfl⟩ := h
  have so : sI (o : Int) = o := sIo (by omega) (by omega)
  have rx := orU_r (M 7 r) (fun k => M 3 (24 * r + k)) n a o
  have b1 := andI_br (shrI (M 7 r) (o : Int)) (c := 1) (by decide) (by decide)
  have sa : sI ((a : Int) + (o : Int)) = (a : Int) + (o : Int) := sIo (by omega) (by omega)
  have em : ((a : Int) + (o : Int)).tmod (n : Int) = (((a + o) % n : Nat) : Int) := by
    rw [Int.tmod_eq_emod_of_nonneg (by omega), show (a : Int) + (o : Int) = ((a + o : Nat) : Int) by omega]
    exact (Int.natCast_emod _ _).symm
  have lt := Nat.mod_lt (a + o) (show n > 0 by omega)
  have sb : sI (24 * (r : Int) + (((a + o) % n : Nat) : Int)) = 24 * (r : Int) + (((a + o) % n : Nat) : Int) := sIo (by omega) (by omega)
  have tb : (24 * (r : Int) + (((a + o) % n : Nat) : Int)).toNat = 24 * r + (a + o) % n := by omega
  rw [so, sIo rx.1 rx.2, sa, em, sb, tb]
  refine ⟨fun c => ?_, fun c => ⟨by omega, fun c2 => k _ _ ⟨o + 1, by omega, by omega, ?_⟩ (by omega), fun c2 => ⟨by omega, by omega, by omega, fun t e => k _ _ ⟨o + 1, by omega, by omega, ?_⟩ (by omega)⟩⟩⟩
  · rw [show o = 24 by omega]
    exact hQ
  · show _ = if andI (shrI (M 7 r) (o : Int)) 1 = 0 then orU (M 7 r) (fun k => M 3 (24 * r + k)) n a o else orI (orU (M 7 r) (fun k => M 3 (24 * r + k)) n a o) (M 3 (24 * r + (a + o) % n))
    rw [if_pos (by omega)]
  · show _ = if andI (shrI (M 7 r) (o : Int)) 1 = 0 then orU (M 7 r) (fun k => M 3 (24 * r + k)) n a o else orI (orU (M 7 r) (fun k => M 3 (24 * r + k)) n a o) (M 3 (24 * r + (a + o) % n))
    rw [if_neg (by omega), e]
theorem fR_heardOf {M : zM} {r : Nat} {a1 : Int} (hB : BI M) (hr : (r : Int) < M 0 10) (v1 : 0 ≤ a1 ∧ a1 ≤ 9223372036854775807) {Q : Int → Prop} (hQ : ∀ z : Int, hvR M a1 r z → Q z) : wR_heardOf (r : Int) a1 M Q := by
  unfold wR_heardOf
  have b10 : 0 ≤ M 0 10 ∧ M 0 10 ≤ 4 := BN.at hB.1 (rfl : zcd wR 0 = 50) rfl
  have r4 : r < 4 := by omega
  have l1 := hB.2 r r4 hr
  have bl : 0 ≤ M 4 r ∧ M 4 r ≤ 24 := BN.at hB.1 (rfl : zcd wR 4 = 54) rfl
  have bm : 0 ≤ M 5 r ∧ M 5 r ≤ 1 := BN.at hB.1 (rfl : zcd wR 5 = 55) rfl
  have bs : 0 ≤ M 6 r ∧ M 6 r ≤ 23 := BN.at hB.1 (rfl : zcd wR 6 = 56) rfl
  have sr : sI (r : Int) = r := sIo (by omega) (by omega)
  have tr : ((r : Int)).toNat = r := by omega
  obtain ⟨n, hn⟩ : ∃ n : Nat, M 4 r = (n : Int) := ⟨(M 4 r).toNat, by omega⟩
  have sn : sI (n : Int) = n := sIo (by omega) (by omega)
  rw [sr, tr, hn, sn]
  refine ⟨⟨by omega, by omega⟩, ⟨by omega, by omega⟩, ⟨by omega, by omega⟩, ?_⟩
  refine fR_wayBy (m := (M 5 r).toNat) hB (by omega) (by omega) v1 (by omega) (fun w hw => ?_)
  have wr := wbR_r (by omega) hw
  rw [sIo (z := M 6 r + w) (by omega) (by omega), Int.tmod_eq_emod_of_nonneg (by omega)]
  have em := emB (M 6 r + w) (n : Int) (by omega)
  refine ⟨⟨by omega, by omega⟩, by omega, ?_⟩
  have e9 : (M 6 r + w) % (n : Int) = ((((M 6 r + w) % (n : Int)).toNat : Nat) : Int) := by omega
  rw [e9]
  refine fR_heardAt hB r4 (by omega) hn (by omega) ?_
  exact hQ _ ⟨n, w, hn, hw, rfl⟩
theorem fR_heardInAll {M : zM} {a0 : Int} (hB : BI M) (v0 : 0 ≤ a0 ∧ a0 ≤ 9223372036854775807) {Q : Int → Prop} (hQ : ∀ z : Int, (∃ v : Nat → Int, (∀ r : Nat, (r : Int) < M 0 10 → hvR M a0 r (v r)) ∧ z = orF v (M 0 10).toNat) → Q z) : wR_heardInAll a0 M Q := by
  unfold wR_heardInAll
  have bn : 0 ≤ M 0 10 ∧ M 0 10 ≤ 4 := BN.at hB.1 (rfl : zcd wR 0 = 50) rfl
  have sn : sI (M 0 10) = M 0 10 := sIo (by omega) (by omega)
  refine pL2_of (fun x y => ∃ i : Nat, y = (i : Int) ∧ (i : Int) ≤ M 0 10 ∧ ∃ v : Nat → Int, (∀ r : Nat, r < i → hvR M a0 r (v r)) ∧ x = orF v i) (fun _ y => (1000 - y).toNat) ⟨0, rfl, by omega, fun _ => 0, fun r h => absurd h (Nat.not_lt_zero r), rfl⟩ (fun K x y h k => ?_)
  obtain ⟨i, rfl, i1, v, hv, rfl⟩ := h
  have si : sI (i : Int) = i := sIo (by omega) (by omega)
  have rx := orF_r v i
  rw [si, sn, sIo (z := orF v i) rx.1 rx.2]
  refine ⟨fun c => hQ _ ⟨v, fun r hr => hv r (by omega), by rw [show (M 0 10).toNat = i by omega]⟩, fun c => ?_⟩
  refine fR_heardOf hB c v0 (fun z hz => ?_)
  refine k _ _ ⟨i + 1, by omega, by omega, fun q => if q = i then z else v q, fun r hr => ?_, ?_⟩ (by omega)
  · dsimp only
    by_cases c5 : r = i
    · rw [if_pos c5, c5]
      exact hz
    · rw [if_neg c5]
      exact hv r (by omega)
  · show orI (orF v i) z = orI (orF (fun q => if q = i then z else v q) i) (if i = i then z else v i)
    rw [if_pos rfl, orF_cg (v := fun q => if q = i then z else v q) (u := v) i (fun q hq => if_neg (by omega))]
theorem hv_det {MC MR : zM} {t z z9 : Int} {r : Nat} (hC : BN wC MC) (hR : iRi MC MR) (hM : iMo (MC 35) (MC 36) (MC 37) (MC 38) (MC 39) (MC 40) (MR 9) (MR 10) (MR 11)) (hr : (r : Int) < MC 32 2) (p : hvC MC t r z) (q : hvR MR t r z9) : z = z9 := by
  obtain ⟨n, w, p1, p2, p3⟩ := p
  obtain ⟨m, v, q1, q2, q3⟩ := q
  obtain ⟨l, a1, a2, a3, a4, a5, a6, a7, a8, a9, a10, a11⟩ := hR.2.2 r hr
  have r4 : r < 4 := by have := hR.2.1; omega
  obtain ⟨g1, g2, -⟩ := rg_cd r r4
  have bm : 0 ≤ MC (41 + 4 * r) 1 ∧ MC (41 + 4 * r) 1 ≤ 1 := BN.at hC g2 rfl
  have en : n = l := by omega
  have em : m = l := by omega
  subst en
  subst em
  have mm := mo_of (M := MC) hM rfl rfl rfl rfl rfl rfl bm
  rw [← a5] at q2
  have bn : 0 ≤ MC (jmo (MC (41 + 4 * r) 1)) 2 := by
    unfold jmo
    by_cases c : MC (41 + 4 * r) 1 = 0
    · rw [if_pos c]
      exact (BN.at hC (rfl : zcd wC 35 = 11) rfl : (0 : Int) ≤ MC 35 2 ∧ MC 35 2 ≤ 12).1
    · rw [if_neg c]
      exact (BN.at hC (rfl : zcd wC 38 = 11) rfl : (0 : Int) ≤ MC 38 2 ∧ MC 38 2 ≤ 12).1
  have e := wb_det bn mm p2 q2
  subst e
  rw [p3, q3, a8, a6]
  have eb := emB (MR 6 r + w) (m : Int) (by omega)
  exact orU_cg a1 a10 24
theorem hall_det {MC MR : zM} {t z z9 : Int} (hC : BN wC MC) (hR : iRi MC MR) (hM : iMo (MC 35) (MC 36) (MC 37) (MC 38) (MC 39) (MC 40) (MR 9) (MR 10) (MR 11)) (p : ∃ v : Nat → Int, (∀ r : Nat, (r : Int) < MC 32 2 → hvC MC t r (v r)) ∧ z = orF v (MC 32 2).toNat) (q : ∃ v : Nat → Int, (∀ r : Nat, (r : Int) < MR 0 10 → hvR MR t r (v r)) ∧ z9 = orF v (MR 0 10).toNat) : z = z9 := by
  obtain ⟨v, p1, p2⟩ := p
  obtain ⟨u, q1, q2⟩ := q
  have g := hR.1
  rw [p2, q2, ← g]
  exact orF_cg _ (fun i hi => hv_det hC hR hM (by omega) (p1 i (by omega)) (q1 i (by omega)))
end zz47u_heard
section zz47v_bits
/-! bits of sounds; what a turning makes true -/
def bt (x s : Int) : Int := andI (shrI x s) 1
theorem bt_b (x s : Int) : 0 ≤ bt x s ∧ bt x s ≤ 1 := andI_br (shrI x s) (c := 1) (by decide) (by decide)
theorem bt_nat (x s : Int) : bt x s = ((((iI x).toBitVec.sshiftRight' (((iI s) &&& 31).toBitVec.smod 32)).toNat % 2 : Nat) : Int) := by
  unfold bt andI
  refine i32_nat ?_ (by omega)
  unfold shrI
  rw [iI_e, Int32.toBitVec_and, BitVec.toNat_and, Int32.toBitVec_shiftRight, show (iI 1).toBitVec.toNat = 2 ^ 1 - 1 by decide, Nat.and_two_pow_sub_one_eq_mod]
theorem bt_or (x y s : Int) : bt (orI x y) s = 1 ↔ (bt x s = 1 ∨ bt y s = 1) := by
  have e : (iI (orI x y)).toBitVec.sshiftRight' (((iI s) &&& 31).toBitVec.smod 32) = (iI x).toBitVec.sshiftRight' (((iI s) &&& 31).toBitVec.smod 32) ||| (iI y).toBitVec.sshiftRight' (((iI s) &&& 31).toBitVec.smod 32) := by
    unfold orI
    rw [iI_e, Int32.toBitVec_or]
    exact BitVec.sshiftRight_or_distrib _ _ _
  rw [bt_nat, bt_nat, bt_nat, e, BitVec.toNat_or]
  have h := Nat.or_mod_two_eq_one (a := ((iI x).toBitVec.sshiftRight' (((iI s) &&& 31).toBitVec.smod 32)).toNat) (b := ((iI y).toBitVec.sshiftRight' (((iI s) &&& 31).toBitVec.smod 32)).toNat)
  omega
theorem bt_0 (s : Int) : bt 0 s = 0 := by
  rw [bt_nat]
  have e : (iI 0).toBitVec = 0#32 := by decide
  rw [e, BitVec.sshiftRight_eq', BitVec.zero_sshiftRight]
  rfl
theorem bt_orU {h : Int} {I : Nat → Int} {n a : Nat} {s : Int} : ∀ o : Nat, bt (orU h I n a o) s = 1 ↔ ∃ p : Nat, p < o ∧ bt h (p : Int) = 1 ∧ bt (I ((a + p) % n)) s = 1
  | 0 => by
    constructor
    · intro x
      have y := bt_0 s
      have x : bt 0 s = 1 := x
      omega
    · rintro ⟨p, hp, -⟩
      exact absurd hp (Nat.not_lt_zero p)
  | o + 1 => by
    have ih := bt_orU (h := h) (I := I) (n := n) (a := a) (s := s) o
    have b := bt_b h (o : Int)
    show bt (if andI (shrI h (o : Int)) 1 = 0 then orU h I n a o else orI (orU h I n a o) (I ((a + o) % n))) s = 1 ↔ _
    by_cases c : bt h (o : Int) = 0
    · rw [if_pos (show andI (shrI h (o : Int)) 1 = 0 from c), ih]
      constructor
      · rintro ⟨p, p1, p2⟩
        exact ⟨p, by omega, p2⟩
      · rintro ⟨p, p1, p2, p3⟩
        by_cases cp : p = o
        · subst cp
          omega
        · exact ⟨p, by omega, p2, p3⟩
    · rw [if_neg (show ¬ andI (shrI h (o : Int)) 1 = 0 from c), bt_or, ih]
      constructor
      · rintro (⟨p, p1, p2⟩ | x)
        · exact ⟨p, by omega, p2⟩
        · exact ⟨o, by omega, by omega, x⟩
      · rintro ⟨p, p1, p2, p3⟩
        by_cases cp : p = o
        · subst cp
          exact Or.inr p3
        · exact Or.inl ⟨p, by omega, p2, p3⟩
/-- bits put together -/
def trB (b : Nat → Int) : Nat → Int
  | 0 => 0
  | m + 1 => if b m = 1 then orI (trB b m) (shlI 1 (m : Int)) else trB b m
theorem trB_b {b : Nat → Int} : ∀ m : Nat, m ≤ 6 → 0 ≤ trB b m ∧ trB b m ≤ 63
  | 0, _ => ⟨by show (0 : Int) ≤ 0; omega, by show (0 : Int) ≤ 63; omega⟩
  | m + 1, h => by
    have a := trB_b (b := b) m (by omega)
    show 0 ≤ (if b m = 1 then orI (trB b m) (shlI 1 (m : Int)) else trB b m) ∧ (if b m = 1 then orI (trB b m) (shlI 1 (m : Int)) else trB b m) ≤ 63
    by_cases c : b m = 1
    · rw [if_pos c]
      have s := shl01 1 (m : Int) (by omega) (by omega) (by omega) (by omega)
      exact or64 _ _ a.1 a.2 (by omega) (by omega)
    · rw [if_neg c]
      exact a
theorem trB_cg {b b2 : Nat → Int} : ∀ m : Nat, (∀ k : Nat, k < m → (b k = 1 ↔ b2 k = 1)) → trB b m = trB b2 m
  | 0, _ => rfl
  | m + 1, h => by
    have a := trB_cg (b := b) (b2 := b2) m (fun k hk => h k (by omega))
    have c := h m (by omega)
    show (if b m = 1 then orI (trB b m) (shlI 1 (m : Int)) else trB b m) = (if b2 m = 1 then orI (trB b2 m) (shlI 1 (m : Int)) else trB b2 m)
    rw [a]
    by_cases d : b m = 1
    · rw [if_pos d, if_pos (c.mp d)]
    · rw [if_neg d, if_neg (fun x => d (c.mpr x))]
theorem shl0 (m : Nat) (h : m ≤ 5) : shlI 0 (m : Int) = 0 := by
  rcases (by omega : m = 0 ∨ m = 1 ∨ m = 2 ∨ m = 3 ∨ m = 4 ∨ m = 5) with rfl | rfl | rfl | rfl | rfl | rfl <;> decide
/-- the first tick not before t -/
def fsP (T : Nat → Int) (t : Int) : Nat → Nat → Nat
  | 0, i => i
  | k + 1, i => if T i < t then fsP T t k (i + 1) else i
theorem fsP_s {T : Nat → Int} {t : Int} : ∀ (k i : Nat), i ≤ fsP T t k i ∧ fsP T t k i ≤ i + k ∧ (∀ j : Nat, i ≤ j → j < fsP T t k i → T j < t) ∧ (fsP T t k i < i + k → t ≤ T (fsP T t k i))
  | 0, i => ⟨Nat.le_refl _, Nat.le_refl _, fun j h1 h2 => absurd h2 (Nat.not_lt.mpr h1), fun h => absurd h (Nat.lt_irrefl _)⟩
  | k + 1, i => by
    have a := fsP_s (T := T) (t := t) k (i + 1)
    show i ≤ (if T i < t then fsP T t k (i + 1) else i) ∧ (if T i < t then fsP T t k (i + 1) else i) ≤ i + (k + 1) ∧ (∀ j : Nat, i ≤ j → j < (if T i < t then fsP T t k (i + 1) else i) → T j < t) ∧ ((if T i < t then fsP T t k (i + 1) else i) < i + (k + 1) → t ≤ T (if T i < t then fsP T t k (i + 1) else i))
    by_cases c : T i < t
    · rw [if_pos c]
      refine ⟨by omega, by omega, fun j h1 h2 => ?_, fun h => a.2.2.2 (by omega)⟩
      by_cases cj : j = i
      · rw [cj]
        exact c
      · exact a.2.2.1 j (by omega) h2
    · rw [if_neg c]
      exact ⟨by omega, by omega, fun j h1 h2 => by omega, fun _ => by omega⟩
def wayF (n : Int) (T S : Nat → Int) (t : Int) : Int := sL ((wyS T S (fsP T t n.toNat 0)).1 + (t - (wyS T S (fsP T t n.toNat 0)).2.1) * (wyS T S (fsP T t n.toNat 0)).2.2)
theorem wayF_R {n t : Int} {T S : Nat → Int} (h0 : 0 ≤ n) : wayR n T S t (wayF n T S t) := by
  have a := fsP_s (T := T) (t := t) n.toNat 0
  exact ⟨fsP T t n.toNat 0, by omega, fun i hi => a.2.2.1 i (by omega) hi, fun h => a.2.2.2 (by omega), rfl⟩
def wbF (n : Int) (T S : Nat → Int) (t len : Int) : Int := (wayF n T S (min t (stI n T)) + (max 0 (t - stI n T) % len) * lsI n S) % len
theorem mo_rf {n : Int} {T S : Nat → Int} : mo n T S n T S := ⟨rfl, fun _ _ => ⟨rfl, rfl⟩⟩
theorem wbR_F {n t len z : Int} {T S : Nat → Int} (h0 : 0 ≤ n) (h : wbR n T S t len z) : z = wbF n T S t len := by
  obtain ⟨w, w1, w2⟩ := h
  rw [w2, way_det mo_rf w1 (wayF_R h0)]
  rfl
theorem wbF_cg {n nR : Int} {T S TR SR : Nat → Int} (h0 : 0 ≤ n) (h : mo n T S nR TR SR) (t len : Int) : wbF n T S t len = wbF nR TR SR t len := by
  obtain ⟨e1, e2⟩ := st_cg h0 h
  have h2 : 0 ≤ nR := by have := h.1; omega
  unfold wbF
  rw [← e1, ← e2, way_det h (wayF_R h0) (wayF_R h2)]
theorem wbF_b {n : Int} {T S : Nat → Int} {t len : Int} (h : 0 < len) : 0 ≤ wbF n T S t len ∧ wbF n T S t len < len := emB _ _ h
/-- what a ring makes true, cut to n inches and begun at a -/
def trV (h : Int) (I : Nat → Int) (wb : Int → Int → Int) (cnt : Nat) (tk sd : Nat → Int) (n a : Nat) : Int := trB (fun m => bt (orU h I n (((a : Int) + wb (tk m) (n : Int)) % (n : Int)).toNat 24) (sd m)) cnt
theorem trV_cg {h : Int} {I J : Nat → Int} {wb wb2 : Int → Int → Int} {cnt : Nat} {tk sd tk2 sd2 : Nat → Int} {n a : Nat} (hn : 1 ≤ n) (hI : ∀ k : Nat, k < n → I k = J k) (hw : ∀ t : Int, wb t (n : Int) = wb2 t (n : Int)) (hm : ∀ m : Nat, m < cnt → tk m = tk2 m ∧ sd m = sd2 m) : trV h I wb cnt tk sd n a = trV h J wb2 cnt tk2 sd2 n a := by
  unfold trV
  refine trB_cg cnt (fun m hk => ?_)
  rw [(hm m hk).1, (hm m hk).2, hw, orU_cg hn hI]
theorem trV_b {h : Int} {I : Nat → Int} {wb : Int → Int → Int} {cnt : Nat} {tk sd : Nat → Int} {n a : Nat} (hc : cnt ≤ 6) : 0 ≤ trV h I wb cnt tk sd n a ∧ trV h I wb cnt tk sd n a ≤ 63 := trB_b cnt hc
end zz47v_bits
section zz47w_plan1
/-! plans: what turnings make true, the class's rows -/
def off (n : Nat) : Nat → Nat
  | 0 => 0
  | c + 1 => off n c + (n - c)
theorem off_b (n c : Nat) (hn : n ≤ 24) (hc : c < n) : off n c + (n - c) ≤ 300 := (by decide +kernel : ∀ n : Nat, n < 25 → ∀ c : Nat, c < n → off n c + (n - c) ≤ 300) n (by omega) c hc
theorem off_m (n : Nat) {c2 : Nat} : ∀ c : Nat, c2 < c → off n c2 + (n - c2) ≤ off n c
  | 0, h => absurd h (Nat.not_lt_zero _)
  | c + 1, h => by
    show off n c2 + (n - c2) ≤ off n c + (n - c)
    by_cases e : c2 = c
    · rw [e]
      exact Nat.le_refl _
    · have a := off_m n (c2 := c2) c (by omega)
      omega
set_option maxHeartbeats 1000000 in
theorem fC_trueFrom {M : zM} {a n : Nat} (hB : BN wC M) (ha : a < 24) (hn : 1 ≤ n ∧ n ≤ 24) (hw : ∀ m : Nat, (m : Int) < M 60 2 → 0 ≤ M 77 m ∧ M 77 m < (n : Int)) {Q : Int → Prop} (hQ : Q (trB (fun m => bt (M 76 (((a : Int) + M 77 m) % (n : Int)).toNat) (M 62 m)) (M 60 2).toNat)) : wC_Planner_trueFrom (a : Int) (n : Int) M Q := by
  unfold wC_Planner_trueFrom
  have bc : 0 ≤ M 60 2 ∧ M 60 2 ≤ 6 := BN.at hB (rfl : zcd wC 60 = 19) rfl
  have sc : sI (M 60 2) = M 60 2 := sIo (by omega) (by omega)
  refine pL2_of (fun x y => ∃ m : Nat, y = (m : Int) ∧ (m : Int) ≤ M 60 2 ∧ x = trB (fun m => bt (M 76 (((a : Int) + M 77 m) % (n : Int)).toNat) (M 62 m)) m) (fun _ y => (1000 - y).toNat) ⟨0, rfl, by omega, rfl⟩ (fun K x y h k => ?_)
  obtain ⟨m, rfl, h1, rfl⟩ := h
  have sm : sI (m : Int) = m := sIo (by omega) (by omega)
  have tm : ((m : Int)).toNat = m := by omega
  have rx := trB_b (b := fun m => bt (M 76 (((a : Int) + M 77 m) % (n : Int)).toNat) (M 62 m)) m (by omega)
  rw [sm, sc, tm, sIo (z := trB (fun m => bt (M 76 (((a : Int) + M 77 m) % (n : Int)).toNat) (M 62 m)) m) (by omega) (by omega)]
  refine ⟨fun c => ?_, fun c => ⟨by omega, ?_⟩⟩
  · rw [show m = (M 60 2).toNat by omega]
    exact hQ
  · have w := hw m c
    rw [sIo (z := (a : Int) + M 77 m) (by omega) (by omega)]
    refine fC_by (by omega) (by omega) ?_
    have em := emB ((a : Int) + M 77 m) (n : Int) (by omega)
    refine ⟨by omega, by omega, fun t e => k _ _ ⟨m + 1, by omega, by omega, ?_⟩ (by omega)⟩
    have b := bt_b (M 76 (((a : Int) + M 77 m) % (n : Int)).toNat) (M 62 m)
    show t = if bt (M 76 (((a : Int) + M 77 m) % (n : Int)).toNat) (M 62 m) = 1 then orI (trB (fun m => bt (M 76 (((a : Int) + M 77 m) % (n : Int)).toNat) (M 62 m)) m) (shlI 1 (m : Int)) else trB (fun m => bt (M 76 (((a : Int) + M 77 m) % (n : Int)).toNat) (M 62 m)) m
    have e : t = orI (trB (fun m => bt (M 76 (((a : Int) + M 77 m) % (n : Int)).toNat) (M 62 m)) m) (shlI (bt (M 76 (((a : Int) + M 77 m) % (n : Int)).toNat) (M 62 m)) (m : Int)) := e
    by_cases d : bt (M 76 (((a : Int) + M 77 m) % (n : Int)).toNat) (M 62 m) = 1
    · rw [if_pos d, e, d]
    · rw [if_neg d, e, show bt (M 76 (((a : Int) + M 77 m) % (n : Int)).toNat) (M 62 m) = 0 by omega, shl0 m (by omega), orI_0 (by omega)]
/-- what ring r makes true, of the class -/
def tvC (M : zM) (r c s : Nat) : Int := trV (M (41 + 4 * r) 3) (M (41 + 4 * r + 2)) (wbF (M (jmo (M (41 + 4 * r) 1)) 2) (M (jmo (M (41 + 4 * r) 1) + 1)) (M (jmo (M (41 + 4 * r) 1) + 2))) (M 60 2).toNat (M 61) (M 62) ((M (41 + 4 * r + 1) 1).toNat - c) s
theorem tvC_cg {M M1 : zM} {r c s : Nat} (h : ∀ j : Nat, (35 ≤ j ∧ j ≤ 62) → M1 j = M j) (hr : r < 4) : tvC M1 r c s = tvC M r c s := by
  unfold tvC jmo
  rw [h (41 + 4 * r) (by omega), h (41 + 4 * r + 1) (by omega), h (41 + 4 * r + 2) (by omega), h 60 (by omega), h 61 (by omega), h 62 (by omega)]
  by_cases c5 : M (41 + 4 * r) 1 = 0
  · rw [if_pos c5, h 35 (by omega), h (35 + 1) (by omega), h (35 + 2) (by omega)]
  · rw [if_neg c5, h 38 (by omega), h (38 + 1) (by omega), h (38 + 2) (by omega)]
set_option maxHeartbeats 4000000 in
theorem fC_listTrue {M : zM} {r n j : Nat} (hB : BN wC M) (hr : r < 4) (hj : j = jmo (M (41 + 4 * r) 1)) (hn : M (41 + 4 * r + 1) 1 = (n : Int)) (n1 : 1 ≤ n) {Q : zM → Prop} (hQ : ∀ M1 : zM, BN wC M1 ∧ (∀ p : Nat, ¬ (p = 65 + r ∨ p = 76 ∨ p = 77) → M1 p = M p) ∧ (∀ c s : Nat, c < n → s < n - c → M1 (65 + r) (off n c + s) = tvC M r c s) → Q M1) : wC_Planner_listTrue (41 + 4 * r) j (65 + r) M Q := by
  unfold wC_Planner_listTrue
  obtain ⟨g1, g2, g3, g4, g5, g6⟩ := rg_cd r hr
  have bl : 0 ≤ M (41 + 4 * r + 1) 1 ∧ M (41 + 4 * r + 1) 1 ≤ 24 := BN.at hB g3 rfl
  have bc : 0 ≤ M 60 2 ∧ M 60 2 ≤ 6 := BN.at hB (rfl : zcd wC 60 = 19) rfl
  obtain ⟨z1, z2⟩ := (by decide : ∀ r : Nat, r < 4 → zcd wC (65 + r) = 24 ∧ zln wC (65 + r) = 300) r hr
  have hjj : j = 35 ∨ j = 38 := by
    rw [hj]
    unfold jmo
    by_cases c5 : M (41 + 4 * r) 1 = 0
    · rw [if_pos c5]
      exact Or.inl rfl
    · rw [if_neg c5]
      exact Or.inr rfl
  have cdj : j < nC ∧ zcd wC j = 11 := by rcases hjj with e | e <;> rw [e] <;> decide
  have tv : ∀ c s : Nat, c < n → tvC M r c s = trB (fun m => bt (orU (M (41 + 4 * r) 3) (M (41 + 4 * r + 2)) (n - c) (((s : Int) + wbF (M j 2) (M (j + 1)) (M (j + 2)) (M 61 m) ((n - c : Nat) : Int)) % ((n - c : Nat) : Int)).toNat 24) (M 62 m)) (M 60 2).toNat := fun c s hc => by
    unfold tvC trV
    rw [← hj, hn, show ((n : Int)).toNat = n by omega]
  rw [hn]
  refine wL2_of (fun x y M2 => BN wC M2 ∧ (∀ p : Nat, ¬ (p = 65 + r ∨ p = 76 ∨ p = 77) → M2 p = M p) ∧ ∃ c : Nat, y = (n : Int) - (c : Int) ∧ c ≤ n ∧ x = (off n c : Int) ∧ ∀ c' s : Nat, c' < c → s < n - c' → M2 (65 + r) (off n c' + s) = tvC M r c' s) (fun _ y _ => (y + 1).toNat) ⟨hB, fun _ _ => rfl, 0, by omega, by omega, rfl, fun c' s h => absurd h (Nat.not_lt_zero c')⟩ (fun K x y M2 h k => ?_)
  obtain ⟨b2, f2, c, rfl, hc, rfl, hv⟩ := h
  have sy : sI ((n : Int) - (c : Int)) = (n : Int) - (c : Int) := sIo (by omega) (by omega)
  rw [sy]
  refine ⟨fun d => hQ _ ⟨b2, f2, fun c' s h1 h2 => hv c' s (by omega) h2⟩, fun d => ?_⟩
  have ob := off_b n c (by omega) (by omega)
  have ey : (n : Int) - (c : Int) = ((n - c : Nat) : Int) := by omega
  rw [ey]
  refine fC_fillUnder b2 (rfl : zln wC 76 = 24) (fun _ => rfl) ⟨by omega, by omega⟩ ⟨by omega, by omega⟩ (fun M22 h22 => ?_)
  obtain ⟨b22, f22, u22⟩ := h22
  rw [f2 (41 + 4 * r) (by omega), f2 (41 + 4 * r + 2) (by omega)] at u22
  have f22' : ∀ p : Nat, ¬ (p = 65 + r ∨ p = 76 ∨ p = 77) → M22 p = M p := fun p hp => (funext fun q => f22 p q (by omega)).trans (f2 p hp)
  have v22 : M22 (65 + r) = M2 (65 + r) := funext fun q => f22 (65 + r) q (by omega)
  refine wL1_of (fun w M3 => BN wC M3 ∧ (∀ p : Nat, ¬ (p = 65 + r ∨ p = 76 ∨ p = 77) → M3 p = M p) ∧ M3 (65 + r) = M2 (65 + r) ∧ M3 76 = M22 76 ∧ ∃ m : Nat, w = (m : Int) ∧ (m : Int) ≤ M 60 2 ∧ ∀ i : Nat, i < m → M3 77 i = wbF (M j 2) (M (j + 1)) (M (j + 2)) (M 61 i) ((n - c : Nat) : Int)) (fun w _ => (1000 - w).toNat) ⟨b22, f22', v22, rfl, 0, rfl, by omega, fun i h => absurd h (Nat.not_lt_zero i)⟩ (fun K2 w M3 h3 k2 => ?_)
  obtain ⟨b3, f3, v3, u3, m, rfl, hm, hw⟩ := h3
  have n3 : M3 60 = M 60 := f3 60 (by omega)
  have sc : sI (M 60 2) = M 60 2 := sIo (by omega) (by omega)
  have sm : sI (m : Int) = m := sIo (by omega) (by omega)
  have tm : ((m : Int)).toNat = m := by omega
  rw [n3, sc, sm, tm]
  refine ⟨fun d2 => ?_, fun d2 => ⟨by omega, ?_⟩⟩
  · refine wL2_of (fun x y M4 => BN wC M4 ∧ (∀ p : Nat, ¬ (p = 65 + r ∨ p = 76 ∨ p = 77) → M4 p = M p) ∧ M4 76 = M22 76 ∧ M4 77 = M3 77 ∧ ∃ s : Nat, y = (s : Int) ∧ s ≤ n - c ∧ x = ((off n c + s : Nat) : Int) ∧ (∀ c' s' : Nat, c' < c → s' < n - c' → M4 (65 + r) (off n c' + s') = tvC M r c' s') ∧ (∀ s' : Nat, s' < s → M4 (65 + r) (off n c + s') = tvC M r c s')) (fun _ y _ => (1000 - y).toNat) ⟨b3, f3, u3, rfl, 0, rfl, by omega, rfl, fun c' s' h1 h2 => by rw [v3]; exact hv c' s' h1 h2, fun s' h => absurd h (Nat.not_lt_zero s')⟩ (fun K3 x y M4 h4 k3 => ?_)
    obtain ⟨b4, f4, u4, w4, s, rfl, hs, rfl, hv4, hw4⟩ := h4
    have ss : sI (s : Int) = s := sIo (by omega) (by omega)
    have sl : sI ((n - c : Nat) : Int) = ((n - c : Nat) : Int) := sIo (by omega) (by omega)
    have sx : sI ((off n c + s : Nat) : Int) = ((off n c + s : Nat) : Int) := sIo (by omega) (by omega)
    have tx : (((off n c + s : Nat) : Int)).toNat = off n c + s := by omega
    have done : s = n - c → K ((off n c + s : Nat) : Int) (((n - c : Nat) : Int) + (-1)) M4 := fun e => by
      refine k _ _ _ ⟨b4, f4, c + 1, by omega, by omega, ?_, fun c' s' h1 h2 => ?_⟩ (by omega)
      · show ((off n c + s : Nat) : Int) = ((off n c + (n - c) : Nat) : Int)
        rw [e]
      · by_cases e2 : c' = c
        · subst e2
          exact hw4 s' (by omega)
        · exact hv4 c' s' (by omega) h2
    rw [ss, sx, tx, z2]
    refine ⟨fun d3 => done (by omega), fun d3 => ⟨fun d4 => absurd d4 (by omega), fun d4 => ?_⟩⟩
    have e60 : M4 60 = M 60 := f4 60 (by omega)
    have w77 : ∀ i : Nat, (i : Int) < M 60 2 → M4 77 i = wbF (M j 2) (M (j + 1)) (M (j + 2)) (M 61 i) ((n - c : Nat) : Int) := fun i hi => by rw [w4]; exact hw i (by omega)
    refine fC_trueFrom b4 (by omega) ⟨by omega, by omega⟩ (fun i hi => ?_) ?_
    · rw [e60] at hi
      rw [w77 i hi]
      exact wbF_b (by omega)
    · have et : trB (fun m => bt (M4 76 (((s : Int) + M4 77 m) % ((n - c : Nat) : Int)).toNat) (M4 62 m)) (M4 60 2).toNat = tvC M r c s := by
        rw [tv c s (by omega), e60]
        refine trB_cg _ (fun m hm2 => ?_)
        have em := emB ((s : Int) + wbF (M j 2) (M (j + 1)) (M (j + 2)) (M 61 m) ((n - c : Nat) : Int)) ((n - c : Nat) : Int) (by omega)
        rw [w77 m (by omega), f4 62 (by omega), u4, u22 _ (by omega)]
      rw [et]
      have bt2 : 0 ≤ tvC M r c s ∧ tvC M r c s ≤ 63 := trV_b (by omega)
      refine ⟨by omega, fun M5 e5 => ?_⟩
      refine k3 _ _ _ ⟨by rw [e5]; exact BN.up b4 z1 rfl (by omega) (by omega), fun p hp => by rw [e5, zup_row _ _ (by omega)]; exact f4 p hp, by rw [e5, zup_row _ _ (by omega)]; exact u4, by rw [e5, zup_row _ _ (by omega)]; exact w4, s + 1, by omega, by omega, by omega, fun c' s' h1 h2 => ?_, fun s' h1 => ?_⟩ (by omega)
      · have om := off_m n c h1
        rw [e5, zup_n _ _ (by omega)]
        exact hv4 c' s' h1 h2
      · rw [e5]
        by_cases c6 : s' = s
        · rw [c6, zup_s]
        · rw [zup_n _ _ (by omega)]
          exact hw4 s' (by omega)
  · have b61 : 0 ≤ M3 61 m ∧ M3 61 m ≤ 100000 := BN.at b3 (rfl : zcd wC 61 = 20) rfl
    rw [sIo (z := M3 61 m) (by omega) (by omega)]
    refine fC_wayBy b3 cdj.1 cdj.2 (by omega) (by omega) (fun z hz => ?_)
    have bj : 0 ≤ M3 j 2 ∧ M3 j 2 ≤ 12 := BN.at b3 cdj.2 rfl
    have ez := wbR_F bj.1 hz
    rw [f3 j (by omega), f3 (j + 1) (by omega), f3 (j + 2) (by omega), f3 61 (by omega)] at ez
    have bz := wbR_r (by omega) hz
    refine ⟨by omega, fun M5 e5 => ?_⟩
    refine k2 _ _ ⟨by rw [e5]; exact BN.up b3 (rfl : zcd wC 77 = 29) rfl (by omega) (by omega), fun p hp => by rw [e5, zup_row _ _ (by omega)]; exact f3 p hp, by rw [e5, zup_row _ _ (by omega)]; exact v3, by rw [e5, zup_row _ _ (by omega)]; exact u3, m + 1, by omega, by omega, fun i hi => ?_⟩ (by omega)
    rw [e5]
    by_cases c6 : i = m
    · rw [c6, zup_s, ez]
    · rw [zup_n _ _ (by omega)]
      exact hw i (by omega)
end zz47w_plan1
section zz47x_plan2
/-! plans: the class's rows of costs -/
def an (w t : Int) : Int := andI w (xorI t (-1))
theorem an_b {w t : Int} (h : 0 ≤ w ∧ w ≤ 2147483647) : 0 ≤ an w t ∧ an w t ≤ w := andI_le w _ h.1 h.2
def cstI (st : Int) (c s : Nat) : Int := 5 * (c : Int) + absI ((s : Int) - st)
theorem cstI_b {st : Int} {c s : Nat} (h : 0 ≤ st ∧ st ≤ 23) (hc : c < 24) (hs : s < 24) : 0 ≤ cstI st c s ∧ cstI st c s ≤ 200 := by
  unfold cstI
  have := absI_b ((s : Int) - st)
  omega
theorem sh_pow (m : Nat) (h : m ≤ 6) : shlI 1 (m : Int) = ((2 ^ m : Nat) : Int) := by
  rcases (by omega : m = 0 ∨ m = 1 ∨ m = 2 ∨ m = 3 ∨ m = 4 ∨ m = 5 ∨ m = 6) with rfl | rfl | rfl | rfl | rfl | rfl | rfl <;> decide
theorem pow_b (m : Nat) (h : m ≤ 6) : 1 ≤ 2 ^ m ∧ 2 ^ m ≤ 64 := by
  rcases (by omega : m = 0 ∨ m = 1 ∨ m = 2 ∨ m = 3 ∨ m = 4 ∨ m = 5 ∨ m = 6) with rfl | rfl | rfl | rfl | rfl | rfl | rfl <;> decide
theorem trB_lt {b : Nat → Int} : ∀ m : Nat, m ≤ 6 → trB b m < ((2 ^ m : Nat) : Int)
  | 0, _ => by show (0 : Int) < ((2 ^ 0 : Nat) : Int); decide
  | m + 1, h => by
    have a := trB_lt (b := b) m (by omega)
    have c := trB_b (b := b) m (by omega)
    have p := pow_b m (by omega)
    have e : (2 : Nat) ^ (m + 1) = 2 ^ m * 2 := Nat.pow_succ 2 m
    show (if b m = 1 then orI (trB b m) (shlI 1 (m : Int)) else trB b m) < ((2 ^ (m + 1) : Nat) : Int)
    by_cases d : b m = 1
    · rw [if_pos d, sh_pow m (by omega), orI_nat c.1 (by omega) (by omega) (by omega)]
      have l := Nat.or_lt_two_pow (x := (trB b m).toNat) (y := (((2 ^ m : Nat) : Int)).toNat) (n := m + 1) (by omega) (by omega)
      omega
    · rw [if_neg d]
      omega
def vld (n c s : Nat) : Prop := c < n ∧ s < n - c
def bef (c s c2 s2 : Nat) : Prop := c2 < c ∨ (c2 = c ∧ s2 < s)
theorem bef_lt {n c s c2 s2 : Nat} (h : s2 < n - c2) (h2 : c2 < c + 1) (e : s = n - c) : bef c s c2 s2 := by
  unfold bef
  by_cases e2 : c2 = c
  · subst e2
    exact Or.inr ⟨rfl, by omega⟩
  · exact Or.inl (by omega)
/-- the cheapest of those that make g true -/
def chP (P : Nat → Nat → Prop) (tv cs : Nat → Nat → Int) (g x : Int) : Prop := 0 ≤ x ∧ x ≤ 1000000 ∧ (∀ c s : Nat, P c s → tv c s = g → x ≤ cs c s) ∧ (x = 1000000 ∨ ∃ c s : Nat, P c s ∧ tv c s = g ∧ x = cs c s)
theorem fC_cost {M : zM} {r c s : Nat} (hB : BN wC M) (hr : r < 4) (hc : c < 24) (hs : s < 24) {Q : Int → Prop} (hQ : Q (cstI (M (41 + 4 * r) 2) c s)) : wC_Planner_cost (41 + 4 * r) (c : Int) (s : Int) M Q := by
  unfold wC_Planner_cost
  obtain ⟨g1, g2, -⟩ := rg_cd r hr
  have bs : 0 ≤ M (41 + 4 * r) 2 ∧ M (41 + 4 * r) 2 ≤ 23 := BN.at hB g2 rfl
  have b := cstI_b (c := c) (s := s) bs hc hs
  unfold cstI at b hQ
  rw [sIo (z := (s : Int) - M (41 + 4 * r) 2) (by omega) (by omega), sIo (by omega) (by omega)]
  exact hQ
theorem fC_fill {M : zM} {a0 N : Nat} {v : Int} (hB : BN wC M) (hN : zln wC a0 = N) (hN2 : N ≤ 1000) {q : Nat} {lo hi : Int} (hq : zcd wC a0 = q) (hbd : ∀ k, cbt q k = (lo, hi)) (hv : lo ≤ v ∧ v ≤ hi) {Q : zM → Prop} (hQ : ∀ M1 : zM, BN wC M1 ∧ (∀ p : Nat, p ≠ a0 → M1 p = M p) ∧ (∀ k : Nat, k < N → M1 a0 k = v) → Q M1) : wC_fill a0 v M Q := by
  unfold wC_fill
  rw [hN]
  refine wL1_of (fun x M2 => BN wC M2 ∧ (∀ p : Nat, p ≠ a0 → M2 p = M p) ∧ ∃ i : Nat, x = (i : Int) ∧ i ≤ N ∧ ∀ k : Nat, k < i → M2 a0 k = v) (fun x _ => (2000 - x).toNat) ⟨hB, fun _ _ => rfl, 0, rfl, by omega, fun k h => absurd h (Nat.not_lt_zero k)⟩ (fun K x M2 h k => ?_)
  obtain ⟨b2, f2, i, rfl, i1, hv2⟩ := h
  have si : sI (i : Int) = i := sIo (by omega) (by omega)
  have ti : ((i : Int)).toNat = i := by omega
  rw [si, ti]
  refine ⟨fun c => hQ _ ⟨b2, f2, fun k hk => hv2 k (by omega)⟩, fun c => ⟨by omega, fun M3 e3 => ?_⟩⟩
  refine k _ _ ⟨by rw [e3]; exact BN.up b2 hq (hbd i) hv.1 hv.2, fun p hp => by rw [e3, zup_row _ _ hp]; exact f2 p hp, i + 1, by omega, by omega, fun k hk => ?_⟩ (by omega)
  rw [e3]
  by_cases c5 : k = i
  · rw [c5, zup_s]
  · rw [zup_n _ _ (fun x => c5 x.2)]
    exact hv2 k (by omega)
set_option maxHeartbeats 4000000 in
theorem fC_listCheapest {M : zM} {r n : Nat} {tv : Nat → Nat → Int} (hB : BN wC M) (hr : r < 4) (hn : M (41 + 4 * r + 1) 1 = (n : Int)) (ht : ∀ c s : Nat, vld n c s → M (65 + r) (off n c + s) = tv c s) (hb : ∀ c s : Nat, 0 ≤ tv c s ∧ tv c s ≤ 63) {Q : zM → Prop} (hQ : ∀ M1 : zM, BN wC M1 ∧ (∀ p : Nat, p ≠ 75 → M1 p = M p) ∧ (∀ g : Nat, g < 64 → chP (vld n) tv (cstI (M (41 + 4 * r) 2)) (g : Int) (M1 75 g)) → Q M1) : wC_Planner_listCheapest (41 + 4 * r) (65 + r) M Q := by
  unfold wC_Planner_listCheapest
  obtain ⟨g1, g2, g3, g4, g5, g6⟩ := rg_cd r hr
  have bl : 0 ≤ M (41 + 4 * r + 1) 1 ∧ M (41 + 4 * r + 1) 1 ≤ 24 := BN.at hB g3 rfl
  have bs : 0 ≤ M (41 + 4 * r) 2 ∧ M (41 + 4 * r) 2 ≤ 23 := BN.at hB g2 rfl
  obtain ⟨z1, z2⟩ := (by decide : ∀ r : Nat, r < 4 → zcd wC (65 + r) = 24 ∧ zln wC (65 + r) = 300) r hr
  refine fC_fill (N := 64) hB (rfl : zln wC 75 = 64) (by omega) (rfl : zcd wC 75 = 27) (fun _ => rfl) (by omega) (fun M7 h7 => ?_)
  obtain ⟨b7, f7, v7⟩ := h7
  refine wL2_of (fun x y M2 => BN wC M2 ∧ (∀ p : Nat, p ≠ 75 → M2 p = M p) ∧ ∃ c : Nat, y = (c : Int) ∧ c ≤ n ∧ x = (off n c : Int) ∧ ∀ g : Nat, g < 64 → chP (fun c2 s2 => vld n c2 s2 ∧ c2 < c) tv (cstI (M (41 + 4 * r) 2)) (g : Int) (M2 75 g)) (fun _ y _ => (1000 - y).toNat) ⟨b7, f7, 0, rfl, by omega, rfl, fun g hg => ⟨by rw [v7 g hg]; omega, by rw [v7 g hg]; omega, fun c s h => absurd h.2 (Nat.not_lt_zero c), Or.inl (v7 g hg)⟩⟩ (fun K x y M2 h k => ?_)
  obtain ⟨b2, f2, c, rfl, hc, rfl, hv⟩ := h
  have sy : sI (c : Int) = c := sIo (by omega) (by omega)
  have l2 : M2 (41 + 4 * r + 1) 1 = (n : Int) := by rw [f2 _ (by omega)]; exact hn
  have sn : sI (n : Int) = n := sIo (by omega) (by omega)
  rw [sy, l2, sn]
  refine ⟨fun d => hQ _ ⟨b2, f2, fun g hg => ?_⟩, fun d => ?_⟩
  · obtain ⟨a1, a2, a3, a4⟩ := hv g hg
    refine ⟨a1, a2, fun c2 s2 h2 => a3 c2 s2 ⟨h2, by have := h2.1; omega⟩, ?_⟩
    rcases a4 with a4 | ⟨c2, s2, p1, p2⟩
    · exact Or.inl a4
    · exact Or.inr ⟨c2, s2, p1.1, p2⟩
  have ob := off_b n c (by omega) (by omega)
  refine wL2_of (fun x y M4 => BN wC M4 ∧ (∀ p : Nat, p ≠ 75 → M4 p = M p) ∧ ∃ s : Nat, y = (s : Int) ∧ s ≤ n - c ∧ x = ((off n c + s : Nat) : Int) ∧ ∀ g : Nat, g < 64 → chP (fun c2 s2 => vld n c2 s2 ∧ bef c s c2 s2) tv (cstI (M (41 + 4 * r) 2)) (g : Int) (M4 75 g)) (fun _ y _ => (1000 - y).toNat) ⟨b2, f2, 0, rfl, by omega, rfl, fun g hg => ?_⟩ (fun K3 x y M4 h4 k3 => ?_)
  · obtain ⟨a1, a2, a3, a4⟩ := hv g hg
    refine ⟨a1, a2, fun c2 s2 h2 => a3 c2 s2 ⟨h2.1, by have := h2.2; unfold bef at this; omega⟩, ?_⟩
    rcases a4 with a4 | ⟨c2, s2, p1, p2⟩
    · exact Or.inl a4
    · exact Or.inr ⟨c2, s2, ⟨p1.1, Or.inl p1.2⟩, p2⟩
  obtain ⟨b4, f4, s, rfl, hs, rfl, hw⟩ := h4
  have ss : sI (s : Int) = s := sIo (by omega) (by omega)
  have l4 : M4 (41 + 4 * r + 1) 1 = (n : Int) := by rw [f4 _ (by omega)]; exact hn
  have sl : sI ((n : Int) - (c : Int)) = ((n - c : Nat) : Int) := by rw [sIo (by omega) (by omega)]; omega
  have sx : sI ((off n c + s : Nat) : Int) = ((off n c + s : Nat) : Int) := sIo (by omega) (by omega)
  have tx : (((off n c + s : Nat) : Int)).toNat = off n c + s := by omega
  have done : s = n - c → K ((off n c + s : Nat) : Int) ((c : Int) + 1) M4 := fun e => by
    refine k _ _ _ ⟨b4, f4, c + 1, by omega, by omega, by show ((off n c + s : Nat) : Int) = ((off n c + (n - c) : Nat) : Int); rw [e], fun g hg => ?_⟩ (by omega)
    obtain ⟨a1, a2, a3, a4⟩ := hw g hg
    refine ⟨a1, a2, fun c2 s2 h2 => a3 c2 s2 ⟨h2.1, bef_lt h2.1.2 h2.2 e⟩, ?_⟩
    rcases a4 with a4 | ⟨c2, s2, p1, p2⟩
    · exact Or.inl a4
    · exact Or.inr ⟨c2, s2, ⟨p1.1, by have := p1.2; unfold bef at this; omega⟩, p2⟩
  rw [ss, l4, sl, sx, tx, z2]
  refine ⟨fun d3 => done (by omega), fun d3 => ⟨fun d4 => absurd d4 (by omega), fun d4 => ?_⟩⟩
  have vv : vld n c s := ⟨by omega, by omega⟩
  have e65 : M4 (65 + r) (off n c + s) = tv c s := by rw [f4 _ (by omega)]; exact ht c s vv
  have tb := hb c s
  have st : sI (tv c s) = tv c s := sIo (by omega) (by omega)
  rw [e65, st]
  refine ⟨by omega, by omega, by omega, ?_⟩
  refine fC_cost b4 hr (by omega) (by omega) ?_
  rw [f4 (41 + 4 * r) (by omega)]
  have cb := cstI_b (c := c) (s := s) bs (by omega) (by omega)
  have hh := hw (tv c s).toNat (by omega)
  rw [show (((tv c s).toNat : Nat) : Int) = tv c s by omega] at hh
  obtain ⟨x1, x2, x3, x4⟩ := hh
  rw [sIo (z := M4 75 (tv c s).toNat) (by omega) (by omega)]
  refine ⟨by omega, fun M5 e5 => ?_⟩
  refine k3 _ _ _ ⟨by rw [e5]; exact BN.up b4 (rfl : zcd wC 75 = 27) rfl (by omega) (by omega), fun p hp => by rw [e5, zup_row _ _ hp]; exact f4 p hp, s + 1, by omega, by omega, by omega, fun g hg => ?_⟩ (by omega)
  have bb : ∀ c2 s2 : Nat, bef c (s + 1) c2 s2 → bef c s c2 s2 ∨ (c2 = c ∧ s2 = s) := fun c2 s2 h => by unfold bef at h ⊢; omega
  have b1 : ∀ c2 s2 : Nat, bef c s c2 s2 → bef c (s + 1) c2 s2 := fun c2 s2 h => by unfold bef at h ⊢; omega
  obtain ⟨a1, a2, a3, a4⟩ := hw g hg
  rw [e5]
  by_cases cg : g = (tv c s).toNat
  · rw [cg, zup_s]
    have eg : (((tv c s).toNat : Nat) : Int) = tv c s := by omega
    rw [eg]
    refine ⟨by omega, by omega, fun c2 s2 h2 h3 => ?_, ?_⟩
    · rcases bb c2 s2 h2.2 with h4 | ⟨rfl, rfl⟩
      · have := x3 c2 s2 ⟨h2.1, h4⟩ h3
        omega
      · omega
    · by_cases cm : M4 75 (tv c s).toNat ≤ cstI (M (41 + 4 * r) 2) c s
      · rw [show min (M4 75 (tv c s).toNat) (cstI (M (41 + 4 * r) 2) c s) = M4 75 (tv c s).toNat by omega]
        rcases x4 with x4 | ⟨c2, s2, p1, p2⟩
        · exact Or.inl x4
        · exact Or.inr ⟨c2, s2, ⟨p1.1, b1 _ _ p1.2⟩, p2⟩
      · rw [show min (M4 75 (tv c s).toNat) (cstI (M (41 + 4 * r) 2) c s) = cstI (M (41 + 4 * r) 2) c s by omega]
        exact Or.inr ⟨c, s, ⟨vv, Or.inr ⟨rfl, by omega⟩⟩, rfl, rfl⟩
  · rw [zup_n _ _ (by omega)]
    refine ⟨a1, a2, fun c2 s2 h2 h3 => ?_, ?_⟩
    · rcases bb c2 s2 h2.2 with h4 | ⟨rfl, rfl⟩
      · exact a3 c2 s2 ⟨h2.1, h4⟩ h3
      · omega
    · rcases a4 with a4 | ⟨c2, s2, p1, p2⟩
      · exact Or.inl a4
      · exact Or.inr ⟨c2, s2, ⟨p1.1, b1 _ _ p1.2⟩, p2⟩
end zz47x_plan2
section zz47y_plan3
/-! plans: the class's sums of costs and its choice -/
def plP (n : Nat) (tv cs : Nat → Nat → Int) (beh : Int → Int) (NV w x : Int) : Prop := 0 ≤ x ∧ x ≤ NV ∧ (∀ c s : Nat, vld n c s → x ≤ cs c s + beh (an w (tv c s))) ∧ (x = NV ∨ ∃ c s : Nat, vld n c s ∧ x = cs c s + beh (an w (tv c s)))
def fsP2 (n : Nat) (tv cs : Nat → Nat → Int) (beh : Int → Int) (w X : Int) (c s : Nat) : Prop := vld n c s ∧ cs c s + beh (an w (tv c s)) = X ∧ ∀ c2 s2 : Nat, vld n c2 s2 → bef c s c2 s2 → cs c2 s2 + beh (an w (tv c2 s2)) ≠ X
theorem co_cd (i : Nat) (h : i < 5) : zcd wC (70 + i) = 26 ∧ zln wC (70 + i) = 64 := (by decide : ∀ i : Nat, i < 5 → zcd wC (70 + i) = 26 ∧ zln wC (70 + i) = 64) i h
set_option maxHeartbeats 2000000 in
theorem fC_addCosts {M : zM} {i n m : Nat} {tv cs : Nat → Nat → Int} (hB : BN wC M) (hi : i < 4) (hm : M 60 2 = (m : Int)) (hch : ∀ g : Nat, g < 64 → chP (vld n) tv cs (g : Int) (M 75 g)) (htv : ∀ c s : Nat, 0 ≤ tv c s ∧ tv c s < ((2 ^ m : Nat) : Int)) {Q : zM → Prop} (hQ : ∀ M1 : zM, BN wC M1 ∧ (∀ p : Nat, p ≠ 70 + i → M1 p = M p) ∧ (∀ w : Nat, w < 2 ^ m → plP n tv cs (fun u => M (70 + (i + 1)) u.toNat) 1000000 (w : Int) (M1 (70 + i) w)) → Q M1) : wC_Planner_addCosts (70 + (i + 1)) (70 + i) M Q := by
  unfold wC_Planner_addCosts
  have bc : 0 ≤ M 60 2 ∧ M 60 2 ≤ 6 := BN.at hB (rfl : zcd wC 60 = 19) rfl
  have m6 : m ≤ 6 := by omega
  have pw := pow_b m m6
  obtain ⟨z1, z2⟩ := co_cd i (by omega)
  obtain ⟨z3, z4⟩ := co_cd (i + 1) (by omega)
  rw [hm, sh_pow m m6]
  refine wL1_of (fun x M2 => BN wC M2 ∧ (∀ p : Nat, p ≠ 70 + i → M2 p = M p) ∧ ∃ w : Nat, x = (w : Int) ∧ w ≤ 2 ^ m ∧ ∀ u : Nat, u < w → plP n tv cs (fun u => M (70 + (i + 1)) u.toNat) 1000000 (u : Int) (M2 (70 + i) u)) (fun x _ => (1000 - x).toNat) ⟨hB, fun _ _ => rfl, 0, rfl, by omega, fun u h => absurd h (Nat.not_lt_zero u)⟩ (fun K x M2 h k => ?_)
  obtain ⟨b2, f2, w, rfl, hw, hv⟩ := h
  have sw : sI (w : Int) = w := sIo (by omega) (by omega)
  have tw : ((w : Int)).toNat = w := by omega
  rw [sw]
  refine ⟨fun d => hQ _ ⟨b2, f2, fun u hu => hv u (by omega)⟩, fun d => ?_⟩
  refine pL2_of (fun x y => ∃ g : Nat, y = (g : Int) ∧ g ≤ 2 ^ m ∧ 0 ≤ x ∧ x ≤ 1000000 ∧ (∀ u : Nat, u < g → x ≤ M 75 u + M (70 + (i + 1)) (an (w : Int) (u : Int)).toNat) ∧ (x = 1000000 ∨ ∃ u : Nat, u < g ∧ x = M 75 u + M (70 + (i + 1)) (an (w : Int) (u : Int)).toNat)) (fun _ y => (1000 - y).toNat) ⟨0, rfl, by omega, by omega, by omega, fun u h => absurd h (Nat.not_lt_zero u), Or.inl rfl⟩ (fun K3 x y h3 k3 => ?_)
  obtain ⟨g, rfl, hg, x0, x1, x2, x3⟩ := h3
  have sg : sI (g : Int) = g := sIo (by omega) (by omega)
  have tg : ((g : Int)).toNat = g := by omega
  have sx : sI x = x := sIo (by omega) (by omega)
  rw [sg, tg, tw, sx]
  refine ⟨fun d2 => ⟨by rw [z2]; omega, fun M5 e5 => ?_⟩, fun d2 => ⟨by omega, ?_⟩⟩
  · refine k _ _ ⟨by rw [e5]; exact BN.up b2 z1 rfl (by omega) (by omega), fun p hp => by rw [e5, zup_row _ _ hp]; exact f2 p hp, w + 1, by omega, by omega, fun u hu => ?_⟩ (by omega)
    rw [e5]
    by_cases c5 : u = w
    · rw [c5, zup_s]
      refine ⟨x0, x1, fun c s hv => ?_, ?_⟩
      · obtain ⟨t1, t2⟩ := htv c s
        have a := x2 (tv c s).toNat (by omega)
        obtain ⟨-, -, c3, -⟩ := hch (tv c s).toNat (by omega)
        have c4 := c3 c s hv (by omega)
        rw [show (((tv c s).toNat : Nat) : Int) = tv c s by omega] at a
        show x ≤ cs c s + M (70 + (i + 1)) (an (w : Int) (tv c s)).toNat
        omega
      · rcases x3 with x3 | ⟨u, hu, x3⟩
        · exact Or.inl x3
        · obtain ⟨c1, c2, c3, c4⟩ := hch u (by omega)
          have bw : 0 ≤ M (70 + (i + 1)) (an (w : Int) (u : Int)).toNat ∧ M (70 + (i + 1)) (an (w : Int) (u : Int)).toNat ≤ 1000000 := BN.at hB z3 rfl
          rcases c4 with c4 | ⟨c, s, hv, e1, e2⟩
          · exact Or.inl (by omega)
          · refine Or.inr ⟨c, s, hv, ?_⟩
            show x = cs c s + M (70 + (i + 1)) (an (w : Int) (tv c s)).toNat
            rw [e1]
            omega
    · rw [zup_n _ _ (by omega)]
      exact hv u (by omega)
  · have ab : 0 ≤ andI (w : Int) (xorI (g : Int) (-1)) ∧ andI (w : Int) (xorI (g : Int) (-1)) ≤ (w : Int) := an_b (by omega)
    rw [z4, f2 75 (by omega), f2 (70 + (i + 1)) (by omega)]
    obtain ⟨c1, c2, -, -⟩ := hch g (by omega)
    have bw : 0 ≤ M (70 + (i + 1)) (andI (w : Int) (xorI (g : Int) (-1))).toNat ∧ M (70 + (i + 1)) (andI (w : Int) (xorI (g : Int) (-1))).toNat ≤ 1000000 := BN.at hB z3 rfl
    rw [sIo (z := M 75 g + M (70 + (i + 1)) (andI (w : Int) (xorI (g : Int) (-1))).toNat) (by omega) (by omega)]
    refine ⟨by omega, fun t e => k3 _ _ ⟨g + 1, by omega, by omega, by omega, by omega, fun u hu => ?_, ?_⟩ (by omega)⟩
    · by_cases c6 : u = g
      · rw [c6]
        show t ≤ M 75 g + M (70 + (i + 1)) (andI (w : Int) (xorI (g : Int) (-1))).toNat
        omega
      · have := x2 u (by omega)
        omega
    · by_cases c6 : x ≤ M 75 g + M (70 + (i + 1)) (andI (w : Int) (xorI (g : Int) (-1))).toNat
      · rcases x3 with x3 | ⟨u, hu, x3⟩
        · exact Or.inl (by omega)
        · exact Or.inr ⟨u, by omega, by omega⟩
      · refine Or.inr ⟨g, by omega, ?_⟩
        show t = M 75 g + M (70 + (i + 1)) (andI (w : Int) (xorI (g : Int) (-1))).toNat
        omega
set_option maxHeartbeats 2000000 in
theorem fC_choose {M : zM} {i n w : Nat} {tv : Nat → Nat → Int} (hB : BN wC M) (hi : i < 4) (hn : M (41 + 4 * i + 1) 1 = (n : Int)) (ht : ∀ c s : Nat, vld n c s → M (65 + i) (off n c + s) = tv c s) (hw : w < 64) (hex : ∃ c s : Nat, vld n c s ∧ M (70 + i) w = cstI (M (41 + 4 * i) 2) c s + M (70 + (i + 1)) (an (w : Int) (tv c s)).toNat) {Q : Int → zM → Prop} (hQ : ∀ (z : Int) (M1 : zM), (∃ c s : Nat, fsP2 n tv (cstI (M (41 + 4 * i) 2)) (fun u => M (70 + (i + 1)) u.toNat) (w : Int) (M (70 + i) w) c s ∧ z = an (w : Int) (tv c s) ∧ M1 = zup (zup M 63 (2 * i) (c : Int)) 63 (2 * i + 1) (s : Int)) → Q z M1) : wC_Planner_choose (some (41 + 4 * i)) (i : Int) (w : Int) M Q := by
  unfold wC_Planner_choose
  refine ⟨(fun h => nomatch h), fun q hq => ?_⟩
  obtain rfl := Option.some.inj hq
  obtain ⟨g1, g2, g3, g4, g5, g6⟩ := rg_cd i hi
  have bl : 0 ≤ M (41 + 4 * i + 1) 1 ∧ M (41 + 4 * i + 1) 1 ≤ 24 := BN.at hB g3 rfl
  have bs : 0 ≤ M (41 + 4 * i) 2 ∧ M (41 + 4 * i) 2 ≤ 23 := BN.at hB g2 rfl
  obtain ⟨z1, z2⟩ := co_cd i (by omega)
  obtain ⟨z3, z4⟩ := co_cd (i + 1) (by omega)
  have si : sI (i : Int) = i := sIo (by omega) (by omega)
  have si1 : sI ((i : Int) + 1) = ((i + 1 : Nat) : Int) := by rw [sIo (by omega) (by omega)]; omega
  have sn : sI (n : Int) = n := sIo (by omega) (by omega)
  have sw : sI (w : Int) = w := sIo (by omega) (by omega)
  have ti : ((i : Int)).toNat = i := by omega
  have ti1 : (((i + 1 : Nat) : Int)).toNat = i + 1 := by omega
  have tw : ((w : Int)).toNat = w := by omega
  have s2i : sI (2 * (i : Int)) = ((2 * i : Nat) : Int) := by rw [sIo (by omega) (by omega)]; omega
  have s2j : sI (2 * (i : Int) + 1) = ((2 * i + 1 : Nat) : Int) := by rw [sIo (by omega) (by omega)]; omega
  have t2i : (((2 * i : Nat) : Int)).toNat = 2 * i := by omega
  have t2j : (((2 * i + 1 : Nat) : Int)).toNat = 2 * i + 1 := by omega
  refine pL2_of (fun x y => ∃ c : Nat, y = (c : Int) ∧ c ≤ n ∧ x = (off n c : Int) ∧ ∀ c2 s2 : Nat, vld n c2 s2 → c2 < c → cstI (M (41 + 4 * i) 2) c2 s2 + M (70 + (i + 1)) (an (w : Int) (tv c2 s2)).toNat ≠ M (70 + i) w) (fun _ y => (1000 - y).toNat) ⟨0, rfl, by omega, rfl, fun c s _ h => absurd h (Nat.not_lt_zero c)⟩ (fun K x y h k => ?_)
  obtain ⟨c, rfl, hc, rfl, hv⟩ := h
  have sc : sI (c : Int) = c := sIo (by omega) (by omega)
  rw [hn, sn, sc]
  refine ⟨fun d => ?_, fun d => ?_⟩
  · obtain ⟨c2, s2, v2, e2⟩ := hex
    exact absurd e2.symm (hv c2 s2 v2 (by have := v2.1; omega))
  have ob := off_b n c (by omega) (by omega)
  refine pL2_of (fun x y => ∃ s : Nat, y = (s : Int) ∧ s ≤ n - c ∧ x = ((off n c + s : Nat) : Int) ∧ ∀ c2 s2 : Nat, vld n c2 s2 → bef c s c2 s2 → cstI (M (41 + 4 * i) 2) c2 s2 + M (70 + (i + 1)) (an (w : Int) (tv c2 s2)).toNat ≠ M (70 + i) w) (fun _ y => (1000 - y).toNat) ⟨0, rfl, by omega, rfl, fun c2 s2 h2 h3 => hv c2 s2 h2 (by unfold bef at h3; omega)⟩ (fun K3 x y h3 k3 => ?_)
  obtain ⟨s, rfl, hs, rfl, hu⟩ := h3
  have ss : sI (s : Int) = s := sIo (by omega) (by omega)
  have snc : sI ((n : Int) - (c : Int)) = ((n - c : Nat) : Int) := by rw [sIo (by omega) (by omega)]; omega
  have sx : sI ((off n c + s : Nat) : Int) = ((off n c + s : Nat) : Int) := sIo (by omega) (by omega)
  have tx : (((off n c + s : Nat) : Int)).toNat = off n c + s := by omega
  have done : s = n - c → K ((off n c + s : Nat) : Int) ((c : Int) + 1) := fun e => by
    refine k _ _ ⟨c + 1, by omega, by omega, ?_, fun c2 s2 h2 h3 => hu c2 s2 h2 ?_⟩ (by omega)
    · show ((off n c + s : Nat) : Int) = ((off n c + (n - c) : Nat) : Int)
      rw [e]
    · have h4 := h2.2
      unfold bef
      by_cases e2 : c2 = c
      · subst e2
        exact Or.inr ⟨rfl, by omega⟩
      · exact Or.inl (by omega)
  rw [ss, snc, sx, tx, si, si1, ti, ti1, sw, tw, s2i, s2j, t2i, t2j]
  refine ⟨fun d3 => done (by omega), fun d3 => ⟨fun d4 => absurd d4 (by omega), fun d4 => ?_⟩⟩
  have vv : vld n c s := ⟨by omega, by omega⟩
  have et : M (65 + 1 * i) (off n c + s) = tv c s := by rw [Nat.one_mul]; exact ht c s vv
  refine ⟨by omega, by omega, fun t e => ?_⟩
  have e : t = an (w : Int) (tv c s) := by rw [e, et]; rfl
  have ab : 0 ≤ an (w : Int) (tv c s) ∧ an (w : Int) (tv c s) ≤ (w : Int) := an_b (by omega)
  refine fC_cost hB hi (by omega) (by omega) ?_
  have cb := cstI_b (c := c) (s := s) bs (by omega) (by omega)
  rw [Nat.one_mul, Nat.one_mul]
  have bw : 0 ≤ M (70 + (i + 1)) t.toNat ∧ M (70 + (i + 1)) t.toNat ≤ 1000000 := BN.at hB z3 rfl
  have bx : 0 ≤ M (70 + i) w ∧ M (70 + i) w ≤ 1000000 := BN.at hB z1 rfl
  rw [sIo (z := cstI (M (41 + 4 * i) 2) c s + M (70 + (i + 1)) t.toNat) (by omega) (by omega), sIo (z := M (70 + i) w) (by omega) (by omega)]
  refine ⟨by omega, by omega, by omega, by omega, fun d5 => ?_, fun d5 => ⟨by omega, fun M5 e5 => ⟨by omega, fun M6 e6 => ?_⟩⟩⟩
  · refine k3 _ _ ⟨s + 1, by omega, by omega, by omega, fun c2 s2 h2 h3 => ?_⟩ (by omega)
    by_cases c6 : c2 = c ∧ s2 = s
    · rw [c6.1, c6.2, ← e]
      exact d5
    · exact hu c2 s2 h2 (by unfold bef at h3 ⊢; omega)
  · refine hQ _ _ ⟨c, s, ⟨vv, ?_, hu⟩, e, by rw [e6, e5]⟩
    show cstI (M (41 + 4 * i) 2) c s + M (70 + (i + 1)) (an (w : Int) (tv c s)).toNat = M (70 + i) w
    rw [← e]
    exact d5
end zz47y_plan3
