/-! strips of the class, by what they hold -/
abbrev SV : Type := Nat × (Nat → Int)
def isS (M : zM) (j : Nat) (x : SV) : Prop := M j 1 = (x.1 : Int) ∧ ∀ k : Nat, k < x.1 → M (j + 1) k = x.2 k
theorem isS_cg {M M1 : zM} {j : Nat} {x : SV} (h : isS M j x) (e1 : M1 j 1 = M j 1) (e2 : ∀ k, M1 (j + 1) k = M (j + 1) k) : isS M1 j x := ⟨by rw [e1]; exact h.1, fun k hk => by rw [e2]; exact h.2 k hk⟩
def turnV (x : SV) : SV := (x.1, fun k => x.2 (x.1 - 1 - k))
def repV (x : SV) (t : Nat) : SV := (x.1 * t, fun k => x.2 (k % x.1))
def layV (r t : SV) (d : Nat) : SV := (r.1 + t.1 - d, fun k => if k < r.1 - d then r.2 k else orI (t.2 (k - (r.1 - d))) (if k < r.1 then r.2 k else 0))
def addV (x : SV) (b : Int) : SV := (x.1, fun k => if k = 0 then orI (x.2 0) b else x.2 k)
theorem fC_copy {M : zM} {j a0 : Nat} {x : SV} (hB : BN wC M) (cd_j : zcd wC j = 6) (cd_j1 : zcd wC (j + 1) = 7) (cd_a : zcd wC a0 = 6) (ha : a0 ≠ j ∧ a0 ≠ j + 1 ∧ a0 + 1 ≠ j) (h : isS M a0 x) {Q : zM → Prop} (hQ : ∀ M1 : zM, BN wC M1 ∧ (∀ a b : Nat, ¬ (a = j ∧ b = 1 ∨ a = j + 1) → M1 a b = M a b) ∧ isS M1 j x ∧ (∀ k : Nat, k < 24 → M1 (j + 1) k = M (a0 + 1) k) → Q M1) : wC_Strip_copy j a0 M Q := by
  unfold wC_Strip_copy
  obtain ⟨h1, h2⟩ := h
  have bl : 0 ≤ M a0 1 ∧ M a0 1 ≤ 24 := BN.at hB cd_a rfl
  intro M5 e5
  have b5 : BN wC M5 := by rw [e5]; exact BN.up hB cd_j rfl (by omega) (by omega)
  refine ⟨by omega, fun M8 e8 => ?_⟩
  have b8 : BN wC M8 := by rw [e8]; exact BN.cp b5 cd_j1 (fun _ => rfl) (fun k => BN.r32 b5 _ k)
  have row : ∀ k : Nat, k < 24 → M8 (j + 1) k = M (a0 + 1) k := fun k hk => by
    rw [e8]
    unfold zcp
    rw [if_pos ⟨rfl, Nat.zero_le _, by show k < 0 + 24; omega⟩, e5, zup_n _ _ (by omega)]
    show M (a0 + 1) (0 + (k - 0)) = M (a0 + 1) k
    rw [Nat.zero_add, Nat.sub_zero]
  have fr : ∀ a b : Nat, ¬ (a = j ∧ b = 1 ∨ a = j + 1) → M8 a b = M a b := fun a b hab => by
    rw [e8, zcp_row (by omega), e5, zup_n _ _ (by omega)]
  have len : M8 j 1 = M a0 1 := by rw [e8, zcp_row (by omega), e5, zup_s]
  exact hQ _ ⟨b8, fr, ⟨by rw [len]; exact h1, fun k hk => by rw [row k (by omega)]; exact h2 k hk⟩, row⟩
theorem fC_becomeInch {M : zM} {j : Nat} {a0 : Int} (hB : BN wC M) (cd_j : zcd wC j = 6) (cd_j1 : zcd wC (j + 1) = 7) (v0 : -2147483648 ≤ a0 ∧ a0 ≤ 2147483647) {Q : zM → Prop} (hQ : ∀ M1 : zM, BN wC M1 ∧ (∀ a b : Nat, ¬ (a = j ∧ b = 1 ∨ a = j + 1) → M1 a b = M a b) ∧ isS M1 j (1, fun _ => a0) → Q M1) : wC_Strip_becomeInch j a0 M Q := by
  unfold wC_Strip_becomeInch
  intro M3 e3 M5 e5
  have b3 : BN wC M3 := by rw [e3]; exact BN.up hB cd_j1 rfl v0.1 v0.2
  have b5 : BN wC M5 := by rw [e5]; exact BN.up b3 cd_j rfl (by omega) (by omega)
  refine hQ _ ⟨b5, fun a b hab => by rw [e5, zup_n _ _ (by omega), e3, zup_n _ _ (by omega)], by rw [e5, zup_s]; rfl, fun k hk => ?_⟩
  have hk : k < 1 := hk
  rw [e5, zup_n _ _ (by omega), e3, show k = 0 by omega, zup_s]
theorem fC_addTo {M : zM} {j : Nat} {a1 : Int} {x : SV} (hB : BN wC M) (lt_j : j < nC) (cd_j : zcd wC j = 6) (cd_j1 : zcd wC (j + 1) = 7) (h : isS M j x) {Q : zM → Prop} (hQ : ∀ M1 : zM, BN wC M1 ∧ (∀ a b : Nat, ¬ (a = j + 1) → M1 a b = M a b) ∧ isS M1 j (addV x a1) → Q M1) : wC_Strip_addTo j 0 a1 M Q := by
  unfold wC_Strip_addTo
  obtain ⟨h1, h2⟩ := h
  have s0 : sI (0 : Int) = 0 := sIo (by omega) (by omega)
  refine sC_Strip_has hB lt_j cd_j (by omega) (fun z p => ?_)
  obtain ⟨-, p1, -⟩ := p
  refine ⟨fun c => hQ _ ⟨hB, fun _ _ _ => rfl, h1, fun k hk => ?_⟩, fun c => ?_⟩
  · have hk : k < x.1 := hk
    exfalso
    omega
  · rw [s0]
    refine ⟨by omega, by omega, fun M3 e3 => ?_⟩
    refine hQ _ ⟨by rw [e3]; exact BN.up hB cd_j1 rfl (orI_R _ _).1 (orI_R _ _).2, fun a b hab => by rw [e3, zup_n _ _ (by omega)], by rw [e3, zup_n _ _ (by omega)]; exact h1, fun k hk => ?_⟩
    have hk : k < x.1 := hk
    show M3 (j + 1) k = if k = 0 then orI (x.2 0) a1 else x.2 k
    rw [e3, show (0 : Int).toNat = 0 from rfl]
    by_cases c5 : k = 0
    · rw [c5, zup_s, if_pos rfl, h2 0 (by omega)]
    · rw [zup_n _ _ (by omega), if_neg c5]
      exact h2 k hk
set_option maxHeartbeats 1000000 in
theorem fC_repeat {M : zM} {j : Nat} {a0 : Int} {x : SV} {t : Nat} (hB : BN wC M) (cd_j : zcd wC j = 6) (cd_j1 : zcd wC (j + 1) = 7) (h : isS M j x) (ht : a0 = (t : Int)) (hm : x.1 * t ≤ 24) {Q : zM → Prop} (hQ : ∀ M1 : zM, BN wC M1 ∧ (∀ a b : Nat, ¬ (a = j ∧ b = 1 ∨ a = j + 1) → M1 a b = M a b) ∧ isS M1 j (repV x t) → Q M1) : wC_Strip_repeat j a0 M Q := by
  unfold wC_Strip_repeat
  obtain ⟨n, f⟩ := x
  obtain ⟨h1, h2⟩ := h
  have h1 : M j 1 = (n : Int) := h1
  have hm : n * t ≤ 24 := hm
  have bl : 0 ≤ M j 1 ∧ M j 1 ≤ 24 := BN.at hB cd_j rfl
  have e0 : min (sI (M j 1 * a0)) 24 = ((n * t : Nat) : Int) := by
    rw [h1, ht, ← Int.natCast_mul, sIo (by omega) (by omega)]
    omega
  rw [e0, h1]
  refine wL1_of (fun y M2 => BN wC M2 ∧ (∀ a b : Nat, ¬ (a = j ∧ b = 1 ∨ a = j + 1) → M2 a b = M a b) ∧ M2 j 1 = (n : Int) ∧ ∃ i : Nat, y = (i : Int) ∧ n ≤ i ∧ i ≤ 24 ∧ ∀ k : Nat, k < i → M2 (j + 1) k = f (k % n)) (fun y _ => (1000 - y).toNat) ⟨hB, fun _ _ _ => rfl, h1, n, rfl, Nat.le_refl _, by omega, fun k hk => by rw [Nat.mod_eq_of_lt hk]; exact h2 k hk⟩ (fun K y M2 h k => ?_)
  obtain ⟨b2, f2, n2, i, rfl, i1, i2, hv⟩ := h
  have si : sI (i : Int) = i := sIo (by omega) (by omega)
  have sd : sI ((i : Int) - (n : Int)) = ((i - n : Nat) : Int) := by rw [sIo (by omega) (by omega)]; omega
  have ti : ((i : Int)).toNat = i := by omega
  have td : (((i - n : Nat) : Int)).toNat = i - n := by omega
  simp only [n2, si, sd, ti, td]
  refine ⟨fun c => fun M3 e3 => ?_, fun c => ⟨⟨by omega, by omega⟩, ⟨by omega, by omega⟩, fun M3 e3 => ?_⟩⟩
  · refine hQ _ ⟨by rw [e3]; exact BN.up b2 cd_j rfl (by omega) (by omega), fun a b hab => by rw [e3, zup_n _ _ (by omega)]; exact f2 a b hab, by rw [e3, zup_s]; rfl, fun k hk => ?_⟩
    have hk : k < n * t := hk
    show M3 (j + 1) k = f (k % n)
    rw [e3, zup_n _ _ (by omega)]
    exact hv k (by omega)
  · have hr := BN.r32 b2 (j + 1) (i - n)
    refine k _ _ ⟨by rw [e3]; exact BN.up b2 cd_j1 rfl hr.1 hr.2, fun a b hab => by rw [e3, zup_n _ _ (by omega)]; exact f2 a b hab, by rw [e3, zup_n _ _ (by omega)]; exact n2, i + 1, by omega, by omega, by omega, fun q hq => ?_⟩ (by omega)
    rw [e3]
    by_cases c5 : q = i
    · have hn : 0 < n := by
        rcases Nat.eq_zero_or_pos n with e | e
        · rw [e, Nat.zero_mul] at c
          omega
        · exact e
      rw [c5, zup_s, hv (i - n) (by omega), ← Nat.mod_eq_sub_mod i1]
    · rw [zup_n _ _ (by omega)]
      exact hv q (by omega)
set_option maxHeartbeats 1000000 in
theorem fC_turn {M : zM} {j : Nat} {x : SV} (hB : BN wC M) (cd_j : zcd wC j = 6) (cd_j1 : zcd wC (j + 1) = 7) (h : isS M j x) {Q : zM → Prop} (hQ : ∀ M1 : zM, BN wC M1 ∧ (∀ a b : Nat, ¬ (a = j + 1) → M1 a b = M a b) ∧ isS M1 j (turnV x) → Q M1) : wC_Strip_turn j M Q := by
  unfold wC_Strip_turn
  obtain ⟨n, f⟩ := x
  obtain ⟨h1, h2⟩ := h
  have h1 : M j 1 = (n : Int) := h1
  have bl : 0 ≤ M j 1 ∧ M j 1 ≤ 24 := BN.at hB cd_j rfl
  have sn : sI (n : Int) = n := sIo (by omega) (by omega)
  have e0 : sI ((n : Int).tdiv 2) = ((n / 2 : Nat) : Int) := by
    rw [Int.tdiv_eq_ediv_of_nonneg (by omega), sIo (by omega) (by omega)]
    omega
  refine wL1_of (fun y M2 => BN wC M2 ∧ (∀ a b : Nat, ¬ (a = j + 1) → M2 a b = M a b) ∧ ∃ i : Nat, y = (i : Int) ∧ i ≤ n / 2 ∧ ∀ k : Nat, k < n → M2 (j + 1) k = if k < i ∨ n - i ≤ k then f (n - 1 - k) else f k) (fun y _ => (1000 - y).toNat) ⟨hB, fun _ _ _ => rfl, 0, rfl, by omega, fun k hk => by rw [if_neg (by omega)]; exact h2 k hk⟩ (fun K y M2 h k => ?_)
  obtain ⟨b2, f2, i, rfl, i1, hv⟩ := h
  have n2 : M2 j 1 = (n : Int) := by rw [f2 j 1 (by omega)]; exact h1
  have si : sI (i : Int) = i := sIo (by omega) (by omega)
  have ti : ((i : Int)).toNat = i := by omega
  simp only [n2, sn, e0, si, ti]
  refine ⟨fun c => ?_, fun c => ?_⟩
  · refine hQ _ ⟨b2, f2, by rw [n2]; rfl, fun k hk => ?_⟩
    have hk : k < n := hk
    show M2 (j + 1) k = f (n - 1 - k)
    rw [hv k hk]
    by_cases c5 : k < i ∨ n - i ≤ k
    · rw [if_pos c5]
    · rw [if_neg c5, show n - 1 - k = k by omega]
  · have sd : sI ((n : Int) - 1 - (i : Int)) = ((n - 1 - i : Nat) : Int) := by rw [sIo (by omega) (by omega)]; omega
    have td : (((n - 1 - i : Nat) : Int)).toNat = n - 1 - i := by omega
    simp only [sd, td]
    refine ⟨⟨by omega, by omega⟩, ⟨by omega, by omega⟩, ⟨by omega, by omega⟩, fun M3 e3 => ?_⟩
    have n3 : M3 j 1 = (n : Int) := by rw [e3, zup_n _ _ (by omega)]; exact n2
    simp only [n3, sd, td]
    refine ⟨⟨by omega, by omega⟩, fun M4 e4 => ?_⟩
    have r1 := BN.r32 b2 (j + 1) (n - 1 - i)
    have r2 := BN.r32 b2 (j + 1) i
    have b3 : BN wC M3 := by rw [e3]; exact BN.up b2 cd_j1 rfl r1.1 r1.2
    refine k _ _ ⟨by rw [e4]; exact BN.up b3 cd_j1 rfl r2.1 r2.2, fun a b hab => by rw [e4, zup_n _ _ (by omega), e3, zup_n _ _ (by omega)]; exact f2 a b hab, i + 1, by omega, by omega, fun q hq => ?_⟩ (by omega)
    rw [e4]
    by_cases c5 : q = n - 1 - i
    · rw [c5, zup_s, if_pos (by omega), hv i (by omega), if_neg (by omega), show n - 1 - (n - 1 - i) = i by omega]
    · rw [zup_n _ _ (by omega), e3]
      by_cases c6 : q = i
      · rw [c6, zup_s, if_pos (by omega), hv (n - 1 - i) (by omega), if_neg (by omega)]
      · rw [zup_n _ _ (by omega), hv q hq]
        by_cases c7 : q < i ∨ n - i ≤ q
        · rw [if_pos c7, if_pos (by omega)]
        · rw [if_neg c7, if_neg (by omega)]
set_option maxHeartbeats 1000000 in
theorem fC_putBehind {M : zM} {j a0 : Nat} {a1 : Int} {r t : SV} {d : Nat} (hB : BN wC M) (cd_j : zcd wC j = 6) (cd_j1 : zcd wC (j + 1) = 7) (cd_a : zcd wC a0 = 6) (ha : a0 ≠ j ∧ a0 ≠ j + 1 ∧ a0 + 1 ≠ j) (hr : isS M j r) (ht : isS M a0 t) (hd : a1 = (d : Int)) (d1 : d ≤ r.1) (d2 : d ≤ t.1) (d3 : r.1 + t.1 - d ≤ 24) {Q : zM → Prop} (hQ : ∀ M1 : zM, BN wC M1 ∧ (∀ a b : Nat, ¬ (a = j ∧ b = 1 ∨ a = j + 1) → M1 a b = M a b) ∧ isS M1 j (layV r t d) → Q M1) : wC_Strip_putBehind j a0 a1 M Q := by
  unfold wC_Strip_putBehind
  obtain ⟨n, f⟩ := r
  obtain ⟨m, g⟩ := t
  obtain ⟨r1, r2⟩ := hr
  obtain ⟨t1, t2⟩ := ht
  have r1 : M j 1 = (n : Int) := r1
  have t1 : M a0 1 = (m : Int) := t1
  have d1 : d ≤ n := d1
  have d2 : d ≤ m := d2
  have d3 : n + m - d ≤ 24 := d3
  have bl : 0 ≤ M j 1 ∧ M j 1 ≤ 24 := BN.at hB cd_j rfl
  have bm : 0 ≤ M a0 1 ∧ M a0 1 ≤ 24 := BN.at hB cd_a rfl
  have e0 : max 0 (sI (M j 1 - a1)) = ((n - d : Nat) : Int) := by
    rw [r1, hd, sIo (by omega) (by omega)]
    omega
  rw [e0]
  refine wL2_of (fun x y M2 => BN wC M2 ∧ (∀ a b : Nat, ¬ (a = j + 1) → M2 a b = M a b) ∧ ∃ i : Nat, y = (i : Int) ∧ x = ((n - d + i : Nat) : Int) ∧ i ≤ m ∧ ∀ k : Nat, M2 (j + 1) k = if n - d ≤ k ∧ k < n - d + i then orI (g (k - (n - d))) (if k < n then f k else 0) else M (j + 1) k) (fun _ y _ => (1000 - y).toNat) ⟨hB, fun _ _ _ => rfl, 0, rfl, rfl, by omega, fun k => by rw [if_neg (by omega)]⟩ (fun K x y M2 h k => ?_)
  obtain ⟨b2, f2, i, rfl, rfl, hi, hv⟩ := h
  have m2 : M2 a0 1 = (m : Int) := by rw [f2 a0 1 (by omega)]; exact t1
  have n2 : M2 j 1 = (n : Int) := by rw [f2 j 1 (by omega)]; exact r1
  have sn : sI (n : Int) = n := sIo (by omega) (by omega)
  have sm : sI (m : Int) = m := sIo (by omega) (by omega)
  have si : sI (i : Int) = i := sIo (by omega) (by omega)
  have sx : sI ((n - d + i : Nat) : Int) = ((n - d + i : Nat) : Int) := sIo (by omega) (by omega)
  have ti : ((i : Int)).toNat = i := by omega
  have tx : (((n - d + i : Nat) : Int)).toNat = n - d + i := by omega
  simp only [m2, n2, sn, sm, si, sx, ti, tx]
  refine ⟨fun c => fun M3 e3 => ?_, fun c => ⟨fun c2 => absurd c2 (by omega), fun c2 => ⟨⟨by omega, by omega⟩, fun c3 => ⟨⟨by omega, by omega⟩, fun M3 e3 => ?_⟩, fun c3 => ⟨⟨by omega, by omega⟩, ⟨by omega, by omega⟩, fun M3 e3 => ?_⟩⟩⟩⟩
  · refine hQ _ ⟨by rw [e3]; exact BN.up b2 cd_j rfl (by omega) (by omega), fun a b hab => by rw [e3, zup_n _ _ (by omega)]; exact f2 a b (by omega), ?_, fun k hk => ?_⟩
    · show M3 j 1 = ((n + m - d : Nat) : Int)
      rw [e3, zup_s]
      omega
    · have hk : k < n + m - d := hk
      show M3 (j + 1) k = if k < n - d then f k else orI (g (k - (n - d))) (if k < n then f k else 0)
      rw [e3, zup_n _ _ (by omega), hv]
      by_cases c4 : k < n - d
      · rw [if_neg (by omega), if_pos c4]
        exact r2 k (by show k < n; omega)
      · rw [if_pos (by omega), if_neg c4]
  · have hg : M2 (a0 + 1) i = g i := by rw [f2 (a0 + 1) i (by omega)]; exact t2 i (by show i < m; omega)
    refine k _ _ _ ⟨by rw [e3]; exact BN.up b2 cd_j1 rfl (orI_R _ _).1 (orI_R _ _).2, fun a b hab => by rw [e3, zup_n _ _ (by omega)]; exact f2 a b hab, i + 1, by omega, by omega, by omega, fun q => ?_⟩ (by omega)
    rw [e3]
    by_cases c5 : q = n - d + i
    · rw [c5, zup_s, if_pos (by omega), if_neg (by omega), hg, show n - d + i - (n - d) = i by omega]
    · rw [zup_n _ _ (by omega), hv]
      by_cases c6 : n - d ≤ q ∧ q < n - d + i
      · rw [if_pos c6, if_pos (show n - d ≤ q ∧ q < n - d + (i + 1) by omega)]
      · rw [if_neg c6, if_neg (show ¬ (n - d ≤ q ∧ q < n - d + (i + 1)) by omega)]
  · have hg : M2 (a0 + 1) i = g i := by rw [f2 (a0 + 1) i (by omega)]; exact t2 i (by show i < m; omega)
    have hf : M2 (j + 1) (n - d + i) = f (n - d + i) := by rw [hv, if_neg (by omega)]; exact r2 _ (by show n - d + i < n; omega)
    refine k _ _ _ ⟨by rw [e3]; exact BN.up b2 cd_j1 rfl (orI_R _ _).1 (orI_R _ _).2, fun a b hab => by rw [e3, zup_n _ _ (by omega)]; exact f2 a b hab, i + 1, by omega, by omega, by omega, fun q => ?_⟩ (by omega)
    rw [e3]
    by_cases c5 : q = n - d + i
    · rw [c5, zup_s, if_pos (by omega), if_pos (by omega), hg, hf, show n - d + i - (n - d) = i by omega]
    · rw [zup_n _ _ (by omega), hv]
      by_cases c6 : n - d ≤ q ∧ q < n - d + i
      · rw [if_pos c6, if_pos (show n - d ≤ q ∧ q < n - d + (i + 1) by omega)]
      · rw [if_neg c6, if_neg (show ¬ (n - d ≤ q ∧ q < n - d + (i + 1)) by omega)]
