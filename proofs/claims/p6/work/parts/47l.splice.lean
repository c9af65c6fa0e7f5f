/-! a splice in the two worlds -/
def frS (R T : Nat → SV) (D : Nat → Nat) : Prop := (R 0).1 = 0 ∧ (T 0).1 = 0 ∧ D 0 = 0
set_option maxHeartbeats 2000000 in
theorem fC_splice {M : zM}  (hB : BN wC M)  {Q : Int → zM → Prop} (hQ : ∀ (z : Int) (M1 : zM), BN wC M1 ∧ (∀ j9 : Nat, ¬ (1 ≤ j9 ∧ j9 ≤ 31) → M1 j9 = M j9) ∧ ((-2147483648) ≤ z ∧ z ≤ 2147483647) ∧ (M1 1 1 = 0) ∧ (((M 1 1 ≤ 60 ∧ AC (M 2) (M 1 1) (0, 0) 0) ∧ ∃ R T : Nat → SV, ∃ D : Nat → Nat, frS R T D ∧ ((∃ l : Nat, ∃ a : Int, ∃ R1 T1 : Nat → SV, ∃ D1 : Nat → Nat, (runC (M 2) (M 1 1).toNat (0, 0, R, T, D) 0).bind layC = some (l, a, R1, T1, D1) ∧ isS M1 30 (R1 0)) ∨ ((runC (M 2) (M 1 1).toNat (0, 0, R, T, D) 0).bind layC = none ∧ M1 30 = M 30 ∧ M1 31 = M 31))) ∨ (¬ (M 1 1 ≤ 60 ∧ AC (M 2) (M 1 1) (0, 0) 0) ∧ M1 30 = M 30 ∧ M1 31 = M 31)) → Q z M1) : wC_splice  M Q := by
  unfold wC_splice wC_Splicer_putInto
  refine fC_firstWrong hB (fun z M3 h3 => ?_)
  obtain ⟨b3, f3, h3⟩ := h3
  have r30 : M3 30 = M 30 := funext fun q => f3 30 q (by omega)
  have r31 : M3 31 = M 31 := funext fun q => f3 31 q (by omega)
  have r2 : M3 2 = M 2 := funext fun q => f3 2 q (by omega)
  have r1 : M3 1 1 = M 1 1 := f3 1 1 (by omega)
  refine wJ1_of (fun x N => BN wC N ∧ FRs N M ∧ (-101 ≤ x ∧ x ≤ 0) ∧ (((M 1 1 ≤ 60 ∧ AC (M 2) (M 1 1) (0, 0) 0) ∧ ∃ R T : Nat → SV, ∃ D : Nat → Nat, frS R T D ∧ ((x = 0 ∧ ∃ l : Nat, ∃ a : Int, ∃ R1 T1 : Nat → SV, ∃ D1 : Nat → Nat, (runC (M 2) (M 1 1).toNat (0, 0, R, T, D) 0).bind layC = some (l, a, R1, T1, D1) ∧ isS N 6 (R1 0)) ∨ (x ≠ 0 ∧ (runC (M 2) (M 1 1).toNat (0, 0, R, T, D) 0).bind layC = none))) ∨ (¬ (M 1 1 ≤ 60 ∧ AC (M 2) (M 1 1) (0, 0) 0) ∧ x ≠ 0))) (fun x N hI => ?_) ⟨fun e => ?_, fun e => ?_⟩
  · obtain ⟨bN, fN, ix, hI⟩ := hI
    have sx : sI x = x := sIo (by omega) (by omega)
    have n30 : N 30 = M 30 := funext fun q => fN 30 q (by omega)
    have n31 : N 31 = M 31 := funext fun q => fN 31 q (by omega)
    intro M14 e14
    have b14 : BN wC M14 := by rw [e14]; exact BN.up bN (rfl : zcd wC 1 = 1) rfl (by omega) (by omega)
    have f14 : ∀ j9 : Nat, ¬ (1 ≤ j9 ∧ j9 ≤ 31) → M14 j9 = M j9 := fun j9 h9 => funext fun q => by rw [e14, zup_n _ _ (by omega)]; exact fN j9 q (by omega)
    have c14 : M14 1 1 = 0 := by rw [e14, zup_s]
    have m30 : M14 30 = M 30 := by rw [e14, zup_row _ _ (by omega)]; exact n30
    have m31 : M14 31 = M 31 := by rw [e14, zup_row _ _ (by omega)]; exact n31
    rw [sx]
    refine ⟨fun c => hQ _ _ ⟨b14, f14, by omega, c14, ?_⟩, fun c => ?_⟩
    · rcases hI with ⟨h1, R, T, D, h2, ⟨h3, -⟩ | ⟨-, h3⟩⟩ | ⟨h1, -⟩
      · exact absurd h3 c
      · exact Or.inl ⟨h1, R, T, D, h2, Or.inr ⟨h3, m30, m31⟩⟩
      · exact Or.inr ⟨h1, m30, m31⟩
    · obtain ⟨h1, R, T, D, h2, l, a, R1, T1, D1, h3, h4⟩ : (M 1 1 ≤ 60 ∧ AC (M 2) (M 1 1) (0, 0) 0) ∧ ∃ R T : Nat → SV, ∃ D : Nat → Nat, frS R T D ∧ ∃ l : Nat, ∃ a : Int, ∃ R1 T1 : Nat → SV, ∃ D1 : Nat → Nat, (runC (M 2) (M 1 1).toNat (0, 0, R, T, D) 0).bind layC = some (l, a, R1, T1, D1) ∧ isS N 6 (R1 0) := by
        rcases hI with ⟨h1, R, T, D, h2, ⟨-, h3⟩ | ⟨h3, -⟩⟩ | ⟨h1, h3⟩
        · exact ⟨h1, R, T, D, h2, h3⟩
        · exact absurd c h3
        · exact absurd c h3
      have h6 : isS M14 6 (R1 0) := isS_cg h4 (by rw [e14, zup_n _ _ (by omega)]) (fun k => by rw [e14, zup_n _ _ (by omega)])
      refine fC_copy b14 (rfl : zcd wC 30 = 6) (rfl : zcd wC (30 + 1) = 7) (rfl : zcd wC 6 = 6) ⟨by omega, by omega, by omega⟩ h6 (fun M17 h17 => ?_)
      obtain ⟨b17, f17, i17, -⟩ := h17
      have b1 := BN.r32 b17 30 1
      have s1 : sI (M17 30 1) = M17 30 1 := sIo b1.1 b1.2
      rw [s1]
      exact hQ _ _ ⟨b17, fun j9 h9 => (funext fun q => f17 j9 q (by omega)).trans (f14 j9 h9), b1, (f17 1 1 (by omega)).trans c14, Or.inl ⟨h1, R, T, D, h2, Or.inl ⟨l, a, R1, T1, D1, h3, i17⟩⟩⟩
  · rcases h3 with ⟨h, -⟩ | ⟨h1, h2, h3⟩
    · exact absurd h e
    · exact ⟨b3, fun a b hab => f3 a b (by omega), by omega, Or.inr ⟨h3, by omega⟩⟩
  · rcases h3 with ⟨-, h⟩ | ⟨h1, h2, h3⟩
    · refine fC_putTogether b3 (fun z20 M19 p => ?_)
      obtain ⟨p1, p2, p3, p4⟩ := p
      rw [r2, r1] at p4
      refine ⟨p1, fun a b hab => (p2 a b hab).trans (f3 a b (by omega)), p3, Or.inl ⟨h, (cs0 M3).2.2.1, (cs0 M3).2.2.2.1, (cs0 M3).2.2.2.2, ⟨rfl, rfl, rfl⟩, ?_⟩⟩
      rcases p4 with ⟨p5, ⟨l, a, R1, T1, D1⟩, p6, p7⟩ | ⟨p5, p6⟩
      · exact Or.inl ⟨p5, l, a, R1, T1, D1, p6, p7.2.2.2.1 0 (by omega)⟩
      · exact Or.inr ⟨p5, p6⟩
    · omega
set_option maxHeartbeats 4000000 in
theorem gR_splice {M : zM} {f : Nat → Int} {R T : Nat → SV} {D : Nat → Nat} (hB : BI M) (hf : ∀ i : Nat, (i : Int) < M 0 1 → f i = bU (M 1 i)) (h0 : frS R T D) {Q : Int → zM → Prop} (hQ : ∀ z M1, (BI M1 ∧ (∀ j9 k9 : Nat, ¬ (j9 = 0 ∧ k9 = 35 ∨ j9 = 0 ∧ k9 = 36 ∨ j9 = 0 ∧ k9 = 37 ∨ j9 = 0 ∧ k9 = 1 ∨ j9 = 0 ∧ k9 = 3 ∨ j9 = 2 ∨ 23 ≤ j9 ∧ j9 ≤ 26) → M1 j9 k9 = M j9 k9) ∧ (-2147483648 ≤ z ∧ z ≤ 2147483647) ∧ M1 0 1 = 0 ∧ (((M 0 1 ≤ 60 ∧ AC (M 1) (M 0 1) (0, 0) 0) ∧ ((∃ l : Nat, ∃ a : Int, ∃ R1 T1 : Nat → SV, ∃ D1 : Nat → Nat, (runC f (M 0 1).toNat (0, 0, R, T, D) 0).bind layC = some (l, a, R1, T1, D1) ∧ M1 0 3 = ((R1 0).1 : Int) ∧ ∀ k : Nat, k < (R1 0).1 → M1 2 k = (R1 0).2 k) ∨ ((runC f (M 0 1).toNat (0, 0, R, T, D) 0).bind layC = none ∧ M1 0 3 = M 0 3 ∧ M1 2 = M 2))) ∨ (¬ (M 0 1 ≤ 60 ∧ AC (M 1) (M 0 1) (0, 0) 0) ∧ M1 0 3 = M 0 3 ∧ M1 2 = M 2))) → Q z M1) : wR_splice M Q := by
  unfold wR_splice
  intro M1 e1 M3 e3 M5 e5
  have hB1 : BI M1 := by rw [e1]; exact BI.up0 hB (rfl : cbt 50 35 = (-2147483648, 2147483647)) (by omega) (by omega) (by decide)
  have hB3 : BI M3 := by rw [e3]; exact BIp hB1 (by omega) (by omega)
  have hB5 : BI M5 := by rw [e5]; exact BI.up0 hB3 (rfl : cbt 50 37 = (-2147483648, 2147483647)) (by omega) (by omega) (by decide)
  have F5 : ∀ j9 k9 : Nat, ¬ (j9 = 0 ∧ k9 = 35 ∨ j9 = 0 ∧ k9 = 36 ∨ j9 = 0 ∧ k9 = 37) → M5 j9 k9 = M j9 k9 := fun j9 k9 h9 => by rw [e5, e3, e1]; exact (zup_n _ _ (by omega)).trans ((zup_n _ _ (by omega)).trans (zup_n _ _ (by omega)))
  have p5 : M5 0 36 = 0 := by rw [e5, zup_n _ _ (by omega), e3, zup_s]
  have t5 : M5 1 = M 1 := funext fun k => F5 1 k (by omega)
  have n5 : M5 0 1 = M 0 1 := F5 0 1 (by omega)
  have bs : 0 ≤ M 0 1 ∧ M 0 1 ≤ 100 := BN.at hB.1 (rfl : zcd wR 0 = 50) rfl
  have acc := PK_iff (T := M 1) (s := M 0 1) bs.1
  refine sp_skip (M 1) (M 0 1) 6 0 (by omega) (by omega) M5 _ hB5 t5 n5 (by omega) (fun z8 M7 h8 => ?_)
  obtain ⟨⟨hB7, F7⟩, p7, h8⟩ := h8
  rw [p5] at h8
  have G7 : ∀ j9 k9 : Nat, ¬ (j9 = 0 ∧ k9 = 35 ∨ j9 = 0 ∧ k9 = 36 ∨ j9 = 0 ∧ k9 = 37) → M7 j9 k9 = M j9 k9 := fun j9 k9 h9 => (F7 j9 k9 (by omega)).trans (F5 j9 k9 h9)
  have S7 : M7 0 1 = M 0 1 := G7 0 1 (by omega)
  have s1 : sI (M 0 1) = M 0 1 := sIo (by omega) (by omega)
  have s36 : sI (M7 0 36) = M7 0 36 := sIo (by omega) (by omega)
  rw [S7, s1, s36]
  refine wJ1_of (fun x P => BI P ∧ (∀ j9 k9 : Nat, ¬ (j9 = 0 ∧ k9 = 35 ∨ j9 = 0 ∧ k9 = 36 ∨ j9 = 0 ∧ k9 = 37) → P j9 k9 = M j9 k9) ∧ (0 ≤ x ∧ x ≤ 1) ∧ ((x ≠ 0 ∧ M 0 1 ≤ 60 ∧ AC (M 1) (M 0 1) (0, 0) 0 ∧ PK (M 1) (M 0 1) 2 0 0 (M 0 1)) ∨ (x = 0 ∧ ¬ (M 0 1 ≤ 60 ∧ AC (M 1) (M 0 1) (0, 0) 0)))) (fun x P hI => ?_) ⟨fun e8 => ⟨hB7, G7, by omega, Or.inr ⟨e8, fun h => ?_⟩⟩, fun e8 => ⟨fun c => ⟨hB7, G7, by omega, Or.inl ?_⟩, fun c => ?_⟩⟩
  · obtain ⟨hBP, FP, ix, hx⟩ := hI
    have sx : sI x = x := sIo (by omega) (by omega)
    rw [sx]
    refine wJ1_of (fun y N => BI N ∧ (∀ j9 k9 : Nat, ¬ (j9 = 0 ∧ k9 = 35 ∨ j9 = 0 ∧ k9 = 36 ∨ j9 = 0 ∧ k9 = 37 ∨ 23 ≤ j9 ∧ j9 ≤ 26) → N j9 k9 = M j9 k9) ∧ (-101 ≤ y ∧ y ≤ 0) ∧ (x = 0 ∨ (y < 0 ∧ (runC f (M 0 1).toNat (0, 0, R, T, D) 0).bind layC = none) ∨ (y = 0 ∧ ∃ R1 T1 : Nat → SV, ∃ D1 : Nat → Nat, (runC f (M 0 1).toNat (0, 0, R, T, D) 0).bind layC = some (0, 0, R1, T1, D1) ∧ isW N 0 (R1 0)))) (fun y N hI2 => ?_) ⟨fun e => ⟨hBP, fun j9 k9 h9 => FP j9 k9 (by omega), by omega, Or.inl e⟩, fun e => ?_⟩
    · obtain ⟨hBN, FN, iy, hy⟩ := hI2
      have sy : sI y = y := sIo (by omega) (by omega)
      rw [sy]
      intro M29 e29
      have hB29 : BI M29 := by rw [e29]; exact BI.up0 hBN (rfl : cbt 50 1 = (0, 100)) (by omega) (by omega) (by decide)
      have F29 : ∀ j9 k9 : Nat, ¬ (j9 = 0 ∧ k9 = 35 ∨ j9 = 0 ∧ k9 = 36 ∨ j9 = 0 ∧ k9 = 37 ∨ j9 = 0 ∧ k9 = 1 ∨ j9 = 0 ∧ k9 = 3 ∨ j9 = 2 ∨ 23 ≤ j9 ∧ j9 ≤ 26) → M29 j9 k9 = M j9 k9 := fun j9 k9 h9 => by rw [e29]; exact (zup_n _ _ (by omega)).trans (FN j9 k9 (by omega))
      have r29 : M29 0 1 = 0 := by rw [e29, zup_s]
      have h3 : M29 0 3 = M 0 3 := by rw [e29, zup_n _ _ (by omega)]; exact FN 0 3 (by omega)
      have h2 : M29 2 = M 2 := by rw [e29, zup_row _ _ (by omega)]; exact funext fun k => FN 2 k (by omega)
      refine ⟨fun c => ⟨fun c2 => ?_, fun c2 => hQ _ _ ⟨hB29, F29, by omega, r29, Or.inl ⟨?_, Or.inr ⟨?_, h3, h2⟩⟩⟩⟩, fun c => ?_⟩
      · have b24 : 0 ≤ M29 24 0 ∧ M29 24 0 ≤ 24 := BN.at hB29.1 (rfl : zcd wR 24 = 74) rfl
        obtain ⟨hx1, hx2, hx3, -⟩ := hx.resolve_right (fun h => c h.1)
        obtain ⟨-, R1, T1, D1, hrun, hw⟩ := (hy.resolve_left c).resolve_left (fun h => by omega)
        have w24 : M29 24 0 = ((R1 0).1 : Int) := by rw [e29, zup_n _ _ (by omega)]; exact hw.1
        have w23 : ∀ k : Nat, k < (R1 0).1 → M29 23 k = (R1 0).2 k := fun k hk => by
          have e := hw.2 k hk
          rw [show 24 * 0 + k = k by omega] at e
          rw [e29, zup_n _ _ (by omega)]
          exact e
        intro M33 e33
        refine wL1_of (fun w P2 => BI P2 ∧ (∀ j9 k9 : Nat, ¬ (j9 = 0 ∧ k9 = 35 ∨ j9 = 0 ∧ k9 = 36 ∨ j9 = 0 ∧ k9 = 37 ∨ j9 = 0 ∧ k9 = 1 ∨ j9 = 0 ∧ k9 = 3 ∨ j9 = 2 ∨ 23 ≤ j9 ∧ j9 ≤ 26) → P2 j9 k9 = M j9 k9) ∧ P2 0 1 = 0 ∧ P2 0 3 = ((R1 0).1 : Int) ∧ (∀ k : Nat, P2 23 k = M29 23 k) ∧ ∃ i : Nat, w = (i : Int) ∧ i ≤ (R1 0).1 ∧ ∀ k : Nat, k < i → P2 2 k = (R1 0).2 k) (fun w _ => (1000 - w).toNat) ⟨by rw [e33]; exact BI.up0 hB29 (rfl : cbt 50 3 = (0, 24)) b24.1 b24.2 (by decide), fun j9 k9 h9 => by rw [e33]; exact (zup_n _ _ (by omega)).trans (F29 j9 k9 h9), by rw [e33, zup_n _ _ (by omega)]; exact r29, by rw [e33, zup_s]; exact w24, fun k => by rw [e33, zup_n _ _ (by omega)], 0, rfl, by omega, fun k hk => absurd hk (Nat.not_lt_zero k)⟩ (fun K w P2 hI3 hK => ?_)
        obtain ⟨hB2, F2, r2, n3, n23, i, rfl, i1, hv⟩ := hI3
        have s3 : sI ((R1 0).1 : Int) = ((R1 0).1 : Int) := sIo (by omega) (by omega)
        have sw : sI (i : Int) = i := sIo (by omega) (by omega)
        have tw : ((i : Int)).toNat = i := by omega
        rw [n3, s3, sw, tw]
        refine ⟨fun c3 => hQ _ _ ⟨hB2, F2, by omega, r2, Or.inl ⟨⟨hx2, hx3⟩, Or.inl ⟨_, _, R1, T1, D1, hrun, n3, fun k hk => hv k (by omega)⟩⟩⟩, fun c3 => ⟨by omega, by omega, ?_⟩⟩
        intro M47 e47
        have br := BN.r32 hB2.1 23 i
        refine hK _ _ ⟨by rw [e47]; exact BI.up hB2 (rfl : zcd wR 2 = 52) rfl br.1 br.2 (by decide), fun j9 k9 h9 => by rw [e47]; exact (zup_n _ _ (by omega)).trans (F2 j9 k9 h9), by rw [e47, zup_n _ _ (by omega)]; exact r2, by rw [e47, zup_n _ _ (by omega)]; exact n3, fun k => by rw [e47, zup_n _ _ (by omega)]; exact n23 k, i + 1, by omega, by omega, fun k hk => ?_⟩ (by omega)
        rw [e47]
        by_cases c5 : k = i
        · rw [c5, zup_s, n23]
          exact w23 i (by omega)
        · rw [zup_n _ _ (by omega)]
          exact hv k (by omega)
      · obtain ⟨-, hx2, hx3, -⟩ := hx.resolve_right (fun h => c h.1)
        exact ⟨hx2, hx3⟩
      · exact ((hy.resolve_left c).resolve_right (fun h => by have := h.1; omega)).2
      · have r := sI_R ((-1) - M29 0 37)
        exact hQ _ _ ⟨hB29, F29, by have := r.1; have := r.2; omega, r29, Or.inr ⟨(hx.resolve_left (fun h => h.1 c)).2, h3, h2⟩⟩
    · obtain ⟨-, hx2, hx3, pkq⟩ := hx.resolve_right (fun h => e h.1)
      intro M52 e52
      have p52 : M52 0 36 = 0 := by rw [e52]; exact zup_s _ _ _ _
      have F52 : ∀ j9 k9 : Nat, ¬ (j9 = 0 ∧ k9 = 35 ∨ j9 = 0 ∧ k9 = 36 ∨ j9 = 0 ∧ k9 = 37) → M52 j9 k9 = M j9 k9 := fun j9 k9 h9 => by rw [e52]; exact (zup_n _ _ (by omega)).trans (FP j9 k9 h9)
      have T52 : M52 1 = M 1 := funext fun k => F52 1 k (by omega)
      have S52 : M52 0 1 = M 0 1 := F52 0 1 (by omega)
      refine vp_make hf 6 0 (by omega) (by omega) M52 _ (M 0 1) R T D (by rw [e52]; exact BIp hBP (by omega) (by omega)) T52 S52 (by omega) (by rw [p52]; exact pkq) (Or.inl ⟨rfl, rfl⟩) h0.2.1 h0.1 h0.2.2 (fun z55 M54 h55 => ?_)
      obtain ⟨hB54, F54, p54, zr, h55⟩ := h55
      rw [p52] at h55
      refine ⟨hB54, fun j9 k9 h9 => (F54 j9 k9 (by omega)).trans (F52 j9 k9 (by omega)), zr, Or.inr ?_⟩
      rcases h55 with ⟨h6, h7⟩ | ⟨h6, h7, R2, T2, D2, R3, T3, D3, rn, ly, -, hw, -⟩
      · refine Or.inl ⟨h6, ?_⟩
        unfold Dd at h7
        rw [show (M 0 1 - 0).toNat = (M 0 1).toNat by omega] at h7
        exact h7
      · refine Or.inr ⟨h6, R3, T3, D3, ?_, hw⟩
        have r3 := rn.2.2
        rw [show (M 0 1 - 0).toNat = (M 0 1).toNat by omega] at r3
        rw [show (0 : Int).toNat = 0 from rfl] at r3
        rw [r3]
        exact ly
  · obtain ⟨q, h1, h2⟩ := acc.mpr h
    rcases h8 with ⟨h9, -⟩ | ⟨-, h9⟩
    · omega
    · exact h9 q h1
  · rcases h8 with ⟨-, -, h⟩ | ⟨h, -⟩
    · have a := acc.mp ⟨_, h, c⟩
      have hi : M7 0 36 ≤ M 0 1 := by
        obtain ⟨nn, h⟩ := h
        exact (PK_hi _ _ _ _ _ h (by omega) (by omega)).1
      have e : M7 0 36 = M 0 1 := by omega
      rw [e] at h
      exact ⟨e8, a.1, a.2, h⟩
    · exact absurd h e8
  · refine sR_isWrong hB7 (fun z60 M59 h => ?_)
    obtain ⟨h1, h2, -, h3, -⟩ := h
    refine ⟨h1, fun j9 k9 h9 => (h2 j9 k9 (by omega)).trans (G7 j9 k9 h9), by omega, Or.inr ⟨h3, fun h => ?_⟩⟩
    obtain ⟨q, k1, k2⟩ := acc.mpr h
    rcases h8 with ⟨-, -, h9⟩ | ⟨h9, -⟩
    · have e := PK_det k1 h9
      omega
    · exact absurd h9 e8
/-- the text and the hand are alike -/
def iTx (MC MR : zM) : Prop := MC 1 1 = MR 0 1 ∧ ∀ i : Nat, (i : Int) < MC 1 1 → MC 2 i = bU (MR 1 i)
def iHa (MC MR : zM) : Prop := MC 30 1 = MR 0 3 ∧ ∀ k : Nat, (k : Int) < MC 30 1 → MC 31 k = MR 2 k
theorem AC_bU {f T : Nat → Int} {s : Int} (h0 : 0 ≤ s) (hT : ∀ i, -128 ≤ T i) (h : ∀ i : Nat, (i : Int) < s → f i = bU (T i)) : AC f s (0, 0) 0 ↔ AC T s (0, 0) 0 := by
  unfold AC
  rw [smR_bU (n := s.toNat) hT (fun i hi => h i (by omega)) (s - 0).toNat (0, 0) (0 : Int).toNat (by rw [show (0 : Int).toNat = 0 from rfl]; omega)]
/-- both worlds splice alike -/
theorem splice_two {MC MR : zM} (hC : BN wC MC) (hR : BI MR) (hx : iTx MC MR) (ha : iHa MC MR) {Q : zM → zM → Prop} (hQ : ∀ (z z9 : Int) (M8 M9 : zM), BN wC M8 → (∀ j9 : Nat, ¬ (1 ≤ j9 ∧ j9 ≤ 31) → M8 j9 = MC j9) → M8 1 1 = 0 → BI M9 → (∀ j9 k9 : Nat, ¬ (j9 = 0 ∧ k9 = 35 ∨ j9 = 0 ∧ k9 = 36 ∨ j9 = 0 ∧ k9 = 37 ∨ j9 = 0 ∧ k9 = 1 ∨ j9 = 0 ∧ k9 = 3 ∨ j9 = 2 ∨ 23 ≤ j9 ∧ j9 ≤ 26) → M9 j9 k9 = MR j9 k9) → M9 0 1 = 0 → iHa M8 M9 → Q M8 M9) : wC_splice MC (fun _ M8 => wR_splice MR (fun _ M9 => Q M8 M9)) := by
  obtain ⟨x1, x2⟩ := hx
  obtain ⟨a1, a2⟩ := ha
  have bs : 0 ≤ MR 0 1 ∧ MR 0 1 ≤ 100 := BN.at hR.1 (rfl : zcd wR 0 = 50) rfl
  have hf : ∀ i : Nat, (i : Int) < MR 0 1 → MC 2 i = bU (MR 1 i) := fun i hi => x2 i (by omega)
  have hT : ∀ i, -128 ≤ MR 1 i := fun i => (BN.at hR.1 (rfl : zcd wR 1 = 51) rfl : -128 ≤ MR 1 i ∧ MR 1 i ≤ 127).1
  have ac := AC_bU (f := MC 2) bs.1 hT hf
  refine fC_splice hC (fun z M8 h8 => ?_)
  obtain ⟨b8, f8, -, n8, h8⟩ := h8
  rw [x1, ac] at h8
  have same : ∀ {M9 : zM}, M8 30 = MC 30 → M8 31 = MC 31 → M9 0 3 = MR 0 3 → M9 2 = MR 2 → iHa M8 M9 := fun e1 e2 e3 e4 => by
    unfold iHa
    rw [e1, e2, e3, e4]
    exact ⟨a1, a2⟩
  rcases h8 with ⟨ok, R, T, D, h0, hrun⟩ | ⟨no, e30, e31⟩
  · refine gR_splice (f := MC 2) hR hf h0 (fun z9 M9 h9 => ?_)
    obtain ⟨b9, f9, -, n9, h9⟩ := h9
    refine hQ z z9 M8 M9 b8 f8 n8 b9 f9 n9 ?_
    rcases h9 with ⟨-, h9⟩ | ⟨no, -⟩
    · rcases hrun with ⟨l, a, R1, T1, D1, e1, i1⟩ | ⟨e1, e30, e31⟩
      · rcases h9 with ⟨l2, a2', R2, T2, D2, e2, i2, i3⟩ | ⟨e2, -⟩
        · rw [e1] at e2
          cases e2
          exact ⟨i1.1.trans i2.symm, fun k hk => by have e := i1.1; exact (i1.2 k (by omega)).trans (i3 k (by omega)).symm⟩
        · rw [e1] at e2
          cases e2
      · rcases h9 with ⟨l2, a2', R2, T2, D2, e2, -⟩ | ⟨e2, e3, e4⟩
        · rw [e1] at e2
          cases e2
        · exact same e30 e31 e3 e4
    · exact absurd ok no
  · refine gR_splice (f := MC 2) (R := fun _ => (0, fun _ => 0)) (T := fun _ => (0, fun _ => 0)) (D := fun _ => 0) hR hf ⟨rfl, rfl, rfl⟩ (fun z9 M9 h9 => ?_)
    obtain ⟨b9, f9, -, n9, h9⟩ := h9
    refine hQ z z9 M8 M9 b8 f8 n8 b9 f9 n9 ?_
    rcases h9 with ⟨ok, -⟩ | ⟨-, e3, e4⟩
    · exact absurd ok no
    · exact same e30 e31 e3 e4
