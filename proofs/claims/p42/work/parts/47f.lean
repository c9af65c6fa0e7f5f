/-! versions: what is known, edits -/
def knF (R D : Nat → Int) (r d : Int) : Nat → Int
  | 0 => -1
  | n + 1 => if R n = r ∧ D n ≤ d then (n : Int) else knF R D r d n
theorem knF_cg {R D R2 D2 : Nat → Int} {r d : Int} : ∀ n : Nat, (∀ k : Nat, k < n → R k = R2 k ∧ D k = D2 k) → knF R D r d n = knF R2 D2 r d n
  | 0, _ => rfl
  | n + 1, h => by
    show (if R n = r ∧ D n ≤ d then (n : Int) else knF R D r d n) = (if R2 n = r ∧ D2 n ≤ d then (n : Int) else knF R2 D2 r d n)
    rw [knF_cg n (fun k hk => h k (by omega)), (h n (by omega)).1, (h n (by omega)).2]
theorem fC_known {M : zM} {a0 a1 : Int} (hB : BN wC M) (v0 : -2147483648 ≤ a0 ∧ a0 ≤ 2147483647) (v1 : -2147483648 ≤ a1 ∧ a1 ≤ 2147483647) {Q : Int → Prop} (hQ : ∀ z : Int, z = knF (M 98) (M 99) a0 a1 (M 96 0).toNat → Q z) : wC_known a0 a1 M Q := by
  unfold wC_known wC_Versions_latest
  have bc : 0 ≤ M 96 0 ∧ M 96 0 ≤ 16 := BN.at hB (rfl : zcd wC 96 = 44) rfl
  refine pL1_of (fun x => ∃ n : Nat, x = (n : Int) - 1 ∧ n ≤ 16 ∧ knF (M 98) (M 99) a0 a1 n = knF (M 98) (M 99) a0 a1 (M 96 0).toNat) (fun x => (x + 1).toNat) ⟨(M 96 0).toNat, by omega, by omega, rfl⟩ (fun K x h k => ?_)
  obtain ⟨n, rfl, hn, he⟩ := h
  rw [sIo (z := (n : Int) - 1) (by omega) (by omega), sIo v0.1 v0.2, sIo v1.1 v1.2]
  refine ⟨fun c => hQ _ ?_, fun c => ?_⟩
  · rw [← he, show n = 0 by omega]
    rfl
  · obtain ⟨m, rfl⟩ : ∃ m : Nat, n = m + 1 := ⟨n - 1, by omega⟩
    have em : ((m + 1 : Nat) : Int) - 1 = (m : Int) := by omega
    have r98 := BN.r32 hB 98 m
    have r99 := BN.r32 hB 99 m
    have eu : knF (M 98) (M 99) a0 a1 (m + 1) = if M 98 m = a0 ∧ M 99 m ≤ a1 then (m : Int) else knF (M 98) (M 99) a0 a1 m := rfl
    rw [em, show ((m : Int)).toNat = m by omega, sIo (z := M 98 m) (by omega) (by omega), sIo (z := M 99 m) (by omega) (by omega)]
    refine ⟨by omega, fun c2 => k _ ⟨m, by omega, by omega, ?_⟩ (by omega), fun c2 => ⟨by omega, fun c3 => k _ ⟨m, by omega, by omega, ?_⟩ (by omega), fun c3 => hQ _ ?_⟩⟩
    · rw [← he, eu, if_neg (fun x => c2 x.1)]
    · rw [← he, eu, if_neg (fun x => by have := x.2; omega)]
    · rw [← he, eu, if_pos ⟨c2, c3⟩]
theorem fR_known {M : zM} {a0 a1 : Int} (hB : BI M) (v0 : -2147483648 ≤ a0 ∧ a0 ≤ 2147483647) (v1 : -2147483648 ≤ a1 ∧ a1 ≤ 2147483647) {Q : Int → zM → Prop} (hQ : ∀ (z : Int) (M1 : zM), BI M1 ∧ (∀ j9 k9 : Nat, ¬ (j9 = 0 ∧ k9 = 35) → M1 j9 k9 = M j9 k9) ∧ z = knF (M 20) (M 21) a0 a1 (M 0 32).toNat → Q z M1) : wR_known a0 a1 M Q := by
  unfold wR_known
  intro M1 e1
  have hB1 : BI M1 := by rw [e1]; exact BI.up0 hB (rfl : cbt 50 35 = (-2147483648, 2147483647)) (by omega) (by omega) (by decide)
  have F1 : ∀ j9 k9 : Nat, ¬ (j9 = 0 ∧ k9 = 35) → M1 j9 k9 = M j9 k9 := fun j9 k9 h9 => by rw [e1]; exact zup_n _ _ (by omega)
  have bc : 0 ≤ M 0 32 ∧ M 0 32 ≤ 16 := BN.at hB.1 (rfl : zcd wR 0 = 50) rfl
  have fin : ∀ z : Int, z = knF (M 20) (M 21) a0 a1 (M 0 32).toNat → Q z M1 := fun z hz => hQ _ _ ⟨hB1, F1, hz⟩
  rw [F1 0 32 (by omega)]
  refine pL1_of (fun x => ∃ n : Nat, x = (n : Int) - 1 ∧ n ≤ 16 ∧ knF (M 20) (M 21) a0 a1 n = knF (M 20) (M 21) a0 a1 (M 0 32).toNat) (fun x => (x + 1).toNat) ⟨(M 0 32).toNat, by omega, by omega, rfl⟩ (fun K x h k => ?_)
  obtain ⟨n, rfl, hn, he⟩ := h
  rw [sIo (z := (n : Int) - 1) (by omega) (by omega), sIo v0.1 v0.2, sIo v1.1 v1.2]
  refine ⟨fun c => fin _ ?_, fun c => ?_⟩
  · rw [← he, show n = 0 by omega]
    rfl
  · obtain ⟨m, rfl⟩ : ∃ m : Nat, n = m + 1 := ⟨n - 1, by omega⟩
    have em : ((m + 1 : Nat) : Int) - 1 = (m : Int) := by omega
    have r98 := BN.r32 hB.1 20 m
    have r99 := BN.r32 hB.1 21 m
    have eu : knF (M 20) (M 21) a0 a1 (m + 1) = if M 20 m = a0 ∧ M 21 m ≤ a1 then (m : Int) else knF (M 20) (M 21) a0 a1 m := rfl
    rw [em, show ((m : Int)).toNat = m by omega, F1 20 m (by omega), F1 21 m (by omega), sIo (z := M 20 m) (by omega) (by omega), sIo (z := M 21 m) (by omega) (by omega)]
    refine ⟨by omega, fun c2 => k _ ⟨m, by omega, by omega, ?_⟩ (by omega), fun c2 => ⟨by omega, fun c3 => k _ ⟨m, by omega, by omega, ?_⟩ (by omega), fun c3 => fin _ ?_⟩⟩
    · rw [← he, eu, if_neg (fun x => c2 x.1)]
    · rw [← he, eu, if_neg (fun x => by have := x.2; omega)]
    · rw [← he, eu, if_pos ⟨c2, c3⟩]
theorem known_det {MC MR : zM} {a0 a1 z z9 : Int} (hC : BN wC MC) (h : iVe MC MR) (p : z = knF (MC 98) (MC 99) a0 a1 (MC 96 0).toNat) (q : z9 = knF (MR 20) (MR 21) a0 a1 (MR 0 32).toNat) : z = z9 := by
  obtain ⟨h1, h2, h3⟩ := h
  have bc : 0 ≤ MC 96 0 ∧ MC 96 0 ≤ 16 := BN.at hC (rfl : zcd wC 96 = 44) rfl
  rw [p, q, ← h1]
  exact knF_cg _ (fun k hk => by
    obtain ⟨a, b, -⟩ := h3 k (by omega)
    exact ⟨a, b⟩)
