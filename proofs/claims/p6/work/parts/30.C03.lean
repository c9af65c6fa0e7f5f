/-! safety of the class, 3 -/
/-- the costs from a ring on come out of a cut and a start of it -/
def DPC (M : zM) (i : Nat) : Prop := ∀ w : Nat, (w : Int) < shlI 1 (M 60 2) → M (70 + i) w = 1000000 ∨ ∃ c t : Nat, (c : Int) < M (42 + 4 * i) 1 ∧ (t : Int) < M (42 + 4 * i) 1 - c ∧ M (70 + i) w = 5 * c + absI (t - M (41 + 4 * i) 2) + M (70 + i + 1) (andI w (xorI (M (65 + i) (trI (M (42 + 4 * i) 1) c + t).toNat) (-1))).toNat
theorem DPC.of {M N : zM} {i : Nat} (h : DPC M i) (h1 : N 60 = M 60) (h2 : N (41 + 4 * i) = M (41 + 4 * i)) (h3 : N (42 + 4 * i) = M (42 + 4 * i)) (h4 : N (65 + i) = M (65 + i)) (h5 : N (70 + i) = M (70 + i)) (h6 : N (70 + i + 1) = M (70 + i + 1)) : DPC N i := by
  unfold DPC
  rw [h1, h2, h3, h4, h5, h6]
  exact h
set_option maxHeartbeats 4000000 in
theorem sC_Planner_choose {M : zM} {q1 : Nat} {a1 a2 : Int} (hB : BN wC M) (v1 : 0 ≤ a1 ∧ a1 < 4) (hq : q1 = 41 + 4 * a1.toNat) (v2 : 0 ≤ a2 ∧ a2 < shlI 1 (M 60 2)) (hD : DPC M a1.toNat) (hc : M (70 + a1.toNat) a2.toNat < 1000000) {Q : Int → zM → Prop} (hQ : ∀ z M1, (BN wC M1 ∧ (∀ j9 : Nat, ¬ (j9 = 63) → M1 j9 = M j9) ∧ (0 ≤ z ∧ z < shlI 1 (M 60 2)) ∧ M (70 + a1.toNat + 1) z.toNat < 1000000 ∧ (0 ≤ M1 63 (2 * a1.toNat) ∧ M1 63 (2 * a1.toNat) < M (42 + 4 * a1.toNat) 1) ∧ (0 ≤ M1 63 (2 * a1.toNat + 1) ∧ M1 63 (2 * a1.toNat + 1) < M (42 + 4 * a1.toNat) 1 - M1 63 (2 * a1.toNat)) ∧ (∀ k, k ≠ 2 * a1.toNat → k ≠ 2 * a1.toNat + 1 → M1 63 k = M 63 k)) → Q z M1) : wC_Planner_choose (some q1) a1 a2 M Q := by
  unfold wC_Planner_choose
  refine ⟨(fun h => nomatch h), fun q h => ?_⟩
  obtain rfl := Option.some.inj h
  obtain ⟨i, ei⟩ : ∃ i : Nat, i = a1.toNat := ⟨_, rfl⟩
  rw [← ei] at hq hD hc hQ
  have hi : (i : Int) = a1 := by omega
  have b1 : 0 ≤ M 60 2 ∧ M 60 2 ≤ 6 := BN.at hB (rfl : zcd wC 60 = 19) rfl
  have bs := shl1_b (M 60 2) b1.1 b1.2
  have s1 : sI a1 = a1 := sIo (by omega) (by omega)
  have s2 : sI a2 = a2 := sIo (by omega) (by omega)
  have s3 : sI (a1 + 1) = a1 + 1 := sIo (by omega) (by omega)
  have s4 : sI (2 * a1) = 2 * a1 := sIo (by omega) (by omega)
  have s5 : sI (2 * a1 + 1) = 2 * a1 + 1 := sIo (by omega) (by omega)
  have e1 : (sI a1).toNat = i := by omega
  have e2 : (sI (a1 + 1)).toNat = i + 1 := by omega
  have e4 : (sI (2 * a1)).toNat = 2 * i := by omega
  have e5 : (sI (2 * a1 + 1)).toNat = 2 * i + 1 := by omega
  have e6 : (sI a2).toNat = a2.toNat := by rw [s2]
  have eq1 : q1 + 1 = 42 + 4 * i := by omega
  have ltq : q1 < nC ∧ zcd wC q1 = 14 := by rw [hq]; exact (by decide : ∀ k : Nat, k < 4 → 41 + 4 * k < nC ∧ zcd wC (41 + 4 * k) = 14) i (by omega)
  have cd1 : zcd wC (42 + 4 * i) = 6 := (by decide : ∀ k : Nat, k < 4 → zcd wC (42 + 4 * k) = 6) i (by omega)
  have cd5 : zcd wC (65 + i) = 24 := (by decide : ∀ k : Nat, k < 4 → zcd wC (65 + k) = 24) i (by omega)
  have cd0 : zcd wC (70 + i) = 26 := (by decide : ∀ k : Nat, k < 5 → zcd wC (70 + k) = 26) i (by omega)
  have cd2 : zcd wC (70 + i + 1) = 26 := (by decide : ∀ k : Nat, k < 4 → zcd wC (70 + k + 1) = 26) i (by omega)
  rw [e1, e2, e4, e5, e6, Nat.one_mul, Nat.one_mul, eq1, show 70 + (i + 1) = 70 + i + 1 from rfl]
  obtain ⟨L, eL⟩ : ∃ L, L = M (42 + 4 * i) 1 := ⟨_, rfl⟩
  have bL : 0 ≤ L ∧ L ≤ 24 := by rw [eL]; exact BN.at hB cd1 rfl
  have sL1 : sI L = L := sIo (by omega) (by omega)
  rcases hD a2.toNat (by omega) with h0 | ⟨cs, ts, h1, h2, h3⟩
  · omega
  rw [← eL] at h1 h2 h3 hQ ⊢
  rw [Int.toNat_of_nonneg v2.1] at h3
  refine pL2_of (fun k c => (0 ≤ c ∧ c ≤ cs) ∧ k = trI L c.toNat ∧ True) (fun _ c => (100 - c).toNat) ⟨by omega, rfl, trivial⟩ (fun K k c hI hK => ?_)
  obtain ⟨ic, ik, -⟩ := hI
  have s6 : sI c = c := sIo (by omega) (by omega)
  rw [sL1, s6]
  refine ⟨fun c1 => absurd c1 (by omega), fun c1 => ?_⟩
  have tb := trI_le bL.1 bL.2 (c := c.toNat) (by omega)
  have hcn : (c.toNat : Int) = c := Int.toNat_of_nonneg ic.1
  have s7 : sI (L - c) = L - c := sIo (by omega) (by omega)
  refine pL2_of (fun k2 t => (0 ≤ t ∧ t ≤ L - c) ∧ k2 = trI L c.toNat + t ∧ (c < cs ∨ (c = cs ∧ t ≤ ts)) ∧ True) (fun _ t => (100 - t).toNat) ⟨by omega, by omega, by omega, trivial⟩ (fun K2 k2 t hI2 hK2 => ?_)
  obtain ⟨it, ik2, io, -⟩ := hI2
  have s8 : sI t = t := sIo (by omega) (by omega)
  have s9 : sI k2 = k2 := sIo (by omega) (by omega)
  rw [s7, s8]
  refine ⟨fun c2 => hK _ _ ⟨by omega, ?_, trivial⟩ (by omega), fun c2 => ⟨fun c3 => absurd c3 (by omega), fun c3 => ?_⟩⟩
  · rw [trI_s L c ic.1]
    omega
  · refine ⟨by omega, by omega, ?_⟩
    intro r er
    have br := andI_le a2 (xorI (M (65 + i) (sI k2).toNat) (-1)) (by omega) (by omega)
    refine sC_Planner_cost hB ltq.1 ltq.2 (by omega) (by omega) (fun z hp => ?_)
    obtain ⟨p1, p2, -⟩ := hp
    have b2 : 0 ≤ M (70 + i + 1) r.toNat ∧ M (70 + i + 1) r.toNat ≤ 1000000 := BN.at hB cd2 rfl
    have b3 : 0 ≤ M (70 + i) a2.toNat ∧ M (70 + i) a2.toNat ≤ 1000000 := BN.at hB cd0 rfl
    have sA : sI (z + M (70 + i + 1) r.toNat) = z + M (70 + i + 1) r.toNat := sIo (by omega) (by omega)
    have sB : sI (M (70 + i) a2.toNat) = M (70 + i) a2.toNat := sIo (by omega) (by omega)
    refine ⟨by omega, by omega, by omega, by omega, fun c4 => ?_, fun c4 => ?_⟩
    · refine hK2 _ _ ⟨by omega, by omega, ?_, trivial⟩ (by omega)
      rcases io with h | ⟨h, h'⟩
      · exact Or.inl h
      · refine Or.inr ⟨h, ?_⟩
        by_cases hts : t = ts
        · exfalso
          apply c4
          rw [sA, sB, h3, p2, er, s9, ik2, h, hts, hq, Int.toNat_natCast]
        · omega
    · refine ⟨by omega, ?_⟩
      intro M5 e5
      refine ⟨by omega, ?_⟩
      intro M6 e6
      have hB5 : BN wC M5 := by rw [e5]; exact BN.up hB (rfl : zcd wC 63 = 22) rfl (by omega) (by omega)
      have hB6 : BN wC M6 := by rw [e6]; exact BN.up hB5 (rfl : zcd wC 63 = 22) rfl (by omega) (by omega)
      have r1 : M6 63 (2 * i) = c := by rw [e6, zup_n _ _ (by omega), e5, zup_s]
      have r2 : M6 63 (2 * i + 1) = t := by rw [e6, zup_s]
      refine hQ _ _ ⟨hB6, fun j9 h9 => by rw [e6, zup_row _ _ h9, e5, zup_row _ _ h9], by omega, by omega, by omega, by omega, fun k h9 h8 => ?_⟩
      rw [e6, zup_n _ _ (by omega), e5, zup_n _ _ (by omega)]
/-- a plan that can be carried out -/
def PVC (M N : zM) : Prop := ∀ k : Nat, k < 4 → (k : Int) < M 32 2 → (0 ≤ N 63 (2 * k) ∧ N 63 (2 * k) < M (42 + 4 * k) 1) ∧ (0 ≤ N 63 (2 * k + 1) ∧ N 63 (2 * k + 1) < M (42 + 4 * k) 1 - N 63 (2 * k))
set_option maxHeartbeats 8000000 in
theorem sC_Planner_find {M : zM} (hB : BN wC M) {Q : Int → zM → Prop} (hQ : ∀ z M1, (BN wC M1 ∧ (∀ j9 : Nat, ¬ (63 ≤ j9 ∧ j9 ≤ 77) → M1 j9 = M j9) ∧ (-1 ≤ z ∧ z ≤ 1000000) ∧ (z = -1 ∨ PVC M M1) ∧ True) → Q z M1) : wC_Planner_find M Q := by
  unfold wC_Planner_find
  have b1 : 0 ≤ M 32 2 ∧ M 32 2 ≤ 4 := BN.at hB (rfl : zcd wC 32 = 8) rfl
  have s1 : sI (M 32 2) = M 32 2 := sIo (by omega) (by omega)
  have b2 : 0 ≤ M 60 2 ∧ M 60 2 ≤ 6 := BN.at hB (rfl : zcd wC 60 = 19) rfl
  have bs := shl1_b (M 60 2) b2.1 b2.2
  obtain ⟨n, en⟩ : ∃ n : Nat, n = (M 32 2).toNat := ⟨_, rfl⟩
  have hn : (n : Int) = M 32 2 := by omega
  have e1 : (sI (M 32 2)).toNat = n := by rw [s1]; omega
  rw [e1, Nat.one_mul]
  have hnC : nC = 134 := rfl
  have cdn : zcd wC (70 + n) = 26 := (by decide : ∀ k : Nat, k < 5 → zcd wC (70 + k) = 26) n (by omega)
  refine ⟨by omega, ?_⟩
  refine sC_fill hB (by omega) cdn (by omega) (fun _ => rfl) (by omega) (by omega) (fun M4 hp => ?_)
  obtain ⟨hB4, hF4, -, -⟩ := hp
  refine ⟨by omega, ?_⟩
  intro M8 e8
  have hB8 : BN wC M8 := by rw [e8]; exact BN.up hB4 cdn rfl (by omega) (by omega)
  have hF8 : ∀ j9 : Nat, ¬ (63 ≤ j9 ∧ j9 ≤ 77) → M8 j9 = M j9 := fun j9 h9 => by rw [e8, zup_row _ _ (by omega)]; exact hF4 j9 (by omega)
  refine wL1_of (fun x N => BN wC N ∧ (∀ j9 : Nat, ¬ (63 ≤ j9 ∧ j9 ≤ 77) → N j9 = M j9) ∧ (-1 ≤ x ∧ x ≤ 3) ∧ (∀ k : Nat, k < 4 → x < k → (k : Int) < M 32 2 → DPC N k) ∧ True) (fun x _ => (x + 1).toNat) ⟨hB8, hF8, by omega, fun k _ _ _ => by omega, trivial⟩ (fun K x N hI hK => ?_)
  obtain ⟨hBN, hFN, ix, iD, -⟩ := hI
  have s2 : sI x = x := sIo (by omega) (by omega)
  have r60 : N 60 = M 60 := hFN 60 (by omega)
  have r32 : N 32 = M 32 := hFN 32 (by omega)
  rw [s2, r60]
  refine ⟨fun c => ?_, fun c => ?_⟩
  · have s3 : sI (shlI 1 (M 60 2) - 1) = shlI 1 (M 60 2) - 1 := sIo (by omega) (by omega)
    rw [s3]
    refine ⟨by omega, ?_⟩
    intro sm esm
    have bsm : 0 ≤ sm ∧ sm ≤ 1000000 := by rw [esm]; exact BN.at hBN (rfl : zcd wC 70 = 26) rfl
    have s4 : sI sm = sm := sIo (by omega) (by omega)
    rw [s4]
    refine ⟨fun c2 => ?_, fun c2 => hQ _ _ ⟨hBN, hFN, by omega, Or.inl rfl, trivial⟩⟩
    refine wL2_of (fun w y P => BN wC P ∧ (∀ j9 : Nat, ¬ (j9 = 63) → P j9 = N j9) ∧ (0 ≤ y ∧ y ≤ M 32 2) ∧ (0 ≤ w ∧ w < shlI 1 (M 60 2)) ∧ N (70 + y.toNat) w.toNat < 1000000 ∧ (∀ k : Nat, (k : Int) < y → (0 ≤ P 63 (2 * k) ∧ P 63 (2 * k) < M (42 + 4 * k) 1) ∧ (0 ≤ P 63 (2 * k + 1) ∧ P 63 (2 * k + 1) < M (42 + 4 * k) 1 - P 63 (2 * k))) ∧ True) (fun _ y _ => (100 - y).toNat) ⟨hBN, fun _ _ => rfl, by omega, by omega, by rw [show (70 + (0 : Int).toNat) = 70 from rfl, ← esm]; exact c2, fun k h => by omega, trivial⟩ (fun K2 w y P hI2 hK2 => ?_)
    obtain ⟨hBP, hFP, iy, iw, iv, ip, -⟩ := hI2
    have s5 : sI y = y := sIo (by omega) (by omega)
    rw [s1, s5]
    have p32 : P 32 = M 32 := (hFP 32 (by omega)).trans r32
    refine ⟨fun c3 => hQ _ _ ⟨hBP, fun j9 h9 => (hFP j9 (by omega)).trans (hFN j9 h9), by omega, Or.inr (fun k hk hk2 => ip k (by omega)), trivial⟩, fun c3 => ?_⟩
    refine sC_Studio_find hBP (by omega) (fun hnn => ?_) (fun q hp => ?_)
    · rw [p32] at hnn
      omega
    · obtain ⟨⟨ltq, cdq⟩, eq, -, -, hy4⟩ := hp
      refine ⟨(fun h9 => nomatch h9), fun q9 h9 => ?_⟩
      obtain rfl := Option.some.inj h9
      refine ⟨⟨ltq, cdq⟩, ?_⟩
      have p60 : P 60 = M 60 := (hFP 60 (by omega)).trans r60
      have hDy : DPC P y.toNat := (iD y.toNat (by omega) (by omega) (by omega)).of (hFP 60 (by omega)) (hFP _ (by omega)) (hFP _ (by omega)) (hFP _ (by omega)) (hFP _ (by omega)) (hFP _ (by omega))
      have hl : P (42 + 4 * y.toNat) = M (42 + 4 * y.toNat) := (hFP _ (by omega)).trans (hFN _ (by omega))
      refine sC_Planner_choose hBP (by omega) eq (by rw [p60]; exact iw) hDy (by rw [hFP (70 + y.toNat) (by omega)]; exact iv) (fun z M1 hp => ?_)
      obtain ⟨hB1, hF1, q1, q2, q3, q4, q5⟩ := hp
      rw [p60] at q1
      rw [hl] at q3 q4
      rw [hFP (70 + y.toNat + 1) (by omega)] at q2
      refine hK2 _ _ _ ⟨hB1, fun j9 h9 => (hF1 j9 h9).trans (hFP j9 h9), by omega, q1, ?_, ?_, trivial⟩ (by omega)
      · rw [show (y + 1).toNat = y.toNat + 1 by omega]
        exact q2
      · intro k hk
        by_cases hky : k = y.toNat
        · subst hky
          exact ⟨q3, q4⟩
        · rw [q5 (2 * k) (by omega) (by omega), q5 (2 * k + 1) (by omega) (by omega)]
          exact ip k (by omega)
  · refine sC_Studio_find hBN (by omega) (fun hnn => ?_) (fun q hp => ?_)
    · refine ⟨fun _ => ?_, fun q9 h9 => nomatch h9⟩
      rw [r32] at hnn
      exact hK _ _ ⟨hBN, hFN, by omega, fun k h1 h2 h3 => iD k h1 (by omega) h3, trivial⟩ (by omega)
    · obtain ⟨⟨ltq, cdq⟩, eq, -, hxc, hx4⟩ := hp
      refine ⟨(fun h9 => nomatch h9), fun q9 h9 => ?_⟩
      obtain rfl := Option.some.inj h9
      refine ⟨⟨ltq, cdq⟩, ?_⟩
      have bm : 0 ≤ N q 1 ∧ N q 1 ≤ 1 := BN.at hBN cdq rfl
      refine sC_Studio_motorOf hBN (by omega) (fun qm hp => ?_)
      obtain ⟨⟨ltm, cdm⟩, -⟩ := hp
      refine ⟨qm, rfl, ⟨ltm, cdm⟩, ?_⟩
      obtain ⟨i, ei⟩ : ∃ i : Nat, i = x.toNat := ⟨_, rfl⟩
      have hi : (i : Int) = x := by omega
      have s6 : sI (x + 1) = x + 1 := sIo (by omega) (by omega)
      have e6 : (sI (x + 1)).toNat = i + 1 := by omega
      have eq2 : q = 41 + 4 * i := by omega
      have c65 : 65 + i < nC ∧ zcd wC (65 + i) = 24 := (by decide : ∀ k : Nat, k < 4 → 65 + k < nC ∧ zcd wC (65 + k) = 24) i (by omega)
      have c70 : 70 + i < nC ∧ zcd wC (70 + i) = 26 := (by decide : ∀ k : Nat, k < 4 → 70 + k < nC ∧ zcd wC (70 + k) = 26) i (by omega)
      have c71 : 70 + i + 1 < nC ∧ zcd wC (70 + i + 1) = 26 := (by decide : ∀ k : Nat, k < 4 → 70 + k + 1 < nC ∧ zcd wC (70 + k + 1) = 26) i (by omega)
      rw [← ei, e6, Nat.one_mul, Nat.one_mul, show 70 + (i + 1) = 70 + i + 1 from rfl]
      refine ⟨by omega, ?_⟩
      refine sC_Planner_listTrue hBN ltq cdq ltm cdm c65.1 c65.2 (fun A hp => ?_)
      obtain ⟨hBA, hFA, -⟩ := hp
      refine ⟨by omega, ?_⟩
      refine sC_Planner_listCheapest hBA ltq cdq c65.1 c65.2 (fun B hp => ?_)
      obtain ⟨hBB, hFB, hC, -⟩ := hp
      refine ⟨by omega, by omega, ?_⟩
      refine sC_Planner_addCosts hBB c71.1 c71.2 c70.1 c70.2 (by omega) (fun D hp => ?_)
      obtain ⟨hBD, hFD, hA, -⟩ := hp
      have fr : ∀ j9 : Nat, ¬ (j9 = 65 + i ∨ j9 = 75 ∨ j9 = 76 ∨ j9 = 77 ∨ j9 = 70 + i) → D j9 = N j9 := fun j9 h9 => (hFD j9 (by omega)).trans ((hFB j9 (by omega)).trans (hFA j9 (by omega)))
      refine hK _ _ ⟨hBD, fun j9 h9 => (fr j9 (by omega)).trans (hFN j9 h9), by omega, ?_, trivial⟩ (by omega)
      intro k h1 h2 h3
      by_cases hki : k = i
      · subst hki
        intro v hv
        have d60 : D 60 = N 60 := fr 60 (by omega)
        have b60 : B 60 = N 60 := (hFB 60 (by omega)).trans (hFA 60 (by omega))
        rw [d60] at hv
        rw [b60] at hA
        have bD : 0 ≤ D (70 + k) v ∧ D (70 + k) v ≤ 1000000 := BN.at hBD c70.2 rfl
        rcases hA v hv with h | ⟨g, hg, eg⟩
        · exact Or.inl h
        · have bB : 0 ≤ B (70 + k + 1) (andI v (xorI g (-1))).toNat ∧ B (70 + k + 1) (andI v (xorI g (-1))).toNat ≤ 1000000 := BN.at hBB c71.2 rfl
          rw [r60] at hg
          rcases hC g (by omega) with h | ⟨cc, tt, hc1, hc2, hc3, hc4⟩
          · left
            omega
          · right
            have lA : A (q + 1) = N (q + 1) := hFA _ (by omega)
            have lA2 : A q = N q := hFA _ (by omega)
            have d1 : D (42 + 4 * k) = A (q + 1) := by rw [lA, show q + 1 = 42 + 4 * k by omega]; exact fr _ (by omega)
            have d2 : D (41 + 4 * k) = A q := by rw [lA2, eq2]; exact fr _ (by omega)
            have d3 : D (65 + k) = A (65 + k) := (hFD _ (by omega)).trans (hFB _ (by omega))
            have d4 : D (70 + k + 1) = B (70 + k + 1) := hFD _ (by omega)
            refine ⟨cc, tt, by rw [d1]; exact hc1, by rw [d1]; exact hc2, ?_⟩
            rw [d1, d2, d3, d4, hc3, eg, hc4]
      · have hD0 := iD k h1 (by omega) h3
        exact hD0.of (fr _ (by omega)) (fr _ (by omega)) (fr _ (by omega)) (fr _ (by omega)) (fr _ (by omega)) (fr _ (by omega))
theorem sC_tell {M : zM} {a0 : Nat} {a1 : Int} (hB : BN wC M) (lt_a0 : a0 < nC) {q : Nat} (cd_a0 : zcd wC a0 = q) (v1 : 0 ≤ a1 ∧ a1 ≤ 41) (p0 : a0 ≠ 133) {Q : zM → Prop} (hQ : ∀ M1, (BN wC M1 ∧ (∀ j9 : Nat, ¬ (j9 = 0 ∨ j9 = 133) → M1 j9 = M j9) ∧ True) → Q M1) : wC_tell a0 a1 M Q := by
  unfold wC_tell
  have s1 : sI a1 = a1 := sIo (by omega) (by omega)
  intro M1 e1
  have r1 : M1 0 10 = min (sI a1) (min ((zln wC a0) : Int) 40) := by rw [e1]; exact zup_s _ _ _ _
  have s2 : sI (M1 0 10) = M1 0 10 := sIo (by omega) (by omega)
  have hB1 : BN wC M1 := by rw [e1]; exact BN.up hB (rfl : zcd wC 0 = 0) rfl (by omega) (by omega)
  refine ⟨p0, by omega, by omega, by omega, ?_⟩
  intro M7 e7
  refine hQ _ ⟨?_, fun j9 h9 => ?_, trivial⟩
  · rw [e7]
    exact BN.cp hB1 (rfl : zcd wC 133 = 49) (fun _ => rfl) (fun k => BN.r32 hB1 _ k)
  · rw [e7, zcp_row (by omega), e1, zup_row _ _ (by omega)]
theorem sC_plan {M : zM} (hB : BN wC M) {Q : Int → zM → Prop} (hQ : ∀ z M1, (BN wC M1 ∧ (∀ j9 : Nat, ¬ (63 ≤ j9 ∧ j9 ≤ 77 ∨ j9 = 0 ∨ j9 = 133) → M1 j9 = M j9) ∧ True) → Q z M1) : wC_plan M Q := by
  unfold wC_plan
  refine sC_Planner_find hB (fun z M1 hp => ?_)
  obtain ⟨hB1, hF1, p1, -, -⟩ := hp
  refine ⟨fun c => hQ _ _ ⟨hB1, fun j9 h9 => hF1 j9 (by omega), trivial⟩, fun c => ?_⟩
  have b1 : 0 ≤ M1 32 2 ∧ M1 32 2 ≤ 4 := BN.at hB1 (rfl : zcd wC 32 = 8) rfl
  refine sC_tell hB1 (by decide) (rfl : zcd wC 63 = 22) (by omega) (by decide) (fun M5 hp => ?_)
  obtain ⟨hB5, hF5, -⟩ := hp
  exact hQ _ _ ⟨hB5, fun j9 h9 => (hF5 j9 (by omega)).trans (hF1 j9 (by omega)), trivial⟩
set_option maxHeartbeats 4000000 in
set_option maxRecDepth 100000 in
theorem sC_Ring_cutBy {M : zM} {j : Nat} {a0 : Int} (hB : BN wC M) (lt_j : j < nC) (cd_j : zcd wC j = 14) (v0 : 0 ≤ a0 ∧ a0 ≤ 24) (p0 : a0 ≤ M (j + 1) 1) {Q : zM → Prop} (hQ : ∀ (M1 : zM), BN wC M1 ∧ (∀ j9 : Nat, ¬ (j ≤ j9 ∧ j9 ≤ j + 3) → M1 j9 = M j9) ∧ True → Q M1) : wC_Ring_cutBy j a0 M Q := by
  unfold wC_Ring_cutBy
  have hF0 : ∀ j9 : Nat, ¬ (j ≤ j9 ∧ j9 ≤ j + 3) → M j9 = M j9 := fun j9 _ => rfl
  obtain ⟨lt1, cd2, lt3, cd4, lt5, cd6⟩ := nx_ring j lt_j cd_j
  have q7 : 0 ≤ (M (j + 1) 1) ∧ (M (j + 1) 1) ≤ 24 := BN.at hB cd2 rfl
  intro M8 e9
  have hB10 : BN wC M8 := by rw [e9]; exact BN.up hB cd2 rfl (by omega) (by omega)
  have hF11 : ∀ j9 : Nat, ¬ (j ≤ j9 ∧ j9 ≤ j + 3) → M8 j9 = M j9 := fun j9 h9 => by rw [e9]; exact (zup_row _ _ (by omega)).trans (hF0 j9 h9)
  have q12 : 0 ≤ (M8 j 2) ∧ (M8 j 2) ≤ 23 := BN.at hB10 cd_j rfl
  have s13 : sI (M8 j 2) = (M8 j 2) := sIo (by omega) (by omega)
  have q14 : 0 ≤ (M8 (j + 1) 1) ∧ (M8 (j + 1) 1) ≤ 24 := BN.at hB10 cd2 rfl
  refine sC_by hB10 (by omega) (fun z15  h16 => ?_)
  obtain ⟨p17, p18, p19, -⟩ := h16
  intro M20 e21
  have hB22 : BN wC M20 := by rw [e21]; exact BN.up hB10 cd_j rfl (by omega) (by omega)
  have hF23 : ∀ j9 : Nat, ¬ (j ≤ j9 ∧ j9 ≤ j + 3) → M20 j9 = M j9 := fun j9 h9 => by rw [e21]; exact (zup_row _ _ (by omega)).trans (hF11 j9 h9)
  refine sC_Ring_listen hB22 lt_j cd_j (fun  M24 h25 => ?_)
  obtain ⟨hB26, f27, -⟩ := h25
  have hF28 : ∀ j9 : Nat, ¬ (j ≤ j9 ∧ j9 ≤ j + 3) → M24 j9 = M j9 := fun j9 h9 => ((f27 j9 (by omega)).trans (hF23 j9 h9))
  exact hQ _ ⟨hB26, hF28, trivial⟩
set_option maxHeartbeats 4000000 in
theorem sC_Planner_carryOut {M : zM} (hB : BN wC M) (p0 : PVC M M) {Q : zM → Prop} (hQ : ∀ M1, (BN wC M1 ∧ (∀ j9 : Nat, ¬ (41 ≤ j9 ∧ j9 ≤ 56) → M1 j9 = M j9) ∧ True) → Q M1) : wC_Planner_carryOut M Q := by
  unfold wC_Planner_carryOut
  refine wL1_of (fun x N => BN wC N ∧ (∀ j9 : Nat, ¬ (41 ≤ j9 ∧ (j9 : Int) < 41 + 4 * x) → N j9 = M j9) ∧ (0 ≤ x ∧ x ≤ 4) ∧ True) (fun x _ => (100 - x).toNat) ⟨hB, fun _ _ => rfl, by omega, trivial⟩ (fun K x N hI hK => ?_)
  obtain ⟨hBN, hFN, ix, -⟩ := hI
  have s1 : sI x = x := sIo (by omega) (by omega)
  have s2 : sI (2 * x) = 2 * x := sIo (by omega) (by omega)
  have s3 : sI (2 * x + 1) = 2 * x + 1 := sIo (by omega) (by omega)
  have r32 : N 32 = M 32 := hFN 32 (by omega)
  refine ⟨fun c => hQ _ ⟨hBN, fun j9 h9 => hFN j9 (by omega), trivial⟩, fun c => ?_⟩
  refine sC_Studio_find hBN (by omega) (fun hnn => ?_) (fun q hp => ?_)
  · exact ⟨fun _ => hK _ _ ⟨hBN, fun j9 h9 => hFN j9 (by omega), by omega, trivial⟩ (by omega), fun q9 h9 => nomatch h9⟩
  · obtain ⟨⟨ltq, cdq⟩, eq, -, hxc, hx4⟩ := hp
    refine ⟨(fun h9 => nomatch h9), fun q9 h9 => ?_⟩
    obtain rfl := Option.some.inj h9
    refine ⟨⟨ltq, cdq⟩, by omega, ?_⟩
    obtain ⟨i, ei⟩ : ∃ i : Nat, i = x.toNat := ⟨_, rfl⟩
    rw [r32] at hxc
    have pv := p0 i (by omega) (by omega)
    have e2 : (sI (2 * x)).toNat = 2 * i := by omega
    have e3 : (sI (2 * x + 1)).toNat = 2 * i + 1 := by omega
    have r63 : N 63 = M 63 := hFN 63 (by omega)
    have rl : N (q + 1) = M (42 + 4 * i) := by rw [show q + 1 = 42 + 4 * i by omega]; exact hFN _ (by omega)
    have bl : 0 ≤ M (42 + 4 * i) 1 ∧ M (42 + 4 * i) 1 ≤ 24 := BN.at hB ((by decide : ∀ k : Nat, k < 4 → zcd wC (42 + 4 * k) = 6) i (by omega)) rfl
    rw [e2, e3, r63]
    refine sC_Ring_cutBy hBN ltq cdq (by omega) (by rw [rl]; omega) (fun A hp => ?_)
    obtain ⟨hBA, hFA, -⟩ := hp
    have a63 : A 63 = M 63 := (hFA 63 (by omega)).trans r63
    refine ⟨by omega, ?_⟩
    intro B e
    rw [a63] at e
    exact hK _ _ ⟨by rw [e]; exact BN.up hBA cdq rfl (by omega) (by omega), fun j9 h9 => by rw [e, zup_row _ _ (by omega)]; exact (hFA j9 (by omega)).trans (hFN j9 (by omega)), by omega, trivial⟩ (by omega)
theorem sC_make {M : zM} (hB : BN wC M) {Q : Int → zM → Prop} (hQ : ∀ z M1, (BN wC M1 ∧ (∀ j9 : Nat, ¬ (63 ≤ j9 ∧ j9 ≤ 77 ∨ 41 ≤ j9 ∧ j9 ≤ 56) → M1 j9 = M j9) ∧ True) → Q z M1) : wC_make M Q := by
  unfold wC_make
  refine sC_Planner_find hB (fun z M1 hp => ?_)
  obtain ⟨hB1, hF1, p1, p2, -⟩ := hp
  refine ⟨fun c => hQ _ _ ⟨hB1, fun j9 h9 => hF1 j9 (by omega), trivial⟩, fun c => ?_⟩
  refine sC_Planner_carryOut hB1 ?_ (fun M5 hp => ?_)
  · rcases p2 with h | h
    · exact absurd h c
    · intro k hk hk2
      rw [hF1 32 (by omega)] at hk2
      rw [hF1 (42 + 4 * k) (by omega)]
      exact h k hk hk2
  · obtain ⟨hB5, hF5, -⟩ := hp
    exact hQ _ _ ⟨hB5, fun j9 h9 => (hF5 j9 (by omega)).trans (hF1 j9 (by omega)), trivial⟩
set_option maxHeartbeats 4000000 in
set_option maxRecDepth 100000 in
theorem sC_cut {M : zM} {a0 : Int} {a1 : Int} (hB : BN wC M) (v0 : (-2147483648) ≤ a0 ∧ a0 ≤ 2147483647) (v1 : (-2147483648) ≤ a1 ∧ a1 ≤ 2147483647) {Q : Int → zM → Prop} (hQ : ∀ (z : Int) (M1 : zM), BN wC M1 ∧ (∀ j9 : Nat, ¬ (32 ≤ j9 ∧ j9 ≤ 34 ∨ 41 ≤ j9 ∧ j9 ≤ 56) → M1 j9 = M j9) ∧ ((-2147483648) ≤ z ∧ z ≤ 2147483647) ∧ True → Q z M1) : wC_cut a0 a1 M Q := by
  unfold wC_cut
  have hF0 : ∀ j9 : Nat, ¬ (32 ≤ j9 ∧ j9 ≤ 34 ∨ 41 ≤ j9 ∧ j9 ≤ 56) → M j9 = M j9 := fun j9 _ => rfl
  refine sC_Studio_find hB (by omega) (fun h2 => ?_) (fun q1 h2 => ?_)
  · skip
    refine ⟨fun _ => ?_, fun q9 h9 => nomatch h9⟩
    exact hQ _ _ ⟨hB, hF0, (by omega), trivial⟩
  · skip
    refine ⟨(fun h9 => nomatch h9), fun q9 h9 => ?_⟩
    obtain rfl := Option.some.inj h9
    obtain ⟨⟨lt3, cd4⟩, h2⟩ := h2
    refine ⟨⟨lt3, cd4⟩, ?_⟩
    obtain ⟨lt5, cd6, lt7, cd8, lt9, cd10⟩ := nx_ring q1 lt3 cd4
    refine sC_Strip_has hB lt5 cd6 (by omega) (fun z11  h12 => ?_)
    obtain ⟨p13, p14, -⟩ := h12
    refine ⟨fun c15 => ?_, fun c15 => ?_⟩
    · skip
      refine sC_Ring_cutBy hB lt3 cd4 (by omega) (by omega) (fun  M16 h17 => ?_)
      obtain ⟨hB18, f19, -⟩ := h17
      have hF20 : ∀ j9 : Nat, ¬ (32 ≤ j9 ∧ j9 ≤ 34 ∨ 41 ≤ j9 ∧ j9 ≤ 56) → M16 j9 = M j9 := fun j9 h9 => ((f19 j9 (by omega)).trans (hF0 j9 h9))
      have q21 : 0 ≤ (M16 (q1 + 1) 1) ∧ (M16 (q1 + 1) 1) ≤ 24 := BN.at hB18 cd6 rfl
      have s22 : sI (M16 (q1 + 1) 1) = (M16 (q1 + 1) 1) := sIo (by omega) (by omega)
      exact hQ _ _ ⟨hB18, hF20, (by omega), trivial⟩
    · skip
      exact hQ _ _ ⟨hB, hF0, (by omega), trivial⟩
set_option maxHeartbeats 4000000 in
set_option maxRecDepth 100000 in
theorem sC_Echo_weigh {M : zM} {a0 : Int} {a1 : Int} (hB : BN wC M) (v0 : 1 ≤ a0 ∧ a0 ≤ 9) (v1 : 0 ≤ a1 ∧ a1 ≤ 200) {Q : Int → zM → Prop} (hQ : ∀ (z : Int) (M1 : zM), BN wC M1 ∧ (∀ j9 : Nat, ¬ (j9 = 80) → M1 j9 = M j9) ∧ ((-2147483648) ≤ z ∧ z ≤ 2147483647) ∧ True → Q z M1) : wC_Echo_weigh a0 a1 M Q := by
  unfold wC_Echo_weigh
  have hF0 : ∀ j9 : Nat, ¬ (j9 = 80) → M j9 = M j9 := fun j9 _ => rfl
  have s1 : sI a0 = a0 := sIo (by omega) (by omega)
  have o2 : 0 ≤ (sI a0) ∧ (sI a0) < 10 := by omega
  refine ⟨o2, ?_⟩
  have q3 : (-2147483648) ≤ (M 80 (sI a0).toNat) ∧ (M 80 (sI a0).toNat) ≤ 2147483647 := BN.at hB (rfl : zcd wC 80 = 32) rfl
  have o4 : 0 ≤ (sI a0) ∧ (sI a0) < 10 := by omega
  refine ⟨o4, ?_⟩
  intro M5 e6
  have hB7 : BN wC M5 := by rw [e6]; exact BN.up hB (rfl : zcd wC 80 = 32) rfl (by omega) (by omega)
  have hF8 : ∀ j9 : Nat, ¬ (j9 = 80) → M5 j9 = M j9 := fun j9 h9 => by rw [e6]; exact (zup_row _ _ (by omega)).trans (hF0 j9 h9)
  have s9 : sI (M 80 (sI a0).toNat) = (M 80 (sI a0).toNat) := sIo (by omega) (by omega)
  exact hQ _ _ ⟨hB7, hF8, (by omega), trivial⟩
set_option maxHeartbeats 4000000 in
set_option maxRecDepth 100000 in
theorem sC_weight {M : zM} {a0 : Int} {a1 : Int} (hB : BN wC M) (v0 : (-2147483648) ≤ a0 ∧ a0 ≤ 2147483647) (v1 : (-2147483648) ≤ a1 ∧ a1 ≤ 2147483647) {Q : Int → zM → Prop} (hQ : ∀ (z : Int) (M1 : zM), BN wC M1 ∧ (∀ j9 : Nat, ¬ (j9 = 80) → M1 j9 = M j9) ∧ ((-2147483648) ≤ z ∧ z ≤ 2147483647) ∧ True → Q z M1) : wC_weight a0 a1 M Q := by
  unfold wC_weight
  have hF0 : ∀ j9 : Nat, ¬ (j9 = 80) → M j9 = M j9 := fun j9 _ => rfl
  refine sC_isSound hB (by omega) (fun z1  h2 => ?_)
  obtain ⟨p3, p4, -⟩ := h2
  refine ⟨fun c5 => ?_, fun c5 => ?_⟩
  · skip
    exact hQ _ _ ⟨hB, hF0, (by omega), trivial⟩
  · skip
    refine sC_within hB (by omega) (by omega) (by omega) (fun z6  h7 => ?_)
    obtain ⟨p8, p9, -⟩ := h7
    refine ⟨fun c10 => ?_, fun c10 => ?_⟩
    · skip
      refine sC_Echo_weigh hB (by omega) (by omega) (fun z11 M12 h13 => ?_)
      obtain ⟨hB14, f15, p16, -⟩ := h13
      have hF17 : ∀ j9 : Nat, ¬ (j9 = 80) → M12 j9 = M j9 := fun j9 h9 => ((f15 j9 (by omega)).trans (hF0 j9 h9))
      exact hQ _ _ ⟨hB14, hF17, (by omega), trivial⟩
    · skip
      exact hQ _ _ ⟨hB, hF0, (by omega), trivial⟩
set_option maxHeartbeats 4000000 in
set_option maxRecDepth 100000 in
theorem sC_Echo_place {M : zM} {a0 : Int} {a1 : Int} {a2 : Int} {a3 : Int} (hB : BN wC M) (v0 : 0 ≤ a0 ∧ a0 ≤ 20) (v1 : 0 ≤ a1 ∧ a1 ≤ 100) (v2 : 0 ≤ a2 ∧ a2 ≤ 20) (v3 : 0 ≤ a3 ∧ a3 ≤ 100) {Q : zM → Prop} (hQ : ∀ (M1 : zM), BN wC M1 ∧ (∀ j9 : Nat, ¬ (j9 = 78) → M1 j9 = M j9) ∧ (M1 78 0 = M 78 0) ∧ (M1 78 3 = a0) ∧ (M1 78 4 = a1) ∧ (M1 78 5 = a2) ∧ (M1 78 6 = a3) ∧ True → Q M1) : wC_Echo_place a0 a1 a2 a3 M Q := by
  unfold wC_Echo_place
  have hF0 : ∀ j9 : Nat, ¬ (j9 = 78) → M j9 = M j9 := fun j9 _ => rfl
  intro M1 e2
  have hB3 : BN wC M1 := by rw [e2]; exact BN.up hB (rfl : zcd wC 78 = 30) rfl (by omega) (by omega)
  have hF4 : ∀ j9 : Nat, ¬ (j9 = 78) → M1 j9 = M j9 := fun j9 h9 => by rw [e2]; exact (zup_row _ _ (by omega)).trans (hF0 j9 h9)
  have r5 : M1 78 0 = M 78 0 := by rw [e2]; exact zup_n _ _ (by omega)
  have r6 : M1 78 3 = a0 := by rw [e2]; exact zup_s _ _ _ _
  have r7 : M1 78 4 = M 78 4 := by rw [e2]; exact zup_n _ _ (by omega)
  have r8 : M1 78 5 = M 78 5 := by rw [e2]; exact zup_n _ _ (by omega)
  have r9 : M1 78 6 = M 78 6 := by rw [e2]; exact zup_n _ _ (by omega)
  intro M10 e11
  have hB12 : BN wC M10 := by rw [e11]; exact BN.up hB3 (rfl : zcd wC 78 = 30) rfl (by omega) (by omega)
  have hF13 : ∀ j9 : Nat, ¬ (j9 = 78) → M10 j9 = M j9 := fun j9 h9 => by rw [e11]; exact (zup_row _ _ (by omega)).trans (hF4 j9 h9)
  have r14 : M10 78 0 = M1 78 0 := by rw [e11]; exact zup_n _ _ (by omega)
  have r15 : M10 78 3 = M1 78 3 := by rw [e11]; exact zup_n _ _ (by omega)
  have r16 : M10 78 4 = a1 := by rw [e11]; exact zup_s _ _ _ _
  have r17 : M10 78 5 = M1 78 5 := by rw [e11]; exact zup_n _ _ (by omega)
  have r18 : M10 78 6 = M1 78 6 := by rw [e11]; exact zup_n _ _ (by omega)
  intro M19 e20
  have hB21 : BN wC M19 := by rw [e20]; exact BN.up hB12 (rfl : zcd wC 78 = 30) rfl (by omega) (by omega)
  have hF22 : ∀ j9 : Nat, ¬ (j9 = 78) → M19 j9 = M j9 := fun j9 h9 => by rw [e20]; exact (zup_row _ _ (by omega)).trans (hF13 j9 h9)
  have r23 : M19 78 0 = M10 78 0 := by rw [e20]; exact zup_n _ _ (by omega)
  have r24 : M19 78 3 = M10 78 3 := by rw [e20]; exact zup_n _ _ (by omega)
  have r25 : M19 78 4 = M10 78 4 := by rw [e20]; exact zup_n _ _ (by omega)
  have r26 : M19 78 5 = a2 := by rw [e20]; exact zup_s _ _ _ _
  have r27 : M19 78 6 = M10 78 6 := by rw [e20]; exact zup_n _ _ (by omega)
  intro M28 e29
  have hB30 : BN wC M28 := by rw [e29]; exact BN.up hB21 (rfl : zcd wC 78 = 30) rfl (by omega) (by omega)
  have hF31 : ∀ j9 : Nat, ¬ (j9 = 78) → M28 j9 = M j9 := fun j9 h9 => by rw [e29]; exact (zup_row _ _ (by omega)).trans (hF22 j9 h9)
  have r32 : M28 78 0 = M19 78 0 := by rw [e29]; exact zup_n _ _ (by omega)
  have r33 : M28 78 3 = M19 78 3 := by rw [e29]; exact zup_n _ _ (by omega)
  have r34 : M28 78 4 = M19 78 4 := by rw [e29]; exact zup_n _ _ (by omega)
  have r35 : M28 78 5 = M19 78 5 := by rw [e29]; exact zup_n _ _ (by omega)
  have r36 : M28 78 6 = a3 := by rw [e29]; exact zup_s _ _ _ _
  exact hQ _ ⟨hB30, hF31, (by omega), (by omega), (by omega), (by omega), (by omega), trivial⟩
set_option maxHeartbeats 4000000 in
set_option maxRecDepth 100000 in
theorem sC_heads {M : zM} {a0 : Int} {a1 : Int} {a2 : Int} {a3 : Int} (hB : BN wC M) (v0 : (-2147483648) ≤ a0 ∧ a0 ≤ 2147483647) (v1 : (-2147483648) ≤ a1 ∧ a1 ≤ 2147483647) (v2 : (-2147483648) ≤ a2 ∧ a2 ≤ 2147483647) (v3 : (-2147483648) ≤ a3 ∧ a3 ≤ 2147483647) {Q : Int → zM → Prop} (hQ : ∀ (z : Int) (M1 : zM), BN wC M1 ∧ (∀ j9 : Nat, ¬ (j9 = 78) → M1 j9 = M j9) ∧ (0 ≤ z ∧ z ≤ 1) ∧ ((z = 1 ∧ (1 ≤ a0 ∧ a0 ≤ 20) ∧ (0 ≤ a1 ∧ a1 ≤ 100) ∧ (1 ≤ a2 ∧ a2 ≤ 20) ∧ (0 ≤ a3 ∧ a3 ≤ 100)) ∨ (z = 0 ∧ ¬ ((1 ≤ a0 ∧ a0 ≤ 20) ∧ (0 ≤ a1 ∧ a1 ≤ 100) ∧ (1 ≤ a2 ∧ a2 ≤ 20) ∧ (0 ≤ a3 ∧ a3 ≤ 100)))) ∧ (M1 78 0 = M 78 0) ∧ True → Q z M1) : wC_heads a0 a1 a2 a3 M Q := by
  unfold wC_heads
  have hF0 : ∀ j9 : Nat, ¬ (j9 = 78) → M j9 = M j9 := fun j9 _ => rfl
  refine sC_within hB (by omega) (by omega) (by omega) (fun z1  h2 => ?_)
  obtain ⟨p3, p4, -⟩ := h2
  refine ⟨fun c5 => ?_, fun c5 => ?_⟩
  · skip
    exact hQ _ _ ⟨hB, hF0, (by omega), (by omega), (by omega), trivial⟩
  · skip
    refine sC_within hB (by omega) (by omega) (by omega) (fun z6  h7 => ?_)
    obtain ⟨p8, p9, -⟩ := h7
    refine ⟨fun c10 => ?_, fun c10 => ?_⟩
    · skip
      exact hQ _ _ ⟨hB, hF0, (by omega), (by omega), (by omega), trivial⟩
    · skip
      refine sC_within hB (by omega) (by omega) (by omega) (fun z11  h12 => ?_)
      obtain ⟨p13, p14, -⟩ := h12
      refine ⟨fun c15 => ?_, fun c15 => ?_⟩
      · skip
        exact hQ _ _ ⟨hB, hF0, (by omega), (by omega), (by omega), trivial⟩
      · skip
        refine sC_within hB (by omega) (by omega) (by omega) (fun z16  h17 => ?_)
        obtain ⟨p18, p19, -⟩ := h17
        refine ⟨fun c20 => ?_, fun c20 => ?_⟩
        · skip
          refine sC_Echo_place hB (by omega) (by omega) (by omega) (by omega) (fun  M21 h22 => ?_)
          obtain ⟨hB23, f24, p25, p26, p27, p28, p29, -⟩ := h22
          have hF30 : ∀ j9 : Nat, ¬ (j9 = 78) → M21 j9 = M j9 := fun j9 h9 => ((f24 j9 (by omega)).trans (hF0 j9 h9))
          exact hQ _ _ ⟨hB23, hF30, (by omega), (by omega), (by omega), trivial⟩
        · skip
          exact hQ _ _ ⟨hB, hF0, (by omega), (by omega), (by omega), trivial⟩
set_option maxHeartbeats 4000000 in
set_option maxRecDepth 100000 in
theorem sC_stop {M : zM} {a0 : Int} (hB : BN wC M) (v0 : (-2147483648) ≤ a0 ∧ a0 ≤ 2147483647) {Q : Int → zM → Prop} (hQ : ∀ (z : Int) (M1 : zM), BN wC M1 ∧ (∀ j9 : Nat, ¬ (j9 = 78) → M1 j9 = M j9) ∧ ((-2147483648) ≤ z ∧ z ≤ 2147483647) ∧ ((0 ≤ a0 ∧ a0 ≤ 2000 ∧ z = M 78 0 ∧ M1 78 0 = a0) ∨ (¬ (0 ≤ a0 ∧ a0 ≤ 2000) ∧ z = -1 ∧ M1 78 0 = M 78 0)) ∧ True → Q z M1) : wC_stop a0 M Q := by
  unfold wC_stop
  have hF0 : ∀ j9 : Nat, ¬ (j9 = 78) → M j9 = M j9 := fun j9 _ => rfl
  refine sC_within hB (by omega) (by omega) (by omega) (fun z1  h2 => ?_)
  obtain ⟨p3, p4, -⟩ := h2
  refine ⟨fun c5 => ?_, fun c5 => ?_⟩
  · skip
    have q6 : 0 ≤ (M 78 0) ∧ (M 78 0) ≤ 2000 := BN.at hB (rfl : zcd wC 78 = 30) rfl
    intro M7 e8
    have hB9 : BN wC M7 := by rw [e8]; exact BN.up hB (rfl : zcd wC 78 = 30) rfl (by omega) (by omega)
    have hF10 : ∀ j9 : Nat, ¬ (j9 = 78) → M7 j9 = M j9 := fun j9 h9 => by rw [e8]; exact (zup_row _ _ (by omega)).trans (hF0 j9 h9)
    have r11 : M7 78 0 = a0 := by rw [e8]; exact zup_s _ _ _ _
    have s12 : sI (M 78 0) = (M 78 0) := sIo (by omega) (by omega)
    exact hQ _ _ ⟨hB9, hF10, (by omega), (by omega), trivial⟩
  · skip
    exact hQ _ _ ⟨hB, hF0, (by omega), (by omega), trivial⟩
set_option maxHeartbeats 4000000 in
set_option maxRecDepth 100000 in
theorem sC_Echo_loudness {M : zM} {a0 : Int} (hB : BN wC M) (v0 : (-2147483648) ≤ a0 ∧ a0 ≤ 2147483647) {Q : Int → Prop} (hQ : ∀ (z : Int), ((-2147483648) ≤ z ∧ z ≤ 2147483647) ∧ True → Q z) : wC_Echo_loudness a0 M Q := by
  unfold wC_Echo_loudness
  refine pL2_of (fun x1 x2 => (1 ≤ x2 ∧ x2 ≤ 1000000) ∧ True) (fun x1 x2 => (1000000 - x2).toNat) ⟨(by omega), trivial⟩ (fun K x1 x2 h4 k5 => ?_)
  obtain ⟨i3, -⟩ := h4
  have s6 : sI x2 = x2 := sIo (by omega) (by omega)
  refine ⟨fun c7 => ?_, fun c7 => ?_⟩
  · skip
    have s8 := sI_R x1
    exact hQ _ ⟨(by omega), trivial⟩
  · skip
    have q9 := shrI_R a0 x2
    have q10 := andI_br (shrI a0 x2) (c := 1) (by decide) (by decide)
    have o11 : 0 ≤ (sI x2) ∧ (sI x2) < 10 := by omega
    refine ⟨o11, ?_⟩
    have q12 : (-2147483648) ≤ (M 80 (sI x2).toNat) ∧ (M 80 (sI x2).toNat) ≤ 2147483647 := BN.at hB (rfl : zcd wC 80 = 32) rfl
    intro t13 e14
    exact k5 _ _ ⟨(by omega), trivial⟩ (by omega)
set_option maxHeartbeats 4000000 in
set_option maxRecDepth 100000 in
theorem sC_Echo_outAt {M : zM} {a0 : Int} (hB : BN wC M) (v0 : (-2147483648) ≤ a0 ∧ a0 ≤ 2147483647) {Q : Int → Prop} (hQ : ∀ (z : Int), ((-2147483648) ≤ z ∧ z ≤ 2147483647) ∧ True → Q z) : wC_Echo_outAt a0 M Q := by
  unfold wC_Echo_outAt
  have s1 : sI a0 = a0 := sIo (by omega) (by omega)
  refine ⟨fun c2 => ?_, fun c2 => ?_⟩
  · skip
    exact hQ _ ⟨(by omega), trivial⟩
  · skip
    refine ⟨fun c3 => ?_, fun c3 => ?_⟩
    · skip
      exact hQ _ ⟨(by omega), trivial⟩
    · skip
      have o4 : 0 ≤ (sI a0) ∧ (sI a0) < 4001 := by omega
      refine ⟨o4, ?_⟩
      have q5 : (-2147483648) ≤ (M 81 (sI a0).toNat) ∧ (M 81 (sI a0).toNat) ≤ 2147483647 := BN.at hB (rfl : zcd wC 81 = 33) rfl
      have s6 : sI (M 81 (sI a0).toNat) = (M 81 (sI a0).toNat) := sIo (by omega) (by omega)
      exact hQ _ ⟨(by omega), trivial⟩
set_option maxHeartbeats 4000000 in
set_option maxRecDepth 100000 in
theorem sC_Echo_behind {M : zM} {a0 : Int} {a1 : Int} (hB : BN wC M) (v0 : (-2147483648) ≤ a0 ∧ a0 ≤ 2147483647) (v1 : (-2147483648) ≤ a1 ∧ a1 ≤ 2147483647) {Q : Int → Prop} (hQ : ∀ (z : Int), ((-2147483648) ≤ z ∧ z ≤ 2147483647) ∧ True → Q z) : wC_Echo_behind a0 a1 M Q := by
  unfold wC_Echo_behind
  refine sC_Echo_outAt hB (by omega) (fun z1  h2 => ?_)
  obtain ⟨p3, -⟩ := h2
  have s4 := sI_R (z1 * a1)
  have s5 := sI_R ((sI (z1 * a1)).tdiv 100)
  exact hQ _ ⟨(by omega), trivial⟩
set_option maxHeartbeats 4000000 in
set_option maxRecDepth 100000 in
theorem sC_Echo_run {M : zM} {a1 : Int} (hB : BN wC M) (v1 : 0 ≤ a1 ∧ a1 ≤ 4000) {Q : zM → Prop} (hQ : ∀ (M1 : zM), BN wC M1 ∧ (∀ j9 : Nat, ¬ (j9 = 81) → M1 j9 = M j9) ∧ True → Q M1) : wC_Echo_run a1 M Q := by
  unfold wC_Echo_run
  have hF0 : ∀ j9 : Nat, ¬ (j9 = 81) → M j9 = M j9 := fun j9 _ => rfl
  refine wL1_of (fun x1 M2 => BN wC M2 ∧ (∀ j9 : Nat, ¬ (j9 = 81) → M2 j9 = M j9) ∧ (0 ≤ x1 ∧ x1 ≤ 1000000) ∧ True) (fun x1 M2 => (1000000 - x1).toNat) ⟨hB, hF0, (by omega), trivial⟩ (fun K x1 M2 h6 k7 => ?_)
  obtain ⟨hB3, hF4, i5, -⟩ := h6
  have s8 : sI x1 = x1 := sIo (by omega) (by omega)
  have s9 : sI a1 = a1 := sIo (by omega) (by omega)
  refine ⟨fun c10 => ?_, fun c10 => ?_⟩
  · skip
    exact hQ _ ⟨hB3, hF4, trivial⟩
  · skip
    refine ⟨fun c11 => ?_, fun c11 => ?_⟩
    · skip
      exact hQ _ ⟨hB3, hF4, trivial⟩
    · skip
      have q12 : 0 ≤ (M2 78 0) ∧ (M2 78 0) ≤ 2000 := BN.at hB3 (rfl : zcd wC 78 = 30) rfl
      have s13 : sI (M2 78 0) = (M2 78 0) := sIo (by omega) (by omega)
      refine pJ1_dup ?_
      refine ⟨fun c14 => ?_, fun c14 => ?_⟩
      · skip
        have s15 : sI 0 = 0 := sIo (by omega) (by omega)
        have q16 : 0 ≤ (M2 78 3) ∧ (M2 78 3) ≤ 20 := BN.at hB3 (rfl : zcd wC 78 = 30) rfl
        have q17 : (-2147483648) ≤ (M2 78 4) ∧ (M2 78 4) ≤ 2147483647 := BN.at hB3 (rfl : zcd wC 78 = 30) rfl
        refine sC_Echo_behind hB3 (by omega) (by omega) (fun z18  h19 => ?_)
        obtain ⟨p20, -⟩ := h19
        have q21 : 0 ≤ (M2 78 5) ∧ (M2 78 5) ≤ 20 := BN.at hB3 (rfl : zcd wC 78 = 30) rfl
        have q22 : (-2147483648) ≤ (M2 78 6) ∧ (M2 78 6) ≤ 2147483647 := BN.at hB3 (rfl : zcd wC 78 = 30) rfl
        refine sC_Echo_behind hB3 (by omega) (by omega) (fun z23  h24 => ?_)
        obtain ⟨p25, -⟩ := h24
        have s26 := sI_R ((0 + z18) + z23)
        have o27 : 0 ≤ (sI x1) ∧ (sI x1) < 4001 := by omega
        refine ⟨o27, ?_⟩
        intro M28 e29
        have hB30 : BN wC M28 := by rw [e29]; exact BN.up hB3 (rfl : zcd wC 81 = 33) rfl (by omega) (by omega)
        have hF31 : ∀ j9 : Nat, ¬ (j9 = 81) → M28 j9 = M j9 := fun j9 h9 => by rw [e29]; exact (zup_row _ _ (by omega)).trans (hF4 j9 h9)
        exact k7 _ _ ⟨hB30, hF31, (by omega), trivial⟩ (by omega)
      · skip
        refine sC_Studio_heardInAll hB3  (fun z32  h33 => ?_)
        obtain ⟨p34, -⟩ := h33
        refine sC_Echo_loudness hB3 (by omega) (fun z35  h36 => ?_)
        obtain ⟨p37, -⟩ := h36
        have s38 : sI z35 = z35 := sIo (by omega) (by omega)
        have q39 : 0 ≤ (M2 78 3) ∧ (M2 78 3) ≤ 20 := BN.at hB3 (rfl : zcd wC 78 = 30) rfl
        have q40 : (-2147483648) ≤ (M2 78 4) ∧ (M2 78 4) ≤ 2147483647 := BN.at hB3 (rfl : zcd wC 78 = 30) rfl
        refine sC_Echo_behind hB3 (by omega) (by omega) (fun z41  h42 => ?_)
        obtain ⟨p43, -⟩ := h42
        have q44 : 0 ≤ (M2 78 5) ∧ (M2 78 5) ≤ 20 := BN.at hB3 (rfl : zcd wC 78 = 30) rfl
        have q45 : (-2147483648) ≤ (M2 78 6) ∧ (M2 78 6) ≤ 2147483647 := BN.at hB3 (rfl : zcd wC 78 = 30) rfl
        refine sC_Echo_behind hB3 (by omega) (by omega) (fun z46  h47 => ?_)
        obtain ⟨p48, -⟩ := h47
        have s49 := sI_R ((z35 + z41) + z46)
        have o50 : 0 ≤ (sI x1) ∧ (sI x1) < 4001 := by omega
        refine ⟨o50, ?_⟩
        intro M51 e52
        have hB53 : BN wC M51 := by rw [e52]; exact BN.up hB3 (rfl : zcd wC 81 = 33) rfl (by omega) (by omega)
        have hF54 : ∀ j9 : Nat, ¬ (j9 = 81) → M51 j9 = M j9 := fun j9 h9 => by rw [e52]; exact (zup_row _ _ (by omega)).trans (hF4 j9 h9)
        exact k7 _ _ ⟨hB53, hF54, (by omega), trivial⟩ (by omega)
set_option maxHeartbeats 4000000 in
set_option maxRecDepth 100000 in
theorem sC_out {M : zM} {a0 : Int} (hB : BN wC M) (v0 : (-2147483648) ≤ a0 ∧ a0 ≤ 2147483647) {Q : Int → zM → Prop} (hQ : ∀ (z : Int) (M1 : zM), BN wC M1 ∧ (∀ j9 : Nat, ¬ (j9 = 81) → M1 j9 = M j9) ∧ ((-2147483648) ≤ z ∧ z ≤ 2147483647) ∧ True → Q z M1) : wC_out a0 M Q := by
  unfold wC_out
  have hF0 : ∀ j9 : Nat, ¬ (j9 = 81) → M j9 = M j9 := fun j9 _ => rfl
  refine sC_within hB (by omega) (by omega) (by omega) (fun z1  h2 => ?_)
  obtain ⟨p3, p4, -⟩ := h2
  refine ⟨fun c5 => ?_, fun c5 => ?_⟩
  · skip
    refine sC_Echo_run hB (by omega) (fun  M6 h7 => ?_)
    obtain ⟨hB8, f9, -⟩ := h7
    have hF10 : ∀ j9 : Nat, ¬ (j9 = 81) → M6 j9 = M j9 := fun j9 h9 => ((f9 j9 (by omega)).trans (hF0 j9 h9))
    refine sC_Echo_outAt hB8 (by omega) (fun z11  h12 => ?_)
    obtain ⟨p13, -⟩ := h12
    exact hQ _ _ ⟨hB8, hF10, (by omega), trivial⟩
  · skip
    exact hQ _ _ ⟨hB, hF0, (by omega), trivial⟩
set_option maxHeartbeats 4000000 in
set_option maxRecDepth 100000 in
theorem sC_Echo_firstSilence {M : zM}  (hB : BN wC M)  {Q : Int → Prop} (hQ : ∀ (z : Int), ((-2147483648) ≤ z ∧ z ≤ 2147483647) ∧ True → Q z) : wC_Echo_firstSilence  M Q := by
  unfold wC_Echo_firstSilence
  have q1 : 0 ≤ (M 78 0) ∧ (M 78 0) ≤ 2000 := BN.at hB (rfl : zcd wC 78 = 30) rfl
  refine pL2_of (fun x2 x3 => (0 ≤ x3 ∧ x3 ≤ 1000000) ∧ True) (fun x2 x3 => (1000000 - x3).toNat) ⟨(by omega), trivial⟩ (fun K x2 x3 h5 k6 => ?_)
  obtain ⟨i4, -⟩ := h5
  have s7 : sI x3 = x3 := sIo (by omega) (by omega)
  refine ⟨fun c8 => ?_, fun c8 => ?_⟩
  · skip
    exact hQ _ ⟨(by omega), trivial⟩
  · skip
    refine sC_Echo_outAt hB (by omega) (fun z9  h10 => ?_)
    obtain ⟨p11, -⟩ := h10
    refine pJ1_dup ?_
    refine ⟨fun c12 => ?_, fun c12 => ?_⟩
    · skip
      have s13 : sI 0 = 0 := sIo (by omega) (by omega)
      refine ⟨fun c14 => ?_, fun c14 => ?_⟩
      · skip
        exact k6 _ _ ⟨(by omega), trivial⟩ (by omega)
      · skip
        have s15 : sI ((x3 - 20) + 1) = ((x3 - 20) + 1) := sIo (by omega) (by omega)
        exact hQ _ ⟨(by omega), trivial⟩
    · skip
      have s16 := sI_R (x2 + 1)
      refine ⟨fun c17 => ?_, fun c17 => ?_⟩
      · skip
        exact k6 _ _ ⟨(by omega), trivial⟩ (by omega)
      · skip
        have s18 : sI ((x3 - 20) + 1) = ((x3 - 20) + 1) := sIo (by omega) (by omega)
        exact hQ _ ⟨(by omega), trivial⟩
set_option maxHeartbeats 4000000 in
set_option maxRecDepth 100000 in
theorem sC_Echo_alike {M : zM} {a0 : Int} {a1 : Int} (hB : BN wC M) (v0 : 0 ≤ a0 ∧ a0 ≤ 4000) (v1 : 0 ≤ a1 ∧ a1 ≤ 4000) {Q : Int → Prop} (hQ : ∀ (z : Int), (0 ≤ z ∧ z ≤ 1) ∧ True → Q z) : wC_Echo_alike a0 a1 M Q := by
  unfold wC_Echo_alike
  refine pL1_of (fun x1 => (0 ≤ x1 ∧ x1 ≤ 1000000) ∧ True) (fun x1 => (1000000 - x1).toNat) ⟨(by omega), trivial⟩ (fun K x1 h3 k4 => ?_)
  obtain ⟨i2, -⟩ := h3
  have s5 : sI x1 = x1 := sIo (by omega) (by omega)
  refine ⟨fun c6 => ?_, fun c6 => ?_⟩
  · skip
    exact hQ _ ⟨(by omega), trivial⟩
  · skip
    refine sC_Echo_outAt hB (by omega) (fun z7  h8 => ?_)
    obtain ⟨p9, -⟩ := h8
    refine sC_Echo_outAt hB (by omega) (fun z10  h11 => ?_)
    obtain ⟨p12, -⟩ := h11
    refine ⟨fun c13 => ?_, fun c13 => ?_⟩
    · skip
      exact k4 _ ⟨(by omega), trivial⟩ (by omega)
    · skip
      exact hQ _ ⟨(by omega), trivial⟩
set_option maxHeartbeats 4000000 in
set_option maxRecDepth 100000 in
theorem sC_Echo_comesBackIn {M : zM}  (hB : BN wC M)  {Q : Int → Prop} (hQ : ∀ (z : Int), ((-1) ≤ z ∧ z ≤ 4000) ∧ True → Q z) : wC_Echo_comesBackIn  M Q := by
  unfold wC_Echo_comesBackIn
  refine pL1_of (fun x1 => (1 ≤ x1 ∧ x1 ≤ 1000000) ∧ True) (fun x1 => (1000000 - x1).toNat) ⟨(by omega), trivial⟩ (fun K x1 h3 k4 => ?_)
  obtain ⟨i2, -⟩ := h3
  have q5 : 0 ≤ (M 78 0) ∧ (M 78 0) ≤ 2000 := BN.at hB (rfl : zcd wC 78 = 30) rfl
  have s6 : sI (3981 - x1) = (3981 - x1) := sIo (by omega) (by omega)
  have s7 : sI (M 78 0) = (M 78 0) := sIo (by omega) (by omega)
  refine ⟨fun c8 => ?_, fun c8 => ?_⟩
  · skip
    exact hQ _ ⟨(by omega), trivial⟩
  · skip
    refine sC_Echo_alike hB (by omega) (by omega) (fun z9  h10 => ?_)
    obtain ⟨p11, -⟩ := h10
    refine ⟨fun c12 => ?_, fun c12 => ?_⟩
    · skip
      exact k4 _ ⟨(by omega), trivial⟩ (by omega)
    · skip
      have s13 : sI x1 = x1 := sIo (by omega) (by omega)
      exact hQ _ ⟨(by omega), trivial⟩
set_option maxHeartbeats 4000000 in
set_option maxRecDepth 100000 in
theorem sC_Echo_fate {M : zM}  (hB : BN wC M)  {Q : Int → zM → Prop} (hQ : ∀ (z : Int) (M1 : zM), BN wC M1 ∧ (∀ j9 : Nat, ¬ (j9 = 79 ∨ j9 = 81) → M1 j9 = M j9) ∧ ((-2147483648) ≤ z ∧ z ≤ 2147483647) ∧ True → Q z M1) : wC_Echo_fate  M Q := by
  unfold wC_Echo_fate
  have hF0 : ∀ j9 : Nat, ¬ (j9 = 79 ∨ j9 = 81) → M j9 = M j9 := fun j9 _ => rfl
  refine sC_Echo_run hB (by omega) (fun  M1 h2 => ?_)
  obtain ⟨hB3, f4, -⟩ := h2
  have hF5 : ∀ j9 : Nat, ¬ (j9 = 79 ∨ j9 = 81) → M1 j9 = M j9 := fun j9 h9 => ((f4 j9 (by omega)).trans (hF0 j9 h9))
  refine sC_Echo_firstSilence hB3  (fun z6  h7 => ?_)
  obtain ⟨p8, -⟩ := h7
  refine ⟨fun c9 => ?_, fun c9 => ?_⟩
  · skip
    refine sC_Echo_comesBackIn hB3  (fun z10  h11 => ?_)
    obtain ⟨p12, -⟩ := h11
    refine ⟨fun c13 => ?_, fun c13 => ?_⟩
    · skip
      refine pL1_of (fun x14 => ((-1) ≤ x14 ∧ x14 ≤ 1000000) ∧ True) (fun x14 => (x14 + 1).toNat) ⟨(by omega), trivial⟩ (fun K x14 h16 k17 => ?_)
      obtain ⟨i15, -⟩ := h16
      have q18 : 0 ≤ (M1 78 0) ∧ (M1 78 0) ≤ 2000 := BN.at hB3 (rfl : zcd wC 78 = 30) rfl
      have s19 : sI x14 = x14 := sIo (by omega) (by omega)
      have s20 : sI (M1 78 0) = (M1 78 0) := sIo (by omega) (by omega)
      refine pJ0_dup ?_
      refine ⟨fun c21 => ?_, fun c21 => ?_⟩
      · skip
        intro M22 e23
        have hB24 : BN wC M22 := by rw [e23]; exact BN.up hB3 (rfl : zcd wC 79 = 31) rfl (by omega) (by omega)
        have hF25 : ∀ j9 : Nat, ¬ (j9 = 79 ∨ j9 = 81) → M22 j9 = M j9 := fun j9 h9 => by rw [e23]; exact (zup_row _ _ (by omega)).trans (hF5 j9 h9)
        intro M26 e27
        have hB28 : BN wC M26 := by rw [e27]; exact BN.up hB24 (rfl : zcd wC 79 = 31) rfl (by omega) (by omega)
        have hF29 : ∀ j9 : Nat, ¬ (j9 = 79 ∨ j9 = 81) → M26 j9 = M j9 := fun j9 h9 => by rw [e27]; exact (zup_row _ _ (by omega)).trans (hF25 j9 h9)
        exact hQ _ _ ⟨hB28, hF29, (by omega), trivial⟩
      · skip
        refine sC_Echo_outAt hB3 (by omega) (fun z30  h31 => ?_)
        obtain ⟨p32, -⟩ := h31
        refine sC_Echo_outAt hB3 (by omega) (fun z33  h34 => ?_)
        obtain ⟨p35, -⟩ := h34
        refine ⟨fun c36 => ?_, fun c36 => ?_⟩
        · skip
          intro M37 e38
          have hB39 : BN wC M37 := by rw [e38]; exact BN.up hB3 (rfl : zcd wC 79 = 31) rfl (by omega) (by omega)
          have hF40 : ∀ j9 : Nat, ¬ (j9 = 79 ∨ j9 = 81) → M37 j9 = M j9 := fun j9 h9 => by rw [e38]; exact (zup_row _ _ (by omega)).trans (hF5 j9 h9)
          intro M41 e42
          have hB43 : BN wC M41 := by rw [e42]; exact BN.up hB39 (rfl : zcd wC 79 = 31) rfl (by omega) (by omega)
          have hF44 : ∀ j9 : Nat, ¬ (j9 = 79 ∨ j9 = 81) → M41 j9 = M j9 := fun j9 h9 => by rw [e42]; exact (zup_row _ _ (by omega)).trans (hF40 j9 h9)
          exact hQ _ _ ⟨hB43, hF44, (by omega), trivial⟩
        · skip
          exact k17 _ ⟨(by omega), trivial⟩ (by omega)
    · skip
      exact hQ _ _ ⟨hB3, hF5, (by omega), trivial⟩
  · skip
    exact hQ _ _ ⟨hB3, hF5, (by omega), trivial⟩
set_option maxHeartbeats 4000000 in
set_option maxRecDepth 100000 in
theorem sC_dies {M : zM}  (hB : BN wC M)  {Q : Int → zM → Prop} (hQ : ∀ (z : Int) (M1 : zM), BN wC M1 ∧ (∀ j9 : Nat, ¬ (j9 = 79 ∨ j9 = 81 ∨ j9 = 0 ∨ j9 = 133) → M1 j9 = M j9) ∧ ((-2147483648) ≤ z ∧ z ≤ 2147483647) ∧ True → Q z M1) : wC_dies  M Q := by
  unfold wC_dies
  have hF0 : ∀ j9 : Nat, ¬ (j9 = 79 ∨ j9 = 81 ∨ j9 = 0 ∨ j9 = 133) → M j9 = M j9 := fun j9 _ => rfl
  refine sC_Echo_fate hB  (fun z1 M2 h3 => ?_)
  obtain ⟨hB4, f5, p6, -⟩ := h3
  have hF7 : ∀ j9 : Nat, ¬ (j9 = 79 ∨ j9 = 81 ∨ j9 = 0 ∨ j9 = 133) → M2 j9 = M j9 := fun j9 h9 => ((f5 j9 (by omega)).trans (hF0 j9 h9))
  refine ⟨fun c8 => ?_, fun c8 => ?_⟩
  · skip
    exact hQ _ _ ⟨hB4, hF7, (by omega), trivial⟩
  · skip
    refine sC_tell hB4 (by decide) (rfl : zcd wC 79 = 31) (by omega) (by decide) (fun  M9 h10 => ?_)
    obtain ⟨hB11, f12, -⟩ := h10
    have hF13 : ∀ j9 : Nat, ¬ (j9 = 79 ∨ j9 = 81 ∨ j9 = 0 ∨ j9 = 133) → M9 j9 = M j9 := fun j9 h9 => ((f12 j9 (by omega)).trans (hF7 j9 h9))
    exact hQ _ _ ⟨hB11, hF13, (by omega), trivial⟩
set_option maxHeartbeats 4000000 in
set_option maxRecDepth 100000 in
theorem sC_OldTape_add {M : zM} {a0 : Int} (hB : BN wC M) (v0 : (-2147483648) ≤ a0 ∧ a0 ≤ 2147483647) {Q : Int → zM → Prop} (hQ : ∀ (z : Int) (M1 : zM), BN wC M1 ∧ (∀ j9 : Nat, ¬ (82 ≤ j9 ∧ j9 ≤ 85) → M1 j9 = M j9) ∧ ((-2147483648) ≤ z ∧ z ≤ 2147483647) ∧ ((M 82 1 < 60 ∧ z = M 82 1 + 1 ∧ M1 82 1 = M 82 1 + 1) ∨ (M 82 1 = 60 ∧ z = -1 ∧ M1 82 1 = M 82 1)) ∧ True → Q z M1) : wC_OldTape_add a0 M Q := by
  unfold wC_OldTape_add
  have hF0 : ∀ j9 : Nat, ¬ (82 ≤ j9 ∧ j9 ≤ 85) → M j9 = M j9 := fun j9 _ => rfl
  have q1 : 0 ≤ (M 82 1) ∧ (M 82 1) ≤ 60 := BN.at hB (rfl : zcd wC 82 = 34) rfl
  have s2 : sI (M 82 1) = (M 82 1) := sIo (by omega) (by omega)
  refine ⟨fun c3 => ?_, fun c3 => ?_⟩
  · skip
    have o5 : 0 ≤ (sI (M 82 1)) ∧ (sI (M 82 1)) < 60 := by omega
    refine ⟨o5, ?_⟩
    intro M6 e7
    have hB8 : BN wC M6 := by rw [e7]; exact BN.up hB (rfl : zcd wC 83 = 35) rfl (by omega) (by omega)
    have hF9 : ∀ j9 : Nat, ¬ (82 ≤ j9 ∧ j9 ≤ 85) → M6 j9 = M j9 := fun j9 h9 => by rw [e7]; exact (zup_row _ _ (by omega)).trans (hF0 j9 h9)
    have r10 : M6 82 1 = M 82 1 := by rw [e7]; exact zup_n _ _ (by omega)
    have q11 : 0 ≤ (M6 82 1) ∧ (M6 82 1) ≤ 60 := BN.at hB8 (rfl : zcd wC 82 = 34) rfl
    intro M12 e13
    have hB14 : BN wC M12 := by rw [e13]; exact BN.up hB8 (rfl : zcd wC 82 = 34) rfl (by omega) (by omega)
    have hF15 : ∀ j9 : Nat, ¬ (82 ≤ j9 ∧ j9 ≤ 85) → M12 j9 = M j9 := fun j9 h9 => by rw [e13]; exact (zup_row _ _ (by omega)).trans (hF9 j9 h9)
    have r16 : M12 82 1 = ((M6 82 1) + 1) := by rw [e13]; exact zup_s _ _ _ _
    have q17 : 0 ≤ (M12 82 1) ∧ (M12 82 1) ≤ 60 := BN.at hB14 (rfl : zcd wC 82 = 34) rfl
    have s18 : sI (M12 82 1) = (M12 82 1) := sIo (by omega) (by omega)
    exact hQ _ _ ⟨hB14, hF15, (by omega), (by omega), trivial⟩
  · skip
    exact hQ _ _ ⟨hB, hF0, (by omega), (by omega), trivial⟩
set_option maxHeartbeats 4000000 in
set_option maxRecDepth 100000 in
theorem sC_tape {M : zM} {a0 : Int} (hB : BN wC M) (v0 : (-2147483648) ≤ a0 ∧ a0 ≤ 2147483647) {Q : Int → zM → Prop} (hQ : ∀ (z : Int) (M1 : zM), BN wC M1 ∧ (∀ j9 : Nat, ¬ (82 ≤ j9 ∧ j9 ≤ 85) → M1 j9 = M j9) ∧ ((-2147483648) ≤ z ∧ z ≤ 2147483647) ∧ (((a0 = -1 ∨ andI a0 (-1023) = 0) ∧ M 82 1 < 60 ∧ z = M 82 1 + 1 ∧ M1 82 1 = M 82 1 + 1) ∨ (¬ ((a0 = -1 ∨ andI a0 (-1023) = 0) ∧ M 82 1 < 60) ∧ z = -1 ∧ M1 82 1 = M 82 1)) ∧ True → Q z M1) : wC_tape a0 M Q := by
  unfold wC_tape
  have hF0 : ∀ j9 : Nat, ¬ (82 ≤ j9 ∧ j9 ≤ 85) → M j9 = M j9 := fun j9 _ => rfl
  have s1 : sI a0 = a0 := sIo (by omega) (by omega)
  refine ⟨fun c2 => ?_, fun c2 => ?_⟩
  · skip
    refine sC_OldTape_add hB (by omega) (fun z3 M4 h5 => ?_)
    obtain ⟨hB6, f7, p8, p9, -⟩ := h5
    have hF10 : ∀ j9 : Nat, ¬ (82 ≤ j9 ∧ j9 ≤ 85) → M4 j9 = M j9 := fun j9 h9 => ((f7 j9 (by omega)).trans (hF0 j9 h9))
    exact hQ _ _ ⟨hB6, hF10, (by omega), (by omega), trivial⟩
  · skip
    refine sC_isSounds hB (by omega) (fun z11  h12 => ?_)
    obtain ⟨p13, p14, -⟩ := h12
    refine ⟨fun c15 => ?_, fun c15 => ?_⟩
    · skip
      exact hQ _ _ ⟨hB, hF0, (by omega), (by omega), trivial⟩
    · skip
      refine sC_OldTape_add hB (by omega) (fun z16 M17 h18 => ?_)
      obtain ⟨hB19, f20, p21, p22, -⟩ := h18
      have hF23 : ∀ j9 : Nat, ¬ (82 ≤ j9 ∧ j9 ≤ 85) → M17 j9 = M j9 := fun j9 h9 => ((f20 j9 (by omega)).trans (hF0 j9 h9))
      exact hQ _ _ ⟨hB19, hF23, (by omega), (by omega), trivial⟩
set_option maxHeartbeats 4000000 in
set_option maxRecDepth 100000 in
theorem sC_take {M : zM} {a0 : Int} {a1 : Int} (hB : BN wC M) (v0 : (-2147483648) ≤ a0 ∧ a0 ≤ 2147483647) (v1 : (-2147483648) ≤ a1 ∧ a1 ≤ 2147483647) {Q : Int → zM → Prop} (hQ : ∀ (z : Int) (M1 : zM), BN wC M1 ∧ (∀ j9 : Nat, ¬ (82 ≤ j9 ∧ j9 ≤ 85) → M1 j9 = M j9) ∧ (0 ≤ z ∧ z ≤ 1) ∧ ((((0 ≤ a0 ∧ a0 ≤ 100000) ∧ (0 ≤ a1 ∧ a1 ≤ 60)) ∧ z = 1 ∧ M1 82 1 = a1) ∨ (¬ ((0 ≤ a0 ∧ a0 ≤ 100000) ∧ (0 ≤ a1 ∧ a1 ≤ 60)) ∧ z = 0 ∧ M1 82 1 = M 82 1)) ∧ True → Q z M1) : wC_take a0 a1 M Q := by
  unfold wC_take
  have hF0 : ∀ j9 : Nat, ¬ (82 ≤ j9 ∧ j9 ≤ 85) → M j9 = M j9 := fun j9 _ => rfl
  refine sC_within hB (by omega) (by omega) (by omega) (fun z1  h2 => ?_)
  obtain ⟨p3, p4, -⟩ := h2
  refine ⟨fun c5 => ?_, fun c5 => ?_⟩
  · skip
    exact hQ _ _ ⟨hB, hF0, (by omega), (by omega), trivial⟩
  · skip
    refine sC_within hB (by omega) (by omega) (by omega) (fun z6  h7 => ?_)
    obtain ⟨p8, p9, -⟩ := h7
    refine ⟨fun c10 => ?_, fun c10 => ?_⟩
    · skip
      intro M11 e12
      have hB13 : BN wC M11 := by rw [e12]; exact BN.up hB (rfl : zcd wC 82 = 34) rfl (by omega) (by omega)
      have hF14 : ∀ j9 : Nat, ¬ (82 ≤ j9 ∧ j9 ≤ 85) → M11 j9 = M j9 := fun j9 h9 => by rw [e12]; exact (zup_row _ _ (by omega)).trans (hF0 j9 h9)
      have r15 : M11 82 1 = 0 := by rw [e12]; exact zup_s _ _ _ _
      refine wL1_of (fun x16 M17 => BN wC M17 ∧ (∀ j9 : Nat, ¬ (82 ≤ j9 ∧ j9 ≤ 85) → M17 j9 = M j9) ∧ (0 ≤ x16 ∧ x16 ≤ 1000000) ∧ (M17 82 1 = x16) ∧ (x16 ≤ a1) ∧ True) (fun x16 M17 => (1000000 - x16).toNat) ⟨hB13, hF14, (by omega), (by omega), (by omega), trivial⟩ (fun K x16 M17 h23 k24 => ?_)
      obtain ⟨hB18, hF19, i20, i21, i22, -⟩ := h23
      have s25 : sI x16 = x16 := sIo (by omega) (by omega)
      have s26 : sI a1 = a1 := sIo (by omega) (by omega)
      refine ⟨fun c27 => ?_, fun c27 => ?_⟩
      · skip
        exact hQ _ _ ⟨hB18, hF19, (by omega), (by omega), trivial⟩
      · skip
        have s28 := sI_R (a0 + x16)
        refine sC_Studio_heardInAll hB18  (fun z29  h30 => ?_)
        obtain ⟨p31, -⟩ := h30
        refine sC_OldTape_add hB18 (by omega) (fun z32 M33 h34 => ?_)
        obtain ⟨hB35, f36, p37, p38, -⟩ := h34
        have hF39 : ∀ j9 : Nat, ¬ (82 ≤ j9 ∧ j9 ≤ 85) → M33 j9 = M j9 := fun j9 h9 => ((f36 j9 (by omega)).trans (hF19 j9 h9))
        exact k24 _ _ ⟨hB35, hF39, (by omega), (by omega), (by omega), trivial⟩ (by omega)
    · skip
      exact hQ _ _ ⟨hB, hF0, (by omega), (by omega), trivial⟩
set_option maxHeartbeats 4000000 in
set_option maxRecDepth 100000 in
theorem sC_OldTape_makeGap {M : zM} {a0 : Int} (hB : BN wC M) (v0 : (-2147483648) ≤ a0 ∧ a0 ≤ 2147483647) {Q : Int → zM → Prop} (hQ : ∀ (z : Int) (M1 : zM), BN wC M1 ∧ (∀ j9 : Nat, ¬ (82 ≤ j9 ∧ j9 ≤ 85) → M1 j9 = M j9) ∧ (0 ≤ z ∧ z ≤ 1) ∧ ((z = 1 ∧ 0 ≤ a0 ∧ a0 < M 82 1) ∨ (z = 0 ∧ ¬ (0 ≤ a0 ∧ a0 < M 82 1))) ∧ (M1 82 1 = M 82 1) ∧ True → Q z M1) : wC_OldTape_makeGap a0 M Q := by
  unfold wC_OldTape_makeGap
  have hF0 : ∀ j9 : Nat, ¬ (82 ≤ j9 ∧ j9 ≤ 85) → M j9 = M j9 := fun j9 _ => rfl
  have s1 : sI a0 = a0 := sIo (by omega) (by omega)
  refine ⟨fun c2 => ?_, fun c2 => ?_⟩
  · skip
    exact hQ _ _ ⟨hB, hF0, (by omega), (by omega), (by omega), trivial⟩
  · skip
    have q3 : 0 ≤ (M 82 1) ∧ (M 82 1) ≤ 60 := BN.at hB (rfl : zcd wC 82 = 34) rfl
    have s4 : sI (M 82 1) = (M 82 1) := sIo (by omega) (by omega)
    refine ⟨fun c5 => ?_, fun c5 => ?_⟩
    · skip
      have o6 : 0 ≤ (sI a0) ∧ (sI a0) < 60 := by omega
      refine ⟨o6, ?_⟩
      intro M7 e8
      have hB9 : BN wC M7 := by rw [e8]; exact BN.up hB (rfl : zcd wC 83 = 35) rfl (by omega) (by omega)
      have hF10 : ∀ j9 : Nat, ¬ (82 ≤ j9 ∧ j9 ≤ 85) → M7 j9 = M j9 := fun j9 h9 => by rw [e8]; exact (zup_row _ _ (by omega)).trans (hF0 j9 h9)
      have r11 : M7 82 1 = M 82 1 := by rw [e8]; exact zup_n _ _ (by omega)
      exact hQ _ _ ⟨hB9, hF10, (by omega), (by omega), (by omega), trivial⟩
    · skip
      exact hQ _ _ ⟨hB, hF0, (by omega), (by omega), (by omega), trivial⟩
set_option maxHeartbeats 4000000 in
set_option maxRecDepth 100000 in
theorem sC_gap {M : zM} {a0 : Int} (hB : BN wC M) (v0 : (-2147483648) ≤ a0 ∧ a0 ≤ 2147483647) {Q : Int → zM → Prop} (hQ : ∀ (z : Int) (M1 : zM), BN wC M1 ∧ (∀ j9 : Nat, ¬ (82 ≤ j9 ∧ j9 ≤ 85) → M1 j9 = M j9) ∧ (0 ≤ z ∧ z ≤ 1) ∧ ((z = 1 ∧ 0 ≤ a0 ∧ a0 < M 82 1) ∨ (z = 0 ∧ ¬ (0 ≤ a0 ∧ a0 < M 82 1))) ∧ (M1 82 1 = M 82 1) ∧ True → Q z M1) : wC_gap a0 M Q := by
  unfold wC_gap
  have hF0 : ∀ j9 : Nat, ¬ (82 ≤ j9 ∧ j9 ≤ 85) → M j9 = M j9 := fun j9 _ => rfl
  refine sC_OldTape_makeGap hB (by omega) (fun z1 M2 h3 => ?_)
  obtain ⟨hB4, f5, p6, p7, p8, -⟩ := h3
  have hF9 : ∀ j9 : Nat, ¬ (82 ≤ j9 ∧ j9 ≤ 85) → M2 j9 = M j9 := fun j9 h9 => ((f5 j9 (by omega)).trans (hF0 j9 h9))
  exact hQ _ _ ⟨hB4, hF9, (by omega), (by omega), (by omega), trivial⟩
set_option maxHeartbeats 4000000 in
set_option maxRecDepth 100000 in
theorem sC_wipe {M : zM}  (hB : BN wC M)  {Q : Int → zM → Prop} (hQ : ∀ (z : Int) (M1 : zM), BN wC M1 ∧ (∀ j9 : Nat, ¬ (82 ≤ j9 ∧ j9 ≤ 85) → M1 j9 = M j9) ∧ ((-2147483648) ≤ z ∧ z ≤ 2147483647) ∧ (z = M 82 1 ∧ M1 82 1 = 0) ∧ True → Q z M1) : wC_wipe  M Q := by
  unfold wC_wipe
  have hF0 : ∀ j9 : Nat, ¬ (82 ≤ j9 ∧ j9 ≤ 85) → M j9 = M j9 := fun j9 _ => rfl
  have q1 : 0 ≤ (M 82 1) ∧ (M 82 1) ≤ 60 := BN.at hB (rfl : zcd wC 82 = 34) rfl
  intro M2 e3
  have hB4 : BN wC M2 := by rw [e3]; exact BN.up hB (rfl : zcd wC 82 = 34) rfl (by omega) (by omega)
  have hF5 : ∀ j9 : Nat, ¬ (82 ≤ j9 ∧ j9 ≤ 85) → M2 j9 = M j9 := fun j9 h9 => by rw [e3]; exact (zup_row _ _ (by omega)).trans (hF0 j9 h9)
  have r6 : M2 82 1 = 0 := by rw [e3]; exact zup_s _ _ _ _
  have s7 : sI (M 82 1) = (M 82 1) := sIo (by omega) (by omega)
  exact hQ _ _ ⟨hB4, hF5, (by omega), (by omega), trivial⟩
set_option maxHeartbeats 4000000 in
set_option maxRecDepth 100000 in
theorem sC_OldTape_spanFits {M : zM} {a0 : Int} (hB : BN wC M) (v0 : 1 ≤ a0 ∧ a0 ≤ 24) {Q : Int → zM → Prop} (hQ : ∀ (z : Int) (M1 : zM), BN wC M1 ∧ (∀ j9 : Nat, ¬ (82 ≤ j9 ∧ j9 ≤ 85) → M1 j9 = M j9) ∧ (0 ≤ z ∧ z ≤ 1) ∧ (M1 82 1 = M 82 1) ∧ True → Q z M1) : wC_OldTape_spanFits a0 M Q := by
  unfold wC_OldTape_spanFits
  have hF0 : ∀ j9 : Nat, ¬ (82 ≤ j9 ∧ j9 ≤ 85) → M j9 = M j9 := fun j9 _ => rfl
  refine sC_fill hB (by decide) (rfl : zcd wC 84 = 36) (by omega) (fun _ => rfl) (by omega) (by omega) (fun  M1 h2 => ?_)
  obtain ⟨hB3, f4, p5, -⟩ := h2
  have hF6 : ∀ j9 : Nat, ¬ (82 ≤ j9 ∧ j9 ≤ 85) → M1 j9 = M j9 := fun j9 h9 => ((f4 j9 (by omega)).trans (hF0 j9 h9))
  have r7 : M1 82 1 = M 82 1 := congrFun (f4 82 (by omega)) 1
  refine wL1_of (fun x8 M9 => BN wC M9 ∧ (∀ j9 : Nat, ¬ (82 ≤ j9 ∧ j9 ≤ 85) → M9 j9 = M j9) ∧ (0 ≤ x8 ∧ x8 ≤ 1000000) ∧ (M9 82 1 = M 82 1) ∧ True) (fun x8 M9 => (1000000 - x8).toNat) ⟨hB3, hF6, (by omega), (by omega), trivial⟩ (fun K x8 M9 h14 k15 => ?_)
  obtain ⟨hB10, hF11, i12, i13, -⟩ := h14
  have q16 : 0 ≤ (M9 82 1) ∧ (M9 82 1) ≤ 60 := BN.at hB10 (rfl : zcd wC 82 = 34) rfl
  have s17 : sI x8 = x8 := sIo (by omega) (by omega)
  have s18 : sI (M9 82 1) = (M9 82 1) := sIo (by omega) (by omega)
  refine ⟨fun c19 => ?_, fun c19 => ?_⟩
  · skip
    exact hQ _ _ ⟨hB10, hF11, (by omega), (by omega), trivial⟩
  · skip
    refine sC_by hB10 (by omega) (fun z20  h21 => ?_)
    obtain ⟨p22, p23, p24, -⟩ := h21
    have o25 : 0 ≤ z20 ∧ z20 < 24 := by omega
    refine ⟨o25, ?_⟩
    have q26 : (-2147483648) ≤ (M9 84 z20.toNat) ∧ (M9 84 z20.toNat) ≤ 2147483647 := BN.at hB10 (rfl : zcd wC 84 = 36) rfl
    have s27 : sI (M9 84 z20.toNat) = (M9 84 z20.toNat) := sIo (by omega) (by omega)
    refine ⟨fun c28 => ?_, fun c28 => ?_⟩
    · skip
      have o29 : 0 ≤ (sI x8) ∧ (sI x8) < 60 := by omega
      refine ⟨o29, ?_⟩
      have q30 : (-2147483648) ≤ (M9 83 (sI x8).toNat) ∧ (M9 83 (sI x8).toNat) ≤ 2147483647 := BN.at hB10 (rfl : zcd wC 83 = 35) rfl
      have s31 : sI (M9 83 (sI x8).toNat) = (M9 83 (sI x8).toNat) := sIo (by omega) (by omega)
      refine ⟨fun c32 => ?_, fun c32 => ?_⟩
      · skip
        exact k15 _ _ ⟨hB10, hF11, (by omega), (by omega), trivial⟩ (by omega)
      · skip
        have o33 : 0 ≤ (sI x8) ∧ (sI x8) < 60 := by omega
        refine ⟨o33, ?_⟩
        have o35 : 0 ≤ z20 ∧ z20 < 24 := by omega
        refine ⟨o35, ?_⟩
        refine ⟨fun c37 => ?_, fun c37 => ?_⟩
        · skip
          exact k15 _ _ ⟨hB10, hF11, (by omega), (by omega), trivial⟩ (by omega)
        · skip
          exact hQ _ _ ⟨hB10, hF11, (by omega), (by omega), trivial⟩
    · skip
      have o38 : 0 ≤ (sI x8) ∧ (sI x8) < 60 := by omega
      refine ⟨o38, ?_⟩
      have q39 : (-2147483648) ≤ (M9 83 (sI x8).toNat) ∧ (M9 83 (sI x8).toNat) ≤ 2147483647 := BN.at hB10 (rfl : zcd wC 83 = 35) rfl
      have o40 : 0 ≤ z20 ∧ z20 < 24 := by omega
      refine ⟨o40, ?_⟩
      intro M41 e42
      have hB43 : BN wC M41 := by rw [e42]; exact BN.up hB10 (rfl : zcd wC 84 = 36) rfl (by omega) (by omega)
      have hF44 : ∀ j9 : Nat, ¬ (82 ≤ j9 ∧ j9 ≤ 85) → M41 j9 = M j9 := fun j9 h9 => by rw [e42]; exact (zup_row _ _ (by omega)).trans (hF11 j9 h9)
      have r45 : M41 82 1 = M9 82 1 := by rw [e42]; exact zup_n _ _ (by omega)
      exact k15 _ _ ⟨hB43, hF44, (by omega), (by omega), trivial⟩ (by omega)
set_option maxHeartbeats 4000000 in
set_option maxRecDepth 100000 in
theorem sC_OldTape_spanNumber {M : zM} {a0 : Int} (hB : BN wC M) (v0 : (-2147483648) ≤ a0 ∧ a0 ≤ 2147483647) {Q : Int → zM → Prop} (hQ : ∀ (z : Int) (M1 : zM), BN wC M1 ∧ (∀ j9 : Nat, ¬ (82 ≤ j9 ∧ j9 ≤ 85) → M1 j9 = M j9) ∧ ((-2147483648) ≤ z ∧ z ≤ 2147483647) ∧ (M1 82 1 = M 82 1) ∧ True → Q z M1) : wC_OldTape_spanNumber a0 M Q := by
  unfold wC_OldTape_spanNumber
  have hF0 : ∀ j9 : Nat, ¬ (82 ≤ j9 ∧ j9 ≤ 85) → M j9 = M j9 := fun j9 _ => rfl
  refine wL2_of (fun x1 x2 M3 => BN wC M3 ∧ (∀ j9 : Nat, ¬ (82 ≤ j9 ∧ j9 ≤ 85) → M3 j9 = M j9) ∧ (0 ≤ x1 ∧ x1 ≤ 1000000) ∧ (1 ≤ x2 ∧ x2 ≤ 1000000) ∧ (x1 ≤ x2) ∧ (M3 82 1 = M 82 1) ∧ True) (fun x1 x2 M3 => (100 - x2).toNat) ⟨hB, hF0, (by omega), (by omega), (by omega), (by omega), trivial⟩ (fun K x1 x2 M3 h10 k11 => ?_)
  obtain ⟨hB4, hF5, i6, i7, i8, i9, -⟩ := h10
  have s12 : sI x2 = x2 := sIo (by omega) (by omega)
  refine ⟨fun c13 => ?_, fun c13 => ?_⟩
  · skip
    exact hQ _ _ ⟨hB4, hF5, (by omega), (by omega), trivial⟩
  · skip
    refine sC_OldTape_spanFits hB4 (by omega) (fun z14 M15 h16 => ?_)
    obtain ⟨hB17, f18, p19, p20, -⟩ := h16
    have hF21 : ∀ j9 : Nat, ¬ (82 ≤ j9 ∧ j9 ≤ 85) → M15 j9 = M j9 := fun j9 h9 => ((f18 j9 (by omega)).trans (hF5 j9 h9))
    refine ⟨fun c22 => ?_, fun c22 => ?_⟩
    · skip
      exact k11 _ _ _ ⟨hB17, hF21, (by omega), (by omega), (by omega), (by omega), trivial⟩ (by omega)
    · skip
      have s23 : sI x1 = x1 := sIo (by omega) (by omega)
      have s24 : sI a0 = a0 := sIo (by omega) (by omega)
      refine ⟨fun c25 => ?_, fun c25 => ?_⟩
      · skip
        exact k11 _ _ _ ⟨hB17, hF21, (by omega), (by omega), (by omega), (by omega), trivial⟩ (by omega)
      · skip
        exact hQ _ _ ⟨hB17, hF21, (by omega), (by omega), trivial⟩
