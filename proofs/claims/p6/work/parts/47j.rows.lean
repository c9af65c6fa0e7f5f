/-! the model puts together what the class's machine does: rows -/
def NXr (T : Nat → Int) (s : Int) (d : Nat) (q : Int) : Prop := (q = s ∧ d = 0) ∨ HS T s q 41 41
def SpV1 (f T : Nat → Int) (s : Int) (d : Nat) (Rm : Int → zM → (Int → zM → Prop) → Prop) : Prop := ∀ (M : zM) (Q : Int → zM → Prop) (q : Int) (R Tm : Nat → SV) (D : Nat → Nat) (R1 T1 : Nat → SV) (D1 : Nat → Nat), BI M → M 1 = T → M 0 1 = s → (0 ≤ M 0 36 ∧ M 0 36 ≤ 60) → PK T s 1 d (M 0 36) q → layC (d, 0, R, Tm, D) = some (d, 0, R1, T1, D1) → (∀ (z : Int) (M1 : zM), VT1 f s d q M (d, 0, R, Tm, D) (M 0 36) R1 T1 D1 z M1 → Q z M1) → Rm (d : Int) M Q
def VT2 (f : Nat → Int) (s : Int) (d : Nat) (q : Int) (M0 : zM) (R T : Nat → SV) (D : Nat → Nat) (z : Int) (M1 : zM) : Prop := BI M1 ∧ FF2 d M0 M1 ∧ (0 ≤ M1 0 36 ∧ M1 0 36 ≤ 60) ∧ (-101 ≤ z ∧ z ≤ 0) ∧ ((z < 0 ∧ Dd f s (d, 0, R, T, D) (M0 0 36)) ∨ (z = 0 ∧ M1 0 36 = q ∧ ∃ R2 T2 : Nat → SV, ∃ D2 : Nat → Nat, ∃ R3 T3 : Nat → SV, ∃ D3 : Nat → Nat, Rn f (d, 0, R, T, D) (M0 0 36) q (d, 0, R2, T2, D2) ∧ layC (d, 0, R2, T2, D2) = some (d, 0, R3, T3, D3) ∧ (∀ i : Nat, i < d → R2 i = R i ∧ D2 i = D i ∧ T2 i = T i) ∧ isW M1 d (R3 d) ∧ 1 ≤ (R3 d).1))
def SpV2 (f T : Nat → Int) (s : Int) (d : Nat) (Rm : Int → zM → (Int → zM → Prop) → Prop) : Prop := ∀ (M : zM) (Q : Int → zM → Prop) (q : Int) (R Tm : Nat → SV) (D : Nat → Nat), BI M → M 1 = T → M 0 1 = s → (0 ≤ M 0 36 ∧ M 0 36 ≤ 60) → PK T s 2 d (M 0 36) q → NXr T s d q → (Tm d).1 = 0 → (R d).1 = 0 → D d = 0 → (∀ (z : Int) (M1 : zM), VT2 f s d q M R Tm D z M1 → Q z M1) → Rm (d : Int) M Q
theorem beg_some {l : Nat} {a b : Int} {R T R1 T1 : Nat → SV} {D D1 : Nat → Nat} (h : layC (l, a, R, T, D) = some (l, a, R1, T1, D1)) : begC (l, a, R, T, D) b = some (l, a, R1, uS T1 l (1, fun _ => b), D1) := by
  unfold begC
  rw [h]
  rfl
set_option maxHeartbeats 4000000 in
theorem vk_term {T f : Nat → Int} {s : Int} {d : Nat} {Rm : Int → zM → (Int → zM → Prop) → Prop} (hf : ∀ i : Nat, (i : Int) < s → f i = bU (T i)) (hd : d ≤ 5) (hR : d < 5 → SpV2 f T s (d + 1) Rm) : SpV1 f T s d (wR_makeTerm_F Rm) := by
  intro M Q q R Tm D R1 T1 D1 hB hT hs hp pk hL hQ
  obtain ⟨r, pk0, pk4⟩ := PK1.mp pk
  obtain ⟨-, -, hT0, hoth, -⟩ := lay_some hL
  unfold wR_makeTerm_F
  have sd : sI (d : Int) = d := sIo (by omega) (by omega)
  have dd : ((d : Int)).toNat = d := rfl
  have s24 : sI (24 * (d : Int)) = 24 * (d : Int) := sIo (by omega) (by omega)
  have t24 : (24 * (d : Int)).toNat = 24 * d := by omega
  have r0 : Rn f (d, 0, R, Tm, D) (M 0 36) (M 0 36) (d, 0, R, Tm, D) := Rn_0 hp.1
  refine sR_has hB (by omega) (by omega) (fun z2 c2 => ?_)
  obtain ⟨-, c2, -⟩ := c2
  rw [hT, hs] at c2
  refine ⟨fun e2 => ?_, fun e2 => ?_⟩
  · have n2 : ¬ HS T s (M 0 36) 48 57 := hno c2 (by omega)
    refine sR_has hB (by omega) (by omega) (fun z7 c7 => ?_)
    obtain ⟨-, c7, -⟩ := c7
    rw [hT, hs] at c7
    refine ⟨fun e7 => ?_, fun e7 => ?_⟩
    · have n7 : ¬ HS T s (M 0 36) 91 91 := hno c7 (by omega)
      have h3 : HS T s (M 0 36) 40 40 ∧ d ≠ 5 ∧ ∃ r2, PK T s 2 (d + 1) (M 0 36 + 1) r2 ∧ HS T s r2 41 41 ∧ r = r2 + 1 := by
        rcases PK0.mp pk0 with h | h | h
        · exact absurd h.1 n2
        · exact absurd h.2.1 n7
        · exact h.2.2
      obtain ⟨y12, hd5, r2, pk2, y41, er⟩ := h3
      have pl : M 0 36 < 60 := y12.1.2
      have ps : M 0 36 < s := y12.1.1
      have pl2 : r2 < 60 := y41.1.2
      have ps2 : r2 < s := y41.1.1
      have hr20 : M 0 36 + 1 ≤ r2 := by
        obtain ⟨nn, h⟩ := pk2
        exact PK_le _ _ _ _ _ h
      have e40 : f (M 0 36).toNat = 40 := by have := sgnf hf y12 hp.1 (by omega); have := y12.2; omega
      have e41 : f r2.toNat = 41 := by have := sgnf hf y41 (by omega) (by omega); have := y41.2; omega
      have eo : stepC (d, 0, R, Tm, D) (f (M 0 36).toNat) = some (d + 1, 0, uS R1 (d + 1) (0, (R1 (d + 1)).2), uS T1 (d + 1) (0, (T1 (d + 1)).2), uN D1 (d + 1) 0) := by
        rw [st_opn e40, hL]
        show some (opnC (d, 0, R1, T1, D1)) = _
        simp only [opnC]
        rw [if_pos (by omega)]
      have ro := Rn_s r0 eo
      intro M11 e11
      have p11 : M11 0 36 = M 0 36 + 1 := by rw [e11]; exact zup_s _ _ _ _
      have hB11 : BI M11 := by rw [e11]; exact BIp hB (by omega) (by omega)
      have F11 : FF2 (d + 1) M M11 := fun j9 k9 h9 => by rw [e11]; exact zup_n _ _ (by omega)
      rw [show ((d : Int) + 1) = ((d + 1 : Nat) : Int) from rfl]
      refine hR (by omega) M11 _ r2 (uS R1 (d + 1) (0, (R1 (d + 1)).2)) (uS T1 (d + 1) (0, (T1 (d + 1)).2)) (uN D1 (d + 1) 0) hB11 ((funext fun k => F11 1 k (by omega)).trans hT) ((F11 0 1 (by omega)).trans hs) (by omega) (by rw [p11]; exact pk2) (Or.inr y41) (by rw [uS_s]) (by rw [uS_s]) (uN_s _ _ _) (fun z14 M13 h14 => ?_)
      obtain ⟨hB13, F13, p13, zr, h14⟩ := h14
      have G13 : FF1 d M M13 := fun j9 k9 h9 => (F13 j9 k9 (by omega)).trans (F11 j9 k9 (by omega))
      refine ⟨fun e14 => ?_, fun e14 => hQ _ _ ⟨hB13, G13, p13, zr, Or.inl ⟨e14, ?_⟩⟩⟩
      · obtain ⟨q13, R2, T2, D2, R3, T3, D3, rn, hl3, hag, hw, hw1⟩ : M13 0 36 = r2 ∧ ∃ R2 T2 : Nat → SV, ∃ D2 : Nat → Nat, ∃ R3 T3 : Nat → SV, ∃ D3 : Nat → Nat, Rn f (d + 1, 0, uS R1 (d + 1) (0, (R1 (d + 1)).2), uS T1 (d + 1) (0, (T1 (d + 1)).2), uN D1 (d + 1) 0) (M11 0 36) r2 (d + 1, 0, R2, T2, D2) ∧ layC (d + 1, 0, R2, T2, D2) = some (d + 1, 0, R3, T3, D3) ∧ (∀ i : Nat, i < d + 1 → R2 i = uS R1 (d + 1) (0, (R1 (d + 1)).2) i ∧ D2 i = uN D1 (d + 1) 0 i ∧ T2 i = uS T1 (d + 1) (0, (T1 (d + 1)).2) i) ∧ isW M13 (d + 1) (R3 (d + 1)) ∧ 1 ≤ (R3 (d + 1)).1 := by
          rcases h14 with h14 | h14
          · omega
          · exact h14.2
        obtain ⟨-, -, -, hoth3, -⟩ := lay_some hl3
        rw [p11] at rn
        have rn2 := Rn_tr ro rn
        have ec : stepC (d + 1, 0, R2, T2, D2) (f r2.toNat) = some (d, 0, R3, uS T3 d (R3 (d + 1)), D3) := by
          rw [st_cls e41, hl3]
          show some (clsC (d + 1, 0, R3, T3, D3)) = _
          simp only [clsC]
          rw [if_pos (by omega), show d + 1 - 1 = d by omega]
        have rn3 := Rn_s rn2 ec
        rw [← er] at rn3
        have ag : ∀ i : Nat, i ≤ d → R3 i = R1 i ∧ D3 i = D1 i := fun i hi => by
          have a := hoth3 i (by omega)
          have b := hag i (by omega)
          exact ⟨a.1.trans (b.1.trans (uS_n _ _ (by omega))), a.2.2.trans (b.2.1.trans (uN_n _ _ (by omega)))⟩
        have ag2 : ∀ i : Nat, i < d → uS T3 d (R3 (d + 1)) i = T1 i := fun i hi => by
          have a := hoth3 i (by omega)
          have b := hag i (by omega)
          rw [uS_n _ _ (by omega)]
          exact a.2.1.trans (b.2.2.trans (uS_n _ _ (by omega)))
        intro M17 e17
        have p17 : M17 0 36 = r := by rw [e17, zup_s]; omega
        have hB17 : BI M17 := by rw [e17]; exact BIp hB13 (by omega) (by omega)
        have F17 : FF1 d M M17 := fun j9 k9 h9 => by rw [e17]; exact (zup_n _ _ (by omega)).trans (G13 j9 k9 h9)
        have s1 : sI ((d + 1 : Nat) : Int) = ((d + 1 : Nat) : Int) := sIo (by omega) (by omega)
        have d1 : (((d + 1 : Nat) : Int)).toNat = d + 1 := rfl
        rw [s1, sd, d1, dd]
        refine ⟨by omega, by omega, ?_⟩
        intro M21 e21
        have bz : 0 ≤ M17 24 (d + 1) ∧ M17 24 (d + 1) ≤ 24 := BN.at hB17.1 (rfl : zcd wR 24 = 74) rfl
        have w17 : M17 24 (d + 1) = ((R3 (d + 1)).1 : Int) := by rw [e17, zup_n _ _ (by omega)]; exact hw.1
        refine wL1_of (fun x P => BI P ∧ FF1 d M P ∧ P 0 36 = r ∧ P 26 d = ((R3 (d + 1)).1 : Int) ∧ (∀ k : Nat, P 23 k = M13 23 k) ∧ ∃ i : Nat, x = (i : Int) ∧ i ≤ (R3 (d + 1)).1 ∧ ∀ k : Nat, k < i → P 25 (24 * d + k) = (R3 (d + 1)).2 k) (fun x _ => (1000 - x).toNat) ⟨by rw [e21]; exact BI.up hB17 (rfl : zcd wR 26 = 76) rfl bz.1 bz.2 (by decide), fun j9 k9 h9 => by rw [e21]; exact (zup_n _ _ (by omega)).trans (F17 j9 k9 h9), by rw [e21, zup_n _ _ (by omega)]; exact p17, by rw [e21, zup_s]; exact w17, fun k => by rw [e21, zup_n _ _ (by omega), e17, zup_n _ _ (by omega)], 0, rfl, by omega, fun k hk => absurd hk (Nat.not_lt_zero k)⟩ (fun K2 x P hI2 hK2 => ?_)
        obtain ⟨hBP, FP, pP, nP, wP, i, rfl, i1, hv⟩ := hI2
        have sx : sI (i : Int) = i := sIo (by omega) (by omega)
        have bz2 : 0 ≤ P 26 d ∧ P 26 d ≤ 24 := BN.at hBP.1 (rfl : zcd wR 26 = 76) rfl
        have sz2 : sI (P 26 d) = P 26 d := sIo (by omega) (by omega)
        rw [sx, sz2]
        refine ⟨by omega, fun c => ?_, fun c => ?_⟩
        · have h := vt_tail hf hd hBP FP hT hs (by omega) (by rw [pP]; exact pk4) (by rw [pP]; exact rn3) (by rw [uS_s]; exact hw1) (by rw [uS_s]; exact ⟨nP, fun k hk => hv k (by omega)⟩) (fun z M1 h => hQ z M1 (VT1_cg h ag ag2))
          unfold wR_mtTail at h
          rw [sd, dd] at h
          exact h
        · have s5 : sI ((24 * (d : Int) + 24) + (i : Int)) = (24 * (d : Int) + 24) + (i : Int) := sIo (by omega) (by omega)
          have s6 : sI (24 * (d : Int) + (i : Int)) = 24 * (d : Int) + (i : Int) := sIo (by omega) (by omega)
          have t5 : ((24 * (d : Int) + 24) + (i : Int)).toNat = 24 * (d + 1) + i := by omega
          have t6 : (24 * (d : Int) + (i : Int)).toNat = 24 * d + i := by omega
          rw [s5, s6, t5, t6]
          refine ⟨by omega, by omega, ?_⟩
          intro M119 e119
          have br := BN.r32 hBP.1 23 (24 * (d + 1) + i)
          refine hK2 _ _ ⟨by rw [e119]; exact BI.up hBP (rfl : zcd wR 25 = 75) rfl br.1 br.2 (by decide), fun j9 k9 h9 => by rw [e119]; exact (zup_n _ _ (by omega)).trans (FP j9 k9 h9), by rw [e119, zup_n _ _ (by omega)]; exact pP, by rw [e119, zup_n _ _ (by omega)]; exact nP, fun k => by rw [e119, zup_n _ _ (by omega)]; exact wP k, i + 1, by omega, by omega, fun k hk => ?_⟩ (by omega)
          rw [e119]
          by_cases c5 : k = i
          · rw [c5, zup_s, wP]
            exact hw.2 i (by omega)
          · rw [zup_n _ _ (by omega)]
            exact hv k (by omega)
      · have h := h14.resolve_right (fun x => by omega)
        have h2 := h.2
        rw [p11] at h2
        exact Dd_r ro (by omega) h2
    · have y7 : HS T s (M 0 36) 91 91 := hyes c7 (by omega)
      have pl : M 0 36 < 60 := y7.1.2
      have e91 : f (M 0 36).toNat = 91 := by have := sgnf hf y7 hp.1 (by omega); have := y7.2; omega
      have pk3 : PK T s 3 d (M 0 36 + 1) r := by
        rcases PK0.mp pk0 with h | h | h
        · exact absurd h.1 n2
        · exact h.2.2.2
        · exact absurd y7 h.2.1
      have eb : stepC (d, 0, R, Tm, D) (f (M 0 36).toNat) = some (d, 91, R1, uS T1 d (1, fun _ => 0), D1) := by
        rw [st_brk e91]
        exact beg_some (lay_a hL)
      have rb := Rn_s r0 eb
      intro M123 e123
      have p123 : M123 0 36 = M 0 36 + 1 := by rw [e123]; exact zup_s _ _ _ _
      refine wL1_of (fun x P => BI P ∧ FF1 d M P ∧ (0 ≤ P 0 36 ∧ P 0 36 ≤ 60) ∧ R32 x ∧ PK T s 3 d (P 0 36) r ∧ ∃ Tn : Nat → SV, Rn f (d, 0, R, Tm, D) (M 0 36) (P 0 36) (d, 91, R1, Tn, D1) ∧ (∀ i : Nat, i ≠ d → Tn i = T1 i) ∧ (Tn d).1 = 1 ∧ (Tn d).2 0 = x) (fun _ P => (100 - P 0 36).toNat) ⟨by rw [e123]; exact BIp hB (by omega) (by omega), fun j9 k9 h9 => by rw [e123]; exact zup_n _ _ (by omega), by omega, ⟨by omega, by omega⟩, by rw [p123]; exact pk3, _, by rw [p123]; exact rb, fun i hi => uS_n _ _ hi, by rw [uS_s], by rw [uS_s]⟩ (fun K2 x P hI2 hK2 => ?_)
      obtain ⟨hBP, FP, pP, rx, pkP, Tn, rn, hTn, hT1, hTx⟩ := hI2
      have TP : P 1 = T := (funext fun k => FP 1 k (by omega)).trans hT
      have SP : P 0 1 = s := (FP 0 1 (by omega)).trans hs
      have sp36 : sI (P 0 36) = P 0 36 := sIo (by omega) (by omega)
      refine sR_has hBP (by omega) (by omega) (fun z135 c135 => ?_)
      obtain ⟨-, c135, -⟩ := c135
      rw [TP, SP] at c135
      rw [sd, dd, sp36, s24, t24]
      refine ⟨fun e135 => ?_, fun e135 => ?_⟩
      · have n135 : ¬ HS T s (P 0 36) 49 57 := hno c135 (by omega)
        have h5 : HS T s (P 0 36) 93 93 ∧ r = P 0 36 + 1 := by
          rcases PK3.mp pkP with h | h
          · exact absurd h.1 n135
          · exact h.2
        have pl3 : P 0 36 < 60 := h5.1.1.2
        have e93 : f (P 0 36).toNat = 93 := by have := sgnf hf h5.1 pP.1 (by omega); have := h5.1.2; omega
        have rn2 := Rn_s rn (sn_end e93)
        rw [← h5.2] at rn2
        intro M139 e139
        have hB139 : BI M139 := by rw [e139]; exact BIp hBP (by omega) (by omega)
        refine ⟨by omega, ?_⟩
        intro M142 e142
        have hB142 : BI M142 := by rw [e142]; exact BI.up hB139 (rfl : zcd wR 25 = 75) rfl rx.1 rx.2 (by decide)
        refine ⟨by omega, ?_⟩
        intro M145 e145
        have p145 : M145 0 36 = r := by rw [e145, zup_n _ _ (by omega), e142, zup_n _ _ (by omega), e139, zup_s]; omega
        have h := vt_tail (M := M145) hf hd (by rw [e145]; exact BI.up hB142 (rfl : zcd wR 26 = 76) rfl (by omega) (by omega) (by decide)) (fun j9 k9 h9 => by rw [e145, e142, e139]; exact (zup_n _ _ (by omega)).trans ((zup_n _ _ (by omega)).trans ((zup_n _ _ (by omega)).trans (FP j9 k9 h9)))) hT hs (by omega) (by rw [p145]; exact pk4) (by rw [p145]; exact rn2) (by omega) ⟨by rw [e145, zup_s, hT1]; rfl, fun k hk => by rw [show k = 0 by omega, hTx, e145, zup_n _ _ (by omega), e142, Nat.add_zero, zup_s]⟩ (fun z M1 h => hQ z M1 (VT1_cg h (fun _ _ => ⟨rfl, rfl⟩) (fun i hi => hTn i (by omega))))
        unfold wR_mtTail at h
        rw [sd, dd] at h
        exact h
      · have y135 : HS T s (P 0 36) 49 57 := hyes c135 (by omega)
        have pl3 : P 0 36 < 60 := y135.1.2
        have fv : f (P 0 36).toNat = T (P 0 36).toNat := sgnf hf y135 pP.1 (by omega)
        have hv := y135.2
        have si := st_in (l := d) (R := R1) (T := Tn) (D := D1) (v := f (P 0 36).toNat) (by omega)
        have rn2 := Rn_s rn si
        refine ⟨by omega, ?_⟩
        intro t231 e231 M233 e233
        have p233 : M233 0 36 = P 0 36 + 1 := by rw [e233]; exact zup_s _ _ _ _
        refine hK2 _ _ ⟨by rw [e233]; exact BIp hBP (by omega) (by omega), fun j9 k9 h9 => by rw [e233]; exact (zup_n _ _ (by omega)).trans (FP j9 k9 h9), by omega, by rw [e231]; exact orI_R _ _, ?_, _, by rw [p233]; exact rn2, fun i hi => (uS_n _ _ hi).trans (hTn i hi), by rw [uS_s]; exact hT1, ?_⟩ (by omega)
        · rw [p233]
          rcases PK3.mp pkP with h | h
          · exact h.2
          · exact absurd y135 h.1
        · rw [uS_s]
          show (if (0 : Nat) = 0 then orI ((Tn d).2 0) (shlI 1 ((f (P 0 36).toNat - 48).toNat : Int)) else (Tn d).2 0) = t231
          rw [if_pos rfl, hTx, e231, fv, TP, show (((T (P 0 36).toNat - 48).toNat : Nat) : Int) = T (P 0 36).toNat - 48 by omega]
  · have y2 : HS T s (M 0 36) 48 57 := hyes c2 (by omega)
    have pl : M 0 36 < 60 := y2.1.2
    have er : r = M 0 36 + 1 := by
      rcases PK0.mp pk0 with h | h | h
      · exact h.2
      · exact absurd y2 h.1
      · exact absurd y2 h.1
    have fv : f (M 0 36).toNat = T (M 0 36).toNat := sgnf hf y2 hp.1 (by omega)
    have hv := y2.2
    have ed := st_dig (l := d) (R := R) (T := Tm) (D := D) (v := f (M 0 36).toNat) (by omega)
    rw [beg_some hL] at ed
    have rn2 := Rn_s r0 ed
    rw [← er] at rn2
    have s36 : sI (M 0 36) = M 0 36 := sIo (by omega) (by omega)
    have bt : -128 ≤ M 1 (M 0 36).toNat ∧ M 1 (M 0 36).toNat ≤ 127 := BN.at hB.1 (rfl : zcd wR 1 = 51) rfl
    have st : sI (M 1 (M 0 36).toNat) = M 1 (M 0 36).toNat := sIo (by omega) (by omega)
    rw [sd, dd, s36, s24, t24, st, hT]
    refine ⟨by omega, ?_⟩
    refine pJ1_of (fun x => R32 x ∧ x = (if (f (M 0 36).toNat - 48).toNat = 0 then 0 else shlI 1 ((f (M 0 36).toNat - 48).toNat : Int))) (fun x rx => ?_) ⟨fun c => ⟨by omega, shlI_R _ _, ?_⟩, fun c => ⟨⟨by omega, by omega⟩, ?_⟩⟩
    · refine ⟨by omega, ?_⟩
      intro M244 e244
      have hB244 : BI M244 := by rw [e244]; exact BI.up hB (rfl : zcd wR 25 = 75) rfl rx.1.1 rx.1.2 (by decide)
      refine ⟨by omega, ?_⟩
      intro M247 e247
      have hB247 : BI M247 := by rw [e247]; exact BI.up hB244 (rfl : zcd wR 26 = 76) rfl (by omega) (by omega) (by decide)
      have p247 : M247 0 36 = M 0 36 := by rw [e247, zup_n _ _ (by omega), e244, zup_n _ _ (by omega)]
      intro M249 e249
      have p249 : M249 0 36 = r := by rw [e249, zup_s]; omega
      have h := vt_tail (M := M249) hf hd (by rw [e249]; exact BIp hB247 (by omega) (by omega)) (fun j9 k9 h9 => by rw [e249, e247, e244]; exact (zup_n _ _ (by omega)).trans ((zup_n _ _ (by omega)).trans (zup_n _ _ (by omega)))) hT hs (by omega) (by rw [p249]; exact pk4) (by rw [p249]; exact rn2) (by rw [uS_s]; exact Nat.le_refl 1) (by rw [uS_s]; exact ⟨by rw [e249, zup_n _ _ (by omega), e247, zup_s]; rfl, fun k hk => by have hk : k < 1 := hk; rw [show k = 0 by omega, e249, zup_n _ _ (by omega), e247, zup_n _ _ (by omega), e244, Nat.add_zero, zup_s]; exact rx.2⟩) (fun z M1 h => hQ z M1 (VT1_cg h (fun _ _ => ⟨rfl, rfl⟩) (fun i hi => uS_n _ _ (by omega))))
      unfold wR_mtTail at h
      rw [sd, dd] at h
      exact h
    · rw [if_neg (by omega), fv, show (((T (M 0 36).toNat - 48).toNat : Nat) : Int) = T (M 0 36).toNat - 48 by omega]
    · rw [if_pos (by omega)]
/-- what follows a term lays it down -/
theorem Dd_lay {f T : Nat → Int} {s p : Int} {d : Nat} {cs : CSt} {p0 : Int} {R Tm : Nat → SV} {D : Nat → Nat} (hf : ∀ i : Nat, (i : Int) < s → f i = bU (T i)) (hr : Rn f cs p0 p (d, 0, R, Tm, D)) (hn : p = s ∨ HS T s p 47 47 ∨ AT T s p ∨ HS T s p 41 41) (hl : ∀ a : Int, layC (d, a, R, Tm, D) = none) : Dd f s cs p0 := by
  have h0 : 0 ≤ p := by have := hr.1; have := hr.2.1; omega
  rcases hn with h | h | h | h
  · subst h
    refine Dd_r hr (Int.le_refl _) ?_
    unfold Dd
    rw [show (p - p).toNat = 0 by omega]
    exact hl 0
  · refine Dd_s hr h.1.1 ?_
    rw [st_sl (by have := sgnf hf h h0 (by omega); have := h.2; omega)]
    exact hl 47
  · unfold AT at h
    rcases h with h | h | h
    · refine Dd_s hr h.1.1 ?_
      rw [st_dig (by have := sgnf hf h h0 (by omega); have := h.2; omega)]
      unfold begC
      rw [hl 0]
      rfl
    · refine Dd_s hr h.1.1 ?_
      rw [st_brk (by have := sgnf hf h h0 (by omega); have := h.2; omega)]
      unfold begC
      rw [hl 91]
      rfl
    · refine Dd_s hr h.1.1 ?_
      rw [st_opn (by have := sgnf hf h h0 (by omega); have := h.2; omega), hl 0]
      rfl
  · refine Dd_s hr h.1.1 ?_
    rw [st_cls (by have := sgnf hf h h0 (by omega); have := h.2; omega), hl 0]
    rfl
theorem PK5_nx {T : Nat → Int} {s : Int} {d : Nat} {r q : Int} (h : PK T s 5 d r q) (hq : NXr T s d q) : r = s ∨ HS T s r 47 47 ∨ AT T s r ∨ HS T s r 41 41 := by
  rcases PK5.mp h with h | h | h
  · exact Or.inr (Or.inl h.1)
  · exact Or.inr (Or.inr (Or.inl h.2.1))
  · rw [← h.2.2]
    rcases hq with ⟨h, -⟩ | h
    · exact Or.inl h
    · exact Or.inr (Or.inr (Or.inr h))
