/-! the model puts together what the class's machine does: the whole -/
theorem orI_0 {x : Int} (h : -2147483648 ≤ x ∧ x ≤ 2147483647) : orI x 0 = x := by
  have e : iI 0 = (0 : Int32) := by decide
  unfold orI
  rw [e, Int32.or_zero]
  exact iI_t h
theorem PK1_s {T : Nat → Int} {s : Int} {d : Nat} {p q : Int} (h : PK T s 1 d p q) : p < s := by
  obtain ⟨r, x, y⟩ := PK1.mp h
  rcases PK0.mp x with h | h | h
  · exact h.1.1.1
  · exact h.2.1.1.1
  · exact h.2.2.1.1.1
set_option maxHeartbeats 8000000 in
theorem vr_tail {T f : Nat → Int} {s : Int} {d : Nat} {Rm : Int → zM → (Int → zM → Prop) → Prop} {M0 M : zM} {Q : Int → zM → Prop} {q : Int} {R0 T0 : Nat → SV} {D0 : Nat → Nat} (hf : ∀ i : Nat, (i : Int) < s → f i = bU (T i)) (hd : d ≤ 5) (hR : SpV1 f T s d Rm) (hB : BI M) (hF : FF2 d M0 M) (hT : M0 1 = T) (hs : M0 0 1 = s) (hp : 0 ≤ M 0 36 ∧ M 0 36 ≤ 60) (pk : PK T s 5 d (M 0 36) q) (hq : NXr T s d q)
    (hcs : ∃ R Tm : Nat → SV, ∃ D : Nat → Nat, ∃ R3 T3 : Nat → SV, ∃ D3 : Nat → Nat, Rn f (d, 0, R0, T0, D0) (M0 0 36) (M 0 36) (d, 0, R, Tm, D) ∧ 1 ≤ (Tm d).1 ∧ layC (d, 0, R, Tm, D) = some (d, 0, R3, T3, D3) ∧ (∀ i : Nat, i < d → R i = R0 i ∧ D i = D0 i ∧ Tm i = T0 i) ∧ isW M d (R3 d) ∧ 1 ≤ (R3 d).1)
    (hQ : ∀ (z : Int) (M1 : zM), VT2 f s d q M0 R0 T0 D0 z M1 → Q z M1) : wR_mrTail Rm (d : Int) Q M := by
  unfold wR_mrTail
  refine wL0_of (fun N => BI N ∧ FF2 d M0 N ∧ (0 ≤ N 0 36 ∧ N 0 36 ≤ 60) ∧ PK T s 5 d (N 0 36) q ∧ ∃ R Tm : Nat → SV, ∃ D : Nat → Nat, ∃ R3 T3 : Nat → SV, ∃ D3 : Nat → Nat, Rn f (d, 0, R0, T0, D0) (M0 0 36) (N 0 36) (d, 0, R, Tm, D) ∧ 1 ≤ (Tm d).1 ∧ layC (d, 0, R, Tm, D) = some (d, 0, R3, T3, D3) ∧ (∀ i : Nat, i < d → R i = R0 i ∧ D i = D0 i ∧ Tm i = T0 i) ∧ isW N d (R3 d) ∧ 1 ≤ (R3 d).1) (fun N => (100 - N 0 36).toNat) ⟨hB, hF, hp, pk, hcs⟩ (fun K N hI hK => ?_)
  obtain ⟨hBN, FN, pN, pkN, R, Tm, D, R3, T3, D3, rn, h1, hL, ag, hw, hw1⟩ := hI
  obtain ⟨-, -, hT30, hoth, hlay⟩ := lay_some hL
  have ag3 : ∀ i : Nat, i < d → R3 i = R0 i ∧ D3 i = D0 i ∧ T3 i = T0 i := fun i hi => by
    have a := hoth i (by omega)
    have b := ag i hi
    exact ⟨a.1.trans b.1, a.2.2.trans b.2.1, a.2.1.trans b.2.2⟩
  have TN : N 1 = T := (funext fun k => FN 1 k (by omega)).trans hT
  have SN : N 0 1 = s := (FN 0 1 (by omega)).trans hs
  have sd : sI (d : Int) = d := sIo (by omega) (by omega)
  have dd : ((d : Int)).toNat = d := rfl
  rw [sd, dd]
  refine sR_has hBN (by omega) (by omega) (fun z29 c29 => ?_)
  obtain ⟨-, c29, -⟩ := c29
  rw [TN, SN] at c29
  refine pJ0_of (HS T s (N 0 36) 47 47 ∨ AT T s (N 0 36)) (fun hJ => ?_) ⟨fun e29 => Or.inl (hyes c29 (by omega)), fun e29 => ?_⟩
  · refine sR_has hBN (by omega) (by omega) (fun z51 c51 => ?_)
    obtain ⟨-, c51, -⟩ := c51
    rw [TN, SN] at c51
    refine wJ1_of (fun x P => (0 ≤ x ∧ x ≤ 9) ∧ BI P ∧ FF2 d M0 P ∧ (N 0 36 ≤ P 0 36 ∧ P 0 36 ≤ 60) ∧ (∃ r, PK T s 1 d (P 0 36) r ∧ PK T s 5 d r q) ∧ ∃ RA TA : Nat → SV, ∃ DA : Nat → Nat, ∃ RB TB : Nat → SV, ∃ DB : Nat → Nat, layC (d, 0, RA, TA, DA) = some (d, 0, RB, TB, DB) ∧ isW P d (RB d) ∧ ((Rn f (d, 0, R0, T0, D0) (M0 0 36) (P 0 36) (d, 0, RA, TA, DA) ∧ (∀ i : Nat, i < d → RB i = R0 i ∧ DB i = D0 i ∧ TB i = T0 i) ∧ DB d = x.toNat ∧ x.toNat ≤ (RB d).1) ∨ ((RB d).1 < x.toNat ∧ Dd f s (d, 0, R0, T0, D0) (M0 0 36)))) (fun x P hI2 => ?_) ⟨fun e51 => ?_, fun e51 => ?_⟩
    · obtain ⟨ix, hBP, FP, pP, ⟨r, pk1, pk5⟩, RA, TA, DA, RB, TB, DB, hLB, hwP, hcase⟩ := hI2
      have lt := PK_lt pk1
      have ps := PK1_s pk1
      have rs : r ≤ s := by
        obtain ⟨nn, h⟩ := pk1
        exact (PK_hi _ _ _ _ _ h (by omega) (by omega)).1
      have sx : sI x = x := sIo (by omega) (by omega)
      refine hR P _ r RA TA DA RB TB DB hBP ((funext fun k => FP 1 k (by omega)).trans hT) ((FP 0 1 (by omega)).trans hs) (by omega) pk1 hLB (fun z65 M64 h65 => ?_)
      obtain ⟨hB64, F64, p64, zr, h65⟩ := h65
      have G64 : FF2 d M0 M64 := fun j9 k9 h9 => (F64 j9 k9 (by omega)).trans (FP j9 k9 h9)
      have dead : z65 < 0 → Dd f s (d, 0, R0, T0, D0) (M0 0 36) := fun hz => by
        rcases hcase with ⟨ra, -⟩ | ⟨-, hd9⟩
        · exact Dd_r ra (by omega) (h65.resolve_right (fun x => by omega)).2
        · exact hd9
      refine ⟨fun e65 => ?_, fun e65 => hQ _ _ ⟨hB64, G64, p64, zr, Or.inl ⟨e65, dead e65⟩⟩⟩
      obtain ⟨q64, R2, T2, D2, rn2, ag2, agT, hT2, ht⟩ := (h65.resolve_left (fun x => by omega)).2
      have w24 : M64 24 d = ((RB d).1 : Int) := (F64 24 d (by omega)).trans hwP.1
      have w23 : ∀ k : Nat, k < (RB d).1 → M64 23 (24 * d + k) = (RB d).2 k := fun k hk => by
        have b : 0 ≤ P 24 d ∧ P 24 d ≤ 24 := BN.at hBP.1 (rfl : zcd wR 24 = 74) rfl
        have e := hwP.1
        rw [F64 23 (24 * d + k) (by omega)]
        exact hwP.2 k hk
      have b24 : 0 ≤ M64 24 d ∧ M64 24 d ≤ 24 := BN.at hB64.1 (rfl : zcd wR 24 = 74) rfl
      have b26 : 0 ≤ M64 26 d ∧ M64 26 d ≤ 24 := BN.at hB64.1 (rfl : zcd wR 26 = 76) rfl
      have w26 : M64 26 d = ((T2 d).1 : Int) := ht.1
      have s24 : sI (M64 24 d) = M64 24 d := sIo (by omega) (by omega)
      have s26 : sI (M64 26 d) = M64 26 d := sIo (by omega) (by omega)
      have s50 : sI ((M64 24 d - x) + M64 26 d) = (M64 24 d - x) + M64 26 d := sIo (by omega) (by omega)
      rw [sx, s24, s26, s50]
      have eR : R2 d = RB d := (ag2 d (Nat.le_refl _)).1
      have eD : D2 d = DB d := (ag2 d (Nat.le_refl _)).2
      have nx := PK5_nx pk5 hq
      refine ⟨by omega, fun c => hQ _ _ ⟨hB64, G64, p64, by omega, Or.inl ⟨by omega, ?_⟩⟩, fun c => ⟨by omega, fun c2 => ⟨by omega, by omega, fun c3 => ?_, fun c3 => hQ _ _ ⟨hB64, G64, p64, by omega, Or.inl ⟨by omega, ?_⟩⟩⟩, fun c2 => hQ _ _ ⟨hB64, G64, p64, by omega, Or.inl ⟨by omega, ?_⟩⟩⟩⟩
      · rcases hcase with ⟨-, -, -, hx⟩ | ⟨-, hd9⟩
        · omega
        · exact hd9
      · obtain ⟨ra, agB, hDx, hx⟩ := hcase.resolve_right (fun x => by have := x.1; omega)
        have ra2 := Rn_tr ra rn2
        have ly := lay_yes (l := d) (a := 0) (R := R2) (T := T2) (D := D2) (by omega) (by rw [eD]; omega) (by rw [eR, eD]; omega)
        refine wL1_of (fun y P2 => BI P2 ∧ (∀ j9 k9 : Nat, ¬ (j9 = 23 ∧ 24 * d ≤ k9) → P2 j9 k9 = M64 j9 k9) ∧ ∃ i : Nat, y = (i : Int) ∧ i ≤ (T2 d).1 ∧ ∀ k : Nat, P2 23 (24 * d + k) = if (RB d).1 - x.toNat ≤ k ∧ k < (RB d).1 - x.toNat + i then orI ((T2 d).2 (k - ((RB d).1 - x.toNat))) (if k < (RB d).1 then (RB d).2 k else 0) else M64 23 (24 * d + k)) (fun y _ => (1000 - y).toNat) ⟨hB64, fun _ _ _ => rfl, 0, rfl, by omega, fun k => by rw [if_neg (by omega)]⟩ (fun K2 y P2 hI3 hK2 => ?_)
        obtain ⟨hB2, F2, i, rfl, i1, hv⟩ := hI3
        have sy : sI (i : Int) = i := sIo (by omega) (by omega)
        have e26 : P2 26 d = M64 26 d := F2 26 d (by omega)
        rw [sy, e26, s26]
        refine ⟨by omega, fun c4 => ⟨by omega, by omega, ?_⟩, fun c4 => ?_⟩
        · intro M88 e88
          have p88 : M88 0 36 = r := by rw [e88, zup_n _ _ (by omega), F2 0 36 (by omega)]; exact q64
          refine hK _ ⟨by rw [e88]; exact BI.up hB2 (rfl : zcd wR 24 = 74) rfl (by omega) (by omega) (by decide), fun j9 k9 h9 => by rw [e88]; exact (zup_n _ _ (by omega)).trans ((F2 j9 k9 (by omega)).trans (G64 j9 k9 h9)), by omega, by rw [p88]; exact pk5, R2, T2, D2, _, _, _, by rw [p88]; exact ra2, hT2, ly, fun i hi => ?_, ?_, ?_⟩ (by omega)
          · have a := ag2 i (by omega)
            have b := agB i hi
            exact ⟨a.1.trans b.1, a.2.trans b.2.1, (agT i hi).trans b.2.2⟩
          · rw [uS_s]
            refine ⟨?_, fun k hk => ?_⟩
            · show M88 24 d = (((R2 d).1 + (T2 d).1 - D2 d : Nat) : Int)
              rw [e88, zup_s, eR, eD]
              omega
            · have hk : k < (R2 d).1 + (T2 d).1 - D2 d := hk
              show M88 23 (24 * d + k) = if k < (R2 d).1 - D2 d then (R2 d).2 k else orI ((T2 d).2 (k - ((R2 d).1 - D2 d))) (if k < (R2 d).1 then (R2 d).2 k else 0)
              rw [eR, eD] at hk ⊢
              rw [hDx] at hk ⊢
              rw [e88, zup_n _ _ (by omega), hv]
              by_cases c6 : k < (RB d).1 - x.toNat
              · rw [if_neg (by omega), if_pos c6]
                exact w23 k (by omega)
              · rw [if_pos (by omega), if_neg c6]
          · rw [uS_s]
            show 1 ≤ (R2 d).1 + (T2 d).1 - D2 d
            rw [eR, eD]
            omega
        · intro t92 e92
          have s6 : sI (24 * (d : Int) + (i : Int)) = 24 * (d : Int) + (i : Int) := sIo (by omega) (by omega)
          have s7 : sI t92 = t92 := sIo (by omega) (by omega)
          have t6 : (24 * (d : Int) + (i : Int)).toNat = 24 * d + i := by omega
          have t7 : t92.toNat = 24 * d + ((RB d).1 - x.toNat + i) := by omega
          have g25 : P2 25 (24 * d + i) = (T2 d).2 i := by rw [F2 25 _ (by omega)]; exact ht.2 i (by omega)
          rw [s6, s7, t6, t7]
          have o1 := orI_R (P2 25 (24 * d + i)) 0
          have o2 := orI_R (P2 25 (24 * d + i)) (P2 23 (24 * d + ((RB d).1 - x.toNat + i)))
          refine ⟨by omega, fun c5 => ⟨by omega, ?_⟩, fun c5 => ⟨by omega, by omega, ?_⟩⟩
          · intro M97 e97
            refine hK2 _ _ ⟨by rw [e97]; exact BI.up hB2 (rfl : zcd wR 23 = 73) rfl o1.1 o1.2 (by decide), fun j9 k9 h9 => by rw [e97]; exact (zup_n _ _ (by omega)).trans (F2 j9 k9 h9), i + 1, by omega, by omega, fun k => ?_⟩ (by omega)
            rw [e97]
            by_cases c6 : k = (RB d).1 - x.toNat + i
            · rw [c6, zup_s, if_pos (by omega), if_neg (by omega), g25, show (RB d).1 - x.toNat + i - ((RB d).1 - x.toNat) = i by omega]
            · rw [zup_n _ _ (by omega), hv]
              by_cases c7 : (RB d).1 - x.toNat ≤ k ∧ k < (RB d).1 - x.toNat + i
              · rw [if_pos c7, if_pos (show (RB d).1 - x.toNat ≤ k ∧ k < (RB d).1 - x.toNat + (i + 1) by omega)]
              · rw [if_neg c7, if_neg (show ¬ ((RB d).1 - x.toNat ≤ k ∧ k < (RB d).1 - x.toNat + (i + 1)) by omega)]
          · intro M103 e103
            refine hK2 _ _ ⟨by rw [e103]; exact BI.up hB2 (rfl : zcd wR 23 = 73) rfl o2.1 o2.2 (by decide), fun j9 k9 h9 => by rw [e103]; exact (zup_n _ _ (by omega)).trans (F2 j9 k9 h9), i + 1, by omega, by omega, fun k => ?_⟩ (by omega)
            rw [e103]
            by_cases c6 : k = (RB d).1 - x.toNat + i
            · rw [c6, zup_s, if_pos (by omega), if_pos (by omega), g25, hv, if_neg (by omega), w23 _ (by omega), show (RB d).1 - x.toNat + i - ((RB d).1 - x.toNat) = i by omega]
            · rw [zup_n _ _ (by omega), hv]
              by_cases c7 : (RB d).1 - x.toNat ≤ k ∧ k < (RB d).1 - x.toNat + i
              · rw [if_pos c7, if_pos (show (RB d).1 - x.toNat ≤ k ∧ k < (RB d).1 - x.toNat + (i + 1) by omega)]
              · rw [if_neg c7, if_neg (show ¬ ((RB d).1 - x.toNat ≤ k ∧ k < (RB d).1 - x.toNat + (i + 1)) by omega)]
      · obtain ⟨ra, agB, hDx, hx⟩ := hcase.resolve_right (fun x => by have := x.1; omega)
        exact Dd_lay hf (Rn_tr ra rn2) nx (fun a => lay_no (by omega) (Or.inr (by rw [eR, eD]; omega)))
      · obtain ⟨ra, agB, hDx, hx⟩ := hcase.resolve_right (fun x => by have := x.1; omega)
        exact Dd_lay hf (Rn_tr ra rn2) nx (fun a => lay_no (by omega) (Or.inl (by rw [eD]; omega)))
    · have n51 : ¬ HS T s (N 0 36) 47 47 := hno c51 (by omega)
      refine ⟨by omega, hBN, FN, by omega, ?_, R, Tm, D, R3, T3, D3, hL, hw, Or.inl ⟨rn, ag3, ?_, Nat.zero_le _⟩⟩
      · rcases PK5.mp pkN with h | h | h
        · exact absurd h.1 n51
        · exact h.2.2
        · rcases hJ with h2 | h2
          · exact absurd h2 n51
          · exact absurd h2 h.2.1
      · rcases hlay with h | h
        · have := h.1
          omega
        · exact h.2.2.2.2
    · have y51 : HS T s (N 0 36) 47 47 := hyes c51 (by omega)
      have h4 : HS T s (N 0 36 + 1) 49 57 ∧ ∃ r, PK T s 1 d (N 0 36 + 2) r ∧ PK T s 5 d r q := by
        rcases PK5.mp pkN with h | h | h
        · exact h.2
        · exact absurd y51 h.1
        · exact absurd y51 h.1
      have pl : N 0 36 + 1 < 60 := h4.1.1.2
      have ps : N 0 36 + 1 < s := h4.1.1.1
      have hv := h4.1.2
      have e47 : f (N 0 36).toNat = 47 := by have := sgnf hf y51 pN.1 (by omega); have := y51.2; omega
      have f2 : f (N 0 36 + 1).toNat = T (N 0 36 + 1).toNat := sgnf hf h4.1 (by omega) (by omega)
      have es : stepC (d, 0, R, Tm, D) (f (N 0 36).toNat) = some (d, 47, R3, T3, D3) := by
        rw [st_sl e47]
        exact lay_a hL
      have rs := Rn_s rn es
      have sh := st_shr (l := d) (R := R3) (T := T3) (D := D3) (v := f (N 0 36 + 1).toNat) (by omega)
      rw [← TN] at hv
      have s3 : sI (N 0 36 + 1) = N 0 36 + 1 := sIo (by omega) (by omega)
      rw [s3]
      refine ⟨by omega, ?_⟩
      intro t109 e109 M111 e111
      have p111 : M111 0 36 = N 0 36 + 2 := by rw [e111]; exact zup_s _ _ _ _
      have ev : (f (N 0 36 + 1).toNat - 48).toNat = t109.toNat := by rw [f2, e109, TN]
      rw [ev] at sh
      refine ⟨by omega, by rw [e111]; exact BIp hBN (by omega) (by omega), fun j9 k9 h9 => by rw [e111]; exact (zup_n _ _ (by omega)).trans (FN j9 k9 h9), by omega, by rw [p111]; exact h4.2, R3, T3, uN D3 d t109.toNat, R3, T3, uN D3 d t109.toNat, lay_0 hT30, ⟨by rw [e111, zup_n _ _ (by omega)]; exact hw.1, fun k hk => by rw [e111, zup_n _ _ (by omega)]; exact hw.2 k hk⟩, ?_⟩
      by_cases c7 : (R3 d).1 < t109.toNat
      · rw [if_pos c7] at sh
        exact Or.inr ⟨c7, Dd_s rs ps sh⟩
      · rw [if_neg c7] at sh
        have rs2 := Rn_s rs sh
        rw [show N 0 36 + 1 + 1 = N 0 36 + 2 by omega] at rs2
        exact Or.inl ⟨by rw [p111]; exact rs2, fun i hi => ⟨(ag3 i hi).1, (uN_n _ _ (by omega)).trans (ag3 i hi).2.1, (ag3 i hi).2.2⟩, uN_s _ _ _, by omega⟩
  · have n29 : ¬ HS T s (N 0 36) 47 47 := hno c29 (by omega)
    refine sR_has hBN (by omega) (by omega) (fun z115 c115 => ?_)
    obtain ⟨-, c115, -⟩ := c115
    rw [TN, SN] at c115
    refine ⟨fun e => Or.inr (Or.inl (hyes c115 (by omega))), fun e115 => ?_⟩
    have n115 : ¬ HS T s (N 0 36) 48 57 := hno c115 (by omega)
    refine sR_has hBN (by omega) (by omega) (fun z120 c120 => ?_)
    obtain ⟨-, c120, -⟩ := c120
    rw [TN, SN] at c120
    refine ⟨fun e => Or.inr (Or.inr (Or.inl (hyes c120 (by omega)))), fun e120 => ?_⟩
    have n120 : ¬ HS T s (N 0 36) 91 91 := hno c120 (by omega)
    refine sR_has hBN (by omega) (by omega) (fun z125 c125 => ?_)
    obtain ⟨-, c125, -⟩ := c125
    rw [TN, SN] at c125
    refine ⟨fun e125 => ?_, fun e => Or.inr (Or.inr (Or.inr (hyes c125 (by omega))))⟩
    have n125 : ¬ HS T s (N 0 36) 40 40 := hno c125 (by omega)
    have eq : N 0 36 = q := by
      rcases PK5.mp pkN with h | h | h
      · exact absurd h.1 n29
      · rcases h.2.1 with h | h | h
        · exact absurd h n115
        · exact absurd h n120
        · exact absurd h n125
      · exact h.2.2.symm
    rw [eq] at rn
    exact hQ _ _ ⟨hBN, FN, pN, by omega, Or.inr ⟨rfl, eq, R, Tm, D, R3, T3, D3, rn, hL, ag, hw, hw1⟩⟩
set_option maxHeartbeats 4000000 in
theorem vk_row {T f : Nat → Int} {s : Int} {d : Nat} {Rm : Int → zM → (Int → zM → Prop) → Prop} (hf : ∀ i : Nat, (i : Int) < s → f i = bU (T i)) (hd : d ≤ 5) (hR : SpV1 f T s d Rm) : SpV2 f T s d (wR_makeRow_F Rm) := by
  intro M Q q R Tm D hB hT hs hp pk hq hT0 hR0 hD0 hQ
  obtain ⟨r, pk1, pk5⟩ := PK2.mp pk
  unfold wR_makeRow_F
  have sd : sI (d : Int) = d := sIo (by omega) (by omega)
  have dd : ((d : Int)).toNat = d := rfl
  refine hR M _ r R Tm D R Tm D hB hT hs hp pk1 (lay_0 hT0) (fun z2 M1 h2 => ?_)
  obtain ⟨hB1, F1, p1, zr, h2⟩ := h2
  have G1 : FF2 d M M1 := fun j9 k9 h9 => F1 j9 k9 (by omega)
  refine ⟨fun e2 => ?_, fun e2 => hQ _ _ ⟨hB1, G1, p1, zr, Or.inl ⟨e2, (h2.resolve_right (fun x => by omega)).2⟩⟩⟩
  obtain ⟨q1, R2, T2, D2, rn2, ag2, agT, hT2, ht⟩ := (h2.resolve_left (fun x => by omega)).2
  have eR : (R2 d).1 = 0 := by rw [(ag2 d (Nat.le_refl _)).1]; exact hR0
  have eD : D2 d = 0 := by rw [(ag2 d (Nat.le_refl _)).2]; exact hD0
  have b26 : 0 ≤ M1 26 d ∧ M1 26 d ≤ 24 := BN.at hB1.1 (rfl : zcd wR 26 = 76) rfl
  have w26 : M1 26 d = ((T2 d).1 : Int) := ht.1
  have ly := lay_yes (l := d) (a := 0) (R := R2) (T := T2) (D := D2) (by omega) (by omega) (by omega)
  rw [sd, dd]
  refine ⟨by omega, by omega, ?_⟩
  intro M7 e7
  refine wL1_of (fun x P => BI P ∧ FF2 d M P ∧ P 0 36 = r ∧ (∀ k : Nat, P 26 k = M1 26 k) ∧ (∀ k : Nat, P 25 k = M1 25 k) ∧ P 24 d = ((T2 d).1 : Int) ∧ ∃ i : Nat, x = (i : Int) ∧ i ≤ (T2 d).1 ∧ ∀ k : Nat, k < i → P 23 (24 * d + k) = (T2 d).2 k) (fun x _ => (1000 - x).toNat) ⟨by rw [e7]; exact BI.up hB1 (rfl : zcd wR 24 = 74) rfl b26.1 b26.2 (by decide), fun j9 k9 h9 => by rw [e7]; exact (zup_n _ _ (by omega)).trans (G1 j9 k9 h9), by rw [e7, zup_n _ _ (by omega)]; exact q1, fun k => by rw [e7, zup_n _ _ (by omega)], fun k => by rw [e7, zup_n _ _ (by omega)], by rw [e7, zup_s]; exact w26, 0, rfl, by omega, fun k hk => absurd hk (Nat.not_lt_zero k)⟩ (fun K2 x P hI2 hK2 => ?_)
  obtain ⟨hBP, FP, pP, n26, n25, n24, i, rfl, i1, hv⟩ := hI2
  have sx : sI (i : Int) = i := sIo (by omega) (by omega)
  have e26 : P 26 d = ((T2 d).1 : Int) := (n26 d).trans w26
  have sz2 : sI (P 26 d) = P 26 d := sIo (by omega) (by omega)
  have s6 : sI (24 * (d : Int) + (i : Int)) = 24 * (d : Int) + (i : Int) := sIo (by omega) (by omega)
  have t6 : (24 * (d : Int) + (i : Int)).toNat = 24 * d + i := by omega
  rw [sx, sz2]
  refine ⟨by omega, fun c => ?_, fun c => ?_⟩
  · have h := vr_tail (Q := Q) (R0 := R) (T0 := Tm) (D0 := D) hf hd hR hBP FP hT hs (by omega) (by rw [pP]; exact pk5) hq ⟨R2, T2, D2, _, _, _, by rw [pP]; exact rn2, hT2, ly, fun i hi => ⟨(ag2 i (by omega)).1, (ag2 i (by omega)).2, agT i hi⟩, ?_, ?_⟩ hQ
    · unfold wR_mrTail at h
      rw [sd, dd] at h
      exact h
    · rw [uS_s]
      refine ⟨?_, fun k hk => ?_⟩
      · show P 24 d = (((R2 d).1 + (T2 d).1 - D2 d : Nat) : Int)
        rw [n24]
        omega
      · have hk : k < (R2 d).1 + (T2 d).1 - D2 d := hk
        show P 23 (24 * d + k) = if k < (R2 d).1 - D2 d then (R2 d).2 k else orI ((T2 d).2 (k - ((R2 d).1 - D2 d))) (if k < (R2 d).1 then (R2 d).2 k else 0)
        have hr := BN.r32 hBP.1 23 (24 * d + k)
        rw [if_neg (by omega), if_neg (by omega), show k - ((R2 d).1 - D2 d) = k by omega, ← hv k (by omega), orI_0 hr]
    · rw [uS_s]
      show 1 ≤ (R2 d).1 + (T2 d).1 - D2 d
      omega
  · rw [s6, t6]
    refine ⟨by omega, by omega, ?_⟩
    intro M131 e131
    have br := BN.r32 hBP.1 25 (24 * d + i)
    refine hK2 _ _ ⟨by rw [e131]; exact BI.up hBP (rfl : zcd wR 23 = 73) rfl br.1 br.2 (by decide), fun j9 k9 h9 => by rw [e131]; exact (zup_n _ _ (by omega)).trans (FP j9 k9 h9), by rw [e131, zup_n _ _ (by omega)]; exact pP, fun k => by rw [e131, zup_n _ _ (by omega)]; exact n26 k, fun k => by rw [e131, zup_n _ _ (by omega)]; exact n25 k, by rw [e131, zup_n _ _ (by omega)]; exact n24, i + 1, by omega, by omega, fun k hk => ?_⟩ (by omega)
    rw [e131]
    by_cases c5 : k = i
    · rw [c5, zup_s, n25]
      exact ht.2 i (by omega)
    · rw [zup_n _ _ (by omega)]
      exact hv k (by omega)
theorem vp_make {f T : Nat → Int} {s : Int} (hf : ∀ i : Nat, (i : Int) < s → f i = bU (T i)) : ∀ (n d : Nat), d ≤ 5 → 6 ≤ n + d → SpV2 f T s d (wR_makeRow n) := by
  intro n
  induction n with
  | zero => intro d h1 h2; omega
  | succ n ih =>
    intro d h1 h2
    show SpV2 f T s d (wR_makeRow_F (wR_makeTerm_F (wR_makeRow n)))
    exact vk_row hf h1 (vk_term hf h1 (fun h => ih (d + 1) (by omega) (by omega)))
