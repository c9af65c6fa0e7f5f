section zz47b_motor
theorem fR_clear {M : zM}  (hB : BI M)  {Q : Int → zM → Prop} (hQ : ∀ (z : Int) (M1 : zM), BI M1 ∧ (∀ j9 k9 : Nat, ¬ (j9 = 0 ∧ k9 = 35 ∨ j9 = 0 ∧ k9 = 10 ∨ j9 = 0 ∧ k9 = 16 ∨ j9 = 11) → M1 j9 k9 = M j9 k9) ∧ ((-2147483648) ≤ z ∧ z ≤ 2147483647) ∧ M1 0 16 = 0 ∧ M1 0 10 = 0 ∧ M1 11 0 = 0 ∧ M1 11 1 = 0 ∧ z = M 0 10 → Q z M1) : wR_clear  M Q := by
  unfold wR_clear
  intro M1 e1 M3 e3 M5 e5
  have b1 : BI M1 := by rw [e1]; exact BI.up0 hB rfl (by omega) (by omega) (by decide)
  have b3 : BI M3 := by rw [e3]; exact BI.up10 b1 (by omega) (by omega)
  have b5 : BI M5 := by rw [e5]; exact BI.up0 b3 rfl (by omega) (by omega) (by decide)
  have r10 : M1 0 10 = M 0 10 := by rw [e1]; exact zup_n _ _ (by omega)
  have bn : 0 ≤ M1 0 10 ∧ M1 0 10 ≤ 4 := BN.at b1.1 (rfl : zcd wR 0 = 50) rfl
  have sn : sI (M1 0 10) = M 0 10 := by rw [← r10]; exact sIo (by omega) (by omega)
  refine wL1_of (fun x M2 => BI M2 ∧ (∀ j9 k9 : Nat, ¬ (j9 = 0 ∧ k9 = 35 ∨ j9 = 0 ∧ k9 = 10 ∨ j9 = 0 ∧ k9 = 16 ∨ j9 = 11) → M2 j9 k9 = M j9 k9) ∧ M2 0 16 = 0 ∧ M2 0 10 = 0 ∧ (0 ≤ x ∧ x ≤ 2) ∧ ∀ i : Nat, (i : Int) < x → M2 11 i = 0) (fun x _ => (100 - x).toNat) ⟨b5, fun j9 k9 h9 => by rw [e5, zup_n _ _ (by omega), e3, zup_n _ _ (by omega), e1, zup_n _ _ (by omega)], by rw [e5, zup_s], by rw [e5, zup_n _ _ (by omega), e3, zup_s], ⟨by omega, by omega⟩, fun i hi => absurd hi (by omega)⟩ (fun K x M2 h k => ?_)
  obtain ⟨b2, f2, n2, m2, hx, hd⟩ := h
  have sx : sI x = x := sIo (by omega) (by omega)
  simp only [sx, sn]
  refine ⟨fun c => hQ _ _ ⟨b2, f2, ⟨by omega, by omega⟩, n2, m2, hd 0 (by omega), hd 1 (by omega), rfl⟩, fun c => ⟨⟨by omega, by omega⟩, fun M4 e4 => k _ _ ⟨by rw [e4]; exact BI.up b2 (rfl : zcd wR 11 = 61) rfl (by omega) (by omega) (by decide), fun j9 k9 h9 => by rw [e4, zup_n _ _ (by omega)]; exact f2 j9 k9 h9, by rw [e4, zup_n _ _ (by omega)]; exact n2, by rw [e4, zup_n _ _ (by omega)]; exact m2, ⟨by omega, by omega⟩, fun i hi => ?_⟩ (by omega)⟩⟩
  rw [e4]
  by_cases c5 : i = x.toNat
  · rw [c5, zup_s]
  · rw [zup_n _ _ (by omega)]
    exact hd i (by omega)
end zz47b_motor
section zz47c_way

end zz47c_way
section zz47d_piece
/-! what the two worlds do alike: torn pieces -/
def dg (v : Int) (i : Nat) : Int := andI (ushrI v (28 - 4 * (i : Int))) 15
theorem dg_b (v : Int) (i : Nat) : 0 ≤ dg v i ∧ dg v i ≤ 15 := andI_br (ushrI v (28 - 4 * (i : Int))) (c := 15) (by decide) (by decide)
theorem dg_e (v x : Int) (h : 0 ≤ x) : andI (ushrI v (28 - 4 * x)) 15 = dg v x.toNat := by
  unfold dg
  rw [show ((x.toNat : Nat) : Int) = x by omega]
def cPc (v n c : Int) : Prop := 1 ≤ n ∧ n ≤ 8 ∧ c < 5 ∧ ∀ i : Nat, (i : Int) < n → dg v i ≤ 9
def pcS (v n c z c1 : Int) (SZ SZ1 : Nat → Int) (S S1 : Nat → Nat → Int) : Prop := (cPc v n c ∧ z = c ∧ c1 = c + 1 ∧ (∀ k : Nat, (k : Int) < c → SZ1 k = SZ k ∧ ∀ i : Nat, i < 8 → S1 k i = S k i) ∧ SZ1 c.toNat = n ∧ ∀ i : Nat, (i : Int) < n → S1 c.toNat i = dg v i) ∨ (¬ cPc v n c ∧ z = -1 ∧ c1 = c ∧ ∀ k : Nat, (k : Int) < c → SZ1 k = SZ k ∧ ∀ i : Nat, i < 8 → S1 k i = S k i)
set_option maxHeartbeats 4000000 in
theorem fC_piece {M : zM} {a0 a1 : Int} (hB : BN wC M) (v0 : -2147483648 ≤ a0 ∧ a0 ≤ 2147483647) (v1 : -2147483648 ≤ a1 ∧ a1 ≤ 2147483647) {Q : Int → zM → Prop} (hQ : ∀ (z : Int) (M1 : zM), BN wC M1 ∧ (∀ j9 : Nat, ¬ (86 ≤ j9 ∧ j9 ≤ 95) → M1 j9 = M j9) ∧ pcS a0 a1 (M 86 0) z (M1 86 0) (M 94) (M1 94) (fun k => M (89 + k)) (fun k => M1 (89 + k)) → Q z M1) : wC_piece a0 a1 M Q := by
  unfold wC_piece
  have s1 : sI a1 = a1 := sIo v1.1 v1.2
  have no : ¬ cPc a0 a1 (M 86 0) → Q (-1) M := fun h => hQ _ _ ⟨hB, fun _ _ => rfl, Or.inr ⟨h, rfl, rfl, fun _ _ => ⟨rfl, fun _ _ => rfl⟩⟩⟩
  refine sC_within hB v1 (by omega) (by omega) (fun z p => ?_)
  obtain ⟨-, p1, -⟩ := p
  refine ⟨fun c => no (fun h => by unfold cPc at h; omega), fun c => ?_⟩
  unfold wC_Pieces_add
  have bc : 0 ≤ M 86 0 ∧ M 86 0 ≤ 5 := BN.at hB (rfl : zcd wC 86 = 38) rfl
  have sc : sI (M 86 0) = M 86 0 := sIo (by omega) (by omega)
  simp only [sc, s1]
  refine ⟨fun c2 => ?_, fun c2 => no (fun h => by unfold cPc at h; omega)⟩
  obtain ⟨c, hc⟩ : ∃ c : Nat, M 86 0 = c := ⟨(M 86 0).toNat, by omega⟩
  have tc : ((c : Int)).toNat = c := by omega
  have cdk : zcd wC (89 + c) = 41 := (by decide : ∀ k : Nat, k < 5 → zcd wC (89 + k) = 41) c (by omega)
  refine wL1_of (fun x M2 => BN wC M2 ∧ (∀ j9 : Nat, ¬ (86 ≤ j9 ∧ j9 ≤ 95) → M2 j9 = M j9) ∧ M2 86 0 = M 86 0 ∧ M2 94 = M 94 ∧ (0 ≤ x ∧ x ≤ a1) ∧ (∀ i : Nat, (i : Int) < x → dg a0 i ≤ 9 ∧ M2 (89 + c) i = dg a0 i) ∧ (∀ k : Nat, k < c → M2 (89 + k) = M (89 + k))) (fun x _ => (100 - x).toNat) ⟨hB, fun _ _ => rfl, rfl, rfl, ⟨by omega, by omega⟩, fun i hi => absurd hi (by omega), fun _ _ => rfl⟩ (fun K x M2 h k => ?_)
  obtain ⟨b2, f2, n2, m2, hx, hd, hk⟩ := h
  have sx : sI x = x := sIo (by omega) (by omega)
  have s2 : sI (M2 86 0) = (c : Int) := by rw [n2, hc]; exact sIo (by omega) (by omega)
  simp only [sx, s2, tc, Nat.one_mul]
  refine ⟨fun c3 => ?_, fun c3 => ?_⟩
  · refine ⟨⟨by omega, by omega⟩, ?_⟩
    intro M3 e3 M4 e4
    have b3 : BN wC M3 := by rw [e3]; exact BN.up b2 (rfl : zcd wC 94 = 42) rfl (by omega) (by omega)
    have n3 : M3 86 0 = c := by rw [e3, zup_n _ _ (by omega), n2, hc]
    have b4 : BN wC M4 := by rw [e4]; exact BN.up b3 (rfl : zcd wC 86 = 38) rfl (by omega) (by omega)
    have n4 : M4 86 0 = c + 1 := by rw [e4, zup_s, n3]
    have sz : sI (M4 86 0 - 1) = (c : Int) := by rw [n4, sIo (by omega) (by omega)]; omega
    rw [sz]
    refine hQ _ _ ⟨b4, fun j9 h9 => by rw [e4, zup_row _ _ (by omega), e3, zup_row _ _ (by omega)]; exact f2 j9 h9, Or.inl ⟨⟨by omega, by omega, by omega, fun i hi => (hd i (by omega)).1⟩, hc.symm, by rw [n4, hc], fun q hq => ⟨?_, fun i _ => ?_⟩, ?_, fun i hi => ?_⟩⟩
    · rw [e4, zup_n _ _ (by omega), e3, zup_n _ _ (by omega), m2]
    · show M4 (89 + q) i = M (89 + q) i
      rw [e4, zup_n _ _ (by omega), e3, zup_n _ _ (by omega), hk q (by omega)]
    · rw [hc, tc, e4, zup_n _ _ (by omega), e3, zup_s]
    · show M4 (89 + (M 86 0).toNat) i = dg a0 i
      rw [hc, tc, e4, zup_n _ _ (by omega), e3, zup_n _ _ (by omega)]
      exact (hd i (by omega)).2
  · unfold wC_Pieces_digit
    have hb := dg_b a0 x.toNat
    rw [dg_e a0 x hx.1]
    refine ⟨fun c4 => ⟨⟨by omega, by omega⟩, ⟨by omega, by omega⟩, fun M3 e3 => ?_⟩, fun c4 => hQ _ _ ⟨b2, f2, Or.inr ⟨fun h => by have := h.2.2.2 x.toNat (by omega); omega, rfl, n2, fun q hq => ⟨by rw [m2], fun i _ => ?_⟩⟩⟩⟩
    · have b3 : BN wC M3 := by rw [e3]; exact BN.up b2 cdk rfl (by omega) (by omega)
      refine k _ _ ⟨b3, fun j9 h9 => by rw [e3, zup_row _ _ (by omega)]; exact f2 j9 h9, by rw [e3, zup_n _ _ (by omega)]; exact n2, by rw [e3, zup_row _ _ (by omega)]; exact m2, ⟨by omega, by omega⟩, fun i hi => ?_, fun q hq => by rw [e3, zup_row _ _ (by omega)]; exact hk q hq⟩ (by omega)
      rw [e3]
      by_cases c5 : i = x.toNat
      · rw [c5, zup_s]
        exact ⟨c4, rfl⟩
      · rw [zup_n _ _ (by omega)]
        exact hd i (by omega)
    · show M2 (89 + q) i = M (89 + q) i
      rw [hk q (by omega)]
set_option maxHeartbeats 4000000 in
theorem fR_piece {M : zM} {a0 a1 : Int} (hB : BI M) (v0 : -2147483648 ≤ a0 ∧ a0 ≤ 2147483647) (v1 : -2147483648 ≤ a1 ∧ a1 ≤ 2147483647) {Q : Int → zM → Prop} (hQ : ∀ (z : Int) (M1 : zM), BI M1 ∧ (∀ j9 k9 : Nat, ¬ (j9 = 0 ∧ k9 = 35 ∨ j9 = 0 ∧ k9 = 27 ∨ j9 = 16 ∨ j9 = 17) → M1 j9 k9 = M j9 k9) ∧ pcS a0 a1 (M 0 27) z (M1 0 27) (M 17) (M1 17) (fun k i => M 16 (8 * k + i)) (fun k i => M1 16 (8 * k + i)) → Q z M1) : wR_piece a0 a1 M Q := by
  unfold wR_piece
  have s1 : sI a1 = a1 := sIo v1.1 v1.2
  intro M1 e1
  have hB1 : BI M1 := by rw [e1]; exact BI.up0 hB rfl (by omega) (by omega) (by decide)
  have hF1 : ∀ j9 k9 : Nat, ¬ (j9 = 0 ∧ k9 = 35 ∨ j9 = 0 ∧ k9 = 27 ∨ j9 = 16 ∨ j9 = 17) → M1 j9 k9 = M j9 k9 := fun j9 k9 h9 => by rw [e1]; exact zup_n _ _ (by omega)
  have r27 : M1 0 27 = M 0 27 := by rw [e1]; exact zup_n _ _ (by omega)
  have r16 : M1 16 = M 16 := by rw [e1]; exact zup_row _ _ (by omega)
  have r17 : M1 17 = M 17 := by rw [e1]; exact zup_row _ _ (by omega)
  rw [← r27, ← r16, ← r17] at hQ
  have no : ¬ cPc a0 a1 (M1 0 27) → Q (-1) M1 := fun h => hQ _ _ ⟨hB1, hF1, Or.inr ⟨h, rfl, rfl, fun _ _ => ⟨rfl, fun _ _ => rfl⟩⟩⟩
  refine sR_in hB1 v1 (by omega) (by omega) (fun z p => ?_)
  obtain ⟨-, p1, -⟩ := p
  refine ⟨fun c => no (fun h => by unfold cPc at h; omega), fun c => ?_⟩
  have bc : 0 ≤ M1 0 27 ∧ M1 0 27 ≤ 5 := BN.at hB1.1 (rfl : zcd wR 0 = 50) rfl
  have sc : sI (M1 0 27) = M1 0 27 := sIo (by omega) (by omega)
  simp only [sc, s1]
  refine ⟨fun c2 => ?_, fun c2 => no (fun h => by unfold cPc at h; omega)⟩
  obtain ⟨c, hc⟩ : ∃ c : Nat, M1 0 27 = c := ⟨(M1 0 27).toNat, by omega⟩
  have tc : ((c : Int)).toNat = c := by omega
  refine pL1_of (fun x => (0 ≤ x ∧ x ≤ a1) ∧ ∀ i : Nat, (i : Int) < x → dg a0 i ≤ 9) (fun x => (100 - x).toNat) ⟨⟨by omega, by omega⟩, fun i hi => absurd hi (by omega)⟩ (fun K x h k => ?_)
  obtain ⟨hx, hd⟩ := h
  have sx : sI x = x := sIo (by omega) (by omega)
  simp only [sx]
  rw [dg_e a0 x hx.1]
  refine ⟨fun c3 => ?_, fun c3 => ⟨fun c4 => k _ ⟨⟨by omega, by omega⟩, fun i hi => ?_⟩ (by omega), fun c4 => no (fun h => by have := h.2.2.2 x.toNat (by omega); omega)⟩⟩
  · have ok : cPc a0 a1 (M1 0 27) := ⟨by omega, by omega, by omega, fun i hi => hd i (by omega)⟩
    refine wL1_of (fun y M2 => BI M2 ∧ (∀ j9 k9 : Nat, ¬ (j9 = 0 ∧ k9 = 35 ∨ j9 = 0 ∧ k9 = 27 ∨ j9 = 16 ∨ j9 = 17) → M2 j9 k9 = M j9 k9) ∧ M2 0 27 = (c : Int) ∧ M2 17 = M1 17 ∧ (0 ≤ y ∧ y ≤ a1) ∧ (∀ i : Nat, (i : Int) < y → M2 16 (8 * c + i) = dg a0 i) ∧ (∀ q : Nat, q < 8 * c → M2 16 q = M1 16 q)) (fun y _ => (100 - y).toNat) ⟨hB1, hF1, hc, rfl, ⟨by omega, by omega⟩, fun i hi => absurd hi (by omega), fun _ _ => rfl⟩ (fun K2 y M2 h2 k2 => ?_)
    obtain ⟨b2, f2, n2, m2, hy, he, hk⟩ := h2
    have sy : sI y = y := sIo (by omega) (by omega)
    have s2 : sI (c : Int) = (c : Int) := sIo (by omega) (by omega)
    have s3 : sI (8 * (c : Int) + y) = 8 * (c : Int) + y := sIo (by omega) (by omega)
    have t3 : (8 * (c : Int) + y).toNat = 8 * c + y.toNat := by omega
    simp only [sy, n2, s2, tc, s3, t3]
    refine ⟨fun c4 => ?_, fun c4 => ?_⟩
    · refine ⟨⟨by omega, by omega⟩, ?_⟩
      intro M3 e3 M4 e4
      have b3 : BI M3 := by rw [e3]; exact BI.up b2 (rfl : zcd wR 17 = 67) rfl (by omega) (by omega) (by decide)
      have n3 : M3 0 27 = c := by rw [e3, zup_n _ _ (by omega), n2]
      have b4 : BI M4 := by rw [e4]; exact BI.up0 b3 rfl (by omega) (by omega) (by decide)
      have n4 : M4 0 27 = c + 1 := by rw [e4, zup_s, n3]
      have sz : sI (M4 0 27 - 1) = (c : Int) := by rw [n4, sIo (by omega) (by omega)]; omega
      rw [sz]
      refine hQ _ _ ⟨b4, fun j9 k9 h9 => by rw [e4, zup_n _ _ (by omega), e3, zup_n _ _ (by omega)]; exact f2 j9 k9 h9, Or.inl ⟨ok, hc.symm, by rw [n4, hc], fun q hq => ⟨?_, fun i _ => ?_⟩, ?_, fun i hi => ?_⟩⟩
      · rw [e4, zup_n _ _ (by omega), e3, zup_n _ _ (by omega), m2]
      · show M4 16 (8 * q + i) = M1 16 (8 * q + i)
        rw [e4, zup_n _ _ (by omega), e3, zup_n _ _ (by omega), hk _ (by omega)]
      · rw [hc, tc, e4, zup_n _ _ (by omega), e3, zup_s]
      · show M4 16 (8 * (M1 0 27).toNat + i) = dg a0 i
        rw [hc, tc, e4, zup_n _ _ (by omega), e3, zup_n _ _ (by omega)]
        exact he i (by omega)
    · have hb := dg_b a0 y.toNat
      rw [dg_e a0 y hy.1]
      refine ⟨⟨by omega, by omega⟩, fun M3 e3 => ?_⟩
      have b3 : BI M3 := by rw [e3]; exact BI.up b2 (rfl : zcd wR 16 = 66) rfl (by omega) (by omega) (by decide)
      refine k2 _ _ ⟨b3, fun j9 k9 h9 => by rw [e3, zup_n _ _ (by omega)]; exact f2 j9 k9 h9, by rw [e3, zup_n _ _ (by omega)]; exact n2, by rw [e3, zup_row _ _ (by omega)]; exact m2, ⟨by omega, by omega⟩, fun i hi => ?_, fun q hq => by rw [e3, zup_n _ _ (by omega)]; exact hk q hq⟩ (by omega)
      rw [e3]
      by_cases c5 : i = y.toNat
      · rw [c5, zup_s]
      · rw [zup_n _ _ (by omega)]
        exact he i (by omega)
  · by_cases c5 : (i : Int) < x
    · exact hd i c5
    · rw [show i = x.toNat by omega]
      exact c4
/-- the pieces are alike -/
def iPi (MC MR : zM) : Prop := MC 86 0 = MR 0 27 ∧ MC 86 0 ≤ 5 ∧ ∀ k : Nat, (k : Int) < MC 86 0 → MC 94 k = MR 17 k ∧ (1 ≤ MC 94 k ∧ MC 94 k ≤ 8) ∧ ∀ i : Nat, (i : Int) < MC 94 k → MC (89 + k) i = MR 16 (8 * k + i)
theorem iPi_kept {MC MR M8 M9 : zM} (h : iPi MC MR) (hC : ∀ j : Nat, 89 ≤ j ∧ j ≤ 94 → M8 j = MC j) (h0 : M8 86 0 = MC 86 0) (h1 : M9 0 27 = MR 0 27) (h2 : M9 16 = MR 16) (h3 : M9 17 = MR 17) : iPi M8 M9 := by
  obtain ⟨g1, g2, g3⟩ := h
  unfold iPi
  rw [h0, hC 94 (by omega), h1, h2, h3]
  refine ⟨g1, g2, fun k hk => ⟨(g3 k hk).1, (g3 k hk).2.1, fun i hi => ?_⟩⟩
  rw [hC (89 + k) (by omega)]
  exact (g3 k hk).2.2 i hi
theorem pi_step {MC MR M8 M9 : zM} {a0 a1 z z9 : Int} (h : iPi MC MR) (p : pcS a0 a1 (MC 86 0) z (M8 86 0) (MC 94) (M8 94) (fun k => MC (89 + k)) (fun k => M8 (89 + k))) (q : pcS a0 a1 (MR 0 27) z9 (M9 0 27) (MR 17) (M9 17) (fun k i => MR 16 (8 * k + i)) (fun k i => M9 16 (8 * k + i))) : z = z9 ∧ iPi M8 M9 := by
  obtain ⟨g1, g2, g3⟩ := h
  rw [← g1] at q
  rcases p with ⟨p1, p2, p3, p4, p5, p6⟩ | ⟨p1, p2, p3, p4⟩
  · rcases q with ⟨q1, q2, q3, q4, q5, q6⟩ | ⟨q1, -⟩
    · obtain ⟨n1, n2, n3, n4⟩ := p1
      refine ⟨by omega, by omega, by omega, fun k hk => ?_⟩
      by_cases c : (k : Int) < MC 86 0
      · have w := g3 k c
        have x := p4 k c
        have y := q4 k c
        refine ⟨by rw [x.1, y.1]; exact w.1, by rw [x.1]; exact w.2.1, fun i hi => ?_⟩
        rw [x.1] at hi
        have e1 : M8 (89 + k) i = MC (89 + k) i := x.2 i (by omega)
        have e2 : M9 16 (8 * k + i) = MR 16 (8 * k + i) := y.2 i (by omega)
        rw [e1, e2]
        exact w.2.2 i hi
      · have e : k = (MC 86 0).toNat := by omega
        subst e
        refine ⟨by rw [p5, q5], by rw [p5]; exact ⟨n1, n2⟩, fun i hi => ?_⟩
        rw [p5] at hi
        have e1 : M8 (89 + (MC 86 0).toNat) i = dg a0 i := p6 i hi
        have e2 : M9 16 (8 * (MC 86 0).toNat + i) = dg a0 i := q6 i hi
        rw [e1, e2]
    · exact absurd p1 q1
  · rcases q with ⟨q1, -⟩ | ⟨q1, q2, q3, q4⟩
    · exact absurd q1 p1
    · refine ⟨by omega, by omega, by omega, fun k hk => ?_⟩
      have c : (k : Int) < MC 86 0 := by omega
      have w := g3 k c
      have x := p4 k c
      have y := q4 k c
      refine ⟨by rw [x.1, y.1]; exact w.1, by rw [x.1]; exact w.2.1, fun i hi => ?_⟩
      rw [x.1] at hi
      have e1 : M8 (89 + k) i = MC (89 + k) i := x.2 i (by omega)
      have e2 : M9 16 (8 * k + i) = MR 16 (8 * k + i) := y.2 i (by omega)
      rw [e1, e2]
      exact w.2.2 i hi
theorem pi_burn {MC MR M8 M9 : zM} {z z9 : Int} (h : iPi MC MR) (p : z = MC 86 0 ∧ M8 86 0 = 0) (q : z9 = MR 0 27 ∧ M9 0 27 = 0) : z = z9 ∧ iPi M8 M9 := ⟨by have := h.1; omega, by omega, by omega, fun k hk => absurd hk (by omega)⟩
end zz47d_piece
