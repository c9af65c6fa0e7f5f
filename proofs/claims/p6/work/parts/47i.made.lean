/-! the model puts together what the class's machine does: terms -/
theorem runC_add (f : Nat → Int) : ∀ (a b : Nat) (s : CSt) (p : Nat), runC f (a + b) s p = (runC f a s p).bind (fun s1 => runC f b s1 (p + a))
  | 0, b, s, p => by rw [Nat.zero_add]; rfl
  | a + 1, b, s, p => by
    rw [show a + 1 + b = (a + b) + 1 by omega, show runC f (a + b + 1) s p = (stepC s (f p)).bind (fun s1 => runC f (a + b) s1 (p + 1)) from rfl, show runC f (a + 1) s p = (stepC s (f p)).bind (fun s1 => runC f a s1 (p + 1)) from rfl]
    cases stepC s (f p) with
    | none => rfl
    | some s1 =>
      show runC f (a + b) s1 (p + 1) = (runC f a s1 (p + 1)).bind _
      rw [runC_add f a b s1 (p + 1), show p + 1 + a = p + (a + 1) by omega]
def Rn (f : Nat → Int) (cs : CSt) (p q : Int) (cs2 : CSt) : Prop := 0 ≤ p ∧ p ≤ q ∧ runC f (q - p).toNat cs p.toNat = some cs2
def Dd (f : Nat → Int) (s : Int) (cs : CSt) (p : Int) : Prop := (runC f (s - p).toNat cs p.toNat).bind layC = none
theorem Rn_0 {f : Nat → Int} {cs : CSt} {p : Int} (h : 0 ≤ p) : Rn f cs p p cs := ⟨h, Int.le_refl _, by rw [show (p - p).toNat = 0 by omega]; rfl⟩
theorem Rn_tr {f : Nat → Int} {cs c1 c2 : CSt} {p q r : Int} (h : Rn f cs p q c1) (h2 : Rn f c1 q r c2) : Rn f cs p r c2 := by
  obtain ⟨a1, a2, a3⟩ := h
  obtain ⟨b1, b2, b3⟩ := h2
  refine ⟨a1, by omega, ?_⟩
  rw [show (r - p).toNat = (q - p).toNat + (r - q).toNat by omega, runC_add, a3, show p.toNat + (q - p).toNat = q.toNat by omega]
  exact b3
theorem Rn_s {f : Nat → Int} {cs c1 c2 : CSt} {p q : Int} (h : Rn f cs p q c1) (e : stepC c1 (f q.toNat) = some c2) : Rn f cs p (q + 1) c2 := by
  refine Rn_tr h ⟨by have := h.1; have := h.2.1; omega, by omega, ?_⟩
  rw [show (q + 1 - q).toNat = 1 by omega]
  show (stepC c1 (f q.toNat)).bind (fun s1 => some s1) = some c2
  rw [e]
  rfl
theorem Dd_r {f : Nat → Int} {s : Int} {cs c1 : CSt} {p q : Int} (h : Rn f cs p q c1) (hq : q ≤ s) (h2 : Dd f s c1 q) : Dd f s cs p := by
  obtain ⟨a1, a2, a3⟩ := h
  unfold Dd
  rw [show (s - p).toNat = (q - p).toNat + (s - q).toNat by omega, runC_add, a3, show p.toNat + (q - p).toNat = q.toNat by omega]
  exact h2
theorem Dd_s {f : Nat → Int} {s : Int} {cs c1 : CSt} {p q : Int} (h : Rn f cs p q c1) (hq : q < s) (e : stepC c1 (f q.toNat) = none) : Dd f s cs p := by
  refine Dd_r h (by omega) ?_
  unfold Dd
  rw [show (s - q).toNat = (s - q - 1).toNat + 1 by omega]
  show ((stepC c1 (f q.toNat)).bind _).bind layC = none
  rw [e]
  rfl
theorem st_star {l : Nat} {a v : Int} {R T : Nat → SV} {D : Nat → Nat} (h : v = 42) : stepC (l, a, R, T, D) v = some (l, 42, R, T, D) := by
  subst h
  rfl
theorem st_til {l : Nat} {a v : Int} {R T : Nat → SV} {D : Nat → Nat} (h : v = 126) : stepC (l, a, R, T, D) v = some (l, a, R, uS T l (turnV (T l)), D) := by
  subst h
  rfl
theorem sn_end {l : Nat} {a v : Int} {R T : Nat → SV} {D : Nat → Nat} (h : v = 93) : stepC (l, a, R, T, D) v = some (l, 0, R, T, D) := by
  subst h
  rfl
theorem st_brk {l : Nat} {a v : Int} {R T : Nat → SV} {D : Nat → Nat} (h : v = 91) : stepC (l, a, R, T, D) v = begC (l, 91, R, T, D) 0 := by
  subst h
  rfl
theorem st_sl {l : Nat} {a v : Int} {R T : Nat → SV} {D : Nat → Nat} (h : v = 47) : stepC (l, a, R, T, D) v = layC (l, 47, R, T, D) := by
  subst h
  rfl
theorem st_opn {l : Nat} {a v : Int} {R T : Nat → SV} {D : Nat → Nat} (h : v = 40) : stepC (l, a, R, T, D) v = (layC (l, a, R, T, D)).map opnC := by
  subst h
  rfl
theorem st_cls {l : Nat} {a v : Int} {R T : Nat → SV} {D : Nat → Nat} (h : v = 41) : stepC (l, a, R, T, D) v = (layC (l, a, R, T, D)).map clsC := by
  subst h
  rfl
theorem st_rep {l : Nat} {v : Int} {R T : Nat → SV} {D : Nat → Nat} (h : 48 ≤ v ∧ v ≤ 57) : stepC (l, 42, R, T, D) v = if 24 < (T l).1 * (v - 48).toNat then none else some (l, 0, R, uS T l (repV (T l) (v - 48).toNat), D) := by
  unfold stepC
  rw [if_pos h]
  rfl
theorem st_shr {l : Nat} {v : Int} {R T : Nat → SV} {D : Nat → Nat} (h : 48 ≤ v ∧ v ≤ 57) : stepC (l, 47, R, T, D) v = if (R l).1 < (v - 48).toNat then none else some (l, 0, R, T, uN D l (v - 48).toNat) := by
  unfold stepC
  rw [if_pos h]
  rfl
theorem st_in {l : Nat} {v : Int} {R T : Nat → SV} {D : Nat → Nat} (h : 48 ≤ v ∧ v ≤ 57) : stepC (l, 91, R, T, D) v = some (l, 91, R, uS T l (addV (T l) (shlI 1 ((v - 48).toNat : Int))), D) := by
  unfold stepC
  rw [if_pos h]
  rfl
theorem st_dig {l : Nat} {v : Int} {R T : Nat → SV} {D : Nat → Nat} (h : 48 ≤ v ∧ v ≤ 57) : stepC (l, 0, R, T, D) v = begC (l, 0, R, T, D) (if (v - 48).toNat = 0 then 0 else shlI 1 ((v - 48).toNat : Int)) := by
  unfold stepC
  rw [if_pos h]
  rfl
theorem lay_some {l l1 : Nat} {a a1 : Int} {R T R1 T1 : Nat → SV} {D D1 : Nat → Nat} (h : layC (l, a, R, T, D) = some (l1, a1, R1, T1, D1)) : l1 = l ∧ a1 = a ∧ (T1 l).1 = 0 ∧ (∀ i : Nat, i ≠ l → R1 i = R i ∧ T1 i = T i ∧ D1 i = D i) ∧ (((T l).1 = 0 ∧ R1 = R ∧ T1 = T ∧ D1 = D) ∨ ((T l).1 ≠ 0 ∧ D l ≤ (T l).1 ∧ (R l).1 + (T l).1 - D l ≤ 24 ∧ R1 l = layV (R l) (T l) (D l) ∧ D1 l = 0)) := by
  simp only [layC] at h
  by_cases c : (T l).1 = 0
  · rw [if_pos c] at h
    cases h
    exact ⟨rfl, rfl, c, fun _ _ => ⟨rfl, rfl, rfl⟩, Or.inl ⟨c, rfl, rfl, rfl⟩⟩
  rw [if_neg c] at h
  by_cases c2 : (T l).1 < D l
  · rw [if_pos c2] at h
    cases h
  rw [if_neg c2] at h
  by_cases c3 : 24 < (R l).1 + (T l).1 - D l
  · rw [if_pos c3] at h
    cases h
  rw [if_neg c3] at h
  cases h
  exact ⟨rfl, rfl, by rw [uS_s], fun i hi => ⟨uS_n _ _ hi, uS_n _ _ hi, uN_n _ _ hi⟩, Or.inr ⟨c, by omega, by omega, uS_s _ _ _, uN_s _ _ _⟩⟩
theorem lay_a {l : Nat} {a b : Int} {R T R1 T1 : Nat → SV} {D D1 : Nat → Nat} (h : layC (l, a, R, T, D) = some (l, a, R1, T1, D1)) : layC (l, b, R, T, D) = some (l, b, R1, T1, D1) := by
  simp only [layC] at h ⊢
  by_cases c : (T l).1 = 0
  · rw [if_pos c] at h ⊢
    cases h
    rfl
  rw [if_neg c] at h ⊢
  by_cases c2 : (T l).1 < D l
  · rw [if_pos c2] at h
    cases h
  rw [if_neg c2] at h ⊢
  by_cases c3 : 24 < (R l).1 + (T l).1 - D l
  · rw [if_pos c3] at h
    cases h
  rw [if_neg c3] at h ⊢
  cases h
  rfl
theorem lay_no {l : Nat} {a : Int} {R T : Nat → SV} {D : Nat → Nat} (c : (T l).1 ≠ 0) (h : (T l).1 < D l ∨ 24 < (R l).1 + (T l).1 - D l) : layC (l, a, R, T, D) = none := by
  simp only [layC]
  rw [if_neg c]
  by_cases c2 : (T l).1 < D l
  · rw [if_pos c2]
  · rw [if_neg c2, if_pos (by omega)]
theorem lay_yes {l : Nat} {a : Int} {R T : Nat → SV} {D : Nat → Nat} (c : (T l).1 ≠ 0) (h1 : D l ≤ (T l).1) (h2 : (R l).1 + (T l).1 - D l ≤ 24) : layC (l, a, R, T, D) = some (l, a, uS R l (layV (R l) (T l) (D l)), uS T l (0, (T l).2), uN D l 0) := by
  simp only [layC]
  rw [if_neg c, if_neg (by omega), if_neg (by omega)]
theorem lay_0 {l : Nat} {a : Int} {R T : Nat → SV} {D : Nat → Nat} (c : (T l).1 = 0) : layC (l, a, R, T, D) = some (l, a, R, T, D) := by
  simp only [layC]
  rw [if_pos c]
def isT (N : zM) (d : Nat) (x : SV) : Prop := N 26 d = (x.1 : Int) ∧ ∀ k : Nat, k < x.1 → N 25 (24 * d + k) = x.2 k
def isW (N : zM) (d : Nat) (x : SV) : Prop := N 24 d = (x.1 : Int) ∧ ∀ k : Nat, k < x.1 → N 23 (24 * d + k) = x.2 k
def FF1 (d : Nat) (M N : zM) : Prop := ∀ j k : Nat, ¬ (j = 0 ∧ k = 36 ∨ j = 23 ∧ 24 * (d + 1) ≤ k ∨ j = 24 ∧ d + 1 ≤ k ∨ j = 25 ∧ 24 * d ≤ k ∨ j = 26 ∧ d ≤ k) → N j k = M j k
def FF2 (d : Nat) (M N : zM) : Prop := ∀ j k : Nat, ¬ (j = 0 ∧ k = 36 ∨ j = 23 ∧ 24 * d ≤ k ∨ j = 24 ∧ d ≤ k ∨ j = 25 ∧ 24 * d ≤ k ∨ j = 26 ∧ d ≤ k) → N j k = M j k
def VT1 (f : Nat → Int) (s : Int) (d : Nat) (q : Int) (M0 : zM) (cs : CSt) (p0 : Int) (R T : Nat → SV) (D : Nat → Nat) (z : Int) (M1 : zM) : Prop := BI M1 ∧ FF1 d M0 M1 ∧ (0 ≤ M1 0 36 ∧ M1 0 36 ≤ 60) ∧ (-101 ≤ z ∧ z ≤ 0) ∧ ((z < 0 ∧ Dd f s cs p0) ∨ (z = 0 ∧ M1 0 36 = q ∧ ∃ R2 T2 : Nat → SV, ∃ D2 : Nat → Nat, Rn f cs p0 q (d, 0, R2, T2, D2) ∧ (∀ i : Nat, i ≤ d → R2 i = R i ∧ D2 i = D i) ∧ (∀ i : Nat, i < d → T2 i = T i) ∧ 1 ≤ (T2 d).1 ∧ isT M1 d (T2 d)))
theorem VT1_cg {f : Nat → Int} {s : Int} {d : Nat} {q : Int} {M0 : zM} {cs : CSt} {p0 : Int} {R T R' T' : Nat → SV} {D D' : Nat → Nat} {z : Int} {M1 : zM} (h : VT1 f s d q M0 cs p0 R' T' D' z M1) (h1 : ∀ i : Nat, i ≤ d → R' i = R i ∧ D' i = D i) (h2 : ∀ i : Nat, i < d → T' i = T i) : VT1 f s d q M0 cs p0 R T D z M1 := by
  obtain ⟨a1, a2, a3, a4, a5⟩ := h
  refine ⟨a1, a2, a3, a4, ?_⟩
  rcases a5 with a5 | ⟨b1, b2, R2, T2, D2, b3, b4, b5, b6⟩
  · exact Or.inl a5
  · exact Or.inr ⟨b1, b2, R2, T2, D2, b3, fun i hi => ⟨(b4 i hi).1.trans (h1 i hi).1, (b4 i hi).2.trans (h1 i hi).2⟩, fun i hi => (b5 i hi).trans (h2 i hi), b6⟩
theorem sgnf {f T : Nat → Int} {s : Int} (hf : ∀ i : Nat, (i : Int) < s → f i = bU (T i)) {p lo hi : Int} (h : HS T s p lo hi) (h0 : 0 ≤ p) (hl : 0 ≤ lo) : f p.toNat = T p.toNat := by
  unfold HS at h
  rw [hf p.toNat (by omega)]
  unfold bU
  rw [if_neg (by omega)]
set_option maxHeartbeats 4000000 in
theorem vt_tail {T f : Nat → Int} {s : Int} {d : Nat} {M0 M : zM} {Q : Int → zM → Prop} {q p0 : Int} {cs : CSt} {R Tm : Nat → SV} {D : Nat → Nat} (hf : ∀ i : Nat, (i : Int) < s → f i = bU (T i)) (hd : d ≤ 5) (hB : BI M) (hF : FF1 d M0 M) (hT : M0 1 = T) (hs : M0 0 1 = s) (hp : 0 ≤ M 0 36 ∧ M 0 36 ≤ 60) (pk : PK T s 4 d (M 0 36) q) (hr : Rn f cs p0 (M 0 36) (d, 0, R, Tm, D)) (h1 : 1 ≤ (Tm d).1) (ht : isT M d (Tm d)) (hQ : ∀ (z : Int) (M1 : zM), VT1 f s d q M0 cs p0 R Tm D z M1 → Q z M1) : wR_mtTail (d : Int) Q M := by
  unfold wR_mtTail
  refine wL0_of (fun N => BI N ∧ FF1 d M0 N ∧ (0 ≤ N 0 36 ∧ N 0 36 ≤ 60) ∧ PK T s 4 d (N 0 36) q ∧ ∃ Tn : Nat → SV, Rn f cs p0 (N 0 36) (d, 0, R, Tn, D) ∧ (∀ i : Nat, i ≠ d → Tn i = Tm i) ∧ 1 ≤ (Tn d).1 ∧ isT N d (Tn d)) (fun N => (100 - N 0 36).toNat) ⟨hB, hF, hp, pk, Tm, hr, fun _ _ => rfl, h1, ht⟩ (fun K N hI hK => ?_)
  obtain ⟨hBN, FN, pN, pkN, Tn, hrN, hTn, h1N, htN⟩ := hI
  have TN : N 1 = T := (funext fun k => FN 1 k (by omega)).trans hT
  have SN : N 0 1 = s := (FN 0 1 (by omega)).trans hs
  have sd : sI (d : Int) = d := sIo (by omega) (by omega)
  have dd : ((d : Int)).toNat = d := rfl
  have bz : 0 ≤ N 26 d ∧ N 26 d ≤ 24 := BN.at hBN.1 (rfl : zcd wR 26 = 76) rfl
  have sz : sI (N 26 d) = N 26 d := sIo (by omega) (by omega)
  have hn : N 26 d = ((Tn d).1 : Int) := htN.1
  have hg := htN.2
  rw [sd, dd, sz]
  refine sR_has hBN (by omega) (by omega) (fun z43 c43 => ?_)
  obtain ⟨-, c43, -⟩ := c43
  rw [TN, SN] at c43
  refine pJ0_of (HS T s (N 0 36) 126 126 ∨ HS T s (N 0 36) 42 42) (fun hJ => ?_) ⟨fun e43 => Or.inl (hyes c43 (by omega)), fun e43 => ?_⟩
  · refine ⟨by omega, ?_⟩
    refine sR_has hBN (by omega) (by omega) (fun z56 c56 => ?_)
    obtain ⟨-, c56, -⟩ := c56
    rw [TN, SN] at c56
    refine ⟨fun e56 => ?_, fun e56 => ?_⟩
    · have n56 : ¬ HS T s (N 0 36) 126 126 := hno c56 (by omega)
      have y42 : HS T s (N 0 36) 42 42 := hJ.resolve_left n56
      have h4 : HS T s (N 0 36 + 1) 50 57 ∧ PK T s 4 d (N 0 36 + 2) q := by
        rcases PK4.mp pkN with h | h | h
        · exact absurd h.1 n56
        · exact ⟨h.2.2.1, h.2.2.2⟩
        · exact absurd y42 h.2.1
      have pl : N 0 36 + 1 < 60 := h4.1.1.2
      have ps : N 0 36 + 1 < s := h4.1.1.1
      have hv := h4.1.2
      have f1 : f (N 0 36).toNat = T (N 0 36).toNat := sgnf hf y42 pN.1 (by omega)
      have f2 : f (N 0 36 + 1).toNat = T (N 0 36 + 1).toNat := sgnf hf h4.1 (by omega) (by omega)
      have e42 : f (N 0 36).toNat = 42 := by have := y42.2; omega
      have r1 := Rn_s hrN (st_star e42)
      have hv2 := hv
      rw [← TN] at hv
      have s3 : sI (N 0 36 + 1) = N 0 36 + 1 := sIo (by omega) (by omega)
      rw [s3]
      refine ⟨by omega, ?_⟩
      intro t61 e61
      have bt : 2 ≤ t61 ∧ t61 ≤ 9 := by omega
      have ev : (f (N 0 36 + 1).toNat - 48).toNat = t61.toNat := by rw [f2, e61, TN]
      have tv : t61 = (t61.toNat : Int) := by omega
      have st := st_rep (l := d) (R := R) (T := Tn) (D := D) (v := f (N 0 36 + 1).toNat) (by omega)
      rw [ev] at st
      have emul : N 26 d * t61 = (((Tn d).1 * t61.toNat : Nat) : Int) := by
        rw [hn, Int.natCast_mul, ← tv]
      intro M63 e63
      have p63 : M63 0 36 = N 0 36 + 2 := by rw [e63]; exact zup_s _ _ _ _
      have hB63 : BI M63 := by rw [e63]; exact BIp hBN (by omega) (by omega)
      have F63 : FF1 d M0 M63 := fun j9 k9 h9 => by rw [e63]; exact (zup_n _ _ (by omega)).trans (FN j9 k9 h9)
      have mb := mulB 24 9 (N 26 d) t61 bz.1 bz.2 (by omega) (by omega)
      have sm : sI (N 26 d * t61) = N 26 d * t61 := sIo (by omega) (by omega)
      rw [sm]
      have mge : N 26 d ≤ N 26 d * t61 := by
        have h := Int.mul_le_mul_of_nonneg_left (a := 1) (b := t61) (c := N 26 d) (by omega) bz.1
        omega
      refine ⟨fun c => ?_, fun c => hQ _ _ ⟨hB63, F63, by omega, by omega, Or.inl ⟨by omega, Dd_s r1 ps (by rw [st, if_pos (by omega)])⟩⟩⟩
      rw [if_neg (by omega)] at st
      have r2 := Rn_s r1 st
      rw [show N 0 36 + 1 + 1 = N 0 36 + 2 by omega] at r2
      refine wL1_of (fun x P => BI P ∧ FF1 d M0 P ∧ P 0 36 = N 0 36 + 2 ∧ ∃ i : Nat, x = (i : Int) ∧ (Tn d).1 ≤ i ∧ (i : Int) ≤ N 26 d * t61 ∧ ∀ k : Nat, k < i → P 25 (24 * d + k) = (Tn d).2 (k % (Tn d).1)) (fun x _ => (1000 - x).toNat) ⟨hB63, F63, p63, (Tn d).1, hn, Nat.le_refl _, by omega, fun k hk => by rw [e63, zup_n _ _ (by omega), Nat.mod_eq_of_lt hk]; exact hg k hk⟩ (fun K2 x P hI2 hK2 => ?_)
      obtain ⟨hBP, FP, pP, i, rfl, i1, i2, hv3⟩ := hI2
      have sx : sI (i : Int) = i := sIo (by omega) (by omega)
      rw [sx]
      refine ⟨fun c2 => ⟨by omega, ?_⟩, fun c2 => ?_⟩
      · intro M77 e77
        have p77 : M77 0 36 = N 0 36 + 2 := by rw [e77, zup_n _ _ (by omega), pP]
        refine hK _ ⟨by rw [e77]; exact BI.up hBP (rfl : zcd wR 26 = 76) rfl (by omega) (by omega) (by decide), fun j9 k9 h9 => by rw [e77]; exact (zup_n _ _ (by omega)).trans (FP j9 k9 h9), by omega, by rw [p77]; exact h4.2, uS Tn d (repV (Tn d) t61.toNat), by rw [p77]; exact r2, fun i hi => (uS_n _ _ hi).trans (hTn i hi), ?_, ?_⟩ (by omega)
        · rw [uS_s]
          show 1 ≤ (Tn d).1 * t61.toNat
          have := Nat.mul_le_mul h1N (show 1 ≤ t61.toNat by omega)
          omega
        · rw [uS_s]
          refine ⟨by rw [e77, zup_s, emul]; rfl, fun k hk => ?_⟩
          have hk : k < (Tn d).1 * t61.toNat := hk
          rw [e77, zup_n _ _ (by omega)]
          exact hv3 k (by omega)
      · have s5 : sI ((24 * (d : Int) + (i : Int)) - N 26 d) = (24 * (d : Int) + (i : Int)) - N 26 d := sIo (by omega) (by omega)
        have s6 : sI (24 * (d : Int) + (i : Int)) = 24 * (d : Int) + (i : Int) := sIo (by omega) (by omega)
        have t5 : ((24 * (d : Int) + (i : Int)) - N 26 d).toNat = 24 * d + (i - (Tn d).1) := by omega
        have t6 : (24 * (d : Int) + (i : Int)).toNat = 24 * d + i := by omega
        rw [s5, s6, t5, t6]
        refine ⟨by omega, by omega, ?_⟩
        intro M83 e83
        have br := BN.r32 hBP.1 25 (24 * d + (i - (Tn d).1))
        refine hK2 _ _ ⟨by rw [e83]; exact BI.up hBP (rfl : zcd wR 25 = 75) rfl br.1 br.2 (by decide), fun j9 k9 h9 => by rw [e83]; exact (zup_n _ _ (by omega)).trans (FP j9 k9 h9), by rw [e83, zup_n _ _ (by omega)]; exact pP, i + 1, by omega, by omega, by omega, fun k hk => ?_⟩ (by omega)
        rw [e83]
        by_cases c5 : k = i
        · rw [c5, zup_s, hv3 _ (by omega), ← Nat.mod_eq_sub_mod i1]
        · rw [zup_n _ _ (by omega)]
          exact hv3 k (by omega)
    · have y56 : HS T s (N 0 36) 126 126 := hyes c56 (by omega)
      have pl : N 0 36 < 60 := y56.1.2
      have pk2 : PK T s 4 d (N 0 36 + 1) q := by
        rcases PK4.mp pkN with h | h | h
        · exact h.2
        · exact absurd y56 h.1
        · exact absurd y56 h.1
      have f1 : f (N 0 36).toNat = T (N 0 36).toNat := sgnf hf y56 pN.1 (by omega)
      have e126 : f (N 0 36).toNat = 126 := by have := y56.2; omega
      have r1 := Rn_s hrN (st_til e126)
      intro M87 e87
      have p87 : M87 0 36 = N 0 36 + 1 := by rw [e87]; exact zup_s _ _ _ _
      have hB87 : BI M87 := by rw [e87]; exact BIp hBN (by omega) (by omega)
      have F87 : FF1 d M0 M87 := fun j9 k9 h9 => by rw [e87]; exact (zup_n _ _ (by omega)).trans (FN j9 k9 h9)
      have hh : (N 26 d).tdiv 2 = N 26 d / 2 := Int.tdiv_eq_ediv_of_nonneg bz.1
      have sh : sI ((N 26 d).tdiv 2) = (((Tn d).1 / 2 : Nat) : Int) := by rw [hh, sIo (by omega) (by omega)]; omega
      rw [sh]
      refine wL1_of (fun x P => BI P ∧ FF1 d M0 P ∧ P 0 36 = N 0 36 + 1 ∧ P 26 d = N 26 d ∧ ∃ i : Nat, x = (i : Int) ∧ i ≤ (Tn d).1 / 2 ∧ ∀ k : Nat, k < (Tn d).1 → P 25 (24 * d + k) = if k < i ∨ (Tn d).1 - i ≤ k then (Tn d).2 ((Tn d).1 - 1 - k) else (Tn d).2 k) (fun x _ => (1000 - x).toNat) ⟨hB87, F87, p87, by rw [e87]; exact zup_n _ _ (by omega), 0, rfl, by omega, fun k hk => by rw [if_neg (by omega), e87, zup_n _ _ (by omega)]; exact hg k hk⟩ (fun K2 x P hI2 hK2 => ?_)
      obtain ⟨hBP, FP, pP, nP, i, rfl, i1, hv3⟩ := hI2
      have sx : sI (i : Int) = i := sIo (by omega) (by omega)
      rw [sx]
      refine ⟨fun c2 => hK _ ⟨hBP, FP, by omega, by rw [pP]; exact pk2, uS Tn d (turnV (Tn d)), by rw [pP]; exact r1, fun i hi => (uS_n _ _ hi).trans (hTn i hi), by rw [uS_s]; exact h1N, ?_⟩ (by omega), fun c2 => ?_⟩
      · rw [uS_s]
        refine ⟨by rw [nP]; exact hn, fun k hk => ?_⟩
        have hk : k < (Tn d).1 := hk
        show P 25 (24 * d + k) = (Tn d).2 ((Tn d).1 - 1 - k)
        rw [hv3 k hk]
        by_cases c5 : k < i ∨ (Tn d).1 - i ≤ k
        · rw [if_pos c5]
        · rw [if_neg c5, show (Tn d).1 - 1 - k = k by omega]
      · have s5 : sI (((24 * (d : Int) + N 26 d) - 1) - (i : Int)) = ((24 * (d : Int) + N 26 d) - 1) - (i : Int) := sIo (by omega) (by omega)
        have s6 : sI (24 * (d : Int) + (i : Int)) = 24 * (d : Int) + (i : Int) := sIo (by omega) (by omega)
        have t5 : (((24 * (d : Int) + N 26 d) - 1) - (i : Int)).toNat = 24 * d + ((Tn d).1 - 1 - i) := by omega
        have t6 : (24 * (d : Int) + (i : Int)).toNat = 24 * d + i := by omega
        rw [s5, s6, t5, t6]
        refine ⟨by omega, by omega, by omega, ?_⟩
        intro M104 e104
        have br := BN.r32 hBP.1 25 (24 * d + ((Tn d).1 - 1 - i))
        have br2 := BN.r32 hBP.1 25 (24 * d + i)
        have hB104 : BI M104 := by rw [e104]; exact BI.up hBP (rfl : zcd wR 25 = 75) rfl br.1 br.2 (by decide)
        refine ⟨by omega, ?_⟩
        intro M107 e107
        refine hK2 _ _ ⟨by rw [e107]; exact BI.up hB104 (rfl : zcd wR 25 = 75) rfl br2.1 br2.2 (by decide), fun j9 k9 h9 => by rw [e107, e104]; exact (zup_n _ _ (by omega)).trans ((zup_n _ _ (by omega)).trans (FP j9 k9 h9)), by rw [e107, e104, zup_n _ _ (by omega), zup_n _ _ (by omega)]; exact pP, by rw [e107, e104, zup_n _ _ (by omega), zup_n _ _ (by omega)]; exact nP, i + 1, by omega, by omega, fun k hk => ?_⟩ (by omega)
        rw [e107]
        by_cases c5 : k = (Tn d).1 - 1 - i
        · rw [c5, zup_s, if_pos (by omega), hv3 i (by omega), if_neg (by omega), show (Tn d).1 - 1 - ((Tn d).1 - 1 - i) = i by omega]
        · rw [zup_n _ _ (by omega), e104]
          by_cases c6 : k = i
          · rw [c6, zup_s, if_pos (by omega), hv3 _ (by omega), if_neg (by omega)]
          · rw [zup_n _ _ (by omega), hv3 k hk]
            by_cases c7 : k < i ∨ (Tn d).1 - i ≤ k
            · rw [if_pos c7, if_pos (show k < i + 1 ∨ (Tn d).1 - (i + 1) ≤ k by omega)]
            · rw [if_neg c7, if_neg (show ¬ (k < i + 1 ∨ (Tn d).1 - (i + 1) ≤ k) by omega)]
  · have n43 : ¬ HS T s (N 0 36) 126 126 := hno c43 (by omega)
    refine sR_has hBN (by omega) (by omega) (fun z113 c113 => ?_)
    obtain ⟨-, c113, -⟩ := c113
    rw [TN, SN] at c113
    refine ⟨fun e113 => ?_, fun e113 => Or.inr (hyes c113 (by omega))⟩
    have n113 : ¬ HS T s (N 0 36) 42 42 := hno c113 (by omega)
    have eq : N 0 36 = q := by
      rcases PK4.mp pkN with h | h | h
      · exact absurd h.1 n43
      · exact absurd h.2.1 n113
      · exact h.2.2.symm
    rw [eq] at hrN
    exact hQ _ _ ⟨hBN, FN, pN, by omega, Or.inr ⟨rfl, eq, R, Tn, D, hrN, fun _ _ => ⟨rfl, rfl⟩, fun i hi => hTn i (by omega), h1N, htN⟩⟩
