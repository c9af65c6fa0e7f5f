section zz47zp_join
/-! pieces: the shortest join, by its search -/
def lt3 (A B : Nat → Int) : Nat → Nat → Int
  | 0, _ => 0
  | k + 1, i => if A i = B i then lt3 A B k (i + 1) else if A i < B i then 1 else 0
theorem lt3_cg {A B A2 B2 : Nat → Int} : ∀ (k i : Nat), (∀ j : Nat, j < i + k → A j = A2 j ∧ B j = B2 j) → lt3 A B k i = lt3 A2 B2 k i
  | 0, _, _ => rfl
  | k + 1, i, h => by
    show (if A i = B i then lt3 A B k (i + 1) else if A i < B i then 1 else 0) = (if A2 i = B2 i then lt3 A2 B2 k (i + 1) else if A2 i < B2 i then 1 else 0)
    rw [lt3_cg k (i + 1) (fun j hj => h j (by omega)), (h i (by omega)).1, (h i (by omega)).2]
def ovF (A : Nat → Int) (len : Nat) (y : Nat → Int) : Nat → Nat
  | 0 => 0
  | sh + 1 => if (∀ i : Nat, i < sh + 1 → A (len - (sh + 1) + i) = y i) then sh + 1 else ovF A len y sh
theorem ovF_le {A : Nat → Int} {len : Nat} {y : Nat → Int} : ∀ sh : Nat, ovF A len y sh ≤ sh
  | 0 => Nat.le_refl 0
  | sh + 1 => by
    have a := ovF_le (A := A) (len := len) (y := y) sh
    show (if (∀ i : Nat, i < sh + 1 → A (len - (sh + 1) + i) = y i) then sh + 1 else ovF A len y sh) ≤ sh + 1
    split <;> omega
theorem ovF_cg {A A2 : Nat → Int} {len : Nat} {y y2 : Nat → Int} (hA : ∀ j : Nat, j < len → A j = A2 j) : ∀ sh : Nat, sh ≤ len → (∀ i : Nat, i < sh → y i = y2 i) → ovF A len y sh = ovF A2 len y2 sh
  | 0, _, _ => rfl
  | sh + 1, h, hy => by
    have ih := ovF_cg (y := y) (y2 := y2) hA sh (by omega) (fun i hi => hy i (by omega))
    show (if (∀ i : Nat, i < sh + 1 → A (len - (sh + 1) + i) = y i) then sh + 1 else ovF A len y sh) = (if (∀ i : Nat, i < sh + 1 → A2 (len - (sh + 1) + i) = y2 i) then sh + 1 else ovF A2 len y2 sh)
    rw [ih]
    by_cases c : ∀ i : Nat, i < sh + 1 → A (len - (sh + 1) + i) = y i
    · rw [if_pos c, if_pos (fun i hi => by rw [← hA _ (by omega), ← hy i hi]; exact c i hi)]
    · rw [if_neg c, if_neg (fun x => c (fun i hi => by rw [hA _ (by omega), hy i hi]; exact x i hi))]
/-- a row of len with a piece y of n laid over its end -/
def nlF (A : Nat → Int) (len n : Nat) (y : Nat → Int) : Nat := len - ovF A len y (min len n) + n
def laF (A : Nat → Int) (len n : Nat) (y : Nat → Int) : Nat → Int := fun j => if j < len then A j else y (j - len + ovF A len y (min len n))
theorem nlF_b (A : Nat → Int) (len n : Nat) (y : Nat → Int) : len ≤ nlF A len n y ∧ nlF A len n y ≤ len + n := by
  have a := ovF_le (A := A) (len := len) (y := y) (min len n)
  unfold nlF
  omega
def btF (b : Nat × (Nat → Int)) (len : Nat) (A : Nat → Int) : Nat × (Nat → Int) := if len < b.1 ∨ (len = b.1 ∧ lt3 A b.2 len 0 = 1) then (len, A) else b
def fo {α : Type} (step : Nat → α → α) : Nat → α → α
  | 0, b => b
  | p + 1, b => step p (fo step p b)
def ffS (R : Int → Nat → (Nat → Int) → Nat × (Nat → Int) → Nat × (Nat → Int)) (n : Nat → Nat) (y : Nat → Nat → Nat → Int) (u : Int) (len : Nat) (A : Nat → Int) (p : Nat) (b : Nat × (Nat → Int)) : Nat × (Nat → Int) :=
  if bt u (p : Int) = 1 then b else R (orI u (shlI 1 (p : Int))) (nlF A len (n p) (y p 1)) (laF A len (n p) (y p 1)) (R (orI u (shlI 1 (p : Int))) (nlF A len (n p) (y p 0)) (laF A len (n p) (y p 0)) b)
def ffN (P : Nat) (n : Nat → Nat) (y : Nat → Nat → Nat → Int) : Nat → Nat → Int → Nat → (Nat → Int) → Nat × (Nat → Int) → Nat × (Nat → Int)
  | 0 => fun _ _ _ _ b => b
  | k + 1 => fun d u len A b => if P ≤ d then btF b len A else fo (ffS (ffN P n y k (d + 1)) n y u len A) P b
theorem ff_pr {P : Nat} {n : Nat → Nat} {y : Nat → Nat → Nat → Int} : ∀ (k d : Nat) (u : Int) (len : Nat) (A : Nat → Int) (b : Nat × (Nat → Int)), b.1 < len → ffN P n y k d u len A b = b
  | 0, _, _, _, _, _, _ => rfl
  | k + 1, d, u, len, A, b, h => by
    show (if P ≤ d then btF b len A else fo (ffS (ffN P n y k (d + 1)) n y u len A) P b) = b
    split
    · unfold btF
      rw [if_neg (by omega)]
    · have g : ∀ p : Nat, fo (ffS (ffN P n y k (d + 1)) n y u len A) p b = b := fun p => by
        induction p with
        | zero => rfl
        | succ p ih =>
          show ffS (ffN P n y k (d + 1)) n y u len A p (fo (ffS (ffN P n y k (d + 1)) n y u len A) p b) = b
          rw [ih]
          unfold ffS
          split
          · rfl
          · have n0 := (nlF_b A len (n p) (y p 0)).1
            have n1 := (nlF_b A len (n p) (y p 1)).1
            rw [ff_pr k _ _ _ _ b (by omega), ff_pr k _ _ _ _ b (by omega)]
      exact g P
theorem ff_le {P : Nat} {n : Nat → Nat} {y : Nat → Nat → Nat → Int} : ∀ (k d : Nat) (u : Int) (len : Nat) (A : Nat → Int) (b : Nat × (Nat → Int)), (ffN P n y k d u len A b).1 ≤ b.1
  | 0, _, _, _, _, _ => Nat.le_refl _
  | k + 1, d, u, len, A, b => by
    show (if P ≤ d then btF b len A else fo (ffS (ffN P n y k (d + 1)) n y u len A) P b).1 ≤ b.1
    split
    · unfold btF
      split
      · show len ≤ b.1
        omega
      · exact Nat.le_refl _
    · have g : ∀ p : Nat, (fo (ffS (ffN P n y k (d + 1)) n y u len A) p b).1 ≤ b.1 := fun p => by
        induction p with
        | zero => exact Nat.le_refl _
        | succ p ih =>
          show (ffS (ffN P n y k (d + 1)) n y u len A p (fo (ffS (ffN P n y k (d + 1)) n y u len A) p b)).1 ≤ b.1
          unfold ffS
          split
          · exact ih
          · exact Nat.le_trans (ff_le k _ _ _ _ _) (Nat.le_trans (ff_le k _ _ _ _ _) ih)
      exact g P
/-- how many pieces are laid -/
def pcn (u : Nat) : Nat := (bt (u : Int) 0 + bt (u : Int) 1 + bt (u : Int) 2 + bt (u : Int) 3 + bt (u : Int) 4).toNat
theorem pcn_up : ∀ u : Nat, u < 32 → ∀ p : Nat, p < 5 → ¬ bt (u : Int) (p : Int) = 1 → ∃ v : Nat, v < 32 ∧ orI (u : Int) (shlI 1 (p : Int)) = (v : Int) ∧ pcn v = pcn u + 1 := by
  intro u hu p hp h
  refine ⟨(orI (u : Int) (shlI 1 (p : Int))).toNat, ?_⟩
  exact (by decide +kernel : ∀ u : Nat, u < 32 → ∀ p : Nat, p < 5 → ¬ bt (u : Int) (p : Int) = 1 → (orI (u : Int) (shlI 1 (p : Int))).toNat < 32 ∧ orI (u : Int) (shlI 1 (p : Int)) = (((orI (u : Int) (shlI 1 (p : Int))).toNat : Nat) : Int) ∧ pcn (orI (u : Int) (shlI 1 (p : Int))).toNat = pcn u + 1) u hu p hp h
theorem pcn_ex : ∀ u : Nat, u < 32 → ∀ P : Nat, P ≤ 5 → pcn u < P → ∃ p : Nat, p < P ∧ ¬ bt (u : Int) (p : Int) = 1 := by
  intro u hu P hP h
  have g := (by decide +kernel : ∀ u : Nat, u < 32 → ∀ P : Nat, P < 6 → pcn u < P → ¬ ∀ p : Nat, p < P → bt (u : Int) (p : Int) = 1) u hu P (by omega) h
  exact Decidable.byContradiction (fun x => g (fun p hp => Decidable.byContradiction (fun y => x ⟨p, hp, y⟩)))
theorem ff_40 {P : Nat} {n : Nat → Nat} {y : Nat → Nat → Nat → Int} (hP : P ≤ 5) (hn : ∀ p : Nat, p < P → n p ≤ 8) : ∀ (k d u len : Nat) (A : Nat → Int) (b : Nat × (Nat → Int)), u < 32 → pcn u = d → d ≤ P → P < k + d → len ≤ 8 * d → (ffN P n y k d (u : Int) len A b).1 ≤ 40
  | 0, d, _, _, _, _, _, _, h1, h2, _ => absurd h2 (by omega)
  | k + 1, d, u, len, A, b, hu, hd, h1, h2, h3 => by
    show (if P ≤ d then btF b len A else fo (ffS (ffN P n y k (d + 1)) n y (u : Int) len A) P b).1 ≤ 40
    by_cases c : P ≤ d
    · rw [if_pos c]
      unfold btF
      split
      · show len ≤ 40
        omega
      · rename_i h
        omega
    · rw [if_neg c]
      obtain ⟨p, p1, p2⟩ := pcn_ex u hu P hP (by omega)
      obtain ⟨v, v1, v2, v3⟩ := pcn_up u hu p (by omega) p2
      have n1 := nlF_b A len (n p) (y p 1)
      have np := hn p p1
      have at_p : (fo (ffS (ffN P n y k (d + 1)) n y (u : Int) len A) (p + 1) b).1 ≤ 40 := by
        show (ffS (ffN P n y k (d + 1)) n y (u : Int) len A p (fo (ffS (ffN P n y k (d + 1)) n y (u : Int) len A) p b)).1 ≤ 40
        unfold ffS
        rw [if_neg p2, v2]
        exact ff_40 hP hn k (d + 1) v _ _ _ v1 (by omega) (by omega) (by omega) (by omega)
      have mono : ∀ q : Nat, p + 1 ≤ q → (fo (ffS (ffN P n y k (d + 1)) n y (u : Int) len A) q b).1 ≤ 40 := fun q => by
        induction q with
        | zero => intro hq; exact absurd hq (by omega)
        | succ q ih =>
          intro hq
          by_cases e : q = p
          · rw [e]
            exact at_p
          · have a := ih (by omega)
            show (ffS (ffN P n y k (d + 1)) n y (u : Int) len A q (fo (ffS (ffN P n y k (d + 1)) n y (u : Int) len A) q b)).1 ≤ 40
            unfold ffS
            split
            · exact a
            · exact Nat.le_trans (ff_le k _ _ _ _ _) (Nat.le_trans (ff_le k _ _ _ _ _) a)
      exact mono P (by omega)
/-- the best so far, as rows hold it -/
def bhP (b : Nat × (Nat → Int)) (l : Nat) (B : Nat → Int) : Prop := b.1 = l ∧ b.1 ≤ 41 ∧ (b.1 ≤ 40 → ∀ k : Nat, k < b.1 → b.2 k = B k)
end zz47zp_join
section zz47zq_cjoin
/-! pieces: the shortest join, the class's -/
def yC (M : zM) (p tu i : Nat) : Int := if tu = 0 then M (89 + p) i else M (89 + p) ((M 94 p).toNat - 1 - i)
theorem fC_psound {M : zM} {p tu i : Nat} {a0 a1 a2 : Int} (hB : BN wC M) (hp : p < 5) (ht : tu < 2) (h94 : 1 ≤ M 94 p ∧ M 94 p ≤ 8) (hi : (i : Int) < M 94 p) (e0 : a0 = (p : Int)) (e1 : a1 = (tu : Int)) (e2 : a2 = (i : Int)) {Q : Int → Prop} (hQ : Q (yC M p tu i)) : wC_Pieces_sound a0 a1 a2 M Q := by
  unfold wC_Pieces_sound
  unfold yC at hQ
  have r1 := BN.r32 hB (89 + p) i
  have r2 := BN.r32 hB (89 + p) ((M 94 p).toNat - 1 - i)
  rw [e0, e1, e2, sIo (z := (p : Int)) (by omega) (by omega), sIo (z := (tu : Int)) (by omega) (by omega), sIo (z := (i : Int)) (by omega) (by omega), show ((p : Int)).toNat = p by omega, show ((i : Int)).toNat = i by omega, Nat.one_mul, sIo (z := M 94 p - 1 - (i : Int)) (by omega) (by omega), show (M 94 p - 1 - (i : Int)).toNat = (M 94 p).toNat - 1 - i by omega, sIo r1.1 r1.2, sIo r2.1 r2.2]
  refine ⟨by omega, fun c => ⟨by omega, ?_⟩, fun c => ⟨by omega, by omega, ?_⟩⟩
  · rw [if_pos (by omega)] at hQ
    exact hQ
  · rw [if_neg (by omega)] at hQ
    exact hQ
theorem fC_palike {M : zM} {p tu len sh : Nat} {a0 a1 a2 a3 : Int} (hB : BN wC M) (hp : p < 5) (ht : tu < 2) (h94 : 1 ≤ M 94 p ∧ M 94 p ≤ 8) (hl : len ≤ 40) (hs : sh ≤ len ∧ (sh : Int) ≤ M 94 p) (e0 : a0 = (p : Int)) (e1 : a1 = (tu : Int)) (e2 : a2 = (len : Int)) (e3 : a3 = (sh : Int)) {Q : Int → Prop} (hQ : Q (if (∀ i : Nat, i < sh → M 95 (len - sh + i) = yC M p tu i) then 1 else 0)) : wC_Pieces_alike a0 a1 a2 a3 M Q := by
  unfold wC_Pieces_alike
  rw [e2, e3, sIo (z := (sh : Int)) (by omega) (by omega)]
  refine pL1_of (fun x => ∃ i : Nat, x = (i : Int) ∧ i ≤ sh ∧ ∀ j : Nat, j < i → M 95 (len - sh + j) = yC M p tu j) (fun x => (1000 - x).toNat) ⟨0, rfl, by omega, fun j hj => absurd hj (Nat.not_lt_zero j)⟩ (fun K x h k => ?_)
  obtain ⟨i, rfl, hi, hv⟩ := h
  rw [sIo (z := (i : Int)) (by omega) (by omega)]
  refine ⟨fun c => ?_, fun c => ?_⟩
  · rw [if_pos (fun j hj => hv j (by omega))] at hQ
    exact hQ
  · have r := BN.r32 hB 95 (len - sh + i)
    rw [sIo (z := (len : Int) - (sh : Int) + (i : Int)) (by omega) (by omega), show ((len : Int) - (sh : Int) + (i : Int)).toNat = len - sh + i by omega, sIo r.1 r.2]
    refine ⟨by omega, ?_⟩
    refine fC_psound (p := p) (tu := tu) (i := i) hB hp ht h94 (by omega) e0 e1 rfl ?_
    refine ⟨fun c2 => k _ ⟨i + 1, by omega, by omega, fun j hj => ?_⟩ (by omega), fun c2 => ?_⟩
    · by_cases c5 : j = i
      · rw [c5]
        exact c2
      · exact hv j (by omega)
    · rw [if_neg (fun x => c2 (x i (by omega)))] at hQ
      exact hQ
set_option maxHeartbeats 2000000 in
theorem fC_layPiece {M : zM} {p tu len n : Nat} {A : Nat → Int} {a0 a1 a2 : Int} (hB : BN wC M) (hp : p < 5) (ht : tu < 2) (h94 : M 94 p = (n : Int)) (hn : 1 ≤ n ∧ n ≤ 8) (hl : len + n ≤ 40) (e0 : a0 = (p : Int)) (e1 : a1 = (tu : Int)) (e2 : a2 = (len : Int)) (hA : ∀ j : Nat, j < len → M 95 j = A j) {Q : Int → zM → Prop} (hQ : ∀ M1 : zM, BN wC M1 ∧ (∀ j9 : Nat, j9 ≠ 95 → M1 j9 = M j9) ∧ (∀ j : Nat, j < len → M1 95 j = M 95 j) ∧ (∀ j : Nat, j < nlF A len n (yC M p tu) → M1 95 j = laF A len n (yC M p tu) j) → Q ((nlF A len n (yC M p tu) : Nat) : Int) M1) : wC_Pieces_layPiece a0 a1 a2 M Q := by
  unfold wC_Pieces_layPiece
  rw [e0, e2, sIo (z := (p : Int)) (by omega) (by omega), show ((p : Int)).toNat = p by omega, h94, sIo (z := (len : Int)) (by omega) (by omega), sIo (z := (n : Int)) (by omega) (by omega)]
  refine ⟨by omega, ?_⟩
  have h94' : 1 ≤ M 94 p ∧ M 94 p ≤ 8 := by omega
  have ole := ovF_le (A := A) (len := len) (y := yC M p tu) (min len n)
  obtain ⟨o, ho⟩ : ∃ o : Nat, ovF A len (yC M p tu) (min len n) = o := ⟨_, rfl⟩
  unfold nlF laF at hQ
  rw [ho] at hQ ole
  refine pL1_of (fun x => ∃ sh : Nat, x = (sh : Int) ∧ sh ≤ min len n ∧ ovF A len (yC M p tu) sh = o) (fun x => x.toNat) ⟨min len n, by omega, by omega, ho⟩ (fun K x h k => ?_)
  obtain ⟨sh, rfl, hs, hov⟩ := h
  rw [sIo (z := (sh : Int)) (by omega) (by omega)]
  refine pJ0_of (o = sh) (fun hj => ?_) ⟨fun c => ?_, fun c => ?_⟩
  · refine wL1_of (fun x M2 => BN wC M2 ∧ (∀ j9 : Nat, j9 ≠ 95 → M2 j9 = M j9) ∧ ∃ i : Nat, x = (i : Int) ∧ sh ≤ i ∧ i ≤ n ∧ (∀ j : Nat, j < len → M2 95 j = M 95 j) ∧ ∀ j : Nat, len ≤ j → j < len - sh + i → M2 95 j = yC M p tu (j - len + sh)) (fun x _ => (1000 - x).toNat) ⟨hB, fun _ _ => rfl, sh, rfl, by omega, by omega, fun _ _ => rfl, fun j h1 h2 => by omega⟩ (fun K2 x M2 h2 k2 => ?_)
    obtain ⟨b2, f2, i, rfl, i1, i2, hv, hw⟩ := h2
    rw [f2 94 (by omega), h94, sIo (z := (n : Int)) (by omega) (by omega), sIo (z := (i : Int)) (by omega) (by omega)]
    refine ⟨by omega, fun c => ⟨by omega, ?_⟩, fun c => ?_⟩
    · rw [sIo (z := (len : Int) - (sh : Int) + (n : Int)) (by omega) (by omega), show (len : Int) - (sh : Int) + (n : Int) = ((len - o + n : Nat) : Int) by omega]
      refine hQ M2 ⟨b2, f2, hv, fun j hj2 => ?_⟩
      by_cases c5 : j < len
      · rw [if_pos c5, hv j c5, hA j c5]
      · rw [if_neg c5, hw j (by omega) (by omega), hj]
    · have yc : ∀ i : Nat, yC M2 p tu i = yC M p tu i := fun i => by
        unfold yC
        rw [f2 94 (by omega), f2 (89 + p) (by omega)]
      refine fC_psound (p := p) (tu := tu) (i := i) b2 hp ht (by rw [f2 94 (by omega)]; exact h94') (by rw [f2 94 (by omega)]; omega) rfl e1 rfl ?_
      rw [yc, sIo (z := (len : Int) - (sh : Int) + (i : Int)) (by omega) (by omega), show ((len : Int) - (sh : Int) + (i : Int)).toNat = len - sh + i by omega]
      have ry : -2147483648 ≤ yC M p tu i ∧ yC M p tu i ≤ 2147483647 := by
        unfold yC
        split
        · exact BN.r32 hB _ _
        · exact BN.r32 hB _ _
      refine ⟨by omega, fun M5 e5 => ?_⟩
      refine k2 _ _ ⟨by rw [e5]; exact BN.up b2 (rfl : zcd wC 95 = 43) rfl ry.1 ry.2, fun j9 h9 => by rw [e5, zup_row _ _ h9]; exact f2 j9 h9, i + 1, by omega, by omega, by omega, fun j hj => by rw [e5, zup_n _ _ (by omega)]; exact hv j hj, fun j h1 h2 => ?_⟩ (by omega)
      rw [e5]
      by_cases c5 : j = len - sh + i
      · rw [c5, zup_s]
        congr 1
        omega
      · rw [zup_n _ _ (by omega)]
        exact hw j h1 (by omega)
  · have s0 : sh = 0 := by omega
    subst s0
    exact hov.symm
  · obtain ⟨s2, rfl⟩ : ∃ s2 : Nat, sh = s2 + 1 := ⟨sh - 1, by omega⟩
    have eu : ovF A len (yC M p tu) (s2 + 1) = if (∀ i : Nat, i < s2 + 1 → A (len - (s2 + 1) + i) = yC M p tu i) then s2 + 1 else ovF A len (yC M p tu) s2 := rfl
    refine fC_palike (p := p) (tu := tu) (len := len) (sh := s2 + 1) hB hp ht h94' (by omega) ⟨by omega, by omega⟩ rfl e1 rfl rfl ?_
    by_cases d : ∀ i : Nat, i < s2 + 1 → A (len - (s2 + 1) + i) = yC M p tu i
    · rw [if_pos (fun i hi => by rw [hA _ (by omega)]; exact d i hi)]
      rw [if_pos d] at eu
      exact ⟨fun _ => by rw [← hov, eu], fun x => absurd x (by decide)⟩
    · rw [if_neg (fun x => d (fun i hi => by rw [← hA _ (by omega)]; exact x i hi))]
      rw [if_neg d] at eu
      exact ⟨fun x => absurd rfl x, fun _ => k _ ⟨s2, by omega, by omega, by rw [← eu]; exact hov⟩ (by omega)⟩
theorem fC_laidIsLess {M : zM} {len : Nat} {a0 : Int} (hB : BN wC M) (hl : len ≤ 40) (e0 : a0 = (len : Int)) {Q : Int → Prop} (hQ : Q (lt3 (M 95) (M 87) len 0)) : wC_Pieces_laidIsLess a0 M Q := by
  unfold wC_Pieces_laidIsLess
  rw [e0, sIo (z := (len : Int)) (by omega) (by omega)]
  refine pL1_of (fun x => ∃ i : Nat, x = (i : Int) ∧ i ≤ len ∧ lt3 (M 95) (M 87) (len - i) i = lt3 (M 95) (M 87) len 0) (fun x => (1000 - x).toNat) ⟨0, rfl, by omega, rfl⟩ (fun K x h k => ?_)
  obtain ⟨i, rfl, hi, he⟩ := h
  have r1 := BN.r32 hB 95 i
  have r2 := BN.r32 hB 87 i
  rw [sIo (z := (i : Int)) (by omega) (by omega), show ((i : Int)).toNat = i by omega, sIo r1.1 r1.2, sIo r2.1 r2.2]
  refine ⟨fun c => ?_, fun c => ?_⟩
  · rw [show len - i = 0 by omega] at he
    rw [← he] at hQ
    exact hQ
  · have eu : lt3 (M 95) (M 87) (len - i) i = if M 95 i = M 87 i then lt3 (M 95) (M 87) (len - (i + 1)) (i + 1) else if M 95 i < M 87 i then 1 else 0 := by
      rw [show len - i = (len - (i + 1)) + 1 by omega]
      rfl
    rw [eu] at he
    refine ⟨by omega, by omega, fun c2 => k _ ⟨i + 1, by omega, by omega, by rw [if_pos c2] at he; exact he⟩ (by omega), fun c2 => ⟨by omega, by omega, fun c3 => ?_, fun c3 => ?_⟩⟩
    · rw [if_neg c2, if_neg (by omega)] at he
      rw [← he] at hQ
      exact hQ
    · rw [if_neg c2, if_pos c3] at he
      rw [← he] at hQ
      exact hQ
def fr95 (M M1 : zM) : Prop := BN wC M1 ∧ (∀ j9 : Nat, ¬ (j9 = 86 ∨ j9 = 87 ∨ j9 = 95) → M1 j9 = M j9) ∧ ∀ q : Nat, q ≠ 2 → M1 86 q = M 86 q
theorem fC_keepBetter {M : zM} {len : Nat} {A : Nat → Int} {b : Nat × (Nat → Int)} {a0 : Int} (hB : BN wC M) (hl : len ≤ 40) (e0 : a0 = (len : Int)) (hA : ∀ j : Nat, j < len → M 95 j = A j) (hb : bhP b (M 86 2).toNat (M 87)) {Q : zM → Prop} (hQ : ∀ M1 : zM, fr95 M M1 ∧ M1 95 = M 95 ∧ bhP (btF b len A) (M1 86 2).toNat (M1 87) → Q M1) : wC_Pieces_keepBetter a0 M Q := by
  unfold wC_Pieces_keepBetter
  have b86 : 0 ≤ M 86 2 ∧ M 86 2 ≤ 41 := BN.at hB (rfl : zcd wC 86 = 38) rfl
  obtain ⟨h1, h2, h3⟩ := hb
  have same : ¬ (len < b.1 ∨ (len = b.1 ∧ lt3 A b.2 len 0 = 1)) → Q M := fun h => by
    refine hQ M ⟨⟨hB, fun _ _ => rfl, fun _ _ => rfl⟩, rfl, ?_⟩
    unfold btF
    rw [if_neg h]
    exact ⟨h1, h2, h3⟩
  rw [e0, sIo (z := (len : Int)) (by omega) (by omega), sIo (z := M 86 2) (by omega) (by omega)]
  refine pJ0_of (len < b.1 ∨ (len = b.1 ∧ lt3 A b.2 len 0 = 1)) (fun hj M10 e10 => ⟨by omega, by omega, by omega, fun M15 e15 => ?_⟩) ⟨fun c => Or.inl (by omega), fun c => ⟨fun c2 => same (by omega), fun c2 => ?_⟩⟩
  · have b10 : BN wC M10 := by rw [e10]; exact BN.up hB (rfl : zcd wC 86 = 38) (rfl : cbt 38 2 = (0, 41)) (by omega) (by omega)
    have e87 : ∀ k : Nat, k < len → M15 87 k = M 95 k := fun k hk => by
      rw [e15]
      unfold zcp
      rw [if_pos ⟨rfl, by omega, by omega⟩, e10, zup_n _ _ (by omega)]
      congr 1
      omega
    have r86 : M15 86 2 = (len : Int) := by rw [e15, zcp_row (by omega), e10, zup_s]
    refine hQ M15 ⟨⟨?_, fun j9 h9 => ?_, fun q hq => ?_⟩, ?_, ?_⟩
    · rw [e15]
      exact BN.cp b10 (rfl : zcd wC 87 = 39) (fun _ => rfl) (fun k => BN.r32 b10 95 k)
    · rw [e15, zcp_row (by omega), e10, zup_row _ _ (by omega)]
    · rw [e15, zcp_row (by omega), e10, zup_n _ _ (by omega)]
    · rw [e15, zcp_row (by omega), e10, zup_row _ _ (by omega)]
    · unfold btF
      rw [if_pos hj, r86]
      refine ⟨by show len = ((len : Int)).toNat; omega, by show len ≤ 41; omega, fun _ k hk => ?_⟩
      have hk : k < len := hk
      show A k = M15 87 k
      rw [e87 k hk, hA k hk]
  · refine fC_laidIsLess (len := len) hB hl rfl ?_
    have el : lt3 (M 95) (M 87) len 0 = lt3 A b.2 len 0 := lt3_cg len 0 (fun j hj => ⟨hA j (by omega), (h3 (by omega) j (by omega)).symm⟩)
    rw [el]
    refine ⟨fun c3 => same (fun x => ?_), fun c3 => Or.inr ⟨by omega, ?_⟩⟩
    · rcases x with x | x
      · omega
      · omega
    · have t : ∀ (k i : Nat) (A B : Nat → Int), lt3 A B k i = 0 ∨ lt3 A B k i = 1 := fun k => by
        induction k with
        | zero => intro i A B; exact Or.inl rfl
        | succ k ih =>
          intro i A B
          show (if A i = B i then lt3 A B k (i + 1) else if A i < B i then 1 else 0) = 0 ∨ (if A i = B i then lt3 A B k (i + 1) else if A i < B i then 1 else 0) = 1
          split
          · exact ih _ _ _
          · split
            · exact Or.inr rfl
            · exact Or.inl rfl
      have t := t len 0 A b.2
      omega
set_option maxHeartbeats 4000000 in
theorem fC_layRest {P : Nat} {n : Nat → Nat} {y : Nat → Nat → Nat → Int} (hP : P ≤ 5) (hn : ∀ p : Nat, p < P → 1 ≤ n p ∧ n p ≤ 8) : ∀ (f : Nat) {M : zM} {d len : Nat} {u a1 a3 : Int} {A : Nat → Int} {b : Nat × (Nat → Int)} (hB : BN wC M) (h86 : M 86 0 = (P : Int)) (h94 : ∀ p : Nat, p < P → M 94 p = ((n p : Nat) : Int) ∧ ∀ tu i : Nat, tu < 2 → i < n p → yC M p tu i = y p tu i) (hd : d ≤ P) (hf : P < f + d) (hl : len ≤ 8 * d) (e1 : a1 = (d : Int)) (e3 : a3 = (len : Int)) (hA : ∀ j : Nat, j < len → M 95 j = A j) (hb : bhP b (M 86 2).toNat (M 87)) {Q : zM → Prop} (hQ : ∀ M1 : zM, fr95 M M1 ∧ (∀ j : Nat, j < len → M1 95 j = M 95 j) ∧ bhP (ffN P n y f d u len A b) (M1 86 2).toNat (M1 87) → Q M1), wC_Pieces_layRest f a1 u a3 M Q
  | 0, _, _, _, _, _, _, _, _, _, _, _, _, hf, _, _, _, _, _, _, _ => absurd hf (by omega)
  | f + 1, M, d, len, u, a1, a3, A, b, hB, h86, h94, hd, hf, hl, e1, e3, hA, hb, Q, hQ => by
    show wC_Pieces_layRest_F (wC_Pieces_layRest f) a1 u a3 M Q
    unfold wC_Pieces_layRest_F
    have b86 : 0 ≤ M 86 2 ∧ M 86 2 ≤ 41 := BN.at hB (rfl : zcd wC 86 = 38) rfl
    have hb1 := hb.1
    rw [e1, e3, sIo (z := (d : Int)) (by omega) (by omega), sIo (z := (len : Int)) (by omega) (by omega), sIo (z := M 86 2) (by omega) (by omega), h86, sIo (z := (P : Int)) (by omega) (by omega)]
    refine ⟨fun c => ⟨fun c2 => ?_, fun c2 => ⟨fun c3 => ?_, fun c3 => absurd c3 (by omega)⟩⟩, fun c => ?_⟩
    · refine fC_keepBetter (A := A) (b := b) hB (by omega) rfl hA hb (fun M1 h1 => ?_)
      obtain ⟨g1, g2, g3⟩ := h1
      have e : ffN P n y (f + 1) d u len A b = btF b len A := if_pos (by omega)
      exact hQ M1 ⟨g1, fun j _ => by rw [g2], by rw [e]; exact g3⟩
    · have e : ffN P n y (f + 1) d u len A b = fo (ffS (ffN P n y f (d + 1)) n y u len A) P b := if_neg (by omega)
      rw [e] at hQ
      refine wL1_of (fun x M2 => fr95 M M2 ∧ (∀ j : Nat, j < len → M2 95 j = M 95 j) ∧ ∃ p : Nat, x = (p : Int) ∧ p ≤ P ∧ bhP (fo (ffS (ffN P n y f (d + 1)) n y u len A) p b) (M2 86 2).toNat (M2 87)) (fun x _ => (1000 - x).toNat) ⟨⟨hB, fun _ _ => rfl, fun _ _ => rfl⟩, fun _ _ => rfl, 0, rfl, by omega, hb⟩ (fun K x M2 h2 k => ?_)
      obtain ⟨⟨b2, f2, q2⟩, a2, p, rfl, hp, hbp⟩ := h2
      have r2 : M2 86 0 = (P : Int) := (q2 0 (by omega)).trans h86
      rw [r2, sIo (z := (P : Int)) (by omega) (by omega), sIo (z := (p : Int)) (by omega) (by omega)]
      refine ⟨fun c4 => hQ M2 ⟨⟨b2, f2, q2⟩, a2, by rw [show P = p by omega]; rw [show P = p by omega] at hbp; exact hbp⟩, fun c4 => ?_⟩
      have es : fo (ffS (ffN P n y f (d + 1)) n y u len A) (p + 1) b = ffS (ffN P n y f (d + 1)) n y u len A p (fo (ffS (ffN P n y f (d + 1)) n y u len A) p b) := rfl
      have b01 := bt_b u (p : Int)
      obtain ⟨n1, n2⟩ := hn p (by omega)
      obtain ⟨m1, m2⟩ := h94 p (by omega)
      refine ⟨fun c5 => k _ _ ⟨⟨b2, f2, q2⟩, a2, p + 1, by omega, by omega, ?_⟩ (by omega), fun c5 => ?_⟩
      · have c5 : bt u (p : Int) ≠ 0 := c5
        rw [es]
        unfold ffS
        rw [if_pos (by omega)]
        exact hbp
      · have c5 : bt u (p : Int) = 0 := c5
        have n0b := nlF_b A len (n p) (y p 0)
        have n1b := nlF_b A len (n p) (y p 1)
        have ycg : ∀ (M3 : zM), (∀ j9 : Nat, ¬ (j9 = 86 ∨ j9 = 87 ∨ j9 = 95) → M3 j9 = M j9) → ∀ q : Nat, q < P → M3 94 q = ((n q : Nat) : Int) ∧ ∀ tu i : Nat, tu < 2 → i < n q → yC M3 q tu i = y q tu i := fun M3 f3 q hq => by
          obtain ⟨x1, x2⟩ := h94 q hq
          refine ⟨by rw [f3 94 (by omega)]; exact x1, fun tu i ht hi => ?_⟩
          rw [← x2 tu i ht hi]
          unfold yC
          rw [f3 94 (by omega), f3 (89 + q) (by omega)]
        have ovc : ∀ (M3 : zM), (∀ j9 : Nat, ¬ (j9 = 86 ∨ j9 = 87 ∨ j9 = 95) → M3 j9 = M j9) → ∀ tu : Nat, tu < 2 → ovF A len (yC M3 p tu) (min len (n p)) = ovF A len (y p tu) (min len (n p)) := fun M3 f3 tu ht => ovF_cg (fun _ _ => rfl) _ (by omega) (fun i hi => (ycg M3 f3 p (by omega)).2 tu i ht (by omega))
        refine fC_layPiece (p := p) (tu := 0) (len := len) (n := n p) (A := A) b2 (by omega) (by omega) (ycg M2 f2 p (by omega)).1 ⟨n1, n2⟩ (by omega) rfl rfl rfl (fun j hj => by rw [a2 j hj]; exact hA j hj) (fun M4 h4 => ?_)
        obtain ⟨b4, f4, a4, l4⟩ := h4
        have F4 : ∀ j9 : Nat, ¬ (j9 = 86 ∨ j9 = 87 ∨ j9 = 95) → M4 j9 = M j9 := fun j9 h9 => (f4 j9 (by omega)).trans (f2 j9 h9)
        have en : nlF A len (n p) (yC M2 p 0) = nlF A len (n p) (y p 0) := by unfold nlF; rw [ovc M2 f2 0 (by omega)]
        have el : ∀ j : Nat, j < nlF A len (n p) (y p 0) → laF A len (n p) (yC M2 p 0) j = laF A len (n p) (y p 0) j := fun j hj => by
          unfold laF
          rw [ovc M2 f2 0 (by omega)]
          split
          · rfl
          · unfold nlF at hj
            rename_i c9
            have ole := ovF_le (A := A) (len := len) (y := y p 0) (min len (n p))
            exact (ycg M2 f2 p (by omega)).2 0 _ (by omega) (by omega)
        rw [en] at l4 ⊢
        refine fC_layRest hP hn f (d := d + 1) (len := nlF A len (n p) (y p 0)) (A := laF A len (n p) (y p 0)) (b := fo (ffS (ffN P n y f (d + 1)) n y u len A) p b) b4 (by rw [f4 86 (by omega)]; exact r2) (ycg M4 F4) (by omega) (by omega) (by omega) (by omega) rfl (fun j hj => by rw [l4 j hj]; exact el j hj) (by rw [f4 86 (by omega), f4 87 (by omega)]; exact hbp) (fun M5 h5 => ?_)
        obtain ⟨⟨b5, f5, q5⟩, a5, hb5⟩ := h5
        have F5 : ∀ j9 : Nat, ¬ (j9 = 86 ∨ j9 = 87 ∨ j9 = 95) → M5 j9 = M j9 := fun j9 h9 => (f5 j9 h9).trans (F4 j9 h9)
        have A5 : ∀ j : Nat, j < len → M5 95 j = M 95 j := fun j hj => by rw [a5 j (by omega), a4 j hj, a2 j hj]
        have r5 : M5 86 0 = (P : Int) := by rw [q5 0 (by omega), f4 86 (by omega)]; exact r2
        refine fC_layPiece (p := p) (tu := 1) (len := len) (n := n p) (A := A) b5 (by omega) (by omega) (ycg M5 F5 p (by omega)).1 ⟨n1, n2⟩ (by omega) rfl rfl rfl (fun j hj => by rw [A5 j hj]; exact hA j hj) (fun M6 h6 => ?_)
        obtain ⟨b6, f6, a6, l6⟩ := h6
        have F6 : ∀ j9 : Nat, ¬ (j9 = 86 ∨ j9 = 87 ∨ j9 = 95) → M6 j9 = M j9 := fun j9 h9 => (f6 j9 (by omega)).trans (F5 j9 h9)
        have en1 : nlF A len (n p) (yC M5 p 1) = nlF A len (n p) (y p 1) := by unfold nlF; rw [ovc M5 F5 1 (by omega)]
        have el1 : ∀ j : Nat, j < nlF A len (n p) (y p 1) → laF A len (n p) (yC M5 p 1) j = laF A len (n p) (y p 1) j := fun j hj => by
          unfold laF
          rw [ovc M5 F5 1 (by omega)]
          split
          · rfl
          · unfold nlF at hj
            rename_i c9
            have ole := ovF_le (A := A) (len := len) (y := y p 1) (min len (n p))
            exact (ycg M5 F5 p (by omega)).2 1 _ (by omega) (by omega)
        rw [en1] at l6 ⊢
        refine fC_layRest hP hn f (d := d + 1) (len := nlF A len (n p) (y p 1)) (A := laF A len (n p) (y p 1)) (b := ffN P n y f (d + 1) (orI u (shlI 1 (p : Int))) (nlF A len (n p) (y p 0)) (laF A len (n p) (y p 0)) (fo (ffS (ffN P n y f (d + 1)) n y u len A) p b)) b6 (by rw [f6 86 (by omega)]; exact r5) (ycg M6 F6) (by omega) (by omega) (by omega) (by omega) rfl (fun j hj => by rw [l6 j hj]; exact el1 j hj) (by rw [f6 86 (by omega), f6 87 (by omega)]; exact hb5) (fun M7 h7 => ?_)
        obtain ⟨⟨b7, f7, q7⟩, a7, hb7⟩ := h7
        refine k _ _ ⟨⟨b7, fun j9 h9 => (f7 j9 h9).trans (F6 j9 h9), fun q hq => by rw [q7 q hq, f6 86 (by omega), q5 q hq, f4 86 (by omega)]; exact q2 q hq⟩, fun j hj => by rw [a7 j (by omega), a6 j hj, A5 j hj], p + 1, by omega, by omega, ?_⟩ (by omega)
        rw [es]
        unfold ffS
        rw [if_neg (by omega)]
        exact hb7
    · rw [ff_pr (f + 1) d u len A b (by omega)] at hQ
      exact hQ M ⟨⟨hB, fun _ _ => rfl, fun _ _ => rfl⟩, fun _ _ => rfl, hb⟩
end zz47zq_cjoin
section zz47zr_rjoin
/-! pieces: the shortest join, the model's; both alike -/
def yR (M : zM) (p tu i : Nat) : Int := if tu = 0 then M 16 (8 * p + i) else M 16 (8 * p + ((M 17 p).toNat - 1 - i))
theorem fR_psound {M : zM} {p tu i : Nat} {a0 a1 a2 : Int} (hB : BI M) (hp : p < 5) (ht : tu < 2) (h17 : 1 ≤ M 17 p ∧ M 17 p ≤ 8) (hi : (i : Int) < M 17 p) (e0 : a0 = (p : Int)) (e1 : a1 = (tu : Int)) (e2 : a2 = (i : Int)) {Q : Int → Prop} (hQ : Q (yR M p tu i)) : wR_sound a0 a1 a2 M Q := by
  unfold wR_sound
  unfold yR at hQ
  have r1 := BN.r32 hB.1 16 (8 * p + i)
  have r2 := BN.r32 hB.1 16 (8 * p + ((M 17 p).toNat - 1 - i))
  rw [e0, e1, e2, sIo (z := (p : Int)) (by omega) (by omega), sIo (z := (tu : Int)) (by omega) (by omega), show ((p : Int)).toNat = p by omega, sIo (z := 8 * (p : Int) + (i : Int)) (by omega) (by omega), show (8 * (p : Int) + (i : Int)).toNat = 8 * p + i by omega, sIo (z := 8 * (p : Int) + (M 17 p - 1 - (i : Int))) (by omega) (by omega), show (8 * (p : Int) + (M 17 p - 1 - (i : Int))).toNat = 8 * p + ((M 17 p).toNat - 1 - i) by omega, sIo r1.1 r1.2, sIo r2.1 r2.2]
  refine ⟨fun c => ⟨by omega, ?_⟩, fun c => ⟨by omega, by omega, ?_⟩⟩
  · rw [if_pos (by omega)] at hQ
    exact hQ
  · rw [if_neg (by omega)] at hQ
    exact hQ
theorem fR_lies {M : zM} {d p tu len sh : Nat} {a0 a1 a2 a3 a4 : Int} (hB : BI M) (hd : d ≤ 5) (hp : p < 5) (ht : tu < 2) (h17 : 1 ≤ M 17 p ∧ M 17 p ≤ 8) (hl : len ≤ 40) (hs : sh ≤ len ∧ (sh : Int) ≤ M 17 p) (e0 : a0 = ((40 * d : Nat) : Int)) (e1 : a1 = (len : Int)) (e2 : a2 = (p : Int)) (e3 : a3 = (tu : Int)) (e4 : a4 = (sh : Int)) {Q : Int → Prop} (hQ : Q (if (∀ i : Nat, i < sh → M 31 (40 * d + (len - sh + i)) = yR M p tu i) then 1 else 0)) : wR_lies a0 a1 a2 a3 a4 M Q := by
  unfold wR_lies
  rw [e0, e1, e4, sIo (z := (sh : Int)) (by omega) (by omega)]
  refine pL1_of (fun x => ∃ i : Nat, x = (i : Int) ∧ i ≤ sh ∧ ∀ j : Nat, j < i → M 31 (40 * d + (len - sh + j)) = yR M p tu j) (fun x => (1000 - x).toNat) ⟨0, rfl, by omega, fun j hj => absurd hj (Nat.not_lt_zero j)⟩ (fun K x h k => ?_)
  obtain ⟨i, rfl, hi, hv⟩ := h
  rw [sIo (z := (i : Int)) (by omega) (by omega)]
  refine ⟨fun c => ?_, fun c => ?_⟩
  · rw [if_pos (fun j hj => hv j (by omega))] at hQ
    exact hQ
  · have r := BN.r32 hB.1 31 (40 * d + (len - sh + i))
    rw [sIo (z := ((40 * d : Nat) : Int) + (len : Int) - (sh : Int) + (i : Int)) (by omega) (by omega), show (((40 * d : Nat) : Int) + (len : Int) - (sh : Int) + (i : Int)).toNat = 40 * d + (len - sh + i) by omega, sIo r.1 r.2]
    refine ⟨by omega, ?_⟩
    refine fR_psound (p := p) (tu := tu) (i := i) hB hp ht h17 (by omega) e2 e3 rfl ?_
    refine ⟨fun c2 => k _ ⟨i + 1, by omega, by omega, fun j hj => ?_⟩ (by omega), fun c2 => ?_⟩
    · by_cases c5 : j = i
      · rw [c5]
        exact c2
      · exact hv j (by omega)
    · rw [if_neg (fun x => c2 (x i (by omega)))] at hQ
      exact hQ
def bhR (b : Nat × (Nat → Int)) (bs : Int) (B : Nat → Int) : Prop := (b.1 = 41 ∧ bs = -1) ∨ (b.1 ≤ 40 ∧ bs = (b.1 : Int) ∧ ∀ k : Nat, k < b.1 → b.2 k = B k)
def fr31 (M M1 : zM) : Prop := BI M1 ∧ ∀ j9 k9 : Nat, ¬ (j9 = 0 ∧ k9 = 48 ∨ j9 = 31 ∨ j9 = 32) → M1 j9 k9 = M j9 k9
set_option maxHeartbeats 4000000 in
theorem fR_joinFrom {P : Nat} {n : Nat → Nat} {y : Nat → Nat → Nat → Int} (hP : P ≤ 5) (hn : ∀ p : Nat, p < P → 1 ≤ n p ∧ n p ≤ 8) : ∀ (f : Nat) {M : zM} {d len : Nat} {u a0 a2 : Int} {A : Nat → Int} {b : Nat × (Nat → Int)} (hB : BI M) (h27 : M 0 27 = (P : Int)) (h17 : ∀ p : Nat, p < P → M 17 p = ((n p : Nat) : Int) ∧ ∀ tu i : Nat, tu < 2 → i < n p → yR M p tu i = y p tu i) (hd : d ≤ P) (hf : P < f + d) (hl : len ≤ 8 * d) (e0 : a0 = (d : Int)) (e2 : a2 = (len : Int)) (hA : ∀ j : Nat, j < len → M 31 (40 * d + j) = A j) (hb : bhR b (M 0 48) (M 32)) {Q : zM → Prop} (hQ : ∀ M1 : zM, fr31 M M1 ∧ (∀ j : Nat, j < 40 * d + 40 → M1 31 j = M 31 j) ∧ bhR (ffN P n y f d u len A b) (M1 0 48) (M1 32) → Q M1), wR_joinFrom f a0 u a2 M Q
  | 0, _, _, _, _, _, _, _, _, _, _, _, _, hf, _, _, _, _, _, _, _ => absurd hf (by omega)
  | f + 1, M, d, len, u, a0, a2, A, b, hB, h27, h17, hd, hf, hl, e0, e2, hA, hb, Q, hQ => by
    show wR_joinFrom_F (wR_joinFrom f) a0 u a2 M Q
    unfold wR_joinFrom_F
    have b48 : -1 ≤ M 0 48 ∧ M 0 48 ≤ 40 := BN.at hB.1 (rfl : zcd wR 0 = 50) rfl
    have bb : b.1 ≤ 41 := by rcases hb with h | h <;> omega
    rw [e0, e2, sIo (z := (d : Int)) (by omega) (by omega), sIo (z := (len : Int)) (by omega) (by omega), h27, sIo (z := (P : Int)) (by omega) (by omega), sIo (z := M 0 48) (by omega) (by omega)]
    refine ⟨fun c => ?_, fun c => ?_⟩
    · have e : ffN P n y (f + 1) d u len A b = fo (ffS (ffN P n y f (d + 1)) n y u len A) P b := if_neg (by omega)
      rw [e] at hQ
      refine wL1_of (fun x M2 => fr31 M M2 ∧ (∀ j : Nat, j < 40 * d + 40 → M2 31 j = M 31 j) ∧ ∃ p : Nat, x = (p : Int) ∧ p ≤ P ∧ bhR (fo (ffS (ffN P n y f (d + 1)) n y u len A) p b) (M2 0 48) (M2 32)) (fun x _ => (1000 - x).toNat) ⟨⟨hB, fun _ _ _ => rfl⟩, fun _ _ => rfl, 0, rfl, by omega, hb⟩ (fun K x M2 h2 k => ?_)
      obtain ⟨⟨b2, f2⟩, a2', p, rfl, hp, hbp⟩ := h2
      have r2 : M2 0 27 = (P : Int) := (f2 0 27 (by omega)).trans h27
      rw [r2, sIo (z := (P : Int)) (by omega) (by omega), sIo (z := (p : Int)) (by omega) (by omega), show ((p : Int)).toNat = p by omega]
      refine ⟨fun c4 => hQ M2 ⟨⟨b2, f2⟩, a2', by rw [show P = p by omega]; rw [show P = p by omega] at hbp; exact hbp⟩, fun c4 => ?_⟩
      have es : fo (ffS (ffN P n y f (d + 1)) n y u len A) (p + 1) b = ffS (ffN P n y f (d + 1)) n y u len A p (fo (ffS (ffN P n y f (d + 1)) n y u len A) p b) := rfl
      have b01 := bt_b u (p : Int)
      obtain ⟨n1, n2⟩ := hn p (by omega)
      have ycg : ∀ (M3 : zM), (∀ j9 k9 : Nat, ¬ (j9 = 0 ∧ k9 = 48 ∨ j9 = 31 ∨ j9 = 32) → M3 j9 k9 = M j9 k9) → ∀ q : Nat, q < P → M3 17 q = ((n q : Nat) : Int) ∧ ∀ tu i : Nat, tu < 2 → i < n q → yR M3 q tu i = y q tu i := fun M3 f3 q hq => by
        obtain ⟨x1, x2⟩ := h17 q hq
        refine ⟨by rw [f3 17 q (by omega)]; exact x1, fun tu i ht hi => ?_⟩
        rw [← x2 tu i ht hi]
        unfold yR
        rw [f3 17 q (by omega), f3 16 _ (by omega), f3 16 _ (by omega)]
      refine ⟨fun c5 => ?_, fun c5 => k _ _ ⟨⟨b2, f2⟩, a2', p + 1, by omega, by omega, ?_⟩ (by omega)⟩
      rotate_left
      · rw [es]
        unfold ffS
        rw [if_pos (show bt u (p : Int) = 1 from c5)]
        exact hbp
      · have c5 : ¬ bt u (p : Int) = 1 := c5
        -- the two turns
        refine wL1_of (fun x M3 => fr31 M M3 ∧ (∀ j : Nat, j < 40 * d + 40 → M3 31 j = M 31 j) ∧ ∃ tu : Nat, x = (tu : Int) ∧ tu ≤ 2 ∧ ∃ b3 : Nat × (Nat → Int), bhR b3 (M3 0 48) (M3 32) ∧ (tu = 0 → b3 = fo (ffS (ffN P n y f (d + 1)) n y u len A) p b) ∧ (tu = 1 → b3 = ffN P n y f (d + 1) (orI u (shlI 1 (p : Int))) (nlF A len (n p) (y p 0)) (laF A len (n p) (y p 0)) (fo (ffS (ffN P n y f (d + 1)) n y u len A) p b)) ∧ (tu = 2 → b3 = fo (ffS (ffN P n y f (d + 1)) n y u len A) (p + 1) b)) (fun x _ => (1000 - x).toNat) ⟨⟨b2, f2⟩, a2', 0, rfl, by omega, _, hbp, fun _ => rfl, fun h => absurd h (by omega), fun h => absurd h (by omega)⟩ (fun K3 x M3 h3 k3 => ?_)
        obtain ⟨⟨b3, f3⟩, a3, tu, rfl, htu, bs, hbs, s0, s1, s2⟩ := h3
        rw [sIo (z := (tu : Int)) (by omega) (by omega)]
        refine ⟨fun c6 => k _ _ ⟨⟨b3, f3⟩, a3, p + 1, by omega, by omega, by rw [← s2 (by omega)]; exact hbs⟩ (by omega), fun c6 => ?_⟩
        obtain ⟨m1, m2⟩ := ycg M3 f3 p (by omega)
        have h17' : 1 ≤ M3 17 p ∧ M3 17 p ≤ 8 := by omega
        have nb := nlF_b A len (n p) (y p tu)
        have ole := ovF_le (A := A) (len := len) (y := y p tu) (min len (n p))
        obtain ⟨o, ho⟩ : ∃ o : Nat, ovF A len (y p tu) (min len (n p)) = o := ⟨_, rfl⟩
        have enl : nlF A len (n p) (y p tu) = len - o + n p := by unfold nlF; rw [ho]
        have ela : laF A len (n p) (y p tu) = fun j => if j < len then A j else y p tu (j - len + o) := by unfold laF; rw [ho]
        rw [ho] at ole
        rw [m1, sIo (z := ((n p : Nat) : Int)) (by omega) (by omega)]
        refine ⟨by omega, fun t26 e26 => ?_⟩
        refine pL1_of (fun x => ∃ sh : Nat, x = (sh : Int) ∧ sh ≤ min len (n p) ∧ ovF A len (y p tu) sh = o) (fun x => x.toNat) ⟨min len (n p), by omega, by omega, ho⟩ (fun K4 x h4 k4 => ?_)
        obtain ⟨sh, rfl, hs, hov⟩ := h4
        refine pJ1_of (fun w => w = (tu : Int)) (fun w hw => ?_) ⟨fun c7 => by omega, fun c7 => by omega⟩
        have ov : ∀ s : Nat, s ≤ min len (n p) → ovF (fun j => M3 31 (40 * d + j)) len (yR M3 p tu) s = ovF A len (y p tu) s := fun s hs => ovF_cg (fun j hj => by rw [a3 _ (by omega)]; exact hA j hj) s (by omega) (fun i hi => m2 tu i (by omega) (by omega))
        refine fR_lies (d := d) (p := p) (tu := tu) (len := len) (sh := sh) b3 (by omega) (by omega) (by omega) h17' (by omega) ⟨by omega, by omega⟩ (by omega) rfl rfl hw rfl ?_
        have liesE : (∀ i : Nat, i < sh → M3 31 (40 * d + (len - sh + i)) = yR M3 p tu i) ↔ (∀ i : Nat, i < sh → A (len - sh + i) = y p tu i) := by
          constructor
          · intro h i hi
            rw [← hA _ (by omega), ← a3 _ (by omega), ← m2 tu i (by omega) (by omega)]
            exact h i hi
          · intro h i hi
            rw [a3 _ (by omega), hA _ (by omega), m2 tu i (by omega) (by omega)]
            exact h i hi
        have liesO : (∀ i : Nat, i < sh → A (len - sh + i) = y p tu i) → sh = o := fun h => by
          by_cases z : sh = 0
          · subst z
            exact hov
          · obtain ⟨s4, rfl⟩ : ∃ s4 : Nat, sh = s4 + 1 := ⟨sh - 1, by omega⟩
            have eu : ovF A len (y p tu) (s4 + 1) = if (∀ i : Nat, i < s4 + 1 → A (len - (s4 + 1) + i) = y p tu i) then s4 + 1 else ovF A len (y p tu) s4 := rfl
            rw [if_pos h] at eu
            omega
        have liesN : ¬ (∀ i : Nat, i < sh → A (len - sh + i) = y p tu i) → ∃ s4 : Nat, sh = s4 + 1 ∧ ovF A len (y p tu) s4 = o := fun h => by
          by_cases z : sh = 0
          · subst z
            exact absurd (fun i hi => absurd hi (Nat.not_lt_zero i)) h
          · obtain ⟨s4, rfl⟩ : ∃ s4 : Nat, sh = s4 + 1 := ⟨sh - 1, by omega⟩
            have eu : ovF A len (y p tu) (s4 + 1) = if (∀ i : Nat, i < s4 + 1 → A (len - (s4 + 1) + i) = y p tu i) then s4 + 1 else ovF A len (y p tu) s4 := rfl
            rw [if_neg h] at eu
            exact ⟨s4, rfl, by rw [← eu]; exact hov⟩
        refine ⟨fun c7 => ?_, fun c7 => ?_⟩
        rotate_left
        · obtain ⟨s4, rfl, h4⟩ := liesN (fun x => by rw [if_pos (liesE.mpr x)] at c7; exact absurd c7 (by decide))
          exact k4 _ ⟨s4, by omega, by omega, h4⟩ (by omega)
        · have lo : sh = o := liesO (Decidable.byContradiction (fun x => c7 (by rw [if_neg (fun z => x (liesE.mp z))])))
          refine wL1_of (fun x M4 => fr31 M M4 ∧ (∀ j : Nat, j < 40 * d + 40 → M4 31 j = M 31 j) ∧ (M4 0 48 = M3 0 48 ∧ M4 32 = M3 32) ∧ ∃ q : Nat, x = (q : Int) ∧ q ≤ len ∧ ∀ j : Nat, j < q → M4 31 (40 * d + 40 + j) = A j) (fun x _ => (1000 - x).toNat) ⟨⟨b3, f3⟩, a3, ⟨rfl, rfl⟩, 0, rfl, by omega, fun j hj => absurd hj (Nat.not_lt_zero j)⟩ (fun K5 x M4 h5 k5 => ?_)
          obtain ⟨⟨b4, f4⟩, a4, g4, q, rfl, hq, hv4⟩ := h5
          rw [sIo (z := (q : Int)) (by omega) (by omega), sIo (z := 40 * (d : Int) + (q : Int)) (by omega) (by omega), sIo (z := 40 * (d : Int) + 40 + (q : Int)) (by omega) (by omega), show (40 * (d : Int) + (q : Int)).toNat = 40 * d + q by omega, show (40 * (d : Int) + 40 + (q : Int)).toNat = 40 * d + 40 + q by omega]
          refine ⟨fun c8 => ?_, fun c8 => ⟨by omega, by omega, fun M5 e5 => ?_⟩⟩
          rotate_left
          · have r31 := BN.r32 b4.1 31 (40 * d + q)
            refine k5 _ _ ⟨⟨by rw [e5]; exact BI.up b4 (rfl : zcd wR 31 = 81) rfl r31.1 r31.2 (by decide), fun j9 k9 h9 => by rw [e5, zup_n _ _ (by omega)]; exact f4 j9 k9 h9⟩, fun j hj => by rw [e5, zup_n _ _ (by omega)]; exact a4 j hj, ⟨by rw [e5, zup_n _ _ (by omega)]; exact g4.1, by rw [e5, zup_row _ _ (by omega)]; exact g4.2⟩, q + 1, by omega, by omega, fun j hj => ?_⟩ (by omega)
            rw [e5]
            by_cases c9 : j = q
            · rw [c9, zup_s, a4 _ (by omega), hA q (by omega)]
            · rw [zup_n _ _ (by omega)]
              exact hv4 j (by omega)
          · refine wL1_of (fun x M5 => fr31 M M5 ∧ (∀ j : Nat, j < 40 * d + 40 → M5 31 j = M 31 j) ∧ (M5 0 48 = M3 0 48 ∧ M5 32 = M3 32) ∧ ∃ i : Nat, x = (i : Int) ∧ o ≤ i ∧ i ≤ n p ∧ ∀ j : Nat, j < len - o + i → M5 31 (40 * d + 40 + j) = if j < len then A j else y p tu (j - len + o)) (fun x _ => (1000 - x).toNat) ⟨⟨b4, f4⟩, a4, g4, o, by omega, by omega, by omega, fun j hj => by rw [if_pos (by omega)]; exact hv4 j (by omega)⟩ (fun K6 x M5 h6 k6 => ?_)
            obtain ⟨⟨b5, f5⟩, a5, g5, i, rfl, i1, i2, hv5⟩ := h6
            obtain ⟨m51, m52⟩ := ycg M5 f5 p (by omega)
            rw [m51, sIo (z := ((n p : Nat) : Int)) (by omega) (by omega), sIo (z := (i : Int)) (by omega) (by omega)]
            have put : ∀ v : Int, v = y p tu i → ∀ M7 : zM, (i : Int) < ((n p : Nat) : Int) → M7 = zup M5 31 (40 * d + 40 + (len - o + i)) v → -2147483648 ≤ v ∧ v ≤ 2147483647 → K6 ((i : Int) + 1) M7 := fun v hv M7 hi e7 rv => by
              refine k6 _ _ ⟨⟨by rw [e7]; exact BI.up b5 (rfl : zcd wR 31 = 81) rfl rv.1 rv.2 (by decide), fun j9 k9 h9 => by rw [e7, zup_n _ _ (by omega)]; exact f5 j9 k9 h9⟩, fun j hj => by rw [e7, zup_n _ _ (by omega)]; exact a5 j hj, ⟨by rw [e7, zup_n _ _ (by omega)]; exact g5.1, by rw [e7, zup_row _ _ (by omega)]; exact g5.2⟩, i + 1, by omega, by omega, by omega, fun j hj => ?_⟩ (by omega)
              rw [e7]
              by_cases c9 : j = len - o + i
              · rw [c9, zup_s, if_neg (by omega), hv]
                congr 1
                omega
              · rw [zup_n _ _ (by omega)]
                exact hv5 j (by omega)
            have idx : sI (40 * (d : Int) + 40 + (len : Int) + (i : Int) - (sh : Int)) = ((40 * d + 40 + (len - o + i) : Nat) : Int) := by rw [sIo (by omega) (by omega)]; omega
            have ryy : -2147483648 ≤ yR M5 p tu i ∧ yR M5 p tu i ≤ 2147483647 := by
              unfold yR
              split
              · exact BN.r32 b5.1 _ _
              · exact BN.r32 b5.1 _ _
            refine ⟨by omega, fun c9 => ⟨by omega, ?_⟩, fun c9 => ⟨fun c10 => ?_, fun c10 => ?_⟩⟩
            · rw [show (len : Int) + ((n p : Nat) : Int) - (sh : Int) = ((nlF A len (n p) (y p tu) : Nat) : Int) by omega]
              refine fR_joinFrom hP hn f (d := d + 1) (len := nlF A len (n p) (y p tu)) (A := laF A len (n p) (y p tu)) (b := bs) b5 ((f5 0 27 (by omega)).trans h27) (ycg M5 f5) (by omega) (by omega) (by omega) (by omega) rfl (fun j hj => ?_) (by rw [g5.1, g5.2]; exact hbs) (fun M8 h8 => ?_)
              · rw [ela, show 40 * (d + 1) + j = 40 * d + 40 + j by omega]
                exact hv5 j (by omega)
              · obtain ⟨⟨b8, f8⟩, a8, hb8⟩ := h8
                refine k3 _ _ ⟨⟨b8, fun j9 k9 h9 => (f8 j9 k9 h9).trans (f5 j9 k9 h9)⟩, fun j hj => (a8 j (by omega)).trans (a5 j hj), tu + 1, by omega, by omega, _, hb8, fun h => absurd h (by omega), fun h => ?_, fun h => ?_⟩ (by omega)
                · have t0 : tu = 0 := by omega
                  subst t0
                  rw [s0 rfl]
                · have t1 : tu = 1 := by omega
                  subst t1
                  rw [s1 rfl, es]
                  unfold ffS
                  rw [if_neg c5]
            · refine fR_psound (p := p) (tu := 0) (i := i) b5 (by omega) (by omega) (by omega) (by omega) rfl rfl rfl ?_
              have t0 : tu = 0 := by omega
              subst t0
              rw [idx, show (((40 * d + 40 + (len - o + i) : Nat) : Int)).toNat = 40 * d + 40 + (len - o + i) by omega]
              exact ⟨by omega, fun M7 e7 => put _ (m52 0 i (by omega) (by omega)) M7 (by omega) e7 ryy⟩
            · refine fR_psound (p := p) (tu := 1) (i := i) b5 (by omega) (by omega) (by omega) (by omega) rfl rfl rfl ?_
              have t1 : tu = 1 := by omega
              subst t1
              rw [idx, show (((40 * d + 40 + (len - o + i) : Nat) : Int)).toNat = 40 * d + 40 + (len - o + i) by omega]
              exact ⟨by omega, fun M7 e7 => put _ (m52 1 i (by omega) (by omega)) M7 (by omega) e7 ryy⟩
    · have e : ffN P n y (f + 1) d u len A b = btF b len A := if_pos (by omega)
      rw [e] at hQ
      have same : ¬ (len < b.1 ∨ (len = b.1 ∧ lt3 A b.2 len 0 = 1)) → Q M := fun h => by
        refine hQ M ⟨⟨hB, fun _ _ _ => rfl⟩, fun _ _ => rfl, ?_⟩
        unfold btF
        rw [if_neg h]
        exact hb
      have bl : b.1 ≤ 40 → M 0 48 = (b.1 : Int) ∧ ∀ k : Nat, k < b.1 → b.2 k = M 32 k := fun h => by
        rcases hb with x | x
        · omega
        · exact x.2
      have bn : b.1 = 41 → M 0 48 = -1 := fun h => by
        rcases hb with x | x
        · exact x.2
        · omega
      refine pJ1_of (fun w => (w = 1 ∧ len < b.1) ∨ (w = 0 ∧ ¬ len < b.1)) (fun w hw => ?_) ?_
      · refine pL2_of (fun x z => ∃ i : Nat, z = (i : Int) ∧ i ≤ len ∧ ((x = 1 ∧ (len < b.1 ∨ (len = b.1 ∧ lt3 A b.2 len 0 = 1))) ∨ (x = 0 ∧ ¬ len < b.1 ∧ (len = b.1 → lt3 A b.2 (len - i) i = lt3 A b.2 len 0) ∧ (len ≠ b.1 → i = 0)))) (fun _ z => (1000 - z).toNat) ⟨0, rfl, by omega, ?_⟩ (fun K x z h3 k3 => ?_)
        · rcases hw with ⟨w1, w2⟩ | ⟨w1, w2⟩
          · exact Or.inl ⟨w1, Or.inl w2⟩
          · exact Or.inr ⟨w1, w2, fun _ => rfl, fun _ => rfl⟩
        · obtain ⟨i, rfl, hi, hx⟩ := h3
          have sx : sI x = x := by rcases hx with h | h <;> rw [h.1] <;> decide
          rw [sx, sIo (z := (i : Int)) (by omega) (by omega), show ((i : Int)).toNat = i by omega]
          refine pJ0_of ((x = 1 ∧ (len < b.1 ∨ (len = b.1 ∧ lt3 A b.2 len 0 = 1))) ∨ (x = 0 ∧ ¬ (len < b.1 ∨ (len = b.1 ∧ lt3 A b.2 len 0 = 1)))) (fun hj => ⟨fun c2 M9 e9 => ?_, fun c2 => ?_⟩) ⟨fun c2 => ?_, fun c2 => ⟨fun c3 => ?_, fun c3 => ⟨fun c4 => ?_, fun c4 => ?_⟩⟩⟩
          · have cond : len < b.1 ∨ (len = b.1 ∧ lt3 A b.2 len 0 = 1) := by
              rcases hj with h | h
              · exact h.2
              · exact absurd h.1 c2
            have b9 : BI M9 := by rw [e9]; exact BI.up0 hB (rfl : cbt 50 48 = (-1, 40)) (by omega) (by omega) (by decide)
            refine wL1_of (fun x M2 => BI M2 ∧ (∀ j9 k9 : Nat, ¬ (j9 = 0 ∧ k9 = 48 ∨ j9 = 32) → M2 j9 k9 = M j9 k9) ∧ M2 0 48 = (len : Int) ∧ ∃ q : Nat, x = (q : Int) ∧ q ≤ len ∧ ∀ j : Nat, j < q → M2 32 j = A j) (fun x _ => (1000 - x).toNat) ⟨b9, fun j9 k9 h9 => by rw [e9, zup_n _ _ (by omega)], by rw [e9, zup_s], 0, rfl, by omega, fun j hj => absurd hj (Nat.not_lt_zero j)⟩ (fun K4 x M2 h4 k4 => ?_)
            obtain ⟨b2, f2, r2, q, rfl, hq, hv⟩ := h4
            rw [sIo (z := (q : Int)) (by omega) (by omega), sIo (z := 40 * (d : Int) + (q : Int)) (by omega) (by omega), show (40 * (d : Int) + (q : Int)).toNat = 40 * d + q by omega, show ((q : Int)).toNat = q by omega]
            refine ⟨fun c5 => ?_, fun c5 => ⟨by omega, by omega, fun M3 e3 => ?_⟩⟩
            · refine hQ M2 ⟨⟨b2, fun j9 k9 h9 => f2 j9 k9 (by omega)⟩, fun j hj => f2 31 j (by omega), ?_⟩
              unfold btF
              rw [if_pos cond]
              exact Or.inr ⟨by show len ≤ 40; omega, r2, fun k hk => (hv k (by have hk : k < len := hk; omega)).symm⟩
            · have r31 := BN.r32 b2.1 31 (40 * d + q)
              refine k4 _ _ ⟨by rw [e3]; exact BI.up b2 (rfl : zcd wR 32 = 82) rfl r31.1 r31.2 (by decide), fun j9 k9 h9 => by rw [e3, zup_n _ _ (by omega)]; exact f2 j9 k9 h9, by rw [e3, zup_n _ _ (by omega)]; exact r2, q + 1, by omega, by omega, fun j hj => ?_⟩ (by omega)
              rw [e3]
              by_cases c9 : j = q
              · rw [c9, zup_s, f2 31 _ (by omega), hA q (by omega)]
              · rw [zup_n _ _ (by omega)]
                exact hv j (by omega)
          · rcases hj with h | h
            · omega
            · exact same h.2
          · rcases hx with h | ⟨h1, h2, h3, h4⟩
            · exact Or.inl h
            · refine Or.inr ⟨h1, fun z => ?_⟩
              rcases z with z | ⟨z1, z2⟩
              · exact h2 z
              · have g := h3 z1
                rw [show len - i = 0 by omega] at g
                have g : (0 : Int) = lt3 A b.2 len 0 := g
                omega
          · rcases hx with h | h
            · exact Or.inl h
            · exact absurd h.1 c3
          · rcases hx with h | ⟨h1, h2, h3, h4⟩
            · exact Or.inl h
            · refine Or.inr ⟨h1, fun z => ?_⟩
              rcases z with z | ⟨z1, z2⟩
              · exact h2 z
              · exact c4 (by rw [(bl (by omega)).1, z1])
          · rcases hx with h | ⟨h1, h2, h3, h4⟩
            · omega
            · have lb : len = b.1 := by
                have b40 : b.1 ≤ 40 := by
                  by_cases z : b.1 = 41
                  · have := bn z
                    omega
                  · omega
                have := (bl b40).1
                omega
              have g := h3 lb
              have b40 : b.1 ≤ 40 := by omega
              have eB := (bl b40).2 i (by omega)
              have eu : lt3 A b.2 (len - i) i = if A i = b.2 i then lt3 A b.2 (len - (i + 1)) (i + 1) else if A i < b.2 i then 1 else 0 := by
                rw [show len - i = (len - (i + 1)) + 1 by omega]
                rfl
              rw [eu] at g
              have r31 := BN.r32 hB.1 31 (40 * d + i)
              have r32' := BN.r32 hB.1 32 i
              rw [sIo (z := 40 * (d : Int) + (i : Int)) (by omega) (by omega), show (40 * (d : Int) + (i : Int)).toNat = 40 * d + i by omega, sIo r31.1 r31.2, sIo r32'.1 r32'.2, hA i (by omega), ← eB]
              refine ⟨by omega, by omega, fun c5 => ⟨by omega, by omega, fun c6 => k3 _ _ ⟨i + 1, by omega, by omega, Or.inl ⟨rfl, Or.inr ⟨lb, ?_⟩⟩⟩ (by omega), fun c6 => same (fun z => ?_)⟩, fun c5 => k3 _ _ ⟨i + 1, by omega, by omega, Or.inr ⟨h1, h2, fun _ => ?_, fun z => absurd lb z⟩⟩ (by omega)⟩
              · rw [if_neg c5, if_pos (by omega)] at g
                exact g.symm
              · rw [if_neg c5, if_neg (by omega)] at g
                rcases z with z | ⟨z1, z2⟩
                · exact h2 z
                · omega
              · rw [if_pos c5] at g
                exact g
      · refine pJ0_of (len < b.1) (fun hj => Or.inl ⟨rfl, hj⟩) ⟨fun c2 => ?_, fun c2 => ⟨fun c3 => Or.inr ⟨rfl, fun z => ?_⟩, fun c3 => ?_⟩⟩
        · by_cases z : b.1 ≤ 40
          · have := (bl z).1
            omega
          · omega
        · have b40 : b.1 ≤ 40 := by
            by_cases z : b.1 = 41
            · exact absurd (bn z) c2
            · omega
          have := (bl b40).1
          omega
        · have b40 : b.1 ≤ 40 := by
            by_cases z : b.1 = 41
            · exact absurd (bn z) c2
            · omega
          have := (bl b40).1
          omega
end zz47zr_rjoin
section zz47zs_join
/-! pieces: the shortest join, both sides alike -/
def jnN (P : Int) (m : Nat → Int) (p : Nat) : Nat := if (p : Int) < P then (m p).toNat else 0
def jnY (P : Int) (m : Nat → Int) (yy : Nat → Nat → Nat → Int) (p tu i : Nat) : Int := if i < jnN P m p then yy p tu i else 0
def jnF (P : Int) (m : Nat → Int) (yy : Nat → Nat → Nat → Int) : Nat × (Nat → Int) := ffN P.toNat (jnN P m) (jnY P m yy) 6 0 0 0 (fun _ => 0) (41, fun _ => 0)
theorem jn_40 {P : Int} {m : Nat → Int} {yy : Nat → Nat → Nat → Int} (hP : 0 ≤ P ∧ P ≤ 5) (hm : ∀ k : Nat, (k : Int) < P → 1 ≤ m k ∧ m k ≤ 8) : (jnF P m yy).1 ≤ 40 := by
  have g := ff_40 (P := P.toNat) (n := jnN P m) (y := jnY P m yy) (by omega) (fun p hp => by
    have a := hm p (by omega)
    unfold jnN
    rw [if_pos (by omega)]
    omega) 6 0 0 0 (fun _ => 0) (41, fun _ => 0) (by decide) (by decide) (by omega) (by omega) (by omega)
  exact g
theorem jn_cg {P P2 : Int} {m m2 : Nat → Int} {yy yy2 : Nat → Nat → Nat → Int} (e : P = P2) (hm : ∀ k : Nat, (k : Int) < P → m k = m2 k) (hy : ∀ p tu i : Nat, (p : Int) < P → (i : Int) < m p → yy p tu i = yy2 p tu i) : jnF P m yy = jnF P2 m2 yy2 := by
  subst e
  have en : jnN P m = jnN P m2 := funext fun p => by
    unfold jnN
    by_cases c : (p : Int) < P
    · rw [if_pos c, if_pos c, hm p c]
    · rw [if_neg c, if_neg c]
  have ey : jnY P m yy = jnY P m2 yy2 := funext fun p => funext fun tu => funext fun i => by
    unfold jnY
    rw [← en]
    by_cases c : i < jnN P m p
    · rw [if_pos c, if_pos c]
      unfold jnN at c
      by_cases c2 : (p : Int) < P
      · rw [if_pos c2] at c
        exact hy p tu i c2 (by omega)
      · rw [if_neg c2] at c
        exact absurd c (Nat.not_lt_zero i)
    · rw [if_neg c, if_neg c]
  unfold jnF
  rw [en, ey]
theorem fC_join {M : zM} (hB : BN wC M) (hu : ∀ k : Nat, (k : Int) < M 86 0 → 1 ≤ M 94 k ∧ M 94 k ≤ 8) {Q : Int → zM → Prop} (hQ : ∀ (z : Int) (M1 : zM), BN wC M1 ∧ (∀ j9 : Nat, ¬ (j9 = 86 ∨ j9 = 87 ∨ j9 = 95 ∨ j9 = 0 ∨ j9 = 133) → M1 j9 = M j9) ∧ M1 86 0 = M 86 0 ∧ z = (((jnF (M 86 0) (M 94) (yC M)).1 : Nat) : Int) → Q z M1) : wC_join M Q := by
  unfold wC_join wC_Pieces_joinAll
  have b0 : 0 ≤ M 86 0 ∧ M 86 0 ≤ 5 := BN.at hB (rfl : zcd wC 86 = 38) rfl
  intro M1 e1
  have hB1 : BN wC M1 := by rw [e1]; exact BN.up hB (rfl : zcd wC 86 = 38) (rfl : cbt 38 2 = (0, 41)) (by omega) (by omega)
  have F1 : ∀ j9 : Nat, j9 ≠ 86 → M1 j9 = M j9 := fun j9 h9 => by rw [e1]; exact zup_row _ _ h9
  have r0 : M1 86 0 = M 86 0 := by rw [e1]; exact zup_n _ _ (by omega)
  have r2 : M1 86 2 = 41 := by rw [e1]; exact zup_s _ _ _ _
  have en : ∀ p : Nat, (p : Int) < M 86 0 → M 94 p = ((jnN (M 86 0) (M 94) p : Nat) : Int) := fun p hp => by
    have a := hu p hp
    unfold jnN
    rw [if_pos hp]
    omega
  refine fC_layRest (P := (M 86 0).toNat) (n := jnN (M 86 0) (M 94)) (y := jnY (M 86 0) (M 94) (yC M)) (by omega) (fun p hp => ?_) 6 (d := 0) (len := 0) (u := 0) (A := fun _ => 0) (b := (41, fun _ => 0)) hB1 (by rw [r0]; omega) (fun p hp => ⟨?_, fun tu i h1 h2 => ?_⟩) (by omega) (by omega) (by omega) rfl rfl (fun j hj => absurd hj (Nat.not_lt_zero j)) ⟨by rw [r2]; rfl, by show 41 ≤ 41; omega, fun h => absurd h (by show ¬ 41 ≤ 40; omega)⟩ (fun M3 h3 => ?_)
  · have a := hu p (by omega)
    have b := en p (by omega)
    omega
  · rw [F1 94 (by omega)]
    exact en p (by omega)
  · unfold jnY
    rw [if_pos h2]
    unfold yC
    rw [F1 (89 + p) (by omega), F1 94 (by omega)]
  · obtain ⟨⟨b3, f3, q3⟩, -, hb⟩ := h3
    have hb : bhP (jnF (M 86 0) (M 94) (yC M)) (M3 86 2).toNat (M3 87) := hb
    have b2 : 0 ≤ M3 86 2 ∧ M3 86 2 ≤ 41 := BN.at b3 (rfl : zcd wC 86 = 38) rfl
    have h1 := hb.1
    rw [sIo (z := M3 86 2) (by omega) (by omega)]
    refine sC_tell b3 (by decide) (rfl : zcd wC 87 = 39) (by omega) (by decide) (fun M4 h4 => ?_)
    obtain ⟨b4, f4, -⟩ := h4
    exact hQ _ _ ⟨b4, fun j9 h9 => (f4 j9 (by omega)).trans ((f3 j9 (by omega)).trans (F1 j9 (by omega))), (congrFun (f4 86 (by omega)) 0).trans ((q3 0 (by omega)).trans r0), by omega⟩
set_option maxHeartbeats 4000000 in
theorem fR_join {M : zM} (hB : BI M) (hu : ∀ k : Nat, (k : Int) < M 0 27 → 1 ≤ M 17 k ∧ M 17 k ≤ 8) {Q : Int → zM → Prop} (hQ : ∀ (z : Int) (M1 : zM), BI M1 ∧ (∀ j9 k9 : Nat, ¬ (j9 = 0 ∧ k9 = 35 ∨ j9 = 0 ∧ k9 = 48 ∨ j9 = 0 ∧ k9 = 34 ∨ j9 = 31 ∨ j9 = 32 ∨ j9 = 22) → M1 j9 k9 = M j9 k9) ∧ z = (((jnF (M 0 27) (M 17) (yR M)).1 : Nat) : Int) → Q z M1) : wR_join M Q := by
  unfold wR_join
  have b0 : 0 ≤ M 0 27 ∧ M 0 27 ≤ 5 := BN.at hB.1 (rfl : zcd wR 0 = 50) rfl
  intro M1 e1 M3 e3
  have hB1 : BI M1 := by rw [e1]; exact BI.up0 hB (rfl : cbt 50 35 = (-2147483648, 2147483647)) (by omega) (by omega) (by decide)
  have hB3 : BI M3 := by rw [e3]; exact BI.up0 hB1 (rfl : cbt 50 48 = (-1, 40)) (by omega) (by omega) (by decide)
  have F3 : ∀ j9 k9 : Nat, ¬ (j9 = 0 ∧ (k9 = 35 ∨ k9 = 48)) → M3 j9 k9 = M j9 k9 := fun j9 k9 h9 => by rw [e3, e1]; exact (zup_n _ _ (by omega)).trans (zup_n _ _ (by omega))
  have r48 : M3 0 48 = -1 := by rw [e3]; exact zup_s _ _ _ _
  have en : ∀ p : Nat, (p : Int) < M 0 27 → M 17 p = ((jnN (M 0 27) (M 17) p : Nat) : Int) := fun p hp => by
    have a := hu p hp
    unfold jnN
    rw [if_pos hp]
    omega
  refine fR_joinFrom (P := (M 0 27).toNat) (n := jnN (M 0 27) (M 17)) (y := jnY (M 0 27) (M 17) (yR M)) (by omega) (fun p hp => ?_) 6 (d := 0) (len := 0) (u := 0) (A := fun _ => 0) (b := (41, fun _ => 0)) hB3 (by rw [F3 0 27 (by omega)]; omega) (fun p hp => ⟨?_, fun tu i h1 h2 => ?_⟩) (by omega) (by omega) (by omega) rfl rfl (fun j hj => absurd hj (Nat.not_lt_zero j)) (Or.inl ⟨rfl, r48⟩) (fun M5 h5 => ?_)
  · have a := hu p (by omega)
    have b := en p (by omega)
    omega
  · rw [F3 17 p (by omega)]
    exact en p (by omega)
  · unfold jnY
    rw [if_pos h2]
    unfold yR
    rw [F3 16 _ (by omega), F3 16 _ (by omega), F3 17 p (by omega)]
  · obtain ⟨⟨b5, f5⟩, -, hb⟩ := h5
    have hb : bhR (jnF (M 0 27) (M 17) (yR M)) (M5 0 48) (M5 32) := hb
    have e40 := jn_40 (m := M 17) (yy := yR M) b0 hu
    obtain ⟨L, hL⟩ : ∃ L : Nat, (jnF (M 0 27) (M 17) (yR M)).1 = L := ⟨_, rfl⟩
    rw [hL] at hQ e40
    have v48 : M5 0 48 = (L : Int) := by
      rcases hb with h | h
      · have := h.1
        omega
      · rw [h.2.1, hL]
    intro M6 e6
    refine wL1_of (fun x N => BI N ∧ (∀ j9 k9 : Nat, ¬ (j9 = 0 ∧ k9 = 35 ∨ j9 = 0 ∧ k9 = 48 ∨ j9 = 0 ∧ k9 = 34 ∨ j9 = 31 ∨ j9 = 32 ∨ j9 = 22) → N j9 k9 = M j9 k9) ∧ (N 0 34 = (L : Int) ∧ N 0 48 = (L : Int)) ∧ (0 ≤ x ∧ x ≤ 40)) (fun x _ => (1000 - x).toNat) ⟨by rw [e6]; exact BI.up0 b5 (rfl : cbt 50 34 = (-1, 64)) (by omega) (by omega) (by decide), fun j9 k9 h9 => by rw [e6]; exact (zup_n _ _ (by omega)).trans ((f5 j9 k9 (by omega)).trans (F3 j9 k9 (by omega))), ⟨by rw [e6, zup_s, v48], by rw [e6, zup_n _ _ (by omega), v48]⟩, by omega⟩ (fun K x N h k => ?_)
    obtain ⟨bN, fN, ⟨n34, n48⟩, ix⟩ := h
    rw [sIo (z := x) (by omega) (by omega), n34, n48, sIo (z := (L : Int)) (by omega) (by omega)]
    refine ⟨fun c => hQ _ _ ⟨bN, fN, rfl⟩, fun c => ⟨by omega, by omega, fun M20 e20 => ?_⟩⟩
    have br := BN.r32 bN.1 32 x.toNat
    exact k _ _ ⟨by rw [e20]; exact BI.up bN (rfl : zcd wR 22 = 72) rfl br.1 br.2 (by decide), fun j9 k9 h9 => by rw [e20]; exact (zup_n _ _ (by omega)).trans (fN j9 k9 h9), ⟨by rw [e20, zup_n _ _ (by omega)]; exact n34, by rw [e20, zup_n _ _ (by omega)]; exact n48⟩, by omega⟩ (by omega)
theorem pi_17 {MC MR : zM} (h : iPi MC MR) : ∀ k : Nat, (k : Int) < MR 0 27 → 1 ≤ MR 17 k ∧ MR 17 k ≤ 8 := fun k hk => by
  obtain ⟨g1, g2, g3⟩ := h
  have a := g3 k (by omega)
  have e := a.1
  have b := a.2.1
  omega
theorem pi_94 {MC MR : zM} (h : iPi MC MR) : ∀ k : Nat, (k : Int) < MC 86 0 → 1 ≤ MC 94 k ∧ MC 94 k ≤ 8 := fun k hk => (h.2.2 k hk).2.1
theorem join_det {MC MR : zM} {z z9 : Int} (h : iPi MC MR) (p : z = (((jnF (MC 86 0) (MC 94) (yC MC)).1 : Nat) : Int)) (q : z9 = (((jnF (MR 0 27) (MR 17) (yR MR)).1 : Nat) : Int)) : z = z9 := by
  obtain ⟨g1, g2, g3⟩ := h
  have e : jnF (MC 86 0) (MC 94) (yC MC) = jnF (MR 0 27) (MR 17) (yR MR) := jn_cg g1 (fun k hk => (g3 k hk).1) (fun p tu i hp hi => by
    obtain ⟨m1, m2, m3⟩ := g3 p hp
    unfold yC yR
    by_cases c : tu = 0
    · rw [if_pos c, if_pos c]
      exact m3 i hi
    · rw [if_neg c, if_neg c, ← m1]
      exact m3 _ (by omega))
  rw [p, q, e]
end zz47zs_join
