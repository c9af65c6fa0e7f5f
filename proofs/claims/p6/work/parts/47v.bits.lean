/-! bits of sounds; what a turning makes true -/
def bt (x s : Int) : Int := andI (shrI x s) 1
theorem bt_b (x s : Int) : 0 ≤ bt x s ∧ bt x s ≤ 1 := andI_br (shrI x s) (c := 1) (by decide) (by decide)
theorem bt_nat (x s : Int) : bt x s = ((((iI x).toBitVec.sshiftRight' (((iI s) &&& 31).toBitVec.smod 32)).toNat % 2 : Nat) : Int) := by
  unfold bt andI
  refine i32_nat ?_ (by omega)
  unfold shrI
  rw [iI_e, Int32.toBitVec_and, BitVec.toNat_and, Int32.toBitVec_shiftRight, show (iI 1).toBitVec.toNat = 2 ^ 1 - 1 by decide, Nat.and_two_pow_sub_one_eq_mod]
theorem bt_or (x y s : Int) : bt (orI x y) s = 1 ↔ (bt x s = 1 ∨ bt y s = 1) := by
  have e : (iI (orI x y)).toBitVec.sshiftRight' (((iI s) &&& 31).toBitVec.smod 32) = (iI x).toBitVec.sshiftRight' (((iI s) &&& 31).toBitVec.smod 32) ||| (iI y).toBitVec.sshiftRight' (((iI s) &&& 31).toBitVec.smod 32) := by
    unfold orI
    rw [iI_e, Int32.toBitVec_or]
    exact BitVec.sshiftRight_or_distrib _ _ _
  rw [bt_nat, bt_nat, bt_nat, e, BitVec.toNat_or]
  have h := Nat.or_mod_two_eq_one (a := ((iI x).toBitVec.sshiftRight' (((iI s) &&& 31).toBitVec.smod 32)).toNat) (b := ((iI y).toBitVec.sshiftRight' (((iI s) &&& 31).toBitVec.smod 32)).toNat)
  omega
theorem bt_0 (s : Int) : bt 0 s = 0 := by
  rw [bt_nat]
  have e : (iI 0).toBitVec = 0#32 := by decide
  rw [e, BitVec.sshiftRight_eq', BitVec.zero_sshiftRight]
  rfl
theorem bt_orU {h : Int} {I : Nat → Int} {n a : Nat} {s : Int} : ∀ o : Nat, bt (orU h I n a o) s = 1 ↔ ∃ p : Nat, p < o ∧ bt h (p : Int) = 1 ∧ bt (I ((a + p) % n)) s = 1
  | 0 => by
    constructor
    · intro x
      have y := bt_0 s
      have x : bt 0 s = 1 := x
      omega
    · rintro ⟨p, hp, -⟩
      exact absurd hp (Nat.not_lt_zero p)
  | o + 1 => by
    have ih := bt_orU (h := h) (I := I) (n := n) (a := a) (s := s) o
    have b := bt_b h (o : Int)
    show bt (if andI (shrI h (o : Int)) 1 = 0 then orU h I n a o else orI (orU h I n a o) (I ((a + o) % n))) s = 1 ↔ _
    by_cases c : bt h (o : Int) = 0
    · rw [if_pos (show andI (shrI h (o : Int)) 1 = 0 from c), ih]
      constructor
      · rintro ⟨p, p1, p2⟩
        exact ⟨p, by omega, p2⟩
      · rintro ⟨p, p1, p2, p3⟩
        by_cases cp : p = o
        · subst cp
          omega
        · exact ⟨p, by omega, p2, p3⟩
    · rw [if_neg (show ¬ andI (shrI h (o : Int)) 1 = 0 from c), bt_or, ih]
      constructor
      · rintro (⟨p, p1, p2⟩ | x)
        · exact ⟨p, by omega, p2⟩
        · exact ⟨o, by omega, by omega, x⟩
      · rintro ⟨p, p1, p2, p3⟩
        by_cases cp : p = o
        · subst cp
          exact Or.inr p3
        · exact Or.inl ⟨p, by omega, p2, p3⟩
/-- bits put together -/
def trB (b : Nat → Int) : Nat → Int
  | 0 => 0
  | m + 1 => if b m = 1 then orI (trB b m) (shlI 1 (m : Int)) else trB b m
theorem trB_b {b : Nat → Int} : ∀ m : Nat, m ≤ 6 → 0 ≤ trB b m ∧ trB b m ≤ 63
  | 0, _ => ⟨by show (0 : Int) ≤ 0; omega, by show (0 : Int) ≤ 63; omega⟩
  | m + 1, h => by
    have a := trB_b (b := b) m (by omega)
    show 0 ≤ (if b m = 1 then orI (trB b m) (shlI 1 (m : Int)) else trB b m) ∧ (if b m = 1 then orI (trB b m) (shlI 1 (m : Int)) else trB b m) ≤ 63
    by_cases c : b m = 1
    · rw [if_pos c]
      have s := shl01 1 (m : Int) (by omega) (by omega) (by omega) (by omega)
      exact or64 _ _ a.1 a.2 (by omega) (by omega)
    · rw [if_neg c]
      exact a
theorem trB_cg {b b2 : Nat → Int} : ∀ m : Nat, (∀ k : Nat, k < m → (b k = 1 ↔ b2 k = 1)) → trB b m = trB b2 m
  | 0, _ => rfl
  | m + 1, h => by
    have a := trB_cg (b := b) (b2 := b2) m (fun k hk => h k (by omega))
    have c := h m (by omega)
    show (if b m = 1 then orI (trB b m) (shlI 1 (m : Int)) else trB b m) = (if b2 m = 1 then orI (trB b2 m) (shlI 1 (m : Int)) else trB b2 m)
    rw [a]
    by_cases d : b m = 1
    · rw [if_pos d, if_pos (c.mp d)]
    · rw [if_neg d, if_neg (fun x => d (c.mpr x))]
theorem shl0 (m : Nat) (h : m ≤ 5) : shlI 0 (m : Int) = 0 := by
  rcases (by omega : m = 0 ∨ m = 1 ∨ m = 2 ∨ m = 3 ∨ m = 4 ∨ m = 5) with rfl | rfl | rfl | rfl | rfl | rfl <;> decide
/-- the first tick not before t -/
def fsP (T : Nat → Int) (t : Int) : Nat → Nat → Nat
  | 0, i => i
  | k + 1, i => if T i < t then fsP T t k (i + 1) else i
theorem fsP_s {T : Nat → Int} {t : Int} : ∀ (k i : Nat), i ≤ fsP T t k i ∧ fsP T t k i ≤ i + k ∧ (∀ j : Nat, i ≤ j → j < fsP T t k i → T j < t) ∧ (fsP T t k i < i + k → t ≤ T (fsP T t k i))
  | 0, i => ⟨Nat.le_refl _, Nat.le_refl _, fun j h1 h2 => absurd h2 (Nat.not_lt.mpr h1), fun h => absurd h (Nat.lt_irrefl _)⟩
  | k + 1, i => by
    have a := fsP_s (T := T) (t := t) k (i + 1)
    show i ≤ (if T i < t then fsP T t k (i + 1) else i) ∧ (if T i < t then fsP T t k (i + 1) else i) ≤ i + (k + 1) ∧ (∀ j : Nat, i ≤ j → j < (if T i < t then fsP T t k (i + 1) else i) → T j < t) ∧ ((if T i < t then fsP T t k (i + 1) else i) < i + (k + 1) → t ≤ T (if T i < t then fsP T t k (i + 1) else i))
    by_cases c : T i < t
    · rw [if_pos c]
      refine ⟨by omega, by omega, fun j h1 h2 => ?_, fun h => a.2.2.2 (by omega)⟩
      by_cases cj : j = i
      · rw [cj]
        exact c
      · exact a.2.2.1 j (by omega) h2
    · rw [if_neg c]
      exact ⟨by omega, by omega, fun j h1 h2 => by omega, fun _ => by omega⟩
def wayF (n : Int) (T S : Nat → Int) (t : Int) : Int := sL ((wyS T S (fsP T t n.toNat 0)).1 + (t - (wyS T S (fsP T t n.toNat 0)).2.1) * (wyS T S (fsP T t n.toNat 0)).2.2)
theorem wayF_R {n t : Int} {T S : Nat → Int} (h0 : 0 ≤ n) : wayR n T S t (wayF n T S t) := by
  have a := fsP_s (T := T) (t := t) n.toNat 0
  exact ⟨fsP T t n.toNat 0, by omega, fun i hi => a.2.2.1 i (by omega) hi, fun h => a.2.2.2 (by omega), rfl⟩
def wbF (n : Int) (T S : Nat → Int) (t len : Int) : Int := (wayF n T S (min t (stI n T)) + (max 0 (t - stI n T) % len) * lsI n S) % len
theorem mo_rf {n : Int} {T S : Nat → Int} : mo n T S n T S := ⟨rfl, fun _ _ => ⟨rfl, rfl⟩⟩
theorem wbR_F {n t len z : Int} {T S : Nat → Int} (h0 : 0 ≤ n) (h : wbR n T S t len z) : z = wbF n T S t len := by
  obtain ⟨w, w1, w2⟩ := h
  rw [w2, way_det mo_rf w1 (wayF_R h0)]
  rfl
theorem wbF_cg {n nR : Int} {T S TR SR : Nat → Int} (h0 : 0 ≤ n) (h : mo n T S nR TR SR) (t len : Int) : wbF n T S t len = wbF nR TR SR t len := by
  obtain ⟨e1, e2⟩ := st_cg h0 h
  have h2 : 0 ≤ nR := by have := h.1; omega
  unfold wbF
  rw [← e1, ← e2, way_det h (wayF_R h0) (wayF_R h2)]
theorem wbF_b {n : Int} {T S : Nat → Int} {t len : Int} (h : 0 < len) : 0 ≤ wbF n T S t len ∧ wbF n T S t len < len := emB _ _ h
/-- what a ring makes true, cut to n inches and begun at a -/
def trV (h : Int) (I : Nat → Int) (wb : Int → Int → Int) (cnt : Nat) (tk sd : Nat → Int) (n a : Nat) : Int := trB (fun m => bt (orU h I n (((a : Int) + wb (tk m) (n : Int)) % (n : Int)).toNat 24) (sd m)) cnt
theorem trV_cg {h : Int} {I J : Nat → Int} {wb wb2 : Int → Int → Int} {cnt : Nat} {tk sd tk2 sd2 : Nat → Int} {n a : Nat} (hn : 1 ≤ n) (hI : ∀ k : Nat, k < n → I k = J k) (hw : ∀ t : Int, wb t (n : Int) = wb2 t (n : Int)) (hm : ∀ m : Nat, m < cnt → tk m = tk2 m ∧ sd m = sd2 m) : trV h I wb cnt tk sd n a = trV h J wb2 cnt tk2 sd2 n a := by
  unfold trV
  refine trB_cg cnt (fun m hk => ?_)
  rw [(hm m hk).1, (hm m hk).2, hw, orU_cg hn hI]
theorem trV_b {h : Int} {I : Nat → Int} {wb : Int → Int → Int} {cnt : Nat} {tk sd : Nat → Int} {n a : Nat} (hc : cnt ≤ 6) : 0 ≤ trV h I wb cnt tk sd n a ∧ trV h I wb cnt tk sd n a ≤ 63 := trB_b cnt hc
