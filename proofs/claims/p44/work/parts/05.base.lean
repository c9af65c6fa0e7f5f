section zz05_base
/-! BASE: ints and longs by their integers; a world of cells at fixed places, its numbers in one table M; one row an instruction over it -/
abbrev R32 (z : Int) : Prop := -2147483648 ≤ z ∧ z ≤ 2147483647
abbrev R64 (z : Int) : Prop := -9223372036854775808 ≤ z ∧ z ≤ 9223372036854775807
def iI (z : Int) : Int32 := Int32.ofInt z
def iL (z : Int) : Int64 := Int64.ofInt z
theorem iI_t {z : Int} (h : R32 z) : (iI z).toInt = z := by
  unfold iI
  rw [Int32.toInt_ofInt]
  exact Int.bmod_eq_of_le (by have := h.1; simp only [Int32.size]; omega) (by have := h.2; simp only [Int32.size]; omega)
theorem iL_t {z : Int} (h : R64 z) : (iL z).toInt = z := by
  unfold iL
  rw [Int64.toInt_ofInt]
  exact Int.bmod_eq_of_le (by have := h.1; simp only [Int64.size]; omega) (by have := h.2; simp only [Int64.size]; omega)
theorem iI_r (x : Int32) : R32 x.toInt := ⟨by have := Int32.le_toInt x; omega, by have := Int32.toInt_lt x; omega⟩
theorem iL_r (x : Int64) : R64 x.toInt := ⟨by have := Int64.le_toInt x; omega, by have := Int64.toInt_lt x; omega⟩
theorem iI_e (x : Int32) : iI x.toInt = x := Int32.ofInt_toInt x
theorem iL_e (x : Int64) : iL x.toInt = x := Int64.ofInt_toInt x
theorem iI_of (x : Int32) : ∃ z, R32 z ∧ x = iI z := ⟨x.toInt, iI_r x, (iI_e x).symm⟩
theorem iL_of (x : Int64) : ∃ z, R64 z ∧ x = iL z := ⟨x.toInt, iL_r x, (iL_e x).symm⟩
theorem iI_inj {a b : Int} (ha : R32 a) (hb : R32 b) (h : iI a = iI b) : a = b := by rw [← iI_t ha, h, iI_t hb]
theorem iL_inj {a b : Int} (ha : R64 a) (hb : R64 b) (h : iL a = iL b) : a = b := by rw [← iL_t ha, h, iL_t hb]
theorem iI_add (a b : Int) : iI a + iI b = iI (a + b) := by
  apply Int32.toInt_inj.mp
  simp [iI, Int32.toInt_add, Int32.toInt_ofInt]
theorem iI_sub (a b : Int) : iI a - iI b = iI (a - b) := by
  apply Int32.toInt_inj.mp
  simp [iI, Int32.toInt_sub, Int32.toInt_ofInt]
theorem iI_mul (a b : Int) : iI a * iI b = iI (a * b) := by
  apply Int32.toInt_inj.mp
  simp [iI, Int32.toInt_mul, Int32.toInt_ofInt]
theorem iI_neg (a : Int) : -iI a = iI (-a) := by
  apply Int32.toInt_inj.mp
  simp [iI, Int32.toInt_neg, Int32.toInt_ofInt]
theorem iL_add (a b : Int) : iL a + iL b = iL (a + b) := by
  apply Int64.toInt_inj.mp
  simp [iL, Int64.toInt_add, Int64.toInt_ofInt]
theorem iL_sub (a b : Int) : iL a - iL b = iL (a - b) := by
  apply Int64.toInt_inj.mp
  simp [iL, Int64.toInt_sub, Int64.toInt_ofInt]
theorem iL_mul (a b : Int) : iL a * iL b = iL (a * b) := by
  apply Int64.toInt_inj.mp
  simp [iL, Int64.toInt_mul, Int64.toInt_ofInt]
theorem iI_lt {a b : Int} (ha : R32 a) (hb : R32 b) : iI a < iI b ↔ a < b := by rw [Int32.lt_iff_toInt_lt, iI_t ha, iI_t hb]
theorem iI_le {a b : Int} (ha : R32 a) (hb : R32 b) : iI a ≤ iI b ↔ a ≤ b := by rw [Int32.le_iff_toInt_le, iI_t ha, iI_t hb]
theorem iI_eq {a b : Int} (ha : R32 a) (hb : R32 b) : iI a = iI b ↔ a = b := ⟨iI_inj ha hb, fun h => by rw [h]⟩
theorem iL_lt {a b : Int} (ha : R64 a) (hb : R64 b) : iL a < iL b ↔ a < b := by rw [Int64.lt_iff_toInt_lt, iL_t ha, iL_t hb]
theorem iL_le {a b : Int} (ha : R64 a) (hb : R64 b) : iL a ≤ iL b ↔ a ≤ b := by rw [Int64.le_iff_toInt_le, iL_t ha, iL_t hb]
theorem iL_eq {a b : Int} (ha : R64 a) (hb : R64 b) : iL a = iL b ↔ a = b := ⟨iL_inj ha hb, fun h => by rw [h]⟩
theorem iI_0 : (0 : Int32) = iI 0 := rfl
theorem iI_1 : (1 : Int32) = iI 1 := rfl
theorem iI_div {a b : Int} (ha : R32 a) (hb : R32 b) : iI a / iI b = iI (a.tdiv b) := by
  apply Int32.toInt_inj.mp
  rw [Int32.toInt_div, iI_t ha, iI_t hb]
  simp [iI, Int32.toInt_ofInt]
theorem iL_div {a b : Int} (ha : R64 a) (hb : R64 b) : iL a / iL b = iL (a.tdiv b) := by
  apply Int64.toInt_inj.mp
  rw [Int64.toInt_div, iL_t ha, iL_t hb]
  simp [iL, Int64.toInt_ofInt]
theorem iI_rem {a b : Int} (ha : R32 a) (hb : R32 b) : iI a - iI a / iI b * iI b = iI (a.tmod b) := by
  rw [iI_div ha hb, iI_mul, iI_sub]
  congr 1
  rw [Int.tmod_def, Int.mul_comm]
theorem iL_rem {a b : Int} (ha : R64 a) (hb : R64 b) : iL a - iL a / iL b * iL b = iL (a.tmod b) := by
  rw [iL_div ha hb, iL_mul, iL_sub]
  congr 1
  rw [Int.tmod_def, Int.mul_comm]
theorem iI_long {a : Int} (ha : R32 a) : (iI a).toInt64 = iL a := by
  apply Int64.toInt_inj.mp
  rw [Int32.toInt_toInt64, iI_t ha, iL_t ⟨by omega, by omega⟩]
theorem iL_int (a : Int) : (iL a).toInt32 = iI a := by
  unfold iL iI
  exact Int64.toInt32_ofInt
theorem iI_in {z : Int} {n : Nat} (h0 : 0 ≤ z) (h : z < n) (hn : n < 2147483648) : vp_in (iI z) n ∧ (iI z).toNatClampNeg = z.toNat := by
  have ht : (iI z).toInt = z := iI_t ⟨by omega, by omega⟩
  refine ⟨?_, ?_⟩
  · rw [vp_in_iff, ht]
    omega
  · show (iI z).toInt.toNat = z.toNat
    rw [ht]
/-! WORLDS: cells at b, b + 1, ..; the numbers that they hold in one table M; where references lead is fixed -/
abbrev zM : Type := Nat → Nat → Int
def zup (M : zM) (j k : Nat) (v : Int) : zM := fun a b => if a = j ∧ b = k then v else M a b
theorem zup_s (M : zM) (j k : Nat) (v : Int) : zup M j k v j k = v := by simp [zup]
theorem zup_n (M : zM) {j k a b : Nat} (v : Int) (h : ¬ (a = j ∧ b = k)) : zup M j k v a b = M a b := by simp [zup, h]
theorem zup_row (M : zM) {j k a : Nat} (v : Int) (h : a ≠ j) : zup M j k v a = M a := by funext b; simp [zup, h]
/-- a plan: the code of each place; by the code: its kind (below 100 objects of that class, 100 ints, 101 longs, 102 bytes, 103 booleans, 104 and on references), its length, where references lead, the bounds of its numbers, which part of the world it is; by the class: how many fields, their kinds (0 int, 1 long, else reference) -/
abbrev zW : Type := (Nat → Nat) × (Nat → Nat) × (Nat → Nat) × (Nat → Nat → Nat → Nat) × (Nat → Nat) × (Nat → Nat → Nat) × (Nat → Nat → Int × Int) × (Nat → Nat → Nat)
abbrev zcd (w : zW) (j : Nat) : Nat := w.1 j
abbrev zkd (w : zW) (j : Nat) : Nat := w.2.1 (w.1 j)
abbrev zln (w : zW) (j : Nat) : Nat := w.2.2.1 (w.1 j)
abbrev zrf (w : zW) (j k : Nat) : Nat := w.2.2.2.1 (w.1 j) j k
abbrev znf (w : zW) : Nat → Nat := w.2.2.2.2.1
abbrev zfk (w : zW) : Nat → Nat → Nat := w.2.2.2.2.2.1
abbrev zbd (w : zW) (j k : Nat) : Int × Int := w.2.2.2.2.2.2.1 (w.1 j) k
abbrev zmc (w : zW) (j k : Nat) : Nat := w.2.2.2.2.2.2.2 (w.1 j) k
def zms (w : zW) (L : List Nat) (j k : Nat) : Bool := L.elem (zmc w j k)
theorem zkd_of {w : zW} {j q r : Nat} (h : zcd w j = q) (h2 : w.2.1 q = r) : zkd w j = r := by unfold zkd; rw [show w.1 j = q from h]; exact h2
theorem zln_of {w : zW} {j q r : Nat} (h : zcd w j = q) (h2 : w.2.2.1 q = r) : zln w j = r := by unfold zln; rw [show w.1 j = q from h]; exact h2
theorem zrf_of {w : zW} {j k q r : Nat} (h : zcd w j = q) (h2 : w.2.2.2.1 q j k = r) : zrf w j k = r := by unfold zrf; rw [show w.1 j = q from h]; exact h2
theorem zbd_of {w : zW} {j k q : Nat} {r : Int × Int} (h : zcd w j = q) (h2 : w.2.2.2.2.2.2.1 q k = r) : zbd w j k = r := by unfold zbd; rw [show w.1 j = q from h]; exact h2
theorem zms_of {w : zW} {L : List Nat} {j k q : Nat} (h : zcd w j = q) (h2 : L.elem (w.2.2.2.2.2.2.2 q k) = true) : zms w L j k = true := by unfold zms zmc; rw [show w.1 j = q from h]; exact h2
theorem zms_not {w : zW} {L : List Nat} {j k q : Nat} (h : zcd w j = q) (h2 : L.elem (w.2.2.2.2.2.2.2 q k) = false) : zms w L j k = false := by unfold zms zmc; rw [show w.1 j = q from h]; exact h2
theorem zms_sub {w : zW} {L L' : List Nat} (h : L'.all (fun x => L.elem x) = true) : ∀ j k, zms w L j k = false → zms w L' j k = false := by
  intro j k h1
  unfold zms at *
  cases h2 : L'.elem (zmc w j k) with
  | false => rfl
  | true =>
    have h3 := List.all_eq_true.mp h _ (List.elem_iff.mp h2)
    rw [h3] at h1
    cases h1
/-- what a place may hold, by its code -/
theorem zJ_at {w : zW} {M : zM} (h : ∀ j k, (zbd w j k).1 ≤ M j k ∧ M j k ≤ (zbd w j k).2) {j k q : Nat} {lo hi : Int} (hc : zcd w j = q) (h2 : w.2.2.2.2.2.2.1 q k = (lo, hi)) : lo ≤ M j k ∧ M j k ≤ hi := by
  have h3 := h j k
  rw [zbd_of hc h2] at h3
  exact h3
theorem zbd_in {w : zW} {j k q : Nat} {lo hi z : Int} (hc : zcd w j = q) (h2 : w.2.2.2.2.2.2.1 q k = (lo, hi)) (h3 : lo ≤ z ∧ z ≤ hi) : (zbd w j k).1 ≤ z ∧ z ≤ (zbd w j k).2 := by
  rw [zbd_of hc h2]
  exact h3
def zfv (w : zW) (b j k : Nat) (v : Int) : Value := if zfk w (zkd w j) k = 0 then .int (iI v) else if zfk w (zkd w j) k = 1 then .long (iL v) else .ref (b + zrf w j k)
def zfs (w : zW) (b j : Nat) (row : Nat → Int) : List Value := (List.range (znf w (zkd w j))).map (fun k => zfv w b j k (row k))
def zar (w : zW) (b j : Nat) (row : Nat → Int) : vp_A := if zkd w j = 101 then (zln w j, .inr (.inl (fun k => iL (row k)))) else if zkd w j < 104 then (zln w j, .inl (fun k => iI (row k))) else (zln w j, .inr (.inr (.inr (.inr (fun k => some (b + zrf w j k))))))
def zcell (dA : Nat → ClassId) (w : zW) (b j : Nat) (row : Nat → Int) : va_E := if zkd w j < 100 then .inr (zkd w j, zfs w b j row) else .inl (dA (zkd w j - 100), zar w b j row)
def zR (D : va_G) (dA : Nat → ClassId) (cl : List vw_C) (w : zW) (N b : Nat) (M : zM) (H : Heap) : Prop := ∀ j, j < N → va_at D cl (b + j, zcell dA w b j (M j)) H
def zJ (w : zW) (M : zM) : Prop := ∀ j k, (zbd w j k).1 ≤ M j k ∧ M j k ≤ (zbd w j k).2
def zF (ms : Nat → Nat → Bool) (M0 M : zM) : Prop := ∀ j k, ms j k = false → M j k = M0 j k
def zS (D : va_G) (dA : Nat → ClassId) (cl : List vw_C) (w : zW) (N b : Nat) (ms : Nat → Nat → Bool) (M0 M : zM) (H : Heap) : Prop := zR D dA cl w N b M H ∧ zJ w M ∧ zF ms M0 M
abbrev zA (N b : Nat) : Nat → Prop := fun q => b ≤ q ∧ q < b + N
theorem zF_rf (ms : Nat → Nat → Bool) (M : zM) : zF ms M M := fun _ _ _ => rfl
theorem zF_tr {ms : Nat → Nat → Bool} {M0 M1 M2 : zM} (h1 : zF ms M0 M1) (h2 : zF ms M1 M2) : zF ms M0 M2 := fun j k h => (h2 j k h).trans (h1 j k h)
theorem zF_mono {ms ms' : Nat → Nat → Bool} {M0 M1 : zM} (h1 : zF ms M0 M1) (hm : ∀ j k, ms' j k = false → ms j k = false) : zF ms' M0 M1 := fun j k h => h1 j k (hm j k h)
theorem zF_up {ms : Nat → Nat → Bool} {M0 M : zM} (h : zF ms M0 M) {j k : Nat} {v : Int} (hm : ms j k = true) : zF ms M0 (zup M j k v) := by
  intro a b hab
  rw [zup_n]
  · exact h a b hab
  · rintro ⟨rfl, rfl⟩
    rw [hm] at hab
    cases hab
theorem zJ_up {w : zW} {M : zM} (h : zJ w M) {j k : Nat} {v : Int} (hb : (zbd w j k).1 ≤ v ∧ v ≤ (zbd w j k).2) : zJ w (zup M j k v) := by
  intro a b
  by_cases hab : a = j ∧ b = k
  · obtain ⟨rfl, rfl⟩ := hab
    rw [zup_s]
    exact hb
  · rw [zup_n M v hab]
    exact h a b
theorem zfs_at {w : zW} {b j k : Nat} {row : Nat → Int} (h : k < znf w (zkd w j)) : (zfs w b j row)[k]? = some (zfv w b j k (row k)) := by
  simp [zfs, h]
theorem zfs_V {w : zW} {b j k : Nat} {row : Nat → Int} (h : k < znf w (zkd w j)) : vp_V (zfs w b j row) k = zfv w b j k (row k) := by
  simp [vp_V, List.getD, zfs_at h]
/-- a field by a plan: class, place, kind; names by the class's table -/
def zFld (cl : List vw_C) (w : zW) (ci : Nat) (C : String) (T : u_T) (n k kind : Nat) : Prop := cl[ci]? = some (C, T, n) ∧ ci < 100 ∧ znf w ci = n ∧ k < n ∧ zfk w ci k = kind
def zLk (s : State) (args : Array Value) (own : String) (index : Nat) (ref name desc : String) : Prop := (Cond.fieldLink own index ref name desc).before args s = true ∨ ∃ host : String, (Cond.fieldLinkNest own index ref name desc host).before args s = true
section ZW
variable {p : Program} {l : Launch} {e : Env} {R : Room} {s : State} {m : MethodId} {args : Array Value} {below : List Frame} {meth : Method} {c : Code} {H : Heap} {locs : List Loc} {cells slots : Nat} {Q : State → Prop}
variable {cc : ByteArray} {pc : Nat} {ls : Array Slot} {rest : List Value} {D : va_G} {dA : Nat → ClassId} {cl : List vw_C} {tys : List (ClassId × FieldType)} {H0 : Heap} {w : zW} {N b : Nat} {ms : Nat → Nat → Bool} {M0 M : zM}
theorem z_getv (hexec : p.tables.exec = Jvm.exec) (hb : c.code = cc) {own C : String} {T : u_T} {n ci index j k kind : Nat} {Ts : List Cond} (hts : ∀ w ∈ Ts, w.before args s = true) (hin : ∀ w ∈ u_ws C T n, w ∈ Ts) (hown : s.vm.findClass own = some m.cls) (hK : va_K D cl tys s) (hR : zR D dA cl w N b M H)
    (hf : zFld cl w ci C T n k kind) (hj : j < N) (hkd : zkd w j = ci) (hlink : zLk s args own index (T k).1 (T k).2.1 (T k).2.2.1) (hdg : decode cc pc = .ok (.getfield index, 3))
    (kk : W p l e R s m args below meth c H locs cells slots Q (F0 m (pc + 3) ls (zfv w b j k (M j k) :: rest))) : W p l e R s m args below meth c H locs cells slots Q (F0 m pc ls (.ref (b + j) :: rest)) := by
  obtain ⟨hc, hci, hn, hk, -⟩ := hf
  subst hkd
  have hP : va_P D cl [(b + j, .inr (zkd w j, zfs w b j (M j)))] H := by
    intro i q hq
    have hi : i = 0 := by
      have := (List.getElem?_eq_some_iff.mp hq).1
      simp at this
      exact this
    subst hi
    cases hq
    have h := hR j hj
    unfold zcell at h
    rw [if_pos hci] at h
    exact h
  have hv : (zfs w b j (M j))[k]? = some (zfv w b j k (M j k)) := zfs_at (by rw [hn]; exact hk)
  rcases hlink with hl | ⟨host, hl⟩
  · exact va_get hexec hb hts hin hown hK hP 0 rfl hc k hk hl (fun _ h => h) hv hdg kk
  · exact va_getN hexec hb hts hin hown hK hP 0 rfl hc k hk hl (fun _ h => h) hv hdg kk
theorem z_geti (hexec : p.tables.exec = Jvm.exec) (hb : c.code = cc) {own C : String} {T : u_T} {n ci index j k : Nat} {Ts : List Cond} (hts : ∀ w ∈ Ts, w.before args s = true) (hin : ∀ w ∈ u_ws C T n, w ∈ Ts) (hown : s.vm.findClass own = some m.cls) (hK : va_K D cl tys s) (hS : zS D dA cl w N b ms M0 M H)
    (hf : zFld cl w ci C T n k 0) (hj : j < N) (hkd : zkd w j = ci) (hlink : zLk s args own index (T k).1 (T k).2.1 (T k).2.2.1) (hdg : decode cc pc = .ok (.getfield index, 3))
    (kk : W p l e R s m args below meth c H locs cells slots Q (F0 m (pc + 3) ls (.int (iI (M j k)) :: rest))) : W p l e R s m args below meth c H locs cells slots Q (F0 m pc ls (.ref (b + j) :: rest)) := by
  refine z_getv hexec hb hts hin hown hK hS.1 hf hj hkd hlink hdg ?_
  unfold zfv
  rw [hkd, if_pos hf.2.2.2.2]
  exact kk
theorem z_getl (hexec : p.tables.exec = Jvm.exec) (hb : c.code = cc) {own C : String} {T : u_T} {n ci index j k : Nat} {Ts : List Cond} (hts : ∀ w ∈ Ts, w.before args s = true) (hin : ∀ w ∈ u_ws C T n, w ∈ Ts) (hown : s.vm.findClass own = some m.cls) (hK : va_K D cl tys s) (hS : zS D dA cl w N b ms M0 M H)
    (hf : zFld cl w ci C T n k 1) (hj : j < N) (hkd : zkd w j = ci) (hlink : zLk s args own index (T k).1 (T k).2.1 (T k).2.2.1) (hdg : decode cc pc = .ok (.getfield index, 3))
    (kk : W p l e R s m args below meth c H locs cells slots Q (F0 m (pc + 3) ls (.long (iL (M j k)) :: rest))) : W p l e R s m args below meth c H locs cells slots Q (F0 m pc ls (.ref (b + j) :: rest)) := by
  refine z_getv hexec hb hts hin hown hK hS.1 hf hj hkd hlink hdg ?_
  unfold zfv
  rw [hkd, if_neg (by rw [hf.2.2.2.2]; decide), if_pos hf.2.2.2.2]
  exact kk
theorem z_getr (hexec : p.tables.exec = Jvm.exec) (hb : c.code = cc) {own C : String} {T : u_T} {n ci index j k j2 : Nat} {Ts : List Cond} (hts : ∀ w ∈ Ts, w.before args s = true) (hin : ∀ w ∈ u_ws C T n, w ∈ Ts) (hown : s.vm.findClass own = some m.cls) (hK : va_K D cl tys s) (hS : zS D dA cl w N b ms M0 M H)
    (hf : zFld cl w ci C T n k 2) (hj : j < N) (hkd : zkd w j = ci) (hrf : zrf w j k = j2) (hlink : zLk s args own index (T k).1 (T k).2.1 (T k).2.2.1) (hdg : decode cc pc = .ok (.getfield index, 3))
    (kk : W p l e R s m args below meth c H locs cells slots Q (F0 m (pc + 3) ls (.ref (b + j2) :: rest))) : W p l e R s m args below meth c H locs cells slots Q (F0 m pc ls (.ref (b + j) :: rest)) := by
  refine z_getv hexec hb hts hin hown hK hS.1 hf hj hkd hlink hdg ?_
  unfold zfv
  rw [hkd, if_neg (by rw [hf.2.2.2.2]; decide), if_neg (by rw [hf.2.2.2.2]; decide), hrf]
  exact kk
/-- a number is put into a field -/
theorem z_putv (hexec : p.tables.exec = Jvm.exec) (hb : c.code = cc) {own C : String} {T : u_T} {n ci index j k kind : Nat} {Ts : List Cond} (hts : ∀ w ∈ Ts, w.before args s = true) (hin : ∀ w ∈ u_ws C T n, w ∈ Ts) (ty0 : Nat → FieldType) (hty : ∀ k, k < n → parseFieldDescriptor (T k).2.2.1 = some (ty0 k)) (hnm : ∀ a, a < n → ∀ b, b < n → a ≠ b → (T a).2.1 ≠ (T b).2.1) (hown : s.vm.findClass own = some m.cls) (hK : va_K D cl tys s) (hR : zR D dA cl w N b M H) (hS0 : va_S (zA N b) H0 H locs)
    (hf : zFld cl w ci C T n k kind) (hj : j < N) (hkd : zkd w j = ci) (hlink : zLk s args own index (T k).1 (T k).2.1 (T k).2.2.1) (hfin : (T k).2.2.2 = false) {ty : FieldType} {v : Value} {z : Int} (hd : parseFieldDescriptor (T k).2.2.1 = some ty) (hnr : narrow ty v = v) (hfit : fits ty v = true) (hz : v = zfv w b j k z) (hdg : decode cc pc = .ok (.putfield index, 3))
    (kk : ∀ (H1 : Heap) (locs1 : List Loc), zR D dA cl w N b (zup M j k z) H1 → va_S (zA N b) H0 H1 locs1 → W p l e R s m args below meth c H1 locs1 cells slots Q (F0 m (pc + 3) ls rest)) : W p l e R s m args below meth c H locs cells slots Q (F0 m pc ls (v :: .ref (b + j) :: rest)) := by
  obtain ⟨hc, hci, hn, hk, -⟩ := hf
  subst hkd
  have hap := va_apart (own := own) hts hin ty0 hty hnm hK hc
  have h0 := hR j hj
  unfold zcell at h0
  rw [if_pos hci] at h0
  obtain ⟨r, h1, cell, q1, q2, q3, q4⟩ := h0
  have hr : r = (C, T, n) := Option.some.inj (h1.symm.trans hc)
  subst hr
  obtain ⟨hSl, hfc, kC, hkC, hkind⟩ := hK.1 _ _ hc
  obtain ⟨cf, kf, fi, f, hi, hsl⟩ := hSl k hk
  have hlay := hts _ (hin _ (u_in_lay hk))
  unfold u_lay at hlay
  rw [if_neg (by rw [hfin]; decide)] at hlay
  have hst := (u_facts hfc hkC (u_lays hts hin hk) hi).1
  have h6 := u_store hfc hkC hkind hlay hi hd hnr hfit
  have fin : ∀ H' : Heap, H'[b + j]? = some (cell.setSlot f.slot v) → H'.size = H.size → (∀ q, q ≠ b + j → H'[q]? = H[q]?) → W p l e R s m args below meth c H' (locs ++ [⟨b + j, f.slot⟩]) cells slots Q (F0 m (pc + 3) ls rest) := by
    intro H' e1 e2 e3
    refine kk H' _ ?_ (hS0.put e2 e3 ⟨by omega, by omega⟩)
    intro i hi2
    by_cases hij : i = j
    · subst hij
      unfold zcell
      rw [if_pos hci]
      refine ⟨_, hc, ?_⟩
      rw [hsl] at e1
      refine t_OB.to (V := updV (vp_V (zfs w b i (M i))) k v) ⟨_, e1, q2, q3, t_set q4 hap hk v⟩ (fun x hx => ?_)
      have hx' : x < znf w (zkd w i) := by rw [hn]; exact hx
      rw [zfs_V hx']
      by_cases hxk : x = k
      · subst hxk
        simp only [updV, if_pos]
        rw [zup_s]
        exact hz
      · simp only [updV, if_neg hxk]
        rw [zfs_V hx', zup_n]
        exact fun q => hxk q.2
    · have := (hR i hi2).kept (H1 := H') (e3 _ (by show b + i ≠ b + j; omega))
      rw [zup_row M z hij]
      exact this
  rcases hlink with hl | ⟨host, hl⟩
  · exact W.putK hexec hb (f := f) ⟨hown, hl, ⟨_, _, _, hi⟩, hst⟩ (by rw [q2]; exact h6) q1 q3 (by rw [hsl]; exact k2_hasslot (q4 k hk)) rfl rfl hdg fin
  · exact va_WputK hexec hb (f := f) hown hl hi hst (by rw [q2]; exact h6) q1 q3 (by rw [hsl]; exact k2_hasslot (q4 k hk)) rfl rfl hdg fin
theorem z_puti (hexec : p.tables.exec = Jvm.exec) (hb : c.code = cc) {own C : String} {T : u_T} {n ci index j k : Nat} {Ts : List Cond} (hts : ∀ w ∈ Ts, w.before args s = true) (hin : ∀ w ∈ u_ws C T n, w ∈ Ts) (ty0 : Nat → FieldType) (hty : ∀ k, k < n → parseFieldDescriptor (T k).2.2.1 = some (ty0 k)) (hnm : ∀ a, a < n → ∀ b, b < n → a ≠ b → (T a).2.1 ≠ (T b).2.1) (hown : s.vm.findClass own = some m.cls) (hK : va_K D cl tys s) (hS : zS D dA cl w N b ms M0 M H) (hS0 : va_S (zA N b) H0 H locs)
    (hf : zFld cl w ci C T n k 0) (hj : j < N) (hkd : zkd w j = ci) (hlink : zLk s args own index (T k).1 (T k).2.1 (T k).2.2.1) (hfin : (T k).2.2.2 = false) {z : Int} (hd : parseFieldDescriptor (T k).2.2.1 = some .int) (hbd : (zbd w j k).1 ≤ z ∧ z ≤ (zbd w j k).2) (hms : ms j k = true) (hdg : decode cc pc = .ok (.putfield index, 3))
    (kk : ∀ (H1 : Heap) (locs1 : List Loc), zS D dA cl w N b ms M0 (zup M j k z) H1 → va_S (zA N b) H0 H1 locs1 → W p l e R s m args below meth c H1 locs1 cells slots Q (F0 m (pc + 3) ls rest)) : W p l e R s m args below meth c H locs cells slots Q (F0 m pc ls (.int (iI z) :: .ref (b + j) :: rest)) := by
  refine z_putv hexec hb hts hin ty0 hty hnm hown hK hS.1 hS0 hf hj hkd hlink hfin (z := z) hd rfl rfl ?_ hdg (fun H1 locs1 a1 a2 => kk H1 locs1 ⟨a1, zJ_up hS.2.1 hbd, zF_up hS.2.2 hms⟩ a2)
  unfold zfv
  rw [hkd, if_pos hf.2.2.2.2]
theorem z_putl (hexec : p.tables.exec = Jvm.exec) (hb : c.code = cc) {own C : String} {T : u_T} {n ci index j k : Nat} {Ts : List Cond} (hts : ∀ w ∈ Ts, w.before args s = true) (hin : ∀ w ∈ u_ws C T n, w ∈ Ts) (ty0 : Nat → FieldType) (hty : ∀ k, k < n → parseFieldDescriptor (T k).2.2.1 = some (ty0 k)) (hnm : ∀ a, a < n → ∀ b, b < n → a ≠ b → (T a).2.1 ≠ (T b).2.1) (hown : s.vm.findClass own = some m.cls) (hK : va_K D cl tys s) (hS : zS D dA cl w N b ms M0 M H) (hS0 : va_S (zA N b) H0 H locs)
    (hf : zFld cl w ci C T n k 1) (hj : j < N) (hkd : zkd w j = ci) (hlink : zLk s args own index (T k).1 (T k).2.1 (T k).2.2.1) (hfin : (T k).2.2.2 = false) {z : Int} (hd : parseFieldDescriptor (T k).2.2.1 = some .long) (hbd : (zbd w j k).1 ≤ z ∧ z ≤ (zbd w j k).2) (hms : ms j k = true) (hdg : decode cc pc = .ok (.putfield index, 3))
    (kk : ∀ (H1 : Heap) (locs1 : List Loc), zS D dA cl w N b ms M0 (zup M j k z) H1 → va_S (zA N b) H0 H1 locs1 → W p l e R s m args below meth c H1 locs1 cells slots Q (F0 m (pc + 3) ls rest)) : W p l e R s m args below meth c H locs cells slots Q (F0 m pc ls (.long (iL z) :: .ref (b + j) :: rest)) := by
  refine z_putv hexec hb hts hin ty0 hty hnm hown hK hS.1 hS0 hf hj hkd hlink hfin (z := z) hd rfl rfl ?_ hdg (fun H1 locs1 a1 a2 => kk H1 locs1 ⟨a1, zJ_up hS.2.1 hbd, zF_up hS.2.2 hms⟩ a2)
  unfold zfv
  rw [hkd, if_neg (by rw [hf.2.2.2.2]; decide), if_pos hf.2.2.2.2]
/-- the array cell of a plan -/
theorem z_arr {j : Nat} (hR : zR D dA cl w N b M H) (hj : j < N) (hkd : 100 ≤ zkd w j) : va_P D cl [(b + j, .inl (dA (zkd w j - 100), zar w b j (M j)))] H := by
  intro i q hq
  have hi : i = 0 := by
    have := (List.getElem?_eq_some_iff.mp hq).1
    simp at this
    exact this
  subst hi
  cases hq
  have h := hR j hj
  unfold zcell at h
  rw [if_neg (by omega)] at h
  exact h
theorem z_iald (hexec : p.tables.exec = Jvm.exec) (hb : c.code = cc) (hK : va_K D cl tys s) {t0 : Nat} (ht : tys[t0]? = some (dA 0, .int)) (hS : zS D dA cl w N b ms M0 M H) {j n : Nat} (hj : j < N) (hkd : zkd w j = 100) (hln : zln w j = n) {i : Int} (h0 : 0 ≤ i) (h1 : i < n) (hn : n < 2147483648) (hdg : decode cc pc = .ok (.iaload, 1))
    (kk : W p l e R s m args below meth c H locs cells slots Q (F0 m (pc + 1) ls (.int (iI (M j i.toNat)) :: rest))) : W p l e R s m args below meth c H locs cells slots Q (F0 m pc ls (.int (iI i) :: .ref (b + j) :: rest)) := by
  obtain ⟨v1, v2⟩ := iI_in h0 h1 hn
  have hP := z_arr hS.1 hj (by omega)
  rw [hkd] at hP
  unfold zar at hP
  rw [if_neg (by omega), if_pos (by omega), hln] at hP
  refine va_iald hexec hb hK hP 0 t0 rfl ht v1 hdg ?_
  rw [v2]
  exact kk
theorem z_lald (hexec : p.tables.exec = Jvm.exec) (hb : c.code = cc) (hK : va_K D cl tys s) {t0 : Nat} (ht : tys[t0]? = some (dA 1, .long)) (hS : zS D dA cl w N b ms M0 M H) {j n : Nat} (hj : j < N) (hkd : zkd w j = 101) (hln : zln w j = n) {i : Int} (h0 : 0 ≤ i) (h1 : i < n) (hn : n < 2147483648) (hdg : decode cc pc = .ok (.laload, 1))
    (kk : W p l e R s m args below meth c H locs cells slots Q (F0 m (pc + 1) ls (.long (iL (M j i.toNat)) :: rest))) : W p l e R s m args below meth c H locs cells slots Q (F0 m pc ls (.int (iI i) :: .ref (b + j) :: rest)) := by
  obtain ⟨v1, v2⟩ := iI_in h0 h1 hn
  have hP := z_arr hS.1 hj (by omega)
  rw [hkd] at hP
  unfold zar at hP
  rw [if_pos hkd, hln] at hP
  refine va_lald hexec hb hK hP 0 t0 rfl ht v1 hdg ?_
  rw [v2]
  exact kk
theorem z_aald (hexec : p.tables.exec = Jvm.exec) (hb : c.code = cc) (hK : va_K D cl tys s) {t0 r : Nat} {ty : FieldType} (hr : 4 ≤ r) (ht : tys[t0]? = some (dA r, ty)) (hrf : ty.isReference = true) (hS : zS D dA cl w N b ms M0 M H) {j n j2 : Nat} (hj : j < N) (hkd : zkd w j = 100 + r) (hln : zln w j = n) {i : Int} (h0 : 0 ≤ i) (h1 : i < n) (hn : n < 2147483648) (h2 : zrf w j i.toNat = j2) (hdg : decode cc pc = .ok (.aaload, 1))
    (kk : W p l e R s m args below meth c H locs cells slots Q (F0 m (pc + 1) ls (.ref (b + j2) :: rest))) : W p l e R s m args below meth c H locs cells slots Q (F0 m pc ls (.int (iI i) :: .ref (b + j) :: rest)) := by
  obtain ⟨v1, v2⟩ := iI_in h0 h1 hn
  have hP := z_arr hS.1 hj (by omega)
  rw [hkd] at hP
  unfold zar at hP
  rw [if_neg (by omega), if_neg (by omega), hln, show 100 + r - 100 = r by omega] at hP
  have hlt : (iI i).toNatClampNeg < n := by rw [v2]; omega
  refine W.aald (v := .ref (b + j2)) (ty := ty) hexec hb (hP 0 _ rfl) ((hK.2 t0 _ ht).1 n (fun j3 => va_rf (some (b + zrf w j j3)))) hrf (fun q => by cases q) (by show ¬ (iI i < 0 ∨ (arrV _ _ _).slots.size ≤ _); rw [arrV_size]; exact v1) ?_ rfl rfl hdg kk
  show (arrV _ _ _).slots[_]? = _
  rw [arrV_read _ _ hlt, v2]
  show some (va_rf (some (b + zrf w j i.toNat))) = _
  rw [h2]
  rfl
theorem z_iast (hexec : p.tables.exec = Jvm.exec) (hb : c.code = cc) (hK : va_K D cl tys s) {t0 : Nat} (ht : tys[t0]? = some (dA 0, .int)) (hS : zS D dA cl w N b ms M0 M H) (hS0 : va_S (zA N b) H0 H locs) {j n : Nat} (hj : j < N) (hkd : zkd w j = 100) (hln : zln w j = n) {i z : Int} (h0 : 0 ≤ i) (h1 : i < n) (hn : n < 2147483648) (hbd : (zbd w j i.toNat).1 ≤ z ∧ z ≤ (zbd w j i.toNat).2) (hms : ms j i.toNat = true) (hdg : decode cc pc = .ok (.iastore, 1))
    (kk : ∀ (H1 : Heap) (locs1 : List Loc), zS D dA cl w N b ms M0 (zup M j i.toNat z) H1 → va_S (zA N b) H0 H1 locs1 → W p l e R s m args below meth c H1 locs1 cells slots Q (F0 m (pc + 1) ls rest)) : W p l e R s m args below meth c H locs cells slots Q (F0 m pc ls (.int (iI z) :: .int (iI i) :: .ref (b + j) :: rest)) := by
  obtain ⟨v1, v2⟩ := iI_in h0 h1 hn
  have hP := z_arr hS.1 hj (by omega)
  rw [hkd] at hP
  unfold zar at hP
  rw [if_neg (by omega), if_pos (by omega), hln] at hP
  refine W.iast hexec hb (hP 0 _ rfl) ((hK.2 t0 _ ht).1 n (fun j3 => .int (iI (M j j3)))) (fun q => by cases q) (by show ¬ (iI i < 0 ∨ (arrV _ _ _).slots.size ≤ _); rw [arrV_size]; exact v1) rfl rfl hdg fun H1 e1 e2 e3 => ?_
  refine kk H1 _ ⟨?_, zJ_up hS.2.1 hbd, zF_up hS.2.2 hms⟩ (hS0.put e2 e3 ⟨by show b ≤ b + j; omega, by show b + j < b + N; omega⟩)
  intro i2 hi2
  by_cases hij : i2 = j
  · subst hij
    unfold zcell
    rw [if_neg (by omega)]
    show H1[b + i2]? = some (vp_cell _ _)
    rw [e1]
    unfold zar
    rw [if_neg (by omega), if_pos (by omega), hln, hkd, vp_cell_i, vp_cell_i, arrV_store, v2]
    congr 2
    funext q
    by_cases hq : q = i.toNat
    · subst hq
      simp [updV, zup_s]
    · simp only [updV, if_neg hq]
      rw [zup_n]
      exact fun x => hq x.2
  · have := (hS.1 i2 hi2).kept (H1 := H1) (e3 _ (by show b + i2 ≠ b + j; omega))
    rw [zup_row M z hij]
    exact this
theorem z_last (hexec : p.tables.exec = Jvm.exec) (hb : c.code = cc) (hK : va_K D cl tys s) {t0 : Nat} (ht : tys[t0]? = some (dA 1, .long)) (hS : zS D dA cl w N b ms M0 M H) (hS0 : va_S (zA N b) H0 H locs) {j n : Nat} (hj : j < N) (hkd : zkd w j = 101) (hln : zln w j = n) {i z : Int} (h0 : 0 ≤ i) (h1 : i < n) (hn : n < 2147483648) (hbd : (zbd w j i.toNat).1 ≤ z ∧ z ≤ (zbd w j i.toNat).2) (hms : ms j i.toNat = true) (hdg : decode cc pc = .ok (.lastore, 1))
    (kk : ∀ (H1 : Heap) (locs1 : List Loc), zS D dA cl w N b ms M0 (zup M j i.toNat z) H1 → va_S (zA N b) H0 H1 locs1 → W p l e R s m args below meth c H1 locs1 cells slots Q (F0 m (pc + 1) ls rest)) : W p l e R s m args below meth c H locs cells slots Q (F0 m pc ls (.long (iL z) :: .int (iI i) :: .ref (b + j) :: rest)) := by
  obtain ⟨v1, v2⟩ := iI_in h0 h1 hn
  have hP := z_arr hS.1 hj (by omega)
  rw [hkd] at hP
  unfold zar at hP
  rw [if_pos hkd, hln] at hP
  refine W.last hexec hb (hP 0 _ rfl) ((hK.2 t0 _ ht).1 n (fun j3 => .long (iL (M j j3)))) (fun q => by cases q) (by show ¬ (iI i < 0 ∨ (arrV _ _ _).slots.size ≤ _); rw [arrV_size]; exact v1) rfl rfl hdg fun H1 e1 e2 e3 => ?_
  refine kk H1 _ ⟨?_, zJ_up hS.2.1 hbd, zF_up hS.2.2 hms⟩ (hS0.put e2 e3 ⟨by show b ≤ b + j; omega, by show b + j < b + N; omega⟩)
  intro i2 hi2
  by_cases hij : i2 = j
  · subst hij
    unfold zcell
    rw [if_neg (by omega)]
    show H1[b + i2]? = some (vp_cell _ _)
    rw [e1]
    unfold zar
    rw [if_pos hkd, hln, hkd, vp_cell_l, vp_cell_l, arrV_store, v2]
    congr 2
    funext q
    by_cases hq : q = i.toNat
    · subst hq
      simp [updV, zup_s]
    · simp only [updV, if_neg hq]
      rw [zup_n]
      exact fun x => hq x.2
  · have := (hS.1 i2 hi2).kept (H1 := H1) (e3 _ (by show b + i2 ≠ b + j; omega))
    rw [zup_row M z hij]
    exact this
theorem z_alen (hexec : p.tables.exec = Jvm.exec) (hb : c.code = cc) (hK : va_K D cl tys s) {t0 r : Nat} {ty : FieldType} (ht : tys[t0]? = some (dA r, ty)) (hS : zS D dA cl w N b ms M0 M H) {j n : Nat} (hj : j < N) (hkd : zkd w j = 100 + r) (hln : zln w j = n) (hdg : decode cc pc = .ok (.arraylength, 1))
    (kk : W p l e R s m args below meth c H locs cells slots Q (F0 m (pc + 1) ls (.int (iI (n : Int)) :: rest))) : W p l e R s m args below meth c H locs cells slots Q (F0 m pc ls (.ref (b + j) :: rest)) := by
  have hP := z_arr hS.1 hj (by omega)
  have hz : (zar w b j (M j)).1 = n := by
    unfold zar
    split
    · exact hln
    · split
      · exact hln
      · exact hln
  rw [hkd, show 100 + r - 100 = r by omega] at hP
  exact va_alen hexec hb hK hP 0 t0 rfl ht (v := iI (n : Int)) (by rw [hz]; rfl) hdg kk
end ZW
section ZI
variable {p : Program} {l : Launch} {e : Env} {R : Room} {s : State} {m : MethodId} {args : Array Value} {below : List Frame} {meth : Method} {c : Code} {H : Heap} {locs : List Loc} {cells slots : Nat} {Q : State → Prop}
variable {cc : ByteArray} {pc : Nat} {ls : Array Slot} {rest : List Value}
theorem z_iadd (hexec : p.tables.exec = Jvm.exec) (hb : c.code = cc) {x y : Int} (hdg : decode cc pc = .ok (.iadd, 1))
    (k : W p l e R s m args below meth c H locs cells slots Q (F0 m (pc + 1) ls (.int (iI (x + y)) :: rest))) : W p l e R s m args below meth c H locs cells slots Q (F0 m pc ls (.int (iI y) :: .int (iI x) :: rest)) := lv_iadd hexec hb hdg (by rw [iI_add]; exact k)
theorem z_isub (hexec : p.tables.exec = Jvm.exec) (hb : c.code = cc) {x y : Int} (hdg : decode cc pc = .ok (.isub, 1))
    (k : W p l e R s m args below meth c H locs cells slots Q (F0 m (pc + 1) ls (.int (iI (x - y)) :: rest))) : W p l e R s m args below meth c H locs cells slots Q (F0 m pc ls (.int (iI y) :: .int (iI x) :: rest)) := lv_isub hexec hb hdg (by rw [iI_sub]; exact k)
theorem z_imul (hexec : p.tables.exec = Jvm.exec) (hb : c.code = cc) {x y : Int} (hdg : decode cc pc = .ok (.imul, 1))
    (k : W p l e R s m args below meth c H locs cells slots Q (F0 m (pc + 1) ls (.int (iI (x * y)) :: rest))) : W p l e R s m args below meth c H locs cells slots Q (F0 m pc ls (.int (iI y) :: .int (iI x) :: rest)) := lv_imul hexec hb hdg (by rw [iI_mul]; exact k)
theorem z_ladd (hexec : p.tables.exec = Jvm.exec) (hb : c.code = cc) {x y : Int} (hdg : decode cc pc = .ok (.ladd, 1))
    (k : W p l e R s m args below meth c H locs cells slots Q (F0 m (pc + 1) ls (.long (iL (x + y)) :: rest))) : W p l e R s m args below meth c H locs cells slots Q (F0 m pc ls (.long (iL y) :: .long (iL x) :: rest)) := lv_ladd hexec hb hdg (by rw [iL_add]; exact k)
theorem z_lsub (hexec : p.tables.exec = Jvm.exec) (hb : c.code = cc) {x y : Int} (hdg : decode cc pc = .ok (.lsub, 1))
    (k : W p l e R s m args below meth c H locs cells slots Q (F0 m (pc + 1) ls (.long (iL (x - y)) :: rest))) : W p l e R s m args below meth c H locs cells slots Q (F0 m pc ls (.long (iL y) :: .long (iL x) :: rest)) := lv_lsub hexec hb hdg (by rw [iL_sub]; exact k)
theorem z_lmul (hexec : p.tables.exec = Jvm.exec) (hb : c.code = cc) {x y : Int} (hdg : decode cc pc = .ok (.lmul, 1))
    (k : W p l e R s m args below meth c H locs cells slots Q (F0 m (pc + 1) ls (.long (iL (x * y)) :: rest))) : W p l e R s m args below meth c H locs cells slots Q (F0 m pc ls (.long (iL y) :: .long (iL x) :: rest)) := lv_lmul hexec hb hdg (by rw [iL_mul]; exact k)
theorem z_ineg (hexec : p.tables.exec = Jvm.exec) (hb : c.code = cc) {x : Int} (hdg : decode cc pc = .ok (.ineg, 1))
    (k : W p l e R s m args below meth c H locs cells slots Q (F0 m (pc + 1) ls (.int (iI (-x)) :: rest))) : W p l e R s m args below meth c H locs cells slots Q (F0 m pc ls (.int (iI x) :: rest)) := lv_ineg hexec hb hdg (by rw [iI_neg]; exact k)
theorem z_idiv (hexec : p.tables.exec = Jvm.exec) (hb : c.code = cc) {x y : Int} (hx : R32 x) (hy : R32 y) (h0 : y ≠ 0) (hdg : decode cc pc = .ok (.idiv, 1))
    (k : W p l e R s m args below meth c H locs cells slots Q (F0 m (pc + 1) ls (.int (iI (x.tdiv y)) :: rest))) : W p l e R s m args below meth c H locs cells slots Q (F0 m pc ls (.int (iI y) :: .int (iI x) :: rest)) := lv_idiv hexec hb hdg (fun q => h0 (iI_inj hy ⟨by omega, by omega⟩ q)) (by rw [iI_div hx hy]; exact k)
theorem z_irem (hexec : p.tables.exec = Jvm.exec) (hb : c.code = cc) {x y : Int} (hx : R32 x) (hy : R32 y) (h0 : y ≠ 0) (hdg : decode cc pc = .ok (.irem, 1))
    (k : W p l e R s m args below meth c H locs cells slots Q (F0 m (pc + 1) ls (.int (iI (x.tmod y)) :: rest))) : W p l e R s m args below meth c H locs cells slots Q (F0 m pc ls (.int (iI y) :: .int (iI x) :: rest)) := lv_irem hexec hb hdg (fun q => h0 (iI_inj hy ⟨by omega, by omega⟩ q)) (by rw [iI_rem hx hy]; exact k)
theorem z_ldiv (hexec : p.tables.exec = Jvm.exec) (hb : c.code = cc) {x y : Int} (hx : R64 x) (hy : R64 y) (h0 : y ≠ 0) (hdg : decode cc pc = .ok (.ldiv, 1))
    (k : W p l e R s m args below meth c H locs cells slots Q (F0 m (pc + 1) ls (.long (iL (x.tdiv y)) :: rest))) : W p l e R s m args below meth c H locs cells slots Q (F0 m pc ls (.long (iL y) :: .long (iL x) :: rest)) := lv_ldiv hexec hb hdg (fun q => h0 (iL_inj hy ⟨by omega, by omega⟩ q)) (by rw [iL_div hx hy]; exact k)
theorem z_lrem (hexec : p.tables.exec = Jvm.exec) (hb : c.code = cc) {x y : Int} (hx : R64 x) (hy : R64 y) (h0 : y ≠ 0) (hdg : decode cc pc = .ok (.lrem, 1))
    (k : W p l e R s m args below meth c H locs cells slots Q (F0 m (pc + 1) ls (.long (iL (x.tmod y)) :: rest))) : W p l e R s m args below meth c H locs cells slots Q (F0 m pc ls (.long (iL y) :: .long (iL x) :: rest)) := lv_lrem hexec hb hdg (fun q => h0 (iL_inj hy ⟨by omega, by omega⟩ q)) (by rw [iL_rem hx hy]; exact k)
theorem z_i2l (hexec : p.tables.exec = Jvm.exec) (hb : c.code = cc) {x : Int} (hx : R32 x) (hdg : decode cc pc = .ok (.i2l, 1))
    (k : W p l e R s m args below meth c H locs cells slots Q (F0 m (pc + 1) ls (.long (iL x) :: rest))) : W p l e R s m args below meth c H locs cells slots Q (F0 m pc ls (.int (iI x) :: rest)) := lv_i2l hexec hb hdg (iI_long hx) k
theorem z_l2i (hexec : p.tables.exec = Jvm.exec) (hb : c.code = cc) {x : Int} (hdg : decode cc pc = .ok (.l2i, 1))
    (k : W p l e R s m args below meth c H locs cells slots Q (F0 m (pc + 1) ls (.int (iI x) :: rest))) : W p l e R s m args below meth c H locs cells slots Q (F0 m pc ls (.long (iL x) :: rest)) := lv_l2i hexec hb hdg (iL_int x) k
theorem z_iand (hexec : p.tables.exec = Jvm.exec) (hb : c.code = cc) {x y : Int} (hdg : decode cc pc = .ok (.iand, 1))
    (k : ∀ z : Int, R32 z → iI z = iI x &&& iI y → W p l e R s m args below meth c H locs cells slots Q (F0 m (pc + 1) ls (.int (iI z) :: rest))) : W p l e R s m args below meth c H locs cells slots Q (F0 m pc ls (.int (iI y) :: .int (iI x) :: rest)) := lv_iand hexec hb hdg (by obtain ⟨z, hz, e⟩ := iI_of (iI x &&& iI y); rw [e]; exact k z hz e.symm)
theorem z_ior (hexec : p.tables.exec = Jvm.exec) (hb : c.code = cc) {x y : Int} (hdg : decode cc pc = .ok (.ior, 1))
    (k : ∀ z : Int, R32 z → iI z = iI x ||| iI y → W p l e R s m args below meth c H locs cells slots Q (F0 m (pc + 1) ls (.int (iI z) :: rest))) : W p l e R s m args below meth c H locs cells slots Q (F0 m pc ls (.int (iI y) :: .int (iI x) :: rest)) := lv_ior hexec hb hdg (by obtain ⟨z, hz, e⟩ := iI_of (iI x ||| iI y); rw [e]; exact k z hz e.symm)
theorem z_ixor (hexec : p.tables.exec = Jvm.exec) (hb : c.code = cc) {x y : Int} (hdg : decode cc pc = .ok (.ixor, 1))
    (k : ∀ z : Int, R32 z → iI z = iI x ^^^ iI y → W p l e R s m args below meth c H locs cells slots Q (F0 m (pc + 1) ls (.int (iI z) :: rest))) : W p l e R s m args below meth c H locs cells slots Q (F0 m pc ls (.int (iI y) :: .int (iI x) :: rest)) := lv_ixor hexec hb hdg (by obtain ⟨z, hz, e⟩ := iI_of (iI x ^^^ iI y); rw [e]; exact k z hz e.symm)
theorem z_ishl (hexec : p.tables.exec = Jvm.exec) (hb : c.code = cc) {x y : Int} (hdg : decode cc pc = .ok (.ishl, 1))
    (k : ∀ z : Int, R32 z → iI z = iI x <<< (iI y &&& 31) → W p l e R s m args below meth c H locs cells slots Q (F0 m (pc + 1) ls (.int (iI z) :: rest))) : W p l e R s m args below meth c H locs cells slots Q (F0 m pc ls (.int (iI y) :: .int (iI x) :: rest)) := lv_ishl hexec hb hdg (by obtain ⟨z, hz, e⟩ := iI_of (iI x <<< (iI y &&& 31)); rw [e]; exact k z hz e.symm)
theorem z_ishr (hexec : p.tables.exec = Jvm.exec) (hb : c.code = cc) {x y : Int} (hdg : decode cc pc = .ok (.ishr, 1))
    (k : ∀ z : Int, R32 z → iI z = iI x >>> (iI y &&& 31) → W p l e R s m args below meth c H locs cells slots Q (F0 m (pc + 1) ls (.int (iI z) :: rest))) : W p l e R s m args below meth c H locs cells slots Q (F0 m pc ls (.int (iI y) :: .int (iI x) :: rest)) := lv_ishr hexec hb hdg (by obtain ⟨z, hz, e⟩ := iI_of (iI x >>> (iI y &&& 31)); rw [e]; exact k z hz e.symm)
theorem z_iushr (hexec : p.tables.exec = Jvm.exec) (hb : c.code = cc) {x y : Int} (hdg : decode cc pc = .ok (.iushr, 1))
    (k : ∀ z : Int, R32 z → iI z = ((iI x).toUInt32 >>> ((iI y).toUInt32 &&& Int32.toUInt32 31)).toInt32 → W p l e R s m args below meth c H locs cells slots Q (F0 m (pc + 1) ls (.int (iI z) :: rest))) : W p l e R s m args below meth c H locs cells slots Q (F0 m pc ls (.int (iI y) :: .int (iI x) :: rest)) := by
  obtain ⟨z, hz, e⟩ := iI_of (((iI x).toUInt32 >>> ((iI y).toUInt32 &&& Int32.toUInt32 31)).toInt32)
  exact lv_iushr hexec hb hdg e (k z hz e.symm)
theorem z_land (hexec : p.tables.exec = Jvm.exec) (hb : c.code = cc) {x y : Int} (hdg : decode cc pc = .ok (.land, 1))
    (k : ∀ z : Int, R64 z → iL z = iL x &&& iL y → W p l e R s m args below meth c H locs cells slots Q (F0 m (pc + 1) ls (.long (iL z) :: rest))) : W p l e R s m args below meth c H locs cells slots Q (F0 m pc ls (.long (iL y) :: .long (iL x) :: rest)) := lv_land hexec hb hdg (by obtain ⟨z, hz, e⟩ := iL_of (iL x &&& iL y); rw [e]; exact k z hz e.symm)
theorem z_lor (hexec : p.tables.exec = Jvm.exec) (hb : c.code = cc) {x y : Int} (hdg : decode cc pc = .ok (.lor, 1))
    (k : ∀ z : Int, R64 z → iL z = iL x ||| iL y → W p l e R s m args below meth c H locs cells slots Q (F0 m (pc + 1) ls (.long (iL z) :: rest))) : W p l e R s m args below meth c H locs cells slots Q (F0 m pc ls (.long (iL y) :: .long (iL x) :: rest)) := lv_lor hexec hb hdg (by obtain ⟨z, hz, e⟩ := iL_of (iL x ||| iL y); rw [e]; exact k z hz e.symm)
theorem z_lxor (hexec : p.tables.exec = Jvm.exec) (hb : c.code = cc) {x y : Int} (hdg : decode cc pc = .ok (.lxor, 1))
    (k : ∀ z : Int, R64 z → iL z = iL x ^^^ iL y → W p l e R s m args below meth c H locs cells slots Q (F0 m (pc + 1) ls (.long (iL z) :: rest))) : W p l e R s m args below meth c H locs cells slots Q (F0 m pc ls (.long (iL y) :: .long (iL x) :: rest)) := lv_lxor hexec hb hdg (by obtain ⟨z, hz, e⟩ := iL_of (iL x ^^^ iL y); rw [e]; exact k z hz e.symm)
theorem z_lshl (hexec : p.tables.exec = Jvm.exec) (hb : c.code = cc) {x y : Int} (hdg : decode cc pc = .ok (.lshl, 1))
    (k : ∀ z : Int, R64 z → iL z = iL x <<< ((iI y).toInt64 &&& 63) → W p l e R s m args below meth c H locs cells slots Q (F0 m (pc + 1) ls (.long (iL z) :: rest))) : W p l e R s m args below meth c H locs cells slots Q (F0 m pc ls (.int (iI y) :: .long (iL x) :: rest)) := by
  obtain ⟨z, hz, e⟩ := iL_of (iL x <<< ((iI y).toInt64 &&& 63))
  exact lv_lshl hexec hb hdg e (k z hz e.symm)
theorem z_lshr (hexec : p.tables.exec = Jvm.exec) (hb : c.code = cc) {x y : Int} (hdg : decode cc pc = .ok (.lshr, 1))
    (k : ∀ z : Int, R64 z → iL z = iL x >>> ((iI y).toInt64 &&& 63) → W p l e R s m args below meth c H locs cells slots Q (F0 m (pc + 1) ls (.long (iL z) :: rest))) : W p l e R s m args below meth c H locs cells slots Q (F0 m pc ls (.int (iI y) :: .long (iL x) :: rest)) := by
  obtain ⟨z, hz, e⟩ := iL_of (iL x >>> ((iI y).toInt64 &&& 63))
  exact lv_lshr hexec hb hdg e (k z hz e.symm)
theorem z_lushr (hexec : p.tables.exec = Jvm.exec) (hb : c.code = cc) {x y : Int} (hdg : decode cc pc = .ok (.lushr, 1))
    (k : ∀ z : Int, R64 z → iL z = ((iL x).toUInt64 >>> ((iI y).toInt64.toUInt64 &&& Int64.toUInt64 63)).toInt64 → W p l e R s m args below meth c H locs cells slots Q (F0 m (pc + 1) ls (.long (iL z) :: rest))) : W p l e R s m args below meth c H locs cells slots Q (F0 m pc ls (.int (iI y) :: .long (iL x) :: rest)) := by
  obtain ⟨z, hz, e⟩ := iL_of (((iL x).toUInt64 >>> ((iI y).toInt64.toUInt64 &&& Int64.toUInt64 63)).toInt64)
  exact lv_lushr hexec hb hdg e (k z hz e.symm)
theorem z_iconst (hexec : p.tables.exec = Jvm.exec) (hb : c.code = cc) {n : Int} (hdg : decode cc pc = .ok (.iconst n, 1))
    (k : W p l e R s m args below meth c H locs cells slots Q (F0 m (pc + 1) ls (.int (iI n) :: rest))) : W p l e R s m args below meth c H locs cells slots Q (F0 m pc ls (rest)) := lv_iconst hexec hb hdg rfl k
theorem z_bipush (hexec : p.tables.exec = Jvm.exec) (hb : c.code = cc) {n : Int} (hn : (Int8.ofInt n).toInt32 = iI n) (hdg : decode cc pc = .ok (.bipush n, 2))
    (k : W p l e R s m args below meth c H locs cells slots Q (F0 m (pc + 2) ls (.int (iI n) :: rest))) : W p l e R s m args below meth c H locs cells slots Q (F0 m pc ls (rest)) := lv_bipush hexec hb hdg hn k
theorem z_sipush (hexec : p.tables.exec = Jvm.exec) (hb : c.code = cc) {n : Int} (hn : (Int16.ofInt n).toInt32 = iI n) (hdg : decode cc pc = .ok (.sipush n, 3))
    (k : W p l e R s m args below meth c H locs cells slots Q (F0 m (pc + 3) ls (.int (iI n) :: rest))) : W p l e R s m args below meth c H locs cells slots Q (F0 m pc ls (rest)) := lv_sipush hexec hb hdg hn k
theorem z_lconst0 (hexec : p.tables.exec = Jvm.exec) (hb : c.code = cc) (hdg : decode cc pc = .ok (.lconst 0, 1))
    (k : W p l e R s m args below meth c H locs cells slots Q (F0 m (pc + 1) ls (.long (iL 0) :: rest))) : W p l e R s m args below meth c H locs cells slots Q (F0 m pc ls (rest)) := lv_lconst hexec hb hdg rfl k
theorem z_lconst1 (hexec : p.tables.exec = Jvm.exec) (hb : c.code = cc) (hdg : decode cc pc = .ok (.lconst 1, 1))
    (k : W p l e R s m args below meth c H locs cells slots Q (F0 m (pc + 1) ls (.long (iL 1) :: rest))) : W p l e R s m args below meth c H locs cells slots Q (F0 m pc ls (rest)) := lv_lconst hexec hb hdg rfl k
theorem z_ldc (hexec : p.tables.exec = Jvm.exec) (hb : c.code = cc) {own : String} {index : Nat} {n : Int} {v : Int32} (hown : s.vm.findClass own = some m.cls) (hc : (Jvm.Cond.constant own index v).before args s = true) (hv : v = iI n) (hdg : decode cc pc = .ok (.ldc index, 2))
    (k : W p l e R s m args below meth c H locs cells slots Q (F0 m (pc + 2) ls (.int (iI n) :: rest))) : W p l e R s m args below meth c H locs cells slots Q (F0 m pc ls (rest)) := lv_ldc hexec hb hown hc hdg (by rw [hv]; exact k)
theorem z_ldc2 (hexec : p.tables.exec = Jvm.exec) (hb : c.code = cc) {own : String} {index : Nat} {n : Int} {v : Int64} (hown : s.vm.findClass own = some m.cls) (hc : (Jvm.Cond.constantLong own index v).before args s = true) (hv : v = iL n) (hdg : decode cc pc = .ok (.ldc2_w index, 3))
    (k : W p l e R s m args below meth c H locs cells slots Q (F0 m (pc + 3) ls (.long (iL n) :: rest))) : W p l e R s m args below meth c H locs cells slots Q (F0 m pc ls (rest)) := lv_ldc2 hexec hb hown hc hdg (by rw [hv]; exact k)
theorem z_icmp_eq (hexec : p.tables.exec = Jvm.exec) (hb : c.code = cc) {x y : Int} {off : Int} {tgt : Nat} (hx : R32 x) (hy : R32 y) (hdg : decode cc pc = .ok (.if_icmp .eq off, 3)) (ht : (pc : Int) + off = (tgt : Int))
    (kt : x = y → W p l e R s m args below meth c H locs cells slots Q (F0 m tgt ls rest)) (kf : x ≠ y → W p l e R s m args below meth c H locs cells slots Q (F0 m (pc + 3) ls rest)) : W p l e R s m args below meth c H locs cells slots Q (F0 m pc ls (.int (iI y) :: .int (iI x) :: rest)) := lv_icmp_eq hexec hb hdg ht (fun q => kt ((iI_eq hx hy).mp q)) (fun q => kf (fun z => q ((iI_eq hx hy).mpr z)))
theorem z_icmp_ne (hexec : p.tables.exec = Jvm.exec) (hb : c.code = cc) {x y : Int} {off : Int} {tgt : Nat} (hx : R32 x) (hy : R32 y) (hdg : decode cc pc = .ok (.if_icmp .ne off, 3)) (ht : (pc : Int) + off = (tgt : Int))
    (kt : x ≠ y → W p l e R s m args below meth c H locs cells slots Q (F0 m tgt ls rest)) (kf : x = y → W p l e R s m args below meth c H locs cells slots Q (F0 m (pc + 3) ls rest)) : W p l e R s m args below meth c H locs cells slots Q (F0 m pc ls (.int (iI y) :: .int (iI x) :: rest)) := lv_icmp_ne hexec hb hdg ht (fun q => kt (fun z => q ((iI_eq hx hy).mpr z))) (fun q => kf ((iI_eq hx hy).mp q))
theorem z_icmp_lt (hexec : p.tables.exec = Jvm.exec) (hb : c.code = cc) {x y : Int} {off : Int} {tgt : Nat} (hx : R32 x) (hy : R32 y) (hdg : decode cc pc = .ok (.if_icmp .lt off, 3)) (ht : (pc : Int) + off = (tgt : Int))
    (kt : x < y → W p l e R s m args below meth c H locs cells slots Q (F0 m tgt ls rest)) (kf : y ≤ x → W p l e R s m args below meth c H locs cells slots Q (F0 m (pc + 3) ls rest)) : W p l e R s m args below meth c H locs cells slots Q (F0 m pc ls (.int (iI y) :: .int (iI x) :: rest)) := lv_icmp_lt hexec hb hdg ht (fun q => kt ((iI_lt hx hy).mp q)) (fun q => kf (Int.not_lt.mp (fun z => q ((iI_lt hx hy).mpr z))))
theorem z_icmp_ge (hexec : p.tables.exec = Jvm.exec) (hb : c.code = cc) {x y : Int} {off : Int} {tgt : Nat} (hx : R32 x) (hy : R32 y) (hdg : decode cc pc = .ok (.if_icmp .ge off, 3)) (ht : (pc : Int) + off = (tgt : Int))
    (kt : y ≤ x → W p l e R s m args below meth c H locs cells slots Q (F0 m tgt ls rest)) (kf : x < y → W p l e R s m args below meth c H locs cells slots Q (F0 m (pc + 3) ls rest)) : W p l e R s m args below meth c H locs cells slots Q (F0 m pc ls (.int (iI y) :: .int (iI x) :: rest)) := lv_icmp_ge hexec hb hdg ht (fun q => kt ((iI_le hy hx).mp q)) (fun q => kf (Int.not_le.mp (fun z => q ((iI_le hy hx).mpr z))))
theorem z_icmp_gt (hexec : p.tables.exec = Jvm.exec) (hb : c.code = cc) {x y : Int} {off : Int} {tgt : Nat} (hx : R32 x) (hy : R32 y) (hdg : decode cc pc = .ok (.if_icmp .gt off, 3)) (ht : (pc : Int) + off = (tgt : Int))
    (kt : y < x → W p l e R s m args below meth c H locs cells slots Q (F0 m tgt ls rest)) (kf : x ≤ y → W p l e R s m args below meth c H locs cells slots Q (F0 m (pc + 3) ls rest)) : W p l e R s m args below meth c H locs cells slots Q (F0 m pc ls (.int (iI y) :: .int (iI x) :: rest)) := lv_icmp_gt hexec hb hdg ht (fun q => kt ((iI_lt hy hx).mp q)) (fun q => kf (Int.not_lt.mp (fun z => q ((iI_lt hy hx).mpr z))))
theorem z_icmp_le (hexec : p.tables.exec = Jvm.exec) (hb : c.code = cc) {x y : Int} {off : Int} {tgt : Nat} (hx : R32 x) (hy : R32 y) (hdg : decode cc pc = .ok (.if_icmp .le off, 3)) (ht : (pc : Int) + off = (tgt : Int))
    (kt : x ≤ y → W p l e R s m args below meth c H locs cells slots Q (F0 m tgt ls rest)) (kf : y < x → W p l e R s m args below meth c H locs cells slots Q (F0 m (pc + 3) ls rest)) : W p l e R s m args below meth c H locs cells slots Q (F0 m pc ls (.int (iI y) :: .int (iI x) :: rest)) := lv_icmp_le hexec hb hdg ht (fun q => kt ((iI_le hx hy).mp q)) (fun q => kf (Int.not_le.mp (fun z => q ((iI_le hx hy).mpr z))))
theorem z_if_eq (hexec : p.tables.exec = Jvm.exec) (hb : c.code = cc) {x : Int} {off : Int} {tgt : Nat} (hx : R32 x) (hdg : decode cc pc = .ok (.ifCond .eq off, 3)) (ht : (pc : Int) + off = (tgt : Int))
    (kt : x = 0 → W p l e R s m args below meth c H locs cells slots Q (F0 m tgt ls rest)) (kf : x ≠ 0 → W p l e R s m args below meth c H locs cells slots Q (F0 m (pc + 3) ls rest)) : W p l e R s m args below meth c H locs cells slots Q (F0 m pc ls (.int (iI x) :: rest)) := by
  have h0 : R32 0 := ⟨by omega, by omega⟩
  exact lv_if_eq hexec hb hdg ht (fun q => kt ((iI_eq hx h0).mp q)) (fun q => kf (fun z => q ((iI_eq hx h0).mpr z)))
theorem z_if_ne (hexec : p.tables.exec = Jvm.exec) (hb : c.code = cc) {x : Int} {off : Int} {tgt : Nat} (hx : R32 x) (hdg : decode cc pc = .ok (.ifCond .ne off, 3)) (ht : (pc : Int) + off = (tgt : Int))
    (kt : x ≠ 0 → W p l e R s m args below meth c H locs cells slots Q (F0 m tgt ls rest)) (kf : x = 0 → W p l e R s m args below meth c H locs cells slots Q (F0 m (pc + 3) ls rest)) : W p l e R s m args below meth c H locs cells slots Q (F0 m pc ls (.int (iI x) :: rest)) := by
  have h0 : R32 0 := ⟨by omega, by omega⟩
  exact lv_if_ne hexec hb hdg ht (fun q => kt (fun z => q ((iI_eq hx h0).mpr z))) (fun q => kf ((iI_eq hx h0).mp q))
theorem z_if_lt (hexec : p.tables.exec = Jvm.exec) (hb : c.code = cc) {x : Int} {off : Int} {tgt : Nat} (hx : R32 x) (hdg : decode cc pc = .ok (.ifCond .lt off, 3)) (ht : (pc : Int) + off = (tgt : Int))
    (kt : x < 0 → W p l e R s m args below meth c H locs cells slots Q (F0 m tgt ls rest)) (kf : 0 ≤ x → W p l e R s m args below meth c H locs cells slots Q (F0 m (pc + 3) ls rest)) : W p l e R s m args below meth c H locs cells slots Q (F0 m pc ls (.int (iI x) :: rest)) := by
  have h0 : R32 0 := ⟨by omega, by omega⟩
  exact lv_if_lt hexec hb hdg ht (fun q => kt ((iI_lt hx h0).mp q)) (fun q => kf (Int.not_lt.mp (fun z => q ((iI_lt hx h0).mpr z))))
theorem z_if_ge (hexec : p.tables.exec = Jvm.exec) (hb : c.code = cc) {x : Int} {off : Int} {tgt : Nat} (hx : R32 x) (hdg : decode cc pc = .ok (.ifCond .ge off, 3)) (ht : (pc : Int) + off = (tgt : Int))
    (kt : 0 ≤ x → W p l e R s m args below meth c H locs cells slots Q (F0 m tgt ls rest)) (kf : x < 0 → W p l e R s m args below meth c H locs cells slots Q (F0 m (pc + 3) ls rest)) : W p l e R s m args below meth c H locs cells slots Q (F0 m pc ls (.int (iI x) :: rest)) := by
  have h0 : R32 0 := ⟨by omega, by omega⟩
  exact lv_if_ge hexec hb hdg ht (fun q => kt ((iI_le h0 hx).mp q)) (fun q => kf (Int.not_le.mp (fun z => q ((iI_le h0 hx).mpr z))))
theorem z_if_gt (hexec : p.tables.exec = Jvm.exec) (hb : c.code = cc) {x : Int} {off : Int} {tgt : Nat} (hx : R32 x) (hdg : decode cc pc = .ok (.ifCond .gt off, 3)) (ht : (pc : Int) + off = (tgt : Int))
    (kt : 0 < x → W p l e R s m args below meth c H locs cells slots Q (F0 m tgt ls rest)) (kf : x ≤ 0 → W p l e R s m args below meth c H locs cells slots Q (F0 m (pc + 3) ls rest)) : W p l e R s m args below meth c H locs cells slots Q (F0 m pc ls (.int (iI x) :: rest)) := by
  have h0 : R32 0 := ⟨by omega, by omega⟩
  exact lv_if_gt hexec hb hdg ht (fun q => kt ((iI_lt h0 hx).mp q)) (fun q => kf (Int.not_lt.mp (fun z => q ((iI_lt h0 hx).mpr z))))
theorem z_if_le (hexec : p.tables.exec = Jvm.exec) (hb : c.code = cc) {x : Int} {off : Int} {tgt : Nat} (hx : R32 x) (hdg : decode cc pc = .ok (.ifCond .le off, 3)) (ht : (pc : Int) + off = (tgt : Int))
    (kt : x ≤ 0 → W p l e R s m args below meth c H locs cells slots Q (F0 m tgt ls rest)) (kf : 0 < x → W p l e R s m args below meth c H locs cells slots Q (F0 m (pc + 3) ls rest)) : W p l e R s m args below meth c H locs cells slots Q (F0 m pc ls (.int (iI x) :: rest)) := by
  have h0 : R32 0 := ⟨by omega, by omega⟩
  exact lv_if_le hexec hb hdg ht (fun q => kt ((iI_le hx h0).mp q)) (fun q => kf (Int.not_le.mp (fun z => q ((iI_le hx h0).mpr z))))
theorem z_lcmp_lt (hexec : p.tables.exec = Jvm.exec) (hb : c.code = cc) {x y : Int} {off : Int} {tgt : Nat} (hx : R64 x) (hy : R64 y) (hd1 : decode cc pc = .ok (.lcmp, 1)) (hdg : decode cc (pc + 1) = .ok (.ifCond .lt off, 3)) (ht : ((pc + 1 : Nat) : Int) + off = (tgt : Int))
    (kt : x < y → W p l e R s m args below meth c H locs cells slots Q (F0 m tgt ls rest)) (kf : y ≤ x → W p l e R s m args below meth c H locs cells slots Q (F0 m (pc + 1 + 3) ls rest)) : W p l e R s m args below meth c H locs cells slots Q (F0 m pc ls (.long (iL y) :: .long (iL x) :: rest)) := W.lcmp hexec hb hd1 (lv_if_lt hexec hb hdg ht (fun q => kt ((iL_lt hx hy).mp ((lg_cmp_lt _ _).mp q))) (fun q => kf (Int.not_lt.mp (fun z => q ((lg_cmp_lt _ _).mpr ((iL_lt hx hy).mpr z))))))
theorem z_lcmp_ge (hexec : p.tables.exec = Jvm.exec) (hb : c.code = cc) {x y : Int} {off : Int} {tgt : Nat} (hx : R64 x) (hy : R64 y) (hd1 : decode cc pc = .ok (.lcmp, 1)) (hdg : decode cc (pc + 1) = .ok (.ifCond .ge off, 3)) (ht : ((pc + 1 : Nat) : Int) + off = (tgt : Int))
    (kt : y ≤ x → W p l e R s m args below meth c H locs cells slots Q (F0 m tgt ls rest)) (kf : x < y → W p l e R s m args below meth c H locs cells slots Q (F0 m (pc + 1 + 3) ls rest)) : W p l e R s m args below meth c H locs cells slots Q (F0 m pc ls (.long (iL y) :: .long (iL x) :: rest)) := W.lcmp hexec hb hd1 (lv_if_ge hexec hb hdg ht (fun q => kt ((iL_le hy hx).mp ((lg_cmp_ge _ _).mp q))) (fun q => kf (Int.not_le.mp (fun z => q ((lg_cmp_ge _ _).mpr ((iL_le hy hx).mpr z))))))
theorem z_lcmp_gt (hexec : p.tables.exec = Jvm.exec) (hb : c.code = cc) {x y : Int} {off : Int} {tgt : Nat} (hx : R64 x) (hy : R64 y) (hd1 : decode cc pc = .ok (.lcmp, 1)) (hdg : decode cc (pc + 1) = .ok (.ifCond .gt off, 3)) (ht : ((pc + 1 : Nat) : Int) + off = (tgt : Int))
    (kt : y < x → W p l e R s m args below meth c H locs cells slots Q (F0 m tgt ls rest)) (kf : x ≤ y → W p l e R s m args below meth c H locs cells slots Q (F0 m (pc + 1 + 3) ls rest)) : W p l e R s m args below meth c H locs cells slots Q (F0 m pc ls (.long (iL y) :: .long (iL x) :: rest)) := W.lcmp hexec hb hd1 (lv_if_gt hexec hb hdg ht (fun q => kt ((iL_lt hy hx).mp ((lg_cmp_gt _ _).mp q))) (fun q => kf (Int.not_lt.mp (fun z => q ((lg_cmp_gt _ _).mpr ((iL_lt hy hx).mpr z))))))
theorem z_lcmp_le (hexec : p.tables.exec = Jvm.exec) (hb : c.code = cc) {x y : Int} {off : Int} {tgt : Nat} (hx : R64 x) (hy : R64 y) (hd1 : decode cc pc = .ok (.lcmp, 1)) (hdg : decode cc (pc + 1) = .ok (.ifCond .le off, 3)) (ht : ((pc + 1 : Nat) : Int) + off = (tgt : Int))
    (kt : x ≤ y → W p l e R s m args below meth c H locs cells slots Q (F0 m tgt ls rest)) (kf : y < x → W p l e R s m args below meth c H locs cells slots Q (F0 m (pc + 1 + 3) ls rest)) : W p l e R s m args below meth c H locs cells slots Q (F0 m pc ls (.long (iL y) :: .long (iL x) :: rest)) := W.lcmp hexec hb hd1 (lv_if_le hexec hb hdg ht (fun q => kt ((iL_le hx hy).mp ((lg_cmp_le _ _).mp q))) (fun q => kf (Int.not_le.mp (fun z => q ((lg_cmp_le _ _).mpr ((iL_le hx hy).mpr z))))))
theorem z_lcmp_eq (hexec : p.tables.exec = Jvm.exec) (hb : c.code = cc) {x y : Int} {off : Int} {tgt : Nat} (hx : R64 x) (hy : R64 y) (hd1 : decode cc pc = .ok (.lcmp, 1)) (hdg : decode cc (pc + 1) = .ok (.ifCond .eq off, 3)) (ht : ((pc + 1 : Nat) : Int) + off = (tgt : Int))
    (kt : x = y → W p l e R s m args below meth c H locs cells slots Q (F0 m tgt ls rest)) (kf : x ≠ y → W p l e R s m args below meth c H locs cells slots Q (F0 m (pc + 1 + 3) ls rest)) : W p l e R s m args below meth c H locs cells slots Q (F0 m pc ls (.long (iL y) :: .long (iL x) :: rest)) := W.lcmp hexec hb hd1 (lv_if_eq hexec hb hdg ht (fun q => kt ((iL_eq hx hy).mp ((lg_cmp_eq _ _).mp q))) (fun q => kf (fun z => q ((lg_cmp_eq _ _).mpr ((iL_eq hx hy).mpr z)))))
theorem z_lcmp_ne (hexec : p.tables.exec = Jvm.exec) (hb : c.code = cc) {x y : Int} {off : Int} {tgt : Nat} (hx : R64 x) (hy : R64 y) (hd1 : decode cc pc = .ok (.lcmp, 1)) (hdg : decode cc (pc + 1) = .ok (.ifCond .ne off, 3)) (ht : ((pc + 1 : Nat) : Int) + off = (tgt : Int))
    (kt : x ≠ y → W p l e R s m args below meth c H locs cells slots Q (F0 m tgt ls rest)) (kf : x = y → W p l e R s m args below meth c H locs cells slots Q (F0 m (pc + 1 + 3) ls rest)) : W p l e R s m args below meth c H locs cells slots Q (F0 m pc ls (.long (iL y) :: .long (iL x) :: rest)) := W.lcmp hexec hb hd1 (lv_if_ne hexec hb hdg ht (fun q => kt (fun z => q ((lg_cmp_eq _ _).mpr ((iL_eq hx hy).mpr z)))) (fun q => kf ((iL_eq hx hy).mp ((lg_cmp_eq _ _).mp q))))
theorem z_iinc (hexec : p.tables.exec = Jvm.exec) (hb : c.code = cc) {i nL k : Nat} {n x : Int} {lv lv' : List (Nat × Value)} (hdg : decode cc pc = .ok (.iinc i n, 3)) (h : lv_has ls nL lv) (hk : lv[k]? = some (i, .int (iI x))) (hn : i < nL) (hl : (i, Value.int (iI (x + n))) :: lv.filter (fun q => !(q.1 == i) && !(q.1 + 1 == i && q.2.category == 2)) = lv')
    (kk : ∀ ls' : Array Slot, lv_has ls' nL lv' → W p l e R s m args below meth c H locs cells slots Q (F0 m (pc + 3) ls' rest)) : W p l e R s m args below meth c H locs cells slots Q (F0 m pc ls rest) := lv_iinc (v := iI (x + n)) hexec hb hdg h hk (iI_add x n) hn hl kk
/-- the number on top, written otherwise -/
theorem z_top {x y : Int} (h : x = y) (k : W p l e R s m args below meth c H locs cells slots Q (F0 m pc ls (.int (iI y) :: rest))) : W p l e R s m args below meth c H locs cells slots Q (F0 m pc ls (.int (iI x) :: rest)) := by rw [h]; exact k
theorem z_topl {x y : Int} (h : x = y) (k : W p l e R s m args below meth c H locs cells slots Q (F0 m pc ls (.long (iL y) :: rest))) : W p l e R s m args below meth c H locs cells slots Q (F0 m pc ls (.long (iL x) :: rest)) := by rw [h]; exact k
end ZI
/-! CALLS over a world -/
/-- the links of nest mates -/
def zNst (U : State) : Prop := ∀ q ∈ z_nest, va_Nw (.methodLinkNest q.1 q.2.1 q.2.2.1 q.2.2.2) U
theorem zNst.warm {s U : State} (hW : s.WarmedH U.vm) (h : zNst s) : zNst U := fun q hq => va_Nw.warmM hW (h q hq)
theorem zNst.same {u U : State} (e : u.vm = U.vm) (h : zNst u) : zNst U := fun q hq => va_Nw.same rfl e (h q hq)
def zKK (D : va_G) (cl : List vw_C) (tys : List (ClassId × FieldType)) (U : State) : Prop := va_K D cl tys U ∧ zNst U
def zP (D : va_G) (dA : Nat → ClassId) (cl : List vw_C) (tys : List (ClassId × FieldType)) (w : zW) (N b : Nat) (M : zM) : State → Prop := fun U => zR D dA cl w N b M U.heap ∧ zJ w M ∧ zKK D cl tys U
def zB (D : va_G) (dA : Nat → ClassId) (cl : List vw_C) (w : zW) (N b : Nat) : zM → State → Prop := fun u t => zR D dA cl w N b u t.heap
def zQi (w : zW) (ms : Nat → Nat → Bool) (M : zM) (post : Int → zM → Prop) : Int32 → zM → Prop := fun r u => ∃ z, r = iI z ∧ R32 z ∧ zJ w u ∧ zF ms M u ∧ post z u
def zQl (w : zW) (ms : Nat → Nat → Bool) (M : zM) (post : Int → zM → Prop) : Int64 → zM → Prop := fun r u => ∃ z, r = iL z ∧ R64 z ∧ zJ w u ∧ zF ms M u ∧ post z u
def zQv (w : zW) (ms : Nat → Nat → Bool) (M : zM) (post : zM → Prop) : zM → Prop := fun u => zJ w u ∧ zF ms M u ∧ post u
theorem zP_blind {D : va_G} {dA : Nat → ClassId} {cl : List vw_C} {tys : List (ClassId × FieldType)} {w : zW} {N b : Nat} {M : zM} {As : List Value} : FrameBlind (va_Pc As (zP D dA cl tys w N b M)) := fun _ U g mk q => ⟨q.1, q.2.1, q.2.2.1, va_K.moved (u := U) (U := U.calling g mk _) (Vm.Alike.refl U.vm) q.2.2.2.1, zNst.same (u := U) rfl q.2.2.2.2⟩
section ZC
variable {p : Program} {l : Launch} {e : Env} {R : Room} {s : State} {m : MethodId} {args : Array Value} {below : List Frame} {meth : Method} {c : Code} {H : Heap} {locs : List Loc} {cells slots : Nat} {Q : State → Prop}
variable {cc : ByteArray} {pc : Nat} {ls : Array Slot} {rest st0 : List Value} {D : va_G} {dA : Nat → ClassId} {cl : List vw_C} {tys : List (ClassId × FieldType)} {H0 : Heap} {w : zW} {N b : Nat} {ms msC : Nat → Nat → Bool} {M0 M : zM} {a : Array Value}
theorem z_pre (hS : zS D dA cl w N b ms M0 M H) (hK : zKK D cl tys s) {As : List Value} : ∀ U : State, U.heap = H → s.WarmedH U.vm → va_Pc As (zP D dA cl tys w N b M) As.toArray U := fun _ hU hW => ⟨rfl, by rw [hU]; exact hS.1, hS.2.1, va_K.moved hW.alike hK.1, zNst.warm hW hK.2⟩
theorem z_recv (hS : zS D dA cl w N b ms M0 M H) (hK : va_K D cl tys s) {C : String} {T : u_T} {n ci j : Nat} (hj : j < N) (hkd : zkd w j = ci) (hci : ci < 100) (hc : cl[ci]? = some (C, T, n)) : ∃ cell : Cell, H[b + j]? = some cell ∧ cell.vm.isStatics = false ∧ s.vm.findClass C = some cell.cls := by
  subst hkd
  have h := hS.1 j hj
  unfold zcell at h
  rw [if_pos hci] at h
  obtain ⟨q', h1, cell, g1, g2, g3, -⟩ := h
  exact ⟨cell, g1, by rw [g3]; rfl, by rw [g2]; exact (hK.1 _ _ hc).2.1⟩
theorem z_calli {post : Int → zM → Prop} (hr : va_Run p l e R s m args below meth c H locs cells slots 0 0 (F0 m pc ls st0) rest (va_Qi (zQi w msC M post) (zB D dA cl w N b) (zA N b) a) (zA N b)) (hS : zS D dA cl w N b ms M0 M H) (hS0 : va_S (zA N b) H0 H locs) (hms : ∀ j k, ms j k = false → msC j k = false)
    (kk : ∀ (z : Int) (M1 : zM) (H1 : Heap) (locs1 : List Loc), R32 z → post z M1 → zF msC M M1 → zS D dA cl w N b ms M0 M1 H1 → va_S (zA N b) H0 H1 locs1 → W p l e R s m args below meth c H1 locs1 cells slots Q (F0 m (pc + 3) ls (.int (iI z) :: rest))) : W p l e R s m args below meth c H locs cells slots Q (F0 m pc ls st0) := by
  refine va_calli hr hS0 (fun q _ h => h) (fun q h => h) (fun r u t H1 locs1 ht _ hp hB _ _ hS1 => ?_)
  obtain ⟨z, rfl, hz, hJ, hF, hp⟩ := hp
  unfold zB at hB
  rw [ht] at hB
  exact kk z u H1 locs1 hz hp hF ⟨hB, hJ, zF_tr hS.2.2 (zF_mono hF hms)⟩ hS1
theorem z_calll {post : Int → zM → Prop} (hr : va_Run p l e R s m args below meth c H locs cells slots 0 0 (F0 m pc ls st0) rest (va_Ql (zQl w msC M post) (zB D dA cl w N b) (zA N b) a) (zA N b)) (hS : zS D dA cl w N b ms M0 M H) (hS0 : va_S (zA N b) H0 H locs) (hms : ∀ j k, ms j k = false → msC j k = false)
    (kk : ∀ (z : Int) (M1 : zM) (H1 : Heap) (locs1 : List Loc), R64 z → post z M1 → zF msC M M1 → zS D dA cl w N b ms M0 M1 H1 → va_S (zA N b) H0 H1 locs1 → W p l e R s m args below meth c H1 locs1 cells slots Q (F0 m (pc + 3) ls (.long (iL z) :: rest))) : W p l e R s m args below meth c H locs cells slots Q (F0 m pc ls st0) := by
  refine va_calll hr hS0 (fun q _ h => h) (fun q h => h) (fun r u t H1 locs1 ht _ hp hB _ _ hS1 => ?_)
  obtain ⟨z, rfl, hz, hJ, hF, hp⟩ := hp
  unfold zB at hB
  rw [ht] at hB
  exact kk z u H1 locs1 hz hp hF ⟨hB, hJ, zF_tr hS.2.2 (zF_mono hF hms)⟩ hS1
theorem z_callv {post : zM → Prop} (hr : va_Run p l e R s m args below meth c H locs cells slots 0 0 (F0 m pc ls st0) rest (va_Qv (zQv w msC M post) (zB D dA cl w N b) (zA N b) a) (zA N b)) (hS : zS D dA cl w N b ms M0 M H) (hS0 : va_S (zA N b) H0 H locs) (hms : ∀ j k, ms j k = false → msC j k = false)
    (kk : ∀ (M1 : zM) (H1 : Heap) (locs1 : List Loc), post M1 → zF msC M M1 → zS D dA cl w N b ms M0 M1 H1 → va_S (zA N b) H0 H1 locs1 → W p l e R s m args below meth c H1 locs1 cells slots Q (F0 m (pc + 3) ls rest)) : W p l e R s m args below meth c H locs cells slots Q (F0 m pc ls st0) := by
  refine va_callv hr hS0 (fun q _ h => h) (fun q h => h) (fun u t H1 locs1 ht _ hp hB _ _ hS1 => ?_)
  obtain ⟨hJ, hF, hp⟩ := hp
  unfold zB at hB
  rw [ht] at hB
  exact kk u H1 locs1 hp hF ⟨hB, hJ, zF_tr hS.2.2 (zF_mono hF hms)⟩ hS1
end ZC
end zz05_base
section zz06_plan
/-! THE PLAN of the two worlds: 0 TapeRings; 1 TapeRings$Splicer; 2 TapeRings$Splicer.signs; 3 TapeRings$Splicer.rows; 4 TapeRings$Splicer.terms; 5 TapeRings$Splicer.shared; 6 TapeRings$Strip; 7 TapeRings$Strip.inches; 8 TapeRings$Studio; 9 TapeRings$Studio.motors; 10 TapeRings$Studio.rings; 11 TapeRings$Motor; 12 TapeRings$Motor.ticks; 13 TapeRings$Motor.speeds; 14 TapeRings$Ring; 15 TapeRings$Ring.under; 16 TapeRings$Meeting; 17 TapeRings$Meeting.rounds; 18 TapeRings$Meeting.turns; 19 TapeRings$Planner; 20 TapeRings$Planner.ticks; 21 TapeRings$Planner.sounds; 22 TapeRings$Planner.plan; 23 TapeRings$Planner.trueBy; 24 TapeRings$Planner.trueBy[]; 25 TapeRings$Planner.costs; 26 TapeRings$Planner.costs[]; 27 TapeRings$Planner.cheapest; 28 TapeRings$Planner.under; 29 TapeRings$Planner.ways; 30 TapeRings$Echo; 31 TapeRings$Echo.comesBack; 32 TapeRings$Echo.weights; 33 TapeRings$Echo.outs; 34 TapeRings$OldTape; 35 TapeRings$OldTape.places; 36 TapeRings$OldTape.first; 37 TapeRings$OldTape.second; 38 TapeRings$Pieces; 39 TapeRings$Pieces.best; 40 TapeRings$Pieces.sounds; 41 TapeRings$Pieces.sounds[]; 42 TapeRings$Pieces.lengths; 43 TapeRings$Pieces.laid; 44 TapeRings$Versions; 45 TapeRings$Versions.strips; 46 TapeRings$Versions.rings; 47 TapeRings$Versions.days; 48 TapeRings$Versions.steps; 49 TapeRings.told; 50 TapeRingsModel; 51 TapeRingsModel.text; 52 TapeRingsModel.hand; 53 TapeRingsModel.inches; 54 TapeRingsModel.length; 55 TapeRingsModel.motorOf; 56 TapeRingsModel.start; 57 TapeRingsModel.heads; 58 TapeRingsModel.wish; 59 TapeRingsModel.ticks; 60 TapeRingsModel.speeds; 61 TapeRingsModel.toldMany; 62 TapeRingsModel.markTick; 63 TapeRingsModel.markSound; 64 TapeRingsModel.weights; 65 TapeRingsModel.tape; 66 TapeRingsModel.pieces; 67 TapeRingsModel.pieceSize; 68 TapeRingsModel.versions; 69 TapeRingsModel.versionSize; 70 TapeRingsModel.versionRing; 71 TapeRingsModel.versionDay; 72 TapeRingsModel.row; 73 TapeRingsModel.rowInches; 74 TapeRingsModel.rowSize; 75 TapeRingsModel.termInches; 76 TapeRingsModel.termSize; 77 TapeRingsModel.isHeard; 78 TapeRingsModel.rest; 79 TapeRingsModel.trues; 80 TapeRingsModel.outs; 81 TapeRingsModel.joined; 82 TapeRingsModel.best; 83 TapeRingsModel.edit -/
def zp_kd (q : Nat) : Nat := [11, 7, 100, 104, 104, 100, 8, 100, 9, 105, 106, 2, 100, 100, 6, 100, 1, 100, 100, 5, 100, 100, 100, 107, 100, 107, 100, 100, 100, 100, 0, 100, 100, 100, 3, 100, 100, 100, 4, 100, 107, 100, 100, 100, 10, 104, 100, 100, 100, 100, 12, 102, 100, 100, 100, 100, 100, 100, 100, 100, 100, 100, 100, 100, 100, 100, 100, 100, 100, 100, 100, 100, 100, 100, 100, 100, 100, 103, 100, 100, 100, 100, 100, 100].getD q 0
def zp_ln (q : Nat) : Nat := [0, 0, 100, 6, 6, 6, 0, 24, 0, 2, 4, 0, 12, 12, 0, 24, 0, 4, 4, 0, 6, 6, 8, 4, 300, 5, 64, 64, 24, 6, 0, 2, 10, 4001, 0, 60, 24, 24, 0, 40, 5, 8, 5, 40, 0, 16, 16, 16, 25, 40, 0, 100, 24, 96, 4, 4, 4, 4, 4, 24, 24, 2, 6, 6, 10, 60, 40, 5, 384, 16, 16, 16, 64, 144, 6, 144, 6, 96, 320, 2304, 4001, 240, 40, 625].getD q 0
def zp_rf (q : Nat) : Nat → Nat → Nat := [(fun _ k => [1, 30, 32, 57, 60, 78, 82, 86, 96, 133].getD k 0), (fun _ k => [2, 0, 0, 0, 3, 4, 5].getD k 0), (fun _ _ => 0), (fun _ k => 6 + 4 * k), (fun _ k => 8 + 4 * k), (fun _ _ => 0), (fun j k => j + [1].getD k 0), (fun _ _ => 0), (fun _ k => [33, 34].getD k 0), (fun _ k => 35 + 3 * k), (fun _ k => 41 + 4 * k), (fun j k => j + [1, 2].getD k 0), (fun _ _ => 0), (fun _ _ => 0), (fun j k => j + [1, 0, 0, 0, 0, 3].getD k 0), (fun _ _ => 0), (fun _ k => [0, 0, 58, 59].getD k 0), (fun _ _ => 0), (fun _ _ => 0), (fun _ k => [61, 62, 0, 63, 64, 69, 75, 76, 77].getD k 0), (fun _ _ => 0), (fun _ _ => 0), (fun _ _ => 0), (fun _ k => 65 + 1 * k), (fun _ _ => 0), (fun _ k => 70 + 1 * k), (fun _ _ => 0), (fun _ _ => 0), (fun _ _ => 0), (fun _ _ => 0), (fun _ k => [0, 79, 80, 0, 0, 0, 0, 81].getD k 0), (fun _ _ => 0), (fun _ _ => 0), (fun _ _ => 0), (fun _ k => [83, 0, 84, 85].getD k 0), (fun _ _ => 0), (fun _ _ => 0), (fun _ _ => 0), (fun _ k => [0, 87, 0, 88, 94, 95].getD k 0), (fun _ _ => 0), (fun _ k => 89 + 1 * k), (fun _ _ => 0), (fun _ _ => 0), (fun _ _ => 0), (fun _ k => [0, 97, 98, 99, 100].getD k 0), (fun _ k => 101 + 2 * k), (fun _ _ => 0), (fun _ _ => 0), (fun _ _ => 0), (fun _ _ => 0), (fun _ k => [1, 0, 2, 0, 3, 4, 5, 6, 7, 8, 0, 9, 10, 11, 12, 13, 0, 14, 0, 0, 0, 0, 0, 15, 0, 16, 17, 0, 18, 19, 20, 21, 0, 22, 0, 0, 0, 0, 23, 24, 25, 26, 27, 28, 29, 30, 31, 32, 0, 33].getD k 0), (fun _ _ => 0), (fun _ _ => 0), (fun _ _ => 0), (fun _ _ => 0), (fun _ _ => 0), (fun _ _ => 0), (fun _ _ => 0), (fun _ _ => 0), (fun _ _ => 0), (fun _ _ => 0), (fun _ _ => 0), (fun _ _ => 0), (fun _ _ => 0), (fun _ _ => 0), (fun _ _ => 0), (fun _ _ => 0), (fun _ _ => 0), (fun _ _ => 0), (fun _ _ => 0), (fun _ _ => 0), (fun _ _ => 0), (fun _ _ => 0), (fun _ _ => 0), (fun _ _ => 0), (fun _ _ => 0), (fun _ _ => 0), (fun _ _ => 0), (fun _ _ => 0), (fun _ _ => 0), (fun _ _ => 0), (fun _ _ => 0), (fun _ _ => 0), (fun _ _ => 0)].getD q (fun _ _ => 0)
def zp_bd (q : Nat) : Nat → Int × Int := [(fun k => [(-2147483648, 2147483647), (-2147483648, 2147483647), (-2147483648, 2147483647), (-2147483648, 2147483647), (-2147483648, 2147483647), (-2147483648, 2147483647), (-2147483648, 2147483647), (-2147483648, 2147483647), (-2147483648, 2147483647), (-2147483648, 2147483647), (0, 40)].getD k (-2147483648, 2147483647)), (fun k => [(-2147483648, 2147483647), (0, 100), (-1, 5), (-2147483648, 2147483647), (-2147483648, 2147483647), (-2147483648, 2147483647), (-2147483648, 2147483647)].getD k (-2147483648, 2147483647)), (fun _ => (0, 255)), (fun _ => (-2147483648, 2147483647)), (fun _ => (-2147483648, 2147483647)), (fun _ => (0, 9)), (fun k => [(-2147483648, 2147483647), (0, 24)].getD k (-2147483648, 2147483647)), (fun _ => (-2147483648, 2147483647)), (fun k => [(-2147483648, 2147483647), (-2147483648, 2147483647), (0, 4)].getD k (-2147483648, 2147483647)), (fun _ => (-2147483648, 2147483647)), (fun _ => (-2147483648, 2147483647)), (fun k => [(-2147483648, 2147483647), (-2147483648, 2147483647), (0, 12)].getD k (-2147483648, 2147483647)), (fun _ => (0, 5000)), (fun _ => (-9, 9)), (fun k => [(-2147483648, 2147483647), (0, 1), (0, 23), (-2147483648, 2147483647), (-2147483648, 2147483647), (-2147483648, 2147483647)].getD k (-2147483648, 2147483647)), (fun _ => (-2147483648, 2147483647)), (fun k => [(0, 4), (0, 5000), (-2147483648, 2147483647), (-2147483648, 2147483647)].getD k (-2147483648, 2147483647)), (fun _ => (0, 24)), (fun _ => (-2147483648, 2147483647)), (fun k => [(-2147483648, 2147483647), (-2147483648, 2147483647), (0, 6), (-2147483648, 2147483647), (-2147483648, 2147483647), (-2147483648, 2147483647), (-2147483648, 2147483647), (-2147483648, 2147483647), (-2147483648, 2147483647)].getD k (-2147483648, 2147483647)), (fun _ => (0, 100000)), (fun _ => (0, 9)), (fun _ => (0, 23)), (fun _ => (-2147483648, 2147483647)), (fun _ => (0, 63)), (fun _ => (-2147483648, 2147483647)), (fun _ => (-2147483648, 2147483647)), (fun _ => (-2147483648, 2147483647)), (fun _ => (-2147483648, 2147483647)), (fun _ => (-2147483648, 2147483647)), (fun k => [(0, 2000), (-2147483648, 2147483647), (-2147483648, 2147483647), (0, 20), (0, 100), (0, 20), (0, 100), (-2147483648, 2147483647)].getD k (-2147483648, 2147483647)), (fun _ => (-2147483648, 2147483647)), (fun _ => (0, 200)), (fun _ => (0, 5000)), (fun k => [(-2147483648, 2147483647), (0, 60), (-2147483648, 2147483647), (-2147483648, 2147483647)].getD k (-2147483648, 2147483647)), (fun _ => (-2147483648, 2147483647)), (fun _ => (-2147483648, 2147483647)), (fun _ => (-2147483648, 2147483647)), (fun k => [(0, 5), (-2147483648, 2147483647), (-2147483648, 2147483647), (-2147483648, 2147483647), (-2147483648, 2147483647), (-2147483648, 2147483647)].getD k (-2147483648, 2147483647)), (fun _ => (0, 9)), (fun _ => (-2147483648, 2147483647)), (fun _ => (0, 9)), (fun _ => (0, 8)), (fun _ => (0, 9)), (fun k => [(0, 16), (-2147483648, 2147483647), (-2147483648, 2147483647), (-2147483648, 2147483647), (-2147483648, 2147483647)].getD k (-2147483648, 2147483647)), (fun _ => (-2147483648, 2147483647)), (fun _ => (-2147483648, 2147483647)), (fun _ => (0, 999)), (fun _ => (-2147483648, 2147483647)), (fun _ => (-2147483648, 2147483647)), (fun k => [(-2147483648, 2147483647), (0, 100), (-2147483648, 2147483647), (0, 24), (-2147483648, 2147483647), (-2147483648, 2147483647), (-2147483648, 2147483647), (-2147483648, 2147483647), (-2147483648, 2147483647), (-2147483648, 2147483647), (0, 4), (-2147483648, 2147483647), (-2147483648, 2147483647), (-2147483648, 2147483647), (-2147483648, 2147483647), (-2147483648, 2147483647), (0, 6), (-2147483648, 2147483647), (0, 20), (0, 100), (0, 20), (0, 100), (0, 2000), (-2147483648, 2147483647), (0, 60), (-2147483648, 2147483647), (-2147483648, 2147483647), (0, 5), (-2147483648, 2147483647), (-2147483648, 2147483647), (-2147483648, 2147483647), (-2147483648, 2147483647), (0, 16), (-2147483648, 2147483647), (0, 64), (0, 1), (0, 100), (-2147483648, 2147483647), (-2147483648, 2147483647), (-2147483648, 2147483647), (-2147483648, 2147483647), (-2147483648, 2147483647), (-2147483648, 2147483647), (-2147483648, 2147483647), (-2147483648, 2147483647), (-2147483648, 2147483647), (-2147483648, 2147483647), (-2147483648, 2147483647), (-2147483648, 2147483647), (-2147483648, 2147483647)].getD k (-2147483648, 2147483647)), (fun _ => (-128, 127)), (fun _ => (-2147483648, 2147483647)), (fun _ => (-2147483648, 2147483647)), (fun _ => (0, 24)), (fun _ => (0, 1)), (fun _ => (0, 23)), (fun _ => (-2147483648, 2147483647)), (fun _ => (-2147483648, 2147483647)), (fun _ => (0, 5000)), (fun _ => (-9, 9)), (fun _ => (0, 12)), (fun _ => (0, 100000)), (fun _ => (0, 9)), (fun _ => (0, 200)), (fun _ => (-2147483648, 2147483647)), (fun _ => (0, 15)), (fun _ => (0, 8)), (fun _ => (-2147483648, 2147483647)), (fun _ => (0, 24)), (fun _ => (-2147483648, 2147483647)), (fun _ => (0, 999)), (fun _ => (-2147483648, 2147483647)), (fun _ => (-2147483648, 2147483647)), (fun _ => (0, 24)), (fun _ => (-2147483648, 2147483647)), (fun _ => (0, 24)), (fun _ => (0, 1)), (fun _ => (-2147483648, 2147483647)), (fun _ => (0, 63)), (fun _ => (0, 5000)), (fun _ => (-2147483648, 2147483647)), (fun _ => (-2147483648, 2147483647)), (fun _ => (-2147483648, 2147483647))].getD q (fun _ => (0, 0))
def zp_mc (q : Nat) : Nat → Nat := [(fun k => 0 + k), (fun k => 64 + k), (fun _ => 191), (fun _ => 255), (fun _ => 319), (fun _ => 383), (fun k => 384 + k), (fun _ => 511), (fun k => 512 + k), (fun _ => 639), (fun _ => 703), (fun k => 704 + k), (fun _ => 831), (fun _ => 895), (fun k => 896 + k), (fun _ => 1023), (fun k => 1024 + k), (fun _ => 1151), (fun _ => 1215), (fun k => 1216 + k), (fun _ => 1343), (fun _ => 1407), (fun _ => 1471), (fun _ => 1535), (fun _ => 1599), (fun _ => 1663), (fun _ => 1727), (fun _ => 1791), (fun _ => 1855), (fun _ => 1919), (fun k => 1920 + k), (fun _ => 2047), (fun _ => 2111), (fun _ => 2175), (fun k => 2176 + k), (fun _ => 2303), (fun _ => 2367), (fun _ => 2431), (fun k => 2432 + k), (fun _ => 2559), (fun _ => 2623), (fun _ => 2687), (fun _ => 2751), (fun _ => 2815), (fun k => 2816 + k), (fun _ => 2943), (fun _ => 3007), (fun _ => 3071), (fun _ => 3135), (fun _ => 3199), (fun k => 3200 + k), (fun _ => 3327), (fun _ => 3391), (fun _ => 3455), (fun _ => 3519), (fun _ => 3583), (fun _ => 3647), (fun _ => 3711), (fun _ => 3775), (fun _ => 3839), (fun _ => 3903), (fun _ => 3967), (fun _ => 4031), (fun _ => 4095), (fun _ => 4159), (fun _ => 4223), (fun _ => 4287), (fun _ => 4351), (fun _ => 4415), (fun _ => 4479), (fun _ => 4543), (fun _ => 4607), (fun _ => 4671), (fun _ => 4735), (fun _ => 4799), (fun _ => 4863), (fun _ => 4927), (fun _ => 4991), (fun _ => 5055), (fun _ => 5119), (fun _ => 5183), (fun _ => 5247), (fun _ => 5311), (fun _ => 5375)].getD q (fun _ => 0)
def zp_nf (c : Nat) : Nat := [8, 4, 3, 4, 6, 9, 6, 7, 2, 3, 5, 11, 50].getD c 0
def zp_fk (c : Nat) : Nat → Nat := [(fun k => [0, 2, 2, 0, 0, 0, 0, 2].getD k 0), (fun k => [0, 1, 2, 2].getD k 0), (fun k => [2, 2, 0].getD k 0), (fun k => [2, 0, 2, 2].getD k 0), (fun k => [0, 2, 0, 2, 2, 2].getD k 0), (fun k => [2, 2, 0, 2, 2, 2, 2, 2, 2].getD k 0), (fun k => [2, 0, 0, 0, 0, 2].getD k 0), (fun k => [2, 0, 0, 0, 2, 2, 2].getD k 0), (fun k => [2, 0].getD k 0), (fun k => [2, 2, 0].getD k 0), (fun k => [0, 2, 2, 2, 2].getD k 0), (fun k => [2, 2, 2, 2, 2, 2, 2, 2, 2, 2, 0].getD k 0), (fun k => [2, 0, 2, 0, 2, 2, 2, 2, 2, 2, 0, 2, 2, 2, 2, 2, 0, 2, 0, 0, 0, 0, 0, 2, 0, 2, 2, 0, 2, 2, 2, 2, 0, 2, 0, 0, 0, 0, 2, 2, 2, 2, 2, 2, 2, 2, 2, 2, 0, 2].getD k 0)].getD c (fun _ => 0)
def zC_cd (j : Nat) : Nat := [0, 1, 2, 3, 4, 5, 6, 7, 6, 7, 6, 7, 6, 7, 6, 7, 6, 7, 6, 7, 6, 7, 6, 7, 6, 7, 6, 7, 6, 7, 6, 7, 8, 9, 10, 11, 12, 13, 11, 12, 13, 14, 6, 7, 15, 14, 6, 7, 15, 14, 6, 7, 15, 14, 6, 7, 15, 16, 17, 18, 19, 20, 21, 22, 23, 24, 24, 24, 24, 25, 26, 26, 26, 26, 26, 27, 28, 29, 30, 31, 32, 33, 34, 35, 36, 37, 38, 39, 40, 41, 41, 41, 41, 41, 42, 43, 44, 45, 46, 47, 48, 6, 7, 6, 7, 6, 7, 6, 7, 6, 7, 6, 7, 6, 7, 6, 7, 6, 7, 6, 7, 6, 7, 6, 7, 6, 7, 6, 7, 6, 7, 6, 7, 49].getD j 0
def wC : zW := (zC_cd, zp_kd, zp_ln, zp_rf, zp_nf, zp_fk, zp_bd, zp_mc)
def zR_cd (j : Nat) : Nat := [50, 51, 52, 53, 54, 55, 56, 57, 58, 59, 60, 61, 62, 63, 64, 65, 66, 67, 68, 69, 70, 71, 72, 73, 74, 75, 76, 77, 78, 79, 80, 81, 82, 83].getD j 0
def wR : zW := (zR_cd, zp_kd, zp_ln, zp_rf, zp_nf, zp_fk, zp_bd, zp_mc)
abbrev nC : Nat := 134
abbrev nR : Nat := 34
def z_tys (dA : Nat → ClassId) : List (ClassId × FieldType) := [(dA 0, .int), (dA 1, .long), (dA 2, .byte), (dA 3, .boolean), (dA 4, .object "TapeRings$Strip"), (dA 5, .object "TapeRings$Motor"), (dA 6, .object "TapeRings$Ring"), (dA 7, .array .int)]
theorem f0_0 : zFld vwCl wC 0 RX0 TX0 8 0 0 := ⟨rfl, by decide, rfl, by decide, rfl⟩
theorem f0_1 : zFld vwCl wC 0 RX0 TX0 8 1 2 := ⟨rfl, by decide, rfl, by decide, rfl⟩
theorem f0_2 : zFld vwCl wC 0 RX0 TX0 8 2 2 := ⟨rfl, by decide, rfl, by decide, rfl⟩
theorem f0_3 : zFld vwCl wC 0 RX0 TX0 8 3 0 := ⟨rfl, by decide, rfl, by decide, rfl⟩
theorem f0_4 : zFld vwCl wC 0 RX0 TX0 8 4 0 := ⟨rfl, by decide, rfl, by decide, rfl⟩
theorem f0_5 : zFld vwCl wC 0 RX0 TX0 8 5 0 := ⟨rfl, by decide, rfl, by decide, rfl⟩
theorem f0_6 : zFld vwCl wC 0 RX0 TX0 8 6 0 := ⟨rfl, by decide, rfl, by decide, rfl⟩
theorem f0_7 : zFld vwCl wC 0 RX0 TX0 8 7 2 := ⟨rfl, by decide, rfl, by decide, rfl⟩
theorem f1_0 : zFld vwCl wC 1 RX1 TX1 4 0 0 := ⟨rfl, by decide, rfl, by decide, rfl⟩
theorem f1_1 : zFld vwCl wC 1 RX1 TX1 4 1 1 := ⟨rfl, by decide, rfl, by decide, rfl⟩
theorem f1_2 : zFld vwCl wC 1 RX1 TX1 4 2 2 := ⟨rfl, by decide, rfl, by decide, rfl⟩
theorem f1_3 : zFld vwCl wC 1 RX1 TX1 4 3 2 := ⟨rfl, by decide, rfl, by decide, rfl⟩
theorem f2_0 : zFld vwCl wC 2 RX2 TX2 3 0 2 := ⟨rfl, by decide, rfl, by decide, rfl⟩
theorem f2_1 : zFld vwCl wC 2 RX2 TX2 3 1 2 := ⟨rfl, by decide, rfl, by decide, rfl⟩
theorem f2_2 : zFld vwCl wC 2 RX2 TX2 3 2 0 := ⟨rfl, by decide, rfl, by decide, rfl⟩
theorem f3_0 : zFld vwCl wC 3 RX3 TX3 4 0 2 := ⟨rfl, by decide, rfl, by decide, rfl⟩
theorem f3_1 : zFld vwCl wC 3 RX3 TX3 4 1 0 := ⟨rfl, by decide, rfl, by decide, rfl⟩
theorem f3_2 : zFld vwCl wC 3 RX3 TX3 4 2 2 := ⟨rfl, by decide, rfl, by decide, rfl⟩
theorem f3_3 : zFld vwCl wC 3 RX3 TX3 4 3 2 := ⟨rfl, by decide, rfl, by decide, rfl⟩
theorem f4_0 : zFld vwCl wC 4 RX4 TX4 6 0 0 := ⟨rfl, by decide, rfl, by decide, rfl⟩
theorem f4_1 : zFld vwCl wC 4 RX4 TX4 6 1 2 := ⟨rfl, by decide, rfl, by decide, rfl⟩
theorem f4_2 : zFld vwCl wC 4 RX4 TX4 6 2 0 := ⟨rfl, by decide, rfl, by decide, rfl⟩
theorem f4_3 : zFld vwCl wC 4 RX4 TX4 6 3 2 := ⟨rfl, by decide, rfl, by decide, rfl⟩
theorem f4_4 : zFld vwCl wC 4 RX4 TX4 6 4 2 := ⟨rfl, by decide, rfl, by decide, rfl⟩
theorem f4_5 : zFld vwCl wC 4 RX4 TX4 6 5 2 := ⟨rfl, by decide, rfl, by decide, rfl⟩
theorem f5_0 : zFld vwCl wC 5 RX5 TX5 9 0 2 := ⟨rfl, by decide, rfl, by decide, rfl⟩
theorem f5_1 : zFld vwCl wC 5 RX5 TX5 9 1 2 := ⟨rfl, by decide, rfl, by decide, rfl⟩
theorem f5_2 : zFld vwCl wC 5 RX5 TX5 9 2 0 := ⟨rfl, by decide, rfl, by decide, rfl⟩
theorem f5_3 : zFld vwCl wC 5 RX5 TX5 9 3 2 := ⟨rfl, by decide, rfl, by decide, rfl⟩
theorem f5_4 : zFld vwCl wC 5 RX5 TX5 9 4 2 := ⟨rfl, by decide, rfl, by decide, rfl⟩
theorem f5_5 : zFld vwCl wC 5 RX5 TX5 9 5 2 := ⟨rfl, by decide, rfl, by decide, rfl⟩
theorem f5_6 : zFld vwCl wC 5 RX5 TX5 9 6 2 := ⟨rfl, by decide, rfl, by decide, rfl⟩
theorem f5_7 : zFld vwCl wC 5 RX5 TX5 9 7 2 := ⟨rfl, by decide, rfl, by decide, rfl⟩
theorem f5_8 : zFld vwCl wC 5 RX5 TX5 9 8 2 := ⟨rfl, by decide, rfl, by decide, rfl⟩
theorem f6_0 : zFld vwCl wC 6 RX6 TX6 6 0 2 := ⟨rfl, by decide, rfl, by decide, rfl⟩
theorem f6_1 : zFld vwCl wC 6 RX6 TX6 6 1 0 := ⟨rfl, by decide, rfl, by decide, rfl⟩
theorem f6_2 : zFld vwCl wC 6 RX6 TX6 6 2 0 := ⟨rfl, by decide, rfl, by decide, rfl⟩
theorem f6_3 : zFld vwCl wC 6 RX6 TX6 6 3 0 := ⟨rfl, by decide, rfl, by decide, rfl⟩
theorem f6_4 : zFld vwCl wC 6 RX6 TX6 6 4 0 := ⟨rfl, by decide, rfl, by decide, rfl⟩
theorem f6_5 : zFld vwCl wC 6 RX6 TX6 6 5 2 := ⟨rfl, by decide, rfl, by decide, rfl⟩
theorem f7_0 : zFld vwCl wC 7 RX7 TX7 7 0 2 := ⟨rfl, by decide, rfl, by decide, rfl⟩
theorem f7_1 : zFld vwCl wC 7 RX7 TX7 7 1 0 := ⟨rfl, by decide, rfl, by decide, rfl⟩
theorem f7_2 : zFld vwCl wC 7 RX7 TX7 7 2 0 := ⟨rfl, by decide, rfl, by decide, rfl⟩
theorem f7_3 : zFld vwCl wC 7 RX7 TX7 7 3 0 := ⟨rfl, by decide, rfl, by decide, rfl⟩
theorem f7_4 : zFld vwCl wC 7 RX7 TX7 7 4 2 := ⟨rfl, by decide, rfl, by decide, rfl⟩
theorem f7_5 : zFld vwCl wC 7 RX7 TX7 7 5 2 := ⟨rfl, by decide, rfl, by decide, rfl⟩
theorem f7_6 : zFld vwCl wC 7 RX7 TX7 7 6 2 := ⟨rfl, by decide, rfl, by decide, rfl⟩
theorem f8_0 : zFld vwCl wC 8 RX8 TX8 2 0 2 := ⟨rfl, by decide, rfl, by decide, rfl⟩
theorem f8_1 : zFld vwCl wC 8 RX8 TX8 2 1 0 := ⟨rfl, by decide, rfl, by decide, rfl⟩
theorem f9_0 : zFld vwCl wC 9 RX9 TX9 3 0 2 := ⟨rfl, by decide, rfl, by decide, rfl⟩
theorem f9_1 : zFld vwCl wC 9 RX9 TX9 3 1 2 := ⟨rfl, by decide, rfl, by decide, rfl⟩
theorem f9_2 : zFld vwCl wC 9 RX9 TX9 3 2 0 := ⟨rfl, by decide, rfl, by decide, rfl⟩
theorem f10_0 : zFld vwCl wC 10 RX10 TX10 5 0 0 := ⟨rfl, by decide, rfl, by decide, rfl⟩
theorem f10_1 : zFld vwCl wC 10 RX10 TX10 5 1 2 := ⟨rfl, by decide, rfl, by decide, rfl⟩
theorem f10_2 : zFld vwCl wC 10 RX10 TX10 5 2 2 := ⟨rfl, by decide, rfl, by decide, rfl⟩
theorem f10_3 : zFld vwCl wC 10 RX10 TX10 5 3 2 := ⟨rfl, by decide, rfl, by decide, rfl⟩
theorem f10_4 : zFld vwCl wC 10 RX10 TX10 5 4 2 := ⟨rfl, by decide, rfl, by decide, rfl⟩
theorem f11_0 : zFld vwCl wC 11 RX11 TX11 11 0 2 := ⟨rfl, by decide, rfl, by decide, rfl⟩
theorem f11_1 : zFld vwCl wC 11 RX11 TX11 11 1 2 := ⟨rfl, by decide, rfl, by decide, rfl⟩
theorem f11_2 : zFld vwCl wC 11 RX11 TX11 11 2 2 := ⟨rfl, by decide, rfl, by decide, rfl⟩
theorem f11_3 : zFld vwCl wC 11 RX11 TX11 11 3 2 := ⟨rfl, by decide, rfl, by decide, rfl⟩
theorem f11_4 : zFld vwCl wC 11 RX11 TX11 11 4 2 := ⟨rfl, by decide, rfl, by decide, rfl⟩
theorem f11_5 : zFld vwCl wC 11 RX11 TX11 11 5 2 := ⟨rfl, by decide, rfl, by decide, rfl⟩
theorem f11_6 : zFld vwCl wC 11 RX11 TX11 11 6 2 := ⟨rfl, by decide, rfl, by decide, rfl⟩
theorem f11_7 : zFld vwCl wC 11 RX11 TX11 11 7 2 := ⟨rfl, by decide, rfl, by decide, rfl⟩
theorem f11_8 : zFld vwCl wC 11 RX11 TX11 11 8 2 := ⟨rfl, by decide, rfl, by decide, rfl⟩
theorem f11_9 : zFld vwCl wC 11 RX11 TX11 11 9 2 := ⟨rfl, by decide, rfl, by decide, rfl⟩
theorem f11_10 : zFld vwCl wC 11 RX11 TX11 11 10 0 := ⟨rfl, by decide, rfl, by decide, rfl⟩
theorem f12_0 : zFld vwCl wR 12 RX12 TX12 50 0 2 := ⟨rfl, by decide, rfl, by decide, rfl⟩
theorem f12_1 : zFld vwCl wR 12 RX12 TX12 50 1 0 := ⟨rfl, by decide, rfl, by decide, rfl⟩
theorem f12_2 : zFld vwCl wR 12 RX12 TX12 50 2 2 := ⟨rfl, by decide, rfl, by decide, rfl⟩
theorem f12_3 : zFld vwCl wR 12 RX12 TX12 50 3 0 := ⟨rfl, by decide, rfl, by decide, rfl⟩
theorem f12_4 : zFld vwCl wR 12 RX12 TX12 50 4 2 := ⟨rfl, by decide, rfl, by decide, rfl⟩
theorem f12_5 : zFld vwCl wR 12 RX12 TX12 50 5 2 := ⟨rfl, by decide, rfl, by decide, rfl⟩
theorem f12_6 : zFld vwCl wR 12 RX12 TX12 50 6 2 := ⟨rfl, by decide, rfl, by decide, rfl⟩
theorem f12_7 : zFld vwCl wR 12 RX12 TX12 50 7 2 := ⟨rfl, by decide, rfl, by decide, rfl⟩
theorem f12_8 : zFld vwCl wR 12 RX12 TX12 50 8 2 := ⟨rfl, by decide, rfl, by decide, rfl⟩
theorem f12_9 : zFld vwCl wR 12 RX12 TX12 50 9 2 := ⟨rfl, by decide, rfl, by decide, rfl⟩
theorem f12_10 : zFld vwCl wR 12 RX12 TX12 50 10 0 := ⟨rfl, by decide, rfl, by decide, rfl⟩
theorem f12_11 : zFld vwCl wR 12 RX12 TX12 50 11 2 := ⟨rfl, by decide, rfl, by decide, rfl⟩
theorem f12_12 : zFld vwCl wR 12 RX12 TX12 50 12 2 := ⟨rfl, by decide, rfl, by decide, rfl⟩
theorem f12_13 : zFld vwCl wR 12 RX12 TX12 50 13 2 := ⟨rfl, by decide, rfl, by decide, rfl⟩
theorem f12_14 : zFld vwCl wR 12 RX12 TX12 50 14 2 := ⟨rfl, by decide, rfl, by decide, rfl⟩
theorem f12_15 : zFld vwCl wR 12 RX12 TX12 50 15 2 := ⟨rfl, by decide, rfl, by decide, rfl⟩
theorem f12_16 : zFld vwCl wR 12 RX12 TX12 50 16 0 := ⟨rfl, by decide, rfl, by decide, rfl⟩
theorem f12_17 : zFld vwCl wR 12 RX12 TX12 50 17 2 := ⟨rfl, by decide, rfl, by decide, rfl⟩
theorem f12_18 : zFld vwCl wR 12 RX12 TX12 50 18 0 := ⟨rfl, by decide, rfl, by decide, rfl⟩
theorem f12_19 : zFld vwCl wR 12 RX12 TX12 50 19 0 := ⟨rfl, by decide, rfl, by decide, rfl⟩
theorem f12_20 : zFld vwCl wR 12 RX12 TX12 50 20 0 := ⟨rfl, by decide, rfl, by decide, rfl⟩
theorem f12_21 : zFld vwCl wR 12 RX12 TX12 50 21 0 := ⟨rfl, by decide, rfl, by decide, rfl⟩
theorem f12_22 : zFld vwCl wR 12 RX12 TX12 50 22 0 := ⟨rfl, by decide, rfl, by decide, rfl⟩
theorem f12_23 : zFld vwCl wR 12 RX12 TX12 50 23 2 := ⟨rfl, by decide, rfl, by decide, rfl⟩
theorem f12_24 : zFld vwCl wR 12 RX12 TX12 50 24 0 := ⟨rfl, by decide, rfl, by decide, rfl⟩
theorem f12_25 : zFld vwCl wR 12 RX12 TX12 50 25 2 := ⟨rfl, by decide, rfl, by decide, rfl⟩
theorem f12_26 : zFld vwCl wR 12 RX12 TX12 50 26 2 := ⟨rfl, by decide, rfl, by decide, rfl⟩
theorem f12_27 : zFld vwCl wR 12 RX12 TX12 50 27 0 := ⟨rfl, by decide, rfl, by decide, rfl⟩
theorem f12_28 : zFld vwCl wR 12 RX12 TX12 50 28 2 := ⟨rfl, by decide, rfl, by decide, rfl⟩
theorem f12_29 : zFld vwCl wR 12 RX12 TX12 50 29 2 := ⟨rfl, by decide, rfl, by decide, rfl⟩
theorem f12_30 : zFld vwCl wR 12 RX12 TX12 50 30 2 := ⟨rfl, by decide, rfl, by decide, rfl⟩
theorem f12_31 : zFld vwCl wR 12 RX12 TX12 50 31 2 := ⟨rfl, by decide, rfl, by decide, rfl⟩
theorem f12_32 : zFld vwCl wR 12 RX12 TX12 50 32 0 := ⟨rfl, by decide, rfl, by decide, rfl⟩
theorem f12_33 : zFld vwCl wR 12 RX12 TX12 50 33 2 := ⟨rfl, by decide, rfl, by decide, rfl⟩
theorem f12_34 : zFld vwCl wR 12 RX12 TX12 50 34 0 := ⟨rfl, by decide, rfl, by decide, rfl⟩
theorem f12_35 : zFld vwCl wR 12 RX12 TX12 50 35 0 := ⟨rfl, by decide, rfl, by decide, rfl⟩
theorem f12_36 : zFld vwCl wR 12 RX12 TX12 50 36 0 := ⟨rfl, by decide, rfl, by decide, rfl⟩
theorem f12_37 : zFld vwCl wR 12 RX12 TX12 50 37 0 := ⟨rfl, by decide, rfl, by decide, rfl⟩
theorem f12_38 : zFld vwCl wR 12 RX12 TX12 50 38 2 := ⟨rfl, by decide, rfl, by decide, rfl⟩
theorem f12_39 : zFld vwCl wR 12 RX12 TX12 50 39 2 := ⟨rfl, by decide, rfl, by decide, rfl⟩
theorem f12_40 : zFld vwCl wR 12 RX12 TX12 50 40 2 := ⟨rfl, by decide, rfl, by decide, rfl⟩
theorem f12_41 : zFld vwCl wR 12 RX12 TX12 50 41 2 := ⟨rfl, by decide, rfl, by decide, rfl⟩
theorem f12_42 : zFld vwCl wR 12 RX12 TX12 50 42 2 := ⟨rfl, by decide, rfl, by decide, rfl⟩
theorem f12_43 : zFld vwCl wR 12 RX12 TX12 50 43 2 := ⟨rfl, by decide, rfl, by decide, rfl⟩
theorem f12_44 : zFld vwCl wR 12 RX12 TX12 50 44 2 := ⟨rfl, by decide, rfl, by decide, rfl⟩
theorem f12_45 : zFld vwCl wR 12 RX12 TX12 50 45 2 := ⟨rfl, by decide, rfl, by decide, rfl⟩
theorem f12_46 : zFld vwCl wR 12 RX12 TX12 50 46 2 := ⟨rfl, by decide, rfl, by decide, rfl⟩
theorem f12_47 : zFld vwCl wR 12 RX12 TX12 50 47 2 := ⟨rfl, by decide, rfl, by decide, rfl⟩
theorem f12_48 : zFld vwCl wR 12 RX12 TX12 50 48 0 := ⟨rfl, by decide, rfl, by decide, rfl⟩
theorem f12_49 : zFld vwCl wR 12 RX12 TX12 50 49 2 := ⟨rfl, by decide, rfl, by decide, rfl⟩
theorem nx_strip (j : Nat) (h : j < nC) (h2 : zcd wC j = 6) : j + 1 < nC ∧ zcd wC (j + 1) = 7 := (by decide : ∀ j, j < nC → zcd wC j = 6 → j + 1 < nC ∧ zcd wC (j + 1) = 7) j h h2
theorem nx_motor (j : Nat) (h : j < nC) (h2 : zcd wC j = 11) : j + 1 < nC ∧ zcd wC (j + 1) = 12 ∧ j + 2 < nC ∧ zcd wC (j + 2) = 13 := (by decide : ∀ j, j < nC → zcd wC j = 11 → j + 1 < nC ∧ zcd wC (j + 1) = 12 ∧ j + 2 < nC ∧ zcd wC (j + 2) = 13) j h h2
theorem nx_ring (j : Nat) (h : j < nC) (h2 : zcd wC j = 14) : j + 1 < nC ∧ zcd wC (j + 1) = 6 ∧ j + 2 < nC ∧ zcd wC (j + 2) = 7 ∧ j + 3 < nC ∧ zcd wC (j + 3) = 15 := (by decide : ∀ j, j < nC → zcd wC j = 14 → j + 1 < nC ∧ zcd wC (j + 1) = 6 ∧ j + 2 < nC ∧ zcd wC (j + 2) = 7 ∧ j + 3 < nC ∧ zcd wC (j + 3) = 15) j h h2
end zz06_plan
section zz07_calls
/-! ends, calls that answer a reference, the words of a call, switches -/
theorem r32b {z lo hi : Int} (h : lo ≤ z ∧ z ≤ hi) (h1 : -2147483648 ≤ lo) (h2 : hi ≤ 2147483647) : R32 z := ⟨by omega, by omega⟩
theorem r64b {z lo hi : Int} (h : lo ≤ z ∧ z ≤ hi) (h1 : -9223372036854775808 ≤ lo) (h2 : hi ≤ 9223372036854775807) : R64 z := ⟨by omega, by omega⟩
theorem r64of {z : Int} (h : R32 z) : R64 z := ⟨by omega, by omega⟩
def z_rm (d : Nat) : Room := { frames := d, cells := 0, slots := 0, locals := 64 * d }
def zQq (w : zW) (ms : Nat → Nat → Bool) (M : zM) (post : Option Nat → zM → Prop) : Option Nat → zM → Prop := fun r u => zJ w u ∧ zF ms M u ∧ post r u
theorem z_mem {c1 w : Cond} (h : w ∈ zt) : w ∈ c1 :: zt := List.mem_cons_of_mem _ h
theorem z_memU {c1 : Cond} {L : List Cond} (h : ∀ w ∈ L, w ∈ zt) : ∀ w ∈ L, w ∈ c1 :: zt := fun w hw => List.mem_cons_of_mem _ (h w hw)
theorem z_memL {L : List Cond} (h : ∀ w ∈ L, w ∈ zt) : ∀ w ∈ L, w ∈ lw_tbl := fun w hw => zt_in w (h w hw)
theorem z_gd {c1 w : Cond} (h : w ∈ zt) : w ∈ c1 :: zt ∧ ((w.onTables && w.keeps) = true ∨ ∃ ty, w = .arrayClass ty) := ⟨List.mem_cons_of_mem _ h, good_of_word (zt_good w h)⟩
theorem z_gV {c1 cd : Cond} {own C : String} {idx : Nat} {y : MethodName} (h1 : Cond.methodLink own idx y ∈ zt) (h2 : Cond.instanceMethod y ∈ zt) (h3 : Cond.selects C y y ∈ zt) (h4 : Cond.initialized C ∈ zt) (h5 : cd ∈ zt) : GoodIn (c1 :: zt) (wsV own idx C y (cd :: zt)) := by
  intro w hw
  unfold wsV at hw
  simp only [List.cons_append, List.nil_append, List.mem_cons] at hw
  rcases hw with rfl | rfl | rfl | rfl | rfl | h
  · exact z_gd h1
  · exact z_gd h2
  · exact z_gd h3
  · exact z_gd h4
  · exact z_gd h5
  · exact z_gd h
theorem z_gS {c1 cd : Cond} {own : String} {idx : Nat} {y : MethodName} (h1 : Cond.methodLink own idx y ∈ zt) (h2 : Cond.static y ∈ zt) (h4 : Cond.initialized y.cls ∈ zt) (h5 : cd ∈ zt) : GoodIn (c1 :: zt) (va_wsS own idx y (cd :: zt)) := by
  intro w hw
  unfold va_wsS at hw
  simp only [List.cons_append, List.nil_append, List.mem_cons] at hw
  rcases hw with rfl | rfl | rfl | rfl | h
  · exact z_gd h1
  · exact z_gd h2
  · exact z_gd h4
  · exact z_gd h5
  · exact z_gd h
theorem z_gN {c1 cd : Cond} (h5 : cd ∈ zt) : GoodIn (c1 :: zt) (cd :: zt) := by
  intro w hw
  rcases List.mem_cons.mp hw with rfl | h
  · exact z_gd h5
  · exact z_gd h
theorem z_gL {ws : List Cond} {c1 : Cond} (h1 : c1 ∈ zt) (h : GoodIn (c1 :: zt) ws) : GoodIn lw_tbl ws := fun w hw => ⟨by
  rcases List.mem_cons.mp (h w hw).1 with e | e
  · rw [e]; exact zt_in _ h1
  · exact zt_in _ e, (h w hw).2⟩
section ZE
variable {p : Program} {l : Launch} {e : Env} {R : Room} {s : State} {m : MethodId} {args : Array Value} {below : List Frame} {meth : Method} {c : Code} {H : Heap} {locs : List Loc} {cells slots : Nat} {Q : State → Prop}
variable {cc : ByteArray} {pc : Nat} {ls : Array Slot} {rest st0 : List Value} {D : va_G} {dA : Nat → ClassId} {cl : List vw_C} {tys : List (ClassId × FieldType)} {H0 : Heap} {w : zW} {N b : Nat} {ms msC : Nat → Nat → Bool} {M M0 M1 : zM} {a : Array Value}
theorem z_iret {post : Int → zM → Prop} (hexec : p.tables.exec = Jvm.exec) (hb : c.code = cc) (hr : meth.sig.returnType = some .int) (hlocks : meth.locks = false) (hS : zS D dA cl w N b ms M M1 H) (hS0 : va_S (zA N b) s.heap H locs) {z : Int} (hz : R32 z) (hp : post z M1) (hdg : decode cc pc = .ok (.ireturn, 1)) :
    W p l e R s m args below meth c H locs cells slots (MQ below (va_Qi (zQi w ms M post) (zB D dA cl w N b) (zA N b)) args s cells slots (zA N b)) (F0 m pc ls [.int (iI z)]) :=
  W.iret hexec hb hr (fun t ht hW => ⟨⟨iI z, M1, rfl, ⟨z, rfl, hz, hS.2.1, hS.2.2, hp⟩, by unfold zB; rw [ht]; exact hS.1⟩, hS0.F ht⟩) hS0.2.2 hdg hlocks
theorem z_zret {post : Int → zM → Prop} (hexec : p.tables.exec = Jvm.exec) (hb : c.code = cc) (hr : meth.sig.returnType = some .boolean) (hlocks : meth.locks = false) (hS : zS D dA cl w N b ms M M1 H) (hS0 : va_S (zA N b) s.heap H locs) {z : Int} (hz : z = 0 ∨ z = 1) (hp : post z M1) (hdg : decode cc pc = .ok (.ireturn, 1)) :
    W p l e R s m args below meth c H locs cells slots (MQ below (va_Qi (zQi w ms M post) (zB D dA cl w N b) (zA N b)) args s cells slots (zA N b)) (F0 m pc ls [.int (iI z)]) :=
  W.zret hexec hb hr (by rcases hz with rfl | rfl <;> rfl) (fun t ht hW => ⟨⟨iI z, M1, rfl, ⟨z, rfl, by rcases hz with rfl | rfl <;> decide, hS.2.1, hS.2.2, hp⟩, by unfold zB; rw [ht]; exact hS.1⟩, hS0.F ht⟩) hS0.2.2 hdg hlocks
theorem z_lret {post : Int → zM → Prop} (hexec : p.tables.exec = Jvm.exec) (hb : c.code = cc) (hr : meth.sig.returnType = some .long) (hlocks : meth.locks = false) (hS : zS D dA cl w N b ms M M1 H) (hS0 : va_S (zA N b) s.heap H locs) {z : Int} (hz : R64 z) (hp : post z M1) (hdg : decode cc pc = .ok (.lreturn, 1)) :
    W p l e R s m args below meth c H locs cells slots (MQ below (va_Ql (zQl w ms M post) (zB D dA cl w N b) (zA N b)) args s cells slots (zA N b)) (F0 m pc ls [.long (iL z)]) :=
  W.lret hexec hb hr (fun t ht hW => ⟨⟨iL z, M1, rfl, ⟨z, rfl, hz, hS.2.1, hS.2.2, hp⟩, by unfold zB; rw [ht]; exact hS.1⟩, hS0.F ht⟩) hS0.2.2 hdg hlocks
theorem z_vret {post : zM → Prop} (hexec : p.tables.exec = Jvm.exec) (hb : c.code = cc) (hr : meth.sig.returnType = none) (hlocks : meth.locks = false) (hS : zS D dA cl w N b ms M M1 H) (hS0 : va_S (zA N b) s.heap H locs) (hp : post M1) (hdg : decode cc pc = .ok (.return_, 1)) :
    W p l e R s m args below meth c H locs cells slots (MQ below (va_Qv (zQv w ms M post) (zB D dA cl w N b) (zA N b)) args s cells slots (zA N b)) (F0 m pc ls []) :=
  W.vret hexec hb hr (fun t ht hW => ⟨⟨M1, rfl, ⟨hS.2.1, hS.2.2, hp⟩, by unfold zB; rw [ht]; exact hS.1⟩, hS0.F ht⟩) hS0.2.2 hdg hlocks
theorem z_aret {post : Option Nat → zM → Prop} {rt : FieldType} (hexec : p.tables.exec = Jvm.exec) (hb : c.code = cc) (hr : meth.sig.returnType = some rt) (hrt : (∃ n, rt = .object n) ∨ ∃ t, rt = .array t) (hlocks : meth.locks = false) (hS : zS D dA cl w N b ms M M1 H) (hS0 : va_S (zA N b) s.heap H locs) {v : Value} {r : Option Nat} (hv : v = va_rf r) (hp : post r M1) (hdg : decode cc pc = .ok (.areturn, 1)) :
    W p l e R s m args below meth c H locs cells slots (MQ below (va_Qq (zQq w ms M post) (zB D dA cl w N b) (zA N b)) args s cells slots (zA N b)) (F0 m pc ls [v]) := by
  subst hv
  refine W.aret hexec hb hr hrt ?_ (fun t ht hW => ⟨⟨r, M1, rfl, ⟨hS.2.1, hS.2.2, hp⟩, by unfold zB; rw [ht]; exact hS.1⟩, hS0.F ht⟩) hS0.2.2 hdg hlocks
  cases r with
  | none => exact Or.inl rfl
  | some q => exact Or.inr ⟨q, rfl⟩
theorem z_callq {post : Option Nat → zM → Prop} (hr : va_Run p l e R s m args below meth c H locs cells slots 0 0 (F0 m pc ls st0) rest (va_Qq (zQq w msC M post) (zB D dA cl w N b) (zA N b) a) (zA N b)) (hS : zS D dA cl w N b ms M0 M H) (hS0 : va_S (zA N b) H0 H locs) (hms : ∀ j k, ms j k = false → msC j k = false)
    (kk : ∀ (r : Option Nat) (M1 : zM) (H1 : Heap) (locs1 : List Loc), post r M1 → zF msC M M1 → zS D dA cl w N b ms M0 M1 H1 → va_S (zA N b) H0 H1 locs1 → W p l e R s m args below meth c H1 locs1 cells slots Q (F0 m (pc + 3) ls (va_rf r :: rest))) : W p l e R s m args below meth c H locs cells slots Q (F0 m pc ls st0) := by
  refine va_callq hr hS0 (fun q _ h => h) (fun q h => h) (fun r u t H1 locs1 ht _ hp hB _ _ hS1 => ?_)
  obtain ⟨hJ, hF, hp⟩ := hp
  unfold zB at hB
  rw [ht] at hB
  exact kk r u H1 locs1 hp hF ⟨hB, hJ, zF_tr hS.2.2 (zF_mono hF hms)⟩ hS1
theorem z_tabOut (hexec : p.tables.exec = Jvm.exec) (hb : c.code = cc) {dflt lo hi : Int} {offs : Array Int} {len : Nat} {x : Int} {tgt : Nat} (hx : R32 x) (hdg : decode cc pc = .ok (.tableswitch dflt lo hi offs, len)) (h : x < lo ∨ hi < x) (ht : (pc : Int) + dflt = (tgt : Int))
    (k : W p l e R s m args below meth c H locs cells slots Q (F0 m tgt ls rest)) : W p l e R s m args below meth c H locs cells slots Q (F0 m pc ls (.int (iI x) :: rest)) :=
  lv_tableOut hexec hb hdg (by rw [iI_t hx]; exact h) ht k
theorem z_tabIn (hexec : p.tables.exec = Jvm.exec) (hb : c.code = cc) {dflt lo hi : Int} {offs : Array Int} {len : Nat} {x y : Int} {off : Int} {tgt : Nat} (hx : R32 x) (hxy : x = y) (hdg : decode cc pc = .ok (.tableswitch dflt lo hi offs, len)) (h1 : lo ≤ y) (h2 : y ≤ hi) (ho : offs[(y - lo).toNat]? = some off) (ht : (pc : Int) + off = (tgt : Int))
    (k : W p l e R s m args below meth c H locs cells slots Q (F0 m tgt ls rest)) : W p l e R s m args below meth c H locs cells slots Q (F0 m pc ls (.int (iI x) :: rest)) := by
  subst hxy
  exact lv_tableIn hexec hb hdg (by rw [iI_t hx]; omega) (by rw [iI_t hx]; omega) (by rw [iI_t hx]; exact ho) ht k
theorem z_lookup (hexec : p.tables.exec = Jvm.exec) (hb : c.code = cc) {dflt : Int} {ps : Array (Int × Int)} {len : Nat} {x : Int} {off : Int} {tgt : Nat} (hx : R32 x) (hdg : decode cc pc = .ok (.lookupswitch dflt ps, len)) (hp : (ps.toList.zip (ps.toList.drop 1)).all (fun (a, next) => a.1 < next.1) = true) (ho : Op.lookupswitch.offset ps.toList dflt x = off) (ht : (pc : Int) + off = (tgt : Int))
    (k : W p l e R s m args below meth c H locs cells slots Q (F0 m tgt ls rest)) : W p l e R s m args below meth c H locs cells slots Q (F0 m pc ls (.int (iI x) :: rest)) :=
  lv_lookup hexec hb hdg hp (by rw [iI_t hx]; exact ho) ht k
end ZE
/-! Math, bytes, copies, masks -/
theorem zand_r {x c z : Int} (hc : 0 ≤ c) (hc2 : c ≤ 2147483647) (hz : R32 z) (e : iI z = iI x &&& iI c) : 0 ≤ z ∧ z ≤ c := by
  have h1 : (iI z).toBitVec = (iI x).toBitVec &&& (iI c).toBitVec := by rw [e]; rfl
  have h2 : (iI c).toBitVec.toNat = c.toNat := by
    have ht : (iI c).toInt = c := iI_t ⟨by omega, hc2⟩
    have h3 : (iI c).toBitVec.toInt = c := ht
    rw [BitVec.toInt_eq_toNat_cond] at h3
    split at h3
    · omega
    · have := (iI c).toBitVec.isLt
      omega
  have h4 : (iI z).toBitVec.toNat ≤ c.toNat := by
    rw [h1, BitVec.toNat_and, ← h2]
    exact Nat.and_le_right
  have h5 : (iI z).toBitVec.toInt = z := iI_t hz
  rw [BitVec.toInt_eq_toNat_cond] at h5
  split at h5
  · omega
  · have := (iI z).toBitVec.isLt
    omega
theorem zand_l {x c z : Int} (hc : 0 ≤ c) (hc2 : c ≤ 2147483647) (hz : R32 z) (e : iI z = iI c &&& iI x) : 0 ≤ z ∧ z ≤ c := zand_r (x := x) hc hc2 hz (e.trans (Int32.and_comm _ _))
section ZX
variable {p : Program} {l : Launch} {e : Env} {R : Room} {s : State} {m : MethodId} {args : Array Value} {below : List Frame} {meth : Method} {c : Code} {H : Heap} {locs : List Loc} {cells slots : Nat} {Q : State → Prop}
variable {cc : ByteArray} {pc : Nat} {ls : Array Slot} {rest : List Value} {D : va_G} {dA : Nat → ClassId} {cl : List vw_C} {tys : List (ClassId × FieldType)} {H0 : Heap} {w : zW} {N b : Nat} {ms : Nat → Nat → Bool} {M0 M : zM}
theorem z_mmax (hexec : p.tables.exec = Jvm.exec) (hb : c.code = cc) (hml : c.maxLocals = ls.size) {own : String} {index : Nat} (hown : s.vm.findClass own = some m.cls) (hlink : (Cond.methodLink own index Lib.Math.max.name).before args s = true) (hstat : (Cond.static Lib.Math.max.name).before args s = true) (hini : (Cond.initialized "java/lang/Math").before args s = true) (hcode : (Cond.code Lib.Math.max.name Lib.Math.max.code 2 (some .int)).before args s = true)
    (hframes : 1 ≤ R.frames) (hlocals : (rest.map fun v => v.category).sum + 13 ≤ R.locals) (hc : cells ≤ R.cells) (hs : slots ≤ R.slots) {x y : Int} (hx : R32 x) (hy : R32 y) (hdg : decode cc pc = .ok (.invokestatic index, 3))
    (kk : W p l e R s m args below meth c H locs cells slots Q (F0 m (pc + 3) ls (.int (iI (max x y)) :: rest))) : W p l e R s m args below meth c H locs cells slots Q (F0 m pc ls (.int (iI y) :: .int (iI x) :: rest)) := by
  refine va_mmax hexec hb hml hown hlink hstat hini hcode hframes hlocals hc hs hdg ?_
  rw [show (if iI x < iI y then iI y else iI x) = iI (max x y) from ?_]
  · exact kk
  · by_cases h : x < y
    · rw [if_pos ((iI_lt hx hy).mpr h), Int.max_def, if_pos (by omega)]
    · rw [if_neg (fun q => h ((iI_lt hx hy).mp q))]
      congr 1
      omega
theorem z_mmin (hexec : p.tables.exec = Jvm.exec) (hb : c.code = cc) (hml : c.maxLocals = ls.size) {own : String} {index : Nat} (hown : s.vm.findClass own = some m.cls) (hlink : (Cond.methodLink own index Lib.Math.min.name).before args s = true) (hstat : (Cond.static Lib.Math.min.name).before args s = true) (hini : (Cond.initialized "java/lang/Math").before args s = true) (hcode : (Cond.code Lib.Math.min.name Lib.Math.min.code 2 (some .int)).before args s = true)
    (hframes : 1 ≤ R.frames) (hlocals : (rest.map fun v => v.category).sum + 13 ≤ R.locals) (hc : cells ≤ R.cells) (hs : slots ≤ R.slots) {x y : Int} (hx : R32 x) (hy : R32 y) (hdg : decode cc pc = .ok (.invokestatic index, 3))
    (kk : W p l e R s m args below meth c H locs cells slots Q (F0 m (pc + 3) ls (.int (iI (min x y)) :: rest))) : W p l e R s m args below meth c H locs cells slots Q (F0 m pc ls (.int (iI y) :: .int (iI x) :: rest)) := by
  refine va_mmin hexec hb hml hown hlink hstat hini hcode hframes hlocals hc hs hdg ?_
  rw [show (if iI y < iI x then iI y else iI x) = iI (min x y) from ?_]
  · exact kk
  · by_cases h : y < x
    · rw [if_pos ((iI_lt hy hx).mpr h)]
      congr 1
      omega
    · rw [if_neg (fun q => h ((iI_lt hy hx).mp q))]
      congr 1
      omega
theorem z_mmaxl (hexec : p.tables.exec = Jvm.exec) (hb : c.code = cc) (hml : c.maxLocals = ls.size) {own : String} {index : Nat} (hown : s.vm.findClass own = some m.cls) (hlink : (Cond.methodLink own index Lib.MathLoose.max_long.x).before args s = true) (hstat : (Cond.static Lib.MathLoose.max_long.x).before args s = true) (hini : (Cond.initialized "java/lang/Math").before args s = true) (hcode : (Cond.code Lib.MathLoose.max_long.x Lib.MathLoose.max_long.code 4 (some .long)).before args s = true)
    (hframes : 1 ≤ R.frames) (hlocals : (rest.map fun v => v.category).sum + 15 ≤ R.locals) (hc : cells ≤ R.cells) (hs : slots ≤ R.slots) {x y : Int} (hx : R64 x) (hy : R64 y) (hdg : decode cc pc = .ok (.invokestatic index, 3))
    (kk : W p l e R s m args below meth c H locs cells slots Q (F0 m (pc + 3) ls (.long (iL (max x y)) :: rest))) : W p l e R s m args below meth c H locs cells slots Q (F0 m pc ls (.long (iL y) :: .long (iL x) :: rest)) := by
  refine va_mmax_long hexec hb hml hown hlink hstat hini hcode hframes hlocals hc hs hdg ?_
  rw [show (if iL y < iL x then iL x else iL y) = iL (max x y) from ?_]
  · exact kk
  · by_cases h : y < x
    · rw [if_pos ((iL_lt hy hx).mpr h)]
      congr 1
      omega
    · rw [if_neg (fun q => h ((iL_lt hy hx).mp q))]
      congr 1
      omega
/-- two numbers written as one -/
theorem z_fold {z c : Int} (hz : R32 z) (hc : R32 c) {v : Int32} (e : iI z = v) (h : v = iI c) : z = c := iI_inj hz hc (e.trans h)
theorem z_bast (hexec : p.tables.exec = Jvm.exec) (hb : c.code = cc) (hK : va_K D cl tys s) {t0 : Nat} (ht : tys[t0]? = some (dA 2, .byte)) (hS : zS D dA cl w N b ms M0 M H) (hS0 : va_S (zA N b) H0 H locs) {j n : Nat} (hj : j < N) (hkd : zkd w j = 102) (hln : zln w j = n) {i z : Int} (h0 : 0 ≤ i) (h1 : i < n) (hn : n < 2147483648) (hbd : (zbd w j i.toNat).1 ≤ z ∧ z ≤ (zbd w j i.toNat).2) (hz : -128 ≤ z ∧ z ≤ 127) (hms : ms j i.toNat = true) (hdg : decode cc pc = .ok (.bastore, 1))
    (kk : ∀ (H1 : Heap) (locs1 : List Loc), zS D dA cl w N b ms M0 (zup M j i.toNat z) H1 → va_S (zA N b) H0 H1 locs1 → W p l e R s m args below meth c H1 locs1 cells slots Q (F0 m (pc + 1) ls rest)) : W p l e R s m args below meth c H locs cells slots Q (F0 m pc ls (.int (iI z) :: .int (iI i) :: .ref (b + j) :: rest)) := by
  obtain ⟨v1, v2⟩ := iI_in h0 h1 hn
  have hP := z_arr hS.1 hj (by omega)
  rw [hkd] at hP
  unfold zar at hP
  rw [if_neg (by omega), if_pos (by omega), hln] at hP
  have hnr : narrow .byte (.int (iI z)) = .int (iI z) := by
    show Value.int (iI z).toInt8.toInt32 = _
    congr 1
    apply Int32.toInt_inj.mp
    rw [Int8.toInt_toInt32, Int32.toInt_toInt8, iI_t ⟨by omega, by omega⟩]
    exact Int.bmod_eq_of_le (by omega) (by omega)
  refine W.bast hexec hb (hP 0 _ rfl) ((hK.2 t0 _ ht).1 n (fun j3 => .int (iI (M j j3)))) (fun q => by cases q) (by show ¬ (iI i < 0 ∨ (arrV _ _ _).slots.size ≤ _); rw [arrV_size]; exact v1) rfl rfl hdg fun H1 e1 e2 e3 => ?_
  refine kk H1 _ ⟨?_, zJ_up hS.2.1 hbd, zF_up hS.2.2 hms⟩ (hS0.put e2 e3 ⟨by show b ≤ b + j; omega, by show b + j < b + N; omega⟩)
  rw [hnr] at e1
  intro i2 hi2
  by_cases hij : i2 = j
  · subst hij
    unfold zcell
    rw [if_neg (by omega)]
    show H1[b + i2]? = some (vp_cell _ _)
    rw [e1]
    unfold zar
    rw [if_neg (by omega), if_pos (by omega), hln, hkd, vp_cell_i, vp_cell_i, arrV_store, v2]
    congr 2
    funext q
    by_cases hq : q = i.toNat
    · subst hq
      simp [updV, zup_s]
    · simp only [updV, if_neg hq]
      rw [zup_n]
      exact fun x => hq x.2
  · have := (hS.1 i2 hi2).kept (H1 := H1) (e3 _ (by show b + i2 ≠ b + j; omega))
    rw [zup_row M z hij]
    exact this
theorem z_i2b (hexec : p.tables.exec = Jvm.exec) (hb : c.code = cc) {x : Int} (hdg : decode cc pc = .ok (.i2b, 1)) (k : ∀ z : Int, (-128 ≤ z ∧ z ≤ 127) → iI z = (iI x).toInt8.toInt32 → W p l e R s m args below meth c H locs cells slots Q (F0 m (pc + 1) ls (.int (iI z) :: rest))) : W p l e R s m args below meth c H locs cells slots Q (F0 m pc ls (.int (iI x) :: rest)) := by
  have h1 := Int8.le_toInt (iI x).toInt8
  have h2 := Int8.toInt_lt (iI x).toInt8
  have e : iI (iI x).toInt8.toInt = (iI x).toInt8.toInt32 := by
    apply Int32.toInt_inj.mp
    rw [Int8.toInt_toInt32, iI_t ⟨by omega, by omega⟩]
  exact lv_i2b hexec hb hdg e.symm (k _ ⟨by omega, by omega⟩ e)
/-- an array copied into another one -/
def zcp (M : zM) (j0 j1 sp dp n : Nat) : zM := fun a k => if a = j1 ∧ dp ≤ k ∧ k < dp + n then M j0 (sp + (k - dp)) else M a k
theorem z_acopy (hexec : p.tables.exec = Jvm.exec) (hb : c.code = cc) (hml : c.maxLocals = ls.size) {own : String} {index : Nat} (hown : s.vm.findClass own = some m.cls) (hlink : (Cond.methodLink own index arraycopyName).before args s = true) (hnat : (Cond.native arraycopyName).before args s = true) (hstat : (Cond.static arraycopyName).before args s = true) (hini : (Cond.initialized "java/lang/System").before args s = true)
    (hK : va_K D cl tys s) {t0 : Nat} (ht : tys[t0]? = some (dA 0, .int)) (hS : zS D dA cl w N b ms M0 M H) (hS0 : va_S (zA N b) H0 H locs) {j0 j1 n0 n1 : Nat} (hj0 : j0 < N) (hj1 : j1 < N) (hne : j0 ≠ j1) (hkd0 : zkd w j0 = 100) (hkd1 : zkd w j1 = 100) (hln0 : zln w j0 = n0) (hln1 : zln w j1 = n1) (hn0 : n0 < 2147483648) (hn1 : n1 < 2147483648)
    {sp dp n : Int} (h1 : 0 ≤ sp) (h2 : 0 ≤ dp) (h3 : 0 ≤ n) (h4 : sp + n ≤ n0) (h5 : dp + n ≤ n1)
    (hbd : ∀ k : Nat, (k : Int) < n → (zbd w j1 (dp.toNat + k)).1 ≤ M j0 (sp.toNat + k) ∧ M j0 (sp.toNat + k) ≤ (zbd w j1 (dp.toNat + k)).2) (hms : ∀ k, ms j1 k = true)
    (hframes : 1 ≤ R.frames) (hlocals : (rest.map fun v => v.category).sum + (nativeFrameWords "java/lang/System" "arraycopy" 5 + 11) ≤ R.locals) (hdg : decode cc pc = .ok (.invokestatic index, 3))
    (kk : ∀ (H1 : Heap) (locs1 : List Loc), zS D dA cl w N b ms M0 (zcp M j0 j1 sp.toNat dp.toNat n.toNat) H1 → va_S (zA N b) H0 H1 locs1 → W p l e R s m args below meth c H1 locs1 cells slots Q (F0 m (pc + 3) ls rest)) : W p l e R s m args below meth c H locs cells slots Q (F0 m pc ls (.int (iI n) :: .int (iI dp) :: .ref (b + j1) :: .int (iI sp) :: .ref (b + j0) :: rest)) := by
  have hsp : (iI sp).toInt = sp := iI_t ⟨by omega, by omega⟩
  have hdp : (iI dp).toInt = dp := iI_t ⟨by omega, by omega⟩
  have hnn : (iI n).toInt = n := iI_t ⟨by omega, by omega⟩
  have ksp : (iI sp).toNatClampNeg = sp.toNat := by show (iI sp).toInt.toNat = _; rw [hsp]
  have kdp : (iI dp).toNatClampNeg = dp.toNat := by show (iI dp).toInt.toNat = _; rw [hdp]
  have knn : (iI n).toNatClampNeg = n.toNat := by show (iI n).toInt.toNat = _; rw [hnn]
  have neg : ∀ z : Int, (iI z).toInt = z → 0 ≤ z → ¬ iI z < 0 := by
    intro z hz h
    rw [Int32.lt_iff_toInt_lt, hz, Int32.toInt_zero]
    omega
  let ws : va_W := (List.range N).map (fun i => (b + i, zcell dA w b i (M i)))
  have hat : ∀ i, i < N → ws[i]? = some (b + i, zcell dA w b i (M i)) := fun i hi => by simp [ws, hi]
  have hlen : ws.length = N := by simp [ws]
  have hP : va_P D cl ws H := by
    intro k q hk
    have hkN : k < N := by rw [← hlen]; exact (List.getElem?_eq_some_iff.mp hk).1
    rw [hat k hkN] at hk
    cases hk
    exact hS.1 k hkN
  have hD : va_D (zA N b) ws := by
    refine ⟨fun i j p q hi hj h => ?_, fun k q hk => ?_⟩
    · have hiN : i < N := by rw [← hlen]; exact (List.getElem?_eq_some_iff.mp hi).1
      have hjN : j < N := by rw [← hlen]; exact (List.getElem?_eq_some_iff.mp hj).1
      rw [hat i hiN] at hi
      rw [hat j hjN] at hj
      cases hi
      cases hj
      have h : b + i = b + j := h
      omega
    · have hkN : k < N := by rw [← hlen]; exact (List.getElem?_eq_some_iff.mp hk).1
      rw [hat k hkN] at hk
      cases hk
      exact ⟨by show b ≤ b + k; omega, by show b + k < b + N; omega⟩
  have c0 : zcell dA w b j0 (M j0) = .inl (dA 0, n0, .inl (fun k => iI (M j0 k))) := by
    unfold zcell
    rw [if_neg (by omega), hkd0]
    unfold zar
    rw [if_neg (by omega), if_pos (by omega), hln0]
  have c1 : zcell dA w b j1 (M j1) = .inl (dA 0, n1, .inl (fun k => iI (M j1 k))) := by
    unfold zcell
    rw [if_neg (by omega), hkd1]
    unfold zar
    rw [if_neg (by omega), if_pos (by omega), hln1]
  refine va_copyi hexec hb hml hown hlink hnat hstat hini hK hP hD hS0 j0 j1 t0 t0 (by rw [hat j0 hj0, c0]) (by rw [hat j1 hj1, c1]) ht ht rfl (neg sp hsp h1) (neg dp hdp h2) (neg n hnn h3) (by rw [ksp, knn]; omega) (by rw [kdp, knn]; omega) (fun i _ => rfl) hframes hlocals hdg (fun H1 locs1 hP1 _ hS1 => ?_)
  rw [ksp, kdp, knn] at hP1
  refine kk H1 locs1 ⟨?_, ?_, ?_⟩ hS1
  · intro i hi
    by_cases hij : i = j1
    · subst hij
      have h := hP1 i (b + i, _) (List.getElem?_set_self (by rw [hlen]; exact hi))
      rw [show zcell dA w b i (zcp M j0 i sp.toNat dp.toNat n.toNat i) = .inl (dA 0, n1, .inl (va_cpy (fun k => iI (M j0 k)) (fun k => iI (M i k)) sp.toNat dp.toNat n.toNat)) from ?_]
      · exact h
      · unfold zcell
        rw [if_neg (by omega), hkd1]
        unfold zar
        rw [if_neg (by omega), if_pos (by omega), hln1]
        congr 4
        funext k
        unfold zcp va_cpy
        by_cases h : dp.toNat ≤ k ∧ k < dp.toNat + n.toNat
        · rw [if_pos ⟨rfl, h⟩, if_pos h]
        · rw [if_neg (fun q => h q.2), if_neg h]
    · have h := hP1 i (b + i, zcell dA w b i (M i)) (by rw [List.getElem?_set_ne (Ne.symm hij)]; exact hat i hi)
      rw [show zcp M j0 j1 sp.toNat dp.toNat n.toNat i = M i from by funext k; unfold zcp; rw [if_neg (fun q => hij q.1)]]
      exact h
  · intro a k
    unfold zcp
    by_cases h : a = j1 ∧ dp.toNat ≤ k ∧ k < dp.toNat + n.toNat
    · rw [if_pos h]
      obtain ⟨rfl, h6, h7⟩ := h
      have := hbd (k - dp.toNat) (by omega)
      rw [show dp.toNat + (k - dp.toNat) = k by omega] at this
      exact this
    · rw [if_neg h]
      exact hS.2.1 a k
  · intro a k h
    unfold zcp
    rw [if_neg]
    · exact hS.2.2 a k h
    · rintro ⟨rfl, -⟩
      rw [hms k] at h
      cases h
end ZX
theorem zcp_F {w : zW} {M : zM} {j0 j1 sp dp n q : Nat} {L : List Nat} (h : zcd w j1 = q) (h2 : ∀ k, L.elem (w.2.2.2.2.2.2.2 q k) = true) : zF (zms w L) M (zcp M j0 j1 sp dp n) := by
  intro a k hk
  unfold zcp
  rw [if_neg]
  rintro ⟨rfl, -⟩
  rw [zms_of h (h2 k)] at hk
  cases hk
theorem zwk {z a b c d : Int} (h : a ≤ z ∧ z ≤ b) (h1 : c ≤ a) (h2 : b ≤ d) : c ≤ z ∧ z ≤ d := ⟨by omega, by omega⟩
section ZLW
variable {p : Program} {l : Launch} {e : Env} {R : Room} {s : State} {m : MethodId} {args : Array Value} {below : List Frame} {meth : Method} {c : Code} {H : Heap} {locs : List Loc} {cells slots : Nat} {Q : State → Prop}
variable {cc : ByteArray} {pc : Nat} {ls : Array Slot} {rest : List Value}
theorem z_ldcw (hexec : p.tables.exec = Jvm.exec) (hb : c.code = cc) {own : String} {index : Nat} {n : Int} {v : Int32} (hown : s.vm.findClass own = some m.cls) (hc : (Jvm.Cond.constant own index v).before args s = true) (hv : v = iI n) (hdg : decode cc pc = .ok (.ldc_w index, 3)) (k : W p l e R s m args below meth c H locs cells slots Q (F0 m (pc + 3) ls (.int (iI n) :: rest))) : W p l e R s m args below meth c H locs cells slots Q (F0 m pc ls rest) := lv_ldcw hexec hb hown hc hdg (by rw [hv]; exact k)
end ZLW
end zz07_calls
section zz07z_dec
/-! the law, decoded: out of windows of its bytes -/
theorem dz_u1 {c : ByteArray} {p : Nat} {b : UInt8} {t : List UInt8} (h : c.data.toList.drop p = b :: t) : (Reader.u1 : Decoder Nat) c p = .ok (b.toNat, p + 1) := by
  have h2 : c.data.toList[p]? = some b := by
    have e := List.getElem?_drop (xs := c.data.toList) (i := p) (j := 0)
    rw [h] at e
    exact e.symm
  obtain ⟨hp, e⟩ := List.getElem?_eq_some_iff.mp h2
  have hp2 : p < c.size := hp
  have u : (Reader.u1 : Decoder Nat) c p = (if q : p < c.size then (do set (p + 1); pure (c[p]'q).toNat : Decoder Nat) else throw (HasTruncated.truncated p)) c p := rfl
  rw [u, dif_pos hp2]
  show Except.ok ((c[p]'hp2).toNat, p + 1) = _
  rw [show c[p]'hp2 = b from e]
theorem dz_next {L : List UInt8} {p : Nat} {b : UInt8} {t : List UInt8} (h : L.drop p = b :: t) : L.drop (p + 1) = t := by
  rw [← List.drop_drop, h]
  rfl
theorem dz_gen {F : Nat → Decoder Instr} {c : ByteArray} {p n : Nat} {b : UInt8} {t : List UInt8} {I : Instr} (hF : Decoder.instr p = Reader.u1 >>= F) (h : c.data.toList.drop p = b :: t) (k : F b.toNat c (p + 1) = .ok (I, p + n)) : decode c p = .ok (I, n) := by
  have e : Reader.runAt (Decoder.instr p) c p = .ok (I, p + n) := by
    rw [hF]
    show Except.bind ((Reader.u1 : Decoder Nat) c p) (fun x => F x.1 c x.2) = _
    rw [dz_u1 h]
    exact k
  unfold decode
  rw [e]
  show Except.ok (I, p + n - p) = _
  rw [Nat.add_sub_cancel_left]
theorem dz_u2 {c : ByteArray} {p : Nat} {a b : UInt8} {t : List UInt8} (h : c.data.toList.drop p = a :: b :: t) : (Reader.u2 : Decoder Nat) c p = .ok (a.toNat * 256 + b.toNat, p + 2) := by
  show Except.bind ((Reader.u1 : Decoder Nat) c p) (fun x => Except.bind ((Reader.u1 : Decoder Nat) c x.2) (fun y => Except.ok (x.1 * 256 + y.1, y.2))) = _
  rw [dz_u1 h]
  show Except.bind ((Reader.u1 : Decoder Nat) c (p + 1)) (fun y => Except.ok (a.toNat * 256 + y.1, y.2)) = _
  rw [dz_u1 (dz_next h)]
  rfl
theorem dz_at {L W : List UInt8} {p n : Nat} (h : (L.drop p).take n = W) (j : Nat) : L.drop (p + j) = W.drop j ++ ((L.drop p).drop n).drop (j - W.length) := by
  subst h
  rw [← List.drop_append, List.take_append_drop, List.drop_drop]
theorem dz_1 {c : ByteArray} {p : Nat} {t : List UInt8} (h : c.data.toList.drop p = 1 :: t) : decode c p = .ok (.aconst_null, 1) := dz_gen rfl h rfl
theorem dz_2 {c : ByteArray} {p : Nat} {t : List UInt8} (h : c.data.toList.drop p = 2 :: t) : decode c p = .ok (.iconst (-1), 1) := dz_gen rfl h rfl
theorem dz_3 {c : ByteArray} {p : Nat} {t : List UInt8} (h : c.data.toList.drop p = 3 :: t) : decode c p = .ok (.iconst 0, 1) := dz_gen rfl h rfl
theorem dz_4 {c : ByteArray} {p : Nat} {t : List UInt8} (h : c.data.toList.drop p = 4 :: t) : decode c p = .ok (.iconst 1, 1) := dz_gen rfl h rfl
theorem dz_5 {c : ByteArray} {p : Nat} {t : List UInt8} (h : c.data.toList.drop p = 5 :: t) : decode c p = .ok (.iconst 2, 1) := dz_gen rfl h rfl
theorem dz_6 {c : ByteArray} {p : Nat} {t : List UInt8} (h : c.data.toList.drop p = 6 :: t) : decode c p = .ok (.iconst 3, 1) := dz_gen rfl h rfl
theorem dz_7 {c : ByteArray} {p : Nat} {t : List UInt8} (h : c.data.toList.drop p = 7 :: t) : decode c p = .ok (.iconst 4, 1) := dz_gen rfl h rfl
theorem dz_8 {c : ByteArray} {p : Nat} {t : List UInt8} (h : c.data.toList.drop p = 8 :: t) : decode c p = .ok (.iconst 5, 1) := dz_gen rfl h rfl
theorem dz_9 {c : ByteArray} {p : Nat} {t : List UInt8} (h : c.data.toList.drop p = 9 :: t) : decode c p = .ok (.lconst 0, 1) := dz_gen rfl h rfl
theorem dz_10 {c : ByteArray} {p : Nat} {t : List UInt8} (h : c.data.toList.drop p = 10 :: t) : decode c p = .ok (.lconst 1, 1) := dz_gen rfl h rfl
theorem dz_16 {c : ByteArray} {p : Nat} {a : UInt8} {t : List UInt8} {v : Int} (h : c.data.toList.drop p = 16 :: a :: t) (e : Reader.signed 8 a.toNat = v) : decode c p = .ok (.bipush v, 2) := dz_gen rfl h (by show Except.bind (Except.bind ((Reader.u1 : Decoder Nat) c (p + 1)) (fun x => Except.ok (Reader.signed 8 x.1, x.2))) (fun x => Except.ok (Instr.bipush x.1, x.2)) = _; rw [dz_u1 (dz_next h)]; show Except.ok (Instr.bipush (Reader.signed 8 a.toNat), p + 2) = _; rw [e])
theorem dz_17 {c : ByteArray} {p : Nat} {a b : UInt8} {t : List UInt8} {v : Int} (h : c.data.toList.drop p = 17 :: a :: b :: t) (e : Reader.signed 16 (a.toNat * 256 + b.toNat) = v) : decode c p = .ok (.sipush v, 3) := dz_gen rfl h (by show Except.bind (Except.bind ((Reader.u2 : Decoder Nat) c (p + 1)) (fun x => Except.ok (Reader.signed 16 x.1, x.2))) (fun x => Except.ok (Instr.sipush x.1, x.2)) = _; rw [dz_u2 (dz_next h)]; show Except.ok (Instr.sipush (Reader.signed 16 (a.toNat * 256 + b.toNat)), p + 3) = _; rw [e])
theorem dz_18 {c : ByteArray} {p : Nat} {a : UInt8} {t : List UInt8} (h : c.data.toList.drop p = 18 :: a :: t) : decode c p = .ok (.ldc a.toNat, 2) := dz_gen rfl h (by show Except.bind ((Reader.u1 : Decoder Nat) c (p + 1)) (fun x => Except.ok (Instr.ldc x.1, x.2)) = _; rw [dz_u1 (dz_next h)]; rfl)
theorem dz_19 {c : ByteArray} {p : Nat} {a b : UInt8} {t : List UInt8} {v : Nat} (h : c.data.toList.drop p = 19 :: a :: b :: t) (e : a.toNat * 256 + b.toNat = v) : decode c p = .ok (.ldc_w v, 3) := dz_gen rfl h (by show Except.bind ((Reader.u2 : Decoder Nat) c (p + 1)) (fun x => Except.ok (Instr.ldc_w x.1, x.2)) = _; rw [dz_u2 (dz_next h)]; show Except.ok (Instr.ldc_w (a.toNat * 256 + b.toNat), p + 3) = _; rw [e])
theorem dz_20 {c : ByteArray} {p : Nat} {a b : UInt8} {t : List UInt8} {v : Nat} (h : c.data.toList.drop p = 20 :: a :: b :: t) (e : a.toNat * 256 + b.toNat = v) : decode c p = .ok (.ldc2_w v, 3) := dz_gen rfl h (by show Except.bind ((Reader.u2 : Decoder Nat) c (p + 1)) (fun x => Except.ok (Instr.ldc2_w x.1, x.2)) = _; rw [dz_u2 (dz_next h)]; show Except.ok (Instr.ldc2_w (a.toNat * 256 + b.toNat), p + 3) = _; rw [e])
theorem dz_21 {c : ByteArray} {p : Nat} {a : UInt8} {t : List UInt8} (h : c.data.toList.drop p = 21 :: a :: t) : decode c p = .ok (.iload a.toNat, 2) := dz_gen rfl h (by show Except.bind ((Reader.u1 : Decoder Nat) c (p + 1)) (fun x => Except.ok (Instr.iload x.1, x.2)) = _; rw [dz_u1 (dz_next h)]; rfl)
theorem dz_22 {c : ByteArray} {p : Nat} {a : UInt8} {t : List UInt8} (h : c.data.toList.drop p = 22 :: a :: t) : decode c p = .ok (.lload a.toNat, 2) := dz_gen rfl h (by show Except.bind ((Reader.u1 : Decoder Nat) c (p + 1)) (fun x => Except.ok (Instr.lload x.1, x.2)) = _; rw [dz_u1 (dz_next h)]; rfl)
theorem dz_25 {c : ByteArray} {p : Nat} {a : UInt8} {t : List UInt8} (h : c.data.toList.drop p = 25 :: a :: t) : decode c p = .ok (.aload a.toNat, 2) := dz_gen rfl h (by show Except.bind ((Reader.u1 : Decoder Nat) c (p + 1)) (fun x => Except.ok (Instr.aload x.1, x.2)) = _; rw [dz_u1 (dz_next h)]; rfl)
theorem dz_26 {c : ByteArray} {p : Nat} {t : List UInt8} (h : c.data.toList.drop p = 26 :: t) : decode c p = .ok (.iload_n 0, 1) := dz_gen rfl h rfl
theorem dz_27 {c : ByteArray} {p : Nat} {t : List UInt8} (h : c.data.toList.drop p = 27 :: t) : decode c p = .ok (.iload_n 1, 1) := dz_gen rfl h rfl
theorem dz_28 {c : ByteArray} {p : Nat} {t : List UInt8} (h : c.data.toList.drop p = 28 :: t) : decode c p = .ok (.iload_n 2, 1) := dz_gen rfl h rfl
theorem dz_29 {c : ByteArray} {p : Nat} {t : List UInt8} (h : c.data.toList.drop p = 29 :: t) : decode c p = .ok (.iload_n 3, 1) := dz_gen rfl h rfl
theorem dz_30 {c : ByteArray} {p : Nat} {t : List UInt8} (h : c.data.toList.drop p = 30 :: t) : decode c p = .ok (.lload_n 0, 1) := dz_gen rfl h rfl
theorem dz_31 {c : ByteArray} {p : Nat} {t : List UInt8} (h : c.data.toList.drop p = 31 :: t) : decode c p = .ok (.lload_n 1, 1) := dz_gen rfl h rfl
theorem dz_32 {c : ByteArray} {p : Nat} {t : List UInt8} (h : c.data.toList.drop p = 32 :: t) : decode c p = .ok (.lload_n 2, 1) := dz_gen rfl h rfl
theorem dz_33 {c : ByteArray} {p : Nat} {t : List UInt8} (h : c.data.toList.drop p = 33 :: t) : decode c p = .ok (.lload_n 3, 1) := dz_gen rfl h rfl
theorem dz_42 {c : ByteArray} {p : Nat} {t : List UInt8} (h : c.data.toList.drop p = 42 :: t) : decode c p = .ok (.aload_n 0, 1) := dz_gen rfl h rfl
theorem dz_43 {c : ByteArray} {p : Nat} {t : List UInt8} (h : c.data.toList.drop p = 43 :: t) : decode c p = .ok (.aload_n 1, 1) := dz_gen rfl h rfl
theorem dz_44 {c : ByteArray} {p : Nat} {t : List UInt8} (h : c.data.toList.drop p = 44 :: t) : decode c p = .ok (.aload_n 2, 1) := dz_gen rfl h rfl
theorem dz_45 {c : ByteArray} {p : Nat} {t : List UInt8} (h : c.data.toList.drop p = 45 :: t) : decode c p = .ok (.aload_n 3, 1) := dz_gen rfl h rfl
theorem dz_46 {c : ByteArray} {p : Nat} {t : List UInt8} (h : c.data.toList.drop p = 46 :: t) : decode c p = .ok (.iaload, 1) := dz_gen rfl h rfl
theorem dz_50 {c : ByteArray} {p : Nat} {t : List UInt8} (h : c.data.toList.drop p = 50 :: t) : decode c p = .ok (.aaload, 1) := dz_gen rfl h rfl
theorem dz_51 {c : ByteArray} {p : Nat} {t : List UInt8} (h : c.data.toList.drop p = 51 :: t) : decode c p = .ok (.baload, 1) := dz_gen rfl h rfl
theorem dz_54 {c : ByteArray} {p : Nat} {a : UInt8} {t : List UInt8} (h : c.data.toList.drop p = 54 :: a :: t) : decode c p = .ok (.istore a.toNat, 2) := dz_gen rfl h (by show Except.bind ((Reader.u1 : Decoder Nat) c (p + 1)) (fun x => Except.ok (Instr.istore x.1, x.2)) = _; rw [dz_u1 (dz_next h)]; rfl)
theorem dz_55 {c : ByteArray} {p : Nat} {a : UInt8} {t : List UInt8} (h : c.data.toList.drop p = 55 :: a :: t) : decode c p = .ok (.lstore a.toNat, 2) := dz_gen rfl h (by show Except.bind ((Reader.u1 : Decoder Nat) c (p + 1)) (fun x => Except.ok (Instr.lstore x.1, x.2)) = _; rw [dz_u1 (dz_next h)]; rfl)
theorem dz_58 {c : ByteArray} {p : Nat} {a : UInt8} {t : List UInt8} (h : c.data.toList.drop p = 58 :: a :: t) : decode c p = .ok (.astore a.toNat, 2) := dz_gen rfl h (by show Except.bind ((Reader.u1 : Decoder Nat) c (p + 1)) (fun x => Except.ok (Instr.astore x.1, x.2)) = _; rw [dz_u1 (dz_next h)]; rfl)
theorem dz_59 {c : ByteArray} {p : Nat} {t : List UInt8} (h : c.data.toList.drop p = 59 :: t) : decode c p = .ok (.istore_n 0, 1) := dz_gen rfl h rfl
theorem dz_60 {c : ByteArray} {p : Nat} {t : List UInt8} (h : c.data.toList.drop p = 60 :: t) : decode c p = .ok (.istore_n 1, 1) := dz_gen rfl h rfl
theorem dz_61 {c : ByteArray} {p : Nat} {t : List UInt8} (h : c.data.toList.drop p = 61 :: t) : decode c p = .ok (.istore_n 2, 1) := dz_gen rfl h rfl
theorem dz_62 {c : ByteArray} {p : Nat} {t : List UInt8} (h : c.data.toList.drop p = 62 :: t) : decode c p = .ok (.istore_n 3, 1) := dz_gen rfl h rfl
theorem dz_64 {c : ByteArray} {p : Nat} {t : List UInt8} (h : c.data.toList.drop p = 64 :: t) : decode c p = .ok (.lstore_n 1, 1) := dz_gen rfl h rfl
theorem dz_65 {c : ByteArray} {p : Nat} {t : List UInt8} (h : c.data.toList.drop p = 65 :: t) : decode c p = .ok (.lstore_n 2, 1) := dz_gen rfl h rfl
theorem dz_66 {c : ByteArray} {p : Nat} {t : List UInt8} (h : c.data.toList.drop p = 66 :: t) : decode c p = .ok (.lstore_n 3, 1) := dz_gen rfl h rfl
theorem dz_76 {c : ByteArray} {p : Nat} {t : List UInt8} (h : c.data.toList.drop p = 76 :: t) : decode c p = .ok (.astore_n 1, 1) := dz_gen rfl h rfl
theorem dz_77 {c : ByteArray} {p : Nat} {t : List UInt8} (h : c.data.toList.drop p = 77 :: t) : decode c p = .ok (.astore_n 2, 1) := dz_gen rfl h rfl
theorem dz_78 {c : ByteArray} {p : Nat} {t : List UInt8} (h : c.data.toList.drop p = 78 :: t) : decode c p = .ok (.astore_n 3, 1) := dz_gen rfl h rfl
theorem dz_79 {c : ByteArray} {p : Nat} {t : List UInt8} (h : c.data.toList.drop p = 79 :: t) : decode c p = .ok (.iastore, 1) := dz_gen rfl h rfl
theorem dz_80 {c : ByteArray} {p : Nat} {t : List UInt8} (h : c.data.toList.drop p = 80 :: t) : decode c p = .ok (.lastore, 1) := dz_gen rfl h rfl
theorem dz_83 {c : ByteArray} {p : Nat} {t : List UInt8} (h : c.data.toList.drop p = 83 :: t) : decode c p = .ok (.aastore, 1) := dz_gen rfl h rfl
theorem dz_84 {c : ByteArray} {p : Nat} {t : List UInt8} (h : c.data.toList.drop p = 84 :: t) : decode c p = .ok (.bastore, 1) := dz_gen rfl h rfl
theorem dz_87 {c : ByteArray} {p : Nat} {t : List UInt8} (h : c.data.toList.drop p = 87 :: t) : decode c p = .ok (.pop, 1) := dz_gen rfl h rfl
theorem dz_88 {c : ByteArray} {p : Nat} {t : List UInt8} (h : c.data.toList.drop p = 88 :: t) : decode c p = .ok (.pop2, 1) := dz_gen rfl h rfl
theorem dz_89 {c : ByteArray} {p : Nat} {t : List UInt8} (h : c.data.toList.drop p = 89 :: t) : decode c p = .ok (.dup, 1) := dz_gen rfl h rfl
theorem dz_92 {c : ByteArray} {p : Nat} {t : List UInt8} (h : c.data.toList.drop p = 92 :: t) : decode c p = .ok (.dup2, 1) := dz_gen rfl h rfl
theorem dz_96 {c : ByteArray} {p : Nat} {t : List UInt8} (h : c.data.toList.drop p = 96 :: t) : decode c p = .ok (.iadd, 1) := dz_gen rfl h rfl
theorem dz_97 {c : ByteArray} {p : Nat} {t : List UInt8} (h : c.data.toList.drop p = 97 :: t) : decode c p = .ok (.ladd, 1) := dz_gen rfl h rfl
theorem dz_100 {c : ByteArray} {p : Nat} {t : List UInt8} (h : c.data.toList.drop p = 100 :: t) : decode c p = .ok (.isub, 1) := dz_gen rfl h rfl
theorem dz_101 {c : ByteArray} {p : Nat} {t : List UInt8} (h : c.data.toList.drop p = 101 :: t) : decode c p = .ok (.lsub, 1) := dz_gen rfl h rfl
theorem dz_104 {c : ByteArray} {p : Nat} {t : List UInt8} (h : c.data.toList.drop p = 104 :: t) : decode c p = .ok (.imul, 1) := dz_gen rfl h rfl
theorem dz_105 {c : ByteArray} {p : Nat} {t : List UInt8} (h : c.data.toList.drop p = 105 :: t) : decode c p = .ok (.lmul, 1) := dz_gen rfl h rfl
theorem dz_108 {c : ByteArray} {p : Nat} {t : List UInt8} (h : c.data.toList.drop p = 108 :: t) : decode c p = .ok (.idiv, 1) := dz_gen rfl h rfl
theorem dz_109 {c : ByteArray} {p : Nat} {t : List UInt8} (h : c.data.toList.drop p = 109 :: t) : decode c p = .ok (.ldiv, 1) := dz_gen rfl h rfl
theorem dz_112 {c : ByteArray} {p : Nat} {t : List UInt8} (h : c.data.toList.drop p = 112 :: t) : decode c p = .ok (.irem, 1) := dz_gen rfl h rfl
theorem dz_113 {c : ByteArray} {p : Nat} {t : List UInt8} (h : c.data.toList.drop p = 113 :: t) : decode c p = .ok (.lrem, 1) := dz_gen rfl h rfl
theorem dz_120 {c : ByteArray} {p : Nat} {t : List UInt8} (h : c.data.toList.drop p = 120 :: t) : decode c p = .ok (.ishl, 1) := dz_gen rfl h rfl
theorem dz_121 {c : ByteArray} {p : Nat} {t : List UInt8} (h : c.data.toList.drop p = 121 :: t) : decode c p = .ok (.lshl, 1) := dz_gen rfl h rfl
theorem dz_122 {c : ByteArray} {p : Nat} {t : List UInt8} (h : c.data.toList.drop p = 122 :: t) : decode c p = .ok (.ishr, 1) := dz_gen rfl h rfl
theorem dz_124 {c : ByteArray} {p : Nat} {t : List UInt8} (h : c.data.toList.drop p = 124 :: t) : decode c p = .ok (.iushr, 1) := dz_gen rfl h rfl
theorem dz_126 {c : ByteArray} {p : Nat} {t : List UInt8} (h : c.data.toList.drop p = 126 :: t) : decode c p = .ok (.iand, 1) := dz_gen rfl h rfl
theorem dz_127 {c : ByteArray} {p : Nat} {t : List UInt8} (h : c.data.toList.drop p = 127 :: t) : decode c p = .ok (.land, 1) := dz_gen rfl h rfl
theorem dz_128 {c : ByteArray} {p : Nat} {t : List UInt8} (h : c.data.toList.drop p = 128 :: t) : decode c p = .ok (.ior, 1) := dz_gen rfl h rfl
theorem dz_129 {c : ByteArray} {p : Nat} {t : List UInt8} (h : c.data.toList.drop p = 129 :: t) : decode c p = .ok (.lor, 1) := dz_gen rfl h rfl
theorem dz_130 {c : ByteArray} {p : Nat} {t : List UInt8} (h : c.data.toList.drop p = 130 :: t) : decode c p = .ok (.ixor, 1) := dz_gen rfl h rfl
theorem dz_131 {c : ByteArray} {p : Nat} {t : List UInt8} (h : c.data.toList.drop p = 131 :: t) : decode c p = .ok (.lxor, 1) := dz_gen rfl h rfl
theorem dz_132 {c : ByteArray} {p : Nat} {a b : UInt8} {t : List UInt8} {v : Int} (h : c.data.toList.drop p = 132 :: a :: b :: t) (e : Reader.signed 8 b.toNat = v) : decode c p = .ok (.iinc a.toNat v, 3) := dz_gen rfl h (by show Except.bind ((Reader.u1 : Decoder Nat) c (p + 1)) (fun x => Except.bind (Except.bind ((Reader.u1 : Decoder Nat) c x.2) (fun y => Except.ok (Reader.signed 8 y.1, y.2))) (fun y => Except.ok (Instr.iinc x.1 y.1, y.2))) = _; rw [dz_u1 (dz_next h)]; show Except.bind (Except.bind ((Reader.u1 : Decoder Nat) c (p + 1 + 1)) (fun y => Except.ok (Reader.signed 8 y.1, y.2))) (fun y => Except.ok (Instr.iinc a.toNat y.1, y.2)) = _; rw [dz_u1 (dz_next (dz_next h))]; show Except.ok (Instr.iinc a.toNat (Reader.signed 8 b.toNat), p + 3) = _; rw [e])
theorem dz_133 {c : ByteArray} {p : Nat} {t : List UInt8} (h : c.data.toList.drop p = 133 :: t) : decode c p = .ok (.i2l, 1) := dz_gen rfl h rfl
theorem dz_136 {c : ByteArray} {p : Nat} {t : List UInt8} (h : c.data.toList.drop p = 136 :: t) : decode c p = .ok (.l2i, 1) := dz_gen rfl h rfl
theorem dz_145 {c : ByteArray} {p : Nat} {t : List UInt8} (h : c.data.toList.drop p = 145 :: t) : decode c p = .ok (.i2b, 1) := dz_gen rfl h rfl
theorem dz_148 {c : ByteArray} {p : Nat} {t : List UInt8} (h : c.data.toList.drop p = 148 :: t) : decode c p = .ok (.lcmp, 1) := dz_gen rfl h rfl
theorem dz_153 {c : ByteArray} {p : Nat} {a b : UInt8} {t : List UInt8} {v : Int} (h : c.data.toList.drop p = 153 :: a :: b :: t) (e : Reader.signed 16 (a.toNat * 256 + b.toNat) = v) : decode c p = .ok (.ifCond .eq v, 3) := dz_gen rfl h (by show Except.bind (Except.bind ((Reader.u2 : Decoder Nat) c (p + 1)) (fun x => Except.ok (Reader.signed 16 x.1, x.2))) (fun x => Except.ok (Instr.ifCond .eq x.1, x.2)) = _; rw [dz_u2 (dz_next h)]; show Except.ok (Instr.ifCond .eq (Reader.signed 16 (a.toNat * 256 + b.toNat)), p + 3) = _; rw [e])
theorem dz_154 {c : ByteArray} {p : Nat} {a b : UInt8} {t : List UInt8} {v : Int} (h : c.data.toList.drop p = 154 :: a :: b :: t) (e : Reader.signed 16 (a.toNat * 256 + b.toNat) = v) : decode c p = .ok (.ifCond .ne v, 3) := dz_gen rfl h (by show Except.bind (Except.bind ((Reader.u2 : Decoder Nat) c (p + 1)) (fun x => Except.ok (Reader.signed 16 x.1, x.2))) (fun x => Except.ok (Instr.ifCond .ne x.1, x.2)) = _; rw [dz_u2 (dz_next h)]; show Except.ok (Instr.ifCond .ne (Reader.signed 16 (a.toNat * 256 + b.toNat)), p + 3) = _; rw [e])
theorem dz_155 {c : ByteArray} {p : Nat} {a b : UInt8} {t : List UInt8} {v : Int} (h : c.data.toList.drop p = 155 :: a :: b :: t) (e : Reader.signed 16 (a.toNat * 256 + b.toNat) = v) : decode c p = .ok (.ifCond .lt v, 3) := dz_gen rfl h (by show Except.bind (Except.bind ((Reader.u2 : Decoder Nat) c (p + 1)) (fun x => Except.ok (Reader.signed 16 x.1, x.2))) (fun x => Except.ok (Instr.ifCond .lt x.1, x.2)) = _; rw [dz_u2 (dz_next h)]; show Except.ok (Instr.ifCond .lt (Reader.signed 16 (a.toNat * 256 + b.toNat)), p + 3) = _; rw [e])
theorem dz_156 {c : ByteArray} {p : Nat} {a b : UInt8} {t : List UInt8} {v : Int} (h : c.data.toList.drop p = 156 :: a :: b :: t) (e : Reader.signed 16 (a.toNat * 256 + b.toNat) = v) : decode c p = .ok (.ifCond .ge v, 3) := dz_gen rfl h (by show Except.bind (Except.bind ((Reader.u2 : Decoder Nat) c (p + 1)) (fun x => Except.ok (Reader.signed 16 x.1, x.2))) (fun x => Except.ok (Instr.ifCond .ge x.1, x.2)) = _; rw [dz_u2 (dz_next h)]; show Except.ok (Instr.ifCond .ge (Reader.signed 16 (a.toNat * 256 + b.toNat)), p + 3) = _; rw [e])
theorem dz_157 {c : ByteArray} {p : Nat} {a b : UInt8} {t : List UInt8} {v : Int} (h : c.data.toList.drop p = 157 :: a :: b :: t) (e : Reader.signed 16 (a.toNat * 256 + b.toNat) = v) : decode c p = .ok (.ifCond .gt v, 3) := dz_gen rfl h (by show Except.bind (Except.bind ((Reader.u2 : Decoder Nat) c (p + 1)) (fun x => Except.ok (Reader.signed 16 x.1, x.2))) (fun x => Except.ok (Instr.ifCond .gt x.1, x.2)) = _; rw [dz_u2 (dz_next h)]; show Except.ok (Instr.ifCond .gt (Reader.signed 16 (a.toNat * 256 + b.toNat)), p + 3) = _; rw [e])
theorem dz_158 {c : ByteArray} {p : Nat} {a b : UInt8} {t : List UInt8} {v : Int} (h : c.data.toList.drop p = 158 :: a :: b :: t) (e : Reader.signed 16 (a.toNat * 256 + b.toNat) = v) : decode c p = .ok (.ifCond .le v, 3) := dz_gen rfl h (by show Except.bind (Except.bind ((Reader.u2 : Decoder Nat) c (p + 1)) (fun x => Except.ok (Reader.signed 16 x.1, x.2))) (fun x => Except.ok (Instr.ifCond .le x.1, x.2)) = _; rw [dz_u2 (dz_next h)]; show Except.ok (Instr.ifCond .le (Reader.signed 16 (a.toNat * 256 + b.toNat)), p + 3) = _; rw [e])
theorem dz_159 {c : ByteArray} {p : Nat} {a b : UInt8} {t : List UInt8} {v : Int} (h : c.data.toList.drop p = 159 :: a :: b :: t) (e : Reader.signed 16 (a.toNat * 256 + b.toNat) = v) : decode c p = .ok (.if_icmp .eq v, 3) := dz_gen rfl h (by show Except.bind (Except.bind ((Reader.u2 : Decoder Nat) c (p + 1)) (fun x => Except.ok (Reader.signed 16 x.1, x.2))) (fun x => Except.ok (Instr.if_icmp .eq x.1, x.2)) = _; rw [dz_u2 (dz_next h)]; show Except.ok (Instr.if_icmp .eq (Reader.signed 16 (a.toNat * 256 + b.toNat)), p + 3) = _; rw [e])
theorem dz_160 {c : ByteArray} {p : Nat} {a b : UInt8} {t : List UInt8} {v : Int} (h : c.data.toList.drop p = 160 :: a :: b :: t) (e : Reader.signed 16 (a.toNat * 256 + b.toNat) = v) : decode c p = .ok (.if_icmp .ne v, 3) := dz_gen rfl h (by show Except.bind (Except.bind ((Reader.u2 : Decoder Nat) c (p + 1)) (fun x => Except.ok (Reader.signed 16 x.1, x.2))) (fun x => Except.ok (Instr.if_icmp .ne x.1, x.2)) = _; rw [dz_u2 (dz_next h)]; show Except.ok (Instr.if_icmp .ne (Reader.signed 16 (a.toNat * 256 + b.toNat)), p + 3) = _; rw [e])
theorem dz_161 {c : ByteArray} {p : Nat} {a b : UInt8} {t : List UInt8} {v : Int} (h : c.data.toList.drop p = 161 :: a :: b :: t) (e : Reader.signed 16 (a.toNat * 256 + b.toNat) = v) : decode c p = .ok (.if_icmp .lt v, 3) := dz_gen rfl h (by show Except.bind (Except.bind ((Reader.u2 : Decoder Nat) c (p + 1)) (fun x => Except.ok (Reader.signed 16 x.1, x.2))) (fun x => Except.ok (Instr.if_icmp .lt x.1, x.2)) = _; rw [dz_u2 (dz_next h)]; show Except.ok (Instr.if_icmp .lt (Reader.signed 16 (a.toNat * 256 + b.toNat)), p + 3) = _; rw [e])
theorem dz_162 {c : ByteArray} {p : Nat} {a b : UInt8} {t : List UInt8} {v : Int} (h : c.data.toList.drop p = 162 :: a :: b :: t) (e : Reader.signed 16 (a.toNat * 256 + b.toNat) = v) : decode c p = .ok (.if_icmp .ge v, 3) := dz_gen rfl h (by show Except.bind (Except.bind ((Reader.u2 : Decoder Nat) c (p + 1)) (fun x => Except.ok (Reader.signed 16 x.1, x.2))) (fun x => Except.ok (Instr.if_icmp .ge x.1, x.2)) = _; rw [dz_u2 (dz_next h)]; show Except.ok (Instr.if_icmp .ge (Reader.signed 16 (a.toNat * 256 + b.toNat)), p + 3) = _; rw [e])
theorem dz_163 {c : ByteArray} {p : Nat} {a b : UInt8} {t : List UInt8} {v : Int} (h : c.data.toList.drop p = 163 :: a :: b :: t) (e : Reader.signed 16 (a.toNat * 256 + b.toNat) = v) : decode c p = .ok (.if_icmp .gt v, 3) := dz_gen rfl h (by show Except.bind (Except.bind ((Reader.u2 : Decoder Nat) c (p + 1)) (fun x => Except.ok (Reader.signed 16 x.1, x.2))) (fun x => Except.ok (Instr.if_icmp .gt x.1, x.2)) = _; rw [dz_u2 (dz_next h)]; show Except.ok (Instr.if_icmp .gt (Reader.signed 16 (a.toNat * 256 + b.toNat)), p + 3) = _; rw [e])
theorem dz_164 {c : ByteArray} {p : Nat} {a b : UInt8} {t : List UInt8} {v : Int} (h : c.data.toList.drop p = 164 :: a :: b :: t) (e : Reader.signed 16 (a.toNat * 256 + b.toNat) = v) : decode c p = .ok (.if_icmp .le v, 3) := dz_gen rfl h (by show Except.bind (Except.bind ((Reader.u2 : Decoder Nat) c (p + 1)) (fun x => Except.ok (Reader.signed 16 x.1, x.2))) (fun x => Except.ok (Instr.if_icmp .le x.1, x.2)) = _; rw [dz_u2 (dz_next h)]; show Except.ok (Instr.if_icmp .le (Reader.signed 16 (a.toNat * 256 + b.toNat)), p + 3) = _; rw [e])
theorem dz_167 {c : ByteArray} {p : Nat} {a b : UInt8} {t : List UInt8} {v : Int} (h : c.data.toList.drop p = 167 :: a :: b :: t) (e : Reader.signed 16 (a.toNat * 256 + b.toNat) = v) : decode c p = .ok (.goto v, 3) := dz_gen rfl h (by show Except.bind (Except.bind ((Reader.u2 : Decoder Nat) c (p + 1)) (fun x => Except.ok (Reader.signed 16 x.1, x.2))) (fun x => Except.ok (Instr.goto x.1, x.2)) = _; rw [dz_u2 (dz_next h)]; show Except.ok (Instr.goto (Reader.signed 16 (a.toNat * 256 + b.toNat)), p + 3) = _; rw [e])
theorem dz_172 {c : ByteArray} {p : Nat} {t : List UInt8} (h : c.data.toList.drop p = 172 :: t) : decode c p = .ok (.ireturn, 1) := dz_gen rfl h rfl
theorem dz_173 {c : ByteArray} {p : Nat} {t : List UInt8} (h : c.data.toList.drop p = 173 :: t) : decode c p = .ok (.lreturn, 1) := dz_gen rfl h rfl
theorem dz_176 {c : ByteArray} {p : Nat} {t : List UInt8} (h : c.data.toList.drop p = 176 :: t) : decode c p = .ok (.areturn, 1) := dz_gen rfl h rfl
theorem dz_177 {c : ByteArray} {p : Nat} {t : List UInt8} (h : c.data.toList.drop p = 177 :: t) : decode c p = .ok (.return_, 1) := dz_gen rfl h rfl
theorem dz_180 {c : ByteArray} {p : Nat} {a b : UInt8} {t : List UInt8} {v : Nat} (h : c.data.toList.drop p = 180 :: a :: b :: t) (e : a.toNat * 256 + b.toNat = v) : decode c p = .ok (.getfield v, 3) := dz_gen rfl h (by show Except.bind ((Reader.u2 : Decoder Nat) c (p + 1)) (fun x => Except.ok (Instr.getfield x.1, x.2)) = _; rw [dz_u2 (dz_next h)]; show Except.ok (Instr.getfield (a.toNat * 256 + b.toNat), p + 3) = _; rw [e])
theorem dz_181 {c : ByteArray} {p : Nat} {a b : UInt8} {t : List UInt8} {v : Nat} (h : c.data.toList.drop p = 181 :: a :: b :: t) (e : a.toNat * 256 + b.toNat = v) : decode c p = .ok (.putfield v, 3) := dz_gen rfl h (by show Except.bind ((Reader.u2 : Decoder Nat) c (p + 1)) (fun x => Except.ok (Instr.putfield x.1, x.2)) = _; rw [dz_u2 (dz_next h)]; show Except.ok (Instr.putfield (a.toNat * 256 + b.toNat), p + 3) = _; rw [e])
theorem dz_182 {c : ByteArray} {p : Nat} {a b : UInt8} {t : List UInt8} {v : Nat} (h : c.data.toList.drop p = 182 :: a :: b :: t) (e : a.toNat * 256 + b.toNat = v) : decode c p = .ok (.invokevirtual v, 3) := dz_gen rfl h (by show Except.bind ((Reader.u2 : Decoder Nat) c (p + 1)) (fun x => Except.ok (Instr.invokevirtual x.1, x.2)) = _; rw [dz_u2 (dz_next h)]; show Except.ok (Instr.invokevirtual (a.toNat * 256 + b.toNat), p + 3) = _; rw [e])
theorem dz_183 {c : ByteArray} {p : Nat} {a b : UInt8} {t : List UInt8} {v : Nat} (h : c.data.toList.drop p = 183 :: a :: b :: t) (e : a.toNat * 256 + b.toNat = v) : decode c p = .ok (.invokespecial v, 3) := dz_gen rfl h (by show Except.bind ((Reader.u2 : Decoder Nat) c (p + 1)) (fun x => Except.ok (Instr.invokespecial x.1, x.2)) = _; rw [dz_u2 (dz_next h)]; show Except.ok (Instr.invokespecial (a.toNat * 256 + b.toNat), p + 3) = _; rw [e])
theorem dz_184 {c : ByteArray} {p : Nat} {a b : UInt8} {t : List UInt8} {v : Nat} (h : c.data.toList.drop p = 184 :: a :: b :: t) (e : a.toNat * 256 + b.toNat = v) : decode c p = .ok (.invokestatic v, 3) := dz_gen rfl h (by show Except.bind ((Reader.u2 : Decoder Nat) c (p + 1)) (fun x => Except.ok (Instr.invokestatic x.1, x.2)) = _; rw [dz_u2 (dz_next h)]; show Except.ok (Instr.invokestatic (a.toNat * 256 + b.toNat), p + 3) = _; rw [e])
theorem dz_187 {c : ByteArray} {p : Nat} {a b : UInt8} {t : List UInt8} {v : Nat} (h : c.data.toList.drop p = 187 :: a :: b :: t) (e : a.toNat * 256 + b.toNat = v) : decode c p = .ok (.new v, 3) := dz_gen rfl h (by show Except.bind ((Reader.u2 : Decoder Nat) c (p + 1)) (fun x => Except.ok (Instr.new x.1, x.2)) = _; rw [dz_u2 (dz_next h)]; show Except.ok (Instr.new (a.toNat * 256 + b.toNat), p + 3) = _; rw [e])
theorem dz_189 {c : ByteArray} {p : Nat} {a b : UInt8} {t : List UInt8} {v : Nat} (h : c.data.toList.drop p = 189 :: a :: b :: t) (e : a.toNat * 256 + b.toNat = v) : decode c p = .ok (.anewarray v, 3) := dz_gen rfl h (by show Except.bind ((Reader.u2 : Decoder Nat) c (p + 1)) (fun x => Except.ok (Instr.anewarray x.1, x.2)) = _; rw [dz_u2 (dz_next h)]; show Except.ok (Instr.anewarray (a.toNat * 256 + b.toNat), p + 3) = _; rw [e])
theorem dz_190 {c : ByteArray} {p : Nat} {t : List UInt8} (h : c.data.toList.drop p = 190 :: t) : decode c p = .ok (.arraylength, 1) := dz_gen rfl h rfl
theorem dz_191 {c : ByteArray} {p : Nat} {t : List UInt8} (h : c.data.toList.drop p = 191 :: t) : decode c p = .ok (.athrow, 1) := dz_gen rfl h rfl
theorem dz_198 {c : ByteArray} {p : Nat} {a b : UInt8} {t : List UInt8} {v : Int} (h : c.data.toList.drop p = 198 :: a :: b :: t) (e : Reader.signed 16 (a.toNat * 256 + b.toNat) = v) : decode c p = .ok (.ifnull v, 3) := dz_gen rfl h (by show Except.bind (Except.bind ((Reader.u2 : Decoder Nat) c (p + 1)) (fun x => Except.ok (Reader.signed 16 x.1, x.2))) (fun x => Except.ok (Instr.ifnull x.1, x.2)) = _; rw [dz_u2 (dz_next h)]; show Except.ok (Instr.ifnull (Reader.signed 16 (a.toNat * 256 + b.toNat)), p + 3) = _; rw [e])
theorem dz_199 {c : ByteArray} {p : Nat} {a b : UInt8} {t : List UInt8} {v : Int} (h : c.data.toList.drop p = 199 :: a :: b :: t) (e : Reader.signed 16 (a.toNat * 256 + b.toNat) = v) : decode c p = .ok (.ifnonnull v, 3) := dz_gen rfl h (by show Except.bind (Except.bind ((Reader.u2 : Decoder Nat) c (p + 1)) (fun x => Except.ok (Reader.signed 16 x.1, x.2))) (fun x => Except.ok (Instr.ifnonnull x.1, x.2)) = _; rw [dz_u2 (dz_next h)]; show Except.ok (Instr.ifnonnull (Reader.signed 16 (a.toNat * 256 + b.toNat)), p + 3) = _; rw [e])
end zz07z_dec
section zz08_wbase
/-! THE W LAYER: what a method does to the numbers of a world, as a predicate transformer; one row an instruction, no bounds of the numbers asked but where the machine asks them -/
def sI (z : Int) : Int := (iI z).toInt
def sL (z : Int) : Int := (iL z).toInt
theorem sI_R (z : Int) : R32 (sI z) := iI_r _
theorem sL_R (z : Int) : R64 (sL z) := iL_r _
theorem sI_of {z : Int} (h : R32 z) : sI z = z := iI_t h
theorem sL_of {z : Int} (h : R64 z) : sL z = z := iL_t h
theorem sIo {z : Int} (h1 : -2147483648 ≤ z) (h2 : z ≤ 2147483647) : sI z = z := iI_t ⟨h1, h2⟩
theorem sLo {z : Int} (h1 : -9223372036854775808 ≤ z) (h2 : z ≤ 9223372036854775807) : sL z = z := iL_t ⟨h1, h2⟩
theorem iI_sI (z : Int) : iI (sI z) = iI z := iI_e _
theorem iL_sL (z : Int) : iL (sL z) = iL z := iL_e _
theorem iI_cg {x y : Int} (h : sI x = y) : iI x = iI y := by rw [← h, iI_sI]
theorem iL_cg {x y : Int} (h : sL x = y) : iL x = iL y := by rw [← h, iL_sL]
theorem sI_c {x y : Int} (h : sI x = y) : R32 y := by rw [← h]; exact sI_R x
theorem sL_c {x y : Int} (h : sL x = y) : R64 y := by rw [← h]; exact sL_R x
theorem sI_up {x y : Int} (h : sI x = y) : sI y = y := sI_of (sI_c h)
theorem sL_up {x y : Int} (h : sL x = y) : sL y = y := sL_of (sL_c h)
theorem sL_ofI {x y : Int} (h : sI x = y) : sL y = y := sL_of (r64of (sI_c h))
theorem sI_01 {z : Int} (h : z = 0 ∨ z = 1) : sI z = z := sIo (by omega) (by omega)
theorem R_max {x y : Int} (hx : R32 x) (hy : R32 y) : R32 (max x y) := ⟨by omega, by omega⟩
theorem R_min {x y : Int} (hx : R32 x) (hy : R32 y) : R32 (min x y) := ⟨by omega, by omega⟩
theorem L_max {x y : Int} (hx : R64 x) (hy : R64 y) : R64 (max x y) := ⟨by omega, by omega⟩
theorem L_min {x y : Int} (hx : R64 x) (hy : R64 y) : R64 (min x y) := ⟨by omega, by omega⟩
def andI (x y : Int) : Int := (iI x &&& iI y).toInt
def orI (x y : Int) : Int := (iI x ||| iI y).toInt
def xorI (x y : Int) : Int := (iI x ^^^ iI y).toInt
def shlI (x y : Int) : Int := (iI x <<< (iI y &&& 31)).toInt
def shrI (x y : Int) : Int := (iI x >>> (iI y &&& 31)).toInt
def ushrI (x y : Int) : Int := (((iI x).toUInt32 >>> ((iI y).toUInt32 &&& Int32.toUInt32 31)).toInt32).toInt
def andL (x y : Int) : Int := (iL x &&& iL y).toInt
def orL (x y : Int) : Int := (iL x ||| iL y).toInt
def xorL (x y : Int) : Int := (iL x ^^^ iL y).toInt
def shlL (x y : Int) : Int := (iL x <<< ((iI y).toInt64 &&& 63)).toInt
def b8I (x : Int) : Int := ((iI x).toInt8.toInt32).toInt
def absI (x : Int) : Int := if x < 0 then -x else x
theorem b8I_in (x : Int) : -128 ≤ b8I x ∧ b8I x ≤ 127 := by
  have h1 := Int8.le_toInt (iI x).toInt8
  have h2 := Int8.toInt_lt (iI x).toInt8
  unfold b8I
  rw [Int8.toInt_toInt32]
  omega
theorem b8I_R (x : Int) : R32 (b8I x) := by have := b8I_in x; exact ⟨by omega, by omega⟩
theorem andI_R (x y : Int) : R32 (andI x y) := iI_r _
theorem orI_R (x y : Int) : R32 (orI x y) := iI_r _
theorem xorI_R (x y : Int) : R32 (xorI x y) := iI_r _
theorem shlI_R (x y : Int) : R32 (shlI x y) := iI_r _
theorem shrI_R (x y : Int) : R32 (shrI x y) := iI_r _
theorem ushrI_R (x y : Int) : R32 (ushrI x y) := iI_r _
theorem andL_R (x y : Int) : R64 (andL x y) := iL_r _
theorem orL_R (x y : Int) : R64 (orL x y) := iL_r _
theorem xorL_R (x y : Int) : R64 (xorL x y) := iL_r _
theorem shlL_R (x y : Int) : R64 (shlL x y) := iL_r _
section WI
variable {p : Program} {l : Launch} {e : Env} {R : Room} {s : State} {m : MethodId} {args : Array Value} {below : List Frame} {meth : Method} {c : Code} {H : Heap} {locs : List Loc} {cells slots : Nat} {Q : State → Prop}
variable {cc : ByteArray} {pc : Nat} {ls : Array Slot} {rest st0 : List Value} {D : va_G} {dA : Nat → ClassId} {cl : List vw_C} {tys : List (ClassId × FieldType)} {H0 : Heap} {w : zW} {N b : Nat} {M M0 M1 : zM} {a : Array Value}
theorem w_iand (hexec : p.tables.exec = Jvm.exec) (hb : c.code = cc) {x y : Int} (hdg : decode cc pc = .ok (.iand, 1)) (k : W p l e R s m args below meth c H locs cells slots Q (F0 m (pc + 1) ls (.int (iI (andI x y)) :: rest))) : W p l e R s m args below meth c H locs cells slots Q (F0 m pc ls (.int (iI y) :: .int (iI x) :: rest)) :=
  z_iand hexec hb hdg (fun z hz e => by have h : z = andI x y := (by unfold andI; rw [← e]; exact (iI_t hz).symm); rw [h]; exact k)
theorem w_ior (hexec : p.tables.exec = Jvm.exec) (hb : c.code = cc) {x y : Int} (hdg : decode cc pc = .ok (.ior, 1)) (k : W p l e R s m args below meth c H locs cells slots Q (F0 m (pc + 1) ls (.int (iI (orI x y)) :: rest))) : W p l e R s m args below meth c H locs cells slots Q (F0 m pc ls (.int (iI y) :: .int (iI x) :: rest)) :=
  z_ior hexec hb hdg (fun z hz e => by have h : z = orI x y := (by unfold orI; rw [← e]; exact (iI_t hz).symm); rw [h]; exact k)
theorem w_ixor (hexec : p.tables.exec = Jvm.exec) (hb : c.code = cc) {x y : Int} (hdg : decode cc pc = .ok (.ixor, 1)) (k : W p l e R s m args below meth c H locs cells slots Q (F0 m (pc + 1) ls (.int (iI (xorI x y)) :: rest))) : W p l e R s m args below meth c H locs cells slots Q (F0 m pc ls (.int (iI y) :: .int (iI x) :: rest)) :=
  z_ixor hexec hb hdg (fun z hz e => by have h : z = xorI x y := (by unfold xorI; rw [← e]; exact (iI_t hz).symm); rw [h]; exact k)
theorem w_ishl (hexec : p.tables.exec = Jvm.exec) (hb : c.code = cc) {x y : Int} (hdg : decode cc pc = .ok (.ishl, 1)) (k : W p l e R s m args below meth c H locs cells slots Q (F0 m (pc + 1) ls (.int (iI (shlI x y)) :: rest))) : W p l e R s m args below meth c H locs cells slots Q (F0 m pc ls (.int (iI y) :: .int (iI x) :: rest)) :=
  z_ishl hexec hb hdg (fun z hz e => by have h : z = shlI x y := (by unfold shlI; rw [← e]; exact (iI_t hz).symm); rw [h]; exact k)
theorem w_ishr (hexec : p.tables.exec = Jvm.exec) (hb : c.code = cc) {x y : Int} (hdg : decode cc pc = .ok (.ishr, 1)) (k : W p l e R s m args below meth c H locs cells slots Q (F0 m (pc + 1) ls (.int (iI (shrI x y)) :: rest))) : W p l e R s m args below meth c H locs cells slots Q (F0 m pc ls (.int (iI y) :: .int (iI x) :: rest)) :=
  z_ishr hexec hb hdg (fun z hz e => by have h : z = shrI x y := (by unfold shrI; rw [← e]; exact (iI_t hz).symm); rw [h]; exact k)
theorem w_iushr (hexec : p.tables.exec = Jvm.exec) (hb : c.code = cc) {x y : Int} (hdg : decode cc pc = .ok (.iushr, 1)) (k : W p l e R s m args below meth c H locs cells slots Q (F0 m (pc + 1) ls (.int (iI (ushrI x y)) :: rest))) : W p l e R s m args below meth c H locs cells slots Q (F0 m pc ls (.int (iI y) :: .int (iI x) :: rest)) :=
  z_iushr hexec hb hdg (fun z hz e => by have h : z = ushrI x y := (by unfold ushrI; rw [← e]; exact (iI_t hz).symm); rw [h]; exact k)
theorem w_land (hexec : p.tables.exec = Jvm.exec) (hb : c.code = cc) {x y : Int} (hdg : decode cc pc = .ok (.land, 1)) (k : W p l e R s m args below meth c H locs cells slots Q (F0 m (pc + 1) ls (.long (iL (andL x y)) :: rest))) : W p l e R s m args below meth c H locs cells slots Q (F0 m pc ls (.long (iL y) :: .long (iL x) :: rest)) :=
  z_land hexec hb hdg (fun z hz e => by have h : z = andL x y := (by unfold andL; rw [← e]; exact (iL_t hz).symm); rw [h]; exact k)
theorem w_lor (hexec : p.tables.exec = Jvm.exec) (hb : c.code = cc) {x y : Int} (hdg : decode cc pc = .ok (.lor, 1)) (k : W p l e R s m args below meth c H locs cells slots Q (F0 m (pc + 1) ls (.long (iL (orL x y)) :: rest))) : W p l e R s m args below meth c H locs cells slots Q (F0 m pc ls (.long (iL y) :: .long (iL x) :: rest)) :=
  z_lor hexec hb hdg (fun z hz e => by have h : z = orL x y := (by unfold orL; rw [← e]; exact (iL_t hz).symm); rw [h]; exact k)
theorem w_lxor (hexec : p.tables.exec = Jvm.exec) (hb : c.code = cc) {x y : Int} (hdg : decode cc pc = .ok (.lxor, 1)) (k : W p l e R s m args below meth c H locs cells slots Q (F0 m (pc + 1) ls (.long (iL (xorL x y)) :: rest))) : W p l e R s m args below meth c H locs cells slots Q (F0 m pc ls (.long (iL y) :: .long (iL x) :: rest)) :=
  z_lxor hexec hb hdg (fun z hz e => by have h : z = xorL x y := (by unfold xorL; rw [← e]; exact (iL_t hz).symm); rw [h]; exact k)
theorem w_lshl (hexec : p.tables.exec = Jvm.exec) (hb : c.code = cc) {x y : Int} (hdg : decode cc pc = .ok (.lshl, 1)) (k : W p l e R s m args below meth c H locs cells slots Q (F0 m (pc + 1) ls (.long (iL (shlL x y)) :: rest))) : W p l e R s m args below meth c H locs cells slots Q (F0 m pc ls (.int (iI y) :: .long (iL x) :: rest)) :=
  z_lshl hexec hb hdg (fun z hz e => by have h : z = shlL x y := (by unfold shlL; rw [← e]; exact (iL_t hz).symm); rw [h]; exact k)
theorem w_i2b (hexec : p.tables.exec = Jvm.exec) (hb : c.code = cc) {x : Int} (hdg : decode cc pc = .ok (.i2b, 1)) (k : W p l e R s m args below meth c H locs cells slots Q (F0 m (pc + 1) ls (.int (iI (b8I x)) :: rest))) : W p l e R s m args below meth c H locs cells slots Q (F0 m pc ls (.int (iI x) :: rest)) :=
  z_i2b hexec hb hdg (fun z hz e => by have h : z = b8I x := (by unfold b8I; rw [← e]; exact (iI_t ⟨by omega, by omega⟩).symm); rw [h]; exact k)
theorem w_idiv (hexec : p.tables.exec = Jvm.exec) (hb : c.code = cc) {x y x' y' : Int} (hx : sI x = x') (hy : sI y = y') (h0 : y' ≠ 0) (hdg : decode cc pc = .ok (.idiv, 1)) (k : W p l e R s m args below meth c H locs cells slots Q (F0 m (pc + 1) ls (.int (iI (x'.tdiv y')) :: rest))) : W p l e R s m args below meth c H locs cells slots Q (F0 m pc ls (.int (iI y) :: .int (iI x) :: rest)) := by
  rw [iI_cg hx, iI_cg hy]
  exact z_idiv hexec hb (sI_c hx) (sI_c hy) h0 hdg k
theorem w_irem (hexec : p.tables.exec = Jvm.exec) (hb : c.code = cc) {x y x' y' : Int} (hx : sI x = x') (hy : sI y = y') (h0 : y' ≠ 0) (hdg : decode cc pc = .ok (.irem, 1)) (k : W p l e R s m args below meth c H locs cells slots Q (F0 m (pc + 1) ls (.int (iI (x'.tmod y')) :: rest))) : W p l e R s m args below meth c H locs cells slots Q (F0 m pc ls (.int (iI y) :: .int (iI x) :: rest)) := by
  rw [iI_cg hx, iI_cg hy]
  exact z_irem hexec hb (sI_c hx) (sI_c hy) h0 hdg k
theorem w_ldiv (hexec : p.tables.exec = Jvm.exec) (hb : c.code = cc) {x y x' y' : Int} (hx : sL x = x') (hy : sL y = y') (h0 : y' ≠ 0) (hdg : decode cc pc = .ok (.ldiv, 1)) (k : W p l e R s m args below meth c H locs cells slots Q (F0 m (pc + 1) ls (.long (iL (x'.tdiv y')) :: rest))) : W p l e R s m args below meth c H locs cells slots Q (F0 m pc ls (.long (iL y) :: .long (iL x) :: rest)) := by
  rw [iL_cg hx, iL_cg hy]
  exact z_ldiv hexec hb (sL_c hx) (sL_c hy) h0 hdg k
theorem w_lrem (hexec : p.tables.exec = Jvm.exec) (hb : c.code = cc) {x y x' y' : Int} (hx : sL x = x') (hy : sL y = y') (h0 : y' ≠ 0) (hdg : decode cc pc = .ok (.lrem, 1)) (k : W p l e R s m args below meth c H locs cells slots Q (F0 m (pc + 1) ls (.long (iL (x'.tmod y')) :: rest))) : W p l e R s m args below meth c H locs cells slots Q (F0 m pc ls (.long (iL y) :: .long (iL x) :: rest)) := by
  rw [iL_cg hx, iL_cg hy]
  exact z_lrem hexec hb (sL_c hx) (sL_c hy) h0 hdg k
theorem w_i2l (hexec : p.tables.exec = Jvm.exec) (hb : c.code = cc) {x x' : Int} (hx : sI x = x') (hdg : decode cc pc = .ok (.i2l, 1)) (k : W p l e R s m args below meth c H locs cells slots Q (F0 m (pc + 1) ls (.long (iL x') :: rest))) : W p l e R s m args below meth c H locs cells slots Q (F0 m pc ls (.int (iI x) :: rest)) := by
  rw [iI_cg hx]
  exact z_i2l hexec hb (sI_c hx) hdg k
theorem w_icmp_eq (hexec : p.tables.exec = Jvm.exec) (hb : c.code = cc) {x y x' y' : Int} {off : Int} {tgt : Nat} (hx : sI x = x') (hy : sI y = y') (hdg : decode cc pc = .ok (.if_icmp .eq off, 3)) (ht : (pc : Int) + off = (tgt : Int)) (kt : x' = y' → W p l e R s m args below meth c H locs cells slots Q (F0 m tgt ls (rest))) (kf : x' ≠ y' → W p l e R s m args below meth c H locs cells slots Q (F0 m (pc + 3) ls (rest))) : W p l e R s m args below meth c H locs cells slots Q (F0 m pc ls (.int (iI y) :: .int (iI x) :: rest)) := by
  rw [iI_cg hx, iI_cg hy]
  exact z_icmp_eq hexec hb (sI_c hx) (sI_c hy) hdg ht kt kf
theorem w_if_eq (hexec : p.tables.exec = Jvm.exec) (hb : c.code = cc) {x x' : Int} {off : Int} {tgt : Nat} (hx : sI x = x') (hdg : decode cc pc = .ok (.ifCond .eq off, 3)) (ht : (pc : Int) + off = (tgt : Int)) (kt : x' = 0 → W p l e R s m args below meth c H locs cells slots Q (F0 m tgt ls (rest))) (kf : x' ≠ 0 → W p l e R s m args below meth c H locs cells slots Q (F0 m (pc + 3) ls (rest))) : W p l e R s m args below meth c H locs cells slots Q (F0 m pc ls (.int (iI x) :: rest)) := by
  rw [iI_cg hx]
  exact z_if_eq hexec hb (sI_c hx) hdg ht kt kf
theorem w_lcmp_eq (hexec : p.tables.exec = Jvm.exec) (hb : c.code = cc) {x y x' y' : Int} {off : Int} {tgt : Nat} (hx : sL x = x') (hy : sL y = y') (hd1 : decode cc pc = .ok (.lcmp, 1)) (hdg : decode cc (pc + 1) = .ok (.ifCond .eq off, 3)) (ht : ((pc + 1 : Nat) : Int) + off = (tgt : Int)) (kt : x' = y' → W p l e R s m args below meth c H locs cells slots Q (F0 m tgt ls (rest))) (kf : x' ≠ y' → W p l e R s m args below meth c H locs cells slots Q (F0 m (pc + 1 + 3) ls (rest))) : W p l e R s m args below meth c H locs cells slots Q (F0 m pc ls (.long (iL y) :: .long (iL x) :: rest)) := by
  rw [iL_cg hx, iL_cg hy]
  exact z_lcmp_eq hexec hb (sL_c hx) (sL_c hy) hd1 hdg ht kt kf
theorem w_icmp_ne (hexec : p.tables.exec = Jvm.exec) (hb : c.code = cc) {x y x' y' : Int} {off : Int} {tgt : Nat} (hx : sI x = x') (hy : sI y = y') (hdg : decode cc pc = .ok (.if_icmp .ne off, 3)) (ht : (pc : Int) + off = (tgt : Int)) (kt : x' ≠ y' → W p l e R s m args below meth c H locs cells slots Q (F0 m tgt ls (rest))) (kf : x' = y' → W p l e R s m args below meth c H locs cells slots Q (F0 m (pc + 3) ls (rest))) : W p l e R s m args below meth c H locs cells slots Q (F0 m pc ls (.int (iI y) :: .int (iI x) :: rest)) := by
  rw [iI_cg hx, iI_cg hy]
  exact z_icmp_ne hexec hb (sI_c hx) (sI_c hy) hdg ht kt kf
theorem w_if_ne (hexec : p.tables.exec = Jvm.exec) (hb : c.code = cc) {x x' : Int} {off : Int} {tgt : Nat} (hx : sI x = x') (hdg : decode cc pc = .ok (.ifCond .ne off, 3)) (ht : (pc : Int) + off = (tgt : Int)) (kt : x' ≠ 0 → W p l e R s m args below meth c H locs cells slots Q (F0 m tgt ls (rest))) (kf : x' = 0 → W p l e R s m args below meth c H locs cells slots Q (F0 m (pc + 3) ls (rest))) : W p l e R s m args below meth c H locs cells slots Q (F0 m pc ls (.int (iI x) :: rest)) := by
  rw [iI_cg hx]
  exact z_if_ne hexec hb (sI_c hx) hdg ht kt kf
theorem w_lcmp_ne (hexec : p.tables.exec = Jvm.exec) (hb : c.code = cc) {x y x' y' : Int} {off : Int} {tgt : Nat} (hx : sL x = x') (hy : sL y = y') (hd1 : decode cc pc = .ok (.lcmp, 1)) (hdg : decode cc (pc + 1) = .ok (.ifCond .ne off, 3)) (ht : ((pc + 1 : Nat) : Int) + off = (tgt : Int)) (kt : x' ≠ y' → W p l e R s m args below meth c H locs cells slots Q (F0 m tgt ls (rest))) (kf : x' = y' → W p l e R s m args below meth c H locs cells slots Q (F0 m (pc + 1 + 3) ls (rest))) : W p l e R s m args below meth c H locs cells slots Q (F0 m pc ls (.long (iL y) :: .long (iL x) :: rest)) := by
  rw [iL_cg hx, iL_cg hy]
  exact z_lcmp_ne hexec hb (sL_c hx) (sL_c hy) hd1 hdg ht kt kf
theorem w_icmp_lt (hexec : p.tables.exec = Jvm.exec) (hb : c.code = cc) {x y x' y' : Int} {off : Int} {tgt : Nat} (hx : sI x = x') (hy : sI y = y') (hdg : decode cc pc = .ok (.if_icmp .lt off, 3)) (ht : (pc : Int) + off = (tgt : Int)) (kt : x' < y' → W p l e R s m args below meth c H locs cells slots Q (F0 m tgt ls (rest))) (kf : y' ≤ x' → W p l e R s m args below meth c H locs cells slots Q (F0 m (pc + 3) ls (rest))) : W p l e R s m args below meth c H locs cells slots Q (F0 m pc ls (.int (iI y) :: .int (iI x) :: rest)) := by
  rw [iI_cg hx, iI_cg hy]
  exact z_icmp_lt hexec hb (sI_c hx) (sI_c hy) hdg ht kt kf
theorem w_if_lt (hexec : p.tables.exec = Jvm.exec) (hb : c.code = cc) {x x' : Int} {off : Int} {tgt : Nat} (hx : sI x = x') (hdg : decode cc pc = .ok (.ifCond .lt off, 3)) (ht : (pc : Int) + off = (tgt : Int)) (kt : x' < 0 → W p l e R s m args below meth c H locs cells slots Q (F0 m tgt ls (rest))) (kf : 0 ≤ x' → W p l e R s m args below meth c H locs cells slots Q (F0 m (pc + 3) ls (rest))) : W p l e R s m args below meth c H locs cells slots Q (F0 m pc ls (.int (iI x) :: rest)) := by
  rw [iI_cg hx]
  exact z_if_lt hexec hb (sI_c hx) hdg ht kt kf
theorem w_lcmp_lt (hexec : p.tables.exec = Jvm.exec) (hb : c.code = cc) {x y x' y' : Int} {off : Int} {tgt : Nat} (hx : sL x = x') (hy : sL y = y') (hd1 : decode cc pc = .ok (.lcmp, 1)) (hdg : decode cc (pc + 1) = .ok (.ifCond .lt off, 3)) (ht : ((pc + 1 : Nat) : Int) + off = (tgt : Int)) (kt : x' < y' → W p l e R s m args below meth c H locs cells slots Q (F0 m tgt ls (rest))) (kf : y' ≤ x' → W p l e R s m args below meth c H locs cells slots Q (F0 m (pc + 1 + 3) ls (rest))) : W p l e R s m args below meth c H locs cells slots Q (F0 m pc ls (.long (iL y) :: .long (iL x) :: rest)) := by
  rw [iL_cg hx, iL_cg hy]
  exact z_lcmp_lt hexec hb (sL_c hx) (sL_c hy) hd1 hdg ht kt kf
theorem w_icmp_ge (hexec : p.tables.exec = Jvm.exec) (hb : c.code = cc) {x y x' y' : Int} {off : Int} {tgt : Nat} (hx : sI x = x') (hy : sI y = y') (hdg : decode cc pc = .ok (.if_icmp .ge off, 3)) (ht : (pc : Int) + off = (tgt : Int)) (kt : y' ≤ x' → W p l e R s m args below meth c H locs cells slots Q (F0 m tgt ls (rest))) (kf : x' < y' → W p l e R s m args below meth c H locs cells slots Q (F0 m (pc + 3) ls (rest))) : W p l e R s m args below meth c H locs cells slots Q (F0 m pc ls (.int (iI y) :: .int (iI x) :: rest)) := by
  rw [iI_cg hx, iI_cg hy]
  exact z_icmp_ge hexec hb (sI_c hx) (sI_c hy) hdg ht kt kf
theorem w_if_ge (hexec : p.tables.exec = Jvm.exec) (hb : c.code = cc) {x x' : Int} {off : Int} {tgt : Nat} (hx : sI x = x') (hdg : decode cc pc = .ok (.ifCond .ge off, 3)) (ht : (pc : Int) + off = (tgt : Int)) (kt : 0 ≤ x' → W p l e R s m args below meth c H locs cells slots Q (F0 m tgt ls (rest))) (kf : x' < 0 → W p l e R s m args below meth c H locs cells slots Q (F0 m (pc + 3) ls (rest))) : W p l e R s m args below meth c H locs cells slots Q (F0 m pc ls (.int (iI x) :: rest)) := by
  rw [iI_cg hx]
  exact z_if_ge hexec hb (sI_c hx) hdg ht kt kf
theorem w_lcmp_ge (hexec : p.tables.exec = Jvm.exec) (hb : c.code = cc) {x y x' y' : Int} {off : Int} {tgt : Nat} (hx : sL x = x') (hy : sL y = y') (hd1 : decode cc pc = .ok (.lcmp, 1)) (hdg : decode cc (pc + 1) = .ok (.ifCond .ge off, 3)) (ht : ((pc + 1 : Nat) : Int) + off = (tgt : Int)) (kt : y' ≤ x' → W p l e R s m args below meth c H locs cells slots Q (F0 m tgt ls (rest))) (kf : x' < y' → W p l e R s m args below meth c H locs cells slots Q (F0 m (pc + 1 + 3) ls (rest))) : W p l e R s m args below meth c H locs cells slots Q (F0 m pc ls (.long (iL y) :: .long (iL x) :: rest)) := by
  rw [iL_cg hx, iL_cg hy]
  exact z_lcmp_ge hexec hb (sL_c hx) (sL_c hy) hd1 hdg ht kt kf
theorem w_icmp_gt (hexec : p.tables.exec = Jvm.exec) (hb : c.code = cc) {x y x' y' : Int} {off : Int} {tgt : Nat} (hx : sI x = x') (hy : sI y = y') (hdg : decode cc pc = .ok (.if_icmp .gt off, 3)) (ht : (pc : Int) + off = (tgt : Int)) (kt : y' < x' → W p l e R s m args below meth c H locs cells slots Q (F0 m tgt ls (rest))) (kf : x' ≤ y' → W p l e R s m args below meth c H locs cells slots Q (F0 m (pc + 3) ls (rest))) : W p l e R s m args below meth c H locs cells slots Q (F0 m pc ls (.int (iI y) :: .int (iI x) :: rest)) := by
  rw [iI_cg hx, iI_cg hy]
  exact z_icmp_gt hexec hb (sI_c hx) (sI_c hy) hdg ht kt kf
theorem w_if_gt (hexec : p.tables.exec = Jvm.exec) (hb : c.code = cc) {x x' : Int} {off : Int} {tgt : Nat} (hx : sI x = x') (hdg : decode cc pc = .ok (.ifCond .gt off, 3)) (ht : (pc : Int) + off = (tgt : Int)) (kt : 0 < x' → W p l e R s m args below meth c H locs cells slots Q (F0 m tgt ls (rest))) (kf : x' ≤ 0 → W p l e R s m args below meth c H locs cells slots Q (F0 m (pc + 3) ls (rest))) : W p l e R s m args below meth c H locs cells slots Q (F0 m pc ls (.int (iI x) :: rest)) := by
  rw [iI_cg hx]
  exact z_if_gt hexec hb (sI_c hx) hdg ht kt kf
theorem w_lcmp_gt (hexec : p.tables.exec = Jvm.exec) (hb : c.code = cc) {x y x' y' : Int} {off : Int} {tgt : Nat} (hx : sL x = x') (hy : sL y = y') (hd1 : decode cc pc = .ok (.lcmp, 1)) (hdg : decode cc (pc + 1) = .ok (.ifCond .gt off, 3)) (ht : ((pc + 1 : Nat) : Int) + off = (tgt : Int)) (kt : y' < x' → W p l e R s m args below meth c H locs cells slots Q (F0 m tgt ls (rest))) (kf : x' ≤ y' → W p l e R s m args below meth c H locs cells slots Q (F0 m (pc + 1 + 3) ls (rest))) : W p l e R s m args below meth c H locs cells slots Q (F0 m pc ls (.long (iL y) :: .long (iL x) :: rest)) := by
  rw [iL_cg hx, iL_cg hy]
  exact z_lcmp_gt hexec hb (sL_c hx) (sL_c hy) hd1 hdg ht kt kf
theorem w_icmp_le (hexec : p.tables.exec = Jvm.exec) (hb : c.code = cc) {x y x' y' : Int} {off : Int} {tgt : Nat} (hx : sI x = x') (hy : sI y = y') (hdg : decode cc pc = .ok (.if_icmp .le off, 3)) (ht : (pc : Int) + off = (tgt : Int)) (kt : x' ≤ y' → W p l e R s m args below meth c H locs cells slots Q (F0 m tgt ls (rest))) (kf : y' < x' → W p l e R s m args below meth c H locs cells slots Q (F0 m (pc + 3) ls (rest))) : W p l e R s m args below meth c H locs cells slots Q (F0 m pc ls (.int (iI y) :: .int (iI x) :: rest)) := by
  rw [iI_cg hx, iI_cg hy]
  exact z_icmp_le hexec hb (sI_c hx) (sI_c hy) hdg ht kt kf
theorem w_if_le (hexec : p.tables.exec = Jvm.exec) (hb : c.code = cc) {x x' : Int} {off : Int} {tgt : Nat} (hx : sI x = x') (hdg : decode cc pc = .ok (.ifCond .le off, 3)) (ht : (pc : Int) + off = (tgt : Int)) (kt : x' ≤ 0 → W p l e R s m args below meth c H locs cells slots Q (F0 m tgt ls (rest))) (kf : 0 < x' → W p l e R s m args below meth c H locs cells slots Q (F0 m (pc + 3) ls (rest))) : W p l e R s m args below meth c H locs cells slots Q (F0 m pc ls (.int (iI x) :: rest)) := by
  rw [iI_cg hx]
  exact z_if_le hexec hb (sI_c hx) hdg ht kt kf
theorem w_lcmp_le (hexec : p.tables.exec = Jvm.exec) (hb : c.code = cc) {x y x' y' : Int} {off : Int} {tgt : Nat} (hx : sL x = x') (hy : sL y = y') (hd1 : decode cc pc = .ok (.lcmp, 1)) (hdg : decode cc (pc + 1) = .ok (.ifCond .le off, 3)) (ht : ((pc + 1 : Nat) : Int) + off = (tgt : Int)) (kt : x' ≤ y' → W p l e R s m args below meth c H locs cells slots Q (F0 m tgt ls (rest))) (kf : y' < x' → W p l e R s m args below meth c H locs cells slots Q (F0 m (pc + 1 + 3) ls (rest))) : W p l e R s m args below meth c H locs cells slots Q (F0 m pc ls (.long (iL y) :: .long (iL x) :: rest)) := by
  rw [iL_cg hx, iL_cg hy]
  exact z_lcmp_le hexec hb (sL_c hx) (sL_c hy) hd1 hdg ht kt kf
theorem w_tabOut (hexec : p.tables.exec = Jvm.exec) (hb : c.code = cc) {dflt lo hi : Int} {offs : Array Int} {len : Nat} {x x' : Int} {tgt : Nat} (hx : sI x = x') (hdg : decode cc pc = .ok (.tableswitch dflt lo hi offs, len)) (h : x' < lo ∨ hi < x') (ht : (pc : Int) + dflt = (tgt : Int)) (k : W p l e R s m args below meth c H locs cells slots Q (F0 m tgt ls (rest))) : W p l e R s m args below meth c H locs cells slots Q (F0 m pc ls (.int (iI x) :: rest)) := by
  rw [iI_cg hx]
  exact z_tabOut hexec hb (sI_c hx) hdg h ht k
theorem w_tabIn (hexec : p.tables.exec = Jvm.exec) (hb : c.code = cc) {dflt lo hi : Int} {offs : Array Int} {len : Nat} {x x' y : Int} {off : Int} {tgt : Nat} (hx : sI x = x') (hxy : x' = y) (hdg : decode cc pc = .ok (.tableswitch dflt lo hi offs, len)) (h1 : lo ≤ y) (h2 : y ≤ hi) (ho : offs[(y - lo).toNat]? = some off) (ht : (pc : Int) + off = (tgt : Int)) (k : W p l e R s m args below meth c H locs cells slots Q (F0 m tgt ls (rest))) : W p l e R s m args below meth c H locs cells slots Q (F0 m pc ls (.int (iI x) :: rest)) := by
  rw [iI_cg hx]
  exact z_tabIn hexec hb (sI_c hx) hxy hdg h1 h2 ho ht k
theorem w_lookup (hexec : p.tables.exec = Jvm.exec) (hb : c.code = cc) {dflt : Int} {ps : Array (Int × Int)} {len : Nat} {x x' : Int} {off : Int} {tgt : Nat} (hx : sI x = x') (hdg : decode cc pc = .ok (.lookupswitch dflt ps, len)) (hp : (ps.toList.zip (ps.toList.drop 1)).all (fun (a, next) => a.1 < next.1) = true) (ho : Op.lookupswitch.offset ps.toList dflt x' = off) (ht : (pc : Int) + off = (tgt : Int)) (k : W p l e R s m args below meth c H locs cells slots Q (F0 m tgt ls (rest))) : W p l e R s m args below meth c H locs cells slots Q (F0 m pc ls (.int (iI x) :: rest)) := by
  rw [iI_cg hx]
  exact z_lookup hexec hb (sI_c hx) hdg hp ho ht k
theorem w_mmax (hexec : p.tables.exec = Jvm.exec) (hb : c.code = cc) (hml : c.maxLocals = ls.size) {own : String} {index : Nat} (hown : s.vm.findClass own = some m.cls) (hlink : (Cond.methodLink own index Lib.Math.max.name).before args s = true) (hstat : (Cond.static Lib.Math.max.name).before args s = true) (hini : (Cond.initialized "java/lang/Math").before args s = true) (hcode : (Cond.code Lib.Math.max.name Lib.Math.max.code 2 (some .int)).before args s = true) (hframes : 1 ≤ R.frames) (hlocals : (rest.map fun v => v.category).sum + 13 ≤ R.locals) (hc : cells ≤ R.cells) (hs : slots ≤ R.slots) {x y x' y' : Int} (hx : sI x = x') (hy : sI y = y') (hdg : decode cc pc = .ok (.invokestatic index, 3)) (kk : W p l e R s m args below meth c H locs cells slots Q (F0 m (pc + 3) ls (.int (iI (max x' y')) :: rest))) : W p l e R s m args below meth c H locs cells slots Q (F0 m pc ls (.int (iI y) :: .int (iI x) :: rest)) := by
  rw [iI_cg hx, iI_cg hy]
  exact z_mmax hexec hb hml hown hlink hstat hini hcode hframes hlocals hc hs (sI_c hx) (sI_c hy) hdg kk
theorem w_mmin (hexec : p.tables.exec = Jvm.exec) (hb : c.code = cc) (hml : c.maxLocals = ls.size) {own : String} {index : Nat} (hown : s.vm.findClass own = some m.cls) (hlink : (Cond.methodLink own index Lib.Math.min.name).before args s = true) (hstat : (Cond.static Lib.Math.min.name).before args s = true) (hini : (Cond.initialized "java/lang/Math").before args s = true) (hcode : (Cond.code Lib.Math.min.name Lib.Math.min.code 2 (some .int)).before args s = true) (hframes : 1 ≤ R.frames) (hlocals : (rest.map fun v => v.category).sum + 13 ≤ R.locals) (hc : cells ≤ R.cells) (hs : slots ≤ R.slots) {x y x' y' : Int} (hx : sI x = x') (hy : sI y = y') (hdg : decode cc pc = .ok (.invokestatic index, 3)) (kk : W p l e R s m args below meth c H locs cells slots Q (F0 m (pc + 3) ls (.int (iI (min x' y')) :: rest))) : W p l e R s m args below meth c H locs cells slots Q (F0 m pc ls (.int (iI y) :: .int (iI x) :: rest)) := by
  rw [iI_cg hx, iI_cg hy]
  exact z_mmin hexec hb hml hown hlink hstat hini hcode hframes hlocals hc hs (sI_c hx) (sI_c hy) hdg kk
theorem w_mmaxl (hexec : p.tables.exec = Jvm.exec) (hb : c.code = cc) (hml : c.maxLocals = ls.size) {own : String} {index : Nat} (hown : s.vm.findClass own = some m.cls) (hlink : (Cond.methodLink own index Lib.MathLoose.max_long.x).before args s = true) (hstat : (Cond.static Lib.MathLoose.max_long.x).before args s = true) (hini : (Cond.initialized "java/lang/Math").before args s = true) (hcode : (Cond.code Lib.MathLoose.max_long.x Lib.MathLoose.max_long.code 4 (some .long)).before args s = true) (hframes : 1 ≤ R.frames) (hlocals : (rest.map fun v => v.category).sum + 15 ≤ R.locals) (hc : cells ≤ R.cells) (hs : slots ≤ R.slots) {x y x' y' : Int} (hx : sL x = x') (hy : sL y = y') (hdg : decode cc pc = .ok (.invokestatic index, 3)) (kk : W p l e R s m args below meth c H locs cells slots Q (F0 m (pc + 3) ls (.long (iL (max x' y')) :: rest))) : W p l e R s m args below meth c H locs cells slots Q (F0 m pc ls (.long (iL y) :: .long (iL x) :: rest)) := by
  rw [iL_cg hx, iL_cg hy]
  exact z_mmaxl hexec hb hml hown hlink hstat hini hcode hframes hlocals hc hs (sL_c hx) (sL_c hy) hdg kk
theorem w_mabs (hexec : p.tables.exec = Jvm.exec) (hb : c.code = cc) (hml : c.maxLocals = ls.size) {own : String} {index : Nat} (hown : s.vm.findClass own = some m.cls) (hlink : (Cond.methodLink own index Lib.Math.abs.name).before args s = true) (hstat : (Cond.static Lib.Math.abs.name).before args s = true) (hini : (Cond.initialized "java/lang/Math").before args s = true) (hcode : (Cond.code Lib.Math.abs.name Lib.Math.abs.code 1 (some .int)).before args s = true) (hframes : 1 ≤ R.frames) (hlocals : (rest.map fun v => v.category).sum + 13 ≤ R.locals) (hc : cells ≤ R.cells) (hs : slots ≤ R.slots) {x x' : Int} (hx : sI x = x') (hdg : decode cc pc = .ok (.invokestatic index, 3)) (kk : W p l e R s m args below meth c H locs cells slots Q (F0 m (pc + 3) ls (.int (iI (absI x')) :: rest))) : W p l e R s m args below meth c H locs cells slots Q (F0 m pc ls (.int (iI x) :: rest)) := by
  rw [iI_cg hx]
  refine va_mabs hexec hb hml hown hlink hstat hini hcode hframes hlocals hc hs hdg ?_
  have h0 : (if 0 ≤ iI x' then iI x' else 0 - iI x') = iI (absI x') := by
    have hz : R32 0 := ⟨by omega, by omega⟩
    unfold absI
    rw [iI_0]
    by_cases h : x' < 0
    · rw [if_neg (fun q => absurd ((iI_le hz (sI_c hx)).mp q) (by omega)), if_pos h, iI_sub, Int.zero_sub]
    · rw [if_pos ((iI_le hz (sI_c hx)).mpr (by omega)), if_neg h]
  rw [h0]
  exact kk
end WI
section WW
variable {p : Program} {l : Launch} {e : Env} {R : Room} {s : State} {m : MethodId} {args : Array Value} {below : List Frame} {meth : Method} {c : Code} {H : Heap} {locs : List Loc} {cells slots : Nat} {Q : State → Prop}
variable {cc : ByteArray} {pc : Nat} {ls : Array Slot} {rest st0 : List Value} {D : va_G} {dA : Nat → ClassId} {cl : List vw_C} {tys : List (ClassId × FieldType)} {H0 : Heap} {w : zW} {N b : Nat} {M M0 M1 : zM} {a : Array Value}
theorem w_geti (hexec : p.tables.exec = Jvm.exec) (hb : c.code = cc) {own C : String} {T : u_T} {n ci index j k : Nat} {Ts : List Cond} (hts : ∀ w ∈ Ts, w.before args s = true) (hin : ∀ w ∈ u_ws C T n, w ∈ Ts) (hown : s.vm.findClass own = some m.cls) (hK : va_K D cl tys s) (hR : zR D dA cl w N b M H)
    (hf : zFld cl w ci C T n k 0) (hj : j < N) (hkd : zkd w j = ci) (hlink : zLk s args own index (T k).1 (T k).2.1 (T k).2.2.1) (hdg : decode cc pc = .ok (.getfield index, 3))
    (kk : W p l e R s m args below meth c H locs cells slots Q (F0 m (pc + 3) ls (.int (iI (M j k)) :: rest))) : W p l e R s m args below meth c H locs cells slots Q (F0 m pc ls (.ref (b + j) :: rest)) := by
  refine z_getv hexec hb hts hin hown hK hR hf hj hkd hlink hdg ?_
  unfold zfv
  rw [hkd, if_pos hf.2.2.2.2]
  exact kk
theorem w_getl (hexec : p.tables.exec = Jvm.exec) (hb : c.code = cc) {own C : String} {T : u_T} {n ci index j k : Nat} {Ts : List Cond} (hts : ∀ w ∈ Ts, w.before args s = true) (hin : ∀ w ∈ u_ws C T n, w ∈ Ts) (hown : s.vm.findClass own = some m.cls) (hK : va_K D cl tys s) (hR : zR D dA cl w N b M H)
    (hf : zFld cl w ci C T n k 1) (hj : j < N) (hkd : zkd w j = ci) (hlink : zLk s args own index (T k).1 (T k).2.1 (T k).2.2.1) (hdg : decode cc pc = .ok (.getfield index, 3))
    (kk : W p l e R s m args below meth c H locs cells slots Q (F0 m (pc + 3) ls (.long (iL (M j k)) :: rest))) : W p l e R s m args below meth c H locs cells slots Q (F0 m pc ls (.ref (b + j) :: rest)) := by
  refine z_getv hexec hb hts hin hown hK hR hf hj hkd hlink hdg ?_
  unfold zfv
  rw [hkd, if_neg (by rw [hf.2.2.2.2]; decide), if_pos hf.2.2.2.2]
  exact kk
theorem w_getr (hexec : p.tables.exec = Jvm.exec) (hb : c.code = cc) {own C : String} {T : u_T} {n ci index j k j2 : Nat} {Ts : List Cond} (hts : ∀ w ∈ Ts, w.before args s = true) (hin : ∀ w ∈ u_ws C T n, w ∈ Ts) (hown : s.vm.findClass own = some m.cls) (hK : va_K D cl tys s) (hR : zR D dA cl w N b M H)
    (hf : zFld cl w ci C T n k 2) (hj : j < N) (hkd : zkd w j = ci) (hrf : zrf w j k = j2) (hlink : zLk s args own index (T k).1 (T k).2.1 (T k).2.2.1) (hdg : decode cc pc = .ok (.getfield index, 3))
    (kk : W p l e R s m args below meth c H locs cells slots Q (F0 m (pc + 3) ls (.ref (b + j2) :: rest))) : W p l e R s m args below meth c H locs cells slots Q (F0 m pc ls (.ref (b + j) :: rest)) := by
  refine z_getv hexec hb hts hin hown hK hR hf hj hkd hlink hdg ?_
  unfold zfv
  rw [hkd, if_neg (by rw [hf.2.2.2.2]; decide), if_neg (by rw [hf.2.2.2.2]; decide), hrf]
  exact kk
theorem w_puti (hexec : p.tables.exec = Jvm.exec) (hb : c.code = cc) {own C : String} {T : u_T} {n ci index j k : Nat} {Ts : List Cond} (hts : ∀ w ∈ Ts, w.before args s = true) (hin : ∀ w ∈ u_ws C T n, w ∈ Ts) (ty0 : Nat → FieldType) (hty : ∀ k, k < n → parseFieldDescriptor (T k).2.2.1 = some (ty0 k)) (hnm : ∀ a, a < n → ∀ b, b < n → a ≠ b → (T a).2.1 ≠ (T b).2.1) (hown : s.vm.findClass own = some m.cls) (hK : va_K D cl tys s) (hR : zR D dA cl w N b M H) (hS0 : va_S (zA N b) H0 H locs)
    (hf : zFld cl w ci C T n k 0) (hj : j < N) (hkd : zkd w j = ci) (hlink : zLk s args own index (T k).1 (T k).2.1 (T k).2.2.1) (hfin : (T k).2.2.2 = false) {z : Int} (hd : parseFieldDescriptor (T k).2.2.1 = some .int) (hdg : decode cc pc = .ok (.putfield index, 3))
    (kk : ∀ (H1 : Heap) (locs1 : List Loc), zR D dA cl w N b (zup M j k z) H1 → va_S (zA N b) H0 H1 locs1 → W p l e R s m args below meth c H1 locs1 cells slots Q (F0 m (pc + 3) ls rest)) : W p l e R s m args below meth c H locs cells slots Q (F0 m pc ls (.int (iI z) :: .ref (b + j) :: rest)) := by
  refine z_putv hexec hb hts hin ty0 hty hnm hown hK hR hS0 hf hj hkd hlink hfin (z := z) hd rfl rfl ?_ hdg (fun H1 locs1 a1 a2 => kk H1 locs1 a1 a2)
  unfold zfv
  rw [hkd, if_pos hf.2.2.2.2]
theorem w_putl (hexec : p.tables.exec = Jvm.exec) (hb : c.code = cc) {own C : String} {T : u_T} {n ci index j k : Nat} {Ts : List Cond} (hts : ∀ w ∈ Ts, w.before args s = true) (hin : ∀ w ∈ u_ws C T n, w ∈ Ts) (ty0 : Nat → FieldType) (hty : ∀ k, k < n → parseFieldDescriptor (T k).2.2.1 = some (ty0 k)) (hnm : ∀ a, a < n → ∀ b, b < n → a ≠ b → (T a).2.1 ≠ (T b).2.1) (hown : s.vm.findClass own = some m.cls) (hK : va_K D cl tys s) (hR : zR D dA cl w N b M H) (hS0 : va_S (zA N b) H0 H locs)
    (hf : zFld cl w ci C T n k 1) (hj : j < N) (hkd : zkd w j = ci) (hlink : zLk s args own index (T k).1 (T k).2.1 (T k).2.2.1) (hfin : (T k).2.2.2 = false) {z : Int} (hd : parseFieldDescriptor (T k).2.2.1 = some .long) (hdg : decode cc pc = .ok (.putfield index, 3))
    (kk : ∀ (H1 : Heap) (locs1 : List Loc), zR D dA cl w N b (zup M j k z) H1 → va_S (zA N b) H0 H1 locs1 → W p l e R s m args below meth c H1 locs1 cells slots Q (F0 m (pc + 3) ls rest)) : W p l e R s m args below meth c H locs cells slots Q (F0 m pc ls (.long (iL z) :: .ref (b + j) :: rest)) := by
  refine z_putv hexec hb hts hin ty0 hty hnm hown hK hR hS0 hf hj hkd hlink hfin (z := z) hd rfl rfl ?_ hdg (fun H1 locs1 a1 a2 => kk H1 locs1 a1 a2)
  unfold zfv
  rw [hkd, if_neg (by rw [hf.2.2.2.2]; decide), if_pos hf.2.2.2.2]
theorem w_iald (hexec : p.tables.exec = Jvm.exec) (hb : c.code = cc) (hK : va_K D cl tys s) {t0 : Nat} (ht : tys[t0]? = some (dA 0, .int)) (hR : zR D dA cl w N b M H) {j n : Nat} (hj : j < N) (hkd : zkd w j = 100) (hln : zln w j = n) {x i : Int} (hxi : sI x = i) (h0 : 0 ≤ i) (h1 : i < n) (hn : n < 2147483648) (hdg : decode cc pc = .ok (.iaload, 1))
    (kk : W p l e R s m args below meth c H locs cells slots Q (F0 m (pc + 1) ls (.int (iI (M j i.toNat)) :: rest))) : W p l e R s m args below meth c H locs cells slots Q (F0 m pc ls (.int (iI x) :: .ref (b + j) :: rest)) := by
  rw [iI_cg hxi]
  obtain ⟨v1, v2⟩ := iI_in h0 h1 hn
  have hP := z_arr hR hj (by omega)
  rw [hkd] at hP
  unfold zar at hP
  rw [if_neg (by omega), if_pos (by omega), hln] at hP
  refine va_iald hexec hb hK hP 0 t0 rfl ht v1 hdg ?_
  rw [v2]
  exact kk
theorem w_lald (hexec : p.tables.exec = Jvm.exec) (hb : c.code = cc) (hK : va_K D cl tys s) {t0 : Nat} (ht : tys[t0]? = some (dA 1, .long)) (hR : zR D dA cl w N b M H) {j n : Nat} (hj : j < N) (hkd : zkd w j = 101) (hln : zln w j = n) {x i : Int} (hxi : sI x = i) (h0 : 0 ≤ i) (h1 : i < n) (hn : n < 2147483648) (hdg : decode cc pc = .ok (.laload, 1))
    (kk : W p l e R s m args below meth c H locs cells slots Q (F0 m (pc + 1) ls (.long (iL (M j i.toNat)) :: rest))) : W p l e R s m args below meth c H locs cells slots Q (F0 m pc ls (.int (iI x) :: .ref (b + j) :: rest)) := by
  rw [iI_cg hxi]
  obtain ⟨v1, v2⟩ := iI_in h0 h1 hn
  have hP := z_arr hR hj (by omega)
  rw [hkd] at hP
  unfold zar at hP
  rw [if_pos hkd, hln] at hP
  refine va_lald hexec hb hK hP 0 t0 rfl ht v1 hdg ?_
  rw [v2]
  exact kk
theorem w_aald (hexec : p.tables.exec = Jvm.exec) (hb : c.code = cc) (hK : va_K D cl tys s) {t0 r : Nat} {ty : FieldType} (hr : 4 ≤ r) (ht : tys[t0]? = some (dA r, ty)) (hrf : ty.isReference = true) (hR : zR D dA cl w N b M H) {j n j2 : Nat} (hj : j < N) (hkd : zkd w j = 100 + r) (hln : zln w j = n) {x i : Int} (hxi : sI x = i) (h0 : 0 ≤ i) (h1 : i < n) (hn : n < 2147483648) (h2 : zrf w j i.toNat = j2) (hdg : decode cc pc = .ok (.aaload, 1))
    (kk : W p l e R s m args below meth c H locs cells slots Q (F0 m (pc + 1) ls (.ref (b + j2) :: rest))) : W p l e R s m args below meth c H locs cells slots Q (F0 m pc ls (.int (iI x) :: .ref (b + j) :: rest)) := by
  rw [iI_cg hxi]
  obtain ⟨v1, v2⟩ := iI_in h0 h1 hn
  have hP := z_arr hR hj (by omega)
  rw [hkd] at hP
  unfold zar at hP
  rw [if_neg (by omega), if_neg (by omega), hln, show 100 + r - 100 = r by omega] at hP
  have hlt : (iI i).toNatClampNeg < n := by rw [v2]; omega
  refine W.aald (v := .ref (b + j2)) (ty := ty) hexec hb (hP 0 _ rfl) ((hK.2 t0 _ ht).1 n (fun j3 => va_rf (some (b + zrf w j j3)))) hrf (fun q => by cases q) (by show ¬ (iI i < 0 ∨ (arrV _ _ _).slots.size ≤ _); rw [arrV_size]; exact v1) ?_ rfl rfl hdg kk
  show (arrV _ _ _).slots[_]? = _
  rw [arrV_read _ _ hlt, v2]
  show some (va_rf (some (b + zrf w j i.toNat))) = _
  rw [h2]
  rfl
theorem w_iast (hexec : p.tables.exec = Jvm.exec) (hb : c.code = cc) (hK : va_K D cl tys s) {t0 : Nat} (ht : tys[t0]? = some (dA 0, .int)) (hR : zR D dA cl w N b M H) (hS0 : va_S (zA N b) H0 H locs) {j n : Nat} (hj : j < N) (hkd : zkd w j = 100) (hln : zln w j = n) {x i z : Int} (hxi : sI x = i) (h0 : 0 ≤ i) (h1 : i < n) (hn : n < 2147483648) (hdg : decode cc pc = .ok (.iastore, 1))
    (kk : ∀ (H1 : Heap) (locs1 : List Loc), zR D dA cl w N b (zup M j i.toNat z) H1 → va_S (zA N b) H0 H1 locs1 → W p l e R s m args below meth c H1 locs1 cells slots Q (F0 m (pc + 1) ls rest)) : W p l e R s m args below meth c H locs cells slots Q (F0 m pc ls (.int (iI z) :: .int (iI x) :: .ref (b + j) :: rest)) := by
  rw [iI_cg hxi]
  obtain ⟨v1, v2⟩ := iI_in h0 h1 hn
  have hP := z_arr hR hj (by omega)
  rw [hkd] at hP
  unfold zar at hP
  rw [if_neg (by omega), if_pos (by omega), hln] at hP
  refine W.iast hexec hb (hP 0 _ rfl) ((hK.2 t0 _ ht).1 n (fun j3 => .int (iI (M j j3)))) (fun q => by cases q) (by show ¬ (iI i < 0 ∨ (arrV _ _ _).slots.size ≤ _); rw [arrV_size]; exact v1) rfl rfl hdg fun H1 e1 e2 e3 => ?_
  refine kk H1 _ ?_ (hS0.put e2 e3 ⟨by show b ≤ b + j; omega, by show b + j < b + N; omega⟩)
  intro i2 hi2
  by_cases hij : i2 = j
  · subst hij
    unfold zcell
    rw [if_neg (by omega)]
    show H1[b + i2]? = some (vp_cell _ _)
    rw [e1]
    unfold zar
    rw [if_neg (by omega), if_pos (by omega), hln, hkd, vp_cell_i, vp_cell_i, arrV_store, v2]
    congr 2
    funext q
    by_cases hq : q = i.toNat
    · subst hq
      simp [updV, zup_s]
    · simp only [updV, if_neg hq]
      rw [zup_n]
      exact fun x => hq x.2
  · have := (hR i2 hi2).kept (H1 := H1) (e3 _ (by show b + i2 ≠ b + j; omega))
    rw [zup_row M z hij]
    exact this
theorem w_last (hexec : p.tables.exec = Jvm.exec) (hb : c.code = cc) (hK : va_K D cl tys s) {t0 : Nat} (ht : tys[t0]? = some (dA 1, .long)) (hR : zR D dA cl w N b M H) (hS0 : va_S (zA N b) H0 H locs) {j n : Nat} (hj : j < N) (hkd : zkd w j = 101) (hln : zln w j = n) {x i z : Int} (hxi : sI x = i) (h0 : 0 ≤ i) (h1 : i < n) (hn : n < 2147483648) (hdg : decode cc pc = .ok (.lastore, 1))
    (kk : ∀ (H1 : Heap) (locs1 : List Loc), zR D dA cl w N b (zup M j i.toNat z) H1 → va_S (zA N b) H0 H1 locs1 → W p l e R s m args below meth c H1 locs1 cells slots Q (F0 m (pc + 1) ls rest)) : W p l e R s m args below meth c H locs cells slots Q (F0 m pc ls (.long (iL z) :: .int (iI x) :: .ref (b + j) :: rest)) := by
  rw [iI_cg hxi]
  obtain ⟨v1, v2⟩ := iI_in h0 h1 hn
  have hP := z_arr hR hj (by omega)
  rw [hkd] at hP
  unfold zar at hP
  rw [if_pos hkd, hln] at hP
  refine W.last hexec hb (hP 0 _ rfl) ((hK.2 t0 _ ht).1 n (fun j3 => .long (iL (M j j3)))) (fun q => by cases q) (by show ¬ (iI i < 0 ∨ (arrV _ _ _).slots.size ≤ _); rw [arrV_size]; exact v1) rfl rfl hdg fun H1 e1 e2 e3 => ?_
  refine kk H1 _ ?_ (hS0.put e2 e3 ⟨by show b ≤ b + j; omega, by show b + j < b + N; omega⟩)
  intro i2 hi2
  by_cases hij : i2 = j
  · subst hij
    unfold zcell
    rw [if_neg (by omega)]
    show H1[b + i2]? = some (vp_cell _ _)
    rw [e1]
    unfold zar
    rw [if_pos hkd, hln, hkd, vp_cell_l, vp_cell_l, arrV_store, v2]
    congr 2
    funext q
    by_cases hq : q = i.toNat
    · subst hq
      simp [updV, zup_s]
    · simp only [updV, if_neg hq]
      rw [zup_n]
      exact fun x => hq x.2
  · have := (hR i2 hi2).kept (H1 := H1) (e3 _ (by show b + i2 ≠ b + j; omega))
    rw [zup_row M z hij]
    exact this
theorem w_bast (hexec : p.tables.exec = Jvm.exec) (hb : c.code = cc) (hK : va_K D cl tys s) {t0 : Nat} (ht : tys[t0]? = some (dA 2, .byte)) (hR : zR D dA cl w N b M H) (hS0 : va_S (zA N b) H0 H locs) {j n : Nat} (hj : j < N) (hkd : zkd w j = 102) (hln : zln w j = n) {x i v z : Int} (hxi : sI x = i) (hvz : sI v = z) (h0 : 0 ≤ i) (h1 : i < n) (hn : n < 2147483648) (hz : -128 ≤ z ∧ z ≤ 127) (hdg : decode cc pc = .ok (.bastore, 1))
    (kk : ∀ (H1 : Heap) (locs1 : List Loc), zR D dA cl w N b (zup M j i.toNat z) H1 → va_S (zA N b) H0 H1 locs1 → W p l e R s m args below meth c H1 locs1 cells slots Q (F0 m (pc + 1) ls rest)) : W p l e R s m args below meth c H locs cells slots Q (F0 m pc ls (.int (iI v) :: .int (iI x) :: .ref (b + j) :: rest)) := by
  rw [iI_cg hxi, iI_cg hvz]
  obtain ⟨v1, v2⟩ := iI_in h0 h1 hn
  have hP := z_arr hR hj (by omega)
  rw [hkd] at hP
  unfold zar at hP
  rw [if_neg (by omega), if_pos (by omega), hln] at hP
  have hnr : narrow .byte (.int (iI z)) = .int (iI z) := by
    show Value.int (iI z).toInt8.toInt32 = _
    congr 1
    apply Int32.toInt_inj.mp
    rw [Int8.toInt_toInt32, Int32.toInt_toInt8, iI_t ⟨by omega, by omega⟩]
    exact Int.bmod_eq_of_le (by omega) (by omega)
  refine W.bast hexec hb (hP 0 _ rfl) ((hK.2 t0 _ ht).1 n (fun j3 => .int (iI (M j j3)))) (fun q => by cases q) (by show ¬ (iI i < 0 ∨ (arrV _ _ _).slots.size ≤ _); rw [arrV_size]; exact v1) rfl rfl hdg fun H1 e1 e2 e3 => ?_
  refine kk H1 _ ?_ (hS0.put e2 e3 ⟨by show b ≤ b + j; omega, by show b + j < b + N; omega⟩)
  rw [hnr] at e1
  intro i2 hi2
  by_cases hij : i2 = j
  · subst hij
    unfold zcell
    rw [if_neg (by omega)]
    show H1[b + i2]? = some (vp_cell _ _)
    rw [e1]
    unfold zar
    rw [if_neg (by omega), if_pos (by omega), hln, hkd, vp_cell_i, vp_cell_i, arrV_store, v2]
    congr 2
    funext q
    by_cases hq : q = i.toNat
    · subst hq
      simp [updV, zup_s]
    · simp only [updV, if_neg hq]
      rw [zup_n]
      exact fun x => hq x.2
  · have := (hR i2 hi2).kept (H1 := H1) (e3 _ (by show b + i2 ≠ b + j; omega))
    rw [zup_row M z hij]
    exact this
theorem w_zast (hexec : p.tables.exec = Jvm.exec) (hb : c.code = cc) (hK : va_K D cl tys s) {t0 : Nat} (ht : tys[t0]? = some (dA 3, .boolean)) (hR : zR D dA cl w N b M H) (hS0 : va_S (zA N b) H0 H locs) {j n : Nat} (hj : j < N) (hkd : zkd w j = 103) (hln : zln w j = n) {x i v z : Int} (hxi : sI x = i) (hvz : sI v = z) (h0 : 0 ≤ i) (h1 : i < n) (hn : n < 2147483648) (hz : z = 0 ∨ z = 1) (hdg : decode cc pc = .ok (.bastore, 1))
    (kk : ∀ (H1 : Heap) (locs1 : List Loc), zR D dA cl w N b (zup M j i.toNat z) H1 → va_S (zA N b) H0 H1 locs1 → W p l e R s m args below meth c H1 locs1 cells slots Q (F0 m (pc + 1) ls rest)) : W p l e R s m args below meth c H locs cells slots Q (F0 m pc ls (.int (iI v) :: .int (iI x) :: .ref (b + j) :: rest)) := by
  rw [iI_cg hxi, iI_cg hvz]
  obtain ⟨v1, v2⟩ := iI_in h0 h1 hn
  have hP := z_arr hR hj (by omega)
  rw [hkd] at hP
  unfold zar at hP
  rw [if_neg (by omega), if_pos (by omega), hln] at hP
  have hnr : narrow .boolean (.int (iI z)) = .int (iI z) := by rcases hz with rfl | rfl <;> rfl
  refine W.zast hexec hb (hP 0 _ rfl) ((hK.2 t0 _ ht).1 n (fun j3 => .int (iI (M j j3)))) (fun q => by cases q) (by show ¬ (iI i < 0 ∨ (arrV _ _ _).slots.size ≤ _); rw [arrV_size]; exact v1) rfl rfl hdg fun H1 e1 e2 e3 => ?_
  refine kk H1 _ ?_ (hS0.put e2 e3 ⟨by show b ≤ b + j; omega, by show b + j < b + N; omega⟩)
  rw [hnr] at e1
  intro i2 hi2
  by_cases hij : i2 = j
  · subst hij
    unfold zcell
    rw [if_neg (by omega)]
    show H1[b + i2]? = some (vp_cell _ _)
    rw [e1]
    unfold zar
    rw [if_neg (by omega), if_pos (by omega), hln, hkd, vp_cell_i, vp_cell_i, arrV_store, v2]
    congr 2
    funext q
    by_cases hq : q = i.toNat
    · subst hq
      simp [updV, zup_s]
    · simp only [updV, if_neg hq]
      rw [zup_n]
      exact fun x => hq x.2
  · have := (hR i2 hi2).kept (H1 := H1) (e3 _ (by show b + i2 ≠ b + j; omega))
    rw [zup_row M z hij]
    exact this
theorem w_bald (hexec : p.tables.exec = Jvm.exec) (hb : c.code = cc) (hK : va_K D cl tys s) {t0 : Nat} (ht : tys[t0]? = some (dA 2, .byte)) (hR : zR D dA cl w N b M H) {j n : Nat} (hj : j < N) (hkd : zkd w j = 102) (hln : zln w j = n) {x i : Int} (hxi : sI x = i) (h0 : 0 ≤ i) (h1 : i < n) (hn : n < 2147483648) (hdg : decode cc pc = .ok (.baload, 1))
    (kk : W p l e R s m args below meth c H locs cells slots Q (F0 m (pc + 1) ls (.int (iI (M j i.toNat)) :: rest))) : W p l e R s m args below meth c H locs cells slots Q (F0 m pc ls (.int (iI x) :: .ref (b + j) :: rest)) := by
  rw [iI_cg hxi]
  obtain ⟨v1, v2⟩ := iI_in h0 h1 hn
  have hP := z_arr hR hj (by omega)
  rw [hkd] at hP
  unfold zar at hP
  rw [if_neg (by omega), if_pos (by omega), hln] at hP
  refine va_bald hexec hb hK hP 0 t0 rfl ht v1 hdg ?_
  rw [v2]
  exact kk
theorem w_zald (hexec : p.tables.exec = Jvm.exec) (hb : c.code = cc) (hK : va_K D cl tys s) {t0 : Nat} (ht : tys[t0]? = some (dA 3, .boolean)) (hR : zR D dA cl w N b M H) {j n : Nat} (hj : j < N) (hkd : zkd w j = 103) (hln : zln w j = n) {x i : Int} (hxi : sI x = i) (h0 : 0 ≤ i) (h1 : i < n) (hn : n < 2147483648) (hdg : decode cc pc = .ok (.baload, 1))
    (kk : W p l e R s m args below meth c H locs cells slots Q (F0 m (pc + 1) ls (.int (iI (M j i.toNat)) :: rest))) : W p l e R s m args below meth c H locs cells slots Q (F0 m pc ls (.int (iI x) :: .ref (b + j) :: rest)) := by
  rw [iI_cg hxi]
  obtain ⟨v1, v2⟩ := iI_in h0 h1 hn
  have hP := z_arr hR hj (by omega)
  rw [hkd] at hP
  unfold zar at hP
  rw [if_neg (by omega), if_pos (by omega), hln] at hP
  refine va_zald hexec hb hK hP 0 t0 rfl ht v1 hdg ?_
  rw [v2]
  exact kk
theorem w_alen (hexec : p.tables.exec = Jvm.exec) (hb : c.code = cc) (hK : va_K D cl tys s) {t0 r : Nat} {ty : FieldType} (ht : tys[t0]? = some (dA r, ty)) (hR : zR D dA cl w N b M H) {j n : Nat} (hj : j < N) (hkd : zkd w j = 100 + r) (hln : zln w j = n) (hdg : decode cc pc = .ok (.arraylength, 1))
    (kk : W p l e R s m args below meth c H locs cells slots Q (F0 m (pc + 1) ls (.int (iI (n : Int)) :: rest))) : W p l e R s m args below meth c H locs cells slots Q (F0 m pc ls (.ref (b + j) :: rest)) := by
  have hP := z_arr hR hj (by omega)
  have hz : (zar w b j (M j)).1 = n := by
    unfold zar
    split
    · exact hln
    · split
      · exact hln
      · exact hln
  rw [hkd, show 100 + r - 100 = r by omega] at hP
  exact va_alen hexec hb hK hP 0 t0 rfl ht (v := iI (n : Int)) (by rw [hz]; rfl) hdg kk
theorem w_acopy (hexec : p.tables.exec = Jvm.exec) (hb : c.code = cc) (hml : c.maxLocals = ls.size) {own : String} {index : Nat} (hown : s.vm.findClass own = some m.cls) (hlink : (Cond.methodLink own index arraycopyName).before args s = true) (hnat : (Cond.native arraycopyName).before args s = true) (hstat : (Cond.static arraycopyName).before args s = true) (hini : (Cond.initialized "java/lang/System").before args s = true)
    (hK : va_K D cl tys s) {t0 : Nat} (ht : tys[t0]? = some (dA 0, .int)) (hR : zR D dA cl w N b M H) (hS0 : va_S (zA N b) H0 H locs) {j0 j1 n0 n1 : Nat} (hj0 : j0 < N) (hj1 : j1 < N) (hne : j0 ≠ j1) (hkd0 : zkd w j0 = 100) (hkd1 : zkd w j1 = 100) (hln0 : zln w j0 = n0) (hln1 : zln w j1 = n1) (hn0 : n0 < 2147483648) (hn1 : n1 < 2147483648)
    {sp dp n xs xd xn : Int} (hxs : sI xs = sp) (hxd : sI xd = dp) (hxn : sI xn = n) (h1 : 0 ≤ sp) (h2 : 0 ≤ dp) (h3 : 0 ≤ n) (h4 : sp + n ≤ n0) (h5 : dp + n ≤ n1)
    (hframes : 1 ≤ R.frames) (hlocals : (rest.map fun v => v.category).sum + (nativeFrameWords "java/lang/System" "arraycopy" 5 + 11) ≤ R.locals) (hdg : decode cc pc = .ok (.invokestatic index, 3))
    (kk : ∀ (H1 : Heap) (locs1 : List Loc), zR D dA cl w N b (zcp M j0 j1 sp.toNat dp.toNat n.toNat) H1 → va_S (zA N b) H0 H1 locs1 → W p l e R s m args below meth c H1 locs1 cells slots Q (F0 m (pc + 3) ls rest)) : W p l e R s m args below meth c H locs cells slots Q (F0 m pc ls (.int (iI xn) :: .int (iI xd) :: .ref (b + j1) :: .int (iI xs) :: .ref (b + j0) :: rest)) := by
  rw [iI_cg hxs, iI_cg hxd, iI_cg hxn]
  have hsp : (iI sp).toInt = sp := iI_t ⟨by omega, by omega⟩
  have hdp : (iI dp).toInt = dp := iI_t ⟨by omega, by omega⟩
  have hnn : (iI n).toInt = n := iI_t ⟨by omega, by omega⟩
  have ksp : (iI sp).toNatClampNeg = sp.toNat := by show (iI sp).toInt.toNat = _; rw [hsp]
  have kdp : (iI dp).toNatClampNeg = dp.toNat := by show (iI dp).toInt.toNat = _; rw [hdp]
  have knn : (iI n).toNatClampNeg = n.toNat := by show (iI n).toInt.toNat = _; rw [hnn]
  have neg : ∀ z : Int, (iI z).toInt = z → 0 ≤ z → ¬ iI z < 0 := by
    intro z hz h
    rw [Int32.lt_iff_toInt_lt, hz, Int32.toInt_zero]
    omega
  let ws : va_W := (List.range N).map (fun i => (b + i, zcell dA w b i (M i)))
  have hat : ∀ i, i < N → ws[i]? = some (b + i, zcell dA w b i (M i)) := fun i hi => by simp [ws, hi]
  have hlen : ws.length = N := by simp [ws]
  have hP : va_P D cl ws H := by
    intro k q hk
    have hkN : k < N := by rw [← hlen]; exact (List.getElem?_eq_some_iff.mp hk).1
    rw [hat k hkN] at hk
    cases hk
    exact hR k hkN
  have hD : va_D (zA N b) ws := by
    refine ⟨fun i j p q hi hj h => ?_, fun k q hk => ?_⟩
    · have hiN : i < N := by rw [← hlen]; exact (List.getElem?_eq_some_iff.mp hi).1
      have hjN : j < N := by rw [← hlen]; exact (List.getElem?_eq_some_iff.mp hj).1
      rw [hat i hiN] at hi
      rw [hat j hjN] at hj
      cases hi
      cases hj
      have h : b + i = b + j := h
      omega
    · have hkN : k < N := by rw [← hlen]; exact (List.getElem?_eq_some_iff.mp hk).1
      rw [hat k hkN] at hk
      cases hk
      exact ⟨by show b ≤ b + k; omega, by show b + k < b + N; omega⟩
  have c0 : zcell dA w b j0 (M j0) = .inl (dA 0, n0, .inl (fun k => iI (M j0 k))) := by
    unfold zcell
    rw [if_neg (by omega), hkd0]
    unfold zar
    rw [if_neg (by omega), if_pos (by omega), hln0]
  have c1 : zcell dA w b j1 (M j1) = .inl (dA 0, n1, .inl (fun k => iI (M j1 k))) := by
    unfold zcell
    rw [if_neg (by omega), hkd1]
    unfold zar
    rw [if_neg (by omega), if_pos (by omega), hln1]
  refine va_copyi hexec hb hml hown hlink hnat hstat hini hK hP hD hS0 j0 j1 t0 t0 (by rw [hat j0 hj0, c0]) (by rw [hat j1 hj1, c1]) ht ht rfl (neg sp hsp h1) (neg dp hdp h2) (neg n hnn h3) (by rw [ksp, knn]; omega) (by rw [kdp, knn]; omega) (fun i _ => rfl) hframes hlocals hdg (fun H1 locs1 hP1 _ hS1 => ?_)
  rw [ksp, kdp, knn] at hP1
  refine kk H1 locs1 ?_ hS1
  · intro i hi
    by_cases hij : i = j1
    · subst hij
      have h := hP1 i (b + i, _) (List.getElem?_set_self (by rw [hlen]; exact hi))
      rw [show zcell dA w b i (zcp M j0 i sp.toNat dp.toNat n.toNat i) = .inl (dA 0, n1, .inl (va_cpy (fun k => iI (M j0 k)) (fun k => iI (M i k)) sp.toNat dp.toNat n.toNat)) from ?_]
      · exact h
      · unfold zcell
        rw [if_neg (by omega), hkd1]
        unfold zar
        rw [if_neg (by omega), if_pos (by omega), hln1]
        congr 4
        funext k
        unfold zcp va_cpy
        by_cases h : dp.toNat ≤ k ∧ k < dp.toNat + n.toNat
        · rw [if_pos ⟨rfl, h⟩, if_pos h]
        · rw [if_neg (fun q => h q.2), if_neg h]
    · have h := hP1 i (b + i, zcell dA w b i (M i)) (by rw [List.getElem?_set_ne (Ne.symm hij)]; exact hat i hi)
      rw [show zcp M j0 j1 sp.toNat dp.toNat n.toNat i = M i from by funext k; unfold zcp; rw [if_neg (fun q => hij q.1)]]
      exact h
theorem w_recv (hR : zR D dA cl w N b M H) (hK : va_K D cl tys s) {C : String} {T : u_T} {n ci j : Nat} (hj : j < N) (hkd : zkd w j = ci) (hci : ci < 100) (hc : cl[ci]? = some (C, T, n)) : ∃ cell : Cell, H[b + j]? = some cell ∧ cell.vm.isStatics = false ∧ s.vm.findClass C = some cell.cls := by
  subst hkd
  have h := hR j hj
  unfold zcell at h
  rw [if_pos hci] at h
  obtain ⟨q', h1, cell, g1, g2, g3, -⟩ := h
  exact ⟨cell, g1, by rw [g3]; rfl, by rw [g2]; exact (hK.1 _ _ hc).2.1⟩
end WW
def wPre (D : va_G) (dA : Nat → ClassId) (cl : List vw_C) (tys : List (ClassId × FieldType)) (w : zW) (N b : Nat) (M : zM) : State → Prop := fun U => zR D dA cl w N b M U.heap ∧ zKK D cl tys U
def wQi (post : Int → zM → Prop) : Int32 → zM → Prop := fun r u => ∃ z, r = iI z ∧ R32 z ∧ post z u
def wQz (post : Int → zM → Prop) : Int32 → zM → Prop := fun r u => ∃ z, r = iI z ∧ (z = 0 ∨ z = 1) ∧ post z u
def wQl (post : Int → zM → Prop) : Int64 → zM → Prop := fun r u => ∃ z, r = iL z ∧ R64 z ∧ post z u
def wQv (post : zM → Prop) : zM → Prop := fun u => post u
def wQq (b : Nat) (post : Option Nat → zM → Prop) : Option Nat → zM → Prop := fun r u => ∃ q : Option Nat, r = q.map (b + ·) ∧ post q u
theorem wPre_blind {D : va_G} {dA : Nat → ClassId} {cl : List vw_C} {tys : List (ClassId × FieldType)} {w : zW} {N b : Nat} {M : zM} {As : List Value} : FrameBlind (va_Pc As (wPre D dA cl tys w N b M)) := fun _ U g mk q => ⟨q.1, q.2.1, va_K.moved (u := U) (U := U.calling g mk _) (Vm.Alike.refl U.vm) q.2.2.1, zNst.same (u := U) rfl q.2.2.2⟩
theorem sub_rm {f g k : Nat} (h : f + 1 ≤ g) (hk : k ≤ 64) : 64 * f + k ≤ 64 * g := by omega
section WC
variable {p : Program} {l : Launch} {e : Env} {R : Room} {s : State} {m : MethodId} {args : Array Value} {below : List Frame} {meth : Method} {c : Code} {H : Heap} {locs : List Loc} {cells slots : Nat} {Q : State → Prop}
variable {cc : ByteArray} {pc : Nat} {ls : Array Slot} {rest st0 : List Value} {D : va_G} {dA : Nat → ClassId} {cl : List vw_C} {tys : List (ClassId × FieldType)} {H0 : Heap} {w : zW} {N b : Nat} {M M0 M1 : zM} {a : Array Value}
theorem w_pre (hR : zR D dA cl w N b M H) (hK : zKK D cl tys s) {As : List Value} : ∀ U : State, U.heap = H → s.WarmedH U.vm → va_Pc As (wPre D dA cl tys w N b M) As.toArray U := fun _ hU hW => ⟨rfl, by rw [hU]; exact hR, va_K.moved hW.alike hK.1, zNst.warm hW hK.2⟩
theorem w_calli {post : Int → zM → Prop} (hr : va_Run p l e R s m args below meth c H locs cells slots 0 0 (F0 m pc ls st0) rest (va_Qi (wQi post) (zB D dA cl w N b) (zA N b) a) (zA N b)) (hS0 : va_S (zA N b) H0 H locs)
    (kk : ∀ (z : Int) (M1 : zM) (H1 : Heap) (locs1 : List Loc), R32 z → post z M1 → zR D dA cl w N b M1 H1 → va_S (zA N b) H0 H1 locs1 → W p l e R s m args below meth c H1 locs1 cells slots Q (F0 m (pc + 3) ls (.int (iI z) :: rest))) : W p l e R s m args below meth c H locs cells slots Q (F0 m pc ls st0) := by
  refine va_calli hr hS0 (fun q _ h => h) (fun q h => h) (fun r u t H1 locs1 ht _ hp hB _ _ hS1 => ?_)
  obtain ⟨z, rfl, hz, hp⟩ := hp
  unfold zB at hB
  rw [ht] at hB
  exact kk z u H1 locs1 hz  hp hB hS1
theorem w_callz {post : Int → zM → Prop} (hr : va_Run p l e R s m args below meth c H locs cells slots 0 0 (F0 m pc ls st0) rest (va_Qi (wQz post) (zB D dA cl w N b) (zA N b) a) (zA N b)) (hS0 : va_S (zA N b) H0 H locs)
    (kk : ∀ (z : Int) (M1 : zM) (H1 : Heap) (locs1 : List Loc), (z = 0 ∨ z = 1) → post z M1 → zR D dA cl w N b M1 H1 → va_S (zA N b) H0 H1 locs1 → W p l e R s m args below meth c H1 locs1 cells slots Q (F0 m (pc + 3) ls (.int (iI z) :: rest))) : W p l e R s m args below meth c H locs cells slots Q (F0 m pc ls st0) := by
  refine va_calli hr hS0 (fun q _ h => h) (fun q h => h) (fun r u t H1 locs1 ht _ hp hB _ _ hS1 => ?_)
  obtain ⟨z, rfl, hz, hp⟩ := hp
  unfold zB at hB
  rw [ht] at hB
  exact kk z u H1 locs1 hz  hp hB hS1
theorem w_calll {post : Int → zM → Prop} (hr : va_Run p l e R s m args below meth c H locs cells slots 0 0 (F0 m pc ls st0) rest (va_Ql (wQl post) (zB D dA cl w N b) (zA N b) a) (zA N b)) (hS0 : va_S (zA N b) H0 H locs)
    (kk : ∀ (z : Int) (M1 : zM) (H1 : Heap) (locs1 : List Loc), R64 z → post z M1 → zR D dA cl w N b M1 H1 → va_S (zA N b) H0 H1 locs1 → W p l e R s m args below meth c H1 locs1 cells slots Q (F0 m (pc + 3) ls (.long (iL z) :: rest))) : W p l e R s m args below meth c H locs cells slots Q (F0 m pc ls st0) := by
  refine va_calll hr hS0 (fun q _ h => h) (fun q h => h) (fun r u t H1 locs1 ht _ hp hB _ _ hS1 => ?_)
  obtain ⟨z, rfl, hz, hp⟩ := hp
  unfold zB at hB
  rw [ht] at hB
  exact kk z u H1 locs1 hz  hp hB hS1
theorem w_callq {post : Option Nat → zM → Prop} (hr : va_Run p l e R s m args below meth c H locs cells slots 0 0 (F0 m pc ls st0) rest (va_Qq (wQq b post) (zB D dA cl w N b) (zA N b) a) (zA N b)) (hS0 : va_S (zA N b) H0 H locs)
    (kk : ∀ (z : Option Nat) (M1 : zM) (H1 : Heap) (locs1 : List Loc), post z M1 → zR D dA cl w N b M1 H1 → va_S (zA N b) H0 H1 locs1 → W p l e R s m args below meth c H1 locs1 cells slots Q (F0 m (pc + 3) ls (va_rf (z.map (b + ·)) :: rest))) : W p l e R s m args below meth c H locs cells slots Q (F0 m pc ls st0) := by
  refine va_callq hr hS0 (fun q _ h => h) (fun q h => h) (fun r u t H1 locs1 ht _ hp hB _ _ hS1 => ?_)
  obtain ⟨z, rfl, hp⟩ := hp
  unfold zB at hB
  rw [ht] at hB
  exact kk z u H1 locs1 hp hB hS1
theorem w_callv {post : zM → Prop} (hr : va_Run p l e R s m args below meth c H locs cells slots 0 0 (F0 m pc ls st0) rest (va_Qv (wQv post) (zB D dA cl w N b) (zA N b) a) (zA N b)) (hS0 : va_S (zA N b) H0 H locs)
    (kk : ∀ (M1 : zM) (H1 : Heap) (locs1 : List Loc), post M1 → zR D dA cl w N b M1 H1 → va_S (zA N b) H0 H1 locs1 → W p l e R s m args below meth c H1 locs1 cells slots Q (F0 m (pc + 3) ls rest)) : W p l e R s m args below meth c H locs cells slots Q (F0 m pc ls st0) := by
  refine va_callv hr hS0 (fun q _ h => h) (fun q h => h) (fun u t H1 locs1 ht _ hp hB _ _ hS1 => ?_)
  unfold zB at hB
  rw [ht] at hB
  exact kk u H1 locs1 hp hB hS1
theorem w_iret {post : Int → zM → Prop} (hexec : p.tables.exec = Jvm.exec) (hb : c.code = cc) (hr : meth.sig.returnType = some .int) (hlocks : meth.locks = false) (hR : zR D dA cl w N b M H) (hS0 : va_S (zA N b) s.heap H locs) {x z : Int} (hz : sI x = z) (hp : post z M) (hdg : decode cc pc = .ok (.ireturn, 1)) :
    W p l e R s m args below meth c H locs cells slots (MQ below (va_Qi (wQi post) (zB D dA cl w N b) (zA N b)) args s cells slots (zA N b)) (F0 m pc ls [.int (iI x)]) := by
  exact W.iret hexec hb hr (fun t ht hW => ⟨⟨iI x, M, rfl, ⟨z, iI_cg hz, sI_c hz, hp⟩, by unfold zB; rw [ht]; exact hR⟩, hS0.F ht⟩) hS0.2.2 hdg hlocks
theorem w_zret {post : Int → zM → Prop} (hexec : p.tables.exec = Jvm.exec) (hb : c.code = cc) (hr : meth.sig.returnType = some .boolean) (hlocks : meth.locks = false) (hR : zR D dA cl w N b M H) (hS0 : va_S (zA N b) s.heap H locs) {x z : Int} (hz : sI x = z) (h01 : z = 0 ∨ z = 1) (hp : post z M) (hdg : decode cc pc = .ok (.ireturn, 1)) :
    W p l e R s m args below meth c H locs cells slots (MQ below (va_Qi (wQz post) (zB D dA cl w N b) (zA N b)) args s cells slots (zA N b)) (F0 m pc ls [.int (iI x)]) := by
  rw [iI_cg hz]
  exact W.zret hexec hb hr (by rcases h01 with rfl | rfl <;> rfl) (fun t ht hW => ⟨⟨iI z, M, rfl, ⟨z, rfl, h01, hp⟩, by unfold zB; rw [ht]; exact hR⟩, hS0.F ht⟩) hS0.2.2 hdg hlocks
theorem w_lret {post : Int → zM → Prop} (hexec : p.tables.exec = Jvm.exec) (hb : c.code = cc) (hr : meth.sig.returnType = some .long) (hlocks : meth.locks = false) (hR : zR D dA cl w N b M H) (hS0 : va_S (zA N b) s.heap H locs) {x z : Int} (hz : sL x = z) (hp : post z M) (hdg : decode cc pc = .ok (.lreturn, 1)) :
    W p l e R s m args below meth c H locs cells slots (MQ below (va_Ql (wQl post) (zB D dA cl w N b) (zA N b)) args s cells slots (zA N b)) (F0 m pc ls [.long (iL x)]) := by
  exact W.lret hexec hb hr (fun t ht hW => ⟨⟨iL x, M, rfl, ⟨z, iL_cg hz, sL_c hz, hp⟩, by unfold zB; rw [ht]; exact hR⟩, hS0.F ht⟩) hS0.2.2 hdg hlocks
theorem w_vret {post : zM → Prop} (hexec : p.tables.exec = Jvm.exec) (hb : c.code = cc) (hr : meth.sig.returnType = none) (hlocks : meth.locks = false) (hR : zR D dA cl w N b M H) (hS0 : va_S (zA N b) s.heap H locs) (hp : post M) (hdg : decode cc pc = .ok (.return_, 1)) :
    W p l e R s m args below meth c H locs cells slots (MQ below (va_Qv (wQv post) (zB D dA cl w N b) (zA N b)) args s cells slots (zA N b)) (F0 m pc ls []) := by
  exact W.vret hexec hb hr (fun t ht hW => ⟨⟨M, rfl, hp, by unfold zB; rw [ht]; exact hR⟩, hS0.F ht⟩) hS0.2.2 hdg hlocks
theorem w_aret {post : Option Nat → zM → Prop} {rt : FieldType} (hexec : p.tables.exec = Jvm.exec) (hb : c.code = cc) (hr : meth.sig.returnType = some rt) (hrt : (∃ n, rt = .object n) ∨ ∃ t, rt = .array t) (hlocks : meth.locks = false) (hR : zR D dA cl w N b M H) (hS0 : va_S (zA N b) s.heap H locs) {v : Value} (r : Option Nat) (hv : v = va_rf (r.map (b + ·))) (hp : post r M) (hdg : decode cc pc = .ok (.areturn, 1)) :
    W p l e R s m args below meth c H locs cells slots (MQ below (va_Qq (wQq b post) (zB D dA cl w N b) (zA N b)) args s cells slots (zA N b)) (F0 m pc ls [v]) := by
  subst hv
  refine W.aret hexec hb hr hrt ?_ (fun t ht hW => ⟨⟨r.map (b + ·), M, rfl, ⟨r, rfl, hp⟩, by unfold zB; rw [ht]; exact hR⟩, hS0.F ht⟩) hS0.2.2 hdg hlocks
  cases r with
  | none => exact Or.inl rfl
  | some q => exact Or.inr ⟨b + q, rfl⟩
end WC
def wL0 (body : (zM → Prop) → zM → Prop) (M : zM) : Prop := ∃ I : Nat → zM → Prop, (∃ n, I n M) ∧ ∀ n M, I n M → body (fun M' => ∃ n', n' < n ∧ I n' M') M
theorem wL0_of {body : (zM → Prop) → zM → Prop} (I : zM → Prop) (μ : zM → Nat) {M : zM} (h0 : I M) (hs : ∀ (K : zM → Prop) (M : zM), I M → (∀ (M' : zM), I M' → μ M' < μ M → K M') → body K M) : wL0 body M :=
  ⟨fun n M => I M ∧ μ M = n, ⟨_, h0, rfl⟩, fun n M hI => hs _ M hI.1 (fun M' a b => ⟨_, by omega, a, rfl⟩)⟩
def wJ0 (A : (zM → Prop) → Prop) (B : zM → Prop) : Prop := ∃ J : zM → Prop, (∀ M, J M → B M) ∧ A J
theorem wJ0_of {A : (zM → Prop) → Prop} {B : zM → Prop} (J : zM → Prop) (hB : ∀ (M : zM), J M → B M) (hA : A J) : wJ0 A B := ⟨J, hB, hA⟩
theorem wJ0_dup {A : (zM → Prop) → Prop} {B : zM → Prop} (h : A B) : wJ0 A B := ⟨B, fun _ h => h, h⟩
def wL1 (body : (Int → zM → Prop) → Int → zM → Prop) (x0 : Int) (M : zM) : Prop := ∃ I : Nat → Int → zM → Prop, (∃ n, I n x0 M) ∧ ∀ n x0 M, I n x0 M → body (fun x0' M' => ∃ n', n' < n ∧ I n' x0' M') x0 M
theorem wL1_of {body : (Int → zM → Prop) → Int → zM → Prop} (I : Int → zM → Prop) (μ : Int → zM → Nat) {x0 : Int} {M : zM} (h0 : I x0 M) (hs : ∀ (K : Int → zM → Prop) (x0 : Int) (M : zM), I x0 M → (∀ (x0' : Int) (M' : zM), I x0' M' → μ x0' M' < μ x0 M → K x0' M') → body K x0 M) : wL1 body x0 M :=
  ⟨fun n x0 M => I x0 M ∧ μ x0 M = n, ⟨_, h0, rfl⟩, fun n x0 M hI => hs _ x0 M hI.1 (fun x0' M' a b => ⟨_, by omega, a, rfl⟩)⟩
def wJ1 (A : (Int → zM → Prop) → Prop) (B : Int → zM → Prop) : Prop := ∃ J : Int → zM → Prop, (∀ x0 M, J x0 M → B x0 M) ∧ A J
theorem wJ1_of {A : (Int → zM → Prop) → Prop} {B : Int → zM → Prop} (J : Int → zM → Prop) (hB : ∀ (x0 : Int) (M : zM), J x0 M → B x0 M) (hA : A J) : wJ1 A B := ⟨J, hB, hA⟩
theorem wJ1_dup {A : (Int → zM → Prop) → Prop} {B : Int → zM → Prop} (h : A B) : wJ1 A B := ⟨B, fun _ _ h => h, h⟩
def wL2 (body : (Int → Int → zM → Prop) → Int → Int → zM → Prop) (x0 : Int) (x1 : Int) (M : zM) : Prop := ∃ I : Nat → Int → Int → zM → Prop, (∃ n, I n x0 x1 M) ∧ ∀ n x0 x1 M, I n x0 x1 M → body (fun x0' x1' M' => ∃ n', n' < n ∧ I n' x0' x1' M') x0 x1 M
theorem wL2_of {body : (Int → Int → zM → Prop) → Int → Int → zM → Prop} (I : Int → Int → zM → Prop) (μ : Int → Int → zM → Nat) {x0 x1 : Int} {M : zM} (h0 : I x0 x1 M) (hs : ∀ (K : Int → Int → zM → Prop) (x0 : Int) (x1 : Int) (M : zM), I x0 x1 M → (∀ (x0' : Int) (x1' : Int) (M' : zM), I x0' x1' M' → μ x0' x1' M' < μ x0 x1 M → K x0' x1' M') → body K x0 x1 M) : wL2 body x0 x1 M :=
  ⟨fun n x0 x1 M => I x0 x1 M ∧ μ x0 x1 M = n, ⟨_, h0, rfl⟩, fun n x0 x1 M hI => hs _ x0 x1 M hI.1 (fun x0' x1' M' a b => ⟨_, by omega, a, rfl⟩)⟩
def wJ2 (A : (Int → Int → zM → Prop) → Prop) (B : Int → Int → zM → Prop) : Prop := ∃ J : Int → Int → zM → Prop, (∀ x0 x1 M, J x0 x1 M → B x0 x1 M) ∧ A J
theorem wJ2_of {A : (Int → Int → zM → Prop) → Prop} {B : Int → Int → zM → Prop} (J : Int → Int → zM → Prop) (hB : ∀ (x0 : Int) (x1 : Int) (M : zM), J x0 x1 M → B x0 x1 M) (hA : A J) : wJ2 A B := ⟨J, hB, hA⟩
theorem wJ2_dup {A : (Int → Int → zM → Prop) → Prop} {B : Int → Int → zM → Prop} (h : A B) : wJ2 A B := ⟨B, fun _ _ _ h => h, h⟩
def wL3 (body : (Int → Int → Int → zM → Prop) → Int → Int → Int → zM → Prop) (x0 : Int) (x1 : Int) (x2 : Int) (M : zM) : Prop := ∃ I : Nat → Int → Int → Int → zM → Prop, (∃ n, I n x0 x1 x2 M) ∧ ∀ n x0 x1 x2 M, I n x0 x1 x2 M → body (fun x0' x1' x2' M' => ∃ n', n' < n ∧ I n' x0' x1' x2' M') x0 x1 x2 M
theorem wL3_of {body : (Int → Int → Int → zM → Prop) → Int → Int → Int → zM → Prop} (I : Int → Int → Int → zM → Prop) (μ : Int → Int → Int → zM → Nat) {x0 x1 x2 : Int} {M : zM} (h0 : I x0 x1 x2 M) (hs : ∀ (K : Int → Int → Int → zM → Prop) (x0 : Int) (x1 : Int) (x2 : Int) (M : zM), I x0 x1 x2 M → (∀ (x0' : Int) (x1' : Int) (x2' : Int) (M' : zM), I x0' x1' x2' M' → μ x0' x1' x2' M' < μ x0 x1 x2 M → K x0' x1' x2' M') → body K x0 x1 x2 M) : wL3 body x0 x1 x2 M :=
  ⟨fun n x0 x1 x2 M => I x0 x1 x2 M ∧ μ x0 x1 x2 M = n, ⟨_, h0, rfl⟩, fun n x0 x1 x2 M hI => hs _ x0 x1 x2 M hI.1 (fun x0' x1' x2' M' a b => ⟨_, by omega, a, rfl⟩)⟩
def wJ3 (A : (Int → Int → Int → zM → Prop) → Prop) (B : Int → Int → Int → zM → Prop) : Prop := ∃ J : Int → Int → Int → zM → Prop, (∀ x0 x1 x2 M, J x0 x1 x2 M → B x0 x1 x2 M) ∧ A J
theorem wJ3_of {A : (Int → Int → Int → zM → Prop) → Prop} {B : Int → Int → Int → zM → Prop} (J : Int → Int → Int → zM → Prop) (hB : ∀ (x0 : Int) (x1 : Int) (x2 : Int) (M : zM), J x0 x1 x2 M → B x0 x1 x2 M) (hA : A J) : wJ3 A B := ⟨J, hB, hA⟩
theorem wJ3_dup {A : (Int → Int → Int → zM → Prop) → Prop} {B : Int → Int → Int → zM → Prop} (h : A B) : wJ3 A B := ⟨B, fun _ _ _ _ h => h, h⟩
def wL4 (body : (Int → Int → Int → Int → zM → Prop) → Int → Int → Int → Int → zM → Prop) (x0 : Int) (x1 : Int) (x2 : Int) (x3 : Int) (M : zM) : Prop := ∃ I : Nat → Int → Int → Int → Int → zM → Prop, (∃ n, I n x0 x1 x2 x3 M) ∧ ∀ n x0 x1 x2 x3 M, I n x0 x1 x2 x3 M → body (fun x0' x1' x2' x3' M' => ∃ n', n' < n ∧ I n' x0' x1' x2' x3' M') x0 x1 x2 x3 M
theorem wL4_of {body : (Int → Int → Int → Int → zM → Prop) → Int → Int → Int → Int → zM → Prop} (I : Int → Int → Int → Int → zM → Prop) (μ : Int → Int → Int → Int → zM → Nat) {x0 x1 x2 x3 : Int} {M : zM} (h0 : I x0 x1 x2 x3 M) (hs : ∀ (K : Int → Int → Int → Int → zM → Prop) (x0 : Int) (x1 : Int) (x2 : Int) (x3 : Int) (M : zM), I x0 x1 x2 x3 M → (∀ (x0' : Int) (x1' : Int) (x2' : Int) (x3' : Int) (M' : zM), I x0' x1' x2' x3' M' → μ x0' x1' x2' x3' M' < μ x0 x1 x2 x3 M → K x0' x1' x2' x3' M') → body K x0 x1 x2 x3 M) : wL4 body x0 x1 x2 x3 M :=
  ⟨fun n x0 x1 x2 x3 M => I x0 x1 x2 x3 M ∧ μ x0 x1 x2 x3 M = n, ⟨_, h0, rfl⟩, fun n x0 x1 x2 x3 M hI => hs _ x0 x1 x2 x3 M hI.1 (fun x0' x1' x2' x3' M' a b => ⟨_, by omega, a, rfl⟩)⟩
def wJ4 (A : (Int → Int → Int → Int → zM → Prop) → Prop) (B : Int → Int → Int → Int → zM → Prop) : Prop := ∃ J : Int → Int → Int → Int → zM → Prop, (∀ x0 x1 x2 x3 M, J x0 x1 x2 x3 M → B x0 x1 x2 x3 M) ∧ A J
theorem wJ4_of {A : (Int → Int → Int → Int → zM → Prop) → Prop} {B : Int → Int → Int → Int → zM → Prop} (J : Int → Int → Int → Int → zM → Prop) (hB : ∀ (x0 : Int) (x1 : Int) (x2 : Int) (x3 : Int) (M : zM), J x0 x1 x2 x3 M → B x0 x1 x2 x3 M) (hA : A J) : wJ4 A B := ⟨J, hB, hA⟩
theorem wJ4_dup {A : (Int → Int → Int → Int → zM → Prop) → Prop} {B : Int → Int → Int → Int → zM → Prop} (h : A B) : wJ4 A B := ⟨B, fun _ _ _ _ _ h => h, h⟩
def wL5 (body : (Int → Int → Int → Int → Int → zM → Prop) → Int → Int → Int → Int → Int → zM → Prop) (x0 : Int) (x1 : Int) (x2 : Int) (x3 : Int) (x4 : Int) (M : zM) : Prop := ∃ I : Nat → Int → Int → Int → Int → Int → zM → Prop, (∃ n, I n x0 x1 x2 x3 x4 M) ∧ ∀ n x0 x1 x2 x3 x4 M, I n x0 x1 x2 x3 x4 M → body (fun x0' x1' x2' x3' x4' M' => ∃ n', n' < n ∧ I n' x0' x1' x2' x3' x4' M') x0 x1 x2 x3 x4 M
theorem wL5_of {body : (Int → Int → Int → Int → Int → zM → Prop) → Int → Int → Int → Int → Int → zM → Prop} (I : Int → Int → Int → Int → Int → zM → Prop) (μ : Int → Int → Int → Int → Int → zM → Nat) {x0 x1 x2 x3 x4 : Int} {M : zM} (h0 : I x0 x1 x2 x3 x4 M) (hs : ∀ (K : Int → Int → Int → Int → Int → zM → Prop) (x0 : Int) (x1 : Int) (x2 : Int) (x3 : Int) (x4 : Int) (M : zM), I x0 x1 x2 x3 x4 M → (∀ (x0' : Int) (x1' : Int) (x2' : Int) (x3' : Int) (x4' : Int) (M' : zM), I x0' x1' x2' x3' x4' M' → μ x0' x1' x2' x3' x4' M' < μ x0 x1 x2 x3 x4 M → K x0' x1' x2' x3' x4' M') → body K x0 x1 x2 x3 x4 M) : wL5 body x0 x1 x2 x3 x4 M :=
  ⟨fun n x0 x1 x2 x3 x4 M => I x0 x1 x2 x3 x4 M ∧ μ x0 x1 x2 x3 x4 M = n, ⟨_, h0, rfl⟩, fun n x0 x1 x2 x3 x4 M hI => hs _ x0 x1 x2 x3 x4 M hI.1 (fun x0' x1' x2' x3' x4' M' a b => ⟨_, by omega, a, rfl⟩)⟩
def wJ5 (A : (Int → Int → Int → Int → Int → zM → Prop) → Prop) (B : Int → Int → Int → Int → Int → zM → Prop) : Prop := ∃ J : Int → Int → Int → Int → Int → zM → Prop, (∀ x0 x1 x2 x3 x4 M, J x0 x1 x2 x3 x4 M → B x0 x1 x2 x3 x4 M) ∧ A J
theorem wJ5_of {A : (Int → Int → Int → Int → Int → zM → Prop) → Prop} {B : Int → Int → Int → Int → Int → zM → Prop} (J : Int → Int → Int → Int → Int → zM → Prop) (hB : ∀ (x0 : Int) (x1 : Int) (x2 : Int) (x3 : Int) (x4 : Int) (M : zM), J x0 x1 x2 x3 x4 M → B x0 x1 x2 x3 x4 M) (hA : A J) : wJ5 A B := ⟨J, hB, hA⟩
theorem wJ5_dup {A : (Int → Int → Int → Int → Int → zM → Prop) → Prop} {B : Int → Int → Int → Int → Int → zM → Prop} (h : A B) : wJ5 A B := ⟨B, fun _ _ _ _ _ _ h => h, h⟩
def wL6 (body : (Int → Int → Int → Int → Int → Int → zM → Prop) → Int → Int → Int → Int → Int → Int → zM → Prop) (x0 : Int) (x1 : Int) (x2 : Int) (x3 : Int) (x4 : Int) (x5 : Int) (M : zM) : Prop := ∃ I : Nat → Int → Int → Int → Int → Int → Int → zM → Prop, (∃ n, I n x0 x1 x2 x3 x4 x5 M) ∧ ∀ n x0 x1 x2 x3 x4 x5 M, I n x0 x1 x2 x3 x4 x5 M → body (fun x0' x1' x2' x3' x4' x5' M' => ∃ n', n' < n ∧ I n' x0' x1' x2' x3' x4' x5' M') x0 x1 x2 x3 x4 x5 M
theorem wL6_of {body : (Int → Int → Int → Int → Int → Int → zM → Prop) → Int → Int → Int → Int → Int → Int → zM → Prop} (I : Int → Int → Int → Int → Int → Int → zM → Prop) (μ : Int → Int → Int → Int → Int → Int → zM → Nat) {x0 x1 x2 x3 x4 x5 : Int} {M : zM} (h0 : I x0 x1 x2 x3 x4 x5 M) (hs : ∀ (K : Int → Int → Int → Int → Int → Int → zM → Prop) (x0 : Int) (x1 : Int) (x2 : Int) (x3 : Int) (x4 : Int) (x5 : Int) (M : zM), I x0 x1 x2 x3 x4 x5 M → (∀ (x0' : Int) (x1' : Int) (x2' : Int) (x3' : Int) (x4' : Int) (x5' : Int) (M' : zM), I x0' x1' x2' x3' x4' x5' M' → μ x0' x1' x2' x3' x4' x5' M' < μ x0 x1 x2 x3 x4 x5 M → K x0' x1' x2' x3' x4' x5' M') → body K x0 x1 x2 x3 x4 x5 M) : wL6 body x0 x1 x2 x3 x4 x5 M :=
  ⟨fun n x0 x1 x2 x3 x4 x5 M => I x0 x1 x2 x3 x4 x5 M ∧ μ x0 x1 x2 x3 x4 x5 M = n, ⟨_, h0, rfl⟩, fun n x0 x1 x2 x3 x4 x5 M hI => hs _ x0 x1 x2 x3 x4 x5 M hI.1 (fun x0' x1' x2' x3' x4' x5' M' a b => ⟨_, by omega, a, rfl⟩)⟩
def wJ6 (A : (Int → Int → Int → Int → Int → Int → zM → Prop) → Prop) (B : Int → Int → Int → Int → Int → Int → zM → Prop) : Prop := ∃ J : Int → Int → Int → Int → Int → Int → zM → Prop, (∀ x0 x1 x2 x3 x4 x5 M, J x0 x1 x2 x3 x4 x5 M → B x0 x1 x2 x3 x4 x5 M) ∧ A J
theorem wJ6_of {A : (Int → Int → Int → Int → Int → Int → zM → Prop) → Prop} {B : Int → Int → Int → Int → Int → Int → zM → Prop} (J : Int → Int → Int → Int → Int → Int → zM → Prop) (hB : ∀ (x0 : Int) (x1 : Int) (x2 : Int) (x3 : Int) (x4 : Int) (x5 : Int) (M : zM), J x0 x1 x2 x3 x4 x5 M → B x0 x1 x2 x3 x4 x5 M) (hA : A J) : wJ6 A B := ⟨J, hB, hA⟩
theorem wJ6_dup {A : (Int → Int → Int → Int → Int → Int → zM → Prop) → Prop} {B : Int → Int → Int → Int → Int → Int → zM → Prop} (h : A B) : wJ6 A B := ⟨B, fun _ _ _ _ _ _ _ h => h, h⟩
def wL7 (body : (Int → Int → Int → Int → Int → Int → Int → zM → Prop) → Int → Int → Int → Int → Int → Int → Int → zM → Prop) (x0 : Int) (x1 : Int) (x2 : Int) (x3 : Int) (x4 : Int) (x5 : Int) (x6 : Int) (M : zM) : Prop := ∃ I : Nat → Int → Int → Int → Int → Int → Int → Int → zM → Prop, (∃ n, I n x0 x1 x2 x3 x4 x5 x6 M) ∧ ∀ n x0 x1 x2 x3 x4 x5 x6 M, I n x0 x1 x2 x3 x4 x5 x6 M → body (fun x0' x1' x2' x3' x4' x5' x6' M' => ∃ n', n' < n ∧ I n' x0' x1' x2' x3' x4' x5' x6' M') x0 x1 x2 x3 x4 x5 x6 M
theorem wL7_of {body : (Int → Int → Int → Int → Int → Int → Int → zM → Prop) → Int → Int → Int → Int → Int → Int → Int → zM → Prop} (I : Int → Int → Int → Int → Int → Int → Int → zM → Prop) (μ : Int → Int → Int → Int → Int → Int → Int → zM → Nat) {x0 x1 x2 x3 x4 x5 x6 : Int} {M : zM} (h0 : I x0 x1 x2 x3 x4 x5 x6 M) (hs : ∀ (K : Int → Int → Int → Int → Int → Int → Int → zM → Prop) (x0 : Int) (x1 : Int) (x2 : Int) (x3 : Int) (x4 : Int) (x5 : Int) (x6 : Int) (M : zM), I x0 x1 x2 x3 x4 x5 x6 M → (∀ (x0' : Int) (x1' : Int) (x2' : Int) (x3' : Int) (x4' : Int) (x5' : Int) (x6' : Int) (M' : zM), I x0' x1' x2' x3' x4' x5' x6' M' → μ x0' x1' x2' x3' x4' x5' x6' M' < μ x0 x1 x2 x3 x4 x5 x6 M → K x0' x1' x2' x3' x4' x5' x6' M') → body K x0 x1 x2 x3 x4 x5 x6 M) : wL7 body x0 x1 x2 x3 x4 x5 x6 M :=
  ⟨fun n x0 x1 x2 x3 x4 x5 x6 M => I x0 x1 x2 x3 x4 x5 x6 M ∧ μ x0 x1 x2 x3 x4 x5 x6 M = n, ⟨_, h0, rfl⟩, fun n x0 x1 x2 x3 x4 x5 x6 M hI => hs _ x0 x1 x2 x3 x4 x5 x6 M hI.1 (fun x0' x1' x2' x3' x4' x5' x6' M' a b => ⟨_, by omega, a, rfl⟩)⟩
def wJ7 (A : (Int → Int → Int → Int → Int → Int → Int → zM → Prop) → Prop) (B : Int → Int → Int → Int → Int → Int → Int → zM → Prop) : Prop := ∃ J : Int → Int → Int → Int → Int → Int → Int → zM → Prop, (∀ x0 x1 x2 x3 x4 x5 x6 M, J x0 x1 x2 x3 x4 x5 x6 M → B x0 x1 x2 x3 x4 x5 x6 M) ∧ A J
theorem wJ7_of {A : (Int → Int → Int → Int → Int → Int → Int → zM → Prop) → Prop} {B : Int → Int → Int → Int → Int → Int → Int → zM → Prop} (J : Int → Int → Int → Int → Int → Int → Int → zM → Prop) (hB : ∀ (x0 : Int) (x1 : Int) (x2 : Int) (x3 : Int) (x4 : Int) (x5 : Int) (x6 : Int) (M : zM), J x0 x1 x2 x3 x4 x5 x6 M → B x0 x1 x2 x3 x4 x5 x6 M) (hA : A J) : wJ7 A B := ⟨J, hB, hA⟩
theorem wJ7_dup {A : (Int → Int → Int → Int → Int → Int → Int → zM → Prop) → Prop} {B : Int → Int → Int → Int → Int → Int → Int → zM → Prop} (h : A B) : wJ7 A B := ⟨B, fun _ _ _ _ _ _ _ _ h => h, h⟩
def wL8 (body : (Int → Int → Int → Int → Int → Int → Int → Int → zM → Prop) → Int → Int → Int → Int → Int → Int → Int → Int → zM → Prop) (x0 : Int) (x1 : Int) (x2 : Int) (x3 : Int) (x4 : Int) (x5 : Int) (x6 : Int) (x7 : Int) (M : zM) : Prop := ∃ I : Nat → Int → Int → Int → Int → Int → Int → Int → Int → zM → Prop, (∃ n, I n x0 x1 x2 x3 x4 x5 x6 x7 M) ∧ ∀ n x0 x1 x2 x3 x4 x5 x6 x7 M, I n x0 x1 x2 x3 x4 x5 x6 x7 M → body (fun x0' x1' x2' x3' x4' x5' x6' x7' M' => ∃ n', n' < n ∧ I n' x0' x1' x2' x3' x4' x5' x6' x7' M') x0 x1 x2 x3 x4 x5 x6 x7 M
theorem wL8_of {body : (Int → Int → Int → Int → Int → Int → Int → Int → zM → Prop) → Int → Int → Int → Int → Int → Int → Int → Int → zM → Prop} (I : Int → Int → Int → Int → Int → Int → Int → Int → zM → Prop) (μ : Int → Int → Int → Int → Int → Int → Int → Int → zM → Nat) {x0 x1 x2 x3 x4 x5 x6 x7 : Int} {M : zM} (h0 : I x0 x1 x2 x3 x4 x5 x6 x7 M) (hs : ∀ (K : Int → Int → Int → Int → Int → Int → Int → Int → zM → Prop) (x0 : Int) (x1 : Int) (x2 : Int) (x3 : Int) (x4 : Int) (x5 : Int) (x6 : Int) (x7 : Int) (M : zM), I x0 x1 x2 x3 x4 x5 x6 x7 M → (∀ (x0' : Int) (x1' : Int) (x2' : Int) (x3' : Int) (x4' : Int) (x5' : Int) (x6' : Int) (x7' : Int) (M' : zM), I x0' x1' x2' x3' x4' x5' x6' x7' M' → μ x0' x1' x2' x3' x4' x5' x6' x7' M' < μ x0 x1 x2 x3 x4 x5 x6 x7 M → K x0' x1' x2' x3' x4' x5' x6' x7' M') → body K x0 x1 x2 x3 x4 x5 x6 x7 M) : wL8 body x0 x1 x2 x3 x4 x5 x6 x7 M :=
  ⟨fun n x0 x1 x2 x3 x4 x5 x6 x7 M => I x0 x1 x2 x3 x4 x5 x6 x7 M ∧ μ x0 x1 x2 x3 x4 x5 x6 x7 M = n, ⟨_, h0, rfl⟩, fun n x0 x1 x2 x3 x4 x5 x6 x7 M hI => hs _ x0 x1 x2 x3 x4 x5 x6 x7 M hI.1 (fun x0' x1' x2' x3' x4' x5' x6' x7' M' a b => ⟨_, by omega, a, rfl⟩)⟩
def wJ8 (A : (Int → Int → Int → Int → Int → Int → Int → Int → zM → Prop) → Prop) (B : Int → Int → Int → Int → Int → Int → Int → Int → zM → Prop) : Prop := ∃ J : Int → Int → Int → Int → Int → Int → Int → Int → zM → Prop, (∀ x0 x1 x2 x3 x4 x5 x6 x7 M, J x0 x1 x2 x3 x4 x5 x6 x7 M → B x0 x1 x2 x3 x4 x5 x6 x7 M) ∧ A J
theorem wJ8_of {A : (Int → Int → Int → Int → Int → Int → Int → Int → zM → Prop) → Prop} {B : Int → Int → Int → Int → Int → Int → Int → Int → zM → Prop} (J : Int → Int → Int → Int → Int → Int → Int → Int → zM → Prop) (hB : ∀ (x0 : Int) (x1 : Int) (x2 : Int) (x3 : Int) (x4 : Int) (x5 : Int) (x6 : Int) (x7 : Int) (M : zM), J x0 x1 x2 x3 x4 x5 x6 x7 M → B x0 x1 x2 x3 x4 x5 x6 x7 M) (hA : A J) : wJ8 A B := ⟨J, hB, hA⟩
theorem wJ8_dup {A : (Int → Int → Int → Int → Int → Int → Int → Int → zM → Prop) → Prop} {B : Int → Int → Int → Int → Int → Int → Int → Int → zM → Prop} (h : A B) : wJ8 A B := ⟨B, fun _ _ _ _ _ _ _ _ _ h => h, h⟩
def pJ0 (A : Prop → Prop) (B : Prop) : Prop := ∃ J : Prop, (J → B) ∧ A J
theorem pJ0_of {A : Prop → Prop} {B : Prop} (J : Prop) (hB : J → B) (hA : A J) : pJ0 A B := ⟨J, hB, hA⟩
theorem pJ0_dup {A : Prop → Prop} {B : Prop} (h : A B) : pJ0 A B := ⟨B, fun h => h, h⟩
def pL1 (body : (Int → Prop) → Int → Prop) (x0 : Int) : Prop := ∃ I : Nat → Int → Prop, (∃ n, I n x0) ∧ ∀ n x0, I n x0 → body (fun x0' => ∃ n', n' < n ∧ I n' x0') x0
theorem pL1_of {body : (Int → Prop) → Int → Prop} (I : Int → Prop) (μ : Int → Nat) {x0 : Int} (h0 : I x0) (hs : ∀ (K : Int → Prop) (x0 : Int), I x0 → (∀ (x0' : Int), I x0' → μ x0' < μ x0 → K x0') → body K x0) : pL1 body x0 :=
  ⟨fun n x0 => I x0 ∧ μ x0 = n, ⟨_, h0, rfl⟩, fun n x0 hI => hs _ x0 hI.1 (fun x0' a b => ⟨_, by omega, a, rfl⟩)⟩
def pJ1 (A : (Int → Prop) → Prop) (B : Int → Prop) : Prop := ∃ J : Int → Prop, (∀ x0, J x0 → B x0) ∧ A J
theorem pJ1_of {A : (Int → Prop) → Prop} {B : Int → Prop} (J : Int → Prop) (hB : ∀ (x0 : Int), J x0 → B x0) (hA : A J) : pJ1 A B := ⟨J, hB, hA⟩
theorem pJ1_dup {A : (Int → Prop) → Prop} {B : Int → Prop} (h : A B) : pJ1 A B := ⟨B, fun _ h => h, h⟩
def pL2 (body : (Int → Int → Prop) → Int → Int → Prop) (x0 : Int) (x1 : Int) : Prop := ∃ I : Nat → Int → Int → Prop, (∃ n, I n x0 x1) ∧ ∀ n x0 x1, I n x0 x1 → body (fun x0' x1' => ∃ n', n' < n ∧ I n' x0' x1') x0 x1
theorem pL2_of {body : (Int → Int → Prop) → Int → Int → Prop} (I : Int → Int → Prop) (μ : Int → Int → Nat) {x0 x1 : Int} (h0 : I x0 x1) (hs : ∀ (K : Int → Int → Prop) (x0 : Int) (x1 : Int), I x0 x1 → (∀ (x0' : Int) (x1' : Int), I x0' x1' → μ x0' x1' < μ x0 x1 → K x0' x1') → body K x0 x1) : pL2 body x0 x1 :=
  ⟨fun n x0 x1 => I x0 x1 ∧ μ x0 x1 = n, ⟨_, h0, rfl⟩, fun n x0 x1 hI => hs _ x0 x1 hI.1 (fun x0' x1' a b => ⟨_, by omega, a, rfl⟩)⟩
def pJ2 (A : (Int → Int → Prop) → Prop) (B : Int → Int → Prop) : Prop := ∃ J : Int → Int → Prop, (∀ x0 x1, J x0 x1 → B x0 x1) ∧ A J
theorem pJ2_of {A : (Int → Int → Prop) → Prop} {B : Int → Int → Prop} (J : Int → Int → Prop) (hB : ∀ (x0 : Int) (x1 : Int), J x0 x1 → B x0 x1) (hA : A J) : pJ2 A B := ⟨J, hB, hA⟩
theorem pJ2_dup {A : (Int → Int → Prop) → Prop} {B : Int → Int → Prop} (h : A B) : pJ2 A B := ⟨B, fun _ _ h => h, h⟩
def pL3 (body : (Int → Int → Int → Prop) → Int → Int → Int → Prop) (x0 : Int) (x1 : Int) (x2 : Int) : Prop := ∃ I : Nat → Int → Int → Int → Prop, (∃ n, I n x0 x1 x2) ∧ ∀ n x0 x1 x2, I n x0 x1 x2 → body (fun x0' x1' x2' => ∃ n', n' < n ∧ I n' x0' x1' x2') x0 x1 x2
theorem pL3_of {body : (Int → Int → Int → Prop) → Int → Int → Int → Prop} (I : Int → Int → Int → Prop) (μ : Int → Int → Int → Nat) {x0 x1 x2 : Int} (h0 : I x0 x1 x2) (hs : ∀ (K : Int → Int → Int → Prop) (x0 : Int) (x1 : Int) (x2 : Int), I x0 x1 x2 → (∀ (x0' : Int) (x1' : Int) (x2' : Int), I x0' x1' x2' → μ x0' x1' x2' < μ x0 x1 x2 → K x0' x1' x2') → body K x0 x1 x2) : pL3 body x0 x1 x2 :=
  ⟨fun n x0 x1 x2 => I x0 x1 x2 ∧ μ x0 x1 x2 = n, ⟨_, h0, rfl⟩, fun n x0 x1 x2 hI => hs _ x0 x1 x2 hI.1 (fun x0' x1' x2' a b => ⟨_, by omega, a, rfl⟩)⟩
def pJ3 (A : (Int → Int → Int → Prop) → Prop) (B : Int → Int → Int → Prop) : Prop := ∃ J : Int → Int → Int → Prop, (∀ x0 x1 x2, J x0 x1 x2 → B x0 x1 x2) ∧ A J
theorem pJ3_of {A : (Int → Int → Int → Prop) → Prop} {B : Int → Int → Int → Prop} (J : Int → Int → Int → Prop) (hB : ∀ (x0 : Int) (x1 : Int) (x2 : Int), J x0 x1 x2 → B x0 x1 x2) (hA : A J) : pJ3 A B := ⟨J, hB, hA⟩
theorem pJ3_dup {A : (Int → Int → Int → Prop) → Prop} {B : Int → Int → Int → Prop} (h : A B) : pJ3 A B := ⟨B, fun _ _ _ h => h, h⟩
def pL4 (body : (Int → Int → Int → Int → Prop) → Int → Int → Int → Int → Prop) (x0 : Int) (x1 : Int) (x2 : Int) (x3 : Int) : Prop := ∃ I : Nat → Int → Int → Int → Int → Prop, (∃ n, I n x0 x1 x2 x3) ∧ ∀ n x0 x1 x2 x3, I n x0 x1 x2 x3 → body (fun x0' x1' x2' x3' => ∃ n', n' < n ∧ I n' x0' x1' x2' x3') x0 x1 x2 x3
theorem pL4_of {body : (Int → Int → Int → Int → Prop) → Int → Int → Int → Int → Prop} (I : Int → Int → Int → Int → Prop) (μ : Int → Int → Int → Int → Nat) {x0 x1 x2 x3 : Int} (h0 : I x0 x1 x2 x3) (hs : ∀ (K : Int → Int → Int → Int → Prop) (x0 : Int) (x1 : Int) (x2 : Int) (x3 : Int), I x0 x1 x2 x3 → (∀ (x0' : Int) (x1' : Int) (x2' : Int) (x3' : Int), I x0' x1' x2' x3' → μ x0' x1' x2' x3' < μ x0 x1 x2 x3 → K x0' x1' x2' x3') → body K x0 x1 x2 x3) : pL4 body x0 x1 x2 x3 :=
  ⟨fun n x0 x1 x2 x3 => I x0 x1 x2 x3 ∧ μ x0 x1 x2 x3 = n, ⟨_, h0, rfl⟩, fun n x0 x1 x2 x3 hI => hs _ x0 x1 x2 x3 hI.1 (fun x0' x1' x2' x3' a b => ⟨_, by omega, a, rfl⟩)⟩
def pJ4 (A : (Int → Int → Int → Int → Prop) → Prop) (B : Int → Int → Int → Int → Prop) : Prop := ∃ J : Int → Int → Int → Int → Prop, (∀ x0 x1 x2 x3, J x0 x1 x2 x3 → B x0 x1 x2 x3) ∧ A J
theorem pJ4_of {A : (Int → Int → Int → Int → Prop) → Prop} {B : Int → Int → Int → Int → Prop} (J : Int → Int → Int → Int → Prop) (hB : ∀ (x0 : Int) (x1 : Int) (x2 : Int) (x3 : Int), J x0 x1 x2 x3 → B x0 x1 x2 x3) (hA : A J) : pJ4 A B := ⟨J, hB, hA⟩
theorem pJ4_dup {A : (Int → Int → Int → Int → Prop) → Prop} {B : Int → Int → Int → Int → Prop} (h : A B) : pJ4 A B := ⟨B, fun _ _ _ _ h => h, h⟩
def pL5 (body : (Int → Int → Int → Int → Int → Prop) → Int → Int → Int → Int → Int → Prop) (x0 : Int) (x1 : Int) (x2 : Int) (x3 : Int) (x4 : Int) : Prop := ∃ I : Nat → Int → Int → Int → Int → Int → Prop, (∃ n, I n x0 x1 x2 x3 x4) ∧ ∀ n x0 x1 x2 x3 x4, I n x0 x1 x2 x3 x4 → body (fun x0' x1' x2' x3' x4' => ∃ n', n' < n ∧ I n' x0' x1' x2' x3' x4') x0 x1 x2 x3 x4
theorem pL5_of {body : (Int → Int → Int → Int → Int → Prop) → Int → Int → Int → Int → Int → Prop} (I : Int → Int → Int → Int → Int → Prop) (μ : Int → Int → Int → Int → Int → Nat) {x0 x1 x2 x3 x4 : Int} (h0 : I x0 x1 x2 x3 x4) (hs : ∀ (K : Int → Int → Int → Int → Int → Prop) (x0 : Int) (x1 : Int) (x2 : Int) (x3 : Int) (x4 : Int), I x0 x1 x2 x3 x4 → (∀ (x0' : Int) (x1' : Int) (x2' : Int) (x3' : Int) (x4' : Int), I x0' x1' x2' x3' x4' → μ x0' x1' x2' x3' x4' < μ x0 x1 x2 x3 x4 → K x0' x1' x2' x3' x4') → body K x0 x1 x2 x3 x4) : pL5 body x0 x1 x2 x3 x4 :=
  ⟨fun n x0 x1 x2 x3 x4 => I x0 x1 x2 x3 x4 ∧ μ x0 x1 x2 x3 x4 = n, ⟨_, h0, rfl⟩, fun n x0 x1 x2 x3 x4 hI => hs _ x0 x1 x2 x3 x4 hI.1 (fun x0' x1' x2' x3' x4' a b => ⟨_, by omega, a, rfl⟩)⟩
def pJ5 (A : (Int → Int → Int → Int → Int → Prop) → Prop) (B : Int → Int → Int → Int → Int → Prop) : Prop := ∃ J : Int → Int → Int → Int → Int → Prop, (∀ x0 x1 x2 x3 x4, J x0 x1 x2 x3 x4 → B x0 x1 x2 x3 x4) ∧ A J
theorem pJ5_of {A : (Int → Int → Int → Int → Int → Prop) → Prop} {B : Int → Int → Int → Int → Int → Prop} (J : Int → Int → Int → Int → Int → Prop) (hB : ∀ (x0 : Int) (x1 : Int) (x2 : Int) (x3 : Int) (x4 : Int), J x0 x1 x2 x3 x4 → B x0 x1 x2 x3 x4) (hA : A J) : pJ5 A B := ⟨J, hB, hA⟩
theorem pJ5_dup {A : (Int → Int → Int → Int → Int → Prop) → Prop} {B : Int → Int → Int → Int → Int → Prop} (h : A B) : pJ5 A B := ⟨B, fun _ _ _ _ _ h => h, h⟩
def pL6 (body : (Int → Int → Int → Int → Int → Int → Prop) → Int → Int → Int → Int → Int → Int → Prop) (x0 : Int) (x1 : Int) (x2 : Int) (x3 : Int) (x4 : Int) (x5 : Int) : Prop := ∃ I : Nat → Int → Int → Int → Int → Int → Int → Prop, (∃ n, I n x0 x1 x2 x3 x4 x5) ∧ ∀ n x0 x1 x2 x3 x4 x5, I n x0 x1 x2 x3 x4 x5 → body (fun x0' x1' x2' x3' x4' x5' => ∃ n', n' < n ∧ I n' x0' x1' x2' x3' x4' x5') x0 x1 x2 x3 x4 x5
theorem pL6_of {body : (Int → Int → Int → Int → Int → Int → Prop) → Int → Int → Int → Int → Int → Int → Prop} (I : Int → Int → Int → Int → Int → Int → Prop) (μ : Int → Int → Int → Int → Int → Int → Nat) {x0 x1 x2 x3 x4 x5 : Int} (h0 : I x0 x1 x2 x3 x4 x5) (hs : ∀ (K : Int → Int → Int → Int → Int → Int → Prop) (x0 : Int) (x1 : Int) (x2 : Int) (x3 : Int) (x4 : Int) (x5 : Int), I x0 x1 x2 x3 x4 x5 → (∀ (x0' : Int) (x1' : Int) (x2' : Int) (x3' : Int) (x4' : Int) (x5' : Int), I x0' x1' x2' x3' x4' x5' → μ x0' x1' x2' x3' x4' x5' < μ x0 x1 x2 x3 x4 x5 → K x0' x1' x2' x3' x4' x5') → body K x0 x1 x2 x3 x4 x5) : pL6 body x0 x1 x2 x3 x4 x5 :=
  ⟨fun n x0 x1 x2 x3 x4 x5 => I x0 x1 x2 x3 x4 x5 ∧ μ x0 x1 x2 x3 x4 x5 = n, ⟨_, h0, rfl⟩, fun n x0 x1 x2 x3 x4 x5 hI => hs _ x0 x1 x2 x3 x4 x5 hI.1 (fun x0' x1' x2' x3' x4' x5' a b => ⟨_, by omega, a, rfl⟩)⟩
def pJ6 (A : (Int → Int → Int → Int → Int → Int → Prop) → Prop) (B : Int → Int → Int → Int → Int → Int → Prop) : Prop := ∃ J : Int → Int → Int → Int → Int → Int → Prop, (∀ x0 x1 x2 x3 x4 x5, J x0 x1 x2 x3 x4 x5 → B x0 x1 x2 x3 x4 x5) ∧ A J
theorem pJ6_of {A : (Int → Int → Int → Int → Int → Int → Prop) → Prop} {B : Int → Int → Int → Int → Int → Int → Prop} (J : Int → Int → Int → Int → Int → Int → Prop) (hB : ∀ (x0 : Int) (x1 : Int) (x2 : Int) (x3 : Int) (x4 : Int) (x5 : Int), J x0 x1 x2 x3 x4 x5 → B x0 x1 x2 x3 x4 x5) (hA : A J) : pJ6 A B := ⟨J, hB, hA⟩
theorem pJ6_dup {A : (Int → Int → Int → Int → Int → Int → Prop) → Prop} {B : Int → Int → Int → Int → Int → Int → Prop} (h : A B) : pJ6 A B := ⟨B, fun _ _ _ _ _ _ h => h, h⟩
def pL7 (body : (Int → Int → Int → Int → Int → Int → Int → Prop) → Int → Int → Int → Int → Int → Int → Int → Prop) (x0 : Int) (x1 : Int) (x2 : Int) (x3 : Int) (x4 : Int) (x5 : Int) (x6 : Int) : Prop := ∃ I : Nat → Int → Int → Int → Int → Int → Int → Int → Prop, (∃ n, I n x0 x1 x2 x3 x4 x5 x6) ∧ ∀ n x0 x1 x2 x3 x4 x5 x6, I n x0 x1 x2 x3 x4 x5 x6 → body (fun x0' x1' x2' x3' x4' x5' x6' => ∃ n', n' < n ∧ I n' x0' x1' x2' x3' x4' x5' x6') x0 x1 x2 x3 x4 x5 x6
theorem pL7_of {body : (Int → Int → Int → Int → Int → Int → Int → Prop) → Int → Int → Int → Int → Int → Int → Int → Prop} (I : Int → Int → Int → Int → Int → Int → Int → Prop) (μ : Int → Int → Int → Int → Int → Int → Int → Nat) {x0 x1 x2 x3 x4 x5 x6 : Int} (h0 : I x0 x1 x2 x3 x4 x5 x6) (hs : ∀ (K : Int → Int → Int → Int → Int → Int → Int → Prop) (x0 : Int) (x1 : Int) (x2 : Int) (x3 : Int) (x4 : Int) (x5 : Int) (x6 : Int), I x0 x1 x2 x3 x4 x5 x6 → (∀ (x0' : Int) (x1' : Int) (x2' : Int) (x3' : Int) (x4' : Int) (x5' : Int) (x6' : Int), I x0' x1' x2' x3' x4' x5' x6' → μ x0' x1' x2' x3' x4' x5' x6' < μ x0 x1 x2 x3 x4 x5 x6 → K x0' x1' x2' x3' x4' x5' x6') → body K x0 x1 x2 x3 x4 x5 x6) : pL7 body x0 x1 x2 x3 x4 x5 x6 :=
  ⟨fun n x0 x1 x2 x3 x4 x5 x6 => I x0 x1 x2 x3 x4 x5 x6 ∧ μ x0 x1 x2 x3 x4 x5 x6 = n, ⟨_, h0, rfl⟩, fun n x0 x1 x2 x3 x4 x5 x6 hI => hs _ x0 x1 x2 x3 x4 x5 x6 hI.1 (fun x0' x1' x2' x3' x4' x5' x6' a b => ⟨_, by omega, a, rfl⟩)⟩
def pJ7 (A : (Int → Int → Int → Int → Int → Int → Int → Prop) → Prop) (B : Int → Int → Int → Int → Int → Int → Int → Prop) : Prop := ∃ J : Int → Int → Int → Int → Int → Int → Int → Prop, (∀ x0 x1 x2 x3 x4 x5 x6, J x0 x1 x2 x3 x4 x5 x6 → B x0 x1 x2 x3 x4 x5 x6) ∧ A J
theorem pJ7_of {A : (Int → Int → Int → Int → Int → Int → Int → Prop) → Prop} {B : Int → Int → Int → Int → Int → Int → Int → Prop} (J : Int → Int → Int → Int → Int → Int → Int → Prop) (hB : ∀ (x0 : Int) (x1 : Int) (x2 : Int) (x3 : Int) (x4 : Int) (x5 : Int) (x6 : Int), J x0 x1 x2 x3 x4 x5 x6 → B x0 x1 x2 x3 x4 x5 x6) (hA : A J) : pJ7 A B := ⟨J, hB, hA⟩
theorem pJ7_dup {A : (Int → Int → Int → Int → Int → Int → Int → Prop) → Prop} {B : Int → Int → Int → Int → Int → Int → Int → Prop} (h : A B) : pJ7 A B := ⟨B, fun _ _ _ _ _ _ _ h => h, h⟩
def pL8 (body : (Int → Int → Int → Int → Int → Int → Int → Int → Prop) → Int → Int → Int → Int → Int → Int → Int → Int → Prop) (x0 : Int) (x1 : Int) (x2 : Int) (x3 : Int) (x4 : Int) (x5 : Int) (x6 : Int) (x7 : Int) : Prop := ∃ I : Nat → Int → Int → Int → Int → Int → Int → Int → Int → Prop, (∃ n, I n x0 x1 x2 x3 x4 x5 x6 x7) ∧ ∀ n x0 x1 x2 x3 x4 x5 x6 x7, I n x0 x1 x2 x3 x4 x5 x6 x7 → body (fun x0' x1' x2' x3' x4' x5' x6' x7' => ∃ n', n' < n ∧ I n' x0' x1' x2' x3' x4' x5' x6' x7') x0 x1 x2 x3 x4 x5 x6 x7
theorem pL8_of {body : (Int → Int → Int → Int → Int → Int → Int → Int → Prop) → Int → Int → Int → Int → Int → Int → Int → Int → Prop} (I : Int → Int → Int → Int → Int → Int → Int → Int → Prop) (μ : Int → Int → Int → Int → Int → Int → Int → Int → Nat) {x0 x1 x2 x3 x4 x5 x6 x7 : Int} (h0 : I x0 x1 x2 x3 x4 x5 x6 x7) (hs : ∀ (K : Int → Int → Int → Int → Int → Int → Int → Int → Prop) (x0 : Int) (x1 : Int) (x2 : Int) (x3 : Int) (x4 : Int) (x5 : Int) (x6 : Int) (x7 : Int), I x0 x1 x2 x3 x4 x5 x6 x7 → (∀ (x0' : Int) (x1' : Int) (x2' : Int) (x3' : Int) (x4' : Int) (x5' : Int) (x6' : Int) (x7' : Int), I x0' x1' x2' x3' x4' x5' x6' x7' → μ x0' x1' x2' x3' x4' x5' x6' x7' < μ x0 x1 x2 x3 x4 x5 x6 x7 → K x0' x1' x2' x3' x4' x5' x6' x7') → body K x0 x1 x2 x3 x4 x5 x6 x7) : pL8 body x0 x1 x2 x3 x4 x5 x6 x7 :=
  ⟨fun n x0 x1 x2 x3 x4 x5 x6 x7 => I x0 x1 x2 x3 x4 x5 x6 x7 ∧ μ x0 x1 x2 x3 x4 x5 x6 x7 = n, ⟨_, h0, rfl⟩, fun n x0 x1 x2 x3 x4 x5 x6 x7 hI => hs _ x0 x1 x2 x3 x4 x5 x6 x7 hI.1 (fun x0' x1' x2' x3' x4' x5' x6' x7' a b => ⟨_, by omega, a, rfl⟩)⟩
def pJ8 (A : (Int → Int → Int → Int → Int → Int → Int → Int → Prop) → Prop) (B : Int → Int → Int → Int → Int → Int → Int → Int → Prop) : Prop := ∃ J : Int → Int → Int → Int → Int → Int → Int → Int → Prop, (∀ x0 x1 x2 x3 x4 x5 x6 x7, J x0 x1 x2 x3 x4 x5 x6 x7 → B x0 x1 x2 x3 x4 x5 x6 x7) ∧ A J
theorem pJ8_of {A : (Int → Int → Int → Int → Int → Int → Int → Int → Prop) → Prop} {B : Int → Int → Int → Int → Int → Int → Int → Int → Prop} (J : Int → Int → Int → Int → Int → Int → Int → Int → Prop) (hB : ∀ (x0 : Int) (x1 : Int) (x2 : Int) (x3 : Int) (x4 : Int) (x5 : Int) (x6 : Int) (x7 : Int), J x0 x1 x2 x3 x4 x5 x6 x7 → B x0 x1 x2 x3 x4 x5 x6 x7) (hA : A J) : pJ8 A B := ⟨J, hB, hA⟩
theorem pJ8_dup {A : (Int → Int → Int → Int → Int → Int → Int → Int → Prop) → Prop} {B : Int → Int → Int → Int → Int → Int → Int → Int → Prop} (h : A B) : pJ8 A B := ⟨B, fun _ _ _ _ _ _ _ _ h => h, h⟩
theorem tb_0_3 (x : Int) (h0 : x ≠ 0) (h1 : x ≠ 1) (h2 : x ≠ 2) (h3 : x ≠ 3) : x < 0 ∨ 3 < x := by omega
theorem tb_0_5 (x : Int) (h0 : x ≠ 0) (h1 : x ≠ 1) (h2 : x ≠ 2) (h3 : x ≠ 3) (h4 : x ≠ 4) (h5 : x ≠ 5) : x < 0 ∨ 5 < x := by omega
theorem tb_0_7 (x : Int) (h0 : x ≠ 0) (h1 : x ≠ 1) (h2 : x ≠ 2) (h3 : x ≠ 3) (h4 : x ≠ 4) (h5 : x ≠ 5) (h6 : x ≠ 6) (h7 : x ≠ 7) : x < 0 ∨ 7 < x := by omega
end zz08_wbase
section zz09_throw
/-! the class's calls that throw, on a new object -/
theorem tw_in : ∀ w ∈ (vx_at0 "TapeRings" 158 "java/util/NoSuchElementException" ["java/lang/RuntimeException", "java/lang/Exception"]).filter goodWord, w ∈ zt := by
  have h : (vx_at0 "TapeRings" 158 "java/util/NoSuchElementException" ["java/lang/RuntimeException", "java/lang/Exception"]).filter goodWord = ([93, 1124, 1133, 1135, 1138, 1140, 1125, 1126, 103, 104, 1127, 1132, 1136, 1152, 1114, 1153, 1116, 1154, 1118, 1128, 1130, 1120, 1142, 1143, 1144, 1145, 1145, 1146, 1147, 1148, 1148, 1149, 1150, 1125, 1141, 1103, 1111, 1112, 1113, 1115, 1117, 1119, 1123, 1122, 1121].filterMap (fun i => lw_tbl[i]?)) := by decide +kernel
  intro w hw
  refine List.mem_filter.mpr ⟨?_, (List.mem_filter.mp hw).2⟩
  rw [h] at hw
  obtain ⟨i, -, hi⟩ := List.mem_filterMap.mp hw
  exact List.mem_of_getElem? hi
theorem tw_not : ∀ w ∈ (vx_at0 "TapeRings" 158 "java/util/NoSuchElementException" ["java/lang/RuntimeException", "java/lang/Exception"]).filter (fun w => !goodWord w), w ∈ ([Cond.castable "java/util/NoSuchElementException" "java/util/NoSuchElementException", Cond.declares ⟨"java/lang/RuntimeException", "<init>", "()V"⟩, Cond.declares ⟨"java/lang/Exception", "<init>", "()V"⟩, Cond.declares ⟨"java/lang/Throwable", "<init>", "()V"⟩] : List Cond) := fun w hw => List.elem_iff.mp (List.all_eq_true.mp (by decide +kernel : ((vx_at0 "TapeRings" 158 "java/util/NoSuchElementException" ["java/lang/RuntimeException", "java/lang/Exception"]).filter (fun w => !goodWord w)).all (fun w => ([Cond.castable "java/util/NoSuchElementException" "java/util/NoSuchElementException", Cond.declares ⟨"java/lang/RuntimeException", "<init>", "()V"⟩, Cond.declares ⟨"java/lang/Exception", "<init>", "()V"⟩, Cond.declares ⟨"java/lang/Throwable", "<init>", "()V"⟩] : List Cond).elem w) = true) w hw)
/-- the words of a throw that are no good ones: they go with the state -/
def zTw (U : State) : Prop := va_Nw (.castable "java/util/NoSuchElementException" "java/util/NoSuchElementException") U ∧ va_Nw (.declares ⟨"java/lang/RuntimeException", "<init>", "()V"⟩) U ∧ va_Nw (.declares ⟨"java/lang/Exception", "<init>", "()V"⟩) U ∧ va_Nw (.declares ⟨"java/lang/Throwable", "<init>", "()V"⟩) U
theorem zTw.warm {s U : State} (hW : s.WarmedH U.vm) (h : zTw s) : zTw U := ⟨va_Nw.warmC hW h.1, va_Nw.warmD hW h.2.1, va_Nw.warmD hW h.2.2.1, va_Nw.warmD hW h.2.2.2⟩
theorem zTw.same {u U : State} (e : u.vm = U.vm) (h : zTw u) : zTw U := ⟨va_Nw.same rfl e h.1, va_Nw.same rfl e h.2.1, va_Nw.same rfl e h.2.2.1, va_Nw.same rfl e h.2.2.2⟩
theorem tw_hat {args : Array Value} {s : State} (hts : ∀ w ∈ zt, w.before args s = true) (h : zTw s) : ∀ w ∈ vx_at0 "TapeRings" 158 "java/util/NoSuchElementException" ["java/lang/RuntimeException", "java/lang/Exception"], w.before args s = true :=
  vx_hat (fun w hw => hts w (tw_in w hw)) tw_not (vx_c (va_Nw.use rfl h.1) (vx_c (va_Nw.use rfl h.2.1) (vx_c (va_Nw.use rfl h.2.2.1) (vx_c (va_Nw.use rfl h.2.2.2) vx_n))))
theorem tw_good : ∀ w ∈ Cond.classLink "TapeRings" 156 "java/util/NoSuchElementException" :: Cond.initialized "java/util/NoSuchElementException" :: vx_at0 "TapeRings" 158 "java/util/NoSuchElementException" ["java/lang/RuntimeException", "java/lang/Exception"], vx_ot w = true := List.all_eq_true.mp (by decide +kernel)
/-- the two statics of Throwable, out of the cells of A -/
def zZ (A : Nat → Prop) (U : State) (H : Heap) : Prop := vx_Zq Bundle.tN "UNASSIGNED_STACK" Bundle.steD A U H ∧ vx_Zq Bundle.tN "SUPPRESSED_SENTINEL" Bundle.listD A U H
theorem zZ.moved {A : Nat → Prop} {u U : State} {H : Heap} (hvm : u.vm.Alike U.vm) (h : zZ A u H) : zZ A U H := ⟨h.1.moved hvm, h.2.moved hvm⟩
theorem zZ.kept {A : Nat → Prop} {U : State} {H H1 : Heap} (h : zZ A U H) (hq : ∀ a : Nat, a < H.size → ¬ A a → H1[a]? = H[a]?) : zZ A U H1 := ⟨h.1.kept hq, h.2.kept hq⟩
theorem zZ.narrow {A B : Nat → Prop} {U : State} {H : Heap} (h : zZ A U H) (hAB : ∀ q, B q → A q) : zZ B U H := ⟨h.1.narrow hAB, h.2.narrow hAB⟩
def z_rmT (d : Nat) : Room := { frames := d + 6, cells := 1, slots := 6, locals := 64 * (d + 6) }
def zPT (D : va_G) (dA : Nat → ClassId) (cl : List vw_C) (tys : List (ClassId × FieldType)) (w : zW) (N b : Nat) (M : zM) : State → Prop := fun U => zP D dA cl tys w N b M U ∧ zTw U ∧ zZ (zA N b) U U.heap
theorem zPT_blind {D : va_G} {dA : Nat → ClassId} {cl : List vw_C} {tys : List (ClassId × FieldType)} {w : zW} {N b : Nat} {M : zM} {As : List Value} : FrameBlind (va_Pc As (zPT D dA cl tys w N b M)) := fun a U g mk q => ⟨q.1, (zP_blind a U g mk ⟨q.1, q.2.1⟩).2, zTw.same (u := U) rfl q.2.2.1, zZ.moved (u := U) (U := U.calling g mk _) (Vm.Alike.refl U.vm) q.2.2.2⟩
def zXC (D : va_G) (dA : Nat → ClassId) (cl : List vw_C) (w : zW) (N b : Nat) (M : zM) (P : Prop) : String → State → State → Prop := vx_X (fun _ : Unit => P) (fun E _ t => E = "java/util/NoSuchElementException" ∧ zR D dA cl w N b M t.heap) (zA N b)
theorem wR_kept {D : va_G} {dA : Nat → ClassId} {cl : List vw_C} {w : zW} {N b : Nat} {M : zM} {H H1 : Heap} (h : zR D dA cl w N b M H) (hq : ∀ q : Nat, q < H.size → H1[q]? = H[q]?) : zR D dA cl w N b M H1 := fun j hj => (h j hj).kept (hq _ (h j hj).lt)
theorem wX_of {D : va_G} {dA : Nat → ClassId} {cl : List vw_C} {w : zW} {N b : Nat} {M : zM} {P : Prop} {s t : State} {H : Heap} {locs : List Loc} (hS : zR D dA cl w N b M H) (hS0 : va_S (zA N b) s.heap H locs) (h1 : H.size ≤ t.heap.size) (h2 : ∀ q : Nat, q < H.size → t.heap[q]? = H[q]?) (hP : P) : zXC D dA cl w N b M P "java/util/NoSuchElementException" s t :=
  ⟨(), hP, ⟨rfl, wR_kept hS h2⟩, Nat.le_trans hS0.1 h1, fun q a b => (h2 q (Nat.lt_of_lt_of_le a hS0.1)).trans (hS0.2.1 q a b)⟩
def wPreT (D : va_G) (dA : Nat → ClassId) (cl : List vw_C) (tys : List (ClassId × FieldType)) (w : zW) (N b : Nat) (M : zM) : State → Prop := fun U => wPre D dA cl tys w N b M U ∧ zTw U ∧ zZ (zA N b) U U.heap
theorem wPreT_blind {D : va_G} {dA : Nat → ClassId} {cl : List vw_C} {tys : List (ClassId × FieldType)} {w : zW} {N b : Nat} {M : zM} {As : List Value} : FrameBlind (va_Pc As (wPreT D dA cl tys w N b M)) := fun a U g mk q => ⟨q.1, (wPre_blind a U g mk ⟨q.1, q.2.1⟩).2, zTw.same (u := U) rfl q.2.2.1, zZ.moved (u := U) (U := U.calling g mk _) (Vm.Alike.refl U.vm) q.2.2.2⟩
end zz09_throw
section zz09z_fm
/-! floorMod of longs: a method of Math, walked by its own steps -/
theorem q09zfm_0_0 : (cJ9_floorMod_f86c9.data.toList.drop 0).take 24 = [30, 32, 113, 55, 4, 30, 32, 131, 9, 148, 156, 0, 15, 22, 4, 9, 148, 153, 0, 8, 22, 4, 32, 97] := by decide +kernel
theorem q09zfm_0_24 : (cJ9_floorMod_f86c9.data.toList.drop 24).take 4 = [173, 22, 4, 173] := by decide +kernel
theorem dJ9_floorMod_f86c9_0 : decode cJ9_floorMod_f86c9 0 = .ok (.lload_n 0, 1) := dz_30 (dz_at q09zfm_0_0 0)
theorem dJ9_floorMod_f86c9_1 : decode cJ9_floorMod_f86c9 1 = .ok (.lload_n 2, 1) := dz_32 (dz_at q09zfm_0_0 1)
theorem dJ9_floorMod_f86c9_2 : decode cJ9_floorMod_f86c9 2 = .ok (.lrem, 1) := dz_113 (dz_at q09zfm_0_0 2)
theorem dJ9_floorMod_f86c9_3 : decode cJ9_floorMod_f86c9 3 = .ok (.lstore 4, 2) := dz_55 (dz_at q09zfm_0_0 3)
theorem dJ9_floorMod_f86c9_5 : decode cJ9_floorMod_f86c9 5 = .ok (.lload_n 0, 1) := dz_30 (dz_at q09zfm_0_0 5)
theorem dJ9_floorMod_f86c9_6 : decode cJ9_floorMod_f86c9 6 = .ok (.lload_n 2, 1) := dz_32 (dz_at q09zfm_0_0 6)
theorem dJ9_floorMod_f86c9_7 : decode cJ9_floorMod_f86c9 7 = .ok (.lxor, 1) := dz_131 (dz_at q09zfm_0_0 7)
theorem dJ9_floorMod_f86c9_8 : decode cJ9_floorMod_f86c9 8 = .ok (.lconst 0, 1) := dz_9 (dz_at q09zfm_0_0 8)
theorem dJ9_floorMod_f86c9_9 : decode cJ9_floorMod_f86c9 9 = .ok (.lcmp, 1) := dz_148 (dz_at q09zfm_0_0 9)
theorem dJ9_floorMod_f86c9_10 : decode cJ9_floorMod_f86c9 10 = .ok (.ifCond .ge 15, 3) := dz_156 (dz_at q09zfm_0_0 10) (by decide +kernel)
theorem dJ9_floorMod_f86c9_13 : decode cJ9_floorMod_f86c9 13 = .ok (.lload 4, 2) := dz_22 (dz_at q09zfm_0_0 13)
theorem dJ9_floorMod_f86c9_15 : decode cJ9_floorMod_f86c9 15 = .ok (.lconst 0, 1) := dz_9 (dz_at q09zfm_0_0 15)
theorem dJ9_floorMod_f86c9_16 : decode cJ9_floorMod_f86c9 16 = .ok (.lcmp, 1) := dz_148 (dz_at q09zfm_0_0 16)
theorem dJ9_floorMod_f86c9_17 : decode cJ9_floorMod_f86c9 17 = .ok (.ifCond .eq 8, 3) := dz_153 (dz_at q09zfm_0_0 17) (by decide +kernel)
theorem dJ9_floorMod_f86c9_20 : decode cJ9_floorMod_f86c9 20 = .ok (.lload 4, 2) := dz_22 (dz_at q09zfm_0_0 20)
theorem dJ9_floorMod_f86c9_22 : decode cJ9_floorMod_f86c9 22 = .ok (.lload_n 2, 1) := dz_32 (dz_at q09zfm_0_0 22)
theorem dJ9_floorMod_f86c9_23 : decode cJ9_floorMod_f86c9 23 = .ok (.ladd, 1) := dz_97 (dz_at q09zfm_0_0 23)
theorem dJ9_floorMod_f86c9_24 : decode cJ9_floorMod_f86c9 24 = .ok (.lreturn, 1) := dz_173 (dz_at q09zfm_0_24 0)
theorem dJ9_floorMod_f86c9_25 : decode cJ9_floorMod_f86c9 25 = .ok (.lload 4, 2) := dz_22 (dz_at q09zfm_0_24 1)
theorem dJ9_floorMod_f86c9_27 : decode cJ9_floorMod_f86c9 27 = .ok (.lreturn, 1) := dz_173 (dz_at q09zfm_0_24 3)
def fm_v (a b : Int64) : Int64 := if (a ^^^ b) < 0 then (if a - a / b * b = 0 then a - a / b * b else a - a / b * b + b) else a - a / b * b
theorem fm_row0 : (NativeRow.find? natives yJ9_floorMod_f86c9.cls yJ9_floorMod_f86c9.name yJ9_floorMod_f86c9.desc).isNone = true := by decide +kernel
theorem fm_row (p : Program) : NativeRow.find? p.tables.natives yJ9_floorMod_f86c9.cls yJ9_floorMod_f86c9.name yJ9_floorMod_f86c9.desc = none := by
  cases p <;> exact Option.isNone_iff_eq_none.mp fm_row0
def fm_s (a b : Int64) : Spec where
  pre := .and (.code yJ9_floorMod_f86c9 cJ9_floorMod_f86c9 6 (some .long)) (.and (.count 2) (.and (.isLong (.arg 0)) (.and (.isLong (.arg 1)) (.and (.eq (.arg 0) (.long a)) (.eq (.arg 1) (.long b))))))
  post := .and .returned (.eq .result (.long (fm_v a b)))
  changes := some []
theorem fm_args (a b : Int64) {args : Array Value} {s : State} (h : (Cond.and (.count 2) (.and (.isLong (.arg 0)) (.and (.isLong (.arg 1)) (.and (.eq (.arg 0) (.long a)) (.eq (.arg 1) (.long b)))))).before args s = true) : args = #[.long a, .long b] := by
  simp only [Cond.before_and, Bool.and_eq_true] at h
  obtain ⟨h0, h1, h2, h3, h4⟩ := h
  obtain ⟨a', b', rfl⟩ := Lib.MathLoose.two_longs h0 h1 h2
  simp [Cond.before, Cond.holds, Cond.value, Term.eval] at h3 h4
  rw [h3, h4]
set_option maxHeartbeats 4000000 in
theorem fm_loose (l : Launch) (a b : Int64) (hb0 : b ≠ 0) : MeetsLoose l yJ9_floorMod_f86c9 (fm_s a b) := by
  refine MeetsLoose.of_body_ov (code := cJ9_floorMod_f86c9) (maxLocals := 6) (ret := some .long) fm_row ?_ ?_
  · intro args s h
    simp only [fm_s, Cond.before_and, Bool.and_eq_true] at h
    exact h.1
  · intro p e s m args below meth c s₁ B
    have hpre := B.pre
    unfold fm_s at hpre
    rw [Cond.before_and, Bool.and_eq_true] at hpre
    obtain rfl := fm_args a b hpre.2
    have hloc : argsToLocals #[.long a, .long b] 6 = #[.val (.long a), .second, .val (.long b), .second, .unset, .unset] := rfl
    have fin : (∀ fs, Steps p.tables e below (s₁.setTop (entryFrame m #[.long a, .long b] 6)) (s₁.setFrames fs) ∨ handOver s₁ (some (.long (fm_v a b))) below ≠ some fs) →
        ∃ s₂ o, Steps p.tables e below (s₁.setTop (entryFrame m #[.long a, .long b] 6)) s₂ ∧ s₂.status = .running ∧ Ended s₂ below o ∧ (fm_s a b).ensures #[.long a, .long b] s o s₂ := by
      intro hwalk
      obtain ⟨fs, hfs⟩ := handOver_isSome (s := s₁) (some (.long (fm_v a b))) B.hears₁
      refine ⟨s₁.setFrames fs, .returned (some (.long (fm_v a b))), (hwalk fs).resolve_right (fun h => h hfs), B.here.running, B.ended hfs (by intro h; cases h), ?_, State.sameBut_nil.mpr ?_⟩
      · simp [fm_s, Cond.after, Cond.holds, Cond.value, Term.eval]
      · rw [State.frames_setFrames _ B.cur₁, B.back]
    refine fin (fun fs => ?_)
    by_cases hfs : handOver s₁ (some (.long (fm_v a b))) below = some fs
    · left
      unfold entryFrame; rw [hloc]
      by_cases h1 : (a ^^^ b) < 0
      · have h5 : ¬ (0 < (a ^^^ b)) := by
          intro q
          rw [Int64.lt_iff_toInt_lt] at h1 q
          omega
        have h6 : ¬ ((a ^^^ b) = 0) := by
          intro q
          rw [q] at h1
          exact absurd h1 (by decide)
        by_cases h2 : a - a / b * b = 0
        · unfold fm_v at hfs
          rw [if_pos h1, if_pos h2, h2] at hfs
          refine Steps.instrAtOv (c := _) (by simpa using B.here) ?_
          simp [jvm, wpRun, exec, B.here.top, B.exec, B.bytes, dJ9_floorMod_f86c9_0]
          refine Steps.instrAtOv (c := _) (by simpa using B.here) ?_
          simp [jvm, wpRun, exec, B.here.top, B.exec, B.bytes, dJ9_floorMod_f86c9_1]
          refine Steps.instrAtOv (c := _) (by simpa using B.here) ?_
          simp [jvm, wpRun, exec, B.here.top, B.exec, B.bytes, dJ9_floorMod_f86c9_2, hb0]
          refine Steps.instrAtOv (c := _) (by simpa using B.here) ?_
          simp [jvm, wpRun, exec, B.here.top, B.exec, B.bytes, dJ9_floorMod_f86c9_3]
          refine ⟨#[.val (.long a), .second, .val (.long b), .second, .val (.long (a - a / b * b)), .second], rfl, ?_⟩
          refine Steps.instrAtOv (c := _) (by simpa using B.here) ?_
          simp [jvm, wpRun, exec, B.here.top, B.exec, B.bytes, dJ9_floorMod_f86c9_5]
          refine Steps.instrAtOv (c := _) (by simpa using B.here) ?_
          simp [jvm, wpRun, exec, B.here.top, B.exec, B.bytes, dJ9_floorMod_f86c9_6]
          refine Steps.instrAtOv (c := _) (by simpa using B.here) ?_
          simp [jvm, wpRun, exec, B.here.top, B.exec, B.bytes, dJ9_floorMod_f86c9_7]
          refine Steps.instrAtOv (c := _) (by simpa using B.here) ?_
          simp [jvm, wpRun, exec, B.here.top, B.exec, B.bytes, dJ9_floorMod_f86c9_8]
          refine Steps.instrAtOv (c := _) (by simpa using B.here) ?_
          simp [jvm, wpRun, exec, B.here.top, B.exec, B.bytes, dJ9_floorMod_f86c9_9, h1, h5, h6]
          refine Steps.instrAtOv (c := _) (by simpa using B.here) ?_
          simp [jvm, wpRun, exec, B.here.top, B.exec, B.bytes, dJ9_floorMod_f86c9_10, ifCond.holds]
          refine Steps.instrAtOv (c := _) (by simpa using B.here) ?_
          simp [jvm, wpRun, exec, B.here.top, B.exec, B.bytes, dJ9_floorMod_f86c9_13]
          refine Steps.instrAtOv (c := _) (by simpa using B.here) ?_
          simp [jvm, wpRun, exec, B.here.top, B.exec, B.bytes, dJ9_floorMod_f86c9_15]
          refine Steps.instrAtOv (c := _) (by simpa using B.here) ?_
          simp [jvm, wpRun, exec, B.here.top, B.exec, B.bytes, dJ9_floorMod_f86c9_16, h2]
          refine Steps.instrAtOv (c := _) (by simpa using B.here) ?_
          simp [jvm, wpRun, exec, B.here.top, B.exec, B.bytes, dJ9_floorMod_f86c9_17, ifCond.holds]
          refine Steps.instrAtOv (c := _) (by simpa using B.here) ?_
          simp [jvm, wpRun, exec, B.here.top, B.exec, B.bytes, dJ9_floorMod_f86c9_25]
          refine Steps.instrAtOv (c := _) (by simpa using B.here) ?_
          simp [jvm, wpRun, exec, B.here.top, B.exec, B.bytes, dJ9_floorMod_f86c9_27, B.method₁, B.returns]
          intro acts
          rw [ret_to B.frames₁ B.method₁ B.notSynchronized rfl rfl hfs]
          exact Steps.refl _
        · unfold fm_v at hfs
          rw [if_pos h1, if_neg h2] at hfs
          by_cases h3 : 0 < a - a / b * b
          · skip
            refine Steps.instrAtOv (c := _) (by simpa using B.here) ?_
            simp [jvm, wpRun, exec, B.here.top, B.exec, B.bytes, dJ9_floorMod_f86c9_0]
            refine Steps.instrAtOv (c := _) (by simpa using B.here) ?_
            simp [jvm, wpRun, exec, B.here.top, B.exec, B.bytes, dJ9_floorMod_f86c9_1]
            refine Steps.instrAtOv (c := _) (by simpa using B.here) ?_
            simp [jvm, wpRun, exec, B.here.top, B.exec, B.bytes, dJ9_floorMod_f86c9_2, hb0]
            refine Steps.instrAtOv (c := _) (by simpa using B.here) ?_
            simp [jvm, wpRun, exec, B.here.top, B.exec, B.bytes, dJ9_floorMod_f86c9_3]
            refine ⟨#[.val (.long a), .second, .val (.long b), .second, .val (.long (a - a / b * b)), .second], rfl, ?_⟩
            refine Steps.instrAtOv (c := _) (by simpa using B.here) ?_
            simp [jvm, wpRun, exec, B.here.top, B.exec, B.bytes, dJ9_floorMod_f86c9_5]
            refine Steps.instrAtOv (c := _) (by simpa using B.here) ?_
            simp [jvm, wpRun, exec, B.here.top, B.exec, B.bytes, dJ9_floorMod_f86c9_6]
            refine Steps.instrAtOv (c := _) (by simpa using B.here) ?_
            simp [jvm, wpRun, exec, B.here.top, B.exec, B.bytes, dJ9_floorMod_f86c9_7]
            refine Steps.instrAtOv (c := _) (by simpa using B.here) ?_
            simp [jvm, wpRun, exec, B.here.top, B.exec, B.bytes, dJ9_floorMod_f86c9_8]
            refine Steps.instrAtOv (c := _) (by simpa using B.here) ?_
            simp [jvm, wpRun, exec, B.here.top, B.exec, B.bytes, dJ9_floorMod_f86c9_9, h1, h5, h6]
            refine Steps.instrAtOv (c := _) (by simpa using B.here) ?_
            simp [jvm, wpRun, exec, B.here.top, B.exec, B.bytes, dJ9_floorMod_f86c9_10, ifCond.holds]
            refine Steps.instrAtOv (c := _) (by simpa using B.here) ?_
            simp [jvm, wpRun, exec, B.here.top, B.exec, B.bytes, dJ9_floorMod_f86c9_13]
            refine Steps.instrAtOv (c := _) (by simpa using B.here) ?_
            simp [jvm, wpRun, exec, B.here.top, B.exec, B.bytes, dJ9_floorMod_f86c9_15]
            refine Steps.instrAtOv (c := _) (by simpa using B.here) ?_
            simp [jvm, wpRun, exec, B.here.top, B.exec, B.bytes, dJ9_floorMod_f86c9_16, h2, h3]
            refine Steps.instrAtOv (c := _) (by simpa using B.here) ?_
            simp [jvm, wpRun, exec, B.here.top, B.exec, B.bytes, dJ9_floorMod_f86c9_17, ifCond.holds]
            refine Steps.instrAtOv (c := _) (by simpa using B.here) ?_
            simp [jvm, wpRun, exec, B.here.top, B.exec, B.bytes, dJ9_floorMod_f86c9_20]
            refine Steps.instrAtOv (c := _) (by simpa using B.here) ?_
            simp [jvm, wpRun, exec, B.here.top, B.exec, B.bytes, dJ9_floorMod_f86c9_22]
            refine Steps.instrAtOv (c := _) (by simpa using B.here) ?_
            simp [jvm, wpRun, exec, B.here.top, B.exec, B.bytes, dJ9_floorMod_f86c9_23]
            refine Steps.instrAtOv (c := _) (by simpa using B.here) ?_
            simp [jvm, wpRun, exec, B.here.top, B.exec, B.bytes, dJ9_floorMod_f86c9_24, B.method₁, B.returns]
            intro acts
            rw [ret_to B.frames₁ B.method₁ B.notSynchronized rfl rfl hfs]
            exact Steps.refl _
          · have h7 : a - a / b * b < 0 := by
              have h8 : (a - a / b * b).toInt ≠ 0 := fun q => h2 (Int64.toInt_inj.mp (by rw [q, Int64.toInt_zero]))
              rw [Int64.lt_iff_toInt_lt, Int64.toInt_zero] at h3 ⊢
              omega
            refine Steps.instrAtOv (c := _) (by simpa using B.here) ?_
            simp [jvm, wpRun, exec, B.here.top, B.exec, B.bytes, dJ9_floorMod_f86c9_0]
            refine Steps.instrAtOv (c := _) (by simpa using B.here) ?_
            simp [jvm, wpRun, exec, B.here.top, B.exec, B.bytes, dJ9_floorMod_f86c9_1]
            refine Steps.instrAtOv (c := _) (by simpa using B.here) ?_
            simp [jvm, wpRun, exec, B.here.top, B.exec, B.bytes, dJ9_floorMod_f86c9_2, hb0]
            refine Steps.instrAtOv (c := _) (by simpa using B.here) ?_
            simp [jvm, wpRun, exec, B.here.top, B.exec, B.bytes, dJ9_floorMod_f86c9_3]
            refine ⟨#[.val (.long a), .second, .val (.long b), .second, .val (.long (a - a / b * b)), .second], rfl, ?_⟩
            refine Steps.instrAtOv (c := _) (by simpa using B.here) ?_
            simp [jvm, wpRun, exec, B.here.top, B.exec, B.bytes, dJ9_floorMod_f86c9_5]
            refine Steps.instrAtOv (c := _) (by simpa using B.here) ?_
            simp [jvm, wpRun, exec, B.here.top, B.exec, B.bytes, dJ9_floorMod_f86c9_6]
            refine Steps.instrAtOv (c := _) (by simpa using B.here) ?_
            simp [jvm, wpRun, exec, B.here.top, B.exec, B.bytes, dJ9_floorMod_f86c9_7]
            refine Steps.instrAtOv (c := _) (by simpa using B.here) ?_
            simp [jvm, wpRun, exec, B.here.top, B.exec, B.bytes, dJ9_floorMod_f86c9_8]
            refine Steps.instrAtOv (c := _) (by simpa using B.here) ?_
            simp [jvm, wpRun, exec, B.here.top, B.exec, B.bytes, dJ9_floorMod_f86c9_9, h1, h5, h6]
            refine Steps.instrAtOv (c := _) (by simpa using B.here) ?_
            simp [jvm, wpRun, exec, B.here.top, B.exec, B.bytes, dJ9_floorMod_f86c9_10, ifCond.holds]
            refine Steps.instrAtOv (c := _) (by simpa using B.here) ?_
            simp [jvm, wpRun, exec, B.here.top, B.exec, B.bytes, dJ9_floorMod_f86c9_13]
            refine Steps.instrAtOv (c := _) (by simpa using B.here) ?_
            simp [jvm, wpRun, exec, B.here.top, B.exec, B.bytes, dJ9_floorMod_f86c9_15]
            refine Steps.instrAtOv (c := _) (by simpa using B.here) ?_
            simp [jvm, wpRun, exec, B.here.top, B.exec, B.bytes, dJ9_floorMod_f86c9_16, h2, h3, h7]
            refine Steps.instrAtOv (c := _) (by simpa using B.here) ?_
            simp [jvm, wpRun, exec, B.here.top, B.exec, B.bytes, dJ9_floorMod_f86c9_17, ifCond.holds]
            refine Steps.instrAtOv (c := _) (by simpa using B.here) ?_
            simp [jvm, wpRun, exec, B.here.top, B.exec, B.bytes, dJ9_floorMod_f86c9_20]
            refine Steps.instrAtOv (c := _) (by simpa using B.here) ?_
            simp [jvm, wpRun, exec, B.here.top, B.exec, B.bytes, dJ9_floorMod_f86c9_22]
            refine Steps.instrAtOv (c := _) (by simpa using B.here) ?_
            simp [jvm, wpRun, exec, B.here.top, B.exec, B.bytes, dJ9_floorMod_f86c9_23]
            refine Steps.instrAtOv (c := _) (by simpa using B.here) ?_
            simp [jvm, wpRun, exec, B.here.top, B.exec, B.bytes, dJ9_floorMod_f86c9_24, B.method₁, B.returns]
            intro acts
            rw [ret_to B.frames₁ B.method₁ B.notSynchronized rfl rfl hfs]
            exact Steps.refl _
      · unfold fm_v at hfs
        rw [if_neg h1] at hfs
        by_cases h3 : 0 < (a ^^^ b)
        · have h6 : ¬ ((a ^^^ b) = 0) := by
            intro q
            rw [q] at h3
            exact absurd h3 (by decide)
          refine Steps.instrAtOv (c := _) (by simpa using B.here) ?_
          simp [jvm, wpRun, exec, B.here.top, B.exec, B.bytes, dJ9_floorMod_f86c9_0]
          refine Steps.instrAtOv (c := _) (by simpa using B.here) ?_
          simp [jvm, wpRun, exec, B.here.top, B.exec, B.bytes, dJ9_floorMod_f86c9_1]
          refine Steps.instrAtOv (c := _) (by simpa using B.here) ?_
          simp [jvm, wpRun, exec, B.here.top, B.exec, B.bytes, dJ9_floorMod_f86c9_2, hb0]
          refine Steps.instrAtOv (c := _) (by simpa using B.here) ?_
          simp [jvm, wpRun, exec, B.here.top, B.exec, B.bytes, dJ9_floorMod_f86c9_3]
          refine ⟨#[.val (.long a), .second, .val (.long b), .second, .val (.long (a - a / b * b)), .second], rfl, ?_⟩
          refine Steps.instrAtOv (c := _) (by simpa using B.here) ?_
          simp [jvm, wpRun, exec, B.here.top, B.exec, B.bytes, dJ9_floorMod_f86c9_5]
          refine Steps.instrAtOv (c := _) (by simpa using B.here) ?_
          simp [jvm, wpRun, exec, B.here.top, B.exec, B.bytes, dJ9_floorMod_f86c9_6]
          refine Steps.instrAtOv (c := _) (by simpa using B.here) ?_
          simp [jvm, wpRun, exec, B.here.top, B.exec, B.bytes, dJ9_floorMod_f86c9_7]
          refine Steps.instrAtOv (c := _) (by simpa using B.here) ?_
          simp [jvm, wpRun, exec, B.here.top, B.exec, B.bytes, dJ9_floorMod_f86c9_8]
          refine Steps.instrAtOv (c := _) (by simpa using B.here) ?_
          simp [jvm, wpRun, exec, B.here.top, B.exec, B.bytes, dJ9_floorMod_f86c9_9, h1, h3, h6]
          refine Steps.instrAtOv (c := _) (by simpa using B.here) ?_
          simp [jvm, wpRun, exec, B.here.top, B.exec, B.bytes, dJ9_floorMod_f86c9_10, ifCond.holds]
          refine Steps.instrAtOv (c := _) (by simpa using B.here) ?_
          simp [jvm, wpRun, exec, B.here.top, B.exec, B.bytes, dJ9_floorMod_f86c9_25]
          refine Steps.instrAtOv (c := _) (by simpa using B.here) ?_
          simp [jvm, wpRun, exec, B.here.top, B.exec, B.bytes, dJ9_floorMod_f86c9_27, B.method₁, B.returns]
          intro acts
          rw [ret_to B.frames₁ B.method₁ B.notSynchronized rfl rfl hfs]
          exact Steps.refl _
        · have h4 : (a ^^^ b) = 0 := by
            apply Int64.toInt_inj.mp
            rw [Int64.lt_iff_toInt_lt, Int64.toInt_zero] at h1 h3
            rw [Int64.toInt_zero]
            omega
          refine Steps.instrAtOv (c := _) (by simpa using B.here) ?_
          simp [jvm, wpRun, exec, B.here.top, B.exec, B.bytes, dJ9_floorMod_f86c9_0]
          refine Steps.instrAtOv (c := _) (by simpa using B.here) ?_
          simp [jvm, wpRun, exec, B.here.top, B.exec, B.bytes, dJ9_floorMod_f86c9_1]
          refine Steps.instrAtOv (c := _) (by simpa using B.here) ?_
          simp [jvm, wpRun, exec, B.here.top, B.exec, B.bytes, dJ9_floorMod_f86c9_2, hb0]
          refine Steps.instrAtOv (c := _) (by simpa using B.here) ?_
          simp [jvm, wpRun, exec, B.here.top, B.exec, B.bytes, dJ9_floorMod_f86c9_3]
          refine ⟨#[.val (.long a), .second, .val (.long b), .second, .val (.long (a - a / b * b)), .second], rfl, ?_⟩
          refine Steps.instrAtOv (c := _) (by simpa using B.here) ?_
          simp [jvm, wpRun, exec, B.here.top, B.exec, B.bytes, dJ9_floorMod_f86c9_5]
          refine Steps.instrAtOv (c := _) (by simpa using B.here) ?_
          simp [jvm, wpRun, exec, B.here.top, B.exec, B.bytes, dJ9_floorMod_f86c9_6]
          refine Steps.instrAtOv (c := _) (by simpa using B.here) ?_
          simp [jvm, wpRun, exec, B.here.top, B.exec, B.bytes, dJ9_floorMod_f86c9_7]
          refine Steps.instrAtOv (c := _) (by simpa using B.here) ?_
          simp [jvm, wpRun, exec, B.here.top, B.exec, B.bytes, dJ9_floorMod_f86c9_8]
          refine Steps.instrAtOv (c := _) (by simpa using B.here) ?_
          simp [jvm, wpRun, exec, B.here.top, B.exec, B.bytes, dJ9_floorMod_f86c9_9, h4]
          refine Steps.instrAtOv (c := _) (by simpa using B.here) ?_
          simp [jvm, wpRun, exec, B.here.top, B.exec, B.bytes, dJ9_floorMod_f86c9_10, ifCond.holds]
          refine Steps.instrAtOv (c := _) (by simpa using B.here) ?_
          simp [jvm, wpRun, exec, B.here.top, B.exec, B.bytes, dJ9_floorMod_f86c9_25]
          refine Steps.instrAtOv (c := _) (by simpa using B.here) ?_
          simp [jvm, wpRun, exec, B.here.top, B.exec, B.bytes, dJ9_floorMod_f86c9_27, B.method₁, B.returns]
          intro acts
          rw [ret_to B.frames₁ B.method₁ B.notSynchronized rfl rfl hfs]
          exact Steps.refl _
    · exact Or.inr hfs
section FM
variable {p : Program} {l : Launch} {e : Env} {R : Room} {s : State} {m : MethodId} {args : Array Value} {below : List Frame} {meth : Method} {c : Code} {T : State} {H : Heap} {locs : List Loc} {cells slots : Nat} {Q : State → Prop}
variable {cc : ByteArray} {pc : Nat} {ls : Array Slot} {rest : List Value}
theorem fm_call (X : Stand p l e R s m args below meth c T locs cells slots) (hexec : p.tables.exec = Jvm.exec) {own : String} {index : Nat} (hown : s.vm.findClass own = some m.cls)
    (hlink : (Cond.methodLink own index yJ9_floorMod_f86c9).before args s = true) (hstat : (Cond.static yJ9_floorMod_f86c9).before args s = true) (hinit : (Cond.initialized "java/lang/Math").before args s = true)
    (hcode : (Cond.code yJ9_floorMod_f86c9 cJ9_floorMod_f86c9 6 (some .long)).before args s = true)
    {g : JFrame} (hg : g.method = m) (hsize : g.locals.size = c.maxLocals) {a b : Int64} (hb0 : b ≠ 0) {rest : List Value} (hstack : g.stack = .long b :: .long a :: rest) (hdg : decode c.code g.pc = .ok (.invokestatic index, 3))
    (hframes : 1 ≤ R.frames) (hlocals : 2 * g.monitorRoom + (rest.map fun v => v.category).sum + 17 ≤ R.locals) (hcells : cells ≤ R.cells) (hslots : slots ≤ R.slots) :
    ∃ vm', Stand p l e R s m args below meth c (T.setVm vm') locs cells slots ∧
      ∀ target, Steps p.tables e below ((T.setVm vm').setTop { g with pc := g.pc + 3, stack := .long (fm_v a b) :: rest }) target → Steps p.tables e below (T.setTop g) target := by
  obtain ⟨v, T', X', ⟨first, t, hpost⟩, hstep⟩ := X.staticByContractV hexec hown hlink hstat hinit hcode (by decide)
    (fm_loose l a b hb0)
    rfl rfl rfl rfl
    (fun args' first o s₂ h => by
      cases o with
      | returned r => exact ⟨r, rfl⟩
      | threw y =>
        have hz : (fm_s a b).post.value args' first (some (.threw y)) s₂ [] = some true := by simpa [Cond.after, Cond.holds] using h
        exact absurd hz va_nvRet)
    hg hsize (argsL := [.long a, .long b]) (rest := rest)
    (fun sig hs => by
      have h : parseMethodDescriptor "(JJ)J" = some { parameters := [.long, .long], returnType := some .long } := by decide +kernel
      rw [show yJ9_floorMod_f86c9.desc = "(JJ)J" from rfl, h] at hs
      rw [← Option.some.inj hs]; rfl)
    hstack hdg
    (fun vm' hW => by
      unfold fm_s
      simp only [Cond.before_and, Bool.and_eq_true]
      refine ⟨?_, rfl, rfl, rfl, by simp [Cond.before, Cond.holds, Cond.value, Term.eval], by simp [Cond.before, Cond.holds, Cond.value, Term.eval]⟩
      have q := hcode
      rw [← Cond.code_setVm hW.alike] at q
      simp only [Cond.before, Cond.holds, Cond.value, State.methodNamed?, State.vm_setVm] at q ⊢
      exact q)
    (by show 0 + 1 ≤ R.frames; omega) (by show 2 * g.monitorRoom + (rest.map fun v => v.category).sum + (6 + 11) + 0 ≤ R.locals; omega) (by show cells + 0 ≤ R.cells; omega) (by show slots + 0 ≤ R.slots; omega)
  refine ⟨T', X', fun target h => hstep target ?_⟩
  obtain rfl : v = some (.long (fm_v a b)) := by
    rcases v with _ | w
    · simp [fm_s, Cond.after, Cond.holds, Cond.value, Term.eval] at hpost
    · cases w <;> simp [fm_s, Cond.after, Cond.holds, Cond.value, Term.eval] at hpost
      simp [hpost]
  exact h
theorem fm_neg (a : Int64) : a < 0 ↔ a.toBitVec.msb = true := by
  rw [Int64.lt_iff_toInt_lt, Int64.toInt_zero, BitVec.msb_eq_toInt]
  show a.toInt < 0 ↔ decide (a.toInt < 0) = true
  exact decide_eq_true_iff.symm
theorem fm_int {x y : Int} (hx : R64 x) (hy : R64 y) (h0 : 0 < y) : fm_v (iL x) (iL y) = iL (x % y) := by
  have hr : iL x - iL x / iL y * iL y = iL (x.tmod y) := iL_rem hx hy
  have h1 : (iL x ^^^ iL y) < 0 ↔ x < 0 := by
    have hyn : (iL y).toBitVec.msb = false := by
      cases h : (iL y).toBitVec.msb with
      | false => rfl
      | true =>
        have := (fm_neg (iL y)).mpr h
        rw [Int64.lt_iff_toInt_lt, iL_t hy, Int64.toInt_zero] at this
        omega
    rw [fm_neg, Int64.toBitVec_xor, BitVec.msb_xor, hyn, Bool.xor_false, ← fm_neg, Int64.lt_iff_toInt_lt, iL_t hx, Int64.toInt_zero]
  unfold fm_v
  rw [hr]
  by_cases hn : x < 0
  · rw [if_pos (h1.mpr hn)]
    have h2 : x.tmod y = -((-x) % y) := by
      rw [← Int.tmod_eq_emod_of_nonneg (by omega : (0 : Int) ≤ -x), Int.neg_tmod, Int.neg_neg]
    have h3 := Int.emod_nonneg (-x) (show y ≠ 0 by omega)
    have h4 := Int.emod_lt_of_pos (-x) h0
    by_cases hz : (-x) % y = 0
    · have h5 : x % y = 0 := by
        have h6 : y ∣ x := Int.dvd_neg.mp (Int.dvd_of_emod_eq_zero hz)
        exact Int.emod_eq_zero_of_dvd h6
      rw [h2, hz, if_pos (by rfl), h5]
      rfl
    · rw [if_neg, iL_add]
      · congr 1
        have h7 : x % y = y - (-x) % y := by
          have h8 : x = (y - (-x) % y) + y * (-((-x) / y) - 1) := by
            have := Int.emod_add_mul_ediv (-x) y
            rw [Int.mul_sub, Int.mul_neg]
            omega
          have h9 : x % y = (y - (-x) % y) % y := by
            conv => lhs; rw [h8]
            exact Int.add_mul_emod_self_left _ _ _
          rw [h9, Int.emod_eq_of_lt (by omega) (by omega)]
        rw [h2, h7]
        omega
      · intro q
        have h10 := congrArg Int64.toInt q
        rw [iL_t ⟨by omega, by omega⟩, Int64.toInt_zero] at h10
        omega
  · rw [if_neg (fun q => hn (h1.mp q)), Int.tmod_eq_emod_of_nonneg (by omega)]
theorem em_R {x y : Int} (hy : R64 y) (h0 : 0 < y) : R64 (x % y) := by
  have h3 := Int.emod_nonneg x (show y ≠ 0 by omega)
  have h4 := Int.emod_lt_of_pos x h0
  exact ⟨by omega, by omega⟩
theorem w_fmod (hexec : p.tables.exec = Jvm.exec) (hb : c.code = cc) (hml : c.maxLocals = ls.size) {own : String} {index : Nat} (hown : s.vm.findClass own = some m.cls) (hlink : (Cond.methodLink own index yJ9_floorMod_f86c9).before args s = true) (hstat : (Cond.static yJ9_floorMod_f86c9).before args s = true) (hini : (Cond.initialized "java/lang/Math").before args s = true) (hcode : (Cond.code yJ9_floorMod_f86c9 cJ9_floorMod_f86c9 6 (some .long)).before args s = true)
    (hframes : 1 ≤ R.frames) (hlocals : (rest.map fun v => v.category).sum + 17 ≤ R.locals) (hc : cells ≤ R.cells) (hs : slots ≤ R.slots) {x y x' y' : Int} (hx : sL x = x') (hy : sL y = y') (h0 : 0 < y') (hdg : decode cc pc = .ok (.invokestatic index, 3))
    (kk : W p l e R s m args below meth c H locs cells slots Q (F0 m (pc + 3) ls (.long (iL (x' % y')) :: rest))) : W p l e R s m args below meth c H locs cells slots Q (F0 m pc ls (.long (iL y) :: .long (iL x) :: rest)) := by
  rw [iL_cg hx, iL_cg hy]
  intro T hT X
  have hy0 : iL y' ≠ 0 := by
    intro q
    have h10 := congrArg Int64.toInt q
    rw [iL_t (sL_c hy), Int64.toInt_zero] at h10
    omega
  obtain ⟨vm', X', st⟩ := fm_call X hexec hown hlink hstat hini hcode (g := F0 m pc ls (.long (iL y') :: .long (iL x') :: rest)) rfl (by rw [hml]) (a := iL x') (b := iL y') hy0 (rest := rest) rfl (by rw [hb]; exact hdg) hframes (by show 2 * 0 + _ + 17 ≤ _; omega) hc hs
  rw [fm_int (sL_c hx) (sL_c hy) h0] at st
  obtain ⟨t, a1, b1⟩ := kk (T.setVm vm') hT X'
  exact ⟨t, st t a1, b1⟩
end FM
end zz09z_fm
