/-! BASE: ints and longs by their integers; a world of cells at fixed places, its numbers in one table M; one row an instruction over it -/
abbrev R32 (z : Int) : Prop := -2147483648 ≤ z ∧ z ≤ 2147483647
abbrev R64 (z : Int) : Prop := -9223372036854775808 ≤ z ∧ z ≤ 9223372036854775807
def iI (z : Int) : Int32 := Int32.ofInt z
def iL (z : Int) : Int64 := Int64.ofInt z
theorem iI_t {z : Int} (h : R32 z) : (iI z).toInt = z := by
  unfold iI
  rw [Int32.toInt_ofInt]
  exact Int.bmod_eq_of_le (by have := h.1; simp only [Int32.size]; omega) (by have := h.2; simp only [Int32.size]; omega)
theorem iL_t {z : Int} (h : R64 z) : (iL z).toInt = z := by
  unfold iL
  rw [Int64.toInt_ofInt]
  exact Int.bmod_eq_of_le (by have := h.1; simp only [Int64.size]; omega) (by have := h.2; simp only [Int64.size]; omega)
theorem iI_r (x : Int32) : R32 x.toInt := ⟨by have := Int32.le_toInt x; omega, by have := Int32.toInt_lt x; omega⟩
theorem iL_r (x : Int64) : R64 x.toInt := ⟨by have := Int64.le_toInt x; omega, by have := Int64.toInt_lt x; omega⟩
theorem iI_e (x : Int32) : iI x.toInt = x := Int32.ofInt_toInt x
theorem iL_e (x : Int64) : iL x.toInt = x := Int64.ofInt_toInt x
theorem iI_of (x : Int32) : ∃ z, R32 z ∧ x = iI z := ⟨x.toInt, iI_r x, (iI_e x).symm⟩
theorem iL_of (x : Int64) : ∃ z, R64 z ∧ x = iL z := ⟨x.toInt, iL_r x, (iL_e x).symm⟩
theorem iI_inj {a b : Int} (ha : R32 a) (hb : R32 b) (h : iI a = iI b) : a = b := by rw [← iI_t ha, h, iI_t hb]
theorem iL_inj {a b : Int} (ha : R64 a) (hb : R64 b) (h : iL a = iL b) : a = b := by rw [← iL_t ha, h, iL_t hb]
theorem iI_add (a b : Int) : iI a + iI b = iI (a + b) := by
  apply Int32.toInt_inj.mp
  simp [iI, Int32.toInt_add, Int32.toInt_ofInt]
theorem iI_sub (a b : Int) : iI a - iI b = iI (a - b) := by
  apply Int32.toInt_inj.mp
  simp [iI, Int32.toInt_sub, Int32.toInt_ofInt]
theorem iI_mul (a b : Int) : iI a * iI b = iI (a * b) := by
  apply Int32.toInt_inj.mp
  simp [iI, Int32.toInt_mul, Int32.toInt_ofInt]
theorem iI_neg (a : Int) : -iI a = iI (-a) := by
  apply Int32.toInt_inj.mp
  simp [iI, Int32.toInt_neg, Int32.toInt_ofInt]
theorem iL_add (a b : Int) : iL a + iL b = iL (a + b) := by
  apply Int64.toInt_inj.mp
  simp [iL, Int64.toInt_add, Int64.toInt_ofInt]
theorem iL_sub (a b : Int) : iL a - iL b = iL (a - b) := by
  apply Int64.toInt_inj.mp
  simp [iL, Int64.toInt_sub, Int64.toInt_ofInt]
theorem iL_mul (a b : Int) : iL a * iL b = iL (a * b) := by
  apply Int64.toInt_inj.mp
  simp [iL, Int64.toInt_mul, Int64.toInt_ofInt]
theorem iI_lt {a b : Int} (ha : R32 a) (hb : R32 b) : iI a < iI b ↔ a < b := by rw [Int32.lt_iff_toInt_lt, iI_t ha, iI_t hb]
theorem iI_le {a b : Int} (ha : R32 a) (hb : R32 b) : iI a ≤ iI b ↔ a ≤ b := by rw [Int32.le_iff_toInt_le, iI_t ha, iI_t hb]
theorem iI_eq {a b : Int} (ha : R32 a) (hb : R32 b) : iI a = iI b ↔ a = b := ⟨iI_inj ha hb, fun h => by rw [h]⟩
theorem iL_lt {a b : Int} (ha : R64 a) (hb : R64 b) : iL a < iL b ↔ a < b := by rw [Int64.lt_iff_toInt_lt, iL_t ha, iL_t hb]
theorem iL_le {a b : Int} (ha : R64 a) (hb : R64 b) : iL a ≤ iL b ↔ a ≤ b := by rw [Int64.le_iff_toInt_le, iL_t ha, iL_t hb]
theorem iL_eq {a b : Int} (ha : R64 a) (hb : R64 b) : iL a = iL b ↔ a = b := ⟨iL_inj ha hb, fun h => by rw [h]⟩
theorem iI_0 : (0 : Int32) = iI 0 := rfl
theorem iI_1 : (1 : Int32) = iI 1 := rfl
theorem iI_div {a b : Int} (ha : R32 a) (hb : R32 b) : iI a / iI b = iI (a.tdiv b) := by
  apply Int32.toInt_inj.mp
  rw [Int32.toInt_div, iI_t ha, iI_t hb]
  simp [iI, Int32.toInt_ofInt]
theorem iL_div {a b : Int} (ha : R64 a) (hb : R64 b) : iL a / iL b = iL (a.tdiv b) := by
  apply Int64.toInt_inj.mp
  rw [Int64.toInt_div, iL_t ha, iL_t hb]
  simp [iL, Int64.toInt_ofInt]
theorem iI_rem {a b : Int} (ha : R32 a) (hb : R32 b) : iI a - iI a / iI b * iI b = iI (a.tmod b) := by
  rw [iI_div ha hb, iI_mul, iI_sub]
  congr 1
  rw [Int.tmod_def, Int.mul_comm]
theorem iL_rem {a b : Int} (ha : R64 a) (hb : R64 b) : iL a - iL a / iL b * iL b = iL (a.tmod b) := by
  rw [iL_div ha hb, iL_mul, iL_sub]
  congr 1
  rw [Int.tmod_def, Int.mul_comm]
theorem iI_long {a : Int} (ha : R32 a) : (iI a).toInt64 = iL a := by
  apply Int64.toInt_inj.mp
  rw [Int32.toInt_toInt64, iI_t ha, iL_t ⟨by omega, by omega⟩]
theorem iL_int (a : Int) : (iL a).toInt32 = iI a := by
  unfold iL iI
  exact Int64.toInt32_ofInt
theorem iI_in {z : Int} {n : Nat} (h0 : 0 ≤ z) (h : z < n) (hn : n < 2147483648) : vp_in (iI z) n ∧ (iI z).toNatClampNeg = z.toNat := by
  have ht : (iI z).toInt = z := iI_t ⟨by omega, by omega⟩
  refine ⟨?_, ?_⟩
  · rw [vp_in_iff, ht]
    omega
  · show (iI z).toInt.toNat = z.toNat
    rw [ht]
/-! WORLDS: cells at b, b + 1, ..; the numbers that they hold in one table M; where references lead is fixed -/
abbrev zM : Type := Nat → Nat → Int
def zup (M : zM) (j k : Nat) (v : Int) : zM := fun a b => if a = j ∧ b = k then v else M a b
theorem zup_s (M : zM) (j k : Nat) (v : Int) : zup M j k v j k = v := by simp [zup]
theorem zup_n (M : zM) {j k a b : Nat} (v : Int) (h : ¬ (a = j ∧ b = k)) : zup M j k v a b = M a b := by simp [zup, h]
theorem zup_row (M : zM) {j k a : Nat} (v : Int) (h : a ≠ j) : zup M j k v a = M a := by funext b; simp [zup, h]
/-- a plan: the code of each place; by the code: its kind (below 100 objects of that class, 100 ints, 101 longs, 102 bytes, 103 booleans, 104 and on references), its length, where references lead, the bounds of its numbers, which part of the world it is; by the class: how many fields, their kinds (0 int, 1 long, else reference) -/
abbrev zW : Type := (Nat → Nat) × (Nat → Nat) × (Nat → Nat) × (Nat → Nat → Nat → Nat) × (Nat → Nat) × (Nat → Nat → Nat) × (Nat → Nat → Int × Int) × (Nat → Nat → Nat)
abbrev zcd (w : zW) (j : Nat) : Nat := w.1 j
abbrev zkd (w : zW) (j : Nat) : Nat := w.2.1 (w.1 j)
abbrev zln (w : zW) (j : Nat) : Nat := w.2.2.1 (w.1 j)
abbrev zrf (w : zW) (j k : Nat) : Nat := w.2.2.2.1 (w.1 j) j k
abbrev znf (w : zW) : Nat → Nat := w.2.2.2.2.1
abbrev zfk (w : zW) : Nat → Nat → Nat := w.2.2.2.2.2.1
abbrev zbd (w : zW) (j k : Nat) : Int × Int := w.2.2.2.2.2.2.1 (w.1 j) k
abbrev zmc (w : zW) (j k : Nat) : Nat := w.2.2.2.2.2.2.2 (w.1 j) k
def zms (w : zW) (L : List Nat) (j k : Nat) : Bool := L.elem (zmc w j k)
theorem zkd_of {w : zW} {j q r : Nat} (h : zcd w j = q) (h2 : w.2.1 q = r) : zkd w j = r := by unfold zkd; rw [show w.1 j = q from h]; exact h2
theorem zln_of {w : zW} {j q r : Nat} (h : zcd w j = q) (h2 : w.2.2.1 q = r) : zln w j = r := by unfold zln; rw [show w.1 j = q from h]; exact h2
theorem zrf_of {w : zW} {j k q r : Nat} (h : zcd w j = q) (h2 : w.2.2.2.1 q j k = r) : zrf w j k = r := by unfold zrf; rw [show w.1 j = q from h]; exact h2
theorem zbd_of {w : zW} {j k q : Nat} {r : Int × Int} (h : zcd w j = q) (h2 : w.2.2.2.2.2.2.1 q k = r) : zbd w j k = r := by unfold zbd; rw [show w.1 j = q from h]; exact h2
theorem zms_of {w : zW} {L : List Nat} {j k q : Nat} (h : zcd w j = q) (h2 : L.elem (w.2.2.2.2.2.2.2 q k) = true) : zms w L j k = true := by unfold zms zmc; rw [show w.1 j = q from h]; exact h2
theorem zms_not {w : zW} {L : List Nat} {j k q : Nat} (h : zcd w j = q) (h2 : L.elem (w.2.2.2.2.2.2.2 q k) = false) : zms w L j k = false := by unfold zms zmc; rw [show w.1 j = q from h]; exact h2
theorem zms_sub {w : zW} {L L' : List Nat} (h : L'.all (fun x => L.elem x) = true) : ∀ j k, zms w L j k = false → zms w L' j k = false := by
  intro j k h1
  unfold zms at *
  cases h2 : L'.elem (zmc w j k) with
  | false => rfl
  | true =>
    have h3 := List.all_eq_true.mp h _ (List.elem_iff.mp h2)
    rw [h3] at h1
    cases h1
/-- what a place may hold, by its code -/
theorem zJ_at {w : zW} {M : zM} (h : ∀ j k, (zbd w j k).1 ≤ M j k ∧ M j k ≤ (zbd w j k).2) {j k q : Nat} {lo hi : Int} (hc : zcd w j = q) (h2 : w.2.2.2.2.2.2.1 q k = (lo, hi)) : lo ≤ M j k ∧ M j k ≤ hi := by
  have h3 := h j k
  rw [zbd_of hc h2] at h3
  exact h3
theorem zbd_in {w : zW} {j k q : Nat} {lo hi z : Int} (hc : zcd w j = q) (h2 : w.2.2.2.2.2.2.1 q k = (lo, hi)) (h3 : lo ≤ z ∧ z ≤ hi) : (zbd w j k).1 ≤ z ∧ z ≤ (zbd w j k).2 := by
  rw [zbd_of hc h2]
  exact h3
def zfv (w : zW) (b j k : Nat) (v : Int) : Value := if zfk w (zkd w j) k = 0 then .int (iI v) else if zfk w (zkd w j) k = 1 then .long (iL v) else .ref (b + zrf w j k)
def zfs (w : zW) (b j : Nat) (row : Nat → Int) : List Value := (List.range (znf w (zkd w j))).map (fun k => zfv w b j k (row k))
def zar (w : zW) (b j : Nat) (row : Nat → Int) : vp_A := if zkd w j = 101 then (zln w j, .inr (.inl (fun k => iL (row k)))) else if zkd w j < 104 then (zln w j, .inl (fun k => iI (row k))) else (zln w j, .inr (.inr (.inr (.inr (fun k => some (b + zrf w j k))))))
def zcell (dA : Nat → ClassId) (w : zW) (b j : Nat) (row : Nat → Int) : va_E := if zkd w j < 100 then .inr (zkd w j, zfs w b j row) else .inl (dA (zkd w j - 100), zar w b j row)
def zR (D : va_G) (dA : Nat → ClassId) (cl : List vw_C) (w : zW) (N b : Nat) (M : zM) (H : Heap) : Prop := ∀ j, j < N → va_at D cl (b + j, zcell dA w b j (M j)) H
def zJ (w : zW) (M : zM) : Prop := ∀ j k, (zbd w j k).1 ≤ M j k ∧ M j k ≤ (zbd w j k).2
def zF (ms : Nat → Nat → Bool) (M0 M : zM) : Prop := ∀ j k, ms j k = false → M j k = M0 j k
def zS (D : va_G) (dA : Nat → ClassId) (cl : List vw_C) (w : zW) (N b : Nat) (ms : Nat → Nat → Bool) (M0 M : zM) (H : Heap) : Prop := zR D dA cl w N b M H ∧ zJ w M ∧ zF ms M0 M
abbrev zA (N b : Nat) : Nat → Prop := fun q => b ≤ q ∧ q < b + N
theorem zF_rf (ms : Nat → Nat → Bool) (M : zM) : zF ms M M := fun _ _ _ => rfl
theorem zF_tr {ms : Nat → Nat → Bool} {M0 M1 M2 : zM} (h1 : zF ms M0 M1) (h2 : zF ms M1 M2) : zF ms M0 M2 := fun j k h => (h2 j k h).trans (h1 j k h)
theorem zF_mono {ms ms' : Nat → Nat → Bool} {M0 M1 : zM} (h1 : zF ms M0 M1) (hm : ∀ j k, ms' j k = false → ms j k = false) : zF ms' M0 M1 := fun j k h => h1 j k (hm j k h)
theorem zF_up {ms : Nat → Nat → Bool} {M0 M : zM} (h : zF ms M0 M) {j k : Nat} {v : Int} (hm : ms j k = true) : zF ms M0 (zup M j k v) := by
  intro a b hab
  rw [zup_n]
  · exact h a b hab
  · rintro ⟨rfl, rfl⟩
    rw [hm] at hab
    cases hab
theorem zJ_up {w : zW} {M : zM} (h : zJ w M) {j k : Nat} {v : Int} (hb : (zbd w j k).1 ≤ v ∧ v ≤ (zbd w j k).2) : zJ w (zup M j k v) := by
  intro a b
  by_cases hab : a = j ∧ b = k
  · obtain ⟨rfl, rfl⟩ := hab
    rw [zup_s]
    exact hb
  · rw [zup_n M v hab]
    exact h a b
theorem zfs_at {w : zW} {b j k : Nat} {row : Nat → Int} (h : k < znf w (zkd w j)) : (zfs w b j row)[k]? = some (zfv w b j k (row k)) := by
  simp [zfs, h]
theorem zfs_V {w : zW} {b j k : Nat} {row : Nat → Int} (h : k < znf w (zkd w j)) : vp_V (zfs w b j row) k = zfv w b j k (row k) := by
  simp [vp_V, List.getD, zfs_at h]
/-- a field by a plan: class, place, kind; names by the class's table -/
def zFld (cl : List vw_C) (w : zW) (ci : Nat) (C : String) (T : u_T) (n k kind : Nat) : Prop := cl[ci]? = some (C, T, n) ∧ ci < 100 ∧ znf w ci = n ∧ k < n ∧ zfk w ci k = kind
def zLk (s : State) (args : Array Value) (own : String) (index : Nat) (ref name desc : String) : Prop := (Cond.fieldLink own index ref name desc).before args s = true ∨ ∃ host : String, (Cond.fieldLinkNest own index ref name desc host).before args s = true
section ZW
variable {p : Program} {l : Launch} {e : Env} {R : Room} {s : State} {m : MethodId} {args : Array Value} {below : List Frame} {meth : Method} {c : Code} {H : Heap} {locs : List Loc} {cells slots : Nat} {Q : State → Prop}
variable {cc : ByteArray} {pc : Nat} {ls : Array Slot} {rest : List Value} {D : va_G} {dA : Nat → ClassId} {cl : List vw_C} {tys : List (ClassId × FieldType)} {H0 : Heap} {w : zW} {N b : Nat} {ms : Nat → Nat → Bool} {M0 M : zM}
theorem z_getv (hexec : p.tables.exec = Jvm.exec) (hb : c.code = cc) {own C : String} {T : u_T} {n ci index j k kind : Nat} {Ts : List Cond} (hts : ∀ w ∈ Ts, w.before args s = true) (hin : ∀ w ∈ u_ws C T n, w ∈ Ts) (hown : s.vm.findClass own = some m.cls) (hK : va_K D cl tys s) (hR : zR D dA cl w N b M H)
    (hf : zFld cl w ci C T n k kind) (hj : j < N) (hkd : zkd w j = ci) (hlink : zLk s args own index (T k).1 (T k).2.1 (T k).2.2.1) (hdg : decode cc pc = .ok (.getfield index, 3))
    (kk : W p l e R s m args below meth c H locs cells slots Q (F0 m (pc + 3) ls (zfv w b j k (M j k) :: rest))) : W p l e R s m args below meth c H locs cells slots Q (F0 m pc ls (.ref (b + j) :: rest)) := by
  obtain ⟨hc, hci, hn, hk, -⟩ := hf
  subst hkd
  have hP : va_P D cl [(b + j, .inr (zkd w j, zfs w b j (M j)))] H := by
    intro i q hq
    have hi : i = 0 := by
      have := (List.getElem?_eq_some_iff.mp hq).1
      simp at this
      exact this
    subst hi
    cases hq
    have h := hR j hj
    unfold zcell at h
    rw [if_pos hci] at h
    exact h
  have hv : (zfs w b j (M j))[k]? = some (zfv w b j k (M j k)) := zfs_at (by rw [hn]; exact hk)
  rcases hlink with hl | ⟨host, hl⟩
  · exact va_get hexec hb hts hin hown hK hP 0 rfl hc k hk hl (fun _ h => h) hv hdg kk
  · exact va_getN hexec hb hts hin hown hK hP 0 rfl hc k hk hl (fun _ h => h) hv hdg kk
theorem z_geti (hexec : p.tables.exec = Jvm.exec) (hb : c.code = cc) {own C : String} {T : u_T} {n ci index j k : Nat} {Ts : List Cond} (hts : ∀ w ∈ Ts, w.before args s = true) (hin : ∀ w ∈ u_ws C T n, w ∈ Ts) (hown : s.vm.findClass own = some m.cls) (hK : va_K D cl tys s) (hS : zS D dA cl w N b ms M0 M H)
    (hf : zFld cl w ci C T n k 0) (hj : j < N) (hkd : zkd w j = ci) (hlink : zLk s args own index (T k).1 (T k).2.1 (T k).2.2.1) (hdg : decode cc pc = .ok (.getfield index, 3))
    (kk : W p l e R s m args below meth c H locs cells slots Q (F0 m (pc + 3) ls (.int (iI (M j k)) :: rest))) : W p l e R s m args below meth c H locs cells slots Q (F0 m pc ls (.ref (b + j) :: rest)) := by
  refine z_getv hexec hb hts hin hown hK hS.1 hf hj hkd hlink hdg ?_
  unfold zfv
  rw [hkd, if_pos hf.2.2.2.2]
  exact kk
theorem z_getl (hexec : p.tables.exec = Jvm.exec) (hb : c.code = cc) {own C : String} {T : u_T} {n ci index j k : Nat} {Ts : List Cond} (hts : ∀ w ∈ Ts, w.before args s = true) (hin : ∀ w ∈ u_ws C T n, w ∈ Ts) (hown : s.vm.findClass own = some m.cls) (hK : va_K D cl tys s) (hS : zS D dA cl w N b ms M0 M H)
    (hf : zFld cl w ci C T n k 1) (hj : j < N) (hkd : zkd w j = ci) (hlink : zLk s args own index (T k).1 (T k).2.1 (T k).2.2.1) (hdg : decode cc pc = .ok (.getfield index, 3))
    (kk : W p l e R s m args below meth c H locs cells slots Q (F0 m (pc + 3) ls (.long (iL (M j k)) :: rest))) : W p l e R s m args below meth c H locs cells slots Q (F0 m pc ls (.ref (b + j) :: rest)) := by
  refine z_getv hexec hb hts hin hown hK hS.1 hf hj hkd hlink hdg ?_
  unfold zfv
  rw [hkd, if_neg (by rw [hf.2.2.2.2]; decide), if_pos hf.2.2.2.2]
  exact kk
theorem z_getr (hexec : p.tables.exec = Jvm.exec) (hb : c.code = cc) {own C : String} {T : u_T} {n ci index j k j2 : Nat} {Ts : List Cond} (hts : ∀ w ∈ Ts, w.before args s = true) (hin : ∀ w ∈ u_ws C T n, w ∈ Ts) (hown : s.vm.findClass own = some m.cls) (hK : va_K D cl tys s) (hS : zS D dA cl w N b ms M0 M H)
    (hf : zFld cl w ci C T n k 2) (hj : j < N) (hkd : zkd w j = ci) (hrf : zrf w j k = j2) (hlink : zLk s args own index (T k).1 (T k).2.1 (T k).2.2.1) (hdg : decode cc pc = .ok (.getfield index, 3))
    (kk : W p l e R s m args below meth c H locs cells slots Q (F0 m (pc + 3) ls (.ref (b + j2) :: rest))) : W p l e R s m args below meth c H locs cells slots Q (F0 m pc ls (.ref (b + j) :: rest)) := by
  refine z_getv hexec hb hts hin hown hK hS.1 hf hj hkd hlink hdg ?_
  unfold zfv
  rw [hkd, if_neg (by rw [hf.2.2.2.2]; decide), if_neg (by rw [hf.2.2.2.2]; decide), hrf]
  exact kk
/-- a number is put into a field -/
theorem z_putv (hexec : p.tables.exec = Jvm.exec) (hb : c.code = cc) {own C : String} {T : u_T} {n ci index j k kind : Nat} {Ts : List Cond} (hts : ∀ w ∈ Ts, w.before args s = true) (hin : ∀ w ∈ u_ws C T n, w ∈ Ts) (ty0 : Nat → FieldType) (hty : ∀ k, k < n → parseFieldDescriptor (T k).2.2.1 = some (ty0 k)) (hnm : ∀ a, a < n → ∀ b, b < n → a ≠ b → (T a).2.1 ≠ (T b).2.1) (hown : s.vm.findClass own = some m.cls) (hK : va_K D cl tys s) (hR : zR D dA cl w N b M H) (hS0 : va_S (zA N b) H0 H locs)
    (hf : zFld cl w ci C T n k kind) (hj : j < N) (hkd : zkd w j = ci) (hlink : zLk s args own index (T k).1 (T k).2.1 (T k).2.2.1) (hfin : (T k).2.2.2 = false) {ty : FieldType} {v : Value} {z : Int} (hd : parseFieldDescriptor (T k).2.2.1 = some ty) (hnr : narrow ty v = v) (hfit : fits ty v = true) (hz : v = zfv w b j k z) (hdg : decode cc pc = .ok (.putfield index, 3))
    (kk : ∀ (H1 : Heap) (locs1 : List Loc), zR D dA cl w N b (zup M j k z) H1 → va_S (zA N b) H0 H1 locs1 → W p l e R s m args below meth c H1 locs1 cells slots Q (F0 m (pc + 3) ls rest)) : W p l e R s m args below meth c H locs cells slots Q (F0 m pc ls (v :: .ref (b + j) :: rest)) := by
  obtain ⟨hc, hci, hn, hk, -⟩ := hf
  subst hkd
  have hap := va_apart (own := own) hts hin ty0 hty hnm hK hc
  have h0 := hR j hj
  unfold zcell at h0
  rw [if_pos hci] at h0
  obtain ⟨r, h1, cell, q1, q2, q3, q4⟩ := h0
  have hr : r = (C, T, n) := Option.some.inj (h1.symm.trans hc)
  subst hr
  obtain ⟨hSl, hfc, kC, hkC, hkind⟩ := hK.1 _ _ hc
  obtain ⟨cf, kf, fi, f, hi, hsl⟩ := hSl k hk
  have hlay := hts _ (hin _ (u_in_lay hk))
  unfold u_lay at hlay
  rw [if_neg (by rw [hfin]; decide)] at hlay
  have hst := (u_facts hfc hkC (u_lays hts hin hk) hi).1
  have h6 := u_store hfc hkC hkind hlay hi hd hnr hfit
  have fin : ∀ H' : Heap, H'[b + j]? = some (cell.setSlot f.slot v) → H'.size = H.size → (∀ q, q ≠ b + j → H'[q]? = H[q]?) → W p l e R s m args below meth c H' (locs ++ [⟨b + j, f.slot⟩]) cells slots Q (F0 m (pc + 3) ls rest) := by
    intro H' e1 e2 e3
    refine kk H' _ ?_ (hS0.put e2 e3 ⟨by omega, by omega⟩)
    intro i hi2
    by_cases hij : i = j
    · subst hij
      unfold zcell
      rw [if_pos hci]
      refine ⟨_, hc, ?_⟩
      rw [hsl] at e1
      refine t_OB.to (V := updV (vp_V (zfs w b i (M i))) k v) ⟨_, e1, q2, q3, t_set q4 hap hk v⟩ (fun x hx => ?_)
      have hx' : x < znf w (zkd w i) := by rw [hn]; exact hx
      rw [zfs_V hx']
      by_cases hxk : x = k
      · subst hxk
        simp only [updV, if_pos]
        rw [zup_s]
        exact hz
      · simp only [updV, if_neg hxk]
        rw [zfs_V hx', zup_n]
        exact fun q => hxk q.2
    · have := (hR i hi2).kept (H1 := H') (e3 _ (by show b + i ≠ b + j; omega))
      rw [zup_row M z hij]
      exact this
  rcases hlink with hl | ⟨host, hl⟩
  · exact W.putK hexec hb (f := f) ⟨hown, hl, ⟨_, _, _, hi⟩, hst⟩ (by rw [q2]; exact h6) q1 q3 (by rw [hsl]; exact k2_hasslot (q4 k hk)) rfl rfl hdg fin
  · exact va_WputK hexec hb (f := f) hown hl hi hst (by rw [q2]; exact h6) q1 q3 (by rw [hsl]; exact k2_hasslot (q4 k hk)) rfl rfl hdg fin
theorem z_puti (hexec : p.tables.exec = Jvm.exec) (hb : c.code = cc) {own C : String} {T : u_T} {n ci index j k : Nat} {Ts : List Cond} (hts : ∀ w ∈ Ts, w.before args s = true) (hin : ∀ w ∈ u_ws C T n, w ∈ Ts) (ty0 : Nat → FieldType) (hty : ∀ k, k < n → parseFieldDescriptor (T k).2.2.1 = some (ty0 k)) (hnm : ∀ a, a < n → ∀ b, b < n → a ≠ b → (T a).2.1 ≠ (T b).2.1) (hown : s.vm.findClass own = some m.cls) (hK : va_K D cl tys s) (hS : zS D dA cl w N b ms M0 M H) (hS0 : va_S (zA N b) H0 H locs)
    (hf : zFld cl w ci C T n k 0) (hj : j < N) (hkd : zkd w j = ci) (hlink : zLk s args own index (T k).1 (T k).2.1 (T k).2.2.1) (hfin : (T k).2.2.2 = false) {z : Int} (hd : parseFieldDescriptor (T k).2.2.1 = some .int) (hbd : (zbd w j k).1 ≤ z ∧ z ≤ (zbd w j k).2) (hms : ms j k = true) (hdg : decode cc pc = .ok (.putfield index, 3))
    (kk : ∀ (H1 : Heap) (locs1 : List Loc), zS D dA cl w N b ms M0 (zup M j k z) H1 → va_S (zA N b) H0 H1 locs1 → W p l e R s m args below meth c H1 locs1 cells slots Q (F0 m (pc + 3) ls rest)) : W p l e R s m args below meth c H locs cells slots Q (F0 m pc ls (.int (iI z) :: .ref (b + j) :: rest)) := by
  refine z_putv hexec hb hts hin ty0 hty hnm hown hK hS.1 hS0 hf hj hkd hlink hfin (z := z) hd rfl rfl ?_ hdg (fun H1 locs1 a1 a2 => kk H1 locs1 ⟨a1, zJ_up hS.2.1 hbd, zF_up hS.2.2 hms⟩ a2)
  unfold zfv
  rw [hkd, if_pos hf.2.2.2.2]
theorem z_putl (hexec : p.tables.exec = Jvm.exec) (hb : c.code = cc) {own C : String} {T : u_T} {n ci index j k : Nat} {Ts : List Cond} (hts : ∀ w ∈ Ts, w.before args s = true) (hin : ∀ w ∈ u_ws C T n, w ∈ Ts) (ty0 : Nat → FieldType) (hty : ∀ k, k < n → parseFieldDescriptor (T k).2.2.1 = some (ty0 k)) (hnm : ∀ a, a < n → ∀ b, b < n → a ≠ b → (T a).2.1 ≠ (T b).2.1) (hown : s.vm.findClass own = some m.cls) (hK : va_K D cl tys s) (hS : zS D dA cl w N b ms M0 M H) (hS0 : va_S (zA N b) H0 H locs)
    (hf : zFld cl w ci C T n k 1) (hj : j < N) (hkd : zkd w j = ci) (hlink : zLk s args own index (T k).1 (T k).2.1 (T k).2.2.1) (hfin : (T k).2.2.2 = false) {z : Int} (hd : parseFieldDescriptor (T k).2.2.1 = some .long) (hbd : (zbd w j k).1 ≤ z ∧ z ≤ (zbd w j k).2) (hms : ms j k = true) (hdg : decode cc pc = .ok (.putfield index, 3))
    (kk : ∀ (H1 : Heap) (locs1 : List Loc), zS D dA cl w N b ms M0 (zup M j k z) H1 → va_S (zA N b) H0 H1 locs1 → W p l e R s m args below meth c H1 locs1 cells slots Q (F0 m (pc + 3) ls rest)) : W p l e R s m args below meth c H locs cells slots Q (F0 m pc ls (.long (iL z) :: .ref (b + j) :: rest)) := by
  refine z_putv hexec hb hts hin ty0 hty hnm hown hK hS.1 hS0 hf hj hkd hlink hfin (z := z) hd rfl rfl ?_ hdg (fun H1 locs1 a1 a2 => kk H1 locs1 ⟨a1, zJ_up hS.2.1 hbd, zF_up hS.2.2 hms⟩ a2)
  unfold zfv
  rw [hkd, if_neg (by rw [hf.2.2.2.2]; decide), if_pos hf.2.2.2.2]
/-- the array cell of a plan -/
theorem z_arr {j : Nat} (hR : zR D dA cl w N b M H) (hj : j < N) (hkd : 100 ≤ zkd w j) : va_P D cl [(b + j, .inl (dA (zkd w j - 100), zar w b j (M j)))] H := by
  intro i q hq
  have hi : i = 0 := by
    have := (List.getElem?_eq_some_iff.mp hq).1
    simp at this
    exact this
  subst hi
  cases hq
  have h := hR j hj
  unfold zcell at h
  rw [if_neg (by omega)] at h
  exact h
theorem z_iald (hexec : p.tables.exec = Jvm.exec) (hb : c.code = cc) (hK : va_K D cl tys s) {t0 : Nat} (ht : tys[t0]? = some (dA 0, .int)) (hS : zS D dA cl w N b ms M0 M H) {j n : Nat} (hj : j < N) (hkd : zkd w j = 100) (hln : zln w j = n) {i : Int} (h0 : 0 ≤ i) (h1 : i < n) (hn : n < 2147483648) (hdg : decode cc pc = .ok (.iaload, 1))
    (kk : W p l e R s m args below meth c H locs cells slots Q (F0 m (pc + 1) ls (.int (iI (M j i.toNat)) :: rest))) : W p l e R s m args below meth c H locs cells slots Q (F0 m pc ls (.int (iI i) :: .ref (b + j) :: rest)) := by
  obtain ⟨v1, v2⟩ := iI_in h0 h1 hn
  have hP := z_arr hS.1 hj (by omega)
  rw [hkd] at hP
  unfold zar at hP
  rw [if_neg (by omega), if_pos (by omega), hln] at hP
  refine va_iald hexec hb hK hP 0 t0 rfl ht v1 hdg ?_
  rw [v2]
  exact kk
theorem z_lald (hexec : p.tables.exec = Jvm.exec) (hb : c.code = cc) (hK : va_K D cl tys s) {t0 : Nat} (ht : tys[t0]? = some (dA 1, .long)) (hS : zS D dA cl w N b ms M0 M H) {j n : Nat} (hj : j < N) (hkd : zkd w j = 101) (hln : zln w j = n) {i : Int} (h0 : 0 ≤ i) (h1 : i < n) (hn : n < 2147483648) (hdg : decode cc pc = .ok (.laload, 1))
    (kk : W p l e R s m args below meth c H locs cells slots Q (F0 m (pc + 1) ls (.long (iL (M j i.toNat)) :: rest))) : W p l e R s m args below meth c H locs cells slots Q (F0 m pc ls (.int (iI i) :: .ref (b + j) :: rest)) := by
  obtain ⟨v1, v2⟩ := iI_in h0 h1 hn
  have hP := z_arr hS.1 hj (by omega)
  rw [hkd] at hP
  unfold zar at hP
  rw [if_pos hkd, hln] at hP
  refine va_lald hexec hb hK hP 0 t0 rfl ht v1 hdg ?_
  rw [v2]
  exact kk
theorem z_aald (hexec : p.tables.exec = Jvm.exec) (hb : c.code = cc) (hK : va_K D cl tys s) {t0 r : Nat} {ty : FieldType} (hr : 4 ≤ r) (ht : tys[t0]? = some (dA r, ty)) (hrf : ty.isReference = true) (hS : zS D dA cl w N b ms M0 M H) {j n j2 : Nat} (hj : j < N) (hkd : zkd w j = 100 + r) (hln : zln w j = n) {i : Int} (h0 : 0 ≤ i) (h1 : i < n) (hn : n < 2147483648) (h2 : zrf w j i.toNat = j2) (hdg : decode cc pc = .ok (.aaload, 1))
    (kk : W p l e R s m args below meth c H locs cells slots Q (F0 m (pc + 1) ls (.ref (b + j2) :: rest))) : W p l e R s m args below meth c H locs cells slots Q (F0 m pc ls (.int (iI i) :: .ref (b + j) :: rest)) := by
  obtain ⟨v1, v2⟩ := iI_in h0 h1 hn
  have hP := z_arr hS.1 hj (by omega)
  rw [hkd] at hP
  unfold zar at hP
  rw [if_neg (by omega), if_neg (by omega), hln, show 100 + r - 100 = r by omega] at hP
  have hlt : (iI i).toNatClampNeg < n := by rw [v2]; omega
  refine W.aald (v := .ref (b + j2)) (ty := ty) hexec hb (hP 0 _ rfl) ((hK.2 t0 _ ht).1 n (fun j3 => va_rf (some (b + zrf w j j3)))) hrf (fun q => by cases q) (by show ¬ (iI i < 0 ∨ (arrV _ _ _).slots.size ≤ _); rw [arrV_size]; exact v1) ?_ rfl rfl hdg kk
  show (arrV _ _ _).slots[_]? = _
  rw [arrV_read _ _ hlt, v2]
  show some (va_rf (some (b + zrf w j i.toNat))) = _
  rw [h2]
  rfl
theorem z_iast (hexec : p.tables.exec = Jvm.exec) (hb : c.code = cc) (hK : va_K D cl tys s) {t0 : Nat} (ht : tys[t0]? = some (dA 0, .int)) (hS : zS D dA cl w N b ms M0 M H) (hS0 : va_S (zA N b) H0 H locs) {j n : Nat} (hj : j < N) (hkd : zkd w j = 100) (hln : zln w j = n) {i z : Int} (h0 : 0 ≤ i) (h1 : i < n) (hn : n < 2147483648) (hbd : (zbd w j i.toNat).1 ≤ z ∧ z ≤ (zbd w j i.toNat).2) (hms : ms j i.toNat = true) (hdg : decode cc pc = .ok (.iastore, 1))
    (kk : ∀ (H1 : Heap) (locs1 : List Loc), zS D dA cl w N b ms M0 (zup M j i.toNat z) H1 → va_S (zA N b) H0 H1 locs1 → W p l e R s m args below meth c H1 locs1 cells slots Q (F0 m (pc + 1) ls rest)) : W p l e R s m args below meth c H locs cells slots Q (F0 m pc ls (.int (iI z) :: .int (iI i) :: .ref (b + j) :: rest)) := by
  obtain ⟨v1, v2⟩ := iI_in h0 h1 hn
  have hP := z_arr hS.1 hj (by omega)
  rw [hkd] at hP
  unfold zar at hP
  rw [if_neg (by omega), if_pos (by omega), hln] at hP
  refine W.iast hexec hb (hP 0 _ rfl) ((hK.2 t0 _ ht).1 n (fun j3 => .int (iI (M j j3)))) (fun q => by cases q) (by show ¬ (iI i < 0 ∨ (arrV _ _ _).slots.size ≤ _); rw [arrV_size]; exact v1) rfl rfl hdg fun H1 e1 e2 e3 => ?_
  refine kk H1 _ ⟨?_, zJ_up hS.2.1 hbd, zF_up hS.2.2 hms⟩ (hS0.put e2 e3 ⟨by show b ≤ b + j; omega, by show b + j < b + N; omega⟩)
  intro i2 hi2
  by_cases hij : i2 = j
  · subst hij
    unfold zcell
    rw [if_neg (by omega)]
    show H1[b + i2]? = some (vp_cell _ _)
    rw [e1]
    unfold zar
    rw [if_neg (by omega), if_pos (by omega), hln, hkd, vp_cell_i, vp_cell_i, arrV_store, v2]
    congr 2
    funext q
    by_cases hq : q = i.toNat
    · subst hq
      simp [updV, zup_s]
    · simp only [updV, if_neg hq]
      rw [zup_n]
      exact fun x => hq x.2
  · have := (hS.1 i2 hi2).kept (H1 := H1) (e3 _ (by show b + i2 ≠ b + j; omega))
    rw [zup_row M z hij]
    exact this
theorem z_last (hexec : p.tables.exec = Jvm.exec) (hb : c.code = cc) (hK : va_K D cl tys s) {t0 : Nat} (ht : tys[t0]? = some (dA 1, .long)) (hS : zS D dA cl w N b ms M0 M H) (hS0 : va_S (zA N b) H0 H locs) {j n : Nat} (hj : j < N) (hkd : zkd w j = 101) (hln : zln w j = n) {i z : Int} (h0 : 0 ≤ i) (h1 : i < n) (hn : n < 2147483648) (hbd : (zbd w j i.toNat).1 ≤ z ∧ z ≤ (zbd w j i.toNat).2) (hms : ms j i.toNat = true) (hdg : decode cc pc = .ok (.lastore, 1))
    (kk : ∀ (H1 : Heap) (locs1 : List Loc), zS D dA cl w N b ms M0 (zup M j i.toNat z) H1 → va_S (zA N b) H0 H1 locs1 → W p l e R s m args below meth c H1 locs1 cells slots Q (F0 m (pc + 1) ls rest)) : W p l e R s m args below meth c H locs cells slots Q (F0 m pc ls (.long (iL z) :: .int (iI i) :: .ref (b + j) :: rest)) := by
  obtain ⟨v1, v2⟩ := iI_in h0 h1 hn
  have hP := z_arr hS.1 hj (by omega)
  rw [hkd] at hP
  unfold zar at hP
  rw [if_pos hkd, hln] at hP
  refine W.last hexec hb (hP 0 _ rfl) ((hK.2 t0 _ ht).1 n (fun j3 => .long (iL (M j j3)))) (fun q => by cases q) (by show ¬ (iI i < 0 ∨ (arrV _ _ _).slots.size ≤ _); rw [arrV_size]; exact v1) rfl rfl hdg fun H1 e1 e2 e3 => ?_
  refine kk H1 _ ⟨?_, zJ_up hS.2.1 hbd, zF_up hS.2.2 hms⟩ (hS0.put e2 e3 ⟨by show b ≤ b + j; omega, by show b + j < b + N; omega⟩)
  intro i2 hi2
  by_cases hij : i2 = j
  · subst hij
    unfold zcell
    rw [if_neg (by omega)]
    show H1[b + i2]? = some (vp_cell _ _)
    rw [e1]
    unfold zar
    rw [if_pos hkd, hln, hkd, vp_cell_l, vp_cell_l, arrV_store, v2]
    congr 2
    funext q
    by_cases hq : q = i.toNat
    · subst hq
      simp [updV, zup_s]
    · simp only [updV, if_neg hq]
      rw [zup_n]
      exact fun x => hq x.2
  · have := (hS.1 i2 hi2).kept (H1 := H1) (e3 _ (by show b + i2 ≠ b + j; omega))
    rw [zup_row M z hij]
    exact this
theorem z_alen (hexec : p.tables.exec = Jvm.exec) (hb : c.code = cc) (hK : va_K D cl tys s) {t0 r : Nat} {ty : FieldType} (ht : tys[t0]? = some (dA r, ty)) (hS : zS D dA cl w N b ms M0 M H) {j n : Nat} (hj : j < N) (hkd : zkd w j = 100 + r) (hln : zln w j = n) (hdg : decode cc pc = .ok (.arraylength, 1))
    (kk : W p l e R s m args below meth c H locs cells slots Q (F0 m (pc + 1) ls (.int (iI (n : Int)) :: rest))) : W p l e R s m args below meth c H locs cells slots Q (F0 m pc ls (.ref (b + j) :: rest)) := by
  have hP := z_arr hS.1 hj (by omega)
  have hz : (zar w b j (M j)).1 = n := by
    unfold zar
    split
    · exact hln
    · split
      · exact hln
      · exact hln
  rw [hkd, show 100 + r - 100 = r by omega] at hP
  exact va_alen hexec hb hK hP 0 t0 rfl ht (v := iI (n : Int)) (by rw [hz]; rfl) hdg kk
end ZW
section ZI
variable {p : Program} {l : Launch} {e : Env} {R : Room} {s : State} {m : MethodId} {args : Array Value} {below : List Frame} {meth : Method} {c : Code} {H : Heap} {locs : List Loc} {cells slots : Nat} {Q : State → Prop}
variable {cc : ByteArray} {pc : Nat} {ls : Array Slot} {rest : List Value}
theorem z_iadd (hexec : p.tables.exec = Jvm.exec) (hb : c.code = cc) {x y : Int} (hdg : decode cc pc = .ok (.iadd, 1))
    (k : W p l e R s m args below meth c H locs cells slots Q (F0 m (pc + 1) ls (.int (iI (x + y)) :: rest))) : W p l e R s m args below meth c H locs cells slots Q (F0 m pc ls (.int (iI y) :: .int (iI x) :: rest)) := lv_iadd hexec hb hdg (by rw [iI_add]; exact k)
theorem z_isub (hexec : p.tables.exec = Jvm.exec) (hb : c.code = cc) {x y : Int} (hdg : decode cc pc = .ok (.isub, 1))
    (k : W p l e R s m args below meth c H locs cells slots Q (F0 m (pc + 1) ls (.int (iI (x - y)) :: rest))) : W p l e R s m args below meth c H locs cells slots Q (F0 m pc ls (.int (iI y) :: .int (iI x) :: rest)) := lv_isub hexec hb hdg (by rw [iI_sub]; exact k)
theorem z_imul (hexec : p.tables.exec = Jvm.exec) (hb : c.code = cc) {x y : Int} (hdg : decode cc pc = .ok (.imul, 1))
    (k : W p l e R s m args below meth c H locs cells slots Q (F0 m (pc + 1) ls (.int (iI (x * y)) :: rest))) : W p l e R s m args below meth c H locs cells slots Q (F0 m pc ls (.int (iI y) :: .int (iI x) :: rest)) := lv_imul hexec hb hdg (by rw [iI_mul]; exact k)
theorem z_ladd (hexec : p.tables.exec = Jvm.exec) (hb : c.code = cc) {x y : Int} (hdg : decode cc pc = .ok (.ladd, 1))
    (k : W p l e R s m args below meth c H locs cells slots Q (F0 m (pc + 1) ls (.long (iL (x + y)) :: rest))) : W p l e R s m args below meth c H locs cells slots Q (F0 m pc ls (.long (iL y) :: .long (iL x) :: rest)) := lv_ladd hexec hb hdg (by rw [iL_add]; exact k)
theorem z_lsub (hexec : p.tables.exec = Jvm.exec) (hb : c.code = cc) {x y : Int} (hdg : decode cc pc = .ok (.lsub, 1))
    (k : W p l e R s m args below meth c H locs cells slots Q (F0 m (pc + 1) ls (.long (iL (x - y)) :: rest))) : W p l e R s m args below meth c H locs cells slots Q (F0 m pc ls (.long (iL y) :: .long (iL x) :: rest)) := lv_lsub hexec hb hdg (by rw [iL_sub]; exact k)
theorem z_lmul (hexec : p.tables.exec = Jvm.exec) (hb : c.code = cc) {x y : Int} (hdg : decode cc pc = .ok (.lmul, 1))
    (k : W p l e R s m args below meth c H locs cells slots Q (F0 m (pc + 1) ls (.long (iL (x * y)) :: rest))) : W p l e R s m args below meth c H locs cells slots Q (F0 m pc ls (.long (iL y) :: .long (iL x) :: rest)) := lv_lmul hexec hb hdg (by rw [iL_mul]; exact k)
theorem z_ineg (hexec : p.tables.exec = Jvm.exec) (hb : c.code = cc) {x : Int} (hdg : decode cc pc = .ok (.ineg, 1))
    (k : W p l e R s m args below meth c H locs cells slots Q (F0 m (pc + 1) ls (.int (iI (-x)) :: rest))) : W p l e R s m args below meth c H locs cells slots Q (F0 m pc ls (.int (iI x) :: rest)) := lv_ineg hexec hb hdg (by rw [iI_neg]; exact k)
theorem z_idiv (hexec : p.tables.exec = Jvm.exec) (hb : c.code = cc) {x y : Int} (hx : R32 x) (hy : R32 y) (h0 : y ≠ 0) (hdg : decode cc pc = .ok (.idiv, 1))
    (k : W p l e R s m args below meth c H locs cells slots Q (F0 m (pc + 1) ls (.int (iI (x.tdiv y)) :: rest))) : W p l e R s m args below meth c H locs cells slots Q (F0 m pc ls (.int (iI y) :: .int (iI x) :: rest)) := lv_idiv hexec hb hdg (fun q => h0 (iI_inj hy ⟨by omega, by omega⟩ q)) (by rw [iI_div hx hy]; exact k)
theorem z_irem (hexec : p.tables.exec = Jvm.exec) (hb : c.code = cc) {x y : Int} (hx : R32 x) (hy : R32 y) (h0 : y ≠ 0) (hdg : decode cc pc = .ok (.irem, 1))
    (k : W p l e R s m args below meth c H locs cells slots Q (F0 m (pc + 1) ls (.int (iI (x.tmod y)) :: rest))) : W p l e R s m args below meth c H locs cells slots Q (F0 m pc ls (.int (iI y) :: .int (iI x) :: rest)) := lv_irem hexec hb hdg (fun q => h0 (iI_inj hy ⟨by omega, by omega⟩ q)) (by rw [iI_rem hx hy]; exact k)
theorem z_ldiv (hexec : p.tables.exec = Jvm.exec) (hb : c.code = cc) {x y : Int} (hx : R64 x) (hy : R64 y) (h0 : y ≠ 0) (hdg : decode cc pc = .ok (.ldiv, 1))
    (k : W p l e R s m args below meth c H locs cells slots Q (F0 m (pc + 1) ls (.long (iL (x.tdiv y)) :: rest))) : W p l e R s m args below meth c H locs cells slots Q (F0 m pc ls (.long (iL y) :: .long (iL x) :: rest)) := lv_ldiv hexec hb hdg (fun q => h0 (iL_inj hy ⟨by omega, by omega⟩ q)) (by rw [iL_div hx hy]; exact k)
theorem z_lrem (hexec : p.tables.exec = Jvm.exec) (hb : c.code = cc) {x y : Int} (hx : R64 x) (hy : R64 y) (h0 : y ≠ 0) (hdg : decode cc pc = .ok (.lrem, 1))
    (k : W p l e R s m args below meth c H locs cells slots Q (F0 m (pc + 1) ls (.long (iL (x.tmod y)) :: rest))) : W p l e R s m args below meth c H locs cells slots Q (F0 m pc ls (.long (iL y) :: .long (iL x) :: rest)) := lv_lrem hexec hb hdg (fun q => h0 (iL_inj hy ⟨by omega, by omega⟩ q)) (by rw [iL_rem hx hy]; exact k)
theorem z_i2l (hexec : p.tables.exec = Jvm.exec) (hb : c.code = cc) {x : Int} (hx : R32 x) (hdg : decode cc pc = .ok (.i2l, 1))
    (k : W p l e R s m args below meth c H locs cells slots Q (F0 m (pc + 1) ls (.long (iL x) :: rest))) : W p l e R s m args below meth c H locs cells slots Q (F0 m pc ls (.int (iI x) :: rest)) := lv_i2l hexec hb hdg (iI_long hx) k
theorem z_l2i (hexec : p.tables.exec = Jvm.exec) (hb : c.code = cc) {x : Int} (hdg : decode cc pc = .ok (.l2i, 1))
    (k : W p l e R s m args below meth c H locs cells slots Q (F0 m (pc + 1) ls (.int (iI x) :: rest))) : W p l e R s m args below meth c H locs cells slots Q (F0 m pc ls (.long (iL x) :: rest)) := lv_l2i hexec hb hdg (iL_int x) k
theorem z_iand (hexec : p.tables.exec = Jvm.exec) (hb : c.code = cc) {x y : Int} (hdg : decode cc pc = .ok (.iand, 1))
    (k : ∀ z : Int, R32 z → iI z = iI x &&& iI y → W p l e R s m args below meth c H locs cells slots Q (F0 m (pc + 1) ls (.int (iI z) :: rest))) : W p l e R s m args below meth c H locs cells slots Q (F0 m pc ls (.int (iI y) :: .int (iI x) :: rest)) := lv_iand hexec hb hdg (by obtain ⟨z, hz, e⟩ := iI_of (iI x &&& iI y); rw [e]; exact k z hz e.symm)
theorem z_ior (hexec : p.tables.exec = Jvm.exec) (hb : c.code = cc) {x y : Int} (hdg : decode cc pc = .ok (.ior, 1))
    (k : ∀ z : Int, R32 z → iI z = iI x ||| iI y → W p l e R s m args below meth c H locs cells slots Q (F0 m (pc + 1) ls (.int (iI z) :: rest))) : W p l e R s m args below meth c H locs cells slots Q (F0 m pc ls (.int (iI y) :: .int (iI x) :: rest)) := lv_ior hexec hb hdg (by obtain ⟨z, hz, e⟩ := iI_of (iI x ||| iI y); rw [e]; exact k z hz e.symm)
theorem z_ixor (hexec : p.tables.exec = Jvm.exec) (hb : c.code = cc) {x y : Int} (hdg : decode cc pc = .ok (.ixor, 1))
    (k : ∀ z : Int, R32 z → iI z = iI x ^^^ iI y → W p l e R s m args below meth c H locs cells slots Q (F0 m (pc + 1) ls (.int (iI z) :: rest))) : W p l e R s m args below meth c H locs cells slots Q (F0 m pc ls (.int (iI y) :: .int (iI x) :: rest)) := lv_ixor hexec hb hdg (by obtain ⟨z, hz, e⟩ := iI_of (iI x ^^^ iI y); rw [e]; exact k z hz e.symm)
theorem z_ishl (hexec : p.tables.exec = Jvm.exec) (hb : c.code = cc) {x y : Int} (hdg : decode cc pc = .ok (.ishl, 1))
    (k : ∀ z : Int, R32 z → iI z = iI x <<< (iI y &&& 31) → W p l e R s m args below meth c H locs cells slots Q (F0 m (pc + 1) ls (.int (iI z) :: rest))) : W p l e R s m args below meth c H locs cells slots Q (F0 m pc ls (.int (iI y) :: .int (iI x) :: rest)) := lv_ishl hexec hb hdg (by obtain ⟨z, hz, e⟩ := iI_of (iI x <<< (iI y &&& 31)); rw [e]; exact k z hz e.symm)
theorem z_ishr (hexec : p.tables.exec = Jvm.exec) (hb : c.code = cc) {x y : Int} (hdg : decode cc pc = .ok (.ishr, 1))
    (k : ∀ z : Int, R32 z → iI z = iI x >>> (iI y &&& 31) → W p l e R s m args below meth c H locs cells slots Q (F0 m (pc + 1) ls (.int (iI z) :: rest))) : W p l e R s m args below meth c H locs cells slots Q (F0 m pc ls (.int (iI y) :: .int (iI x) :: rest)) := lv_ishr hexec hb hdg (by obtain ⟨z, hz, e⟩ := iI_of (iI x >>> (iI y &&& 31)); rw [e]; exact k z hz e.symm)
theorem z_iushr (hexec : p.tables.exec = Jvm.exec) (hb : c.code = cc) {x y : Int} (hdg : decode cc pc = .ok (.iushr, 1))
    (k : ∀ z : Int, R32 z → iI z = ((iI x).toUInt32 >>> ((iI y).toUInt32 &&& Int32.toUInt32 31)).toInt32 → W p l e R s m args below meth c H locs cells slots Q (F0 m (pc + 1) ls (.int (iI z) :: rest))) : W p l e R s m args below meth c H locs cells slots Q (F0 m pc ls (.int (iI y) :: .int (iI x) :: rest)) := by
  obtain ⟨z, hz, e⟩ := iI_of (((iI x).toUInt32 >>> ((iI y).toUInt32 &&& Int32.toUInt32 31)).toInt32)
  exact lv_iushr hexec hb hdg e (k z hz e.symm)
theorem z_land (hexec : p.tables.exec = Jvm.exec) (hb : c.code = cc) {x y : Int} (hdg : decode cc pc = .ok (.land, 1))
    (k : ∀ z : Int, R64 z → iL z = iL x &&& iL y → W p l e R s m args below meth c H locs cells slots Q (F0 m (pc + 1) ls (.long (iL z) :: rest))) : W p l e R s m args below meth c H locs cells slots Q (F0 m pc ls (.long (iL y) :: .long (iL x) :: rest)) := lv_land hexec hb hdg (by obtain ⟨z, hz, e⟩ := iL_of (iL x &&& iL y); rw [e]; exact k z hz e.symm)
theorem z_lor (hexec : p.tables.exec = Jvm.exec) (hb : c.code = cc) {x y : Int} (hdg : decode cc pc = .ok (.lor, 1))
    (k : ∀ z : Int, R64 z → iL z = iL x ||| iL y → W p l e R s m args below meth c H locs cells slots Q (F0 m (pc + 1) ls (.long (iL z) :: rest))) : W p l e R s m args below meth c H locs cells slots Q (F0 m pc ls (.long (iL y) :: .long (iL x) :: rest)) := lv_lor hexec hb hdg (by obtain ⟨z, hz, e⟩ := iL_of (iL x ||| iL y); rw [e]; exact k z hz e.symm)
theorem z_lxor (hexec : p.tables.exec = Jvm.exec) (hb : c.code = cc) {x y : Int} (hdg : decode cc pc = .ok (.lxor, 1))
    (k : ∀ z : Int, R64 z → iL z = iL x ^^^ iL y → W p l e R s m args below meth c H locs cells slots Q (F0 m (pc + 1) ls (.long (iL z) :: rest))) : W p l e R s m args below meth c H locs cells slots Q (F0 m pc ls (.long (iL y) :: .long (iL x) :: rest)) := lv_lxor hexec hb hdg (by obtain ⟨z, hz, e⟩ := iL_of (iL x ^^^ iL y); rw [e]; exact k z hz e.symm)
theorem z_lshl (hexec : p.tables.exec = Jvm.exec) (hb : c.code = cc) {x y : Int} (hdg : decode cc pc = .ok (.lshl, 1))
    (k : ∀ z : Int, R64 z → iL z = iL x <<< ((iI y).toInt64 &&& 63) → W p l e R s m args below meth c H locs cells slots Q (F0 m (pc + 1) ls (.long (iL z) :: rest))) : W p l e R s m args below meth c H locs cells slots Q (F0 m pc ls (.int (iI y) :: .long (iL x) :: rest)) := by
  obtain ⟨z, hz, e⟩ := iL_of (iL x <<< ((iI y).toInt64 &&& 63))
  exact lv_lshl hexec hb hdg e (k z hz e.symm)
theorem z_lshr (hexec : p.tables.exec = Jvm.exec) (hb : c.code = cc) {x y : Int} (hdg : decode cc pc = .ok (.lshr, 1))
    (k : ∀ z : Int, R64 z → iL z = iL x >>> ((iI y).toInt64 &&& 63) → W p l e R s m args below meth c H locs cells slots Q (F0 m (pc + 1) ls (.long (iL z) :: rest))) : W p l e R s m args below meth c H locs cells slots Q (F0 m pc ls (.int (iI y) :: .long (iL x) :: rest)) := by
  obtain ⟨z, hz, e⟩ := iL_of (iL x >>> ((iI y).toInt64 &&& 63))
  exact lv_lshr hexec hb hdg e (k z hz e.symm)
theorem z_lushr (hexec : p.tables.exec = Jvm.exec) (hb : c.code = cc) {x y : Int} (hdg : decode cc pc = .ok (.lushr, 1))
    (k : ∀ z : Int, R64 z → iL z = ((iL x).toUInt64 >>> ((iI y).toInt64.toUInt64 &&& Int64.toUInt64 63)).toInt64 → W p l e R s m args below meth c H locs cells slots Q (F0 m (pc + 1) ls (.long (iL z) :: rest))) : W p l e R s m args below meth c H locs cells slots Q (F0 m pc ls (.int (iI y) :: .long (iL x) :: rest)) := by
  obtain ⟨z, hz, e⟩ := iL_of (((iL x).toUInt64 >>> ((iI y).toInt64.toUInt64 &&& Int64.toUInt64 63)).toInt64)
  exact lv_lushr hexec hb hdg e (k z hz e.symm)
theorem z_iconst (hexec : p.tables.exec = Jvm.exec) (hb : c.code = cc) {n : Int} (hdg : decode cc pc = .ok (.iconst n, 1))
    (k : W p l e R s m args below meth c H locs cells slots Q (F0 m (pc + 1) ls (.int (iI n) :: rest))) : W p l e R s m args below meth c H locs cells slots Q (F0 m pc ls (rest)) := lv_iconst hexec hb hdg rfl k
theorem z_bipush (hexec : p.tables.exec = Jvm.exec) (hb : c.code = cc) {n : Int} (hn : (Int8.ofInt n).toInt32 = iI n) (hdg : decode cc pc = .ok (.bipush n, 2))
    (k : W p l e R s m args below meth c H locs cells slots Q (F0 m (pc + 2) ls (.int (iI n) :: rest))) : W p l e R s m args below meth c H locs cells slots Q (F0 m pc ls (rest)) := lv_bipush hexec hb hdg hn k
theorem z_sipush (hexec : p.tables.exec = Jvm.exec) (hb : c.code = cc) {n : Int} (hn : (Int16.ofInt n).toInt32 = iI n) (hdg : decode cc pc = .ok (.sipush n, 3))
    (k : W p l e R s m args below meth c H locs cells slots Q (F0 m (pc + 3) ls (.int (iI n) :: rest))) : W p l e R s m args below meth c H locs cells slots Q (F0 m pc ls (rest)) := lv_sipush hexec hb hdg hn k
theorem z_lconst0 (hexec : p.tables.exec = Jvm.exec) (hb : c.code = cc) (hdg : decode cc pc = .ok (.lconst 0, 1))
    (k : W p l e R s m args below meth c H locs cells slots Q (F0 m (pc + 1) ls (.long (iL 0) :: rest))) : W p l e R s m args below meth c H locs cells slots Q (F0 m pc ls (rest)) := lv_lconst hexec hb hdg rfl k
theorem z_lconst1 (hexec : p.tables.exec = Jvm.exec) (hb : c.code = cc) (hdg : decode cc pc = .ok (.lconst 1, 1))
    (k : W p l e R s m args below meth c H locs cells slots Q (F0 m (pc + 1) ls (.long (iL 1) :: rest))) : W p l e R s m args below meth c H locs cells slots Q (F0 m pc ls (rest)) := lv_lconst hexec hb hdg rfl k
theorem z_ldc (hexec : p.tables.exec = Jvm.exec) (hb : c.code = cc) {own : String} {index : Nat} {n : Int} {v : Int32} (hown : s.vm.findClass own = some m.cls) (hc : (Jvm.Cond.constant own index v).before args s = true) (hv : v = iI n) (hdg : decode cc pc = .ok (.ldc index, 2))
    (k : W p l e R s m args below meth c H locs cells slots Q (F0 m (pc + 2) ls (.int (iI n) :: rest))) : W p l e R s m args below meth c H locs cells slots Q (F0 m pc ls (rest)) := lv_ldc hexec hb hown hc hdg (by rw [hv]; exact k)
theorem z_ldc2 (hexec : p.tables.exec = Jvm.exec) (hb : c.code = cc) {own : String} {index : Nat} {n : Int} {v : Int64} (hown : s.vm.findClass own = some m.cls) (hc : (Jvm.Cond.constantLong own index v).before args s = true) (hv : v = iL n) (hdg : decode cc pc = .ok (.ldc2_w index, 3))
    (k : W p l e R s m args below meth c H locs cells slots Q (F0 m (pc + 3) ls (.long (iL n) :: rest))) : W p l e R s m args below meth c H locs cells slots Q (F0 m pc ls (rest)) := lv_ldc2 hexec hb hown hc hdg (by rw [hv]; exact k)
theorem z_icmp_eq (hexec : p.tables.exec = Jvm.exec) (hb : c.code = cc) {x y : Int} {off : Int} {tgt : Nat} (hx : R32 x) (hy : R32 y) (hdg : decode cc pc = .ok (.if_icmp .eq off, 3)) (ht : (pc : Int) + off = (tgt : Int))
    (kt : x = y → W p l e R s m args below meth c H locs cells slots Q (F0 m tgt ls rest)) (kf : x ≠ y → W p l e R s m args below meth c H locs cells slots Q (F0 m (pc + 3) ls rest)) : W p l e R s m args below meth c H locs cells slots Q (F0 m pc ls (.int (iI y) :: .int (iI x) :: rest)) := lv_icmp_eq hexec hb hdg ht (fun q => kt ((iI_eq hx hy).mp q)) (fun q => kf (fun z => q ((iI_eq hx hy).mpr z)))
theorem z_icmp_ne (hexec : p.tables.exec = Jvm.exec) (hb : c.code = cc) {x y : Int} {off : Int} {tgt : Nat} (hx : R32 x) (hy : R32 y) (hdg : decode cc pc = .ok (.if_icmp .ne off, 3)) (ht : (pc : Int) + off = (tgt : Int))
    (kt : x ≠ y → W p l e R s m args below meth c H locs cells slots Q (F0 m tgt ls rest)) (kf : x = y → W p l e R s m args below meth c H locs cells slots Q (F0 m (pc + 3) ls rest)) : W p l e R s m args below meth c H locs cells slots Q (F0 m pc ls (.int (iI y) :: .int (iI x) :: rest)) := lv_icmp_ne hexec hb hdg ht (fun q => kt (fun z => q ((iI_eq hx hy).mpr z))) (fun q => kf ((iI_eq hx hy).mp q))
theorem z_icmp_lt (hexec : p.tables.exec = Jvm.exec) (hb : c.code = cc) {x y : Int} {off : Int} {tgt : Nat} (hx : R32 x) (hy : R32 y) (hdg : decode cc pc = .ok (.if_icmp .lt off, 3)) (ht : (pc : Int) + off = (tgt : Int))
    (kt : x < y → W p l e R s m args below meth c H locs cells slots Q (F0 m tgt ls rest)) (kf : y ≤ x → W p l e R s m args below meth c H locs cells slots Q (F0 m (pc + 3) ls rest)) : W p l e R s m args below meth c H locs cells slots Q (F0 m pc ls (.int (iI y) :: .int (iI x) :: rest)) := lv_icmp_lt hexec hb hdg ht (fun q => kt ((iI_lt hx hy).mp q)) (fun q => kf (Int.not_lt.mp (fun z => q ((iI_lt hx hy).mpr z))))
theorem z_icmp_ge (hexec : p.tables.exec = Jvm.exec) (hb : c.code = cc) {x y : Int} {off : Int} {tgt : Nat} (hx : R32 x) (hy : R32 y) (hdg : decode cc pc = .ok (.if_icmp .ge off, 3)) (ht : (pc : Int) + off = (tgt : Int))
    (kt : y ≤ x → W p l e R s m args below meth c H locs cells slots Q (F0 m tgt ls rest)) (kf : x < y → W p l e R s m args below meth c H locs cells slots Q (F0 m (pc + 3) ls rest)) : W p l e R s m args below meth c H locs cells slots Q (F0 m pc ls (.int (iI y) :: .int (iI x) :: rest)) := lv_icmp_ge hexec hb hdg ht (fun q => kt ((iI_le hy hx).mp q)) (fun q => kf (Int.not_le.mp (fun z => q ((iI_le hy hx).mpr z))))
theorem z_icmp_gt (hexec : p.tables.exec = Jvm.exec) (hb : c.code = cc) {x y : Int} {off : Int} {tgt : Nat} (hx : R32 x) (hy : R32 y) (hdg : decode cc pc = .ok (.if_icmp .gt off, 3)) (ht : (pc : Int) + off = (tgt : Int))
    (kt : y < x → W p l e R s m args below meth c H locs cells slots Q (F0 m tgt ls rest)) (kf : x ≤ y → W p l e R s m args below meth c H locs cells slots Q (F0 m (pc + 3) ls rest)) : W p l e R s m args below meth c H locs cells slots Q (F0 m pc ls (.int (iI y) :: .int (iI x) :: rest)) := lv_icmp_gt hexec hb hdg ht (fun q => kt ((iI_lt hy hx).mp q)) (fun q => kf (Int.not_lt.mp (fun z => q ((iI_lt hy hx).mpr z))))
theorem z_icmp_le (hexec : p.tables.exec = Jvm.exec) (hb : c.code = cc) {x y : Int} {off : Int} {tgt : Nat} (hx : R32 x) (hy : R32 y) (hdg : decode cc pc = .ok (.if_icmp .le off, 3)) (ht : (pc : Int) + off = (tgt : Int))
    (kt : x ≤ y → W p l e R s m args below meth c H locs cells slots Q (F0 m tgt ls rest)) (kf : y < x → W p l e R s m args below meth c H locs cells slots Q (F0 m (pc + 3) ls rest)) : W p l e R s m args below meth c H locs cells slots Q (F0 m pc ls (.int (iI y) :: .int (iI x) :: rest)) := lv_icmp_le hexec hb hdg ht (fun q => kt ((iI_le hx hy).mp q)) (fun q => kf (Int.not_le.mp (fun z => q ((iI_le hx hy).mpr z))))
theorem z_if_eq (hexec : p.tables.exec = Jvm.exec) (hb : c.code = cc) {x : Int} {off : Int} {tgt : Nat} (hx : R32 x) (hdg : decode cc pc = .ok (.ifCond .eq off, 3)) (ht : (pc : Int) + off = (tgt : Int))
    (kt : x = 0 → W p l e R s m args below meth c H locs cells slots Q (F0 m tgt ls rest)) (kf : x ≠ 0 → W p l e R s m args below meth c H locs cells slots Q (F0 m (pc + 3) ls rest)) : W p l e R s m args below meth c H locs cells slots Q (F0 m pc ls (.int (iI x) :: rest)) := by
  have h0 : R32 0 := ⟨by omega, by omega⟩
  exact lv_if_eq hexec hb hdg ht (fun q => kt ((iI_eq hx h0).mp q)) (fun q => kf (fun z => q ((iI_eq hx h0).mpr z)))
theorem z_if_ne (hexec : p.tables.exec = Jvm.exec) (hb : c.code = cc) {x : Int} {off : Int} {tgt : Nat} (hx : R32 x) (hdg : decode cc pc = .ok (.ifCond .ne off, 3)) (ht : (pc : Int) + off = (tgt : Int))
    (kt : x ≠ 0 → W p l e R s m args below meth c H locs cells slots Q (F0 m tgt ls rest)) (kf : x = 0 → W p l e R s m args below meth c H locs cells slots Q (F0 m (pc + 3) ls rest)) : W p l e R s m args below meth c H locs cells slots Q (F0 m pc ls (.int (iI x) :: rest)) := by
  have h0 : R32 0 := ⟨by omega, by omega⟩
  exact lv_if_ne hexec hb hdg ht (fun q => kt (fun z => q ((iI_eq hx h0).mpr z))) (fun q => kf ((iI_eq hx h0).mp q))
theorem z_if_lt (hexec : p.tables.exec = Jvm.exec) (hb : c.code = cc) {x : Int} {off : Int} {tgt : Nat} (hx : R32 x) (hdg : decode cc pc = .ok (.ifCond .lt off, 3)) (ht : (pc : Int) + off = (tgt : Int))
    (kt : x < 0 → W p l e R s m args below meth c H locs cells slots Q (F0 m tgt ls rest)) (kf : 0 ≤ x → W p l e R s m args below meth c H locs cells slots Q (F0 m (pc + 3) ls rest)) : W p l e R s m args below meth c H locs cells slots Q (F0 m pc ls (.int (iI x) :: rest)) := by
  have h0 : R32 0 := ⟨by omega, by omega⟩
  exact lv_if_lt hexec hb hdg ht (fun q => kt ((iI_lt hx h0).mp q)) (fun q => kf (Int.not_lt.mp (fun z => q ((iI_lt hx h0).mpr z))))
theorem z_if_ge (hexec : p.tables.exec = Jvm.exec) (hb : c.code = cc) {x : Int} {off : Int} {tgt : Nat} (hx : R32 x) (hdg : decode cc pc = .ok (.ifCond .ge off, 3)) (ht : (pc : Int) + off = (tgt : Int))
    (kt : 0 ≤ x → W p l e R s m args below meth c H locs cells slots Q (F0 m tgt ls rest)) (kf : x < 0 → W p l e R s m args below meth c H locs cells slots Q (F0 m (pc + 3) ls rest)) : W p l e R s m args below meth c H locs cells slots Q (F0 m pc ls (.int (iI x) :: rest)) := by
  have h0 : R32 0 := ⟨by omega, by omega⟩
  exact lv_if_ge hexec hb hdg ht (fun q => kt ((iI_le h0 hx).mp q)) (fun q => kf (Int.not_le.mp (fun z => q ((iI_le h0 hx).mpr z))))
theorem z_if_gt (hexec : p.tables.exec = Jvm.exec) (hb : c.code = cc) {x : Int} {off : Int} {tgt : Nat} (hx : R32 x) (hdg : decode cc pc = .ok (.ifCond .gt off, 3)) (ht : (pc : Int) + off = (tgt : Int))
    (kt : 0 < x → W p l e R s m args below meth c H locs cells slots Q (F0 m tgt ls rest)) (kf : x ≤ 0 → W p l e R s m args below meth c H locs cells slots Q (F0 m (pc + 3) ls rest)) : W p l e R s m args below meth c H locs cells slots Q (F0 m pc ls (.int (iI x) :: rest)) := by
  have h0 : R32 0 := ⟨by omega, by omega⟩
  exact lv_if_gt hexec hb hdg ht (fun q => kt ((iI_lt h0 hx).mp q)) (fun q => kf (Int.not_lt.mp (fun z => q ((iI_lt h0 hx).mpr z))))
theorem z_if_le (hexec : p.tables.exec = Jvm.exec) (hb : c.code = cc) {x : Int} {off : Int} {tgt : Nat} (hx : R32 x) (hdg : decode cc pc = .ok (.ifCond .le off, 3)) (ht : (pc : Int) + off = (tgt : Int))
    (kt : x ≤ 0 → W p l e R s m args below meth c H locs cells slots Q (F0 m tgt ls rest)) (kf : 0 < x → W p l e R s m args below meth c H locs cells slots Q (F0 m (pc + 3) ls rest)) : W p l e R s m args below meth c H locs cells slots Q (F0 m pc ls (.int (iI x) :: rest)) := by
  have h0 : R32 0 := ⟨by omega, by omega⟩
  exact lv_if_le hexec hb hdg ht (fun q => kt ((iI_le hx h0).mp q)) (fun q => kf (Int.not_le.mp (fun z => q ((iI_le hx h0).mpr z))))
theorem z_lcmp_lt (hexec : p.tables.exec = Jvm.exec) (hb : c.code = cc) {x y : Int} {off : Int} {tgt : Nat} (hx : R64 x) (hy : R64 y) (hd1 : decode cc pc = .ok (.lcmp, 1)) (hdg : decode cc (pc + 1) = .ok (.ifCond .lt off, 3)) (ht : ((pc + 1 : Nat) : Int) + off = (tgt : Int))
    (kt : x < y → W p l e R s m args below meth c H locs cells slots Q (F0 m tgt ls rest)) (kf : y ≤ x → W p l e R s m args below meth c H locs cells slots Q (F0 m (pc + 1 + 3) ls rest)) : W p l e R s m args below meth c H locs cells slots Q (F0 m pc ls (.long (iL y) :: .long (iL x) :: rest)) := W.lcmp hexec hb hd1 (lv_if_lt hexec hb hdg ht (fun q => kt ((iL_lt hx hy).mp ((lg_cmp_lt _ _).mp q))) (fun q => kf (Int.not_lt.mp (fun z => q ((lg_cmp_lt _ _).mpr ((iL_lt hx hy).mpr z))))))
theorem z_lcmp_ge (hexec : p.tables.exec = Jvm.exec) (hb : c.code = cc) {x y : Int} {off : Int} {tgt : Nat} (hx : R64 x) (hy : R64 y) (hd1 : decode cc pc = .ok (.lcmp, 1)) (hdg : decode cc (pc + 1) = .ok (.ifCond .ge off, 3)) (ht : ((pc + 1 : Nat) : Int) + off = (tgt : Int))
    (kt : y ≤ x → W p l e R s m args below meth c H locs cells slots Q (F0 m tgt ls rest)) (kf : x < y → W p l e R s m args below meth c H locs cells slots Q (F0 m (pc + 1 + 3) ls rest)) : W p l e R s m args below meth c H locs cells slots Q (F0 m pc ls (.long (iL y) :: .long (iL x) :: rest)) := W.lcmp hexec hb hd1 (lv_if_ge hexec hb hdg ht (fun q => kt ((iL_le hy hx).mp ((lg_cmp_ge _ _).mp q))) (fun q => kf (Int.not_le.mp (fun z => q ((lg_cmp_ge _ _).mpr ((iL_le hy hx).mpr z))))))
theorem z_lcmp_gt (hexec : p.tables.exec = Jvm.exec) (hb : c.code = cc) {x y : Int} {off : Int} {tgt : Nat} (hx : R64 x) (hy : R64 y) (hd1 : decode cc pc = .ok (.lcmp, 1)) (hdg : decode cc (pc + 1) = .ok (.ifCond .gt off, 3)) (ht : ((pc + 1 : Nat) : Int) + off = (tgt : Int))
    (kt : y < x → W p l e R s m args below meth c H locs cells slots Q (F0 m tgt ls rest)) (kf : x ≤ y → W p l e R s m args below meth c H locs cells slots Q (F0 m (pc + 1 + 3) ls rest)) : W p l e R s m args below meth c H locs cells slots Q (F0 m pc ls (.long (iL y) :: .long (iL x) :: rest)) := W.lcmp hexec hb hd1 (lv_if_gt hexec hb hdg ht (fun q => kt ((iL_lt hy hx).mp ((lg_cmp_gt _ _).mp q))) (fun q => kf (Int.not_lt.mp (fun z => q ((lg_cmp_gt _ _).mpr ((iL_lt hy hx).mpr z))))))
theorem z_lcmp_le (hexec : p.tables.exec = Jvm.exec) (hb : c.code = cc) {x y : Int} {off : Int} {tgt : Nat} (hx : R64 x) (hy : R64 y) (hd1 : decode cc pc = .ok (.lcmp, 1)) (hdg : decode cc (pc + 1) = .ok (.ifCond .le off, 3)) (ht : ((pc + 1 : Nat) : Int) + off = (tgt : Int))
    (kt : x ≤ y → W p l e R s m args below meth c H locs cells slots Q (F0 m tgt ls rest)) (kf : y < x → W p l e R s m args below meth c H locs cells slots Q (F0 m (pc + 1 + 3) ls rest)) : W p l e R s m args below meth c H locs cells slots Q (F0 m pc ls (.long (iL y) :: .long (iL x) :: rest)) := W.lcmp hexec hb hd1 (lv_if_le hexec hb hdg ht (fun q => kt ((iL_le hx hy).mp ((lg_cmp_le _ _).mp q))) (fun q => kf (Int.not_le.mp (fun z => q ((lg_cmp_le _ _).mpr ((iL_le hx hy).mpr z))))))
theorem z_lcmp_eq (hexec : p.tables.exec = Jvm.exec) (hb : c.code = cc) {x y : Int} {off : Int} {tgt : Nat} (hx : R64 x) (hy : R64 y) (hd1 : decode cc pc = .ok (.lcmp, 1)) (hdg : decode cc (pc + 1) = .ok (.ifCond .eq off, 3)) (ht : ((pc + 1 : Nat) : Int) + off = (tgt : Int))
    (kt : x = y → W p l e R s m args below meth c H locs cells slots Q (F0 m tgt ls rest)) (kf : x ≠ y → W p l e R s m args below meth c H locs cells slots Q (F0 m (pc + 1 + 3) ls rest)) : W p l e R s m args below meth c H locs cells slots Q (F0 m pc ls (.long (iL y) :: .long (iL x) :: rest)) := W.lcmp hexec hb hd1 (lv_if_eq hexec hb hdg ht (fun q => kt ((iL_eq hx hy).mp ((lg_cmp_eq _ _).mp q))) (fun q => kf (fun z => q ((lg_cmp_eq _ _).mpr ((iL_eq hx hy).mpr z)))))
theorem z_lcmp_ne (hexec : p.tables.exec = Jvm.exec) (hb : c.code = cc) {x y : Int} {off : Int} {tgt : Nat} (hx : R64 x) (hy : R64 y) (hd1 : decode cc pc = .ok (.lcmp, 1)) (hdg : decode cc (pc + 1) = .ok (.ifCond .ne off, 3)) (ht : ((pc + 1 : Nat) : Int) + off = (tgt : Int))
    (kt : x ≠ y → W p l e R s m args below meth c H locs cells slots Q (F0 m tgt ls rest)) (kf : x = y → W p l e R s m args below meth c H locs cells slots Q (F0 m (pc + 1 + 3) ls rest)) : W p l e R s m args below meth c H locs cells slots Q (F0 m pc ls (.long (iL y) :: .long (iL x) :: rest)) := W.lcmp hexec hb hd1 (lv_if_ne hexec hb hdg ht (fun q => kt (fun z => q ((lg_cmp_eq _ _).mpr ((iL_eq hx hy).mpr z)))) (fun q => kf ((iL_eq hx hy).mp ((lg_cmp_eq _ _).mp q))))
theorem z_iinc (hexec : p.tables.exec = Jvm.exec) (hb : c.code = cc) {i nL k : Nat} {n x : Int} {lv lv' : List (Nat × Value)} (hdg : decode cc pc = .ok (.iinc i n, 3)) (h : lv_has ls nL lv) (hk : lv[k]? = some (i, .int (iI x))) (hn : i < nL) (hl : (i, Value.int (iI (x + n))) :: lv.filter (fun q => !(q.1 == i) && !(q.1 + 1 == i && q.2.category == 2)) = lv')
    (kk : ∀ ls' : Array Slot, lv_has ls' nL lv' → W p l e R s m args below meth c H locs cells slots Q (F0 m (pc + 3) ls' rest)) : W p l e R s m args below meth c H locs cells slots Q (F0 m pc ls rest) := lv_iinc (v := iI (x + n)) hexec hb hdg h hk (iI_add x n) hn hl kk
/-- the number on top, written otherwise -/
theorem z_top {x y : Int} (h : x = y) (k : W p l e R s m args below meth c H locs cells slots Q (F0 m pc ls (.int (iI y) :: rest))) : W p l e R s m args below meth c H locs cells slots Q (F0 m pc ls (.int (iI x) :: rest)) := by rw [h]; exact k
theorem z_topl {x y : Int} (h : x = y) (k : W p l e R s m args below meth c H locs cells slots Q (F0 m pc ls (.long (iL y) :: rest))) : W p l e R s m args below meth c H locs cells slots Q (F0 m pc ls (.long (iL x) :: rest)) := by rw [h]; exact k
end ZI
/-! CALLS over a world -/
/-- the links of nest mates -/
def zNst (U : State) : Prop := ∀ q ∈ z_nest, va_Nw (.methodLinkNest q.1 q.2.1 q.2.2.1 q.2.2.2) U
theorem zNst.warm {s U : State} (hW : s.WarmedH U.vm) (h : zNst s) : zNst U := fun q hq => va_Nw.warmM hW (h q hq)
theorem zNst.same {u U : State} (e : u.vm = U.vm) (h : zNst u) : zNst U := fun q hq => va_Nw.same rfl e (h q hq)
def zKK (D : va_G) (cl : List vw_C) (tys : List (ClassId × FieldType)) (U : State) : Prop := va_K D cl tys U ∧ zNst U
def zP (D : va_G) (dA : Nat → ClassId) (cl : List vw_C) (tys : List (ClassId × FieldType)) (w : zW) (N b : Nat) (M : zM) : State → Prop := fun U => zR D dA cl w N b M U.heap ∧ zJ w M ∧ zKK D cl tys U
def zB (D : va_G) (dA : Nat → ClassId) (cl : List vw_C) (w : zW) (N b : Nat) : zM → State → Prop := fun u t => zR D dA cl w N b u t.heap
def zQi (w : zW) (ms : Nat → Nat → Bool) (M : zM) (post : Int → zM → Prop) : Int32 → zM → Prop := fun r u => ∃ z, r = iI z ∧ R32 z ∧ zJ w u ∧ zF ms M u ∧ post z u
def zQl (w : zW) (ms : Nat → Nat → Bool) (M : zM) (post : Int → zM → Prop) : Int64 → zM → Prop := fun r u => ∃ z, r = iL z ∧ R64 z ∧ zJ w u ∧ zF ms M u ∧ post z u
def zQv (w : zW) (ms : Nat → Nat → Bool) (M : zM) (post : zM → Prop) : zM → Prop := fun u => zJ w u ∧ zF ms M u ∧ post u
theorem zP_blind {D : va_G} {dA : Nat → ClassId} {cl : List vw_C} {tys : List (ClassId × FieldType)} {w : zW} {N b : Nat} {M : zM} {As : List Value} : FrameBlind (va_Pc As (zP D dA cl tys w N b M)) := fun _ U g mk q => ⟨q.1, q.2.1, q.2.2.1, va_K.moved (u := U) (U := U.calling g mk _) (Vm.Alike.refl U.vm) q.2.2.2.1, zNst.same (u := U) rfl q.2.2.2.2⟩
section ZC
variable {p : Program} {l : Launch} {e : Env} {R : Room} {s : State} {m : MethodId} {args : Array Value} {below : List Frame} {meth : Method} {c : Code} {H : Heap} {locs : List Loc} {cells slots : Nat} {Q : State → Prop}
variable {cc : ByteArray} {pc : Nat} {ls : Array Slot} {rest st0 : List Value} {D : va_G} {dA : Nat → ClassId} {cl : List vw_C} {tys : List (ClassId × FieldType)} {H0 : Heap} {w : zW} {N b : Nat} {ms msC : Nat → Nat → Bool} {M0 M : zM} {a : Array Value}
theorem z_pre (hS : zS D dA cl w N b ms M0 M H) (hK : zKK D cl tys s) {As : List Value} : ∀ U : State, U.heap = H → s.WarmedH U.vm → va_Pc As (zP D dA cl tys w N b M) As.toArray U := fun _ hU hW => ⟨rfl, by rw [hU]; exact hS.1, hS.2.1, va_K.moved hW.alike hK.1, zNst.warm hW hK.2⟩
theorem z_recv (hS : zS D dA cl w N b ms M0 M H) (hK : va_K D cl tys s) {C : String} {T : u_T} {n ci j : Nat} (hj : j < N) (hkd : zkd w j = ci) (hci : ci < 100) (hc : cl[ci]? = some (C, T, n)) : ∃ cell : Cell, H[b + j]? = some cell ∧ cell.vm.isStatics = false ∧ s.vm.findClass C = some cell.cls := by
  subst hkd
  have h := hS.1 j hj
  unfold zcell at h
  rw [if_pos hci] at h
  obtain ⟨q', h1, cell, g1, g2, g3, -⟩ := h
  exact ⟨cell, g1, by rw [g3]; rfl, by rw [g2]; exact (hK.1 _ _ hc).2.1⟩
theorem z_calli {post : Int → zM → Prop} (hr : va_Run p l e R s m args below meth c H locs cells slots 0 0 (F0 m pc ls st0) rest (va_Qi (zQi w msC M post) (zB D dA cl w N b) (zA N b) a) (zA N b)) (hS : zS D dA cl w N b ms M0 M H) (hS0 : va_S (zA N b) H0 H locs) (hms : ∀ j k, ms j k = false → msC j k = false)
    (kk : ∀ (z : Int) (M1 : zM) (H1 : Heap) (locs1 : List Loc), R32 z → post z M1 → zF msC M M1 → zS D dA cl w N b ms M0 M1 H1 → va_S (zA N b) H0 H1 locs1 → W p l e R s m args below meth c H1 locs1 cells slots Q (F0 m (pc + 3) ls (.int (iI z) :: rest))) : W p l e R s m args below meth c H locs cells slots Q (F0 m pc ls st0) := by
  refine va_calli hr hS0 (fun q _ h => h) (fun q h => h) (fun r u t H1 locs1 ht _ hp hB _ _ hS1 => ?_)
  obtain ⟨z, rfl, hz, hJ, hF, hp⟩ := hp
  unfold zB at hB
  rw [ht] at hB
  exact kk z u H1 locs1 hz hp hF ⟨hB, hJ, zF_tr hS.2.2 (zF_mono hF hms)⟩ hS1
theorem z_calll {post : Int → zM → Prop} (hr : va_Run p l e R s m args below meth c H locs cells slots 0 0 (F0 m pc ls st0) rest (va_Ql (zQl w msC M post) (zB D dA cl w N b) (zA N b) a) (zA N b)) (hS : zS D dA cl w N b ms M0 M H) (hS0 : va_S (zA N b) H0 H locs) (hms : ∀ j k, ms j k = false → msC j k = false)
    (kk : ∀ (z : Int) (M1 : zM) (H1 : Heap) (locs1 : List Loc), R64 z → post z M1 → zF msC M M1 → zS D dA cl w N b ms M0 M1 H1 → va_S (zA N b) H0 H1 locs1 → W p l e R s m args below meth c H1 locs1 cells slots Q (F0 m (pc + 3) ls (.long (iL z) :: rest))) : W p l e R s m args below meth c H locs cells slots Q (F0 m pc ls st0) := by
  refine va_calll hr hS0 (fun q _ h => h) (fun q h => h) (fun r u t H1 locs1 ht _ hp hB _ _ hS1 => ?_)
  obtain ⟨z, rfl, hz, hJ, hF, hp⟩ := hp
  unfold zB at hB
  rw [ht] at hB
  exact kk z u H1 locs1 hz hp hF ⟨hB, hJ, zF_tr hS.2.2 (zF_mono hF hms)⟩ hS1
theorem z_callv {post : zM → Prop} (hr : va_Run p l e R s m args below meth c H locs cells slots 0 0 (F0 m pc ls st0) rest (va_Qv (zQv w msC M post) (zB D dA cl w N b) (zA N b) a) (zA N b)) (hS : zS D dA cl w N b ms M0 M H) (hS0 : va_S (zA N b) H0 H locs) (hms : ∀ j k, ms j k = false → msC j k = false)
    (kk : ∀ (M1 : zM) (H1 : Heap) (locs1 : List Loc), post M1 → zF msC M M1 → zS D dA cl w N b ms M0 M1 H1 → va_S (zA N b) H0 H1 locs1 → W p l e R s m args below meth c H1 locs1 cells slots Q (F0 m (pc + 3) ls rest)) : W p l e R s m args below meth c H locs cells slots Q (F0 m pc ls st0) := by
  refine va_callv hr hS0 (fun q _ h => h) (fun q h => h) (fun u t H1 locs1 ht _ hp hB _ _ hS1 => ?_)
  obtain ⟨hJ, hF, hp⟩ := hp
  unfold zB at hB
  rw [ht] at hB
  exact kk u H1 locs1 hp hF ⟨hB, hJ, zF_tr hS.2.2 (zF_mono hF hms)⟩ hS1
end ZC
