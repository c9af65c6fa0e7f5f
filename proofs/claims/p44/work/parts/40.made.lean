section zz40_new
/-! a world that is being made: its cells come one by one; references are none until they are set -/
abbrev zT : Type := Nat → Nat → Option Nat
def tup (T : zT) (j k t : Nat) : zT := fun a c => if a = j ∧ c = k then some t else T a c
theorem tup_row {T : zT} {j k t a : Nat} (h : a ≠ j) : tup T j k t a = T a := by funext c; simp [tup, h]
theorem tup_s {T : zT} {j k t : Nat} : tup T j k t j k = some t := by simp [tup]
theorem tup_n {T : zT} {j k t a c : Nat} (h : ¬ (a = j ∧ c = k)) : tup T j k t a c = T a c := by unfold tup; rw [if_neg h]
def yfv (w : zW) (b j k : Nat) (v : Int) (t : Option Nat) : Value := if zfk w (zkd w j) k = 0 then .int (iI v) else if zfk w (zkd w j) k = 1 then .long (iL v) else va_rf (t.map (fun q => b + q))
def yfs (w : zW) (b j : Nat) (row : Nat → Int) (tr : Nat → Option Nat) : List Value := (List.range (znf w (zkd w j))).map (fun k => yfv w b j k (row k) (tr k))
def yar (w : zW) (b j : Nat) (row : Nat → Int) (tr : Nat → Option Nat) : vp_A := if zkd w j = 101 then (zln w j, .inr (.inl (fun k => iL (row k)))) else if zkd w j < 104 then (zln w j, .inl (fun k => iI (row k))) else (zln w j, .inr (.inr (.inr (.inr (fun k => (tr k).map (fun q => b + q))))))
def ycell (dA : Nat → ClassId) (w : zW) (b j : Nat) (row : Nat → Int) (tr : Nat → Option Nat) : va_E := if zkd w j < 100 then .inr (zkd w j, yfs w b j row tr) else .inl (dA (zkd w j - 100), yar w b j row tr)
def yS (D : va_G) (dA : Nat → ClassId) (cl : List vw_C) (w : zW) (n b : Nat) (M : zM) (T : zT) (H : Heap) : Prop := H.size = b + n ∧ (∀ j, j < n → va_at D cl (b + j, ycell dA w b j (M j) (T j)) H) ∧ (∀ j, n ≤ j → (∀ k, M j k = 0) ∧ ∀ k, T j k = none) ∧ zJ w M
abbrev yA (b : Nat) : Nat → Prop := fun q => b ≤ q
theorem yfs_at {w : zW} {b j k : Nat} {row : Nat → Int} {tr : Nat → Option Nat} (h : k < znf w (zkd w j)) : (yfs w b j row tr)[k]? = some (yfv w b j k (row k) (tr k)) := by simp [yfs, h]
theorem yfs_V {w : zW} {b j k : Nat} {row : Nat → Int} {tr : Nat → Option Nat} (h : k < znf w (zkd w j)) : vp_V (yfs w b j row tr) k = yfv w b j k (row k) (tr k) := by simp [vp_V, List.getD, yfs_at h]
theorem yfs_same {w : zW} {b j : Nat} {row row' : Nat → Int} {tr tr' : Nat → Option Nat} (h : ∀ k, row k = row' k) (h2 : ∀ k, tr k = tr' k) : ycell (fun _ => 0) w b j row tr = ycell (fun _ => 0) w b j row' tr' := by rw [funext h, funext h2]
/-- one cell more -/
theorem yS_push {D : va_G} {dA : Nat → ClassId} {cl : List vw_C} {w : zW} {n b : Nat} {M : zM} {T : zT} {H H1 : Heap} (hY : yS D dA cl w n b M T H) (hz : H1.size = H.size + 1) (ho : ∀ q, q < H.size → H1[q]? = H[q]?) (hn : va_at D cl (b + n, ycell dA w b n (fun _ => 0) (fun _ => none)) H1) : yS D dA cl w (n + 1) b M T H1 := by
  refine ⟨by rw [hz, hY.1]; omega, fun j hj => ?_, fun j hj => hY.2.2.1 j (by omega), hY.2.2.2⟩
  by_cases h : j = n
  · subst h
    rw [funext (hY.2.2.1 j (Nat.le_refl _)).1, funext (hY.2.2.1 j (Nat.le_refl _)).2]
    exact hn
  · exact (hY.2.1 j (by omega)).kept (ho _ (by show b + j < H.size; rw [hY.1]; omega))
theorem yS_S {H0 H H1 : Heap} {locs : List Loc} {b : Nat} (hS : va_S (yA b) H0 H locs) (hz : H1.size = H.size + 1) (ho : ∀ q, q < H.size → H1[q]? = H[q]?) : va_S (yA b) H0 H1 locs := ⟨Nat.le_trans hS.1 (by omega), fun x h1 h2 => (ho x (Nat.lt_of_lt_of_le h1 hS.1)).trans (hS.2.1 x h1 h2), hS.2.2⟩
section ZY
variable {p : Program} {l : Launch} {e : Env} {R : Room} {s : State} {m : MethodId} {args : Array Value} {below : List Frame} {meth : Method} {c : Code} {H : Heap} {locs : List Loc} {cells slots : Nat} {Q : State → Prop}
variable {cc : ByteArray} {pc : Nat} {ls : Array Slot} {rest : List Value} {D : va_G} {dA : Nat → ClassId} {cl : List vw_C} {tys : List (ClassId × FieldType)} {H0 : Heap} {w : zW} {n b : Nat} {M : zM} {T : zT}
theorem y_new (hexec : p.tables.exec = Jvm.exec) (hb : c.code = cc) {own C : String} {X : u_T} {N ci index : Nat} {Ts : List Cond} (hts : ∀ w ∈ Ts, w.before args s = true) (hin : ∀ w ∈ u_ws C X N, w ∈ Ts) (ty : Nat → FieldType) (hty : ∀ k, k < N → parseFieldDescriptor (X k).2.2.1 = some (ty k)) (hown : s.vm.findClass own = some m.cls) (hcl : (Cond.classLink own index C).before args s = true) (hinst : (Cond.instantiable C N).before args s = true) (hini : (Cond.initialized C).before args s = true)
    (hK : va_K D cl tys s) (hY : yS D dA cl w n b M T H) (hS : va_S (yA b) H0 H locs) (hc : cl[ci]? = some (C, X, N)) (hci : ci < 100) (hkd : zkd w n = ci) (hnf : znf w ci = N) (hfs : ∀ k, k < N → defaultValue (ty k) = (if zfk w ci k = 0 then .int (iI 0) else if zfk w ci k = 1 then .long (iL 0) else .null)) (hcells : cells + 1 ≤ R.cells) (hslots : slots + N ≤ R.slots) (hdg : decode cc pc = .ok (.new index, 3))
    (kk : ∀ H1 : Heap, yS D dA cl w (n + 1) b M T H1 → va_S (yA b) H0 H1 locs → W p l e R s m args below meth c H1 locs (cells + 1) (slots + N) Q (F0 m (pc + 3) ls (.ref (b + n) :: rest))) : W p l e R s m args below meth c H locs cells slots Q (F0 m pc ls rest) := by
  have hKn := hK.1 ci _ hc
  refine W.newcK hexec hb hown hcl hinst hini rfl hdg hcells hslots hKn.2.1 rfl fun H1 kC hkC e1 z1 o1 => ?_
  have hz : H.size = b + n := hY.1
  rw [hz] at e1
  refine hz ▸ kk H1 (yS_push hY z1 o1 ?_) (yS_S hS z1 o1)
  unfold ycell
  rw [hkd, if_pos hci]
  refine ⟨_, hc, (u_born ty hts hin hKn hkC e1 hty).to (fun k hk => ?_)⟩
  rw [yfs_V (by rw [hkd, hnf]; exact hk)]
  unfold yfv
  rw [hkd]
  exact hfs k hk
theorem y_newa (hexec : p.tables.exec = Jvm.exec) (hb : c.code = cc) {atype : ArrayType} (harr : (Cond.arrayClass (newarray.typeOf atype)).before args s = true) {t0 N : Nat} {z : Int} (ht1 : t0 ≠ 1) (ht4 : t0 < 4) (hfa : s.vm.findClass ("[" ++ (newarray.typeOf atype).toString) = some (dA t0)) (hdv : defaultValue (newarray.typeOf atype) = .int (iI 0)) (hY : yS D dA cl w n b M T H) (hS : va_S (yA b) H0 H locs) (hkd : zkd w n = 100 + t0) (hln : zln w n = N) (h0 : 0 ≤ z) (hN : z.toNat = N) (hN2 : z < 2147483648) (hbytes : N * componentBytes (newarray.typeOf atype) ≤ 536870912) (hcells : cells + 1 ≤ R.cells) (hslots : slots + N ≤ R.slots) (hdg : decode cc pc = .ok (.newarray atype, 2))
    (kk : ∀ H1 : Heap, yS D dA cl w (n + 1) b M T H1 → va_S (yA b) H0 H1 locs → W p l e R s m args below meth c H1 locs (cells + 1) (slots + N) Q (F0 m (pc + 2) ls (.ref (b + n) :: rest))) : W p l e R s m args below meth c H locs cells slots Q (F0 m pc ls (.int (iI z) :: rest)) := by
  have hnn : ¬ iI z < 0 := by
    intro q
    have := Int32.lt_iff_toInt_lt.mp q
    rw [iI_t ⟨by omega, by omega⟩] at this
    have h00 : (0 : Int32).toInt = 0 := by decide
    omega
  have hcl : (iI z).toNatClampNeg = N := by
    rw [← hN]
    show (iI z).toInt.toNat = _
    rw [iI_t ⟨by omega, by omega⟩]
  refine va_newaK hexec hb harr rfl hdg rfl hnn hcl hbytes hcells hslots hY.1 fun H1 cA e1 z1 o1 hAr hNm => ?_
  have ec : cA = dA t0 := Option.some.inj (hNm.symm.trans hfa)
  subst ec
  have z2 : H1.size = H.size + 1 := by rw [z1, hY.1]
  have o2 : ∀ q, q < H.size → H1[q]? = H[q]? := fun q hq => o1 q (by rw [← hY.1]; exact hq)
  refine kk H1 (yS_push hY z2 o2 ?_) (yS_S hS z2 o2)
  unfold ycell
  rw [hkd, if_neg (by omega)]
  show H1[b + n]? = some (vp_cell (dA (100 + t0 - 100)) _)
  unfold yar
  rw [hkd, if_neg (by omega), if_pos (by omega), hln, show 100 + t0 - 100 = t0 by omega, e1, hdv, vp_cell_i]
/-- an array of references, all none -/
theorem y_newq (hexec : p.tables.exec = Jvm.exec) (hb : c.code = cc) {own C : String} {index t0 N : Nat} {z : Int} (hown : s.vm.findClass own = some m.cls) (hclink : (Cond.classLink own index C).before args s = true) (hover : (Cond.arrayOver (.object C)).before args s = true) (ht4 : 4 ≤ t0) (hfa : va_RA s (dA t0) (.object C)) (hY : yS D dA cl w n b M T H) (hS : va_S (yA b) H0 H locs) (hkd : zkd w n = 100 + t0) (hln : zln w n = N) (h0 : 0 ≤ z) (hN : z.toNat = N) (hN2 : z < 2147483648) (hbytes : N * 4 ≤ 536870912) (hcells : cells + 1 ≤ R.cells) (hslots : slots + N ≤ R.slots) (hdg : decode cc pc = .ok (.anewarray index, 3))
    (kk : ∀ H1 : Heap, yS D dA cl w (n + 1) b M T H1 → va_S (yA b) H0 H1 locs → W p l e R s m args below meth c H1 locs (cells + 1) (slots + N) Q (F0 m (pc + 3) ls (.ref (b + n) :: rest))) : W p l e R s m args below meth c H locs cells slots Q (F0 m pc ls (.int (iI z) :: rest)) := by
  have hnn : ¬ iI z < 0 := by
    intro q
    have := Int32.lt_iff_toInt_lt.mp q
    rw [iI_t ⟨by omega, by omega⟩] at this
    have h00 : (0 : Int32).toInt = 0 := by decide
    omega
  have hcl : (iI z).toNatClampNeg = N := by
    rw [← hN]
    show (iI z).toInt.toNat = _
    rw [iI_t ⟨by omega, by omega⟩]
  refine W.anew hexec hb hown hclink hover rfl hdg rfl hnn (by rw [hcl]; exact hbytes) hcells (by rw [hcl]; exact hslots) fun cA kA comp f1 f2 f3 f4 => ?_
  rw [hcl]
  generalize hH1 : H.push ({ cls := cA, slots := Array.replicate N .null, vm := .none } : Cell) = H1
  have z1 : H1.size = H.size + 1 := by rw [← hH1, Array.size_push]
  have e1 : H1[H.size]? = some (arrV cA N (fun _ => .null)) := by rw [← hH1, Array.getElem?_push_size, ← arrV_new]
  have o1 : ∀ q : Nat, q < H.size → H1[q]? = H[q]? := fun q hq => by rw [← hH1, Array.getElem?_push, if_neg (Nat.ne_of_lt hq)]
  obtain ⟨kA2, comp2, g1, g2, g3, g4⟩ := hfa
  have ec : cA = dA t0 := Option.some.inj (f1.symm.trans g4)
  subst ec
  have hz : H.size = b + n := hY.1
  rw [hz] at e1
  refine hz ▸ kk H1 (yS_push hY z1 o1 ?_) (yS_S hS z1 o1)
  unfold ycell
  rw [hkd, if_neg (by omega)]
  show H1[b + n]? = some (vp_cell (dA (100 + t0 - 100)) _)
  unfold yar
  rw [hkd, if_neg (by omega), if_neg (by omega), hln, show 100 + t0 - 100 = t0 by omega, e1, vp_cell_q]
  rfl
/-- a value is put into a field -/
theorem y_putv (hexec : p.tables.exec = Jvm.exec) (hb : c.code = cc) {own C : String} {X : u_T} {N ci index j k kind : Nat} {Ts : List Cond} (hts : ∀ w ∈ Ts, w.before args s = true) (hin : ∀ w ∈ u_ws C X N, w ∈ Ts) (ty0 : Nat → FieldType) (hty : ∀ k, k < N → parseFieldDescriptor (X k).2.2.1 = some (ty0 k)) (hnm : ∀ a, a < N → ∀ b, b < N → a ≠ b → (X a).2.1 ≠ (X b).2.1) (hown : s.vm.findClass own = some m.cls) (hK : va_K D cl tys s) (hY : yS D dA cl w n b M T H) (hS0 : va_S (yA b) H0 H locs)
    (hf : zFld cl w ci C X N k kind) (hj : j < n) (hkd : zkd w j = ci) (hlink : zLk s args own index (X k).1 (X k).2.1 (X k).2.2.1) (hfin : (X k).2.2.2 = false) {ty : FieldType} {v : Value} {M1 : zM} {T1 : zT} (hd : parseFieldDescriptor (X k).2.2.1 = some ty) (hnr : narrow ty v = v) (hfit : fits ty v = true) (hz : v = yfv w b j k (M1 j k) (T1 j k)) (hM : ∀ a c, ¬ (a = j ∧ c = k) → M1 a c = M a c) (hT : ∀ a c, ¬ (a = j ∧ c = k) → T1 a c = T a c) (hJ : zJ w M1) (hdg : decode cc pc = .ok (.putfield index, 3))
    (kk : ∀ (H1 : Heap) (locs1 : List Loc), yS D dA cl w n b M1 T1 H1 → va_S (yA b) H0 H1 locs1 → W p l e R s m args below meth c H1 locs1 cells slots Q (F0 m (pc + 3) ls rest)) : W p l e R s m args below meth c H locs cells slots Q (F0 m pc ls (v :: .ref (b + j) :: rest)) := by
  obtain ⟨hc, hci, hn, hk, -⟩ := hf
  subst hkd
  have hap := va_apart (own := own) hts hin ty0 hty hnm hK hc
  have h0 := hY.2.1 j hj
  unfold ycell at h0
  rw [if_pos hci] at h0
  obtain ⟨r, h1, cell, q1, q2, q3, q4⟩ := h0
  have hr : r = (C, X, N) := Option.some.inj (h1.symm.trans hc)
  subst hr
  obtain ⟨hSl, hfc, kC, hkC, hkind⟩ := hK.1 _ _ hc
  obtain ⟨cf, kf, fi, f, hi, hsl⟩ := hSl k hk
  have hlay := hts _ (hin _ (u_in_lay hk))
  unfold u_lay at hlay
  rw [if_neg (by rw [hfin]; decide)] at hlay
  have hst := (u_facts hfc hkC (u_lays hts hin hk) hi).1
  have h6 := u_store hfc hkC hkind hlay hi hd hnr hfit
  have fin : ∀ H' : Heap, H'[b + j]? = some (cell.setSlot f.slot v) → H'.size = H.size → (∀ q, q ≠ b + j → H'[q]? = H[q]?) → W p l e R s m args below meth c H' (locs ++ [⟨b + j, f.slot⟩]) cells slots Q (F0 m (pc + 3) ls rest) := by
    intro H' e1 e2 e3
    refine kk H' _ ⟨by rw [e2, hY.1], ?_, fun i hi2 => ⟨fun x => by rw [hM i x (by omega)]; exact (hY.2.2.1 i hi2).1 x, fun x => by rw [hT i x (by omega)]; exact (hY.2.2.1 i hi2).2 x⟩, hJ⟩ (hS0.put e2 e3 (Nat.le_add_right _ _))
    intro i hi2
    by_cases hij : i = j
    · subst hij
      unfold ycell
      rw [if_pos hci]
      refine ⟨_, hc, ?_⟩
      rw [hsl] at e1
      refine t_OB.to (V := updV (vp_V (yfs w b i (M i) (T i))) k v) ⟨_, e1, q2, q3, t_set q4 hap hk v⟩ (fun x hx => ?_)
      have hx' : x < znf w (zkd w i) := by rw [hn]; exact hx
      rw [yfs_V hx']
      by_cases hxk : x = k
      · subst hxk
        simp only [updV, if_pos]
        exact hz
      · simp only [updV, if_neg hxk]
        rw [yfs_V hx', hM i x (fun q => hxk q.2), hT i x (fun q => hxk q.2)]
    · have := (hY.2.1 i hi2).kept (H1 := H') (e3 _ (by show b + i ≠ b + j; omega))
      rw [show M1 i = M i from funext fun x => hM i x (fun q => hij q.1), show T1 i = T i from funext fun x => hT i x (fun q => hij q.1)]
      exact this
  rcases hlink with hl | ⟨host, hl⟩
  · exact W.putK hexec hb (f := f) ⟨hown, hl, ⟨_, _, _, hi⟩, hst⟩ (by rw [q2]; exact h6) q1 q3 (by rw [hsl]; exact k2_hasslot (q4 k hk)) rfl rfl hdg fin
  · exact va_WputK hexec hb (f := f) hown hl hi hst (by rw [q2]; exact h6) q1 q3 (by rw [hsl]; exact k2_hasslot (q4 k hk)) rfl rfl hdg fin
end ZY
end zz40_new
section zz41_rows
/-! rows of a world that is being made -/
section ZY
variable {p : Program} {l : Launch} {e : Env} {R : Room} {s : State} {m : MethodId} {args : Array Value} {below : List Frame} {meth : Method} {c : Code} {H : Heap} {locs : List Loc} {cells slots : Nat} {Q : State → Prop}
variable {cc : ByteArray} {pc : Nat} {ls : Array Slot} {rest st0 : List Value} {D : va_G} {dA : Nat → ClassId} {cl : List vw_C} {tys : List (ClassId × FieldType)} {H0 : Heap} {w : zW} {n b : Nat} {M : zM} {T : zT}
theorem y_putvF (hexec : p.tables.exec = Jvm.exec) (hb : c.code = cc) {own C : String} {X : u_T} {N ci index j k kind : Nat} {Ts : List Cond} (hts : ∀ w ∈ Ts, w.before args s = true) (hin : ∀ w ∈ u_ws C X N, w ∈ Ts) (ty0 : Nat → FieldType) (hty : ∀ k, k < N → parseFieldDescriptor (X k).2.2.1 = some (ty0 k)) (hnm : ∀ a, a < N → ∀ b, b < N → a ≠ b → (X a).2.1 ≠ (X b).2.1) (hown : s.vm.findClass own = some m.cls) (hK : va_K D cl tys s) (hY : yS D dA cl w n b M T H) (hS0 : va_S (yA b) H0 H locs)
    (hf : zFld cl w ci C X N k kind) (hj : j < n) (hkd : zkd w j = ci) (hlink : (Cond.fieldLink own index (X k).1 (X k).2.1 (X k).2.2.1).before args s = true) (hfin : (X k).2.2.2 = true) (hin2 : meth.name = "<init>") (hdecl : (X k).1 = own) {ty : FieldType} {v : Value} {M1 : zM} {T1 : zT} (hd : parseFieldDescriptor (X k).2.2.1 = some ty) (hnr : narrow ty v = v) (hfit : fits ty v = true) (hz : v = yfv w b j k (M1 j k) (T1 j k)) (hM : ∀ a c, ¬ (a = j ∧ c = k) → M1 a c = M a c) (hT : ∀ a c, ¬ (a = j ∧ c = k) → T1 a c = T a c) (hJ : zJ w M1) (hdg : decode cc pc = .ok (.putfield index, 3))
    (kk : ∀ (H1 : Heap) (locs1 : List Loc), yS D dA cl w n b M1 T1 H1 → va_S (yA b) H0 H1 locs1 → W p l e R s m args below meth c H1 locs1 cells slots Q (F0 m (pc + 3) ls rest)) : W p l e R s m args below meth c H locs cells slots Q (F0 m pc ls (v :: .ref (b + j) :: rest)) := by
  obtain ⟨hc, hci, hn, hk, -⟩ := hf
  subst hkd
  have hap := va_apart (own := own) hts hin ty0 hty hnm hK hc
  have h0 := hY.2.1 j hj
  unfold ycell at h0
  rw [if_pos hci] at h0
  obtain ⟨r, h1, cell, q1, q2, q3, q4⟩ := h0
  have hr : r = (C, X, N) := Option.some.inj (h1.symm.trans hc)
  subst hr
  obtain ⟨hSl, hfc, kC, hkC, hkind⟩ := hK.1 _ _ hc
  obtain ⟨cf, kf, fi, f, hi, hsl⟩ := hSl k hk
  have hlay := hts _ (hin _ (u_in_lay hk))
  unfold u_lay at hlay
  rw [if_pos hfin] at hlay
  have hst := (u_facts hfc hkC (u_lays hts hin hk) hi).1
  have hcf : m.cls = cf := by
    obtain ⟨_, _, c', _, _, _, -, -, hf', -, -, -, hown2, -⟩ := Cond.laysFinal_spec hlay
    have e1 : c' = cf := by have := hi.symm.trans hf'; simp at this; exact this.1.symm
    rw [hdecl] at hown2
    rw [← e1]; exact Option.some.inj (hown.symm.trans hown2)
  have h6 := u_fits hfc hkC hkind (Or.inr hlay) hi hd hnr hfit
  refine W.putFinK hexec hb hown hlink hi hst hcf hin2 (by rw [q2]; exact h6) q1 q3 (by rw [hsl]; exact k2_hasslot (q4 k hk)) rfl rfl hdg fun H' e1 e2 e3 => ?_
  refine kk H' _ ⟨by rw [e2, hY.1], ?_, fun i hi2 => ⟨fun x => by rw [hM i x (by omega)]; exact (hY.2.2.1 i hi2).1 x, fun x => by rw [hT i x (by omega)]; exact (hY.2.2.1 i hi2).2 x⟩, hJ⟩ (hS0.put e2 e3 (Nat.le_add_right _ _))
  intro i hi2
  by_cases hij : i = j
  · subst hij
    unfold ycell
    rw [if_pos hci]
    refine ⟨_, hc, ?_⟩
    rw [hsl] at e1
    refine t_OB.to (V := updV (vp_V (yfs w b i (M i) (T i))) k v) ⟨_, e1, q2, q3, t_set q4 hap hk v⟩ (fun x hx => ?_)
    have hx' : x < znf w (zkd w i) := by rw [hn]; exact hx
    rw [yfs_V hx']
    by_cases hxk : x = k
    · subst hxk
      simp only [updV, if_pos]
      exact hz
    · simp only [updV, if_neg hxk]
      rw [yfs_V hx', hM i x (fun q => hxk q.2), hT i x (fun q => hxk q.2)]
  · have := (hY.2.1 i hi2).kept (H1 := H') (e3 _ (by show b + i ≠ b + j; omega))
    rw [show M1 i = M i from funext fun x => hM i x (fun q => hij q.1), show T1 i = T i from funext fun x => hT i x (fun q => hij q.1)]
    exact this
theorem y_puti (hexec : p.tables.exec = Jvm.exec) (hb : c.code = cc) {own C : String} {X : u_T} {N ci index j k : Nat} {Ts : List Cond} (hts : ∀ w ∈ Ts, w.before args s = true) (hin : ∀ w ∈ u_ws C X N, w ∈ Ts) (ty0 : Nat → FieldType) (hty : ∀ k, k < N → parseFieldDescriptor (X k).2.2.1 = some (ty0 k)) (hnm : ∀ a, a < N → ∀ b, b < N → a ≠ b → (X a).2.1 ≠ (X b).2.1) (hown : s.vm.findClass own = some m.cls) (hK : va_K D cl tys s) (hY : yS D dA cl w n b M T H) (hS0 : va_S (yA b) H0 H locs)
    (hf : zFld cl w ci C X N k 0) (hj : j < n) (hkd : zkd w j = ci) (hlink : zLk s args own index (X k).1 (X k).2.1 (X k).2.2.1) (hfin : (X k).2.2.2 = false) {z : Int} (hd : parseFieldDescriptor (X k).2.2.1 = some .int) (hbd : (zbd w j k).1 ≤ z ∧ z ≤ (zbd w j k).2) (hdg : decode cc pc = .ok (.putfield index, 3))
    (kk : ∀ (H1 : Heap) (locs1 : List Loc), yS D dA cl w n b (zup M j k z) T H1 → va_S (yA b) H0 H1 locs1 → W p l e R s m args below meth c H1 locs1 cells slots Q (F0 m (pc + 3) ls rest)) : W p l e R s m args below meth c H locs cells slots Q (F0 m pc ls (.int (iI z) :: .ref (b + j) :: rest)) := by
  refine y_putv hexec hb hts hin ty0 hty hnm hown hK hY hS0 hf hj hkd hlink hfin (M1 := zup M j k z) (T1 := T) hd rfl rfl ?_ (fun a c h => zup_n _ _ h) (fun _ _ _ => rfl) (zJ_up hY.2.2.2 hbd) hdg kk
  unfold yfv
  rw [hkd, if_pos hf.2.2.2.2, zup_s]
theorem y_putl (hexec : p.tables.exec = Jvm.exec) (hb : c.code = cc) {own C : String} {X : u_T} {N ci index j k : Nat} {Ts : List Cond} (hts : ∀ w ∈ Ts, w.before args s = true) (hin : ∀ w ∈ u_ws C X N, w ∈ Ts) (ty0 : Nat → FieldType) (hty : ∀ k, k < N → parseFieldDescriptor (X k).2.2.1 = some (ty0 k)) (hnm : ∀ a, a < N → ∀ b, b < N → a ≠ b → (X a).2.1 ≠ (X b).2.1) (hown : s.vm.findClass own = some m.cls) (hK : va_K D cl tys s) (hY : yS D dA cl w n b M T H) (hS0 : va_S (yA b) H0 H locs)
    (hf : zFld cl w ci C X N k 1) (hj : j < n) (hkd : zkd w j = ci) (hlink : zLk s args own index (X k).1 (X k).2.1 (X k).2.2.1) (hfin : (X k).2.2.2 = false) {z : Int} (hd : parseFieldDescriptor (X k).2.2.1 = some .long) (hbd : (zbd w j k).1 ≤ z ∧ z ≤ (zbd w j k).2) (hdg : decode cc pc = .ok (.putfield index, 3))
    (kk : ∀ (H1 : Heap) (locs1 : List Loc), yS D dA cl w n b (zup M j k z) T H1 → va_S (yA b) H0 H1 locs1 → W p l e R s m args below meth c H1 locs1 cells slots Q (F0 m (pc + 3) ls rest)) : W p l e R s m args below meth c H locs cells slots Q (F0 m pc ls (.long (iL z) :: .ref (b + j) :: rest)) := by
  refine y_putv hexec hb hts hin ty0 hty hnm hown hK hY hS0 hf hj hkd hlink hfin (M1 := zup M j k z) (T1 := T) hd rfl rfl ?_ (fun a c h => zup_n _ _ h) (fun _ _ _ => rfl) (zJ_up hY.2.2.2 hbd) hdg kk
  unfold yfv
  rw [hkd, if_neg (by rw [hf.2.2.2.2]; decide), if_pos hf.2.2.2.2, zup_s]
theorem y_putr (hexec : p.tables.exec = Jvm.exec) (hb : c.code = cc) {own C : String} {X : u_T} {N ci index j k t : Nat} {Ts : List Cond} (hts : ∀ w ∈ Ts, w.before args s = true) (hin : ∀ w ∈ u_ws C X N, w ∈ Ts) (ty0 : Nat → FieldType) (hty : ∀ k, k < N → parseFieldDescriptor (X k).2.2.1 = some (ty0 k)) (hnm : ∀ a, a < N → ∀ b, b < N → a ≠ b → (X a).2.1 ≠ (X b).2.1) (hown : s.vm.findClass own = some m.cls) (hK : va_K D cl tys s) (hY : yS D dA cl w n b M T H) (hS0 : va_S (yA b) H0 H locs)
    (hf : zFld cl w ci C X N k 2) (hj : j < n) (hkd : zkd w j = ci) (hlink : zLk s args own index (X k).1 (X k).2.1 (X k).2.2.1) (hfin : (X k).2.2.2 = false) {ty : FieldType} (hd : parseFieldDescriptor (X k).2.2.1 = some ty) (hnr : ∀ q, narrow ty (.ref q) = .ref q) (hfit : ∀ q, fits ty (.ref q) = true) (hdg : decode cc pc = .ok (.putfield index, 3))
    (kk : ∀ (H1 : Heap) (locs1 : List Loc), yS D dA cl w n b M (tup T j k t) H1 → va_S (yA b) H0 H1 locs1 → W p l e R s m args below meth c H1 locs1 cells slots Q (F0 m (pc + 3) ls rest)) : W p l e R s m args below meth c H locs cells slots Q (F0 m pc ls (.ref (b + t) :: .ref (b + j) :: rest)) := by
  refine y_putv hexec hb hts hin ty0 hty hnm hown hK hY hS0 hf hj hkd hlink hfin (M1 := M) (T1 := tup T j k t) hd (hnr _) (hfit _) ?_ (fun _ _ _ => rfl) (fun a c h => tup_n h) hY.2.2.2 hdg kk
  unfold yfv
  rw [hkd, if_neg (by rw [hf.2.2.2.2]; decide), if_neg (by rw [hf.2.2.2.2]; decide), tup_s]
  rfl
theorem y_putrF (hexec : p.tables.exec = Jvm.exec) (hb : c.code = cc) {own C : String} {X : u_T} {N ci index j k t : Nat} {Ts : List Cond} (hts : ∀ w ∈ Ts, w.before args s = true) (hin : ∀ w ∈ u_ws C X N, w ∈ Ts) (ty0 : Nat → FieldType) (hty : ∀ k, k < N → parseFieldDescriptor (X k).2.2.1 = some (ty0 k)) (hnm : ∀ a, a < N → ∀ b, b < N → a ≠ b → (X a).2.1 ≠ (X b).2.1) (hown : s.vm.findClass own = some m.cls) (hK : va_K D cl tys s) (hY : yS D dA cl w n b M T H) (hS0 : va_S (yA b) H0 H locs)
    (hf : zFld cl w ci C X N k 2) (hj : j < n) (hkd : zkd w j = ci) (hlink : (Cond.fieldLink own index (X k).1 (X k).2.1 (X k).2.2.1).before args s = true) (hfin : (X k).2.2.2 = true) (hin2 : meth.name = "<init>") (hdecl : (X k).1 = own) {ty : FieldType} (hd : parseFieldDescriptor (X k).2.2.1 = some ty) (hnr : ∀ q, narrow ty (.ref q) = .ref q) (hfit : ∀ q, fits ty (.ref q) = true) (hdg : decode cc pc = .ok (.putfield index, 3))
    (kk : ∀ (H1 : Heap) (locs1 : List Loc), yS D dA cl w n b M (tup T j k t) H1 → va_S (yA b) H0 H1 locs1 → W p l e R s m args below meth c H1 locs1 cells slots Q (F0 m (pc + 3) ls rest)) : W p l e R s m args below meth c H locs cells slots Q (F0 m pc ls (.ref (b + t) :: .ref (b + j) :: rest)) := by
  refine y_putvF hexec hb hts hin ty0 hty hnm hown hK hY hS0 hf hj hkd hlink hfin hin2 hdecl (M1 := M) (T1 := tup T j k t) hd (hnr _) (hfit _) ?_ (fun _ _ _ => rfl) (fun a c h => tup_n h) hY.2.2.2 hdg kk
  unfold yfv
  rw [hkd, if_neg (by rw [hf.2.2.2.2]; decide), if_neg (by rw [hf.2.2.2.2]; decide), tup_s]
  rfl
/-- a reference is read -/
theorem y_getr (hexec : p.tables.exec = Jvm.exec) (hb : c.code = cc) {own C : String} {X : u_T} {N ci index j k t : Nat} {Ts : List Cond} (hts : ∀ w ∈ Ts, w.before args s = true) (hin : ∀ w ∈ u_ws C X N, w ∈ Ts) (hown : s.vm.findClass own = some m.cls) (hK : va_K D cl tys s) (hY : yS D dA cl w n b M T H)
    (hf : zFld cl w ci C X N k 2) (hj : j < n) (hkd : zkd w j = ci) (ht : T j k = some t) (hlink : zLk s args own index (X k).1 (X k).2.1 (X k).2.2.1) (hdg : decode cc pc = .ok (.getfield index, 3))
    (kk : W p l e R s m args below meth c H locs cells slots Q (F0 m (pc + 3) ls (.ref (b + t) :: rest))) : W p l e R s m args below meth c H locs cells slots Q (F0 m pc ls (.ref (b + j) :: rest)) := by
  obtain ⟨hc, hci, hn, hk, hfk⟩ := hf
  subst hkd
  have hP : va_P D cl [(b + j, .inr (zkd w j, yfs w b j (M j) (T j)))] H := by
    intro i q hq
    have hi : i = 0 := by
      have := (List.getElem?_eq_some_iff.mp hq).1
      simp at this
      exact this
    subst hi
    cases hq
    have h := hY.2.1 j hj
    unfold ycell at h
    rw [if_pos hci] at h
    exact h
  have hv : (yfs w b j (M j) (T j))[k]? = some (.ref (b + t)) := by
    rw [yfs_at (by rw [hn]; exact hk)]
    unfold yfv
    rw [if_neg (by rw [hfk]; decide), if_neg (by rw [hfk]; decide), ht]
    rfl
  rcases hlink with hl | ⟨host, hl⟩
  · exact va_get hexec hb hts hin hown hK hP 0 rfl hc k hk hl (fun _ h => h) hv hdg kk
  · exact va_getN hexec hb hts hin hown hK hP 0 rfl hc k hk hl (fun _ h => h) hv hdg kk
theorem y_arr {j : Nat} (hY : yS D dA cl w n b M T H) (hj : j < n) (hkd : 100 ≤ zkd w j) : H[b + j]? = some (vp_cell (dA (zkd w j - 100)) (yar w b j (M j) (T j))) := by
  have h := hY.2.1 j hj
  unfold ycell at h
  rw [if_neg (by omega)] at h
  exact h
theorem y_iast (hexec : p.tables.exec = Jvm.exec) (hb : c.code = cc) (hK : va_K D cl tys s) {t0 : Nat} (ht : tys[t0]? = some (dA 0, .int)) (hY : yS D dA cl w n b M T H) (hS0 : va_S (yA b) H0 H locs) {j N : Nat} (hj : j < n) (hkd : zkd w j = 100) (hln : zln w j = N) {i z : Int} (h0 : 0 ≤ i) (h1 : i < N) (hn : N < 2147483648) (hbd : (zbd w j i.toNat).1 ≤ z ∧ z ≤ (zbd w j i.toNat).2) (hdg : decode cc pc = .ok (.iastore, 1))
    (kk : ∀ (H1 : Heap) (locs1 : List Loc), yS D dA cl w n b (zup M j i.toNat z) T H1 → va_S (yA b) H0 H1 locs1 → W p l e R s m args below meth c H1 locs1 cells slots Q (F0 m (pc + 1) ls rest)) : W p l e R s m args below meth c H locs cells slots Q (F0 m pc ls (.int (iI z) :: .int (iI i) :: .ref (b + j) :: rest)) := by
  obtain ⟨v1, v2⟩ := iI_in h0 h1 hn
  have hP := y_arr hY hj (by omega)
  rw [hkd] at hP
  unfold yar at hP
  rw [if_neg (by omega), if_pos (by omega), hln] at hP
  refine W.iast hexec hb hP ((hK.2 t0 _ ht).1 N (fun j3 => .int (iI (M j j3)))) (fun q => by cases q) (by show ¬ (iI i < 0 ∨ (arrV _ _ _).slots.size ≤ _); rw [arrV_size]; exact v1) rfl rfl hdg fun H1 e1 e2 e3 => ?_
  refine kk H1 _ ⟨by rw [e2, hY.1], ?_, fun a ha => ⟨fun x => by rw [zup_row M z (by omega)]; exact (hY.2.2.1 a ha).1 x, (hY.2.2.1 a ha).2⟩, zJ_up hY.2.2.2 hbd⟩ (hS0.put e2 e3 (Nat.le_add_right _ _))
  intro i2 hi2
  by_cases hij : i2 = j
  · subst hij
    unfold ycell
    rw [if_neg (by omega)]
    show H1[b + i2]? = some (vp_cell _ _)
    rw [e1]
    unfold yar
    rw [if_neg (by omega), if_pos (by omega), hln, hkd, vp_cell_i, vp_cell_i, arrV_store, v2]
    congr 2
    funext q
    by_cases hq : q = i.toNat
    · subst hq
      simp [updV, zup_s]
    · simp only [updV, if_neg hq]
      rw [zup_n]
      exact fun h => hq h.2
  · have := (hY.2.1 i2 hi2).kept (H1 := H1) (e3 _ (by show b + i2 ≠ b + j; omega))
    rw [zup_row M z hij]
    exact this
theorem y_aast (hexec : p.tables.exec = Jvm.exec) (hb : c.code = cc) (hK : va_K D cl tys s) {C : String} {X : u_T} {Nf t0 cv : Nat} (ht4 : 4 ≤ t0) (hra : va_RA s (dA t0) (.object C)) (hc : cl[cv]? = some (C, X, Nf)) (hcv : cv < 100) (hY : yS D dA cl w n b M T H) (hS0 : va_S (yA b) H0 H locs) {j t N : Nat} (hj : j < n) (hkd : zkd w j = 100 + t0) (hln : zln w j = N) (ht : t < n) (hkt : zkd w t = cv) {i : Int} (h0 : 0 ≤ i) (h1 : i < N) (hn : N < 2147483648) (hdg : decode cc pc = .ok (.aastore, 1))
    (kk : ∀ (H1 : Heap) (locs1 : List Loc), yS D dA cl w n b M (tup T j i.toNat t) H1 → va_S (yA b) H0 H1 locs1 → W p l e R s m args below meth c H1 locs1 cells slots Q (F0 m (pc + 1) ls rest)) : W p l e R s m args below meth c H locs cells slots Q (F0 m pc ls (.ref (b + t) :: .int (iI i) :: .ref (b + j) :: rest)) := by
  obtain ⟨v1, v2⟩ := iI_in h0 h1 hn
  have hP := y_arr hY hj (by omega)
  rw [hkd, show 100 + t0 - 100 = t0 by omega] at hP
  unfold yar at hP
  rw [if_neg (by omega), if_neg (by omega), hln] at hP
  have hv := hY.2.1 t ht
  unfold ycell at hv
  rw [hkt, if_pos hcv] at hv
  obtain ⟨r', hr', cellV, g1, g2, g3, -⟩ := hv
  have hcls := (hK.1 cv _ hc).2
  obtain ⟨kA, comp, k1, k2, k3, -⟩ := hra
  have hcomp : comp = D.1 cv := Option.some.inj (k3.symm.trans hcls.1)
  subst hcomp
  obtain ⟨kC, hkC, -⟩ := hcls.2
  have hlt : (iI i).toNatClampNeg < N := by rw [v2]; omega
  refine W.aast hexec hb hP (fun q h => by cases h) (fun h => by cases h) k1 k2 rfl hkC ⟨fun q => v1 (Or.inl q), by show _ < (arrV _ _ _).slots.size; rw [arrV_size]; exact hlt⟩ g1 (fun q h => by rw [g3] at h; cases h) (by rw [g2]; exact hkC) (by rw [g2]; exact va_assign hcls) rfl rfl hdg fun H1 e1 e2 e3 => ?_
  refine kk H1 _ ⟨by rw [e2, hY.1], ?_, fun a ha => ⟨(hY.2.2.1 a ha).1, fun x => by rw [tup_row (by omega)]; exact (hY.2.2.1 a ha).2 x⟩, hY.2.2.2⟩ (hS0.put e2 e3 (Nat.le_add_right _ _))
  intro i2 hi2
  by_cases hij : i2 = j
  · subst hij
    unfold ycell
    rw [if_neg (by omega)]
    show H1[b + i2]? = some (vp_cell _ _)
    rw [e1]
    unfold yar
    rw [if_neg (by omega), if_neg (by omega), hln, hkd, show 100 + t0 - 100 = t0 by omega, vp_cell_q, vp_cell_q, arrV_store, v2]
    congr 2
    funext q
    by_cases hq : q = i.toNat
    · subst hq
      simp [updV, tup_s, va_rf]
    · simp only [updV, if_neg hq]
      rw [tup_n (fun h => hq h.2)]
  · have := (hY.2.1 i2 hi2).kept (H1 := H1) (e3 _ (by show b + i2 ≠ b + j; omega))
    rw [tup_row hij]
    exact this
end ZY
end zz41_rows
section zz42_made
/-! constructors' contracts: what goes in and out -/
def y_AOA (t : FieldType) (U : State) : Prop := (Cond.arrayOver (.array t)).before #[] U = true
theorem y_AOA.moved {t : FieldType} {u U : State} (hvm : u.vm.Alike U.vm) (h : y_AOA t u) : y_AOA t U := by
  have h' := h
  unfold y_AOA Cond.before Cond.holds at h' ⊢
  simp only [Cond.value, beq_iff_eq] at h' ⊢
  cases hc : u.vm.findClass (FieldType.array t).toString with
  | none => simp [hc] at h'
  | some comp =>
    obtain ⟨comp2, c2, k, g1, g2, g3, g4⟩ := Cond.arrayOver_specA (t := t) h
    have e2 : comp2 = comp := Option.some.inj (g1.symm.trans hc)
    subst e2
    have f1 : U.vm.findClass (FieldType.array t).toString = some comp2 := by rw [hvm.findClass]; exact hc
    rw [f1, Option.bind_some]
    rw [hc, Option.bind_some] at h'
    have hidx : (U.vm.classes.findIdx? fun (x : Class) => match x.kind with | .array component _ => component == comp2 | _ => false) = (u.vm.classes.findIdx? fun (x : Class) => match x.kind with | .array component _ => component == comp2 | _ => false) := by
      have h0 := va_idx_bare U.vm comp2
      have h1 := va_idx_bare u.vm comp2
      have hbe := hvm.bare_eq
      first | rw [hbe] at h1 | rw [← hbe] at h1
      exact h0.symm.trans h1
    obtain ⟨c3, q1, q2⟩ := Option.bind_eq_some_iff.mp h'
    obtain ⟨k3, q3, q4⟩ := Option.map_eq_some_iff.mp q2
    obtain ⟨k', hk', he⟩ := hvm.2.2 _ _ q3
    refine Option.bind_eq_some_iff.mpr ⟨c3, hidx.trans q1, Option.map_eq_some_iff.mpr ⟨k', hk', ?_⟩⟩
    rw [he, ← q4]
    cases k3.kind with
    | array component ty => simp only [hvm.findClass]
    | _ => rfl
def y_O (U : State) : Prop := va_AO "TapeRings$Strip" U ∧ va_AO "TapeRings$Motor" U ∧ va_AO "TapeRings$Ring" U ∧ y_AOA .int U
theorem y_O.moved {u U : State} (hvm : u.vm.Alike U.vm) (h : y_O u) : y_O U := ⟨h.1.moved hvm, h.2.1.moved hvm, h.2.2.1.moved hvm, h.2.2.2.moved hvm⟩
def y_rm (d c s : Nat) : Room := { frames := d, cells := c, slots := s, locals := 64 * d }
def yP (D : va_G) (dA : Nat → ClassId) (cl : List vw_C) (tys : List (ClassId × FieldType)) (w : zW) (n b : Nat) (M : zM) (T : zT) : State → Prop := fun U => yS D dA cl w n b M T U.heap ∧ zKK D cl tys U ∧ y_O U
def yB (D : va_G) (dA : Nat → ClassId) (cl : List vw_C) (w : zW) (n b : Nat) (M : zM) (T : zT) : Unit → State → Prop := fun _ t => yS D dA cl w n b M T t.heap
theorem yP_blind {D : va_G} {dA : Nat → ClassId} {cl : List vw_C} {tys : List (ClassId × FieldType)} {w : zW} {n b : Nat} {M : zM} {T : zT} {As : List Value} : FrameBlind (va_Pc As (yP D dA cl tys w n b M T)) := fun _ U g mk q => ⟨q.1, q.2.1, ⟨va_K.moved (u := U) (U := U.calling g mk _) (Vm.Alike.refl U.vm) q.2.2.1.1, zNst.same (u := U) rfl q.2.2.1.2⟩, y_O.moved (u := U) (U := U.calling g mk _) (Vm.Alike.refl U.vm) q.2.2.2⟩
section ZY
variable {p : Program} {l : Launch} {e : Env} {R : Room} {s : State} {m : MethodId} {args : Array Value} {below : List Frame} {meth : Method} {c : Code} {H : Heap} {locs : List Loc} {cells slots mc ms : Nat} {Q : State → Prop}
variable {cc : ByteArray} {pc : Nat} {ls : Array Slot} {rest st0 : List Value} {D : va_G} {dA : Nat → ClassId} {cl : List vw_C} {tys : List (ClassId × FieldType)} {H0 : Heap} {w : zW} {n n1 b : Nat} {M M1 : zM} {T T1 : zT} {a : Array Value}
theorem y_pre (hY : yS D dA cl w n b M T H) (hK : zKK D cl tys s) (hO : y_O s) {As : List Value} : ∀ U : State, U.heap = H → s.WarmedH U.vm → va_Pc As (yP D dA cl tys w n b M T) As.toArray U := fun _ hU hW => ⟨rfl, by rw [hU]; exact hY, ⟨va_K.moved hW.alike hK.1, zNst.warm hW hK.2⟩, hO.moved hW.alike⟩
theorem y_call (hr : va_Run p l e R s m args below meth c H locs cells slots mc ms (F0 m pc ls st0) rest (va_Qv (fun _ => True) (yB D dA cl w n1 b M1 T1) (yA b) a) (yA b)) (hS0 : va_S (yA b) H0 H locs)
    (kk : ∀ (H1 : Heap) (locs1 : List Loc), yS D dA cl w n1 b M1 T1 H1 → va_S (yA b) H0 H1 locs1 → W p l e R s m args below meth c H1 locs1 (cells + mc) (slots + ms) Q (F0 m (pc + 3) ls rest)) : W p l e R s m args below meth c H locs cells slots Q (F0 m pc ls st0) := by
  refine va_callv hr hS0 (fun q _ h => h) (fun q h => h) (fun u t H1 locs1 ht _ _ hB _ _ hS1 => ?_)
  unfold yB at hB
  rw [ht] at hB
  exact kk H1 locs1 hB hS1
theorem y_ret (hexec : p.tables.exec = Jvm.exec) (hb : c.code = cc) (hr : meth.sig.returnType = none) (hlocks : meth.locks = false) (hY : yS D dA cl w n b M T H) (hS0 : va_S (yA b) s.heap H locs) (hdg : decode cc pc = .ok (.return_, 1)) :
    W p l e R s m args below meth c H locs cells slots (MQ below (va_Qv (fun _ => True) (yB D dA cl w n b M T) (yA b)) args s cells slots (yA b)) (F0 m pc ls []) :=
  W.vret hexec hb hr (fun t ht hW => ⟨⟨(), rfl, trivial, by unfold yB; rw [ht]; exact hY⟩, hS0.F ht⟩) hS0.2.2 hdg hlocks
theorem y_top {x y : Nat} (h : x = y) (kk : W p l e R s m args below meth c H locs cells slots Q (F0 m pc ls (.ref (b + y) :: rest))) : W p l e R s m args below meth c H locs cells slots Q (F0 m pc ls (.ref (b + x) :: rest)) := by subst h; exact kk
/-- new int[N][K]: the outer cell, then the inner ones -/
theorem y_mna (hexec : p.tables.exec = Jvm.exec) (hb : c.code = cc) {own : String} {index N K : Nat} {z1 z2 : Int} (hown : s.vm.findClass own = some m.cls) (hclink : (Cond.classLink own index "[[I").before args s = true) (hover : y_AOA .int s) (harr : (Cond.arrayClass .int).before args s = true) (hf0 : s.vm.findClass "[I" = some (dA 0)) (hf7 : s.vm.findClass "[[I" = some (dA 7)) (hY : yS D dA cl w n b M T H) (hS : va_S (yA b) H0 H locs)
    (hkd : zkd w n = 107) (hln : zln w n = N) (hin : ∀ i, i < N → zkd w (n + 1 + i) = 100 ∧ zln w (n + 1 + i) = K) (h01 : 0 ≤ z1) (h02 : 0 ≤ z2) (hN : z1.toNat = N) (hK : z2.toNat = K) (hN2 : z1 < 2147483648) (hK2 : z2 < 2147483648) (hb1 : N * 4 ≤ 536870912) (hb2 : K * 4 ≤ 536870912) (hb3 : K ≤ 536870912) (hcells : cells + (1 + N) ≤ R.cells) (hslots : slots + (N + N * K) ≤ R.slots) (hdg : decode cc pc = .ok (.multianewarray index 2, 4))
    (kk : ∀ H1 : Heap, yS D dA cl w (n + 1 + N) b M (fun a c => if a = n ∧ c < N then some (n + 1 + c) else T a c) H1 → va_S (yA b) H0 H1 locs → W p l e R s m args below meth c H1 locs (cells + 1 + N) (slots + N + N * K) Q (F0 m (pc + 4) ls (.ref (b + n) :: rest))) : W p l e R s m args below meth c H locs cells slots Q (F0 m pc ls (.int (iI z2) :: .int (iI z1) :: rest)) := by
  have nn : ∀ z : Int, 0 ≤ z → z < 2147483648 → ¬ iI z < 0 ∧ (iI z).toNatClampNeg = z.toNat := by
    intro z g1 g2
    constructor
    · intro q
      have := Int32.lt_iff_toInt_lt.mp q
      rw [iI_t ⟨by omega, by omega⟩] at this
      have h00 : (0 : Int32).toInt = 0 := by decide
      omega
    · show (iI z).toInt.toNat = _
      rw [iI_t ⟨by omega, by omega⟩]
  obtain ⟨a1, a2⟩ := nn z1 h01 hN2
  obtain ⟨a3, a4⟩ := nn z2 h02 hK2
  rw [hN] at a2
  rw [hK] at a4
  intro X hT Xs
  obtain ⟨vm₁, cA, comp, -, fA, fC, -, -, X', step⟩ := Xs.multianewarray2F hexec hown hclink hover harr (g := F0 m pc ls (.int (iI z2) :: .int (iI z1) :: rest)) rfl (by rw [hb]; exact hdg) rfl a1 a3 (by rw [a2]; exact hb1) (by rw [a4]; exact hb2) (by rw [a4]; exact hb3) rfl rfl (by rw [a2]; exact hcells) (by rw [a2, a4]; exact hslots)
  have e0 : comp = dA 0 := Option.some.inj (fC.symm.trans hf0)
  have e7 : cA = dA 7 := Option.some.inj (fA.symm.trans hf7)
  subst e0
  subst e7
  rw [a2, a4] at X' step
  generalize hF : Jvm.Free.Multi.fill (X.setVm vm₁) (dA 7) (dA 0) N K (defaultValue .int) N = F at X' step
  have hTh : (X.setVm vm₁).heap = H := hT
  obtain ⟨f1, f2, -, -⟩ := Jvm.Free.Multi.fill_facts (X.setVm vm₁) (dA 7) (dA 0) N K (defaultValue .int) N
  rw [hF, hTh, hY.1] at f1 f2
  have hold : ∀ x : Nat, x < H.size → F.heap[x]? = H[x]? := fun x hx => by
    have := Jvm.Free.Multi.fill_old (X.setVm vm₁) (dA 7) (dA 0) N K (defaultValue .int) (a := x) (by rw [hTh]; exact hx) N
    rw [hF, hTh] at this
    exact this
  have hrow : ∀ j : Nat, j < N → F.heap[b + n + 1 + j]? = some (vp_cell (dA 0) (K, .inl (fun _ => iI 0))) := fun j hj => by
    have := Jvm.Free.Multi.fill_inner (X.setVm vm₁) (dA 7) (dA 0) N K (defaultValue .int) N j hj
    rw [hF, hTh, hY.1] at this
    rw [this]
    show some (Jvm.Free.Multi.innerC (dA 0) K (defaultValue .int)) = _
    rw [vp_cell_i, ← arrV_new]
    rfl
  have hout : Jvm.Free.Multi.outerC (dA 7) N (b + n) N = vp_cell (dA 7) (N, .inr (.inr (.inr (.inr (fun i => if i < N then some (b + n + 1 + i) else none))))) := by
    rw [vp_cell_q]
    have gen : ∀ i : Nat, Jvm.Free.Multi.outerC (dA 7) N (b + n) i = arrV (dA 7) N (fun j => va_rf (if j < i then some (b + n + 1 + j) else none)) := by
      intro i
      induction i with
      | zero =>
        show ({ cls := dA 7, slots := Array.replicate N .null, vm := .none } : Cell) = _
        rw [arrV_new]
        refine congrArg (arrV (dA 7) N) (funext fun j => ?_)
        simp [va_rf]
      | succ i ih =>
        show (Jvm.Free.Multi.outerC (dA 7) N (b + n) i).setSlot i (.ref (b + n + 1 + i)) = _
        rw [ih, arrV_store]
        refine congrArg (arrV (dA 7) N) (funext fun j => ?_)
        by_cases e : j = i
        · subst e
          simp [updV, va_rf]
        · by_cases h : j < i
          · simp [updV, e, h, Nat.lt_succ_of_lt h]
          · simp [updV, e, h, show ¬ j < i + 1 by omega]
    exact gen N
  rw [hout] at f2
  have hS1 : va_S (yA b) H0 F.heap locs := ⟨Nat.le_trans hS.1 (by rw [f1, hY.1]; omega), fun x h1 h2 => (hold x (Nat.lt_of_lt_of_le h1 hS.1)).trans (hS.2.1 x h1 h2), hS.2.2⟩
  have hY1 : yS D dA cl w (n + 1 + N) b M (fun a c => if a = n ∧ c < N then some (n + 1 + c) else T a c) F.heap := by
    refine ⟨by rw [f1]; omega, fun j hj => ?_, fun j hj => ⟨(hY.2.2.1 j (by omega)).1, fun k => by show (if j = n ∧ k < N then some (n + 1 + k) else T j k) = none; rw [if_neg (by omega)]; exact (hY.2.2.1 j (by omega)).2 k⟩, hY.2.2.2⟩
    by_cases h : j = n
    · subst h
      unfold ycell
      rw [hkd, if_neg (by omega)]
      show F.heap[b + j]? = some (vp_cell (dA (107 - 100)) _)
      unfold yar
      rw [hkd, if_neg (by omega), if_neg (by omega), hln, f2]
      refine congrArg some (congrArg (vp_cell (dA 7)) (Prod.ext rfl (congrArg (fun f => Sum.inr (Sum.inr (Sum.inr (Sum.inr f)))) (funext fun i => ?_))))
      show (if i < N then some (b + j + 1 + i) else none) = Option.map (fun q => b + q) (if j = j ∧ i < N then some (j + 1 + i) else T j i)
      by_cases h9 : i < N
      · rw [if_pos h9, if_pos ⟨rfl, h9⟩]
        show some (b + j + 1 + i) = some (b + (j + 1 + i))
        rw [show b + j + 1 + i = b + (j + 1 + i) by omega]
      · rw [if_neg h9, if_neg (fun q => h9 q.2), (hY.2.2.1 j (Nat.le_refl _)).2 i]
        rfl
    · by_cases h2 : j < n
      · have := (hY.2.1 j h2).kept (H1 := F.heap) (hold _ (by show b + j < H.size; rw [hY.1]; omega))
        show va_at D cl (b + j, ycell dA w b j (M j) (fun c => if j = n ∧ c < N then some (n + 1 + c) else T j c)) F.heap
        rw [show (fun c => if j = n ∧ c < N then some (n + 1 + c) else T j c) = T j from funext fun c => if_neg (fun q => h q.1)]
        exact this
      · obtain ⟨g1, g2⟩ := hin (j - (n + 1)) (by omega)
        rw [show n + 1 + (j - (n + 1)) = j by omega] at g1 g2
        unfold ycell
        rw [g1, if_neg (by omega)]
        show F.heap[b + j]? = some (vp_cell (dA (100 - 100)) _)
        unfold yar
        rw [g1, if_neg (by omega), if_pos (by omega), g2, funext (hY.2.2.1 j (by omega)).1]
        have := hrow (j - (n + 1)) (by omega)
        rw [show b + n + 1 + (j - (n + 1)) = b + j by omega] at this
        exact this
  obtain ⟨t, c1, c2⟩ := kk F.heap hY1 hS1 F rfl X'
  have hz : X.heap.size = b + n := by rw [show X.heap = H from hT, hY.1]
  rw [hz] at step
  exact ⟨t, step t c1, c2⟩
end ZY
end zz42_made
section zz43_mkR
theorem q43mkR_0_0 : (cX12_init.data.toList.drop 0).take 23 = [42, 183, 0, 1, 42, 16, 100, 188, 8, 181, 0, 9, 42, 16, 24, 188, 10, 181, 0, 13, 42, 16, 96] := by decide +kernel
theorem q43mkR_0_25 : (cX12_init.data.toList.drop 25).take 24 = [181, 0, 17, 42, 7, 188, 10, 181, 0, 20, 42, 7, 188, 10, 181, 0, 23, 42, 7, 188, 10, 181, 0, 26] := by decide +kernel
theorem q43mkR_0_49 : (cX12_init.data.toList.drop 49).take 23 = [42, 7, 188, 10, 181, 0, 29, 42, 7, 188, 10, 181, 0, 32, 42, 16, 24, 188, 10, 181, 0, 35, 42] := by decide +kernel
theorem q43mkR_0_72 : (cX12_init.data.toList.drop 72).take 23 = [16, 24, 188, 10, 181, 0, 38, 42, 5, 188, 10, 181, 0, 41, 42, 16, 6, 188, 10, 181, 0, 44, 42] := by decide +kernel
theorem q43mkR_0_95 : (cX12_init.data.toList.drop 95).take 22 = [16, 6, 188, 10, 181, 0, 47, 42, 16, 10, 188, 10, 181, 0, 50, 42, 4, 181, 0, 53, 42, 4] := by decide +kernel
theorem q43mkR_0_117 : (cX12_init.data.toList.drop 117).take 21 = [181, 0, 57, 42, 16, 60, 188, 10, 181, 0, 60, 42, 16, 40, 188, 10, 181, 0, 63, 42, 8] := by decide +kernel
theorem q43mkR_0_140 : (cX12_init.data.toList.drop 140).take 23 = [181, 0, 66, 42, 17, 1, 128, 188, 10, 181, 0, 69, 42, 16, 16, 188, 10, 181, 0, 72, 42, 16, 16] := by decide +kernel
theorem q43mkR_0_165 : (cX12_init.data.toList.drop 165).take 23 = [181, 0, 75, 42, 16, 16, 188, 10, 181, 0, 78, 42, 16, 64, 188, 10, 181, 0, 81, 42, 17, 0, 144] := by decide +kernel
theorem q43mkR_0_190 : (cX12_init.data.toList.drop 190).take 23 = [181, 0, 84, 42, 16, 6, 188, 10, 181, 0, 87, 42, 17, 0, 144, 188, 10, 181, 0, 90, 42, 16, 6] := by decide +kernel
theorem q43mkR_0_215 : (cX12_init.data.toList.drop 215).take 24 = [181, 0, 93, 42, 16, 96, 188, 4, 181, 0, 96, 42, 17, 1, 64, 188, 10, 181, 0, 100, 42, 17, 9, 0] := by decide +kernel
theorem q43mkR_0_241 : (cX12_init.data.toList.drop 241).take 24 = [181, 0, 103, 42, 17, 15, 161, 188, 10, 181, 0, 106, 42, 17, 0, 240, 188, 10, 181, 0, 109, 42, 16, 40] := by decide +kernel
theorem q43mkR_0_267 : (cX12_init.data.toList.drop 267).take 24 = [181, 0, 112, 42, 17, 2, 113, 188, 10, 181, 0, 115, 4, 60, 27, 16, 10, 162, 0, 17, 42, 180, 0, 50] := by decide +kernel
theorem q43mkR_0_291 : (cX12_init.data.toList.drop 291).take 11 = [27, 16, 100, 79, 132, 1, 1, 167, 255, 239, 177] := by decide +kernel
theorem dX12_init_0 : decode cX12_init 0 = .ok (.aload_n 0, 1) := dz_42 (dz_at q43mkR_0_0 0)
theorem dX12_init_1 : decode cX12_init 1 = .ok (.invokespecial 1, 3) := dz_183 (dz_at q43mkR_0_0 1) rfl
theorem dX12_init_102 : decode cX12_init 102 = .ok (.aload_n 0, 1) := dz_42 (dz_at q43mkR_0_95 7)
theorem dX12_init_103 : decode cX12_init 103 = .ok (.bipush 10, 2) := dz_16 (dz_at q43mkR_0_95 8) (by decide +kernel)
theorem dX12_init_105 : decode cX12_init 105 = .ok (.newarray .int, 2) := by decide +kernel
theorem dX12_init_107 : decode cX12_init 107 = .ok (.putfield 50, 3) := dz_181 (dz_at q43mkR_0_95 12) rfl
theorem dX12_init_110 : decode cX12_init 110 = .ok (.aload_n 0, 1) := dz_42 (dz_at q43mkR_0_95 15)
theorem dX12_init_111 : decode cX12_init 111 = .ok (.iconst 1, 1) := dz_4 (dz_at q43mkR_0_95 16)
theorem dX12_init_112 : decode cX12_init 112 = .ok (.putfield 53, 3) := dz_181 (dz_at q43mkR_0_95 17) rfl
theorem dX12_init_115 : decode cX12_init 115 = .ok (.aload_n 0, 1) := dz_42 (dz_at q43mkR_0_95 20)
theorem dX12_init_116 : decode cX12_init 116 = .ok (.iconst 1, 1) := dz_4 (dz_at q43mkR_0_95 21)
theorem dX12_init_117 : decode cX12_init 117 = .ok (.putfield 57, 3) := dz_181 (dz_at q43mkR_0_117 0) rfl
theorem dX12_init_12 : decode cX12_init 12 = .ok (.aload_n 0, 1) := dz_42 (dz_at q43mkR_0_0 12)
theorem dX12_init_120 : decode cX12_init 120 = .ok (.aload_n 0, 1) := dz_42 (dz_at q43mkR_0_117 3)
theorem dX12_init_121 : decode cX12_init 121 = .ok (.bipush 60, 2) := dz_16 (dz_at q43mkR_0_117 4) (by decide +kernel)
theorem dX12_init_123 : decode cX12_init 123 = .ok (.newarray .int, 2) := by decide +kernel
theorem dX12_init_125 : decode cX12_init 125 = .ok (.putfield 60, 3) := dz_181 (dz_at q43mkR_0_117 8) rfl
theorem dX12_init_128 : decode cX12_init 128 = .ok (.aload_n 0, 1) := dz_42 (dz_at q43mkR_0_117 11)
theorem dX12_init_129 : decode cX12_init 129 = .ok (.bipush 40, 2) := dz_16 (dz_at q43mkR_0_117 12) (by decide +kernel)
theorem dX12_init_13 : decode cX12_init 13 = .ok (.bipush 24, 2) := dz_16 (dz_at q43mkR_0_0 13) (by decide +kernel)
theorem dX12_init_131 : decode cX12_init 131 = .ok (.newarray .int, 2) := by decide +kernel
theorem dX12_init_133 : decode cX12_init 133 = .ok (.putfield 63, 3) := dz_181 (dz_at q43mkR_0_117 16) rfl
theorem dX12_init_136 : decode cX12_init 136 = .ok (.aload_n 0, 1) := dz_42 (dz_at q43mkR_0_117 19)
theorem dX12_init_137 : decode cX12_init 137 = .ok (.iconst 5, 1) := dz_8 (dz_at q43mkR_0_117 20)
theorem dX12_init_138 : decode cX12_init 138 = .ok (.newarray .int, 2) := by decide +kernel
theorem dX12_init_140 : decode cX12_init 140 = .ok (.putfield 66, 3) := dz_181 (dz_at q43mkR_0_140 0) rfl
theorem dX12_init_143 : decode cX12_init 143 = .ok (.aload_n 0, 1) := dz_42 (dz_at q43mkR_0_140 3)
theorem dX12_init_144 : decode cX12_init 144 = .ok (.sipush 384, 3) := dz_17 (dz_at q43mkR_0_140 4) (by decide +kernel)
theorem dX12_init_147 : decode cX12_init 147 = .ok (.newarray .int, 2) := by decide +kernel
theorem dX12_init_149 : decode cX12_init 149 = .ok (.putfield 69, 3) := dz_181 (dz_at q43mkR_0_140 9) rfl
theorem dX12_init_15 : decode cX12_init 15 = .ok (.newarray .int, 2) := by decide +kernel
theorem dX12_init_152 : decode cX12_init 152 = .ok (.aload_n 0, 1) := dz_42 (dz_at q43mkR_0_140 12)
theorem dX12_init_153 : decode cX12_init 153 = .ok (.bipush 16, 2) := dz_16 (dz_at q43mkR_0_140 13) (by decide +kernel)
theorem dX12_init_155 : decode cX12_init 155 = .ok (.newarray .int, 2) := by decide +kernel
theorem dX12_init_157 : decode cX12_init 157 = .ok (.putfield 72, 3) := dz_181 (dz_at q43mkR_0_140 17) rfl
theorem dX12_init_160 : decode cX12_init 160 = .ok (.aload_n 0, 1) := dz_42 (dz_at q43mkR_0_140 20)
theorem dX12_init_161 : decode cX12_init 161 = .ok (.bipush 16, 2) := dz_16 (dz_at q43mkR_0_140 21) (by decide +kernel)
theorem dX12_init_163 : decode cX12_init 163 = .ok (.newarray .int, 2) := by decide +kernel
theorem dX12_init_165 : decode cX12_init 165 = .ok (.putfield 75, 3) := dz_181 (dz_at q43mkR_0_165 0) rfl
theorem dX12_init_168 : decode cX12_init 168 = .ok (.aload_n 0, 1) := dz_42 (dz_at q43mkR_0_165 3)
theorem dX12_init_169 : decode cX12_init 169 = .ok (.bipush 16, 2) := dz_16 (dz_at q43mkR_0_165 4) (by decide +kernel)
theorem dX12_init_17 : decode cX12_init 17 = .ok (.putfield 13, 3) := dz_181 (dz_at q43mkR_0_0 17) rfl
theorem dX12_init_171 : decode cX12_init 171 = .ok (.newarray .int, 2) := by decide +kernel
theorem dX12_init_173 : decode cX12_init 173 = .ok (.putfield 78, 3) := dz_181 (dz_at q43mkR_0_165 8) rfl
theorem dX12_init_176 : decode cX12_init 176 = .ok (.aload_n 0, 1) := dz_42 (dz_at q43mkR_0_165 11)
theorem dX12_init_177 : decode cX12_init 177 = .ok (.bipush 64, 2) := dz_16 (dz_at q43mkR_0_165 12) (by decide +kernel)
theorem dX12_init_179 : decode cX12_init 179 = .ok (.newarray .int, 2) := by decide +kernel
theorem dX12_init_181 : decode cX12_init 181 = .ok (.putfield 81, 3) := dz_181 (dz_at q43mkR_0_165 16) rfl
theorem dX12_init_184 : decode cX12_init 184 = .ok (.aload_n 0, 1) := dz_42 (dz_at q43mkR_0_165 19)
theorem dX12_init_185 : decode cX12_init 185 = .ok (.sipush 144, 3) := dz_17 (dz_at q43mkR_0_165 20) (by decide +kernel)
theorem dX12_init_188 : decode cX12_init 188 = .ok (.newarray .int, 2) := by decide +kernel
theorem dX12_init_190 : decode cX12_init 190 = .ok (.putfield 84, 3) := dz_181 (dz_at q43mkR_0_190 0) rfl
theorem dX12_init_193 : decode cX12_init 193 = .ok (.aload_n 0, 1) := dz_42 (dz_at q43mkR_0_190 3)
theorem dX12_init_194 : decode cX12_init 194 = .ok (.bipush 6, 2) := dz_16 (dz_at q43mkR_0_190 4) (by decide +kernel)
theorem dX12_init_196 : decode cX12_init 196 = .ok (.newarray .int, 2) := by decide +kernel
theorem dX12_init_198 : decode cX12_init 198 = .ok (.putfield 87, 3) := dz_181 (dz_at q43mkR_0_190 8) rfl
theorem dX12_init_20 : decode cX12_init 20 = .ok (.aload_n 0, 1) := dz_42 (dz_at q43mkR_0_0 20)
theorem dX12_init_201 : decode cX12_init 201 = .ok (.aload_n 0, 1) := dz_42 (dz_at q43mkR_0_190 11)
theorem dX12_init_202 : decode cX12_init 202 = .ok (.sipush 144, 3) := dz_17 (dz_at q43mkR_0_190 12) (by decide +kernel)
theorem dX12_init_205 : decode cX12_init 205 = .ok (.newarray .int, 2) := by decide +kernel
theorem dX12_init_207 : decode cX12_init 207 = .ok (.putfield 90, 3) := dz_181 (dz_at q43mkR_0_190 17) rfl
theorem dX12_init_21 : decode cX12_init 21 = .ok (.bipush 96, 2) := dz_16 (dz_at q43mkR_0_0 21) (by decide +kernel)
theorem dX12_init_210 : decode cX12_init 210 = .ok (.aload_n 0, 1) := dz_42 (dz_at q43mkR_0_190 20)
theorem dX12_init_211 : decode cX12_init 211 = .ok (.bipush 6, 2) := dz_16 (dz_at q43mkR_0_190 21) (by decide +kernel)
theorem dX12_init_213 : decode cX12_init 213 = .ok (.newarray .int, 2) := by decide +kernel
theorem dX12_init_215 : decode cX12_init 215 = .ok (.putfield 93, 3) := dz_181 (dz_at q43mkR_0_215 0) rfl
theorem dX12_init_218 : decode cX12_init 218 = .ok (.aload_n 0, 1) := dz_42 (dz_at q43mkR_0_215 3)
theorem dX12_init_219 : decode cX12_init 219 = .ok (.bipush 96, 2) := dz_16 (dz_at q43mkR_0_215 4) (by decide +kernel)
theorem dX12_init_221 : decode cX12_init 221 = .ok (.newarray .boolean, 2) := by decide +kernel
theorem dX12_init_223 : decode cX12_init 223 = .ok (.putfield 96, 3) := dz_181 (dz_at q43mkR_0_215 8) rfl
theorem dX12_init_226 : decode cX12_init 226 = .ok (.aload_n 0, 1) := dz_42 (dz_at q43mkR_0_215 11)
theorem dX12_init_227 : decode cX12_init 227 = .ok (.sipush 320, 3) := dz_17 (dz_at q43mkR_0_215 12) (by decide +kernel)
theorem dX12_init_23 : decode cX12_init 23 = .ok (.newarray .int, 2) := by decide +kernel
theorem dX12_init_230 : decode cX12_init 230 = .ok (.newarray .int, 2) := by decide +kernel
theorem dX12_init_232 : decode cX12_init 232 = .ok (.putfield 100, 3) := dz_181 (dz_at q43mkR_0_215 17) rfl
theorem dX12_init_235 : decode cX12_init 235 = .ok (.aload_n 0, 1) := dz_42 (dz_at q43mkR_0_215 20)
theorem dX12_init_236 : decode cX12_init 236 = .ok (.sipush 2304, 3) := dz_17 (dz_at q43mkR_0_215 21) (by decide +kernel)
theorem dX12_init_239 : decode cX12_init 239 = .ok (.newarray .int, 2) := by decide +kernel
theorem dX12_init_241 : decode cX12_init 241 = .ok (.putfield 103, 3) := dz_181 (dz_at q43mkR_0_241 0) rfl
theorem dX12_init_244 : decode cX12_init 244 = .ok (.aload_n 0, 1) := dz_42 (dz_at q43mkR_0_241 3)
theorem dX12_init_245 : decode cX12_init 245 = .ok (.sipush 4001, 3) := dz_17 (dz_at q43mkR_0_241 4) (by decide +kernel)
theorem dX12_init_248 : decode cX12_init 248 = .ok (.newarray .int, 2) := by decide +kernel
theorem dX12_init_25 : decode cX12_init 25 = .ok (.putfield 17, 3) := dz_181 (dz_at q43mkR_0_25 0) rfl
theorem dX12_init_250 : decode cX12_init 250 = .ok (.putfield 106, 3) := dz_181 (dz_at q43mkR_0_241 9) rfl
theorem dX12_init_253 : decode cX12_init 253 = .ok (.aload_n 0, 1) := dz_42 (dz_at q43mkR_0_241 12)
theorem dX12_init_254 : decode cX12_init 254 = .ok (.sipush 240, 3) := dz_17 (dz_at q43mkR_0_241 13) (by decide +kernel)
theorem dX12_init_257 : decode cX12_init 257 = .ok (.newarray .int, 2) := by decide +kernel
theorem dX12_init_259 : decode cX12_init 259 = .ok (.putfield 109, 3) := dz_181 (dz_at q43mkR_0_241 18) rfl
theorem dX12_init_262 : decode cX12_init 262 = .ok (.aload_n 0, 1) := dz_42 (dz_at q43mkR_0_241 21)
theorem dX12_init_263 : decode cX12_init 263 = .ok (.bipush 40, 2) := dz_16 (dz_at q43mkR_0_241 22) (by decide +kernel)
theorem dX12_init_265 : decode cX12_init 265 = .ok (.newarray .int, 2) := by decide +kernel
theorem dX12_init_267 : decode cX12_init 267 = .ok (.putfield 112, 3) := dz_181 (dz_at q43mkR_0_267 0) rfl
theorem dX12_init_270 : decode cX12_init 270 = .ok (.aload_n 0, 1) := dz_42 (dz_at q43mkR_0_267 3)
theorem dX12_init_271 : decode cX12_init 271 = .ok (.sipush 625, 3) := dz_17 (dz_at q43mkR_0_267 4) (by decide +kernel)
theorem dX12_init_274 : decode cX12_init 274 = .ok (.newarray .int, 2) := by decide +kernel
theorem dX12_init_276 : decode cX12_init 276 = .ok (.putfield 115, 3) := dz_181 (dz_at q43mkR_0_267 9) rfl
theorem dX12_init_279 : decode cX12_init 279 = .ok (.iconst 1, 1) := dz_4 (dz_at q43mkR_0_267 12)
theorem dX12_init_28 : decode cX12_init 28 = .ok (.aload_n 0, 1) := dz_42 (dz_at q43mkR_0_25 3)
theorem dX12_init_280 : decode cX12_init 280 = .ok (.istore_n 1, 1) := dz_60 (dz_at q43mkR_0_267 13)
theorem dX12_init_281 : decode cX12_init 281 = .ok (.iload_n 1, 1) := dz_27 (dz_at q43mkR_0_267 14)
theorem dX12_init_282 : decode cX12_init 282 = .ok (.bipush 10, 2) := dz_16 (dz_at q43mkR_0_267 15) (by decide +kernel)
theorem dX12_init_284 : decode cX12_init 284 = .ok (.if_icmp .ge 17, 3) := dz_162 (dz_at q43mkR_0_267 17) (by decide +kernel)
theorem dX12_init_287 : decode cX12_init 287 = .ok (.aload_n 0, 1) := dz_42 (dz_at q43mkR_0_267 20)
theorem dX12_init_288 : decode cX12_init 288 = .ok (.getfield 50, 3) := dz_180 (dz_at q43mkR_0_267 21) rfl
theorem dX12_init_29 : decode cX12_init 29 = .ok (.iconst 4, 1) := dz_7 (dz_at q43mkR_0_25 4)
theorem dX12_init_291 : decode cX12_init 291 = .ok (.iload_n 1, 1) := dz_27 (dz_at q43mkR_0_291 0)
theorem dX12_init_292 : decode cX12_init 292 = .ok (.bipush 100, 2) := dz_16 (dz_at q43mkR_0_291 1) (by decide +kernel)
theorem dX12_init_294 : decode cX12_init 294 = .ok (.iastore, 1) := dz_79 (dz_at q43mkR_0_291 3)
theorem dX12_init_295 : decode cX12_init 295 = .ok (.iinc 1 1, 3) := dz_132 (dz_at q43mkR_0_291 4) (by decide +kernel)
theorem dX12_init_298 : decode cX12_init 298 = .ok (.goto (-17), 3) := dz_167 (dz_at q43mkR_0_291 7) (by decide +kernel)
theorem dX12_init_30 : decode cX12_init 30 = .ok (.newarray .int, 2) := by decide +kernel
theorem dX12_init_301 : decode cX12_init 301 = .ok (.return_, 1) := dz_177 (dz_at q43mkR_0_291 10)
theorem dX12_init_32 : decode cX12_init 32 = .ok (.putfield 20, 3) := dz_181 (dz_at q43mkR_0_25 7) rfl
theorem dX12_init_35 : decode cX12_init 35 = .ok (.aload_n 0, 1) := dz_42 (dz_at q43mkR_0_25 10)
theorem dX12_init_36 : decode cX12_init 36 = .ok (.iconst 4, 1) := dz_7 (dz_at q43mkR_0_25 11)
theorem dX12_init_37 : decode cX12_init 37 = .ok (.newarray .int, 2) := by decide +kernel
theorem dX12_init_39 : decode cX12_init 39 = .ok (.putfield 23, 3) := dz_181 (dz_at q43mkR_0_25 14) rfl
theorem dX12_init_4 : decode cX12_init 4 = .ok (.aload_n 0, 1) := dz_42 (dz_at q43mkR_0_0 4)
theorem dX12_init_42 : decode cX12_init 42 = .ok (.aload_n 0, 1) := dz_42 (dz_at q43mkR_0_25 17)
theorem dX12_init_43 : decode cX12_init 43 = .ok (.iconst 4, 1) := dz_7 (dz_at q43mkR_0_25 18)
theorem dX12_init_44 : decode cX12_init 44 = .ok (.newarray .int, 2) := by decide +kernel
theorem dX12_init_46 : decode cX12_init 46 = .ok (.putfield 26, 3) := dz_181 (dz_at q43mkR_0_25 21) rfl
theorem dX12_init_49 : decode cX12_init 49 = .ok (.aload_n 0, 1) := dz_42 (dz_at q43mkR_0_49 0)
theorem dX12_init_5 : decode cX12_init 5 = .ok (.bipush 100, 2) := dz_16 (dz_at q43mkR_0_0 5) (by decide +kernel)
theorem dX12_init_50 : decode cX12_init 50 = .ok (.iconst 4, 1) := dz_7 (dz_at q43mkR_0_49 1)
theorem dX12_init_51 : decode cX12_init 51 = .ok (.newarray .int, 2) := by decide +kernel
theorem dX12_init_53 : decode cX12_init 53 = .ok (.putfield 29, 3) := dz_181 (dz_at q43mkR_0_49 4) rfl
theorem dX12_init_56 : decode cX12_init 56 = .ok (.aload_n 0, 1) := dz_42 (dz_at q43mkR_0_49 7)
theorem dX12_init_57 : decode cX12_init 57 = .ok (.iconst 4, 1) := dz_7 (dz_at q43mkR_0_49 8)
theorem dX12_init_58 : decode cX12_init 58 = .ok (.newarray .int, 2) := by decide +kernel
theorem dX12_init_60 : decode cX12_init 60 = .ok (.putfield 32, 3) := dz_181 (dz_at q43mkR_0_49 11) rfl
theorem dX12_init_63 : decode cX12_init 63 = .ok (.aload_n 0, 1) := dz_42 (dz_at q43mkR_0_49 14)
theorem dX12_init_64 : decode cX12_init 64 = .ok (.bipush 24, 2) := dz_16 (dz_at q43mkR_0_49 15) (by decide +kernel)
theorem dX12_init_66 : decode cX12_init 66 = .ok (.newarray .int, 2) := by decide +kernel
theorem dX12_init_68 : decode cX12_init 68 = .ok (.putfield 35, 3) := dz_181 (dz_at q43mkR_0_49 19) rfl
theorem dX12_init_7 : decode cX12_init 7 = .ok (.newarray .byte, 2) := by decide +kernel
theorem dX12_init_71 : decode cX12_init 71 = .ok (.aload_n 0, 1) := dz_42 (dz_at q43mkR_0_49 22)
theorem dX12_init_72 : decode cX12_init 72 = .ok (.bipush 24, 2) := dz_16 (dz_at q43mkR_0_72 0) (by decide +kernel)
theorem dX12_init_74 : decode cX12_init 74 = .ok (.newarray .int, 2) := by decide +kernel
theorem dX12_init_76 : decode cX12_init 76 = .ok (.putfield 38, 3) := dz_181 (dz_at q43mkR_0_72 4) rfl
theorem dX12_init_79 : decode cX12_init 79 = .ok (.aload_n 0, 1) := dz_42 (dz_at q43mkR_0_72 7)
theorem dX12_init_80 : decode cX12_init 80 = .ok (.iconst 2, 1) := dz_5 (dz_at q43mkR_0_72 8)
theorem dX12_init_81 : decode cX12_init 81 = .ok (.newarray .int, 2) := by decide +kernel
theorem dX12_init_83 : decode cX12_init 83 = .ok (.putfield 41, 3) := dz_181 (dz_at q43mkR_0_72 11) rfl
theorem dX12_init_86 : decode cX12_init 86 = .ok (.aload_n 0, 1) := dz_42 (dz_at q43mkR_0_72 14)
theorem dX12_init_87 : decode cX12_init 87 = .ok (.bipush 6, 2) := dz_16 (dz_at q43mkR_0_72 15) (by decide +kernel)
theorem dX12_init_89 : decode cX12_init 89 = .ok (.newarray .int, 2) := by decide +kernel
theorem dX12_init_9 : decode cX12_init 9 = .ok (.putfield 9, 3) := dz_181 (dz_at q43mkR_0_0 9) rfl
theorem dX12_init_91 : decode cX12_init 91 = .ok (.putfield 44, 3) := dz_181 (dz_at q43mkR_0_72 19) rfl
theorem dX12_init_94 : decode cX12_init 94 = .ok (.aload_n 0, 1) := dz_42 (dz_at q43mkR_0_72 22)
theorem dX12_init_95 : decode cX12_init 95 = .ok (.bipush 6, 2) := dz_16 (dz_at q43mkR_0_95 0) (by decide +kernel)
theorem dX12_init_97 : decode cX12_init 97 = .ok (.newarray .int, 2) := by decide +kernel
theorem dX12_init_99 : decode cX12_init 99 = .ok (.putfield 47, 3) := dz_181 (dz_at q43mkR_0_95 4) rfl
def mT_R0 (T : zT) : zT := (tup (tup (tup (tup (tup (tup (tup (tup (tup (tup (tup (tup (tup (tup (tup (tup (tup (tup (tup (tup (tup (tup (tup (tup (tup (tup (tup (tup (tup (tup (tup (tup (tup T 0 0 1) 0 2 2) 0 4 3) 0 5 4) 0 6 5) 0 7 6) 0 8 7) 0 9 8) 0 11 9) 0 12 10) 0 13 11) 0 14 12) 0 15 13) 0 17 14) 0 23 15) 0 25 16) 0 26 17) 0 28 18) 0 29 19) 0 30 20) 0 31 21) 0 33 22) 0 38 23) 0 39 24) 0 40 25) 0 41 26) 0 42 27) 0 43 28) 0 44 29) 0 45 30) 0 46 31) 0 47 32) 0 49 33)
def mM_R0 (M : zM) : zM := (zup (zup (zup (zup (zup (zup (zup (zup (zup (zup (zup M 0 18 1) 0 20 1) 14 (1 : Int).toNat 100) 14 (2 : Int).toNat 100) 14 (3 : Int).toNat 100) 14 (4 : Int).toNat 100) 14 (5 : Int).toNat 100) 14 (6 : Int).toNat 100) 14 (7 : Int).toNat 100) 14 (8 : Int).toNat 100) 14 (9 : Int).toNat 100)
set_option maxHeartbeats 4000000 in
set_option maxRecDepth 100000 in
theorem mk_R0 (l : Launch) (D : va_G) (dA : Nat → ClassId) (b : Nat) (M : zM) (T : zT) : Met l yX12_init (.code yX12_init cX12_init 2 none :: zt) (y_rm 1 33 8839) (va_Pc [.ref (b + 0)] (yP D dA vwCl (z_tys dA) wR 1 b M T)) (va_Qv (fun _ => True) (yB D dA vwCl wR 34 b (mM_R0 M) (mT_R0 T)) (yA b)) 33 8839 (yA b) := by
  refine Met.ofW (cc := cX12_init) (maxL := 2) (ret := none) (by decide) rfl ?_
  intro p e s m args below meth c s₁ B hml hv
  obtain ⟨hargs, hY, hK, hO⟩ := hv
  have hx := B.exec
  have hb := B.bytes
  have hr := B.returns
  have hts := atoms_spec (ws := .code yX12_init cX12_init 2 none :: zt) B.pre
  have hown : s.vm.findClass RX12 = some m.cls := findClass_of_methodNamed B.named
  have hlocks := B.notSynchronized
  have hin : meth.name = "<init>" := (name_of_methodNamed B.named B.method).1
  have hS0 : va_S (yA b) s.heap s.heap [] := va_S.rf
  have hl := lv_entry ([.ref (b + 0)]) (n := 2) (Nat.le_of_ble_eq_true rfl)
  have hent : entryFrame m args 2 = F0 m 0 ((lg_sl ([.ref (b + 0)]) ++ List.replicate (2 - (lg_sl ([.ref (b + 0)])).length) Slot.unset).toArray) [] := by rw [hargs]; exact lg_entry_eq m ([.ref (b + 0)]) 2
  rw [hent]
  generalize (lg_sl ([.ref (b + 0)]) ++ List.replicate (2 - (lg_sl ([.ref (b + 0)])).length) Slot.unset).toArray = ls at hl ⊢
  have hl : lv_has ls 2 [(0, .ref (b + 0))] := hl
  refine lv_aload_n hx hb dX12_init_0 rfl (lv_at hl 0 rfl) ?_
  refine W.objInit hx hb hown (hts _ (z_mem k943)) (hts _ (z_mem k28)) (hts _ (z_mem k29)) rfl (by rw [hml]; exact hl.1) rfl dX12_init_1 (Nat.le_of_ble_eq_true rfl) (Nat.le_of_ble_eq_true rfl) ?_
  refine W.eq (g2 := F0 m 4 ls []) rfl ?_
  refine lv_aload_n hx hb dX12_init_4 rfl (lv_at hl 0 rfl) ?_
  refine z_bipush hx hb (by decide) dX12_init_5 ?_
  refine y_newa (atype := .byte) hx hb (hts _ (z_mem k1044)) (t0 := 2) (N := 100) (by decide) (by decide) (hK.1.2 2 _ rfl).2 rfl hY hS0 (zkd_of (rfl : zcd wR 1 = 51) rfl) (zln_of (rfl : zcd wR 1 = 51) rfl) (by decide) rfl (by decide) (by decide) (Nat.le_of_ble_eq_true rfl) (Nat.le_of_ble_eq_true rfl) dX12_init_7 (fun H hY hS0 => ?_)
  have hY : yS D dA vwCl wR 2 b _ _ H := hY
  refine y_putrF (t := 1) hx hb hts (z_memU u12) tyX12 tyX12_ok nmX12 hown hK.1 hY hS0 f12_0 (by decide) (zkd_of (rfl : zcd wR 0 = 50) rfl) (hts _ (z_mem k944)) rfl hin rfl (tyX12_ok 0 (by decide)) (fun _ => rfl) (fun _ => rfl) dX12_init_9 (fun H locs hY hS0 => ?_)
  refine lv_aload_n hx hb dX12_init_12 rfl (lv_at hl 0 rfl) ?_
  refine z_bipush hx hb (by decide) dX12_init_13 ?_
  refine y_newa (atype := .int) hx hb (hts _ (z_mem k53)) (t0 := 0) (N := 24) (by decide) (by decide) (hK.1.2 0 _ rfl).2 rfl hY hS0 (zkd_of (rfl : zcd wR 2 = 52) rfl) (zln_of (rfl : zcd wR 2 = 52) rfl) (by decide) rfl (by decide) (by decide) (Nat.le_of_ble_eq_true rfl) (Nat.le_of_ble_eq_true rfl) dX12_init_15 (fun H hY hS0 => ?_)
  have hY : yS D dA vwCl wR 3 b _ _ H := hY
  refine y_putrF (t := 2) hx hb hts (z_memU u12) tyX12 tyX12_ok nmX12 hown hK.1 hY hS0 f12_2 (by decide) (zkd_of (rfl : zcd wR 0 = 50) rfl) (hts _ (z_mem k946)) rfl hin rfl (tyX12_ok 2 (by decide)) (fun _ => rfl) (fun _ => rfl) dX12_init_17 (fun H locs hY hS0 => ?_)
  refine lv_aload_n hx hb dX12_init_20 rfl (lv_at hl 0 rfl) ?_
  refine z_bipush hx hb (by decide) dX12_init_21 ?_
  refine y_newa (atype := .int) hx hb (hts _ (z_mem k53)) (t0 := 0) (N := 96) (by decide) (by decide) (hK.1.2 0 _ rfl).2 rfl hY hS0 (zkd_of (rfl : zcd wR 3 = 53) rfl) (zln_of (rfl : zcd wR 3 = 53) rfl) (by decide) rfl (by decide) (by decide) (Nat.le_of_ble_eq_true rfl) (Nat.le_of_ble_eq_true rfl) dX12_init_23 (fun H hY hS0 => ?_)
  have hY : yS D dA vwCl wR 4 b _ _ H := hY
  refine y_putrF (t := 3) hx hb hts (z_memU u12) tyX12 tyX12_ok nmX12 hown hK.1 hY hS0 f12_4 (by decide) (zkd_of (rfl : zcd wR 0 = 50) rfl) (hts _ (z_mem k948)) rfl hin rfl (tyX12_ok 4 (by decide)) (fun _ => rfl) (fun _ => rfl) dX12_init_25 (fun H locs hY hS0 => ?_)
  refine lv_aload_n hx hb dX12_init_28 rfl (lv_at hl 0 rfl) ?_
  refine z_iconst hx hb dX12_init_29 ?_
  refine y_newa (atype := .int) hx hb (hts _ (z_mem k53)) (t0 := 0) (N := 4) (by decide) (by decide) (hK.1.2 0 _ rfl).2 rfl hY hS0 (zkd_of (rfl : zcd wR 4 = 54) rfl) (zln_of (rfl : zcd wR 4 = 54) rfl) (by decide) rfl (by decide) (by decide) (Nat.le_of_ble_eq_true rfl) (Nat.le_of_ble_eq_true rfl) dX12_init_30 (fun H hY hS0 => ?_)
  have hY : yS D dA vwCl wR 5 b _ _ H := hY
  refine y_putrF (t := 4) hx hb hts (z_memU u12) tyX12 tyX12_ok nmX12 hown hK.1 hY hS0 f12_5 (by decide) (zkd_of (rfl : zcd wR 0 = 50) rfl) (hts _ (z_mem k949)) rfl hin rfl (tyX12_ok 5 (by decide)) (fun _ => rfl) (fun _ => rfl) dX12_init_32 (fun H locs hY hS0 => ?_)
  refine lv_aload_n hx hb dX12_init_35 rfl (lv_at hl 0 rfl) ?_
  refine z_iconst hx hb dX12_init_36 ?_
  refine y_newa (atype := .int) hx hb (hts _ (z_mem k53)) (t0 := 0) (N := 4) (by decide) (by decide) (hK.1.2 0 _ rfl).2 rfl hY hS0 (zkd_of (rfl : zcd wR 5 = 55) rfl) (zln_of (rfl : zcd wR 5 = 55) rfl) (by decide) rfl (by decide) (by decide) (Nat.le_of_ble_eq_true rfl) (Nat.le_of_ble_eq_true rfl) dX12_init_37 (fun H hY hS0 => ?_)
  have hY : yS D dA vwCl wR 6 b _ _ H := hY
  refine y_putrF (t := 5) hx hb hts (z_memU u12) tyX12 tyX12_ok nmX12 hown hK.1 hY hS0 f12_6 (by decide) (zkd_of (rfl : zcd wR 0 = 50) rfl) (hts _ (z_mem k950)) rfl hin rfl (tyX12_ok 6 (by decide)) (fun _ => rfl) (fun _ => rfl) dX12_init_39 (fun H locs hY hS0 => ?_)
  refine lv_aload_n hx hb dX12_init_42 rfl (lv_at hl 0 rfl) ?_
  refine z_iconst hx hb dX12_init_43 ?_
  refine y_newa (atype := .int) hx hb (hts _ (z_mem k53)) (t0 := 0) (N := 4) (by decide) (by decide) (hK.1.2 0 _ rfl).2 rfl hY hS0 (zkd_of (rfl : zcd wR 6 = 56) rfl) (zln_of (rfl : zcd wR 6 = 56) rfl) (by decide) rfl (by decide) (by decide) (Nat.le_of_ble_eq_true rfl) (Nat.le_of_ble_eq_true rfl) dX12_init_44 (fun H hY hS0 => ?_)
  have hY : yS D dA vwCl wR 7 b _ _ H := hY
  refine y_putrF (t := 6) hx hb hts (z_memU u12) tyX12 tyX12_ok nmX12 hown hK.1 hY hS0 f12_7 (by decide) (zkd_of (rfl : zcd wR 0 = 50) rfl) (hts _ (z_mem k951)) rfl hin rfl (tyX12_ok 7 (by decide)) (fun _ => rfl) (fun _ => rfl) dX12_init_46 (fun H locs hY hS0 => ?_)
  refine lv_aload_n hx hb dX12_init_49 rfl (lv_at hl 0 rfl) ?_
  refine z_iconst hx hb dX12_init_50 ?_
  refine y_newa (atype := .int) hx hb (hts _ (z_mem k53)) (t0 := 0) (N := 4) (by decide) (by decide) (hK.1.2 0 _ rfl).2 rfl hY hS0 (zkd_of (rfl : zcd wR 7 = 57) rfl) (zln_of (rfl : zcd wR 7 = 57) rfl) (by decide) rfl (by decide) (by decide) (Nat.le_of_ble_eq_true rfl) (Nat.le_of_ble_eq_true rfl) dX12_init_51 (fun H hY hS0 => ?_)
  have hY : yS D dA vwCl wR 8 b _ _ H := hY
  refine y_putrF (t := 7) hx hb hts (z_memU u12) tyX12 tyX12_ok nmX12 hown hK.1 hY hS0 f12_8 (by decide) (zkd_of (rfl : zcd wR 0 = 50) rfl) (hts _ (z_mem k952)) rfl hin rfl (tyX12_ok 8 (by decide)) (fun _ => rfl) (fun _ => rfl) dX12_init_53 (fun H locs hY hS0 => ?_)
  refine lv_aload_n hx hb dX12_init_56 rfl (lv_at hl 0 rfl) ?_
  refine z_iconst hx hb dX12_init_57 ?_
  refine y_newa (atype := .int) hx hb (hts _ (z_mem k53)) (t0 := 0) (N := 4) (by decide) (by decide) (hK.1.2 0 _ rfl).2 rfl hY hS0 (zkd_of (rfl : zcd wR 8 = 58) rfl) (zln_of (rfl : zcd wR 8 = 58) rfl) (by decide) rfl (by decide) (by decide) (Nat.le_of_ble_eq_true rfl) (Nat.le_of_ble_eq_true rfl) dX12_init_58 (fun H hY hS0 => ?_)
  have hY : yS D dA vwCl wR 9 b _ _ H := hY
  refine y_putrF (t := 8) hx hb hts (z_memU u12) tyX12 tyX12_ok nmX12 hown hK.1 hY hS0 f12_9 (by decide) (zkd_of (rfl : zcd wR 0 = 50) rfl) (hts _ (z_mem k953)) rfl hin rfl (tyX12_ok 9 (by decide)) (fun _ => rfl) (fun _ => rfl) dX12_init_60 (fun H locs hY hS0 => ?_)
  refine lv_aload_n hx hb dX12_init_63 rfl (lv_at hl 0 rfl) ?_
  refine z_bipush hx hb (by decide) dX12_init_64 ?_
  refine y_newa (atype := .int) hx hb (hts _ (z_mem k53)) (t0 := 0) (N := 24) (by decide) (by decide) (hK.1.2 0 _ rfl).2 rfl hY hS0 (zkd_of (rfl : zcd wR 9 = 59) rfl) (zln_of (rfl : zcd wR 9 = 59) rfl) (by decide) rfl (by decide) (by decide) (Nat.le_of_ble_eq_true rfl) (Nat.le_of_ble_eq_true rfl) dX12_init_66 (fun H hY hS0 => ?_)
  have hY : yS D dA vwCl wR 10 b _ _ H := hY
  refine y_putrF (t := 9) hx hb hts (z_memU u12) tyX12 tyX12_ok nmX12 hown hK.1 hY hS0 f12_11 (by decide) (zkd_of (rfl : zcd wR 0 = 50) rfl) (hts _ (z_mem k955)) rfl hin rfl (tyX12_ok 11 (by decide)) (fun _ => rfl) (fun _ => rfl) dX12_init_68 (fun H locs hY hS0 => ?_)
  refine lv_aload_n hx hb dX12_init_71 rfl (lv_at hl 0 rfl) ?_
  refine z_bipush hx hb (by decide) dX12_init_72 ?_
  refine y_newa (atype := .int) hx hb (hts _ (z_mem k53)) (t0 := 0) (N := 24) (by decide) (by decide) (hK.1.2 0 _ rfl).2 rfl hY hS0 (zkd_of (rfl : zcd wR 10 = 60) rfl) (zln_of (rfl : zcd wR 10 = 60) rfl) (by decide) rfl (by decide) (by decide) (Nat.le_of_ble_eq_true rfl) (Nat.le_of_ble_eq_true rfl) dX12_init_74 (fun H hY hS0 => ?_)
  have hY : yS D dA vwCl wR 11 b _ _ H := hY
  refine y_putrF (t := 10) hx hb hts (z_memU u12) tyX12 tyX12_ok nmX12 hown hK.1 hY hS0 f12_12 (by decide) (zkd_of (rfl : zcd wR 0 = 50) rfl) (hts _ (z_mem k956)) rfl hin rfl (tyX12_ok 12 (by decide)) (fun _ => rfl) (fun _ => rfl) dX12_init_76 (fun H locs hY hS0 => ?_)
  refine lv_aload_n hx hb dX12_init_79 rfl (lv_at hl 0 rfl) ?_
  refine z_iconst hx hb dX12_init_80 ?_
  refine y_newa (atype := .int) hx hb (hts _ (z_mem k53)) (t0 := 0) (N := 2) (by decide) (by decide) (hK.1.2 0 _ rfl).2 rfl hY hS0 (zkd_of (rfl : zcd wR 11 = 61) rfl) (zln_of (rfl : zcd wR 11 = 61) rfl) (by decide) rfl (by decide) (by decide) (Nat.le_of_ble_eq_true rfl) (Nat.le_of_ble_eq_true rfl) dX12_init_81 (fun H hY hS0 => ?_)
  have hY : yS D dA vwCl wR 12 b _ _ H := hY
  refine y_putrF (t := 11) hx hb hts (z_memU u12) tyX12 tyX12_ok nmX12 hown hK.1 hY hS0 f12_13 (by decide) (zkd_of (rfl : zcd wR 0 = 50) rfl) (hts _ (z_mem k957)) rfl hin rfl (tyX12_ok 13 (by decide)) (fun _ => rfl) (fun _ => rfl) dX12_init_83 (fun H locs hY hS0 => ?_)
  refine lv_aload_n hx hb dX12_init_86 rfl (lv_at hl 0 rfl) ?_
  refine z_bipush hx hb (by decide) dX12_init_87 ?_
  refine y_newa (atype := .int) hx hb (hts _ (z_mem k53)) (t0 := 0) (N := 6) (by decide) (by decide) (hK.1.2 0 _ rfl).2 rfl hY hS0 (zkd_of (rfl : zcd wR 12 = 62) rfl) (zln_of (rfl : zcd wR 12 = 62) rfl) (by decide) rfl (by decide) (by decide) (Nat.le_of_ble_eq_true rfl) (Nat.le_of_ble_eq_true rfl) dX12_init_89 (fun H hY hS0 => ?_)
  have hY : yS D dA vwCl wR 13 b _ _ H := hY
  refine y_putrF (t := 12) hx hb hts (z_memU u12) tyX12 tyX12_ok nmX12 hown hK.1 hY hS0 f12_14 (by decide) (zkd_of (rfl : zcd wR 0 = 50) rfl) (hts _ (z_mem k958)) rfl hin rfl (tyX12_ok 14 (by decide)) (fun _ => rfl) (fun _ => rfl) dX12_init_91 (fun H locs hY hS0 => ?_)
  refine lv_aload_n hx hb dX12_init_94 rfl (lv_at hl 0 rfl) ?_
  refine z_bipush hx hb (by decide) dX12_init_95 ?_
  refine y_newa (atype := .int) hx hb (hts _ (z_mem k53)) (t0 := 0) (N := 6) (by decide) (by decide) (hK.1.2 0 _ rfl).2 rfl hY hS0 (zkd_of (rfl : zcd wR 13 = 63) rfl) (zln_of (rfl : zcd wR 13 = 63) rfl) (by decide) rfl (by decide) (by decide) (Nat.le_of_ble_eq_true rfl) (Nat.le_of_ble_eq_true rfl) dX12_init_97 (fun H hY hS0 => ?_)
  have hY : yS D dA vwCl wR 14 b _ _ H := hY
  refine y_putrF (t := 13) hx hb hts (z_memU u12) tyX12 tyX12_ok nmX12 hown hK.1 hY hS0 f12_15 (by decide) (zkd_of (rfl : zcd wR 0 = 50) rfl) (hts _ (z_mem k959)) rfl hin rfl (tyX12_ok 15 (by decide)) (fun _ => rfl) (fun _ => rfl) dX12_init_99 (fun H locs hY hS0 => ?_)
  refine lv_aload_n hx hb dX12_init_102 rfl (lv_at hl 0 rfl) ?_
  refine z_bipush hx hb (by decide) dX12_init_103 ?_
  refine y_newa (atype := .int) hx hb (hts _ (z_mem k53)) (t0 := 0) (N := 10) (by decide) (by decide) (hK.1.2 0 _ rfl).2 rfl hY hS0 (zkd_of (rfl : zcd wR 14 = 64) rfl) (zln_of (rfl : zcd wR 14 = 64) rfl) (by decide) rfl (by decide) (by decide) (Nat.le_of_ble_eq_true rfl) (Nat.le_of_ble_eq_true rfl) dX12_init_105 (fun H hY hS0 => ?_)
  have hY : yS D dA vwCl wR 15 b _ _ H := hY
  refine y_putrF (t := 14) hx hb hts (z_memU u12) tyX12 tyX12_ok nmX12 hown hK.1 hY hS0 f12_17 (by decide) (zkd_of (rfl : zcd wR 0 = 50) rfl) (hts _ (z_mem k961)) rfl hin rfl (tyX12_ok 17 (by decide)) (fun _ => rfl) (fun _ => rfl) dX12_init_107 (fun H locs hY hS0 => ?_)
  refine lv_aload_n hx hb dX12_init_110 rfl (lv_at hl 0 rfl) ?_
  refine z_iconst hx hb dX12_init_111 ?_
  refine y_puti (z := 1) hx hb hts (z_memU u12) tyX12 tyX12_ok nmX12 hown hK.1 hY hS0 f12_18 (by decide) (zkd_of (rfl : zcd wR 0 = 50) rfl) (Or.inl (hts _ (z_mem k962))) rfl (by decide +kernel) (zbd_in (rfl : zcd wR 0 = 50) rfl (by decide)) dX12_init_112 (fun H locs hY hS0 => ?_)
  refine lv_aload_n hx hb dX12_init_115 rfl (lv_at hl 0 rfl) ?_
  refine z_iconst hx hb dX12_init_116 ?_
  refine y_puti (z := 1) hx hb hts (z_memU u12) tyX12 tyX12_ok nmX12 hown hK.1 hY hS0 f12_20 (by decide) (zkd_of (rfl : zcd wR 0 = 50) rfl) (Or.inl (hts _ (z_mem k964))) rfl (by decide +kernel) (zbd_in (rfl : zcd wR 0 = 50) rfl (by decide)) dX12_init_117 (fun H locs hY hS0 => ?_)
  refine lv_aload_n hx hb dX12_init_120 rfl (lv_at hl 0 rfl) ?_
  refine z_bipush hx hb (by decide) dX12_init_121 ?_
  refine y_newa (atype := .int) hx hb (hts _ (z_mem k53)) (t0 := 0) (N := 60) (by decide) (by decide) (hK.1.2 0 _ rfl).2 rfl hY hS0 (zkd_of (rfl : zcd wR 15 = 65) rfl) (zln_of (rfl : zcd wR 15 = 65) rfl) (by decide) rfl (by decide) (by decide) (Nat.le_of_ble_eq_true rfl) (Nat.le_of_ble_eq_true rfl) dX12_init_123 (fun H hY hS0 => ?_)
  have hY : yS D dA vwCl wR 16 b _ _ H := hY
  refine y_putrF (t := 15) hx hb hts (z_memU u12) tyX12 tyX12_ok nmX12 hown hK.1 hY hS0 f12_23 (by decide) (zkd_of (rfl : zcd wR 0 = 50) rfl) (hts _ (z_mem k967)) rfl hin rfl (tyX12_ok 23 (by decide)) (fun _ => rfl) (fun _ => rfl) dX12_init_125 (fun H locs hY hS0 => ?_)
  refine lv_aload_n hx hb dX12_init_128 rfl (lv_at hl 0 rfl) ?_
  refine z_bipush hx hb (by decide) dX12_init_129 ?_
  refine y_newa (atype := .int) hx hb (hts _ (z_mem k53)) (t0 := 0) (N := 40) (by decide) (by decide) (hK.1.2 0 _ rfl).2 rfl hY hS0 (zkd_of (rfl : zcd wR 16 = 66) rfl) (zln_of (rfl : zcd wR 16 = 66) rfl) (by decide) rfl (by decide) (by decide) (Nat.le_of_ble_eq_true rfl) (Nat.le_of_ble_eq_true rfl) dX12_init_131 (fun H hY hS0 => ?_)
  have hY : yS D dA vwCl wR 17 b _ _ H := hY
  refine y_putrF (t := 16) hx hb hts (z_memU u12) tyX12 tyX12_ok nmX12 hown hK.1 hY hS0 f12_25 (by decide) (zkd_of (rfl : zcd wR 0 = 50) rfl) (hts _ (z_mem k969)) rfl hin rfl (tyX12_ok 25 (by decide)) (fun _ => rfl) (fun _ => rfl) dX12_init_133 (fun H locs hY hS0 => ?_)
  refine lv_aload_n hx hb dX12_init_136 rfl (lv_at hl 0 rfl) ?_
  refine z_iconst hx hb dX12_init_137 ?_
  refine y_newa (atype := .int) hx hb (hts _ (z_mem k53)) (t0 := 0) (N := 5) (by decide) (by decide) (hK.1.2 0 _ rfl).2 rfl hY hS0 (zkd_of (rfl : zcd wR 17 = 67) rfl) (zln_of (rfl : zcd wR 17 = 67) rfl) (by decide) rfl (by decide) (by decide) (Nat.le_of_ble_eq_true rfl) (Nat.le_of_ble_eq_true rfl) dX12_init_138 (fun H hY hS0 => ?_)
  have hY : yS D dA vwCl wR 18 b _ _ H := hY
  refine y_putrF (t := 17) hx hb hts (z_memU u12) tyX12 tyX12_ok nmX12 hown hK.1 hY hS0 f12_26 (by decide) (zkd_of (rfl : zcd wR 0 = 50) rfl) (hts _ (z_mem k970)) rfl hin rfl (tyX12_ok 26 (by decide)) (fun _ => rfl) (fun _ => rfl) dX12_init_140 (fun H locs hY hS0 => ?_)
  refine lv_aload_n hx hb dX12_init_143 rfl (lv_at hl 0 rfl) ?_
  refine z_sipush hx hb (by decide) dX12_init_144 ?_
  refine y_newa (atype := .int) hx hb (hts _ (z_mem k53)) (t0 := 0) (N := 384) (by decide) (by decide) (hK.1.2 0 _ rfl).2 rfl hY hS0 (zkd_of (rfl : zcd wR 18 = 68) rfl) (zln_of (rfl : zcd wR 18 = 68) rfl) (by decide) rfl (by decide) (by decide) (Nat.le_of_ble_eq_true rfl) (Nat.le_of_ble_eq_true rfl) dX12_init_147 (fun H hY hS0 => ?_)
  have hY : yS D dA vwCl wR 19 b _ _ H := hY
  refine y_putrF (t := 18) hx hb hts (z_memU u12) tyX12 tyX12_ok nmX12 hown hK.1 hY hS0 f12_28 (by decide) (zkd_of (rfl : zcd wR 0 = 50) rfl) (hts _ (z_mem k972)) rfl hin rfl (tyX12_ok 28 (by decide)) (fun _ => rfl) (fun _ => rfl) dX12_init_149 (fun H locs hY hS0 => ?_)
  refine lv_aload_n hx hb dX12_init_152 rfl (lv_at hl 0 rfl) ?_
  refine z_bipush hx hb (by decide) dX12_init_153 ?_
  refine y_newa (atype := .int) hx hb (hts _ (z_mem k53)) (t0 := 0) (N := 16) (by decide) (by decide) (hK.1.2 0 _ rfl).2 rfl hY hS0 (zkd_of (rfl : zcd wR 19 = 69) rfl) (zln_of (rfl : zcd wR 19 = 69) rfl) (by decide) rfl (by decide) (by decide) (Nat.le_of_ble_eq_true rfl) (Nat.le_of_ble_eq_true rfl) dX12_init_155 (fun H hY hS0 => ?_)
  have hY : yS D dA vwCl wR 20 b _ _ H := hY
  refine y_putrF (t := 19) hx hb hts (z_memU u12) tyX12 tyX12_ok nmX12 hown hK.1 hY hS0 f12_29 (by decide) (zkd_of (rfl : zcd wR 0 = 50) rfl) (hts _ (z_mem k973)) rfl hin rfl (tyX12_ok 29 (by decide)) (fun _ => rfl) (fun _ => rfl) dX12_init_157 (fun H locs hY hS0 => ?_)
  refine lv_aload_n hx hb dX12_init_160 rfl (lv_at hl 0 rfl) ?_
  refine z_bipush hx hb (by decide) dX12_init_161 ?_
  refine y_newa (atype := .int) hx hb (hts _ (z_mem k53)) (t0 := 0) (N := 16) (by decide) (by decide) (hK.1.2 0 _ rfl).2 rfl hY hS0 (zkd_of (rfl : zcd wR 20 = 70) rfl) (zln_of (rfl : zcd wR 20 = 70) rfl) (by decide) rfl (by decide) (by decide) (Nat.le_of_ble_eq_true rfl) (Nat.le_of_ble_eq_true rfl) dX12_init_163 (fun H hY hS0 => ?_)
  have hY : yS D dA vwCl wR 21 b _ _ H := hY
  refine y_putrF (t := 20) hx hb hts (z_memU u12) tyX12 tyX12_ok nmX12 hown hK.1 hY hS0 f12_30 (by decide) (zkd_of (rfl : zcd wR 0 = 50) rfl) (hts _ (z_mem k974)) rfl hin rfl (tyX12_ok 30 (by decide)) (fun _ => rfl) (fun _ => rfl) dX12_init_165 (fun H locs hY hS0 => ?_)
  refine lv_aload_n hx hb dX12_init_168 rfl (lv_at hl 0 rfl) ?_
  refine z_bipush hx hb (by decide) dX12_init_169 ?_
  refine y_newa (atype := .int) hx hb (hts _ (z_mem k53)) (t0 := 0) (N := 16) (by decide) (by decide) (hK.1.2 0 _ rfl).2 rfl hY hS0 (zkd_of (rfl : zcd wR 21 = 71) rfl) (zln_of (rfl : zcd wR 21 = 71) rfl) (by decide) rfl (by decide) (by decide) (Nat.le_of_ble_eq_true rfl) (Nat.le_of_ble_eq_true rfl) dX12_init_171 (fun H hY hS0 => ?_)
  have hY : yS D dA vwCl wR 22 b _ _ H := hY
  refine y_putrF (t := 21) hx hb hts (z_memU u12) tyX12 tyX12_ok nmX12 hown hK.1 hY hS0 f12_31 (by decide) (zkd_of (rfl : zcd wR 0 = 50) rfl) (hts _ (z_mem k975)) rfl hin rfl (tyX12_ok 31 (by decide)) (fun _ => rfl) (fun _ => rfl) dX12_init_173 (fun H locs hY hS0 => ?_)
  refine lv_aload_n hx hb dX12_init_176 rfl (lv_at hl 0 rfl) ?_
  refine z_bipush hx hb (by decide) dX12_init_177 ?_
  refine y_newa (atype := .int) hx hb (hts _ (z_mem k53)) (t0 := 0) (N := 64) (by decide) (by decide) (hK.1.2 0 _ rfl).2 rfl hY hS0 (zkd_of (rfl : zcd wR 22 = 72) rfl) (zln_of (rfl : zcd wR 22 = 72) rfl) (by decide) rfl (by decide) (by decide) (Nat.le_of_ble_eq_true rfl) (Nat.le_of_ble_eq_true rfl) dX12_init_179 (fun H hY hS0 => ?_)
  have hY : yS D dA vwCl wR 23 b _ _ H := hY
  refine y_putrF (t := 22) hx hb hts (z_memU u12) tyX12 tyX12_ok nmX12 hown hK.1 hY hS0 f12_33 (by decide) (zkd_of (rfl : zcd wR 0 = 50) rfl) (hts _ (z_mem k977)) rfl hin rfl (tyX12_ok 33 (by decide)) (fun _ => rfl) (fun _ => rfl) dX12_init_181 (fun H locs hY hS0 => ?_)
  refine lv_aload_n hx hb dX12_init_184 rfl (lv_at hl 0 rfl) ?_
  refine z_sipush hx hb (by decide) dX12_init_185 ?_
  refine y_newa (atype := .int) hx hb (hts _ (z_mem k53)) (t0 := 0) (N := 144) (by decide) (by decide) (hK.1.2 0 _ rfl).2 rfl hY hS0 (zkd_of (rfl : zcd wR 23 = 73) rfl) (zln_of (rfl : zcd wR 23 = 73) rfl) (by decide) rfl (by decide) (by decide) (Nat.le_of_ble_eq_true rfl) (Nat.le_of_ble_eq_true rfl) dX12_init_188 (fun H hY hS0 => ?_)
  have hY : yS D dA vwCl wR 24 b _ _ H := hY
  refine y_putrF (t := 23) hx hb hts (z_memU u12) tyX12 tyX12_ok nmX12 hown hK.1 hY hS0 f12_38 (by decide) (zkd_of (rfl : zcd wR 0 = 50) rfl) (hts _ (z_mem k982)) rfl hin rfl (tyX12_ok 38 (by decide)) (fun _ => rfl) (fun _ => rfl) dX12_init_190 (fun H locs hY hS0 => ?_)
  refine lv_aload_n hx hb dX12_init_193 rfl (lv_at hl 0 rfl) ?_
  refine z_bipush hx hb (by decide) dX12_init_194 ?_
  refine y_newa (atype := .int) hx hb (hts _ (z_mem k53)) (t0 := 0) (N := 6) (by decide) (by decide) (hK.1.2 0 _ rfl).2 rfl hY hS0 (zkd_of (rfl : zcd wR 24 = 74) rfl) (zln_of (rfl : zcd wR 24 = 74) rfl) (by decide) rfl (by decide) (by decide) (Nat.le_of_ble_eq_true rfl) (Nat.le_of_ble_eq_true rfl) dX12_init_196 (fun H hY hS0 => ?_)
  have hY : yS D dA vwCl wR 25 b _ _ H := hY
  refine y_putrF (t := 24) hx hb hts (z_memU u12) tyX12 tyX12_ok nmX12 hown hK.1 hY hS0 f12_39 (by decide) (zkd_of (rfl : zcd wR 0 = 50) rfl) (hts _ (z_mem k983)) rfl hin rfl (tyX12_ok 39 (by decide)) (fun _ => rfl) (fun _ => rfl) dX12_init_198 (fun H locs hY hS0 => ?_)
  refine lv_aload_n hx hb dX12_init_201 rfl (lv_at hl 0 rfl) ?_
  refine z_sipush hx hb (by decide) dX12_init_202 ?_
  refine y_newa (atype := .int) hx hb (hts _ (z_mem k53)) (t0 := 0) (N := 144) (by decide) (by decide) (hK.1.2 0 _ rfl).2 rfl hY hS0 (zkd_of (rfl : zcd wR 25 = 75) rfl) (zln_of (rfl : zcd wR 25 = 75) rfl) (by decide) rfl (by decide) (by decide) (Nat.le_of_ble_eq_true rfl) (Nat.le_of_ble_eq_true rfl) dX12_init_205 (fun H hY hS0 => ?_)
  have hY : yS D dA vwCl wR 26 b _ _ H := hY
  refine y_putrF (t := 25) hx hb hts (z_memU u12) tyX12 tyX12_ok nmX12 hown hK.1 hY hS0 f12_40 (by decide) (zkd_of (rfl : zcd wR 0 = 50) rfl) (hts _ (z_mem k984)) rfl hin rfl (tyX12_ok 40 (by decide)) (fun _ => rfl) (fun _ => rfl) dX12_init_207 (fun H locs hY hS0 => ?_)
  refine lv_aload_n hx hb dX12_init_210 rfl (lv_at hl 0 rfl) ?_
  refine z_bipush hx hb (by decide) dX12_init_211 ?_
  refine y_newa (atype := .int) hx hb (hts _ (z_mem k53)) (t0 := 0) (N := 6) (by decide) (by decide) (hK.1.2 0 _ rfl).2 rfl hY hS0 (zkd_of (rfl : zcd wR 26 = 76) rfl) (zln_of (rfl : zcd wR 26 = 76) rfl) (by decide) rfl (by decide) (by decide) (Nat.le_of_ble_eq_true rfl) (Nat.le_of_ble_eq_true rfl) dX12_init_213 (fun H hY hS0 => ?_)
  have hY : yS D dA vwCl wR 27 b _ _ H := hY
  refine y_putrF (t := 26) hx hb hts (z_memU u12) tyX12 tyX12_ok nmX12 hown hK.1 hY hS0 f12_41 (by decide) (zkd_of (rfl : zcd wR 0 = 50) rfl) (hts _ (z_mem k985)) rfl hin rfl (tyX12_ok 41 (by decide)) (fun _ => rfl) (fun _ => rfl) dX12_init_215 (fun H locs hY hS0 => ?_)
  refine lv_aload_n hx hb dX12_init_218 rfl (lv_at hl 0 rfl) ?_
  refine z_bipush hx hb (by decide) dX12_init_219 ?_
  refine y_newa (atype := .boolean) hx hb (hts _ (z_mem k1045)) (t0 := 3) (N := 96) (by decide) (by decide) (hK.1.2 3 _ rfl).2 rfl hY hS0 (zkd_of (rfl : zcd wR 27 = 77) rfl) (zln_of (rfl : zcd wR 27 = 77) rfl) (by decide) rfl (by decide) (by decide) (Nat.le_of_ble_eq_true rfl) (Nat.le_of_ble_eq_true rfl) dX12_init_221 (fun H hY hS0 => ?_)
  have hY : yS D dA vwCl wR 28 b _ _ H := hY
  refine y_putrF (t := 27) hx hb hts (z_memU u12) tyX12 tyX12_ok nmX12 hown hK.1 hY hS0 f12_42 (by decide) (zkd_of (rfl : zcd wR 0 = 50) rfl) (hts _ (z_mem k986)) rfl hin rfl (tyX12_ok 42 (by decide)) (fun _ => rfl) (fun _ => rfl) dX12_init_223 (fun H locs hY hS0 => ?_)
  refine lv_aload_n hx hb dX12_init_226 rfl (lv_at hl 0 rfl) ?_
  refine z_sipush hx hb (by decide) dX12_init_227 ?_
  refine y_newa (atype := .int) hx hb (hts _ (z_mem k53)) (t0 := 0) (N := 320) (by decide) (by decide) (hK.1.2 0 _ rfl).2 rfl hY hS0 (zkd_of (rfl : zcd wR 28 = 78) rfl) (zln_of (rfl : zcd wR 28 = 78) rfl) (by decide) rfl (by decide) (by decide) (Nat.le_of_ble_eq_true rfl) (Nat.le_of_ble_eq_true rfl) dX12_init_230 (fun H hY hS0 => ?_)
  have hY : yS D dA vwCl wR 29 b _ _ H := hY
  refine y_putrF (t := 28) hx hb hts (z_memU u12) tyX12 tyX12_ok nmX12 hown hK.1 hY hS0 f12_43 (by decide) (zkd_of (rfl : zcd wR 0 = 50) rfl) (hts _ (z_mem k987)) rfl hin rfl (tyX12_ok 43 (by decide)) (fun _ => rfl) (fun _ => rfl) dX12_init_232 (fun H locs hY hS0 => ?_)
  refine lv_aload_n hx hb dX12_init_235 rfl (lv_at hl 0 rfl) ?_
  refine z_sipush hx hb (by decide) dX12_init_236 ?_
  refine y_newa (atype := .int) hx hb (hts _ (z_mem k53)) (t0 := 0) (N := 2304) (by decide) (by decide) (hK.1.2 0 _ rfl).2 rfl hY hS0 (zkd_of (rfl : zcd wR 29 = 79) rfl) (zln_of (rfl : zcd wR 29 = 79) rfl) (by decide) rfl (by decide) (by decide) (Nat.le_of_ble_eq_true rfl) (Nat.le_of_ble_eq_true rfl) dX12_init_239 (fun H hY hS0 => ?_)
  have hY : yS D dA vwCl wR 30 b _ _ H := hY
  refine y_putrF (t := 29) hx hb hts (z_memU u12) tyX12 tyX12_ok nmX12 hown hK.1 hY hS0 f12_44 (by decide) (zkd_of (rfl : zcd wR 0 = 50) rfl) (hts _ (z_mem k988)) rfl hin rfl (tyX12_ok 44 (by decide)) (fun _ => rfl) (fun _ => rfl) dX12_init_241 (fun H locs hY hS0 => ?_)
  refine lv_aload_n hx hb dX12_init_244 rfl (lv_at hl 0 rfl) ?_
  refine z_sipush hx hb (by decide) dX12_init_245 ?_
  refine y_newa (atype := .int) hx hb (hts _ (z_mem k53)) (t0 := 0) (N := 4001) (by decide) (by decide) (hK.1.2 0 _ rfl).2 rfl hY hS0 (zkd_of (rfl : zcd wR 30 = 80) rfl) (zln_of (rfl : zcd wR 30 = 80) rfl) (by decide) rfl (by decide) (by decide) (Nat.le_of_ble_eq_true rfl) (Nat.le_of_ble_eq_true rfl) dX12_init_248 (fun H hY hS0 => ?_)
  have hY : yS D dA vwCl wR 31 b _ _ H := hY
  refine y_putrF (t := 30) hx hb hts (z_memU u12) tyX12 tyX12_ok nmX12 hown hK.1 hY hS0 f12_45 (by decide) (zkd_of (rfl : zcd wR 0 = 50) rfl) (hts _ (z_mem k989)) rfl hin rfl (tyX12_ok 45 (by decide)) (fun _ => rfl) (fun _ => rfl) dX12_init_250 (fun H locs hY hS0 => ?_)
  refine lv_aload_n hx hb dX12_init_253 rfl (lv_at hl 0 rfl) ?_
  refine z_sipush hx hb (by decide) dX12_init_254 ?_
  refine y_newa (atype := .int) hx hb (hts _ (z_mem k53)) (t0 := 0) (N := 240) (by decide) (by decide) (hK.1.2 0 _ rfl).2 rfl hY hS0 (zkd_of (rfl : zcd wR 31 = 81) rfl) (zln_of (rfl : zcd wR 31 = 81) rfl) (by decide) rfl (by decide) (by decide) (Nat.le_of_ble_eq_true rfl) (Nat.le_of_ble_eq_true rfl) dX12_init_257 (fun H hY hS0 => ?_)
  have hY : yS D dA vwCl wR 32 b _ _ H := hY
  refine y_putrF (t := 31) hx hb hts (z_memU u12) tyX12 tyX12_ok nmX12 hown hK.1 hY hS0 f12_46 (by decide) (zkd_of (rfl : zcd wR 0 = 50) rfl) (hts _ (z_mem k990)) rfl hin rfl (tyX12_ok 46 (by decide)) (fun _ => rfl) (fun _ => rfl) dX12_init_259 (fun H locs hY hS0 => ?_)
  refine lv_aload_n hx hb dX12_init_262 rfl (lv_at hl 0 rfl) ?_
  refine z_bipush hx hb (by decide) dX12_init_263 ?_
  refine y_newa (atype := .int) hx hb (hts _ (z_mem k53)) (t0 := 0) (N := 40) (by decide) (by decide) (hK.1.2 0 _ rfl).2 rfl hY hS0 (zkd_of (rfl : zcd wR 32 = 82) rfl) (zln_of (rfl : zcd wR 32 = 82) rfl) (by decide) rfl (by decide) (by decide) (Nat.le_of_ble_eq_true rfl) (Nat.le_of_ble_eq_true rfl) dX12_init_265 (fun H hY hS0 => ?_)
  have hY : yS D dA vwCl wR 33 b _ _ H := hY
  refine y_putrF (t := 32) hx hb hts (z_memU u12) tyX12 tyX12_ok nmX12 hown hK.1 hY hS0 f12_47 (by decide) (zkd_of (rfl : zcd wR 0 = 50) rfl) (hts _ (z_mem k991)) rfl hin rfl (tyX12_ok 47 (by decide)) (fun _ => rfl) (fun _ => rfl) dX12_init_267 (fun H locs hY hS0 => ?_)
  refine lv_aload_n hx hb dX12_init_270 rfl (lv_at hl 0 rfl) ?_
  refine z_sipush hx hb (by decide) dX12_init_271 ?_
  refine y_newa (atype := .int) hx hb (hts _ (z_mem k53)) (t0 := 0) (N := 625) (by decide) (by decide) (hK.1.2 0 _ rfl).2 rfl hY hS0 (zkd_of (rfl : zcd wR 33 = 83) rfl) (zln_of (rfl : zcd wR 33 = 83) rfl) (by decide) rfl (by decide) (by decide) (Nat.le_of_ble_eq_true rfl) (Nat.le_of_ble_eq_true rfl) dX12_init_274 (fun H hY hS0 => ?_)
  have hY : yS D dA vwCl wR 34 b _ _ H := hY
  refine y_putrF (t := 33) hx hb hts (z_memU u12) tyX12 tyX12_ok nmX12 hown hK.1 hY hS0 f12_49 (by decide) (zkd_of (rfl : zcd wR 0 = 50) rfl) (hts _ (z_mem k993)) rfl hin rfl (tyX12_ok 49 (by decide)) (fun _ => rfl) (fun _ => rfl) dX12_init_276 (fun H locs hY hS0 => ?_)
  refine z_iconst hx hb dX12_init_279 ?_
  refine lv_istore_n (lv' := [(1, .int (iI 1)), (0, .ref (b + 0))]) hx hb dX12_init_280 rfl hl (by decide) rfl (fun ls hl => ?_)
  refine lv_iload_n hx hb dX12_init_281 rfl (lv_at hl 0 rfl) ?_
  refine z_bipush hx hb (by decide) dX12_init_282 ?_
  refine z_icmp_ge (tgt := 301) hx hb (by decide) (by decide) dX12_init_284 (by decide) (fun c9 => absurd c9 (by decide)) (fun _ => ?_)
  refine lv_aload_n hx hb dX12_init_287 rfl (lv_at hl 1 rfl) ?_
  refine y_getr (t := 14) hx hb hts (z_memU u12) hown hK.1 hY f12_17 (by decide) (zkd_of (rfl : zcd wR 0 = 50) rfl) (by first | rfl | simp [tup]) (Or.inl (hts _ (z_mem k961))) dX12_init_288 ?_
  refine lv_iload_n hx hb dX12_init_291 rfl (lv_at hl 0 rfl) ?_
  refine z_bipush hx hb (by decide) dX12_init_292 ?_
  refine y_iast (N := 10) (z := 100) (i := 1) hx hb hK.1 (t0 := 0) rfl hY hS0 (by decide) (zkd_of (rfl : zcd wR 14 = 64) rfl) (zln_of (rfl : zcd wR 14 = 64) rfl) (by decide) (by decide) (by decide) (zbd_in (rfl : zcd wR 14 = 64) rfl (by decide)) dX12_init_294 (fun H locs hY hS0 => ?_)
  refine z_iinc (lv' := [(1, .int (iI (1 + 1))), (0, .ref (b + 0))]) hx hb dX12_init_295 hl (k := 0) rfl (by decide) rfl (fun ls hl => ?_)
  rw [show ((1 + 1) : Int) = 2 from by decide] at hl
  refine lv_goto (tgt := 281) hx hb dX12_init_298 (by decide) ?_
  refine lv_iload_n hx hb dX12_init_281 rfl (lv_at hl 0 rfl) ?_
  refine z_bipush hx hb (by decide) dX12_init_282 ?_
  refine z_icmp_ge (tgt := 301) hx hb (by decide) (by decide) dX12_init_284 (by decide) (fun c9 => absurd c9 (by decide)) (fun _ => ?_)
  refine lv_aload_n hx hb dX12_init_287 rfl (lv_at hl 1 rfl) ?_
  refine y_getr (t := 14) hx hb hts (z_memU u12) hown hK.1 hY f12_17 (by decide) (zkd_of (rfl : zcd wR 0 = 50) rfl) (by first | rfl | simp [tup]) (Or.inl (hts _ (z_mem k961))) dX12_init_288 ?_
  refine lv_iload_n hx hb dX12_init_291 rfl (lv_at hl 0 rfl) ?_
  refine z_bipush hx hb (by decide) dX12_init_292 ?_
  refine y_iast (N := 10) (z := 100) (i := 2) hx hb hK.1 (t0 := 0) rfl hY hS0 (by decide) (zkd_of (rfl : zcd wR 14 = 64) rfl) (zln_of (rfl : zcd wR 14 = 64) rfl) (by decide) (by decide) (by decide) (zbd_in (rfl : zcd wR 14 = 64) rfl (by decide)) dX12_init_294 (fun H locs hY hS0 => ?_)
  refine z_iinc (lv' := [(1, .int (iI (2 + 1))), (0, .ref (b + 0))]) hx hb dX12_init_295 hl (k := 0) rfl (by decide) rfl (fun ls hl => ?_)
  rw [show ((2 + 1) : Int) = 3 from by decide] at hl
  refine lv_goto (tgt := 281) hx hb dX12_init_298 (by decide) ?_
  refine lv_iload_n hx hb dX12_init_281 rfl (lv_at hl 0 rfl) ?_
  refine z_bipush hx hb (by decide) dX12_init_282 ?_
  refine z_icmp_ge (tgt := 301) hx hb (by decide) (by decide) dX12_init_284 (by decide) (fun c9 => absurd c9 (by decide)) (fun _ => ?_)
  refine lv_aload_n hx hb dX12_init_287 rfl (lv_at hl 1 rfl) ?_
  refine y_getr (t := 14) hx hb hts (z_memU u12) hown hK.1 hY f12_17 (by decide) (zkd_of (rfl : zcd wR 0 = 50) rfl) (by first | rfl | simp [tup]) (Or.inl (hts _ (z_mem k961))) dX12_init_288 ?_
  refine lv_iload_n hx hb dX12_init_291 rfl (lv_at hl 0 rfl) ?_
  refine z_bipush hx hb (by decide) dX12_init_292 ?_
  refine y_iast (N := 10) (z := 100) (i := 3) hx hb hK.1 (t0 := 0) rfl hY hS0 (by decide) (zkd_of (rfl : zcd wR 14 = 64) rfl) (zln_of (rfl : zcd wR 14 = 64) rfl) (by decide) (by decide) (by decide) (zbd_in (rfl : zcd wR 14 = 64) rfl (by decide)) dX12_init_294 (fun H locs hY hS0 => ?_)
  refine z_iinc (lv' := [(1, .int (iI (3 + 1))), (0, .ref (b + 0))]) hx hb dX12_init_295 hl (k := 0) rfl (by decide) rfl (fun ls hl => ?_)
  rw [show ((3 + 1) : Int) = 4 from by decide] at hl
  refine lv_goto (tgt := 281) hx hb dX12_init_298 (by decide) ?_
  refine lv_iload_n hx hb dX12_init_281 rfl (lv_at hl 0 rfl) ?_
  refine z_bipush hx hb (by decide) dX12_init_282 ?_
  refine z_icmp_ge (tgt := 301) hx hb (by decide) (by decide) dX12_init_284 (by decide) (fun c9 => absurd c9 (by decide)) (fun _ => ?_)
  refine lv_aload_n hx hb dX12_init_287 rfl (lv_at hl 1 rfl) ?_
  refine y_getr (t := 14) hx hb hts (z_memU u12) hown hK.1 hY f12_17 (by decide) (zkd_of (rfl : zcd wR 0 = 50) rfl) (by first | rfl | simp [tup]) (Or.inl (hts _ (z_mem k961))) dX12_init_288 ?_
  refine lv_iload_n hx hb dX12_init_291 rfl (lv_at hl 0 rfl) ?_
  refine z_bipush hx hb (by decide) dX12_init_292 ?_
  refine y_iast (N := 10) (z := 100) (i := 4) hx hb hK.1 (t0 := 0) rfl hY hS0 (by decide) (zkd_of (rfl : zcd wR 14 = 64) rfl) (zln_of (rfl : zcd wR 14 = 64) rfl) (by decide) (by decide) (by decide) (zbd_in (rfl : zcd wR 14 = 64) rfl (by decide)) dX12_init_294 (fun H locs hY hS0 => ?_)
  refine z_iinc (lv' := [(1, .int (iI (4 + 1))), (0, .ref (b + 0))]) hx hb dX12_init_295 hl (k := 0) rfl (by decide) rfl (fun ls hl => ?_)
  rw [show ((4 + 1) : Int) = 5 from by decide] at hl
  refine lv_goto (tgt := 281) hx hb dX12_init_298 (by decide) ?_
  refine lv_iload_n hx hb dX12_init_281 rfl (lv_at hl 0 rfl) ?_
  refine z_bipush hx hb (by decide) dX12_init_282 ?_
  refine z_icmp_ge (tgt := 301) hx hb (by decide) (by decide) dX12_init_284 (by decide) (fun c9 => absurd c9 (by decide)) (fun _ => ?_)
  refine lv_aload_n hx hb dX12_init_287 rfl (lv_at hl 1 rfl) ?_
  refine y_getr (t := 14) hx hb hts (z_memU u12) hown hK.1 hY f12_17 (by decide) (zkd_of (rfl : zcd wR 0 = 50) rfl) (by first | rfl | simp [tup]) (Or.inl (hts _ (z_mem k961))) dX12_init_288 ?_
  refine lv_iload_n hx hb dX12_init_291 rfl (lv_at hl 0 rfl) ?_
  refine z_bipush hx hb (by decide) dX12_init_292 ?_
  refine y_iast (N := 10) (z := 100) (i := 5) hx hb hK.1 (t0 := 0) rfl hY hS0 (by decide) (zkd_of (rfl : zcd wR 14 = 64) rfl) (zln_of (rfl : zcd wR 14 = 64) rfl) (by decide) (by decide) (by decide) (zbd_in (rfl : zcd wR 14 = 64) rfl (by decide)) dX12_init_294 (fun H locs hY hS0 => ?_)
  refine z_iinc (lv' := [(1, .int (iI (5 + 1))), (0, .ref (b + 0))]) hx hb dX12_init_295 hl (k := 0) rfl (by decide) rfl (fun ls hl => ?_)
  rw [show ((5 + 1) : Int) = 6 from by decide] at hl
  refine lv_goto (tgt := 281) hx hb dX12_init_298 (by decide) ?_
  refine lv_iload_n hx hb dX12_init_281 rfl (lv_at hl 0 rfl) ?_
  refine z_bipush hx hb (by decide) dX12_init_282 ?_
  refine z_icmp_ge (tgt := 301) hx hb (by decide) (by decide) dX12_init_284 (by decide) (fun c9 => absurd c9 (by decide)) (fun _ => ?_)
  refine lv_aload_n hx hb dX12_init_287 rfl (lv_at hl 1 rfl) ?_
  refine y_getr (t := 14) hx hb hts (z_memU u12) hown hK.1 hY f12_17 (by decide) (zkd_of (rfl : zcd wR 0 = 50) rfl) (by first | rfl | simp [tup]) (Or.inl (hts _ (z_mem k961))) dX12_init_288 ?_
  refine lv_iload_n hx hb dX12_init_291 rfl (lv_at hl 0 rfl) ?_
  refine z_bipush hx hb (by decide) dX12_init_292 ?_
  refine y_iast (N := 10) (z := 100) (i := 6) hx hb hK.1 (t0 := 0) rfl hY hS0 (by decide) (zkd_of (rfl : zcd wR 14 = 64) rfl) (zln_of (rfl : zcd wR 14 = 64) rfl) (by decide) (by decide) (by decide) (zbd_in (rfl : zcd wR 14 = 64) rfl (by decide)) dX12_init_294 (fun H locs hY hS0 => ?_)
  refine z_iinc (lv' := [(1, .int (iI (6 + 1))), (0, .ref (b + 0))]) hx hb dX12_init_295 hl (k := 0) rfl (by decide) rfl (fun ls hl => ?_)
  rw [show ((6 + 1) : Int) = 7 from by decide] at hl
  refine lv_goto (tgt := 281) hx hb dX12_init_298 (by decide) ?_
  refine lv_iload_n hx hb dX12_init_281 rfl (lv_at hl 0 rfl) ?_
  refine z_bipush hx hb (by decide) dX12_init_282 ?_
  refine z_icmp_ge (tgt := 301) hx hb (by decide) (by decide) dX12_init_284 (by decide) (fun c9 => absurd c9 (by decide)) (fun _ => ?_)
  refine lv_aload_n hx hb dX12_init_287 rfl (lv_at hl 1 rfl) ?_
  refine y_getr (t := 14) hx hb hts (z_memU u12) hown hK.1 hY f12_17 (by decide) (zkd_of (rfl : zcd wR 0 = 50) rfl) (by first | rfl | simp [tup]) (Or.inl (hts _ (z_mem k961))) dX12_init_288 ?_
  refine lv_iload_n hx hb dX12_init_291 rfl (lv_at hl 0 rfl) ?_
  refine z_bipush hx hb (by decide) dX12_init_292 ?_
  refine y_iast (N := 10) (z := 100) (i := 7) hx hb hK.1 (t0 := 0) rfl hY hS0 (by decide) (zkd_of (rfl : zcd wR 14 = 64) rfl) (zln_of (rfl : zcd wR 14 = 64) rfl) (by decide) (by decide) (by decide) (zbd_in (rfl : zcd wR 14 = 64) rfl (by decide)) dX12_init_294 (fun H locs hY hS0 => ?_)
  refine z_iinc (lv' := [(1, .int (iI (7 + 1))), (0, .ref (b + 0))]) hx hb dX12_init_295 hl (k := 0) rfl (by decide) rfl (fun ls hl => ?_)
  rw [show ((7 + 1) : Int) = 8 from by decide] at hl
  refine lv_goto (tgt := 281) hx hb dX12_init_298 (by decide) ?_
  refine lv_iload_n hx hb dX12_init_281 rfl (lv_at hl 0 rfl) ?_
  refine z_bipush hx hb (by decide) dX12_init_282 ?_
  refine z_icmp_ge (tgt := 301) hx hb (by decide) (by decide) dX12_init_284 (by decide) (fun c9 => absurd c9 (by decide)) (fun _ => ?_)
  refine lv_aload_n hx hb dX12_init_287 rfl (lv_at hl 1 rfl) ?_
  refine y_getr (t := 14) hx hb hts (z_memU u12) hown hK.1 hY f12_17 (by decide) (zkd_of (rfl : zcd wR 0 = 50) rfl) (by first | rfl | simp [tup]) (Or.inl (hts _ (z_mem k961))) dX12_init_288 ?_
  refine lv_iload_n hx hb dX12_init_291 rfl (lv_at hl 0 rfl) ?_
  refine z_bipush hx hb (by decide) dX12_init_292 ?_
  refine y_iast (N := 10) (z := 100) (i := 8) hx hb hK.1 (t0 := 0) rfl hY hS0 (by decide) (zkd_of (rfl : zcd wR 14 = 64) rfl) (zln_of (rfl : zcd wR 14 = 64) rfl) (by decide) (by decide) (by decide) (zbd_in (rfl : zcd wR 14 = 64) rfl (by decide)) dX12_init_294 (fun H locs hY hS0 => ?_)
  refine z_iinc (lv' := [(1, .int (iI (8 + 1))), (0, .ref (b + 0))]) hx hb dX12_init_295 hl (k := 0) rfl (by decide) rfl (fun ls hl => ?_)
  rw [show ((8 + 1) : Int) = 9 from by decide] at hl
  refine lv_goto (tgt := 281) hx hb dX12_init_298 (by decide) ?_
  refine lv_iload_n hx hb dX12_init_281 rfl (lv_at hl 0 rfl) ?_
  refine z_bipush hx hb (by decide) dX12_init_282 ?_
  refine z_icmp_ge (tgt := 301) hx hb (by decide) (by decide) dX12_init_284 (by decide) (fun c9 => absurd c9 (by decide)) (fun _ => ?_)
  refine lv_aload_n hx hb dX12_init_287 rfl (lv_at hl 1 rfl) ?_
  refine y_getr (t := 14) hx hb hts (z_memU u12) hown hK.1 hY f12_17 (by decide) (zkd_of (rfl : zcd wR 0 = 50) rfl) (by first | rfl | simp [tup]) (Or.inl (hts _ (z_mem k961))) dX12_init_288 ?_
  refine lv_iload_n hx hb dX12_init_291 rfl (lv_at hl 0 rfl) ?_
  refine z_bipush hx hb (by decide) dX12_init_292 ?_
  refine y_iast (N := 10) (z := 100) (i := 9) hx hb hK.1 (t0 := 0) rfl hY hS0 (by decide) (zkd_of (rfl : zcd wR 14 = 64) rfl) (zln_of (rfl : zcd wR 14 = 64) rfl) (by decide) (by decide) (by decide) (zbd_in (rfl : zcd wR 14 = 64) rfl (by decide)) dX12_init_294 (fun H locs hY hS0 => ?_)
  refine z_iinc (lv' := [(1, .int (iI (9 + 1))), (0, .ref (b + 0))]) hx hb dX12_init_295 hl (k := 0) rfl (by decide) rfl (fun ls hl => ?_)
  rw [show ((9 + 1) : Int) = 10 from by decide] at hl
  refine lv_goto (tgt := 281) hx hb dX12_init_298 (by decide) ?_
  refine lv_iload_n hx hb dX12_init_281 rfl (lv_at hl 0 rfl) ?_
  refine z_bipush hx hb (by decide) dX12_init_282 ?_
  refine z_icmp_ge (tgt := 301) hx hb (by decide) (by decide) dX12_init_284 (by decide) (fun _ => ?_) (fun c9 => absurd c9 (by decide))
  exact y_ret hx hb hr hlocks hY hS0 dX12_init_301
end zz43_mkR
section zz44_fill
/-! Arrays.fill of ints in a world that is being made -/
def zfill (M : zM) (j N : Nat) (v : Int) : zM := fun a k => if a = j ∧ k < N then v else M a k
theorem zfill_0 {M : zM} {j : Nat} {v : Int} : zfill M j 0 v = M := by
  funext a k
  unfold zfill
  rw [if_neg (by omega)]
theorem zfill_s {M : zM} {j i : Nat} {v : Int} : zup (zfill M j i v) j i v = zfill M j (i + 1) v := by
  funext a k
  unfold zup zfill
  by_cases h : a = j ∧ k = i
  · rw [if_pos h, if_pos ⟨h.1, by omega⟩]
  · rw [if_neg h]
    by_cases h2 : a = j ∧ k < i
    · rw [if_pos h2, if_pos ⟨h2.1, by omega⟩]
    · rw [if_neg h2, if_neg (fun q => (by omega : k = i ∨ k < i).elim (fun z => h ⟨q.1, z⟩) (fun z => h2 ⟨q.1, z⟩))]
section ZY
variable {p : Program} {l : Launch} {e : Env} {R : Room} {s : State} {m : MethodId} {args : Array Value} {below : List Frame} {meth : Method} {c : Code} {H : Heap} {locs : List Loc} {cells slots : Nat} {Q : State → Prop}
variable {cc : ByteArray} {pc : Nat} {ls : Array Slot} {rest : List Value} {D : va_G} {dA : Nat → ClassId} {cl : List vw_C} {tys : List (ClassId × FieldType)} {w : zW} {n b : Nat} {M : zM} {T : zT}
theorem y_alen (hexec : p.tables.exec = Jvm.exec) (hb : c.code = cc) (hK : va_K D cl tys s) {t0 r : Nat} {ty : FieldType} (ht : tys[t0]? = some (dA r, ty)) (hY : yS D dA cl w n b M T H) {j N : Nat} (hj : j < n) (hkd : zkd w j = 100 + r) (hln : zln w j = N) (hdg : decode cc pc = .ok (.arraylength, 1))
    (kk : W p l e R s m args below meth c H locs cells slots Q (F0 m (pc + 1) ls (.int (iI (N : Int)) :: rest))) : W p l e R s m args below meth c H locs cells slots Q (F0 m pc ls (.ref (b + j) :: rest)) := by
  have hc := y_arr hY hj (by omega)
  have hP : va_P D cl [(b + j, .inl (dA r, yar w b j (M j) (T j)))] H := by
    intro i q hq
    have hi : i = 0 := by
      have := (List.getElem?_eq_some_iff.mp hq).1
      simp at this
      exact this
    subst hi
    cases hq
    rw [hkd, show 100 + r - 100 = r by omega] at hc
    exact hc
  have hz : (yar w b j (M j) (T j)).1 = N := by
    unfold yar
    split
    · exact hln
    · split
      · exact hln
      · exact hln
  exact va_alen hexec hb hK hP 0 t0 rfl ht (v := iI (N : Int)) (by rw [hz]; rfl) hdg kk
end ZY
set_option maxHeartbeats 4000000 in
set_option maxRecDepth 100000 in
theorem mk_fill (l : Launch) (D : va_G) (dA : Nat → ClassId) (b : Nat) (w : zW) (M : zM) (T : zT) (n j N : Nat) (v : Int) (lt_j : j < n) (hkd : zkd w j = 100) (hln : zln w j = N) (hN : N < 2147483648) (r_v : R32 v) (hbd : ∀ k, (zbd w j k).1 ≤ v ∧ v ≤ (zbd w j k).2) : Met l yJ7_fill_53178 (.code yJ7_fill_53178 cJ7_fill_53178 4 none :: zt) (y_rm 0 0 0) (va_Pc [.ref (b + j), .int (iI v)] (yP D dA vwCl (z_tys dA) w n b M T)) (va_Qv (fun _ => True) (yB D dA vwCl w n b (zfill M j N v) T) (yA b)) 0 0 (yA b) := by
  refine Met.ofW (cc := cJ7_fill_53178) (maxL := 4) (ret := none) (by decide) rfl ?_
  intro p e s m args below meth c s₁ B hml hv
  obtain ⟨hargs, hY, hK, hO⟩ := hv
  have hx := B.exec
  have hb := B.bytes
  have hr := B.returns
  have hlocks := B.notSynchronized
  have hS0 : va_S (yA b) s.heap s.heap [] := va_S.rf
  have hl := lv_entry ([.ref (b + j), .int (iI v)]) (n := 4) (Nat.le_of_ble_eq_true rfl)
  have hent : entryFrame m args 4 = F0 m 0 ((lg_sl ([.ref (b + j), .int (iI v)]) ++ List.replicate (4 - (lg_sl ([.ref (b + j), .int (iI v)])).length) Slot.unset).toArray) [] := by rw [hargs]; exact lg_entry_eq m ([.ref (b + j), .int (iI v)]) 4
  rw [hent]
  generalize (lg_sl ([.ref (b + j), .int (iI v)]) ++ List.replicate (4 - (lg_sl ([.ref (b + j), .int (iI v)])).length) Slot.unset).toArray = ls at hl ⊢
  have hl : lv_has ls 4 [(0, .ref (b + j)), (1, .int (iI v))] := hl
  refine z_iconst hx hb dJ7_fill_53178_0 ?_
  refine lv_istore_n (lv' := [(2, .int (iI 0)), (0, .ref (b + j)), (1, .int (iI v))]) hx hb dJ7_fill_53178_1 rfl hl (by decide) rfl (fun ls hl => ?_)
  refine lv_aload_n hx hb dJ7_fill_53178_2 rfl (lv_at hl 1 rfl) ?_
  refine y_alen hx hb hK.1 (t0 := 0) (r := 0) rfl hY lt_j hkd hln dJ7_fill_53178_3 ?_
  refine lv_istore_n (lv' := [(3, .int (iI (N : Int))), (2, .int (iI 0)), (0, .ref (b + j)), (1, .int (iI v))]) hx hb dJ7_fill_53178_4 rfl hl (by decide) rfl (fun ls hl => ?_)
  have loop : ∀ (d i : Nat) (H : Heap) (locs : List Loc) (ls : Array Slot), i + d = N → yS D dA vwCl w n b (zfill M j i v) T H → va_S (yA b) s.heap H locs → lv_has ls 4 [(0, .ref (b + j)), (1, .int (iI v)), (2, .int (iI (i : Int))), (3, .int (iI (N : Int)))] → W p l e (y_rm 0 0 0) s m args below meth c H locs 0 0 (MQ below (va_Qv (fun _ => True) (yB D dA vwCl w n b (zfill M j N v) T) (yA b)) args s 0 0 (yA b)) (F0 m 5 ls []) := by
    intro d
    induction d with
    | zero =>
      intro i H locs ls hd hY hS0 hl
      refine lv_iload_n hx hb dJ7_fill_53178_5 rfl (lv_at hl 2 rfl) ?_
      refine lv_iload_n hx hb dJ7_fill_53178_6 rfl (lv_at hl 3 rfl) ?_
      refine z_icmp_ge (tgt := 20) hx hb ⟨by omega, by omega⟩ ⟨by omega, by omega⟩ dJ7_fill_53178_7 (by decide) (fun _ => ?_) (fun c9 => absurd c9 (by omega))
      have hi : i = N := by omega
      subst hi
      exact y_ret hx hb hr hlocks hY hS0 dJ7_fill_53178_20
    | succ d ih =>
      intro i H locs ls hd hY hS0 hl
      refine lv_iload_n hx hb dJ7_fill_53178_5 rfl (lv_at hl 2 rfl) ?_
      refine lv_iload_n hx hb dJ7_fill_53178_6 rfl (lv_at hl 3 rfl) ?_
      refine z_icmp_ge (tgt := 20) hx hb ⟨by omega, by omega⟩ ⟨by omega, by omega⟩ dJ7_fill_53178_7 (by decide) (fun c9 => absurd c9 (by omega)) (fun _ => ?_)
      refine lv_aload_n hx hb dJ7_fill_53178_10 rfl (lv_at hl 0 rfl) ?_
      refine lv_iload_n hx hb dJ7_fill_53178_11 rfl (lv_at hl 2 rfl) ?_
      refine lv_iload_n hx hb dJ7_fill_53178_12 rfl (lv_at hl 1 rfl) ?_
      refine y_iast (z := v) (i := (i : Int)) hx hb hK.1 (t0 := 0) rfl hY hS0 lt_j hkd hln (by omega) (by omega) hN (hbd _) dJ7_fill_53178_13 (fun H locs hY hS0 => ?_)
      refine z_iinc (lv' := [(2, .int (iI ((i : Int) + 1))), (0, .ref (b + j)), (1, .int (iI v)), (3, .int (iI (N : Int)))]) hx hb dJ7_fill_53178_14 hl (k := 2) rfl (by decide) rfl (fun ls hl => ?_)
      refine lv_goto (tgt := 5) hx hb dJ7_fill_53178_17 (by decide) ?_
      rw [show ((i : Int).toNat) = i from rfl, zfill_s] at hY
      exact ih (i + 1) H locs ls (by omega) hY hS0 (lv_sub hl [1, 2, 0, 3] rfl)
  rw [← zfill_0 (M := M) (j := j) (v := v)] at hY
  exact loop N 0 _ _ ls (by omega) hY hS0 (lv_sub hl [2, 3, 1, 0] rfl)
end zz44_fill
section zz45_a
theorem tup_ne {T : zT} {j k t a c : Nat} {x : Option Nat} (h : (Nat.beq a j && Nat.beq c k) = false) (hx : T a c = x) : tup T j k t a c = x := by
  rw [tup_n]
  · exact hx
  · rintro ⟨rfl, rfl⟩
    simp at h
theorem mna_ne {T : zT} {n N a c : Nat} {x : Option Nat} (h : Nat.beq a n = false) (hx : T a c = x) : (fun a c => if a = n ∧ c < N then some (n + 1 + c) else T a c) a c = x := by
  show (if a = n ∧ c < N then some (n + 1 + c) else T a c) = x
  rw [if_neg]
  · exact hx
  · rintro ⟨rfl, -⟩
    simp at h
theorem q45a_0_0 : (cX0_init.data.toList.drop 0).take 24 = [42, 183, 0, 3, 42, 3, 181, 0, 9, 42, 5, 188, 10, 181, 0, 15, 42, 16, 10, 188, 10, 181, 0, 19] := by decide +kernel
theorem q45a_0_24 : (cX0_init.data.toList.drop 24).take 24 = [42, 4, 181, 0, 22, 42, 3, 181, 0, 25, 42, 4, 181, 0, 28, 42, 3, 181, 0, 31, 42, 17, 15, 161] := by decide +kernel
theorem q45a_0_50 : (cX0_init.data.toList.drop 50).take 13 = [181, 0, 34, 42, 180, 0, 19, 16, 100, 184, 0, 37, 177] := by decide +kernel
theorem dX0_init_0 : decode cX0_init 0 = .ok (.aload_n 0, 1) := dz_42 (dz_at q45a_0_0 0)
theorem dX0_init_1 : decode cX0_init 1 = .ok (.invokespecial 3, 3) := dz_183 (dz_at q45a_0_0 1) rfl
theorem dX0_init_10 : decode cX0_init 10 = .ok (.iconst 2, 1) := dz_5 (dz_at q45a_0_0 10)
theorem dX0_init_11 : decode cX0_init 11 = .ok (.newarray .int, 2) := by decide +kernel
theorem dX0_init_13 : decode cX0_init 13 = .ok (.putfield 15, 3) := dz_181 (dz_at q45a_0_0 13) rfl
theorem dX0_init_16 : decode cX0_init 16 = .ok (.aload_n 0, 1) := dz_42 (dz_at q45a_0_0 16)
theorem dX0_init_17 : decode cX0_init 17 = .ok (.bipush 10, 2) := dz_16 (dz_at q45a_0_0 17) (by decide +kernel)
theorem dX0_init_19 : decode cX0_init 19 = .ok (.newarray .int, 2) := by decide +kernel
theorem dX0_init_21 : decode cX0_init 21 = .ok (.putfield 19, 3) := dz_181 (dz_at q45a_0_0 21) rfl
theorem dX0_init_24 : decode cX0_init 24 = .ok (.aload_n 0, 1) := dz_42 (dz_at q45a_0_24 0)
theorem dX0_init_25 : decode cX0_init 25 = .ok (.iconst 1, 1) := dz_4 (dz_at q45a_0_24 1)
theorem dX0_init_26 : decode cX0_init 26 = .ok (.putfield 22, 3) := dz_181 (dz_at q45a_0_24 2) rfl
theorem dX0_init_29 : decode cX0_init 29 = .ok (.aload_n 0, 1) := dz_42 (dz_at q45a_0_24 5)
theorem dX0_init_30 : decode cX0_init 30 = .ok (.iconst 0, 1) := dz_3 (dz_at q45a_0_24 6)
theorem dX0_init_31 : decode cX0_init 31 = .ok (.putfield 25, 3) := dz_181 (dz_at q45a_0_24 7) rfl
theorem dX0_init_34 : decode cX0_init 34 = .ok (.aload_n 0, 1) := dz_42 (dz_at q45a_0_24 10)
theorem dX0_init_35 : decode cX0_init 35 = .ok (.iconst 1, 1) := dz_4 (dz_at q45a_0_24 11)
theorem dX0_init_36 : decode cX0_init 36 = .ok (.putfield 28, 3) := dz_181 (dz_at q45a_0_24 12) rfl
theorem dX0_init_39 : decode cX0_init 39 = .ok (.aload_n 0, 1) := dz_42 (dz_at q45a_0_24 15)
theorem dX0_init_4 : decode cX0_init 4 = .ok (.aload_n 0, 1) := dz_42 (dz_at q45a_0_0 4)
theorem dX0_init_40 : decode cX0_init 40 = .ok (.iconst 0, 1) := dz_3 (dz_at q45a_0_24 16)
theorem dX0_init_41 : decode cX0_init 41 = .ok (.putfield 31, 3) := dz_181 (dz_at q45a_0_24 17) rfl
theorem dX0_init_44 : decode cX0_init 44 = .ok (.aload_n 0, 1) := dz_42 (dz_at q45a_0_24 20)
theorem dX0_init_45 : decode cX0_init 45 = .ok (.sipush 4001, 3) := dz_17 (dz_at q45a_0_24 21) (by decide +kernel)
theorem dX0_init_48 : decode cX0_init 48 = .ok (.newarray .int, 2) := by decide +kernel
theorem dX0_init_5 : decode cX0_init 5 = .ok (.iconst 0, 1) := dz_3 (dz_at q45a_0_0 5)
theorem dX0_init_50 : decode cX0_init 50 = .ok (.putfield 34, 3) := dz_181 (dz_at q45a_0_50 0) rfl
theorem dX0_init_53 : decode cX0_init 53 = .ok (.aload_n 0, 1) := dz_42 (dz_at q45a_0_50 3)
theorem dX0_init_54 : decode cX0_init 54 = .ok (.getfield 19, 3) := dz_180 (dz_at q45a_0_50 4) rfl
theorem dX0_init_57 : decode cX0_init 57 = .ok (.bipush 100, 2) := dz_16 (dz_at q45a_0_50 7) (by decide +kernel)
theorem dX0_init_59 : decode cX0_init 59 = .ok (.invokestatic 37, 3) := dz_184 (dz_at q45a_0_50 9) rfl
theorem dX0_init_6 : decode cX0_init 6 = .ok (.putfield 9, 3) := dz_181 (dz_at q45a_0_0 6) rfl
theorem dX0_init_62 : decode cX0_init 62 = .ok (.return_, 1) := dz_177 (dz_at q45a_0_50 12)
theorem dX0_init_9 : decode cX0_init 9 = .ok (.aload_n 0, 1) := dz_42 (dz_at q45a_0_0 9)
theorem q45a_1_0 : (cX10_init.data.toList.drop 0).take 21 = [42, 183, 0, 3, 42, 3, 181, 0, 9, 42, 16, 16, 189, 0, 15, 181, 0, 17, 42, 16, 16] := by decide +kernel
theorem q45a_1_23 : (cX10_init.data.toList.drop 23).take 24 = [181, 0, 21, 42, 16, 16, 188, 10, 181, 0, 25, 42, 16, 25, 188, 10, 181, 0, 28, 3, 60, 27, 16, 16] := by decide +kernel
theorem q45a_1_47 : (cX10_init.data.toList.drop 47).take 23 = [162, 0, 22, 42, 180, 0, 17, 27, 187, 0, 15, 89, 183, 0, 31, 83, 132, 1, 1, 167, 255, 234, 177] := by decide +kernel
theorem dX10_init_0 : decode cX10_init 0 = .ok (.aload_n 0, 1) := dz_42 (dz_at q45a_1_0 0)
theorem dX10_init_1 : decode cX10_init 1 = .ok (.invokespecial 3, 3) := dz_183 (dz_at q45a_1_0 1) rfl
theorem dX10_init_10 : decode cX10_init 10 = .ok (.bipush 16, 2) := dz_16 (dz_at q45a_1_0 10) (by decide +kernel)
theorem dX10_init_12 : decode cX10_init 12 = .ok (.anewarray 15, 3) := dz_189 (dz_at q45a_1_0 12) rfl
theorem dX10_init_15 : decode cX10_init 15 = .ok (.putfield 17, 3) := dz_181 (dz_at q45a_1_0 15) rfl
theorem dX10_init_18 : decode cX10_init 18 = .ok (.aload_n 0, 1) := dz_42 (dz_at q45a_1_0 18)
theorem dX10_init_19 : decode cX10_init 19 = .ok (.bipush 16, 2) := dz_16 (dz_at q45a_1_0 19) (by decide +kernel)
theorem dX10_init_21 : decode cX10_init 21 = .ok (.newarray .int, 2) := by decide +kernel
theorem dX10_init_23 : decode cX10_init 23 = .ok (.putfield 21, 3) := dz_181 (dz_at q45a_1_23 0) rfl
theorem dX10_init_26 : decode cX10_init 26 = .ok (.aload_n 0, 1) := dz_42 (dz_at q45a_1_23 3)
theorem dX10_init_27 : decode cX10_init 27 = .ok (.bipush 16, 2) := dz_16 (dz_at q45a_1_23 4) (by decide +kernel)
theorem dX10_init_29 : decode cX10_init 29 = .ok (.newarray .int, 2) := by decide +kernel
theorem dX10_init_31 : decode cX10_init 31 = .ok (.putfield 25, 3) := dz_181 (dz_at q45a_1_23 8) rfl
theorem dX10_init_34 : decode cX10_init 34 = .ok (.aload_n 0, 1) := dz_42 (dz_at q45a_1_23 11)
theorem dX10_init_35 : decode cX10_init 35 = .ok (.bipush 25, 2) := dz_16 (dz_at q45a_1_23 12) (by decide +kernel)
theorem dX10_init_37 : decode cX10_init 37 = .ok (.newarray .int, 2) := by decide +kernel
theorem dX10_init_39 : decode cX10_init 39 = .ok (.putfield 28, 3) := dz_181 (dz_at q45a_1_23 16) rfl
theorem dX10_init_4 : decode cX10_init 4 = .ok (.aload_n 0, 1) := dz_42 (dz_at q45a_1_0 4)
theorem dX10_init_42 : decode cX10_init 42 = .ok (.iconst 0, 1) := dz_3 (dz_at q45a_1_23 19)
theorem dX10_init_43 : decode cX10_init 43 = .ok (.istore_n 1, 1) := dz_60 (dz_at q45a_1_23 20)
theorem dX10_init_44 : decode cX10_init 44 = .ok (.iload_n 1, 1) := dz_27 (dz_at q45a_1_23 21)
theorem dX10_init_45 : decode cX10_init 45 = .ok (.bipush 16, 2) := dz_16 (dz_at q45a_1_23 22) (by decide +kernel)
theorem dX10_init_47 : decode cX10_init 47 = .ok (.if_icmp .ge 22, 3) := dz_162 (dz_at q45a_1_47 0) (by decide +kernel)
theorem dX10_init_5 : decode cX10_init 5 = .ok (.iconst 0, 1) := dz_3 (dz_at q45a_1_0 5)
theorem dX10_init_50 : decode cX10_init 50 = .ok (.aload_n 0, 1) := dz_42 (dz_at q45a_1_47 3)
theorem dX10_init_51 : decode cX10_init 51 = .ok (.getfield 17, 3) := dz_180 (dz_at q45a_1_47 4) rfl
theorem dX10_init_54 : decode cX10_init 54 = .ok (.iload_n 1, 1) := dz_27 (dz_at q45a_1_47 7)
theorem dX10_init_55 : decode cX10_init 55 = .ok (.new 15, 3) := dz_187 (dz_at q45a_1_47 8) rfl
theorem dX10_init_58 : decode cX10_init 58 = .ok (.dup, 1) := dz_89 (dz_at q45a_1_47 11)
theorem dX10_init_59 : decode cX10_init 59 = .ok (.invokespecial 31, 3) := dz_183 (dz_at q45a_1_47 12) rfl
theorem dX10_init_6 : decode cX10_init 6 = .ok (.putfield 9, 3) := dz_181 (dz_at q45a_1_0 6) rfl
theorem dX10_init_62 : decode cX10_init 62 = .ok (.aastore, 1) := dz_83 (dz_at q45a_1_47 15)
theorem dX10_init_63 : decode cX10_init 63 = .ok (.iinc 1 1, 3) := dz_132 (dz_at q45a_1_47 16) (by decide +kernel)
theorem dX10_init_66 : decode cX10_init 66 = .ok (.goto (-22), 3) := dz_167 (dz_at q45a_1_47 19) (by decide +kernel)
theorem dX10_init_69 : decode cX10_init 69 = .ok (.return_, 1) := dz_177 (dz_at q45a_1_47 22)
theorem dX10_init_9 : decode cX10_init 9 = .ok (.aload_n 0, 1) := dz_42 (dz_at q45a_1_0 9)
theorem q45a_2_0 : (cX11_init.data.toList.drop 0).take 23 = [42, 183, 0, 3, 42, 187, 0, 9, 89, 183, 0, 11, 181, 0, 12, 42, 187, 0, 16, 89, 183, 0, 18] := by decide +kernel
theorem q45a_2_23 : (cX11_init.data.toList.drop 23).take 22 = [181, 0, 19, 42, 187, 0, 23, 89, 183, 0, 25, 181, 0, 26, 42, 187, 0, 30, 89, 183, 0, 32] := by decide +kernel
theorem q45a_2_45 : (cX11_init.data.toList.drop 45).take 22 = [181, 0, 33, 42, 187, 0, 37, 89, 183, 0, 39, 181, 0, 40, 42, 187, 0, 44, 89, 183, 0, 46] := by decide +kernel
theorem q45a_2_67 : (cX11_init.data.toList.drop 67).take 22 = [181, 0, 47, 42, 187, 0, 51, 89, 183, 0, 53, 181, 0, 54, 42, 187, 0, 58, 89, 183, 0, 60] := by decide +kernel
theorem q45a_2_89 : (cX11_init.data.toList.drop 89).take 24 = [181, 0, 61, 42, 187, 0, 65, 89, 183, 0, 67, 181, 0, 68, 42, 16, 40, 188, 10, 181, 0, 72, 42, 3] := by decide +kernel
theorem q45a_2_113 : (cX11_init.data.toList.drop 113).take 4 = [181, 0, 76, 177] := by decide +kernel
theorem dX11_init_0 : decode cX11_init 0 = .ok (.aload_n 0, 1) := dz_42 (dz_at q45a_2_0 0)
theorem dX11_init_1 : decode cX11_init 1 = .ok (.invokespecial 3, 3) := dz_183 (dz_at q45a_2_0 1) rfl
theorem dX11_init_100 : decode cX11_init 100 = .ok (.putfield 68, 3) := dz_181 (dz_at q45a_2_89 11) rfl
theorem dX11_init_103 : decode cX11_init 103 = .ok (.aload_n 0, 1) := dz_42 (dz_at q45a_2_89 14)
theorem dX11_init_104 : decode cX11_init 104 = .ok (.bipush 40, 2) := dz_16 (dz_at q45a_2_89 15) (by decide +kernel)
theorem dX11_init_106 : decode cX11_init 106 = .ok (.newarray .int, 2) := by decide +kernel
theorem dX11_init_108 : decode cX11_init 108 = .ok (.putfield 72, 3) := dz_181 (dz_at q45a_2_89 19) rfl
theorem dX11_init_111 : decode cX11_init 111 = .ok (.aload_n 0, 1) := dz_42 (dz_at q45a_2_89 22)
theorem dX11_init_112 : decode cX11_init 112 = .ok (.iconst 0, 1) := dz_3 (dz_at q45a_2_89 23)
theorem dX11_init_113 : decode cX11_init 113 = .ok (.putfield 76, 3) := dz_181 (dz_at q45a_2_113 0) rfl
theorem dX11_init_116 : decode cX11_init 116 = .ok (.return_, 1) := dz_177 (dz_at q45a_2_113 3)
theorem dX11_init_12 : decode cX11_init 12 = .ok (.putfield 12, 3) := dz_181 (dz_at q45a_2_0 12) rfl
theorem dX11_init_15 : decode cX11_init 15 = .ok (.aload_n 0, 1) := dz_42 (dz_at q45a_2_0 15)
theorem dX11_init_16 : decode cX11_init 16 = .ok (.new 16, 3) := dz_187 (dz_at q45a_2_0 16) rfl
theorem dX11_init_19 : decode cX11_init 19 = .ok (.dup, 1) := dz_89 (dz_at q45a_2_0 19)
theorem dX11_init_20 : decode cX11_init 20 = .ok (.invokespecial 18, 3) := dz_183 (dz_at q45a_2_0 20) rfl
theorem dX11_init_23 : decode cX11_init 23 = .ok (.putfield 19, 3) := dz_181 (dz_at q45a_2_23 0) rfl
theorem dX11_init_26 : decode cX11_init 26 = .ok (.aload_n 0, 1) := dz_42 (dz_at q45a_2_23 3)
theorem dX11_init_27 : decode cX11_init 27 = .ok (.new 23, 3) := dz_187 (dz_at q45a_2_23 4) rfl
theorem dX11_init_30 : decode cX11_init 30 = .ok (.dup, 1) := dz_89 (dz_at q45a_2_23 7)
theorem dX11_init_31 : decode cX11_init 31 = .ok (.invokespecial 25, 3) := dz_183 (dz_at q45a_2_23 8) rfl
theorem dX11_init_34 : decode cX11_init 34 = .ok (.putfield 26, 3) := dz_181 (dz_at q45a_2_23 11) rfl
theorem dX11_init_37 : decode cX11_init 37 = .ok (.aload_n 0, 1) := dz_42 (dz_at q45a_2_23 14)
theorem dX11_init_38 : decode cX11_init 38 = .ok (.new 30, 3) := dz_187 (dz_at q45a_2_23 15) rfl
theorem dX11_init_4 : decode cX11_init 4 = .ok (.aload_n 0, 1) := dz_42 (dz_at q45a_2_0 4)
theorem dX11_init_41 : decode cX11_init 41 = .ok (.dup, 1) := dz_89 (dz_at q45a_2_23 18)
theorem dX11_init_42 : decode cX11_init 42 = .ok (.invokespecial 32, 3) := dz_183 (dz_at q45a_2_23 19) rfl
theorem dX11_init_45 : decode cX11_init 45 = .ok (.putfield 33, 3) := dz_181 (dz_at q45a_2_45 0) rfl
theorem dX11_init_48 : decode cX11_init 48 = .ok (.aload_n 0, 1) := dz_42 (dz_at q45a_2_45 3)
theorem dX11_init_49 : decode cX11_init 49 = .ok (.new 37, 3) := dz_187 (dz_at q45a_2_45 4) rfl
theorem dX11_init_5 : decode cX11_init 5 = .ok (.new 9, 3) := dz_187 (dz_at q45a_2_0 5) rfl
theorem dX11_init_52 : decode cX11_init 52 = .ok (.dup, 1) := dz_89 (dz_at q45a_2_45 7)
theorem dX11_init_53 : decode cX11_init 53 = .ok (.invokespecial 39, 3) := dz_183 (dz_at q45a_2_45 8) rfl
theorem dX11_init_56 : decode cX11_init 56 = .ok (.putfield 40, 3) := dz_181 (dz_at q45a_2_45 11) rfl
theorem dX11_init_59 : decode cX11_init 59 = .ok (.aload_n 0, 1) := dz_42 (dz_at q45a_2_45 14)
theorem dX11_init_60 : decode cX11_init 60 = .ok (.new 44, 3) := dz_187 (dz_at q45a_2_45 15) rfl
theorem dX11_init_63 : decode cX11_init 63 = .ok (.dup, 1) := dz_89 (dz_at q45a_2_45 18)
theorem dX11_init_64 : decode cX11_init 64 = .ok (.invokespecial 46, 3) := dz_183 (dz_at q45a_2_45 19) rfl
theorem dX11_init_67 : decode cX11_init 67 = .ok (.putfield 47, 3) := dz_181 (dz_at q45a_2_67 0) rfl
theorem dX11_init_70 : decode cX11_init 70 = .ok (.aload_n 0, 1) := dz_42 (dz_at q45a_2_67 3)
theorem dX11_init_71 : decode cX11_init 71 = .ok (.new 51, 3) := dz_187 (dz_at q45a_2_67 4) rfl
theorem dX11_init_74 : decode cX11_init 74 = .ok (.dup, 1) := dz_89 (dz_at q45a_2_67 7)
theorem dX11_init_75 : decode cX11_init 75 = .ok (.invokespecial 53, 3) := dz_183 (dz_at q45a_2_67 8) rfl
theorem dX11_init_78 : decode cX11_init 78 = .ok (.putfield 54, 3) := dz_181 (dz_at q45a_2_67 11) rfl
theorem dX11_init_8 : decode cX11_init 8 = .ok (.dup, 1) := dz_89 (dz_at q45a_2_0 8)
theorem dX11_init_81 : decode cX11_init 81 = .ok (.aload_n 0, 1) := dz_42 (dz_at q45a_2_67 14)
theorem dX11_init_82 : decode cX11_init 82 = .ok (.new 58, 3) := dz_187 (dz_at q45a_2_67 15) rfl
theorem dX11_init_85 : decode cX11_init 85 = .ok (.dup, 1) := dz_89 (dz_at q45a_2_67 18)
theorem dX11_init_86 : decode cX11_init 86 = .ok (.invokespecial 60, 3) := dz_183 (dz_at q45a_2_67 19) rfl
theorem dX11_init_89 : decode cX11_init 89 = .ok (.putfield 61, 3) := dz_181 (dz_at q45a_2_89 0) rfl
theorem dX11_init_9 : decode cX11_init 9 = .ok (.invokespecial 11, 3) := dz_183 (dz_at q45a_2_0 9) rfl
theorem dX11_init_92 : decode cX11_init 92 = .ok (.aload_n 0, 1) := dz_42 (dz_at q45a_2_89 3)
theorem dX11_init_93 : decode cX11_init 93 = .ok (.new 65, 3) := dz_187 (dz_at q45a_2_89 4) rfl
theorem dX11_init_96 : decode cX11_init 96 = .ok (.dup, 1) := dz_89 (dz_at q45a_2_89 7)
theorem dX11_init_97 : decode cX11_init 97 = .ok (.invokespecial 67, 3) := dz_183 (dz_at q45a_2_89 8) rfl
theorem q45a_3_0 : (cX1_init.data.toList.drop 0).take 23 = [42, 183, 0, 3, 42, 3, 181, 0, 9, 42, 9, 181, 0, 15, 42, 7, 188, 10, 181, 0, 19, 42, 7] := by decide +kernel
theorem q45a_3_25 : (cX1_init.data.toList.drop 25).take 4 = [181, 0, 23, 177] := by decide +kernel
theorem dX1_init_0 : decode cX1_init 0 = .ok (.aload_n 0, 1) := dz_42 (dz_at q45a_3_0 0)
theorem dX1_init_1 : decode cX1_init 1 = .ok (.invokespecial 3, 3) := dz_183 (dz_at q45a_3_0 1) rfl
theorem dX1_init_10 : decode cX1_init 10 = .ok (.lconst 0, 1) := dz_9 (dz_at q45a_3_0 10)
theorem dX1_init_11 : decode cX1_init 11 = .ok (.putfield 15, 3) := dz_181 (dz_at q45a_3_0 11) rfl
theorem dX1_init_14 : decode cX1_init 14 = .ok (.aload_n 0, 1) := dz_42 (dz_at q45a_3_0 14)
theorem dX1_init_15 : decode cX1_init 15 = .ok (.iconst 4, 1) := dz_7 (dz_at q45a_3_0 15)
theorem dX1_init_16 : decode cX1_init 16 = .ok (.newarray .int, 2) := by decide +kernel
theorem dX1_init_18 : decode cX1_init 18 = .ok (.putfield 19, 3) := dz_181 (dz_at q45a_3_0 18) rfl
theorem dX1_init_21 : decode cX1_init 21 = .ok (.aload_n 0, 1) := dz_42 (dz_at q45a_3_0 21)
theorem dX1_init_22 : decode cX1_init 22 = .ok (.iconst 4, 1) := dz_7 (dz_at q45a_3_0 22)
theorem dX1_init_23 : decode cX1_init 23 = .ok (.newarray .int, 2) := by decide +kernel
theorem dX1_init_25 : decode cX1_init 25 = .ok (.putfield 23, 3) := dz_181 (dz_at q45a_3_25 0) rfl
theorem dX1_init_28 : decode cX1_init 28 = .ok (.return_, 1) := dz_177 (dz_at q45a_3_25 3)
theorem dX1_init_4 : decode cX1_init 4 = .ok (.aload_n 0, 1) := dz_42 (dz_at q45a_3_0 4)
theorem dX1_init_5 : decode cX1_init 5 = .ok (.iconst 0, 1) := dz_3 (dz_at q45a_3_0 5)
theorem dX1_init_6 : decode cX1_init 6 = .ok (.putfield 9, 3) := dz_181 (dz_at q45a_3_0 6) rfl
theorem dX1_init_9 : decode cX1_init 9 = .ok (.aload_n 0, 1) := dz_42 (dz_at q45a_3_0 9)
theorem q45a_4_0 : (cX2_init.data.toList.drop 0).take 22 = [42, 183, 0, 3, 42, 16, 12, 188, 10, 181, 0, 9, 42, 16, 12, 188, 10, 181, 0, 15, 42, 3] := by decide +kernel
theorem q45a_4_22 : (cX2_init.data.toList.drop 22).take 4 = [181, 0, 18, 177] := by decide +kernel
theorem dX2_init_0 : decode cX2_init 0 = .ok (.aload_n 0, 1) := dz_42 (dz_at q45a_4_0 0)
theorem dX2_init_1 : decode cX2_init 1 = .ok (.invokespecial 3, 3) := dz_183 (dz_at q45a_4_0 1) rfl
theorem dX2_init_12 : decode cX2_init 12 = .ok (.aload_n 0, 1) := dz_42 (dz_at q45a_4_0 12)
theorem dX2_init_13 : decode cX2_init 13 = .ok (.bipush 12, 2) := dz_16 (dz_at q45a_4_0 13) (by decide +kernel)
theorem dX2_init_15 : decode cX2_init 15 = .ok (.newarray .int, 2) := by decide +kernel
theorem dX2_init_17 : decode cX2_init 17 = .ok (.putfield 15, 3) := dz_181 (dz_at q45a_4_0 17) rfl
theorem dX2_init_20 : decode cX2_init 20 = .ok (.aload_n 0, 1) := dz_42 (dz_at q45a_4_0 20)
theorem dX2_init_21 : decode cX2_init 21 = .ok (.iconst 0, 1) := dz_3 (dz_at q45a_4_0 21)
theorem dX2_init_22 : decode cX2_init 22 = .ok (.putfield 18, 3) := dz_181 (dz_at q45a_4_22 0) rfl
theorem dX2_init_25 : decode cX2_init 25 = .ok (.return_, 1) := dz_177 (dz_at q45a_4_22 3)
theorem dX2_init_4 : decode cX2_init 4 = .ok (.aload_n 0, 1) := dz_42 (dz_at q45a_4_0 4)
theorem dX2_init_5 : decode cX2_init 5 = .ok (.bipush 12, 2) := dz_16 (dz_at q45a_4_0 5) (by decide +kernel)
theorem dX2_init_7 : decode cX2_init 7 = .ok (.newarray .int, 2) := by decide +kernel
theorem dX2_init_9 : decode cX2_init 9 = .ok (.putfield 9, 3) := dz_181 (dz_at q45a_4_0 9) rfl
theorem q45a_5_0 : (cX3_init.data.toList.drop 0).take 20 = [42, 183, 0, 3, 42, 16, 60, 188, 10, 181, 0, 9, 42, 3, 181, 0, 15, 42, 16, 24] := by decide +kernel
theorem q45a_5_22 : (cX3_init.data.toList.drop 22).take 12 = [181, 0, 19, 42, 16, 24, 188, 10, 181, 0, 22, 177] := by decide +kernel
theorem dX3_init_0 : decode cX3_init 0 = .ok (.aload_n 0, 1) := dz_42 (dz_at q45a_5_0 0)
theorem dX3_init_1 : decode cX3_init 1 = .ok (.invokespecial 3, 3) := dz_183 (dz_at q45a_5_0 1) rfl
theorem dX3_init_12 : decode cX3_init 12 = .ok (.aload_n 0, 1) := dz_42 (dz_at q45a_5_0 12)
theorem dX3_init_13 : decode cX3_init 13 = .ok (.iconst 0, 1) := dz_3 (dz_at q45a_5_0 13)
theorem dX3_init_14 : decode cX3_init 14 = .ok (.putfield 15, 3) := dz_181 (dz_at q45a_5_0 14) rfl
theorem dX3_init_17 : decode cX3_init 17 = .ok (.aload_n 0, 1) := dz_42 (dz_at q45a_5_0 17)
theorem dX3_init_18 : decode cX3_init 18 = .ok (.bipush 24, 2) := dz_16 (dz_at q45a_5_0 18) (by decide +kernel)
theorem dX3_init_20 : decode cX3_init 20 = .ok (.newarray .int, 2) := by decide +kernel
theorem dX3_init_22 : decode cX3_init 22 = .ok (.putfield 19, 3) := dz_181 (dz_at q45a_5_22 0) rfl
theorem dX3_init_25 : decode cX3_init 25 = .ok (.aload_n 0, 1) := dz_42 (dz_at q45a_5_22 3)
theorem dX3_init_26 : decode cX3_init 26 = .ok (.bipush 24, 2) := dz_16 (dz_at q45a_5_22 4) (by decide +kernel)
theorem dX3_init_28 : decode cX3_init 28 = .ok (.newarray .int, 2) := by decide +kernel
theorem dX3_init_30 : decode cX3_init 30 = .ok (.putfield 22, 3) := dz_181 (dz_at q45a_5_22 8) rfl
theorem dX3_init_33 : decode cX3_init 33 = .ok (.return_, 1) := dz_177 (dz_at q45a_5_22 11)
theorem dX3_init_4 : decode cX3_init 4 = .ok (.aload_n 0, 1) := dz_42 (dz_at q45a_5_0 4)
theorem dX3_init_5 : decode cX3_init 5 = .ok (.bipush 60, 2) := dz_16 (dz_at q45a_5_0 5) (by decide +kernel)
theorem dX3_init_7 : decode cX3_init 7 = .ok (.newarray .int, 2) := by decide +kernel
theorem dX3_init_9 : decode cX3_init 9 = .ok (.putfield 9, 3) := dz_181 (dz_at q45a_5_0 9) rfl
theorem q45a_6_0 : (cX4_init.data.toList.drop 0).take 24 = [42, 183, 0, 3, 42, 3, 181, 0, 9, 42, 16, 40, 188, 10, 181, 0, 15, 42, 3, 181, 0, 19, 42, 8] := by decide +kernel
theorem q45a_6_24 : (cX4_init.data.toList.drop 24).take 24 = [16, 8, 197, 0, 22, 2, 181, 0, 24, 42, 8, 188, 10, 181, 0, 27, 42, 16, 40, 188, 10, 181, 0, 30] := by decide +kernel
theorem q45a_6_48 : (cX4_init.data.toList.drop 48).take 1 = [177] := by decide +kernel
theorem dX4_init_0 : decode cX4_init 0 = .ok (.aload_n 0, 1) := dz_42 (dz_at q45a_6_0 0)
theorem dX4_init_1 : decode cX4_init 1 = .ok (.invokespecial 3, 3) := dz_183 (dz_at q45a_6_0 1) rfl
theorem dX4_init_10 : decode cX4_init 10 = .ok (.bipush 40, 2) := dz_16 (dz_at q45a_6_0 10) (by decide +kernel)
theorem dX4_init_12 : decode cX4_init 12 = .ok (.newarray .int, 2) := by decide +kernel
theorem dX4_init_14 : decode cX4_init 14 = .ok (.putfield 15, 3) := dz_181 (dz_at q45a_6_0 14) rfl
theorem dX4_init_17 : decode cX4_init 17 = .ok (.aload_n 0, 1) := dz_42 (dz_at q45a_6_0 17)
theorem dX4_init_18 : decode cX4_init 18 = .ok (.iconst 0, 1) := dz_3 (dz_at q45a_6_0 18)
theorem dX4_init_19 : decode cX4_init 19 = .ok (.putfield 19, 3) := dz_181 (dz_at q45a_6_0 19) rfl
theorem dX4_init_22 : decode cX4_init 22 = .ok (.aload_n 0, 1) := dz_42 (dz_at q45a_6_0 22)
theorem dX4_init_23 : decode cX4_init 23 = .ok (.iconst 5, 1) := dz_8 (dz_at q45a_6_0 23)
theorem dX4_init_24 : decode cX4_init 24 = .ok (.bipush 8, 2) := dz_16 (dz_at q45a_6_24 0) (by decide +kernel)
theorem dX4_init_26 : decode cX4_init 26 = .ok (.multianewarray 22 2, 4) := by decide +kernel
theorem dX4_init_30 : decode cX4_init 30 = .ok (.putfield 24, 3) := dz_181 (dz_at q45a_6_24 6) rfl
theorem dX4_init_33 : decode cX4_init 33 = .ok (.aload_n 0, 1) := dz_42 (dz_at q45a_6_24 9)
theorem dX4_init_34 : decode cX4_init 34 = .ok (.iconst 5, 1) := dz_8 (dz_at q45a_6_24 10)
theorem dX4_init_35 : decode cX4_init 35 = .ok (.newarray .int, 2) := by decide +kernel
theorem dX4_init_37 : decode cX4_init 37 = .ok (.putfield 27, 3) := dz_181 (dz_at q45a_6_24 13) rfl
theorem dX4_init_4 : decode cX4_init 4 = .ok (.aload_n 0, 1) := dz_42 (dz_at q45a_6_0 4)
theorem dX4_init_40 : decode cX4_init 40 = .ok (.aload_n 0, 1) := dz_42 (dz_at q45a_6_24 16)
theorem dX4_init_41 : decode cX4_init 41 = .ok (.bipush 40, 2) := dz_16 (dz_at q45a_6_24 17) (by decide +kernel)
theorem dX4_init_43 : decode cX4_init 43 = .ok (.newarray .int, 2) := by decide +kernel
theorem dX4_init_45 : decode cX4_init 45 = .ok (.putfield 30, 3) := dz_181 (dz_at q45a_6_24 21) rfl
theorem dX4_init_48 : decode cX4_init 48 = .ok (.return_, 1) := dz_177 (dz_at q45a_6_48 0)
theorem dX4_init_5 : decode cX4_init 5 = .ok (.iconst 0, 1) := dz_3 (dz_at q45a_6_0 5)
theorem dX4_init_6 : decode cX4_init 6 = .ok (.putfield 9, 3) := dz_181 (dz_at q45a_6_0 6) rfl
theorem dX4_init_9 : decode cX4_init 9 = .ok (.aload_n 0, 1) := dz_42 (dz_at q45a_6_0 9)
theorem q45a_7_0 : (cX5_init.data.toList.drop 0).take 22 = [42, 183, 0, 3, 42, 16, 6, 188, 10, 181, 0, 9, 42, 16, 6, 188, 10, 181, 0, 15, 42, 3] := by decide +kernel
theorem q45a_7_22 : (cX5_init.data.toList.drop 22).take 24 = [181, 0, 18, 42, 16, 8, 188, 10, 181, 0, 22, 42, 7, 17, 1, 44, 197, 0, 25, 2, 181, 0, 27, 42] := by decide +kernel
theorem q45a_7_46 : (cX5_init.data.toList.drop 46).take 21 = [8, 16, 64, 197, 0, 25, 2, 181, 0, 30, 42, 16, 64, 188, 10, 181, 0, 33, 42, 16, 24] := by decide +kernel
theorem q45a_7_69 : (cX5_init.data.toList.drop 69).take 12 = [181, 0, 36, 42, 16, 6, 188, 10, 181, 0, 39, 177] := by decide +kernel
theorem dX5_init_0 : decode cX5_init 0 = .ok (.aload_n 0, 1) := dz_42 (dz_at q45a_7_0 0)
theorem dX5_init_1 : decode cX5_init 1 = .ok (.invokespecial 3, 3) := dz_183 (dz_at q45a_7_0 1) rfl
theorem dX5_init_12 : decode cX5_init 12 = .ok (.aload_n 0, 1) := dz_42 (dz_at q45a_7_0 12)
theorem dX5_init_13 : decode cX5_init 13 = .ok (.bipush 6, 2) := dz_16 (dz_at q45a_7_0 13) (by decide +kernel)
theorem dX5_init_15 : decode cX5_init 15 = .ok (.newarray .int, 2) := by decide +kernel
theorem dX5_init_17 : decode cX5_init 17 = .ok (.putfield 15, 3) := dz_181 (dz_at q45a_7_0 17) rfl
theorem dX5_init_20 : decode cX5_init 20 = .ok (.aload_n 0, 1) := dz_42 (dz_at q45a_7_0 20)
theorem dX5_init_21 : decode cX5_init 21 = .ok (.iconst 0, 1) := dz_3 (dz_at q45a_7_0 21)
theorem dX5_init_22 : decode cX5_init 22 = .ok (.putfield 18, 3) := dz_181 (dz_at q45a_7_22 0) rfl
theorem dX5_init_25 : decode cX5_init 25 = .ok (.aload_n 0, 1) := dz_42 (dz_at q45a_7_22 3)
theorem dX5_init_26 : decode cX5_init 26 = .ok (.bipush 8, 2) := dz_16 (dz_at q45a_7_22 4) (by decide +kernel)
theorem dX5_init_28 : decode cX5_init 28 = .ok (.newarray .int, 2) := by decide +kernel
theorem dX5_init_30 : decode cX5_init 30 = .ok (.putfield 22, 3) := dz_181 (dz_at q45a_7_22 8) rfl
theorem dX5_init_33 : decode cX5_init 33 = .ok (.aload_n 0, 1) := dz_42 (dz_at q45a_7_22 11)
theorem dX5_init_34 : decode cX5_init 34 = .ok (.iconst 4, 1) := dz_7 (dz_at q45a_7_22 12)
theorem dX5_init_35 : decode cX5_init 35 = .ok (.sipush 300, 3) := dz_17 (dz_at q45a_7_22 13) (by decide +kernel)
theorem dX5_init_38 : decode cX5_init 38 = .ok (.multianewarray 25 2, 4) := by decide +kernel
theorem dX5_init_4 : decode cX5_init 4 = .ok (.aload_n 0, 1) := dz_42 (dz_at q45a_7_0 4)
theorem dX5_init_42 : decode cX5_init 42 = .ok (.putfield 27, 3) := dz_181 (dz_at q45a_7_22 20) rfl
theorem dX5_init_45 : decode cX5_init 45 = .ok (.aload_n 0, 1) := dz_42 (dz_at q45a_7_22 23)
theorem dX5_init_46 : decode cX5_init 46 = .ok (.iconst 5, 1) := dz_8 (dz_at q45a_7_46 0)
theorem dX5_init_47 : decode cX5_init 47 = .ok (.bipush 64, 2) := dz_16 (dz_at q45a_7_46 1) (by decide +kernel)
theorem dX5_init_49 : decode cX5_init 49 = .ok (.multianewarray 25 2, 4) := by decide +kernel
theorem dX5_init_5 : decode cX5_init 5 = .ok (.bipush 6, 2) := dz_16 (dz_at q45a_7_0 5) (by decide +kernel)
theorem dX5_init_53 : decode cX5_init 53 = .ok (.putfield 30, 3) := dz_181 (dz_at q45a_7_46 7) rfl
theorem dX5_init_56 : decode cX5_init 56 = .ok (.aload_n 0, 1) := dz_42 (dz_at q45a_7_46 10)
theorem dX5_init_57 : decode cX5_init 57 = .ok (.bipush 64, 2) := dz_16 (dz_at q45a_7_46 11) (by decide +kernel)
theorem dX5_init_59 : decode cX5_init 59 = .ok (.newarray .int, 2) := by decide +kernel
theorem dX5_init_61 : decode cX5_init 61 = .ok (.putfield 33, 3) := dz_181 (dz_at q45a_7_46 15) rfl
theorem dX5_init_64 : decode cX5_init 64 = .ok (.aload_n 0, 1) := dz_42 (dz_at q45a_7_46 18)
theorem dX5_init_65 : decode cX5_init 65 = .ok (.bipush 24, 2) := dz_16 (dz_at q45a_7_46 19) (by decide +kernel)
theorem dX5_init_67 : decode cX5_init 67 = .ok (.newarray .int, 2) := by decide +kernel
theorem dX5_init_69 : decode cX5_init 69 = .ok (.putfield 36, 3) := dz_181 (dz_at q45a_7_69 0) rfl
theorem dX5_init_7 : decode cX5_init 7 = .ok (.newarray .int, 2) := by decide +kernel
theorem dX5_init_72 : decode cX5_init 72 = .ok (.aload_n 0, 1) := dz_42 (dz_at q45a_7_69 3)
theorem dX5_init_73 : decode cX5_init 73 = .ok (.bipush 6, 2) := dz_16 (dz_at q45a_7_69 4) (by decide +kernel)
theorem dX5_init_75 : decode cX5_init 75 = .ok (.newarray .int, 2) := by decide +kernel
theorem dX5_init_77 : decode cX5_init 77 = .ok (.putfield 39, 3) := dz_181 (dz_at q45a_7_69 8) rfl
theorem dX5_init_80 : decode cX5_init 80 = .ok (.return_, 1) := dz_177 (dz_at q45a_7_69 11)
theorem dX5_init_9 : decode cX5_init 9 = .ok (.putfield 9, 3) := dz_181 (dz_at q45a_7_0 9) rfl
theorem q45a_8_0 : (cX6_init.data.toList.drop 0).take 22 = [42, 183, 0, 3, 42, 187, 0, 9, 89, 183, 0, 11, 181, 0, 12, 42, 3, 181, 0, 18, 42, 3] := by decide +kernel
theorem q45a_8_22 : (cX6_init.data.toList.drop 22).take 22 = [181, 0, 22, 42, 4, 181, 0, 25, 42, 3, 181, 0, 28, 42, 16, 24, 188, 10, 181, 0, 31, 177] := by decide +kernel
theorem dX6_init_0 : decode cX6_init 0 = .ok (.aload_n 0, 1) := dz_42 (dz_at q45a_8_0 0)
theorem dX6_init_1 : decode cX6_init 1 = .ok (.invokespecial 3, 3) := dz_183 (dz_at q45a_8_0 1) rfl
theorem dX6_init_12 : decode cX6_init 12 = .ok (.putfield 12, 3) := dz_181 (dz_at q45a_8_0 12) rfl
theorem dX6_init_15 : decode cX6_init 15 = .ok (.aload_n 0, 1) := dz_42 (dz_at q45a_8_0 15)
theorem dX6_init_16 : decode cX6_init 16 = .ok (.iconst 0, 1) := dz_3 (dz_at q45a_8_0 16)
theorem dX6_init_17 : decode cX6_init 17 = .ok (.putfield 18, 3) := dz_181 (dz_at q45a_8_0 17) rfl
theorem dX6_init_20 : decode cX6_init 20 = .ok (.aload_n 0, 1) := dz_42 (dz_at q45a_8_0 20)
theorem dX6_init_21 : decode cX6_init 21 = .ok (.iconst 0, 1) := dz_3 (dz_at q45a_8_0 21)
theorem dX6_init_22 : decode cX6_init 22 = .ok (.putfield 22, 3) := dz_181 (dz_at q45a_8_22 0) rfl
theorem dX6_init_25 : decode cX6_init 25 = .ok (.aload_n 0, 1) := dz_42 (dz_at q45a_8_22 3)
theorem dX6_init_26 : decode cX6_init 26 = .ok (.iconst 1, 1) := dz_4 (dz_at q45a_8_22 4)
theorem dX6_init_27 : decode cX6_init 27 = .ok (.putfield 25, 3) := dz_181 (dz_at q45a_8_22 5) rfl
theorem dX6_init_30 : decode cX6_init 30 = .ok (.aload_n 0, 1) := dz_42 (dz_at q45a_8_22 8)
theorem dX6_init_31 : decode cX6_init 31 = .ok (.iconst 0, 1) := dz_3 (dz_at q45a_8_22 9)
theorem dX6_init_32 : decode cX6_init 32 = .ok (.putfield 28, 3) := dz_181 (dz_at q45a_8_22 10) rfl
theorem dX6_init_35 : decode cX6_init 35 = .ok (.aload_n 0, 1) := dz_42 (dz_at q45a_8_22 13)
theorem dX6_init_36 : decode cX6_init 36 = .ok (.bipush 24, 2) := dz_16 (dz_at q45a_8_22 14) (by decide +kernel)
theorem dX6_init_38 : decode cX6_init 38 = .ok (.newarray .int, 2) := by decide +kernel
theorem dX6_init_4 : decode cX6_init 4 = .ok (.aload_n 0, 1) := dz_42 (dz_at q45a_8_0 4)
theorem dX6_init_40 : decode cX6_init 40 = .ok (.putfield 31, 3) := dz_181 (dz_at q45a_8_22 18) rfl
theorem dX6_init_43 : decode cX6_init 43 = .ok (.return_, 1) := dz_177 (dz_at q45a_8_22 21)
theorem dX6_init_5 : decode cX6_init 5 = .ok (.new 9, 3) := dz_187 (dz_at q45a_8_0 5) rfl
theorem dX6_init_8 : decode cX6_init 8 = .ok (.dup, 1) := dz_89 (dz_at q45a_8_0 8)
theorem dX6_init_9 : decode cX6_init 9 = .ok (.invokespecial 11, 3) := dz_183 (dz_at q45a_8_0 9) rfl
theorem q45a_9_0 : (cX7_init.data.toList.drop 0).take 24 = [42, 183, 0, 3, 42, 16, 100, 188, 10, 181, 0, 9, 42, 3, 181, 0, 15, 42, 3, 181, 0, 19, 42, 3] := by decide +kernel
theorem q45a_9_24 : (cX7_init.data.toList.drop 24).take 24 = [181, 0, 22, 42, 16, 6, 189, 0, 25, 181, 0, 27, 42, 16, 6, 189, 0, 25, 181, 0, 31, 42, 16, 6] := by decide +kernel
theorem q45a_9_50 : (cX7_init.data.toList.drop 50).take 24 = [181, 0, 34, 3, 60, 27, 8, 163, 0, 35, 42, 180, 0, 27, 27, 187, 0, 25, 89, 183, 0, 37, 83, 42] := by decide +kernel
theorem q45a_9_74 : (cX7_init.data.toList.drop 74).take 19 = [180, 0, 31, 27, 187, 0, 25, 89, 183, 0, 37, 83, 132, 1, 1, 167, 255, 222, 177] := by decide +kernel
theorem dX7_init_0 : decode cX7_init 0 = .ok (.aload_n 0, 1) := dz_42 (dz_at q45a_9_0 0)
theorem dX7_init_1 : decode cX7_init 1 = .ok (.invokespecial 3, 3) := dz_183 (dz_at q45a_9_0 1) rfl
theorem dX7_init_12 : decode cX7_init 12 = .ok (.aload_n 0, 1) := dz_42 (dz_at q45a_9_0 12)
theorem dX7_init_13 : decode cX7_init 13 = .ok (.iconst 0, 1) := dz_3 (dz_at q45a_9_0 13)
theorem dX7_init_14 : decode cX7_init 14 = .ok (.putfield 15, 3) := dz_181 (dz_at q45a_9_0 14) rfl
theorem dX7_init_17 : decode cX7_init 17 = .ok (.aload_n 0, 1) := dz_42 (dz_at q45a_9_0 17)
theorem dX7_init_18 : decode cX7_init 18 = .ok (.iconst 0, 1) := dz_3 (dz_at q45a_9_0 18)
theorem dX7_init_19 : decode cX7_init 19 = .ok (.putfield 19, 3) := dz_181 (dz_at q45a_9_0 19) rfl
theorem dX7_init_22 : decode cX7_init 22 = .ok (.aload_n 0, 1) := dz_42 (dz_at q45a_9_0 22)
theorem dX7_init_23 : decode cX7_init 23 = .ok (.iconst 0, 1) := dz_3 (dz_at q45a_9_0 23)
theorem dX7_init_24 : decode cX7_init 24 = .ok (.putfield 22, 3) := dz_181 (dz_at q45a_9_24 0) rfl
theorem dX7_init_27 : decode cX7_init 27 = .ok (.aload_n 0, 1) := dz_42 (dz_at q45a_9_24 3)
theorem dX7_init_28 : decode cX7_init 28 = .ok (.bipush 6, 2) := dz_16 (dz_at q45a_9_24 4) (by decide +kernel)
theorem dX7_init_30 : decode cX7_init 30 = .ok (.anewarray 25, 3) := dz_189 (dz_at q45a_9_24 6) rfl
theorem dX7_init_33 : decode cX7_init 33 = .ok (.putfield 27, 3) := dz_181 (dz_at q45a_9_24 9) rfl
theorem dX7_init_36 : decode cX7_init 36 = .ok (.aload_n 0, 1) := dz_42 (dz_at q45a_9_24 12)
theorem dX7_init_37 : decode cX7_init 37 = .ok (.bipush 6, 2) := dz_16 (dz_at q45a_9_24 13) (by decide +kernel)
theorem dX7_init_39 : decode cX7_init 39 = .ok (.anewarray 25, 3) := dz_189 (dz_at q45a_9_24 15) rfl
theorem dX7_init_4 : decode cX7_init 4 = .ok (.aload_n 0, 1) := dz_42 (dz_at q45a_9_0 4)
theorem dX7_init_42 : decode cX7_init 42 = .ok (.putfield 31, 3) := dz_181 (dz_at q45a_9_24 18) rfl
theorem dX7_init_45 : decode cX7_init 45 = .ok (.aload_n 0, 1) := dz_42 (dz_at q45a_9_24 21)
theorem dX7_init_46 : decode cX7_init 46 = .ok (.bipush 6, 2) := dz_16 (dz_at q45a_9_24 22) (by decide +kernel)
theorem dX7_init_48 : decode cX7_init 48 = .ok (.newarray .int, 2) := by decide +kernel
theorem dX7_init_5 : decode cX7_init 5 = .ok (.bipush 100, 2) := dz_16 (dz_at q45a_9_0 5) (by decide +kernel)
theorem dX7_init_50 : decode cX7_init 50 = .ok (.putfield 34, 3) := dz_181 (dz_at q45a_9_50 0) rfl
theorem dX7_init_53 : decode cX7_init 53 = .ok (.iconst 0, 1) := dz_3 (dz_at q45a_9_50 3)
theorem dX7_init_54 : decode cX7_init 54 = .ok (.istore_n 1, 1) := dz_60 (dz_at q45a_9_50 4)
theorem dX7_init_55 : decode cX7_init 55 = .ok (.iload_n 1, 1) := dz_27 (dz_at q45a_9_50 5)
theorem dX7_init_56 : decode cX7_init 56 = .ok (.iconst 5, 1) := dz_8 (dz_at q45a_9_50 6)
theorem dX7_init_57 : decode cX7_init 57 = .ok (.if_icmp .gt 35, 3) := dz_163 (dz_at q45a_9_50 7) (by decide +kernel)
theorem dX7_init_60 : decode cX7_init 60 = .ok (.aload_n 0, 1) := dz_42 (dz_at q45a_9_50 10)
theorem dX7_init_61 : decode cX7_init 61 = .ok (.getfield 27, 3) := dz_180 (dz_at q45a_9_50 11) rfl
theorem dX7_init_64 : decode cX7_init 64 = .ok (.iload_n 1, 1) := dz_27 (dz_at q45a_9_50 14)
theorem dX7_init_65 : decode cX7_init 65 = .ok (.new 25, 3) := dz_187 (dz_at q45a_9_50 15) rfl
theorem dX7_init_68 : decode cX7_init 68 = .ok (.dup, 1) := dz_89 (dz_at q45a_9_50 18)
theorem dX7_init_69 : decode cX7_init 69 = .ok (.invokespecial 37, 3) := dz_183 (dz_at q45a_9_50 19) rfl
theorem dX7_init_7 : decode cX7_init 7 = .ok (.newarray .int, 2) := by decide +kernel
theorem dX7_init_72 : decode cX7_init 72 = .ok (.aastore, 1) := dz_83 (dz_at q45a_9_50 22)
theorem dX7_init_73 : decode cX7_init 73 = .ok (.aload_n 0, 1) := dz_42 (dz_at q45a_9_50 23)
theorem dX7_init_74 : decode cX7_init 74 = .ok (.getfield 31, 3) := dz_180 (dz_at q45a_9_74 0) rfl
theorem dX7_init_77 : decode cX7_init 77 = .ok (.iload_n 1, 1) := dz_27 (dz_at q45a_9_74 3)
theorem dX7_init_78 : decode cX7_init 78 = .ok (.new 25, 3) := dz_187 (dz_at q45a_9_74 4) rfl
theorem dX7_init_81 : decode cX7_init 81 = .ok (.dup, 1) := dz_89 (dz_at q45a_9_74 7)
theorem dX7_init_82 : decode cX7_init 82 = .ok (.invokespecial 37, 3) := dz_183 (dz_at q45a_9_74 8) rfl
theorem dX7_init_85 : decode cX7_init 85 = .ok (.aastore, 1) := dz_83 (dz_at q45a_9_74 11)
theorem dX7_init_86 : decode cX7_init 86 = .ok (.iinc 1 1, 3) := dz_132 (dz_at q45a_9_74 12) (by decide +kernel)
theorem dX7_init_89 : decode cX7_init 89 = .ok (.goto (-34), 3) := dz_167 (dz_at q45a_9_74 15) (by decide +kernel)
theorem dX7_init_9 : decode cX7_init 9 = .ok (.putfield 9, 3) := dz_181 (dz_at q45a_9_0 9) rfl
theorem dX7_init_92 : decode cX7_init 92 = .ok (.return_, 1) := dz_177 (dz_at q45a_9_74 18)
theorem q45a_10_0 : (cX8_init.data.toList.drop 0).take 18 = [42, 183, 0, 3, 42, 16, 24, 188, 10, 181, 0, 9, 42, 3, 181, 0, 15, 177] := by decide +kernel
theorem dX8_init_0 : decode cX8_init 0 = .ok (.aload_n 0, 1) := dz_42 (dz_at q45a_10_0 0)
theorem dX8_init_1 : decode cX8_init 1 = .ok (.invokespecial 3, 3) := dz_183 (dz_at q45a_10_0 1) rfl
theorem dX8_init_12 : decode cX8_init 12 = .ok (.aload_n 0, 1) := dz_42 (dz_at q45a_10_0 12)
theorem dX8_init_13 : decode cX8_init 13 = .ok (.iconst 0, 1) := dz_3 (dz_at q45a_10_0 13)
theorem dX8_init_14 : decode cX8_init 14 = .ok (.putfield 15, 3) := dz_181 (dz_at q45a_10_0 14) rfl
theorem dX8_init_17 : decode cX8_init 17 = .ok (.return_, 1) := dz_177 (dz_at q45a_10_0 17)
theorem dX8_init_4 : decode cX8_init 4 = .ok (.aload_n 0, 1) := dz_42 (dz_at q45a_10_0 4)
theorem dX8_init_5 : decode cX8_init 5 = .ok (.bipush 24, 2) := dz_16 (dz_at q45a_10_0 5) (by decide +kernel)
theorem dX8_init_7 : decode cX8_init 7 = .ok (.newarray .int, 2) := by decide +kernel
theorem dX8_init_9 : decode cX8_init 9 = .ok (.putfield 9, 3) := dz_181 (dz_at q45a_10_0 9) rfl
theorem q45a_11_0 : (cX9_init.data.toList.drop 0).take 22 = [42, 183, 0, 3, 42, 5, 189, 0, 9, 181, 0, 11, 42, 7, 189, 0, 17, 181, 0, 19, 42, 3] := by decide +kernel
theorem q45a_11_22 : (cX9_init.data.toList.drop 22).take 23 = [181, 0, 23, 3, 60, 27, 5, 162, 0, 22, 42, 180, 0, 11, 27, 187, 0, 9, 89, 183, 0, 27, 83] := by decide +kernel
theorem q45a_11_45 : (cX9_init.data.toList.drop 45).take 22 = [132, 1, 1, 167, 255, 235, 3, 60, 27, 7, 162, 0, 22, 42, 180, 0, 19, 27, 187, 0, 17, 89] := by decide +kernel
theorem q45a_11_67 : (cX9_init.data.toList.drop 67).take 11 = [183, 0, 28, 83, 132, 1, 1, 167, 255, 235, 177] := by decide +kernel
theorem dX9_init_0 : decode cX9_init 0 = .ok (.aload_n 0, 1) := dz_42 (dz_at q45a_11_0 0)
theorem dX9_init_1 : decode cX9_init 1 = .ok (.invokespecial 3, 3) := dz_183 (dz_at q45a_11_0 1) rfl
theorem dX9_init_12 : decode cX9_init 12 = .ok (.aload_n 0, 1) := dz_42 (dz_at q45a_11_0 12)
theorem dX9_init_13 : decode cX9_init 13 = .ok (.iconst 4, 1) := dz_7 (dz_at q45a_11_0 13)
theorem dX9_init_14 : decode cX9_init 14 = .ok (.anewarray 17, 3) := dz_189 (dz_at q45a_11_0 14) rfl
theorem dX9_init_17 : decode cX9_init 17 = .ok (.putfield 19, 3) := dz_181 (dz_at q45a_11_0 17) rfl
theorem dX9_init_20 : decode cX9_init 20 = .ok (.aload_n 0, 1) := dz_42 (dz_at q45a_11_0 20)
theorem dX9_init_21 : decode cX9_init 21 = .ok (.iconst 0, 1) := dz_3 (dz_at q45a_11_0 21)
theorem dX9_init_22 : decode cX9_init 22 = .ok (.putfield 23, 3) := dz_181 (dz_at q45a_11_22 0) rfl
theorem dX9_init_25 : decode cX9_init 25 = .ok (.iconst 0, 1) := dz_3 (dz_at q45a_11_22 3)
theorem dX9_init_26 : decode cX9_init 26 = .ok (.istore_n 1, 1) := dz_60 (dz_at q45a_11_22 4)
theorem dX9_init_27 : decode cX9_init 27 = .ok (.iload_n 1, 1) := dz_27 (dz_at q45a_11_22 5)
theorem dX9_init_28 : decode cX9_init 28 = .ok (.iconst 2, 1) := dz_5 (dz_at q45a_11_22 6)
theorem dX9_init_29 : decode cX9_init 29 = .ok (.if_icmp .ge 22, 3) := dz_162 (dz_at q45a_11_22 7) (by decide +kernel)
theorem dX9_init_32 : decode cX9_init 32 = .ok (.aload_n 0, 1) := dz_42 (dz_at q45a_11_22 10)
theorem dX9_init_33 : decode cX9_init 33 = .ok (.getfield 11, 3) := dz_180 (dz_at q45a_11_22 11) rfl
theorem dX9_init_36 : decode cX9_init 36 = .ok (.iload_n 1, 1) := dz_27 (dz_at q45a_11_22 14)
theorem dX9_init_37 : decode cX9_init 37 = .ok (.new 9, 3) := dz_187 (dz_at q45a_11_22 15) rfl
theorem dX9_init_4 : decode cX9_init 4 = .ok (.aload_n 0, 1) := dz_42 (dz_at q45a_11_0 4)
theorem dX9_init_40 : decode cX9_init 40 = .ok (.dup, 1) := dz_89 (dz_at q45a_11_22 18)
theorem dX9_init_41 : decode cX9_init 41 = .ok (.invokespecial 27, 3) := dz_183 (dz_at q45a_11_22 19) rfl
theorem dX9_init_44 : decode cX9_init 44 = .ok (.aastore, 1) := dz_83 (dz_at q45a_11_22 22)
theorem dX9_init_45 : decode cX9_init 45 = .ok (.iinc 1 1, 3) := dz_132 (dz_at q45a_11_45 0) (by decide +kernel)
theorem dX9_init_48 : decode cX9_init 48 = .ok (.goto (-21), 3) := dz_167 (dz_at q45a_11_45 3) (by decide +kernel)
theorem dX9_init_5 : decode cX9_init 5 = .ok (.iconst 2, 1) := dz_5 (dz_at q45a_11_0 5)
theorem dX9_init_51 : decode cX9_init 51 = .ok (.iconst 0, 1) := dz_3 (dz_at q45a_11_45 6)
theorem dX9_init_52 : decode cX9_init 52 = .ok (.istore_n 1, 1) := dz_60 (dz_at q45a_11_45 7)
theorem dX9_init_53 : decode cX9_init 53 = .ok (.iload_n 1, 1) := dz_27 (dz_at q45a_11_45 8)
theorem dX9_init_54 : decode cX9_init 54 = .ok (.iconst 4, 1) := dz_7 (dz_at q45a_11_45 9)
theorem dX9_init_55 : decode cX9_init 55 = .ok (.if_icmp .ge 22, 3) := dz_162 (dz_at q45a_11_45 10) (by decide +kernel)
theorem dX9_init_58 : decode cX9_init 58 = .ok (.aload_n 0, 1) := dz_42 (dz_at q45a_11_45 13)
theorem dX9_init_59 : decode cX9_init 59 = .ok (.getfield 19, 3) := dz_180 (dz_at q45a_11_45 14) rfl
theorem dX9_init_6 : decode cX9_init 6 = .ok (.anewarray 9, 3) := dz_189 (dz_at q45a_11_0 6) rfl
theorem dX9_init_62 : decode cX9_init 62 = .ok (.iload_n 1, 1) := dz_27 (dz_at q45a_11_45 17)
theorem dX9_init_63 : decode cX9_init 63 = .ok (.new 17, 3) := dz_187 (dz_at q45a_11_45 18) rfl
theorem dX9_init_66 : decode cX9_init 66 = .ok (.dup, 1) := dz_89 (dz_at q45a_11_45 21)
theorem dX9_init_67 : decode cX9_init 67 = .ok (.invokespecial 28, 3) := dz_183 (dz_at q45a_11_67 0) rfl
theorem dX9_init_70 : decode cX9_init 70 = .ok (.aastore, 1) := dz_83 (dz_at q45a_11_67 3)
theorem dX9_init_71 : decode cX9_init 71 = .ok (.iinc 1 1, 3) := dz_132 (dz_at q45a_11_67 4) (by decide +kernel)
theorem dX9_init_74 : decode cX9_init 74 = .ok (.goto (-21), 3) := dz_167 (dz_at q45a_11_67 7) (by decide +kernel)
theorem dX9_init_77 : decode cX9_init 77 = .ok (.return_, 1) := dz_177 (dz_at q45a_11_67 10)
theorem dX9_init_9 : decode cX9_init 9 = .ok (.putfield 11, 3) := dz_181 (dz_at q45a_11_0 9) rfl
end zz45_a
section zz45_b00
set_option maxHeartbeats 4000000 in
set_option maxRecDepth 100000 in
theorem mk_Strip (l : Launch) (D : va_G) (dA : Nat → ClassId) (b : Nat) (M : zM) (T : zT) (n j : Nat) (lt_j : j < n) (cd_j : zcd wC j = 6) (cd_n : zcd wC n = 7) : Met l yX8_init (.code yX8_init cX8_init 1 none :: zt) (y_rm 1 1 24) (va_Pc [.ref (b + j)] (yP D dA vwCl (z_tys dA) wC n b M T)) (va_Qv (fun _ => True) (yB D dA vwCl wC (n + 1) b (zup M j 1 0) (tup T j 0 n)) (yA b)) 1 24 (yA b) := by
  refine Met.ofW (cc := cX8_init) (maxL := 1) (ret := none) (by decide) rfl ?_
  intro p e s m args below meth c s₁ B hml hv
  obtain ⟨hargs, hY, hK, hO⟩ := hv
  have hx := B.exec
  have hb := B.bytes
  have hr := B.returns
  have hts := atoms_spec (ws := .code yX8_init cX8_init 1 none :: zt) B.pre
  have hown : s.vm.findClass RX8 = some m.cls := findClass_of_methodNamed B.named
  have hlocks := B.notSynchronized
  have hin : meth.name = "<init>" := (name_of_methodNamed B.named B.method).1
  have hS0 : va_S (yA b) s.heap s.heap [] := va_S.rf
  have hl := lv_entry ([.ref (b + j)]) (n := 1) (Nat.le_of_ble_eq_true rfl)
  have hent : entryFrame m args 1 = F0 m 0 ((lg_sl ([.ref (b + j)]) ++ List.replicate (1 - (lg_sl ([.ref (b + j)])).length) Slot.unset).toArray) [] := by rw [hargs]; exact lg_entry_eq m ([.ref (b + j)]) 1
  rw [hent]
  generalize (lg_sl ([.ref (b + j)]) ++ List.replicate (1 - (lg_sl ([.ref (b + j)])).length) Slot.unset).toArray = ls at hl ⊢
  have hl : lv_has ls 1 [(0, .ref (b + j))] := hl
  refine lv_aload_n hx hb dX8_init_0 rfl (lv_at hl 0 rfl) ?_
  refine W.objInit hx hb hown (hts _ (z_mem k40)) (hts _ (z_mem k28)) (hts _ (z_mem k29)) rfl (by rw [hml]; exact hl.1) rfl dX8_init_1 (Nat.le_of_ble_eq_true rfl) (Nat.le_of_ble_eq_true rfl) ?_
  refine W.eq (g2 := F0 m 4 ls []) rfl ?_
  refine lv_aload_n hx hb dX8_init_4 rfl (lv_at hl 0 rfl) ?_
  refine z_bipush hx hb (by decide) dX8_init_5 ?_
  refine y_newa (atype := .int) hx hb (hts _ (z_mem k53)) (t0 := 0) (N := 24) (by decide) (by decide) (hK.1.2 0 _ rfl).2 rfl hY hS0 (zkd_of cd_n rfl) (zln_of cd_n rfl) (by decide) rfl (by decide) (by decide) (Nat.le_of_ble_eq_true rfl) (Nat.le_of_ble_eq_true rfl) dX8_init_7 (fun H hY hS0 => ?_)
  have hY : yS D dA vwCl wC (n + 1) b _ _ H := hY
  refine y_putrF (t := n) hx hb hts (z_memU u8) tyX8 tyX8_ok nmX8 hown hK.1 hY hS0 f8_0 (by omega) (zkd_of cd_j rfl) (hts _ (z_mem k41)) rfl hin rfl (tyX8_ok 0 (by decide)) (fun _ => rfl) (fun _ => rfl) dX8_init_9 (fun H locs hY hS0 => ?_)
  refine lv_aload_n hx hb dX8_init_12 rfl (lv_at hl 0 rfl) ?_
  refine z_iconst hx hb dX8_init_13 ?_
  refine y_puti (z := 0) hx hb hts (z_memU u8) tyX8 tyX8_ok nmX8 hown hK.1 hY hS0 f8_1 (by omega) (zkd_of cd_j rfl) (Or.inl (hts _ (z_mem k44))) rfl (by decide +kernel) (zbd_in cd_j rfl (by decide)) dX8_init_14 (fun H locs hY hS0 => ?_)
  exact y_ret hx hb hr hlocks hY hS0 dX8_init_17
end zz45_b00
section zz45_b01
def mT_C1 (T : zT) : zT := (tup (tup (tup (tup (tup (tup (tup (tup (tup (tup (tup (tup (tup (tup (tup (tup (tup (tup (tup (tup (tup (tup (tup (tup (tup (tup (tup (tup T 1 0 2) 1 4 3) 1 5 4) 1 6 5) 6 0 7) 3 (0 : Int).toNat 6) 8 0 9) 4 (0 : Int).toNat 8) 10 0 11) 3 (1 : Int).toNat 10) 12 0 13) 4 (1 : Int).toNat 12) 14 0 15) 3 (2 : Int).toNat 14) 16 0 17) 4 (2 : Int).toNat 16) 18 0 19) 3 (3 : Int).toNat 18) 20 0 21) 4 (3 : Int).toNat 20) 22 0 23) 3 (4 : Int).toNat 22) 24 0 25) 4 (4 : Int).toNat 24) 26 0 27) 3 (5 : Int).toNat 26) 28 0 29) 4 (5 : Int).toNat 28)
def mM_C1 (M : zM) : zM := (zup (zup (zup (zup (zup (zup (zup (zup (zup (zup (zup (zup (zup (zup (zup M 1 1 0) 1 2 0) 1 3 0) 6 1 0) 8 1 0) 10 1 0) 12 1 0) 14 1 0) 16 1 0) 18 1 0) 20 1 0) 22 1 0) 24 1 0) 26 1 0) 28 1 0)
set_option maxHeartbeats 4000000 in
set_option maxRecDepth 100000 in
theorem mk_C1 (l : Launch) (D : va_G) (dA : Nat → ClassId) (b : Nat) (M : zM) (T : zT) : Met l yX7_init (.code yX7_init cX7_init 2 none :: zt) (y_rm 2 28 430) (va_Pc [.ref (b + 1)] (yP D dA vwCl (z_tys dA) wC 2 b M T)) (va_Qv (fun _ => True) (yB D dA vwCl wC 30 b (mM_C1 M) (mT_C1 T)) (yA b)) 28 430 (yA b) := by
  refine Met.ofW (cc := cX7_init) (maxL := 2) (ret := none) (by decide) rfl ?_
  intro p e s m args below meth c s₁ B hml hv
  obtain ⟨hargs, hY, hK, hO⟩ := hv
  have hx := B.exec
  have hb := B.bytes
  have hr := B.returns
  have hts := atoms_spec (ws := .code yX7_init cX7_init 2 none :: zt) B.pre
  have hown : s.vm.findClass RX7 = some m.cls := findClass_of_methodNamed B.named
  have hlocks := B.notSynchronized
  have hin : meth.name = "<init>" := (name_of_methodNamed B.named B.method).1
  have hS0 : va_S (yA b) s.heap s.heap [] := va_S.rf
  have hl := lv_entry ([.ref (b + 1)]) (n := 2) (Nat.le_of_ble_eq_true rfl)
  have hent : entryFrame m args 2 = F0 m 0 ((lg_sl ([.ref (b + 1)]) ++ List.replicate (2 - (lg_sl ([.ref (b + 1)])).length) Slot.unset).toArray) [] := by rw [hargs]; exact lg_entry_eq m ([.ref (b + 1)]) 2
  rw [hent]
  generalize (lg_sl ([.ref (b + 1)]) ++ List.replicate (2 - (lg_sl ([.ref (b + 1)])).length) Slot.unset).toArray = ls at hl ⊢
  have hl : lv_has ls 2 [(0, .ref (b + 1))] := hl
  refine lv_aload_n hx hb dX7_init_0 rfl (lv_at hl 0 rfl) ?_
  refine W.objInit hx hb hown (hts _ (z_mem k35)) (hts _ (z_mem k28)) (hts _ (z_mem k29)) rfl (by rw [hml]; exact hl.1) rfl dX7_init_1 (Nat.le_of_ble_eq_true rfl) (Nat.le_of_ble_eq_true rfl) ?_
  refine W.eq (g2 := F0 m 4 ls []) rfl ?_
  refine lv_aload_n hx hb dX7_init_4 rfl (lv_at hl 0 rfl) ?_
  refine z_bipush hx hb (by decide) dX7_init_5 ?_
  refine y_newa (atype := .int) hx hb (hts _ (z_mem k53)) (t0 := 0) (N := 100) (by decide) (by decide) (hK.1.2 0 _ rfl).2 rfl hY hS0 (zkd_of (rfl : zcd wC 2 = 2) rfl) (zln_of (rfl : zcd wC 2 = 2) rfl) (by decide) rfl (by decide) (by decide) (Nat.le_of_ble_eq_true rfl) (Nat.le_of_ble_eq_true rfl) dX7_init_7 (fun H hY hS0 => ?_)
  have hY : yS D dA vwCl wC 3 b _ _ H := hY
  refine y_putrF (t := 2) hx hb hts (z_memU u7) tyX7 tyX7_ok nmX7 hown hK.1 hY hS0 f7_0 (by decide) (zkd_of (rfl : zcd wC 1 = 1) rfl) (hts _ (z_mem k54)) rfl hin rfl (tyX7_ok 0 (by decide)) (fun _ => rfl) (fun _ => rfl) dX7_init_9 (fun H locs hY hS0 => ?_)
  refine lv_aload_n hx hb dX7_init_12 rfl (lv_at hl 0 rfl) ?_
  refine z_iconst hx hb dX7_init_13 ?_
  refine y_puti (z := 0) hx hb hts (z_memU u7) tyX7 tyX7_ok nmX7 hown hK.1 hY hS0 f7_1 (by decide) (zkd_of (rfl : zcd wC 1 = 1) rfl) (Or.inl (hts _ (z_mem k55))) rfl (by decide +kernel) (zbd_in (rfl : zcd wC 1 = 1) rfl (by decide)) dX7_init_14 (fun H locs hY hS0 => ?_)
  refine lv_aload_n hx hb dX7_init_17 rfl (lv_at hl 0 rfl) ?_
  refine z_iconst hx hb dX7_init_18 ?_
  refine y_puti (z := 0) hx hb hts (z_memU u7) tyX7 tyX7_ok nmX7 hown hK.1 hY hS0 f7_2 (by decide) (zkd_of (rfl : zcd wC 1 = 1) rfl) (Or.inl (hts _ (z_mem k57))) rfl (by decide +kernel) (zbd_in (rfl : zcd wC 1 = 1) rfl (by decide)) dX7_init_19 (fun H locs hY hS0 => ?_)
  refine lv_aload_n hx hb dX7_init_22 rfl (lv_at hl 0 rfl) ?_
  refine z_iconst hx hb dX7_init_23 ?_
  refine y_puti (z := 0) hx hb hts (z_memU u7) tyX7 tyX7_ok nmX7 hown hK.1 hY hS0 f7_3 (by decide) (zkd_of (rfl : zcd wC 1 = 1) rfl) (Or.inl (hts _ (z_mem k58))) rfl (by decide +kernel) (zbd_in (rfl : zcd wC 1 = 1) rfl (by decide)) dX7_init_24 (fun H locs hY hS0 => ?_)
  refine lv_aload_n hx hb dX7_init_27 rfl (lv_at hl 0 rfl) ?_
  refine z_bipush hx hb (by decide) dX7_init_28 ?_
  refine y_newq (C := "TapeRings$Strip") (t0 := 4) (N := 6) hx hb hown (hts _ (z_mem k36)) hO.1 (by decide) (hK.1.2 4 _ rfl).2 hY hS0 (zkd_of (rfl : zcd wC 3 = 3) rfl) (zln_of (rfl : zcd wC 3 = 3) rfl) (by decide) rfl (by decide) (by decide) (Nat.le_of_ble_eq_true rfl) (Nat.le_of_ble_eq_true rfl) dX7_init_30 (fun H hY hS0 => ?_)
  have hY : yS D dA vwCl wC 4 b _ _ H := hY
  refine y_putrF (t := 3) hx hb hts (z_memU u7) tyX7 tyX7_ok nmX7 hown hK.1 hY hS0 f7_4 (by decide) (zkd_of (rfl : zcd wC 1 = 1) rfl) (hts _ (z_mem k59)) rfl hin rfl (tyX7_ok 4 (by decide)) (fun _ => rfl) (fun _ => rfl) dX7_init_33 (fun H locs hY hS0 => ?_)
  refine lv_aload_n hx hb dX7_init_36 rfl (lv_at hl 0 rfl) ?_
  refine z_bipush hx hb (by decide) dX7_init_37 ?_
  refine y_newq (C := "TapeRings$Strip") (t0 := 4) (N := 6) hx hb hown (hts _ (z_mem k36)) hO.1 (by decide) (hK.1.2 4 _ rfl).2 hY hS0 (zkd_of (rfl : zcd wC 4 = 4) rfl) (zln_of (rfl : zcd wC 4 = 4) rfl) (by decide) rfl (by decide) (by decide) (Nat.le_of_ble_eq_true rfl) (Nat.le_of_ble_eq_true rfl) dX7_init_39 (fun H hY hS0 => ?_)
  have hY : yS D dA vwCl wC 5 b _ _ H := hY
  refine y_putrF (t := 4) hx hb hts (z_memU u7) tyX7 tyX7_ok nmX7 hown hK.1 hY hS0 f7_5 (by decide) (zkd_of (rfl : zcd wC 1 = 1) rfl) (hts _ (z_mem k60)) rfl hin rfl (tyX7_ok 5 (by decide)) (fun _ => rfl) (fun _ => rfl) dX7_init_42 (fun H locs hY hS0 => ?_)
  refine lv_aload_n hx hb dX7_init_45 rfl (lv_at hl 0 rfl) ?_
  refine z_bipush hx hb (by decide) dX7_init_46 ?_
  refine y_newa (atype := .int) hx hb (hts _ (z_mem k53)) (t0 := 0) (N := 6) (by decide) (by decide) (hK.1.2 0 _ rfl).2 rfl hY hS0 (zkd_of (rfl : zcd wC 5 = 5) rfl) (zln_of (rfl : zcd wC 5 = 5) rfl) (by decide) rfl (by decide) (by decide) (Nat.le_of_ble_eq_true rfl) (Nat.le_of_ble_eq_true rfl) dX7_init_48 (fun H hY hS0 => ?_)
  have hY : yS D dA vwCl wC 6 b _ _ H := hY
  refine y_putrF (t := 5) hx hb hts (z_memU u7) tyX7 tyX7_ok nmX7 hown hK.1 hY hS0 f7_6 (by decide) (zkd_of (rfl : zcd wC 1 = 1) rfl) (hts _ (z_mem k61)) rfl hin rfl (tyX7_ok 6 (by decide)) (fun _ => rfl) (fun _ => rfl) dX7_init_50 (fun H locs hY hS0 => ?_)
  refine z_iconst hx hb dX7_init_53 ?_
  refine lv_istore_n (lv' := [(1, .int (iI 0)), (0, .ref (b + 1))]) hx hb dX7_init_54 rfl hl (by decide) rfl (fun ls hl => ?_)
  refine lv_iload_n hx hb dX7_init_55 rfl (lv_at hl 0 rfl) ?_
  refine z_iconst hx hb dX7_init_56 ?_
  refine z_icmp_gt (tgt := 92) hx hb (by decide) (by decide) dX7_init_57 (by decide) (fun c9 => absurd c9 (by decide)) (fun _ => ?_)
  refine lv_aload_n hx hb dX7_init_60 rfl (lv_at hl 1 rfl) ?_
  refine y_getr (t := 3) hx hb hts (z_memU u7) hown hK.1 hY f7_4 (by decide) (zkd_of (rfl : zcd wC 1 = 1) rfl) (tup_ne rfl (tup_ne rfl tup_s)) (Or.inl (hts _ (z_mem k59))) dX7_init_61 ?_
  refine lv_iload_n hx hb dX7_init_64 rfl (lv_at hl 0 rfl) ?_
  refine y_new hx hb hts (z_memU u8) tyX8 tyX8_ok hown (hts _ (z_mem k36)) (hts _ (z_mem k37)) (hts _ (z_mem k3)) hK.1 hY hS0 (rfl : vwCl[8]? = some (RX8, TX8, 2)) (by decide) (zkd_of (rfl : zcd wC 6 = 6) rfl) rfl (fun k hk => by rcases (show k = 0 ∨ k = 1 by omega) with rfl | rfl <;> rfl) (Nat.le_of_ble_eq_true rfl) (Nat.le_of_ble_eq_true rfl) dX7_init_65 (fun H hY hS0 => ?_)
  have hY : yS D dA vwCl wC 7 b _ _ H := hY
  refine lv_dup hx hb dX7_init_68 rfl ?_
  have hnw := hK.2 (RX7, 37, yX8_init, RX11) (List.mem_of_getElem? (i := 0) rfl)
  refine y_call (va_runIN (As := []) (rest := [.ref (b + 6), .int (iI 0), .ref (b + 3)]) ⟨hx, hb, hml, hown, hts⟩ (mk_Strip l D dA b _ _ 7 6 (by decide) (rfl : zcd wC 6 = 6) (rfl : zcd wC 7 = 7)) ⟨va_cnB 0 hts (z_gN k39) rfl rfl rfl hnw (hts _ (z_mem k3)) (by decide +kernel) ⟨(Nat.le_of_ble_eq_true rfl), (Nat.le_of_ble_eq_true rfl)⟩, rfl, (hts _ (z_mem k38))⟩ ⟨yP_blind, y_pre hY hK hO⟩ rfl rfl hl.1 rfl (lv_room (Nat.le_of_ble_eq_true rfl)) dX7_init_69 ⟨(Nat.le_of_ble_eq_true rfl), (Nat.le_of_ble_eq_true rfl)⟩) hS0 (fun H locs hY hS0 => ?_)
  have hY : yS D dA vwCl wC 8 b _ _ H := hY
  refine y_aast (t0 := 4) (N := 6) (i := 0) hx hb hK.1 (by decide) (hK.1.2 4 _ rfl).2 (rfl : vwCl[8]? = some (RX8, TX8, 2)) (by decide) hY hS0 (by decide) (zkd_of (rfl : zcd wC 3 = 3) rfl) (zln_of (rfl : zcd wC 3 = 3) rfl) (by decide) (zkd_of (rfl : zcd wC 6 = 6) rfl) (by decide) (by decide) (by decide) dX7_init_72 (fun H locs hY hS0 => ?_)
  refine lv_aload_n hx hb dX7_init_73 rfl (lv_at hl 1 rfl) ?_
  refine y_getr (t := 4) hx hb hts (z_memU u7) hown hK.1 hY f7_5 (by decide) (zkd_of (rfl : zcd wC 1 = 1) rfl) (tup_ne rfl (tup_ne rfl (tup_ne rfl tup_s))) (Or.inl (hts _ (z_mem k60))) dX7_init_74 ?_
  refine lv_iload_n hx hb dX7_init_77 rfl (lv_at hl 0 rfl) ?_
  refine y_new hx hb hts (z_memU u8) tyX8 tyX8_ok hown (hts _ (z_mem k36)) (hts _ (z_mem k37)) (hts _ (z_mem k3)) hK.1 hY hS0 (rfl : vwCl[8]? = some (RX8, TX8, 2)) (by decide) (zkd_of (rfl : zcd wC 8 = 6) rfl) rfl (fun k hk => by rcases (show k = 0 ∨ k = 1 by omega) with rfl | rfl <;> rfl) (Nat.le_of_ble_eq_true rfl) (Nat.le_of_ble_eq_true rfl) dX7_init_78 (fun H hY hS0 => ?_)
  have hY : yS D dA vwCl wC 9 b _ _ H := hY
  refine lv_dup hx hb dX7_init_81 rfl ?_
  have hnw := hK.2 (RX7, 37, yX8_init, RX11) (List.mem_of_getElem? (i := 0) rfl)
  refine y_call (va_runIN (As := []) (rest := [.ref (b + 8), .int (iI 0), .ref (b + 4)]) ⟨hx, hb, hml, hown, hts⟩ (mk_Strip l D dA b _ _ 9 8 (by decide) (rfl : zcd wC 8 = 6) (rfl : zcd wC 9 = 7)) ⟨va_cnB 0 hts (z_gN k39) rfl rfl rfl hnw (hts _ (z_mem k3)) (by decide +kernel) ⟨(Nat.le_of_ble_eq_true rfl), (Nat.le_of_ble_eq_true rfl)⟩, rfl, (hts _ (z_mem k38))⟩ ⟨yP_blind, y_pre hY hK hO⟩ rfl rfl hl.1 rfl (lv_room (Nat.le_of_ble_eq_true rfl)) dX7_init_82 ⟨(Nat.le_of_ble_eq_true rfl), (Nat.le_of_ble_eq_true rfl)⟩) hS0 (fun H locs hY hS0 => ?_)
  have hY : yS D dA vwCl wC 10 b _ _ H := hY
  refine y_aast (t0 := 4) (N := 6) (i := 0) hx hb hK.1 (by decide) (hK.1.2 4 _ rfl).2 (rfl : vwCl[8]? = some (RX8, TX8, 2)) (by decide) hY hS0 (by decide) (zkd_of (rfl : zcd wC 4 = 4) rfl) (zln_of (rfl : zcd wC 4 = 4) rfl) (by decide) (zkd_of (rfl : zcd wC 8 = 6) rfl) (by decide) (by decide) (by decide) dX7_init_85 (fun H locs hY hS0 => ?_)
  refine z_iinc (lv' := [(1, .int (iI (0 + 1))), (0, .ref (b + 1))]) hx hb dX7_init_86 hl (k := 0) rfl (by decide) rfl (fun ls hl => ?_)
  rw [show ((0 + 1) : Int) = 1 from by decide] at hl
  refine lv_goto (tgt := 55) hx hb dX7_init_89 (by decide) ?_
  refine lv_iload_n hx hb dX7_init_55 rfl (lv_at hl 0 rfl) ?_
  refine z_iconst hx hb dX7_init_56 ?_
  refine z_icmp_gt (tgt := 92) hx hb (by decide) (by decide) dX7_init_57 (by decide) (fun c9 => absurd c9 (by decide)) (fun _ => ?_)
  refine lv_aload_n hx hb dX7_init_60 rfl (lv_at hl 1 rfl) ?_
  refine y_getr (t := 3) hx hb hts (z_memU u7) hown hK.1 hY f7_4 (by decide) (zkd_of (rfl : zcd wC 1 = 1) rfl) (tup_ne rfl (tup_ne rfl (tup_ne rfl (tup_ne rfl (tup_ne rfl (tup_ne rfl tup_s)))))) (Or.inl (hts _ (z_mem k59))) dX7_init_61 ?_
  refine lv_iload_n hx hb dX7_init_64 rfl (lv_at hl 0 rfl) ?_
  refine y_new hx hb hts (z_memU u8) tyX8 tyX8_ok hown (hts _ (z_mem k36)) (hts _ (z_mem k37)) (hts _ (z_mem k3)) hK.1 hY hS0 (rfl : vwCl[8]? = some (RX8, TX8, 2)) (by decide) (zkd_of (rfl : zcd wC 10 = 6) rfl) rfl (fun k hk => by rcases (show k = 0 ∨ k = 1 by omega) with rfl | rfl <;> rfl) (Nat.le_of_ble_eq_true rfl) (Nat.le_of_ble_eq_true rfl) dX7_init_65 (fun H hY hS0 => ?_)
  have hY : yS D dA vwCl wC 11 b _ _ H := hY
  refine lv_dup hx hb dX7_init_68 rfl ?_
  have hnw := hK.2 (RX7, 37, yX8_init, RX11) (List.mem_of_getElem? (i := 0) rfl)
  refine y_call (va_runIN (As := []) (rest := [.ref (b + 10), .int (iI 1), .ref (b + 3)]) ⟨hx, hb, hml, hown, hts⟩ (mk_Strip l D dA b _ _ 11 10 (by decide) (rfl : zcd wC 10 = 6) (rfl : zcd wC 11 = 7)) ⟨va_cnB 0 hts (z_gN k39) rfl rfl rfl hnw (hts _ (z_mem k3)) (by decide +kernel) ⟨(Nat.le_of_ble_eq_true rfl), (Nat.le_of_ble_eq_true rfl)⟩, rfl, (hts _ (z_mem k38))⟩ ⟨yP_blind, y_pre hY hK hO⟩ rfl rfl hl.1 rfl (lv_room (Nat.le_of_ble_eq_true rfl)) dX7_init_69 ⟨(Nat.le_of_ble_eq_true rfl), (Nat.le_of_ble_eq_true rfl)⟩) hS0 (fun H locs hY hS0 => ?_)
  have hY : yS D dA vwCl wC 12 b _ _ H := hY
  refine y_aast (t0 := 4) (N := 6) (i := 1) hx hb hK.1 (by decide) (hK.1.2 4 _ rfl).2 (rfl : vwCl[8]? = some (RX8, TX8, 2)) (by decide) hY hS0 (by decide) (zkd_of (rfl : zcd wC 3 = 3) rfl) (zln_of (rfl : zcd wC 3 = 3) rfl) (by decide) (zkd_of (rfl : zcd wC 10 = 6) rfl) (by decide) (by decide) (by decide) dX7_init_72 (fun H locs hY hS0 => ?_)
  refine lv_aload_n hx hb dX7_init_73 rfl (lv_at hl 1 rfl) ?_
  refine y_getr (t := 4) hx hb hts (z_memU u7) hown hK.1 hY f7_5 (by decide) (zkd_of (rfl : zcd wC 1 = 1) rfl) (tup_ne rfl (tup_ne rfl (tup_ne rfl (tup_ne rfl (tup_ne rfl (tup_ne rfl (tup_ne rfl tup_s))))))) (Or.inl (hts _ (z_mem k60))) dX7_init_74 ?_
  refine lv_iload_n hx hb dX7_init_77 rfl (lv_at hl 0 rfl) ?_
  refine y_new hx hb hts (z_memU u8) tyX8 tyX8_ok hown (hts _ (z_mem k36)) (hts _ (z_mem k37)) (hts _ (z_mem k3)) hK.1 hY hS0 (rfl : vwCl[8]? = some (RX8, TX8, 2)) (by decide) (zkd_of (rfl : zcd wC 12 = 6) rfl) rfl (fun k hk => by rcases (show k = 0 ∨ k = 1 by omega) with rfl | rfl <;> rfl) (Nat.le_of_ble_eq_true rfl) (Nat.le_of_ble_eq_true rfl) dX7_init_78 (fun H hY hS0 => ?_)
  have hY : yS D dA vwCl wC 13 b _ _ H := hY
  refine lv_dup hx hb dX7_init_81 rfl ?_
  have hnw := hK.2 (RX7, 37, yX8_init, RX11) (List.mem_of_getElem? (i := 0) rfl)
  refine y_call (va_runIN (As := []) (rest := [.ref (b + 12), .int (iI 1), .ref (b + 4)]) ⟨hx, hb, hml, hown, hts⟩ (mk_Strip l D dA b _ _ 13 12 (by decide) (rfl : zcd wC 12 = 6) (rfl : zcd wC 13 = 7)) ⟨va_cnB 0 hts (z_gN k39) rfl rfl rfl hnw (hts _ (z_mem k3)) (by decide +kernel) ⟨(Nat.le_of_ble_eq_true rfl), (Nat.le_of_ble_eq_true rfl)⟩, rfl, (hts _ (z_mem k38))⟩ ⟨yP_blind, y_pre hY hK hO⟩ rfl rfl hl.1 rfl (lv_room (Nat.le_of_ble_eq_true rfl)) dX7_init_82 ⟨(Nat.le_of_ble_eq_true rfl), (Nat.le_of_ble_eq_true rfl)⟩) hS0 (fun H locs hY hS0 => ?_)
  have hY : yS D dA vwCl wC 14 b _ _ H := hY
  refine y_aast (t0 := 4) (N := 6) (i := 1) hx hb hK.1 (by decide) (hK.1.2 4 _ rfl).2 (rfl : vwCl[8]? = some (RX8, TX8, 2)) (by decide) hY hS0 (by decide) (zkd_of (rfl : zcd wC 4 = 4) rfl) (zln_of (rfl : zcd wC 4 = 4) rfl) (by decide) (zkd_of (rfl : zcd wC 12 = 6) rfl) (by decide) (by decide) (by decide) dX7_init_85 (fun H locs hY hS0 => ?_)
  refine z_iinc (lv' := [(1, .int (iI (1 + 1))), (0, .ref (b + 1))]) hx hb dX7_init_86 hl (k := 0) rfl (by decide) rfl (fun ls hl => ?_)
  rw [show ((1 + 1) : Int) = 2 from by decide] at hl
  refine lv_goto (tgt := 55) hx hb dX7_init_89 (by decide) ?_
  refine lv_iload_n hx hb dX7_init_55 rfl (lv_at hl 0 rfl) ?_
  refine z_iconst hx hb dX7_init_56 ?_
  refine z_icmp_gt (tgt := 92) hx hb (by decide) (by decide) dX7_init_57 (by decide) (fun c9 => absurd c9 (by decide)) (fun _ => ?_)
  refine lv_aload_n hx hb dX7_init_60 rfl (lv_at hl 1 rfl) ?_
  refine y_getr (t := 3) hx hb hts (z_memU u7) hown hK.1 hY f7_4 (by decide) (zkd_of (rfl : zcd wC 1 = 1) rfl) (tup_ne rfl (tup_ne rfl (tup_ne rfl (tup_ne rfl (tup_ne rfl (tup_ne rfl (tup_ne rfl (tup_ne rfl (tup_ne rfl (tup_ne rfl tup_s)))))))))) (Or.inl (hts _ (z_mem k59))) dX7_init_61 ?_
  refine lv_iload_n hx hb dX7_init_64 rfl (lv_at hl 0 rfl) ?_
  refine y_new hx hb hts (z_memU u8) tyX8 tyX8_ok hown (hts _ (z_mem k36)) (hts _ (z_mem k37)) (hts _ (z_mem k3)) hK.1 hY hS0 (rfl : vwCl[8]? = some (RX8, TX8, 2)) (by decide) (zkd_of (rfl : zcd wC 14 = 6) rfl) rfl (fun k hk => by rcases (show k = 0 ∨ k = 1 by omega) with rfl | rfl <;> rfl) (Nat.le_of_ble_eq_true rfl) (Nat.le_of_ble_eq_true rfl) dX7_init_65 (fun H hY hS0 => ?_)
  have hY : yS D dA vwCl wC 15 b _ _ H := hY
  refine lv_dup hx hb dX7_init_68 rfl ?_
  have hnw := hK.2 (RX7, 37, yX8_init, RX11) (List.mem_of_getElem? (i := 0) rfl)
  refine y_call (va_runIN (As := []) (rest := [.ref (b + 14), .int (iI 2), .ref (b + 3)]) ⟨hx, hb, hml, hown, hts⟩ (mk_Strip l D dA b _ _ 15 14 (by decide) (rfl : zcd wC 14 = 6) (rfl : zcd wC 15 = 7)) ⟨va_cnB 0 hts (z_gN k39) rfl rfl rfl hnw (hts _ (z_mem k3)) (by decide +kernel) ⟨(Nat.le_of_ble_eq_true rfl), (Nat.le_of_ble_eq_true rfl)⟩, rfl, (hts _ (z_mem k38))⟩ ⟨yP_blind, y_pre hY hK hO⟩ rfl rfl hl.1 rfl (lv_room (Nat.le_of_ble_eq_true rfl)) dX7_init_69 ⟨(Nat.le_of_ble_eq_true rfl), (Nat.le_of_ble_eq_true rfl)⟩) hS0 (fun H locs hY hS0 => ?_)
  have hY : yS D dA vwCl wC 16 b _ _ H := hY
  refine y_aast (t0 := 4) (N := 6) (i := 2) hx hb hK.1 (by decide) (hK.1.2 4 _ rfl).2 (rfl : vwCl[8]? = some (RX8, TX8, 2)) (by decide) hY hS0 (by decide) (zkd_of (rfl : zcd wC 3 = 3) rfl) (zln_of (rfl : zcd wC 3 = 3) rfl) (by decide) (zkd_of (rfl : zcd wC 14 = 6) rfl) (by decide) (by decide) (by decide) dX7_init_72 (fun H locs hY hS0 => ?_)
  refine lv_aload_n hx hb dX7_init_73 rfl (lv_at hl 1 rfl) ?_
  refine y_getr (t := 4) hx hb hts (z_memU u7) hown hK.1 hY f7_5 (by decide) (zkd_of (rfl : zcd wC 1 = 1) rfl) (tup_ne rfl (tup_ne rfl (tup_ne rfl (tup_ne rfl (tup_ne rfl (tup_ne rfl (tup_ne rfl (tup_ne rfl (tup_ne rfl (tup_ne rfl (tup_ne rfl tup_s))))))))))) (Or.inl (hts _ (z_mem k60))) dX7_init_74 ?_
  refine lv_iload_n hx hb dX7_init_77 rfl (lv_at hl 0 rfl) ?_
  refine y_new hx hb hts (z_memU u8) tyX8 tyX8_ok hown (hts _ (z_mem k36)) (hts _ (z_mem k37)) (hts _ (z_mem k3)) hK.1 hY hS0 (rfl : vwCl[8]? = some (RX8, TX8, 2)) (by decide) (zkd_of (rfl : zcd wC 16 = 6) rfl) rfl (fun k hk => by rcases (show k = 0 ∨ k = 1 by omega) with rfl | rfl <;> rfl) (Nat.le_of_ble_eq_true rfl) (Nat.le_of_ble_eq_true rfl) dX7_init_78 (fun H hY hS0 => ?_)
  have hY : yS D dA vwCl wC 17 b _ _ H := hY
  refine lv_dup hx hb dX7_init_81 rfl ?_
  have hnw := hK.2 (RX7, 37, yX8_init, RX11) (List.mem_of_getElem? (i := 0) rfl)
  refine y_call (va_runIN (As := []) (rest := [.ref (b + 16), .int (iI 2), .ref (b + 4)]) ⟨hx, hb, hml, hown, hts⟩ (mk_Strip l D dA b _ _ 17 16 (by decide) (rfl : zcd wC 16 = 6) (rfl : zcd wC 17 = 7)) ⟨va_cnB 0 hts (z_gN k39) rfl rfl rfl hnw (hts _ (z_mem k3)) (by decide +kernel) ⟨(Nat.le_of_ble_eq_true rfl), (Nat.le_of_ble_eq_true rfl)⟩, rfl, (hts _ (z_mem k38))⟩ ⟨yP_blind, y_pre hY hK hO⟩ rfl rfl hl.1 rfl (lv_room (Nat.le_of_ble_eq_true rfl)) dX7_init_82 ⟨(Nat.le_of_ble_eq_true rfl), (Nat.le_of_ble_eq_true rfl)⟩) hS0 (fun H locs hY hS0 => ?_)
  have hY : yS D dA vwCl wC 18 b _ _ H := hY
  refine y_aast (t0 := 4) (N := 6) (i := 2) hx hb hK.1 (by decide) (hK.1.2 4 _ rfl).2 (rfl : vwCl[8]? = some (RX8, TX8, 2)) (by decide) hY hS0 (by decide) (zkd_of (rfl : zcd wC 4 = 4) rfl) (zln_of (rfl : zcd wC 4 = 4) rfl) (by decide) (zkd_of (rfl : zcd wC 16 = 6) rfl) (by decide) (by decide) (by decide) dX7_init_85 (fun H locs hY hS0 => ?_)
  refine z_iinc (lv' := [(1, .int (iI (2 + 1))), (0, .ref (b + 1))]) hx hb dX7_init_86 hl (k := 0) rfl (by decide) rfl (fun ls hl => ?_)
  rw [show ((2 + 1) : Int) = 3 from by decide] at hl
  refine lv_goto (tgt := 55) hx hb dX7_init_89 (by decide) ?_
  refine lv_iload_n hx hb dX7_init_55 rfl (lv_at hl 0 rfl) ?_
  refine z_iconst hx hb dX7_init_56 ?_
  refine z_icmp_gt (tgt := 92) hx hb (by decide) (by decide) dX7_init_57 (by decide) (fun c9 => absurd c9 (by decide)) (fun _ => ?_)
  refine lv_aload_n hx hb dX7_init_60 rfl (lv_at hl 1 rfl) ?_
  refine y_getr (t := 3) hx hb hts (z_memU u7) hown hK.1 hY f7_4 (by decide) (zkd_of (rfl : zcd wC 1 = 1) rfl) (tup_ne rfl (tup_ne rfl (tup_ne rfl (tup_ne rfl (tup_ne rfl (tup_ne rfl (tup_ne rfl (tup_ne rfl (tup_ne rfl (tup_ne rfl (tup_ne rfl (tup_ne rfl (tup_ne rfl (tup_ne rfl tup_s)))))))))))))) (Or.inl (hts _ (z_mem k59))) dX7_init_61 ?_
  refine lv_iload_n hx hb dX7_init_64 rfl (lv_at hl 0 rfl) ?_
  refine y_new hx hb hts (z_memU u8) tyX8 tyX8_ok hown (hts _ (z_mem k36)) (hts _ (z_mem k37)) (hts _ (z_mem k3)) hK.1 hY hS0 (rfl : vwCl[8]? = some (RX8, TX8, 2)) (by decide) (zkd_of (rfl : zcd wC 18 = 6) rfl) rfl (fun k hk => by rcases (show k = 0 ∨ k = 1 by omega) with rfl | rfl <;> rfl) (Nat.le_of_ble_eq_true rfl) (Nat.le_of_ble_eq_true rfl) dX7_init_65 (fun H hY hS0 => ?_)
  have hY : yS D dA vwCl wC 19 b _ _ H := hY
  refine lv_dup hx hb dX7_init_68 rfl ?_
  have hnw := hK.2 (RX7, 37, yX8_init, RX11) (List.mem_of_getElem? (i := 0) rfl)
  refine y_call (va_runIN (As := []) (rest := [.ref (b + 18), .int (iI 3), .ref (b + 3)]) ⟨hx, hb, hml, hown, hts⟩ (mk_Strip l D dA b _ _ 19 18 (by decide) (rfl : zcd wC 18 = 6) (rfl : zcd wC 19 = 7)) ⟨va_cnB 0 hts (z_gN k39) rfl rfl rfl hnw (hts _ (z_mem k3)) (by decide +kernel) ⟨(Nat.le_of_ble_eq_true rfl), (Nat.le_of_ble_eq_true rfl)⟩, rfl, (hts _ (z_mem k38))⟩ ⟨yP_blind, y_pre hY hK hO⟩ rfl rfl hl.1 rfl (lv_room (Nat.le_of_ble_eq_true rfl)) dX7_init_69 ⟨(Nat.le_of_ble_eq_true rfl), (Nat.le_of_ble_eq_true rfl)⟩) hS0 (fun H locs hY hS0 => ?_)
  have hY : yS D dA vwCl wC 20 b _ _ H := hY
  refine y_aast (t0 := 4) (N := 6) (i := 3) hx hb hK.1 (by decide) (hK.1.2 4 _ rfl).2 (rfl : vwCl[8]? = some (RX8, TX8, 2)) (by decide) hY hS0 (by decide) (zkd_of (rfl : zcd wC 3 = 3) rfl) (zln_of (rfl : zcd wC 3 = 3) rfl) (by decide) (zkd_of (rfl : zcd wC 18 = 6) rfl) (by decide) (by decide) (by decide) dX7_init_72 (fun H locs hY hS0 => ?_)
  refine lv_aload_n hx hb dX7_init_73 rfl (lv_at hl 1 rfl) ?_
  refine y_getr (t := 4) hx hb hts (z_memU u7) hown hK.1 hY f7_5 (by decide) (zkd_of (rfl : zcd wC 1 = 1) rfl) (tup_ne rfl (tup_ne rfl (tup_ne rfl (tup_ne rfl (tup_ne rfl (tup_ne rfl (tup_ne rfl (tup_ne rfl (tup_ne rfl (tup_ne rfl (tup_ne rfl (tup_ne rfl (tup_ne rfl (tup_ne rfl (tup_ne rfl tup_s))))))))))))))) (Or.inl (hts _ (z_mem k60))) dX7_init_74 ?_
  refine lv_iload_n hx hb dX7_init_77 rfl (lv_at hl 0 rfl) ?_
  refine y_new hx hb hts (z_memU u8) tyX8 tyX8_ok hown (hts _ (z_mem k36)) (hts _ (z_mem k37)) (hts _ (z_mem k3)) hK.1 hY hS0 (rfl : vwCl[8]? = some (RX8, TX8, 2)) (by decide) (zkd_of (rfl : zcd wC 20 = 6) rfl) rfl (fun k hk => by rcases (show k = 0 ∨ k = 1 by omega) with rfl | rfl <;> rfl) (Nat.le_of_ble_eq_true rfl) (Nat.le_of_ble_eq_true rfl) dX7_init_78 (fun H hY hS0 => ?_)
  have hY : yS D dA vwCl wC 21 b _ _ H := hY
  refine lv_dup hx hb dX7_init_81 rfl ?_
  have hnw := hK.2 (RX7, 37, yX8_init, RX11) (List.mem_of_getElem? (i := 0) rfl)
  refine y_call (va_runIN (As := []) (rest := [.ref (b + 20), .int (iI 3), .ref (b + 4)]) ⟨hx, hb, hml, hown, hts⟩ (mk_Strip l D dA b _ _ 21 20 (by decide) (rfl : zcd wC 20 = 6) (rfl : zcd wC 21 = 7)) ⟨va_cnB 0 hts (z_gN k39) rfl rfl rfl hnw (hts _ (z_mem k3)) (by decide +kernel) ⟨(Nat.le_of_ble_eq_true rfl), (Nat.le_of_ble_eq_true rfl)⟩, rfl, (hts _ (z_mem k38))⟩ ⟨yP_blind, y_pre hY hK hO⟩ rfl rfl hl.1 rfl (lv_room (Nat.le_of_ble_eq_true rfl)) dX7_init_82 ⟨(Nat.le_of_ble_eq_true rfl), (Nat.le_of_ble_eq_true rfl)⟩) hS0 (fun H locs hY hS0 => ?_)
  have hY : yS D dA vwCl wC 22 b _ _ H := hY
  refine y_aast (t0 := 4) (N := 6) (i := 3) hx hb hK.1 (by decide) (hK.1.2 4 _ rfl).2 (rfl : vwCl[8]? = some (RX8, TX8, 2)) (by decide) hY hS0 (by decide) (zkd_of (rfl : zcd wC 4 = 4) rfl) (zln_of (rfl : zcd wC 4 = 4) rfl) (by decide) (zkd_of (rfl : zcd wC 20 = 6) rfl) (by decide) (by decide) (by decide) dX7_init_85 (fun H locs hY hS0 => ?_)
  refine z_iinc (lv' := [(1, .int (iI (3 + 1))), (0, .ref (b + 1))]) hx hb dX7_init_86 hl (k := 0) rfl (by decide) rfl (fun ls hl => ?_)
  rw [show ((3 + 1) : Int) = 4 from by decide] at hl
  refine lv_goto (tgt := 55) hx hb dX7_init_89 (by decide) ?_
  refine lv_iload_n hx hb dX7_init_55 rfl (lv_at hl 0 rfl) ?_
  refine z_iconst hx hb dX7_init_56 ?_
  refine z_icmp_gt (tgt := 92) hx hb (by decide) (by decide) dX7_init_57 (by decide) (fun c9 => absurd c9 (by decide)) (fun _ => ?_)
  refine lv_aload_n hx hb dX7_init_60 rfl (lv_at hl 1 rfl) ?_
  refine y_getr (t := 3) hx hb hts (z_memU u7) hown hK.1 hY f7_4 (by decide) (zkd_of (rfl : zcd wC 1 = 1) rfl) (tup_ne rfl (tup_ne rfl (tup_ne rfl (tup_ne rfl (tup_ne rfl (tup_ne rfl (tup_ne rfl (tup_ne rfl (tup_ne rfl (tup_ne rfl (tup_ne rfl (tup_ne rfl (tup_ne rfl (tup_ne rfl (tup_ne rfl (tup_ne rfl (tup_ne rfl (tup_ne rfl tup_s)))))))))))))))))) (Or.inl (hts _ (z_mem k59))) dX7_init_61 ?_
  refine lv_iload_n hx hb dX7_init_64 rfl (lv_at hl 0 rfl) ?_
  refine y_new hx hb hts (z_memU u8) tyX8 tyX8_ok hown (hts _ (z_mem k36)) (hts _ (z_mem k37)) (hts _ (z_mem k3)) hK.1 hY hS0 (rfl : vwCl[8]? = some (RX8, TX8, 2)) (by decide) (zkd_of (rfl : zcd wC 22 = 6) rfl) rfl (fun k hk => by rcases (show k = 0 ∨ k = 1 by omega) with rfl | rfl <;> rfl) (Nat.le_of_ble_eq_true rfl) (Nat.le_of_ble_eq_true rfl) dX7_init_65 (fun H hY hS0 => ?_)
  have hY : yS D dA vwCl wC 23 b _ _ H := hY
  refine lv_dup hx hb dX7_init_68 rfl ?_
  have hnw := hK.2 (RX7, 37, yX8_init, RX11) (List.mem_of_getElem? (i := 0) rfl)
  refine y_call (va_runIN (As := []) (rest := [.ref (b + 22), .int (iI 4), .ref (b + 3)]) ⟨hx, hb, hml, hown, hts⟩ (mk_Strip l D dA b _ _ 23 22 (by decide) (rfl : zcd wC 22 = 6) (rfl : zcd wC 23 = 7)) ⟨va_cnB 0 hts (z_gN k39) rfl rfl rfl hnw (hts _ (z_mem k3)) (by decide +kernel) ⟨(Nat.le_of_ble_eq_true rfl), (Nat.le_of_ble_eq_true rfl)⟩, rfl, (hts _ (z_mem k38))⟩ ⟨yP_blind, y_pre hY hK hO⟩ rfl rfl hl.1 rfl (lv_room (Nat.le_of_ble_eq_true rfl)) dX7_init_69 ⟨(Nat.le_of_ble_eq_true rfl), (Nat.le_of_ble_eq_true rfl)⟩) hS0 (fun H locs hY hS0 => ?_)
  have hY : yS D dA vwCl wC 24 b _ _ H := hY
  refine y_aast (t0 := 4) (N := 6) (i := 4) hx hb hK.1 (by decide) (hK.1.2 4 _ rfl).2 (rfl : vwCl[8]? = some (RX8, TX8, 2)) (by decide) hY hS0 (by decide) (zkd_of (rfl : zcd wC 3 = 3) rfl) (zln_of (rfl : zcd wC 3 = 3) rfl) (by decide) (zkd_of (rfl : zcd wC 22 = 6) rfl) (by decide) (by decide) (by decide) dX7_init_72 (fun H locs hY hS0 => ?_)
  refine lv_aload_n hx hb dX7_init_73 rfl (lv_at hl 1 rfl) ?_
  refine y_getr (t := 4) hx hb hts (z_memU u7) hown hK.1 hY f7_5 (by decide) (zkd_of (rfl : zcd wC 1 = 1) rfl) (tup_ne rfl (tup_ne rfl (tup_ne rfl (tup_ne rfl (tup_ne rfl (tup_ne rfl (tup_ne rfl (tup_ne rfl (tup_ne rfl (tup_ne rfl (tup_ne rfl (tup_ne rfl (tup_ne rfl (tup_ne rfl (tup_ne rfl (tup_ne rfl (tup_ne rfl (tup_ne rfl (tup_ne rfl tup_s))))))))))))))))))) (Or.inl (hts _ (z_mem k60))) dX7_init_74 ?_
  refine lv_iload_n hx hb dX7_init_77 rfl (lv_at hl 0 rfl) ?_
  refine y_new hx hb hts (z_memU u8) tyX8 tyX8_ok hown (hts _ (z_mem k36)) (hts _ (z_mem k37)) (hts _ (z_mem k3)) hK.1 hY hS0 (rfl : vwCl[8]? = some (RX8, TX8, 2)) (by decide) (zkd_of (rfl : zcd wC 24 = 6) rfl) rfl (fun k hk => by rcases (show k = 0 ∨ k = 1 by omega) with rfl | rfl <;> rfl) (Nat.le_of_ble_eq_true rfl) (Nat.le_of_ble_eq_true rfl) dX7_init_78 (fun H hY hS0 => ?_)
  have hY : yS D dA vwCl wC 25 b _ _ H := hY
  refine lv_dup hx hb dX7_init_81 rfl ?_
  have hnw := hK.2 (RX7, 37, yX8_init, RX11) (List.mem_of_getElem? (i := 0) rfl)
  refine y_call (va_runIN (As := []) (rest := [.ref (b + 24), .int (iI 4), .ref (b + 4)]) ⟨hx, hb, hml, hown, hts⟩ (mk_Strip l D dA b _ _ 25 24 (by decide) (rfl : zcd wC 24 = 6) (rfl : zcd wC 25 = 7)) ⟨va_cnB 0 hts (z_gN k39) rfl rfl rfl hnw (hts _ (z_mem k3)) (by decide +kernel) ⟨(Nat.le_of_ble_eq_true rfl), (Nat.le_of_ble_eq_true rfl)⟩, rfl, (hts _ (z_mem k38))⟩ ⟨yP_blind, y_pre hY hK hO⟩ rfl rfl hl.1 rfl (lv_room (Nat.le_of_ble_eq_true rfl)) dX7_init_82 ⟨(Nat.le_of_ble_eq_true rfl), (Nat.le_of_ble_eq_true rfl)⟩) hS0 (fun H locs hY hS0 => ?_)
  have hY : yS D dA vwCl wC 26 b _ _ H := hY
  refine y_aast (t0 := 4) (N := 6) (i := 4) hx hb hK.1 (by decide) (hK.1.2 4 _ rfl).2 (rfl : vwCl[8]? = some (RX8, TX8, 2)) (by decide) hY hS0 (by decide) (zkd_of (rfl : zcd wC 4 = 4) rfl) (zln_of (rfl : zcd wC 4 = 4) rfl) (by decide) (zkd_of (rfl : zcd wC 24 = 6) rfl) (by decide) (by decide) (by decide) dX7_init_85 (fun H locs hY hS0 => ?_)
  refine z_iinc (lv' := [(1, .int (iI (4 + 1))), (0, .ref (b + 1))]) hx hb dX7_init_86 hl (k := 0) rfl (by decide) rfl (fun ls hl => ?_)
  rw [show ((4 + 1) : Int) = 5 from by decide] at hl
  refine lv_goto (tgt := 55) hx hb dX7_init_89 (by decide) ?_
  refine lv_iload_n hx hb dX7_init_55 rfl (lv_at hl 0 rfl) ?_
  refine z_iconst hx hb dX7_init_56 ?_
  refine z_icmp_gt (tgt := 92) hx hb (by decide) (by decide) dX7_init_57 (by decide) (fun c9 => absurd c9 (by decide)) (fun _ => ?_)
  refine lv_aload_n hx hb dX7_init_60 rfl (lv_at hl 1 rfl) ?_
  refine y_getr (t := 3) hx hb hts (z_memU u7) hown hK.1 hY f7_4 (by decide) (zkd_of (rfl : zcd wC 1 = 1) rfl) (tup_ne rfl (tup_ne rfl (tup_ne rfl (tup_ne rfl (tup_ne rfl (tup_ne rfl (tup_ne rfl (tup_ne rfl (tup_ne rfl (tup_ne rfl (tup_ne rfl (tup_ne rfl (tup_ne rfl (tup_ne rfl (tup_ne rfl (tup_ne rfl (tup_ne rfl (tup_ne rfl (tup_ne rfl (tup_ne rfl (tup_ne rfl (tup_ne rfl tup_s)))))))))))))))))))))) (Or.inl (hts _ (z_mem k59))) dX7_init_61 ?_
  refine lv_iload_n hx hb dX7_init_64 rfl (lv_at hl 0 rfl) ?_
  refine y_new hx hb hts (z_memU u8) tyX8 tyX8_ok hown (hts _ (z_mem k36)) (hts _ (z_mem k37)) (hts _ (z_mem k3)) hK.1 hY hS0 (rfl : vwCl[8]? = some (RX8, TX8, 2)) (by decide) (zkd_of (rfl : zcd wC 26 = 6) rfl) rfl (fun k hk => by rcases (show k = 0 ∨ k = 1 by omega) with rfl | rfl <;> rfl) (Nat.le_of_ble_eq_true rfl) (Nat.le_of_ble_eq_true rfl) dX7_init_65 (fun H hY hS0 => ?_)
  have hY : yS D dA vwCl wC 27 b _ _ H := hY
  refine lv_dup hx hb dX7_init_68 rfl ?_
  have hnw := hK.2 (RX7, 37, yX8_init, RX11) (List.mem_of_getElem? (i := 0) rfl)
  refine y_call (va_runIN (As := []) (rest := [.ref (b + 26), .int (iI 5), .ref (b + 3)]) ⟨hx, hb, hml, hown, hts⟩ (mk_Strip l D dA b _ _ 27 26 (by decide) (rfl : zcd wC 26 = 6) (rfl : zcd wC 27 = 7)) ⟨va_cnB 0 hts (z_gN k39) rfl rfl rfl hnw (hts _ (z_mem k3)) (by decide +kernel) ⟨(Nat.le_of_ble_eq_true rfl), (Nat.le_of_ble_eq_true rfl)⟩, rfl, (hts _ (z_mem k38))⟩ ⟨yP_blind, y_pre hY hK hO⟩ rfl rfl hl.1 rfl (lv_room (Nat.le_of_ble_eq_true rfl)) dX7_init_69 ⟨(Nat.le_of_ble_eq_true rfl), (Nat.le_of_ble_eq_true rfl)⟩) hS0 (fun H locs hY hS0 => ?_)
  have hY : yS D dA vwCl wC 28 b _ _ H := hY
  refine y_aast (t0 := 4) (N := 6) (i := 5) hx hb hK.1 (by decide) (hK.1.2 4 _ rfl).2 (rfl : vwCl[8]? = some (RX8, TX8, 2)) (by decide) hY hS0 (by decide) (zkd_of (rfl : zcd wC 3 = 3) rfl) (zln_of (rfl : zcd wC 3 = 3) rfl) (by decide) (zkd_of (rfl : zcd wC 26 = 6) rfl) (by decide) (by decide) (by decide) dX7_init_72 (fun H locs hY hS0 => ?_)
  refine lv_aload_n hx hb dX7_init_73 rfl (lv_at hl 1 rfl) ?_
  refine y_getr (t := 4) hx hb hts (z_memU u7) hown hK.1 hY f7_5 (by decide) (zkd_of (rfl : zcd wC 1 = 1) rfl) (tup_ne rfl (tup_ne rfl (tup_ne rfl (tup_ne rfl (tup_ne rfl (tup_ne rfl (tup_ne rfl (tup_ne rfl (tup_ne rfl (tup_ne rfl (tup_ne rfl (tup_ne rfl (tup_ne rfl (tup_ne rfl (tup_ne rfl (tup_ne rfl (tup_ne rfl (tup_ne rfl (tup_ne rfl (tup_ne rfl (tup_ne rfl (tup_ne rfl (tup_ne rfl tup_s))))))))))))))))))))))) (Or.inl (hts _ (z_mem k60))) dX7_init_74 ?_
  refine lv_iload_n hx hb dX7_init_77 rfl (lv_at hl 0 rfl) ?_
  refine y_new hx hb hts (z_memU u8) tyX8 tyX8_ok hown (hts _ (z_mem k36)) (hts _ (z_mem k37)) (hts _ (z_mem k3)) hK.1 hY hS0 (rfl : vwCl[8]? = some (RX8, TX8, 2)) (by decide) (zkd_of (rfl : zcd wC 28 = 6) rfl) rfl (fun k hk => by rcases (show k = 0 ∨ k = 1 by omega) with rfl | rfl <;> rfl) (Nat.le_of_ble_eq_true rfl) (Nat.le_of_ble_eq_true rfl) dX7_init_78 (fun H hY hS0 => ?_)
  have hY : yS D dA vwCl wC 29 b _ _ H := hY
  refine lv_dup hx hb dX7_init_81 rfl ?_
  have hnw := hK.2 (RX7, 37, yX8_init, RX11) (List.mem_of_getElem? (i := 0) rfl)
  refine y_call (va_runIN (As := []) (rest := [.ref (b + 28), .int (iI 5), .ref (b + 4)]) ⟨hx, hb, hml, hown, hts⟩ (mk_Strip l D dA b _ _ 29 28 (by decide) (rfl : zcd wC 28 = 6) (rfl : zcd wC 29 = 7)) ⟨va_cnB 0 hts (z_gN k39) rfl rfl rfl hnw (hts _ (z_mem k3)) (by decide +kernel) ⟨(Nat.le_of_ble_eq_true rfl), (Nat.le_of_ble_eq_true rfl)⟩, rfl, (hts _ (z_mem k38))⟩ ⟨yP_blind, y_pre hY hK hO⟩ rfl rfl hl.1 rfl (lv_room (Nat.le_of_ble_eq_true rfl)) dX7_init_82 ⟨(Nat.le_of_ble_eq_true rfl), (Nat.le_of_ble_eq_true rfl)⟩) hS0 (fun H locs hY hS0 => ?_)
  have hY : yS D dA vwCl wC 30 b _ _ H := hY
  refine y_aast (t0 := 4) (N := 6) (i := 5) hx hb hK.1 (by decide) (hK.1.2 4 _ rfl).2 (rfl : vwCl[8]? = some (RX8, TX8, 2)) (by decide) hY hS0 (by decide) (zkd_of (rfl : zcd wC 4 = 4) rfl) (zln_of (rfl : zcd wC 4 = 4) rfl) (by decide) (zkd_of (rfl : zcd wC 28 = 6) rfl) (by decide) (by decide) (by decide) dX7_init_85 (fun H locs hY hS0 => ?_)
  refine z_iinc (lv' := [(1, .int (iI (5 + 1))), (0, .ref (b + 1))]) hx hb dX7_init_86 hl (k := 0) rfl (by decide) rfl (fun ls hl => ?_)
  rw [show ((5 + 1) : Int) = 6 from by decide] at hl
  refine lv_goto (tgt := 55) hx hb dX7_init_89 (by decide) ?_
  refine lv_iload_n hx hb dX7_init_55 rfl (lv_at hl 0 rfl) ?_
  refine z_iconst hx hb dX7_init_56 ?_
  refine z_icmp_gt (tgt := 92) hx hb (by decide) (by decide) dX7_init_57 (by decide) (fun _ => ?_) (fun c9 => absurd c9 (by decide))
  exact y_ret hx hb hr hlocks hY hS0 dX7_init_92
end zz45_b01
section zz45_b02
def mT_C35 (T : zT) : zT := (tup (tup T 35 0 36) 35 1 37)
def mM_C35 (M : zM) : zM := (zup M 35 2 0)
set_option maxHeartbeats 4000000 in
set_option maxRecDepth 100000 in
theorem mk_C35 (l : Launch) (D : va_G) (dA : Nat → ClassId) (b : Nat) (M : zM) (T : zT) : Met l yX2_init (.code yX2_init cX2_init 1 none :: zt) (y_rm 1 2 24) (va_Pc [.ref (b + 35)] (yP D dA vwCl (z_tys dA) wC 36 b M T)) (va_Qv (fun _ => True) (yB D dA vwCl wC 38 b (mM_C35 M) (mT_C35 T)) (yA b)) 2 24 (yA b) := by
  refine Met.ofW (cc := cX2_init) (maxL := 1) (ret := none) (by decide) rfl ?_
  intro p e s m args below meth c s₁ B hml hv
  obtain ⟨hargs, hY, hK, hO⟩ := hv
  have hx := B.exec
  have hb := B.bytes
  have hr := B.returns
  have hts := atoms_spec (ws := .code yX2_init cX2_init 1 none :: zt) B.pre
  have hown : s.vm.findClass RX2 = some m.cls := findClass_of_methodNamed B.named
  have hlocks := B.notSynchronized
  have hin : meth.name = "<init>" := (name_of_methodNamed B.named B.method).1
  have hS0 : va_S (yA b) s.heap s.heap [] := va_S.rf
  have hl := lv_entry ([.ref (b + 35)]) (n := 1) (Nat.le_of_ble_eq_true rfl)
  have hent : entryFrame m args 1 = F0 m 0 ((lg_sl ([.ref (b + 35)]) ++ List.replicate (1 - (lg_sl ([.ref (b + 35)])).length) Slot.unset).toArray) [] := by rw [hargs]; exact lg_entry_eq m ([.ref (b + 35)]) 1
  rw [hent]
  generalize (lg_sl ([.ref (b + 35)]) ++ List.replicate (1 - (lg_sl ([.ref (b + 35)])).length) Slot.unset).toArray = ls at hl ⊢
  have hl : lv_has ls 1 [(0, .ref (b + 35))] := hl
  refine lv_aload_n hx hb dX2_init_0 rfl (lv_at hl 0 rfl) ?_
  refine W.objInit hx hb hown (hts _ (z_mem k81)) (hts _ (z_mem k28)) (hts _ (z_mem k29)) rfl (by rw [hml]; exact hl.1) rfl dX2_init_1 (Nat.le_of_ble_eq_true rfl) (Nat.le_of_ble_eq_true rfl) ?_
  refine W.eq (g2 := F0 m 4 ls []) rfl ?_
  refine lv_aload_n hx hb dX2_init_4 rfl (lv_at hl 0 rfl) ?_
  refine z_bipush hx hb (by decide) dX2_init_5 ?_
  refine y_newa (atype := .int) hx hb (hts _ (z_mem k53)) (t0 := 0) (N := 12) (by decide) (by decide) (hK.1.2 0 _ rfl).2 rfl hY hS0 (zkd_of (rfl : zcd wC 36 = 12) rfl) (zln_of (rfl : zcd wC 36 = 12) rfl) (by decide) rfl (by decide) (by decide) (Nat.le_of_ble_eq_true rfl) (Nat.le_of_ble_eq_true rfl) dX2_init_7 (fun H hY hS0 => ?_)
  have hY : yS D dA vwCl wC 37 b _ _ H := hY
  refine y_putrF (t := 36) hx hb hts (z_memU u2) tyX2 tyX2_ok nmX2 hown hK.1 hY hS0 f2_0 (by decide) (zkd_of (rfl : zcd wC 35 = 11) rfl) (hts _ (z_mem k82)) rfl hin rfl (tyX2_ok 0 (by decide)) (fun _ => rfl) (fun _ => rfl) dX2_init_9 (fun H locs hY hS0 => ?_)
  refine lv_aload_n hx hb dX2_init_12 rfl (lv_at hl 0 rfl) ?_
  refine z_bipush hx hb (by decide) dX2_init_13 ?_
  refine y_newa (atype := .int) hx hb (hts _ (z_mem k53)) (t0 := 0) (N := 12) (by decide) (by decide) (hK.1.2 0 _ rfl).2 rfl hY hS0 (zkd_of (rfl : zcd wC 37 = 13) rfl) (zln_of (rfl : zcd wC 37 = 13) rfl) (by decide) rfl (by decide) (by decide) (Nat.le_of_ble_eq_true rfl) (Nat.le_of_ble_eq_true rfl) dX2_init_15 (fun H hY hS0 => ?_)
  have hY : yS D dA vwCl wC 38 b _ _ H := hY
  refine y_putrF (t := 37) hx hb hts (z_memU u2) tyX2 tyX2_ok nmX2 hown hK.1 hY hS0 f2_1 (by decide) (zkd_of (rfl : zcd wC 35 = 11) rfl) (hts _ (z_mem k83)) rfl hin rfl (tyX2_ok 1 (by decide)) (fun _ => rfl) (fun _ => rfl) dX2_init_17 (fun H locs hY hS0 => ?_)
  refine lv_aload_n hx hb dX2_init_20 rfl (lv_at hl 0 rfl) ?_
  refine z_iconst hx hb dX2_init_21 ?_
  refine y_puti (z := 0) hx hb hts (z_memU u2) tyX2 tyX2_ok nmX2 hown hK.1 hY hS0 f2_2 (by decide) (zkd_of (rfl : zcd wC 35 = 11) rfl) (Or.inl (hts _ (z_mem k84))) rfl (by decide +kernel) (zbd_in (rfl : zcd wC 35 = 11) rfl (by decide)) dX2_init_22 (fun H locs hY hS0 => ?_)
  exact y_ret hx hb hr hlocks hY hS0 dX2_init_25
end zz45_b02
section zz45_b03
def mT_C38 (T : zT) : zT := (tup (tup T 38 0 39) 38 1 40)
def mM_C38 (M : zM) : zM := (zup M 38 2 0)
set_option maxHeartbeats 4000000 in
set_option maxRecDepth 100000 in
theorem mk_C38 (l : Launch) (D : va_G) (dA : Nat → ClassId) (b : Nat) (M : zM) (T : zT) : Met l yX2_init (.code yX2_init cX2_init 1 none :: zt) (y_rm 1 2 24) (va_Pc [.ref (b + 38)] (yP D dA vwCl (z_tys dA) wC 39 b M T)) (va_Qv (fun _ => True) (yB D dA vwCl wC 41 b (mM_C38 M) (mT_C38 T)) (yA b)) 2 24 (yA b) := by
  refine Met.ofW (cc := cX2_init) (maxL := 1) (ret := none) (by decide) rfl ?_
  intro p e s m args below meth c s₁ B hml hv
  obtain ⟨hargs, hY, hK, hO⟩ := hv
  have hx := B.exec
  have hb := B.bytes
  have hr := B.returns
  have hts := atoms_spec (ws := .code yX2_init cX2_init 1 none :: zt) B.pre
  have hown : s.vm.findClass RX2 = some m.cls := findClass_of_methodNamed B.named
  have hlocks := B.notSynchronized
  have hin : meth.name = "<init>" := (name_of_methodNamed B.named B.method).1
  have hS0 : va_S (yA b) s.heap s.heap [] := va_S.rf
  have hl := lv_entry ([.ref (b + 38)]) (n := 1) (Nat.le_of_ble_eq_true rfl)
  have hent : entryFrame m args 1 = F0 m 0 ((lg_sl ([.ref (b + 38)]) ++ List.replicate (1 - (lg_sl ([.ref (b + 38)])).length) Slot.unset).toArray) [] := by rw [hargs]; exact lg_entry_eq m ([.ref (b + 38)]) 1
  rw [hent]
  generalize (lg_sl ([.ref (b + 38)]) ++ List.replicate (1 - (lg_sl ([.ref (b + 38)])).length) Slot.unset).toArray = ls at hl ⊢
  have hl : lv_has ls 1 [(0, .ref (b + 38))] := hl
  refine lv_aload_n hx hb dX2_init_0 rfl (lv_at hl 0 rfl) ?_
  refine W.objInit hx hb hown (hts _ (z_mem k81)) (hts _ (z_mem k28)) (hts _ (z_mem k29)) rfl (by rw [hml]; exact hl.1) rfl dX2_init_1 (Nat.le_of_ble_eq_true rfl) (Nat.le_of_ble_eq_true rfl) ?_
  refine W.eq (g2 := F0 m 4 ls []) rfl ?_
  refine lv_aload_n hx hb dX2_init_4 rfl (lv_at hl 0 rfl) ?_
  refine z_bipush hx hb (by decide) dX2_init_5 ?_
  refine y_newa (atype := .int) hx hb (hts _ (z_mem k53)) (t0 := 0) (N := 12) (by decide) (by decide) (hK.1.2 0 _ rfl).2 rfl hY hS0 (zkd_of (rfl : zcd wC 39 = 12) rfl) (zln_of (rfl : zcd wC 39 = 12) rfl) (by decide) rfl (by decide) (by decide) (Nat.le_of_ble_eq_true rfl) (Nat.le_of_ble_eq_true rfl) dX2_init_7 (fun H hY hS0 => ?_)
  have hY : yS D dA vwCl wC 40 b _ _ H := hY
  refine y_putrF (t := 39) hx hb hts (z_memU u2) tyX2 tyX2_ok nmX2 hown hK.1 hY hS0 f2_0 (by decide) (zkd_of (rfl : zcd wC 38 = 11) rfl) (hts _ (z_mem k82)) rfl hin rfl (tyX2_ok 0 (by decide)) (fun _ => rfl) (fun _ => rfl) dX2_init_9 (fun H locs hY hS0 => ?_)
  refine lv_aload_n hx hb dX2_init_12 rfl (lv_at hl 0 rfl) ?_
  refine z_bipush hx hb (by decide) dX2_init_13 ?_
  refine y_newa (atype := .int) hx hb (hts _ (z_mem k53)) (t0 := 0) (N := 12) (by decide) (by decide) (hK.1.2 0 _ rfl).2 rfl hY hS0 (zkd_of (rfl : zcd wC 40 = 13) rfl) (zln_of (rfl : zcd wC 40 = 13) rfl) (by decide) rfl (by decide) (by decide) (Nat.le_of_ble_eq_true rfl) (Nat.le_of_ble_eq_true rfl) dX2_init_15 (fun H hY hS0 => ?_)
  have hY : yS D dA vwCl wC 41 b _ _ H := hY
  refine y_putrF (t := 40) hx hb hts (z_memU u2) tyX2 tyX2_ok nmX2 hown hK.1 hY hS0 f2_1 (by decide) (zkd_of (rfl : zcd wC 38 = 11) rfl) (hts _ (z_mem k83)) rfl hin rfl (tyX2_ok 1 (by decide)) (fun _ => rfl) (fun _ => rfl) dX2_init_17 (fun H locs hY hS0 => ?_)
  refine lv_aload_n hx hb dX2_init_20 rfl (lv_at hl 0 rfl) ?_
  refine z_iconst hx hb dX2_init_21 ?_
  refine y_puti (z := 0) hx hb hts (z_memU u2) tyX2 tyX2_ok nmX2 hown hK.1 hY hS0 f2_2 (by decide) (zkd_of (rfl : zcd wC 38 = 11) rfl) (Or.inl (hts _ (z_mem k84))) rfl (by decide +kernel) (zbd_in (rfl : zcd wC 38 = 11) rfl (by decide)) dX2_init_22 (fun H locs hY hS0 => ?_)
  exact y_ret hx hb hr hlocks hY hS0 dX2_init_25
end zz45_b03
section zz45_b04
def mT_C41 (T : zT) : zT := (tup (tup (tup T 42 0 43) 41 0 42) 41 5 44)
def mM_C41 (M : zM) : zM := (zup (zup (zup (zup (zup M 42 1 0) 41 1 0) 41 2 0) 41 3 1) 41 4 0)
set_option maxHeartbeats 4000000 in
set_option maxRecDepth 100000 in
theorem mk_C41 (l : Launch) (D : va_G) (dA : Nat → ClassId) (b : Nat) (M : zM) (T : zT) : Met l yX6_init (.code yX6_init cX6_init 1 none :: zt) (y_rm 2 3 50) (va_Pc [.ref (b + 41)] (yP D dA vwCl (z_tys dA) wC 42 b M T)) (va_Qv (fun _ => True) (yB D dA vwCl wC 45 b (mM_C41 M) (mT_C41 T)) (yA b)) 3 50 (yA b) := by
  refine Met.ofW (cc := cX6_init) (maxL := 1) (ret := none) (by decide) rfl ?_
  intro p e s m args below meth c s₁ B hml hv
  obtain ⟨hargs, hY, hK, hO⟩ := hv
  have hx := B.exec
  have hb := B.bytes
  have hr := B.returns
  have hts := atoms_spec (ws := .code yX6_init cX6_init 1 none :: zt) B.pre
  have hown : s.vm.findClass RX6 = some m.cls := findClass_of_methodNamed B.named
  have hlocks := B.notSynchronized
  have hin : meth.name = "<init>" := (name_of_methodNamed B.named B.method).1
  have hS0 : va_S (yA b) s.heap s.heap [] := va_S.rf
  have hl := lv_entry ([.ref (b + 41)]) (n := 1) (Nat.le_of_ble_eq_true rfl)
  have hent : entryFrame m args 1 = F0 m 0 ((lg_sl ([.ref (b + 41)]) ++ List.replicate (1 - (lg_sl ([.ref (b + 41)])).length) Slot.unset).toArray) [] := by rw [hargs]; exact lg_entry_eq m ([.ref (b + 41)]) 1
  rw [hent]
  generalize (lg_sl ([.ref (b + 41)]) ++ List.replicate (1 - (lg_sl ([.ref (b + 41)])).length) Slot.unset).toArray = ls at hl ⊢
  have hl : lv_has ls 1 [(0, .ref (b + 41))] := hl
  refine lv_aload_n hx hb dX6_init_0 rfl (lv_at hl 0 rfl) ?_
  refine W.objInit hx hb hown (hts _ (z_mem k91)) (hts _ (z_mem k28)) (hts _ (z_mem k29)) rfl (by rw [hml]; exact hl.1) rfl dX6_init_1 (Nat.le_of_ble_eq_true rfl) (Nat.le_of_ble_eq_true rfl) ?_
  refine W.eq (g2 := F0 m 4 ls []) rfl ?_
  refine lv_aload_n hx hb dX6_init_4 rfl (lv_at hl 0 rfl) ?_
  refine y_new hx hb hts (z_memU u8) tyX8 tyX8_ok hown (hts _ (z_mem k92)) (hts _ (z_mem k37)) (hts _ (z_mem k3)) hK.1 hY hS0 (rfl : vwCl[8]? = some (RX8, TX8, 2)) (by decide) (zkd_of (rfl : zcd wC 42 = 6) rfl) rfl (fun k hk => by rcases (show k = 0 ∨ k = 1 by omega) with rfl | rfl <;> rfl) (Nat.le_of_ble_eq_true rfl) (Nat.le_of_ble_eq_true rfl) dX6_init_5 (fun H hY hS0 => ?_)
  have hY : yS D dA vwCl wC 43 b _ _ H := hY
  refine lv_dup hx hb dX6_init_8 rfl ?_
  have hnw := hK.2 (RX6, 11, yX8_init, RX11) (List.mem_of_getElem? (i := 4) rfl)
  refine y_call (va_runIN (As := []) (rest := [.ref (b + 42), .ref (b + 41)]) ⟨hx, hb, hml, hown, hts⟩ (mk_Strip l D dA b _ _ 43 42 (by decide) (rfl : zcd wC 42 = 6) (rfl : zcd wC 43 = 7)) ⟨va_cnB 0 hts (z_gN k39) rfl rfl rfl hnw (hts _ (z_mem k3)) (by decide +kernel) ⟨(Nat.le_of_ble_eq_true rfl), (Nat.le_of_ble_eq_true rfl)⟩, rfl, (hts _ (z_mem k38))⟩ ⟨yP_blind, y_pre hY hK hO⟩ rfl rfl hl.1 rfl (lv_room (Nat.le_of_ble_eq_true rfl)) dX6_init_9 ⟨(Nat.le_of_ble_eq_true rfl), (Nat.le_of_ble_eq_true rfl)⟩) hS0 (fun H locs hY hS0 => ?_)
  have hY : yS D dA vwCl wC 44 b _ _ H := hY
  refine y_putrF (t := 42) hx hb hts (z_memU u6) tyX6 tyX6_ok nmX6 hown hK.1 hY hS0 f6_0 (by decide) (zkd_of (rfl : zcd wC 41 = 14) rfl) (hts _ (z_mem k93)) rfl hin rfl (tyX6_ok 0 (by decide)) (fun _ => rfl) (fun _ => rfl) dX6_init_12 (fun H locs hY hS0 => ?_)
  refine lv_aload_n hx hb dX6_init_15 rfl (lv_at hl 0 rfl) ?_
  refine z_iconst hx hb dX6_init_16 ?_
  refine y_puti (z := 0) hx hb hts (z_memU u6) tyX6 tyX6_ok nmX6 hown hK.1 hY hS0 f6_1 (by decide) (zkd_of (rfl : zcd wC 41 = 14) rfl) (Or.inl (hts _ (z_mem k97))) rfl (by decide +kernel) (zbd_in (rfl : zcd wC 41 = 14) rfl (by decide)) dX6_init_17 (fun H locs hY hS0 => ?_)
  refine lv_aload_n hx hb dX6_init_20 rfl (lv_at hl 0 rfl) ?_
  refine z_iconst hx hb dX6_init_21 ?_
  refine y_puti (z := 0) hx hb hts (z_memU u6) tyX6 tyX6_ok nmX6 hown hK.1 hY hS0 f6_2 (by decide) (zkd_of (rfl : zcd wC 41 = 14) rfl) (Or.inl (hts _ (z_mem k101))) rfl (by decide +kernel) (zbd_in (rfl : zcd wC 41 = 14) rfl (by decide)) dX6_init_22 (fun H locs hY hS0 => ?_)
  refine lv_aload_n hx hb dX6_init_25 rfl (lv_at hl 0 rfl) ?_
  refine z_iconst hx hb dX6_init_26 ?_
  refine y_puti (z := 1) hx hb hts (z_memU u6) tyX6 tyX6_ok nmX6 hown hK.1 hY hS0 f6_3 (by decide) (zkd_of (rfl : zcd wC 41 = 14) rfl) (Or.inl (hts _ (z_mem k104))) rfl (by decide +kernel) (zbd_in (rfl : zcd wC 41 = 14) rfl (by decide)) dX6_init_27 (fun H locs hY hS0 => ?_)
  refine lv_aload_n hx hb dX6_init_30 rfl (lv_at hl 0 rfl) ?_
  refine z_iconst hx hb dX6_init_31 ?_
  refine y_puti (z := 0) hx hb hts (z_memU u6) tyX6 tyX6_ok nmX6 hown hK.1 hY hS0 f6_4 (by decide) (zkd_of (rfl : zcd wC 41 = 14) rfl) (Or.inl (hts _ (z_mem k106))) rfl (by decide +kernel) (zbd_in (rfl : zcd wC 41 = 14) rfl (by decide)) dX6_init_32 (fun H locs hY hS0 => ?_)
  refine lv_aload_n hx hb dX6_init_35 rfl (lv_at hl 0 rfl) ?_
  refine z_bipush hx hb (by decide) dX6_init_36 ?_
  refine y_newa (atype := .int) hx hb (hts _ (z_mem k53)) (t0 := 0) (N := 24) (by decide) (by decide) (hK.1.2 0 _ rfl).2 rfl hY hS0 (zkd_of (rfl : zcd wC 44 = 15) rfl) (zln_of (rfl : zcd wC 44 = 15) rfl) (by decide) rfl (by decide) (by decide) (Nat.le_of_ble_eq_true rfl) (Nat.le_of_ble_eq_true rfl) dX6_init_38 (fun H hY hS0 => ?_)
  have hY : yS D dA vwCl wC 45 b _ _ H := hY
  refine y_putrF (t := 44) hx hb hts (z_memU u6) tyX6 tyX6_ok nmX6 hown hK.1 hY hS0 f6_5 (by decide) (zkd_of (rfl : zcd wC 41 = 14) rfl) (hts _ (z_mem k109)) rfl hin rfl (tyX6_ok 5 (by decide)) (fun _ => rfl) (fun _ => rfl) dX6_init_40 (fun H locs hY hS0 => ?_)
  exact y_ret hx hb hr hlocks hY hS0 dX6_init_43
end zz45_b04
section zz45_b05
def mT_C45 (T : zT) : zT := (tup (tup (tup T 46 0 47) 45 0 46) 45 5 48)
def mM_C45 (M : zM) : zM := (zup (zup (zup (zup (zup M 46 1 0) 45 1 0) 45 2 0) 45 3 1) 45 4 0)
set_option maxHeartbeats 4000000 in
set_option maxRecDepth 100000 in
theorem mk_C45 (l : Launch) (D : va_G) (dA : Nat → ClassId) (b : Nat) (M : zM) (T : zT) : Met l yX6_init (.code yX6_init cX6_init 1 none :: zt) (y_rm 2 3 50) (va_Pc [.ref (b + 45)] (yP D dA vwCl (z_tys dA) wC 46 b M T)) (va_Qv (fun _ => True) (yB D dA vwCl wC 49 b (mM_C45 M) (mT_C45 T)) (yA b)) 3 50 (yA b) := by
  refine Met.ofW (cc := cX6_init) (maxL := 1) (ret := none) (by decide) rfl ?_
  intro p e s m args below meth c s₁ B hml hv
  obtain ⟨hargs, hY, hK, hO⟩ := hv
  have hx := B.exec
  have hb := B.bytes
  have hr := B.returns
  have hts := atoms_spec (ws := .code yX6_init cX6_init 1 none :: zt) B.pre
  have hown : s.vm.findClass RX6 = some m.cls := findClass_of_methodNamed B.named
  have hlocks := B.notSynchronized
  have hin : meth.name = "<init>" := (name_of_methodNamed B.named B.method).1
  have hS0 : va_S (yA b) s.heap s.heap [] := va_S.rf
  have hl := lv_entry ([.ref (b + 45)]) (n := 1) (Nat.le_of_ble_eq_true rfl)
  have hent : entryFrame m args 1 = F0 m 0 ((lg_sl ([.ref (b + 45)]) ++ List.replicate (1 - (lg_sl ([.ref (b + 45)])).length) Slot.unset).toArray) [] := by rw [hargs]; exact lg_entry_eq m ([.ref (b + 45)]) 1
  rw [hent]
  generalize (lg_sl ([.ref (b + 45)]) ++ List.replicate (1 - (lg_sl ([.ref (b + 45)])).length) Slot.unset).toArray = ls at hl ⊢
  have hl : lv_has ls 1 [(0, .ref (b + 45))] := hl
  refine lv_aload_n hx hb dX6_init_0 rfl (lv_at hl 0 rfl) ?_
  refine W.objInit hx hb hown (hts _ (z_mem k91)) (hts _ (z_mem k28)) (hts _ (z_mem k29)) rfl (by rw [hml]; exact hl.1) rfl dX6_init_1 (Nat.le_of_ble_eq_true rfl) (Nat.le_of_ble_eq_true rfl) ?_
  refine W.eq (g2 := F0 m 4 ls []) rfl ?_
  refine lv_aload_n hx hb dX6_init_4 rfl (lv_at hl 0 rfl) ?_
  refine y_new hx hb hts (z_memU u8) tyX8 tyX8_ok hown (hts _ (z_mem k92)) (hts _ (z_mem k37)) (hts _ (z_mem k3)) hK.1 hY hS0 (rfl : vwCl[8]? = some (RX8, TX8, 2)) (by decide) (zkd_of (rfl : zcd wC 46 = 6) rfl) rfl (fun k hk => by rcases (show k = 0 ∨ k = 1 by omega) with rfl | rfl <;> rfl) (Nat.le_of_ble_eq_true rfl) (Nat.le_of_ble_eq_true rfl) dX6_init_5 (fun H hY hS0 => ?_)
  have hY : yS D dA vwCl wC 47 b _ _ H := hY
  refine lv_dup hx hb dX6_init_8 rfl ?_
  have hnw := hK.2 (RX6, 11, yX8_init, RX11) (List.mem_of_getElem? (i := 4) rfl)
  refine y_call (va_runIN (As := []) (rest := [.ref (b + 46), .ref (b + 45)]) ⟨hx, hb, hml, hown, hts⟩ (mk_Strip l D dA b _ _ 47 46 (by decide) (rfl : zcd wC 46 = 6) (rfl : zcd wC 47 = 7)) ⟨va_cnB 0 hts (z_gN k39) rfl rfl rfl hnw (hts _ (z_mem k3)) (by decide +kernel) ⟨(Nat.le_of_ble_eq_true rfl), (Nat.le_of_ble_eq_true rfl)⟩, rfl, (hts _ (z_mem k38))⟩ ⟨yP_blind, y_pre hY hK hO⟩ rfl rfl hl.1 rfl (lv_room (Nat.le_of_ble_eq_true rfl)) dX6_init_9 ⟨(Nat.le_of_ble_eq_true rfl), (Nat.le_of_ble_eq_true rfl)⟩) hS0 (fun H locs hY hS0 => ?_)
  have hY : yS D dA vwCl wC 48 b _ _ H := hY
  refine y_putrF (t := 46) hx hb hts (z_memU u6) tyX6 tyX6_ok nmX6 hown hK.1 hY hS0 f6_0 (by decide) (zkd_of (rfl : zcd wC 45 = 14) rfl) (hts _ (z_mem k93)) rfl hin rfl (tyX6_ok 0 (by decide)) (fun _ => rfl) (fun _ => rfl) dX6_init_12 (fun H locs hY hS0 => ?_)
  refine lv_aload_n hx hb dX6_init_15 rfl (lv_at hl 0 rfl) ?_
  refine z_iconst hx hb dX6_init_16 ?_
  refine y_puti (z := 0) hx hb hts (z_memU u6) tyX6 tyX6_ok nmX6 hown hK.1 hY hS0 f6_1 (by decide) (zkd_of (rfl : zcd wC 45 = 14) rfl) (Or.inl (hts _ (z_mem k97))) rfl (by decide +kernel) (zbd_in (rfl : zcd wC 45 = 14) rfl (by decide)) dX6_init_17 (fun H locs hY hS0 => ?_)
  refine lv_aload_n hx hb dX6_init_20 rfl (lv_at hl 0 rfl) ?_
  refine z_iconst hx hb dX6_init_21 ?_
  refine y_puti (z := 0) hx hb hts (z_memU u6) tyX6 tyX6_ok nmX6 hown hK.1 hY hS0 f6_2 (by decide) (zkd_of (rfl : zcd wC 45 = 14) rfl) (Or.inl (hts _ (z_mem k101))) rfl (by decide +kernel) (zbd_in (rfl : zcd wC 45 = 14) rfl (by decide)) dX6_init_22 (fun H locs hY hS0 => ?_)
  refine lv_aload_n hx hb dX6_init_25 rfl (lv_at hl 0 rfl) ?_
  refine z_iconst hx hb dX6_init_26 ?_
  refine y_puti (z := 1) hx hb hts (z_memU u6) tyX6 tyX6_ok nmX6 hown hK.1 hY hS0 f6_3 (by decide) (zkd_of (rfl : zcd wC 45 = 14) rfl) (Or.inl (hts _ (z_mem k104))) rfl (by decide +kernel) (zbd_in (rfl : zcd wC 45 = 14) rfl (by decide)) dX6_init_27 (fun H locs hY hS0 => ?_)
  refine lv_aload_n hx hb dX6_init_30 rfl (lv_at hl 0 rfl) ?_
  refine z_iconst hx hb dX6_init_31 ?_
  refine y_puti (z := 0) hx hb hts (z_memU u6) tyX6 tyX6_ok nmX6 hown hK.1 hY hS0 f6_4 (by decide) (zkd_of (rfl : zcd wC 45 = 14) rfl) (Or.inl (hts _ (z_mem k106))) rfl (by decide +kernel) (zbd_in (rfl : zcd wC 45 = 14) rfl (by decide)) dX6_init_32 (fun H locs hY hS0 => ?_)
  refine lv_aload_n hx hb dX6_init_35 rfl (lv_at hl 0 rfl) ?_
  refine z_bipush hx hb (by decide) dX6_init_36 ?_
  refine y_newa (atype := .int) hx hb (hts _ (z_mem k53)) (t0 := 0) (N := 24) (by decide) (by decide) (hK.1.2 0 _ rfl).2 rfl hY hS0 (zkd_of (rfl : zcd wC 48 = 15) rfl) (zln_of (rfl : zcd wC 48 = 15) rfl) (by decide) rfl (by decide) (by decide) (Nat.le_of_ble_eq_true rfl) (Nat.le_of_ble_eq_true rfl) dX6_init_38 (fun H hY hS0 => ?_)
  have hY : yS D dA vwCl wC 49 b _ _ H := hY
  refine y_putrF (t := 48) hx hb hts (z_memU u6) tyX6 tyX6_ok nmX6 hown hK.1 hY hS0 f6_5 (by decide) (zkd_of (rfl : zcd wC 45 = 14) rfl) (hts _ (z_mem k109)) rfl hin rfl (tyX6_ok 5 (by decide)) (fun _ => rfl) (fun _ => rfl) dX6_init_40 (fun H locs hY hS0 => ?_)
  exact y_ret hx hb hr hlocks hY hS0 dX6_init_43
end zz45_b05
section zz45_b06
def mT_C49 (T : zT) : zT := (tup (tup (tup T 50 0 51) 49 0 50) 49 5 52)
def mM_C49 (M : zM) : zM := (zup (zup (zup (zup (zup M 50 1 0) 49 1 0) 49 2 0) 49 3 1) 49 4 0)
set_option maxHeartbeats 4000000 in
set_option maxRecDepth 100000 in
theorem mk_C49 (l : Launch) (D : va_G) (dA : Nat → ClassId) (b : Nat) (M : zM) (T : zT) : Met l yX6_init (.code yX6_init cX6_init 1 none :: zt) (y_rm 2 3 50) (va_Pc [.ref (b + 49)] (yP D dA vwCl (z_tys dA) wC 50 b M T)) (va_Qv (fun _ => True) (yB D dA vwCl wC 53 b (mM_C49 M) (mT_C49 T)) (yA b)) 3 50 (yA b) := by
  refine Met.ofW (cc := cX6_init) (maxL := 1) (ret := none) (by decide) rfl ?_
  intro p e s m args below meth c s₁ B hml hv
  obtain ⟨hargs, hY, hK, hO⟩ := hv
  have hx := B.exec
  have hb := B.bytes
  have hr := B.returns
  have hts := atoms_spec (ws := .code yX6_init cX6_init 1 none :: zt) B.pre
  have hown : s.vm.findClass RX6 = some m.cls := findClass_of_methodNamed B.named
  have hlocks := B.notSynchronized
  have hin : meth.name = "<init>" := (name_of_methodNamed B.named B.method).1
  have hS0 : va_S (yA b) s.heap s.heap [] := va_S.rf
  have hl := lv_entry ([.ref (b + 49)]) (n := 1) (Nat.le_of_ble_eq_true rfl)
  have hent : entryFrame m args 1 = F0 m 0 ((lg_sl ([.ref (b + 49)]) ++ List.replicate (1 - (lg_sl ([.ref (b + 49)])).length) Slot.unset).toArray) [] := by rw [hargs]; exact lg_entry_eq m ([.ref (b + 49)]) 1
  rw [hent]
  generalize (lg_sl ([.ref (b + 49)]) ++ List.replicate (1 - (lg_sl ([.ref (b + 49)])).length) Slot.unset).toArray = ls at hl ⊢
  have hl : lv_has ls 1 [(0, .ref (b + 49))] := hl
  refine lv_aload_n hx hb dX6_init_0 rfl (lv_at hl 0 rfl) ?_
  refine W.objInit hx hb hown (hts _ (z_mem k91)) (hts _ (z_mem k28)) (hts _ (z_mem k29)) rfl (by rw [hml]; exact hl.1) rfl dX6_init_1 (Nat.le_of_ble_eq_true rfl) (Nat.le_of_ble_eq_true rfl) ?_
  refine W.eq (g2 := F0 m 4 ls []) rfl ?_
  refine lv_aload_n hx hb dX6_init_4 rfl (lv_at hl 0 rfl) ?_
  refine y_new hx hb hts (z_memU u8) tyX8 tyX8_ok hown (hts _ (z_mem k92)) (hts _ (z_mem k37)) (hts _ (z_mem k3)) hK.1 hY hS0 (rfl : vwCl[8]? = some (RX8, TX8, 2)) (by decide) (zkd_of (rfl : zcd wC 50 = 6) rfl) rfl (fun k hk => by rcases (show k = 0 ∨ k = 1 by omega) with rfl | rfl <;> rfl) (Nat.le_of_ble_eq_true rfl) (Nat.le_of_ble_eq_true rfl) dX6_init_5 (fun H hY hS0 => ?_)
  have hY : yS D dA vwCl wC 51 b _ _ H := hY
  refine lv_dup hx hb dX6_init_8 rfl ?_
  have hnw := hK.2 (RX6, 11, yX8_init, RX11) (List.mem_of_getElem? (i := 4) rfl)
  refine y_call (va_runIN (As := []) (rest := [.ref (b + 50), .ref (b + 49)]) ⟨hx, hb, hml, hown, hts⟩ (mk_Strip l D dA b _ _ 51 50 (by decide) (rfl : zcd wC 50 = 6) (rfl : zcd wC 51 = 7)) ⟨va_cnB 0 hts (z_gN k39) rfl rfl rfl hnw (hts _ (z_mem k3)) (by decide +kernel) ⟨(Nat.le_of_ble_eq_true rfl), (Nat.le_of_ble_eq_true rfl)⟩, rfl, (hts _ (z_mem k38))⟩ ⟨yP_blind, y_pre hY hK hO⟩ rfl rfl hl.1 rfl (lv_room (Nat.le_of_ble_eq_true rfl)) dX6_init_9 ⟨(Nat.le_of_ble_eq_true rfl), (Nat.le_of_ble_eq_true rfl)⟩) hS0 (fun H locs hY hS0 => ?_)
  have hY : yS D dA vwCl wC 52 b _ _ H := hY
  refine y_putrF (t := 50) hx hb hts (z_memU u6) tyX6 tyX6_ok nmX6 hown hK.1 hY hS0 f6_0 (by decide) (zkd_of (rfl : zcd wC 49 = 14) rfl) (hts _ (z_mem k93)) rfl hin rfl (tyX6_ok 0 (by decide)) (fun _ => rfl) (fun _ => rfl) dX6_init_12 (fun H locs hY hS0 => ?_)
  refine lv_aload_n hx hb dX6_init_15 rfl (lv_at hl 0 rfl) ?_
  refine z_iconst hx hb dX6_init_16 ?_
  refine y_puti (z := 0) hx hb hts (z_memU u6) tyX6 tyX6_ok nmX6 hown hK.1 hY hS0 f6_1 (by decide) (zkd_of (rfl : zcd wC 49 = 14) rfl) (Or.inl (hts _ (z_mem k97))) rfl (by decide +kernel) (zbd_in (rfl : zcd wC 49 = 14) rfl (by decide)) dX6_init_17 (fun H locs hY hS0 => ?_)
  refine lv_aload_n hx hb dX6_init_20 rfl (lv_at hl 0 rfl) ?_
  refine z_iconst hx hb dX6_init_21 ?_
  refine y_puti (z := 0) hx hb hts (z_memU u6) tyX6 tyX6_ok nmX6 hown hK.1 hY hS0 f6_2 (by decide) (zkd_of (rfl : zcd wC 49 = 14) rfl) (Or.inl (hts _ (z_mem k101))) rfl (by decide +kernel) (zbd_in (rfl : zcd wC 49 = 14) rfl (by decide)) dX6_init_22 (fun H locs hY hS0 => ?_)
  refine lv_aload_n hx hb dX6_init_25 rfl (lv_at hl 0 rfl) ?_
  refine z_iconst hx hb dX6_init_26 ?_
  refine y_puti (z := 1) hx hb hts (z_memU u6) tyX6 tyX6_ok nmX6 hown hK.1 hY hS0 f6_3 (by decide) (zkd_of (rfl : zcd wC 49 = 14) rfl) (Or.inl (hts _ (z_mem k104))) rfl (by decide +kernel) (zbd_in (rfl : zcd wC 49 = 14) rfl (by decide)) dX6_init_27 (fun H locs hY hS0 => ?_)
  refine lv_aload_n hx hb dX6_init_30 rfl (lv_at hl 0 rfl) ?_
  refine z_iconst hx hb dX6_init_31 ?_
  refine y_puti (z := 0) hx hb hts (z_memU u6) tyX6 tyX6_ok nmX6 hown hK.1 hY hS0 f6_4 (by decide) (zkd_of (rfl : zcd wC 49 = 14) rfl) (Or.inl (hts _ (z_mem k106))) rfl (by decide +kernel) (zbd_in (rfl : zcd wC 49 = 14) rfl (by decide)) dX6_init_32 (fun H locs hY hS0 => ?_)
  refine lv_aload_n hx hb dX6_init_35 rfl (lv_at hl 0 rfl) ?_
  refine z_bipush hx hb (by decide) dX6_init_36 ?_
  refine y_newa (atype := .int) hx hb (hts _ (z_mem k53)) (t0 := 0) (N := 24) (by decide) (by decide) (hK.1.2 0 _ rfl).2 rfl hY hS0 (zkd_of (rfl : zcd wC 52 = 15) rfl) (zln_of (rfl : zcd wC 52 = 15) rfl) (by decide) rfl (by decide) (by decide) (Nat.le_of_ble_eq_true rfl) (Nat.le_of_ble_eq_true rfl) dX6_init_38 (fun H hY hS0 => ?_)
  have hY : yS D dA vwCl wC 53 b _ _ H := hY
  refine y_putrF (t := 52) hx hb hts (z_memU u6) tyX6 tyX6_ok nmX6 hown hK.1 hY hS0 f6_5 (by decide) (zkd_of (rfl : zcd wC 49 = 14) rfl) (hts _ (z_mem k109)) rfl hin rfl (tyX6_ok 5 (by decide)) (fun _ => rfl) (fun _ => rfl) dX6_init_40 (fun H locs hY hS0 => ?_)
  exact y_ret hx hb hr hlocks hY hS0 dX6_init_43
end zz45_b06
section zz45_b07
def mT_C53 (T : zT) : zT := (tup (tup (tup T 54 0 55) 53 0 54) 53 5 56)
def mM_C53 (M : zM) : zM := (zup (zup (zup (zup (zup M 54 1 0) 53 1 0) 53 2 0) 53 3 1) 53 4 0)
set_option maxHeartbeats 4000000 in
set_option maxRecDepth 100000 in
theorem mk_C53 (l : Launch) (D : va_G) (dA : Nat → ClassId) (b : Nat) (M : zM) (T : zT) : Met l yX6_init (.code yX6_init cX6_init 1 none :: zt) (y_rm 2 3 50) (va_Pc [.ref (b + 53)] (yP D dA vwCl (z_tys dA) wC 54 b M T)) (va_Qv (fun _ => True) (yB D dA vwCl wC 57 b (mM_C53 M) (mT_C53 T)) (yA b)) 3 50 (yA b) := by
  refine Met.ofW (cc := cX6_init) (maxL := 1) (ret := none) (by decide) rfl ?_
  intro p e s m args below meth c s₁ B hml hv
  obtain ⟨hargs, hY, hK, hO⟩ := hv
  have hx := B.exec
  have hb := B.bytes
  have hr := B.returns
  have hts := atoms_spec (ws := .code yX6_init cX6_init 1 none :: zt) B.pre
  have hown : s.vm.findClass RX6 = some m.cls := findClass_of_methodNamed B.named
  have hlocks := B.notSynchronized
  have hin : meth.name = "<init>" := (name_of_methodNamed B.named B.method).1
  have hS0 : va_S (yA b) s.heap s.heap [] := va_S.rf
  have hl := lv_entry ([.ref (b + 53)]) (n := 1) (Nat.le_of_ble_eq_true rfl)
  have hent : entryFrame m args 1 = F0 m 0 ((lg_sl ([.ref (b + 53)]) ++ List.replicate (1 - (lg_sl ([.ref (b + 53)])).length) Slot.unset).toArray) [] := by rw [hargs]; exact lg_entry_eq m ([.ref (b + 53)]) 1
  rw [hent]
  generalize (lg_sl ([.ref (b + 53)]) ++ List.replicate (1 - (lg_sl ([.ref (b + 53)])).length) Slot.unset).toArray = ls at hl ⊢
  have hl : lv_has ls 1 [(0, .ref (b + 53))] := hl
  refine lv_aload_n hx hb dX6_init_0 rfl (lv_at hl 0 rfl) ?_
  refine W.objInit hx hb hown (hts _ (z_mem k91)) (hts _ (z_mem k28)) (hts _ (z_mem k29)) rfl (by rw [hml]; exact hl.1) rfl dX6_init_1 (Nat.le_of_ble_eq_true rfl) (Nat.le_of_ble_eq_true rfl) ?_
  refine W.eq (g2 := F0 m 4 ls []) rfl ?_
  refine lv_aload_n hx hb dX6_init_4 rfl (lv_at hl 0 rfl) ?_
  refine y_new hx hb hts (z_memU u8) tyX8 tyX8_ok hown (hts _ (z_mem k92)) (hts _ (z_mem k37)) (hts _ (z_mem k3)) hK.1 hY hS0 (rfl : vwCl[8]? = some (RX8, TX8, 2)) (by decide) (zkd_of (rfl : zcd wC 54 = 6) rfl) rfl (fun k hk => by rcases (show k = 0 ∨ k = 1 by omega) with rfl | rfl <;> rfl) (Nat.le_of_ble_eq_true rfl) (Nat.le_of_ble_eq_true rfl) dX6_init_5 (fun H hY hS0 => ?_)
  have hY : yS D dA vwCl wC 55 b _ _ H := hY
  refine lv_dup hx hb dX6_init_8 rfl ?_
  have hnw := hK.2 (RX6, 11, yX8_init, RX11) (List.mem_of_getElem? (i := 4) rfl)
  refine y_call (va_runIN (As := []) (rest := [.ref (b + 54), .ref (b + 53)]) ⟨hx, hb, hml, hown, hts⟩ (mk_Strip l D dA b _ _ 55 54 (by decide) (rfl : zcd wC 54 = 6) (rfl : zcd wC 55 = 7)) ⟨va_cnB 0 hts (z_gN k39) rfl rfl rfl hnw (hts _ (z_mem k3)) (by decide +kernel) ⟨(Nat.le_of_ble_eq_true rfl), (Nat.le_of_ble_eq_true rfl)⟩, rfl, (hts _ (z_mem k38))⟩ ⟨yP_blind, y_pre hY hK hO⟩ rfl rfl hl.1 rfl (lv_room (Nat.le_of_ble_eq_true rfl)) dX6_init_9 ⟨(Nat.le_of_ble_eq_true rfl), (Nat.le_of_ble_eq_true rfl)⟩) hS0 (fun H locs hY hS0 => ?_)
  have hY : yS D dA vwCl wC 56 b _ _ H := hY
  refine y_putrF (t := 54) hx hb hts (z_memU u6) tyX6 tyX6_ok nmX6 hown hK.1 hY hS0 f6_0 (by decide) (zkd_of (rfl : zcd wC 53 = 14) rfl) (hts _ (z_mem k93)) rfl hin rfl (tyX6_ok 0 (by decide)) (fun _ => rfl) (fun _ => rfl) dX6_init_12 (fun H locs hY hS0 => ?_)
  refine lv_aload_n hx hb dX6_init_15 rfl (lv_at hl 0 rfl) ?_
  refine z_iconst hx hb dX6_init_16 ?_
  refine y_puti (z := 0) hx hb hts (z_memU u6) tyX6 tyX6_ok nmX6 hown hK.1 hY hS0 f6_1 (by decide) (zkd_of (rfl : zcd wC 53 = 14) rfl) (Or.inl (hts _ (z_mem k97))) rfl (by decide +kernel) (zbd_in (rfl : zcd wC 53 = 14) rfl (by decide)) dX6_init_17 (fun H locs hY hS0 => ?_)
  refine lv_aload_n hx hb dX6_init_20 rfl (lv_at hl 0 rfl) ?_
  refine z_iconst hx hb dX6_init_21 ?_
  refine y_puti (z := 0) hx hb hts (z_memU u6) tyX6 tyX6_ok nmX6 hown hK.1 hY hS0 f6_2 (by decide) (zkd_of (rfl : zcd wC 53 = 14) rfl) (Or.inl (hts _ (z_mem k101))) rfl (by decide +kernel) (zbd_in (rfl : zcd wC 53 = 14) rfl (by decide)) dX6_init_22 (fun H locs hY hS0 => ?_)
  refine lv_aload_n hx hb dX6_init_25 rfl (lv_at hl 0 rfl) ?_
  refine z_iconst hx hb dX6_init_26 ?_
  refine y_puti (z := 1) hx hb hts (z_memU u6) tyX6 tyX6_ok nmX6 hown hK.1 hY hS0 f6_3 (by decide) (zkd_of (rfl : zcd wC 53 = 14) rfl) (Or.inl (hts _ (z_mem k104))) rfl (by decide +kernel) (zbd_in (rfl : zcd wC 53 = 14) rfl (by decide)) dX6_init_27 (fun H locs hY hS0 => ?_)
  refine lv_aload_n hx hb dX6_init_30 rfl (lv_at hl 0 rfl) ?_
  refine z_iconst hx hb dX6_init_31 ?_
  refine y_puti (z := 0) hx hb hts (z_memU u6) tyX6 tyX6_ok nmX6 hown hK.1 hY hS0 f6_4 (by decide) (zkd_of (rfl : zcd wC 53 = 14) rfl) (Or.inl (hts _ (z_mem k106))) rfl (by decide +kernel) (zbd_in (rfl : zcd wC 53 = 14) rfl (by decide)) dX6_init_32 (fun H locs hY hS0 => ?_)
  refine lv_aload_n hx hb dX6_init_35 rfl (lv_at hl 0 rfl) ?_
  refine z_bipush hx hb (by decide) dX6_init_36 ?_
  refine y_newa (atype := .int) hx hb (hts _ (z_mem k53)) (t0 := 0) (N := 24) (by decide) (by decide) (hK.1.2 0 _ rfl).2 rfl hY hS0 (zkd_of (rfl : zcd wC 56 = 15) rfl) (zln_of (rfl : zcd wC 56 = 15) rfl) (by decide) rfl (by decide) (by decide) (Nat.le_of_ble_eq_true rfl) (Nat.le_of_ble_eq_true rfl) dX6_init_38 (fun H hY hS0 => ?_)
  have hY : yS D dA vwCl wC 57 b _ _ H := hY
  refine y_putrF (t := 56) hx hb hts (z_memU u6) tyX6 tyX6_ok nmX6 hown hK.1 hY hS0 f6_5 (by decide) (zkd_of (rfl : zcd wC 53 = 14) rfl) (hts _ (z_mem k109)) rfl hin rfl (tyX6_ok 5 (by decide)) (fun _ => rfl) (fun _ => rfl) dX6_init_40 (fun H locs hY hS0 => ?_)
  exact y_ret hx hb hr hlocks hY hS0 dX6_init_43
end zz45_b07
section zz45_b08
def mT_C32 (T : zT) : zT := (tup (mT_C53 (tup (mT_C49 (tup (mT_C45 (tup (mT_C41 (tup (mT_C38 (tup (mT_C35 (tup (tup T 32 0 33) 32 1 34)) 33 (0 : Int).toNat 35)) 33 (1 : Int).toNat 38)) 34 (0 : Int).toNat 41)) 34 (1 : Int).toNat 45)) 34 (2 : Int).toNat 49)) 34 (3 : Int).toNat 53)
def mM_C32 (M : zM) : zM := (mM_C53 (mM_C49 (mM_C45 (mM_C41 (mM_C38 (mM_C35 (zup M 32 2 0)))))))
set_option maxHeartbeats 4000000 in
set_option maxRecDepth 100000 in
theorem mk_C32 (l : Launch) (D : va_G) (dA : Nat → ClassId) (b : Nat) (M : zM) (T : zT) : Met l yX9_init (.code yX9_init cX9_init 2 none :: zt) (y_rm 3 24 284) (va_Pc [.ref (b + 32)] (yP D dA vwCl (z_tys dA) wC 33 b M T)) (va_Qv (fun _ => True) (yB D dA vwCl wC 57 b (mM_C32 M) (mT_C32 T)) (yA b)) 24 284 (yA b) := by
  refine Met.ofW (cc := cX9_init) (maxL := 2) (ret := none) (by decide) rfl ?_
  intro p e s m args below meth c s₁ B hml hv
  obtain ⟨hargs, hY, hK, hO⟩ := hv
  have hx := B.exec
  have hb := B.bytes
  have hr := B.returns
  have hts := atoms_spec (ws := .code yX9_init cX9_init 2 none :: zt) B.pre
  have hown : s.vm.findClass RX9 = some m.cls := findClass_of_methodNamed B.named
  have hlocks := B.notSynchronized
  have hin : meth.name = "<init>" := (name_of_methodNamed B.named B.method).1
  have hS0 : va_S (yA b) s.heap s.heap [] := va_S.rf
  have hl := lv_entry ([.ref (b + 32)]) (n := 2) (Nat.le_of_ble_eq_true rfl)
  have hent : entryFrame m args 2 = F0 m 0 ((lg_sl ([.ref (b + 32)]) ++ List.replicate (2 - (lg_sl ([.ref (b + 32)])).length) Slot.unset).toArray) [] := by rw [hargs]; exact lg_entry_eq m ([.ref (b + 32)]) 2
  rw [hent]
  generalize (lg_sl ([.ref (b + 32)]) ++ List.replicate (2 - (lg_sl ([.ref (b + 32)])).length) Slot.unset).toArray = ls at hl ⊢
  have hl : lv_has ls 2 [(0, .ref (b + 32))] := hl
  refine lv_aload_n hx hb dX9_init_0 rfl (lv_at hl 0 rfl) ?_
  refine W.objInit hx hb hown (hts _ (z_mem k75)) (hts _ (z_mem k28)) (hts _ (z_mem k29)) rfl (by rw [hml]; exact hl.1) rfl dX9_init_1 (Nat.le_of_ble_eq_true rfl) (Nat.le_of_ble_eq_true rfl) ?_
  refine W.eq (g2 := F0 m 4 ls []) rfl ?_
  refine lv_aload_n hx hb dX9_init_4 rfl (lv_at hl 0 rfl) ?_
  refine z_iconst hx hb dX9_init_5 ?_
  refine y_newq (C := "TapeRings$Motor") (t0 := 5) (N := 2) hx hb hown (hts _ (z_mem k76)) hO.2.1 (by decide) (hK.1.2 5 _ rfl).2 hY hS0 (zkd_of (rfl : zcd wC 33 = 9) rfl) (zln_of (rfl : zcd wC 33 = 9) rfl) (by decide) rfl (by decide) (by decide) (Nat.le_of_ble_eq_true rfl) (Nat.le_of_ble_eq_true rfl) dX9_init_6 (fun H hY hS0 => ?_)
  have hY : yS D dA vwCl wC 34 b _ _ H := hY
  refine y_putrF (t := 33) hx hb hts (z_memU u9) tyX9 tyX9_ok nmX9 hown hK.1 hY hS0 f9_0 (by decide) (zkd_of (rfl : zcd wC 32 = 8) rfl) (hts _ (z_mem k116)) rfl hin rfl (tyX9_ok 0 (by decide)) (fun _ => rfl) (fun _ => rfl) dX9_init_9 (fun H locs hY hS0 => ?_)
  refine lv_aload_n hx hb dX9_init_12 rfl (lv_at hl 0 rfl) ?_
  refine z_iconst hx hb dX9_init_13 ?_
  refine y_newq (C := "TapeRings$Ring") (t0 := 6) (N := 4) hx hb hown (hts _ (z_mem k77)) hO.2.2.1 (by decide) (hK.1.2 6 _ rfl).2 hY hS0 (zkd_of (rfl : zcd wC 34 = 10) rfl) (zln_of (rfl : zcd wC 34 = 10) rfl) (by decide) rfl (by decide) (by decide) (Nat.le_of_ble_eq_true rfl) (Nat.le_of_ble_eq_true rfl) dX9_init_14 (fun H hY hS0 => ?_)
  have hY : yS D dA vwCl wC 35 b _ _ H := hY
  refine y_putrF (t := 34) hx hb hts (z_memU u9) tyX9 tyX9_ok nmX9 hown hK.1 hY hS0 f9_1 (by decide) (zkd_of (rfl : zcd wC 32 = 8) rfl) (hts _ (z_mem k117)) rfl hin rfl (tyX9_ok 1 (by decide)) (fun _ => rfl) (fun _ => rfl) dX9_init_17 (fun H locs hY hS0 => ?_)
  refine lv_aload_n hx hb dX9_init_20 rfl (lv_at hl 0 rfl) ?_
  refine z_iconst hx hb dX9_init_21 ?_
  refine y_puti (z := 0) hx hb hts (z_memU u9) tyX9 tyX9_ok nmX9 hown hK.1 hY hS0 f9_2 (by decide) (zkd_of (rfl : zcd wC 32 = 8) rfl) (Or.inl (hts _ (z_mem k118))) rfl (by decide +kernel) (zbd_in (rfl : zcd wC 32 = 8) rfl (by decide)) dX9_init_22 (fun H locs hY hS0 => ?_)
  refine z_iconst hx hb dX9_init_25 ?_
  refine lv_istore_n (lv' := [(1, .int (iI 0)), (0, .ref (b + 32))]) hx hb dX9_init_26 rfl hl (by decide) rfl (fun ls hl => ?_)
  refine lv_iload_n hx hb dX9_init_27 rfl (lv_at hl 0 rfl) ?_
  refine z_iconst hx hb dX9_init_28 ?_
  refine z_icmp_ge (tgt := 51) hx hb (by decide) (by decide) dX9_init_29 (by decide) (fun c9 => absurd c9 (by decide)) (fun _ => ?_)
  refine lv_aload_n hx hb dX9_init_32 rfl (lv_at hl 1 rfl) ?_
  refine y_getr (t := 33) hx hb hts (z_memU u9) hown hK.1 hY f9_0 (by decide) (zkd_of (rfl : zcd wC 32 = 8) rfl) (tup_ne rfl tup_s) (Or.inl (hts _ (z_mem k116))) dX9_init_33 ?_
  refine lv_iload_n hx hb dX9_init_36 rfl (lv_at hl 0 rfl) ?_
  refine y_new hx hb hts (z_memU u2) tyX2 tyX2_ok hown (hts _ (z_mem k76)) (hts _ (z_mem k78)) (hts _ (z_mem k5)) hK.1 hY hS0 (rfl : vwCl[2]? = some (RX2, TX2, 3)) (by decide) (zkd_of (rfl : zcd wC 35 = 11) rfl) rfl (fun k hk => by rcases (show k = 0 ∨ k = 1 ∨ k = 2 by omega) with rfl | rfl | rfl <;> rfl) (Nat.le_of_ble_eq_true rfl) (Nat.le_of_ble_eq_true rfl) dX9_init_37 (fun H hY hS0 => ?_)
  have hY : yS D dA vwCl wC 36 b _ _ H := hY
  refine lv_dup hx hb dX9_init_40 rfl ?_
  have hnw := hK.2 (RX9, 27, yX2_init, RX11) (List.mem_of_getElem? (i := 2) rfl)
  refine y_call (va_runIN (As := []) (rest := [.ref (b + 35), .int (iI 0), .ref (b + 33)]) ⟨hx, hb, hml, hown, hts⟩ (mk_C35 l D dA b _ _) ⟨va_cnB 0 hts (z_gN k80) rfl rfl rfl hnw (hts _ (z_mem k5)) (by decide +kernel) ⟨(Nat.le_of_ble_eq_true rfl), (Nat.le_of_ble_eq_true rfl)⟩, rfl, (hts _ (z_mem k79))⟩ ⟨yP_blind, y_pre hY hK hO⟩ rfl rfl hl.1 rfl (lv_room (Nat.le_of_ble_eq_true rfl)) dX9_init_41 ⟨(Nat.le_of_ble_eq_true rfl), (Nat.le_of_ble_eq_true rfl)⟩) hS0 (fun H locs hY hS0 => ?_)
  have hY : yS D dA vwCl wC 38 b _ _ H := hY
  refine y_aast (t0 := 5) (N := 2) (i := 0) hx hb hK.1 (by decide) (hK.1.2 5 _ rfl).2 (rfl : vwCl[2]? = some (RX2, TX2, 3)) (by decide) hY hS0 (by decide) (zkd_of (rfl : zcd wC 33 = 9) rfl) (zln_of (rfl : zcd wC 33 = 9) rfl) (by decide) (zkd_of (rfl : zcd wC 35 = 11) rfl) (by decide) (by decide) (by decide) dX9_init_44 (fun H locs hY hS0 => ?_)
  refine z_iinc (lv' := [(1, .int (iI (0 + 1))), (0, .ref (b + 32))]) hx hb dX9_init_45 hl (k := 0) rfl (by decide) rfl (fun ls hl => ?_)
  rw [show ((0 + 1) : Int) = 1 from by decide] at hl
  refine lv_goto (tgt := 27) hx hb dX9_init_48 (by decide) ?_
  refine lv_iload_n hx hb dX9_init_27 rfl (lv_at hl 0 rfl) ?_
  refine z_iconst hx hb dX9_init_28 ?_
  refine z_icmp_ge (tgt := 51) hx hb (by decide) (by decide) dX9_init_29 (by decide) (fun c9 => absurd c9 (by decide)) (fun _ => ?_)
  refine lv_aload_n hx hb dX9_init_32 rfl (lv_at hl 1 rfl) ?_
  refine y_getr (t := 33) hx hb hts (z_memU u9) hown hK.1 hY f9_0 (by decide) (zkd_of (rfl : zcd wC 32 = 8) rfl) (tup_ne rfl (tup_ne rfl (tup_ne rfl (tup_ne rfl tup_s)))) (Or.inl (hts _ (z_mem k116))) dX9_init_33 ?_
  refine lv_iload_n hx hb dX9_init_36 rfl (lv_at hl 0 rfl) ?_
  refine y_new hx hb hts (z_memU u2) tyX2 tyX2_ok hown (hts _ (z_mem k76)) (hts _ (z_mem k78)) (hts _ (z_mem k5)) hK.1 hY hS0 (rfl : vwCl[2]? = some (RX2, TX2, 3)) (by decide) (zkd_of (rfl : zcd wC 38 = 11) rfl) rfl (fun k hk => by rcases (show k = 0 ∨ k = 1 ∨ k = 2 by omega) with rfl | rfl | rfl <;> rfl) (Nat.le_of_ble_eq_true rfl) (Nat.le_of_ble_eq_true rfl) dX9_init_37 (fun H hY hS0 => ?_)
  have hY : yS D dA vwCl wC 39 b _ _ H := hY
  refine lv_dup hx hb dX9_init_40 rfl ?_
  have hnw := hK.2 (RX9, 27, yX2_init, RX11) (List.mem_of_getElem? (i := 2) rfl)
  refine y_call (va_runIN (As := []) (rest := [.ref (b + 38), .int (iI 1), .ref (b + 33)]) ⟨hx, hb, hml, hown, hts⟩ (mk_C38 l D dA b _ _) ⟨va_cnB 0 hts (z_gN k80) rfl rfl rfl hnw (hts _ (z_mem k5)) (by decide +kernel) ⟨(Nat.le_of_ble_eq_true rfl), (Nat.le_of_ble_eq_true rfl)⟩, rfl, (hts _ (z_mem k79))⟩ ⟨yP_blind, y_pre hY hK hO⟩ rfl rfl hl.1 rfl (lv_room (Nat.le_of_ble_eq_true rfl)) dX9_init_41 ⟨(Nat.le_of_ble_eq_true rfl), (Nat.le_of_ble_eq_true rfl)⟩) hS0 (fun H locs hY hS0 => ?_)
  have hY : yS D dA vwCl wC 41 b _ _ H := hY
  refine y_aast (t0 := 5) (N := 2) (i := 1) hx hb hK.1 (by decide) (hK.1.2 5 _ rfl).2 (rfl : vwCl[2]? = some (RX2, TX2, 3)) (by decide) hY hS0 (by decide) (zkd_of (rfl : zcd wC 33 = 9) rfl) (zln_of (rfl : zcd wC 33 = 9) rfl) (by decide) (zkd_of (rfl : zcd wC 38 = 11) rfl) (by decide) (by decide) (by decide) dX9_init_44 (fun H locs hY hS0 => ?_)
  refine z_iinc (lv' := [(1, .int (iI (1 + 1))), (0, .ref (b + 32))]) hx hb dX9_init_45 hl (k := 0) rfl (by decide) rfl (fun ls hl => ?_)
  rw [show ((1 + 1) : Int) = 2 from by decide] at hl
  refine lv_goto (tgt := 27) hx hb dX9_init_48 (by decide) ?_
  refine lv_iload_n hx hb dX9_init_27 rfl (lv_at hl 0 rfl) ?_
  refine z_iconst hx hb dX9_init_28 ?_
  refine z_icmp_ge (tgt := 51) hx hb (by decide) (by decide) dX9_init_29 (by decide) (fun _ => ?_) (fun c9 => absurd c9 (by decide))
  refine z_iconst hx hb dX9_init_51 ?_
  refine lv_istore_n (lv' := [(1, .int (iI 0)), (0, .ref (b + 32))]) hx hb dX9_init_52 rfl hl (by decide) rfl (fun ls hl => ?_)
  refine lv_iload_n hx hb dX9_init_53 rfl (lv_at hl 0 rfl) ?_
  refine z_iconst hx hb dX9_init_54 ?_
  refine z_icmp_ge (tgt := 77) hx hb (by decide) (by decide) dX9_init_55 (by decide) (fun c9 => absurd c9 (by decide)) (fun _ => ?_)
  refine lv_aload_n hx hb dX9_init_58 rfl (lv_at hl 1 rfl) ?_
  refine y_getr (t := 34) hx hb hts (z_memU u9) hown hK.1 hY f9_1 (by decide) (zkd_of (rfl : zcd wC 32 = 8) rfl) (tup_ne rfl (tup_ne rfl (tup_ne rfl (tup_ne rfl (tup_ne rfl (tup_ne rfl tup_s)))))) (Or.inl (hts _ (z_mem k117))) dX9_init_59 ?_
  refine lv_iload_n hx hb dX9_init_62 rfl (lv_at hl 0 rfl) ?_
  refine y_new hx hb hts (z_memU u6) tyX6 tyX6_ok hown (hts _ (z_mem k77)) (hts _ (z_mem k88)) (hts _ (z_mem k6)) hK.1 hY hS0 (rfl : vwCl[6]? = some (RX6, TX6, 6)) (by decide) (zkd_of (rfl : zcd wC 41 = 14) rfl) rfl (fun k hk => by rcases (show k = 0 ∨ k = 1 ∨ k = 2 ∨ k = 3 ∨ k = 4 ∨ k = 5 by omega) with rfl | rfl | rfl | rfl | rfl | rfl <;> rfl) (Nat.le_of_ble_eq_true rfl) (Nat.le_of_ble_eq_true rfl) dX9_init_63 (fun H hY hS0 => ?_)
  have hY : yS D dA vwCl wC 42 b _ _ H := hY
  refine lv_dup hx hb dX9_init_66 rfl ?_
  have hnw := hK.2 (RX9, 28, yX6_init, RX11) (List.mem_of_getElem? (i := 3) rfl)
  refine y_call (va_runIN (As := []) (rest := [.ref (b + 41), .int (iI 0), .ref (b + 34)]) ⟨hx, hb, hml, hown, hts⟩ (mk_C41 l D dA b _ _) ⟨va_cnB 0 hts (z_gN k90) rfl rfl rfl hnw (hts _ (z_mem k6)) (by decide +kernel) ⟨(Nat.le_of_ble_eq_true rfl), (Nat.le_of_ble_eq_true rfl)⟩, rfl, (hts _ (z_mem k89))⟩ ⟨yP_blind, y_pre hY hK hO⟩ rfl rfl hl.1 rfl (lv_room (Nat.le_of_ble_eq_true rfl)) dX9_init_67 ⟨(Nat.le_of_ble_eq_true rfl), (Nat.le_of_ble_eq_true rfl)⟩) hS0 (fun H locs hY hS0 => ?_)
  have hY : yS D dA vwCl wC 45 b _ _ H := hY
  refine y_aast (t0 := 6) (N := 4) (i := 0) hx hb hK.1 (by decide) (hK.1.2 6 _ rfl).2 (rfl : vwCl[6]? = some (RX6, TX6, 6)) (by decide) hY hS0 (by decide) (zkd_of (rfl : zcd wC 34 = 10) rfl) (zln_of (rfl : zcd wC 34 = 10) rfl) (by decide) (zkd_of (rfl : zcd wC 41 = 14) rfl) (by decide) (by decide) (by decide) dX9_init_70 (fun H locs hY hS0 => ?_)
  refine z_iinc (lv' := [(1, .int (iI (0 + 1))), (0, .ref (b + 32))]) hx hb dX9_init_71 hl (k := 0) rfl (by decide) rfl (fun ls hl => ?_)
  rw [show ((0 + 1) : Int) = 1 from by decide] at hl
  refine lv_goto (tgt := 53) hx hb dX9_init_74 (by decide) ?_
  refine lv_iload_n hx hb dX9_init_53 rfl (lv_at hl 0 rfl) ?_
  refine z_iconst hx hb dX9_init_54 ?_
  refine z_icmp_ge (tgt := 77) hx hb (by decide) (by decide) dX9_init_55 (by decide) (fun c9 => absurd c9 (by decide)) (fun _ => ?_)
  refine lv_aload_n hx hb dX9_init_58 rfl (lv_at hl 1 rfl) ?_
  refine y_getr (t := 34) hx hb hts (z_memU u9) hown hK.1 hY f9_1 (by decide) (zkd_of (rfl : zcd wC 32 = 8) rfl) (tup_ne rfl (tup_ne rfl (tup_ne rfl (tup_ne rfl (tup_ne rfl (tup_ne rfl (tup_ne rfl (tup_ne rfl (tup_ne rfl (tup_ne rfl tup_s)))))))))) (Or.inl (hts _ (z_mem k117))) dX9_init_59 ?_
  refine lv_iload_n hx hb dX9_init_62 rfl (lv_at hl 0 rfl) ?_
  refine y_new hx hb hts (z_memU u6) tyX6 tyX6_ok hown (hts _ (z_mem k77)) (hts _ (z_mem k88)) (hts _ (z_mem k6)) hK.1 hY hS0 (rfl : vwCl[6]? = some (RX6, TX6, 6)) (by decide) (zkd_of (rfl : zcd wC 45 = 14) rfl) rfl (fun k hk => by rcases (show k = 0 ∨ k = 1 ∨ k = 2 ∨ k = 3 ∨ k = 4 ∨ k = 5 by omega) with rfl | rfl | rfl | rfl | rfl | rfl <;> rfl) (Nat.le_of_ble_eq_true rfl) (Nat.le_of_ble_eq_true rfl) dX9_init_63 (fun H hY hS0 => ?_)
  have hY : yS D dA vwCl wC 46 b _ _ H := hY
  refine lv_dup hx hb dX9_init_66 rfl ?_
  have hnw := hK.2 (RX9, 28, yX6_init, RX11) (List.mem_of_getElem? (i := 3) rfl)
  refine y_call (va_runIN (As := []) (rest := [.ref (b + 45), .int (iI 1), .ref (b + 34)]) ⟨hx, hb, hml, hown, hts⟩ (mk_C45 l D dA b _ _) ⟨va_cnB 0 hts (z_gN k90) rfl rfl rfl hnw (hts _ (z_mem k6)) (by decide +kernel) ⟨(Nat.le_of_ble_eq_true rfl), (Nat.le_of_ble_eq_true rfl)⟩, rfl, (hts _ (z_mem k89))⟩ ⟨yP_blind, y_pre hY hK hO⟩ rfl rfl hl.1 rfl (lv_room (Nat.le_of_ble_eq_true rfl)) dX9_init_67 ⟨(Nat.le_of_ble_eq_true rfl), (Nat.le_of_ble_eq_true rfl)⟩) hS0 (fun H locs hY hS0 => ?_)
  have hY : yS D dA vwCl wC 49 b _ _ H := hY
  refine y_aast (t0 := 6) (N := 4) (i := 1) hx hb hK.1 (by decide) (hK.1.2 6 _ rfl).2 (rfl : vwCl[6]? = some (RX6, TX6, 6)) (by decide) hY hS0 (by decide) (zkd_of (rfl : zcd wC 34 = 10) rfl) (zln_of (rfl : zcd wC 34 = 10) rfl) (by decide) (zkd_of (rfl : zcd wC 45 = 14) rfl) (by decide) (by decide) (by decide) dX9_init_70 (fun H locs hY hS0 => ?_)
  refine z_iinc (lv' := [(1, .int (iI (1 + 1))), (0, .ref (b + 32))]) hx hb dX9_init_71 hl (k := 0) rfl (by decide) rfl (fun ls hl => ?_)
  rw [show ((1 + 1) : Int) = 2 from by decide] at hl
  refine lv_goto (tgt := 53) hx hb dX9_init_74 (by decide) ?_
  refine lv_iload_n hx hb dX9_init_53 rfl (lv_at hl 0 rfl) ?_
  refine z_iconst hx hb dX9_init_54 ?_
  refine z_icmp_ge (tgt := 77) hx hb (by decide) (by decide) dX9_init_55 (by decide) (fun c9 => absurd c9 (by decide)) (fun _ => ?_)
  refine lv_aload_n hx hb dX9_init_58 rfl (lv_at hl 1 rfl) ?_
  refine y_getr (t := 34) hx hb hts (z_memU u9) hown hK.1 hY f9_1 (by decide) (zkd_of (rfl : zcd wC 32 = 8) rfl) (tup_ne rfl (tup_ne rfl (tup_ne rfl (tup_ne rfl (tup_ne rfl (tup_ne rfl (tup_ne rfl (tup_ne rfl (tup_ne rfl (tup_ne rfl (tup_ne rfl (tup_ne rfl (tup_ne rfl (tup_ne rfl tup_s)))))))))))))) (Or.inl (hts _ (z_mem k117))) dX9_init_59 ?_
  refine lv_iload_n hx hb dX9_init_62 rfl (lv_at hl 0 rfl) ?_
  refine y_new hx hb hts (z_memU u6) tyX6 tyX6_ok hown (hts _ (z_mem k77)) (hts _ (z_mem k88)) (hts _ (z_mem k6)) hK.1 hY hS0 (rfl : vwCl[6]? = some (RX6, TX6, 6)) (by decide) (zkd_of (rfl : zcd wC 49 = 14) rfl) rfl (fun k hk => by rcases (show k = 0 ∨ k = 1 ∨ k = 2 ∨ k = 3 ∨ k = 4 ∨ k = 5 by omega) with rfl | rfl | rfl | rfl | rfl | rfl <;> rfl) (Nat.le_of_ble_eq_true rfl) (Nat.le_of_ble_eq_true rfl) dX9_init_63 (fun H hY hS0 => ?_)
  have hY : yS D dA vwCl wC 50 b _ _ H := hY
  refine lv_dup hx hb dX9_init_66 rfl ?_
  have hnw := hK.2 (RX9, 28, yX6_init, RX11) (List.mem_of_getElem? (i := 3) rfl)
  refine y_call (va_runIN (As := []) (rest := [.ref (b + 49), .int (iI 2), .ref (b + 34)]) ⟨hx, hb, hml, hown, hts⟩ (mk_C49 l D dA b _ _) ⟨va_cnB 0 hts (z_gN k90) rfl rfl rfl hnw (hts _ (z_mem k6)) (by decide +kernel) ⟨(Nat.le_of_ble_eq_true rfl), (Nat.le_of_ble_eq_true rfl)⟩, rfl, (hts _ (z_mem k89))⟩ ⟨yP_blind, y_pre hY hK hO⟩ rfl rfl hl.1 rfl (lv_room (Nat.le_of_ble_eq_true rfl)) dX9_init_67 ⟨(Nat.le_of_ble_eq_true rfl), (Nat.le_of_ble_eq_true rfl)⟩) hS0 (fun H locs hY hS0 => ?_)
  have hY : yS D dA vwCl wC 53 b _ _ H := hY
  refine y_aast (t0 := 6) (N := 4) (i := 2) hx hb hK.1 (by decide) (hK.1.2 6 _ rfl).2 (rfl : vwCl[6]? = some (RX6, TX6, 6)) (by decide) hY hS0 (by decide) (zkd_of (rfl : zcd wC 34 = 10) rfl) (zln_of (rfl : zcd wC 34 = 10) rfl) (by decide) (zkd_of (rfl : zcd wC 49 = 14) rfl) (by decide) (by decide) (by decide) dX9_init_70 (fun H locs hY hS0 => ?_)
  refine z_iinc (lv' := [(1, .int (iI (2 + 1))), (0, .ref (b + 32))]) hx hb dX9_init_71 hl (k := 0) rfl (by decide) rfl (fun ls hl => ?_)
  rw [show ((2 + 1) : Int) = 3 from by decide] at hl
  refine lv_goto (tgt := 53) hx hb dX9_init_74 (by decide) ?_
  refine lv_iload_n hx hb dX9_init_53 rfl (lv_at hl 0 rfl) ?_
  refine z_iconst hx hb dX9_init_54 ?_
  refine z_icmp_ge (tgt := 77) hx hb (by decide) (by decide) dX9_init_55 (by decide) (fun c9 => absurd c9 (by decide)) (fun _ => ?_)
  refine lv_aload_n hx hb dX9_init_58 rfl (lv_at hl 1 rfl) ?_
  refine y_getr (t := 34) hx hb hts (z_memU u9) hown hK.1 hY f9_1 (by decide) (zkd_of (rfl : zcd wC 32 = 8) rfl) (tup_ne rfl (tup_ne rfl (tup_ne rfl (tup_ne rfl (tup_ne rfl (tup_ne rfl (tup_ne rfl (tup_ne rfl (tup_ne rfl (tup_ne rfl (tup_ne rfl (tup_ne rfl (tup_ne rfl (tup_ne rfl (tup_ne rfl (tup_ne rfl (tup_ne rfl (tup_ne rfl tup_s)))))))))))))))))) (Or.inl (hts _ (z_mem k117))) dX9_init_59 ?_
  refine lv_iload_n hx hb dX9_init_62 rfl (lv_at hl 0 rfl) ?_
  refine y_new hx hb hts (z_memU u6) tyX6 tyX6_ok hown (hts _ (z_mem k77)) (hts _ (z_mem k88)) (hts _ (z_mem k6)) hK.1 hY hS0 (rfl : vwCl[6]? = some (RX6, TX6, 6)) (by decide) (zkd_of (rfl : zcd wC 53 = 14) rfl) rfl (fun k hk => by rcases (show k = 0 ∨ k = 1 ∨ k = 2 ∨ k = 3 ∨ k = 4 ∨ k = 5 by omega) with rfl | rfl | rfl | rfl | rfl | rfl <;> rfl) (Nat.le_of_ble_eq_true rfl) (Nat.le_of_ble_eq_true rfl) dX9_init_63 (fun H hY hS0 => ?_)
  have hY : yS D dA vwCl wC 54 b _ _ H := hY
  refine lv_dup hx hb dX9_init_66 rfl ?_
  have hnw := hK.2 (RX9, 28, yX6_init, RX11) (List.mem_of_getElem? (i := 3) rfl)
  refine y_call (va_runIN (As := []) (rest := [.ref (b + 53), .int (iI 3), .ref (b + 34)]) ⟨hx, hb, hml, hown, hts⟩ (mk_C53 l D dA b _ _) ⟨va_cnB 0 hts (z_gN k90) rfl rfl rfl hnw (hts _ (z_mem k6)) (by decide +kernel) ⟨(Nat.le_of_ble_eq_true rfl), (Nat.le_of_ble_eq_true rfl)⟩, rfl, (hts _ (z_mem k89))⟩ ⟨yP_blind, y_pre hY hK hO⟩ rfl rfl hl.1 rfl (lv_room (Nat.le_of_ble_eq_true rfl)) dX9_init_67 ⟨(Nat.le_of_ble_eq_true rfl), (Nat.le_of_ble_eq_true rfl)⟩) hS0 (fun H locs hY hS0 => ?_)
  have hY : yS D dA vwCl wC 57 b _ _ H := hY
  refine y_aast (t0 := 6) (N := 4) (i := 3) hx hb hK.1 (by decide) (hK.1.2 6 _ rfl).2 (rfl : vwCl[6]? = some (RX6, TX6, 6)) (by decide) hY hS0 (by decide) (zkd_of (rfl : zcd wC 34 = 10) rfl) (zln_of (rfl : zcd wC 34 = 10) rfl) (by decide) (zkd_of (rfl : zcd wC 53 = 14) rfl) (by decide) (by decide) (by decide) dX9_init_70 (fun H locs hY hS0 => ?_)
  refine z_iinc (lv' := [(1, .int (iI (3 + 1))), (0, .ref (b + 32))]) hx hb dX9_init_71 hl (k := 0) rfl (by decide) rfl (fun ls hl => ?_)
  rw [show ((3 + 1) : Int) = 4 from by decide] at hl
  refine lv_goto (tgt := 53) hx hb dX9_init_74 (by decide) ?_
  refine lv_iload_n hx hb dX9_init_53 rfl (lv_at hl 0 rfl) ?_
  refine z_iconst hx hb dX9_init_54 ?_
  refine z_icmp_ge (tgt := 77) hx hb (by decide) (by decide) dX9_init_55 (by decide) (fun _ => ?_) (fun c9 => absurd c9 (by decide))
  exact y_ret hx hb hr hlocks hY hS0 dX9_init_77
end zz45_b08
section zz45_b09
def mT_C57 (T : zT) : zT := (tup (tup T 57 2 58) 57 3 59)
def mM_C57 (M : zM) : zM := (zup (zup M 57 0 0) 57 1 0)
set_option maxHeartbeats 4000000 in
set_option maxRecDepth 100000 in
theorem mk_C57 (l : Launch) (D : va_G) (dA : Nat → ClassId) (b : Nat) (M : zM) (T : zT) : Met l yX1_init (.code yX1_init cX1_init 1 none :: zt) (y_rm 1 2 8) (va_Pc [.ref (b + 57)] (yP D dA vwCl (z_tys dA) wC 58 b M T)) (va_Qv (fun _ => True) (yB D dA vwCl wC 60 b (mM_C57 M) (mT_C57 T)) (yA b)) 2 8 (yA b) := by
  refine Met.ofW (cc := cX1_init) (maxL := 1) (ret := none) (by decide) rfl ?_
  intro p e s m args below meth c s₁ B hml hv
  obtain ⟨hargs, hY, hK, hO⟩ := hv
  have hx := B.exec
  have hb := B.bytes
  have hr := B.returns
  have hts := atoms_spec (ws := .code yX1_init cX1_init 1 none :: zt) B.pre
  have hown : s.vm.findClass RX1 = some m.cls := findClass_of_methodNamed B.named
  have hlocks := B.notSynchronized
  have hin : meth.name = "<init>" := (name_of_methodNamed B.named B.method).1
  have hS0 : va_S (yA b) s.heap s.heap [] := va_S.rf
  have hl := lv_entry ([.ref (b + 57)]) (n := 1) (Nat.le_of_ble_eq_true rfl)
  have hent : entryFrame m args 1 = F0 m 0 ((lg_sl ([.ref (b + 57)]) ++ List.replicate (1 - (lg_sl ([.ref (b + 57)])).length) Slot.unset).toArray) [] := by rw [hargs]; exact lg_entry_eq m ([.ref (b + 57)]) 1
  rw [hent]
  generalize (lg_sl ([.ref (b + 57)]) ++ List.replicate (1 - (lg_sl ([.ref (b + 57)])).length) Slot.unset).toArray = ls at hl ⊢
  have hl : lv_has ls 1 [(0, .ref (b + 57))] := hl
  refine lv_aload_n hx hb dX1_init_0 rfl (lv_at hl 0 rfl) ?_
  refine W.objInit hx hb hown (hts _ (z_mem k128)) (hts _ (z_mem k28)) (hts _ (z_mem k29)) rfl (by rw [hml]; exact hl.1) rfl dX1_init_1 (Nat.le_of_ble_eq_true rfl) (Nat.le_of_ble_eq_true rfl) ?_
  refine W.eq (g2 := F0 m 4 ls []) rfl ?_
  refine lv_aload_n hx hb dX1_init_4 rfl (lv_at hl 0 rfl) ?_
  refine z_iconst hx hb dX1_init_5 ?_
  refine y_puti (z := 0) hx hb hts (z_memU u1) tyX1 tyX1_ok nmX1 hown hK.1 hY hS0 f1_0 (by decide) (zkd_of (rfl : zcd wC 57 = 16) rfl) (Or.inl (hts _ (z_mem k129))) rfl (by decide +kernel) (zbd_in (rfl : zcd wC 57 = 16) rfl (by decide)) dX1_init_6 (fun H locs hY hS0 => ?_)
  refine lv_aload_n hx hb dX1_init_9 rfl (lv_at hl 0 rfl) ?_
  refine z_lconst0 hx hb dX1_init_10 ?_
  refine y_putl (z := 0) hx hb hts (z_memU u1) tyX1 tyX1_ok nmX1 hown hK.1 hY hS0 f1_1 (by decide) (zkd_of (rfl : zcd wC 57 = 16) rfl) (Or.inl (hts _ (z_mem k130))) rfl (by decide +kernel) (zbd_in (rfl : zcd wC 57 = 16) rfl (by decide)) dX1_init_11 (fun H locs hY hS0 => ?_)
  refine lv_aload_n hx hb dX1_init_14 rfl (lv_at hl 0 rfl) ?_
  refine z_iconst hx hb dX1_init_15 ?_
  refine y_newa (atype := .int) hx hb (hts _ (z_mem k53)) (t0 := 0) (N := 4) (by decide) (by decide) (hK.1.2 0 _ rfl).2 rfl hY hS0 (zkd_of (rfl : zcd wC 58 = 17) rfl) (zln_of (rfl : zcd wC 58 = 17) rfl) (by decide) rfl (by decide) (by decide) (Nat.le_of_ble_eq_true rfl) (Nat.le_of_ble_eq_true rfl) dX1_init_16 (fun H hY hS0 => ?_)
  have hY : yS D dA vwCl wC 59 b _ _ H := hY
  refine y_putrF (t := 58) hx hb hts (z_memU u1) tyX1 tyX1_ok nmX1 hown hK.1 hY hS0 f1_2 (by decide) (zkd_of (rfl : zcd wC 57 = 16) rfl) (hts _ (z_mem k131)) rfl hin rfl (tyX1_ok 2 (by decide)) (fun _ => rfl) (fun _ => rfl) dX1_init_18 (fun H locs hY hS0 => ?_)
  refine lv_aload_n hx hb dX1_init_21 rfl (lv_at hl 0 rfl) ?_
  refine z_iconst hx hb dX1_init_22 ?_
  refine y_newa (atype := .int) hx hb (hts _ (z_mem k53)) (t0 := 0) (N := 4) (by decide) (by decide) (hK.1.2 0 _ rfl).2 rfl hY hS0 (zkd_of (rfl : zcd wC 59 = 18) rfl) (zln_of (rfl : zcd wC 59 = 18) rfl) (by decide) rfl (by decide) (by decide) (Nat.le_of_ble_eq_true rfl) (Nat.le_of_ble_eq_true rfl) dX1_init_23 (fun H hY hS0 => ?_)
  have hY : yS D dA vwCl wC 60 b _ _ H := hY
  refine y_putrF (t := 59) hx hb hts (z_memU u1) tyX1 tyX1_ok nmX1 hown hK.1 hY hS0 f1_3 (by decide) (zkd_of (rfl : zcd wC 57 = 16) rfl) (hts _ (z_mem k132)) rfl hin rfl (tyX1_ok 3 (by decide)) (fun _ => rfl) (fun _ => rfl) dX1_init_25 (fun H locs hY hS0 => ?_)
  exact y_ret hx hb hr hlocks hY hS0 dX1_init_28
end zz45_b09
section zz45_b10
def mT_C60 (T : zT) : zT := (tup (tup (tup (tup (fun a c => if a = 69 ∧ c < 5 then some (69 + 1 + c) else (tup (fun a c => if a = 64 ∧ c < 4 then some (64 + 1 + c) else (tup (tup (tup T 60 0 61) 60 1 62) 60 3 63) a c) 60 4 64) a c) 60 5 69) 60 6 75) 60 7 76) 60 8 77)
def mM_C60 (M : zM) : zM := (zup M 60 2 0)
set_option maxHeartbeats 4000000 in
set_option maxRecDepth 100000 in
theorem mk_C60 (l : Launch) (D : va_G) (dA : Nat → ClassId) (b : Nat) (M : zM) (T : zT) : Met l yX5_init (.code yX5_init cX5_init 1 none :: zt) (y_rm 1 17 1643) (va_Pc [.ref (b + 60)] (yP D dA vwCl (z_tys dA) wC 61 b M T)) (va_Qv (fun _ => True) (yB D dA vwCl wC 78 b (mM_C60 M) (mT_C60 T)) (yA b)) 17 1643 (yA b) := by
  refine Met.ofW (cc := cX5_init) (maxL := 1) (ret := none) (by decide) rfl ?_
  intro p e s m args below meth c s₁ B hml hv
  obtain ⟨hargs, hY, hK, hO⟩ := hv
  have hx := B.exec
  have hb := B.bytes
  have hr := B.returns
  have hts := atoms_spec (ws := .code yX5_init cX5_init 1 none :: zt) B.pre
  have hown : s.vm.findClass RX5 = some m.cls := findClass_of_methodNamed B.named
  have hlocks := B.notSynchronized
  have hin : meth.name = "<init>" := (name_of_methodNamed B.named B.method).1
  have hS0 : va_S (yA b) s.heap s.heap [] := va_S.rf
  have hl := lv_entry ([.ref (b + 60)]) (n := 1) (Nat.le_of_ble_eq_true rfl)
  have hent : entryFrame m args 1 = F0 m 0 ((lg_sl ([.ref (b + 60)]) ++ List.replicate (1 - (lg_sl ([.ref (b + 60)])).length) Slot.unset).toArray) [] := by rw [hargs]; exact lg_entry_eq m ([.ref (b + 60)]) 1
  rw [hent]
  generalize (lg_sl ([.ref (b + 60)]) ++ List.replicate (1 - (lg_sl ([.ref (b + 60)])).length) Slot.unset).toArray = ls at hl ⊢
  have hl : lv_has ls 1 [(0, .ref (b + 60))] := hl
  refine lv_aload_n hx hb dX5_init_0 rfl (lv_at hl 0 rfl) ?_
  refine W.objInit hx hb hown (hts _ (z_mem k141)) (hts _ (z_mem k28)) (hts _ (z_mem k29)) rfl (by rw [hml]; exact hl.1) rfl dX5_init_1 (Nat.le_of_ble_eq_true rfl) (Nat.le_of_ble_eq_true rfl) ?_
  refine W.eq (g2 := F0 m 4 ls []) rfl ?_
  refine lv_aload_n hx hb dX5_init_4 rfl (lv_at hl 0 rfl) ?_
  refine z_bipush hx hb (by decide) dX5_init_5 ?_
  refine y_newa (atype := .int) hx hb (hts _ (z_mem k53)) (t0 := 0) (N := 6) (by decide) (by decide) (hK.1.2 0 _ rfl).2 rfl hY hS0 (zkd_of (rfl : zcd wC 61 = 20) rfl) (zln_of (rfl : zcd wC 61 = 20) rfl) (by decide) rfl (by decide) (by decide) (Nat.le_of_ble_eq_true rfl) (Nat.le_of_ble_eq_true rfl) dX5_init_7 (fun H hY hS0 => ?_)
  have hY : yS D dA vwCl wC 62 b _ _ H := hY
  refine y_putrF (t := 61) hx hb hts (z_memU u5) tyX5 tyX5_ok nmX5 hown hK.1 hY hS0 f5_0 (by decide) (zkd_of (rfl : zcd wC 60 = 19) rfl) (hts _ (z_mem k143)) rfl hin rfl (tyX5_ok 0 (by decide)) (fun _ => rfl) (fun _ => rfl) dX5_init_9 (fun H locs hY hS0 => ?_)
  refine lv_aload_n hx hb dX5_init_12 rfl (lv_at hl 0 rfl) ?_
  refine z_bipush hx hb (by decide) dX5_init_13 ?_
  refine y_newa (atype := .int) hx hb (hts _ (z_mem k53)) (t0 := 0) (N := 6) (by decide) (by decide) (hK.1.2 0 _ rfl).2 rfl hY hS0 (zkd_of (rfl : zcd wC 62 = 21) rfl) (zln_of (rfl : zcd wC 62 = 21) rfl) (by decide) rfl (by decide) (by decide) (Nat.le_of_ble_eq_true rfl) (Nat.le_of_ble_eq_true rfl) dX5_init_15 (fun H hY hS0 => ?_)
  have hY : yS D dA vwCl wC 63 b _ _ H := hY
  refine y_putrF (t := 62) hx hb hts (z_memU u5) tyX5 tyX5_ok nmX5 hown hK.1 hY hS0 f5_1 (by decide) (zkd_of (rfl : zcd wC 60 = 19) rfl) (hts _ (z_mem k144)) rfl hin rfl (tyX5_ok 1 (by decide)) (fun _ => rfl) (fun _ => rfl) dX5_init_17 (fun H locs hY hS0 => ?_)
  refine lv_aload_n hx hb dX5_init_20 rfl (lv_at hl 0 rfl) ?_
  refine z_iconst hx hb dX5_init_21 ?_
  refine y_puti (z := 0) hx hb hts (z_memU u5) tyX5 tyX5_ok nmX5 hown hK.1 hY hS0 f5_2 (by decide) (zkd_of (rfl : zcd wC 60 = 19) rfl) (Or.inl (hts _ (z_mem k145))) rfl (by decide +kernel) (zbd_in (rfl : zcd wC 60 = 19) rfl (by decide)) dX5_init_22 (fun H locs hY hS0 => ?_)
  refine lv_aload_n hx hb dX5_init_25 rfl (lv_at hl 0 rfl) ?_
  refine z_bipush hx hb (by decide) dX5_init_26 ?_
  refine y_newa (atype := .int) hx hb (hts _ (z_mem k53)) (t0 := 0) (N := 8) (by decide) (by decide) (hK.1.2 0 _ rfl).2 rfl hY hS0 (zkd_of (rfl : zcd wC 63 = 22) rfl) (zln_of (rfl : zcd wC 63 = 22) rfl) (by decide) rfl (by decide) (by decide) (Nat.le_of_ble_eq_true rfl) (Nat.le_of_ble_eq_true rfl) dX5_init_28 (fun H hY hS0 => ?_)
  have hY : yS D dA vwCl wC 64 b _ _ H := hY
  refine y_putrF (t := 63) hx hb hts (z_memU u5) tyX5 tyX5_ok nmX5 hown hK.1 hY hS0 f5_3 (by decide) (zkd_of (rfl : zcd wC 60 = 19) rfl) (hts _ (z_mem k147)) rfl hin rfl (tyX5_ok 3 (by decide)) (fun _ => rfl) (fun _ => rfl) dX5_init_30 (fun H locs hY hS0 => ?_)
  refine lv_aload_n hx hb dX5_init_33 rfl (lv_at hl 0 rfl) ?_
  refine z_iconst hx hb dX5_init_34 ?_
  refine z_sipush hx hb (by decide) dX5_init_35 ?_
  refine y_mna (N := 4) (K := 300) hx hb hown (hts _ (z_mem k142)) hO.2.2.2 (hts _ (z_mem k53)) (hK.1.2 0 _ rfl).2 (hK.1.2 7 _ rfl).2 hY hS0 (zkd_of (rfl : zcd wC 64 = 23) rfl) (zln_of (rfl : zcd wC 64 = 23) rfl) (by decide +kernel) (by decide) (by decide) rfl rfl (by decide) (by decide) (by decide) (by decide) (by decide) (Nat.le_of_ble_eq_true rfl) (Nat.le_of_ble_eq_true rfl) dX5_init_38 (fun H hY hS0 => ?_)
  have hY : yS D dA vwCl wC 69 b _ _ H := hY
  refine y_putrF (t := 64) hx hb hts (z_memU u5) tyX5 tyX5_ok nmX5 hown hK.1 hY hS0 f5_4 (by decide) (zkd_of (rfl : zcd wC 60 = 19) rfl) (hts _ (z_mem k149)) rfl hin rfl (tyX5_ok 4 (by decide)) (fun _ => rfl) (fun _ => rfl) dX5_init_42 (fun H locs hY hS0 => ?_)
  refine lv_aload_n hx hb dX5_init_45 rfl (lv_at hl 0 rfl) ?_
  refine z_iconst hx hb dX5_init_46 ?_
  refine z_bipush hx hb (by decide) dX5_init_47 ?_
  refine y_mna (N := 5) (K := 64) hx hb hown (hts _ (z_mem k142)) hO.2.2.2 (hts _ (z_mem k53)) (hK.1.2 0 _ rfl).2 (hK.1.2 7 _ rfl).2 hY hS0 (zkd_of (rfl : zcd wC 69 = 25) rfl) (zln_of (rfl : zcd wC 69 = 25) rfl) (by decide +kernel) (by decide) (by decide) rfl rfl (by decide) (by decide) (by decide) (by decide) (by decide) (Nat.le_of_ble_eq_true rfl) (Nat.le_of_ble_eq_true rfl) dX5_init_49 (fun H hY hS0 => ?_)
  have hY : yS D dA vwCl wC 75 b _ _ H := hY
  refine y_putrF (t := 69) hx hb hts (z_memU u5) tyX5 tyX5_ok nmX5 hown hK.1 hY hS0 f5_5 (by decide) (zkd_of (rfl : zcd wC 60 = 19) rfl) (hts _ (z_mem k150)) rfl hin rfl (tyX5_ok 5 (by decide)) (fun _ => rfl) (fun _ => rfl) dX5_init_53 (fun H locs hY hS0 => ?_)
  refine lv_aload_n hx hb dX5_init_56 rfl (lv_at hl 0 rfl) ?_
  refine z_bipush hx hb (by decide) dX5_init_57 ?_
  refine y_newa (atype := .int) hx hb (hts _ (z_mem k53)) (t0 := 0) (N := 64) (by decide) (by decide) (hK.1.2 0 _ rfl).2 rfl hY hS0 (zkd_of (rfl : zcd wC 75 = 27) rfl) (zln_of (rfl : zcd wC 75 = 27) rfl) (by decide) rfl (by decide) (by decide) (Nat.le_of_ble_eq_true rfl) (Nat.le_of_ble_eq_true rfl) dX5_init_59 (fun H hY hS0 => ?_)
  have hY : yS D dA vwCl wC 76 b _ _ H := hY
  refine y_putrF (t := 75) hx hb hts (z_memU u5) tyX5 tyX5_ok nmX5 hown hK.1 hY hS0 f5_6 (by decide) (zkd_of (rfl : zcd wC 60 = 19) rfl) (hts _ (z_mem k151)) rfl hin rfl (tyX5_ok 6 (by decide)) (fun _ => rfl) (fun _ => rfl) dX5_init_61 (fun H locs hY hS0 => ?_)
  refine lv_aload_n hx hb dX5_init_64 rfl (lv_at hl 0 rfl) ?_
  refine z_bipush hx hb (by decide) dX5_init_65 ?_
  refine y_newa (atype := .int) hx hb (hts _ (z_mem k53)) (t0 := 0) (N := 24) (by decide) (by decide) (hK.1.2 0 _ rfl).2 rfl hY hS0 (zkd_of (rfl : zcd wC 76 = 28) rfl) (zln_of (rfl : zcd wC 76 = 28) rfl) (by decide) rfl (by decide) (by decide) (Nat.le_of_ble_eq_true rfl) (Nat.le_of_ble_eq_true rfl) dX5_init_67 (fun H hY hS0 => ?_)
  have hY : yS D dA vwCl wC 77 b _ _ H := hY
  refine y_putrF (t := 76) hx hb hts (z_memU u5) tyX5 tyX5_ok nmX5 hown hK.1 hY hS0 f5_7 (by decide) (zkd_of (rfl : zcd wC 60 = 19) rfl) (hts _ (z_mem k152)) rfl hin rfl (tyX5_ok 7 (by decide)) (fun _ => rfl) (fun _ => rfl) dX5_init_69 (fun H locs hY hS0 => ?_)
  refine lv_aload_n hx hb dX5_init_72 rfl (lv_at hl 0 rfl) ?_
  refine z_bipush hx hb (by decide) dX5_init_73 ?_
  refine y_newa (atype := .int) hx hb (hts _ (z_mem k53)) (t0 := 0) (N := 6) (by decide) (by decide) (hK.1.2 0 _ rfl).2 rfl hY hS0 (zkd_of (rfl : zcd wC 77 = 29) rfl) (zln_of (rfl : zcd wC 77 = 29) rfl) (by decide) rfl (by decide) (by decide) (Nat.le_of_ble_eq_true rfl) (Nat.le_of_ble_eq_true rfl) dX5_init_75 (fun H hY hS0 => ?_)
  have hY : yS D dA vwCl wC 78 b _ _ H := hY
  refine y_putrF (t := 77) hx hb hts (z_memU u5) tyX5 tyX5_ok nmX5 hown hK.1 hY hS0 f5_8 (by decide) (zkd_of (rfl : zcd wC 60 = 19) rfl) (hts _ (z_mem k153)) rfl hin rfl (tyX5_ok 8 (by decide)) (fun _ => rfl) (fun _ => rfl) dX5_init_77 (fun H locs hY hS0 => ?_)
  exact y_ret hx hb hr hlocks hY hS0 dX5_init_80
end zz45_b10
section zz45_b11
def mT_C78 (T : zT) : zT := (tup (tup (tup T 78 1 79) 78 2 80) 78 7 81)
def mM_C78 (M : zM) : zM := (zfill (zup (zup (zup (zup (zup M 78 0 0) 78 3 1) 78 4 0) 78 5 1) 78 6 0) 80 10 100)
set_option maxHeartbeats 4000000 in
set_option maxRecDepth 100000 in
theorem mk_C78 (l : Launch) (D : va_G) (dA : Nat → ClassId) (b : Nat) (M : zM) (T : zT) : Met l yX0_init (.code yX0_init cX0_init 1 none :: zt) (y_rm 1 3 4013) (va_Pc [.ref (b + 78)] (yP D dA vwCl (z_tys dA) wC 79 b M T)) (va_Qv (fun _ => True) (yB D dA vwCl wC 82 b (mM_C78 M) (mT_C78 T)) (yA b)) 3 4013 (yA b) := by
  refine Met.ofW (cc := cX0_init) (maxL := 1) (ret := none) (by decide) rfl ?_
  intro p e s m args below meth c s₁ B hml hv
  obtain ⟨hargs, hY, hK, hO⟩ := hv
  have hx := B.exec
  have hb := B.bytes
  have hr := B.returns
  have hts := atoms_spec (ws := .code yX0_init cX0_init 1 none :: zt) B.pre
  have hown : s.vm.findClass RX0 = some m.cls := findClass_of_methodNamed B.named
  have hlocks := B.notSynchronized
  have hin : meth.name = "<init>" := (name_of_methodNamed B.named B.method).1
  have hS0 : va_S (yA b) s.heap s.heap [] := va_S.rf
  have hl := lv_entry ([.ref (b + 78)]) (n := 1) (Nat.le_of_ble_eq_true rfl)
  have hent : entryFrame m args 1 = F0 m 0 ((lg_sl ([.ref (b + 78)]) ++ List.replicate (1 - (lg_sl ([.ref (b + 78)])).length) Slot.unset).toArray) [] := by rw [hargs]; exact lg_entry_eq m ([.ref (b + 78)]) 1
  rw [hent]
  generalize (lg_sl ([.ref (b + 78)]) ++ List.replicate (1 - (lg_sl ([.ref (b + 78)])).length) Slot.unset).toArray = ls at hl ⊢
  have hl : lv_has ls 1 [(0, .ref (b + 78))] := hl
  refine lv_aload_n hx hb dX0_init_0 rfl (lv_at hl 0 rfl) ?_
  refine W.objInit hx hb hown (hts _ (z_mem k168)) (hts _ (z_mem k28)) (hts _ (z_mem k29)) rfl (by rw [hml]; exact hl.1) rfl dX0_init_1 (Nat.le_of_ble_eq_true rfl) (Nat.le_of_ble_eq_true rfl) ?_
  refine W.eq (g2 := F0 m 4 ls []) rfl ?_
  refine lv_aload_n hx hb dX0_init_4 rfl (lv_at hl 0 rfl) ?_
  refine z_iconst hx hb dX0_init_5 ?_
  refine y_puti (z := 0) hx hb hts (z_memU u0) tyX0 tyX0_ok nmX0 hown hK.1 hY hS0 f0_0 (by decide) (zkd_of (rfl : zcd wC 78 = 30) rfl) (Or.inl (hts _ (z_mem k172))) rfl (by decide +kernel) (zbd_in (rfl : zcd wC 78 = 30) rfl (by decide)) dX0_init_6 (fun H locs hY hS0 => ?_)
  refine lv_aload_n hx hb dX0_init_9 rfl (lv_at hl 0 rfl) ?_
  refine z_iconst hx hb dX0_init_10 ?_
  refine y_newa (atype := .int) hx hb (hts _ (z_mem k53)) (t0 := 0) (N := 2) (by decide) (by decide) (hK.1.2 0 _ rfl).2 rfl hY hS0 (zkd_of (rfl : zcd wC 79 = 31) rfl) (zln_of (rfl : zcd wC 79 = 31) rfl) (by decide) rfl (by decide) (by decide) (Nat.le_of_ble_eq_true rfl) (Nat.le_of_ble_eq_true rfl) dX0_init_11 (fun H hY hS0 => ?_)
  have hY : yS D dA vwCl wC 80 b _ _ H := hY
  refine y_putrF (t := 79) hx hb hts (z_memU u0) tyX0 tyX0_ok nmX0 hown hK.1 hY hS0 f0_1 (by decide) (zkd_of (rfl : zcd wC 78 = 30) rfl) (hts _ (z_mem k174)) rfl hin rfl (tyX0_ok 1 (by decide)) (fun _ => rfl) (fun _ => rfl) dX0_init_13 (fun H locs hY hS0 => ?_)
  refine lv_aload_n hx hb dX0_init_16 rfl (lv_at hl 0 rfl) ?_
  refine z_bipush hx hb (by decide) dX0_init_17 ?_
  refine y_newa (atype := .int) hx hb (hts _ (z_mem k53)) (t0 := 0) (N := 10) (by decide) (by decide) (hK.1.2 0 _ rfl).2 rfl hY hS0 (zkd_of (rfl : zcd wC 80 = 32) rfl) (zln_of (rfl : zcd wC 80 = 32) rfl) (by decide) rfl (by decide) (by decide) (Nat.le_of_ble_eq_true rfl) (Nat.le_of_ble_eq_true rfl) dX0_init_19 (fun H hY hS0 => ?_)
  have hY : yS D dA vwCl wC 81 b _ _ H := hY
  refine y_putrF (t := 80) hx hb hts (z_memU u0) tyX0 tyX0_ok nmX0 hown hK.1 hY hS0 f0_2 (by decide) (zkd_of (rfl : zcd wC 78 = 30) rfl) (hts _ (z_mem k176)) rfl hin rfl (tyX0_ok 2 (by decide)) (fun _ => rfl) (fun _ => rfl) dX0_init_21 (fun H locs hY hS0 => ?_)
  refine lv_aload_n hx hb dX0_init_24 rfl (lv_at hl 0 rfl) ?_
  refine z_iconst hx hb dX0_init_25 ?_
  refine y_puti (z := 1) hx hb hts (z_memU u0) tyX0 tyX0_ok nmX0 hown hK.1 hY hS0 f0_3 (by decide) (zkd_of (rfl : zcd wC 78 = 30) rfl) (Or.inl (hts _ (z_mem k177))) rfl (by decide +kernel) (zbd_in (rfl : zcd wC 78 = 30) rfl (by decide)) dX0_init_26 (fun H locs hY hS0 => ?_)
  refine lv_aload_n hx hb dX0_init_29 rfl (lv_at hl 0 rfl) ?_
  refine z_iconst hx hb dX0_init_30 ?_
  refine y_puti (z := 0) hx hb hts (z_memU u0) tyX0 tyX0_ok nmX0 hown hK.1 hY hS0 f0_4 (by decide) (zkd_of (rfl : zcd wC 78 = 30) rfl) (Or.inl (hts _ (z_mem k178))) rfl (by decide +kernel) (zbd_in (rfl : zcd wC 78 = 30) rfl (by decide)) dX0_init_31 (fun H locs hY hS0 => ?_)
  refine lv_aload_n hx hb dX0_init_34 rfl (lv_at hl 0 rfl) ?_
  refine z_iconst hx hb dX0_init_35 ?_
  refine y_puti (z := 1) hx hb hts (z_memU u0) tyX0 tyX0_ok nmX0 hown hK.1 hY hS0 f0_5 (by decide) (zkd_of (rfl : zcd wC 78 = 30) rfl) (Or.inl (hts _ (z_mem k179))) rfl (by decide +kernel) (zbd_in (rfl : zcd wC 78 = 30) rfl (by decide)) dX0_init_36 (fun H locs hY hS0 => ?_)
  refine lv_aload_n hx hb dX0_init_39 rfl (lv_at hl 0 rfl) ?_
  refine z_iconst hx hb dX0_init_40 ?_
  refine y_puti (z := 0) hx hb hts (z_memU u0) tyX0 tyX0_ok nmX0 hown hK.1 hY hS0 f0_6 (by decide) (zkd_of (rfl : zcd wC 78 = 30) rfl) (Or.inl (hts _ (z_mem k180))) rfl (by decide +kernel) (zbd_in (rfl : zcd wC 78 = 30) rfl (by decide)) dX0_init_41 (fun H locs hY hS0 => ?_)
  refine lv_aload_n hx hb dX0_init_44 rfl (lv_at hl 0 rfl) ?_
  refine z_sipush hx hb (by decide) dX0_init_45 ?_
  refine y_newa (atype := .int) hx hb (hts _ (z_mem k53)) (t0 := 0) (N := 4001) (by decide) (by decide) (hK.1.2 0 _ rfl).2 rfl hY hS0 (zkd_of (rfl : zcd wC 81 = 33) rfl) (zln_of (rfl : zcd wC 81 = 33) rfl) (by decide) rfl (by decide) (by decide) (Nat.le_of_ble_eq_true rfl) (Nat.le_of_ble_eq_true rfl) dX0_init_48 (fun H hY hS0 => ?_)
  have hY : yS D dA vwCl wC 82 b _ _ H := hY
  refine y_putrF (t := 81) hx hb hts (z_memU u0) tyX0 tyX0_ok nmX0 hown hK.1 hY hS0 f0_7 (by decide) (zkd_of (rfl : zcd wC 78 = 30) rfl) (hts _ (z_mem k181)) rfl hin rfl (tyX0_ok 7 (by decide)) (fun _ => rfl) (fun _ => rfl) dX0_init_50 (fun H locs hY hS0 => ?_)
  refine lv_aload_n hx hb dX0_init_53 rfl (lv_at hl 0 rfl) ?_
  refine y_getr (t := 80) hx hb hts (z_memU u0) hown hK.1 hY f0_2 (by decide) (zkd_of (rfl : zcd wC 78 = 30) rfl) (tup_ne rfl tup_s) (Or.inl (hts _ (z_mem k176))) dX0_init_54 ?_
  refine z_bipush hx hb (by decide) dX0_init_57 ?_
  refine y_call (va_runS (As := [.ref (b + 80), .int (iI 100)]) (rest := []) ⟨hx, hb, hml, hown, hts⟩ (mk_fill l D dA b wC _ _ 82 80 10 100 (by decide) (zkd_of (rfl : zcd wC 80 = 32) rfl) (zln_of (rfl : zcd wC 80 = 32) rfl) (by decide) (by decide) (fun k => zbd_in (rfl : zcd wC 80 = 32) rfl (by decide))) (va_cwS 2 hts (z_gS k169 k170 k10 k171) rfl rfl rfl (by decide +kernel) ⟨(Nat.le_of_ble_eq_true rfl), (Nat.le_of_ble_eq_true rfl)⟩) ⟨yP_blind, y_pre hY hK hO⟩ rfl rfl hl.1 rfl (lv_room (Nat.le_of_ble_eq_true rfl)) dX0_init_59 ⟨(Nat.le_of_ble_eq_true rfl), (Nat.le_of_ble_eq_true rfl)⟩) hS0 (fun H locs hY hS0 => ?_)
  have hY : yS D dA vwCl wC 82 b _ _ H := hY
  exact y_ret hx hb hr hlocks hY hS0 dX0_init_62
end zz45_b11
section zz45_b12
def mT_C82 (T : zT) : zT := (tup (tup (tup T 82 0 83) 82 2 84) 82 3 85)
def mM_C82 (M : zM) : zM := (zup M 82 1 0)
set_option maxHeartbeats 4000000 in
set_option maxRecDepth 100000 in
theorem mk_C82 (l : Launch) (D : va_G) (dA : Nat → ClassId) (b : Nat) (M : zM) (T : zT) : Met l yX3_init (.code yX3_init cX3_init 1 none :: zt) (y_rm 1 3 108) (va_Pc [.ref (b + 82)] (yP D dA vwCl (z_tys dA) wC 83 b M T)) (va_Qv (fun _ => True) (yB D dA vwCl wC 86 b (mM_C82 M) (mT_C82 T)) (yA b)) 3 108 (yA b) := by
  refine Met.ofW (cc := cX3_init) (maxL := 1) (ret := none) (by decide) rfl ?_
  intro p e s m args below meth c s₁ B hml hv
  obtain ⟨hargs, hY, hK, hO⟩ := hv
  have hx := B.exec
  have hb := B.bytes
  have hr := B.returns
  have hts := atoms_spec (ws := .code yX3_init cX3_init 1 none :: zt) B.pre
  have hown : s.vm.findClass RX3 = some m.cls := findClass_of_methodNamed B.named
  have hlocks := B.notSynchronized
  have hin : meth.name = "<init>" := (name_of_methodNamed B.named B.method).1
  have hS0 : va_S (yA b) s.heap s.heap [] := va_S.rf
  have hl := lv_entry ([.ref (b + 82)]) (n := 1) (Nat.le_of_ble_eq_true rfl)
  have hent : entryFrame m args 1 = F0 m 0 ((lg_sl ([.ref (b + 82)]) ++ List.replicate (1 - (lg_sl ([.ref (b + 82)])).length) Slot.unset).toArray) [] := by rw [hargs]; exact lg_entry_eq m ([.ref (b + 82)]) 1
  rw [hent]
  generalize (lg_sl ([.ref (b + 82)]) ++ List.replicate (1 - (lg_sl ([.ref (b + 82)])).length) Slot.unset).toArray = ls at hl ⊢
  have hl : lv_has ls 1 [(0, .ref (b + 82))] := hl
  refine lv_aload_n hx hb dX3_init_0 rfl (lv_at hl 0 rfl) ?_
  refine W.objInit hx hb hown (hts _ (z_mem k194)) (hts _ (z_mem k28)) (hts _ (z_mem k29)) rfl (by rw [hml]; exact hl.1) rfl dX3_init_1 (Nat.le_of_ble_eq_true rfl) (Nat.le_of_ble_eq_true rfl) ?_
  refine W.eq (g2 := F0 m 4 ls []) rfl ?_
  refine lv_aload_n hx hb dX3_init_4 rfl (lv_at hl 0 rfl) ?_
  refine z_bipush hx hb (by decide) dX3_init_5 ?_
  refine y_newa (atype := .int) hx hb (hts _ (z_mem k53)) (t0 := 0) (N := 60) (by decide) (by decide) (hK.1.2 0 _ rfl).2 rfl hY hS0 (zkd_of (rfl : zcd wC 83 = 35) rfl) (zln_of (rfl : zcd wC 83 = 35) rfl) (by decide) rfl (by decide) (by decide) (Nat.le_of_ble_eq_true rfl) (Nat.le_of_ble_eq_true rfl) dX3_init_7 (fun H hY hS0 => ?_)
  have hY : yS D dA vwCl wC 84 b _ _ H := hY
  refine y_putrF (t := 83) hx hb hts (z_memU u3) tyX3 tyX3_ok nmX3 hown hK.1 hY hS0 f3_0 (by decide) (zkd_of (rfl : zcd wC 82 = 34) rfl) (hts _ (z_mem k195)) rfl hin rfl (tyX3_ok 0 (by decide)) (fun _ => rfl) (fun _ => rfl) dX3_init_9 (fun H locs hY hS0 => ?_)
  refine lv_aload_n hx hb dX3_init_12 rfl (lv_at hl 0 rfl) ?_
  refine z_iconst hx hb dX3_init_13 ?_
  refine y_puti (z := 0) hx hb hts (z_memU u3) tyX3 tyX3_ok nmX3 hown hK.1 hY hS0 f3_1 (by decide) (zkd_of (rfl : zcd wC 82 = 34) rfl) (Or.inl (hts _ (z_mem k196))) rfl (by decide +kernel) (zbd_in (rfl : zcd wC 82 = 34) rfl (by decide)) dX3_init_14 (fun H locs hY hS0 => ?_)
  refine lv_aload_n hx hb dX3_init_17 rfl (lv_at hl 0 rfl) ?_
  refine z_bipush hx hb (by decide) dX3_init_18 ?_
  refine y_newa (atype := .int) hx hb (hts _ (z_mem k53)) (t0 := 0) (N := 24) (by decide) (by decide) (hK.1.2 0 _ rfl).2 rfl hY hS0 (zkd_of (rfl : zcd wC 84 = 36) rfl) (zln_of (rfl : zcd wC 84 = 36) rfl) (by decide) rfl (by decide) (by decide) (Nat.le_of_ble_eq_true rfl) (Nat.le_of_ble_eq_true rfl) dX3_init_20 (fun H hY hS0 => ?_)
  have hY : yS D dA vwCl wC 85 b _ _ H := hY
  refine y_putrF (t := 84) hx hb hts (z_memU u3) tyX3 tyX3_ok nmX3 hown hK.1 hY hS0 f3_2 (by decide) (zkd_of (rfl : zcd wC 82 = 34) rfl) (hts _ (z_mem k198)) rfl hin rfl (tyX3_ok 2 (by decide)) (fun _ => rfl) (fun _ => rfl) dX3_init_22 (fun H locs hY hS0 => ?_)
  refine lv_aload_n hx hb dX3_init_25 rfl (lv_at hl 0 rfl) ?_
  refine z_bipush hx hb (by decide) dX3_init_26 ?_
  refine y_newa (atype := .int) hx hb (hts _ (z_mem k53)) (t0 := 0) (N := 24) (by decide) (by decide) (hK.1.2 0 _ rfl).2 rfl hY hS0 (zkd_of (rfl : zcd wC 85 = 37) rfl) (zln_of (rfl : zcd wC 85 = 37) rfl) (by decide) rfl (by decide) (by decide) (Nat.le_of_ble_eq_true rfl) (Nat.le_of_ble_eq_true rfl) dX3_init_28 (fun H hY hS0 => ?_)
  have hY : yS D dA vwCl wC 86 b _ _ H := hY
  refine y_putrF (t := 85) hx hb hts (z_memU u3) tyX3 tyX3_ok nmX3 hown hK.1 hY hS0 f3_3 (by decide) (zkd_of (rfl : zcd wC 82 = 34) rfl) (hts _ (z_mem k199)) rfl hin rfl (tyX3_ok 3 (by decide)) (fun _ => rfl) (fun _ => rfl) dX3_init_30 (fun H locs hY hS0 => ?_)
  exact y_ret hx hb hr hlocks hY hS0 dX3_init_33
end zz45_b12
section zz45_b13
def mT_C86 (T : zT) : zT := (tup (tup (tup (fun a c => if a = 88 ∧ c < 5 then some (88 + 1 + c) else (tup T 86 1 87) a c) 86 3 88) 86 4 94) 86 5 95)
def mM_C86 (M : zM) : zM := (zup (zup M 86 0 0) 86 2 0)
set_option maxHeartbeats 4000000 in
set_option maxRecDepth 100000 in
theorem mk_C86 (l : Launch) (D : va_G) (dA : Nat → ClassId) (b : Nat) (M : zM) (T : zT) : Met l yX4_init (.code yX4_init cX4_init 1 none :: zt) (y_rm 1 9 130) (va_Pc [.ref (b + 86)] (yP D dA vwCl (z_tys dA) wC 87 b M T)) (va_Qv (fun _ => True) (yB D dA vwCl wC 96 b (mM_C86 M) (mT_C86 T)) (yA b)) 9 130 (yA b) := by
  refine Met.ofW (cc := cX4_init) (maxL := 1) (ret := none) (by decide) rfl ?_
  intro p e s m args below meth c s₁ B hml hv
  obtain ⟨hargs, hY, hK, hO⟩ := hv
  have hx := B.exec
  have hb := B.bytes
  have hr := B.returns
  have hts := atoms_spec (ws := .code yX4_init cX4_init 1 none :: zt) B.pre
  have hown : s.vm.findClass RX4 = some m.cls := findClass_of_methodNamed B.named
  have hlocks := B.notSynchronized
  have hin : meth.name = "<init>" := (name_of_methodNamed B.named B.method).1
  have hS0 : va_S (yA b) s.heap s.heap [] := va_S.rf
  have hl := lv_entry ([.ref (b + 86)]) (n := 1) (Nat.le_of_ble_eq_true rfl)
  have hent : entryFrame m args 1 = F0 m 0 ((lg_sl ([.ref (b + 86)]) ++ List.replicate (1 - (lg_sl ([.ref (b + 86)])).length) Slot.unset).toArray) [] := by rw [hargs]; exact lg_entry_eq m ([.ref (b + 86)]) 1
  rw [hent]
  generalize (lg_sl ([.ref (b + 86)]) ++ List.replicate (1 - (lg_sl ([.ref (b + 86)])).length) Slot.unset).toArray = ls at hl ⊢
  have hl : lv_has ls 1 [(0, .ref (b + 86))] := hl
  refine lv_aload_n hx hb dX4_init_0 rfl (lv_at hl 0 rfl) ?_
  refine W.objInit hx hb hown (hts _ (z_mem k208)) (hts _ (z_mem k28)) (hts _ (z_mem k29)) rfl (by rw [hml]; exact hl.1) rfl dX4_init_1 (Nat.le_of_ble_eq_true rfl) (Nat.le_of_ble_eq_true rfl) ?_
  refine W.eq (g2 := F0 m 4 ls []) rfl ?_
  refine lv_aload_n hx hb dX4_init_4 rfl (lv_at hl 0 rfl) ?_
  refine z_iconst hx hb dX4_init_5 ?_
  refine y_puti (z := 0) hx hb hts (z_memU u4) tyX4 tyX4_ok nmX4 hown hK.1 hY hS0 f4_0 (by decide) (zkd_of (rfl : zcd wC 86 = 38) rfl) (Or.inl (hts _ (z_mem k210))) rfl (by decide +kernel) (zbd_in (rfl : zcd wC 86 = 38) rfl (by decide)) dX4_init_6 (fun H locs hY hS0 => ?_)
  refine lv_aload_n hx hb dX4_init_9 rfl (lv_at hl 0 rfl) ?_
  refine z_bipush hx hb (by decide) dX4_init_10 ?_
  refine y_newa (atype := .int) hx hb (hts _ (z_mem k53)) (t0 := 0) (N := 40) (by decide) (by decide) (hK.1.2 0 _ rfl).2 rfl hY hS0 (zkd_of (rfl : zcd wC 87 = 39) rfl) (zln_of (rfl : zcd wC 87 = 39) rfl) (by decide) rfl (by decide) (by decide) (Nat.le_of_ble_eq_true rfl) (Nat.le_of_ble_eq_true rfl) dX4_init_12 (fun H hY hS0 => ?_)
  have hY : yS D dA vwCl wC 88 b _ _ H := hY
  refine y_putrF (t := 87) hx hb hts (z_memU u4) tyX4 tyX4_ok nmX4 hown hK.1 hY hS0 f4_1 (by decide) (zkd_of (rfl : zcd wC 86 = 38) rfl) (hts _ (z_mem k212)) rfl hin rfl (tyX4_ok 1 (by decide)) (fun _ => rfl) (fun _ => rfl) dX4_init_14 (fun H locs hY hS0 => ?_)
  refine lv_aload_n hx hb dX4_init_17 rfl (lv_at hl 0 rfl) ?_
  refine z_iconst hx hb dX4_init_18 ?_
  refine y_puti (z := 0) hx hb hts (z_memU u4) tyX4 tyX4_ok nmX4 hown hK.1 hY hS0 f4_2 (by decide) (zkd_of (rfl : zcd wC 86 = 38) rfl) (Or.inl (hts _ (z_mem k214))) rfl (by decide +kernel) (zbd_in (rfl : zcd wC 86 = 38) rfl (by decide)) dX4_init_19 (fun H locs hY hS0 => ?_)
  refine lv_aload_n hx hb dX4_init_22 rfl (lv_at hl 0 rfl) ?_
  refine z_iconst hx hb dX4_init_23 ?_
  refine z_bipush hx hb (by decide) dX4_init_24 ?_
  refine y_mna (N := 5) (K := 8) hx hb hown (hts _ (z_mem k209)) hO.2.2.2 (hts _ (z_mem k53)) (hK.1.2 0 _ rfl).2 (hK.1.2 7 _ rfl).2 hY hS0 (zkd_of (rfl : zcd wC 88 = 40) rfl) (zln_of (rfl : zcd wC 88 = 40) rfl) (by decide +kernel) (by decide) (by decide) rfl rfl (by decide) (by decide) (by decide) (by decide) (by decide) (Nat.le_of_ble_eq_true rfl) (Nat.le_of_ble_eq_true rfl) dX4_init_26 (fun H hY hS0 => ?_)
  have hY : yS D dA vwCl wC 94 b _ _ H := hY
  refine y_putrF (t := 88) hx hb hts (z_memU u4) tyX4 tyX4_ok nmX4 hown hK.1 hY hS0 f4_3 (by decide) (zkd_of (rfl : zcd wC 86 = 38) rfl) (hts _ (z_mem k215)) rfl hin rfl (tyX4_ok 3 (by decide)) (fun _ => rfl) (fun _ => rfl) dX4_init_30 (fun H locs hY hS0 => ?_)
  refine lv_aload_n hx hb dX4_init_33 rfl (lv_at hl 0 rfl) ?_
  refine z_iconst hx hb dX4_init_34 ?_
  refine y_newa (atype := .int) hx hb (hts _ (z_mem k53)) (t0 := 0) (N := 5) (by decide) (by decide) (hK.1.2 0 _ rfl).2 rfl hY hS0 (zkd_of (rfl : zcd wC 94 = 42) rfl) (zln_of (rfl : zcd wC 94 = 42) rfl) (by decide) rfl (by decide) (by decide) (Nat.le_of_ble_eq_true rfl) (Nat.le_of_ble_eq_true rfl) dX4_init_35 (fun H hY hS0 => ?_)
  have hY : yS D dA vwCl wC 95 b _ _ H := hY
  refine y_putrF (t := 94) hx hb hts (z_memU u4) tyX4 tyX4_ok nmX4 hown hK.1 hY hS0 f4_4 (by decide) (zkd_of (rfl : zcd wC 86 = 38) rfl) (hts _ (z_mem k216)) rfl hin rfl (tyX4_ok 4 (by decide)) (fun _ => rfl) (fun _ => rfl) dX4_init_37 (fun H locs hY hS0 => ?_)
  refine lv_aload_n hx hb dX4_init_40 rfl (lv_at hl 0 rfl) ?_
  refine z_bipush hx hb (by decide) dX4_init_41 ?_
  refine y_newa (atype := .int) hx hb (hts _ (z_mem k53)) (t0 := 0) (N := 40) (by decide) (by decide) (hK.1.2 0 _ rfl).2 rfl hY hS0 (zkd_of (rfl : zcd wC 95 = 43) rfl) (zln_of (rfl : zcd wC 95 = 43) rfl) (by decide) rfl (by decide) (by decide) (Nat.le_of_ble_eq_true rfl) (Nat.le_of_ble_eq_true rfl) dX4_init_43 (fun H hY hS0 => ?_)
  have hY : yS D dA vwCl wC 96 b _ _ H := hY
  refine y_putrF (t := 95) hx hb hts (z_memU u4) tyX4 tyX4_ok nmX4 hown hK.1 hY hS0 f4_5 (by decide) (zkd_of (rfl : zcd wC 86 = 38) rfl) (hts _ (z_mem k217)) rfl hin rfl (tyX4_ok 5 (by decide)) (fun _ => rfl) (fun _ => rfl) dX4_init_45 (fun H locs hY hS0 => ?_)
  exact y_ret hx hb hr hlocks hY hS0 dX4_init_48
end zz45_b13
section zz45_b14
def mT_C96 (T : zT) : zT := (tup (tup (tup (tup (tup (tup (tup (tup (tup (tup (tup (tup (tup (tup (tup (tup (tup (tup (tup (tup (tup (tup (tup (tup (tup (tup (tup (tup (tup (tup (tup (tup (tup (tup (tup (tup T 96 1 97) 96 2 98) 96 3 99) 96 4 100) 101 0 102) 97 (0 : Int).toNat 101) 103 0 104) 97 (1 : Int).toNat 103) 105 0 106) 97 (2 : Int).toNat 105) 107 0 108) 97 (3 : Int).toNat 107) 109 0 110) 97 (4 : Int).toNat 109) 111 0 112) 97 (5 : Int).toNat 111) 113 0 114) 97 (6 : Int).toNat 113) 115 0 116) 97 (7 : Int).toNat 115) 117 0 118) 97 (8 : Int).toNat 117) 119 0 120) 97 (9 : Int).toNat 119) 121 0 122) 97 (10 : Int).toNat 121) 123 0 124) 97 (11 : Int).toNat 123) 125 0 126) 97 (12 : Int).toNat 125) 127 0 128) 97 (13 : Int).toNat 127) 129 0 130) 97 (14 : Int).toNat 129) 131 0 132) 97 (15 : Int).toNat 131)
def mM_C96 (M : zM) : zM := (zup (zup (zup (zup (zup (zup (zup (zup (zup (zup (zup (zup (zup (zup (zup (zup (zup M 96 0 0) 101 1 0) 103 1 0) 105 1 0) 107 1 0) 109 1 0) 111 1 0) 113 1 0) 115 1 0) 117 1 0) 119 1 0) 121 1 0) 123 1 0) 125 1 0) 127 1 0) 129 1 0) 131 1 0)
set_option maxHeartbeats 4000000 in
set_option maxRecDepth 100000 in
theorem mk_C96 (l : Launch) (D : va_G) (dA : Nat → ClassId) (b : Nat) (M : zM) (T : zT) : Met l yX10_init (.code yX10_init cX10_init 2 none :: zt) (y_rm 2 36 489) (va_Pc [.ref (b + 96)] (yP D dA vwCl (z_tys dA) wC 97 b M T)) (va_Qv (fun _ => True) (yB D dA vwCl wC 133 b (mM_C96 M) (mT_C96 T)) (yA b)) 36 489 (yA b) := by
  refine Met.ofW (cc := cX10_init) (maxL := 2) (ret := none) (by decide) rfl ?_
  intro p e s m args below meth c s₁ B hml hv
  obtain ⟨hargs, hY, hK, hO⟩ := hv
  have hx := B.exec
  have hb := B.bytes
  have hr := B.returns
  have hts := atoms_spec (ws := .code yX10_init cX10_init 2 none :: zt) B.pre
  have hown : s.vm.findClass RX10 = some m.cls := findClass_of_methodNamed B.named
  have hlocks := B.notSynchronized
  have hin : meth.name = "<init>" := (name_of_methodNamed B.named B.method).1
  have hS0 : va_S (yA b) s.heap s.heap [] := va_S.rf
  have hl := lv_entry ([.ref (b + 96)]) (n := 2) (Nat.le_of_ble_eq_true rfl)
  have hent : entryFrame m args 2 = F0 m 0 ((lg_sl ([.ref (b + 96)]) ++ List.replicate (2 - (lg_sl ([.ref (b + 96)])).length) Slot.unset).toArray) [] := by rw [hargs]; exact lg_entry_eq m ([.ref (b + 96)]) 2
  rw [hent]
  generalize (lg_sl ([.ref (b + 96)]) ++ List.replicate (2 - (lg_sl ([.ref (b + 96)])).length) Slot.unset).toArray = ls at hl ⊢
  have hl : lv_has ls 2 [(0, .ref (b + 96))] := hl
  refine lv_aload_n hx hb dX10_init_0 rfl (lv_at hl 0 rfl) ?_
  refine W.objInit hx hb hown (hts _ (z_mem k229)) (hts _ (z_mem k28)) (hts _ (z_mem k29)) rfl (by rw [hml]; exact hl.1) rfl dX10_init_1 (Nat.le_of_ble_eq_true rfl) (Nat.le_of_ble_eq_true rfl) ?_
  refine W.eq (g2 := F0 m 4 ls []) rfl ?_
  refine lv_aload_n hx hb dX10_init_4 rfl (lv_at hl 0 rfl) ?_
  refine z_iconst hx hb dX10_init_5 ?_
  refine y_puti (z := 0) hx hb hts (z_memU u10) tyX10 tyX10_ok nmX10 hown hK.1 hY hS0 f10_0 (by decide) (zkd_of (rfl : zcd wC 96 = 44) rfl) (Or.inl (hts _ (z_mem k231))) rfl (by decide +kernel) (zbd_in (rfl : zcd wC 96 = 44) rfl (by decide)) dX10_init_6 (fun H locs hY hS0 => ?_)
  refine lv_aload_n hx hb dX10_init_9 rfl (lv_at hl 0 rfl) ?_
  refine z_bipush hx hb (by decide) dX10_init_10 ?_
  refine y_newq (C := "TapeRings$Strip") (t0 := 4) (N := 16) hx hb hown (hts _ (z_mem k230)) hO.1 (by decide) (hK.1.2 4 _ rfl).2 hY hS0 (zkd_of (rfl : zcd wC 97 = 45) rfl) (zln_of (rfl : zcd wC 97 = 45) rfl) (by decide) rfl (by decide) (by decide) (Nat.le_of_ble_eq_true rfl) (Nat.le_of_ble_eq_true rfl) dX10_init_12 (fun H hY hS0 => ?_)
  have hY : yS D dA vwCl wC 98 b _ _ H := hY
  refine y_putrF (t := 97) hx hb hts (z_memU u10) tyX10 tyX10_ok nmX10 hown hK.1 hY hS0 f10_1 (by decide) (zkd_of (rfl : zcd wC 96 = 44) rfl) (hts _ (z_mem k233)) rfl hin rfl (tyX10_ok 1 (by decide)) (fun _ => rfl) (fun _ => rfl) dX10_init_15 (fun H locs hY hS0 => ?_)
  refine lv_aload_n hx hb dX10_init_18 rfl (lv_at hl 0 rfl) ?_
  refine z_bipush hx hb (by decide) dX10_init_19 ?_
  refine y_newa (atype := .int) hx hb (hts _ (z_mem k53)) (t0 := 0) (N := 16) (by decide) (by decide) (hK.1.2 0 _ rfl).2 rfl hY hS0 (zkd_of (rfl : zcd wC 98 = 46) rfl) (zln_of (rfl : zcd wC 98 = 46) rfl) (by decide) rfl (by decide) (by decide) (Nat.le_of_ble_eq_true rfl) (Nat.le_of_ble_eq_true rfl) dX10_init_21 (fun H hY hS0 => ?_)
  have hY : yS D dA vwCl wC 99 b _ _ H := hY
  refine y_putrF (t := 98) hx hb hts (z_memU u10) tyX10 tyX10_ok nmX10 hown hK.1 hY hS0 f10_2 (by decide) (zkd_of (rfl : zcd wC 96 = 44) rfl) (hts _ (z_mem k234)) rfl hin rfl (tyX10_ok 2 (by decide)) (fun _ => rfl) (fun _ => rfl) dX10_init_23 (fun H locs hY hS0 => ?_)
  refine lv_aload_n hx hb dX10_init_26 rfl (lv_at hl 0 rfl) ?_
  refine z_bipush hx hb (by decide) dX10_init_27 ?_
  refine y_newa (atype := .int) hx hb (hts _ (z_mem k53)) (t0 := 0) (N := 16) (by decide) (by decide) (hK.1.2 0 _ rfl).2 rfl hY hS0 (zkd_of (rfl : zcd wC 99 = 47) rfl) (zln_of (rfl : zcd wC 99 = 47) rfl) (by decide) rfl (by decide) (by decide) (Nat.le_of_ble_eq_true rfl) (Nat.le_of_ble_eq_true rfl) dX10_init_29 (fun H hY hS0 => ?_)
  have hY : yS D dA vwCl wC 100 b _ _ H := hY
  refine y_putrF (t := 99) hx hb hts (z_memU u10) tyX10 tyX10_ok nmX10 hown hK.1 hY hS0 f10_3 (by decide) (zkd_of (rfl : zcd wC 96 = 44) rfl) (hts _ (z_mem k235)) rfl hin rfl (tyX10_ok 3 (by decide)) (fun _ => rfl) (fun _ => rfl) dX10_init_31 (fun H locs hY hS0 => ?_)
  refine lv_aload_n hx hb dX10_init_34 rfl (lv_at hl 0 rfl) ?_
  refine z_bipush hx hb (by decide) dX10_init_35 ?_
  refine y_newa (atype := .int) hx hb (hts _ (z_mem k53)) (t0 := 0) (N := 25) (by decide) (by decide) (hK.1.2 0 _ rfl).2 rfl hY hS0 (zkd_of (rfl : zcd wC 100 = 48) rfl) (zln_of (rfl : zcd wC 100 = 48) rfl) (by decide) rfl (by decide) (by decide) (Nat.le_of_ble_eq_true rfl) (Nat.le_of_ble_eq_true rfl) dX10_init_37 (fun H hY hS0 => ?_)
  have hY : yS D dA vwCl wC 101 b _ _ H := hY
  refine y_putrF (t := 100) hx hb hts (z_memU u10) tyX10 tyX10_ok nmX10 hown hK.1 hY hS0 f10_4 (by decide) (zkd_of (rfl : zcd wC 96 = 44) rfl) (hts _ (z_mem k236)) rfl hin rfl (tyX10_ok 4 (by decide)) (fun _ => rfl) (fun _ => rfl) dX10_init_39 (fun H locs hY hS0 => ?_)
  refine z_iconst hx hb dX10_init_42 ?_
  refine lv_istore_n (lv' := [(1, .int (iI 0)), (0, .ref (b + 96))]) hx hb dX10_init_43 rfl hl (by decide) rfl (fun ls hl => ?_)
  refine lv_iload_n hx hb dX10_init_44 rfl (lv_at hl 0 rfl) ?_
  refine z_bipush hx hb (by decide) dX10_init_45 ?_
  refine z_icmp_ge (tgt := 69) hx hb (by decide) (by decide) dX10_init_47 (by decide) (fun c9 => absurd c9 (by decide)) (fun _ => ?_)
  refine lv_aload_n hx hb dX10_init_50 rfl (lv_at hl 1 rfl) ?_
  refine y_getr (t := 97) hx hb hts (z_memU u10) hown hK.1 hY f10_1 (by decide) (zkd_of (rfl : zcd wC 96 = 44) rfl) (tup_ne rfl (tup_ne rfl (tup_ne rfl tup_s))) (Or.inl (hts _ (z_mem k233))) dX10_init_51 ?_
  refine lv_iload_n hx hb dX10_init_54 rfl (lv_at hl 0 rfl) ?_
  refine y_new hx hb hts (z_memU u8) tyX8 tyX8_ok hown (hts _ (z_mem k230)) (hts _ (z_mem k37)) (hts _ (z_mem k3)) hK.1 hY hS0 (rfl : vwCl[8]? = some (RX8, TX8, 2)) (by decide) (zkd_of (rfl : zcd wC 101 = 6) rfl) rfl (fun k hk => by rcases (show k = 0 ∨ k = 1 by omega) with rfl | rfl <;> rfl) (Nat.le_of_ble_eq_true rfl) (Nat.le_of_ble_eq_true rfl) dX10_init_55 (fun H hY hS0 => ?_)
  have hY : yS D dA vwCl wC 102 b _ _ H := hY
  refine lv_dup hx hb dX10_init_58 rfl ?_
  have hnw := hK.2 (RX10, 31, yX8_init, RX11) (List.mem_of_getElem? (i := 9) rfl)
  refine y_call (va_runIN (As := []) (rest := [.ref (b + 101), .int (iI 0), .ref (b + 97)]) ⟨hx, hb, hml, hown, hts⟩ (mk_Strip l D dA b _ _ 102 101 (by decide) (rfl : zcd wC 101 = 6) (rfl : zcd wC 102 = 7)) ⟨va_cnB 0 hts (z_gN k39) rfl rfl rfl hnw (hts _ (z_mem k3)) (by decide +kernel) ⟨(Nat.le_of_ble_eq_true rfl), (Nat.le_of_ble_eq_true rfl)⟩, rfl, (hts _ (z_mem k38))⟩ ⟨yP_blind, y_pre hY hK hO⟩ rfl rfl hl.1 rfl (lv_room (Nat.le_of_ble_eq_true rfl)) dX10_init_59 ⟨(Nat.le_of_ble_eq_true rfl), (Nat.le_of_ble_eq_true rfl)⟩) hS0 (fun H locs hY hS0 => ?_)
  have hY : yS D dA vwCl wC 103 b _ _ H := hY
  refine y_aast (t0 := 4) (N := 16) (i := 0) hx hb hK.1 (by decide) (hK.1.2 4 _ rfl).2 (rfl : vwCl[8]? = some (RX8, TX8, 2)) (by decide) hY hS0 (by decide) (zkd_of (rfl : zcd wC 97 = 45) rfl) (zln_of (rfl : zcd wC 97 = 45) rfl) (by decide) (zkd_of (rfl : zcd wC 101 = 6) rfl) (by decide) (by decide) (by decide) dX10_init_62 (fun H locs hY hS0 => ?_)
  refine z_iinc (lv' := [(1, .int (iI (0 + 1))), (0, .ref (b + 96))]) hx hb dX10_init_63 hl (k := 0) rfl (by decide) rfl (fun ls hl => ?_)
  rw [show ((0 + 1) : Int) = 1 from by decide] at hl
  refine lv_goto (tgt := 44) hx hb dX10_init_66 (by decide) ?_
  refine lv_iload_n hx hb dX10_init_44 rfl (lv_at hl 0 rfl) ?_
  refine z_bipush hx hb (by decide) dX10_init_45 ?_
  refine z_icmp_ge (tgt := 69) hx hb (by decide) (by decide) dX10_init_47 (by decide) (fun c9 => absurd c9 (by decide)) (fun _ => ?_)
  refine lv_aload_n hx hb dX10_init_50 rfl (lv_at hl 1 rfl) ?_
  refine y_getr (t := 97) hx hb hts (z_memU u10) hown hK.1 hY f10_1 (by decide) (zkd_of (rfl : zcd wC 96 = 44) rfl) (tup_ne rfl (tup_ne rfl (tup_ne rfl (tup_ne rfl (tup_ne rfl tup_s))))) (Or.inl (hts _ (z_mem k233))) dX10_init_51 ?_
  refine lv_iload_n hx hb dX10_init_54 rfl (lv_at hl 0 rfl) ?_
  refine y_new hx hb hts (z_memU u8) tyX8 tyX8_ok hown (hts _ (z_mem k230)) (hts _ (z_mem k37)) (hts _ (z_mem k3)) hK.1 hY hS0 (rfl : vwCl[8]? = some (RX8, TX8, 2)) (by decide) (zkd_of (rfl : zcd wC 103 = 6) rfl) rfl (fun k hk => by rcases (show k = 0 ∨ k = 1 by omega) with rfl | rfl <;> rfl) (Nat.le_of_ble_eq_true rfl) (Nat.le_of_ble_eq_true rfl) dX10_init_55 (fun H hY hS0 => ?_)
  have hY : yS D dA vwCl wC 104 b _ _ H := hY
  refine lv_dup hx hb dX10_init_58 rfl ?_
  have hnw := hK.2 (RX10, 31, yX8_init, RX11) (List.mem_of_getElem? (i := 9) rfl)
  refine y_call (va_runIN (As := []) (rest := [.ref (b + 103), .int (iI 1), .ref (b + 97)]) ⟨hx, hb, hml, hown, hts⟩ (mk_Strip l D dA b _ _ 104 103 (by decide) (rfl : zcd wC 103 = 6) (rfl : zcd wC 104 = 7)) ⟨va_cnB 0 hts (z_gN k39) rfl rfl rfl hnw (hts _ (z_mem k3)) (by decide +kernel) ⟨(Nat.le_of_ble_eq_true rfl), (Nat.le_of_ble_eq_true rfl)⟩, rfl, (hts _ (z_mem k38))⟩ ⟨yP_blind, y_pre hY hK hO⟩ rfl rfl hl.1 rfl (lv_room (Nat.le_of_ble_eq_true rfl)) dX10_init_59 ⟨(Nat.le_of_ble_eq_true rfl), (Nat.le_of_ble_eq_true rfl)⟩) hS0 (fun H locs hY hS0 => ?_)
  have hY : yS D dA vwCl wC 105 b _ _ H := hY
  refine y_aast (t0 := 4) (N := 16) (i := 1) hx hb hK.1 (by decide) (hK.1.2 4 _ rfl).2 (rfl : vwCl[8]? = some (RX8, TX8, 2)) (by decide) hY hS0 (by decide) (zkd_of (rfl : zcd wC 97 = 45) rfl) (zln_of (rfl : zcd wC 97 = 45) rfl) (by decide) (zkd_of (rfl : zcd wC 103 = 6) rfl) (by decide) (by decide) (by decide) dX10_init_62 (fun H locs hY hS0 => ?_)
  refine z_iinc (lv' := [(1, .int (iI (1 + 1))), (0, .ref (b + 96))]) hx hb dX10_init_63 hl (k := 0) rfl (by decide) rfl (fun ls hl => ?_)
  rw [show ((1 + 1) : Int) = 2 from by decide] at hl
  refine lv_goto (tgt := 44) hx hb dX10_init_66 (by decide) ?_
  refine lv_iload_n hx hb dX10_init_44 rfl (lv_at hl 0 rfl) ?_
  refine z_bipush hx hb (by decide) dX10_init_45 ?_
  refine z_icmp_ge (tgt := 69) hx hb (by decide) (by decide) dX10_init_47 (by decide) (fun c9 => absurd c9 (by decide)) (fun _ => ?_)
  refine lv_aload_n hx hb dX10_init_50 rfl (lv_at hl 1 rfl) ?_
  refine y_getr (t := 97) hx hb hts (z_memU u10) hown hK.1 hY f10_1 (by decide) (zkd_of (rfl : zcd wC 96 = 44) rfl) (tup_ne rfl (tup_ne rfl (tup_ne rfl (tup_ne rfl (tup_ne rfl (tup_ne rfl (tup_ne rfl tup_s))))))) (Or.inl (hts _ (z_mem k233))) dX10_init_51 ?_
  refine lv_iload_n hx hb dX10_init_54 rfl (lv_at hl 0 rfl) ?_
  refine y_new hx hb hts (z_memU u8) tyX8 tyX8_ok hown (hts _ (z_mem k230)) (hts _ (z_mem k37)) (hts _ (z_mem k3)) hK.1 hY hS0 (rfl : vwCl[8]? = some (RX8, TX8, 2)) (by decide) (zkd_of (rfl : zcd wC 105 = 6) rfl) rfl (fun k hk => by rcases (show k = 0 ∨ k = 1 by omega) with rfl | rfl <;> rfl) (Nat.le_of_ble_eq_true rfl) (Nat.le_of_ble_eq_true rfl) dX10_init_55 (fun H hY hS0 => ?_)
  have hY : yS D dA vwCl wC 106 b _ _ H := hY
  refine lv_dup hx hb dX10_init_58 rfl ?_
  have hnw := hK.2 (RX10, 31, yX8_init, RX11) (List.mem_of_getElem? (i := 9) rfl)
  refine y_call (va_runIN (As := []) (rest := [.ref (b + 105), .int (iI 2), .ref (b + 97)]) ⟨hx, hb, hml, hown, hts⟩ (mk_Strip l D dA b _ _ 106 105 (by decide) (rfl : zcd wC 105 = 6) (rfl : zcd wC 106 = 7)) ⟨va_cnB 0 hts (z_gN k39) rfl rfl rfl hnw (hts _ (z_mem k3)) (by decide +kernel) ⟨(Nat.le_of_ble_eq_true rfl), (Nat.le_of_ble_eq_true rfl)⟩, rfl, (hts _ (z_mem k38))⟩ ⟨yP_blind, y_pre hY hK hO⟩ rfl rfl hl.1 rfl (lv_room (Nat.le_of_ble_eq_true rfl)) dX10_init_59 ⟨(Nat.le_of_ble_eq_true rfl), (Nat.le_of_ble_eq_true rfl)⟩) hS0 (fun H locs hY hS0 => ?_)
  have hY : yS D dA vwCl wC 107 b _ _ H := hY
  refine y_aast (t0 := 4) (N := 16) (i := 2) hx hb hK.1 (by decide) (hK.1.2 4 _ rfl).2 (rfl : vwCl[8]? = some (RX8, TX8, 2)) (by decide) hY hS0 (by decide) (zkd_of (rfl : zcd wC 97 = 45) rfl) (zln_of (rfl : zcd wC 97 = 45) rfl) (by decide) (zkd_of (rfl : zcd wC 105 = 6) rfl) (by decide) (by decide) (by decide) dX10_init_62 (fun H locs hY hS0 => ?_)
  refine z_iinc (lv' := [(1, .int (iI (2 + 1))), (0, .ref (b + 96))]) hx hb dX10_init_63 hl (k := 0) rfl (by decide) rfl (fun ls hl => ?_)
  rw [show ((2 + 1) : Int) = 3 from by decide] at hl
  refine lv_goto (tgt := 44) hx hb dX10_init_66 (by decide) ?_
  refine lv_iload_n hx hb dX10_init_44 rfl (lv_at hl 0 rfl) ?_
  refine z_bipush hx hb (by decide) dX10_init_45 ?_
  refine z_icmp_ge (tgt := 69) hx hb (by decide) (by decide) dX10_init_47 (by decide) (fun c9 => absurd c9 (by decide)) (fun _ => ?_)
  refine lv_aload_n hx hb dX10_init_50 rfl (lv_at hl 1 rfl) ?_
  refine y_getr (t := 97) hx hb hts (z_memU u10) hown hK.1 hY f10_1 (by decide) (zkd_of (rfl : zcd wC 96 = 44) rfl) (tup_ne rfl (tup_ne rfl (tup_ne rfl (tup_ne rfl (tup_ne rfl (tup_ne rfl (tup_ne rfl (tup_ne rfl (tup_ne rfl tup_s))))))))) (Or.inl (hts _ (z_mem k233))) dX10_init_51 ?_
  refine lv_iload_n hx hb dX10_init_54 rfl (lv_at hl 0 rfl) ?_
  refine y_new hx hb hts (z_memU u8) tyX8 tyX8_ok hown (hts _ (z_mem k230)) (hts _ (z_mem k37)) (hts _ (z_mem k3)) hK.1 hY hS0 (rfl : vwCl[8]? = some (RX8, TX8, 2)) (by decide) (zkd_of (rfl : zcd wC 107 = 6) rfl) rfl (fun k hk => by rcases (show k = 0 ∨ k = 1 by omega) with rfl | rfl <;> rfl) (Nat.le_of_ble_eq_true rfl) (Nat.le_of_ble_eq_true rfl) dX10_init_55 (fun H hY hS0 => ?_)
  have hY : yS D dA vwCl wC 108 b _ _ H := hY
  refine lv_dup hx hb dX10_init_58 rfl ?_
  have hnw := hK.2 (RX10, 31, yX8_init, RX11) (List.mem_of_getElem? (i := 9) rfl)
  refine y_call (va_runIN (As := []) (rest := [.ref (b + 107), .int (iI 3), .ref (b + 97)]) ⟨hx, hb, hml, hown, hts⟩ (mk_Strip l D dA b _ _ 108 107 (by decide) (rfl : zcd wC 107 = 6) (rfl : zcd wC 108 = 7)) ⟨va_cnB 0 hts (z_gN k39) rfl rfl rfl hnw (hts _ (z_mem k3)) (by decide +kernel) ⟨(Nat.le_of_ble_eq_true rfl), (Nat.le_of_ble_eq_true rfl)⟩, rfl, (hts _ (z_mem k38))⟩ ⟨yP_blind, y_pre hY hK hO⟩ rfl rfl hl.1 rfl (lv_room (Nat.le_of_ble_eq_true rfl)) dX10_init_59 ⟨(Nat.le_of_ble_eq_true rfl), (Nat.le_of_ble_eq_true rfl)⟩) hS0 (fun H locs hY hS0 => ?_)
  have hY : yS D dA vwCl wC 109 b _ _ H := hY
  refine y_aast (t0 := 4) (N := 16) (i := 3) hx hb hK.1 (by decide) (hK.1.2 4 _ rfl).2 (rfl : vwCl[8]? = some (RX8, TX8, 2)) (by decide) hY hS0 (by decide) (zkd_of (rfl : zcd wC 97 = 45) rfl) (zln_of (rfl : zcd wC 97 = 45) rfl) (by decide) (zkd_of (rfl : zcd wC 107 = 6) rfl) (by decide) (by decide) (by decide) dX10_init_62 (fun H locs hY hS0 => ?_)
  refine z_iinc (lv' := [(1, .int (iI (3 + 1))), (0, .ref (b + 96))]) hx hb dX10_init_63 hl (k := 0) rfl (by decide) rfl (fun ls hl => ?_)
  rw [show ((3 + 1) : Int) = 4 from by decide] at hl
  refine lv_goto (tgt := 44) hx hb dX10_init_66 (by decide) ?_
  refine lv_iload_n hx hb dX10_init_44 rfl (lv_at hl 0 rfl) ?_
  refine z_bipush hx hb (by decide) dX10_init_45 ?_
  refine z_icmp_ge (tgt := 69) hx hb (by decide) (by decide) dX10_init_47 (by decide) (fun c9 => absurd c9 (by decide)) (fun _ => ?_)
  refine lv_aload_n hx hb dX10_init_50 rfl (lv_at hl 1 rfl) ?_
  refine y_getr (t := 97) hx hb hts (z_memU u10) hown hK.1 hY f10_1 (by decide) (zkd_of (rfl : zcd wC 96 = 44) rfl) (tup_ne rfl (tup_ne rfl (tup_ne rfl (tup_ne rfl (tup_ne rfl (tup_ne rfl (tup_ne rfl (tup_ne rfl (tup_ne rfl (tup_ne rfl (tup_ne rfl tup_s))))))))))) (Or.inl (hts _ (z_mem k233))) dX10_init_51 ?_
  refine lv_iload_n hx hb dX10_init_54 rfl (lv_at hl 0 rfl) ?_
  refine y_new hx hb hts (z_memU u8) tyX8 tyX8_ok hown (hts _ (z_mem k230)) (hts _ (z_mem k37)) (hts _ (z_mem k3)) hK.1 hY hS0 (rfl : vwCl[8]? = some (RX8, TX8, 2)) (by decide) (zkd_of (rfl : zcd wC 109 = 6) rfl) rfl (fun k hk => by rcases (show k = 0 ∨ k = 1 by omega) with rfl | rfl <;> rfl) (Nat.le_of_ble_eq_true rfl) (Nat.le_of_ble_eq_true rfl) dX10_init_55 (fun H hY hS0 => ?_)
  have hY : yS D dA vwCl wC 110 b _ _ H := hY
  refine lv_dup hx hb dX10_init_58 rfl ?_
  have hnw := hK.2 (RX10, 31, yX8_init, RX11) (List.mem_of_getElem? (i := 9) rfl)
  refine y_call (va_runIN (As := []) (rest := [.ref (b + 109), .int (iI 4), .ref (b + 97)]) ⟨hx, hb, hml, hown, hts⟩ (mk_Strip l D dA b _ _ 110 109 (by decide) (rfl : zcd wC 109 = 6) (rfl : zcd wC 110 = 7)) ⟨va_cnB 0 hts (z_gN k39) rfl rfl rfl hnw (hts _ (z_mem k3)) (by decide +kernel) ⟨(Nat.le_of_ble_eq_true rfl), (Nat.le_of_ble_eq_true rfl)⟩, rfl, (hts _ (z_mem k38))⟩ ⟨yP_blind, y_pre hY hK hO⟩ rfl rfl hl.1 rfl (lv_room (Nat.le_of_ble_eq_true rfl)) dX10_init_59 ⟨(Nat.le_of_ble_eq_true rfl), (Nat.le_of_ble_eq_true rfl)⟩) hS0 (fun H locs hY hS0 => ?_)
  have hY : yS D dA vwCl wC 111 b _ _ H := hY
  refine y_aast (t0 := 4) (N := 16) (i := 4) hx hb hK.1 (by decide) (hK.1.2 4 _ rfl).2 (rfl : vwCl[8]? = some (RX8, TX8, 2)) (by decide) hY hS0 (by decide) (zkd_of (rfl : zcd wC 97 = 45) rfl) (zln_of (rfl : zcd wC 97 = 45) rfl) (by decide) (zkd_of (rfl : zcd wC 109 = 6) rfl) (by decide) (by decide) (by decide) dX10_init_62 (fun H locs hY hS0 => ?_)
  refine z_iinc (lv' := [(1, .int (iI (4 + 1))), (0, .ref (b + 96))]) hx hb dX10_init_63 hl (k := 0) rfl (by decide) rfl (fun ls hl => ?_)
  rw [show ((4 + 1) : Int) = 5 from by decide] at hl
  refine lv_goto (tgt := 44) hx hb dX10_init_66 (by decide) ?_
  refine lv_iload_n hx hb dX10_init_44 rfl (lv_at hl 0 rfl) ?_
  refine z_bipush hx hb (by decide) dX10_init_45 ?_
  refine z_icmp_ge (tgt := 69) hx hb (by decide) (by decide) dX10_init_47 (by decide) (fun c9 => absurd c9 (by decide)) (fun _ => ?_)
  refine lv_aload_n hx hb dX10_init_50 rfl (lv_at hl 1 rfl) ?_
  refine y_getr (t := 97) hx hb hts (z_memU u10) hown hK.1 hY f10_1 (by decide) (zkd_of (rfl : zcd wC 96 = 44) rfl) (tup_ne rfl (tup_ne rfl (tup_ne rfl (tup_ne rfl (tup_ne rfl (tup_ne rfl (tup_ne rfl (tup_ne rfl (tup_ne rfl (tup_ne rfl (tup_ne rfl (tup_ne rfl (tup_ne rfl tup_s))))))))))))) (Or.inl (hts _ (z_mem k233))) dX10_init_51 ?_
  refine lv_iload_n hx hb dX10_init_54 rfl (lv_at hl 0 rfl) ?_
  refine y_new hx hb hts (z_memU u8) tyX8 tyX8_ok hown (hts _ (z_mem k230)) (hts _ (z_mem k37)) (hts _ (z_mem k3)) hK.1 hY hS0 (rfl : vwCl[8]? = some (RX8, TX8, 2)) (by decide) (zkd_of (rfl : zcd wC 111 = 6) rfl) rfl (fun k hk => by rcases (show k = 0 ∨ k = 1 by omega) with rfl | rfl <;> rfl) (Nat.le_of_ble_eq_true rfl) (Nat.le_of_ble_eq_true rfl) dX10_init_55 (fun H hY hS0 => ?_)
  have hY : yS D dA vwCl wC 112 b _ _ H := hY
  refine lv_dup hx hb dX10_init_58 rfl ?_
  have hnw := hK.2 (RX10, 31, yX8_init, RX11) (List.mem_of_getElem? (i := 9) rfl)
  refine y_call (va_runIN (As := []) (rest := [.ref (b + 111), .int (iI 5), .ref (b + 97)]) ⟨hx, hb, hml, hown, hts⟩ (mk_Strip l D dA b _ _ 112 111 (by decide) (rfl : zcd wC 111 = 6) (rfl : zcd wC 112 = 7)) ⟨va_cnB 0 hts (z_gN k39) rfl rfl rfl hnw (hts _ (z_mem k3)) (by decide +kernel) ⟨(Nat.le_of_ble_eq_true rfl), (Nat.le_of_ble_eq_true rfl)⟩, rfl, (hts _ (z_mem k38))⟩ ⟨yP_blind, y_pre hY hK hO⟩ rfl rfl hl.1 rfl (lv_room (Nat.le_of_ble_eq_true rfl)) dX10_init_59 ⟨(Nat.le_of_ble_eq_true rfl), (Nat.le_of_ble_eq_true rfl)⟩) hS0 (fun H locs hY hS0 => ?_)
  have hY : yS D dA vwCl wC 113 b _ _ H := hY
  refine y_aast (t0 := 4) (N := 16) (i := 5) hx hb hK.1 (by decide) (hK.1.2 4 _ rfl).2 (rfl : vwCl[8]? = some (RX8, TX8, 2)) (by decide) hY hS0 (by decide) (zkd_of (rfl : zcd wC 97 = 45) rfl) (zln_of (rfl : zcd wC 97 = 45) rfl) (by decide) (zkd_of (rfl : zcd wC 111 = 6) rfl) (by decide) (by decide) (by decide) dX10_init_62 (fun H locs hY hS0 => ?_)
  refine z_iinc (lv' := [(1, .int (iI (5 + 1))), (0, .ref (b + 96))]) hx hb dX10_init_63 hl (k := 0) rfl (by decide) rfl (fun ls hl => ?_)
  rw [show ((5 + 1) : Int) = 6 from by decide] at hl
  refine lv_goto (tgt := 44) hx hb dX10_init_66 (by decide) ?_
  refine lv_iload_n hx hb dX10_init_44 rfl (lv_at hl 0 rfl) ?_
  refine z_bipush hx hb (by decide) dX10_init_45 ?_
  refine z_icmp_ge (tgt := 69) hx hb (by decide) (by decide) dX10_init_47 (by decide) (fun c9 => absurd c9 (by decide)) (fun _ => ?_)
  refine lv_aload_n hx hb dX10_init_50 rfl (lv_at hl 1 rfl) ?_
  refine y_getr (t := 97) hx hb hts (z_memU u10) hown hK.1 hY f10_1 (by decide) (zkd_of (rfl : zcd wC 96 = 44) rfl) (tup_ne rfl (tup_ne rfl (tup_ne rfl (tup_ne rfl (tup_ne rfl (tup_ne rfl (tup_ne rfl (tup_ne rfl (tup_ne rfl (tup_ne rfl (tup_ne rfl (tup_ne rfl (tup_ne rfl (tup_ne rfl (tup_ne rfl tup_s))))))))))))))) (Or.inl (hts _ (z_mem k233))) dX10_init_51 ?_
  refine lv_iload_n hx hb dX10_init_54 rfl (lv_at hl 0 rfl) ?_
  refine y_new hx hb hts (z_memU u8) tyX8 tyX8_ok hown (hts _ (z_mem k230)) (hts _ (z_mem k37)) (hts _ (z_mem k3)) hK.1 hY hS0 (rfl : vwCl[8]? = some (RX8, TX8, 2)) (by decide) (zkd_of (rfl : zcd wC 113 = 6) rfl) rfl (fun k hk => by rcases (show k = 0 ∨ k = 1 by omega) with rfl | rfl <;> rfl) (Nat.le_of_ble_eq_true rfl) (Nat.le_of_ble_eq_true rfl) dX10_init_55 (fun H hY hS0 => ?_)
  have hY : yS D dA vwCl wC 114 b _ _ H := hY
  refine lv_dup hx hb dX10_init_58 rfl ?_
  have hnw := hK.2 (RX10, 31, yX8_init, RX11) (List.mem_of_getElem? (i := 9) rfl)
  refine y_call (va_runIN (As := []) (rest := [.ref (b + 113), .int (iI 6), .ref (b + 97)]) ⟨hx, hb, hml, hown, hts⟩ (mk_Strip l D dA b _ _ 114 113 (by decide) (rfl : zcd wC 113 = 6) (rfl : zcd wC 114 = 7)) ⟨va_cnB 0 hts (z_gN k39) rfl rfl rfl hnw (hts _ (z_mem k3)) (by decide +kernel) ⟨(Nat.le_of_ble_eq_true rfl), (Nat.le_of_ble_eq_true rfl)⟩, rfl, (hts _ (z_mem k38))⟩ ⟨yP_blind, y_pre hY hK hO⟩ rfl rfl hl.1 rfl (lv_room (Nat.le_of_ble_eq_true rfl)) dX10_init_59 ⟨(Nat.le_of_ble_eq_true rfl), (Nat.le_of_ble_eq_true rfl)⟩) hS0 (fun H locs hY hS0 => ?_)
  have hY : yS D dA vwCl wC 115 b _ _ H := hY
  refine y_aast (t0 := 4) (N := 16) (i := 6) hx hb hK.1 (by decide) (hK.1.2 4 _ rfl).2 (rfl : vwCl[8]? = some (RX8, TX8, 2)) (by decide) hY hS0 (by decide) (zkd_of (rfl : zcd wC 97 = 45) rfl) (zln_of (rfl : zcd wC 97 = 45) rfl) (by decide) (zkd_of (rfl : zcd wC 113 = 6) rfl) (by decide) (by decide) (by decide) dX10_init_62 (fun H locs hY hS0 => ?_)
  refine z_iinc (lv' := [(1, .int (iI (6 + 1))), (0, .ref (b + 96))]) hx hb dX10_init_63 hl (k := 0) rfl (by decide) rfl (fun ls hl => ?_)
  rw [show ((6 + 1) : Int) = 7 from by decide] at hl
  refine lv_goto (tgt := 44) hx hb dX10_init_66 (by decide) ?_
  refine lv_iload_n hx hb dX10_init_44 rfl (lv_at hl 0 rfl) ?_
  refine z_bipush hx hb (by decide) dX10_init_45 ?_
  refine z_icmp_ge (tgt := 69) hx hb (by decide) (by decide) dX10_init_47 (by decide) (fun c9 => absurd c9 (by decide)) (fun _ => ?_)
  refine lv_aload_n hx hb dX10_init_50 rfl (lv_at hl 1 rfl) ?_
  refine y_getr (t := 97) hx hb hts (z_memU u10) hown hK.1 hY f10_1 (by decide) (zkd_of (rfl : zcd wC 96 = 44) rfl) (tup_ne rfl (tup_ne rfl (tup_ne rfl (tup_ne rfl (tup_ne rfl (tup_ne rfl (tup_ne rfl (tup_ne rfl (tup_ne rfl (tup_ne rfl (tup_ne rfl (tup_ne rfl (tup_ne rfl (tup_ne rfl (tup_ne rfl (tup_ne rfl (tup_ne rfl tup_s))))))))))))))))) (Or.inl (hts _ (z_mem k233))) dX10_init_51 ?_
  refine lv_iload_n hx hb dX10_init_54 rfl (lv_at hl 0 rfl) ?_
  refine y_new hx hb hts (z_memU u8) tyX8 tyX8_ok hown (hts _ (z_mem k230)) (hts _ (z_mem k37)) (hts _ (z_mem k3)) hK.1 hY hS0 (rfl : vwCl[8]? = some (RX8, TX8, 2)) (by decide) (zkd_of (rfl : zcd wC 115 = 6) rfl) rfl (fun k hk => by rcases (show k = 0 ∨ k = 1 by omega) with rfl | rfl <;> rfl) (Nat.le_of_ble_eq_true rfl) (Nat.le_of_ble_eq_true rfl) dX10_init_55 (fun H hY hS0 => ?_)
  have hY : yS D dA vwCl wC 116 b _ _ H := hY
  refine lv_dup hx hb dX10_init_58 rfl ?_
  have hnw := hK.2 (RX10, 31, yX8_init, RX11) (List.mem_of_getElem? (i := 9) rfl)
  refine y_call (va_runIN (As := []) (rest := [.ref (b + 115), .int (iI 7), .ref (b + 97)]) ⟨hx, hb, hml, hown, hts⟩ (mk_Strip l D dA b _ _ 116 115 (by decide) (rfl : zcd wC 115 = 6) (rfl : zcd wC 116 = 7)) ⟨va_cnB 0 hts (z_gN k39) rfl rfl rfl hnw (hts _ (z_mem k3)) (by decide +kernel) ⟨(Nat.le_of_ble_eq_true rfl), (Nat.le_of_ble_eq_true rfl)⟩, rfl, (hts _ (z_mem k38))⟩ ⟨yP_blind, y_pre hY hK hO⟩ rfl rfl hl.1 rfl (lv_room (Nat.le_of_ble_eq_true rfl)) dX10_init_59 ⟨(Nat.le_of_ble_eq_true rfl), (Nat.le_of_ble_eq_true rfl)⟩) hS0 (fun H locs hY hS0 => ?_)
  have hY : yS D dA vwCl wC 117 b _ _ H := hY
  refine y_aast (t0 := 4) (N := 16) (i := 7) hx hb hK.1 (by decide) (hK.1.2 4 _ rfl).2 (rfl : vwCl[8]? = some (RX8, TX8, 2)) (by decide) hY hS0 (by decide) (zkd_of (rfl : zcd wC 97 = 45) rfl) (zln_of (rfl : zcd wC 97 = 45) rfl) (by decide) (zkd_of (rfl : zcd wC 115 = 6) rfl) (by decide) (by decide) (by decide) dX10_init_62 (fun H locs hY hS0 => ?_)
  refine z_iinc (lv' := [(1, .int (iI (7 + 1))), (0, .ref (b + 96))]) hx hb dX10_init_63 hl (k := 0) rfl (by decide) rfl (fun ls hl => ?_)
  rw [show ((7 + 1) : Int) = 8 from by decide] at hl
  refine lv_goto (tgt := 44) hx hb dX10_init_66 (by decide) ?_
  refine lv_iload_n hx hb dX10_init_44 rfl (lv_at hl 0 rfl) ?_
  refine z_bipush hx hb (by decide) dX10_init_45 ?_
  refine z_icmp_ge (tgt := 69) hx hb (by decide) (by decide) dX10_init_47 (by decide) (fun c9 => absurd c9 (by decide)) (fun _ => ?_)
  refine lv_aload_n hx hb dX10_init_50 rfl (lv_at hl 1 rfl) ?_
  refine y_getr (t := 97) hx hb hts (z_memU u10) hown hK.1 hY f10_1 (by decide) (zkd_of (rfl : zcd wC 96 = 44) rfl) (tup_ne rfl (tup_ne rfl (tup_ne rfl (tup_ne rfl (tup_ne rfl (tup_ne rfl (tup_ne rfl (tup_ne rfl (tup_ne rfl (tup_ne rfl (tup_ne rfl (tup_ne rfl (tup_ne rfl (tup_ne rfl (tup_ne rfl (tup_ne rfl (tup_ne rfl (tup_ne rfl (tup_ne rfl tup_s))))))))))))))))))) (Or.inl (hts _ (z_mem k233))) dX10_init_51 ?_
  refine lv_iload_n hx hb dX10_init_54 rfl (lv_at hl 0 rfl) ?_
  refine y_new hx hb hts (z_memU u8) tyX8 tyX8_ok hown (hts _ (z_mem k230)) (hts _ (z_mem k37)) (hts _ (z_mem k3)) hK.1 hY hS0 (rfl : vwCl[8]? = some (RX8, TX8, 2)) (by decide) (zkd_of (rfl : zcd wC 117 = 6) rfl) rfl (fun k hk => by rcases (show k = 0 ∨ k = 1 by omega) with rfl | rfl <;> rfl) (Nat.le_of_ble_eq_true rfl) (Nat.le_of_ble_eq_true rfl) dX10_init_55 (fun H hY hS0 => ?_)
  have hY : yS D dA vwCl wC 118 b _ _ H := hY
  refine lv_dup hx hb dX10_init_58 rfl ?_
  have hnw := hK.2 (RX10, 31, yX8_init, RX11) (List.mem_of_getElem? (i := 9) rfl)
  refine y_call (va_runIN (As := []) (rest := [.ref (b + 117), .int (iI 8), .ref (b + 97)]) ⟨hx, hb, hml, hown, hts⟩ (mk_Strip l D dA b _ _ 118 117 (by decide) (rfl : zcd wC 117 = 6) (rfl : zcd wC 118 = 7)) ⟨va_cnB 0 hts (z_gN k39) rfl rfl rfl hnw (hts _ (z_mem k3)) (by decide +kernel) ⟨(Nat.le_of_ble_eq_true rfl), (Nat.le_of_ble_eq_true rfl)⟩, rfl, (hts _ (z_mem k38))⟩ ⟨yP_blind, y_pre hY hK hO⟩ rfl rfl hl.1 rfl (lv_room (Nat.le_of_ble_eq_true rfl)) dX10_init_59 ⟨(Nat.le_of_ble_eq_true rfl), (Nat.le_of_ble_eq_true rfl)⟩) hS0 (fun H locs hY hS0 => ?_)
  have hY : yS D dA vwCl wC 119 b _ _ H := hY
  refine y_aast (t0 := 4) (N := 16) (i := 8) hx hb hK.1 (by decide) (hK.1.2 4 _ rfl).2 (rfl : vwCl[8]? = some (RX8, TX8, 2)) (by decide) hY hS0 (by decide) (zkd_of (rfl : zcd wC 97 = 45) rfl) (zln_of (rfl : zcd wC 97 = 45) rfl) (by decide) (zkd_of (rfl : zcd wC 117 = 6) rfl) (by decide) (by decide) (by decide) dX10_init_62 (fun H locs hY hS0 => ?_)
  refine z_iinc (lv' := [(1, .int (iI (8 + 1))), (0, .ref (b + 96))]) hx hb dX10_init_63 hl (k := 0) rfl (by decide) rfl (fun ls hl => ?_)
  rw [show ((8 + 1) : Int) = 9 from by decide] at hl
  refine lv_goto (tgt := 44) hx hb dX10_init_66 (by decide) ?_
  refine lv_iload_n hx hb dX10_init_44 rfl (lv_at hl 0 rfl) ?_
  refine z_bipush hx hb (by decide) dX10_init_45 ?_
  refine z_icmp_ge (tgt := 69) hx hb (by decide) (by decide) dX10_init_47 (by decide) (fun c9 => absurd c9 (by decide)) (fun _ => ?_)
  refine lv_aload_n hx hb dX10_init_50 rfl (lv_at hl 1 rfl) ?_
  refine y_getr (t := 97) hx hb hts (z_memU u10) hown hK.1 hY f10_1 (by decide) (zkd_of (rfl : zcd wC 96 = 44) rfl) (tup_ne rfl (tup_ne rfl (tup_ne rfl (tup_ne rfl (tup_ne rfl (tup_ne rfl (tup_ne rfl (tup_ne rfl (tup_ne rfl (tup_ne rfl (tup_ne rfl (tup_ne rfl (tup_ne rfl (tup_ne rfl (tup_ne rfl (tup_ne rfl (tup_ne rfl (tup_ne rfl (tup_ne rfl (tup_ne rfl (tup_ne rfl tup_s))))))))))))))))))))) (Or.inl (hts _ (z_mem k233))) dX10_init_51 ?_
  refine lv_iload_n hx hb dX10_init_54 rfl (lv_at hl 0 rfl) ?_
  refine y_new hx hb hts (z_memU u8) tyX8 tyX8_ok hown (hts _ (z_mem k230)) (hts _ (z_mem k37)) (hts _ (z_mem k3)) hK.1 hY hS0 (rfl : vwCl[8]? = some (RX8, TX8, 2)) (by decide) (zkd_of (rfl : zcd wC 119 = 6) rfl) rfl (fun k hk => by rcases (show k = 0 ∨ k = 1 by omega) with rfl | rfl <;> rfl) (Nat.le_of_ble_eq_true rfl) (Nat.le_of_ble_eq_true rfl) dX10_init_55 (fun H hY hS0 => ?_)
  have hY : yS D dA vwCl wC 120 b _ _ H := hY
  refine lv_dup hx hb dX10_init_58 rfl ?_
  have hnw := hK.2 (RX10, 31, yX8_init, RX11) (List.mem_of_getElem? (i := 9) rfl)
  refine y_call (va_runIN (As := []) (rest := [.ref (b + 119), .int (iI 9), .ref (b + 97)]) ⟨hx, hb, hml, hown, hts⟩ (mk_Strip l D dA b _ _ 120 119 (by decide) (rfl : zcd wC 119 = 6) (rfl : zcd wC 120 = 7)) ⟨va_cnB 0 hts (z_gN k39) rfl rfl rfl hnw (hts _ (z_mem k3)) (by decide +kernel) ⟨(Nat.le_of_ble_eq_true rfl), (Nat.le_of_ble_eq_true rfl)⟩, rfl, (hts _ (z_mem k38))⟩ ⟨yP_blind, y_pre hY hK hO⟩ rfl rfl hl.1 rfl (lv_room (Nat.le_of_ble_eq_true rfl)) dX10_init_59 ⟨(Nat.le_of_ble_eq_true rfl), (Nat.le_of_ble_eq_true rfl)⟩) hS0 (fun H locs hY hS0 => ?_)
  have hY : yS D dA vwCl wC 121 b _ _ H := hY
  refine y_aast (t0 := 4) (N := 16) (i := 9) hx hb hK.1 (by decide) (hK.1.2 4 _ rfl).2 (rfl : vwCl[8]? = some (RX8, TX8, 2)) (by decide) hY hS0 (by decide) (zkd_of (rfl : zcd wC 97 = 45) rfl) (zln_of (rfl : zcd wC 97 = 45) rfl) (by decide) (zkd_of (rfl : zcd wC 119 = 6) rfl) (by decide) (by decide) (by decide) dX10_init_62 (fun H locs hY hS0 => ?_)
  refine z_iinc (lv' := [(1, .int (iI (9 + 1))), (0, .ref (b + 96))]) hx hb dX10_init_63 hl (k := 0) rfl (by decide) rfl (fun ls hl => ?_)
  rw [show ((9 + 1) : Int) = 10 from by decide] at hl
  refine lv_goto (tgt := 44) hx hb dX10_init_66 (by decide) ?_
  refine lv_iload_n hx hb dX10_init_44 rfl (lv_at hl 0 rfl) ?_
  refine z_bipush hx hb (by decide) dX10_init_45 ?_
  refine z_icmp_ge (tgt := 69) hx hb (by decide) (by decide) dX10_init_47 (by decide) (fun c9 => absurd c9 (by decide)) (fun _ => ?_)
  refine lv_aload_n hx hb dX10_init_50 rfl (lv_at hl 1 rfl) ?_
  refine y_getr (t := 97) hx hb hts (z_memU u10) hown hK.1 hY f10_1 (by decide) (zkd_of (rfl : zcd wC 96 = 44) rfl) (tup_ne rfl (tup_ne rfl (tup_ne rfl (tup_ne rfl (tup_ne rfl (tup_ne rfl (tup_ne rfl (tup_ne rfl (tup_ne rfl (tup_ne rfl (tup_ne rfl (tup_ne rfl (tup_ne rfl (tup_ne rfl (tup_ne rfl (tup_ne rfl (tup_ne rfl (tup_ne rfl (tup_ne rfl (tup_ne rfl (tup_ne rfl (tup_ne rfl (tup_ne rfl tup_s))))))))))))))))))))))) (Or.inl (hts _ (z_mem k233))) dX10_init_51 ?_
  refine lv_iload_n hx hb dX10_init_54 rfl (lv_at hl 0 rfl) ?_
  refine y_new hx hb hts (z_memU u8) tyX8 tyX8_ok hown (hts _ (z_mem k230)) (hts _ (z_mem k37)) (hts _ (z_mem k3)) hK.1 hY hS0 (rfl : vwCl[8]? = some (RX8, TX8, 2)) (by decide) (zkd_of (rfl : zcd wC 121 = 6) rfl) rfl (fun k hk => by rcases (show k = 0 ∨ k = 1 by omega) with rfl | rfl <;> rfl) (Nat.le_of_ble_eq_true rfl) (Nat.le_of_ble_eq_true rfl) dX10_init_55 (fun H hY hS0 => ?_)
  have hY : yS D dA vwCl wC 122 b _ _ H := hY
  refine lv_dup hx hb dX10_init_58 rfl ?_
  have hnw := hK.2 (RX10, 31, yX8_init, RX11) (List.mem_of_getElem? (i := 9) rfl)
  refine y_call (va_runIN (As := []) (rest := [.ref (b + 121), .int (iI 10), .ref (b + 97)]) ⟨hx, hb, hml, hown, hts⟩ (mk_Strip l D dA b _ _ 122 121 (by decide) (rfl : zcd wC 121 = 6) (rfl : zcd wC 122 = 7)) ⟨va_cnB 0 hts (z_gN k39) rfl rfl rfl hnw (hts _ (z_mem k3)) (by decide +kernel) ⟨(Nat.le_of_ble_eq_true rfl), (Nat.le_of_ble_eq_true rfl)⟩, rfl, (hts _ (z_mem k38))⟩ ⟨yP_blind, y_pre hY hK hO⟩ rfl rfl hl.1 rfl (lv_room (Nat.le_of_ble_eq_true rfl)) dX10_init_59 ⟨(Nat.le_of_ble_eq_true rfl), (Nat.le_of_ble_eq_true rfl)⟩) hS0 (fun H locs hY hS0 => ?_)
  have hY : yS D dA vwCl wC 123 b _ _ H := hY
  refine y_aast (t0 := 4) (N := 16) (i := 10) hx hb hK.1 (by decide) (hK.1.2 4 _ rfl).2 (rfl : vwCl[8]? = some (RX8, TX8, 2)) (by decide) hY hS0 (by decide) (zkd_of (rfl : zcd wC 97 = 45) rfl) (zln_of (rfl : zcd wC 97 = 45) rfl) (by decide) (zkd_of (rfl : zcd wC 121 = 6) rfl) (by decide) (by decide) (by decide) dX10_init_62 (fun H locs hY hS0 => ?_)
  refine z_iinc (lv' := [(1, .int (iI (10 + 1))), (0, .ref (b + 96))]) hx hb dX10_init_63 hl (k := 0) rfl (by decide) rfl (fun ls hl => ?_)
  rw [show ((10 + 1) : Int) = 11 from by decide] at hl
  refine lv_goto (tgt := 44) hx hb dX10_init_66 (by decide) ?_
  refine lv_iload_n hx hb dX10_init_44 rfl (lv_at hl 0 rfl) ?_
  refine z_bipush hx hb (by decide) dX10_init_45 ?_
  refine z_icmp_ge (tgt := 69) hx hb (by decide) (by decide) dX10_init_47 (by decide) (fun c9 => absurd c9 (by decide)) (fun _ => ?_)
  refine lv_aload_n hx hb dX10_init_50 rfl (lv_at hl 1 rfl) ?_
  refine y_getr (t := 97) hx hb hts (z_memU u10) hown hK.1 hY f10_1 (by decide) (zkd_of (rfl : zcd wC 96 = 44) rfl) (tup_ne rfl (tup_ne rfl (tup_ne rfl (tup_ne rfl (tup_ne rfl (tup_ne rfl (tup_ne rfl (tup_ne rfl (tup_ne rfl (tup_ne rfl (tup_ne rfl (tup_ne rfl (tup_ne rfl (tup_ne rfl (tup_ne rfl (tup_ne rfl (tup_ne rfl (tup_ne rfl (tup_ne rfl (tup_ne rfl (tup_ne rfl (tup_ne rfl (tup_ne rfl (tup_ne rfl (tup_ne rfl tup_s))))))))))))))))))))))))) (Or.inl (hts _ (z_mem k233))) dX10_init_51 ?_
  refine lv_iload_n hx hb dX10_init_54 rfl (lv_at hl 0 rfl) ?_
  refine y_new hx hb hts (z_memU u8) tyX8 tyX8_ok hown (hts _ (z_mem k230)) (hts _ (z_mem k37)) (hts _ (z_mem k3)) hK.1 hY hS0 (rfl : vwCl[8]? = some (RX8, TX8, 2)) (by decide) (zkd_of (rfl : zcd wC 123 = 6) rfl) rfl (fun k hk => by rcases (show k = 0 ∨ k = 1 by omega) with rfl | rfl <;> rfl) (Nat.le_of_ble_eq_true rfl) (Nat.le_of_ble_eq_true rfl) dX10_init_55 (fun H hY hS0 => ?_)
  have hY : yS D dA vwCl wC 124 b _ _ H := hY
  refine lv_dup hx hb dX10_init_58 rfl ?_
  have hnw := hK.2 (RX10, 31, yX8_init, RX11) (List.mem_of_getElem? (i := 9) rfl)
  refine y_call (va_runIN (As := []) (rest := [.ref (b + 123), .int (iI 11), .ref (b + 97)]) ⟨hx, hb, hml, hown, hts⟩ (mk_Strip l D dA b _ _ 124 123 (by decide) (rfl : zcd wC 123 = 6) (rfl : zcd wC 124 = 7)) ⟨va_cnB 0 hts (z_gN k39) rfl rfl rfl hnw (hts _ (z_mem k3)) (by decide +kernel) ⟨(Nat.le_of_ble_eq_true rfl), (Nat.le_of_ble_eq_true rfl)⟩, rfl, (hts _ (z_mem k38))⟩ ⟨yP_blind, y_pre hY hK hO⟩ rfl rfl hl.1 rfl (lv_room (Nat.le_of_ble_eq_true rfl)) dX10_init_59 ⟨(Nat.le_of_ble_eq_true rfl), (Nat.le_of_ble_eq_true rfl)⟩) hS0 (fun H locs hY hS0 => ?_)
  have hY : yS D dA vwCl wC 125 b _ _ H := hY
  refine y_aast (t0 := 4) (N := 16) (i := 11) hx hb hK.1 (by decide) (hK.1.2 4 _ rfl).2 (rfl : vwCl[8]? = some (RX8, TX8, 2)) (by decide) hY hS0 (by decide) (zkd_of (rfl : zcd wC 97 = 45) rfl) (zln_of (rfl : zcd wC 97 = 45) rfl) (by decide) (zkd_of (rfl : zcd wC 123 = 6) rfl) (by decide) (by decide) (by decide) dX10_init_62 (fun H locs hY hS0 => ?_)
  refine z_iinc (lv' := [(1, .int (iI (11 + 1))), (0, .ref (b + 96))]) hx hb dX10_init_63 hl (k := 0) rfl (by decide) rfl (fun ls hl => ?_)
  rw [show ((11 + 1) : Int) = 12 from by decide] at hl
  refine lv_goto (tgt := 44) hx hb dX10_init_66 (by decide) ?_
  refine lv_iload_n hx hb dX10_init_44 rfl (lv_at hl 0 rfl) ?_
  refine z_bipush hx hb (by decide) dX10_init_45 ?_
  refine z_icmp_ge (tgt := 69) hx hb (by decide) (by decide) dX10_init_47 (by decide) (fun c9 => absurd c9 (by decide)) (fun _ => ?_)
  refine lv_aload_n hx hb dX10_init_50 rfl (lv_at hl 1 rfl) ?_
  refine y_getr (t := 97) hx hb hts (z_memU u10) hown hK.1 hY f10_1 (by decide) (zkd_of (rfl : zcd wC 96 = 44) rfl) (tup_ne rfl (tup_ne rfl (tup_ne rfl (tup_ne rfl (tup_ne rfl (tup_ne rfl (tup_ne rfl (tup_ne rfl (tup_ne rfl (tup_ne rfl (tup_ne rfl (tup_ne rfl (tup_ne rfl (tup_ne rfl (tup_ne rfl (tup_ne rfl (tup_ne rfl (tup_ne rfl (tup_ne rfl (tup_ne rfl (tup_ne rfl (tup_ne rfl (tup_ne rfl (tup_ne rfl (tup_ne rfl (tup_ne rfl (tup_ne rfl tup_s))))))))))))))))))))))))))) (Or.inl (hts _ (z_mem k233))) dX10_init_51 ?_
  refine lv_iload_n hx hb dX10_init_54 rfl (lv_at hl 0 rfl) ?_
  refine y_new hx hb hts (z_memU u8) tyX8 tyX8_ok hown (hts _ (z_mem k230)) (hts _ (z_mem k37)) (hts _ (z_mem k3)) hK.1 hY hS0 (rfl : vwCl[8]? = some (RX8, TX8, 2)) (by decide) (zkd_of (rfl : zcd wC 125 = 6) rfl) rfl (fun k hk => by rcases (show k = 0 ∨ k = 1 by omega) with rfl | rfl <;> rfl) (Nat.le_of_ble_eq_true rfl) (Nat.le_of_ble_eq_true rfl) dX10_init_55 (fun H hY hS0 => ?_)
  have hY : yS D dA vwCl wC 126 b _ _ H := hY
  refine lv_dup hx hb dX10_init_58 rfl ?_
  have hnw := hK.2 (RX10, 31, yX8_init, RX11) (List.mem_of_getElem? (i := 9) rfl)
  refine y_call (va_runIN (As := []) (rest := [.ref (b + 125), .int (iI 12), .ref (b + 97)]) ⟨hx, hb, hml, hown, hts⟩ (mk_Strip l D dA b _ _ 126 125 (by decide) (rfl : zcd wC 125 = 6) (rfl : zcd wC 126 = 7)) ⟨va_cnB 0 hts (z_gN k39) rfl rfl rfl hnw (hts _ (z_mem k3)) (by decide +kernel) ⟨(Nat.le_of_ble_eq_true rfl), (Nat.le_of_ble_eq_true rfl)⟩, rfl, (hts _ (z_mem k38))⟩ ⟨yP_blind, y_pre hY hK hO⟩ rfl rfl hl.1 rfl (lv_room (Nat.le_of_ble_eq_true rfl)) dX10_init_59 ⟨(Nat.le_of_ble_eq_true rfl), (Nat.le_of_ble_eq_true rfl)⟩) hS0 (fun H locs hY hS0 => ?_)
  have hY : yS D dA vwCl wC 127 b _ _ H := hY
  refine y_aast (t0 := 4) (N := 16) (i := 12) hx hb hK.1 (by decide) (hK.1.2 4 _ rfl).2 (rfl : vwCl[8]? = some (RX8, TX8, 2)) (by decide) hY hS0 (by decide) (zkd_of (rfl : zcd wC 97 = 45) rfl) (zln_of (rfl : zcd wC 97 = 45) rfl) (by decide) (zkd_of (rfl : zcd wC 125 = 6) rfl) (by decide) (by decide) (by decide) dX10_init_62 (fun H locs hY hS0 => ?_)
  refine z_iinc (lv' := [(1, .int (iI (12 + 1))), (0, .ref (b + 96))]) hx hb dX10_init_63 hl (k := 0) rfl (by decide) rfl (fun ls hl => ?_)
  rw [show ((12 + 1) : Int) = 13 from by decide] at hl
  refine lv_goto (tgt := 44) hx hb dX10_init_66 (by decide) ?_
  refine lv_iload_n hx hb dX10_init_44 rfl (lv_at hl 0 rfl) ?_
  refine z_bipush hx hb (by decide) dX10_init_45 ?_
  refine z_icmp_ge (tgt := 69) hx hb (by decide) (by decide) dX10_init_47 (by decide) (fun c9 => absurd c9 (by decide)) (fun _ => ?_)
  refine lv_aload_n hx hb dX10_init_50 rfl (lv_at hl 1 rfl) ?_
  refine y_getr (t := 97) hx hb hts (z_memU u10) hown hK.1 hY f10_1 (by decide) (zkd_of (rfl : zcd wC 96 = 44) rfl) (tup_ne rfl (tup_ne rfl (tup_ne rfl (tup_ne rfl (tup_ne rfl (tup_ne rfl (tup_ne rfl (tup_ne rfl (tup_ne rfl (tup_ne rfl (tup_ne rfl (tup_ne rfl (tup_ne rfl (tup_ne rfl (tup_ne rfl (tup_ne rfl (tup_ne rfl (tup_ne rfl (tup_ne rfl (tup_ne rfl (tup_ne rfl (tup_ne rfl (tup_ne rfl (tup_ne rfl (tup_ne rfl (tup_ne rfl (tup_ne rfl (tup_ne rfl (tup_ne rfl tup_s))))))))))))))))))))))))))))) (Or.inl (hts _ (z_mem k233))) dX10_init_51 ?_
  refine lv_iload_n hx hb dX10_init_54 rfl (lv_at hl 0 rfl) ?_
  refine y_new hx hb hts (z_memU u8) tyX8 tyX8_ok hown (hts _ (z_mem k230)) (hts _ (z_mem k37)) (hts _ (z_mem k3)) hK.1 hY hS0 (rfl : vwCl[8]? = some (RX8, TX8, 2)) (by decide) (zkd_of (rfl : zcd wC 127 = 6) rfl) rfl (fun k hk => by rcases (show k = 0 ∨ k = 1 by omega) with rfl | rfl <;> rfl) (Nat.le_of_ble_eq_true rfl) (Nat.le_of_ble_eq_true rfl) dX10_init_55 (fun H hY hS0 => ?_)
  have hY : yS D dA vwCl wC 128 b _ _ H := hY
  refine lv_dup hx hb dX10_init_58 rfl ?_
  have hnw := hK.2 (RX10, 31, yX8_init, RX11) (List.mem_of_getElem? (i := 9) rfl)
  refine y_call (va_runIN (As := []) (rest := [.ref (b + 127), .int (iI 13), .ref (b + 97)]) ⟨hx, hb, hml, hown, hts⟩ (mk_Strip l D dA b _ _ 128 127 (by decide) (rfl : zcd wC 127 = 6) (rfl : zcd wC 128 = 7)) ⟨va_cnB 0 hts (z_gN k39) rfl rfl rfl hnw (hts _ (z_mem k3)) (by decide +kernel) ⟨(Nat.le_of_ble_eq_true rfl), (Nat.le_of_ble_eq_true rfl)⟩, rfl, (hts _ (z_mem k38))⟩ ⟨yP_blind, y_pre hY hK hO⟩ rfl rfl hl.1 rfl (lv_room (Nat.le_of_ble_eq_true rfl)) dX10_init_59 ⟨(Nat.le_of_ble_eq_true rfl), (Nat.le_of_ble_eq_true rfl)⟩) hS0 (fun H locs hY hS0 => ?_)
  have hY : yS D dA vwCl wC 129 b _ _ H := hY
  refine y_aast (t0 := 4) (N := 16) (i := 13) hx hb hK.1 (by decide) (hK.1.2 4 _ rfl).2 (rfl : vwCl[8]? = some (RX8, TX8, 2)) (by decide) hY hS0 (by decide) (zkd_of (rfl : zcd wC 97 = 45) rfl) (zln_of (rfl : zcd wC 97 = 45) rfl) (by decide) (zkd_of (rfl : zcd wC 127 = 6) rfl) (by decide) (by decide) (by decide) dX10_init_62 (fun H locs hY hS0 => ?_)
  refine z_iinc (lv' := [(1, .int (iI (13 + 1))), (0, .ref (b + 96))]) hx hb dX10_init_63 hl (k := 0) rfl (by decide) rfl (fun ls hl => ?_)
  rw [show ((13 + 1) : Int) = 14 from by decide] at hl
  refine lv_goto (tgt := 44) hx hb dX10_init_66 (by decide) ?_
  refine lv_iload_n hx hb dX10_init_44 rfl (lv_at hl 0 rfl) ?_
  refine z_bipush hx hb (by decide) dX10_init_45 ?_
  refine z_icmp_ge (tgt := 69) hx hb (by decide) (by decide) dX10_init_47 (by decide) (fun c9 => absurd c9 (by decide)) (fun _ => ?_)
  refine lv_aload_n hx hb dX10_init_50 rfl (lv_at hl 1 rfl) ?_
  refine y_getr (t := 97) hx hb hts (z_memU u10) hown hK.1 hY f10_1 (by decide) (zkd_of (rfl : zcd wC 96 = 44) rfl) (tup_ne rfl (tup_ne rfl (tup_ne rfl (tup_ne rfl (tup_ne rfl (tup_ne rfl (tup_ne rfl (tup_ne rfl (tup_ne rfl (tup_ne rfl (tup_ne rfl (tup_ne rfl (tup_ne rfl (tup_ne rfl (tup_ne rfl (tup_ne rfl (tup_ne rfl (tup_ne rfl (tup_ne rfl (tup_ne rfl (tup_ne rfl (tup_ne rfl (tup_ne rfl (tup_ne rfl (tup_ne rfl (tup_ne rfl (tup_ne rfl (tup_ne rfl (tup_ne rfl (tup_ne rfl (tup_ne rfl tup_s))))))))))))))))))))))))))))))) (Or.inl (hts _ (z_mem k233))) dX10_init_51 ?_
  refine lv_iload_n hx hb dX10_init_54 rfl (lv_at hl 0 rfl) ?_
  refine y_new hx hb hts (z_memU u8) tyX8 tyX8_ok hown (hts _ (z_mem k230)) (hts _ (z_mem k37)) (hts _ (z_mem k3)) hK.1 hY hS0 (rfl : vwCl[8]? = some (RX8, TX8, 2)) (by decide) (zkd_of (rfl : zcd wC 129 = 6) rfl) rfl (fun k hk => by rcases (show k = 0 ∨ k = 1 by omega) with rfl | rfl <;> rfl) (Nat.le_of_ble_eq_true rfl) (Nat.le_of_ble_eq_true rfl) dX10_init_55 (fun H hY hS0 => ?_)
  have hY : yS D dA vwCl wC 130 b _ _ H := hY
  refine lv_dup hx hb dX10_init_58 rfl ?_
  have hnw := hK.2 (RX10, 31, yX8_init, RX11) (List.mem_of_getElem? (i := 9) rfl)
  refine y_call (va_runIN (As := []) (rest := [.ref (b + 129), .int (iI 14), .ref (b + 97)]) ⟨hx, hb, hml, hown, hts⟩ (mk_Strip l D dA b _ _ 130 129 (by decide) (rfl : zcd wC 129 = 6) (rfl : zcd wC 130 = 7)) ⟨va_cnB 0 hts (z_gN k39) rfl rfl rfl hnw (hts _ (z_mem k3)) (by decide +kernel) ⟨(Nat.le_of_ble_eq_true rfl), (Nat.le_of_ble_eq_true rfl)⟩, rfl, (hts _ (z_mem k38))⟩ ⟨yP_blind, y_pre hY hK hO⟩ rfl rfl hl.1 rfl (lv_room (Nat.le_of_ble_eq_true rfl)) dX10_init_59 ⟨(Nat.le_of_ble_eq_true rfl), (Nat.le_of_ble_eq_true rfl)⟩) hS0 (fun H locs hY hS0 => ?_)
  have hY : yS D dA vwCl wC 131 b _ _ H := hY
  refine y_aast (t0 := 4) (N := 16) (i := 14) hx hb hK.1 (by decide) (hK.1.2 4 _ rfl).2 (rfl : vwCl[8]? = some (RX8, TX8, 2)) (by decide) hY hS0 (by decide) (zkd_of (rfl : zcd wC 97 = 45) rfl) (zln_of (rfl : zcd wC 97 = 45) rfl) (by decide) (zkd_of (rfl : zcd wC 129 = 6) rfl) (by decide) (by decide) (by decide) dX10_init_62 (fun H locs hY hS0 => ?_)
  refine z_iinc (lv' := [(1, .int (iI (14 + 1))), (0, .ref (b + 96))]) hx hb dX10_init_63 hl (k := 0) rfl (by decide) rfl (fun ls hl => ?_)
  rw [show ((14 + 1) : Int) = 15 from by decide] at hl
  refine lv_goto (tgt := 44) hx hb dX10_init_66 (by decide) ?_
  refine lv_iload_n hx hb dX10_init_44 rfl (lv_at hl 0 rfl) ?_
  refine z_bipush hx hb (by decide) dX10_init_45 ?_
  refine z_icmp_ge (tgt := 69) hx hb (by decide) (by decide) dX10_init_47 (by decide) (fun c9 => absurd c9 (by decide)) (fun _ => ?_)
  refine lv_aload_n hx hb dX10_init_50 rfl (lv_at hl 1 rfl) ?_
  refine y_getr (t := 97) hx hb hts (z_memU u10) hown hK.1 hY f10_1 (by decide) (zkd_of (rfl : zcd wC 96 = 44) rfl) (tup_ne rfl (tup_ne rfl (tup_ne rfl (tup_ne rfl (tup_ne rfl (tup_ne rfl (tup_ne rfl (tup_ne rfl (tup_ne rfl (tup_ne rfl (tup_ne rfl (tup_ne rfl (tup_ne rfl (tup_ne rfl (tup_ne rfl (tup_ne rfl (tup_ne rfl (tup_ne rfl (tup_ne rfl (tup_ne rfl (tup_ne rfl (tup_ne rfl (tup_ne rfl (tup_ne rfl (tup_ne rfl (tup_ne rfl (tup_ne rfl (tup_ne rfl (tup_ne rfl (tup_ne rfl (tup_ne rfl (tup_ne rfl (tup_ne rfl tup_s))))))))))))))))))))))))))))))))) (Or.inl (hts _ (z_mem k233))) dX10_init_51 ?_
  refine lv_iload_n hx hb dX10_init_54 rfl (lv_at hl 0 rfl) ?_
  refine y_new hx hb hts (z_memU u8) tyX8 tyX8_ok hown (hts _ (z_mem k230)) (hts _ (z_mem k37)) (hts _ (z_mem k3)) hK.1 hY hS0 (rfl : vwCl[8]? = some (RX8, TX8, 2)) (by decide) (zkd_of (rfl : zcd wC 131 = 6) rfl) rfl (fun k hk => by rcases (show k = 0 ∨ k = 1 by omega) with rfl | rfl <;> rfl) (Nat.le_of_ble_eq_true rfl) (Nat.le_of_ble_eq_true rfl) dX10_init_55 (fun H hY hS0 => ?_)
  have hY : yS D dA vwCl wC 132 b _ _ H := hY
  refine lv_dup hx hb dX10_init_58 rfl ?_
  have hnw := hK.2 (RX10, 31, yX8_init, RX11) (List.mem_of_getElem? (i := 9) rfl)
  refine y_call (va_runIN (As := []) (rest := [.ref (b + 131), .int (iI 15), .ref (b + 97)]) ⟨hx, hb, hml, hown, hts⟩ (mk_Strip l D dA b _ _ 132 131 (by decide) (rfl : zcd wC 131 = 6) (rfl : zcd wC 132 = 7)) ⟨va_cnB 0 hts (z_gN k39) rfl rfl rfl hnw (hts _ (z_mem k3)) (by decide +kernel) ⟨(Nat.le_of_ble_eq_true rfl), (Nat.le_of_ble_eq_true rfl)⟩, rfl, (hts _ (z_mem k38))⟩ ⟨yP_blind, y_pre hY hK hO⟩ rfl rfl hl.1 rfl (lv_room (Nat.le_of_ble_eq_true rfl)) dX10_init_59 ⟨(Nat.le_of_ble_eq_true rfl), (Nat.le_of_ble_eq_true rfl)⟩) hS0 (fun H locs hY hS0 => ?_)
  have hY : yS D dA vwCl wC 133 b _ _ H := hY
  refine y_aast (t0 := 4) (N := 16) (i := 15) hx hb hK.1 (by decide) (hK.1.2 4 _ rfl).2 (rfl : vwCl[8]? = some (RX8, TX8, 2)) (by decide) hY hS0 (by decide) (zkd_of (rfl : zcd wC 97 = 45) rfl) (zln_of (rfl : zcd wC 97 = 45) rfl) (by decide) (zkd_of (rfl : zcd wC 131 = 6) rfl) (by decide) (by decide) (by decide) dX10_init_62 (fun H locs hY hS0 => ?_)
  refine z_iinc (lv' := [(1, .int (iI (15 + 1))), (0, .ref (b + 96))]) hx hb dX10_init_63 hl (k := 0) rfl (by decide) rfl (fun ls hl => ?_)
  rw [show ((15 + 1) : Int) = 16 from by decide] at hl
  refine lv_goto (tgt := 44) hx hb dX10_init_66 (by decide) ?_
  refine lv_iload_n hx hb dX10_init_44 rfl (lv_at hl 0 rfl) ?_
  refine z_bipush hx hb (by decide) dX10_init_45 ?_
  refine z_icmp_ge (tgt := 69) hx hb (by decide) (by decide) dX10_init_47 (by decide) (fun _ => ?_) (fun c9 => absurd c9 (by decide))
  exact y_ret hx hb hr hlocks hY hS0 dX10_init_69
end zz45_b14
section zz45_b15
def mT_C0 (T : zT) : zT := (tup (tup (mT_C96 (tup (mT_C86 (tup (mT_C82 (tup (mT_C78 (tup (mT_C60 (tup (mT_C57 (tup (mT_C32 (tup (tup (tup (mT_C1 T) 0 0 1) 30 0 31) 0 1 30)) 0 2 32)) 0 3 57)) 0 4 60)) 0 5 78)) 0 6 82)) 0 7 86)) 0 8 96) 0 9 133)
def mM_C0 (M : zM) : zM := (zup (mM_C96 (mM_C86 (mM_C82 (mM_C78 (mM_C60 (mM_C57 (mM_C32 (zup (mM_C1 M) 30 1 0)))))))) 0 10 0)
set_option maxHeartbeats 4000000 in
set_option maxRecDepth 100000 in
theorem mk_C0 (l : Launch) (D : va_G) (dA : Nat → ClassId) (b : Nat) (M : zM) (T : zT) : Met l yX11_init (.code yX11_init cX11_init 1 none :: zt) (y_rm 4 133 7217) (va_Pc [.ref (b + 0)] (yP D dA vwCl (z_tys dA) wC 1 b M T)) (va_Qv (fun _ => True) (yB D dA vwCl wC 134 b (mM_C0 M) (mT_C0 T)) (yA b)) 133 7217 (yA b) := by
  refine Met.ofW (cc := cX11_init) (maxL := 1) (ret := none) (by decide) rfl ?_
  intro p e s m args below meth c s₁ B hml hv
  obtain ⟨hargs, hY, hK, hO⟩ := hv
  have hx := B.exec
  have hb := B.bytes
  have hr := B.returns
  have hts := atoms_spec (ws := .code yX11_init cX11_init 1 none :: zt) B.pre
  have hown : s.vm.findClass RX11 = some m.cls := findClass_of_methodNamed B.named
  have hlocks := B.notSynchronized
  have hin : meth.name = "<init>" := (name_of_methodNamed B.named B.method).1
  have hS0 : va_S (yA b) s.heap s.heap [] := va_S.rf
  have hl := lv_entry ([.ref (b + 0)]) (n := 1) (Nat.le_of_ble_eq_true rfl)
  have hent : entryFrame m args 1 = F0 m 0 ((lg_sl ([.ref (b + 0)]) ++ List.replicate (1 - (lg_sl ([.ref (b + 0)])).length) Slot.unset).toArray) [] := by rw [hargs]; exact lg_entry_eq m ([.ref (b + 0)]) 1
  rw [hent]
  generalize (lg_sl ([.ref (b + 0)]) ++ List.replicate (1 - (lg_sl ([.ref (b + 0)])).length) Slot.unset).toArray = ls at hl ⊢
  have hl : lv_has ls 1 [(0, .ref (b + 0))] := hl
  refine lv_aload_n hx hb dX11_init_0 rfl (lv_at hl 0 rfl) ?_
  refine W.objInit hx hb hown (hts _ (z_mem k27)) (hts _ (z_mem k28)) (hts _ (z_mem k29)) rfl (by rw [hml]; exact hl.1) rfl dX11_init_1 (Nat.le_of_ble_eq_true rfl) (Nat.le_of_ble_eq_true rfl) ?_
  refine W.eq (g2 := F0 m 4 ls []) rfl ?_
  refine lv_aload_n hx hb dX11_init_4 rfl (lv_at hl 0 rfl) ?_
  refine y_new hx hb hts (z_memU u7) tyX7 tyX7_ok hown (hts _ (z_mem k30)) (hts _ (z_mem k31)) (hts _ (z_mem k2)) hK.1 hY hS0 (rfl : vwCl[7]? = some (RX7, TX7, 7)) (by decide) (zkd_of (rfl : zcd wC 1 = 1) rfl) rfl (fun k hk => by rcases (show k = 0 ∨ k = 1 ∨ k = 2 ∨ k = 3 ∨ k = 4 ∨ k = 5 ∨ k = 6 by omega) with rfl | rfl | rfl | rfl | rfl | rfl | rfl <;> rfl) (Nat.le_of_ble_eq_true rfl) (Nat.le_of_ble_eq_true rfl) dX11_init_5 (fun H hY hS0 => ?_)
  have hY : yS D dA vwCl wC 2 b _ _ H := hY
  refine lv_dup hx hb dX11_init_8 rfl ?_
  refine y_call (va_runI (As := []) (rest := [.ref (b + 1), .ref (b + 0)]) ⟨hx, hb, hml, hown, hts⟩ (mk_C1 l D dA b _ _) (cwI 0 hts (z_gN k34) rfl rfl rfl (hts _ (z_mem k2)) (hts _ (z_mem k32)) (hts _ (z_mem k33)) rfl (by decide +kernel) ⟨(Nat.le_of_ble_eq_true rfl), (Nat.le_of_ble_eq_true rfl)⟩) ⟨yP_blind, y_pre hY hK hO⟩ rfl rfl hl.1 rfl (lv_room (Nat.le_of_ble_eq_true rfl)) dX11_init_9 ⟨(Nat.le_of_ble_eq_true rfl), (Nat.le_of_ble_eq_true rfl)⟩) hS0 (fun H locs hY hS0 => ?_)
  have hY : yS D dA vwCl wC 30 b _ _ H := hY
  refine y_putrF (t := 1) hx hb hts (z_memU u11) tyX11 tyX11_ok nmX11 hown hK.1 hY hS0 f11_0 (by decide) (zkd_of (rfl : zcd wC 0 = 0) rfl) (hts _ (z_mem k242)) rfl hin rfl (tyX11_ok 0 (by decide)) (fun _ => rfl) (fun _ => rfl) dX11_init_12 (fun H locs hY hS0 => ?_)
  refine lv_aload_n hx hb dX11_init_15 rfl (lv_at hl 0 rfl) ?_
  refine y_new hx hb hts (z_memU u8) tyX8 tyX8_ok hown (hts _ (z_mem k69)) (hts _ (z_mem k37)) (hts _ (z_mem k3)) hK.1 hY hS0 (rfl : vwCl[8]? = some (RX8, TX8, 2)) (by decide) (zkd_of (rfl : zcd wC 30 = 6) rfl) rfl (fun k hk => by rcases (show k = 0 ∨ k = 1 by omega) with rfl | rfl <;> rfl) (Nat.le_of_ble_eq_true rfl) (Nat.le_of_ble_eq_true rfl) dX11_init_16 (fun H hY hS0 => ?_)
  have hY : yS D dA vwCl wC 31 b _ _ H := hY
  refine lv_dup hx hb dX11_init_19 rfl ?_
  have hnw := hK.2 (RX11, 18, yX8_init, RX11) (List.mem_of_getElem? (i := 1) rfl)
  refine y_call (va_runIN (As := []) (rest := [.ref (b + 30), .ref (b + 0)]) ⟨hx, hb, hml, hown, hts⟩ (mk_Strip l D dA b _ _ 31 30 (by decide) (rfl : zcd wC 30 = 6) (rfl : zcd wC 31 = 7)) ⟨va_cnB 0 hts (z_gN k39) rfl rfl rfl hnw (hts _ (z_mem k3)) (by decide +kernel) ⟨(Nat.le_of_ble_eq_true rfl), (Nat.le_of_ble_eq_true rfl)⟩, rfl, (hts _ (z_mem k38))⟩ ⟨yP_blind, y_pre hY hK hO⟩ rfl rfl hl.1 rfl (lv_room (Nat.le_of_ble_eq_true rfl)) dX11_init_20 ⟨(Nat.le_of_ble_eq_true rfl), (Nat.le_of_ble_eq_true rfl)⟩) hS0 (fun H locs hY hS0 => ?_)
  have hY : yS D dA vwCl wC 32 b _ _ H := hY
  refine y_putrF (t := 30) hx hb hts (z_memU u11) tyX11 tyX11_ok nmX11 hown hK.1 hY hS0 f11_1 (by decide) (zkd_of (rfl : zcd wC 0 = 0) rfl) (hts _ (z_mem k243)) rfl hin rfl (tyX11_ok 1 (by decide)) (fun _ => rfl) (fun _ => rfl) dX11_init_23 (fun H locs hY hS0 => ?_)
  refine lv_aload_n hx hb dX11_init_26 rfl (lv_at hl 0 rfl) ?_
  refine y_new hx hb hts (z_memU u9) tyX9 tyX9_ok hown (hts _ (z_mem k70)) (hts _ (z_mem k71)) (hts _ (z_mem k4)) hK.1 hY hS0 (rfl : vwCl[9]? = some (RX9, TX9, 3)) (by decide) (zkd_of (rfl : zcd wC 32 = 8) rfl) rfl (fun k hk => by rcases (show k = 0 ∨ k = 1 ∨ k = 2 by omega) with rfl | rfl | rfl <;> rfl) (Nat.le_of_ble_eq_true rfl) (Nat.le_of_ble_eq_true rfl) dX11_init_27 (fun H hY hS0 => ?_)
  have hY : yS D dA vwCl wC 33 b _ _ H := hY
  refine lv_dup hx hb dX11_init_30 rfl ?_
  refine y_call (va_runI (As := []) (rest := [.ref (b + 32), .ref (b + 0)]) ⟨hx, hb, hml, hown, hts⟩ (mk_C32 l D dA b _ _) (cwI 0 hts (z_gN k74) rfl rfl rfl (hts _ (z_mem k4)) (hts _ (z_mem k72)) (hts _ (z_mem k73)) rfl (by decide +kernel) ⟨(Nat.le_of_ble_eq_true rfl), (Nat.le_of_ble_eq_true rfl)⟩) ⟨yP_blind, y_pre hY hK hO⟩ rfl rfl hl.1 rfl (lv_room (Nat.le_of_ble_eq_true rfl)) dX11_init_31 ⟨(Nat.le_of_ble_eq_true rfl), (Nat.le_of_ble_eq_true rfl)⟩) hS0 (fun H locs hY hS0 => ?_)
  have hY : yS D dA vwCl wC 57 b _ _ H := hY
  refine y_putrF (t := 32) hx hb hts (z_memU u11) tyX11 tyX11_ok nmX11 hown hK.1 hY hS0 f11_2 (by decide) (zkd_of (rfl : zcd wC 0 = 0) rfl) (hts _ (z_mem k244)) rfl hin rfl (tyX11_ok 2 (by decide)) (fun _ => rfl) (fun _ => rfl) dX11_init_34 (fun H locs hY hS0 => ?_)
  refine lv_aload_n hx hb dX11_init_37 rfl (lv_at hl 0 rfl) ?_
  refine y_new hx hb hts (z_memU u1) tyX1 tyX1_ok hown (hts _ (z_mem k124)) (hts _ (z_mem k125)) (hts _ (z_mem k7)) hK.1 hY hS0 (rfl : vwCl[1]? = some (RX1, TX1, 4)) (by decide) (zkd_of (rfl : zcd wC 57 = 16) rfl) rfl (fun k hk => by rcases (show k = 0 ∨ k = 1 ∨ k = 2 ∨ k = 3 by omega) with rfl | rfl | rfl | rfl <;> rfl) (Nat.le_of_ble_eq_true rfl) (Nat.le_of_ble_eq_true rfl) dX11_init_38 (fun H hY hS0 => ?_)
  have hY : yS D dA vwCl wC 58 b _ _ H := hY
  refine lv_dup hx hb dX11_init_41 rfl ?_
  have hnw := hK.2 (RX11, 32, yX1_init, RX11) (List.mem_of_getElem? (i := 5) rfl)
  refine y_call (va_runIN (As := []) (rest := [.ref (b + 57), .ref (b + 0)]) ⟨hx, hb, hml, hown, hts⟩ (mk_C57 l D dA b _ _) ⟨va_cnB 0 hts (z_gN k127) rfl rfl rfl hnw (hts _ (z_mem k7)) (by decide +kernel) ⟨(Nat.le_of_ble_eq_true rfl), (Nat.le_of_ble_eq_true rfl)⟩, rfl, (hts _ (z_mem k126))⟩ ⟨yP_blind, y_pre hY hK hO⟩ rfl rfl hl.1 rfl (lv_room (Nat.le_of_ble_eq_true rfl)) dX11_init_42 ⟨(Nat.le_of_ble_eq_true rfl), (Nat.le_of_ble_eq_true rfl)⟩) hS0 (fun H locs hY hS0 => ?_)
  have hY : yS D dA vwCl wC 60 b _ _ H := hY
  refine y_putrF (t := 57) hx hb hts (z_memU u11) tyX11 tyX11_ok nmX11 hown hK.1 hY hS0 f11_3 (by decide) (zkd_of (rfl : zcd wC 0 = 0) rfl) (hts _ (z_mem k245)) rfl hin rfl (tyX11_ok 3 (by decide)) (fun _ => rfl) (fun _ => rfl) dX11_init_45 (fun H locs hY hS0 => ?_)
  refine lv_aload_n hx hb dX11_init_48 rfl (lv_at hl 0 rfl) ?_
  refine y_new hx hb hts (z_memU u5) tyX5 tyX5_ok hown (hts _ (z_mem k137)) (hts _ (z_mem k138)) (hts _ (z_mem k8)) hK.1 hY hS0 (rfl : vwCl[5]? = some (RX5, TX5, 9)) (by decide) (zkd_of (rfl : zcd wC 60 = 19) rfl) rfl (fun k hk => by rcases (show k = 0 ∨ k = 1 ∨ k = 2 ∨ k = 3 ∨ k = 4 ∨ k = 5 ∨ k = 6 ∨ k = 7 ∨ k = 8 by omega) with rfl | rfl | rfl | rfl | rfl | rfl | rfl | rfl | rfl <;> rfl) (Nat.le_of_ble_eq_true rfl) (Nat.le_of_ble_eq_true rfl) dX11_init_49 (fun H hY hS0 => ?_)
  have hY : yS D dA vwCl wC 61 b _ _ H := hY
  refine lv_dup hx hb dX11_init_52 rfl ?_
  have hnw := hK.2 (RX11, 39, yX5_init, RX11) (List.mem_of_getElem? (i := 6) rfl)
  refine y_call (va_runIN (As := []) (rest := [.ref (b + 60), .ref (b + 0)]) ⟨hx, hb, hml, hown, hts⟩ (mk_C60 l D dA b _ _) ⟨va_cnB 0 hts (z_gN k140) rfl rfl rfl hnw (hts _ (z_mem k8)) (by decide +kernel) ⟨(Nat.le_of_ble_eq_true rfl), (Nat.le_of_ble_eq_true rfl)⟩, rfl, (hts _ (z_mem k139))⟩ ⟨yP_blind, y_pre hY hK hO⟩ rfl rfl hl.1 rfl (lv_room (Nat.le_of_ble_eq_true rfl)) dX11_init_53 ⟨(Nat.le_of_ble_eq_true rfl), (Nat.le_of_ble_eq_true rfl)⟩) hS0 (fun H locs hY hS0 => ?_)
  have hY : yS D dA vwCl wC 78 b _ _ H := hY
  refine y_putrF (t := 60) hx hb hts (z_memU u11) tyX11 tyX11_ok nmX11 hown hK.1 hY hS0 f11_4 (by decide) (zkd_of (rfl : zcd wC 0 = 0) rfl) (hts _ (z_mem k246)) rfl hin rfl (tyX11_ok 4 (by decide)) (fun _ => rfl) (fun _ => rfl) dX11_init_56 (fun H locs hY hS0 => ?_)
  refine lv_aload_n hx hb dX11_init_59 rfl (lv_at hl 0 rfl) ?_
  refine y_new hx hb hts (z_memU u0) tyX0 tyX0_ok hown (hts _ (z_mem k163)) (hts _ (z_mem k164)) (hts _ (z_mem k9)) hK.1 hY hS0 (rfl : vwCl[0]? = some (RX0, TX0, 8)) (by decide) (zkd_of (rfl : zcd wC 78 = 30) rfl) rfl (fun k hk => by rcases (show k = 0 ∨ k = 1 ∨ k = 2 ∨ k = 3 ∨ k = 4 ∨ k = 5 ∨ k = 6 ∨ k = 7 by omega) with rfl | rfl | rfl | rfl | rfl | rfl | rfl | rfl <;> rfl) (Nat.le_of_ble_eq_true rfl) (Nat.le_of_ble_eq_true rfl) dX11_init_60 (fun H hY hS0 => ?_)
  have hY : yS D dA vwCl wC 79 b _ _ H := hY
  refine lv_dup hx hb dX11_init_63 rfl ?_
  refine y_call (va_runI (As := []) (rest := [.ref (b + 78), .ref (b + 0)]) ⟨hx, hb, hml, hown, hts⟩ (mk_C78 l D dA b _ _) (cwI 0 hts (z_gN k167) rfl rfl rfl (hts _ (z_mem k9)) (hts _ (z_mem k165)) (hts _ (z_mem k166)) rfl (by decide +kernel) ⟨(Nat.le_of_ble_eq_true rfl), (Nat.le_of_ble_eq_true rfl)⟩) ⟨yP_blind, y_pre hY hK hO⟩ rfl rfl hl.1 rfl (lv_room (Nat.le_of_ble_eq_true rfl)) dX11_init_64 ⟨(Nat.le_of_ble_eq_true rfl), (Nat.le_of_ble_eq_true rfl)⟩) hS0 (fun H locs hY hS0 => ?_)
  have hY : yS D dA vwCl wC 82 b _ _ H := hY
  refine y_putrF (t := 78) hx hb hts (z_memU u11) tyX11 tyX11_ok nmX11 hown hK.1 hY hS0 f11_5 (by decide) (zkd_of (rfl : zcd wC 0 = 0) rfl) (hts _ (z_mem k247)) rfl hin rfl (tyX11_ok 5 (by decide)) (fun _ => rfl) (fun _ => rfl) dX11_init_67 (fun H locs hY hS0 => ?_)
  refine lv_aload_n hx hb dX11_init_70 rfl (lv_at hl 0 rfl) ?_
  refine y_new hx hb hts (z_memU u3) tyX3 tyX3_ok hown (hts _ (z_mem k190)) (hts _ (z_mem k191)) (hts _ (z_mem k11)) hK.1 hY hS0 (rfl : vwCl[3]? = some (RX3, TX3, 4)) (by decide) (zkd_of (rfl : zcd wC 82 = 34) rfl) rfl (fun k hk => by rcases (show k = 0 ∨ k = 1 ∨ k = 2 ∨ k = 3 by omega) with rfl | rfl | rfl | rfl <;> rfl) (Nat.le_of_ble_eq_true rfl) (Nat.le_of_ble_eq_true rfl) dX11_init_71 (fun H hY hS0 => ?_)
  have hY : yS D dA vwCl wC 83 b _ _ H := hY
  refine lv_dup hx hb dX11_init_74 rfl ?_
  have hnw := hK.2 (RX11, 53, yX3_init, RX11) (List.mem_of_getElem? (i := 7) rfl)
  refine y_call (va_runIN (As := []) (rest := [.ref (b + 82), .ref (b + 0)]) ⟨hx, hb, hml, hown, hts⟩ (mk_C82 l D dA b _ _) ⟨va_cnB 0 hts (z_gN k193) rfl rfl rfl hnw (hts _ (z_mem k11)) (by decide +kernel) ⟨(Nat.le_of_ble_eq_true rfl), (Nat.le_of_ble_eq_true rfl)⟩, rfl, (hts _ (z_mem k192))⟩ ⟨yP_blind, y_pre hY hK hO⟩ rfl rfl hl.1 rfl (lv_room (Nat.le_of_ble_eq_true rfl)) dX11_init_75 ⟨(Nat.le_of_ble_eq_true rfl), (Nat.le_of_ble_eq_true rfl)⟩) hS0 (fun H locs hY hS0 => ?_)
  have hY : yS D dA vwCl wC 86 b _ _ H := hY
  refine y_putrF (t := 82) hx hb hts (z_memU u11) tyX11 tyX11_ok nmX11 hown hK.1 hY hS0 f11_6 (by decide) (zkd_of (rfl : zcd wC 0 = 0) rfl) (hts _ (z_mem k248)) rfl hin rfl (tyX11_ok 6 (by decide)) (fun _ => rfl) (fun _ => rfl) dX11_init_78 (fun H locs hY hS0 => ?_)
  refine lv_aload_n hx hb dX11_init_81 rfl (lv_at hl 0 rfl) ?_
  refine y_new hx hb hts (z_memU u4) tyX4 tyX4_ok hown (hts _ (z_mem k204)) (hts _ (z_mem k205)) (hts _ (z_mem k12)) hK.1 hY hS0 (rfl : vwCl[4]? = some (RX4, TX4, 6)) (by decide) (zkd_of (rfl : zcd wC 86 = 38) rfl) rfl (fun k hk => by rcases (show k = 0 ∨ k = 1 ∨ k = 2 ∨ k = 3 ∨ k = 4 ∨ k = 5 by omega) with rfl | rfl | rfl | rfl | rfl | rfl <;> rfl) (Nat.le_of_ble_eq_true rfl) (Nat.le_of_ble_eq_true rfl) dX11_init_82 (fun H hY hS0 => ?_)
  have hY : yS D dA vwCl wC 87 b _ _ H := hY
  refine lv_dup hx hb dX11_init_85 rfl ?_
  have hnw := hK.2 (RX11, 60, yX4_init, RX11) (List.mem_of_getElem? (i := 8) rfl)
  refine y_call (va_runIN (As := []) (rest := [.ref (b + 86), .ref (b + 0)]) ⟨hx, hb, hml, hown, hts⟩ (mk_C86 l D dA b _ _) ⟨va_cnB 0 hts (z_gN k207) rfl rfl rfl hnw (hts _ (z_mem k12)) (by decide +kernel) ⟨(Nat.le_of_ble_eq_true rfl), (Nat.le_of_ble_eq_true rfl)⟩, rfl, (hts _ (z_mem k206))⟩ ⟨yP_blind, y_pre hY hK hO⟩ rfl rfl hl.1 rfl (lv_room (Nat.le_of_ble_eq_true rfl)) dX11_init_86 ⟨(Nat.le_of_ble_eq_true rfl), (Nat.le_of_ble_eq_true rfl)⟩) hS0 (fun H locs hY hS0 => ?_)
  have hY : yS D dA vwCl wC 96 b _ _ H := hY
  refine y_putrF (t := 86) hx hb hts (z_memU u11) tyX11 tyX11_ok nmX11 hown hK.1 hY hS0 f11_7 (by decide) (zkd_of (rfl : zcd wC 0 = 0) rfl) (hts _ (z_mem k249)) rfl hin rfl (tyX11_ok 7 (by decide)) (fun _ => rfl) (fun _ => rfl) dX11_init_89 (fun H locs hY hS0 => ?_)
  refine lv_aload_n hx hb dX11_init_92 rfl (lv_at hl 0 rfl) ?_
  refine y_new hx hb hts (z_memU u10) tyX10 tyX10_ok hown (hts _ (z_mem k224)) (hts _ (z_mem k225)) (hts _ (z_mem k13)) hK.1 hY hS0 (rfl : vwCl[10]? = some (RX10, TX10, 5)) (by decide) (zkd_of (rfl : zcd wC 96 = 44) rfl) rfl (fun k hk => by rcases (show k = 0 ∨ k = 1 ∨ k = 2 ∨ k = 3 ∨ k = 4 by omega) with rfl | rfl | rfl | rfl | rfl <;> rfl) (Nat.le_of_ble_eq_true rfl) (Nat.le_of_ble_eq_true rfl) dX11_init_93 (fun H hY hS0 => ?_)
  have hY : yS D dA vwCl wC 97 b _ _ H := hY
  refine lv_dup hx hb dX11_init_96 rfl ?_
  refine y_call (va_runI (As := []) (rest := [.ref (b + 96), .ref (b + 0)]) ⟨hx, hb, hml, hown, hts⟩ (mk_C96 l D dA b _ _) (cwI 0 hts (z_gN k228) rfl rfl rfl (hts _ (z_mem k13)) (hts _ (z_mem k226)) (hts _ (z_mem k227)) rfl (by decide +kernel) ⟨(Nat.le_of_ble_eq_true rfl), (Nat.le_of_ble_eq_true rfl)⟩) ⟨yP_blind, y_pre hY hK hO⟩ rfl rfl hl.1 rfl (lv_room (Nat.le_of_ble_eq_true rfl)) dX11_init_97 ⟨(Nat.le_of_ble_eq_true rfl), (Nat.le_of_ble_eq_true rfl)⟩) hS0 (fun H locs hY hS0 => ?_)
  have hY : yS D dA vwCl wC 133 b _ _ H := hY
  refine y_putrF (t := 96) hx hb hts (z_memU u11) tyX11 tyX11_ok nmX11 hown hK.1 hY hS0 f11_8 (by decide) (zkd_of (rfl : zcd wC 0 = 0) rfl) (hts _ (z_mem k250)) rfl hin rfl (tyX11_ok 8 (by decide)) (fun _ => rfl) (fun _ => rfl) dX11_init_100 (fun H locs hY hS0 => ?_)
  refine lv_aload_n hx hb dX11_init_103 rfl (lv_at hl 0 rfl) ?_
  refine z_bipush hx hb (by decide) dX11_init_104 ?_
  refine y_newa (atype := .int) hx hb (hts _ (z_mem k53)) (t0 := 0) (N := 40) (by decide) (by decide) (hK.1.2 0 _ rfl).2 rfl hY hS0 (zkd_of (rfl : zcd wC 133 = 49) rfl) (zln_of (rfl : zcd wC 133 = 49) rfl) (by decide) rfl (by decide) (by decide) (Nat.le_of_ble_eq_true rfl) (Nat.le_of_ble_eq_true rfl) dX11_init_106 (fun H hY hS0 => ?_)
  have hY : yS D dA vwCl wC 134 b _ _ H := hY
  refine y_putrF (t := 133) hx hb hts (z_memU u11) tyX11 tyX11_ok nmX11 hown hK.1 hY hS0 f11_9 (by decide) (zkd_of (rfl : zcd wC 0 = 0) rfl) (hts _ (z_mem k251)) rfl hin rfl (tyX11_ok 9 (by decide)) (fun _ => rfl) (fun _ => rfl) dX11_init_108 (fun H locs hY hS0 => ?_)
  refine lv_aload_n hx hb dX11_init_111 rfl (lv_at hl 0 rfl) ?_
  refine z_iconst hx hb dX11_init_112 ?_
  refine y_puti (z := 0) hx hb hts (z_memU u11) tyX11 tyX11_ok nmX11 hown hK.1 hY hS0 f11_10 (by decide) (zkd_of (rfl : zcd wC 0 = 0) rfl) (Or.inl (hts _ (z_mem k252))) rfl (by decide +kernel) (zbd_in (rfl : zcd wC 0 = 0) rfl (by decide)) dX11_init_113 (fun H locs hY hS0 => ?_)
  exact y_ret hx hb hr hlocks hY hS0 dX11_init_116
end zz45_b15
section zz46_made
/-! a made world is a world; what a new object holds -/
theorem getD_all {α : Type} {P : α → Prop} {L : List α} {d : α} {q : Nat} (h : ∀ x ∈ L, P x) (hd : P d) : P (L.getD q d) := by
  rw [List.getD_eq_getElem?_getD]
  cases hq : L[q]? with
  | none => exact hd
  | some x => exact h x (List.mem_of_getElem? hq)
abbrev okp (p : Int × Int) : Prop := p.1 ≤ 0 ∧ 0 ≤ p.2
theorem zp_bd0 (q k : Nat) : okp (zp_bd q k) := by
  unfold zp_bd
  refine getD_all (P := fun f : Nat → Int × Int => ∀ k, okp (f k)) ?_ (fun _ => by decide) k
  exact List.forall_mem_cons.mpr ⟨fun k => getD_all (P := okp) (by decide) (by decide), List.forall_mem_cons.mpr ⟨fun k => getD_all (P := okp) (by decide) (by decide), List.forall_mem_cons.mpr ⟨fun _ => (by decide : okp (0, 255)), List.forall_mem_cons.mpr ⟨fun _ => (by decide : okp (-2147483648, 2147483647)), List.forall_mem_cons.mpr ⟨fun _ => (by decide : okp (-2147483648, 2147483647)), List.forall_mem_cons.mpr ⟨fun _ => (by decide : okp (0, 9)), List.forall_mem_cons.mpr ⟨fun k => getD_all (P := okp) (by decide) (by decide), List.forall_mem_cons.mpr ⟨fun _ => (by decide : okp (-2147483648, 2147483647)), List.forall_mem_cons.mpr ⟨fun k => getD_all (P := okp) (by decide) (by decide), List.forall_mem_cons.mpr ⟨fun _ => (by decide : okp (-2147483648, 2147483647)), List.forall_mem_cons.mpr ⟨fun _ => (by decide : okp (-2147483648, 2147483647)), List.forall_mem_cons.mpr ⟨fun k => getD_all (P := okp) (by decide) (by decide), List.forall_mem_cons.mpr ⟨fun _ => (by decide : okp (0, 5000)), List.forall_mem_cons.mpr ⟨fun _ => (by decide : okp (-9, 9)), List.forall_mem_cons.mpr ⟨fun k => getD_all (P := okp) (by decide) (by decide), List.forall_mem_cons.mpr ⟨fun _ => (by decide : okp (-2147483648, 2147483647)), List.forall_mem_cons.mpr ⟨fun k => getD_all (P := okp) (by decide) (by decide), List.forall_mem_cons.mpr ⟨fun _ => (by decide : okp (0, 24)), List.forall_mem_cons.mpr ⟨fun _ => (by decide : okp (-2147483648, 2147483647)), List.forall_mem_cons.mpr ⟨fun k => getD_all (P := okp) (by decide) (by decide), List.forall_mem_cons.mpr ⟨fun _ => (by decide : okp (0, 100000)), List.forall_mem_cons.mpr ⟨fun _ => (by decide : okp (0, 9)), List.forall_mem_cons.mpr ⟨fun _ => (by decide : okp (0, 23)), List.forall_mem_cons.mpr ⟨fun _ => (by decide : okp (-2147483648, 2147483647)), List.forall_mem_cons.mpr ⟨fun _ => (by decide : okp (0, 63)), List.forall_mem_cons.mpr ⟨fun _ => (by decide : okp (-2147483648, 2147483647)), List.forall_mem_cons.mpr ⟨fun _ => (by decide : okp (-2147483648, 2147483647)), List.forall_mem_cons.mpr ⟨fun _ => (by decide : okp (-2147483648, 2147483647)), List.forall_mem_cons.mpr ⟨fun _ => (by decide : okp (-2147483648, 2147483647)), List.forall_mem_cons.mpr ⟨fun _ => (by decide : okp (-2147483648, 2147483647)), List.forall_mem_cons.mpr ⟨fun k => getD_all (P := okp) (by decide) (by decide), List.forall_mem_cons.mpr ⟨fun _ => (by decide : okp (-2147483648, 2147483647)), List.forall_mem_cons.mpr ⟨fun _ => (by decide : okp (0, 200)), List.forall_mem_cons.mpr ⟨fun _ => (by decide : okp (0, 5000)), List.forall_mem_cons.mpr ⟨fun k => getD_all (P := okp) (by decide) (by decide), List.forall_mem_cons.mpr ⟨fun _ => (by decide : okp (-2147483648, 2147483647)), List.forall_mem_cons.mpr ⟨fun _ => (by decide : okp (-2147483648, 2147483647)), List.forall_mem_cons.mpr ⟨fun _ => (by decide : okp (-2147483648, 2147483647)), List.forall_mem_cons.mpr ⟨fun k => getD_all (P := okp) (by decide) (by decide), List.forall_mem_cons.mpr ⟨fun _ => (by decide : okp (0, 9)), List.forall_mem_cons.mpr ⟨fun _ => (by decide : okp (-2147483648, 2147483647)), List.forall_mem_cons.mpr ⟨fun _ => (by decide : okp (0, 9)), List.forall_mem_cons.mpr ⟨fun _ => (by decide : okp (0, 8)), List.forall_mem_cons.mpr ⟨fun _ => (by decide : okp (0, 9)), List.forall_mem_cons.mpr ⟨fun k => getD_all (P := okp) (by decide) (by decide), List.forall_mem_cons.mpr ⟨fun _ => (by decide : okp (-2147483648, 2147483647)), List.forall_mem_cons.mpr ⟨fun _ => (by decide : okp (-2147483648, 2147483647)), List.forall_mem_cons.mpr ⟨fun _ => (by decide : okp (0, 999)), List.forall_mem_cons.mpr ⟨fun _ => (by decide : okp (-2147483648, 2147483647)), List.forall_mem_cons.mpr ⟨fun _ => (by decide : okp (-2147483648, 2147483647)), List.forall_mem_cons.mpr ⟨fun k => getD_all (P := okp) (by decide) (by decide), List.forall_mem_cons.mpr ⟨fun _ => (by decide : okp (-128, 127)), List.forall_mem_cons.mpr ⟨fun _ => (by decide : okp (-2147483648, 2147483647)), List.forall_mem_cons.mpr ⟨fun _ => (by decide : okp (-2147483648, 2147483647)), List.forall_mem_cons.mpr ⟨fun _ => (by decide : okp (0, 24)), List.forall_mem_cons.mpr ⟨fun _ => (by decide : okp (0, 1)), List.forall_mem_cons.mpr ⟨fun _ => (by decide : okp (0, 23)), List.forall_mem_cons.mpr ⟨fun _ => (by decide : okp (-2147483648, 2147483647)), List.forall_mem_cons.mpr ⟨fun _ => (by decide : okp (-2147483648, 2147483647)), List.forall_mem_cons.mpr ⟨fun _ => (by decide : okp (0, 5000)), List.forall_mem_cons.mpr ⟨fun _ => (by decide : okp (-9, 9)), List.forall_mem_cons.mpr ⟨fun _ => (by decide : okp (0, 12)), List.forall_mem_cons.mpr ⟨fun _ => (by decide : okp (0, 100000)), List.forall_mem_cons.mpr ⟨fun _ => (by decide : okp (0, 9)), List.forall_mem_cons.mpr ⟨fun _ => (by decide : okp (0, 200)), List.forall_mem_cons.mpr ⟨fun _ => (by decide : okp (-2147483648, 2147483647)), List.forall_mem_cons.mpr ⟨fun _ => (by decide : okp (0, 15)), List.forall_mem_cons.mpr ⟨fun _ => (by decide : okp (0, 8)), List.forall_mem_cons.mpr ⟨fun _ => (by decide : okp (-2147483648, 2147483647)), List.forall_mem_cons.mpr ⟨fun _ => (by decide : okp (0, 24)), List.forall_mem_cons.mpr ⟨fun _ => (by decide : okp (-2147483648, 2147483647)), List.forall_mem_cons.mpr ⟨fun _ => (by decide : okp (0, 999)), List.forall_mem_cons.mpr ⟨fun _ => (by decide : okp (-2147483648, 2147483647)), List.forall_mem_cons.mpr ⟨fun _ => (by decide : okp (-2147483648, 2147483647)), List.forall_mem_cons.mpr ⟨fun _ => (by decide : okp (0, 24)), List.forall_mem_cons.mpr ⟨fun _ => (by decide : okp (-2147483648, 2147483647)), List.forall_mem_cons.mpr ⟨fun _ => (by decide : okp (0, 24)), List.forall_mem_cons.mpr ⟨fun _ => (by decide : okp (0, 1)), List.forall_mem_cons.mpr ⟨fun _ => (by decide : okp (-2147483648, 2147483647)), List.forall_mem_cons.mpr ⟨fun _ => (by decide : okp (0, 63)), List.forall_mem_cons.mpr ⟨fun _ => (by decide : okp (0, 5000)), List.forall_mem_cons.mpr ⟨fun _ => (by decide : okp (-2147483648, 2147483647)), List.forall_mem_cons.mpr ⟨fun _ => (by decide : okp (-2147483648, 2147483647)), List.forall_mem_cons.mpr ⟨fun _ => (by decide : okp (-2147483648, 2147483647)), fun x h => absurd h List.not_mem_nil⟩⟩⟩⟩⟩⟩⟩⟩⟩⟩⟩⟩⟩⟩⟩⟩⟩⟩⟩⟩⟩⟩⟩⟩⟩⟩⟩⟩⟩⟩⟩⟩⟩⟩⟩⟩⟩⟩⟩⟩⟩⟩⟩⟩⟩⟩⟩⟩⟩⟩⟩⟩⟩⟩⟩⟩⟩⟩⟩⟩⟩⟩⟩⟩⟩⟩⟩⟩⟩⟩⟩⟩⟩⟩⟩⟩⟩⟩⟩⟩⟩⟩⟩⟩
theorem zJ_zC : zJ wC (fun _ _ => 0) := fun j k => zp_bd0 _ k
theorem zJ_zR : zJ wR (fun _ _ => 0) := fun j k => zp_bd0 _ k
theorem arrV_ext {cI : ClassId} {N : Nat} {f g : Nat → Value} (h : ∀ k, k < N → f k = g k) : arrV cI N f = arrV cI N g := by
  unfold arrV
  congr 1
  exact congrArg Array.ofFn (funext fun j => h j.val j.isLt)
theorem zR_made {D : va_G} {dA : Nat → ClassId} {cl : List vw_C} {w : zW} {N b : Nat} {M : zM} {T : zT} {H : Heap} (hY : yS D dA cl w N b M T H) (hT : ∀ j, j < N → (zkd w j < 100 → ∀ k, k < znf w (zkd w j) → zfk w (zkd w j) k ≠ 0 → zfk w (zkd w j) k ≠ 1 → T j k = some (zrf w j k)) ∧ (104 ≤ zkd w j → ∀ k, k < zln w j → T j k = some (zrf w j k))) : zR D dA cl w N b M H := by
  intro j hj
  have h := hY.2.1 j hj
  obtain ⟨h1, h2⟩ := hT j hj
  unfold ycell at h
  unfold zcell
  by_cases hk : zkd w j < 100
  · rw [if_pos hk] at h ⊢
    have e : yfs w b j (M j) (T j) = zfs w b j (M j) := by
      unfold yfs zfs
      refine List.map_congr_left (fun k hkk => ?_)
      have hkn := List.mem_range.mp hkk
      unfold yfv zfv
      by_cases a0 : zfk w (zkd w j) k = 0
      · rw [if_pos a0, if_pos a0]
      · by_cases a1 : zfk w (zkd w j) k = 1
        · rw [if_neg a0, if_neg a0, if_pos a1, if_pos a1]
        · rw [if_neg a0, if_neg a0, if_neg a1, if_neg a1, h1 hk k hkn a0 a1]
          rfl
    rw [e] at h
    exact h
  · rw [if_neg hk] at h ⊢
    have h' : H[b + j]? = some (vp_cell (dA (zkd w j - 100)) (yar w b j (M j) (T j))) := h
    show H[b + j]? = some (vp_cell (dA (zkd w j - 100)) (zar w b j (M j)))
    rw [h']
    congr 1
    unfold yar zar
    by_cases c1 : zkd w j = 101
    · rw [if_pos c1, if_pos c1]
    · by_cases c4 : zkd w j < 104
      · rw [if_neg c1, if_neg c1, if_pos c4, if_pos c4]
      · rw [if_neg c1, if_neg c1, if_neg c4, if_neg c4, vp_cell_q, vp_cell_q]
        refine arrV_ext (fun k hk4 => ?_)
        rw [h2 (by omega) k hk4]
        rfl
def y_chk (w : zW) (N : Nat) (T : zT) : Bool := (List.range N).all fun j => if zkd w j < 100 then (List.range (znf w (zkd w j))).all (fun k => zfk w (zkd w j) k == 0 || zfk w (zkd w j) k == 1 || T j k == some (zrf w j k)) else decide (zkd w j < 104) || (List.range (zln w j)).all (fun k => T j k == some (zrf w j k))
theorem y_chk_ok {w : zW} {N : Nat} {T : zT} (h : y_chk w N T = true) : ∀ j, j < N → (zkd w j < 100 → ∀ k, k < znf w (zkd w j) → zfk w (zkd w j) k ≠ 0 → zfk w (zkd w j) k ≠ 1 → T j k = some (zrf w j k)) ∧ (104 ≤ zkd w j → ∀ k, k < zln w j → T j k = some (zrf w j k)) := by
  intro j hj
  have h1 := List.all_eq_true.mp h j (List.mem_range.mpr hj)
  constructor
  · intro hk k hkn a0 a1
    rw [if_pos hk] at h1
    have h2 := List.all_eq_true.mp h1 k (List.mem_range.mpr hkn)
    simp only [Bool.or_eq_true, beq_iff_eq] at h2
    rcases h2 with (h2 | h2) | h2
    · exact absurd h2 a0
    · exact absurd h2 a1
    · exact h2
  · intro hk k hkn
    rw [if_neg (by omega)] at h1
    simp only [Bool.or_eq_true, decide_eq_true_eq] at h1
    rcases h1 with h1 | h1
    · omega
    · have h2 := List.all_eq_true.mp h1 k (List.mem_range.mpr hkn)
      exact beq_iff_eq.mp h2
def MC0 : zM := mM_C0 (fun _ _ => 0)
def MR0 : zM := mM_R0 (fun _ _ => 0)
def TC0 : zT := mT_C0 (fun _ _ => none)
def TR0 : zT := mT_R0 (fun _ _ => none)
theorem tC_ok : y_chk wC nC TC0 = true := by decide +kernel
theorem tR_ok : y_chk wR nR TR0 = true := by decide +kernel
theorem gC_0_10 : MC0 0 10 = 0 := by decide +kernel
theorem gC_1_1 : MC0 1 1 = 0 := by decide +kernel
theorem gC_30_1 : MC0 30 1 = 0 := by decide +kernel
theorem gC_32_2 : MC0 32 2 = 0 := by decide +kernel
theorem gC_35_2 : MC0 35 2 = 0 := by decide +kernel
theorem gC_38_2 : MC0 38 2 = 0 := by decide +kernel
theorem gC_60_2 : MC0 60 2 = 0 := by decide +kernel
theorem gC_78_0 : MC0 78 0 = 0 := by decide +kernel
theorem gC_78_3 : MC0 78 3 = 1 := by decide +kernel
theorem gC_78_4 : MC0 78 4 = 0 := by decide +kernel
theorem gC_78_5 : MC0 78 5 = 1 := by decide +kernel
theorem gC_78_6 : MC0 78 6 = 0 := by decide +kernel
theorem gC_82_1 : MC0 82 1 = 0 := by decide +kernel
theorem gC_86_0 : MC0 86 0 = 0 := by decide +kernel
theorem gC_96_0 : MC0 96 0 = 0 := by decide +kernel
theorem gR_0_1 : MR0 0 1 = 0 := by decide +kernel
theorem gR_0_10 : MR0 0 10 = 0 := by decide +kernel
theorem gR_0_16 : MR0 0 16 = 0 := by decide +kernel
theorem gR_0_18 : MR0 0 18 = 1 := by decide +kernel
theorem gR_0_19 : MR0 0 19 = 0 := by decide +kernel
theorem gR_0_20 : MR0 0 20 = 1 := by decide +kernel
theorem gR_0_21 : MR0 0 21 = 0 := by decide +kernel
theorem gR_0_22 : MR0 0 22 = 0 := by decide +kernel
theorem gR_0_24 : MR0 0 24 = 0 := by decide +kernel
theorem gR_0_27 : MR0 0 27 = 0 := by decide +kernel
theorem gR_0_3 : MR0 0 3 = 0 := by decide +kernel
theorem gR_0_32 : MR0 0 32 = 0 := by decide +kernel
theorem gR_0_34 : MR0 0 34 = 0 := by decide +kernel
theorem gR_0_36 : MR0 0 36 = 0 := by decide +kernel
theorem aC_80 : ∀ k : Nat, k < 10 → MC0 80 k = 100 := by decide +kernel
theorem aR_11 : ∀ k : Nat, k < 2 → MR0 11 k = 0 := by decide +kernel
theorem aR_14 : ∀ k : Nat, 1 ≤ k → k < 10 → MR0 14 k = 100 := fun k h1 h2 => (by decide +kernel : ∀ k : Nat, k < 10 → 1 ≤ k → MR0 14 k = 100) k h2 h1
end zz46_made
section zz47_law
/-! the law's own rows: two worlds and a row of one long beside one another -/
def wO : zW := (fun _ => 0, fun _ => 101, fun _ => 1, fun _ _ _ => 0, fun _ => 0, fun _ _ => 0, fun _ _ => (-9223372036854775808, 9223372036854775807), fun _ _ => 0)
def LWS (D : va_G) (dA : Nat → ClassId) (b : Nat) (MC MR MO : zM) (H : Heap) : Prop := (zR D dA vwCl wC nC b MC H ∧ zJ wC MC) ∧ (zR D dA vwCl wR nR (b + 134) MR H ∧ zJ wR MR) ∧ zR D dA vwCl wO 1 (b + 168) MO H ∧ zJ wO MO
theorem zR_kept {D : va_G} {dA : Nat → ClassId} {cl : List vw_C} {w : zW} {N b : Nat} {M : zM} {H H1 : Heap} (h : zR D dA cl w N b M H) (hk : ∀ q, q < H.size → b ≤ q → q < b + N → H1[q]? = H[q]?) : zR D dA cl w N b M H1 := fun j hj => (h j hj).kept (hk _ (h j hj).lt (Nat.le_add_right _ _) (Nat.add_lt_add_left hj b))
theorem ls_C {D : va_G} {dA : Nat → ClassId} {b : Nat} {MC MR MO : zM} {H : Heap} (h : LWS D dA b MC MR MO H) : zS D dA vwCl wC nC b (fun _ _ => false) MC MC H := ⟨h.1.1, h.1.2, zF_rf _ _⟩
theorem ls_R {D : va_G} {dA : Nat → ClassId} {b : Nat} {MC MR MO : zM} {H : Heap} (h : LWS D dA b MC MR MO H) : zS D dA vwCl wR nR (b + 134) (fun _ _ => false) MR MR H := ⟨h.2.1.1, h.2.1.2, zF_rf _ _⟩
theorem ls_O {D : va_G} {dA : Nat → ClassId} {b : Nat} {MC MR MO : zM} {H : Heap} (h : LWS D dA b MC MR MO H) : zS D dA vwCl wO 1 (b + 168) (fun _ _ => false) MO MO H := ⟨h.2.2.1, h.2.2.2, zF_rf _ _⟩
/-- what is not the class's stays when the class's cells alone change -/
theorem ls_upC {D : va_G} {dA : Nat → ClassId} {b : Nat} {MC MR MO M1 : zM} {H H1 : Heap} (h : LWS D dA b MC MR MO H) (hR : zR D dA vwCl wC nC b M1 H1) (hJ : zJ wC M1) (hk : ∀ q : Nat, q < H.size → ¬ zA nC b q → H1[q]? = H[q]?) : LWS D dA b M1 MR MO H1 :=
  ⟨⟨hR, hJ⟩, ⟨zR_kept h.2.1.1 (fun q h1 h2 _ => hk q h1 (fun z => by have e1 : nC = 134 := rfl; have e2 : nR = 34 := rfl; have := z.2; omega)), h.2.1.2⟩, zR_kept h.2.2.1 (fun q h1 h2 _ => hk q h1 (fun z => by have e1 : nC = 134 := rfl; have e2 : nR = 34 := rfl; have := z.2; omega)), h.2.2.2⟩
theorem ls_upR {D : va_G} {dA : Nat → ClassId} {b : Nat} {MC MR MO M1 : zM} {H H1 : Heap} (h : LWS D dA b MC MR MO H) (hR : zR D dA vwCl wR nR (b + 134) M1 H1) (hJ : zJ wR M1) (hk : ∀ q : Nat, q < H.size → ¬ zA nR (b + 134) q → H1[q]? = H[q]?) : LWS D dA b MC M1 MO H1 :=
  ⟨⟨zR_kept h.1.1 (fun q h1 _ h3 => hk q h1 (fun z => by have e1 : nC = 134 := rfl; have e2 : nR = 34 := rfl; have := z.1; omega)), h.1.2⟩, ⟨hR, hJ⟩, zR_kept h.2.2.1 (fun q h1 h2 _ => hk q h1 (fun z => by have e1 : nC = 134 := rfl; have e2 : nR = 34 := rfl; have := z.2; omega)), h.2.2.2⟩
section LAW
variable {p : Program} {l : Launch} {e : Env} {R : Room} {s : State} {m : MethodId} {args : Array Value} {below : List Frame} {meth : Method} {c : Code} {H : Heap} {locs : List Loc} {cells slots : Nat} {Q : State → Prop}
variable {cc : ByteArray} {pc : Nat} {ls : Array Slot} {rest st0 : List Value} {D : va_G} {dA : Nat → ClassId} {H0 : Heap} {b : Nat} {msC : Nat → Nat → Bool} {MC MR MO : zM} {a : Array Value}
theorem l_Ci {post : Int → zM → Prop} (hr : va_Run p l e R s m args below meth c H locs cells slots 0 0 (F0 m pc ls st0) rest (va_Qi (zQi wC msC MC post) (zB D dA vwCl wC nC b) (zA nC b) a) (zA nC b)) (hS : LWS D dA b MC MR MO H) (hS0 : va_S (yA b) H0 H locs)
    (kk : ∀ (z : Int) (M1 : zM) (H1 : Heap) (locs1 : List Loc), R32 z → post z M1 → zF msC MC M1 → LWS D dA b M1 MR MO H1 → va_S (yA b) H0 H1 locs1 → W p l e R s m args below meth c H1 locs1 cells slots Q (F0 m (pc + 3) ls (.int (iI z) :: rest))) : W p l e R s m args below meth c H locs cells slots Q (F0 m pc ls st0) := by
  refine va_calli hr hS0 (fun q _ h => h.1) (fun q h => h.1) (fun r u t H1 locs1 ht _ hp hB hz hk hS1 => ?_)
  obtain ⟨z, rfl, hz, hJ, hF, hp⟩ := hp
  unfold zB at hB
  rw [ht] at hB
  exact kk z u H1 locs1 hz hp hF (ls_upC hS hB hJ hk) hS1
theorem l_Cl {post : Int → zM → Prop} (hr : va_Run p l e R s m args below meth c H locs cells slots 0 0 (F0 m pc ls st0) rest (va_Ql (zQl wC msC MC post) (zB D dA vwCl wC nC b) (zA nC b) a) (zA nC b)) (hS : LWS D dA b MC MR MO H) (hS0 : va_S (yA b) H0 H locs)
    (kk : ∀ (z : Int) (M1 : zM) (H1 : Heap) (locs1 : List Loc), R64 z → post z M1 → zF msC MC M1 → LWS D dA b M1 MR MO H1 → va_S (yA b) H0 H1 locs1 → W p l e R s m args below meth c H1 locs1 cells slots Q (F0 m (pc + 3) ls (.long (iL z) :: rest))) : W p l e R s m args below meth c H locs cells slots Q (F0 m pc ls st0) := by
  refine va_calll hr hS0 (fun q _ h => h.1) (fun q h => h.1) (fun r u t H1 locs1 ht _ hp hB hz hk hS1 => ?_)
  obtain ⟨z, rfl, hz, hJ, hF, hp⟩ := hp
  unfold zB at hB
  rw [ht] at hB
  exact kk z u H1 locs1 hz hp hF (ls_upC hS hB hJ hk) hS1
theorem l_Ri {post : Int → zM → Prop} (hr : va_Run p l e R s m args below meth c H locs cells slots 0 0 (F0 m pc ls st0) rest (va_Qi (zQi wR msC MR post) (zB D dA vwCl wR nR (b + 134)) (zA nR (b + 134)) a) (zA nR (b + 134))) (hS : LWS D dA b MC MR MO H) (hS0 : va_S (yA b) H0 H locs)
    (kk : ∀ (z : Int) (M1 : zM) (H1 : Heap) (locs1 : List Loc), R32 z → post z M1 → zF msC MR M1 → LWS D dA b MC M1 MO H1 → va_S (yA b) H0 H1 locs1 → W p l e R s m args below meth c H1 locs1 cells slots Q (F0 m (pc + 3) ls (.int (iI z) :: rest))) : W p l e R s m args below meth c H locs cells slots Q (F0 m pc ls st0) := by
  refine va_calli hr hS0 (fun q _ h => by have := h.1; show b ≤ q; omega) (fun q h => by have := h.1; show b ≤ q; omega) (fun r u t H1 locs1 ht _ hp hB hz hk hS1 => ?_)
  obtain ⟨z, rfl, hz, hJ, hF, hp⟩ := hp
  unfold zB at hB
  rw [ht] at hB
  exact kk z u H1 locs1 hz hp hF (ls_upR hS hB hJ hk) hS1
theorem l_Rl {post : Int → zM → Prop} (hr : va_Run p l e R s m args below meth c H locs cells slots 0 0 (F0 m pc ls st0) rest (va_Ql (zQl wR msC MR post) (zB D dA vwCl wR nR (b + 134)) (zA nR (b + 134)) a) (zA nR (b + 134))) (hS : LWS D dA b MC MR MO H) (hS0 : va_S (yA b) H0 H locs)
    (kk : ∀ (z : Int) (M1 : zM) (H1 : Heap) (locs1 : List Loc), R64 z → post z M1 → zF msC MR M1 → LWS D dA b MC M1 MO H1 → va_S (yA b) H0 H1 locs1 → W p l e R s m args below meth c H1 locs1 cells slots Q (F0 m (pc + 3) ls (.long (iL z) :: rest))) : W p l e R s m args below meth c H locs cells slots Q (F0 m pc ls st0) := by
  refine va_calll hr hS0 (fun q _ h => by have := h.1; show b ≤ q; omega) (fun q h => by have := h.1; show b ≤ q; omega) (fun r u t H1 locs1 ht _ hp hB hz hk hS1 => ?_)
  obtain ⟨z, rfl, hz, hJ, hF, hp⟩ := hp
  unfold zB at hB
  rw [ht] at hB
  exact kk z u H1 locs1 hz hp hF (ls_upR hS hB hJ hk) hS1
/-- the script's int at a written place -/
theorem l_sld (hexec : p.tables.exec = Jvm.exec) (hb : c.code = cc) {b0 L k : Nat} {xs : Nat → Int32} {A : Nat → Prop} (hX : va_X b0 L xs s H0) (hbl : b0 < H0.size) (hbA : ¬ A b0) (hS : va_S A H0 H locs) {i v : Int} (hi : i = (k : Int)) (hk : k < L) (hL : L < 2147483648) (hv : xs k = iI v) (hdg : decode cc pc = .ok (.iaload, 1))
    (kk : W p l e R s m args below meth c H locs cells slots Q (F0 m (pc + 1) ls (.int (iI v) :: rest))) : W p l e R s m args below meth c H locs cells slots Q (F0 m pc ls (.int (iI i) :: .ref b0 :: rest)) := by
  obtain ⟨v1, v2⟩ := iI_in (z := i) (n := L) (by omega) (by omega) hL
  refine va_sld hexec hb hX hbl hbA hS v1 hdg ?_
  rw [v2, show i.toNat = k by omega, hv]
  exact kk
theorem l_slen (hexec : p.tables.exec = Jvm.exec) (hb : c.code = cc) {b0 L : Nat} {xs : Nat → Int32} {A : Nat → Prop} (hX : va_X b0 L xs s H0) (hbl : b0 < H0.size) (hbA : ¬ A b0) (hS : va_S A H0 H locs) (hdg : decode cc pc = .ok (.arraylength, 1))
    (kk : W p l e R s m args below meth c H locs cells slots Q (F0 m (pc + 1) ls (.int (iI (L : Int)) :: rest))) : W p l e R s m args below meth c H locs cells slots Q (F0 m pc ls (.ref b0 :: rest)) := by
  refine va_slen hexec hb hX hbl hbA hS hdg ?_
  rw [show Int32.ofNat L = iI (L : Int) from by unfold iI; exact (Int32.ofInt_eq_ofNat).symm]
  exact kk
/-- new long[1] -/
theorem l_newl (hexec : p.tables.exec = Jvm.exec) (hb : c.code = cc) (harr : (Cond.arrayClass .long).before args s = true) (hfa : s.vm.findClass "[J" = some (dA 1)) {z : Int} (hz : z = 1) (hcells : cells + 1 ≤ R.cells) (hslots : slots + 1 ≤ R.slots) (hdg : decode cc pc = .ok (.newarray .long, 2))
    (kk : ∀ H1 : Heap, zR D dA vwCl wO 1 H.size (fun _ _ => 0) H1 → H1.size = H.size + 1 → (∀ q : Nat, q < H.size → H1[q]? = H[q]?) → W p l e R s m args below meth c H1 locs (cells + 1) (slots + 1) Q (F0 m (pc + 2) ls (.ref (H.size + 0) :: rest))) : W p l e R s m args below meth c H locs cells slots Q (F0 m pc ls (.int (iI z) :: rest)) := by
  subst hz
  refine va_newaK (atype := .long) hexec hb harr rfl hdg rfl (by decide) (N := 1) (by decide) (by decide) hcells hslots rfl fun H1 cA e1 z1 o1 hAr hNm => ?_
  have ec : cA = dA 1 := Option.some.inj (hNm.symm.trans hfa)
  subst ec
  refine kk H1 (fun j hj => ?_) z1 o1
  have h0 : j = 0 := by omega
  subst h0
  show H1[H.size + 0]? = some (vp_cell (dA 1) (1, .inr (.inl (fun k => iL 0))))
  rw [vp_cell_l]
  exact e1
end LAW
theorem y_arrN {args : Array Value} {s : State} {ty : FieldType} (h : (Cond.arrayClass ty).before args s = true) : ∃ cA : ClassId, ArrOfT s cA ty ∧ s.vm.findClass ("[" ++ ty.toString) = some cA := by
  obtain ⟨c, k, comp, h1, h2, h3⟩ := Cond.arrayClass_spec h
  exact ⟨c, fun n z => ⟨(fun k h => by cases h), k, h2, comp, h3⟩, h1⟩
theorem y_arrO {args : Array Value} {s : State} {C : String} (h : (Cond.arrayOver (.object C)).before args s = true) : ∃ cA : ClassId, ArrOfT s cA (.object C) ∧ va_RA s cA (.object C) := by
  obtain ⟨comp, c, k, h1, h2, h3, h4, h5⟩ := Cond.arrayOver_spec h
  exact ⟨c, fun n z => ⟨(fun k h => by cases h), k, h3, comp, h4⟩, k, comp, h3, h4, h1, h5⟩
theorem y_arrA {args : Array Value} {s : State} {t : FieldType} (h : (Cond.arrayOver (.array t)).before args s = true) : ∃ cA : ClassId, ArrOfT s cA (.array t) ∧ s.vm.findClass ("[" ++ (FieldType.array t).toString) = some cA := by
  obtain ⟨comp, c, k, h1, h3, h4, h5⟩ := Cond.arrayOver_specA h
  exact ⟨c, fun n z => ⟨(fun k h => by cases h), k, h3, comp, h4⟩, h5⟩
/-- the words of the law's head, with a word ahead of them as every method's -/
theorem l_hts {args : Array Value} {s : State} (h : ∀ w ∈ lw_tbl, w.before args s = true) : ∀ w ∈ Cond.tt :: zt, w.before args s = true := fun w hw => (List.mem_cons.mp hw).elim (fun e => by rw [e]; rfl) (fun q => h w (zt_in w q))
/-- the classes and their arrays, at the law's start -/
theorem l_K {args : Array Value} {s : State} (h : ∀ w ∈ lw_tbl, w.before args s = true) : ∃ (D : va_G) (dA : Nat → ClassId), zKK D vwCl (z_tys dA) s ∧ y_O s := by
  have hx : ∀ w ∈ zt, w.before args s = true := fun w q => h w (zt_in w q)
  obtain ⟨c0, i0, u0n⟩ := u_known (C := RX0) (T := TX0) (N := 8) (n := 8) hx u0 (hx _ k164)
  obtain ⟨c1, i1, u1n⟩ := u_known (C := RX1) (T := TX1) (N := 4) (n := 4) hx u1 (hx _ k125)
  obtain ⟨c2, i2, u2n⟩ := u_known (C := RX2) (T := TX2) (N := 3) (n := 3) hx u2 (hx _ k78)
  obtain ⟨c3, i3, u3n⟩ := u_known (C := RX3) (T := TX3) (N := 4) (n := 4) hx u3 (hx _ k191)
  obtain ⟨c4, i4, u4n⟩ := u_known (C := RX4) (T := TX4) (N := 6) (n := 6) hx u4 (hx _ k205)
  obtain ⟨c5, i5, u5n⟩ := u_known (C := RX5) (T := TX5) (N := 9) (n := 9) hx u5 (hx _ k138)
  obtain ⟨c6, i6, u6n⟩ := u_known (C := RX6) (T := TX6) (N := 6) (n := 6) hx u6 (hx _ k88)
  obtain ⟨c7, i7, u7n⟩ := u_known (C := RX7) (T := TX7) (N := 7) (n := 7) hx u7 (hx _ k31)
  obtain ⟨c8, i8, u8n⟩ := u_known (C := RX8) (T := TX8) (N := 2) (n := 2) hx u8 (hx _ k37)
  obtain ⟨c9, i9, u9n⟩ := u_known (C := RX9) (T := TX9) (N := 3) (n := 3) hx u9 (hx _ k71)
  obtain ⟨c10, i10, u10n⟩ := u_known (C := RX10) (T := TX10) (N := 5) (n := 5) hx u10 (hx _ k225)
  obtain ⟨c11, i11, u11n⟩ := u_known (C := RX11) (T := TX11) (N := 11) (n := 11) hx u11 (hx _ k23)
  obtain ⟨c12, i12, u12n⟩ := u_known (C := RX12) (T := TX12) (N := 50) (n := 50) hx u12 (hx _ k939)
  obtain ⟨a0, b0, d0⟩ := y_arrN (hx _ k53)
  obtain ⟨a1, b1, d1⟩ := y_arrN (hx _ k1349)
  obtain ⟨a2, b2, d2⟩ := y_arrN (hx _ k1044)
  obtain ⟨a3, b3, d3⟩ := y_arrN (hx _ k1045)
  have o4 : (Cond.arrayOver (.object "TapeRings$Strip")).before args s = true := h _ (zin0_1 (List.mem_of_getElem? (i := 37) (by decide +kernel)))
  have o5 : (Cond.arrayOver (.object "TapeRings$Motor")).before args s = true := h _ (zin0_1 (List.mem_of_getElem? (i := 91) (by decide +kernel)))
  have o6 : (Cond.arrayOver (.object "TapeRings$Ring")).before args s = true := h _ (zin0_1 (List.mem_of_getElem? (i := 93) (by decide +kernel)))
  have o7 : (Cond.arrayOver (.array .int)).before args s = true := h _ (zin0_1 (List.mem_of_getElem? (i := 184) (by decide +kernel)))
  obtain ⟨a4, b4, d4⟩ := y_arrO o4
  obtain ⟨a5, b5, d5⟩ := y_arrO o5
  obtain ⟨a6, b6, d6⟩ := y_arrO o6
  obtain ⟨a7, b7, d7⟩ := y_arrA o7
  refine ⟨(fun k => [c0, c1, c2, c3, c4, c5, c6, c7, c8, c9, c10, c11, c12].getD k 0, fun k => [i0, i1, i2, i3, i4, i5, i6, i7, i8, i9, i10, i11, i12].getD k (fun _ => 0)), fun k => [a0, a1, a2, a3, a4, a5, a6, a7].getD k 0, ⟨⟨fun k q hq => ?_, fun k q hq => ?_⟩, fun q hq => va_Nw.of rfl (h _ (z_nest_in q hq))⟩, o4, o5, o6, o7⟩
  · match k, hq with
    | 0, hq => cases hq; exact u0n
    | 1, hq => cases hq; exact u1n
    | 2, hq => cases hq; exact u2n
    | 3, hq => cases hq; exact u3n
    | 4, hq => cases hq; exact u4n
    | 5, hq => cases hq; exact u5n
    | 6, hq => cases hq; exact u6n
    | 7, hq => cases hq; exact u7n
    | 8, hq => cases hq; exact u8n
    | 9, hq => cases hq; exact u9n
    | 10, hq => cases hq; exact u10n
    | 11, hq => cases hq; exact u11n
    | 12, hq => cases hq; exact u12n
    | k + 13, hq => simp [vwCl] at hq
  · match k, hq with
    | 0, hq => cases hq; exact ⟨b0, d0⟩
    | 1, hq => cases hq; exact ⟨b1, d1⟩
    | 2, hq => cases hq; exact ⟨b2, d2⟩
    | 3, hq => cases hq; exact ⟨b3, d3⟩
    | 4, hq => cases hq; exact ⟨b4, d4⟩
    | 5, hq => cases hq; exact ⟨b5, d5⟩
    | 6, hq => cases hq; exact ⟨b6, d6⟩
    | 7, hq => cases hq; exact ⟨b7, d7⟩
    | k + 8, hq => simp [z_tys] at hq
end zz47_law
