/-! a world that is being made: its cells come one by one; references are none until they are set -/
abbrev zT : Type := Nat → Nat → Option Nat
def tup (T : zT) (j k t : Nat) : zT := fun a c => if a = j ∧ c = k then some t else T a c
theorem tup_row {T : zT} {j k t a : Nat} (h : a ≠ j) : tup T j k t a = T a := by funext c; simp [tup, h]
theorem tup_s {T : zT} {j k t : Nat} : tup T j k t j k = some t := by simp [tup]
theorem tup_n {T : zT} {j k t a c : Nat} (h : ¬ (a = j ∧ c = k)) : tup T j k t a c = T a c := by unfold tup; rw [if_neg h]
def yfv (w : zW) (b j k : Nat) (v : Int) (t : Option Nat) : Value := if zfk w (zkd w j) k = 0 then .int (iI v) else if zfk w (zkd w j) k = 1 then .long (iL v) else va_rf (t.map (fun q => b + q))
def yfs (w : zW) (b j : Nat) (row : Nat → Int) (tr : Nat → Option Nat) : List Value := (List.range (znf w (zkd w j))).map (fun k => yfv w b j k (row k) (tr k))
def yar (w : zW) (b j : Nat) (row : Nat → Int) (tr : Nat → Option Nat) : vp_A := if zkd w j = 101 then (zln w j, .inr (.inl (fun k => iL (row k)))) else if zkd w j < 104 then (zln w j, .inl (fun k => iI (row k))) else (zln w j, .inr (.inr (.inr (.inr (fun k => (tr k).map (fun q => b + q))))))
def ycell (dA : Nat → ClassId) (w : zW) (b j : Nat) (row : Nat → Int) (tr : Nat → Option Nat) : va_E := if zkd w j < 100 then .inr (zkd w j, yfs w b j row tr) else .inl (dA (zkd w j - 100), yar w b j row tr)
def yS (D : va_G) (dA : Nat → ClassId) (cl : List vw_C) (w : zW) (n b : Nat) (M : zM) (T : zT) (H : Heap) : Prop := H.size = b + n ∧ (∀ j, j < n → va_at D cl (b + j, ycell dA w b j (M j) (T j)) H) ∧ (∀ j, n ≤ j → (∀ k, M j k = 0) ∧ ∀ k, T j k = none) ∧ zJ w M
abbrev yA (b : Nat) : Nat → Prop := fun q => b ≤ q
theorem yfs_at {w : zW} {b j k : Nat} {row : Nat → Int} {tr : Nat → Option Nat} (h : k < znf w (zkd w j)) : (yfs w b j row tr)[k]? = some (yfv w b j k (row k) (tr k)) := by simp [yfs, h]
theorem yfs_V {w : zW} {b j k : Nat} {row : Nat → Int} {tr : Nat → Option Nat} (h : k < znf w (zkd w j)) : vp_V (yfs w b j row tr) k = yfv w b j k (row k) (tr k) := by simp [vp_V, List.getD, yfs_at h]
theorem yfs_same {w : zW} {b j : Nat} {row row' : Nat → Int} {tr tr' : Nat → Option Nat} (h : ∀ k, row k = row' k) (h2 : ∀ k, tr k = tr' k) : ycell (fun _ => 0) w b j row tr = ycell (fun _ => 0) w b j row' tr' := by rw [funext h, funext h2]
/-- one cell more -/
theorem yS_push {D : va_G} {dA : Nat → ClassId} {cl : List vw_C} {w : zW} {n b : Nat} {M : zM} {T : zT} {H H1 : Heap} (hY : yS D dA cl w n b M T H) (hz : H1.size = H.size + 1) (ho : ∀ q, q < H.size → H1[q]? = H[q]?) (hn : va_at D cl (b + n, ycell dA w b n (fun _ => 0) (fun _ => none)) H1) : yS D dA cl w (n + 1) b M T H1 := by
  refine ⟨by rw [hz, hY.1]; omega, fun j hj => ?_, fun j hj => hY.2.2.1 j (by omega), hY.2.2.2⟩
  by_cases h : j = n
  · subst h
    rw [funext (hY.2.2.1 j (Nat.le_refl _)).1, funext (hY.2.2.1 j (Nat.le_refl _)).2]
    exact hn
  · exact (hY.2.1 j (by omega)).kept (ho _ (by show b + j < H.size; rw [hY.1]; omega))
theorem yS_S {H0 H H1 : Heap} {locs : List Loc} {b : Nat} (hS : va_S (yA b) H0 H locs) (hz : H1.size = H.size + 1) (ho : ∀ q, q < H.size → H1[q]? = H[q]?) : va_S (yA b) H0 H1 locs := ⟨Nat.le_trans hS.1 (by omega), fun x h1 h2 => (ho x (Nat.lt_of_lt_of_le h1 hS.1)).trans (hS.2.1 x h1 h2), hS.2.2⟩
section ZY
variable {p : Program} {l : Launch} {e : Env} {R : Room} {s : State} {m : MethodId} {args : Array Value} {below : List Frame} {meth : Method} {c : Code} {H : Heap} {locs : List Loc} {cells slots : Nat} {Q : State → Prop}
variable {cc : ByteArray} {pc : Nat} {ls : Array Slot} {rest : List Value} {D : va_G} {dA : Nat → ClassId} {cl : List vw_C} {tys : List (ClassId × FieldType)} {H0 : Heap} {w : zW} {n b : Nat} {M : zM} {T : zT}
theorem y_new (hexec : p.tables.exec = Jvm.exec) (hb : c.code = cc) {own C : String} {X : u_T} {N ci index : Nat} {Ts : List Cond} (hts : ∀ w ∈ Ts, w.before args s = true) (hin : ∀ w ∈ u_ws C X N, w ∈ Ts) (ty : Nat → FieldType) (hty : ∀ k, k < N → parseFieldDescriptor (X k).2.2.1 = some (ty k)) (hown : s.vm.findClass own = some m.cls) (hcl : (Cond.classLink own index C).before args s = true) (hinst : (Cond.instantiable C N).before args s = true) (hini : (Cond.initialized C).before args s = true)
    (hK : va_K D cl tys s) (hY : yS D dA cl w n b M T H) (hS : va_S (yA b) H0 H locs) (hc : cl[ci]? = some (C, X, N)) (hci : ci < 100) (hkd : zkd w n = ci) (hnf : znf w ci = N) (hfs : ∀ k, k < N → defaultValue (ty k) = (if zfk w ci k = 0 then .int (iI 0) else if zfk w ci k = 1 then .long (iL 0) else .null)) (hcells : cells + 1 ≤ R.cells) (hslots : slots + N ≤ R.slots) (hdg : decode cc pc = .ok (.new index, 3))
    (kk : ∀ H1 : Heap, yS D dA cl w (n + 1) b M T H1 → va_S (yA b) H0 H1 locs → W p l e R s m args below meth c H1 locs (cells + 1) (slots + N) Q (F0 m (pc + 3) ls (.ref (b + n) :: rest))) : W p l e R s m args below meth c H locs cells slots Q (F0 m pc ls rest) := by
  have hKn := hK.1 ci _ hc
  refine W.newcK hexec hb hown hcl hinst hini rfl hdg hcells hslots hKn.2.1 rfl fun H1 kC hkC e1 z1 o1 => ?_
  have hz : H.size = b + n := hY.1
  rw [hz] at e1
  refine hz ▸ kk H1 (yS_push hY z1 o1 ?_) (yS_S hS z1 o1)
  unfold ycell
  rw [hkd, if_pos hci]
  refine ⟨_, hc, (u_born ty hts hin hKn hkC e1 hty).to (fun k hk => ?_)⟩
  rw [yfs_V (by rw [hkd, hnf]; exact hk)]
  unfold yfv
  rw [hkd]
  exact hfs k hk
theorem y_newa (hexec : p.tables.exec = Jvm.exec) (hb : c.code = cc) {atype : ArrayType} (harr : (Cond.arrayClass (newarray.typeOf atype)).before args s = true) {t0 N : Nat} {z : Int} (ht1 : t0 ≠ 1) (ht4 : t0 < 4) (hfa : s.vm.findClass ("[" ++ (newarray.typeOf atype).toString) = some (dA t0)) (hdv : defaultValue (newarray.typeOf atype) = .int (iI 0)) (hY : yS D dA cl w n b M T H) (hS : va_S (yA b) H0 H locs) (hkd : zkd w n = 100 + t0) (hln : zln w n = N) (h0 : 0 ≤ z) (hN : z.toNat = N) (hN2 : z < 2147483648) (hbytes : N * componentBytes (newarray.typeOf atype) ≤ 536870912) (hcells : cells + 1 ≤ R.cells) (hslots : slots + N ≤ R.slots) (hdg : decode cc pc = .ok (.newarray atype, 2))
    (kk : ∀ H1 : Heap, yS D dA cl w (n + 1) b M T H1 → va_S (yA b) H0 H1 locs → W p l e R s m args below meth c H1 locs (cells + 1) (slots + N) Q (F0 m (pc + 2) ls (.ref (b + n) :: rest))) : W p l e R s m args below meth c H locs cells slots Q (F0 m pc ls (.int (iI z) :: rest)) := by
  have hnn : ¬ iI z < 0 := by
    intro q
    have := Int32.lt_iff_toInt_lt.mp q
    rw [iI_t ⟨by omega, by omega⟩] at this
    have h00 : (0 : Int32).toInt = 0 := by decide
    omega
  have hcl : (iI z).toNatClampNeg = N := by
    rw [← hN]
    show (iI z).toInt.toNat = _
    rw [iI_t ⟨by omega, by omega⟩]
  refine va_newaK hexec hb harr rfl hdg rfl hnn hcl hbytes hcells hslots hY.1 fun H1 cA e1 z1 o1 hAr hNm => ?_
  have ec : cA = dA t0 := Option.some.inj (hNm.symm.trans hfa)
  subst ec
  have z2 : H1.size = H.size + 1 := by rw [z1, hY.1]
  have o2 : ∀ q, q < H.size → H1[q]? = H[q]? := fun q hq => o1 q (by rw [← hY.1]; exact hq)
  refine kk H1 (yS_push hY z2 o2 ?_) (yS_S hS z2 o2)
  unfold ycell
  rw [hkd, if_neg (by omega)]
  show H1[b + n]? = some (vp_cell (dA (100 + t0 - 100)) _)
  unfold yar
  rw [hkd, if_neg (by omega), if_pos (by omega), hln, show 100 + t0 - 100 = t0 by omega, e1, hdv, vp_cell_i]
/-- an array of references, all none -/
theorem y_newq (hexec : p.tables.exec = Jvm.exec) (hb : c.code = cc) {own C : String} {index t0 N : Nat} {z : Int} (hown : s.vm.findClass own = some m.cls) (hclink : (Cond.classLink own index C).before args s = true) (hover : (Cond.arrayOver (.object C)).before args s = true) (ht4 : 4 ≤ t0) (hfa : va_RA s (dA t0) (.object C)) (hY : yS D dA cl w n b M T H) (hS : va_S (yA b) H0 H locs) (hkd : zkd w n = 100 + t0) (hln : zln w n = N) (h0 : 0 ≤ z) (hN : z.toNat = N) (hN2 : z < 2147483648) (hbytes : N * 4 ≤ 536870912) (hcells : cells + 1 ≤ R.cells) (hslots : slots + N ≤ R.slots) (hdg : decode cc pc = .ok (.anewarray index, 3))
    (kk : ∀ H1 : Heap, yS D dA cl w (n + 1) b M T H1 → va_S (yA b) H0 H1 locs → W p l e R s m args below meth c H1 locs (cells + 1) (slots + N) Q (F0 m (pc + 3) ls (.ref (b + n) :: rest))) : W p l e R s m args below meth c H locs cells slots Q (F0 m pc ls (.int (iI z) :: rest)) := by
  have hnn : ¬ iI z < 0 := by
    intro q
    have := Int32.lt_iff_toInt_lt.mp q
    rw [iI_t ⟨by omega, by omega⟩] at this
    have h00 : (0 : Int32).toInt = 0 := by decide
    omega
  have hcl : (iI z).toNatClampNeg = N := by
    rw [← hN]
    show (iI z).toInt.toNat = _
    rw [iI_t ⟨by omega, by omega⟩]
  refine W.anew hexec hb hown hclink hover rfl hdg rfl hnn (by rw [hcl]; exact hbytes) hcells (by rw [hcl]; exact hslots) fun cA kA comp f1 f2 f3 f4 => ?_
  rw [hcl]
  generalize hH1 : H.push ({ cls := cA, slots := Array.replicate N .null, vm := .none } : Cell) = H1
  have z1 : H1.size = H.size + 1 := by rw [← hH1, Array.size_push]
  have e1 : H1[H.size]? = some (arrV cA N (fun _ => .null)) := by rw [← hH1, Array.getElem?_push_size, ← arrV_new]
  have o1 : ∀ q : Nat, q < H.size → H1[q]? = H[q]? := fun q hq => by rw [← hH1, Array.getElem?_push, if_neg (Nat.ne_of_lt hq)]
  obtain ⟨kA2, comp2, g1, g2, g3, g4⟩ := hfa
  have ec : cA = dA t0 := Option.some.inj (f1.symm.trans g4)
  subst ec
  have hz : H.size = b + n := hY.1
  rw [hz] at e1
  refine hz ▸ kk H1 (yS_push hY z1 o1 ?_) (yS_S hS z1 o1)
  unfold ycell
  rw [hkd, if_neg (by omega)]
  show H1[b + n]? = some (vp_cell (dA (100 + t0 - 100)) _)
  unfold yar
  rw [hkd, if_neg (by omega), if_neg (by omega), hln, show 100 + t0 - 100 = t0 by omega, e1, vp_cell_q]
  rfl
/-- a value is put into a field -/
theorem y_putv (hexec : p.tables.exec = Jvm.exec) (hb : c.code = cc) {own C : String} {X : u_T} {N ci index j k kind : Nat} {Ts : List Cond} (hts : ∀ w ∈ Ts, w.before args s = true) (hin : ∀ w ∈ u_ws C X N, w ∈ Ts) (ty0 : Nat → FieldType) (hty : ∀ k, k < N → parseFieldDescriptor (X k).2.2.1 = some (ty0 k)) (hnm : ∀ a, a < N → ∀ b, b < N → a ≠ b → (X a).2.1 ≠ (X b).2.1) (hown : s.vm.findClass own = some m.cls) (hK : va_K D cl tys s) (hY : yS D dA cl w n b M T H) (hS0 : va_S (yA b) H0 H locs)
    (hf : zFld cl w ci C X N k kind) (hj : j < n) (hkd : zkd w j = ci) (hlink : zLk s args own index (X k).1 (X k).2.1 (X k).2.2.1) (hfin : (X k).2.2.2 = false) {ty : FieldType} {v : Value} {M1 : zM} {T1 : zT} (hd : parseFieldDescriptor (X k).2.2.1 = some ty) (hnr : narrow ty v = v) (hfit : fits ty v = true) (hz : v = yfv w b j k (M1 j k) (T1 j k)) (hM : ∀ a c, ¬ (a = j ∧ c = k) → M1 a c = M a c) (hT : ∀ a c, ¬ (a = j ∧ c = k) → T1 a c = T a c) (hJ : zJ w M1) (hdg : decode cc pc = .ok (.putfield index, 3))
    (kk : ∀ (H1 : Heap) (locs1 : List Loc), yS D dA cl w n b M1 T1 H1 → va_S (yA b) H0 H1 locs1 → W p l e R s m args below meth c H1 locs1 cells slots Q (F0 m (pc + 3) ls rest)) : W p l e R s m args below meth c H locs cells slots Q (F0 m pc ls (v :: .ref (b + j) :: rest)) := by
  obtain ⟨hc, hci, hn, hk, -⟩ := hf
  subst hkd
  have hap := va_apart (own := own) hts hin ty0 hty hnm hK hc
  have h0 := hY.2.1 j hj
  unfold ycell at h0
  rw [if_pos hci] at h0
  obtain ⟨r, h1, cell, q1, q2, q3, q4⟩ := h0
  have hr : r = (C, X, N) := Option.some.inj (h1.symm.trans hc)
  subst hr
  obtain ⟨hSl, hfc, kC, hkC, hkind⟩ := hK.1 _ _ hc
  obtain ⟨cf, kf, fi, f, hi, hsl⟩ := hSl k hk
  have hlay := hts _ (hin _ (u_in_lay hk))
  unfold u_lay at hlay
  rw [if_neg (by rw [hfin]; decide)] at hlay
  have hst := (u_facts hfc hkC (u_lays hts hin hk) hi).1
  have h6 := u_store hfc hkC hkind hlay hi hd hnr hfit
  have fin : ∀ H' : Heap, H'[b + j]? = some (cell.setSlot f.slot v) → H'.size = H.size → (∀ q, q ≠ b + j → H'[q]? = H[q]?) → W p l e R s m args below meth c H' (locs ++ [⟨b + j, f.slot⟩]) cells slots Q (F0 m (pc + 3) ls rest) := by
    intro H' e1 e2 e3
    refine kk H' _ ⟨by rw [e2, hY.1], ?_, fun i hi2 => ⟨fun x => by rw [hM i x (by omega)]; exact (hY.2.2.1 i hi2).1 x, fun x => by rw [hT i x (by omega)]; exact (hY.2.2.1 i hi2).2 x⟩, hJ⟩ (hS0.put e2 e3 (Nat.le_add_right _ _))
    intro i hi2
    by_cases hij : i = j
    · subst hij
      unfold ycell
      rw [if_pos hci]
      refine ⟨_, hc, ?_⟩
      rw [hsl] at e1
      refine t_OB.to (V := updV (vp_V (yfs w b i (M i) (T i))) k v) ⟨_, e1, q2, q3, t_set q4 hap hk v⟩ (fun x hx => ?_)
      have hx' : x < znf w (zkd w i) := by rw [hn]; exact hx
      rw [yfs_V hx']
      by_cases hxk : x = k
      · subst hxk
        simp only [updV, if_pos]
        exact hz
      · simp only [updV, if_neg hxk]
        rw [yfs_V hx', hM i x (fun q => hxk q.2), hT i x (fun q => hxk q.2)]
    · have := (hY.2.1 i hi2).kept (H1 := H') (e3 _ (by show b + i ≠ b + j; omega))
      rw [show M1 i = M i from funext fun x => hM i x (fun q => hij q.1), show T1 i = T i from funext fun x => hT i x (fun q => hij q.1)]
      exact this
  rcases hlink with hl | ⟨host, hl⟩
  · exact W.putK hexec hb (f := f) ⟨hown, hl, ⟨_, _, _, hi⟩, hst⟩ (by rw [q2]; exact h6) q1 q3 (by rw [hsl]; exact k2_hasslot (q4 k hk)) rfl rfl hdg fin
  · exact va_WputK hexec hb (f := f) hown hl hi hst (by rw [q2]; exact h6) q1 q3 (by rw [hsl]; exact k2_hasslot (q4 k hk)) rfl rfl hdg fin
end ZY
