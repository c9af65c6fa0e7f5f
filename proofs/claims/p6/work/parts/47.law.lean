/-! the law's own rows: two worlds and a row of one long beside one another -/
def wO : zW := (fun _ => 0, fun _ => 101, fun _ => 1, fun _ _ _ => 0, fun _ => 0, fun _ _ => 0, fun _ _ => (-9223372036854775808, 9223372036854775807), fun _ _ => 0)
def LWS (D : va_G) (dA : Nat → ClassId) (b : Nat) (MC MR MO : zM) (H : Heap) : Prop := (zR D dA vwCl wC nC b MC H ∧ zJ wC MC) ∧ (zR D dA vwCl wR nR (b + 134) MR H ∧ zJ wR MR) ∧ zR D dA vwCl wO 1 (b + 168) MO H ∧ zJ wO MO
theorem zR_kept {D : va_G} {dA : Nat → ClassId} {cl : List vw_C} {w : zW} {N b : Nat} {M : zM} {H H1 : Heap} (h : zR D dA cl w N b M H) (hk : ∀ q, q < H.size → b ≤ q → q < b + N → H1[q]? = H[q]?) : zR D dA cl w N b M H1 := fun j hj => (h j hj).kept (hk _ (h j hj).lt (Nat.le_add_right _ _) (Nat.add_lt_add_left hj b))
theorem ls_C {D : va_G} {dA : Nat → ClassId} {b : Nat} {MC MR MO : zM} {H : Heap} (h : LWS D dA b MC MR MO H) : zS D dA vwCl wC nC b (fun _ _ => false) MC MC H := ⟨h.1.1, h.1.2, zF_rf _ _⟩
theorem ls_R {D : va_G} {dA : Nat → ClassId} {b : Nat} {MC MR MO : zM} {H : Heap} (h : LWS D dA b MC MR MO H) : zS D dA vwCl wR nR (b + 134) (fun _ _ => false) MR MR H := ⟨h.2.1.1, h.2.1.2, zF_rf _ _⟩
theorem ls_O {D : va_G} {dA : Nat → ClassId} {b : Nat} {MC MR MO : zM} {H : Heap} (h : LWS D dA b MC MR MO H) : zS D dA vwCl wO 1 (b + 168) (fun _ _ => false) MO MO H := ⟨h.2.2.1, h.2.2.2, zF_rf _ _⟩
/-- what is not the class's stays when the class's cells alone change -/
theorem ls_upC {D : va_G} {dA : Nat → ClassId} {b : Nat} {MC MR MO M1 : zM} {H H1 : Heap} (h : LWS D dA b MC MR MO H) (hR : zR D dA vwCl wC nC b M1 H1) (hJ : zJ wC M1) (hk : ∀ q : Nat, q < H.size → ¬ zA nC b q → H1[q]? = H[q]?) : LWS D dA b M1 MR MO H1 :=
  ⟨⟨hR, hJ⟩, ⟨zR_kept h.2.1.1 (fun q h1 h2 _ => hk q h1 (fun z => by have e1 : nC = 134 := rfl; have e2 : nR = 34 := rfl; have := z.2; omega)), h.2.1.2⟩, zR_kept h.2.2.1 (fun q h1 h2 _ => hk q h1 (fun z => by have e1 : nC = 134 := rfl; have e2 : nR = 34 := rfl; have := z.2; omega)), h.2.2.2⟩
theorem ls_upR {D : va_G} {dA : Nat → ClassId} {b : Nat} {MC MR MO M1 : zM} {H H1 : Heap} (h : LWS D dA b MC MR MO H) (hR : zR D dA vwCl wR nR (b + 134) M1 H1) (hJ : zJ wR M1) (hk : ∀ q : Nat, q < H.size → ¬ zA nR (b + 134) q → H1[q]? = H[q]?) : LWS D dA b MC M1 MO H1 :=
  ⟨⟨zR_kept h.1.1 (fun q h1 _ h3 => hk q h1 (fun z => by have e1 : nC = 134 := rfl; have e2 : nR = 34 := rfl; have := z.1; omega)), h.1.2⟩, ⟨hR, hJ⟩, zR_kept h.2.2.1 (fun q h1 h2 _ => hk q h1 (fun z => by have e1 : nC = 134 := rfl; have e2 : nR = 34 := rfl; have := z.2; omega)), h.2.2.2⟩
section LAW
variable {p : Program} {l : Launch} {e : Env} {R : Room} {s : State} {m : MethodId} {args : Array Value} {below : List Frame} {meth : Method} {c : Code} {H : Heap} {locs : List Loc} {cells slots : Nat} {Q : State → Prop}
variable {cc : ByteArray} {pc : Nat} {ls : Array Slot} {rest st0 : List Value} {D : va_G} {dA : Nat → ClassId} {H0 : Heap} {b : Nat} {msC : Nat → Nat → Bool} {MC MR MO : zM} {a : Array Value}
theorem l_Ci {post : Int → zM → Prop} (hr : va_Run p l e R s m args below meth c H locs cells slots 0 0 (F0 m pc ls st0) rest (va_Qi (zQi wC msC MC post) (zB D dA vwCl wC nC b) (zA nC b) a) (zA nC b)) (hS : LWS D dA b MC MR MO H) (hS0 : va_S (yA b) H0 H locs)
    (kk : ∀ (z : Int) (M1 : zM) (H1 : Heap) (locs1 : List Loc), R32 z → post z M1 → zF msC MC M1 → LWS D dA b M1 MR MO H1 → va_S (yA b) H0 H1 locs1 → W p l e R s m args below meth c H1 locs1 cells slots Q (F0 m (pc + 3) ls (.int (iI z) :: rest))) : W p l e R s m args below meth c H locs cells slots Q (F0 m pc ls st0) := by
  refine va_calli hr hS0 (fun q _ h => h.1) (fun q h => h.1) (fun r u t H1 locs1 ht _ hp hB hz hk hS1 => ?_)
  obtain ⟨z, rfl, hz, hJ, hF, hp⟩ := hp
  unfold zB at hB
  rw [ht] at hB
  exact kk z u H1 locs1 hz hp hF (ls_upC hS hB hJ hk) hS1
theorem l_Cl {post : Int → zM → Prop} (hr : va_Run p l e R s m args below meth c H locs cells slots 0 0 (F0 m pc ls st0) rest (va_Ql (zQl wC msC MC post) (zB D dA vwCl wC nC b) (zA nC b) a) (zA nC b)) (hS : LWS D dA b MC MR MO H) (hS0 : va_S (yA b) H0 H locs)
    (kk : ∀ (z : Int) (M1 : zM) (H1 : Heap) (locs1 : List Loc), R64 z → post z M1 → zF msC MC M1 → LWS D dA b M1 MR MO H1 → va_S (yA b) H0 H1 locs1 → W p l e R s m args below meth c H1 locs1 cells slots Q (F0 m (pc + 3) ls (.long (iL z) :: rest))) : W p l e R s m args below meth c H locs cells slots Q (F0 m pc ls st0) := by
  refine va_calll hr hS0 (fun q _ h => h.1) (fun q h => h.1) (fun r u t H1 locs1 ht _ hp hB hz hk hS1 => ?_)
  obtain ⟨z, rfl, hz, hJ, hF, hp⟩ := hp
  unfold zB at hB
  rw [ht] at hB
  exact kk z u H1 locs1 hz hp hF (ls_upC hS hB hJ hk) hS1
theorem l_Ri {post : Int → zM → Prop} (hr : va_Run p l e R s m args below meth c H locs cells slots 0 0 (F0 m pc ls st0) rest (va_Qi (zQi wR msC MR post) (zB D dA vwCl wR nR (b + 134)) (zA nR (b + 134)) a) (zA nR (b + 134))) (hS : LWS D dA b MC MR MO H) (hS0 : va_S (yA b) H0 H locs)
    (kk : ∀ (z : Int) (M1 : zM) (H1 : Heap) (locs1 : List Loc), R32 z → post z M1 → zF msC MR M1 → LWS D dA b MC M1 MO H1 → va_S (yA b) H0 H1 locs1 → W p l e R s m args below meth c H1 locs1 cells slots Q (F0 m (pc + 3) ls (.int (iI z) :: rest))) : W p l e R s m args below meth c H locs cells slots Q (F0 m pc ls st0) := by
  refine va_calli hr hS0 (fun q _ h => by have := h.1; show b ≤ q; omega) (fun q h => by have := h.1; show b ≤ q; omega) (fun r u t H1 locs1 ht _ hp hB hz hk hS1 => ?_)
  obtain ⟨z, rfl, hz, hJ, hF, hp⟩ := hp
  unfold zB at hB
  rw [ht] at hB
  exact kk z u H1 locs1 hz hp hF (ls_upR hS hB hJ hk) hS1
theorem l_Rl {post : Int → zM → Prop} (hr : va_Run p l e R s m args below meth c H locs cells slots 0 0 (F0 m pc ls st0) rest (va_Ql (zQl wR msC MR post) (zB D dA vwCl wR nR (b + 134)) (zA nR (b + 134)) a) (zA nR (b + 134))) (hS : LWS D dA b MC MR MO H) (hS0 : va_S (yA b) H0 H locs)
    (kk : ∀ (z : Int) (M1 : zM) (H1 : Heap) (locs1 : List Loc), R64 z → post z M1 → zF msC MR M1 → LWS D dA b MC M1 MO H1 → va_S (yA b) H0 H1 locs1 → W p l e R s m args below meth c H1 locs1 cells slots Q (F0 m (pc + 3) ls (.long (iL z) :: rest))) : W p l e R s m args below meth c H locs cells slots Q (F0 m pc ls st0) := by
  refine va_calll hr hS0 (fun q _ h => by have := h.1; show b ≤ q; omega) (fun q h => by have := h.1; show b ≤ q; omega) (fun r u t H1 locs1 ht _ hp hB hz hk hS1 => ?_)
  obtain ⟨z, rfl, hz, hJ, hF, hp⟩ := hp
  unfold zB at hB
  rw [ht] at hB
  exact kk z u H1 locs1 hz hp hF (ls_upR hS hB hJ hk) hS1
/-- the script's int at a written place -/
theorem l_sld (hexec : p.tables.exec = Jvm.exec) (hb : c.code = cc) {b0 L k : Nat} {xs : Nat → Int32} {A : Nat → Prop} (hX : va_X b0 L xs s H0) (hbl : b0 < H0.size) (hbA : ¬ A b0) (hS : va_S A H0 H locs) {i v : Int} (hi : i = (k : Int)) (hk : k < L) (hL : L < 2147483648) (hv : xs k = iI v) (hdg : decode cc pc = .ok (.iaload, 1))
    (kk : W p l e R s m args below meth c H locs cells slots Q (F0 m (pc + 1) ls (.int (iI v) :: rest))) : W p l e R s m args below meth c H locs cells slots Q (F0 m pc ls (.int (iI i) :: .ref b0 :: rest)) := by
  obtain ⟨v1, v2⟩ := iI_in (z := i) (n := L) (by omega) (by omega) hL
  refine va_sld hexec hb hX hbl hbA hS v1 hdg ?_
  rw [v2, show i.toNat = k by omega, hv]
  exact kk
theorem l_slen (hexec : p.tables.exec = Jvm.exec) (hb : c.code = cc) {b0 L : Nat} {xs : Nat → Int32} {A : Nat → Prop} (hX : va_X b0 L xs s H0) (hbl : b0 < H0.size) (hbA : ¬ A b0) (hS : va_S A H0 H locs) (hdg : decode cc pc = .ok (.arraylength, 1))
    (kk : W p l e R s m args below meth c H locs cells slots Q (F0 m (pc + 1) ls (.int (iI (L : Int)) :: rest))) : W p l e R s m args below meth c H locs cells slots Q (F0 m pc ls (.ref b0 :: rest)) := by
  refine va_slen hexec hb hX hbl hbA hS hdg ?_
  rw [show Int32.ofNat L = iI (L : Int) from by unfold iI; exact (Int32.ofInt_eq_ofNat).symm]
  exact kk
/-- new long[1] -/
theorem l_newl (hexec : p.tables.exec = Jvm.exec) (hb : c.code = cc) (harr : (Cond.arrayClass .long).before args s = true) (hfa : s.vm.findClass "[J" = some (dA 1)) {z : Int} (hz : z = 1) (hcells : cells + 1 ≤ R.cells) (hslots : slots + 1 ≤ R.slots) (hdg : decode cc pc = .ok (.newarray .long, 2))
    (kk : ∀ H1 : Heap, zR D dA vwCl wO 1 H.size (fun _ _ => 0) H1 → H1.size = H.size + 1 → (∀ q : Nat, q < H.size → H1[q]? = H[q]?) → W p l e R s m args below meth c H1 locs (cells + 1) (slots + 1) Q (F0 m (pc + 2) ls (.ref (H.size + 0) :: rest))) : W p l e R s m args below meth c H locs cells slots Q (F0 m pc ls (.int (iI z) :: rest)) := by
  subst hz
  refine va_newaK (atype := .long) hexec hb harr rfl hdg rfl (by decide) (N := 1) (by decide) (by decide) hcells hslots rfl fun H1 cA e1 z1 o1 hAr hNm => ?_
  have ec : cA = dA 1 := Option.some.inj (hNm.symm.trans hfa)
  subst ec
  refine kk H1 (fun j hj => ?_) z1 o1
  have h0 : j = 0 := by omega
  subst h0
  show H1[H.size + 0]? = some (vp_cell (dA 1) (1, .inr (.inl (fun k => iL 0))))
  rw [vp_cell_l]
  exact e1
end LAW
theorem y_arrN {args : Array Value} {s : State} {ty : FieldType} (h : (Cond.arrayClass ty).before args s = true) : ∃ cA : ClassId, ArrOfT s cA ty ∧ s.vm.findClass ("[" ++ ty.toString) = some cA := by
  obtain ⟨c, k, comp, h1, h2, h3⟩ := Cond.arrayClass_spec h
  exact ⟨c, fun n z => ⟨(fun k h => by cases h), k, h2, comp, h3⟩, h1⟩
theorem y_arrO {args : Array Value} {s : State} {C : String} (h : (Cond.arrayOver (.object C)).before args s = true) : ∃ cA : ClassId, ArrOfT s cA (.object C) ∧ va_RA s cA (.object C) := by
  obtain ⟨comp, c, k, h1, h2, h3, h4, h5⟩ := Cond.arrayOver_spec h
  exact ⟨c, fun n z => ⟨(fun k h => by cases h), k, h3, comp, h4⟩, k, comp, h3, h4, h1, h5⟩
theorem y_arrA {args : Array Value} {s : State} {t : FieldType} (h : (Cond.arrayOver (.array t)).before args s = true) : ∃ cA : ClassId, ArrOfT s cA (.array t) ∧ s.vm.findClass ("[" ++ (FieldType.array t).toString) = some cA := by
  obtain ⟨comp, c, k, h1, h3, h4, h5⟩ := Cond.arrayOver_specA h
  exact ⟨c, fun n z => ⟨(fun k h => by cases h), k, h3, comp, h4⟩, h5⟩
/-- the words of the law's head, with a word ahead of them as every method's -/
theorem l_hts {args : Array Value} {s : State} (h : ∀ w ∈ lw_tbl, w.before args s = true) : ∀ w ∈ Cond.tt :: zt, w.before args s = true := fun w hw => (List.mem_cons.mp hw).elim (fun e => by rw [e]; rfl) (fun q => h w (zt_in w q))
/-- the classes and their arrays, at the law's start -/
theorem l_K {args : Array Value} {s : State} (h : ∀ w ∈ lw_tbl, w.before args s = true) : ∃ (D : va_G) (dA : Nat → ClassId), zKK D vwCl (z_tys dA) s ∧ y_O s := by
  have hx : ∀ w ∈ zt, w.before args s = true := fun w q => h w (zt_in w q)
  obtain ⟨c0, i0, u0n⟩ := u_known (C := RX0) (T := TX0) (N := 8) (n := 8) hx u0 (hx _ k164)
  obtain ⟨c1, i1, u1n⟩ := u_known (C := RX1) (T := TX1) (N := 4) (n := 4) hx u1 (hx _ k125)
  obtain ⟨c2, i2, u2n⟩ := u_known (C := RX2) (T := TX2) (N := 3) (n := 3) hx u2 (hx _ k78)
  obtain ⟨c3, i3, u3n⟩ := u_known (C := RX3) (T := TX3) (N := 4) (n := 4) hx u3 (hx _ k191)
  obtain ⟨c4, i4, u4n⟩ := u_known (C := RX4) (T := TX4) (N := 6) (n := 6) hx u4 (hx _ k205)
  obtain ⟨c5, i5, u5n⟩ := u_known (C := RX5) (T := TX5) (N := 9) (n := 9) hx u5 (hx _ k138)
  obtain ⟨c6, i6, u6n⟩ := u_known (C := RX6) (T := TX6) (N := 6) (n := 6) hx u6 (hx _ k88)
  obtain ⟨c7, i7, u7n⟩ := u_known (C := RX7) (T := TX7) (N := 7) (n := 7) hx u7 (hx _ k31)
  obtain ⟨c8, i8, u8n⟩ := u_known (C := RX8) (T := TX8) (N := 2) (n := 2) hx u8 (hx _ k37)
  obtain ⟨c9, i9, u9n⟩ := u_known (C := RX9) (T := TX9) (N := 3) (n := 3) hx u9 (hx _ k71)
  obtain ⟨c10, i10, u10n⟩ := u_known (C := RX10) (T := TX10) (N := 5) (n := 5) hx u10 (hx _ k225)
  obtain ⟨c11, i11, u11n⟩ := u_known (C := RX11) (T := TX11) (N := 11) (n := 11) hx u11 (hx _ k23)
  obtain ⟨c12, i12, u12n⟩ := u_known (C := RX12) (T := TX12) (N := 50) (n := 50) hx u12 (hx _ k939)
  obtain ⟨a0, b0, d0⟩ := y_arrN (hx _ k53)
  obtain ⟨a1, b1, d1⟩ := y_arrN (hx _ k1349)
  obtain ⟨a2, b2, d2⟩ := y_arrN (hx _ k1044)
  obtain ⟨a3, b3, d3⟩ := y_arrN (hx _ k1045)
  have o4 : (Cond.arrayOver (.object "TapeRings$Strip")).before args s = true := h _ (zin0_1 (List.mem_of_getElem? (i := 37) (by decide +kernel)))
  have o5 : (Cond.arrayOver (.object "TapeRings$Motor")).before args s = true := h _ (zin0_1 (List.mem_of_getElem? (i := 91) (by decide +kernel)))
  have o6 : (Cond.arrayOver (.object "TapeRings$Ring")).before args s = true := h _ (zin0_1 (List.mem_of_getElem? (i := 93) (by decide +kernel)))
  have o7 : (Cond.arrayOver (.array .int)).before args s = true := h _ (zin0_1 (List.mem_of_getElem? (i := 184) (by decide +kernel)))
  obtain ⟨a4, b4, d4⟩ := y_arrO o4
  obtain ⟨a5, b5, d5⟩ := y_arrO o5
  obtain ⟨a6, b6, d6⟩ := y_arrO o6
  obtain ⟨a7, b7, d7⟩ := y_arrA o7
  refine ⟨(fun k => [c0, c1, c2, c3, c4, c5, c6, c7, c8, c9, c10, c11, c12].getD k 0, fun k => [i0, i1, i2, i3, i4, i5, i6, i7, i8, i9, i10, i11, i12].getD k (fun _ => 0)), fun k => [a0, a1, a2, a3, a4, a5, a6, a7].getD k 0, ⟨⟨fun k q hq => ?_, fun k q hq => ?_⟩, fun q hq => va_Nw.of rfl (h _ (z_nest_in q hq))⟩, o4, o5, o6, o7⟩
  · match k, hq with
    | 0, hq => cases hq; exact u0n
    | 1, hq => cases hq; exact u1n
    | 2, hq => cases hq; exact u2n
    | 3, hq => cases hq; exact u3n
    | 4, hq => cases hq; exact u4n
    | 5, hq => cases hq; exact u5n
    | 6, hq => cases hq; exact u6n
    | 7, hq => cases hq; exact u7n
    | 8, hq => cases hq; exact u8n
    | 9, hq => cases hq; exact u9n
    | 10, hq => cases hq; exact u10n
    | 11, hq => cases hq; exact u11n
    | 12, hq => cases hq; exact u12n
    | k + 13, hq => simp [vwCl] at hq
  · match k, hq with
    | 0, hq => cases hq; exact ⟨b0, d0⟩
    | 1, hq => cases hq; exact ⟨b1, d1⟩
    | 2, hq => cases hq; exact ⟨b2, d2⟩
    | 3, hq => cases hq; exact ⟨b3, d3⟩
    | 4, hq => cases hq; exact ⟨b4, d4⟩
    | 5, hq => cases hq; exact ⟨b5, d5⟩
    | 6, hq => cases hq; exact ⟨b6, d6⟩
    | 7, hq => cases hq; exact ⟨b7, d7⟩
    | k + 8, hq => simp [z_tys] at hq
