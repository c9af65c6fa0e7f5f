section zz49_wrap
/-! the law's own rows over the W layer; its own methods: they call, put down the answer, or catch -/
theorem l_ofWH {l : Launch} {y : MethodName} {ws ws' : List Cond} {rm : Room} {Pc : Array Value → State → Prop} {Qc : Array Value → State → Outcome → State → Prop} {mc ms : Nat} {free : Addr → Prop} {cc : ByteArray} {maxL : Nat} {ret : Option FieldType} {hh : List (Nat × Nat × Nat × Nat)}
    (hy : plainName y.cls = true) (hw : ws = Cond.codeWith y cc maxL ret hh :: ws')
    (body : ∀ p e s m args below meth c s₁, BodyLoose p l y (headSpec ws rm) cc maxL ret e s m args below meth c s₁ → c.maxLocals = maxL → Pc args s →
      W p l e (headSpec ws rm).room s m args below meth c s.heap [] 0 0 (MQ below Qc args s mc ms free) (entryFrame m args maxL)) : Met l y ws rm Pc Qc mc ms free := by
  refine MetFree.of_bodyS (code := cc) (maxLocals := maxL) (ret := ret) hy ?_ ?_
  · intro args s m h hn
    obtain ⟨m9, meth, c, hn9, h1, h2, h3, h4, -, h5, h6, -⟩ := Cond.codeWith_spec (atoms_spec (ws := ws) h _ (by rw [hw]; exact List.mem_cons_self))
    cases hn.symm.trans hn9
    exact ⟨meth, c, h1, h2, h3, h4, h5, h6⟩
  · intro p e s m args below meth c s₁ B hml hP _
    have hh0 : s₁.heap = s.heap := by rw [B.state]; rfl
    obtain ⟨t, a1, o, b1, b2, b3⟩ := body p e s m args below meth c s₁ B hml hP s₁ hh0 (Stand.of_body B)
    exact ⟨t, o, a1, b1, b2, ⟨b3.1, b3.2⟩⟩
def LW3 (D : va_G) (dA : Nat → ClassId) (b : Nat) (MC MR MO : zM) (H : Heap) : Prop := zR D dA vwCl wC nC b MC H ∧ zR D dA vwCl wR nR (b + 134) MR H ∧ zR D dA vwCl wO 1 (b + 168) MO H
theorem lw3_upC {D : va_G} {dA : Nat → ClassId} {b : Nat} {MC MR MO M1 : zM} {H H1 : Heap} (h : LW3 D dA b MC MR MO H) (hR : zR D dA vwCl wC nC b M1 H1) (hk : ∀ q : Nat, q < H.size → ¬ zA nC b q → H1[q]? = H[q]?) : LW3 D dA b M1 MR MO H1 :=
  ⟨hR, zR_kept h.2.1 (fun q h1 h2 _ => hk q h1 (fun z => by have e1 : nC = 134 := rfl; have e2 : nR = 34 := rfl; have := z.2; omega)), zR_kept h.2.2 (fun q h1 h2 _ => hk q h1 (fun z => by have e1 : nC = 134 := rfl; have e2 : nR = 34 := rfl; have := z.2; omega))⟩
theorem lw3_upR {D : va_G} {dA : Nat → ClassId} {b : Nat} {MC MR MO M1 : zM} {H H1 : Heap} (h : LW3 D dA b MC MR MO H) (hR : zR D dA vwCl wR nR (b + 134) M1 H1) (hk : ∀ q : Nat, q < H.size → ¬ zA nR (b + 134) q → H1[q]? = H[q]?) : LW3 D dA b MC M1 MO H1 :=
  ⟨zR_kept h.1 (fun q h1 _ h3 => hk q h1 (fun z => by have e1 : nC = 134 := rfl; have e2 : nR = 34 := rfl; have := z.1; omega)), hR, zR_kept h.2.2 (fun q h1 h2 _ => hk q h1 (fun z => by have e1 : nC = 134 := rfl; have e2 : nR = 34 := rfl; have := z.2; omega))⟩
theorem r01 {z : Int} (h : z = 0 ∨ z = 1) : R32 z := ⟨by omega, by omega⟩
section LAWW
variable {p : Program} {l : Launch} {e : Env} {R : Room} {s : State} {m : MethodId} {args : Array Value} {below : List Frame} {meth : Method} {c : Code} {H : Heap} {locs : List Loc} {cells slots : Nat} {Q : State → Prop}
variable {cc : ByteArray} {pc : Nat} {ls : Array Slot} {rest st0 : List Value} {D : va_G} {dA : Nat → ClassId} {H0 : Heap} {b : Nat} {MC MR MO : zM} {a : Array Value}
theorem l_wCi {post : Int → zM → Prop} (hr : va_Run p l e R s m args below meth c H locs cells slots 0 0 (F0 m pc ls st0) rest (va_Qi (wQi post) (zB D dA vwCl wC nC b) (zA nC b) a) (zA nC b)) (hS : LW3 D dA b MC MR MO H) (hS0 : va_S (yA b) H0 H locs)
    (kk : ∀ (z : Int) (M1 : zM) (H1 : Heap) (locs1 : List Loc), R32 z → post z M1 → LW3 D dA b M1 MR MO H1 → va_S (yA b) H0 H1 locs1 → W p l e R s m args below meth c H1 locs1 cells slots Q (F0 m (pc + 3) ls (.int (iI z) :: rest))) : W p l e R s m args below meth c H locs cells slots Q (F0 m pc ls st0) := by
  refine va_calli hr hS0 (fun q _ h => h.1) (fun q h => h.1) (fun r u t H1 locs1 ht _ hp hB hz hk hS1 => ?_)
  obtain ⟨z, rfl, hz, hp⟩ := hp
  unfold zB at hB
  rw [ht] at hB
  exact kk z u H1 locs1 hz hp (lw3_upC hS hB hk) hS1
theorem l_wCz {post : Int → zM → Prop} (hr : va_Run p l e R s m args below meth c H locs cells slots 0 0 (F0 m pc ls st0) rest (va_Qi (wQz post) (zB D dA vwCl wC nC b) (zA nC b) a) (zA nC b)) (hS : LW3 D dA b MC MR MO H) (hS0 : va_S (yA b) H0 H locs)
    (kk : ∀ (z : Int) (M1 : zM) (H1 : Heap) (locs1 : List Loc), (z = 0 ∨ z = 1) → post z M1 → LW3 D dA b M1 MR MO H1 → va_S (yA b) H0 H1 locs1 → W p l e R s m args below meth c H1 locs1 cells slots Q (F0 m (pc + 3) ls (.int (iI z) :: rest))) : W p l e R s m args below meth c H locs cells slots Q (F0 m pc ls st0) := by
  refine va_calli hr hS0 (fun q _ h => h.1) (fun q h => h.1) (fun r u t H1 locs1 ht _ hp hB hz hk hS1 => ?_)
  obtain ⟨z, rfl, hz, hp⟩ := hp
  unfold zB at hB
  rw [ht] at hB
  exact kk z u H1 locs1 hz hp (lw3_upC hS hB hk) hS1
theorem l_wCl {post : Int → zM → Prop} (hr : va_Run p l e R s m args below meth c H locs cells slots 0 0 (F0 m pc ls st0) rest (va_Ql (wQl post) (zB D dA vwCl wC nC b) (zA nC b) a) (zA nC b)) (hS : LW3 D dA b MC MR MO H) (hS0 : va_S (yA b) H0 H locs)
    (kk : ∀ (z : Int) (M1 : zM) (H1 : Heap) (locs1 : List Loc), R64 z → post z M1 → LW3 D dA b M1 MR MO H1 → va_S (yA b) H0 H1 locs1 → W p l e R s m args below meth c H1 locs1 cells slots Q (F0 m (pc + 3) ls (.long (iL z) :: rest))) : W p l e R s m args below meth c H locs cells slots Q (F0 m pc ls st0) := by
  refine va_calll hr hS0 (fun q _ h => h.1) (fun q h => h.1) (fun r u t H1 locs1 ht _ hp hB hz hk hS1 => ?_)
  obtain ⟨z, rfl, hz, hp⟩ := hp
  unfold zB at hB
  rw [ht] at hB
  exact kk z u H1 locs1 hz hp (lw3_upC hS hB hk) hS1
theorem l_wRi {post : Int → zM → Prop} (hr : va_Run p l e R s m args below meth c H locs cells slots 0 0 (F0 m pc ls st0) rest (va_Qi (wQi post) (zB D dA vwCl wR nR (b + 134)) (zA nR (b + 134)) a) (zA nR (b + 134))) (hS : LW3 D dA b MC MR MO H) (hS0 : va_S (yA b) H0 H locs)
    (kk : ∀ (z : Int) (M1 : zM) (H1 : Heap) (locs1 : List Loc), R32 z → post z M1 → LW3 D dA b MC M1 MO H1 → va_S (yA b) H0 H1 locs1 → W p l e R s m args below meth c H1 locs1 cells slots Q (F0 m (pc + 3) ls (.int (iI z) :: rest))) : W p l e R s m args below meth c H locs cells slots Q (F0 m pc ls st0) := by
  refine va_calli hr hS0 (fun q _ h => by have := h.1; show b ≤ q; omega) (fun q h => by have := h.1; show b ≤ q; omega) (fun r u t H1 locs1 ht _ hp hB hz hk hS1 => ?_)
  obtain ⟨z, rfl, hz, hp⟩ := hp
  unfold zB at hB
  rw [ht] at hB
  exact kk z u H1 locs1 hz hp (lw3_upR hS hB hk) hS1
theorem l_wRz {post : Int → zM → Prop} (hr : va_Run p l e R s m args below meth c H locs cells slots 0 0 (F0 m pc ls st0) rest (va_Qi (wQz post) (zB D dA vwCl wR nR (b + 134)) (zA nR (b + 134)) a) (zA nR (b + 134))) (hS : LW3 D dA b MC MR MO H) (hS0 : va_S (yA b) H0 H locs)
    (kk : ∀ (z : Int) (M1 : zM) (H1 : Heap) (locs1 : List Loc), (z = 0 ∨ z = 1) → post z M1 → LW3 D dA b MC M1 MO H1 → va_S (yA b) H0 H1 locs1 → W p l e R s m args below meth c H1 locs1 cells slots Q (F0 m (pc + 3) ls (.int (iI z) :: rest))) : W p l e R s m args below meth c H locs cells slots Q (F0 m pc ls st0) := by
  refine va_calli hr hS0 (fun q _ h => by have := h.1; show b ≤ q; omega) (fun q h => by have := h.1; show b ≤ q; omega) (fun r u t H1 locs1 ht _ hp hB hz hk hS1 => ?_)
  obtain ⟨z, rfl, hz, hp⟩ := hp
  unfold zB at hB
  rw [ht] at hB
  exact kk z u H1 locs1 hz hp (lw3_upR hS hB hk) hS1
theorem l_wRl {post : Int → zM → Prop} (hr : va_Run p l e R s m args below meth c H locs cells slots 0 0 (F0 m pc ls st0) rest (va_Ql (wQl post) (zB D dA vwCl wR nR (b + 134)) (zA nR (b + 134)) a) (zA nR (b + 134))) (hS : LW3 D dA b MC MR MO H) (hS0 : va_S (yA b) H0 H locs)
    (kk : ∀ (z : Int) (M1 : zM) (H1 : Heap) (locs1 : List Loc), R64 z → post z M1 → LW3 D dA b MC M1 MO H1 → va_S (yA b) H0 H1 locs1 → W p l e R s m args below meth c H1 locs1 cells slots Q (F0 m (pc + 3) ls (.long (iL z) :: rest))) : W p l e R s m args below meth c H locs cells slots Q (F0 m pc ls st0) := by
  refine va_calll hr hS0 (fun q _ h => by have := h.1; show b ≤ q; omega) (fun q h => by have := h.1; show b ≤ q; omega) (fun r u t H1 locs1 ht _ hp hB hz hk hS1 => ?_)
  obtain ⟨z, rfl, hz, hp⟩ := hp
  unfold zB at hB
  rw [ht] at hB
  exact kk z u H1 locs1 hz hp (lw3_upR hS hB hk) hS1
/-- a long is put into the row of one -/
theorem l_lastW {cl : List vw_C} {tys : List (ClassId × FieldType)} {M : zM} {A : Nat → Prop} (hexec : p.tables.exec = Jvm.exec) (hb : c.code = cc) (hK : va_K D cl tys s) {t0 : Nat} (ht : tys[t0]? = some (dA 1, .long)) (hR : zR D dA cl wO 1 b M H) (hS0 : va_S A H0 H locs) (hA : A (b + 0)) {z : Int} (hdg : decode cc pc = .ok (.lastore, 1))
    (kk : ∀ (H1 : Heap) (locs1 : List Loc), zR D dA cl wO 1 b (zup M 0 0 z) H1 → (∀ q : Nat, q ≠ b + 0 → H1[q]? = H[q]?) → va_S A H0 H1 locs1 → W p l e R s m args below meth c H1 locs1 cells slots Q (F0 m (pc + 1) ls rest)) : W p l e R s m args below meth c H locs cells slots Q (F0 m pc ls (.long (iL z) :: .int (iI 0) :: .ref (b + 0) :: rest)) := by
  obtain ⟨v1, v2⟩ := iI_in (z := 0) (n := 1) (by decide) (by decide) (by decide)
  have hP : H[b + 0]? = some (vp_cell (dA 1) (1, .inr (.inl (fun k => iL (M 0 k))))) := hR 0 (by decide)
  rw [vp_cell_l] at hP
  refine W.last hexec hb hP ((hK.2 t0 _ ht).1 1 (fun j3 => .long (iL (M 0 j3)))) (fun q => by cases q) (by show ¬ (iI 0 < 0 ∨ (arrV _ _ _).slots.size ≤ _); rw [arrV_size]; exact v1) rfl rfl hdg fun H1 e1 e2 e3 => ?_
  refine kk H1 _ (fun j hj => ?_) e3 (hS0.put e2 e3 hA)
  have h0 : j = 0 := by omega
  subst h0
  show H1[b + 0]? = some (vp_cell (dA 1) (1, .inr (.inl (fun k => iL (zup M 0 0 z 0 k)))))
  rw [e1, vp_cell_l, arrV_store, v2]
  congr 2
  funext q
  by_cases hq : q = 0
  · subst hq
    simp [updV, zup_s]
  · show updV _ (0 : Int).toNat _ q = _
    simp only [updV, show (0 : Int).toNat = 0 from rfl, if_neg hq]
    rw [zup_n]
    exact fun x => hq x.2
end LAWW
/-- what the law's own methods may change: the class's cells, the row of one, new ones -/
def lA (b : Nat) : Nat → Prop := fun q => zA nC b q ∨ b + 168 ≤ q
def wPW (D : va_G) (dA : Nat → ClassId) (b : Nat) (MC MO : zM) : State → Prop := fun U => wPre D dA vwCl (z_tys dA) wC nC b MC U ∧ zR D dA vwCl wO 1 (b + 168) MO U.heap ∧ zTw U ∧ zZ (yA b) U U.heap
theorem wPW_blind {D : va_G} {dA : Nat → ClassId} {b : Nat} {MC MO : zM} {As : List Value} : FrameBlind (va_Pc As (wPW D dA b MC MO)) := fun a U g mk q => ⟨q.1, (wPre_blind a U g mk ⟨q.1, q.2.1⟩).2, q.2.2.1, zTw.same (u := U) rfl q.2.2.2.1, zZ.moved (u := U) (U := U.calling g mk _) (Vm.Alike.refl U.vm) q.2.2.2.2⟩
def zBW (D : va_G) (dA : Nat → ClassId) (b : Nat) : zM × zM → State → Prop := fun u t => zR D dA vwCl wC nC b u.1 t.heap ∧ zR D dA vwCl wO 1 (b + 168) u.2 t.heap
def wQW (inr : Int → Prop) (MC MO : zM) (post : Int → Prop) (P : Prop) : Int32 → zM × zM → Prop := fun r u => (r = iI 0 ∧ ∃ v, inr v ∧ post v ∧ u.1 = MC ∧ u.2 = zup MO 0 0 v) ∨ (r = iI 1 ∧ P ∧ u.1 = MC ∧ u.2 = MO)
theorem w_of : Cond.codeWith yL_of cL_of 5 (some .int) [(0, 10, 13, 13)] ∈ zt := zin_5 (List.mem_of_getElem? (i := 61) (by decide +kernel)) rfl
theorem w_way : Cond.codeWith yL_way cL_way 5 (some .int) [(0, 9, 12, 13)] ∈ zt := zin_5 (List.mem_of_getElem? (i := 131) (by decide +kernel)) rfl
theorem w_row : Cond.codeWith yL_row cL_row 4 (some .int) [(0, 9, 12, 13)] ∈ zt := zin_5 (List.mem_of_getElem? (i := 140) (by decide +kernel)) rfl
theorem q49wrap_0_0 : (cL_of.data.toList.drop 0).take 19 = [45, 3, 42, 27, 28, 182, 0, 7, 133, 80, 167, 0, 7, 58, 4, 4, 172, 3, 172] := by decide +kernel
theorem dL_of_0 : decode cL_of 0 = .ok (.aload_n 3, 1) := dz_45 (dz_at q49wrap_0_0 0)
theorem dL_of_1 : decode cL_of 1 = .ok (.iconst 0, 1) := dz_3 (dz_at q49wrap_0_0 1)
theorem dL_of_10 : decode cL_of 10 = .ok (.goto 7, 3) := dz_167 (dz_at q49wrap_0_0 10) (by decide +kernel)
theorem dL_of_13 : decode cL_of 13 = .ok (.astore 4, 2) := dz_58 (dz_at q49wrap_0_0 13)
theorem dL_of_15 : decode cL_of 15 = .ok (.iconst 1, 1) := dz_4 (dz_at q49wrap_0_0 15)
theorem dL_of_16 : decode cL_of 16 = .ok (.ireturn, 1) := dz_172 (dz_at q49wrap_0_0 16)
theorem dL_of_17 : decode cL_of 17 = .ok (.iconst 0, 1) := dz_3 (dz_at q49wrap_0_0 17)
theorem dL_of_18 : decode cL_of 18 = .ok (.ireturn, 1) := dz_172 (dz_at q49wrap_0_0 18)
theorem dL_of_2 : decode cL_of 2 = .ok (.aload_n 0, 1) := dz_42 (dz_at q49wrap_0_0 2)
theorem dL_of_3 : decode cL_of 3 = .ok (.iload_n 1, 1) := dz_27 (dz_at q49wrap_0_0 3)
theorem dL_of_4 : decode cL_of 4 = .ok (.iload_n 2, 1) := dz_28 (dz_at q49wrap_0_0 4)
theorem dL_of_5 : decode cL_of 5 = .ok (.invokevirtual 7, 3) := dz_182 (dz_at q49wrap_0_0 5) rfl
theorem dL_of_8 : decode cL_of 8 = .ok (.i2l, 1) := dz_133 (dz_at q49wrap_0_0 8)
theorem dL_of_9 : decode cL_of 9 = .ok (.lastore, 1) := dz_80 (dz_at q49wrap_0_0 9)
theorem q49wrap_1_0 : (cL_row.data.toList.drop 0).take 17 = [44, 3, 42, 27, 182, 0, 19, 133, 80, 167, 0, 6, 78, 4, 172, 3, 172] := by decide +kernel
theorem dL_row_0 : decode cL_row 0 = .ok (.aload_n 2, 1) := dz_44 (dz_at q49wrap_1_0 0)
theorem dL_row_1 : decode cL_row 1 = .ok (.iconst 0, 1) := dz_3 (dz_at q49wrap_1_0 1)
theorem dL_row_12 : decode cL_row 12 = .ok (.astore_n 3, 1) := dz_78 (dz_at q49wrap_1_0 12)
theorem dL_row_13 : decode cL_row 13 = .ok (.iconst 1, 1) := dz_4 (dz_at q49wrap_1_0 13)
theorem dL_row_14 : decode cL_row 14 = .ok (.ireturn, 1) := dz_172 (dz_at q49wrap_1_0 14)
theorem dL_row_15 : decode cL_row 15 = .ok (.iconst 0, 1) := dz_3 (dz_at q49wrap_1_0 15)
theorem dL_row_16 : decode cL_row 16 = .ok (.ireturn, 1) := dz_172 (dz_at q49wrap_1_0 16)
theorem dL_row_2 : decode cL_row 2 = .ok (.aload_n 0, 1) := dz_42 (dz_at q49wrap_1_0 2)
theorem dL_row_3 : decode cL_row 3 = .ok (.iload_n 1, 1) := dz_27 (dz_at q49wrap_1_0 3)
theorem dL_row_4 : decode cL_row 4 = .ok (.invokevirtual 19, 3) := dz_182 (dz_at q49wrap_1_0 4) rfl
theorem dL_row_7 : decode cL_row 7 = .ok (.i2l, 1) := dz_133 (dz_at q49wrap_1_0 7)
theorem dL_row_8 : decode cL_row 8 = .ok (.lastore, 1) := dz_80 (dz_at q49wrap_1_0 8)
theorem dL_row_9 : decode cL_row 9 = .ok (.goto 6, 3) := dz_167 (dz_at q49wrap_1_0 9) (by decide +kernel)
theorem q49wrap_2_0 : (cL_way.data.toList.drop 0).take 18 = [45, 3, 42, 27, 28, 182, 0, 15, 80, 167, 0, 7, 58, 4, 4, 172, 3, 172] := by decide +kernel
theorem dL_way_0 : decode cL_way 0 = .ok (.aload_n 3, 1) := dz_45 (dz_at q49wrap_2_0 0)
theorem dL_way_1 : decode cL_way 1 = .ok (.iconst 0, 1) := dz_3 (dz_at q49wrap_2_0 1)
theorem dL_way_12 : decode cL_way 12 = .ok (.astore 4, 2) := dz_58 (dz_at q49wrap_2_0 12)
theorem dL_way_14 : decode cL_way 14 = .ok (.iconst 1, 1) := dz_4 (dz_at q49wrap_2_0 14)
theorem dL_way_15 : decode cL_way 15 = .ok (.ireturn, 1) := dz_172 (dz_at q49wrap_2_0 15)
theorem dL_way_16 : decode cL_way 16 = .ok (.iconst 0, 1) := dz_3 (dz_at q49wrap_2_0 16)
theorem dL_way_17 : decode cL_way 17 = .ok (.ireturn, 1) := dz_172 (dz_at q49wrap_2_0 17)
theorem dL_way_2 : decode cL_way 2 = .ok (.aload_n 0, 1) := dz_42 (dz_at q49wrap_2_0 2)
theorem dL_way_3 : decode cL_way 3 = .ok (.iload_n 1, 1) := dz_27 (dz_at q49wrap_2_0 3)
theorem dL_way_4 : decode cL_way 4 = .ok (.iload_n 2, 1) := dz_28 (dz_at q49wrap_2_0 4)
theorem dL_way_5 : decode cL_way 5 = .ok (.invokevirtual 15, 3) := dz_182 (dz_at q49wrap_2_0 5) rfl
theorem dL_way_8 : decode cL_way 8 = .ok (.lastore, 1) := dz_80 (dz_at q49wrap_2_0 8)
theorem dL_way_9 : decode cL_way 9 = .ok (.goto 7, 3) := dz_167 (dz_at q49wrap_2_0 9) (by decide +kernel)
theorem dm_X11_of : yX11_of.cls = RX11 ∧ yX11_of.cls ≠ "java/lang/invoke/MethodHandle" ∧ yX11_of.cls ≠ "java/lang/invoke/VarHandle" ∧ (parseMethodDescriptor yX11_of.desc).map (fun d => d.parameters.length) = some 2 := by decide +kernel
theorem dm_X11_way : yX11_way.cls = RX11 ∧ yX11_way.cls ≠ "java/lang/invoke/MethodHandle" ∧ yX11_way.cls ≠ "java/lang/invoke/VarHandle" ∧ (parseMethodDescriptor yX11_way.desc).map (fun d => d.parameters.length) = some 2 := by decide +kernel
theorem dm_X11_row : yX11_row.cls = RX11 ∧ yX11_row.cls ≠ "java/lang/invoke/MethodHandle" ∧ yX11_row.cls ≠ "java/lang/invoke/VarHandle" ∧ (parseMethodDescriptor yX11_row.desc).map (fun d => d.parameters.length) = some 1 := by decide +kernel
set_option maxHeartbeats 4000000 in
set_option maxRecDepth 100000 in
theorem lw_of {l : Launch} {D : va_G} {dA : Nat → ClassId} {b dd : Nat} {MC MO : zM} {a0 a1 : Int} {post : Int → Prop} {P : Prop}
    (hM : vx_Met l yX11_of (.code yX11_of cX11_of 4 (some .int) :: zt) (z_rmT dd) (va_Pc [.ref (b + 0), .int (iI a0), .int (iI a1)] (wPreT D dA vwCl (z_tys dA) wC nC b MC)) (va_Qi (wQi (fun z9 u9 => u9 = MC ∧ post z9)) (zB D dA vwCl wC nC b) (zA nC b)) (zXC D dA vwCl wC nC b MC P) 1 6 (zA nC b)) :
    Met l yL_of (.codeWith yL_of cL_of 5 (some .int) [(0, 10, 13, 13)] :: zt) (z_rmT (dd + 1)) (va_Pc [.ref (b + 0), .int (iI a0), .int (iI a1), .ref (b + 168 + 0)] (wPW D dA b MC MO)) (va_Qi (wQW R32 MC MO post P) (zBW D dA b) (lA b)) 1 6 (lA b) := by
  refine l_ofWH (cc := cL_of) (maxL := 5) (ret := some .int) (hh := [(0, 10, 13, 13)]) (by decide) rfl ?_
  intro p e s m args below meth c s₁ B hml hv
  obtain ⟨hargs, hPC, hRO, hTw, hZ⟩ := hv
  obtain ⟨hRC, hK⟩ := id hPC
  have hx := B.exec
  have hb := B.bytes
  have hr := B.returns
  have hts := atoms_spec (ws := .codeWith yL_of cL_of 5 (some .int) [(0, 10, 13, 13)] :: zt) B.pre
  have hown : s.vm.findClass RL = some m.cls := findClass_of_methodNamed B.named
  have hlocks := B.notSynchronized
  have htab := vx_table (x := yL_of) B (hts _ List.mem_cons_self)
  have hS0 : va_S (lA b) s.heap s.heap [] := va_S.rf
  have hl := lv_entry ([.ref (b + 0), .int (iI a0), .int (iI a1), .ref (b + 168 + 0)]) (n := 5) (Nat.le_of_ble_eq_true rfl)
  have hent : entryFrame m args 5 = F0 m 0 ((lg_sl ([.ref (b + 0), .int (iI a0), .int (iI a1), .ref (b + 168 + 0)]) ++ List.replicate (5 - (lg_sl ([.ref (b + 0), .int (iI a0), .int (iI a1), .ref (b + 168 + 0)])).length) Slot.unset).toArray) [] := by rw [hargs]; exact lg_entry_eq m ([.ref (b + 0), .int (iI a0), .int (iI a1), .ref (b + 168 + 0)]) 5
  rw [hent]
  generalize (lg_sl ([.ref (b + 0), .int (iI a0), .int (iI a1), .ref (b + 168 + 0)]) ++ List.replicate (5 - (lg_sl ([.ref (b + 0), .int (iI a0), .int (iI a1), .ref (b + 168 + 0)])).length) Slot.unset).toArray = ls at hl ⊢
  have hl : lv_has ls 5 [(0, .ref (b + 0)), (1, .int (iI a0)), (2, .int (iI a1)), (3, .ref (b + 168 + 0))] := hl
  refine lv_aload_n hx hb dL_of_0 rfl (lv_at hl 3 rfl) ?_
  refine z_iconst hx hb dL_of_1 ?_
  refine lv_aload_n hx hb dL_of_2 rfl (lv_at hl 0 rfl) ?_
  refine lv_iload_n hx hb dL_of_3 rfl (lv_at hl 1 rfl) ?_
  refine lv_iload_n hx hb dL_of_4 rfl (lv_at hl 2 rfl) ?_
  refine vx_calli (vx_runV (As := [.int (iI a0), .int (iI a1)]) (rest := [.int (iI 0), .ref (b + 168 + 0)]) ⟨hx, hb, hml, hown, hts⟩ hM (cwV 2 hts (z_gV k879 k880 k881 k1 k882) rfl rfl rfl dm_X11_of ⟨by show dd + 6 + 1 ≤ dd + 1 + 6; omega, by show 8 + (4 + 11) + 64 * (dd + 6) ≤ 64 * (dd + 1 + 6); omega⟩) ⟨wPreT_blind, w_recv hRC hK.1 (by decide) (zkd_of (rfl : zcd wC 0 = 0) rfl) (by decide) (rfl : vwCl[11]? = some (RX11, TX11, 11)), fun U hU hW => ⟨rfl, (w_pre (As := []) hRC hK U hU hW).2, hTw.warm hW, by rw [hU]; exact (hZ.narrow (fun q h => h.1)).moved hW.alike⟩⟩ rfl rfl hl.1 rfl (lv_room (Nat.le_of_ble_eq_true rfl)) dL_of_5 ⟨Nat.le_refl _, Nat.le_refl _⟩) hS0 (fun q _ h => Or.inl h) (fun q h => Or.inl h) (fun q _ h => Or.inl h) (fun E ce q9 u t H1 locs1 ht hvm hpx hBX hz hk hS1 hce hcv hcl => ?_) (fun r u t H1 locs1 ht hvm hp hB hz hk hS1 => ?_)
  · obtain ⟨rfl, hR1⟩ := hBX
    rw [ht] at hR1
    refine vx_catch (name := "java/util/NoSuchElementException") hown [] ⟨0, 10, 13, 13⟩ [] htab (fun z hz => nomatch hz) rfl (by decide) (hts _ (z_mem k878)) (va_Nw.use rfl hTw.1) hce hcv hcl ?_
    refine lv_astore (lv' := [(4, .ref q9), (0, .ref (b + 0)), (1, .int (iI a0)), (2, .int (iI a1)), (3, .ref (b + 168 + 0))]) hx hb dL_of_13 hl (by decide) rfl (fun ls hl => ?_)
    refine z_iconst hx hb dL_of_15 ?_
    exact W.iret hx hb hr (fun t9 ht9 hW => ⟨⟨iI 1, (MC, MO), rfl, Or.inr ⟨rfl, hpx, rfl, rfl⟩, by rw [show t9.heap = H1 from ht9]; exact hR1, by rw [show t9.heap = H1 from ht9]; exact zR_kept hRO (fun q h1 h2 h3 => hk q h1 (fun z => by have e1 : nC = 134 := rfl; have e2 : nR = 34 := rfl; have := z.2; omega))⟩, hS1.F ht9⟩) hS1.2.2 dL_of_16 hlocks
  · obtain ⟨v, rfl, hv9, hu9, hp1⟩ := hp
    unfold zB at hB
    rw [ht, hu9] at hB
    refine z_i2l hx hb hv9 dL_of_8 ?_
    refine l_lastW (b := b + 168) hx hb hK.1 (t0 := 1) rfl (zR_kept hRO (fun q h1 h2 h3 => hk q h1 (fun z => by have e1 : nC = 134 := rfl; have e2 : nR = 34 := rfl; have := z.2; omega))) hS1 (Or.inr (show b + 168 ≤ b + 168 + 0 by omega)) dL_of_9 (fun H2 locs2 hR2 hk2 hS2 => ?_)
    refine lv_goto (tgt := 17) hx hb dL_of_10 (by decide) ?_
    refine z_iconst hx hb dL_of_17 ?_
    exact W.iret hx hb hr (fun t9 ht9 hW => ⟨⟨iI 0, (MC, zup MO 0 0 v), rfl, Or.inl ⟨rfl, v, hv9, hp1, rfl, rfl⟩, by rw [show t9.heap = H2 from ht9]; exact zR_kept hB (fun q h1 h2 h3 => hk2 q (by have e1 : nC = 134 := rfl; omega)), by rw [show t9.heap = H2 from ht9]; exact hR2⟩, hS2.F ht9⟩) hS2.2.2 dL_of_18 hlocks
set_option maxHeartbeats 4000000 in
set_option maxRecDepth 100000 in
theorem lw_way {l : Launch} {D : va_G} {dA : Nat → ClassId} {b dd : Nat} {MC MO : zM} {a0 a1 : Int} {post : Int → Prop} {P : Prop}
    (hM : vx_Met l yX11_way (.code yX11_way cX11_way 3 (some .long) :: zt) (z_rmT dd) (va_Pc [.ref (b + 0), .int (iI a0), .int (iI a1)] (wPreT D dA vwCl (z_tys dA) wC nC b MC)) (va_Ql (wQl (fun z9 u9 => u9 = MC ∧ post z9)) (zB D dA vwCl wC nC b) (zA nC b)) (zXC D dA vwCl wC nC b MC P) 1 6 (zA nC b)) :
    Met l yL_way (.codeWith yL_way cL_way 5 (some .int) [(0, 9, 12, 13)] :: zt) (z_rmT (dd + 1)) (va_Pc [.ref (b + 0), .int (iI a0), .int (iI a1), .ref (b + 168 + 0)] (wPW D dA b MC MO)) (va_Qi (wQW R64 MC MO post P) (zBW D dA b) (lA b)) 1 6 (lA b) := by
  refine l_ofWH (cc := cL_way) (maxL := 5) (ret := some .int) (hh := [(0, 9, 12, 13)]) (by decide) rfl ?_
  intro p e s m args below meth c s₁ B hml hv
  obtain ⟨hargs, hPC, hRO, hTw, hZ⟩ := hv
  obtain ⟨hRC, hK⟩ := id hPC
  have hx := B.exec
  have hb := B.bytes
  have hr := B.returns
  have hts := atoms_spec (ws := .codeWith yL_way cL_way 5 (some .int) [(0, 9, 12, 13)] :: zt) B.pre
  have hown : s.vm.findClass RL = some m.cls := findClass_of_methodNamed B.named
  have hlocks := B.notSynchronized
  have htab := vx_table (x := yL_way) B (hts _ List.mem_cons_self)
  have hS0 : va_S (lA b) s.heap s.heap [] := va_S.rf
  have hl := lv_entry ([.ref (b + 0), .int (iI a0), .int (iI a1), .ref (b + 168 + 0)]) (n := 5) (Nat.le_of_ble_eq_true rfl)
  have hent : entryFrame m args 5 = F0 m 0 ((lg_sl ([.ref (b + 0), .int (iI a0), .int (iI a1), .ref (b + 168 + 0)]) ++ List.replicate (5 - (lg_sl ([.ref (b + 0), .int (iI a0), .int (iI a1), .ref (b + 168 + 0)])).length) Slot.unset).toArray) [] := by rw [hargs]; exact lg_entry_eq m ([.ref (b + 0), .int (iI a0), .int (iI a1), .ref (b + 168 + 0)]) 5
  rw [hent]
  generalize (lg_sl ([.ref (b + 0), .int (iI a0), .int (iI a1), .ref (b + 168 + 0)]) ++ List.replicate (5 - (lg_sl ([.ref (b + 0), .int (iI a0), .int (iI a1), .ref (b + 168 + 0)])).length) Slot.unset).toArray = ls at hl ⊢
  have hl : lv_has ls 5 [(0, .ref (b + 0)), (1, .int (iI a0)), (2, .int (iI a1)), (3, .ref (b + 168 + 0))] := hl
  refine lv_aload_n hx hb dL_way_0 rfl (lv_at hl 3 rfl) ?_
  refine z_iconst hx hb dL_way_1 ?_
  refine lv_aload_n hx hb dL_way_2 rfl (lv_at hl 0 rfl) ?_
  refine lv_iload_n hx hb dL_way_3 rfl (lv_at hl 1 rfl) ?_
  refine lv_iload_n hx hb dL_way_4 rfl (lv_at hl 2 rfl) ?_
  refine vx_calll (vx_runV (As := [.int (iI a0), .int (iI a1)]) (rest := [.int (iI 0), .ref (b + 168 + 0)]) ⟨hx, hb, hml, hown, hts⟩ hM (cwV 2 hts (z_gV k926 k927 k928 k1 k929) rfl rfl rfl dm_X11_way ⟨by show dd + 6 + 1 ≤ dd + 1 + 6; omega, by show 8 + (3 + 11) + 64 * (dd + 6) ≤ 64 * (dd + 1 + 6); omega⟩) ⟨wPreT_blind, w_recv hRC hK.1 (by decide) (zkd_of (rfl : zcd wC 0 = 0) rfl) (by decide) (rfl : vwCl[11]? = some (RX11, TX11, 11)), fun U hU hW => ⟨rfl, (w_pre (As := []) hRC hK U hU hW).2, hTw.warm hW, by rw [hU]; exact (hZ.narrow (fun q h => h.1)).moved hW.alike⟩⟩ rfl rfl hl.1 rfl (lv_room (Nat.le_of_ble_eq_true rfl)) dL_way_5 ⟨Nat.le_refl _, Nat.le_refl _⟩) hS0 (fun q _ h => Or.inl h) (fun q h => Or.inl h) (fun q _ h => Or.inl h) (fun E ce q9 u t H1 locs1 ht hvm hpx hBX hz hk hS1 hce hcv hcl => ?_) (fun r u t H1 locs1 ht hvm hp hB hz hk hS1 => ?_)
  · obtain ⟨rfl, hR1⟩ := hBX
    rw [ht] at hR1
    refine vx_catch (name := "java/util/NoSuchElementException") hown [] ⟨0, 9, 12, 13⟩ [] htab (fun z hz => nomatch hz) rfl (by decide) (hts _ (z_mem k878)) (va_Nw.use rfl hTw.1) hce hcv hcl ?_
    refine lv_astore (lv' := [(4, .ref q9), (0, .ref (b + 0)), (1, .int (iI a0)), (2, .int (iI a1)), (3, .ref (b + 168 + 0))]) hx hb dL_way_12 hl (by decide) rfl (fun ls hl => ?_)
    refine z_iconst hx hb dL_way_14 ?_
    exact W.iret hx hb hr (fun t9 ht9 hW => ⟨⟨iI 1, (MC, MO), rfl, Or.inr ⟨rfl, hpx, rfl, rfl⟩, by rw [show t9.heap = H1 from ht9]; exact hR1, by rw [show t9.heap = H1 from ht9]; exact zR_kept hRO (fun q h1 h2 h3 => hk q h1 (fun z => by have e1 : nC = 134 := rfl; have e2 : nR = 34 := rfl; have := z.2; omega))⟩, hS1.F ht9⟩) hS1.2.2 dL_way_15 hlocks
  · obtain ⟨v, rfl, hv9, hu9, hp1⟩ := hp
    unfold zB at hB
    rw [ht, hu9] at hB
    refine l_lastW (b := b + 168) hx hb hK.1 (t0 := 1) rfl (zR_kept hRO (fun q h1 h2 h3 => hk q h1 (fun z => by have e1 : nC = 134 := rfl; have e2 : nR = 34 := rfl; have := z.2; omega))) hS1 (Or.inr (show b + 168 ≤ b + 168 + 0 by omega)) dL_way_8 (fun H2 locs2 hR2 hk2 hS2 => ?_)
    refine lv_goto (tgt := 16) hx hb dL_way_9 (by decide) ?_
    refine z_iconst hx hb dL_way_16 ?_
    exact W.iret hx hb hr (fun t9 ht9 hW => ⟨⟨iI 0, (MC, zup MO 0 0 v), rfl, Or.inl ⟨rfl, v, hv9, hp1, rfl, rfl⟩, by rw [show t9.heap = H2 from ht9]; exact zR_kept hB (fun q h1 h2 h3 => hk2 q (by have e1 : nC = 134 := rfl; omega)), by rw [show t9.heap = H2 from ht9]; exact hR2⟩, hS2.F ht9⟩) hS2.2.2 dL_way_17 hlocks
set_option maxHeartbeats 4000000 in
set_option maxRecDepth 100000 in
theorem lw_row {l : Launch} {D : va_G} {dA : Nat → ClassId} {b dd : Nat} {MC MO : zM} {a0 : Int} {post : Int → Prop} {P : Prop}
    (hM : vx_Met l yX11_row (.code yX11_row cX11_row 2 (some .int) :: zt) (z_rmT dd) (va_Pc [.ref (b + 0), .int (iI a0)] (wPreT D dA vwCl (z_tys dA) wC nC b MC)) (va_Qi (wQi (fun z9 u9 => u9 = MC ∧ post z9)) (zB D dA vwCl wC nC b) (zA nC b)) (zXC D dA vwCl wC nC b MC P) 1 6 (zA nC b)) :
    Met l yL_row (.codeWith yL_row cL_row 4 (some .int) [(0, 9, 12, 13)] :: zt) (z_rmT (dd + 1)) (va_Pc [.ref (b + 0), .int (iI a0), .ref (b + 168 + 0)] (wPW D dA b MC MO)) (va_Qi (wQW R32 MC MO post P) (zBW D dA b) (lA b)) 1 6 (lA b) := by
  refine l_ofWH (cc := cL_row) (maxL := 4) (ret := some .int) (hh := [(0, 9, 12, 13)]) (by decide) rfl ?_
  intro p e s m args below meth c s₁ B hml hv
  obtain ⟨hargs, hPC, hRO, hTw, hZ⟩ := hv
  obtain ⟨hRC, hK⟩ := id hPC
  have hx := B.exec
  have hb := B.bytes
  have hr := B.returns
  have hts := atoms_spec (ws := .codeWith yL_row cL_row 4 (some .int) [(0, 9, 12, 13)] :: zt) B.pre
  have hown : s.vm.findClass RL = some m.cls := findClass_of_methodNamed B.named
  have hlocks := B.notSynchronized
  have htab := vx_table (x := yL_row) B (hts _ List.mem_cons_self)
  have hS0 : va_S (lA b) s.heap s.heap [] := va_S.rf
  have hl := lv_entry ([.ref (b + 0), .int (iI a0), .ref (b + 168 + 0)]) (n := 4) (Nat.le_of_ble_eq_true rfl)
  have hent : entryFrame m args 4 = F0 m 0 ((lg_sl ([.ref (b + 0), .int (iI a0), .ref (b + 168 + 0)]) ++ List.replicate (4 - (lg_sl ([.ref (b + 0), .int (iI a0), .ref (b + 168 + 0)])).length) Slot.unset).toArray) [] := by rw [hargs]; exact lg_entry_eq m ([.ref (b + 0), .int (iI a0), .ref (b + 168 + 0)]) 4
  rw [hent]
  generalize (lg_sl ([.ref (b + 0), .int (iI a0), .ref (b + 168 + 0)]) ++ List.replicate (4 - (lg_sl ([.ref (b + 0), .int (iI a0), .ref (b + 168 + 0)])).length) Slot.unset).toArray = ls at hl ⊢
  have hl : lv_has ls 4 [(0, .ref (b + 0)), (1, .int (iI a0)), (2, .ref (b + 168 + 0))] := hl
  refine lv_aload_n hx hb dL_row_0 rfl (lv_at hl 2 rfl) ?_
  refine z_iconst hx hb dL_row_1 ?_
  refine lv_aload_n hx hb dL_row_2 rfl (lv_at hl 0 rfl) ?_
  refine lv_iload_n hx hb dL_row_3 rfl (lv_at hl 1 rfl) ?_
  refine vx_calli (vx_runV (As := [.int (iI a0)]) (rest := [.int (iI 0), .ref (b + 168 + 0)]) ⟨hx, hb, hml, hown, hts⟩ hM (cwV 1 hts (z_gV k934 k935 k936 k1 k937) rfl rfl rfl dm_X11_row ⟨by show dd + 6 + 1 ≤ dd + 1 + 6; omega, by show 8 + (2 + 11) + 64 * (dd + 6) ≤ 64 * (dd + 1 + 6); omega⟩) ⟨wPreT_blind, w_recv hRC hK.1 (by decide) (zkd_of (rfl : zcd wC 0 = 0) rfl) (by decide) (rfl : vwCl[11]? = some (RX11, TX11, 11)), fun U hU hW => ⟨rfl, (w_pre (As := []) hRC hK U hU hW).2, hTw.warm hW, by rw [hU]; exact (hZ.narrow (fun q h => h.1)).moved hW.alike⟩⟩ rfl rfl hl.1 rfl (lv_room (Nat.le_of_ble_eq_true rfl)) dL_row_4 ⟨Nat.le_refl _, Nat.le_refl _⟩) hS0 (fun q _ h => Or.inl h) (fun q h => Or.inl h) (fun q _ h => Or.inl h) (fun E ce q9 u t H1 locs1 ht hvm hpx hBX hz hk hS1 hce hcv hcl => ?_) (fun r u t H1 locs1 ht hvm hp hB hz hk hS1 => ?_)
  · obtain ⟨rfl, hR1⟩ := hBX
    rw [ht] at hR1
    refine vx_catch (name := "java/util/NoSuchElementException") hown [] ⟨0, 9, 12, 13⟩ [] htab (fun z hz => nomatch hz) rfl (by decide) (hts _ (z_mem k878)) (va_Nw.use rfl hTw.1) hce hcv hcl ?_
    refine lv_astore_n (lv' := [(3, .ref q9), (0, .ref (b + 0)), (1, .int (iI a0)), (2, .ref (b + 168 + 0))]) hx hb dL_row_12 rfl hl (by decide) rfl (fun ls hl => ?_)
    refine z_iconst hx hb dL_row_13 ?_
    exact W.iret hx hb hr (fun t9 ht9 hW => ⟨⟨iI 1, (MC, MO), rfl, Or.inr ⟨rfl, hpx, rfl, rfl⟩, by rw [show t9.heap = H1 from ht9]; exact hR1, by rw [show t9.heap = H1 from ht9]; exact zR_kept hRO (fun q h1 h2 h3 => hk q h1 (fun z => by have e1 : nC = 134 := rfl; have e2 : nR = 34 := rfl; have := z.2; omega))⟩, hS1.F ht9⟩) hS1.2.2 dL_row_14 hlocks
  · obtain ⟨v, rfl, hv9, hu9, hp1⟩ := hp
    unfold zB at hB
    rw [ht, hu9] at hB
    refine z_i2l hx hb hv9 dL_row_7 ?_
    refine l_lastW (b := b + 168) hx hb hK.1 (t0 := 1) rfl (zR_kept hRO (fun q h1 h2 h3 => hk q h1 (fun z => by have e1 : nC = 134 := rfl; have e2 : nR = 34 := rfl; have := z.2; omega))) hS1 (Or.inr (show b + 168 ≤ b + 168 + 0 by omega)) dL_row_8 (fun H2 locs2 hR2 hk2 hS2 => ?_)
    refine lv_goto (tgt := 15) hx hb dL_row_9 (by decide) ?_
    refine z_iconst hx hb dL_row_15 ?_
    exact W.iret hx hb hr (fun t9 ht9 hW => ⟨⟨iI 0, (MC, zup MO 0 0 v), rfl, Or.inl ⟨rfl, v, hv9, hp1, rfl, rfl⟩, by rw [show t9.heap = H2 from ht9]; exact zR_kept hB (fun q h1 h2 h3 => hk2 q (by have e1 : nC = 134 := rfl; omega)), by rw [show t9.heap = H2 from ht9]; exact hR2⟩, hS2.F ht9⟩) hS2.2.2 dL_row_16 hlocks
end zz49_wrap
section zz50_head
/-! THE CLAIM OUT OF ONE WALK OF THE LAW'S BODY. Your part is whole_start (and what it stands on); all else here is the same for every law, but numbers. -/
def R_law : String := "TapeRingsLaw"
def lw_P (b : Addr) (xs : List Int32) (args : Array Value) (s : State) : Prop := args = #[.ref b] ∧ s.IntsAt b xs ∧ xs.length ≤ 2560 ∧ (Jvm.Cond.and given_1 narrow_1).before args s = true
def lw_Q (_ : Array Value) (s : State) (o : Outcome) (t : State) : Prop := o = .returned (some (.int 1)) ∧ Framed s o t [] 601024 7293034
def lw_Z (below : List Frame) (a : Array Value) (s : State) : State → Prop := fun t => ∃ o, t.status = .running ∧ Ended t below o ∧ lw_Q a s o t
/-- the law's own end, with 1 on the stack, nothing written that was there before, its room as the claim has it -/
theorem lw_ret {p : Program} {l : Launch} {e : Env} {s : State} {m : MethodId} {below : List Frame} {meth : Method} {c : Code} {b : Nat} (hx : p.tables.exec = Jvm.exec) (hb : c.code = code) (hr : meth.sig.returnType = ret) (hlocks : meth.locks = false) {pc : Nat} {H : Heap} {ls : Array Slot} (hdg : decode code pc = .ok (.ireturn, 1)) : W p l e room_1 s m #[Value.ref b] below meth c H [] 601024 7293034 (lw_Z below #[Value.ref b] s) (F0 m pc ls [.int 1]) := by
  intro T hT X
  obtain ⟨fs, hret, hrun, hended, hW, hframe⟩ := X.leave (v := some (.int 1)) (hlocks := hlocks) (fun h => by rw [hr] at h; cases h)
  have hmeth' : T.vm.method? m = some meth := X.method'
  refine ⟨T.setFrames fs, ?_, .returned (some (.int 1)), hrun, hended, rfl, ⟨_, rfl⟩, hW, hframe⟩
  jvm_step X.here [X.here.top, hx, hb, hdg, hmeth', hr, ret, narrow_b1]
  (try refine ⟨rfl, ?_⟩); (try refine ⟨rfl, ?_⟩)
  first | (intro acts; rw [hret _ acts rfl rfl rfl]) | rw [hret _ _ rfl rfl rfl]
  exact Steps.refl _
/-- what holds at the law's entry: the machine, the code, the tables' words (any of lw_tbl by 'hts w (by decide +kernel)'), the script of L ints xs at the cell b, what the Statement gives of the start (any of its parts by flat_of_before) -/
def lw_At (p : Program) (s : State) (m : MethodId) (meth : Method) (c : Code) (b L : Nat) (xs : Nat → Int32) : Prop :=
  p.tables.exec = Jvm.exec ∧ c.code = code ∧ meth.sig.returnType = ret ∧ c.maxLocals = 8 ∧ s.vm.findClass R_law = some m.cls ∧ (∀ w ∈ lw_tbl, w.before #[Value.ref b] s = true) ∧ va_X b L xs s s.heap ∧ b < s.heap.size ∧ meth.locks = false ∧ (Jvm.Cond.and given_1 narrow_1).before #[Value.ref b] s = true
end zz50_head
section zz51_d00
/-! the law, decoded -/
theorem q51d00_0_228 : (cL_law.data.toList.drop 228).take 22 = [43, 42, 21, 4, 4, 96, 46, 182, 0, 27, 87, 44, 42, 21, 4, 4, 96, 46, 182, 0, 30, 87] := by decide +kernel
theorem q51d00_0_250 : (cL_law.data.toList.drop 250).take 24 = [167, 5, 55, 43, 42, 21, 4, 4, 96, 46, 182, 0, 31, 87, 44, 42, 21, 4, 4, 96, 46, 182, 0, 35] := by decide +kernel
theorem q51d00_0_274 : (cL_law.data.toList.drop 274).take 24 = [87, 167, 5, 30, 43, 182, 0, 36, 87, 44, 182, 0, 40, 87, 167, 5, 17, 43, 42, 21, 4, 4, 96, 46] := by decide +kernel
theorem q51d00_0_298 : (cL_law.data.toList.drop 298).take 24 = [182, 0, 41, 87, 44, 42, 21, 4, 4, 96, 46, 182, 0, 44, 87, 167, 4, 248, 43, 42, 21, 4, 4, 96] := by decide +kernel
theorem q51d00_0_322 : (cL_law.data.toList.drop 322).take 24 = [46, 42, 21, 4, 5, 96, 46, 182, 0, 45, 87, 44, 42, 21, 4, 4, 96, 46, 42, 21, 4, 5, 96, 46] := by decide +kernel
theorem q51d00_0_346 : (cL_law.data.toList.drop 346).take 24 = [182, 0, 48, 87, 167, 4, 211, 43, 42, 21, 4, 4, 96, 46, 42, 21, 4, 5, 96, 46, 42, 21, 4, 6] := by decide +kernel
theorem q51d00_0_370 : (cL_law.data.toList.drop 370).take 24 = [96, 46, 182, 0, 49, 87, 44, 42, 21, 4, 4, 96, 46, 42, 21, 4, 5, 96, 46, 42, 21, 4, 6, 96] := by decide +kernel
theorem q51d00_0_394 : (cL_law.data.toList.drop 394).take 24 = [46, 182, 0, 53, 87, 167, 4, 162, 43, 42, 21, 4, 4, 96, 46, 42, 21, 4, 5, 96, 46, 42, 21, 4] := by decide +kernel
theorem q51d00_0_418 : (cL_law.data.toList.drop 418).take 19 = [6, 96, 46, 182, 0, 54, 87, 44, 42, 21, 4, 4, 96, 46, 42, 21, 4, 5, 96] := by decide +kernel
theorem dL_law_228 : decode cL_law 228 = .ok (.aload_n 1, 1) := dz_43 (dz_at q51d00_0_228 0)
theorem dL_law_229 : decode cL_law 229 = .ok (.aload_n 0, 1) := dz_42 (dz_at q51d00_0_228 1)
theorem dL_law_230 : decode cL_law 230 = .ok (.iload 4, 2) := dz_21 (dz_at q51d00_0_228 2)
theorem dL_law_232 : decode cL_law 232 = .ok (.iconst 1, 1) := dz_4 (dz_at q51d00_0_228 4)
theorem dL_law_233 : decode cL_law 233 = .ok (.iadd, 1) := dz_96 (dz_at q51d00_0_228 5)
theorem dL_law_234 : decode cL_law 234 = .ok (.iaload, 1) := dz_46 (dz_at q51d00_0_228 6)
theorem dL_law_235 : decode cL_law 235 = .ok (.invokevirtual 27, 3) := dz_182 (dz_at q51d00_0_228 7) rfl
theorem dL_law_238 : decode cL_law 238 = .ok (.pop, 1) := dz_87 (dz_at q51d00_0_228 10)
theorem dL_law_239 : decode cL_law 239 = .ok (.aload_n 2, 1) := dz_44 (dz_at q51d00_0_228 11)
theorem dL_law_240 : decode cL_law 240 = .ok (.aload_n 0, 1) := dz_42 (dz_at q51d00_0_228 12)
theorem dL_law_241 : decode cL_law 241 = .ok (.iload 4, 2) := dz_21 (dz_at q51d00_0_228 13)
theorem dL_law_243 : decode cL_law 243 = .ok (.iconst 1, 1) := dz_4 (dz_at q51d00_0_228 15)
theorem dL_law_244 : decode cL_law 244 = .ok (.iadd, 1) := dz_96 (dz_at q51d00_0_228 16)
theorem dL_law_245 : decode cL_law 245 = .ok (.iaload, 1) := dz_46 (dz_at q51d00_0_228 17)
theorem dL_law_246 : decode cL_law 246 = .ok (.invokevirtual 30, 3) := dz_182 (dz_at q51d00_0_228 18) rfl
theorem dL_law_249 : decode cL_law 249 = .ok (.pop, 1) := dz_87 (dz_at q51d00_0_228 21)
theorem dL_law_250 : decode cL_law 250 = .ok (.goto 1335, 3) := dz_167 (dz_at q51d00_0_250 0) (by decide +kernel)
theorem dL_law_253 : decode cL_law 253 = .ok (.aload_n 1, 1) := dz_43 (dz_at q51d00_0_250 3)
theorem dL_law_254 : decode cL_law 254 = .ok (.aload_n 0, 1) := dz_42 (dz_at q51d00_0_250 4)
theorem dL_law_255 : decode cL_law 255 = .ok (.iload 4, 2) := dz_21 (dz_at q51d00_0_250 5)
theorem dL_law_257 : decode cL_law 257 = .ok (.iconst 1, 1) := dz_4 (dz_at q51d00_0_250 7)
theorem dL_law_258 : decode cL_law 258 = .ok (.iadd, 1) := dz_96 (dz_at q51d00_0_250 8)
theorem dL_law_259 : decode cL_law 259 = .ok (.iaload, 1) := dz_46 (dz_at q51d00_0_250 9)
theorem dL_law_260 : decode cL_law 260 = .ok (.invokevirtual 31, 3) := dz_182 (dz_at q51d00_0_250 10) rfl
theorem dL_law_263 : decode cL_law 263 = .ok (.pop, 1) := dz_87 (dz_at q51d00_0_250 13)
theorem dL_law_264 : decode cL_law 264 = .ok (.aload_n 2, 1) := dz_44 (dz_at q51d00_0_250 14)
theorem dL_law_265 : decode cL_law 265 = .ok (.aload_n 0, 1) := dz_42 (dz_at q51d00_0_250 15)
theorem dL_law_266 : decode cL_law 266 = .ok (.iload 4, 2) := dz_21 (dz_at q51d00_0_250 16)
theorem dL_law_268 : decode cL_law 268 = .ok (.iconst 1, 1) := dz_4 (dz_at q51d00_0_250 18)
theorem dL_law_269 : decode cL_law 269 = .ok (.iadd, 1) := dz_96 (dz_at q51d00_0_250 19)
theorem dL_law_270 : decode cL_law 270 = .ok (.iaload, 1) := dz_46 (dz_at q51d00_0_250 20)
theorem dL_law_271 : decode cL_law 271 = .ok (.invokevirtual 35, 3) := dz_182 (dz_at q51d00_0_250 21) rfl
theorem dL_law_274 : decode cL_law 274 = .ok (.pop, 1) := dz_87 (dz_at q51d00_0_274 0)
theorem dL_law_275 : decode cL_law 275 = .ok (.goto 1310, 3) := dz_167 (dz_at q51d00_0_274 1) (by decide +kernel)
theorem dL_law_278 : decode cL_law 278 = .ok (.aload_n 1, 1) := dz_43 (dz_at q51d00_0_274 4)
theorem dL_law_279 : decode cL_law 279 = .ok (.invokevirtual 36, 3) := dz_182 (dz_at q51d00_0_274 5) rfl
theorem dL_law_282 : decode cL_law 282 = .ok (.pop, 1) := dz_87 (dz_at q51d00_0_274 8)
theorem dL_law_283 : decode cL_law 283 = .ok (.aload_n 2, 1) := dz_44 (dz_at q51d00_0_274 9)
theorem dL_law_284 : decode cL_law 284 = .ok (.invokevirtual 40, 3) := dz_182 (dz_at q51d00_0_274 10) rfl
theorem dL_law_287 : decode cL_law 287 = .ok (.pop, 1) := dz_87 (dz_at q51d00_0_274 13)
theorem dL_law_288 : decode cL_law 288 = .ok (.goto 1297, 3) := dz_167 (dz_at q51d00_0_274 14) (by decide +kernel)
theorem dL_law_291 : decode cL_law 291 = .ok (.aload_n 1, 1) := dz_43 (dz_at q51d00_0_274 17)
theorem dL_law_292 : decode cL_law 292 = .ok (.aload_n 0, 1) := dz_42 (dz_at q51d00_0_274 18)
theorem dL_law_293 : decode cL_law 293 = .ok (.iload 4, 2) := dz_21 (dz_at q51d00_0_274 19)
theorem dL_law_295 : decode cL_law 295 = .ok (.iconst 1, 1) := dz_4 (dz_at q51d00_0_274 21)
theorem dL_law_296 : decode cL_law 296 = .ok (.iadd, 1) := dz_96 (dz_at q51d00_0_274 22)
theorem dL_law_297 : decode cL_law 297 = .ok (.iaload, 1) := dz_46 (dz_at q51d00_0_274 23)
theorem dL_law_298 : decode cL_law 298 = .ok (.invokevirtual 41, 3) := dz_182 (dz_at q51d00_0_298 0) rfl
theorem dL_law_301 : decode cL_law 301 = .ok (.pop, 1) := dz_87 (dz_at q51d00_0_298 3)
theorem dL_law_302 : decode cL_law 302 = .ok (.aload_n 2, 1) := dz_44 (dz_at q51d00_0_298 4)
theorem dL_law_303 : decode cL_law 303 = .ok (.aload_n 0, 1) := dz_42 (dz_at q51d00_0_298 5)
theorem dL_law_304 : decode cL_law 304 = .ok (.iload 4, 2) := dz_21 (dz_at q51d00_0_298 6)
theorem dL_law_306 : decode cL_law 306 = .ok (.iconst 1, 1) := dz_4 (dz_at q51d00_0_298 8)
theorem dL_law_307 : decode cL_law 307 = .ok (.iadd, 1) := dz_96 (dz_at q51d00_0_298 9)
theorem dL_law_308 : decode cL_law 308 = .ok (.iaload, 1) := dz_46 (dz_at q51d00_0_298 10)
theorem dL_law_309 : decode cL_law 309 = .ok (.invokevirtual 44, 3) := dz_182 (dz_at q51d00_0_298 11) rfl
theorem dL_law_312 : decode cL_law 312 = .ok (.pop, 1) := dz_87 (dz_at q51d00_0_298 14)
theorem dL_law_313 : decode cL_law 313 = .ok (.goto 1272, 3) := dz_167 (dz_at q51d00_0_298 15) (by decide +kernel)
theorem dL_law_316 : decode cL_law 316 = .ok (.aload_n 1, 1) := dz_43 (dz_at q51d00_0_298 18)
theorem dL_law_317 : decode cL_law 317 = .ok (.aload_n 0, 1) := dz_42 (dz_at q51d00_0_298 19)
theorem dL_law_318 : decode cL_law 318 = .ok (.iload 4, 2) := dz_21 (dz_at q51d00_0_298 20)
theorem dL_law_320 : decode cL_law 320 = .ok (.iconst 1, 1) := dz_4 (dz_at q51d00_0_298 22)
theorem dL_law_321 : decode cL_law 321 = .ok (.iadd, 1) := dz_96 (dz_at q51d00_0_298 23)
theorem dL_law_322 : decode cL_law 322 = .ok (.iaload, 1) := dz_46 (dz_at q51d00_0_322 0)
theorem dL_law_323 : decode cL_law 323 = .ok (.aload_n 0, 1) := dz_42 (dz_at q51d00_0_322 1)
theorem dL_law_324 : decode cL_law 324 = .ok (.iload 4, 2) := dz_21 (dz_at q51d00_0_322 2)
theorem dL_law_326 : decode cL_law 326 = .ok (.iconst 2, 1) := dz_5 (dz_at q51d00_0_322 4)
theorem dL_law_327 : decode cL_law 327 = .ok (.iadd, 1) := dz_96 (dz_at q51d00_0_322 5)
theorem dL_law_328 : decode cL_law 328 = .ok (.iaload, 1) := dz_46 (dz_at q51d00_0_322 6)
theorem dL_law_329 : decode cL_law 329 = .ok (.invokevirtual 45, 3) := dz_182 (dz_at q51d00_0_322 7) rfl
theorem dL_law_332 : decode cL_law 332 = .ok (.pop, 1) := dz_87 (dz_at q51d00_0_322 10)
theorem dL_law_333 : decode cL_law 333 = .ok (.aload_n 2, 1) := dz_44 (dz_at q51d00_0_322 11)
theorem dL_law_334 : decode cL_law 334 = .ok (.aload_n 0, 1) := dz_42 (dz_at q51d00_0_322 12)
theorem dL_law_335 : decode cL_law 335 = .ok (.iload 4, 2) := dz_21 (dz_at q51d00_0_322 13)
theorem dL_law_337 : decode cL_law 337 = .ok (.iconst 1, 1) := dz_4 (dz_at q51d00_0_322 15)
theorem dL_law_338 : decode cL_law 338 = .ok (.iadd, 1) := dz_96 (dz_at q51d00_0_322 16)
theorem dL_law_339 : decode cL_law 339 = .ok (.iaload, 1) := dz_46 (dz_at q51d00_0_322 17)
theorem dL_law_340 : decode cL_law 340 = .ok (.aload_n 0, 1) := dz_42 (dz_at q51d00_0_322 18)
theorem dL_law_341 : decode cL_law 341 = .ok (.iload 4, 2) := dz_21 (dz_at q51d00_0_322 19)
theorem dL_law_343 : decode cL_law 343 = .ok (.iconst 2, 1) := dz_5 (dz_at q51d00_0_322 21)
theorem dL_law_344 : decode cL_law 344 = .ok (.iadd, 1) := dz_96 (dz_at q51d00_0_322 22)
theorem dL_law_345 : decode cL_law 345 = .ok (.iaload, 1) := dz_46 (dz_at q51d00_0_322 23)
theorem dL_law_346 : decode cL_law 346 = .ok (.invokevirtual 48, 3) := dz_182 (dz_at q51d00_0_346 0) rfl
theorem dL_law_349 : decode cL_law 349 = .ok (.pop, 1) := dz_87 (dz_at q51d00_0_346 3)
theorem dL_law_350 : decode cL_law 350 = .ok (.goto 1235, 3) := dz_167 (dz_at q51d00_0_346 4) (by decide +kernel)
theorem dL_law_353 : decode cL_law 353 = .ok (.aload_n 1, 1) := dz_43 (dz_at q51d00_0_346 7)
theorem dL_law_354 : decode cL_law 354 = .ok (.aload_n 0, 1) := dz_42 (dz_at q51d00_0_346 8)
theorem dL_law_355 : decode cL_law 355 = .ok (.iload 4, 2) := dz_21 (dz_at q51d00_0_346 9)
theorem dL_law_357 : decode cL_law 357 = .ok (.iconst 1, 1) := dz_4 (dz_at q51d00_0_346 11)
theorem dL_law_358 : decode cL_law 358 = .ok (.iadd, 1) := dz_96 (dz_at q51d00_0_346 12)
theorem dL_law_359 : decode cL_law 359 = .ok (.iaload, 1) := dz_46 (dz_at q51d00_0_346 13)
theorem dL_law_360 : decode cL_law 360 = .ok (.aload_n 0, 1) := dz_42 (dz_at q51d00_0_346 14)
theorem dL_law_361 : decode cL_law 361 = .ok (.iload 4, 2) := dz_21 (dz_at q51d00_0_346 15)
theorem dL_law_363 : decode cL_law 363 = .ok (.iconst 2, 1) := dz_5 (dz_at q51d00_0_346 17)
theorem dL_law_364 : decode cL_law 364 = .ok (.iadd, 1) := dz_96 (dz_at q51d00_0_346 18)
theorem dL_law_365 : decode cL_law 365 = .ok (.iaload, 1) := dz_46 (dz_at q51d00_0_346 19)
theorem dL_law_366 : decode cL_law 366 = .ok (.aload_n 0, 1) := dz_42 (dz_at q51d00_0_346 20)
theorem dL_law_367 : decode cL_law 367 = .ok (.iload 4, 2) := dz_21 (dz_at q51d00_0_346 21)
theorem dL_law_369 : decode cL_law 369 = .ok (.iconst 3, 1) := dz_6 (dz_at q51d00_0_346 23)
theorem dL_law_370 : decode cL_law 370 = .ok (.iadd, 1) := dz_96 (dz_at q51d00_0_370 0)
theorem dL_law_371 : decode cL_law 371 = .ok (.iaload, 1) := dz_46 (dz_at q51d00_0_370 1)
theorem dL_law_372 : decode cL_law 372 = .ok (.invokevirtual 49, 3) := dz_182 (dz_at q51d00_0_370 2) rfl
theorem dL_law_375 : decode cL_law 375 = .ok (.pop, 1) := dz_87 (dz_at q51d00_0_370 5)
theorem dL_law_376 : decode cL_law 376 = .ok (.aload_n 2, 1) := dz_44 (dz_at q51d00_0_370 6)
theorem dL_law_377 : decode cL_law 377 = .ok (.aload_n 0, 1) := dz_42 (dz_at q51d00_0_370 7)
theorem dL_law_378 : decode cL_law 378 = .ok (.iload 4, 2) := dz_21 (dz_at q51d00_0_370 8)
theorem dL_law_380 : decode cL_law 380 = .ok (.iconst 1, 1) := dz_4 (dz_at q51d00_0_370 10)
theorem dL_law_381 : decode cL_law 381 = .ok (.iadd, 1) := dz_96 (dz_at q51d00_0_370 11)
theorem dL_law_382 : decode cL_law 382 = .ok (.iaload, 1) := dz_46 (dz_at q51d00_0_370 12)
theorem dL_law_383 : decode cL_law 383 = .ok (.aload_n 0, 1) := dz_42 (dz_at q51d00_0_370 13)
theorem dL_law_384 : decode cL_law 384 = .ok (.iload 4, 2) := dz_21 (dz_at q51d00_0_370 14)
theorem dL_law_386 : decode cL_law 386 = .ok (.iconst 2, 1) := dz_5 (dz_at q51d00_0_370 16)
theorem dL_law_387 : decode cL_law 387 = .ok (.iadd, 1) := dz_96 (dz_at q51d00_0_370 17)
theorem dL_law_388 : decode cL_law 388 = .ok (.iaload, 1) := dz_46 (dz_at q51d00_0_370 18)
theorem dL_law_389 : decode cL_law 389 = .ok (.aload_n 0, 1) := dz_42 (dz_at q51d00_0_370 19)
theorem dL_law_390 : decode cL_law 390 = .ok (.iload 4, 2) := dz_21 (dz_at q51d00_0_370 20)
theorem dL_law_392 : decode cL_law 392 = .ok (.iconst 3, 1) := dz_6 (dz_at q51d00_0_370 22)
theorem dL_law_393 : decode cL_law 393 = .ok (.iadd, 1) := dz_96 (dz_at q51d00_0_370 23)
theorem dL_law_394 : decode cL_law 394 = .ok (.iaload, 1) := dz_46 (dz_at q51d00_0_394 0)
theorem dL_law_395 : decode cL_law 395 = .ok (.invokevirtual 53, 3) := dz_182 (dz_at q51d00_0_394 1) rfl
theorem dL_law_398 : decode cL_law 398 = .ok (.pop, 1) := dz_87 (dz_at q51d00_0_394 4)
theorem dL_law_399 : decode cL_law 399 = .ok (.goto 1186, 3) := dz_167 (dz_at q51d00_0_394 5) (by decide +kernel)
theorem dL_law_402 : decode cL_law 402 = .ok (.aload_n 1, 1) := dz_43 (dz_at q51d00_0_394 8)
theorem dL_law_403 : decode cL_law 403 = .ok (.aload_n 0, 1) := dz_42 (dz_at q51d00_0_394 9)
theorem dL_law_404 : decode cL_law 404 = .ok (.iload 4, 2) := dz_21 (dz_at q51d00_0_394 10)
theorem dL_law_406 : decode cL_law 406 = .ok (.iconst 1, 1) := dz_4 (dz_at q51d00_0_394 12)
theorem dL_law_407 : decode cL_law 407 = .ok (.iadd, 1) := dz_96 (dz_at q51d00_0_394 13)
theorem dL_law_408 : decode cL_law 408 = .ok (.iaload, 1) := dz_46 (dz_at q51d00_0_394 14)
theorem dL_law_409 : decode cL_law 409 = .ok (.aload_n 0, 1) := dz_42 (dz_at q51d00_0_394 15)
theorem dL_law_410 : decode cL_law 410 = .ok (.iload 4, 2) := dz_21 (dz_at q51d00_0_394 16)
theorem dL_law_412 : decode cL_law 412 = .ok (.iconst 2, 1) := dz_5 (dz_at q51d00_0_394 18)
theorem dL_law_413 : decode cL_law 413 = .ok (.iadd, 1) := dz_96 (dz_at q51d00_0_394 19)
theorem dL_law_414 : decode cL_law 414 = .ok (.iaload, 1) := dz_46 (dz_at q51d00_0_394 20)
theorem dL_law_415 : decode cL_law 415 = .ok (.aload_n 0, 1) := dz_42 (dz_at q51d00_0_394 21)
theorem dL_law_416 : decode cL_law 416 = .ok (.iload 4, 2) := dz_21 (dz_at q51d00_0_394 22)
theorem dL_law_418 : decode cL_law 418 = .ok (.iconst 3, 1) := dz_6 (dz_at q51d00_0_418 0)
theorem dL_law_419 : decode cL_law 419 = .ok (.iadd, 1) := dz_96 (dz_at q51d00_0_418 1)
theorem dL_law_420 : decode cL_law 420 = .ok (.iaload, 1) := dz_46 (dz_at q51d00_0_418 2)
theorem dL_law_421 : decode cL_law 421 = .ok (.invokevirtual 54, 3) := dz_182 (dz_at q51d00_0_418 3) rfl
theorem dL_law_424 : decode cL_law 424 = .ok (.pop, 1) := dz_87 (dz_at q51d00_0_418 6)
theorem dL_law_425 : decode cL_law 425 = .ok (.aload_n 2, 1) := dz_44 (dz_at q51d00_0_418 7)
theorem dL_law_426 : decode cL_law 426 = .ok (.aload_n 0, 1) := dz_42 (dz_at q51d00_0_418 8)
theorem dL_law_427 : decode cL_law 427 = .ok (.iload 4, 2) := dz_21 (dz_at q51d00_0_418 9)
theorem dL_law_429 : decode cL_law 429 = .ok (.iconst 1, 1) := dz_4 (dz_at q51d00_0_418 11)
theorem dL_law_430 : decode cL_law 430 = .ok (.iadd, 1) := dz_96 (dz_at q51d00_0_418 12)
theorem dL_law_431 : decode cL_law 431 = .ok (.iaload, 1) := dz_46 (dz_at q51d00_0_418 13)
theorem dL_law_432 : decode cL_law 432 = .ok (.aload_n 0, 1) := dz_42 (dz_at q51d00_0_418 14)
theorem dL_law_433 : decode cL_law 433 = .ok (.iload 4, 2) := dz_21 (dz_at q51d00_0_418 15)
theorem dL_law_435 : decode cL_law 435 = .ok (.iconst 2, 1) := dz_5 (dz_at q51d00_0_418 17)
theorem dL_law_436 : decode cL_law 436 = .ok (.iadd, 1) := dz_96 (dz_at q51d00_0_418 18)
end zz51_d00
section zz51_d01
/-! the law, decoded -/
theorem q51d01_0_437 : (cL_law.data.toList.drop 437).take 24 = [46, 42, 21, 4, 6, 96, 46, 182, 0, 57, 87, 167, 4, 113, 43, 42, 21, 4, 4, 96, 46, 42, 21, 4] := by decide +kernel
theorem q51d01_0_461 : (cL_law.data.toList.drop 461).take 23 = [5, 96, 46, 42, 21, 4, 6, 96, 46, 153, 0, 7, 4, 167, 0, 4, 3, 182, 0, 58, 87, 44, 42] := by decide +kernel
theorem q51d01_0_484 : (cL_law.data.toList.drop 484).take 24 = [21, 4, 4, 96, 46, 42, 21, 4, 5, 96, 46, 42, 21, 4, 6, 96, 46, 153, 0, 7, 4, 167, 0, 4] := by decide +kernel
theorem q51d01_0_508 : (cL_law.data.toList.drop 508).take 24 = [3, 182, 0, 62, 87, 167, 4, 48, 43, 42, 21, 4, 4, 96, 46, 42, 21, 4, 5, 96, 46, 42, 21, 4] := by decide +kernel
theorem q51d01_0_532 : (cL_law.data.toList.drop 532).take 24 = [6, 96, 46, 182, 0, 63, 87, 44, 42, 21, 4, 4, 96, 46, 42, 21, 4, 5, 96, 46, 42, 21, 4, 6] := by decide +kernel
theorem q51d01_0_556 : (cL_law.data.toList.drop 556).take 24 = [96, 46, 182, 0, 67, 87, 167, 3, 255, 43, 182, 0, 68, 87, 44, 182, 0, 71, 87, 167, 3, 242, 43, 42] := by decide +kernel
theorem q51d01_0_580 : (cL_law.data.toList.drop 580).take 24 = [21, 4, 4, 96, 46, 182, 0, 72, 87, 44, 42, 21, 4, 4, 96, 46, 182, 0, 75, 87, 167, 3, 217, 43] := by decide +kernel
theorem q51d01_0_604 : (cL_law.data.toList.drop 604).take 24 = [42, 21, 4, 4, 96, 46, 42, 21, 4, 5, 96, 46, 45, 184, 0, 76, 54, 5, 44, 42, 21, 4, 4, 96] := by decide +kernel
theorem q51d01_0_628 : (cL_law.data.toList.drop 628).take 23 = [46, 42, 21, 4, 5, 96, 46, 182, 0, 81, 54, 6, 167, 3, 177, 43, 42, 21, 4, 4, 96, 46, 42] := by decide +kernel
theorem dL_law_437 : decode cL_law 437 = .ok (.iaload, 1) := dz_46 (dz_at q51d01_0_437 0)
theorem dL_law_438 : decode cL_law 438 = .ok (.aload_n 0, 1) := dz_42 (dz_at q51d01_0_437 1)
theorem dL_law_439 : decode cL_law 439 = .ok (.iload 4, 2) := dz_21 (dz_at q51d01_0_437 2)
theorem dL_law_441 : decode cL_law 441 = .ok (.iconst 3, 1) := dz_6 (dz_at q51d01_0_437 4)
theorem dL_law_442 : decode cL_law 442 = .ok (.iadd, 1) := dz_96 (dz_at q51d01_0_437 5)
theorem dL_law_443 : decode cL_law 443 = .ok (.iaload, 1) := dz_46 (dz_at q51d01_0_437 6)
theorem dL_law_444 : decode cL_law 444 = .ok (.invokevirtual 57, 3) := dz_182 (dz_at q51d01_0_437 7) rfl
theorem dL_law_447 : decode cL_law 447 = .ok (.pop, 1) := dz_87 (dz_at q51d01_0_437 10)
theorem dL_law_448 : decode cL_law 448 = .ok (.goto 1137, 3) := dz_167 (dz_at q51d01_0_437 11) (by decide +kernel)
theorem dL_law_451 : decode cL_law 451 = .ok (.aload_n 1, 1) := dz_43 (dz_at q51d01_0_437 14)
theorem dL_law_452 : decode cL_law 452 = .ok (.aload_n 0, 1) := dz_42 (dz_at q51d01_0_437 15)
theorem dL_law_453 : decode cL_law 453 = .ok (.iload 4, 2) := dz_21 (dz_at q51d01_0_437 16)
theorem dL_law_455 : decode cL_law 455 = .ok (.iconst 1, 1) := dz_4 (dz_at q51d01_0_437 18)
theorem dL_law_456 : decode cL_law 456 = .ok (.iadd, 1) := dz_96 (dz_at q51d01_0_437 19)
theorem dL_law_457 : decode cL_law 457 = .ok (.iaload, 1) := dz_46 (dz_at q51d01_0_437 20)
theorem dL_law_458 : decode cL_law 458 = .ok (.aload_n 0, 1) := dz_42 (dz_at q51d01_0_437 21)
theorem dL_law_459 : decode cL_law 459 = .ok (.iload 4, 2) := dz_21 (dz_at q51d01_0_437 22)
theorem dL_law_461 : decode cL_law 461 = .ok (.iconst 2, 1) := dz_5 (dz_at q51d01_0_461 0)
theorem dL_law_462 : decode cL_law 462 = .ok (.iadd, 1) := dz_96 (dz_at q51d01_0_461 1)
theorem dL_law_463 : decode cL_law 463 = .ok (.iaload, 1) := dz_46 (dz_at q51d01_0_461 2)
theorem dL_law_464 : decode cL_law 464 = .ok (.aload_n 0, 1) := dz_42 (dz_at q51d01_0_461 3)
theorem dL_law_465 : decode cL_law 465 = .ok (.iload 4, 2) := dz_21 (dz_at q51d01_0_461 4)
theorem dL_law_467 : decode cL_law 467 = .ok (.iconst 3, 1) := dz_6 (dz_at q51d01_0_461 6)
theorem dL_law_468 : decode cL_law 468 = .ok (.iadd, 1) := dz_96 (dz_at q51d01_0_461 7)
theorem dL_law_469 : decode cL_law 469 = .ok (.iaload, 1) := dz_46 (dz_at q51d01_0_461 8)
theorem dL_law_470 : decode cL_law 470 = .ok (.ifCond .eq 7, 3) := dz_153 (dz_at q51d01_0_461 9) (by decide +kernel)
theorem dL_law_477 : decode cL_law 477 = .ok (.iconst 0, 1) := dz_3 (dz_at q51d01_0_461 16)
theorem dL_law_478 : decode cL_law 478 = .ok (.invokevirtual 58, 3) := dz_182 (dz_at q51d01_0_461 17) rfl
theorem dL_law_481 : decode cL_law 481 = .ok (.pop, 1) := dz_87 (dz_at q51d01_0_461 20)
theorem dL_law_482 : decode cL_law 482 = .ok (.aload_n 2, 1) := dz_44 (dz_at q51d01_0_461 21)
theorem dL_law_483 : decode cL_law 483 = .ok (.aload_n 0, 1) := dz_42 (dz_at q51d01_0_461 22)
theorem dL_law_484 : decode cL_law 484 = .ok (.iload 4, 2) := dz_21 (dz_at q51d01_0_484 0)
theorem dL_law_486 : decode cL_law 486 = .ok (.iconst 1, 1) := dz_4 (dz_at q51d01_0_484 2)
theorem dL_law_487 : decode cL_law 487 = .ok (.iadd, 1) := dz_96 (dz_at q51d01_0_484 3)
theorem dL_law_488 : decode cL_law 488 = .ok (.iaload, 1) := dz_46 (dz_at q51d01_0_484 4)
theorem dL_law_489 : decode cL_law 489 = .ok (.aload_n 0, 1) := dz_42 (dz_at q51d01_0_484 5)
theorem dL_law_490 : decode cL_law 490 = .ok (.iload 4, 2) := dz_21 (dz_at q51d01_0_484 6)
theorem dL_law_492 : decode cL_law 492 = .ok (.iconst 2, 1) := dz_5 (dz_at q51d01_0_484 8)
theorem dL_law_493 : decode cL_law 493 = .ok (.iadd, 1) := dz_96 (dz_at q51d01_0_484 9)
theorem dL_law_494 : decode cL_law 494 = .ok (.iaload, 1) := dz_46 (dz_at q51d01_0_484 10)
theorem dL_law_495 : decode cL_law 495 = .ok (.aload_n 0, 1) := dz_42 (dz_at q51d01_0_484 11)
theorem dL_law_496 : decode cL_law 496 = .ok (.iload 4, 2) := dz_21 (dz_at q51d01_0_484 12)
theorem dL_law_498 : decode cL_law 498 = .ok (.iconst 3, 1) := dz_6 (dz_at q51d01_0_484 14)
theorem dL_law_499 : decode cL_law 499 = .ok (.iadd, 1) := dz_96 (dz_at q51d01_0_484 15)
theorem dL_law_500 : decode cL_law 500 = .ok (.iaload, 1) := dz_46 (dz_at q51d01_0_484 16)
theorem dL_law_501 : decode cL_law 501 = .ok (.ifCond .eq 7, 3) := dz_153 (dz_at q51d01_0_484 17) (by decide +kernel)
theorem dL_law_508 : decode cL_law 508 = .ok (.iconst 0, 1) := dz_3 (dz_at q51d01_0_508 0)
theorem dL_law_509 : decode cL_law 509 = .ok (.invokevirtual 62, 3) := dz_182 (dz_at q51d01_0_508 1) rfl
theorem dL_law_512 : decode cL_law 512 = .ok (.pop, 1) := dz_87 (dz_at q51d01_0_508 4)
theorem dL_law_513 : decode cL_law 513 = .ok (.goto 1072, 3) := dz_167 (dz_at q51d01_0_508 5) (by decide +kernel)
theorem dL_law_473 : decode cL_law 473 = .ok (.iconst 1, 1) := dz_4 (dz_at q51d01_0_461 12)
theorem dL_law_474 : decode cL_law 474 = .ok (.goto 4, 3) := dz_167 (dz_at q51d01_0_461 13) (by decide +kernel)
theorem dL_law_504 : decode cL_law 504 = .ok (.iconst 1, 1) := dz_4 (dz_at q51d01_0_484 20)
theorem dL_law_505 : decode cL_law 505 = .ok (.goto 4, 3) := dz_167 (dz_at q51d01_0_484 21) (by decide +kernel)
theorem dL_law_516 : decode cL_law 516 = .ok (.aload_n 1, 1) := dz_43 (dz_at q51d01_0_508 8)
theorem dL_law_517 : decode cL_law 517 = .ok (.aload_n 0, 1) := dz_42 (dz_at q51d01_0_508 9)
theorem dL_law_518 : decode cL_law 518 = .ok (.iload 4, 2) := dz_21 (dz_at q51d01_0_508 10)
theorem dL_law_520 : decode cL_law 520 = .ok (.iconst 1, 1) := dz_4 (dz_at q51d01_0_508 12)
theorem dL_law_521 : decode cL_law 521 = .ok (.iadd, 1) := dz_96 (dz_at q51d01_0_508 13)
theorem dL_law_522 : decode cL_law 522 = .ok (.iaload, 1) := dz_46 (dz_at q51d01_0_508 14)
theorem dL_law_523 : decode cL_law 523 = .ok (.aload_n 0, 1) := dz_42 (dz_at q51d01_0_508 15)
theorem dL_law_524 : decode cL_law 524 = .ok (.iload 4, 2) := dz_21 (dz_at q51d01_0_508 16)
theorem dL_law_526 : decode cL_law 526 = .ok (.iconst 2, 1) := dz_5 (dz_at q51d01_0_508 18)
theorem dL_law_527 : decode cL_law 527 = .ok (.iadd, 1) := dz_96 (dz_at q51d01_0_508 19)
theorem dL_law_528 : decode cL_law 528 = .ok (.iaload, 1) := dz_46 (dz_at q51d01_0_508 20)
theorem dL_law_529 : decode cL_law 529 = .ok (.aload_n 0, 1) := dz_42 (dz_at q51d01_0_508 21)
theorem dL_law_530 : decode cL_law 530 = .ok (.iload 4, 2) := dz_21 (dz_at q51d01_0_508 22)
theorem dL_law_532 : decode cL_law 532 = .ok (.iconst 3, 1) := dz_6 (dz_at q51d01_0_532 0)
theorem dL_law_533 : decode cL_law 533 = .ok (.iadd, 1) := dz_96 (dz_at q51d01_0_532 1)
theorem dL_law_534 : decode cL_law 534 = .ok (.iaload, 1) := dz_46 (dz_at q51d01_0_532 2)
theorem dL_law_535 : decode cL_law 535 = .ok (.invokevirtual 63, 3) := dz_182 (dz_at q51d01_0_532 3) rfl
theorem dL_law_538 : decode cL_law 538 = .ok (.pop, 1) := dz_87 (dz_at q51d01_0_532 6)
theorem dL_law_539 : decode cL_law 539 = .ok (.aload_n 2, 1) := dz_44 (dz_at q51d01_0_532 7)
theorem dL_law_540 : decode cL_law 540 = .ok (.aload_n 0, 1) := dz_42 (dz_at q51d01_0_532 8)
theorem dL_law_541 : decode cL_law 541 = .ok (.iload 4, 2) := dz_21 (dz_at q51d01_0_532 9)
theorem dL_law_543 : decode cL_law 543 = .ok (.iconst 1, 1) := dz_4 (dz_at q51d01_0_532 11)
theorem dL_law_544 : decode cL_law 544 = .ok (.iadd, 1) := dz_96 (dz_at q51d01_0_532 12)
theorem dL_law_545 : decode cL_law 545 = .ok (.iaload, 1) := dz_46 (dz_at q51d01_0_532 13)
theorem dL_law_546 : decode cL_law 546 = .ok (.aload_n 0, 1) := dz_42 (dz_at q51d01_0_532 14)
theorem dL_law_547 : decode cL_law 547 = .ok (.iload 4, 2) := dz_21 (dz_at q51d01_0_532 15)
theorem dL_law_549 : decode cL_law 549 = .ok (.iconst 2, 1) := dz_5 (dz_at q51d01_0_532 17)
theorem dL_law_550 : decode cL_law 550 = .ok (.iadd, 1) := dz_96 (dz_at q51d01_0_532 18)
theorem dL_law_551 : decode cL_law 551 = .ok (.iaload, 1) := dz_46 (dz_at q51d01_0_532 19)
theorem dL_law_552 : decode cL_law 552 = .ok (.aload_n 0, 1) := dz_42 (dz_at q51d01_0_532 20)
theorem dL_law_553 : decode cL_law 553 = .ok (.iload 4, 2) := dz_21 (dz_at q51d01_0_532 21)
theorem dL_law_555 : decode cL_law 555 = .ok (.iconst 3, 1) := dz_6 (dz_at q51d01_0_532 23)
theorem dL_law_556 : decode cL_law 556 = .ok (.iadd, 1) := dz_96 (dz_at q51d01_0_556 0)
theorem dL_law_557 : decode cL_law 557 = .ok (.iaload, 1) := dz_46 (dz_at q51d01_0_556 1)
theorem dL_law_558 : decode cL_law 558 = .ok (.invokevirtual 67, 3) := dz_182 (dz_at q51d01_0_556 2) rfl
theorem dL_law_561 : decode cL_law 561 = .ok (.pop, 1) := dz_87 (dz_at q51d01_0_556 5)
theorem dL_law_562 : decode cL_law 562 = .ok (.goto 1023, 3) := dz_167 (dz_at q51d01_0_556 6) (by decide +kernel)
theorem dL_law_565 : decode cL_law 565 = .ok (.aload_n 1, 1) := dz_43 (dz_at q51d01_0_556 9)
theorem dL_law_566 : decode cL_law 566 = .ok (.invokevirtual 68, 3) := dz_182 (dz_at q51d01_0_556 10) rfl
theorem dL_law_569 : decode cL_law 569 = .ok (.pop, 1) := dz_87 (dz_at q51d01_0_556 13)
theorem dL_law_570 : decode cL_law 570 = .ok (.aload_n 2, 1) := dz_44 (dz_at q51d01_0_556 14)
theorem dL_law_571 : decode cL_law 571 = .ok (.invokevirtual 71, 3) := dz_182 (dz_at q51d01_0_556 15) rfl
theorem dL_law_574 : decode cL_law 574 = .ok (.pop, 1) := dz_87 (dz_at q51d01_0_556 18)
theorem dL_law_575 : decode cL_law 575 = .ok (.goto 1010, 3) := dz_167 (dz_at q51d01_0_556 19) (by decide +kernel)
theorem dL_law_578 : decode cL_law 578 = .ok (.aload_n 1, 1) := dz_43 (dz_at q51d01_0_556 22)
theorem dL_law_579 : decode cL_law 579 = .ok (.aload_n 0, 1) := dz_42 (dz_at q51d01_0_556 23)
theorem dL_law_580 : decode cL_law 580 = .ok (.iload 4, 2) := dz_21 (dz_at q51d01_0_580 0)
theorem dL_law_582 : decode cL_law 582 = .ok (.iconst 1, 1) := dz_4 (dz_at q51d01_0_580 2)
theorem dL_law_583 : decode cL_law 583 = .ok (.iadd, 1) := dz_96 (dz_at q51d01_0_580 3)
theorem dL_law_584 : decode cL_law 584 = .ok (.iaload, 1) := dz_46 (dz_at q51d01_0_580 4)
theorem dL_law_585 : decode cL_law 585 = .ok (.invokevirtual 72, 3) := dz_182 (dz_at q51d01_0_580 5) rfl
theorem dL_law_588 : decode cL_law 588 = .ok (.pop, 1) := dz_87 (dz_at q51d01_0_580 8)
theorem dL_law_589 : decode cL_law 589 = .ok (.aload_n 2, 1) := dz_44 (dz_at q51d01_0_580 9)
theorem dL_law_590 : decode cL_law 590 = .ok (.aload_n 0, 1) := dz_42 (dz_at q51d01_0_580 10)
theorem dL_law_591 : decode cL_law 591 = .ok (.iload 4, 2) := dz_21 (dz_at q51d01_0_580 11)
theorem dL_law_593 : decode cL_law 593 = .ok (.iconst 1, 1) := dz_4 (dz_at q51d01_0_580 13)
theorem dL_law_594 : decode cL_law 594 = .ok (.iadd, 1) := dz_96 (dz_at q51d01_0_580 14)
theorem dL_law_595 : decode cL_law 595 = .ok (.iaload, 1) := dz_46 (dz_at q51d01_0_580 15)
theorem dL_law_596 : decode cL_law 596 = .ok (.invokevirtual 75, 3) := dz_182 (dz_at q51d01_0_580 16) rfl
theorem dL_law_599 : decode cL_law 599 = .ok (.pop, 1) := dz_87 (dz_at q51d01_0_580 19)
theorem dL_law_600 : decode cL_law 600 = .ok (.goto 985, 3) := dz_167 (dz_at q51d01_0_580 20) (by decide +kernel)
theorem dL_law_603 : decode cL_law 603 = .ok (.aload_n 1, 1) := dz_43 (dz_at q51d01_0_580 23)
theorem dL_law_604 : decode cL_law 604 = .ok (.aload_n 0, 1) := dz_42 (dz_at q51d01_0_604 0)
theorem dL_law_605 : decode cL_law 605 = .ok (.iload 4, 2) := dz_21 (dz_at q51d01_0_604 1)
theorem dL_law_607 : decode cL_law 607 = .ok (.iconst 1, 1) := dz_4 (dz_at q51d01_0_604 3)
theorem dL_law_608 : decode cL_law 608 = .ok (.iadd, 1) := dz_96 (dz_at q51d01_0_604 4)
theorem dL_law_609 : decode cL_law 609 = .ok (.iaload, 1) := dz_46 (dz_at q51d01_0_604 5)
theorem dL_law_610 : decode cL_law 610 = .ok (.aload_n 0, 1) := dz_42 (dz_at q51d01_0_604 6)
theorem dL_law_611 : decode cL_law 611 = .ok (.iload 4, 2) := dz_21 (dz_at q51d01_0_604 7)
theorem dL_law_613 : decode cL_law 613 = .ok (.iconst 2, 1) := dz_5 (dz_at q51d01_0_604 9)
theorem dL_law_614 : decode cL_law 614 = .ok (.iadd, 1) := dz_96 (dz_at q51d01_0_604 10)
theorem dL_law_615 : decode cL_law 615 = .ok (.iaload, 1) := dz_46 (dz_at q51d01_0_604 11)
theorem dL_law_616 : decode cL_law 616 = .ok (.aload_n 3, 1) := dz_45 (dz_at q51d01_0_604 12)
theorem dL_law_617 : decode cL_law 617 = .ok (.invokestatic 76, 3) := dz_184 (dz_at q51d01_0_604 13) rfl
theorem dL_law_620 : decode cL_law 620 = .ok (.istore 5, 2) := dz_54 (dz_at q51d01_0_604 16)
theorem dL_law_622 : decode cL_law 622 = .ok (.aload_n 2, 1) := dz_44 (dz_at q51d01_0_604 18)
theorem dL_law_623 : decode cL_law 623 = .ok (.aload_n 0, 1) := dz_42 (dz_at q51d01_0_604 19)
theorem dL_law_624 : decode cL_law 624 = .ok (.iload 4, 2) := dz_21 (dz_at q51d01_0_604 20)
theorem dL_law_626 : decode cL_law 626 = .ok (.iconst 1, 1) := dz_4 (dz_at q51d01_0_604 22)
theorem dL_law_627 : decode cL_law 627 = .ok (.iadd, 1) := dz_96 (dz_at q51d01_0_604 23)
theorem dL_law_628 : decode cL_law 628 = .ok (.iaload, 1) := dz_46 (dz_at q51d01_0_628 0)
theorem dL_law_629 : decode cL_law 629 = .ok (.aload_n 0, 1) := dz_42 (dz_at q51d01_0_628 1)
theorem dL_law_630 : decode cL_law 630 = .ok (.iload 4, 2) := dz_21 (dz_at q51d01_0_628 2)
theorem dL_law_632 : decode cL_law 632 = .ok (.iconst 2, 1) := dz_5 (dz_at q51d01_0_628 4)
theorem dL_law_633 : decode cL_law 633 = .ok (.iadd, 1) := dz_96 (dz_at q51d01_0_628 5)
theorem dL_law_634 : decode cL_law 634 = .ok (.iaload, 1) := dz_46 (dz_at q51d01_0_628 6)
theorem dL_law_635 : decode cL_law 635 = .ok (.invokevirtual 81, 3) := dz_182 (dz_at q51d01_0_628 7) rfl
theorem dL_law_638 : decode cL_law 638 = .ok (.istore 6, 2) := dz_54 (dz_at q51d01_0_628 10)
theorem dL_law_640 : decode cL_law 640 = .ok (.goto 945, 3) := dz_167 (dz_at q51d01_0_628 12) (by decide +kernel)
theorem dL_law_643 : decode cL_law 643 = .ok (.aload_n 1, 1) := dz_43 (dz_at q51d01_0_628 15)
theorem dL_law_644 : decode cL_law 644 = .ok (.aload_n 0, 1) := dz_42 (dz_at q51d01_0_628 16)
theorem dL_law_645 : decode cL_law 645 = .ok (.iload 4, 2) := dz_21 (dz_at q51d01_0_628 17)
theorem dL_law_647 : decode cL_law 647 = .ok (.iconst 1, 1) := dz_4 (dz_at q51d01_0_628 19)
theorem dL_law_648 : decode cL_law 648 = .ok (.iadd, 1) := dz_96 (dz_at q51d01_0_628 20)
theorem dL_law_649 : decode cL_law 649 = .ok (.iaload, 1) := dz_46 (dz_at q51d01_0_628 21)
theorem dL_law_650 : decode cL_law 650 = .ok (.aload_n 0, 1) := dz_42 (dz_at q51d01_0_628 22)
end zz51_d01
section zz51_d02
/-! the law, decoded -/
theorem q51d02_0_651 : (cL_law.data.toList.drop 651).take 22 = [21, 4, 5, 96, 46, 182, 0, 82, 87, 44, 42, 21, 4, 4, 96, 46, 42, 21, 4, 5, 96, 46] := by decide +kernel
theorem q51d02_0_673 : (cL_law.data.toList.drop 673).take 24 = [182, 0, 85, 87, 167, 3, 140, 43, 42, 21, 4, 4, 96, 46, 42, 21, 4, 5, 96, 46, 45, 184, 0, 86] := by decide +kernel
theorem q51d02_0_697 : (cL_law.data.toList.drop 697).take 24 = [54, 5, 44, 42, 21, 4, 4, 96, 46, 42, 21, 4, 5, 96, 46, 182, 0, 88, 55, 6, 167, 3, 100, 43] := by decide +kernel
theorem q51d02_0_721 : (cL_law.data.toList.drop 721).take 23 = [42, 21, 4, 4, 96, 46, 42, 21, 4, 5, 96, 46, 133, 16, 32, 121, 42, 21, 4, 6, 96, 46, 133] := by decide +kernel
theorem q51d02_0_744 : (cL_law.data.toList.drop 744).take 23 = [20, 0, 89, 127, 129, 182, 0, 91, 87, 44, 42, 21, 4, 4, 96, 46, 42, 21, 4, 5, 96, 46, 133] := by decide +kernel
theorem q51d02_0_767 : (cL_law.data.toList.drop 767).take 23 = [16, 32, 121, 42, 21, 4, 6, 96, 46, 133, 20, 0, 89, 127, 129, 182, 0, 95, 87, 167, 3, 31, 43] := by decide +kernel
theorem q51d02_0_790 : (cL_law.data.toList.drop 790).take 24 = [182, 0, 96, 88, 44, 182, 0, 100, 88, 167, 3, 18, 43, 42, 21, 4, 4, 96, 46, 42, 21, 4, 5, 96] := by decide +kernel
theorem q51d02_0_814 : (cL_law.data.toList.drop 814).take 22 = [46, 182, 0, 101, 87, 44, 42, 21, 4, 4, 96, 46, 42, 21, 4, 5, 96, 46, 182, 0, 105, 87] := by decide +kernel
theorem q51d02_0_836 : (cL_law.data.toList.drop 836).take 24 = [167, 2, 237, 43, 42, 21, 4, 4, 96, 46, 133, 16, 32, 121, 42, 21, 4, 5, 96, 46, 133, 20, 0, 89] := by decide +kernel
theorem q51d02_0_860 : (cL_law.data.toList.drop 860).take 1 = [127] := by decide +kernel
theorem dL_law_651 : decode cL_law 651 = .ok (.iload 4, 2) := dz_21 (dz_at q51d02_0_651 0)
theorem dL_law_653 : decode cL_law 653 = .ok (.iconst 2, 1) := dz_5 (dz_at q51d02_0_651 2)
theorem dL_law_654 : decode cL_law 654 = .ok (.iadd, 1) := dz_96 (dz_at q51d02_0_651 3)
theorem dL_law_655 : decode cL_law 655 = .ok (.iaload, 1) := dz_46 (dz_at q51d02_0_651 4)
theorem dL_law_656 : decode cL_law 656 = .ok (.invokevirtual 82, 3) := dz_182 (dz_at q51d02_0_651 5) rfl
theorem dL_law_659 : decode cL_law 659 = .ok (.pop, 1) := dz_87 (dz_at q51d02_0_651 8)
theorem dL_law_660 : decode cL_law 660 = .ok (.aload_n 2, 1) := dz_44 (dz_at q51d02_0_651 9)
theorem dL_law_661 : decode cL_law 661 = .ok (.aload_n 0, 1) := dz_42 (dz_at q51d02_0_651 10)
theorem dL_law_662 : decode cL_law 662 = .ok (.iload 4, 2) := dz_21 (dz_at q51d02_0_651 11)
theorem dL_law_664 : decode cL_law 664 = .ok (.iconst 1, 1) := dz_4 (dz_at q51d02_0_651 13)
theorem dL_law_665 : decode cL_law 665 = .ok (.iadd, 1) := dz_96 (dz_at q51d02_0_651 14)
theorem dL_law_666 : decode cL_law 666 = .ok (.iaload, 1) := dz_46 (dz_at q51d02_0_651 15)
theorem dL_law_667 : decode cL_law 667 = .ok (.aload_n 0, 1) := dz_42 (dz_at q51d02_0_651 16)
theorem dL_law_668 : decode cL_law 668 = .ok (.iload 4, 2) := dz_21 (dz_at q51d02_0_651 17)
theorem dL_law_670 : decode cL_law 670 = .ok (.iconst 2, 1) := dz_5 (dz_at q51d02_0_651 19)
theorem dL_law_671 : decode cL_law 671 = .ok (.iadd, 1) := dz_96 (dz_at q51d02_0_651 20)
theorem dL_law_672 : decode cL_law 672 = .ok (.iaload, 1) := dz_46 (dz_at q51d02_0_651 21)
theorem dL_law_673 : decode cL_law 673 = .ok (.invokevirtual 85, 3) := dz_182 (dz_at q51d02_0_673 0) rfl
theorem dL_law_676 : decode cL_law 676 = .ok (.pop, 1) := dz_87 (dz_at q51d02_0_673 3)
theorem dL_law_677 : decode cL_law 677 = .ok (.goto 908, 3) := dz_167 (dz_at q51d02_0_673 4) (by decide +kernel)
theorem dL_law_680 : decode cL_law 680 = .ok (.aload_n 1, 1) := dz_43 (dz_at q51d02_0_673 7)
theorem dL_law_681 : decode cL_law 681 = .ok (.aload_n 0, 1) := dz_42 (dz_at q51d02_0_673 8)
theorem dL_law_682 : decode cL_law 682 = .ok (.iload 4, 2) := dz_21 (dz_at q51d02_0_673 9)
theorem dL_law_684 : decode cL_law 684 = .ok (.iconst 1, 1) := dz_4 (dz_at q51d02_0_673 11)
theorem dL_law_685 : decode cL_law 685 = .ok (.iadd, 1) := dz_96 (dz_at q51d02_0_673 12)
theorem dL_law_686 : decode cL_law 686 = .ok (.iaload, 1) := dz_46 (dz_at q51d02_0_673 13)
theorem dL_law_687 : decode cL_law 687 = .ok (.aload_n 0, 1) := dz_42 (dz_at q51d02_0_673 14)
theorem dL_law_688 : decode cL_law 688 = .ok (.iload 4, 2) := dz_21 (dz_at q51d02_0_673 15)
theorem dL_law_690 : decode cL_law 690 = .ok (.iconst 2, 1) := dz_5 (dz_at q51d02_0_673 17)
theorem dL_law_691 : decode cL_law 691 = .ok (.iadd, 1) := dz_96 (dz_at q51d02_0_673 18)
theorem dL_law_692 : decode cL_law 692 = .ok (.iaload, 1) := dz_46 (dz_at q51d02_0_673 19)
theorem dL_law_693 : decode cL_law 693 = .ok (.aload_n 3, 1) := dz_45 (dz_at q51d02_0_673 20)
theorem dL_law_694 : decode cL_law 694 = .ok (.invokestatic 86, 3) := dz_184 (dz_at q51d02_0_673 21) rfl
theorem dL_law_697 : decode cL_law 697 = .ok (.istore 5, 2) := dz_54 (dz_at q51d02_0_697 0)
theorem dL_law_699 : decode cL_law 699 = .ok (.aload_n 2, 1) := dz_44 (dz_at q51d02_0_697 2)
theorem dL_law_700 : decode cL_law 700 = .ok (.aload_n 0, 1) := dz_42 (dz_at q51d02_0_697 3)
theorem dL_law_701 : decode cL_law 701 = .ok (.iload 4, 2) := dz_21 (dz_at q51d02_0_697 4)
theorem dL_law_703 : decode cL_law 703 = .ok (.iconst 1, 1) := dz_4 (dz_at q51d02_0_697 6)
theorem dL_law_704 : decode cL_law 704 = .ok (.iadd, 1) := dz_96 (dz_at q51d02_0_697 7)
theorem dL_law_705 : decode cL_law 705 = .ok (.iaload, 1) := dz_46 (dz_at q51d02_0_697 8)
theorem dL_law_706 : decode cL_law 706 = .ok (.aload_n 0, 1) := dz_42 (dz_at q51d02_0_697 9)
theorem dL_law_707 : decode cL_law 707 = .ok (.iload 4, 2) := dz_21 (dz_at q51d02_0_697 10)
theorem dL_law_709 : decode cL_law 709 = .ok (.iconst 2, 1) := dz_5 (dz_at q51d02_0_697 12)
theorem dL_law_710 : decode cL_law 710 = .ok (.iadd, 1) := dz_96 (dz_at q51d02_0_697 13)
theorem dL_law_711 : decode cL_law 711 = .ok (.iaload, 1) := dz_46 (dz_at q51d02_0_697 14)
theorem dL_law_712 : decode cL_law 712 = .ok (.invokevirtual 88, 3) := dz_182 (dz_at q51d02_0_697 15) rfl
theorem dL_law_715 : decode cL_law 715 = .ok (.lstore 6, 2) := dz_55 (dz_at q51d02_0_697 18)
theorem dL_law_717 : decode cL_law 717 = .ok (.goto 868, 3) := dz_167 (dz_at q51d02_0_697 20) (by decide +kernel)
theorem dL_law_720 : decode cL_law 720 = .ok (.aload_n 1, 1) := dz_43 (dz_at q51d02_0_697 23)
theorem dL_law_721 : decode cL_law 721 = .ok (.aload_n 0, 1) := dz_42 (dz_at q51d02_0_721 0)
theorem dL_law_722 : decode cL_law 722 = .ok (.iload 4, 2) := dz_21 (dz_at q51d02_0_721 1)
theorem dL_law_724 : decode cL_law 724 = .ok (.iconst 1, 1) := dz_4 (dz_at q51d02_0_721 3)
theorem dL_law_725 : decode cL_law 725 = .ok (.iadd, 1) := dz_96 (dz_at q51d02_0_721 4)
theorem dL_law_726 : decode cL_law 726 = .ok (.iaload, 1) := dz_46 (dz_at q51d02_0_721 5)
theorem dL_law_727 : decode cL_law 727 = .ok (.aload_n 0, 1) := dz_42 (dz_at q51d02_0_721 6)
theorem dL_law_728 : decode cL_law 728 = .ok (.iload 4, 2) := dz_21 (dz_at q51d02_0_721 7)
theorem dL_law_730 : decode cL_law 730 = .ok (.iconst 2, 1) := dz_5 (dz_at q51d02_0_721 9)
theorem dL_law_731 : decode cL_law 731 = .ok (.iadd, 1) := dz_96 (dz_at q51d02_0_721 10)
theorem dL_law_732 : decode cL_law 732 = .ok (.iaload, 1) := dz_46 (dz_at q51d02_0_721 11)
theorem dL_law_733 : decode cL_law 733 = .ok (.i2l, 1) := dz_133 (dz_at q51d02_0_721 12)
theorem dL_law_734 : decode cL_law 734 = .ok (.bipush 32, 2) := dz_16 (dz_at q51d02_0_721 13) (by decide +kernel)
theorem dL_law_736 : decode cL_law 736 = .ok (.lshl, 1) := dz_121 (dz_at q51d02_0_721 15)
theorem dL_law_737 : decode cL_law 737 = .ok (.aload_n 0, 1) := dz_42 (dz_at q51d02_0_721 16)
theorem dL_law_738 : decode cL_law 738 = .ok (.iload 4, 2) := dz_21 (dz_at q51d02_0_721 17)
theorem dL_law_740 : decode cL_law 740 = .ok (.iconst 3, 1) := dz_6 (dz_at q51d02_0_721 19)
theorem dL_law_741 : decode cL_law 741 = .ok (.iadd, 1) := dz_96 (dz_at q51d02_0_721 20)
theorem dL_law_742 : decode cL_law 742 = .ok (.iaload, 1) := dz_46 (dz_at q51d02_0_721 21)
theorem dL_law_743 : decode cL_law 743 = .ok (.i2l, 1) := dz_133 (dz_at q51d02_0_721 22)
theorem dL_law_744 : decode cL_law 744 = .ok (.ldc2_w 89, 3) := dz_20 (dz_at q51d02_0_744 0) rfl
theorem dL_law_747 : decode cL_law 747 = .ok (.land, 1) := dz_127 (dz_at q51d02_0_744 3)
theorem dL_law_748 : decode cL_law 748 = .ok (.lor, 1) := dz_129 (dz_at q51d02_0_744 4)
theorem dL_law_749 : decode cL_law 749 = .ok (.invokevirtual 91, 3) := dz_182 (dz_at q51d02_0_744 5) rfl
theorem dL_law_752 : decode cL_law 752 = .ok (.pop, 1) := dz_87 (dz_at q51d02_0_744 8)
theorem dL_law_753 : decode cL_law 753 = .ok (.aload_n 2, 1) := dz_44 (dz_at q51d02_0_744 9)
theorem dL_law_754 : decode cL_law 754 = .ok (.aload_n 0, 1) := dz_42 (dz_at q51d02_0_744 10)
theorem dL_law_755 : decode cL_law 755 = .ok (.iload 4, 2) := dz_21 (dz_at q51d02_0_744 11)
theorem dL_law_757 : decode cL_law 757 = .ok (.iconst 1, 1) := dz_4 (dz_at q51d02_0_744 13)
theorem dL_law_758 : decode cL_law 758 = .ok (.iadd, 1) := dz_96 (dz_at q51d02_0_744 14)
theorem dL_law_759 : decode cL_law 759 = .ok (.iaload, 1) := dz_46 (dz_at q51d02_0_744 15)
theorem dL_law_760 : decode cL_law 760 = .ok (.aload_n 0, 1) := dz_42 (dz_at q51d02_0_744 16)
theorem dL_law_761 : decode cL_law 761 = .ok (.iload 4, 2) := dz_21 (dz_at q51d02_0_744 17)
theorem dL_law_763 : decode cL_law 763 = .ok (.iconst 2, 1) := dz_5 (dz_at q51d02_0_744 19)
theorem dL_law_764 : decode cL_law 764 = .ok (.iadd, 1) := dz_96 (dz_at q51d02_0_744 20)
theorem dL_law_765 : decode cL_law 765 = .ok (.iaload, 1) := dz_46 (dz_at q51d02_0_744 21)
theorem dL_law_766 : decode cL_law 766 = .ok (.i2l, 1) := dz_133 (dz_at q51d02_0_744 22)
theorem dL_law_767 : decode cL_law 767 = .ok (.bipush 32, 2) := dz_16 (dz_at q51d02_0_767 0) (by decide +kernel)
theorem dL_law_769 : decode cL_law 769 = .ok (.lshl, 1) := dz_121 (dz_at q51d02_0_767 2)
theorem dL_law_770 : decode cL_law 770 = .ok (.aload_n 0, 1) := dz_42 (dz_at q51d02_0_767 3)
theorem dL_law_771 : decode cL_law 771 = .ok (.iload 4, 2) := dz_21 (dz_at q51d02_0_767 4)
theorem dL_law_773 : decode cL_law 773 = .ok (.iconst 3, 1) := dz_6 (dz_at q51d02_0_767 6)
theorem dL_law_774 : decode cL_law 774 = .ok (.iadd, 1) := dz_96 (dz_at q51d02_0_767 7)
theorem dL_law_775 : decode cL_law 775 = .ok (.iaload, 1) := dz_46 (dz_at q51d02_0_767 8)
theorem dL_law_776 : decode cL_law 776 = .ok (.i2l, 1) := dz_133 (dz_at q51d02_0_767 9)
theorem dL_law_777 : decode cL_law 777 = .ok (.ldc2_w 89, 3) := dz_20 (dz_at q51d02_0_767 10) rfl
theorem dL_law_780 : decode cL_law 780 = .ok (.land, 1) := dz_127 (dz_at q51d02_0_767 13)
theorem dL_law_781 : decode cL_law 781 = .ok (.lor, 1) := dz_129 (dz_at q51d02_0_767 14)
theorem dL_law_782 : decode cL_law 782 = .ok (.invokevirtual 95, 3) := dz_182 (dz_at q51d02_0_767 15) rfl
theorem dL_law_785 : decode cL_law 785 = .ok (.pop, 1) := dz_87 (dz_at q51d02_0_767 18)
theorem dL_law_786 : decode cL_law 786 = .ok (.goto 799, 3) := dz_167 (dz_at q51d02_0_767 19) (by decide +kernel)
theorem dL_law_789 : decode cL_law 789 = .ok (.aload_n 1, 1) := dz_43 (dz_at q51d02_0_767 22)
theorem dL_law_790 : decode cL_law 790 = .ok (.invokevirtual 96, 3) := dz_182 (dz_at q51d02_0_790 0) rfl
theorem dL_law_793 : decode cL_law 793 = .ok (.pop2, 1) := dz_88 (dz_at q51d02_0_790 3)
theorem dL_law_794 : decode cL_law 794 = .ok (.aload_n 2, 1) := dz_44 (dz_at q51d02_0_790 4)
theorem dL_law_795 : decode cL_law 795 = .ok (.invokevirtual 100, 3) := dz_182 (dz_at q51d02_0_790 5) rfl
theorem dL_law_798 : decode cL_law 798 = .ok (.pop2, 1) := dz_88 (dz_at q51d02_0_790 8)
theorem dL_law_799 : decode cL_law 799 = .ok (.goto 786, 3) := dz_167 (dz_at q51d02_0_790 9) (by decide +kernel)
theorem dL_law_802 : decode cL_law 802 = .ok (.aload_n 1, 1) := dz_43 (dz_at q51d02_0_790 12)
theorem dL_law_803 : decode cL_law 803 = .ok (.aload_n 0, 1) := dz_42 (dz_at q51d02_0_790 13)
theorem dL_law_804 : decode cL_law 804 = .ok (.iload 4, 2) := dz_21 (dz_at q51d02_0_790 14)
theorem dL_law_806 : decode cL_law 806 = .ok (.iconst 1, 1) := dz_4 (dz_at q51d02_0_790 16)
theorem dL_law_807 : decode cL_law 807 = .ok (.iadd, 1) := dz_96 (dz_at q51d02_0_790 17)
theorem dL_law_808 : decode cL_law 808 = .ok (.iaload, 1) := dz_46 (dz_at q51d02_0_790 18)
theorem dL_law_809 : decode cL_law 809 = .ok (.aload_n 0, 1) := dz_42 (dz_at q51d02_0_790 19)
theorem dL_law_810 : decode cL_law 810 = .ok (.iload 4, 2) := dz_21 (dz_at q51d02_0_790 20)
theorem dL_law_812 : decode cL_law 812 = .ok (.iconst 2, 1) := dz_5 (dz_at q51d02_0_790 22)
theorem dL_law_813 : decode cL_law 813 = .ok (.iadd, 1) := dz_96 (dz_at q51d02_0_790 23)
theorem dL_law_814 : decode cL_law 814 = .ok (.iaload, 1) := dz_46 (dz_at q51d02_0_814 0)
theorem dL_law_815 : decode cL_law 815 = .ok (.invokevirtual 101, 3) := dz_182 (dz_at q51d02_0_814 1) rfl
theorem dL_law_818 : decode cL_law 818 = .ok (.pop, 1) := dz_87 (dz_at q51d02_0_814 4)
theorem dL_law_819 : decode cL_law 819 = .ok (.aload_n 2, 1) := dz_44 (dz_at q51d02_0_814 5)
theorem dL_law_820 : decode cL_law 820 = .ok (.aload_n 0, 1) := dz_42 (dz_at q51d02_0_814 6)
theorem dL_law_821 : decode cL_law 821 = .ok (.iload 4, 2) := dz_21 (dz_at q51d02_0_814 7)
theorem dL_law_823 : decode cL_law 823 = .ok (.iconst 1, 1) := dz_4 (dz_at q51d02_0_814 9)
theorem dL_law_824 : decode cL_law 824 = .ok (.iadd, 1) := dz_96 (dz_at q51d02_0_814 10)
theorem dL_law_825 : decode cL_law 825 = .ok (.iaload, 1) := dz_46 (dz_at q51d02_0_814 11)
theorem dL_law_826 : decode cL_law 826 = .ok (.aload_n 0, 1) := dz_42 (dz_at q51d02_0_814 12)
theorem dL_law_827 : decode cL_law 827 = .ok (.iload 4, 2) := dz_21 (dz_at q51d02_0_814 13)
theorem dL_law_829 : decode cL_law 829 = .ok (.iconst 2, 1) := dz_5 (dz_at q51d02_0_814 15)
theorem dL_law_830 : decode cL_law 830 = .ok (.iadd, 1) := dz_96 (dz_at q51d02_0_814 16)
theorem dL_law_831 : decode cL_law 831 = .ok (.iaload, 1) := dz_46 (dz_at q51d02_0_814 17)
theorem dL_law_832 : decode cL_law 832 = .ok (.invokevirtual 105, 3) := dz_182 (dz_at q51d02_0_814 18) rfl
theorem dL_law_835 : decode cL_law 835 = .ok (.pop, 1) := dz_87 (dz_at q51d02_0_814 21)
theorem dL_law_836 : decode cL_law 836 = .ok (.goto 749, 3) := dz_167 (dz_at q51d02_0_836 0) (by decide +kernel)
theorem dL_law_839 : decode cL_law 839 = .ok (.aload_n 1, 1) := dz_43 (dz_at q51d02_0_836 3)
theorem dL_law_840 : decode cL_law 840 = .ok (.aload_n 0, 1) := dz_42 (dz_at q51d02_0_836 4)
theorem dL_law_841 : decode cL_law 841 = .ok (.iload 4, 2) := dz_21 (dz_at q51d02_0_836 5)
theorem dL_law_843 : decode cL_law 843 = .ok (.iconst 1, 1) := dz_4 (dz_at q51d02_0_836 7)
theorem dL_law_844 : decode cL_law 844 = .ok (.iadd, 1) := dz_96 (dz_at q51d02_0_836 8)
theorem dL_law_845 : decode cL_law 845 = .ok (.iaload, 1) := dz_46 (dz_at q51d02_0_836 9)
theorem dL_law_846 : decode cL_law 846 = .ok (.i2l, 1) := dz_133 (dz_at q51d02_0_836 10)
theorem dL_law_847 : decode cL_law 847 = .ok (.bipush 32, 2) := dz_16 (dz_at q51d02_0_836 11) (by decide +kernel)
theorem dL_law_849 : decode cL_law 849 = .ok (.lshl, 1) := dz_121 (dz_at q51d02_0_836 13)
theorem dL_law_850 : decode cL_law 850 = .ok (.aload_n 0, 1) := dz_42 (dz_at q51d02_0_836 14)
theorem dL_law_851 : decode cL_law 851 = .ok (.iload 4, 2) := dz_21 (dz_at q51d02_0_836 15)
theorem dL_law_853 : decode cL_law 853 = .ok (.iconst 2, 1) := dz_5 (dz_at q51d02_0_836 17)
theorem dL_law_854 : decode cL_law 854 = .ok (.iadd, 1) := dz_96 (dz_at q51d02_0_836 18)
theorem dL_law_855 : decode cL_law 855 = .ok (.iaload, 1) := dz_46 (dz_at q51d02_0_836 19)
theorem dL_law_856 : decode cL_law 856 = .ok (.i2l, 1) := dz_133 (dz_at q51d02_0_836 20)
theorem dL_law_857 : decode cL_law 857 = .ok (.ldc2_w 89, 3) := dz_20 (dz_at q51d02_0_836 21) rfl
theorem dL_law_860 : decode cL_law 860 = .ok (.land, 1) := dz_127 (dz_at q51d02_0_860 0)
end zz51_d02
section zz51_d03
/-! the law, decoded -/
theorem q51d03_0_861 : (cL_law.data.toList.drop 861).take 23 = [129, 182, 0, 106, 88, 44, 42, 21, 4, 4, 96, 46, 133, 16, 32, 121, 42, 21, 4, 5, 96, 46, 133] := by decide +kernel
theorem q51d03_0_884 : (cL_law.data.toList.drop 884).take 22 = [20, 0, 89, 127, 129, 182, 0, 110, 88, 167, 2, 180, 43, 182, 0, 111, 88, 44, 182, 0, 114, 88] := by decide +kernel
theorem q51d03_0_906 : (cL_law.data.toList.drop 906).take 24 = [167, 2, 167, 43, 42, 21, 4, 4, 96, 46, 42, 21, 4, 5, 96, 46, 182, 0, 115, 87, 44, 42, 21, 4] := by decide +kernel
theorem q51d03_0_930 : (cL_law.data.toList.drop 930).take 22 = [4, 96, 46, 42, 21, 4, 5, 96, 46, 182, 0, 118, 87, 167, 2, 130, 43, 182, 0, 119, 87, 44] := by decide +kernel
theorem q51d03_0_952 : (cL_law.data.toList.drop 952).take 24 = [182, 0, 122, 87, 167, 2, 117, 43, 182, 0, 123, 87, 44, 182, 0, 126, 87, 167, 2, 104, 43, 182, 0, 127] := by decide +kernel
theorem q51d03_0_976 : (cL_law.data.toList.drop 976).take 22 = [87, 44, 182, 0, 130, 87, 167, 2, 91, 43, 42, 21, 4, 4, 96, 46, 42, 21, 4, 5, 96, 46] := by decide +kernel
theorem q51d03_0_998 : (cL_law.data.toList.drop 998).take 24 = [182, 0, 131, 87, 44, 42, 21, 4, 4, 96, 46, 42, 21, 4, 5, 96, 46, 182, 0, 134, 87, 167, 2, 54] := by decide +kernel
theorem q51d03_0_1022 : (cL_law.data.toList.drop 1022).take 24 = [43, 42, 21, 4, 4, 96, 46, 42, 21, 4, 5, 96, 46, 182, 0, 135, 87, 44, 42, 21, 4, 4, 96, 46] := by decide +kernel
theorem q51d03_0_1046 : (cL_law.data.toList.drop 1046).take 24 = [42, 21, 4, 5, 96, 46, 182, 0, 138, 87, 167, 2, 17, 43, 42, 21, 4, 4, 96, 46, 42, 21, 4, 5] := by decide +kernel
theorem q51d03_0_1070 : (cL_law.data.toList.drop 1070).take 9 = [96, 46, 42, 21, 4, 6, 96, 46, 42] := by decide +kernel
theorem dL_law_861 : decode cL_law 861 = .ok (.lor, 1) := dz_129 (dz_at q51d03_0_861 0)
theorem dL_law_862 : decode cL_law 862 = .ok (.invokevirtual 106, 3) := dz_182 (dz_at q51d03_0_861 1) rfl
theorem dL_law_865 : decode cL_law 865 = .ok (.pop2, 1) := dz_88 (dz_at q51d03_0_861 4)
theorem dL_law_866 : decode cL_law 866 = .ok (.aload_n 2, 1) := dz_44 (dz_at q51d03_0_861 5)
theorem dL_law_867 : decode cL_law 867 = .ok (.aload_n 0, 1) := dz_42 (dz_at q51d03_0_861 6)
theorem dL_law_868 : decode cL_law 868 = .ok (.iload 4, 2) := dz_21 (dz_at q51d03_0_861 7)
theorem dL_law_870 : decode cL_law 870 = .ok (.iconst 1, 1) := dz_4 (dz_at q51d03_0_861 9)
theorem dL_law_871 : decode cL_law 871 = .ok (.iadd, 1) := dz_96 (dz_at q51d03_0_861 10)
theorem dL_law_872 : decode cL_law 872 = .ok (.iaload, 1) := dz_46 (dz_at q51d03_0_861 11)
theorem dL_law_873 : decode cL_law 873 = .ok (.i2l, 1) := dz_133 (dz_at q51d03_0_861 12)
theorem dL_law_874 : decode cL_law 874 = .ok (.bipush 32, 2) := dz_16 (dz_at q51d03_0_861 13) (by decide +kernel)
theorem dL_law_876 : decode cL_law 876 = .ok (.lshl, 1) := dz_121 (dz_at q51d03_0_861 15)
theorem dL_law_877 : decode cL_law 877 = .ok (.aload_n 0, 1) := dz_42 (dz_at q51d03_0_861 16)
theorem dL_law_878 : decode cL_law 878 = .ok (.iload 4, 2) := dz_21 (dz_at q51d03_0_861 17)
theorem dL_law_880 : decode cL_law 880 = .ok (.iconst 2, 1) := dz_5 (dz_at q51d03_0_861 19)
theorem dL_law_881 : decode cL_law 881 = .ok (.iadd, 1) := dz_96 (dz_at q51d03_0_861 20)
theorem dL_law_882 : decode cL_law 882 = .ok (.iaload, 1) := dz_46 (dz_at q51d03_0_861 21)
theorem dL_law_883 : decode cL_law 883 = .ok (.i2l, 1) := dz_133 (dz_at q51d03_0_861 22)
theorem dL_law_884 : decode cL_law 884 = .ok (.ldc2_w 89, 3) := dz_20 (dz_at q51d03_0_884 0) rfl
theorem dL_law_887 : decode cL_law 887 = .ok (.land, 1) := dz_127 (dz_at q51d03_0_884 3)
theorem dL_law_888 : decode cL_law 888 = .ok (.lor, 1) := dz_129 (dz_at q51d03_0_884 4)
theorem dL_law_889 : decode cL_law 889 = .ok (.invokevirtual 110, 3) := dz_182 (dz_at q51d03_0_884 5) rfl
theorem dL_law_892 : decode cL_law 892 = .ok (.pop2, 1) := dz_88 (dz_at q51d03_0_884 8)
theorem dL_law_893 : decode cL_law 893 = .ok (.goto 692, 3) := dz_167 (dz_at q51d03_0_884 9) (by decide +kernel)
theorem dL_law_896 : decode cL_law 896 = .ok (.aload_n 1, 1) := dz_43 (dz_at q51d03_0_884 12)
theorem dL_law_897 : decode cL_law 897 = .ok (.invokevirtual 111, 3) := dz_182 (dz_at q51d03_0_884 13) rfl
theorem dL_law_900 : decode cL_law 900 = .ok (.pop2, 1) := dz_88 (dz_at q51d03_0_884 16)
theorem dL_law_901 : decode cL_law 901 = .ok (.aload_n 2, 1) := dz_44 (dz_at q51d03_0_884 17)
theorem dL_law_902 : decode cL_law 902 = .ok (.invokevirtual 114, 3) := dz_182 (dz_at q51d03_0_884 18) rfl
theorem dL_law_905 : decode cL_law 905 = .ok (.pop2, 1) := dz_88 (dz_at q51d03_0_884 21)
theorem dL_law_906 : decode cL_law 906 = .ok (.goto 679, 3) := dz_167 (dz_at q51d03_0_906 0) (by decide +kernel)
theorem dL_law_909 : decode cL_law 909 = .ok (.aload_n 1, 1) := dz_43 (dz_at q51d03_0_906 3)
theorem dL_law_910 : decode cL_law 910 = .ok (.aload_n 0, 1) := dz_42 (dz_at q51d03_0_906 4)
theorem dL_law_911 : decode cL_law 911 = .ok (.iload 4, 2) := dz_21 (dz_at q51d03_0_906 5)
theorem dL_law_913 : decode cL_law 913 = .ok (.iconst 1, 1) := dz_4 (dz_at q51d03_0_906 7)
theorem dL_law_914 : decode cL_law 914 = .ok (.iadd, 1) := dz_96 (dz_at q51d03_0_906 8)
theorem dL_law_915 : decode cL_law 915 = .ok (.iaload, 1) := dz_46 (dz_at q51d03_0_906 9)
theorem dL_law_916 : decode cL_law 916 = .ok (.aload_n 0, 1) := dz_42 (dz_at q51d03_0_906 10)
theorem dL_law_917 : decode cL_law 917 = .ok (.iload 4, 2) := dz_21 (dz_at q51d03_0_906 11)
theorem dL_law_919 : decode cL_law 919 = .ok (.iconst 2, 1) := dz_5 (dz_at q51d03_0_906 13)
theorem dL_law_920 : decode cL_law 920 = .ok (.iadd, 1) := dz_96 (dz_at q51d03_0_906 14)
theorem dL_law_921 : decode cL_law 921 = .ok (.iaload, 1) := dz_46 (dz_at q51d03_0_906 15)
theorem dL_law_922 : decode cL_law 922 = .ok (.invokevirtual 115, 3) := dz_182 (dz_at q51d03_0_906 16) rfl
theorem dL_law_925 : decode cL_law 925 = .ok (.pop, 1) := dz_87 (dz_at q51d03_0_906 19)
theorem dL_law_926 : decode cL_law 926 = .ok (.aload_n 2, 1) := dz_44 (dz_at q51d03_0_906 20)
theorem dL_law_927 : decode cL_law 927 = .ok (.aload_n 0, 1) := dz_42 (dz_at q51d03_0_906 21)
theorem dL_law_928 : decode cL_law 928 = .ok (.iload 4, 2) := dz_21 (dz_at q51d03_0_906 22)
theorem dL_law_930 : decode cL_law 930 = .ok (.iconst 1, 1) := dz_4 (dz_at q51d03_0_930 0)
theorem dL_law_931 : decode cL_law 931 = .ok (.iadd, 1) := dz_96 (dz_at q51d03_0_930 1)
theorem dL_law_932 : decode cL_law 932 = .ok (.iaload, 1) := dz_46 (dz_at q51d03_0_930 2)
theorem dL_law_933 : decode cL_law 933 = .ok (.aload_n 0, 1) := dz_42 (dz_at q51d03_0_930 3)
theorem dL_law_934 : decode cL_law 934 = .ok (.iload 4, 2) := dz_21 (dz_at q51d03_0_930 4)
theorem dL_law_936 : decode cL_law 936 = .ok (.iconst 2, 1) := dz_5 (dz_at q51d03_0_930 6)
theorem dL_law_937 : decode cL_law 937 = .ok (.iadd, 1) := dz_96 (dz_at q51d03_0_930 7)
theorem dL_law_938 : decode cL_law 938 = .ok (.iaload, 1) := dz_46 (dz_at q51d03_0_930 8)
theorem dL_law_939 : decode cL_law 939 = .ok (.invokevirtual 118, 3) := dz_182 (dz_at q51d03_0_930 9) rfl
theorem dL_law_942 : decode cL_law 942 = .ok (.pop, 1) := dz_87 (dz_at q51d03_0_930 12)
theorem dL_law_943 : decode cL_law 943 = .ok (.goto 642, 3) := dz_167 (dz_at q51d03_0_930 13) (by decide +kernel)
theorem dL_law_946 : decode cL_law 946 = .ok (.aload_n 1, 1) := dz_43 (dz_at q51d03_0_930 16)
theorem dL_law_947 : decode cL_law 947 = .ok (.invokevirtual 119, 3) := dz_182 (dz_at q51d03_0_930 17) rfl
theorem dL_law_950 : decode cL_law 950 = .ok (.pop, 1) := dz_87 (dz_at q51d03_0_930 20)
theorem dL_law_951 : decode cL_law 951 = .ok (.aload_n 2, 1) := dz_44 (dz_at q51d03_0_930 21)
theorem dL_law_952 : decode cL_law 952 = .ok (.invokevirtual 122, 3) := dz_182 (dz_at q51d03_0_952 0) rfl
theorem dL_law_955 : decode cL_law 955 = .ok (.pop, 1) := dz_87 (dz_at q51d03_0_952 3)
theorem dL_law_956 : decode cL_law 956 = .ok (.goto 629, 3) := dz_167 (dz_at q51d03_0_952 4) (by decide +kernel)
theorem dL_law_959 : decode cL_law 959 = .ok (.aload_n 1, 1) := dz_43 (dz_at q51d03_0_952 7)
theorem dL_law_960 : decode cL_law 960 = .ok (.invokevirtual 123, 3) := dz_182 (dz_at q51d03_0_952 8) rfl
theorem dL_law_963 : decode cL_law 963 = .ok (.pop, 1) := dz_87 (dz_at q51d03_0_952 11)
theorem dL_law_964 : decode cL_law 964 = .ok (.aload_n 2, 1) := dz_44 (dz_at q51d03_0_952 12)
theorem dL_law_965 : decode cL_law 965 = .ok (.invokevirtual 126, 3) := dz_182 (dz_at q51d03_0_952 13) rfl
theorem dL_law_968 : decode cL_law 968 = .ok (.pop, 1) := dz_87 (dz_at q51d03_0_952 16)
theorem dL_law_969 : decode cL_law 969 = .ok (.goto 616, 3) := dz_167 (dz_at q51d03_0_952 17) (by decide +kernel)
theorem dL_law_972 : decode cL_law 972 = .ok (.aload_n 1, 1) := dz_43 (dz_at q51d03_0_952 20)
theorem dL_law_973 : decode cL_law 973 = .ok (.invokevirtual 127, 3) := dz_182 (dz_at q51d03_0_952 21) rfl
theorem dL_law_976 : decode cL_law 976 = .ok (.pop, 1) := dz_87 (dz_at q51d03_0_976 0)
theorem dL_law_977 : decode cL_law 977 = .ok (.aload_n 2, 1) := dz_44 (dz_at q51d03_0_976 1)
theorem dL_law_978 : decode cL_law 978 = .ok (.invokevirtual 130, 3) := dz_182 (dz_at q51d03_0_976 2) rfl
theorem dL_law_981 : decode cL_law 981 = .ok (.pop, 1) := dz_87 (dz_at q51d03_0_976 5)
theorem dL_law_982 : decode cL_law 982 = .ok (.goto 603, 3) := dz_167 (dz_at q51d03_0_976 6) (by decide +kernel)
theorem dL_law_985 : decode cL_law 985 = .ok (.aload_n 1, 1) := dz_43 (dz_at q51d03_0_976 9)
theorem dL_law_986 : decode cL_law 986 = .ok (.aload_n 0, 1) := dz_42 (dz_at q51d03_0_976 10)
theorem dL_law_987 : decode cL_law 987 = .ok (.iload 4, 2) := dz_21 (dz_at q51d03_0_976 11)
theorem dL_law_989 : decode cL_law 989 = .ok (.iconst 1, 1) := dz_4 (dz_at q51d03_0_976 13)
theorem dL_law_990 : decode cL_law 990 = .ok (.iadd, 1) := dz_96 (dz_at q51d03_0_976 14)
theorem dL_law_991 : decode cL_law 991 = .ok (.iaload, 1) := dz_46 (dz_at q51d03_0_976 15)
theorem dL_law_992 : decode cL_law 992 = .ok (.aload_n 0, 1) := dz_42 (dz_at q51d03_0_976 16)
theorem dL_law_993 : decode cL_law 993 = .ok (.iload 4, 2) := dz_21 (dz_at q51d03_0_976 17)
theorem dL_law_995 : decode cL_law 995 = .ok (.iconst 2, 1) := dz_5 (dz_at q51d03_0_976 19)
theorem dL_law_996 : decode cL_law 996 = .ok (.iadd, 1) := dz_96 (dz_at q51d03_0_976 20)
theorem dL_law_997 : decode cL_law 997 = .ok (.iaload, 1) := dz_46 (dz_at q51d03_0_976 21)
theorem dL_law_998 : decode cL_law 998 = .ok (.invokevirtual 131, 3) := dz_182 (dz_at q51d03_0_998 0) rfl
theorem dL_law_1001 : decode cL_law 1001 = .ok (.pop, 1) := dz_87 (dz_at q51d03_0_998 3)
theorem dL_law_1002 : decode cL_law 1002 = .ok (.aload_n 2, 1) := dz_44 (dz_at q51d03_0_998 4)
theorem dL_law_1003 : decode cL_law 1003 = .ok (.aload_n 0, 1) := dz_42 (dz_at q51d03_0_998 5)
theorem dL_law_1004 : decode cL_law 1004 = .ok (.iload 4, 2) := dz_21 (dz_at q51d03_0_998 6)
theorem dL_law_1006 : decode cL_law 1006 = .ok (.iconst 1, 1) := dz_4 (dz_at q51d03_0_998 8)
theorem dL_law_1007 : decode cL_law 1007 = .ok (.iadd, 1) := dz_96 (dz_at q51d03_0_998 9)
theorem dL_law_1008 : decode cL_law 1008 = .ok (.iaload, 1) := dz_46 (dz_at q51d03_0_998 10)
theorem dL_law_1009 : decode cL_law 1009 = .ok (.aload_n 0, 1) := dz_42 (dz_at q51d03_0_998 11)
theorem dL_law_1010 : decode cL_law 1010 = .ok (.iload 4, 2) := dz_21 (dz_at q51d03_0_998 12)
theorem dL_law_1012 : decode cL_law 1012 = .ok (.iconst 2, 1) := dz_5 (dz_at q51d03_0_998 14)
theorem dL_law_1013 : decode cL_law 1013 = .ok (.iadd, 1) := dz_96 (dz_at q51d03_0_998 15)
theorem dL_law_1014 : decode cL_law 1014 = .ok (.iaload, 1) := dz_46 (dz_at q51d03_0_998 16)
theorem dL_law_1015 : decode cL_law 1015 = .ok (.invokevirtual 134, 3) := dz_182 (dz_at q51d03_0_998 17) rfl
theorem dL_law_1018 : decode cL_law 1018 = .ok (.pop, 1) := dz_87 (dz_at q51d03_0_998 20)
theorem dL_law_1019 : decode cL_law 1019 = .ok (.goto 566, 3) := dz_167 (dz_at q51d03_0_998 21) (by decide +kernel)
theorem dL_law_1022 : decode cL_law 1022 = .ok (.aload_n 1, 1) := dz_43 (dz_at q51d03_0_1022 0)
theorem dL_law_1023 : decode cL_law 1023 = .ok (.aload_n 0, 1) := dz_42 (dz_at q51d03_0_1022 1)
theorem dL_law_1024 : decode cL_law 1024 = .ok (.iload 4, 2) := dz_21 (dz_at q51d03_0_1022 2)
theorem dL_law_1026 : decode cL_law 1026 = .ok (.iconst 1, 1) := dz_4 (dz_at q51d03_0_1022 4)
theorem dL_law_1027 : decode cL_law 1027 = .ok (.iadd, 1) := dz_96 (dz_at q51d03_0_1022 5)
theorem dL_law_1028 : decode cL_law 1028 = .ok (.iaload, 1) := dz_46 (dz_at q51d03_0_1022 6)
theorem dL_law_1029 : decode cL_law 1029 = .ok (.aload_n 0, 1) := dz_42 (dz_at q51d03_0_1022 7)
theorem dL_law_1030 : decode cL_law 1030 = .ok (.iload 4, 2) := dz_21 (dz_at q51d03_0_1022 8)
theorem dL_law_1032 : decode cL_law 1032 = .ok (.iconst 2, 1) := dz_5 (dz_at q51d03_0_1022 10)
theorem dL_law_1033 : decode cL_law 1033 = .ok (.iadd, 1) := dz_96 (dz_at q51d03_0_1022 11)
theorem dL_law_1034 : decode cL_law 1034 = .ok (.iaload, 1) := dz_46 (dz_at q51d03_0_1022 12)
theorem dL_law_1035 : decode cL_law 1035 = .ok (.invokevirtual 135, 3) := dz_182 (dz_at q51d03_0_1022 13) rfl
theorem dL_law_1038 : decode cL_law 1038 = .ok (.pop, 1) := dz_87 (dz_at q51d03_0_1022 16)
theorem dL_law_1039 : decode cL_law 1039 = .ok (.aload_n 2, 1) := dz_44 (dz_at q51d03_0_1022 17)
theorem dL_law_1040 : decode cL_law 1040 = .ok (.aload_n 0, 1) := dz_42 (dz_at q51d03_0_1022 18)
theorem dL_law_1041 : decode cL_law 1041 = .ok (.iload 4, 2) := dz_21 (dz_at q51d03_0_1022 19)
theorem dL_law_1043 : decode cL_law 1043 = .ok (.iconst 1, 1) := dz_4 (dz_at q51d03_0_1022 21)
theorem dL_law_1044 : decode cL_law 1044 = .ok (.iadd, 1) := dz_96 (dz_at q51d03_0_1022 22)
theorem dL_law_1045 : decode cL_law 1045 = .ok (.iaload, 1) := dz_46 (dz_at q51d03_0_1022 23)
theorem dL_law_1046 : decode cL_law 1046 = .ok (.aload_n 0, 1) := dz_42 (dz_at q51d03_0_1046 0)
theorem dL_law_1047 : decode cL_law 1047 = .ok (.iload 4, 2) := dz_21 (dz_at q51d03_0_1046 1)
theorem dL_law_1049 : decode cL_law 1049 = .ok (.iconst 2, 1) := dz_5 (dz_at q51d03_0_1046 3)
theorem dL_law_1050 : decode cL_law 1050 = .ok (.iadd, 1) := dz_96 (dz_at q51d03_0_1046 4)
theorem dL_law_1051 : decode cL_law 1051 = .ok (.iaload, 1) := dz_46 (dz_at q51d03_0_1046 5)
theorem dL_law_1052 : decode cL_law 1052 = .ok (.invokevirtual 138, 3) := dz_182 (dz_at q51d03_0_1046 6) rfl
theorem dL_law_1055 : decode cL_law 1055 = .ok (.pop, 1) := dz_87 (dz_at q51d03_0_1046 9)
theorem dL_law_1056 : decode cL_law 1056 = .ok (.goto 529, 3) := dz_167 (dz_at q51d03_0_1046 10) (by decide +kernel)
theorem dL_law_1059 : decode cL_law 1059 = .ok (.aload_n 1, 1) := dz_43 (dz_at q51d03_0_1046 13)
theorem dL_law_1060 : decode cL_law 1060 = .ok (.aload_n 0, 1) := dz_42 (dz_at q51d03_0_1046 14)
theorem dL_law_1061 : decode cL_law 1061 = .ok (.iload 4, 2) := dz_21 (dz_at q51d03_0_1046 15)
theorem dL_law_1063 : decode cL_law 1063 = .ok (.iconst 1, 1) := dz_4 (dz_at q51d03_0_1046 17)
theorem dL_law_1064 : decode cL_law 1064 = .ok (.iadd, 1) := dz_96 (dz_at q51d03_0_1046 18)
theorem dL_law_1065 : decode cL_law 1065 = .ok (.iaload, 1) := dz_46 (dz_at q51d03_0_1046 19)
theorem dL_law_1066 : decode cL_law 1066 = .ok (.aload_n 0, 1) := dz_42 (dz_at q51d03_0_1046 20)
theorem dL_law_1067 : decode cL_law 1067 = .ok (.iload 4, 2) := dz_21 (dz_at q51d03_0_1046 21)
theorem dL_law_1069 : decode cL_law 1069 = .ok (.iconst 2, 1) := dz_5 (dz_at q51d03_0_1046 23)
theorem dL_law_1070 : decode cL_law 1070 = .ok (.iadd, 1) := dz_96 (dz_at q51d03_0_1070 0)
theorem dL_law_1071 : decode cL_law 1071 = .ok (.iaload, 1) := dz_46 (dz_at q51d03_0_1070 1)
theorem dL_law_1072 : decode cL_law 1072 = .ok (.aload_n 0, 1) := dz_42 (dz_at q51d03_0_1070 2)
theorem dL_law_1073 : decode cL_law 1073 = .ok (.iload 4, 2) := dz_21 (dz_at q51d03_0_1070 3)
theorem dL_law_1075 : decode cL_law 1075 = .ok (.iconst 3, 1) := dz_6 (dz_at q51d03_0_1070 5)
theorem dL_law_1076 : decode cL_law 1076 = .ok (.iadd, 1) := dz_96 (dz_at q51d03_0_1070 6)
theorem dL_law_1077 : decode cL_law 1077 = .ok (.iaload, 1) := dz_46 (dz_at q51d03_0_1070 7)
theorem dL_law_1078 : decode cL_law 1078 = .ok (.aload_n 0, 1) := dz_42 (dz_at q51d03_0_1070 8)
end zz51_d03
section zz51_d04
/-! the law, decoded -/
theorem q51d04_0_1079 : (cL_law.data.toList.drop 1079).take 23 = [21, 4, 7, 96, 46, 182, 0, 139, 87, 44, 42, 21, 4, 4, 96, 46, 42, 21, 4, 5, 96, 46, 42] := by decide +kernel
theorem q51d04_0_1102 : (cL_law.data.toList.drop 1102).take 24 = [21, 4, 6, 96, 46, 42, 21, 4, 7, 96, 46, 182, 0, 143, 87, 167, 1, 212, 43, 42, 21, 4, 4, 96] := by decide +kernel
theorem q51d04_0_1126 : (cL_law.data.toList.drop 1126).take 24 = [46, 182, 0, 144, 87, 44, 42, 21, 4, 4, 96, 46, 182, 0, 147, 87, 167, 1, 187, 43, 42, 21, 4, 4] := by decide +kernel
theorem q51d04_0_1150 : (cL_law.data.toList.drop 1150).take 24 = [96, 46, 182, 0, 148, 87, 44, 42, 21, 4, 4, 96, 46, 182, 0, 151, 87, 167, 1, 162, 43, 182, 0, 152] := by decide +kernel
theorem q51d04_0_1174 : (cL_law.data.toList.drop 1174).take 24 = [87, 44, 182, 0, 155, 87, 167, 1, 149, 43, 42, 21, 4, 4, 96, 46, 182, 0, 156, 87, 44, 42, 21, 4] := by decide +kernel
theorem q51d04_0_1198 : (cL_law.data.toList.drop 1198).take 23 = [4, 96, 46, 182, 0, 159, 87, 167, 1, 124, 43, 42, 21, 4, 4, 96, 46, 42, 21, 4, 5, 96, 46] := by decide +kernel
theorem q51d04_0_1221 : (cL_law.data.toList.drop 1221).take 24 = [182, 0, 160, 87, 44, 42, 21, 4, 4, 96, 46, 42, 21, 4, 5, 96, 46, 182, 0, 163, 87, 167, 1, 87] := by decide +kernel
theorem q51d04_0_1245 : (cL_law.data.toList.drop 1245).take 22 = [43, 42, 21, 4, 4, 96, 46, 182, 0, 164, 87, 44, 42, 21, 4, 4, 96, 46, 182, 0, 167, 87] := by decide +kernel
theorem q51d04_0_1267 : (cL_law.data.toList.drop 1267).take 23 = [167, 1, 62, 43, 182, 0, 168, 87, 44, 182, 0, 171, 87, 167, 1, 49, 43, 42, 21, 4, 4, 96, 46] := by decide +kernel
theorem q51d04_0_1290 : (cL_law.data.toList.drop 1290).take 8 = [182, 0, 172, 87, 44, 42, 21, 4] := by decide +kernel
theorem dL_law_1079 : decode cL_law 1079 = .ok (.iload 4, 2) := dz_21 (dz_at q51d04_0_1079 0)
theorem dL_law_1081 : decode cL_law 1081 = .ok (.iconst 4, 1) := dz_7 (dz_at q51d04_0_1079 2)
theorem dL_law_1082 : decode cL_law 1082 = .ok (.iadd, 1) := dz_96 (dz_at q51d04_0_1079 3)
theorem dL_law_1083 : decode cL_law 1083 = .ok (.iaload, 1) := dz_46 (dz_at q51d04_0_1079 4)
theorem dL_law_1084 : decode cL_law 1084 = .ok (.invokevirtual 139, 3) := dz_182 (dz_at q51d04_0_1079 5) rfl
theorem dL_law_1087 : decode cL_law 1087 = .ok (.pop, 1) := dz_87 (dz_at q51d04_0_1079 8)
theorem dL_law_1088 : decode cL_law 1088 = .ok (.aload_n 2, 1) := dz_44 (dz_at q51d04_0_1079 9)
theorem dL_law_1089 : decode cL_law 1089 = .ok (.aload_n 0, 1) := dz_42 (dz_at q51d04_0_1079 10)
theorem dL_law_1090 : decode cL_law 1090 = .ok (.iload 4, 2) := dz_21 (dz_at q51d04_0_1079 11)
theorem dL_law_1092 : decode cL_law 1092 = .ok (.iconst 1, 1) := dz_4 (dz_at q51d04_0_1079 13)
theorem dL_law_1093 : decode cL_law 1093 = .ok (.iadd, 1) := dz_96 (dz_at q51d04_0_1079 14)
theorem dL_law_1094 : decode cL_law 1094 = .ok (.iaload, 1) := dz_46 (dz_at q51d04_0_1079 15)
theorem dL_law_1095 : decode cL_law 1095 = .ok (.aload_n 0, 1) := dz_42 (dz_at q51d04_0_1079 16)
theorem dL_law_1096 : decode cL_law 1096 = .ok (.iload 4, 2) := dz_21 (dz_at q51d04_0_1079 17)
theorem dL_law_1098 : decode cL_law 1098 = .ok (.iconst 2, 1) := dz_5 (dz_at q51d04_0_1079 19)
theorem dL_law_1099 : decode cL_law 1099 = .ok (.iadd, 1) := dz_96 (dz_at q51d04_0_1079 20)
theorem dL_law_1100 : decode cL_law 1100 = .ok (.iaload, 1) := dz_46 (dz_at q51d04_0_1079 21)
theorem dL_law_1101 : decode cL_law 1101 = .ok (.aload_n 0, 1) := dz_42 (dz_at q51d04_0_1079 22)
theorem dL_law_1102 : decode cL_law 1102 = .ok (.iload 4, 2) := dz_21 (dz_at q51d04_0_1102 0)
theorem dL_law_1104 : decode cL_law 1104 = .ok (.iconst 3, 1) := dz_6 (dz_at q51d04_0_1102 2)
theorem dL_law_1105 : decode cL_law 1105 = .ok (.iadd, 1) := dz_96 (dz_at q51d04_0_1102 3)
theorem dL_law_1106 : decode cL_law 1106 = .ok (.iaload, 1) := dz_46 (dz_at q51d04_0_1102 4)
theorem dL_law_1107 : decode cL_law 1107 = .ok (.aload_n 0, 1) := dz_42 (dz_at q51d04_0_1102 5)
theorem dL_law_1108 : decode cL_law 1108 = .ok (.iload 4, 2) := dz_21 (dz_at q51d04_0_1102 6)
theorem dL_law_1110 : decode cL_law 1110 = .ok (.iconst 4, 1) := dz_7 (dz_at q51d04_0_1102 8)
theorem dL_law_1111 : decode cL_law 1111 = .ok (.iadd, 1) := dz_96 (dz_at q51d04_0_1102 9)
theorem dL_law_1112 : decode cL_law 1112 = .ok (.iaload, 1) := dz_46 (dz_at q51d04_0_1102 10)
theorem dL_law_1113 : decode cL_law 1113 = .ok (.invokevirtual 143, 3) := dz_182 (dz_at q51d04_0_1102 11) rfl
theorem dL_law_1116 : decode cL_law 1116 = .ok (.pop, 1) := dz_87 (dz_at q51d04_0_1102 14)
theorem dL_law_1117 : decode cL_law 1117 = .ok (.goto 468, 3) := dz_167 (dz_at q51d04_0_1102 15) (by decide +kernel)
theorem dL_law_1120 : decode cL_law 1120 = .ok (.aload_n 1, 1) := dz_43 (dz_at q51d04_0_1102 18)
theorem dL_law_1121 : decode cL_law 1121 = .ok (.aload_n 0, 1) := dz_42 (dz_at q51d04_0_1102 19)
theorem dL_law_1122 : decode cL_law 1122 = .ok (.iload 4, 2) := dz_21 (dz_at q51d04_0_1102 20)
theorem dL_law_1124 : decode cL_law 1124 = .ok (.iconst 1, 1) := dz_4 (dz_at q51d04_0_1102 22)
theorem dL_law_1125 : decode cL_law 1125 = .ok (.iadd, 1) := dz_96 (dz_at q51d04_0_1102 23)
theorem dL_law_1126 : decode cL_law 1126 = .ok (.iaload, 1) := dz_46 (dz_at q51d04_0_1126 0)
theorem dL_law_1127 : decode cL_law 1127 = .ok (.invokevirtual 144, 3) := dz_182 (dz_at q51d04_0_1126 1) rfl
theorem dL_law_1130 : decode cL_law 1130 = .ok (.pop, 1) := dz_87 (dz_at q51d04_0_1126 4)
theorem dL_law_1131 : decode cL_law 1131 = .ok (.aload_n 2, 1) := dz_44 (dz_at q51d04_0_1126 5)
theorem dL_law_1132 : decode cL_law 1132 = .ok (.aload_n 0, 1) := dz_42 (dz_at q51d04_0_1126 6)
theorem dL_law_1133 : decode cL_law 1133 = .ok (.iload 4, 2) := dz_21 (dz_at q51d04_0_1126 7)
theorem dL_law_1135 : decode cL_law 1135 = .ok (.iconst 1, 1) := dz_4 (dz_at q51d04_0_1126 9)
theorem dL_law_1136 : decode cL_law 1136 = .ok (.iadd, 1) := dz_96 (dz_at q51d04_0_1126 10)
theorem dL_law_1137 : decode cL_law 1137 = .ok (.iaload, 1) := dz_46 (dz_at q51d04_0_1126 11)
theorem dL_law_1138 : decode cL_law 1138 = .ok (.invokevirtual 147, 3) := dz_182 (dz_at q51d04_0_1126 12) rfl
theorem dL_law_1141 : decode cL_law 1141 = .ok (.pop, 1) := dz_87 (dz_at q51d04_0_1126 15)
theorem dL_law_1142 : decode cL_law 1142 = .ok (.goto 443, 3) := dz_167 (dz_at q51d04_0_1126 16) (by decide +kernel)
theorem dL_law_1145 : decode cL_law 1145 = .ok (.aload_n 1, 1) := dz_43 (dz_at q51d04_0_1126 19)
theorem dL_law_1146 : decode cL_law 1146 = .ok (.aload_n 0, 1) := dz_42 (dz_at q51d04_0_1126 20)
theorem dL_law_1147 : decode cL_law 1147 = .ok (.iload 4, 2) := dz_21 (dz_at q51d04_0_1126 21)
theorem dL_law_1149 : decode cL_law 1149 = .ok (.iconst 1, 1) := dz_4 (dz_at q51d04_0_1126 23)
theorem dL_law_1150 : decode cL_law 1150 = .ok (.iadd, 1) := dz_96 (dz_at q51d04_0_1150 0)
theorem dL_law_1151 : decode cL_law 1151 = .ok (.iaload, 1) := dz_46 (dz_at q51d04_0_1150 1)
theorem dL_law_1152 : decode cL_law 1152 = .ok (.invokevirtual 148, 3) := dz_182 (dz_at q51d04_0_1150 2) rfl
theorem dL_law_1155 : decode cL_law 1155 = .ok (.pop, 1) := dz_87 (dz_at q51d04_0_1150 5)
theorem dL_law_1156 : decode cL_law 1156 = .ok (.aload_n 2, 1) := dz_44 (dz_at q51d04_0_1150 6)
theorem dL_law_1157 : decode cL_law 1157 = .ok (.aload_n 0, 1) := dz_42 (dz_at q51d04_0_1150 7)
theorem dL_law_1158 : decode cL_law 1158 = .ok (.iload 4, 2) := dz_21 (dz_at q51d04_0_1150 8)
theorem dL_law_1160 : decode cL_law 1160 = .ok (.iconst 1, 1) := dz_4 (dz_at q51d04_0_1150 10)
theorem dL_law_1161 : decode cL_law 1161 = .ok (.iadd, 1) := dz_96 (dz_at q51d04_0_1150 11)
theorem dL_law_1162 : decode cL_law 1162 = .ok (.iaload, 1) := dz_46 (dz_at q51d04_0_1150 12)
theorem dL_law_1163 : decode cL_law 1163 = .ok (.invokevirtual 151, 3) := dz_182 (dz_at q51d04_0_1150 13) rfl
theorem dL_law_1166 : decode cL_law 1166 = .ok (.pop, 1) := dz_87 (dz_at q51d04_0_1150 16)
theorem dL_law_1167 : decode cL_law 1167 = .ok (.goto 418, 3) := dz_167 (dz_at q51d04_0_1150 17) (by decide +kernel)
theorem dL_law_1170 : decode cL_law 1170 = .ok (.aload_n 1, 1) := dz_43 (dz_at q51d04_0_1150 20)
theorem dL_law_1171 : decode cL_law 1171 = .ok (.invokevirtual 152, 3) := dz_182 (dz_at q51d04_0_1150 21) rfl
theorem dL_law_1174 : decode cL_law 1174 = .ok (.pop, 1) := dz_87 (dz_at q51d04_0_1174 0)
theorem dL_law_1175 : decode cL_law 1175 = .ok (.aload_n 2, 1) := dz_44 (dz_at q51d04_0_1174 1)
theorem dL_law_1176 : decode cL_law 1176 = .ok (.invokevirtual 155, 3) := dz_182 (dz_at q51d04_0_1174 2) rfl
theorem dL_law_1179 : decode cL_law 1179 = .ok (.pop, 1) := dz_87 (dz_at q51d04_0_1174 5)
theorem dL_law_1180 : decode cL_law 1180 = .ok (.goto 405, 3) := dz_167 (dz_at q51d04_0_1174 6) (by decide +kernel)
theorem dL_law_1183 : decode cL_law 1183 = .ok (.aload_n 1, 1) := dz_43 (dz_at q51d04_0_1174 9)
theorem dL_law_1184 : decode cL_law 1184 = .ok (.aload_n 0, 1) := dz_42 (dz_at q51d04_0_1174 10)
theorem dL_law_1185 : decode cL_law 1185 = .ok (.iload 4, 2) := dz_21 (dz_at q51d04_0_1174 11)
theorem dL_law_1187 : decode cL_law 1187 = .ok (.iconst 1, 1) := dz_4 (dz_at q51d04_0_1174 13)
theorem dL_law_1188 : decode cL_law 1188 = .ok (.iadd, 1) := dz_96 (dz_at q51d04_0_1174 14)
theorem dL_law_1189 : decode cL_law 1189 = .ok (.iaload, 1) := dz_46 (dz_at q51d04_0_1174 15)
theorem dL_law_1190 : decode cL_law 1190 = .ok (.invokevirtual 156, 3) := dz_182 (dz_at q51d04_0_1174 16) rfl
theorem dL_law_1193 : decode cL_law 1193 = .ok (.pop, 1) := dz_87 (dz_at q51d04_0_1174 19)
theorem dL_law_1194 : decode cL_law 1194 = .ok (.aload_n 2, 1) := dz_44 (dz_at q51d04_0_1174 20)
theorem dL_law_1195 : decode cL_law 1195 = .ok (.aload_n 0, 1) := dz_42 (dz_at q51d04_0_1174 21)
theorem dL_law_1196 : decode cL_law 1196 = .ok (.iload 4, 2) := dz_21 (dz_at q51d04_0_1174 22)
theorem dL_law_1198 : decode cL_law 1198 = .ok (.iconst 1, 1) := dz_4 (dz_at q51d04_0_1198 0)
theorem dL_law_1199 : decode cL_law 1199 = .ok (.iadd, 1) := dz_96 (dz_at q51d04_0_1198 1)
theorem dL_law_1200 : decode cL_law 1200 = .ok (.iaload, 1) := dz_46 (dz_at q51d04_0_1198 2)
theorem dL_law_1201 : decode cL_law 1201 = .ok (.invokevirtual 159, 3) := dz_182 (dz_at q51d04_0_1198 3) rfl
theorem dL_law_1204 : decode cL_law 1204 = .ok (.pop, 1) := dz_87 (dz_at q51d04_0_1198 6)
theorem dL_law_1205 : decode cL_law 1205 = .ok (.goto 380, 3) := dz_167 (dz_at q51d04_0_1198 7) (by decide +kernel)
theorem dL_law_1208 : decode cL_law 1208 = .ok (.aload_n 1, 1) := dz_43 (dz_at q51d04_0_1198 10)
theorem dL_law_1209 : decode cL_law 1209 = .ok (.aload_n 0, 1) := dz_42 (dz_at q51d04_0_1198 11)
theorem dL_law_1210 : decode cL_law 1210 = .ok (.iload 4, 2) := dz_21 (dz_at q51d04_0_1198 12)
theorem dL_law_1212 : decode cL_law 1212 = .ok (.iconst 1, 1) := dz_4 (dz_at q51d04_0_1198 14)
theorem dL_law_1213 : decode cL_law 1213 = .ok (.iadd, 1) := dz_96 (dz_at q51d04_0_1198 15)
theorem dL_law_1214 : decode cL_law 1214 = .ok (.iaload, 1) := dz_46 (dz_at q51d04_0_1198 16)
theorem dL_law_1215 : decode cL_law 1215 = .ok (.aload_n 0, 1) := dz_42 (dz_at q51d04_0_1198 17)
theorem dL_law_1216 : decode cL_law 1216 = .ok (.iload 4, 2) := dz_21 (dz_at q51d04_0_1198 18)
theorem dL_law_1218 : decode cL_law 1218 = .ok (.iconst 2, 1) := dz_5 (dz_at q51d04_0_1198 20)
theorem dL_law_1219 : decode cL_law 1219 = .ok (.iadd, 1) := dz_96 (dz_at q51d04_0_1198 21)
theorem dL_law_1220 : decode cL_law 1220 = .ok (.iaload, 1) := dz_46 (dz_at q51d04_0_1198 22)
theorem dL_law_1221 : decode cL_law 1221 = .ok (.invokevirtual 160, 3) := dz_182 (dz_at q51d04_0_1221 0) rfl
theorem dL_law_1224 : decode cL_law 1224 = .ok (.pop, 1) := dz_87 (dz_at q51d04_0_1221 3)
theorem dL_law_1225 : decode cL_law 1225 = .ok (.aload_n 2, 1) := dz_44 (dz_at q51d04_0_1221 4)
theorem dL_law_1226 : decode cL_law 1226 = .ok (.aload_n 0, 1) := dz_42 (dz_at q51d04_0_1221 5)
theorem dL_law_1227 : decode cL_law 1227 = .ok (.iload 4, 2) := dz_21 (dz_at q51d04_0_1221 6)
theorem dL_law_1229 : decode cL_law 1229 = .ok (.iconst 1, 1) := dz_4 (dz_at q51d04_0_1221 8)
theorem dL_law_1230 : decode cL_law 1230 = .ok (.iadd, 1) := dz_96 (dz_at q51d04_0_1221 9)
theorem dL_law_1231 : decode cL_law 1231 = .ok (.iaload, 1) := dz_46 (dz_at q51d04_0_1221 10)
theorem dL_law_1232 : decode cL_law 1232 = .ok (.aload_n 0, 1) := dz_42 (dz_at q51d04_0_1221 11)
theorem dL_law_1233 : decode cL_law 1233 = .ok (.iload 4, 2) := dz_21 (dz_at q51d04_0_1221 12)
theorem dL_law_1235 : decode cL_law 1235 = .ok (.iconst 2, 1) := dz_5 (dz_at q51d04_0_1221 14)
theorem dL_law_1236 : decode cL_law 1236 = .ok (.iadd, 1) := dz_96 (dz_at q51d04_0_1221 15)
theorem dL_law_1237 : decode cL_law 1237 = .ok (.iaload, 1) := dz_46 (dz_at q51d04_0_1221 16)
theorem dL_law_1238 : decode cL_law 1238 = .ok (.invokevirtual 163, 3) := dz_182 (dz_at q51d04_0_1221 17) rfl
theorem dL_law_1241 : decode cL_law 1241 = .ok (.pop, 1) := dz_87 (dz_at q51d04_0_1221 20)
theorem dL_law_1242 : decode cL_law 1242 = .ok (.goto 343, 3) := dz_167 (dz_at q51d04_0_1221 21) (by decide +kernel)
theorem dL_law_1245 : decode cL_law 1245 = .ok (.aload_n 1, 1) := dz_43 (dz_at q51d04_0_1245 0)
theorem dL_law_1246 : decode cL_law 1246 = .ok (.aload_n 0, 1) := dz_42 (dz_at q51d04_0_1245 1)
theorem dL_law_1247 : decode cL_law 1247 = .ok (.iload 4, 2) := dz_21 (dz_at q51d04_0_1245 2)
theorem dL_law_1249 : decode cL_law 1249 = .ok (.iconst 1, 1) := dz_4 (dz_at q51d04_0_1245 4)
theorem dL_law_1250 : decode cL_law 1250 = .ok (.iadd, 1) := dz_96 (dz_at q51d04_0_1245 5)
theorem dL_law_1251 : decode cL_law 1251 = .ok (.iaload, 1) := dz_46 (dz_at q51d04_0_1245 6)
theorem dL_law_1252 : decode cL_law 1252 = .ok (.invokevirtual 164, 3) := dz_182 (dz_at q51d04_0_1245 7) rfl
theorem dL_law_1255 : decode cL_law 1255 = .ok (.pop, 1) := dz_87 (dz_at q51d04_0_1245 10)
theorem dL_law_1256 : decode cL_law 1256 = .ok (.aload_n 2, 1) := dz_44 (dz_at q51d04_0_1245 11)
theorem dL_law_1257 : decode cL_law 1257 = .ok (.aload_n 0, 1) := dz_42 (dz_at q51d04_0_1245 12)
theorem dL_law_1258 : decode cL_law 1258 = .ok (.iload 4, 2) := dz_21 (dz_at q51d04_0_1245 13)
theorem dL_law_1260 : decode cL_law 1260 = .ok (.iconst 1, 1) := dz_4 (dz_at q51d04_0_1245 15)
theorem dL_law_1261 : decode cL_law 1261 = .ok (.iadd, 1) := dz_96 (dz_at q51d04_0_1245 16)
theorem dL_law_1262 : decode cL_law 1262 = .ok (.iaload, 1) := dz_46 (dz_at q51d04_0_1245 17)
theorem dL_law_1263 : decode cL_law 1263 = .ok (.invokevirtual 167, 3) := dz_182 (dz_at q51d04_0_1245 18) rfl
theorem dL_law_1266 : decode cL_law 1266 = .ok (.pop, 1) := dz_87 (dz_at q51d04_0_1245 21)
theorem dL_law_1267 : decode cL_law 1267 = .ok (.goto 318, 3) := dz_167 (dz_at q51d04_0_1267 0) (by decide +kernel)
theorem dL_law_1270 : decode cL_law 1270 = .ok (.aload_n 1, 1) := dz_43 (dz_at q51d04_0_1267 3)
theorem dL_law_1271 : decode cL_law 1271 = .ok (.invokevirtual 168, 3) := dz_182 (dz_at q51d04_0_1267 4) rfl
theorem dL_law_1274 : decode cL_law 1274 = .ok (.pop, 1) := dz_87 (dz_at q51d04_0_1267 7)
theorem dL_law_1275 : decode cL_law 1275 = .ok (.aload_n 2, 1) := dz_44 (dz_at q51d04_0_1267 8)
theorem dL_law_1276 : decode cL_law 1276 = .ok (.invokevirtual 171, 3) := dz_182 (dz_at q51d04_0_1267 9) rfl
theorem dL_law_1279 : decode cL_law 1279 = .ok (.pop, 1) := dz_87 (dz_at q51d04_0_1267 12)
theorem dL_law_1280 : decode cL_law 1280 = .ok (.goto 305, 3) := dz_167 (dz_at q51d04_0_1267 13) (by decide +kernel)
theorem dL_law_1283 : decode cL_law 1283 = .ok (.aload_n 1, 1) := dz_43 (dz_at q51d04_0_1267 16)
theorem dL_law_1284 : decode cL_law 1284 = .ok (.aload_n 0, 1) := dz_42 (dz_at q51d04_0_1267 17)
theorem dL_law_1285 : decode cL_law 1285 = .ok (.iload 4, 2) := dz_21 (dz_at q51d04_0_1267 18)
theorem dL_law_1287 : decode cL_law 1287 = .ok (.iconst 1, 1) := dz_4 (dz_at q51d04_0_1267 20)
theorem dL_law_1288 : decode cL_law 1288 = .ok (.iadd, 1) := dz_96 (dz_at q51d04_0_1267 21)
theorem dL_law_1289 : decode cL_law 1289 = .ok (.iaload, 1) := dz_46 (dz_at q51d04_0_1267 22)
theorem dL_law_1290 : decode cL_law 1290 = .ok (.invokevirtual 172, 3) := dz_182 (dz_at q51d04_0_1290 0) rfl
theorem dL_law_1293 : decode cL_law 1293 = .ok (.pop, 1) := dz_87 (dz_at q51d04_0_1290 3)
theorem dL_law_1294 : decode cL_law 1294 = .ok (.aload_n 2, 1) := dz_44 (dz_at q51d04_0_1290 4)
theorem dL_law_1295 : decode cL_law 1295 = .ok (.aload_n 0, 1) := dz_42 (dz_at q51d04_0_1290 5)
theorem dL_law_1296 : decode cL_law 1296 = .ok (.iload 4, 2) := dz_21 (dz_at q51d04_0_1290 6)
end zz51_d04
section zz51_d05
/-! the law, decoded -/
theorem q51d05_0_1298 : (cL_law.data.toList.drop 1298).take 23 = [4, 96, 46, 182, 0, 175, 87, 167, 1, 24, 43, 42, 21, 4, 4, 96, 46, 182, 0, 176, 87, 44, 42] := by decide +kernel
theorem q51d05_0_1321 : (cL_law.data.toList.drop 1321).take 24 = [21, 4, 4, 96, 46, 182, 0, 179, 87, 167, 0, 255, 43, 42, 21, 4, 4, 96, 46, 182, 0, 180, 87, 44] := by decide +kernel
theorem q51d05_0_1345 : (cL_law.data.toList.drop 1345).take 24 = [42, 21, 4, 4, 96, 46, 182, 0, 183, 87, 167, 0, 230, 43, 42, 21, 4, 4, 96, 46, 42, 21, 4, 5] := by decide +kernel
theorem q51d05_0_1369 : (cL_law.data.toList.drop 1369).take 23 = [96, 46, 182, 0, 184, 87, 44, 42, 21, 4, 4, 96, 46, 42, 21, 4, 5, 96, 46, 182, 0, 187, 87] := by decide +kernel
theorem q51d05_0_1392 : (cL_law.data.toList.drop 1392).take 22 = [167, 0, 193, 43, 182, 0, 188, 87, 44, 182, 0, 191, 87, 167, 0, 180, 43, 182, 0, 192, 87, 44] := by decide +kernel
theorem q51d05_0_1414 : (cL_law.data.toList.drop 1414).take 24 = [182, 0, 195, 87, 167, 0, 167, 43, 42, 21, 4, 4, 96, 46, 42, 21, 4, 5, 96, 46, 182, 0, 196, 87] := by decide +kernel
theorem q51d05_0_1438 : (cL_law.data.toList.drop 1438).take 24 = [44, 42, 21, 4, 4, 96, 46, 42, 21, 4, 5, 96, 46, 182, 0, 199, 87, 167, 0, 130, 43, 42, 21, 4] := by decide +kernel
theorem q51d05_0_1462 : (cL_law.data.toList.drop 1462).take 24 = [4, 96, 46, 42, 21, 4, 5, 96, 46, 182, 0, 200, 87, 44, 42, 21, 4, 4, 96, 46, 42, 21, 4, 5] := by decide +kernel
theorem q51d05_0_1486 : (cL_law.data.toList.drop 1486).take 24 = [96, 46, 182, 0, 203, 87, 167, 0, 93, 43, 42, 21, 4, 4, 96, 46, 182, 0, 204, 87, 44, 42, 21, 4] := by decide +kernel
theorem q51d05_0_1510 : (cL_law.data.toList.drop 1510).take 6 = [4, 96, 46, 182, 0, 207] := by decide +kernel
theorem dL_law_1298 : decode cL_law 1298 = .ok (.iconst 1, 1) := dz_4 (dz_at q51d05_0_1298 0)
theorem dL_law_1299 : decode cL_law 1299 = .ok (.iadd, 1) := dz_96 (dz_at q51d05_0_1298 1)
theorem dL_law_1300 : decode cL_law 1300 = .ok (.iaload, 1) := dz_46 (dz_at q51d05_0_1298 2)
theorem dL_law_1301 : decode cL_law 1301 = .ok (.invokevirtual 175, 3) := dz_182 (dz_at q51d05_0_1298 3) rfl
theorem dL_law_1304 : decode cL_law 1304 = .ok (.pop, 1) := dz_87 (dz_at q51d05_0_1298 6)
theorem dL_law_1305 : decode cL_law 1305 = .ok (.goto 280, 3) := dz_167 (dz_at q51d05_0_1298 7) (by decide +kernel)
theorem dL_law_1308 : decode cL_law 1308 = .ok (.aload_n 1, 1) := dz_43 (dz_at q51d05_0_1298 10)
theorem dL_law_1309 : decode cL_law 1309 = .ok (.aload_n 0, 1) := dz_42 (dz_at q51d05_0_1298 11)
theorem dL_law_1310 : decode cL_law 1310 = .ok (.iload 4, 2) := dz_21 (dz_at q51d05_0_1298 12)
theorem dL_law_1312 : decode cL_law 1312 = .ok (.iconst 1, 1) := dz_4 (dz_at q51d05_0_1298 14)
theorem dL_law_1313 : decode cL_law 1313 = .ok (.iadd, 1) := dz_96 (dz_at q51d05_0_1298 15)
theorem dL_law_1314 : decode cL_law 1314 = .ok (.iaload, 1) := dz_46 (dz_at q51d05_0_1298 16)
theorem dL_law_1315 : decode cL_law 1315 = .ok (.invokevirtual 176, 3) := dz_182 (dz_at q51d05_0_1298 17) rfl
theorem dL_law_1318 : decode cL_law 1318 = .ok (.pop, 1) := dz_87 (dz_at q51d05_0_1298 20)
theorem dL_law_1319 : decode cL_law 1319 = .ok (.aload_n 2, 1) := dz_44 (dz_at q51d05_0_1298 21)
theorem dL_law_1320 : decode cL_law 1320 = .ok (.aload_n 0, 1) := dz_42 (dz_at q51d05_0_1298 22)
theorem dL_law_1321 : decode cL_law 1321 = .ok (.iload 4, 2) := dz_21 (dz_at q51d05_0_1321 0)
theorem dL_law_1323 : decode cL_law 1323 = .ok (.iconst 1, 1) := dz_4 (dz_at q51d05_0_1321 2)
theorem dL_law_1324 : decode cL_law 1324 = .ok (.iadd, 1) := dz_96 (dz_at q51d05_0_1321 3)
theorem dL_law_1325 : decode cL_law 1325 = .ok (.iaload, 1) := dz_46 (dz_at q51d05_0_1321 4)
theorem dL_law_1326 : decode cL_law 1326 = .ok (.invokevirtual 179, 3) := dz_182 (dz_at q51d05_0_1321 5) rfl
theorem dL_law_1329 : decode cL_law 1329 = .ok (.pop, 1) := dz_87 (dz_at q51d05_0_1321 8)
theorem dL_law_1330 : decode cL_law 1330 = .ok (.goto 255, 3) := dz_167 (dz_at q51d05_0_1321 9) (by decide +kernel)
theorem dL_law_1333 : decode cL_law 1333 = .ok (.aload_n 1, 1) := dz_43 (dz_at q51d05_0_1321 12)
theorem dL_law_1334 : decode cL_law 1334 = .ok (.aload_n 0, 1) := dz_42 (dz_at q51d05_0_1321 13)
theorem dL_law_1335 : decode cL_law 1335 = .ok (.iload 4, 2) := dz_21 (dz_at q51d05_0_1321 14)
theorem dL_law_1337 : decode cL_law 1337 = .ok (.iconst 1, 1) := dz_4 (dz_at q51d05_0_1321 16)
theorem dL_law_1338 : decode cL_law 1338 = .ok (.iadd, 1) := dz_96 (dz_at q51d05_0_1321 17)
theorem dL_law_1339 : decode cL_law 1339 = .ok (.iaload, 1) := dz_46 (dz_at q51d05_0_1321 18)
theorem dL_law_1340 : decode cL_law 1340 = .ok (.invokevirtual 180, 3) := dz_182 (dz_at q51d05_0_1321 19) rfl
theorem dL_law_1343 : decode cL_law 1343 = .ok (.pop, 1) := dz_87 (dz_at q51d05_0_1321 22)
theorem dL_law_1344 : decode cL_law 1344 = .ok (.aload_n 2, 1) := dz_44 (dz_at q51d05_0_1321 23)
theorem dL_law_1345 : decode cL_law 1345 = .ok (.aload_n 0, 1) := dz_42 (dz_at q51d05_0_1345 0)
theorem dL_law_1346 : decode cL_law 1346 = .ok (.iload 4, 2) := dz_21 (dz_at q51d05_0_1345 1)
theorem dL_law_1348 : decode cL_law 1348 = .ok (.iconst 1, 1) := dz_4 (dz_at q51d05_0_1345 3)
theorem dL_law_1349 : decode cL_law 1349 = .ok (.iadd, 1) := dz_96 (dz_at q51d05_0_1345 4)
theorem dL_law_1350 : decode cL_law 1350 = .ok (.iaload, 1) := dz_46 (dz_at q51d05_0_1345 5)
theorem dL_law_1351 : decode cL_law 1351 = .ok (.invokevirtual 183, 3) := dz_182 (dz_at q51d05_0_1345 6) rfl
theorem dL_law_1354 : decode cL_law 1354 = .ok (.pop, 1) := dz_87 (dz_at q51d05_0_1345 9)
theorem dL_law_1355 : decode cL_law 1355 = .ok (.goto 230, 3) := dz_167 (dz_at q51d05_0_1345 10) (by decide +kernel)
theorem dL_law_1358 : decode cL_law 1358 = .ok (.aload_n 1, 1) := dz_43 (dz_at q51d05_0_1345 13)
theorem dL_law_1359 : decode cL_law 1359 = .ok (.aload_n 0, 1) := dz_42 (dz_at q51d05_0_1345 14)
theorem dL_law_1360 : decode cL_law 1360 = .ok (.iload 4, 2) := dz_21 (dz_at q51d05_0_1345 15)
theorem dL_law_1362 : decode cL_law 1362 = .ok (.iconst 1, 1) := dz_4 (dz_at q51d05_0_1345 17)
theorem dL_law_1363 : decode cL_law 1363 = .ok (.iadd, 1) := dz_96 (dz_at q51d05_0_1345 18)
theorem dL_law_1364 : decode cL_law 1364 = .ok (.iaload, 1) := dz_46 (dz_at q51d05_0_1345 19)
theorem dL_law_1365 : decode cL_law 1365 = .ok (.aload_n 0, 1) := dz_42 (dz_at q51d05_0_1345 20)
theorem dL_law_1366 : decode cL_law 1366 = .ok (.iload 4, 2) := dz_21 (dz_at q51d05_0_1345 21)
theorem dL_law_1368 : decode cL_law 1368 = .ok (.iconst 2, 1) := dz_5 (dz_at q51d05_0_1345 23)
theorem dL_law_1369 : decode cL_law 1369 = .ok (.iadd, 1) := dz_96 (dz_at q51d05_0_1369 0)
theorem dL_law_1370 : decode cL_law 1370 = .ok (.iaload, 1) := dz_46 (dz_at q51d05_0_1369 1)
theorem dL_law_1371 : decode cL_law 1371 = .ok (.invokevirtual 184, 3) := dz_182 (dz_at q51d05_0_1369 2) rfl
theorem dL_law_1374 : decode cL_law 1374 = .ok (.pop, 1) := dz_87 (dz_at q51d05_0_1369 5)
theorem dL_law_1375 : decode cL_law 1375 = .ok (.aload_n 2, 1) := dz_44 (dz_at q51d05_0_1369 6)
theorem dL_law_1376 : decode cL_law 1376 = .ok (.aload_n 0, 1) := dz_42 (dz_at q51d05_0_1369 7)
theorem dL_law_1377 : decode cL_law 1377 = .ok (.iload 4, 2) := dz_21 (dz_at q51d05_0_1369 8)
theorem dL_law_1379 : decode cL_law 1379 = .ok (.iconst 1, 1) := dz_4 (dz_at q51d05_0_1369 10)
theorem dL_law_1380 : decode cL_law 1380 = .ok (.iadd, 1) := dz_96 (dz_at q51d05_0_1369 11)
theorem dL_law_1381 : decode cL_law 1381 = .ok (.iaload, 1) := dz_46 (dz_at q51d05_0_1369 12)
theorem dL_law_1382 : decode cL_law 1382 = .ok (.aload_n 0, 1) := dz_42 (dz_at q51d05_0_1369 13)
theorem dL_law_1383 : decode cL_law 1383 = .ok (.iload 4, 2) := dz_21 (dz_at q51d05_0_1369 14)
theorem dL_law_1385 : decode cL_law 1385 = .ok (.iconst 2, 1) := dz_5 (dz_at q51d05_0_1369 16)
theorem dL_law_1386 : decode cL_law 1386 = .ok (.iadd, 1) := dz_96 (dz_at q51d05_0_1369 17)
theorem dL_law_1387 : decode cL_law 1387 = .ok (.iaload, 1) := dz_46 (dz_at q51d05_0_1369 18)
theorem dL_law_1388 : decode cL_law 1388 = .ok (.invokevirtual 187, 3) := dz_182 (dz_at q51d05_0_1369 19) rfl
theorem dL_law_1391 : decode cL_law 1391 = .ok (.pop, 1) := dz_87 (dz_at q51d05_0_1369 22)
theorem dL_law_1392 : decode cL_law 1392 = .ok (.goto 193, 3) := dz_167 (dz_at q51d05_0_1392 0) (by decide +kernel)
theorem dL_law_1395 : decode cL_law 1395 = .ok (.aload_n 1, 1) := dz_43 (dz_at q51d05_0_1392 3)
theorem dL_law_1396 : decode cL_law 1396 = .ok (.invokevirtual 188, 3) := dz_182 (dz_at q51d05_0_1392 4) rfl
theorem dL_law_1399 : decode cL_law 1399 = .ok (.pop, 1) := dz_87 (dz_at q51d05_0_1392 7)
theorem dL_law_1400 : decode cL_law 1400 = .ok (.aload_n 2, 1) := dz_44 (dz_at q51d05_0_1392 8)
theorem dL_law_1401 : decode cL_law 1401 = .ok (.invokevirtual 191, 3) := dz_182 (dz_at q51d05_0_1392 9) rfl
theorem dL_law_1404 : decode cL_law 1404 = .ok (.pop, 1) := dz_87 (dz_at q51d05_0_1392 12)
theorem dL_law_1405 : decode cL_law 1405 = .ok (.goto 180, 3) := dz_167 (dz_at q51d05_0_1392 13) (by decide +kernel)
theorem dL_law_1408 : decode cL_law 1408 = .ok (.aload_n 1, 1) := dz_43 (dz_at q51d05_0_1392 16)
theorem dL_law_1409 : decode cL_law 1409 = .ok (.invokevirtual 192, 3) := dz_182 (dz_at q51d05_0_1392 17) rfl
theorem dL_law_1412 : decode cL_law 1412 = .ok (.pop, 1) := dz_87 (dz_at q51d05_0_1392 20)
theorem dL_law_1413 : decode cL_law 1413 = .ok (.aload_n 2, 1) := dz_44 (dz_at q51d05_0_1392 21)
theorem dL_law_1414 : decode cL_law 1414 = .ok (.invokevirtual 195, 3) := dz_182 (dz_at q51d05_0_1414 0) rfl
theorem dL_law_1417 : decode cL_law 1417 = .ok (.pop, 1) := dz_87 (dz_at q51d05_0_1414 3)
theorem dL_law_1418 : decode cL_law 1418 = .ok (.goto 167, 3) := dz_167 (dz_at q51d05_0_1414 4) (by decide +kernel)
theorem dL_law_1421 : decode cL_law 1421 = .ok (.aload_n 1, 1) := dz_43 (dz_at q51d05_0_1414 7)
theorem dL_law_1422 : decode cL_law 1422 = .ok (.aload_n 0, 1) := dz_42 (dz_at q51d05_0_1414 8)
theorem dL_law_1423 : decode cL_law 1423 = .ok (.iload 4, 2) := dz_21 (dz_at q51d05_0_1414 9)
theorem dL_law_1425 : decode cL_law 1425 = .ok (.iconst 1, 1) := dz_4 (dz_at q51d05_0_1414 11)
theorem dL_law_1426 : decode cL_law 1426 = .ok (.iadd, 1) := dz_96 (dz_at q51d05_0_1414 12)
theorem dL_law_1427 : decode cL_law 1427 = .ok (.iaload, 1) := dz_46 (dz_at q51d05_0_1414 13)
theorem dL_law_1428 : decode cL_law 1428 = .ok (.aload_n 0, 1) := dz_42 (dz_at q51d05_0_1414 14)
theorem dL_law_1429 : decode cL_law 1429 = .ok (.iload 4, 2) := dz_21 (dz_at q51d05_0_1414 15)
theorem dL_law_1431 : decode cL_law 1431 = .ok (.iconst 2, 1) := dz_5 (dz_at q51d05_0_1414 17)
theorem dL_law_1432 : decode cL_law 1432 = .ok (.iadd, 1) := dz_96 (dz_at q51d05_0_1414 18)
theorem dL_law_1433 : decode cL_law 1433 = .ok (.iaload, 1) := dz_46 (dz_at q51d05_0_1414 19)
theorem dL_law_1434 : decode cL_law 1434 = .ok (.invokevirtual 196, 3) := dz_182 (dz_at q51d05_0_1414 20) rfl
theorem dL_law_1437 : decode cL_law 1437 = .ok (.pop, 1) := dz_87 (dz_at q51d05_0_1414 23)
theorem dL_law_1438 : decode cL_law 1438 = .ok (.aload_n 2, 1) := dz_44 (dz_at q51d05_0_1438 0)
theorem dL_law_1439 : decode cL_law 1439 = .ok (.aload_n 0, 1) := dz_42 (dz_at q51d05_0_1438 1)
theorem dL_law_1440 : decode cL_law 1440 = .ok (.iload 4, 2) := dz_21 (dz_at q51d05_0_1438 2)
theorem dL_law_1442 : decode cL_law 1442 = .ok (.iconst 1, 1) := dz_4 (dz_at q51d05_0_1438 4)
theorem dL_law_1443 : decode cL_law 1443 = .ok (.iadd, 1) := dz_96 (dz_at q51d05_0_1438 5)
theorem dL_law_1444 : decode cL_law 1444 = .ok (.iaload, 1) := dz_46 (dz_at q51d05_0_1438 6)
theorem dL_law_1445 : decode cL_law 1445 = .ok (.aload_n 0, 1) := dz_42 (dz_at q51d05_0_1438 7)
theorem dL_law_1446 : decode cL_law 1446 = .ok (.iload 4, 2) := dz_21 (dz_at q51d05_0_1438 8)
theorem dL_law_1448 : decode cL_law 1448 = .ok (.iconst 2, 1) := dz_5 (dz_at q51d05_0_1438 10)
theorem dL_law_1449 : decode cL_law 1449 = .ok (.iadd, 1) := dz_96 (dz_at q51d05_0_1438 11)
theorem dL_law_1450 : decode cL_law 1450 = .ok (.iaload, 1) := dz_46 (dz_at q51d05_0_1438 12)
theorem dL_law_1451 : decode cL_law 1451 = .ok (.invokevirtual 199, 3) := dz_182 (dz_at q51d05_0_1438 13) rfl
theorem dL_law_1454 : decode cL_law 1454 = .ok (.pop, 1) := dz_87 (dz_at q51d05_0_1438 16)
theorem dL_law_1455 : decode cL_law 1455 = .ok (.goto 130, 3) := dz_167 (dz_at q51d05_0_1438 17) (by decide +kernel)
theorem dL_law_1458 : decode cL_law 1458 = .ok (.aload_n 1, 1) := dz_43 (dz_at q51d05_0_1438 20)
theorem dL_law_1459 : decode cL_law 1459 = .ok (.aload_n 0, 1) := dz_42 (dz_at q51d05_0_1438 21)
theorem dL_law_1460 : decode cL_law 1460 = .ok (.iload 4, 2) := dz_21 (dz_at q51d05_0_1438 22)
theorem dL_law_1462 : decode cL_law 1462 = .ok (.iconst 1, 1) := dz_4 (dz_at q51d05_0_1462 0)
theorem dL_law_1463 : decode cL_law 1463 = .ok (.iadd, 1) := dz_96 (dz_at q51d05_0_1462 1)
theorem dL_law_1464 : decode cL_law 1464 = .ok (.iaload, 1) := dz_46 (dz_at q51d05_0_1462 2)
theorem dL_law_1465 : decode cL_law 1465 = .ok (.aload_n 0, 1) := dz_42 (dz_at q51d05_0_1462 3)
theorem dL_law_1466 : decode cL_law 1466 = .ok (.iload 4, 2) := dz_21 (dz_at q51d05_0_1462 4)
theorem dL_law_1468 : decode cL_law 1468 = .ok (.iconst 2, 1) := dz_5 (dz_at q51d05_0_1462 6)
theorem dL_law_1469 : decode cL_law 1469 = .ok (.iadd, 1) := dz_96 (dz_at q51d05_0_1462 7)
theorem dL_law_1470 : decode cL_law 1470 = .ok (.iaload, 1) := dz_46 (dz_at q51d05_0_1462 8)
theorem dL_law_1471 : decode cL_law 1471 = .ok (.invokevirtual 200, 3) := dz_182 (dz_at q51d05_0_1462 9) rfl
theorem dL_law_1474 : decode cL_law 1474 = .ok (.pop, 1) := dz_87 (dz_at q51d05_0_1462 12)
theorem dL_law_1475 : decode cL_law 1475 = .ok (.aload_n 2, 1) := dz_44 (dz_at q51d05_0_1462 13)
theorem dL_law_1476 : decode cL_law 1476 = .ok (.aload_n 0, 1) := dz_42 (dz_at q51d05_0_1462 14)
theorem dL_law_1477 : decode cL_law 1477 = .ok (.iload 4, 2) := dz_21 (dz_at q51d05_0_1462 15)
theorem dL_law_1479 : decode cL_law 1479 = .ok (.iconst 1, 1) := dz_4 (dz_at q51d05_0_1462 17)
theorem dL_law_1480 : decode cL_law 1480 = .ok (.iadd, 1) := dz_96 (dz_at q51d05_0_1462 18)
theorem dL_law_1481 : decode cL_law 1481 = .ok (.iaload, 1) := dz_46 (dz_at q51d05_0_1462 19)
theorem dL_law_1482 : decode cL_law 1482 = .ok (.aload_n 0, 1) := dz_42 (dz_at q51d05_0_1462 20)
theorem dL_law_1483 : decode cL_law 1483 = .ok (.iload 4, 2) := dz_21 (dz_at q51d05_0_1462 21)
theorem dL_law_1485 : decode cL_law 1485 = .ok (.iconst 2, 1) := dz_5 (dz_at q51d05_0_1462 23)
theorem dL_law_1486 : decode cL_law 1486 = .ok (.iadd, 1) := dz_96 (dz_at q51d05_0_1486 0)
theorem dL_law_1487 : decode cL_law 1487 = .ok (.iaload, 1) := dz_46 (dz_at q51d05_0_1486 1)
theorem dL_law_1488 : decode cL_law 1488 = .ok (.invokevirtual 203, 3) := dz_182 (dz_at q51d05_0_1486 2) rfl
theorem dL_law_1491 : decode cL_law 1491 = .ok (.pop, 1) := dz_87 (dz_at q51d05_0_1486 5)
theorem dL_law_1492 : decode cL_law 1492 = .ok (.goto 93, 3) := dz_167 (dz_at q51d05_0_1486 6) (by decide +kernel)
theorem dL_law_1495 : decode cL_law 1495 = .ok (.aload_n 1, 1) := dz_43 (dz_at q51d05_0_1486 9)
theorem dL_law_1496 : decode cL_law 1496 = .ok (.aload_n 0, 1) := dz_42 (dz_at q51d05_0_1486 10)
theorem dL_law_1497 : decode cL_law 1497 = .ok (.iload 4, 2) := dz_21 (dz_at q51d05_0_1486 11)
theorem dL_law_1499 : decode cL_law 1499 = .ok (.iconst 1, 1) := dz_4 (dz_at q51d05_0_1486 13)
theorem dL_law_1500 : decode cL_law 1500 = .ok (.iadd, 1) := dz_96 (dz_at q51d05_0_1486 14)
theorem dL_law_1501 : decode cL_law 1501 = .ok (.iaload, 1) := dz_46 (dz_at q51d05_0_1486 15)
theorem dL_law_1502 : decode cL_law 1502 = .ok (.invokevirtual 204, 3) := dz_182 (dz_at q51d05_0_1486 16) rfl
theorem dL_law_1505 : decode cL_law 1505 = .ok (.pop, 1) := dz_87 (dz_at q51d05_0_1486 19)
theorem dL_law_1506 : decode cL_law 1506 = .ok (.aload_n 2, 1) := dz_44 (dz_at q51d05_0_1486 20)
theorem dL_law_1507 : decode cL_law 1507 = .ok (.aload_n 0, 1) := dz_42 (dz_at q51d05_0_1486 21)
theorem dL_law_1508 : decode cL_law 1508 = .ok (.iload 4, 2) := dz_21 (dz_at q51d05_0_1486 22)
theorem dL_law_1510 : decode cL_law 1510 = .ok (.iconst 1, 1) := dz_4 (dz_at q51d05_0_1510 0)
theorem dL_law_1511 : decode cL_law 1511 = .ok (.iadd, 1) := dz_96 (dz_at q51d05_0_1510 1)
theorem dL_law_1512 : decode cL_law 1512 = .ok (.iaload, 1) := dz_46 (dz_at q51d05_0_1510 2)
theorem dL_law_1513 : decode cL_law 1513 = .ok (.invokevirtual 207, 3) := dz_182 (dz_at q51d05_0_1510 3) rfl
end zz51_d05
section zz51_d06
/-! the law, decoded -/
theorem q51d06_0_0 : (cL_law.data.toList.drop 0).take 23 = [187, 0, 8, 89, 183, 0, 23, 76, 187, 0, 24, 89, 183, 0, 26, 77, 4, 188, 11, 78, 3, 54, 4] := by decide +kernel
theorem q51d06_0_23 : (cL_law.data.toList.drop 23).take 16 = [21, 4, 42, 190, 8, 100, 163, 6, 26, 42, 21, 4, 46, 16, 63, 126] := by decide +kernel
theorem q51d06_0_1516 : (cL_law.data.toList.drop 1516).take 24 = [87, 167, 0, 68, 43, 42, 21, 4, 4, 96, 46, 42, 21, 4, 5, 96, 46, 182, 0, 208, 44, 42, 21, 4] := by decide +kernel
theorem q51d06_0_1540 : (cL_law.data.toList.drop 1540).take 24 = [4, 96, 46, 42, 21, 4, 5, 96, 46, 182, 0, 211, 159, 0, 33, 3, 172, 43, 42, 21, 4, 4, 96, 46] := by decide +kernel
theorem q51d06_0_1564 : (cL_law.data.toList.drop 1564).take 24 = [45, 184, 0, 212, 54, 5, 44, 42, 21, 4, 4, 96, 46, 182, 0, 215, 54, 6, 167, 0, 3, 132, 4, 5] := by decide +kernel
theorem q51d06_0_1588 : (cL_law.data.toList.drop 1588).take 5 = [167, 249, 227, 4, 172] := by decide +kernel
theorem dL_law_1516 : decode cL_law 1516 = .ok (.pop, 1) := dz_87 (dz_at q51d06_0_1516 0)
theorem dL_law_1517 : decode cL_law 1517 = .ok (.goto 68, 3) := dz_167 (dz_at q51d06_0_1516 1) (by decide +kernel)
theorem dL_law_1520 : decode cL_law 1520 = .ok (.aload_n 1, 1) := dz_43 (dz_at q51d06_0_1516 4)
theorem dL_law_1521 : decode cL_law 1521 = .ok (.aload_n 0, 1) := dz_42 (dz_at q51d06_0_1516 5)
theorem dL_law_1522 : decode cL_law 1522 = .ok (.iload 4, 2) := dz_21 (dz_at q51d06_0_1516 6)
theorem dL_law_1524 : decode cL_law 1524 = .ok (.iconst 1, 1) := dz_4 (dz_at q51d06_0_1516 8)
theorem dL_law_1525 : decode cL_law 1525 = .ok (.iadd, 1) := dz_96 (dz_at q51d06_0_1516 9)
theorem dL_law_1526 : decode cL_law 1526 = .ok (.iaload, 1) := dz_46 (dz_at q51d06_0_1516 10)
theorem dL_law_1527 : decode cL_law 1527 = .ok (.aload_n 0, 1) := dz_42 (dz_at q51d06_0_1516 11)
theorem dL_law_1528 : decode cL_law 1528 = .ok (.iload 4, 2) := dz_21 (dz_at q51d06_0_1516 12)
theorem dL_law_1530 : decode cL_law 1530 = .ok (.iconst 2, 1) := dz_5 (dz_at q51d06_0_1516 14)
theorem dL_law_1531 : decode cL_law 1531 = .ok (.iadd, 1) := dz_96 (dz_at q51d06_0_1516 15)
theorem dL_law_1532 : decode cL_law 1532 = .ok (.iaload, 1) := dz_46 (dz_at q51d06_0_1516 16)
theorem dL_law_1533 : decode cL_law 1533 = .ok (.invokevirtual 208, 3) := dz_182 (dz_at q51d06_0_1516 17) rfl
theorem dL_law_1536 : decode cL_law 1536 = .ok (.aload_n 2, 1) := dz_44 (dz_at q51d06_0_1516 20)
theorem dL_law_1537 : decode cL_law 1537 = .ok (.aload_n 0, 1) := dz_42 (dz_at q51d06_0_1516 21)
theorem dL_law_1538 : decode cL_law 1538 = .ok (.iload 4, 2) := dz_21 (dz_at q51d06_0_1516 22)
theorem dL_law_1540 : decode cL_law 1540 = .ok (.iconst 1, 1) := dz_4 (dz_at q51d06_0_1540 0)
theorem dL_law_1541 : decode cL_law 1541 = .ok (.iadd, 1) := dz_96 (dz_at q51d06_0_1540 1)
theorem dL_law_1542 : decode cL_law 1542 = .ok (.iaload, 1) := dz_46 (dz_at q51d06_0_1540 2)
theorem dL_law_1543 : decode cL_law 1543 = .ok (.aload_n 0, 1) := dz_42 (dz_at q51d06_0_1540 3)
theorem dL_law_1544 : decode cL_law 1544 = .ok (.iload 4, 2) := dz_21 (dz_at q51d06_0_1540 4)
theorem dL_law_1546 : decode cL_law 1546 = .ok (.iconst 2, 1) := dz_5 (dz_at q51d06_0_1540 6)
theorem dL_law_1547 : decode cL_law 1547 = .ok (.iadd, 1) := dz_96 (dz_at q51d06_0_1540 7)
theorem dL_law_1548 : decode cL_law 1548 = .ok (.iaload, 1) := dz_46 (dz_at q51d06_0_1540 8)
theorem dL_law_1549 : decode cL_law 1549 = .ok (.invokevirtual 211, 3) := dz_182 (dz_at q51d06_0_1540 9) rfl
theorem dL_law_1552 : decode cL_law 1552 = .ok (.if_icmp .eq 33, 3) := dz_159 (dz_at q51d06_0_1540 12) (by decide +kernel)
theorem dL_law_1557 : decode cL_law 1557 = .ok (.aload_n 1, 1) := dz_43 (dz_at q51d06_0_1540 17)
theorem dL_law_1558 : decode cL_law 1558 = .ok (.aload_n 0, 1) := dz_42 (dz_at q51d06_0_1540 18)
theorem dL_law_1559 : decode cL_law 1559 = .ok (.iload 4, 2) := dz_21 (dz_at q51d06_0_1540 19)
theorem dL_law_1561 : decode cL_law 1561 = .ok (.iconst 1, 1) := dz_4 (dz_at q51d06_0_1540 21)
theorem dL_law_1562 : decode cL_law 1562 = .ok (.iadd, 1) := dz_96 (dz_at q51d06_0_1540 22)
theorem dL_law_1563 : decode cL_law 1563 = .ok (.iaload, 1) := dz_46 (dz_at q51d06_0_1540 23)
theorem dL_law_1564 : decode cL_law 1564 = .ok (.aload_n 3, 1) := dz_45 (dz_at q51d06_0_1564 0)
theorem dL_law_1565 : decode cL_law 1565 = .ok (.invokestatic 212, 3) := dz_184 (dz_at q51d06_0_1564 1) rfl
theorem dL_law_1568 : decode cL_law 1568 = .ok (.istore 5, 2) := dz_54 (dz_at q51d06_0_1564 4)
theorem dL_law_1570 : decode cL_law 1570 = .ok (.aload_n 2, 1) := dz_44 (dz_at q51d06_0_1564 6)
theorem dL_law_1571 : decode cL_law 1571 = .ok (.aload_n 0, 1) := dz_42 (dz_at q51d06_0_1564 7)
theorem dL_law_1572 : decode cL_law 1572 = .ok (.iload 4, 2) := dz_21 (dz_at q51d06_0_1564 8)
theorem dL_law_1574 : decode cL_law 1574 = .ok (.iconst 1, 1) := dz_4 (dz_at q51d06_0_1564 10)
theorem dL_law_1575 : decode cL_law 1575 = .ok (.iadd, 1) := dz_96 (dz_at q51d06_0_1564 11)
theorem dL_law_1576 : decode cL_law 1576 = .ok (.iaload, 1) := dz_46 (dz_at q51d06_0_1564 12)
theorem dL_law_1577 : decode cL_law 1577 = .ok (.invokevirtual 215, 3) := dz_182 (dz_at q51d06_0_1564 13) rfl
theorem dL_law_1580 : decode cL_law 1580 = .ok (.istore 6, 2) := dz_54 (dz_at q51d06_0_1564 16)
theorem dL_law_1582 : decode cL_law 1582 = .ok (.goto 3, 3) := dz_167 (dz_at q51d06_0_1564 18) (by decide +kernel)
theorem dL_law_23 : decode cL_law 23 = .ok (.iload 4, 2) := dz_21 (dz_at q51d06_0_23 0)
theorem dL_law_25 : decode cL_law 25 = .ok (.aload_n 0, 1) := dz_42 (dz_at q51d06_0_23 2)
theorem dL_law_26 : decode cL_law 26 = .ok (.arraylength, 1) := dz_190 (dz_at q51d06_0_23 3)
theorem dL_law_27 : decode cL_law 27 = .ok (.iconst 5, 1) := dz_8 (dz_at q51d06_0_23 4)
theorem dL_law_28 : decode cL_law 28 = .ok (.isub, 1) := dz_100 (dz_at q51d06_0_23 5)
theorem dL_law_29 : decode cL_law 29 = .ok (.if_icmp .gt 1562, 3) := dz_163 (dz_at q51d06_0_23 6) (by decide +kernel)
theorem dL_law_1591 : decode cL_law 1591 = .ok (.iconst 1, 1) := dz_4 (dz_at q51d06_0_1588 3)
theorem dL_law_1592 : decode cL_law 1592 = .ok (.ireturn, 1) := dz_172 (dz_at q51d06_0_1588 4)
theorem dL_law_39 : decode cL_law 39 = .ok (.tableswitch 1546 0 43 #[189, 214, 239, 252, 277, 314, 363, 412, 477, 526, 539, 564, 604, 641, 681, 750, 763, 800, 857, 870, 907, 920, 933, 946, 983, 1020, 1081, 1106, 1131, 1144, 1169, 1206, 1231, 1244, 1269, 1294, 1319, 1356, 1369, 1382, 1419, 1456, 1481, 1518], 189) := by decide +kernel
theorem dL_law_32 : decode cL_law 32 = .ok (.aload_n 0, 1) := dz_42 (dz_at q51d06_0_23 9)
theorem dL_law_33 : decode cL_law 33 = .ok (.iload 4, 2) := dz_21 (dz_at q51d06_0_23 10)
theorem dL_law_35 : decode cL_law 35 = .ok (.iaload, 1) := dz_46 (dz_at q51d06_0_23 12)
theorem dL_law_36 : decode cL_law 36 = .ok (.bipush 63, 2) := dz_16 (dz_at q51d06_0_23 13) (by decide +kernel)
theorem dL_law_38 : decode cL_law 38 = .ok (.iand, 1) := dz_126 (dz_at q51d06_0_23 15)
theorem dL_law_1585 : decode cL_law 1585 = .ok (.iinc 4 5, 3) := dz_132 (dz_at q51d06_0_1564 21) (by decide +kernel)
theorem dL_law_1588 : decode cL_law 1588 = .ok (.goto (-1565), 3) := dz_167 (dz_at q51d06_0_1588 0) (by decide +kernel)
theorem dL_law_0 : decode cL_law 0 = .ok (.new 8, 3) := dz_187 (dz_at q51d06_0_0 0) rfl
theorem dL_law_3 : decode cL_law 3 = .ok (.dup, 1) := dz_89 (dz_at q51d06_0_0 3)
theorem dL_law_4 : decode cL_law 4 = .ok (.invokespecial 23, 3) := dz_183 (dz_at q51d06_0_0 4) rfl
theorem dL_law_7 : decode cL_law 7 = .ok (.astore_n 1, 1) := dz_76 (dz_at q51d06_0_0 7)
theorem dL_law_8 : decode cL_law 8 = .ok (.new 24, 3) := dz_187 (dz_at q51d06_0_0 8) rfl
theorem dL_law_11 : decode cL_law 11 = .ok (.dup, 1) := dz_89 (dz_at q51d06_0_0 11)
theorem dL_law_12 : decode cL_law 12 = .ok (.invokespecial 26, 3) := dz_183 (dz_at q51d06_0_0 12) rfl
theorem dL_law_15 : decode cL_law 15 = .ok (.astore_n 2, 1) := dz_77 (dz_at q51d06_0_0 15)
theorem dL_law_16 : decode cL_law 16 = .ok (.iconst 1, 1) := dz_4 (dz_at q51d06_0_0 16)
theorem dL_law_17 : decode cL_law 17 = .ok (.newarray .long, 2) := by decide +kernel
theorem dL_law_19 : decode cL_law 19 = .ok (.astore_n 3, 1) := dz_78 (dz_at q51d06_0_0 19)
theorem dL_law_20 : decode cL_law 20 = .ok (.iconst 0, 1) := dz_3 (dz_at q51d06_0_0 20)
theorem dL_law_21 : decode cL_law 21 = .ok (.istore 4, 2) := dz_54 (dz_at q51d06_0_0 21)
end zz51_d06
