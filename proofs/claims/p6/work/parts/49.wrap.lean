/-! the law's own rows over the W layer; its own methods: they call, put down the answer, or catch -/
theorem l_ofWH {l : Launch} {y : MethodName} {ws ws' : List Cond} {rm : Room} {Pc : Array Value → State → Prop} {Qc : Array Value → State → Outcome → State → Prop} {mc ms : Nat} {free : Addr → Prop} {cc : ByteArray} {maxL : Nat} {ret : Option FieldType} {hh : List (Nat × Nat × Nat × Nat)}
    (hy : plainName y.cls = true) (hw : ws = Cond.codeWith y cc maxL ret hh :: ws')
    (body : ∀ p e s m args below meth c s₁, BodyLoose p l y (headSpec ws rm) cc maxL ret e s m args below meth c s₁ → c.maxLocals = maxL → Pc args s →
      W p l e (headSpec ws rm).room s m args below meth c s.heap [] 0 0 (MQ below Qc args s mc ms free) (entryFrame m args maxL)) : Met l y ws rm Pc Qc mc ms free := by
  refine MetFree.of_bodyS (code := cc) (maxLocals := maxL) (ret := ret) hy ?_ ?_
  · intro args s m h hn
    obtain ⟨m9, meth, c, hn9, h1, h2, h3, h4, -, h5, h6, -⟩ := Cond.codeWith_spec (atoms_spec (ws := ws) h _ (by rw [hw]; exact List.mem_cons_self))
    cases hn.symm.trans hn9
    exact ⟨meth, c, h1, h2, h3, h4, h5, h6⟩
  · intro p e s m args below meth c s₁ B hml hP _
    have hh0 : s₁.heap = s.heap := by rw [B.state]; rfl
    obtain ⟨t, a1, o, b1, b2, b3⟩ := body p e s m args below meth c s₁ B hml hP s₁ hh0 (Stand.of_body B)
    exact ⟨t, o, a1, b1, b2, ⟨b3.1, b3.2⟩⟩
def LW3 (D : va_G) (dA : Nat → ClassId) (b : Nat) (MC MR MO : zM) (H : Heap) : Prop := zR D dA vwCl wC nC b MC H ∧ zR D dA vwCl wR nR (b + 134) MR H ∧ zR D dA vwCl wO 1 (b + 168) MO H
theorem lw3_upC {D : va_G} {dA : Nat → ClassId} {b : Nat} {MC MR MO M1 : zM} {H H1 : Heap} (h : LW3 D dA b MC MR MO H) (hR : zR D dA vwCl wC nC b M1 H1) (hk : ∀ q : Nat, q < H.size → ¬ zA nC b q → H1[q]? = H[q]?) : LW3 D dA b M1 MR MO H1 :=
  ⟨hR, zR_kept h.2.1 (fun q h1 h2 _ => hk q h1 (fun z => by have e1 : nC = 134 := rfl; have e2 : nR = 34 := rfl; have := z.2; omega)), zR_kept h.2.2 (fun q h1 h2 _ => hk q h1 (fun z => by have e1 : nC = 134 := rfl; have e2 : nR = 34 := rfl; have := z.2; omega))⟩
theorem lw3_upR {D : va_G} {dA : Nat → ClassId} {b : Nat} {MC MR MO M1 : zM} {H H1 : Heap} (h : LW3 D dA b MC MR MO H) (hR : zR D dA vwCl wR nR (b + 134) M1 H1) (hk : ∀ q : Nat, q < H.size → ¬ zA nR (b + 134) q → H1[q]? = H[q]?) : LW3 D dA b MC M1 MO H1 :=
  ⟨zR_kept h.1 (fun q h1 _ h3 => hk q h1 (fun z => by have e1 : nC = 134 := rfl; have e2 : nR = 34 := rfl; have := z.1; omega)), hR, zR_kept h.2.2 (fun q h1 h2 _ => hk q h1 (fun z => by have e1 : nC = 134 := rfl; have e2 : nR = 34 := rfl; have := z.2; omega))⟩
theorem r01 {z : Int} (h : z = 0 ∨ z = 1) : R32 z := ⟨by omega, by omega⟩
section LAWW
variable {p : Program} {l : Launch} {e : Env} {R : Room} {s : State} {m : MethodId} {args : Array Value} {below : List Frame} {meth : Method} {c : Code} {H : Heap} {locs : List Loc} {cells slots : Nat} {Q : State → Prop}
variable {cc : ByteArray} {pc : Nat} {ls : Array Slot} {rest st0 : List Value} {D : va_G} {dA : Nat → ClassId} {H0 : Heap} {b : Nat} {MC MR MO : zM} {a : Array Value}
theorem l_wCi {post : Int → zM → Prop} (hr : va_Run p l e R s m args below meth c H locs cells slots 0 0 (F0 m pc ls st0) rest (va_Qi (wQi post) (zB D dA vwCl wC nC b) (zA nC b) a) (zA nC b)) (hS : LW3 D dA b MC MR MO H) (hS0 : va_S (yA b) H0 H locs)
    (kk : ∀ (z : Int) (M1 : zM) (H1 : Heap) (locs1 : List Loc), R32 z → post z M1 → LW3 D dA b M1 MR MO H1 → va_S (yA b) H0 H1 locs1 → W p l e R s m args below meth c H1 locs1 cells slots Q (F0 m (pc + 3) ls (.int (iI z) :: rest))) : W p l e R s m args below meth c H locs cells slots Q (F0 m pc ls st0) := by
  refine va_calli hr hS0 (fun q _ h => h.1) (fun q h => h.1) (fun r u t H1 locs1 ht _ hp hB hz hk hS1 => ?_)
  obtain ⟨z, rfl, hz, hp⟩ := hp
  unfold zB at hB
  rw [ht] at hB
  exact kk z u H1 locs1 hz hp (lw3_upC hS hB hk) hS1
theorem l_wCz {post : Int → zM → Prop} (hr : va_Run p l e R s m args below meth c H locs cells slots 0 0 (F0 m pc ls st0) rest (va_Qi (wQz post) (zB D dA vwCl wC nC b) (zA nC b) a) (zA nC b)) (hS : LW3 D dA b MC MR MO H) (hS0 : va_S (yA b) H0 H locs)
    (kk : ∀ (z : Int) (M1 : zM) (H1 : Heap) (locs1 : List Loc), (z = 0 ∨ z = 1) → post z M1 → LW3 D dA b M1 MR MO H1 → va_S (yA b) H0 H1 locs1 → W p l e R s m args below meth c H1 locs1 cells slots Q (F0 m (pc + 3) ls (.int (iI z) :: rest))) : W p l e R s m args below meth c H locs cells slots Q (F0 m pc ls st0) := by
  refine va_calli hr hS0 (fun q _ h => h.1) (fun q h => h.1) (fun r u t H1 locs1 ht _ hp hB hz hk hS1 => ?_)
  obtain ⟨z, rfl, hz, hp⟩ := hp
  unfold zB at hB
  rw [ht] at hB
  exact kk z u H1 locs1 hz hp (lw3_upC hS hB hk) hS1
theorem l_wCl {post : Int → zM → Prop} (hr : va_Run p l e R s m args below meth c H locs cells slots 0 0 (F0 m pc ls st0) rest (va_Ql (wQl post) (zB D dA vwCl wC nC b) (zA nC b) a) (zA nC b)) (hS : LW3 D dA b MC MR MO H) (hS0 : va_S (yA b) H0 H locs)
    (kk : ∀ (z : Int) (M1 : zM) (H1 : Heap) (locs1 : List Loc), R64 z → post z M1 → LW3 D dA b M1 MR MO H1 → va_S (yA b) H0 H1 locs1 → W p l e R s m args below meth c H1 locs1 cells slots Q (F0 m (pc + 3) ls (.long (iL z) :: rest))) : W p l e R s m args below meth c H locs cells slots Q (F0 m pc ls st0) := by
  refine va_calll hr hS0 (fun q _ h => h.1) (fun q h => h.1) (fun r u t H1 locs1 ht _ hp hB hz hk hS1 => ?_)
  obtain ⟨z, rfl, hz, hp⟩ := hp
  unfold zB at hB
  rw [ht] at hB
  exact kk z u H1 locs1 hz hp (lw3_upC hS hB hk) hS1
theorem l_wRi {post : Int → zM → Prop} (hr : va_Run p l e R s m args below meth c H locs cells slots 0 0 (F0 m pc ls st0) rest (va_Qi (wQi post) (zB D dA vwCl wR nR (b + 134)) (zA nR (b + 134)) a) (zA nR (b + 134))) (hS : LW3 D dA b MC MR MO H) (hS0 : va_S (yA b) H0 H locs)
    (kk : ∀ (z : Int) (M1 : zM) (H1 : Heap) (locs1 : List Loc), R32 z → post z M1 → LW3 D dA b MC M1 MO H1 → va_S (yA b) H0 H1 locs1 → W p l e R s m args below meth c H1 locs1 cells slots Q (F0 m (pc + 3) ls (.int (iI z) :: rest))) : W p l e R s m args below meth c H locs cells slots Q (F0 m pc ls st0) := by
  refine va_calli hr hS0 (fun q _ h => by have := h.1; show b ≤ q; omega) (fun q h => by have := h.1; show b ≤ q; omega) (fun r u t H1 locs1 ht _ hp hB hz hk hS1 => ?_)
  obtain ⟨z, rfl, hz, hp⟩ := hp
  unfold zB at hB
  rw [ht] at hB
  exact kk z u H1 locs1 hz hp (lw3_upR hS hB hk) hS1
theorem l_wRz {post : Int → zM → Prop} (hr : va_Run p l e R s m args below meth c H locs cells slots 0 0 (F0 m pc ls st0) rest (va_Qi (wQz post) (zB D dA vwCl wR nR (b + 134)) (zA nR (b + 134)) a) (zA nR (b + 134))) (hS : LW3 D dA b MC MR MO H) (hS0 : va_S (yA b) H0 H locs)
    (kk : ∀ (z : Int) (M1 : zM) (H1 : Heap) (locs1 : List Loc), (z = 0 ∨ z = 1) → post z M1 → LW3 D dA b MC M1 MO H1 → va_S (yA b) H0 H1 locs1 → W p l e R s m args below meth c H1 locs1 cells slots Q (F0 m (pc + 3) ls (.int (iI z) :: rest))) : W p l e R s m args below meth c H locs cells slots Q (F0 m pc ls st0) := by
  refine va_calli hr hS0 (fun q _ h => by have := h.1; show b ≤ q; omega) (fun q h => by have := h.1; show b ≤ q; omega) (fun r u t H1 locs1 ht _ hp hB hz hk hS1 => ?_)
  obtain ⟨z, rfl, hz, hp⟩ := hp
  unfold zB at hB
  rw [ht] at hB
  exact kk z u H1 locs1 hz hp (lw3_upR hS hB hk) hS1
theorem l_wRl {post : Int → zM → Prop} (hr : va_Run p l e R s m args below meth c H locs cells slots 0 0 (F0 m pc ls st0) rest (va_Ql (wQl post) (zB D dA vwCl wR nR (b + 134)) (zA nR (b + 134)) a) (zA nR (b + 134))) (hS : LW3 D dA b MC MR MO H) (hS0 : va_S (yA b) H0 H locs)
    (kk : ∀ (z : Int) (M1 : zM) (H1 : Heap) (locs1 : List Loc), R64 z → post z M1 → LW3 D dA b MC M1 MO H1 → va_S (yA b) H0 H1 locs1 → W p l e R s m args below meth c H1 locs1 cells slots Q (F0 m (pc + 3) ls (.long (iL z) :: rest))) : W p l e R s m args below meth c H locs cells slots Q (F0 m pc ls st0) := by
  refine va_calll hr hS0 (fun q _ h => by have := h.1; show b ≤ q; omega) (fun q h => by have := h.1; show b ≤ q; omega) (fun r u t H1 locs1 ht _ hp hB hz hk hS1 => ?_)
  obtain ⟨z, rfl, hz, hp⟩ := hp
  unfold zB at hB
  rw [ht] at hB
  exact kk z u H1 locs1 hz hp (lw3_upR hS hB hk) hS1
/-- a long is put into the row of one -/
theorem l_lastW {cl : List vw_C} {tys : List (ClassId × FieldType)} {M : zM} {A : Nat → Prop} (hexec : p.tables.exec = Jvm.exec) (hb : c.code = cc) (hK : va_K D cl tys s) {t0 : Nat} (ht : tys[t0]? = some (dA 1, .long)) (hR : zR D dA cl wO 1 b M H) (hS0 : va_S A H0 H locs) (hA : A (b + 0)) {z : Int} (hdg : decode cc pc = .ok (.lastore, 1))
    (kk : ∀ (H1 : Heap) (locs1 : List Loc), zR D dA cl wO 1 b (zup M 0 0 z) H1 → (∀ q : Nat, q ≠ b + 0 → H1[q]? = H[q]?) → va_S A H0 H1 locs1 → W p l e R s m args below meth c H1 locs1 cells slots Q (F0 m (pc + 1) ls rest)) : W p l e R s m args below meth c H locs cells slots Q (F0 m pc ls (.long (iL z) :: .int (iI 0) :: .ref (b + 0) :: rest)) := by
  obtain ⟨v1, v2⟩ := iI_in (z := 0) (n := 1) (by decide) (by decide) (by decide)
  have hP : H[b + 0]? = some (vp_cell (dA 1) (1, .inr (.inl (fun k => iL (M 0 k))))) := hR 0 (by decide)
  rw [vp_cell_l] at hP
  refine W.last hexec hb hP ((hK.2 t0 _ ht).1 1 (fun j3 => .long (iL (M 0 j3)))) (fun q => by cases q) (by show ¬ (iI 0 < 0 ∨ (arrV _ _ _).slots.size ≤ _); rw [arrV_size]; exact v1) rfl rfl hdg fun H1 e1 e2 e3 => ?_
  refine kk H1 _ (fun j hj => ?_) e3 (hS0.put e2 e3 hA)
  have h0 : j = 0 := by omega
  subst h0
  show H1[b + 0]? = some (vp_cell (dA 1) (1, .inr (.inl (fun k => iL (zup M 0 0 z 0 k)))))
  rw [e1, vp_cell_l, arrV_store, v2]
  congr 2
  funext q
  by_cases hq : q = 0
  · subst hq
    simp [updV, zup_s]
  · show updV _ (0 : Int).toNat _ q = _
    simp only [updV, show (0 : Int).toNat = 0 from rfl, if_neg hq]
    rw [zup_n]
    exact fun x => hq x.2
end LAWW
/-- what the law's own methods may change: the class's cells, the row of one, new ones -/
def lA (b : Nat) : Nat → Prop := fun q => zA nC b q ∨ b + 168 ≤ q
def wPW (D : va_G) (dA : Nat → ClassId) (b : Nat) (MC MO : zM) : State → Prop := fun U => wPre D dA vwCl (z_tys dA) wC nC b MC U ∧ zR D dA vwCl wO 1 (b + 168) MO U.heap ∧ zTw U ∧ zZ (yA b) U U.heap
theorem wPW_blind {D : va_G} {dA : Nat → ClassId} {b : Nat} {MC MO : zM} {As : List Value} : FrameBlind (va_Pc As (wPW D dA b MC MO)) := fun a U g mk q => ⟨q.1, (wPre_blind a U g mk ⟨q.1, q.2.1⟩).2, q.2.2.1, zTw.same (u := U) rfl q.2.2.2.1, zZ.moved (u := U) (U := U.calling g mk _) (Vm.Alike.refl U.vm) q.2.2.2.2⟩
def zBW (D : va_G) (dA : Nat → ClassId) (b : Nat) : zM × zM → State → Prop := fun u t => zR D dA vwCl wC nC b u.1 t.heap ∧ zR D dA vwCl wO 1 (b + 168) u.2 t.heap
def wQW (inr : Int → Prop) (MC MO : zM) (post : Int → Prop) (P : Prop) : Int32 → zM × zM → Prop := fun r u => (r = iI 0 ∧ ∃ v, inr v ∧ post v ∧ u.1 = MC ∧ u.2 = zup MO 0 0 v) ∨ (r = iI 1 ∧ P ∧ u.1 = MC ∧ u.2 = MO)
theorem w_of : Cond.codeWith yL_of cL_of 5 (some .int) [(0, 10, 13, 13)] ∈ zt := zin_5 (List.mem_of_getElem? (i := 61) (by decide +kernel)) rfl
theorem w_way : Cond.codeWith yL_way cL_way 5 (some .int) [(0, 9, 12, 13)] ∈ zt := zin_5 (List.mem_of_getElem? (i := 131) (by decide +kernel)) rfl
theorem w_row : Cond.codeWith yL_row cL_row 4 (some .int) [(0, 9, 12, 13)] ∈ zt := zin_5 (List.mem_of_getElem? (i := 140) (by decide +kernel)) rfl
theorem dL_of_0 : decode cL_of 0 = .ok (.aload_n 3, 1) := by decide +kernel
theorem dL_of_1 : decode cL_of 1 = .ok (.iconst 0, 1) := by decide +kernel
theorem dL_of_10 : decode cL_of 10 = .ok (.goto 7, 3) := by decide +kernel
theorem dL_of_13 : decode cL_of 13 = .ok (.astore 4, 2) := by decide +kernel
theorem dL_of_15 : decode cL_of 15 = .ok (.iconst 1, 1) := by decide +kernel
theorem dL_of_16 : decode cL_of 16 = .ok (.ireturn, 1) := by decide +kernel
theorem dL_of_17 : decode cL_of 17 = .ok (.iconst 0, 1) := by decide +kernel
theorem dL_of_18 : decode cL_of 18 = .ok (.ireturn, 1) := by decide +kernel
theorem dL_of_2 : decode cL_of 2 = .ok (.aload_n 0, 1) := by decide +kernel
theorem dL_of_3 : decode cL_of 3 = .ok (.iload_n 1, 1) := by decide +kernel
theorem dL_of_4 : decode cL_of 4 = .ok (.iload_n 2, 1) := by decide +kernel
theorem dL_of_5 : decode cL_of 5 = .ok (.invokevirtual 7, 3) := by decide +kernel
theorem dL_of_8 : decode cL_of 8 = .ok (.i2l, 1) := by decide +kernel
theorem dL_of_9 : decode cL_of 9 = .ok (.lastore, 1) := by decide +kernel
theorem dL_row_0 : decode cL_row 0 = .ok (.aload_n 2, 1) := by decide +kernel
theorem dL_row_1 : decode cL_row 1 = .ok (.iconst 0, 1) := by decide +kernel
theorem dL_row_12 : decode cL_row 12 = .ok (.astore_n 3, 1) := by decide +kernel
theorem dL_row_13 : decode cL_row 13 = .ok (.iconst 1, 1) := by decide +kernel
theorem dL_row_14 : decode cL_row 14 = .ok (.ireturn, 1) := by decide +kernel
theorem dL_row_15 : decode cL_row 15 = .ok (.iconst 0, 1) := by decide +kernel
theorem dL_row_16 : decode cL_row 16 = .ok (.ireturn, 1) := by decide +kernel
theorem dL_row_2 : decode cL_row 2 = .ok (.aload_n 0, 1) := by decide +kernel
theorem dL_row_3 : decode cL_row 3 = .ok (.iload_n 1, 1) := by decide +kernel
theorem dL_row_4 : decode cL_row 4 = .ok (.invokevirtual 19, 3) := by decide +kernel
theorem dL_row_7 : decode cL_row 7 = .ok (.i2l, 1) := by decide +kernel
theorem dL_row_8 : decode cL_row 8 = .ok (.lastore, 1) := by decide +kernel
theorem dL_row_9 : decode cL_row 9 = .ok (.goto 6, 3) := by decide +kernel
theorem dL_way_0 : decode cL_way 0 = .ok (.aload_n 3, 1) := by decide +kernel
theorem dL_way_1 : decode cL_way 1 = .ok (.iconst 0, 1) := by decide +kernel
theorem dL_way_12 : decode cL_way 12 = .ok (.astore 4, 2) := by decide +kernel
theorem dL_way_14 : decode cL_way 14 = .ok (.iconst 1, 1) := by decide +kernel
theorem dL_way_15 : decode cL_way 15 = .ok (.ireturn, 1) := by decide +kernel
theorem dL_way_16 : decode cL_way 16 = .ok (.iconst 0, 1) := by decide +kernel
theorem dL_way_17 : decode cL_way 17 = .ok (.ireturn, 1) := by decide +kernel
theorem dL_way_2 : decode cL_way 2 = .ok (.aload_n 0, 1) := by decide +kernel
theorem dL_way_3 : decode cL_way 3 = .ok (.iload_n 1, 1) := by decide +kernel
theorem dL_way_4 : decode cL_way 4 = .ok (.iload_n 2, 1) := by decide +kernel
theorem dL_way_5 : decode cL_way 5 = .ok (.invokevirtual 15, 3) := by decide +kernel
theorem dL_way_8 : decode cL_way 8 = .ok (.lastore, 1) := by decide +kernel
theorem dL_way_9 : decode cL_way 9 = .ok (.goto 7, 3) := by decide +kernel
theorem dm_X11_of : yX11_of.cls = RX11 ∧ yX11_of.cls ≠ "java/lang/invoke/MethodHandle" ∧ yX11_of.cls ≠ "java/lang/invoke/VarHandle" ∧ (parseMethodDescriptor yX11_of.desc).map (fun d => d.parameters.length) = some 2 := by decide +kernel
theorem dm_X11_way : yX11_way.cls = RX11 ∧ yX11_way.cls ≠ "java/lang/invoke/MethodHandle" ∧ yX11_way.cls ≠ "java/lang/invoke/VarHandle" ∧ (parseMethodDescriptor yX11_way.desc).map (fun d => d.parameters.length) = some 2 := by decide +kernel
theorem dm_X11_row : yX11_row.cls = RX11 ∧ yX11_row.cls ≠ "java/lang/invoke/MethodHandle" ∧ yX11_row.cls ≠ "java/lang/invoke/VarHandle" ∧ (parseMethodDescriptor yX11_row.desc).map (fun d => d.parameters.length) = some 1 := by decide +kernel
set_option maxHeartbeats 4000000 in
set_option maxRecDepth 100000 in
theorem lw_of {l : Launch} {D : va_G} {dA : Nat → ClassId} {b dd : Nat} {MC MO : zM} {a0 a1 : Int} {post : Int → Prop} {P : Prop}
    (hM : vx_Met l yX11_of (.code yX11_of cX11_of 4 (some .int) :: zt) (z_rmT dd) (va_Pc [.ref (b + 0), .int (iI a0), .int (iI a1)] (wPreT D dA vwCl (z_tys dA) wC nC b MC)) (va_Qi (wQi (fun z9 u9 => u9 = MC ∧ post z9)) (zB D dA vwCl wC nC b) (zA nC b)) (zXC D dA vwCl wC nC b MC P) 1 6 (zA nC b)) :
    Met l yL_of (.codeWith yL_of cL_of 5 (some .int) [(0, 10, 13, 13)] :: zt) (z_rmT (dd + 1)) (va_Pc [.ref (b + 0), .int (iI a0), .int (iI a1), .ref (b + 168 + 0)] (wPW D dA b MC MO)) (va_Qi (wQW R32 MC MO post P) (zBW D dA b) (lA b)) 1 6 (lA b) := by
  refine l_ofWH (cc := cL_of) (maxL := 5) (ret := some .int) (hh := [(0, 10, 13, 13)]) (by decide) rfl ?_
  intro p e s m args below meth c s₁ B hml hv
  obtain ⟨hargs, hPC, hRO, hTw, hZ⟩ := hv
  obtain ⟨hRC, hK⟩ := id hPC
  have hx := B.exec
  have hb := B.bytes
  have hr := B.returns
  have hts := atoms_spec (ws := .codeWith yL_of cL_of 5 (some .int) [(0, 10, 13, 13)] :: zt) B.pre
  have hown : s.vm.findClass RL = some m.cls := findClass_of_methodNamed B.named
  have hlocks := B.notSynchronized
  have htab := vx_table (x := yL_of) B (hts _ List.mem_cons_self)
  have hS0 : va_S (lA b) s.heap s.heap [] := va_S.rf
  have hl := lv_entry ([.ref (b + 0), .int (iI a0), .int (iI a1), .ref (b + 168 + 0)]) (n := 5) (Nat.le_of_ble_eq_true rfl)
  have hent : entryFrame m args 5 = F0 m 0 ((lg_sl ([.ref (b + 0), .int (iI a0), .int (iI a1), .ref (b + 168 + 0)]) ++ List.replicate (5 - (lg_sl ([.ref (b + 0), .int (iI a0), .int (iI a1), .ref (b + 168 + 0)])).length) Slot.unset).toArray) [] := by rw [hargs]; exact lg_entry_eq m ([.ref (b + 0), .int (iI a0), .int (iI a1), .ref (b + 168 + 0)]) 5
  rw [hent]
  generalize (lg_sl ([.ref (b + 0), .int (iI a0), .int (iI a1), .ref (b + 168 + 0)]) ++ List.replicate (5 - (lg_sl ([.ref (b + 0), .int (iI a0), .int (iI a1), .ref (b + 168 + 0)])).length) Slot.unset).toArray = ls at hl ⊢
  have hl : lv_has ls 5 [(0, .ref (b + 0)), (1, .int (iI a0)), (2, .int (iI a1)), (3, .ref (b + 168 + 0))] := hl
  refine lv_aload_n hx hb dL_of_0 rfl (lv_at hl 3 rfl) ?_
  refine z_iconst hx hb dL_of_1 ?_
  refine lv_aload_n hx hb dL_of_2 rfl (lv_at hl 0 rfl) ?_
  refine lv_iload_n hx hb dL_of_3 rfl (lv_at hl 1 rfl) ?_
  refine lv_iload_n hx hb dL_of_4 rfl (lv_at hl 2 rfl) ?_
  refine vx_calli (vx_runV (As := [.int (iI a0), .int (iI a1)]) (rest := [.int (iI 0), .ref (b + 168 + 0)]) ⟨hx, hb, hml, hown, hts⟩ hM (cwV 2 hts (z_gV k879 k880 k881 k1 k882) rfl rfl rfl dm_X11_of ⟨by show dd + 6 + 1 ≤ dd + 1 + 6; omega, by show 8 + (4 + 11) + 64 * (dd + 6) ≤ 64 * (dd + 1 + 6); omega⟩) ⟨wPreT_blind, w_recv hRC hK.1 (by decide) (zkd_of (rfl : zcd wC 0 = 0) rfl) (by decide) (rfl : vwCl[11]? = some (RX11, TX11, 11)), fun U hU hW => ⟨rfl, (w_pre (As := []) hRC hK U hU hW).2, hTw.warm hW, by rw [hU]; exact (hZ.narrow (fun q h => h.1)).moved hW.alike⟩⟩ rfl rfl hl.1 rfl (lv_room (Nat.le_of_ble_eq_true rfl)) dL_of_5 ⟨Nat.le_refl _, Nat.le_refl _⟩) hS0 (fun q _ h => Or.inl h) (fun q h => Or.inl h) (fun q _ h => Or.inl h) (fun E ce q9 u t H1 locs1 ht hvm hpx hBX hz hk hS1 hce hcv hcl => ?_) (fun r u t H1 locs1 ht hvm hp hB hz hk hS1 => ?_)
  · obtain ⟨rfl, hR1⟩ := hBX
    rw [ht] at hR1
    refine vx_catch (name := "java/util/NoSuchElementException") hown [] ⟨0, 10, 13, 13⟩ [] htab (fun z hz => nomatch hz) rfl (by decide) (hts _ (z_mem k878)) (va_Nw.use rfl hTw.1) hce hcv hcl ?_
    refine lv_astore (lv' := [(4, .ref q9), (0, .ref (b + 0)), (1, .int (iI a0)), (2, .int (iI a1)), (3, .ref (b + 168 + 0))]) hx hb dL_of_13 hl (by decide) rfl (fun ls hl => ?_)
    refine z_iconst hx hb dL_of_15 ?_
    exact W.iret hx hb hr (fun t9 ht9 hW => ⟨⟨iI 1, (MC, MO), rfl, Or.inr ⟨rfl, hpx, rfl, rfl⟩, by rw [show t9.heap = H1 from ht9]; exact hR1, by rw [show t9.heap = H1 from ht9]; exact zR_kept hRO (fun q h1 h2 h3 => hk q h1 (fun z => by have e1 : nC = 134 := rfl; have e2 : nR = 34 := rfl; have := z.2; omega))⟩, hS1.F ht9⟩) hS1.2.2 dL_of_16 hlocks
  · obtain ⟨v, rfl, hv9, hu9, hp1⟩ := hp
    unfold zB at hB
    rw [ht, hu9] at hB
    refine z_i2l hx hb hv9 dL_of_8 ?_
    refine l_lastW (b := b + 168) hx hb hK.1 (t0 := 1) rfl (zR_kept hRO (fun q h1 h2 h3 => hk q h1 (fun z => by have e1 : nC = 134 := rfl; have e2 : nR = 34 := rfl; have := z.2; omega))) hS1 (Or.inr (show b + 168 ≤ b + 168 + 0 by omega)) dL_of_9 (fun H2 locs2 hR2 hk2 hS2 => ?_)
    refine lv_goto (tgt := 17) hx hb dL_of_10 (by decide) ?_
    refine z_iconst hx hb dL_of_17 ?_
    exact W.iret hx hb hr (fun t9 ht9 hW => ⟨⟨iI 0, (MC, zup MO 0 0 v), rfl, Or.inl ⟨rfl, v, hv9, hp1, rfl, rfl⟩, by rw [show t9.heap = H2 from ht9]; exact zR_kept hB (fun q h1 h2 h3 => hk2 q (by have e1 : nC = 134 := rfl; omega)), by rw [show t9.heap = H2 from ht9]; exact hR2⟩, hS2.F ht9⟩) hS2.2.2 dL_of_18 hlocks
set_option maxHeartbeats 4000000 in
set_option maxRecDepth 100000 in
theorem lw_way {l : Launch} {D : va_G} {dA : Nat → ClassId} {b dd : Nat} {MC MO : zM} {a0 a1 : Int} {post : Int → Prop} {P : Prop}
    (hM : vx_Met l yX11_way (.code yX11_way cX11_way 3 (some .long) :: zt) (z_rmT dd) (va_Pc [.ref (b + 0), .int (iI a0), .int (iI a1)] (wPreT D dA vwCl (z_tys dA) wC nC b MC)) (va_Ql (wQl (fun z9 u9 => u9 = MC ∧ post z9)) (zB D dA vwCl wC nC b) (zA nC b)) (zXC D dA vwCl wC nC b MC P) 1 6 (zA nC b)) :
    Met l yL_way (.codeWith yL_way cL_way 5 (some .int) [(0, 9, 12, 13)] :: zt) (z_rmT (dd + 1)) (va_Pc [.ref (b + 0), .int (iI a0), .int (iI a1), .ref (b + 168 + 0)] (wPW D dA b MC MO)) (va_Qi (wQW R64 MC MO post P) (zBW D dA b) (lA b)) 1 6 (lA b) := by
  refine l_ofWH (cc := cL_way) (maxL := 5) (ret := some .int) (hh := [(0, 9, 12, 13)]) (by decide) rfl ?_
  intro p e s m args below meth c s₁ B hml hv
  obtain ⟨hargs, hPC, hRO, hTw, hZ⟩ := hv
  obtain ⟨hRC, hK⟩ := id hPC
  have hx := B.exec
  have hb := B.bytes
  have hr := B.returns
  have hts := atoms_spec (ws := .codeWith yL_way cL_way 5 (some .int) [(0, 9, 12, 13)] :: zt) B.pre
  have hown : s.vm.findClass RL = some m.cls := findClass_of_methodNamed B.named
  have hlocks := B.notSynchronized
  have htab := vx_table (x := yL_way) B (hts _ List.mem_cons_self)
  have hS0 : va_S (lA b) s.heap s.heap [] := va_S.rf
  have hl := lv_entry ([.ref (b + 0), .int (iI a0), .int (iI a1), .ref (b + 168 + 0)]) (n := 5) (Nat.le_of_ble_eq_true rfl)
  have hent : entryFrame m args 5 = F0 m 0 ((lg_sl ([.ref (b + 0), .int (iI a0), .int (iI a1), .ref (b + 168 + 0)]) ++ List.replicate (5 - (lg_sl ([.ref (b + 0), .int (iI a0), .int (iI a1), .ref (b + 168 + 0)])).length) Slot.unset).toArray) [] := by rw [hargs]; exact lg_entry_eq m ([.ref (b + 0), .int (iI a0), .int (iI a1), .ref (b + 168 + 0)]) 5
  rw [hent]
  generalize (lg_sl ([.ref (b + 0), .int (iI a0), .int (iI a1), .ref (b + 168 + 0)]) ++ List.replicate (5 - (lg_sl ([.ref (b + 0), .int (iI a0), .int (iI a1), .ref (b + 168 + 0)])).length) Slot.unset).toArray = ls at hl ⊢
  have hl : lv_has ls 5 [(0, .ref (b + 0)), (1, .int (iI a0)), (2, .int (iI a1)), (3, .ref (b + 168 + 0))] := hl
  refine lv_aload_n hx hb dL_way_0 rfl (lv_at hl 3 rfl) ?_
  refine z_iconst hx hb dL_way_1 ?_
  refine lv_aload_n hx hb dL_way_2 rfl (lv_at hl 0 rfl) ?_
  refine lv_iload_n hx hb dL_way_3 rfl (lv_at hl 1 rfl) ?_
  refine lv_iload_n hx hb dL_way_4 rfl (lv_at hl 2 rfl) ?_
  refine vx_calll (vx_runV (As := [.int (iI a0), .int (iI a1)]) (rest := [.int (iI 0), .ref (b + 168 + 0)]) ⟨hx, hb, hml, hown, hts⟩ hM (cwV 2 hts (z_gV k926 k927 k928 k1 k929) rfl rfl rfl dm_X11_way ⟨by show dd + 6 + 1 ≤ dd + 1 + 6; omega, by show 8 + (3 + 11) + 64 * (dd + 6) ≤ 64 * (dd + 1 + 6); omega⟩) ⟨wPreT_blind, w_recv hRC hK.1 (by decide) (zkd_of (rfl : zcd wC 0 = 0) rfl) (by decide) (rfl : vwCl[11]? = some (RX11, TX11, 11)), fun U hU hW => ⟨rfl, (w_pre (As := []) hRC hK U hU hW).2, hTw.warm hW, by rw [hU]; exact (hZ.narrow (fun q h => h.1)).moved hW.alike⟩⟩ rfl rfl hl.1 rfl (lv_room (Nat.le_of_ble_eq_true rfl)) dL_way_5 ⟨Nat.le_refl _, Nat.le_refl _⟩) hS0 (fun q _ h => Or.inl h) (fun q h => Or.inl h) (fun q _ h => Or.inl h) (fun E ce q9 u t H1 locs1 ht hvm hpx hBX hz hk hS1 hce hcv hcl => ?_) (fun r u t H1 locs1 ht hvm hp hB hz hk hS1 => ?_)
  · obtain ⟨rfl, hR1⟩ := hBX
    rw [ht] at hR1
    refine vx_catch (name := "java/util/NoSuchElementException") hown [] ⟨0, 9, 12, 13⟩ [] htab (fun z hz => nomatch hz) rfl (by decide) (hts _ (z_mem k878)) (va_Nw.use rfl hTw.1) hce hcv hcl ?_
    refine lv_astore (lv' := [(4, .ref q9), (0, .ref (b + 0)), (1, .int (iI a0)), (2, .int (iI a1)), (3, .ref (b + 168 + 0))]) hx hb dL_way_12 hl (by decide) rfl (fun ls hl => ?_)
    refine z_iconst hx hb dL_way_14 ?_
    exact W.iret hx hb hr (fun t9 ht9 hW => ⟨⟨iI 1, (MC, MO), rfl, Or.inr ⟨rfl, hpx, rfl, rfl⟩, by rw [show t9.heap = H1 from ht9]; exact hR1, by rw [show t9.heap = H1 from ht9]; exact zR_kept hRO (fun q h1 h2 h3 => hk q h1 (fun z => by have e1 : nC = 134 := rfl; have e2 : nR = 34 := rfl; have := z.2; omega))⟩, hS1.F ht9⟩) hS1.2.2 dL_way_15 hlocks
  · obtain ⟨v, rfl, hv9, hu9, hp1⟩ := hp
    unfold zB at hB
    rw [ht, hu9] at hB
    refine l_lastW (b := b + 168) hx hb hK.1 (t0 := 1) rfl (zR_kept hRO (fun q h1 h2 h3 => hk q h1 (fun z => by have e1 : nC = 134 := rfl; have e2 : nR = 34 := rfl; have := z.2; omega))) hS1 (Or.inr (show b + 168 ≤ b + 168 + 0 by omega)) dL_way_8 (fun H2 locs2 hR2 hk2 hS2 => ?_)
    refine lv_goto (tgt := 16) hx hb dL_way_9 (by decide) ?_
    refine z_iconst hx hb dL_way_16 ?_
    exact W.iret hx hb hr (fun t9 ht9 hW => ⟨⟨iI 0, (MC, zup MO 0 0 v), rfl, Or.inl ⟨rfl, v, hv9, hp1, rfl, rfl⟩, by rw [show t9.heap = H2 from ht9]; exact zR_kept hB (fun q h1 h2 h3 => hk2 q (by have e1 : nC = 134 := rfl; omega)), by rw [show t9.heap = H2 from ht9]; exact hR2⟩, hS2.F ht9⟩) hS2.2.2 dL_way_17 hlocks
set_option maxHeartbeats 4000000 in
set_option maxRecDepth 100000 in
theorem lw_row {l : Launch} {D : va_G} {dA : Nat → ClassId} {b dd : Nat} {MC MO : zM} {a0 : Int} {post : Int → Prop} {P : Prop}
    (hM : vx_Met l yX11_row (.code yX11_row cX11_row 2 (some .int) :: zt) (z_rmT dd) (va_Pc [.ref (b + 0), .int (iI a0)] (wPreT D dA vwCl (z_tys dA) wC nC b MC)) (va_Qi (wQi (fun z9 u9 => u9 = MC ∧ post z9)) (zB D dA vwCl wC nC b) (zA nC b)) (zXC D dA vwCl wC nC b MC P) 1 6 (zA nC b)) :
    Met l yL_row (.codeWith yL_row cL_row 4 (some .int) [(0, 9, 12, 13)] :: zt) (z_rmT (dd + 1)) (va_Pc [.ref (b + 0), .int (iI a0), .ref (b + 168 + 0)] (wPW D dA b MC MO)) (va_Qi (wQW R32 MC MO post P) (zBW D dA b) (lA b)) 1 6 (lA b) := by
  refine l_ofWH (cc := cL_row) (maxL := 4) (ret := some .int) (hh := [(0, 9, 12, 13)]) (by decide) rfl ?_
  intro p e s m args below meth c s₁ B hml hv
  obtain ⟨hargs, hPC, hRO, hTw, hZ⟩ := hv
  obtain ⟨hRC, hK⟩ := id hPC
  have hx := B.exec
  have hb := B.bytes
  have hr := B.returns
  have hts := atoms_spec (ws := .codeWith yL_row cL_row 4 (some .int) [(0, 9, 12, 13)] :: zt) B.pre
  have hown : s.vm.findClass RL = some m.cls := findClass_of_methodNamed B.named
  have hlocks := B.notSynchronized
  have htab := vx_table (x := yL_row) B (hts _ List.mem_cons_self)
  have hS0 : va_S (lA b) s.heap s.heap [] := va_S.rf
  have hl := lv_entry ([.ref (b + 0), .int (iI a0), .ref (b + 168 + 0)]) (n := 4) (Nat.le_of_ble_eq_true rfl)
  have hent : entryFrame m args 4 = F0 m 0 ((lg_sl ([.ref (b + 0), .int (iI a0), .ref (b + 168 + 0)]) ++ List.replicate (4 - (lg_sl ([.ref (b + 0), .int (iI a0), .ref (b + 168 + 0)])).length) Slot.unset).toArray) [] := by rw [hargs]; exact lg_entry_eq m ([.ref (b + 0), .int (iI a0), .ref (b + 168 + 0)]) 4
  rw [hent]
  generalize (lg_sl ([.ref (b + 0), .int (iI a0), .ref (b + 168 + 0)]) ++ List.replicate (4 - (lg_sl ([.ref (b + 0), .int (iI a0), .ref (b + 168 + 0)])).length) Slot.unset).toArray = ls at hl ⊢
  have hl : lv_has ls 4 [(0, .ref (b + 0)), (1, .int (iI a0)), (2, .ref (b + 168 + 0))] := hl
  refine lv_aload_n hx hb dL_row_0 rfl (lv_at hl 2 rfl) ?_
  refine z_iconst hx hb dL_row_1 ?_
  refine lv_aload_n hx hb dL_row_2 rfl (lv_at hl 0 rfl) ?_
  refine lv_iload_n hx hb dL_row_3 rfl (lv_at hl 1 rfl) ?_
  refine vx_calli (vx_runV (As := [.int (iI a0)]) (rest := [.int (iI 0), .ref (b + 168 + 0)]) ⟨hx, hb, hml, hown, hts⟩ hM (cwV 1 hts (z_gV k934 k935 k936 k1 k937) rfl rfl rfl dm_X11_row ⟨by show dd + 6 + 1 ≤ dd + 1 + 6; omega, by show 8 + (2 + 11) + 64 * (dd + 6) ≤ 64 * (dd + 1 + 6); omega⟩) ⟨wPreT_blind, w_recv hRC hK.1 (by decide) (zkd_of (rfl : zcd wC 0 = 0) rfl) (by decide) (rfl : vwCl[11]? = some (RX11, TX11, 11)), fun U hU hW => ⟨rfl, (w_pre (As := []) hRC hK U hU hW).2, hTw.warm hW, by rw [hU]; exact (hZ.narrow (fun q h => h.1)).moved hW.alike⟩⟩ rfl rfl hl.1 rfl (lv_room (Nat.le_of_ble_eq_true rfl)) dL_row_4 ⟨Nat.le_refl _, Nat.le_refl _⟩) hS0 (fun q _ h => Or.inl h) (fun q h => Or.inl h) (fun q _ h => Or.inl h) (fun E ce q9 u t H1 locs1 ht hvm hpx hBX hz hk hS1 hce hcv hcl => ?_) (fun r u t H1 locs1 ht hvm hp hB hz hk hS1 => ?_)
  · obtain ⟨rfl, hR1⟩ := hBX
    rw [ht] at hR1
    refine vx_catch (name := "java/util/NoSuchElementException") hown [] ⟨0, 9, 12, 13⟩ [] htab (fun z hz => nomatch hz) rfl (by decide) (hts _ (z_mem k878)) (va_Nw.use rfl hTw.1) hce hcv hcl ?_
    refine lv_astore_n (lv' := [(3, .ref q9), (0, .ref (b + 0)), (1, .int (iI a0)), (2, .ref (b + 168 + 0))]) hx hb dL_row_12 rfl hl (by decide) rfl (fun ls hl => ?_)
    refine z_iconst hx hb dL_row_13 ?_
    exact W.iret hx hb hr (fun t9 ht9 hW => ⟨⟨iI 1, (MC, MO), rfl, Or.inr ⟨rfl, hpx, rfl, rfl⟩, by rw [show t9.heap = H1 from ht9]; exact hR1, by rw [show t9.heap = H1 from ht9]; exact zR_kept hRO (fun q h1 h2 h3 => hk q h1 (fun z => by have e1 : nC = 134 := rfl; have e2 : nR = 34 := rfl; have := z.2; omega))⟩, hS1.F ht9⟩) hS1.2.2 dL_row_14 hlocks
  · obtain ⟨v, rfl, hv9, hu9, hp1⟩ := hp
    unfold zB at hB
    rw [ht, hu9] at hB
    refine z_i2l hx hb hv9 dL_row_7 ?_
    refine l_lastW (b := b + 168) hx hb hK.1 (t0 := 1) rfl (zR_kept hRO (fun q h1 h2 h3 => hk q h1 (fun z => by have e1 : nC = 134 := rfl; have e2 : nR = 34 := rfl; have := z.2; omega))) hS1 (Or.inr (show b + 168 ≤ b + 168 + 0 by omega)) dL_row_8 (fun H2 locs2 hR2 hk2 hS2 => ?_)
    refine lv_goto (tgt := 15) hx hb dL_row_9 (by decide) ?_
    refine z_iconst hx hb dL_row_15 ?_
    exact W.iret hx hb hr (fun t9 ht9 hW => ⟨⟨iI 0, (MC, zup MO 0 0 v), rfl, Or.inl ⟨rfl, v, hv9, hp1, rfl, rfl⟩, by rw [show t9.heap = H2 from ht9]; exact zR_kept hB (fun q h1 h2 h3 => hk2 q (by have e1 : nC = 134 := rfl; omega)), by rw [show t9.heap = H2 from ht9]; exact hR2⟩, hS2.F ht9⟩) hS2.2.2 dL_row_16 hlocks
