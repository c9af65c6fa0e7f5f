/-! the law's own methods: they call, put down the answer, or catch -/
theorem w_of : Cond.codeWith yL_of cL_of 5 (some .int) [(0, 10, 13, 13)] ∈ zt := zin_5 (List.mem_of_getElem? (i := 61) (by decide +kernel)) rfl
theorem w_way : Cond.codeWith yL_way cL_way 5 (some .int) [(0, 9, 12, 13)] ∈ zt := zin_5 (List.mem_of_getElem? (i := 131) (by decide +kernel)) rfl
theorem w_row : Cond.codeWith yL_row cL_row 4 (some .int) [(0, 9, 12, 13)] ∈ zt := zin_5 (List.mem_of_getElem? (i := 140) (by decide +kernel)) rfl
theorem l_ofWH {l : Launch} {y : MethodName} {ws ws' : List Cond} {rm : Room} {Pc : Array Value → State → Prop} {Qc : Array Value → State → Outcome → State → Prop} {mc ms : Nat} {free : Addr → Prop} {cc : ByteArray} {maxL : Nat} {ret : Option FieldType} {hh : List (Nat × Nat × Nat × Nat)}
    (hy : plainName y.cls = true) (hw : ws = Cond.codeWith y cc maxL ret hh :: ws')
    (body : ∀ p e s m args below meth c s₁, BodyLoose p l y (headSpec ws rm) cc maxL ret e s m args below meth c s₁ → c.maxLocals = maxL → Pc args s →
      W p l e (headSpec ws rm).room s m args below meth c s.heap [] 0 0 (MQ below Qc args s mc ms free) (entryFrame m args maxL)) : Met l y ws rm Pc Qc mc ms free := by
  refine MetFree.of_bodyS (code := cc) (maxLocals := maxL) (ret := ret) hy ?_ ?_
  · intro args s m h hn
    obtain ⟨m9, meth, c, hn9, h1, h2, h3, h4, -, h5, h6, -⟩ := Cond.codeWith_spec (atoms_spec (ws := ws) h _ (by rw [hw]; exact List.mem_cons_self))
    cases hn.symm.trans hn9
    exact ⟨meth, c, h1, h2, h3, h4, h5, h6⟩
  · intro p e s m args below meth c s₁ B hml hP _
    have hh0 : s₁.heap = s.heap := by rw [B.state]; rfl
    obtain ⟨t, a1, o, b1, b2, b3⟩ := body p e s m args below meth c s₁ B hml hP s₁ hh0 (Stand.of_body B)
    exact ⟨t, o, a1, b1, b2, ⟨b3.1, b3.2⟩⟩
section LASTA
variable {p : Program} {l : Launch} {e : Env} {R : Room} {s : State} {m : MethodId} {args : Array Value} {below : List Frame} {meth : Method} {c : Code} {H : Heap} {locs : List Loc} {cells slots : Nat} {Q : State → Prop}
variable {cc : ByteArray} {pc : Nat} {ls : Array Slot} {rest : List Value} {D : va_G} {dA : Nat → ClassId} {cl : List vw_C} {tys : List (ClassId × FieldType)} {H0 : Heap} {b : Nat} {M : zM} {A : Nat → Prop}
/-- a long is put into the row of one -/
theorem l_last (hexec : p.tables.exec = Jvm.exec) (hb : c.code = cc) (hK : va_K D cl tys s) {t0 : Nat} (ht : tys[t0]? = some (dA 1, .long)) (hR : zR D dA cl wO 1 b M H) (hJ : zJ wO M) (hS0 : va_S A H0 H locs) (hA : A (b + 0)) {z : Int} (hz : R64 z) (hdg : decode cc pc = .ok (.lastore, 1))
    (kk : ∀ (H1 : Heap) (locs1 : List Loc), zR D dA cl wO 1 b (zup M 0 0 z) H1 → zJ wO (zup M 0 0 z) → (∀ q : Nat, q ≠ b + 0 → H1[q]? = H[q]?) → va_S A H0 H1 locs1 → W p l e R s m args below meth c H1 locs1 cells slots Q (F0 m (pc + 1) ls rest)) : W p l e R s m args below meth c H locs cells slots Q (F0 m pc ls (.long (iL z) :: .int (iI 0) :: .ref (b + 0) :: rest)) := by
  obtain ⟨v1, v2⟩ := iI_in (z := 0) (n := 1) (by decide) (by decide) (by decide)
  have hP : H[b + 0]? = some (vp_cell (dA 1) (1, .inr (.inl (fun k => iL (M 0 k))))) := hR 0 (by decide)
  rw [vp_cell_l] at hP
  refine W.last hexec hb hP ((hK.2 t0 _ ht).1 1 (fun j3 => .long (iL (M 0 j3)))) (fun q => by cases q) (by show ¬ (iI 0 < 0 ∨ (arrV _ _ _).slots.size ≤ _); rw [arrV_size]; exact v1) rfl rfl hdg fun H1 e1 e2 e3 => ?_
  refine kk H1 _ (fun j hj => ?_) (zJ_up hJ ⟨hz.1, hz.2⟩) e3 (hS0.put e2 e3 hA)
  have h0 : j = 0 := by omega
  subst h0
  show H1[b + 0]? = some (vp_cell (dA 1) (1, .inr (.inl (fun k => iL (zup M 0 0 z 0 k)))))
  rw [e1, vp_cell_l, arrV_store, v2]
  congr 2
  funext q
  by_cases hq : q = 0
  · subst hq
    simp [updV, zup_s]
  · show updV _ (0 : Int).toNat _ q = _
    simp only [updV, show (0 : Int).toNat = 0 from rfl, if_neg hq]
    rw [zup_n]
    exact fun x => hq x.2
end LASTA
/-- what the law's own methods may change: the class's cells, the row of one, new ones -/
def lA (b : Nat) : Nat → Prop := fun q => zA nC b q ∨ b + 168 ≤ q
def zPW (D : va_G) (dA : Nat → ClassId) (b : Nat) (MC MO : zM) : State → Prop := fun U => zP D dA vwCl (z_tys dA) wC nC b MC U ∧ zR D dA vwCl wO 1 (b + 168) MO U.heap ∧ zJ wO MO ∧ zTw U ∧ zZ (yA b) U U.heap
theorem zPW_blind {D : va_G} {dA : Nat → ClassId} {b : Nat} {MC MO : zM} {As : List Value} : FrameBlind (va_Pc As (zPW D dA b MC MO)) := fun a U g mk q => ⟨q.1, (zP_blind a U g mk ⟨q.1, q.2.1⟩).2, q.2.2.1, q.2.2.2.1, zTw.same (u := U) rfl q.2.2.2.2.1, zZ.moved (u := U) (U := U.calling g mk _) (Vm.Alike.refl U.vm) q.2.2.2.2.2⟩
def zBW (D : va_G) (dA : Nat → ClassId) (b : Nat) : zM × zM → State → Prop := fun u t => zR D dA vwCl wC nC b u.1 t.heap ∧ zR D dA vwCl wO 1 (b + 168) u.2 t.heap
def zQW (inr : Int → Prop) (ms : Nat → Nat → Bool) (MC MO : zM) (post : Int → zM → Prop) (P : Prop) : Int32 → zM × zM → Prop := fun r u => zJ wC u.1 ∧ zJ wO u.2 ∧ zF ms MC u.1 ∧ ((r = iI 0 ∧ ∃ v, inr v ∧ post v u.1 ∧ u.2 = zup MO 0 0 v) ∨ (r = iI 1 ∧ P ∧ u.1 = MC ∧ u.2 = MO))
theorem dL_of_0 : decode cL_of 0 = .ok (.aload_n 3, 1) := by decide +kernel
theorem dL_of_1 : decode cL_of 1 = .ok (.iconst 0, 1) := by decide +kernel
theorem dL_of_10 : decode cL_of 10 = .ok (.goto 7, 3) := by decide +kernel
theorem dL_of_13 : decode cL_of 13 = .ok (.astore 4, 2) := by decide +kernel
theorem dL_of_15 : decode cL_of 15 = .ok (.iconst 1, 1) := by decide +kernel
theorem dL_of_16 : decode cL_of 16 = .ok (.ireturn, 1) := by decide +kernel
theorem dL_of_17 : decode cL_of 17 = .ok (.iconst 0, 1) := by decide +kernel
theorem dL_of_18 : decode cL_of 18 = .ok (.ireturn, 1) := by decide +kernel
theorem dL_of_2 : decode cL_of 2 = .ok (.aload_n 0, 1) := by decide +kernel
theorem dL_of_3 : decode cL_of 3 = .ok (.iload_n 1, 1) := by decide +kernel
theorem dL_of_4 : decode cL_of 4 = .ok (.iload_n 2, 1) := by decide +kernel
theorem dL_of_5 : decode cL_of 5 = .ok (.invokevirtual 7, 3) := by decide +kernel
theorem dL_of_8 : decode cL_of 8 = .ok (.i2l, 1) := by decide +kernel
theorem dL_of_9 : decode cL_of 9 = .ok (.lastore, 1) := by decide +kernel
theorem dL_row_0 : decode cL_row 0 = .ok (.aload_n 2, 1) := by decide +kernel
theorem dL_row_1 : decode cL_row 1 = .ok (.iconst 0, 1) := by decide +kernel
theorem dL_row_12 : decode cL_row 12 = .ok (.astore_n 3, 1) := by decide +kernel
theorem dL_row_13 : decode cL_row 13 = .ok (.iconst 1, 1) := by decide +kernel
theorem dL_row_14 : decode cL_row 14 = .ok (.ireturn, 1) := by decide +kernel
theorem dL_row_15 : decode cL_row 15 = .ok (.iconst 0, 1) := by decide +kernel
theorem dL_row_16 : decode cL_row 16 = .ok (.ireturn, 1) := by decide +kernel
theorem dL_row_2 : decode cL_row 2 = .ok (.aload_n 0, 1) := by decide +kernel
theorem dL_row_3 : decode cL_row 3 = .ok (.iload_n 1, 1) := by decide +kernel
theorem dL_row_4 : decode cL_row 4 = .ok (.invokevirtual 19, 3) := by decide +kernel
theorem dL_row_7 : decode cL_row 7 = .ok (.i2l, 1) := by decide +kernel
theorem dL_row_8 : decode cL_row 8 = .ok (.lastore, 1) := by decide +kernel
theorem dL_row_9 : decode cL_row 9 = .ok (.goto 6, 3) := by decide +kernel
theorem dL_way_0 : decode cL_way 0 = .ok (.aload_n 3, 1) := by decide +kernel
theorem dL_way_1 : decode cL_way 1 = .ok (.iconst 0, 1) := by decide +kernel
theorem dL_way_12 : decode cL_way 12 = .ok (.astore 4, 2) := by decide +kernel
theorem dL_way_14 : decode cL_way 14 = .ok (.iconst 1, 1) := by decide +kernel
theorem dL_way_15 : decode cL_way 15 = .ok (.ireturn, 1) := by decide +kernel
theorem dL_way_16 : decode cL_way 16 = .ok (.iconst 0, 1) := by decide +kernel
theorem dL_way_17 : decode cL_way 17 = .ok (.ireturn, 1) := by decide +kernel
theorem dL_way_2 : decode cL_way 2 = .ok (.aload_n 0, 1) := by decide +kernel
theorem dL_way_3 : decode cL_way 3 = .ok (.iload_n 1, 1) := by decide +kernel
theorem dL_way_4 : decode cL_way 4 = .ok (.iload_n 2, 1) := by decide +kernel
theorem dL_way_5 : decode cL_way 5 = .ok (.invokevirtual 15, 3) := by decide +kernel
theorem dL_way_8 : decode cL_way 8 = .ok (.lastore, 1) := by decide +kernel
theorem dL_way_9 : decode cL_way 9 = .ok (.goto 7, 3) := by decide +kernel
theorem dm_X11_of : yX11_of.cls = RX11 ∧ yX11_of.cls ≠ "java/lang/invoke/MethodHandle" ∧ yX11_of.cls ≠ "java/lang/invoke/VarHandle" ∧ (parseMethodDescriptor yX11_of.desc).map (fun d => d.parameters.length) = some 2 := by decide +kernel
theorem dm_X11_way : yX11_way.cls = RX11 ∧ yX11_way.cls ≠ "java/lang/invoke/MethodHandle" ∧ yX11_way.cls ≠ "java/lang/invoke/VarHandle" ∧ (parseMethodDescriptor yX11_way.desc).map (fun d => d.parameters.length) = some 2 := by decide +kernel
theorem dm_X11_row : yX11_row.cls = RX11 ∧ yX11_row.cls ≠ "java/lang/invoke/MethodHandle" ∧ yX11_row.cls ≠ "java/lang/invoke/VarHandle" ∧ (parseMethodDescriptor yX11_row.desc).map (fun d => d.parameters.length) = some 1 := by decide +kernel
set_option maxHeartbeats 4000000 in
set_option maxRecDepth 100000 in
theorem lw_of {l : Launch} {D : va_G} {dA : Nat → ClassId} {b dd : Nat} {MC MO : zM} {a0 a1 : Int} {post : Int → zM → Prop} {ms : Nat → Nat → Bool} {P : Prop}
    (hM : vx_Met l yX11_of (.code yX11_of cX11_of 4 (some .int) :: zt) (z_rmT dd) (va_Pc [.ref (b + 0), .int (iI a0), .int (iI a1)] (zPT D dA vwCl (z_tys dA) wC nC b MC)) (va_Qi (zQi wC ms MC post) (zB D dA vwCl wC nC b) (zA nC b)) (zXC D dA vwCl wC nC b MC P) 1 6 (zA nC b)) :
    Met l yL_of (.codeWith yL_of cL_of 5 (some .int) [(0, 10, 13, 13)] :: zt) (z_rmT (dd + 1)) (va_Pc [.ref (b + 0), .int (iI a0), .int (iI a1), .ref (b + 168 + 0)] (zPW D dA b MC MO)) (va_Qi (zQW R32 ms MC MO post P) (zBW D dA b) (lA b)) 1 6 (lA b) := by
  refine l_ofWH (cc := cL_of) (maxL := 5) (ret := some .int) (hh := [(0, 10, 13, 13)]) (by decide) rfl ?_
  intro p e s m args below meth c s₁ B hml hv
  obtain ⟨hargs, hPC, hRO, hJO, hTw, hZ⟩ := hv
  obtain ⟨hRC, hJC, hK⟩ := id hPC
  have hx := B.exec
  have hb := B.bytes
  have hr := B.returns
  have hts := atoms_spec (ws := .codeWith yL_of cL_of 5 (some .int) [(0, 10, 13, 13)] :: zt) B.pre
  have hown : s.vm.findClass RL = some m.cls := findClass_of_methodNamed B.named
  have hlocks := B.notSynchronized
  have htab := vx_table (x := yL_of) B (hts _ List.mem_cons_self)
  have hS : zS D dA vwCl wC nC b (fun _ _ => false) MC MC s.heap := ⟨hRC, hJC, zF_rf _ _⟩
  have hS0 : va_S (lA b) s.heap s.heap [] := va_S.rf
  have hl := lv_entry ([.ref (b + 0), .int (iI a0), .int (iI a1), .ref (b + 168 + 0)]) (n := 5) (Nat.le_of_ble_eq_true rfl)
  have hent : entryFrame m args 5 = F0 m 0 ((lg_sl ([.ref (b + 0), .int (iI a0), .int (iI a1), .ref (b + 168 + 0)]) ++ List.replicate (5 - (lg_sl ([.ref (b + 0), .int (iI a0), .int (iI a1), .ref (b + 168 + 0)])).length) Slot.unset).toArray) [] := by rw [hargs]; exact lg_entry_eq m ([.ref (b + 0), .int (iI a0), .int (iI a1), .ref (b + 168 + 0)]) 5
  rw [hent]
  generalize (lg_sl ([.ref (b + 0), .int (iI a0), .int (iI a1), .ref (b + 168 + 0)]) ++ List.replicate (5 - (lg_sl ([.ref (b + 0), .int (iI a0), .int (iI a1), .ref (b + 168 + 0)])).length) Slot.unset).toArray = ls at hl ⊢
  have hl : lv_has ls 5 [(0, .ref (b + 0)), (1, .int (iI a0)), (2, .int (iI a1)), (3, .ref (b + 168 + 0))] := hl
  refine lv_aload_n hx hb dL_of_0 rfl (lv_at hl 3 rfl) ?_
  refine z_iconst hx hb dL_of_1 ?_
  refine lv_aload_n hx hb dL_of_2 rfl (lv_at hl 0 rfl) ?_
  refine lv_iload_n hx hb dL_of_3 rfl (lv_at hl 1 rfl) ?_
  refine lv_iload_n hx hb dL_of_4 rfl (lv_at hl 2 rfl) ?_
  refine vx_calli (vx_runV (As := [.int (iI a0), .int (iI a1)]) (rest := [.int (iI 0), .ref (b + 168 + 0)]) ⟨hx, hb, hml, hown, hts⟩ hM (cwV 2 hts (z_gV k879 k880 k881 k1 k882) rfl rfl rfl dm_X11_of ⟨by show dd + 6 + 1 ≤ dd + 1 + 6; omega, by show 8 + (4 + 11) + 64 * (dd + 6) ≤ 64 * (dd + 1 + 6); omega⟩) ⟨zPT_blind, z_recv hS hK.1 (by decide) (zkd_of (rfl : zcd wC 0 = 0) rfl) (by decide) (rfl : vwCl[11]? = some (RX11, TX11, 11)), fun U hU hW => ⟨rfl, (z_pre (As := []) hS hK U hU hW).2, hTw.warm hW, by rw [hU]; exact (hZ.narrow (fun q h => h.1)).moved hW.alike⟩⟩ rfl rfl hl.1 rfl (lv_room (Nat.le_of_ble_eq_true rfl)) dL_of_5 ⟨Nat.le_refl _, Nat.le_refl _⟩) hS0 (fun q _ h => Or.inl h) (fun q h => Or.inl h) (fun q _ h => Or.inl h) (fun E ce q9 u t H1 locs1 ht hvm hpx hBX hz hk hS1 hce hcv hcl => ?_) (fun r u t H1 locs1 ht hvm hp hB hz hk hS1 => ?_)
  · obtain ⟨rfl, hR1⟩ := hBX
    rw [ht] at hR1
    refine vx_catch (name := "java/util/NoSuchElementException") hown [] ⟨0, 10, 13, 13⟩ [] htab (fun z hz => nomatch hz) rfl (by decide) (hts _ (z_mem k878)) (va_Nw.use rfl hTw.1) hce hcv hcl ?_
    refine lv_astore (lv' := [(4, .ref q9), (0, .ref (b + 0)), (1, .int (iI a0)), (2, .int (iI a1)), (3, .ref (b + 168 + 0))]) hx hb dL_of_13 hl (by decide) rfl (fun ls hl => ?_)
    refine z_iconst hx hb dL_of_15 ?_
    exact W.iret hx hb hr (fun t9 ht9 hW => ⟨⟨iI 1, (MC, MO), rfl, ⟨hJC, hJO, zF_rf _ _, Or.inr ⟨rfl, hpx, rfl, rfl⟩⟩, by rw [show t9.heap = H1 from ht9]; exact hR1, by rw [show t9.heap = H1 from ht9]; exact zR_kept hRO (fun q h1 h2 h3 => hk q h1 (fun z => by have e1 : nC = 134 := rfl; have e2 : nR = 34 := rfl; have := z.2; omega))⟩, hS1.F ht9⟩) hS1.2.2 dL_of_16 hlocks
  · obtain ⟨v, rfl, hv9, hJ1, hF1, hp1⟩ := hp
    unfold zB at hB
    rw [ht] at hB
    refine z_i2l hx hb hv9 dL_of_8 ?_
    refine l_last (b := b + 168) hx hb hK.1 (t0 := 1) rfl (zR_kept hRO (fun q h1 h2 h3 => hk q h1 (fun z => by have e1 : nC = 134 := rfl; have e2 : nR = 34 := rfl; have := z.2; omega))) hJO hS1 (Or.inr (show b + 168 ≤ b + 168 + 0 by omega)) (r64of hv9) dL_of_9 (fun H2 locs2 hR2 hJ2 hk2 hS2 => ?_)
    refine lv_goto (tgt := 17) hx hb dL_of_10 (by decide) ?_
    refine z_iconst hx hb dL_of_17 ?_
    exact W.iret hx hb hr (fun t9 ht9 hW => ⟨⟨iI 0, (u, zup MO 0 0 v), rfl, ⟨hJ1, hJ2, hF1, Or.inl ⟨rfl, v, hv9, hp1, rfl⟩⟩, by rw [show t9.heap = H2 from ht9]; exact zR_kept hB (fun q h1 h2 h3 => hk2 q (by have e1 : nC = 134 := rfl; omega)), by rw [show t9.heap = H2 from ht9]; exact hR2⟩, hS2.F ht9⟩) hS2.2.2 dL_of_18 hlocks
set_option maxHeartbeats 4000000 in
set_option maxRecDepth 100000 in
theorem lw_way {l : Launch} {D : va_G} {dA : Nat → ClassId} {b dd : Nat} {MC MO : zM} {a0 a1 : Int} {post : Int → zM → Prop} {ms : Nat → Nat → Bool} {P : Prop}
    (hM : vx_Met l yX11_way (.code yX11_way cX11_way 3 (some .long) :: zt) (z_rmT dd) (va_Pc [.ref (b + 0), .int (iI a0), .int (iI a1)] (zPT D dA vwCl (z_tys dA) wC nC b MC)) (va_Ql (zQl wC ms MC post) (zB D dA vwCl wC nC b) (zA nC b)) (zXC D dA vwCl wC nC b MC P) 1 6 (zA nC b)) :
    Met l yL_way (.codeWith yL_way cL_way 5 (some .int) [(0, 9, 12, 13)] :: zt) (z_rmT (dd + 1)) (va_Pc [.ref (b + 0), .int (iI a0), .int (iI a1), .ref (b + 168 + 0)] (zPW D dA b MC MO)) (va_Qi (zQW R64 ms MC MO post P) (zBW D dA b) (lA b)) 1 6 (lA b) := by
  refine l_ofWH (cc := cL_way) (maxL := 5) (ret := some .int) (hh := [(0, 9, 12, 13)]) (by decide) rfl ?_
  intro p e s m args below meth c s₁ B hml hv
  obtain ⟨hargs, hPC, hRO, hJO, hTw, hZ⟩ := hv
  obtain ⟨hRC, hJC, hK⟩ := id hPC
  have hx := B.exec
  have hb := B.bytes
  have hr := B.returns
  have hts := atoms_spec (ws := .codeWith yL_way cL_way 5 (some .int) [(0, 9, 12, 13)] :: zt) B.pre
  have hown : s.vm.findClass RL = some m.cls := findClass_of_methodNamed B.named
  have hlocks := B.notSynchronized
  have htab := vx_table (x := yL_way) B (hts _ List.mem_cons_self)
  have hS : zS D dA vwCl wC nC b (fun _ _ => false) MC MC s.heap := ⟨hRC, hJC, zF_rf _ _⟩
  have hS0 : va_S (lA b) s.heap s.heap [] := va_S.rf
  have hl := lv_entry ([.ref (b + 0), .int (iI a0), .int (iI a1), .ref (b + 168 + 0)]) (n := 5) (Nat.le_of_ble_eq_true rfl)
  have hent : entryFrame m args 5 = F0 m 0 ((lg_sl ([.ref (b + 0), .int (iI a0), .int (iI a1), .ref (b + 168 + 0)]) ++ List.replicate (5 - (lg_sl ([.ref (b + 0), .int (iI a0), .int (iI a1), .ref (b + 168 + 0)])).length) Slot.unset).toArray) [] := by rw [hargs]; exact lg_entry_eq m ([.ref (b + 0), .int (iI a0), .int (iI a1), .ref (b + 168 + 0)]) 5
  rw [hent]
  generalize (lg_sl ([.ref (b + 0), .int (iI a0), .int (iI a1), .ref (b + 168 + 0)]) ++ List.replicate (5 - (lg_sl ([.ref (b + 0), .int (iI a0), .int (iI a1), .ref (b + 168 + 0)])).length) Slot.unset).toArray = ls at hl ⊢
  have hl : lv_has ls 5 [(0, .ref (b + 0)), (1, .int (iI a0)), (2, .int (iI a1)), (3, .ref (b + 168 + 0))] := hl
  refine lv_aload_n hx hb dL_way_0 rfl (lv_at hl 3 rfl) ?_
  refine z_iconst hx hb dL_way_1 ?_
  refine lv_aload_n hx hb dL_way_2 rfl (lv_at hl 0 rfl) ?_
  refine lv_iload_n hx hb dL_way_3 rfl (lv_at hl 1 rfl) ?_
  refine lv_iload_n hx hb dL_way_4 rfl (lv_at hl 2 rfl) ?_
  refine vx_calll (vx_runV (As := [.int (iI a0), .int (iI a1)]) (rest := [.int (iI 0), .ref (b + 168 + 0)]) ⟨hx, hb, hml, hown, hts⟩ hM (cwV 2 hts (z_gV k926 k927 k928 k1 k929) rfl rfl rfl dm_X11_way ⟨by show dd + 6 + 1 ≤ dd + 1 + 6; omega, by show 8 + (3 + 11) + 64 * (dd + 6) ≤ 64 * (dd + 1 + 6); omega⟩) ⟨zPT_blind, z_recv hS hK.1 (by decide) (zkd_of (rfl : zcd wC 0 = 0) rfl) (by decide) (rfl : vwCl[11]? = some (RX11, TX11, 11)), fun U hU hW => ⟨rfl, (z_pre (As := []) hS hK U hU hW).2, hTw.warm hW, by rw [hU]; exact (hZ.narrow (fun q h => h.1)).moved hW.alike⟩⟩ rfl rfl hl.1 rfl (lv_room (Nat.le_of_ble_eq_true rfl)) dL_way_5 ⟨Nat.le_refl _, Nat.le_refl _⟩) hS0 (fun q _ h => Or.inl h) (fun q h => Or.inl h) (fun q _ h => Or.inl h) (fun E ce q9 u t H1 locs1 ht hvm hpx hBX hz hk hS1 hce hcv hcl => ?_) (fun r u t H1 locs1 ht hvm hp hB hz hk hS1 => ?_)
  · obtain ⟨rfl, hR1⟩ := hBX
    rw [ht] at hR1
    refine vx_catch (name := "java/util/NoSuchElementException") hown [] ⟨0, 9, 12, 13⟩ [] htab (fun z hz => nomatch hz) rfl (by decide) (hts _ (z_mem k878)) (va_Nw.use rfl hTw.1) hce hcv hcl ?_
    refine lv_astore (lv' := [(4, .ref q9), (0, .ref (b + 0)), (1, .int (iI a0)), (2, .int (iI a1)), (3, .ref (b + 168 + 0))]) hx hb dL_way_12 hl (by decide) rfl (fun ls hl => ?_)
    refine z_iconst hx hb dL_way_14 ?_
    exact W.iret hx hb hr (fun t9 ht9 hW => ⟨⟨iI 1, (MC, MO), rfl, ⟨hJC, hJO, zF_rf _ _, Or.inr ⟨rfl, hpx, rfl, rfl⟩⟩, by rw [show t9.heap = H1 from ht9]; exact hR1, by rw [show t9.heap = H1 from ht9]; exact zR_kept hRO (fun q h1 h2 h3 => hk q h1 (fun z => by have e1 : nC = 134 := rfl; have e2 : nR = 34 := rfl; have := z.2; omega))⟩, hS1.F ht9⟩) hS1.2.2 dL_way_15 hlocks
  · obtain ⟨v, rfl, hv9, hJ1, hF1, hp1⟩ := hp
    unfold zB at hB
    rw [ht] at hB
    refine l_last (b := b + 168) hx hb hK.1 (t0 := 1) rfl (zR_kept hRO (fun q h1 h2 h3 => hk q h1 (fun z => by have e1 : nC = 134 := rfl; have e2 : nR = 34 := rfl; have := z.2; omega))) hJO hS1 (Or.inr (show b + 168 ≤ b + 168 + 0 by omega)) hv9 dL_way_8 (fun H2 locs2 hR2 hJ2 hk2 hS2 => ?_)
    refine lv_goto (tgt := 16) hx hb dL_way_9 (by decide) ?_
    refine z_iconst hx hb dL_way_16 ?_
    exact W.iret hx hb hr (fun t9 ht9 hW => ⟨⟨iI 0, (u, zup MO 0 0 v), rfl, ⟨hJ1, hJ2, hF1, Or.inl ⟨rfl, v, hv9, hp1, rfl⟩⟩, by rw [show t9.heap = H2 from ht9]; exact zR_kept hB (fun q h1 h2 h3 => hk2 q (by have e1 : nC = 134 := rfl; omega)), by rw [show t9.heap = H2 from ht9]; exact hR2⟩, hS2.F ht9⟩) hS2.2.2 dL_way_17 hlocks
set_option maxHeartbeats 4000000 in
set_option maxRecDepth 100000 in
theorem lw_row {l : Launch} {D : va_G} {dA : Nat → ClassId} {b dd : Nat} {MC MO : zM} {a0 : Int} {post : Int → zM → Prop} {ms : Nat → Nat → Bool} {P : Prop}
    (hM : vx_Met l yX11_row (.code yX11_row cX11_row 2 (some .int) :: zt) (z_rmT dd) (va_Pc [.ref (b + 0), .int (iI a0)] (zPT D dA vwCl (z_tys dA) wC nC b MC)) (va_Qi (zQi wC ms MC post) (zB D dA vwCl wC nC b) (zA nC b)) (zXC D dA vwCl wC nC b MC P) 1 6 (zA nC b)) :
    Met l yL_row (.codeWith yL_row cL_row 4 (some .int) [(0, 9, 12, 13)] :: zt) (z_rmT (dd + 1)) (va_Pc [.ref (b + 0), .int (iI a0), .ref (b + 168 + 0)] (zPW D dA b MC MO)) (va_Qi (zQW R32 ms MC MO post P) (zBW D dA b) (lA b)) 1 6 (lA b) := by
  refine l_ofWH (cc := cL_row) (maxL := 4) (ret := some .int) (hh := [(0, 9, 12, 13)]) (by decide) rfl ?_
  intro p e s m args below meth c s₁ B hml hv
  obtain ⟨hargs, hPC, hRO, hJO, hTw, hZ⟩ := hv
  obtain ⟨hRC, hJC, hK⟩ := id hPC
  have hx := B.exec
  have hb := B.bytes
  have hr := B.returns
  have hts := atoms_spec (ws := .codeWith yL_row cL_row 4 (some .int) [(0, 9, 12, 13)] :: zt) B.pre
  have hown : s.vm.findClass RL = some m.cls := findClass_of_methodNamed B.named
  have hlocks := B.notSynchronized
  have htab := vx_table (x := yL_row) B (hts _ List.mem_cons_self)
  have hS : zS D dA vwCl wC nC b (fun _ _ => false) MC MC s.heap := ⟨hRC, hJC, zF_rf _ _⟩
  have hS0 : va_S (lA b) s.heap s.heap [] := va_S.rf
  have hl := lv_entry ([.ref (b + 0), .int (iI a0), .ref (b + 168 + 0)]) (n := 4) (Nat.le_of_ble_eq_true rfl)
  have hent : entryFrame m args 4 = F0 m 0 ((lg_sl ([.ref (b + 0), .int (iI a0), .ref (b + 168 + 0)]) ++ List.replicate (4 - (lg_sl ([.ref (b + 0), .int (iI a0), .ref (b + 168 + 0)])).length) Slot.unset).toArray) [] := by rw [hargs]; exact lg_entry_eq m ([.ref (b + 0), .int (iI a0), .ref (b + 168 + 0)]) 4
  rw [hent]
  generalize (lg_sl ([.ref (b + 0), .int (iI a0), .ref (b + 168 + 0)]) ++ List.replicate (4 - (lg_sl ([.ref (b + 0), .int (iI a0), .ref (b + 168 + 0)])).length) Slot.unset).toArray = ls at hl ⊢
  have hl : lv_has ls 4 [(0, .ref (b + 0)), (1, .int (iI a0)), (2, .ref (b + 168 + 0))] := hl
  refine lv_aload_n hx hb dL_row_0 rfl (lv_at hl 2 rfl) ?_
  refine z_iconst hx hb dL_row_1 ?_
  refine lv_aload_n hx hb dL_row_2 rfl (lv_at hl 0 rfl) ?_
  refine lv_iload_n hx hb dL_row_3 rfl (lv_at hl 1 rfl) ?_
  refine vx_calli (vx_runV (As := [.int (iI a0)]) (rest := [.int (iI 0), .ref (b + 168 + 0)]) ⟨hx, hb, hml, hown, hts⟩ hM (cwV 1 hts (z_gV k934 k935 k936 k1 k937) rfl rfl rfl dm_X11_row ⟨by show dd + 6 + 1 ≤ dd + 1 + 6; omega, by show 8 + (2 + 11) + 64 * (dd + 6) ≤ 64 * (dd + 1 + 6); omega⟩) ⟨zPT_blind, z_recv hS hK.1 (by decide) (zkd_of (rfl : zcd wC 0 = 0) rfl) (by decide) (rfl : vwCl[11]? = some (RX11, TX11, 11)), fun U hU hW => ⟨rfl, (z_pre (As := []) hS hK U hU hW).2, hTw.warm hW, by rw [hU]; exact (hZ.narrow (fun q h => h.1)).moved hW.alike⟩⟩ rfl rfl hl.1 rfl (lv_room (Nat.le_of_ble_eq_true rfl)) dL_row_4 ⟨Nat.le_refl _, Nat.le_refl _⟩) hS0 (fun q _ h => Or.inl h) (fun q h => Or.inl h) (fun q _ h => Or.inl h) (fun E ce q9 u t H1 locs1 ht hvm hpx hBX hz hk hS1 hce hcv hcl => ?_) (fun r u t H1 locs1 ht hvm hp hB hz hk hS1 => ?_)
  · obtain ⟨rfl, hR1⟩ := hBX
    rw [ht] at hR1
    refine vx_catch (name := "java/util/NoSuchElementException") hown [] ⟨0, 9, 12, 13⟩ [] htab (fun z hz => nomatch hz) rfl (by decide) (hts _ (z_mem k878)) (va_Nw.use rfl hTw.1) hce hcv hcl ?_
    refine lv_astore_n (lv' := [(3, .ref q9), (0, .ref (b + 0)), (1, .int (iI a0)), (2, .ref (b + 168 + 0))]) hx hb dL_row_12 rfl hl (by decide) rfl (fun ls hl => ?_)
    refine z_iconst hx hb dL_row_13 ?_
    exact W.iret hx hb hr (fun t9 ht9 hW => ⟨⟨iI 1, (MC, MO), rfl, ⟨hJC, hJO, zF_rf _ _, Or.inr ⟨rfl, hpx, rfl, rfl⟩⟩, by rw [show t9.heap = H1 from ht9]; exact hR1, by rw [show t9.heap = H1 from ht9]; exact zR_kept hRO (fun q h1 h2 h3 => hk q h1 (fun z => by have e1 : nC = 134 := rfl; have e2 : nR = 34 := rfl; have := z.2; omega))⟩, hS1.F ht9⟩) hS1.2.2 dL_row_14 hlocks
  · obtain ⟨v, rfl, hv9, hJ1, hF1, hp1⟩ := hp
    unfold zB at hB
    rw [ht] at hB
    refine z_i2l hx hb hv9 dL_row_7 ?_
    refine l_last (b := b + 168) hx hb hK.1 (t0 := 1) rfl (zR_kept hRO (fun q h1 h2 h3 => hk q h1 (fun z => by have e1 : nC = 134 := rfl; have e2 : nR = 34 := rfl; have := z.2; omega))) hJO hS1 (Or.inr (show b + 168 ≤ b + 168 + 0 by omega)) (r64of hv9) dL_row_8 (fun H2 locs2 hR2 hJ2 hk2 hS2 => ?_)
    refine lv_goto (tgt := 15) hx hb dL_row_9 (by decide) ?_
    refine z_iconst hx hb dL_row_15 ?_
    exact W.iret hx hb hr (fun t9 ht9 hW => ⟨⟨iI 0, (u, zup MO 0 0 v), rfl, ⟨hJ1, hJ2, hF1, Or.inl ⟨rfl, v, hv9, hp1, rfl⟩⟩, by rw [show t9.heap = H2 from ht9]; exact zR_kept hB (fun q h1 h2 h3 => hk2 q (by have e1 : nC = 134 := rfl; omega)), by rw [show t9.heap = H2 from ht9]; exact hR2⟩, hS2.F ht9⟩) hS2.2.2 dL_row_16 hlocks
