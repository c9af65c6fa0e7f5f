/-! constructors' contracts: what goes in and out -/
def y_AOA (t : FieldType) (U : State) : Prop := (Cond.arrayOver (.array t)).before #[] U = true
theorem y_AOA.moved {t : FieldType} {u U : State} (hvm : u.vm.Alike U.vm) (h : y_AOA t u) : y_AOA t U := by
  have h' := h
  unfold y_AOA Cond.before Cond.holds at h' ⊢
  simp only [Cond.value, beq_iff_eq] at h' ⊢
  cases hc : u.vm.findClass (FieldType.array t).toString with
  | none => simp [hc] at h'
  | some comp =>
    obtain ⟨comp2, c2, k, g1, g2, g3, g4⟩ := Cond.arrayOver_specA (t := t) h
    have e2 : comp2 = comp := Option.some.inj (g1.symm.trans hc)
    subst e2
    have f1 : U.vm.findClass (FieldType.array t).toString = some comp2 := by rw [hvm.findClass]; exact hc
    rw [f1, Option.bind_some]
    rw [hc, Option.bind_some] at h'
    have hidx : (U.vm.classes.findIdx? fun (x : Class) => match x.kind with | .array component _ => component == comp2 | _ => false) = (u.vm.classes.findIdx? fun (x : Class) => match x.kind with | .array component _ => component == comp2 | _ => false) := by
      have h0 := va_idx_bare U.vm comp2
      have h1 := va_idx_bare u.vm comp2
      have hbe := hvm.bare_eq
      first | rw [hbe] at h1 | rw [← hbe] at h1
      exact h0.symm.trans h1
    obtain ⟨c3, q1, q2⟩ := Option.bind_eq_some_iff.mp h'
    obtain ⟨k3, q3, q4⟩ := Option.map_eq_some_iff.mp q2
    obtain ⟨k', hk', he⟩ := hvm.2.2 _ _ q3
    refine Option.bind_eq_some_iff.mpr ⟨c3, hidx.trans q1, Option.map_eq_some_iff.mpr ⟨k', hk', ?_⟩⟩
    rw [he, ← q4]
    cases k3.kind with
    | array component ty => simp only [hvm.findClass]
    | _ => rfl
def y_O (U : State) : Prop := va_AO "TapeRings$Strip" U ∧ va_AO "TapeRings$Motor" U ∧ va_AO "TapeRings$Ring" U ∧ y_AOA .int U
theorem y_O.moved {u U : State} (hvm : u.vm.Alike U.vm) (h : y_O u) : y_O U := ⟨h.1.moved hvm, h.2.1.moved hvm, h.2.2.1.moved hvm, h.2.2.2.moved hvm⟩
def y_rm (d c s : Nat) : Room := { frames := d, cells := c, slots := s, locals := 64 * d }
def yP (D : va_G) (dA : Nat → ClassId) (cl : List vw_C) (tys : List (ClassId × FieldType)) (w : zW) (n b : Nat) (M : zM) (T : zT) : State → Prop := fun U => yS D dA cl w n b M T U.heap ∧ zKK D cl tys U ∧ y_O U
def yB (D : va_G) (dA : Nat → ClassId) (cl : List vw_C) (w : zW) (n b : Nat) (M : zM) (T : zT) : Unit → State → Prop := fun _ t => yS D dA cl w n b M T t.heap
theorem yP_blind {D : va_G} {dA : Nat → ClassId} {cl : List vw_C} {tys : List (ClassId × FieldType)} {w : zW} {n b : Nat} {M : zM} {T : zT} {As : List Value} : FrameBlind (va_Pc As (yP D dA cl tys w n b M T)) := fun _ U g mk q => ⟨q.1, q.2.1, ⟨va_K.moved (u := U) (U := U.calling g mk _) (Vm.Alike.refl U.vm) q.2.2.1.1, zNst.same (u := U) rfl q.2.2.1.2⟩, y_O.moved (u := U) (U := U.calling g mk _) (Vm.Alike.refl U.vm) q.2.2.2⟩
section ZY
variable {p : Program} {l : Launch} {e : Env} {R : Room} {s : State} {m : MethodId} {args : Array Value} {below : List Frame} {meth : Method} {c : Code} {H : Heap} {locs : List Loc} {cells slots mc ms : Nat} {Q : State → Prop}
variable {cc : ByteArray} {pc : Nat} {ls : Array Slot} {rest st0 : List Value} {D : va_G} {dA : Nat → ClassId} {cl : List vw_C} {tys : List (ClassId × FieldType)} {H0 : Heap} {w : zW} {n n1 b : Nat} {M M1 : zM} {T T1 : zT} {a : Array Value}
theorem y_pre (hY : yS D dA cl w n b M T H) (hK : zKK D cl tys s) (hO : y_O s) {As : List Value} : ∀ U : State, U.heap = H → s.WarmedH U.vm → va_Pc As (yP D dA cl tys w n b M T) As.toArray U := fun _ hU hW => ⟨rfl, by rw [hU]; exact hY, ⟨va_K.moved hW.alike hK.1, zNst.warm hW hK.2⟩, hO.moved hW.alike⟩
theorem y_call (hr : va_Run p l e R s m args below meth c H locs cells slots mc ms (F0 m pc ls st0) rest (va_Qv (fun _ => True) (yB D dA cl w n1 b M1 T1) (yA b) a) (yA b)) (hS0 : va_S (yA b) H0 H locs)
    (kk : ∀ (H1 : Heap) (locs1 : List Loc), yS D dA cl w n1 b M1 T1 H1 → va_S (yA b) H0 H1 locs1 → W p l e R s m args below meth c H1 locs1 (cells + mc) (slots + ms) Q (F0 m (pc + 3) ls rest)) : W p l e R s m args below meth c H locs cells slots Q (F0 m pc ls st0) := by
  refine va_callv hr hS0 (fun q _ h => h) (fun q h => h) (fun u t H1 locs1 ht _ _ hB _ _ hS1 => ?_)
  unfold yB at hB
  rw [ht] at hB
  exact kk H1 locs1 hB hS1
theorem y_ret (hexec : p.tables.exec = Jvm.exec) (hb : c.code = cc) (hr : meth.sig.returnType = none) (hlocks : meth.locks = false) (hY : yS D dA cl w n b M T H) (hS0 : va_S (yA b) s.heap H locs) (hdg : decode cc pc = .ok (.return_, 1)) :
    W p l e R s m args below meth c H locs cells slots (MQ below (va_Qv (fun _ => True) (yB D dA cl w n b M T) (yA b)) args s cells slots (yA b)) (F0 m pc ls []) :=
  W.vret hexec hb hr (fun t ht hW => ⟨⟨(), rfl, trivial, by unfold yB; rw [ht]; exact hY⟩, hS0.F ht⟩) hS0.2.2 hdg hlocks
theorem y_top {x y : Nat} (h : x = y) (kk : W p l e R s m args below meth c H locs cells slots Q (F0 m pc ls (.ref (b + y) :: rest))) : W p l e R s m args below meth c H locs cells slots Q (F0 m pc ls (.ref (b + x) :: rest)) := by subst h; exact kk
/-- new int[N][K]: the outer cell, then the inner ones -/
theorem y_mna (hexec : p.tables.exec = Jvm.exec) (hb : c.code = cc) {own : String} {index N K : Nat} {z1 z2 : Int} (hown : s.vm.findClass own = some m.cls) (hclink : (Cond.classLink own index "[[I").before args s = true) (hover : y_AOA .int s) (harr : (Cond.arrayClass .int).before args s = true) (hf0 : s.vm.findClass "[I" = some (dA 0)) (hf7 : s.vm.findClass "[[I" = some (dA 7)) (hY : yS D dA cl w n b M T H) (hS : va_S (yA b) H0 H locs)
    (hkd : zkd w n = 107) (hln : zln w n = N) (hin : ∀ i, i < N → zkd w (n + 1 + i) = 100 ∧ zln w (n + 1 + i) = K) (h01 : 0 ≤ z1) (h02 : 0 ≤ z2) (hN : z1.toNat = N) (hK : z2.toNat = K) (hN2 : z1 < 2147483648) (hK2 : z2 < 2147483648) (hb1 : N * 4 ≤ 536870912) (hb2 : K * 4 ≤ 536870912) (hb3 : K ≤ 536870912) (hcells : cells + (1 + N) ≤ R.cells) (hslots : slots + (N + N * K) ≤ R.slots) (hdg : decode cc pc = .ok (.multianewarray index 2, 4))
    (kk : ∀ H1 : Heap, yS D dA cl w (n + 1 + N) b M (fun a c => if a = n ∧ c < N then some (n + 1 + c) else T a c) H1 → va_S (yA b) H0 H1 locs → W p l e R s m args below meth c H1 locs (cells + 1 + N) (slots + N + N * K) Q (F0 m (pc + 4) ls (.ref (b + n) :: rest))) : W p l e R s m args below meth c H locs cells slots Q (F0 m pc ls (.int (iI z2) :: .int (iI z1) :: rest)) := by
  have nn : ∀ z : Int, 0 ≤ z → z < 2147483648 → ¬ iI z < 0 ∧ (iI z).toNatClampNeg = z.toNat := by
    intro z g1 g2
    constructor
    · intro q
      have := Int32.lt_iff_toInt_lt.mp q
      rw [iI_t ⟨by omega, by omega⟩] at this
      have h00 : (0 : Int32).toInt = 0 := by decide
      omega
    · show (iI z).toInt.toNat = _
      rw [iI_t ⟨by omega, by omega⟩]
  obtain ⟨a1, a2⟩ := nn z1 h01 hN2
  obtain ⟨a3, a4⟩ := nn z2 h02 hK2
  rw [hN] at a2
  rw [hK] at a4
  intro X hT Xs
  obtain ⟨vm₁, cA, comp, -, fA, fC, -, -, X', step⟩ := Xs.multianewarray2F hexec hown hclink hover harr (g := F0 m pc ls (.int (iI z2) :: .int (iI z1) :: rest)) rfl (by rw [hb]; exact hdg) rfl a1 a3 (by rw [a2]; exact hb1) (by rw [a4]; exact hb2) (by rw [a4]; exact hb3) rfl rfl (by rw [a2]; exact hcells) (by rw [a2, a4]; exact hslots)
  have e0 : comp = dA 0 := Option.some.inj (fC.symm.trans hf0)
  have e7 : cA = dA 7 := Option.some.inj (fA.symm.trans hf7)
  subst e0
  subst e7
  rw [a2, a4] at X' step
  generalize hF : Jvm.Free.Multi.fill (X.setVm vm₁) (dA 7) (dA 0) N K (defaultValue .int) N = F at X' step
  have hTh : (X.setVm vm₁).heap = H := hT
  obtain ⟨f1, f2, -, -⟩ := Jvm.Free.Multi.fill_facts (X.setVm vm₁) (dA 7) (dA 0) N K (defaultValue .int) N
  rw [hF, hTh, hY.1] at f1 f2
  have hold : ∀ x : Nat, x < H.size → F.heap[x]? = H[x]? := fun x hx => by
    have := Jvm.Free.Multi.fill_old (X.setVm vm₁) (dA 7) (dA 0) N K (defaultValue .int) (a := x) (by rw [hTh]; exact hx) N
    rw [hF, hTh] at this
    exact this
  have hrow : ∀ j : Nat, j < N → F.heap[b + n + 1 + j]? = some (vp_cell (dA 0) (K, .inl (fun _ => iI 0))) := fun j hj => by
    have := Jvm.Free.Multi.fill_inner (X.setVm vm₁) (dA 7) (dA 0) N K (defaultValue .int) N j hj
    rw [hF, hTh, hY.1] at this
    rw [this]
    show some (Jvm.Free.Multi.innerC (dA 0) K (defaultValue .int)) = _
    rw [vp_cell_i, ← arrV_new]
    rfl
  have hout : Jvm.Free.Multi.outerC (dA 7) N (b + n) N = vp_cell (dA 7) (N, .inr (.inr (.inr (.inr (fun i => if i < N then some (b + n + 1 + i) else none))))) := by
    rw [vp_cell_q]
    have gen : ∀ i : Nat, Jvm.Free.Multi.outerC (dA 7) N (b + n) i = arrV (dA 7) N (fun j => va_rf (if j < i then some (b + n + 1 + j) else none)) := by
      intro i
      induction i with
      | zero =>
        show ({ cls := dA 7, slots := Array.replicate N .null, vm := .none } : Cell) = _
        rw [arrV_new]
        refine congrArg (arrV (dA 7) N) (funext fun j => ?_)
        simp [va_rf]
      | succ i ih =>
        show (Jvm.Free.Multi.outerC (dA 7) N (b + n) i).setSlot i (.ref (b + n + 1 + i)) = _
        rw [ih, arrV_store]
        refine congrArg (arrV (dA 7) N) (funext fun j => ?_)
        by_cases e : j = i
        · subst e
          simp [updV, va_rf]
        · by_cases h : j < i
          · simp [updV, e, h, Nat.lt_succ_of_lt h]
          · simp [updV, e, h, show ¬ j < i + 1 by omega]
    exact gen N
  rw [hout] at f2
  have hS1 : va_S (yA b) H0 F.heap locs := ⟨Nat.le_trans hS.1 (by rw [f1, hY.1]; omega), fun x h1 h2 => (hold x (Nat.lt_of_lt_of_le h1 hS.1)).trans (hS.2.1 x h1 h2), hS.2.2⟩
  have hY1 : yS D dA cl w (n + 1 + N) b M (fun a c => if a = n ∧ c < N then some (n + 1 + c) else T a c) F.heap := by
    refine ⟨by rw [f1]; omega, fun j hj => ?_, fun j hj => ⟨(hY.2.2.1 j (by omega)).1, fun k => by show (if j = n ∧ k < N then some (n + 1 + k) else T j k) = none; rw [if_neg (by omega)]; exact (hY.2.2.1 j (by omega)).2 k⟩, hY.2.2.2⟩
    by_cases h : j = n
    · subst h
      unfold ycell
      rw [hkd, if_neg (by omega)]
      show F.heap[b + j]? = some (vp_cell (dA (107 - 100)) _)
      unfold yar
      rw [hkd, if_neg (by omega), if_neg (by omega), hln, f2]
      refine congrArg some (congrArg (vp_cell (dA 7)) (Prod.ext rfl (congrArg (fun f => Sum.inr (Sum.inr (Sum.inr (Sum.inr f)))) (funext fun i => ?_))))
      show (if i < N then some (b + j + 1 + i) else none) = Option.map (fun q => b + q) (if j = j ∧ i < N then some (j + 1 + i) else T j i)
      by_cases h9 : i < N
      · rw [if_pos h9, if_pos ⟨rfl, h9⟩]
        show some (b + j + 1 + i) = some (b + (j + 1 + i))
        rw [show b + j + 1 + i = b + (j + 1 + i) by omega]
      · rw [if_neg h9, if_neg (fun q => h9 q.2), (hY.2.2.1 j (Nat.le_refl _)).2 i]
        rfl
    · by_cases h2 : j < n
      · have := (hY.2.1 j h2).kept (H1 := F.heap) (hold _ (by show b + j < H.size; rw [hY.1]; omega))
        show va_at D cl (b + j, ycell dA w b j (M j) (fun c => if j = n ∧ c < N then some (n + 1 + c) else T j c)) F.heap
        rw [show (fun c => if j = n ∧ c < N then some (n + 1 + c) else T j c) = T j from funext fun c => if_neg (fun q => h q.1)]
        exact this
      · obtain ⟨g1, g2⟩ := hin (j - (n + 1)) (by omega)
        rw [show n + 1 + (j - (n + 1)) = j by omega] at g1 g2
        unfold ycell
        rw [g1, if_neg (by omega)]
        show F.heap[b + j]? = some (vp_cell (dA (100 - 100)) _)
        unfold yar
        rw [g1, if_neg (by omega), if_pos (by omega), g2, funext (hY.2.2.1 j (by omega)).1]
        have := hrow (j - (n + 1)) (by omega)
        rw [show b + n + 1 + (j - (n + 1)) = b + j by omega] at this
        exact this
  obtain ⟨t, c1, c2⟩ := kk F.heap hY1 hS1 F rfl X'
  have hz : X.heap.size = b + n := by rw [show X.heap = H from hT, hY.1]
  rw [hz] at step
  exact ⟨t, step t c1, c2⟩
end ZY
