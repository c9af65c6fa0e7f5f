/-! rows of a world that is being made -/
section ZY
variable {p : Program} {l : Launch} {e : Env} {R : Room} {s : State} {m : MethodId} {args : Array Value} {below : List Frame} {meth : Method} {c : Code} {H : Heap} {locs : List Loc} {cells slots : Nat} {Q : State → Prop}
variable {cc : ByteArray} {pc : Nat} {ls : Array Slot} {rest st0 : List Value} {D : va_G} {dA : Nat → ClassId} {cl : List vw_C} {tys : List (ClassId × FieldType)} {H0 : Heap} {w : zW} {n b : Nat} {M : zM} {T : zT}
theorem y_putvF (hexec : p.tables.exec = Jvm.exec) (hb : c.code = cc) {own C : String} {X : u_T} {N ci index j k kind : Nat} {Ts : List Cond} (hts : ∀ w ∈ Ts, w.before args s = true) (hin : ∀ w ∈ u_ws C X N, w ∈ Ts) (ty0 : Nat → FieldType) (hty : ∀ k, k < N → parseFieldDescriptor (X k).2.2.1 = some (ty0 k)) (hnm : ∀ a, a < N → ∀ b, b < N → a ≠ b → (X a).2.1 ≠ (X b).2.1) (hown : s.vm.findClass own = some m.cls) (hK : va_K D cl tys s) (hY : yS D dA cl w n b M T H) (hS0 : va_S (yA b) H0 H locs)
    (hf : zFld cl w ci C X N k kind) (hj : j < n) (hkd : zkd w j = ci) (hlink : (Cond.fieldLink own index (X k).1 (X k).2.1 (X k).2.2.1).before args s = true) (hfin : (X k).2.2.2 = true) (hin2 : meth.name = "<init>") (hdecl : (X k).1 = own) {ty : FieldType} {v : Value} {M1 : zM} {T1 : zT} (hd : parseFieldDescriptor (X k).2.2.1 = some ty) (hnr : narrow ty v = v) (hfit : fits ty v = true) (hz : v = yfv w b j k (M1 j k) (T1 j k)) (hM : ∀ a c, ¬ (a = j ∧ c = k) → M1 a c = M a c) (hT : ∀ a c, ¬ (a = j ∧ c = k) → T1 a c = T a c) (hJ : zJ w M1) (hdg : decode cc pc = .ok (.putfield index, 3))
    (kk : ∀ (H1 : Heap) (locs1 : List Loc), yS D dA cl w n b M1 T1 H1 → va_S (yA b) H0 H1 locs1 → W p l e R s m args below meth c H1 locs1 cells slots Q (F0 m (pc + 3) ls rest)) : W p l e R s m args below meth c H locs cells slots Q (F0 m pc ls (v :: .ref (b + j) :: rest)) := by
  obtain ⟨hc, hci, hn, hk, -⟩ := hf
  subst hkd
  have hap := va_apart (own := own) hts hin ty0 hty hnm hK hc
  have h0 := hY.2.1 j hj
  unfold ycell at h0
  rw [if_pos hci] at h0
  obtain ⟨r, h1, cell, q1, q2, q3, q4⟩ := h0
  have hr : r = (C, X, N) := Option.some.inj (h1.symm.trans hc)
  subst hr
  obtain ⟨hSl, hfc, kC, hkC, hkind⟩ := hK.1 _ _ hc
  obtain ⟨cf, kf, fi, f, hi, hsl⟩ := hSl k hk
  have hlay := hts _ (hin _ (u_in_lay hk))
  unfold u_lay at hlay
  rw [if_pos hfin] at hlay
  have hst := (u_facts hfc hkC (u_lays hts hin hk) hi).1
  have hcf : m.cls = cf := by
    obtain ⟨_, _, c', _, _, _, -, -, hf', -, -, -, hown2, -⟩ := Cond.laysFinal_spec hlay
    have e1 : c' = cf := by have := hi.symm.trans hf'; simp at this; exact this.1.symm
    rw [hdecl] at hown2
    rw [← e1]; exact Option.some.inj (hown.symm.trans hown2)
  have h6 := u_fits hfc hkC hkind (Or.inr hlay) hi hd hnr hfit
  refine W.putFinK hexec hb hown hlink hi hst hcf hin2 (by rw [q2]; exact h6) q1 q3 (by rw [hsl]; exact k2_hasslot (q4 k hk)) rfl rfl hdg fun H' e1 e2 e3 => ?_
  refine kk H' _ ⟨by rw [e2, hY.1], ?_, fun i hi2 => ⟨fun x => by rw [hM i x (by omega)]; exact (hY.2.2.1 i hi2).1 x, fun x => by rw [hT i x (by omega)]; exact (hY.2.2.1 i hi2).2 x⟩, hJ⟩ (hS0.put e2 e3 (Nat.le_add_right _ _))
  intro i hi2
  by_cases hij : i = j
  · subst hij
    unfold ycell
    rw [if_pos hci]
    refine ⟨_, hc, ?_⟩
    rw [hsl] at e1
    refine t_OB.to (V := updV (vp_V (yfs w b i (M i) (T i))) k v) ⟨_, e1, q2, q3, t_set q4 hap hk v⟩ (fun x hx => ?_)
    have hx' : x < znf w (zkd w i) := by rw [hn]; exact hx
    rw [yfs_V hx']
    by_cases hxk : x = k
    · subst hxk
      simp only [updV, if_pos]
      exact hz
    · simp only [updV, if_neg hxk]
      rw [yfs_V hx', hM i x (fun q => hxk q.2), hT i x (fun q => hxk q.2)]
  · have := (hY.2.1 i hi2).kept (H1 := H') (e3 _ (by show b + i ≠ b + j; omega))
    rw [show M1 i = M i from funext fun x => hM i x (fun q => hij q.1), show T1 i = T i from funext fun x => hT i x (fun q => hij q.1)]
    exact this
theorem y_puti (hexec : p.tables.exec = Jvm.exec) (hb : c.code = cc) {own C : String} {X : u_T} {N ci index j k : Nat} {Ts : List Cond} (hts : ∀ w ∈ Ts, w.before args s = true) (hin : ∀ w ∈ u_ws C X N, w ∈ Ts) (ty0 : Nat → FieldType) (hty : ∀ k, k < N → parseFieldDescriptor (X k).2.2.1 = some (ty0 k)) (hnm : ∀ a, a < N → ∀ b, b < N → a ≠ b → (X a).2.1 ≠ (X b).2.1) (hown : s.vm.findClass own = some m.cls) (hK : va_K D cl tys s) (hY : yS D dA cl w n b M T H) (hS0 : va_S (yA b) H0 H locs)
    (hf : zFld cl w ci C X N k 0) (hj : j < n) (hkd : zkd w j = ci) (hlink : zLk s args own index (X k).1 (X k).2.1 (X k).2.2.1) (hfin : (X k).2.2.2 = false) {z : Int} (hd : parseFieldDescriptor (X k).2.2.1 = some .int) (hbd : (zbd w j k).1 ≤ z ∧ z ≤ (zbd w j k).2) (hdg : decode cc pc = .ok (.putfield index, 3))
    (kk : ∀ (H1 : Heap) (locs1 : List Loc), yS D dA cl w n b (zup M j k z) T H1 → va_S (yA b) H0 H1 locs1 → W p l e R s m args below meth c H1 locs1 cells slots Q (F0 m (pc + 3) ls rest)) : W p l e R s m args below meth c H locs cells slots Q (F0 m pc ls (.int (iI z) :: .ref (b + j) :: rest)) := by
  refine y_putv hexec hb hts hin ty0 hty hnm hown hK hY hS0 hf hj hkd hlink hfin (M1 := zup M j k z) (T1 := T) hd rfl rfl ?_ (fun a c h => zup_n _ _ h) (fun _ _ _ => rfl) (zJ_up hY.2.2.2 hbd) hdg kk
  unfold yfv
  rw [hkd, if_pos hf.2.2.2.2, zup_s]
theorem y_putl (hexec : p.tables.exec = Jvm.exec) (hb : c.code = cc) {own C : String} {X : u_T} {N ci index j k : Nat} {Ts : List Cond} (hts : ∀ w ∈ Ts, w.before args s = true) (hin : ∀ w ∈ u_ws C X N, w ∈ Ts) (ty0 : Nat → FieldType) (hty : ∀ k, k < N → parseFieldDescriptor (X k).2.2.1 = some (ty0 k)) (hnm : ∀ a, a < N → ∀ b, b < N → a ≠ b → (X a).2.1 ≠ (X b).2.1) (hown : s.vm.findClass own = some m.cls) (hK : va_K D cl tys s) (hY : yS D dA cl w n b M T H) (hS0 : va_S (yA b) H0 H locs)
    (hf : zFld cl w ci C X N k 1) (hj : j < n) (hkd : zkd w j = ci) (hlink : zLk s args own index (X k).1 (X k).2.1 (X k).2.2.1) (hfin : (X k).2.2.2 = false) {z : Int} (hd : parseFieldDescriptor (X k).2.2.1 = some .long) (hbd : (zbd w j k).1 ≤ z ∧ z ≤ (zbd w j k).2) (hdg : decode cc pc = .ok (.putfield index, 3))
    (kk : ∀ (H1 : Heap) (locs1 : List Loc), yS D dA cl w n b (zup M j k z) T H1 → va_S (yA b) H0 H1 locs1 → W p l e R s m args below meth c H1 locs1 cells slots Q (F0 m (pc + 3) ls rest)) : W p l e R s m args below meth c H locs cells slots Q (F0 m pc ls (.long (iL z) :: .ref (b + j) :: rest)) := by
  refine y_putv hexec hb hts hin ty0 hty hnm hown hK hY hS0 hf hj hkd hlink hfin (M1 := zup M j k z) (T1 := T) hd rfl rfl ?_ (fun a c h => zup_n _ _ h) (fun _ _ _ => rfl) (zJ_up hY.2.2.2 hbd) hdg kk
  unfold yfv
  rw [hkd, if_neg (by rw [hf.2.2.2.2]; decide), if_pos hf.2.2.2.2, zup_s]
theorem y_putr (hexec : p.tables.exec = Jvm.exec) (hb : c.code = cc) {own C : String} {X : u_T} {N ci index j k t : Nat} {Ts : List Cond} (hts : ∀ w ∈ Ts, w.before args s = true) (hin : ∀ w ∈ u_ws C X N, w ∈ Ts) (ty0 : Nat → FieldType) (hty : ∀ k, k < N → parseFieldDescriptor (X k).2.2.1 = some (ty0 k)) (hnm : ∀ a, a < N → ∀ b, b < N → a ≠ b → (X a).2.1 ≠ (X b).2.1) (hown : s.vm.findClass own = some m.cls) (hK : va_K D cl tys s) (hY : yS D dA cl w n b M T H) (hS0 : va_S (yA b) H0 H locs)
    (hf : zFld cl w ci C X N k 2) (hj : j < n) (hkd : zkd w j = ci) (hlink : zLk s args own index (X k).1 (X k).2.1 (X k).2.2.1) (hfin : (X k).2.2.2 = false) {ty : FieldType} (hd : parseFieldDescriptor (X k).2.2.1 = some ty) (hnr : ∀ q, narrow ty (.ref q) = .ref q) (hfit : ∀ q, fits ty (.ref q) = true) (hdg : decode cc pc = .ok (.putfield index, 3))
    (kk : ∀ (H1 : Heap) (locs1 : List Loc), yS D dA cl w n b M (tup T j k t) H1 → va_S (yA b) H0 H1 locs1 → W p l e R s m args below meth c H1 locs1 cells slots Q (F0 m (pc + 3) ls rest)) : W p l e R s m args below meth c H locs cells slots Q (F0 m pc ls (.ref (b + t) :: .ref (b + j) :: rest)) := by
  refine y_putv hexec hb hts hin ty0 hty hnm hown hK hY hS0 hf hj hkd hlink hfin (M1 := M) (T1 := tup T j k t) hd (hnr _) (hfit _) ?_ (fun _ _ _ => rfl) (fun a c h => tup_n h) hY.2.2.2 hdg kk
  unfold yfv
  rw [hkd, if_neg (by rw [hf.2.2.2.2]; decide), if_neg (by rw [hf.2.2.2.2]; decide), tup_s]
  rfl
theorem y_putrF (hexec : p.tables.exec = Jvm.exec) (hb : c.code = cc) {own C : String} {X : u_T} {N ci index j k t : Nat} {Ts : List Cond} (hts : ∀ w ∈ Ts, w.before args s = true) (hin : ∀ w ∈ u_ws C X N, w ∈ Ts) (ty0 : Nat → FieldType) (hty : ∀ k, k < N → parseFieldDescriptor (X k).2.2.1 = some (ty0 k)) (hnm : ∀ a, a < N → ∀ b, b < N → a ≠ b → (X a).2.1 ≠ (X b).2.1) (hown : s.vm.findClass own = some m.cls) (hK : va_K D cl tys s) (hY : yS D dA cl w n b M T H) (hS0 : va_S (yA b) H0 H locs)
    (hf : zFld cl w ci C X N k 2) (hj : j < n) (hkd : zkd w j = ci) (hlink : (Cond.fieldLink own index (X k).1 (X k).2.1 (X k).2.2.1).before args s = true) (hfin : (X k).2.2.2 = true) (hin2 : meth.name = "<init>") (hdecl : (X k).1 = own) {ty : FieldType} (hd : parseFieldDescriptor (X k).2.2.1 = some ty) (hnr : ∀ q, narrow ty (.ref q) = .ref q) (hfit : ∀ q, fits ty (.ref q) = true) (hdg : decode cc pc = .ok (.putfield index, 3))
    (kk : ∀ (H1 : Heap) (locs1 : List Loc), yS D dA cl w n b M (tup T j k t) H1 → va_S (yA b) H0 H1 locs1 → W p l e R s m args below meth c H1 locs1 cells slots Q (F0 m (pc + 3) ls rest)) : W p l e R s m args below meth c H locs cells slots Q (F0 m pc ls (.ref (b + t) :: .ref (b + j) :: rest)) := by
  refine y_putvF hexec hb hts hin ty0 hty hnm hown hK hY hS0 hf hj hkd hlink hfin hin2 hdecl (M1 := M) (T1 := tup T j k t) hd (hnr _) (hfit _) ?_ (fun _ _ _ => rfl) (fun a c h => tup_n h) hY.2.2.2 hdg kk
  unfold yfv
  rw [hkd, if_neg (by rw [hf.2.2.2.2]; decide), if_neg (by rw [hf.2.2.2.2]; decide), tup_s]
  rfl
/-- a reference is read -/
theorem y_getr (hexec : p.tables.exec = Jvm.exec) (hb : c.code = cc) {own C : String} {X : u_T} {N ci index j k t : Nat} {Ts : List Cond} (hts : ∀ w ∈ Ts, w.before args s = true) (hin : ∀ w ∈ u_ws C X N, w ∈ Ts) (hown : s.vm.findClass own = some m.cls) (hK : va_K D cl tys s) (hY : yS D dA cl w n b M T H)
    (hf : zFld cl w ci C X N k 2) (hj : j < n) (hkd : zkd w j = ci) (ht : T j k = some t) (hlink : zLk s args own index (X k).1 (X k).2.1 (X k).2.2.1) (hdg : decode cc pc = .ok (.getfield index, 3))
    (kk : W p l e R s m args below meth c H locs cells slots Q (F0 m (pc + 3) ls (.ref (b + t) :: rest))) : W p l e R s m args below meth c H locs cells slots Q (F0 m pc ls (.ref (b + j) :: rest)) := by
  obtain ⟨hc, hci, hn, hk, hfk⟩ := hf
  subst hkd
  have hP : va_P D cl [(b + j, .inr (zkd w j, yfs w b j (M j) (T j)))] H := by
    intro i q hq
    have hi : i = 0 := by
      have := (List.getElem?_eq_some_iff.mp hq).1
      simp at this
      exact this
    subst hi
    cases hq
    have h := hY.2.1 j hj
    unfold ycell at h
    rw [if_pos hci] at h
    exact h
  have hv : (yfs w b j (M j) (T j))[k]? = some (.ref (b + t)) := by
    rw [yfs_at (by rw [hn]; exact hk)]
    unfold yfv
    rw [if_neg (by rw [hfk]; decide), if_neg (by rw [hfk]; decide), ht]
    rfl
  rcases hlink with hl | ⟨host, hl⟩
  · exact va_get hexec hb hts hin hown hK hP 0 rfl hc k hk hl (fun _ h => h) hv hdg kk
  · exact va_getN hexec hb hts hin hown hK hP 0 rfl hc k hk hl (fun _ h => h) hv hdg kk
theorem y_arr {j : Nat} (hY : yS D dA cl w n b M T H) (hj : j < n) (hkd : 100 ≤ zkd w j) : H[b + j]? = some (vp_cell (dA (zkd w j - 100)) (yar w b j (M j) (T j))) := by
  have h := hY.2.1 j hj
  unfold ycell at h
  rw [if_neg (by omega)] at h
  exact h
theorem y_iast (hexec : p.tables.exec = Jvm.exec) (hb : c.code = cc) (hK : va_K D cl tys s) {t0 : Nat} (ht : tys[t0]? = some (dA 0, .int)) (hY : yS D dA cl w n b M T H) (hS0 : va_S (yA b) H0 H locs) {j N : Nat} (hj : j < n) (hkd : zkd w j = 100) (hln : zln w j = N) {i z : Int} (h0 : 0 ≤ i) (h1 : i < N) (hn : N < 2147483648) (hbd : (zbd w j i.toNat).1 ≤ z ∧ z ≤ (zbd w j i.toNat).2) (hdg : decode cc pc = .ok (.iastore, 1))
    (kk : ∀ (H1 : Heap) (locs1 : List Loc), yS D dA cl w n b (zup M j i.toNat z) T H1 → va_S (yA b) H0 H1 locs1 → W p l e R s m args below meth c H1 locs1 cells slots Q (F0 m (pc + 1) ls rest)) : W p l e R s m args below meth c H locs cells slots Q (F0 m pc ls (.int (iI z) :: .int (iI i) :: .ref (b + j) :: rest)) := by
  obtain ⟨v1, v2⟩ := iI_in h0 h1 hn
  have hP := y_arr hY hj (by omega)
  rw [hkd] at hP
  unfold yar at hP
  rw [if_neg (by omega), if_pos (by omega), hln] at hP
  refine W.iast hexec hb hP ((hK.2 t0 _ ht).1 N (fun j3 => .int (iI (M j j3)))) (fun q => by cases q) (by show ¬ (iI i < 0 ∨ (arrV _ _ _).slots.size ≤ _); rw [arrV_size]; exact v1) rfl rfl hdg fun H1 e1 e2 e3 => ?_
  refine kk H1 _ ⟨by rw [e2, hY.1], ?_, fun a ha => ⟨fun x => by rw [zup_row M z (by omega)]; exact (hY.2.2.1 a ha).1 x, (hY.2.2.1 a ha).2⟩, zJ_up hY.2.2.2 hbd⟩ (hS0.put e2 e3 (Nat.le_add_right _ _))
  intro i2 hi2
  by_cases hij : i2 = j
  · subst hij
    unfold ycell
    rw [if_neg (by omega)]
    show H1[b + i2]? = some (vp_cell _ _)
    rw [e1]
    unfold yar
    rw [if_neg (by omega), if_pos (by omega), hln, hkd, vp_cell_i, vp_cell_i, arrV_store, v2]
    congr 2
    funext q
    by_cases hq : q = i.toNat
    · subst hq
      simp [updV, zup_s]
    · simp only [updV, if_neg hq]
      rw [zup_n]
      exact fun h => hq h.2
  · have := (hY.2.1 i2 hi2).kept (H1 := H1) (e3 _ (by show b + i2 ≠ b + j; omega))
    rw [zup_row M z hij]
    exact this
theorem y_aast (hexec : p.tables.exec = Jvm.exec) (hb : c.code = cc) (hK : va_K D cl tys s) {C : String} {X : u_T} {Nf t0 cv : Nat} (ht4 : 4 ≤ t0) (hra : va_RA s (dA t0) (.object C)) (hc : cl[cv]? = some (C, X, Nf)) (hcv : cv < 100) (hY : yS D dA cl w n b M T H) (hS0 : va_S (yA b) H0 H locs) {j t N : Nat} (hj : j < n) (hkd : zkd w j = 100 + t0) (hln : zln w j = N) (ht : t < n) (hkt : zkd w t = cv) {i : Int} (h0 : 0 ≤ i) (h1 : i < N) (hn : N < 2147483648) (hdg : decode cc pc = .ok (.aastore, 1))
    (kk : ∀ (H1 : Heap) (locs1 : List Loc), yS D dA cl w n b M (tup T j i.toNat t) H1 → va_S (yA b) H0 H1 locs1 → W p l e R s m args below meth c H1 locs1 cells slots Q (F0 m (pc + 1) ls rest)) : W p l e R s m args below meth c H locs cells slots Q (F0 m pc ls (.ref (b + t) :: .int (iI i) :: .ref (b + j) :: rest)) := by
  obtain ⟨v1, v2⟩ := iI_in h0 h1 hn
  have hP := y_arr hY hj (by omega)
  rw [hkd, show 100 + t0 - 100 = t0 by omega] at hP
  unfold yar at hP
  rw [if_neg (by omega), if_neg (by omega), hln] at hP
  have hv := hY.2.1 t ht
  unfold ycell at hv
  rw [hkt, if_pos hcv] at hv
  obtain ⟨r', hr', cellV, g1, g2, g3, -⟩ := hv
  have hcls := (hK.1 cv _ hc).2
  obtain ⟨kA, comp, k1, k2, k3, -⟩ := hra
  have hcomp : comp = D.1 cv := Option.some.inj (k3.symm.trans hcls.1)
  subst hcomp
  obtain ⟨kC, hkC, -⟩ := hcls.2
  have hlt : (iI i).toNatClampNeg < N := by rw [v2]; omega
  refine W.aast hexec hb hP (fun q h => by cases h) (fun h => by cases h) k1 k2 rfl hkC ⟨fun q => v1 (Or.inl q), by show _ < (arrV _ _ _).slots.size; rw [arrV_size]; exact hlt⟩ g1 (fun q h => by rw [g3] at h; cases h) (by rw [g2]; exact hkC) (by rw [g2]; exact va_assign hcls) rfl rfl hdg fun H1 e1 e2 e3 => ?_
  refine kk H1 _ ⟨by rw [e2, hY.1], ?_, fun a ha => ⟨(hY.2.2.1 a ha).1, fun x => by rw [tup_row (by omega)]; exact (hY.2.2.1 a ha).2 x⟩, hY.2.2.2⟩ (hS0.put e2 e3 (Nat.le_add_right _ _))
  intro i2 hi2
  by_cases hij : i2 = j
  · subst hij
    unfold ycell
    rw [if_neg (by omega)]
    show H1[b + i2]? = some (vp_cell _ _)
    rw [e1]
    unfold yar
    rw [if_neg (by omega), if_neg (by omega), hln, hkd, show 100 + t0 - 100 = t0 by omega, vp_cell_q, vp_cell_q, arrV_store, v2]
    congr 2
    funext q
    by_cases hq : q = i.toNat
    · subst hq
      simp [updV, tup_s, va_rf]
    · simp only [updV, if_neg hq]
      rw [tup_n (fun h => hq h.2)]
  · have := (hY.2.1 i2 hi2).kept (H1 := H1) (e3 _ (by show b + i2 ≠ b + j; omega))
    rw [tup_row hij]
    exact this
end ZY
