/-! ends, calls that answer a reference, the words of a call, switches -/
theorem r32b {z lo hi : Int} (h : lo ≤ z ∧ z ≤ hi) (h1 : -2147483648 ≤ lo) (h2 : hi ≤ 2147483647) : R32 z := ⟨by omega, by omega⟩
theorem r64b {z lo hi : Int} (h : lo ≤ z ∧ z ≤ hi) (h1 : -9223372036854775808 ≤ lo) (h2 : hi ≤ 9223372036854775807) : R64 z := ⟨by omega, by omega⟩
theorem r64of {z : Int} (h : R32 z) : R64 z := ⟨by omega, by omega⟩
def z_rm (d : Nat) : Room := { frames := d, cells := 0, slots := 0, locals := 64 * d }
def zQq (w : zW) (ms : Nat → Nat → Bool) (M : zM) (post : Option Nat → zM → Prop) : Option Nat → zM → Prop := fun r u => zJ w u ∧ zF ms M u ∧ post r u
theorem z_mem {c1 w : Cond} (h : w ∈ zt) : w ∈ c1 :: zt := List.mem_cons_of_mem _ h
theorem z_memU {c1 : Cond} {L : List Cond} (h : ∀ w ∈ L, w ∈ zt) : ∀ w ∈ L, w ∈ c1 :: zt := fun w hw => List.mem_cons_of_mem _ (h w hw)
theorem z_memL {L : List Cond} (h : ∀ w ∈ L, w ∈ zt) : ∀ w ∈ L, w ∈ lw_tbl := fun w hw => zt_in w (h w hw)
theorem z_gd {c1 w : Cond} (h : w ∈ zt) : w ∈ c1 :: zt ∧ ((w.onTables && w.keeps) = true ∨ ∃ ty, w = .arrayClass ty) := ⟨List.mem_cons_of_mem _ h, good_of_word (zt_good w h)⟩
theorem z_gV {c1 cd : Cond} {own C : String} {idx : Nat} {y : MethodName} (h1 : Cond.methodLink own idx y ∈ zt) (h2 : Cond.instanceMethod y ∈ zt) (h3 : Cond.selects C y y ∈ zt) (h4 : Cond.initialized C ∈ zt) (h5 : cd ∈ zt) : GoodIn (c1 :: zt) (wsV own idx C y (cd :: zt)) := by
  intro w hw
  unfold wsV at hw
  simp only [List.cons_append, List.nil_append, List.mem_cons] at hw
  rcases hw with rfl | rfl | rfl | rfl | rfl | h
  · exact z_gd h1
  · exact z_gd h2
  · exact z_gd h3
  · exact z_gd h4
  · exact z_gd h5
  · exact z_gd h
theorem z_gS {c1 cd : Cond} {own : String} {idx : Nat} {y : MethodName} (h1 : Cond.methodLink own idx y ∈ zt) (h2 : Cond.static y ∈ zt) (h4 : Cond.initialized y.cls ∈ zt) (h5 : cd ∈ zt) : GoodIn (c1 :: zt) (va_wsS own idx y (cd :: zt)) := by
  intro w hw
  unfold va_wsS at hw
  simp only [List.cons_append, List.nil_append, List.mem_cons] at hw
  rcases hw with rfl | rfl | rfl | rfl | h
  · exact z_gd h1
  · exact z_gd h2
  · exact z_gd h4
  · exact z_gd h5
  · exact z_gd h
theorem z_gN {c1 cd : Cond} (h5 : cd ∈ zt) : GoodIn (c1 :: zt) (cd :: zt) := by
  intro w hw
  rcases List.mem_cons.mp hw with rfl | h
  · exact z_gd h5
  · exact z_gd h
theorem z_gL {ws : List Cond} {c1 : Cond} (h1 : c1 ∈ zt) (h : GoodIn (c1 :: zt) ws) : GoodIn lw_tbl ws := fun w hw => ⟨by
  rcases List.mem_cons.mp (h w hw).1 with e | e
  · rw [e]; exact zt_in _ h1
  · exact zt_in _ e, (h w hw).2⟩
section ZE
variable {p : Program} {l : Launch} {e : Env} {R : Room} {s : State} {m : MethodId} {args : Array Value} {below : List Frame} {meth : Method} {c : Code} {H : Heap} {locs : List Loc} {cells slots : Nat} {Q : State → Prop}
variable {cc : ByteArray} {pc : Nat} {ls : Array Slot} {rest st0 : List Value} {D : va_G} {dA : Nat → ClassId} {cl : List vw_C} {tys : List (ClassId × FieldType)} {H0 : Heap} {w : zW} {N b : Nat} {ms msC : Nat → Nat → Bool} {M M0 M1 : zM} {a : Array Value}
theorem z_iret {post : Int → zM → Prop} (hexec : p.tables.exec = Jvm.exec) (hb : c.code = cc) (hr : meth.sig.returnType = some .int) (hlocks : meth.locks = false) (hS : zS D dA cl w N b ms M M1 H) (hS0 : va_S (zA N b) s.heap H locs) {z : Int} (hz : R32 z) (hp : post z M1) (hdg : decode cc pc = .ok (.ireturn, 1)) :
    W p l e R s m args below meth c H locs cells slots (MQ below (va_Qi (zQi w ms M post) (zB D dA cl w N b) (zA N b)) args s cells slots (zA N b)) (F0 m pc ls [.int (iI z)]) :=
  W.iret hexec hb hr (fun t ht hW => ⟨⟨iI z, M1, rfl, ⟨z, rfl, hz, hS.2.1, hS.2.2, hp⟩, by unfold zB; rw [ht]; exact hS.1⟩, hS0.F ht⟩) hS0.2.2 hdg hlocks
theorem z_zret {post : Int → zM → Prop} (hexec : p.tables.exec = Jvm.exec) (hb : c.code = cc) (hr : meth.sig.returnType = some .boolean) (hlocks : meth.locks = false) (hS : zS D dA cl w N b ms M M1 H) (hS0 : va_S (zA N b) s.heap H locs) {z : Int} (hz : z = 0 ∨ z = 1) (hp : post z M1) (hdg : decode cc pc = .ok (.ireturn, 1)) :
    W p l e R s m args below meth c H locs cells slots (MQ below (va_Qi (zQi w ms M post) (zB D dA cl w N b) (zA N b)) args s cells slots (zA N b)) (F0 m pc ls [.int (iI z)]) :=
  W.zret hexec hb hr (by rcases hz with rfl | rfl <;> rfl) (fun t ht hW => ⟨⟨iI z, M1, rfl, ⟨z, rfl, by rcases hz with rfl | rfl <;> decide, hS.2.1, hS.2.2, hp⟩, by unfold zB; rw [ht]; exact hS.1⟩, hS0.F ht⟩) hS0.2.2 hdg hlocks
theorem z_lret {post : Int → zM → Prop} (hexec : p.tables.exec = Jvm.exec) (hb : c.code = cc) (hr : meth.sig.returnType = some .long) (hlocks : meth.locks = false) (hS : zS D dA cl w N b ms M M1 H) (hS0 : va_S (zA N b) s.heap H locs) {z : Int} (hz : R64 z) (hp : post z M1) (hdg : decode cc pc = .ok (.lreturn, 1)) :
    W p l e R s m args below meth c H locs cells slots (MQ below (va_Ql (zQl w ms M post) (zB D dA cl w N b) (zA N b)) args s cells slots (zA N b)) (F0 m pc ls [.long (iL z)]) :=
  W.lret hexec hb hr (fun t ht hW => ⟨⟨iL z, M1, rfl, ⟨z, rfl, hz, hS.2.1, hS.2.2, hp⟩, by unfold zB; rw [ht]; exact hS.1⟩, hS0.F ht⟩) hS0.2.2 hdg hlocks
theorem z_vret {post : zM → Prop} (hexec : p.tables.exec = Jvm.exec) (hb : c.code = cc) (hr : meth.sig.returnType = none) (hlocks : meth.locks = false) (hS : zS D dA cl w N b ms M M1 H) (hS0 : va_S (zA N b) s.heap H locs) (hp : post M1) (hdg : decode cc pc = .ok (.return_, 1)) :
    W p l e R s m args below meth c H locs cells slots (MQ below (va_Qv (zQv w ms M post) (zB D dA cl w N b) (zA N b)) args s cells slots (zA N b)) (F0 m pc ls []) :=
  W.vret hexec hb hr (fun t ht hW => ⟨⟨M1, rfl, ⟨hS.2.1, hS.2.2, hp⟩, by unfold zB; rw [ht]; exact hS.1⟩, hS0.F ht⟩) hS0.2.2 hdg hlocks
theorem z_aret {post : Option Nat → zM → Prop} {rt : FieldType} (hexec : p.tables.exec = Jvm.exec) (hb : c.code = cc) (hr : meth.sig.returnType = some rt) (hrt : (∃ n, rt = .object n) ∨ ∃ t, rt = .array t) (hlocks : meth.locks = false) (hS : zS D dA cl w N b ms M M1 H) (hS0 : va_S (zA N b) s.heap H locs) {v : Value} {r : Option Nat} (hv : v = va_rf r) (hp : post r M1) (hdg : decode cc pc = .ok (.areturn, 1)) :
    W p l e R s m args below meth c H locs cells slots (MQ below (va_Qq (zQq w ms M post) (zB D dA cl w N b) (zA N b)) args s cells slots (zA N b)) (F0 m pc ls [v]) := by
  subst hv
  refine W.aret hexec hb hr hrt ?_ (fun t ht hW => ⟨⟨r, M1, rfl, ⟨hS.2.1, hS.2.2, hp⟩, by unfold zB; rw [ht]; exact hS.1⟩, hS0.F ht⟩) hS0.2.2 hdg hlocks
  cases r with
  | none => exact Or.inl rfl
  | some q => exact Or.inr ⟨q, rfl⟩
theorem z_callq {post : Option Nat → zM → Prop} (hr : va_Run p l e R s m args below meth c H locs cells slots 0 0 (F0 m pc ls st0) rest (va_Qq (zQq w msC M post) (zB D dA cl w N b) (zA N b) a) (zA N b)) (hS : zS D dA cl w N b ms M0 M H) (hS0 : va_S (zA N b) H0 H locs) (hms : ∀ j k, ms j k = false → msC j k = false)
    (kk : ∀ (r : Option Nat) (M1 : zM) (H1 : Heap) (locs1 : List Loc), post r M1 → zF msC M M1 → zS D dA cl w N b ms M0 M1 H1 → va_S (zA N b) H0 H1 locs1 → W p l e R s m args below meth c H1 locs1 cells slots Q (F0 m (pc + 3) ls (va_rf r :: rest))) : W p l e R s m args below meth c H locs cells slots Q (F0 m pc ls st0) := by
  refine va_callq hr hS0 (fun q _ h => h) (fun q h => h) (fun r u t H1 locs1 ht _ hp hB _ _ hS1 => ?_)
  obtain ⟨hJ, hF, hp⟩ := hp
  unfold zB at hB
  rw [ht] at hB
  exact kk r u H1 locs1 hp hF ⟨hB, hJ, zF_tr hS.2.2 (zF_mono hF hms)⟩ hS1
theorem z_tabOut (hexec : p.tables.exec = Jvm.exec) (hb : c.code = cc) {dflt lo hi : Int} {offs : Array Int} {len : Nat} {x : Int} {tgt : Nat} (hx : R32 x) (hdg : decode cc pc = .ok (.tableswitch dflt lo hi offs, len)) (h : x < lo ∨ hi < x) (ht : (pc : Int) + dflt = (tgt : Int))
    (k : W p l e R s m args below meth c H locs cells slots Q (F0 m tgt ls rest)) : W p l e R s m args below meth c H locs cells slots Q (F0 m pc ls (.int (iI x) :: rest)) :=
  lv_tableOut hexec hb hdg (by rw [iI_t hx]; exact h) ht k
theorem z_tabIn (hexec : p.tables.exec = Jvm.exec) (hb : c.code = cc) {dflt lo hi : Int} {offs : Array Int} {len : Nat} {x y : Int} {off : Int} {tgt : Nat} (hx : R32 x) (hxy : x = y) (hdg : decode cc pc = .ok (.tableswitch dflt lo hi offs, len)) (h1 : lo ≤ y) (h2 : y ≤ hi) (ho : offs[(y - lo).toNat]? = some off) (ht : (pc : Int) + off = (tgt : Int))
    (k : W p l e R s m args below meth c H locs cells slots Q (F0 m tgt ls rest)) : W p l e R s m args below meth c H locs cells slots Q (F0 m pc ls (.int (iI x) :: rest)) := by
  subst hxy
  exact lv_tableIn hexec hb hdg (by rw [iI_t hx]; omega) (by rw [iI_t hx]; omega) (by rw [iI_t hx]; exact ho) ht k
theorem z_lookup (hexec : p.tables.exec = Jvm.exec) (hb : c.code = cc) {dflt : Int} {ps : Array (Int × Int)} {len : Nat} {x : Int} {off : Int} {tgt : Nat} (hx : R32 x) (hdg : decode cc pc = .ok (.lookupswitch dflt ps, len)) (hp : (ps.toList.zip (ps.toList.drop 1)).all (fun (a, next) => a.1 < next.1) = true) (ho : Op.lookupswitch.offset ps.toList dflt x = off) (ht : (pc : Int) + off = (tgt : Int))
    (k : W p l e R s m args below meth c H locs cells slots Q (F0 m tgt ls rest)) : W p l e R s m args below meth c H locs cells slots Q (F0 m pc ls (.int (iI x) :: rest)) :=
  lv_lookup hexec hb hdg hp (by rw [iI_t hx]; exact ho) ht k
end ZE
/-! Math, bytes, copies, masks -/
theorem zand_r {x c z : Int} (hc : 0 ≤ c) (hc2 : c ≤ 2147483647) (hz : R32 z) (e : iI z = iI x &&& iI c) : 0 ≤ z ∧ z ≤ c := by
  have h1 : (iI z).toBitVec = (iI x).toBitVec &&& (iI c).toBitVec := by rw [e]; rfl
  have h2 : (iI c).toBitVec.toNat = c.toNat := by
    have ht : (iI c).toInt = c := iI_t ⟨by omega, hc2⟩
    have h3 : (iI c).toBitVec.toInt = c := ht
    rw [BitVec.toInt_eq_toNat_cond] at h3
    split at h3
    · omega
    · have := (iI c).toBitVec.isLt
      omega
  have h4 : (iI z).toBitVec.toNat ≤ c.toNat := by
    rw [h1, BitVec.toNat_and, ← h2]
    exact Nat.and_le_right
  have h5 : (iI z).toBitVec.toInt = z := iI_t hz
  rw [BitVec.toInt_eq_toNat_cond] at h5
  split at h5
  · omega
  · have := (iI z).toBitVec.isLt
    omega
theorem zand_l {x c z : Int} (hc : 0 ≤ c) (hc2 : c ≤ 2147483647) (hz : R32 z) (e : iI z = iI c &&& iI x) : 0 ≤ z ∧ z ≤ c := zand_r (x := x) hc hc2 hz (e.trans (Int32.and_comm _ _))
section ZX
variable {p : Program} {l : Launch} {e : Env} {R : Room} {s : State} {m : MethodId} {args : Array Value} {below : List Frame} {meth : Method} {c : Code} {H : Heap} {locs : List Loc} {cells slots : Nat} {Q : State → Prop}
variable {cc : ByteArray} {pc : Nat} {ls : Array Slot} {rest : List Value} {D : va_G} {dA : Nat → ClassId} {cl : List vw_C} {tys : List (ClassId × FieldType)} {H0 : Heap} {w : zW} {N b : Nat} {ms : Nat → Nat → Bool} {M0 M : zM}
theorem z_mmax (hexec : p.tables.exec = Jvm.exec) (hb : c.code = cc) (hml : c.maxLocals = ls.size) {own : String} {index : Nat} (hown : s.vm.findClass own = some m.cls) (hlink : (Cond.methodLink own index Lib.Math.max.name).before args s = true) (hstat : (Cond.static Lib.Math.max.name).before args s = true) (hini : (Cond.initialized "java/lang/Math").before args s = true) (hcode : (Cond.code Lib.Math.max.name Lib.Math.max.code 2 (some .int)).before args s = true)
    (hframes : 1 ≤ R.frames) (hlocals : (rest.map fun v => v.category).sum + 13 ≤ R.locals) (hc : cells ≤ R.cells) (hs : slots ≤ R.slots) {x y : Int} (hx : R32 x) (hy : R32 y) (hdg : decode cc pc = .ok (.invokestatic index, 3))
    (kk : W p l e R s m args below meth c H locs cells slots Q (F0 m (pc + 3) ls (.int (iI (max x y)) :: rest))) : W p l e R s m args below meth c H locs cells slots Q (F0 m pc ls (.int (iI y) :: .int (iI x) :: rest)) := by
  refine va_mmax hexec hb hml hown hlink hstat hini hcode hframes hlocals hc hs hdg ?_
  rw [show (if iI x < iI y then iI y else iI x) = iI (max x y) from ?_]
  · exact kk
  · by_cases h : x < y
    · rw [if_pos ((iI_lt hx hy).mpr h), Int.max_def, if_pos (by omega)]
    · rw [if_neg (fun q => h ((iI_lt hx hy).mp q))]
      congr 1
      omega
theorem z_mmin (hexec : p.tables.exec = Jvm.exec) (hb : c.code = cc) (hml : c.maxLocals = ls.size) {own : String} {index : Nat} (hown : s.vm.findClass own = some m.cls) (hlink : (Cond.methodLink own index Lib.Math.min.name).before args s = true) (hstat : (Cond.static Lib.Math.min.name).before args s = true) (hini : (Cond.initialized "java/lang/Math").before args s = true) (hcode : (Cond.code Lib.Math.min.name Lib.Math.min.code 2 (some .int)).before args s = true)
    (hframes : 1 ≤ R.frames) (hlocals : (rest.map fun v => v.category).sum + 13 ≤ R.locals) (hc : cells ≤ R.cells) (hs : slots ≤ R.slots) {x y : Int} (hx : R32 x) (hy : R32 y) (hdg : decode cc pc = .ok (.invokestatic index, 3))
    (kk : W p l e R s m args below meth c H locs cells slots Q (F0 m (pc + 3) ls (.int (iI (min x y)) :: rest))) : W p l e R s m args below meth c H locs cells slots Q (F0 m pc ls (.int (iI y) :: .int (iI x) :: rest)) := by
  refine va_mmin hexec hb hml hown hlink hstat hini hcode hframes hlocals hc hs hdg ?_
  rw [show (if iI y < iI x then iI y else iI x) = iI (min x y) from ?_]
  · exact kk
  · by_cases h : y < x
    · rw [if_pos ((iI_lt hy hx).mpr h)]
      congr 1
      omega
    · rw [if_neg (fun q => h ((iI_lt hy hx).mp q))]
      congr 1
      omega
theorem z_mmaxl (hexec : p.tables.exec = Jvm.exec) (hb : c.code = cc) (hml : c.maxLocals = ls.size) {own : String} {index : Nat} (hown : s.vm.findClass own = some m.cls) (hlink : (Cond.methodLink own index Lib.MathLoose.max_long.x).before args s = true) (hstat : (Cond.static Lib.MathLoose.max_long.x).before args s = true) (hini : (Cond.initialized "java/lang/Math").before args s = true) (hcode : (Cond.code Lib.MathLoose.max_long.x Lib.MathLoose.max_long.code 4 (some .long)).before args s = true)
    (hframes : 1 ≤ R.frames) (hlocals : (rest.map fun v => v.category).sum + 15 ≤ R.locals) (hc : cells ≤ R.cells) (hs : slots ≤ R.slots) {x y : Int} (hx : R64 x) (hy : R64 y) (hdg : decode cc pc = .ok (.invokestatic index, 3))
    (kk : W p l e R s m args below meth c H locs cells slots Q (F0 m (pc + 3) ls (.long (iL (max x y)) :: rest))) : W p l e R s m args below meth c H locs cells slots Q (F0 m pc ls (.long (iL y) :: .long (iL x) :: rest)) := by
  refine va_mmax_long hexec hb hml hown hlink hstat hini hcode hframes hlocals hc hs hdg ?_
  rw [show (if iL y < iL x then iL x else iL y) = iL (max x y) from ?_]
  · exact kk
  · by_cases h : y < x
    · rw [if_pos ((iL_lt hy hx).mpr h)]
      congr 1
      omega
    · rw [if_neg (fun q => h ((iL_lt hy hx).mp q))]
      congr 1
      omega
/-- two numbers written as one -/
theorem z_fold {z c : Int} (hz : R32 z) (hc : R32 c) {v : Int32} (e : iI z = v) (h : v = iI c) : z = c := iI_inj hz hc (e.trans h)
theorem z_bast (hexec : p.tables.exec = Jvm.exec) (hb : c.code = cc) (hK : va_K D cl tys s) {t0 : Nat} (ht : tys[t0]? = some (dA 2, .byte)) (hS : zS D dA cl w N b ms M0 M H) (hS0 : va_S (zA N b) H0 H locs) {j n : Nat} (hj : j < N) (hkd : zkd w j = 102) (hln : zln w j = n) {i z : Int} (h0 : 0 ≤ i) (h1 : i < n) (hn : n < 2147483648) (hbd : (zbd w j i.toNat).1 ≤ z ∧ z ≤ (zbd w j i.toNat).2) (hz : -128 ≤ z ∧ z ≤ 127) (hms : ms j i.toNat = true) (hdg : decode cc pc = .ok (.bastore, 1))
    (kk : ∀ (H1 : Heap) (locs1 : List Loc), zS D dA cl w N b ms M0 (zup M j i.toNat z) H1 → va_S (zA N b) H0 H1 locs1 → W p l e R s m args below meth c H1 locs1 cells slots Q (F0 m (pc + 1) ls rest)) : W p l e R s m args below meth c H locs cells slots Q (F0 m pc ls (.int (iI z) :: .int (iI i) :: .ref (b + j) :: rest)) := by
  obtain ⟨v1, v2⟩ := iI_in h0 h1 hn
  have hP := z_arr hS.1 hj (by omega)
  rw [hkd] at hP
  unfold zar at hP
  rw [if_neg (by omega), if_pos (by omega), hln] at hP
  have hnr : narrow .byte (.int (iI z)) = .int (iI z) := by
    show Value.int (iI z).toInt8.toInt32 = _
    congr 1
    apply Int32.toInt_inj.mp
    rw [Int8.toInt_toInt32, Int32.toInt_toInt8, iI_t ⟨by omega, by omega⟩]
    exact Int.bmod_eq_of_le (by omega) (by omega)
  refine W.bast hexec hb (hP 0 _ rfl) ((hK.2 t0 _ ht).1 n (fun j3 => .int (iI (M j j3)))) (fun q => by cases q) (by show ¬ (iI i < 0 ∨ (arrV _ _ _).slots.size ≤ _); rw [arrV_size]; exact v1) rfl rfl hdg fun H1 e1 e2 e3 => ?_
  refine kk H1 _ ⟨?_, zJ_up hS.2.1 hbd, zF_up hS.2.2 hms⟩ (hS0.put e2 e3 ⟨by show b ≤ b + j; omega, by show b + j < b + N; omega⟩)
  rw [hnr] at e1
  intro i2 hi2
  by_cases hij : i2 = j
  · subst hij
    unfold zcell
    rw [if_neg (by omega)]
    show H1[b + i2]? = some (vp_cell _ _)
    rw [e1]
    unfold zar
    rw [if_neg (by omega), if_pos (by omega), hln, hkd, vp_cell_i, vp_cell_i, arrV_store, v2]
    congr 2
    funext q
    by_cases hq : q = i.toNat
    · subst hq
      simp [updV, zup_s]
    · simp only [updV, if_neg hq]
      rw [zup_n]
      exact fun x => hq x.2
  · have := (hS.1 i2 hi2).kept (H1 := H1) (e3 _ (by show b + i2 ≠ b + j; omega))
    rw [zup_row M z hij]
    exact this
theorem z_i2b (hexec : p.tables.exec = Jvm.exec) (hb : c.code = cc) {x : Int} (hdg : decode cc pc = .ok (.i2b, 1)) (k : ∀ z : Int, (-128 ≤ z ∧ z ≤ 127) → iI z = (iI x).toInt8.toInt32 → W p l e R s m args below meth c H locs cells slots Q (F0 m (pc + 1) ls (.int (iI z) :: rest))) : W p l e R s m args below meth c H locs cells slots Q (F0 m pc ls (.int (iI x) :: rest)) := by
  have h1 := Int8.le_toInt (iI x).toInt8
  have h2 := Int8.toInt_lt (iI x).toInt8
  have e : iI (iI x).toInt8.toInt = (iI x).toInt8.toInt32 := by
    apply Int32.toInt_inj.mp
    rw [Int8.toInt_toInt32, iI_t ⟨by omega, by omega⟩]
  exact lv_i2b hexec hb hdg e.symm (k _ ⟨by omega, by omega⟩ e)
/-- an array copied into another one -/
def zcp (M : zM) (j0 j1 sp dp n : Nat) : zM := fun a k => if a = j1 ∧ dp ≤ k ∧ k < dp + n then M j0 (sp + (k - dp)) else M a k
theorem z_acopy (hexec : p.tables.exec = Jvm.exec) (hb : c.code = cc) (hml : c.maxLocals = ls.size) {own : String} {index : Nat} (hown : s.vm.findClass own = some m.cls) (hlink : (Cond.methodLink own index arraycopyName).before args s = true) (hnat : (Cond.native arraycopyName).before args s = true) (hstat : (Cond.static arraycopyName).before args s = true) (hini : (Cond.initialized "java/lang/System").before args s = true)
    (hK : va_K D cl tys s) {t0 : Nat} (ht : tys[t0]? = some (dA 0, .int)) (hS : zS D dA cl w N b ms M0 M H) (hS0 : va_S (zA N b) H0 H locs) {j0 j1 n0 n1 : Nat} (hj0 : j0 < N) (hj1 : j1 < N) (hne : j0 ≠ j1) (hkd0 : zkd w j0 = 100) (hkd1 : zkd w j1 = 100) (hln0 : zln w j0 = n0) (hln1 : zln w j1 = n1) (hn0 : n0 < 2147483648) (hn1 : n1 < 2147483648)
    {sp dp n : Int} (h1 : 0 ≤ sp) (h2 : 0 ≤ dp) (h3 : 0 ≤ n) (h4 : sp + n ≤ n0) (h5 : dp + n ≤ n1)
    (hbd : ∀ k : Nat, (k : Int) < n → (zbd w j1 (dp.toNat + k)).1 ≤ M j0 (sp.toNat + k) ∧ M j0 (sp.toNat + k) ≤ (zbd w j1 (dp.toNat + k)).2) (hms : ∀ k, ms j1 k = true)
    (hframes : 1 ≤ R.frames) (hlocals : (rest.map fun v => v.category).sum + (nativeFrameWords "java/lang/System" "arraycopy" 5 + 11) ≤ R.locals) (hdg : decode cc pc = .ok (.invokestatic index, 3))
    (kk : ∀ (H1 : Heap) (locs1 : List Loc), zS D dA cl w N b ms M0 (zcp M j0 j1 sp.toNat dp.toNat n.toNat) H1 → va_S (zA N b) H0 H1 locs1 → W p l e R s m args below meth c H1 locs1 cells slots Q (F0 m (pc + 3) ls rest)) : W p l e R s m args below meth c H locs cells slots Q (F0 m pc ls (.int (iI n) :: .int (iI dp) :: .ref (b + j1) :: .int (iI sp) :: .ref (b + j0) :: rest)) := by
  have hsp : (iI sp).toInt = sp := iI_t ⟨by omega, by omega⟩
  have hdp : (iI dp).toInt = dp := iI_t ⟨by omega, by omega⟩
  have hnn : (iI n).toInt = n := iI_t ⟨by omega, by omega⟩
  have ksp : (iI sp).toNatClampNeg = sp.toNat := by show (iI sp).toInt.toNat = _; rw [hsp]
  have kdp : (iI dp).toNatClampNeg = dp.toNat := by show (iI dp).toInt.toNat = _; rw [hdp]
  have knn : (iI n).toNatClampNeg = n.toNat := by show (iI n).toInt.toNat = _; rw [hnn]
  have neg : ∀ z : Int, (iI z).toInt = z → 0 ≤ z → ¬ iI z < 0 := by
    intro z hz h
    rw [Int32.lt_iff_toInt_lt, hz, Int32.toInt_zero]
    omega
  let ws : va_W := (List.range N).map (fun i => (b + i, zcell dA w b i (M i)))
  have hat : ∀ i, i < N → ws[i]? = some (b + i, zcell dA w b i (M i)) := fun i hi => by simp [ws, hi]
  have hlen : ws.length = N := by simp [ws]
  have hP : va_P D cl ws H := by
    intro k q hk
    have hkN : k < N := by rw [← hlen]; exact (List.getElem?_eq_some_iff.mp hk).1
    rw [hat k hkN] at hk
    cases hk
    exact hS.1 k hkN
  have hD : va_D (zA N b) ws := by
    refine ⟨fun i j p q hi hj h => ?_, fun k q hk => ?_⟩
    · have hiN : i < N := by rw [← hlen]; exact (List.getElem?_eq_some_iff.mp hi).1
      have hjN : j < N := by rw [← hlen]; exact (List.getElem?_eq_some_iff.mp hj).1
      rw [hat i hiN] at hi
      rw [hat j hjN] at hj
      cases hi
      cases hj
      have h : b + i = b + j := h
      omega
    · have hkN : k < N := by rw [← hlen]; exact (List.getElem?_eq_some_iff.mp hk).1
      rw [hat k hkN] at hk
      cases hk
      exact ⟨by show b ≤ b + k; omega, by show b + k < b + N; omega⟩
  have c0 : zcell dA w b j0 (M j0) = .inl (dA 0, n0, .inl (fun k => iI (M j0 k))) := by
    unfold zcell
    rw [if_neg (by omega), hkd0]
    unfold zar
    rw [if_neg (by omega), if_pos (by omega), hln0]
  have c1 : zcell dA w b j1 (M j1) = .inl (dA 0, n1, .inl (fun k => iI (M j1 k))) := by
    unfold zcell
    rw [if_neg (by omega), hkd1]
    unfold zar
    rw [if_neg (by omega), if_pos (by omega), hln1]
  refine va_copyi hexec hb hml hown hlink hnat hstat hini hK hP hD hS0 j0 j1 t0 t0 (by rw [hat j0 hj0, c0]) (by rw [hat j1 hj1, c1]) ht ht rfl (neg sp hsp h1) (neg dp hdp h2) (neg n hnn h3) (by rw [ksp, knn]; omega) (by rw [kdp, knn]; omega) (fun i _ => rfl) hframes hlocals hdg (fun H1 locs1 hP1 _ hS1 => ?_)
  rw [ksp, kdp, knn] at hP1
  refine kk H1 locs1 ⟨?_, ?_, ?_⟩ hS1
  · intro i hi
    by_cases hij : i = j1
    · subst hij
      have h := hP1 i (b + i, _) (List.getElem?_set_self (by rw [hlen]; exact hi))
      rw [show zcell dA w b i (zcp M j0 i sp.toNat dp.toNat n.toNat i) = .inl (dA 0, n1, .inl (va_cpy (fun k => iI (M j0 k)) (fun k => iI (M i k)) sp.toNat dp.toNat n.toNat)) from ?_]
      · exact h
      · unfold zcell
        rw [if_neg (by omega), hkd1]
        unfold zar
        rw [if_neg (by omega), if_pos (by omega), hln1]
        congr 4
        funext k
        unfold zcp va_cpy
        by_cases h : dp.toNat ≤ k ∧ k < dp.toNat + n.toNat
        · rw [if_pos ⟨rfl, h⟩, if_pos h]
        · rw [if_neg (fun q => h q.2), if_neg h]
    · have h := hP1 i (b + i, zcell dA w b i (M i)) (by rw [List.getElem?_set_ne (Ne.symm hij)]; exact hat i hi)
      rw [show zcp M j0 j1 sp.toNat dp.toNat n.toNat i = M i from by funext k; unfold zcp; rw [if_neg (fun q => hij q.1)]]
      exact h
  · intro a k
    unfold zcp
    by_cases h : a = j1 ∧ dp.toNat ≤ k ∧ k < dp.toNat + n.toNat
    · rw [if_pos h]
      obtain ⟨rfl, h6, h7⟩ := h
      have := hbd (k - dp.toNat) (by omega)
      rw [show dp.toNat + (k - dp.toNat) = k by omega] at this
      exact this
    · rw [if_neg h]
      exact hS.2.1 a k
  · intro a k h
    unfold zcp
    rw [if_neg]
    · exact hS.2.2 a k h
    · rintro ⟨rfl, -⟩
      rw [hms k] at h
      cases h
end ZX
theorem zcp_F {w : zW} {M : zM} {j0 j1 sp dp n q : Nat} {L : List Nat} (h : zcd w j1 = q) (h2 : ∀ k, L.elem (w.2.2.2.2.2.2.2 q k) = true) : zF (zms w L) M (zcp M j0 j1 sp dp n) := by
  intro a k hk
  unfold zcp
  rw [if_neg]
  rintro ⟨rfl, -⟩
  rw [zms_of h (h2 k)] at hk
  cases hk
theorem zwk {z a b c d : Int} (h : a ≤ z ∧ z ≤ b) (h1 : c ≤ a) (h2 : b ≤ d) : c ≤ z ∧ z ≤ d := ⟨by omega, by omega⟩
section ZLW
variable {p : Program} {l : Launch} {e : Env} {R : Room} {s : State} {m : MethodId} {args : Array Value} {below : List Frame} {meth : Method} {c : Code} {H : Heap} {locs : List Loc} {cells slots : Nat} {Q : State → Prop}
variable {cc : ByteArray} {pc : Nat} {ls : Array Slot} {rest : List Value}
theorem z_ldcw (hexec : p.tables.exec = Jvm.exec) (hb : c.code = cc) {own : String} {index : Nat} {n : Int} {v : Int32} (hown : s.vm.findClass own = some m.cls) (hc : (Jvm.Cond.constant own index v).before args s = true) (hv : v = iI n) (hdg : decode cc pc = .ok (.ldc_w index, 3)) (k : W p l e R s m args below meth c H locs cells slots Q (F0 m (pc + 3) ls (.int (iI n) :: rest))) : W p l e R s m args below meth c H locs cells slots Q (F0 m pc ls rest) := lv_ldcw hexec hb hown hc hdg (by rw [hv]; exact k)
end ZLW
