/-! ends, calls that answer a reference, the words of a call, switches -/
theorem r32b {z lo hi : Int} (h : lo ≤ z ∧ z ≤ hi) (h1 : -2147483648 ≤ lo) (h2 : hi ≤ 2147483647) : R32 z := ⟨by omega, by omega⟩
theorem r64b {z lo hi : Int} (h : lo ≤ z ∧ z ≤ hi) (h1 : -9223372036854775808 ≤ lo) (h2 : hi ≤ 9223372036854775807) : R64 z := ⟨by omega, by omega⟩
theorem r64of {z : Int} (h : R32 z) : R64 z := ⟨by omega, by omega⟩
def z_rm (d : Nat) : Room := { frames := d, cells := 0, slots := 0, locals := 64 * d }
def zQq (w : zW) (ms : Nat → Nat → Bool) (M : zM) (post : Option Nat → zM → Prop) : Option Nat → zM → Prop := fun r u => zJ w u ∧ zF ms M u ∧ post r u
theorem z_mem {c1 w : Cond} (h : w ∈ zt) : w ∈ c1 :: zt := List.mem_cons_of_mem _ h
theorem z_memU {c1 : Cond} {L : List Cond} (h : ∀ w ∈ L, w ∈ zt) : ∀ w ∈ L, w ∈ c1 :: zt := fun w hw => List.mem_cons_of_mem _ (h w hw)
theorem z_memL {L : List Cond} (h : ∀ w ∈ L, w ∈ zt) : ∀ w ∈ L, w ∈ lw_tbl := fun w hw => zt_in w (h w hw)
theorem z_gd {c1 w : Cond} (h : w ∈ zt) : w ∈ c1 :: zt ∧ ((w.onTables && w.keeps) = true ∨ ∃ ty, w = .arrayClass ty) := ⟨List.mem_cons_of_mem _ h, good_of_word (zt_good w h)⟩
theorem z_gV {c1 cd : Cond} {own C : String} {idx : Nat} {y : MethodName} (h1 : Cond.methodLink own idx y ∈ zt) (h2 : Cond.instanceMethod y ∈ zt) (h3 : Cond.selects C y y ∈ zt) (h4 : Cond.initialized C ∈ zt) (h5 : cd ∈ zt) : GoodIn (c1 :: zt) (wsV own idx C y (cd :: zt)) := by
  intro w hw
  unfold wsV at hw
  simp only [List.cons_append, List.nil_append, List.mem_cons] at hw
  rcases hw with rfl | rfl | rfl | rfl | rfl | h
  · exact z_gd h1
  · exact z_gd h2
  · exact z_gd h3
  · exact z_gd h4
  · exact z_gd h5
  · exact z_gd h
theorem z_gS {c1 cd : Cond} {own : String} {idx : Nat} {y : MethodName} (h1 : Cond.methodLink own idx y ∈ zt) (h2 : Cond.static y ∈ zt) (h4 : Cond.initialized y.cls ∈ zt) (h5 : cd ∈ zt) : GoodIn (c1 :: zt) (va_wsS own idx y (cd :: zt)) := by
  intro w hw
  unfold va_wsS at hw
  simp only [List.cons_append, List.nil_append, List.mem_cons] at hw
  rcases hw with rfl | rfl | rfl | rfl | h
  · exact z_gd h1
  · exact z_gd h2
  · exact z_gd h4
  · exact z_gd h5
  · exact z_gd h
theorem z_gN {c1 cd : Cond} (h5 : cd ∈ zt) : GoodIn (c1 :: zt) (cd :: zt) := by
  intro w hw
  rcases List.mem_cons.mp hw with rfl | h
  · exact z_gd h5
  · exact z_gd h
theorem z_gL {ws : List Cond} {c1 : Cond} (h1 : c1 ∈ zt) (h : GoodIn (c1 :: zt) ws) : GoodIn lw_tbl ws := fun w hw => ⟨by
  rcases List.mem_cons.mp (h w hw).1 with e | e
  · rw [e]; exact zt_in _ h1
  · exact zt_in _ e, (h w hw).2⟩
section ZE
variable {p : Program} {l : Launch} {e : Env} {R : Room} {s : State} {m : MethodId} {args : Array Value} {below : List Frame} {meth : Method} {c : Code} {H : Heap} {locs : List Loc} {cells slots : Nat} {Q : State → Prop}
variable {cc : ByteArray} {pc : Nat} {ls : Array Slot} {rest st0 : List Value} {D : va_G} {dA : Nat → ClassId} {cl : List vw_C} {tys : List (ClassId × FieldType)} {H0 : Heap} {w : zW} {N b : Nat} {ms msC : Nat → Nat → Bool} {M M0 M1 : zM} {a : Array Value}
theorem z_iret {post : Int → zM → Prop} (hexec : p.tables.exec = Jvm.exec) (hb : c.code = cc) (hr : meth.sig.returnType = some .int) (hlocks : meth.locks = false) (hS : zS D dA cl w N b ms M M1 H) (hS0 : va_S (zA N b) s.heap H locs) {z : Int} (hz : R32 z) (hp : post z M1) (hdg : decode cc pc = .ok (.ireturn, 1)) :
    W p l e R s m args below meth c H locs cells slots (MQ below (va_Qi (zQi w ms M post) (zB D dA cl w N b) (zA N b)) args s cells slots (zA N b)) (F0 m pc ls [.int (iI z)]) :=
  W.iret hexec hb hr (fun t ht hW => ⟨⟨iI z, M1, rfl, ⟨z, rfl, hz, hS.2.1, hS.2.2, hp⟩, by unfold zB; rw [ht]; exact hS.1⟩, hS0.F ht⟩) hS0.2.2 hdg hlocks
theorem z_zret {post : Int → zM → Prop} (hexec : p.tables.exec = Jvm.exec) (hb : c.code = cc) (hr : meth.sig.returnType = some .boolean) (hlocks : meth.locks = false) (hS : zS D dA cl w N b ms M M1 H) (hS0 : va_S (zA N b) s.heap H locs) {z : Int} (hz : z = 0 ∨ z = 1) (hp : post z M1) (hdg : decode cc pc = .ok (.ireturn, 1)) :
    W p l e R s m args below meth c H locs cells slots (MQ below (va_Qi (zQi w ms M post) (zB D dA cl w N b) (zA N b)) args s cells slots (zA N b)) (F0 m pc ls [.int (iI z)]) :=
  W.zret hexec hb hr (by rcases hz with rfl | rfl <;> rfl) (fun t ht hW => ⟨⟨iI z, M1, rfl, ⟨z, rfl, by rcases hz with rfl | rfl <;> decide, hS.2.1, hS.2.2, hp⟩, by unfold zB; rw [ht]; exact hS.1⟩, hS0.F ht⟩) hS0.2.2 hdg hlocks
theorem z_lret {post : Int → zM → Prop} (hexec : p.tables.exec = Jvm.exec) (hb : c.code = cc) (hr : meth.sig.returnType = some .long) (hlocks : meth.locks = false) (hS : zS D dA cl w N b ms M M1 H) (hS0 : va_S (zA N b) s.heap H locs) {z : Int} (hz : R64 z) (hp : post z M1) (hdg : decode cc pc = .ok (.lreturn, 1)) :
    W p l e R s m args below meth c H locs cells slots (MQ below (va_Ql (zQl w ms M post) (zB D dA cl w N b) (zA N b)) args s cells slots (zA N b)) (F0 m pc ls [.long (iL z)]) :=
  W.lret hexec hb hr (fun t ht hW => ⟨⟨iL z, M1, rfl, ⟨z, rfl, hz, hS.2.1, hS.2.2, hp⟩, by unfold zB; rw [ht]; exact hS.1⟩, hS0.F ht⟩) hS0.2.2 hdg hlocks
theorem z_vret {post : zM → Prop} (hexec : p.tables.exec = Jvm.exec) (hb : c.code = cc) (hr : meth.sig.returnType = none) (hlocks : meth.locks = false) (hS : zS D dA cl w N b ms M M1 H) (hS0 : va_S (zA N b) s.heap H locs) (hp : post M1) (hdg : decode cc pc = .ok (.return_, 1)) :
    W p l e R s m args below meth c H locs cells slots (MQ below (va_Qv (zQv w ms M post) (zB D dA cl w N b) (zA N b)) args s cells slots (zA N b)) (F0 m pc ls []) :=
  W.vret hexec hb hr (fun t ht hW => ⟨⟨M1, rfl, ⟨hS.2.1, hS.2.2, hp⟩, by unfold zB; rw [ht]; exact hS.1⟩, hS0.F ht⟩) hS0.2.2 hdg hlocks
theorem z_aret {post : Option Nat → zM → Prop} {rt : FieldType} (hexec : p.tables.exec = Jvm.exec) (hb : c.code = cc) (hr : meth.sig.returnType = some rt) (hrt : (∃ n, rt = .object n) ∨ ∃ t, rt = .array t) (hlocks : meth.locks = false) (hS : zS D dA cl w N b ms M M1 H) (hS0 : va_S (zA N b) s.heap H locs) {v : Value} {r : Option Nat} (hv : v = va_rf r) (hp : post r M1) (hdg : decode cc pc = .ok (.areturn, 1)) :
    W p l e R s m args below meth c H locs cells slots (MQ below (va_Qq (zQq w ms M post) (zB D dA cl w N b) (zA N b)) args s cells slots (zA N b)) (F0 m pc ls [v]) := by
  subst hv
  refine W.aret hexec hb hr hrt ?_ (fun t ht hW => ⟨⟨r, M1, rfl, ⟨hS.2.1, hS.2.2, hp⟩, by unfold zB; rw [ht]; exact hS.1⟩, hS0.F ht⟩) hS0.2.2 hdg hlocks
  cases r with
  | none => exact Or.inl rfl
  | some q => exact Or.inr ⟨q, rfl⟩
theorem z_callq {post : Option Nat → zM → Prop} (hr : va_Run p l e R s m args below meth c H locs cells slots 0 0 (F0 m pc ls st0) rest (va_Qq (zQq w msC M post) (zB D dA cl w N b) (zA N b) a) (zA N b)) (hS : zS D dA cl w N b ms M0 M H) (hS0 : va_S (zA N b) H0 H locs) (hms : ∀ j k, ms j k = false → msC j k = false)
    (kk : ∀ (r : Option Nat) (M1 : zM) (H1 : Heap) (locs1 : List Loc), post r M1 → zF msC M M1 → zS D dA cl w N b ms M0 M1 H1 → va_S (zA N b) H0 H1 locs1 → W p l e R s m args below meth c H1 locs1 cells slots Q (F0 m (pc + 3) ls (va_rf r :: rest))) : W p l e R s m args below meth c H locs cells slots Q (F0 m pc ls st0) := by
  refine va_callq hr hS0 (fun q _ h => h) (fun q h => h) (fun r u t H1 locs1 ht _ hp hB _ _ hS1 => ?_)
  obtain ⟨hJ, hF, hp⟩ := hp
  unfold zB at hB
  rw [ht] at hB
  exact kk r u H1 locs1 hp hF ⟨hB, hJ, zF_tr hS.2.2 (zF_mono hF hms)⟩ hS1
theorem z_tabOut (hexec : p.tables.exec = Jvm.exec) (hb : c.code = cc) {dflt lo hi : Int} {offs : Array Int} {len : Nat} {x : Int} {tgt : Nat} (hx : R32 x) (hdg : decode cc pc = .ok (.tableswitch dflt lo hi offs, len)) (h : x < lo ∨ hi < x) (ht : (pc : Int) + dflt = (tgt : Int))
    (k : W p l e R s m args below meth c H locs cells slots Q (F0 m tgt ls rest)) : W p l e R s m args below meth c H locs cells slots Q (F0 m pc ls (.int (iI x) :: rest)) :=
  lv_tableOut hexec hb hdg (by rw [iI_t hx]; exact h) ht k
theorem z_tabIn (hexec : p.tables.exec = Jvm.exec) (hb : c.code = cc) {dflt lo hi : Int} {offs : Array Int} {len : Nat} {x y : Int} {off : Int} {tgt : Nat} (hx : R32 x) (hxy : x = y) (hdg : decode cc pc = .ok (.tableswitch dflt lo hi offs, len)) (h1 : lo ≤ y) (h2 : y ≤ hi) (ho : offs[(y - lo).toNat]? = some off) (ht : (pc : Int) + off = (tgt : Int))
    (k : W p l e R s m args below meth c H locs cells slots Q (F0 m tgt ls rest)) : W p l e R s m args below meth c H locs cells slots Q (F0 m pc ls (.int (iI x) :: rest)) := by
  subst hxy
  exact lv_tableIn hexec hb hdg (by rw [iI_t hx]; omega) (by rw [iI_t hx]; omega) (by rw [iI_t hx]; exact ho) ht k
theorem z_lookup (hexec : p.tables.exec = Jvm.exec) (hb : c.code = cc) {dflt : Int} {ps : Array (Int × Int)} {len : Nat} {x : Int} {off : Int} {tgt : Nat} (hx : R32 x) (hdg : decode cc pc = .ok (.lookupswitch dflt ps, len)) (hp : (ps.toList.zip (ps.toList.drop 1)).all (fun (a, next) => a.1 < next.1) = true) (ho : Op.lookupswitch.offset ps.toList dflt x = off) (ht : (pc : Int) + off = (tgt : Int))
    (k : W p l e R s m args below meth c H locs cells slots Q (F0 m tgt ls rest)) : W p l e R s m args below meth c H locs cells slots Q (F0 m pc ls (.int (iI x) :: rest)) :=
  lv_lookup hexec hb hdg hp (by rw [iI_t hx]; exact ho) ht k
end ZE
