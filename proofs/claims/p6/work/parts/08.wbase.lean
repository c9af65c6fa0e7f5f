/-! THE W LAYER: what a method does to the numbers of a world, as a predicate transformer; one row an instruction, no bounds of the numbers asked but where the machine asks them -/
def sI (z : Int) : Int := (iI z).toInt
def sL (z : Int) : Int := (iL z).toInt
theorem sI_R (z : Int) : R32 (sI z) := iI_r _
theorem sL_R (z : Int) : R64 (sL z) := iL_r _
theorem sI_of {z : Int} (h : R32 z) : sI z = z := iI_t h
theorem sL_of {z : Int} (h : R64 z) : sL z = z := iL_t h
theorem sIo {z : Int} (h1 : -2147483648 ≤ z) (h2 : z ≤ 2147483647) : sI z = z := iI_t ⟨h1, h2⟩
theorem sLo {z : Int} (h1 : -9223372036854775808 ≤ z) (h2 : z ≤ 9223372036854775807) : sL z = z := iL_t ⟨h1, h2⟩
theorem iI_sI (z : Int) : iI (sI z) = iI z := iI_e _
theorem iL_sL (z : Int) : iL (sL z) = iL z := iL_e _
theorem iI_cg {x y : Int} (h : sI x = y) : iI x = iI y := by rw [← h, iI_sI]
theorem iL_cg {x y : Int} (h : sL x = y) : iL x = iL y := by rw [← h, iL_sL]
theorem sI_c {x y : Int} (h : sI x = y) : R32 y := by rw [← h]; exact sI_R x
theorem sL_c {x y : Int} (h : sL x = y) : R64 y := by rw [← h]; exact sL_R x
theorem sI_up {x y : Int} (h : sI x = y) : sI y = y := sI_of (sI_c h)
theorem sL_up {x y : Int} (h : sL x = y) : sL y = y := sL_of (sL_c h)
theorem sL_ofI {x y : Int} (h : sI x = y) : sL y = y := sL_of (r64of (sI_c h))
theorem sI_01 {z : Int} (h : z = 0 ∨ z = 1) : sI z = z := sIo (by omega) (by omega)
theorem R_max {x y : Int} (hx : R32 x) (hy : R32 y) : R32 (max x y) := ⟨by omega, by omega⟩
theorem R_min {x y : Int} (hx : R32 x) (hy : R32 y) : R32 (min x y) := ⟨by omega, by omega⟩
theorem L_max {x y : Int} (hx : R64 x) (hy : R64 y) : R64 (max x y) := ⟨by omega, by omega⟩
theorem L_min {x y : Int} (hx : R64 x) (hy : R64 y) : R64 (min x y) := ⟨by omega, by omega⟩
def andI (x y : Int) : Int := (iI x &&& iI y).toInt
def orI (x y : Int) : Int := (iI x ||| iI y).toInt
def xorI (x y : Int) : Int := (iI x ^^^ iI y).toInt
def shlI (x y : Int) : Int := (iI x <<< (iI y &&& 31)).toInt
def shrI (x y : Int) : Int := (iI x >>> (iI y &&& 31)).toInt
def ushrI (x y : Int) : Int := (((iI x).toUInt32 >>> ((iI y).toUInt32 &&& Int32.toUInt32 31)).toInt32).toInt
def andL (x y : Int) : Int := (iL x &&& iL y).toInt
def orL (x y : Int) : Int := (iL x ||| iL y).toInt
def xorL (x y : Int) : Int := (iL x ^^^ iL y).toInt
def shlL (x y : Int) : Int := (iL x <<< ((iI y).toInt64 &&& 63)).toInt
def b8I (x : Int) : Int := ((iI x).toInt8.toInt32).toInt
def absI (x : Int) : Int := if x < 0 then -x else x
theorem b8I_in (x : Int) : -128 ≤ b8I x ∧ b8I x ≤ 127 := by
  have h1 := Int8.le_toInt (iI x).toInt8
  have h2 := Int8.toInt_lt (iI x).toInt8
  unfold b8I
  rw [Int8.toInt_toInt32]
  omega
theorem b8I_R (x : Int) : R32 (b8I x) := by have := b8I_in x; exact ⟨by omega, by omega⟩
theorem andI_R (x y : Int) : R32 (andI x y) := iI_r _
theorem orI_R (x y : Int) : R32 (orI x y) := iI_r _
theorem xorI_R (x y : Int) : R32 (xorI x y) := iI_r _
theorem shlI_R (x y : Int) : R32 (shlI x y) := iI_r _
theorem shrI_R (x y : Int) : R32 (shrI x y) := iI_r _
theorem ushrI_R (x y : Int) : R32 (ushrI x y) := iI_r _
theorem andL_R (x y : Int) : R64 (andL x y) := iL_r _
theorem orL_R (x y : Int) : R64 (orL x y) := iL_r _
theorem xorL_R (x y : Int) : R64 (xorL x y) := iL_r _
theorem shlL_R (x y : Int) : R64 (shlL x y) := iL_r _
section WI
variable {p : Program} {l : Launch} {e : Env} {R : Room} {s : State} {m : MethodId} {args : Array Value} {below : List Frame} {meth : Method} {c : Code} {H : Heap} {locs : List Loc} {cells slots : Nat} {Q : State → Prop}
variable {cc : ByteArray} {pc : Nat} {ls : Array Slot} {rest st0 : List Value} {D : va_G} {dA : Nat → ClassId} {cl : List vw_C} {tys : List (ClassId × FieldType)} {H0 : Heap} {w : zW} {N b : Nat} {M M0 M1 : zM} {a : Array Value}
theorem w_iand (hexec : p.tables.exec = Jvm.exec) (hb : c.code = cc) {x y : Int} (hdg : decode cc pc = .ok (.iand, 1)) (k : W p l e R s m args below meth c H locs cells slots Q (F0 m (pc + 1) ls (.int (iI (andI x y)) :: rest))) : W p l e R s m args below meth c H locs cells slots Q (F0 m pc ls (.int (iI y) :: .int (iI x) :: rest)) :=
  z_iand hexec hb hdg (fun z hz e => by have h : z = andI x y := (by unfold andI; rw [← e]; exact (iI_t hz).symm); rw [h]; exact k)
theorem w_ior (hexec : p.tables.exec = Jvm.exec) (hb : c.code = cc) {x y : Int} (hdg : decode cc pc = .ok (.ior, 1)) (k : W p l e R s m args below meth c H locs cells slots Q (F0 m (pc + 1) ls (.int (iI (orI x y)) :: rest))) : W p l e R s m args below meth c H locs cells slots Q (F0 m pc ls (.int (iI y) :: .int (iI x) :: rest)) :=
  z_ior hexec hb hdg (fun z hz e => by have h : z = orI x y := (by unfold orI; rw [← e]; exact (iI_t hz).symm); rw [h]; exact k)
theorem w_ixor (hexec : p.tables.exec = Jvm.exec) (hb : c.code = cc) {x y : Int} (hdg : decode cc pc = .ok (.ixor, 1)) (k : W p l e R s m args below meth c H locs cells slots Q (F0 m (pc + 1) ls (.int (iI (xorI x y)) :: rest))) : W p l e R s m args below meth c H locs cells slots Q (F0 m pc ls (.int (iI y) :: .int (iI x) :: rest)) :=
  z_ixor hexec hb hdg (fun z hz e => by have h : z = xorI x y := (by unfold xorI; rw [← e]; exact (iI_t hz).symm); rw [h]; exact k)
theorem w_ishl (hexec : p.tables.exec = Jvm.exec) (hb : c.code = cc) {x y : Int} (hdg : decode cc pc = .ok (.ishl, 1)) (k : W p l e R s m args below meth c H locs cells slots Q (F0 m (pc + 1) ls (.int (iI (shlI x y)) :: rest))) : W p l e R s m args below meth c H locs cells slots Q (F0 m pc ls (.int (iI y) :: .int (iI x) :: rest)) :=
  z_ishl hexec hb hdg (fun z hz e => by have h : z = shlI x y := (by unfold shlI; rw [← e]; exact (iI_t hz).symm); rw [h]; exact k)
theorem w_ishr (hexec : p.tables.exec = Jvm.exec) (hb : c.code = cc) {x y : Int} (hdg : decode cc pc = .ok (.ishr, 1)) (k : W p l e R s m args below meth c H locs cells slots Q (F0 m (pc + 1) ls (.int (iI (shrI x y)) :: rest))) : W p l e R s m args below meth c H locs cells slots Q (F0 m pc ls (.int (iI y) :: .int (iI x) :: rest)) :=
  z_ishr hexec hb hdg (fun z hz e => by have h : z = shrI x y := (by unfold shrI; rw [← e]; exact (iI_t hz).symm); rw [h]; exact k)
theorem w_iushr (hexec : p.tables.exec = Jvm.exec) (hb : c.code = cc) {x y : Int} (hdg : decode cc pc = .ok (.iushr, 1)) (k : W p l e R s m args below meth c H locs cells slots Q (F0 m (pc + 1) ls (.int (iI (ushrI x y)) :: rest))) : W p l e R s m args below meth c H locs cells slots Q (F0 m pc ls (.int (iI y) :: .int (iI x) :: rest)) :=
  z_iushr hexec hb hdg (fun z hz e => by have h : z = ushrI x y := (by unfold ushrI; rw [← e]; exact (iI_t hz).symm); rw [h]; exact k)
theorem w_land (hexec : p.tables.exec = Jvm.exec) (hb : c.code = cc) {x y : Int} (hdg : decode cc pc = .ok (.land, 1)) (k : W p l e R s m args below meth c H locs cells slots Q (F0 m (pc + 1) ls (.long (iL (andL x y)) :: rest))) : W p l e R s m args below meth c H locs cells slots Q (F0 m pc ls (.long (iL y) :: .long (iL x) :: rest)) :=
  z_land hexec hb hdg (fun z hz e => by have h : z = andL x y := (by unfold andL; rw [← e]; exact (iL_t hz).symm); rw [h]; exact k)
theorem w_lor (hexec : p.tables.exec = Jvm.exec) (hb : c.code = cc) {x y : Int} (hdg : decode cc pc = .ok (.lor, 1)) (k : W p l e R s m args below meth c H locs cells slots Q (F0 m (pc + 1) ls (.long (iL (orL x y)) :: rest))) : W p l e R s m args below meth c H locs cells slots Q (F0 m pc ls (.long (iL y) :: .long (iL x) :: rest)) :=
  z_lor hexec hb hdg (fun z hz e => by have h : z = orL x y := (by unfold orL; rw [← e]; exact (iL_t hz).symm); rw [h]; exact k)
theorem w_lxor (hexec : p.tables.exec = Jvm.exec) (hb : c.code = cc) {x y : Int} (hdg : decode cc pc = .ok (.lxor, 1)) (k : W p l e R s m args below meth c H locs cells slots Q (F0 m (pc + 1) ls (.long (iL (xorL x y)) :: rest))) : W p l e R s m args below meth c H locs cells slots Q (F0 m pc ls (.long (iL y) :: .long (iL x) :: rest)) :=
  z_lxor hexec hb hdg (fun z hz e => by have h : z = xorL x y := (by unfold xorL; rw [← e]; exact (iL_t hz).symm); rw [h]; exact k)
theorem w_lshl (hexec : p.tables.exec = Jvm.exec) (hb : c.code = cc) {x y : Int} (hdg : decode cc pc = .ok (.lshl, 1)) (k : W p l e R s m args below meth c H locs cells slots Q (F0 m (pc + 1) ls (.long (iL (shlL x y)) :: rest))) : W p l e R s m args below meth c H locs cells slots Q (F0 m pc ls (.int (iI y) :: .long (iL x) :: rest)) :=
  z_lshl hexec hb hdg (fun z hz e => by have h : z = shlL x y := (by unfold shlL; rw [← e]; exact (iL_t hz).symm); rw [h]; exact k)
theorem w_i2b (hexec : p.tables.exec = Jvm.exec) (hb : c.code = cc) {x : Int} (hdg : decode cc pc = .ok (.i2b, 1)) (k : W p l e R s m args below meth c H locs cells slots Q (F0 m (pc + 1) ls (.int (iI (b8I x)) :: rest))) : W p l e R s m args below meth c H locs cells slots Q (F0 m pc ls (.int (iI x) :: rest)) :=
  z_i2b hexec hb hdg (fun z hz e => by have h : z = b8I x := (by unfold b8I; rw [← e]; exact (iI_t ⟨by omega, by omega⟩).symm); rw [h]; exact k)
theorem w_idiv (hexec : p.tables.exec = Jvm.exec) (hb : c.code = cc) {x y x' y' : Int} (hx : sI x = x') (hy : sI y = y') (h0 : y' ≠ 0) (hdg : decode cc pc = .ok (.idiv, 1)) (k : W p l e R s m args below meth c H locs cells slots Q (F0 m (pc + 1) ls (.int (iI (x'.tdiv y')) :: rest))) : W p l e R s m args below meth c H locs cells slots Q (F0 m pc ls (.int (iI y) :: .int (iI x) :: rest)) := by
  rw [iI_cg hx, iI_cg hy]
  exact z_idiv hexec hb (sI_c hx) (sI_c hy) h0 hdg k
theorem w_irem (hexec : p.tables.exec = Jvm.exec) (hb : c.code = cc) {x y x' y' : Int} (hx : sI x = x') (hy : sI y = y') (h0 : y' ≠ 0) (hdg : decode cc pc = .ok (.irem, 1)) (k : W p l e R s m args below meth c H locs cells slots Q (F0 m (pc + 1) ls (.int (iI (x'.tmod y')) :: rest))) : W p l e R s m args below meth c H locs cells slots Q (F0 m pc ls (.int (iI y) :: .int (iI x) :: rest)) := by
  rw [iI_cg hx, iI_cg hy]
  exact z_irem hexec hb (sI_c hx) (sI_c hy) h0 hdg k
theorem w_ldiv (hexec : p.tables.exec = Jvm.exec) (hb : c.code = cc) {x y x' y' : Int} (hx : sL x = x') (hy : sL y = y') (h0 : y' ≠ 0) (hdg : decode cc pc = .ok (.ldiv, 1)) (k : W p l e R s m args below meth c H locs cells slots Q (F0 m (pc + 1) ls (.long (iL (x'.tdiv y')) :: rest))) : W p l e R s m args below meth c H locs cells slots Q (F0 m pc ls (.long (iL y) :: .long (iL x) :: rest)) := by
  rw [iL_cg hx, iL_cg hy]
  exact z_ldiv hexec hb (sL_c hx) (sL_c hy) h0 hdg k
theorem w_lrem (hexec : p.tables.exec = Jvm.exec) (hb : c.code = cc) {x y x' y' : Int} (hx : sL x = x') (hy : sL y = y') (h0 : y' ≠ 0) (hdg : decode cc pc = .ok (.lrem, 1)) (k : W p l e R s m args below meth c H locs cells slots Q (F0 m (pc + 1) ls (.long (iL (x'.tmod y')) :: rest))) : W p l e R s m args below meth c H locs cells slots Q (F0 m pc ls (.long (iL y) :: .long (iL x) :: rest)) := by
  rw [iL_cg hx, iL_cg hy]
  exact z_lrem hexec hb (sL_c hx) (sL_c hy) h0 hdg k
theorem w_i2l (hexec : p.tables.exec = Jvm.exec) (hb : c.code = cc) {x x' : Int} (hx : sI x = x') (hdg : decode cc pc = .ok (.i2l, 1)) (k : W p l e R s m args below meth c H locs cells slots Q (F0 m (pc + 1) ls (.long (iL x') :: rest))) : W p l e R s m args below meth c H locs cells slots Q (F0 m pc ls (.int (iI x) :: rest)) := by
  rw [iI_cg hx]
  exact z_i2l hexec hb (sI_c hx) hdg k
theorem w_icmp_eq (hexec : p.tables.exec = Jvm.exec) (hb : c.code = cc) {x y x' y' : Int} {off : Int} {tgt : Nat} (hx : sI x = x') (hy : sI y = y') (hdg : decode cc pc = .ok (.if_icmp .eq off, 3)) (ht : (pc : Int) + off = (tgt : Int)) (kt : x' = y' → W p l e R s m args below meth c H locs cells slots Q (F0 m tgt ls (rest))) (kf : x' ≠ y' → W p l e R s m args below meth c H locs cells slots Q (F0 m (pc + 3) ls (rest))) : W p l e R s m args below meth c H locs cells slots Q (F0 m pc ls (.int (iI y) :: .int (iI x) :: rest)) := by
  rw [iI_cg hx, iI_cg hy]
  exact z_icmp_eq hexec hb (sI_c hx) (sI_c hy) hdg ht kt kf
theorem w_if_eq (hexec : p.tables.exec = Jvm.exec) (hb : c.code = cc) {x x' : Int} {off : Int} {tgt : Nat} (hx : sI x = x') (hdg : decode cc pc = .ok (.ifCond .eq off, 3)) (ht : (pc : Int) + off = (tgt : Int)) (kt : x' = 0 → W p l e R s m args below meth c H locs cells slots Q (F0 m tgt ls (rest))) (kf : x' ≠ 0 → W p l e R s m args below meth c H locs cells slots Q (F0 m (pc + 3) ls (rest))) : W p l e R s m args below meth c H locs cells slots Q (F0 m pc ls (.int (iI x) :: rest)) := by
  rw [iI_cg hx]
  exact z_if_eq hexec hb (sI_c hx) hdg ht kt kf
theorem w_lcmp_eq (hexec : p.tables.exec = Jvm.exec) (hb : c.code = cc) {x y x' y' : Int} {off : Int} {tgt : Nat} (hx : sL x = x') (hy : sL y = y') (hd1 : decode cc pc = .ok (.lcmp, 1)) (hdg : decode cc (pc + 1) = .ok (.ifCond .eq off, 3)) (ht : ((pc + 1 : Nat) : Int) + off = (tgt : Int)) (kt : x' = y' → W p l e R s m args below meth c H locs cells slots Q (F0 m tgt ls (rest))) (kf : x' ≠ y' → W p l e R s m args below meth c H locs cells slots Q (F0 m (pc + 1 + 3) ls (rest))) : W p l e R s m args below meth c H locs cells slots Q (F0 m pc ls (.long (iL y) :: .long (iL x) :: rest)) := by
  rw [iL_cg hx, iL_cg hy]
  exact z_lcmp_eq hexec hb (sL_c hx) (sL_c hy) hd1 hdg ht kt kf
theorem w_icmp_ne (hexec : p.tables.exec = Jvm.exec) (hb : c.code = cc) {x y x' y' : Int} {off : Int} {tgt : Nat} (hx : sI x = x') (hy : sI y = y') (hdg : decode cc pc = .ok (.if_icmp .ne off, 3)) (ht : (pc : Int) + off = (tgt : Int)) (kt : x' ≠ y' → W p l e R s m args below meth c H locs cells slots Q (F0 m tgt ls (rest))) (kf : x' = y' → W p l e R s m args below meth c H locs cells slots Q (F0 m (pc + 3) ls (rest))) : W p l e R s m args below meth c H locs cells slots Q (F0 m pc ls (.int (iI y) :: .int (iI x) :: rest)) := by
  rw [iI_cg hx, iI_cg hy]
  exact z_icmp_ne hexec hb (sI_c hx) (sI_c hy) hdg ht kt kf
theorem w_if_ne (hexec : p.tables.exec = Jvm.exec) (hb : c.code = cc) {x x' : Int} {off : Int} {tgt : Nat} (hx : sI x = x') (hdg : decode cc pc = .ok (.ifCond .ne off, 3)) (ht : (pc : Int) + off = (tgt : Int)) (kt : x' ≠ 0 → W p l e R s m args below meth c H locs cells slots Q (F0 m tgt ls (rest))) (kf : x' = 0 → W p l e R s m args below meth c H locs cells slots Q (F0 m (pc + 3) ls (rest))) : W p l e R s m args below meth c H locs cells slots Q (F0 m pc ls (.int (iI x) :: rest)) := by
  rw [iI_cg hx]
  exact z_if_ne hexec hb (sI_c hx) hdg ht kt kf
theorem w_lcmp_ne (hexec : p.tables.exec = Jvm.exec) (hb : c.code = cc) {x y x' y' : Int} {off : Int} {tgt : Nat} (hx : sL x = x') (hy : sL y = y') (hd1 : decode cc pc = .ok (.lcmp, 1)) (hdg : decode cc (pc + 1) = .ok (.ifCond .ne off, 3)) (ht : ((pc + 1 : Nat) : Int) + off = (tgt : Int)) (kt : x' ≠ y' → W p l e R s m args below meth c H locs cells slots Q (F0 m tgt ls (rest))) (kf : x' = y' → W p l e R s m args below meth c H locs cells slots Q (F0 m (pc + 1 + 3) ls (rest))) : W p l e R s m args below meth c H locs cells slots Q (F0 m pc ls (.long (iL y) :: .long (iL x) :: rest)) := by
  rw [iL_cg hx, iL_cg hy]
  exact z_lcmp_ne hexec hb (sL_c hx) (sL_c hy) hd1 hdg ht kt kf
theorem w_icmp_lt (hexec : p.tables.exec = Jvm.exec) (hb : c.code = cc) {x y x' y' : Int} {off : Int} {tgt : Nat} (hx : sI x = x') (hy : sI y = y') (hdg : decode cc pc = .ok (.if_icmp .lt off, 3)) (ht : (pc : Int) + off = (tgt : Int)) (kt : x' < y' → W p l e R s m args below meth c H locs cells slots Q (F0 m tgt ls (rest))) (kf : y' ≤ x' → W p l e R s m args below meth c H locs cells slots Q (F0 m (pc + 3) ls (rest))) : W p l e R s m args below meth c H locs cells slots Q (F0 m pc ls (.int (iI y) :: .int (iI x) :: rest)) := by
  rw [iI_cg hx, iI_cg hy]
  exact z_icmp_lt hexec hb (sI_c hx) (sI_c hy) hdg ht kt kf
theorem w_if_lt (hexec : p.tables.exec = Jvm.exec) (hb : c.code = cc) {x x' : Int} {off : Int} {tgt : Nat} (hx : sI x = x') (hdg : decode cc pc = .ok (.ifCond .lt off, 3)) (ht : (pc : Int) + off = (tgt : Int)) (kt : x' < 0 → W p l e R s m args below meth c H locs cells slots Q (F0 m tgt ls (rest))) (kf : 0 ≤ x' → W p l e R s m args below meth c H locs cells slots Q (F0 m (pc + 3) ls (rest))) : W p l e R s m args below meth c H locs cells slots Q (F0 m pc ls (.int (iI x) :: rest)) := by
  rw [iI_cg hx]
  exact z_if_lt hexec hb (sI_c hx) hdg ht kt kf
theorem w_lcmp_lt (hexec : p.tables.exec = Jvm.exec) (hb : c.code = cc) {x y x' y' : Int} {off : Int} {tgt : Nat} (hx : sL x = x') (hy : sL y = y') (hd1 : decode cc pc = .ok (.lcmp, 1)) (hdg : decode cc (pc + 1) = .ok (.ifCond .lt off, 3)) (ht : ((pc + 1 : Nat) : Int) + off = (tgt : Int)) (kt : x' < y' → W p l e R s m args below meth c H locs cells slots Q (F0 m tgt ls (rest))) (kf : y' ≤ x' → W p l e R s m args below meth c H locs cells slots Q (F0 m (pc + 1 + 3) ls (rest))) : W p l e R s m args below meth c H locs cells slots Q (F0 m pc ls (.long (iL y) :: .long (iL x) :: rest)) := by
  rw [iL_cg hx, iL_cg hy]
  exact z_lcmp_lt hexec hb (sL_c hx) (sL_c hy) hd1 hdg ht kt kf
theorem w_icmp_ge (hexec : p.tables.exec = Jvm.exec) (hb : c.code = cc) {x y x' y' : Int} {off : Int} {tgt : Nat} (hx : sI x = x') (hy : sI y = y') (hdg : decode cc pc = .ok (.if_icmp .ge off, 3)) (ht : (pc : Int) + off = (tgt : Int)) (kt : y' ≤ x' → W p l e R s m args below meth c H locs cells slots Q (F0 m tgt ls (rest))) (kf : x' < y' → W p l e R s m args below meth c H locs cells slots Q (F0 m (pc + 3) ls (rest))) : W p l e R s m args below meth c H locs cells slots Q (F0 m pc ls (.int (iI y) :: .int (iI x) :: rest)) := by
  rw [iI_cg hx, iI_cg hy]
  exact z_icmp_ge hexec hb (sI_c hx) (sI_c hy) hdg ht kt kf
theorem w_if_ge (hexec : p.tables.exec = Jvm.exec) (hb : c.code = cc) {x x' : Int} {off : Int} {tgt : Nat} (hx : sI x = x') (hdg : decode cc pc = .ok (.ifCond .ge off, 3)) (ht : (pc : Int) + off = (tgt : Int)) (kt : 0 ≤ x' → W p l e R s m args below meth c H locs cells slots Q (F0 m tgt ls (rest))) (kf : x' < 0 → W p l e R s m args below meth c H locs cells slots Q (F0 m (pc + 3) ls (rest))) : W p l e R s m args below meth c H locs cells slots Q (F0 m pc ls (.int (iI x) :: rest)) := by
  rw [iI_cg hx]
  exact z_if_ge hexec hb (sI_c hx) hdg ht kt kf
theorem w_lcmp_ge (hexec : p.tables.exec = Jvm.exec) (hb : c.code = cc) {x y x' y' : Int} {off : Int} {tgt : Nat} (hx : sL x = x') (hy : sL y = y') (hd1 : decode cc pc = .ok (.lcmp, 1)) (hdg : decode cc (pc + 1) = .ok (.ifCond .ge off, 3)) (ht : ((pc + 1 : Nat) : Int) + off = (tgt : Int)) (kt : y' ≤ x' → W p l e R s m args below meth c H locs cells slots Q (F0 m tgt ls (rest))) (kf : x' < y' → W p l e R s m args below meth c H locs cells slots Q (F0 m (pc + 1 + 3) ls (rest))) : W p l e R s m args below meth c H locs cells slots Q (F0 m pc ls (.long (iL y) :: .long (iL x) :: rest)) := by
  rw [iL_cg hx, iL_cg hy]
  exact z_lcmp_ge hexec hb (sL_c hx) (sL_c hy) hd1 hdg ht kt kf
theorem w_icmp_gt (hexec : p.tables.exec = Jvm.exec) (hb : c.code = cc) {x y x' y' : Int} {off : Int} {tgt : Nat} (hx : sI x = x') (hy : sI y = y') (hdg : decode cc pc = .ok (.if_icmp .gt off, 3)) (ht : (pc : Int) + off = (tgt : Int)) (kt : y' < x' → W p l e R s m args below meth c H locs cells slots Q (F0 m tgt ls (rest))) (kf : x' ≤ y' → W p l e R s m args below meth c H locs cells slots Q (F0 m (pc + 3) ls (rest))) : W p l e R s m args below meth c H locs cells slots Q (F0 m pc ls (.int (iI y) :: .int (iI x) :: rest)) := by
  rw [iI_cg hx, iI_cg hy]
  exact z_icmp_gt hexec hb (sI_c hx) (sI_c hy) hdg ht kt kf
theorem w_if_gt (hexec : p.tables.exec = Jvm.exec) (hb : c.code = cc) {x x' : Int} {off : Int} {tgt : Nat} (hx : sI x = x') (hdg : decode cc pc = .ok (.ifCond .gt off, 3)) (ht : (pc : Int) + off = (tgt : Int)) (kt : 0 < x' → W p l e R s m args below meth c H locs cells slots Q (F0 m tgt ls (rest))) (kf : x' ≤ 0 → W p l e R s m args below meth c H locs cells slots Q (F0 m (pc + 3) ls (rest))) : W p l e R s m args below meth c H locs cells slots Q (F0 m pc ls (.int (iI x) :: rest)) := by
  rw [iI_cg hx]
  exact z_if_gt hexec hb (sI_c hx) hdg ht kt kf
theorem w_lcmp_gt (hexec : p.tables.exec = Jvm.exec) (hb : c.code = cc) {x y x' y' : Int} {off : Int} {tgt : Nat} (hx : sL x = x') (hy : sL y = y') (hd1 : decode cc pc = .ok (.lcmp, 1)) (hdg : decode cc (pc + 1) = .ok (.ifCond .gt off, 3)) (ht : ((pc + 1 : Nat) : Int) + off = (tgt : Int)) (kt : y' < x' → W p l e R s m args below meth c H locs cells slots Q (F0 m tgt ls (rest))) (kf : x' ≤ y' → W p l e R s m args below meth c H locs cells slots Q (F0 m (pc + 1 + 3) ls (rest))) : W p l e R s m args below meth c H locs cells slots Q (F0 m pc ls (.long (iL y) :: .long (iL x) :: rest)) := by
  rw [iL_cg hx, iL_cg hy]
  exact z_lcmp_gt hexec hb (sL_c hx) (sL_c hy) hd1 hdg ht kt kf
theorem w_icmp_le (hexec : p.tables.exec = Jvm.exec) (hb : c.code = cc) {x y x' y' : Int} {off : Int} {tgt : Nat} (hx : sI x = x') (hy : sI y = y') (hdg : decode cc pc = .ok (.if_icmp .le off, 3)) (ht : (pc : Int) + off = (tgt : Int)) (kt : x' ≤ y' → W p l e R s m args below meth c H locs cells slots Q (F0 m tgt ls (rest))) (kf : y' < x' → W p l e R s m args below meth c H locs cells slots Q (F0 m (pc + 3) ls (rest))) : W p l e R s m args below meth c H locs cells slots Q (F0 m pc ls (.int (iI y) :: .int (iI x) :: rest)) := by
  rw [iI_cg hx, iI_cg hy]
  exact z_icmp_le hexec hb (sI_c hx) (sI_c hy) hdg ht kt kf
theorem w_if_le (hexec : p.tables.exec = Jvm.exec) (hb : c.code = cc) {x x' : Int} {off : Int} {tgt : Nat} (hx : sI x = x') (hdg : decode cc pc = .ok (.ifCond .le off, 3)) (ht : (pc : Int) + off = (tgt : Int)) (kt : x' ≤ 0 → W p l e R s m args below meth c H locs cells slots Q (F0 m tgt ls (rest))) (kf : 0 < x' → W p l e R s m args below meth c H locs cells slots Q (F0 m (pc + 3) ls (rest))) : W p l e R s m args below meth c H locs cells slots Q (F0 m pc ls (.int (iI x) :: rest)) := by
  rw [iI_cg hx]
  exact z_if_le hexec hb (sI_c hx) hdg ht kt kf
theorem w_lcmp_le (hexec : p.tables.exec = Jvm.exec) (hb : c.code = cc) {x y x' y' : Int} {off : Int} {tgt : Nat} (hx : sL x = x') (hy : sL y = y') (hd1 : decode cc pc = .ok (.lcmp, 1)) (hdg : decode cc (pc + 1) = .ok (.ifCond .le off, 3)) (ht : ((pc + 1 : Nat) : Int) + off = (tgt : Int)) (kt : x' ≤ y' → W p l e R s m args below meth c H locs cells slots Q (F0 m tgt ls (rest))) (kf : y' < x' → W p l e R s m args below meth c H locs cells slots Q (F0 m (pc + 1 + 3) ls (rest))) : W p l e R s m args below meth c H locs cells slots Q (F0 m pc ls (.long (iL y) :: .long (iL x) :: rest)) := by
  rw [iL_cg hx, iL_cg hy]
  exact z_lcmp_le hexec hb (sL_c hx) (sL_c hy) hd1 hdg ht kt kf
theorem w_tabOut (hexec : p.tables.exec = Jvm.exec) (hb : c.code = cc) {dflt lo hi : Int} {offs : Array Int} {len : Nat} {x x' : Int} {tgt : Nat} (hx : sI x = x') (hdg : decode cc pc = .ok (.tableswitch dflt lo hi offs, len)) (h : x' < lo ∨ hi < x') (ht : (pc : Int) + dflt = (tgt : Int)) (k : W p l e R s m args below meth c H locs cells slots Q (F0 m tgt ls (rest))) : W p l e R s m args below meth c H locs cells slots Q (F0 m pc ls (.int (iI x) :: rest)) := by
  rw [iI_cg hx]
  exact z_tabOut hexec hb (sI_c hx) hdg h ht k
theorem w_tabIn (hexec : p.tables.exec = Jvm.exec) (hb : c.code = cc) {dflt lo hi : Int} {offs : Array Int} {len : Nat} {x x' y : Int} {off : Int} {tgt : Nat} (hx : sI x = x') (hxy : x' = y) (hdg : decode cc pc = .ok (.tableswitch dflt lo hi offs, len)) (h1 : lo ≤ y) (h2 : y ≤ hi) (ho : offs[(y - lo).toNat]? = some off) (ht : (pc : Int) + off = (tgt : Int)) (k : W p l e R s m args below meth c H locs cells slots Q (F0 m tgt ls (rest))) : W p l e R s m args below meth c H locs cells slots Q (F0 m pc ls (.int (iI x) :: rest)) := by
  rw [iI_cg hx]
  exact z_tabIn hexec hb (sI_c hx) hxy hdg h1 h2 ho ht k
theorem w_lookup (hexec : p.tables.exec = Jvm.exec) (hb : c.code = cc) {dflt : Int} {ps : Array (Int × Int)} {len : Nat} {x x' : Int} {off : Int} {tgt : Nat} (hx : sI x = x') (hdg : decode cc pc = .ok (.lookupswitch dflt ps, len)) (hp : (ps.toList.zip (ps.toList.drop 1)).all (fun (a, next) => a.1 < next.1) = true) (ho : Op.lookupswitch.offset ps.toList dflt x' = off) (ht : (pc : Int) + off = (tgt : Int)) (k : W p l e R s m args below meth c H locs cells slots Q (F0 m tgt ls (rest))) : W p l e R s m args below meth c H locs cells slots Q (F0 m pc ls (.int (iI x) :: rest)) := by
  rw [iI_cg hx]
  exact z_lookup hexec hb (sI_c hx) hdg hp ho ht k
theorem w_mmax (hexec : p.tables.exec = Jvm.exec) (hb : c.code = cc) (hml : c.maxLocals = ls.size) {own : String} {index : Nat} (hown : s.vm.findClass own = some m.cls) (hlink : (Cond.methodLink own index Lib.Math.max.name).before args s = true) (hstat : (Cond.static Lib.Math.max.name).before args s = true) (hini : (Cond.initialized "java/lang/Math").before args s = true) (hcode : (Cond.code Lib.Math.max.name Lib.Math.max.code 2 (some .int)).before args s = true) (hframes : 1 ≤ R.frames) (hlocals : (rest.map fun v => v.category).sum + 13 ≤ R.locals) (hc : cells ≤ R.cells) (hs : slots ≤ R.slots) {x y x' y' : Int} (hx : sI x = x') (hy : sI y = y') (hdg : decode cc pc = .ok (.invokestatic index, 3)) (kk : W p l e R s m args below meth c H locs cells slots Q (F0 m (pc + 3) ls (.int (iI (max x' y')) :: rest))) : W p l e R s m args below meth c H locs cells slots Q (F0 m pc ls (.int (iI y) :: .int (iI x) :: rest)) := by
  rw [iI_cg hx, iI_cg hy]
  exact z_mmax hexec hb hml hown hlink hstat hini hcode hframes hlocals hc hs (sI_c hx) (sI_c hy) hdg kk
theorem w_mmin (hexec : p.tables.exec = Jvm.exec) (hb : c.code = cc) (hml : c.maxLocals = ls.size) {own : String} {index : Nat} (hown : s.vm.findClass own = some m.cls) (hlink : (Cond.methodLink own index Lib.Math.min.name).before args s = true) (hstat : (Cond.static Lib.Math.min.name).before args s = true) (hini : (Cond.initialized "java/lang/Math").before args s = true) (hcode : (Cond.code Lib.Math.min.name Lib.Math.min.code 2 (some .int)).before args s = true) (hframes : 1 ≤ R.frames) (hlocals : (rest.map fun v => v.category).sum + 13 ≤ R.locals) (hc : cells ≤ R.cells) (hs : slots ≤ R.slots) {x y x' y' : Int} (hx : sI x = x') (hy : sI y = y') (hdg : decode cc pc = .ok (.invokestatic index, 3)) (kk : W p l e R s m args below meth c H locs cells slots Q (F0 m (pc + 3) ls (.int (iI (min x' y')) :: rest))) : W p l e R s m args below meth c H locs cells slots Q (F0 m pc ls (.int (iI y) :: .int (iI x) :: rest)) := by
  rw [iI_cg hx, iI_cg hy]
  exact z_mmin hexec hb hml hown hlink hstat hini hcode hframes hlocals hc hs (sI_c hx) (sI_c hy) hdg kk
theorem w_mmaxl (hexec : p.tables.exec = Jvm.exec) (hb : c.code = cc) (hml : c.maxLocals = ls.size) {own : String} {index : Nat} (hown : s.vm.findClass own = some m.cls) (hlink : (Cond.methodLink own index Lib.MathLoose.max_long.x).before args s = true) (hstat : (Cond.static Lib.MathLoose.max_long.x).before args s = true) (hini : (Cond.initialized "java/lang/Math").before args s = true) (hcode : (Cond.code Lib.MathLoose.max_long.x Lib.MathLoose.max_long.code 4 (some .long)).before args s = true) (hframes : 1 ≤ R.frames) (hlocals : (rest.map fun v => v.category).sum + 15 ≤ R.locals) (hc : cells ≤ R.cells) (hs : slots ≤ R.slots) {x y x' y' : Int} (hx : sL x = x') (hy : sL y = y') (hdg : decode cc pc = .ok (.invokestatic index, 3)) (kk : W p l e R s m args below meth c H locs cells slots Q (F0 m (pc + 3) ls (.long (iL (max x' y')) :: rest))) : W p l e R s m args below meth c H locs cells slots Q (F0 m pc ls (.long (iL y) :: .long (iL x) :: rest)) := by
  rw [iL_cg hx, iL_cg hy]
  exact z_mmaxl hexec hb hml hown hlink hstat hini hcode hframes hlocals hc hs (sL_c hx) (sL_c hy) hdg kk
theorem w_mabs (hexec : p.tables.exec = Jvm.exec) (hb : c.code = cc) (hml : c.maxLocals = ls.size) {own : String} {index : Nat} (hown : s.vm.findClass own = some m.cls) (hlink : (Cond.methodLink own index Lib.Math.abs.name).before args s = true) (hstat : (Cond.static Lib.Math.abs.name).before args s = true) (hini : (Cond.initialized "java/lang/Math").before args s = true) (hcode : (Cond.code Lib.Math.abs.name Lib.Math.abs.code 1 (some .int)).before args s = true) (hframes : 1 ≤ R.frames) (hlocals : (rest.map fun v => v.category).sum + 13 ≤ R.locals) (hc : cells ≤ R.cells) (hs : slots ≤ R.slots) {x x' : Int} (hx : sI x = x') (hdg : decode cc pc = .ok (.invokestatic index, 3)) (kk : W p l e R s m args below meth c H locs cells slots Q (F0 m (pc + 3) ls (.int (iI (absI x')) :: rest))) : W p l e R s m args below meth c H locs cells slots Q (F0 m pc ls (.int (iI x) :: rest)) := by
  rw [iI_cg hx]
  refine va_mabs hexec hb hml hown hlink hstat hini hcode hframes hlocals hc hs hdg ?_
  have h0 : (if 0 ≤ iI x' then iI x' else 0 - iI x') = iI (absI x') := by
    have hz : R32 0 := ⟨by omega, by omega⟩
    unfold absI
    rw [iI_0]
    by_cases h : x' < 0
    · rw [if_neg (fun q => absurd ((iI_le hz (sI_c hx)).mp q) (by omega)), if_pos h, iI_sub, Int.zero_sub]
    · rw [if_pos ((iI_le hz (sI_c hx)).mpr (by omega)), if_neg h]
  rw [h0]
  exact kk
end WI
section WW
variable {p : Program} {l : Launch} {e : Env} {R : Room} {s : State} {m : MethodId} {args : Array Value} {below : List Frame} {meth : Method} {c : Code} {H : Heap} {locs : List Loc} {cells slots : Nat} {Q : State → Prop}
variable {cc : ByteArray} {pc : Nat} {ls : Array Slot} {rest st0 : List Value} {D : va_G} {dA : Nat → ClassId} {cl : List vw_C} {tys : List (ClassId × FieldType)} {H0 : Heap} {w : zW} {N b : Nat} {M M0 M1 : zM} {a : Array Value}
theorem w_geti (hexec : p.tables.exec = Jvm.exec) (hb : c.code = cc) {own C : String} {T : u_T} {n ci index j k : Nat} {Ts : List Cond} (hts : ∀ w ∈ Ts, w.before args s = true) (hin : ∀ w ∈ u_ws C T n, w ∈ Ts) (hown : s.vm.findClass own = some m.cls) (hK : va_K D cl tys s) (hR : zR D dA cl w N b M H)
    (hf : zFld cl w ci C T n k 0) (hj : j < N) (hkd : zkd w j = ci) (hlink : zLk s args own index (T k).1 (T k).2.1 (T k).2.2.1) (hdg : decode cc pc = .ok (.getfield index, 3))
    (kk : W p l e R s m args below meth c H locs cells slots Q (F0 m (pc + 3) ls (.int (iI (M j k)) :: rest))) : W p l e R s m args below meth c H locs cells slots Q (F0 m pc ls (.ref (b + j) :: rest)) := by
  refine z_getv hexec hb hts hin hown hK hR hf hj hkd hlink hdg ?_
  unfold zfv
  rw [hkd, if_pos hf.2.2.2.2]
  exact kk
theorem w_getl (hexec : p.tables.exec = Jvm.exec) (hb : c.code = cc) {own C : String} {T : u_T} {n ci index j k : Nat} {Ts : List Cond} (hts : ∀ w ∈ Ts, w.before args s = true) (hin : ∀ w ∈ u_ws C T n, w ∈ Ts) (hown : s.vm.findClass own = some m.cls) (hK : va_K D cl tys s) (hR : zR D dA cl w N b M H)
    (hf : zFld cl w ci C T n k 1) (hj : j < N) (hkd : zkd w j = ci) (hlink : zLk s args own index (T k).1 (T k).2.1 (T k).2.2.1) (hdg : decode cc pc = .ok (.getfield index, 3))
    (kk : W p l e R s m args below meth c H locs cells slots Q (F0 m (pc + 3) ls (.long (iL (M j k)) :: rest))) : W p l e R s m args below meth c H locs cells slots Q (F0 m pc ls (.ref (b + j) :: rest)) := by
  refine z_getv hexec hb hts hin hown hK hR hf hj hkd hlink hdg ?_
  unfold zfv
  rw [hkd, if_neg (by rw [hf.2.2.2.2]; decide), if_pos hf.2.2.2.2]
  exact kk
theorem w_getr (hexec : p.tables.exec = Jvm.exec) (hb : c.code = cc) {own C : String} {T : u_T} {n ci index j k j2 : Nat} {Ts : List Cond} (hts : ∀ w ∈ Ts, w.before args s = true) (hin : ∀ w ∈ u_ws C T n, w ∈ Ts) (hown : s.vm.findClass own = some m.cls) (hK : va_K D cl tys s) (hR : zR D dA cl w N b M H)
    (hf : zFld cl w ci C T n k 2) (hj : j < N) (hkd : zkd w j = ci) (hrf : zrf w j k = j2) (hlink : zLk s args own index (T k).1 (T k).2.1 (T k).2.2.1) (hdg : decode cc pc = .ok (.getfield index, 3))
    (kk : W p l e R s m args below meth c H locs cells slots Q (F0 m (pc + 3) ls (.ref (b + j2) :: rest))) : W p l e R s m args below meth c H locs cells slots Q (F0 m pc ls (.ref (b + j) :: rest)) := by
  refine z_getv hexec hb hts hin hown hK hR hf hj hkd hlink hdg ?_
  unfold zfv
  rw [hkd, if_neg (by rw [hf.2.2.2.2]; decide), if_neg (by rw [hf.2.2.2.2]; decide), hrf]
  exact kk
theorem w_puti (hexec : p.tables.exec = Jvm.exec) (hb : c.code = cc) {own C : String} {T : u_T} {n ci index j k : Nat} {Ts : List Cond} (hts : ∀ w ∈ Ts, w.before args s = true) (hin : ∀ w ∈ u_ws C T n, w ∈ Ts) (ty0 : Nat → FieldType) (hty : ∀ k, k < n → parseFieldDescriptor (T k).2.2.1 = some (ty0 k)) (hnm : ∀ a, a < n → ∀ b, b < n → a ≠ b → (T a).2.1 ≠ (T b).2.1) (hown : s.vm.findClass own = some m.cls) (hK : va_K D cl tys s) (hR : zR D dA cl w N b M H) (hS0 : va_S (zA N b) H0 H locs)
    (hf : zFld cl w ci C T n k 0) (hj : j < N) (hkd : zkd w j = ci) (hlink : zLk s args own index (T k).1 (T k).2.1 (T k).2.2.1) (hfin : (T k).2.2.2 = false) {z : Int} (hd : parseFieldDescriptor (T k).2.2.1 = some .int) (hdg : decode cc pc = .ok (.putfield index, 3))
    (kk : ∀ (H1 : Heap) (locs1 : List Loc), zR D dA cl w N b (zup M j k z) H1 → va_S (zA N b) H0 H1 locs1 → W p l e R s m args below meth c H1 locs1 cells slots Q (F0 m (pc + 3) ls rest)) : W p l e R s m args below meth c H locs cells slots Q (F0 m pc ls (.int (iI z) :: .ref (b + j) :: rest)) := by
  refine z_putv hexec hb hts hin ty0 hty hnm hown hK hR hS0 hf hj hkd hlink hfin (z := z) hd rfl rfl ?_ hdg (fun H1 locs1 a1 a2 => kk H1 locs1 a1 a2)
  unfold zfv
  rw [hkd, if_pos hf.2.2.2.2]
theorem w_putl (hexec : p.tables.exec = Jvm.exec) (hb : c.code = cc) {own C : String} {T : u_T} {n ci index j k : Nat} {Ts : List Cond} (hts : ∀ w ∈ Ts, w.before args s = true) (hin : ∀ w ∈ u_ws C T n, w ∈ Ts) (ty0 : Nat → FieldType) (hty : ∀ k, k < n → parseFieldDescriptor (T k).2.2.1 = some (ty0 k)) (hnm : ∀ a, a < n → ∀ b, b < n → a ≠ b → (T a).2.1 ≠ (T b).2.1) (hown : s.vm.findClass own = some m.cls) (hK : va_K D cl tys s) (hR : zR D dA cl w N b M H) (hS0 : va_S (zA N b) H0 H locs)
    (hf : zFld cl w ci C T n k 1) (hj : j < N) (hkd : zkd w j = ci) (hlink : zLk s args own index (T k).1 (T k).2.1 (T k).2.2.1) (hfin : (T k).2.2.2 = false) {z : Int} (hd : parseFieldDescriptor (T k).2.2.1 = some .long) (hdg : decode cc pc = .ok (.putfield index, 3))
    (kk : ∀ (H1 : Heap) (locs1 : List Loc), zR D dA cl w N b (zup M j k z) H1 → va_S (zA N b) H0 H1 locs1 → W p l e R s m args below meth c H1 locs1 cells slots Q (F0 m (pc + 3) ls rest)) : W p l e R s m args below meth c H locs cells slots Q (F0 m pc ls (.long (iL z) :: .ref (b + j) :: rest)) := by
  refine z_putv hexec hb hts hin ty0 hty hnm hown hK hR hS0 hf hj hkd hlink hfin (z := z) hd rfl rfl ?_ hdg (fun H1 locs1 a1 a2 => kk H1 locs1 a1 a2)
  unfold zfv
  rw [hkd, if_neg (by rw [hf.2.2.2.2]; decide), if_pos hf.2.2.2.2]
theorem w_iald (hexec : p.tables.exec = Jvm.exec) (hb : c.code = cc) (hK : va_K D cl tys s) {t0 : Nat} (ht : tys[t0]? = some (dA 0, .int)) (hR : zR D dA cl w N b M H) {j n : Nat} (hj : j < N) (hkd : zkd w j = 100) (hln : zln w j = n) {x i : Int} (hxi : sI x = i) (h0 : 0 ≤ i) (h1 : i < n) (hn : n < 2147483648) (hdg : decode cc pc = .ok (.iaload, 1))
    (kk : W p l e R s m args below meth c H locs cells slots Q (F0 m (pc + 1) ls (.int (iI (M j i.toNat)) :: rest))) : W p l e R s m args below meth c H locs cells slots Q (F0 m pc ls (.int (iI x) :: .ref (b + j) :: rest)) := by
  rw [iI_cg hxi]
  obtain ⟨v1, v2⟩ := iI_in h0 h1 hn
  have hP := z_arr hR hj (by omega)
  rw [hkd] at hP
  unfold zar at hP
  rw [if_neg (by omega), if_pos (by omega), hln] at hP
  refine va_iald hexec hb hK hP 0 t0 rfl ht v1 hdg ?_
  rw [v2]
  exact kk
theorem w_lald (hexec : p.tables.exec = Jvm.exec) (hb : c.code = cc) (hK : va_K D cl tys s) {t0 : Nat} (ht : tys[t0]? = some (dA 1, .long)) (hR : zR D dA cl w N b M H) {j n : Nat} (hj : j < N) (hkd : zkd w j = 101) (hln : zln w j = n) {x i : Int} (hxi : sI x = i) (h0 : 0 ≤ i) (h1 : i < n) (hn : n < 2147483648) (hdg : decode cc pc = .ok (.laload, 1))
    (kk : W p l e R s m args below meth c H locs cells slots Q (F0 m (pc + 1) ls (.long (iL (M j i.toNat)) :: rest))) : W p l e R s m args below meth c H locs cells slots Q (F0 m pc ls (.int (iI x) :: .ref (b + j) :: rest)) := by
  rw [iI_cg hxi]
  obtain ⟨v1, v2⟩ := iI_in h0 h1 hn
  have hP := z_arr hR hj (by omega)
  rw [hkd] at hP
  unfold zar at hP
  rw [if_pos hkd, hln] at hP
  refine va_lald hexec hb hK hP 0 t0 rfl ht v1 hdg ?_
  rw [v2]
  exact kk
theorem w_aald (hexec : p.tables.exec = Jvm.exec) (hb : c.code = cc) (hK : va_K D cl tys s) {t0 r : Nat} {ty : FieldType} (hr : 4 ≤ r) (ht : tys[t0]? = some (dA r, ty)) (hrf : ty.isReference = true) (hR : zR D dA cl w N b M H) {j n j2 : Nat} (hj : j < N) (hkd : zkd w j = 100 + r) (hln : zln w j = n) {x i : Int} (hxi : sI x = i) (h0 : 0 ≤ i) (h1 : i < n) (hn : n < 2147483648) (h2 : zrf w j i.toNat = j2) (hdg : decode cc pc = .ok (.aaload, 1))
    (kk : W p l e R s m args below meth c H locs cells slots Q (F0 m (pc + 1) ls (.ref (b + j2) :: rest))) : W p l e R s m args below meth c H locs cells slots Q (F0 m pc ls (.int (iI x) :: .ref (b + j) :: rest)) := by
  rw [iI_cg hxi]
  obtain ⟨v1, v2⟩ := iI_in h0 h1 hn
  have hP := z_arr hR hj (by omega)
  rw [hkd] at hP
  unfold zar at hP
  rw [if_neg (by omega), if_neg (by omega), hln, show 100 + r - 100 = r by omega] at hP
  have hlt : (iI i).toNatClampNeg < n := by rw [v2]; omega
  refine W.aald (v := .ref (b + j2)) (ty := ty) hexec hb (hP 0 _ rfl) ((hK.2 t0 _ ht).1 n (fun j3 => va_rf (some (b + zrf w j j3)))) hrf (fun q => by cases q) (by show ¬ (iI i < 0 ∨ (arrV _ _ _).slots.size ≤ _); rw [arrV_size]; exact v1) ?_ rfl rfl hdg kk
  show (arrV _ _ _).slots[_]? = _
  rw [arrV_read _ _ hlt, v2]
  show some (va_rf (some (b + zrf w j i.toNat))) = _
  rw [h2]
  rfl
theorem w_iast (hexec : p.tables.exec = Jvm.exec) (hb : c.code = cc) (hK : va_K D cl tys s) {t0 : Nat} (ht : tys[t0]? = some (dA 0, .int)) (hR : zR D dA cl w N b M H) (hS0 : va_S (zA N b) H0 H locs) {j n : Nat} (hj : j < N) (hkd : zkd w j = 100) (hln : zln w j = n) {x i z : Int} (hxi : sI x = i) (h0 : 0 ≤ i) (h1 : i < n) (hn : n < 2147483648) (hdg : decode cc pc = .ok (.iastore, 1))
    (kk : ∀ (H1 : Heap) (locs1 : List Loc), zR D dA cl w N b (zup M j i.toNat z) H1 → va_S (zA N b) H0 H1 locs1 → W p l e R s m args below meth c H1 locs1 cells slots Q (F0 m (pc + 1) ls rest)) : W p l e R s m args below meth c H locs cells slots Q (F0 m pc ls (.int (iI z) :: .int (iI x) :: .ref (b + j) :: rest)) := by
  rw [iI_cg hxi]
  obtain ⟨v1, v2⟩ := iI_in h0 h1 hn
  have hP := z_arr hR hj (by omega)
  rw [hkd] at hP
  unfold zar at hP
  rw [if_neg (by omega), if_pos (by omega), hln] at hP
  refine W.iast hexec hb (hP 0 _ rfl) ((hK.2 t0 _ ht).1 n (fun j3 => .int (iI (M j j3)))) (fun q => by cases q) (by show ¬ (iI i < 0 ∨ (arrV _ _ _).slots.size ≤ _); rw [arrV_size]; exact v1) rfl rfl hdg fun H1 e1 e2 e3 => ?_
  refine kk H1 _ ?_ (hS0.put e2 e3 ⟨by show b ≤ b + j; omega, by show b + j < b + N; omega⟩)
  intro i2 hi2
  by_cases hij : i2 = j
  · subst hij
    unfold zcell
    rw [if_neg (by omega)]
    show H1[b + i2]? = some (vp_cell _ _)
    rw [e1]
    unfold zar
    rw [if_neg (by omega), if_pos (by omega), hln, hkd, vp_cell_i, vp_cell_i, arrV_store, v2]
    congr 2
    funext q
    by_cases hq : q = i.toNat
    · subst hq
      simp [updV, zup_s]
    · simp only [updV, if_neg hq]
      rw [zup_n]
      exact fun x => hq x.2
  · have := (hR i2 hi2).kept (H1 := H1) (e3 _ (by show b + i2 ≠ b + j; omega))
    rw [zup_row M z hij]
    exact this
theorem w_last (hexec : p.tables.exec = Jvm.exec) (hb : c.code = cc) (hK : va_K D cl tys s) {t0 : Nat} (ht : tys[t0]? = some (dA 1, .long)) (hR : zR D dA cl w N b M H) (hS0 : va_S (zA N b) H0 H locs) {j n : Nat} (hj : j < N) (hkd : zkd w j = 101) (hln : zln w j = n) {x i z : Int} (hxi : sI x = i) (h0 : 0 ≤ i) (h1 : i < n) (hn : n < 2147483648) (hdg : decode cc pc = .ok (.lastore, 1))
    (kk : ∀ (H1 : Heap) (locs1 : List Loc), zR D dA cl w N b (zup M j i.toNat z) H1 → va_S (zA N b) H0 H1 locs1 → W p l e R s m args below meth c H1 locs1 cells slots Q (F0 m (pc + 1) ls rest)) : W p l e R s m args below meth c H locs cells slots Q (F0 m pc ls (.long (iL z) :: .int (iI x) :: .ref (b + j) :: rest)) := by
  rw [iI_cg hxi]
  obtain ⟨v1, v2⟩ := iI_in h0 h1 hn
  have hP := z_arr hR hj (by omega)
  rw [hkd] at hP
  unfold zar at hP
  rw [if_pos hkd, hln] at hP
  refine W.last hexec hb (hP 0 _ rfl) ((hK.2 t0 _ ht).1 n (fun j3 => .long (iL (M j j3)))) (fun q => by cases q) (by show ¬ (iI i < 0 ∨ (arrV _ _ _).slots.size ≤ _); rw [arrV_size]; exact v1) rfl rfl hdg fun H1 e1 e2 e3 => ?_
  refine kk H1 _ ?_ (hS0.put e2 e3 ⟨by show b ≤ b + j; omega, by show b + j < b + N; omega⟩)
  intro i2 hi2
  by_cases hij : i2 = j
  · subst hij
    unfold zcell
    rw [if_neg (by omega)]
    show H1[b + i2]? = some (vp_cell _ _)
    rw [e1]
    unfold zar
    rw [if_pos hkd, hln, hkd, vp_cell_l, vp_cell_l, arrV_store, v2]
    congr 2
    funext q
    by_cases hq : q = i.toNat
    · subst hq
      simp [updV, zup_s]
    · simp only [updV, if_neg hq]
      rw [zup_n]
      exact fun x => hq x.2
  · have := (hR i2 hi2).kept (H1 := H1) (e3 _ (by show b + i2 ≠ b + j; omega))
    rw [zup_row M z hij]
    exact this
theorem w_bast (hexec : p.tables.exec = Jvm.exec) (hb : c.code = cc) (hK : va_K D cl tys s) {t0 : Nat} (ht : tys[t0]? = some (dA 2, .byte)) (hR : zR D dA cl w N b M H) (hS0 : va_S (zA N b) H0 H locs) {j n : Nat} (hj : j < N) (hkd : zkd w j = 102) (hln : zln w j = n) {x i v z : Int} (hxi : sI x = i) (hvz : sI v = z) (h0 : 0 ≤ i) (h1 : i < n) (hn : n < 2147483648) (hz : -128 ≤ z ∧ z ≤ 127) (hdg : decode cc pc = .ok (.bastore, 1))
    (kk : ∀ (H1 : Heap) (locs1 : List Loc), zR D dA cl w N b (zup M j i.toNat z) H1 → va_S (zA N b) H0 H1 locs1 → W p l e R s m args below meth c H1 locs1 cells slots Q (F0 m (pc + 1) ls rest)) : W p l e R s m args below meth c H locs cells slots Q (F0 m pc ls (.int (iI v) :: .int (iI x) :: .ref (b + j) :: rest)) := by
  rw [iI_cg hxi, iI_cg hvz]
  obtain ⟨v1, v2⟩ := iI_in h0 h1 hn
  have hP := z_arr hR hj (by omega)
  rw [hkd] at hP
  unfold zar at hP
  rw [if_neg (by omega), if_pos (by omega), hln] at hP
  have hnr : narrow .byte (.int (iI z)) = .int (iI z) := by
    show Value.int (iI z).toInt8.toInt32 = _
    congr 1
    apply Int32.toInt_inj.mp
    rw [Int8.toInt_toInt32, Int32.toInt_toInt8, iI_t ⟨by omega, by omega⟩]
    exact Int.bmod_eq_of_le (by omega) (by omega)
  refine W.bast hexec hb (hP 0 _ rfl) ((hK.2 t0 _ ht).1 n (fun j3 => .int (iI (M j j3)))) (fun q => by cases q) (by show ¬ (iI i < 0 ∨ (arrV _ _ _).slots.size ≤ _); rw [arrV_size]; exact v1) rfl rfl hdg fun H1 e1 e2 e3 => ?_
  refine kk H1 _ ?_ (hS0.put e2 e3 ⟨by show b ≤ b + j; omega, by show b + j < b + N; omega⟩)
  rw [hnr] at e1
  intro i2 hi2
  by_cases hij : i2 = j
  · subst hij
    unfold zcell
    rw [if_neg (by omega)]
    show H1[b + i2]? = some (vp_cell _ _)
    rw [e1]
    unfold zar
    rw [if_neg (by omega), if_pos (by omega), hln, hkd, vp_cell_i, vp_cell_i, arrV_store, v2]
    congr 2
    funext q
    by_cases hq : q = i.toNat
    · subst hq
      simp [updV, zup_s]
    · simp only [updV, if_neg hq]
      rw [zup_n]
      exact fun x => hq x.2
  · have := (hR i2 hi2).kept (H1 := H1) (e3 _ (by show b + i2 ≠ b + j; omega))
    rw [zup_row M z hij]
    exact this
theorem w_zast (hexec : p.tables.exec = Jvm.exec) (hb : c.code = cc) (hK : va_K D cl tys s) {t0 : Nat} (ht : tys[t0]? = some (dA 3, .boolean)) (hR : zR D dA cl w N b M H) (hS0 : va_S (zA N b) H0 H locs) {j n : Nat} (hj : j < N) (hkd : zkd w j = 103) (hln : zln w j = n) {x i v z : Int} (hxi : sI x = i) (hvz : sI v = z) (h0 : 0 ≤ i) (h1 : i < n) (hn : n < 2147483648) (hz : z = 0 ∨ z = 1) (hdg : decode cc pc = .ok (.bastore, 1))
    (kk : ∀ (H1 : Heap) (locs1 : List Loc), zR D dA cl w N b (zup M j i.toNat z) H1 → va_S (zA N b) H0 H1 locs1 → W p l e R s m args below meth c H1 locs1 cells slots Q (F0 m (pc + 1) ls rest)) : W p l e R s m args below meth c H locs cells slots Q (F0 m pc ls (.int (iI v) :: .int (iI x) :: .ref (b + j) :: rest)) := by
  rw [iI_cg hxi, iI_cg hvz]
  obtain ⟨v1, v2⟩ := iI_in h0 h1 hn
  have hP := z_arr hR hj (by omega)
  rw [hkd] at hP
  unfold zar at hP
  rw [if_neg (by omega), if_pos (by omega), hln] at hP
  have hnr : narrow .boolean (.int (iI z)) = .int (iI z) := by rcases hz with rfl | rfl <;> rfl
  refine W.zast hexec hb (hP 0 _ rfl) ((hK.2 t0 _ ht).1 n (fun j3 => .int (iI (M j j3)))) (fun q => by cases q) (by show ¬ (iI i < 0 ∨ (arrV _ _ _).slots.size ≤ _); rw [arrV_size]; exact v1) rfl rfl hdg fun H1 e1 e2 e3 => ?_
  refine kk H1 _ ?_ (hS0.put e2 e3 ⟨by show b ≤ b + j; omega, by show b + j < b + N; omega⟩)
  rw [hnr] at e1
  intro i2 hi2
  by_cases hij : i2 = j
  · subst hij
    unfold zcell
    rw [if_neg (by omega)]
    show H1[b + i2]? = some (vp_cell _ _)
    rw [e1]
    unfold zar
    rw [if_neg (by omega), if_pos (by omega), hln, hkd, vp_cell_i, vp_cell_i, arrV_store, v2]
    congr 2
    funext q
    by_cases hq : q = i.toNat
    · subst hq
      simp [updV, zup_s]
    · simp only [updV, if_neg hq]
      rw [zup_n]
      exact fun x => hq x.2
  · have := (hR i2 hi2).kept (H1 := H1) (e3 _ (by show b + i2 ≠ b + j; omega))
    rw [zup_row M z hij]
    exact this
theorem w_bald (hexec : p.tables.exec = Jvm.exec) (hb : c.code = cc) (hK : va_K D cl tys s) {t0 : Nat} (ht : tys[t0]? = some (dA 2, .byte)) (hR : zR D dA cl w N b M H) {j n : Nat} (hj : j < N) (hkd : zkd w j = 102) (hln : zln w j = n) {x i : Int} (hxi : sI x = i) (h0 : 0 ≤ i) (h1 : i < n) (hn : n < 2147483648) (hdg : decode cc pc = .ok (.baload, 1))
    (kk : W p l e R s m args below meth c H locs cells slots Q (F0 m (pc + 1) ls (.int (iI (M j i.toNat)) :: rest))) : W p l e R s m args below meth c H locs cells slots Q (F0 m pc ls (.int (iI x) :: .ref (b + j) :: rest)) := by
  rw [iI_cg hxi]
  obtain ⟨v1, v2⟩ := iI_in h0 h1 hn
  have hP := z_arr hR hj (by omega)
  rw [hkd] at hP
  unfold zar at hP
  rw [if_neg (by omega), if_pos (by omega), hln] at hP
  refine va_bald hexec hb hK hP 0 t0 rfl ht v1 hdg ?_
  rw [v2]
  exact kk
theorem w_zald (hexec : p.tables.exec = Jvm.exec) (hb : c.code = cc) (hK : va_K D cl tys s) {t0 : Nat} (ht : tys[t0]? = some (dA 3, .boolean)) (hR : zR D dA cl w N b M H) {j n : Nat} (hj : j < N) (hkd : zkd w j = 103) (hln : zln w j = n) {x i : Int} (hxi : sI x = i) (h0 : 0 ≤ i) (h1 : i < n) (hn : n < 2147483648) (hdg : decode cc pc = .ok (.baload, 1))
    (kk : W p l e R s m args below meth c H locs cells slots Q (F0 m (pc + 1) ls (.int (iI (M j i.toNat)) :: rest))) : W p l e R s m args below meth c H locs cells slots Q (F0 m pc ls (.int (iI x) :: .ref (b + j) :: rest)) := by
  rw [iI_cg hxi]
  obtain ⟨v1, v2⟩ := iI_in h0 h1 hn
  have hP := z_arr hR hj (by omega)
  rw [hkd] at hP
  unfold zar at hP
  rw [if_neg (by omega), if_pos (by omega), hln] at hP
  refine va_zald hexec hb hK hP 0 t0 rfl ht v1 hdg ?_
  rw [v2]
  exact kk
theorem w_alen (hexec : p.tables.exec = Jvm.exec) (hb : c.code = cc) (hK : va_K D cl tys s) {t0 r : Nat} {ty : FieldType} (ht : tys[t0]? = some (dA r, ty)) (hR : zR D dA cl w N b M H) {j n : Nat} (hj : j < N) (hkd : zkd w j = 100 + r) (hln : zln w j = n) (hdg : decode cc pc = .ok (.arraylength, 1))
    (kk : W p l e R s m args below meth c H locs cells slots Q (F0 m (pc + 1) ls (.int (iI (n : Int)) :: rest))) : W p l e R s m args below meth c H locs cells slots Q (F0 m pc ls (.ref (b + j) :: rest)) := by
  have hP := z_arr hR hj (by omega)
  have hz : (zar w b j (M j)).1 = n := by
    unfold zar
    split
    · exact hln
    · split
      · exact hln
      · exact hln
  rw [hkd, show 100 + r - 100 = r by omega] at hP
  exact va_alen hexec hb hK hP 0 t0 rfl ht (v := iI (n : Int)) (by rw [hz]; rfl) hdg kk
theorem w_acopy (hexec : p.tables.exec = Jvm.exec) (hb : c.code = cc) (hml : c.maxLocals = ls.size) {own : String} {index : Nat} (hown : s.vm.findClass own = some m.cls) (hlink : (Cond.methodLink own index arraycopyName).before args s = true) (hnat : (Cond.native arraycopyName).before args s = true) (hstat : (Cond.static arraycopyName).before args s = true) (hini : (Cond.initialized "java/lang/System").before args s = true)
    (hK : va_K D cl tys s) {t0 : Nat} (ht : tys[t0]? = some (dA 0, .int)) (hR : zR D dA cl w N b M H) (hS0 : va_S (zA N b) H0 H locs) {j0 j1 n0 n1 : Nat} (hj0 : j0 < N) (hj1 : j1 < N) (hne : j0 ≠ j1) (hkd0 : zkd w j0 = 100) (hkd1 : zkd w j1 = 100) (hln0 : zln w j0 = n0) (hln1 : zln w j1 = n1) (hn0 : n0 < 2147483648) (hn1 : n1 < 2147483648)
    {sp dp n xs xd xn : Int} (hxs : sI xs = sp) (hxd : sI xd = dp) (hxn : sI xn = n) (h1 : 0 ≤ sp) (h2 : 0 ≤ dp) (h3 : 0 ≤ n) (h4 : sp + n ≤ n0) (h5 : dp + n ≤ n1)
    (hframes : 1 ≤ R.frames) (hlocals : (rest.map fun v => v.category).sum + (nativeFrameWords "java/lang/System" "arraycopy" 5 + 11) ≤ R.locals) (hdg : decode cc pc = .ok (.invokestatic index, 3))
    (kk : ∀ (H1 : Heap) (locs1 : List Loc), zR D dA cl w N b (zcp M j0 j1 sp.toNat dp.toNat n.toNat) H1 → va_S (zA N b) H0 H1 locs1 → W p l e R s m args below meth c H1 locs1 cells slots Q (F0 m (pc + 3) ls rest)) : W p l e R s m args below meth c H locs cells slots Q (F0 m pc ls (.int (iI xn) :: .int (iI xd) :: .ref (b + j1) :: .int (iI xs) :: .ref (b + j0) :: rest)) := by
  rw [iI_cg hxs, iI_cg hxd, iI_cg hxn]
  have hsp : (iI sp).toInt = sp := iI_t ⟨by omega, by omega⟩
  have hdp : (iI dp).toInt = dp := iI_t ⟨by omega, by omega⟩
  have hnn : (iI n).toInt = n := iI_t ⟨by omega, by omega⟩
  have ksp : (iI sp).toNatClampNeg = sp.toNat := by show (iI sp).toInt.toNat = _; rw [hsp]
  have kdp : (iI dp).toNatClampNeg = dp.toNat := by show (iI dp).toInt.toNat = _; rw [hdp]
  have knn : (iI n).toNatClampNeg = n.toNat := by show (iI n).toInt.toNat = _; rw [hnn]
  have neg : ∀ z : Int, (iI z).toInt = z → 0 ≤ z → ¬ iI z < 0 := by
    intro z hz h
    rw [Int32.lt_iff_toInt_lt, hz, Int32.toInt_zero]
    omega
  let ws : va_W := (List.range N).map (fun i => (b + i, zcell dA w b i (M i)))
  have hat : ∀ i, i < N → ws[i]? = some (b + i, zcell dA w b i (M i)) := fun i hi => by simp [ws, hi]
  have hlen : ws.length = N := by simp [ws]
  have hP : va_P D cl ws H := by
    intro k q hk
    have hkN : k < N := by rw [← hlen]; exact (List.getElem?_eq_some_iff.mp hk).1
    rw [hat k hkN] at hk
    cases hk
    exact hR k hkN
  have hD : va_D (zA N b) ws := by
    refine ⟨fun i j p q hi hj h => ?_, fun k q hk => ?_⟩
    · have hiN : i < N := by rw [← hlen]; exact (List.getElem?_eq_some_iff.mp hi).1
      have hjN : j < N := by rw [← hlen]; exact (List.getElem?_eq_some_iff.mp hj).1
      rw [hat i hiN] at hi
      rw [hat j hjN] at hj
      cases hi
      cases hj
      have h : b + i = b + j := h
      omega
    · have hkN : k < N := by rw [← hlen]; exact (List.getElem?_eq_some_iff.mp hk).1
      rw [hat k hkN] at hk
      cases hk
      exact ⟨by show b ≤ b + k; omega, by show b + k < b + N; omega⟩
  have c0 : zcell dA w b j0 (M j0) = .inl (dA 0, n0, .inl (fun k => iI (M j0 k))) := by
    unfold zcell
    rw [if_neg (by omega), hkd0]
    unfold zar
    rw [if_neg (by omega), if_pos (by omega), hln0]
  have c1 : zcell dA w b j1 (M j1) = .inl (dA 0, n1, .inl (fun k => iI (M j1 k))) := by
    unfold zcell
    rw [if_neg (by omega), hkd1]
    unfold zar
    rw [if_neg (by omega), if_pos (by omega), hln1]
  refine va_copyi hexec hb hml hown hlink hnat hstat hini hK hP hD hS0 j0 j1 t0 t0 (by rw [hat j0 hj0, c0]) (by rw [hat j1 hj1, c1]) ht ht rfl (neg sp hsp h1) (neg dp hdp h2) (neg n hnn h3) (by rw [ksp, knn]; omega) (by rw [kdp, knn]; omega) (fun i _ => rfl) hframes hlocals hdg (fun H1 locs1 hP1 _ hS1 => ?_)
  rw [ksp, kdp, knn] at hP1
  refine kk H1 locs1 ?_ hS1
  · intro i hi
    by_cases hij : i = j1
    · subst hij
      have h := hP1 i (b + i, _) (List.getElem?_set_self (by rw [hlen]; exact hi))
      rw [show zcell dA w b i (zcp M j0 i sp.toNat dp.toNat n.toNat i) = .inl (dA 0, n1, .inl (va_cpy (fun k => iI (M j0 k)) (fun k => iI (M i k)) sp.toNat dp.toNat n.toNat)) from ?_]
      · exact h
      · unfold zcell
        rw [if_neg (by omega), hkd1]
        unfold zar
        rw [if_neg (by omega), if_pos (by omega), hln1]
        congr 4
        funext k
        unfold zcp va_cpy
        by_cases h : dp.toNat ≤ k ∧ k < dp.toNat + n.toNat
        · rw [if_pos ⟨rfl, h⟩, if_pos h]
        · rw [if_neg (fun q => h q.2), if_neg h]
    · have h := hP1 i (b + i, zcell dA w b i (M i)) (by rw [List.getElem?_set_ne (Ne.symm hij)]; exact hat i hi)
      rw [show zcp M j0 j1 sp.toNat dp.toNat n.toNat i = M i from by funext k; unfold zcp; rw [if_neg (fun q => hij q.1)]]
      exact h
theorem w_recv (hR : zR D dA cl w N b M H) (hK : va_K D cl tys s) {C : String} {T : u_T} {n ci j : Nat} (hj : j < N) (hkd : zkd w j = ci) (hci : ci < 100) (hc : cl[ci]? = some (C, T, n)) : ∃ cell : Cell, H[b + j]? = some cell ∧ cell.vm.isStatics = false ∧ s.vm.findClass C = some cell.cls := by
  subst hkd
  have h := hR j hj
  unfold zcell at h
  rw [if_pos hci] at h
  obtain ⟨q', h1, cell, g1, g2, g3, -⟩ := h
  exact ⟨cell, g1, by rw [g3]; rfl, by rw [g2]; exact (hK.1 _ _ hc).2.1⟩
end WW
def wPre (D : va_G) (dA : Nat → ClassId) (cl : List vw_C) (tys : List (ClassId × FieldType)) (w : zW) (N b : Nat) (M : zM) : State → Prop := fun U => zR D dA cl w N b M U.heap ∧ zKK D cl tys U
def wQi (post : Int → zM → Prop) : Int32 → zM → Prop := fun r u => ∃ z, r = iI z ∧ R32 z ∧ post z u
def wQz (post : Int → zM → Prop) : Int32 → zM → Prop := fun r u => ∃ z, r = iI z ∧ (z = 0 ∨ z = 1) ∧ post z u
def wQl (post : Int → zM → Prop) : Int64 → zM → Prop := fun r u => ∃ z, r = iL z ∧ R64 z ∧ post z u
def wQv (post : zM → Prop) : zM → Prop := fun u => post u
def wQq (b : Nat) (post : Option Nat → zM → Prop) : Option Nat → zM → Prop := fun r u => ∃ q : Option Nat, r = q.map (b + ·) ∧ post q u
theorem wPre_blind {D : va_G} {dA : Nat → ClassId} {cl : List vw_C} {tys : List (ClassId × FieldType)} {w : zW} {N b : Nat} {M : zM} {As : List Value} : FrameBlind (va_Pc As (wPre D dA cl tys w N b M)) := fun _ U g mk q => ⟨q.1, q.2.1, va_K.moved (u := U) (U := U.calling g mk _) (Vm.Alike.refl U.vm) q.2.2.1, zNst.same (u := U) rfl q.2.2.2⟩
theorem sub_rm {f g k : Nat} (h : f + 1 ≤ g) (hk : k ≤ 64) : 64 * f + k ≤ 64 * g := by omega
section WC
variable {p : Program} {l : Launch} {e : Env} {R : Room} {s : State} {m : MethodId} {args : Array Value} {below : List Frame} {meth : Method} {c : Code} {H : Heap} {locs : List Loc} {cells slots : Nat} {Q : State → Prop}
variable {cc : ByteArray} {pc : Nat} {ls : Array Slot} {rest st0 : List Value} {D : va_G} {dA : Nat → ClassId} {cl : List vw_C} {tys : List (ClassId × FieldType)} {H0 : Heap} {w : zW} {N b : Nat} {M M0 M1 : zM} {a : Array Value}
theorem w_pre (hR : zR D dA cl w N b M H) (hK : zKK D cl tys s) {As : List Value} : ∀ U : State, U.heap = H → s.WarmedH U.vm → va_Pc As (wPre D dA cl tys w N b M) As.toArray U := fun _ hU hW => ⟨rfl, by rw [hU]; exact hR, va_K.moved hW.alike hK.1, zNst.warm hW hK.2⟩
theorem w_calli {post : Int → zM → Prop} (hr : va_Run p l e R s m args below meth c H locs cells slots 0 0 (F0 m pc ls st0) rest (va_Qi (wQi post) (zB D dA cl w N b) (zA N b) a) (zA N b)) (hS0 : va_S (zA N b) H0 H locs)
    (kk : ∀ (z : Int) (M1 : zM) (H1 : Heap) (locs1 : List Loc), R32 z → post z M1 → zR D dA cl w N b M1 H1 → va_S (zA N b) H0 H1 locs1 → W p l e R s m args below meth c H1 locs1 cells slots Q (F0 m (pc + 3) ls (.int (iI z) :: rest))) : W p l e R s m args below meth c H locs cells slots Q (F0 m pc ls st0) := by
  refine va_calli hr hS0 (fun q _ h => h) (fun q h => h) (fun r u t H1 locs1 ht _ hp hB _ _ hS1 => ?_)
  obtain ⟨z, rfl, hz, hp⟩ := hp
  unfold zB at hB
  rw [ht] at hB
  exact kk z u H1 locs1 hz  hp hB hS1
theorem w_callz {post : Int → zM → Prop} (hr : va_Run p l e R s m args below meth c H locs cells slots 0 0 (F0 m pc ls st0) rest (va_Qi (wQz post) (zB D dA cl w N b) (zA N b) a) (zA N b)) (hS0 : va_S (zA N b) H0 H locs)
    (kk : ∀ (z : Int) (M1 : zM) (H1 : Heap) (locs1 : List Loc), (z = 0 ∨ z = 1) → post z M1 → zR D dA cl w N b M1 H1 → va_S (zA N b) H0 H1 locs1 → W p l e R s m args below meth c H1 locs1 cells slots Q (F0 m (pc + 3) ls (.int (iI z) :: rest))) : W p l e R s m args below meth c H locs cells slots Q (F0 m pc ls st0) := by
  refine va_calli hr hS0 (fun q _ h => h) (fun q h => h) (fun r u t H1 locs1 ht _ hp hB _ _ hS1 => ?_)
  obtain ⟨z, rfl, hz, hp⟩ := hp
  unfold zB at hB
  rw [ht] at hB
  exact kk z u H1 locs1 hz  hp hB hS1
theorem w_calll {post : Int → zM → Prop} (hr : va_Run p l e R s m args below meth c H locs cells slots 0 0 (F0 m pc ls st0) rest (va_Ql (wQl post) (zB D dA cl w N b) (zA N b) a) (zA N b)) (hS0 : va_S (zA N b) H0 H locs)
    (kk : ∀ (z : Int) (M1 : zM) (H1 : Heap) (locs1 : List Loc), R64 z → post z M1 → zR D dA cl w N b M1 H1 → va_S (zA N b) H0 H1 locs1 → W p l e R s m args below meth c H1 locs1 cells slots Q (F0 m (pc + 3) ls (.long (iL z) :: rest))) : W p l e R s m args below meth c H locs cells slots Q (F0 m pc ls st0) := by
  refine va_calll hr hS0 (fun q _ h => h) (fun q h => h) (fun r u t H1 locs1 ht _ hp hB _ _ hS1 => ?_)
  obtain ⟨z, rfl, hz, hp⟩ := hp
  unfold zB at hB
  rw [ht] at hB
  exact kk z u H1 locs1 hz  hp hB hS1
theorem w_callq {post : Option Nat → zM → Prop} (hr : va_Run p l e R s m args below meth c H locs cells slots 0 0 (F0 m pc ls st0) rest (va_Qq (wQq b post) (zB D dA cl w N b) (zA N b) a) (zA N b)) (hS0 : va_S (zA N b) H0 H locs)
    (kk : ∀ (z : Option Nat) (M1 : zM) (H1 : Heap) (locs1 : List Loc), post z M1 → zR D dA cl w N b M1 H1 → va_S (zA N b) H0 H1 locs1 → W p l e R s m args below meth c H1 locs1 cells slots Q (F0 m (pc + 3) ls (va_rf (z.map (b + ·)) :: rest))) : W p l e R s m args below meth c H locs cells slots Q (F0 m pc ls st0) := by
  refine va_callq hr hS0 (fun q _ h => h) (fun q h => h) (fun r u t H1 locs1 ht _ hp hB _ _ hS1 => ?_)
  obtain ⟨z, rfl, hp⟩ := hp
  unfold zB at hB
  rw [ht] at hB
  exact kk z u H1 locs1 hp hB hS1
theorem w_callv {post : zM → Prop} (hr : va_Run p l e R s m args below meth c H locs cells slots 0 0 (F0 m pc ls st0) rest (va_Qv (wQv post) (zB D dA cl w N b) (zA N b) a) (zA N b)) (hS0 : va_S (zA N b) H0 H locs)
    (kk : ∀ (M1 : zM) (H1 : Heap) (locs1 : List Loc), post M1 → zR D dA cl w N b M1 H1 → va_S (zA N b) H0 H1 locs1 → W p l e R s m args below meth c H1 locs1 cells slots Q (F0 m (pc + 3) ls rest)) : W p l e R s m args below meth c H locs cells slots Q (F0 m pc ls st0) := by
  refine va_callv hr hS0 (fun q _ h => h) (fun q h => h) (fun u t H1 locs1 ht _ hp hB _ _ hS1 => ?_)
  unfold zB at hB
  rw [ht] at hB
  exact kk u H1 locs1 hp hB hS1
theorem w_iret {post : Int → zM → Prop} (hexec : p.tables.exec = Jvm.exec) (hb : c.code = cc) (hr : meth.sig.returnType = some .int) (hlocks : meth.locks = false) (hR : zR D dA cl w N b M H) (hS0 : va_S (zA N b) s.heap H locs) {x z : Int} (hz : sI x = z) (hp : post z M) (hdg : decode cc pc = .ok (.ireturn, 1)) :
    W p l e R s m args below meth c H locs cells slots (MQ below (va_Qi (wQi post) (zB D dA cl w N b) (zA N b)) args s cells slots (zA N b)) (F0 m pc ls [.int (iI x)]) := by
  exact W.iret hexec hb hr (fun t ht hW => ⟨⟨iI x, M, rfl, ⟨z, iI_cg hz, sI_c hz, hp⟩, by unfold zB; rw [ht]; exact hR⟩, hS0.F ht⟩) hS0.2.2 hdg hlocks
theorem w_zret {post : Int → zM → Prop} (hexec : p.tables.exec = Jvm.exec) (hb : c.code = cc) (hr : meth.sig.returnType = some .boolean) (hlocks : meth.locks = false) (hR : zR D dA cl w N b M H) (hS0 : va_S (zA N b) s.heap H locs) {x z : Int} (hz : sI x = z) (h01 : z = 0 ∨ z = 1) (hp : post z M) (hdg : decode cc pc = .ok (.ireturn, 1)) :
    W p l e R s m args below meth c H locs cells slots (MQ below (va_Qi (wQz post) (zB D dA cl w N b) (zA N b)) args s cells slots (zA N b)) (F0 m pc ls [.int (iI x)]) := by
  rw [iI_cg hz]
  exact W.zret hexec hb hr (by rcases h01 with rfl | rfl <;> rfl) (fun t ht hW => ⟨⟨iI z, M, rfl, ⟨z, rfl, h01, hp⟩, by unfold zB; rw [ht]; exact hR⟩, hS0.F ht⟩) hS0.2.2 hdg hlocks
theorem w_lret {post : Int → zM → Prop} (hexec : p.tables.exec = Jvm.exec) (hb : c.code = cc) (hr : meth.sig.returnType = some .long) (hlocks : meth.locks = false) (hR : zR D dA cl w N b M H) (hS0 : va_S (zA N b) s.heap H locs) {x z : Int} (hz : sL x = z) (hp : post z M) (hdg : decode cc pc = .ok (.lreturn, 1)) :
    W p l e R s m args below meth c H locs cells slots (MQ below (va_Ql (wQl post) (zB D dA cl w N b) (zA N b)) args s cells slots (zA N b)) (F0 m pc ls [.long (iL x)]) := by
  exact W.lret hexec hb hr (fun t ht hW => ⟨⟨iL x, M, rfl, ⟨z, iL_cg hz, sL_c hz, hp⟩, by unfold zB; rw [ht]; exact hR⟩, hS0.F ht⟩) hS0.2.2 hdg hlocks
theorem w_vret {post : zM → Prop} (hexec : p.tables.exec = Jvm.exec) (hb : c.code = cc) (hr : meth.sig.returnType = none) (hlocks : meth.locks = false) (hR : zR D dA cl w N b M H) (hS0 : va_S (zA N b) s.heap H locs) (hp : post M) (hdg : decode cc pc = .ok (.return_, 1)) :
    W p l e R s m args below meth c H locs cells slots (MQ below (va_Qv (wQv post) (zB D dA cl w N b) (zA N b)) args s cells slots (zA N b)) (F0 m pc ls []) := by
  exact W.vret hexec hb hr (fun t ht hW => ⟨⟨M, rfl, hp, by unfold zB; rw [ht]; exact hR⟩, hS0.F ht⟩) hS0.2.2 hdg hlocks
theorem w_aret {post : Option Nat → zM → Prop} {rt : FieldType} (hexec : p.tables.exec = Jvm.exec) (hb : c.code = cc) (hr : meth.sig.returnType = some rt) (hrt : (∃ n, rt = .object n) ∨ ∃ t, rt = .array t) (hlocks : meth.locks = false) (hR : zR D dA cl w N b M H) (hS0 : va_S (zA N b) s.heap H locs) {v : Value} (r : Option Nat) (hv : v = va_rf (r.map (b + ·))) (hp : post r M) (hdg : decode cc pc = .ok (.areturn, 1)) :
    W p l e R s m args below meth c H locs cells slots (MQ below (va_Qq (wQq b post) (zB D dA cl w N b) (zA N b)) args s cells slots (zA N b)) (F0 m pc ls [v]) := by
  subst hv
  refine W.aret hexec hb hr hrt ?_ (fun t ht hW => ⟨⟨r.map (b + ·), M, rfl, ⟨r, rfl, hp⟩, by unfold zB; rw [ht]; exact hR⟩, hS0.F ht⟩) hS0.2.2 hdg hlocks
  cases r with
  | none => exact Or.inl rfl
  | some q => exact Or.inr ⟨b + q, rfl⟩
end WC
def wL0 (body : (zM → Prop) → zM → Prop) (M : zM) : Prop := ∃ I : Nat → zM → Prop, (∃ n, I n M) ∧ ∀ n M, I n M → body (fun M' => ∃ n', n' < n ∧ I n' M') M
theorem wL0_of {body : (zM → Prop) → zM → Prop} (I : zM → Prop) (μ : zM → Nat) {M : zM} (h0 : I M) (hs : ∀ (K : zM → Prop) (M : zM), I M → (∀ (M' : zM), I M' → μ M' < μ M → K M') → body K M) : wL0 body M :=
  ⟨fun n M => I M ∧ μ M = n, ⟨_, h0, rfl⟩, fun n M hI => hs _ M hI.1 (fun M' a b => ⟨_, by omega, a, rfl⟩)⟩
def wJ0 (A : (zM → Prop) → Prop) (B : zM → Prop) : Prop := ∃ J : zM → Prop, (∀ M, J M → B M) ∧ A J
theorem wJ0_of {A : (zM → Prop) → Prop} {B : zM → Prop} (J : zM → Prop) (hB : ∀ (M : zM), J M → B M) (hA : A J) : wJ0 A B := ⟨J, hB, hA⟩
theorem wJ0_dup {A : (zM → Prop) → Prop} {B : zM → Prop} (h : A B) : wJ0 A B := ⟨B, fun _ h => h, h⟩
def wL1 (body : (Int → zM → Prop) → Int → zM → Prop) (x0 : Int) (M : zM) : Prop := ∃ I : Nat → Int → zM → Prop, (∃ n, I n x0 M) ∧ ∀ n x0 M, I n x0 M → body (fun x0' M' => ∃ n', n' < n ∧ I n' x0' M') x0 M
theorem wL1_of {body : (Int → zM → Prop) → Int → zM → Prop} (I : Int → zM → Prop) (μ : Int → zM → Nat) {x0 : Int} {M : zM} (h0 : I x0 M) (hs : ∀ (K : Int → zM → Prop) (x0 : Int) (M : zM), I x0 M → (∀ (x0' : Int) (M' : zM), I x0' M' → μ x0' M' < μ x0 M → K x0' M') → body K x0 M) : wL1 body x0 M :=
  ⟨fun n x0 M => I x0 M ∧ μ x0 M = n, ⟨_, h0, rfl⟩, fun n x0 M hI => hs _ x0 M hI.1 (fun x0' M' a b => ⟨_, by omega, a, rfl⟩)⟩
def wJ1 (A : (Int → zM → Prop) → Prop) (B : Int → zM → Prop) : Prop := ∃ J : Int → zM → Prop, (∀ x0 M, J x0 M → B x0 M) ∧ A J
theorem wJ1_of {A : (Int → zM → Prop) → Prop} {B : Int → zM → Prop} (J : Int → zM → Prop) (hB : ∀ (x0 : Int) (M : zM), J x0 M → B x0 M) (hA : A J) : wJ1 A B := ⟨J, hB, hA⟩
theorem wJ1_dup {A : (Int → zM → Prop) → Prop} {B : Int → zM → Prop} (h : A B) : wJ1 A B := ⟨B, fun _ _ h => h, h⟩
def wL2 (body : (Int → Int → zM → Prop) → Int → Int → zM → Prop) (x0 : Int) (x1 : Int) (M : zM) : Prop := ∃ I : Nat → Int → Int → zM → Prop, (∃ n, I n x0 x1 M) ∧ ∀ n x0 x1 M, I n x0 x1 M → body (fun x0' x1' M' => ∃ n', n' < n ∧ I n' x0' x1' M') x0 x1 M
theorem wL2_of {body : (Int → Int → zM → Prop) → Int → Int → zM → Prop} (I : Int → Int → zM → Prop) (μ : Int → Int → zM → Nat) {x0 x1 : Int} {M : zM} (h0 : I x0 x1 M) (hs : ∀ (K : Int → Int → zM → Prop) (x0 : Int) (x1 : Int) (M : zM), I x0 x1 M → (∀ (x0' : Int) (x1' : Int) (M' : zM), I x0' x1' M' → μ x0' x1' M' < μ x0 x1 M → K x0' x1' M') → body K x0 x1 M) : wL2 body x0 x1 M :=
  ⟨fun n x0 x1 M => I x0 x1 M ∧ μ x0 x1 M = n, ⟨_, h0, rfl⟩, fun n x0 x1 M hI => hs _ x0 x1 M hI.1 (fun x0' x1' M' a b => ⟨_, by omega, a, rfl⟩)⟩
def wJ2 (A : (Int → Int → zM → Prop) → Prop) (B : Int → Int → zM → Prop) : Prop := ∃ J : Int → Int → zM → Prop, (∀ x0 x1 M, J x0 x1 M → B x0 x1 M) ∧ A J
theorem wJ2_of {A : (Int → Int → zM → Prop) → Prop} {B : Int → Int → zM → Prop} (J : Int → Int → zM → Prop) (hB : ∀ (x0 : Int) (x1 : Int) (M : zM), J x0 x1 M → B x0 x1 M) (hA : A J) : wJ2 A B := ⟨J, hB, hA⟩
theorem wJ2_dup {A : (Int → Int → zM → Prop) → Prop} {B : Int → Int → zM → Prop} (h : A B) : wJ2 A B := ⟨B, fun _ _ _ h => h, h⟩
def wL3 (body : (Int → Int → Int → zM → Prop) → Int → Int → Int → zM → Prop) (x0 : Int) (x1 : Int) (x2 : Int) (M : zM) : Prop := ∃ I : Nat → Int → Int → Int → zM → Prop, (∃ n, I n x0 x1 x2 M) ∧ ∀ n x0 x1 x2 M, I n x0 x1 x2 M → body (fun x0' x1' x2' M' => ∃ n', n' < n ∧ I n' x0' x1' x2' M') x0 x1 x2 M
theorem wL3_of {body : (Int → Int → Int → zM → Prop) → Int → Int → Int → zM → Prop} (I : Int → Int → Int → zM → Prop) (μ : Int → Int → Int → zM → Nat) {x0 x1 x2 : Int} {M : zM} (h0 : I x0 x1 x2 M) (hs : ∀ (K : Int → Int → Int → zM → Prop) (x0 : Int) (x1 : Int) (x2 : Int) (M : zM), I x0 x1 x2 M → (∀ (x0' : Int) (x1' : Int) (x2' : Int) (M' : zM), I x0' x1' x2' M' → μ x0' x1' x2' M' < μ x0 x1 x2 M → K x0' x1' x2' M') → body K x0 x1 x2 M) : wL3 body x0 x1 x2 M :=
  ⟨fun n x0 x1 x2 M => I x0 x1 x2 M ∧ μ x0 x1 x2 M = n, ⟨_, h0, rfl⟩, fun n x0 x1 x2 M hI => hs _ x0 x1 x2 M hI.1 (fun x0' x1' x2' M' a b => ⟨_, by omega, a, rfl⟩)⟩
def wJ3 (A : (Int → Int → Int → zM → Prop) → Prop) (B : Int → Int → Int → zM → Prop) : Prop := ∃ J : Int → Int → Int → zM → Prop, (∀ x0 x1 x2 M, J x0 x1 x2 M → B x0 x1 x2 M) ∧ A J
theorem wJ3_of {A : (Int → Int → Int → zM → Prop) → Prop} {B : Int → Int → Int → zM → Prop} (J : Int → Int → Int → zM → Prop) (hB : ∀ (x0 : Int) (x1 : Int) (x2 : Int) (M : zM), J x0 x1 x2 M → B x0 x1 x2 M) (hA : A J) : wJ3 A B := ⟨J, hB, hA⟩
theorem wJ3_dup {A : (Int → Int → Int → zM → Prop) → Prop} {B : Int → Int → Int → zM → Prop} (h : A B) : wJ3 A B := ⟨B, fun _ _ _ _ h => h, h⟩
def wL4 (body : (Int → Int → Int → Int → zM → Prop) → Int → Int → Int → Int → zM → Prop) (x0 : Int) (x1 : Int) (x2 : Int) (x3 : Int) (M : zM) : Prop := ∃ I : Nat → Int → Int → Int → Int → zM → Prop, (∃ n, I n x0 x1 x2 x3 M) ∧ ∀ n x0 x1 x2 x3 M, I n x0 x1 x2 x3 M → body (fun x0' x1' x2' x3' M' => ∃ n', n' < n ∧ I n' x0' x1' x2' x3' M') x0 x1 x2 x3 M
theorem wL4_of {body : (Int → Int → Int → Int → zM → Prop) → Int → Int → Int → Int → zM → Prop} (I : Int → Int → Int → Int → zM → Prop) (μ : Int → Int → Int → Int → zM → Nat) {x0 x1 x2 x3 : Int} {M : zM} (h0 : I x0 x1 x2 x3 M) (hs : ∀ (K : Int → Int → Int → Int → zM → Prop) (x0 : Int) (x1 : Int) (x2 : Int) (x3 : Int) (M : zM), I x0 x1 x2 x3 M → (∀ (x0' : Int) (x1' : Int) (x2' : Int) (x3' : Int) (M' : zM), I x0' x1' x2' x3' M' → μ x0' x1' x2' x3' M' < μ x0 x1 x2 x3 M → K x0' x1' x2' x3' M') → body K x0 x1 x2 x3 M) : wL4 body x0 x1 x2 x3 M :=
  ⟨fun n x0 x1 x2 x3 M => I x0 x1 x2 x3 M ∧ μ x0 x1 x2 x3 M = n, ⟨_, h0, rfl⟩, fun n x0 x1 x2 x3 M hI => hs _ x0 x1 x2 x3 M hI.1 (fun x0' x1' x2' x3' M' a b => ⟨_, by omega, a, rfl⟩)⟩
def wJ4 (A : (Int → Int → Int → Int → zM → Prop) → Prop) (B : Int → Int → Int → Int → zM → Prop) : Prop := ∃ J : Int → Int → Int → Int → zM → Prop, (∀ x0 x1 x2 x3 M, J x0 x1 x2 x3 M → B x0 x1 x2 x3 M) ∧ A J
theorem wJ4_of {A : (Int → Int → Int → Int → zM → Prop) → Prop} {B : Int → Int → Int → Int → zM → Prop} (J : Int → Int → Int → Int → zM → Prop) (hB : ∀ (x0 : Int) (x1 : Int) (x2 : Int) (x3 : Int) (M : zM), J x0 x1 x2 x3 M → B x0 x1 x2 x3 M) (hA : A J) : wJ4 A B := ⟨J, hB, hA⟩
theorem wJ4_dup {A : (Int → Int → Int → Int → zM → Prop) → Prop} {B : Int → Int → Int → Int → zM → Prop} (h : A B) : wJ4 A B := ⟨B, fun _ _ _ _ _ h => h, h⟩
def wL5 (body : (Int → Int → Int → Int → Int → zM → Prop) → Int → Int → Int → Int → Int → zM → Prop) (x0 : Int) (x1 : Int) (x2 : Int) (x3 : Int) (x4 : Int) (M : zM) : Prop := ∃ I : Nat → Int → Int → Int → Int → Int → zM → Prop, (∃ n, I n x0 x1 x2 x3 x4 M) ∧ ∀ n x0 x1 x2 x3 x4 M, I n x0 x1 x2 x3 x4 M → body (fun x0' x1' x2' x3' x4' M' => ∃ n', n' < n ∧ I n' x0' x1' x2' x3' x4' M') x0 x1 x2 x3 x4 M
theorem wL5_of {body : (Int → Int → Int → Int → Int → zM → Prop) → Int → Int → Int → Int → Int → zM → Prop} (I : Int → Int → Int → Int → Int → zM → Prop) (μ : Int → Int → Int → Int → Int → zM → Nat) {x0 x1 x2 x3 x4 : Int} {M : zM} (h0 : I x0 x1 x2 x3 x4 M) (hs : ∀ (K : Int → Int → Int → Int → Int → zM → Prop) (x0 : Int) (x1 : Int) (x2 : Int) (x3 : Int) (x4 : Int) (M : zM), I x0 x1 x2 x3 x4 M → (∀ (x0' : Int) (x1' : Int) (x2' : Int) (x3' : Int) (x4' : Int) (M' : zM), I x0' x1' x2' x3' x4' M' → μ x0' x1' x2' x3' x4' M' < μ x0 x1 x2 x3 x4 M → K x0' x1' x2' x3' x4' M') → body K x0 x1 x2 x3 x4 M) : wL5 body x0 x1 x2 x3 x4 M :=
  ⟨fun n x0 x1 x2 x3 x4 M => I x0 x1 x2 x3 x4 M ∧ μ x0 x1 x2 x3 x4 M = n, ⟨_, h0, rfl⟩, fun n x0 x1 x2 x3 x4 M hI => hs _ x0 x1 x2 x3 x4 M hI.1 (fun x0' x1' x2' x3' x4' M' a b => ⟨_, by omega, a, rfl⟩)⟩
def wJ5 (A : (Int → Int → Int → Int → Int → zM → Prop) → Prop) (B : Int → Int → Int → Int → Int → zM → Prop) : Prop := ∃ J : Int → Int → Int → Int → Int → zM → Prop, (∀ x0 x1 x2 x3 x4 M, J x0 x1 x2 x3 x4 M → B x0 x1 x2 x3 x4 M) ∧ A J
theorem wJ5_of {A : (Int → Int → Int → Int → Int → zM → Prop) → Prop} {B : Int → Int → Int → Int → Int → zM → Prop} (J : Int → Int → Int → Int → Int → zM → Prop) (hB : ∀ (x0 : Int) (x1 : Int) (x2 : Int) (x3 : Int) (x4 : Int) (M : zM), J x0 x1 x2 x3 x4 M → B x0 x1 x2 x3 x4 M) (hA : A J) : wJ5 A B := ⟨J, hB, hA⟩
theorem wJ5_dup {A : (Int → Int → Int → Int → Int → zM → Prop) → Prop} {B : Int → Int → Int → Int → Int → zM → Prop} (h : A B) : wJ5 A B := ⟨B, fun _ _ _ _ _ _ h => h, h⟩
def wL6 (body : (Int → Int → Int → Int → Int → Int → zM → Prop) → Int → Int → Int → Int → Int → Int → zM → Prop) (x0 : Int) (x1 : Int) (x2 : Int) (x3 : Int) (x4 : Int) (x5 : Int) (M : zM) : Prop := ∃ I : Nat → Int → Int → Int → Int → Int → Int → zM → Prop, (∃ n, I n x0 x1 x2 x3 x4 x5 M) ∧ ∀ n x0 x1 x2 x3 x4 x5 M, I n x0 x1 x2 x3 x4 x5 M → body (fun x0' x1' x2' x3' x4' x5' M' => ∃ n', n' < n ∧ I n' x0' x1' x2' x3' x4' x5' M') x0 x1 x2 x3 x4 x5 M
theorem wL6_of {body : (Int → Int → Int → Int → Int → Int → zM → Prop) → Int → Int → Int → Int → Int → Int → zM → Prop} (I : Int → Int → Int → Int → Int → Int → zM → Prop) (μ : Int → Int → Int → Int → Int → Int → zM → Nat) {x0 x1 x2 x3 x4 x5 : Int} {M : zM} (h0 : I x0 x1 x2 x3 x4 x5 M) (hs : ∀ (K : Int → Int → Int → Int → Int → Int → zM → Prop) (x0 : Int) (x1 : Int) (x2 : Int) (x3 : Int) (x4 : Int) (x5 : Int) (M : zM), I x0 x1 x2 x3 x4 x5 M → (∀ (x0' : Int) (x1' : Int) (x2' : Int) (x3' : Int) (x4' : Int) (x5' : Int) (M' : zM), I x0' x1' x2' x3' x4' x5' M' → μ x0' x1' x2' x3' x4' x5' M' < μ x0 x1 x2 x3 x4 x5 M → K x0' x1' x2' x3' x4' x5' M') → body K x0 x1 x2 x3 x4 x5 M) : wL6 body x0 x1 x2 x3 x4 x5 M :=
  ⟨fun n x0 x1 x2 x3 x4 x5 M => I x0 x1 x2 x3 x4 x5 M ∧ μ x0 x1 x2 x3 x4 x5 M = n, ⟨_, h0, rfl⟩, fun n x0 x1 x2 x3 x4 x5 M hI => hs _ x0 x1 x2 x3 x4 x5 M hI.1 (fun x0' x1' x2' x3' x4' x5' M' a b => ⟨_, by omega, a, rfl⟩)⟩
def wJ6 (A : (Int → Int → Int → Int → Int → Int → zM → Prop) → Prop) (B : Int → Int → Int → Int → Int → Int → zM → Prop) : Prop := ∃ J : Int → Int → Int → Int → Int → Int → zM → Prop, (∀ x0 x1 x2 x3 x4 x5 M, J x0 x1 x2 x3 x4 x5 M → B x0 x1 x2 x3 x4 x5 M) ∧ A J
theorem wJ6_of {A : (Int → Int → Int → Int → Int → Int → zM → Prop) → Prop} {B : Int → Int → Int → Int → Int → Int → zM → Prop} (J : Int → Int → Int → Int → Int → Int → zM → Prop) (hB : ∀ (x0 : Int) (x1 : Int) (x2 : Int) (x3 : Int) (x4 : Int) (x5 : Int) (M : zM), J x0 x1 x2 x3 x4 x5 M → B x0 x1 x2 x3 x4 x5 M) (hA : A J) : wJ6 A B := ⟨J, hB, hA⟩
theorem wJ6_dup {A : (Int → Int → Int → Int → Int → Int → zM → Prop) → Prop} {B : Int → Int → Int → Int → Int → Int → zM → Prop} (h : A B) : wJ6 A B := ⟨B, fun _ _ _ _ _ _ _ h => h, h⟩
def wL7 (body : (Int → Int → Int → Int → Int → Int → Int → zM → Prop) → Int → Int → Int → Int → Int → Int → Int → zM → Prop) (x0 : Int) (x1 : Int) (x2 : Int) (x3 : Int) (x4 : Int) (x5 : Int) (x6 : Int) (M : zM) : Prop := ∃ I : Nat → Int → Int → Int → Int → Int → Int → Int → zM → Prop, (∃ n, I n x0 x1 x2 x3 x4 x5 x6 M) ∧ ∀ n x0 x1 x2 x3 x4 x5 x6 M, I n x0 x1 x2 x3 x4 x5 x6 M → body (fun x0' x1' x2' x3' x4' x5' x6' M' => ∃ n', n' < n ∧ I n' x0' x1' x2' x3' x4' x5' x6' M') x0 x1 x2 x3 x4 x5 x6 M
theorem wL7_of {body : (Int → Int → Int → Int → Int → Int → Int → zM → Prop) → Int → Int → Int → Int → Int → Int → Int → zM → Prop} (I : Int → Int → Int → Int → Int → Int → Int → zM → Prop) (μ : Int → Int → Int → Int → Int → Int → Int → zM → Nat) {x0 x1 x2 x3 x4 x5 x6 : Int} {M : zM} (h0 : I x0 x1 x2 x3 x4 x5 x6 M) (hs : ∀ (K : Int → Int → Int → Int → Int → Int → Int → zM → Prop) (x0 : Int) (x1 : Int) (x2 : Int) (x3 : Int) (x4 : Int) (x5 : Int) (x6 : Int) (M : zM), I x0 x1 x2 x3 x4 x5 x6 M → (∀ (x0' : Int) (x1' : Int) (x2' : Int) (x3' : Int) (x4' : Int) (x5' : Int) (x6' : Int) (M' : zM), I x0' x1' x2' x3' x4' x5' x6' M' → μ x0' x1' x2' x3' x4' x5' x6' M' < μ x0 x1 x2 x3 x4 x5 x6 M → K x0' x1' x2' x3' x4' x5' x6' M') → body K x0 x1 x2 x3 x4 x5 x6 M) : wL7 body x0 x1 x2 x3 x4 x5 x6 M :=
  ⟨fun n x0 x1 x2 x3 x4 x5 x6 M => I x0 x1 x2 x3 x4 x5 x6 M ∧ μ x0 x1 x2 x3 x4 x5 x6 M = n, ⟨_, h0, rfl⟩, fun n x0 x1 x2 x3 x4 x5 x6 M hI => hs _ x0 x1 x2 x3 x4 x5 x6 M hI.1 (fun x0' x1' x2' x3' x4' x5' x6' M' a b => ⟨_, by omega, a, rfl⟩)⟩
def wJ7 (A : (Int → Int → Int → Int → Int → Int → Int → zM → Prop) → Prop) (B : Int → Int → Int → Int → Int → Int → Int → zM → Prop) : Prop := ∃ J : Int → Int → Int → Int → Int → Int → Int → zM → Prop, (∀ x0 x1 x2 x3 x4 x5 x6 M, J x0 x1 x2 x3 x4 x5 x6 M → B x0 x1 x2 x3 x4 x5 x6 M) ∧ A J
theorem wJ7_of {A : (Int → Int → Int → Int → Int → Int → Int → zM → Prop) → Prop} {B : Int → Int → Int → Int → Int → Int → Int → zM → Prop} (J : Int → Int → Int → Int → Int → Int → Int → zM → Prop) (hB : ∀ (x0 : Int) (x1 : Int) (x2 : Int) (x3 : Int) (x4 : Int) (x5 : Int) (x6 : Int) (M : zM), J x0 x1 x2 x3 x4 x5 x6 M → B x0 x1 x2 x3 x4 x5 x6 M) (hA : A J) : wJ7 A B := ⟨J, hB, hA⟩
theorem wJ7_dup {A : (Int → Int → Int → Int → Int → Int → Int → zM → Prop) → Prop} {B : Int → Int → Int → Int → Int → Int → Int → zM → Prop} (h : A B) : wJ7 A B := ⟨B, fun _ _ _ _ _ _ _ _ h => h, h⟩
def wL8 (body : (Int → Int → Int → Int → Int → Int → Int → Int → zM → Prop) → Int → Int → Int → Int → Int → Int → Int → Int → zM → Prop) (x0 : Int) (x1 : Int) (x2 : Int) (x3 : Int) (x4 : Int) (x5 : Int) (x6 : Int) (x7 : Int) (M : zM) : Prop := ∃ I : Nat → Int → Int → Int → Int → Int → Int → Int → Int → zM → Prop, (∃ n, I n x0 x1 x2 x3 x4 x5 x6 x7 M) ∧ ∀ n x0 x1 x2 x3 x4 x5 x6 x7 M, I n x0 x1 x2 x3 x4 x5 x6 x7 M → body (fun x0' x1' x2' x3' x4' x5' x6' x7' M' => ∃ n', n' < n ∧ I n' x0' x1' x2' x3' x4' x5' x6' x7' M') x0 x1 x2 x3 x4 x5 x6 x7 M
theorem wL8_of {body : (Int → Int → Int → Int → Int → Int → Int → Int → zM → Prop) → Int → Int → Int → Int → Int → Int → Int → Int → zM → Prop} (I : Int → Int → Int → Int → Int → Int → Int → Int → zM → Prop) (μ : Int → Int → Int → Int → Int → Int → Int → Int → zM → Nat) {x0 x1 x2 x3 x4 x5 x6 x7 : Int} {M : zM} (h0 : I x0 x1 x2 x3 x4 x5 x6 x7 M) (hs : ∀ (K : Int → Int → Int → Int → Int → Int → Int → Int → zM → Prop) (x0 : Int) (x1 : Int) (x2 : Int) (x3 : Int) (x4 : Int) (x5 : Int) (x6 : Int) (x7 : Int) (M : zM), I x0 x1 x2 x3 x4 x5 x6 x7 M → (∀ (x0' : Int) (x1' : Int) (x2' : Int) (x3' : Int) (x4' : Int) (x5' : Int) (x6' : Int) (x7' : Int) (M' : zM), I x0' x1' x2' x3' x4' x5' x6' x7' M' → μ x0' x1' x2' x3' x4' x5' x6' x7' M' < μ x0 x1 x2 x3 x4 x5 x6 x7 M → K x0' x1' x2' x3' x4' x5' x6' x7' M') → body K x0 x1 x2 x3 x4 x5 x6 x7 M) : wL8 body x0 x1 x2 x3 x4 x5 x6 x7 M :=
  ⟨fun n x0 x1 x2 x3 x4 x5 x6 x7 M => I x0 x1 x2 x3 x4 x5 x6 x7 M ∧ μ x0 x1 x2 x3 x4 x5 x6 x7 M = n, ⟨_, h0, rfl⟩, fun n x0 x1 x2 x3 x4 x5 x6 x7 M hI => hs _ x0 x1 x2 x3 x4 x5 x6 x7 M hI.1 (fun x0' x1' x2' x3' x4' x5' x6' x7' M' a b => ⟨_, by omega, a, rfl⟩)⟩
def wJ8 (A : (Int → Int → Int → Int → Int → Int → Int → Int → zM → Prop) → Prop) (B : Int → Int → Int → Int → Int → Int → Int → Int → zM → Prop) : Prop := ∃ J : Int → Int → Int → Int → Int → Int → Int → Int → zM → Prop, (∀ x0 x1 x2 x3 x4 x5 x6 x7 M, J x0 x1 x2 x3 x4 x5 x6 x7 M → B x0 x1 x2 x3 x4 x5 x6 x7 M) ∧ A J
theorem wJ8_of {A : (Int → Int → Int → Int → Int → Int → Int → Int → zM → Prop) → Prop} {B : Int → Int → Int → Int → Int → Int → Int → Int → zM → Prop} (J : Int → Int → Int → Int → Int → Int → Int → Int → zM → Prop) (hB : ∀ (x0 : Int) (x1 : Int) (x2 : Int) (x3 : Int) (x4 : Int) (x5 : Int) (x6 : Int) (x7 : Int) (M : zM), J x0 x1 x2 x3 x4 x5 x6 x7 M → B x0 x1 x2 x3 x4 x5 x6 x7 M) (hA : A J) : wJ8 A B := ⟨J, hB, hA⟩
theorem wJ8_dup {A : (Int → Int → Int → Int → Int → Int → Int → Int → zM → Prop) → Prop} {B : Int → Int → Int → Int → Int → Int → Int → Int → zM → Prop} (h : A B) : wJ8 A B := ⟨B, fun _ _ _ _ _ _ _ _ _ h => h, h⟩
def pJ0 (A : Prop → Prop) (B : Prop) : Prop := ∃ J : Prop, (J → B) ∧ A J
theorem pJ0_of {A : Prop → Prop} {B : Prop} (J : Prop) (hB : J → B) (hA : A J) : pJ0 A B := ⟨J, hB, hA⟩
theorem pJ0_dup {A : Prop → Prop} {B : Prop} (h : A B) : pJ0 A B := ⟨B, fun h => h, h⟩
def pL1 (body : (Int → Prop) → Int → Prop) (x0 : Int) : Prop := ∃ I : Nat → Int → Prop, (∃ n, I n x0) ∧ ∀ n x0, I n x0 → body (fun x0' => ∃ n', n' < n ∧ I n' x0') x0
theorem pL1_of {body : (Int → Prop) → Int → Prop} (I : Int → Prop) (μ : Int → Nat) {x0 : Int} (h0 : I x0) (hs : ∀ (K : Int → Prop) (x0 : Int), I x0 → (∀ (x0' : Int), I x0' → μ x0' < μ x0 → K x0') → body K x0) : pL1 body x0 :=
  ⟨fun n x0 => I x0 ∧ μ x0 = n, ⟨_, h0, rfl⟩, fun n x0 hI => hs _ x0 hI.1 (fun x0' a b => ⟨_, by omega, a, rfl⟩)⟩
def pJ1 (A : (Int → Prop) → Prop) (B : Int → Prop) : Prop := ∃ J : Int → Prop, (∀ x0, J x0 → B x0) ∧ A J
theorem pJ1_of {A : (Int → Prop) → Prop} {B : Int → Prop} (J : Int → Prop) (hB : ∀ (x0 : Int), J x0 → B x0) (hA : A J) : pJ1 A B := ⟨J, hB, hA⟩
theorem pJ1_dup {A : (Int → Prop) → Prop} {B : Int → Prop} (h : A B) : pJ1 A B := ⟨B, fun _ h => h, h⟩
def pL2 (body : (Int → Int → Prop) → Int → Int → Prop) (x0 : Int) (x1 : Int) : Prop := ∃ I : Nat → Int → Int → Prop, (∃ n, I n x0 x1) ∧ ∀ n x0 x1, I n x0 x1 → body (fun x0' x1' => ∃ n', n' < n ∧ I n' x0' x1') x0 x1
theorem pL2_of {body : (Int → Int → Prop) → Int → Int → Prop} (I : Int → Int → Prop) (μ : Int → Int → Nat) {x0 x1 : Int} (h0 : I x0 x1) (hs : ∀ (K : Int → Int → Prop) (x0 : Int) (x1 : Int), I x0 x1 → (∀ (x0' : Int) (x1' : Int), I x0' x1' → μ x0' x1' < μ x0 x1 → K x0' x1') → body K x0 x1) : pL2 body x0 x1 :=
  ⟨fun n x0 x1 => I x0 x1 ∧ μ x0 x1 = n, ⟨_, h0, rfl⟩, fun n x0 x1 hI => hs _ x0 x1 hI.1 (fun x0' x1' a b => ⟨_, by omega, a, rfl⟩)⟩
def pJ2 (A : (Int → Int → Prop) → Prop) (B : Int → Int → Prop) : Prop := ∃ J : Int → Int → Prop, (∀ x0 x1, J x0 x1 → B x0 x1) ∧ A J
theorem pJ2_of {A : (Int → Int → Prop) → Prop} {B : Int → Int → Prop} (J : Int → Int → Prop) (hB : ∀ (x0 : Int) (x1 : Int), J x0 x1 → B x0 x1) (hA : A J) : pJ2 A B := ⟨J, hB, hA⟩
theorem pJ2_dup {A : (Int → Int → Prop) → Prop} {B : Int → Int → Prop} (h : A B) : pJ2 A B := ⟨B, fun _ _ h => h, h⟩
def pL3 (body : (Int → Int → Int → Prop) → Int → Int → Int → Prop) (x0 : Int) (x1 : Int) (x2 : Int) : Prop := ∃ I : Nat → Int → Int → Int → Prop, (∃ n, I n x0 x1 x2) ∧ ∀ n x0 x1 x2, I n x0 x1 x2 → body (fun x0' x1' x2' => ∃ n', n' < n ∧ I n' x0' x1' x2') x0 x1 x2
theorem pL3_of {body : (Int → Int → Int → Prop) → Int → Int → Int → Prop} (I : Int → Int → Int → Prop) (μ : Int → Int → Int → Nat) {x0 x1 x2 : Int} (h0 : I x0 x1 x2) (hs : ∀ (K : Int → Int → Int → Prop) (x0 : Int) (x1 : Int) (x2 : Int), I x0 x1 x2 → (∀ (x0' : Int) (x1' : Int) (x2' : Int), I x0' x1' x2' → μ x0' x1' x2' < μ x0 x1 x2 → K x0' x1' x2') → body K x0 x1 x2) : pL3 body x0 x1 x2 :=
  ⟨fun n x0 x1 x2 => I x0 x1 x2 ∧ μ x0 x1 x2 = n, ⟨_, h0, rfl⟩, fun n x0 x1 x2 hI => hs _ x0 x1 x2 hI.1 (fun x0' x1' x2' a b => ⟨_, by omega, a, rfl⟩)⟩
def pJ3 (A : (Int → Int → Int → Prop) → Prop) (B : Int → Int → Int → Prop) : Prop := ∃ J : Int → Int → Int → Prop, (∀ x0 x1 x2, J x0 x1 x2 → B x0 x1 x2) ∧ A J
theorem pJ3_of {A : (Int → Int → Int → Prop) → Prop} {B : Int → Int → Int → Prop} (J : Int → Int → Int → Prop) (hB : ∀ (x0 : Int) (x1 : Int) (x2 : Int), J x0 x1 x2 → B x0 x1 x2) (hA : A J) : pJ3 A B := ⟨J, hB, hA⟩
theorem pJ3_dup {A : (Int → Int → Int → Prop) → Prop} {B : Int → Int → Int → Prop} (h : A B) : pJ3 A B := ⟨B, fun _ _ _ h => h, h⟩
def pL4 (body : (Int → Int → Int → Int → Prop) → Int → Int → Int → Int → Prop) (x0 : Int) (x1 : Int) (x2 : Int) (x3 : Int) : Prop := ∃ I : Nat → Int → Int → Int → Int → Prop, (∃ n, I n x0 x1 x2 x3) ∧ ∀ n x0 x1 x2 x3, I n x0 x1 x2 x3 → body (fun x0' x1' x2' x3' => ∃ n', n' < n ∧ I n' x0' x1' x2' x3') x0 x1 x2 x3
theorem pL4_of {body : (Int → Int → Int → Int → Prop) → Int → Int → Int → Int → Prop} (I : Int → Int → Int → Int → Prop) (μ : Int → Int → Int → Int → Nat) {x0 x1 x2 x3 : Int} (h0 : I x0 x1 x2 x3) (hs : ∀ (K : Int → Int → Int → Int → Prop) (x0 : Int) (x1 : Int) (x2 : Int) (x3 : Int), I x0 x1 x2 x3 → (∀ (x0' : Int) (x1' : Int) (x2' : Int) (x3' : Int), I x0' x1' x2' x3' → μ x0' x1' x2' x3' < μ x0 x1 x2 x3 → K x0' x1' x2' x3') → body K x0 x1 x2 x3) : pL4 body x0 x1 x2 x3 :=
  ⟨fun n x0 x1 x2 x3 => I x0 x1 x2 x3 ∧ μ x0 x1 x2 x3 = n, ⟨_, h0, rfl⟩, fun n x0 x1 x2 x3 hI => hs _ x0 x1 x2 x3 hI.1 (fun x0' x1' x2' x3' a b => ⟨_, by omega, a, rfl⟩)⟩
def pJ4 (A : (Int → Int → Int → Int → Prop) → Prop) (B : Int → Int → Int → Int → Prop) : Prop := ∃ J : Int → Int → Int → Int → Prop, (∀ x0 x1 x2 x3, J x0 x1 x2 x3 → B x0 x1 x2 x3) ∧ A J
theorem pJ4_of {A : (Int → Int → Int → Int → Prop) → Prop} {B : Int → Int → Int → Int → Prop} (J : Int → Int → Int → Int → Prop) (hB : ∀ (x0 : Int) (x1 : Int) (x2 : Int) (x3 : Int), J x0 x1 x2 x3 → B x0 x1 x2 x3) (hA : A J) : pJ4 A B := ⟨J, hB, hA⟩
theorem pJ4_dup {A : (Int → Int → Int → Int → Prop) → Prop} {B : Int → Int → Int → Int → Prop} (h : A B) : pJ4 A B := ⟨B, fun _ _ _ _ h => h, h⟩
def pL5 (body : (Int → Int → Int → Int → Int → Prop) → Int → Int → Int → Int → Int → Prop) (x0 : Int) (x1 : Int) (x2 : Int) (x3 : Int) (x4 : Int) : Prop := ∃ I : Nat → Int → Int → Int → Int → Int → Prop, (∃ n, I n x0 x1 x2 x3 x4) ∧ ∀ n x0 x1 x2 x3 x4, I n x0 x1 x2 x3 x4 → body (fun x0' x1' x2' x3' x4' => ∃ n', n' < n ∧ I n' x0' x1' x2' x3' x4') x0 x1 x2 x3 x4
theorem pL5_of {body : (Int → Int → Int → Int → Int → Prop) → Int → Int → Int → Int → Int → Prop} (I : Int → Int → Int → Int → Int → Prop) (μ : Int → Int → Int → Int → Int → Nat) {x0 x1 x2 x3 x4 : Int} (h0 : I x0 x1 x2 x3 x4) (hs : ∀ (K : Int → Int → Int → Int → Int → Prop) (x0 : Int) (x1 : Int) (x2 : Int) (x3 : Int) (x4 : Int), I x0 x1 x2 x3 x4 → (∀ (x0' : Int) (x1' : Int) (x2' : Int) (x3' : Int) (x4' : Int), I x0' x1' x2' x3' x4' → μ x0' x1' x2' x3' x4' < μ x0 x1 x2 x3 x4 → K x0' x1' x2' x3' x4') → body K x0 x1 x2 x3 x4) : pL5 body x0 x1 x2 x3 x4 :=
  ⟨fun n x0 x1 x2 x3 x4 => I x0 x1 x2 x3 x4 ∧ μ x0 x1 x2 x3 x4 = n, ⟨_, h0, rfl⟩, fun n x0 x1 x2 x3 x4 hI => hs _ x0 x1 x2 x3 x4 hI.1 (fun x0' x1' x2' x3' x4' a b => ⟨_, by omega, a, rfl⟩)⟩
def pJ5 (A : (Int → Int → Int → Int → Int → Prop) → Prop) (B : Int → Int → Int → Int → Int → Prop) : Prop := ∃ J : Int → Int → Int → Int → Int → Prop, (∀ x0 x1 x2 x3 x4, J x0 x1 x2 x3 x4 → B x0 x1 x2 x3 x4) ∧ A J
theorem pJ5_of {A : (Int → Int → Int → Int → Int → Prop) → Prop} {B : Int → Int → Int → Int → Int → Prop} (J : Int → Int → Int → Int → Int → Prop) (hB : ∀ (x0 : Int) (x1 : Int) (x2 : Int) (x3 : Int) (x4 : Int), J x0 x1 x2 x3 x4 → B x0 x1 x2 x3 x4) (hA : A J) : pJ5 A B := ⟨J, hB, hA⟩
theorem pJ5_dup {A : (Int → Int → Int → Int → Int → Prop) → Prop} {B : Int → Int → Int → Int → Int → Prop} (h : A B) : pJ5 A B := ⟨B, fun _ _ _ _ _ h => h, h⟩
def pL6 (body : (Int → Int → Int → Int → Int → Int → Prop) → Int → Int → Int → Int → Int → Int → Prop) (x0 : Int) (x1 : Int) (x2 : Int) (x3 : Int) (x4 : Int) (x5 : Int) : Prop := ∃ I : Nat → Int → Int → Int → Int → Int → Int → Prop, (∃ n, I n x0 x1 x2 x3 x4 x5) ∧ ∀ n x0 x1 x2 x3 x4 x5, I n x0 x1 x2 x3 x4 x5 → body (fun x0' x1' x2' x3' x4' x5' => ∃ n', n' < n ∧ I n' x0' x1' x2' x3' x4' x5') x0 x1 x2 x3 x4 x5
theorem pL6_of {body : (Int → Int → Int → Int → Int → Int → Prop) → Int → Int → Int → Int → Int → Int → Prop} (I : Int → Int → Int → Int → Int → Int → Prop) (μ : Int → Int → Int → Int → Int → Int → Nat) {x0 x1 x2 x3 x4 x5 : Int} (h0 : I x0 x1 x2 x3 x4 x5) (hs : ∀ (K : Int → Int → Int → Int → Int → Int → Prop) (x0 : Int) (x1 : Int) (x2 : Int) (x3 : Int) (x4 : Int) (x5 : Int), I x0 x1 x2 x3 x4 x5 → (∀ (x0' : Int) (x1' : Int) (x2' : Int) (x3' : Int) (x4' : Int) (x5' : Int), I x0' x1' x2' x3' x4' x5' → μ x0' x1' x2' x3' x4' x5' < μ x0 x1 x2 x3 x4 x5 → K x0' x1' x2' x3' x4' x5') → body K x0 x1 x2 x3 x4 x5) : pL6 body x0 x1 x2 x3 x4 x5 :=
  ⟨fun n x0 x1 x2 x3 x4 x5 => I x0 x1 x2 x3 x4 x5 ∧ μ x0 x1 x2 x3 x4 x5 = n, ⟨_, h0, rfl⟩, fun n x0 x1 x2 x3 x4 x5 hI => hs _ x0 x1 x2 x3 x4 x5 hI.1 (fun x0' x1' x2' x3' x4' x5' a b => ⟨_, by omega, a, rfl⟩)⟩
def pJ6 (A : (Int → Int → Int → Int → Int → Int → Prop) → Prop) (B : Int → Int → Int → Int → Int → Int → Prop) : Prop := ∃ J : Int → Int → Int → Int → Int → Int → Prop, (∀ x0 x1 x2 x3 x4 x5, J x0 x1 x2 x3 x4 x5 → B x0 x1 x2 x3 x4 x5) ∧ A J
theorem pJ6_of {A : (Int → Int → Int → Int → Int → Int → Prop) → Prop} {B : Int → Int → Int → Int → Int → Int → Prop} (J : Int → Int → Int → Int → Int → Int → Prop) (hB : ∀ (x0 : Int) (x1 : Int) (x2 : Int) (x3 : Int) (x4 : Int) (x5 : Int), J x0 x1 x2 x3 x4 x5 → B x0 x1 x2 x3 x4 x5) (hA : A J) : pJ6 A B := ⟨J, hB, hA⟩
theorem pJ6_dup {A : (Int → Int → Int → Int → Int → Int → Prop) → Prop} {B : Int → Int → Int → Int → Int → Int → Prop} (h : A B) : pJ6 A B := ⟨B, fun _ _ _ _ _ _ h => h, h⟩
def pL7 (body : (Int → Int → Int → Int → Int → Int → Int → Prop) → Int → Int → Int → Int → Int → Int → Int → Prop) (x0 : Int) (x1 : Int) (x2 : Int) (x3 : Int) (x4 : Int) (x5 : Int) (x6 : Int) : Prop := ∃ I : Nat → Int → Int → Int → Int → Int → Int → Int → Prop, (∃ n, I n x0 x1 x2 x3 x4 x5 x6) ∧ ∀ n x0 x1 x2 x3 x4 x5 x6, I n x0 x1 x2 x3 x4 x5 x6 → body (fun x0' x1' x2' x3' x4' x5' x6' => ∃ n', n' < n ∧ I n' x0' x1' x2' x3' x4' x5' x6') x0 x1 x2 x3 x4 x5 x6
theorem pL7_of {body : (Int → Int → Int → Int → Int → Int → Int → Prop) → Int → Int → Int → Int → Int → Int → Int → Prop} (I : Int → Int → Int → Int → Int → Int → Int → Prop) (μ : Int → Int → Int → Int → Int → Int → Int → Nat) {x0 x1 x2 x3 x4 x5 x6 : Int} (h0 : I x0 x1 x2 x3 x4 x5 x6) (hs : ∀ (K : Int → Int → Int → Int → Int → Int → Int → Prop) (x0 : Int) (x1 : Int) (x2 : Int) (x3 : Int) (x4 : Int) (x5 : Int) (x6 : Int), I x0 x1 x2 x3 x4 x5 x6 → (∀ (x0' : Int) (x1' : Int) (x2' : Int) (x3' : Int) (x4' : Int) (x5' : Int) (x6' : Int), I x0' x1' x2' x3' x4' x5' x6' → μ x0' x1' x2' x3' x4' x5' x6' < μ x0 x1 x2 x3 x4 x5 x6 → K x0' x1' x2' x3' x4' x5' x6') → body K x0 x1 x2 x3 x4 x5 x6) : pL7 body x0 x1 x2 x3 x4 x5 x6 :=
  ⟨fun n x0 x1 x2 x3 x4 x5 x6 => I x0 x1 x2 x3 x4 x5 x6 ∧ μ x0 x1 x2 x3 x4 x5 x6 = n, ⟨_, h0, rfl⟩, fun n x0 x1 x2 x3 x4 x5 x6 hI => hs _ x0 x1 x2 x3 x4 x5 x6 hI.1 (fun x0' x1' x2' x3' x4' x5' x6' a b => ⟨_, by omega, a, rfl⟩)⟩
def pJ7 (A : (Int → Int → Int → Int → Int → Int → Int → Prop) → Prop) (B : Int → Int → Int → Int → Int → Int → Int → Prop) : Prop := ∃ J : Int → Int → Int → Int → Int → Int → Int → Prop, (∀ x0 x1 x2 x3 x4 x5 x6, J x0 x1 x2 x3 x4 x5 x6 → B x0 x1 x2 x3 x4 x5 x6) ∧ A J
theorem pJ7_of {A : (Int → Int → Int → Int → Int → Int → Int → Prop) → Prop} {B : Int → Int → Int → Int → Int → Int → Int → Prop} (J : Int → Int → Int → Int → Int → Int → Int → Prop) (hB : ∀ (x0 : Int) (x1 : Int) (x2 : Int) (x3 : Int) (x4 : Int) (x5 : Int) (x6 : Int), J x0 x1 x2 x3 x4 x5 x6 → B x0 x1 x2 x3 x4 x5 x6) (hA : A J) : pJ7 A B := ⟨J, hB, hA⟩
theorem pJ7_dup {A : (Int → Int → Int → Int → Int → Int → Int → Prop) → Prop} {B : Int → Int → Int → Int → Int → Int → Int → Prop} (h : A B) : pJ7 A B := ⟨B, fun _ _ _ _ _ _ _ h => h, h⟩
def pL8 (body : (Int → Int → Int → Int → Int → Int → Int → Int → Prop) → Int → Int → Int → Int → Int → Int → Int → Int → Prop) (x0 : Int) (x1 : Int) (x2 : Int) (x3 : Int) (x4 : Int) (x5 : Int) (x6 : Int) (x7 : Int) : Prop := ∃ I : Nat → Int → Int → Int → Int → Int → Int → Int → Int → Prop, (∃ n, I n x0 x1 x2 x3 x4 x5 x6 x7) ∧ ∀ n x0 x1 x2 x3 x4 x5 x6 x7, I n x0 x1 x2 x3 x4 x5 x6 x7 → body (fun x0' x1' x2' x3' x4' x5' x6' x7' => ∃ n', n' < n ∧ I n' x0' x1' x2' x3' x4' x5' x6' x7') x0 x1 x2 x3 x4 x5 x6 x7
theorem pL8_of {body : (Int → Int → Int → Int → Int → Int → Int → Int → Prop) → Int → Int → Int → Int → Int → Int → Int → Int → Prop} (I : Int → Int → Int → Int → Int → Int → Int → Int → Prop) (μ : Int → Int → Int → Int → Int → Int → Int → Int → Nat) {x0 x1 x2 x3 x4 x5 x6 x7 : Int} (h0 : I x0 x1 x2 x3 x4 x5 x6 x7) (hs : ∀ (K : Int → Int → Int → Int → Int → Int → Int → Int → Prop) (x0 : Int) (x1 : Int) (x2 : Int) (x3 : Int) (x4 : Int) (x5 : Int) (x6 : Int) (x7 : Int), I x0 x1 x2 x3 x4 x5 x6 x7 → (∀ (x0' : Int) (x1' : Int) (x2' : Int) (x3' : Int) (x4' : Int) (x5' : Int) (x6' : Int) (x7' : Int), I x0' x1' x2' x3' x4' x5' x6' x7' → μ x0' x1' x2' x3' x4' x5' x6' x7' < μ x0 x1 x2 x3 x4 x5 x6 x7 → K x0' x1' x2' x3' x4' x5' x6' x7') → body K x0 x1 x2 x3 x4 x5 x6 x7) : pL8 body x0 x1 x2 x3 x4 x5 x6 x7 :=
  ⟨fun n x0 x1 x2 x3 x4 x5 x6 x7 => I x0 x1 x2 x3 x4 x5 x6 x7 ∧ μ x0 x1 x2 x3 x4 x5 x6 x7 = n, ⟨_, h0, rfl⟩, fun n x0 x1 x2 x3 x4 x5 x6 x7 hI => hs _ x0 x1 x2 x3 x4 x5 x6 x7 hI.1 (fun x0' x1' x2' x3' x4' x5' x6' x7' a b => ⟨_, by omega, a, rfl⟩)⟩
def pJ8 (A : (Int → Int → Int → Int → Int → Int → Int → Int → Prop) → Prop) (B : Int → Int → Int → Int → Int → Int → Int → Int → Prop) : Prop := ∃ J : Int → Int → Int → Int → Int → Int → Int → Int → Prop, (∀ x0 x1 x2 x3 x4 x5 x6 x7, J x0 x1 x2 x3 x4 x5 x6 x7 → B x0 x1 x2 x3 x4 x5 x6 x7) ∧ A J
theorem pJ8_of {A : (Int → Int → Int → Int → Int → Int → Int → Int → Prop) → Prop} {B : Int → Int → Int → Int → Int → Int → Int → Int → Prop} (J : Int → Int → Int → Int → Int → Int → Int → Int → Prop) (hB : ∀ (x0 : Int) (x1 : Int) (x2 : Int) (x3 : Int) (x4 : Int) (x5 : Int) (x6 : Int) (x7 : Int), J x0 x1 x2 x3 x4 x5 x6 x7 → B x0 x1 x2 x3 x4 x5 x6 x7) (hA : A J) : pJ8 A B := ⟨J, hB, hA⟩
theorem pJ8_dup {A : (Int → Int → Int → Int → Int → Int → Int → Int → Prop) → Prop} {B : Int → Int → Int → Int → Int → Int → Int → Int → Prop} (h : A B) : pJ8 A B := ⟨B, fun _ _ _ _ _ _ _ _ h => h, h⟩
theorem tb_0_3 (x : Int) (h0 : x ≠ 0) (h1 : x ≠ 1) (h2 : x ≠ 2) (h3 : x ≠ 3) : x < 0 ∨ 3 < x := by omega
theorem tb_0_5 (x : Int) (h0 : x ≠ 0) (h1 : x ≠ 1) (h2 : x ≠ 2) (h3 : x ≠ 3) (h4 : x ≠ 4) (h5 : x ≠ 5) : x < 0 ∨ 5 < x := by omega
theorem tb_0_7 (x : Int) (h0 : x ≠ 0) (h1 : x ≠ 1) (h2 : x ≠ 2) (h3 : x ≠ 3) (h4 : x ≠ 4) (h5 : x ≠ 5) (h6 : x ≠ 6) (h7 : x ≠ 7) : x < 0 ∨ 7 < x := by omega
