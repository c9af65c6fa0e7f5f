/-! Arrays.fill of ints in a world that is being made -/
def zfill (M : zM) (j N : Nat) (v : Int) : zM := fun a k => if a = j ∧ k < N then v else M a k
theorem zfill_0 {M : zM} {j : Nat} {v : Int} : zfill M j 0 v = M := by
  funext a k
  unfold zfill
  rw [if_neg (by omega)]
theorem zfill_s {M : zM} {j i : Nat} {v : Int} : zup (zfill M j i v) j i v = zfill M j (i + 1) v := by
  funext a k
  unfold zup zfill
  by_cases h : a = j ∧ k = i
  · rw [if_pos h, if_pos ⟨h.1, by omega⟩]
  · rw [if_neg h]
    by_cases h2 : a = j ∧ k < i
    · rw [if_pos h2, if_pos ⟨h2.1, by omega⟩]
    · rw [if_neg h2, if_neg (fun q => (by omega : k = i ∨ k < i).elim (fun z => h ⟨q.1, z⟩) (fun z => h2 ⟨q.1, z⟩))]
section ZY
variable {p : Program} {l : Launch} {e : Env} {R : Room} {s : State} {m : MethodId} {args : Array Value} {below : List Frame} {meth : Method} {c : Code} {H : Heap} {locs : List Loc} {cells slots : Nat} {Q : State → Prop}
variable {cc : ByteArray} {pc : Nat} {ls : Array Slot} {rest : List Value} {D : va_G} {dA : Nat → ClassId} {cl : List vw_C} {tys : List (ClassId × FieldType)} {w : zW} {n b : Nat} {M : zM} {T : zT}
theorem y_alen (hexec : p.tables.exec = Jvm.exec) (hb : c.code = cc) (hK : va_K D cl tys s) {t0 r : Nat} {ty : FieldType} (ht : tys[t0]? = some (dA r, ty)) (hY : yS D dA cl w n b M T H) {j N : Nat} (hj : j < n) (hkd : zkd w j = 100 + r) (hln : zln w j = N) (hdg : decode cc pc = .ok (.arraylength, 1))
    (kk : W p l e R s m args below meth c H locs cells slots Q (F0 m (pc + 1) ls (.int (iI (N : Int)) :: rest))) : W p l e R s m args below meth c H locs cells slots Q (F0 m pc ls (.ref (b + j) :: rest)) := by
  have hc := y_arr hY hj (by omega)
  have hP : va_P D cl [(b + j, .inl (dA r, yar w b j (M j) (T j)))] H := by
    intro i q hq
    have hi : i = 0 := by
      have := (List.getElem?_eq_some_iff.mp hq).1
      simp at this
      exact this
    subst hi
    cases hq
    rw [hkd, show 100 + r - 100 = r by omega] at hc
    exact hc
  have hz : (yar w b j (M j) (T j)).1 = N := by
    unfold yar
    split
    · exact hln
    · split
      · exact hln
      · exact hln
  exact va_alen hexec hb hK hP 0 t0 rfl ht (v := iI (N : Int)) (by rw [hz]; rfl) hdg kk
end ZY
set_option maxHeartbeats 4000000 in
set_option maxRecDepth 100000 in
theorem mk_fill (l : Launch) (D : va_G) (dA : Nat → ClassId) (b : Nat) (w : zW) (M : zM) (T : zT) (n j N : Nat) (v : Int) (lt_j : j < n) (hkd : zkd w j = 100) (hln : zln w j = N) (hN : N < 2147483648) (r_v : R32 v) (hbd : ∀ k, (zbd w j k).1 ≤ v ∧ v ≤ (zbd w j k).2) : Met l yJ7_fill_53178 (.code yJ7_fill_53178 cJ7_fill_53178 4 none :: zt) (y_rm 0 0 0) (va_Pc [.ref (b + j), .int (iI v)] (yP D dA vwCl (z_tys dA) w n b M T)) (va_Qv (fun _ => True) (yB D dA vwCl w n b (zfill M j N v) T) (yA b)) 0 0 (yA b) := by
  refine Met.ofW (cc := cJ7_fill_53178) (maxL := 4) (ret := none) (by decide) rfl ?_
  intro p e s m args below meth c s₁ B hml hv
  obtain ⟨hargs, hY, hK, hO⟩ := hv
  have hx := B.exec
  have hb := B.bytes
  have hr := B.returns
  have hlocks := B.notSynchronized
  have hS0 : va_S (yA b) s.heap s.heap [] := va_S.rf
  have hl := lv_entry ([.ref (b + j), .int (iI v)]) (n := 4) (Nat.le_of_ble_eq_true rfl)
  have hent : entryFrame m args 4 = F0 m 0 ((lg_sl ([.ref (b + j), .int (iI v)]) ++ List.replicate (4 - (lg_sl ([.ref (b + j), .int (iI v)])).length) Slot.unset).toArray) [] := by rw [hargs]; exact lg_entry_eq m ([.ref (b + j), .int (iI v)]) 4
  rw [hent]
  generalize (lg_sl ([.ref (b + j), .int (iI v)]) ++ List.replicate (4 - (lg_sl ([.ref (b + j), .int (iI v)])).length) Slot.unset).toArray = ls at hl ⊢
  have hl : lv_has ls 4 [(0, .ref (b + j)), (1, .int (iI v))] := hl
  refine z_iconst hx hb dJ7_fill_53178_0 ?_
  refine lv_istore_n (lv' := [(2, .int (iI 0)), (0, .ref (b + j)), (1, .int (iI v))]) hx hb dJ7_fill_53178_1 rfl hl (by decide) rfl (fun ls hl => ?_)
  refine lv_aload_n hx hb dJ7_fill_53178_2 rfl (lv_at hl 1 rfl) ?_
  refine y_alen hx hb hK.1 (t0 := 0) (r := 0) rfl hY lt_j hkd hln dJ7_fill_53178_3 ?_
  refine lv_istore_n (lv' := [(3, .int (iI (N : Int))), (2, .int (iI 0)), (0, .ref (b + j)), (1, .int (iI v))]) hx hb dJ7_fill_53178_4 rfl hl (by decide) rfl (fun ls hl => ?_)
  have loop : ∀ (d i : Nat) (H : Heap) (locs : List Loc) (ls : Array Slot), i + d = N → yS D dA vwCl w n b (zfill M j i v) T H → va_S (yA b) s.heap H locs → lv_has ls 4 [(0, .ref (b + j)), (1, .int (iI v)), (2, .int (iI (i : Int))), (3, .int (iI (N : Int)))] → W p l e (y_rm 0 0 0) s m args below meth c H locs 0 0 (MQ below (va_Qv (fun _ => True) (yB D dA vwCl w n b (zfill M j N v) T) (yA b)) args s 0 0 (yA b)) (F0 m 5 ls []) := by
    intro d
    induction d with
    | zero =>
      intro i H locs ls hd hY hS0 hl
      refine lv_iload_n hx hb dJ7_fill_53178_5 rfl (lv_at hl 2 rfl) ?_
      refine lv_iload_n hx hb dJ7_fill_53178_6 rfl (lv_at hl 3 rfl) ?_
      refine z_icmp_ge (tgt := 20) hx hb ⟨by omega, by omega⟩ ⟨by omega, by omega⟩ dJ7_fill_53178_7 (by decide) (fun _ => ?_) (fun c9 => absurd c9 (by omega))
      have hi : i = N := by omega
      subst hi
      exact y_ret hx hb hr hlocks hY hS0 dJ7_fill_53178_20
    | succ d ih =>
      intro i H locs ls hd hY hS0 hl
      refine lv_iload_n hx hb dJ7_fill_53178_5 rfl (lv_at hl 2 rfl) ?_
      refine lv_iload_n hx hb dJ7_fill_53178_6 rfl (lv_at hl 3 rfl) ?_
      refine z_icmp_ge (tgt := 20) hx hb ⟨by omega, by omega⟩ ⟨by omega, by omega⟩ dJ7_fill_53178_7 (by decide) (fun c9 => absurd c9 (by omega)) (fun _ => ?_)
      refine lv_aload_n hx hb dJ7_fill_53178_10 rfl (lv_at hl 0 rfl) ?_
      refine lv_iload_n hx hb dJ7_fill_53178_11 rfl (lv_at hl 2 rfl) ?_
      refine lv_iload_n hx hb dJ7_fill_53178_12 rfl (lv_at hl 1 rfl) ?_
      refine y_iast (z := v) (i := (i : Int)) hx hb hK.1 (t0 := 0) rfl hY hS0 lt_j hkd hln (by omega) (by omega) hN (hbd _) dJ7_fill_53178_13 (fun H locs hY hS0 => ?_)
      refine z_iinc (lv' := [(2, .int (iI ((i : Int) + 1))), (0, .ref (b + j)), (1, .int (iI v)), (3, .int (iI (N : Int)))]) hx hb dJ7_fill_53178_14 hl (k := 2) rfl (by decide) rfl (fun ls hl => ?_)
      refine lv_goto (tgt := 5) hx hb dJ7_fill_53178_17 (by decide) ?_
      rw [show ((i : Int).toNat) = i from rfl, zfill_s] at hY
      exact ih (i + 1) H locs ls (by omega) hY hS0 (lv_sub hl [1, 2, 0, 3] rfl)
  rw [← zfill_0 (M := M) (j := j) (v := v)] at hY
  exact loop N 0 _ _ ls (by omega) hY hS0 (lv_sub hl [2, 3, 1, 0] rfl)
