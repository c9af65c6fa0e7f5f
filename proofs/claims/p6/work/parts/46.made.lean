/-! a made world is a world; what a new object holds -/
theorem getD_all {α : Type} {P : α → Prop} {L : List α} {d : α} {q : Nat} (h : ∀ x ∈ L, P x) (hd : P d) : P (L.getD q d) := by
  rw [List.getD_eq_getElem?_getD]
  cases hq : L[q]? with
  | none => exact hd
  | some x => exact h x (List.mem_of_getElem? hq)
abbrev okp (p : Int × Int) : Prop := p.1 ≤ 0 ∧ 0 ≤ p.2
theorem zp_bd0 (q k : Nat) : okp (zp_bd q k) := by
  unfold zp_bd
  refine getD_all (P := fun f : Nat → Int × Int => ∀ k, okp (f k)) ?_ (fun _ => by decide) k
  exact List.forall_mem_cons.mpr ⟨fun k => getD_all (P := okp) (by decide) (by decide), List.forall_mem_cons.mpr ⟨fun k => getD_all (P := okp) (by decide) (by decide), List.forall_mem_cons.mpr ⟨fun _ => (by decide : okp (0, 255)), List.forall_mem_cons.mpr ⟨fun _ => (by decide : okp (-2147483648, 2147483647)), List.forall_mem_cons.mpr ⟨fun _ => (by decide : okp (-2147483648, 2147483647)), List.forall_mem_cons.mpr ⟨fun _ => (by decide : okp (0, 9)), List.forall_mem_cons.mpr ⟨fun k => getD_all (P := okp) (by decide) (by decide), List.forall_mem_cons.mpr ⟨fun _ => (by decide : okp (-2147483648, 2147483647)), List.forall_mem_cons.mpr ⟨fun k => getD_all (P := okp) (by decide) (by decide), List.forall_mem_cons.mpr ⟨fun _ => (by decide : okp (-2147483648, 2147483647)), List.forall_mem_cons.mpr ⟨fun _ => (by decide : okp (-2147483648, 2147483647)), List.forall_mem_cons.mpr ⟨fun k => getD_all (P := okp) (by decide) (by decide), List.forall_mem_cons.mpr ⟨fun _ => (by decide : okp (0, 5000)), List.forall_mem_cons.mpr ⟨fun _ => (by decide : okp (-9, 9)), List.forall_mem_cons.mpr ⟨fun k => getD_all (P := okp) (by decide) (by decide), List.forall_mem_cons.mpr ⟨fun _ => (by decide : okp (-2147483648, 2147483647)), List.forall_mem_cons.mpr ⟨fun k => getD_all (P := okp) (by decide) (by decide), List.forall_mem_cons.mpr ⟨fun _ => (by decide : okp (0, 24)), List.forall_mem_cons.mpr ⟨fun _ => (by decide : okp (-2147483648, 2147483647)), List.forall_mem_cons.mpr ⟨fun k => getD_all (P := okp) (by decide) (by decide), List.forall_mem_cons.mpr ⟨fun _ => (by decide : okp (0, 100000)), List.forall_mem_cons.mpr ⟨fun _ => (by decide : okp (0, 9)), List.forall_mem_cons.mpr ⟨fun _ => (by decide : okp (0, 23)), List.forall_mem_cons.mpr ⟨fun _ => (by decide : okp (-2147483648, 2147483647)), List.forall_mem_cons.mpr ⟨fun _ => (by decide : okp (0, 63)), List.forall_mem_cons.mpr ⟨fun _ => (by decide : okp (-2147483648, 2147483647)), List.forall_mem_cons.mpr ⟨fun _ => (by decide : okp (-2147483648, 2147483647)), List.forall_mem_cons.mpr ⟨fun _ => (by decide : okp (-2147483648, 2147483647)), List.forall_mem_cons.mpr ⟨fun _ => (by decide : okp (-2147483648, 2147483647)), List.forall_mem_cons.mpr ⟨fun _ => (by decide : okp (-2147483648, 2147483647)), List.forall_mem_cons.mpr ⟨fun k => getD_all (P := okp) (by decide) (by decide), List.forall_mem_cons.mpr ⟨fun _ => (by decide : okp (-2147483648, 2147483647)), List.forall_mem_cons.mpr ⟨fun _ => (by decide : okp (0, 200)), List.forall_mem_cons.mpr ⟨fun _ => (by decide : okp (0, 5000)), List.forall_mem_cons.mpr ⟨fun k => getD_all (P := okp) (by decide) (by decide), List.forall_mem_cons.mpr ⟨fun _ => (by decide : okp (-2147483648, 2147483647)), List.forall_mem_cons.mpr ⟨fun _ => (by decide : okp (-2147483648, 2147483647)), List.forall_mem_cons.mpr ⟨fun _ => (by decide : okp (-2147483648, 2147483647)), List.forall_mem_cons.mpr ⟨fun k => getD_all (P := okp) (by decide) (by decide), List.forall_mem_cons.mpr ⟨fun _ => (by decide : okp (0, 9)), List.forall_mem_cons.mpr ⟨fun _ => (by decide : okp (-2147483648, 2147483647)), List.forall_mem_cons.mpr ⟨fun _ => (by decide : okp (0, 9)), List.forall_mem_cons.mpr ⟨fun _ => (by decide : okp (0, 8)), List.forall_mem_cons.mpr ⟨fun _ => (by decide : okp (0, 9)), List.forall_mem_cons.mpr ⟨fun k => getD_all (P := okp) (by decide) (by decide), List.forall_mem_cons.mpr ⟨fun _ => (by decide : okp (-2147483648, 2147483647)), List.forall_mem_cons.mpr ⟨fun _ => (by decide : okp (-2147483648, 2147483647)), List.forall_mem_cons.mpr ⟨fun _ => (by decide : okp (0, 999)), List.forall_mem_cons.mpr ⟨fun _ => (by decide : okp (-2147483648, 2147483647)), List.forall_mem_cons.mpr ⟨fun _ => (by decide : okp (-2147483648, 2147483647)), List.forall_mem_cons.mpr ⟨fun k => getD_all (P := okp) (by decide) (by decide), List.forall_mem_cons.mpr ⟨fun _ => (by decide : okp (-128, 127)), List.forall_mem_cons.mpr ⟨fun _ => (by decide : okp (-2147483648, 2147483647)), List.forall_mem_cons.mpr ⟨fun _ => (by decide : okp (-2147483648, 2147483647)), List.forall_mem_cons.mpr ⟨fun _ => (by decide : okp (0, 24)), List.forall_mem_cons.mpr ⟨fun _ => (by decide : okp (0, 1)), List.forall_mem_cons.mpr ⟨fun _ => (by decide : okp (0, 23)), List.forall_mem_cons.mpr ⟨fun _ => (by decide : okp (-2147483648, 2147483647)), List.forall_mem_cons.mpr ⟨fun _ => (by decide : okp (-2147483648, 2147483647)), List.forall_mem_cons.mpr ⟨fun _ => (by decide : okp (0, 5000)), List.forall_mem_cons.mpr ⟨fun _ => (by decide : okp (-9, 9)), List.forall_mem_cons.mpr ⟨fun _ => (by decide : okp (0, 12)), List.forall_mem_cons.mpr ⟨fun _ => (by decide : okp (0, 100000)), List.forall_mem_cons.mpr ⟨fun _ => (by decide : okp (0, 9)), List.forall_mem_cons.mpr ⟨fun _ => (by decide : okp (0, 200)), List.forall_mem_cons.mpr ⟨fun _ => (by decide : okp (-2147483648, 2147483647)), List.forall_mem_cons.mpr ⟨fun _ => (by decide : okp (0, 15)), List.forall_mem_cons.mpr ⟨fun _ => (by decide : okp (0, 8)), List.forall_mem_cons.mpr ⟨fun _ => (by decide : okp (-2147483648, 2147483647)), List.forall_mem_cons.mpr ⟨fun _ => (by decide : okp (0, 24)), List.forall_mem_cons.mpr ⟨fun _ => (by decide : okp (-2147483648, 2147483647)), List.forall_mem_cons.mpr ⟨fun _ => (by decide : okp (0, 999)), List.forall_mem_cons.mpr ⟨fun _ => (by decide : okp (-2147483648, 2147483647)), List.forall_mem_cons.mpr ⟨fun _ => (by decide : okp (-2147483648, 2147483647)), List.forall_mem_cons.mpr ⟨fun _ => (by decide : okp (0, 24)), List.forall_mem_cons.mpr ⟨fun _ => (by decide : okp (-2147483648, 2147483647)), List.forall_mem_cons.mpr ⟨fun _ => (by decide : okp (0, 24)), List.forall_mem_cons.mpr ⟨fun _ => (by decide : okp (0, 1)), List.forall_mem_cons.mpr ⟨fun _ => (by decide : okp (-2147483648, 2147483647)), List.forall_mem_cons.mpr ⟨fun _ => (by decide : okp (0, 63)), List.forall_mem_cons.mpr ⟨fun _ => (by decide : okp (0, 5000)), List.forall_mem_cons.mpr ⟨fun _ => (by decide : okp (-2147483648, 2147483647)), List.forall_mem_cons.mpr ⟨fun _ => (by decide : okp (-2147483648, 2147483647)), List.forall_mem_cons.mpr ⟨fun _ => (by decide : okp (-2147483648, 2147483647)), fun x h => absurd h List.not_mem_nil⟩⟩⟩⟩⟩⟩⟩⟩⟩⟩⟩⟩⟩⟩⟩⟩⟩⟩⟩⟩⟩⟩⟩⟩⟩⟩⟩⟩⟩⟩⟩⟩⟩⟩⟩⟩⟩⟩⟩⟩⟩⟩⟩⟩⟩⟩⟩⟩⟩⟩⟩⟩⟩⟩⟩⟩⟩⟩⟩⟩⟩⟩⟩⟩⟩⟩⟩⟩⟩⟩⟩⟩⟩⟩⟩⟩⟩⟩⟩⟩⟩⟩⟩⟩
theorem zJ_zC : zJ wC (fun _ _ => 0) := fun j k => zp_bd0 _ k
theorem zJ_zR : zJ wR (fun _ _ => 0) := fun j k => zp_bd0 _ k
theorem arrV_ext {cI : ClassId} {N : Nat} {f g : Nat → Value} (h : ∀ k, k < N → f k = g k) : arrV cI N f = arrV cI N g := by
  unfold arrV
  congr 1
  exact congrArg Array.ofFn (funext fun j => h j.val j.isLt)
theorem zR_made {D : va_G} {dA : Nat → ClassId} {cl : List vw_C} {w : zW} {N b : Nat} {M : zM} {T : zT} {H : Heap} (hY : yS D dA cl w N b M T H) (hT : ∀ j, j < N → (zkd w j < 100 → ∀ k, k < znf w (zkd w j) → zfk w (zkd w j) k ≠ 0 → zfk w (zkd w j) k ≠ 1 → T j k = some (zrf w j k)) ∧ (104 ≤ zkd w j → ∀ k, k < zln w j → T j k = some (zrf w j k))) : zR D dA cl w N b M H := by
  intro j hj
  have h := hY.2.1 j hj
  obtain ⟨h1, h2⟩ := hT j hj
  unfold ycell at h
  unfold zcell
  by_cases hk : zkd w j < 100
  · rw [if_pos hk] at h ⊢
    have e : yfs w b j (M j) (T j) = zfs w b j (M j) := by
      unfold yfs zfs
      refine List.map_congr_left (fun k hkk => ?_)
      have hkn := List.mem_range.mp hkk
      unfold yfv zfv
      by_cases a0 : zfk w (zkd w j) k = 0
      · rw [if_pos a0, if_pos a0]
      · by_cases a1 : zfk w (zkd w j) k = 1
        · rw [if_neg a0, if_neg a0, if_pos a1, if_pos a1]
        · rw [if_neg a0, if_neg a0, if_neg a1, if_neg a1, h1 hk k hkn a0 a1]
          rfl
    rw [e] at h
    exact h
  · rw [if_neg hk] at h ⊢
    have h' : H[b + j]? = some (vp_cell (dA (zkd w j - 100)) (yar w b j (M j) (T j))) := h
    show H[b + j]? = some (vp_cell (dA (zkd w j - 100)) (zar w b j (M j)))
    rw [h']
    congr 1
    unfold yar zar
    by_cases c1 : zkd w j = 101
    · rw [if_pos c1, if_pos c1]
    · by_cases c4 : zkd w j < 104
      · rw [if_neg c1, if_neg c1, if_pos c4, if_pos c4]
      · rw [if_neg c1, if_neg c1, if_neg c4, if_neg c4, vp_cell_q, vp_cell_q]
        refine arrV_ext (fun k hk4 => ?_)
        rw [h2 (by omega) k hk4]
        rfl
def y_chk (w : zW) (N : Nat) (T : zT) : Bool := (List.range N).all fun j => if zkd w j < 100 then (List.range (znf w (zkd w j))).all (fun k => zfk w (zkd w j) k == 0 || zfk w (zkd w j) k == 1 || T j k == some (zrf w j k)) else decide (zkd w j < 104) || (List.range (zln w j)).all (fun k => T j k == some (zrf w j k))
theorem y_chk_ok {w : zW} {N : Nat} {T : zT} (h : y_chk w N T = true) : ∀ j, j < N → (zkd w j < 100 → ∀ k, k < znf w (zkd w j) → zfk w (zkd w j) k ≠ 0 → zfk w (zkd w j) k ≠ 1 → T j k = some (zrf w j k)) ∧ (104 ≤ zkd w j → ∀ k, k < zln w j → T j k = some (zrf w j k)) := by
  intro j hj
  have h1 := List.all_eq_true.mp h j (List.mem_range.mpr hj)
  constructor
  · intro hk k hkn a0 a1
    rw [if_pos hk] at h1
    have h2 := List.all_eq_true.mp h1 k (List.mem_range.mpr hkn)
    simp only [Bool.or_eq_true, beq_iff_eq] at h2
    rcases h2 with (h2 | h2) | h2
    · exact absurd h2 a0
    · exact absurd h2 a1
    · exact h2
  · intro hk k hkn
    rw [if_neg (by omega)] at h1
    simp only [Bool.or_eq_true, decide_eq_true_eq] at h1
    rcases h1 with h1 | h1
    · omega
    · have h2 := List.all_eq_true.mp h1 k (List.mem_range.mpr hkn)
      exact beq_iff_eq.mp h2
def MC0 : zM := mM_C0 (fun _ _ => 0)
def MR0 : zM := mM_R0 (fun _ _ => 0)
def TC0 : zT := mT_C0 (fun _ _ => none)
def TR0 : zT := mT_R0 (fun _ _ => none)
theorem tC_ok : y_chk wC nC TC0 = true := by decide +kernel
theorem tR_ok : y_chk wR nR TR0 = true := by decide +kernel
theorem gC_0_10 : MC0 0 10 = 0 := by decide +kernel
theorem gC_1_1 : MC0 1 1 = 0 := by decide +kernel
theorem gC_30_1 : MC0 30 1 = 0 := by decide +kernel
theorem gC_32_2 : MC0 32 2 = 0 := by decide +kernel
theorem gC_35_2 : MC0 35 2 = 0 := by decide +kernel
theorem gC_38_2 : MC0 38 2 = 0 := by decide +kernel
theorem gC_60_2 : MC0 60 2 = 0 := by decide +kernel
theorem gC_78_0 : MC0 78 0 = 0 := by decide +kernel
theorem gC_78_3 : MC0 78 3 = 1 := by decide +kernel
theorem gC_78_4 : MC0 78 4 = 0 := by decide +kernel
theorem gC_78_5 : MC0 78 5 = 1 := by decide +kernel
theorem gC_78_6 : MC0 78 6 = 0 := by decide +kernel
theorem gC_82_1 : MC0 82 1 = 0 := by decide +kernel
theorem gC_86_0 : MC0 86 0 = 0 := by decide +kernel
theorem gC_96_0 : MC0 96 0 = 0 := by decide +kernel
theorem gR_0_1 : MR0 0 1 = 0 := by decide +kernel
theorem gR_0_10 : MR0 0 10 = 0 := by decide +kernel
theorem gR_0_16 : MR0 0 16 = 0 := by decide +kernel
theorem gR_0_18 : MR0 0 18 = 1 := by decide +kernel
theorem gR_0_19 : MR0 0 19 = 0 := by decide +kernel
theorem gR_0_20 : MR0 0 20 = 1 := by decide +kernel
theorem gR_0_21 : MR0 0 21 = 0 := by decide +kernel
theorem gR_0_22 : MR0 0 22 = 0 := by decide +kernel
theorem gR_0_24 : MR0 0 24 = 0 := by decide +kernel
theorem gR_0_27 : MR0 0 27 = 0 := by decide +kernel
theorem gR_0_3 : MR0 0 3 = 0 := by decide +kernel
theorem gR_0_32 : MR0 0 32 = 0 := by decide +kernel
theorem gR_0_34 : MR0 0 34 = 0 := by decide +kernel
theorem gR_0_36 : MR0 0 36 = 0 := by decide +kernel
theorem aC_80 : ∀ k : Nat, k < 10 → MC0 80 k = 100 := by decide +kernel
theorem aR_11 : ∀ k : Nat, k < 2 → MR0 11 k = 0 := by decide +kernel
theorem aR_14 : ∀ k : Nat, 1 ≤ k → k < 10 → MR0 14 k = 100 := fun k h1 h2 => (by decide +kernel : ∀ k : Nat, k < 10 → 1 ≤ k → MR0 14 k = 100) k h2 h1
