/-! floorMod of longs: a method of Math, walked by its own steps -/
theorem dJ9_floorMod_f86c9_0 : decode cJ9_floorMod_f86c9 0 = .ok (.lload_n 0, 1) := by decide +kernel
theorem dJ9_floorMod_f86c9_1 : decode cJ9_floorMod_f86c9 1 = .ok (.lload_n 2, 1) := by decide +kernel
theorem dJ9_floorMod_f86c9_2 : decode cJ9_floorMod_f86c9 2 = .ok (.lrem, 1) := by decide +kernel
theorem dJ9_floorMod_f86c9_3 : decode cJ9_floorMod_f86c9 3 = .ok (.lstore 4, 2) := by decide +kernel
theorem dJ9_floorMod_f86c9_5 : decode cJ9_floorMod_f86c9 5 = .ok (.lload_n 0, 1) := by decide +kernel
theorem dJ9_floorMod_f86c9_6 : decode cJ9_floorMod_f86c9 6 = .ok (.lload_n 2, 1) := by decide +kernel
theorem dJ9_floorMod_f86c9_7 : decode cJ9_floorMod_f86c9 7 = .ok (.lxor, 1) := by decide +kernel
theorem dJ9_floorMod_f86c9_8 : decode cJ9_floorMod_f86c9 8 = .ok (.lconst 0, 1) := by decide +kernel
theorem dJ9_floorMod_f86c9_9 : decode cJ9_floorMod_f86c9 9 = .ok (.lcmp, 1) := by decide +kernel
theorem dJ9_floorMod_f86c9_10 : decode cJ9_floorMod_f86c9 10 = .ok (.ifCond .ge 15, 3) := by decide +kernel
theorem dJ9_floorMod_f86c9_13 : decode cJ9_floorMod_f86c9 13 = .ok (.lload 4, 2) := by decide +kernel
theorem dJ9_floorMod_f86c9_15 : decode cJ9_floorMod_f86c9 15 = .ok (.lconst 0, 1) := by decide +kernel
theorem dJ9_floorMod_f86c9_16 : decode cJ9_floorMod_f86c9 16 = .ok (.lcmp, 1) := by decide +kernel
theorem dJ9_floorMod_f86c9_17 : decode cJ9_floorMod_f86c9 17 = .ok (.ifCond .eq 8, 3) := by decide +kernel
theorem dJ9_floorMod_f86c9_20 : decode cJ9_floorMod_f86c9 20 = .ok (.lload 4, 2) := by decide +kernel
theorem dJ9_floorMod_f86c9_22 : decode cJ9_floorMod_f86c9 22 = .ok (.lload_n 2, 1) := by decide +kernel
theorem dJ9_floorMod_f86c9_23 : decode cJ9_floorMod_f86c9 23 = .ok (.ladd, 1) := by decide +kernel
theorem dJ9_floorMod_f86c9_24 : decode cJ9_floorMod_f86c9 24 = .ok (.lreturn, 1) := by decide +kernel
theorem dJ9_floorMod_f86c9_25 : decode cJ9_floorMod_f86c9 25 = .ok (.lload 4, 2) := by decide +kernel
theorem dJ9_floorMod_f86c9_27 : decode cJ9_floorMod_f86c9 27 = .ok (.lreturn, 1) := by decide +kernel
def fm_v (a b : Int64) : Int64 := if (a ^^^ b) < 0 then (if a - a / b * b = 0 then a - a / b * b else a - a / b * b + b) else a - a / b * b
theorem fm_row0 : (NativeRow.find? natives yJ9_floorMod_f86c9.cls yJ9_floorMod_f86c9.name yJ9_floorMod_f86c9.desc).isNone = true := by decide +kernel
theorem fm_row (p : Program) : NativeRow.find? p.tables.natives yJ9_floorMod_f86c9.cls yJ9_floorMod_f86c9.name yJ9_floorMod_f86c9.desc = none := by
  cases p <;> exact Option.isNone_iff_eq_none.mp fm_row0
def fm_s (a b : Int64) : Spec where
  pre := .and (.code yJ9_floorMod_f86c9 cJ9_floorMod_f86c9 6 (some .long)) (.and (.count 2) (.and (.isLong (.arg 0)) (.and (.isLong (.arg 1)) (.and (.eq (.arg 0) (.long a)) (.eq (.arg 1) (.long b))))))
  post := .and .returned (.eq .result (.long (fm_v a b)))
  changes := some []
theorem fm_args (a b : Int64) {args : Array Value} {s : State} (h : (Cond.and (.count 2) (.and (.isLong (.arg 0)) (.and (.isLong (.arg 1)) (.and (.eq (.arg 0) (.long a)) (.eq (.arg 1) (.long b)))))).before args s = true) : args = #[.long a, .long b] := by
  simp only [Cond.before_and, Bool.and_eq_true] at h
  obtain ⟨h0, h1, h2, h3, h4⟩ := h
  obtain ⟨a', b', rfl⟩ := Lib.MathLoose.two_longs h0 h1 h2
  simp [Cond.before, Cond.holds, Cond.value, Term.eval] at h3 h4
  rw [h3, h4]
set_option maxHeartbeats 4000000 in
theorem fm_loose (l : Launch) (a b : Int64) (hb0 : b ≠ 0) : MeetsLoose l yJ9_floorMod_f86c9 (fm_s a b) := by
  refine MeetsLoose.of_body_ov (code := cJ9_floorMod_f86c9) (maxLocals := 6) (ret := some .long) fm_row ?_ ?_
  · intro args s h
    simp only [fm_s, Cond.before_and, Bool.and_eq_true] at h
    exact h.1
  · intro p e s m args below meth c s₁ B
    have hpre := B.pre
    unfold fm_s at hpre
    rw [Cond.before_and, Bool.and_eq_true] at hpre
    obtain rfl := fm_args a b hpre.2
    have hloc : argsToLocals #[.long a, .long b] 6 = #[.val (.long a), .second, .val (.long b), .second, .unset, .unset] := rfl
    have fin : (∀ fs, Steps p.tables e below (s₁.setTop (entryFrame m #[.long a, .long b] 6)) (s₁.setFrames fs) ∨ handOver s₁ (some (.long (fm_v a b))) below ≠ some fs) →
        ∃ s₂ o, Steps p.tables e below (s₁.setTop (entryFrame m #[.long a, .long b] 6)) s₂ ∧ s₂.status = .running ∧ Ended s₂ below o ∧ (fm_s a b).ensures #[.long a, .long b] s o s₂ := by
      intro hwalk
      obtain ⟨fs, hfs⟩ := handOver_isSome (s := s₁) (some (.long (fm_v a b))) B.hears₁
      refine ⟨s₁.setFrames fs, .returned (some (.long (fm_v a b))), (hwalk fs).resolve_right (fun h => h hfs), B.here.running, B.ended hfs (by intro h; cases h), ?_, State.sameBut_nil.mpr ?_⟩
      · simp [fm_s, Cond.after, Cond.holds, Cond.value, Term.eval]
      · rw [State.frames_setFrames _ B.cur₁, B.back]
    refine fin (fun fs => ?_)
    by_cases hfs : handOver s₁ (some (.long (fm_v a b))) below = some fs
    · left
      unfold entryFrame; rw [hloc]
      by_cases h1 : (a ^^^ b) < 0
      · have h5 : ¬ (0 < (a ^^^ b)) := by
          intro q
          rw [Int64.lt_iff_toInt_lt] at h1 q
          omega
        have h6 : ¬ ((a ^^^ b) = 0) := by
          intro q
          rw [q] at h1
          exact absurd h1 (by decide)
        by_cases h2 : a - a / b * b = 0
        · unfold fm_v at hfs
          rw [if_pos h1, if_pos h2, h2] at hfs
          refine Steps.instrAtOv (c := _) (by simpa using B.here) ?_
          simp [jvm, wpRun, exec, B.here.top, B.exec, B.bytes, dJ9_floorMod_f86c9_0]
          refine Steps.instrAtOv (c := _) (by simpa using B.here) ?_
          simp [jvm, wpRun, exec, B.here.top, B.exec, B.bytes, dJ9_floorMod_f86c9_1]
          refine Steps.instrAtOv (c := _) (by simpa using B.here) ?_
          simp [jvm, wpRun, exec, B.here.top, B.exec, B.bytes, dJ9_floorMod_f86c9_2, hb0]
          refine Steps.instrAtOv (c := _) (by simpa using B.here) ?_
          simp [jvm, wpRun, exec, B.here.top, B.exec, B.bytes, dJ9_floorMod_f86c9_3]
          refine ⟨#[.val (.long a), .second, .val (.long b), .second, .val (.long (a - a / b * b)), .second], rfl, ?_⟩
          refine Steps.instrAtOv (c := _) (by simpa using B.here) ?_
          simp [jvm, wpRun, exec, B.here.top, B.exec, B.bytes, dJ9_floorMod_f86c9_5]
          refine Steps.instrAtOv (c := _) (by simpa using B.here) ?_
          simp [jvm, wpRun, exec, B.here.top, B.exec, B.bytes, dJ9_floorMod_f86c9_6]
          refine Steps.instrAtOv (c := _) (by simpa using B.here) ?_
          simp [jvm, wpRun, exec, B.here.top, B.exec, B.bytes, dJ9_floorMod_f86c9_7]
          refine Steps.instrAtOv (c := _) (by simpa using B.here) ?_
          simp [jvm, wpRun, exec, B.here.top, B.exec, B.bytes, dJ9_floorMod_f86c9_8]
          refine Steps.instrAtOv (c := _) (by simpa using B.here) ?_
          simp [jvm, wpRun, exec, B.here.top, B.exec, B.bytes, dJ9_floorMod_f86c9_9, h1, h5, h6]
          refine Steps.instrAtOv (c := _) (by simpa using B.here) ?_
          simp [jvm, wpRun, exec, B.here.top, B.exec, B.bytes, dJ9_floorMod_f86c9_10, ifCond.holds]
          refine Steps.instrAtOv (c := _) (by simpa using B.here) ?_
          simp [jvm, wpRun, exec, B.here.top, B.exec, B.bytes, dJ9_floorMod_f86c9_13]
          refine Steps.instrAtOv (c := _) (by simpa using B.here) ?_
          simp [jvm, wpRun, exec, B.here.top, B.exec, B.bytes, dJ9_floorMod_f86c9_15]
          refine Steps.instrAtOv (c := _) (by simpa using B.here) ?_
          simp [jvm, wpRun, exec, B.here.top, B.exec, B.bytes, dJ9_floorMod_f86c9_16, h2]
          refine Steps.instrAtOv (c := _) (by simpa using B.here) ?_
          simp [jvm, wpRun, exec, B.here.top, B.exec, B.bytes, dJ9_floorMod_f86c9_17, ifCond.holds]
          refine Steps.instrAtOv (c := _) (by simpa using B.here) ?_
          simp [jvm, wpRun, exec, B.here.top, B.exec, B.bytes, dJ9_floorMod_f86c9_25]
          refine Steps.instrAtOv (c := _) (by simpa using B.here) ?_
          simp [jvm, wpRun, exec, B.here.top, B.exec, B.bytes, dJ9_floorMod_f86c9_27, B.method₁, B.returns]
          intro acts
          rw [ret_to B.frames₁ B.method₁ B.notSynchronized rfl rfl hfs]
          exact Steps.refl _
        · unfold fm_v at hfs
          rw [if_pos h1, if_neg h2] at hfs
          by_cases h3 : 0 < a - a / b * b
          · skip
            refine Steps.instrAtOv (c := _) (by simpa using B.here) ?_
            simp [jvm, wpRun, exec, B.here.top, B.exec, B.bytes, dJ9_floorMod_f86c9_0]
            refine Steps.instrAtOv (c := _) (by simpa using B.here) ?_
            simp [jvm, wpRun, exec, B.here.top, B.exec, B.bytes, dJ9_floorMod_f86c9_1]
            refine Steps.instrAtOv (c := _) (by simpa using B.here) ?_
            simp [jvm, wpRun, exec, B.here.top, B.exec, B.bytes, dJ9_floorMod_f86c9_2, hb0]
            refine Steps.instrAtOv (c := _) (by simpa using B.here) ?_
            simp [jvm, wpRun, exec, B.here.top, B.exec, B.bytes, dJ9_floorMod_f86c9_3]
            refine ⟨#[.val (.long a), .second, .val (.long b), .second, .val (.long (a - a / b * b)), .second], rfl, ?_⟩
            refine Steps.instrAtOv (c := _) (by simpa using B.here) ?_
            simp [jvm, wpRun, exec, B.here.top, B.exec, B.bytes, dJ9_floorMod_f86c9_5]
            refine Steps.instrAtOv (c := _) (by simpa using B.here) ?_
            simp [jvm, wpRun, exec, B.here.top, B.exec, B.bytes, dJ9_floorMod_f86c9_6]
            refine Steps.instrAtOv (c := _) (by simpa using B.here) ?_
            simp [jvm, wpRun, exec, B.here.top, B.exec, B.bytes, dJ9_floorMod_f86c9_7]
            refine Steps.instrAtOv (c := _) (by simpa using B.here) ?_
            simp [jvm, wpRun, exec, B.here.top, B.exec, B.bytes, dJ9_floorMod_f86c9_8]
            refine Steps.instrAtOv (c := _) (by simpa using B.here) ?_
            simp [jvm, wpRun, exec, B.here.top, B.exec, B.bytes, dJ9_floorMod_f86c9_9, h1, h5, h6]
            refine Steps.instrAtOv (c := _) (by simpa using B.here) ?_
            simp [jvm, wpRun, exec, B.here.top, B.exec, B.bytes, dJ9_floorMod_f86c9_10, ifCond.holds]
            refine Steps.instrAtOv (c := _) (by simpa using B.here) ?_
            simp [jvm, wpRun, exec, B.here.top, B.exec, B.bytes, dJ9_floorMod_f86c9_13]
            refine Steps.instrAtOv (c := _) (by simpa using B.here) ?_
            simp [jvm, wpRun, exec, B.here.top, B.exec, B.bytes, dJ9_floorMod_f86c9_15]
            refine Steps.instrAtOv (c := _) (by simpa using B.here) ?_
            simp [jvm, wpRun, exec, B.here.top, B.exec, B.bytes, dJ9_floorMod_f86c9_16, h2, h3]
            refine Steps.instrAtOv (c := _) (by simpa using B.here) ?_
            simp [jvm, wpRun, exec, B.here.top, B.exec, B.bytes, dJ9_floorMod_f86c9_17, ifCond.holds]
            refine Steps.instrAtOv (c := _) (by simpa using B.here) ?_
            simp [jvm, wpRun, exec, B.here.top, B.exec, B.bytes, dJ9_floorMod_f86c9_20]
            refine Steps.instrAtOv (c := _) (by simpa using B.here) ?_
            simp [jvm, wpRun, exec, B.here.top, B.exec, B.bytes, dJ9_floorMod_f86c9_22]
            refine Steps.instrAtOv (c := _) (by simpa using B.here) ?_
            simp [jvm, wpRun, exec, B.here.top, B.exec, B.bytes, dJ9_floorMod_f86c9_23]
            refine Steps.instrAtOv (c := _) (by simpa using B.here) ?_
            simp [jvm, wpRun, exec, B.here.top, B.exec, B.bytes, dJ9_floorMod_f86c9_24, B.method₁, B.returns]
            intro acts
            rw [ret_to B.frames₁ B.method₁ B.notSynchronized rfl rfl hfs]
            exact Steps.refl _
          · have h7 : a - a / b * b < 0 := by
              have h8 : (a - a / b * b).toInt ≠ 0 := fun q => h2 (Int64.toInt_inj.mp (by rw [q, Int64.toInt_zero]))
              rw [Int64.lt_iff_toInt_lt, Int64.toInt_zero] at h3 ⊢
              omega
            refine Steps.instrAtOv (c := _) (by simpa using B.here) ?_
            simp [jvm, wpRun, exec, B.here.top, B.exec, B.bytes, dJ9_floorMod_f86c9_0]
            refine Steps.instrAtOv (c := _) (by simpa using B.here) ?_
            simp [jvm, wpRun, exec, B.here.top, B.exec, B.bytes, dJ9_floorMod_f86c9_1]
            refine Steps.instrAtOv (c := _) (by simpa using B.here) ?_
            simp [jvm, wpRun, exec, B.here.top, B.exec, B.bytes, dJ9_floorMod_f86c9_2, hb0]
            refine Steps.instrAtOv (c := _) (by simpa using B.here) ?_
            simp [jvm, wpRun, exec, B.here.top, B.exec, B.bytes, dJ9_floorMod_f86c9_3]
            refine ⟨#[.val (.long a), .second, .val (.long b), .second, .val (.long (a - a / b * b)), .second], rfl, ?_⟩
            refine Steps.instrAtOv (c := _) (by simpa using B.here) ?_
            simp [jvm, wpRun, exec, B.here.top, B.exec, B.bytes, dJ9_floorMod_f86c9_5]
            refine Steps.instrAtOv (c := _) (by simpa using B.here) ?_
            simp [jvm, wpRun, exec, B.here.top, B.exec, B.bytes, dJ9_floorMod_f86c9_6]
            refine Steps.instrAtOv (c := _) (by simpa using B.here) ?_
            simp [jvm, wpRun, exec, B.here.top, B.exec, B.bytes, dJ9_floorMod_f86c9_7]
            refine Steps.instrAtOv (c := _) (by simpa using B.here) ?_
            simp [jvm, wpRun, exec, B.here.top, B.exec, B.bytes, dJ9_floorMod_f86c9_8]
            refine Steps.instrAtOv (c := _) (by simpa using B.here) ?_
            simp [jvm, wpRun, exec, B.here.top, B.exec, B.bytes, dJ9_floorMod_f86c9_9, h1, h5, h6]
            refine Steps.instrAtOv (c := _) (by simpa using B.here) ?_
            simp [jvm, wpRun, exec, B.here.top, B.exec, B.bytes, dJ9_floorMod_f86c9_10, ifCond.holds]
            refine Steps.instrAtOv (c := _) (by simpa using B.here) ?_
            simp [jvm, wpRun, exec, B.here.top, B.exec, B.bytes, dJ9_floorMod_f86c9_13]
            refine Steps.instrAtOv (c := _) (by simpa using B.here) ?_
            simp [jvm, wpRun, exec, B.here.top, B.exec, B.bytes, dJ9_floorMod_f86c9_15]
            refine Steps.instrAtOv (c := _) (by simpa using B.here) ?_
            simp [jvm, wpRun, exec, B.here.top, B.exec, B.bytes, dJ9_floorMod_f86c9_16, h2, h3, h7]
            refine Steps.instrAtOv (c := _) (by simpa using B.here) ?_
            simp [jvm, wpRun, exec, B.here.top, B.exec, B.bytes, dJ9_floorMod_f86c9_17, ifCond.holds]
            refine Steps.instrAtOv (c := _) (by simpa using B.here) ?_
            simp [jvm, wpRun, exec, B.here.top, B.exec, B.bytes, dJ9_floorMod_f86c9_20]
            refine Steps.instrAtOv (c := _) (by simpa using B.here) ?_
            simp [jvm, wpRun, exec, B.here.top, B.exec, B.bytes, dJ9_floorMod_f86c9_22]
            refine Steps.instrAtOv (c := _) (by simpa using B.here) ?_
            simp [jvm, wpRun, exec, B.here.top, B.exec, B.bytes, dJ9_floorMod_f86c9_23]
            refine Steps.instrAtOv (c := _) (by simpa using B.here) ?_
            simp [jvm, wpRun, exec, B.here.top, B.exec, B.bytes, dJ9_floorMod_f86c9_24, B.method₁, B.returns]
            intro acts
            rw [ret_to B.frames₁ B.method₁ B.notSynchronized rfl rfl hfs]
            exact Steps.refl _
      · unfold fm_v at hfs
        rw [if_neg h1] at hfs
        by_cases h3 : 0 < (a ^^^ b)
        · have h6 : ¬ ((a ^^^ b) = 0) := by
            intro q
            rw [q] at h3
            exact absurd h3 (by decide)
          refine Steps.instrAtOv (c := _) (by simpa using B.here) ?_
          simp [jvm, wpRun, exec, B.here.top, B.exec, B.bytes, dJ9_floorMod_f86c9_0]
          refine Steps.instrAtOv (c := _) (by simpa using B.here) ?_
          simp [jvm, wpRun, exec, B.here.top, B.exec, B.bytes, dJ9_floorMod_f86c9_1]
          refine Steps.instrAtOv (c := _) (by simpa using B.here) ?_
          simp [jvm, wpRun, exec, B.here.top, B.exec, B.bytes, dJ9_floorMod_f86c9_2, hb0]
          refine Steps.instrAtOv (c := _) (by simpa using B.here) ?_
          simp [jvm, wpRun, exec, B.here.top, B.exec, B.bytes, dJ9_floorMod_f86c9_3]
          refine ⟨#[.val (.long a), .second, .val (.long b), .second, .val (.long (a - a / b * b)), .second], rfl, ?_⟩
          refine Steps.instrAtOv (c := _) (by simpa using B.here) ?_
          simp [jvm, wpRun, exec, B.here.top, B.exec, B.bytes, dJ9_floorMod_f86c9_5]
          refine Steps.instrAtOv (c := _) (by simpa using B.here) ?_
          simp [jvm, wpRun, exec, B.here.top, B.exec, B.bytes, dJ9_floorMod_f86c9_6]
          refine Steps.instrAtOv (c := _) (by simpa using B.here) ?_
          simp [jvm, wpRun, exec, B.here.top, B.exec, B.bytes, dJ9_floorMod_f86c9_7]
          refine Steps.instrAtOv (c := _) (by simpa using B.here) ?_
          simp [jvm, wpRun, exec, B.here.top, B.exec, B.bytes, dJ9_floorMod_f86c9_8]
          refine Steps.instrAtOv (c := _) (by simpa using B.here) ?_
          simp [jvm, wpRun, exec, B.here.top, B.exec, B.bytes, dJ9_floorMod_f86c9_9, h1, h3, h6]
          refine Steps.instrAtOv (c := _) (by simpa using B.here) ?_
          simp [jvm, wpRun, exec, B.here.top, B.exec, B.bytes, dJ9_floorMod_f86c9_10, ifCond.holds]
          refine Steps.instrAtOv (c := _) (by simpa using B.here) ?_
          simp [jvm, wpRun, exec, B.here.top, B.exec, B.bytes, dJ9_floorMod_f86c9_25]
          refine Steps.instrAtOv (c := _) (by simpa using B.here) ?_
          simp [jvm, wpRun, exec, B.here.top, B.exec, B.bytes, dJ9_floorMod_f86c9_27, B.method₁, B.returns]
          intro acts
          rw [ret_to B.frames₁ B.method₁ B.notSynchronized rfl rfl hfs]
          exact Steps.refl _
        · have h4 : (a ^^^ b) = 0 := by
            apply Int64.toInt_inj.mp
            rw [Int64.lt_iff_toInt_lt, Int64.toInt_zero] at h1 h3
            rw [Int64.toInt_zero]
            omega
          refine Steps.instrAtOv (c := _) (by simpa using B.here) ?_
          simp [jvm, wpRun, exec, B.here.top, B.exec, B.bytes, dJ9_floorMod_f86c9_0]
          refine Steps.instrAtOv (c := _) (by simpa using B.here) ?_
          simp [jvm, wpRun, exec, B.here.top, B.exec, B.bytes, dJ9_floorMod_f86c9_1]
          refine Steps.instrAtOv (c := _) (by simpa using B.here) ?_
          simp [jvm, wpRun, exec, B.here.top, B.exec, B.bytes, dJ9_floorMod_f86c9_2, hb0]
          refine Steps.instrAtOv (c := _) (by simpa using B.here) ?_
          simp [jvm, wpRun, exec, B.here.top, B.exec, B.bytes, dJ9_floorMod_f86c9_3]
          refine ⟨#[.val (.long a), .second, .val (.long b), .second, .val (.long (a - a / b * b)), .second], rfl, ?_⟩
          refine Steps.instrAtOv (c := _) (by simpa using B.here) ?_
          simp [jvm, wpRun, exec, B.here.top, B.exec, B.bytes, dJ9_floorMod_f86c9_5]
          refine Steps.instrAtOv (c := _) (by simpa using B.here) ?_
          simp [jvm, wpRun, exec, B.here.top, B.exec, B.bytes, dJ9_floorMod_f86c9_6]
          refine Steps.instrAtOv (c := _) (by simpa using B.here) ?_
          simp [jvm, wpRun, exec, B.here.top, B.exec, B.bytes, dJ9_floorMod_f86c9_7]
          refine Steps.instrAtOv (c := _) (by simpa using B.here) ?_
          simp [jvm, wpRun, exec, B.here.top, B.exec, B.bytes, dJ9_floorMod_f86c9_8]
          refine Steps.instrAtOv (c := _) (by simpa using B.here) ?_
          simp [jvm, wpRun, exec, B.here.top, B.exec, B.bytes, dJ9_floorMod_f86c9_9, h4]
          refine Steps.instrAtOv (c := _) (by simpa using B.here) ?_
          simp [jvm, wpRun, exec, B.here.top, B.exec, B.bytes, dJ9_floorMod_f86c9_10, ifCond.holds]
          refine Steps.instrAtOv (c := _) (by simpa using B.here) ?_
          simp [jvm, wpRun, exec, B.here.top, B.exec, B.bytes, dJ9_floorMod_f86c9_25]
          refine Steps.instrAtOv (c := _) (by simpa using B.here) ?_
          simp [jvm, wpRun, exec, B.here.top, B.exec, B.bytes, dJ9_floorMod_f86c9_27, B.method₁, B.returns]
          intro acts
          rw [ret_to B.frames₁ B.method₁ B.notSynchronized rfl rfl hfs]
          exact Steps.refl _
    · exact Or.inr hfs
section FM
variable {p : Program} {l : Launch} {e : Env} {R : Room} {s : State} {m : MethodId} {args : Array Value} {below : List Frame} {meth : Method} {c : Code} {T : State} {H : Heap} {locs : List Loc} {cells slots : Nat} {Q : State → Prop}
variable {cc : ByteArray} {pc : Nat} {ls : Array Slot} {rest : List Value}
theorem fm_call (X : Stand p l e R s m args below meth c T locs cells slots) (hexec : p.tables.exec = Jvm.exec) {own : String} {index : Nat} (hown : s.vm.findClass own = some m.cls)
    (hlink : (Cond.methodLink own index yJ9_floorMod_f86c9).before args s = true) (hstat : (Cond.static yJ9_floorMod_f86c9).before args s = true) (hinit : (Cond.initialized "java/lang/Math").before args s = true)
    (hcode : (Cond.code yJ9_floorMod_f86c9 cJ9_floorMod_f86c9 6 (some .long)).before args s = true)
    {g : JFrame} (hg : g.method = m) (hsize : g.locals.size = c.maxLocals) {a b : Int64} (hb0 : b ≠ 0) {rest : List Value} (hstack : g.stack = .long b :: .long a :: rest) (hdg : decode c.code g.pc = .ok (.invokestatic index, 3))
    (hframes : 1 ≤ R.frames) (hlocals : 2 * g.monitorRoom + (rest.map fun v => v.category).sum + 17 ≤ R.locals) (hcells : cells ≤ R.cells) (hslots : slots ≤ R.slots) :
    ∃ vm', Stand p l e R s m args below meth c (T.setVm vm') locs cells slots ∧
      ∀ target, Steps p.tables e below ((T.setVm vm').setTop { g with pc := g.pc + 3, stack := .long (fm_v a b) :: rest }) target → Steps p.tables e below (T.setTop g) target := by
  obtain ⟨v, T', X', ⟨first, t, hpost⟩, hstep⟩ := X.staticByContractV hexec hown hlink hstat hinit hcode (by decide)
    (fm_loose l a b hb0)
    rfl rfl rfl rfl
    (fun args' first o s₂ h => by
      cases o with
      | returned r => exact ⟨r, rfl⟩
      | threw y =>
        have hz : (fm_s a b).post.value args' first (some (.threw y)) s₂ [] = some true := by simpa [Cond.after, Cond.holds] using h
        exact absurd hz va_nvRet)
    hg hsize (argsL := [.long a, .long b]) (rest := rest)
    (fun sig hs => by
      have h : parseMethodDescriptor "(JJ)J" = some { parameters := [.long, .long], returnType := some .long } := by decide +kernel
      rw [show yJ9_floorMod_f86c9.desc = "(JJ)J" from rfl, h] at hs
      rw [← Option.some.inj hs]; rfl)
    hstack hdg
    (fun vm' hW => by
      unfold fm_s
      simp only [Cond.before_and, Bool.and_eq_true]
      refine ⟨?_, rfl, rfl, rfl, by simp [Cond.before, Cond.holds, Cond.value, Term.eval], by simp [Cond.before, Cond.holds, Cond.value, Term.eval]⟩
      have q := hcode
      rw [← Cond.code_setVm hW.alike] at q
      simp only [Cond.before, Cond.holds, Cond.value, State.methodNamed?, State.vm_setVm] at q ⊢
      exact q)
    (by show 0 + 1 ≤ R.frames; omega) (by show 2 * g.monitorRoom + (rest.map fun v => v.category).sum + (6 + 11) + 0 ≤ R.locals; omega) (by show cells + 0 ≤ R.cells; omega) (by show slots + 0 ≤ R.slots; omega)
  refine ⟨T', X', fun target h => hstep target ?_⟩
  obtain rfl : v = some (.long (fm_v a b)) := by
    rcases v with _ | w
    · simp [fm_s, Cond.after, Cond.holds, Cond.value, Term.eval] at hpost
    · cases w <;> simp [fm_s, Cond.after, Cond.holds, Cond.value, Term.eval] at hpost
      simp [hpost]
  exact h
theorem fm_neg (a : Int64) : a < 0 ↔ a.toBitVec.msb = true := by
  rw [Int64.lt_iff_toInt_lt, Int64.toInt_zero, BitVec.msb_eq_toInt]
  show a.toInt < 0 ↔ decide (a.toInt < 0) = true
  exact decide_eq_true_iff.symm
theorem fm_int {x y : Int} (hx : R64 x) (hy : R64 y) (h0 : 0 < y) : fm_v (iL x) (iL y) = iL (x % y) := by
  have hr : iL x - iL x / iL y * iL y = iL (x.tmod y) := iL_rem hx hy
  have h1 : (iL x ^^^ iL y) < 0 ↔ x < 0 := by
    have hyn : (iL y).toBitVec.msb = false := by
      cases h : (iL y).toBitVec.msb with
      | false => rfl
      | true =>
        have := (fm_neg (iL y)).mpr h
        rw [Int64.lt_iff_toInt_lt, iL_t hy, Int64.toInt_zero] at this
        omega
    rw [fm_neg, Int64.toBitVec_xor, BitVec.msb_xor, hyn, Bool.xor_false, ← fm_neg, Int64.lt_iff_toInt_lt, iL_t hx, Int64.toInt_zero]
  unfold fm_v
  rw [hr]
  by_cases hn : x < 0
  · rw [if_pos (h1.mpr hn)]
    have h2 : x.tmod y = -((-x) % y) := by
      rw [← Int.tmod_eq_emod_of_nonneg (by omega : (0 : Int) ≤ -x), Int.neg_tmod, Int.neg_neg]
    have h3 := Int.emod_nonneg (-x) (show y ≠ 0 by omega)
    have h4 := Int.emod_lt_of_pos (-x) h0
    by_cases hz : (-x) % y = 0
    · have h5 : x % y = 0 := by
        have h6 : y ∣ x := Int.dvd_neg.mp (Int.dvd_of_emod_eq_zero hz)
        exact Int.emod_eq_zero_of_dvd h6
      rw [h2, hz, if_pos (by rfl), h5]
      rfl
    · rw [if_neg, iL_add]
      · congr 1
        have h7 : x % y = y - (-x) % y := by
          have h8 : x = (y - (-x) % y) + y * (-((-x) / y) - 1) := by
            have := Int.emod_add_mul_ediv (-x) y
            rw [Int.mul_sub, Int.mul_neg]
            omega
          have h9 : x % y = (y - (-x) % y) % y := by
            conv => lhs; rw [h8]
            exact Int.add_mul_emod_self_left _ _ _
          rw [h9, Int.emod_eq_of_lt (by omega) (by omega)]
        rw [h2, h7]
        omega
      · intro q
        have h10 := congrArg Int64.toInt q
        rw [iL_t ⟨by omega, by omega⟩, Int64.toInt_zero] at h10
        omega
  · rw [if_neg (fun q => hn (h1.mp q)), Int.tmod_eq_emod_of_nonneg (by omega)]
theorem em_R {x y : Int} (hy : R64 y) (h0 : 0 < y) : R64 (x % y) := by
  have h3 := Int.emod_nonneg x (show y ≠ 0 by omega)
  have h4 := Int.emod_lt_of_pos x h0
  exact ⟨by omega, by omega⟩
theorem w_fmod (hexec : p.tables.exec = Jvm.exec) (hb : c.code = cc) (hml : c.maxLocals = ls.size) {own : String} {index : Nat} (hown : s.vm.findClass own = some m.cls) (hlink : (Cond.methodLink own index yJ9_floorMod_f86c9).before args s = true) (hstat : (Cond.static yJ9_floorMod_f86c9).before args s = true) (hini : (Cond.initialized "java/lang/Math").before args s = true) (hcode : (Cond.code yJ9_floorMod_f86c9 cJ9_floorMod_f86c9 6 (some .long)).before args s = true)
    (hframes : 1 ≤ R.frames) (hlocals : (rest.map fun v => v.category).sum + 17 ≤ R.locals) (hc : cells ≤ R.cells) (hs : slots ≤ R.slots) {x y x' y' : Int} (hx : sL x = x') (hy : sL y = y') (h0 : 0 < y') (hdg : decode cc pc = .ok (.invokestatic index, 3))
    (kk : W p l e R s m args below meth c H locs cells slots Q (F0 m (pc + 3) ls (.long (iL (x' % y')) :: rest))) : W p l e R s m args below meth c H locs cells slots Q (F0 m pc ls (.long (iL y) :: .long (iL x) :: rest)) := by
  rw [iL_cg hx, iL_cg hy]
  intro T hT X
  have hy0 : iL y' ≠ 0 := by
    intro q
    have h10 := congrArg Int64.toInt q
    rw [iL_t (sL_c hy), Int64.toInt_zero] at h10
    omega
  obtain ⟨vm', X', st⟩ := fm_call X hexec hown hlink hstat hini hcode (g := F0 m pc ls (.long (iL y') :: .long (iL x') :: rest)) rfl (by rw [hml]) (a := iL x') (b := iL y') hy0 (rest := rest) rfl (by rw [hb]; exact hdg) hframes (by show 2 * 0 + _ + 17 ≤ _; omega) hc hs
  rw [fm_int (sL_c hx) (sL_c hy) h0] at st
  obtain ⟨t, a1, b1⟩ := kk (T.setVm vm') hT X'
  exact ⟨t, st t a1, b1⟩
end FM
