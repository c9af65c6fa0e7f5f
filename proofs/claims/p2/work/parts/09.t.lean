theorem dX11_by_0 : decode cX11_by 0 = .ok (.iload_n 2, 1) := by decide +kernel
theorem dX11_by_1 : decode cX11_by 1 = .ok (.iconst 1, 1) := by decide +kernel
theorem dX11_by_10 : decode cX11_by 10 = .ok (.lrem, 1) := by decide +kernel
theorem dX11_by_11 : decode cX11_by 11 = .ok (.l2i, 1) := by decide +kernel
theorem dX11_by_12 : decode cX11_by 12 = .ok (.istore_n 3, 1) := by decide +kernel
theorem dX11_by_13 : decode cX11_by 13 = .ok (.iload_n 3, 1) := by decide +kernel
theorem dX11_by_14 : decode cX11_by 14 = .ok (.ifCond .ge 9, 3) := by decide +kernel
theorem dX11_by_17 : decode cX11_by 17 = .ok (.iload_n 3, 1) := by decide +kernel
theorem dX11_by_18 : decode cX11_by 18 = .ok (.iload_n 2, 1) := by decide +kernel
theorem dX11_by_19 : decode cX11_by 19 = .ok (.iadd, 1) := by decide +kernel
theorem dX11_by_2 : decode cX11_by 2 = .ok (.if_icmp .ge 5, 3) := by decide +kernel
theorem dX11_by_20 : decode cX11_by 20 = .ok (.goto 4, 3) := by decide +kernel
theorem dX11_by_23 : decode cX11_by 23 = .ok (.iload_n 3, 1) := by decide +kernel
theorem dX11_by_24 : decode cX11_by 24 = .ok (.ireturn, 1) := by decide +kernel
theorem dX11_by_5 : decode cX11_by 5 = .ok (.iconst 0, 1) := by decide +kernel
theorem dX11_by_6 : decode cX11_by 6 = .ok (.ireturn, 1) := by decide +kernel
theorem dX11_by_7 : decode cX11_by 7 = .ok (.lload_n 0, 1) := by decide +kernel
theorem dX11_by_8 : decode cX11_by 8 = .ok (.iload_n 2, 1) := by decide +kernel
theorem dX11_by_9 : decode cX11_by 9 = .ok (.i2l, 1) := by decide +kernel
theorem dX11_greatestDivisor_0 : decode cX11_greatestDivisor 0 = .ok (.iload_n 0, 1) := by decide +kernel
theorem dX11_greatestDivisor_1 : decode cX11_greatestDivisor 1 = .ok (.istore_n 3, 1) := by decide +kernel
theorem dX11_greatestDivisor_10 : decode cX11_greatestDivisor 10 = .ok (.ifCond .ne 14, 3) := by decide +kernel
theorem dX11_greatestDivisor_13 : decode cX11_greatestDivisor 13 = .ok (.lload_n 1, 1) := by decide +kernel
theorem dX11_greatestDivisor_14 : decode cX11_greatestDivisor 14 = .ok (.iload_n 3, 1) := by decide +kernel
theorem dX11_greatestDivisor_15 : decode cX11_greatestDivisor 15 = .ok (.i2l, 1) := by decide +kernel
theorem dX11_greatestDivisor_16 : decode cX11_greatestDivisor 16 = .ok (.lrem, 1) := by decide +kernel
theorem dX11_greatestDivisor_17 : decode cX11_greatestDivisor 17 = .ok (.lconst 0, 1) := by decide +kernel
theorem dX11_greatestDivisor_18 : decode cX11_greatestDivisor 18 = .ok (.lcmp, 1) := by decide +kernel
theorem dX11_greatestDivisor_19 : decode cX11_greatestDivisor 19 = .ok (.ifCond .ne 5, 3) := by decide +kernel
theorem dX11_greatestDivisor_2 : decode cX11_greatestDivisor 2 = .ok (.iload_n 3, 1) := by decide +kernel
theorem dX11_greatestDivisor_22 : decode cX11_greatestDivisor 22 = .ok (.iload_n 3, 1) := by decide +kernel
theorem dX11_greatestDivisor_23 : decode cX11_greatestDivisor 23 = .ok (.ireturn, 1) := by decide +kernel
theorem dX11_greatestDivisor_24 : decode cX11_greatestDivisor 24 = .ok (.iinc 3 (-1), 3) := by decide +kernel
theorem dX11_greatestDivisor_27 : decode cX11_greatestDivisor 27 = .ok (.goto (-25), 3) := by decide +kernel
theorem dX11_greatestDivisor_3 : decode cX11_greatestDivisor 3 = .ok (.iconst 1, 1) := by decide +kernel
theorem dX11_greatestDivisor_30 : decode cX11_greatestDivisor 30 = .ok (.iconst 1, 1) := by decide +kernel
theorem dX11_greatestDivisor_31 : decode cX11_greatestDivisor 31 = .ok (.ireturn, 1) := by decide +kernel
theorem dX11_greatestDivisor_4 : decode cX11_greatestDivisor 4 = .ok (.if_icmp .le 26, 3) := by decide +kernel
theorem dX11_greatestDivisor_7 : decode cX11_greatestDivisor 7 = .ok (.iload_n 0, 1) := by decide +kernel
theorem dX11_greatestDivisor_8 : decode cX11_greatestDivisor 8 = .ok (.iload_n 3, 1) := by decide +kernel
theorem dX11_greatestDivisor_9 : decode cX11_greatestDivisor 9 = .ok (.irem, 1) := by decide +kernel
theorem dX11_isMotor_0 : decode cX11_isMotor 0 = .ok (.iload_n 0, 1) := by decide +kernel
theorem dX11_isMotor_1 : decode cX11_isMotor 1 = .ok (.iconst 0, 1) := by decide +kernel
theorem dX11_isMotor_2 : decode cX11_isMotor 2 = .ok (.iconst 1, 1) := by decide +kernel
theorem dX11_isMotor_3 : decode cX11_isMotor 3 = .ok (.invokestatic 113, 3) := by decide +kernel
theorem dX11_isMotor_6 : decode cX11_isMotor 6 = .ok (.ireturn, 1) := by decide +kernel
theorem dX11_within_0 : decode cX11_within 0 = .ok (.iload_n 0, 1) := by decide +kernel
theorem dX11_within_1 : decode cX11_within 1 = .ok (.iload_n 1, 1) := by decide +kernel
theorem dX11_within_10 : decode cX11_within 10 = .ok (.iconst 1, 1) := by decide +kernel
theorem dX11_within_11 : decode cX11_within 11 = .ok (.goto 4, 3) := by decide +kernel
theorem dX11_within_14 : decode cX11_within 14 = .ok (.iconst 0, 1) := by decide +kernel
theorem dX11_within_15 : decode cX11_within 15 = .ok (.ireturn, 1) := by decide +kernel
theorem dX11_within_2 : decode cX11_within 2 = .ok (.if_icmp .lt 12, 3) := by decide +kernel
theorem dX11_within_5 : decode cX11_within 5 = .ok (.iload_n 0, 1) := by decide +kernel
theorem dX11_within_6 : decode cX11_within 6 = .ok (.iload_n 2, 1) := by decide +kernel
theorem dX11_within_7 : decode cX11_within 7 = .ok (.if_icmp .gt 7, 3) := by decide +kernel
theorem dX8_addTo_0 : decode cX8_addTo 0 = .ok (.aload_n 0, 1) := by decide +kernel
theorem dX8_addTo_1 : decode cX8_addTo 1 = .ok (.iload_n 1, 1) := by decide +kernel
theorem dX8_addTo_12 : decode cX8_addTo 12 = .ok (.iload_n 1, 1) := by decide +kernel
theorem dX8_addTo_13 : decode cX8_addTo 13 = .ok (.dup2, 1) := by decide +kernel
theorem dX8_addTo_14 : decode cX8_addTo 14 = .ok (.iaload, 1) := by decide +kernel
theorem dX8_addTo_15 : decode cX8_addTo 15 = .ok (.iload_n 2, 1) := by decide +kernel
theorem dX8_addTo_16 : decode cX8_addTo 16 = .ok (.ior, 1) := by decide +kernel
theorem dX8_addTo_17 : decode cX8_addTo 17 = .ok (.iastore, 1) := by decide +kernel
theorem dX8_addTo_18 : decode cX8_addTo 18 = .ok (.return_, 1) := by decide +kernel
theorem dX8_addTo_2 : decode cX8_addTo 2 = .ok (.invokevirtual 19, 3) := by decide +kernel
theorem dX8_addTo_5 : decode cX8_addTo 5 = .ok (.ifCond .eq 13, 3) := by decide +kernel
theorem dX8_addTo_8 : decode cX8_addTo 8 = .ok (.aload_n 0, 1) := by decide +kernel
theorem dX8_addTo_9 : decode cX8_addTo 9 = .ok (.getfield 9, 3) := by decide +kernel
theorem dX8_at_0 : decode cX8_at 0 = .ok (.aload_n 0, 1) := by decide +kernel
theorem dX8_at_1 : decode cX8_at 1 = .ok (.iload_n 1, 1) := by decide +kernel
theorem dX8_at_12 : decode cX8_at 12 = .ok (.iload_n 1, 1) := by decide +kernel
theorem dX8_at_13 : decode cX8_at 13 = .ok (.iaload, 1) := by decide +kernel
theorem dX8_at_14 : decode cX8_at 14 = .ok (.goto 4, 3) := by decide +kernel
theorem dX8_at_17 : decode cX8_at 17 = .ok (.iconst (-1), 1) := by decide +kernel
theorem dX8_at_18 : decode cX8_at 18 = .ok (.ireturn, 1) := by decide +kernel
theorem dX8_at_2 : decode cX8_at 2 = .ok (.invokevirtual 19, 3) := by decide +kernel
theorem dX8_at_5 : decode cX8_at 5 = .ok (.ifCond .eq 12, 3) := by decide +kernel
theorem dX8_at_8 : decode cX8_at 8 = .ok (.aload_n 0, 1) := by decide +kernel
theorem dX8_at_9 : decode cX8_at 9 = .ok (.getfield 9, 3) := by decide +kernel
theorem dX8_copy_0 : decode cX8_copy 0 = .ok (.aload_n 0, 1) := by decide +kernel
theorem dX8_copy_1 : decode cX8_copy 1 = .ok (.aload_n 1, 1) := by decide +kernel
theorem dX8_copy_12 : decode cX8_copy 12 = .ok (.iconst 0, 1) := by decide +kernel
theorem dX8_copy_13 : decode cX8_copy 13 = .ok (.aload_n 0, 1) := by decide +kernel
theorem dX8_copy_14 : decode cX8_copy 14 = .ok (.getfield 9, 3) := by decide +kernel
theorem dX8_copy_17 : decode cX8_copy 17 = .ok (.iconst 0, 1) := by decide +kernel
theorem dX8_copy_18 : decode cX8_copy 18 = .ok (.bipush 24, 2) := by decide +kernel
theorem dX8_copy_2 : decode cX8_copy 2 = .ok (.getfield 15, 3) := by decide +kernel
theorem dX8_copy_20 : decode cX8_copy 20 = .ok (.invokestatic 23, 3) := by decide +kernel
theorem dX8_copy_23 : decode cX8_copy 23 = .ok (.return_, 1) := by decide +kernel
theorem dX8_copy_5 : decode cX8_copy 5 = .ok (.putfield 15, 3) := by decide +kernel
theorem dX8_copy_8 : decode cX8_copy 8 = .ok (.aload_n 1, 1) := by decide +kernel
theorem dX8_copy_9 : decode cX8_copy 9 = .ok (.getfield 9, 3) := by decide +kernel
theorem dX8_has_0 : decode cX8_has 0 = .ok (.iload_n 1, 1) := by decide +kernel
theorem dX8_has_1 : decode cX8_has 1 = .ok (.ifCond .lt 24, 3) := by decide +kernel
theorem dX8_has_12 : decode cX8_has 12 = .ok (.iload_n 1, 1) := by decide +kernel
theorem dX8_has_13 : decode cX8_has 13 = .ok (.aload_n 0, 1) := by decide +kernel
theorem dX8_has_14 : decode cX8_has 14 = .ok (.getfield 9, 3) := by decide +kernel
theorem dX8_has_17 : decode cX8_has 17 = .ok (.arraylength, 1) := by decide +kernel
theorem dX8_has_18 : decode cX8_has 18 = .ok (.if_icmp .ge 7, 3) := by decide +kernel
theorem dX8_has_21 : decode cX8_has 21 = .ok (.iconst 1, 1) := by decide +kernel
theorem dX8_has_22 : decode cX8_has 22 = .ok (.goto 4, 3) := by decide +kernel
theorem dX8_has_25 : decode cX8_has 25 = .ok (.iconst 0, 1) := by decide +kernel
theorem dX8_has_26 : decode cX8_has 26 = .ok (.ireturn, 1) := by decide +kernel
theorem dX8_has_4 : decode cX8_has 4 = .ok (.iload_n 1, 1) := by decide +kernel
theorem dX8_has_5 : decode cX8_has 5 = .ok (.aload_n 0, 1) := by decide +kernel
theorem dX8_has_6 : decode cX8_has 6 = .ok (.getfield 15, 3) := by decide +kernel
theorem dX8_has_9 : decode cX8_has 9 = .ok (.if_icmp .ge 16, 3) := by decide +kernel
theorem dX8_putBehind_0 : decode cX8_putBehind 0 = .ok (.iconst 0, 1) := by decide +kernel
theorem dX8_putBehind_1 : decode cX8_putBehind 1 = .ok (.aload_n 0, 1) := by decide +kernel
theorem dX8_putBehind_10 : decode cX8_putBehind 10 = .ok (.istore_n 3, 1) := by decide +kernel
theorem dX8_putBehind_11 : decode cX8_putBehind 11 = .ok (.iconst 0, 1) := by decide +kernel
theorem dX8_putBehind_12 : decode cX8_putBehind 12 = .ok (.istore 4, 2) := by decide +kernel
theorem dX8_putBehind_14 : decode cX8_putBehind 14 = .ok (.iload 4, 2) := by decide +kernel
theorem dX8_putBehind_16 : decode cX8_putBehind 16 = .ok (.aload_n 1, 1) := by decide +kernel
theorem dX8_putBehind_17 : decode cX8_putBehind 17 = .ok (.getfield 15, 3) := by decide +kernel
theorem dX8_putBehind_2 : decode cX8_putBehind 2 = .ok (.getfield 15, 3) := by decide +kernel
theorem dX8_putBehind_20 : decode cX8_putBehind 20 = .ok (.if_icmp .ge 53, 3) := by decide +kernel
theorem dX8_putBehind_23 : decode cX8_putBehind 23 = .ok (.iload_n 3, 1) := by decide +kernel
theorem dX8_putBehind_24 : decode cX8_putBehind 24 = .ok (.aload_n 0, 1) := by decide +kernel
theorem dX8_putBehind_25 : decode cX8_putBehind 25 = .ok (.getfield 9, 3) := by decide +kernel
theorem dX8_putBehind_28 : decode cX8_putBehind 28 = .ok (.arraylength, 1) := by decide +kernel
theorem dX8_putBehind_29 : decode cX8_putBehind 29 = .ok (.if_icmp .ge 44, 3) := by decide +kernel
theorem dX8_putBehind_32 : decode cX8_putBehind 32 = .ok (.aload_n 0, 1) := by decide +kernel
theorem dX8_putBehind_33 : decode cX8_putBehind 33 = .ok (.getfield 9, 3) := by decide +kernel
theorem dX8_putBehind_36 : decode cX8_putBehind 36 = .ok (.iload_n 3, 1) := by decide +kernel
theorem dX8_putBehind_37 : decode cX8_putBehind 37 = .ok (.aload_n 1, 1) := by decide +kernel
theorem dX8_putBehind_38 : decode cX8_putBehind 38 = .ok (.getfield 9, 3) := by decide +kernel
theorem dX8_putBehind_41 : decode cX8_putBehind 41 = .ok (.iload 4, 2) := by decide +kernel
theorem dX8_putBehind_43 : decode cX8_putBehind 43 = .ok (.iaload, 1) := by decide +kernel
theorem dX8_putBehind_44 : decode cX8_putBehind 44 = .ok (.iload_n 3, 1) := by decide +kernel
theorem dX8_putBehind_45 : decode cX8_putBehind 45 = .ok (.aload_n 0, 1) := by decide +kernel
theorem dX8_putBehind_46 : decode cX8_putBehind 46 = .ok (.getfield 15, 3) := by decide +kernel
theorem dX8_putBehind_49 : decode cX8_putBehind 49 = .ok (.if_icmp .ge 12, 3) := by decide +kernel
theorem dX8_putBehind_5 : decode cX8_putBehind 5 = .ok (.iload_n 2, 1) := by decide +kernel
theorem dX8_putBehind_52 : decode cX8_putBehind 52 = .ok (.aload_n 0, 1) := by decide +kernel
theorem dX8_putBehind_53 : decode cX8_putBehind 53 = .ok (.getfield 9, 3) := by decide +kernel
theorem dX8_putBehind_56 : decode cX8_putBehind 56 = .ok (.iload_n 3, 1) := by decide +kernel
theorem dX8_putBehind_57 : decode cX8_putBehind 57 = .ok (.iaload, 1) := by decide +kernel
theorem dX8_putBehind_58 : decode cX8_putBehind 58 = .ok (.goto 4, 3) := by decide +kernel
theorem dX8_putBehind_6 : decode cX8_putBehind 6 = .ok (.isub, 1) := by decide +kernel
theorem dX8_putBehind_61 : decode cX8_putBehind 61 = .ok (.iconst 0, 1) := by decide +kernel
theorem dX8_putBehind_62 : decode cX8_putBehind 62 = .ok (.ior, 1) := by decide +kernel
theorem dX8_putBehind_63 : decode cX8_putBehind 63 = .ok (.iastore, 1) := by decide +kernel
theorem dX8_putBehind_64 : decode cX8_putBehind 64 = .ok (.iinc 3 1, 3) := by decide +kernel
theorem dX8_putBehind_67 : decode cX8_putBehind 67 = .ok (.iinc 4 1, 3) := by decide +kernel
theorem dX8_putBehind_7 : decode cX8_putBehind 7 = .ok (.invokestatic 35, 3) := by decide +kernel
theorem dX8_putBehind_70 : decode cX8_putBehind 70 = .ok (.goto (-56), 3) := by decide +kernel
theorem dX8_putBehind_73 : decode cX8_putBehind 73 = .ok (.aload_n 0, 1) := by decide +kernel
theorem dX8_putBehind_74 : decode cX8_putBehind 74 = .ok (.aload_n 0, 1) := by decide +kernel
theorem dX8_putBehind_75 : decode cX8_putBehind 75 = .ok (.getfield 15, 3) := by decide +kernel
theorem dX8_putBehind_78 : decode cX8_putBehind 78 = .ok (.iload_n 3, 1) := by decide +kernel
theorem dX8_putBehind_79 : decode cX8_putBehind 79 = .ok (.invokestatic 35, 3) := by decide +kernel
theorem dX8_putBehind_82 : decode cX8_putBehind 82 = .ok (.putfield 15, 3) := by decide +kernel
theorem dX8_putBehind_85 : decode cX8_putBehind 85 = .ok (.return_, 1) := by decide +kernel
theorem dX8_repeat_0 : decode cX8_repeat 0 = .ok (.aload_n 0, 1) := by decide +kernel
theorem dX8_repeat_1 : decode cX8_repeat 1 = .ok (.getfield 15, 3) := by decide +kernel
theorem dX8_repeat_10 : decode cX8_repeat 10 = .ok (.arraylength, 1) := by decide +kernel
theorem dX8_repeat_11 : decode cX8_repeat 11 = .ok (.invokestatic 29, 3) := by decide +kernel
theorem dX8_repeat_14 : decode cX8_repeat 14 = .ok (.istore_n 2, 1) := by decide +kernel
theorem dX8_repeat_15 : decode cX8_repeat 15 = .ok (.aload_n 0, 1) := by decide +kernel
theorem dX8_repeat_16 : decode cX8_repeat 16 = .ok (.getfield 15, 3) := by decide +kernel
theorem dX8_repeat_19 : decode cX8_repeat 19 = .ok (.istore_n 3, 1) := by decide +kernel
theorem dX8_repeat_20 : decode cX8_repeat 20 = .ok (.iload_n 3, 1) := by decide +kernel
theorem dX8_repeat_21 : decode cX8_repeat 21 = .ok (.iload_n 2, 1) := by decide +kernel
theorem dX8_repeat_22 : decode cX8_repeat 22 = .ok (.if_icmp .ge 26, 3) := by decide +kernel
theorem dX8_repeat_25 : decode cX8_repeat 25 = .ok (.aload_n 0, 1) := by decide +kernel
theorem dX8_repeat_26 : decode cX8_repeat 26 = .ok (.getfield 9, 3) := by decide +kernel
theorem dX8_repeat_29 : decode cX8_repeat 29 = .ok (.iload_n 3, 1) := by decide +kernel
theorem dX8_repeat_30 : decode cX8_repeat 30 = .ok (.aload_n 0, 1) := by decide +kernel
theorem dX8_repeat_31 : decode cX8_repeat 31 = .ok (.getfield 9, 3) := by decide +kernel
theorem dX8_repeat_34 : decode cX8_repeat 34 = .ok (.iload_n 3, 1) := by decide +kernel
theorem dX8_repeat_35 : decode cX8_repeat 35 = .ok (.aload_n 0, 1) := by decide +kernel
theorem dX8_repeat_36 : decode cX8_repeat 36 = .ok (.getfield 15, 3) := by decide +kernel
theorem dX8_repeat_39 : decode cX8_repeat 39 = .ok (.isub, 1) := by decide +kernel
theorem dX8_repeat_4 : decode cX8_repeat 4 = .ok (.iload_n 1, 1) := by decide +kernel
theorem dX8_repeat_40 : decode cX8_repeat 40 = .ok (.iaload, 1) := by decide +kernel
theorem dX8_repeat_41 : decode cX8_repeat 41 = .ok (.iastore, 1) := by decide +kernel
theorem dX8_repeat_42 : decode cX8_repeat 42 = .ok (.iinc 3 1, 3) := by decide +kernel
theorem dX8_repeat_45 : decode cX8_repeat 45 = .ok (.goto (-25), 3) := by decide +kernel
theorem dX8_repeat_48 : decode cX8_repeat 48 = .ok (.aload_n 0, 1) := by decide +kernel
theorem dX8_repeat_49 : decode cX8_repeat 49 = .ok (.iload_n 2, 1) := by decide +kernel
theorem dX8_repeat_5 : decode cX8_repeat 5 = .ok (.imul, 1) := by decide +kernel
theorem dX8_repeat_50 : decode cX8_repeat 50 = .ok (.putfield 15, 3) := by decide +kernel
theorem dX8_repeat_53 : decode cX8_repeat 53 = .ok (.return_, 1) := by decide +kernel
theorem dX8_repeat_6 : decode cX8_repeat 6 = .ok (.aload_n 0, 1) := by decide +kernel
theorem dX8_repeat_7 : decode cX8_repeat 7 = .ok (.getfield 9, 3) := by decide +kernel
theorem dm_X8_has : yX8_has.cls = RX8 ∧ yX8_has.cls ≠ "java/lang/invoke/MethodHandle" ∧ yX8_has.cls ≠ "java/lang/invoke/VarHandle" ∧ (parseMethodDescriptor yX8_has.desc).map (fun d => d.parameters.length) = some 1 := by decide +kernel
theorem dm_X11_within : yX11_within.cls = RX11 ∧ yX11_within.cls ≠ "java/lang/invoke/MethodHandle" ∧ yX11_within.cls ≠ "java/lang/invoke/VarHandle" ∧ (parseMethodDescriptor yX11_within.desc).map (fun d => d.parameters.length) = some 3 := by decide +kernel
set_option maxRecDepth 100000 in
def wC_Strip_repeat (j : Nat) (a0 : Int) (M : zM) (Q : zM → Prop) : Prop := wL1 (fun K20 x3 M4 => ((min (sI ((M j 1) * a0)) 24) ≤ (sI x3) → (∀ M13 : zM, M13 = zup M4 j 1 (min (sI ((M j 1) * a0)) 24) → Q M13)) ∧ ((sI x3) < (min (sI ((M j 1) * a0)) 24) → ((0 ≤ (sI (x3 - (M4 j 1))) ∧ (sI (x3 - (M4 j 1))) < 24) ∧ ((0 ≤ (sI x3) ∧ (sI x3) < 24) ∧ (∀ M17 : zM, M17 = zup M4 (j + 1) (sI x3).toNat (M4 (j + 1) (sI (x3 - (M4 j 1))).toNat) → K20 (x3 + 1) M17))))) (M j 1) M
set_option maxHeartbeats 4000000 in
set_option maxRecDepth 100000 in
theorem cC_Strip_repeat (l : Launch) (D : va_G) (dA : Nat → ClassId) (b : Nat) (M : zM) (j : Nat) (a0 : Int) (lt_j : j < nC) (cd_j : zcd wC j = 6) (Q : zM → Prop) (h : wC_Strip_repeat j a0 M Q) : Met l yX8_repeat (.code yX8_repeat cX8_repeat 4 none :: zt) (z_rm 1) (va_Pc [.ref (b + j), .int (iI a0)] (wPre D dA vwCl (z_tys dA) wC nC b M)) (va_Qv (wQv Q) (zB D dA vwCl wC nC b) (zA nC b)) 0 0 (zA nC b) := by
  unfold wC_Strip_repeat at h
  refine Met.ofW (cc := cX8_repeat) (maxL := 4) (ret := none) (by decide) rfl ?_
  intro p e s m args below meth c s₁ B hml hv
  obtain ⟨hargs, hS, hK⟩ := hv
  have hx := B.exec
  have hb := B.bytes
  have hr := B.returns
  have hts := atoms_spec (ws := .code yX8_repeat cX8_repeat 4 none :: zt) B.pre
  have hown : s.vm.findClass RX8 = some m.cls := findClass_of_methodNamed B.named
  have hlocks := B.notSynchronized
  have hS0 : va_S (zA nC b) s.heap s.heap [] := va_S.rf
  have hl := lv_entry ([.ref (b + j), .int (iI a0)]) (n := 4) (Nat.le_of_ble_eq_true rfl)
  have hent : entryFrame m args 4 = F0 m 0 ((lg_sl ([.ref (b + j), .int (iI a0)]) ++ List.replicate (4 - (lg_sl ([.ref (b + j), .int (iI a0)])).length) Slot.unset).toArray) [] := by rw [hargs]; exact lg_entry_eq m ([.ref (b + j), .int (iI a0)]) 4
  rw [hent]
  generalize (lg_sl ([.ref (b + j), .int (iI a0)]) ++ List.replicate (4 - (lg_sl ([.ref (b + j), .int (iI a0)])).length) Slot.unset).toArray = ls at hl ⊢
  have hl : lv_has ls 4 [(0, .ref (b + j)), (1, .int (iI a0))] := hl
  obtain ⟨lt1, cd2⟩ := nx_strip j lt_j cd_j
  refine lv_aload_n hx hb dX8_repeat_0 rfl (lv_at hl 0 rfl) ?_
  refine w_geti hx hb hts (z_memU u8) hown hK.1 hS f8_1 lt_j (zkd_of cd_j rfl) (Or.inl (hts _ (z_mem k44))) dX8_repeat_1 ?_
  refine lv_iload_n hx hb dX8_repeat_4 rfl (lv_at hl 1 rfl) ?_
  refine z_imul hx hb dX8_repeat_5 ?_
  refine lv_aload_n hx hb dX8_repeat_6 rfl (lv_at hl 0 rfl) ?_
  refine w_getr (j2 := (j + 1)) hx hb hts (z_memU u8) hown hK.1 hS f8_0 lt_j (zkd_of cd_j rfl) (zrf_of cd_j rfl) (Or.inl (hts _ (z_mem k41))) dX8_repeat_7 ?_
  refine w_alen (n := 24) hx hb hK.1 (t0 := 0) rfl hS lt1 (zkd_of cd2 rfl) (zln_of cd2 rfl) dX8_repeat_10 ?_
  refine z_top (show (((24 : Nat) : Int)) = 24 from by decide) ?_
  refine w_mmin hx hb (hml.trans hl.1.symm) hown (hts _ (z_mem k319)) (hts _ (z_mem k320)) (hts _ (z_mem k15)) (hts _ (z_mem k321)) (by exact Nat.le_of_ble_eq_true rfl) (by exact Nat.le_of_ble_eq_true rfl) (by exact Nat.le_refl _) (by exact Nat.le_refl _) rfl (sI_of (by decide)) dX8_repeat_11 ?_
  refine lv_istore_n (lv' := [(2, .int (iI (min (sI ((M j 1) * a0)) 24))), (0, .ref (b + j)), (1, .int (iI a0))]) hx hb dX8_repeat_14 rfl hl (by decide) rfl (fun ls hl => ?_)
  refine lv_aload_n hx hb dX8_repeat_15 rfl (lv_at hl 1 rfl) ?_
  refine w_geti hx hb hts (z_memU u8) hown hK.1 hS f8_1 lt_j (zkd_of cd_j rfl) (Or.inl (hts _ (z_mem k44))) dX8_repeat_16 ?_
  refine lv_istore_n (lv' := [(3, .int (iI (M j 1))), (2, .int (iI (min (sI ((M j 1) * a0)) 24))), (0, .ref (b + j)), (1, .int (iI a0))]) hx hb dX8_repeat_19 rfl hl (by decide) rfl (fun ls hl => ?_)
  obtain ⟨I5, ⟨n6, h7⟩, h8⟩ := h
  have L9 : ∀ (n10 : Nat) (x3 : Int) (M4 : zM) (H : Heap) (locs : List Loc) (ls : Array Slot), I5 n10 x3 M4 → zR D dA vwCl wC nC b M4 H → va_S (zA nC b) s.heap H locs → lv_has ls 4 [(0, .ref (b + j)), (2, .int (iI (min (sI ((M j 1) * a0)) 24))), (3, .int (iI x3))] → W p l e (headSpec (.code yX8_repeat cX8_repeat 4 none :: zt) (z_rm 1)).room s m args below meth c H locs 0 0 (MQ below (va_Qv (wQv Q) (zB D dA vwCl wC nC b) (zA nC b)) args s 0 0 (zA nC b)) (F0 m 20 ls []) := by
    intro n10
    induction n10 using Nat.strongRecOn with
    | ind n10 i11 =>
      intro x3 M4 H locs ls h hS hS0 hl
      have h := h8 n10 x3 M4 h
      refine lv_iload_n hx hb dX8_repeat_20 rfl (lv_at hl 2 rfl) ?_
      refine lv_iload_n hx hb dX8_repeat_21 rfl (lv_at hl 1 rfl) ?_
      refine w_icmp_ge (tgt := 48) hx hb rfl (sI_of (R_min (sI_c (x := ((M j 1) * a0)) rfl) (sI_c (x := 24) (sI_of (by decide))))) dX8_repeat_22 (by decide) (fun c12 => ?_) (fun c12 => ?_)
      · skip
        have h := h.1 c12
        refine lv_aload_n hx hb dX8_repeat_48 rfl (lv_at hl 0 rfl) ?_
        refine lv_iload_n hx hb dX8_repeat_49 rfl (lv_at hl 1 rfl) ?_
        refine w_puti hx hb hts (z_memU u8) tyX8 tyX8_ok nmX8 hown hK.1 hS hS0 f8_1 lt_j (zkd_of cd_j rfl) (Or.inl (hts _ (z_mem k44))) rfl (z := (min (sI ((M j 1) * a0)) 24)) (by decide +kernel) dX8_repeat_50 (fun H locs hS hS0 => ?_)
        obtain ⟨M13, e14⟩ : ∃ M13 : zM, M13 = zup M4 j 1 (min (sI ((M j 1) * a0)) 24) := ⟨_, rfl⟩
        rw [← e14] at hS
        have h := h M13 e14
        exact w_vret hx hb hr hlocks hS hS0 h dX8_repeat_53
      · skip
        have h := h.2 c12
        refine lv_aload_n hx hb dX8_repeat_25 rfl (lv_at hl 0 rfl) ?_
        refine w_getr (j2 := (j + 1)) hx hb hts (z_memU u8) hown hK.1 hS f8_0 lt_j (zkd_of cd_j rfl) (zrf_of cd_j rfl) (Or.inl (hts _ (z_mem k41))) dX8_repeat_26 ?_
        refine lv_iload_n hx hb dX8_repeat_29 rfl (lv_at hl 2 rfl) ?_
        refine lv_aload_n hx hb dX8_repeat_30 rfl (lv_at hl 0 rfl) ?_
        refine w_getr (j2 := (j + 1)) hx hb hts (z_memU u8) hown hK.1 hS f8_0 lt_j (zkd_of cd_j rfl) (zrf_of cd_j rfl) (Or.inl (hts _ (z_mem k41))) dX8_repeat_31 ?_
        refine lv_iload_n hx hb dX8_repeat_34 rfl (lv_at hl 2 rfl) ?_
        refine lv_aload_n hx hb dX8_repeat_35 rfl (lv_at hl 0 rfl) ?_
        refine w_geti hx hb hts (z_memU u8) hown hK.1 hS f8_1 lt_j (zkd_of cd_j rfl) (Or.inl (hts _ (z_mem k44))) dX8_repeat_36 ?_
        refine z_isub hx hb dX8_repeat_39 ?_
        obtain ⟨o15, h⟩ := h
        refine w_iald (n := 24) (i := (sI (x3 - (M4 j 1)))) hx hb hK.1 (t0 := 0) rfl hS lt1 (zkd_of cd2 rfl) (zln_of cd2 rfl) rfl o15.1 o15.2 (by decide) dX8_repeat_40 ?_
        obtain ⟨o16, h⟩ := h
        refine w_iast (z := (M4 (j + 1) (sI (x3 - (M4 j 1))).toNat)) (n := 24) (i := (sI x3)) hx hb hK.1 (t0 := 0) rfl hS hS0 lt1 (zkd_of cd2 rfl) (zln_of cd2 rfl) rfl o16.1 o16.2 (by decide) dX8_repeat_41 (fun H locs hS hS0 => ?_)
        obtain ⟨M17, e18⟩ : ∃ M17 : zM, M17 = zup M4 (j + 1) (sI x3).toNat (M4 (j + 1) (sI (x3 - (M4 j 1))).toNat) := ⟨_, rfl⟩
        rw [← e18] at hS
        have h := h M17 e18
        refine z_iinc (lv' := [(3, .int (iI (x3 + 1))), (0, .ref (b + j)), (2, .int (iI (min (sI ((M j 1) * a0)) 24)))]) hx hb dX8_repeat_42 hl (k := 2) rfl (by decide) rfl (fun ls hl => ?_)
        refine lv_goto (tgt := 20) hx hb dX8_repeat_45 (by decide) ?_
        obtain ⟨n19, h20, h⟩ := h
        exact i11 n19 h20 (x3 + 1) M17 _ _ _ h hS hS0 (lv_sub hl [1, 2, 0] rfl)
  exact L9 n6 (M j 1) M _ _ _ h7 hS hS0 (lv_sub hl [2, 1, 0] rfl)

set_option maxRecDepth 100000 in
def wC_Strip_has (j : Nat) (a0 : Int) (M : zM) (Q : Int → Prop) : Prop := ((sI a0) < 0 → Q 0) ∧ (0 ≤ (sI a0) → ((sI (M j 1)) ≤ (sI a0) → Q 0) ∧ ((sI a0) < (sI (M j 1)) → (24 ≤ (sI a0) → Q 0) ∧ ((sI a0) < 24 → Q 1)))
set_option maxHeartbeats 4000000 in
set_option maxRecDepth 100000 in
theorem cC_Strip_has (l : Launch) (D : va_G) (dA : Nat → ClassId) (b : Nat) (M : zM) (j : Nat) (a0 : Int) (lt_j : j < nC) (cd_j : zcd wC j = 6) (Q : Int → Prop) (h : wC_Strip_has j a0 M Q) : Met l yX8_has (.code yX8_has cX8_has 2 (some .boolean) :: zt) (z_rm 0) (va_Pc [.ref (b + j), .int (iI a0)] (wPre D dA vwCl (z_tys dA) wC nC b M)) (va_Qi (wQz (fun z9 u9 => u9 = M ∧ Q z9)) (zB D dA vwCl wC nC b) (zA nC b)) 0 0 (zA nC b) := by
  unfold wC_Strip_has at h
  refine Met.ofW (cc := cX8_has) (maxL := 2) (ret := (some .boolean)) (by decide) rfl ?_
  intro p e s m args below meth c s₁ B hml hv
  obtain ⟨hargs, hS, hK⟩ := hv
  have hx := B.exec
  have hb := B.bytes
  have hr := B.returns
  have hts := atoms_spec (ws := .code yX8_has cX8_has 2 (some .boolean) :: zt) B.pre
  have hown : s.vm.findClass RX8 = some m.cls := findClass_of_methodNamed B.named
  have hlocks := B.notSynchronized
  have hS0 : va_S (zA nC b) s.heap s.heap [] := va_S.rf
  have hl := lv_entry ([.ref (b + j), .int (iI a0)]) (n := 2) (Nat.le_of_ble_eq_true rfl)
  have hent : entryFrame m args 2 = F0 m 0 ((lg_sl ([.ref (b + j), .int (iI a0)]) ++ List.replicate (2 - (lg_sl ([.ref (b + j), .int (iI a0)])).length) Slot.unset).toArray) [] := by rw [hargs]; exact lg_entry_eq m ([.ref (b + j), .int (iI a0)]) 2
  rw [hent]
  generalize (lg_sl ([.ref (b + j), .int (iI a0)]) ++ List.replicate (2 - (lg_sl ([.ref (b + j), .int (iI a0)])).length) Slot.unset).toArray = ls at hl ⊢
  have hl : lv_has ls 2 [(0, .ref (b + j)), (1, .int (iI a0))] := hl
  obtain ⟨lt1, cd2⟩ := nx_strip j lt_j cd_j
  refine lv_iload_n hx hb dX8_has_0 rfl (lv_at hl 1 rfl) ?_
  refine w_if_lt (tgt := 25) hx hb rfl dX8_has_1 (by decide) (fun c3 => ?_) (fun c3 => ?_)
  · skip
    have h := h.1 c3
    refine z_iconst hx hb dX8_has_25 ?_
    exact w_zret hx hb hr hlocks hS hS0 (sI_of (by decide)) (by decide) ⟨rfl, h⟩ dX8_has_26
  · skip
    have h := h.2 c3
    refine lv_iload_n hx hb dX8_has_4 rfl (lv_at hl 1 rfl) ?_
    refine lv_aload_n hx hb dX8_has_5 rfl (lv_at hl 0 rfl) ?_
    refine w_geti hx hb hts (z_memU u8) hown hK.1 hS f8_1 lt_j (zkd_of cd_j rfl) (Or.inl (hts _ (z_mem k44))) dX8_has_6 ?_
    refine w_icmp_ge (tgt := 25) hx hb rfl rfl dX8_has_9 (by decide) (fun c4 => ?_) (fun c4 => ?_)
    · skip
      have h := h.1 c4
      refine z_iconst hx hb dX8_has_25 ?_
      exact w_zret hx hb hr hlocks hS hS0 (sI_of (by decide)) (by decide) ⟨rfl, h⟩ dX8_has_26
    · skip
      have h := h.2 c4
      refine lv_iload_n hx hb dX8_has_12 rfl (lv_at hl 1 rfl) ?_
      refine lv_aload_n hx hb dX8_has_13 rfl (lv_at hl 0 rfl) ?_
      refine w_getr (j2 := (j + 1)) hx hb hts (z_memU u8) hown hK.1 hS f8_0 lt_j (zkd_of cd_j rfl) (zrf_of cd_j rfl) (Or.inl (hts _ (z_mem k41))) dX8_has_14 ?_
      refine w_alen (n := 24) hx hb hK.1 (t0 := 0) rfl hS lt1 (zkd_of cd2 rfl) (zln_of cd2 rfl) dX8_has_17 ?_
      refine z_top (show (((24 : Nat) : Int)) = 24 from by decide) ?_
      refine w_icmp_ge (tgt := 25) hx hb rfl (sI_of (by decide)) dX8_has_18 (by decide) (fun c5 => ?_) (fun c5 => ?_)
      · skip
        have h := h.1 c5
        refine z_iconst hx hb dX8_has_25 ?_
        exact w_zret hx hb hr hlocks hS hS0 (sI_of (by decide)) (by decide) ⟨rfl, h⟩ dX8_has_26
      · skip
        have h := h.2 c5
        refine z_iconst hx hb dX8_has_21 ?_
        refine lv_goto (tgt := 26) hx hb dX8_has_22 (by decide) ?_
        exact w_zret hx hb hr hlocks hS hS0 (sI_of (by decide)) (by decide) ⟨rfl, h⟩ dX8_has_26

set_option maxRecDepth 100000 in
def wC_Strip_addTo (j : Nat) (a0 : Int) (a1 : Int) (M : zM) (Q : zM → Prop) : Prop := wC_Strip_has j a0 M (fun z4 => (z4 = 0 → Q M) ∧ (z4 ≠ 0 → ((0 ≤ (sI a0) ∧ (sI a0) < 24) ∧ ((0 ≤ (sI a0) ∧ (sI a0) < 24) ∧ (∀ M10 : zM, M10 = zup M (j + 1) (sI a0).toNat (orI (M (j + 1) (sI a0).toNat) a1) → Q M10)))))
set_option maxHeartbeats 4000000 in
set_option maxRecDepth 100000 in
theorem cC_Strip_addTo (l : Launch) (D : va_G) (dA : Nat → ClassId) (b : Nat) (M : zM) (j : Nat) (a0 : Int) (a1 : Int) (lt_j : j < nC) (cd_j : zcd wC j = 6) (Q : zM → Prop) (h : wC_Strip_addTo j a0 a1 M Q) : Met l yX8_addTo (.code yX8_addTo cX8_addTo 3 none :: zt) (z_rm 1) (va_Pc [.ref (b + j), .int (iI a0), .int (iI a1)] (wPre D dA vwCl (z_tys dA) wC nC b M)) (va_Qv (wQv Q) (zB D dA vwCl wC nC b) (zA nC b)) 0 0 (zA nC b) := by
  unfold wC_Strip_addTo at h
  refine Met.ofW (cc := cX8_addTo) (maxL := 3) (ret := none) (by decide) rfl ?_
  intro p e s m args below meth c s₁ B hml hv
  obtain ⟨hargs, hS, hK⟩ := hv
  have hx := B.exec
  have hb := B.bytes
  have hr := B.returns
  have hts := atoms_spec (ws := .code yX8_addTo cX8_addTo 3 none :: zt) B.pre
  have hown : s.vm.findClass RX8 = some m.cls := findClass_of_methodNamed B.named
  have hlocks := B.notSynchronized
  have hS0 : va_S (zA nC b) s.heap s.heap [] := va_S.rf
  have hl := lv_entry ([.ref (b + j), .int (iI a0), .int (iI a1)]) (n := 3) (Nat.le_of_ble_eq_true rfl)
  have hent : entryFrame m args 3 = F0 m 0 ((lg_sl ([.ref (b + j), .int (iI a0), .int (iI a1)]) ++ List.replicate (3 - (lg_sl ([.ref (b + j), .int (iI a0), .int (iI a1)])).length) Slot.unset).toArray) [] := by rw [hargs]; exact lg_entry_eq m ([.ref (b + j), .int (iI a0), .int (iI a1)]) 3
  rw [hent]
  generalize (lg_sl ([.ref (b + j), .int (iI a0), .int (iI a1)]) ++ List.replicate (3 - (lg_sl ([.ref (b + j), .int (iI a0), .int (iI a1)])).length) Slot.unset).toArray = ls at hl ⊢
  have hl : lv_has ls 3 [(0, .ref (b + j)), (1, .int (iI a0)), (2, .int (iI a1))] := hl
  obtain ⟨lt1, cd2⟩ := nx_strip j lt_j cd_j
  refine lv_aload_n hx hb dX8_addTo_0 rfl (lv_at hl 0 rfl) ?_
  refine lv_iload_n hx hb dX8_addTo_1 rfl (lv_at hl 1 rfl) ?_
  refine w_callz (va_runV (As := [.int (iI a0)]) (rest := []) ⟨hx, hb, hml, hown, hts⟩ (cC_Strip_has l D dA b M j a0 lt_j cd_j _ h) (cwV 1 hts (z_gV k326 k327 k328 k3 k329) rfl rfl rfl dm_X8_has ⟨Nat.le_of_ble_eq_true rfl, Nat.le_of_ble_eq_true rfl⟩) ⟨wPre_blind, (w_recv hS hK.1 lt_j (zkd_of cd_j rfl) (by decide) (rfl : vwCl[8]? = some (RX8, TX8, 2))), w_pre hS hK⟩ rfl rfl hl.1 rfl (lv_room (Nat.le_of_ble_eq_true rfl)) dX8_addTo_2 ⟨Nat.le_refl _, Nat.le_refl _⟩) hS0 (fun z4 M3 H locs r5 h hS hS0 => ?_)
  obtain ⟨e6, h⟩ := h
  rw [e6] at hS
  refine w_if_eq (tgt := 18) hx hb (sI_01 r5) dX8_addTo_5 (by decide) (fun c7 => ?_) (fun c7 => ?_)
  · skip
    have h := h.1 c7
    exact w_vret hx hb hr hlocks hS hS0 h dX8_addTo_18
  · skip
    have h := h.2 c7
    refine lv_aload_n hx hb dX8_addTo_8 rfl (lv_at hl 0 rfl) ?_
    refine w_getr (j2 := (j + 1)) hx hb hts (z_memU u8) hown hK.1 hS f8_0 lt_j (zkd_of cd_j rfl) (zrf_of cd_j rfl) (Or.inl (hts _ (z_mem k41))) dX8_addTo_9 ?_
    refine lv_iload_n hx hb dX8_addTo_12 rfl (lv_at hl 1 rfl) ?_
    refine lv_dup2_11 hx hb dX8_addTo_13 rfl rfl ?_
    obtain ⟨o8, h⟩ := h
    refine w_iald (n := 24) (i := (sI a0)) hx hb hK.1 (t0 := 0) rfl hS lt1 (zkd_of cd2 rfl) (zln_of cd2 rfl) rfl o8.1 o8.2 (by decide) dX8_addTo_14 ?_
    refine lv_iload_n hx hb dX8_addTo_15 rfl (lv_at hl 2 rfl) ?_
    refine w_ior hx hb dX8_addTo_16 ?_
    obtain ⟨o9, h⟩ := h
    refine w_iast (z := (orI (M (j + 1) (sI a0).toNat) a1)) (n := 24) (i := (sI a0)) hx hb hK.1 (t0 := 0) rfl hS hS0 lt1 (zkd_of cd2 rfl) (zln_of cd2 rfl) rfl o9.1 o9.2 (by decide) dX8_addTo_17 (fun H locs hS hS0 => ?_)
    obtain ⟨M10, e11⟩ : ∃ M10 : zM, M10 = zup M (j + 1) (sI a0).toNat (orI (M (j + 1) (sI a0).toNat) a1) := ⟨_, rfl⟩
    rw [← e11] at hS
    have h := h M10 e11
    exact w_vret hx hb hr hlocks hS hS0 h dX8_addTo_18

set_option maxRecDepth 100000 in
def wC_Strip_putBehind (j : Nat) (a0 : Nat) (a1 : Int) (M : zM) (Q : zM → Prop) : Prop := wL2 (fun K14 x5 x6 M7 => ((sI (M7 a0 1)) ≤ (sI x6) → (∀ M16 : zM, M16 = zup M7 j 1 (max (sI (M7 j 1)) (sI x5)) → Q M16)) ∧ ((sI x6) < (sI (M7 a0 1)) → (24 ≤ (sI x5) → (∀ M19 : zM, M19 = zup M7 j 1 (max (sI (M7 j 1)) (sI x5)) → Q M19)) ∧ ((sI x5) < 24 → ((0 ≤ (sI x6) ∧ (sI x6) < 24) ∧ ((sI (M7 j 1)) ≤ (sI x5) → ((0 ≤ (sI x5) ∧ (sI x5) < 24) ∧ (∀ M24 : zM, M24 = zup M7 (j + 1) (sI x5).toNat (orI (M7 (a0 + 1) (sI x6).toNat) 0) → K14 (x5 + 1) (x6 + 1) M24))) ∧ ((sI x5) < (sI (M7 j 1)) → ((0 ≤ (sI x5) ∧ (sI x5) < 24) ∧ ((0 ≤ (sI x5) ∧ (sI x5) < 24) ∧ (∀ M30 : zM, M30 = zup M7 (j + 1) (sI x5).toNat (orI (M7 (a0 + 1) (sI x6).toNat) (M7 (j + 1) (sI x5).toNat)) → K14 (x5 + 1) (x6 + 1) M30)))))))) (max 0 (sI ((M j 1) - a1))) 0 M
set_option maxHeartbeats 4000000 in
set_option maxRecDepth 100000 in
theorem cC_Strip_putBehind (l : Launch) (D : va_G) (dA : Nat → ClassId) (b : Nat) (M : zM) (j : Nat) (a0 : Nat) (a1 : Int) (lt_j : j < nC) (cd_j : zcd wC j = 6) (lt_a0 : a0 < nC) (cd_a0 : zcd wC a0 = 6) (Q : zM → Prop) (h : wC_Strip_putBehind j a0 a1 M Q) : Met l yX8_putBehind (.code yX8_putBehind cX8_putBehind 5 none :: zt) (z_rm 1) (va_Pc [.ref (b + j), .ref (b + a0), .int (iI a1)] (wPre D dA vwCl (z_tys dA) wC nC b M)) (va_Qv (wQv Q) (zB D dA vwCl wC nC b) (zA nC b)) 0 0 (zA nC b) := by
  unfold wC_Strip_putBehind at h
  refine Met.ofW (cc := cX8_putBehind) (maxL := 5) (ret := none) (by decide) rfl ?_
  intro p e s m args below meth c s₁ B hml hv
  obtain ⟨hargs, hS, hK⟩ := hv
  have hx := B.exec
  have hb := B.bytes
  have hr := B.returns
  have hts := atoms_spec (ws := .code yX8_putBehind cX8_putBehind 5 none :: zt) B.pre
  have hown : s.vm.findClass RX8 = some m.cls := findClass_of_methodNamed B.named
  have hlocks := B.notSynchronized
  have hS0 : va_S (zA nC b) s.heap s.heap [] := va_S.rf
  have hl := lv_entry ([.ref (b + j), .ref (b + a0), .int (iI a1)]) (n := 5) (Nat.le_of_ble_eq_true rfl)
  have hent : entryFrame m args 5 = F0 m 0 ((lg_sl ([.ref (b + j), .ref (b + a0), .int (iI a1)]) ++ List.replicate (5 - (lg_sl ([.ref (b + j), .ref (b + a0), .int (iI a1)])).length) Slot.unset).toArray) [] := by rw [hargs]; exact lg_entry_eq m ([.ref (b + j), .ref (b + a0), .int (iI a1)]) 5
  rw [hent]
  generalize (lg_sl ([.ref (b + j), .ref (b + a0), .int (iI a1)]) ++ List.replicate (5 - (lg_sl ([.ref (b + j), .ref (b + a0), .int (iI a1)])).length) Slot.unset).toArray = ls at hl ⊢
  have hl : lv_has ls 5 [(0, .ref (b + j)), (1, .ref (b + a0)), (2, .int (iI a1))] := hl
  obtain ⟨lt1, cd2⟩ := nx_strip j lt_j cd_j
  obtain ⟨lt3, cd4⟩ := nx_strip a0 lt_a0 cd_a0
  refine z_iconst hx hb dX8_putBehind_0 ?_
  refine lv_aload_n hx hb dX8_putBehind_1 rfl (lv_at hl 0 rfl) ?_
  refine w_geti hx hb hts (z_memU u8) hown hK.1 hS f8_1 lt_j (zkd_of cd_j rfl) (Or.inl (hts _ (z_mem k44))) dX8_putBehind_2 ?_
  refine lv_iload_n hx hb dX8_putBehind_5 rfl (lv_at hl 2 rfl) ?_
  refine z_isub hx hb dX8_putBehind_6 ?_
  refine w_mmax hx hb (hml.trans hl.1.symm) hown (hts _ (z_mem k340)) (hts _ (z_mem k341)) (hts _ (z_mem k15)) (hts _ (z_mem k342)) (by exact Nat.le_of_ble_eq_true rfl) (by exact Nat.le_of_ble_eq_true rfl) (by exact Nat.le_refl _) (by exact Nat.le_refl _) (sI_of (by decide)) rfl dX8_putBehind_7 ?_
  refine lv_istore_n (lv' := [(3, .int (iI (max 0 (sI ((M j 1) - a1))))), (0, .ref (b + j)), (1, .ref (b + a0)), (2, .int (iI a1))]) hx hb dX8_putBehind_10 rfl hl (by decide) rfl (fun ls hl => ?_)
  refine z_iconst hx hb dX8_putBehind_11 ?_
  refine lv_istore (lv' := [(4, .int (iI 0)), (3, .int (iI (max 0 (sI ((M j 1) - a1))))), (0, .ref (b + j)), (1, .ref (b + a0)), (2, .int (iI a1))]) hx hb dX8_putBehind_12 hl (by decide) rfl (fun ls hl => ?_)
  obtain ⟨I8, ⟨n9, h10⟩, h11⟩ := h
  have L12 : ∀ (n13 : Nat) (x5 x6 : Int) (M7 : zM) (H : Heap) (locs : List Loc) (ls : Array Slot), I8 n13 x5 x6 M7 → zR D dA vwCl wC nC b M7 H → va_S (zA nC b) s.heap H locs → lv_has ls 5 [(0, .ref (b + j)), (1, .ref (b + a0)), (3, .int (iI x5)), (4, .int (iI x6))] → W p l e (headSpec (.code yX8_putBehind cX8_putBehind 5 none :: zt) (z_rm 1)).room s m args below meth c H locs 0 0 (MQ below (va_Qv (wQv Q) (zB D dA vwCl wC nC b) (zA nC b)) args s 0 0 (zA nC b)) (F0 m 14 ls []) := by
    intro n13
    induction n13 using Nat.strongRecOn with
    | ind n13 i14 =>
      intro x5 x6 M7 H locs ls h hS hS0 hl
      have h := h11 n13 x5 x6 M7 h
      refine lv_iload hx hb dX8_putBehind_14 (lv_at hl 3 rfl) ?_
      refine lv_aload_n hx hb dX8_putBehind_16 rfl (lv_at hl 1 rfl) ?_
      refine w_geti hx hb hts (z_memU u8) hown hK.1 hS f8_1 lt_a0 (zkd_of cd_a0 rfl) (Or.inl (hts _ (z_mem k44))) dX8_putBehind_17 ?_
      refine w_icmp_ge (tgt := 73) hx hb rfl rfl dX8_putBehind_20 (by decide) (fun c15 => ?_) (fun c15 => ?_)
      · skip
        have h := h.1 c15
        refine lv_aload_n hx hb dX8_putBehind_73 rfl (lv_at hl 0 rfl) ?_
        refine lv_aload_n hx hb dX8_putBehind_74 rfl (lv_at hl 0 rfl) ?_
        refine w_geti hx hb hts (z_memU u8) hown hK.1 hS f8_1 lt_j (zkd_of cd_j rfl) (Or.inl (hts _ (z_mem k44))) dX8_putBehind_75 ?_
        refine lv_iload_n hx hb dX8_putBehind_78 rfl (lv_at hl 2 rfl) ?_
        refine w_mmax hx hb (hml.trans hl.1.symm) hown (hts _ (z_mem k340)) (hts _ (z_mem k341)) (hts _ (z_mem k15)) (hts _ (z_mem k342)) (by exact Nat.le_of_ble_eq_true rfl) (by exact Nat.le_of_ble_eq_true rfl) (by exact Nat.le_refl _) (by exact Nat.le_refl _) rfl rfl dX8_putBehind_79 ?_
        refine w_puti hx hb hts (z_memU u8) tyX8 tyX8_ok nmX8 hown hK.1 hS hS0 f8_1 lt_j (zkd_of cd_j rfl) (Or.inl (hts _ (z_mem k44))) rfl (z := (max (sI (M7 j 1)) (sI x5))) (by decide +kernel) dX8_putBehind_82 (fun H locs hS hS0 => ?_)
        obtain ⟨M16, e17⟩ : ∃ M16 : zM, M16 = zup M7 j 1 (max (sI (M7 j 1)) (sI x5)) := ⟨_, rfl⟩
        rw [← e17] at hS
        have h := h M16 e17
        exact w_vret hx hb hr hlocks hS hS0 h dX8_putBehind_85
      · skip
        have h := h.2 c15
        refine lv_iload_n hx hb dX8_putBehind_23 rfl (lv_at hl 2 rfl) ?_
        refine lv_aload_n hx hb dX8_putBehind_24 rfl (lv_at hl 0 rfl) ?_
        refine w_getr (j2 := (j + 1)) hx hb hts (z_memU u8) hown hK.1 hS f8_0 lt_j (zkd_of cd_j rfl) (zrf_of cd_j rfl) (Or.inl (hts _ (z_mem k41))) dX8_putBehind_25 ?_
        refine w_alen (n := 24) hx hb hK.1 (t0 := 0) rfl hS lt1 (zkd_of cd2 rfl) (zln_of cd2 rfl) dX8_putBehind_28 ?_
        refine z_top (show (((24 : Nat) : Int)) = 24 from by decide) ?_
        refine w_icmp_ge (tgt := 73) hx hb rfl (sI_of (by decide)) dX8_putBehind_29 (by decide) (fun c18 => ?_) (fun c18 => ?_)
        · skip
          have h := h.1 c18
          refine lv_aload_n hx hb dX8_putBehind_73 rfl (lv_at hl 0 rfl) ?_
          refine lv_aload_n hx hb dX8_putBehind_74 rfl (lv_at hl 0 rfl) ?_
          refine w_geti hx hb hts (z_memU u8) hown hK.1 hS f8_1 lt_j (zkd_of cd_j rfl) (Or.inl (hts _ (z_mem k44))) dX8_putBehind_75 ?_
          refine lv_iload_n hx hb dX8_putBehind_78 rfl (lv_at hl 2 rfl) ?_
          refine w_mmax hx hb (hml.trans hl.1.symm) hown (hts _ (z_mem k340)) (hts _ (z_mem k341)) (hts _ (z_mem k15)) (hts _ (z_mem k342)) (by exact Nat.le_of_ble_eq_true rfl) (by exact Nat.le_of_ble_eq_true rfl) (by exact Nat.le_refl _) (by exact Nat.le_refl _) rfl rfl dX8_putBehind_79 ?_
          refine w_puti hx hb hts (z_memU u8) tyX8 tyX8_ok nmX8 hown hK.1 hS hS0 f8_1 lt_j (zkd_of cd_j rfl) (Or.inl (hts _ (z_mem k44))) rfl (z := (max (sI (M7 j 1)) (sI x5))) (by decide +kernel) dX8_putBehind_82 (fun H locs hS hS0 => ?_)
          obtain ⟨M19, e20⟩ : ∃ M19 : zM, M19 = zup M7 j 1 (max (sI (M7 j 1)) (sI x5)) := ⟨_, rfl⟩
          rw [← e20] at hS
          have h := h M19 e20
          exact w_vret hx hb hr hlocks hS hS0 h dX8_putBehind_85
        · skip
          have h := h.2 c18
          refine lv_aload_n hx hb dX8_putBehind_32 rfl (lv_at hl 0 rfl) ?_
          refine w_getr (j2 := (j + 1)) hx hb hts (z_memU u8) hown hK.1 hS f8_0 lt_j (zkd_of cd_j rfl) (zrf_of cd_j rfl) (Or.inl (hts _ (z_mem k41))) dX8_putBehind_33 ?_
          refine lv_iload_n hx hb dX8_putBehind_36 rfl (lv_at hl 2 rfl) ?_
          refine lv_aload_n hx hb dX8_putBehind_37 rfl (lv_at hl 1 rfl) ?_
          refine w_getr (j2 := (a0 + 1)) hx hb hts (z_memU u8) hown hK.1 hS f8_0 lt_a0 (zkd_of cd_a0 rfl) (zrf_of cd_a0 rfl) (Or.inl (hts _ (z_mem k41))) dX8_putBehind_38 ?_
          refine lv_iload hx hb dX8_putBehind_41 (lv_at hl 3 rfl) ?_
          obtain ⟨o21, h⟩ := h
          refine w_iald (n := 24) (i := (sI x6)) hx hb hK.1 (t0 := 0) rfl hS lt3 (zkd_of cd4 rfl) (zln_of cd4 rfl) rfl o21.1 o21.2 (by decide) dX8_putBehind_43 ?_
          refine lv_iload_n hx hb dX8_putBehind_44 rfl (lv_at hl 2 rfl) ?_
          refine lv_aload_n hx hb dX8_putBehind_45 rfl (lv_at hl 0 rfl) ?_
          refine w_geti hx hb hts (z_memU u8) hown hK.1 hS f8_1 lt_j (zkd_of cd_j rfl) (Or.inl (hts _ (z_mem k44))) dX8_putBehind_46 ?_
          refine w_icmp_ge (tgt := 61) hx hb rfl rfl dX8_putBehind_49 (by decide) (fun c22 => ?_) (fun c22 => ?_)
          · skip
            have h := h.1 c22
            refine z_iconst hx hb dX8_putBehind_61 ?_
            refine w_ior hx hb dX8_putBehind_62 ?_
            obtain ⟨o23, h⟩ := h
            refine w_iast (z := (orI (M7 (a0 + 1) (sI x6).toNat) 0)) (n := 24) (i := (sI x5)) hx hb hK.1 (t0 := 0) rfl hS hS0 lt1 (zkd_of cd2 rfl) (zln_of cd2 rfl) rfl o23.1 o23.2 (by decide) dX8_putBehind_63 (fun H locs hS hS0 => ?_)
            obtain ⟨M24, e25⟩ : ∃ M24 : zM, M24 = zup M7 (j + 1) (sI x5).toNat (orI (M7 (a0 + 1) (sI x6).toNat) 0) := ⟨_, rfl⟩
            rw [← e25] at hS
            have h := h M24 e25
            refine z_iinc (lv' := [(3, .int (iI (x5 + 1))), (0, .ref (b + j)), (1, .ref (b + a0)), (4, .int (iI x6))]) hx hb dX8_putBehind_64 hl (k := 2) rfl (by decide) rfl (fun ls hl => ?_)
            refine z_iinc (lv' := [(4, .int (iI (x6 + 1))), (3, .int (iI (x5 + 1))), (0, .ref (b + j)), (1, .ref (b + a0))]) hx hb dX8_putBehind_67 hl (k := 3) rfl (by decide) rfl (fun ls hl => ?_)
            refine lv_goto (tgt := 14) hx hb dX8_putBehind_70 (by decide) ?_
            obtain ⟨n26, h27, h⟩ := h
            exact i14 n26 h27 (x5 + 1) (x6 + 1) M24 _ _ _ h hS hS0 (lv_sub hl [2, 3, 1, 0] rfl)
          · skip
            have h := h.2 c22
            refine lv_aload_n hx hb dX8_putBehind_52 rfl (lv_at hl 0 rfl) ?_
            refine w_getr (j2 := (j + 1)) hx hb hts (z_memU u8) hown hK.1 hS f8_0 lt_j (zkd_of cd_j rfl) (zrf_of cd_j rfl) (Or.inl (hts _ (z_mem k41))) dX8_putBehind_53 ?_
            refine lv_iload_n hx hb dX8_putBehind_56 rfl (lv_at hl 2 rfl) ?_
            obtain ⟨o28, h⟩ := h
            refine w_iald (n := 24) (i := (sI x5)) hx hb hK.1 (t0 := 0) rfl hS lt1 (zkd_of cd2 rfl) (zln_of cd2 rfl) rfl o28.1 o28.2 (by decide) dX8_putBehind_57 ?_
            refine lv_goto (tgt := 62) hx hb dX8_putBehind_58 (by decide) ?_
            refine w_ior hx hb dX8_putBehind_62 ?_
            obtain ⟨o29, h⟩ := h
            refine w_iast (z := (orI (M7 (a0 + 1) (sI x6).toNat) (M7 (j + 1) (sI x5).toNat))) (n := 24) (i := (sI x5)) hx hb hK.1 (t0 := 0) rfl hS hS0 lt1 (zkd_of cd2 rfl) (zln_of cd2 rfl) rfl o29.1 o29.2 (by decide) dX8_putBehind_63 (fun H locs hS hS0 => ?_)
            obtain ⟨M30, e31⟩ : ∃ M30 : zM, M30 = zup M7 (j + 1) (sI x5).toNat (orI (M7 (a0 + 1) (sI x6).toNat) (M7 (j + 1) (sI x5).toNat)) := ⟨_, rfl⟩
            rw [← e31] at hS
            have h := h M30 e31
            refine z_iinc (lv' := [(3, .int (iI (x5 + 1))), (0, .ref (b + j)), (1, .ref (b + a0)), (4, .int (iI x6))]) hx hb dX8_putBehind_64 hl (k := 2) rfl (by decide) rfl (fun ls hl => ?_)
            refine z_iinc (lv' := [(4, .int (iI (x6 + 1))), (3, .int (iI (x5 + 1))), (0, .ref (b + j)), (1, .ref (b + a0))]) hx hb dX8_putBehind_67 hl (k := 3) rfl (by decide) rfl (fun ls hl => ?_)
            refine lv_goto (tgt := 14) hx hb dX8_putBehind_70 (by decide) ?_
            obtain ⟨n32, h33, h⟩ := h
            exact i14 n32 h33 (x5 + 1) (x6 + 1) M30 _ _ _ h hS hS0 (lv_sub hl [2, 3, 1, 0] rfl)
  exact L12 n9 (max 0 (sI ((M j 1) - a1))) 0 M _ _ _ h10 hS hS0 (lv_sub hl [2, 3, 1, 0] rfl)

set_option maxRecDepth 100000 in
def wC_Strip_copy (j : Nat) (a0 : Nat) (M : zM) (Q : zM → Prop) : Prop := (∀ M5 : zM, M5 = zup M j 1 (M a0 1) → (((a0 + 1) ≠ (j + 1)) ∧ (∀ M8 : zM, M8 = zcp M5 (a0 + 1) (j + 1) (0 : Int).toNat (0 : Int).toNat (24 : Int).toNat → Q M8)))
set_option maxHeartbeats 4000000 in
set_option maxRecDepth 100000 in
theorem cC_Strip_copy (l : Launch) (D : va_G) (dA : Nat → ClassId) (b : Nat) (M : zM) (j : Nat) (a0 : Nat) (lt_j : j < nC) (cd_j : zcd wC j = 6) (lt_a0 : a0 < nC) (cd_a0 : zcd wC a0 = 6) (Q : zM → Prop) (h : wC_Strip_copy j a0 M Q) : Met l yX8_copy (.code yX8_copy cX8_copy 2 none :: zt) (z_rm 1) (va_Pc [.ref (b + j), .ref (b + a0)] (wPre D dA vwCl (z_tys dA) wC nC b M)) (va_Qv (wQv Q) (zB D dA vwCl wC nC b) (zA nC b)) 0 0 (zA nC b) := by
  unfold wC_Strip_copy at h
  refine Met.ofW (cc := cX8_copy) (maxL := 2) (ret := none) (by decide) rfl ?_
  intro p e s m args below meth c s₁ B hml hv
  obtain ⟨hargs, hS, hK⟩ := hv
  have hx := B.exec
  have hb := B.bytes
  have hr := B.returns
  have hts := atoms_spec (ws := .code yX8_copy cX8_copy 2 none :: zt) B.pre
  have hown : s.vm.findClass RX8 = some m.cls := findClass_of_methodNamed B.named
  have hlocks := B.notSynchronized
  have hS0 : va_S (zA nC b) s.heap s.heap [] := va_S.rf
  have hl := lv_entry ([.ref (b + j), .ref (b + a0)]) (n := 2) (Nat.le_of_ble_eq_true rfl)
  have hent : entryFrame m args 2 = F0 m 0 ((lg_sl ([.ref (b + j), .ref (b + a0)]) ++ List.replicate (2 - (lg_sl ([.ref (b + j), .ref (b + a0)])).length) Slot.unset).toArray) [] := by rw [hargs]; exact lg_entry_eq m ([.ref (b + j), .ref (b + a0)]) 2
  rw [hent]
  generalize (lg_sl ([.ref (b + j), .ref (b + a0)]) ++ List.replicate (2 - (lg_sl ([.ref (b + j), .ref (b + a0)])).length) Slot.unset).toArray = ls at hl ⊢
  have hl : lv_has ls 2 [(0, .ref (b + j)), (1, .ref (b + a0))] := hl
  obtain ⟨lt1, cd2⟩ := nx_strip j lt_j cd_j
  obtain ⟨lt3, cd4⟩ := nx_strip a0 lt_a0 cd_a0
  refine lv_aload_n hx hb dX8_copy_0 rfl (lv_at hl 0 rfl) ?_
  refine lv_aload_n hx hb dX8_copy_1 rfl (lv_at hl 1 rfl) ?_
  refine w_geti hx hb hts (z_memU u8) hown hK.1 hS f8_1 lt_a0 (zkd_of cd_a0 rfl) (Or.inl (hts _ (z_mem k44))) dX8_copy_2 ?_
  refine w_puti hx hb hts (z_memU u8) tyX8 tyX8_ok nmX8 hown hK.1 hS hS0 f8_1 lt_j (zkd_of cd_j rfl) (Or.inl (hts _ (z_mem k44))) rfl (z := (M a0 1)) (by decide +kernel) dX8_copy_5 (fun H locs hS hS0 => ?_)
  obtain ⟨M5, e6⟩ : ∃ M5 : zM, M5 = zup M j 1 (M a0 1) := ⟨_, rfl⟩
  rw [← e6] at hS
  have h := h M5 e6
  refine lv_aload_n hx hb dX8_copy_8 rfl (lv_at hl 1 rfl) ?_
  refine w_getr (j2 := (a0 + 1)) hx hb hts (z_memU u8) hown hK.1 hS f8_0 lt_a0 (zkd_of cd_a0 rfl) (zrf_of cd_a0 rfl) (Or.inl (hts _ (z_mem k41))) dX8_copy_9 ?_
  refine z_iconst hx hb dX8_copy_12 ?_
  refine lv_aload_n hx hb dX8_copy_13 rfl (lv_at hl 0 rfl) ?_
  refine w_getr (j2 := (j + 1)) hx hb hts (z_memU u8) hown hK.1 hS f8_0 lt_j (zkd_of cd_j rfl) (zrf_of cd_j rfl) (Or.inl (hts _ (z_mem k41))) dX8_copy_14 ?_
  refine z_iconst hx hb dX8_copy_17 ?_
  refine z_bipush hx hb (by decide) dX8_copy_18 ?_
  obtain ⟨o7, h⟩ := h
  refine w_acopy (n0 := 24) (n1 := 24) (sp := 0) (dp := 0) (n := 24) hx hb (hml.trans hl.1.symm) hown (hts _ (z_mem k364)) (hts _ (z_mem k366)) (hts _ (z_mem k365)) (hts _ (z_mem k16)) hK.1 (t0 := 0) rfl hS hS0 lt3 lt1 o7 (zkd_of cd4 rfl) (zkd_of cd2 rfl) (zln_of cd4 rfl) (zln_of cd2 rfl) (by decide) (by decide) (sI_of (by decide)) (sI_of (by decide)) (sI_of (by decide)) (by decide) (by decide) (by decide) (by decide) (by decide) (by exact Nat.le_of_ble_eq_true rfl) (by exact Nat.le_of_ble_eq_true rfl) dX8_copy_20 (fun H locs hS hS0 => ?_)
  obtain ⟨M8, e9⟩ : ∃ M8 : zM, M8 = zcp M5 (a0 + 1) (j + 1) (0 : Int).toNat (0 : Int).toNat (24 : Int).toNat := ⟨_, rfl⟩
  rw [← e9] at hS
  have h := h M8 e9
  exact w_vret hx hb hr hlocks hS hS0 h dX8_copy_23

set_option maxRecDepth 100000 in
def wC_Strip_at (j : Nat) (a0 : Int) (M : zM) (Q : Int → Prop) : Prop := wC_Strip_has j a0 M (fun z4 => (z4 = 0 → Q (-1)) ∧ (z4 ≠ 0 → ((0 ≤ (sI a0) ∧ (sI a0) < 24) ∧ Q (sI (M (j + 1) (sI a0).toNat)))))
set_option maxHeartbeats 4000000 in
set_option maxRecDepth 100000 in
theorem cC_Strip_at (l : Launch) (D : va_G) (dA : Nat → ClassId) (b : Nat) (M : zM) (j : Nat) (a0 : Int) (lt_j : j < nC) (cd_j : zcd wC j = 6) (Q : Int → Prop) (h : wC_Strip_at j a0 M Q) : Met l yX8_at (.code yX8_at cX8_at 2 (some .int) :: zt) (z_rm 1) (va_Pc [.ref (b + j), .int (iI a0)] (wPre D dA vwCl (z_tys dA) wC nC b M)) (va_Qi (wQi (fun z9 u9 => u9 = M ∧ Q z9)) (zB D dA vwCl wC nC b) (zA nC b)) 0 0 (zA nC b) := by
  unfold wC_Strip_at at h
  refine Met.ofW (cc := cX8_at) (maxL := 2) (ret := (some .int)) (by decide) rfl ?_
  intro p e s m args below meth c s₁ B hml hv
  obtain ⟨hargs, hS, hK⟩ := hv
  have hx := B.exec
  have hb := B.bytes
  have hr := B.returns
  have hts := atoms_spec (ws := .code yX8_at cX8_at 2 (some .int) :: zt) B.pre
  have hown : s.vm.findClass RX8 = some m.cls := findClass_of_methodNamed B.named
  have hlocks := B.notSynchronized
  have hS0 : va_S (zA nC b) s.heap s.heap [] := va_S.rf
  have hl := lv_entry ([.ref (b + j), .int (iI a0)]) (n := 2) (Nat.le_of_ble_eq_true rfl)
  have hent : entryFrame m args 2 = F0 m 0 ((lg_sl ([.ref (b + j), .int (iI a0)]) ++ List.replicate (2 - (lg_sl ([.ref (b + j), .int (iI a0)])).length) Slot.unset).toArray) [] := by rw [hargs]; exact lg_entry_eq m ([.ref (b + j), .int (iI a0)]) 2
  rw [hent]
  generalize (lg_sl ([.ref (b + j), .int (iI a0)]) ++ List.replicate (2 - (lg_sl ([.ref (b + j), .int (iI a0)])).length) Slot.unset).toArray = ls at hl ⊢
  have hl : lv_has ls 2 [(0, .ref (b + j)), (1, .int (iI a0))] := hl
  obtain ⟨lt1, cd2⟩ := nx_strip j lt_j cd_j
  refine lv_aload_n hx hb dX8_at_0 rfl (lv_at hl 0 rfl) ?_
  refine lv_iload_n hx hb dX8_at_1 rfl (lv_at hl 1 rfl) ?_
  refine w_callz (va_runV (As := [.int (iI a0)]) (rest := []) ⟨hx, hb, hml, hown, hts⟩ (cC_Strip_has l D dA b M j a0 lt_j cd_j _ h) (cwV 1 hts (z_gV k326 k327 k328 k3 k329) rfl rfl rfl dm_X8_has ⟨Nat.le_of_ble_eq_true rfl, Nat.le_of_ble_eq_true rfl⟩) ⟨wPre_blind, (w_recv hS hK.1 lt_j (zkd_of cd_j rfl) (by decide) (rfl : vwCl[8]? = some (RX8, TX8, 2))), w_pre hS hK⟩ rfl rfl hl.1 rfl (lv_room (Nat.le_of_ble_eq_true rfl)) dX8_at_2 ⟨Nat.le_refl _, Nat.le_refl _⟩) hS0 (fun z4 M3 H locs r5 h hS hS0 => ?_)
  obtain ⟨e6, h⟩ := h
  rw [e6] at hS
  refine w_if_eq (tgt := 17) hx hb (sI_01 r5) dX8_at_5 (by decide) (fun c7 => ?_) (fun c7 => ?_)
  · skip
    have h := h.1 c7
    refine z_iconst hx hb dX8_at_17 ?_
    exact w_iret hx hb hr hlocks hS hS0 (sI_of (by decide)) ⟨rfl, h⟩ dX8_at_18
  · skip
    have h := h.2 c7
    refine lv_aload_n hx hb dX8_at_8 rfl (lv_at hl 0 rfl) ?_
    refine w_getr (j2 := (j + 1)) hx hb hts (z_memU u8) hown hK.1 hS f8_0 lt_j (zkd_of cd_j rfl) (zrf_of cd_j rfl) (Or.inl (hts _ (z_mem k41))) dX8_at_9 ?_
    refine lv_iload_n hx hb dX8_at_12 rfl (lv_at hl 1 rfl) ?_
    obtain ⟨o8, h⟩ := h
    refine w_iald (n := 24) (i := (sI a0)) hx hb hK.1 (t0 := 0) rfl hS lt1 (zkd_of cd2 rfl) (zln_of cd2 rfl) rfl o8.1 o8.2 (by decide) dX8_at_13 ?_
    refine lv_goto (tgt := 18) hx hb dX8_at_14 (by decide) ?_
    exact w_iret hx hb hr hlocks hS hS0 rfl ⟨rfl, h⟩ dX8_at_18

set_option maxRecDepth 100000 in
def wC_within (a0 : Int) (a1 : Int) (a2 : Int) (M : zM) (Q : Int → Prop) : Prop := ((sI a0) < (sI a1) → Q 0) ∧ ((sI a1) ≤ (sI a0) → ((sI a2) < (sI a0) → Q 0) ∧ ((sI a0) ≤ (sI a2) → Q 1))
set_option maxHeartbeats 4000000 in
set_option maxRecDepth 100000 in
theorem cC_within (l : Launch) (D : va_G) (dA : Nat → ClassId) (b : Nat) (M : zM) (a0 : Int) (a1 : Int) (a2 : Int)  (Q : Int → Prop) (h : wC_within a0 a1 a2 M Q) : Met l yX11_within (.code yX11_within cX11_within 3 (some .boolean) :: zt) (z_rm 0) (va_Pc [.int (iI a0), .int (iI a1), .int (iI a2)] (wPre D dA vwCl (z_tys dA) wC nC b M)) (va_Qi (wQz (fun z9 u9 => u9 = M ∧ Q z9)) (zB D dA vwCl wC nC b) (zA nC b)) 0 0 (zA nC b) := by
  unfold wC_within at h
  refine Met.ofW (cc := cX11_within) (maxL := 3) (ret := (some .boolean)) (by decide) rfl ?_
  intro p e s m args below meth c s₁ B hml hv
  obtain ⟨hargs, hS, hK⟩ := hv
  have hx := B.exec
  have hb := B.bytes
  have hr := B.returns
  have hts := atoms_spec (ws := .code yX11_within cX11_within 3 (some .boolean) :: zt) B.pre
  have hown : s.vm.findClass RX11 = some m.cls := findClass_of_methodNamed B.named
  have hlocks := B.notSynchronized
  have hS0 : va_S (zA nC b) s.heap s.heap [] := va_S.rf
  have hl := lv_entry ([.int (iI a0), .int (iI a1), .int (iI a2)]) (n := 3) (Nat.le_of_ble_eq_true rfl)
  have hent : entryFrame m args 3 = F0 m 0 ((lg_sl ([.int (iI a0), .int (iI a1), .int (iI a2)]) ++ List.replicate (3 - (lg_sl ([.int (iI a0), .int (iI a1), .int (iI a2)])).length) Slot.unset).toArray) [] := by rw [hargs]; exact lg_entry_eq m ([.int (iI a0), .int (iI a1), .int (iI a2)]) 3
  rw [hent]
  generalize (lg_sl ([.int (iI a0), .int (iI a1), .int (iI a2)]) ++ List.replicate (3 - (lg_sl ([.int (iI a0), .int (iI a1), .int (iI a2)])).length) Slot.unset).toArray = ls at hl ⊢
  have hl : lv_has ls 3 [(0, .int (iI a0)), (1, .int (iI a1)), (2, .int (iI a2))] := hl
  refine lv_iload_n hx hb dX11_within_0 rfl (lv_at hl 0 rfl) ?_
  refine lv_iload_n hx hb dX11_within_1 rfl (lv_at hl 1 rfl) ?_
  refine w_icmp_lt (tgt := 14) hx hb rfl rfl dX11_within_2 (by decide) (fun c1 => ?_) (fun c1 => ?_)
  · skip
    have h := h.1 c1
    refine z_iconst hx hb dX11_within_14 ?_
    exact w_zret hx hb hr hlocks hS hS0 (sI_of (by decide)) (by decide) ⟨rfl, h⟩ dX11_within_15
  · skip
    have h := h.2 c1
    refine lv_iload_n hx hb dX11_within_5 rfl (lv_at hl 0 rfl) ?_
    refine lv_iload_n hx hb dX11_within_6 rfl (lv_at hl 2 rfl) ?_
    refine w_icmp_gt (tgt := 14) hx hb rfl rfl dX11_within_7 (by decide) (fun c2 => ?_) (fun c2 => ?_)
    · skip
      have h := h.1 c2
      refine z_iconst hx hb dX11_within_14 ?_
      exact w_zret hx hb hr hlocks hS hS0 (sI_of (by decide)) (by decide) ⟨rfl, h⟩ dX11_within_15
    · skip
      have h := h.2 c2
      refine z_iconst hx hb dX11_within_10 ?_
      refine lv_goto (tgt := 15) hx hb dX11_within_11 (by decide) ?_
      exact w_zret hx hb hr hlocks hS hS0 (sI_of (by decide)) (by decide) ⟨rfl, h⟩ dX11_within_15

set_option maxRecDepth 100000 in
def wC_isMotor (a0 : Int) (M : zM) (Q : Int → Prop) : Prop := wC_within a0 0 1 M (fun z2 => Q z2)
set_option maxHeartbeats 4000000 in
set_option maxRecDepth 100000 in
theorem cC_isMotor (l : Launch) (D : va_G) (dA : Nat → ClassId) (b : Nat) (M : zM) (a0 : Int)  (Q : Int → Prop) (h : wC_isMotor a0 M Q) : Met l yX11_isMotor (.code yX11_isMotor cX11_isMotor 1 (some .boolean) :: zt) (z_rm 1) (va_Pc [.int (iI a0)] (wPre D dA vwCl (z_tys dA) wC nC b M)) (va_Qi (wQz (fun z9 u9 => u9 = M ∧ Q z9)) (zB D dA vwCl wC nC b) (zA nC b)) 0 0 (zA nC b) := by
  unfold wC_isMotor at h
  refine Met.ofW (cc := cX11_isMotor) (maxL := 1) (ret := (some .boolean)) (by decide) rfl ?_
  intro p e s m args below meth c s₁ B hml hv
  obtain ⟨hargs, hS, hK⟩ := hv
  have hx := B.exec
  have hb := B.bytes
  have hr := B.returns
  have hts := atoms_spec (ws := .code yX11_isMotor cX11_isMotor 1 (some .boolean) :: zt) B.pre
  have hown : s.vm.findClass RX11 = some m.cls := findClass_of_methodNamed B.named
  have hlocks := B.notSynchronized
  have hS0 : va_S (zA nC b) s.heap s.heap [] := va_S.rf
  have hl := lv_entry ([.int (iI a0)]) (n := 1) (Nat.le_of_ble_eq_true rfl)
  have hent : entryFrame m args 1 = F0 m 0 ((lg_sl ([.int (iI a0)]) ++ List.replicate (1 - (lg_sl ([.int (iI a0)])).length) Slot.unset).toArray) [] := by rw [hargs]; exact lg_entry_eq m ([.int (iI a0)]) 1
  rw [hent]
  generalize (lg_sl ([.int (iI a0)]) ++ List.replicate (1 - (lg_sl ([.int (iI a0)])).length) Slot.unset).toArray = ls at hl ⊢
  have hl : lv_has ls 1 [(0, .int (iI a0))] := hl
  refine lv_iload_n hx hb dX11_isMotor_0 rfl (lv_at hl 0 rfl) ?_
  refine z_iconst hx hb dX11_isMotor_1 ?_
  refine z_iconst hx hb dX11_isMotor_2 ?_
  refine w_callz (va_runS (As := [.int (iI a0), .int (iI 0), .int (iI 1)]) (rest := []) ⟨hx, hb, hml, hown, hts⟩ (cC_within l D dA b M a0 0 1 _ h) (va_cwS 3 hts (z_gS k382 k383 k1 k384) rfl rfl rfl dm_X11_within.2 ⟨Nat.le_of_ble_eq_true rfl, Nat.le_of_ble_eq_true rfl⟩) ⟨wPre_blind, w_pre hS hK⟩ rfl rfl hl.1 rfl (lv_room (Nat.le_of_ble_eq_true rfl)) dX11_isMotor_3 ⟨Nat.le_refl _, Nat.le_refl _⟩) hS0 (fun z2 M1 H locs r3 h hS hS0 => ?_)
  obtain ⟨e4, h⟩ := h
  rw [e4] at hS
  exact w_zret hx hb hr hlocks hS hS0 (sI_01 r3) r3 ⟨rfl, h⟩ dX11_isMotor_6

set_option maxRecDepth 100000 in
def wC_by (a0 : Int) (a1 : Int) (M : zM) (Q : Int → Prop) : Prop := (1 ≤ (sI a1) → (((sI a1) ≠ 0) ∧ (0 ≤ (sI ((sL a0).tmod (sI a1))) → Q (sI ((sL a0).tmod (sI a1)))) ∧ ((sI ((sL a0).tmod (sI a1))) < 0 → Q (sI (((sL a0).tmod (sI a1)) + a1))))) ∧ ((sI a1) < 1 → Q 0)
set_option maxHeartbeats 4000000 in
set_option maxRecDepth 100000 in
theorem cC_by (l : Launch) (D : va_G) (dA : Nat → ClassId) (b : Nat) (M : zM) (a0 : Int) (a1 : Int)  (Q : Int → Prop) (h : wC_by a0 a1 M Q) : Met l yX11_by (.code yX11_by cX11_by 4 (some .int) :: zt) (z_rm 0) (va_Pc [.long (iL a0), .int (iI a1)] (wPre D dA vwCl (z_tys dA) wC nC b M)) (va_Qi (wQi (fun z9 u9 => u9 = M ∧ Q z9)) (zB D dA vwCl wC nC b) (zA nC b)) 0 0 (zA nC b) := by
  unfold wC_by at h
  refine Met.ofW (cc := cX11_by) (maxL := 4) (ret := (some .int)) (by decide) rfl ?_
  intro p e s m args below meth c s₁ B hml hv
  obtain ⟨hargs, hS, hK⟩ := hv
  have hx := B.exec
  have hb := B.bytes
  have hr := B.returns
  have hts := atoms_spec (ws := .code yX11_by cX11_by 4 (some .int) :: zt) B.pre
  have hown : s.vm.findClass RX11 = some m.cls := findClass_of_methodNamed B.named
  have hlocks := B.notSynchronized
  have hS0 : va_S (zA nC b) s.heap s.heap [] := va_S.rf
  have hl := lv_entry ([.long (iL a0), .int (iI a1)]) (n := 4) (Nat.le_of_ble_eq_true rfl)
  have hent : entryFrame m args 4 = F0 m 0 ((lg_sl ([.long (iL a0), .int (iI a1)]) ++ List.replicate (4 - (lg_sl ([.long (iL a0), .int (iI a1)])).length) Slot.unset).toArray) [] := by rw [hargs]; exact lg_entry_eq m ([.long (iL a0), .int (iI a1)]) 4
  rw [hent]
  generalize (lg_sl ([.long (iL a0), .int (iI a1)]) ++ List.replicate (4 - (lg_sl ([.long (iL a0), .int (iI a1)])).length) Slot.unset).toArray = ls at hl ⊢
  have hl : lv_has ls 4 [(0, .long (iL a0)), (2, .int (iI a1))] := hl
  refine lv_iload_n hx hb dX11_by_0 rfl (lv_at hl 1 rfl) ?_
  refine z_iconst hx hb dX11_by_1 ?_
  refine w_icmp_ge (tgt := 7) hx hb rfl (sI_of (by decide)) dX11_by_2 (by decide) (fun c1 => ?_) (fun c1 => ?_)
  · skip
    have h := h.1 c1
    refine lv_lload_n hx hb dX11_by_7 rfl (lv_at hl 0 rfl) ?_
    refine lv_iload_n hx hb dX11_by_8 rfl (lv_at hl 1 rfl) ?_
    refine w_i2l hx hb rfl dX11_by_9 ?_
    obtain ⟨o2, h⟩ := h
    refine w_lrem hx hb rfl (sL_ofI rfl) o2 dX11_by_10 ?_
    refine z_l2i hx hb dX11_by_11 ?_
    refine lv_istore_n (lv' := [(3, .int (iI ((sL a0).tmod (sI a1)))), (0, .long (iL a0)), (2, .int (iI a1))]) hx hb dX11_by_12 rfl hl (by decide) rfl (fun ls hl => ?_)
    refine lv_iload_n hx hb dX11_by_13 rfl (lv_at hl 0 rfl) ?_
    refine w_if_ge (tgt := 23) hx hb rfl dX11_by_14 (by decide) (fun c3 => ?_) (fun c3 => ?_)
    · skip
      have h := h.1 c3
      refine lv_iload_n hx hb dX11_by_23 rfl (lv_at hl 0 rfl) ?_
      exact w_iret hx hb hr hlocks hS hS0 rfl ⟨rfl, h⟩ dX11_by_24
    · skip
      have h := h.2 c3
      refine lv_iload_n hx hb dX11_by_17 rfl (lv_at hl 0 rfl) ?_
      refine lv_iload_n hx hb dX11_by_18 rfl (lv_at hl 2 rfl) ?_
      refine z_iadd hx hb dX11_by_19 ?_
      refine lv_goto (tgt := 24) hx hb dX11_by_20 (by decide) ?_
      exact w_iret hx hb hr hlocks hS hS0 rfl ⟨rfl, h⟩ dX11_by_24
  · skip
    have h := h.2 c1
    refine z_iconst hx hb dX11_by_5 ?_
    exact w_iret hx hb hr hlocks hS hS0 (sI_of (by decide)) ⟨rfl, h⟩ dX11_by_6

set_option maxRecDepth 100000 in
def wC_greatestDivisor (a0 : Int) (a1 : Int) (M : zM) (Q : Int → Prop) : Prop := pL1 (fun K2 x1 => ((sI x1) ≤ 1 → Q 1) ∧ (1 < (sI x1) → (((sI x1) ≠ 0) ∧ ((sI ((sI a0).tmod (sI x1))) ≠ 0 → K2 (x1 + (-1))) ∧ ((sI ((sI a0).tmod (sI x1))) = 0 → (((sI x1) ≠ 0) ∧ ((sL ((sL a1).tmod (sI x1))) ≠ 0 → K2 (x1 + (-1))) ∧ ((sL ((sL a1).tmod (sI x1))) = 0 → Q (sI x1))))))) a0
set_option maxHeartbeats 4000000 in
set_option maxRecDepth 100000 in
theorem cC_greatestDivisor (l : Launch) (D : va_G) (dA : Nat → ClassId) (b : Nat) (M : zM) (a0 : Int) (a1 : Int)  (Q : Int → Prop) (h : wC_greatestDivisor a0 a1 M Q) : Met l yX11_greatestDivisor (.code yX11_greatestDivisor cX11_greatestDivisor 4 (some .int) :: zt) (z_rm 0) (va_Pc [.int (iI a0), .long (iL a1)] (wPre D dA vwCl (z_tys dA) wC nC b M)) (va_Qi (wQi (fun z9 u9 => u9 = M ∧ Q z9)) (zB D dA vwCl wC nC b) (zA nC b)) 0 0 (zA nC b) := by
  unfold wC_greatestDivisor at h
  refine Met.ofW (cc := cX11_greatestDivisor) (maxL := 4) (ret := (some .int)) (by decide) rfl ?_
  intro p e s m args below meth c s₁ B hml hv
  obtain ⟨hargs, hS, hK⟩ := hv
  have hx := B.exec
  have hb := B.bytes
  have hr := B.returns
  have hts := atoms_spec (ws := .code yX11_greatestDivisor cX11_greatestDivisor 4 (some .int) :: zt) B.pre
  have hown : s.vm.findClass RX11 = some m.cls := findClass_of_methodNamed B.named
  have hlocks := B.notSynchronized
  have hS0 : va_S (zA nC b) s.heap s.heap [] := va_S.rf
  have hl := lv_entry ([.int (iI a0), .long (iL a1)]) (n := 4) (Nat.le_of_ble_eq_true rfl)
  have hent : entryFrame m args 4 = F0 m 0 ((lg_sl ([.int (iI a0), .long (iL a1)]) ++ List.replicate (4 - (lg_sl ([.int (iI a0), .long (iL a1)])).length) Slot.unset).toArray) [] := by rw [hargs]; exact lg_entry_eq m ([.int (iI a0), .long (iL a1)]) 4
  rw [hent]
  generalize (lg_sl ([.int (iI a0), .long (iL a1)]) ++ List.replicate (4 - (lg_sl ([.int (iI a0), .long (iL a1)])).length) Slot.unset).toArray = ls at hl ⊢
  have hl : lv_has ls 4 [(0, .int (iI a0)), (1, .long (iL a1))] := hl
  refine lv_iload_n hx hb dX11_greatestDivisor_0 rfl (lv_at hl 0 rfl) ?_
  refine lv_istore_n (lv' := [(3, .int (iI a0)), (0, .int (iI a0)), (1, .long (iL a1))]) hx hb dX11_greatestDivisor_1 rfl hl (by decide) rfl (fun ls hl => ?_)
  obtain ⟨I2, ⟨n3, h4⟩, h5⟩ := h
  have L6 : ∀ (n7 : Nat) (x1 : Int) (H : Heap) (locs : List Loc) (ls : Array Slot), I2 n7 x1 → zR D dA vwCl wC nC b M H → va_S (zA nC b) s.heap H locs → lv_has ls 4 [(0, .int (iI a0)), (1, .long (iL a1)), (3, .int (iI x1))] → W p l e (headSpec (.code yX11_greatestDivisor cX11_greatestDivisor 4 (some .int) :: zt) (z_rm 0)).room s m args below meth c H locs 0 0 (MQ below (va_Qi (wQi (fun z9 u9 => u9 = M ∧ Q z9)) (zB D dA vwCl wC nC b) (zA nC b)) args s 0 0 (zA nC b)) (F0 m 2 ls []) := by
    intro n7
    induction n7 using Nat.strongRecOn with
    | ind n7 i8 =>
      intro x1 H locs ls h hS hS0 hl
      have h := h5 n7 x1 h
      refine lv_iload_n hx hb dX11_greatestDivisor_2 rfl (lv_at hl 2 rfl) ?_
      refine z_iconst hx hb dX11_greatestDivisor_3 ?_
      refine w_icmp_le (tgt := 30) hx hb rfl (sI_of (by decide)) dX11_greatestDivisor_4 (by decide) (fun c9 => ?_) (fun c9 => ?_)
      · skip
        have h := h.1 c9
        refine z_iconst hx hb dX11_greatestDivisor_30 ?_
        exact w_iret hx hb hr hlocks hS hS0 (sI_of (by decide)) ⟨rfl, h⟩ dX11_greatestDivisor_31
      · skip
        have h := h.2 c9
        refine lv_iload_n hx hb dX11_greatestDivisor_7 rfl (lv_at hl 0 rfl) ?_
        refine lv_iload_n hx hb dX11_greatestDivisor_8 rfl (lv_at hl 2 rfl) ?_
        obtain ⟨o10, h⟩ := h
        refine w_irem hx hb rfl rfl o10 dX11_greatestDivisor_9 ?_
        refine w_if_ne (tgt := 24) hx hb rfl dX11_greatestDivisor_10 (by decide) (fun c11 => ?_) (fun c11 => ?_)
        · skip
          have h := h.1 c11
          refine z_iinc (lv' := [(3, .int (iI (x1 + (-1)))), (0, .int (iI a0)), (1, .long (iL a1))]) hx hb dX11_greatestDivisor_24 hl (k := 2) rfl (by decide) rfl (fun ls hl => ?_)
          refine lv_goto (tgt := 2) hx hb dX11_greatestDivisor_27 (by decide) ?_
          obtain ⟨n12, h13, h⟩ := h
          exact i8 n12 h13 (x1 + (-1)) _ _ _ h hS hS0 (lv_sub hl [1, 2, 0] rfl)
        · skip
          have h := h.2 c11
          refine lv_lload_n hx hb dX11_greatestDivisor_13 rfl (lv_at hl 1 rfl) ?_
          refine lv_iload_n hx hb dX11_greatestDivisor_14 rfl (lv_at hl 2 rfl) ?_
          refine w_i2l hx hb rfl dX11_greatestDivisor_15 ?_
          obtain ⟨o14, h⟩ := h
          refine w_lrem hx hb rfl (sL_ofI rfl) o14 dX11_greatestDivisor_16 ?_
          refine z_lconst0 hx hb dX11_greatestDivisor_17 ?_
          refine w_lcmp_ne hx hb rfl (sL_of (by decide)) dX11_greatestDivisor_18 dX11_greatestDivisor_19 (tgt := 24) (by decide) (fun c15 => ?_) (fun c15 => ?_)
          · skip
            have h := h.1 c15
            refine z_iinc (lv' := [(3, .int (iI (x1 + (-1)))), (0, .int (iI a0)), (1, .long (iL a1))]) hx hb dX11_greatestDivisor_24 hl (k := 2) rfl (by decide) rfl (fun ls hl => ?_)
            refine lv_goto (tgt := 2) hx hb dX11_greatestDivisor_27 (by decide) ?_
            obtain ⟨n16, h17, h⟩ := h
            exact i8 n16 h17 (x1 + (-1)) _ _ _ h hS hS0 (lv_sub hl [1, 2, 0] rfl)
          · skip
            have h := h.2 c15
            refine lv_iload_n hx hb dX11_greatestDivisor_22 rfl (lv_at hl 2 rfl) ?_
            exact w_iret hx hb hr hlocks hS hS0 rfl ⟨rfl, h⟩ dX11_greatestDivisor_23
  exact L6 n3 a0 _ _ _ h4 hS hS0 (lv_sub hl [1, 2, 0] rfl)
