section zz10_w00
/-! the W layer, 0 -/
theorem q10w00_0_0 : (cX11_end.data.toList.drop 0).take 9 = [42, 180, 0, 12, 27, 182, 0, 84, 172] := by decide +kernel
theorem dX11_end_0 : decode cX11_end 0 = .ok (.aload_n 0, 1) := dz_42 (dz_at q10w00_0_0 0)
theorem dX11_end_1 : decode cX11_end 1 = .ok (.getfield 12, 3) := dz_180 (dz_at q10w00_0_0 1) rfl
theorem dX11_end_4 : decode cX11_end 4 = .ok (.iload_n 1, 1) := dz_27 (dz_at q10w00_0_0 4)
theorem dX11_end_5 : decode cX11_end 5 = .ok (.invokevirtual 84, 3) := dz_182 (dz_at q10w00_0_0 5) rfl
theorem dX11_end_8 : decode cX11_end 8 = .ok (.ireturn, 1) := dz_172 (dz_at q10w00_0_0 8)
theorem q10w00_1_0 : (cX11_sign.data.toList.drop 0).take 9 = [42, 180, 0, 12, 27, 182, 0, 80, 172] := by decide +kernel
theorem dX11_sign_0 : decode cX11_sign 0 = .ok (.aload_n 0, 1) := dz_42 (dz_at q10w00_1_0 0)
theorem dX11_sign_1 : decode cX11_sign 1 = .ok (.getfield 12, 3) := dz_180 (dz_at q10w00_1_0 1) rfl
theorem dX11_sign_4 : decode cX11_sign 4 = .ok (.iload_n 1, 1) := dz_27 (dz_at q10w00_1_0 4)
theorem dX11_sign_5 : decode cX11_sign 5 = .ok (.invokevirtual 80, 3) := dz_182 (dz_at q10w00_1_0 5) rfl
theorem dX11_sign_8 : decode cX11_sign 8 = .ok (.ireturn, 1) := dz_172 (dz_at q10w00_1_0 8)
theorem q10w00_2_0 : (cX7_add.data.toList.drop 0).take 24 = [42, 180, 0, 15, 7, 96, 42, 180, 0, 9, 190, 164, 0, 5, 2, 172, 16, 24, 61, 28, 155, 0, 35, 42] := by decide +kernel
theorem q10w00_2_24 : (cX7_add.data.toList.drop 24).take 22 = [180, 0, 9, 42, 180, 0, 15, 27, 28, 124, 17, 0, 255, 126, 79, 42, 89, 180, 0, 15, 4, 96] := by decide +kernel
theorem q10w00_2_46 : (cX7_add.data.toList.drop 46).take 14 = [181, 0, 15, 132, 2, 248, 167, 255, 223, 42, 180, 0, 15, 172] := by decide +kernel
theorem dX7_add_0 : decode cX7_add 0 = .ok (.aload_n 0, 1) := dz_42 (dz_at q10w00_2_0 0)
theorem dX7_add_1 : decode cX7_add 1 = .ok (.getfield 15, 3) := dz_180 (dz_at q10w00_2_0 1) rfl
theorem dX7_add_10 : decode cX7_add 10 = .ok (.arraylength, 1) := dz_190 (dz_at q10w00_2_0 10)
theorem dX7_add_11 : decode cX7_add 11 = .ok (.if_icmp .le 5, 3) := dz_164 (dz_at q10w00_2_0 11) (by decide +kernel)
theorem dX7_add_14 : decode cX7_add 14 = .ok (.iconst (-1), 1) := dz_2 (dz_at q10w00_2_0 14)
theorem dX7_add_15 : decode cX7_add 15 = .ok (.ireturn, 1) := dz_172 (dz_at q10w00_2_0 15)
theorem dX7_add_16 : decode cX7_add 16 = .ok (.bipush 24, 2) := dz_16 (dz_at q10w00_2_0 16) (by decide +kernel)
theorem dX7_add_18 : decode cX7_add 18 = .ok (.istore_n 2, 1) := dz_61 (dz_at q10w00_2_0 18)
theorem dX7_add_19 : decode cX7_add 19 = .ok (.iload_n 2, 1) := dz_28 (dz_at q10w00_2_0 19)
theorem dX7_add_20 : decode cX7_add 20 = .ok (.ifCond .lt 35, 3) := dz_155 (dz_at q10w00_2_0 20) (by decide +kernel)
theorem dX7_add_23 : decode cX7_add 23 = .ok (.aload_n 0, 1) := dz_42 (dz_at q10w00_2_0 23)
theorem dX7_add_24 : decode cX7_add 24 = .ok (.getfield 9, 3) := dz_180 (dz_at q10w00_2_24 0) rfl
theorem dX7_add_27 : decode cX7_add 27 = .ok (.aload_n 0, 1) := dz_42 (dz_at q10w00_2_24 3)
theorem dX7_add_28 : decode cX7_add 28 = .ok (.getfield 15, 3) := dz_180 (dz_at q10w00_2_24 4) rfl
theorem dX7_add_31 : decode cX7_add 31 = .ok (.iload_n 1, 1) := dz_27 (dz_at q10w00_2_24 7)
theorem dX7_add_32 : decode cX7_add 32 = .ok (.iload_n 2, 1) := dz_28 (dz_at q10w00_2_24 8)
theorem dX7_add_33 : decode cX7_add 33 = .ok (.iushr, 1) := dz_124 (dz_at q10w00_2_24 9)
theorem dX7_add_34 : decode cX7_add 34 = .ok (.sipush 255, 3) := dz_17 (dz_at q10w00_2_24 10) (by decide +kernel)
theorem dX7_add_37 : decode cX7_add 37 = .ok (.iand, 1) := dz_126 (dz_at q10w00_2_24 13)
theorem dX7_add_38 : decode cX7_add 38 = .ok (.iastore, 1) := dz_79 (dz_at q10w00_2_24 14)
theorem dX7_add_39 : decode cX7_add 39 = .ok (.aload_n 0, 1) := dz_42 (dz_at q10w00_2_24 15)
theorem dX7_add_4 : decode cX7_add 4 = .ok (.iconst 4, 1) := dz_7 (dz_at q10w00_2_0 4)
theorem dX7_add_40 : decode cX7_add 40 = .ok (.dup, 1) := dz_89 (dz_at q10w00_2_24 16)
theorem dX7_add_41 : decode cX7_add 41 = .ok (.getfield 15, 3) := dz_180 (dz_at q10w00_2_24 17) rfl
theorem dX7_add_44 : decode cX7_add 44 = .ok (.iconst 1, 1) := dz_4 (dz_at q10w00_2_24 20)
theorem dX7_add_45 : decode cX7_add 45 = .ok (.iadd, 1) := dz_96 (dz_at q10w00_2_24 21)
theorem dX7_add_46 : decode cX7_add 46 = .ok (.putfield 15, 3) := dz_181 (dz_at q10w00_2_46 0) rfl
theorem dX7_add_49 : decode cX7_add 49 = .ok (.iinc 2 (-8), 3) := dz_132 (dz_at q10w00_2_46 3) (by decide +kernel)
theorem dX7_add_5 : decode cX7_add 5 = .ok (.iadd, 1) := dz_96 (dz_at q10w00_2_0 5)
theorem dX7_add_52 : decode cX7_add 52 = .ok (.goto (-33), 3) := dz_167 (dz_at q10w00_2_46 6) (by decide +kernel)
theorem dX7_add_55 : decode cX7_add 55 = .ok (.aload_n 0, 1) := dz_42 (dz_at q10w00_2_46 9)
theorem dX7_add_56 : decode cX7_add 56 = .ok (.getfield 15, 3) := dz_180 (dz_at q10w00_2_46 10) rfl
theorem dX7_add_59 : decode cX7_add 59 = .ok (.ireturn, 1) := dz_172 (dz_at q10w00_2_46 13)
theorem dX7_add_6 : decode cX7_add 6 = .ok (.aload_n 0, 1) := dz_42 (dz_at q10w00_2_0 6)
theorem dX7_add_7 : decode cX7_add 7 = .ok (.getfield 9, 3) := dz_180 (dz_at q10w00_2_0 7) rfl
theorem q10w00_3_0 : (cX7_behindAtomStart.data.toList.drop 0).take 22 = [27, 16, 48, 184, 0, 63, 153, 0, 5, 4, 172, 27, 16, 91, 160, 0, 5, 7, 172, 27, 16, 40] := by decide +kernel
theorem q10w00_3_22 : (cX7_behindAtomStart.data.toList.drop 22).take 24 = [160, 0, 23, 42, 180, 0, 19, 8, 162, 0, 15, 42, 89, 180, 0, 19, 4, 96, 181, 0, 19, 3, 172, 2] := by decide +kernel
theorem q10w00_3_46 : (cX7_behindAtomStart.data.toList.drop 46).take 1 = [172] := by decide +kernel
theorem dX7_behindAtomStart_0 : decode cX7_behindAtomStart 0 = .ok (.iload_n 1, 1) := dz_27 (dz_at q10w00_3_0 0)
theorem dX7_behindAtomStart_1 : decode cX7_behindAtomStart 1 = .ok (.bipush 48, 2) := dz_16 (dz_at q10w00_3_0 1) (by decide +kernel)
theorem dX7_behindAtomStart_10 : decode cX7_behindAtomStart 10 = .ok (.ireturn, 1) := dz_172 (dz_at q10w00_3_0 10)
theorem dX7_behindAtomStart_11 : decode cX7_behindAtomStart 11 = .ok (.iload_n 1, 1) := dz_27 (dz_at q10w00_3_0 11)
theorem dX7_behindAtomStart_12 : decode cX7_behindAtomStart 12 = .ok (.bipush 91, 2) := dz_16 (dz_at q10w00_3_0 12) (by decide +kernel)
theorem dX7_behindAtomStart_14 : decode cX7_behindAtomStart 14 = .ok (.if_icmp .ne 5, 3) := dz_160 (dz_at q10w00_3_0 14) (by decide +kernel)
theorem dX7_behindAtomStart_17 : decode cX7_behindAtomStart 17 = .ok (.iconst 4, 1) := dz_7 (dz_at q10w00_3_0 17)
theorem dX7_behindAtomStart_18 : decode cX7_behindAtomStart 18 = .ok (.ireturn, 1) := dz_172 (dz_at q10w00_3_0 18)
theorem dX7_behindAtomStart_19 : decode cX7_behindAtomStart 19 = .ok (.iload_n 1, 1) := dz_27 (dz_at q10w00_3_0 19)
theorem dX7_behindAtomStart_20 : decode cX7_behindAtomStart 20 = .ok (.bipush 40, 2) := dz_16 (dz_at q10w00_3_0 20) (by decide +kernel)
theorem dX7_behindAtomStart_22 : decode cX7_behindAtomStart 22 = .ok (.if_icmp .ne 23, 3) := dz_160 (dz_at q10w00_3_22 0) (by decide +kernel)
theorem dX7_behindAtomStart_25 : decode cX7_behindAtomStart 25 = .ok (.aload_n 0, 1) := dz_42 (dz_at q10w00_3_22 3)
theorem dX7_behindAtomStart_26 : decode cX7_behindAtomStart 26 = .ok (.getfield 19, 3) := dz_180 (dz_at q10w00_3_22 4) rfl
theorem dX7_behindAtomStart_29 : decode cX7_behindAtomStart 29 = .ok (.iconst 5, 1) := dz_8 (dz_at q10w00_3_22 7)
theorem dX7_behindAtomStart_3 : decode cX7_behindAtomStart 3 = .ok (.invokestatic 63, 3) := dz_184 (dz_at q10w00_3_0 3) rfl
theorem dX7_behindAtomStart_30 : decode cX7_behindAtomStart 30 = .ok (.if_icmp .ge 15, 3) := dz_162 (dz_at q10w00_3_22 8) (by decide +kernel)
theorem dX7_behindAtomStart_33 : decode cX7_behindAtomStart 33 = .ok (.aload_n 0, 1) := dz_42 (dz_at q10w00_3_22 11)
theorem dX7_behindAtomStart_34 : decode cX7_behindAtomStart 34 = .ok (.dup, 1) := dz_89 (dz_at q10w00_3_22 12)
theorem dX7_behindAtomStart_35 : decode cX7_behindAtomStart 35 = .ok (.getfield 19, 3) := dz_180 (dz_at q10w00_3_22 13) rfl
theorem dX7_behindAtomStart_38 : decode cX7_behindAtomStart 38 = .ok (.iconst 1, 1) := dz_4 (dz_at q10w00_3_22 16)
theorem dX7_behindAtomStart_39 : decode cX7_behindAtomStart 39 = .ok (.iadd, 1) := dz_96 (dz_at q10w00_3_22 17)
theorem dX7_behindAtomStart_40 : decode cX7_behindAtomStart 40 = .ok (.putfield 19, 3) := dz_181 (dz_at q10w00_3_22 18) rfl
theorem dX7_behindAtomStart_43 : decode cX7_behindAtomStart 43 = .ok (.iconst 0, 1) := dz_3 (dz_at q10w00_3_22 21)
theorem dX7_behindAtomStart_44 : decode cX7_behindAtomStart 44 = .ok (.ireturn, 1) := dz_172 (dz_at q10w00_3_22 22)
theorem dX7_behindAtomStart_45 : decode cX7_behindAtomStart 45 = .ok (.iconst (-1), 1) := dz_2 (dz_at q10w00_3_22 23)
theorem dX7_behindAtomStart_46 : decode cX7_behindAtomStart 46 = .ok (.ireturn, 1) := dz_172 (dz_at q10w00_3_46 0)
theorem dX7_behindAtomStart_6 : decode cX7_behindAtomStart 6 = .ok (.ifCond .eq 5, 3) := dz_153 (dz_at q10w00_3_0 6) (by decide +kernel)
theorem dX7_behindAtomStart_9 : decode cX7_behindAtomStart 9 = .ok (.iconst 1, 1) := dz_4 (dz_at q10w00_3_0 9)
theorem q10w00_4_0 : (cX7_behindTermSign.data.toList.drop 0).take 1 = [27] := by decide +kernel
theorem q10w00_4_44 : (cX7_behindTermSign.data.toList.drop 44).take 24 = [4, 172, 5, 172, 6, 172, 42, 89, 180, 0, 19, 4, 100, 181, 0, 19, 42, 180, 0, 19, 156, 0, 7, 2] := by decide +kernel
theorem q10w00_4_68 : (cX7_behindTermSign.data.toList.drop 68).take 11 = [167, 0, 4, 4, 172, 42, 27, 182, 0, 56, 172] := by decide +kernel
theorem dX7_behindTermSign_0 : decode cX7_behindTermSign 0 = .ok (.iload_n 1, 1) := dz_27 (dz_at q10w00_4_0 0)
theorem dX7_behindTermSign_1 : decode cX7_behindTermSign 1 = .ok (.lookupswitch 72 #[(41, 49), (42, 45), (47, 47), (126, 43)], 43) := by decide +kernel
theorem dX7_behindTermSign_44 : decode cX7_behindTermSign 44 = .ok (.iconst 1, 1) := dz_4 (dz_at q10w00_4_44 0)
theorem dX7_behindTermSign_45 : decode cX7_behindTermSign 45 = .ok (.ireturn, 1) := dz_172 (dz_at q10w00_4_44 1)
theorem dX7_behindTermSign_46 : decode cX7_behindTermSign 46 = .ok (.iconst 2, 1) := dz_5 (dz_at q10w00_4_44 2)
theorem dX7_behindTermSign_47 : decode cX7_behindTermSign 47 = .ok (.ireturn, 1) := dz_172 (dz_at q10w00_4_44 3)
theorem dX7_behindTermSign_48 : decode cX7_behindTermSign 48 = .ok (.iconst 3, 1) := dz_6 (dz_at q10w00_4_44 4)
theorem dX7_behindTermSign_49 : decode cX7_behindTermSign 49 = .ok (.ireturn, 1) := dz_172 (dz_at q10w00_4_44 5)
theorem dX7_behindTermSign_50 : decode cX7_behindTermSign 50 = .ok (.aload_n 0, 1) := dz_42 (dz_at q10w00_4_44 6)
theorem dX7_behindTermSign_51 : decode cX7_behindTermSign 51 = .ok (.dup, 1) := dz_89 (dz_at q10w00_4_44 7)
theorem dX7_behindTermSign_52 : decode cX7_behindTermSign 52 = .ok (.getfield 19, 3) := dz_180 (dz_at q10w00_4_44 8) rfl
theorem dX7_behindTermSign_55 : decode cX7_behindTermSign 55 = .ok (.iconst 1, 1) := dz_4 (dz_at q10w00_4_44 11)
theorem dX7_behindTermSign_56 : decode cX7_behindTermSign 56 = .ok (.isub, 1) := dz_100 (dz_at q10w00_4_44 12)
theorem dX7_behindTermSign_57 : decode cX7_behindTermSign 57 = .ok (.putfield 19, 3) := dz_181 (dz_at q10w00_4_44 13) rfl
theorem dX7_behindTermSign_60 : decode cX7_behindTermSign 60 = .ok (.aload_n 0, 1) := dz_42 (dz_at q10w00_4_44 16)
theorem dX7_behindTermSign_61 : decode cX7_behindTermSign 61 = .ok (.getfield 19, 3) := dz_180 (dz_at q10w00_4_44 17) rfl
theorem dX7_behindTermSign_64 : decode cX7_behindTermSign 64 = .ok (.ifCond .ge 7, 3) := dz_156 (dz_at q10w00_4_44 20) (by decide +kernel)
theorem dX7_behindTermSign_67 : decode cX7_behindTermSign 67 = .ok (.iconst (-1), 1) := dz_2 (dz_at q10w00_4_44 23)
theorem dX7_behindTermSign_68 : decode cX7_behindTermSign 68 = .ok (.goto 4, 3) := dz_167 (dz_at q10w00_4_68 0) (by decide +kernel)
theorem dX7_behindTermSign_71 : decode cX7_behindTermSign 71 = .ok (.iconst 1, 1) := dz_4 (dz_at q10w00_4_68 3)
theorem dX7_behindTermSign_72 : decode cX7_behindTermSign 72 = .ok (.ireturn, 1) := dz_172 (dz_at q10w00_4_68 4)
theorem dX7_behindTermSign_73 : decode cX7_behindTermSign 73 = .ok (.aload_n 0, 1) := dz_42 (dz_at q10w00_4_68 5)
theorem dX7_behindTermSign_74 : decode cX7_behindTermSign 74 = .ok (.iload_n 1, 1) := dz_27 (dz_at q10w00_4_68 6)
theorem dX7_behindTermSign_75 : decode cX7_behindTermSign 75 = .ok (.invokevirtual 56, 3) := dz_182 (dz_at q10w00_4_68 7) rfl
theorem dX7_behindTermSign_78 : decode cX7_behindTermSign 78 = .ok (.ireturn, 1) := dz_172 (dz_at q10w00_4_68 10)
theorem q10w00_5_0 : (cX7_behind.data.toList.drop 0).take 1 = [27] := by decide +kernel
theorem q10w00_5_40 : (cX7_behind.data.toList.drop 40).take 22 = [42, 28, 182, 0, 56, 172, 42, 28, 182, 0, 60, 172, 28, 16, 50, 184, 0, 63, 153, 0, 7, 4] := by decide +kernel
theorem q10w00_5_62 : (cX7_behind.data.toList.drop 62).take 23 = [167, 0, 4, 2, 172, 28, 16, 49, 184, 0, 63, 153, 0, 7, 3, 167, 0, 4, 2, 172, 28, 16, 93] := by decide +kernel
theorem q10w00_5_85 : (cX7_behind.data.toList.drop 85).take 23 = [160, 0, 5, 4, 172, 28, 16, 49, 184, 0, 63, 153, 0, 7, 8, 167, 0, 4, 2, 172, 28, 16, 49] := by decide +kernel
theorem q10w00_5_108 : (cX7_behind.data.toList.drop 108).take 12 = [184, 0, 63, 153, 0, 7, 8, 167, 0, 4, 2, 172] := by decide +kernel
theorem dX7_behind_0 : decode cX7_behind 0 = .ok (.iload_n 1, 1) := dz_27 (dz_at q10w00_5_0 0)
theorem dX7_behind_1 : decode cX7_behind 1 = .ok (.tableswitch 104 0 5 #[39, 45, 51, 66, 104, 81], 39) := by decide +kernel
theorem dX7_behind_100 : decode cX7_behind 100 = .ok (.goto 4, 3) := dz_167 (dz_at q10w00_5_85 15) (by decide +kernel)
theorem dX7_behind_103 : decode cX7_behind 103 = .ok (.iconst (-1), 1) := dz_2 (dz_at q10w00_5_85 18)
theorem dX7_behind_104 : decode cX7_behind 104 = .ok (.ireturn, 1) := dz_172 (dz_at q10w00_5_85 19)
theorem dX7_behind_105 : decode cX7_behind 105 = .ok (.iload_n 2, 1) := dz_28 (dz_at q10w00_5_85 20)
theorem dX7_behind_106 : decode cX7_behind 106 = .ok (.bipush 49, 2) := dz_16 (dz_at q10w00_5_85 21) (by decide +kernel)
theorem dX7_behind_108 : decode cX7_behind 108 = .ok (.invokestatic 63, 3) := dz_184 (dz_at q10w00_5_108 0) rfl
theorem dX7_behind_111 : decode cX7_behind 111 = .ok (.ifCond .eq 7, 3) := dz_153 (dz_at q10w00_5_108 3) (by decide +kernel)
theorem dX7_behind_114 : decode cX7_behind 114 = .ok (.iconst 5, 1) := dz_8 (dz_at q10w00_5_108 6)
theorem dX7_behind_115 : decode cX7_behind 115 = .ok (.goto 4, 3) := dz_167 (dz_at q10w00_5_108 7) (by decide +kernel)
theorem dX7_behind_118 : decode cX7_behind 118 = .ok (.iconst (-1), 1) := dz_2 (dz_at q10w00_5_108 10)
theorem dX7_behind_119 : decode cX7_behind 119 = .ok (.ireturn, 1) := dz_172 (dz_at q10w00_5_108 11)
theorem dX7_behind_40 : decode cX7_behind 40 = .ok (.aload_n 0, 1) := dz_42 (dz_at q10w00_5_40 0)
theorem dX7_behind_41 : decode cX7_behind 41 = .ok (.iload_n 2, 1) := dz_28 (dz_at q10w00_5_40 1)
theorem dX7_behind_42 : decode cX7_behind 42 = .ok (.invokevirtual 56, 3) := dz_182 (dz_at q10w00_5_40 2) rfl
theorem dX7_behind_45 : decode cX7_behind 45 = .ok (.ireturn, 1) := dz_172 (dz_at q10w00_5_40 5)
theorem dX7_behind_46 : decode cX7_behind 46 = .ok (.aload_n 0, 1) := dz_42 (dz_at q10w00_5_40 6)
theorem dX7_behind_47 : decode cX7_behind 47 = .ok (.iload_n 2, 1) := dz_28 (dz_at q10w00_5_40 7)
theorem dX7_behind_48 : decode cX7_behind 48 = .ok (.invokevirtual 60, 3) := dz_182 (dz_at q10w00_5_40 8) rfl
theorem dX7_behind_51 : decode cX7_behind 51 = .ok (.ireturn, 1) := dz_172 (dz_at q10w00_5_40 11)
theorem dX7_behind_52 : decode cX7_behind 52 = .ok (.iload_n 2, 1) := dz_28 (dz_at q10w00_5_40 12)
theorem dX7_behind_53 : decode cX7_behind 53 = .ok (.bipush 50, 2) := dz_16 (dz_at q10w00_5_40 13) (by decide +kernel)
theorem dX7_behind_55 : decode cX7_behind 55 = .ok (.invokestatic 63, 3) := dz_184 (dz_at q10w00_5_40 15) rfl
theorem dX7_behind_58 : decode cX7_behind 58 = .ok (.ifCond .eq 7, 3) := dz_153 (dz_at q10w00_5_40 18) (by decide +kernel)
theorem dX7_behind_61 : decode cX7_behind 61 = .ok (.iconst 1, 1) := dz_4 (dz_at q10w00_5_40 21)
theorem dX7_behind_62 : decode cX7_behind 62 = .ok (.goto 4, 3) := dz_167 (dz_at q10w00_5_62 0) (by decide +kernel)
theorem dX7_behind_65 : decode cX7_behind 65 = .ok (.iconst (-1), 1) := dz_2 (dz_at q10w00_5_62 3)
theorem dX7_behind_66 : decode cX7_behind 66 = .ok (.ireturn, 1) := dz_172 (dz_at q10w00_5_62 4)
theorem dX7_behind_67 : decode cX7_behind 67 = .ok (.iload_n 2, 1) := dz_28 (dz_at q10w00_5_62 5)
theorem dX7_behind_68 : decode cX7_behind 68 = .ok (.bipush 49, 2) := dz_16 (dz_at q10w00_5_62 6) (by decide +kernel)
theorem dX7_behind_70 : decode cX7_behind 70 = .ok (.invokestatic 63, 3) := dz_184 (dz_at q10w00_5_62 8) rfl
theorem dX7_behind_73 : decode cX7_behind 73 = .ok (.ifCond .eq 7, 3) := dz_153 (dz_at q10w00_5_62 11) (by decide +kernel)
theorem dX7_behind_76 : decode cX7_behind 76 = .ok (.iconst 0, 1) := dz_3 (dz_at q10w00_5_62 14)
theorem dX7_behind_77 : decode cX7_behind 77 = .ok (.goto 4, 3) := dz_167 (dz_at q10w00_5_62 15) (by decide +kernel)
theorem dX7_behind_80 : decode cX7_behind 80 = .ok (.iconst (-1), 1) := dz_2 (dz_at q10w00_5_62 18)
theorem dX7_behind_81 : decode cX7_behind 81 = .ok (.ireturn, 1) := dz_172 (dz_at q10w00_5_62 19)
theorem dX7_behind_82 : decode cX7_behind 82 = .ok (.iload_n 2, 1) := dz_28 (dz_at q10w00_5_62 20)
theorem dX7_behind_83 : decode cX7_behind 83 = .ok (.bipush 93, 2) := dz_16 (dz_at q10w00_5_62 21) (by decide +kernel)
theorem dX7_behind_85 : decode cX7_behind 85 = .ok (.if_icmp .ne 5, 3) := dz_160 (dz_at q10w00_5_85 0) (by decide +kernel)
theorem dX7_behind_88 : decode cX7_behind 88 = .ok (.iconst 1, 1) := dz_4 (dz_at q10w00_5_85 3)
theorem dX7_behind_89 : decode cX7_behind 89 = .ok (.ireturn, 1) := dz_172 (dz_at q10w00_5_85 4)
theorem dX7_behind_90 : decode cX7_behind 90 = .ok (.iload_n 2, 1) := dz_28 (dz_at q10w00_5_85 5)
theorem dX7_behind_91 : decode cX7_behind 91 = .ok (.bipush 49, 2) := dz_16 (dz_at q10w00_5_85 6) (by decide +kernel)
theorem dX7_behind_93 : decode cX7_behind 93 = .ok (.invokestatic 63, 3) := dz_184 (dz_at q10w00_5_85 8) rfl
theorem dX7_behind_96 : decode cX7_behind 96 = .ok (.ifCond .eq 7, 3) := dz_153 (dz_at q10w00_5_85 11) (by decide +kernel)
theorem dX7_behind_99 : decode cX7_behind 99 = .ok (.iconst 5, 1) := dz_8 (dz_at q10w00_5_85 14)
theorem q10w00_6_0 : (cX7_firstWrong.data.toList.drop 0).take 24 = [3, 60, 42, 3, 181, 0, 19, 3, 61, 28, 42, 180, 0, 15, 162, 0, 34, 28, 16, 60, 162, 0, 28, 42] := by decide +kernel
theorem q10w00_6_24 : (cX7_firstWrong.data.toList.drop 24).take 24 = [27, 42, 180, 0, 9, 28, 46, 182, 0, 52, 60, 27, 2, 160, 0, 5, 28, 172, 132, 2, 1, 167, 255, 220] := by decide +kernel
theorem q10w00_6_48 : (cX7_firstWrong.data.toList.drop 48).take 24 = [42, 180, 0, 15, 16, 60, 164, 0, 6, 16, 60, 172, 27, 4, 160, 0, 14, 42, 180, 0, 19, 154, 0, 7] := by decide +kernel
theorem q10w00_6_72 : (cX7_firstWrong.data.toList.drop 72).take 9 = [2, 167, 0, 7, 42, 180, 0, 15, 172] := by decide +kernel
theorem dX7_firstWrong_0 : decode cX7_firstWrong 0 = .ok (.iconst 0, 1) := dz_3 (dz_at q10w00_6_0 0)
theorem dX7_firstWrong_1 : decode cX7_firstWrong 1 = .ok (.istore_n 1, 1) := dz_60 (dz_at q10w00_6_0 1)
theorem dX7_firstWrong_10 : decode cX7_firstWrong 10 = .ok (.aload_n 0, 1) := dz_42 (dz_at q10w00_6_0 10)
theorem dX7_firstWrong_11 : decode cX7_firstWrong 11 = .ok (.getfield 15, 3) := dz_180 (dz_at q10w00_6_0 11) rfl
theorem dX7_firstWrong_14 : decode cX7_firstWrong 14 = .ok (.if_icmp .ge 34, 3) := dz_162 (dz_at q10w00_6_0 14) (by decide +kernel)
theorem dX7_firstWrong_17 : decode cX7_firstWrong 17 = .ok (.iload_n 2, 1) := dz_28 (dz_at q10w00_6_0 17)
theorem dX7_firstWrong_18 : decode cX7_firstWrong 18 = .ok (.bipush 60, 2) := dz_16 (dz_at q10w00_6_0 18) (by decide +kernel)
theorem dX7_firstWrong_2 : decode cX7_firstWrong 2 = .ok (.aload_n 0, 1) := dz_42 (dz_at q10w00_6_0 2)
theorem dX7_firstWrong_20 : decode cX7_firstWrong 20 = .ok (.if_icmp .ge 28, 3) := dz_162 (dz_at q10w00_6_0 20) (by decide +kernel)
theorem dX7_firstWrong_23 : decode cX7_firstWrong 23 = .ok (.aload_n 0, 1) := dz_42 (dz_at q10w00_6_0 23)
theorem dX7_firstWrong_24 : decode cX7_firstWrong 24 = .ok (.iload_n 1, 1) := dz_27 (dz_at q10w00_6_24 0)
theorem dX7_firstWrong_25 : decode cX7_firstWrong 25 = .ok (.aload_n 0, 1) := dz_42 (dz_at q10w00_6_24 1)
theorem dX7_firstWrong_26 : decode cX7_firstWrong 26 = .ok (.getfield 9, 3) := dz_180 (dz_at q10w00_6_24 2) rfl
theorem dX7_firstWrong_29 : decode cX7_firstWrong 29 = .ok (.iload_n 2, 1) := dz_28 (dz_at q10w00_6_24 5)
theorem dX7_firstWrong_3 : decode cX7_firstWrong 3 = .ok (.iconst 0, 1) := dz_3 (dz_at q10w00_6_0 3)
theorem dX7_firstWrong_30 : decode cX7_firstWrong 30 = .ok (.iaload, 1) := dz_46 (dz_at q10w00_6_24 6)
theorem dX7_firstWrong_31 : decode cX7_firstWrong 31 = .ok (.invokevirtual 52, 3) := dz_182 (dz_at q10w00_6_24 7) rfl
theorem dX7_firstWrong_34 : decode cX7_firstWrong 34 = .ok (.istore_n 1, 1) := dz_60 (dz_at q10w00_6_24 10)
theorem dX7_firstWrong_35 : decode cX7_firstWrong 35 = .ok (.iload_n 1, 1) := dz_27 (dz_at q10w00_6_24 11)
theorem dX7_firstWrong_36 : decode cX7_firstWrong 36 = .ok (.iconst (-1), 1) := dz_2 (dz_at q10w00_6_24 12)
theorem dX7_firstWrong_37 : decode cX7_firstWrong 37 = .ok (.if_icmp .ne 5, 3) := dz_160 (dz_at q10w00_6_24 13) (by decide +kernel)
theorem dX7_firstWrong_4 : decode cX7_firstWrong 4 = .ok (.putfield 19, 3) := dz_181 (dz_at q10w00_6_0 4) rfl
theorem dX7_firstWrong_40 : decode cX7_firstWrong 40 = .ok (.iload_n 2, 1) := dz_28 (dz_at q10w00_6_24 16)
theorem dX7_firstWrong_41 : decode cX7_firstWrong 41 = .ok (.ireturn, 1) := dz_172 (dz_at q10w00_6_24 17)
theorem dX7_firstWrong_42 : decode cX7_firstWrong 42 = .ok (.iinc 2 1, 3) := dz_132 (dz_at q10w00_6_24 18) (by decide +kernel)
theorem dX7_firstWrong_45 : decode cX7_firstWrong 45 = .ok (.goto (-36), 3) := dz_167 (dz_at q10w00_6_24 21) (by decide +kernel)
theorem dX7_firstWrong_48 : decode cX7_firstWrong 48 = .ok (.aload_n 0, 1) := dz_42 (dz_at q10w00_6_48 0)
theorem dX7_firstWrong_49 : decode cX7_firstWrong 49 = .ok (.getfield 15, 3) := dz_180 (dz_at q10w00_6_48 1) rfl
theorem dX7_firstWrong_52 : decode cX7_firstWrong 52 = .ok (.bipush 60, 2) := dz_16 (dz_at q10w00_6_48 4) (by decide +kernel)
theorem dX7_firstWrong_54 : decode cX7_firstWrong 54 = .ok (.if_icmp .le 6, 3) := dz_164 (dz_at q10w00_6_48 6) (by decide +kernel)
theorem dX7_firstWrong_57 : decode cX7_firstWrong 57 = .ok (.bipush 60, 2) := dz_16 (dz_at q10w00_6_48 9) (by decide +kernel)
theorem dX7_firstWrong_59 : decode cX7_firstWrong 59 = .ok (.ireturn, 1) := dz_172 (dz_at q10w00_6_48 11)
theorem dX7_firstWrong_60 : decode cX7_firstWrong 60 = .ok (.iload_n 1, 1) := dz_27 (dz_at q10w00_6_48 12)
theorem dX7_firstWrong_61 : decode cX7_firstWrong 61 = .ok (.iconst 1, 1) := dz_4 (dz_at q10w00_6_48 13)
theorem dX7_firstWrong_62 : decode cX7_firstWrong 62 = .ok (.if_icmp .ne 14, 3) := dz_160 (dz_at q10w00_6_48 14) (by decide +kernel)
theorem dX7_firstWrong_65 : decode cX7_firstWrong 65 = .ok (.aload_n 0, 1) := dz_42 (dz_at q10w00_6_48 17)
theorem dX7_firstWrong_66 : decode cX7_firstWrong 66 = .ok (.getfield 19, 3) := dz_180 (dz_at q10w00_6_48 18) rfl
theorem dX7_firstWrong_69 : decode cX7_firstWrong 69 = .ok (.ifCond .ne 7, 3) := dz_154 (dz_at q10w00_6_48 21) (by decide +kernel)
theorem dX7_firstWrong_7 : decode cX7_firstWrong 7 = .ok (.iconst 0, 1) := dz_3 (dz_at q10w00_6_0 7)
theorem dX7_firstWrong_72 : decode cX7_firstWrong 72 = .ok (.iconst (-1), 1) := dz_2 (dz_at q10w00_6_72 0)
theorem dX7_firstWrong_73 : decode cX7_firstWrong 73 = .ok (.goto 7, 3) := dz_167 (dz_at q10w00_6_72 1) (by decide +kernel)
theorem dX7_firstWrong_76 : decode cX7_firstWrong 76 = .ok (.aload_n 0, 1) := dz_42 (dz_at q10w00_6_72 4)
theorem dX7_firstWrong_77 : decode cX7_firstWrong 77 = .ok (.getfield 15, 3) := dz_180 (dz_at q10w00_6_72 5) rfl
theorem dX7_firstWrong_8 : decode cX7_firstWrong 8 = .ok (.istore_n 2, 1) := dz_61 (dz_at q10w00_6_0 8)
theorem dX7_firstWrong_80 : decode cX7_firstWrong 80 = .ok (.ireturn, 1) := dz_172 (dz_at q10w00_6_72 8)
theorem dX7_firstWrong_9 : decode cX7_firstWrong 9 = .ok (.iload_n 2, 1) := dz_28 (dz_at q10w00_6_0 9)
theorem q10w00_7_0 : (cX7_isDigit.data.toList.drop 0).take 17 = [26, 27, 161, 0, 13, 26, 16, 57, 163, 0, 7, 4, 167, 0, 4, 3, 172] := by decide +kernel
theorem dX7_isDigit_0 : decode cX7_isDigit 0 = .ok (.iload_n 0, 1) := dz_26 (dz_at q10w00_7_0 0)
theorem dX7_isDigit_1 : decode cX7_isDigit 1 = .ok (.iload_n 1, 1) := dz_27 (dz_at q10w00_7_0 1)
theorem dX7_isDigit_11 : decode cX7_isDigit 11 = .ok (.iconst 1, 1) := dz_4 (dz_at q10w00_7_0 11)
theorem dX7_isDigit_12 : decode cX7_isDigit 12 = .ok (.goto 4, 3) := dz_167 (dz_at q10w00_7_0 12) (by decide +kernel)
theorem dX7_isDigit_15 : decode cX7_isDigit 15 = .ok (.iconst 0, 1) := dz_3 (dz_at q10w00_7_0 15)
theorem dX7_isDigit_16 : decode cX7_isDigit 16 = .ok (.ireturn, 1) := dz_172 (dz_at q10w00_7_0 16)
theorem dX7_isDigit_2 : decode cX7_isDigit 2 = .ok (.if_icmp .lt 13, 3) := dz_161 (dz_at q10w00_7_0 2) (by decide +kernel)
theorem dX7_isDigit_5 : decode cX7_isDigit 5 = .ok (.iload_n 0, 1) := dz_26 (dz_at q10w00_7_0 5)
theorem dX7_isDigit_6 : decode cX7_isDigit 6 = .ok (.bipush 57, 2) := dz_16 (dz_at q10w00_7_0 6) (by decide +kernel)
theorem dX7_isDigit_8 : decode cX7_isDigit 8 = .ok (.if_icmp .gt 7, 3) := dz_163 (dz_at q10w00_7_0 8) (by decide +kernel)
theorem q10w00_8_0 : (cX7_keepFirst.data.toList.drop 0).take 21 = [27, 155, 0, 11, 27, 42, 180, 0, 15, 164, 0, 5, 3, 172, 42, 27, 181, 0, 15, 4, 172] := by decide +kernel
theorem dX7_keepFirst_0 : decode cX7_keepFirst 0 = .ok (.iload_n 1, 1) := dz_27 (dz_at q10w00_8_0 0)
theorem dX7_keepFirst_1 : decode cX7_keepFirst 1 = .ok (.ifCond .lt 11, 3) := dz_155 (dz_at q10w00_8_0 1) (by decide +kernel)
theorem dX7_keepFirst_12 : decode cX7_keepFirst 12 = .ok (.iconst 0, 1) := dz_3 (dz_at q10w00_8_0 12)
theorem dX7_keepFirst_13 : decode cX7_keepFirst 13 = .ok (.ireturn, 1) := dz_172 (dz_at q10w00_8_0 13)
theorem dX7_keepFirst_14 : decode cX7_keepFirst 14 = .ok (.aload_n 0, 1) := dz_42 (dz_at q10w00_8_0 14)
theorem dX7_keepFirst_15 : decode cX7_keepFirst 15 = .ok (.iload_n 1, 1) := dz_27 (dz_at q10w00_8_0 15)
theorem dX7_keepFirst_16 : decode cX7_keepFirst 16 = .ok (.putfield 15, 3) := dz_181 (dz_at q10w00_8_0 16) rfl
theorem dX7_keepFirst_19 : decode cX7_keepFirst 19 = .ok (.iconst 1, 1) := dz_4 (dz_at q10w00_8_0 19)
theorem dX7_keepFirst_20 : decode cX7_keepFirst 20 = .ok (.ireturn, 1) := dz_172 (dz_at q10w00_8_0 20)
theorem dX7_keepFirst_4 : decode cX7_keepFirst 4 = .ok (.iload_n 1, 1) := dz_27 (dz_at q10w00_8_0 4)
theorem dX7_keepFirst_5 : decode cX7_keepFirst 5 = .ok (.aload_n 0, 1) := dz_42 (dz_at q10w00_8_0 5)
theorem dX7_keepFirst_6 : decode cX7_keepFirst 6 = .ok (.getfield 15, 3) := dz_180 (dz_at q10w00_8_0 6) rfl
theorem dX7_keepFirst_9 : decode cX7_keepFirst 9 = .ok (.if_icmp .le 5, 3) := dz_164 (dz_at q10w00_8_0 9) (by decide +kernel)
theorem q10w00_9_0 : (cX7_openRow.data.toList.drop 0).take 23 = [42, 180, 0, 27, 42, 180, 0, 19, 50, 3, 181, 0, 49, 42, 180, 0, 31, 42, 180, 0, 19, 50, 3] := by decide +kernel
theorem q10w00_9_23 : (cX7_openRow.data.toList.drop 23).take 14 = [181, 0, 49, 42, 180, 0, 34, 42, 180, 0, 19, 3, 79, 177] := by decide +kernel
theorem dX7_openRow_0 : decode cX7_openRow 0 = .ok (.aload_n 0, 1) := dz_42 (dz_at q10w00_9_0 0)
theorem dX7_openRow_1 : decode cX7_openRow 1 = .ok (.getfield 27, 3) := dz_180 (dz_at q10w00_9_0 1) rfl
theorem dX7_openRow_10 : decode cX7_openRow 10 = .ok (.putfield 49, 3) := dz_181 (dz_at q10w00_9_0 10) rfl
theorem dX7_openRow_13 : decode cX7_openRow 13 = .ok (.aload_n 0, 1) := dz_42 (dz_at q10w00_9_0 13)
theorem dX7_openRow_14 : decode cX7_openRow 14 = .ok (.getfield 31, 3) := dz_180 (dz_at q10w00_9_0 14) rfl
theorem dX7_openRow_17 : decode cX7_openRow 17 = .ok (.aload_n 0, 1) := dz_42 (dz_at q10w00_9_0 17)
theorem dX7_openRow_18 : decode cX7_openRow 18 = .ok (.getfield 19, 3) := dz_180 (dz_at q10w00_9_0 18) rfl
theorem dX7_openRow_21 : decode cX7_openRow 21 = .ok (.aaload, 1) := dz_50 (dz_at q10w00_9_0 21)
theorem dX7_openRow_22 : decode cX7_openRow 22 = .ok (.iconst 0, 1) := dz_3 (dz_at q10w00_9_0 22)
theorem dX7_openRow_23 : decode cX7_openRow 23 = .ok (.putfield 49, 3) := dz_181 (dz_at q10w00_9_23 0) rfl
theorem dX7_openRow_26 : decode cX7_openRow 26 = .ok (.aload_n 0, 1) := dz_42 (dz_at q10w00_9_23 3)
theorem dX7_openRow_27 : decode cX7_openRow 27 = .ok (.getfield 34, 3) := dz_180 (dz_at q10w00_9_23 4) rfl
theorem dX7_openRow_30 : decode cX7_openRow 30 = .ok (.aload_n 0, 1) := dz_42 (dz_at q10w00_9_23 7)
theorem dX7_openRow_31 : decode cX7_openRow 31 = .ok (.getfield 19, 3) := dz_180 (dz_at q10w00_9_23 8) rfl
theorem dX7_openRow_34 : decode cX7_openRow 34 = .ok (.iconst 0, 1) := dz_3 (dz_at q10w00_9_23 11)
theorem dX7_openRow_35 : decode cX7_openRow 35 = .ok (.iastore, 1) := dz_79 (dz_at q10w00_9_23 12)
theorem dX7_openRow_36 : decode cX7_openRow 36 = .ok (.return_, 1) := dz_177 (dz_at q10w00_9_23 13)
theorem dX7_openRow_4 : decode cX7_openRow 4 = .ok (.aload_n 0, 1) := dz_42 (dz_at q10w00_9_0 4)
theorem dX7_openRow_5 : decode cX7_openRow 5 = .ok (.getfield 19, 3) := dz_180 (dz_at q10w00_9_0 5) rfl
theorem dX7_openRow_8 : decode cX7_openRow 8 = .ok (.aaload, 1) := dz_50 (dz_at q10w00_9_0 8)
theorem dX7_openRow_9 : decode cX7_openRow 9 = .ok (.iconst 0, 1) := dz_3 (dz_at q10w00_9_0 9)
theorem q10w00_10_0 : (cX7_repeatTerm.data.toList.drop 0).take 23 = [42, 180, 0, 31, 42, 180, 0, 19, 50, 180, 0, 49, 27, 104, 16, 24, 164, 0, 6, 16, 156, 172, 42] := by decide +kernel
theorem q10w00_10_23 : (cX7_repeatTerm.data.toList.drop 23).take 14 = [180, 0, 31, 42, 180, 0, 19, 50, 27, 182, 0, 102, 3, 172] := by decide +kernel
theorem dX7_repeatTerm_0 : decode cX7_repeatTerm 0 = .ok (.aload_n 0, 1) := dz_42 (dz_at q10w00_10_0 0)
theorem dX7_repeatTerm_1 : decode cX7_repeatTerm 1 = .ok (.getfield 31, 3) := dz_180 (dz_at q10w00_10_0 1) rfl
theorem dX7_repeatTerm_12 : decode cX7_repeatTerm 12 = .ok (.iload_n 1, 1) := dz_27 (dz_at q10w00_10_0 12)
theorem dX7_repeatTerm_13 : decode cX7_repeatTerm 13 = .ok (.imul, 1) := dz_104 (dz_at q10w00_10_0 13)
theorem dX7_repeatTerm_14 : decode cX7_repeatTerm 14 = .ok (.bipush 24, 2) := dz_16 (dz_at q10w00_10_0 14) (by decide +kernel)
theorem dX7_repeatTerm_16 : decode cX7_repeatTerm 16 = .ok (.if_icmp .le 6, 3) := dz_164 (dz_at q10w00_10_0 16) (by decide +kernel)
theorem dX7_repeatTerm_19 : decode cX7_repeatTerm 19 = .ok (.bipush (-100), 2) := dz_16 (dz_at q10w00_10_0 19) (by decide +kernel)
theorem dX7_repeatTerm_21 : decode cX7_repeatTerm 21 = .ok (.ireturn, 1) := dz_172 (dz_at q10w00_10_0 21)
theorem dX7_repeatTerm_22 : decode cX7_repeatTerm 22 = .ok (.aload_n 0, 1) := dz_42 (dz_at q10w00_10_0 22)
theorem dX7_repeatTerm_23 : decode cX7_repeatTerm 23 = .ok (.getfield 31, 3) := dz_180 (dz_at q10w00_10_23 0) rfl
theorem dX7_repeatTerm_26 : decode cX7_repeatTerm 26 = .ok (.aload_n 0, 1) := dz_42 (dz_at q10w00_10_23 3)
theorem dX7_repeatTerm_27 : decode cX7_repeatTerm 27 = .ok (.getfield 19, 3) := dz_180 (dz_at q10w00_10_23 4) rfl
theorem dX7_repeatTerm_30 : decode cX7_repeatTerm 30 = .ok (.aaload, 1) := dz_50 (dz_at q10w00_10_23 7)
theorem dX7_repeatTerm_31 : decode cX7_repeatTerm 31 = .ok (.iload_n 1, 1) := dz_27 (dz_at q10w00_10_23 8)
theorem dX7_repeatTerm_32 : decode cX7_repeatTerm 32 = .ok (.invokevirtual 102, 3) := dz_182 (dz_at q10w00_10_23 9) rfl
theorem dX7_repeatTerm_35 : decode cX7_repeatTerm 35 = .ok (.iconst 0, 1) := dz_3 (dz_at q10w00_10_23 12)
theorem dX7_repeatTerm_36 : decode cX7_repeatTerm 36 = .ok (.ireturn, 1) := dz_172 (dz_at q10w00_10_23 13)
theorem dX7_repeatTerm_4 : decode cX7_repeatTerm 4 = .ok (.aload_n 0, 1) := dz_42 (dz_at q10w00_10_0 4)
theorem dX7_repeatTerm_5 : decode cX7_repeatTerm 5 = .ok (.getfield 19, 3) := dz_180 (dz_at q10w00_10_0 5) rfl
theorem dX7_repeatTerm_8 : decode cX7_repeatTerm 8 = .ok (.aaload, 1) := dz_50 (dz_at q10w00_10_0 8)
theorem dX7_repeatTerm_9 : decode cX7_repeatTerm 9 = .ok (.getfield 49, 3) := dz_180 (dz_at q10w00_10_0 9) rfl
theorem q10w00_11_0 : (cX8_has.data.toList.drop 0).take 22 = [27, 155, 0, 24, 27, 42, 180, 0, 15, 162, 0, 16, 27, 42, 180, 0, 9, 190, 162, 0, 7, 4] := by decide +kernel
theorem q10w00_11_22 : (cX8_has.data.toList.drop 22).take 5 = [167, 0, 4, 3, 172] := by decide +kernel
theorem dX8_has_0 : decode cX8_has 0 = .ok (.iload_n 1, 1) := dz_27 (dz_at q10w00_11_0 0)
theorem dX8_has_1 : decode cX8_has 1 = .ok (.ifCond .lt 24, 3) := dz_155 (dz_at q10w00_11_0 1) (by decide +kernel)
theorem dX8_has_12 : decode cX8_has 12 = .ok (.iload_n 1, 1) := dz_27 (dz_at q10w00_11_0 12)
theorem dX8_has_13 : decode cX8_has 13 = .ok (.aload_n 0, 1) := dz_42 (dz_at q10w00_11_0 13)
theorem dX8_has_14 : decode cX8_has 14 = .ok (.getfield 9, 3) := dz_180 (dz_at q10w00_11_0 14) rfl
theorem dX8_has_17 : decode cX8_has 17 = .ok (.arraylength, 1) := dz_190 (dz_at q10w00_11_0 17)
theorem dX8_has_18 : decode cX8_has 18 = .ok (.if_icmp .ge 7, 3) := dz_162 (dz_at q10w00_11_0 18) (by decide +kernel)
theorem dX8_has_21 : decode cX8_has 21 = .ok (.iconst 1, 1) := dz_4 (dz_at q10w00_11_0 21)
theorem dX8_has_22 : decode cX8_has 22 = .ok (.goto 4, 3) := dz_167 (dz_at q10w00_11_22 0) (by decide +kernel)
theorem dX8_has_25 : decode cX8_has 25 = .ok (.iconst 0, 1) := dz_3 (dz_at q10w00_11_22 3)
theorem dX8_has_26 : decode cX8_has 26 = .ok (.ireturn, 1) := dz_172 (dz_at q10w00_11_22 4)
theorem dX8_has_4 : decode cX8_has 4 = .ok (.iload_n 1, 1) := dz_27 (dz_at q10w00_11_0 4)
theorem dX8_has_5 : decode cX8_has 5 = .ok (.aload_n 0, 1) := dz_42 (dz_at q10w00_11_0 5)
theorem dX8_has_6 : decode cX8_has 6 = .ok (.getfield 15, 3) := dz_180 (dz_at q10w00_11_0 6) rfl
theorem dX8_has_9 : decode cX8_has 9 = .ok (.if_icmp .ge 16, 3) := dz_162 (dz_at q10w00_11_0 9) (by decide +kernel)
theorem q10w00_12_0 : (cX8_repeat.data.toList.drop 0).take 22 = [42, 180, 0, 15, 27, 104, 42, 180, 0, 9, 190, 184, 0, 29, 61, 42, 180, 0, 15, 62, 29, 28] := by decide +kernel
theorem q10w00_12_22 : (cX8_repeat.data.toList.drop 22).take 23 = [162, 0, 26, 42, 180, 0, 9, 29, 42, 180, 0, 9, 29, 42, 180, 0, 15, 100, 46, 79, 132, 3, 1] := by decide +kernel
theorem q10w00_12_45 : (cX8_repeat.data.toList.drop 45).take 9 = [167, 255, 231, 42, 28, 181, 0, 15, 177] := by decide +kernel
theorem dX8_repeat_0 : decode cX8_repeat 0 = .ok (.aload_n 0, 1) := dz_42 (dz_at q10w00_12_0 0)
theorem dX8_repeat_1 : decode cX8_repeat 1 = .ok (.getfield 15, 3) := dz_180 (dz_at q10w00_12_0 1) rfl
theorem dX8_repeat_10 : decode cX8_repeat 10 = .ok (.arraylength, 1) := dz_190 (dz_at q10w00_12_0 10)
theorem dX8_repeat_11 : decode cX8_repeat 11 = .ok (.invokestatic 29, 3) := dz_184 (dz_at q10w00_12_0 11) rfl
theorem dX8_repeat_14 : decode cX8_repeat 14 = .ok (.istore_n 2, 1) := dz_61 (dz_at q10w00_12_0 14)
theorem dX8_repeat_15 : decode cX8_repeat 15 = .ok (.aload_n 0, 1) := dz_42 (dz_at q10w00_12_0 15)
theorem dX8_repeat_16 : decode cX8_repeat 16 = .ok (.getfield 15, 3) := dz_180 (dz_at q10w00_12_0 16) rfl
theorem dX8_repeat_19 : decode cX8_repeat 19 = .ok (.istore_n 3, 1) := dz_62 (dz_at q10w00_12_0 19)
theorem dX8_repeat_20 : decode cX8_repeat 20 = .ok (.iload_n 3, 1) := dz_29 (dz_at q10w00_12_0 20)
theorem dX8_repeat_21 : decode cX8_repeat 21 = .ok (.iload_n 2, 1) := dz_28 (dz_at q10w00_12_0 21)
theorem dX8_repeat_22 : decode cX8_repeat 22 = .ok (.if_icmp .ge 26, 3) := dz_162 (dz_at q10w00_12_22 0) (by decide +kernel)
theorem dX8_repeat_25 : decode cX8_repeat 25 = .ok (.aload_n 0, 1) := dz_42 (dz_at q10w00_12_22 3)
theorem dX8_repeat_26 : decode cX8_repeat 26 = .ok (.getfield 9, 3) := dz_180 (dz_at q10w00_12_22 4) rfl
theorem dX8_repeat_29 : decode cX8_repeat 29 = .ok (.iload_n 3, 1) := dz_29 (dz_at q10w00_12_22 7)
theorem dX8_repeat_30 : decode cX8_repeat 30 = .ok (.aload_n 0, 1) := dz_42 (dz_at q10w00_12_22 8)
theorem dX8_repeat_31 : decode cX8_repeat 31 = .ok (.getfield 9, 3) := dz_180 (dz_at q10w00_12_22 9) rfl
theorem dX8_repeat_34 : decode cX8_repeat 34 = .ok (.iload_n 3, 1) := dz_29 (dz_at q10w00_12_22 12)
theorem dX8_repeat_35 : decode cX8_repeat 35 = .ok (.aload_n 0, 1) := dz_42 (dz_at q10w00_12_22 13)
theorem dX8_repeat_36 : decode cX8_repeat 36 = .ok (.getfield 15, 3) := dz_180 (dz_at q10w00_12_22 14) rfl
theorem dX8_repeat_39 : decode cX8_repeat 39 = .ok (.isub, 1) := dz_100 (dz_at q10w00_12_22 17)
theorem dX8_repeat_4 : decode cX8_repeat 4 = .ok (.iload_n 1, 1) := dz_27 (dz_at q10w00_12_0 4)
theorem dX8_repeat_40 : decode cX8_repeat 40 = .ok (.iaload, 1) := dz_46 (dz_at q10w00_12_22 18)
theorem dX8_repeat_41 : decode cX8_repeat 41 = .ok (.iastore, 1) := dz_79 (dz_at q10w00_12_22 19)
theorem dX8_repeat_42 : decode cX8_repeat 42 = .ok (.iinc 3 1, 3) := dz_132 (dz_at q10w00_12_22 20) (by decide +kernel)
theorem dX8_repeat_45 : decode cX8_repeat 45 = .ok (.goto (-25), 3) := dz_167 (dz_at q10w00_12_45 0) (by decide +kernel)
theorem dX8_repeat_48 : decode cX8_repeat 48 = .ok (.aload_n 0, 1) := dz_42 (dz_at q10w00_12_45 3)
theorem dX8_repeat_49 : decode cX8_repeat 49 = .ok (.iload_n 2, 1) := dz_28 (dz_at q10w00_12_45 4)
theorem dX8_repeat_5 : decode cX8_repeat 5 = .ok (.imul, 1) := dz_104 (dz_at q10w00_12_0 5)
theorem dX8_repeat_50 : decode cX8_repeat 50 = .ok (.putfield 15, 3) := dz_181 (dz_at q10w00_12_45 5) rfl
theorem dX8_repeat_53 : decode cX8_repeat 53 = .ok (.return_, 1) := dz_177 (dz_at q10w00_12_45 8)
theorem dX8_repeat_6 : decode cX8_repeat 6 = .ok (.aload_n 0, 1) := dz_42 (dz_at q10w00_12_0 6)
theorem dX8_repeat_7 : decode cX8_repeat 7 = .ok (.getfield 9, 3) := dz_180 (dz_at q10w00_12_0 7) rfl
theorem dm_X7_add : yX7_add.cls = RX7 ∧ yX7_add.cls ≠ "java/lang/invoke/MethodHandle" ∧ yX7_add.cls ≠ "java/lang/invoke/VarHandle" ∧ (parseMethodDescriptor yX7_add.desc).map (fun d => d.parameters.length) = some 1 := by decide +kernel
theorem dm_X7_keepFirst : yX7_keepFirst.cls = RX7 ∧ yX7_keepFirst.cls ≠ "java/lang/invoke/MethodHandle" ∧ yX7_keepFirst.cls ≠ "java/lang/invoke/VarHandle" ∧ (parseMethodDescriptor yX7_keepFirst.desc).map (fun d => d.parameters.length) = some 1 := by decide +kernel
theorem dm_X7_isDigit : yX7_isDigit.cls = RX7 ∧ yX7_isDigit.cls ≠ "java/lang/invoke/MethodHandle" ∧ yX7_isDigit.cls ≠ "java/lang/invoke/VarHandle" ∧ (parseMethodDescriptor yX7_isDigit.desc).map (fun d => d.parameters.length) = some 2 := by decide +kernel
theorem dm_X7_behindAtomStart : yX7_behindAtomStart.cls = RX7 ∧ yX7_behindAtomStart.cls ≠ "java/lang/invoke/MethodHandle" ∧ yX7_behindAtomStart.cls ≠ "java/lang/invoke/VarHandle" ∧ (parseMethodDescriptor yX7_behindAtomStart.desc).map (fun d => d.parameters.length) = some 1 := by decide +kernel
theorem dm_X7_behindTermSign : yX7_behindTermSign.cls = RX7 ∧ yX7_behindTermSign.cls ≠ "java/lang/invoke/MethodHandle" ∧ yX7_behindTermSign.cls ≠ "java/lang/invoke/VarHandle" ∧ (parseMethodDescriptor yX7_behindTermSign.desc).map (fun d => d.parameters.length) = some 1 := by decide +kernel
theorem dm_X7_behind : yX7_behind.cls = RX7 ∧ yX7_behind.cls ≠ "java/lang/invoke/MethodHandle" ∧ yX7_behind.cls ≠ "java/lang/invoke/VarHandle" ∧ (parseMethodDescriptor yX7_behind.desc).map (fun d => d.parameters.length) = some 2 := by decide +kernel
theorem dm_X8_repeat : yX8_repeat.cls = RX8 ∧ yX8_repeat.cls ≠ "java/lang/invoke/MethodHandle" ∧ yX8_repeat.cls ≠ "java/lang/invoke/VarHandle" ∧ (parseMethodDescriptor yX8_repeat.desc).map (fun d => d.parameters.length) = some 1 := by decide +kernel
set_option maxRecDepth 100000 in
def wC_Splicer_add (a0 : Int) (M : zM) (Q : Int → zM → Prop) : Prop := ((sI ((M 1 1) + 4)) ≤ 100 → wL1 (fun K19 x2 M3 => ((sI x2) < 0 → Q (sI (M3 1 1)) M3) ∧ (0 ≤ (sI x2) → ((0 ≤ (sI (M3 1 1)) ∧ (sI (M3 1 1)) < 100) ∧ (∀ M13 : zM, M13 = zup M3 2 (sI (M3 1 1)).toNat (andI (ushrI a0 x2) 255) → (∀ M15 : zM, M15 = zup M13 1 1 ((M13 1 1) + 1) → K19 (x2 + (-8)) M15))))) 24 M) ∧ (100 < (sI ((M 1 1) + 4)) → Q (-1) M)
set_option maxHeartbeats 4000000 in
set_option maxRecDepth 100000 in
theorem cC_Splicer_add (l : Launch) (D : va_G) (dA : Nat → ClassId) (b : Nat) (M : zM) (a0 : Int)  (Q : Int → zM → Prop) (h : wC_Splicer_add a0 M Q) : Met l yX7_add (.code yX7_add cX7_add 3 (some .int) :: zt) (z_rm 0) (va_Pc [.ref (b + 1), .int (iI a0)] (wPre D dA vwCl (z_tys dA) wC nC b M)) (va_Qi (wQi Q) (zB D dA vwCl wC nC b) (zA nC b)) 0 0 (zA nC b) := by
  unfold wC_Splicer_add at h
  refine Met.ofW (cc := cX7_add) (maxL := 3) (ret := (some .int)) (by decide) rfl ?_
  intro p e s m args below meth c s₁ B hml hv
  obtain ⟨hargs, hS, hK⟩ := hv
  have hx := B.exec
  have hb := B.bytes
  have hr := B.returns
  have hts := atoms_spec (ws := .code yX7_add cX7_add 3 (some .int) :: zt) B.pre
  have hown : s.vm.findClass RX7 = some m.cls := findClass_of_methodNamed B.named
  have hlocks := B.notSynchronized
  have hS0 : va_S (zA nC b) s.heap s.heap [] := va_S.rf
  have hl := lv_entry ([.ref (b + 1), .int (iI a0)]) (n := 3) (Nat.le_of_ble_eq_true rfl)
  have hent : entryFrame m args 3 = F0 m 0 ((lg_sl ([.ref (b + 1), .int (iI a0)]) ++ List.replicate (3 - (lg_sl ([.ref (b + 1), .int (iI a0)])).length) Slot.unset).toArray) [] := by rw [hargs]; exact lg_entry_eq m ([.ref (b + 1), .int (iI a0)]) 3
  rw [hent]
  generalize (lg_sl ([.ref (b + 1), .int (iI a0)]) ++ List.replicate (3 - (lg_sl ([.ref (b + 1), .int (iI a0)])).length) Slot.unset).toArray = ls at hl ⊢
  have hl : lv_has ls 3 [(0, .ref (b + 1)), (1, .int (iI a0))] := hl
  refine lv_aload_n hx hb dX7_add_0 rfl (lv_at hl 0 rfl) ?_
  refine w_geti hx hb hts (z_memU u7) hown hK.1 hS f7_1 (by decide) (zkd_of (rfl : zcd wC 1 = 1) rfl) (Or.inl (hts _ (z_mem k55))) dX7_add_1 ?_
  refine z_iconst hx hb dX7_add_4 ?_
  refine z_iadd hx hb dX7_add_5 ?_
  refine lv_aload_n hx hb dX7_add_6 rfl (lv_at hl 0 rfl) ?_
  refine w_getr (j2 := 2) hx hb hts (z_memU u7) hown hK.1 hS f7_0 (by decide) (zkd_of (rfl : zcd wC 1 = 1) rfl) (zrf_of (rfl : zcd wC 1 = 1) rfl) (Or.inl (hts _ (z_mem k54))) dX7_add_7 ?_
  refine w_alen (n := 100) hx hb hK.1 (t0 := 0) rfl hS (by decide) (zkd_of (rfl : zcd wC 2 = 2) rfl) (zln_of (rfl : zcd wC 2 = 2) rfl) dX7_add_10 ?_
  refine z_top (show (((100 : Nat) : Int)) = 100 from by decide) ?_
  refine w_icmp_le (tgt := 16) hx hb rfl (sI_of (by decide)) dX7_add_11 (by decide) (fun c1 => ?_) (fun c1 => ?_)
  · skip
    have h := h.1 c1
    refine z_bipush hx hb (by decide) dX7_add_16 ?_
    refine lv_istore_n (lv' := [(2, .int (iI 24)), (0, .ref (b + 1)), (1, .int (iI a0))]) hx hb dX7_add_18 rfl hl (by decide) rfl (fun ls hl => ?_)
    obtain ⟨I4, ⟨n5, h6⟩, h7⟩ := h
    have L8 : ∀ (n9 : Nat) (x2 : Int) (M3 : zM) (H : Heap) (locs : List Loc) (ls : Array Slot), I4 n9 x2 M3 → zR D dA vwCl wC nC b M3 H → va_S (zA nC b) s.heap H locs → lv_has ls 3 [(0, .ref (b + 1)), (1, .int (iI a0)), (2, .int (iI x2))] → W p l e (headSpec (.code yX7_add cX7_add 3 (some .int) :: zt) (z_rm 0)).room s m args below meth c H locs 0 0 (MQ below (va_Qi (wQi Q) (zB D dA vwCl wC nC b) (zA nC b)) args s 0 0 (zA nC b)) (F0 m 19 ls []) := by
      intro n9
      induction n9 using Nat.strongRecOn with
      | ind n9 i10 =>
        intro x2 M3 H locs ls h hS hS0 hl
        have h := h7 n9 x2 M3 h
        refine lv_iload_n hx hb dX7_add_19 rfl (lv_at hl 2 rfl) ?_
        refine w_if_lt (tgt := 55) hx hb rfl dX7_add_20 (by decide) (fun c11 => ?_) (fun c11 => ?_)
        · skip
          have h := h.1 c11
          refine lv_aload_n hx hb dX7_add_55 rfl (lv_at hl 0 rfl) ?_
          refine w_geti hx hb hts (z_memU u7) hown hK.1 hS f7_1 (by decide) (zkd_of (rfl : zcd wC 1 = 1) rfl) (Or.inl (hts _ (z_mem k55))) dX7_add_56 ?_
          exact w_iret hx hb hr hlocks hS hS0 rfl h dX7_add_59
        · skip
          have h := h.2 c11
          refine lv_aload_n hx hb dX7_add_23 rfl (lv_at hl 0 rfl) ?_
          refine w_getr (j2 := 2) hx hb hts (z_memU u7) hown hK.1 hS f7_0 (by decide) (zkd_of (rfl : zcd wC 1 = 1) rfl) (zrf_of (rfl : zcd wC 1 = 1) rfl) (Or.inl (hts _ (z_mem k54))) dX7_add_24 ?_
          refine lv_aload_n hx hb dX7_add_27 rfl (lv_at hl 0 rfl) ?_
          refine w_geti hx hb hts (z_memU u7) hown hK.1 hS f7_1 (by decide) (zkd_of (rfl : zcd wC 1 = 1) rfl) (Or.inl (hts _ (z_mem k55))) dX7_add_28 ?_
          refine lv_iload_n hx hb dX7_add_31 rfl (lv_at hl 1 rfl) ?_
          refine lv_iload_n hx hb dX7_add_32 rfl (lv_at hl 2 rfl) ?_
          refine w_iushr hx hb dX7_add_33 ?_
          refine z_sipush hx hb (by decide) dX7_add_34 ?_
          refine w_iand hx hb dX7_add_37 ?_
          obtain ⟨o12, h⟩ := h
          refine w_iast (z := (andI (ushrI a0 x2) 255)) (n := 100) (i := (sI (M3 1 1))) hx hb hK.1 (t0 := 0) rfl hS hS0 (by decide) (zkd_of (rfl : zcd wC 2 = 2) rfl) (zln_of (rfl : zcd wC 2 = 2) rfl) rfl o12.1 o12.2 (by decide) dX7_add_38 (fun H locs hS hS0 => ?_)
          obtain ⟨M13, e14⟩ : ∃ M13 : zM, M13 = zup M3 2 (sI (M3 1 1)).toNat (andI (ushrI a0 x2) 255) := ⟨_, rfl⟩
          rw [← e14] at hS
          have h := h M13 e14
          refine lv_aload_n hx hb dX7_add_39 rfl (lv_at hl 0 rfl) ?_
          refine lv_dup hx hb dX7_add_40 rfl ?_
          refine w_geti hx hb hts (z_memU u7) hown hK.1 hS f7_1 (by decide) (zkd_of (rfl : zcd wC 1 = 1) rfl) (Or.inl (hts _ (z_mem k55))) dX7_add_41 ?_
          refine z_iconst hx hb dX7_add_44 ?_
          refine z_iadd hx hb dX7_add_45 ?_
          refine w_puti hx hb hts (z_memU u7) tyX7 tyX7_ok nmX7 hown hK.1 hS hS0 f7_1 (by decide) (zkd_of (rfl : zcd wC 1 = 1) rfl) (Or.inl (hts _ (z_mem k55))) rfl (z := ((M13 1 1) + 1)) (by decide +kernel) dX7_add_46 (fun H locs hS hS0 => ?_)
          obtain ⟨M15, e16⟩ : ∃ M15 : zM, M15 = zup M13 1 1 ((M13 1 1) + 1) := ⟨_, rfl⟩
          rw [← e16] at hS
          have h := h M15 e16
          refine z_iinc (lv' := [(2, .int (iI (x2 + (-8)))), (0, .ref (b + 1)), (1, .int (iI a0))]) hx hb dX7_add_49 hl (k := 2) rfl (by decide) rfl (fun ls hl => ?_)
          refine lv_goto (tgt := 19) hx hb dX7_add_52 (by decide) ?_
          obtain ⟨n17, h18, h⟩ := h
          exact i10 n17 h18 (x2 + (-8)) M15 _ _ _ h hS hS0 (lv_sub hl [1, 2, 0] rfl)
    exact L8 n5 24 M _ _ _ h6 hS hS0 (lv_sub hl [1, 2, 0] rfl)
  · skip
    have h := h.2 c1
    refine z_iconst hx hb dX7_add_14 ?_
    exact w_iret hx hb hr hlocks hS hS0 (sI_of (by decide)) h dX7_add_15

set_option maxRecDepth 100000 in
def wC_sign (a0 : Int) (M : zM) (Q : Int → zM → Prop) : Prop := wC_Splicer_add a0 M (fun z2 M1 => Q z2 M1)
set_option maxHeartbeats 4000000 in
set_option maxRecDepth 100000 in
theorem cC_sign (l : Launch) (D : va_G) (dA : Nat → ClassId) (b : Nat) (M : zM) (a0 : Int)  (Q : Int → zM → Prop) (h : wC_sign a0 M Q) : Met l yX11_sign (.code yX11_sign cX11_sign 2 (some .int) :: zt) (z_rm 1) (va_Pc [.ref (b + 0), .int (iI a0)] (wPre D dA vwCl (z_tys dA) wC nC b M)) (va_Qi (wQi Q) (zB D dA vwCl wC nC b) (zA nC b)) 0 0 (zA nC b) := by
  unfold wC_sign at h
  refine Met.ofW (cc := cX11_sign) (maxL := 2) (ret := (some .int)) (by decide) rfl ?_
  intro p e s m args below meth c s₁ B hml hv
  obtain ⟨hargs, hS, hK⟩ := hv
  have hx := B.exec
  have hb := B.bytes
  have hr := B.returns
  have hts := atoms_spec (ws := .code yX11_sign cX11_sign 2 (some .int) :: zt) B.pre
  have hown : s.vm.findClass RX11 = some m.cls := findClass_of_methodNamed B.named
  have hlocks := B.notSynchronized
  have hS0 : va_S (zA nC b) s.heap s.heap [] := va_S.rf
  have hl := lv_entry ([.ref (b + 0), .int (iI a0)]) (n := 2) (Nat.le_of_ble_eq_true rfl)
  have hent : entryFrame m args 2 = F0 m 0 ((lg_sl ([.ref (b + 0), .int (iI a0)]) ++ List.replicate (2 - (lg_sl ([.ref (b + 0), .int (iI a0)])).length) Slot.unset).toArray) [] := by rw [hargs]; exact lg_entry_eq m ([.ref (b + 0), .int (iI a0)]) 2
  rw [hent]
  generalize (lg_sl ([.ref (b + 0), .int (iI a0)]) ++ List.replicate (2 - (lg_sl ([.ref (b + 0), .int (iI a0)])).length) Slot.unset).toArray = ls at hl ⊢
  have hl : lv_has ls 2 [(0, .ref (b + 0)), (1, .int (iI a0))] := hl
  refine lv_aload_n hx hb dX11_sign_0 rfl (lv_at hl 0 rfl) ?_
  refine w_getr (j2 := 1) hx hb hts (z_memU u11) hown hK.1 hS f11_0 (by decide) (zkd_of (rfl : zcd wC 0 = 0) rfl) (zrf_of (rfl : zcd wC 0 = 0) rfl) (Or.inl (hts _ (z_mem k242))) dX11_sign_1 ?_
  refine lv_iload_n hx hb dX11_sign_4 rfl (lv_at hl 1 rfl) ?_
  refine w_calli (va_runV (As := [.int (iI a0)]) (rest := []) ⟨hx, hb, hml, hown, hts⟩ (cC_Splicer_add l D dA b M a0 _ h) (cwV 1 hts (z_gV k268 k269 k270 k2 k271) rfl rfl rfl dm_X7_add ⟨Nat.le_of_ble_eq_true rfl, Nat.le_of_ble_eq_true rfl⟩) ⟨wPre_blind, (w_recv hS hK.1 (by decide) (zkd_of (rfl : zcd wC 1 = 1) rfl) (by decide) (rfl : vwCl[7]? = some (RX7, TX7, 7))), w_pre hS hK⟩ rfl rfl hl.1 rfl (lv_room (Nat.le_of_ble_eq_true rfl)) dX11_sign_5 ⟨Nat.le_refl _, Nat.le_refl _⟩) hS0 (fun z2 M1 H locs r3 h hS hS0 => ?_)
  exact w_iret hx hb hr hlocks hS hS0 (sI_of r3) h dX11_sign_8

set_option maxRecDepth 100000 in
def wC_Splicer_keepFirst (a0 : Int) (M : zM) (Q : Int → zM → Prop) : Prop := ((sI a0) < 0 → Q 0 M) ∧ (0 ≤ (sI a0) → ((sI a0) ≤ (sI (M 1 1)) → (∀ M3 : zM, M3 = zup M 1 1 a0 → Q 1 M3)) ∧ ((sI (M 1 1)) < (sI a0) → Q 0 M))
set_option maxHeartbeats 4000000 in
set_option maxRecDepth 100000 in
theorem cC_Splicer_keepFirst (l : Launch) (D : va_G) (dA : Nat → ClassId) (b : Nat) (M : zM) (a0 : Int)  (Q : Int → zM → Prop) (h : wC_Splicer_keepFirst a0 M Q) : Met l yX7_keepFirst (.code yX7_keepFirst cX7_keepFirst 2 (some .boolean) :: zt) (z_rm 0) (va_Pc [.ref (b + 1), .int (iI a0)] (wPre D dA vwCl (z_tys dA) wC nC b M)) (va_Qi (wQz Q) (zB D dA vwCl wC nC b) (zA nC b)) 0 0 (zA nC b) := by
  unfold wC_Splicer_keepFirst at h
  refine Met.ofW (cc := cX7_keepFirst) (maxL := 2) (ret := (some .boolean)) (by decide) rfl ?_
  intro p e s m args below meth c s₁ B hml hv
  obtain ⟨hargs, hS, hK⟩ := hv
  have hx := B.exec
  have hb := B.bytes
  have hr := B.returns
  have hts := atoms_spec (ws := .code yX7_keepFirst cX7_keepFirst 2 (some .boolean) :: zt) B.pre
  have hown : s.vm.findClass RX7 = some m.cls := findClass_of_methodNamed B.named
  have hlocks := B.notSynchronized
  have hS0 : va_S (zA nC b) s.heap s.heap [] := va_S.rf
  have hl := lv_entry ([.ref (b + 1), .int (iI a0)]) (n := 2) (Nat.le_of_ble_eq_true rfl)
  have hent : entryFrame m args 2 = F0 m 0 ((lg_sl ([.ref (b + 1), .int (iI a0)]) ++ List.replicate (2 - (lg_sl ([.ref (b + 1), .int (iI a0)])).length) Slot.unset).toArray) [] := by rw [hargs]; exact lg_entry_eq m ([.ref (b + 1), .int (iI a0)]) 2
  rw [hent]
  generalize (lg_sl ([.ref (b + 1), .int (iI a0)]) ++ List.replicate (2 - (lg_sl ([.ref (b + 1), .int (iI a0)])).length) Slot.unset).toArray = ls at hl ⊢
  have hl : lv_has ls 2 [(0, .ref (b + 1)), (1, .int (iI a0))] := hl
  refine lv_iload_n hx hb dX7_keepFirst_0 rfl (lv_at hl 1 rfl) ?_
  refine w_if_lt (tgt := 12) hx hb rfl dX7_keepFirst_1 (by decide) (fun c1 => ?_) (fun c1 => ?_)
  · skip
    have h := h.1 c1
    refine z_iconst hx hb dX7_keepFirst_12 ?_
    exact w_zret hx hb hr hlocks hS hS0 (sI_of (by decide)) (by decide) h dX7_keepFirst_13
  · skip
    have h := h.2 c1
    refine lv_iload_n hx hb dX7_keepFirst_4 rfl (lv_at hl 1 rfl) ?_
    refine lv_aload_n hx hb dX7_keepFirst_5 rfl (lv_at hl 0 rfl) ?_
    refine w_geti hx hb hts (z_memU u7) hown hK.1 hS f7_1 (by decide) (zkd_of (rfl : zcd wC 1 = 1) rfl) (Or.inl (hts _ (z_mem k55))) dX7_keepFirst_6 ?_
    refine w_icmp_le (tgt := 14) hx hb rfl rfl dX7_keepFirst_9 (by decide) (fun c2 => ?_) (fun c2 => ?_)
    · skip
      have h := h.1 c2
      refine lv_aload_n hx hb dX7_keepFirst_14 rfl (lv_at hl 0 rfl) ?_
      refine lv_iload_n hx hb dX7_keepFirst_15 rfl (lv_at hl 1 rfl) ?_
      refine w_puti hx hb hts (z_memU u7) tyX7 tyX7_ok nmX7 hown hK.1 hS hS0 f7_1 (by decide) (zkd_of (rfl : zcd wC 1 = 1) rfl) (Or.inl (hts _ (z_mem k55))) rfl (z := a0) (by decide +kernel) dX7_keepFirst_16 (fun H locs hS hS0 => ?_)
      obtain ⟨M3, e4⟩ : ∃ M3 : zM, M3 = zup M 1 1 a0 := ⟨_, rfl⟩
      rw [← e4] at hS
      have h := h M3 e4
      refine z_iconst hx hb dX7_keepFirst_19 ?_
      exact w_zret hx hb hr hlocks hS hS0 (sI_of (by decide)) (by decide) h dX7_keepFirst_20
    · skip
      have h := h.2 c2
      refine z_iconst hx hb dX7_keepFirst_12 ?_
      exact w_zret hx hb hr hlocks hS hS0 (sI_of (by decide)) (by decide) h dX7_keepFirst_13

set_option maxRecDepth 100000 in
def wC_end (a0 : Int) (M : zM) (Q : Int → zM → Prop) : Prop := wC_Splicer_keepFirst a0 M (fun z2 M1 => Q z2 M1)
set_option maxHeartbeats 4000000 in
set_option maxRecDepth 100000 in
theorem cC_end (l : Launch) (D : va_G) (dA : Nat → ClassId) (b : Nat) (M : zM) (a0 : Int)  (Q : Int → zM → Prop) (h : wC_end a0 M Q) : Met l yX11_end (.code yX11_end cX11_end 2 (some .boolean) :: zt) (z_rm 1) (va_Pc [.ref (b + 0), .int (iI a0)] (wPre D dA vwCl (z_tys dA) wC nC b M)) (va_Qi (wQz Q) (zB D dA vwCl wC nC b) (zA nC b)) 0 0 (zA nC b) := by
  unfold wC_end at h
  refine Met.ofW (cc := cX11_end) (maxL := 2) (ret := (some .boolean)) (by decide) rfl ?_
  intro p e s m args below meth c s₁ B hml hv
  obtain ⟨hargs, hS, hK⟩ := hv
  have hx := B.exec
  have hb := B.bytes
  have hr := B.returns
  have hts := atoms_spec (ws := .code yX11_end cX11_end 2 (some .boolean) :: zt) B.pre
  have hown : s.vm.findClass RX11 = some m.cls := findClass_of_methodNamed B.named
  have hlocks := B.notSynchronized
  have hS0 : va_S (zA nC b) s.heap s.heap [] := va_S.rf
  have hl := lv_entry ([.ref (b + 0), .int (iI a0)]) (n := 2) (Nat.le_of_ble_eq_true rfl)
  have hent : entryFrame m args 2 = F0 m 0 ((lg_sl ([.ref (b + 0), .int (iI a0)]) ++ List.replicate (2 - (lg_sl ([.ref (b + 0), .int (iI a0)])).length) Slot.unset).toArray) [] := by rw [hargs]; exact lg_entry_eq m ([.ref (b + 0), .int (iI a0)]) 2
  rw [hent]
  generalize (lg_sl ([.ref (b + 0), .int (iI a0)]) ++ List.replicate (2 - (lg_sl ([.ref (b + 0), .int (iI a0)])).length) Slot.unset).toArray = ls at hl ⊢
  have hl : lv_has ls 2 [(0, .ref (b + 0)), (1, .int (iI a0))] := hl
  refine lv_aload_n hx hb dX11_end_0 rfl (lv_at hl 0 rfl) ?_
  refine w_getr (j2 := 1) hx hb hts (z_memU u11) hown hK.1 hS f11_0 (by decide) (zkd_of (rfl : zcd wC 0 = 0) rfl) (zrf_of (rfl : zcd wC 0 = 0) rfl) (Or.inl (hts _ (z_mem k242))) dX11_end_1 ?_
  refine lv_iload_n hx hb dX11_end_4 rfl (lv_at hl 1 rfl) ?_
  refine w_callz (va_runV (As := [.int (iI a0)]) (rest := []) ⟨hx, hb, hml, hown, hts⟩ (cC_Splicer_keepFirst l D dA b M a0 _ h) (cwV 1 hts (z_gV k276 k277 k278 k2 k279) rfl rfl rfl dm_X7_keepFirst ⟨Nat.le_of_ble_eq_true rfl, Nat.le_of_ble_eq_true rfl⟩) ⟨wPre_blind, (w_recv hS hK.1 (by decide) (zkd_of (rfl : zcd wC 1 = 1) rfl) (by decide) (rfl : vwCl[7]? = some (RX7, TX7, 7))), w_pre hS hK⟩ rfl rfl hl.1 rfl (lv_room (Nat.le_of_ble_eq_true rfl)) dX11_end_5 ⟨Nat.le_refl _, Nat.le_refl _⟩) hS0 (fun z2 M1 H locs r3 h hS hS0 => ?_)
  exact w_zret hx hb hr hlocks hS hS0 (sI_01 r3) r3 h dX11_end_8

set_option maxRecDepth 100000 in
def wC_Splicer_isDigit (a0 : Int) (a1 : Int) (M : zM) (Q : Int → Prop) : Prop := ((sI a0) < (sI a1) → Q 0) ∧ ((sI a1) ≤ (sI a0) → (57 < (sI a0) → Q 0) ∧ ((sI a0) ≤ 57 → Q 1))
set_option maxHeartbeats 4000000 in
set_option maxRecDepth 100000 in
theorem cC_Splicer_isDigit (l : Launch) (D : va_G) (dA : Nat → ClassId) (b : Nat) (M : zM) (a0 : Int) (a1 : Int)  (Q : Int → Prop) (h : wC_Splicer_isDigit a0 a1 M Q) : Met l yX7_isDigit (.code yX7_isDigit cX7_isDigit 2 (some .boolean) :: zt) (z_rm 0) (va_Pc [.int (iI a0), .int (iI a1)] (wPre D dA vwCl (z_tys dA) wC nC b M)) (va_Qi (wQz (fun z9 u9 => u9 = M ∧ Q z9)) (zB D dA vwCl wC nC b) (zA nC b)) 0 0 (zA nC b) := by
  unfold wC_Splicer_isDigit at h
  refine Met.ofW (cc := cX7_isDigit) (maxL := 2) (ret := (some .boolean)) (by decide) rfl ?_
  intro p e s m args below meth c s₁ B hml hv
  obtain ⟨hargs, hS, hK⟩ := hv
  have hx := B.exec
  have hb := B.bytes
  have hr := B.returns
  have hts := atoms_spec (ws := .code yX7_isDigit cX7_isDigit 2 (some .boolean) :: zt) B.pre
  have hown : s.vm.findClass RX7 = some m.cls := findClass_of_methodNamed B.named
  have hlocks := B.notSynchronized
  have hS0 : va_S (zA nC b) s.heap s.heap [] := va_S.rf
  have hl := lv_entry ([.int (iI a0), .int (iI a1)]) (n := 2) (Nat.le_of_ble_eq_true rfl)
  have hent : entryFrame m args 2 = F0 m 0 ((lg_sl ([.int (iI a0), .int (iI a1)]) ++ List.replicate (2 - (lg_sl ([.int (iI a0), .int (iI a1)])).length) Slot.unset).toArray) [] := by rw [hargs]; exact lg_entry_eq m ([.int (iI a0), .int (iI a1)]) 2
  rw [hent]
  generalize (lg_sl ([.int (iI a0), .int (iI a1)]) ++ List.replicate (2 - (lg_sl ([.int (iI a0), .int (iI a1)])).length) Slot.unset).toArray = ls at hl ⊢
  have hl : lv_has ls 2 [(0, .int (iI a0)), (1, .int (iI a1))] := hl
  refine lv_iload_n hx hb dX7_isDigit_0 rfl (lv_at hl 0 rfl) ?_
  refine lv_iload_n hx hb dX7_isDigit_1 rfl (lv_at hl 1 rfl) ?_
  refine w_icmp_lt (tgt := 15) hx hb rfl rfl dX7_isDigit_2 (by decide) (fun c1 => ?_) (fun c1 => ?_)
  · skip
    have h := h.1 c1
    refine z_iconst hx hb dX7_isDigit_15 ?_
    exact w_zret hx hb hr hlocks hS hS0 (sI_of (by decide)) (by decide) ⟨rfl, h⟩ dX7_isDigit_16
  · skip
    have h := h.2 c1
    refine lv_iload_n hx hb dX7_isDigit_5 rfl (lv_at hl 0 rfl) ?_
    refine z_bipush hx hb (by decide) dX7_isDigit_6 ?_
    refine w_icmp_gt (tgt := 15) hx hb rfl (sI_of (by decide)) dX7_isDigit_8 (by decide) (fun c2 => ?_) (fun c2 => ?_)
    · skip
      have h := h.1 c2
      refine z_iconst hx hb dX7_isDigit_15 ?_
      exact w_zret hx hb hr hlocks hS hS0 (sI_of (by decide)) (by decide) ⟨rfl, h⟩ dX7_isDigit_16
    · skip
      have h := h.2 c2
      refine z_iconst hx hb dX7_isDigit_11 ?_
      refine lv_goto (tgt := 16) hx hb dX7_isDigit_12 (by decide) ?_
      exact w_zret hx hb hr hlocks hS hS0 (sI_of (by decide)) (by decide) ⟨rfl, h⟩ dX7_isDigit_16

set_option maxRecDepth 100000 in
def wC_Splicer_behindAtomStart (a0 : Int) (M : zM) (Q : Int → zM → Prop) : Prop := wC_Splicer_isDigit a0 48 M (fun z2 => (z2 = 0 → ((sI a0) ≠ 91 → ((sI a0) ≠ 40 → Q (-1) M) ∧ ((sI a0) = 40 → (5 ≤ (sI (M 1 2)) → Q (-1) M) ∧ ((sI (M 1 2)) < 5 → (∀ M9 : zM, M9 = zup M 1 2 ((M 1 2) + 1) → Q 0 M9)))) ∧ ((sI a0) = 91 → Q 4 M)) ∧ (z2 ≠ 0 → Q 1 M))
set_option maxHeartbeats 4000000 in
set_option maxRecDepth 100000 in
theorem cC_Splicer_behindAtomStart (l : Launch) (D : va_G) (dA : Nat → ClassId) (b : Nat) (M : zM) (a0 : Int)  (Q : Int → zM → Prop) (h : wC_Splicer_behindAtomStart a0 M Q) : Met l yX7_behindAtomStart (.code yX7_behindAtomStart cX7_behindAtomStart 2 (some .int) :: zt) (z_rm 1) (va_Pc [.ref (b + 1), .int (iI a0)] (wPre D dA vwCl (z_tys dA) wC nC b M)) (va_Qi (wQi Q) (zB D dA vwCl wC nC b) (zA nC b)) 0 0 (zA nC b) := by
  unfold wC_Splicer_behindAtomStart at h
  refine Met.ofW (cc := cX7_behindAtomStart) (maxL := 2) (ret := (some .int)) (by decide) rfl ?_
  intro p e s m args below meth c s₁ B hml hv
  obtain ⟨hargs, hS, hK⟩ := hv
  have hx := B.exec
  have hb := B.bytes
  have hr := B.returns
  have hts := atoms_spec (ws := .code yX7_behindAtomStart cX7_behindAtomStart 2 (some .int) :: zt) B.pre
  have hown : s.vm.findClass RX7 = some m.cls := findClass_of_methodNamed B.named
  have hlocks := B.notSynchronized
  have hS0 : va_S (zA nC b) s.heap s.heap [] := va_S.rf
  have hl := lv_entry ([.ref (b + 1), .int (iI a0)]) (n := 2) (Nat.le_of_ble_eq_true rfl)
  have hent : entryFrame m args 2 = F0 m 0 ((lg_sl ([.ref (b + 1), .int (iI a0)]) ++ List.replicate (2 - (lg_sl ([.ref (b + 1), .int (iI a0)])).length) Slot.unset).toArray) [] := by rw [hargs]; exact lg_entry_eq m ([.ref (b + 1), .int (iI a0)]) 2
  rw [hent]
  generalize (lg_sl ([.ref (b + 1), .int (iI a0)]) ++ List.replicate (2 - (lg_sl ([.ref (b + 1), .int (iI a0)])).length) Slot.unset).toArray = ls at hl ⊢
  have hl : lv_has ls 2 [(0, .ref (b + 1)), (1, .int (iI a0))] := hl
  refine lv_iload_n hx hb dX7_behindAtomStart_0 rfl (lv_at hl 1 rfl) ?_
  refine z_bipush hx hb (by decide) dX7_behindAtomStart_1 ?_
  refine w_callz (va_runS (As := [.int (iI a0), .int (iI 48)]) (rest := []) ⟨hx, hb, hml, hown, hts⟩ (cC_Splicer_isDigit l D dA b M a0 48 _ h) (va_cwS 2 hts (z_gS k297 k298 k2 k299) rfl rfl rfl dm_X7_isDigit.2 ⟨Nat.le_of_ble_eq_true rfl, Nat.le_of_ble_eq_true rfl⟩) ⟨wPre_blind, w_pre hS hK⟩ rfl rfl hl.1 rfl (lv_room (Nat.le_of_ble_eq_true rfl)) dX7_behindAtomStart_3 ⟨Nat.le_refl _, Nat.le_refl _⟩) hS0 (fun z2 M1 H locs r3 h hS hS0 => ?_)
  obtain ⟨e4, h⟩ := h
  rw [e4] at hS
  refine w_if_eq (tgt := 11) hx hb (sI_01 r3) dX7_behindAtomStart_6 (by decide) (fun c5 => ?_) (fun c5 => ?_)
  · skip
    have h := h.1 c5
    refine lv_iload_n hx hb dX7_behindAtomStart_11 rfl (lv_at hl 1 rfl) ?_
    refine z_bipush hx hb (by decide) dX7_behindAtomStart_12 ?_
    refine w_icmp_ne (tgt := 19) hx hb rfl (sI_of (by decide)) dX7_behindAtomStart_14 (by decide) (fun c6 => ?_) (fun c6 => ?_)
    · skip
      have h := h.1 c6
      refine lv_iload_n hx hb dX7_behindAtomStart_19 rfl (lv_at hl 1 rfl) ?_
      refine z_bipush hx hb (by decide) dX7_behindAtomStart_20 ?_
      refine w_icmp_ne (tgt := 45) hx hb rfl (sI_of (by decide)) dX7_behindAtomStart_22 (by decide) (fun c7 => ?_) (fun c7 => ?_)
      · skip
        have h := h.1 c7
        refine z_iconst hx hb dX7_behindAtomStart_45 ?_
        exact w_iret hx hb hr hlocks hS hS0 (sI_of (by decide)) h dX7_behindAtomStart_46
      · skip
        have h := h.2 c7
        refine lv_aload_n hx hb dX7_behindAtomStart_25 rfl (lv_at hl 0 rfl) ?_
        refine w_geti hx hb hts (z_memU u7) hown hK.1 hS f7_2 (by decide) (zkd_of (rfl : zcd wC 1 = 1) rfl) (Or.inl (hts _ (z_mem k57))) dX7_behindAtomStart_26 ?_
        refine z_iconst hx hb dX7_behindAtomStart_29 ?_
        refine w_icmp_ge (tgt := 45) hx hb rfl (sI_of (by decide)) dX7_behindAtomStart_30 (by decide) (fun c8 => ?_) (fun c8 => ?_)
        · skip
          have h := h.1 c8
          refine z_iconst hx hb dX7_behindAtomStart_45 ?_
          exact w_iret hx hb hr hlocks hS hS0 (sI_of (by decide)) h dX7_behindAtomStart_46
        · skip
          have h := h.2 c8
          refine lv_aload_n hx hb dX7_behindAtomStart_33 rfl (lv_at hl 0 rfl) ?_
          refine lv_dup hx hb dX7_behindAtomStart_34 rfl ?_
          refine w_geti hx hb hts (z_memU u7) hown hK.1 hS f7_2 (by decide) (zkd_of (rfl : zcd wC 1 = 1) rfl) (Or.inl (hts _ (z_mem k57))) dX7_behindAtomStart_35 ?_
          refine z_iconst hx hb dX7_behindAtomStart_38 ?_
          refine z_iadd hx hb dX7_behindAtomStart_39 ?_
          refine w_puti hx hb hts (z_memU u7) tyX7 tyX7_ok nmX7 hown hK.1 hS hS0 f7_2 (by decide) (zkd_of (rfl : zcd wC 1 = 1) rfl) (Or.inl (hts _ (z_mem k57))) rfl (z := ((M 1 2) + 1)) (by decide +kernel) dX7_behindAtomStart_40 (fun H locs hS hS0 => ?_)
          obtain ⟨M9, e10⟩ : ∃ M9 : zM, M9 = zup M 1 2 ((M 1 2) + 1) := ⟨_, rfl⟩
          rw [← e10] at hS
          have h := h M9 e10
          refine z_iconst hx hb dX7_behindAtomStart_43 ?_
          exact w_iret hx hb hr hlocks hS hS0 (sI_of (by decide)) h dX7_behindAtomStart_44
    · skip
      have h := h.2 c6
      refine z_iconst hx hb dX7_behindAtomStart_17 ?_
      exact w_iret hx hb hr hlocks hS hS0 (sI_of (by decide)) h dX7_behindAtomStart_18
  · skip
    have h := h.2 c5
    refine z_iconst hx hb dX7_behindAtomStart_9 ?_
    exact w_iret hx hb hr hlocks hS hS0 (sI_of (by decide)) h dX7_behindAtomStart_10

set_option maxRecDepth 100000 in
def wC_Splicer_behindTermSign (a0 : Int) (M : zM) (Q : Int → zM → Prop) : Prop := ((sI a0) = 41 → (∀ M2 : zM, M2 = zup M 1 2 ((M 1 2) - 1) → (0 ≤ (sI (M2 1 2)) → Q 1 M2) ∧ ((sI (M2 1 2)) < 0 → Q (-1) M2))) ∧ ((sI a0) ≠ 41 → ((sI a0) = 42 → Q 2 M) ∧ ((sI a0) ≠ 42 → ((sI a0) = 47 → Q 3 M) ∧ ((sI a0) ≠ 47 → ((sI a0) = 126 → Q 1 M) ∧ ((sI a0) ≠ 126 → wC_Splicer_behindAtomStart a0 M (fun z9 M8 => Q z9 M8)))))
set_option maxHeartbeats 4000000 in
set_option maxRecDepth 100000 in
theorem cC_Splicer_behindTermSign (l : Launch) (D : va_G) (dA : Nat → ClassId) (b : Nat) (M : zM) (a0 : Int)  (Q : Int → zM → Prop) (h : wC_Splicer_behindTermSign a0 M Q) : Met l yX7_behindTermSign (.code yX7_behindTermSign cX7_behindTermSign 2 (some .int) :: zt) (z_rm 2) (va_Pc [.ref (b + 1), .int (iI a0)] (wPre D dA vwCl (z_tys dA) wC nC b M)) (va_Qi (wQi Q) (zB D dA vwCl wC nC b) (zA nC b)) 0 0 (zA nC b) := by
  unfold wC_Splicer_behindTermSign at h
  refine Met.ofW (cc := cX7_behindTermSign) (maxL := 2) (ret := (some .int)) (by decide) rfl ?_
  intro p e s m args below meth c s₁ B hml hv
  obtain ⟨hargs, hS, hK⟩ := hv
  have hx := B.exec
  have hb := B.bytes
  have hr := B.returns
  have hts := atoms_spec (ws := .code yX7_behindTermSign cX7_behindTermSign 2 (some .int) :: zt) B.pre
  have hown : s.vm.findClass RX7 = some m.cls := findClass_of_methodNamed B.named
  have hlocks := B.notSynchronized
  have hS0 : va_S (zA nC b) s.heap s.heap [] := va_S.rf
  have hl := lv_entry ([.ref (b + 1), .int (iI a0)]) (n := 2) (Nat.le_of_ble_eq_true rfl)
  have hent : entryFrame m args 2 = F0 m 0 ((lg_sl ([.ref (b + 1), .int (iI a0)]) ++ List.replicate (2 - (lg_sl ([.ref (b + 1), .int (iI a0)])).length) Slot.unset).toArray) [] := by rw [hargs]; exact lg_entry_eq m ([.ref (b + 1), .int (iI a0)]) 2
  rw [hent]
  generalize (lg_sl ([.ref (b + 1), .int (iI a0)]) ++ List.replicate (2 - (lg_sl ([.ref (b + 1), .int (iI a0)])).length) Slot.unset).toArray = ls at hl ⊢
  have hl : lv_has ls 2 [(0, .ref (b + 1)), (1, .int (iI a0))] := hl
  refine lv_iload_n hx hb dX7_behindTermSign_0 rfl (lv_at hl 1 rfl) ?_
  rcases Decidable.em ((sI a0) = 41) with c1 | c1
  · skip
    have h := h.1 c1
    refine w_lookup (tgt := 50) hx hb rfl dX7_behindTermSign_1 (by decide) (by first | (rw [c1]; done) | (rw [c1]; rfl)) (by decide) ?_
    refine lv_aload_n hx hb dX7_behindTermSign_50 rfl (lv_at hl 0 rfl) ?_
    refine lv_dup hx hb dX7_behindTermSign_51 rfl ?_
    refine w_geti hx hb hts (z_memU u7) hown hK.1 hS f7_2 (by decide) (zkd_of (rfl : zcd wC 1 = 1) rfl) (Or.inl (hts _ (z_mem k57))) dX7_behindTermSign_52 ?_
    refine z_iconst hx hb dX7_behindTermSign_55 ?_
    refine z_isub hx hb dX7_behindTermSign_56 ?_
    refine w_puti hx hb hts (z_memU u7) tyX7 tyX7_ok nmX7 hown hK.1 hS hS0 f7_2 (by decide) (zkd_of (rfl : zcd wC 1 = 1) rfl) (Or.inl (hts _ (z_mem k57))) rfl (z := ((M 1 2) - 1)) (by decide +kernel) dX7_behindTermSign_57 (fun H locs hS hS0 => ?_)
    obtain ⟨M2, e3⟩ : ∃ M2 : zM, M2 = zup M 1 2 ((M 1 2) - 1) := ⟨_, rfl⟩
    rw [← e3] at hS
    have h := h M2 e3
    refine lv_aload_n hx hb dX7_behindTermSign_60 rfl (lv_at hl 0 rfl) ?_
    refine w_geti hx hb hts (z_memU u7) hown hK.1 hS f7_2 (by decide) (zkd_of (rfl : zcd wC 1 = 1) rfl) (Or.inl (hts _ (z_mem k57))) dX7_behindTermSign_61 ?_
    refine w_if_ge (tgt := 71) hx hb rfl dX7_behindTermSign_64 (by decide) (fun c4 => ?_) (fun c4 => ?_)
    · skip
      have h := h.1 c4
      refine z_iconst hx hb dX7_behindTermSign_71 ?_
      exact w_iret hx hb hr hlocks hS hS0 (sI_of (by decide)) h dX7_behindTermSign_72
    · skip
      have h := h.2 c4
      refine z_iconst hx hb dX7_behindTermSign_67 ?_
      refine lv_goto (tgt := 72) hx hb dX7_behindTermSign_68 (by decide) ?_
      exact w_iret hx hb hr hlocks hS hS0 (sI_of (by decide)) h dX7_behindTermSign_72
  have h := h.2 c1
  rcases Decidable.em ((sI a0) = 42) with c5 | c5
  · skip
    have h := h.1 c5
    refine w_lookup (tgt := 46) hx hb rfl dX7_behindTermSign_1 (by decide) (by first | (rw [c5]; done) | (rw [c5]; rfl)) (by decide) ?_
    refine z_iconst hx hb dX7_behindTermSign_46 ?_
    exact w_iret hx hb hr hlocks hS hS0 (sI_of (by decide)) h dX7_behindTermSign_47
  have h := h.2 c5
  rcases Decidable.em ((sI a0) = 47) with c6 | c6
  · skip
    have h := h.1 c6
    refine w_lookup (tgt := 48) hx hb rfl dX7_behindTermSign_1 (by decide) (by first | (rw [c6]; done) | (rw [c6]; rfl)) (by decide) ?_
    refine z_iconst hx hb dX7_behindTermSign_48 ?_
    exact w_iret hx hb hr hlocks hS hS0 (sI_of (by decide)) h dX7_behindTermSign_49
  have h := h.2 c6
  rcases Decidable.em ((sI a0) = 126) with c7 | c7
  · skip
    have h := h.1 c7
    refine w_lookup (tgt := 44) hx hb rfl dX7_behindTermSign_1 (by decide) (by first | (rw [c7]; done) | (rw [c7]; rfl)) (by decide) ?_
    refine z_iconst hx hb dX7_behindTermSign_44 ?_
    exact w_iret hx hb hr hlocks hS hS0 (sI_of (by decide)) h dX7_behindTermSign_45
  have h := h.2 c7
  refine w_lookup (tgt := 73) hx hb rfl dX7_behindTermSign_1 (by decide) (by simp only [Op.lookupswitch.offset, if_neg (Ne.symm c1), if_neg (Ne.symm c5), if_neg (Ne.symm c6), if_neg (Ne.symm c7)] <;> rfl) (by decide) ?_
  refine lv_aload_n hx hb dX7_behindTermSign_73 rfl (lv_at hl 0 rfl) ?_
  refine lv_iload_n hx hb dX7_behindTermSign_74 rfl (lv_at hl 1 rfl) ?_
  refine w_calli (va_runV (As := [.int (iI a0)]) (rest := []) ⟨hx, hb, hml, hown, hts⟩ (cC_Splicer_behindAtomStart l D dA b M a0 _ h) (cwV 1 hts (z_gV k294 k295 k1352 k2 k296) rfl rfl rfl dm_X7_behindAtomStart ⟨Nat.le_of_ble_eq_true rfl, Nat.le_of_ble_eq_true rfl⟩) ⟨wPre_blind, (w_recv hS hK.1 (by decide) (zkd_of (rfl : zcd wC 1 = 1) rfl) (by decide) (rfl : vwCl[7]? = some (RX7, TX7, 7))), w_pre hS hK⟩ rfl rfl hl.1 rfl (lv_room (Nat.le_of_ble_eq_true rfl)) dX7_behindTermSign_75 ⟨Nat.le_refl _, Nat.le_refl _⟩) hS0 (fun z9 M8 H locs r10 h hS hS0 => ?_)
  exact w_iret hx hb hr hlocks hS hS0 (sI_of r10) h dX7_behindTermSign_78

set_option maxRecDepth 100000 in
def wC_Splicer_behind (a0 : Int) (a1 : Int) (M : zM) (Q : Int → zM → Prop) : Prop := ((sI a0) = 0 → wC_Splicer_behindAtomStart a1 M (fun z3 M2 => Q z3 M2)) ∧ ((sI a0) ≠ 0 → ((sI a0) = 1 → wC_Splicer_behindTermSign a1 M (fun z7 M6 => Q z7 M6)) ∧ ((sI a0) ≠ 1 → ((sI a0) = 2 → wC_Splicer_isDigit a1 50 M (fun z11 => (z11 = 0 → Q (-1) M) ∧ (z11 ≠ 0 → Q 1 M))) ∧ ((sI a0) ≠ 2 → ((sI a0) = 3 → wC_Splicer_isDigit a1 49 M (fun z17 => (z17 = 0 → Q (-1) M) ∧ (z17 ≠ 0 → Q 0 M))) ∧ ((sI a0) ≠ 3 → ((sI a0) = 4 → wC_Splicer_isDigit a1 49 M (fun z23 => (z23 = 0 → Q (-1) M) ∧ (z23 ≠ 0 → Q 5 M))) ∧ ((sI a0) ≠ 4 → ((sI a0) = 5 → ((sI a1) ≠ 93 → wC_Splicer_isDigit a1 49 M (fun z30 => (z30 = 0 → Q (-1) M) ∧ (z30 ≠ 0 → Q 5 M))) ∧ ((sI a1) = 93 → Q 1 M)) ∧ ((sI a0) ≠ 5 → wC_Splicer_isDigit a1 49 M (fun z35 => (z35 = 0 → Q (-1) M) ∧ (z35 ≠ 0 → Q 5 M))))))))
set_option maxHeartbeats 4000000 in
set_option maxRecDepth 100000 in
theorem cC_Splicer_behind (l : Launch) (D : va_G) (dA : Nat → ClassId) (b : Nat) (M : zM) (a0 : Int) (a1 : Int)  (Q : Int → zM → Prop) (h : wC_Splicer_behind a0 a1 M Q) : Met l yX7_behind (.code yX7_behind cX7_behind 3 (some .int) :: zt) (z_rm 3) (va_Pc [.ref (b + 1), .int (iI a0), .int (iI a1)] (wPre D dA vwCl (z_tys dA) wC nC b M)) (va_Qi (wQi Q) (zB D dA vwCl wC nC b) (zA nC b)) 0 0 (zA nC b) := by
  unfold wC_Splicer_behind at h
  refine Met.ofW (cc := cX7_behind) (maxL := 3) (ret := (some .int)) (by decide) rfl ?_
  intro p e s m args below meth c s₁ B hml hv
  obtain ⟨hargs, hS, hK⟩ := hv
  have hx := B.exec
  have hb := B.bytes
  have hr := B.returns
  have hts := atoms_spec (ws := .code yX7_behind cX7_behind 3 (some .int) :: zt) B.pre
  have hown : s.vm.findClass RX7 = some m.cls := findClass_of_methodNamed B.named
  have hlocks := B.notSynchronized
  have hS0 : va_S (zA nC b) s.heap s.heap [] := va_S.rf
  have hl := lv_entry ([.ref (b + 1), .int (iI a0), .int (iI a1)]) (n := 3) (Nat.le_of_ble_eq_true rfl)
  have hent : entryFrame m args 3 = F0 m 0 ((lg_sl ([.ref (b + 1), .int (iI a0), .int (iI a1)]) ++ List.replicate (3 - (lg_sl ([.ref (b + 1), .int (iI a0), .int (iI a1)])).length) Slot.unset).toArray) [] := by rw [hargs]; exact lg_entry_eq m ([.ref (b + 1), .int (iI a0), .int (iI a1)]) 3
  rw [hent]
  generalize (lg_sl ([.ref (b + 1), .int (iI a0), .int (iI a1)]) ++ List.replicate (3 - (lg_sl ([.ref (b + 1), .int (iI a0), .int (iI a1)])).length) Slot.unset).toArray = ls at hl ⊢
  have hl : lv_has ls 3 [(0, .ref (b + 1)), (1, .int (iI a0)), (2, .int (iI a1))] := hl
  refine lv_iload_n hx hb dX7_behind_0 rfl (lv_at hl 1 rfl) ?_
  rcases Decidable.em ((sI a0) = 0) with c1 | c1
  · skip
    have h := h.1 c1
    refine w_tabIn (tgt := 40) hx hb rfl c1 dX7_behind_1 (by decide) (by decide) rfl (by decide) ?_
    refine lv_aload_n hx hb dX7_behind_40 rfl (lv_at hl 0 rfl) ?_
    refine lv_iload_n hx hb dX7_behind_41 rfl (lv_at hl 2 rfl) ?_
    refine w_calli (va_runV (As := [.int (iI a1)]) (rest := []) ⟨hx, hb, hml, hown, hts⟩ (cC_Splicer_behindAtomStart l D dA b M a1 _ h) (cwV 1 hts (z_gV k294 k295 k1352 k2 k296) rfl rfl rfl dm_X7_behindAtomStart ⟨Nat.le_of_ble_eq_true rfl, Nat.le_of_ble_eq_true rfl⟩) ⟨wPre_blind, (w_recv hS hK.1 (by decide) (zkd_of (rfl : zcd wC 1 = 1) rfl) (by decide) (rfl : vwCl[7]? = some (RX7, TX7, 7))), w_pre hS hK⟩ rfl rfl hl.1 rfl (lv_room (Nat.le_of_ble_eq_true rfl)) dX7_behind_42 ⟨Nat.le_refl _, Nat.le_refl _⟩) hS0 (fun z3 M2 H locs r4 h hS hS0 => ?_)
    exact w_iret hx hb hr hlocks hS hS0 (sI_of r4) h dX7_behind_45
  have h := h.2 c1
  rcases Decidable.em ((sI a0) = 1) with c5 | c5
  · skip
    have h := h.1 c5
    refine w_tabIn (tgt := 46) hx hb rfl c5 dX7_behind_1 (by decide) (by decide) rfl (by decide) ?_
    refine lv_aload_n hx hb dX7_behind_46 rfl (lv_at hl 0 rfl) ?_
    refine lv_iload_n hx hb dX7_behind_47 rfl (lv_at hl 2 rfl) ?_
    refine w_calli (va_runV (As := [.int (iI a1)]) (rest := []) ⟨hx, hb, hml, hown, hts⟩ (cC_Splicer_behindTermSign l D dA b M a1 _ h) (cwV 1 hts (z_gV k300 k301 k1353 k2 k302) rfl rfl rfl dm_X7_behindTermSign ⟨Nat.le_of_ble_eq_true rfl, Nat.le_of_ble_eq_true rfl⟩) ⟨wPre_blind, (w_recv hS hK.1 (by decide) (zkd_of (rfl : zcd wC 1 = 1) rfl) (by decide) (rfl : vwCl[7]? = some (RX7, TX7, 7))), w_pre hS hK⟩ rfl rfl hl.1 rfl (lv_room (Nat.le_of_ble_eq_true rfl)) dX7_behind_48 ⟨Nat.le_refl _, Nat.le_refl _⟩) hS0 (fun z7 M6 H locs r8 h hS hS0 => ?_)
    exact w_iret hx hb hr hlocks hS hS0 (sI_of r8) h dX7_behind_51
  have h := h.2 c5
  rcases Decidable.em ((sI a0) = 2) with c9 | c9
  · skip
    have h := h.1 c9
    refine w_tabIn (tgt := 52) hx hb rfl c9 dX7_behind_1 (by decide) (by decide) rfl (by decide) ?_
    refine lv_iload_n hx hb dX7_behind_52 rfl (lv_at hl 2 rfl) ?_
    refine z_bipush hx hb (by decide) dX7_behind_53 ?_
    refine w_callz (va_runS (As := [.int (iI a1), .int (iI 50)]) (rest := []) ⟨hx, hb, hml, hown, hts⟩ (cC_Splicer_isDigit l D dA b M a1 50 _ h) (va_cwS 2 hts (z_gS k297 k298 k2 k299) rfl rfl rfl dm_X7_isDigit.2 ⟨Nat.le_of_ble_eq_true rfl, Nat.le_of_ble_eq_true rfl⟩) ⟨wPre_blind, w_pre hS hK⟩ rfl rfl hl.1 rfl (lv_room (Nat.le_of_ble_eq_true rfl)) dX7_behind_55 ⟨Nat.le_refl _, Nat.le_refl _⟩) hS0 (fun z11 M10 H locs r12 h hS hS0 => ?_)
    obtain ⟨e13, h⟩ := h
    rw [e13] at hS
    refine w_if_eq (tgt := 65) hx hb (sI_01 r12) dX7_behind_58 (by decide) (fun c14 => ?_) (fun c14 => ?_)
    · skip
      have h := h.1 c14
      refine z_iconst hx hb dX7_behind_65 ?_
      exact w_iret hx hb hr hlocks hS hS0 (sI_of (by decide)) h dX7_behind_66
    · skip
      have h := h.2 c14
      refine z_iconst hx hb dX7_behind_61 ?_
      refine lv_goto (tgt := 66) hx hb dX7_behind_62 (by decide) ?_
      exact w_iret hx hb hr hlocks hS hS0 (sI_of (by decide)) h dX7_behind_66
  have h := h.2 c9
  rcases Decidable.em ((sI a0) = 3) with c15 | c15
  · skip
    have h := h.1 c15
    refine w_tabIn (tgt := 67) hx hb rfl c15 dX7_behind_1 (by decide) (by decide) rfl (by decide) ?_
    refine lv_iload_n hx hb dX7_behind_67 rfl (lv_at hl 2 rfl) ?_
    refine z_bipush hx hb (by decide) dX7_behind_68 ?_
    refine w_callz (va_runS (As := [.int (iI a1), .int (iI 49)]) (rest := []) ⟨hx, hb, hml, hown, hts⟩ (cC_Splicer_isDigit l D dA b M a1 49 _ h) (va_cwS 2 hts (z_gS k297 k298 k2 k299) rfl rfl rfl dm_X7_isDigit.2 ⟨Nat.le_of_ble_eq_true rfl, Nat.le_of_ble_eq_true rfl⟩) ⟨wPre_blind, w_pre hS hK⟩ rfl rfl hl.1 rfl (lv_room (Nat.le_of_ble_eq_true rfl)) dX7_behind_70 ⟨Nat.le_refl _, Nat.le_refl _⟩) hS0 (fun z17 M16 H locs r18 h hS hS0 => ?_)
    obtain ⟨e19, h⟩ := h
    rw [e19] at hS
    refine w_if_eq (tgt := 80) hx hb (sI_01 r18) dX7_behind_73 (by decide) (fun c20 => ?_) (fun c20 => ?_)
    · skip
      have h := h.1 c20
      refine z_iconst hx hb dX7_behind_80 ?_
      exact w_iret hx hb hr hlocks hS hS0 (sI_of (by decide)) h dX7_behind_81
    · skip
      have h := h.2 c20
      refine z_iconst hx hb dX7_behind_76 ?_
      refine lv_goto (tgt := 81) hx hb dX7_behind_77 (by decide) ?_
      exact w_iret hx hb hr hlocks hS hS0 (sI_of (by decide)) h dX7_behind_81
  have h := h.2 c15
  rcases Decidable.em ((sI a0) = 4) with c21 | c21
  · skip
    have h := h.1 c21
    refine w_tabIn (tgt := 105) hx hb rfl c21 dX7_behind_1 (by decide) (by decide) rfl (by decide) ?_
    refine lv_iload_n hx hb dX7_behind_105 rfl (lv_at hl 2 rfl) ?_
    refine z_bipush hx hb (by decide) dX7_behind_106 ?_
    refine w_callz (va_runS (As := [.int (iI a1), .int (iI 49)]) (rest := []) ⟨hx, hb, hml, hown, hts⟩ (cC_Splicer_isDigit l D dA b M a1 49 _ h) (va_cwS 2 hts (z_gS k297 k298 k2 k299) rfl rfl rfl dm_X7_isDigit.2 ⟨Nat.le_of_ble_eq_true rfl, Nat.le_of_ble_eq_true rfl⟩) ⟨wPre_blind, w_pre hS hK⟩ rfl rfl hl.1 rfl (lv_room (Nat.le_of_ble_eq_true rfl)) dX7_behind_108 ⟨Nat.le_refl _, Nat.le_refl _⟩) hS0 (fun z23 M22 H locs r24 h hS hS0 => ?_)
    obtain ⟨e25, h⟩ := h
    rw [e25] at hS
    refine w_if_eq (tgt := 118) hx hb (sI_01 r24) dX7_behind_111 (by decide) (fun c26 => ?_) (fun c26 => ?_)
    · skip
      have h := h.1 c26
      refine z_iconst hx hb dX7_behind_118 ?_
      exact w_iret hx hb hr hlocks hS hS0 (sI_of (by decide)) h dX7_behind_119
    · skip
      have h := h.2 c26
      refine z_iconst hx hb dX7_behind_114 ?_
      refine lv_goto (tgt := 119) hx hb dX7_behind_115 (by decide) ?_
      exact w_iret hx hb hr hlocks hS hS0 (sI_of (by decide)) h dX7_behind_119
  have h := h.2 c21
  rcases Decidable.em ((sI a0) = 5) with c27 | c27
  · skip
    have h := h.1 c27
    refine w_tabIn (tgt := 82) hx hb rfl c27 dX7_behind_1 (by decide) (by decide) rfl (by decide) ?_
    refine lv_iload_n hx hb dX7_behind_82 rfl (lv_at hl 2 rfl) ?_
    refine z_bipush hx hb (by decide) dX7_behind_83 ?_
    refine w_icmp_ne (tgt := 90) hx hb rfl (sI_of (by decide)) dX7_behind_85 (by decide) (fun c28 => ?_) (fun c28 => ?_)
    · skip
      have h := h.1 c28
      refine lv_iload_n hx hb dX7_behind_90 rfl (lv_at hl 2 rfl) ?_
      refine z_bipush hx hb (by decide) dX7_behind_91 ?_
      refine w_callz (va_runS (As := [.int (iI a1), .int (iI 49)]) (rest := []) ⟨hx, hb, hml, hown, hts⟩ (cC_Splicer_isDigit l D dA b M a1 49 _ h) (va_cwS 2 hts (z_gS k297 k298 k2 k299) rfl rfl rfl dm_X7_isDigit.2 ⟨Nat.le_of_ble_eq_true rfl, Nat.le_of_ble_eq_true rfl⟩) ⟨wPre_blind, w_pre hS hK⟩ rfl rfl hl.1 rfl (lv_room (Nat.le_of_ble_eq_true rfl)) dX7_behind_93 ⟨Nat.le_refl _, Nat.le_refl _⟩) hS0 (fun z30 M29 H locs r31 h hS hS0 => ?_)
      obtain ⟨e32, h⟩ := h
      rw [e32] at hS
      refine w_if_eq (tgt := 103) hx hb (sI_01 r31) dX7_behind_96 (by decide) (fun c33 => ?_) (fun c33 => ?_)
      · skip
        have h := h.1 c33
        refine z_iconst hx hb dX7_behind_103 ?_
        exact w_iret hx hb hr hlocks hS hS0 (sI_of (by decide)) h dX7_behind_104
      · skip
        have h := h.2 c33
        refine z_iconst hx hb dX7_behind_99 ?_
        refine lv_goto (tgt := 104) hx hb dX7_behind_100 (by decide) ?_
        exact w_iret hx hb hr hlocks hS hS0 (sI_of (by decide)) h dX7_behind_104
    · skip
      have h := h.2 c28
      refine z_iconst hx hb dX7_behind_88 ?_
      exact w_iret hx hb hr hlocks hS hS0 (sI_of (by decide)) h dX7_behind_89
  have h := h.2 c27
  refine w_tabOut (tgt := 105) hx hb rfl dX7_behind_1 (tb_0_5 _ c1 c5 c9 c15 c21 c27) (by decide) ?_
  refine lv_iload_n hx hb dX7_behind_105 rfl (lv_at hl 2 rfl) ?_
  refine z_bipush hx hb (by decide) dX7_behind_106 ?_
  refine w_callz (va_runS (As := [.int (iI a1), .int (iI 49)]) (rest := []) ⟨hx, hb, hml, hown, hts⟩ (cC_Splicer_isDigit l D dA b M a1 49 _ h) (va_cwS 2 hts (z_gS k297 k298 k2 k299) rfl rfl rfl dm_X7_isDigit.2 ⟨Nat.le_of_ble_eq_true rfl, Nat.le_of_ble_eq_true rfl⟩) ⟨wPre_blind, w_pre hS hK⟩ rfl rfl hl.1 rfl (lv_room (Nat.le_of_ble_eq_true rfl)) dX7_behind_108 ⟨Nat.le_refl _, Nat.le_refl _⟩) hS0 (fun z35 M34 H locs r36 h hS hS0 => ?_)
  obtain ⟨e37, h⟩ := h
  rw [e37] at hS
  refine w_if_eq (tgt := 118) hx hb (sI_01 r36) dX7_behind_111 (by decide) (fun c38 => ?_) (fun c38 => ?_)
  · skip
    have h := h.1 c38
    refine z_iconst hx hb dX7_behind_118 ?_
    exact w_iret hx hb hr hlocks hS hS0 (sI_of (by decide)) h dX7_behind_119
  · skip
    have h := h.2 c38
    refine z_iconst hx hb dX7_behind_114 ?_
    refine lv_goto (tgt := 119) hx hb dX7_behind_115 (by decide) ?_
    exact w_iret hx hb hr hlocks hS hS0 (sI_of (by decide)) h dX7_behind_119

set_option maxRecDepth 100000 in
def wC_Splicer_firstWrong  (M : zM) (Q : Int → zM → Prop) : Prop := (∀ M1 : zM, M1 = zup M 1 2 0 → wL2 (fun K9 x3 x4 M5 => pJ0 (fun J48 => ((sI (M5 1 1)) ≤ (sI x4) → J48) ∧ ((sI x4) < (sI (M5 1 1)) → (60 ≤ (sI x4) → J48) ∧ ((sI x4) < 60 → ((0 ≤ (sI x4) ∧ (sI x4) < 100) ∧ wC_Splicer_behind x3 (M5 2 (sI x4).toNat) M5 (fun z31 M30 => (z31 ≠ (-1) → K9 z31 (x4 + 1) M30) ∧ (z31 = (-1) → Q (sI x4) M30)))))) (((sI (M5 1 1)) ≤ 60 → ((sI x3) ≠ 1 → Q (sI (M5 1 1)) M5) ∧ ((sI x3) = 1 → ((sI (M5 1 2)) ≠ 0 → Q (sI (M5 1 1)) M5) ∧ ((sI (M5 1 2)) = 0 → Q (-1) M5))) ∧ (60 < (sI (M5 1 1)) → Q 60 M5))) 0 0 M1)
set_option maxHeartbeats 4000000 in
set_option maxRecDepth 100000 in
theorem cC_Splicer_firstWrong (l : Launch) (D : va_G) (dA : Nat → ClassId) (b : Nat) (M : zM)   (Q : Int → zM → Prop) (h : wC_Splicer_firstWrong  M Q) : Met l yX7_firstWrong (.code yX7_firstWrong cX7_firstWrong 3 (some .int) :: zt) (z_rm 4) (va_Pc [.ref (b + 1)] (wPre D dA vwCl (z_tys dA) wC nC b M)) (va_Qi (wQi Q) (zB D dA vwCl wC nC b) (zA nC b)) 0 0 (zA nC b) := by
  unfold wC_Splicer_firstWrong at h
  refine Met.ofW (cc := cX7_firstWrong) (maxL := 3) (ret := (some .int)) (by decide) rfl ?_
  intro p e s m args below meth c s₁ B hml hv
  obtain ⟨hargs, hS, hK⟩ := hv
  have hx := B.exec
  have hb := B.bytes
  have hr := B.returns
  have hts := atoms_spec (ws := .code yX7_firstWrong cX7_firstWrong 3 (some .int) :: zt) B.pre
  have hown : s.vm.findClass RX7 = some m.cls := findClass_of_methodNamed B.named
  have hlocks := B.notSynchronized
  have hS0 : va_S (zA nC b) s.heap s.heap [] := va_S.rf
  have hl := lv_entry ([.ref (b + 1)]) (n := 3) (Nat.le_of_ble_eq_true rfl)
  have hent : entryFrame m args 3 = F0 m 0 ((lg_sl ([.ref (b + 1)]) ++ List.replicate (3 - (lg_sl ([.ref (b + 1)])).length) Slot.unset).toArray) [] := by rw [hargs]; exact lg_entry_eq m ([.ref (b + 1)]) 3
  rw [hent]
  generalize (lg_sl ([.ref (b + 1)]) ++ List.replicate (3 - (lg_sl ([.ref (b + 1)])).length) Slot.unset).toArray = ls at hl ⊢
  have hl : lv_has ls 3 [(0, .ref (b + 1))] := hl
  refine z_iconst hx hb dX7_firstWrong_0 ?_
  refine lv_istore_n (lv' := [(1, .int (iI 0)), (0, .ref (b + 1))]) hx hb dX7_firstWrong_1 rfl hl (by decide) rfl (fun ls hl => ?_)
  refine lv_aload_n hx hb dX7_firstWrong_2 rfl (lv_at hl 1 rfl) ?_
  refine z_iconst hx hb dX7_firstWrong_3 ?_
  refine w_puti hx hb hts (z_memU u7) tyX7 tyX7_ok nmX7 hown hK.1 hS hS0 f7_2 (by decide) (zkd_of (rfl : zcd wC 1 = 1) rfl) (Or.inl (hts _ (z_mem k57))) rfl (z := 0) (by decide +kernel) dX7_firstWrong_4 (fun H locs hS hS0 => ?_)
  obtain ⟨M1, e2⟩ : ∃ M1 : zM, M1 = zup M 1 2 0 := ⟨_, rfl⟩
  rw [← e2] at hS
  have h := h M1 e2
  refine z_iconst hx hb dX7_firstWrong_7 ?_
  refine lv_istore_n (lv' := [(2, .int (iI 0)), (1, .int (iI 0)), (0, .ref (b + 1))]) hx hb dX7_firstWrong_8 rfl hl (by decide) rfl (fun ls hl => ?_)
  obtain ⟨I6, ⟨n7, h8⟩, h9⟩ := h
  have L10 : ∀ (n11 : Nat) (x3 x4 : Int) (M5 : zM) (H : Heap) (locs : List Loc) (ls : Array Slot), I6 n11 x3 x4 M5 → zR D dA vwCl wC nC b M5 H → va_S (zA nC b) s.heap H locs → lv_has ls 3 [(0, .ref (b + 1)), (1, .int (iI x3)), (2, .int (iI x4))] → W p l e (headSpec (.code yX7_firstWrong cX7_firstWrong 3 (some .int) :: zt) (z_rm 4)).room s m args below meth c H locs 0 0 (MQ below (va_Qi (wQi Q) (zB D dA vwCl wC nC b) (zA nC b)) args s 0 0 (zA nC b)) (F0 m 9 ls []) := by
    intro n11
    induction n11 using Nat.strongRecOn with
    | ind n11 i12 =>
      intro x3 x4 M5 H locs ls h hS hS0 hl
      have h := h9 n11 x3 x4 M5 h
      refine lv_iload_n hx hb dX7_firstWrong_9 rfl (lv_at hl 2 rfl) ?_
      refine lv_aload_n hx hb dX7_firstWrong_10 rfl (lv_at hl 0 rfl) ?_
      refine w_geti hx hb hts (z_memU u7) hown hK.1 hS f7_1 (by decide) (zkd_of (rfl : zcd wC 1 = 1) rfl) (Or.inl (hts _ (z_mem k55))) dX7_firstWrong_11 ?_
      obtain ⟨J48, B23, h⟩ := h
      have L22 : ∀ (H : Heap) (locs : List Loc) (ls : Array Slot), J48 → zR D dA vwCl wC nC b M5 H → va_S (zA nC b) s.heap H locs → lv_has ls 3 [(0, .ref (b + 1)), (1, .int (iI x3))] → W p l e (headSpec (.code yX7_firstWrong cX7_firstWrong 3 (some .int) :: zt) (z_rm 4)).room s m args below meth c H locs 0 0 (MQ below (va_Qi (wQi Q) (zB D dA vwCl wC nC b) (zA nC b)) args s 0 0 (zA nC b)) (F0 m 48 ls []) := by
        intro  H locs ls h hS hS0 hl
        have h := B23 h
        refine lv_aload_n hx hb dX7_firstWrong_48 rfl (lv_at hl 0 rfl) ?_
        refine w_geti hx hb hts (z_memU u7) hown hK.1 hS f7_1 (by decide) (zkd_of (rfl : zcd wC 1 = 1) rfl) (Or.inl (hts _ (z_mem k55))) dX7_firstWrong_49 ?_
        refine z_bipush hx hb (by decide) dX7_firstWrong_52 ?_
        refine w_icmp_le (tgt := 60) hx hb rfl (sI_of (by decide)) dX7_firstWrong_54 (by decide) (fun c24 => ?_) (fun c24 => ?_)
        · skip
          have h := h.1 c24
          refine lv_iload_n hx hb dX7_firstWrong_60 rfl (lv_at hl 1 rfl) ?_
          refine z_iconst hx hb dX7_firstWrong_61 ?_
          refine w_icmp_ne (tgt := 76) hx hb rfl (sI_of (by decide)) dX7_firstWrong_62 (by decide) (fun c25 => ?_) (fun c25 => ?_)
          · skip
            have h := h.1 c25
            refine lv_aload_n hx hb dX7_firstWrong_76 rfl (lv_at hl 0 rfl) ?_
            refine w_geti hx hb hts (z_memU u7) hown hK.1 hS f7_1 (by decide) (zkd_of (rfl : zcd wC 1 = 1) rfl) (Or.inl (hts _ (z_mem k55))) dX7_firstWrong_77 ?_
            exact w_iret hx hb hr hlocks hS hS0 rfl h dX7_firstWrong_80
          · skip
            have h := h.2 c25
            refine lv_aload_n hx hb dX7_firstWrong_65 rfl (lv_at hl 0 rfl) ?_
            refine w_geti hx hb hts (z_memU u7) hown hK.1 hS f7_2 (by decide) (zkd_of (rfl : zcd wC 1 = 1) rfl) (Or.inl (hts _ (z_mem k57))) dX7_firstWrong_66 ?_
            refine w_if_ne (tgt := 76) hx hb rfl dX7_firstWrong_69 (by decide) (fun c26 => ?_) (fun c26 => ?_)
            · skip
              have h := h.1 c26
              refine lv_aload_n hx hb dX7_firstWrong_76 rfl (lv_at hl 0 rfl) ?_
              refine w_geti hx hb hts (z_memU u7) hown hK.1 hS f7_1 (by decide) (zkd_of (rfl : zcd wC 1 = 1) rfl) (Or.inl (hts _ (z_mem k55))) dX7_firstWrong_77 ?_
              exact w_iret hx hb hr hlocks hS hS0 rfl h dX7_firstWrong_80
            · skip
              have h := h.2 c26
              refine z_iconst hx hb dX7_firstWrong_72 ?_
              refine lv_goto (tgt := 80) hx hb dX7_firstWrong_73 (by decide) ?_
              exact w_iret hx hb hr hlocks hS hS0 (sI_of (by decide)) h dX7_firstWrong_80
        · skip
          have h := h.2 c24
          refine z_bipush hx hb (by decide) dX7_firstWrong_57 ?_
          exact w_iret hx hb hr hlocks hS hS0 (sI_of (by decide)) h dX7_firstWrong_59
      refine w_icmp_ge (tgt := 48) hx hb rfl rfl dX7_firstWrong_14 (by decide) (fun c27 => ?_) (fun c27 => ?_)
      · skip
        have h := h.1 c27
        exact L22 _ _ _ h hS hS0 (lv_sub hl [0, 1] rfl)
      · skip
        have h := h.2 c27
        refine lv_iload_n hx hb dX7_firstWrong_17 rfl (lv_at hl 2 rfl) ?_
        refine z_bipush hx hb (by decide) dX7_firstWrong_18 ?_
        refine w_icmp_ge (tgt := 48) hx hb rfl (sI_of (by decide)) dX7_firstWrong_20 (by decide) (fun c28 => ?_) (fun c28 => ?_)
        · skip
          have h := h.1 c28
          exact L22 _ _ _ h hS hS0 (lv_sub hl [0, 1] rfl)
        · skip
          have h := h.2 c28
          refine lv_aload_n hx hb dX7_firstWrong_23 rfl (lv_at hl 0 rfl) ?_
          refine lv_iload_n hx hb dX7_firstWrong_24 rfl (lv_at hl 1 rfl) ?_
          refine lv_aload_n hx hb dX7_firstWrong_25 rfl (lv_at hl 0 rfl) ?_
          refine w_getr (j2 := 2) hx hb hts (z_memU u7) hown hK.1 hS f7_0 (by decide) (zkd_of (rfl : zcd wC 1 = 1) rfl) (zrf_of (rfl : zcd wC 1 = 1) rfl) (Or.inl (hts _ (z_mem k54))) dX7_firstWrong_26 ?_
          refine lv_iload_n hx hb dX7_firstWrong_29 rfl (lv_at hl 2 rfl) ?_
          obtain ⟨o29, h⟩ := h
          refine w_iald (n := 100) (i := (sI x4)) hx hb hK.1 (t0 := 0) rfl hS (by decide) (zkd_of (rfl : zcd wC 2 = 2) rfl) (zln_of (rfl : zcd wC 2 = 2) rfl) rfl o29.1 o29.2 (by decide) dX7_firstWrong_30 ?_
          refine w_calli (va_runV (As := [.int (iI x3), .int (iI (M5 2 (sI x4).toNat))]) (rest := []) ⟨hx, hb, hml, hown, hts⟩ (cC_Splicer_behind l D dA b M5 x3 (M5 2 (sI x4).toNat) _ h) (cwV 2 hts (z_gV k291 k292 k1351 k2 k293) rfl rfl rfl dm_X7_behind ⟨Nat.le_of_ble_eq_true rfl, Nat.le_of_ble_eq_true rfl⟩) ⟨wPre_blind, (w_recv hS hK.1 (by decide) (zkd_of (rfl : zcd wC 1 = 1) rfl) (by decide) (rfl : vwCl[7]? = some (RX7, TX7, 7))), w_pre hS hK⟩ rfl rfl hl.1 rfl (lv_room (Nat.le_of_ble_eq_true rfl)) dX7_firstWrong_31 ⟨Nat.le_refl _, Nat.le_refl _⟩) hS0 (fun z31 M30 H locs r32 h hS hS0 => ?_)
          refine lv_istore_n (lv' := [(1, .int (iI z31)), (0, .ref (b + 1)), (2, .int (iI x4))]) hx hb dX7_firstWrong_34 rfl hl (by decide) rfl (fun ls hl => ?_)
          refine lv_iload_n hx hb dX7_firstWrong_35 rfl (lv_at hl 0 rfl) ?_
          refine z_iconst hx hb dX7_firstWrong_36 ?_
          refine w_icmp_ne (tgt := 42) hx hb (sI_of r32) (sI_of (by decide)) dX7_firstWrong_37 (by decide) (fun c33 => ?_) (fun c33 => ?_)
          · skip
            have h := h.1 c33
            refine z_iinc (lv' := [(2, .int (iI (x4 + 1))), (1, .int (iI z31)), (0, .ref (b + 1))]) hx hb dX7_firstWrong_42 hl (k := 2) rfl (by decide) rfl (fun ls hl => ?_)
            refine lv_goto (tgt := 9) hx hb dX7_firstWrong_45 (by decide) ?_
            obtain ⟨n34, h35, h⟩ := h
            exact i12 n34 h35 z31 (x4 + 1) M30 _ _ _ h hS hS0 (lv_sub hl [2, 1, 0] rfl)
          · skip
            have h := h.2 c33
            refine lv_iload_n hx hb dX7_firstWrong_40 rfl (lv_at hl 2 rfl) ?_
            exact w_iret hx hb hr hlocks hS hS0 rfl h dX7_firstWrong_41
  exact L10 n7 0 0 M1 _ _ _ h8 hS hS0 (lv_sub hl [2, 1, 0] rfl)

set_option maxRecDepth 100000 in
def wC_Splicer_openRow  (M : zM) (Q : zM → Prop) : Prop := ((0 ≤ (sI (M 1 2)) ∧ (sI (M 1 2)) < 6) ∧ (∀ M6 : zM, M6 = zup M (6 + 4 * (sI (M 1 2)).toNat) 1 0 → ((0 ≤ (sI (M6 1 2)) ∧ (sI (M6 1 2)) < 6) ∧ (∀ M13 : zM, M13 = zup M6 (8 + 4 * (sI (M6 1 2)).toNat) 1 0 → ((0 ≤ (sI (M13 1 2)) ∧ (sI (M13 1 2)) < 6) ∧ (∀ M16 : zM, M16 = zup M13 5 (sI (M13 1 2)).toNat 0 → Q M16))))))
set_option maxHeartbeats 4000000 in
set_option maxRecDepth 100000 in
theorem cC_Splicer_openRow (l : Launch) (D : va_G) (dA : Nat → ClassId) (b : Nat) (M : zM)   (Q : zM → Prop) (h : wC_Splicer_openRow  M Q) : Met l yX7_openRow (.code yX7_openRow cX7_openRow 1 none :: zt) (z_rm 0) (va_Pc [.ref (b + 1)] (wPre D dA vwCl (z_tys dA) wC nC b M)) (va_Qv (wQv Q) (zB D dA vwCl wC nC b) (zA nC b)) 0 0 (zA nC b) := by
  unfold wC_Splicer_openRow at h
  refine Met.ofW (cc := cX7_openRow) (maxL := 1) (ret := none) (by decide) rfl ?_
  intro p e s m args below meth c s₁ B hml hv
  obtain ⟨hargs, hS, hK⟩ := hv
  have hx := B.exec
  have hb := B.bytes
  have hr := B.returns
  have hts := atoms_spec (ws := .code yX7_openRow cX7_openRow 1 none :: zt) B.pre
  have hown : s.vm.findClass RX7 = some m.cls := findClass_of_methodNamed B.named
  have hlocks := B.notSynchronized
  have hS0 : va_S (zA nC b) s.heap s.heap [] := va_S.rf
  have hl := lv_entry ([.ref (b + 1)]) (n := 1) (Nat.le_of_ble_eq_true rfl)
  have hent : entryFrame m args 1 = F0 m 0 ((lg_sl ([.ref (b + 1)]) ++ List.replicate (1 - (lg_sl ([.ref (b + 1)])).length) Slot.unset).toArray) [] := by rw [hargs]; exact lg_entry_eq m ([.ref (b + 1)]) 1
  rw [hent]
  generalize (lg_sl ([.ref (b + 1)]) ++ List.replicate (1 - (lg_sl ([.ref (b + 1)])).length) Slot.unset).toArray = ls at hl ⊢
  have hl : lv_has ls 1 [(0, .ref (b + 1))] := hl
  refine lv_aload_n hx hb dX7_openRow_0 rfl (lv_at hl 0 rfl) ?_
  refine w_getr (j2 := 3) hx hb hts (z_memU u7) hown hK.1 hS f7_4 (by decide) (zkd_of (rfl : zcd wC 1 = 1) rfl) (zrf_of (rfl : zcd wC 1 = 1) rfl) (Or.inl (hts _ (z_mem k59))) dX7_openRow_1 ?_
  refine lv_aload_n hx hb dX7_openRow_4 rfl (lv_at hl 0 rfl) ?_
  refine w_geti hx hb hts (z_memU u7) hown hK.1 hS f7_2 (by decide) (zkd_of (rfl : zcd wC 1 = 1) rfl) (Or.inl (hts _ (z_mem k57))) dX7_openRow_5 ?_
  obtain ⟨o1, h⟩ := h
  refine w_aald (n := 6) (i := (sI (M 1 2))) (j2 := (6 + 4 * (sI (M 1 2)).toNat)) hx hb hK.1 (t0 := 4) (r := 4) (by decide) rfl rfl hS (by decide) (zkd_of (rfl : zcd wC 3 = 3) rfl) (zln_of (rfl : zcd wC 3 = 3) rfl) rfl o1.1 o1.2 (by decide) (zrf_of (rfl : zcd wC 3 = 3) rfl) dX7_openRow_8 ?_
  obtain ⟨lt2, cd3⟩ : (6 + 4 * (sI (M 1 2)).toNat) < nC ∧ zcd wC (6 + 4 * (sI (M 1 2)).toNat) = 6 := (by decide : ∀ k : Nat, k < 6 → (6 + 4 * k) < nC ∧ zcd wC (6 + 4 * k) = 6) (sI (M 1 2)).toNat (by clear h; have h0 := o1.1; have h1 := o1.2; omega)
  obtain ⟨lt4, cd5⟩ := nx_strip (6 + 4 * (sI (M 1 2)).toNat) lt2 cd3
  refine z_iconst hx hb dX7_openRow_9 ?_
  refine w_puti hx hb hts (z_memU u8) tyX8 tyX8_ok nmX8 hown hK.1 hS hS0 f8_1 lt2 (zkd_of cd3 rfl) (Or.inl (hts _ (z_mem k46))) rfl (z := 0) (by decide +kernel) dX7_openRow_10 (fun H locs hS hS0 => ?_)
  obtain ⟨M6, e7⟩ : ∃ M6 : zM, M6 = zup M (6 + 4 * (sI (M 1 2)).toNat) 1 0 := ⟨_, rfl⟩
  rw [← e7] at hS
  have h := h M6 e7
  refine lv_aload_n hx hb dX7_openRow_13 rfl (lv_at hl 0 rfl) ?_
  refine w_getr (j2 := 4) hx hb hts (z_memU u7) hown hK.1 hS f7_5 (by decide) (zkd_of (rfl : zcd wC 1 = 1) rfl) (zrf_of (rfl : zcd wC 1 = 1) rfl) (Or.inl (hts _ (z_mem k60))) dX7_openRow_14 ?_
  refine lv_aload_n hx hb dX7_openRow_17 rfl (lv_at hl 0 rfl) ?_
  refine w_geti hx hb hts (z_memU u7) hown hK.1 hS f7_2 (by decide) (zkd_of (rfl : zcd wC 1 = 1) rfl) (Or.inl (hts _ (z_mem k57))) dX7_openRow_18 ?_
  obtain ⟨o8, h⟩ := h
  refine w_aald (n := 6) (i := (sI (M6 1 2))) (j2 := (8 + 4 * (sI (M6 1 2)).toNat)) hx hb hK.1 (t0 := 4) (r := 4) (by decide) rfl rfl hS (by decide) (zkd_of (rfl : zcd wC 4 = 4) rfl) (zln_of (rfl : zcd wC 4 = 4) rfl) rfl o8.1 o8.2 (by decide) (zrf_of (rfl : zcd wC 4 = 4) rfl) dX7_openRow_21 ?_
  obtain ⟨lt9, cd10⟩ : (8 + 4 * (sI (M6 1 2)).toNat) < nC ∧ zcd wC (8 + 4 * (sI (M6 1 2)).toNat) = 6 := (by decide : ∀ k : Nat, k < 6 → (8 + 4 * k) < nC ∧ zcd wC (8 + 4 * k) = 6) (sI (M6 1 2)).toNat (by clear h; have h0 := o8.1; have h1 := o8.2; omega)
  obtain ⟨lt11, cd12⟩ := nx_strip (8 + 4 * (sI (M6 1 2)).toNat) lt9 cd10
  refine z_iconst hx hb dX7_openRow_22 ?_
  refine w_puti hx hb hts (z_memU u8) tyX8 tyX8_ok nmX8 hown hK.1 hS hS0 f8_1 lt9 (zkd_of cd10 rfl) (Or.inl (hts _ (z_mem k46))) rfl (z := 0) (by decide +kernel) dX7_openRow_23 (fun H locs hS hS0 => ?_)
  obtain ⟨M13, e14⟩ : ∃ M13 : zM, M13 = zup M6 (8 + 4 * (sI (M6 1 2)).toNat) 1 0 := ⟨_, rfl⟩
  rw [← e14] at hS
  have h := h M13 e14
  refine lv_aload_n hx hb dX7_openRow_26 rfl (lv_at hl 0 rfl) ?_
  refine w_getr (j2 := 5) hx hb hts (z_memU u7) hown hK.1 hS f7_6 (by decide) (zkd_of (rfl : zcd wC 1 = 1) rfl) (zrf_of (rfl : zcd wC 1 = 1) rfl) (Or.inl (hts _ (z_mem k61))) dX7_openRow_27 ?_
  refine lv_aload_n hx hb dX7_openRow_30 rfl (lv_at hl 0 rfl) ?_
  refine w_geti hx hb hts (z_memU u7) hown hK.1 hS f7_2 (by decide) (zkd_of (rfl : zcd wC 1 = 1) rfl) (Or.inl (hts _ (z_mem k57))) dX7_openRow_31 ?_
  refine z_iconst hx hb dX7_openRow_34 ?_
  obtain ⟨o15, h⟩ := h
  refine w_iast (z := 0) (n := 6) (i := (sI (M13 1 2))) hx hb hK.1 (t0 := 0) rfl hS hS0 (by decide) (zkd_of (rfl : zcd wC 5 = 5) rfl) (zln_of (rfl : zcd wC 5 = 5) rfl) rfl o15.1 o15.2 (by decide) dX7_openRow_35 (fun H locs hS hS0 => ?_)
  obtain ⟨M16, e17⟩ : ∃ M16 : zM, M16 = zup M13 5 (sI (M13 1 2)).toNat 0 := ⟨_, rfl⟩
  rw [← e17] at hS
  have h := h M16 e17
  exact w_vret hx hb hr hlocks hS hS0 h dX7_openRow_36

set_option maxRecDepth 100000 in
def wC_Strip_repeat (j : Nat) (a0 : Int) (M : zM) (Q : zM → Prop) : Prop := wL1 (fun K20 x3 M4 => ((min (sI ((M j 1) * a0)) 24) ≤ (sI x3) → (∀ M13 : zM, M13 = zup M4 j 1 (min (sI ((M j 1) * a0)) 24) → Q M13)) ∧ ((sI x3) < (min (sI ((M j 1) * a0)) 24) → ((0 ≤ (sI (x3 - (M4 j 1))) ∧ (sI (x3 - (M4 j 1))) < 24) ∧ ((0 ≤ (sI x3) ∧ (sI x3) < 24) ∧ (∀ M17 : zM, M17 = zup M4 (j + 1) (sI x3).toNat (M4 (j + 1) (sI (x3 - (M4 j 1))).toNat) → K20 (x3 + 1) M17))))) (M j 1) M
set_option maxHeartbeats 4000000 in
set_option maxRecDepth 100000 in
theorem cC_Strip_repeat (l : Launch) (D : va_G) (dA : Nat → ClassId) (b : Nat) (M : zM) (j : Nat) (a0 : Int) (lt_j : j < nC) (cd_j : zcd wC j = 6) (Q : zM → Prop) (h : wC_Strip_repeat j a0 M Q) : Met l yX8_repeat (.code yX8_repeat cX8_repeat 4 none :: zt) (z_rm 1) (va_Pc [.ref (b + j), .int (iI a0)] (wPre D dA vwCl (z_tys dA) wC nC b M)) (va_Qv (wQv Q) (zB D dA vwCl wC nC b) (zA nC b)) 0 0 (zA nC b) := by
  unfold wC_Strip_repeat at h
  refine Met.ofW (cc := cX8_repeat) (maxL := 4) (ret := none) (by decide) rfl ?_
  intro p e s m args below meth c s₁ B hml hv
  obtain ⟨hargs, hS, hK⟩ := hv
  have hx := B.exec
  have hb := B.bytes
  have hr := B.returns
  have hts := atoms_spec (ws := .code yX8_repeat cX8_repeat 4 none :: zt) B.pre
  have hown : s.vm.findClass RX8 = some m.cls := findClass_of_methodNamed B.named
  have hlocks := B.notSynchronized
  have hS0 : va_S (zA nC b) s.heap s.heap [] := va_S.rf
  have hl := lv_entry ([.ref (b + j), .int (iI a0)]) (n := 4) (Nat.le_of_ble_eq_true rfl)
  have hent : entryFrame m args 4 = F0 m 0 ((lg_sl ([.ref (b + j), .int (iI a0)]) ++ List.replicate (4 - (lg_sl ([.ref (b + j), .int (iI a0)])).length) Slot.unset).toArray) [] := by rw [hargs]; exact lg_entry_eq m ([.ref (b + j), .int (iI a0)]) 4
  rw [hent]
  generalize (lg_sl ([.ref (b + j), .int (iI a0)]) ++ List.replicate (4 - (lg_sl ([.ref (b + j), .int (iI a0)])).length) Slot.unset).toArray = ls at hl ⊢
  have hl : lv_has ls 4 [(0, .ref (b + j)), (1, .int (iI a0))] := hl
  obtain ⟨lt1, cd2⟩ := nx_strip j lt_j cd_j
  refine lv_aload_n hx hb dX8_repeat_0 rfl (lv_at hl 0 rfl) ?_
  refine w_geti hx hb hts (z_memU u8) hown hK.1 hS f8_1 lt_j (zkd_of cd_j rfl) (Or.inl (hts _ (z_mem k44))) dX8_repeat_1 ?_
  refine lv_iload_n hx hb dX8_repeat_4 rfl (lv_at hl 1 rfl) ?_
  refine z_imul hx hb dX8_repeat_5 ?_
  refine lv_aload_n hx hb dX8_repeat_6 rfl (lv_at hl 0 rfl) ?_
  refine w_getr (j2 := (j + 1)) hx hb hts (z_memU u8) hown hK.1 hS f8_0 lt_j (zkd_of cd_j rfl) (zrf_of cd_j rfl) (Or.inl (hts _ (z_mem k41))) dX8_repeat_7 ?_
  refine w_alen (n := 24) hx hb hK.1 (t0 := 0) rfl hS lt1 (zkd_of cd2 rfl) (zln_of cd2 rfl) dX8_repeat_10 ?_
  refine z_top (show (((24 : Nat) : Int)) = 24 from by decide) ?_
  refine w_mmin hx hb (hml.trans hl.1.symm) hown (hts _ (z_mem k319)) (hts _ (z_mem k320)) (hts _ (z_mem k15)) (hts _ (z_mem k321)) (by exact Nat.le_of_ble_eq_true rfl) (by exact Nat.le_of_ble_eq_true rfl) (by exact Nat.le_refl _) (by exact Nat.le_refl _) rfl (sI_of (by decide)) dX8_repeat_11 ?_
  refine lv_istore_n (lv' := [(2, .int (iI (min (sI ((M j 1) * a0)) 24))), (0, .ref (b + j)), (1, .int (iI a0))]) hx hb dX8_repeat_14 rfl hl (by decide) rfl (fun ls hl => ?_)
  refine lv_aload_n hx hb dX8_repeat_15 rfl (lv_at hl 1 rfl) ?_
  refine w_geti hx hb hts (z_memU u8) hown hK.1 hS f8_1 lt_j (zkd_of cd_j rfl) (Or.inl (hts _ (z_mem k44))) dX8_repeat_16 ?_
  refine lv_istore_n (lv' := [(3, .int (iI (M j 1))), (2, .int (iI (min (sI ((M j 1) * a0)) 24))), (0, .ref (b + j)), (1, .int (iI a0))]) hx hb dX8_repeat_19 rfl hl (by decide) rfl (fun ls hl => ?_)
  obtain ⟨I5, ⟨n6, h7⟩, h8⟩ := h
  have L9 : ∀ (n10 : Nat) (x3 : Int) (M4 : zM) (H : Heap) (locs : List Loc) (ls : Array Slot), I5 n10 x3 M4 → zR D dA vwCl wC nC b M4 H → va_S (zA nC b) s.heap H locs → lv_has ls 4 [(0, .ref (b + j)), (2, .int (iI (min (sI ((M j 1) * a0)) 24))), (3, .int (iI x3))] → W p l e (headSpec (.code yX8_repeat cX8_repeat 4 none :: zt) (z_rm 1)).room s m args below meth c H locs 0 0 (MQ below (va_Qv (wQv Q) (zB D dA vwCl wC nC b) (zA nC b)) args s 0 0 (zA nC b)) (F0 m 20 ls []) := by
    intro n10
    induction n10 using Nat.strongRecOn with
    | ind n10 i11 =>
      intro x3 M4 H locs ls h hS hS0 hl
      have h := h8 n10 x3 M4 h
      refine lv_iload_n hx hb dX8_repeat_20 rfl (lv_at hl 2 rfl) ?_
      refine lv_iload_n hx hb dX8_repeat_21 rfl (lv_at hl 1 rfl) ?_
      refine w_icmp_ge (tgt := 48) hx hb rfl (sI_of (R_min (sI_c (x := ((M j 1) * a0)) rfl) (sI_c (x := 24) (sI_of (by decide))))) dX8_repeat_22 (by decide) (fun c12 => ?_) (fun c12 => ?_)
      · skip
        have h := h.1 c12
        refine lv_aload_n hx hb dX8_repeat_48 rfl (lv_at hl 0 rfl) ?_
        refine lv_iload_n hx hb dX8_repeat_49 rfl (lv_at hl 1 rfl) ?_
        refine w_puti hx hb hts (z_memU u8) tyX8 tyX8_ok nmX8 hown hK.1 hS hS0 f8_1 lt_j (zkd_of cd_j rfl) (Or.inl (hts _ (z_mem k44))) rfl (z := (min (sI ((M j 1) * a0)) 24)) (by decide +kernel) dX8_repeat_50 (fun H locs hS hS0 => ?_)
        obtain ⟨M13, e14⟩ : ∃ M13 : zM, M13 = zup M4 j 1 (min (sI ((M j 1) * a0)) 24) := ⟨_, rfl⟩
        rw [← e14] at hS
        have h := h M13 e14
        exact w_vret hx hb hr hlocks hS hS0 h dX8_repeat_53
      · skip
        have h := h.2 c12
        refine lv_aload_n hx hb dX8_repeat_25 rfl (lv_at hl 0 rfl) ?_
        refine w_getr (j2 := (j + 1)) hx hb hts (z_memU u8) hown hK.1 hS f8_0 lt_j (zkd_of cd_j rfl) (zrf_of cd_j rfl) (Or.inl (hts _ (z_mem k41))) dX8_repeat_26 ?_
        refine lv_iload_n hx hb dX8_repeat_29 rfl (lv_at hl 2 rfl) ?_
        refine lv_aload_n hx hb dX8_repeat_30 rfl (lv_at hl 0 rfl) ?_
        refine w_getr (j2 := (j + 1)) hx hb hts (z_memU u8) hown hK.1 hS f8_0 lt_j (zkd_of cd_j rfl) (zrf_of cd_j rfl) (Or.inl (hts _ (z_mem k41))) dX8_repeat_31 ?_
        refine lv_iload_n hx hb dX8_repeat_34 rfl (lv_at hl 2 rfl) ?_
        refine lv_aload_n hx hb dX8_repeat_35 rfl (lv_at hl 0 rfl) ?_
        refine w_geti hx hb hts (z_memU u8) hown hK.1 hS f8_1 lt_j (zkd_of cd_j rfl) (Or.inl (hts _ (z_mem k44))) dX8_repeat_36 ?_
        refine z_isub hx hb dX8_repeat_39 ?_
        obtain ⟨o15, h⟩ := h
        refine w_iald (n := 24) (i := (sI (x3 - (M4 j 1)))) hx hb hK.1 (t0 := 0) rfl hS lt1 (zkd_of cd2 rfl) (zln_of cd2 rfl) rfl o15.1 o15.2 (by decide) dX8_repeat_40 ?_
        obtain ⟨o16, h⟩ := h
        refine w_iast (z := (M4 (j + 1) (sI (x3 - (M4 j 1))).toNat)) (n := 24) (i := (sI x3)) hx hb hK.1 (t0 := 0) rfl hS hS0 lt1 (zkd_of cd2 rfl) (zln_of cd2 rfl) rfl o16.1 o16.2 (by decide) dX8_repeat_41 (fun H locs hS hS0 => ?_)
        obtain ⟨M17, e18⟩ : ∃ M17 : zM, M17 = zup M4 (j + 1) (sI x3).toNat (M4 (j + 1) (sI (x3 - (M4 j 1))).toNat) := ⟨_, rfl⟩
        rw [← e18] at hS
        have h := h M17 e18
        refine z_iinc (lv' := [(3, .int (iI (x3 + 1))), (0, .ref (b + j)), (2, .int (iI (min (sI ((M j 1) * a0)) 24)))]) hx hb dX8_repeat_42 hl (k := 2) rfl (by decide) rfl (fun ls hl => ?_)
        refine lv_goto (tgt := 20) hx hb dX8_repeat_45 (by decide) ?_
        obtain ⟨n19, h20, h⟩ := h
        exact i11 n19 h20 (x3 + 1) M17 _ _ _ h hS hS0 (lv_sub hl [1, 2, 0] rfl)
  exact L9 n6 (M j 1) M _ _ _ h7 hS hS0 (lv_sub hl [2, 1, 0] rfl)

set_option maxRecDepth 100000 in
def wC_Splicer_repeatTerm (a0 : Int) (M : zM) (Q : Int → zM → Prop) : Prop := ((0 ≤ (sI (M 1 2)) ∧ (sI (M 1 2)) < 6) ∧ ((sI ((M (8 + 4 * (sI (M 1 2)).toNat) 1) * a0)) ≤ 24 → ((0 ≤ (sI (M 1 2)) ∧ (sI (M 1 2)) < 6) ∧ wC_Strip_repeat (8 + 4 * (sI (M 1 2)).toNat) a0 M (fun M12 => Q 0 M12))) ∧ (24 < (sI ((M (8 + 4 * (sI (M 1 2)).toNat) 1) * a0)) → Q (-100) M))
set_option maxHeartbeats 4000000 in
set_option maxRecDepth 100000 in
theorem cC_Splicer_repeatTerm (l : Launch) (D : va_G) (dA : Nat → ClassId) (b : Nat) (M : zM) (a0 : Int)  (Q : Int → zM → Prop) (h : wC_Splicer_repeatTerm a0 M Q) : Met l yX7_repeatTerm (.code yX7_repeatTerm cX7_repeatTerm 2 (some .int) :: zt) (z_rm 2) (va_Pc [.ref (b + 1), .int (iI a0)] (wPre D dA vwCl (z_tys dA) wC nC b M)) (va_Qi (wQi Q) (zB D dA vwCl wC nC b) (zA nC b)) 0 0 (zA nC b) := by
  unfold wC_Splicer_repeatTerm at h
  refine Met.ofW (cc := cX7_repeatTerm) (maxL := 2) (ret := (some .int)) (by decide) rfl ?_
  intro p e s m args below meth c s₁ B hml hv
  obtain ⟨hargs, hS, hK⟩ := hv
  have hx := B.exec
  have hb := B.bytes
  have hr := B.returns
  have hts := atoms_spec (ws := .code yX7_repeatTerm cX7_repeatTerm 2 (some .int) :: zt) B.pre
  have hown : s.vm.findClass RX7 = some m.cls := findClass_of_methodNamed B.named
  have hlocks := B.notSynchronized
  have hS0 : va_S (zA nC b) s.heap s.heap [] := va_S.rf
  have hl := lv_entry ([.ref (b + 1), .int (iI a0)]) (n := 2) (Nat.le_of_ble_eq_true rfl)
  have hent : entryFrame m args 2 = F0 m 0 ((lg_sl ([.ref (b + 1), .int (iI a0)]) ++ List.replicate (2 - (lg_sl ([.ref (b + 1), .int (iI a0)])).length) Slot.unset).toArray) [] := by rw [hargs]; exact lg_entry_eq m ([.ref (b + 1), .int (iI a0)]) 2
  rw [hent]
  generalize (lg_sl ([.ref (b + 1), .int (iI a0)]) ++ List.replicate (2 - (lg_sl ([.ref (b + 1), .int (iI a0)])).length) Slot.unset).toArray = ls at hl ⊢
  have hl : lv_has ls 2 [(0, .ref (b + 1)), (1, .int (iI a0))] := hl
  refine lv_aload_n hx hb dX7_repeatTerm_0 rfl (lv_at hl 0 rfl) ?_
  refine w_getr (j2 := 4) hx hb hts (z_memU u7) hown hK.1 hS f7_5 (by decide) (zkd_of (rfl : zcd wC 1 = 1) rfl) (zrf_of (rfl : zcd wC 1 = 1) rfl) (Or.inl (hts _ (z_mem k60))) dX7_repeatTerm_1 ?_
  refine lv_aload_n hx hb dX7_repeatTerm_4 rfl (lv_at hl 0 rfl) ?_
  refine w_geti hx hb hts (z_memU u7) hown hK.1 hS f7_2 (by decide) (zkd_of (rfl : zcd wC 1 = 1) rfl) (Or.inl (hts _ (z_mem k57))) dX7_repeatTerm_5 ?_
  obtain ⟨o1, h⟩ := h
  refine w_aald (n := 6) (i := (sI (M 1 2))) (j2 := (8 + 4 * (sI (M 1 2)).toNat)) hx hb hK.1 (t0 := 4) (r := 4) (by decide) rfl rfl hS (by decide) (zkd_of (rfl : zcd wC 4 = 4) rfl) (zln_of (rfl : zcd wC 4 = 4) rfl) rfl o1.1 o1.2 (by decide) (zrf_of (rfl : zcd wC 4 = 4) rfl) dX7_repeatTerm_8 ?_
  obtain ⟨lt2, cd3⟩ : (8 + 4 * (sI (M 1 2)).toNat) < nC ∧ zcd wC (8 + 4 * (sI (M 1 2)).toNat) = 6 := (by decide : ∀ k : Nat, k < 6 → (8 + 4 * k) < nC ∧ zcd wC (8 + 4 * k) = 6) (sI (M 1 2)).toNat (by clear h; have h0 := o1.1; have h1 := o1.2; omega)
  obtain ⟨lt4, cd5⟩ := nx_strip (8 + 4 * (sI (M 1 2)).toNat) lt2 cd3
  refine w_geti hx hb hts (z_memU u8) hown hK.1 hS f8_1 lt2 (zkd_of cd3 rfl) (Or.inl (hts _ (z_mem k46))) dX7_repeatTerm_9 ?_
  refine lv_iload_n hx hb dX7_repeatTerm_12 rfl (lv_at hl 1 rfl) ?_
  refine z_imul hx hb dX7_repeatTerm_13 ?_
  refine z_bipush hx hb (by decide) dX7_repeatTerm_14 ?_
  refine w_icmp_le (tgt := 22) hx hb rfl (sI_of (by decide)) dX7_repeatTerm_16 (by decide) (fun c6 => ?_) (fun c6 => ?_)
  · skip
    have h := h.1 c6
    refine lv_aload_n hx hb dX7_repeatTerm_22 rfl (lv_at hl 0 rfl) ?_
    refine w_getr (j2 := 4) hx hb hts (z_memU u7) hown hK.1 hS f7_5 (by decide) (zkd_of (rfl : zcd wC 1 = 1) rfl) (zrf_of (rfl : zcd wC 1 = 1) rfl) (Or.inl (hts _ (z_mem k60))) dX7_repeatTerm_23 ?_
    refine lv_aload_n hx hb dX7_repeatTerm_26 rfl (lv_at hl 0 rfl) ?_
    refine w_geti hx hb hts (z_memU u7) hown hK.1 hS f7_2 (by decide) (zkd_of (rfl : zcd wC 1 = 1) rfl) (Or.inl (hts _ (z_mem k57))) dX7_repeatTerm_27 ?_
    obtain ⟨o7, h⟩ := h
    refine w_aald (n := 6) (i := (sI (M 1 2))) (j2 := (8 + 4 * (sI (M 1 2)).toNat)) hx hb hK.1 (t0 := 4) (r := 4) (by decide) rfl rfl hS (by decide) (zkd_of (rfl : zcd wC 4 = 4) rfl) (zln_of (rfl : zcd wC 4 = 4) rfl) rfl o7.1 o7.2 (by decide) (zrf_of (rfl : zcd wC 4 = 4) rfl) dX7_repeatTerm_30 ?_
    obtain ⟨lt8, cd9⟩ : (8 + 4 * (sI (M 1 2)).toNat) < nC ∧ zcd wC (8 + 4 * (sI (M 1 2)).toNat) = 6 := (by decide : ∀ k : Nat, k < 6 → (8 + 4 * k) < nC ∧ zcd wC (8 + 4 * k) = 6) (sI (M 1 2)).toNat (by clear h; have h0 := o7.1; have h1 := o7.2; omega)
    obtain ⟨lt10, cd11⟩ := nx_strip (8 + 4 * (sI (M 1 2)).toNat) lt8 cd9
    refine lv_iload_n hx hb dX7_repeatTerm_31 rfl (lv_at hl 1 rfl) ?_
    refine w_callv (va_runV (As := [.int (iI a0)]) (rest := []) ⟨hx, hb, hml, hown, hts⟩ (cC_Strip_repeat l D dA b M (8 + 4 * (sI (M 1 2)).toNat) a0 lt8 cd9 _ h) (cwV 1 hts (z_gV k315 k316 k317 k3 k318) rfl rfl rfl dm_X8_repeat ⟨Nat.le_of_ble_eq_true rfl, Nat.le_of_ble_eq_true rfl⟩) ⟨wPre_blind, (w_recv hS hK.1 lt8 (zkd_of cd9 rfl) (by decide) (rfl : vwCl[8]? = some (RX8, TX8, 2))), w_pre hS hK⟩ rfl rfl hl.1 rfl (lv_room (Nat.le_of_ble_eq_true rfl)) dX7_repeatTerm_32 ⟨Nat.le_refl _, Nat.le_refl _⟩) hS0 (fun M12 H locs h hS hS0 => ?_)
    refine z_iconst hx hb dX7_repeatTerm_35 ?_
    exact w_iret hx hb hr hlocks hS hS0 (sI_of (by decide)) h dX7_repeatTerm_36
  · skip
    have h := h.2 c6
    refine z_bipush hx hb (by decide) dX7_repeatTerm_19 ?_
    exact w_iret hx hb hr hlocks hS hS0 (sI_of (by decide)) h dX7_repeatTerm_21

set_option maxRecDepth 100000 in
def wC_Strip_has (j : Nat) (a0 : Int) (M : zM) (Q : Int → Prop) : Prop := ((sI a0) < 0 → Q 0) ∧ (0 ≤ (sI a0) → ((sI (M j 1)) ≤ (sI a0) → Q 0) ∧ ((sI a0) < (sI (M j 1)) → (24 ≤ (sI a0) → Q 0) ∧ ((sI a0) < 24 → Q 1)))
set_option maxHeartbeats 4000000 in
set_option maxRecDepth 100000 in
theorem cC_Strip_has (l : Launch) (D : va_G) (dA : Nat → ClassId) (b : Nat) (M : zM) (j : Nat) (a0 : Int) (lt_j : j < nC) (cd_j : zcd wC j = 6) (Q : Int → Prop) (h : wC_Strip_has j a0 M Q) : Met l yX8_has (.code yX8_has cX8_has 2 (some .boolean) :: zt) (z_rm 0) (va_Pc [.ref (b + j), .int (iI a0)] (wPre D dA vwCl (z_tys dA) wC nC b M)) (va_Qi (wQz (fun z9 u9 => u9 = M ∧ Q z9)) (zB D dA vwCl wC nC b) (zA nC b)) 0 0 (zA nC b) := by
  unfold wC_Strip_has at h
  refine Met.ofW (cc := cX8_has) (maxL := 2) (ret := (some .boolean)) (by decide) rfl ?_
  intro p e s m args below meth c s₁ B hml hv
  obtain ⟨hargs, hS, hK⟩ := hv
  have hx := B.exec
  have hb := B.bytes
  have hr := B.returns
  have hts := atoms_spec (ws := .code yX8_has cX8_has 2 (some .boolean) :: zt) B.pre
  have hown : s.vm.findClass RX8 = some m.cls := findClass_of_methodNamed B.named
  have hlocks := B.notSynchronized
  have hS0 : va_S (zA nC b) s.heap s.heap [] := va_S.rf
  have hl := lv_entry ([.ref (b + j), .int (iI a0)]) (n := 2) (Nat.le_of_ble_eq_true rfl)
  have hent : entryFrame m args 2 = F0 m 0 ((lg_sl ([.ref (b + j), .int (iI a0)]) ++ List.replicate (2 - (lg_sl ([.ref (b + j), .int (iI a0)])).length) Slot.unset).toArray) [] := by rw [hargs]; exact lg_entry_eq m ([.ref (b + j), .int (iI a0)]) 2
  rw [hent]
  generalize (lg_sl ([.ref (b + j), .int (iI a0)]) ++ List.replicate (2 - (lg_sl ([.ref (b + j), .int (iI a0)])).length) Slot.unset).toArray = ls at hl ⊢
  have hl : lv_has ls 2 [(0, .ref (b + j)), (1, .int (iI a0))] := hl
  obtain ⟨lt1, cd2⟩ := nx_strip j lt_j cd_j
  refine lv_iload_n hx hb dX8_has_0 rfl (lv_at hl 1 rfl) ?_
  refine w_if_lt (tgt := 25) hx hb rfl dX8_has_1 (by decide) (fun c3 => ?_) (fun c3 => ?_)
  · skip
    have h := h.1 c3
    refine z_iconst hx hb dX8_has_25 ?_
    exact w_zret hx hb hr hlocks hS hS0 (sI_of (by decide)) (by decide) ⟨rfl, h⟩ dX8_has_26
  · skip
    have h := h.2 c3
    refine lv_iload_n hx hb dX8_has_4 rfl (lv_at hl 1 rfl) ?_
    refine lv_aload_n hx hb dX8_has_5 rfl (lv_at hl 0 rfl) ?_
    refine w_geti hx hb hts (z_memU u8) hown hK.1 hS f8_1 lt_j (zkd_of cd_j rfl) (Or.inl (hts _ (z_mem k44))) dX8_has_6 ?_
    refine w_icmp_ge (tgt := 25) hx hb rfl rfl dX8_has_9 (by decide) (fun c4 => ?_) (fun c4 => ?_)
    · skip
      have h := h.1 c4
      refine z_iconst hx hb dX8_has_25 ?_
      exact w_zret hx hb hr hlocks hS hS0 (sI_of (by decide)) (by decide) ⟨rfl, h⟩ dX8_has_26
    · skip
      have h := h.2 c4
      refine lv_iload_n hx hb dX8_has_12 rfl (lv_at hl 1 rfl) ?_
      refine lv_aload_n hx hb dX8_has_13 rfl (lv_at hl 0 rfl) ?_
      refine w_getr (j2 := (j + 1)) hx hb hts (z_memU u8) hown hK.1 hS f8_0 lt_j (zkd_of cd_j rfl) (zrf_of cd_j rfl) (Or.inl (hts _ (z_mem k41))) dX8_has_14 ?_
      refine w_alen (n := 24) hx hb hK.1 (t0 := 0) rfl hS lt1 (zkd_of cd2 rfl) (zln_of cd2 rfl) dX8_has_17 ?_
      refine z_top (show (((24 : Nat) : Int)) = 24 from by decide) ?_
      refine w_icmp_ge (tgt := 25) hx hb rfl (sI_of (by decide)) dX8_has_18 (by decide) (fun c5 => ?_) (fun c5 => ?_)
      · skip
        have h := h.1 c5
        refine z_iconst hx hb dX8_has_25 ?_
        exact w_zret hx hb hr hlocks hS hS0 (sI_of (by decide)) (by decide) ⟨rfl, h⟩ dX8_has_26
      · skip
        have h := h.2 c5
        refine z_iconst hx hb dX8_has_21 ?_
        refine lv_goto (tgt := 26) hx hb dX8_has_22 (by decide) ?_
        exact w_zret hx hb hr hlocks hS hS0 (sI_of (by decide)) (by decide) ⟨rfl, h⟩ dX8_has_26
end zz10_w00
section zz10_w01
/-! the W layer, 1 -/
theorem q10w01_0_0 : (cX7_beginTerm.data.toList.drop 0).take 24 = [42, 182, 0, 76, 61, 28, 154, 0, 16, 42, 180, 0, 31, 42, 180, 0, 19, 50, 27, 182, 0, 98, 28, 172] := by decide +kernel
theorem dX7_beginTerm_0 : decode cX7_beginTerm 0 = .ok (.aload_n 0, 1) := dz_42 (dz_at q10w01_0_0 0)
theorem dX7_beginTerm_1 : decode cX7_beginTerm 1 = .ok (.invokevirtual 76, 3) := dz_182 (dz_at q10w01_0_0 1) rfl
theorem dX7_beginTerm_10 : decode cX7_beginTerm 10 = .ok (.getfield 31, 3) := dz_180 (dz_at q10w01_0_0 10) rfl
theorem dX7_beginTerm_13 : decode cX7_beginTerm 13 = .ok (.aload_n 0, 1) := dz_42 (dz_at q10w01_0_0 13)
theorem dX7_beginTerm_14 : decode cX7_beginTerm 14 = .ok (.getfield 19, 3) := dz_180 (dz_at q10w01_0_0 14) rfl
theorem dX7_beginTerm_17 : decode cX7_beginTerm 17 = .ok (.aaload, 1) := dz_50 (dz_at q10w01_0_0 17)
theorem dX7_beginTerm_18 : decode cX7_beginTerm 18 = .ok (.iload_n 1, 1) := dz_27 (dz_at q10w01_0_0 18)
theorem dX7_beginTerm_19 : decode cX7_beginTerm 19 = .ok (.invokevirtual 98, 3) := dz_182 (dz_at q10w01_0_0 19) rfl
theorem dX7_beginTerm_22 : decode cX7_beginTerm 22 = .ok (.iload_n 2, 1) := dz_28 (dz_at q10w01_0_0 22)
theorem dX7_beginTerm_23 : decode cX7_beginTerm 23 = .ok (.ireturn, 1) := dz_172 (dz_at q10w01_0_0 23)
theorem dX7_beginTerm_4 : decode cX7_beginTerm 4 = .ok (.istore_n 2, 1) := dz_61 (dz_at q10w01_0_0 4)
theorem dX7_beginTerm_5 : decode cX7_beginTerm 5 = .ok (.iload_n 2, 1) := dz_28 (dz_at q10w01_0_0 5)
theorem dX7_beginTerm_6 : decode cX7_beginTerm 6 = .ok (.ifCond .ne 16, 3) := dz_154 (dz_at q10w01_0_0 6) (by decide +kernel)
theorem dX7_beginTerm_9 : decode cX7_beginTerm 9 = .ok (.aload_n 0, 1) := dz_42 (dz_at q10w01_0_0 9)
theorem q10w01_1_0 : (cX7_close.data.toList.drop 0).take 23 = [42, 182, 0, 76, 60, 27, 154, 0, 43, 42, 180, 0, 19, 158, 0, 36, 42, 89, 180, 0, 19, 4, 100] := by decide +kernel
theorem q10w01_1_23 : (cX7_close.data.toList.drop 23).take 23 = [181, 0, 19, 42, 180, 0, 31, 42, 180, 0, 19, 50, 42, 180, 0, 27, 42, 180, 0, 19, 4, 96, 50] := by decide +kernel
theorem q10w01_1_46 : (cX7_close.data.toList.drop 46).take 5 = [182, 0, 45, 27, 172] := by decide +kernel
theorem dX7_close_0 : decode cX7_close 0 = .ok (.aload_n 0, 1) := dz_42 (dz_at q10w01_1_0 0)
theorem dX7_close_1 : decode cX7_close 1 = .ok (.invokevirtual 76, 3) := dz_182 (dz_at q10w01_1_0 1) rfl
theorem dX7_close_10 : decode cX7_close 10 = .ok (.getfield 19, 3) := dz_180 (dz_at q10w01_1_0 10) rfl
theorem dX7_close_13 : decode cX7_close 13 = .ok (.ifCond .le 36, 3) := dz_158 (dz_at q10w01_1_0 13) (by decide +kernel)
theorem dX7_close_16 : decode cX7_close 16 = .ok (.aload_n 0, 1) := dz_42 (dz_at q10w01_1_0 16)
theorem dX7_close_17 : decode cX7_close 17 = .ok (.dup, 1) := dz_89 (dz_at q10w01_1_0 17)
theorem dX7_close_18 : decode cX7_close 18 = .ok (.getfield 19, 3) := dz_180 (dz_at q10w01_1_0 18) rfl
theorem dX7_close_21 : decode cX7_close 21 = .ok (.iconst 1, 1) := dz_4 (dz_at q10w01_1_0 21)
theorem dX7_close_22 : decode cX7_close 22 = .ok (.isub, 1) := dz_100 (dz_at q10w01_1_0 22)
theorem dX7_close_23 : decode cX7_close 23 = .ok (.putfield 19, 3) := dz_181 (dz_at q10w01_1_23 0) rfl
theorem dX7_close_26 : decode cX7_close 26 = .ok (.aload_n 0, 1) := dz_42 (dz_at q10w01_1_23 3)
theorem dX7_close_27 : decode cX7_close 27 = .ok (.getfield 31, 3) := dz_180 (dz_at q10w01_1_23 4) rfl
theorem dX7_close_30 : decode cX7_close 30 = .ok (.aload_n 0, 1) := dz_42 (dz_at q10w01_1_23 7)
theorem dX7_close_31 : decode cX7_close 31 = .ok (.getfield 19, 3) := dz_180 (dz_at q10w01_1_23 8) rfl
theorem dX7_close_34 : decode cX7_close 34 = .ok (.aaload, 1) := dz_50 (dz_at q10w01_1_23 11)
theorem dX7_close_35 : decode cX7_close 35 = .ok (.aload_n 0, 1) := dz_42 (dz_at q10w01_1_23 12)
theorem dX7_close_36 : decode cX7_close 36 = .ok (.getfield 27, 3) := dz_180 (dz_at q10w01_1_23 13) rfl
theorem dX7_close_39 : decode cX7_close 39 = .ok (.aload_n 0, 1) := dz_42 (dz_at q10w01_1_23 16)
theorem dX7_close_4 : decode cX7_close 4 = .ok (.istore_n 1, 1) := dz_60 (dz_at q10w01_1_0 4)
theorem dX7_close_40 : decode cX7_close 40 = .ok (.getfield 19, 3) := dz_180 (dz_at q10w01_1_23 17) rfl
theorem dX7_close_43 : decode cX7_close 43 = .ok (.iconst 1, 1) := dz_4 (dz_at q10w01_1_23 20)
theorem dX7_close_44 : decode cX7_close 44 = .ok (.iadd, 1) := dz_96 (dz_at q10w01_1_23 21)
theorem dX7_close_45 : decode cX7_close 45 = .ok (.aaload, 1) := dz_50 (dz_at q10w01_1_23 22)
theorem dX7_close_46 : decode cX7_close 46 = .ok (.invokevirtual 45, 3) := dz_182 (dz_at q10w01_1_46 0) rfl
theorem dX7_close_49 : decode cX7_close 49 = .ok (.iload_n 1, 1) := dz_27 (dz_at q10w01_1_46 3)
theorem dX7_close_5 : decode cX7_close 5 = .ok (.iload_n 1, 1) := dz_27 (dz_at q10w01_1_0 5)
theorem dX7_close_50 : decode cX7_close 50 = .ok (.ireturn, 1) := dz_172 (dz_at q10w01_1_46 4)
theorem dX7_close_6 : decode cX7_close 6 = .ok (.ifCond .ne 43, 3) := dz_154 (dz_at q10w01_1_0 6) (by decide +kernel)
theorem dX7_close_9 : decode cX7_close 9 = .ok (.aload_n 0, 1) := dz_42 (dz_at q10w01_1_0 9)
theorem q10w01_2_0 : (cX7_layTerm.data.toList.drop 0).take 24 = [42, 180, 0, 27, 42, 180, 0, 19, 50, 76, 42, 180, 0, 31, 42, 180, 0, 19, 50, 77, 44, 180, 0, 49] := by decide +kernel
theorem q10w01_2_24 : (cX7_layTerm.data.toList.drop 24).take 23 = [154, 0, 5, 3, 172, 42, 180, 0, 34, 42, 180, 0, 19, 46, 62, 29, 44, 180, 0, 49, 164, 0, 6] := by decide +kernel
theorem q10w01_2_47 : (cX7_layTerm.data.toList.drop 47).take 24 = [16, 155, 172, 43, 180, 0, 49, 44, 180, 0, 49, 96, 29, 100, 16, 24, 164, 0, 6, 16, 156, 172, 43, 44] := by decide +kernel
theorem q10w01_2_71 : (cX7_layTerm.data.toList.drop 71).take 21 = [29, 182, 0, 105, 44, 3, 181, 0, 49, 42, 180, 0, 34, 42, 180, 0, 19, 3, 79, 3, 172] := by decide +kernel
theorem dX7_layTerm_0 : decode cX7_layTerm 0 = .ok (.aload_n 0, 1) := dz_42 (dz_at q10w01_2_0 0)
theorem dX7_layTerm_1 : decode cX7_layTerm 1 = .ok (.getfield 27, 3) := dz_180 (dz_at q10w01_2_0 1) rfl
theorem dX7_layTerm_10 : decode cX7_layTerm 10 = .ok (.aload_n 0, 1) := dz_42 (dz_at q10w01_2_0 10)
theorem dX7_layTerm_11 : decode cX7_layTerm 11 = .ok (.getfield 31, 3) := dz_180 (dz_at q10w01_2_0 11) rfl
theorem dX7_layTerm_14 : decode cX7_layTerm 14 = .ok (.aload_n 0, 1) := dz_42 (dz_at q10w01_2_0 14)
theorem dX7_layTerm_15 : decode cX7_layTerm 15 = .ok (.getfield 19, 3) := dz_180 (dz_at q10w01_2_0 15) rfl
theorem dX7_layTerm_18 : decode cX7_layTerm 18 = .ok (.aaload, 1) := dz_50 (dz_at q10w01_2_0 18)
theorem dX7_layTerm_19 : decode cX7_layTerm 19 = .ok (.astore_n 2, 1) := dz_77 (dz_at q10w01_2_0 19)
theorem dX7_layTerm_20 : decode cX7_layTerm 20 = .ok (.aload_n 2, 1) := dz_44 (dz_at q10w01_2_0 20)
theorem dX7_layTerm_21 : decode cX7_layTerm 21 = .ok (.getfield 49, 3) := dz_180 (dz_at q10w01_2_0 21) rfl
theorem dX7_layTerm_24 : decode cX7_layTerm 24 = .ok (.ifCond .ne 5, 3) := dz_154 (dz_at q10w01_2_24 0) (by decide +kernel)
theorem dX7_layTerm_27 : decode cX7_layTerm 27 = .ok (.iconst 0, 1) := dz_3 (dz_at q10w01_2_24 3)
theorem dX7_layTerm_28 : decode cX7_layTerm 28 = .ok (.ireturn, 1) := dz_172 (dz_at q10w01_2_24 4)
theorem dX7_layTerm_29 : decode cX7_layTerm 29 = .ok (.aload_n 0, 1) := dz_42 (dz_at q10w01_2_24 5)
theorem dX7_layTerm_30 : decode cX7_layTerm 30 = .ok (.getfield 34, 3) := dz_180 (dz_at q10w01_2_24 6) rfl
theorem dX7_layTerm_33 : decode cX7_layTerm 33 = .ok (.aload_n 0, 1) := dz_42 (dz_at q10w01_2_24 9)
theorem dX7_layTerm_34 : decode cX7_layTerm 34 = .ok (.getfield 19, 3) := dz_180 (dz_at q10w01_2_24 10) rfl
theorem dX7_layTerm_37 : decode cX7_layTerm 37 = .ok (.iaload, 1) := dz_46 (dz_at q10w01_2_24 13)
theorem dX7_layTerm_38 : decode cX7_layTerm 38 = .ok (.istore_n 3, 1) := dz_62 (dz_at q10w01_2_24 14)
theorem dX7_layTerm_39 : decode cX7_layTerm 39 = .ok (.iload_n 3, 1) := dz_29 (dz_at q10w01_2_24 15)
theorem dX7_layTerm_4 : decode cX7_layTerm 4 = .ok (.aload_n 0, 1) := dz_42 (dz_at q10w01_2_0 4)
theorem dX7_layTerm_40 : decode cX7_layTerm 40 = .ok (.aload_n 2, 1) := dz_44 (dz_at q10w01_2_24 16)
theorem dX7_layTerm_41 : decode cX7_layTerm 41 = .ok (.getfield 49, 3) := dz_180 (dz_at q10w01_2_24 17) rfl
theorem dX7_layTerm_44 : decode cX7_layTerm 44 = .ok (.if_icmp .le 6, 3) := dz_164 (dz_at q10w01_2_24 20) (by decide +kernel)
theorem dX7_layTerm_47 : decode cX7_layTerm 47 = .ok (.bipush (-101), 2) := dz_16 (dz_at q10w01_2_47 0) (by decide +kernel)
theorem dX7_layTerm_49 : decode cX7_layTerm 49 = .ok (.ireturn, 1) := dz_172 (dz_at q10w01_2_47 2)
theorem dX7_layTerm_5 : decode cX7_layTerm 5 = .ok (.getfield 19, 3) := dz_180 (dz_at q10w01_2_0 5) rfl
theorem dX7_layTerm_50 : decode cX7_layTerm 50 = .ok (.aload_n 1, 1) := dz_43 (dz_at q10w01_2_47 3)
theorem dX7_layTerm_51 : decode cX7_layTerm 51 = .ok (.getfield 49, 3) := dz_180 (dz_at q10w01_2_47 4) rfl
theorem dX7_layTerm_54 : decode cX7_layTerm 54 = .ok (.aload_n 2, 1) := dz_44 (dz_at q10w01_2_47 7)
theorem dX7_layTerm_55 : decode cX7_layTerm 55 = .ok (.getfield 49, 3) := dz_180 (dz_at q10w01_2_47 8) rfl
theorem dX7_layTerm_58 : decode cX7_layTerm 58 = .ok (.iadd, 1) := dz_96 (dz_at q10w01_2_47 11)
theorem dX7_layTerm_59 : decode cX7_layTerm 59 = .ok (.iload_n 3, 1) := dz_29 (dz_at q10w01_2_47 12)
theorem dX7_layTerm_60 : decode cX7_layTerm 60 = .ok (.isub, 1) := dz_100 (dz_at q10w01_2_47 13)
theorem dX7_layTerm_61 : decode cX7_layTerm 61 = .ok (.bipush 24, 2) := dz_16 (dz_at q10w01_2_47 14) (by decide +kernel)
theorem dX7_layTerm_63 : decode cX7_layTerm 63 = .ok (.if_icmp .le 6, 3) := dz_164 (dz_at q10w01_2_47 16) (by decide +kernel)
theorem dX7_layTerm_66 : decode cX7_layTerm 66 = .ok (.bipush (-100), 2) := dz_16 (dz_at q10w01_2_47 19) (by decide +kernel)
theorem dX7_layTerm_68 : decode cX7_layTerm 68 = .ok (.ireturn, 1) := dz_172 (dz_at q10w01_2_47 21)
theorem dX7_layTerm_69 : decode cX7_layTerm 69 = .ok (.aload_n 1, 1) := dz_43 (dz_at q10w01_2_47 22)
theorem dX7_layTerm_70 : decode cX7_layTerm 70 = .ok (.aload_n 2, 1) := dz_44 (dz_at q10w01_2_47 23)
theorem dX7_layTerm_71 : decode cX7_layTerm 71 = .ok (.iload_n 3, 1) := dz_29 (dz_at q10w01_2_71 0)
theorem dX7_layTerm_72 : decode cX7_layTerm 72 = .ok (.invokevirtual 105, 3) := dz_182 (dz_at q10w01_2_71 1) rfl
theorem dX7_layTerm_75 : decode cX7_layTerm 75 = .ok (.aload_n 2, 1) := dz_44 (dz_at q10w01_2_71 4)
theorem dX7_layTerm_76 : decode cX7_layTerm 76 = .ok (.iconst 0, 1) := dz_3 (dz_at q10w01_2_71 5)
theorem dX7_layTerm_77 : decode cX7_layTerm 77 = .ok (.putfield 49, 3) := dz_181 (dz_at q10w01_2_71 6) rfl
theorem dX7_layTerm_8 : decode cX7_layTerm 8 = .ok (.aaload, 1) := dz_50 (dz_at q10w01_2_0 8)
theorem dX7_layTerm_80 : decode cX7_layTerm 80 = .ok (.aload_n 0, 1) := dz_42 (dz_at q10w01_2_71 9)
theorem dX7_layTerm_81 : decode cX7_layTerm 81 = .ok (.getfield 34, 3) := dz_180 (dz_at q10w01_2_71 10) rfl
theorem dX7_layTerm_84 : decode cX7_layTerm 84 = .ok (.aload_n 0, 1) := dz_42 (dz_at q10w01_2_71 13)
theorem dX7_layTerm_85 : decode cX7_layTerm 85 = .ok (.getfield 19, 3) := dz_180 (dz_at q10w01_2_71 14) rfl
theorem dX7_layTerm_88 : decode cX7_layTerm 88 = .ok (.iconst 0, 1) := dz_3 (dz_at q10w01_2_71 17)
theorem dX7_layTerm_89 : decode cX7_layTerm 89 = .ok (.iastore, 1) := dz_79 (dz_at q10w01_2_71 18)
theorem dX7_layTerm_9 : decode cX7_layTerm 9 = .ok (.astore_n 1, 1) := dz_76 (dz_at q10w01_2_0 9)
theorem dX7_layTerm_90 : decode cX7_layTerm 90 = .ok (.iconst 0, 1) := dz_3 (dz_at q10w01_2_71 19)
theorem dX7_layTerm_91 : decode cX7_layTerm 91 = .ok (.ireturn, 1) := dz_172 (dz_at q10w01_2_71 20)
theorem q10w01_3_0 : (cX7_open.data.toList.drop 0).take 24 = [42, 182, 0, 76, 60, 27, 154, 0, 25, 42, 180, 0, 19, 8, 162, 0, 17, 42, 89, 180, 0, 19, 4, 96] := by decide +kernel
theorem q10w01_3_24 : (cX7_open.data.toList.drop 24).take 9 = [181, 0, 19, 42, 182, 0, 67, 27, 172] := by decide +kernel
theorem dX7_open_0 : decode cX7_open 0 = .ok (.aload_n 0, 1) := dz_42 (dz_at q10w01_3_0 0)
theorem dX7_open_1 : decode cX7_open 1 = .ok (.invokevirtual 76, 3) := dz_182 (dz_at q10w01_3_0 1) rfl
theorem dX7_open_10 : decode cX7_open 10 = .ok (.getfield 19, 3) := dz_180 (dz_at q10w01_3_0 10) rfl
theorem dX7_open_13 : decode cX7_open 13 = .ok (.iconst 5, 1) := dz_8 (dz_at q10w01_3_0 13)
theorem dX7_open_14 : decode cX7_open 14 = .ok (.if_icmp .ge 17, 3) := dz_162 (dz_at q10w01_3_0 14) (by decide +kernel)
theorem dX7_open_17 : decode cX7_open 17 = .ok (.aload_n 0, 1) := dz_42 (dz_at q10w01_3_0 17)
theorem dX7_open_18 : decode cX7_open 18 = .ok (.dup, 1) := dz_89 (dz_at q10w01_3_0 18)
theorem dX7_open_19 : decode cX7_open 19 = .ok (.getfield 19, 3) := dz_180 (dz_at q10w01_3_0 19) rfl
theorem dX7_open_22 : decode cX7_open 22 = .ok (.iconst 1, 1) := dz_4 (dz_at q10w01_3_0 22)
theorem dX7_open_23 : decode cX7_open 23 = .ok (.iadd, 1) := dz_96 (dz_at q10w01_3_0 23)
theorem dX7_open_24 : decode cX7_open 24 = .ok (.putfield 19, 3) := dz_181 (dz_at q10w01_3_24 0) rfl
theorem dX7_open_27 : decode cX7_open 27 = .ok (.aload_n 0, 1) := dz_42 (dz_at q10w01_3_24 3)
theorem dX7_open_28 : decode cX7_open 28 = .ok (.invokevirtual 67, 3) := dz_182 (dz_at q10w01_3_24 4) rfl
theorem dX7_open_31 : decode cX7_open 31 = .ok (.iload_n 1, 1) := dz_27 (dz_at q10w01_3_24 7)
theorem dX7_open_32 : decode cX7_open 32 = .ok (.ireturn, 1) := dz_172 (dz_at q10w01_3_24 8)
theorem dX7_open_4 : decode cX7_open 4 = .ok (.istore_n 1, 1) := dz_60 (dz_at q10w01_3_0 4)
theorem dX7_open_5 : decode cX7_open 5 = .ok (.iload_n 1, 1) := dz_27 (dz_at q10w01_3_0 5)
theorem dX7_open_6 : decode cX7_open 6 = .ok (.ifCond .ne 25, 3) := dz_154 (dz_at q10w01_3_0 6) (by decide +kernel)
theorem dX7_open_9 : decode cX7_open 9 = .ok (.aload_n 0, 1) := dz_42 (dz_at q10w01_3_0 9)
theorem q10w01_4_0 : (cX7_readDigit.data.toList.drop 0).take 4 = [42, 180, 0, 22] := by decide +kernel
theorem q10w01_4_40 : (cX7_readDigit.data.toList.drop 40).take 24 = [42, 3, 181, 0, 22, 42, 27, 182, 0, 91, 172, 42, 3, 181, 0, 22, 42, 180, 0, 34, 42, 180, 0, 19] := by decide +kernel
theorem q10w01_4_64 : (cX7_readDigit.data.toList.drop 64).take 24 = [27, 79, 27, 42, 180, 0, 27, 42, 180, 0, 19, 50, 180, 0, 49, 164, 0, 8, 16, 155, 167, 0, 4, 3] := by decide +kernel
theorem q10w01_4_88 : (cX7_readDigit.data.toList.drop 88).take 24 = [172, 42, 180, 0, 31, 42, 180, 0, 19, 50, 3, 4, 27, 120, 182, 0, 94, 3, 172, 42, 27, 154, 0, 7] := by decide +kernel
theorem q10w01_4_112 : (cX7_readDigit.data.toList.drop 112).take 11 = [3, 167, 0, 6, 4, 27, 120, 182, 0, 82, 172] := by decide +kernel
theorem dX7_readDigit_0 : decode cX7_readDigit 0 = .ok (.aload_n 0, 1) := dz_42 (dz_at q10w01_4_0 0)
theorem dX7_readDigit_1 : decode cX7_readDigit 1 = .ok (.getfield 22, 3) := dz_180 (dz_at q10w01_4_0 1) rfl
theorem dX7_readDigit_100 : decode cX7_readDigit 100 = .ok (.iload_n 1, 1) := dz_27 (dz_at q10w01_4_88 12)
theorem dX7_readDigit_101 : decode cX7_readDigit 101 = .ok (.ishl, 1) := dz_120 (dz_at q10w01_4_88 13)
theorem dX7_readDigit_102 : decode cX7_readDigit 102 = .ok (.invokevirtual 94, 3) := dz_182 (dz_at q10w01_4_88 14) rfl
theorem dX7_readDigit_105 : decode cX7_readDigit 105 = .ok (.iconst 0, 1) := dz_3 (dz_at q10w01_4_88 17)
theorem dX7_readDigit_106 : decode cX7_readDigit 106 = .ok (.ireturn, 1) := dz_172 (dz_at q10w01_4_88 18)
theorem dX7_readDigit_107 : decode cX7_readDigit 107 = .ok (.aload_n 0, 1) := dz_42 (dz_at q10w01_4_88 19)
theorem dX7_readDigit_108 : decode cX7_readDigit 108 = .ok (.iload_n 1, 1) := dz_27 (dz_at q10w01_4_88 20)
theorem dX7_readDigit_109 : decode cX7_readDigit 109 = .ok (.ifCond .ne 7, 3) := dz_154 (dz_at q10w01_4_88 21) (by decide +kernel)
theorem dX7_readDigit_112 : decode cX7_readDigit 112 = .ok (.iconst 0, 1) := dz_3 (dz_at q10w01_4_112 0)
theorem dX7_readDigit_113 : decode cX7_readDigit 113 = .ok (.goto 6, 3) := dz_167 (dz_at q10w01_4_112 1) (by decide +kernel)
theorem dX7_readDigit_116 : decode cX7_readDigit 116 = .ok (.iconst 1, 1) := dz_4 (dz_at q10w01_4_112 4)
theorem dX7_readDigit_117 : decode cX7_readDigit 117 = .ok (.iload_n 1, 1) := dz_27 (dz_at q10w01_4_112 5)
theorem dX7_readDigit_118 : decode cX7_readDigit 118 = .ok (.ishl, 1) := dz_120 (dz_at q10w01_4_112 6)
theorem dX7_readDigit_119 : decode cX7_readDigit 119 = .ok (.invokevirtual 82, 3) := dz_182 (dz_at q10w01_4_112 7) rfl
theorem dX7_readDigit_122 : decode cX7_readDigit 122 = .ok (.ireturn, 1) := dz_172 (dz_at q10w01_4_112 10)
theorem dX7_readDigit_4 : decode cX7_readDigit 4 = .ok (.lookupswitch 103 #[(42, 36), (47, 47), (91, 85)], 36) := by decide +kernel
theorem dX7_readDigit_40 : decode cX7_readDigit 40 = .ok (.aload_n 0, 1) := dz_42 (dz_at q10w01_4_40 0)
theorem dX7_readDigit_41 : decode cX7_readDigit 41 = .ok (.iconst 0, 1) := dz_3 (dz_at q10w01_4_40 1)
theorem dX7_readDigit_42 : decode cX7_readDigit 42 = .ok (.putfield 22, 3) := dz_181 (dz_at q10w01_4_40 2) rfl
theorem dX7_readDigit_45 : decode cX7_readDigit 45 = .ok (.aload_n 0, 1) := dz_42 (dz_at q10w01_4_40 5)
theorem dX7_readDigit_46 : decode cX7_readDigit 46 = .ok (.iload_n 1, 1) := dz_27 (dz_at q10w01_4_40 6)
theorem dX7_readDigit_47 : decode cX7_readDigit 47 = .ok (.invokevirtual 91, 3) := dz_182 (dz_at q10w01_4_40 7) rfl
theorem dX7_readDigit_50 : decode cX7_readDigit 50 = .ok (.ireturn, 1) := dz_172 (dz_at q10w01_4_40 10)
theorem dX7_readDigit_51 : decode cX7_readDigit 51 = .ok (.aload_n 0, 1) := dz_42 (dz_at q10w01_4_40 11)
theorem dX7_readDigit_52 : decode cX7_readDigit 52 = .ok (.iconst 0, 1) := dz_3 (dz_at q10w01_4_40 12)
theorem dX7_readDigit_53 : decode cX7_readDigit 53 = .ok (.putfield 22, 3) := dz_181 (dz_at q10w01_4_40 13) rfl
theorem dX7_readDigit_56 : decode cX7_readDigit 56 = .ok (.aload_n 0, 1) := dz_42 (dz_at q10w01_4_40 16)
theorem dX7_readDigit_57 : decode cX7_readDigit 57 = .ok (.getfield 34, 3) := dz_180 (dz_at q10w01_4_40 17) rfl
theorem dX7_readDigit_60 : decode cX7_readDigit 60 = .ok (.aload_n 0, 1) := dz_42 (dz_at q10w01_4_40 20)
theorem dX7_readDigit_61 : decode cX7_readDigit 61 = .ok (.getfield 19, 3) := dz_180 (dz_at q10w01_4_40 21) rfl
theorem dX7_readDigit_64 : decode cX7_readDigit 64 = .ok (.iload_n 1, 1) := dz_27 (dz_at q10w01_4_64 0)
theorem dX7_readDigit_65 : decode cX7_readDigit 65 = .ok (.iastore, 1) := dz_79 (dz_at q10w01_4_64 1)
theorem dX7_readDigit_66 : decode cX7_readDigit 66 = .ok (.iload_n 1, 1) := dz_27 (dz_at q10w01_4_64 2)
theorem dX7_readDigit_67 : decode cX7_readDigit 67 = .ok (.aload_n 0, 1) := dz_42 (dz_at q10w01_4_64 3)
theorem dX7_readDigit_68 : decode cX7_readDigit 68 = .ok (.getfield 27, 3) := dz_180 (dz_at q10w01_4_64 4) rfl
theorem dX7_readDigit_71 : decode cX7_readDigit 71 = .ok (.aload_n 0, 1) := dz_42 (dz_at q10w01_4_64 7)
theorem dX7_readDigit_72 : decode cX7_readDigit 72 = .ok (.getfield 19, 3) := dz_180 (dz_at q10w01_4_64 8) rfl
theorem dX7_readDigit_75 : decode cX7_readDigit 75 = .ok (.aaload, 1) := dz_50 (dz_at q10w01_4_64 11)
theorem dX7_readDigit_76 : decode cX7_readDigit 76 = .ok (.getfield 49, 3) := dz_180 (dz_at q10w01_4_64 12) rfl
theorem dX7_readDigit_79 : decode cX7_readDigit 79 = .ok (.if_icmp .le 8, 3) := dz_164 (dz_at q10w01_4_64 15) (by decide +kernel)
theorem dX7_readDigit_82 : decode cX7_readDigit 82 = .ok (.bipush (-101), 2) := dz_16 (dz_at q10w01_4_64 18) (by decide +kernel)
theorem dX7_readDigit_84 : decode cX7_readDigit 84 = .ok (.goto 4, 3) := dz_167 (dz_at q10w01_4_64 20) (by decide +kernel)
theorem dX7_readDigit_87 : decode cX7_readDigit 87 = .ok (.iconst 0, 1) := dz_3 (dz_at q10w01_4_64 23)
theorem dX7_readDigit_88 : decode cX7_readDigit 88 = .ok (.ireturn, 1) := dz_172 (dz_at q10w01_4_88 0)
theorem dX7_readDigit_89 : decode cX7_readDigit 89 = .ok (.aload_n 0, 1) := dz_42 (dz_at q10w01_4_88 1)
theorem dX7_readDigit_90 : decode cX7_readDigit 90 = .ok (.getfield 31, 3) := dz_180 (dz_at q10w01_4_88 2) rfl
theorem dX7_readDigit_93 : decode cX7_readDigit 93 = .ok (.aload_n 0, 1) := dz_42 (dz_at q10w01_4_88 5)
theorem dX7_readDigit_94 : decode cX7_readDigit 94 = .ok (.getfield 19, 3) := dz_180 (dz_at q10w01_4_88 6) rfl
theorem dX7_readDigit_97 : decode cX7_readDigit 97 = .ok (.aaload, 1) := dz_50 (dz_at q10w01_4_88 9)
theorem dX7_readDigit_98 : decode cX7_readDigit 98 = .ok (.iconst 0, 1) := dz_3 (dz_at q10w01_4_88 10)
theorem dX7_readDigit_99 : decode cX7_readDigit 99 = .ok (.iconst 1, 1) := dz_4 (dz_at q10w01_4_88 11)
theorem q10w01_5_0 : (cX7_readSign.data.toList.drop 0).take 1 = [27] := by decide +kernel
theorem q10w01_5_68 : (cX7_readSign.data.toList.drop 68).take 23 = [42, 27, 181, 0, 22, 3, 172, 42, 180, 0, 31, 42, 180, 0, 19, 50, 182, 0, 79, 3, 172, 42, 27] := by decide +kernel
theorem q10w01_5_91 : (cX7_readSign.data.toList.drop 91).take 24 = [181, 0, 22, 42, 182, 0, 76, 172, 42, 27, 181, 0, 22, 42, 3, 182, 0, 82, 172, 42, 3, 181, 0, 22] := by decide +kernel
theorem q10w01_5_115 : (cX7_readSign.data.toList.drop 115).take 14 = [3, 172, 42, 182, 0, 85, 172, 42, 182, 0, 88, 172, 3, 172] := by decide +kernel
theorem dX7_readSign_0 : decode cX7_readSign 0 = .ok (.iload_n 1, 1) := dz_27 (dz_at q10w01_5_0 0)
theorem dX7_readSign_1 : decode cX7_readSign 1 = .ok (.lookupswitch 126 #[(40, 116), (41, 121), (42, 67), (47, 88), (91, 98), (93, 109), (126, 74)], 67) := by decide +kernel
theorem dX7_readSign_100 : decode cX7_readSign 100 = .ok (.iload_n 1, 1) := dz_27 (dz_at q10w01_5_91 9)
theorem dX7_readSign_101 : decode cX7_readSign 101 = .ok (.putfield 22, 3) := dz_181 (dz_at q10w01_5_91 10) rfl
theorem dX7_readSign_104 : decode cX7_readSign 104 = .ok (.aload_n 0, 1) := dz_42 (dz_at q10w01_5_91 13)
theorem dX7_readSign_105 : decode cX7_readSign 105 = .ok (.iconst 0, 1) := dz_3 (dz_at q10w01_5_91 14)
theorem dX7_readSign_106 : decode cX7_readSign 106 = .ok (.invokevirtual 82, 3) := dz_182 (dz_at q10w01_5_91 15) rfl
theorem dX7_readSign_109 : decode cX7_readSign 109 = .ok (.ireturn, 1) := dz_172 (dz_at q10w01_5_91 18)
theorem dX7_readSign_110 : decode cX7_readSign 110 = .ok (.aload_n 0, 1) := dz_42 (dz_at q10w01_5_91 19)
theorem dX7_readSign_111 : decode cX7_readSign 111 = .ok (.iconst 0, 1) := dz_3 (dz_at q10w01_5_91 20)
theorem dX7_readSign_112 : decode cX7_readSign 112 = .ok (.putfield 22, 3) := dz_181 (dz_at q10w01_5_91 21) rfl
theorem dX7_readSign_115 : decode cX7_readSign 115 = .ok (.iconst 0, 1) := dz_3 (dz_at q10w01_5_115 0)
theorem dX7_readSign_116 : decode cX7_readSign 116 = .ok (.ireturn, 1) := dz_172 (dz_at q10w01_5_115 1)
theorem dX7_readSign_117 : decode cX7_readSign 117 = .ok (.aload_n 0, 1) := dz_42 (dz_at q10w01_5_115 2)
theorem dX7_readSign_118 : decode cX7_readSign 118 = .ok (.invokevirtual 85, 3) := dz_182 (dz_at q10w01_5_115 3) rfl
theorem dX7_readSign_121 : decode cX7_readSign 121 = .ok (.ireturn, 1) := dz_172 (dz_at q10w01_5_115 6)
theorem dX7_readSign_122 : decode cX7_readSign 122 = .ok (.aload_n 0, 1) := dz_42 (dz_at q10w01_5_115 7)
theorem dX7_readSign_123 : decode cX7_readSign 123 = .ok (.invokevirtual 88, 3) := dz_182 (dz_at q10w01_5_115 8) rfl
theorem dX7_readSign_126 : decode cX7_readSign 126 = .ok (.ireturn, 1) := dz_172 (dz_at q10w01_5_115 11)
theorem dX7_readSign_127 : decode cX7_readSign 127 = .ok (.iconst 0, 1) := dz_3 (dz_at q10w01_5_115 12)
theorem dX7_readSign_128 : decode cX7_readSign 128 = .ok (.ireturn, 1) := dz_172 (dz_at q10w01_5_115 13)
theorem dX7_readSign_68 : decode cX7_readSign 68 = .ok (.aload_n 0, 1) := dz_42 (dz_at q10w01_5_68 0)
theorem dX7_readSign_69 : decode cX7_readSign 69 = .ok (.iload_n 1, 1) := dz_27 (dz_at q10w01_5_68 1)
theorem dX7_readSign_70 : decode cX7_readSign 70 = .ok (.putfield 22, 3) := dz_181 (dz_at q10w01_5_68 2) rfl
theorem dX7_readSign_73 : decode cX7_readSign 73 = .ok (.iconst 0, 1) := dz_3 (dz_at q10w01_5_68 5)
theorem dX7_readSign_74 : decode cX7_readSign 74 = .ok (.ireturn, 1) := dz_172 (dz_at q10w01_5_68 6)
theorem dX7_readSign_75 : decode cX7_readSign 75 = .ok (.aload_n 0, 1) := dz_42 (dz_at q10w01_5_68 7)
theorem dX7_readSign_76 : decode cX7_readSign 76 = .ok (.getfield 31, 3) := dz_180 (dz_at q10w01_5_68 8) rfl
theorem dX7_readSign_79 : decode cX7_readSign 79 = .ok (.aload_n 0, 1) := dz_42 (dz_at q10w01_5_68 11)
theorem dX7_readSign_80 : decode cX7_readSign 80 = .ok (.getfield 19, 3) := dz_180 (dz_at q10w01_5_68 12) rfl
theorem dX7_readSign_83 : decode cX7_readSign 83 = .ok (.aaload, 1) := dz_50 (dz_at q10w01_5_68 15)
theorem dX7_readSign_84 : decode cX7_readSign 84 = .ok (.invokevirtual 79, 3) := dz_182 (dz_at q10w01_5_68 16) rfl
theorem dX7_readSign_87 : decode cX7_readSign 87 = .ok (.iconst 0, 1) := dz_3 (dz_at q10w01_5_68 19)
theorem dX7_readSign_88 : decode cX7_readSign 88 = .ok (.ireturn, 1) := dz_172 (dz_at q10w01_5_68 20)
theorem dX7_readSign_89 : decode cX7_readSign 89 = .ok (.aload_n 0, 1) := dz_42 (dz_at q10w01_5_68 21)
theorem dX7_readSign_90 : decode cX7_readSign 90 = .ok (.iload_n 1, 1) := dz_27 (dz_at q10w01_5_68 22)
theorem dX7_readSign_91 : decode cX7_readSign 91 = .ok (.putfield 22, 3) := dz_181 (dz_at q10w01_5_91 0) rfl
theorem dX7_readSign_94 : decode cX7_readSign 94 = .ok (.aload_n 0, 1) := dz_42 (dz_at q10w01_5_91 3)
theorem dX7_readSign_95 : decode cX7_readSign 95 = .ok (.invokevirtual 76, 3) := dz_182 (dz_at q10w01_5_91 4) rfl
theorem dX7_readSign_98 : decode cX7_readSign 98 = .ok (.ireturn, 1) := dz_172 (dz_at q10w01_5_91 7)
theorem dX7_readSign_99 : decode cX7_readSign 99 = .ok (.aload_n 0, 1) := dz_42 (dz_at q10w01_5_91 8)
theorem q10w01_6_0 : (cX8_addTo.data.toList.drop 0).take 19 = [42, 27, 182, 0, 19, 153, 0, 13, 42, 180, 0, 9, 27, 92, 46, 28, 128, 79, 177] := by decide +kernel
theorem dX8_addTo_0 : decode cX8_addTo 0 = .ok (.aload_n 0, 1) := dz_42 (dz_at q10w01_6_0 0)
theorem dX8_addTo_1 : decode cX8_addTo 1 = .ok (.iload_n 1, 1) := dz_27 (dz_at q10w01_6_0 1)
theorem dX8_addTo_12 : decode cX8_addTo 12 = .ok (.iload_n 1, 1) := dz_27 (dz_at q10w01_6_0 12)
theorem dX8_addTo_13 : decode cX8_addTo 13 = .ok (.dup2, 1) := dz_92 (dz_at q10w01_6_0 13)
theorem dX8_addTo_14 : decode cX8_addTo 14 = .ok (.iaload, 1) := dz_46 (dz_at q10w01_6_0 14)
theorem dX8_addTo_15 : decode cX8_addTo 15 = .ok (.iload_n 2, 1) := dz_28 (dz_at q10w01_6_0 15)
theorem dX8_addTo_16 : decode cX8_addTo 16 = .ok (.ior, 1) := dz_128 (dz_at q10w01_6_0 16)
theorem dX8_addTo_17 : decode cX8_addTo 17 = .ok (.iastore, 1) := dz_79 (dz_at q10w01_6_0 17)
theorem dX8_addTo_18 : decode cX8_addTo 18 = .ok (.return_, 1) := dz_177 (dz_at q10w01_6_0 18)
theorem dX8_addTo_2 : decode cX8_addTo 2 = .ok (.invokevirtual 19, 3) := dz_182 (dz_at q10w01_6_0 2) rfl
theorem dX8_addTo_5 : decode cX8_addTo 5 = .ok (.ifCond .eq 13, 3) := dz_153 (dz_at q10w01_6_0 5) (by decide +kernel)
theorem dX8_addTo_8 : decode cX8_addTo 8 = .ok (.aload_n 0, 1) := dz_42 (dz_at q10w01_6_0 8)
theorem dX8_addTo_9 : decode cX8_addTo 9 = .ok (.getfield 9, 3) := dz_180 (dz_at q10w01_6_0 9) rfl
theorem q10w01_7_0 : (cX8_becomeInch.data.toList.drop 0).take 13 = [42, 180, 0, 9, 3, 27, 79, 42, 4, 181, 0, 15, 177] := by decide +kernel
theorem dX8_becomeInch_0 : decode cX8_becomeInch 0 = .ok (.aload_n 0, 1) := dz_42 (dz_at q10w01_7_0 0)
theorem dX8_becomeInch_1 : decode cX8_becomeInch 1 = .ok (.getfield 9, 3) := dz_180 (dz_at q10w01_7_0 1) rfl
theorem dX8_becomeInch_12 : decode cX8_becomeInch 12 = .ok (.return_, 1) := dz_177 (dz_at q10w01_7_0 12)
theorem dX8_becomeInch_4 : decode cX8_becomeInch 4 = .ok (.iconst 0, 1) := dz_3 (dz_at q10w01_7_0 4)
theorem dX8_becomeInch_5 : decode cX8_becomeInch 5 = .ok (.iload_n 1, 1) := dz_27 (dz_at q10w01_7_0 5)
theorem dX8_becomeInch_6 : decode cX8_becomeInch 6 = .ok (.iastore, 1) := dz_79 (dz_at q10w01_7_0 6)
theorem dX8_becomeInch_7 : decode cX8_becomeInch 7 = .ok (.aload_n 0, 1) := dz_42 (dz_at q10w01_7_0 7)
theorem dX8_becomeInch_8 : decode cX8_becomeInch 8 = .ok (.iconst 1, 1) := dz_4 (dz_at q10w01_7_0 8)
theorem dX8_becomeInch_9 : decode cX8_becomeInch 9 = .ok (.putfield 15, 3) := dz_181 (dz_at q10w01_7_0 9) rfl
theorem q10w01_8_0 : (cX8_copy.data.toList.drop 0).take 24 = [42, 43, 180, 0, 15, 181, 0, 15, 43, 180, 0, 9, 3, 42, 180, 0, 9, 3, 16, 24, 184, 0, 23, 177] := by decide +kernel
theorem dX8_copy_0 : decode cX8_copy 0 = .ok (.aload_n 0, 1) := dz_42 (dz_at q10w01_8_0 0)
theorem dX8_copy_1 : decode cX8_copy 1 = .ok (.aload_n 1, 1) := dz_43 (dz_at q10w01_8_0 1)
theorem dX8_copy_12 : decode cX8_copy 12 = .ok (.iconst 0, 1) := dz_3 (dz_at q10w01_8_0 12)
theorem dX8_copy_13 : decode cX8_copy 13 = .ok (.aload_n 0, 1) := dz_42 (dz_at q10w01_8_0 13)
theorem dX8_copy_14 : decode cX8_copy 14 = .ok (.getfield 9, 3) := dz_180 (dz_at q10w01_8_0 14) rfl
theorem dX8_copy_17 : decode cX8_copy 17 = .ok (.iconst 0, 1) := dz_3 (dz_at q10w01_8_0 17)
theorem dX8_copy_18 : decode cX8_copy 18 = .ok (.bipush 24, 2) := dz_16 (dz_at q10w01_8_0 18) (by decide +kernel)
theorem dX8_copy_2 : decode cX8_copy 2 = .ok (.getfield 15, 3) := dz_180 (dz_at q10w01_8_0 2) rfl
theorem dX8_copy_20 : decode cX8_copy 20 = .ok (.invokestatic 23, 3) := dz_184 (dz_at q10w01_8_0 20) rfl
theorem dX8_copy_23 : decode cX8_copy 23 = .ok (.return_, 1) := dz_177 (dz_at q10w01_8_0 23)
theorem dX8_copy_5 : decode cX8_copy 5 = .ok (.putfield 15, 3) := dz_181 (dz_at q10w01_8_0 5) rfl
theorem dX8_copy_8 : decode cX8_copy 8 = .ok (.aload_n 1, 1) := dz_43 (dz_at q10w01_8_0 8)
theorem dX8_copy_9 : decode cX8_copy 9 = .ok (.getfield 9, 3) := dz_180 (dz_at q10w01_8_0 9) rfl
theorem q10w01_9_0 : (cX8_putBehind.data.toList.drop 0).take 24 = [3, 42, 180, 0, 15, 28, 100, 184, 0, 35, 62, 3, 54, 4, 21, 4, 43, 180, 0, 15, 162, 0, 53, 29] := by decide +kernel
theorem q10w01_9_24 : (cX8_putBehind.data.toList.drop 24).take 22 = [42, 180, 0, 9, 190, 162, 0, 44, 42, 180, 0, 9, 29, 43, 180, 0, 9, 21, 4, 46, 29, 42] := by decide +kernel
theorem q10w01_9_46 : (cX8_putBehind.data.toList.drop 46).take 24 = [180, 0, 15, 162, 0, 12, 42, 180, 0, 9, 29, 46, 167, 0, 4, 3, 128, 79, 132, 3, 1, 132, 4, 1] := by decide +kernel
theorem q10w01_9_70 : (cX8_putBehind.data.toList.drop 70).take 16 = [167, 255, 200, 42, 42, 180, 0, 15, 29, 184, 0, 35, 181, 0, 15, 177] := by decide +kernel
theorem dX8_putBehind_0 : decode cX8_putBehind 0 = .ok (.iconst 0, 1) := dz_3 (dz_at q10w01_9_0 0)
theorem dX8_putBehind_1 : decode cX8_putBehind 1 = .ok (.aload_n 0, 1) := dz_42 (dz_at q10w01_9_0 1)
theorem dX8_putBehind_10 : decode cX8_putBehind 10 = .ok (.istore_n 3, 1) := dz_62 (dz_at q10w01_9_0 10)
theorem dX8_putBehind_11 : decode cX8_putBehind 11 = .ok (.iconst 0, 1) := dz_3 (dz_at q10w01_9_0 11)
theorem dX8_putBehind_12 : decode cX8_putBehind 12 = .ok (.istore 4, 2) := dz_54 (dz_at q10w01_9_0 12)
theorem dX8_putBehind_14 : decode cX8_putBehind 14 = .ok (.iload 4, 2) := dz_21 (dz_at q10w01_9_0 14)
theorem dX8_putBehind_16 : decode cX8_putBehind 16 = .ok (.aload_n 1, 1) := dz_43 (dz_at q10w01_9_0 16)
theorem dX8_putBehind_17 : decode cX8_putBehind 17 = .ok (.getfield 15, 3) := dz_180 (dz_at q10w01_9_0 17) rfl
theorem dX8_putBehind_2 : decode cX8_putBehind 2 = .ok (.getfield 15, 3) := dz_180 (dz_at q10w01_9_0 2) rfl
theorem dX8_putBehind_20 : decode cX8_putBehind 20 = .ok (.if_icmp .ge 53, 3) := dz_162 (dz_at q10w01_9_0 20) (by decide +kernel)
theorem dX8_putBehind_23 : decode cX8_putBehind 23 = .ok (.iload_n 3, 1) := dz_29 (dz_at q10w01_9_0 23)
theorem dX8_putBehind_24 : decode cX8_putBehind 24 = .ok (.aload_n 0, 1) := dz_42 (dz_at q10w01_9_24 0)
theorem dX8_putBehind_25 : decode cX8_putBehind 25 = .ok (.getfield 9, 3) := dz_180 (dz_at q10w01_9_24 1) rfl
theorem dX8_putBehind_28 : decode cX8_putBehind 28 = .ok (.arraylength, 1) := dz_190 (dz_at q10w01_9_24 4)
theorem dX8_putBehind_29 : decode cX8_putBehind 29 = .ok (.if_icmp .ge 44, 3) := dz_162 (dz_at q10w01_9_24 5) (by decide +kernel)
theorem dX8_putBehind_32 : decode cX8_putBehind 32 = .ok (.aload_n 0, 1) := dz_42 (dz_at q10w01_9_24 8)
theorem dX8_putBehind_33 : decode cX8_putBehind 33 = .ok (.getfield 9, 3) := dz_180 (dz_at q10w01_9_24 9) rfl
theorem dX8_putBehind_36 : decode cX8_putBehind 36 = .ok (.iload_n 3, 1) := dz_29 (dz_at q10w01_9_24 12)
theorem dX8_putBehind_37 : decode cX8_putBehind 37 = .ok (.aload_n 1, 1) := dz_43 (dz_at q10w01_9_24 13)
theorem dX8_putBehind_38 : decode cX8_putBehind 38 = .ok (.getfield 9, 3) := dz_180 (dz_at q10w01_9_24 14) rfl
theorem dX8_putBehind_41 : decode cX8_putBehind 41 = .ok (.iload 4, 2) := dz_21 (dz_at q10w01_9_24 17)
theorem dX8_putBehind_43 : decode cX8_putBehind 43 = .ok (.iaload, 1) := dz_46 (dz_at q10w01_9_24 19)
theorem dX8_putBehind_44 : decode cX8_putBehind 44 = .ok (.iload_n 3, 1) := dz_29 (dz_at q10w01_9_24 20)
theorem dX8_putBehind_45 : decode cX8_putBehind 45 = .ok (.aload_n 0, 1) := dz_42 (dz_at q10w01_9_24 21)
theorem dX8_putBehind_46 : decode cX8_putBehind 46 = .ok (.getfield 15, 3) := dz_180 (dz_at q10w01_9_46 0) rfl
theorem dX8_putBehind_49 : decode cX8_putBehind 49 = .ok (.if_icmp .ge 12, 3) := dz_162 (dz_at q10w01_9_46 3) (by decide +kernel)
theorem dX8_putBehind_5 : decode cX8_putBehind 5 = .ok (.iload_n 2, 1) := dz_28 (dz_at q10w01_9_0 5)
theorem dX8_putBehind_52 : decode cX8_putBehind 52 = .ok (.aload_n 0, 1) := dz_42 (dz_at q10w01_9_46 6)
theorem dX8_putBehind_53 : decode cX8_putBehind 53 = .ok (.getfield 9, 3) := dz_180 (dz_at q10w01_9_46 7) rfl
theorem dX8_putBehind_56 : decode cX8_putBehind 56 = .ok (.iload_n 3, 1) := dz_29 (dz_at q10w01_9_46 10)
theorem dX8_putBehind_57 : decode cX8_putBehind 57 = .ok (.iaload, 1) := dz_46 (dz_at q10w01_9_46 11)
theorem dX8_putBehind_58 : decode cX8_putBehind 58 = .ok (.goto 4, 3) := dz_167 (dz_at q10w01_9_46 12) (by decide +kernel)
theorem dX8_putBehind_6 : decode cX8_putBehind 6 = .ok (.isub, 1) := dz_100 (dz_at q10w01_9_0 6)
theorem dX8_putBehind_61 : decode cX8_putBehind 61 = .ok (.iconst 0, 1) := dz_3 (dz_at q10w01_9_46 15)
theorem dX8_putBehind_62 : decode cX8_putBehind 62 = .ok (.ior, 1) := dz_128 (dz_at q10w01_9_46 16)
theorem dX8_putBehind_63 : decode cX8_putBehind 63 = .ok (.iastore, 1) := dz_79 (dz_at q10w01_9_46 17)
theorem dX8_putBehind_64 : decode cX8_putBehind 64 = .ok (.iinc 3 1, 3) := dz_132 (dz_at q10w01_9_46 18) (by decide +kernel)
theorem dX8_putBehind_67 : decode cX8_putBehind 67 = .ok (.iinc 4 1, 3) := dz_132 (dz_at q10w01_9_46 21) (by decide +kernel)
theorem dX8_putBehind_7 : decode cX8_putBehind 7 = .ok (.invokestatic 35, 3) := dz_184 (dz_at q10w01_9_0 7) rfl
theorem dX8_putBehind_70 : decode cX8_putBehind 70 = .ok (.goto (-56), 3) := dz_167 (dz_at q10w01_9_70 0) (by decide +kernel)
theorem dX8_putBehind_73 : decode cX8_putBehind 73 = .ok (.aload_n 0, 1) := dz_42 (dz_at q10w01_9_70 3)
theorem dX8_putBehind_74 : decode cX8_putBehind 74 = .ok (.aload_n 0, 1) := dz_42 (dz_at q10w01_9_70 4)
theorem dX8_putBehind_75 : decode cX8_putBehind 75 = .ok (.getfield 15, 3) := dz_180 (dz_at q10w01_9_70 5) rfl
theorem dX8_putBehind_78 : decode cX8_putBehind 78 = .ok (.iload_n 3, 1) := dz_29 (dz_at q10w01_9_70 8)
theorem dX8_putBehind_79 : decode cX8_putBehind 79 = .ok (.invokestatic 35, 3) := dz_184 (dz_at q10w01_9_70 9) rfl
theorem dX8_putBehind_82 : decode cX8_putBehind 82 = .ok (.putfield 15, 3) := dz_181 (dz_at q10w01_9_70 12) rfl
theorem dX8_putBehind_85 : decode cX8_putBehind 85 = .ok (.return_, 1) := dz_177 (dz_at q10w01_9_70 15)
theorem q10w01_10_0 : (cX8_turn.data.toList.drop 0).take 24 = [3, 60, 27, 42, 180, 0, 15, 5, 108, 162, 0, 49, 42, 180, 0, 9, 27, 46, 61, 42, 180, 0, 9, 27] := by decide +kernel
theorem q10w01_10_24 : (cX8_turn.data.toList.drop 24).take 24 = [42, 180, 0, 9, 42, 180, 0, 15, 4, 100, 27, 100, 46, 79, 42, 180, 0, 9, 42, 180, 0, 15, 4, 100] := by decide +kernel
theorem q10w01_10_48 : (cX8_turn.data.toList.drop 48).take 11 = [27, 100, 28, 79, 132, 1, 1, 167, 255, 203, 177] := by decide +kernel
theorem dX8_turn_0 : decode cX8_turn 0 = .ok (.iconst 0, 1) := dz_3 (dz_at q10w01_10_0 0)
theorem dX8_turn_1 : decode cX8_turn 1 = .ok (.istore_n 1, 1) := dz_60 (dz_at q10w01_10_0 1)
theorem dX8_turn_12 : decode cX8_turn 12 = .ok (.aload_n 0, 1) := dz_42 (dz_at q10w01_10_0 12)
theorem dX8_turn_13 : decode cX8_turn 13 = .ok (.getfield 9, 3) := dz_180 (dz_at q10w01_10_0 13) rfl
theorem dX8_turn_16 : decode cX8_turn 16 = .ok (.iload_n 1, 1) := dz_27 (dz_at q10w01_10_0 16)
theorem dX8_turn_17 : decode cX8_turn 17 = .ok (.iaload, 1) := dz_46 (dz_at q10w01_10_0 17)
theorem dX8_turn_18 : decode cX8_turn 18 = .ok (.istore_n 2, 1) := dz_61 (dz_at q10w01_10_0 18)
theorem dX8_turn_19 : decode cX8_turn 19 = .ok (.aload_n 0, 1) := dz_42 (dz_at q10w01_10_0 19)
theorem dX8_turn_2 : decode cX8_turn 2 = .ok (.iload_n 1, 1) := dz_27 (dz_at q10w01_10_0 2)
theorem dX8_turn_20 : decode cX8_turn 20 = .ok (.getfield 9, 3) := dz_180 (dz_at q10w01_10_0 20) rfl
theorem dX8_turn_23 : decode cX8_turn 23 = .ok (.iload_n 1, 1) := dz_27 (dz_at q10w01_10_0 23)
theorem dX8_turn_24 : decode cX8_turn 24 = .ok (.aload_n 0, 1) := dz_42 (dz_at q10w01_10_24 0)
theorem dX8_turn_25 : decode cX8_turn 25 = .ok (.getfield 9, 3) := dz_180 (dz_at q10w01_10_24 1) rfl
theorem dX8_turn_28 : decode cX8_turn 28 = .ok (.aload_n 0, 1) := dz_42 (dz_at q10w01_10_24 4)
theorem dX8_turn_29 : decode cX8_turn 29 = .ok (.getfield 15, 3) := dz_180 (dz_at q10w01_10_24 5) rfl
theorem dX8_turn_3 : decode cX8_turn 3 = .ok (.aload_n 0, 1) := dz_42 (dz_at q10w01_10_0 3)
theorem dX8_turn_32 : decode cX8_turn 32 = .ok (.iconst 1, 1) := dz_4 (dz_at q10w01_10_24 8)
theorem dX8_turn_33 : decode cX8_turn 33 = .ok (.isub, 1) := dz_100 (dz_at q10w01_10_24 9)
theorem dX8_turn_34 : decode cX8_turn 34 = .ok (.iload_n 1, 1) := dz_27 (dz_at q10w01_10_24 10)
theorem dX8_turn_35 : decode cX8_turn 35 = .ok (.isub, 1) := dz_100 (dz_at q10w01_10_24 11)
theorem dX8_turn_36 : decode cX8_turn 36 = .ok (.iaload, 1) := dz_46 (dz_at q10w01_10_24 12)
theorem dX8_turn_37 : decode cX8_turn 37 = .ok (.iastore, 1) := dz_79 (dz_at q10w01_10_24 13)
theorem dX8_turn_38 : decode cX8_turn 38 = .ok (.aload_n 0, 1) := dz_42 (dz_at q10w01_10_24 14)
theorem dX8_turn_39 : decode cX8_turn 39 = .ok (.getfield 9, 3) := dz_180 (dz_at q10w01_10_24 15) rfl
theorem dX8_turn_4 : decode cX8_turn 4 = .ok (.getfield 15, 3) := dz_180 (dz_at q10w01_10_0 4) rfl
theorem dX8_turn_42 : decode cX8_turn 42 = .ok (.aload_n 0, 1) := dz_42 (dz_at q10w01_10_24 18)
theorem dX8_turn_43 : decode cX8_turn 43 = .ok (.getfield 15, 3) := dz_180 (dz_at q10w01_10_24 19) rfl
theorem dX8_turn_46 : decode cX8_turn 46 = .ok (.iconst 1, 1) := dz_4 (dz_at q10w01_10_24 22)
theorem dX8_turn_47 : decode cX8_turn 47 = .ok (.isub, 1) := dz_100 (dz_at q10w01_10_24 23)
theorem dX8_turn_48 : decode cX8_turn 48 = .ok (.iload_n 1, 1) := dz_27 (dz_at q10w01_10_48 0)
theorem dX8_turn_49 : decode cX8_turn 49 = .ok (.isub, 1) := dz_100 (dz_at q10w01_10_48 1)
theorem dX8_turn_50 : decode cX8_turn 50 = .ok (.iload_n 2, 1) := dz_28 (dz_at q10w01_10_48 2)
theorem dX8_turn_51 : decode cX8_turn 51 = .ok (.iastore, 1) := dz_79 (dz_at q10w01_10_48 3)
theorem dX8_turn_52 : decode cX8_turn 52 = .ok (.iinc 1 1, 3) := dz_132 (dz_at q10w01_10_48 4) (by decide +kernel)
theorem dX8_turn_55 : decode cX8_turn 55 = .ok (.goto (-53), 3) := dz_167 (dz_at q10w01_10_48 7) (by decide +kernel)
theorem dX8_turn_58 : decode cX8_turn 58 = .ok (.return_, 1) := dz_177 (dz_at q10w01_10_48 10)
theorem dX8_turn_7 : decode cX8_turn 7 = .ok (.iconst 2, 1) := dz_5 (dz_at q10w01_10_0 7)
theorem dX8_turn_8 : decode cX8_turn 8 = .ok (.idiv, 1) := dz_108 (dz_at q10w01_10_0 8)
theorem dX8_turn_9 : decode cX8_turn 9 = .ok (.if_icmp .ge 49, 3) := dz_162 (dz_at q10w01_10_0 9) (by decide +kernel)
theorem dm_X8_has : yX8_has.cls = RX8 ∧ yX8_has.cls ≠ "java/lang/invoke/MethodHandle" ∧ yX8_has.cls ≠ "java/lang/invoke/VarHandle" ∧ (parseMethodDescriptor yX8_has.desc).map (fun d => d.parameters.length) = some 1 := by decide +kernel
theorem dm_X8_putBehind : yX8_putBehind.cls = RX8 ∧ yX8_putBehind.cls ≠ "java/lang/invoke/MethodHandle" ∧ yX8_putBehind.cls ≠ "java/lang/invoke/VarHandle" ∧ (parseMethodDescriptor yX8_putBehind.desc).map (fun d => d.parameters.length) = some 2 := by decide +kernel
theorem dm_X7_layTerm : yX7_layTerm.cls = RX7 ∧ yX7_layTerm.cls ≠ "java/lang/invoke/MethodHandle" ∧ yX7_layTerm.cls ≠ "java/lang/invoke/VarHandle" ∧ (parseMethodDescriptor yX7_layTerm.desc).map (fun d => d.parameters.length) = some 0 := by decide +kernel
theorem dm_X8_becomeInch : yX8_becomeInch.cls = RX8 ∧ yX8_becomeInch.cls ≠ "java/lang/invoke/MethodHandle" ∧ yX8_becomeInch.cls ≠ "java/lang/invoke/VarHandle" ∧ (parseMethodDescriptor yX8_becomeInch.desc).map (fun d => d.parameters.length) = some 1 := by decide +kernel
theorem dm_X7_repeatTerm : yX7_repeatTerm.cls = RX7 ∧ yX7_repeatTerm.cls ≠ "java/lang/invoke/MethodHandle" ∧ yX7_repeatTerm.cls ≠ "java/lang/invoke/VarHandle" ∧ (parseMethodDescriptor yX7_repeatTerm.desc).map (fun d => d.parameters.length) = some 1 := by decide +kernel
theorem dm_X8_addTo : yX8_addTo.cls = RX8 ∧ yX8_addTo.cls ≠ "java/lang/invoke/MethodHandle" ∧ yX8_addTo.cls ≠ "java/lang/invoke/VarHandle" ∧ (parseMethodDescriptor yX8_addTo.desc).map (fun d => d.parameters.length) = some 2 := by decide +kernel
theorem dm_X7_beginTerm : yX7_beginTerm.cls = RX7 ∧ yX7_beginTerm.cls ≠ "java/lang/invoke/MethodHandle" ∧ yX7_beginTerm.cls ≠ "java/lang/invoke/VarHandle" ∧ (parseMethodDescriptor yX7_beginTerm.desc).map (fun d => d.parameters.length) = some 1 := by decide +kernel
theorem dm_X7_openRow : yX7_openRow.cls = RX7 ∧ yX7_openRow.cls ≠ "java/lang/invoke/MethodHandle" ∧ yX7_openRow.cls ≠ "java/lang/invoke/VarHandle" ∧ (parseMethodDescriptor yX7_openRow.desc).map (fun d => d.parameters.length) = some 0 := by decide +kernel
theorem dm_X8_copy : yX8_copy.cls = RX8 ∧ yX8_copy.cls ≠ "java/lang/invoke/MethodHandle" ∧ yX8_copy.cls ≠ "java/lang/invoke/VarHandle" ∧ (parseMethodDescriptor yX8_copy.desc).map (fun d => d.parameters.length) = some 1 := by decide +kernel
theorem dm_X7_open : yX7_open.cls = RX7 ∧ yX7_open.cls ≠ "java/lang/invoke/MethodHandle" ∧ yX7_open.cls ≠ "java/lang/invoke/VarHandle" ∧ (parseMethodDescriptor yX7_open.desc).map (fun d => d.parameters.length) = some 0 := by decide +kernel
theorem dm_X7_close : yX7_close.cls = RX7 ∧ yX7_close.cls ≠ "java/lang/invoke/MethodHandle" ∧ yX7_close.cls ≠ "java/lang/invoke/VarHandle" ∧ (parseMethodDescriptor yX7_close.desc).map (fun d => d.parameters.length) = some 0 := by decide +kernel
theorem dm_X8_turn : yX8_turn.cls = RX8 ∧ yX8_turn.cls ≠ "java/lang/invoke/MethodHandle" ∧ yX8_turn.cls ≠ "java/lang/invoke/VarHandle" ∧ (parseMethodDescriptor yX8_turn.desc).map (fun d => d.parameters.length) = some 0 := by decide +kernel
set_option maxRecDepth 100000 in
def wC_Strip_addTo (j : Nat) (a0 : Int) (a1 : Int) (M : zM) (Q : zM → Prop) : Prop := wC_Strip_has j a0 M (fun z4 => (z4 = 0 → Q M) ∧ (z4 ≠ 0 → ((0 ≤ (sI a0) ∧ (sI a0) < 24) ∧ ((0 ≤ (sI a0) ∧ (sI a0) < 24) ∧ (∀ M10 : zM, M10 = zup M (j + 1) (sI a0).toNat (orI (M (j + 1) (sI a0).toNat) a1) → Q M10)))))
set_option maxHeartbeats 4000000 in
set_option maxRecDepth 100000 in
theorem cC_Strip_addTo (l : Launch) (D : va_G) (dA : Nat → ClassId) (b : Nat) (M : zM) (j : Nat) (a0 : Int) (a1 : Int) (lt_j : j < nC) (cd_j : zcd wC j = 6) (Q : zM → Prop) (h : wC_Strip_addTo j a0 a1 M Q) : Met l yX8_addTo (.code yX8_addTo cX8_addTo 3 none :: zt) (z_rm 1) (va_Pc [.ref (b + j), .int (iI a0), .int (iI a1)] (wPre D dA vwCl (z_tys dA) wC nC b M)) (va_Qv (wQv Q) (zB D dA vwCl wC nC b) (zA nC b)) 0 0 (zA nC b) := by
  unfold wC_Strip_addTo at h
  refine Met.ofW (cc := cX8_addTo) (maxL := 3) (ret := none) (by decide) rfl ?_
  intro p e s m args below meth c s₁ B hml hv
  obtain ⟨hargs, hS, hK⟩ := hv
  have hx := B.exec
  have hb := B.bytes
  have hr := B.returns
  have hts := atoms_spec (ws := .code yX8_addTo cX8_addTo 3 none :: zt) B.pre
  have hown : s.vm.findClass RX8 = some m.cls := findClass_of_methodNamed B.named
  have hlocks := B.notSynchronized
  have hS0 : va_S (zA nC b) s.heap s.heap [] := va_S.rf
  have hl := lv_entry ([.ref (b + j), .int (iI a0), .int (iI a1)]) (n := 3) (Nat.le_of_ble_eq_true rfl)
  have hent : entryFrame m args 3 = F0 m 0 ((lg_sl ([.ref (b + j), .int (iI a0), .int (iI a1)]) ++ List.replicate (3 - (lg_sl ([.ref (b + j), .int (iI a0), .int (iI a1)])).length) Slot.unset).toArray) [] := by rw [hargs]; exact lg_entry_eq m ([.ref (b + j), .int (iI a0), .int (iI a1)]) 3
  rw [hent]
  generalize (lg_sl ([.ref (b + j), .int (iI a0), .int (iI a1)]) ++ List.replicate (3 - (lg_sl ([.ref (b + j), .int (iI a0), .int (iI a1)])).length) Slot.unset).toArray = ls at hl ⊢
  have hl : lv_has ls 3 [(0, .ref (b + j)), (1, .int (iI a0)), (2, .int (iI a1))] := hl
  obtain ⟨lt1, cd2⟩ := nx_strip j lt_j cd_j
  refine lv_aload_n hx hb dX8_addTo_0 rfl (lv_at hl 0 rfl) ?_
  refine lv_iload_n hx hb dX8_addTo_1 rfl (lv_at hl 1 rfl) ?_
  refine w_callz (va_runV (As := [.int (iI a0)]) (rest := []) ⟨hx, hb, hml, hown, hts⟩ (cC_Strip_has l D dA b M j a0 lt_j cd_j _ h) (cwV 1 hts (z_gV k326 k327 k328 k3 k329) rfl rfl rfl dm_X8_has ⟨Nat.le_of_ble_eq_true rfl, Nat.le_of_ble_eq_true rfl⟩) ⟨wPre_blind, (w_recv hS hK.1 lt_j (zkd_of cd_j rfl) (by decide) (rfl : vwCl[8]? = some (RX8, TX8, 2))), w_pre hS hK⟩ rfl rfl hl.1 rfl (lv_room (Nat.le_of_ble_eq_true rfl)) dX8_addTo_2 ⟨Nat.le_refl _, Nat.le_refl _⟩) hS0 (fun z4 M3 H locs r5 h hS hS0 => ?_)
  obtain ⟨e6, h⟩ := h
  rw [e6] at hS
  refine w_if_eq (tgt := 18) hx hb (sI_01 r5) dX8_addTo_5 (by decide) (fun c7 => ?_) (fun c7 => ?_)
  · skip
    have h := h.1 c7
    exact w_vret hx hb hr hlocks hS hS0 h dX8_addTo_18
  · skip
    have h := h.2 c7
    refine lv_aload_n hx hb dX8_addTo_8 rfl (lv_at hl 0 rfl) ?_
    refine w_getr (j2 := (j + 1)) hx hb hts (z_memU u8) hown hK.1 hS f8_0 lt_j (zkd_of cd_j rfl) (zrf_of cd_j rfl) (Or.inl (hts _ (z_mem k41))) dX8_addTo_9 ?_
    refine lv_iload_n hx hb dX8_addTo_12 rfl (lv_at hl 1 rfl) ?_
    refine lv_dup2_11 hx hb dX8_addTo_13 rfl rfl ?_
    obtain ⟨o8, h⟩ := h
    refine w_iald (n := 24) (i := (sI a0)) hx hb hK.1 (t0 := 0) rfl hS lt1 (zkd_of cd2 rfl) (zln_of cd2 rfl) rfl o8.1 o8.2 (by decide) dX8_addTo_14 ?_
    refine lv_iload_n hx hb dX8_addTo_15 rfl (lv_at hl 2 rfl) ?_
    refine w_ior hx hb dX8_addTo_16 ?_
    obtain ⟨o9, h⟩ := h
    refine w_iast (z := (orI (M (j + 1) (sI a0).toNat) a1)) (n := 24) (i := (sI a0)) hx hb hK.1 (t0 := 0) rfl hS hS0 lt1 (zkd_of cd2 rfl) (zln_of cd2 rfl) rfl o9.1 o9.2 (by decide) dX8_addTo_17 (fun H locs hS hS0 => ?_)
    obtain ⟨M10, e11⟩ : ∃ M10 : zM, M10 = zup M (j + 1) (sI a0).toNat (orI (M (j + 1) (sI a0).toNat) a1) := ⟨_, rfl⟩
    rw [← e11] at hS
    have h := h M10 e11
    exact w_vret hx hb hr hlocks hS hS0 h dX8_addTo_18

set_option maxRecDepth 100000 in
def wC_Strip_putBehind (j : Nat) (a0 : Nat) (a1 : Int) (M : zM) (Q : zM → Prop) : Prop := wL2 (fun K14 x5 x6 M7 => ((sI (M7 a0 1)) ≤ (sI x6) → (∀ M16 : zM, M16 = zup M7 j 1 (max (sI (M7 j 1)) (sI x5)) → Q M16)) ∧ ((sI x6) < (sI (M7 a0 1)) → (24 ≤ (sI x5) → (∀ M19 : zM, M19 = zup M7 j 1 (max (sI (M7 j 1)) (sI x5)) → Q M19)) ∧ ((sI x5) < 24 → ((0 ≤ (sI x6) ∧ (sI x6) < 24) ∧ ((sI (M7 j 1)) ≤ (sI x5) → ((0 ≤ (sI x5) ∧ (sI x5) < 24) ∧ (∀ M24 : zM, M24 = zup M7 (j + 1) (sI x5).toNat (orI (M7 (a0 + 1) (sI x6).toNat) 0) → K14 (x5 + 1) (x6 + 1) M24))) ∧ ((sI x5) < (sI (M7 j 1)) → ((0 ≤ (sI x5) ∧ (sI x5) < 24) ∧ ((0 ≤ (sI x5) ∧ (sI x5) < 24) ∧ (∀ M30 : zM, M30 = zup M7 (j + 1) (sI x5).toNat (orI (M7 (a0 + 1) (sI x6).toNat) (M7 (j + 1) (sI x5).toNat)) → K14 (x5 + 1) (x6 + 1) M30)))))))) (max 0 (sI ((M j 1) - a1))) 0 M
set_option maxHeartbeats 4000000 in
set_option maxRecDepth 100000 in
theorem cC_Strip_putBehind (l : Launch) (D : va_G) (dA : Nat → ClassId) (b : Nat) (M : zM) (j : Nat) (a0 : Nat) (a1 : Int) (lt_j : j < nC) (cd_j : zcd wC j = 6) (lt_a0 : a0 < nC) (cd_a0 : zcd wC a0 = 6) (Q : zM → Prop) (h : wC_Strip_putBehind j a0 a1 M Q) : Met l yX8_putBehind (.code yX8_putBehind cX8_putBehind 5 none :: zt) (z_rm 1) (va_Pc [.ref (b + j), .ref (b + a0), .int (iI a1)] (wPre D dA vwCl (z_tys dA) wC nC b M)) (va_Qv (wQv Q) (zB D dA vwCl wC nC b) (zA nC b)) 0 0 (zA nC b) := by
  unfold wC_Strip_putBehind at h
  refine Met.ofW (cc := cX8_putBehind) (maxL := 5) (ret := none) (by decide) rfl ?_
  intro p e s m args below meth c s₁ B hml hv
  obtain ⟨hargs, hS, hK⟩ := hv
  have hx := B.exec
  have hb := B.bytes
  have hr := B.returns
  have hts := atoms_spec (ws := .code yX8_putBehind cX8_putBehind 5 none :: zt) B.pre
  have hown : s.vm.findClass RX8 = some m.cls := findClass_of_methodNamed B.named
  have hlocks := B.notSynchronized
  have hS0 : va_S (zA nC b) s.heap s.heap [] := va_S.rf
  have hl := lv_entry ([.ref (b + j), .ref (b + a0), .int (iI a1)]) (n := 5) (Nat.le_of_ble_eq_true rfl)
  have hent : entryFrame m args 5 = F0 m 0 ((lg_sl ([.ref (b + j), .ref (b + a0), .int (iI a1)]) ++ List.replicate (5 - (lg_sl ([.ref (b + j), .ref (b + a0), .int (iI a1)])).length) Slot.unset).toArray) [] := by rw [hargs]; exact lg_entry_eq m ([.ref (b + j), .ref (b + a0), .int (iI a1)]) 5
  rw [hent]
  generalize (lg_sl ([.ref (b + j), .ref (b + a0), .int (iI a1)]) ++ List.replicate (5 - (lg_sl ([.ref (b + j), .ref (b + a0), .int (iI a1)])).length) Slot.unset).toArray = ls at hl ⊢
  have hl : lv_has ls 5 [(0, .ref (b + j)), (1, .ref (b + a0)), (2, .int (iI a1))] := hl
  obtain ⟨lt1, cd2⟩ := nx_strip j lt_j cd_j
  obtain ⟨lt3, cd4⟩ := nx_strip a0 lt_a0 cd_a0
  refine z_iconst hx hb dX8_putBehind_0 ?_
  refine lv_aload_n hx hb dX8_putBehind_1 rfl (lv_at hl 0 rfl) ?_
  refine w_geti hx hb hts (z_memU u8) hown hK.1 hS f8_1 lt_j (zkd_of cd_j rfl) (Or.inl (hts _ (z_mem k44))) dX8_putBehind_2 ?_
  refine lv_iload_n hx hb dX8_putBehind_5 rfl (lv_at hl 2 rfl) ?_
  refine z_isub hx hb dX8_putBehind_6 ?_
  refine w_mmax hx hb (hml.trans hl.1.symm) hown (hts _ (z_mem k340)) (hts _ (z_mem k341)) (hts _ (z_mem k15)) (hts _ (z_mem k342)) (by exact Nat.le_of_ble_eq_true rfl) (by exact Nat.le_of_ble_eq_true rfl) (by exact Nat.le_refl _) (by exact Nat.le_refl _) (sI_of (by decide)) rfl dX8_putBehind_7 ?_
  refine lv_istore_n (lv' := [(3, .int (iI (max 0 (sI ((M j 1) - a1))))), (0, .ref (b + j)), (1, .ref (b + a0)), (2, .int (iI a1))]) hx hb dX8_putBehind_10 rfl hl (by decide) rfl (fun ls hl => ?_)
  refine z_iconst hx hb dX8_putBehind_11 ?_
  refine lv_istore (lv' := [(4, .int (iI 0)), (3, .int (iI (max 0 (sI ((M j 1) - a1))))), (0, .ref (b + j)), (1, .ref (b + a0)), (2, .int (iI a1))]) hx hb dX8_putBehind_12 hl (by decide) rfl (fun ls hl => ?_)
  obtain ⟨I8, ⟨n9, h10⟩, h11⟩ := h
  have L12 : ∀ (n13 : Nat) (x5 x6 : Int) (M7 : zM) (H : Heap) (locs : List Loc) (ls : Array Slot), I8 n13 x5 x6 M7 → zR D dA vwCl wC nC b M7 H → va_S (zA nC b) s.heap H locs → lv_has ls 5 [(0, .ref (b + j)), (1, .ref (b + a0)), (3, .int (iI x5)), (4, .int (iI x6))] → W p l e (headSpec (.code yX8_putBehind cX8_putBehind 5 none :: zt) (z_rm 1)).room s m args below meth c H locs 0 0 (MQ below (va_Qv (wQv Q) (zB D dA vwCl wC nC b) (zA nC b)) args s 0 0 (zA nC b)) (F0 m 14 ls []) := by
    intro n13
    induction n13 using Nat.strongRecOn with
    | ind n13 i14 =>
      intro x5 x6 M7 H locs ls h hS hS0 hl
      have h := h11 n13 x5 x6 M7 h
      refine lv_iload hx hb dX8_putBehind_14 (lv_at hl 3 rfl) ?_
      refine lv_aload_n hx hb dX8_putBehind_16 rfl (lv_at hl 1 rfl) ?_
      refine w_geti hx hb hts (z_memU u8) hown hK.1 hS f8_1 lt_a0 (zkd_of cd_a0 rfl) (Or.inl (hts _ (z_mem k44))) dX8_putBehind_17 ?_
      refine w_icmp_ge (tgt := 73) hx hb rfl rfl dX8_putBehind_20 (by decide) (fun c15 => ?_) (fun c15 => ?_)
      · skip
        have h := h.1 c15
        refine lv_aload_n hx hb dX8_putBehind_73 rfl (lv_at hl 0 rfl) ?_
        refine lv_aload_n hx hb dX8_putBehind_74 rfl (lv_at hl 0 rfl) ?_
        refine w_geti hx hb hts (z_memU u8) hown hK.1 hS f8_1 lt_j (zkd_of cd_j rfl) (Or.inl (hts _ (z_mem k44))) dX8_putBehind_75 ?_
        refine lv_iload_n hx hb dX8_putBehind_78 rfl (lv_at hl 2 rfl) ?_
        refine w_mmax hx hb (hml.trans hl.1.symm) hown (hts _ (z_mem k340)) (hts _ (z_mem k341)) (hts _ (z_mem k15)) (hts _ (z_mem k342)) (by exact Nat.le_of_ble_eq_true rfl) (by exact Nat.le_of_ble_eq_true rfl) (by exact Nat.le_refl _) (by exact Nat.le_refl _) rfl rfl dX8_putBehind_79 ?_
        refine w_puti hx hb hts (z_memU u8) tyX8 tyX8_ok nmX8 hown hK.1 hS hS0 f8_1 lt_j (zkd_of cd_j rfl) (Or.inl (hts _ (z_mem k44))) rfl (z := (max (sI (M7 j 1)) (sI x5))) (by decide +kernel) dX8_putBehind_82 (fun H locs hS hS0 => ?_)
        obtain ⟨M16, e17⟩ : ∃ M16 : zM, M16 = zup M7 j 1 (max (sI (M7 j 1)) (sI x5)) := ⟨_, rfl⟩
        rw [← e17] at hS
        have h := h M16 e17
        exact w_vret hx hb hr hlocks hS hS0 h dX8_putBehind_85
      · skip
        have h := h.2 c15
        refine lv_iload_n hx hb dX8_putBehind_23 rfl (lv_at hl 2 rfl) ?_
        refine lv_aload_n hx hb dX8_putBehind_24 rfl (lv_at hl 0 rfl) ?_
        refine w_getr (j2 := (j + 1)) hx hb hts (z_memU u8) hown hK.1 hS f8_0 lt_j (zkd_of cd_j rfl) (zrf_of cd_j rfl) (Or.inl (hts _ (z_mem k41))) dX8_putBehind_25 ?_
        refine w_alen (n := 24) hx hb hK.1 (t0 := 0) rfl hS lt1 (zkd_of cd2 rfl) (zln_of cd2 rfl) dX8_putBehind_28 ?_
        refine z_top (show (((24 : Nat) : Int)) = 24 from by decide) ?_
        refine w_icmp_ge (tgt := 73) hx hb rfl (sI_of (by decide)) dX8_putBehind_29 (by decide) (fun c18 => ?_) (fun c18 => ?_)
        · skip
          have h := h.1 c18
          refine lv_aload_n hx hb dX8_putBehind_73 rfl (lv_at hl 0 rfl) ?_
          refine lv_aload_n hx hb dX8_putBehind_74 rfl (lv_at hl 0 rfl) ?_
          refine w_geti hx hb hts (z_memU u8) hown hK.1 hS f8_1 lt_j (zkd_of cd_j rfl) (Or.inl (hts _ (z_mem k44))) dX8_putBehind_75 ?_
          refine lv_iload_n hx hb dX8_putBehind_78 rfl (lv_at hl 2 rfl) ?_
          refine w_mmax hx hb (hml.trans hl.1.symm) hown (hts _ (z_mem k340)) (hts _ (z_mem k341)) (hts _ (z_mem k15)) (hts _ (z_mem k342)) (by exact Nat.le_of_ble_eq_true rfl) (by exact Nat.le_of_ble_eq_true rfl) (by exact Nat.le_refl _) (by exact Nat.le_refl _) rfl rfl dX8_putBehind_79 ?_
          refine w_puti hx hb hts (z_memU u8) tyX8 tyX8_ok nmX8 hown hK.1 hS hS0 f8_1 lt_j (zkd_of cd_j rfl) (Or.inl (hts _ (z_mem k44))) rfl (z := (max (sI (M7 j 1)) (sI x5))) (by decide +kernel) dX8_putBehind_82 (fun H locs hS hS0 => ?_)
          obtain ⟨M19, e20⟩ : ∃ M19 : zM, M19 = zup M7 j 1 (max (sI (M7 j 1)) (sI x5)) := ⟨_, rfl⟩
          rw [← e20] at hS
          have h := h M19 e20
          exact w_vret hx hb hr hlocks hS hS0 h dX8_putBehind_85
        · skip
          have h := h.2 c18
          refine lv_aload_n hx hb dX8_putBehind_32 rfl (lv_at hl 0 rfl) ?_
          refine w_getr (j2 := (j + 1)) hx hb hts (z_memU u8) hown hK.1 hS f8_0 lt_j (zkd_of cd_j rfl) (zrf_of cd_j rfl) (Or.inl (hts _ (z_mem k41))) dX8_putBehind_33 ?_
          refine lv_iload_n hx hb dX8_putBehind_36 rfl (lv_at hl 2 rfl) ?_
          refine lv_aload_n hx hb dX8_putBehind_37 rfl (lv_at hl 1 rfl) ?_
          refine w_getr (j2 := (a0 + 1)) hx hb hts (z_memU u8) hown hK.1 hS f8_0 lt_a0 (zkd_of cd_a0 rfl) (zrf_of cd_a0 rfl) (Or.inl (hts _ (z_mem k41))) dX8_putBehind_38 ?_
          refine lv_iload hx hb dX8_putBehind_41 (lv_at hl 3 rfl) ?_
          obtain ⟨o21, h⟩ := h
          refine w_iald (n := 24) (i := (sI x6)) hx hb hK.1 (t0 := 0) rfl hS lt3 (zkd_of cd4 rfl) (zln_of cd4 rfl) rfl o21.1 o21.2 (by decide) dX8_putBehind_43 ?_
          refine lv_iload_n hx hb dX8_putBehind_44 rfl (lv_at hl 2 rfl) ?_
          refine lv_aload_n hx hb dX8_putBehind_45 rfl (lv_at hl 0 rfl) ?_
          refine w_geti hx hb hts (z_memU u8) hown hK.1 hS f8_1 lt_j (zkd_of cd_j rfl) (Or.inl (hts _ (z_mem k44))) dX8_putBehind_46 ?_
          refine w_icmp_ge (tgt := 61) hx hb rfl rfl dX8_putBehind_49 (by decide) (fun c22 => ?_) (fun c22 => ?_)
          · skip
            have h := h.1 c22
            refine z_iconst hx hb dX8_putBehind_61 ?_
            refine w_ior hx hb dX8_putBehind_62 ?_
            obtain ⟨o23, h⟩ := h
            refine w_iast (z := (orI (M7 (a0 + 1) (sI x6).toNat) 0)) (n := 24) (i := (sI x5)) hx hb hK.1 (t0 := 0) rfl hS hS0 lt1 (zkd_of cd2 rfl) (zln_of cd2 rfl) rfl o23.1 o23.2 (by decide) dX8_putBehind_63 (fun H locs hS hS0 => ?_)
            obtain ⟨M24, e25⟩ : ∃ M24 : zM, M24 = zup M7 (j + 1) (sI x5).toNat (orI (M7 (a0 + 1) (sI x6).toNat) 0) := ⟨_, rfl⟩
            rw [← e25] at hS
            have h := h M24 e25
            refine z_iinc (lv' := [(3, .int (iI (x5 + 1))), (0, .ref (b + j)), (1, .ref (b + a0)), (4, .int (iI x6))]) hx hb dX8_putBehind_64 hl (k := 2) rfl (by decide) rfl (fun ls hl => ?_)
            refine z_iinc (lv' := [(4, .int (iI (x6 + 1))), (3, .int (iI (x5 + 1))), (0, .ref (b + j)), (1, .ref (b + a0))]) hx hb dX8_putBehind_67 hl (k := 3) rfl (by decide) rfl (fun ls hl => ?_)
            refine lv_goto (tgt := 14) hx hb dX8_putBehind_70 (by decide) ?_
            obtain ⟨n26, h27, h⟩ := h
            exact i14 n26 h27 (x5 + 1) (x6 + 1) M24 _ _ _ h hS hS0 (lv_sub hl [2, 3, 1, 0] rfl)
          · skip
            have h := h.2 c22
            refine lv_aload_n hx hb dX8_putBehind_52 rfl (lv_at hl 0 rfl) ?_
            refine w_getr (j2 := (j + 1)) hx hb hts (z_memU u8) hown hK.1 hS f8_0 lt_j (zkd_of cd_j rfl) (zrf_of cd_j rfl) (Or.inl (hts _ (z_mem k41))) dX8_putBehind_53 ?_
            refine lv_iload_n hx hb dX8_putBehind_56 rfl (lv_at hl 2 rfl) ?_
            obtain ⟨o28, h⟩ := h
            refine w_iald (n := 24) (i := (sI x5)) hx hb hK.1 (t0 := 0) rfl hS lt1 (zkd_of cd2 rfl) (zln_of cd2 rfl) rfl o28.1 o28.2 (by decide) dX8_putBehind_57 ?_
            refine lv_goto (tgt := 62) hx hb dX8_putBehind_58 (by decide) ?_
            refine w_ior hx hb dX8_putBehind_62 ?_
            obtain ⟨o29, h⟩ := h
            refine w_iast (z := (orI (M7 (a0 + 1) (sI x6).toNat) (M7 (j + 1) (sI x5).toNat))) (n := 24) (i := (sI x5)) hx hb hK.1 (t0 := 0) rfl hS hS0 lt1 (zkd_of cd2 rfl) (zln_of cd2 rfl) rfl o29.1 o29.2 (by decide) dX8_putBehind_63 (fun H locs hS hS0 => ?_)
            obtain ⟨M30, e31⟩ : ∃ M30 : zM, M30 = zup M7 (j + 1) (sI x5).toNat (orI (M7 (a0 + 1) (sI x6).toNat) (M7 (j + 1) (sI x5).toNat)) := ⟨_, rfl⟩
            rw [← e31] at hS
            have h := h M30 e31
            refine z_iinc (lv' := [(3, .int (iI (x5 + 1))), (0, .ref (b + j)), (1, .ref (b + a0)), (4, .int (iI x6))]) hx hb dX8_putBehind_64 hl (k := 2) rfl (by decide) rfl (fun ls hl => ?_)
            refine z_iinc (lv' := [(4, .int (iI (x6 + 1))), (3, .int (iI (x5 + 1))), (0, .ref (b + j)), (1, .ref (b + a0))]) hx hb dX8_putBehind_67 hl (k := 3) rfl (by decide) rfl (fun ls hl => ?_)
            refine lv_goto (tgt := 14) hx hb dX8_putBehind_70 (by decide) ?_
            obtain ⟨n32, h33, h⟩ := h
            exact i14 n32 h33 (x5 + 1) (x6 + 1) M30 _ _ _ h hS hS0 (lv_sub hl [2, 3, 1, 0] rfl)
  exact L12 n9 (max 0 (sI ((M j 1) - a1))) 0 M _ _ _ h10 hS hS0 (lv_sub hl [2, 3, 1, 0] rfl)

set_option maxRecDepth 100000 in
def wC_Splicer_layTerm  (M : zM) (Q : Int → zM → Prop) : Prop := ((0 ≤ (sI (M 1 2)) ∧ (sI (M 1 2)) < 6) ∧ ((0 ≤ (sI (M 1 2)) ∧ (sI (M 1 2)) < 6) ∧ ((sI (M (8 + 4 * (sI (M 1 2)).toNat) 1)) ≠ 0 → ((0 ≤ (sI (M 1 2)) ∧ (sI (M 1 2)) < 6) ∧ ((sI (M 5 (sI (M 1 2)).toNat)) ≤ (sI (M (8 + 4 * (sI (M 1 2)).toNat) 1)) → ((sI (((M (6 + 4 * (sI (M 1 2)).toNat) 1) + (M (8 + 4 * (sI (M 1 2)).toNat) 1)) - (M 5 (sI (M 1 2)).toNat))) ≤ 24 → wC_Strip_putBehind (6 + 4 * (sI (M 1 2)).toNat) (8 + 4 * (sI (M 1 2)).toNat) (M 5 (sI (M 1 2)).toNat) M (fun M15 => (∀ M16 : zM, M16 = zup M15 (8 + 4 * (sI (M 1 2)).toNat) 1 0 → ((0 ≤ (sI (M16 1 2)) ∧ (sI (M16 1 2)) < 6) ∧ (∀ M19 : zM, M19 = zup M16 5 (sI (M16 1 2)).toNat 0 → Q 0 M19))))) ∧ (24 < (sI (((M (6 + 4 * (sI (M 1 2)).toNat) 1) + (M (8 + 4 * (sI (M 1 2)).toNat) 1)) - (M 5 (sI (M 1 2)).toNat))) → Q (-100) M)) ∧ ((sI (M (8 + 4 * (sI (M 1 2)).toNat) 1)) < (sI (M 5 (sI (M 1 2)).toNat)) → Q (-101) M))) ∧ ((sI (M (8 + 4 * (sI (M 1 2)).toNat) 1)) = 0 → Q 0 M)))
set_option maxHeartbeats 4000000 in
set_option maxRecDepth 100000 in
theorem cC_Splicer_layTerm (l : Launch) (D : va_G) (dA : Nat → ClassId) (b : Nat) (M : zM)   (Q : Int → zM → Prop) (h : wC_Splicer_layTerm  M Q) : Met l yX7_layTerm (.code yX7_layTerm cX7_layTerm 4 (some .int) :: zt) (z_rm 2) (va_Pc [.ref (b + 1)] (wPre D dA vwCl (z_tys dA) wC nC b M)) (va_Qi (wQi Q) (zB D dA vwCl wC nC b) (zA nC b)) 0 0 (zA nC b) := by
  unfold wC_Splicer_layTerm at h
  refine Met.ofW (cc := cX7_layTerm) (maxL := 4) (ret := (some .int)) (by decide) rfl ?_
  intro p e s m args below meth c s₁ B hml hv
  obtain ⟨hargs, hS, hK⟩ := hv
  have hx := B.exec
  have hb := B.bytes
  have hr := B.returns
  have hts := atoms_spec (ws := .code yX7_layTerm cX7_layTerm 4 (some .int) :: zt) B.pre
  have hown : s.vm.findClass RX7 = some m.cls := findClass_of_methodNamed B.named
  have hlocks := B.notSynchronized
  have hS0 : va_S (zA nC b) s.heap s.heap [] := va_S.rf
  have hl := lv_entry ([.ref (b + 1)]) (n := 4) (Nat.le_of_ble_eq_true rfl)
  have hent : entryFrame m args 4 = F0 m 0 ((lg_sl ([.ref (b + 1)]) ++ List.replicate (4 - (lg_sl ([.ref (b + 1)])).length) Slot.unset).toArray) [] := by rw [hargs]; exact lg_entry_eq m ([.ref (b + 1)]) 4
  rw [hent]
  generalize (lg_sl ([.ref (b + 1)]) ++ List.replicate (4 - (lg_sl ([.ref (b + 1)])).length) Slot.unset).toArray = ls at hl ⊢
  have hl : lv_has ls 4 [(0, .ref (b + 1))] := hl
  refine lv_aload_n hx hb dX7_layTerm_0 rfl (lv_at hl 0 rfl) ?_
  refine w_getr (j2 := 3) hx hb hts (z_memU u7) hown hK.1 hS f7_4 (by decide) (zkd_of (rfl : zcd wC 1 = 1) rfl) (zrf_of (rfl : zcd wC 1 = 1) rfl) (Or.inl (hts _ (z_mem k59))) dX7_layTerm_1 ?_
  refine lv_aload_n hx hb dX7_layTerm_4 rfl (lv_at hl 0 rfl) ?_
  refine w_geti hx hb hts (z_memU u7) hown hK.1 hS f7_2 (by decide) (zkd_of (rfl : zcd wC 1 = 1) rfl) (Or.inl (hts _ (z_mem k57))) dX7_layTerm_5 ?_
  obtain ⟨o1, h⟩ := h
  refine w_aald (n := 6) (i := (sI (M 1 2))) (j2 := (6 + 4 * (sI (M 1 2)).toNat)) hx hb hK.1 (t0 := 4) (r := 4) (by decide) rfl rfl hS (by decide) (zkd_of (rfl : zcd wC 3 = 3) rfl) (zln_of (rfl : zcd wC 3 = 3) rfl) rfl o1.1 o1.2 (by decide) (zrf_of (rfl : zcd wC 3 = 3) rfl) dX7_layTerm_8 ?_
  obtain ⟨lt2, cd3⟩ : (6 + 4 * (sI (M 1 2)).toNat) < nC ∧ zcd wC (6 + 4 * (sI (M 1 2)).toNat) = 6 := (by decide : ∀ k : Nat, k < 6 → (6 + 4 * k) < nC ∧ zcd wC (6 + 4 * k) = 6) (sI (M 1 2)).toNat (by clear h; have h0 := o1.1; have h1 := o1.2; omega)
  obtain ⟨lt4, cd5⟩ := nx_strip (6 + 4 * (sI (M 1 2)).toNat) lt2 cd3
  refine lv_astore_n (lv' := [(1, .ref (b + (6 + 4 * (sI (M 1 2)).toNat))), (0, .ref (b + 1))]) hx hb dX7_layTerm_9 rfl hl (by decide) rfl (fun ls hl => ?_)
  refine lv_aload_n hx hb dX7_layTerm_10 rfl (lv_at hl 1 rfl) ?_
  refine w_getr (j2 := 4) hx hb hts (z_memU u7) hown hK.1 hS f7_5 (by decide) (zkd_of (rfl : zcd wC 1 = 1) rfl) (zrf_of (rfl : zcd wC 1 = 1) rfl) (Or.inl (hts _ (z_mem k60))) dX7_layTerm_11 ?_
  refine lv_aload_n hx hb dX7_layTerm_14 rfl (lv_at hl 1 rfl) ?_
  refine w_geti hx hb hts (z_memU u7) hown hK.1 hS f7_2 (by decide) (zkd_of (rfl : zcd wC 1 = 1) rfl) (Or.inl (hts _ (z_mem k57))) dX7_layTerm_15 ?_
  obtain ⟨o6, h⟩ := h
  refine w_aald (n := 6) (i := (sI (M 1 2))) (j2 := (8 + 4 * (sI (M 1 2)).toNat)) hx hb hK.1 (t0 := 4) (r := 4) (by decide) rfl rfl hS (by decide) (zkd_of (rfl : zcd wC 4 = 4) rfl) (zln_of (rfl : zcd wC 4 = 4) rfl) rfl o6.1 o6.2 (by decide) (zrf_of (rfl : zcd wC 4 = 4) rfl) dX7_layTerm_18 ?_
  obtain ⟨lt7, cd8⟩ : (8 + 4 * (sI (M 1 2)).toNat) < nC ∧ zcd wC (8 + 4 * (sI (M 1 2)).toNat) = 6 := (by decide : ∀ k : Nat, k < 6 → (8 + 4 * k) < nC ∧ zcd wC (8 + 4 * k) = 6) (sI (M 1 2)).toNat (by clear h; have h0 := o6.1; have h1 := o6.2; omega)
  obtain ⟨lt9, cd10⟩ := nx_strip (8 + 4 * (sI (M 1 2)).toNat) lt7 cd8
  refine lv_astore_n (lv' := [(2, .ref (b + (8 + 4 * (sI (M 1 2)).toNat))), (1, .ref (b + (6 + 4 * (sI (M 1 2)).toNat))), (0, .ref (b + 1))]) hx hb dX7_layTerm_19 rfl hl (by decide) rfl (fun ls hl => ?_)
  refine lv_aload_n hx hb dX7_layTerm_20 rfl (lv_at hl 0 rfl) ?_
  refine w_geti hx hb hts (z_memU u8) hown hK.1 hS f8_1 lt7 (zkd_of cd8 rfl) (Or.inl (hts _ (z_mem k46))) dX7_layTerm_21 ?_
  refine w_if_ne (tgt := 29) hx hb rfl dX7_layTerm_24 (by decide) (fun c11 => ?_) (fun c11 => ?_)
  · skip
    have h := h.1 c11
    refine lv_aload_n hx hb dX7_layTerm_29 rfl (lv_at hl 2 rfl) ?_
    refine w_getr (j2 := 5) hx hb hts (z_memU u7) hown hK.1 hS f7_6 (by decide) (zkd_of (rfl : zcd wC 1 = 1) rfl) (zrf_of (rfl : zcd wC 1 = 1) rfl) (Or.inl (hts _ (z_mem k61))) dX7_layTerm_30 ?_
    refine lv_aload_n hx hb dX7_layTerm_33 rfl (lv_at hl 2 rfl) ?_
    refine w_geti hx hb hts (z_memU u7) hown hK.1 hS f7_2 (by decide) (zkd_of (rfl : zcd wC 1 = 1) rfl) (Or.inl (hts _ (z_mem k57))) dX7_layTerm_34 ?_
    obtain ⟨o12, h⟩ := h
    refine w_iald (n := 6) (i := (sI (M 1 2))) hx hb hK.1 (t0 := 0) rfl hS (by decide) (zkd_of (rfl : zcd wC 5 = 5) rfl) (zln_of (rfl : zcd wC 5 = 5) rfl) rfl o12.1 o12.2 (by decide) dX7_layTerm_37 ?_
    refine lv_istore_n (lv' := [(3, .int (iI (M 5 (sI (M 1 2)).toNat))), (2, .ref (b + (8 + 4 * (sI (M 1 2)).toNat))), (1, .ref (b + (6 + 4 * (sI (M 1 2)).toNat))), (0, .ref (b + 1))]) hx hb dX7_layTerm_38 rfl hl (by decide) rfl (fun ls hl => ?_)
    refine lv_iload_n hx hb dX7_layTerm_39 rfl (lv_at hl 0 rfl) ?_
    refine lv_aload_n hx hb dX7_layTerm_40 rfl (lv_at hl 1 rfl) ?_
    refine w_geti hx hb hts (z_memU u8) hown hK.1 hS f8_1 lt7 (zkd_of cd8 rfl) (Or.inl (hts _ (z_mem k46))) dX7_layTerm_41 ?_
    refine w_icmp_le (tgt := 50) hx hb rfl rfl dX7_layTerm_44 (by decide) (fun c13 => ?_) (fun c13 => ?_)
    · skip
      have h := h.1 c13
      refine lv_aload_n hx hb dX7_layTerm_50 rfl (lv_at hl 2 rfl) ?_
      refine w_geti hx hb hts (z_memU u8) hown hK.1 hS f8_1 lt2 (zkd_of cd3 rfl) (Or.inl (hts _ (z_mem k46))) dX7_layTerm_51 ?_
      refine lv_aload_n hx hb dX7_layTerm_54 rfl (lv_at hl 1 rfl) ?_
      refine w_geti hx hb hts (z_memU u8) hown hK.1 hS f8_1 lt7 (zkd_of cd8 rfl) (Or.inl (hts _ (z_mem k46))) dX7_layTerm_55 ?_
      refine z_iadd hx hb dX7_layTerm_58 ?_
      refine lv_iload_n hx hb dX7_layTerm_59 rfl (lv_at hl 0 rfl) ?_
      refine z_isub hx hb dX7_layTerm_60 ?_
      refine z_bipush hx hb (by decide) dX7_layTerm_61 ?_
      refine w_icmp_le (tgt := 69) hx hb rfl (sI_of (by decide)) dX7_layTerm_63 (by decide) (fun c14 => ?_) (fun c14 => ?_)
      · skip
        have h := h.1 c14
        refine lv_aload_n hx hb dX7_layTerm_69 rfl (lv_at hl 2 rfl) ?_
        refine lv_aload_n hx hb dX7_layTerm_70 rfl (lv_at hl 1 rfl) ?_
        refine lv_iload_n hx hb dX7_layTerm_71 rfl (lv_at hl 0 rfl) ?_
        refine w_callv (va_runV (As := [.ref (b + (8 + 4 * (sI (M 1 2)).toNat)), .int (iI (M 5 (sI (M 1 2)).toNat))]) (rest := []) ⟨hx, hb, hml, hown, hts⟩ (cC_Strip_putBehind l D dA b M (6 + 4 * (sI (M 1 2)).toNat) (8 + 4 * (sI (M 1 2)).toNat) (M 5 (sI (M 1 2)).toNat) lt2 cd3 lt7 cd8 _ h) (cwV 2 hts (z_gV k336 k337 k338 k3 k339) rfl rfl rfl dm_X8_putBehind ⟨Nat.le_of_ble_eq_true rfl, Nat.le_of_ble_eq_true rfl⟩) ⟨wPre_blind, (w_recv hS hK.1 lt2 (zkd_of cd3 rfl) (by decide) (rfl : vwCl[8]? = some (RX8, TX8, 2))), w_pre hS hK⟩ rfl rfl hl.1 rfl (lv_room (Nat.le_of_ble_eq_true rfl)) dX7_layTerm_72 ⟨Nat.le_refl _, Nat.le_refl _⟩) hS0 (fun M15 H locs h hS hS0 => ?_)
        refine lv_aload_n hx hb dX7_layTerm_75 rfl (lv_at hl 1 rfl) ?_
        refine z_iconst hx hb dX7_layTerm_76 ?_
        refine w_puti hx hb hts (z_memU u8) tyX8 tyX8_ok nmX8 hown hK.1 hS hS0 f8_1 lt7 (zkd_of cd8 rfl) (Or.inl (hts _ (z_mem k46))) rfl (z := 0) (by decide +kernel) dX7_layTerm_77 (fun H locs hS hS0 => ?_)
        obtain ⟨M16, e17⟩ : ∃ M16 : zM, M16 = zup M15 (8 + 4 * (sI (M 1 2)).toNat) 1 0 := ⟨_, rfl⟩
        rw [← e17] at hS
        have h := h M16 e17
        refine lv_aload_n hx hb dX7_layTerm_80 rfl (lv_at hl 3 rfl) ?_
        refine w_getr (j2 := 5) hx hb hts (z_memU u7) hown hK.1 hS f7_6 (by decide) (zkd_of (rfl : zcd wC 1 = 1) rfl) (zrf_of (rfl : zcd wC 1 = 1) rfl) (Or.inl (hts _ (z_mem k61))) dX7_layTerm_81 ?_
        refine lv_aload_n hx hb dX7_layTerm_84 rfl (lv_at hl 3 rfl) ?_
        refine w_geti hx hb hts (z_memU u7) hown hK.1 hS f7_2 (by decide) (zkd_of (rfl : zcd wC 1 = 1) rfl) (Or.inl (hts _ (z_mem k57))) dX7_layTerm_85 ?_
        refine z_iconst hx hb dX7_layTerm_88 ?_
        obtain ⟨o18, h⟩ := h
        refine w_iast (z := 0) (n := 6) (i := (sI (M16 1 2))) hx hb hK.1 (t0 := 0) rfl hS hS0 (by decide) (zkd_of (rfl : zcd wC 5 = 5) rfl) (zln_of (rfl : zcd wC 5 = 5) rfl) rfl o18.1 o18.2 (by decide) dX7_layTerm_89 (fun H locs hS hS0 => ?_)
        obtain ⟨M19, e20⟩ : ∃ M19 : zM, M19 = zup M16 5 (sI (M16 1 2)).toNat 0 := ⟨_, rfl⟩
        rw [← e20] at hS
        have h := h M19 e20
        refine z_iconst hx hb dX7_layTerm_90 ?_
        exact w_iret hx hb hr hlocks hS hS0 (sI_of (by decide)) h dX7_layTerm_91
      · skip
        have h := h.2 c14
        refine z_bipush hx hb (by decide) dX7_layTerm_66 ?_
        exact w_iret hx hb hr hlocks hS hS0 (sI_of (by decide)) h dX7_layTerm_68
    · skip
      have h := h.2 c13
      refine z_bipush hx hb (by decide) dX7_layTerm_47 ?_
      exact w_iret hx hb hr hlocks hS hS0 (sI_of (by decide)) h dX7_layTerm_49
  · skip
    have h := h.2 c11
    refine z_iconst hx hb dX7_layTerm_27 ?_
    exact w_iret hx hb hr hlocks hS hS0 (sI_of (by decide)) h dX7_layTerm_28

set_option maxRecDepth 100000 in
def wC_Strip_becomeInch (j : Nat) (a0 : Int) (M : zM) (Q : zM → Prop) : Prop := (∀ M3 : zM, M3 = zup M (j + 1) 0 a0 → (∀ M5 : zM, M5 = zup M3 j 1 1 → Q M5))
set_option maxHeartbeats 4000000 in
set_option maxRecDepth 100000 in
theorem cC_Strip_becomeInch (l : Launch) (D : va_G) (dA : Nat → ClassId) (b : Nat) (M : zM) (j : Nat) (a0 : Int) (lt_j : j < nC) (cd_j : zcd wC j = 6) (Q : zM → Prop) (h : wC_Strip_becomeInch j a0 M Q) : Met l yX8_becomeInch (.code yX8_becomeInch cX8_becomeInch 2 none :: zt) (z_rm 0) (va_Pc [.ref (b + j), .int (iI a0)] (wPre D dA vwCl (z_tys dA) wC nC b M)) (va_Qv (wQv Q) (zB D dA vwCl wC nC b) (zA nC b)) 0 0 (zA nC b) := by
  unfold wC_Strip_becomeInch at h
  refine Met.ofW (cc := cX8_becomeInch) (maxL := 2) (ret := none) (by decide) rfl ?_
  intro p e s m args below meth c s₁ B hml hv
  obtain ⟨hargs, hS, hK⟩ := hv
  have hx := B.exec
  have hb := B.bytes
  have hr := B.returns
  have hts := atoms_spec (ws := .code yX8_becomeInch cX8_becomeInch 2 none :: zt) B.pre
  have hown : s.vm.findClass RX8 = some m.cls := findClass_of_methodNamed B.named
  have hlocks := B.notSynchronized
  have hS0 : va_S (zA nC b) s.heap s.heap [] := va_S.rf
  have hl := lv_entry ([.ref (b + j), .int (iI a0)]) (n := 2) (Nat.le_of_ble_eq_true rfl)
  have hent : entryFrame m args 2 = F0 m 0 ((lg_sl ([.ref (b + j), .int (iI a0)]) ++ List.replicate (2 - (lg_sl ([.ref (b + j), .int (iI a0)])).length) Slot.unset).toArray) [] := by rw [hargs]; exact lg_entry_eq m ([.ref (b + j), .int (iI a0)]) 2
  rw [hent]
  generalize (lg_sl ([.ref (b + j), .int (iI a0)]) ++ List.replicate (2 - (lg_sl ([.ref (b + j), .int (iI a0)])).length) Slot.unset).toArray = ls at hl ⊢
  have hl : lv_has ls 2 [(0, .ref (b + j)), (1, .int (iI a0))] := hl
  obtain ⟨lt1, cd2⟩ := nx_strip j lt_j cd_j
  refine lv_aload_n hx hb dX8_becomeInch_0 rfl (lv_at hl 0 rfl) ?_
  refine w_getr (j2 := (j + 1)) hx hb hts (z_memU u8) hown hK.1 hS f8_0 lt_j (zkd_of cd_j rfl) (zrf_of cd_j rfl) (Or.inl (hts _ (z_mem k41))) dX8_becomeInch_1 ?_
  refine z_iconst hx hb dX8_becomeInch_4 ?_
  refine lv_iload_n hx hb dX8_becomeInch_5 rfl (lv_at hl 1 rfl) ?_
  refine w_iast (z := a0) (n := 24) (i := 0) hx hb hK.1 (t0 := 0) rfl hS hS0 lt1 (zkd_of cd2 rfl) (zln_of cd2 rfl) (sI_of (by decide)) (by decide) (by decide) (by decide) dX8_becomeInch_6 (fun H locs hS hS0 => ?_)
  rw [show ((0 : Int).toNat) = 0 from rfl] at hS
  obtain ⟨M3, e4⟩ : ∃ M3 : zM, M3 = zup M (j + 1) 0 a0 := ⟨_, rfl⟩
  rw [← e4] at hS
  have h := h M3 e4
  refine lv_aload_n hx hb dX8_becomeInch_7 rfl (lv_at hl 0 rfl) ?_
  refine z_iconst hx hb dX8_becomeInch_8 ?_
  refine w_puti hx hb hts (z_memU u8) tyX8 tyX8_ok nmX8 hown hK.1 hS hS0 f8_1 lt_j (zkd_of cd_j rfl) (Or.inl (hts _ (z_mem k44))) rfl (z := 1) (by decide +kernel) dX8_becomeInch_9 (fun H locs hS hS0 => ?_)
  obtain ⟨M5, e6⟩ : ∃ M5 : zM, M5 = zup M3 j 1 1 := ⟨_, rfl⟩
  rw [← e6] at hS
  have h := h M5 e6
  exact w_vret hx hb hr hlocks hS hS0 h dX8_becomeInch_12

set_option maxRecDepth 100000 in
def wC_Splicer_beginTerm (a0 : Int) (M : zM) (Q : Int → zM → Prop) : Prop := wC_Splicer_layTerm  M (fun z2 M1 => (z2 ≠ 0 → Q z2 M1) ∧ (z2 = 0 → ((0 ≤ (sI (M1 1 2)) ∧ (sI (M1 1 2)) < 6) ∧ wC_Strip_becomeInch (8 + 4 * (sI (M1 1 2)).toNat) a0 M1 (fun M10 => Q z2 M10))))
set_option maxHeartbeats 4000000 in
set_option maxRecDepth 100000 in
theorem cC_Splicer_beginTerm (l : Launch) (D : va_G) (dA : Nat → ClassId) (b : Nat) (M : zM) (a0 : Int)  (Q : Int → zM → Prop) (h : wC_Splicer_beginTerm a0 M Q) : Met l yX7_beginTerm (.code yX7_beginTerm cX7_beginTerm 3 (some .int) :: zt) (z_rm 3) (va_Pc [.ref (b + 1), .int (iI a0)] (wPre D dA vwCl (z_tys dA) wC nC b M)) (va_Qi (wQi Q) (zB D dA vwCl wC nC b) (zA nC b)) 0 0 (zA nC b) := by
  unfold wC_Splicer_beginTerm at h
  refine Met.ofW (cc := cX7_beginTerm) (maxL := 3) (ret := (some .int)) (by decide) rfl ?_
  intro p e s m args below meth c s₁ B hml hv
  obtain ⟨hargs, hS, hK⟩ := hv
  have hx := B.exec
  have hb := B.bytes
  have hr := B.returns
  have hts := atoms_spec (ws := .code yX7_beginTerm cX7_beginTerm 3 (some .int) :: zt) B.pre
  have hown : s.vm.findClass RX7 = some m.cls := findClass_of_methodNamed B.named
  have hlocks := B.notSynchronized
  have hS0 : va_S (zA nC b) s.heap s.heap [] := va_S.rf
  have hl := lv_entry ([.ref (b + 1), .int (iI a0)]) (n := 3) (Nat.le_of_ble_eq_true rfl)
  have hent : entryFrame m args 3 = F0 m 0 ((lg_sl ([.ref (b + 1), .int (iI a0)]) ++ List.replicate (3 - (lg_sl ([.ref (b + 1), .int (iI a0)])).length) Slot.unset).toArray) [] := by rw [hargs]; exact lg_entry_eq m ([.ref (b + 1), .int (iI a0)]) 3
  rw [hent]
  generalize (lg_sl ([.ref (b + 1), .int (iI a0)]) ++ List.replicate (3 - (lg_sl ([.ref (b + 1), .int (iI a0)])).length) Slot.unset).toArray = ls at hl ⊢
  have hl : lv_has ls 3 [(0, .ref (b + 1)), (1, .int (iI a0))] := hl
  refine lv_aload_n hx hb dX7_beginTerm_0 rfl (lv_at hl 0 rfl) ?_
  refine w_calli (va_runV (As := []) (rest := []) ⟨hx, hb, hml, hown, hts⟩ (cC_Splicer_layTerm l D dA b M  _ h) (cwV 0 hts (z_gV k333 k334 k1359 k2 k335) rfl rfl rfl dm_X7_layTerm ⟨Nat.le_of_ble_eq_true rfl, Nat.le_of_ble_eq_true rfl⟩) ⟨wPre_blind, (w_recv hS hK.1 (by decide) (zkd_of (rfl : zcd wC 1 = 1) rfl) (by decide) (rfl : vwCl[7]? = some (RX7, TX7, 7))), w_pre hS hK⟩ rfl rfl hl.1 rfl (lv_room (Nat.le_of_ble_eq_true rfl)) dX7_beginTerm_1 ⟨Nat.le_refl _, Nat.le_refl _⟩) hS0 (fun z2 M1 H locs r3 h hS hS0 => ?_)
  refine lv_istore_n (lv' := [(2, .int (iI z2)), (0, .ref (b + 1)), (1, .int (iI a0))]) hx hb dX7_beginTerm_4 rfl hl (by decide) rfl (fun ls hl => ?_)
  refine lv_iload_n hx hb dX7_beginTerm_5 rfl (lv_at hl 0 rfl) ?_
  refine w_if_ne (tgt := 22) hx hb (sI_of r3) dX7_beginTerm_6 (by decide) (fun c4 => ?_) (fun c4 => ?_)
  · skip
    have h := h.1 c4
    refine lv_iload_n hx hb dX7_beginTerm_22 rfl (lv_at hl 0 rfl) ?_
    exact w_iret hx hb hr hlocks hS hS0 (sI_of r3) h dX7_beginTerm_23
  · skip
    have h := h.2 c4
    refine lv_aload_n hx hb dX7_beginTerm_9 rfl (lv_at hl 1 rfl) ?_
    refine w_getr (j2 := 4) hx hb hts (z_memU u7) hown hK.1 hS f7_5 (by decide) (zkd_of (rfl : zcd wC 1 = 1) rfl) (zrf_of (rfl : zcd wC 1 = 1) rfl) (Or.inl (hts _ (z_mem k60))) dX7_beginTerm_10 ?_
    refine lv_aload_n hx hb dX7_beginTerm_13 rfl (lv_at hl 1 rfl) ?_
    refine w_geti hx hb hts (z_memU u7) hown hK.1 hS f7_2 (by decide) (zkd_of (rfl : zcd wC 1 = 1) rfl) (Or.inl (hts _ (z_mem k57))) dX7_beginTerm_14 ?_
    obtain ⟨o5, h⟩ := h
    refine w_aald (n := 6) (i := (sI (M1 1 2))) (j2 := (8 + 4 * (sI (M1 1 2)).toNat)) hx hb hK.1 (t0 := 4) (r := 4) (by decide) rfl rfl hS (by decide) (zkd_of (rfl : zcd wC 4 = 4) rfl) (zln_of (rfl : zcd wC 4 = 4) rfl) rfl o5.1 o5.2 (by decide) (zrf_of (rfl : zcd wC 4 = 4) rfl) dX7_beginTerm_17 ?_
    obtain ⟨lt6, cd7⟩ : (8 + 4 * (sI (M1 1 2)).toNat) < nC ∧ zcd wC (8 + 4 * (sI (M1 1 2)).toNat) = 6 := (by decide : ∀ k : Nat, k < 6 → (8 + 4 * k) < nC ∧ zcd wC (8 + 4 * k) = 6) (sI (M1 1 2)).toNat (by clear h; have h0 := o5.1; have h1 := o5.2; omega)
    obtain ⟨lt8, cd9⟩ := nx_strip (8 + 4 * (sI (M1 1 2)).toNat) lt6 cd7
    refine lv_iload_n hx hb dX7_beginTerm_18 rfl (lv_at hl 2 rfl) ?_
    refine w_callv (va_runV (As := [.int (iI a0)]) (rest := []) ⟨hx, hb, hml, hown, hts⟩ (cC_Strip_becomeInch l D dA b M1 (8 + 4 * (sI (M1 1 2)).toNat) a0 lt6 cd7 _ h) (cwV 1 hts (z_gV k343 k344 k345 k3 k346) rfl rfl rfl dm_X8_becomeInch ⟨Nat.le_of_ble_eq_true rfl, Nat.le_of_ble_eq_true rfl⟩) ⟨wPre_blind, (w_recv hS hK.1 lt6 (zkd_of cd7 rfl) (by decide) (rfl : vwCl[8]? = some (RX8, TX8, 2))), w_pre hS hK⟩ rfl rfl hl.1 rfl (lv_room (Nat.le_of_ble_eq_true rfl)) dX7_beginTerm_19 ⟨Nat.le_refl _, Nat.le_refl _⟩) hS0 (fun M10 H locs h hS hS0 => ?_)
    refine lv_iload_n hx hb dX7_beginTerm_22 rfl (lv_at hl 0 rfl) ?_
    exact w_iret hx hb hr hlocks hS hS0 (sI_of r3) h dX7_beginTerm_23

set_option maxRecDepth 100000 in
def wC_Splicer_readDigit (a0 : Int) (M : zM) (Q : Int → zM → Prop) : Prop := ((sI (M 1 3)) = 42 → (∀ M2 : zM, M2 = zup M 1 3 0 → wC_Splicer_repeatTerm a0 M2 (fun z5 M4 => Q z5 M4))) ∧ ((sI (M 1 3)) ≠ 42 → ((sI (M 1 3)) = 47 → (∀ M8 : zM, M8 = zup M 1 3 0 → ((0 ≤ (sI (M8 1 2)) ∧ (sI (M8 1 2)) < 6) ∧ (∀ M11 : zM, M11 = zup M8 5 (sI (M8 1 2)).toNat a0 → ((0 ≤ (sI (M11 1 2)) ∧ (sI (M11 1 2)) < 6) ∧ ((sI a0) ≤ (sI (M11 (6 + 4 * (sI (M11 1 2)).toNat) 1)) → Q 0 M11) ∧ ((sI (M11 (6 + 4 * (sI (M11 1 2)).toNat) 1)) < (sI a0) → Q (-101) M11)))))) ∧ ((sI (M 1 3)) ≠ 47 → ((sI (M 1 3)) = 91 → ((0 ≤ (sI (M 1 2)) ∧ (sI (M 1 2)) < 6) ∧ wC_Strip_addTo (8 + 4 * (sI (M 1 2)).toNat) 0 (shlI 1 a0) M (fun M25 => Q 0 M25))) ∧ ((sI (M 1 3)) ≠ 91 → ((sI a0) ≠ 0 → wC_Splicer_beginTerm (shlI 1 a0) M (fun z28 M27 => Q z28 M27)) ∧ ((sI a0) = 0 → wC_Splicer_beginTerm 0 M (fun z31 M30 => Q z31 M30)))))
set_option maxHeartbeats 4000000 in
set_option maxRecDepth 100000 in
theorem cC_Splicer_readDigit (l : Launch) (D : va_G) (dA : Nat → ClassId) (b : Nat) (M : zM) (a0 : Int)  (Q : Int → zM → Prop) (h : wC_Splicer_readDigit a0 M Q) : Met l yX7_readDigit (.code yX7_readDigit cX7_readDigit 2 (some .int) :: zt) (z_rm 4) (va_Pc [.ref (b + 1), .int (iI a0)] (wPre D dA vwCl (z_tys dA) wC nC b M)) (va_Qi (wQi Q) (zB D dA vwCl wC nC b) (zA nC b)) 0 0 (zA nC b) := by
  unfold wC_Splicer_readDigit at h
  refine Met.ofW (cc := cX7_readDigit) (maxL := 2) (ret := (some .int)) (by decide) rfl ?_
  intro p e s m args below meth c s₁ B hml hv
  obtain ⟨hargs, hS, hK⟩ := hv
  have hx := B.exec
  have hb := B.bytes
  have hr := B.returns
  have hts := atoms_spec (ws := .code yX7_readDigit cX7_readDigit 2 (some .int) :: zt) B.pre
  have hown : s.vm.findClass RX7 = some m.cls := findClass_of_methodNamed B.named
  have hlocks := B.notSynchronized
  have hS0 : va_S (zA nC b) s.heap s.heap [] := va_S.rf
  have hl := lv_entry ([.ref (b + 1), .int (iI a0)]) (n := 2) (Nat.le_of_ble_eq_true rfl)
  have hent : entryFrame m args 2 = F0 m 0 ((lg_sl ([.ref (b + 1), .int (iI a0)]) ++ List.replicate (2 - (lg_sl ([.ref (b + 1), .int (iI a0)])).length) Slot.unset).toArray) [] := by rw [hargs]; exact lg_entry_eq m ([.ref (b + 1), .int (iI a0)]) 2
  rw [hent]
  generalize (lg_sl ([.ref (b + 1), .int (iI a0)]) ++ List.replicate (2 - (lg_sl ([.ref (b + 1), .int (iI a0)])).length) Slot.unset).toArray = ls at hl ⊢
  have hl : lv_has ls 2 [(0, .ref (b + 1)), (1, .int (iI a0))] := hl
  refine lv_aload_n hx hb dX7_readDigit_0 rfl (lv_at hl 0 rfl) ?_
  refine w_geti hx hb hts (z_memU u7) hown hK.1 hS f7_3 (by decide) (zkd_of (rfl : zcd wC 1 = 1) rfl) (Or.inl (hts _ (z_mem k58))) dX7_readDigit_1 ?_
  rcases Decidable.em ((sI (M 1 3)) = 42) with c1 | c1
  · skip
    have h := h.1 c1
    refine w_lookup (tgt := 40) hx hb rfl dX7_readDigit_4 (by decide) (by first | (rw [c1]; done) | (rw [c1]; rfl)) (by decide) ?_
    refine lv_aload_n hx hb dX7_readDigit_40 rfl (lv_at hl 0 rfl) ?_
    refine z_iconst hx hb dX7_readDigit_41 ?_
    refine w_puti hx hb hts (z_memU u7) tyX7 tyX7_ok nmX7 hown hK.1 hS hS0 f7_3 (by decide) (zkd_of (rfl : zcd wC 1 = 1) rfl) (Or.inl (hts _ (z_mem k58))) rfl (z := 0) (by decide +kernel) dX7_readDigit_42 (fun H locs hS hS0 => ?_)
    obtain ⟨M2, e3⟩ : ∃ M2 : zM, M2 = zup M 1 3 0 := ⟨_, rfl⟩
    rw [← e3] at hS
    have h := h M2 e3
    refine lv_aload_n hx hb dX7_readDigit_45 rfl (lv_at hl 0 rfl) ?_
    refine lv_iload_n hx hb dX7_readDigit_46 rfl (lv_at hl 1 rfl) ?_
    refine w_calli (va_runV (As := [.int (iI a0)]) (rest := []) ⟨hx, hb, hml, hown, hts⟩ (cC_Splicer_repeatTerm l D dA b M2 a0 _ h) (cwV 1 hts (z_gV k312 k313 k1357 k2 k314) rfl rfl rfl dm_X7_repeatTerm ⟨Nat.le_of_ble_eq_true rfl, Nat.le_of_ble_eq_true rfl⟩) ⟨wPre_blind, (w_recv hS hK.1 (by decide) (zkd_of (rfl : zcd wC 1 = 1) rfl) (by decide) (rfl : vwCl[7]? = some (RX7, TX7, 7))), w_pre hS hK⟩ rfl rfl hl.1 rfl (lv_room (Nat.le_of_ble_eq_true rfl)) dX7_readDigit_47 ⟨Nat.le_refl _, Nat.le_refl _⟩) hS0 (fun z5 M4 H locs r6 h hS hS0 => ?_)
    exact w_iret hx hb hr hlocks hS hS0 (sI_of r6) h dX7_readDigit_50
  have h := h.2 c1
  rcases Decidable.em ((sI (M 1 3)) = 47) with c7 | c7
  · skip
    have h := h.1 c7
    refine w_lookup (tgt := 51) hx hb rfl dX7_readDigit_4 (by decide) (by first | (rw [c7]; done) | (rw [c7]; rfl)) (by decide) ?_
    refine lv_aload_n hx hb dX7_readDigit_51 rfl (lv_at hl 0 rfl) ?_
    refine z_iconst hx hb dX7_readDigit_52 ?_
    refine w_puti hx hb hts (z_memU u7) tyX7 tyX7_ok nmX7 hown hK.1 hS hS0 f7_3 (by decide) (zkd_of (rfl : zcd wC 1 = 1) rfl) (Or.inl (hts _ (z_mem k58))) rfl (z := 0) (by decide +kernel) dX7_readDigit_53 (fun H locs hS hS0 => ?_)
    obtain ⟨M8, e9⟩ : ∃ M8 : zM, M8 = zup M 1 3 0 := ⟨_, rfl⟩
    rw [← e9] at hS
    have h := h M8 e9
    refine lv_aload_n hx hb dX7_readDigit_56 rfl (lv_at hl 0 rfl) ?_
    refine w_getr (j2 := 5) hx hb hts (z_memU u7) hown hK.1 hS f7_6 (by decide) (zkd_of (rfl : zcd wC 1 = 1) rfl) (zrf_of (rfl : zcd wC 1 = 1) rfl) (Or.inl (hts _ (z_mem k61))) dX7_readDigit_57 ?_
    refine lv_aload_n hx hb dX7_readDigit_60 rfl (lv_at hl 0 rfl) ?_
    refine w_geti hx hb hts (z_memU u7) hown hK.1 hS f7_2 (by decide) (zkd_of (rfl : zcd wC 1 = 1) rfl) (Or.inl (hts _ (z_mem k57))) dX7_readDigit_61 ?_
    refine lv_iload_n hx hb dX7_readDigit_64 rfl (lv_at hl 1 rfl) ?_
    obtain ⟨o10, h⟩ := h
    refine w_iast (z := a0) (n := 6) (i := (sI (M8 1 2))) hx hb hK.1 (t0 := 0) rfl hS hS0 (by decide) (zkd_of (rfl : zcd wC 5 = 5) rfl) (zln_of (rfl : zcd wC 5 = 5) rfl) rfl o10.1 o10.2 (by decide) dX7_readDigit_65 (fun H locs hS hS0 => ?_)
    obtain ⟨M11, e12⟩ : ∃ M11 : zM, M11 = zup M8 5 (sI (M8 1 2)).toNat a0 := ⟨_, rfl⟩
    rw [← e12] at hS
    have h := h M11 e12
    refine lv_iload_n hx hb dX7_readDigit_66 rfl (lv_at hl 1 rfl) ?_
    refine lv_aload_n hx hb dX7_readDigit_67 rfl (lv_at hl 0 rfl) ?_
    refine w_getr (j2 := 3) hx hb hts (z_memU u7) hown hK.1 hS f7_4 (by decide) (zkd_of (rfl : zcd wC 1 = 1) rfl) (zrf_of (rfl : zcd wC 1 = 1) rfl) (Or.inl (hts _ (z_mem k59))) dX7_readDigit_68 ?_
    refine lv_aload_n hx hb dX7_readDigit_71 rfl (lv_at hl 0 rfl) ?_
    refine w_geti hx hb hts (z_memU u7) hown hK.1 hS f7_2 (by decide) (zkd_of (rfl : zcd wC 1 = 1) rfl) (Or.inl (hts _ (z_mem k57))) dX7_readDigit_72 ?_
    obtain ⟨o13, h⟩ := h
    refine w_aald (n := 6) (i := (sI (M11 1 2))) (j2 := (6 + 4 * (sI (M11 1 2)).toNat)) hx hb hK.1 (t0 := 4) (r := 4) (by decide) rfl rfl hS (by decide) (zkd_of (rfl : zcd wC 3 = 3) rfl) (zln_of (rfl : zcd wC 3 = 3) rfl) rfl o13.1 o13.2 (by decide) (zrf_of (rfl : zcd wC 3 = 3) rfl) dX7_readDigit_75 ?_
    obtain ⟨lt14, cd15⟩ : (6 + 4 * (sI (M11 1 2)).toNat) < nC ∧ zcd wC (6 + 4 * (sI (M11 1 2)).toNat) = 6 := (by decide : ∀ k : Nat, k < 6 → (6 + 4 * k) < nC ∧ zcd wC (6 + 4 * k) = 6) (sI (M11 1 2)).toNat (by clear h; have h0 := o13.1; have h1 := o13.2; omega)
    obtain ⟨lt16, cd17⟩ := nx_strip (6 + 4 * (sI (M11 1 2)).toNat) lt14 cd15
    refine w_geti hx hb hts (z_memU u8) hown hK.1 hS f8_1 lt14 (zkd_of cd15 rfl) (Or.inl (hts _ (z_mem k46))) dX7_readDigit_76 ?_
    refine w_icmp_le (tgt := 87) hx hb rfl rfl dX7_readDigit_79 (by decide) (fun c18 => ?_) (fun c18 => ?_)
    · skip
      have h := h.1 c18
      refine z_iconst hx hb dX7_readDigit_87 ?_
      exact w_iret hx hb hr hlocks hS hS0 (sI_of (by decide)) h dX7_readDigit_88
    · skip
      have h := h.2 c18
      refine z_bipush hx hb (by decide) dX7_readDigit_82 ?_
      refine lv_goto (tgt := 88) hx hb dX7_readDigit_84 (by decide) ?_
      exact w_iret hx hb hr hlocks hS hS0 (sI_of (by decide)) h dX7_readDigit_88
  have h := h.2 c7
  rcases Decidable.em ((sI (M 1 3)) = 91) with c19 | c19
  · skip
    have h := h.1 c19
    refine w_lookup (tgt := 89) hx hb rfl dX7_readDigit_4 (by decide) (by first | (rw [c19]; done) | (rw [c19]; rfl)) (by decide) ?_
    refine lv_aload_n hx hb dX7_readDigit_89 rfl (lv_at hl 0 rfl) ?_
    refine w_getr (j2 := 4) hx hb hts (z_memU u7) hown hK.1 hS f7_5 (by decide) (zkd_of (rfl : zcd wC 1 = 1) rfl) (zrf_of (rfl : zcd wC 1 = 1) rfl) (Or.inl (hts _ (z_mem k60))) dX7_readDigit_90 ?_
    refine lv_aload_n hx hb dX7_readDigit_93 rfl (lv_at hl 0 rfl) ?_
    refine w_geti hx hb hts (z_memU u7) hown hK.1 hS f7_2 (by decide) (zkd_of (rfl : zcd wC 1 = 1) rfl) (Or.inl (hts _ (z_mem k57))) dX7_readDigit_94 ?_
    obtain ⟨o20, h⟩ := h
    refine w_aald (n := 6) (i := (sI (M 1 2))) (j2 := (8 + 4 * (sI (M 1 2)).toNat)) hx hb hK.1 (t0 := 4) (r := 4) (by decide) rfl rfl hS (by decide) (zkd_of (rfl : zcd wC 4 = 4) rfl) (zln_of (rfl : zcd wC 4 = 4) rfl) rfl o20.1 o20.2 (by decide) (zrf_of (rfl : zcd wC 4 = 4) rfl) dX7_readDigit_97 ?_
    obtain ⟨lt21, cd22⟩ : (8 + 4 * (sI (M 1 2)).toNat) < nC ∧ zcd wC (8 + 4 * (sI (M 1 2)).toNat) = 6 := (by decide : ∀ k : Nat, k < 6 → (8 + 4 * k) < nC ∧ zcd wC (8 + 4 * k) = 6) (sI (M 1 2)).toNat (by clear h; have h0 := o20.1; have h1 := o20.2; omega)
    obtain ⟨lt23, cd24⟩ := nx_strip (8 + 4 * (sI (M 1 2)).toNat) lt21 cd22
    refine z_iconst hx hb dX7_readDigit_98 ?_
    refine z_iconst hx hb dX7_readDigit_99 ?_
    refine lv_iload_n hx hb dX7_readDigit_100 rfl (lv_at hl 1 rfl) ?_
    refine w_ishl hx hb dX7_readDigit_101 ?_
    refine w_callv (va_runV (As := [.int (iI 0), .int (iI (shlI 1 a0))]) (rest := []) ⟨hx, hb, hml, hown, hts⟩ (cC_Strip_addTo l D dA b M (8 + 4 * (sI (M 1 2)).toNat) 0 (shlI 1 a0) lt21 cd22 _ h) (cwV 2 hts (z_gV k322 k323 k324 k3 k325) rfl rfl rfl dm_X8_addTo ⟨Nat.le_of_ble_eq_true rfl, Nat.le_of_ble_eq_true rfl⟩) ⟨wPre_blind, (w_recv hS hK.1 lt21 (zkd_of cd22 rfl) (by decide) (rfl : vwCl[8]? = some (RX8, TX8, 2))), w_pre hS hK⟩ rfl rfl hl.1 rfl (lv_room (Nat.le_of_ble_eq_true rfl)) dX7_readDigit_102 ⟨Nat.le_refl _, Nat.le_refl _⟩) hS0 (fun M25 H locs h hS hS0 => ?_)
    refine z_iconst hx hb dX7_readDigit_105 ?_
    exact w_iret hx hb hr hlocks hS hS0 (sI_of (by decide)) h dX7_readDigit_106
  have h := h.2 c19
  refine w_lookup (tgt := 107) hx hb rfl dX7_readDigit_4 (by decide) (by simp only [Op.lookupswitch.offset, if_neg (Ne.symm c1), if_neg (Ne.symm c7), if_neg (Ne.symm c19)] <;> rfl) (by decide) ?_
  refine lv_aload_n hx hb dX7_readDigit_107 rfl (lv_at hl 0 rfl) ?_
  refine lv_iload_n hx hb dX7_readDigit_108 rfl (lv_at hl 1 rfl) ?_
  refine w_if_ne (tgt := 116) hx hb rfl dX7_readDigit_109 (by decide) (fun c26 => ?_) (fun c26 => ?_)
  · skip
    have h := h.1 c26
    refine z_iconst hx hb dX7_readDigit_116 ?_
    refine lv_iload_n hx hb dX7_readDigit_117 rfl (lv_at hl 1 rfl) ?_
    refine w_ishl hx hb dX7_readDigit_118 ?_
    refine w_calli (va_runV (As := [.int (iI (shlI 1 a0))]) (rest := []) ⟨hx, hb, hml, hown, hts⟩ (cC_Splicer_beginTerm l D dA b M (shlI 1 a0) _ h) (cwV 1 hts (z_gV k330 k331 k1358 k2 k332) rfl rfl rfl dm_X7_beginTerm ⟨Nat.le_of_ble_eq_true rfl, Nat.le_of_ble_eq_true rfl⟩) ⟨wPre_blind, (w_recv hS hK.1 (by decide) (zkd_of (rfl : zcd wC 1 = 1) rfl) (by decide) (rfl : vwCl[7]? = some (RX7, TX7, 7))), w_pre hS hK⟩ rfl rfl hl.1 rfl (lv_room (Nat.le_of_ble_eq_true rfl)) dX7_readDigit_119 ⟨Nat.le_refl _, Nat.le_refl _⟩) hS0 (fun z28 M27 H locs r29 h hS hS0 => ?_)
    exact w_iret hx hb hr hlocks hS hS0 (sI_of r29) h dX7_readDigit_122
  · skip
    have h := h.2 c26
    refine z_iconst hx hb dX7_readDigit_112 ?_
    refine lv_goto (tgt := 119) hx hb dX7_readDigit_113 (by decide) ?_
    refine w_calli (va_runV (As := [.int (iI 0)]) (rest := []) ⟨hx, hb, hml, hown, hts⟩ (cC_Splicer_beginTerm l D dA b M 0 _ h) (cwV 1 hts (z_gV k330 k331 k1358 k2 k332) rfl rfl rfl dm_X7_beginTerm ⟨Nat.le_of_ble_eq_true rfl, Nat.le_of_ble_eq_true rfl⟩) ⟨wPre_blind, (w_recv hS hK.1 (by decide) (zkd_of (rfl : zcd wC 1 = 1) rfl) (by decide) (rfl : vwCl[7]? = some (RX7, TX7, 7))), w_pre hS hK⟩ rfl rfl hl.1 rfl (lv_room (Nat.le_of_ble_eq_true rfl)) dX7_readDigit_119 ⟨Nat.le_refl _, Nat.le_refl _⟩) hS0 (fun z31 M30 H locs r32 h hS hS0 => ?_)
    exact w_iret hx hb hr hlocks hS hS0 (sI_of r32) h dX7_readDigit_122

set_option maxRecDepth 100000 in
def wC_Strip_turn (j : Nat) (M : zM) (Q : zM → Prop) : Prop := wL1 (fun K2 x3 M4 => ((sI ((sI (M4 j 1)).tdiv 2)) ≤ (sI x3) → Q M4) ∧ ((sI x3) < (sI ((sI (M4 j 1)).tdiv 2)) → ((0 ≤ (sI x3) ∧ (sI x3) < 24) ∧ ((0 ≤ (sI (((M4 j 1) - 1) - x3)) ∧ (sI (((M4 j 1) - 1) - x3)) < 24) ∧ ((0 ≤ (sI x3) ∧ (sI x3) < 24) ∧ (∀ M16 : zM, M16 = zup M4 (j + 1) (sI x3).toNat (M4 (j + 1) (sI (((M4 j 1) - 1) - x3)).toNat) → ((0 ≤ (sI (((M16 j 1) - 1) - x3)) ∧ (sI (((M16 j 1) - 1) - x3)) < 24) ∧ (∀ M19 : zM, M19 = zup M16 (j + 1) (sI (((M16 j 1) - 1) - x3)).toNat (M4 (j + 1) (sI x3).toNat) → K2 (x3 + 1) M19)))))))) 0 M
set_option maxHeartbeats 4000000 in
set_option maxRecDepth 100000 in
theorem cC_Strip_turn (l : Launch) (D : va_G) (dA : Nat → ClassId) (b : Nat) (M : zM) (j : Nat) (lt_j : j < nC) (cd_j : zcd wC j = 6) (Q : zM → Prop) (h : wC_Strip_turn j M Q) : Met l yX8_turn (.code yX8_turn cX8_turn 3 none :: zt) (z_rm 0) (va_Pc [.ref (b + j)] (wPre D dA vwCl (z_tys dA) wC nC b M)) (va_Qv (wQv Q) (zB D dA vwCl wC nC b) (zA nC b)) 0 0 (zA nC b) := by
  unfold wC_Strip_turn at h
  refine Met.ofW (cc := cX8_turn) (maxL := 3) (ret := none) (by decide) rfl ?_
  intro p e s m args below meth c s₁ B hml hv
  obtain ⟨hargs, hS, hK⟩ := hv
  have hx := B.exec
  have hb := B.bytes
  have hr := B.returns
  have hts := atoms_spec (ws := .code yX8_turn cX8_turn 3 none :: zt) B.pre
  have hown : s.vm.findClass RX8 = some m.cls := findClass_of_methodNamed B.named
  have hlocks := B.notSynchronized
  have hS0 : va_S (zA nC b) s.heap s.heap [] := va_S.rf
  have hl := lv_entry ([.ref (b + j)]) (n := 3) (Nat.le_of_ble_eq_true rfl)
  have hent : entryFrame m args 3 = F0 m 0 ((lg_sl ([.ref (b + j)]) ++ List.replicate (3 - (lg_sl ([.ref (b + j)])).length) Slot.unset).toArray) [] := by rw [hargs]; exact lg_entry_eq m ([.ref (b + j)]) 3
  rw [hent]
  generalize (lg_sl ([.ref (b + j)]) ++ List.replicate (3 - (lg_sl ([.ref (b + j)])).length) Slot.unset).toArray = ls at hl ⊢
  have hl : lv_has ls 3 [(0, .ref (b + j))] := hl
  obtain ⟨lt1, cd2⟩ := nx_strip j lt_j cd_j
  refine z_iconst hx hb dX8_turn_0 ?_
  refine lv_istore_n (lv' := [(1, .int (iI 0)), (0, .ref (b + j))]) hx hb dX8_turn_1 rfl hl (by decide) rfl (fun ls hl => ?_)
  obtain ⟨I5, ⟨n6, h7⟩, h8⟩ := h
  have L9 : ∀ (n10 : Nat) (x3 : Int) (M4 : zM) (H : Heap) (locs : List Loc) (ls : Array Slot), I5 n10 x3 M4 → zR D dA vwCl wC nC b M4 H → va_S (zA nC b) s.heap H locs → lv_has ls 3 [(0, .ref (b + j)), (1, .int (iI x3))] → W p l e (headSpec (.code yX8_turn cX8_turn 3 none :: zt) (z_rm 0)).room s m args below meth c H locs 0 0 (MQ below (va_Qv (wQv Q) (zB D dA vwCl wC nC b) (zA nC b)) args s 0 0 (zA nC b)) (F0 m 2 ls []) := by
    intro n10
    induction n10 using Nat.strongRecOn with
    | ind n10 i11 =>
      intro x3 M4 H locs ls h hS hS0 hl
      have h := h8 n10 x3 M4 h
      refine lv_iload_n hx hb dX8_turn_2 rfl (lv_at hl 1 rfl) ?_
      refine lv_aload_n hx hb dX8_turn_3 rfl (lv_at hl 0 rfl) ?_
      refine w_geti hx hb hts (z_memU u8) hown hK.1 hS f8_1 lt_j (zkd_of cd_j rfl) (Or.inl (hts _ (z_mem k44))) dX8_turn_4 ?_
      refine z_iconst hx hb dX8_turn_7 ?_
      refine w_idiv hx hb rfl (sI_of (by decide)) (by decide) dX8_turn_8 ?_
      refine w_icmp_ge (tgt := 58) hx hb rfl rfl dX8_turn_9 (by decide) (fun c12 => ?_) (fun c12 => ?_)
      · skip
        have h := h.1 c12
        exact w_vret hx hb hr hlocks hS hS0 h dX8_turn_58
      · skip
        have h := h.2 c12
        refine lv_aload_n hx hb dX8_turn_12 rfl (lv_at hl 0 rfl) ?_
        refine w_getr (j2 := (j + 1)) hx hb hts (z_memU u8) hown hK.1 hS f8_0 lt_j (zkd_of cd_j rfl) (zrf_of cd_j rfl) (Or.inl (hts _ (z_mem k41))) dX8_turn_13 ?_
        refine lv_iload_n hx hb dX8_turn_16 rfl (lv_at hl 1 rfl) ?_
        obtain ⟨o13, h⟩ := h
        refine w_iald (n := 24) (i := (sI x3)) hx hb hK.1 (t0 := 0) rfl hS lt1 (zkd_of cd2 rfl) (zln_of cd2 rfl) rfl o13.1 o13.2 (by decide) dX8_turn_17 ?_
        refine lv_istore_n (lv' := [(2, .int (iI (M4 (j + 1) (sI x3).toNat))), (0, .ref (b + j)), (1, .int (iI x3))]) hx hb dX8_turn_18 rfl hl (by decide) rfl (fun ls hl => ?_)
        refine lv_aload_n hx hb dX8_turn_19 rfl (lv_at hl 1 rfl) ?_
        refine w_getr (j2 := (j + 1)) hx hb hts (z_memU u8) hown hK.1 hS f8_0 lt_j (zkd_of cd_j rfl) (zrf_of cd_j rfl) (Or.inl (hts _ (z_mem k41))) dX8_turn_20 ?_
        refine lv_iload_n hx hb dX8_turn_23 rfl (lv_at hl 2 rfl) ?_
        refine lv_aload_n hx hb dX8_turn_24 rfl (lv_at hl 1 rfl) ?_
        refine w_getr (j2 := (j + 1)) hx hb hts (z_memU u8) hown hK.1 hS f8_0 lt_j (zkd_of cd_j rfl) (zrf_of cd_j rfl) (Or.inl (hts _ (z_mem k41))) dX8_turn_25 ?_
        refine lv_aload_n hx hb dX8_turn_28 rfl (lv_at hl 1 rfl) ?_
        refine w_geti hx hb hts (z_memU u8) hown hK.1 hS f8_1 lt_j (zkd_of cd_j rfl) (Or.inl (hts _ (z_mem k44))) dX8_turn_29 ?_
        refine z_iconst hx hb dX8_turn_32 ?_
        refine z_isub hx hb dX8_turn_33 ?_
        refine lv_iload_n hx hb dX8_turn_34 rfl (lv_at hl 2 rfl) ?_
        refine z_isub hx hb dX8_turn_35 ?_
        obtain ⟨o14, h⟩ := h
        refine w_iald (n := 24) (i := (sI (((M4 j 1) - 1) - x3))) hx hb hK.1 (t0 := 0) rfl hS lt1 (zkd_of cd2 rfl) (zln_of cd2 rfl) rfl o14.1 o14.2 (by decide) dX8_turn_36 ?_
        obtain ⟨o15, h⟩ := h
        refine w_iast (z := (M4 (j + 1) (sI (((M4 j 1) - 1) - x3)).toNat)) (n := 24) (i := (sI x3)) hx hb hK.1 (t0 := 0) rfl hS hS0 lt1 (zkd_of cd2 rfl) (zln_of cd2 rfl) rfl o15.1 o15.2 (by decide) dX8_turn_37 (fun H locs hS hS0 => ?_)
        obtain ⟨M16, e17⟩ : ∃ M16 : zM, M16 = zup M4 (j + 1) (sI x3).toNat (M4 (j + 1) (sI (((M4 j 1) - 1) - x3)).toNat) := ⟨_, rfl⟩
        rw [← e17] at hS
        have h := h M16 e17
        refine lv_aload_n hx hb dX8_turn_38 rfl (lv_at hl 1 rfl) ?_
        refine w_getr (j2 := (j + 1)) hx hb hts (z_memU u8) hown hK.1 hS f8_0 lt_j (zkd_of cd_j rfl) (zrf_of cd_j rfl) (Or.inl (hts _ (z_mem k41))) dX8_turn_39 ?_
        refine lv_aload_n hx hb dX8_turn_42 rfl (lv_at hl 1 rfl) ?_
        refine w_geti hx hb hts (z_memU u8) hown hK.1 hS f8_1 lt_j (zkd_of cd_j rfl) (Or.inl (hts _ (z_mem k44))) dX8_turn_43 ?_
        refine z_iconst hx hb dX8_turn_46 ?_
        refine z_isub hx hb dX8_turn_47 ?_
        refine lv_iload_n hx hb dX8_turn_48 rfl (lv_at hl 2 rfl) ?_
        refine z_isub hx hb dX8_turn_49 ?_
        refine lv_iload_n hx hb dX8_turn_50 rfl (lv_at hl 0 rfl) ?_
        obtain ⟨o18, h⟩ := h
        refine w_iast (z := (M4 (j + 1) (sI x3).toNat)) (n := 24) (i := (sI (((M16 j 1) - 1) - x3))) hx hb hK.1 (t0 := 0) rfl hS hS0 lt1 (zkd_of cd2 rfl) (zln_of cd2 rfl) rfl o18.1 o18.2 (by decide) dX8_turn_51 (fun H locs hS hS0 => ?_)
        obtain ⟨M19, e20⟩ : ∃ M19 : zM, M19 = zup M16 (j + 1) (sI (((M16 j 1) - 1) - x3)).toNat (M4 (j + 1) (sI x3).toNat) := ⟨_, rfl⟩
        rw [← e20] at hS
        have h := h M19 e20
        refine z_iinc (lv' := [(1, .int (iI (x3 + 1))), (2, .int (iI (M4 (j + 1) (sI x3).toNat))), (0, .ref (b + j))]) hx hb dX8_turn_52 hl (k := 2) rfl (by decide) rfl (fun ls hl => ?_)
        refine lv_goto (tgt := 2) hx hb dX8_turn_55 (by decide) ?_
        obtain ⟨n21, h22, h⟩ := h
        exact i11 n21 h22 (x3 + 1) M19 _ _ _ h hS hS0 (lv_sub hl [2, 0] rfl)
  exact L9 n6 0 M _ _ _ h7 hS hS0 (lv_sub hl [1, 0] rfl)

set_option maxRecDepth 100000 in
def wC_Splicer_open  (M : zM) (Q : Int → zM → Prop) : Prop := wC_Splicer_layTerm  M (fun z2 M1 => (z2 ≠ 0 → Q z2 M1) ∧ (z2 = 0 → (5 ≤ (sI (M1 1 2)) → Q z2 M1) ∧ ((sI (M1 1 2)) < 5 → (∀ M6 : zM, M6 = zup M1 1 2 ((M1 1 2) + 1) → wC_Splicer_openRow  M6 (fun M8 => Q z2 M8)))))
set_option maxHeartbeats 4000000 in
set_option maxRecDepth 100000 in
theorem cC_Splicer_open (l : Launch) (D : va_G) (dA : Nat → ClassId) (b : Nat) (M : zM)   (Q : Int → zM → Prop) (h : wC_Splicer_open  M Q) : Met l yX7_open (.code yX7_open cX7_open 2 (some .int) :: zt) (z_rm 3) (va_Pc [.ref (b + 1)] (wPre D dA vwCl (z_tys dA) wC nC b M)) (va_Qi (wQi Q) (zB D dA vwCl wC nC b) (zA nC b)) 0 0 (zA nC b) := by
  unfold wC_Splicer_open at h
  refine Met.ofW (cc := cX7_open) (maxL := 2) (ret := (some .int)) (by decide) rfl ?_
  intro p e s m args below meth c s₁ B hml hv
  obtain ⟨hargs, hS, hK⟩ := hv
  have hx := B.exec
  have hb := B.bytes
  have hr := B.returns
  have hts := atoms_spec (ws := .code yX7_open cX7_open 2 (some .int) :: zt) B.pre
  have hown : s.vm.findClass RX7 = some m.cls := findClass_of_methodNamed B.named
  have hlocks := B.notSynchronized
  have hS0 : va_S (zA nC b) s.heap s.heap [] := va_S.rf
  have hl := lv_entry ([.ref (b + 1)]) (n := 2) (Nat.le_of_ble_eq_true rfl)
  have hent : entryFrame m args 2 = F0 m 0 ((lg_sl ([.ref (b + 1)]) ++ List.replicate (2 - (lg_sl ([.ref (b + 1)])).length) Slot.unset).toArray) [] := by rw [hargs]; exact lg_entry_eq m ([.ref (b + 1)]) 2
  rw [hent]
  generalize (lg_sl ([.ref (b + 1)]) ++ List.replicate (2 - (lg_sl ([.ref (b + 1)])).length) Slot.unset).toArray = ls at hl ⊢
  have hl : lv_has ls 2 [(0, .ref (b + 1))] := hl
  refine lv_aload_n hx hb dX7_open_0 rfl (lv_at hl 0 rfl) ?_
  refine w_calli (va_runV (As := []) (rest := []) ⟨hx, hb, hml, hown, hts⟩ (cC_Splicer_layTerm l D dA b M  _ h) (cwV 0 hts (z_gV k333 k334 k1359 k2 k335) rfl rfl rfl dm_X7_layTerm ⟨Nat.le_of_ble_eq_true rfl, Nat.le_of_ble_eq_true rfl⟩) ⟨wPre_blind, (w_recv hS hK.1 (by decide) (zkd_of (rfl : zcd wC 1 = 1) rfl) (by decide) (rfl : vwCl[7]? = some (RX7, TX7, 7))), w_pre hS hK⟩ rfl rfl hl.1 rfl (lv_room (Nat.le_of_ble_eq_true rfl)) dX7_open_1 ⟨Nat.le_refl _, Nat.le_refl _⟩) hS0 (fun z2 M1 H locs r3 h hS hS0 => ?_)
  refine lv_istore_n (lv' := [(1, .int (iI z2)), (0, .ref (b + 1))]) hx hb dX7_open_4 rfl hl (by decide) rfl (fun ls hl => ?_)
  refine lv_iload_n hx hb dX7_open_5 rfl (lv_at hl 0 rfl) ?_
  refine w_if_ne (tgt := 31) hx hb (sI_of r3) dX7_open_6 (by decide) (fun c4 => ?_) (fun c4 => ?_)
  · skip
    have h := h.1 c4
    refine lv_iload_n hx hb dX7_open_31 rfl (lv_at hl 0 rfl) ?_
    exact w_iret hx hb hr hlocks hS hS0 (sI_of r3) h dX7_open_32
  · skip
    have h := h.2 c4
    refine lv_aload_n hx hb dX7_open_9 rfl (lv_at hl 1 rfl) ?_
    refine w_geti hx hb hts (z_memU u7) hown hK.1 hS f7_2 (by decide) (zkd_of (rfl : zcd wC 1 = 1) rfl) (Or.inl (hts _ (z_mem k57))) dX7_open_10 ?_
    refine z_iconst hx hb dX7_open_13 ?_
    refine w_icmp_ge (tgt := 31) hx hb rfl (sI_of (by decide)) dX7_open_14 (by decide) (fun c5 => ?_) (fun c5 => ?_)
    · skip
      have h := h.1 c5
      refine lv_iload_n hx hb dX7_open_31 rfl (lv_at hl 0 rfl) ?_
      exact w_iret hx hb hr hlocks hS hS0 (sI_of r3) h dX7_open_32
    · skip
      have h := h.2 c5
      refine lv_aload_n hx hb dX7_open_17 rfl (lv_at hl 1 rfl) ?_
      refine lv_dup hx hb dX7_open_18 rfl ?_
      refine w_geti hx hb hts (z_memU u7) hown hK.1 hS f7_2 (by decide) (zkd_of (rfl : zcd wC 1 = 1) rfl) (Or.inl (hts _ (z_mem k57))) dX7_open_19 ?_
      refine z_iconst hx hb dX7_open_22 ?_
      refine z_iadd hx hb dX7_open_23 ?_
      refine w_puti hx hb hts (z_memU u7) tyX7 tyX7_ok nmX7 hown hK.1 hS hS0 f7_2 (by decide) (zkd_of (rfl : zcd wC 1 = 1) rfl) (Or.inl (hts _ (z_mem k57))) rfl (z := ((M1 1 2) + 1)) (by decide +kernel) dX7_open_24 (fun H locs hS hS0 => ?_)
      obtain ⟨M6, e7⟩ : ∃ M6 : zM, M6 = zup M1 1 2 ((M1 1 2) + 1) := ⟨_, rfl⟩
      rw [← e7] at hS
      have h := h M6 e7
      refine lv_aload_n hx hb dX7_open_27 rfl (lv_at hl 1 rfl) ?_
      refine w_callv (va_runV (As := []) (rest := []) ⟨hx, hb, hml, hown, hts⟩ (cC_Splicer_openRow l D dA b M6  _ h) (cwV 0 hts (z_gV k306 k307 k1355 k2 k308) rfl rfl rfl dm_X7_openRow ⟨Nat.le_of_ble_eq_true rfl, Nat.le_of_ble_eq_true rfl⟩) ⟨wPre_blind, (w_recv hS hK.1 (by decide) (zkd_of (rfl : zcd wC 1 = 1) rfl) (by decide) (rfl : vwCl[7]? = some (RX7, TX7, 7))), w_pre hS hK⟩ rfl rfl hl.1 rfl (lv_room (Nat.le_of_ble_eq_true rfl)) dX7_open_28 ⟨Nat.le_refl _, Nat.le_refl _⟩) hS0 (fun M8 H locs h hS hS0 => ?_)
      refine lv_iload_n hx hb dX7_open_31 rfl (lv_at hl 0 rfl) ?_
      exact w_iret hx hb hr hlocks hS hS0 (sI_of r3) h dX7_open_32

set_option maxRecDepth 100000 in
def wC_Strip_copy (j : Nat) (a0 : Nat) (M : zM) (Q : zM → Prop) : Prop := (∀ M5 : zM, M5 = zup M j 1 (M a0 1) → (((a0 + 1) ≠ (j + 1)) ∧ (∀ M8 : zM, M8 = zcp M5 (a0 + 1) (j + 1) (0 : Int).toNat (0 : Int).toNat (24 : Int).toNat → Q M8)))
set_option maxHeartbeats 4000000 in
set_option maxRecDepth 100000 in
theorem cC_Strip_copy (l : Launch) (D : va_G) (dA : Nat → ClassId) (b : Nat) (M : zM) (j : Nat) (a0 : Nat) (lt_j : j < nC) (cd_j : zcd wC j = 6) (lt_a0 : a0 < nC) (cd_a0 : zcd wC a0 = 6) (Q : zM → Prop) (h : wC_Strip_copy j a0 M Q) : Met l yX8_copy (.code yX8_copy cX8_copy 2 none :: zt) (z_rm 1) (va_Pc [.ref (b + j), .ref (b + a0)] (wPre D dA vwCl (z_tys dA) wC nC b M)) (va_Qv (wQv Q) (zB D dA vwCl wC nC b) (zA nC b)) 0 0 (zA nC b) := by
  unfold wC_Strip_copy at h
  refine Met.ofW (cc := cX8_copy) (maxL := 2) (ret := none) (by decide) rfl ?_
  intro p e s m args below meth c s₁ B hml hv
  obtain ⟨hargs, hS, hK⟩ := hv
  have hx := B.exec
  have hb := B.bytes
  have hr := B.returns
  have hts := atoms_spec (ws := .code yX8_copy cX8_copy 2 none :: zt) B.pre
  have hown : s.vm.findClass RX8 = some m.cls := findClass_of_methodNamed B.named
  have hlocks := B.notSynchronized
  have hS0 : va_S (zA nC b) s.heap s.heap [] := va_S.rf
  have hl := lv_entry ([.ref (b + j), .ref (b + a0)]) (n := 2) (Nat.le_of_ble_eq_true rfl)
  have hent : entryFrame m args 2 = F0 m 0 ((lg_sl ([.ref (b + j), .ref (b + a0)]) ++ List.replicate (2 - (lg_sl ([.ref (b + j), .ref (b + a0)])).length) Slot.unset).toArray) [] := by rw [hargs]; exact lg_entry_eq m ([.ref (b + j), .ref (b + a0)]) 2
  rw [hent]
  generalize (lg_sl ([.ref (b + j), .ref (b + a0)]) ++ List.replicate (2 - (lg_sl ([.ref (b + j), .ref (b + a0)])).length) Slot.unset).toArray = ls at hl ⊢
  have hl : lv_has ls 2 [(0, .ref (b + j)), (1, .ref (b + a0))] := hl
  obtain ⟨lt1, cd2⟩ := nx_strip j lt_j cd_j
  obtain ⟨lt3, cd4⟩ := nx_strip a0 lt_a0 cd_a0
  refine lv_aload_n hx hb dX8_copy_0 rfl (lv_at hl 0 rfl) ?_
  refine lv_aload_n hx hb dX8_copy_1 rfl (lv_at hl 1 rfl) ?_
  refine w_geti hx hb hts (z_memU u8) hown hK.1 hS f8_1 lt_a0 (zkd_of cd_a0 rfl) (Or.inl (hts _ (z_mem k44))) dX8_copy_2 ?_
  refine w_puti hx hb hts (z_memU u8) tyX8 tyX8_ok nmX8 hown hK.1 hS hS0 f8_1 lt_j (zkd_of cd_j rfl) (Or.inl (hts _ (z_mem k44))) rfl (z := (M a0 1)) (by decide +kernel) dX8_copy_5 (fun H locs hS hS0 => ?_)
  obtain ⟨M5, e6⟩ : ∃ M5 : zM, M5 = zup M j 1 (M a0 1) := ⟨_, rfl⟩
  rw [← e6] at hS
  have h := h M5 e6
  refine lv_aload_n hx hb dX8_copy_8 rfl (lv_at hl 1 rfl) ?_
  refine w_getr (j2 := (a0 + 1)) hx hb hts (z_memU u8) hown hK.1 hS f8_0 lt_a0 (zkd_of cd_a0 rfl) (zrf_of cd_a0 rfl) (Or.inl (hts _ (z_mem k41))) dX8_copy_9 ?_
  refine z_iconst hx hb dX8_copy_12 ?_
  refine lv_aload_n hx hb dX8_copy_13 rfl (lv_at hl 0 rfl) ?_
  refine w_getr (j2 := (j + 1)) hx hb hts (z_memU u8) hown hK.1 hS f8_0 lt_j (zkd_of cd_j rfl) (zrf_of cd_j rfl) (Or.inl (hts _ (z_mem k41))) dX8_copy_14 ?_
  refine z_iconst hx hb dX8_copy_17 ?_
  refine z_bipush hx hb (by decide) dX8_copy_18 ?_
  obtain ⟨o7, h⟩ := h
  refine w_acopy (n0 := 24) (n1 := 24) (sp := 0) (dp := 0) (n := 24) hx hb (hml.trans hl.1.symm) hown (hts _ (z_mem k364)) (hts _ (z_mem k366)) (hts _ (z_mem k365)) (hts _ (z_mem k16)) hK.1 (t0 := 0) rfl hS hS0 lt3 lt1 o7 (zkd_of cd4 rfl) (zkd_of cd2 rfl) (zln_of cd4 rfl) (zln_of cd2 rfl) (by decide) (by decide) (sI_of (by decide)) (sI_of (by decide)) (sI_of (by decide)) (by decide) (by decide) (by decide) (by decide) (by decide) (by exact Nat.le_of_ble_eq_true rfl) (by exact Nat.le_of_ble_eq_true rfl) dX8_copy_20 (fun H locs hS hS0 => ?_)
  obtain ⟨M8, e9⟩ : ∃ M8 : zM, M8 = zcp M5 (a0 + 1) (j + 1) (0 : Int).toNat (0 : Int).toNat (24 : Int).toNat := ⟨_, rfl⟩
  rw [← e9] at hS
  have h := h M8 e9
  exact w_vret hx hb hr hlocks hS hS0 h dX8_copy_23

set_option maxRecDepth 100000 in
def wC_Splicer_close  (M : zM) (Q : Int → zM → Prop) : Prop := wC_Splicer_layTerm  M (fun z2 M1 => (z2 ≠ 0 → Q z2 M1) ∧ (z2 = 0 → ((sI (M1 1 2)) ≤ 0 → Q z2 M1) ∧ (0 < (sI (M1 1 2)) → (∀ M6 : zM, M6 = zup M1 1 2 ((M1 1 2) - 1) → ((0 ≤ (sI (M6 1 2)) ∧ (sI (M6 1 2)) < 6) ∧ ((0 ≤ (sI ((M6 1 2) + 1)) ∧ (sI ((M6 1 2) + 1)) < 6) ∧ wC_Strip_copy (8 + 4 * (sI (M6 1 2)).toNat) (6 + 4 * (sI ((M6 1 2) + 1)).toNat) M6 (fun M18 => Q z2 M18)))))))
set_option maxHeartbeats 4000000 in
set_option maxRecDepth 100000 in
theorem cC_Splicer_close (l : Launch) (D : va_G) (dA : Nat → ClassId) (b : Nat) (M : zM)   (Q : Int → zM → Prop) (h : wC_Splicer_close  M Q) : Met l yX7_close (.code yX7_close cX7_close 2 (some .int) :: zt) (z_rm 3) (va_Pc [.ref (b + 1)] (wPre D dA vwCl (z_tys dA) wC nC b M)) (va_Qi (wQi Q) (zB D dA vwCl wC nC b) (zA nC b)) 0 0 (zA nC b) := by
  unfold wC_Splicer_close at h
  refine Met.ofW (cc := cX7_close) (maxL := 2) (ret := (some .int)) (by decide) rfl ?_
  intro p e s m args below meth c s₁ B hml hv
  obtain ⟨hargs, hS, hK⟩ := hv
  have hx := B.exec
  have hb := B.bytes
  have hr := B.returns
  have hts := atoms_spec (ws := .code yX7_close cX7_close 2 (some .int) :: zt) B.pre
  have hown : s.vm.findClass RX7 = some m.cls := findClass_of_methodNamed B.named
  have hlocks := B.notSynchronized
  have hS0 : va_S (zA nC b) s.heap s.heap [] := va_S.rf
  have hl := lv_entry ([.ref (b + 1)]) (n := 2) (Nat.le_of_ble_eq_true rfl)
  have hent : entryFrame m args 2 = F0 m 0 ((lg_sl ([.ref (b + 1)]) ++ List.replicate (2 - (lg_sl ([.ref (b + 1)])).length) Slot.unset).toArray) [] := by rw [hargs]; exact lg_entry_eq m ([.ref (b + 1)]) 2
  rw [hent]
  generalize (lg_sl ([.ref (b + 1)]) ++ List.replicate (2 - (lg_sl ([.ref (b + 1)])).length) Slot.unset).toArray = ls at hl ⊢
  have hl : lv_has ls 2 [(0, .ref (b + 1))] := hl
  refine lv_aload_n hx hb dX7_close_0 rfl (lv_at hl 0 rfl) ?_
  refine w_calli (va_runV (As := []) (rest := []) ⟨hx, hb, hml, hown, hts⟩ (cC_Splicer_layTerm l D dA b M  _ h) (cwV 0 hts (z_gV k333 k334 k1359 k2 k335) rfl rfl rfl dm_X7_layTerm ⟨Nat.le_of_ble_eq_true rfl, Nat.le_of_ble_eq_true rfl⟩) ⟨wPre_blind, (w_recv hS hK.1 (by decide) (zkd_of (rfl : zcd wC 1 = 1) rfl) (by decide) (rfl : vwCl[7]? = some (RX7, TX7, 7))), w_pre hS hK⟩ rfl rfl hl.1 rfl (lv_room (Nat.le_of_ble_eq_true rfl)) dX7_close_1 ⟨Nat.le_refl _, Nat.le_refl _⟩) hS0 (fun z2 M1 H locs r3 h hS hS0 => ?_)
  refine lv_istore_n (lv' := [(1, .int (iI z2)), (0, .ref (b + 1))]) hx hb dX7_close_4 rfl hl (by decide) rfl (fun ls hl => ?_)
  refine lv_iload_n hx hb dX7_close_5 rfl (lv_at hl 0 rfl) ?_
  refine w_if_ne (tgt := 49) hx hb (sI_of r3) dX7_close_6 (by decide) (fun c4 => ?_) (fun c4 => ?_)
  · skip
    have h := h.1 c4
    refine lv_iload_n hx hb dX7_close_49 rfl (lv_at hl 0 rfl) ?_
    exact w_iret hx hb hr hlocks hS hS0 (sI_of r3) h dX7_close_50
  · skip
    have h := h.2 c4
    refine lv_aload_n hx hb dX7_close_9 rfl (lv_at hl 1 rfl) ?_
    refine w_geti hx hb hts (z_memU u7) hown hK.1 hS f7_2 (by decide) (zkd_of (rfl : zcd wC 1 = 1) rfl) (Or.inl (hts _ (z_mem k57))) dX7_close_10 ?_
    refine w_if_le (tgt := 49) hx hb rfl dX7_close_13 (by decide) (fun c5 => ?_) (fun c5 => ?_)
    · skip
      have h := h.1 c5
      refine lv_iload_n hx hb dX7_close_49 rfl (lv_at hl 0 rfl) ?_
      exact w_iret hx hb hr hlocks hS hS0 (sI_of r3) h dX7_close_50
    · skip
      have h := h.2 c5
      refine lv_aload_n hx hb dX7_close_16 rfl (lv_at hl 1 rfl) ?_
      refine lv_dup hx hb dX7_close_17 rfl ?_
      refine w_geti hx hb hts (z_memU u7) hown hK.1 hS f7_2 (by decide) (zkd_of (rfl : zcd wC 1 = 1) rfl) (Or.inl (hts _ (z_mem k57))) dX7_close_18 ?_
      refine z_iconst hx hb dX7_close_21 ?_
      refine z_isub hx hb dX7_close_22 ?_
      refine w_puti hx hb hts (z_memU u7) tyX7 tyX7_ok nmX7 hown hK.1 hS hS0 f7_2 (by decide) (zkd_of (rfl : zcd wC 1 = 1) rfl) (Or.inl (hts _ (z_mem k57))) rfl (z := ((M1 1 2) - 1)) (by decide +kernel) dX7_close_23 (fun H locs hS hS0 => ?_)
      obtain ⟨M6, e7⟩ : ∃ M6 : zM, M6 = zup M1 1 2 ((M1 1 2) - 1) := ⟨_, rfl⟩
      rw [← e7] at hS
      have h := h M6 e7
      refine lv_aload_n hx hb dX7_close_26 rfl (lv_at hl 1 rfl) ?_
      refine w_getr (j2 := 4) hx hb hts (z_memU u7) hown hK.1 hS f7_5 (by decide) (zkd_of (rfl : zcd wC 1 = 1) rfl) (zrf_of (rfl : zcd wC 1 = 1) rfl) (Or.inl (hts _ (z_mem k60))) dX7_close_27 ?_
      refine lv_aload_n hx hb dX7_close_30 rfl (lv_at hl 1 rfl) ?_
      refine w_geti hx hb hts (z_memU u7) hown hK.1 hS f7_2 (by decide) (zkd_of (rfl : zcd wC 1 = 1) rfl) (Or.inl (hts _ (z_mem k57))) dX7_close_31 ?_
      obtain ⟨o8, h⟩ := h
      refine w_aald (n := 6) (i := (sI (M6 1 2))) (j2 := (8 + 4 * (sI (M6 1 2)).toNat)) hx hb hK.1 (t0 := 4) (r := 4) (by decide) rfl rfl hS (by decide) (zkd_of (rfl : zcd wC 4 = 4) rfl) (zln_of (rfl : zcd wC 4 = 4) rfl) rfl o8.1 o8.2 (by decide) (zrf_of (rfl : zcd wC 4 = 4) rfl) dX7_close_34 ?_
      obtain ⟨lt9, cd10⟩ : (8 + 4 * (sI (M6 1 2)).toNat) < nC ∧ zcd wC (8 + 4 * (sI (M6 1 2)).toNat) = 6 := (by decide : ∀ k : Nat, k < 6 → (8 + 4 * k) < nC ∧ zcd wC (8 + 4 * k) = 6) (sI (M6 1 2)).toNat (by clear h; have h0 := o8.1; have h1 := o8.2; omega)
      obtain ⟨lt11, cd12⟩ := nx_strip (8 + 4 * (sI (M6 1 2)).toNat) lt9 cd10
      refine lv_aload_n hx hb dX7_close_35 rfl (lv_at hl 1 rfl) ?_
      refine w_getr (j2 := 3) hx hb hts (z_memU u7) hown hK.1 hS f7_4 (by decide) (zkd_of (rfl : zcd wC 1 = 1) rfl) (zrf_of (rfl : zcd wC 1 = 1) rfl) (Or.inl (hts _ (z_mem k59))) dX7_close_36 ?_
      refine lv_aload_n hx hb dX7_close_39 rfl (lv_at hl 1 rfl) ?_
      refine w_geti hx hb hts (z_memU u7) hown hK.1 hS f7_2 (by decide) (zkd_of (rfl : zcd wC 1 = 1) rfl) (Or.inl (hts _ (z_mem k57))) dX7_close_40 ?_
      refine z_iconst hx hb dX7_close_43 ?_
      refine z_iadd hx hb dX7_close_44 ?_
      obtain ⟨o13, h⟩ := h
      refine w_aald (n := 6) (i := (sI ((M6 1 2) + 1))) (j2 := (6 + 4 * (sI ((M6 1 2) + 1)).toNat)) hx hb hK.1 (t0 := 4) (r := 4) (by decide) rfl rfl hS (by decide) (zkd_of (rfl : zcd wC 3 = 3) rfl) (zln_of (rfl : zcd wC 3 = 3) rfl) rfl o13.1 o13.2 (by decide) (zrf_of (rfl : zcd wC 3 = 3) rfl) dX7_close_45 ?_
      obtain ⟨lt14, cd15⟩ : (6 + 4 * (sI ((M6 1 2) + 1)).toNat) < nC ∧ zcd wC (6 + 4 * (sI ((M6 1 2) + 1)).toNat) = 6 := (by decide : ∀ k : Nat, k < 6 → (6 + 4 * k) < nC ∧ zcd wC (6 + 4 * k) = 6) (sI ((M6 1 2) + 1)).toNat (by clear h; have h0 := o13.1; have h1 := o13.2; omega)
      obtain ⟨lt16, cd17⟩ := nx_strip (6 + 4 * (sI ((M6 1 2) + 1)).toNat) lt14 cd15
      refine w_callv (va_runV (As := [.ref (b + (6 + 4 * (sI ((M6 1 2) + 1)).toNat))]) (rest := []) ⟨hx, hb, hml, hown, hts⟩ (cC_Strip_copy l D dA b M6 (8 + 4 * (sI (M6 1 2)).toNat) (6 + 4 * (sI ((M6 1 2) + 1)).toNat) lt9 cd10 lt14 cd15 _ h) (cwV 1 hts (z_gV k360 k361 k362 k3 k363) rfl rfl rfl dm_X8_copy ⟨Nat.le_of_ble_eq_true rfl, Nat.le_of_ble_eq_true rfl⟩) ⟨wPre_blind, (w_recv hS hK.1 lt9 (zkd_of cd10 rfl) (by decide) (rfl : vwCl[8]? = some (RX8, TX8, 2))), w_pre hS hK⟩ rfl rfl hl.1 rfl (lv_room (Nat.le_of_ble_eq_true rfl)) dX7_close_46 ⟨Nat.le_refl _, Nat.le_refl _⟩) hS0 (fun M18 H locs h hS hS0 => ?_)
      refine lv_iload_n hx hb dX7_close_49 rfl (lv_at hl 0 rfl) ?_
      exact w_iret hx hb hr hlocks hS hS0 (sI_of r3) h dX7_close_50

set_option maxRecDepth 100000 in
def wC_Splicer_readSign (a0 : Int) (M : zM) (Q : Int → zM → Prop) : Prop := ((sI a0) = 40 → wC_Splicer_open  M (fun z3 M2 => Q z3 M2)) ∧ ((sI a0) ≠ 40 → ((sI a0) = 41 → wC_Splicer_close  M (fun z7 M6 => Q z7 M6)) ∧ ((sI a0) ≠ 41 → ((sI a0) = 42 → (∀ M10 : zM, M10 = zup M 1 3 a0 → Q 0 M10)) ∧ ((sI a0) ≠ 42 → ((sI a0) = 47 → (∀ M13 : zM, M13 = zup M 1 3 a0 → wC_Splicer_layTerm  M13 (fun z16 M15 => Q z16 M15))) ∧ ((sI a0) ≠ 47 → ((sI a0) = 91 → (∀ M19 : zM, M19 = zup M 1 3 a0 → wC_Splicer_beginTerm 0 M19 (fun z22 M21 => Q z22 M21))) ∧ ((sI a0) ≠ 91 → ((sI a0) = 93 → (∀ M25 : zM, M25 = zup M 1 3 0 → Q 0 M25)) ∧ ((sI a0) ≠ 93 → ((sI a0) = 126 → ((0 ≤ (sI (M 1 2)) ∧ (sI (M 1 2)) < 6) ∧ wC_Strip_turn (8 + 4 * (sI (M 1 2)).toNat) M (fun M33 => Q 0 M33))) ∧ ((sI a0) ≠ 126 → Q 0 M)))))))
set_option maxHeartbeats 4000000 in
set_option maxRecDepth 100000 in
theorem cC_Splicer_readSign (l : Launch) (D : va_G) (dA : Nat → ClassId) (b : Nat) (M : zM) (a0 : Int)  (Q : Int → zM → Prop) (h : wC_Splicer_readSign a0 M Q) : Met l yX7_readSign (.code yX7_readSign cX7_readSign 2 (some .int) :: zt) (z_rm 4) (va_Pc [.ref (b + 1), .int (iI a0)] (wPre D dA vwCl (z_tys dA) wC nC b M)) (va_Qi (wQi Q) (zB D dA vwCl wC nC b) (zA nC b)) 0 0 (zA nC b) := by
  unfold wC_Splicer_readSign at h
  refine Met.ofW (cc := cX7_readSign) (maxL := 2) (ret := (some .int)) (by decide) rfl ?_
  intro p e s m args below meth c s₁ B hml hv
  obtain ⟨hargs, hS, hK⟩ := hv
  have hx := B.exec
  have hb := B.bytes
  have hr := B.returns
  have hts := atoms_spec (ws := .code yX7_readSign cX7_readSign 2 (some .int) :: zt) B.pre
  have hown : s.vm.findClass RX7 = some m.cls := findClass_of_methodNamed B.named
  have hlocks := B.notSynchronized
  have hS0 : va_S (zA nC b) s.heap s.heap [] := va_S.rf
  have hl := lv_entry ([.ref (b + 1), .int (iI a0)]) (n := 2) (Nat.le_of_ble_eq_true rfl)
  have hent : entryFrame m args 2 = F0 m 0 ((lg_sl ([.ref (b + 1), .int (iI a0)]) ++ List.replicate (2 - (lg_sl ([.ref (b + 1), .int (iI a0)])).length) Slot.unset).toArray) [] := by rw [hargs]; exact lg_entry_eq m ([.ref (b + 1), .int (iI a0)]) 2
  rw [hent]
  generalize (lg_sl ([.ref (b + 1), .int (iI a0)]) ++ List.replicate (2 - (lg_sl ([.ref (b + 1), .int (iI a0)])).length) Slot.unset).toArray = ls at hl ⊢
  have hl : lv_has ls 2 [(0, .ref (b + 1)), (1, .int (iI a0))] := hl
  refine lv_iload_n hx hb dX7_readSign_0 rfl (lv_at hl 1 rfl) ?_
  rcases Decidable.em ((sI a0) = 40) with c1 | c1
  · skip
    have h := h.1 c1
    refine w_lookup (tgt := 117) hx hb rfl dX7_readSign_1 (by decide) (by first | (rw [c1]; done) | (rw [c1]; rfl)) (by decide) ?_
    refine lv_aload_n hx hb dX7_readSign_117 rfl (lv_at hl 0 rfl) ?_
    refine w_calli (va_runV (As := []) (rest := []) ⟨hx, hb, hml, hown, hts⟩ (cC_Splicer_open l D dA b M  _ h) (cwV 0 hts (z_gV k354 k355 k1361 k2 k356) rfl rfl rfl dm_X7_open ⟨Nat.le_of_ble_eq_true rfl, Nat.le_of_ble_eq_true rfl⟩) ⟨wPre_blind, (w_recv hS hK.1 (by decide) (zkd_of (rfl : zcd wC 1 = 1) rfl) (by decide) (rfl : vwCl[7]? = some (RX7, TX7, 7))), w_pre hS hK⟩ rfl rfl hl.1 rfl (lv_room (Nat.le_of_ble_eq_true rfl)) dX7_readSign_118 ⟨Nat.le_refl _, Nat.le_refl _⟩) hS0 (fun z3 M2 H locs r4 h hS hS0 => ?_)
    exact w_iret hx hb hr hlocks hS hS0 (sI_of r4) h dX7_readSign_121
  have h := h.2 c1
  rcases Decidable.em ((sI a0) = 41) with c5 | c5
  · skip
    have h := h.1 c5
    refine w_lookup (tgt := 122) hx hb rfl dX7_readSign_1 (by decide) (by first | (rw [c5]; done) | (rw [c5]; rfl)) (by decide) ?_
    refine lv_aload_n hx hb dX7_readSign_122 rfl (lv_at hl 0 rfl) ?_
    refine w_calli (va_runV (As := []) (rest := []) ⟨hx, hb, hml, hown, hts⟩ (cC_Splicer_close l D dA b M  _ h) (cwV 0 hts (z_gV k357 k358 k1362 k2 k359) rfl rfl rfl dm_X7_close ⟨Nat.le_of_ble_eq_true rfl, Nat.le_of_ble_eq_true rfl⟩) ⟨wPre_blind, (w_recv hS hK.1 (by decide) (zkd_of (rfl : zcd wC 1 = 1) rfl) (by decide) (rfl : vwCl[7]? = some (RX7, TX7, 7))), w_pre hS hK⟩ rfl rfl hl.1 rfl (lv_room (Nat.le_of_ble_eq_true rfl)) dX7_readSign_123 ⟨Nat.le_refl _, Nat.le_refl _⟩) hS0 (fun z7 M6 H locs r8 h hS hS0 => ?_)
    exact w_iret hx hb hr hlocks hS hS0 (sI_of r8) h dX7_readSign_126
  have h := h.2 c5
  rcases Decidable.em ((sI a0) = 42) with c9 | c9
  · skip
    have h := h.1 c9
    refine w_lookup (tgt := 68) hx hb rfl dX7_readSign_1 (by decide) (by first | (rw [c9]; done) | (rw [c9]; rfl)) (by decide) ?_
    refine lv_aload_n hx hb dX7_readSign_68 rfl (lv_at hl 0 rfl) ?_
    refine lv_iload_n hx hb dX7_readSign_69 rfl (lv_at hl 1 rfl) ?_
    refine w_puti hx hb hts (z_memU u7) tyX7 tyX7_ok nmX7 hown hK.1 hS hS0 f7_3 (by decide) (zkd_of (rfl : zcd wC 1 = 1) rfl) (Or.inl (hts _ (z_mem k58))) rfl (z := a0) (by decide +kernel) dX7_readSign_70 (fun H locs hS hS0 => ?_)
    obtain ⟨M10, e11⟩ : ∃ M10 : zM, M10 = zup M 1 3 a0 := ⟨_, rfl⟩
    rw [← e11] at hS
    have h := h M10 e11
    refine z_iconst hx hb dX7_readSign_73 ?_
    exact w_iret hx hb hr hlocks hS hS0 (sI_of (by decide)) h dX7_readSign_74
  have h := h.2 c9
  rcases Decidable.em ((sI a0) = 47) with c12 | c12
  · skip
    have h := h.1 c12
    refine w_lookup (tgt := 89) hx hb rfl dX7_readSign_1 (by decide) (by first | (rw [c12]; done) | (rw [c12]; rfl)) (by decide) ?_
    refine lv_aload_n hx hb dX7_readSign_89 rfl (lv_at hl 0 rfl) ?_
    refine lv_iload_n hx hb dX7_readSign_90 rfl (lv_at hl 1 rfl) ?_
    refine w_puti hx hb hts (z_memU u7) tyX7 tyX7_ok nmX7 hown hK.1 hS hS0 f7_3 (by decide) (zkd_of (rfl : zcd wC 1 = 1) rfl) (Or.inl (hts _ (z_mem k58))) rfl (z := a0) (by decide +kernel) dX7_readSign_91 (fun H locs hS hS0 => ?_)
    obtain ⟨M13, e14⟩ : ∃ M13 : zM, M13 = zup M 1 3 a0 := ⟨_, rfl⟩
    rw [← e14] at hS
    have h := h M13 e14
    refine lv_aload_n hx hb dX7_readSign_94 rfl (lv_at hl 0 rfl) ?_
    refine w_calli (va_runV (As := []) (rest := []) ⟨hx, hb, hml, hown, hts⟩ (cC_Splicer_layTerm l D dA b M13  _ h) (cwV 0 hts (z_gV k333 k334 k1359 k2 k335) rfl rfl rfl dm_X7_layTerm ⟨Nat.le_of_ble_eq_true rfl, Nat.le_of_ble_eq_true rfl⟩) ⟨wPre_blind, (w_recv hS hK.1 (by decide) (zkd_of (rfl : zcd wC 1 = 1) rfl) (by decide) (rfl : vwCl[7]? = some (RX7, TX7, 7))), w_pre hS hK⟩ rfl rfl hl.1 rfl (lv_room (Nat.le_of_ble_eq_true rfl)) dX7_readSign_95 ⟨Nat.le_refl _, Nat.le_refl _⟩) hS0 (fun z16 M15 H locs r17 h hS hS0 => ?_)
    exact w_iret hx hb hr hlocks hS hS0 (sI_of r17) h dX7_readSign_98
  have h := h.2 c12
  rcases Decidable.em ((sI a0) = 91) with c18 | c18
  · skip
    have h := h.1 c18
    refine w_lookup (tgt := 99) hx hb rfl dX7_readSign_1 (by decide) (by first | (rw [c18]; done) | (rw [c18]; rfl)) (by decide) ?_
    refine lv_aload_n hx hb dX7_readSign_99 rfl (lv_at hl 0 rfl) ?_
    refine lv_iload_n hx hb dX7_readSign_100 rfl (lv_at hl 1 rfl) ?_
    refine w_puti hx hb hts (z_memU u7) tyX7 tyX7_ok nmX7 hown hK.1 hS hS0 f7_3 (by decide) (zkd_of (rfl : zcd wC 1 = 1) rfl) (Or.inl (hts _ (z_mem k58))) rfl (z := a0) (by decide +kernel) dX7_readSign_101 (fun H locs hS hS0 => ?_)
    obtain ⟨M19, e20⟩ : ∃ M19 : zM, M19 = zup M 1 3 a0 := ⟨_, rfl⟩
    rw [← e20] at hS
    have h := h M19 e20
    refine lv_aload_n hx hb dX7_readSign_104 rfl (lv_at hl 0 rfl) ?_
    refine z_iconst hx hb dX7_readSign_105 ?_
    refine w_calli (va_runV (As := [.int (iI 0)]) (rest := []) ⟨hx, hb, hml, hown, hts⟩ (cC_Splicer_beginTerm l D dA b M19 0 _ h) (cwV 1 hts (z_gV k330 k331 k1358 k2 k332) rfl rfl rfl dm_X7_beginTerm ⟨Nat.le_of_ble_eq_true rfl, Nat.le_of_ble_eq_true rfl⟩) ⟨wPre_blind, (w_recv hS hK.1 (by decide) (zkd_of (rfl : zcd wC 1 = 1) rfl) (by decide) (rfl : vwCl[7]? = some (RX7, TX7, 7))), w_pre hS hK⟩ rfl rfl hl.1 rfl (lv_room (Nat.le_of_ble_eq_true rfl)) dX7_readSign_106 ⟨Nat.le_refl _, Nat.le_refl _⟩) hS0 (fun z22 M21 H locs r23 h hS hS0 => ?_)
    exact w_iret hx hb hr hlocks hS hS0 (sI_of r23) h dX7_readSign_109
  have h := h.2 c18
  rcases Decidable.em ((sI a0) = 93) with c24 | c24
  · skip
    have h := h.1 c24
    refine w_lookup (tgt := 110) hx hb rfl dX7_readSign_1 (by decide) (by first | (rw [c24]; done) | (rw [c24]; rfl)) (by decide) ?_
    refine lv_aload_n hx hb dX7_readSign_110 rfl (lv_at hl 0 rfl) ?_
    refine z_iconst hx hb dX7_readSign_111 ?_
    refine w_puti hx hb hts (z_memU u7) tyX7 tyX7_ok nmX7 hown hK.1 hS hS0 f7_3 (by decide) (zkd_of (rfl : zcd wC 1 = 1) rfl) (Or.inl (hts _ (z_mem k58))) rfl (z := 0) (by decide +kernel) dX7_readSign_112 (fun H locs hS hS0 => ?_)
    obtain ⟨M25, e26⟩ : ∃ M25 : zM, M25 = zup M 1 3 0 := ⟨_, rfl⟩
    rw [← e26] at hS
    have h := h M25 e26
    refine z_iconst hx hb dX7_readSign_115 ?_
    exact w_iret hx hb hr hlocks hS hS0 (sI_of (by decide)) h dX7_readSign_116
  have h := h.2 c24
  rcases Decidable.em ((sI a0) = 126) with c27 | c27
  · skip
    have h := h.1 c27
    refine w_lookup (tgt := 75) hx hb rfl dX7_readSign_1 (by decide) (by first | (rw [c27]; done) | (rw [c27]; rfl)) (by decide) ?_
    refine lv_aload_n hx hb dX7_readSign_75 rfl (lv_at hl 0 rfl) ?_
    refine w_getr (j2 := 4) hx hb hts (z_memU u7) hown hK.1 hS f7_5 (by decide) (zkd_of (rfl : zcd wC 1 = 1) rfl) (zrf_of (rfl : zcd wC 1 = 1) rfl) (Or.inl (hts _ (z_mem k60))) dX7_readSign_76 ?_
    refine lv_aload_n hx hb dX7_readSign_79 rfl (lv_at hl 0 rfl) ?_
    refine w_geti hx hb hts (z_memU u7) hown hK.1 hS f7_2 (by decide) (zkd_of (rfl : zcd wC 1 = 1) rfl) (Or.inl (hts _ (z_mem k57))) dX7_readSign_80 ?_
    obtain ⟨o28, h⟩ := h
    refine w_aald (n := 6) (i := (sI (M 1 2))) (j2 := (8 + 4 * (sI (M 1 2)).toNat)) hx hb hK.1 (t0 := 4) (r := 4) (by decide) rfl rfl hS (by decide) (zkd_of (rfl : zcd wC 4 = 4) rfl) (zln_of (rfl : zcd wC 4 = 4) rfl) rfl o28.1 o28.2 (by decide) (zrf_of (rfl : zcd wC 4 = 4) rfl) dX7_readSign_83 ?_
    obtain ⟨lt29, cd30⟩ : (8 + 4 * (sI (M 1 2)).toNat) < nC ∧ zcd wC (8 + 4 * (sI (M 1 2)).toNat) = 6 := (by decide : ∀ k : Nat, k < 6 → (8 + 4 * k) < nC ∧ zcd wC (8 + 4 * k) = 6) (sI (M 1 2)).toNat (by clear h; have h0 := o28.1; have h1 := o28.2; omega)
    obtain ⟨lt31, cd32⟩ := nx_strip (8 + 4 * (sI (M 1 2)).toNat) lt29 cd30
    refine w_callv (va_runV (As := []) (rest := []) ⟨hx, hb, hml, hown, hts⟩ (cC_Strip_turn l D dA b M (8 + 4 * (sI (M 1 2)).toNat) lt29 cd30 _ h) (cwV 0 hts (z_gV k350 k351 k352 k3 k353) rfl rfl rfl dm_X8_turn ⟨Nat.le_of_ble_eq_true rfl, Nat.le_of_ble_eq_true rfl⟩) ⟨wPre_blind, (w_recv hS hK.1 lt29 (zkd_of cd30 rfl) (by decide) (rfl : vwCl[8]? = some (RX8, TX8, 2))), w_pre hS hK⟩ rfl rfl hl.1 rfl (lv_room (Nat.le_of_ble_eq_true rfl)) dX7_readSign_84 ⟨Nat.le_refl _, Nat.le_refl _⟩) hS0 (fun M33 H locs h hS hS0 => ?_)
    refine z_iconst hx hb dX7_readSign_87 ?_
    exact w_iret hx hb hr hlocks hS hS0 (sI_of (by decide)) h dX7_readSign_88
  have h := h.2 c27
  refine w_lookup (tgt := 127) hx hb rfl dX7_readSign_1 (by decide) (by simp only [Op.lookupswitch.offset, if_neg (Ne.symm c1), if_neg (Ne.symm c5), if_neg (Ne.symm c9), if_neg (Ne.symm c12), if_neg (Ne.symm c18), if_neg (Ne.symm c24), if_neg (Ne.symm c27)] <;> rfl) (by decide) ?_
  refine z_iconst hx hb dX7_readSign_127 ?_
  exact w_iret hx hb hr hlocks hS hS0 (sI_of (by decide)) h dX7_readSign_128
end zz10_w01
section zz10_w02
/-! the W layer, 2 -/
theorem q10w02_0_0 : (cX11_by.data.toList.drop 0).take 24 = [28, 4, 162, 0, 5, 3, 172, 30, 28, 133, 113, 136, 62, 29, 156, 0, 9, 29, 28, 96, 167, 0, 4, 29] := by decide +kernel
theorem q10w02_0_24 : (cX11_by.data.toList.drop 24).take 1 = [172] := by decide +kernel
theorem dX11_by_0 : decode cX11_by 0 = .ok (.iload_n 2, 1) := dz_28 (dz_at q10w02_0_0 0)
theorem dX11_by_1 : decode cX11_by 1 = .ok (.iconst 1, 1) := dz_4 (dz_at q10w02_0_0 1)
theorem dX11_by_10 : decode cX11_by 10 = .ok (.lrem, 1) := dz_113 (dz_at q10w02_0_0 10)
theorem dX11_by_11 : decode cX11_by 11 = .ok (.l2i, 1) := dz_136 (dz_at q10w02_0_0 11)
theorem dX11_by_12 : decode cX11_by 12 = .ok (.istore_n 3, 1) := dz_62 (dz_at q10w02_0_0 12)
theorem dX11_by_13 : decode cX11_by 13 = .ok (.iload_n 3, 1) := dz_29 (dz_at q10w02_0_0 13)
theorem dX11_by_14 : decode cX11_by 14 = .ok (.ifCond .ge 9, 3) := dz_156 (dz_at q10w02_0_0 14) (by decide +kernel)
theorem dX11_by_17 : decode cX11_by 17 = .ok (.iload_n 3, 1) := dz_29 (dz_at q10w02_0_0 17)
theorem dX11_by_18 : decode cX11_by 18 = .ok (.iload_n 2, 1) := dz_28 (dz_at q10w02_0_0 18)
theorem dX11_by_19 : decode cX11_by 19 = .ok (.iadd, 1) := dz_96 (dz_at q10w02_0_0 19)
theorem dX11_by_2 : decode cX11_by 2 = .ok (.if_icmp .ge 5, 3) := dz_162 (dz_at q10w02_0_0 2) (by decide +kernel)
theorem dX11_by_20 : decode cX11_by 20 = .ok (.goto 4, 3) := dz_167 (dz_at q10w02_0_0 20) (by decide +kernel)
theorem dX11_by_23 : decode cX11_by 23 = .ok (.iload_n 3, 1) := dz_29 (dz_at q10w02_0_0 23)
theorem dX11_by_24 : decode cX11_by 24 = .ok (.ireturn, 1) := dz_172 (dz_at q10w02_0_24 0)
theorem dX11_by_5 : decode cX11_by 5 = .ok (.iconst 0, 1) := dz_3 (dz_at q10w02_0_0 5)
theorem dX11_by_6 : decode cX11_by 6 = .ok (.ireturn, 1) := dz_172 (dz_at q10w02_0_0 6)
theorem dX11_by_7 : decode cX11_by 7 = .ok (.lload_n 0, 1) := dz_30 (dz_at q10w02_0_0 7)
theorem dX11_by_8 : decode cX11_by 8 = .ok (.iload_n 2, 1) := dz_28 (dz_at q10w02_0_0 8)
theorem dX11_by_9 : decode cX11_by 9 = .ok (.i2l, 1) := dz_133 (dz_at q10w02_0_0 9)
theorem q10w02_1_0 : (cX11_hand.data.toList.drop 0).take 9 = [42, 180, 0, 19, 27, 182, 0, 92, 172] := by decide +kernel
theorem dX11_hand_0 : decode cX11_hand 0 = .ok (.aload_n 0, 1) := dz_42 (dz_at q10w02_1_0 0)
theorem dX11_hand_1 : decode cX11_hand 1 = .ok (.getfield 19, 3) := dz_180 (dz_at q10w02_1_0 1) rfl
theorem dX11_hand_4 : decode cX11_hand 4 = .ok (.iload_n 1, 1) := dz_27 (dz_at q10w02_1_0 4)
theorem dX11_hand_5 : decode cX11_hand 5 = .ok (.invokevirtual 92, 3) := dz_182 (dz_at q10w02_1_0 5) rfl
theorem dX11_hand_8 : decode cX11_hand 8 = .ok (.ireturn, 1) := dz_172 (dz_at q10w02_1_0 8)
theorem q10w02_2_0 : (cX11_isMotor.data.toList.drop 0).take 7 = [26, 3, 4, 184, 0, 113, 172] := by decide +kernel
theorem dX11_isMotor_0 : decode cX11_isMotor 0 = .ok (.iload_n 0, 1) := dz_26 (dz_at q10w02_2_0 0)
theorem dX11_isMotor_1 : decode cX11_isMotor 1 = .ok (.iconst 0, 1) := dz_3 (dz_at q10w02_2_0 1)
theorem dX11_isMotor_2 : decode cX11_isMotor 2 = .ok (.iconst 1, 1) := dz_4 (dz_at q10w02_2_0 2)
theorem dX11_isMotor_3 : decode cX11_isMotor 3 = .ok (.invokestatic 113, 3) := dz_184 (dz_at q10w02_2_0 3) rfl
theorem dX11_isMotor_6 : decode cX11_isMotor 6 = .ok (.ireturn, 1) := dz_172 (dz_at q10w02_2_0 6)
theorem q10w02_3_0 : (cX11_ring.data.toList.drop 0).take 24 = [27, 184, 0, 95, 153, 0, 14, 42, 180, 0, 19, 28, 182, 0, 98, 154, 0, 5, 2, 172, 42, 180, 0, 26] := by decide +kernel
theorem q10w02_3_24 : (cX11_ring.data.toList.drop 24).take 10 = [42, 180, 0, 19, 27, 28, 182, 0, 101, 172] := by decide +kernel
theorem dX11_ring_0 : decode cX11_ring 0 = .ok (.iload_n 1, 1) := dz_27 (dz_at q10w02_3_0 0)
theorem dX11_ring_1 : decode cX11_ring 1 = .ok (.invokestatic 95, 3) := dz_184 (dz_at q10w02_3_0 1) rfl
theorem dX11_ring_11 : decode cX11_ring 11 = .ok (.iload_n 2, 1) := dz_28 (dz_at q10w02_3_0 11)
theorem dX11_ring_12 : decode cX11_ring 12 = .ok (.invokevirtual 98, 3) := dz_182 (dz_at q10w02_3_0 12) rfl
theorem dX11_ring_15 : decode cX11_ring 15 = .ok (.ifCond .ne 5, 3) := dz_154 (dz_at q10w02_3_0 15) (by decide +kernel)
theorem dX11_ring_18 : decode cX11_ring 18 = .ok (.iconst (-1), 1) := dz_2 (dz_at q10w02_3_0 18)
theorem dX11_ring_19 : decode cX11_ring 19 = .ok (.ireturn, 1) := dz_172 (dz_at q10w02_3_0 19)
theorem dX11_ring_20 : decode cX11_ring 20 = .ok (.aload_n 0, 1) := dz_42 (dz_at q10w02_3_0 20)
theorem dX11_ring_21 : decode cX11_ring 21 = .ok (.getfield 26, 3) := dz_180 (dz_at q10w02_3_0 21) rfl
theorem dX11_ring_24 : decode cX11_ring 24 = .ok (.aload_n 0, 1) := dz_42 (dz_at q10w02_3_24 0)
theorem dX11_ring_25 : decode cX11_ring 25 = .ok (.getfield 19, 3) := dz_180 (dz_at q10w02_3_24 1) rfl
theorem dX11_ring_28 : decode cX11_ring 28 = .ok (.iload_n 1, 1) := dz_27 (dz_at q10w02_3_24 4)
theorem dX11_ring_29 : decode cX11_ring 29 = .ok (.iload_n 2, 1) := dz_28 (dz_at q10w02_3_24 5)
theorem dX11_ring_30 : decode cX11_ring 30 = .ok (.invokevirtual 101, 3) := dz_182 (dz_at q10w02_3_24 6) rfl
theorem dX11_ring_33 : decode cX11_ring 33 = .ok (.ireturn, 1) := dz_172 (dz_at q10w02_3_24 9)
theorem dX11_ring_4 : decode cX11_ring 4 = .ok (.ifCond .eq 14, 3) := dz_153 (dz_at q10w02_3_0 4) (by decide +kernel)
theorem dX11_ring_7 : decode cX11_ring 7 = .ok (.aload_n 0, 1) := dz_42 (dz_at q10w02_3_0 7)
theorem dX11_ring_8 : decode cX11_ring 8 = .ok (.getfield 19, 3) := dz_180 (dz_at q10w02_3_0 8) rfl
theorem q10w02_4_0 : (cX11_splice.data.toList.drop 0).take 12 = [42, 180, 0, 12, 42, 180, 0, 19, 182, 0, 88, 172] := by decide +kernel
theorem dX11_splice_0 : decode cX11_splice 0 = .ok (.aload_n 0, 1) := dz_42 (dz_at q10w02_4_0 0)
theorem dX11_splice_1 : decode cX11_splice 1 = .ok (.getfield 12, 3) := dz_180 (dz_at q10w02_4_0 1) rfl
theorem dX11_splice_11 : decode cX11_splice 11 = .ok (.ireturn, 1) := dz_172 (dz_at q10w02_4_0 11)
theorem dX11_splice_4 : decode cX11_splice 4 = .ok (.aload_n 0, 1) := dz_42 (dz_at q10w02_4_0 4)
theorem dX11_splice_5 : decode cX11_splice 5 = .ok (.getfield 19, 3) := dz_180 (dz_at q10w02_4_0 5) rfl
theorem dX11_splice_8 : decode cX11_splice 8 = .ok (.invokevirtual 88, 3) := dz_182 (dz_at q10w02_4_0 8) rfl
theorem q10w02_5_0 : (cX11_within.data.toList.drop 0).take 16 = [26, 27, 161, 0, 12, 26, 28, 163, 0, 7, 4, 167, 0, 4, 3, 172] := by decide +kernel
theorem dX11_within_0 : decode cX11_within 0 = .ok (.iload_n 0, 1) := dz_26 (dz_at q10w02_5_0 0)
theorem dX11_within_1 : decode cX11_within 1 = .ok (.iload_n 1, 1) := dz_27 (dz_at q10w02_5_0 1)
theorem dX11_within_10 : decode cX11_within 10 = .ok (.iconst 1, 1) := dz_4 (dz_at q10w02_5_0 10)
theorem dX11_within_11 : decode cX11_within 11 = .ok (.goto 4, 3) := dz_167 (dz_at q10w02_5_0 11) (by decide +kernel)
theorem dX11_within_14 : decode cX11_within 14 = .ok (.iconst 0, 1) := dz_3 (dz_at q10w02_5_0 14)
theorem dX11_within_15 : decode cX11_within 15 = .ok (.ireturn, 1) := dz_172 (dz_at q10w02_5_0 15)
theorem dX11_within_2 : decode cX11_within 2 = .ok (.if_icmp .lt 12, 3) := dz_161 (dz_at q10w02_5_0 2) (by decide +kernel)
theorem dX11_within_5 : decode cX11_within 5 = .ok (.iload_n 0, 1) := dz_26 (dz_at q10w02_5_0 5)
theorem dX11_within_6 : decode cX11_within 6 = .ok (.iload_n 2, 1) := dz_28 (dz_at q10w02_5_0 6)
theorem dX11_within_7 : decode cX11_within 7 = .ok (.if_icmp .gt 7, 3) := dz_163 (dz_at q10w02_5_0 7) (by decide +kernel)
theorem q10w02_6_0 : (cX6_begin.data.toList.drop 0).take 24 = [42, 180, 0, 12, 43, 182, 0, 35, 42, 28, 181, 0, 18, 42, 29, 181, 0, 22, 42, 4, 181, 0, 25, 42] := by decide +kernel
theorem q10w02_6_24 : (cX6_begin.data.toList.drop 24).take 9 = [3, 181, 0, 28, 42, 182, 0, 39, 177] := by decide +kernel
theorem dX6_begin_0 : decode cX6_begin 0 = .ok (.aload_n 0, 1) := dz_42 (dz_at q10w02_6_0 0)
theorem dX6_begin_1 : decode cX6_begin 1 = .ok (.getfield 12, 3) := dz_180 (dz_at q10w02_6_0 1) rfl
theorem dX6_begin_10 : decode cX6_begin 10 = .ok (.putfield 18, 3) := dz_181 (dz_at q10w02_6_0 10) rfl
theorem dX6_begin_13 : decode cX6_begin 13 = .ok (.aload_n 0, 1) := dz_42 (dz_at q10w02_6_0 13)
theorem dX6_begin_14 : decode cX6_begin 14 = .ok (.iload_n 3, 1) := dz_29 (dz_at q10w02_6_0 14)
theorem dX6_begin_15 : decode cX6_begin 15 = .ok (.putfield 22, 3) := dz_181 (dz_at q10w02_6_0 15) rfl
theorem dX6_begin_18 : decode cX6_begin 18 = .ok (.aload_n 0, 1) := dz_42 (dz_at q10w02_6_0 18)
theorem dX6_begin_19 : decode cX6_begin 19 = .ok (.iconst 1, 1) := dz_4 (dz_at q10w02_6_0 19)
theorem dX6_begin_20 : decode cX6_begin 20 = .ok (.putfield 25, 3) := dz_181 (dz_at q10w02_6_0 20) rfl
theorem dX6_begin_23 : decode cX6_begin 23 = .ok (.aload_n 0, 1) := dz_42 (dz_at q10w02_6_0 23)
theorem dX6_begin_24 : decode cX6_begin 24 = .ok (.iconst 0, 1) := dz_3 (dz_at q10w02_6_24 0)
theorem dX6_begin_25 : decode cX6_begin 25 = .ok (.putfield 28, 3) := dz_181 (dz_at q10w02_6_24 1) rfl
theorem dX6_begin_28 : decode cX6_begin 28 = .ok (.aload_n 0, 1) := dz_42 (dz_at q10w02_6_24 4)
theorem dX6_begin_29 : decode cX6_begin 29 = .ok (.invokevirtual 39, 3) := dz_182 (dz_at q10w02_6_24 5) rfl
theorem dX6_begin_32 : decode cX6_begin 32 = .ok (.return_, 1) := dz_177 (dz_at q10w02_6_24 8)
theorem dX6_begin_4 : decode cX6_begin 4 = .ok (.aload_n 1, 1) := dz_43 (dz_at q10w02_6_0 4)
theorem dX6_begin_5 : decode cX6_begin 5 = .ok (.invokevirtual 35, 3) := dz_182 (dz_at q10w02_6_0 5) rfl
theorem dX6_begin_8 : decode cX6_begin 8 = .ok (.aload_n 0, 1) := dz_42 (dz_at q10w02_6_0 8)
theorem dX6_begin_9 : decode cX6_begin 9 = .ok (.iload_n 2, 1) := dz_28 (dz_at q10w02_6_0 9)
theorem q10w02_7_0 : (cX6_fillUnder.data.toList.drop 0).take 22 = [3, 62, 29, 28, 162, 0, 24, 29, 43, 190, 162, 0, 18, 43, 29, 42, 29, 28, 182, 0, 49, 79] := by decide +kernel
theorem q10w02_7_22 : (cX6_fillUnder.data.toList.drop 22).take 7 = [132, 3, 1, 167, 255, 233, 177] := by decide +kernel
theorem dX6_fillUnder_0 : decode cX6_fillUnder 0 = .ok (.iconst 0, 1) := dz_3 (dz_at q10w02_7_0 0)
theorem dX6_fillUnder_1 : decode cX6_fillUnder 1 = .ok (.istore_n 3, 1) := dz_62 (dz_at q10w02_7_0 1)
theorem dX6_fillUnder_10 : decode cX6_fillUnder 10 = .ok (.if_icmp .ge 18, 3) := dz_162 (dz_at q10w02_7_0 10) (by decide +kernel)
theorem dX6_fillUnder_13 : decode cX6_fillUnder 13 = .ok (.aload_n 1, 1) := dz_43 (dz_at q10w02_7_0 13)
theorem dX6_fillUnder_14 : decode cX6_fillUnder 14 = .ok (.iload_n 3, 1) := dz_29 (dz_at q10w02_7_0 14)
theorem dX6_fillUnder_15 : decode cX6_fillUnder 15 = .ok (.aload_n 0, 1) := dz_42 (dz_at q10w02_7_0 15)
theorem dX6_fillUnder_16 : decode cX6_fillUnder 16 = .ok (.iload_n 3, 1) := dz_29 (dz_at q10w02_7_0 16)
theorem dX6_fillUnder_17 : decode cX6_fillUnder 17 = .ok (.iload_n 2, 1) := dz_28 (dz_at q10w02_7_0 17)
theorem dX6_fillUnder_18 : decode cX6_fillUnder 18 = .ok (.invokevirtual 49, 3) := dz_182 (dz_at q10w02_7_0 18) rfl
theorem dX6_fillUnder_2 : decode cX6_fillUnder 2 = .ok (.iload_n 3, 1) := dz_29 (dz_at q10w02_7_0 2)
theorem dX6_fillUnder_21 : decode cX6_fillUnder 21 = .ok (.iastore, 1) := dz_79 (dz_at q10w02_7_0 21)
theorem dX6_fillUnder_22 : decode cX6_fillUnder 22 = .ok (.iinc 3 1, 3) := dz_132 (dz_at q10w02_7_22 0) (by decide +kernel)
theorem dX6_fillUnder_25 : decode cX6_fillUnder 25 = .ok (.goto (-23), 3) := dz_167 (dz_at q10w02_7_22 3) (by decide +kernel)
theorem dX6_fillUnder_28 : decode cX6_fillUnder 28 = .ok (.return_, 1) := dz_177 (dz_at q10w02_7_22 6)
theorem dX6_fillUnder_3 : decode cX6_fillUnder 3 = .ok (.iload_n 2, 1) := dz_28 (dz_at q10w02_7_0 3)
theorem dX6_fillUnder_4 : decode cX6_fillUnder 4 = .ok (.if_icmp .ge 24, 3) := dz_162 (dz_at q10w02_7_0 4) (by decide +kernel)
theorem dX6_fillUnder_7 : decode cX6_fillUnder 7 = .ok (.iload_n 3, 1) := dz_29 (dz_at q10w02_7_0 7)
theorem dX6_fillUnder_8 : decode cX6_fillUnder 8 = .ok (.aload_n 1, 1) := dz_43 (dz_at q10w02_7_0 8)
theorem dX6_fillUnder_9 : decode cX6_fillUnder 9 = .ok (.arraylength, 1) := dz_190 (dz_at q10w02_7_0 9)
theorem q10w02_8_0 : (cX6_listen.data.toList.drop 0).take 16 = [42, 42, 180, 0, 31, 42, 180, 0, 12, 180, 0, 42, 182, 0, 45, 177] := by decide +kernel
theorem dX6_listen_0 : decode cX6_listen 0 = .ok (.aload_n 0, 1) := dz_42 (dz_at q10w02_8_0 0)
theorem dX6_listen_1 : decode cX6_listen 1 = .ok (.aload_n 0, 1) := dz_42 (dz_at q10w02_8_0 1)
theorem dX6_listen_12 : decode cX6_listen 12 = .ok (.invokevirtual 45, 3) := dz_182 (dz_at q10w02_8_0 12) rfl
theorem dX6_listen_15 : decode cX6_listen 15 = .ok (.return_, 1) := dz_177 (dz_at q10w02_8_0 15)
theorem dX6_listen_2 : decode cX6_listen 2 = .ok (.getfield 31, 3) := dz_180 (dz_at q10w02_8_0 2) rfl
theorem dX6_listen_5 : decode cX6_listen 5 = .ok (.aload_n 0, 1) := dz_42 (dz_at q10w02_8_0 5)
theorem dX6_listen_6 : decode cX6_listen 6 = .ok (.getfield 12, 3) := dz_180 (dz_at q10w02_8_0 6) rfl
theorem dX6_listen_9 : decode cX6_listen 9 = .ok (.getfield 42, 3) := dz_180 (dz_at q10w02_8_0 9) rfl
theorem q10w02_9_0 : (cX6_soundsUnder.data.toList.drop 0).take 24 = [3, 62, 3, 54, 4, 21, 4, 16, 24, 162, 0, 41, 42, 180, 0, 25, 21, 4, 122, 4, 126, 153, 0, 23] := by decide +kernel
theorem q10w02_9_24 : (cX6_soundsUnder.data.toList.drop 24).take 23 = [29, 42, 180, 0, 12, 180, 0, 53, 27, 21, 4, 96, 133, 28, 184, 0, 56, 46, 128, 62, 132, 4, 1] := by decide +kernel
theorem q10w02_9_47 : (cX6_soundsUnder.data.toList.drop 47).take 5 = [167, 255, 214, 29, 172] := by decide +kernel
theorem dX6_soundsUnder_0 : decode cX6_soundsUnder 0 = .ok (.iconst 0, 1) := dz_3 (dz_at q10w02_9_0 0)
theorem dX6_soundsUnder_1 : decode cX6_soundsUnder 1 = .ok (.istore_n 3, 1) := dz_62 (dz_at q10w02_9_0 1)
theorem dX6_soundsUnder_12 : decode cX6_soundsUnder 12 = .ok (.aload_n 0, 1) := dz_42 (dz_at q10w02_9_0 12)
theorem dX6_soundsUnder_13 : decode cX6_soundsUnder 13 = .ok (.getfield 25, 3) := dz_180 (dz_at q10w02_9_0 13) rfl
theorem dX6_soundsUnder_16 : decode cX6_soundsUnder 16 = .ok (.iload 4, 2) := dz_21 (dz_at q10w02_9_0 16)
theorem dX6_soundsUnder_18 : decode cX6_soundsUnder 18 = .ok (.ishr, 1) := dz_122 (dz_at q10w02_9_0 18)
theorem dX6_soundsUnder_19 : decode cX6_soundsUnder 19 = .ok (.iconst 1, 1) := dz_4 (dz_at q10w02_9_0 19)
theorem dX6_soundsUnder_2 : decode cX6_soundsUnder 2 = .ok (.iconst 0, 1) := dz_3 (dz_at q10w02_9_0 2)
theorem dX6_soundsUnder_20 : decode cX6_soundsUnder 20 = .ok (.iand, 1) := dz_126 (dz_at q10w02_9_0 20)
theorem dX6_soundsUnder_21 : decode cX6_soundsUnder 21 = .ok (.ifCond .eq 23, 3) := dz_153 (dz_at q10w02_9_0 21) (by decide +kernel)
theorem dX6_soundsUnder_24 : decode cX6_soundsUnder 24 = .ok (.iload_n 3, 1) := dz_29 (dz_at q10w02_9_24 0)
theorem dX6_soundsUnder_25 : decode cX6_soundsUnder 25 = .ok (.aload_n 0, 1) := dz_42 (dz_at q10w02_9_24 1)
theorem dX6_soundsUnder_26 : decode cX6_soundsUnder 26 = .ok (.getfield 12, 3) := dz_180 (dz_at q10w02_9_24 2) rfl
theorem dX6_soundsUnder_29 : decode cX6_soundsUnder 29 = .ok (.getfield 53, 3) := dz_180 (dz_at q10w02_9_24 5) rfl
theorem dX6_soundsUnder_3 : decode cX6_soundsUnder 3 = .ok (.istore 4, 2) := dz_54 (dz_at q10w02_9_0 3)
theorem dX6_soundsUnder_32 : decode cX6_soundsUnder 32 = .ok (.iload_n 1, 1) := dz_27 (dz_at q10w02_9_24 8)
theorem dX6_soundsUnder_33 : decode cX6_soundsUnder 33 = .ok (.iload 4, 2) := dz_21 (dz_at q10w02_9_24 9)
theorem dX6_soundsUnder_35 : decode cX6_soundsUnder 35 = .ok (.iadd, 1) := dz_96 (dz_at q10w02_9_24 11)
theorem dX6_soundsUnder_36 : decode cX6_soundsUnder 36 = .ok (.i2l, 1) := dz_133 (dz_at q10w02_9_24 12)
theorem dX6_soundsUnder_37 : decode cX6_soundsUnder 37 = .ok (.iload_n 2, 1) := dz_28 (dz_at q10w02_9_24 13)
theorem dX6_soundsUnder_38 : decode cX6_soundsUnder 38 = .ok (.invokestatic 56, 3) := dz_184 (dz_at q10w02_9_24 14) rfl
theorem dX6_soundsUnder_41 : decode cX6_soundsUnder 41 = .ok (.iaload, 1) := dz_46 (dz_at q10w02_9_24 17)
theorem dX6_soundsUnder_42 : decode cX6_soundsUnder 42 = .ok (.ior, 1) := dz_128 (dz_at q10w02_9_24 18)
theorem dX6_soundsUnder_43 : decode cX6_soundsUnder 43 = .ok (.istore_n 3, 1) := dz_62 (dz_at q10w02_9_24 19)
theorem dX6_soundsUnder_44 : decode cX6_soundsUnder 44 = .ok (.iinc 4 1, 3) := dz_132 (dz_at q10w02_9_24 20) (by decide +kernel)
theorem dX6_soundsUnder_47 : decode cX6_soundsUnder 47 = .ok (.goto (-42), 3) := dz_167 (dz_at q10w02_9_47 0) (by decide +kernel)
theorem dX6_soundsUnder_5 : decode cX6_soundsUnder 5 = .ok (.iload 4, 2) := dz_21 (dz_at q10w02_9_0 5)
theorem dX6_soundsUnder_50 : decode cX6_soundsUnder 50 = .ok (.iload_n 3, 1) := dz_29 (dz_at q10w02_9_47 3)
theorem dX6_soundsUnder_51 : decode cX6_soundsUnder 51 = .ok (.ireturn, 1) := dz_172 (dz_at q10w02_9_47 4)
theorem dX6_soundsUnder_7 : decode cX6_soundsUnder 7 = .ok (.bipush 24, 2) := dz_16 (dz_at q10w02_9_0 7) (by decide +kernel)
theorem dX6_soundsUnder_9 : decode cX6_soundsUnder 9 = .ok (.if_icmp .ge 41, 3) := dz_162 (dz_at q10w02_9_0 9) (by decide +kernel)
theorem q10w02_10_0 : (cX7_putInto.data.toList.drop 0).take 23 = [42, 182, 0, 38, 61, 28, 2, 160, 0, 10, 42, 182, 0, 42, 167, 0, 6, 2, 28, 100, 62, 42, 3] := by decide +kernel
theorem q10w02_10_23 : (cX7_putInto.data.toList.drop 23).take 24 = [181, 0, 15, 29, 154, 0, 18, 43, 42, 180, 0, 27, 3, 50, 182, 0, 45, 43, 180, 0, 49, 62, 29, 172] := by decide +kernel
theorem dX7_putInto_0 : decode cX7_putInto 0 = .ok (.aload_n 0, 1) := dz_42 (dz_at q10w02_10_0 0)
theorem dX7_putInto_1 : decode cX7_putInto 1 = .ok (.invokevirtual 38, 3) := dz_182 (dz_at q10w02_10_0 1) rfl
theorem dX7_putInto_10 : decode cX7_putInto 10 = .ok (.aload_n 0, 1) := dz_42 (dz_at q10w02_10_0 10)
theorem dX7_putInto_11 : decode cX7_putInto 11 = .ok (.invokevirtual 42, 3) := dz_182 (dz_at q10w02_10_0 11) rfl
theorem dX7_putInto_14 : decode cX7_putInto 14 = .ok (.goto 6, 3) := dz_167 (dz_at q10w02_10_0 14) (by decide +kernel)
theorem dX7_putInto_17 : decode cX7_putInto 17 = .ok (.iconst (-1), 1) := dz_2 (dz_at q10w02_10_0 17)
theorem dX7_putInto_18 : decode cX7_putInto 18 = .ok (.iload_n 2, 1) := dz_28 (dz_at q10w02_10_0 18)
theorem dX7_putInto_19 : decode cX7_putInto 19 = .ok (.isub, 1) := dz_100 (dz_at q10w02_10_0 19)
theorem dX7_putInto_20 : decode cX7_putInto 20 = .ok (.istore_n 3, 1) := dz_62 (dz_at q10w02_10_0 20)
theorem dX7_putInto_21 : decode cX7_putInto 21 = .ok (.aload_n 0, 1) := dz_42 (dz_at q10w02_10_0 21)
theorem dX7_putInto_22 : decode cX7_putInto 22 = .ok (.iconst 0, 1) := dz_3 (dz_at q10w02_10_0 22)
theorem dX7_putInto_23 : decode cX7_putInto 23 = .ok (.putfield 15, 3) := dz_181 (dz_at q10w02_10_23 0) rfl
theorem dX7_putInto_26 : decode cX7_putInto 26 = .ok (.iload_n 3, 1) := dz_29 (dz_at q10w02_10_23 3)
theorem dX7_putInto_27 : decode cX7_putInto 27 = .ok (.ifCond .ne 18, 3) := dz_154 (dz_at q10w02_10_23 4) (by decide +kernel)
theorem dX7_putInto_30 : decode cX7_putInto 30 = .ok (.aload_n 1, 1) := dz_43 (dz_at q10w02_10_23 7)
theorem dX7_putInto_31 : decode cX7_putInto 31 = .ok (.aload_n 0, 1) := dz_42 (dz_at q10w02_10_23 8)
theorem dX7_putInto_32 : decode cX7_putInto 32 = .ok (.getfield 27, 3) := dz_180 (dz_at q10w02_10_23 9) rfl
theorem dX7_putInto_35 : decode cX7_putInto 35 = .ok (.iconst 0, 1) := dz_3 (dz_at q10w02_10_23 12)
theorem dX7_putInto_36 : decode cX7_putInto 36 = .ok (.aaload, 1) := dz_50 (dz_at q10w02_10_23 13)
theorem dX7_putInto_37 : decode cX7_putInto 37 = .ok (.invokevirtual 45, 3) := dz_182 (dz_at q10w02_10_23 14) rfl
theorem dX7_putInto_4 : decode cX7_putInto 4 = .ok (.istore_n 2, 1) := dz_61 (dz_at q10w02_10_0 4)
theorem dX7_putInto_40 : decode cX7_putInto 40 = .ok (.aload_n 1, 1) := dz_43 (dz_at q10w02_10_23 17)
theorem dX7_putInto_41 : decode cX7_putInto 41 = .ok (.getfield 49, 3) := dz_180 (dz_at q10w02_10_23 18) rfl
theorem dX7_putInto_44 : decode cX7_putInto 44 = .ok (.istore_n 3, 1) := dz_62 (dz_at q10w02_10_23 21)
theorem dX7_putInto_45 : decode cX7_putInto 45 = .ok (.iload_n 3, 1) := dz_29 (dz_at q10w02_10_23 22)
theorem dX7_putInto_46 : decode cX7_putInto 46 = .ok (.ireturn, 1) := dz_172 (dz_at q10w02_10_23 23)
theorem dX7_putInto_5 : decode cX7_putInto 5 = .ok (.iload_n 2, 1) := dz_28 (dz_at q10w02_10_0 5)
theorem dX7_putInto_6 : decode cX7_putInto 6 = .ok (.iconst (-1), 1) := dz_2 (dz_at q10w02_10_0 6)
theorem dX7_putInto_7 : decode cX7_putInto 7 = .ok (.if_icmp .ne 10, 3) := dz_160 (dz_at q10w02_10_0 7) (by decide +kernel)
theorem q10w02_11_0 : (cX7_putTogether.data.toList.drop 0).take 23 = [42, 3, 181, 0, 19, 42, 3, 181, 0, 22, 42, 182, 0, 67, 3, 60, 3, 61, 28, 42, 180, 0, 15] := by decide +kernel
theorem q10w02_11_23 : (cX7_putTogether.data.toList.drop 23).take 23 = [162, 0, 54, 27, 154, 0, 50, 42, 180, 0, 9, 28, 46, 16, 48, 184, 0, 63, 153, 0, 19, 42, 42] := by decide +kernel
theorem q10w02_11_46 : (cX7_putTogether.data.toList.drop 46).take 24 = [180, 0, 9, 28, 46, 16, 48, 100, 182, 0, 70, 167, 0, 13, 42, 42, 180, 0, 9, 28, 46, 182, 0, 73] := by decide +kernel
theorem q10w02_11_70 : (cX7_putTogether.data.toList.drop 70).take 20 = [60, 132, 2, 1, 167, 255, 200, 27, 154, 0, 10, 42, 182, 0, 76, 167, 0, 4, 27, 172] := by decide +kernel
theorem dX7_putTogether_0 : decode cX7_putTogether 0 = .ok (.aload_n 0, 1) := dz_42 (dz_at q10w02_11_0 0)
theorem dX7_putTogether_1 : decode cX7_putTogether 1 = .ok (.iconst 0, 1) := dz_3 (dz_at q10w02_11_0 1)
theorem dX7_putTogether_10 : decode cX7_putTogether 10 = .ok (.aload_n 0, 1) := dz_42 (dz_at q10w02_11_0 10)
theorem dX7_putTogether_11 : decode cX7_putTogether 11 = .ok (.invokevirtual 67, 3) := dz_182 (dz_at q10w02_11_0 11) rfl
theorem dX7_putTogether_14 : decode cX7_putTogether 14 = .ok (.iconst 0, 1) := dz_3 (dz_at q10w02_11_0 14)
theorem dX7_putTogether_15 : decode cX7_putTogether 15 = .ok (.istore_n 1, 1) := dz_60 (dz_at q10w02_11_0 15)
theorem dX7_putTogether_16 : decode cX7_putTogether 16 = .ok (.iconst 0, 1) := dz_3 (dz_at q10w02_11_0 16)
theorem dX7_putTogether_17 : decode cX7_putTogether 17 = .ok (.istore_n 2, 1) := dz_61 (dz_at q10w02_11_0 17)
theorem dX7_putTogether_18 : decode cX7_putTogether 18 = .ok (.iload_n 2, 1) := dz_28 (dz_at q10w02_11_0 18)
theorem dX7_putTogether_19 : decode cX7_putTogether 19 = .ok (.aload_n 0, 1) := dz_42 (dz_at q10w02_11_0 19)
theorem dX7_putTogether_2 : decode cX7_putTogether 2 = .ok (.putfield 19, 3) := dz_181 (dz_at q10w02_11_0 2) rfl
theorem dX7_putTogether_20 : decode cX7_putTogether 20 = .ok (.getfield 15, 3) := dz_180 (dz_at q10w02_11_0 20) rfl
theorem dX7_putTogether_23 : decode cX7_putTogether 23 = .ok (.if_icmp .ge 54, 3) := dz_162 (dz_at q10w02_11_23 0) (by decide +kernel)
theorem dX7_putTogether_26 : decode cX7_putTogether 26 = .ok (.iload_n 1, 1) := dz_27 (dz_at q10w02_11_23 3)
theorem dX7_putTogether_27 : decode cX7_putTogether 27 = .ok (.ifCond .ne 50, 3) := dz_154 (dz_at q10w02_11_23 4) (by decide +kernel)
theorem dX7_putTogether_30 : decode cX7_putTogether 30 = .ok (.aload_n 0, 1) := dz_42 (dz_at q10w02_11_23 7)
theorem dX7_putTogether_31 : decode cX7_putTogether 31 = .ok (.getfield 9, 3) := dz_180 (dz_at q10w02_11_23 8) rfl
theorem dX7_putTogether_34 : decode cX7_putTogether 34 = .ok (.iload_n 2, 1) := dz_28 (dz_at q10w02_11_23 11)
theorem dX7_putTogether_35 : decode cX7_putTogether 35 = .ok (.iaload, 1) := dz_46 (dz_at q10w02_11_23 12)
theorem dX7_putTogether_36 : decode cX7_putTogether 36 = .ok (.bipush 48, 2) := dz_16 (dz_at q10w02_11_23 13) (by decide +kernel)
theorem dX7_putTogether_38 : decode cX7_putTogether 38 = .ok (.invokestatic 63, 3) := dz_184 (dz_at q10w02_11_23 15) rfl
theorem dX7_putTogether_41 : decode cX7_putTogether 41 = .ok (.ifCond .eq 19, 3) := dz_153 (dz_at q10w02_11_23 18) (by decide +kernel)
theorem dX7_putTogether_44 : decode cX7_putTogether 44 = .ok (.aload_n 0, 1) := dz_42 (dz_at q10w02_11_23 21)
theorem dX7_putTogether_45 : decode cX7_putTogether 45 = .ok (.aload_n 0, 1) := dz_42 (dz_at q10w02_11_23 22)
theorem dX7_putTogether_46 : decode cX7_putTogether 46 = .ok (.getfield 9, 3) := dz_180 (dz_at q10w02_11_46 0) rfl
theorem dX7_putTogether_49 : decode cX7_putTogether 49 = .ok (.iload_n 2, 1) := dz_28 (dz_at q10w02_11_46 3)
theorem dX7_putTogether_5 : decode cX7_putTogether 5 = .ok (.aload_n 0, 1) := dz_42 (dz_at q10w02_11_0 5)
theorem dX7_putTogether_50 : decode cX7_putTogether 50 = .ok (.iaload, 1) := dz_46 (dz_at q10w02_11_46 4)
theorem dX7_putTogether_51 : decode cX7_putTogether 51 = .ok (.bipush 48, 2) := dz_16 (dz_at q10w02_11_46 5) (by decide +kernel)
theorem dX7_putTogether_53 : decode cX7_putTogether 53 = .ok (.isub, 1) := dz_100 (dz_at q10w02_11_46 7)
theorem dX7_putTogether_54 : decode cX7_putTogether 54 = .ok (.invokevirtual 70, 3) := dz_182 (dz_at q10w02_11_46 8) rfl
theorem dX7_putTogether_57 : decode cX7_putTogether 57 = .ok (.goto 13, 3) := dz_167 (dz_at q10w02_11_46 11) (by decide +kernel)
theorem dX7_putTogether_6 : decode cX7_putTogether 6 = .ok (.iconst 0, 1) := dz_3 (dz_at q10w02_11_0 6)
theorem dX7_putTogether_60 : decode cX7_putTogether 60 = .ok (.aload_n 0, 1) := dz_42 (dz_at q10w02_11_46 14)
theorem dX7_putTogether_61 : decode cX7_putTogether 61 = .ok (.aload_n 0, 1) := dz_42 (dz_at q10w02_11_46 15)
theorem dX7_putTogether_62 : decode cX7_putTogether 62 = .ok (.getfield 9, 3) := dz_180 (dz_at q10w02_11_46 16) rfl
theorem dX7_putTogether_65 : decode cX7_putTogether 65 = .ok (.iload_n 2, 1) := dz_28 (dz_at q10w02_11_46 19)
theorem dX7_putTogether_66 : decode cX7_putTogether 66 = .ok (.iaload, 1) := dz_46 (dz_at q10w02_11_46 20)
theorem dX7_putTogether_67 : decode cX7_putTogether 67 = .ok (.invokevirtual 73, 3) := dz_182 (dz_at q10w02_11_46 21) rfl
theorem dX7_putTogether_7 : decode cX7_putTogether 7 = .ok (.putfield 22, 3) := dz_181 (dz_at q10w02_11_0 7) rfl
theorem dX7_putTogether_70 : decode cX7_putTogether 70 = .ok (.istore_n 1, 1) := dz_60 (dz_at q10w02_11_70 0)
theorem dX7_putTogether_71 : decode cX7_putTogether 71 = .ok (.iinc 2 1, 3) := dz_132 (dz_at q10w02_11_70 1) (by decide +kernel)
theorem dX7_putTogether_74 : decode cX7_putTogether 74 = .ok (.goto (-56), 3) := dz_167 (dz_at q10w02_11_70 4) (by decide +kernel)
theorem dX7_putTogether_77 : decode cX7_putTogether 77 = .ok (.iload_n 1, 1) := dz_27 (dz_at q10w02_11_70 7)
theorem dX7_putTogether_78 : decode cX7_putTogether 78 = .ok (.ifCond .ne 10, 3) := dz_154 (dz_at q10w02_11_70 8) (by decide +kernel)
theorem dX7_putTogether_81 : decode cX7_putTogether 81 = .ok (.aload_n 0, 1) := dz_42 (dz_at q10w02_11_70 11)
theorem dX7_putTogether_82 : decode cX7_putTogether 82 = .ok (.invokevirtual 76, 3) := dz_182 (dz_at q10w02_11_70 12) rfl
theorem dX7_putTogether_85 : decode cX7_putTogether 85 = .ok (.goto 4, 3) := dz_167 (dz_at q10w02_11_70 15) (by decide +kernel)
theorem dX7_putTogether_88 : decode cX7_putTogether 88 = .ok (.iload_n 1, 1) := dz_27 (dz_at q10w02_11_70 18)
theorem dX7_putTogether_89 : decode cX7_putTogether 89 = .ok (.ireturn, 1) := dz_172 (dz_at q10w02_11_70 19)
theorem q10w02_12_0 : (cX8_at.data.toList.drop 0).take 19 = [42, 27, 182, 0, 19, 153, 0, 12, 42, 180, 0, 9, 27, 46, 167, 0, 4, 2, 172] := by decide +kernel
theorem dX8_at_0 : decode cX8_at 0 = .ok (.aload_n 0, 1) := dz_42 (dz_at q10w02_12_0 0)
theorem dX8_at_1 : decode cX8_at 1 = .ok (.iload_n 1, 1) := dz_27 (dz_at q10w02_12_0 1)
theorem dX8_at_12 : decode cX8_at 12 = .ok (.iload_n 1, 1) := dz_27 (dz_at q10w02_12_0 12)
theorem dX8_at_13 : decode cX8_at 13 = .ok (.iaload, 1) := dz_46 (dz_at q10w02_12_0 13)
theorem dX8_at_14 : decode cX8_at 14 = .ok (.goto 4, 3) := dz_167 (dz_at q10w02_12_0 14) (by decide +kernel)
theorem dX8_at_17 : decode cX8_at 17 = .ok (.iconst (-1), 1) := dz_2 (dz_at q10w02_12_0 17)
theorem dX8_at_18 : decode cX8_at 18 = .ok (.ireturn, 1) := dz_172 (dz_at q10w02_12_0 18)
theorem dX8_at_2 : decode cX8_at 2 = .ok (.invokevirtual 19, 3) := dz_182 (dz_at q10w02_12_0 2) rfl
theorem dX8_at_5 : decode cX8_at 5 = .ok (.ifCond .eq 12, 3) := dz_153 (dz_at q10w02_12_0 5) (by decide +kernel)
theorem dX8_at_8 : decode cX8_at 8 = .ok (.aload_n 0, 1) := dz_42 (dz_at q10w02_12_0 8)
theorem dX8_at_9 : decode cX8_at 9 = .ok (.getfield 9, 3) := dz_180 (dz_at q10w02_12_0 9) rfl
theorem q10w02_13_0 : (cX9_add.data.toList.drop 0).take 22 = [42, 180, 0, 23, 7, 161, 0, 5, 2, 172, 42, 180, 0, 19, 42, 180, 0, 23, 50, 43, 28, 29] := by decide +kernel
theorem q10w02_13_22 : (cX9_add.data.toList.drop 22).take 20 = [182, 0, 29, 42, 89, 180, 0, 23, 4, 96, 181, 0, 23, 42, 180, 0, 23, 4, 100, 172] := by decide +kernel
theorem dX9_add_0 : decode cX9_add 0 = .ok (.aload_n 0, 1) := dz_42 (dz_at q10w02_13_0 0)
theorem dX9_add_1 : decode cX9_add 1 = .ok (.getfield 23, 3) := dz_180 (dz_at q10w02_13_0 1) rfl
theorem dX9_add_10 : decode cX9_add 10 = .ok (.aload_n 0, 1) := dz_42 (dz_at q10w02_13_0 10)
theorem dX9_add_11 : decode cX9_add 11 = .ok (.getfield 19, 3) := dz_180 (dz_at q10w02_13_0 11) rfl
theorem dX9_add_14 : decode cX9_add 14 = .ok (.aload_n 0, 1) := dz_42 (dz_at q10w02_13_0 14)
theorem dX9_add_15 : decode cX9_add 15 = .ok (.getfield 23, 3) := dz_180 (dz_at q10w02_13_0 15) rfl
theorem dX9_add_18 : decode cX9_add 18 = .ok (.aaload, 1) := dz_50 (dz_at q10w02_13_0 18)
theorem dX9_add_19 : decode cX9_add 19 = .ok (.aload_n 1, 1) := dz_43 (dz_at q10w02_13_0 19)
theorem dX9_add_20 : decode cX9_add 20 = .ok (.iload_n 2, 1) := dz_28 (dz_at q10w02_13_0 20)
theorem dX9_add_21 : decode cX9_add 21 = .ok (.iload_n 3, 1) := dz_29 (dz_at q10w02_13_0 21)
theorem dX9_add_22 : decode cX9_add 22 = .ok (.invokevirtual 29, 3) := dz_182 (dz_at q10w02_13_22 0) rfl
theorem dX9_add_25 : decode cX9_add 25 = .ok (.aload_n 0, 1) := dz_42 (dz_at q10w02_13_22 3)
theorem dX9_add_26 : decode cX9_add 26 = .ok (.dup, 1) := dz_89 (dz_at q10w02_13_22 4)
theorem dX9_add_27 : decode cX9_add 27 = .ok (.getfield 23, 3) := dz_180 (dz_at q10w02_13_22 5) rfl
theorem dX9_add_30 : decode cX9_add 30 = .ok (.iconst 1, 1) := dz_4 (dz_at q10w02_13_22 8)
theorem dX9_add_31 : decode cX9_add 31 = .ok (.iadd, 1) := dz_96 (dz_at q10w02_13_22 9)
theorem dX9_add_32 : decode cX9_add 32 = .ok (.putfield 23, 3) := dz_181 (dz_at q10w02_13_22 10) rfl
theorem dX9_add_35 : decode cX9_add 35 = .ok (.aload_n 0, 1) := dz_42 (dz_at q10w02_13_22 13)
theorem dX9_add_36 : decode cX9_add 36 = .ok (.getfield 23, 3) := dz_180 (dz_at q10w02_13_22 14) rfl
theorem dX9_add_39 : decode cX9_add 39 = .ok (.iconst 1, 1) := dz_4 (dz_at q10w02_13_22 17)
theorem dX9_add_4 : decode cX9_add 4 = .ok (.iconst 4, 1) := dz_7 (dz_at q10w02_13_0 4)
theorem dX9_add_40 : decode cX9_add 40 = .ok (.isub, 1) := dz_100 (dz_at q10w02_13_22 18)
theorem dX9_add_41 : decode cX9_add 41 = .ok (.ireturn, 1) := dz_172 (dz_at q10w02_13_22 19)
theorem dX9_add_5 : decode cX9_add 5 = .ok (.if_icmp .lt 5, 3) := dz_161 (dz_at q10w02_13_0 5) (by decide +kernel)
theorem dX9_add_8 : decode cX9_add 8 = .ok (.iconst (-1), 1) := dz_2 (dz_at q10w02_13_0 8)
theorem dX9_add_9 : decode cX9_add 9 = .ok (.ireturn, 1) := dz_172 (dz_at q10w02_13_0 9)
theorem dm_X7_readSign : yX7_readSign.cls = RX7 ∧ yX7_readSign.cls ≠ "java/lang/invoke/MethodHandle" ∧ yX7_readSign.cls ≠ "java/lang/invoke/VarHandle" ∧ (parseMethodDescriptor yX7_readSign.desc).map (fun d => d.parameters.length) = some 1 := by decide +kernel
theorem dm_X7_readDigit : yX7_readDigit.cls = RX7 ∧ yX7_readDigit.cls ≠ "java/lang/invoke/MethodHandle" ∧ yX7_readDigit.cls ≠ "java/lang/invoke/VarHandle" ∧ (parseMethodDescriptor yX7_readDigit.desc).map (fun d => d.parameters.length) = some 1 := by decide +kernel
theorem dm_X7_firstWrong : yX7_firstWrong.cls = RX7 ∧ yX7_firstWrong.cls ≠ "java/lang/invoke/MethodHandle" ∧ yX7_firstWrong.cls ≠ "java/lang/invoke/VarHandle" ∧ (parseMethodDescriptor yX7_firstWrong.desc).map (fun d => d.parameters.length) = some 0 := by decide +kernel
theorem dm_X7_putTogether : yX7_putTogether.cls = RX7 ∧ yX7_putTogether.cls ≠ "java/lang/invoke/MethodHandle" ∧ yX7_putTogether.cls ≠ "java/lang/invoke/VarHandle" ∧ (parseMethodDescriptor yX7_putTogether.desc).map (fun d => d.parameters.length) = some 0 := by decide +kernel
theorem dm_X7_putInto : yX7_putInto.cls = RX7 ∧ yX7_putInto.cls ≠ "java/lang/invoke/MethodHandle" ∧ yX7_putInto.cls ≠ "java/lang/invoke/VarHandle" ∧ (parseMethodDescriptor yX7_putInto.desc).map (fun d => d.parameters.length) = some 1 := by decide +kernel
theorem dm_X8_at : yX8_at.cls = RX8 ∧ yX8_at.cls ≠ "java/lang/invoke/MethodHandle" ∧ yX8_at.cls ≠ "java/lang/invoke/VarHandle" ∧ (parseMethodDescriptor yX8_at.desc).map (fun d => d.parameters.length) = some 1 := by decide +kernel
theorem dm_X11_within : yX11_within.cls = RX11 ∧ yX11_within.cls ≠ "java/lang/invoke/MethodHandle" ∧ yX11_within.cls ≠ "java/lang/invoke/VarHandle" ∧ (parseMethodDescriptor yX11_within.desc).map (fun d => d.parameters.length) = some 3 := by decide +kernel
theorem dm_X11_by : yX11_by.cls = RX11 ∧ yX11_by.cls ≠ "java/lang/invoke/MethodHandle" ∧ yX11_by.cls ≠ "java/lang/invoke/VarHandle" ∧ (parseMethodDescriptor yX11_by.desc).map (fun d => d.parameters.length) = some 2 := by decide +kernel
theorem dm_X6_soundsUnder : yX6_soundsUnder.cls = RX6 ∧ yX6_soundsUnder.cls ≠ "java/lang/invoke/MethodHandle" ∧ yX6_soundsUnder.cls ≠ "java/lang/invoke/VarHandle" ∧ (parseMethodDescriptor yX6_soundsUnder.desc).map (fun d => d.parameters.length) = some 2 := by decide +kernel
theorem dm_X6_fillUnder : yX6_fillUnder.cls = RX6 ∧ yX6_fillUnder.cls ≠ "java/lang/invoke/MethodHandle" ∧ yX6_fillUnder.cls ≠ "java/lang/invoke/VarHandle" ∧ (parseMethodDescriptor yX6_fillUnder.desc).map (fun d => d.parameters.length) = some 2 := by decide +kernel
theorem dm_X6_listen : yX6_listen.cls = RX6 ∧ yX6_listen.cls ≠ "java/lang/invoke/MethodHandle" ∧ yX6_listen.cls ≠ "java/lang/invoke/VarHandle" ∧ (parseMethodDescriptor yX6_listen.desc).map (fun d => d.parameters.length) = some 0 := by decide +kernel
theorem dm_X6_begin : yX6_begin.cls = RX6 ∧ yX6_begin.cls ≠ "java/lang/invoke/MethodHandle" ∧ yX6_begin.cls ≠ "java/lang/invoke/VarHandle" ∧ (parseMethodDescriptor yX6_begin.desc).map (fun d => d.parameters.length) = some 3 := by decide +kernel
theorem dm_X11_isMotor : yX11_isMotor.cls = RX11 ∧ yX11_isMotor.cls ≠ "java/lang/invoke/MethodHandle" ∧ yX11_isMotor.cls ≠ "java/lang/invoke/VarHandle" ∧ (parseMethodDescriptor yX11_isMotor.desc).map (fun d => d.parameters.length) = some 1 := by decide +kernel
theorem dm_X9_add : yX9_add.cls = RX9 ∧ yX9_add.cls ≠ "java/lang/invoke/MethodHandle" ∧ yX9_add.cls ≠ "java/lang/invoke/VarHandle" ∧ (parseMethodDescriptor yX9_add.desc).map (fun d => d.parameters.length) = some 3 := by decide +kernel
set_option maxRecDepth 100000 in
def wC_Splicer_putTogether  (M : zM) (Q : Int → zM → Prop) : Prop := (∀ M1 : zM, M1 = zup M 1 2 0 → (∀ M3 : zM, M3 = zup M1 1 3 0 → wC_Splicer_openRow  M3 (fun M5 => wL2 (fun K18 x6 x7 M8 => ((sI (M8 1 1)) ≤ (sI x7) → ((sI x6) ≠ 0 → Q (sI x6) M8) ∧ ((sI x6) = 0 → wC_Splicer_layTerm  M8 (fun z19 M18 => Q z19 M18))) ∧ ((sI x7) < (sI (M8 1 1)) → ((sI x6) ≠ 0 → ((sI x6) ≠ 0 → Q (sI x6) M8) ∧ ((sI x6) = 0 → wC_Splicer_layTerm  M8 (fun z24 M23 => Q z24 M23))) ∧ ((sI x6) = 0 → ((0 ≤ (sI x7) ∧ (sI x7) < 100) ∧ wC_Splicer_isDigit (M8 2 (sI x7).toNat) 48 M8 (fun z28 => (z28 = 0 → ((0 ≤ (sI x7) ∧ (sI x7) < 100) ∧ wC_Splicer_readSign (M8 2 (sI x7).toNat) M8 (fun z34 M33 => K18 z34 (x7 + 1) M33))) ∧ (z28 ≠ 0 → ((0 ≤ (sI x7) ∧ (sI x7) < 100) ∧ wC_Splicer_readDigit ((M8 2 (sI x7).toNat) - 48) M8 (fun z40 M39 => K18 z40 (x7 + 1) M39)))))))) 0 0 M5)))
set_option maxHeartbeats 4000000 in
set_option maxRecDepth 100000 in
theorem cC_Splicer_putTogether (l : Launch) (D : va_G) (dA : Nat → ClassId) (b : Nat) (M : zM)   (Q : Int → zM → Prop) (h : wC_Splicer_putTogether  M Q) : Met l yX7_putTogether (.code yX7_putTogether cX7_putTogether 3 (some .int) :: zt) (z_rm 5) (va_Pc [.ref (b + 1)] (wPre D dA vwCl (z_tys dA) wC nC b M)) (va_Qi (wQi Q) (zB D dA vwCl wC nC b) (zA nC b)) 0 0 (zA nC b) := by
  unfold wC_Splicer_putTogether at h
  refine Met.ofW (cc := cX7_putTogether) (maxL := 3) (ret := (some .int)) (by decide) rfl ?_
  intro p e s m args below meth c s₁ B hml hv
  obtain ⟨hargs, hS, hK⟩ := hv
  have hx := B.exec
  have hb := B.bytes
  have hr := B.returns
  have hts := atoms_spec (ws := .code yX7_putTogether cX7_putTogether 3 (some .int) :: zt) B.pre
  have hown : s.vm.findClass RX7 = some m.cls := findClass_of_methodNamed B.named
  have hlocks := B.notSynchronized
  have hS0 : va_S (zA nC b) s.heap s.heap [] := va_S.rf
  have hl := lv_entry ([.ref (b + 1)]) (n := 3) (Nat.le_of_ble_eq_true rfl)
  have hent : entryFrame m args 3 = F0 m 0 ((lg_sl ([.ref (b + 1)]) ++ List.replicate (3 - (lg_sl ([.ref (b + 1)])).length) Slot.unset).toArray) [] := by rw [hargs]; exact lg_entry_eq m ([.ref (b + 1)]) 3
  rw [hent]
  generalize (lg_sl ([.ref (b + 1)]) ++ List.replicate (3 - (lg_sl ([.ref (b + 1)])).length) Slot.unset).toArray = ls at hl ⊢
  have hl : lv_has ls 3 [(0, .ref (b + 1))] := hl
  refine lv_aload_n hx hb dX7_putTogether_0 rfl (lv_at hl 0 rfl) ?_
  refine z_iconst hx hb dX7_putTogether_1 ?_
  refine w_puti hx hb hts (z_memU u7) tyX7 tyX7_ok nmX7 hown hK.1 hS hS0 f7_2 (by decide) (zkd_of (rfl : zcd wC 1 = 1) rfl) (Or.inl (hts _ (z_mem k57))) rfl (z := 0) (by decide +kernel) dX7_putTogether_2 (fun H locs hS hS0 => ?_)
  obtain ⟨M1, e2⟩ : ∃ M1 : zM, M1 = zup M 1 2 0 := ⟨_, rfl⟩
  rw [← e2] at hS
  have h := h M1 e2
  refine lv_aload_n hx hb dX7_putTogether_5 rfl (lv_at hl 0 rfl) ?_
  refine z_iconst hx hb dX7_putTogether_6 ?_
  refine w_puti hx hb hts (z_memU u7) tyX7 tyX7_ok nmX7 hown hK.1 hS hS0 f7_3 (by decide) (zkd_of (rfl : zcd wC 1 = 1) rfl) (Or.inl (hts _ (z_mem k58))) rfl (z := 0) (by decide +kernel) dX7_putTogether_7 (fun H locs hS hS0 => ?_)
  obtain ⟨M3, e4⟩ : ∃ M3 : zM, M3 = zup M1 1 3 0 := ⟨_, rfl⟩
  rw [← e4] at hS
  have h := h M3 e4
  refine lv_aload_n hx hb dX7_putTogether_10 rfl (lv_at hl 0 rfl) ?_
  refine w_callv (va_runV (As := []) (rest := []) ⟨hx, hb, hml, hown, hts⟩ (cC_Splicer_openRow l D dA b M3  _ h) (cwV 0 hts (z_gV k306 k307 k1355 k2 k308) rfl rfl rfl dm_X7_openRow ⟨Nat.le_of_ble_eq_true rfl, Nat.le_of_ble_eq_true rfl⟩) ⟨wPre_blind, (w_recv hS hK.1 (by decide) (zkd_of (rfl : zcd wC 1 = 1) rfl) (by decide) (rfl : vwCl[7]? = some (RX7, TX7, 7))), w_pre hS hK⟩ rfl rfl hl.1 rfl (lv_room (Nat.le_of_ble_eq_true rfl)) dX7_putTogether_11 ⟨Nat.le_refl _, Nat.le_refl _⟩) hS0 (fun M5 H locs h hS hS0 => ?_)
  refine z_iconst hx hb dX7_putTogether_14 ?_
  refine lv_istore_n (lv' := [(1, .int (iI 0)), (0, .ref (b + 1))]) hx hb dX7_putTogether_15 rfl hl (by decide) rfl (fun ls hl => ?_)
  refine z_iconst hx hb dX7_putTogether_16 ?_
  refine lv_istore_n (lv' := [(2, .int (iI 0)), (1, .int (iI 0)), (0, .ref (b + 1))]) hx hb dX7_putTogether_17 rfl hl (by decide) rfl (fun ls hl => ?_)
  obtain ⟨I9, ⟨n10, h11⟩, h12⟩ := h
  have L13 : ∀ (n14 : Nat) (x6 x7 : Int) (M8 : zM) (H : Heap) (locs : List Loc) (ls : Array Slot), I9 n14 x6 x7 M8 → zR D dA vwCl wC nC b M8 H → va_S (zA nC b) s.heap H locs → lv_has ls 3 [(0, .ref (b + 1)), (1, .int (iI x6)), (2, .int (iI x7))] → W p l e (headSpec (.code yX7_putTogether cX7_putTogether 3 (some .int) :: zt) (z_rm 5)).room s m args below meth c H locs 0 0 (MQ below (va_Qi (wQi Q) (zB D dA vwCl wC nC b) (zA nC b)) args s 0 0 (zA nC b)) (F0 m 18 ls []) := by
    intro n14
    induction n14 using Nat.strongRecOn with
    | ind n14 i15 =>
      intro x6 x7 M8 H locs ls h hS hS0 hl
      have h := h12 n14 x6 x7 M8 h
      refine lv_iload_n hx hb dX7_putTogether_18 rfl (lv_at hl 2 rfl) ?_
      refine lv_aload_n hx hb dX7_putTogether_19 rfl (lv_at hl 0 rfl) ?_
      refine w_geti hx hb hts (z_memU u7) hown hK.1 hS f7_1 (by decide) (zkd_of (rfl : zcd wC 1 = 1) rfl) (Or.inl (hts _ (z_mem k55))) dX7_putTogether_20 ?_
      refine w_icmp_ge (tgt := 77) hx hb rfl rfl dX7_putTogether_23 (by decide) (fun c16 => ?_) (fun c16 => ?_)
      · skip
        have h := h.1 c16
        refine lv_iload_n hx hb dX7_putTogether_77 rfl (lv_at hl 1 rfl) ?_
        refine w_if_ne (tgt := 88) hx hb rfl dX7_putTogether_78 (by decide) (fun c17 => ?_) (fun c17 => ?_)
        · skip
          have h := h.1 c17
          refine lv_iload_n hx hb dX7_putTogether_88 rfl (lv_at hl 1 rfl) ?_
          exact w_iret hx hb hr hlocks hS hS0 rfl h dX7_putTogether_89
        · skip
          have h := h.2 c17
          refine lv_aload_n hx hb dX7_putTogether_81 rfl (lv_at hl 0 rfl) ?_
          refine w_calli (va_runV (As := []) (rest := []) ⟨hx, hb, hml, hown, hts⟩ (cC_Splicer_layTerm l D dA b M8  _ h) (cwV 0 hts (z_gV k333 k334 k1359 k2 k335) rfl rfl rfl dm_X7_layTerm ⟨Nat.le_of_ble_eq_true rfl, Nat.le_of_ble_eq_true rfl⟩) ⟨wPre_blind, (w_recv hS hK.1 (by decide) (zkd_of (rfl : zcd wC 1 = 1) rfl) (by decide) (rfl : vwCl[7]? = some (RX7, TX7, 7))), w_pre hS hK⟩ rfl rfl hl.1 rfl (lv_room (Nat.le_of_ble_eq_true rfl)) dX7_putTogether_82 ⟨Nat.le_refl _, Nat.le_refl _⟩) hS0 (fun z19 M18 H locs r20 h hS hS0 => ?_)
          refine lv_goto (tgt := 89) hx hb dX7_putTogether_85 (by decide) ?_
          exact w_iret hx hb hr hlocks hS hS0 (sI_of r20) h dX7_putTogether_89
      · skip
        have h := h.2 c16
        refine lv_iload_n hx hb dX7_putTogether_26 rfl (lv_at hl 1 rfl) ?_
        refine w_if_ne (tgt := 77) hx hb rfl dX7_putTogether_27 (by decide) (fun c21 => ?_) (fun c21 => ?_)
        · skip
          have h := h.1 c21
          refine lv_iload_n hx hb dX7_putTogether_77 rfl (lv_at hl 1 rfl) ?_
          refine w_if_ne (tgt := 88) hx hb rfl dX7_putTogether_78 (by decide) (fun c22 => ?_) (fun c22 => ?_)
          · skip
            have h := h.1 c22
            refine lv_iload_n hx hb dX7_putTogether_88 rfl (lv_at hl 1 rfl) ?_
            exact w_iret hx hb hr hlocks hS hS0 rfl h dX7_putTogether_89
          · skip
            have h := h.2 c22
            refine lv_aload_n hx hb dX7_putTogether_81 rfl (lv_at hl 0 rfl) ?_
            refine w_calli (va_runV (As := []) (rest := []) ⟨hx, hb, hml, hown, hts⟩ (cC_Splicer_layTerm l D dA b M8  _ h) (cwV 0 hts (z_gV k333 k334 k1359 k2 k335) rfl rfl rfl dm_X7_layTerm ⟨Nat.le_of_ble_eq_true rfl, Nat.le_of_ble_eq_true rfl⟩) ⟨wPre_blind, (w_recv hS hK.1 (by decide) (zkd_of (rfl : zcd wC 1 = 1) rfl) (by decide) (rfl : vwCl[7]? = some (RX7, TX7, 7))), w_pre hS hK⟩ rfl rfl hl.1 rfl (lv_room (Nat.le_of_ble_eq_true rfl)) dX7_putTogether_82 ⟨Nat.le_refl _, Nat.le_refl _⟩) hS0 (fun z24 M23 H locs r25 h hS hS0 => ?_)
            refine lv_goto (tgt := 89) hx hb dX7_putTogether_85 (by decide) ?_
            exact w_iret hx hb hr hlocks hS hS0 (sI_of r25) h dX7_putTogether_89
        · skip
          have h := h.2 c21
          refine lv_aload_n hx hb dX7_putTogether_30 rfl (lv_at hl 0 rfl) ?_
          refine w_getr (j2 := 2) hx hb hts (z_memU u7) hown hK.1 hS f7_0 (by decide) (zkd_of (rfl : zcd wC 1 = 1) rfl) (zrf_of (rfl : zcd wC 1 = 1) rfl) (Or.inl (hts _ (z_mem k54))) dX7_putTogether_31 ?_
          refine lv_iload_n hx hb dX7_putTogether_34 rfl (lv_at hl 2 rfl) ?_
          obtain ⟨o26, h⟩ := h
          refine w_iald (n := 100) (i := (sI x7)) hx hb hK.1 (t0 := 0) rfl hS (by decide) (zkd_of (rfl : zcd wC 2 = 2) rfl) (zln_of (rfl : zcd wC 2 = 2) rfl) rfl o26.1 o26.2 (by decide) dX7_putTogether_35 ?_
          refine z_bipush hx hb (by decide) dX7_putTogether_36 ?_
          refine w_callz (va_runS (As := [.int (iI (M8 2 (sI x7).toNat)), .int (iI 48)]) (rest := []) ⟨hx, hb, hml, hown, hts⟩ (cC_Splicer_isDigit l D dA b M8 (M8 2 (sI x7).toNat) 48 _ h) (va_cwS 2 hts (z_gS k297 k298 k2 k299) rfl rfl rfl dm_X7_isDigit.2 ⟨Nat.le_of_ble_eq_true rfl, Nat.le_of_ble_eq_true rfl⟩) ⟨wPre_blind, w_pre hS hK⟩ rfl rfl hl.1 rfl (lv_room (Nat.le_of_ble_eq_true rfl)) dX7_putTogether_38 ⟨Nat.le_refl _, Nat.le_refl _⟩) hS0 (fun z28 M27 H locs r29 h hS hS0 => ?_)
          obtain ⟨e30, h⟩ := h
          rw [e30] at hS
          refine w_if_eq (tgt := 60) hx hb (sI_01 r29) dX7_putTogether_41 (by decide) (fun c31 => ?_) (fun c31 => ?_)
          · skip
            have h := h.1 c31
            refine lv_aload_n hx hb dX7_putTogether_60 rfl (lv_at hl 0 rfl) ?_
            refine lv_aload_n hx hb dX7_putTogether_61 rfl (lv_at hl 0 rfl) ?_
            refine w_getr (j2 := 2) hx hb hts (z_memU u7) hown hK.1 hS f7_0 (by decide) (zkd_of (rfl : zcd wC 1 = 1) rfl) (zrf_of (rfl : zcd wC 1 = 1) rfl) (Or.inl (hts _ (z_mem k54))) dX7_putTogether_62 ?_
            refine lv_iload_n hx hb dX7_putTogether_65 rfl (lv_at hl 2 rfl) ?_
            obtain ⟨o32, h⟩ := h
            refine w_iald (n := 100) (i := (sI x7)) hx hb hK.1 (t0 := 0) rfl hS (by decide) (zkd_of (rfl : zcd wC 2 = 2) rfl) (zln_of (rfl : zcd wC 2 = 2) rfl) rfl o32.1 o32.2 (by decide) dX7_putTogether_66 ?_
            refine w_calli (va_runV (As := [.int (iI (M8 2 (sI x7).toNat))]) (rest := []) ⟨hx, hb, hml, hown, hts⟩ (cC_Splicer_readSign l D dA b M8 (M8 2 (sI x7).toNat) _ h) (cwV 1 hts (z_gV k347 k348 k1360 k2 k349) rfl rfl rfl dm_X7_readSign ⟨Nat.le_of_ble_eq_true rfl, Nat.le_of_ble_eq_true rfl⟩) ⟨wPre_blind, (w_recv hS hK.1 (by decide) (zkd_of (rfl : zcd wC 1 = 1) rfl) (by decide) (rfl : vwCl[7]? = some (RX7, TX7, 7))), w_pre hS hK⟩ rfl rfl hl.1 rfl (lv_room (Nat.le_of_ble_eq_true rfl)) dX7_putTogether_67 ⟨Nat.le_refl _, Nat.le_refl _⟩) hS0 (fun z34 M33 H locs r35 h hS hS0 => ?_)
            refine lv_istore_n (lv' := [(1, .int (iI z34)), (0, .ref (b + 1)), (2, .int (iI x7))]) hx hb dX7_putTogether_70 rfl hl (by decide) rfl (fun ls hl => ?_)
            refine z_iinc (lv' := [(2, .int (iI (x7 + 1))), (1, .int (iI z34)), (0, .ref (b + 1))]) hx hb dX7_putTogether_71 hl (k := 2) rfl (by decide) rfl (fun ls hl => ?_)
            refine lv_goto (tgt := 18) hx hb dX7_putTogether_74 (by decide) ?_
            obtain ⟨n36, h37, h⟩ := h
            exact i15 n36 h37 z34 (x7 + 1) M33 _ _ _ h hS hS0 (lv_sub hl [2, 1, 0] rfl)
          · skip
            have h := h.2 c31
            refine lv_aload_n hx hb dX7_putTogether_44 rfl (lv_at hl 0 rfl) ?_
            refine lv_aload_n hx hb dX7_putTogether_45 rfl (lv_at hl 0 rfl) ?_
            refine w_getr (j2 := 2) hx hb hts (z_memU u7) hown hK.1 hS f7_0 (by decide) (zkd_of (rfl : zcd wC 1 = 1) rfl) (zrf_of (rfl : zcd wC 1 = 1) rfl) (Or.inl (hts _ (z_mem k54))) dX7_putTogether_46 ?_
            refine lv_iload_n hx hb dX7_putTogether_49 rfl (lv_at hl 2 rfl) ?_
            obtain ⟨o38, h⟩ := h
            refine w_iald (n := 100) (i := (sI x7)) hx hb hK.1 (t0 := 0) rfl hS (by decide) (zkd_of (rfl : zcd wC 2 = 2) rfl) (zln_of (rfl : zcd wC 2 = 2) rfl) rfl o38.1 o38.2 (by decide) dX7_putTogether_50 ?_
            refine z_bipush hx hb (by decide) dX7_putTogether_51 ?_
            refine z_isub hx hb dX7_putTogether_53 ?_
            refine w_calli (va_runV (As := [.int (iI ((M8 2 (sI x7).toNat) - 48))]) (rest := []) ⟨hx, hb, hml, hown, hts⟩ (cC_Splicer_readDigit l D dA b M8 ((M8 2 (sI x7).toNat) - 48) _ h) (cwV 1 hts (z_gV k309 k310 k1356 k2 k311) rfl rfl rfl dm_X7_readDigit ⟨Nat.le_of_ble_eq_true rfl, Nat.le_of_ble_eq_true rfl⟩) ⟨wPre_blind, (w_recv hS hK.1 (by decide) (zkd_of (rfl : zcd wC 1 = 1) rfl) (by decide) (rfl : vwCl[7]? = some (RX7, TX7, 7))), w_pre hS hK⟩ rfl rfl hl.1 rfl (lv_room (Nat.le_of_ble_eq_true rfl)) dX7_putTogether_54 ⟨Nat.le_refl _, Nat.le_refl _⟩) hS0 (fun z40 M39 H locs r41 h hS hS0 => ?_)
            refine lv_goto (tgt := 70) hx hb dX7_putTogether_57 (by decide) ?_
            refine lv_istore_n (lv' := [(1, .int (iI z40)), (0, .ref (b + 1)), (2, .int (iI x7))]) hx hb dX7_putTogether_70 rfl hl (by decide) rfl (fun ls hl => ?_)
            refine z_iinc (lv' := [(2, .int (iI (x7 + 1))), (1, .int (iI z40)), (0, .ref (b + 1))]) hx hb dX7_putTogether_71 hl (k := 2) rfl (by decide) rfl (fun ls hl => ?_)
            refine lv_goto (tgt := 18) hx hb dX7_putTogether_74 (by decide) ?_
            obtain ⟨n42, h43, h⟩ := h
            exact i15 n42 h43 z40 (x7 + 1) M39 _ _ _ h hS hS0 (lv_sub hl [2, 1, 0] rfl)
  exact L13 n10 0 0 M5 _ _ _ h11 hS hS0 (lv_sub hl [2, 1, 0] rfl)

set_option maxRecDepth 100000 in
def wC_Splicer_putInto (a0 : Nat) (M : zM) (Q : Int → zM → Prop) : Prop := wC_Splicer_firstWrong  M (fun z4 M3 => wJ1 (fun J20 => (z4 ≠ (-1) → J20 ((-1) - z4) M3) ∧ (z4 = (-1) → wC_Splicer_putTogether  M3 (fun z20 M19 => J20 z20 M19))) (fun (x10 : Int) (M11 : zM) => (∀ M14 : zM, M14 = zup M11 1 1 0 → ((sI x10) ≠ 0 → Q (sI x10) M14) ∧ ((sI x10) = 0 → wC_Strip_copy a0 6 M14 (fun M17 => Q (sI (M17 a0 1)) M17)))))
set_option maxHeartbeats 4000000 in
set_option maxRecDepth 100000 in
theorem cC_Splicer_putInto (l : Launch) (D : va_G) (dA : Nat → ClassId) (b : Nat) (M : zM) (a0 : Nat) (lt_a0 : a0 < nC) (cd_a0 : zcd wC a0 = 6) (Q : Int → zM → Prop) (h : wC_Splicer_putInto a0 M Q) : Met l yX7_putInto (.code yX7_putInto cX7_putInto 4 (some .int) :: zt) (z_rm 6) (va_Pc [.ref (b + 1), .ref (b + a0)] (wPre D dA vwCl (z_tys dA) wC nC b M)) (va_Qi (wQi Q) (zB D dA vwCl wC nC b) (zA nC b)) 0 0 (zA nC b) := by
  unfold wC_Splicer_putInto at h
  refine Met.ofW (cc := cX7_putInto) (maxL := 4) (ret := (some .int)) (by decide) rfl ?_
  intro p e s m args below meth c s₁ B hml hv
  obtain ⟨hargs, hS, hK⟩ := hv
  have hx := B.exec
  have hb := B.bytes
  have hr := B.returns
  have hts := atoms_spec (ws := .code yX7_putInto cX7_putInto 4 (some .int) :: zt) B.pre
  have hown : s.vm.findClass RX7 = some m.cls := findClass_of_methodNamed B.named
  have hlocks := B.notSynchronized
  have hS0 : va_S (zA nC b) s.heap s.heap [] := va_S.rf
  have hl := lv_entry ([.ref (b + 1), .ref (b + a0)]) (n := 4) (Nat.le_of_ble_eq_true rfl)
  have hent : entryFrame m args 4 = F0 m 0 ((lg_sl ([.ref (b + 1), .ref (b + a0)]) ++ List.replicate (4 - (lg_sl ([.ref (b + 1), .ref (b + a0)])).length) Slot.unset).toArray) [] := by rw [hargs]; exact lg_entry_eq m ([.ref (b + 1), .ref (b + a0)]) 4
  rw [hent]
  generalize (lg_sl ([.ref (b + 1), .ref (b + a0)]) ++ List.replicate (4 - (lg_sl ([.ref (b + 1), .ref (b + a0)])).length) Slot.unset).toArray = ls at hl ⊢
  have hl : lv_has ls 4 [(0, .ref (b + 1)), (1, .ref (b + a0))] := hl
  obtain ⟨lt1, cd2⟩ := nx_strip a0 lt_a0 cd_a0
  refine lv_aload_n hx hb dX7_putInto_0 rfl (lv_at hl 0 rfl) ?_
  refine w_calli (va_runV (As := []) (rest := []) ⟨hx, hb, hml, hown, hts⟩ (cC_Splicer_firstWrong l D dA b M  _ h) (cwV 0 hts (z_gV k288 k289 k1350 k2 k290) rfl rfl rfl dm_X7_firstWrong ⟨Nat.le_of_ble_eq_true rfl, Nat.le_of_ble_eq_true rfl⟩) ⟨wPre_blind, (w_recv hS hK.1 (by decide) (zkd_of (rfl : zcd wC 1 = 1) rfl) (by decide) (rfl : vwCl[7]? = some (RX7, TX7, 7))), w_pre hS hK⟩ rfl rfl hl.1 rfl (lv_room (Nat.le_of_ble_eq_true rfl)) dX7_putInto_1 ⟨Nat.le_refl _, Nat.le_refl _⟩) hS0 (fun z4 M3 H locs r5 h hS hS0 => ?_)
  refine lv_istore_n (lv' := [(2, .int (iI z4)), (0, .ref (b + 1)), (1, .ref (b + a0))]) hx hb dX7_putInto_4 rfl hl (by decide) rfl (fun ls hl => ?_)
  refine lv_iload_n hx hb dX7_putInto_5 rfl (lv_at hl 0 rfl) ?_
  refine z_iconst hx hb dX7_putInto_6 ?_
  obtain ⟨J20, B13, h⟩ := h
  have L12 : ∀ (x10 : Int) (M11 : zM) (H : Heap) (locs : List Loc) (ls : Array Slot), J20 x10 M11 → zR D dA vwCl wC nC b M11 H → va_S (zA nC b) s.heap H locs → lv_has ls 4 [(0, .ref (b + 1)), (1, .ref (b + a0))] → W p l e (headSpec (.code yX7_putInto cX7_putInto 4 (some .int) :: zt) (z_rm 6)).room s m args below meth c H locs 0 0 (MQ below (va_Qi (wQi Q) (zB D dA vwCl wC nC b) (zA nC b)) args s 0 0 (zA nC b)) (F0 m 20 ls [.int (iI x10)]) := by
    intro x10 M11 H locs ls h hS hS0 hl
    have h := B13 x10 M11 h
    refine lv_istore_n (lv' := [(3, .int (iI x10)), (0, .ref (b + 1)), (1, .ref (b + a0))]) hx hb dX7_putInto_20 rfl hl (by decide) rfl (fun ls hl => ?_)
    refine lv_aload_n hx hb dX7_putInto_21 rfl (lv_at hl 1 rfl) ?_
    refine z_iconst hx hb dX7_putInto_22 ?_
    refine w_puti hx hb hts (z_memU u7) tyX7 tyX7_ok nmX7 hown hK.1 hS hS0 f7_1 (by decide) (zkd_of (rfl : zcd wC 1 = 1) rfl) (Or.inl (hts _ (z_mem k55))) rfl (z := 0) (by decide +kernel) dX7_putInto_23 (fun H locs hS hS0 => ?_)
    obtain ⟨M14, e15⟩ : ∃ M14 : zM, M14 = zup M11 1 1 0 := ⟨_, rfl⟩
    rw [← e15] at hS
    have h := h M14 e15
    refine lv_iload_n hx hb dX7_putInto_26 rfl (lv_at hl 0 rfl) ?_
    refine w_if_ne (tgt := 45) hx hb rfl dX7_putInto_27 (by decide) (fun c16 => ?_) (fun c16 => ?_)
    · skip
      have h := h.1 c16
      refine lv_iload_n hx hb dX7_putInto_45 rfl (lv_at hl 0 rfl) ?_
      exact w_iret hx hb hr hlocks hS hS0 rfl h dX7_putInto_46
    · skip
      have h := h.2 c16
      refine lv_aload_n hx hb dX7_putInto_30 rfl (lv_at hl 2 rfl) ?_
      refine lv_aload_n hx hb dX7_putInto_31 rfl (lv_at hl 1 rfl) ?_
      refine w_getr (j2 := 3) hx hb hts (z_memU u7) hown hK.1 hS f7_4 (by decide) (zkd_of (rfl : zcd wC 1 = 1) rfl) (zrf_of (rfl : zcd wC 1 = 1) rfl) (Or.inl (hts _ (z_mem k59))) dX7_putInto_32 ?_
      refine z_iconst hx hb dX7_putInto_35 ?_
      refine w_aald (n := 6) (i := 0) (j2 := 6) hx hb hK.1 (t0 := 4) (r := 4) (by decide) rfl rfl hS (by decide) (zkd_of (rfl : zcd wC 3 = 3) rfl) (zln_of (rfl : zcd wC 3 = 3) rfl) (sI_of (by decide)) (by decide) (by decide) (by decide) (zrf_of (rfl : zcd wC 3 = 3) rfl) dX7_putInto_36 ?_
      refine w_callv (va_runV (As := [.ref (b + 6)]) (rest := []) ⟨hx, hb, hml, hown, hts⟩ (cC_Strip_copy l D dA b M14 a0 6 lt_a0 cd_a0 (by decide) (rfl : zcd wC 6 = 6) _ h) (cwV 1 hts (z_gV k360 k361 k362 k3 k363) rfl rfl rfl dm_X8_copy ⟨Nat.le_of_ble_eq_true rfl, Nat.le_of_ble_eq_true rfl⟩) ⟨wPre_blind, (w_recv hS hK.1 lt_a0 (zkd_of cd_a0 rfl) (by decide) (rfl : vwCl[8]? = some (RX8, TX8, 2))), w_pre hS hK⟩ rfl rfl hl.1 rfl (lv_room (Nat.le_of_ble_eq_true rfl)) dX7_putInto_37 ⟨Nat.le_refl _, Nat.le_refl _⟩) hS0 (fun M17 H locs h hS hS0 => ?_)
      refine lv_aload_n hx hb dX7_putInto_40 rfl (lv_at hl 2 rfl) ?_
      refine w_geti hx hb hts (z_memU u8) hown hK.1 hS f8_1 lt_a0 (zkd_of cd_a0 rfl) (Or.inl (hts _ (z_mem k46))) dX7_putInto_41 ?_
      refine lv_istore_n (lv' := [(3, .int (iI (M17 a0 1))), (0, .ref (b + 1)), (1, .ref (b + a0))]) hx hb dX7_putInto_44 rfl hl (by decide) rfl (fun ls hl => ?_)
      refine lv_iload_n hx hb dX7_putInto_45 rfl (lv_at hl 0 rfl) ?_
      exact w_iret hx hb hr hlocks hS hS0 rfl h dX7_putInto_46
  refine w_icmp_ne (tgt := 17) hx hb (sI_of r5) (sI_of (by decide)) dX7_putInto_7 (by decide) (fun c18 => ?_) (fun c18 => ?_)
  · skip
    have h := h.1 c18
    refine z_iconst hx hb dX7_putInto_17 ?_
    refine lv_iload_n hx hb dX7_putInto_18 rfl (lv_at hl 0 rfl) ?_
    refine z_isub hx hb dX7_putInto_19 ?_
    exact L12 ((-1) - z4) M3 _ _ _ h hS hS0 (lv_sub hl [1, 2] rfl)
  · skip
    have h := h.2 c18
    refine lv_aload_n hx hb dX7_putInto_10 rfl (lv_at hl 1 rfl) ?_
    refine w_calli (va_runV (As := []) (rest := []) ⟨hx, hb, hml, hown, hts⟩ (cC_Splicer_putTogether l D dA b M3  _ h) (cwV 0 hts (z_gV k303 k304 k1354 k2 k305) rfl rfl rfl dm_X7_putTogether ⟨Nat.le_of_ble_eq_true rfl, Nat.le_of_ble_eq_true rfl⟩) ⟨wPre_blind, (w_recv hS hK.1 (by decide) (zkd_of (rfl : zcd wC 1 = 1) rfl) (by decide) (rfl : vwCl[7]? = some (RX7, TX7, 7))), w_pre hS hK⟩ rfl rfl hl.1 rfl (lv_room (Nat.le_of_ble_eq_true rfl)) dX7_putInto_11 ⟨Nat.le_refl _, Nat.le_refl _⟩) hS0 (fun z20 M19 H locs r21 h hS hS0 => ?_)
    refine lv_goto (tgt := 20) hx hb dX7_putInto_14 (by decide) ?_
    exact L12 z20 M19 _ _ _ h hS hS0 (lv_sub hl [1, 2] rfl)

set_option maxRecDepth 100000 in
def wC_splice  (M : zM) (Q : Int → zM → Prop) : Prop := wC_Splicer_putInto 30 M (fun z2 M1 => Q z2 M1)
set_option maxHeartbeats 4000000 in
set_option maxRecDepth 100000 in
theorem cC_splice (l : Launch) (D : va_G) (dA : Nat → ClassId) (b : Nat) (M : zM)   (Q : Int → zM → Prop) (h : wC_splice  M Q) : Met l yX11_splice (.code yX11_splice cX11_splice 1 (some .int) :: zt) (z_rm 7) (va_Pc [.ref (b + 0)] (wPre D dA vwCl (z_tys dA) wC nC b M)) (va_Qi (wQi Q) (zB D dA vwCl wC nC b) (zA nC b)) 0 0 (zA nC b) := by
  unfold wC_splice at h
  refine Met.ofW (cc := cX11_splice) (maxL := 1) (ret := (some .int)) (by decide) rfl ?_
  intro p e s m args below meth c s₁ B hml hv
  obtain ⟨hargs, hS, hK⟩ := hv
  have hx := B.exec
  have hb := B.bytes
  have hr := B.returns
  have hts := atoms_spec (ws := .code yX11_splice cX11_splice 1 (some .int) :: zt) B.pre
  have hown : s.vm.findClass RX11 = some m.cls := findClass_of_methodNamed B.named
  have hlocks := B.notSynchronized
  have hS0 : va_S (zA nC b) s.heap s.heap [] := va_S.rf
  have hl := lv_entry ([.ref (b + 0)]) (n := 1) (Nat.le_of_ble_eq_true rfl)
  have hent : entryFrame m args 1 = F0 m 0 ((lg_sl ([.ref (b + 0)]) ++ List.replicate (1 - (lg_sl ([.ref (b + 0)])).length) Slot.unset).toArray) [] := by rw [hargs]; exact lg_entry_eq m ([.ref (b + 0)]) 1
  rw [hent]
  generalize (lg_sl ([.ref (b + 0)]) ++ List.replicate (1 - (lg_sl ([.ref (b + 0)])).length) Slot.unset).toArray = ls at hl ⊢
  have hl : lv_has ls 1 [(0, .ref (b + 0))] := hl
  refine lv_aload_n hx hb dX11_splice_0 rfl (lv_at hl 0 rfl) ?_
  refine w_getr (j2 := 1) hx hb hts (z_memU u11) hown hK.1 hS f11_0 (by decide) (zkd_of (rfl : zcd wC 0 = 0) rfl) (zrf_of (rfl : zcd wC 0 = 0) rfl) (Or.inl (hts _ (z_mem k242))) dX11_splice_1 ?_
  refine lv_aload_n hx hb dX11_splice_4 rfl (lv_at hl 0 rfl) ?_
  refine w_getr (j2 := 30) hx hb hts (z_memU u11) hown hK.1 hS f11_1 (by decide) (zkd_of (rfl : zcd wC 0 = 0) rfl) (zrf_of (rfl : zcd wC 0 = 0) rfl) (Or.inl (hts _ (z_mem k243))) dX11_splice_5 ?_
  refine w_calli (va_runV (As := [.ref (b + 30)]) (rest := []) ⟨hx, hb, hml, hown, hts⟩ (cC_Splicer_putInto l D dA b M 30 (by decide) (rfl : zcd wC 30 = 6) _ h) (cwV 1 hts (z_gV k284 k285 k286 k2 k287) rfl rfl rfl dm_X7_putInto ⟨Nat.le_of_ble_eq_true rfl, Nat.le_of_ble_eq_true rfl⟩) ⟨wPre_blind, (w_recv hS hK.1 (by decide) (zkd_of (rfl : zcd wC 1 = 1) rfl) (by decide) (rfl : vwCl[7]? = some (RX7, TX7, 7))), w_pre hS hK⟩ rfl rfl hl.1 rfl (lv_room (Nat.le_of_ble_eq_true rfl)) dX11_splice_8 ⟨Nat.le_refl _, Nat.le_refl _⟩) hS0 (fun z2 M1 H locs r3 h hS hS0 => ?_)
  exact w_iret hx hb hr hlocks hS hS0 (sI_of r3) h dX11_splice_11

set_option maxRecDepth 100000 in
def wC_Strip_at (j : Nat) (a0 : Int) (M : zM) (Q : Int → Prop) : Prop := wC_Strip_has j a0 M (fun z4 => (z4 = 0 → Q (-1)) ∧ (z4 ≠ 0 → ((0 ≤ (sI a0) ∧ (sI a0) < 24) ∧ Q (sI (M (j + 1) (sI a0).toNat)))))
set_option maxHeartbeats 4000000 in
set_option maxRecDepth 100000 in
theorem cC_Strip_at (l : Launch) (D : va_G) (dA : Nat → ClassId) (b : Nat) (M : zM) (j : Nat) (a0 : Int) (lt_j : j < nC) (cd_j : zcd wC j = 6) (Q : Int → Prop) (h : wC_Strip_at j a0 M Q) : Met l yX8_at (.code yX8_at cX8_at 2 (some .int) :: zt) (z_rm 1) (va_Pc [.ref (b + j), .int (iI a0)] (wPre D dA vwCl (z_tys dA) wC nC b M)) (va_Qi (wQi (fun z9 u9 => u9 = M ∧ Q z9)) (zB D dA vwCl wC nC b) (zA nC b)) 0 0 (zA nC b) := by
  unfold wC_Strip_at at h
  refine Met.ofW (cc := cX8_at) (maxL := 2) (ret := (some .int)) (by decide) rfl ?_
  intro p e s m args below meth c s₁ B hml hv
  obtain ⟨hargs, hS, hK⟩ := hv
  have hx := B.exec
  have hb := B.bytes
  have hr := B.returns
  have hts := atoms_spec (ws := .code yX8_at cX8_at 2 (some .int) :: zt) B.pre
  have hown : s.vm.findClass RX8 = some m.cls := findClass_of_methodNamed B.named
  have hlocks := B.notSynchronized
  have hS0 : va_S (zA nC b) s.heap s.heap [] := va_S.rf
  have hl := lv_entry ([.ref (b + j), .int (iI a0)]) (n := 2) (Nat.le_of_ble_eq_true rfl)
  have hent : entryFrame m args 2 = F0 m 0 ((lg_sl ([.ref (b + j), .int (iI a0)]) ++ List.replicate (2 - (lg_sl ([.ref (b + j), .int (iI a0)])).length) Slot.unset).toArray) [] := by rw [hargs]; exact lg_entry_eq m ([.ref (b + j), .int (iI a0)]) 2
  rw [hent]
  generalize (lg_sl ([.ref (b + j), .int (iI a0)]) ++ List.replicate (2 - (lg_sl ([.ref (b + j), .int (iI a0)])).length) Slot.unset).toArray = ls at hl ⊢
  have hl : lv_has ls 2 [(0, .ref (b + j)), (1, .int (iI a0))] := hl
  obtain ⟨lt1, cd2⟩ := nx_strip j lt_j cd_j
  refine lv_aload_n hx hb dX8_at_0 rfl (lv_at hl 0 rfl) ?_
  refine lv_iload_n hx hb dX8_at_1 rfl (lv_at hl 1 rfl) ?_
  refine w_callz (va_runV (As := [.int (iI a0)]) (rest := []) ⟨hx, hb, hml, hown, hts⟩ (cC_Strip_has l D dA b M j a0 lt_j cd_j _ h) (cwV 1 hts (z_gV k326 k327 k328 k3 k329) rfl rfl rfl dm_X8_has ⟨Nat.le_of_ble_eq_true rfl, Nat.le_of_ble_eq_true rfl⟩) ⟨wPre_blind, (w_recv hS hK.1 lt_j (zkd_of cd_j rfl) (by decide) (rfl : vwCl[8]? = some (RX8, TX8, 2))), w_pre hS hK⟩ rfl rfl hl.1 rfl (lv_room (Nat.le_of_ble_eq_true rfl)) dX8_at_2 ⟨Nat.le_refl _, Nat.le_refl _⟩) hS0 (fun z4 M3 H locs r5 h hS hS0 => ?_)
  obtain ⟨e6, h⟩ := h
  rw [e6] at hS
  refine w_if_eq (tgt := 17) hx hb (sI_01 r5) dX8_at_5 (by decide) (fun c7 => ?_) (fun c7 => ?_)
  · skip
    have h := h.1 c7
    refine z_iconst hx hb dX8_at_17 ?_
    exact w_iret hx hb hr hlocks hS hS0 (sI_of (by decide)) ⟨rfl, h⟩ dX8_at_18
  · skip
    have h := h.2 c7
    refine lv_aload_n hx hb dX8_at_8 rfl (lv_at hl 0 rfl) ?_
    refine w_getr (j2 := (j + 1)) hx hb hts (z_memU u8) hown hK.1 hS f8_0 lt_j (zkd_of cd_j rfl) (zrf_of cd_j rfl) (Or.inl (hts _ (z_mem k41))) dX8_at_9 ?_
    refine lv_iload_n hx hb dX8_at_12 rfl (lv_at hl 1 rfl) ?_
    obtain ⟨o8, h⟩ := h
    refine w_iald (n := 24) (i := (sI a0)) hx hb hK.1 (t0 := 0) rfl hS lt1 (zkd_of cd2 rfl) (zln_of cd2 rfl) rfl o8.1 o8.2 (by decide) dX8_at_13 ?_
    refine lv_goto (tgt := 18) hx hb dX8_at_14 (by decide) ?_
    exact w_iret hx hb hr hlocks hS hS0 rfl ⟨rfl, h⟩ dX8_at_18

set_option maxRecDepth 100000 in
def wC_hand (a0 : Int) (M : zM) (Q : Int → Prop) : Prop := wC_Strip_at 30 a0 M (fun z2 => Q z2)
set_option maxHeartbeats 4000000 in
set_option maxRecDepth 100000 in
theorem cC_hand (l : Launch) (D : va_G) (dA : Nat → ClassId) (b : Nat) (M : zM) (a0 : Int)  (Q : Int → Prop) (h : wC_hand a0 M Q) : Met l yX11_hand (.code yX11_hand cX11_hand 2 (some .int) :: zt) (z_rm 2) (va_Pc [.ref (b + 0), .int (iI a0)] (wPre D dA vwCl (z_tys dA) wC nC b M)) (va_Qi (wQi (fun z9 u9 => u9 = M ∧ Q z9)) (zB D dA vwCl wC nC b) (zA nC b)) 0 0 (zA nC b) := by
  unfold wC_hand at h
  refine Met.ofW (cc := cX11_hand) (maxL := 2) (ret := (some .int)) (by decide) rfl ?_
  intro p e s m args below meth c s₁ B hml hv
  obtain ⟨hargs, hS, hK⟩ := hv
  have hx := B.exec
  have hb := B.bytes
  have hr := B.returns
  have hts := atoms_spec (ws := .code yX11_hand cX11_hand 2 (some .int) :: zt) B.pre
  have hown : s.vm.findClass RX11 = some m.cls := findClass_of_methodNamed B.named
  have hlocks := B.notSynchronized
  have hS0 : va_S (zA nC b) s.heap s.heap [] := va_S.rf
  have hl := lv_entry ([.ref (b + 0), .int (iI a0)]) (n := 2) (Nat.le_of_ble_eq_true rfl)
  have hent : entryFrame m args 2 = F0 m 0 ((lg_sl ([.ref (b + 0), .int (iI a0)]) ++ List.replicate (2 - (lg_sl ([.ref (b + 0), .int (iI a0)])).length) Slot.unset).toArray) [] := by rw [hargs]; exact lg_entry_eq m ([.ref (b + 0), .int (iI a0)]) 2
  rw [hent]
  generalize (lg_sl ([.ref (b + 0), .int (iI a0)]) ++ List.replicate (2 - (lg_sl ([.ref (b + 0), .int (iI a0)])).length) Slot.unset).toArray = ls at hl ⊢
  have hl : lv_has ls 2 [(0, .ref (b + 0)), (1, .int (iI a0))] := hl
  refine lv_aload_n hx hb dX11_hand_0 rfl (lv_at hl 0 rfl) ?_
  refine w_getr (j2 := 30) hx hb hts (z_memU u11) hown hK.1 hS f11_1 (by decide) (zkd_of (rfl : zcd wC 0 = 0) rfl) (zrf_of (rfl : zcd wC 0 = 0) rfl) (Or.inl (hts _ (z_mem k243))) dX11_hand_1 ?_
  refine lv_iload_n hx hb dX11_hand_4 rfl (lv_at hl 1 rfl) ?_
  refine w_calli (va_runV (As := [.int (iI a0)]) (rest := []) ⟨hx, hb, hml, hown, hts⟩ (cC_Strip_at l D dA b M 30 a0 (by decide) (rfl : zcd wC 30 = 6) _ h) (cwV 1 hts (z_gV k371 k372 k373 k3 k374) rfl rfl rfl dm_X8_at ⟨Nat.le_of_ble_eq_true rfl, Nat.le_of_ble_eq_true rfl⟩) ⟨wPre_blind, (w_recv hS hK.1 (by decide) (zkd_of (rfl : zcd wC 30 = 6) rfl) (by decide) (rfl : vwCl[8]? = some (RX8, TX8, 2))), w_pre hS hK⟩ rfl rfl hl.1 rfl (lv_room (Nat.le_of_ble_eq_true rfl)) dX11_hand_5 ⟨Nat.le_refl _, Nat.le_refl _⟩) hS0 (fun z2 M1 H locs r3 h hS hS0 => ?_)
  obtain ⟨e4, h⟩ := h
  rw [e4] at hS
  exact w_iret hx hb hr hlocks hS hS0 (sI_of r3) ⟨rfl, h⟩ dX11_hand_8

set_option maxRecDepth 100000 in
def wC_within (a0 : Int) (a1 : Int) (a2 : Int) (M : zM) (Q : Int → Prop) : Prop := ((sI a0) < (sI a1) → Q 0) ∧ ((sI a1) ≤ (sI a0) → ((sI a2) < (sI a0) → Q 0) ∧ ((sI a0) ≤ (sI a2) → Q 1))
set_option maxHeartbeats 4000000 in
set_option maxRecDepth 100000 in
theorem cC_within (l : Launch) (D : va_G) (dA : Nat → ClassId) (b : Nat) (M : zM) (a0 : Int) (a1 : Int) (a2 : Int)  (Q : Int → Prop) (h : wC_within a0 a1 a2 M Q) : Met l yX11_within (.code yX11_within cX11_within 3 (some .boolean) :: zt) (z_rm 0) (va_Pc [.int (iI a0), .int (iI a1), .int (iI a2)] (wPre D dA vwCl (z_tys dA) wC nC b M)) (va_Qi (wQz (fun z9 u9 => u9 = M ∧ Q z9)) (zB D dA vwCl wC nC b) (zA nC b)) 0 0 (zA nC b) := by
  unfold wC_within at h
  refine Met.ofW (cc := cX11_within) (maxL := 3) (ret := (some .boolean)) (by decide) rfl ?_
  intro p e s m args below meth c s₁ B hml hv
  obtain ⟨hargs, hS, hK⟩ := hv
  have hx := B.exec
  have hb := B.bytes
  have hr := B.returns
  have hts := atoms_spec (ws := .code yX11_within cX11_within 3 (some .boolean) :: zt) B.pre
  have hown : s.vm.findClass RX11 = some m.cls := findClass_of_methodNamed B.named
  have hlocks := B.notSynchronized
  have hS0 : va_S (zA nC b) s.heap s.heap [] := va_S.rf
  have hl := lv_entry ([.int (iI a0), .int (iI a1), .int (iI a2)]) (n := 3) (Nat.le_of_ble_eq_true rfl)
  have hent : entryFrame m args 3 = F0 m 0 ((lg_sl ([.int (iI a0), .int (iI a1), .int (iI a2)]) ++ List.replicate (3 - (lg_sl ([.int (iI a0), .int (iI a1), .int (iI a2)])).length) Slot.unset).toArray) [] := by rw [hargs]; exact lg_entry_eq m ([.int (iI a0), .int (iI a1), .int (iI a2)]) 3
  rw [hent]
  generalize (lg_sl ([.int (iI a0), .int (iI a1), .int (iI a2)]) ++ List.replicate (3 - (lg_sl ([.int (iI a0), .int (iI a1), .int (iI a2)])).length) Slot.unset).toArray = ls at hl ⊢
  have hl : lv_has ls 3 [(0, .int (iI a0)), (1, .int (iI a1)), (2, .int (iI a2))] := hl
  refine lv_iload_n hx hb dX11_within_0 rfl (lv_at hl 0 rfl) ?_
  refine lv_iload_n hx hb dX11_within_1 rfl (lv_at hl 1 rfl) ?_
  refine w_icmp_lt (tgt := 14) hx hb rfl rfl dX11_within_2 (by decide) (fun c1 => ?_) (fun c1 => ?_)
  · skip
    have h := h.1 c1
    refine z_iconst hx hb dX11_within_14 ?_
    exact w_zret hx hb hr hlocks hS hS0 (sI_of (by decide)) (by decide) ⟨rfl, h⟩ dX11_within_15
  · skip
    have h := h.2 c1
    refine lv_iload_n hx hb dX11_within_5 rfl (lv_at hl 0 rfl) ?_
    refine lv_iload_n hx hb dX11_within_6 rfl (lv_at hl 2 rfl) ?_
    refine w_icmp_gt (tgt := 14) hx hb rfl rfl dX11_within_7 (by decide) (fun c2 => ?_) (fun c2 => ?_)
    · skip
      have h := h.1 c2
      refine z_iconst hx hb dX11_within_14 ?_
      exact w_zret hx hb hr hlocks hS hS0 (sI_of (by decide)) (by decide) ⟨rfl, h⟩ dX11_within_15
    · skip
      have h := h.2 c2
      refine z_iconst hx hb dX11_within_10 ?_
      refine lv_goto (tgt := 15) hx hb dX11_within_11 (by decide) ?_
      exact w_zret hx hb hr hlocks hS hS0 (sI_of (by decide)) (by decide) ⟨rfl, h⟩ dX11_within_15

set_option maxRecDepth 100000 in
def wC_isMotor (a0 : Int) (M : zM) (Q : Int → Prop) : Prop := wC_within a0 0 1 M (fun z2 => Q z2)
set_option maxHeartbeats 4000000 in
set_option maxRecDepth 100000 in
theorem cC_isMotor (l : Launch) (D : va_G) (dA : Nat → ClassId) (b : Nat) (M : zM) (a0 : Int)  (Q : Int → Prop) (h : wC_isMotor a0 M Q) : Met l yX11_isMotor (.code yX11_isMotor cX11_isMotor 1 (some .boolean) :: zt) (z_rm 1) (va_Pc [.int (iI a0)] (wPre D dA vwCl (z_tys dA) wC nC b M)) (va_Qi (wQz (fun z9 u9 => u9 = M ∧ Q z9)) (zB D dA vwCl wC nC b) (zA nC b)) 0 0 (zA nC b) := by
  unfold wC_isMotor at h
  refine Met.ofW (cc := cX11_isMotor) (maxL := 1) (ret := (some .boolean)) (by decide) rfl ?_
  intro p e s m args below meth c s₁ B hml hv
  obtain ⟨hargs, hS, hK⟩ := hv
  have hx := B.exec
  have hb := B.bytes
  have hr := B.returns
  have hts := atoms_spec (ws := .code yX11_isMotor cX11_isMotor 1 (some .boolean) :: zt) B.pre
  have hown : s.vm.findClass RX11 = some m.cls := findClass_of_methodNamed B.named
  have hlocks := B.notSynchronized
  have hS0 : va_S (zA nC b) s.heap s.heap [] := va_S.rf
  have hl := lv_entry ([.int (iI a0)]) (n := 1) (Nat.le_of_ble_eq_true rfl)
  have hent : entryFrame m args 1 = F0 m 0 ((lg_sl ([.int (iI a0)]) ++ List.replicate (1 - (lg_sl ([.int (iI a0)])).length) Slot.unset).toArray) [] := by rw [hargs]; exact lg_entry_eq m ([.int (iI a0)]) 1
  rw [hent]
  generalize (lg_sl ([.int (iI a0)]) ++ List.replicate (1 - (lg_sl ([.int (iI a0)])).length) Slot.unset).toArray = ls at hl ⊢
  have hl : lv_has ls 1 [(0, .int (iI a0))] := hl
  refine lv_iload_n hx hb dX11_isMotor_0 rfl (lv_at hl 0 rfl) ?_
  refine z_iconst hx hb dX11_isMotor_1 ?_
  refine z_iconst hx hb dX11_isMotor_2 ?_
  refine w_callz (va_runS (As := [.int (iI a0), .int (iI 0), .int (iI 1)]) (rest := []) ⟨hx, hb, hml, hown, hts⟩ (cC_within l D dA b M a0 0 1 _ h) (va_cwS 3 hts (z_gS k382 k383 k1 k384) rfl rfl rfl dm_X11_within.2 ⟨Nat.le_of_ble_eq_true rfl, Nat.le_of_ble_eq_true rfl⟩) ⟨wPre_blind, w_pre hS hK⟩ rfl rfl hl.1 rfl (lv_room (Nat.le_of_ble_eq_true rfl)) dX11_isMotor_3 ⟨Nat.le_refl _, Nat.le_refl _⟩) hS0 (fun z2 M1 H locs r3 h hS hS0 => ?_)
  obtain ⟨e4, h⟩ := h
  rw [e4] at hS
  exact w_zret hx hb hr hlocks hS hS0 (sI_01 r3) r3 ⟨rfl, h⟩ dX11_isMotor_6

set_option maxRecDepth 100000 in
def wC_by (a0 : Int) (a1 : Int) (M : zM) (Q : Int → Prop) : Prop := (1 ≤ (sI a1) → (((sI a1) ≠ 0) ∧ (0 ≤ (sI ((sL a0).tmod (sI a1))) → Q (sI ((sL a0).tmod (sI a1)))) ∧ ((sI ((sL a0).tmod (sI a1))) < 0 → Q (sI (((sL a0).tmod (sI a1)) + a1))))) ∧ ((sI a1) < 1 → Q 0)
set_option maxHeartbeats 4000000 in
set_option maxRecDepth 100000 in
theorem cC_by (l : Launch) (D : va_G) (dA : Nat → ClassId) (b : Nat) (M : zM) (a0 : Int) (a1 : Int)  (Q : Int → Prop) (h : wC_by a0 a1 M Q) : Met l yX11_by (.code yX11_by cX11_by 4 (some .int) :: zt) (z_rm 0) (va_Pc [.long (iL a0), .int (iI a1)] (wPre D dA vwCl (z_tys dA) wC nC b M)) (va_Qi (wQi (fun z9 u9 => u9 = M ∧ Q z9)) (zB D dA vwCl wC nC b) (zA nC b)) 0 0 (zA nC b) := by
  unfold wC_by at h
  refine Met.ofW (cc := cX11_by) (maxL := 4) (ret := (some .int)) (by decide) rfl ?_
  intro p e s m args below meth c s₁ B hml hv
  obtain ⟨hargs, hS, hK⟩ := hv
  have hx := B.exec
  have hb := B.bytes
  have hr := B.returns
  have hts := atoms_spec (ws := .code yX11_by cX11_by 4 (some .int) :: zt) B.pre
  have hown : s.vm.findClass RX11 = some m.cls := findClass_of_methodNamed B.named
  have hlocks := B.notSynchronized
  have hS0 : va_S (zA nC b) s.heap s.heap [] := va_S.rf
  have hl := lv_entry ([.long (iL a0), .int (iI a1)]) (n := 4) (Nat.le_of_ble_eq_true rfl)
  have hent : entryFrame m args 4 = F0 m 0 ((lg_sl ([.long (iL a0), .int (iI a1)]) ++ List.replicate (4 - (lg_sl ([.long (iL a0), .int (iI a1)])).length) Slot.unset).toArray) [] := by rw [hargs]; exact lg_entry_eq m ([.long (iL a0), .int (iI a1)]) 4
  rw [hent]
  generalize (lg_sl ([.long (iL a0), .int (iI a1)]) ++ List.replicate (4 - (lg_sl ([.long (iL a0), .int (iI a1)])).length) Slot.unset).toArray = ls at hl ⊢
  have hl : lv_has ls 4 [(0, .long (iL a0)), (2, .int (iI a1))] := hl
  refine lv_iload_n hx hb dX11_by_0 rfl (lv_at hl 1 rfl) ?_
  refine z_iconst hx hb dX11_by_1 ?_
  refine w_icmp_ge (tgt := 7) hx hb rfl (sI_of (by decide)) dX11_by_2 (by decide) (fun c1 => ?_) (fun c1 => ?_)
  · skip
    have h := h.1 c1
    refine lv_lload_n hx hb dX11_by_7 rfl (lv_at hl 0 rfl) ?_
    refine lv_iload_n hx hb dX11_by_8 rfl (lv_at hl 1 rfl) ?_
    refine w_i2l hx hb rfl dX11_by_9 ?_
    obtain ⟨o2, h⟩ := h
    refine w_lrem hx hb rfl (sL_ofI rfl) o2 dX11_by_10 ?_
    refine z_l2i hx hb dX11_by_11 ?_
    refine lv_istore_n (lv' := [(3, .int (iI ((sL a0).tmod (sI a1)))), (0, .long (iL a0)), (2, .int (iI a1))]) hx hb dX11_by_12 rfl hl (by decide) rfl (fun ls hl => ?_)
    refine lv_iload_n hx hb dX11_by_13 rfl (lv_at hl 0 rfl) ?_
    refine w_if_ge (tgt := 23) hx hb rfl dX11_by_14 (by decide) (fun c3 => ?_) (fun c3 => ?_)
    · skip
      have h := h.1 c3
      refine lv_iload_n hx hb dX11_by_23 rfl (lv_at hl 0 rfl) ?_
      exact w_iret hx hb hr hlocks hS hS0 rfl ⟨rfl, h⟩ dX11_by_24
    · skip
      have h := h.2 c3
      refine lv_iload_n hx hb dX11_by_17 rfl (lv_at hl 0 rfl) ?_
      refine lv_iload_n hx hb dX11_by_18 rfl (lv_at hl 2 rfl) ?_
      refine z_iadd hx hb dX11_by_19 ?_
      refine lv_goto (tgt := 24) hx hb dX11_by_20 (by decide) ?_
      exact w_iret hx hb hr hlocks hS hS0 rfl ⟨rfl, h⟩ dX11_by_24
  · skip
    have h := h.2 c1
    refine z_iconst hx hb dX11_by_5 ?_
    exact w_iret hx hb hr hlocks hS hS0 (sI_of (by decide)) ⟨rfl, h⟩ dX11_by_6

set_option maxRecDepth 100000 in
def wC_Ring_soundsUnder (j : Nat) (a0 : Int) (a1 : Int) (M : zM) (Q : Int → Prop) : Prop := pL2 (fun K5 x7 x8 => (24 ≤ (sI x8) → Q (sI x7)) ∧ ((sI x8) < 24 → ((andI (shrI (M j 3) x8) 1) = 0 → K5 x7 (x8 + 1)) ∧ ((andI (shrI (M j 3) x8) 1) ≠ 0 → wC_by (sI (a0 + x8)) a1 M (fun z21 => ((0 ≤ z21 ∧ z21 < 24) ∧ K5 (orI x7 (M (j + 2) z21.toNat)) (x8 + 1)))))) 0 0
set_option maxHeartbeats 4000000 in
set_option maxRecDepth 100000 in
theorem cC_Ring_soundsUnder (l : Launch) (D : va_G) (dA : Nat → ClassId) (b : Nat) (M : zM) (j : Nat) (a0 : Int) (a1 : Int) (lt_j : j < nC) (cd_j : zcd wC j = 14) (Q : Int → Prop) (h : wC_Ring_soundsUnder j a0 a1 M Q) : Met l yX6_soundsUnder (.code yX6_soundsUnder cX6_soundsUnder 5 (some .int) :: zt) (z_rm 1) (va_Pc [.ref (b + j), .int (iI a0), .int (iI a1)] (wPre D dA vwCl (z_tys dA) wC nC b M)) (va_Qi (wQi (fun z9 u9 => u9 = M ∧ Q z9)) (zB D dA vwCl wC nC b) (zA nC b)) 0 0 (zA nC b) := by
  unfold wC_Ring_soundsUnder at h
  refine Met.ofW (cc := cX6_soundsUnder) (maxL := 5) (ret := (some .int)) (by decide) rfl ?_
  intro p e s m args below meth c s₁ B hml hv
  obtain ⟨hargs, hS, hK⟩ := hv
  have hx := B.exec
  have hb := B.bytes
  have hr := B.returns
  have hts := atoms_spec (ws := .code yX6_soundsUnder cX6_soundsUnder 5 (some .int) :: zt) B.pre
  have hown : s.vm.findClass RX6 = some m.cls := findClass_of_methodNamed B.named
  have hlocks := B.notSynchronized
  have hS0 : va_S (zA nC b) s.heap s.heap [] := va_S.rf
  have hl := lv_entry ([.ref (b + j), .int (iI a0), .int (iI a1)]) (n := 5) (Nat.le_of_ble_eq_true rfl)
  have hent : entryFrame m args 5 = F0 m 0 ((lg_sl ([.ref (b + j), .int (iI a0), .int (iI a1)]) ++ List.replicate (5 - (lg_sl ([.ref (b + j), .int (iI a0), .int (iI a1)])).length) Slot.unset).toArray) [] := by rw [hargs]; exact lg_entry_eq m ([.ref (b + j), .int (iI a0), .int (iI a1)]) 5
  rw [hent]
  generalize (lg_sl ([.ref (b + j), .int (iI a0), .int (iI a1)]) ++ List.replicate (5 - (lg_sl ([.ref (b + j), .int (iI a0), .int (iI a1)])).length) Slot.unset).toArray = ls at hl ⊢
  have hl : lv_has ls 5 [(0, .ref (b + j)), (1, .int (iI a0)), (2, .int (iI a1))] := hl
  obtain ⟨lt1, cd2, lt3, cd4, lt5, cd6⟩ := nx_ring j lt_j cd_j
  refine z_iconst hx hb dX6_soundsUnder_0 ?_
  refine lv_istore_n (lv' := [(3, .int (iI 0)), (0, .ref (b + j)), (1, .int (iI a0)), (2, .int (iI a1))]) hx hb dX6_soundsUnder_1 rfl hl (by decide) rfl (fun ls hl => ?_)
  refine z_iconst hx hb dX6_soundsUnder_2 ?_
  refine lv_istore (lv' := [(4, .int (iI 0)), (3, .int (iI 0)), (0, .ref (b + j)), (1, .int (iI a0)), (2, .int (iI a1))]) hx hb dX6_soundsUnder_3 hl (by decide) rfl (fun ls hl => ?_)
  obtain ⟨I9, ⟨n10, h11⟩, h12⟩ := h
  have L13 : ∀ (n14 : Nat) (x7 x8 : Int) (H : Heap) (locs : List Loc) (ls : Array Slot), I9 n14 x7 x8 → zR D dA vwCl wC nC b M H → va_S (zA nC b) s.heap H locs → lv_has ls 5 [(0, .ref (b + j)), (1, .int (iI a0)), (2, .int (iI a1)), (3, .int (iI x7)), (4, .int (iI x8))] → W p l e (headSpec (.code yX6_soundsUnder cX6_soundsUnder 5 (some .int) :: zt) (z_rm 1)).room s m args below meth c H locs 0 0 (MQ below (va_Qi (wQi (fun z9 u9 => u9 = M ∧ Q z9)) (zB D dA vwCl wC nC b) (zA nC b)) args s 0 0 (zA nC b)) (F0 m 5 ls []) := by
    intro n14
    induction n14 using Nat.strongRecOn with
    | ind n14 i15 =>
      intro x7 x8 H locs ls h hS hS0 hl
      have h := h12 n14 x7 x8 h
      refine lv_iload hx hb dX6_soundsUnder_5 (lv_at hl 4 rfl) ?_
      refine z_bipush hx hb (by decide) dX6_soundsUnder_7 ?_
      refine w_icmp_ge (tgt := 50) hx hb rfl (sI_of (by decide)) dX6_soundsUnder_9 (by decide) (fun c16 => ?_) (fun c16 => ?_)
      · skip
        have h := h.1 c16
        refine lv_iload_n hx hb dX6_soundsUnder_50 rfl (lv_at hl 3 rfl) ?_
        exact w_iret hx hb hr hlocks hS hS0 rfl ⟨rfl, h⟩ dX6_soundsUnder_51
      · skip
        have h := h.2 c16
        refine lv_aload_n hx hb dX6_soundsUnder_12 rfl (lv_at hl 0 rfl) ?_
        refine w_geti hx hb hts (z_memU u6) hown hK.1 hS f6_3 lt_j (zkd_of cd_j rfl) (Or.inl (hts _ (z_mem k104))) dX6_soundsUnder_13 ?_
        refine lv_iload hx hb dX6_soundsUnder_16 (lv_at hl 4 rfl) ?_
        refine w_ishr hx hb dX6_soundsUnder_18 ?_
        refine z_iconst hx hb dX6_soundsUnder_19 ?_
        refine w_iand hx hb dX6_soundsUnder_20 ?_
        refine w_if_eq (tgt := 44) hx hb (sI_of (andI_R _ _)) dX6_soundsUnder_21 (by decide) (fun c17 => ?_) (fun c17 => ?_)
        · skip
          have h := h.1 c17
          refine z_iinc (lv' := [(4, .int (iI (x8 + 1))), (0, .ref (b + j)), (1, .int (iI a0)), (2, .int (iI a1)), (3, .int (iI x7))]) hx hb dX6_soundsUnder_44 hl (k := 4) rfl (by decide) rfl (fun ls hl => ?_)
          refine lv_goto (tgt := 5) hx hb dX6_soundsUnder_47 (by decide) ?_
          obtain ⟨n18, h19, h⟩ := h
          exact i15 n18 h19 x7 (x8 + 1) _ _ _ h hS hS0 (lv_sub hl [1, 2, 3, 4, 0] rfl)
        · skip
          have h := h.2 c17
          refine lv_iload_n hx hb dX6_soundsUnder_24 rfl (lv_at hl 3 rfl) ?_
          refine lv_aload_n hx hb dX6_soundsUnder_25 rfl (lv_at hl 0 rfl) ?_
          refine w_getr (j2 := (j + 1)) hx hb hts (z_memU u6) hown hK.1 hS f6_0 lt_j (zkd_of cd_j rfl) (zrf_of cd_j rfl) (Or.inl (hts _ (z_mem k93))) dX6_soundsUnder_26 ?_
          refine w_getr (j2 := (j + 2)) hx hb hts (z_memU u8) hown hK.1 hS f8_0 lt1 (zkd_of cd2 rfl) (zrf_of cd2 rfl) (Or.inl (hts _ (z_mem k42))) dX6_soundsUnder_29 ?_
          refine lv_iload_n hx hb dX6_soundsUnder_32 rfl (lv_at hl 1 rfl) ?_
          refine lv_iload hx hb dX6_soundsUnder_33 (lv_at hl 4 rfl) ?_
          refine z_iadd hx hb dX6_soundsUnder_35 ?_
          refine w_i2l hx hb rfl dX6_soundsUnder_36 ?_
          refine lv_iload_n hx hb dX6_soundsUnder_37 rfl (lv_at hl 2 rfl) ?_
          refine w_calli (va_runSN (As := [.long (iL (sI (a0 + x8))), .int (iI a1)]) (rest := [.ref (b + (j + 2)), .int (iI x7)]) ⟨hx, hb, hml, hown, hts⟩ (cC_by l D dA b M (sI (a0 + x8)) a1 _ h) ⟨va_cnB 2 hts (z_gN k406) rfl rfl rfl (hK.2 (RX6, 56, yX11_by, RX11) (List.mem_of_getElem? (i := 10) rfl)) (hts _ (z_mem k1)) dm_X11_by.2 ⟨Nat.le_of_ble_eq_true rfl, Nat.le_of_ble_eq_true rfl⟩, (hts _ (z_mem k405)), trivial⟩ ⟨wPre_blind, w_pre hS hK⟩ rfl rfl hl.1 rfl (lv_room (Nat.le_of_ble_eq_true rfl)) dX6_soundsUnder_38 ⟨Nat.le_refl _, Nat.le_refl _⟩) hS0 (fun z21 M20 H locs r22 h hS hS0 => ?_)
          obtain ⟨e23, h⟩ := h
          rw [e23] at hS
          obtain ⟨o24, h⟩ := h
          refine w_iald (n := 24) (i := z21) hx hb hK.1 (t0 := 0) rfl hS lt3 (zkd_of cd4 rfl) (zln_of cd4 rfl) (sI_of r22) o24.1 o24.2 (by decide) dX6_soundsUnder_41 ?_
          refine w_ior hx hb dX6_soundsUnder_42 ?_
          refine lv_istore_n (lv' := [(3, .int (iI (orI x7 (M (j + 2) z21.toNat)))), (0, .ref (b + j)), (1, .int (iI a0)), (2, .int (iI a1)), (4, .int (iI x8))]) hx hb dX6_soundsUnder_43 rfl hl (by decide) rfl (fun ls hl => ?_)
          refine z_iinc (lv' := [(4, .int (iI (x8 + 1))), (3, .int (iI (orI x7 (M (j + 2) z21.toNat)))), (0, .ref (b + j)), (1, .int (iI a0)), (2, .int (iI a1))]) hx hb dX6_soundsUnder_44 hl (k := 4) rfl (by decide) rfl (fun ls hl => ?_)
          refine lv_goto (tgt := 5) hx hb dX6_soundsUnder_47 (by decide) ?_
          obtain ⟨n25, h26, h⟩ := h
          exact i15 n25 h26 (orI x7 (M (j + 2) z21.toNat)) (x8 + 1) _ _ _ h hS hS0 (lv_sub hl [2, 3, 4, 1, 0] rfl)
  exact L13 n10 0 0 _ _ _ h11 hS hS0 (lv_sub hl [2, 3, 4, 1, 0] rfl)

set_option maxRecDepth 100000 in
def wC_Ring_fillUnder (j : Nat) (a0 : Nat) (a1 : Int) (M : zM) (Q : zM → Prop) : Prop := wL1 (fun K2 x7 M8 => ((sI a1) ≤ (sI x7) → Q M8) ∧ ((sI x7) < (sI a1) → (((zln wC a0) : Int) ≤ (sI x7) → Q M8) ∧ ((sI x7) < ((zln wC a0) : Int) → wC_Ring_soundsUnder j x7 a1 M8 (fun z19 => ((0 ≤ (sI x7) ∧ (sI x7) < (zln wC a0)) ∧ (∀ M23 : zM, M23 = zup M8 a0 (sI x7).toNat z19 → K2 (x7 + 1) M23)))))) 0 M
set_option maxHeartbeats 4000000 in
set_option maxRecDepth 100000 in
theorem cC_Ring_fillUnder (l : Launch) (D : va_G) (dA : Nat → ClassId) (b : Nat) (M : zM) (j : Nat) (a0 : Nat) (a1 : Int) (lt_j : j < nC) (cd_j : zcd wC j = 14) (lt_a0 : a0 < nC) (kd_a0 : zkd wC a0 = 100) (ln_a0 : zln wC a0 < 2147483648) (Q : zM → Prop) (h : wC_Ring_fillUnder j a0 a1 M Q) : Met l yX6_fillUnder (.code yX6_fillUnder cX6_fillUnder 4 none :: zt) (z_rm 2) (va_Pc [.ref (b + j), .ref (b + a0), .int (iI a1)] (wPre D dA vwCl (z_tys dA) wC nC b M)) (va_Qv (wQv Q) (zB D dA vwCl wC nC b) (zA nC b)) 0 0 (zA nC b) := by
  unfold wC_Ring_fillUnder at h
  refine Met.ofW (cc := cX6_fillUnder) (maxL := 4) (ret := none) (by decide) rfl ?_
  intro p e s m args below meth c s₁ B hml hv
  obtain ⟨hargs, hS, hK⟩ := hv
  have hx := B.exec
  have hb := B.bytes
  have hr := B.returns
  have hts := atoms_spec (ws := .code yX6_fillUnder cX6_fillUnder 4 none :: zt) B.pre
  have hown : s.vm.findClass RX6 = some m.cls := findClass_of_methodNamed B.named
  have hlocks := B.notSynchronized
  have hS0 : va_S (zA nC b) s.heap s.heap [] := va_S.rf
  have hl := lv_entry ([.ref (b + j), .ref (b + a0), .int (iI a1)]) (n := 4) (Nat.le_of_ble_eq_true rfl)
  have hent : entryFrame m args 4 = F0 m 0 ((lg_sl ([.ref (b + j), .ref (b + a0), .int (iI a1)]) ++ List.replicate (4 - (lg_sl ([.ref (b + j), .ref (b + a0), .int (iI a1)])).length) Slot.unset).toArray) [] := by rw [hargs]; exact lg_entry_eq m ([.ref (b + j), .ref (b + a0), .int (iI a1)]) 4
  rw [hent]
  generalize (lg_sl ([.ref (b + j), .ref (b + a0), .int (iI a1)]) ++ List.replicate (4 - (lg_sl ([.ref (b + j), .ref (b + a0), .int (iI a1)])).length) Slot.unset).toArray = ls at hl ⊢
  have hl : lv_has ls 4 [(0, .ref (b + j)), (1, .ref (b + a0)), (2, .int (iI a1))] := hl
  obtain ⟨lt1, cd2, lt3, cd4, lt5, cd6⟩ := nx_ring j lt_j cd_j
  refine z_iconst hx hb dX6_fillUnder_0 ?_
  refine lv_istore_n (lv' := [(3, .int (iI 0)), (0, .ref (b + j)), (1, .ref (b + a0)), (2, .int (iI a1))]) hx hb dX6_fillUnder_1 rfl hl (by decide) rfl (fun ls hl => ?_)
  obtain ⟨I9, ⟨n10, h11⟩, h12⟩ := h
  have L13 : ∀ (n14 : Nat) (x7 : Int) (M8 : zM) (H : Heap) (locs : List Loc) (ls : Array Slot), I9 n14 x7 M8 → zR D dA vwCl wC nC b M8 H → va_S (zA nC b) s.heap H locs → lv_has ls 4 [(0, .ref (b + j)), (1, .ref (b + a0)), (2, .int (iI a1)), (3, .int (iI x7))] → W p l e (headSpec (.code yX6_fillUnder cX6_fillUnder 4 none :: zt) (z_rm 2)).room s m args below meth c H locs 0 0 (MQ below (va_Qv (wQv Q) (zB D dA vwCl wC nC b) (zA nC b)) args s 0 0 (zA nC b)) (F0 m 2 ls []) := by
    intro n14
    induction n14 using Nat.strongRecOn with
    | ind n14 i15 =>
      intro x7 M8 H locs ls h hS hS0 hl
      have h := h12 n14 x7 M8 h
      refine lv_iload_n hx hb dX6_fillUnder_2 rfl (lv_at hl 3 rfl) ?_
      refine lv_iload_n hx hb dX6_fillUnder_3 rfl (lv_at hl 2 rfl) ?_
      refine w_icmp_ge (tgt := 28) hx hb rfl rfl dX6_fillUnder_4 (by decide) (fun c16 => ?_) (fun c16 => ?_)
      · skip
        have h := h.1 c16
        exact w_vret hx hb hr hlocks hS hS0 h dX6_fillUnder_28
      · skip
        have h := h.2 c16
        refine lv_iload_n hx hb dX6_fillUnder_7 rfl (lv_at hl 3 rfl) ?_
        refine lv_aload_n hx hb dX6_fillUnder_8 rfl (lv_at hl 1 rfl) ?_
        refine w_alen (n := (zln wC a0)) hx hb hK.1 (t0 := 0) rfl hS lt_a0 kd_a0 rfl dX6_fillUnder_9 ?_
        refine w_icmp_ge (tgt := 28) hx hb rfl (sI_of ⟨by clear h; omega, by clear h; have := ln_a0; omega⟩) dX6_fillUnder_10 (by decide) (fun c17 => ?_) (fun c17 => ?_)
        · skip
          have h := h.1 c17
          exact w_vret hx hb hr hlocks hS hS0 h dX6_fillUnder_28
        · skip
          have h := h.2 c17
          refine lv_aload_n hx hb dX6_fillUnder_13 rfl (lv_at hl 1 rfl) ?_
          refine lv_iload_n hx hb dX6_fillUnder_14 rfl (lv_at hl 3 rfl) ?_
          refine lv_aload_n hx hb dX6_fillUnder_15 rfl (lv_at hl 0 rfl) ?_
          refine lv_iload_n hx hb dX6_fillUnder_16 rfl (lv_at hl 3 rfl) ?_
          refine lv_iload_n hx hb dX6_fillUnder_17 rfl (lv_at hl 2 rfl) ?_
          refine w_calli (va_runV (As := [.int (iI x7), .int (iI a1)]) (rest := [.int (iI x7), .ref (b + a0)]) ⟨hx, hb, hml, hown, hts⟩ (cC_Ring_soundsUnder l D dA b M8 j x7 a1 lt_j cd_j _ h) (cwV 2 hts (z_gV k402 k403 k1364 k6 k404) rfl rfl rfl dm_X6_soundsUnder ⟨Nat.le_of_ble_eq_true rfl, Nat.le_of_ble_eq_true rfl⟩) ⟨wPre_blind, (w_recv hS hK.1 lt_j (zkd_of cd_j rfl) (by decide) (rfl : vwCl[6]? = some (RX6, TX6, 6))), w_pre hS hK⟩ rfl rfl hl.1 rfl (lv_room (Nat.le_of_ble_eq_true rfl)) dX6_fillUnder_18 ⟨Nat.le_refl _, Nat.le_refl _⟩) hS0 (fun z19 M18 H locs r20 h hS hS0 => ?_)
          obtain ⟨e21, h⟩ := h
          rw [e21] at hS
          obtain ⟨o22, h⟩ := h
          refine w_iast (z := z19) (n := (zln wC a0)) (i := (sI x7)) hx hb hK.1 (t0 := 0) rfl hS hS0 lt_a0 kd_a0 rfl rfl o22.1 o22.2 ln_a0 dX6_fillUnder_21 (fun H locs hS hS0 => ?_)
          obtain ⟨M23, e24⟩ : ∃ M23 : zM, M23 = zup M8 a0 (sI x7).toNat z19 := ⟨_, rfl⟩
          rw [← e24] at hS
          have h := h M23 e24
          refine z_iinc (lv' := [(3, .int (iI (x7 + 1))), (0, .ref (b + j)), (1, .ref (b + a0)), (2, .int (iI a1))]) hx hb dX6_fillUnder_22 hl (k := 3) rfl (by decide) rfl (fun ls hl => ?_)
          refine lv_goto (tgt := 2) hx hb dX6_fillUnder_25 (by decide) ?_
          obtain ⟨n25, h26, h⟩ := h
          exact i15 n25 h26 (x7 + 1) M23 _ _ _ h hS hS0 (lv_sub hl [1, 2, 3, 0] rfl)
  exact L13 n10 0 M _ _ _ h11 hS hS0 (lv_sub hl [1, 2, 3, 0] rfl)

set_option maxRecDepth 100000 in
def wC_Ring_listen (j : Nat) (M : zM) (Q : zM → Prop) : Prop := wC_Ring_fillUnder j (j + 3) (M (j + 1) 1) M (fun M7 => Q M7)
set_option maxHeartbeats 4000000 in
set_option maxRecDepth 100000 in
theorem cC_Ring_listen (l : Launch) (D : va_G) (dA : Nat → ClassId) (b : Nat) (M : zM) (j : Nat) (lt_j : j < nC) (cd_j : zcd wC j = 14) (Q : zM → Prop) (h : wC_Ring_listen j M Q) : Met l yX6_listen (.code yX6_listen cX6_listen 1 none :: zt) (z_rm 3) (va_Pc [.ref (b + j)] (wPre D dA vwCl (z_tys dA) wC nC b M)) (va_Qv (wQv Q) (zB D dA vwCl wC nC b) (zA nC b)) 0 0 (zA nC b) := by
  unfold wC_Ring_listen at h
  refine Met.ofW (cc := cX6_listen) (maxL := 1) (ret := none) (by decide) rfl ?_
  intro p e s m args below meth c s₁ B hml hv
  obtain ⟨hargs, hS, hK⟩ := hv
  have hx := B.exec
  have hb := B.bytes
  have hr := B.returns
  have hts := atoms_spec (ws := .code yX6_listen cX6_listen 1 none :: zt) B.pre
  have hown : s.vm.findClass RX6 = some m.cls := findClass_of_methodNamed B.named
  have hlocks := B.notSynchronized
  have hS0 : va_S (zA nC b) s.heap s.heap [] := va_S.rf
  have hl := lv_entry ([.ref (b + j)]) (n := 1) (Nat.le_of_ble_eq_true rfl)
  have hent : entryFrame m args 1 = F0 m 0 ((lg_sl ([.ref (b + j)]) ++ List.replicate (1 - (lg_sl ([.ref (b + j)])).length) Slot.unset).toArray) [] := by rw [hargs]; exact lg_entry_eq m ([.ref (b + j)]) 1
  rw [hent]
  generalize (lg_sl ([.ref (b + j)]) ++ List.replicate (1 - (lg_sl ([.ref (b + j)])).length) Slot.unset).toArray = ls at hl ⊢
  have hl : lv_has ls 1 [(0, .ref (b + j))] := hl
  obtain ⟨lt1, cd2, lt3, cd4, lt5, cd6⟩ := nx_ring j lt_j cd_j
  refine lv_aload_n hx hb dX6_listen_0 rfl (lv_at hl 0 rfl) ?_
  refine lv_aload_n hx hb dX6_listen_1 rfl (lv_at hl 0 rfl) ?_
  refine w_getr (j2 := (j + 3)) hx hb hts (z_memU u6) hown hK.1 hS f6_5 lt_j (zkd_of cd_j rfl) (zrf_of cd_j rfl) (Or.inl (hts _ (z_mem k109))) dX6_listen_2 ?_
  refine lv_aload_n hx hb dX6_listen_5 rfl (lv_at hl 0 rfl) ?_
  refine w_getr (j2 := (j + 1)) hx hb hts (z_memU u6) hown hK.1 hS f6_0 lt_j (zkd_of cd_j rfl) (zrf_of cd_j rfl) (Or.inl (hts _ (z_mem k93))) dX6_listen_6 ?_
  refine w_geti hx hb hts (z_memU u8) hown hK.1 hS f8_1 lt1 (zkd_of cd2 rfl) (Or.inl (hts _ (z_mem k45))) dX6_listen_9 ?_
  refine w_callv (va_runV (As := [.ref (b + (j + 3)), .int (iI (M (j + 1) 1))]) (rest := []) ⟨hx, hb, hml, hown, hts⟩ (cC_Ring_fillUnder l D dA b M j (j + 3) (M (j + 1) 1) lt_j cd_j lt5 (zkd_of cd6 rfl) (Nat.lt_of_le_of_lt (Nat.le_of_eq (zln_of cd6 rfl)) (by decide)) _ h) (cwV 2 hts (z_gV k398 k399 k400 k6 k401) rfl rfl rfl dm_X6_fillUnder ⟨Nat.le_of_ble_eq_true rfl, Nat.le_of_ble_eq_true rfl⟩) ⟨wPre_blind, (w_recv hS hK.1 lt_j (zkd_of cd_j rfl) (by decide) (rfl : vwCl[6]? = some (RX6, TX6, 6))), w_pre hS hK⟩ rfl rfl hl.1 rfl (lv_room (Nat.le_of_ble_eq_true rfl)) dX6_listen_12 ⟨Nat.le_refl _, Nat.le_refl _⟩) hS0 (fun M7 H locs h hS hS0 => ?_)
  exact w_vret hx hb hr hlocks hS hS0 h dX6_listen_15

set_option maxRecDepth 100000 in
def wC_Ring_begin (j : Nat) (a0 : Nat) (a1 : Int) (a2 : Int) (M : zM) (Q : zM → Prop) : Prop := wC_Strip_copy (j + 1) a0 M (fun M9 => (∀ M10 : zM, M10 = zup M9 j 1 a1 → (∀ M12 : zM, M12 = zup M10 j 2 a2 → (∀ M14 : zM, M14 = zup M12 j 3 1 → (∀ M16 : zM, M16 = zup M14 j 4 0 → wC_Ring_listen j M16 (fun M18 => Q M18))))))
set_option maxHeartbeats 4000000 in
set_option maxRecDepth 100000 in
theorem cC_Ring_begin (l : Launch) (D : va_G) (dA : Nat → ClassId) (b : Nat) (M : zM) (j : Nat) (a0 : Nat) (a1 : Int) (a2 : Int) (lt_j : j < nC) (cd_j : zcd wC j = 14) (lt_a0 : a0 < nC) (cd_a0 : zcd wC a0 = 6) (Q : zM → Prop) (h : wC_Ring_begin j a0 a1 a2 M Q) : Met l yX6_begin (.code yX6_begin cX6_begin 4 none :: zt) (z_rm 4) (va_Pc [.ref (b + j), .ref (b + a0), .int (iI a1), .int (iI a2)] (wPre D dA vwCl (z_tys dA) wC nC b M)) (va_Qv (wQv Q) (zB D dA vwCl wC nC b) (zA nC b)) 0 0 (zA nC b) := by
  unfold wC_Ring_begin at h
  refine Met.ofW (cc := cX6_begin) (maxL := 4) (ret := none) (by decide) rfl ?_
  intro p e s m args below meth c s₁ B hml hv
  obtain ⟨hargs, hS, hK⟩ := hv
  have hx := B.exec
  have hb := B.bytes
  have hr := B.returns
  have hts := atoms_spec (ws := .code yX6_begin cX6_begin 4 none :: zt) B.pre
  have hown : s.vm.findClass RX6 = some m.cls := findClass_of_methodNamed B.named
  have hlocks := B.notSynchronized
  have hS0 : va_S (zA nC b) s.heap s.heap [] := va_S.rf
  have hl := lv_entry ([.ref (b + j), .ref (b + a0), .int (iI a1), .int (iI a2)]) (n := 4) (Nat.le_of_ble_eq_true rfl)
  have hent : entryFrame m args 4 = F0 m 0 ((lg_sl ([.ref (b + j), .ref (b + a0), .int (iI a1), .int (iI a2)]) ++ List.replicate (4 - (lg_sl ([.ref (b + j), .ref (b + a0), .int (iI a1), .int (iI a2)])).length) Slot.unset).toArray) [] := by rw [hargs]; exact lg_entry_eq m ([.ref (b + j), .ref (b + a0), .int (iI a1), .int (iI a2)]) 4
  rw [hent]
  generalize (lg_sl ([.ref (b + j), .ref (b + a0), .int (iI a1), .int (iI a2)]) ++ List.replicate (4 - (lg_sl ([.ref (b + j), .ref (b + a0), .int (iI a1), .int (iI a2)])).length) Slot.unset).toArray = ls at hl ⊢
  have hl : lv_has ls 4 [(0, .ref (b + j)), (1, .ref (b + a0)), (2, .int (iI a1)), (3, .int (iI a2))] := hl
  obtain ⟨lt1, cd2, lt3, cd4, lt5, cd6⟩ := nx_ring j lt_j cd_j
  obtain ⟨lt7, cd8⟩ := nx_strip a0 lt_a0 cd_a0
  refine lv_aload_n hx hb dX6_begin_0 rfl (lv_at hl 0 rfl) ?_
  refine w_getr (j2 := (j + 1)) hx hb hts (z_memU u6) hown hK.1 hS f6_0 lt_j (zkd_of cd_j rfl) (zrf_of cd_j rfl) (Or.inl (hts _ (z_mem k93))) dX6_begin_1 ?_
  refine lv_aload_n hx hb dX6_begin_4 rfl (lv_at hl 1 rfl) ?_
  refine w_callv (va_runV (As := [.ref (b + a0)]) (rest := []) ⟨hx, hb, hml, hown, hts⟩ (cC_Strip_copy l D dA b M (j + 1) a0 lt1 cd2 lt_a0 cd_a0 _ h) (cwV 1 hts (z_gV k394 k361 k362 k3 k363) rfl rfl rfl dm_X8_copy ⟨Nat.le_of_ble_eq_true rfl, Nat.le_of_ble_eq_true rfl⟩) ⟨wPre_blind, (w_recv hS hK.1 lt1 (zkd_of cd2 rfl) (by decide) (rfl : vwCl[8]? = some (RX8, TX8, 2))), w_pre hS hK⟩ rfl rfl hl.1 rfl (lv_room (Nat.le_of_ble_eq_true rfl)) dX6_begin_5 ⟨Nat.le_refl _, Nat.le_refl _⟩) hS0 (fun M9 H locs h hS hS0 => ?_)
  refine lv_aload_n hx hb dX6_begin_8 rfl (lv_at hl 0 rfl) ?_
  refine lv_iload_n hx hb dX6_begin_9 rfl (lv_at hl 2 rfl) ?_
  refine w_puti hx hb hts (z_memU u6) tyX6 tyX6_ok nmX6 hown hK.1 hS hS0 f6_1 lt_j (zkd_of cd_j rfl) (Or.inl (hts _ (z_mem k97))) rfl (z := a1) (by decide +kernel) dX6_begin_10 (fun H locs hS hS0 => ?_)
  obtain ⟨M10, e11⟩ : ∃ M10 : zM, M10 = zup M9 j 1 a1 := ⟨_, rfl⟩
  rw [← e11] at hS
  have h := h M10 e11
  refine lv_aload_n hx hb dX6_begin_13 rfl (lv_at hl 0 rfl) ?_
  refine lv_iload_n hx hb dX6_begin_14 rfl (lv_at hl 3 rfl) ?_
  refine w_puti hx hb hts (z_memU u6) tyX6 tyX6_ok nmX6 hown hK.1 hS hS0 f6_2 lt_j (zkd_of cd_j rfl) (Or.inl (hts _ (z_mem k101))) rfl (z := a2) (by decide +kernel) dX6_begin_15 (fun H locs hS hS0 => ?_)
  obtain ⟨M12, e13⟩ : ∃ M12 : zM, M12 = zup M10 j 2 a2 := ⟨_, rfl⟩
  rw [← e13] at hS
  have h := h M12 e13
  refine lv_aload_n hx hb dX6_begin_18 rfl (lv_at hl 0 rfl) ?_
  refine z_iconst hx hb dX6_begin_19 ?_
  refine w_puti hx hb hts (z_memU u6) tyX6 tyX6_ok nmX6 hown hK.1 hS hS0 f6_3 lt_j (zkd_of cd_j rfl) (Or.inl (hts _ (z_mem k104))) rfl (z := 1) (by decide +kernel) dX6_begin_20 (fun H locs hS hS0 => ?_)
  obtain ⟨M14, e15⟩ : ∃ M14 : zM, M14 = zup M12 j 3 1 := ⟨_, rfl⟩
  rw [← e15] at hS
  have h := h M14 e15
  refine lv_aload_n hx hb dX6_begin_23 rfl (lv_at hl 0 rfl) ?_
  refine z_iconst hx hb dX6_begin_24 ?_
  refine w_puti hx hb hts (z_memU u6) tyX6 tyX6_ok nmX6 hown hK.1 hS hS0 f6_4 lt_j (zkd_of cd_j rfl) (Or.inl (hts _ (z_mem k106))) rfl (z := 0) (by decide +kernel) dX6_begin_25 (fun H locs hS hS0 => ?_)
  obtain ⟨M16, e17⟩ : ∃ M16 : zM, M16 = zup M14 j 4 0 := ⟨_, rfl⟩
  rw [← e17] at hS
  have h := h M16 e17
  refine lv_aload_n hx hb dX6_begin_28 rfl (lv_at hl 0 rfl) ?_
  refine w_callv (va_runV (As := []) (rest := []) ⟨hx, hb, hml, hown, hts⟩ (cC_Ring_listen l D dA b M16 j lt_j cd_j _ h) (cwV 0 hts (z_gV k395 k396 k1363 k6 k397) rfl rfl rfl dm_X6_listen ⟨Nat.le_of_ble_eq_true rfl, Nat.le_of_ble_eq_true rfl⟩) ⟨wPre_blind, (w_recv hS hK.1 lt_j (zkd_of cd_j rfl) (by decide) (rfl : vwCl[6]? = some (RX6, TX6, 6))), w_pre hS hK⟩ rfl rfl hl.1 rfl (lv_room (Nat.le_of_ble_eq_true rfl)) dX6_begin_29 ⟨Nat.le_refl _, Nat.le_refl _⟩) hS0 (fun M18 H locs h hS hS0 => ?_)
  exact w_vret hx hb hr hlocks hS hS0 h dX6_begin_32

set_option maxRecDepth 100000 in
def wC_Studio_add (a0 : Nat) (a1 : Int) (a2 : Int) (M : zM) (Q : Int → zM → Prop) : Prop := ((sI (M 32 2)) < 4 → ((0 ≤ (sI (M 32 2)) ∧ (sI (M 32 2)) < 4) ∧ wC_Ring_begin (41 + 4 * (sI (M 32 2)).toNat) a0 a1 a2 M (fun M13 => (∀ M14 : zM, M14 = zup M13 32 2 ((M13 32 2) + 1) → Q (sI ((M14 32 2) - 1)) M14)))) ∧ (4 ≤ (sI (M 32 2)) → Q (-1) M)
set_option maxHeartbeats 4000000 in
set_option maxRecDepth 100000 in
theorem cC_Studio_add (l : Launch) (D : va_G) (dA : Nat → ClassId) (b : Nat) (M : zM) (a0 : Nat) (a1 : Int) (a2 : Int) (lt_a0 : a0 < nC) (cd_a0 : zcd wC a0 = 6) (Q : Int → zM → Prop) (h : wC_Studio_add a0 a1 a2 M Q) : Met l yX9_add (.code yX9_add cX9_add 4 (some .int) :: zt) (z_rm 5) (va_Pc [.ref (b + 32), .ref (b + a0), .int (iI a1), .int (iI a2)] (wPre D dA vwCl (z_tys dA) wC nC b M)) (va_Qi (wQi Q) (zB D dA vwCl wC nC b) (zA nC b)) 0 0 (zA nC b) := by
  unfold wC_Studio_add at h
  refine Met.ofW (cc := cX9_add) (maxL := 4) (ret := (some .int)) (by decide) rfl ?_
  intro p e s m args below meth c s₁ B hml hv
  obtain ⟨hargs, hS, hK⟩ := hv
  have hx := B.exec
  have hb := B.bytes
  have hr := B.returns
  have hts := atoms_spec (ws := .code yX9_add cX9_add 4 (some .int) :: zt) B.pre
  have hown : s.vm.findClass RX9 = some m.cls := findClass_of_methodNamed B.named
  have hlocks := B.notSynchronized
  have hS0 : va_S (zA nC b) s.heap s.heap [] := va_S.rf
  have hl := lv_entry ([.ref (b + 32), .ref (b + a0), .int (iI a1), .int (iI a2)]) (n := 4) (Nat.le_of_ble_eq_true rfl)
  have hent : entryFrame m args 4 = F0 m 0 ((lg_sl ([.ref (b + 32), .ref (b + a0), .int (iI a1), .int (iI a2)]) ++ List.replicate (4 - (lg_sl ([.ref (b + 32), .ref (b + a0), .int (iI a1), .int (iI a2)])).length) Slot.unset).toArray) [] := by rw [hargs]; exact lg_entry_eq m ([.ref (b + 32), .ref (b + a0), .int (iI a1), .int (iI a2)]) 4
  rw [hent]
  generalize (lg_sl ([.ref (b + 32), .ref (b + a0), .int (iI a1), .int (iI a2)]) ++ List.replicate (4 - (lg_sl ([.ref (b + 32), .ref (b + a0), .int (iI a1), .int (iI a2)])).length) Slot.unset).toArray = ls at hl ⊢
  have hl : lv_has ls 4 [(0, .ref (b + 32)), (1, .ref (b + a0)), (2, .int (iI a1)), (3, .int (iI a2))] := hl
  obtain ⟨lt1, cd2⟩ := nx_strip a0 lt_a0 cd_a0
  refine lv_aload_n hx hb dX9_add_0 rfl (lv_at hl 0 rfl) ?_
  refine w_geti hx hb hts (z_memU u9) hown hK.1 hS f9_2 (by decide) (zkd_of (rfl : zcd wC 32 = 8) rfl) (Or.inl (hts _ (z_mem k118))) dX9_add_1 ?_
  refine z_iconst hx hb dX9_add_4 ?_
  refine w_icmp_lt (tgt := 10) hx hb rfl (sI_of (by decide)) dX9_add_5 (by decide) (fun c3 => ?_) (fun c3 => ?_)
  · skip
    have h := h.1 c3
    refine lv_aload_n hx hb dX9_add_10 rfl (lv_at hl 0 rfl) ?_
    refine w_getr (j2 := 34) hx hb hts (z_memU u9) hown hK.1 hS f9_1 (by decide) (zkd_of (rfl : zcd wC 32 = 8) rfl) (zrf_of (rfl : zcd wC 32 = 8) rfl) (Or.inl (hts _ (z_mem k117))) dX9_add_11 ?_
    refine lv_aload_n hx hb dX9_add_14 rfl (lv_at hl 0 rfl) ?_
    refine w_geti hx hb hts (z_memU u9) hown hK.1 hS f9_2 (by decide) (zkd_of (rfl : zcd wC 32 = 8) rfl) (Or.inl (hts _ (z_mem k118))) dX9_add_15 ?_
    obtain ⟨o4, h⟩ := h
    refine w_aald (n := 4) (i := (sI (M 32 2))) (j2 := (41 + 4 * (sI (M 32 2)).toNat)) hx hb hK.1 (t0 := 6) (r := 6) (by decide) rfl rfl hS (by decide) (zkd_of (rfl : zcd wC 34 = 10) rfl) (zln_of (rfl : zcd wC 34 = 10) rfl) rfl o4.1 o4.2 (by decide) (zrf_of (rfl : zcd wC 34 = 10) rfl) dX9_add_18 ?_
    obtain ⟨lt5, cd6⟩ : (41 + 4 * (sI (M 32 2)).toNat) < nC ∧ zcd wC (41 + 4 * (sI (M 32 2)).toNat) = 14 := (by decide : ∀ k : Nat, k < 4 → (41 + 4 * k) < nC ∧ zcd wC (41 + 4 * k) = 14) (sI (M 32 2)).toNat (by clear h; have h0 := o4.1; have h1 := o4.2; omega)
    obtain ⟨lt7, cd8, lt9, cd10, lt11, cd12⟩ := nx_ring (41 + 4 * (sI (M 32 2)).toNat) lt5 cd6
    refine lv_aload_n hx hb dX9_add_19 rfl (lv_at hl 1 rfl) ?_
    refine lv_iload_n hx hb dX9_add_20 rfl (lv_at hl 2 rfl) ?_
    refine lv_iload_n hx hb dX9_add_21 rfl (lv_at hl 3 rfl) ?_
    refine w_callv (va_runV (As := [.ref (b + a0), .int (iI a1), .int (iI a2)]) (rest := []) ⟨hx, hb, hml, hown, hts⟩ (cC_Ring_begin l D dA b M (41 + 4 * (sI (M 32 2)).toNat) a0 a1 a2 lt5 cd6 lt_a0 cd_a0 _ h) (cwV 3 hts (z_gV k390 k391 k392 k6 k393) rfl rfl rfl dm_X6_begin ⟨Nat.le_of_ble_eq_true rfl, Nat.le_of_ble_eq_true rfl⟩) ⟨wPre_blind, (w_recv hS hK.1 lt5 (zkd_of cd6 rfl) (by decide) (rfl : vwCl[6]? = some (RX6, TX6, 6))), w_pre hS hK⟩ rfl rfl hl.1 rfl (lv_room (Nat.le_of_ble_eq_true rfl)) dX9_add_22 ⟨Nat.le_refl _, Nat.le_refl _⟩) hS0 (fun M13 H locs h hS hS0 => ?_)
    refine lv_aload_n hx hb dX9_add_25 rfl (lv_at hl 0 rfl) ?_
    refine lv_dup hx hb dX9_add_26 rfl ?_
    refine w_geti hx hb hts (z_memU u9) hown hK.1 hS f9_2 (by decide) (zkd_of (rfl : zcd wC 32 = 8) rfl) (Or.inl (hts _ (z_mem k118))) dX9_add_27 ?_
    refine z_iconst hx hb dX9_add_30 ?_
    refine z_iadd hx hb dX9_add_31 ?_
    refine w_puti hx hb hts (z_memU u9) tyX9 tyX9_ok nmX9 hown hK.1 hS hS0 f9_2 (by decide) (zkd_of (rfl : zcd wC 32 = 8) rfl) (Or.inl (hts _ (z_mem k118))) rfl (z := ((M13 32 2) + 1)) (by decide +kernel) dX9_add_32 (fun H locs hS hS0 => ?_)
    obtain ⟨M14, e15⟩ : ∃ M14 : zM, M14 = zup M13 32 2 ((M13 32 2) + 1) := ⟨_, rfl⟩
    rw [← e15] at hS
    have h := h M14 e15
    refine lv_aload_n hx hb dX9_add_35 rfl (lv_at hl 0 rfl) ?_
    refine w_geti hx hb hts (z_memU u9) hown hK.1 hS f9_2 (by decide) (zkd_of (rfl : zcd wC 32 = 8) rfl) (Or.inl (hts _ (z_mem k118))) dX9_add_36 ?_
    refine z_iconst hx hb dX9_add_39 ?_
    refine z_isub hx hb dX9_add_40 ?_
    exact w_iret hx hb hr hlocks hS hS0 rfl h dX9_add_41
  · skip
    have h := h.2 c3
    refine z_iconst hx hb dX9_add_8 ?_
    exact w_iret hx hb hr hlocks hS hS0 (sI_of (by decide)) h dX9_add_9

set_option maxRecDepth 100000 in
def wC_ring (a0 : Int) (a1 : Int) (M : zM) (Q : Int → zM → Prop) : Prop := wC_isMotor a0 M (fun z2 => (z2 = 0 → Q (-1) M) ∧ (z2 ≠ 0 → wC_Strip_has 30 a1 M (fun z7 => (z7 ≠ 0 → wC_Studio_add 30 a0 a1 M (fun z12 M11 => Q z12 M11)) ∧ (z7 = 0 → Q (-1) M))))
set_option maxHeartbeats 4000000 in
set_option maxRecDepth 100000 in
theorem cC_ring (l : Launch) (D : va_G) (dA : Nat → ClassId) (b : Nat) (M : zM) (a0 : Int) (a1 : Int)  (Q : Int → zM → Prop) (h : wC_ring a0 a1 M Q) : Met l yX11_ring (.code yX11_ring cX11_ring 3 (some .int) :: zt) (z_rm 6) (va_Pc [.ref (b + 0), .int (iI a0), .int (iI a1)] (wPre D dA vwCl (z_tys dA) wC nC b M)) (va_Qi (wQi Q) (zB D dA vwCl wC nC b) (zA nC b)) 0 0 (zA nC b) := by
  unfold wC_ring at h
  refine Met.ofW (cc := cX11_ring) (maxL := 3) (ret := (some .int)) (by decide) rfl ?_
  intro p e s m args below meth c s₁ B hml hv
  obtain ⟨hargs, hS, hK⟩ := hv
  have hx := B.exec
  have hb := B.bytes
  have hr := B.returns
  have hts := atoms_spec (ws := .code yX11_ring cX11_ring 3 (some .int) :: zt) B.pre
  have hown : s.vm.findClass RX11 = some m.cls := findClass_of_methodNamed B.named
  have hlocks := B.notSynchronized
  have hS0 : va_S (zA nC b) s.heap s.heap [] := va_S.rf
  have hl := lv_entry ([.ref (b + 0), .int (iI a0), .int (iI a1)]) (n := 3) (Nat.le_of_ble_eq_true rfl)
  have hent : entryFrame m args 3 = F0 m 0 ((lg_sl ([.ref (b + 0), .int (iI a0), .int (iI a1)]) ++ List.replicate (3 - (lg_sl ([.ref (b + 0), .int (iI a0), .int (iI a1)])).length) Slot.unset).toArray) [] := by rw [hargs]; exact lg_entry_eq m ([.ref (b + 0), .int (iI a0), .int (iI a1)]) 3
  rw [hent]
  generalize (lg_sl ([.ref (b + 0), .int (iI a0), .int (iI a1)]) ++ List.replicate (3 - (lg_sl ([.ref (b + 0), .int (iI a0), .int (iI a1)])).length) Slot.unset).toArray = ls at hl ⊢
  have hl : lv_has ls 3 [(0, .ref (b + 0)), (1, .int (iI a0)), (2, .int (iI a1))] := hl
  refine lv_iload_n hx hb dX11_ring_0 rfl (lv_at hl 1 rfl) ?_
  refine w_callz (va_runS (As := [.int (iI a0)]) (rest := []) ⟨hx, hb, hml, hown, hts⟩ (cC_isMotor l D dA b M a0 _ h) (va_cwS 1 hts (z_gS k379 k380 k1 k381) rfl rfl rfl dm_X11_isMotor.2 ⟨Nat.le_of_ble_eq_true rfl, Nat.le_of_ble_eq_true rfl⟩) ⟨wPre_blind, w_pre hS hK⟩ rfl rfl hl.1 rfl (lv_room (Nat.le_of_ble_eq_true rfl)) dX11_ring_1 ⟨Nat.le_refl _, Nat.le_refl _⟩) hS0 (fun z2 M1 H locs r3 h hS hS0 => ?_)
  obtain ⟨e4, h⟩ := h
  rw [e4] at hS
  refine w_if_eq (tgt := 18) hx hb (sI_01 r3) dX11_ring_4 (by decide) (fun c5 => ?_) (fun c5 => ?_)
  · skip
    have h := h.1 c5
    refine z_iconst hx hb dX11_ring_18 ?_
    exact w_iret hx hb hr hlocks hS hS0 (sI_of (by decide)) h dX11_ring_19
  · skip
    have h := h.2 c5
    refine lv_aload_n hx hb dX11_ring_7 rfl (lv_at hl 0 rfl) ?_
    refine w_getr (j2 := 30) hx hb hts (z_memU u11) hown hK.1 hS f11_1 (by decide) (zkd_of (rfl : zcd wC 0 = 0) rfl) (zrf_of (rfl : zcd wC 0 = 0) rfl) (Or.inl (hts _ (z_mem k243))) dX11_ring_8 ?_
    refine lv_iload_n hx hb dX11_ring_11 rfl (lv_at hl 2 rfl) ?_
    refine w_callz (va_runV (As := [.int (iI a1)]) (rest := []) ⟨hx, hb, hml, hown, hts⟩ (cC_Strip_has l D dA b M 30 a1 (by decide) (rfl : zcd wC 30 = 6) _ h) (cwV 1 hts (z_gV k385 k327 k328 k3 k329) rfl rfl rfl dm_X8_has ⟨Nat.le_of_ble_eq_true rfl, Nat.le_of_ble_eq_true rfl⟩) ⟨wPre_blind, (w_recv hS hK.1 (by decide) (zkd_of (rfl : zcd wC 30 = 6) rfl) (by decide) (rfl : vwCl[8]? = some (RX8, TX8, 2))), w_pre hS hK⟩ rfl rfl hl.1 rfl (lv_room (Nat.le_of_ble_eq_true rfl)) dX11_ring_12 ⟨Nat.le_refl _, Nat.le_refl _⟩) hS0 (fun z7 M6 H locs r8 h hS hS0 => ?_)
    obtain ⟨e9, h⟩ := h
    rw [e9] at hS
    refine w_if_ne (tgt := 20) hx hb (sI_01 r8) dX11_ring_15 (by decide) (fun c10 => ?_) (fun c10 => ?_)
    · skip
      have h := h.1 c10
      refine lv_aload_n hx hb dX11_ring_20 rfl (lv_at hl 0 rfl) ?_
      refine w_getr (j2 := 32) hx hb hts (z_memU u11) hown hK.1 hS f11_2 (by decide) (zkd_of (rfl : zcd wC 0 = 0) rfl) (zrf_of (rfl : zcd wC 0 = 0) rfl) (Or.inl (hts _ (z_mem k244))) dX11_ring_21 ?_
      refine lv_aload_n hx hb dX11_ring_24 rfl (lv_at hl 0 rfl) ?_
      refine w_getr (j2 := 30) hx hb hts (z_memU u11) hown hK.1 hS f11_1 (by decide) (zkd_of (rfl : zcd wC 0 = 0) rfl) (zrf_of (rfl : zcd wC 0 = 0) rfl) (Or.inl (hts _ (z_mem k243))) dX11_ring_25 ?_
      refine lv_iload_n hx hb dX11_ring_28 rfl (lv_at hl 1 rfl) ?_
      refine lv_iload_n hx hb dX11_ring_29 rfl (lv_at hl 2 rfl) ?_
      refine w_calli (va_runV (As := [.ref (b + 30), .int (iI a0), .int (iI a1)]) (rest := []) ⟨hx, hb, hml, hown, hts⟩ (cC_Studio_add l D dA b M 30 a0 a1 (by decide) (rfl : zcd wC 30 = 6) _ h) (cwV 3 hts (z_gV k386 k387 k388 k4 k389) rfl rfl rfl dm_X9_add ⟨Nat.le_of_ble_eq_true rfl, Nat.le_of_ble_eq_true rfl⟩) ⟨wPre_blind, (w_recv hS hK.1 (by decide) (zkd_of (rfl : zcd wC 32 = 8) rfl) (by decide) (rfl : vwCl[9]? = some (RX9, TX9, 3))), w_pre hS hK⟩ rfl rfl hl.1 rfl (lv_room (Nat.le_of_ble_eq_true rfl)) dX11_ring_30 ⟨Nat.le_refl _, Nat.le_refl _⟩) hS0 (fun z12 M11 H locs r13 h hS hS0 => ?_)
      exact w_iret hx hb hr hlocks hS hS0 (sI_of r13) h dX11_ring_33
    · skip
      have h := h.2 c10
      refine z_iconst hx hb dX11_ring_18 ?_
      exact w_iret hx hb hr hlocks hS hS0 (sI_of (by decide)) h dX11_ring_19
end zz10_w02
section zz10_w03
/-! the W layer, 3 -/
theorem q10w03_0_0 : (cJ6_bitCount_0f7a4.data.toList.drop 0).take 24 = [26, 26, 4, 124, 19, 1, 9, 126, 100, 59, 26, 19, 1, 10, 126, 26, 5, 124, 19, 1, 10, 126, 96, 59] := by decide +kernel
theorem q10w03_0_24 : (cJ6_bitCount_0f7a4.data.toList.drop 24).take 24 = [26, 26, 7, 124, 96, 19, 1, 11, 126, 59, 26, 26, 16, 8, 124, 96, 59, 26, 26, 16, 16, 124, 96, 59] := by decide +kernel
theorem q10w03_0_48 : (cJ6_bitCount_0f7a4.data.toList.drop 48).take 5 = [26, 16, 63, 126, 172] := by decide +kernel
theorem dJ6_bitCount_0f7a4_0 : decode cJ6_bitCount_0f7a4 0 = .ok (.iload_n 0, 1) := dz_26 (dz_at q10w03_0_0 0)
theorem dJ6_bitCount_0f7a4_1 : decode cJ6_bitCount_0f7a4 1 = .ok (.iload_n 0, 1) := dz_26 (dz_at q10w03_0_0 1)
theorem dJ6_bitCount_0f7a4_10 : decode cJ6_bitCount_0f7a4 10 = .ok (.iload_n 0, 1) := dz_26 (dz_at q10w03_0_0 10)
theorem dJ6_bitCount_0f7a4_11 : decode cJ6_bitCount_0f7a4 11 = .ok (.ldc_w 266, 3) := dz_19 (dz_at q10w03_0_0 11) rfl
theorem dJ6_bitCount_0f7a4_14 : decode cJ6_bitCount_0f7a4 14 = .ok (.iand, 1) := dz_126 (dz_at q10w03_0_0 14)
theorem dJ6_bitCount_0f7a4_15 : decode cJ6_bitCount_0f7a4 15 = .ok (.iload_n 0, 1) := dz_26 (dz_at q10w03_0_0 15)
theorem dJ6_bitCount_0f7a4_16 : decode cJ6_bitCount_0f7a4 16 = .ok (.iconst 2, 1) := dz_5 (dz_at q10w03_0_0 16)
theorem dJ6_bitCount_0f7a4_17 : decode cJ6_bitCount_0f7a4 17 = .ok (.iushr, 1) := dz_124 (dz_at q10w03_0_0 17)
theorem dJ6_bitCount_0f7a4_18 : decode cJ6_bitCount_0f7a4 18 = .ok (.ldc_w 266, 3) := dz_19 (dz_at q10w03_0_0 18) rfl
theorem dJ6_bitCount_0f7a4_2 : decode cJ6_bitCount_0f7a4 2 = .ok (.iconst 1, 1) := dz_4 (dz_at q10w03_0_0 2)
theorem dJ6_bitCount_0f7a4_21 : decode cJ6_bitCount_0f7a4 21 = .ok (.iand, 1) := dz_126 (dz_at q10w03_0_0 21)
theorem dJ6_bitCount_0f7a4_22 : decode cJ6_bitCount_0f7a4 22 = .ok (.iadd, 1) := dz_96 (dz_at q10w03_0_0 22)
theorem dJ6_bitCount_0f7a4_23 : decode cJ6_bitCount_0f7a4 23 = .ok (.istore_n 0, 1) := dz_59 (dz_at q10w03_0_0 23)
theorem dJ6_bitCount_0f7a4_24 : decode cJ6_bitCount_0f7a4 24 = .ok (.iload_n 0, 1) := dz_26 (dz_at q10w03_0_24 0)
theorem dJ6_bitCount_0f7a4_25 : decode cJ6_bitCount_0f7a4 25 = .ok (.iload_n 0, 1) := dz_26 (dz_at q10w03_0_24 1)
theorem dJ6_bitCount_0f7a4_26 : decode cJ6_bitCount_0f7a4 26 = .ok (.iconst 4, 1) := dz_7 (dz_at q10w03_0_24 2)
theorem dJ6_bitCount_0f7a4_27 : decode cJ6_bitCount_0f7a4 27 = .ok (.iushr, 1) := dz_124 (dz_at q10w03_0_24 3)
theorem dJ6_bitCount_0f7a4_28 : decode cJ6_bitCount_0f7a4 28 = .ok (.iadd, 1) := dz_96 (dz_at q10w03_0_24 4)
theorem dJ6_bitCount_0f7a4_29 : decode cJ6_bitCount_0f7a4 29 = .ok (.ldc_w 267, 3) := dz_19 (dz_at q10w03_0_24 5) rfl
theorem dJ6_bitCount_0f7a4_3 : decode cJ6_bitCount_0f7a4 3 = .ok (.iushr, 1) := dz_124 (dz_at q10w03_0_0 3)
theorem dJ6_bitCount_0f7a4_32 : decode cJ6_bitCount_0f7a4 32 = .ok (.iand, 1) := dz_126 (dz_at q10w03_0_24 8)
theorem dJ6_bitCount_0f7a4_33 : decode cJ6_bitCount_0f7a4 33 = .ok (.istore_n 0, 1) := dz_59 (dz_at q10w03_0_24 9)
theorem dJ6_bitCount_0f7a4_34 : decode cJ6_bitCount_0f7a4 34 = .ok (.iload_n 0, 1) := dz_26 (dz_at q10w03_0_24 10)
theorem dJ6_bitCount_0f7a4_35 : decode cJ6_bitCount_0f7a4 35 = .ok (.iload_n 0, 1) := dz_26 (dz_at q10w03_0_24 11)
theorem dJ6_bitCount_0f7a4_36 : decode cJ6_bitCount_0f7a4 36 = .ok (.bipush 8, 2) := dz_16 (dz_at q10w03_0_24 12) (by decide +kernel)
theorem dJ6_bitCount_0f7a4_38 : decode cJ6_bitCount_0f7a4 38 = .ok (.iushr, 1) := dz_124 (dz_at q10w03_0_24 14)
theorem dJ6_bitCount_0f7a4_39 : decode cJ6_bitCount_0f7a4 39 = .ok (.iadd, 1) := dz_96 (dz_at q10w03_0_24 15)
theorem dJ6_bitCount_0f7a4_4 : decode cJ6_bitCount_0f7a4 4 = .ok (.ldc_w 265, 3) := dz_19 (dz_at q10w03_0_0 4) rfl
theorem dJ6_bitCount_0f7a4_40 : decode cJ6_bitCount_0f7a4 40 = .ok (.istore_n 0, 1) := dz_59 (dz_at q10w03_0_24 16)
theorem dJ6_bitCount_0f7a4_41 : decode cJ6_bitCount_0f7a4 41 = .ok (.iload_n 0, 1) := dz_26 (dz_at q10w03_0_24 17)
theorem dJ6_bitCount_0f7a4_42 : decode cJ6_bitCount_0f7a4 42 = .ok (.iload_n 0, 1) := dz_26 (dz_at q10w03_0_24 18)
theorem dJ6_bitCount_0f7a4_43 : decode cJ6_bitCount_0f7a4 43 = .ok (.bipush 16, 2) := dz_16 (dz_at q10w03_0_24 19) (by decide +kernel)
theorem dJ6_bitCount_0f7a4_45 : decode cJ6_bitCount_0f7a4 45 = .ok (.iushr, 1) := dz_124 (dz_at q10w03_0_24 21)
theorem dJ6_bitCount_0f7a4_46 : decode cJ6_bitCount_0f7a4 46 = .ok (.iadd, 1) := dz_96 (dz_at q10w03_0_24 22)
theorem dJ6_bitCount_0f7a4_47 : decode cJ6_bitCount_0f7a4 47 = .ok (.istore_n 0, 1) := dz_59 (dz_at q10w03_0_24 23)
theorem dJ6_bitCount_0f7a4_48 : decode cJ6_bitCount_0f7a4 48 = .ok (.iload_n 0, 1) := dz_26 (dz_at q10w03_0_48 0)
theorem dJ6_bitCount_0f7a4_49 : decode cJ6_bitCount_0f7a4 49 = .ok (.bipush 63, 2) := dz_16 (dz_at q10w03_0_48 1) (by decide +kernel)
theorem dJ6_bitCount_0f7a4_51 : decode cJ6_bitCount_0f7a4 51 = .ok (.iand, 1) := dz_126 (dz_at q10w03_0_48 3)
theorem dJ6_bitCount_0f7a4_52 : decode cJ6_bitCount_0f7a4 52 = .ok (.ireturn, 1) := dz_172 (dz_at q10w03_0_48 4)
theorem dJ6_bitCount_0f7a4_7 : decode cJ6_bitCount_0f7a4 7 = .ok (.iand, 1) := dz_126 (dz_at q10w03_0_0 7)
theorem dJ6_bitCount_0f7a4_8 : decode cJ6_bitCount_0f7a4 8 = .ok (.isub, 1) := dz_100 (dz_at q10w03_0_0 8)
theorem dJ6_bitCount_0f7a4_9 : decode cJ6_bitCount_0f7a4 9 = .ok (.istore_n 0, 1) := dz_59 (dz_at q10w03_0_0 9)
theorem q10w03_1_0 : (cX11_head.data.toList.drop 0).take 22 = [42, 180, 0, 26, 27, 182, 0, 104, 58, 4, 25, 4, 198, 0, 13, 28, 3, 16, 23, 184, 0, 113] := by decide +kernel
theorem q10w03_1_22 : (cX11_head.data.toList.drop 22).take 13 = [154, 0, 5, 2, 172, 25, 4, 28, 29, 182, 0, 130, 172] := by decide +kernel
theorem dX11_head_0 : decode cX11_head 0 = .ok (.aload_n 0, 1) := dz_42 (dz_at q10w03_1_0 0)
theorem dX11_head_1 : decode cX11_head 1 = .ok (.getfield 26, 3) := dz_180 (dz_at q10w03_1_0 1) rfl
theorem dX11_head_10 : decode cX11_head 10 = .ok (.aload 4, 2) := dz_25 (dz_at q10w03_1_0 10)
theorem dX11_head_12 : decode cX11_head 12 = .ok (.ifnull 13, 3) := dz_198 (dz_at q10w03_1_0 12) (by decide +kernel)
theorem dX11_head_15 : decode cX11_head 15 = .ok (.iload_n 2, 1) := dz_28 (dz_at q10w03_1_0 15)
theorem dX11_head_16 : decode cX11_head 16 = .ok (.iconst 0, 1) := dz_3 (dz_at q10w03_1_0 16)
theorem dX11_head_17 : decode cX11_head 17 = .ok (.bipush 23, 2) := dz_16 (dz_at q10w03_1_0 17) (by decide +kernel)
theorem dX11_head_19 : decode cX11_head 19 = .ok (.invokestatic 113, 3) := dz_184 (dz_at q10w03_1_0 19) rfl
theorem dX11_head_22 : decode cX11_head 22 = .ok (.ifCond .ne 5, 3) := dz_154 (dz_at q10w03_1_22 0) (by decide +kernel)
theorem dX11_head_25 : decode cX11_head 25 = .ok (.iconst (-1), 1) := dz_2 (dz_at q10w03_1_22 3)
theorem dX11_head_26 : decode cX11_head 26 = .ok (.ireturn, 1) := dz_172 (dz_at q10w03_1_22 4)
theorem dX11_head_27 : decode cX11_head 27 = .ok (.aload 4, 2) := dz_25 (dz_at q10w03_1_22 5)
theorem dX11_head_29 : decode cX11_head 29 = .ok (.iload_n 2, 1) := dz_28 (dz_at q10w03_1_22 7)
theorem dX11_head_30 : decode cX11_head 30 = .ok (.iload_n 3, 1) := dz_29 (dz_at q10w03_1_22 8)
theorem dX11_head_31 : decode cX11_head 31 = .ok (.invokevirtual 130, 3) := dz_182 (dz_at q10w03_1_22 9) rfl
theorem dX11_head_34 : decode cX11_head 34 = .ok (.ireturn, 1) := dz_172 (dz_at q10w03_1_22 12)
theorem dX11_head_4 : decode cX11_head 4 = .ok (.iload_n 1, 1) := dz_27 (dz_at q10w03_1_0 4)
theorem dX11_head_5 : decode cX11_head 5 = .ok (.invokevirtual 104, 3) := dz_182 (dz_at q10w03_1_0 5) rfl
theorem dX11_head_8 : decode cX11_head 8 = .ok (.astore 4, 2) := dz_58 (dz_at q10w03_1_0 8)
theorem q10w03_2_0 : (cX11_over.data.toList.drop 0).take 24 = [42, 180, 0, 26, 27, 182, 0, 104, 58, 4, 25, 4, 198, 0, 34, 25, 4, 180, 0, 108, 28, 182, 0, 98] := by decide +kernel
theorem q10w03_2_24 : (cX11_over.data.toList.drop 24).take 24 = [153, 0, 22, 29, 3, 4, 184, 0, 113, 153, 0, 13, 42, 180, 0, 19, 180, 0, 117, 154, 0, 5, 2, 172] := by decide +kernel
theorem q10w03_2_48 : (cX11_over.data.toList.drop 48).take 21 = [25, 4, 42, 180, 0, 19, 28, 29, 4, 160, 0, 7, 4, 167, 0, 4, 3, 182, 0, 120, 172] := by decide +kernel
theorem dX11_over_0 : decode cX11_over 0 = .ok (.aload_n 0, 1) := dz_42 (dz_at q10w03_2_0 0)
theorem dX11_over_1 : decode cX11_over 1 = .ok (.getfield 26, 3) := dz_180 (dz_at q10w03_2_0 1) rfl
theorem dX11_over_10 : decode cX11_over 10 = .ok (.aload 4, 2) := dz_25 (dz_at q10w03_2_0 10)
theorem dX11_over_12 : decode cX11_over 12 = .ok (.ifnull 34, 3) := dz_198 (dz_at q10w03_2_0 12) (by decide +kernel)
theorem dX11_over_15 : decode cX11_over 15 = .ok (.aload 4, 2) := dz_25 (dz_at q10w03_2_0 15)
theorem dX11_over_17 : decode cX11_over 17 = .ok (.getfield 108, 3) := dz_180 (dz_at q10w03_2_0 17) rfl
theorem dX11_over_20 : decode cX11_over 20 = .ok (.iload_n 2, 1) := dz_28 (dz_at q10w03_2_0 20)
theorem dX11_over_21 : decode cX11_over 21 = .ok (.invokevirtual 98, 3) := dz_182 (dz_at q10w03_2_0 21) rfl
theorem dX11_over_24 : decode cX11_over 24 = .ok (.ifCond .eq 22, 3) := dz_153 (dz_at q10w03_2_24 0) (by decide +kernel)
theorem dX11_over_27 : decode cX11_over 27 = .ok (.iload_n 3, 1) := dz_29 (dz_at q10w03_2_24 3)
theorem dX11_over_28 : decode cX11_over 28 = .ok (.iconst 0, 1) := dz_3 (dz_at q10w03_2_24 4)
theorem dX11_over_29 : decode cX11_over 29 = .ok (.iconst 1, 1) := dz_4 (dz_at q10w03_2_24 5)
theorem dX11_over_30 : decode cX11_over 30 = .ok (.invokestatic 113, 3) := dz_184 (dz_at q10w03_2_24 6) rfl
theorem dX11_over_33 : decode cX11_over 33 = .ok (.ifCond .eq 13, 3) := dz_153 (dz_at q10w03_2_24 9) (by decide +kernel)
theorem dX11_over_36 : decode cX11_over 36 = .ok (.aload_n 0, 1) := dz_42 (dz_at q10w03_2_24 12)
theorem dX11_over_37 : decode cX11_over 37 = .ok (.getfield 19, 3) := dz_180 (dz_at q10w03_2_24 13) rfl
theorem dX11_over_4 : decode cX11_over 4 = .ok (.iload_n 1, 1) := dz_27 (dz_at q10w03_2_0 4)
theorem dX11_over_40 : decode cX11_over 40 = .ok (.getfield 117, 3) := dz_180 (dz_at q10w03_2_24 16) rfl
theorem dX11_over_43 : decode cX11_over 43 = .ok (.ifCond .ne 5, 3) := dz_154 (dz_at q10w03_2_24 19) (by decide +kernel)
theorem dX11_over_46 : decode cX11_over 46 = .ok (.iconst (-1), 1) := dz_2 (dz_at q10w03_2_24 22)
theorem dX11_over_47 : decode cX11_over 47 = .ok (.ireturn, 1) := dz_172 (dz_at q10w03_2_24 23)
theorem dX11_over_48 : decode cX11_over 48 = .ok (.aload 4, 2) := dz_25 (dz_at q10w03_2_48 0)
theorem dX11_over_5 : decode cX11_over 5 = .ok (.invokevirtual 104, 3) := dz_182 (dz_at q10w03_2_0 5) rfl
theorem dX11_over_50 : decode cX11_over 50 = .ok (.aload_n 0, 1) := dz_42 (dz_at q10w03_2_48 2)
theorem dX11_over_51 : decode cX11_over 51 = .ok (.getfield 19, 3) := dz_180 (dz_at q10w03_2_48 3) rfl
theorem dX11_over_54 : decode cX11_over 54 = .ok (.iload_n 2, 1) := dz_28 (dz_at q10w03_2_48 6)
theorem dX11_over_55 : decode cX11_over 55 = .ok (.iload_n 3, 1) := dz_29 (dz_at q10w03_2_48 7)
theorem dX11_over_56 : decode cX11_over 56 = .ok (.iconst 1, 1) := dz_4 (dz_at q10w03_2_48 8)
theorem dX11_over_57 : decode cX11_over 57 = .ok (.if_icmp .ne 7, 3) := dz_160 (dz_at q10w03_2_48 9) (by decide +kernel)
theorem dX11_over_60 : decode cX11_over 60 = .ok (.iconst 1, 1) := dz_4 (dz_at q10w03_2_48 12)
theorem dX11_over_61 : decode cX11_over 61 = .ok (.goto 4, 3) := dz_167 (dz_at q10w03_2_48 13) (by decide +kernel)
theorem dX11_over_64 : decode cX11_over 64 = .ok (.iconst 0, 1) := dz_3 (dz_at q10w03_2_48 16)
theorem dX11_over_65 : decode cX11_over 65 = .ok (.invokevirtual 120, 3) := dz_182 (dz_at q10w03_2_48 17) rfl
theorem dX11_over_68 : decode cX11_over 68 = .ok (.ireturn, 1) := dz_172 (dz_at q10w03_2_48 20)
theorem dX11_over_8 : decode cX11_over 8 = .ok (.astore 4, 2) := dz_58 (dz_at q10w03_2_0 8)
theorem q10w03_3_0 : (cX11_set.data.toList.drop 0).take 24 = [42, 180, 0, 26, 27, 182, 0, 104, 58, 4, 25, 4, 199, 0, 5, 2, 172, 2, 54, 5, 28, 154, 0, 26] := by decide +kernel
theorem q10w03_3_24 : (cX11_set.data.toList.drop 24).take 24 = [29, 184, 0, 95, 153, 0, 19, 25, 4, 180, 0, 124, 54, 5, 25, 4, 29, 181, 0, 124, 167, 0, 33, 28] := by decide +kernel
theorem q10w03_3_48 : (cX11_set.data.toList.drop 48).take 23 = [4, 160, 0, 28, 25, 4, 180, 0, 108, 29, 182, 0, 98, 153, 0, 16, 25, 4, 180, 0, 127, 54, 5] := by decide +kernel
theorem q10w03_3_71 : (cX11_set.data.toList.drop 71).take 9 = [25, 4, 29, 181, 0, 127, 21, 5, 172] := by decide +kernel
theorem dX11_set_0 : decode cX11_set 0 = .ok (.aload_n 0, 1) := dz_42 (dz_at q10w03_3_0 0)
theorem dX11_set_1 : decode cX11_set 1 = .ok (.getfield 26, 3) := dz_180 (dz_at q10w03_3_0 1) rfl
theorem dX11_set_10 : decode cX11_set 10 = .ok (.aload 4, 2) := dz_25 (dz_at q10w03_3_0 10)
theorem dX11_set_12 : decode cX11_set 12 = .ok (.ifnonnull 5, 3) := dz_199 (dz_at q10w03_3_0 12) (by decide +kernel)
theorem dX11_set_15 : decode cX11_set 15 = .ok (.iconst (-1), 1) := dz_2 (dz_at q10w03_3_0 15)
theorem dX11_set_16 : decode cX11_set 16 = .ok (.ireturn, 1) := dz_172 (dz_at q10w03_3_0 16)
theorem dX11_set_17 : decode cX11_set 17 = .ok (.iconst (-1), 1) := dz_2 (dz_at q10w03_3_0 17)
theorem dX11_set_18 : decode cX11_set 18 = .ok (.istore 5, 2) := dz_54 (dz_at q10w03_3_0 18)
theorem dX11_set_20 : decode cX11_set 20 = .ok (.iload_n 2, 1) := dz_28 (dz_at q10w03_3_0 20)
theorem dX11_set_21 : decode cX11_set 21 = .ok (.ifCond .ne 26, 3) := dz_154 (dz_at q10w03_3_0 21) (by decide +kernel)
theorem dX11_set_24 : decode cX11_set 24 = .ok (.iload_n 3, 1) := dz_29 (dz_at q10w03_3_24 0)
theorem dX11_set_25 : decode cX11_set 25 = .ok (.invokestatic 95, 3) := dz_184 (dz_at q10w03_3_24 1) rfl
theorem dX11_set_28 : decode cX11_set 28 = .ok (.ifCond .eq 19, 3) := dz_153 (dz_at q10w03_3_24 4) (by decide +kernel)
theorem dX11_set_31 : decode cX11_set 31 = .ok (.aload 4, 2) := dz_25 (dz_at q10w03_3_24 7)
theorem dX11_set_33 : decode cX11_set 33 = .ok (.getfield 124, 3) := dz_180 (dz_at q10w03_3_24 9) rfl
theorem dX11_set_36 : decode cX11_set 36 = .ok (.istore 5, 2) := dz_54 (dz_at q10w03_3_24 12)
theorem dX11_set_38 : decode cX11_set 38 = .ok (.aload 4, 2) := dz_25 (dz_at q10w03_3_24 14)
theorem dX11_set_4 : decode cX11_set 4 = .ok (.iload_n 1, 1) := dz_27 (dz_at q10w03_3_0 4)
theorem dX11_set_40 : decode cX11_set 40 = .ok (.iload_n 3, 1) := dz_29 (dz_at q10w03_3_24 16)
theorem dX11_set_41 : decode cX11_set 41 = .ok (.putfield 124, 3) := dz_181 (dz_at q10w03_3_24 17) rfl
theorem dX11_set_44 : decode cX11_set 44 = .ok (.goto 33, 3) := dz_167 (dz_at q10w03_3_24 20) (by decide +kernel)
theorem dX11_set_47 : decode cX11_set 47 = .ok (.iload_n 2, 1) := dz_28 (dz_at q10w03_3_24 23)
theorem dX11_set_48 : decode cX11_set 48 = .ok (.iconst 1, 1) := dz_4 (dz_at q10w03_3_48 0)
theorem dX11_set_49 : decode cX11_set 49 = .ok (.if_icmp .ne 28, 3) := dz_160 (dz_at q10w03_3_48 1) (by decide +kernel)
theorem dX11_set_5 : decode cX11_set 5 = .ok (.invokevirtual 104, 3) := dz_182 (dz_at q10w03_3_0 5) rfl
theorem dX11_set_52 : decode cX11_set 52 = .ok (.aload 4, 2) := dz_25 (dz_at q10w03_3_48 4)
theorem dX11_set_54 : decode cX11_set 54 = .ok (.getfield 108, 3) := dz_180 (dz_at q10w03_3_48 6) rfl
theorem dX11_set_57 : decode cX11_set 57 = .ok (.iload_n 3, 1) := dz_29 (dz_at q10w03_3_48 9)
theorem dX11_set_58 : decode cX11_set 58 = .ok (.invokevirtual 98, 3) := dz_182 (dz_at q10w03_3_48 10) rfl
theorem dX11_set_61 : decode cX11_set 61 = .ok (.ifCond .eq 16, 3) := dz_153 (dz_at q10w03_3_48 13) (by decide +kernel)
theorem dX11_set_64 : decode cX11_set 64 = .ok (.aload 4, 2) := dz_25 (dz_at q10w03_3_48 16)
theorem dX11_set_66 : decode cX11_set 66 = .ok (.getfield 127, 3) := dz_180 (dz_at q10w03_3_48 18) rfl
theorem dX11_set_69 : decode cX11_set 69 = .ok (.istore 5, 2) := dz_54 (dz_at q10w03_3_48 21)
theorem dX11_set_71 : decode cX11_set 71 = .ok (.aload 4, 2) := dz_25 (dz_at q10w03_3_71 0)
theorem dX11_set_73 : decode cX11_set 73 = .ok (.iload_n 3, 1) := dz_29 (dz_at q10w03_3_71 2)
theorem dX11_set_74 : decode cX11_set 74 = .ok (.putfield 127, 3) := dz_181 (dz_at q10w03_3_71 3) rfl
theorem dX11_set_77 : decode cX11_set 77 = .ok (.iload 5, 2) := dz_21 (dz_at q10w03_3_71 6)
theorem dX11_set_79 : decode cX11_set 79 = .ok (.ireturn, 1) := dz_172 (dz_at q10w03_3_71 8)
theorem dX11_set_8 : decode cX11_set 8 = .ok (.astore 4, 2) := dz_58 (dz_at q10w03_3_0 8)
theorem q10w03_4_0 : (cX2_tell.data.toList.drop 0).take 23 = [3, 62, 29, 42, 180, 0, 18, 162, 0, 19, 42, 180, 0, 9, 29, 46, 27, 162, 0, 9, 132, 3, 1] := by decide +kernel
theorem q10w03_4_23 : (cX2_tell.data.toList.drop 23).take 22 = [167, 255, 235, 29, 42, 180, 0, 18, 162, 0, 22, 42, 180, 0, 9, 29, 46, 27, 160, 0, 12, 42] := by decide +kernel
theorem q10w03_4_45 : (cX2_tell.data.toList.drop 45).take 23 = [180, 0, 15, 29, 28, 79, 4, 172, 42, 180, 0, 18, 16, 12, 161, 0, 5, 3, 172, 42, 180, 0, 18] := by decide +kernel
theorem q10w03_4_68 : (cX2_tell.data.toList.drop 68).take 24 = [54, 4, 21, 4, 29, 164, 0, 41, 42, 180, 0, 9, 21, 4, 42, 180, 0, 9, 21, 4, 4, 100, 46, 79] := by decide +kernel
theorem q10w03_4_92 : (cX2_tell.data.toList.drop 92).take 23 = [42, 180, 0, 15, 21, 4, 42, 180, 0, 15, 21, 4, 4, 100, 46, 79, 132, 4, 255, 167, 255, 215, 42] := by decide +kernel
theorem q10w03_4_115 : (cX2_tell.data.toList.drop 115).take 24 = [180, 0, 9, 29, 27, 79, 42, 180, 0, 15, 29, 28, 79, 42, 89, 180, 0, 18, 4, 96, 181, 0, 18, 4] := by decide +kernel
theorem q10w03_4_139 : (cX2_tell.data.toList.drop 139).take 1 = [172] := by decide +kernel
theorem dX2_tell_0 : decode cX2_tell 0 = .ok (.iconst 0, 1) := dz_3 (dz_at q10w03_4_0 0)
theorem dX2_tell_1 : decode cX2_tell 1 = .ok (.istore_n 3, 1) := dz_62 (dz_at q10w03_4_0 1)
theorem dX2_tell_10 : decode cX2_tell 10 = .ok (.aload_n 0, 1) := dz_42 (dz_at q10w03_4_0 10)
theorem dX2_tell_102 : decode cX2_tell 102 = .ok (.iload 4, 2) := dz_21 (dz_at q10w03_4_92 10)
theorem dX2_tell_104 : decode cX2_tell 104 = .ok (.iconst 1, 1) := dz_4 (dz_at q10w03_4_92 12)
theorem dX2_tell_105 : decode cX2_tell 105 = .ok (.isub, 1) := dz_100 (dz_at q10w03_4_92 13)
theorem dX2_tell_106 : decode cX2_tell 106 = .ok (.iaload, 1) := dz_46 (dz_at q10w03_4_92 14)
theorem dX2_tell_107 : decode cX2_tell 107 = .ok (.iastore, 1) := dz_79 (dz_at q10w03_4_92 15)
theorem dX2_tell_108 : decode cX2_tell 108 = .ok (.iinc 4 (-1), 3) := dz_132 (dz_at q10w03_4_92 16) (by decide +kernel)
theorem dX2_tell_11 : decode cX2_tell 11 = .ok (.getfield 9, 3) := dz_180 (dz_at q10w03_4_0 11) rfl
theorem dX2_tell_111 : decode cX2_tell 111 = .ok (.goto (-41), 3) := dz_167 (dz_at q10w03_4_92 19) (by decide +kernel)
theorem dX2_tell_114 : decode cX2_tell 114 = .ok (.aload_n 0, 1) := dz_42 (dz_at q10w03_4_92 22)
theorem dX2_tell_115 : decode cX2_tell 115 = .ok (.getfield 9, 3) := dz_180 (dz_at q10w03_4_115 0) rfl
theorem dX2_tell_118 : decode cX2_tell 118 = .ok (.iload_n 3, 1) := dz_29 (dz_at q10w03_4_115 3)
theorem dX2_tell_119 : decode cX2_tell 119 = .ok (.iload_n 1, 1) := dz_27 (dz_at q10w03_4_115 4)
theorem dX2_tell_120 : decode cX2_tell 120 = .ok (.iastore, 1) := dz_79 (dz_at q10w03_4_115 5)
theorem dX2_tell_121 : decode cX2_tell 121 = .ok (.aload_n 0, 1) := dz_42 (dz_at q10w03_4_115 6)
theorem dX2_tell_122 : decode cX2_tell 122 = .ok (.getfield 15, 3) := dz_180 (dz_at q10w03_4_115 7) rfl
theorem dX2_tell_125 : decode cX2_tell 125 = .ok (.iload_n 3, 1) := dz_29 (dz_at q10w03_4_115 10)
theorem dX2_tell_126 : decode cX2_tell 126 = .ok (.iload_n 2, 1) := dz_28 (dz_at q10w03_4_115 11)
theorem dX2_tell_127 : decode cX2_tell 127 = .ok (.iastore, 1) := dz_79 (dz_at q10w03_4_115 12)
theorem dX2_tell_128 : decode cX2_tell 128 = .ok (.aload_n 0, 1) := dz_42 (dz_at q10w03_4_115 13)
theorem dX2_tell_129 : decode cX2_tell 129 = .ok (.dup, 1) := dz_89 (dz_at q10w03_4_115 14)
theorem dX2_tell_130 : decode cX2_tell 130 = .ok (.getfield 18, 3) := dz_180 (dz_at q10w03_4_115 15) rfl
theorem dX2_tell_133 : decode cX2_tell 133 = .ok (.iconst 1, 1) := dz_4 (dz_at q10w03_4_115 18)
theorem dX2_tell_134 : decode cX2_tell 134 = .ok (.iadd, 1) := dz_96 (dz_at q10w03_4_115 19)
theorem dX2_tell_135 : decode cX2_tell 135 = .ok (.putfield 18, 3) := dz_181 (dz_at q10w03_4_115 20) rfl
theorem dX2_tell_138 : decode cX2_tell 138 = .ok (.iconst 1, 1) := dz_4 (dz_at q10w03_4_115 23)
theorem dX2_tell_139 : decode cX2_tell 139 = .ok (.ireturn, 1) := dz_172 (dz_at q10w03_4_139 0)
theorem dX2_tell_14 : decode cX2_tell 14 = .ok (.iload_n 3, 1) := dz_29 (dz_at q10w03_4_0 14)
theorem dX2_tell_15 : decode cX2_tell 15 = .ok (.iaload, 1) := dz_46 (dz_at q10w03_4_0 15)
theorem dX2_tell_16 : decode cX2_tell 16 = .ok (.iload_n 1, 1) := dz_27 (dz_at q10w03_4_0 16)
theorem dX2_tell_17 : decode cX2_tell 17 = .ok (.if_icmp .ge 9, 3) := dz_162 (dz_at q10w03_4_0 17) (by decide +kernel)
theorem dX2_tell_2 : decode cX2_tell 2 = .ok (.iload_n 3, 1) := dz_29 (dz_at q10w03_4_0 2)
theorem dX2_tell_20 : decode cX2_tell 20 = .ok (.iinc 3 1, 3) := dz_132 (dz_at q10w03_4_0 20) (by decide +kernel)
theorem dX2_tell_23 : decode cX2_tell 23 = .ok (.goto (-21), 3) := dz_167 (dz_at q10w03_4_23 0) (by decide +kernel)
theorem dX2_tell_26 : decode cX2_tell 26 = .ok (.iload_n 3, 1) := dz_29 (dz_at q10w03_4_23 3)
theorem dX2_tell_27 : decode cX2_tell 27 = .ok (.aload_n 0, 1) := dz_42 (dz_at q10w03_4_23 4)
theorem dX2_tell_28 : decode cX2_tell 28 = .ok (.getfield 18, 3) := dz_180 (dz_at q10w03_4_23 5) rfl
theorem dX2_tell_3 : decode cX2_tell 3 = .ok (.aload_n 0, 1) := dz_42 (dz_at q10w03_4_0 3)
theorem dX2_tell_31 : decode cX2_tell 31 = .ok (.if_icmp .ge 22, 3) := dz_162 (dz_at q10w03_4_23 8) (by decide +kernel)
theorem dX2_tell_34 : decode cX2_tell 34 = .ok (.aload_n 0, 1) := dz_42 (dz_at q10w03_4_23 11)
theorem dX2_tell_35 : decode cX2_tell 35 = .ok (.getfield 9, 3) := dz_180 (dz_at q10w03_4_23 12) rfl
theorem dX2_tell_38 : decode cX2_tell 38 = .ok (.iload_n 3, 1) := dz_29 (dz_at q10w03_4_23 15)
theorem dX2_tell_39 : decode cX2_tell 39 = .ok (.iaload, 1) := dz_46 (dz_at q10w03_4_23 16)
theorem dX2_tell_4 : decode cX2_tell 4 = .ok (.getfield 18, 3) := dz_180 (dz_at q10w03_4_0 4) rfl
theorem dX2_tell_40 : decode cX2_tell 40 = .ok (.iload_n 1, 1) := dz_27 (dz_at q10w03_4_23 17)
theorem dX2_tell_41 : decode cX2_tell 41 = .ok (.if_icmp .ne 12, 3) := dz_160 (dz_at q10w03_4_23 18) (by decide +kernel)
theorem dX2_tell_44 : decode cX2_tell 44 = .ok (.aload_n 0, 1) := dz_42 (dz_at q10w03_4_23 21)
theorem dX2_tell_45 : decode cX2_tell 45 = .ok (.getfield 15, 3) := dz_180 (dz_at q10w03_4_45 0) rfl
theorem dX2_tell_48 : decode cX2_tell 48 = .ok (.iload_n 3, 1) := dz_29 (dz_at q10w03_4_45 3)
theorem dX2_tell_49 : decode cX2_tell 49 = .ok (.iload_n 2, 1) := dz_28 (dz_at q10w03_4_45 4)
theorem dX2_tell_50 : decode cX2_tell 50 = .ok (.iastore, 1) := dz_79 (dz_at q10w03_4_45 5)
theorem dX2_tell_51 : decode cX2_tell 51 = .ok (.iconst 1, 1) := dz_4 (dz_at q10w03_4_45 6)
theorem dX2_tell_52 : decode cX2_tell 52 = .ok (.ireturn, 1) := dz_172 (dz_at q10w03_4_45 7)
theorem dX2_tell_53 : decode cX2_tell 53 = .ok (.aload_n 0, 1) := dz_42 (dz_at q10w03_4_45 8)
theorem dX2_tell_54 : decode cX2_tell 54 = .ok (.getfield 18, 3) := dz_180 (dz_at q10w03_4_45 9) rfl
theorem dX2_tell_57 : decode cX2_tell 57 = .ok (.bipush 12, 2) := dz_16 (dz_at q10w03_4_45 12) (by decide +kernel)
theorem dX2_tell_59 : decode cX2_tell 59 = .ok (.if_icmp .lt 5, 3) := dz_161 (dz_at q10w03_4_45 14) (by decide +kernel)
theorem dX2_tell_62 : decode cX2_tell 62 = .ok (.iconst 0, 1) := dz_3 (dz_at q10w03_4_45 17)
theorem dX2_tell_63 : decode cX2_tell 63 = .ok (.ireturn, 1) := dz_172 (dz_at q10w03_4_45 18)
theorem dX2_tell_64 : decode cX2_tell 64 = .ok (.aload_n 0, 1) := dz_42 (dz_at q10w03_4_45 19)
theorem dX2_tell_65 : decode cX2_tell 65 = .ok (.getfield 18, 3) := dz_180 (dz_at q10w03_4_45 20) rfl
theorem dX2_tell_68 : decode cX2_tell 68 = .ok (.istore 4, 2) := dz_54 (dz_at q10w03_4_68 0)
theorem dX2_tell_7 : decode cX2_tell 7 = .ok (.if_icmp .ge 19, 3) := dz_162 (dz_at q10w03_4_0 7) (by decide +kernel)
theorem dX2_tell_70 : decode cX2_tell 70 = .ok (.iload 4, 2) := dz_21 (dz_at q10w03_4_68 2)
theorem dX2_tell_72 : decode cX2_tell 72 = .ok (.iload_n 3, 1) := dz_29 (dz_at q10w03_4_68 4)
theorem dX2_tell_73 : decode cX2_tell 73 = .ok (.if_icmp .le 41, 3) := dz_164 (dz_at q10w03_4_68 5) (by decide +kernel)
theorem dX2_tell_76 : decode cX2_tell 76 = .ok (.aload_n 0, 1) := dz_42 (dz_at q10w03_4_68 8)
theorem dX2_tell_77 : decode cX2_tell 77 = .ok (.getfield 9, 3) := dz_180 (dz_at q10w03_4_68 9) rfl
theorem dX2_tell_80 : decode cX2_tell 80 = .ok (.iload 4, 2) := dz_21 (dz_at q10w03_4_68 12)
theorem dX2_tell_82 : decode cX2_tell 82 = .ok (.aload_n 0, 1) := dz_42 (dz_at q10w03_4_68 14)
theorem dX2_tell_83 : decode cX2_tell 83 = .ok (.getfield 9, 3) := dz_180 (dz_at q10w03_4_68 15) rfl
theorem dX2_tell_86 : decode cX2_tell 86 = .ok (.iload 4, 2) := dz_21 (dz_at q10w03_4_68 18)
theorem dX2_tell_88 : decode cX2_tell 88 = .ok (.iconst 1, 1) := dz_4 (dz_at q10w03_4_68 20)
theorem dX2_tell_89 : decode cX2_tell 89 = .ok (.isub, 1) := dz_100 (dz_at q10w03_4_68 21)
theorem dX2_tell_90 : decode cX2_tell 90 = .ok (.iaload, 1) := dz_46 (dz_at q10w03_4_68 22)
theorem dX2_tell_91 : decode cX2_tell 91 = .ok (.iastore, 1) := dz_79 (dz_at q10w03_4_68 23)
theorem dX2_tell_92 : decode cX2_tell 92 = .ok (.aload_n 0, 1) := dz_42 (dz_at q10w03_4_92 0)
theorem dX2_tell_93 : decode cX2_tell 93 = .ok (.getfield 15, 3) := dz_180 (dz_at q10w03_4_92 1) rfl
theorem dX2_tell_96 : decode cX2_tell 96 = .ok (.iload 4, 2) := dz_21 (dz_at q10w03_4_92 4)
theorem dX2_tell_98 : decode cX2_tell 98 = .ok (.aload_n 0, 1) := dz_42 (dz_at q10w03_4_92 6)
theorem dX2_tell_99 : decode cX2_tell 99 = .ok (.getfield 15, 3) := dz_180 (dz_at q10w03_4_92 7) rfl
theorem q10w03_5_0 : (cX6_layOver.data.toList.drop 0).take 23 = [3, 54, 4, 3, 54, 5, 21, 5, 43, 180, 0, 42, 162, 0, 94, 42, 180, 0, 12, 28, 21, 5, 96] := by decide +kernel
theorem q10w03_5_23 : (cX6_layOver.data.toList.drop 23).take 24 = [182, 0, 60, 153, 0, 80, 42, 180, 0, 12, 180, 0, 53, 28, 21, 5, 96, 46, 54, 6, 29, 153, 0, 16] := by decide +kernel
theorem q10w03_5_47 : (cX6_layOver.data.toList.drop 47).take 23 = [21, 6, 43, 180, 0, 53, 21, 5, 46, 128, 167, 0, 10, 43, 180, 0, 53, 21, 5, 46, 54, 7, 42] := by decide +kernel
theorem q10w03_5_70 : (cX6_layOver.data.toList.drop 70).take 23 = [180, 0, 12, 180, 0, 53, 28, 21, 5, 96, 21, 7, 79, 21, 4, 21, 7, 21, 6, 160, 0, 7, 3] := by decide +kernel
theorem q10w03_5_93 : (cX6_layOver.data.toList.drop 93).take 20 = [167, 0, 4, 4, 96, 54, 4, 132, 5, 1, 167, 255, 159, 42, 182, 0, 39, 21, 4, 172] := by decide +kernel
theorem dX6_layOver_0 : decode cX6_layOver 0 = .ok (.iconst 0, 1) := dz_3 (dz_at q10w03_5_0 0)
theorem dX6_layOver_1 : decode cX6_layOver 1 = .ok (.istore 4, 2) := dz_54 (dz_at q10w03_5_0 1)
theorem dX6_layOver_100 : decode cX6_layOver 100 = .ok (.iinc 5 1, 3) := dz_132 (dz_at q10w03_5_93 7) (by decide +kernel)
theorem dX6_layOver_103 : decode cX6_layOver 103 = .ok (.goto (-97), 3) := dz_167 (dz_at q10w03_5_93 10) (by decide +kernel)
theorem dX6_layOver_106 : decode cX6_layOver 106 = .ok (.aload_n 0, 1) := dz_42 (dz_at q10w03_5_93 13)
theorem dX6_layOver_107 : decode cX6_layOver 107 = .ok (.invokevirtual 39, 3) := dz_182 (dz_at q10w03_5_93 14) rfl
theorem dX6_layOver_110 : decode cX6_layOver 110 = .ok (.iload 4, 2) := dz_21 (dz_at q10w03_5_93 17)
theorem dX6_layOver_112 : decode cX6_layOver 112 = .ok (.ireturn, 1) := dz_172 (dz_at q10w03_5_93 19)
theorem dX6_layOver_12 : decode cX6_layOver 12 = .ok (.if_icmp .ge 94, 3) := dz_162 (dz_at q10w03_5_0 12) (by decide +kernel)
theorem dX6_layOver_15 : decode cX6_layOver 15 = .ok (.aload_n 0, 1) := dz_42 (dz_at q10w03_5_0 15)
theorem dX6_layOver_16 : decode cX6_layOver 16 = .ok (.getfield 12, 3) := dz_180 (dz_at q10w03_5_0 16) rfl
theorem dX6_layOver_19 : decode cX6_layOver 19 = .ok (.iload_n 2, 1) := dz_28 (dz_at q10w03_5_0 19)
theorem dX6_layOver_20 : decode cX6_layOver 20 = .ok (.iload 5, 2) := dz_21 (dz_at q10w03_5_0 20)
theorem dX6_layOver_22 : decode cX6_layOver 22 = .ok (.iadd, 1) := dz_96 (dz_at q10w03_5_0 22)
theorem dX6_layOver_23 : decode cX6_layOver 23 = .ok (.invokevirtual 60, 3) := dz_182 (dz_at q10w03_5_23 0) rfl
theorem dX6_layOver_26 : decode cX6_layOver 26 = .ok (.ifCond .eq 80, 3) := dz_153 (dz_at q10w03_5_23 3) (by decide +kernel)
theorem dX6_layOver_29 : decode cX6_layOver 29 = .ok (.aload_n 0, 1) := dz_42 (dz_at q10w03_5_23 6)
theorem dX6_layOver_3 : decode cX6_layOver 3 = .ok (.iconst 0, 1) := dz_3 (dz_at q10w03_5_0 3)
theorem dX6_layOver_30 : decode cX6_layOver 30 = .ok (.getfield 12, 3) := dz_180 (dz_at q10w03_5_23 7) rfl
theorem dX6_layOver_33 : decode cX6_layOver 33 = .ok (.getfield 53, 3) := dz_180 (dz_at q10w03_5_23 10) rfl
theorem dX6_layOver_36 : decode cX6_layOver 36 = .ok (.iload_n 2, 1) := dz_28 (dz_at q10w03_5_23 13)
theorem dX6_layOver_37 : decode cX6_layOver 37 = .ok (.iload 5, 2) := dz_21 (dz_at q10w03_5_23 14)
theorem dX6_layOver_39 : decode cX6_layOver 39 = .ok (.iadd, 1) := dz_96 (dz_at q10w03_5_23 16)
theorem dX6_layOver_4 : decode cX6_layOver 4 = .ok (.istore 5, 2) := dz_54 (dz_at q10w03_5_0 4)
theorem dX6_layOver_40 : decode cX6_layOver 40 = .ok (.iaload, 1) := dz_46 (dz_at q10w03_5_23 17)
theorem dX6_layOver_41 : decode cX6_layOver 41 = .ok (.istore 6, 2) := dz_54 (dz_at q10w03_5_23 18)
theorem dX6_layOver_43 : decode cX6_layOver 43 = .ok (.iload_n 3, 1) := dz_29 (dz_at q10w03_5_23 20)
theorem dX6_layOver_44 : decode cX6_layOver 44 = .ok (.ifCond .eq 16, 3) := dz_153 (dz_at q10w03_5_23 21) (by decide +kernel)
theorem dX6_layOver_47 : decode cX6_layOver 47 = .ok (.iload 6, 2) := dz_21 (dz_at q10w03_5_47 0)
theorem dX6_layOver_49 : decode cX6_layOver 49 = .ok (.aload_n 1, 1) := dz_43 (dz_at q10w03_5_47 2)
theorem dX6_layOver_50 : decode cX6_layOver 50 = .ok (.getfield 53, 3) := dz_180 (dz_at q10w03_5_47 3) rfl
theorem dX6_layOver_53 : decode cX6_layOver 53 = .ok (.iload 5, 2) := dz_21 (dz_at q10w03_5_47 6)
theorem dX6_layOver_55 : decode cX6_layOver 55 = .ok (.iaload, 1) := dz_46 (dz_at q10w03_5_47 8)
theorem dX6_layOver_56 : decode cX6_layOver 56 = .ok (.ior, 1) := dz_128 (dz_at q10w03_5_47 9)
theorem dX6_layOver_57 : decode cX6_layOver 57 = .ok (.goto 10, 3) := dz_167 (dz_at q10w03_5_47 10) (by decide +kernel)
theorem dX6_layOver_6 : decode cX6_layOver 6 = .ok (.iload 5, 2) := dz_21 (dz_at q10w03_5_0 6)
theorem dX6_layOver_60 : decode cX6_layOver 60 = .ok (.aload_n 1, 1) := dz_43 (dz_at q10w03_5_47 13)
theorem dX6_layOver_61 : decode cX6_layOver 61 = .ok (.getfield 53, 3) := dz_180 (dz_at q10w03_5_47 14) rfl
theorem dX6_layOver_64 : decode cX6_layOver 64 = .ok (.iload 5, 2) := dz_21 (dz_at q10w03_5_47 17)
theorem dX6_layOver_66 : decode cX6_layOver 66 = .ok (.iaload, 1) := dz_46 (dz_at q10w03_5_47 19)
theorem dX6_layOver_67 : decode cX6_layOver 67 = .ok (.istore 7, 2) := dz_54 (dz_at q10w03_5_47 20)
theorem dX6_layOver_69 : decode cX6_layOver 69 = .ok (.aload_n 0, 1) := dz_42 (dz_at q10w03_5_47 22)
theorem dX6_layOver_70 : decode cX6_layOver 70 = .ok (.getfield 12, 3) := dz_180 (dz_at q10w03_5_70 0) rfl
theorem dX6_layOver_73 : decode cX6_layOver 73 = .ok (.getfield 53, 3) := dz_180 (dz_at q10w03_5_70 3) rfl
theorem dX6_layOver_76 : decode cX6_layOver 76 = .ok (.iload_n 2, 1) := dz_28 (dz_at q10w03_5_70 6)
theorem dX6_layOver_77 : decode cX6_layOver 77 = .ok (.iload 5, 2) := dz_21 (dz_at q10w03_5_70 7)
theorem dX6_layOver_79 : decode cX6_layOver 79 = .ok (.iadd, 1) := dz_96 (dz_at q10w03_5_70 9)
theorem dX6_layOver_8 : decode cX6_layOver 8 = .ok (.aload_n 1, 1) := dz_43 (dz_at q10w03_5_0 8)
theorem dX6_layOver_80 : decode cX6_layOver 80 = .ok (.iload 7, 2) := dz_21 (dz_at q10w03_5_70 10)
theorem dX6_layOver_82 : decode cX6_layOver 82 = .ok (.iastore, 1) := dz_79 (dz_at q10w03_5_70 12)
theorem dX6_layOver_83 : decode cX6_layOver 83 = .ok (.iload 4, 2) := dz_21 (dz_at q10w03_5_70 13)
theorem dX6_layOver_85 : decode cX6_layOver 85 = .ok (.iload 7, 2) := dz_21 (dz_at q10w03_5_70 15)
theorem dX6_layOver_87 : decode cX6_layOver 87 = .ok (.iload 6, 2) := dz_21 (dz_at q10w03_5_70 17)
theorem dX6_layOver_89 : decode cX6_layOver 89 = .ok (.if_icmp .ne 7, 3) := dz_160 (dz_at q10w03_5_70 19) (by decide +kernel)
theorem dX6_layOver_9 : decode cX6_layOver 9 = .ok (.getfield 42, 3) := dz_180 (dz_at q10w03_5_0 9) rfl
theorem dX6_layOver_92 : decode cX6_layOver 92 = .ok (.iconst 0, 1) := dz_3 (dz_at q10w03_5_70 22)
theorem dX6_layOver_93 : decode cX6_layOver 93 = .ok (.goto 4, 3) := dz_167 (dz_at q10w03_5_93 0) (by decide +kernel)
theorem dX6_layOver_96 : decode cX6_layOver 96 = .ok (.iconst 1, 1) := dz_4 (dz_at q10w03_5_93 3)
theorem dX6_layOver_97 : decode cX6_layOver 97 = .ok (.iadd, 1) := dz_96 (dz_at q10w03_5_93 4)
theorem dX6_layOver_98 : decode cX6_layOver 98 = .ok (.istore 4, 2) := dz_54 (dz_at q10w03_5_93 5)
theorem q10w03_6_0 : (cX6_putHead.data.toList.drop 0).take 24 = [28, 153, 0, 14, 42, 180, 0, 25, 4, 27, 120, 128, 167, 0, 13, 42, 180, 0, 25, 4, 27, 120, 2, 130] := by decide +kernel
theorem q10w03_6_24 : (cX6_putHead.data.toList.drop 24).take 24 = [126, 62, 29, 154, 0, 5, 2, 172, 42, 29, 181, 0, 25, 42, 182, 0, 39, 42, 180, 0, 25, 184, 0, 64] := by decide +kernel
theorem q10w03_6_48 : (cX6_putHead.data.toList.drop 48).take 1 = [172] := by decide +kernel
theorem dX6_putHead_0 : decode cX6_putHead 0 = .ok (.iload_n 2, 1) := dz_28 (dz_at q10w03_6_0 0)
theorem dX6_putHead_1 : decode cX6_putHead 1 = .ok (.ifCond .eq 14, 3) := dz_153 (dz_at q10w03_6_0 1) (by decide +kernel)
theorem dX6_putHead_10 : decode cX6_putHead 10 = .ok (.ishl, 1) := dz_120 (dz_at q10w03_6_0 10)
theorem dX6_putHead_11 : decode cX6_putHead 11 = .ok (.ior, 1) := dz_128 (dz_at q10w03_6_0 11)
theorem dX6_putHead_12 : decode cX6_putHead 12 = .ok (.goto 13, 3) := dz_167 (dz_at q10w03_6_0 12) (by decide +kernel)
theorem dX6_putHead_15 : decode cX6_putHead 15 = .ok (.aload_n 0, 1) := dz_42 (dz_at q10w03_6_0 15)
theorem dX6_putHead_16 : decode cX6_putHead 16 = .ok (.getfield 25, 3) := dz_180 (dz_at q10w03_6_0 16) rfl
theorem dX6_putHead_19 : decode cX6_putHead 19 = .ok (.iconst 1, 1) := dz_4 (dz_at q10w03_6_0 19)
theorem dX6_putHead_20 : decode cX6_putHead 20 = .ok (.iload_n 1, 1) := dz_27 (dz_at q10w03_6_0 20)
theorem dX6_putHead_21 : decode cX6_putHead 21 = .ok (.ishl, 1) := dz_120 (dz_at q10w03_6_0 21)
theorem dX6_putHead_22 : decode cX6_putHead 22 = .ok (.iconst (-1), 1) := dz_2 (dz_at q10w03_6_0 22)
theorem dX6_putHead_23 : decode cX6_putHead 23 = .ok (.ixor, 1) := dz_130 (dz_at q10w03_6_0 23)
theorem dX6_putHead_24 : decode cX6_putHead 24 = .ok (.iand, 1) := dz_126 (dz_at q10w03_6_24 0)
theorem dX6_putHead_25 : decode cX6_putHead 25 = .ok (.istore_n 3, 1) := dz_62 (dz_at q10w03_6_24 1)
theorem dX6_putHead_26 : decode cX6_putHead 26 = .ok (.iload_n 3, 1) := dz_29 (dz_at q10w03_6_24 2)
theorem dX6_putHead_27 : decode cX6_putHead 27 = .ok (.ifCond .ne 5, 3) := dz_154 (dz_at q10w03_6_24 3) (by decide +kernel)
theorem dX6_putHead_30 : decode cX6_putHead 30 = .ok (.iconst (-1), 1) := dz_2 (dz_at q10w03_6_24 6)
theorem dX6_putHead_31 : decode cX6_putHead 31 = .ok (.ireturn, 1) := dz_172 (dz_at q10w03_6_24 7)
theorem dX6_putHead_32 : decode cX6_putHead 32 = .ok (.aload_n 0, 1) := dz_42 (dz_at q10w03_6_24 8)
theorem dX6_putHead_33 : decode cX6_putHead 33 = .ok (.iload_n 3, 1) := dz_29 (dz_at q10w03_6_24 9)
theorem dX6_putHead_34 : decode cX6_putHead 34 = .ok (.putfield 25, 3) := dz_181 (dz_at q10w03_6_24 10) rfl
theorem dX6_putHead_37 : decode cX6_putHead 37 = .ok (.aload_n 0, 1) := dz_42 (dz_at q10w03_6_24 13)
theorem dX6_putHead_38 : decode cX6_putHead 38 = .ok (.invokevirtual 39, 3) := dz_182 (dz_at q10w03_6_24 14) rfl
theorem dX6_putHead_4 : decode cX6_putHead 4 = .ok (.aload_n 0, 1) := dz_42 (dz_at q10w03_6_0 4)
theorem dX6_putHead_41 : decode cX6_putHead 41 = .ok (.aload_n 0, 1) := dz_42 (dz_at q10w03_6_24 17)
theorem dX6_putHead_42 : decode cX6_putHead 42 = .ok (.getfield 25, 3) := dz_180 (dz_at q10w03_6_24 18) rfl
theorem dX6_putHead_45 : decode cX6_putHead 45 = .ok (.invokestatic 64, 3) := dz_184 (dz_at q10w03_6_24 21) rfl
theorem dX6_putHead_48 : decode cX6_putHead 48 = .ok (.ireturn, 1) := dz_172 (dz_at q10w03_6_48 0)
theorem dX6_putHead_5 : decode cX6_putHead 5 = .ok (.getfield 25, 3) := dz_180 (dz_at q10w03_6_0 5) rfl
theorem dX6_putHead_8 : decode cX6_putHead 8 = .ok (.iconst 1, 1) := dz_4 (dz_at q10w03_6_0 8)
theorem dX6_putHead_9 : decode cX6_putHead 9 = .ok (.iload_n 1, 1) := dz_27 (dz_at q10w03_6_0 9)
theorem q10w03_7_0 : (cX9_find.data.toList.drop 0).take 23 = [27, 155, 0, 25, 27, 42, 180, 0, 23, 162, 0, 17, 27, 7, 162, 0, 12, 42, 180, 0, 19, 27, 50] := by decide +kernel
theorem q10w03_7_23 : (cX9_find.data.toList.drop 23).take 5 = [167, 0, 4, 1, 176] := by decide +kernel
theorem dX9_find_0 : decode cX9_find 0 = .ok (.iload_n 1, 1) := dz_27 (dz_at q10w03_7_0 0)
theorem dX9_find_1 : decode cX9_find 1 = .ok (.ifCond .lt 25, 3) := dz_155 (dz_at q10w03_7_0 1) (by decide +kernel)
theorem dX9_find_12 : decode cX9_find 12 = .ok (.iload_n 1, 1) := dz_27 (dz_at q10w03_7_0 12)
theorem dX9_find_13 : decode cX9_find 13 = .ok (.iconst 4, 1) := dz_7 (dz_at q10w03_7_0 13)
theorem dX9_find_14 : decode cX9_find 14 = .ok (.if_icmp .ge 12, 3) := dz_162 (dz_at q10w03_7_0 14) (by decide +kernel)
theorem dX9_find_17 : decode cX9_find 17 = .ok (.aload_n 0, 1) := dz_42 (dz_at q10w03_7_0 17)
theorem dX9_find_18 : decode cX9_find 18 = .ok (.getfield 19, 3) := dz_180 (dz_at q10w03_7_0 18) rfl
theorem dX9_find_21 : decode cX9_find 21 = .ok (.iload_n 1, 1) := dz_27 (dz_at q10w03_7_0 21)
theorem dX9_find_22 : decode cX9_find 22 = .ok (.aaload, 1) := dz_50 (dz_at q10w03_7_0 22)
theorem dX9_find_23 : decode cX9_find 23 = .ok (.goto 4, 3) := dz_167 (dz_at q10w03_7_23 0) (by decide +kernel)
theorem dX9_find_26 : decode cX9_find 26 = .ok (.aconst_null, 1) := dz_1 (dz_at q10w03_7_23 3)
theorem dX9_find_27 : decode cX9_find 27 = .ok (.areturn, 1) := dz_176 (dz_at q10w03_7_23 4)
theorem dX9_find_4 : decode cX9_find 4 = .ok (.iload_n 1, 1) := dz_27 (dz_at q10w03_7_0 4)
theorem dX9_find_5 : decode cX9_find 5 = .ok (.aload_n 0, 1) := dz_42 (dz_at q10w03_7_0 5)
theorem dX9_find_6 : decode cX9_find 6 = .ok (.getfield 23, 3) := dz_180 (dz_at q10w03_7_0 6) rfl
theorem dX9_find_9 : decode cX9_find 9 = .ok (.if_icmp .ge 17, 3) := dz_162 (dz_at q10w03_7_0 9) (by decide +kernel)
theorem q10w03_8_0 : (cX9_motorOf.data.toList.drop 0).take 15 = [42, 180, 0, 11, 27, 154, 0, 7, 3, 167, 0, 4, 4, 50, 176] := by decide +kernel
theorem dX9_motorOf_0 : decode cX9_motorOf 0 = .ok (.aload_n 0, 1) := dz_42 (dz_at q10w03_8_0 0)
theorem dX9_motorOf_1 : decode cX9_motorOf 1 = .ok (.getfield 11, 3) := dz_180 (dz_at q10w03_8_0 1) rfl
theorem dX9_motorOf_12 : decode cX9_motorOf 12 = .ok (.iconst 1, 1) := dz_4 (dz_at q10w03_8_0 12)
theorem dX9_motorOf_13 : decode cX9_motorOf 13 = .ok (.aaload, 1) := dz_50 (dz_at q10w03_8_0 13)
theorem dX9_motorOf_14 : decode cX9_motorOf 14 = .ok (.areturn, 1) := dz_176 (dz_at q10w03_8_0 14)
theorem dX9_motorOf_4 : decode cX9_motorOf 4 = .ok (.iload_n 1, 1) := dz_27 (dz_at q10w03_8_0 4)
theorem dX9_motorOf_5 : decode cX9_motorOf 5 = .ok (.ifCond .ne 7, 3) := dz_154 (dz_at q10w03_8_0 5) (by decide +kernel)
theorem dX9_motorOf_8 : decode cX9_motorOf 8 = .ok (.iconst 0, 1) := dz_3 (dz_at q10w03_8_0 8)
theorem dX9_motorOf_9 : decode cX9_motorOf 9 = .ok (.goto 4, 3) := dz_167 (dz_at q10w03_8_0 9) (by decide +kernel)
theorem dm_X9_find : yX9_find.cls = RX9 ∧ yX9_find.cls ≠ "java/lang/invoke/MethodHandle" ∧ yX9_find.cls ≠ "java/lang/invoke/VarHandle" ∧ (parseMethodDescriptor yX9_find.desc).map (fun d => d.parameters.length) = some 1 := by decide +kernel
theorem dm_X6_layOver : yX6_layOver.cls = RX6 ∧ yX6_layOver.cls ≠ "java/lang/invoke/MethodHandle" ∧ yX6_layOver.cls ≠ "java/lang/invoke/VarHandle" ∧ (parseMethodDescriptor yX6_layOver.desc).map (fun d => d.parameters.length) = some 3 := by decide +kernel
theorem dm_J6_bitCount_0f7a4 : yJ6_bitCount_0f7a4.cls = RJ6 ∧ yJ6_bitCount_0f7a4.cls ≠ "java/lang/invoke/MethodHandle" ∧ yJ6_bitCount_0f7a4.cls ≠ "java/lang/invoke/VarHandle" ∧ (parseMethodDescriptor yJ6_bitCount_0f7a4.desc).map (fun d => d.parameters.length) = some 1 := by decide +kernel
theorem dm_X6_putHead : yX6_putHead.cls = RX6 ∧ yX6_putHead.cls ≠ "java/lang/invoke/MethodHandle" ∧ yX6_putHead.cls ≠ "java/lang/invoke/VarHandle" ∧ (parseMethodDescriptor yX6_putHead.desc).map (fun d => d.parameters.length) = some 2 := by decide +kernel
set_option maxRecDepth 100000 in
def wC_Studio_find (a0 : Int) (M : zM) (Q : Option Nat → Prop) : Prop := ((sI a0) < 0 → Q none) ∧ (0 ≤ (sI a0) → ((sI (M 32 2)) ≤ (sI a0) → Q none) ∧ ((sI a0) < (sI (M 32 2)) → (4 ≤ (sI a0) → Q none) ∧ ((sI a0) < 4 → ((0 ≤ (sI a0) ∧ (sI a0) < 4) ∧ Q (some (41 + 4 * (sI a0).toNat))))))
set_option maxHeartbeats 4000000 in
set_option maxRecDepth 100000 in
theorem cC_Studio_find (l : Launch) (D : va_G) (dA : Nat → ClassId) (b : Nat) (M : zM) (a0 : Int)  (Q : Option Nat → Prop) (h : wC_Studio_find a0 M Q) : Met l yX9_find (.code yX9_find cX9_find 2 (some (.object "TapeRings$Ring")) :: zt) (z_rm 0) (va_Pc [.ref (b + 32), .int (iI a0)] (wPre D dA vwCl (z_tys dA) wC nC b M)) (va_Qq (wQq b (fun z9 u9 => u9 = M ∧ Q z9)) (zB D dA vwCl wC nC b) (zA nC b)) 0 0 (zA nC b) := by
  unfold wC_Studio_find at h
  refine Met.ofW (cc := cX9_find) (maxL := 2) (ret := (some (.object "TapeRings$Ring"))) (by decide) rfl ?_
  intro p e s m args below meth c s₁ B hml hv
  obtain ⟨hargs, hS, hK⟩ := hv
  have hx := B.exec
  have hb := B.bytes
  have hr := B.returns
  have hts := atoms_spec (ws := .code yX9_find cX9_find 2 (some (.object "TapeRings$Ring")) :: zt) B.pre
  have hown : s.vm.findClass RX9 = some m.cls := findClass_of_methodNamed B.named
  have hlocks := B.notSynchronized
  have hS0 : va_S (zA nC b) s.heap s.heap [] := va_S.rf
  have hl := lv_entry ([.ref (b + 32), .int (iI a0)]) (n := 2) (Nat.le_of_ble_eq_true rfl)
  have hent : entryFrame m args 2 = F0 m 0 ((lg_sl ([.ref (b + 32), .int (iI a0)]) ++ List.replicate (2 - (lg_sl ([.ref (b + 32), .int (iI a0)])).length) Slot.unset).toArray) [] := by rw [hargs]; exact lg_entry_eq m ([.ref (b + 32), .int (iI a0)]) 2
  rw [hent]
  generalize (lg_sl ([.ref (b + 32), .int (iI a0)]) ++ List.replicate (2 - (lg_sl ([.ref (b + 32), .int (iI a0)])).length) Slot.unset).toArray = ls at hl ⊢
  have hl : lv_has ls 2 [(0, .ref (b + 32)), (1, .int (iI a0))] := hl
  refine lv_iload_n hx hb dX9_find_0 rfl (lv_at hl 1 rfl) ?_
  refine w_if_lt (tgt := 26) hx hb rfl dX9_find_1 (by decide) (fun c1 => ?_) (fun c1 => ?_)
  · skip
    have h := h.1 c1
    refine lv_null hx hb dX9_find_26 ?_
    exact w_aret hx hb hr (Or.inl ⟨_, rfl⟩) hlocks hS hS0 none rfl ⟨rfl, h⟩ dX9_find_27
  · skip
    have h := h.2 c1
    refine lv_iload_n hx hb dX9_find_4 rfl (lv_at hl 1 rfl) ?_
    refine lv_aload_n hx hb dX9_find_5 rfl (lv_at hl 0 rfl) ?_
    refine w_geti hx hb hts (z_memU u9) hown hK.1 hS f9_2 (by decide) (zkd_of (rfl : zcd wC 32 = 8) rfl) (Or.inl (hts _ (z_mem k118))) dX9_find_6 ?_
    refine w_icmp_ge (tgt := 26) hx hb rfl rfl dX9_find_9 (by decide) (fun c2 => ?_) (fun c2 => ?_)
    · skip
      have h := h.1 c2
      refine lv_null hx hb dX9_find_26 ?_
      exact w_aret hx hb hr (Or.inl ⟨_, rfl⟩) hlocks hS hS0 none rfl ⟨rfl, h⟩ dX9_find_27
    · skip
      have h := h.2 c2
      refine lv_iload_n hx hb dX9_find_12 rfl (lv_at hl 1 rfl) ?_
      refine z_iconst hx hb dX9_find_13 ?_
      refine w_icmp_ge (tgt := 26) hx hb rfl (sI_of (by decide)) dX9_find_14 (by decide) (fun c3 => ?_) (fun c3 => ?_)
      · skip
        have h := h.1 c3
        refine lv_null hx hb dX9_find_26 ?_
        exact w_aret hx hb hr (Or.inl ⟨_, rfl⟩) hlocks hS hS0 none rfl ⟨rfl, h⟩ dX9_find_27
      · skip
        have h := h.2 c3
        refine lv_aload_n hx hb dX9_find_17 rfl (lv_at hl 0 rfl) ?_
        refine w_getr (j2 := 34) hx hb hts (z_memU u9) hown hK.1 hS f9_1 (by decide) (zkd_of (rfl : zcd wC 32 = 8) rfl) (zrf_of (rfl : zcd wC 32 = 8) rfl) (Or.inl (hts _ (z_mem k117))) dX9_find_18 ?_
        refine lv_iload_n hx hb dX9_find_21 rfl (lv_at hl 1 rfl) ?_
        obtain ⟨o4, h⟩ := h
        refine w_aald (n := 4) (i := (sI a0)) (j2 := (41 + 4 * (sI a0).toNat)) hx hb hK.1 (t0 := 6) (r := 6) (by decide) rfl rfl hS (by decide) (zkd_of (rfl : zcd wC 34 = 10) rfl) (zln_of (rfl : zcd wC 34 = 10) rfl) rfl o4.1 o4.2 (by decide) (zrf_of (rfl : zcd wC 34 = 10) rfl) dX9_find_22 ?_
        obtain ⟨lt5, cd6⟩ : (41 + 4 * (sI a0).toNat) < nC ∧ zcd wC (41 + 4 * (sI a0).toNat) = 14 := (by decide : ∀ k : Nat, k < 4 → (41 + 4 * k) < nC ∧ zcd wC (41 + 4 * k) = 14) (sI a0).toNat (by clear h; have h0 := o4.1; have h1 := o4.2; omega)
        obtain ⟨lt7, cd8, lt9, cd10, lt11, cd12⟩ := nx_ring (41 + 4 * (sI a0).toNat) lt5 cd6
        refine lv_goto (tgt := 27) hx hb dX9_find_23 (by decide) ?_
        exact w_aret hx hb hr (Or.inl ⟨_, rfl⟩) hlocks hS hS0 (some (41 + 4 * (sI a0).toNat)) rfl ⟨rfl, h⟩ dX9_find_27

set_option maxRecDepth 100000 in
def wC_Ring_layOver (j : Nat) (a0 : Nat) (a1 : Int) (a2 : Int) (M : zM) (Q : Int → zM → Prop) : Prop := wL2 (fun K6 x9 x10 M11 => ((sI (M11 a0 1)) ≤ (sI x10) → wC_Ring_listen j M11 (fun M20 => Q (sI x9) M20)) ∧ ((sI x10) < (sI (M11 a0 1)) → wC_Strip_has (j + 1) (a1 + x10) M11 (fun z22 => (z22 = 0 → wC_Ring_listen j M11 (fun M26 => Q (sI x9) M26)) ∧ (z22 ≠ 0 → ((0 ≤ (sI (a1 + x10)) ∧ (sI (a1 + x10)) < 24) ∧ pJ1 (fun J67 => ((sI a2) = 0 → ((0 ≤ (sI x10) ∧ (sI x10) < 24) ∧ J67 (M11 (a0 + 1) (sI x10).toNat))) ∧ ((sI a2) ≠ 0 → ((0 ≤ (sI x10) ∧ (sI x10) < 24) ∧ J67 (orI (M11 (j + 2) (sI (a1 + x10)).toNat) (M11 (a0 + 1) (sI x10).toNat))))) (fun (x31 : Int) => ((0 ≤ (sI (a1 + x10)) ∧ (sI (a1 + x10)) < 24) ∧ (∀ M35 : zM, M35 = zup M11 (j + 2) (sI (a1 + x10)).toNat x31 → ((sI x31) ≠ (sI (M11 (j + 2) (sI (a1 + x10)).toNat)) → K6 (x9 + 1) (x10 + 1) M35) ∧ ((sI x31) = (sI (M11 (j + 2) (sI (a1 + x10)).toNat)) → K6 (x9 + 0) (x10 + 1) M35))))))))) 0 0 M
set_option maxHeartbeats 4000000 in
set_option maxRecDepth 100000 in
theorem cC_Ring_layOver (l : Launch) (D : va_G) (dA : Nat → ClassId) (b : Nat) (M : zM) (j : Nat) (a0 : Nat) (a1 : Int) (a2 : Int) (lt_j : j < nC) (cd_j : zcd wC j = 14) (lt_a0 : a0 < nC) (cd_a0 : zcd wC a0 = 6) (Q : Int → zM → Prop) (h : wC_Ring_layOver j a0 a1 a2 M Q) : Met l yX6_layOver (.code yX6_layOver cX6_layOver 8 (some .int) :: zt) (z_rm 4) (va_Pc [.ref (b + j), .ref (b + a0), .int (iI a1), .int (iI a2)] (wPre D dA vwCl (z_tys dA) wC nC b M)) (va_Qi (wQi Q) (zB D dA vwCl wC nC b) (zA nC b)) 0 0 (zA nC b) := by
  unfold wC_Ring_layOver at h
  refine Met.ofW (cc := cX6_layOver) (maxL := 8) (ret := (some .int)) (by decide) rfl ?_
  intro p e s m args below meth c s₁ B hml hv
  obtain ⟨hargs, hS, hK⟩ := hv
  have hx := B.exec
  have hb := B.bytes
  have hr := B.returns
  have hts := atoms_spec (ws := .code yX6_layOver cX6_layOver 8 (some .int) :: zt) B.pre
  have hown : s.vm.findClass RX6 = some m.cls := findClass_of_methodNamed B.named
  have hlocks := B.notSynchronized
  have hS0 : va_S (zA nC b) s.heap s.heap [] := va_S.rf
  have hl := lv_entry ([.ref (b + j), .ref (b + a0), .int (iI a1), .int (iI a2)]) (n := 8) (Nat.le_of_ble_eq_true rfl)
  have hent : entryFrame m args 8 = F0 m 0 ((lg_sl ([.ref (b + j), .ref (b + a0), .int (iI a1), .int (iI a2)]) ++ List.replicate (8 - (lg_sl ([.ref (b + j), .ref (b + a0), .int (iI a1), .int (iI a2)])).length) Slot.unset).toArray) [] := by rw [hargs]; exact lg_entry_eq m ([.ref (b + j), .ref (b + a0), .int (iI a1), .int (iI a2)]) 8
  rw [hent]
  generalize (lg_sl ([.ref (b + j), .ref (b + a0), .int (iI a1), .int (iI a2)]) ++ List.replicate (8 - (lg_sl ([.ref (b + j), .ref (b + a0), .int (iI a1), .int (iI a2)])).length) Slot.unset).toArray = ls at hl ⊢
  have hl : lv_has ls 8 [(0, .ref (b + j)), (1, .ref (b + a0)), (2, .int (iI a1)), (3, .int (iI a2))] := hl
  obtain ⟨lt1, cd2, lt3, cd4, lt5, cd6⟩ := nx_ring j lt_j cd_j
  obtain ⟨lt7, cd8⟩ := nx_strip a0 lt_a0 cd_a0
  refine z_iconst hx hb dX6_layOver_0 ?_
  refine lv_istore (lv' := [(4, .int (iI 0)), (0, .ref (b + j)), (1, .ref (b + a0)), (2, .int (iI a1)), (3, .int (iI a2))]) hx hb dX6_layOver_1 hl (by decide) rfl (fun ls hl => ?_)
  refine z_iconst hx hb dX6_layOver_3 ?_
  refine lv_istore (lv' := [(5, .int (iI 0)), (4, .int (iI 0)), (0, .ref (b + j)), (1, .ref (b + a0)), (2, .int (iI a1)), (3, .int (iI a2))]) hx hb dX6_layOver_4 hl (by decide) rfl (fun ls hl => ?_)
  obtain ⟨I12, ⟨n13, h14⟩, h15⟩ := h
  have L16 : ∀ (n17 : Nat) (x9 x10 : Int) (M11 : zM) (H : Heap) (locs : List Loc) (ls : Array Slot), I12 n17 x9 x10 M11 → zR D dA vwCl wC nC b M11 H → va_S (zA nC b) s.heap H locs → lv_has ls 8 [(0, .ref (b + j)), (1, .ref (b + a0)), (2, .int (iI a1)), (3, .int (iI a2)), (4, .int (iI x9)), (5, .int (iI x10))] → W p l e (headSpec (.code yX6_layOver cX6_layOver 8 (some .int) :: zt) (z_rm 4)).room s m args below meth c H locs 0 0 (MQ below (va_Qi (wQi Q) (zB D dA vwCl wC nC b) (zA nC b)) args s 0 0 (zA nC b)) (F0 m 6 ls []) := by
    intro n17
    induction n17 using Nat.strongRecOn with
    | ind n17 i18 =>
      intro x9 x10 M11 H locs ls h hS hS0 hl
      have h := h15 n17 x9 x10 M11 h
      refine lv_iload hx hb dX6_layOver_6 (lv_at hl 5 rfl) ?_
      refine lv_aload_n hx hb dX6_layOver_8 rfl (lv_at hl 1 rfl) ?_
      refine w_geti hx hb hts (z_memU u8) hown hK.1 hS f8_1 lt_a0 (zkd_of cd_a0 rfl) (Or.inl (hts _ (z_mem k45))) dX6_layOver_9 ?_
      refine w_icmp_ge (tgt := 106) hx hb rfl rfl dX6_layOver_12 (by decide) (fun c19 => ?_) (fun c19 => ?_)
      · skip
        have h := h.1 c19
        refine lv_aload_n hx hb dX6_layOver_106 rfl (lv_at hl 0 rfl) ?_
        refine w_callv (va_runV (As := []) (rest := []) ⟨hx, hb, hml, hown, hts⟩ (cC_Ring_listen l D dA b M11 j lt_j cd_j _ h) (cwV 0 hts (z_gV k395 k396 k1363 k6 k397) rfl rfl rfl dm_X6_listen ⟨Nat.le_of_ble_eq_true rfl, Nat.le_of_ble_eq_true rfl⟩) ⟨wPre_blind, (w_recv hS hK.1 lt_j (zkd_of cd_j rfl) (by decide) (rfl : vwCl[6]? = some (RX6, TX6, 6))), w_pre hS hK⟩ rfl rfl hl.1 rfl (lv_room (Nat.le_of_ble_eq_true rfl)) dX6_layOver_107 ⟨Nat.le_refl _, Nat.le_refl _⟩) hS0 (fun M20 H locs h hS hS0 => ?_)
        refine lv_iload hx hb dX6_layOver_110 (lv_at hl 4 rfl) ?_
        exact w_iret hx hb hr hlocks hS hS0 rfl h dX6_layOver_112
      · skip
        have h := h.2 c19
        refine lv_aload_n hx hb dX6_layOver_15 rfl (lv_at hl 0 rfl) ?_
        refine w_getr (j2 := (j + 1)) hx hb hts (z_memU u6) hown hK.1 hS f6_0 lt_j (zkd_of cd_j rfl) (zrf_of cd_j rfl) (Or.inl (hts _ (z_mem k93))) dX6_layOver_16 ?_
        refine lv_iload_n hx hb dX6_layOver_19 rfl (lv_at hl 2 rfl) ?_
        refine lv_iload hx hb dX6_layOver_20 (lv_at hl 5 rfl) ?_
        refine z_iadd hx hb dX6_layOver_22 ?_
        refine w_callz (va_runV (As := [.int (iI (a1 + x10))]) (rest := []) ⟨hx, hb, hml, hown, hts⟩ (cC_Strip_has l D dA b M11 (j + 1) (a1 + x10) lt1 cd2 _ h) (cwV 1 hts (z_gV k419 k327 k328 k3 k329) rfl rfl rfl dm_X8_has ⟨Nat.le_of_ble_eq_true rfl, Nat.le_of_ble_eq_true rfl⟩) ⟨wPre_blind, (w_recv hS hK.1 lt1 (zkd_of cd2 rfl) (by decide) (rfl : vwCl[8]? = some (RX8, TX8, 2))), w_pre hS hK⟩ rfl rfl hl.1 rfl (lv_room (Nat.le_of_ble_eq_true rfl)) dX6_layOver_23 ⟨Nat.le_refl _, Nat.le_refl _⟩) hS0 (fun z22 M21 H locs r23 h hS hS0 => ?_)
        obtain ⟨e24, h⟩ := h
        rw [e24] at hS
        refine w_if_eq (tgt := 106) hx hb (sI_01 r23) dX6_layOver_26 (by decide) (fun c25 => ?_) (fun c25 => ?_)
        · skip
          have h := h.1 c25
          refine lv_aload_n hx hb dX6_layOver_106 rfl (lv_at hl 0 rfl) ?_
          refine w_callv (va_runV (As := []) (rest := []) ⟨hx, hb, hml, hown, hts⟩ (cC_Ring_listen l D dA b M11 j lt_j cd_j _ h) (cwV 0 hts (z_gV k395 k396 k1363 k6 k397) rfl rfl rfl dm_X6_listen ⟨Nat.le_of_ble_eq_true rfl, Nat.le_of_ble_eq_true rfl⟩) ⟨wPre_blind, (w_recv hS hK.1 lt_j (zkd_of cd_j rfl) (by decide) (rfl : vwCl[6]? = some (RX6, TX6, 6))), w_pre hS hK⟩ rfl rfl hl.1 rfl (lv_room (Nat.le_of_ble_eq_true rfl)) dX6_layOver_107 ⟨Nat.le_refl _, Nat.le_refl _⟩) hS0 (fun M26 H locs h hS hS0 => ?_)
          refine lv_iload hx hb dX6_layOver_110 (lv_at hl 4 rfl) ?_
          exact w_iret hx hb hr hlocks hS hS0 rfl h dX6_layOver_112
        · skip
          have h := h.2 c25
          refine lv_aload_n hx hb dX6_layOver_29 rfl (lv_at hl 0 rfl) ?_
          refine w_getr (j2 := (j + 1)) hx hb hts (z_memU u6) hown hK.1 hS f6_0 lt_j (zkd_of cd_j rfl) (zrf_of cd_j rfl) (Or.inl (hts _ (z_mem k93))) dX6_layOver_30 ?_
          refine w_getr (j2 := (j + 2)) hx hb hts (z_memU u8) hown hK.1 hS f8_0 lt1 (zkd_of cd2 rfl) (zrf_of cd2 rfl) (Or.inl (hts _ (z_mem k42))) dX6_layOver_33 ?_
          refine lv_iload_n hx hb dX6_layOver_36 rfl (lv_at hl 2 rfl) ?_
          refine lv_iload hx hb dX6_layOver_37 (lv_at hl 5 rfl) ?_
          refine z_iadd hx hb dX6_layOver_39 ?_
          obtain ⟨o27, h⟩ := h
          refine w_iald (n := 24) (i := (sI (a1 + x10))) hx hb hK.1 (t0 := 0) rfl hS lt3 (zkd_of cd4 rfl) (zln_of cd4 rfl) rfl o27.1 o27.2 (by decide) dX6_layOver_40 ?_
          refine lv_istore (lv' := [(6, .int (iI (M11 (j + 2) (sI (a1 + x10)).toNat))), (0, .ref (b + j)), (1, .ref (b + a0)), (2, .int (iI a1)), (3, .int (iI a2)), (4, .int (iI x9)), (5, .int (iI x10))]) hx hb dX6_layOver_41 hl (by decide) rfl (fun ls hl => ?_)
          refine lv_iload_n hx hb dX6_layOver_43 rfl (lv_at hl 4 rfl) ?_
          obtain ⟨J67, B33, h⟩ := h
          have L32 : ∀ (x31 : Int) (H : Heap) (locs : List Loc) (ls : Array Slot), J67 x31 → zR D dA vwCl wC nC b M11 H → va_S (zA nC b) s.heap H locs → lv_has ls 8 [(0, .ref (b + j)), (1, .ref (b + a0)), (2, .int (iI a1)), (3, .int (iI a2)), (4, .int (iI x9)), (5, .int (iI x10)), (6, .int (iI (M11 (j + 2) (sI (a1 + x10)).toNat)))] → W p l e (headSpec (.code yX6_layOver cX6_layOver 8 (some .int) :: zt) (z_rm 4)).room s m args below meth c H locs 0 0 (MQ below (va_Qi (wQi Q) (zB D dA vwCl wC nC b) (zA nC b)) args s 0 0 (zA nC b)) (F0 m 67 ls [.int (iI x31)]) := by
            intro x31 H locs ls h hS hS0 hl
            have h := B33 x31 h
            refine lv_istore (lv' := [(7, .int (iI x31)), (0, .ref (b + j)), (1, .ref (b + a0)), (2, .int (iI a1)), (3, .int (iI a2)), (4, .int (iI x9)), (5, .int (iI x10)), (6, .int (iI (M11 (j + 2) (sI (a1 + x10)).toNat)))]) hx hb dX6_layOver_67 hl (by decide) rfl (fun ls hl => ?_)
            refine lv_aload_n hx hb dX6_layOver_69 rfl (lv_at hl 1 rfl) ?_
            refine w_getr (j2 := (j + 1)) hx hb hts (z_memU u6) hown hK.1 hS f6_0 lt_j (zkd_of cd_j rfl) (zrf_of cd_j rfl) (Or.inl (hts _ (z_mem k93))) dX6_layOver_70 ?_
            refine w_getr (j2 := (j + 2)) hx hb hts (z_memU u8) hown hK.1 hS f8_0 lt1 (zkd_of cd2 rfl) (zrf_of cd2 rfl) (Or.inl (hts _ (z_mem k42))) dX6_layOver_73 ?_
            refine lv_iload_n hx hb dX6_layOver_76 rfl (lv_at hl 3 rfl) ?_
            refine lv_iload hx hb dX6_layOver_77 (lv_at hl 6 rfl) ?_
            refine z_iadd hx hb dX6_layOver_79 ?_
            refine lv_iload hx hb dX6_layOver_80 (lv_at hl 0 rfl) ?_
            obtain ⟨o34, h⟩ := h
            refine w_iast (z := x31) (n := 24) (i := (sI (a1 + x10))) hx hb hK.1 (t0 := 0) rfl hS hS0 lt3 (zkd_of cd4 rfl) (zln_of cd4 rfl) rfl o34.1 o34.2 (by decide) dX6_layOver_82 (fun H locs hS hS0 => ?_)
            obtain ⟨M35, e36⟩ : ∃ M35 : zM, M35 = zup M11 (j + 2) (sI (a1 + x10)).toNat x31 := ⟨_, rfl⟩
            rw [← e36] at hS
            have h := h M35 e36
            refine lv_iload hx hb dX6_layOver_83 (lv_at hl 5 rfl) ?_
            refine lv_iload hx hb dX6_layOver_85 (lv_at hl 0 rfl) ?_
            refine lv_iload hx hb dX6_layOver_87 (lv_at hl 7 rfl) ?_
            refine w_icmp_ne (tgt := 96) hx hb rfl rfl dX6_layOver_89 (by decide) (fun c37 => ?_) (fun c37 => ?_)
            · skip
              have h := h.1 c37
              refine z_iconst hx hb dX6_layOver_96 ?_
              refine z_iadd hx hb dX6_layOver_97 ?_
              refine lv_istore (lv' := [(4, .int (iI (x9 + 1))), (7, .int (iI x31)), (0, .ref (b + j)), (1, .ref (b + a0)), (2, .int (iI a1)), (3, .int (iI a2)), (5, .int (iI x10)), (6, .int (iI (M11 (j + 2) (sI (a1 + x10)).toNat)))]) hx hb dX6_layOver_98 hl (by decide) rfl (fun ls hl => ?_)
              refine z_iinc (lv' := [(5, .int (iI (x10 + 1))), (4, .int (iI (x9 + 1))), (7, .int (iI x31)), (0, .ref (b + j)), (1, .ref (b + a0)), (2, .int (iI a1)), (3, .int (iI a2)), (6, .int (iI (M11 (j + 2) (sI (a1 + x10)).toNat)))]) hx hb dX6_layOver_100 hl (k := 6) rfl (by decide) rfl (fun ls hl => ?_)
              refine lv_goto (tgt := 6) hx hb dX6_layOver_103 (by decide) ?_
              obtain ⟨n38, h39, h⟩ := h
              exact i18 n38 h39 (x9 + 1) (x10 + 1) M35 _ _ _ h hS hS0 (lv_sub hl [3, 4, 5, 6, 1, 0] rfl)
            · skip
              have h := h.2 c37
              refine z_iconst hx hb dX6_layOver_92 ?_
              refine lv_goto (tgt := 97) hx hb dX6_layOver_93 (by decide) ?_
              refine z_iadd hx hb dX6_layOver_97 ?_
              refine lv_istore (lv' := [(4, .int (iI (x9 + 0))), (7, .int (iI x31)), (0, .ref (b + j)), (1, .ref (b + a0)), (2, .int (iI a1)), (3, .int (iI a2)), (5, .int (iI x10)), (6, .int (iI (M11 (j + 2) (sI (a1 + x10)).toNat)))]) hx hb dX6_layOver_98 hl (by decide) rfl (fun ls hl => ?_)
              refine z_iinc (lv' := [(5, .int (iI (x10 + 1))), (4, .int (iI (x9 + 0))), (7, .int (iI x31)), (0, .ref (b + j)), (1, .ref (b + a0)), (2, .int (iI a1)), (3, .int (iI a2)), (6, .int (iI (M11 (j + 2) (sI (a1 + x10)).toNat)))]) hx hb dX6_layOver_100 hl (k := 6) rfl (by decide) rfl (fun ls hl => ?_)
              refine lv_goto (tgt := 6) hx hb dX6_layOver_103 (by decide) ?_
              obtain ⟨n40, h41, h⟩ := h
              exact i18 n40 h41 (x9 + 0) (x10 + 1) M35 _ _ _ h hS hS0 (lv_sub hl [3, 4, 5, 6, 1, 0] rfl)
          refine w_if_eq (tgt := 60) hx hb rfl dX6_layOver_44 (by decide) (fun c42 => ?_) (fun c42 => ?_)
          · skip
            have h := h.1 c42
            refine lv_aload_n hx hb dX6_layOver_60 rfl (lv_at hl 2 rfl) ?_
            refine w_getr (j2 := (a0 + 1)) hx hb hts (z_memU u8) hown hK.1 hS f8_0 lt_a0 (zkd_of cd_a0 rfl) (zrf_of cd_a0 rfl) (Or.inl (hts _ (z_mem k42))) dX6_layOver_61 ?_
            refine lv_iload hx hb dX6_layOver_64 (lv_at hl 6 rfl) ?_
            obtain ⟨o43, h⟩ := h
            refine w_iald (n := 24) (i := (sI x10)) hx hb hK.1 (t0 := 0) rfl hS lt7 (zkd_of cd8 rfl) (zln_of cd8 rfl) rfl o43.1 o43.2 (by decide) dX6_layOver_66 ?_
            exact L32 (M11 (a0 + 1) (sI x10).toNat) _ _ _ h hS hS0 (lv_sub hl [1, 2, 3, 4, 5, 6, 0] rfl)
          · skip
            have h := h.2 c42
            refine lv_iload hx hb dX6_layOver_47 (lv_at hl 0 rfl) ?_
            refine lv_aload_n hx hb dX6_layOver_49 rfl (lv_at hl 2 rfl) ?_
            refine w_getr (j2 := (a0 + 1)) hx hb hts (z_memU u8) hown hK.1 hS f8_0 lt_a0 (zkd_of cd_a0 rfl) (zrf_of cd_a0 rfl) (Or.inl (hts _ (z_mem k42))) dX6_layOver_50 ?_
            refine lv_iload hx hb dX6_layOver_53 (lv_at hl 6 rfl) ?_
            obtain ⟨o44, h⟩ := h
            refine w_iald (n := 24) (i := (sI x10)) hx hb hK.1 (t0 := 0) rfl hS lt7 (zkd_of cd8 rfl) (zln_of cd8 rfl) rfl o44.1 o44.2 (by decide) dX6_layOver_55 ?_
            refine w_ior hx hb dX6_layOver_56 ?_
            refine lv_goto (tgt := 67) hx hb dX6_layOver_57 (by decide) ?_
            exact L32 (orI (M11 (j + 2) (sI (a1 + x10)).toNat) (M11 (a0 + 1) (sI x10).toNat)) _ _ _ h hS hS0 (lv_sub hl [1, 2, 3, 4, 5, 6, 0] rfl)
  exact L16 n13 0 0 M _ _ _ h14 hS hS0 (lv_sub hl [2, 3, 4, 5, 1, 0] rfl)

set_option maxRecDepth 100000 in
def wC_over (a0 : Int) (a1 : Int) (a2 : Int) (M : zM) (Q : Int → zM → Prop) : Prop := wC_Studio_find a0 M (fun z2 => (z2 = none → Q (-1) M) ∧ (∀ q4, z2 = some q4 → (q4 < nC ∧ zcd wC q4 = 14) ∧ (wC_Strip_has (q4 + 1) a1 M (fun z14 => (z14 = 0 → Q (-1) M) ∧ (z14 ≠ 0 → wC_within a2 0 1 M (fun z19 => (z19 = 0 → Q (-1) M) ∧ (z19 ≠ 0 → ((sI (M 30 1)) ≠ 0 → ((sI a2) ≠ 1 → wC_Ring_layOver q4 30 a1 0 M (fun z26 M25 => Q z26 M25)) ∧ ((sI a2) = 1 → wC_Ring_layOver q4 30 a1 1 M (fun z29 M28 => Q z29 M28))) ∧ ((sI (M 30 1)) = 0 → Q (-1) M))))))))
set_option maxHeartbeats 4000000 in
set_option maxRecDepth 100000 in
theorem cC_over (l : Launch) (D : va_G) (dA : Nat → ClassId) (b : Nat) (M : zM) (a0 : Int) (a1 : Int) (a2 : Int)  (Q : Int → zM → Prop) (h : wC_over a0 a1 a2 M Q) : Met l yX11_over (.code yX11_over cX11_over 5 (some .int) :: zt) (z_rm 5) (va_Pc [.ref (b + 0), .int (iI a0), .int (iI a1), .int (iI a2)] (wPre D dA vwCl (z_tys dA) wC nC b M)) (va_Qi (wQi Q) (zB D dA vwCl wC nC b) (zA nC b)) 0 0 (zA nC b) := by
  unfold wC_over at h
  refine Met.ofW (cc := cX11_over) (maxL := 5) (ret := (some .int)) (by decide) rfl ?_
  intro p e s m args below meth c s₁ B hml hv
  obtain ⟨hargs, hS, hK⟩ := hv
  have hx := B.exec
  have hb := B.bytes
  have hr := B.returns
  have hts := atoms_spec (ws := .code yX11_over cX11_over 5 (some .int) :: zt) B.pre
  have hown : s.vm.findClass RX11 = some m.cls := findClass_of_methodNamed B.named
  have hlocks := B.notSynchronized
  have hS0 : va_S (zA nC b) s.heap s.heap [] := va_S.rf
  have hl := lv_entry ([.ref (b + 0), .int (iI a0), .int (iI a1), .int (iI a2)]) (n := 5) (Nat.le_of_ble_eq_true rfl)
  have hent : entryFrame m args 5 = F0 m 0 ((lg_sl ([.ref (b + 0), .int (iI a0), .int (iI a1), .int (iI a2)]) ++ List.replicate (5 - (lg_sl ([.ref (b + 0), .int (iI a0), .int (iI a1), .int (iI a2)])).length) Slot.unset).toArray) [] := by rw [hargs]; exact lg_entry_eq m ([.ref (b + 0), .int (iI a0), .int (iI a1), .int (iI a2)]) 5
  rw [hent]
  generalize (lg_sl ([.ref (b + 0), .int (iI a0), .int (iI a1), .int (iI a2)]) ++ List.replicate (5 - (lg_sl ([.ref (b + 0), .int (iI a0), .int (iI a1), .int (iI a2)])).length) Slot.unset).toArray = ls at hl ⊢
  have hl : lv_has ls 5 [(0, .ref (b + 0)), (1, .int (iI a0)), (2, .int (iI a1)), (3, .int (iI a2))] := hl
  refine lv_aload_n hx hb dX11_over_0 rfl (lv_at hl 0 rfl) ?_
  refine w_getr (j2 := 32) hx hb hts (z_memU u11) hown hK.1 hS f11_2 (by decide) (zkd_of (rfl : zcd wC 0 = 0) rfl) (zrf_of (rfl : zcd wC 0 = 0) rfl) (Or.inl (hts _ (z_mem k244))) dX11_over_1 ?_
  refine lv_iload_n hx hb dX11_over_4 rfl (lv_at hl 1 rfl) ?_
  refine w_callq (va_runV (As := [.int (iI a0)]) (rest := []) ⟨hx, hb, hml, hown, hts⟩ (cC_Studio_find l D dA b M a0 _ h) (cwV 1 hts (z_gV k411 k412 k413 k4 k414) rfl rfl rfl dm_X9_find ⟨Nat.le_of_ble_eq_true rfl, Nat.le_of_ble_eq_true rfl⟩) ⟨wPre_blind, (w_recv hS hK.1 (by decide) (zkd_of (rfl : zcd wC 32 = 8) rfl) (by decide) (rfl : vwCl[9]? = some (RX9, TX9, 3))), w_pre hS hK⟩ rfl rfl hl.1 rfl (lv_room (Nat.le_of_ble_eq_true rfl)) dX11_over_5 ⟨Nat.le_refl _, Nat.le_refl _⟩) hS0 (fun z2 M1 H locs h hS hS0 => ?_)
  obtain ⟨e3, h⟩ := h
  rw [e3] at hS
  rcases z2 with _ | q4
  · skip
    have h := h.1 rfl
    refine lv_astoreN (lv' := [(4, .null), (0, .ref (b + 0)), (1, .int (iI a0)), (2, .int (iI a1)), (3, .int (iI a2))]) hx hb dX11_over_8 hl (by decide) rfl (fun ls hl => ?_)
    refine lv_aloadN hx hb dX11_over_10 (lv_at hl 0 rfl) ?_
    refine lv_ifnullN (tgt := 46) hx hb dX11_over_12 (by decide) ?_
    refine z_iconst hx hb dX11_over_46 ?_
    exact w_iret hx hb hr hlocks hS hS0 (sI_of (by decide)) h dX11_over_47
  · skip
    obtain ⟨⟨lt5, cd6⟩, h⟩ := h.2 q4 rfl
    obtain ⟨lt7, cd8, lt9, cd10, lt11, cd12⟩ := nx_ring q4 lt5 cd6
    refine lv_astore (lv' := [(4, .ref (b + q4)), (0, .ref (b + 0)), (1, .int (iI a0)), (2, .int (iI a1)), (3, .int (iI a2))]) hx hb dX11_over_8 hl (by decide) rfl (fun ls hl => ?_)
    refine lv_aload hx hb dX11_over_10 (lv_at hl 0 rfl) ?_
    refine lv_ifnull hx hb dX11_over_12 ?_
    refine lv_aload hx hb dX11_over_15 (lv_at hl 0 rfl) ?_
    refine w_getr (j2 := (q4 + 1)) hx hb hts (z_memU u6) hown hK.1 hS f6_0 lt5 (zkd_of cd6 rfl) (zrf_of cd6 rfl) (Or.inl (hts _ (z_mem k96))) dX11_over_17 ?_
    refine lv_iload_n hx hb dX11_over_20 rfl (lv_at hl 3 rfl) ?_
    refine w_callz (va_runV (As := [.int (iI a1)]) (rest := []) ⟨hx, hb, hml, hown, hts⟩ (cC_Strip_has l D dA b M (q4 + 1) a1 lt7 cd8 _ h) (cwV 1 hts (z_gV k385 k327 k328 k3 k329) rfl rfl rfl dm_X8_has ⟨Nat.le_of_ble_eq_true rfl, Nat.le_of_ble_eq_true rfl⟩) ⟨wPre_blind, (w_recv hS hK.1 lt7 (zkd_of cd8 rfl) (by decide) (rfl : vwCl[8]? = some (RX8, TX8, 2))), w_pre hS hK⟩ rfl rfl hl.1 rfl (lv_room (Nat.le_of_ble_eq_true rfl)) dX11_over_21 ⟨Nat.le_refl _, Nat.le_refl _⟩) hS0 (fun z14 M13 H locs r15 h hS hS0 => ?_)
    obtain ⟨e16, h⟩ := h
    rw [e16] at hS
    refine w_if_eq (tgt := 46) hx hb (sI_01 r15) dX11_over_24 (by decide) (fun c17 => ?_) (fun c17 => ?_)
    · skip
      have h := h.1 c17
      refine z_iconst hx hb dX11_over_46 ?_
      exact w_iret hx hb hr hlocks hS hS0 (sI_of (by decide)) h dX11_over_47
    · skip
      have h := h.2 c17
      refine lv_iload_n hx hb dX11_over_27 rfl (lv_at hl 4 rfl) ?_
      refine z_iconst hx hb dX11_over_28 ?_
      refine z_iconst hx hb dX11_over_29 ?_
      refine w_callz (va_runS (As := [.int (iI a2), .int (iI 0), .int (iI 1)]) (rest := []) ⟨hx, hb, hml, hown, hts⟩ (cC_within l D dA b M a2 0 1 _ h) (va_cwS 3 hts (z_gS k382 k383 k1 k384) rfl rfl rfl dm_X11_within.2 ⟨Nat.le_of_ble_eq_true rfl, Nat.le_of_ble_eq_true rfl⟩) ⟨wPre_blind, w_pre hS hK⟩ rfl rfl hl.1 rfl (lv_room (Nat.le_of_ble_eq_true rfl)) dX11_over_30 ⟨Nat.le_refl _, Nat.le_refl _⟩) hS0 (fun z19 M18 H locs r20 h hS hS0 => ?_)
      obtain ⟨e21, h⟩ := h
      rw [e21] at hS
      refine w_if_eq (tgt := 46) hx hb (sI_01 r20) dX11_over_33 (by decide) (fun c22 => ?_) (fun c22 => ?_)
      · skip
        have h := h.1 c22
        refine z_iconst hx hb dX11_over_46 ?_
        exact w_iret hx hb hr hlocks hS hS0 (sI_of (by decide)) h dX11_over_47
      · skip
        have h := h.2 c22
        refine lv_aload_n hx hb dX11_over_36 rfl (lv_at hl 1 rfl) ?_
        refine w_getr (j2 := 30) hx hb hts (z_memU u11) hown hK.1 hS f11_1 (by decide) (zkd_of (rfl : zcd wC 0 = 0) rfl) (zrf_of (rfl : zcd wC 0 = 0) rfl) (Or.inl (hts _ (z_mem k243))) dX11_over_37 ?_
        refine w_geti hx hb hts (z_memU u8) hown hK.1 hS f8_1 (by decide) (zkd_of (rfl : zcd wC 30 = 6) rfl) (Or.inl (hts _ (z_mem k50))) dX11_over_40 ?_
        refine w_if_ne (tgt := 48) hx hb rfl dX11_over_43 (by decide) (fun c23 => ?_) (fun c23 => ?_)
        · skip
          have h := h.1 c23
          refine lv_aload hx hb dX11_over_48 (lv_at hl 0 rfl) ?_
          refine lv_aload_n hx hb dX11_over_50 rfl (lv_at hl 1 rfl) ?_
          refine w_getr (j2 := 30) hx hb hts (z_memU u11) hown hK.1 hS f11_1 (by decide) (zkd_of (rfl : zcd wC 0 = 0) rfl) (zrf_of (rfl : zcd wC 0 = 0) rfl) (Or.inl (hts _ (z_mem k243))) dX11_over_51 ?_
          refine lv_iload_n hx hb dX11_over_54 rfl (lv_at hl 3 rfl) ?_
          refine lv_iload_n hx hb dX11_over_55 rfl (lv_at hl 4 rfl) ?_
          refine z_iconst hx hb dX11_over_56 ?_
          refine w_icmp_ne (tgt := 64) hx hb rfl (sI_of (by decide)) dX11_over_57 (by decide) (fun c24 => ?_) (fun c24 => ?_)
          · skip
            have h := h.1 c24
            refine z_iconst hx hb dX11_over_64 ?_
            refine w_calli (va_runV (As := [.ref (b + 30), .int (iI a1), .int (iI 0)]) (rest := []) ⟨hx, hb, hml, hown, hts⟩ (cC_Ring_layOver l D dA b M q4 30 a1 0 lt5 cd6 (by decide) (rfl : zcd wC 30 = 6) _ h) (cwV 3 hts (z_gV k415 k416 k417 k6 k418) rfl rfl rfl dm_X6_layOver ⟨Nat.le_of_ble_eq_true rfl, Nat.le_of_ble_eq_true rfl⟩) ⟨wPre_blind, (w_recv hS hK.1 lt5 (zkd_of cd6 rfl) (by decide) (rfl : vwCl[6]? = some (RX6, TX6, 6))), w_pre hS hK⟩ rfl rfl hl.1 rfl (lv_room (Nat.le_of_ble_eq_true rfl)) dX11_over_65 ⟨Nat.le_refl _, Nat.le_refl _⟩) hS0 (fun z26 M25 H locs r27 h hS hS0 => ?_)
            exact w_iret hx hb hr hlocks hS hS0 (sI_of r27) h dX11_over_68
          · skip
            have h := h.2 c24
            refine z_iconst hx hb dX11_over_60 ?_
            refine lv_goto (tgt := 65) hx hb dX11_over_61 (by decide) ?_
            refine w_calli (va_runV (As := [.ref (b + 30), .int (iI a1), .int (iI 1)]) (rest := []) ⟨hx, hb, hml, hown, hts⟩ (cC_Ring_layOver l D dA b M q4 30 a1 1 lt5 cd6 (by decide) (rfl : zcd wC 30 = 6) _ h) (cwV 3 hts (z_gV k415 k416 k417 k6 k418) rfl rfl rfl dm_X6_layOver ⟨Nat.le_of_ble_eq_true rfl, Nat.le_of_ble_eq_true rfl⟩) ⟨wPre_blind, (w_recv hS hK.1 lt5 (zkd_of cd6 rfl) (by decide) (rfl : vwCl[6]? = some (RX6, TX6, 6))), w_pre hS hK⟩ rfl rfl hl.1 rfl (lv_room (Nat.le_of_ble_eq_true rfl)) dX11_over_65 ⟨Nat.le_refl _, Nat.le_refl _⟩) hS0 (fun z29 M28 H locs r30 h hS hS0 => ?_)
            exact w_iret hx hb hr hlocks hS hS0 (sI_of r30) h dX11_over_68
        · skip
          have h := h.2 c23
          refine z_iconst hx hb dX11_over_46 ?_
          exact w_iret hx hb hr hlocks hS hS0 (sI_of (by decide)) h dX11_over_47

set_option maxRecDepth 100000 in
def wC_set (a0 : Int) (a1 : Int) (a2 : Int) (M : zM) (Q : Int → zM → Prop) : Prop := wC_Studio_find a0 M (fun z2 => (z2 = none → Q (-1) M) ∧ (∀ q4, z2 = some q4 → (q4 < nC ∧ zcd wC q4 = 14) ∧ (pJ0 (fun J47 => ((sI a1) ≠ 0 → J47) ∧ ((sI a1) = 0 → wC_isMotor a2 M (fun z33 => (z33 = 0 → J47) ∧ (z33 ≠ 0 → (∀ M37 : zM, M37 = zup M q4 1 a2 → Q (sI (M q4 1)) M37))))) (((sI a1) ≠ 1 → Q (-1) M) ∧ ((sI a1) = 1 → wC_Strip_has (q4 + 1) a2 M (fun z25 => (z25 = 0 → Q (-1) M) ∧ (z25 ≠ 0 → (∀ M29 : zM, M29 = zup M q4 2 a2 → Q (sI (M q4 2)) M29))))))))
set_option maxHeartbeats 4000000 in
set_option maxRecDepth 100000 in
theorem cC_set (l : Launch) (D : va_G) (dA : Nat → ClassId) (b : Nat) (M : zM) (a0 : Int) (a1 : Int) (a2 : Int)  (Q : Int → zM → Prop) (h : wC_set a0 a1 a2 M Q) : Met l yX11_set (.code yX11_set cX11_set 6 (some .int) :: zt) (z_rm 2) (va_Pc [.ref (b + 0), .int (iI a0), .int (iI a1), .int (iI a2)] (wPre D dA vwCl (z_tys dA) wC nC b M)) (va_Qi (wQi Q) (zB D dA vwCl wC nC b) (zA nC b)) 0 0 (zA nC b) := by
  unfold wC_set at h
  refine Met.ofW (cc := cX11_set) (maxL := 6) (ret := (some .int)) (by decide) rfl ?_
  intro p e s m args below meth c s₁ B hml hv
  obtain ⟨hargs, hS, hK⟩ := hv
  have hx := B.exec
  have hb := B.bytes
  have hr := B.returns
  have hts := atoms_spec (ws := .code yX11_set cX11_set 6 (some .int) :: zt) B.pre
  have hown : s.vm.findClass RX11 = some m.cls := findClass_of_methodNamed B.named
  have hlocks := B.notSynchronized
  have hS0 : va_S (zA nC b) s.heap s.heap [] := va_S.rf
  have hl := lv_entry ([.ref (b + 0), .int (iI a0), .int (iI a1), .int (iI a2)]) (n := 6) (Nat.le_of_ble_eq_true rfl)
  have hent : entryFrame m args 6 = F0 m 0 ((lg_sl ([.ref (b + 0), .int (iI a0), .int (iI a1), .int (iI a2)]) ++ List.replicate (6 - (lg_sl ([.ref (b + 0), .int (iI a0), .int (iI a1), .int (iI a2)])).length) Slot.unset).toArray) [] := by rw [hargs]; exact lg_entry_eq m ([.ref (b + 0), .int (iI a0), .int (iI a1), .int (iI a2)]) 6
  rw [hent]
  generalize (lg_sl ([.ref (b + 0), .int (iI a0), .int (iI a1), .int (iI a2)]) ++ List.replicate (6 - (lg_sl ([.ref (b + 0), .int (iI a0), .int (iI a1), .int (iI a2)])).length) Slot.unset).toArray = ls at hl ⊢
  have hl : lv_has ls 6 [(0, .ref (b + 0)), (1, .int (iI a0)), (2, .int (iI a1)), (3, .int (iI a2))] := hl
  refine lv_aload_n hx hb dX11_set_0 rfl (lv_at hl 0 rfl) ?_
  refine w_getr (j2 := 32) hx hb hts (z_memU u11) hown hK.1 hS f11_2 (by decide) (zkd_of (rfl : zcd wC 0 = 0) rfl) (zrf_of (rfl : zcd wC 0 = 0) rfl) (Or.inl (hts _ (z_mem k244))) dX11_set_1 ?_
  refine lv_iload_n hx hb dX11_set_4 rfl (lv_at hl 1 rfl) ?_
  refine w_callq (va_runV (As := [.int (iI a0)]) (rest := []) ⟨hx, hb, hml, hown, hts⟩ (cC_Studio_find l D dA b M a0 _ h) (cwV 1 hts (z_gV k411 k412 k413 k4 k414) rfl rfl rfl dm_X9_find ⟨Nat.le_of_ble_eq_true rfl, Nat.le_of_ble_eq_true rfl⟩) ⟨wPre_blind, (w_recv hS hK.1 (by decide) (zkd_of (rfl : zcd wC 32 = 8) rfl) (by decide) (rfl : vwCl[9]? = some (RX9, TX9, 3))), w_pre hS hK⟩ rfl rfl hl.1 rfl (lv_room (Nat.le_of_ble_eq_true rfl)) dX11_set_5 ⟨Nat.le_refl _, Nat.le_refl _⟩) hS0 (fun z2 M1 H locs h hS hS0 => ?_)
  obtain ⟨e3, h⟩ := h
  rw [e3] at hS
  rcases z2 with _ | q4
  · skip
    have h := h.1 rfl
    refine lv_astoreN (lv' := [(4, .null), (0, .ref (b + 0)), (1, .int (iI a0)), (2, .int (iI a1)), (3, .int (iI a2))]) hx hb dX11_set_8 hl (by decide) rfl (fun ls hl => ?_)
    refine lv_aloadN hx hb dX11_set_10 (lv_at hl 0 rfl) ?_
    refine lv_ifnonnullN hx hb dX11_set_12 ?_
    refine z_iconst hx hb dX11_set_15 ?_
    exact w_iret hx hb hr hlocks hS hS0 (sI_of (by decide)) h dX11_set_16
  · skip
    obtain ⟨⟨lt5, cd6⟩, h⟩ := h.2 q4 rfl
    obtain ⟨lt7, cd8, lt9, cd10, lt11, cd12⟩ := nx_ring q4 lt5 cd6
    refine lv_astore (lv' := [(4, .ref (b + q4)), (0, .ref (b + 0)), (1, .int (iI a0)), (2, .int (iI a1)), (3, .int (iI a2))]) hx hb dX11_set_8 hl (by decide) rfl (fun ls hl => ?_)
    refine lv_aload hx hb dX11_set_10 (lv_at hl 0 rfl) ?_
    refine lv_ifnonnull (tgt := 17) hx hb dX11_set_12 (by decide) ?_
    refine z_iconst hx hb dX11_set_17 ?_
    refine lv_istore (lv' := [(5, .int (iI (-1))), (4, .ref (b + q4)), (0, .ref (b + 0)), (1, .int (iI a0)), (2, .int (iI a1)), (3, .int (iI a2))]) hx hb dX11_set_18 hl (by decide) rfl (fun ls hl => ?_)
    refine lv_iload_n hx hb dX11_set_20 rfl (lv_at hl 4 rfl) ?_
    obtain ⟨J47, B22, h⟩ := h
    have L21 : ∀ (H : Heap) (locs : List Loc) (ls : Array Slot), J47 → zR D dA vwCl wC nC b M H → va_S (zA nC b) s.heap H locs → lv_has ls 6 [(2, .int (iI a1)), (3, .int (iI a2)), (4, .ref (b + q4)), (5, .int (iI (-1)))] → W p l e (headSpec (.code yX11_set cX11_set 6 (some .int) :: zt) (z_rm 2)).room s m args below meth c H locs 0 0 (MQ below (va_Qi (wQi Q) (zB D dA vwCl wC nC b) (zA nC b)) args s 0 0 (zA nC b)) (F0 m 47 ls []) := by
      intro  H locs ls h hS hS0 hl
      have h := B22 h
      refine lv_iload_n hx hb dX11_set_47 rfl (lv_at hl 0 rfl) ?_
      refine z_iconst hx hb dX11_set_48 ?_
      refine w_icmp_ne (tgt := 77) hx hb rfl (sI_of (by decide)) dX11_set_49 (by decide) (fun c23 => ?_) (fun c23 => ?_)
      · skip
        have h := h.1 c23
        refine lv_iload hx hb dX11_set_77 (lv_at hl 3 rfl) ?_
        exact w_iret hx hb hr hlocks hS hS0 (sI_of (by decide)) h dX11_set_79
      · skip
        have h := h.2 c23
        refine lv_aload hx hb dX11_set_52 (lv_at hl 2 rfl) ?_
        refine w_getr (j2 := (q4 + 1)) hx hb hts (z_memU u6) hown hK.1 hS f6_0 lt5 (zkd_of cd6 rfl) (zrf_of cd6 rfl) (Or.inl (hts _ (z_mem k96))) dX11_set_54 ?_
        refine lv_iload_n hx hb dX11_set_57 rfl (lv_at hl 1 rfl) ?_
        refine w_callz (va_runV (As := [.int (iI a2)]) (rest := []) ⟨hx, hb, hml, hown, hts⟩ (cC_Strip_has l D dA b M (q4 + 1) a2 lt7 cd8 _ h) (cwV 1 hts (z_gV k385 k327 k328 k3 k329) rfl rfl rfl dm_X8_has ⟨Nat.le_of_ble_eq_true rfl, Nat.le_of_ble_eq_true rfl⟩) ⟨wPre_blind, (w_recv hS hK.1 lt7 (zkd_of cd8 rfl) (by decide) (rfl : vwCl[8]? = some (RX8, TX8, 2))), w_pre hS hK⟩ rfl rfl hl.1 rfl (lv_room (Nat.le_of_ble_eq_true rfl)) dX11_set_58 ⟨Nat.le_refl _, Nat.le_refl _⟩) hS0 (fun z25 M24 H locs r26 h hS hS0 => ?_)
        obtain ⟨e27, h⟩ := h
        rw [e27] at hS
        refine w_if_eq (tgt := 77) hx hb (sI_01 r26) dX11_set_61 (by decide) (fun c28 => ?_) (fun c28 => ?_)
        · skip
          have h := h.1 c28
          refine lv_iload hx hb dX11_set_77 (lv_at hl 3 rfl) ?_
          exact w_iret hx hb hr hlocks hS hS0 (sI_of (by decide)) h dX11_set_79
        · skip
          have h := h.2 c28
          refine lv_aload hx hb dX11_set_64 (lv_at hl 2 rfl) ?_
          refine w_geti hx hb hts (z_memU u6) hown hK.1 hS f6_2 lt5 (zkd_of cd6 rfl) (Or.inl (hts _ (z_mem k103))) dX11_set_66 ?_
          refine lv_istore (lv' := [(5, .int (iI (M q4 2))), (2, .int (iI a1)), (3, .int (iI a2)), (4, .ref (b + q4))]) hx hb dX11_set_69 hl (by decide) rfl (fun ls hl => ?_)
          refine lv_aload hx hb dX11_set_71 (lv_at hl 3 rfl) ?_
          refine lv_iload_n hx hb dX11_set_73 rfl (lv_at hl 2 rfl) ?_
          refine w_puti hx hb hts (z_memU u6) tyX6 tyX6_ok nmX6 hown hK.1 hS hS0 f6_2 lt5 (zkd_of cd6 rfl) (Or.inl (hts _ (z_mem k103))) rfl (z := a2) (by decide +kernel) dX11_set_74 (fun H locs hS hS0 => ?_)
          obtain ⟨M29, e30⟩ : ∃ M29 : zM, M29 = zup M q4 2 a2 := ⟨_, rfl⟩
          rw [← e30] at hS
          have h := h M29 e30
          refine lv_iload hx hb dX11_set_77 (lv_at hl 0 rfl) ?_
          exact w_iret hx hb hr hlocks hS hS0 rfl h dX11_set_79
    refine w_if_ne (tgt := 47) hx hb rfl dX11_set_21 (by decide) (fun c31 => ?_) (fun c31 => ?_)
    · skip
      have h := h.1 c31
      exact L21 _ _ _ h hS hS0 (lv_sub hl [4, 5, 1, 0] rfl)
    · skip
      have h := h.2 c31
      refine lv_iload_n hx hb dX11_set_24 rfl (lv_at hl 5 rfl) ?_
      refine w_callz (va_runS (As := [.int (iI a2)]) (rest := []) ⟨hx, hb, hml, hown, hts⟩ (cC_isMotor l D dA b M a2 _ h) (va_cwS 1 hts (z_gS k379 k380 k1 k381) rfl rfl rfl dm_X11_isMotor.2 ⟨Nat.le_of_ble_eq_true rfl, Nat.le_of_ble_eq_true rfl⟩) ⟨wPre_blind, w_pre hS hK⟩ rfl rfl hl.1 rfl (lv_room (Nat.le_of_ble_eq_true rfl)) dX11_set_25 ⟨Nat.le_refl _, Nat.le_refl _⟩) hS0 (fun z33 M32 H locs r34 h hS hS0 => ?_)
      obtain ⟨e35, h⟩ := h
      rw [e35] at hS
      refine w_if_eq (tgt := 47) hx hb (sI_01 r34) dX11_set_28 (by decide) (fun c36 => ?_) (fun c36 => ?_)
      · skip
        have h := h.1 c36
        exact L21 _ _ _ h hS hS0 (lv_sub hl [4, 5, 1, 0] rfl)
      · skip
        have h := h.2 c36
        refine lv_aload hx hb dX11_set_31 (lv_at hl 1 rfl) ?_
        refine w_geti hx hb hts (z_memU u6) hown hK.1 hS f6_1 lt5 (zkd_of cd6 rfl) (Or.inl (hts _ (z_mem k100))) dX11_set_33 ?_
        refine lv_istore (lv' := [(5, .int (iI (M q4 1))), (4, .ref (b + q4)), (0, .ref (b + 0)), (1, .int (iI a0)), (2, .int (iI a1)), (3, .int (iI a2))]) hx hb dX11_set_36 hl (by decide) rfl (fun ls hl => ?_)
        refine lv_aload hx hb dX11_set_38 (lv_at hl 1 rfl) ?_
        refine lv_iload_n hx hb dX11_set_40 rfl (lv_at hl 5 rfl) ?_
        refine w_puti hx hb hts (z_memU u6) tyX6 tyX6_ok nmX6 hown hK.1 hS hS0 f6_1 lt5 (zkd_of cd6 rfl) (Or.inl (hts _ (z_mem k100))) rfl (z := a2) (by decide +kernel) dX11_set_41 (fun H locs hS hS0 => ?_)
        obtain ⟨M37, e38⟩ : ∃ M37 : zM, M37 = zup M q4 1 a2 := ⟨_, rfl⟩
        rw [← e38] at hS
        have h := h M37 e38
        refine lv_goto (tgt := 77) hx hb dX11_set_44 (by decide) ?_
        refine lv_iload hx hb dX11_set_77 (lv_at hl 0 rfl) ?_
        exact w_iret hx hb hr hlocks hS hS0 rfl h dX11_set_79

set_option maxRecDepth 100000 in
def wC_bitCount (a0 : Int) (M : zM) (Q : Int → Prop) : Prop := (∀ t1 : Int, t1 = ((andI (a0 - (andI (ushrI a0 1) 1431655765)) 858993459) + (andI (ushrI (a0 - (andI (ushrI a0 1) 1431655765)) 2) 858993459)) → (∀ t3 : Int, t3 = ((andI (t1 + (ushrI t1 4)) 252645135) + (ushrI (andI (t1 + (ushrI t1 4)) 252645135) 8)) → Q (andI (t3 + (ushrI t3 16)) 63)))
set_option maxHeartbeats 4000000 in
set_option maxRecDepth 100000 in
theorem cC_bitCount (l : Launch) (D : va_G) (dA : Nat → ClassId) (b : Nat) (M : zM) (a0 : Int)  (Q : Int → Prop) (h : wC_bitCount a0 M Q) : Met l yJ6_bitCount_0f7a4 (.code yJ6_bitCount_0f7a4 cJ6_bitCount_0f7a4 1 (some .int) :: zt) (z_rm 0) (va_Pc [.int (iI a0)] (wPre D dA vwCl (z_tys dA) wC nC b M)) (va_Qi (wQi (fun z9 u9 => u9 = M ∧ Q z9)) (zB D dA vwCl wC nC b) (zA nC b)) 0 0 (zA nC b) := by
  unfold wC_bitCount at h
  refine Met.ofW (cc := cJ6_bitCount_0f7a4) (maxL := 1) (ret := (some .int)) (by decide) rfl ?_
  intro p e s m args below meth c s₁ B hml hv
  obtain ⟨hargs, hS, hK⟩ := hv
  have hx := B.exec
  have hb := B.bytes
  have hr := B.returns
  have hts := atoms_spec (ws := .code yJ6_bitCount_0f7a4 cJ6_bitCount_0f7a4 1 (some .int) :: zt) B.pre
  have hown : s.vm.findClass RJ6 = some m.cls := findClass_of_methodNamed B.named
  have hlocks := B.notSynchronized
  have hS0 : va_S (zA nC b) s.heap s.heap [] := va_S.rf
  have hl := lv_entry ([.int (iI a0)]) (n := 1) (Nat.le_of_ble_eq_true rfl)
  have hent : entryFrame m args 1 = F0 m 0 ((lg_sl ([.int (iI a0)]) ++ List.replicate (1 - (lg_sl ([.int (iI a0)])).length) Slot.unset).toArray) [] := by rw [hargs]; exact lg_entry_eq m ([.int (iI a0)]) 1
  rw [hent]
  generalize (lg_sl ([.int (iI a0)]) ++ List.replicate (1 - (lg_sl ([.int (iI a0)])).length) Slot.unset).toArray = ls at hl ⊢
  have hl : lv_has ls 1 [(0, .int (iI a0))] := hl
  refine lv_iload_n hx hb dJ6_bitCount_0f7a4_0 rfl (lv_at hl 0 rfl) ?_
  refine lv_iload_n hx hb dJ6_bitCount_0f7a4_1 rfl (lv_at hl 0 rfl) ?_
  refine z_iconst hx hb dJ6_bitCount_0f7a4_2 ?_
  refine w_iushr hx hb dJ6_bitCount_0f7a4_3 ?_
  refine z_ldcw (n := 1431655765) hx hb hown (hts _ (z_mem k435)) (by decide) dJ6_bitCount_0f7a4_4 ?_
  refine w_iand hx hb dJ6_bitCount_0f7a4_7 ?_
  refine z_isub hx hb dJ6_bitCount_0f7a4_8 ?_
  refine lv_istore_n (lv' := [(0, .int (iI (a0 - (andI (ushrI a0 1) 1431655765))))]) hx hb dJ6_bitCount_0f7a4_9 rfl hl (by decide) rfl (fun ls hl => ?_)
  refine lv_iload_n hx hb dJ6_bitCount_0f7a4_10 rfl (lv_at hl 0 rfl) ?_
  refine z_ldcw (n := 858993459) hx hb hown (hts _ (z_mem k436)) (by decide) dJ6_bitCount_0f7a4_11 ?_
  refine w_iand hx hb dJ6_bitCount_0f7a4_14 ?_
  refine lv_iload_n hx hb dJ6_bitCount_0f7a4_15 rfl (lv_at hl 0 rfl) ?_
  refine z_iconst hx hb dJ6_bitCount_0f7a4_16 ?_
  refine w_iushr hx hb dJ6_bitCount_0f7a4_17 ?_
  refine z_ldcw (n := 858993459) hx hb hown (hts _ (z_mem k436)) (by decide) dJ6_bitCount_0f7a4_18 ?_
  refine w_iand hx hb dJ6_bitCount_0f7a4_21 ?_
  refine z_iadd hx hb dJ6_bitCount_0f7a4_22 ?_
  obtain ⟨t1, e2⟩ : ∃ t1 : Int, t1 = ((andI (a0 - (andI (ushrI a0 1) 1431655765)) 858993459) + (andI (ushrI (a0 - (andI (ushrI a0 1) 1431655765)) 2) 858993459)) := ⟨_, rfl⟩
  refine z_top (y := t1) e2.symm ?_
  have h := h t1 e2
  refine lv_istore_n (lv' := [(0, .int (iI t1))]) hx hb dJ6_bitCount_0f7a4_23 rfl hl (by decide) rfl (fun ls hl => ?_)
  refine lv_iload_n hx hb dJ6_bitCount_0f7a4_24 rfl (lv_at hl 0 rfl) ?_
  refine lv_iload_n hx hb dJ6_bitCount_0f7a4_25 rfl (lv_at hl 0 rfl) ?_
  refine z_iconst hx hb dJ6_bitCount_0f7a4_26 ?_
  refine w_iushr hx hb dJ6_bitCount_0f7a4_27 ?_
  refine z_iadd hx hb dJ6_bitCount_0f7a4_28 ?_
  refine z_ldcw (n := 252645135) hx hb hown (hts _ (z_mem k437)) (by decide) dJ6_bitCount_0f7a4_29 ?_
  refine w_iand hx hb dJ6_bitCount_0f7a4_32 ?_
  refine lv_istore_n (lv' := [(0, .int (iI (andI (t1 + (ushrI t1 4)) 252645135)))]) hx hb dJ6_bitCount_0f7a4_33 rfl hl (by decide) rfl (fun ls hl => ?_)
  refine lv_iload_n hx hb dJ6_bitCount_0f7a4_34 rfl (lv_at hl 0 rfl) ?_
  refine lv_iload_n hx hb dJ6_bitCount_0f7a4_35 rfl (lv_at hl 0 rfl) ?_
  refine z_bipush hx hb (by decide) dJ6_bitCount_0f7a4_36 ?_
  refine w_iushr hx hb dJ6_bitCount_0f7a4_38 ?_
  refine z_iadd hx hb dJ6_bitCount_0f7a4_39 ?_
  obtain ⟨t3, e4⟩ : ∃ t3 : Int, t3 = ((andI (t1 + (ushrI t1 4)) 252645135) + (ushrI (andI (t1 + (ushrI t1 4)) 252645135) 8)) := ⟨_, rfl⟩
  refine z_top (y := t3) e4.symm ?_
  have h := h t3 e4
  refine lv_istore_n (lv' := [(0, .int (iI t3))]) hx hb dJ6_bitCount_0f7a4_40 rfl hl (by decide) rfl (fun ls hl => ?_)
  refine lv_iload_n hx hb dJ6_bitCount_0f7a4_41 rfl (lv_at hl 0 rfl) ?_
  refine lv_iload_n hx hb dJ6_bitCount_0f7a4_42 rfl (lv_at hl 0 rfl) ?_
  refine z_bipush hx hb (by decide) dJ6_bitCount_0f7a4_43 ?_
  refine w_iushr hx hb dJ6_bitCount_0f7a4_45 ?_
  refine z_iadd hx hb dJ6_bitCount_0f7a4_46 ?_
  refine lv_istore_n (lv' := [(0, .int (iI (t3 + (ushrI t3 16))))]) hx hb dJ6_bitCount_0f7a4_47 rfl hl (by decide) rfl (fun ls hl => ?_)
  refine lv_iload_n hx hb dJ6_bitCount_0f7a4_48 rfl (lv_at hl 0 rfl) ?_
  refine z_bipush hx hb (by decide) dJ6_bitCount_0f7a4_49 ?_
  refine w_iand hx hb dJ6_bitCount_0f7a4_51 ?_
  exact w_iret hx hb hr hlocks hS hS0 (sI_of (andI_R _ _)) ⟨rfl, h⟩ dJ6_bitCount_0f7a4_52

set_option maxRecDepth 100000 in
def wC_Ring_putHead (j : Nat) (a0 : Int) (a1 : Int) (M : zM) (Q : Int → zM → Prop) : Prop := pJ1 (fun J25 => ((sI a1) = 0 → J25 (andI (M j 3) (xorI (shlI 1 a0) (-1)))) ∧ ((sI a1) ≠ 0 → J25 (orI (M j 3) (shlI 1 a0)))) (fun (x8 : Int) => ((sI x8) ≠ 0 → (∀ M12 : zM, M12 = zup M j 3 x8 → wC_Ring_listen j M12 (fun M14 => wC_bitCount (M14 j 3) M14 (fun z16 => Q z16 M14)))) ∧ ((sI x8) = 0 → Q (-1) M))
set_option maxHeartbeats 4000000 in
set_option maxRecDepth 100000 in
theorem cC_Ring_putHead (l : Launch) (D : va_G) (dA : Nat → ClassId) (b : Nat) (M : zM) (j : Nat) (a0 : Int) (a1 : Int) (lt_j : j < nC) (cd_j : zcd wC j = 14) (Q : Int → zM → Prop) (h : wC_Ring_putHead j a0 a1 M Q) : Met l yX6_putHead (.code yX6_putHead cX6_putHead 4 (some .int) :: zt) (z_rm 4) (va_Pc [.ref (b + j), .int (iI a0), .int (iI a1)] (wPre D dA vwCl (z_tys dA) wC nC b M)) (va_Qi (wQi Q) (zB D dA vwCl wC nC b) (zA nC b)) 0 0 (zA nC b) := by
  unfold wC_Ring_putHead at h
  refine Met.ofW (cc := cX6_putHead) (maxL := 4) (ret := (some .int)) (by decide) rfl ?_
  intro p e s m args below meth c s₁ B hml hv
  obtain ⟨hargs, hS, hK⟩ := hv
  have hx := B.exec
  have hb := B.bytes
  have hr := B.returns
  have hts := atoms_spec (ws := .code yX6_putHead cX6_putHead 4 (some .int) :: zt) B.pre
  have hown : s.vm.findClass RX6 = some m.cls := findClass_of_methodNamed B.named
  have hlocks := B.notSynchronized
  have hS0 : va_S (zA nC b) s.heap s.heap [] := va_S.rf
  have hl := lv_entry ([.ref (b + j), .int (iI a0), .int (iI a1)]) (n := 4) (Nat.le_of_ble_eq_true rfl)
  have hent : entryFrame m args 4 = F0 m 0 ((lg_sl ([.ref (b + j), .int (iI a0), .int (iI a1)]) ++ List.replicate (4 - (lg_sl ([.ref (b + j), .int (iI a0), .int (iI a1)])).length) Slot.unset).toArray) [] := by rw [hargs]; exact lg_entry_eq m ([.ref (b + j), .int (iI a0), .int (iI a1)]) 4
  rw [hent]
  generalize (lg_sl ([.ref (b + j), .int (iI a0), .int (iI a1)]) ++ List.replicate (4 - (lg_sl ([.ref (b + j), .int (iI a0), .int (iI a1)])).length) Slot.unset).toArray = ls at hl ⊢
  have hl : lv_has ls 4 [(0, .ref (b + j)), (1, .int (iI a0)), (2, .int (iI a1))] := hl
  obtain ⟨lt1, cd2, lt3, cd4, lt5, cd6⟩ := nx_ring j lt_j cd_j
  refine lv_iload_n hx hb dX6_putHead_0 rfl (lv_at hl 2 rfl) ?_
  obtain ⟨J25, B10, h⟩ := h
  have L9 : ∀ (x8 : Int) (H : Heap) (locs : List Loc) (ls : Array Slot), J25 x8 → zR D dA vwCl wC nC b M H → va_S (zA nC b) s.heap H locs → lv_has ls 4 [(0, .ref (b + j))] → W p l e (headSpec (.code yX6_putHead cX6_putHead 4 (some .int) :: zt) (z_rm 4)).room s m args below meth c H locs 0 0 (MQ below (va_Qi (wQi Q) (zB D dA vwCl wC nC b) (zA nC b)) args s 0 0 (zA nC b)) (F0 m 25 ls [.int (iI x8)]) := by
    intro x8 H locs ls h hS hS0 hl
    have h := B10 x8 h
    refine lv_istore_n (lv' := [(3, .int (iI x8)), (0, .ref (b + j))]) hx hb dX6_putHead_25 rfl hl (by decide) rfl (fun ls hl => ?_)
    refine lv_iload_n hx hb dX6_putHead_26 rfl (lv_at hl 0 rfl) ?_
    refine w_if_ne (tgt := 32) hx hb rfl dX6_putHead_27 (by decide) (fun c11 => ?_) (fun c11 => ?_)
    · skip
      have h := h.1 c11
      refine lv_aload_n hx hb dX6_putHead_32 rfl (lv_at hl 1 rfl) ?_
      refine lv_iload_n hx hb dX6_putHead_33 rfl (lv_at hl 0 rfl) ?_
      refine w_puti hx hb hts (z_memU u6) tyX6 tyX6_ok nmX6 hown hK.1 hS hS0 f6_3 lt_j (zkd_of cd_j rfl) (Or.inl (hts _ (z_mem k104))) rfl (z := x8) (by decide +kernel) dX6_putHead_34 (fun H locs hS hS0 => ?_)
      obtain ⟨M12, e13⟩ : ∃ M12 : zM, M12 = zup M j 3 x8 := ⟨_, rfl⟩
      rw [← e13] at hS
      have h := h M12 e13
      refine lv_aload_n hx hb dX6_putHead_37 rfl (lv_at hl 1 rfl) ?_
      refine w_callv (va_runV (As := []) (rest := []) ⟨hx, hb, hml, hown, hts⟩ (cC_Ring_listen l D dA b M12 j lt_j cd_j _ h) (cwV 0 hts (z_gV k395 k396 k1363 k6 k397) rfl rfl rfl dm_X6_listen ⟨Nat.le_of_ble_eq_true rfl, Nat.le_of_ble_eq_true rfl⟩) ⟨wPre_blind, (w_recv hS hK.1 lt_j (zkd_of cd_j rfl) (by decide) (rfl : vwCl[6]? = some (RX6, TX6, 6))), w_pre hS hK⟩ rfl rfl hl.1 rfl (lv_room (Nat.le_of_ble_eq_true rfl)) dX6_putHead_38 ⟨Nat.le_refl _, Nat.le_refl _⟩) hS0 (fun M14 H locs h hS hS0 => ?_)
      refine lv_aload_n hx hb dX6_putHead_41 rfl (lv_at hl 1 rfl) ?_
      refine w_geti hx hb hts (z_memU u6) hown hK.1 hS f6_3 lt_j (zkd_of cd_j rfl) (Or.inl (hts _ (z_mem k104))) dX6_putHead_42 ?_
      refine w_calli (va_runS (As := [.int (iI (M14 j 3))]) (rest := []) ⟨hx, hb, hml, hown, hts⟩ (cC_bitCount l D dA b M14 (M14 j 3) _ h) (va_cwS 1 hts (z_gS k432 k433 k17 k434) rfl rfl rfl dm_J6_bitCount_0f7a4.2 ⟨Nat.le_of_ble_eq_true rfl, Nat.le_of_ble_eq_true rfl⟩) ⟨wPre_blind, w_pre hS hK⟩ rfl rfl hl.1 rfl (lv_room (Nat.le_of_ble_eq_true rfl)) dX6_putHead_45 ⟨Nat.le_refl _, Nat.le_refl _⟩) hS0 (fun z16 M15 H locs r17 h hS hS0 => ?_)
      obtain ⟨e18, h⟩ := h
      rw [e18] at hS
      exact w_iret hx hb hr hlocks hS hS0 (sI_of r17) h dX6_putHead_48
    · skip
      have h := h.2 c11
      refine z_iconst hx hb dX6_putHead_30 ?_
      exact w_iret hx hb hr hlocks hS hS0 (sI_of (by decide)) h dX6_putHead_31
  refine w_if_eq (tgt := 15) hx hb rfl dX6_putHead_1 (by decide) (fun c19 => ?_) (fun c19 => ?_)
  · skip
    have h := h.1 c19
    refine lv_aload_n hx hb dX6_putHead_15 rfl (lv_at hl 0 rfl) ?_
    refine w_geti hx hb hts (z_memU u6) hown hK.1 hS f6_3 lt_j (zkd_of cd_j rfl) (Or.inl (hts _ (z_mem k104))) dX6_putHead_16 ?_
    refine z_iconst hx hb dX6_putHead_19 ?_
    refine lv_iload_n hx hb dX6_putHead_20 rfl (lv_at hl 1 rfl) ?_
    refine w_ishl hx hb dX6_putHead_21 ?_
    refine z_iconst hx hb dX6_putHead_22 ?_
    refine w_ixor hx hb dX6_putHead_23 ?_
    refine w_iand hx hb dX6_putHead_24 ?_
    exact L9 (andI (M j 3) (xorI (shlI 1 a0) (-1))) _ _ _ h hS hS0 (lv_sub hl [0] rfl)
  · skip
    have h := h.2 c19
    refine lv_aload_n hx hb dX6_putHead_4 rfl (lv_at hl 0 rfl) ?_
    refine w_geti hx hb hts (z_memU u6) hown hK.1 hS f6_3 lt_j (zkd_of cd_j rfl) (Or.inl (hts _ (z_mem k104))) dX6_putHead_5 ?_
    refine z_iconst hx hb dX6_putHead_8 ?_
    refine lv_iload_n hx hb dX6_putHead_9 rfl (lv_at hl 1 rfl) ?_
    refine w_ishl hx hb dX6_putHead_10 ?_
    refine w_ior hx hb dX6_putHead_11 ?_
    refine lv_goto (tgt := 25) hx hb dX6_putHead_12 (by decide) ?_
    exact L9 (orI (M j 3) (shlI 1 a0)) _ _ _ h hS hS0 (lv_sub hl [0] rfl)

set_option maxRecDepth 100000 in
def wC_head (a0 : Int) (a1 : Int) (a2 : Int) (M : zM) (Q : Int → zM → Prop) : Prop := wC_Studio_find a0 M (fun z2 => (z2 = none → Q (-1) M) ∧ (∀ q4, z2 = some q4 → (q4 < nC ∧ zcd wC q4 = 14) ∧ (wC_within a1 0 23 M (fun z14 => (z14 ≠ 0 → wC_Ring_putHead q4 a1 a2 M (fun z19 M18 => Q z19 M18)) ∧ (z14 = 0 → Q (-1) M)))))
set_option maxHeartbeats 4000000 in
set_option maxRecDepth 100000 in
theorem cC_head (l : Launch) (D : va_G) (dA : Nat → ClassId) (b : Nat) (M : zM) (a0 : Int) (a1 : Int) (a2 : Int)  (Q : Int → zM → Prop) (h : wC_head a0 a1 a2 M Q) : Met l yX11_head (.code yX11_head cX11_head 5 (some .int) :: zt) (z_rm 5) (va_Pc [.ref (b + 0), .int (iI a0), .int (iI a1), .int (iI a2)] (wPre D dA vwCl (z_tys dA) wC nC b M)) (va_Qi (wQi Q) (zB D dA vwCl wC nC b) (zA nC b)) 0 0 (zA nC b) := by
  unfold wC_head at h
  refine Met.ofW (cc := cX11_head) (maxL := 5) (ret := (some .int)) (by decide) rfl ?_
  intro p e s m args below meth c s₁ B hml hv
  obtain ⟨hargs, hS, hK⟩ := hv
  have hx := B.exec
  have hb := B.bytes
  have hr := B.returns
  have hts := atoms_spec (ws := .code yX11_head cX11_head 5 (some .int) :: zt) B.pre
  have hown : s.vm.findClass RX11 = some m.cls := findClass_of_methodNamed B.named
  have hlocks := B.notSynchronized
  have hS0 : va_S (zA nC b) s.heap s.heap [] := va_S.rf
  have hl := lv_entry ([.ref (b + 0), .int (iI a0), .int (iI a1), .int (iI a2)]) (n := 5) (Nat.le_of_ble_eq_true rfl)
  have hent : entryFrame m args 5 = F0 m 0 ((lg_sl ([.ref (b + 0), .int (iI a0), .int (iI a1), .int (iI a2)]) ++ List.replicate (5 - (lg_sl ([.ref (b + 0), .int (iI a0), .int (iI a1), .int (iI a2)])).length) Slot.unset).toArray) [] := by rw [hargs]; exact lg_entry_eq m ([.ref (b + 0), .int (iI a0), .int (iI a1), .int (iI a2)]) 5
  rw [hent]
  generalize (lg_sl ([.ref (b + 0), .int (iI a0), .int (iI a1), .int (iI a2)]) ++ List.replicate (5 - (lg_sl ([.ref (b + 0), .int (iI a0), .int (iI a1), .int (iI a2)])).length) Slot.unset).toArray = ls at hl ⊢
  have hl : lv_has ls 5 [(0, .ref (b + 0)), (1, .int (iI a0)), (2, .int (iI a1)), (3, .int (iI a2))] := hl
  refine lv_aload_n hx hb dX11_head_0 rfl (lv_at hl 0 rfl) ?_
  refine w_getr (j2 := 32) hx hb hts (z_memU u11) hown hK.1 hS f11_2 (by decide) (zkd_of (rfl : zcd wC 0 = 0) rfl) (zrf_of (rfl : zcd wC 0 = 0) rfl) (Or.inl (hts _ (z_mem k244))) dX11_head_1 ?_
  refine lv_iload_n hx hb dX11_head_4 rfl (lv_at hl 1 rfl) ?_
  refine w_callq (va_runV (As := [.int (iI a0)]) (rest := []) ⟨hx, hb, hml, hown, hts⟩ (cC_Studio_find l D dA b M a0 _ h) (cwV 1 hts (z_gV k411 k412 k413 k4 k414) rfl rfl rfl dm_X9_find ⟨Nat.le_of_ble_eq_true rfl, Nat.le_of_ble_eq_true rfl⟩) ⟨wPre_blind, (w_recv hS hK.1 (by decide) (zkd_of (rfl : zcd wC 32 = 8) rfl) (by decide) (rfl : vwCl[9]? = some (RX9, TX9, 3))), w_pre hS hK⟩ rfl rfl hl.1 rfl (lv_room (Nat.le_of_ble_eq_true rfl)) dX11_head_5 ⟨Nat.le_refl _, Nat.le_refl _⟩) hS0 (fun z2 M1 H locs h hS hS0 => ?_)
  obtain ⟨e3, h⟩ := h
  rw [e3] at hS
  rcases z2 with _ | q4
  · skip
    have h := h.1 rfl
    refine lv_astoreN (lv' := [(4, .null), (0, .ref (b + 0)), (1, .int (iI a0)), (2, .int (iI a1)), (3, .int (iI a2))]) hx hb dX11_head_8 hl (by decide) rfl (fun ls hl => ?_)
    refine lv_aloadN hx hb dX11_head_10 (lv_at hl 0 rfl) ?_
    refine lv_ifnullN (tgt := 25) hx hb dX11_head_12 (by decide) ?_
    refine z_iconst hx hb dX11_head_25 ?_
    exact w_iret hx hb hr hlocks hS hS0 (sI_of (by decide)) h dX11_head_26
  · skip
    obtain ⟨⟨lt5, cd6⟩, h⟩ := h.2 q4 rfl
    obtain ⟨lt7, cd8, lt9, cd10, lt11, cd12⟩ := nx_ring q4 lt5 cd6
    refine lv_astore (lv' := [(4, .ref (b + q4)), (0, .ref (b + 0)), (1, .int (iI a0)), (2, .int (iI a1)), (3, .int (iI a2))]) hx hb dX11_head_8 hl (by decide) rfl (fun ls hl => ?_)
    refine lv_aload hx hb dX11_head_10 (lv_at hl 0 rfl) ?_
    refine lv_ifnull hx hb dX11_head_12 ?_
    refine lv_iload_n hx hb dX11_head_15 rfl (lv_at hl 3 rfl) ?_
    refine z_iconst hx hb dX11_head_16 ?_
    refine z_bipush hx hb (by decide) dX11_head_17 ?_
    refine w_callz (va_runS (As := [.int (iI a1), .int (iI 0), .int (iI 23)]) (rest := []) ⟨hx, hb, hml, hown, hts⟩ (cC_within l D dA b M a1 0 23 _ h) (va_cwS 3 hts (z_gS k382 k383 k1 k384) rfl rfl rfl dm_X11_within.2 ⟨Nat.le_of_ble_eq_true rfl, Nat.le_of_ble_eq_true rfl⟩) ⟨wPre_blind, w_pre hS hK⟩ rfl rfl hl.1 rfl (lv_room (Nat.le_of_ble_eq_true rfl)) dX11_head_19 ⟨Nat.le_refl _, Nat.le_refl _⟩) hS0 (fun z14 M13 H locs r15 h hS hS0 => ?_)
    obtain ⟨e16, h⟩ := h
    rw [e16] at hS
    refine w_if_ne (tgt := 27) hx hb (sI_01 r15) dX11_head_22 (by decide) (fun c17 => ?_) (fun c17 => ?_)
    · skip
      have h := h.1 c17
      refine lv_aload hx hb dX11_head_27 (lv_at hl 0 rfl) ?_
      refine lv_iload_n hx hb dX11_head_29 rfl (lv_at hl 3 rfl) ?_
      refine lv_iload_n hx hb dX11_head_30 rfl (lv_at hl 4 rfl) ?_
      refine w_calli (va_runV (As := [.int (iI a1), .int (iI a2)]) (rest := []) ⟨hx, hb, hml, hown, hts⟩ (cC_Ring_putHead l D dA b M q4 a1 a2 lt5 cd6 _ h) (cwV 2 hts (z_gV k428 k429 k430 k6 k431) rfl rfl rfl dm_X6_putHead ⟨Nat.le_of_ble_eq_true rfl, Nat.le_of_ble_eq_true rfl⟩) ⟨wPre_blind, (w_recv hS hK.1 lt5 (zkd_of cd6 rfl) (by decide) (rfl : vwCl[6]? = some (RX6, TX6, 6))), w_pre hS hK⟩ rfl rfl hl.1 rfl (lv_room (Nat.le_of_ble_eq_true rfl)) dX11_head_31 ⟨Nat.le_refl _, Nat.le_refl _⟩) hS0 (fun z19 M18 H locs r20 h hS hS0 => ?_)
      exact w_iret hx hb hr hlocks hS hS0 (sI_of r20) h dX11_head_34
    · skip
      have h := h.2 c17
      refine z_iconst hx hb dX11_head_25 ?_
      exact w_iret hx hb hr hlocks hS hS0 (sI_of (by decide)) h dX11_head_26

set_option maxRecDepth 100000 in
def wC_Studio_motorOf (a0 : Int) (M : zM) (Q : Option Nat → Prop) : Prop := ((sI a0) ≠ 0 → Q (some 38)) ∧ ((sI a0) = 0 → Q (some 35))
set_option maxHeartbeats 4000000 in
set_option maxRecDepth 100000 in
theorem cC_Studio_motorOf (l : Launch) (D : va_G) (dA : Nat → ClassId) (b : Nat) (M : zM) (a0 : Int)  (Q : Option Nat → Prop) (h : wC_Studio_motorOf a0 M Q) : Met l yX9_motorOf (.code yX9_motorOf cX9_motorOf 2 (some (.object "TapeRings$Motor")) :: zt) (z_rm 0) (va_Pc [.ref (b + 32), .int (iI a0)] (wPre D dA vwCl (z_tys dA) wC nC b M)) (va_Qq (wQq b (fun z9 u9 => u9 = M ∧ Q z9)) (zB D dA vwCl wC nC b) (zA nC b)) 0 0 (zA nC b) := by
  unfold wC_Studio_motorOf at h
  refine Met.ofW (cc := cX9_motorOf) (maxL := 2) (ret := (some (.object "TapeRings$Motor"))) (by decide) rfl ?_
  intro p e s m args below meth c s₁ B hml hv
  obtain ⟨hargs, hS, hK⟩ := hv
  have hx := B.exec
  have hb := B.bytes
  have hr := B.returns
  have hts := atoms_spec (ws := .code yX9_motorOf cX9_motorOf 2 (some (.object "TapeRings$Motor")) :: zt) B.pre
  have hown : s.vm.findClass RX9 = some m.cls := findClass_of_methodNamed B.named
  have hlocks := B.notSynchronized
  have hS0 : va_S (zA nC b) s.heap s.heap [] := va_S.rf
  have hl := lv_entry ([.ref (b + 32), .int (iI a0)]) (n := 2) (Nat.le_of_ble_eq_true rfl)
  have hent : entryFrame m args 2 = F0 m 0 ((lg_sl ([.ref (b + 32), .int (iI a0)]) ++ List.replicate (2 - (lg_sl ([.ref (b + 32), .int (iI a0)])).length) Slot.unset).toArray) [] := by rw [hargs]; exact lg_entry_eq m ([.ref (b + 32), .int (iI a0)]) 2
  rw [hent]
  generalize (lg_sl ([.ref (b + 32), .int (iI a0)]) ++ List.replicate (2 - (lg_sl ([.ref (b + 32), .int (iI a0)])).length) Slot.unset).toArray = ls at hl ⊢
  have hl : lv_has ls 2 [(0, .ref (b + 32)), (1, .int (iI a0))] := hl
  refine lv_aload_n hx hb dX9_motorOf_0 rfl (lv_at hl 0 rfl) ?_
  refine w_getr (j2 := 33) hx hb hts (z_memU u9) hown hK.1 hS f9_0 (by decide) (zkd_of (rfl : zcd wC 32 = 8) rfl) (zrf_of (rfl : zcd wC 32 = 8) rfl) (Or.inl (hts _ (z_mem k116))) dX9_motorOf_1 ?_
  refine lv_iload_n hx hb dX9_motorOf_4 rfl (lv_at hl 1 rfl) ?_
  refine w_if_ne (tgt := 12) hx hb rfl dX9_motorOf_5 (by decide) (fun c1 => ?_) (fun c1 => ?_)
  · skip
    have h := h.1 c1
    refine z_iconst hx hb dX9_motorOf_12 ?_
    refine w_aald (n := 2) (i := 1) (j2 := 38) hx hb hK.1 (t0 := 5) (r := 5) (by decide) rfl rfl hS (by decide) (zkd_of (rfl : zcd wC 33 = 9) rfl) (zln_of (rfl : zcd wC 33 = 9) rfl) (sI_of (by decide)) (by decide) (by decide) (by decide) (zrf_of (rfl : zcd wC 33 = 9) rfl) dX9_motorOf_13 ?_
    exact w_aret hx hb hr (Or.inl ⟨_, rfl⟩) hlocks hS hS0 (some 38) rfl ⟨rfl, h⟩ dX9_motorOf_14
  · skip
    have h := h.2 c1
    refine z_iconst hx hb dX9_motorOf_8 ?_
    refine lv_goto (tgt := 13) hx hb dX9_motorOf_9 (by decide) ?_
    refine w_aald (n := 2) (i := 0) (j2 := 35) hx hb hK.1 (t0 := 5) (r := 5) (by decide) rfl rfl hS (by decide) (zkd_of (rfl : zcd wC 33 = 9) rfl) (zln_of (rfl : zcd wC 33 = 9) rfl) (sI_of (by decide)) (by decide) (by decide) (by decide) (zrf_of (rfl : zcd wC 33 = 9) rfl) dX9_motorOf_13 ?_
    exact w_aret hx hb hr (Or.inl ⟨_, rfl⟩) hlocks hS hS0 (some 35) rfl ⟨rfl, h⟩ dX9_motorOf_14

set_option maxRecDepth 100000 in
def wC_Motor_tell (j : Nat) (a0 : Int) (a1 : Int) (M : zM) (Q : Int → zM → Prop) : Prop := pL1 (fun K2 x5 => pJ0 (fun J26 => ((sI (M j 2)) ≤ (sI x5) → J26) ∧ ((sI x5) < (sI (M j 2)) → ((0 ≤ (sI x5) ∧ (sI x5) < 12) ∧ ((sI a0) ≤ (sI (M (j + 1) (sI x5).toNat)) → J26) ∧ ((sI (M (j + 1) (sI x5).toNat)) < (sI a0) → K2 (x5 + 1))))) (pJ0 (fun J53 => ((sI (M j 2)) ≤ (sI x5) → J53) ∧ ((sI x5) < (sI (M j 2)) → ((0 ≤ (sI x5) ∧ (sI x5) < 12) ∧ ((sI (M (j + 1) (sI x5).toNat)) ≠ (sI a0) → J53) ∧ ((sI (M (j + 1) (sI x5).toNat)) = (sI a0) → ((0 ≤ (sI x5) ∧ (sI x5) < 12) ∧ (∀ M61 : zM, M61 = zup M (j + 2) (sI x5).toNat a1 → Q 1 M61)))))) (((sI (M j 2)) < 12 → wL1 (fun K70 x29 M30 => ((sI x29) ≤ (sI x5) → ((0 ≤ (sI x5) ∧ (sI x5) < 12) ∧ (∀ M40 : zM, M40 = zup M30 (j + 1) (sI x5).toNat a0 → ((0 ≤ (sI x5) ∧ (sI x5) < 12) ∧ (∀ M43 : zM, M43 = zup M40 (j + 2) (sI x5).toNat a1 → (∀ M45 : zM, M45 = zup M43 j 2 ((M43 j 2) + 1) → Q 1 M45)))))) ∧ ((sI x5) < (sI x29) → ((0 ≤ (sI (x29 - 1)) ∧ (sI (x29 - 1)) < 12) ∧ ((0 ≤ (sI x29) ∧ (sI x29) < 12) ∧ (∀ M49 : zM, M49 = zup M30 (j + 1) (sI x29).toNat (M30 (j + 1) (sI (x29 - 1)).toNat) → ((0 ≤ (sI (x29 - 1)) ∧ (sI (x29 - 1)) < 12) ∧ ((0 ≤ (sI x29) ∧ (sI x29) < 12) ∧ (∀ M53 : zM, M53 = zup M49 (j + 2) (sI x29).toNat (M49 (j + 2) (sI (x29 - 1)).toNat) → K70 (x29 + (-1)) M53)))))))) (M j 2) M) ∧ (12 ≤ (sI (M j 2)) → Q 0 M)))) 0
set_option maxHeartbeats 4000000 in
set_option maxRecDepth 100000 in
theorem cC_Motor_tell (l : Launch) (D : va_G) (dA : Nat → ClassId) (b : Nat) (M : zM) (j : Nat) (a0 : Int) (a1 : Int) (lt_j : j < nC) (cd_j : zcd wC j = 11) (Q : Int → zM → Prop) (h : wC_Motor_tell j a0 a1 M Q) : Met l yX2_tell (.code yX2_tell cX2_tell 5 (some .boolean) :: zt) (z_rm 0) (va_Pc [.ref (b + j), .int (iI a0), .int (iI a1)] (wPre D dA vwCl (z_tys dA) wC nC b M)) (va_Qi (wQz Q) (zB D dA vwCl wC nC b) (zA nC b)) 0 0 (zA nC b) := by
  unfold wC_Motor_tell at h
  refine Met.ofW (cc := cX2_tell) (maxL := 5) (ret := (some .boolean)) (by decide) rfl ?_
  intro p e s m args below meth c s₁ B hml hv
  obtain ⟨hargs, hS, hK⟩ := hv
  have hx := B.exec
  have hb := B.bytes
  have hr := B.returns
  have hts := atoms_spec (ws := .code yX2_tell cX2_tell 5 (some .boolean) :: zt) B.pre
  have hown : s.vm.findClass RX2 = some m.cls := findClass_of_methodNamed B.named
  have hlocks := B.notSynchronized
  have hS0 : va_S (zA nC b) s.heap s.heap [] := va_S.rf
  have hl := lv_entry ([.ref (b + j), .int (iI a0), .int (iI a1)]) (n := 5) (Nat.le_of_ble_eq_true rfl)
  have hent : entryFrame m args 5 = F0 m 0 ((lg_sl ([.ref (b + j), .int (iI a0), .int (iI a1)]) ++ List.replicate (5 - (lg_sl ([.ref (b + j), .int (iI a0), .int (iI a1)])).length) Slot.unset).toArray) [] := by rw [hargs]; exact lg_entry_eq m ([.ref (b + j), .int (iI a0), .int (iI a1)]) 5
  rw [hent]
  generalize (lg_sl ([.ref (b + j), .int (iI a0), .int (iI a1)]) ++ List.replicate (5 - (lg_sl ([.ref (b + j), .int (iI a0), .int (iI a1)])).length) Slot.unset).toArray = ls at hl ⊢
  have hl : lv_has ls 5 [(0, .ref (b + j)), (1, .int (iI a0)), (2, .int (iI a1))] := hl
  obtain ⟨lt1, cd2, lt3, cd4⟩ := nx_motor j lt_j cd_j
  refine z_iconst hx hb dX2_tell_0 ?_
  refine lv_istore_n (lv' := [(3, .int (iI 0)), (0, .ref (b + j)), (1, .int (iI a0)), (2, .int (iI a1))]) hx hb dX2_tell_1 rfl hl (by decide) rfl (fun ls hl => ?_)
  obtain ⟨I6, ⟨n7, h8⟩, h9⟩ := h
  have L10 : ∀ (n11 : Nat) (x5 : Int) (H : Heap) (locs : List Loc) (ls : Array Slot), I6 n11 x5 → zR D dA vwCl wC nC b M H → va_S (zA nC b) s.heap H locs → lv_has ls 5 [(0, .ref (b + j)), (1, .int (iI a0)), (2, .int (iI a1)), (3, .int (iI x5))] → W p l e (headSpec (.code yX2_tell cX2_tell 5 (some .boolean) :: zt) (z_rm 0)).room s m args below meth c H locs 0 0 (MQ below (va_Qi (wQz Q) (zB D dA vwCl wC nC b) (zA nC b)) args s 0 0 (zA nC b)) (F0 m 2 ls []) := by
    intro n11
    induction n11 using Nat.strongRecOn with
    | ind n11 i12 =>
      intro x5 H locs ls h hS hS0 hl
      have h := h9 n11 x5 h
      refine lv_iload_n hx hb dX2_tell_2 rfl (lv_at hl 3 rfl) ?_
      refine lv_aload_n hx hb dX2_tell_3 rfl (lv_at hl 0 rfl) ?_
      refine w_geti hx hb hts (z_memU u2) hown hK.1 hS f2_2 lt_j (zkd_of cd_j rfl) (Or.inl (hts _ (z_mem k84))) dX2_tell_4 ?_
      obtain ⟨J26, B19, h⟩ := h
      have L18 : ∀ (H : Heap) (locs : List Loc) (ls : Array Slot), J26 → zR D dA vwCl wC nC b M H → va_S (zA nC b) s.heap H locs → lv_has ls 5 [(0, .ref (b + j)), (1, .int (iI a0)), (2, .int (iI a1)), (3, .int (iI x5))] → W p l e (headSpec (.code yX2_tell cX2_tell 5 (some .boolean) :: zt) (z_rm 0)).room s m args below meth c H locs 0 0 (MQ below (va_Qi (wQz Q) (zB D dA vwCl wC nC b) (zA nC b)) args s 0 0 (zA nC b)) (F0 m 26 ls []) := by
        intro  H locs ls h hS hS0 hl
        have h := B19 h
        refine lv_iload_n hx hb dX2_tell_26 rfl (lv_at hl 3 rfl) ?_
        refine lv_aload_n hx hb dX2_tell_27 rfl (lv_at hl 0 rfl) ?_
        refine w_geti hx hb hts (z_memU u2) hown hK.1 hS f2_2 lt_j (zkd_of cd_j rfl) (Or.inl (hts _ (z_mem k84))) dX2_tell_28 ?_
        obtain ⟨J53, B27, h⟩ := h
        have L26 : ∀ (H : Heap) (locs : List Loc) (ls : Array Slot), J53 → zR D dA vwCl wC nC b M H → va_S (zA nC b) s.heap H locs → lv_has ls 5 [(0, .ref (b + j)), (1, .int (iI a0)), (2, .int (iI a1)), (3, .int (iI x5))] → W p l e (headSpec (.code yX2_tell cX2_tell 5 (some .boolean) :: zt) (z_rm 0)).room s m args below meth c H locs 0 0 (MQ below (va_Qi (wQz Q) (zB D dA vwCl wC nC b) (zA nC b)) args s 0 0 (zA nC b)) (F0 m 53 ls []) := by
          intro  H locs ls h hS hS0 hl
          have h := B27 h
          refine lv_aload_n hx hb dX2_tell_53 rfl (lv_at hl 0 rfl) ?_
          refine w_geti hx hb hts (z_memU u2) hown hK.1 hS f2_2 lt_j (zkd_of cd_j rfl) (Or.inl (hts _ (z_mem k84))) dX2_tell_54 ?_
          refine z_bipush hx hb (by decide) dX2_tell_57 ?_
          refine w_icmp_lt (tgt := 64) hx hb rfl (sI_of (by decide)) dX2_tell_59 (by decide) (fun c28 => ?_) (fun c28 => ?_)
          · skip
            have h := h.1 c28
            refine lv_aload_n hx hb dX2_tell_64 rfl (lv_at hl 0 rfl) ?_
            refine w_geti hx hb hts (z_memU u2) hown hK.1 hS f2_2 lt_j (zkd_of cd_j rfl) (Or.inl (hts _ (z_mem k84))) dX2_tell_65 ?_
            refine lv_istore (lv' := [(4, .int (iI (M j 2))), (0, .ref (b + j)), (1, .int (iI a0)), (2, .int (iI a1)), (3, .int (iI x5))]) hx hb dX2_tell_68 hl (by decide) rfl (fun ls hl => ?_)
            obtain ⟨I31, ⟨n32, h33⟩, h34⟩ := h
            have L35 : ∀ (n36 : Nat) (x29 : Int) (M30 : zM) (H : Heap) (locs : List Loc) (ls : Array Slot), I31 n36 x29 M30 → zR D dA vwCl wC nC b M30 H → va_S (zA nC b) s.heap H locs → lv_has ls 5 [(0, .ref (b + j)), (1, .int (iI a0)), (2, .int (iI a1)), (3, .int (iI x5)), (4, .int (iI x29))] → W p l e (headSpec (.code yX2_tell cX2_tell 5 (some .boolean) :: zt) (z_rm 0)).room s m args below meth c H locs 0 0 (MQ below (va_Qi (wQz Q) (zB D dA vwCl wC nC b) (zA nC b)) args s 0 0 (zA nC b)) (F0 m 70 ls []) := by
              intro n36
              induction n36 using Nat.strongRecOn with
              | ind n36 i37 =>
                intro x29 M30 H locs ls h hS hS0 hl
                have h := h34 n36 x29 M30 h
                refine lv_iload hx hb dX2_tell_70 (lv_at hl 4 rfl) ?_
                refine lv_iload_n hx hb dX2_tell_72 rfl (lv_at hl 3 rfl) ?_
                refine w_icmp_le (tgt := 114) hx hb rfl rfl dX2_tell_73 (by decide) (fun c38 => ?_) (fun c38 => ?_)
                · skip
                  have h := h.1 c38
                  refine lv_aload_n hx hb dX2_tell_114 rfl (lv_at hl 0 rfl) ?_
                  refine w_getr (j2 := (j + 1)) hx hb hts (z_memU u2) hown hK.1 hS f2_0 lt_j (zkd_of cd_j rfl) (zrf_of cd_j rfl) (Or.inl (hts _ (z_mem k82))) dX2_tell_115 ?_
                  refine lv_iload_n hx hb dX2_tell_118 rfl (lv_at hl 3 rfl) ?_
                  refine lv_iload_n hx hb dX2_tell_119 rfl (lv_at hl 1 rfl) ?_
                  obtain ⟨o39, h⟩ := h
                  refine w_iast (z := a0) (n := 12) (i := (sI x5)) hx hb hK.1 (t0 := 0) rfl hS hS0 lt1 (zkd_of cd2 rfl) (zln_of cd2 rfl) rfl o39.1 o39.2 (by decide) dX2_tell_120 (fun H locs hS hS0 => ?_)
                  obtain ⟨M40, e41⟩ : ∃ M40 : zM, M40 = zup M30 (j + 1) (sI x5).toNat a0 := ⟨_, rfl⟩
                  rw [← e41] at hS
                  have h := h M40 e41
                  refine lv_aload_n hx hb dX2_tell_121 rfl (lv_at hl 0 rfl) ?_
                  refine w_getr (j2 := (j + 2)) hx hb hts (z_memU u2) hown hK.1 hS f2_1 lt_j (zkd_of cd_j rfl) (zrf_of cd_j rfl) (Or.inl (hts _ (z_mem k83))) dX2_tell_122 ?_
                  refine lv_iload_n hx hb dX2_tell_125 rfl (lv_at hl 3 rfl) ?_
                  refine lv_iload_n hx hb dX2_tell_126 rfl (lv_at hl 2 rfl) ?_
                  obtain ⟨o42, h⟩ := h
                  refine w_iast (z := a1) (n := 12) (i := (sI x5)) hx hb hK.1 (t0 := 0) rfl hS hS0 lt3 (zkd_of cd4 rfl) (zln_of cd4 rfl) rfl o42.1 o42.2 (by decide) dX2_tell_127 (fun H locs hS hS0 => ?_)
                  obtain ⟨M43, e44⟩ : ∃ M43 : zM, M43 = zup M40 (j + 2) (sI x5).toNat a1 := ⟨_, rfl⟩
                  rw [← e44] at hS
                  have h := h M43 e44
                  refine lv_aload_n hx hb dX2_tell_128 rfl (lv_at hl 0 rfl) ?_
                  refine lv_dup hx hb dX2_tell_129 rfl ?_
                  refine w_geti hx hb hts (z_memU u2) hown hK.1 hS f2_2 lt_j (zkd_of cd_j rfl) (Or.inl (hts _ (z_mem k84))) dX2_tell_130 ?_
                  refine z_iconst hx hb dX2_tell_133 ?_
                  refine z_iadd hx hb dX2_tell_134 ?_
                  refine w_puti hx hb hts (z_memU u2) tyX2 tyX2_ok nmX2 hown hK.1 hS hS0 f2_2 lt_j (zkd_of cd_j rfl) (Or.inl (hts _ (z_mem k84))) rfl (z := ((M43 j 2) + 1)) (by decide +kernel) dX2_tell_135 (fun H locs hS hS0 => ?_)
                  obtain ⟨M45, e46⟩ : ∃ M45 : zM, M45 = zup M43 j 2 ((M43 j 2) + 1) := ⟨_, rfl⟩
                  rw [← e46] at hS
                  have h := h M45 e46
                  refine z_iconst hx hb dX2_tell_138 ?_
                  exact w_zret hx hb hr hlocks hS hS0 (sI_of (by decide)) (by decide) h dX2_tell_139
                · skip
                  have h := h.2 c38
                  refine lv_aload_n hx hb dX2_tell_76 rfl (lv_at hl 0 rfl) ?_
                  refine w_getr (j2 := (j + 1)) hx hb hts (z_memU u2) hown hK.1 hS f2_0 lt_j (zkd_of cd_j rfl) (zrf_of cd_j rfl) (Or.inl (hts _ (z_mem k82))) dX2_tell_77 ?_
                  refine lv_iload hx hb dX2_tell_80 (lv_at hl 4 rfl) ?_
                  refine lv_aload_n hx hb dX2_tell_82 rfl (lv_at hl 0 rfl) ?_
                  refine w_getr (j2 := (j + 1)) hx hb hts (z_memU u2) hown hK.1 hS f2_0 lt_j (zkd_of cd_j rfl) (zrf_of cd_j rfl) (Or.inl (hts _ (z_mem k82))) dX2_tell_83 ?_
                  refine lv_iload hx hb dX2_tell_86 (lv_at hl 4 rfl) ?_
                  refine z_iconst hx hb dX2_tell_88 ?_
                  refine z_isub hx hb dX2_tell_89 ?_
                  obtain ⟨o47, h⟩ := h
                  refine w_iald (n := 12) (i := (sI (x29 - 1))) hx hb hK.1 (t0 := 0) rfl hS lt1 (zkd_of cd2 rfl) (zln_of cd2 rfl) rfl o47.1 o47.2 (by decide) dX2_tell_90 ?_
                  obtain ⟨o48, h⟩ := h
                  refine w_iast (z := (M30 (j + 1) (sI (x29 - 1)).toNat)) (n := 12) (i := (sI x29)) hx hb hK.1 (t0 := 0) rfl hS hS0 lt1 (zkd_of cd2 rfl) (zln_of cd2 rfl) rfl o48.1 o48.2 (by decide) dX2_tell_91 (fun H locs hS hS0 => ?_)
                  obtain ⟨M49, e50⟩ : ∃ M49 : zM, M49 = zup M30 (j + 1) (sI x29).toNat (M30 (j + 1) (sI (x29 - 1)).toNat) := ⟨_, rfl⟩
                  rw [← e50] at hS
                  have h := h M49 e50
                  refine lv_aload_n hx hb dX2_tell_92 rfl (lv_at hl 0 rfl) ?_
                  refine w_getr (j2 := (j + 2)) hx hb hts (z_memU u2) hown hK.1 hS f2_1 lt_j (zkd_of cd_j rfl) (zrf_of cd_j rfl) (Or.inl (hts _ (z_mem k83))) dX2_tell_93 ?_
                  refine lv_iload hx hb dX2_tell_96 (lv_at hl 4 rfl) ?_
                  refine lv_aload_n hx hb dX2_tell_98 rfl (lv_at hl 0 rfl) ?_
                  refine w_getr (j2 := (j + 2)) hx hb hts (z_memU u2) hown hK.1 hS f2_1 lt_j (zkd_of cd_j rfl) (zrf_of cd_j rfl) (Or.inl (hts _ (z_mem k83))) dX2_tell_99 ?_
                  refine lv_iload hx hb dX2_tell_102 (lv_at hl 4 rfl) ?_
                  refine z_iconst hx hb dX2_tell_104 ?_
                  refine z_isub hx hb dX2_tell_105 ?_
                  obtain ⟨o51, h⟩ := h
                  refine w_iald (n := 12) (i := (sI (x29 - 1))) hx hb hK.1 (t0 := 0) rfl hS lt3 (zkd_of cd4 rfl) (zln_of cd4 rfl) rfl o51.1 o51.2 (by decide) dX2_tell_106 ?_
                  obtain ⟨o52, h⟩ := h
                  refine w_iast (z := (M49 (j + 2) (sI (x29 - 1)).toNat)) (n := 12) (i := (sI x29)) hx hb hK.1 (t0 := 0) rfl hS hS0 lt3 (zkd_of cd4 rfl) (zln_of cd4 rfl) rfl o52.1 o52.2 (by decide) dX2_tell_107 (fun H locs hS hS0 => ?_)
                  obtain ⟨M53, e54⟩ : ∃ M53 : zM, M53 = zup M49 (j + 2) (sI x29).toNat (M49 (j + 2) (sI (x29 - 1)).toNat) := ⟨_, rfl⟩
                  rw [← e54] at hS
                  have h := h M53 e54
                  refine z_iinc (lv' := [(4, .int (iI (x29 + (-1)))), (0, .ref (b + j)), (1, .int (iI a0)), (2, .int (iI a1)), (3, .int (iI x5))]) hx hb dX2_tell_108 hl (k := 4) rfl (by decide) rfl (fun ls hl => ?_)
                  refine lv_goto (tgt := 70) hx hb dX2_tell_111 (by decide) ?_
                  obtain ⟨n55, h56, h⟩ := h
                  exact i37 n55 h56 (x29 + (-1)) M53 _ _ _ h hS hS0 (lv_sub hl [1, 2, 3, 4, 0] rfl)
            exact L35 n32 (M j 2) M _ _ _ h33 hS hS0 (lv_sub hl [1, 2, 3, 4, 0] rfl)
          · skip
            have h := h.2 c28
            refine z_iconst hx hb dX2_tell_62 ?_
            exact w_zret hx hb hr hlocks hS hS0 (sI_of (by decide)) (by decide) h dX2_tell_63
        refine w_icmp_ge (tgt := 53) hx hb rfl rfl dX2_tell_31 (by decide) (fun c57 => ?_) (fun c57 => ?_)
        · skip
          have h := h.1 c57
          exact L26 _ _ _ h hS hS0 (lv_sub hl [0, 1, 2, 3] rfl)
        · skip
          have h := h.2 c57
          refine lv_aload_n hx hb dX2_tell_34 rfl (lv_at hl 0 rfl) ?_
          refine w_getr (j2 := (j + 1)) hx hb hts (z_memU u2) hown hK.1 hS f2_0 lt_j (zkd_of cd_j rfl) (zrf_of cd_j rfl) (Or.inl (hts _ (z_mem k82))) dX2_tell_35 ?_
          refine lv_iload_n hx hb dX2_tell_38 rfl (lv_at hl 3 rfl) ?_
          obtain ⟨o58, h⟩ := h
          refine w_iald (n := 12) (i := (sI x5)) hx hb hK.1 (t0 := 0) rfl hS lt1 (zkd_of cd2 rfl) (zln_of cd2 rfl) rfl o58.1 o58.2 (by decide) dX2_tell_39 ?_
          refine lv_iload_n hx hb dX2_tell_40 rfl (lv_at hl 1 rfl) ?_
          refine w_icmp_ne (tgt := 53) hx hb rfl rfl dX2_tell_41 (by decide) (fun c59 => ?_) (fun c59 => ?_)
          · skip
            have h := h.1 c59
            exact L26 _ _ _ h hS hS0 (lv_sub hl [0, 1, 2, 3] rfl)
          · skip
            have h := h.2 c59
            refine lv_aload_n hx hb dX2_tell_44 rfl (lv_at hl 0 rfl) ?_
            refine w_getr (j2 := (j + 2)) hx hb hts (z_memU u2) hown hK.1 hS f2_1 lt_j (zkd_of cd_j rfl) (zrf_of cd_j rfl) (Or.inl (hts _ (z_mem k83))) dX2_tell_45 ?_
            refine lv_iload_n hx hb dX2_tell_48 rfl (lv_at hl 3 rfl) ?_
            refine lv_iload_n hx hb dX2_tell_49 rfl (lv_at hl 2 rfl) ?_
            obtain ⟨o60, h⟩ := h
            refine w_iast (z := a1) (n := 12) (i := (sI x5)) hx hb hK.1 (t0 := 0) rfl hS hS0 lt3 (zkd_of cd4 rfl) (zln_of cd4 rfl) rfl o60.1 o60.2 (by decide) dX2_tell_50 (fun H locs hS hS0 => ?_)
            obtain ⟨M61, e62⟩ : ∃ M61 : zM, M61 = zup M (j + 2) (sI x5).toNat a1 := ⟨_, rfl⟩
            rw [← e62] at hS
            have h := h M61 e62
            refine z_iconst hx hb dX2_tell_51 ?_
            exact w_zret hx hb hr hlocks hS hS0 (sI_of (by decide)) (by decide) h dX2_tell_52
      refine w_icmp_ge (tgt := 26) hx hb rfl rfl dX2_tell_7 (by decide) (fun c63 => ?_) (fun c63 => ?_)
      · skip
        have h := h.1 c63
        exact L18 _ _ _ h hS hS0 (lv_sub hl [0, 1, 2, 3] rfl)
      · skip
        have h := h.2 c63
        refine lv_aload_n hx hb dX2_tell_10 rfl (lv_at hl 0 rfl) ?_
        refine w_getr (j2 := (j + 1)) hx hb hts (z_memU u2) hown hK.1 hS f2_0 lt_j (zkd_of cd_j rfl) (zrf_of cd_j rfl) (Or.inl (hts _ (z_mem k82))) dX2_tell_11 ?_
        refine lv_iload_n hx hb dX2_tell_14 rfl (lv_at hl 3 rfl) ?_
        obtain ⟨o64, h⟩ := h
        refine w_iald (n := 12) (i := (sI x5)) hx hb hK.1 (t0 := 0) rfl hS lt1 (zkd_of cd2 rfl) (zln_of cd2 rfl) rfl o64.1 o64.2 (by decide) dX2_tell_15 ?_
        refine lv_iload_n hx hb dX2_tell_16 rfl (lv_at hl 1 rfl) ?_
        refine w_icmp_ge (tgt := 26) hx hb rfl rfl dX2_tell_17 (by decide) (fun c65 => ?_) (fun c65 => ?_)
        · skip
          have h := h.1 c65
          exact L18 _ _ _ h hS hS0 (lv_sub hl [0, 1, 2, 3] rfl)
        · skip
          have h := h.2 c65
          refine z_iinc (lv' := [(3, .int (iI (x5 + 1))), (0, .ref (b + j)), (1, .int (iI a0)), (2, .int (iI a1))]) hx hb dX2_tell_20 hl (k := 3) rfl (by decide) rfl (fun ls hl => ?_)
          refine lv_goto (tgt := 2) hx hb dX2_tell_23 (by decide) ?_
          obtain ⟨n66, h67, h⟩ := h
          exact i12 n66 h67 (x5 + 1) _ _ _ h hS hS0 (lv_sub hl [1, 2, 3, 0] rfl)
  exact L10 n7 0 _ _ _ h8 hS hS0 (lv_sub hl [1, 2, 3, 0] rfl)
end zz10_w03
section zz10_w04
/-! the W layer, 4 -/
theorem q10w04_0_0 : (cX11_clear.data.toList.drop 0).take 16 = [42, 180, 0, 40, 3, 181, 0, 144, 42, 180, 0, 26, 182, 0, 147, 172] := by decide +kernel
theorem dX11_clear_0 : decode cX11_clear 0 = .ok (.aload_n 0, 1) := dz_42 (dz_at q10w04_0_0 0)
theorem dX11_clear_1 : decode cX11_clear 1 = .ok (.getfield 40, 3) := dz_180 (dz_at q10w04_0_0 1) rfl
theorem dX11_clear_12 : decode cX11_clear 12 = .ok (.invokevirtual 147, 3) := dz_182 (dz_at q10w04_0_0 12) rfl
theorem dX11_clear_15 : decode cX11_clear 15 = .ok (.ireturn, 1) := dz_172 (dz_at q10w04_0_0 15)
theorem dX11_clear_4 : decode cX11_clear 4 = .ok (.iconst 0, 1) := dz_3 (dz_at q10w04_0_0 4)
theorem dX11_clear_5 : decode cX11_clear 5 = .ok (.putfield 144, 3) := dz_181 (dz_at q10w04_0_0 5) rfl
theorem dX11_clear_8 : decode cX11_clear 8 = .ok (.aload_n 0, 1) := dz_42 (dz_at q10w04_0_0 8)
theorem dX11_clear_9 : decode cX11_clear 9 = .ok (.getfield 26, 3) := dz_180 (dz_at q10w04_0_0 9) rfl
theorem q10w04_1_0 : (cX11_count.data.toList.drop 0).take 1 = [27] := by decide +kernel
theorem q10w04_1_48 : (cX11_count.data.toList.drop 48).take 24 = [42, 180, 0, 26, 180, 0, 151, 172, 42, 180, 0, 40, 180, 0, 144, 172, 42, 180, 0, 54, 180, 0, 152, 172] := by decide +kernel
theorem q10w04_1_72 : (cX11_count.data.toList.drop 72).take 22 = [42, 180, 0, 61, 180, 0, 153, 172, 42, 180, 0, 68, 180, 0, 154, 172, 42, 180, 0, 76, 172, 42] := by decide +kernel
theorem q10w04_1_94 : (cX11_count.data.toList.drop 94).take 17 = [180, 0, 12, 180, 0, 155, 172, 42, 180, 0, 19, 180, 0, 117, 172, 2, 172] := by decide +kernel
theorem dX11_count_0 : decode cX11_count 0 = .ok (.iload_n 1, 1) := dz_27 (dz_at q10w04_1_0 0)
theorem dX11_count_1 : decode cX11_count 1 = .ok (.tableswitch 108 0 7 #[47, 55, 63, 71, 79, 87, 92, 100], 47) := by decide +kernel
theorem dX11_count_100 : decode cX11_count 100 = .ok (.ireturn, 1) := dz_172 (dz_at q10w04_1_94 6)
theorem dX11_count_101 : decode cX11_count 101 = .ok (.aload_n 0, 1) := dz_42 (dz_at q10w04_1_94 7)
theorem dX11_count_102 : decode cX11_count 102 = .ok (.getfield 19, 3) := dz_180 (dz_at q10w04_1_94 8) rfl
theorem dX11_count_105 : decode cX11_count 105 = .ok (.getfield 117, 3) := dz_180 (dz_at q10w04_1_94 11) rfl
theorem dX11_count_108 : decode cX11_count 108 = .ok (.ireturn, 1) := dz_172 (dz_at q10w04_1_94 14)
theorem dX11_count_109 : decode cX11_count 109 = .ok (.iconst (-1), 1) := dz_2 (dz_at q10w04_1_94 15)
theorem dX11_count_110 : decode cX11_count 110 = .ok (.ireturn, 1) := dz_172 (dz_at q10w04_1_94 16)
theorem dX11_count_48 : decode cX11_count 48 = .ok (.aload_n 0, 1) := dz_42 (dz_at q10w04_1_48 0)
theorem dX11_count_49 : decode cX11_count 49 = .ok (.getfield 26, 3) := dz_180 (dz_at q10w04_1_48 1) rfl
theorem dX11_count_52 : decode cX11_count 52 = .ok (.getfield 151, 3) := dz_180 (dz_at q10w04_1_48 4) rfl
theorem dX11_count_55 : decode cX11_count 55 = .ok (.ireturn, 1) := dz_172 (dz_at q10w04_1_48 7)
theorem dX11_count_56 : decode cX11_count 56 = .ok (.aload_n 0, 1) := dz_42 (dz_at q10w04_1_48 8)
theorem dX11_count_57 : decode cX11_count 57 = .ok (.getfield 40, 3) := dz_180 (dz_at q10w04_1_48 9) rfl
theorem dX11_count_60 : decode cX11_count 60 = .ok (.getfield 144, 3) := dz_180 (dz_at q10w04_1_48 12) rfl
theorem dX11_count_63 : decode cX11_count 63 = .ok (.ireturn, 1) := dz_172 (dz_at q10w04_1_48 15)
theorem dX11_count_64 : decode cX11_count 64 = .ok (.aload_n 0, 1) := dz_42 (dz_at q10w04_1_48 16)
theorem dX11_count_65 : decode cX11_count 65 = .ok (.getfield 54, 3) := dz_180 (dz_at q10w04_1_48 17) rfl
theorem dX11_count_68 : decode cX11_count 68 = .ok (.getfield 152, 3) := dz_180 (dz_at q10w04_1_48 20) rfl
theorem dX11_count_71 : decode cX11_count 71 = .ok (.ireturn, 1) := dz_172 (dz_at q10w04_1_48 23)
theorem dX11_count_72 : decode cX11_count 72 = .ok (.aload_n 0, 1) := dz_42 (dz_at q10w04_1_72 0)
theorem dX11_count_73 : decode cX11_count 73 = .ok (.getfield 61, 3) := dz_180 (dz_at q10w04_1_72 1) rfl
theorem dX11_count_76 : decode cX11_count 76 = .ok (.getfield 153, 3) := dz_180 (dz_at q10w04_1_72 4) rfl
theorem dX11_count_79 : decode cX11_count 79 = .ok (.ireturn, 1) := dz_172 (dz_at q10w04_1_72 7)
theorem dX11_count_80 : decode cX11_count 80 = .ok (.aload_n 0, 1) := dz_42 (dz_at q10w04_1_72 8)
theorem dX11_count_81 : decode cX11_count 81 = .ok (.getfield 68, 3) := dz_180 (dz_at q10w04_1_72 9) rfl
theorem dX11_count_84 : decode cX11_count 84 = .ok (.getfield 154, 3) := dz_180 (dz_at q10w04_1_72 12) rfl
theorem dX11_count_87 : decode cX11_count 87 = .ok (.ireturn, 1) := dz_172 (dz_at q10w04_1_72 15)
theorem dX11_count_88 : decode cX11_count 88 = .ok (.aload_n 0, 1) := dz_42 (dz_at q10w04_1_72 16)
theorem dX11_count_89 : decode cX11_count 89 = .ok (.getfield 76, 3) := dz_180 (dz_at q10w04_1_72 17) rfl
theorem dX11_count_92 : decode cX11_count 92 = .ok (.ireturn, 1) := dz_172 (dz_at q10w04_1_72 20)
theorem dX11_count_93 : decode cX11_count 93 = .ok (.aload_n 0, 1) := dz_42 (dz_at q10w04_1_72 21)
theorem dX11_count_94 : decode cX11_count 94 = .ok (.getfield 12, 3) := dz_180 (dz_at q10w04_1_94 0) rfl
theorem dX11_count_97 : decode cX11_count 97 = .ok (.getfield 155, 3) := dz_180 (dz_at q10w04_1_94 3) rfl
theorem q10w04_2_0 : (cX11_greatestDivisor.data.toList.drop 0).take 24 = [26, 62, 29, 4, 164, 0, 26, 26, 29, 112, 154, 0, 14, 31, 29, 133, 113, 9, 148, 154, 0, 5, 29, 172] := by decide +kernel
theorem q10w04_2_24 : (cX11_greatestDivisor.data.toList.drop 24).take 8 = [132, 3, 255, 167, 255, 231, 4, 172] := by decide +kernel
theorem dX11_greatestDivisor_0 : decode cX11_greatestDivisor 0 = .ok (.iload_n 0, 1) := dz_26 (dz_at q10w04_2_0 0)
theorem dX11_greatestDivisor_1 : decode cX11_greatestDivisor 1 = .ok (.istore_n 3, 1) := dz_62 (dz_at q10w04_2_0 1)
theorem dX11_greatestDivisor_10 : decode cX11_greatestDivisor 10 = .ok (.ifCond .ne 14, 3) := dz_154 (dz_at q10w04_2_0 10) (by decide +kernel)
theorem dX11_greatestDivisor_13 : decode cX11_greatestDivisor 13 = .ok (.lload_n 1, 1) := dz_31 (dz_at q10w04_2_0 13)
theorem dX11_greatestDivisor_14 : decode cX11_greatestDivisor 14 = .ok (.iload_n 3, 1) := dz_29 (dz_at q10w04_2_0 14)
theorem dX11_greatestDivisor_15 : decode cX11_greatestDivisor 15 = .ok (.i2l, 1) := dz_133 (dz_at q10w04_2_0 15)
theorem dX11_greatestDivisor_16 : decode cX11_greatestDivisor 16 = .ok (.lrem, 1) := dz_113 (dz_at q10w04_2_0 16)
theorem dX11_greatestDivisor_17 : decode cX11_greatestDivisor 17 = .ok (.lconst 0, 1) := dz_9 (dz_at q10w04_2_0 17)
theorem dX11_greatestDivisor_18 : decode cX11_greatestDivisor 18 = .ok (.lcmp, 1) := dz_148 (dz_at q10w04_2_0 18)
theorem dX11_greatestDivisor_19 : decode cX11_greatestDivisor 19 = .ok (.ifCond .ne 5, 3) := dz_154 (dz_at q10w04_2_0 19) (by decide +kernel)
theorem dX11_greatestDivisor_2 : decode cX11_greatestDivisor 2 = .ok (.iload_n 3, 1) := dz_29 (dz_at q10w04_2_0 2)
theorem dX11_greatestDivisor_22 : decode cX11_greatestDivisor 22 = .ok (.iload_n 3, 1) := dz_29 (dz_at q10w04_2_0 22)
theorem dX11_greatestDivisor_23 : decode cX11_greatestDivisor 23 = .ok (.ireturn, 1) := dz_172 (dz_at q10w04_2_0 23)
theorem dX11_greatestDivisor_24 : decode cX11_greatestDivisor 24 = .ok (.iinc 3 (-1), 3) := dz_132 (dz_at q10w04_2_24 0) (by decide +kernel)
theorem dX11_greatestDivisor_27 : decode cX11_greatestDivisor 27 = .ok (.goto (-25), 3) := dz_167 (dz_at q10w04_2_24 3) (by decide +kernel)
theorem dX11_greatestDivisor_3 : decode cX11_greatestDivisor 3 = .ok (.iconst 1, 1) := dz_4 (dz_at q10w04_2_0 3)
theorem dX11_greatestDivisor_30 : decode cX11_greatestDivisor 30 = .ok (.iconst 1, 1) := dz_4 (dz_at q10w04_2_24 6)
theorem dX11_greatestDivisor_31 : decode cX11_greatestDivisor 31 = .ok (.ireturn, 1) := dz_172 (dz_at q10w04_2_24 7)
theorem dX11_greatestDivisor_4 : decode cX11_greatestDivisor 4 = .ok (.if_icmp .le 26, 3) := dz_164 (dz_at q10w04_2_0 4) (by decide +kernel)
theorem dX11_greatestDivisor_7 : decode cX11_greatestDivisor 7 = .ok (.iload_n 0, 1) := dz_26 (dz_at q10w04_2_0 7)
theorem dX11_greatestDivisor_8 : decode cX11_greatestDivisor 8 = .ok (.iload_n 3, 1) := dz_29 (dz_at q10w04_2_0 8)
theorem dX11_greatestDivisor_9 : decode cX11_greatestDivisor 9 = .ok (.irem, 1) := dz_112 (dz_at q10w04_2_0 9)
theorem q10w04_3_0 : (cX11_inch.data.toList.drop 0).take 22 = [42, 180, 0, 26, 27, 182, 0, 104, 78, 45, 199, 0, 7, 2, 167, 0, 11, 45, 180, 0, 108, 28] := by decide +kernel
theorem q10w04_3_22 : (cX11_inch.data.toList.drop 22).take 4 = [182, 0, 92, 172] := by decide +kernel
theorem dX11_inch_0 : decode cX11_inch 0 = .ok (.aload_n 0, 1) := dz_42 (dz_at q10w04_3_0 0)
theorem dX11_inch_1 : decode cX11_inch 1 = .ok (.getfield 26, 3) := dz_180 (dz_at q10w04_3_0 1) rfl
theorem dX11_inch_10 : decode cX11_inch 10 = .ok (.ifnonnull 7, 3) := dz_199 (dz_at q10w04_3_0 10) (by decide +kernel)
theorem dX11_inch_13 : decode cX11_inch 13 = .ok (.iconst (-1), 1) := dz_2 (dz_at q10w04_3_0 13)
theorem dX11_inch_14 : decode cX11_inch 14 = .ok (.goto 11, 3) := dz_167 (dz_at q10w04_3_0 14) (by decide +kernel)
theorem dX11_inch_17 : decode cX11_inch 17 = .ok (.aload_n 3, 1) := dz_45 (dz_at q10w04_3_0 17)
theorem dX11_inch_18 : decode cX11_inch 18 = .ok (.getfield 108, 3) := dz_180 (dz_at q10w04_3_0 18) rfl
theorem dX11_inch_21 : decode cX11_inch 21 = .ok (.iload_n 2, 1) := dz_28 (dz_at q10w04_3_0 21)
theorem dX11_inch_22 : decode cX11_inch 22 = .ok (.invokevirtual 92, 3) := dz_182 (dz_at q10w04_3_22 0) rfl
theorem dX11_inch_25 : decode cX11_inch 25 = .ok (.ireturn, 1) := dz_172 (dz_at q10w04_3_22 3)
theorem dX11_inch_4 : decode cX11_inch 4 = .ok (.iload_n 1, 1) := dz_27 (dz_at q10w04_3_0 4)
theorem dX11_inch_5 : decode cX11_inch 5 = .ok (.invokevirtual 104, 3) := dz_182 (dz_at q10w04_3_0 5) rfl
theorem dX11_inch_8 : decode cX11_inch 8 = .ok (.astore_n 3, 1) := dz_78 (dz_at q10w04_3_0 8)
theorem dX11_inch_9 : decode cX11_inch 9 = .ok (.aload_n 3, 1) := dz_45 (dz_at q10w04_3_0 9)
theorem q10w04_4_0 : (cX11_motor.data.toList.drop 0).take 23 = [27, 184, 0, 95, 153, 0, 25, 28, 3, 17, 19, 136, 184, 0, 113, 153, 0, 14, 29, 16, 247, 16, 9] := by decide +kernel
theorem q10w04_4_23 : (cX11_motor.data.toList.drop 23).take 22 = [184, 0, 113, 154, 0, 5, 3, 172, 42, 180, 0, 26, 27, 182, 0, 134, 28, 29, 182, 0, 138, 172] := by decide +kernel
theorem dX11_motor_0 : decode cX11_motor 0 = .ok (.iload_n 1, 1) := dz_27 (dz_at q10w04_4_0 0)
theorem dX11_motor_1 : decode cX11_motor 1 = .ok (.invokestatic 95, 3) := dz_184 (dz_at q10w04_4_0 1) rfl
theorem dX11_motor_12 : decode cX11_motor 12 = .ok (.invokestatic 113, 3) := dz_184 (dz_at q10w04_4_0 12) rfl
theorem dX11_motor_15 : decode cX11_motor 15 = .ok (.ifCond .eq 14, 3) := dz_153 (dz_at q10w04_4_0 15) (by decide +kernel)
theorem dX11_motor_18 : decode cX11_motor 18 = .ok (.iload_n 3, 1) := dz_29 (dz_at q10w04_4_0 18)
theorem dX11_motor_19 : decode cX11_motor 19 = .ok (.bipush (-9), 2) := dz_16 (dz_at q10w04_4_0 19) (by decide +kernel)
theorem dX11_motor_21 : decode cX11_motor 21 = .ok (.bipush 9, 2) := dz_16 (dz_at q10w04_4_0 21) (by decide +kernel)
theorem dX11_motor_23 : decode cX11_motor 23 = .ok (.invokestatic 113, 3) := dz_184 (dz_at q10w04_4_23 0) rfl
theorem dX11_motor_26 : decode cX11_motor 26 = .ok (.ifCond .ne 5, 3) := dz_154 (dz_at q10w04_4_23 3) (by decide +kernel)
theorem dX11_motor_29 : decode cX11_motor 29 = .ok (.iconst 0, 1) := dz_3 (dz_at q10w04_4_23 6)
theorem dX11_motor_30 : decode cX11_motor 30 = .ok (.ireturn, 1) := dz_172 (dz_at q10w04_4_23 7)
theorem dX11_motor_31 : decode cX11_motor 31 = .ok (.aload_n 0, 1) := dz_42 (dz_at q10w04_4_23 8)
theorem dX11_motor_32 : decode cX11_motor 32 = .ok (.getfield 26, 3) := dz_180 (dz_at q10w04_4_23 9) rfl
theorem dX11_motor_35 : decode cX11_motor 35 = .ok (.iload_n 1, 1) := dz_27 (dz_at q10w04_4_23 12)
theorem dX11_motor_36 : decode cX11_motor 36 = .ok (.invokevirtual 134, 3) := dz_182 (dz_at q10w04_4_23 13) rfl
theorem dX11_motor_39 : decode cX11_motor 39 = .ok (.iload_n 2, 1) := dz_28 (dz_at q10w04_4_23 16)
theorem dX11_motor_4 : decode cX11_motor 4 = .ok (.ifCond .eq 25, 3) := dz_153 (dz_at q10w04_4_0 4) (by decide +kernel)
theorem dX11_motor_40 : decode cX11_motor 40 = .ok (.iload_n 3, 1) := dz_29 (dz_at q10w04_4_23 17)
theorem dX11_motor_41 : decode cX11_motor 41 = .ok (.invokevirtual 138, 3) := dz_182 (dz_at q10w04_4_23 18) rfl
theorem dX11_motor_44 : decode cX11_motor 44 = .ok (.ireturn, 1) := dz_172 (dz_at q10w04_4_23 21)
theorem dX11_motor_7 : decode cX11_motor 7 = .ok (.iload_n 2, 1) := dz_28 (dz_at q10w04_4_0 7)
theorem dX11_motor_8 : decode cX11_motor 8 = .ok (.iconst 0, 1) := dz_3 (dz_at q10w04_4_0 8)
theorem dX11_motor_9 : decode cX11_motor 9 = .ok (.sipush 5000, 3) := dz_17 (dz_at q10w04_4_0 9) (by decide +kernel)
theorem q10w04_5_0 : (cX11_of.data.toList.drop 0).take 22 = [42, 180, 0, 26, 27, 182, 0, 104, 78, 45, 199, 0, 11, 187, 0, 156, 89, 183, 0, 158, 191, 28] := by decide +kernel
theorem q10w04_5_60 : (cX11_of.data.toList.drop 60).take 24 = [45, 180, 0, 108, 180, 0, 117, 172, 45, 180, 0, 124, 172, 45, 180, 0, 127, 172, 45, 180, 0, 159, 172, 42] := by decide +kernel
theorem q10w04_5_84 : (cX11_of.data.toList.drop 84).take 21 = [180, 0, 26, 45, 182, 0, 162, 172, 45, 180, 0, 166, 172, 187, 0, 156, 89, 183, 0, 158, 191] := by decide +kernel
theorem dX11_of_0 : decode cX11_of 0 = .ok (.aload_n 0, 1) := dz_42 (dz_at q10w04_5_0 0)
theorem dX11_of_1 : decode cX11_of 1 = .ok (.getfield 26, 3) := dz_180 (dz_at q10w04_5_0 1) rfl
theorem dX11_of_10 : decode cX11_of 10 = .ok (.ifnonnull 11, 3) := dz_199 (dz_at q10w04_5_0 10) (by decide +kernel)
theorem dX11_of_100 : decode cX11_of 100 = .ok (.dup, 1) := dz_89 (dz_at q10w04_5_84 16)
theorem dX11_of_101 : decode cX11_of 101 = .ok (.invokespecial 158, 3) := dz_183 (dz_at q10w04_5_84 17) rfl
theorem dX11_of_104 : decode cX11_of 104 = .ok (.athrow, 1) := dz_191 (dz_at q10w04_5_84 20)
theorem dX11_of_13 : decode cX11_of 13 = .ok (.new 156, 3) := dz_187 (dz_at q10w04_5_0 13) rfl
theorem dX11_of_16 : decode cX11_of 16 = .ok (.dup, 1) := dz_89 (dz_at q10w04_5_0 16)
theorem dX11_of_17 : decode cX11_of 17 = .ok (.invokespecial 158, 3) := dz_183 (dz_at q10w04_5_0 17) rfl
theorem dX11_of_20 : decode cX11_of 20 = .ok (.athrow, 1) := dz_191 (dz_at q10w04_5_0 20)
theorem dX11_of_21 : decode cX11_of 21 = .ok (.iload_n 2, 1) := dz_28 (dz_at q10w04_5_0 21)
theorem dX11_of_22 : decode cX11_of 22 = .ok (.tableswitch 75 0 5 #[38, 46, 51, 56, 61, 70], 38) := by decide +kernel
theorem dX11_of_4 : decode cX11_of 4 = .ok (.iload_n 1, 1) := dz_27 (dz_at q10w04_5_0 4)
theorem dX11_of_5 : decode cX11_of 5 = .ok (.invokevirtual 104, 3) := dz_182 (dz_at q10w04_5_0 5) rfl
theorem dX11_of_60 : decode cX11_of 60 = .ok (.aload_n 3, 1) := dz_45 (dz_at q10w04_5_60 0)
theorem dX11_of_61 : decode cX11_of 61 = .ok (.getfield 108, 3) := dz_180 (dz_at q10w04_5_60 1) rfl
theorem dX11_of_64 : decode cX11_of 64 = .ok (.getfield 117, 3) := dz_180 (dz_at q10w04_5_60 4) rfl
theorem dX11_of_67 : decode cX11_of 67 = .ok (.ireturn, 1) := dz_172 (dz_at q10w04_5_60 7)
theorem dX11_of_68 : decode cX11_of 68 = .ok (.aload_n 3, 1) := dz_45 (dz_at q10w04_5_60 8)
theorem dX11_of_69 : decode cX11_of 69 = .ok (.getfield 124, 3) := dz_180 (dz_at q10w04_5_60 9) rfl
theorem dX11_of_72 : decode cX11_of 72 = .ok (.ireturn, 1) := dz_172 (dz_at q10w04_5_60 12)
theorem dX11_of_73 : decode cX11_of 73 = .ok (.aload_n 3, 1) := dz_45 (dz_at q10w04_5_60 13)
theorem dX11_of_74 : decode cX11_of 74 = .ok (.getfield 127, 3) := dz_180 (dz_at q10w04_5_60 14) rfl
theorem dX11_of_77 : decode cX11_of 77 = .ok (.ireturn, 1) := dz_172 (dz_at q10w04_5_60 17)
theorem dX11_of_78 : decode cX11_of 78 = .ok (.aload_n 3, 1) := dz_45 (dz_at q10w04_5_60 18)
theorem dX11_of_79 : decode cX11_of 79 = .ok (.getfield 159, 3) := dz_180 (dz_at q10w04_5_60 19) rfl
theorem dX11_of_8 : decode cX11_of 8 = .ok (.astore_n 3, 1) := dz_78 (dz_at q10w04_5_0 8)
theorem dX11_of_82 : decode cX11_of 82 = .ok (.ireturn, 1) := dz_172 (dz_at q10w04_5_60 22)
theorem dX11_of_83 : decode cX11_of 83 = .ok (.aload_n 0, 1) := dz_42 (dz_at q10w04_5_60 23)
theorem dX11_of_84 : decode cX11_of 84 = .ok (.getfield 26, 3) := dz_180 (dz_at q10w04_5_84 0) rfl
theorem dX11_of_87 : decode cX11_of 87 = .ok (.aload_n 3, 1) := dz_45 (dz_at q10w04_5_84 3)
theorem dX11_of_88 : decode cX11_of 88 = .ok (.invokevirtual 162, 3) := dz_182 (dz_at q10w04_5_84 4) rfl
theorem dX11_of_9 : decode cX11_of 9 = .ok (.aload_n 3, 1) := dz_45 (dz_at q10w04_5_0 9)
theorem dX11_of_91 : decode cX11_of 91 = .ok (.ireturn, 1) := dz_172 (dz_at q10w04_5_84 7)
theorem dX11_of_92 : decode cX11_of 92 = .ok (.aload_n 3, 1) := dz_45 (dz_at q10w04_5_84 8)
theorem dX11_of_93 : decode cX11_of 93 = .ok (.getfield 166, 3) := dz_180 (dz_at q10w04_5_84 9) rfl
theorem dX11_of_96 : decode cX11_of 96 = .ok (.ireturn, 1) := dz_172 (dz_at q10w04_5_84 12)
theorem dX11_of_97 : decode cX11_of 97 = .ok (.new 156, 3) := dz_187 (dz_at q10w04_5_84 13) rfl
theorem q10w04_6_0 : (cX11_way.data.toList.drop 0).take 24 = [27, 184, 0, 95, 153, 0, 13, 28, 3, 18, 169, 184, 0, 113, 154, 0, 11, 187, 0, 156, 89, 183, 0, 158] := by decide +kernel
theorem q10w04_6_24 : (cX11_way.data.toList.drop 24).take 15 = [191, 42, 180, 0, 26, 27, 182, 0, 134, 28, 133, 182, 0, 170, 173] := by decide +kernel
theorem dX11_way_0 : decode cX11_way 0 = .ok (.iload_n 1, 1) := dz_27 (dz_at q10w04_6_0 0)
theorem dX11_way_1 : decode cX11_way 1 = .ok (.invokestatic 95, 3) := dz_184 (dz_at q10w04_6_0 1) rfl
theorem dX11_way_11 : decode cX11_way 11 = .ok (.invokestatic 113, 3) := dz_184 (dz_at q10w04_6_0 11) rfl
theorem dX11_way_14 : decode cX11_way 14 = .ok (.ifCond .ne 11, 3) := dz_154 (dz_at q10w04_6_0 14) (by decide +kernel)
theorem dX11_way_17 : decode cX11_way 17 = .ok (.new 156, 3) := dz_187 (dz_at q10w04_6_0 17) rfl
theorem dX11_way_20 : decode cX11_way 20 = .ok (.dup, 1) := dz_89 (dz_at q10w04_6_0 20)
theorem dX11_way_21 : decode cX11_way 21 = .ok (.invokespecial 158, 3) := dz_183 (dz_at q10w04_6_0 21) rfl
theorem dX11_way_24 : decode cX11_way 24 = .ok (.athrow, 1) := dz_191 (dz_at q10w04_6_24 0)
theorem dX11_way_25 : decode cX11_way 25 = .ok (.aload_n 0, 1) := dz_42 (dz_at q10w04_6_24 1)
theorem dX11_way_26 : decode cX11_way 26 = .ok (.getfield 26, 3) := dz_180 (dz_at q10w04_6_24 2) rfl
theorem dX11_way_29 : decode cX11_way 29 = .ok (.iload_n 1, 1) := dz_27 (dz_at q10w04_6_24 5)
theorem dX11_way_30 : decode cX11_way 30 = .ok (.invokevirtual 134, 3) := dz_182 (dz_at q10w04_6_24 6) rfl
theorem dX11_way_33 : decode cX11_way 33 = .ok (.iload_n 2, 1) := dz_28 (dz_at q10w04_6_24 9)
theorem dX11_way_34 : decode cX11_way 34 = .ok (.i2l, 1) := dz_133 (dz_at q10w04_6_24 10)
theorem dX11_way_35 : decode cX11_way 35 = .ok (.invokevirtual 170, 3) := dz_182 (dz_at q10w04_6_24 11) rfl
theorem dX11_way_38 : decode cX11_way 38 = .ok (.lreturn, 1) := dz_173 (dz_at q10w04_6_24 14)
theorem dX11_way_4 : decode cX11_way 4 = .ok (.ifCond .eq 13, 3) := dz_153 (dz_at q10w04_6_0 4) (by decide +kernel)
theorem dX11_way_7 : decode cX11_way 7 = .ok (.iload_n 2, 1) := dz_28 (dz_at q10w04_6_0 7)
theorem dX11_way_8 : decode cX11_way 8 = .ok (.iconst 0, 1) := dz_3 (dz_at q10w04_6_0 8)
theorem dX11_way_9 : decode cX11_way 9 = .ok (.ldc 169, 2) := dz_18 (dz_at q10w04_6_0 9)
theorem q10w04_7_0 : (cX11_withoutShared.data.toList.drop 0).take 19 = [26, 31, 184, 1, 43, 62, 29, 4, 162, 0, 7, 26, 167, 0, 6, 26, 29, 108, 172] := by decide +kernel
theorem dX11_withoutShared_0 : decode cX11_withoutShared 0 = .ok (.iload_n 0, 1) := dz_26 (dz_at q10w04_7_0 0)
theorem dX11_withoutShared_1 : decode cX11_withoutShared 1 = .ok (.lload_n 1, 1) := dz_31 (dz_at q10w04_7_0 1)
theorem dX11_withoutShared_11 : decode cX11_withoutShared 11 = .ok (.iload_n 0, 1) := dz_26 (dz_at q10w04_7_0 11)
theorem dX11_withoutShared_12 : decode cX11_withoutShared 12 = .ok (.goto 6, 3) := dz_167 (dz_at q10w04_7_0 12) (by decide +kernel)
theorem dX11_withoutShared_15 : decode cX11_withoutShared 15 = .ok (.iload_n 0, 1) := dz_26 (dz_at q10w04_7_0 15)
theorem dX11_withoutShared_16 : decode cX11_withoutShared 16 = .ok (.iload_n 3, 1) := dz_29 (dz_at q10w04_7_0 16)
theorem dX11_withoutShared_17 : decode cX11_withoutShared 17 = .ok (.idiv, 1) := dz_108 (dz_at q10w04_7_0 17)
theorem dX11_withoutShared_18 : decode cX11_withoutShared 18 = .ok (.ireturn, 1) := dz_172 (dz_at q10w04_7_0 18)
theorem dX11_withoutShared_2 : decode cX11_withoutShared 2 = .ok (.invokestatic 299, 3) := dz_184 (dz_at q10w04_7_0 2) rfl
theorem dX11_withoutShared_5 : decode cX11_withoutShared 5 = .ok (.istore_n 3, 1) := dz_62 (dz_at q10w04_7_0 5)
theorem dX11_withoutShared_6 : decode cX11_withoutShared 6 = .ok (.iload_n 3, 1) := dz_29 (dz_at q10w04_7_0 6)
theorem dX11_withoutShared_7 : decode cX11_withoutShared 7 = .ok (.iconst 1, 1) := dz_4 (dz_at q10w04_7_0 7)
theorem dX11_withoutShared_8 : decode cX11_withoutShared 8 = .ok (.if_icmp .ge 7, 3) := dz_162 (dz_at q10w04_7_0 8) (by decide +kernel)
theorem q10w04_8_0 : (cX2_forget.data.toList.drop 0).take 6 = [42, 3, 181, 0, 18, 177] := by decide +kernel
theorem dX2_forget_0 : decode cX2_forget 0 = .ok (.aload_n 0, 1) := dz_42 (dz_at q10w04_8_0 0)
theorem dX2_forget_1 : decode cX2_forget 1 = .ok (.iconst 0, 1) := dz_3 (dz_at q10w04_8_0 1)
theorem dX2_forget_2 : decode cX2_forget 2 = .ok (.putfield 18, 3) := dz_181 (dz_at q10w04_8_0 2) rfl
theorem dX2_forget_5 : decode cX2_forget 5 = .ok (.return_, 1) := dz_177 (dz_at q10w04_8_0 5)
theorem q10w04_9_0 : (cX2_lastSpeed.data.toList.drop 0).take 23 = [42, 180, 0, 18, 154, 0, 7, 4, 167, 0, 14, 42, 180, 0, 15, 42, 180, 0, 18, 4, 100, 46, 172] := by decide +kernel
theorem dX2_lastSpeed_0 : decode cX2_lastSpeed 0 = .ok (.aload_n 0, 1) := dz_42 (dz_at q10w04_9_0 0)
theorem dX2_lastSpeed_1 : decode cX2_lastSpeed 1 = .ok (.getfield 18, 3) := dz_180 (dz_at q10w04_9_0 1) rfl
theorem dX2_lastSpeed_11 : decode cX2_lastSpeed 11 = .ok (.aload_n 0, 1) := dz_42 (dz_at q10w04_9_0 11)
theorem dX2_lastSpeed_12 : decode cX2_lastSpeed 12 = .ok (.getfield 15, 3) := dz_180 (dz_at q10w04_9_0 12) rfl
theorem dX2_lastSpeed_15 : decode cX2_lastSpeed 15 = .ok (.aload_n 0, 1) := dz_42 (dz_at q10w04_9_0 15)
theorem dX2_lastSpeed_16 : decode cX2_lastSpeed 16 = .ok (.getfield 18, 3) := dz_180 (dz_at q10w04_9_0 16) rfl
theorem dX2_lastSpeed_19 : decode cX2_lastSpeed 19 = .ok (.iconst 1, 1) := dz_4 (dz_at q10w04_9_0 19)
theorem dX2_lastSpeed_20 : decode cX2_lastSpeed 20 = .ok (.isub, 1) := dz_100 (dz_at q10w04_9_0 20)
theorem dX2_lastSpeed_21 : decode cX2_lastSpeed 21 = .ok (.iaload, 1) := dz_46 (dz_at q10w04_9_0 21)
theorem dX2_lastSpeed_22 : decode cX2_lastSpeed 22 = .ok (.ireturn, 1) := dz_172 (dz_at q10w04_9_0 22)
theorem dX2_lastSpeed_4 : decode cX2_lastSpeed 4 = .ok (.ifCond .ne 7, 3) := dz_154 (dz_at q10w04_9_0 4) (by decide +kernel)
theorem dX2_lastSpeed_7 : decode cX2_lastSpeed 7 = .ok (.iconst 1, 1) := dz_4 (dz_at q10w04_9_0 7)
theorem dX2_lastSpeed_8 : decode cX2_lastSpeed 8 = .ok (.goto 14, 3) := dz_167 (dz_at q10w04_9_0 8) (by decide +kernel)
theorem q10w04_10_0 : (cX2_round.data.toList.drop 0).take 10 = [27, 42, 182, 0, 40, 133, 184, 0, 43, 172] := by decide +kernel
theorem dX2_round_0 : decode cX2_round 0 = .ok (.iload_n 1, 1) := dz_27 (dz_at q10w04_10_0 0)
theorem dX2_round_1 : decode cX2_round 1 = .ok (.aload_n 0, 1) := dz_42 (dz_at q10w04_10_0 1)
theorem dX2_round_2 : decode cX2_round 2 = .ok (.invokevirtual 40, 3) := dz_182 (dz_at q10w04_10_0 2) rfl
theorem dX2_round_5 : decode cX2_round 5 = .ok (.i2l, 1) := dz_133 (dz_at q10w04_10_0 5)
theorem dX2_round_6 : decode cX2_round 6 = .ok (.invokestatic 43, 3) := dz_184 (dz_at q10w04_10_0 6) rfl
theorem dX2_round_9 : decode cX2_round 9 = .ok (.ireturn, 1) := dz_172 (dz_at q10w04_10_0 9)
theorem q10w04_11_0 : (cX2_wayTo.data.toList.drop 0).take 24 = [9, 66, 9, 55, 5, 4, 54, 7, 3, 54, 8, 21, 8, 42, 180, 0, 18, 162, 0, 59, 42, 180, 0, 9] := by decide +kernel
theorem q10w04_11_24 : (cX2_wayTo.data.toList.drop 24).take 24 = [21, 8, 46, 133, 31, 148, 156, 0, 46, 33, 42, 180, 0, 9, 21, 8, 46, 133, 22, 5, 101, 21, 7, 133] := by decide +kernel
theorem q10w04_11_48 : (cX2_wayTo.data.toList.drop 48).take 22 = [105, 97, 66, 42, 180, 0, 9, 21, 8, 46, 133, 55, 5, 42, 180, 0, 15, 21, 8, 46, 54, 7] := by decide +kernel
theorem q10w04_11_70 : (cX2_wayTo.data.toList.drop 70).take 17 = [132, 8, 1, 167, 255, 194, 33, 31, 22, 5, 101, 21, 7, 133, 105, 97, 173] := by decide +kernel
theorem dX2_wayTo_0 : decode cX2_wayTo 0 = .ok (.lconst 0, 1) := dz_9 (dz_at q10w04_11_0 0)
theorem dX2_wayTo_1 : decode cX2_wayTo 1 = .ok (.lstore_n 3, 1) := dz_66 (dz_at q10w04_11_0 1)
theorem dX2_wayTo_11 : decode cX2_wayTo 11 = .ok (.iload 8, 2) := dz_21 (dz_at q10w04_11_0 11)
theorem dX2_wayTo_13 : decode cX2_wayTo 13 = .ok (.aload_n 0, 1) := dz_42 (dz_at q10w04_11_0 13)
theorem dX2_wayTo_14 : decode cX2_wayTo 14 = .ok (.getfield 18, 3) := dz_180 (dz_at q10w04_11_0 14) rfl
theorem dX2_wayTo_17 : decode cX2_wayTo 17 = .ok (.if_icmp .ge 59, 3) := dz_162 (dz_at q10w04_11_0 17) (by decide +kernel)
theorem dX2_wayTo_2 : decode cX2_wayTo 2 = .ok (.lconst 0, 1) := dz_9 (dz_at q10w04_11_0 2)
theorem dX2_wayTo_20 : decode cX2_wayTo 20 = .ok (.aload_n 0, 1) := dz_42 (dz_at q10w04_11_0 20)
theorem dX2_wayTo_21 : decode cX2_wayTo 21 = .ok (.getfield 9, 3) := dz_180 (dz_at q10w04_11_0 21) rfl
theorem dX2_wayTo_24 : decode cX2_wayTo 24 = .ok (.iload 8, 2) := dz_21 (dz_at q10w04_11_24 0)
theorem dX2_wayTo_26 : decode cX2_wayTo 26 = .ok (.iaload, 1) := dz_46 (dz_at q10w04_11_24 2)
theorem dX2_wayTo_27 : decode cX2_wayTo 27 = .ok (.i2l, 1) := dz_133 (dz_at q10w04_11_24 3)
theorem dX2_wayTo_28 : decode cX2_wayTo 28 = .ok (.lload_n 1, 1) := dz_31 (dz_at q10w04_11_24 4)
theorem dX2_wayTo_29 : decode cX2_wayTo 29 = .ok (.lcmp, 1) := dz_148 (dz_at q10w04_11_24 5)
theorem dX2_wayTo_3 : decode cX2_wayTo 3 = .ok (.lstore 5, 2) := dz_55 (dz_at q10w04_11_0 3)
theorem dX2_wayTo_30 : decode cX2_wayTo 30 = .ok (.ifCond .ge 46, 3) := dz_156 (dz_at q10w04_11_24 6) (by decide +kernel)
theorem dX2_wayTo_33 : decode cX2_wayTo 33 = .ok (.lload_n 3, 1) := dz_33 (dz_at q10w04_11_24 9)
theorem dX2_wayTo_34 : decode cX2_wayTo 34 = .ok (.aload_n 0, 1) := dz_42 (dz_at q10w04_11_24 10)
theorem dX2_wayTo_35 : decode cX2_wayTo 35 = .ok (.getfield 9, 3) := dz_180 (dz_at q10w04_11_24 11) rfl
theorem dX2_wayTo_38 : decode cX2_wayTo 38 = .ok (.iload 8, 2) := dz_21 (dz_at q10w04_11_24 14)
theorem dX2_wayTo_40 : decode cX2_wayTo 40 = .ok (.iaload, 1) := dz_46 (dz_at q10w04_11_24 16)
theorem dX2_wayTo_41 : decode cX2_wayTo 41 = .ok (.i2l, 1) := dz_133 (dz_at q10w04_11_24 17)
theorem dX2_wayTo_42 : decode cX2_wayTo 42 = .ok (.lload 5, 2) := dz_22 (dz_at q10w04_11_24 18)
theorem dX2_wayTo_44 : decode cX2_wayTo 44 = .ok (.lsub, 1) := dz_101 (dz_at q10w04_11_24 20)
theorem dX2_wayTo_45 : decode cX2_wayTo 45 = .ok (.iload 7, 2) := dz_21 (dz_at q10w04_11_24 21)
theorem dX2_wayTo_47 : decode cX2_wayTo 47 = .ok (.i2l, 1) := dz_133 (dz_at q10w04_11_24 23)
theorem dX2_wayTo_48 : decode cX2_wayTo 48 = .ok (.lmul, 1) := dz_105 (dz_at q10w04_11_48 0)
theorem dX2_wayTo_49 : decode cX2_wayTo 49 = .ok (.ladd, 1) := dz_97 (dz_at q10w04_11_48 1)
theorem dX2_wayTo_5 : decode cX2_wayTo 5 = .ok (.iconst 1, 1) := dz_4 (dz_at q10w04_11_0 5)
theorem dX2_wayTo_50 : decode cX2_wayTo 50 = .ok (.lstore_n 3, 1) := dz_66 (dz_at q10w04_11_48 2)
theorem dX2_wayTo_51 : decode cX2_wayTo 51 = .ok (.aload_n 0, 1) := dz_42 (dz_at q10w04_11_48 3)
theorem dX2_wayTo_52 : decode cX2_wayTo 52 = .ok (.getfield 9, 3) := dz_180 (dz_at q10w04_11_48 4) rfl
theorem dX2_wayTo_55 : decode cX2_wayTo 55 = .ok (.iload 8, 2) := dz_21 (dz_at q10w04_11_48 7)
theorem dX2_wayTo_57 : decode cX2_wayTo 57 = .ok (.iaload, 1) := dz_46 (dz_at q10w04_11_48 9)
theorem dX2_wayTo_58 : decode cX2_wayTo 58 = .ok (.i2l, 1) := dz_133 (dz_at q10w04_11_48 10)
theorem dX2_wayTo_59 : decode cX2_wayTo 59 = .ok (.lstore 5, 2) := dz_55 (dz_at q10w04_11_48 11)
theorem dX2_wayTo_6 : decode cX2_wayTo 6 = .ok (.istore 7, 2) := dz_54 (dz_at q10w04_11_0 6)
theorem dX2_wayTo_61 : decode cX2_wayTo 61 = .ok (.aload_n 0, 1) := dz_42 (dz_at q10w04_11_48 13)
theorem dX2_wayTo_62 : decode cX2_wayTo 62 = .ok (.getfield 15, 3) := dz_180 (dz_at q10w04_11_48 14) rfl
theorem dX2_wayTo_65 : decode cX2_wayTo 65 = .ok (.iload 8, 2) := dz_21 (dz_at q10w04_11_48 17)
theorem dX2_wayTo_67 : decode cX2_wayTo 67 = .ok (.iaload, 1) := dz_46 (dz_at q10w04_11_48 19)
theorem dX2_wayTo_68 : decode cX2_wayTo 68 = .ok (.istore 7, 2) := dz_54 (dz_at q10w04_11_48 20)
theorem dX2_wayTo_70 : decode cX2_wayTo 70 = .ok (.iinc 8 1, 3) := dz_132 (dz_at q10w04_11_70 0) (by decide +kernel)
theorem dX2_wayTo_73 : decode cX2_wayTo 73 = .ok (.goto (-62), 3) := dz_167 (dz_at q10w04_11_70 3) (by decide +kernel)
theorem dX2_wayTo_76 : decode cX2_wayTo 76 = .ok (.lload_n 3, 1) := dz_33 (dz_at q10w04_11_70 6)
theorem dX2_wayTo_77 : decode cX2_wayTo 77 = .ok (.lload_n 1, 1) := dz_31 (dz_at q10w04_11_70 7)
theorem dX2_wayTo_78 : decode cX2_wayTo 78 = .ok (.lload 5, 2) := dz_22 (dz_at q10w04_11_70 8)
theorem dX2_wayTo_8 : decode cX2_wayTo 8 = .ok (.iconst 0, 1) := dz_3 (dz_at q10w04_11_0 8)
theorem dX2_wayTo_80 : decode cX2_wayTo 80 = .ok (.lsub, 1) := dz_101 (dz_at q10w04_11_70 10)
theorem dX2_wayTo_81 : decode cX2_wayTo 81 = .ok (.iload 7, 2) := dz_21 (dz_at q10w04_11_70 11)
theorem dX2_wayTo_83 : decode cX2_wayTo 83 = .ok (.i2l, 1) := dz_133 (dz_at q10w04_11_70 13)
theorem dX2_wayTo_84 : decode cX2_wayTo 84 = .ok (.lmul, 1) := dz_105 (dz_at q10w04_11_70 14)
theorem dX2_wayTo_85 : decode cX2_wayTo 85 = .ok (.ladd, 1) := dz_97 (dz_at q10w04_11_70 15)
theorem dX2_wayTo_86 : decode cX2_wayTo 86 = .ok (.lreturn, 1) := dz_173 (dz_at q10w04_11_70 16)
theorem dX2_wayTo_9 : decode cX2_wayTo 9 = .ok (.istore 8, 2) := dz_54 (dz_at q10w04_11_0 9)
theorem q10w04_12_0 : (cX9_empty.data.toList.drop 0).take 23 = [42, 180, 0, 23, 60, 42, 3, 181, 0, 23, 3, 61, 28, 5, 162, 0, 18, 42, 180, 0, 11, 28, 50] := by decide +kernel
theorem q10w04_12_23 : (cX9_empty.data.toList.drop 23).take 11 = [182, 0, 33, 132, 2, 1, 167, 255, 239, 27, 172] := by decide +kernel
theorem dX9_empty_0 : decode cX9_empty 0 = .ok (.aload_n 0, 1) := dz_42 (dz_at q10w04_12_0 0)
theorem dX9_empty_1 : decode cX9_empty 1 = .ok (.getfield 23, 3) := dz_180 (dz_at q10w04_12_0 1) rfl
theorem dX9_empty_10 : decode cX9_empty 10 = .ok (.iconst 0, 1) := dz_3 (dz_at q10w04_12_0 10)
theorem dX9_empty_11 : decode cX9_empty 11 = .ok (.istore_n 2, 1) := dz_61 (dz_at q10w04_12_0 11)
theorem dX9_empty_12 : decode cX9_empty 12 = .ok (.iload_n 2, 1) := dz_28 (dz_at q10w04_12_0 12)
theorem dX9_empty_13 : decode cX9_empty 13 = .ok (.iconst 2, 1) := dz_5 (dz_at q10w04_12_0 13)
theorem dX9_empty_14 : decode cX9_empty 14 = .ok (.if_icmp .ge 18, 3) := dz_162 (dz_at q10w04_12_0 14) (by decide +kernel)
theorem dX9_empty_17 : decode cX9_empty 17 = .ok (.aload_n 0, 1) := dz_42 (dz_at q10w04_12_0 17)
theorem dX9_empty_18 : decode cX9_empty 18 = .ok (.getfield 11, 3) := dz_180 (dz_at q10w04_12_0 18) rfl
theorem dX9_empty_21 : decode cX9_empty 21 = .ok (.iload_n 2, 1) := dz_28 (dz_at q10w04_12_0 21)
theorem dX9_empty_22 : decode cX9_empty 22 = .ok (.aaload, 1) := dz_50 (dz_at q10w04_12_0 22)
theorem dX9_empty_23 : decode cX9_empty 23 = .ok (.invokevirtual 33, 3) := dz_182 (dz_at q10w04_12_23 0) rfl
theorem dX9_empty_26 : decode cX9_empty 26 = .ok (.iinc 2 1, 3) := dz_132 (dz_at q10w04_12_23 3) (by decide +kernel)
theorem dX9_empty_29 : decode cX9_empty 29 = .ok (.goto (-17), 3) := dz_167 (dz_at q10w04_12_23 6) (by decide +kernel)
theorem dX9_empty_32 : decode cX9_empty 32 = .ok (.iload_n 1, 1) := dz_27 (dz_at q10w04_12_23 9)
theorem dX9_empty_33 : decode cX9_empty 33 = .ok (.ireturn, 1) := dz_172 (dz_at q10w04_12_23 10)
theorem dX9_empty_4 : decode cX9_empty 4 = .ok (.istore_n 1, 1) := dz_60 (dz_at q10w04_12_0 4)
theorem dX9_empty_5 : decode cX9_empty 5 = .ok (.aload_n 0, 1) := dz_42 (dz_at q10w04_12_0 5)
theorem dX9_empty_6 : decode cX9_empty 6 = .ok (.iconst 0, 1) := dz_3 (dz_at q10w04_12_0 6)
theorem dX9_empty_7 : decode cX9_empty 7 = .ok (.putfield 23, 3) := dz_181 (dz_at q10w04_12_0 7) rfl
theorem q10w04_13_0 : (cX9_roundOf.data.toList.drop 0).take 19 = [42, 43, 180, 0, 46, 182, 0, 49, 43, 180, 0, 53, 180, 0, 57, 182, 0, 62, 172] := by decide +kernel
theorem dX9_roundOf_0 : decode cX9_roundOf 0 = .ok (.aload_n 0, 1) := dz_42 (dz_at q10w04_13_0 0)
theorem dX9_roundOf_1 : decode cX9_roundOf 1 = .ok (.aload_n 1, 1) := dz_43 (dz_at q10w04_13_0 1)
theorem dX9_roundOf_12 : decode cX9_roundOf 12 = .ok (.getfield 57, 3) := dz_180 (dz_at q10w04_13_0 12) rfl
theorem dX9_roundOf_15 : decode cX9_roundOf 15 = .ok (.invokevirtual 62, 3) := dz_182 (dz_at q10w04_13_0 15) rfl
theorem dX9_roundOf_18 : decode cX9_roundOf 18 = .ok (.ireturn, 1) := dz_172 (dz_at q10w04_13_0 18)
theorem dX9_roundOf_2 : decode cX9_roundOf 2 = .ok (.getfield 46, 3) := dz_180 (dz_at q10w04_13_0 2) rfl
theorem dX9_roundOf_5 : decode cX9_roundOf 5 = .ok (.invokevirtual 49, 3) := dz_182 (dz_at q10w04_13_0 5) rfl
theorem dX9_roundOf_8 : decode cX9_roundOf 8 = .ok (.aload_n 1, 1) := dz_43 (dz_at q10w04_13_0 8)
theorem dX9_roundOf_9 : decode cX9_roundOf 9 = .ok (.getfield 53, 3) := dz_180 (dz_at q10w04_13_0 9) rfl
theorem dm_X9_motorOf : yX9_motorOf.cls = RX9 ∧ yX9_motorOf.cls ≠ "java/lang/invoke/MethodHandle" ∧ yX9_motorOf.cls ≠ "java/lang/invoke/VarHandle" ∧ (parseMethodDescriptor yX9_motorOf.desc).map (fun d => d.parameters.length) = some 1 := by decide +kernel
theorem dm_X2_tell : yX2_tell.cls = RX2 ∧ yX2_tell.cls ≠ "java/lang/invoke/MethodHandle" ∧ yX2_tell.cls ≠ "java/lang/invoke/VarHandle" ∧ (parseMethodDescriptor yX2_tell.desc).map (fun d => d.parameters.length) = some 2 := by decide +kernel
theorem dm_X2_forget : yX2_forget.cls = RX2 ∧ yX2_forget.cls ≠ "java/lang/invoke/MethodHandle" ∧ yX2_forget.cls ≠ "java/lang/invoke/VarHandle" ∧ (parseMethodDescriptor yX2_forget.desc).map (fun d => d.parameters.length) = some 0 := by decide +kernel
theorem dm_X9_empty : yX9_empty.cls = RX9 ∧ yX9_empty.cls ≠ "java/lang/invoke/MethodHandle" ∧ yX9_empty.cls ≠ "java/lang/invoke/VarHandle" ∧ (parseMethodDescriptor yX9_empty.desc).map (fun d => d.parameters.length) = some 0 := by decide +kernel
theorem dm_X11_greatestDivisor : yX11_greatestDivisor.cls = RX11 ∧ yX11_greatestDivisor.cls ≠ "java/lang/invoke/MethodHandle" ∧ yX11_greatestDivisor.cls ≠ "java/lang/invoke/VarHandle" ∧ (parseMethodDescriptor yX11_greatestDivisor.desc).map (fun d => d.parameters.length) = some 2 := by decide +kernel
theorem dm_X2_lastSpeed : yX2_lastSpeed.cls = RX2 ∧ yX2_lastSpeed.cls ≠ "java/lang/invoke/MethodHandle" ∧ yX2_lastSpeed.cls ≠ "java/lang/invoke/VarHandle" ∧ (parseMethodDescriptor yX2_lastSpeed.desc).map (fun d => d.parameters.length) = some 0 := by decide +kernel
theorem dm_X11_withoutShared : yX11_withoutShared.cls = RX11 ∧ yX11_withoutShared.cls ≠ "java/lang/invoke/MethodHandle" ∧ yX11_withoutShared.cls ≠ "java/lang/invoke/VarHandle" ∧ (parseMethodDescriptor yX11_withoutShared.desc).map (fun d => d.parameters.length) = some 2 := by decide +kernel
theorem dm_X2_round : yX2_round.cls = RX2 ∧ yX2_round.cls ≠ "java/lang/invoke/MethodHandle" ∧ yX2_round.cls ≠ "java/lang/invoke/VarHandle" ∧ (parseMethodDescriptor yX2_round.desc).map (fun d => d.parameters.length) = some 1 := by decide +kernel
theorem dm_X9_roundOf : yX9_roundOf.cls = RX9 ∧ yX9_roundOf.cls ≠ "java/lang/invoke/MethodHandle" ∧ yX9_roundOf.cls ≠ "java/lang/invoke/VarHandle" ∧ (parseMethodDescriptor yX9_roundOf.desc).map (fun d => d.parameters.length) = some 1 := by decide +kernel
theorem dm_X2_wayTo : yX2_wayTo.cls = RX2 ∧ yX2_wayTo.cls ≠ "java/lang/invoke/MethodHandle" ∧ yX2_wayTo.cls ≠ "java/lang/invoke/VarHandle" ∧ (parseMethodDescriptor yX2_wayTo.desc).map (fun d => d.parameters.length) = some 1 := by decide +kernel
set_option maxRecDepth 100000 in
def wC_motor (a0 : Int) (a1 : Int) (a2 : Int) (M : zM) (Q : Int → zM → Prop) : Prop := wC_isMotor a0 M (fun z2 => (z2 = 0 → Q 0 M) ∧ (z2 ≠ 0 → wC_within a1 0 5000 M (fun z7 => (z7 = 0 → Q 0 M) ∧ (z7 ≠ 0 → wC_within a2 (-9) 9 M (fun z12 => (z12 ≠ 0 → wC_Studio_motorOf a0 M (fun z17 => ∃ q19, z17 = some q19 ∧ (q19 < nC ∧ zcd wC q19 = 11) ∧ (wC_Motor_tell q19 a1 a2 M (fun z27 M26 => Q z27 M26)))) ∧ (z12 = 0 → Q 0 M))))))
set_option maxHeartbeats 4000000 in
set_option maxRecDepth 100000 in
theorem cC_motor (l : Launch) (D : va_G) (dA : Nat → ClassId) (b : Nat) (M : zM) (a0 : Int) (a1 : Int) (a2 : Int)  (Q : Int → zM → Prop) (h : wC_motor a0 a1 a2 M Q) : Met l yX11_motor (.code yX11_motor cX11_motor 4 (some .boolean) :: zt) (z_rm 2) (va_Pc [.ref (b + 0), .int (iI a0), .int (iI a1), .int (iI a2)] (wPre D dA vwCl (z_tys dA) wC nC b M)) (va_Qi (wQz Q) (zB D dA vwCl wC nC b) (zA nC b)) 0 0 (zA nC b) := by
  unfold wC_motor at h
  refine Met.ofW (cc := cX11_motor) (maxL := 4) (ret := (some .boolean)) (by decide) rfl ?_
  intro p e s m args below meth c s₁ B hml hv
  obtain ⟨hargs, hS, hK⟩ := hv
  have hx := B.exec
  have hb := B.bytes
  have hr := B.returns
  have hts := atoms_spec (ws := .code yX11_motor cX11_motor 4 (some .boolean) :: zt) B.pre
  have hown : s.vm.findClass RX11 = some m.cls := findClass_of_methodNamed B.named
  have hlocks := B.notSynchronized
  have hS0 : va_S (zA nC b) s.heap s.heap [] := va_S.rf
  have hl := lv_entry ([.ref (b + 0), .int (iI a0), .int (iI a1), .int (iI a2)]) (n := 4) (Nat.le_of_ble_eq_true rfl)
  have hent : entryFrame m args 4 = F0 m 0 ((lg_sl ([.ref (b + 0), .int (iI a0), .int (iI a1), .int (iI a2)]) ++ List.replicate (4 - (lg_sl ([.ref (b + 0), .int (iI a0), .int (iI a1), .int (iI a2)])).length) Slot.unset).toArray) [] := by rw [hargs]; exact lg_entry_eq m ([.ref (b + 0), .int (iI a0), .int (iI a1), .int (iI a2)]) 4
  rw [hent]
  generalize (lg_sl ([.ref (b + 0), .int (iI a0), .int (iI a1), .int (iI a2)]) ++ List.replicate (4 - (lg_sl ([.ref (b + 0), .int (iI a0), .int (iI a1), .int (iI a2)])).length) Slot.unset).toArray = ls at hl ⊢
  have hl : lv_has ls 4 [(0, .ref (b + 0)), (1, .int (iI a0)), (2, .int (iI a1)), (3, .int (iI a2))] := hl
  refine lv_iload_n hx hb dX11_motor_0 rfl (lv_at hl 1 rfl) ?_
  refine w_callz (va_runS (As := [.int (iI a0)]) (rest := []) ⟨hx, hb, hml, hown, hts⟩ (cC_isMotor l D dA b M a0 _ h) (va_cwS 1 hts (z_gS k379 k380 k1 k381) rfl rfl rfl dm_X11_isMotor.2 ⟨Nat.le_of_ble_eq_true rfl, Nat.le_of_ble_eq_true rfl⟩) ⟨wPre_blind, w_pre hS hK⟩ rfl rfl hl.1 rfl (lv_room (Nat.le_of_ble_eq_true rfl)) dX11_motor_1 ⟨Nat.le_refl _, Nat.le_refl _⟩) hS0 (fun z2 M1 H locs r3 h hS hS0 => ?_)
  obtain ⟨e4, h⟩ := h
  rw [e4] at hS
  refine w_if_eq (tgt := 29) hx hb (sI_01 r3) dX11_motor_4 (by decide) (fun c5 => ?_) (fun c5 => ?_)
  · skip
    have h := h.1 c5
    refine z_iconst hx hb dX11_motor_29 ?_
    exact w_zret hx hb hr hlocks hS hS0 (sI_of (by decide)) (by decide) h dX11_motor_30
  · skip
    have h := h.2 c5
    refine lv_iload_n hx hb dX11_motor_7 rfl (lv_at hl 2 rfl) ?_
    refine z_iconst hx hb dX11_motor_8 ?_
    refine z_sipush hx hb (by decide) dX11_motor_9 ?_
    refine w_callz (va_runS (As := [.int (iI a1), .int (iI 0), .int (iI 5000)]) (rest := []) ⟨hx, hb, hml, hown, hts⟩ (cC_within l D dA b M a1 0 5000 _ h) (va_cwS 3 hts (z_gS k382 k383 k1 k384) rfl rfl rfl dm_X11_within.2 ⟨Nat.le_of_ble_eq_true rfl, Nat.le_of_ble_eq_true rfl⟩) ⟨wPre_blind, w_pre hS hK⟩ rfl rfl hl.1 rfl (lv_room (Nat.le_of_ble_eq_true rfl)) dX11_motor_12 ⟨Nat.le_refl _, Nat.le_refl _⟩) hS0 (fun z7 M6 H locs r8 h hS hS0 => ?_)
    obtain ⟨e9, h⟩ := h
    rw [e9] at hS
    refine w_if_eq (tgt := 29) hx hb (sI_01 r8) dX11_motor_15 (by decide) (fun c10 => ?_) (fun c10 => ?_)
    · skip
      have h := h.1 c10
      refine z_iconst hx hb dX11_motor_29 ?_
      exact w_zret hx hb hr hlocks hS hS0 (sI_of (by decide)) (by decide) h dX11_motor_30
    · skip
      have h := h.2 c10
      refine lv_iload_n hx hb dX11_motor_18 rfl (lv_at hl 3 rfl) ?_
      refine z_bipush hx hb (by decide) dX11_motor_19 ?_
      refine z_bipush hx hb (by decide) dX11_motor_21 ?_
      refine w_callz (va_runS (As := [.int (iI a2), .int (iI (-9)), .int (iI 9)]) (rest := []) ⟨hx, hb, hml, hown, hts⟩ (cC_within l D dA b M a2 (-9) 9 _ h) (va_cwS 3 hts (z_gS k382 k383 k1 k384) rfl rfl rfl dm_X11_within.2 ⟨Nat.le_of_ble_eq_true rfl, Nat.le_of_ble_eq_true rfl⟩) ⟨wPre_blind, w_pre hS hK⟩ rfl rfl hl.1 rfl (lv_room (Nat.le_of_ble_eq_true rfl)) dX11_motor_23 ⟨Nat.le_refl _, Nat.le_refl _⟩) hS0 (fun z12 M11 H locs r13 h hS hS0 => ?_)
      obtain ⟨e14, h⟩ := h
      rw [e14] at hS
      refine w_if_ne (tgt := 31) hx hb (sI_01 r13) dX11_motor_26 (by decide) (fun c15 => ?_) (fun c15 => ?_)
      · skip
        have h := h.1 c15
        refine lv_aload_n hx hb dX11_motor_31 rfl (lv_at hl 0 rfl) ?_
        refine w_getr (j2 := 32) hx hb hts (z_memU u11) hown hK.1 hS f11_2 (by decide) (zkd_of (rfl : zcd wC 0 = 0) rfl) (zrf_of (rfl : zcd wC 0 = 0) rfl) (Or.inl (hts _ (z_mem k244))) dX11_motor_32 ?_
        refine lv_iload_n hx hb dX11_motor_35 rfl (lv_at hl 1 rfl) ?_
        refine w_callq (va_runV (As := [.int (iI a0)]) (rest := []) ⟨hx, hb, hml, hown, hts⟩ (cC_Studio_motorOf l D dA b M a0 _ h) (cwV 1 hts (z_gV k442 k443 k444 k4 k445) rfl rfl rfl dm_X9_motorOf ⟨Nat.le_of_ble_eq_true rfl, Nat.le_of_ble_eq_true rfl⟩) ⟨wPre_blind, (w_recv hS hK.1 (by decide) (zkd_of (rfl : zcd wC 32 = 8) rfl) (by decide) (rfl : vwCl[9]? = some (RX9, TX9, 3))), w_pre hS hK⟩ rfl rfl hl.1 rfl (lv_room (Nat.le_of_ble_eq_true rfl)) dX11_motor_36 ⟨Nat.le_refl _, Nat.le_refl _⟩) hS0 (fun z17 M16 H locs h hS hS0 => ?_)
        obtain ⟨e18, h⟩ := h
        rw [e18] at hS
        obtain ⟨q19, rfl, ⟨lt20, cd21⟩, h⟩ := h
        obtain ⟨lt22, cd23, lt24, cd25⟩ := nx_motor q19 lt20 cd21
        refine lv_iload_n hx hb dX11_motor_39 rfl (lv_at hl 2 rfl) ?_
        refine lv_iload_n hx hb dX11_motor_40 rfl (lv_at hl 3 rfl) ?_
        refine w_callz (va_runV (As := [.int (iI a1), .int (iI a2)]) (rest := []) ⟨hx, hb, hml, hown, hts⟩ (cC_Motor_tell l D dA b M q19 a1 a2 lt20 cd21 _ h) (cwV 2 hts (z_gV k446 k447 k448 k5 k449) rfl rfl rfl dm_X2_tell ⟨Nat.le_of_ble_eq_true rfl, Nat.le_of_ble_eq_true rfl⟩) ⟨wPre_blind, (w_recv hS hK.1 lt20 (zkd_of cd21 rfl) (by decide) (rfl : vwCl[2]? = some (RX2, TX2, 3))), w_pre hS hK⟩ rfl rfl hl.1 rfl (lv_room (Nat.le_of_ble_eq_true rfl)) dX11_motor_41 ⟨Nat.le_refl _, Nat.le_refl _⟩) hS0 (fun z27 M26 H locs r28 h hS hS0 => ?_)
        exact w_zret hx hb hr hlocks hS hS0 (sI_01 r28) r28 h dX11_motor_44
      · skip
        have h := h.2 c15
        refine z_iconst hx hb dX11_motor_29 ?_
        exact w_zret hx hb hr hlocks hS hS0 (sI_of (by decide)) (by decide) h dX11_motor_30

set_option maxRecDepth 100000 in
def wC_Motor_forget (j : Nat) (M : zM) (Q : zM → Prop) : Prop := (∀ M5 : zM, M5 = zup M j 2 0 → Q M5)
set_option maxHeartbeats 4000000 in
set_option maxRecDepth 100000 in
theorem cC_Motor_forget (l : Launch) (D : va_G) (dA : Nat → ClassId) (b : Nat) (M : zM) (j : Nat) (lt_j : j < nC) (cd_j : zcd wC j = 11) (Q : zM → Prop) (h : wC_Motor_forget j M Q) : Met l yX2_forget (.code yX2_forget cX2_forget 1 none :: zt) (z_rm 0) (va_Pc [.ref (b + j)] (wPre D dA vwCl (z_tys dA) wC nC b M)) (va_Qv (wQv Q) (zB D dA vwCl wC nC b) (zA nC b)) 0 0 (zA nC b) := by
  unfold wC_Motor_forget at h
  refine Met.ofW (cc := cX2_forget) (maxL := 1) (ret := none) (by decide) rfl ?_
  intro p e s m args below meth c s₁ B hml hv
  obtain ⟨hargs, hS, hK⟩ := hv
  have hx := B.exec
  have hb := B.bytes
  have hr := B.returns
  have hts := atoms_spec (ws := .code yX2_forget cX2_forget 1 none :: zt) B.pre
  have hown : s.vm.findClass RX2 = some m.cls := findClass_of_methodNamed B.named
  have hlocks := B.notSynchronized
  have hS0 : va_S (zA nC b) s.heap s.heap [] := va_S.rf
  have hl := lv_entry ([.ref (b + j)]) (n := 1) (Nat.le_of_ble_eq_true rfl)
  have hent : entryFrame m args 1 = F0 m 0 ((lg_sl ([.ref (b + j)]) ++ List.replicate (1 - (lg_sl ([.ref (b + j)])).length) Slot.unset).toArray) [] := by rw [hargs]; exact lg_entry_eq m ([.ref (b + j)]) 1
  rw [hent]
  generalize (lg_sl ([.ref (b + j)]) ++ List.replicate (1 - (lg_sl ([.ref (b + j)])).length) Slot.unset).toArray = ls at hl ⊢
  have hl : lv_has ls 1 [(0, .ref (b + j))] := hl
  obtain ⟨lt1, cd2, lt3, cd4⟩ := nx_motor j lt_j cd_j
  refine lv_aload_n hx hb dX2_forget_0 rfl (lv_at hl 0 rfl) ?_
  refine z_iconst hx hb dX2_forget_1 ?_
  refine w_puti hx hb hts (z_memU u2) tyX2 tyX2_ok nmX2 hown hK.1 hS hS0 f2_2 lt_j (zkd_of cd_j rfl) (Or.inl (hts _ (z_mem k84))) rfl (z := 0) (by decide +kernel) dX2_forget_2 (fun H locs hS hS0 => ?_)
  obtain ⟨M5, e6⟩ : ∃ M5 : zM, M5 = zup M j 2 0 := ⟨_, rfl⟩
  rw [← e6] at hS
  have h := h M5 e6
  exact w_vret hx hb hr hlocks hS hS0 h dX2_forget_5

set_option maxRecDepth 100000 in
def wC_Studio_empty  (M : zM) (Q : Int → zM → Prop) : Prop := (∀ M1 : zM, M1 = zup M 32 2 0 → wL1 (fun K12 x3 M4 => (2 ≤ (sI x3) → Q (sI (M 32 2)) M4) ∧ ((sI x3) < 2 → ((0 ≤ (sI x3) ∧ (sI x3) < 2) ∧ wC_Motor_forget (35 + 3 * (sI x3).toNat) M4 (fun M20 => K12 (x3 + 1) M20)))) 0 M1)
set_option maxHeartbeats 4000000 in
set_option maxRecDepth 100000 in
theorem cC_Studio_empty (l : Launch) (D : va_G) (dA : Nat → ClassId) (b : Nat) (M : zM)   (Q : Int → zM → Prop) (h : wC_Studio_empty  M Q) : Met l yX9_empty (.code yX9_empty cX9_empty 3 (some .int) :: zt) (z_rm 1) (va_Pc [.ref (b + 32)] (wPre D dA vwCl (z_tys dA) wC nC b M)) (va_Qi (wQi Q) (zB D dA vwCl wC nC b) (zA nC b)) 0 0 (zA nC b) := by
  unfold wC_Studio_empty at h
  refine Met.ofW (cc := cX9_empty) (maxL := 3) (ret := (some .int)) (by decide) rfl ?_
  intro p e s m args below meth c s₁ B hml hv
  obtain ⟨hargs, hS, hK⟩ := hv
  have hx := B.exec
  have hb := B.bytes
  have hr := B.returns
  have hts := atoms_spec (ws := .code yX9_empty cX9_empty 3 (some .int) :: zt) B.pre
  have hown : s.vm.findClass RX9 = some m.cls := findClass_of_methodNamed B.named
  have hlocks := B.notSynchronized
  have hS0 : va_S (zA nC b) s.heap s.heap [] := va_S.rf
  have hl := lv_entry ([.ref (b + 32)]) (n := 3) (Nat.le_of_ble_eq_true rfl)
  have hent : entryFrame m args 3 = F0 m 0 ((lg_sl ([.ref (b + 32)]) ++ List.replicate (3 - (lg_sl ([.ref (b + 32)])).length) Slot.unset).toArray) [] := by rw [hargs]; exact lg_entry_eq m ([.ref (b + 32)]) 3
  rw [hent]
  generalize (lg_sl ([.ref (b + 32)]) ++ List.replicate (3 - (lg_sl ([.ref (b + 32)])).length) Slot.unset).toArray = ls at hl ⊢
  have hl : lv_has ls 3 [(0, .ref (b + 32))] := hl
  refine lv_aload_n hx hb dX9_empty_0 rfl (lv_at hl 0 rfl) ?_
  refine w_geti hx hb hts (z_memU u9) hown hK.1 hS f9_2 (by decide) (zkd_of (rfl : zcd wC 32 = 8) rfl) (Or.inl (hts _ (z_mem k118))) dX9_empty_1 ?_
  refine lv_istore_n (lv' := [(1, .int (iI (M 32 2))), (0, .ref (b + 32))]) hx hb dX9_empty_4 rfl hl (by decide) rfl (fun ls hl => ?_)
  refine lv_aload_n hx hb dX9_empty_5 rfl (lv_at hl 1 rfl) ?_
  refine z_iconst hx hb dX9_empty_6 ?_
  refine w_puti hx hb hts (z_memU u9) tyX9 tyX9_ok nmX9 hown hK.1 hS hS0 f9_2 (by decide) (zkd_of (rfl : zcd wC 32 = 8) rfl) (Or.inl (hts _ (z_mem k118))) rfl (z := 0) (by decide +kernel) dX9_empty_7 (fun H locs hS hS0 => ?_)
  obtain ⟨M1, e2⟩ : ∃ M1 : zM, M1 = zup M 32 2 0 := ⟨_, rfl⟩
  rw [← e2] at hS
  have h := h M1 e2
  refine z_iconst hx hb dX9_empty_10 ?_
  refine lv_istore_n (lv' := [(2, .int (iI 0)), (1, .int (iI (M 32 2))), (0, .ref (b + 32))]) hx hb dX9_empty_11 rfl hl (by decide) rfl (fun ls hl => ?_)
  obtain ⟨I5, ⟨n6, h7⟩, h8⟩ := h
  have L9 : ∀ (n10 : Nat) (x3 : Int) (M4 : zM) (H : Heap) (locs : List Loc) (ls : Array Slot), I5 n10 x3 M4 → zR D dA vwCl wC nC b M4 H → va_S (zA nC b) s.heap H locs → lv_has ls 3 [(0, .ref (b + 32)), (1, .int (iI (M 32 2))), (2, .int (iI x3))] → W p l e (headSpec (.code yX9_empty cX9_empty 3 (some .int) :: zt) (z_rm 1)).room s m args below meth c H locs 0 0 (MQ below (va_Qi (wQi Q) (zB D dA vwCl wC nC b) (zA nC b)) args s 0 0 (zA nC b)) (F0 m 12 ls []) := by
    intro n10
    induction n10 using Nat.strongRecOn with
    | ind n10 i11 =>
      intro x3 M4 H locs ls h hS hS0 hl
      have h := h8 n10 x3 M4 h
      refine lv_iload_n hx hb dX9_empty_12 rfl (lv_at hl 2 rfl) ?_
      refine z_iconst hx hb dX9_empty_13 ?_
      refine w_icmp_ge (tgt := 32) hx hb rfl (sI_of (by decide)) dX9_empty_14 (by decide) (fun c12 => ?_) (fun c12 => ?_)
      · skip
        have h := h.1 c12
        refine lv_iload_n hx hb dX9_empty_32 rfl (lv_at hl 1 rfl) ?_
        exact w_iret hx hb hr hlocks hS hS0 rfl h dX9_empty_33
      · skip
        have h := h.2 c12
        refine lv_aload_n hx hb dX9_empty_17 rfl (lv_at hl 0 rfl) ?_
        refine w_getr (j2 := 33) hx hb hts (z_memU u9) hown hK.1 hS f9_0 (by decide) (zkd_of (rfl : zcd wC 32 = 8) rfl) (zrf_of (rfl : zcd wC 32 = 8) rfl) (Or.inl (hts _ (z_mem k116))) dX9_empty_18 ?_
        refine lv_iload_n hx hb dX9_empty_21 rfl (lv_at hl 2 rfl) ?_
        obtain ⟨o13, h⟩ := h
        refine w_aald (n := 2) (i := (sI x3)) (j2 := (35 + 3 * (sI x3).toNat)) hx hb hK.1 (t0 := 5) (r := 5) (by decide) rfl rfl hS (by decide) (zkd_of (rfl : zcd wC 33 = 9) rfl) (zln_of (rfl : zcd wC 33 = 9) rfl) rfl o13.1 o13.2 (by decide) (zrf_of (rfl : zcd wC 33 = 9) rfl) dX9_empty_22 ?_
        obtain ⟨lt14, cd15⟩ : (35 + 3 * (sI x3).toNat) < nC ∧ zcd wC (35 + 3 * (sI x3).toNat) = 11 := (by decide : ∀ k : Nat, k < 2 → (35 + 3 * k) < nC ∧ zcd wC (35 + 3 * k) = 11) (sI x3).toNat (by clear h; have h0 := o13.1; have h1 := o13.2; omega)
        obtain ⟨lt16, cd17, lt18, cd19⟩ := nx_motor (35 + 3 * (sI x3).toNat) lt14 cd15
        refine w_callv (va_runV (As := []) (rest := []) ⟨hx, hb, hml, hown, hts⟩ (cC_Motor_forget l D dA b M4 (35 + 3 * (sI x3).toNat) lt14 cd15 _ h) (cwV 0 hts (z_gV k458 k459 k460 k5 k461) rfl rfl rfl dm_X2_forget ⟨Nat.le_of_ble_eq_true rfl, Nat.le_of_ble_eq_true rfl⟩) ⟨wPre_blind, (w_recv hS hK.1 lt14 (zkd_of cd15 rfl) (by decide) (rfl : vwCl[2]? = some (RX2, TX2, 3))), w_pre hS hK⟩ rfl rfl hl.1 rfl (lv_room (Nat.le_of_ble_eq_true rfl)) dX9_empty_23 ⟨Nat.le_refl _, Nat.le_refl _⟩) hS0 (fun M20 H locs h hS hS0 => ?_)
        refine z_iinc (lv' := [(2, .int (iI (x3 + 1))), (0, .ref (b + 32)), (1, .int (iI (M 32 2)))]) hx hb dX9_empty_26 hl (k := 2) rfl (by decide) rfl (fun ls hl => ?_)
        refine lv_goto (tgt := 12) hx hb dX9_empty_29 (by decide) ?_
        obtain ⟨n21, h22, h⟩ := h
        exact i11 n21 h22 (x3 + 1) M20 _ _ _ h hS hS0 (lv_sub hl [1, 2, 0] rfl)
  exact L9 n6 0 M1 _ _ _ h7 hS hS0 (lv_sub hl [2, 1, 0] rfl)

set_option maxRecDepth 100000 in
def wC_clear  (M : zM) (Q : Int → zM → Prop) : Prop := (∀ M1 : zM, M1 = zup M 60 2 0 → wC_Studio_empty  M1 (fun z4 M3 => Q z4 M3))
set_option maxHeartbeats 4000000 in
set_option maxRecDepth 100000 in
theorem cC_clear (l : Launch) (D : va_G) (dA : Nat → ClassId) (b : Nat) (M : zM)   (Q : Int → zM → Prop) (h : wC_clear  M Q) : Met l yX11_clear (.code yX11_clear cX11_clear 1 (some .int) :: zt) (z_rm 2) (va_Pc [.ref (b + 0)] (wPre D dA vwCl (z_tys dA) wC nC b M)) (va_Qi (wQi Q) (zB D dA vwCl wC nC b) (zA nC b)) 0 0 (zA nC b) := by
  unfold wC_clear at h
  refine Met.ofW (cc := cX11_clear) (maxL := 1) (ret := (some .int)) (by decide) rfl ?_
  intro p e s m args below meth c s₁ B hml hv
  obtain ⟨hargs, hS, hK⟩ := hv
  have hx := B.exec
  have hb := B.bytes
  have hr := B.returns
  have hts := atoms_spec (ws := .code yX11_clear cX11_clear 1 (some .int) :: zt) B.pre
  have hown : s.vm.findClass RX11 = some m.cls := findClass_of_methodNamed B.named
  have hlocks := B.notSynchronized
  have hS0 : va_S (zA nC b) s.heap s.heap [] := va_S.rf
  have hl := lv_entry ([.ref (b + 0)]) (n := 1) (Nat.le_of_ble_eq_true rfl)
  have hent : entryFrame m args 1 = F0 m 0 ((lg_sl ([.ref (b + 0)]) ++ List.replicate (1 - (lg_sl ([.ref (b + 0)])).length) Slot.unset).toArray) [] := by rw [hargs]; exact lg_entry_eq m ([.ref (b + 0)]) 1
  rw [hent]
  generalize (lg_sl ([.ref (b + 0)]) ++ List.replicate (1 - (lg_sl ([.ref (b + 0)])).length) Slot.unset).toArray = ls at hl ⊢
  have hl : lv_has ls 1 [(0, .ref (b + 0))] := hl
  refine lv_aload_n hx hb dX11_clear_0 rfl (lv_at hl 0 rfl) ?_
  refine w_getr (j2 := 60) hx hb hts (z_memU u11) hown hK.1 hS f11_4 (by decide) (zkd_of (rfl : zcd wC 0 = 0) rfl) (zrf_of (rfl : zcd wC 0 = 0) rfl) (Or.inl (hts _ (z_mem k246))) dX11_clear_1 ?_
  refine z_iconst hx hb dX11_clear_4 ?_
  refine w_puti hx hb hts (z_memU u5) tyX5 tyX5_ok nmX5 hown hK.1 hS hS0 f5_2 (by decide) (zkd_of (rfl : zcd wC 60 = 19) rfl) (Or.inl (hts _ (z_mem k146))) rfl (z := 0) (by decide +kernel) dX11_clear_5 (fun H locs hS hS0 => ?_)
  obtain ⟨M1, e2⟩ : ∃ M1 : zM, M1 = zup M 60 2 0 := ⟨_, rfl⟩
  rw [← e2] at hS
  have h := h M1 e2
  refine lv_aload_n hx hb dX11_clear_8 rfl (lv_at hl 0 rfl) ?_
  refine w_getr (j2 := 32) hx hb hts (z_memU u11) hown hK.1 hS f11_2 (by decide) (zkd_of (rfl : zcd wC 0 = 0) rfl) (zrf_of (rfl : zcd wC 0 = 0) rfl) (Or.inl (hts _ (z_mem k244))) dX11_clear_9 ?_
  refine w_calli (va_runV (As := []) (rest := []) ⟨hx, hb, hml, hown, hts⟩ (cC_Studio_empty l D dA b M1  _ h) (cwV 0 hts (z_gV k454 k455 k456 k4 k457) rfl rfl rfl dm_X9_empty ⟨Nat.le_of_ble_eq_true rfl, Nat.le_of_ble_eq_true rfl⟩) ⟨wPre_blind, (w_recv hS hK.1 (by decide) (zkd_of (rfl : zcd wC 32 = 8) rfl) (by decide) (rfl : vwCl[9]? = some (RX9, TX9, 3))), w_pre hS hK⟩ rfl rfl hl.1 rfl (lv_room (Nat.le_of_ble_eq_true rfl)) dX11_clear_12 ⟨Nat.le_refl _, Nat.le_refl _⟩) hS0 (fun z4 M3 H locs r5 h hS hS0 => ?_)
  exact w_iret hx hb hr hlocks hS hS0 (sI_of r5) h dX11_clear_15

set_option maxRecDepth 100000 in
def wC_count (a0 : Int) (M : zM) (Q : Int → Prop) : Prop := ((sI a0) = 0 → Q (sI (M 32 2))) ∧ ((sI a0) ≠ 0 → ((sI a0) = 1 → Q (sI (M 60 2))) ∧ ((sI a0) ≠ 1 → ((sI a0) = 2 → Q (sI (M 82 1))) ∧ ((sI a0) ≠ 2 → ((sI a0) = 3 → Q (sI (M 86 0))) ∧ ((sI a0) ≠ 3 → ((sI a0) = 4 → Q (sI (M 96 0))) ∧ ((sI a0) ≠ 4 → ((sI a0) = 5 → Q (sI (M 0 10))) ∧ ((sI a0) ≠ 5 → ((sI a0) = 6 → Q (sI (M 1 1))) ∧ ((sI a0) ≠ 6 → ((sI a0) = 7 → Q (sI (M 30 1))) ∧ ((sI a0) ≠ 7 → Q (-1)))))))))
set_option maxHeartbeats 4000000 in
set_option maxRecDepth 100000 in
theorem cC_count (l : Launch) (D : va_G) (dA : Nat → ClassId) (b : Nat) (M : zM) (a0 : Int)  (Q : Int → Prop) (h : wC_count a0 M Q) : Met l yX11_count (.code yX11_count cX11_count 2 (some .int) :: zt) (z_rm 0) (va_Pc [.ref (b + 0), .int (iI a0)] (wPre D dA vwCl (z_tys dA) wC nC b M)) (va_Qi (wQi (fun z9 u9 => u9 = M ∧ Q z9)) (zB D dA vwCl wC nC b) (zA nC b)) 0 0 (zA nC b) := by
  unfold wC_count at h
  refine Met.ofW (cc := cX11_count) (maxL := 2) (ret := (some .int)) (by decide) rfl ?_
  intro p e s m args below meth c s₁ B hml hv
  obtain ⟨hargs, hS, hK⟩ := hv
  have hx := B.exec
  have hb := B.bytes
  have hr := B.returns
  have hts := atoms_spec (ws := .code yX11_count cX11_count 2 (some .int) :: zt) B.pre
  have hown : s.vm.findClass RX11 = some m.cls := findClass_of_methodNamed B.named
  have hlocks := B.notSynchronized
  have hS0 : va_S (zA nC b) s.heap s.heap [] := va_S.rf
  have hl := lv_entry ([.ref (b + 0), .int (iI a0)]) (n := 2) (Nat.le_of_ble_eq_true rfl)
  have hent : entryFrame m args 2 = F0 m 0 ((lg_sl ([.ref (b + 0), .int (iI a0)]) ++ List.replicate (2 - (lg_sl ([.ref (b + 0), .int (iI a0)])).length) Slot.unset).toArray) [] := by rw [hargs]; exact lg_entry_eq m ([.ref (b + 0), .int (iI a0)]) 2
  rw [hent]
  generalize (lg_sl ([.ref (b + 0), .int (iI a0)]) ++ List.replicate (2 - (lg_sl ([.ref (b + 0), .int (iI a0)])).length) Slot.unset).toArray = ls at hl ⊢
  have hl : lv_has ls 2 [(0, .ref (b + 0)), (1, .int (iI a0))] := hl
  refine lv_iload_n hx hb dX11_count_0 rfl (lv_at hl 1 rfl) ?_
  rcases Decidable.em ((sI a0) = 0) with c1 | c1
  · skip
    have h := h.1 c1
    refine w_tabIn (tgt := 48) hx hb rfl c1 dX11_count_1 (by decide) (by decide) rfl (by decide) ?_
    refine lv_aload_n hx hb dX11_count_48 rfl (lv_at hl 0 rfl) ?_
    refine w_getr (j2 := 32) hx hb hts (z_memU u11) hown hK.1 hS f11_2 (by decide) (zkd_of (rfl : zcd wC 0 = 0) rfl) (zrf_of (rfl : zcd wC 0 = 0) rfl) (Or.inl (hts _ (z_mem k244))) dX11_count_49 ?_
    refine w_geti hx hb hts (z_memU u9) hown hK.1 hS f9_2 (by decide) (zkd_of (rfl : zcd wC 32 = 8) rfl) (Or.inl (hts _ (z_mem k120))) dX11_count_52 ?_
    exact w_iret hx hb hr hlocks hS hS0 rfl ⟨rfl, h⟩ dX11_count_55
  have h := h.2 c1
  rcases Decidable.em ((sI a0) = 1) with c2 | c2
  · skip
    have h := h.1 c2
    refine w_tabIn (tgt := 56) hx hb rfl c2 dX11_count_1 (by decide) (by decide) rfl (by decide) ?_
    refine lv_aload_n hx hb dX11_count_56 rfl (lv_at hl 0 rfl) ?_
    refine w_getr (j2 := 60) hx hb hts (z_memU u11) hown hK.1 hS f11_4 (by decide) (zkd_of (rfl : zcd wC 0 = 0) rfl) (zrf_of (rfl : zcd wC 0 = 0) rfl) (Or.inl (hts _ (z_mem k246))) dX11_count_57 ?_
    refine w_geti hx hb hts (z_memU u5) hown hK.1 hS f5_2 (by decide) (zkd_of (rfl : zcd wC 60 = 19) rfl) (Or.inl (hts _ (z_mem k146))) dX11_count_60 ?_
    exact w_iret hx hb hr hlocks hS hS0 rfl ⟨rfl, h⟩ dX11_count_63
  have h := h.2 c2
  rcases Decidable.em ((sI a0) = 2) with c3 | c3
  · skip
    have h := h.1 c3
    refine w_tabIn (tgt := 64) hx hb rfl c3 dX11_count_1 (by decide) (by decide) rfl (by decide) ?_
    refine lv_aload_n hx hb dX11_count_64 rfl (lv_at hl 0 rfl) ?_
    refine w_getr (j2 := 82) hx hb hts (z_memU u11) hown hK.1 hS f11_6 (by decide) (zkd_of (rfl : zcd wC 0 = 0) rfl) (zrf_of (rfl : zcd wC 0 = 0) rfl) (Or.inl (hts _ (z_mem k248))) dX11_count_65 ?_
    refine w_geti hx hb hts (z_memU u3) hown hK.1 hS f3_1 (by decide) (zkd_of (rfl : zcd wC 82 = 34) rfl) (Or.inl (hts _ (z_mem k197))) dX11_count_68 ?_
    exact w_iret hx hb hr hlocks hS hS0 rfl ⟨rfl, h⟩ dX11_count_71
  have h := h.2 c3
  rcases Decidable.em ((sI a0) = 3) with c4 | c4
  · skip
    have h := h.1 c4
    refine w_tabIn (tgt := 72) hx hb rfl c4 dX11_count_1 (by decide) (by decide) rfl (by decide) ?_
    refine lv_aload_n hx hb dX11_count_72 rfl (lv_at hl 0 rfl) ?_
    refine w_getr (j2 := 86) hx hb hts (z_memU u11) hown hK.1 hS f11_7 (by decide) (zkd_of (rfl : zcd wC 0 = 0) rfl) (zrf_of (rfl : zcd wC 0 = 0) rfl) (Or.inl (hts _ (z_mem k249))) dX11_count_73 ?_
    refine w_geti hx hb hts (z_memU u4) hown hK.1 hS f4_0 (by decide) (zkd_of (rfl : zcd wC 86 = 38) rfl) (Or.inl (hts _ (z_mem k211))) dX11_count_76 ?_
    exact w_iret hx hb hr hlocks hS hS0 rfl ⟨rfl, h⟩ dX11_count_79
  have h := h.2 c4
  rcases Decidable.em ((sI a0) = 4) with c5 | c5
  · skip
    have h := h.1 c5
    refine w_tabIn (tgt := 80) hx hb rfl c5 dX11_count_1 (by decide) (by decide) rfl (by decide) ?_
    refine lv_aload_n hx hb dX11_count_80 rfl (lv_at hl 0 rfl) ?_
    refine w_getr (j2 := 96) hx hb hts (z_memU u11) hown hK.1 hS f11_8 (by decide) (zkd_of (rfl : zcd wC 0 = 0) rfl) (zrf_of (rfl : zcd wC 0 = 0) rfl) (Or.inl (hts _ (z_mem k250))) dX11_count_81 ?_
    refine w_geti hx hb hts (z_memU u10) hown hK.1 hS f10_0 (by decide) (zkd_of (rfl : zcd wC 96 = 44) rfl) (Or.inl (hts _ (z_mem k232))) dX11_count_84 ?_
    exact w_iret hx hb hr hlocks hS hS0 rfl ⟨rfl, h⟩ dX11_count_87
  have h := h.2 c5
  rcases Decidable.em ((sI a0) = 5) with c6 | c6
  · skip
    have h := h.1 c6
    refine w_tabIn (tgt := 88) hx hb rfl c6 dX11_count_1 (by decide) (by decide) rfl (by decide) ?_
    refine lv_aload_n hx hb dX11_count_88 rfl (lv_at hl 0 rfl) ?_
    refine w_geti hx hb hts (z_memU u11) hown hK.1 hS f11_10 (by decide) (zkd_of (rfl : zcd wC 0 = 0) rfl) (Or.inl (hts _ (z_mem k252))) dX11_count_89 ?_
    exact w_iret hx hb hr hlocks hS hS0 rfl ⟨rfl, h⟩ dX11_count_92
  have h := h.2 c6
  rcases Decidable.em ((sI a0) = 6) with c7 | c7
  · skip
    have h := h.1 c7
    refine w_tabIn (tgt := 93) hx hb rfl c7 dX11_count_1 (by decide) (by decide) rfl (by decide) ?_
    refine lv_aload_n hx hb dX11_count_93 rfl (lv_at hl 0 rfl) ?_
    refine w_getr (j2 := 1) hx hb hts (z_memU u11) hown hK.1 hS f11_0 (by decide) (zkd_of (rfl : zcd wC 0 = 0) rfl) (zrf_of (rfl : zcd wC 0 = 0) rfl) (Or.inl (hts _ (z_mem k242))) dX11_count_94 ?_
    refine w_geti hx hb hts (z_memU u7) hown hK.1 hS f7_1 (by decide) (zkd_of (rfl : zcd wC 1 = 1) rfl) (Or.inl (hts _ (z_mem k56))) dX11_count_97 ?_
    exact w_iret hx hb hr hlocks hS hS0 rfl ⟨rfl, h⟩ dX11_count_100
  have h := h.2 c7
  rcases Decidable.em ((sI a0) = 7) with c8 | c8
  · skip
    have h := h.1 c8
    refine w_tabIn (tgt := 101) hx hb rfl c8 dX11_count_1 (by decide) (by decide) rfl (by decide) ?_
    refine lv_aload_n hx hb dX11_count_101 rfl (lv_at hl 0 rfl) ?_
    refine w_getr (j2 := 30) hx hb hts (z_memU u11) hown hK.1 hS f11_1 (by decide) (zkd_of (rfl : zcd wC 0 = 0) rfl) (zrf_of (rfl : zcd wC 0 = 0) rfl) (Or.inl (hts _ (z_mem k243))) dX11_count_102 ?_
    refine w_geti hx hb hts (z_memU u8) hown hK.1 hS f8_1 (by decide) (zkd_of (rfl : zcd wC 30 = 6) rfl) (Or.inl (hts _ (z_mem k50))) dX11_count_105 ?_
    exact w_iret hx hb hr hlocks hS hS0 rfl ⟨rfl, h⟩ dX11_count_108
  have h := h.2 c8
  refine w_tabOut (tgt := 109) hx hb rfl dX11_count_1 (tb_0_7 _ c1 c2 c3 c4 c5 c6 c7 c8) (by decide) ?_
  refine z_iconst hx hb dX11_count_109 ?_
  exact w_iret hx hb hr hlocks hS hS0 (sI_of (by decide)) ⟨rfl, h⟩ dX11_count_110

set_option maxRecDepth 100000 in
def wC_Motor_lastSpeed (j : Nat) (M : zM) (Q : Int → Prop) : Prop := ((sI (M j 2)) ≠ 0 → ((0 ≤ (sI ((M j 2) - 1)) ∧ (sI ((M j 2) - 1)) < 12) ∧ Q (sI (M (j + 2) (sI ((M j 2) - 1)).toNat)))) ∧ ((sI (M j 2)) = 0 → Q 1)
set_option maxHeartbeats 4000000 in
set_option maxRecDepth 100000 in
theorem cC_Motor_lastSpeed (l : Launch) (D : va_G) (dA : Nat → ClassId) (b : Nat) (M : zM) (j : Nat) (lt_j : j < nC) (cd_j : zcd wC j = 11) (Q : Int → Prop) (h : wC_Motor_lastSpeed j M Q) : Met l yX2_lastSpeed (.code yX2_lastSpeed cX2_lastSpeed 1 (some .int) :: zt) (z_rm 0) (va_Pc [.ref (b + j)] (wPre D dA vwCl (z_tys dA) wC nC b M)) (va_Qi (wQi (fun z9 u9 => u9 = M ∧ Q z9)) (zB D dA vwCl wC nC b) (zA nC b)) 0 0 (zA nC b) := by
  unfold wC_Motor_lastSpeed at h
  refine Met.ofW (cc := cX2_lastSpeed) (maxL := 1) (ret := (some .int)) (by decide) rfl ?_
  intro p e s m args below meth c s₁ B hml hv
  obtain ⟨hargs, hS, hK⟩ := hv
  have hx := B.exec
  have hb := B.bytes
  have hr := B.returns
  have hts := atoms_spec (ws := .code yX2_lastSpeed cX2_lastSpeed 1 (some .int) :: zt) B.pre
  have hown : s.vm.findClass RX2 = some m.cls := findClass_of_methodNamed B.named
  have hlocks := B.notSynchronized
  have hS0 : va_S (zA nC b) s.heap s.heap [] := va_S.rf
  have hl := lv_entry ([.ref (b + j)]) (n := 1) (Nat.le_of_ble_eq_true rfl)
  have hent : entryFrame m args 1 = F0 m 0 ((lg_sl ([.ref (b + j)]) ++ List.replicate (1 - (lg_sl ([.ref (b + j)])).length) Slot.unset).toArray) [] := by rw [hargs]; exact lg_entry_eq m ([.ref (b + j)]) 1
  rw [hent]
  generalize (lg_sl ([.ref (b + j)]) ++ List.replicate (1 - (lg_sl ([.ref (b + j)])).length) Slot.unset).toArray = ls at hl ⊢
  have hl : lv_has ls 1 [(0, .ref (b + j))] := hl
  obtain ⟨lt1, cd2, lt3, cd4⟩ := nx_motor j lt_j cd_j
  refine lv_aload_n hx hb dX2_lastSpeed_0 rfl (lv_at hl 0 rfl) ?_
  refine w_geti hx hb hts (z_memU u2) hown hK.1 hS f2_2 lt_j (zkd_of cd_j rfl) (Or.inl (hts _ (z_mem k84))) dX2_lastSpeed_1 ?_
  refine w_if_ne (tgt := 11) hx hb rfl dX2_lastSpeed_4 (by decide) (fun c5 => ?_) (fun c5 => ?_)
  · skip
    have h := h.1 c5
    refine lv_aload_n hx hb dX2_lastSpeed_11 rfl (lv_at hl 0 rfl) ?_
    refine w_getr (j2 := (j + 2)) hx hb hts (z_memU u2) hown hK.1 hS f2_1 lt_j (zkd_of cd_j rfl) (zrf_of cd_j rfl) (Or.inl (hts _ (z_mem k83))) dX2_lastSpeed_12 ?_
    refine lv_aload_n hx hb dX2_lastSpeed_15 rfl (lv_at hl 0 rfl) ?_
    refine w_geti hx hb hts (z_memU u2) hown hK.1 hS f2_2 lt_j (zkd_of cd_j rfl) (Or.inl (hts _ (z_mem k84))) dX2_lastSpeed_16 ?_
    refine z_iconst hx hb dX2_lastSpeed_19 ?_
    refine z_isub hx hb dX2_lastSpeed_20 ?_
    obtain ⟨o6, h⟩ := h
    refine w_iald (n := 12) (i := (sI ((M j 2) - 1))) hx hb hK.1 (t0 := 0) rfl hS lt3 (zkd_of cd4 rfl) (zln_of cd4 rfl) rfl o6.1 o6.2 (by decide) dX2_lastSpeed_21 ?_
    exact w_iret hx hb hr hlocks hS hS0 rfl ⟨rfl, h⟩ dX2_lastSpeed_22
  · skip
    have h := h.2 c5
    refine z_iconst hx hb dX2_lastSpeed_7 ?_
    refine lv_goto (tgt := 22) hx hb dX2_lastSpeed_8 (by decide) ?_
    exact w_iret hx hb hr hlocks hS hS0 (sI_of (by decide)) ⟨rfl, h⟩ dX2_lastSpeed_22

set_option maxRecDepth 100000 in
def wC_greatestDivisor (a0 : Int) (a1 : Int) (M : zM) (Q : Int → Prop) : Prop := pL1 (fun K2 x1 => ((sI x1) ≤ 1 → Q 1) ∧ (1 < (sI x1) → (((sI x1) ≠ 0) ∧ ((sI ((sI a0).tmod (sI x1))) ≠ 0 → K2 (x1 + (-1))) ∧ ((sI ((sI a0).tmod (sI x1))) = 0 → (((sI x1) ≠ 0) ∧ ((sL ((sL a1).tmod (sI x1))) ≠ 0 → K2 (x1 + (-1))) ∧ ((sL ((sL a1).tmod (sI x1))) = 0 → Q (sI x1))))))) a0
set_option maxHeartbeats 4000000 in
set_option maxRecDepth 100000 in
theorem cC_greatestDivisor (l : Launch) (D : va_G) (dA : Nat → ClassId) (b : Nat) (M : zM) (a0 : Int) (a1 : Int)  (Q : Int → Prop) (h : wC_greatestDivisor a0 a1 M Q) : Met l yX11_greatestDivisor (.code yX11_greatestDivisor cX11_greatestDivisor 4 (some .int) :: zt) (z_rm 0) (va_Pc [.int (iI a0), .long (iL a1)] (wPre D dA vwCl (z_tys dA) wC nC b M)) (va_Qi (wQi (fun z9 u9 => u9 = M ∧ Q z9)) (zB D dA vwCl wC nC b) (zA nC b)) 0 0 (zA nC b) := by
  unfold wC_greatestDivisor at h
  refine Met.ofW (cc := cX11_greatestDivisor) (maxL := 4) (ret := (some .int)) (by decide) rfl ?_
  intro p e s m args below meth c s₁ B hml hv
  obtain ⟨hargs, hS, hK⟩ := hv
  have hx := B.exec
  have hb := B.bytes
  have hr := B.returns
  have hts := atoms_spec (ws := .code yX11_greatestDivisor cX11_greatestDivisor 4 (some .int) :: zt) B.pre
  have hown : s.vm.findClass RX11 = some m.cls := findClass_of_methodNamed B.named
  have hlocks := B.notSynchronized
  have hS0 : va_S (zA nC b) s.heap s.heap [] := va_S.rf
  have hl := lv_entry ([.int (iI a0), .long (iL a1)]) (n := 4) (Nat.le_of_ble_eq_true rfl)
  have hent : entryFrame m args 4 = F0 m 0 ((lg_sl ([.int (iI a0), .long (iL a1)]) ++ List.replicate (4 - (lg_sl ([.int (iI a0), .long (iL a1)])).length) Slot.unset).toArray) [] := by rw [hargs]; exact lg_entry_eq m ([.int (iI a0), .long (iL a1)]) 4
  rw [hent]
  generalize (lg_sl ([.int (iI a0), .long (iL a1)]) ++ List.replicate (4 - (lg_sl ([.int (iI a0), .long (iL a1)])).length) Slot.unset).toArray = ls at hl ⊢
  have hl : lv_has ls 4 [(0, .int (iI a0)), (1, .long (iL a1))] := hl
  refine lv_iload_n hx hb dX11_greatestDivisor_0 rfl (lv_at hl 0 rfl) ?_
  refine lv_istore_n (lv' := [(3, .int (iI a0)), (0, .int (iI a0)), (1, .long (iL a1))]) hx hb dX11_greatestDivisor_1 rfl hl (by decide) rfl (fun ls hl => ?_)
  obtain ⟨I2, ⟨n3, h4⟩, h5⟩ := h
  have L6 : ∀ (n7 : Nat) (x1 : Int) (H : Heap) (locs : List Loc) (ls : Array Slot), I2 n7 x1 → zR D dA vwCl wC nC b M H → va_S (zA nC b) s.heap H locs → lv_has ls 4 [(0, .int (iI a0)), (1, .long (iL a1)), (3, .int (iI x1))] → W p l e (headSpec (.code yX11_greatestDivisor cX11_greatestDivisor 4 (some .int) :: zt) (z_rm 0)).room s m args below meth c H locs 0 0 (MQ below (va_Qi (wQi (fun z9 u9 => u9 = M ∧ Q z9)) (zB D dA vwCl wC nC b) (zA nC b)) args s 0 0 (zA nC b)) (F0 m 2 ls []) := by
    intro n7
    induction n7 using Nat.strongRecOn with
    | ind n7 i8 =>
      intro x1 H locs ls h hS hS0 hl
      have h := h5 n7 x1 h
      refine lv_iload_n hx hb dX11_greatestDivisor_2 rfl (lv_at hl 2 rfl) ?_
      refine z_iconst hx hb dX11_greatestDivisor_3 ?_
      refine w_icmp_le (tgt := 30) hx hb rfl (sI_of (by decide)) dX11_greatestDivisor_4 (by decide) (fun c9 => ?_) (fun c9 => ?_)
      · skip
        have h := h.1 c9
        refine z_iconst hx hb dX11_greatestDivisor_30 ?_
        exact w_iret hx hb hr hlocks hS hS0 (sI_of (by decide)) ⟨rfl, h⟩ dX11_greatestDivisor_31
      · skip
        have h := h.2 c9
        refine lv_iload_n hx hb dX11_greatestDivisor_7 rfl (lv_at hl 0 rfl) ?_
        refine lv_iload_n hx hb dX11_greatestDivisor_8 rfl (lv_at hl 2 rfl) ?_
        obtain ⟨o10, h⟩ := h
        refine w_irem hx hb rfl rfl o10 dX11_greatestDivisor_9 ?_
        refine w_if_ne (tgt := 24) hx hb rfl dX11_greatestDivisor_10 (by decide) (fun c11 => ?_) (fun c11 => ?_)
        · skip
          have h := h.1 c11
          refine z_iinc (lv' := [(3, .int (iI (x1 + (-1)))), (0, .int (iI a0)), (1, .long (iL a1))]) hx hb dX11_greatestDivisor_24 hl (k := 2) rfl (by decide) rfl (fun ls hl => ?_)
          refine lv_goto (tgt := 2) hx hb dX11_greatestDivisor_27 (by decide) ?_
          obtain ⟨n12, h13, h⟩ := h
          exact i8 n12 h13 (x1 + (-1)) _ _ _ h hS hS0 (lv_sub hl [1, 2, 0] rfl)
        · skip
          have h := h.2 c11
          refine lv_lload_n hx hb dX11_greatestDivisor_13 rfl (lv_at hl 1 rfl) ?_
          refine lv_iload_n hx hb dX11_greatestDivisor_14 rfl (lv_at hl 2 rfl) ?_
          refine w_i2l hx hb rfl dX11_greatestDivisor_15 ?_
          obtain ⟨o14, h⟩ := h
          refine w_lrem hx hb rfl (sL_ofI rfl) o14 dX11_greatestDivisor_16 ?_
          refine z_lconst0 hx hb dX11_greatestDivisor_17 ?_
          refine w_lcmp_ne hx hb rfl (sL_of (by decide)) dX11_greatestDivisor_18 dX11_greatestDivisor_19 (tgt := 24) (by decide) (fun c15 => ?_) (fun c15 => ?_)
          · skip
            have h := h.1 c15
            refine z_iinc (lv' := [(3, .int (iI (x1 + (-1)))), (0, .int (iI a0)), (1, .long (iL a1))]) hx hb dX11_greatestDivisor_24 hl (k := 2) rfl (by decide) rfl (fun ls hl => ?_)
            refine lv_goto (tgt := 2) hx hb dX11_greatestDivisor_27 (by decide) ?_
            obtain ⟨n16, h17, h⟩ := h
            exact i8 n16 h17 (x1 + (-1)) _ _ _ h hS hS0 (lv_sub hl [1, 2, 0] rfl)
          · skip
            have h := h.2 c15
            refine lv_iload_n hx hb dX11_greatestDivisor_22 rfl (lv_at hl 2 rfl) ?_
            exact w_iret hx hb hr hlocks hS hS0 rfl ⟨rfl, h⟩ dX11_greatestDivisor_23
  exact L6 n3 a0 _ _ _ h4 hS hS0 (lv_sub hl [1, 2, 0] rfl)

set_option maxRecDepth 100000 in
def wC_withoutShared (a0 : Int) (a1 : Int) (M : zM) (Q : Int → Prop) : Prop := wC_greatestDivisor a0 a1 M (fun z2 => (1 ≤ z2 → ((z2 ≠ 0) ∧ Q (sI ((sI a0).tdiv z2)))) ∧ (z2 < 1 → Q (sI a0)))
set_option maxHeartbeats 4000000 in
set_option maxRecDepth 100000 in
theorem cC_withoutShared (l : Launch) (D : va_G) (dA : Nat → ClassId) (b : Nat) (M : zM) (a0 : Int) (a1 : Int)  (Q : Int → Prop) (h : wC_withoutShared a0 a1 M Q) : Met l yX11_withoutShared (.code yX11_withoutShared cX11_withoutShared 4 (some .int) :: zt) (z_rm 1) (va_Pc [.int (iI a0), .long (iL a1)] (wPre D dA vwCl (z_tys dA) wC nC b M)) (va_Qi (wQi (fun z9 u9 => u9 = M ∧ Q z9)) (zB D dA vwCl wC nC b) (zA nC b)) 0 0 (zA nC b) := by
  unfold wC_withoutShared at h
  refine Met.ofW (cc := cX11_withoutShared) (maxL := 4) (ret := (some .int)) (by decide) rfl ?_
  intro p e s m args below meth c s₁ B hml hv
  obtain ⟨hargs, hS, hK⟩ := hv
  have hx := B.exec
  have hb := B.bytes
  have hr := B.returns
  have hts := atoms_spec (ws := .code yX11_withoutShared cX11_withoutShared 4 (some .int) :: zt) B.pre
  have hown : s.vm.findClass RX11 = some m.cls := findClass_of_methodNamed B.named
  have hlocks := B.notSynchronized
  have hS0 : va_S (zA nC b) s.heap s.heap [] := va_S.rf
  have hl := lv_entry ([.int (iI a0), .long (iL a1)]) (n := 4) (Nat.le_of_ble_eq_true rfl)
  have hent : entryFrame m args 4 = F0 m 0 ((lg_sl ([.int (iI a0), .long (iL a1)]) ++ List.replicate (4 - (lg_sl ([.int (iI a0), .long (iL a1)])).length) Slot.unset).toArray) [] := by rw [hargs]; exact lg_entry_eq m ([.int (iI a0), .long (iL a1)]) 4
  rw [hent]
  generalize (lg_sl ([.int (iI a0), .long (iL a1)]) ++ List.replicate (4 - (lg_sl ([.int (iI a0), .long (iL a1)])).length) Slot.unset).toArray = ls at hl ⊢
  have hl : lv_has ls 4 [(0, .int (iI a0)), (1, .long (iL a1))] := hl
  refine lv_iload_n hx hb dX11_withoutShared_0 rfl (lv_at hl 0 rfl) ?_
  refine lv_lload_n hx hb dX11_withoutShared_1 rfl (lv_at hl 1 rfl) ?_
  refine w_calli (va_runS (As := [.int (iI a0), .long (iL a1)]) (rest := []) ⟨hx, hb, hml, hown, hts⟩ (cC_greatestDivisor l D dA b M a0 a1 _ h) (va_cwS 2 hts (z_gS k532 k533 k1 k534) rfl rfl rfl dm_X11_greatestDivisor.2 ⟨Nat.le_of_ble_eq_true rfl, Nat.le_of_ble_eq_true rfl⟩) ⟨wPre_blind, w_pre hS hK⟩ rfl rfl hl.1 rfl (lv_room (Nat.le_of_ble_eq_true rfl)) dX11_withoutShared_2 ⟨Nat.le_refl _, Nat.le_refl _⟩) hS0 (fun z2 M1 H locs r3 h hS hS0 => ?_)
  obtain ⟨e4, h⟩ := h
  rw [e4] at hS
  refine lv_istore_n (lv' := [(3, .int (iI z2)), (0, .int (iI a0)), (1, .long (iL a1))]) hx hb dX11_withoutShared_5 rfl hl (by decide) rfl (fun ls hl => ?_)
  refine lv_iload_n hx hb dX11_withoutShared_6 rfl (lv_at hl 0 rfl) ?_
  refine z_iconst hx hb dX11_withoutShared_7 ?_
  refine w_icmp_ge (tgt := 15) hx hb (sI_of r3) (sI_of (by decide)) dX11_withoutShared_8 (by decide) (fun c5 => ?_) (fun c5 => ?_)
  · skip
    have h := h.1 c5
    refine lv_iload_n hx hb dX11_withoutShared_15 rfl (lv_at hl 1 rfl) ?_
    refine lv_iload_n hx hb dX11_withoutShared_16 rfl (lv_at hl 0 rfl) ?_
    obtain ⟨o6, h⟩ := h
    refine w_idiv hx hb rfl (sI_of r3) o6 dX11_withoutShared_17 ?_
    exact w_iret hx hb hr hlocks hS hS0 rfl ⟨rfl, h⟩ dX11_withoutShared_18
  · skip
    have h := h.2 c5
    refine lv_iload_n hx hb dX11_withoutShared_11 rfl (lv_at hl 1 rfl) ?_
    refine lv_goto (tgt := 18) hx hb dX11_withoutShared_12 (by decide) ?_
    exact w_iret hx hb hr hlocks hS hS0 rfl ⟨rfl, h⟩ dX11_withoutShared_18

set_option maxRecDepth 100000 in
def wC_Motor_round (j : Nat) (a0 : Int) (M : zM) (Q : Int → Prop) : Prop := wC_Motor_lastSpeed j M (fun z6 => wC_withoutShared a0 z6 M (fun z10 => Q z10))
set_option maxHeartbeats 4000000 in
set_option maxRecDepth 100000 in
theorem cC_Motor_round (l : Launch) (D : va_G) (dA : Nat → ClassId) (b : Nat) (M : zM) (j : Nat) (a0 : Int) (lt_j : j < nC) (cd_j : zcd wC j = 11) (Q : Int → Prop) (h : wC_Motor_round j a0 M Q) : Met l yX2_round (.code yX2_round cX2_round 2 (some .int) :: zt) (z_rm 2) (va_Pc [.ref (b + j), .int (iI a0)] (wPre D dA vwCl (z_tys dA) wC nC b M)) (va_Qi (wQi (fun z9 u9 => u9 = M ∧ Q z9)) (zB D dA vwCl wC nC b) (zA nC b)) 0 0 (zA nC b) := by
  unfold wC_Motor_round at h
  refine Met.ofW (cc := cX2_round) (maxL := 2) (ret := (some .int)) (by decide) rfl ?_
  intro p e s m args below meth c s₁ B hml hv
  obtain ⟨hargs, hS, hK⟩ := hv
  have hx := B.exec
  have hb := B.bytes
  have hr := B.returns
  have hts := atoms_spec (ws := .code yX2_round cX2_round 2 (some .int) :: zt) B.pre
  have hown : s.vm.findClass RX2 = some m.cls := findClass_of_methodNamed B.named
  have hlocks := B.notSynchronized
  have hS0 : va_S (zA nC b) s.heap s.heap [] := va_S.rf
  have hl := lv_entry ([.ref (b + j), .int (iI a0)]) (n := 2) (Nat.le_of_ble_eq_true rfl)
  have hent : entryFrame m args 2 = F0 m 0 ((lg_sl ([.ref (b + j), .int (iI a0)]) ++ List.replicate (2 - (lg_sl ([.ref (b + j), .int (iI a0)])).length) Slot.unset).toArray) [] := by rw [hargs]; exact lg_entry_eq m ([.ref (b + j), .int (iI a0)]) 2
  rw [hent]
  generalize (lg_sl ([.ref (b + j), .int (iI a0)]) ++ List.replicate (2 - (lg_sl ([.ref (b + j), .int (iI a0)])).length) Slot.unset).toArray = ls at hl ⊢
  have hl : lv_has ls 2 [(0, .ref (b + j)), (1, .int (iI a0))] := hl
  obtain ⟨lt1, cd2, lt3, cd4⟩ := nx_motor j lt_j cd_j
  refine lv_iload_n hx hb dX2_round_0 rfl (lv_at hl 1 rfl) ?_
  refine lv_aload_n hx hb dX2_round_1 rfl (lv_at hl 0 rfl) ?_
  refine w_calli (va_runV (As := []) (rest := [.int (iI a0)]) ⟨hx, hb, hml, hown, hts⟩ (cC_Motor_lastSpeed l D dA b M j lt_j cd_j _ h) (cwV 0 hts (z_gV k498 k499 k500 k5 k501) rfl rfl rfl dm_X2_lastSpeed ⟨Nat.le_of_ble_eq_true rfl, Nat.le_of_ble_eq_true rfl⟩) ⟨wPre_blind, (w_recv hS hK.1 lt_j (zkd_of cd_j rfl) (by decide) (rfl : vwCl[2]? = some (RX2, TX2, 3))), w_pre hS hK⟩ rfl rfl hl.1 rfl (lv_room (Nat.le_of_ble_eq_true rfl)) dX2_round_2 ⟨Nat.le_refl _, Nat.le_refl _⟩) hS0 (fun z6 M5 H locs r7 h hS hS0 => ?_)
  obtain ⟨e8, h⟩ := h
  rw [e8] at hS
  refine w_i2l hx hb (sI_of r7) dX2_round_5 ?_
  refine w_calli (va_runSN (As := [.int (iI a0), .long (iL z6)]) (rest := []) ⟨hx, hb, hml, hown, hts⟩ (cC_withoutShared l D dA b M a0 z6 _ h) ⟨va_cnB 2 hts (z_gN k531) rfl rfl rfl (hK.2 (RX2, 43, yX11_withoutShared, RX11) (List.mem_of_getElem? (i := 12) rfl)) (hts _ (z_mem k1)) dm_X11_withoutShared.2 ⟨Nat.le_of_ble_eq_true rfl, Nat.le_of_ble_eq_true rfl⟩, (hts _ (z_mem k530)), trivial⟩ ⟨wPre_blind, w_pre hS hK⟩ rfl rfl hl.1 rfl (lv_room (Nat.le_of_ble_eq_true rfl)) dX2_round_6 ⟨Nat.le_refl _, Nat.le_refl _⟩) hS0 (fun z10 M9 H locs r11 h hS hS0 => ?_)
  obtain ⟨e12, h⟩ := h
  rw [e12] at hS
  exact w_iret hx hb hr hlocks hS hS0 (sI_of r11) ⟨rfl, h⟩ dX2_round_9

set_option maxRecDepth 100000 in
def wC_Studio_roundOf (a0 : Nat) (M : zM) (Q : Int → Prop) : Prop := wC_Studio_motorOf (M a0 1) M (fun z8 => ∃ q10, z8 = some q10 ∧ (q10 < nC ∧ zcd wC q10 = 11) ∧ (wC_Motor_round q10 (M (a0 + 1) 1) M (fun z18 => Q z18)))
set_option maxHeartbeats 4000000 in
set_option maxRecDepth 100000 in
theorem cC_Studio_roundOf (l : Launch) (D : va_G) (dA : Nat → ClassId) (b : Nat) (M : zM) (a0 : Nat) (lt_a0 : a0 < nC) (cd_a0 : zcd wC a0 = 14) (Q : Int → Prop) (h : wC_Studio_roundOf a0 M Q) : Met l yX9_roundOf (.code yX9_roundOf cX9_roundOf 2 (some .int) :: zt) (z_rm 3) (va_Pc [.ref (b + 32), .ref (b + a0)] (wPre D dA vwCl (z_tys dA) wC nC b M)) (va_Qi (wQi (fun z9 u9 => u9 = M ∧ Q z9)) (zB D dA vwCl wC nC b) (zA nC b)) 0 0 (zA nC b) := by
  unfold wC_Studio_roundOf at h
  refine Met.ofW (cc := cX9_roundOf) (maxL := 2) (ret := (some .int)) (by decide) rfl ?_
  intro p e s m args below meth c s₁ B hml hv
  obtain ⟨hargs, hS, hK⟩ := hv
  have hx := B.exec
  have hb := B.bytes
  have hr := B.returns
  have hts := atoms_spec (ws := .code yX9_roundOf cX9_roundOf 2 (some .int) :: zt) B.pre
  have hown : s.vm.findClass RX9 = some m.cls := findClass_of_methodNamed B.named
  have hlocks := B.notSynchronized
  have hS0 : va_S (zA nC b) s.heap s.heap [] := va_S.rf
  have hl := lv_entry ([.ref (b + 32), .ref (b + a0)]) (n := 2) (Nat.le_of_ble_eq_true rfl)
  have hent : entryFrame m args 2 = F0 m 0 ((lg_sl ([.ref (b + 32), .ref (b + a0)]) ++ List.replicate (2 - (lg_sl ([.ref (b + 32), .ref (b + a0)])).length) Slot.unset).toArray) [] := by rw [hargs]; exact lg_entry_eq m ([.ref (b + 32), .ref (b + a0)]) 2
  rw [hent]
  generalize (lg_sl ([.ref (b + 32), .ref (b + a0)]) ++ List.replicate (2 - (lg_sl ([.ref (b + 32), .ref (b + a0)])).length) Slot.unset).toArray = ls at hl ⊢
  have hl : lv_has ls 2 [(0, .ref (b + 32)), (1, .ref (b + a0))] := hl
  obtain ⟨lt1, cd2, lt3, cd4, lt5, cd6⟩ := nx_ring a0 lt_a0 cd_a0
  refine lv_aload_n hx hb dX9_roundOf_0 rfl (lv_at hl 0 rfl) ?_
  refine lv_aload_n hx hb dX9_roundOf_1 rfl (lv_at hl 1 rfl) ?_
  refine w_geti hx hb hts (z_memU u6) hown hK.1 hS f6_1 lt_a0 (zkd_of cd_a0 rfl) (Or.inl (hts _ (z_mem k99))) dX9_roundOf_2 ?_
  refine w_callq (va_runV (As := [.int (iI (M a0 1))]) (rest := []) ⟨hx, hb, hml, hown, hts⟩ (cC_Studio_motorOf l D dA b M (M a0 1) _ h) (cwV 1 hts (z_gV k482 k443 k444 k4 k445) rfl rfl rfl dm_X9_motorOf ⟨Nat.le_of_ble_eq_true rfl, Nat.le_of_ble_eq_true rfl⟩) ⟨wPre_blind, (w_recv hS hK.1 (by decide) (zkd_of (rfl : zcd wC 32 = 8) rfl) (by decide) (rfl : vwCl[9]? = some (RX9, TX9, 3))), w_pre hS hK⟩ rfl rfl hl.1 rfl (lv_room (Nat.le_of_ble_eq_true rfl)) dX9_roundOf_5 ⟨Nat.le_refl _, Nat.le_refl _⟩) hS0 (fun z8 M7 H locs h hS hS0 => ?_)
  obtain ⟨e9, h⟩ := h
  rw [e9] at hS
  obtain ⟨q10, rfl, ⟨lt11, cd12⟩, h⟩ := h
  obtain ⟨lt13, cd14, lt15, cd16⟩ := nx_motor q10 lt11 cd12
  refine lv_aload_n hx hb dX9_roundOf_8 rfl (lv_at hl 1 rfl) ?_
  refine w_getr (j2 := (a0 + 1)) hx hb hts (z_memU u6) hown hK.1 hS f6_0 lt_a0 (zkd_of cd_a0 rfl) (zrf_of cd_a0 rfl) (Or.inl (hts _ (z_mem k95))) dX9_roundOf_9 ?_
  refine w_geti hx hb hts (z_memU u8) hown hK.1 hS f8_1 lt1 (zkd_of cd2 rfl) (Or.inl (hts _ (z_mem k49))) dX9_roundOf_12 ?_
  refine w_calli (va_runV (As := [.int (iI (M (a0 + 1) 1))]) (rest := []) ⟨hx, hb, hml, hown, hts⟩ (cC_Motor_round l D dA b M q10 (M (a0 + 1) 1) lt11 cd12 _ h) (cwV 1 hts (z_gV k526 k527 k528 k5 k529) rfl rfl rfl dm_X2_round ⟨Nat.le_of_ble_eq_true rfl, Nat.le_of_ble_eq_true rfl⟩) ⟨wPre_blind, (w_recv hS hK.1 lt11 (zkd_of cd12 rfl) (by decide) (rfl : vwCl[2]? = some (RX2, TX2, 3))), w_pre hS hK⟩ rfl rfl hl.1 rfl (lv_room (Nat.le_of_ble_eq_true rfl)) dX9_roundOf_15 ⟨Nat.le_refl _, Nat.le_refl _⟩) hS0 (fun z18 M17 H locs r19 h hS hS0 => ?_)
  obtain ⟨e20, h⟩ := h
  rw [e20] at hS
  exact w_iret hx hb hr hlocks hS hS0 (sI_of r19) ⟨rfl, h⟩ dX9_roundOf_18

set_option maxRecDepth 100000 in
def wC_of (a0 : Int) (a1 : Int) (M : zM) (Q : Int → Prop) (X : Prop) : Prop := wC_Studio_find a0 M (fun z2 => (z2 = none → X) ∧ (∀ q4, z2 = some q4 → (q4 < nC ∧ zcd wC q4 = 14) ∧ (((sI a1) = 0 → Q (sI (M (q4 + 1) 1))) ∧ ((sI a1) ≠ 0 → ((sI a1) = 1 → Q (sI (M q4 1))) ∧ ((sI a1) ≠ 1 → ((sI a1) = 2 → Q (sI (M q4 2))) ∧ ((sI a1) ≠ 2 → ((sI a1) = 3 → Q (sI (M q4 3))) ∧ ((sI a1) ≠ 3 → ((sI a1) = 4 → wC_Studio_roundOf q4 M (fun z19 => Q z19)) ∧ ((sI a1) ≠ 4 → ((sI a1) = 5 → Q (sI (M q4 4))) ∧ ((sI a1) ≠ 5 → X)))))))))
set_option maxHeartbeats 4000000 in
set_option maxRecDepth 100000 in
theorem cC_of (l : Launch) (hst : l.stackTraces = false) (D : va_G) (dA : Nat → ClassId) (b : Nat) (M : zM) (a0 : Int) (a1 : Int)  (Q : Int → Prop) (X : Prop) (h : wC_of a0 a1 M Q X) : vx_Met l yX11_of (.code yX11_of cX11_of 4 (some .int) :: zt) (z_rmT 4) (va_Pc [.ref (b + 0), .int (iI a0), .int (iI a1)] (wPreT D dA vwCl (z_tys dA) wC nC b M)) (va_Qi (wQi (fun z9 u9 => u9 = M ∧ Q z9)) (zB D dA vwCl wC nC b) (zA nC b)) (zXC D dA vwCl wC nC b M X) 1 6 (zA nC b) := by
  unfold wC_of at h
  refine vx_ofW (cc := cX11_of) (maxL := 4) (ret := (some .int)) (by decide) rfl ?_
  intro p e s m args below meth c s₁ B hml hex hv
  obtain ⟨hargs, ⟨hS, hK⟩, hZ⟩ := hv
  have hx := B.exec
  have hb := B.bytes
  have hr := B.returns
  have hts := atoms_spec (ws := .code yX11_of cX11_of 4 (some .int) :: zt) B.pre
  have hown : s.vm.findClass RX11 = some m.cls := findClass_of_methodNamed B.named
  have hlocks := B.notSynchronized
  have hS0 : va_S (zA nC b) s.heap s.heap [] := va_S.rf
  have hl := lv_entry ([.ref (b + 0), .int (iI a0), .int (iI a1)]) (n := 4) (Nat.le_of_ble_eq_true rfl)
  have hent : entryFrame m args 4 = F0 m 0 ((lg_sl ([.ref (b + 0), .int (iI a0), .int (iI a1)]) ++ List.replicate (4 - (lg_sl ([.ref (b + 0), .int (iI a0), .int (iI a1)])).length) Slot.unset).toArray) [] := by rw [hargs]; exact lg_entry_eq m ([.ref (b + 0), .int (iI a0), .int (iI a1)]) 4
  rw [hent]
  generalize (lg_sl ([.ref (b + 0), .int (iI a0), .int (iI a1)]) ++ List.replicate (4 - (lg_sl ([.ref (b + 0), .int (iI a0), .int (iI a1)])).length) Slot.unset).toArray = ls at hl ⊢
  have hl : lv_has ls 4 [(0, .ref (b + 0)), (1, .int (iI a0)), (2, .int (iI a1))] := hl
  refine lv_aload_n hx hb dX11_of_0 rfl (lv_at hl 0 rfl) ?_
  refine w_getr (j2 := 32) hx hb hts (z_memU u11) hown hK.1 hS f11_2 (by decide) (zkd_of (rfl : zcd wC 0 = 0) rfl) (zrf_of (rfl : zcd wC 0 = 0) rfl) (Or.inl (hts _ (z_mem k244))) dX11_of_1 ?_
  refine lv_iload_n hx hb dX11_of_4 rfl (lv_at hl 1 rfl) ?_
  refine w_callq (va_runV (As := [.int (iI a0)]) (rest := []) ⟨hx, hb, hml, hown, hts⟩ (cC_Studio_find l D dA b M a0 _ h) (cwV 1 hts (z_gV k411 k412 k413 k4 k414) rfl rfl rfl dm_X9_find ⟨Nat.le_of_ble_eq_true rfl, Nat.le_of_ble_eq_true rfl⟩) ⟨wPre_blind, (w_recv hS hK.1 (by decide) (zkd_of (rfl : zcd wC 32 = 8) rfl) (by decide) (rfl : vwCl[9]? = some (RX9, TX9, 3))), w_pre hS hK⟩ rfl rfl hl.1 rfl (lv_room (Nat.le_of_ble_eq_true rfl)) dX11_of_5 ⟨Nat.le_of_ble_eq_true rfl, Nat.le_of_ble_eq_true rfl⟩) hS0 (fun z2 M1 H locs h hS hS0 => ?_)
  obtain ⟨e3, h⟩ := h
  rw [e3] at hS
  rcases z2 with _ | q4
  · skip
    have h := h.1 rfl
    refine lv_astore_nN (lv' := [(3, .null), (0, .ref (b + 0)), (1, .int (iI a0)), (2, .int (iI a1))]) hx hb dX11_of_8 rfl hl (by decide) rfl (fun ls hl => ?_)
    refine lv_aload_nN hx hb dX11_of_9 rfl (lv_at hl 0 rfl) ?_
    refine lv_ifnonnullN hx hb dX11_of_10 ?_
    exact vx_throw0 (own := "TapeRings") (cls := "java/util/NoSuchElementException") (names := ["java/lang/RuntimeException", "java/lang/Exception"]) (ik := 156) (ic := 158) hx hb hst hown (by decide +kernel) (by decide +kernel) (hts _ (z_mem k883)) (hts _ (z_mem k21)) (tw_hat (fun w hw => hts w (z_mem hw)) hZ.1) tw_good hZ.2.1 hZ.2.2 hS0 (hl.1.trans hml.symm) dX11_of_13 dX11_of_16 dX11_of_17 dX11_of_20 (fun x hx9 => (hex x hx9).elim) (Nat.le_of_ble_eq_true rfl) (Nat.le_of_ble_eq_true rfl) (Nat.le_of_ble_eq_true rfl) (Nat.le_of_ble_eq_true rfl) hlocks (fun t _ h1 h2 => wX_of hS hS0 h1 h2 h) hS0.2.2 (Nat.le_of_ble_eq_true rfl) (Nat.le_of_ble_eq_true rfl)
  · skip
    obtain ⟨⟨lt5, cd6⟩, h⟩ := h.2 q4 rfl
    obtain ⟨lt7, cd8, lt9, cd10, lt11, cd12⟩ := nx_ring q4 lt5 cd6
    refine lv_astore_n (lv' := [(3, .ref (b + q4)), (0, .ref (b + 0)), (1, .int (iI a0)), (2, .int (iI a1))]) hx hb dX11_of_8 rfl hl (by decide) rfl (fun ls hl => ?_)
    refine lv_aload_n hx hb dX11_of_9 rfl (lv_at hl 0 rfl) ?_
    refine lv_ifnonnull (tgt := 21) hx hb dX11_of_10 (by decide) ?_
    refine lv_iload_n hx hb dX11_of_21 rfl (lv_at hl 3 rfl) ?_
    rcases Decidable.em ((sI a1) = 0) with c13 | c13
    · skip
      have h := h.1 c13
      refine w_tabIn (tgt := 60) hx hb rfl c13 dX11_of_22 (by decide) (by decide) rfl (by decide) ?_
      refine lv_aload_n hx hb dX11_of_60 rfl (lv_at hl 0 rfl) ?_
      refine w_getr (j2 := (q4 + 1)) hx hb hts (z_memU u6) hown hK.1 hS f6_0 lt5 (zkd_of cd6 rfl) (zrf_of cd6 rfl) (Or.inl (hts _ (z_mem k96))) dX11_of_61 ?_
      refine w_geti hx hb hts (z_memU u8) hown hK.1 hS f8_1 lt7 (zkd_of cd8 rfl) (Or.inl (hts _ (z_mem k50))) dX11_of_64 ?_
      refine vx_ret (W.widen (k := 1) (n := 6) (Nat.zero_le _) (Nat.zero_le _) ?_)
      exact w_iret hx hb hr hlocks hS hS0 rfl ⟨rfl, h⟩ dX11_of_67
    have h := h.2 c13
    rcases Decidable.em ((sI a1) = 1) with c14 | c14
    · skip
      have h := h.1 c14
      refine w_tabIn (tgt := 68) hx hb rfl c14 dX11_of_22 (by decide) (by decide) rfl (by decide) ?_
      refine lv_aload_n hx hb dX11_of_68 rfl (lv_at hl 0 rfl) ?_
      refine w_geti hx hb hts (z_memU u6) hown hK.1 hS f6_1 lt5 (zkd_of cd6 rfl) (Or.inl (hts _ (z_mem k100))) dX11_of_69 ?_
      refine vx_ret (W.widen (k := 1) (n := 6) (Nat.zero_le _) (Nat.zero_le _) ?_)
      exact w_iret hx hb hr hlocks hS hS0 rfl ⟨rfl, h⟩ dX11_of_72
    have h := h.2 c14
    rcases Decidable.em ((sI a1) = 2) with c15 | c15
    · skip
      have h := h.1 c15
      refine w_tabIn (tgt := 73) hx hb rfl c15 dX11_of_22 (by decide) (by decide) rfl (by decide) ?_
      refine lv_aload_n hx hb dX11_of_73 rfl (lv_at hl 0 rfl) ?_
      refine w_geti hx hb hts (z_memU u6) hown hK.1 hS f6_2 lt5 (zkd_of cd6 rfl) (Or.inl (hts _ (z_mem k103))) dX11_of_74 ?_
      refine vx_ret (W.widen (k := 1) (n := 6) (Nat.zero_le _) (Nat.zero_le _) ?_)
      exact w_iret hx hb hr hlocks hS hS0 rfl ⟨rfl, h⟩ dX11_of_77
    have h := h.2 c15
    rcases Decidable.em ((sI a1) = 3) with c16 | c16
    · skip
      have h := h.1 c16
      refine w_tabIn (tgt := 78) hx hb rfl c16 dX11_of_22 (by decide) (by decide) rfl (by decide) ?_
      refine lv_aload_n hx hb dX11_of_78 rfl (lv_at hl 0 rfl) ?_
      refine w_geti hx hb hts (z_memU u6) hown hK.1 hS f6_3 lt5 (zkd_of cd6 rfl) (Or.inl (hts _ (z_mem k105))) dX11_of_79 ?_
      refine vx_ret (W.widen (k := 1) (n := 6) (Nat.zero_le _) (Nat.zero_le _) ?_)
      exact w_iret hx hb hr hlocks hS hS0 rfl ⟨rfl, h⟩ dX11_of_82
    have h := h.2 c16
    rcases Decidable.em ((sI a1) = 4) with c17 | c17
    · skip
      have h := h.1 c17
      refine w_tabIn (tgt := 83) hx hb rfl c17 dX11_of_22 (by decide) (by decide) rfl (by decide) ?_
      refine lv_aload_n hx hb dX11_of_83 rfl (lv_at hl 1 rfl) ?_
      refine w_getr (j2 := 32) hx hb hts (z_memU u11) hown hK.1 hS f11_2 (by decide) (zkd_of (rfl : zcd wC 0 = 0) rfl) (zrf_of (rfl : zcd wC 0 = 0) rfl) (Or.inl (hts _ (z_mem k244))) dX11_of_84 ?_
      refine lv_aload_n hx hb dX11_of_87 rfl (lv_at hl 0 rfl) ?_
      refine w_calli (va_runV (As := [.ref (b + q4)]) (rest := []) ⟨hx, hb, hml, hown, hts⟩ (cC_Studio_roundOf l D dA b M q4 lt5 cd6 _ h) (cwV 1 hts (z_gV k923 k523 k524 k4 k525) rfl rfl rfl dm_X9_roundOf ⟨Nat.le_of_ble_eq_true rfl, Nat.le_of_ble_eq_true rfl⟩) ⟨wPre_blind, (w_recv hS hK.1 (by decide) (zkd_of (rfl : zcd wC 32 = 8) rfl) (by decide) (rfl : vwCl[9]? = some (RX9, TX9, 3))), w_pre hS hK⟩ rfl rfl hl.1 rfl (lv_room (Nat.le_of_ble_eq_true rfl)) dX11_of_88 ⟨Nat.le_of_ble_eq_true rfl, Nat.le_of_ble_eq_true rfl⟩) hS0 (fun z19 M18 H locs r20 h hS hS0 => ?_)
      obtain ⟨e21, h⟩ := h
      rw [e21] at hS
      refine vx_ret (W.widen (k := 1) (n := 6) (Nat.zero_le _) (Nat.zero_le _) ?_)
      exact w_iret hx hb hr hlocks hS hS0 (sI_of r20) ⟨rfl, h⟩ dX11_of_91
    have h := h.2 c17
    rcases Decidable.em ((sI a1) = 5) with c22 | c22
    · skip
      have h := h.1 c22
      refine w_tabIn (tgt := 92) hx hb rfl c22 dX11_of_22 (by decide) (by decide) rfl (by decide) ?_
      refine lv_aload_n hx hb dX11_of_92 rfl (lv_at hl 0 rfl) ?_
      refine w_geti hx hb hts (z_memU u6) hown hK.1 hS f6_4 lt5 (zkd_of cd6 rfl) (Or.inl (hts _ (z_mem k108))) dX11_of_93 ?_
      refine vx_ret (W.widen (k := 1) (n := 6) (Nat.zero_le _) (Nat.zero_le _) ?_)
      exact w_iret hx hb hr hlocks hS hS0 rfl ⟨rfl, h⟩ dX11_of_96
    have h := h.2 c22
    refine w_tabOut (tgt := 97) hx hb rfl dX11_of_22 (tb_0_5 _ c13 c14 c15 c16 c17 c22) (by decide) ?_
    exact vx_throw0 (own := "TapeRings") (cls := "java/util/NoSuchElementException") (names := ["java/lang/RuntimeException", "java/lang/Exception"]) (ik := 156) (ic := 158) hx hb hst hown (by decide +kernel) (by decide +kernel) (hts _ (z_mem k883)) (hts _ (z_mem k21)) (tw_hat (fun w hw => hts w (z_mem hw)) hZ.1) tw_good hZ.2.1 hZ.2.2 hS0 (hl.1.trans hml.symm) dX11_of_97 dX11_of_100 dX11_of_101 dX11_of_104 (fun x hx9 => (hex x hx9).elim) (Nat.le_of_ble_eq_true rfl) (Nat.le_of_ble_eq_true rfl) (Nat.le_of_ble_eq_true rfl) (Nat.le_of_ble_eq_true rfl) hlocks (fun t _ h1 h2 => wX_of hS hS0 h1 h2 h) hS0.2.2 (Nat.le_of_ble_eq_true rfl) (Nat.le_of_ble_eq_true rfl)

set_option maxRecDepth 100000 in
def wC_inch (a0 : Int) (a1 : Int) (M : zM) (Q : Int → Prop) : Prop := wC_Studio_find a0 M (fun z2 => (z2 = none → Q (-1)) ∧ (∀ q4, z2 = some q4 → (q4 < nC ∧ zcd wC q4 = 14) ∧ (wC_Strip_at (q4 + 1) a1 M (fun z14 => Q z14))))
set_option maxHeartbeats 4000000 in
set_option maxRecDepth 100000 in
theorem cC_inch (l : Launch) (D : va_G) (dA : Nat → ClassId) (b : Nat) (M : zM) (a0 : Int) (a1 : Int)  (Q : Int → Prop) (h : wC_inch a0 a1 M Q) : Met l yX11_inch (.code yX11_inch cX11_inch 4 (some .int) :: zt) (z_rm 2) (va_Pc [.ref (b + 0), .int (iI a0), .int (iI a1)] (wPre D dA vwCl (z_tys dA) wC nC b M)) (va_Qi (wQi (fun z9 u9 => u9 = M ∧ Q z9)) (zB D dA vwCl wC nC b) (zA nC b)) 0 0 (zA nC b) := by
  unfold wC_inch at h
  refine Met.ofW (cc := cX11_inch) (maxL := 4) (ret := (some .int)) (by decide) rfl ?_
  intro p e s m args below meth c s₁ B hml hv
  obtain ⟨hargs, hS, hK⟩ := hv
  have hx := B.exec
  have hb := B.bytes
  have hr := B.returns
  have hts := atoms_spec (ws := .code yX11_inch cX11_inch 4 (some .int) :: zt) B.pre
  have hown : s.vm.findClass RX11 = some m.cls := findClass_of_methodNamed B.named
  have hlocks := B.notSynchronized
  have hS0 : va_S (zA nC b) s.heap s.heap [] := va_S.rf
  have hl := lv_entry ([.ref (b + 0), .int (iI a0), .int (iI a1)]) (n := 4) (Nat.le_of_ble_eq_true rfl)
  have hent : entryFrame m args 4 = F0 m 0 ((lg_sl ([.ref (b + 0), .int (iI a0), .int (iI a1)]) ++ List.replicate (4 - (lg_sl ([.ref (b + 0), .int (iI a0), .int (iI a1)])).length) Slot.unset).toArray) [] := by rw [hargs]; exact lg_entry_eq m ([.ref (b + 0), .int (iI a0), .int (iI a1)]) 4
  rw [hent]
  generalize (lg_sl ([.ref (b + 0), .int (iI a0), .int (iI a1)]) ++ List.replicate (4 - (lg_sl ([.ref (b + 0), .int (iI a0), .int (iI a1)])).length) Slot.unset).toArray = ls at hl ⊢
  have hl : lv_has ls 4 [(0, .ref (b + 0)), (1, .int (iI a0)), (2, .int (iI a1))] := hl
  refine lv_aload_n hx hb dX11_inch_0 rfl (lv_at hl 0 rfl) ?_
  refine w_getr (j2 := 32) hx hb hts (z_memU u11) hown hK.1 hS f11_2 (by decide) (zkd_of (rfl : zcd wC 0 = 0) rfl) (zrf_of (rfl : zcd wC 0 = 0) rfl) (Or.inl (hts _ (z_mem k244))) dX11_inch_1 ?_
  refine lv_iload_n hx hb dX11_inch_4 rfl (lv_at hl 1 rfl) ?_
  refine w_callq (va_runV (As := [.int (iI a0)]) (rest := []) ⟨hx, hb, hml, hown, hts⟩ (cC_Studio_find l D dA b M a0 _ h) (cwV 1 hts (z_gV k411 k412 k413 k4 k414) rfl rfl rfl dm_X9_find ⟨Nat.le_of_ble_eq_true rfl, Nat.le_of_ble_eq_true rfl⟩) ⟨wPre_blind, (w_recv hS hK.1 (by decide) (zkd_of (rfl : zcd wC 32 = 8) rfl) (by decide) (rfl : vwCl[9]? = some (RX9, TX9, 3))), w_pre hS hK⟩ rfl rfl hl.1 rfl (lv_room (Nat.le_of_ble_eq_true rfl)) dX11_inch_5 ⟨Nat.le_refl _, Nat.le_refl _⟩) hS0 (fun z2 M1 H locs h hS hS0 => ?_)
  obtain ⟨e3, h⟩ := h
  rw [e3] at hS
  rcases z2 with _ | q4
  · skip
    have h := h.1 rfl
    refine lv_astore_nN (lv' := [(3, .null), (0, .ref (b + 0)), (1, .int (iI a0)), (2, .int (iI a1))]) hx hb dX11_inch_8 rfl hl (by decide) rfl (fun ls hl => ?_)
    refine lv_aload_nN hx hb dX11_inch_9 rfl (lv_at hl 0 rfl) ?_
    refine lv_ifnonnullN hx hb dX11_inch_10 ?_
    refine z_iconst hx hb dX11_inch_13 ?_
    refine lv_goto (tgt := 25) hx hb dX11_inch_14 (by decide) ?_
    exact w_iret hx hb hr hlocks hS hS0 (sI_of (by decide)) ⟨rfl, h⟩ dX11_inch_25
  · skip
    obtain ⟨⟨lt5, cd6⟩, h⟩ := h.2 q4 rfl
    obtain ⟨lt7, cd8, lt9, cd10, lt11, cd12⟩ := nx_ring q4 lt5 cd6
    refine lv_astore_n (lv' := [(3, .ref (b + q4)), (0, .ref (b + 0)), (1, .int (iI a0)), (2, .int (iI a1))]) hx hb dX11_inch_8 rfl hl (by decide) rfl (fun ls hl => ?_)
    refine lv_aload_n hx hb dX11_inch_9 rfl (lv_at hl 0 rfl) ?_
    refine lv_ifnonnull (tgt := 17) hx hb dX11_inch_10 (by decide) ?_
    refine lv_aload_n hx hb dX11_inch_17 rfl (lv_at hl 0 rfl) ?_
    refine w_getr (j2 := (q4 + 1)) hx hb hts (z_memU u6) hown hK.1 hS f6_0 lt5 (zkd_of cd6 rfl) (zrf_of cd6 rfl) (Or.inl (hts _ (z_mem k96))) dX11_inch_18 ?_
    refine lv_iload_n hx hb dX11_inch_21 rfl (lv_at hl 3 rfl) ?_
    refine w_calli (va_runV (As := [.int (iI a1)]) (rest := []) ⟨hx, hb, hml, hown, hts⟩ (cC_Strip_at l D dA b M (q4 + 1) a1 lt7 cd8 _ h) (cwV 1 hts (z_gV k371 k372 k373 k3 k374) rfl rfl rfl dm_X8_at ⟨Nat.le_of_ble_eq_true rfl, Nat.le_of_ble_eq_true rfl⟩) ⟨wPre_blind, (w_recv hS hK.1 lt7 (zkd_of cd8 rfl) (by decide) (rfl : vwCl[8]? = some (RX8, TX8, 2))), w_pre hS hK⟩ rfl rfl hl.1 rfl (lv_room (Nat.le_of_ble_eq_true rfl)) dX11_inch_22 ⟨Nat.le_refl _, Nat.le_refl _⟩) hS0 (fun z14 M13 H locs r15 h hS hS0 => ?_)
    obtain ⟨e16, h⟩ := h
    rw [e16] at hS
    exact w_iret hx hb hr hlocks hS hS0 (sI_of r15) ⟨rfl, h⟩ dX11_inch_25

set_option maxRecDepth 100000 in
def wC_Motor_wayTo (j : Nat) (a0 : Int) (M : zM) (Q : Int → Prop) : Prop := pL4 (fun K11 x5 x6 x7 x8 => pJ0 (fun J76 => ((sI (M j 2)) ≤ (sI x8) → J76) ∧ ((sI x8) < (sI (M j 2)) → ((0 ≤ (sI x8) ∧ (sI x8) < 12) ∧ ((sL a0) ≤ (sI (M (j + 1) (sI x8).toNat)) → J76) ∧ ((sI (M (j + 1) (sI x8).toNat)) < (sL a0) → ((0 ≤ (sI x8) ∧ (sI x8) < 12) ∧ (∀ t32 : Int, t32 = (x5 + (((sI (M (j + 1) (sI x8).toNat)) - x6) * (sI x7))) → ((0 ≤ (sI x8) ∧ (sI x8) < 12) ∧ ((0 ≤ (sI x8) ∧ (sI x8) < 12) ∧ K11 t32 (sI (M (j + 1) (sI x8).toNat)) (M (j + 2) (sI x8).toNat) (x8 + 1))))))))) (Q (sL (x5 + ((a0 - x6) * (sI x7)))))) 0 0 1 0
set_option maxHeartbeats 4000000 in
set_option maxRecDepth 100000 in
theorem cC_Motor_wayTo (l : Launch) (D : va_G) (dA : Nat → ClassId) (b : Nat) (M : zM) (j : Nat) (a0 : Int) (lt_j : j < nC) (cd_j : zcd wC j = 11) (Q : Int → Prop) (h : wC_Motor_wayTo j a0 M Q) : Met l yX2_wayTo (.code yX2_wayTo cX2_wayTo 9 (some .long) :: zt) (z_rm 0) (va_Pc [.ref (b + j), .long (iL a0)] (wPre D dA vwCl (z_tys dA) wC nC b M)) (va_Ql (wQl (fun z9 u9 => u9 = M ∧ Q z9)) (zB D dA vwCl wC nC b) (zA nC b)) 0 0 (zA nC b) := by
  unfold wC_Motor_wayTo at h
  refine Met.ofW (cc := cX2_wayTo) (maxL := 9) (ret := (some .long)) (by decide) rfl ?_
  intro p e s m args below meth c s₁ B hml hv
  obtain ⟨hargs, hS, hK⟩ := hv
  have hx := B.exec
  have hb := B.bytes
  have hr := B.returns
  have hts := atoms_spec (ws := .code yX2_wayTo cX2_wayTo 9 (some .long) :: zt) B.pre
  have hown : s.vm.findClass RX2 = some m.cls := findClass_of_methodNamed B.named
  have hlocks := B.notSynchronized
  have hS0 : va_S (zA nC b) s.heap s.heap [] := va_S.rf
  have hl := lv_entry ([.ref (b + j), .long (iL a0)]) (n := 9) (Nat.le_of_ble_eq_true rfl)
  have hent : entryFrame m args 9 = F0 m 0 ((lg_sl ([.ref (b + j), .long (iL a0)]) ++ List.replicate (9 - (lg_sl ([.ref (b + j), .long (iL a0)])).length) Slot.unset).toArray) [] := by rw [hargs]; exact lg_entry_eq m ([.ref (b + j), .long (iL a0)]) 9
  rw [hent]
  generalize (lg_sl ([.ref (b + j), .long (iL a0)]) ++ List.replicate (9 - (lg_sl ([.ref (b + j), .long (iL a0)])).length) Slot.unset).toArray = ls at hl ⊢
  have hl : lv_has ls 9 [(0, .ref (b + j)), (1, .long (iL a0))] := hl
  obtain ⟨lt1, cd2, lt3, cd4⟩ := nx_motor j lt_j cd_j
  refine z_lconst0 hx hb dX2_wayTo_0 ?_
  refine lv_lstore_n (lv' := [(3, .long (iL 0)), (0, .ref (b + j)), (1, .long (iL a0))]) hx hb dX2_wayTo_1 rfl hl (by decide) rfl (fun ls hl => ?_)
  refine z_lconst0 hx hb dX2_wayTo_2 ?_
  refine lv_lstore (lv' := [(5, .long (iL 0)), (3, .long (iL 0)), (0, .ref (b + j)), (1, .long (iL a0))]) hx hb dX2_wayTo_3 hl (by decide) rfl (fun ls hl => ?_)
  refine z_iconst hx hb dX2_wayTo_5 ?_
  refine lv_istore (lv' := [(7, .int (iI 1)), (5, .long (iL 0)), (3, .long (iL 0)), (0, .ref (b + j)), (1, .long (iL a0))]) hx hb dX2_wayTo_6 hl (by decide) rfl (fun ls hl => ?_)
  refine z_iconst hx hb dX2_wayTo_8 ?_
  refine lv_istore (lv' := [(8, .int (iI 0)), (7, .int (iI 1)), (5, .long (iL 0)), (3, .long (iL 0)), (0, .ref (b + j)), (1, .long (iL a0))]) hx hb dX2_wayTo_9 hl (by decide) rfl (fun ls hl => ?_)
  obtain ⟨I9, ⟨n10, h11⟩, h12⟩ := h
  have L13 : ∀ (n14 : Nat) (x5 x6 x7 x8 : Int) (H : Heap) (locs : List Loc) (ls : Array Slot), I9 n14 x5 x6 x7 x8 → zR D dA vwCl wC nC b M H → va_S (zA nC b) s.heap H locs → lv_has ls 9 [(0, .ref (b + j)), (1, .long (iL a0)), (3, .long (iL x5)), (5, .long (iL x6)), (7, .int (iI x7)), (8, .int (iI x8))] → W p l e (headSpec (.code yX2_wayTo cX2_wayTo 9 (some .long) :: zt) (z_rm 0)).room s m args below meth c H locs 0 0 (MQ below (va_Ql (wQl (fun z9 u9 => u9 = M ∧ Q z9)) (zB D dA vwCl wC nC b) (zA nC b)) args s 0 0 (zA nC b)) (F0 m 11 ls []) := by
    intro n14
    induction n14 using Nat.strongRecOn with
    | ind n14 i15 =>
      intro x5 x6 x7 x8 H locs ls h hS hS0 hl
      have h := h12 n14 x5 x6 x7 x8 h
      refine lv_iload hx hb dX2_wayTo_11 (lv_at hl 5 rfl) ?_
      refine lv_aload_n hx hb dX2_wayTo_13 rfl (lv_at hl 0 rfl) ?_
      refine w_geti hx hb hts (z_memU u2) hown hK.1 hS f2_2 lt_j (zkd_of cd_j rfl) (Or.inl (hts _ (z_mem k84))) dX2_wayTo_14 ?_
      obtain ⟨J76, B27, h⟩ := h
      have L26 : ∀ (H : Heap) (locs : List Loc) (ls : Array Slot), J76 → zR D dA vwCl wC nC b M H → va_S (zA nC b) s.heap H locs → lv_has ls 9 [(1, .long (iL a0)), (3, .long (iL x5)), (5, .long (iL x6)), (7, .int (iI x7))] → W p l e (headSpec (.code yX2_wayTo cX2_wayTo 9 (some .long) :: zt) (z_rm 0)).room s m args below meth c H locs 0 0 (MQ below (va_Ql (wQl (fun z9 u9 => u9 = M ∧ Q z9)) (zB D dA vwCl wC nC b) (zA nC b)) args s 0 0 (zA nC b)) (F0 m 76 ls []) := by
        intro  H locs ls h hS hS0 hl
        have h := B27 h
        refine lv_lload_n hx hb dX2_wayTo_76 rfl (lv_at hl 1 rfl) ?_
        refine lv_lload_n hx hb dX2_wayTo_77 rfl (lv_at hl 0 rfl) ?_
        refine lv_lload hx hb dX2_wayTo_78 (lv_at hl 2 rfl) ?_
        refine z_lsub hx hb dX2_wayTo_80 ?_
        refine lv_iload hx hb dX2_wayTo_81 (lv_at hl 3 rfl) ?_
        refine w_i2l hx hb rfl dX2_wayTo_83 ?_
        refine z_lmul hx hb dX2_wayTo_84 ?_
        refine z_ladd hx hb dX2_wayTo_85 ?_
        exact w_lret hx hb hr hlocks hS hS0 rfl ⟨rfl, h⟩ dX2_wayTo_86
      refine w_icmp_ge (tgt := 76) hx hb rfl rfl dX2_wayTo_17 (by decide) (fun c28 => ?_) (fun c28 => ?_)
      · skip
        have h := h.1 c28
        exact L26 _ _ _ h hS hS0 (lv_sub hl [1, 2, 3, 4] rfl)
      · skip
        have h := h.2 c28
        refine lv_aload_n hx hb dX2_wayTo_20 rfl (lv_at hl 0 rfl) ?_
        refine w_getr (j2 := (j + 1)) hx hb hts (z_memU u2) hown hK.1 hS f2_0 lt_j (zkd_of cd_j rfl) (zrf_of cd_j rfl) (Or.inl (hts _ (z_mem k82))) dX2_wayTo_21 ?_
        refine lv_iload hx hb dX2_wayTo_24 (lv_at hl 5 rfl) ?_
        obtain ⟨o29, h⟩ := h
        refine w_iald (n := 12) (i := (sI x8)) hx hb hK.1 (t0 := 0) rfl hS lt1 (zkd_of cd2 rfl) (zln_of cd2 rfl) rfl o29.1 o29.2 (by decide) dX2_wayTo_26 ?_
        refine w_i2l hx hb rfl dX2_wayTo_27 ?_
        refine lv_lload_n hx hb dX2_wayTo_28 rfl (lv_at hl 1 rfl) ?_
        refine w_lcmp_ge hx hb (sL_ofI rfl) rfl dX2_wayTo_29 dX2_wayTo_30 (tgt := 76) (by decide) (fun c30 => ?_) (fun c30 => ?_)
        · skip
          have h := h.1 c30
          exact L26 _ _ _ h hS hS0 (lv_sub hl [1, 2, 3, 4] rfl)
        · skip
          have h := h.2 c30
          refine lv_lload_n hx hb dX2_wayTo_33 rfl (lv_at hl 2 rfl) ?_
          refine lv_aload_n hx hb dX2_wayTo_34 rfl (lv_at hl 0 rfl) ?_
          refine w_getr (j2 := (j + 1)) hx hb hts (z_memU u2) hown hK.1 hS f2_0 lt_j (zkd_of cd_j rfl) (zrf_of cd_j rfl) (Or.inl (hts _ (z_mem k82))) dX2_wayTo_35 ?_
          refine lv_iload hx hb dX2_wayTo_38 (lv_at hl 5 rfl) ?_
          obtain ⟨o31, h⟩ := h
          refine w_iald (n := 12) (i := (sI x8)) hx hb hK.1 (t0 := 0) rfl hS lt1 (zkd_of cd2 rfl) (zln_of cd2 rfl) rfl o31.1 o31.2 (by decide) dX2_wayTo_40 ?_
          refine w_i2l hx hb rfl dX2_wayTo_41 ?_
          refine lv_lload hx hb dX2_wayTo_42 (lv_at hl 3 rfl) ?_
          refine z_lsub hx hb dX2_wayTo_44 ?_
          refine lv_iload hx hb dX2_wayTo_45 (lv_at hl 4 rfl) ?_
          refine w_i2l hx hb rfl dX2_wayTo_47 ?_
          refine z_lmul hx hb dX2_wayTo_48 ?_
          refine z_ladd hx hb dX2_wayTo_49 ?_
          obtain ⟨t32, e33⟩ : ∃ t32 : Int, t32 = (x5 + (((sI (M (j + 1) (sI x8).toNat)) - x6) * (sI x7))) := ⟨_, rfl⟩
          refine z_topl (y := t32) e33.symm ?_
          have h := h t32 e33
          refine lv_lstore_n (lv' := [(3, .long (iL t32)), (0, .ref (b + j)), (1, .long (iL a0)), (5, .long (iL x6)), (7, .int (iI x7)), (8, .int (iI x8))]) hx hb dX2_wayTo_50 rfl hl (by decide) rfl (fun ls hl => ?_)
          refine lv_aload_n hx hb dX2_wayTo_51 rfl (lv_at hl 1 rfl) ?_
          refine w_getr (j2 := (j + 1)) hx hb hts (z_memU u2) hown hK.1 hS f2_0 lt_j (zkd_of cd_j rfl) (zrf_of cd_j rfl) (Or.inl (hts _ (z_mem k82))) dX2_wayTo_52 ?_
          refine lv_iload hx hb dX2_wayTo_55 (lv_at hl 5 rfl) ?_
          obtain ⟨o34, h⟩ := h
          refine w_iald (n := 12) (i := (sI x8)) hx hb hK.1 (t0 := 0) rfl hS lt1 (zkd_of cd2 rfl) (zln_of cd2 rfl) rfl o34.1 o34.2 (by decide) dX2_wayTo_57 ?_
          refine w_i2l hx hb rfl dX2_wayTo_58 ?_
          refine lv_lstore (lv' := [(5, .long (iL (sI (M (j + 1) (sI x8).toNat)))), (3, .long (iL t32)), (0, .ref (b + j)), (1, .long (iL a0)), (7, .int (iI x7)), (8, .int (iI x8))]) hx hb dX2_wayTo_59 hl (by decide) rfl (fun ls hl => ?_)
          refine lv_aload_n hx hb dX2_wayTo_61 rfl (lv_at hl 2 rfl) ?_
          refine w_getr (j2 := (j + 2)) hx hb hts (z_memU u2) hown hK.1 hS f2_1 lt_j (zkd_of cd_j rfl) (zrf_of cd_j rfl) (Or.inl (hts _ (z_mem k83))) dX2_wayTo_62 ?_
          refine lv_iload hx hb dX2_wayTo_65 (lv_at hl 5 rfl) ?_
          obtain ⟨o35, h⟩ := h
          refine w_iald (n := 12) (i := (sI x8)) hx hb hK.1 (t0 := 0) rfl hS lt3 (zkd_of cd4 rfl) (zln_of cd4 rfl) rfl o35.1 o35.2 (by decide) dX2_wayTo_67 ?_
          refine lv_istore (lv' := [(7, .int (iI (M (j + 2) (sI x8).toNat))), (5, .long (iL (sI (M (j + 1) (sI x8).toNat)))), (3, .long (iL t32)), (0, .ref (b + j)), (1, .long (iL a0)), (8, .int (iI x8))]) hx hb dX2_wayTo_68 hl (by decide) rfl (fun ls hl => ?_)
          refine z_iinc (lv' := [(8, .int (iI (x8 + 1))), (7, .int (iI (M (j + 2) (sI x8).toNat))), (5, .long (iL (sI (M (j + 1) (sI x8).toNat)))), (3, .long (iL t32)), (0, .ref (b + j)), (1, .long (iL a0))]) hx hb dX2_wayTo_70 hl (k := 5) rfl (by decide) rfl (fun ls hl => ?_)
          refine lv_goto (tgt := 11) hx hb dX2_wayTo_73 (by decide) ?_
          obtain ⟨n36, h37, h⟩ := h
          exact i15 n36 h37 t32 (sI (M (j + 1) (sI x8).toNat)) (M (j + 2) (sI x8).toNat) (x8 + 1) _ _ _ h hS hS0 (lv_sub hl [4, 5, 3, 2, 1, 0] rfl)
  exact L13 n10 0 0 1 0 _ _ _ h11 hS hS0 (lv_sub hl [4, 5, 3, 2, 1, 0] rfl)

set_option maxRecDepth 100000 in
def wC_way (a0 : Int) (a1 : Int) (M : zM) (Q : Int → Prop) (X : Prop) : Prop := wC_isMotor a0 M (fun z2 => (z2 = 0 → X) ∧ (z2 ≠ 0 → wC_within a1 0 1000000000 M (fun z7 => (z7 ≠ 0 → wC_Studio_motorOf a0 M (fun z12 => ∃ q14, z12 = some q14 ∧ (q14 < nC ∧ zcd wC q14 = 11) ∧ (wC_Motor_wayTo q14 (sI a1) M (fun z22 => Q z22)))) ∧ (z7 = 0 → X))))
set_option maxHeartbeats 4000000 in
set_option maxRecDepth 100000 in
theorem cC_way (l : Launch) (hst : l.stackTraces = false) (D : va_G) (dA : Nat → ClassId) (b : Nat) (M : zM) (a0 : Int) (a1 : Int)  (Q : Int → Prop) (X : Prop) (h : wC_way a0 a1 M Q X) : vx_Met l yX11_way (.code yX11_way cX11_way 3 (some .long) :: zt) (z_rmT 2) (va_Pc [.ref (b + 0), .int (iI a0), .int (iI a1)] (wPreT D dA vwCl (z_tys dA) wC nC b M)) (va_Ql (wQl (fun z9 u9 => u9 = M ∧ Q z9)) (zB D dA vwCl wC nC b) (zA nC b)) (zXC D dA vwCl wC nC b M X) 1 6 (zA nC b) := by
  unfold wC_way at h
  refine vx_ofW (cc := cX11_way) (maxL := 3) (ret := (some .long)) (by decide) rfl ?_
  intro p e s m args below meth c s₁ B hml hex hv
  obtain ⟨hargs, ⟨hS, hK⟩, hZ⟩ := hv
  have hx := B.exec
  have hb := B.bytes
  have hr := B.returns
  have hts := atoms_spec (ws := .code yX11_way cX11_way 3 (some .long) :: zt) B.pre
  have hown : s.vm.findClass RX11 = some m.cls := findClass_of_methodNamed B.named
  have hlocks := B.notSynchronized
  have hS0 : va_S (zA nC b) s.heap s.heap [] := va_S.rf
  have hl := lv_entry ([.ref (b + 0), .int (iI a0), .int (iI a1)]) (n := 3) (Nat.le_of_ble_eq_true rfl)
  have hent : entryFrame m args 3 = F0 m 0 ((lg_sl ([.ref (b + 0), .int (iI a0), .int (iI a1)]) ++ List.replicate (3 - (lg_sl ([.ref (b + 0), .int (iI a0), .int (iI a1)])).length) Slot.unset).toArray) [] := by rw [hargs]; exact lg_entry_eq m ([.ref (b + 0), .int (iI a0), .int (iI a1)]) 3
  rw [hent]
  generalize (lg_sl ([.ref (b + 0), .int (iI a0), .int (iI a1)]) ++ List.replicate (3 - (lg_sl ([.ref (b + 0), .int (iI a0), .int (iI a1)])).length) Slot.unset).toArray = ls at hl ⊢
  have hl : lv_has ls 3 [(0, .ref (b + 0)), (1, .int (iI a0)), (2, .int (iI a1))] := hl
  refine lv_iload_n hx hb dX11_way_0 rfl (lv_at hl 1 rfl) ?_
  refine w_callz (va_runS (As := [.int (iI a0)]) (rest := []) ⟨hx, hb, hml, hown, hts⟩ (cC_isMotor l D dA b M a0 _ h) (va_cwS 1 hts (z_gS k379 k380 k1 k381) rfl rfl rfl dm_X11_isMotor.2 ⟨Nat.le_of_ble_eq_true rfl, Nat.le_of_ble_eq_true rfl⟩) ⟨wPre_blind, w_pre hS hK⟩ rfl rfl hl.1 rfl (lv_room (Nat.le_of_ble_eq_true rfl)) dX11_way_1 ⟨Nat.le_of_ble_eq_true rfl, Nat.le_of_ble_eq_true rfl⟩) hS0 (fun z2 M1 H locs r3 h hS hS0 => ?_)
  obtain ⟨e4, h⟩ := h
  rw [e4] at hS
  refine w_if_eq (tgt := 17) hx hb (sI_01 r3) dX11_way_4 (by decide) (fun c5 => ?_) (fun c5 => ?_)
  · skip
    have h := h.1 c5
    exact vx_throw0 (own := "TapeRings") (cls := "java/util/NoSuchElementException") (names := ["java/lang/RuntimeException", "java/lang/Exception"]) (ik := 156) (ic := 158) hx hb hst hown (by decide +kernel) (by decide +kernel) (hts _ (z_mem k883)) (hts _ (z_mem k21)) (tw_hat (fun w hw => hts w (z_mem hw)) hZ.1) tw_good hZ.2.1 hZ.2.2 hS0 (hl.1.trans hml.symm) dX11_way_17 dX11_way_20 dX11_way_21 dX11_way_24 (fun x hx9 => (hex x hx9).elim) (Nat.le_of_ble_eq_true rfl) (Nat.le_of_ble_eq_true rfl) (Nat.le_of_ble_eq_true rfl) (Nat.le_of_ble_eq_true rfl) hlocks (fun t _ h1 h2 => wX_of hS hS0 h1 h2 h) hS0.2.2 (Nat.le_of_ble_eq_true rfl) (Nat.le_of_ble_eq_true rfl)
  · skip
    have h := h.2 c5
    refine lv_iload_n hx hb dX11_way_7 rfl (lv_at hl 2 rfl) ?_
    refine z_iconst hx hb dX11_way_8 ?_
    refine z_ldc (n := 1000000000) hx hb hown (hts _ (z_mem k930)) (by decide) dX11_way_9 ?_
    refine w_callz (va_runS (As := [.int (iI a1), .int (iI 0), .int (iI 1000000000)]) (rest := []) ⟨hx, hb, hml, hown, hts⟩ (cC_within l D dA b M a1 0 1000000000 _ h) (va_cwS 3 hts (z_gS k382 k383 k1 k384) rfl rfl rfl dm_X11_within.2 ⟨Nat.le_of_ble_eq_true rfl, Nat.le_of_ble_eq_true rfl⟩) ⟨wPre_blind, w_pre hS hK⟩ rfl rfl hl.1 rfl (lv_room (Nat.le_of_ble_eq_true rfl)) dX11_way_11 ⟨Nat.le_of_ble_eq_true rfl, Nat.le_of_ble_eq_true rfl⟩) hS0 (fun z7 M6 H locs r8 h hS hS0 => ?_)
    obtain ⟨e9, h⟩ := h
    rw [e9] at hS
    refine w_if_ne (tgt := 25) hx hb (sI_01 r8) dX11_way_14 (by decide) (fun c10 => ?_) (fun c10 => ?_)
    · skip
      have h := h.1 c10
      refine lv_aload_n hx hb dX11_way_25 rfl (lv_at hl 0 rfl) ?_
      refine w_getr (j2 := 32) hx hb hts (z_memU u11) hown hK.1 hS f11_2 (by decide) (zkd_of (rfl : zcd wC 0 = 0) rfl) (zrf_of (rfl : zcd wC 0 = 0) rfl) (Or.inl (hts _ (z_mem k244))) dX11_way_26 ?_
      refine lv_iload_n hx hb dX11_way_29 rfl (lv_at hl 1 rfl) ?_
      refine w_callq (va_runV (As := [.int (iI a0)]) (rest := []) ⟨hx, hb, hml, hown, hts⟩ (cC_Studio_motorOf l D dA b M a0 _ h) (cwV 1 hts (z_gV k442 k443 k444 k4 k445) rfl rfl rfl dm_X9_motorOf ⟨Nat.le_of_ble_eq_true rfl, Nat.le_of_ble_eq_true rfl⟩) ⟨wPre_blind, (w_recv hS hK.1 (by decide) (zkd_of (rfl : zcd wC 32 = 8) rfl) (by decide) (rfl : vwCl[9]? = some (RX9, TX9, 3))), w_pre hS hK⟩ rfl rfl hl.1 rfl (lv_room (Nat.le_of_ble_eq_true rfl)) dX11_way_30 ⟨Nat.le_of_ble_eq_true rfl, Nat.le_of_ble_eq_true rfl⟩) hS0 (fun z12 M11 H locs h hS hS0 => ?_)
      obtain ⟨e13, h⟩ := h
      rw [e13] at hS
      obtain ⟨q14, rfl, ⟨lt15, cd16⟩, h⟩ := h
      obtain ⟨lt17, cd18, lt19, cd20⟩ := nx_motor q14 lt15 cd16
      refine lv_iload_n hx hb dX11_way_33 rfl (lv_at hl 2 rfl) ?_
      refine w_i2l hx hb rfl dX11_way_34 ?_
      refine w_calll (va_runV (As := [.long (iL (sI a1))]) (rest := []) ⟨hx, hb, hml, hown, hts⟩ (cC_Motor_wayTo l D dA b M q14 (sI a1) lt15 cd16 _ h) (cwV 1 hts (z_gV k931 k495 k496 k5 k497) rfl rfl rfl dm_X2_wayTo ⟨Nat.le_of_ble_eq_true rfl, Nat.le_of_ble_eq_true rfl⟩) ⟨wPre_blind, (w_recv hS hK.1 lt15 (zkd_of cd16 rfl) (by decide) (rfl : vwCl[2]? = some (RX2, TX2, 3))), w_pre hS hK⟩ rfl rfl hl.1 rfl (lv_room (Nat.le_of_ble_eq_true rfl)) dX11_way_35 ⟨Nat.le_of_ble_eq_true rfl, Nat.le_of_ble_eq_true rfl⟩) hS0 (fun z22 M21 H locs r23 h hS hS0 => ?_)
      obtain ⟨e24, h⟩ := h
      rw [e24] at hS
      refine vx_ret (W.widen (k := 1) (n := 6) (Nat.zero_le _) (Nat.zero_le _) ?_)
      exact w_lret hx hb hr hlocks hS hS0 (sL_of r23) ⟨rfl, h⟩ dX11_way_38
    · skip
      have h := h.2 c10
      exact vx_throw0 (own := "TapeRings") (cls := "java/util/NoSuchElementException") (names := ["java/lang/RuntimeException", "java/lang/Exception"]) (ik := 156) (ic := 158) hx hb hst hown (by decide +kernel) (by decide +kernel) (hts _ (z_mem k883)) (hts _ (z_mem k21)) (tw_hat (fun w hw => hts w (z_mem hw)) hZ.1) tw_good hZ.2.1 hZ.2.2 hS0 (hl.1.trans hml.symm) dX11_way_17 dX11_way_20 dX11_way_21 dX11_way_24 (fun x hx9 => (hex x hx9).elim) (Nat.le_of_ble_eq_true rfl) (Nat.le_of_ble_eq_true rfl) (Nat.le_of_ble_eq_true rfl) (Nat.le_of_ble_eq_true rfl) hlocks (fun t _ h1 h2 => wX_of hS hS0 h1 h2 h) hS0.2.2 (Nat.le_of_ble_eq_true rfl) (Nat.le_of_ble_eq_true rfl)
end zz10_w04
section zz10_w05
/-! the W layer, 5 -/
theorem q10w05_0_0 : (cX11_all.data.toList.drop 0).take 19 = [42, 180, 0, 33, 42, 180, 0, 26, 182, 0, 182, 42, 180, 0, 33, 182, 0, 186, 173] := by decide +kernel
theorem dX11_all_0 : decode cX11_all 0 = .ok (.aload_n 0, 1) := dz_42 (dz_at q10w05_0_0 0)
theorem dX11_all_1 : decode cX11_all 1 = .ok (.getfield 33, 3) := dz_180 (dz_at q10w05_0_0 1) rfl
theorem dX11_all_11 : decode cX11_all 11 = .ok (.aload_n 0, 1) := dz_42 (dz_at q10w05_0_0 11)
theorem dX11_all_12 : decode cX11_all 12 = .ok (.getfield 33, 3) := dz_180 (dz_at q10w05_0_0 12) rfl
theorem dX11_all_15 : decode cX11_all 15 = .ok (.invokevirtual 186, 3) := dz_182 (dz_at q10w05_0_0 15) rfl
theorem dX11_all_18 : decode cX11_all 18 = .ok (.lreturn, 1) := dz_173 (dz_at q10w05_0_0 18)
theorem dX11_all_4 : decode cX11_all 4 = .ok (.aload_n 0, 1) := dz_42 (dz_at q10w05_0_0 4)
theorem dX11_all_5 : decode cX11_all 5 = .ok (.getfield 26, 3) := dz_180 (dz_at q10w05_0_0 5) rfl
theorem dX11_all_8 : decode cX11_all 8 = .ok (.invokevirtual 182, 3) := dz_182 (dz_at q10w05_0_0 8) rfl
theorem q10w05_1_0 : (cX11_heard.data.toList.drop 0).take 23 = [32, 9, 148, 156, 0, 5, 2, 172, 27, 2, 160, 0, 12, 42, 180, 0, 26, 32, 182, 0, 174, 172, 42] := by decide +kernel
theorem q10w05_1_23 : (cX11_heard.data.toList.drop 23).take 24 = [180, 0, 26, 27, 182, 0, 104, 58, 4, 25, 4, 199, 0, 7, 2, 167, 0, 13, 42, 180, 0, 26, 25, 4] := by decide +kernel
theorem q10w05_1_47 : (cX11_heard.data.toList.drop 47).take 5 = [32, 182, 0, 178, 172] := by decide +kernel
theorem dX11_heard_0 : decode cX11_heard 0 = .ok (.lload_n 2, 1) := dz_32 (dz_at q10w05_1_0 0)
theorem dX11_heard_1 : decode cX11_heard 1 = .ok (.lconst 0, 1) := dz_9 (dz_at q10w05_1_0 1)
theorem dX11_heard_10 : decode cX11_heard 10 = .ok (.if_icmp .ne 12, 3) := dz_160 (dz_at q10w05_1_0 10) (by decide +kernel)
theorem dX11_heard_13 : decode cX11_heard 13 = .ok (.aload_n 0, 1) := dz_42 (dz_at q10w05_1_0 13)
theorem dX11_heard_14 : decode cX11_heard 14 = .ok (.getfield 26, 3) := dz_180 (dz_at q10w05_1_0 14) rfl
theorem dX11_heard_17 : decode cX11_heard 17 = .ok (.lload_n 2, 1) := dz_32 (dz_at q10w05_1_0 17)
theorem dX11_heard_18 : decode cX11_heard 18 = .ok (.invokevirtual 174, 3) := dz_182 (dz_at q10w05_1_0 18) rfl
theorem dX11_heard_2 : decode cX11_heard 2 = .ok (.lcmp, 1) := dz_148 (dz_at q10w05_1_0 2)
theorem dX11_heard_21 : decode cX11_heard 21 = .ok (.ireturn, 1) := dz_172 (dz_at q10w05_1_0 21)
theorem dX11_heard_22 : decode cX11_heard 22 = .ok (.aload_n 0, 1) := dz_42 (dz_at q10w05_1_0 22)
theorem dX11_heard_23 : decode cX11_heard 23 = .ok (.getfield 26, 3) := dz_180 (dz_at q10w05_1_23 0) rfl
theorem dX11_heard_26 : decode cX11_heard 26 = .ok (.iload_n 1, 1) := dz_27 (dz_at q10w05_1_23 3)
theorem dX11_heard_27 : decode cX11_heard 27 = .ok (.invokevirtual 104, 3) := dz_182 (dz_at q10w05_1_23 4) rfl
theorem dX11_heard_3 : decode cX11_heard 3 = .ok (.ifCond .ge 5, 3) := dz_156 (dz_at q10w05_1_0 3) (by decide +kernel)
theorem dX11_heard_30 : decode cX11_heard 30 = .ok (.astore 4, 2) := dz_58 (dz_at q10w05_1_23 7)
theorem dX11_heard_32 : decode cX11_heard 32 = .ok (.aload 4, 2) := dz_25 (dz_at q10w05_1_23 9)
theorem dX11_heard_34 : decode cX11_heard 34 = .ok (.ifnonnull 7, 3) := dz_199 (dz_at q10w05_1_23 11) (by decide +kernel)
theorem dX11_heard_37 : decode cX11_heard 37 = .ok (.iconst (-1), 1) := dz_2 (dz_at q10w05_1_23 14)
theorem dX11_heard_38 : decode cX11_heard 38 = .ok (.goto 13, 3) := dz_167 (dz_at q10w05_1_23 15) (by decide +kernel)
theorem dX11_heard_41 : decode cX11_heard 41 = .ok (.aload_n 0, 1) := dz_42 (dz_at q10w05_1_23 18)
theorem dX11_heard_42 : decode cX11_heard 42 = .ok (.getfield 26, 3) := dz_180 (dz_at q10w05_1_23 19) rfl
theorem dX11_heard_45 : decode cX11_heard 45 = .ok (.aload 4, 2) := dz_25 (dz_at q10w05_1_23 22)
theorem dX11_heard_47 : decode cX11_heard 47 = .ok (.lload_n 2, 1) := dz_32 (dz_at q10w05_1_47 0)
theorem dX11_heard_48 : decode cX11_heard 48 = .ok (.invokevirtual 178, 3) := dz_182 (dz_at q10w05_1_47 1) rfl
theorem dX11_heard_51 : decode cX11_heard 51 = .ok (.ireturn, 1) := dz_172 (dz_at q10w05_1_47 4)
theorem dX11_heard_6 : decode cX11_heard 6 = .ok (.iconst (-1), 1) := dz_2 (dz_at q10w05_1_0 6)
theorem dX11_heard_7 : decode cX11_heard 7 = .ok (.ireturn, 1) := dz_172 (dz_at q10w05_1_0 7)
theorem dX11_heard_8 : decode cX11_heard 8 = .ok (.iload_n 1, 1) := dz_27 (dz_at q10w05_1_0 8)
theorem dX11_heard_9 : decode cX11_heard 9 = .ok (.iconst (-1), 1) := dz_2 (dz_at q10w05_1_0 9)
theorem q10w05_2_0 : (cX11_isSounds.data.toList.drop 0).take 14 = [26, 17, 252, 1, 126, 154, 0, 7, 4, 167, 0, 4, 3, 172] := by decide +kernel
theorem dX11_isSounds_0 : decode cX11_isSounds 0 = .ok (.iload_n 0, 1) := dz_26 (dz_at q10w05_2_0 0)
theorem dX11_isSounds_1 : decode cX11_isSounds 1 = .ok (.sipush (-1023), 3) := dz_17 (dz_at q10w05_2_0 1) (by decide +kernel)
theorem dX11_isSounds_12 : decode cX11_isSounds 12 = .ok (.iconst 0, 1) := dz_3 (dz_at q10w05_2_0 12)
theorem dX11_isSounds_13 : decode cX11_isSounds 13 = .ok (.ireturn, 1) := dz_172 (dz_at q10w05_2_0 13)
theorem dX11_isSounds_4 : decode cX11_isSounds 4 = .ok (.iand, 1) := dz_126 (dz_at q10w05_2_0 4)
theorem dX11_isSounds_5 : decode cX11_isSounds 5 = .ok (.ifCond .ne 7, 3) := dz_154 (dz_at q10w05_2_0 5) (by decide +kernel)
theorem dX11_isSounds_8 : decode cX11_isSounds 8 = .ok (.iconst 1, 1) := dz_4 (dz_at q10w05_2_0 8)
theorem dX11_isSounds_9 : decode cX11_isSounds 9 = .ok (.goto 4, 3) := dz_167 (dz_at q10w05_2_0 9) (by decide +kernel)
theorem q10w05_3_0 : (cX11_leastMultiple.data.toList.drop 0).take 9 = [30, 28, 30, 184, 1, 47, 133, 105, 173] := by decide +kernel
theorem dX11_leastMultiple_0 : decode cX11_leastMultiple 0 = .ok (.lload_n 0, 1) := dz_30 (dz_at q10w05_3_0 0)
theorem dX11_leastMultiple_1 : decode cX11_leastMultiple 1 = .ok (.iload_n 2, 1) := dz_28 (dz_at q10w05_3_0 1)
theorem dX11_leastMultiple_2 : decode cX11_leastMultiple 2 = .ok (.lload_n 0, 1) := dz_30 (dz_at q10w05_3_0 2)
theorem dX11_leastMultiple_3 : decode cX11_leastMultiple 3 = .ok (.invokestatic 303, 3) := dz_184 (dz_at q10w05_3_0 3) rfl
theorem dX11_leastMultiple_6 : decode cX11_leastMultiple 6 = .ok (.i2l, 1) := dz_133 (dz_at q10w05_3_0 6)
theorem dX11_leastMultiple_7 : decode cX11_leastMultiple 7 = .ok (.lmul, 1) := dz_105 (dz_at q10w05_3_0 7)
theorem dX11_leastMultiple_8 : decode cX11_leastMultiple 8 = .ok (.lreturn, 1) := dz_173 (dz_at q10w05_3_0 8)
theorem q10w05_4_0 : (cX1_allTicks.data.toList.drop 0).take 23 = [10, 64, 3, 62, 29, 42, 180, 0, 9, 162, 0, 20, 31, 42, 180, 0, 19, 29, 46, 184, 0, 47, 64] := by decide +kernel
theorem q10w05_4_23 : (cX1_allTicks.data.toList.drop 23).take 8 = [132, 3, 1, 167, 255, 234, 31, 173] := by decide +kernel
theorem dX1_allTicks_0 : decode cX1_allTicks 0 = .ok (.lconst 1, 1) := dz_10 (dz_at q10w05_4_0 0)
theorem dX1_allTicks_1 : decode cX1_allTicks 1 = .ok (.lstore_n 1, 1) := dz_64 (dz_at q10w05_4_0 1)
theorem dX1_allTicks_12 : decode cX1_allTicks 12 = .ok (.lload_n 1, 1) := dz_31 (dz_at q10w05_4_0 12)
theorem dX1_allTicks_13 : decode cX1_allTicks 13 = .ok (.aload_n 0, 1) := dz_42 (dz_at q10w05_4_0 13)
theorem dX1_allTicks_14 : decode cX1_allTicks 14 = .ok (.getfield 19, 3) := dz_180 (dz_at q10w05_4_0 14) rfl
theorem dX1_allTicks_17 : decode cX1_allTicks 17 = .ok (.iload_n 3, 1) := dz_29 (dz_at q10w05_4_0 17)
theorem dX1_allTicks_18 : decode cX1_allTicks 18 = .ok (.iaload, 1) := dz_46 (dz_at q10w05_4_0 18)
theorem dX1_allTicks_19 : decode cX1_allTicks 19 = .ok (.invokestatic 47, 3) := dz_184 (dz_at q10w05_4_0 19) rfl
theorem dX1_allTicks_2 : decode cX1_allTicks 2 = .ok (.iconst 0, 1) := dz_3 (dz_at q10w05_4_0 2)
theorem dX1_allTicks_22 : decode cX1_allTicks 22 = .ok (.lstore_n 1, 1) := dz_64 (dz_at q10w05_4_0 22)
theorem dX1_allTicks_23 : decode cX1_allTicks 23 = .ok (.iinc 3 1, 3) := dz_132 (dz_at q10w05_4_23 0) (by decide +kernel)
theorem dX1_allTicks_26 : decode cX1_allTicks 26 = .ok (.goto (-22), 3) := dz_167 (dz_at q10w05_4_23 3) (by decide +kernel)
theorem dX1_allTicks_29 : decode cX1_allTicks 29 = .ok (.lload_n 1, 1) := dz_31 (dz_at q10w05_4_23 6)
theorem dX1_allTicks_3 : decode cX1_allTicks 3 = .ok (.istore_n 3, 1) := dz_62 (dz_at q10w05_4_0 3)
theorem dX1_allTicks_30 : decode cX1_allTicks 30 = .ok (.lreturn, 1) := dz_173 (dz_at q10w05_4_23 7)
theorem dX1_allTicks_4 : decode cX1_allTicks 4 = .ok (.iload_n 3, 1) := dz_29 (dz_at q10w05_4_0 4)
theorem dX1_allTicks_5 : decode cX1_allTicks 5 = .ok (.aload_n 0, 1) := dz_42 (dz_at q10w05_4_0 5)
theorem dX1_allTicks_6 : decode cX1_allTicks 6 = .ok (.getfield 9, 3) := dz_180 (dz_at q10w05_4_0 6) rfl
theorem dX1_allTicks_9 : decode cX1_allTicks 9 = .ok (.if_icmp .ge 20, 3) := dz_162 (dz_at q10w05_4_0 9) (by decide +kernel)
theorem q10w05_5_0 : (cX1_look.data.toList.drop 0).take 23 = [42, 43, 182, 0, 26, 133, 181, 0, 15, 42, 3, 181, 0, 9, 3, 61, 28, 7, 162, 0, 58, 43, 28] := by decide +kernel
theorem q10w05_5_23 : (cX1_look.data.toList.drop 23).take 24 = [182, 0, 31, 78, 45, 198, 0, 42, 42, 180, 0, 19, 28, 43, 45, 182, 0, 35, 79, 42, 180, 0, 23, 28] := by decide +kernel
theorem q10w05_5_47 : (cX1_look.data.toList.drop 47).take 23 = [42, 43, 45, 42, 180, 0, 19, 28, 46, 182, 0, 39, 79, 42, 89, 180, 0, 9, 4, 96, 181, 0, 9] := by decide +kernel
theorem q10w05_5_70 : (cX1_look.data.toList.drop 70).take 7 = [132, 2, 1, 167, 255, 199, 177] := by decide +kernel
theorem dX1_look_0 : decode cX1_look 0 = .ok (.aload_n 0, 1) := dz_42 (dz_at q10w05_5_0 0)
theorem dX1_look_1 : decode cX1_look 1 = .ok (.aload_n 1, 1) := dz_43 (dz_at q10w05_5_0 1)
theorem dX1_look_10 : decode cX1_look 10 = .ok (.iconst 0, 1) := dz_3 (dz_at q10w05_5_0 10)
theorem dX1_look_11 : decode cX1_look 11 = .ok (.putfield 9, 3) := dz_181 (dz_at q10w05_5_0 11) rfl
theorem dX1_look_14 : decode cX1_look 14 = .ok (.iconst 0, 1) := dz_3 (dz_at q10w05_5_0 14)
theorem dX1_look_15 : decode cX1_look 15 = .ok (.istore_n 2, 1) := dz_61 (dz_at q10w05_5_0 15)
theorem dX1_look_16 : decode cX1_look 16 = .ok (.iload_n 2, 1) := dz_28 (dz_at q10w05_5_0 16)
theorem dX1_look_17 : decode cX1_look 17 = .ok (.iconst 4, 1) := dz_7 (dz_at q10w05_5_0 17)
theorem dX1_look_18 : decode cX1_look 18 = .ok (.if_icmp .ge 58, 3) := dz_162 (dz_at q10w05_5_0 18) (by decide +kernel)
theorem dX1_look_2 : decode cX1_look 2 = .ok (.invokevirtual 26, 3) := dz_182 (dz_at q10w05_5_0 2) rfl
theorem dX1_look_21 : decode cX1_look 21 = .ok (.aload_n 1, 1) := dz_43 (dz_at q10w05_5_0 21)
theorem dX1_look_22 : decode cX1_look 22 = .ok (.iload_n 2, 1) := dz_28 (dz_at q10w05_5_0 22)
theorem dX1_look_23 : decode cX1_look 23 = .ok (.invokevirtual 31, 3) := dz_182 (dz_at q10w05_5_23 0) rfl
theorem dX1_look_26 : decode cX1_look 26 = .ok (.astore_n 3, 1) := dz_78 (dz_at q10w05_5_23 3)
theorem dX1_look_27 : decode cX1_look 27 = .ok (.aload_n 3, 1) := dz_45 (dz_at q10w05_5_23 4)
theorem dX1_look_28 : decode cX1_look 28 = .ok (.ifnull 42, 3) := dz_198 (dz_at q10w05_5_23 5) (by decide +kernel)
theorem dX1_look_31 : decode cX1_look 31 = .ok (.aload_n 0, 1) := dz_42 (dz_at q10w05_5_23 8)
theorem dX1_look_32 : decode cX1_look 32 = .ok (.getfield 19, 3) := dz_180 (dz_at q10w05_5_23 9) rfl
theorem dX1_look_35 : decode cX1_look 35 = .ok (.iload_n 2, 1) := dz_28 (dz_at q10w05_5_23 12)
theorem dX1_look_36 : decode cX1_look 36 = .ok (.aload_n 1, 1) := dz_43 (dz_at q10w05_5_23 13)
theorem dX1_look_37 : decode cX1_look 37 = .ok (.aload_n 3, 1) := dz_45 (dz_at q10w05_5_23 14)
theorem dX1_look_38 : decode cX1_look 38 = .ok (.invokevirtual 35, 3) := dz_182 (dz_at q10w05_5_23 15) rfl
theorem dX1_look_41 : decode cX1_look 41 = .ok (.iastore, 1) := dz_79 (dz_at q10w05_5_23 18)
theorem dX1_look_42 : decode cX1_look 42 = .ok (.aload_n 0, 1) := dz_42 (dz_at q10w05_5_23 19)
theorem dX1_look_43 : decode cX1_look 43 = .ok (.getfield 23, 3) := dz_180 (dz_at q10w05_5_23 20) rfl
theorem dX1_look_46 : decode cX1_look 46 = .ok (.iload_n 2, 1) := dz_28 (dz_at q10w05_5_23 23)
theorem dX1_look_47 : decode cX1_look 47 = .ok (.aload_n 0, 1) := dz_42 (dz_at q10w05_5_47 0)
theorem dX1_look_48 : decode cX1_look 48 = .ok (.aload_n 1, 1) := dz_43 (dz_at q10w05_5_47 1)
theorem dX1_look_49 : decode cX1_look 49 = .ok (.aload_n 3, 1) := dz_45 (dz_at q10w05_5_47 2)
theorem dX1_look_5 : decode cX1_look 5 = .ok (.i2l, 1) := dz_133 (dz_at q10w05_5_0 5)
theorem dX1_look_50 : decode cX1_look 50 = .ok (.aload_n 0, 1) := dz_42 (dz_at q10w05_5_47 3)
theorem dX1_look_51 : decode cX1_look 51 = .ok (.getfield 19, 3) := dz_180 (dz_at q10w05_5_47 4) rfl
theorem dX1_look_54 : decode cX1_look 54 = .ok (.iload_n 2, 1) := dz_28 (dz_at q10w05_5_47 7)
theorem dX1_look_55 : decode cX1_look 55 = .ok (.iaload, 1) := dz_46 (dz_at q10w05_5_47 8)
theorem dX1_look_56 : decode cX1_look 56 = .ok (.invokevirtual 39, 3) := dz_182 (dz_at q10w05_5_47 9) rfl
theorem dX1_look_59 : decode cX1_look 59 = .ok (.iastore, 1) := dz_79 (dz_at q10w05_5_47 12)
theorem dX1_look_6 : decode cX1_look 6 = .ok (.putfield 15, 3) := dz_181 (dz_at q10w05_5_0 6) rfl
theorem dX1_look_60 : decode cX1_look 60 = .ok (.aload_n 0, 1) := dz_42 (dz_at q10w05_5_47 13)
theorem dX1_look_61 : decode cX1_look 61 = .ok (.dup, 1) := dz_89 (dz_at q10w05_5_47 14)
theorem dX1_look_62 : decode cX1_look 62 = .ok (.getfield 9, 3) := dz_180 (dz_at q10w05_5_47 15) rfl
theorem dX1_look_65 : decode cX1_look 65 = .ok (.iconst 1, 1) := dz_4 (dz_at q10w05_5_47 18)
theorem dX1_look_66 : decode cX1_look 66 = .ok (.iadd, 1) := dz_96 (dz_at q10w05_5_47 19)
theorem dX1_look_67 : decode cX1_look 67 = .ok (.putfield 9, 3) := dz_181 (dz_at q10w05_5_47 20) rfl
theorem dX1_look_70 : decode cX1_look 70 = .ok (.iinc 2 1, 3) := dz_132 (dz_at q10w05_5_70 0) (by decide +kernel)
theorem dX1_look_73 : decode cX1_look 73 = .ok (.goto (-57), 3) := dz_167 (dz_at q10w05_5_70 3) (by decide +kernel)
theorem dX1_look_76 : decode cX1_look 76 = .ok (.return_, 1) := dz_177 (dz_at q10w05_5_70 6)
theorem dX1_look_9 : decode cX1_look 9 = .ok (.aload_n 0, 1) := dz_42 (dz_at q10w05_5_0 9)
theorem q10w05_6_0 : (cX1_turnsOf.data.toList.drop 0).take 22 = [3, 54, 4, 3, 54, 5, 21, 5, 29, 162, 0, 34, 43, 44, 42, 180, 0, 15, 21, 5, 133, 97] := by decide +kernel
theorem q10w05_6_22 : (cX1_turnsOf.data.toList.drop 22).take 24 = [182, 0, 43, 153, 0, 12, 21, 4, 4, 21, 5, 120, 128, 54, 4, 132, 5, 1, 167, 255, 222, 21, 4, 172] := by decide +kernel
theorem dX1_turnsOf_0 : decode cX1_turnsOf 0 = .ok (.iconst 0, 1) := dz_3 (dz_at q10w05_6_0 0)
theorem dX1_turnsOf_1 : decode cX1_turnsOf 1 = .ok (.istore 4, 2) := dz_54 (dz_at q10w05_6_0 1)
theorem dX1_turnsOf_12 : decode cX1_turnsOf 12 = .ok (.aload_n 1, 1) := dz_43 (dz_at q10w05_6_0 12)
theorem dX1_turnsOf_13 : decode cX1_turnsOf 13 = .ok (.aload_n 2, 1) := dz_44 (dz_at q10w05_6_0 13)
theorem dX1_turnsOf_14 : decode cX1_turnsOf 14 = .ok (.aload_n 0, 1) := dz_42 (dz_at q10w05_6_0 14)
theorem dX1_turnsOf_15 : decode cX1_turnsOf 15 = .ok (.getfield 15, 3) := dz_180 (dz_at q10w05_6_0 15) rfl
theorem dX1_turnsOf_18 : decode cX1_turnsOf 18 = .ok (.iload 5, 2) := dz_21 (dz_at q10w05_6_0 18)
theorem dX1_turnsOf_20 : decode cX1_turnsOf 20 = .ok (.i2l, 1) := dz_133 (dz_at q10w05_6_0 20)
theorem dX1_turnsOf_21 : decode cX1_turnsOf 21 = .ok (.ladd, 1) := dz_97 (dz_at q10w05_6_0 21)
theorem dX1_turnsOf_22 : decode cX1_turnsOf 22 = .ok (.invokevirtual 43, 3) := dz_182 (dz_at q10w05_6_22 0) rfl
theorem dX1_turnsOf_25 : decode cX1_turnsOf 25 = .ok (.ifCond .eq 12, 3) := dz_153 (dz_at q10w05_6_22 3) (by decide +kernel)
theorem dX1_turnsOf_28 : decode cX1_turnsOf 28 = .ok (.iload 4, 2) := dz_21 (dz_at q10w05_6_22 6)
theorem dX1_turnsOf_3 : decode cX1_turnsOf 3 = .ok (.iconst 0, 1) := dz_3 (dz_at q10w05_6_0 3)
theorem dX1_turnsOf_30 : decode cX1_turnsOf 30 = .ok (.iconst 1, 1) := dz_4 (dz_at q10w05_6_22 8)
theorem dX1_turnsOf_31 : decode cX1_turnsOf 31 = .ok (.iload 5, 2) := dz_21 (dz_at q10w05_6_22 9)
theorem dX1_turnsOf_33 : decode cX1_turnsOf 33 = .ok (.ishl, 1) := dz_120 (dz_at q10w05_6_22 11)
theorem dX1_turnsOf_34 : decode cX1_turnsOf 34 = .ok (.ior, 1) := dz_128 (dz_at q10w05_6_22 12)
theorem dX1_turnsOf_35 : decode cX1_turnsOf 35 = .ok (.istore 4, 2) := dz_54 (dz_at q10w05_6_22 13)
theorem dX1_turnsOf_37 : decode cX1_turnsOf 37 = .ok (.iinc 5 1, 3) := dz_132 (dz_at q10w05_6_22 15) (by decide +kernel)
theorem dX1_turnsOf_4 : decode cX1_turnsOf 4 = .ok (.istore 5, 2) := dz_54 (dz_at q10w05_6_0 4)
theorem dX1_turnsOf_40 : decode cX1_turnsOf 40 = .ok (.goto (-34), 3) := dz_167 (dz_at q10w05_6_22 18) (by decide +kernel)
theorem dX1_turnsOf_43 : decode cX1_turnsOf 43 = .ok (.iload 4, 2) := dz_21 (dz_at q10w05_6_22 21)
theorem dX1_turnsOf_45 : decode cX1_turnsOf 45 = .ok (.ireturn, 1) := dz_172 (dz_at q10w05_6_22 23)
theorem dX1_turnsOf_6 : decode cX1_turnsOf 6 = .ok (.iload 5, 2) := dz_21 (dz_at q10w05_6_0 6)
theorem dX1_turnsOf_8 : decode cX1_turnsOf 8 = .ok (.iload_n 3, 1) := dz_29 (dz_at q10w05_6_0 8)
theorem dX1_turnsOf_9 : decode cX1_turnsOf 9 = .ok (.if_icmp .ge 34, 3) := dz_162 (dz_at q10w05_6_0 9) (by decide +kernel)
theorem q10w05_7_0 : (cX2_steady.data.toList.drop 0).take 23 = [42, 180, 0, 18, 154, 0, 7, 3, 167, 0, 14, 42, 180, 0, 9, 42, 180, 0, 18, 4, 100, 46, 172] := by decide +kernel
theorem dX2_steady_0 : decode cX2_steady 0 = .ok (.aload_n 0, 1) := dz_42 (dz_at q10w05_7_0 0)
theorem dX2_steady_1 : decode cX2_steady 1 = .ok (.getfield 18, 3) := dz_180 (dz_at q10w05_7_0 1) rfl
theorem dX2_steady_11 : decode cX2_steady 11 = .ok (.aload_n 0, 1) := dz_42 (dz_at q10w05_7_0 11)
theorem dX2_steady_12 : decode cX2_steady 12 = .ok (.getfield 9, 3) := dz_180 (dz_at q10w05_7_0 12) rfl
theorem dX2_steady_15 : decode cX2_steady 15 = .ok (.aload_n 0, 1) := dz_42 (dz_at q10w05_7_0 15)
theorem dX2_steady_16 : decode cX2_steady 16 = .ok (.getfield 18, 3) := dz_180 (dz_at q10w05_7_0 16) rfl
theorem dX2_steady_19 : decode cX2_steady 19 = .ok (.iconst 1, 1) := dz_4 (dz_at q10w05_7_0 19)
theorem dX2_steady_20 : decode cX2_steady 20 = .ok (.isub, 1) := dz_100 (dz_at q10w05_7_0 20)
theorem dX2_steady_21 : decode cX2_steady 21 = .ok (.iaload, 1) := dz_46 (dz_at q10w05_7_0 21)
theorem dX2_steady_22 : decode cX2_steady 22 = .ok (.ireturn, 1) := dz_172 (dz_at q10w05_7_0 22)
theorem dX2_steady_4 : decode cX2_steady 4 = .ok (.ifCond .ne 7, 3) := dz_154 (dz_at q10w05_7_0 4) (by decide +kernel)
theorem dX2_steady_7 : decode cX2_steady 7 = .ok (.iconst 0, 1) := dz_3 (dz_at q10w05_7_0 7)
theorem dX2_steady_8 : decode cX2_steady 8 = .ok (.goto 14, 3) := dz_167 (dz_at q10w05_7_0 8) (by decide +kernel)
theorem q10w05_8_0 : (cX2_wayBy.data.toList.drop 0).take 24 = [9, 31, 42, 182, 0, 22, 133, 101, 184, 0, 26, 55, 4, 42, 31, 22, 4, 101, 182, 0, 32, 22, 4, 29] := by decide +kernel
theorem q10w05_8_24 : (cX2_wayBy.data.toList.drop 24).take 16 = [184, 0, 36, 133, 42, 182, 0, 40, 133, 105, 97, 29, 184, 0, 36, 172] := by decide +kernel
theorem dX2_wayBy_0 : decode cX2_wayBy 0 = .ok (.lconst 0, 1) := dz_9 (dz_at q10w05_8_0 0)
theorem dX2_wayBy_1 : decode cX2_wayBy 1 = .ok (.lload_n 1, 1) := dz_31 (dz_at q10w05_8_0 1)
theorem dX2_wayBy_11 : decode cX2_wayBy 11 = .ok (.lstore 4, 2) := dz_55 (dz_at q10w05_8_0 11)
theorem dX2_wayBy_13 : decode cX2_wayBy 13 = .ok (.aload_n 0, 1) := dz_42 (dz_at q10w05_8_0 13)
theorem dX2_wayBy_14 : decode cX2_wayBy 14 = .ok (.lload_n 1, 1) := dz_31 (dz_at q10w05_8_0 14)
theorem dX2_wayBy_15 : decode cX2_wayBy 15 = .ok (.lload 4, 2) := dz_22 (dz_at q10w05_8_0 15)
theorem dX2_wayBy_17 : decode cX2_wayBy 17 = .ok (.lsub, 1) := dz_101 (dz_at q10w05_8_0 17)
theorem dX2_wayBy_18 : decode cX2_wayBy 18 = .ok (.invokevirtual 32, 3) := dz_182 (dz_at q10w05_8_0 18) rfl
theorem dX2_wayBy_2 : decode cX2_wayBy 2 = .ok (.aload_n 0, 1) := dz_42 (dz_at q10w05_8_0 2)
theorem dX2_wayBy_21 : decode cX2_wayBy 21 = .ok (.lload 4, 2) := dz_22 (dz_at q10w05_8_0 21)
theorem dX2_wayBy_23 : decode cX2_wayBy 23 = .ok (.iload_n 3, 1) := dz_29 (dz_at q10w05_8_0 23)
theorem dX2_wayBy_24 : decode cX2_wayBy 24 = .ok (.invokestatic 36, 3) := dz_184 (dz_at q10w05_8_24 0) rfl
theorem dX2_wayBy_27 : decode cX2_wayBy 27 = .ok (.i2l, 1) := dz_133 (dz_at q10w05_8_24 3)
theorem dX2_wayBy_28 : decode cX2_wayBy 28 = .ok (.aload_n 0, 1) := dz_42 (dz_at q10w05_8_24 4)
theorem dX2_wayBy_29 : decode cX2_wayBy 29 = .ok (.invokevirtual 40, 3) := dz_182 (dz_at q10w05_8_24 5) rfl
theorem dX2_wayBy_3 : decode cX2_wayBy 3 = .ok (.invokevirtual 22, 3) := dz_182 (dz_at q10w05_8_0 3) rfl
theorem dX2_wayBy_32 : decode cX2_wayBy 32 = .ok (.i2l, 1) := dz_133 (dz_at q10w05_8_24 8)
theorem dX2_wayBy_33 : decode cX2_wayBy 33 = .ok (.lmul, 1) := dz_105 (dz_at q10w05_8_24 9)
theorem dX2_wayBy_34 : decode cX2_wayBy 34 = .ok (.ladd, 1) := dz_97 (dz_at q10w05_8_24 10)
theorem dX2_wayBy_35 : decode cX2_wayBy 35 = .ok (.iload_n 3, 1) := dz_29 (dz_at q10w05_8_24 11)
theorem dX2_wayBy_36 : decode cX2_wayBy 36 = .ok (.invokestatic 36, 3) := dz_184 (dz_at q10w05_8_24 12) rfl
theorem dX2_wayBy_39 : decode cX2_wayBy 39 = .ok (.ireturn, 1) := dz_172 (dz_at q10w05_8_24 15)
theorem dX2_wayBy_6 : decode cX2_wayBy 6 = .ok (.i2l, 1) := dz_133 (dz_at q10w05_8_0 6)
theorem dX2_wayBy_7 : decode cX2_wayBy 7 = .ok (.lsub, 1) := dz_101 (dz_at q10w05_8_0 7)
theorem dX2_wayBy_8 : decode cX2_wayBy 8 = .ok (.invokestatic 26, 3) := dz_184 (dz_at q10w05_8_0 8) rfl
theorem q10w05_9_0 : (cX6_heardBehind.data.toList.drop 0).take 23 = [42, 180, 0, 31, 42, 180, 0, 22, 27, 96, 133, 42, 180, 0, 12, 180, 0, 42, 184, 0, 56, 46, 172] := by decide +kernel
theorem dX6_heardBehind_0 : decode cX6_heardBehind 0 = .ok (.aload_n 0, 1) := dz_42 (dz_at q10w05_9_0 0)
theorem dX6_heardBehind_1 : decode cX6_heardBehind 1 = .ok (.getfield 31, 3) := dz_180 (dz_at q10w05_9_0 1) rfl
theorem dX6_heardBehind_10 : decode cX6_heardBehind 10 = .ok (.i2l, 1) := dz_133 (dz_at q10w05_9_0 10)
theorem dX6_heardBehind_11 : decode cX6_heardBehind 11 = .ok (.aload_n 0, 1) := dz_42 (dz_at q10w05_9_0 11)
theorem dX6_heardBehind_12 : decode cX6_heardBehind 12 = .ok (.getfield 12, 3) := dz_180 (dz_at q10w05_9_0 12) rfl
theorem dX6_heardBehind_15 : decode cX6_heardBehind 15 = .ok (.getfield 42, 3) := dz_180 (dz_at q10w05_9_0 15) rfl
theorem dX6_heardBehind_18 : decode cX6_heardBehind 18 = .ok (.invokestatic 56, 3) := dz_184 (dz_at q10w05_9_0 18) rfl
theorem dX6_heardBehind_21 : decode cX6_heardBehind 21 = .ok (.iaload, 1) := dz_46 (dz_at q10w05_9_0 21)
theorem dX6_heardBehind_22 : decode cX6_heardBehind 22 = .ok (.ireturn, 1) := dz_172 (dz_at q10w05_9_0 22)
theorem dX6_heardBehind_4 : decode cX6_heardBehind 4 = .ok (.aload_n 0, 1) := dz_42 (dz_at q10w05_9_0 4)
theorem dX6_heardBehind_5 : decode cX6_heardBehind 5 = .ok (.getfield 22, 3) := dz_180 (dz_at q10w05_9_0 5) rfl
theorem dX6_heardBehind_8 : decode cX6_heardBehind 8 = .ok (.iload_n 1, 1) := dz_27 (dz_at q10w05_9_0 8)
theorem dX6_heardBehind_9 : decode cX6_heardBehind 9 = .ok (.iadd, 1) := dz_96 (dz_at q10w05_9_0 9)
theorem q10w05_10_0 : (cX9_grants.data.toList.drop 0).take 22 = [43, 180, 0, 77, 42, 43, 32, 182, 0, 73, 2, 130, 126, 154, 0, 7, 4, 167, 0, 4, 3, 172] := by decide +kernel
theorem dX9_grants_0 : decode cX9_grants 0 = .ok (.aload_n 1, 1) := dz_43 (dz_at q10w05_10_0 0)
theorem dX9_grants_1 : decode cX9_grants 1 = .ok (.getfield 77, 3) := dz_180 (dz_at q10w05_10_0 1) rfl
theorem dX9_grants_10 : decode cX9_grants 10 = .ok (.iconst (-1), 1) := dz_2 (dz_at q10w05_10_0 10)
theorem dX9_grants_11 : decode cX9_grants 11 = .ok (.ixor, 1) := dz_130 (dz_at q10w05_10_0 11)
theorem dX9_grants_12 : decode cX9_grants 12 = .ok (.iand, 1) := dz_126 (dz_at q10w05_10_0 12)
theorem dX9_grants_13 : decode cX9_grants 13 = .ok (.ifCond .ne 7, 3) := dz_154 (dz_at q10w05_10_0 13) (by decide +kernel)
theorem dX9_grants_16 : decode cX9_grants 16 = .ok (.iconst 1, 1) := dz_4 (dz_at q10w05_10_0 16)
theorem dX9_grants_17 : decode cX9_grants 17 = .ok (.goto 4, 3) := dz_167 (dz_at q10w05_10_0 17) (by decide +kernel)
theorem dX9_grants_20 : decode cX9_grants 20 = .ok (.iconst 0, 1) := dz_3 (dz_at q10w05_10_0 20)
theorem dX9_grants_21 : decode cX9_grants 21 = .ok (.ireturn, 1) := dz_172 (dz_at q10w05_10_0 21)
theorem dX9_grants_4 : decode cX9_grants 4 = .ok (.aload_n 0, 1) := dz_42 (dz_at q10w05_10_0 4)
theorem dX9_grants_5 : decode cX9_grants 5 = .ok (.aload_n 1, 1) := dz_43 (dz_at q10w05_10_0 5)
theorem dX9_grants_6 : decode cX9_grants 6 = .ok (.lload_n 2, 1) := dz_32 (dz_at q10w05_10_0 6)
theorem dX9_grants_7 : decode cX9_grants 7 = .ok (.invokevirtual 73, 3) := dz_182 (dz_at q10w05_10_0 7) rfl
theorem q10w05_11_0 : (cX9_heardInAll.data.toList.drop 0).take 24 = [3, 62, 3, 54, 4, 21, 4, 42, 180, 0, 23, 162, 0, 24, 29, 42, 42, 180, 0, 19, 21, 4, 50, 31] := by decide +kernel
theorem q10w05_11_24 : (cX9_heardInAll.data.toList.drop 24).take 13 = [182, 0, 73, 128, 62, 132, 4, 1, 167, 255, 229, 29, 172] := by decide +kernel
theorem dX9_heardInAll_0 : decode cX9_heardInAll 0 = .ok (.iconst 0, 1) := dz_3 (dz_at q10w05_11_0 0)
theorem dX9_heardInAll_1 : decode cX9_heardInAll 1 = .ok (.istore_n 3, 1) := dz_62 (dz_at q10w05_11_0 1)
theorem dX9_heardInAll_11 : decode cX9_heardInAll 11 = .ok (.if_icmp .ge 24, 3) := dz_162 (dz_at q10w05_11_0 11) (by decide +kernel)
theorem dX9_heardInAll_14 : decode cX9_heardInAll 14 = .ok (.iload_n 3, 1) := dz_29 (dz_at q10w05_11_0 14)
theorem dX9_heardInAll_15 : decode cX9_heardInAll 15 = .ok (.aload_n 0, 1) := dz_42 (dz_at q10w05_11_0 15)
theorem dX9_heardInAll_16 : decode cX9_heardInAll 16 = .ok (.aload_n 0, 1) := dz_42 (dz_at q10w05_11_0 16)
theorem dX9_heardInAll_17 : decode cX9_heardInAll 17 = .ok (.getfield 19, 3) := dz_180 (dz_at q10w05_11_0 17) rfl
theorem dX9_heardInAll_2 : decode cX9_heardInAll 2 = .ok (.iconst 0, 1) := dz_3 (dz_at q10w05_11_0 2)
theorem dX9_heardInAll_20 : decode cX9_heardInAll 20 = .ok (.iload 4, 2) := dz_21 (dz_at q10w05_11_0 20)
theorem dX9_heardInAll_22 : decode cX9_heardInAll 22 = .ok (.aaload, 1) := dz_50 (dz_at q10w05_11_0 22)
theorem dX9_heardInAll_23 : decode cX9_heardInAll 23 = .ok (.lload_n 1, 1) := dz_31 (dz_at q10w05_11_0 23)
theorem dX9_heardInAll_24 : decode cX9_heardInAll 24 = .ok (.invokevirtual 73, 3) := dz_182 (dz_at q10w05_11_24 0) rfl
theorem dX9_heardInAll_27 : decode cX9_heardInAll 27 = .ok (.ior, 1) := dz_128 (dz_at q10w05_11_24 3)
theorem dX9_heardInAll_28 : decode cX9_heardInAll 28 = .ok (.istore_n 3, 1) := dz_62 (dz_at q10w05_11_24 4)
theorem dX9_heardInAll_29 : decode cX9_heardInAll 29 = .ok (.iinc 4 1, 3) := dz_132 (dz_at q10w05_11_24 5) (by decide +kernel)
theorem dX9_heardInAll_3 : decode cX9_heardInAll 3 = .ok (.istore 4, 2) := dz_54 (dz_at q10w05_11_0 3)
theorem dX9_heardInAll_32 : decode cX9_heardInAll 32 = .ok (.goto (-27), 3) := dz_167 (dz_at q10w05_11_24 8) (by decide +kernel)
theorem dX9_heardInAll_35 : decode cX9_heardInAll 35 = .ok (.iload_n 3, 1) := dz_29 (dz_at q10w05_11_24 11)
theorem dX9_heardInAll_36 : decode cX9_heardInAll 36 = .ok (.ireturn, 1) := dz_172 (dz_at q10w05_11_24 12)
theorem dX9_heardInAll_5 : decode cX9_heardInAll 5 = .ok (.iload 4, 2) := dz_21 (dz_at q10w05_11_0 5)
theorem dX9_heardInAll_7 : decode cX9_heardInAll 7 = .ok (.aload_n 0, 1) := dz_42 (dz_at q10w05_11_0 7)
theorem dX9_heardInAll_8 : decode cX9_heardInAll 8 = .ok (.getfield 23, 3) := dz_180 (dz_at q10w05_11_0 8) rfl
theorem q10w05_12_0 : (cX9_heardOf.data.toList.drop 0).take 24 = [43, 42, 43, 180, 0, 46, 182, 0, 49, 32, 43, 180, 0, 53, 180, 0, 57, 182, 0, 66, 182, 0, 70, 172] := by decide +kernel
theorem dX9_heardOf_0 : decode cX9_heardOf 0 = .ok (.aload_n 1, 1) := dz_43 (dz_at q10w05_12_0 0)
theorem dX9_heardOf_1 : decode cX9_heardOf 1 = .ok (.aload_n 0, 1) := dz_42 (dz_at q10w05_12_0 1)
theorem dX9_heardOf_10 : decode cX9_heardOf 10 = .ok (.aload_n 1, 1) := dz_43 (dz_at q10w05_12_0 10)
theorem dX9_heardOf_11 : decode cX9_heardOf 11 = .ok (.getfield 53, 3) := dz_180 (dz_at q10w05_12_0 11) rfl
theorem dX9_heardOf_14 : decode cX9_heardOf 14 = .ok (.getfield 57, 3) := dz_180 (dz_at q10w05_12_0 14) rfl
theorem dX9_heardOf_17 : decode cX9_heardOf 17 = .ok (.invokevirtual 66, 3) := dz_182 (dz_at q10w05_12_0 17) rfl
theorem dX9_heardOf_2 : decode cX9_heardOf 2 = .ok (.aload_n 1, 1) := dz_43 (dz_at q10w05_12_0 2)
theorem dX9_heardOf_20 : decode cX9_heardOf 20 = .ok (.invokevirtual 70, 3) := dz_182 (dz_at q10w05_12_0 20) rfl
theorem dX9_heardOf_23 : decode cX9_heardOf 23 = .ok (.ireturn, 1) := dz_172 (dz_at q10w05_12_0 23)
theorem dX9_heardOf_3 : decode cX9_heardOf 3 = .ok (.getfield 46, 3) := dz_180 (dz_at q10w05_12_0 3) rfl
theorem dX9_heardOf_6 : decode cX9_heardOf 6 = .ok (.invokevirtual 49, 3) := dz_182 (dz_at q10w05_12_0 6) rfl
theorem dX9_heardOf_9 : decode cX9_heardOf 9 = .ok (.lload_n 2, 1) := dz_32 (dz_at q10w05_12_0 9)
theorem q10w05_13_0 : (cX9_steady.data.toList.drop 0).take 22 = [42, 180, 0, 11, 3, 50, 182, 0, 36, 42, 180, 0, 11, 4, 50, 182, 0, 36, 184, 0, 40, 172] := by decide +kernel
theorem dX9_steady_0 : decode cX9_steady 0 = .ok (.aload_n 0, 1) := dz_42 (dz_at q10w05_13_0 0)
theorem dX9_steady_1 : decode cX9_steady 1 = .ok (.getfield 11, 3) := dz_180 (dz_at q10w05_13_0 1) rfl
theorem dX9_steady_10 : decode cX9_steady 10 = .ok (.getfield 11, 3) := dz_180 (dz_at q10w05_13_0 10) rfl
theorem dX9_steady_13 : decode cX9_steady 13 = .ok (.iconst 1, 1) := dz_4 (dz_at q10w05_13_0 13)
theorem dX9_steady_14 : decode cX9_steady 14 = .ok (.aaload, 1) := dz_50 (dz_at q10w05_13_0 14)
theorem dX9_steady_15 : decode cX9_steady 15 = .ok (.invokevirtual 36, 3) := dz_182 (dz_at q10w05_13_0 15) rfl
theorem dX9_steady_18 : decode cX9_steady 18 = .ok (.invokestatic 40, 3) := dz_184 (dz_at q10w05_13_0 18) rfl
theorem dX9_steady_21 : decode cX9_steady 21 = .ok (.ireturn, 1) := dz_172 (dz_at q10w05_13_0 21)
theorem dX9_steady_4 : decode cX9_steady 4 = .ok (.iconst 0, 1) := dz_3 (dz_at q10w05_13_0 4)
theorem dX9_steady_5 : decode cX9_steady 5 = .ok (.aaload, 1) := dz_50 (dz_at q10w05_13_0 5)
theorem dX9_steady_6 : decode cX9_steady 6 = .ok (.invokevirtual 36, 3) := dz_182 (dz_at q10w05_13_0 6) rfl
theorem dX9_steady_9 : decode cX9_steady 9 = .ok (.aload_n 0, 1) := dz_42 (dz_at q10w05_13_0 9)
theorem dm_X2_steady : yX2_steady.cls = RX2 ∧ yX2_steady.cls ≠ "java/lang/invoke/MethodHandle" ∧ yX2_steady.cls ≠ "java/lang/invoke/VarHandle" ∧ (parseMethodDescriptor yX2_steady.desc).map (fun d => d.parameters.length) = some 0 := by decide +kernel
theorem dm_X2_wayBy : yX2_wayBy.cls = RX2 ∧ yX2_wayBy.cls ≠ "java/lang/invoke/MethodHandle" ∧ yX2_wayBy.cls ≠ "java/lang/invoke/VarHandle" ∧ (parseMethodDescriptor yX2_wayBy.desc).map (fun d => d.parameters.length) = some 2 := by decide +kernel
theorem dm_X6_heardBehind : yX6_heardBehind.cls = RX6 ∧ yX6_heardBehind.cls ≠ "java/lang/invoke/MethodHandle" ∧ yX6_heardBehind.cls ≠ "java/lang/invoke/VarHandle" ∧ (parseMethodDescriptor yX6_heardBehind.desc).map (fun d => d.parameters.length) = some 1 := by decide +kernel
theorem dm_X9_heardOf : yX9_heardOf.cls = RX9 ∧ yX9_heardOf.cls ≠ "java/lang/invoke/MethodHandle" ∧ yX9_heardOf.cls ≠ "java/lang/invoke/VarHandle" ∧ (parseMethodDescriptor yX9_heardOf.desc).map (fun d => d.parameters.length) = some 2 := by decide +kernel
theorem dm_X9_heardInAll : yX9_heardInAll.cls = RX9 ∧ yX9_heardInAll.cls ≠ "java/lang/invoke/MethodHandle" ∧ yX9_heardInAll.cls ≠ "java/lang/invoke/VarHandle" ∧ (parseMethodDescriptor yX9_heardInAll.desc).map (fun d => d.parameters.length) = some 1 := by decide +kernel
theorem dm_X9_grants : yX9_grants.cls = RX9 ∧ yX9_grants.cls ≠ "java/lang/invoke/MethodHandle" ∧ yX9_grants.cls ≠ "java/lang/invoke/VarHandle" ∧ (parseMethodDescriptor yX9_grants.desc).map (fun d => d.parameters.length) = some 2 := by decide +kernel
theorem dm_X9_steady : yX9_steady.cls = RX9 ∧ yX9_steady.cls ≠ "java/lang/invoke/MethodHandle" ∧ yX9_steady.cls ≠ "java/lang/invoke/VarHandle" ∧ (parseMethodDescriptor yX9_steady.desc).map (fun d => d.parameters.length) = some 0 := by decide +kernel
theorem dm_X1_turnsOf : yX1_turnsOf.cls = RX1 ∧ yX1_turnsOf.cls ≠ "java/lang/invoke/MethodHandle" ∧ yX1_turnsOf.cls ≠ "java/lang/invoke/VarHandle" ∧ (parseMethodDescriptor yX1_turnsOf.desc).map (fun d => d.parameters.length) = some 3 := by decide +kernel
theorem dm_X11_leastMultiple : yX11_leastMultiple.cls = RX11 ∧ yX11_leastMultiple.cls ≠ "java/lang/invoke/MethodHandle" ∧ yX11_leastMultiple.cls ≠ "java/lang/invoke/VarHandle" ∧ (parseMethodDescriptor yX11_leastMultiple.desc).map (fun d => d.parameters.length) = some 2 := by decide +kernel
theorem dm_X1_look : yX1_look.cls = RX1 ∧ yX1_look.cls ≠ "java/lang/invoke/MethodHandle" ∧ yX1_look.cls ≠ "java/lang/invoke/VarHandle" ∧ (parseMethodDescriptor yX1_look.desc).map (fun d => d.parameters.length) = some 1 := by decide +kernel
theorem dm_X1_allTicks : yX1_allTicks.cls = RX1 ∧ yX1_allTicks.cls ≠ "java/lang/invoke/MethodHandle" ∧ yX1_allTicks.cls ≠ "java/lang/invoke/VarHandle" ∧ (parseMethodDescriptor yX1_allTicks.desc).map (fun d => d.parameters.length) = some 0 := by decide +kernel
set_option maxRecDepth 100000 in
def wC_Motor_steady (j : Nat) (M : zM) (Q : Int → Prop) : Prop := ((sI (M j 2)) ≠ 0 → ((0 ≤ (sI ((M j 2) - 1)) ∧ (sI ((M j 2) - 1)) < 12) ∧ Q (sI (M (j + 1) (sI ((M j 2) - 1)).toNat)))) ∧ ((sI (M j 2)) = 0 → Q 0)
set_option maxHeartbeats 4000000 in
set_option maxRecDepth 100000 in
theorem cC_Motor_steady (l : Launch) (D : va_G) (dA : Nat → ClassId) (b : Nat) (M : zM) (j : Nat) (lt_j : j < nC) (cd_j : zcd wC j = 11) (Q : Int → Prop) (h : wC_Motor_steady j M Q) : Met l yX2_steady (.code yX2_steady cX2_steady 1 (some .int) :: zt) (z_rm 0) (va_Pc [.ref (b + j)] (wPre D dA vwCl (z_tys dA) wC nC b M)) (va_Qi (wQi (fun z9 u9 => u9 = M ∧ Q z9)) (zB D dA vwCl wC nC b) (zA nC b)) 0 0 (zA nC b) := by
  unfold wC_Motor_steady at h
  refine Met.ofW (cc := cX2_steady) (maxL := 1) (ret := (some .int)) (by decide) rfl ?_
  intro p e s m args below meth c s₁ B hml hv
  obtain ⟨hargs, hS, hK⟩ := hv
  have hx := B.exec
  have hb := B.bytes
  have hr := B.returns
  have hts := atoms_spec (ws := .code yX2_steady cX2_steady 1 (some .int) :: zt) B.pre
  have hown : s.vm.findClass RX2 = some m.cls := findClass_of_methodNamed B.named
  have hlocks := B.notSynchronized
  have hS0 : va_S (zA nC b) s.heap s.heap [] := va_S.rf
  have hl := lv_entry ([.ref (b + j)]) (n := 1) (Nat.le_of_ble_eq_true rfl)
  have hent : entryFrame m args 1 = F0 m 0 ((lg_sl ([.ref (b + j)]) ++ List.replicate (1 - (lg_sl ([.ref (b + j)])).length) Slot.unset).toArray) [] := by rw [hargs]; exact lg_entry_eq m ([.ref (b + j)]) 1
  rw [hent]
  generalize (lg_sl ([.ref (b + j)]) ++ List.replicate (1 - (lg_sl ([.ref (b + j)])).length) Slot.unset).toArray = ls at hl ⊢
  have hl : lv_has ls 1 [(0, .ref (b + j))] := hl
  obtain ⟨lt1, cd2, lt3, cd4⟩ := nx_motor j lt_j cd_j
  refine lv_aload_n hx hb dX2_steady_0 rfl (lv_at hl 0 rfl) ?_
  refine w_geti hx hb hts (z_memU u2) hown hK.1 hS f2_2 lt_j (zkd_of cd_j rfl) (Or.inl (hts _ (z_mem k84))) dX2_steady_1 ?_
  refine w_if_ne (tgt := 11) hx hb rfl dX2_steady_4 (by decide) (fun c5 => ?_) (fun c5 => ?_)
  · skip
    have h := h.1 c5
    refine lv_aload_n hx hb dX2_steady_11 rfl (lv_at hl 0 rfl) ?_
    refine w_getr (j2 := (j + 1)) hx hb hts (z_memU u2) hown hK.1 hS f2_0 lt_j (zkd_of cd_j rfl) (zrf_of cd_j rfl) (Or.inl (hts _ (z_mem k82))) dX2_steady_12 ?_
    refine lv_aload_n hx hb dX2_steady_15 rfl (lv_at hl 0 rfl) ?_
    refine w_geti hx hb hts (z_memU u2) hown hK.1 hS f2_2 lt_j (zkd_of cd_j rfl) (Or.inl (hts _ (z_mem k84))) dX2_steady_16 ?_
    refine z_iconst hx hb dX2_steady_19 ?_
    refine z_isub hx hb dX2_steady_20 ?_
    obtain ⟨o6, h⟩ := h
    refine w_iald (n := 12) (i := (sI ((M j 2) - 1))) hx hb hK.1 (t0 := 0) rfl hS lt1 (zkd_of cd2 rfl) (zln_of cd2 rfl) rfl o6.1 o6.2 (by decide) dX2_steady_21 ?_
    exact w_iret hx hb hr hlocks hS hS0 rfl ⟨rfl, h⟩ dX2_steady_22
  · skip
    have h := h.2 c5
    refine z_iconst hx hb dX2_steady_7 ?_
    refine lv_goto (tgt := 22) hx hb dX2_steady_8 (by decide) ?_
    exact w_iret hx hb hr hlocks hS hS0 (sI_of (by decide)) ⟨rfl, h⟩ dX2_steady_22

set_option maxRecDepth 100000 in
def wC_Motor_wayBy (j : Nat) (a0 : Int) (a1 : Int) (M : zM) (Q : Int → Prop) : Prop := wC_Motor_steady j M (fun z6 => wC_Motor_wayTo j (a0 - (max 0 (sL (a0 - z6)))) M (fun z10 => wC_by (max 0 (sL (a0 - z6))) a1 M (fun z14 => wC_Motor_lastSpeed j M (fun z18 => wC_by (z10 + (z14 * z18)) a1 M (fun z22 => Q z22)))))
set_option maxHeartbeats 4000000 in
set_option maxRecDepth 100000 in
theorem cC_Motor_wayBy (l : Launch) (D : va_G) (dA : Nat → ClassId) (b : Nat) (M : zM) (j : Nat) (a0 : Int) (a1 : Int) (lt_j : j < nC) (cd_j : zcd wC j = 11) (Q : Int → Prop) (h : wC_Motor_wayBy j a0 a1 M Q) : Met l yX2_wayBy (.code yX2_wayBy cX2_wayBy 6 (some .int) :: zt) (z_rm 1) (va_Pc [.ref (b + j), .long (iL a0), .int (iI a1)] (wPre D dA vwCl (z_tys dA) wC nC b M)) (va_Qi (wQi (fun z9 u9 => u9 = M ∧ Q z9)) (zB D dA vwCl wC nC b) (zA nC b)) 0 0 (zA nC b) := by
  unfold wC_Motor_wayBy at h
  refine Met.ofW (cc := cX2_wayBy) (maxL := 6) (ret := (some .int)) (by decide) rfl ?_
  intro p e s m args below meth c s₁ B hml hv
  obtain ⟨hargs, hS, hK⟩ := hv
  have hx := B.exec
  have hb := B.bytes
  have hr := B.returns
  have hts := atoms_spec (ws := .code yX2_wayBy cX2_wayBy 6 (some .int) :: zt) B.pre
  have hown : s.vm.findClass RX2 = some m.cls := findClass_of_methodNamed B.named
  have hlocks := B.notSynchronized
  have hS0 : va_S (zA nC b) s.heap s.heap [] := va_S.rf
  have hl := lv_entry ([.ref (b + j), .long (iL a0), .int (iI a1)]) (n := 6) (Nat.le_of_ble_eq_true rfl)
  have hent : entryFrame m args 6 = F0 m 0 ((lg_sl ([.ref (b + j), .long (iL a0), .int (iI a1)]) ++ List.replicate (6 - (lg_sl ([.ref (b + j), .long (iL a0), .int (iI a1)])).length) Slot.unset).toArray) [] := by rw [hargs]; exact lg_entry_eq m ([.ref (b + j), .long (iL a0), .int (iI a1)]) 6
  rw [hent]
  generalize (lg_sl ([.ref (b + j), .long (iL a0), .int (iI a1)]) ++ List.replicate (6 - (lg_sl ([.ref (b + j), .long (iL a0), .int (iI a1)])).length) Slot.unset).toArray = ls at hl ⊢
  have hl : lv_has ls 6 [(0, .ref (b + j)), (1, .long (iL a0)), (3, .int (iI a1))] := hl
  obtain ⟨lt1, cd2, lt3, cd4⟩ := nx_motor j lt_j cd_j
  refine z_lconst0 hx hb dX2_wayBy_0 ?_
  refine lv_lload_n hx hb dX2_wayBy_1 rfl (lv_at hl 1 rfl) ?_
  refine lv_aload_n hx hb dX2_wayBy_2 rfl (lv_at hl 0 rfl) ?_
  refine w_calli (va_runV (As := []) (rest := [.long (iL a0), .long (iL 0)]) ⟨hx, hb, hml, hown, hts⟩ (cC_Motor_steady l D dA b M j lt_j cd_j _ h) (cwV 0 hts (z_gV k487 k488 k489 k5 k490) rfl rfl rfl dm_X2_steady ⟨Nat.le_of_ble_eq_true rfl, Nat.le_of_ble_eq_true rfl⟩) ⟨wPre_blind, (w_recv hS hK.1 lt_j (zkd_of cd_j rfl) (by decide) (rfl : vwCl[2]? = some (RX2, TX2, 3))), w_pre hS hK⟩ rfl rfl hl.1 rfl (lv_room (Nat.le_of_ble_eq_true rfl)) dX2_wayBy_3 ⟨Nat.le_refl _, Nat.le_refl _⟩) hS0 (fun z6 M5 H locs r7 h hS hS0 => ?_)
  obtain ⟨e8, h⟩ := h
  rw [e8] at hS
  refine w_i2l hx hb (sI_of r7) dX2_wayBy_6 ?_
  refine z_lsub hx hb dX2_wayBy_7 ?_
  refine w_mmaxl hx hb (hml.trans hl.1.symm) hown (hts _ (z_mem k491)) (hts _ (z_mem k492)) (hts _ (z_mem k15)) (hts _ (z_mem k493)) (by exact Nat.le_of_ble_eq_true rfl) (by exact Nat.le_of_ble_eq_true rfl) (by exact Nat.le_refl _) (by exact Nat.le_refl _) (sL_of (by decide)) rfl dX2_wayBy_8 ?_
  refine lv_lstore (lv' := [(4, .long (iL (max 0 (sL (a0 - z6))))), (0, .ref (b + j)), (1, .long (iL a0)), (3, .int (iI a1))]) hx hb dX2_wayBy_11 hl (by decide) rfl (fun ls hl => ?_)
  refine lv_aload_n hx hb dX2_wayBy_13 rfl (lv_at hl 1 rfl) ?_
  refine lv_lload_n hx hb dX2_wayBy_14 rfl (lv_at hl 2 rfl) ?_
  refine lv_lload hx hb dX2_wayBy_15 (lv_at hl 0 rfl) ?_
  refine z_lsub hx hb dX2_wayBy_17 ?_
  refine w_calll (va_runV (As := [.long (iL (a0 - (max 0 (sL (a0 - z6)))))]) (rest := []) ⟨hx, hb, hml, hown, hts⟩ (cC_Motor_wayTo l D dA b M j (a0 - (max 0 (sL (a0 - z6)))) lt_j cd_j _ h) (cwV 1 hts (z_gV k494 k495 k496 k5 k497) rfl rfl rfl dm_X2_wayTo ⟨Nat.le_of_ble_eq_true rfl, Nat.le_of_ble_eq_true rfl⟩) ⟨wPre_blind, (w_recv hS hK.1 lt_j (zkd_of cd_j rfl) (by decide) (rfl : vwCl[2]? = some (RX2, TX2, 3))), w_pre hS hK⟩ rfl rfl hl.1 rfl (lv_room (Nat.le_of_ble_eq_true rfl)) dX2_wayBy_18 ⟨Nat.le_refl _, Nat.le_refl _⟩) hS0 (fun z10 M9 H locs r11 h hS hS0 => ?_)
  obtain ⟨e12, h⟩ := h
  rw [e12] at hS
  refine lv_lload hx hb dX2_wayBy_21 (lv_at hl 0 rfl) ?_
  refine lv_iload_n hx hb dX2_wayBy_23 rfl (lv_at hl 3 rfl) ?_
  refine w_calli (va_runSN (As := [.long (iL (max 0 (sL (a0 - z6)))), .int (iI a1)]) (rest := [.long (iL z10)]) ⟨hx, hb, hml, hown, hts⟩ (cC_by l D dA b M (max 0 (sL (a0 - z6))) a1 _ h) ⟨va_cnB 2 hts (z_gN k406) rfl rfl rfl (hK.2 (RX2, 36, yX11_by, RX11) (List.mem_of_getElem? (i := 11) rfl)) (hts _ (z_mem k1)) dm_X11_by.2 ⟨Nat.le_of_ble_eq_true rfl, Nat.le_of_ble_eq_true rfl⟩, (hts _ (z_mem k405)), trivial⟩ ⟨wPre_blind, w_pre hS hK⟩ rfl rfl hl.1 rfl (lv_room (Nat.le_of_ble_eq_true rfl)) dX2_wayBy_24 ⟨Nat.le_refl _, Nat.le_refl _⟩) hS0 (fun z14 M13 H locs r15 h hS hS0 => ?_)
  obtain ⟨e16, h⟩ := h
  rw [e16] at hS
  refine w_i2l hx hb (sI_of r15) dX2_wayBy_27 ?_
  refine lv_aload_n hx hb dX2_wayBy_28 rfl (lv_at hl 1 rfl) ?_
  refine w_calli (va_runV (As := []) (rest := [.long (iL z14), .long (iL z10)]) ⟨hx, hb, hml, hown, hts⟩ (cC_Motor_lastSpeed l D dA b M j lt_j cd_j _ h) (cwV 0 hts (z_gV k498 k499 k500 k5 k501) rfl rfl rfl dm_X2_lastSpeed ⟨Nat.le_of_ble_eq_true rfl, Nat.le_of_ble_eq_true rfl⟩) ⟨wPre_blind, (w_recv hS hK.1 lt_j (zkd_of cd_j rfl) (by decide) (rfl : vwCl[2]? = some (RX2, TX2, 3))), w_pre hS hK⟩ rfl rfl hl.1 rfl (lv_room (Nat.le_of_ble_eq_true rfl)) dX2_wayBy_29 ⟨Nat.le_refl _, Nat.le_refl _⟩) hS0 (fun z18 M17 H locs r19 h hS hS0 => ?_)
  obtain ⟨e20, h⟩ := h
  rw [e20] at hS
  refine w_i2l hx hb (sI_of r19) dX2_wayBy_32 ?_
  refine z_lmul hx hb dX2_wayBy_33 ?_
  refine z_ladd hx hb dX2_wayBy_34 ?_
  refine lv_iload_n hx hb dX2_wayBy_35 rfl (lv_at hl 3 rfl) ?_
  refine w_calli (va_runSN (As := [.long (iL (z10 + (z14 * z18))), .int (iI a1)]) (rest := []) ⟨hx, hb, hml, hown, hts⟩ (cC_by l D dA b M (z10 + (z14 * z18)) a1 _ h) ⟨va_cnB 2 hts (z_gN k406) rfl rfl rfl (hK.2 (RX2, 36, yX11_by, RX11) (List.mem_of_getElem? (i := 11) rfl)) (hts _ (z_mem k1)) dm_X11_by.2 ⟨Nat.le_of_ble_eq_true rfl, Nat.le_of_ble_eq_true rfl⟩, (hts _ (z_mem k405)), trivial⟩ ⟨wPre_blind, w_pre hS hK⟩ rfl rfl hl.1 rfl (lv_room (Nat.le_of_ble_eq_true rfl)) dX2_wayBy_36 ⟨Nat.le_refl _, Nat.le_refl _⟩) hS0 (fun z22 M21 H locs r23 h hS hS0 => ?_)
  obtain ⟨e24, h⟩ := h
  rw [e24] at hS
  exact w_iret hx hb hr hlocks hS hS0 (sI_of r23) ⟨rfl, h⟩ dX2_wayBy_39

set_option maxRecDepth 100000 in
def wC_Ring_heardBehind (j : Nat) (a0 : Int) (M : zM) (Q : Int → Prop) : Prop := wC_by (sI ((M j 2) + a0)) (M (j + 1) 1) M (fun z8 => ((0 ≤ z8 ∧ z8 < 24) ∧ Q (sI (M (j + 3) z8.toNat))))
set_option maxHeartbeats 4000000 in
set_option maxRecDepth 100000 in
theorem cC_Ring_heardBehind (l : Launch) (D : va_G) (dA : Nat → ClassId) (b : Nat) (M : zM) (j : Nat) (a0 : Int) (lt_j : j < nC) (cd_j : zcd wC j = 14) (Q : Int → Prop) (h : wC_Ring_heardBehind j a0 M Q) : Met l yX6_heardBehind (.code yX6_heardBehind cX6_heardBehind 2 (some .int) :: zt) (z_rm 1) (va_Pc [.ref (b + j), .int (iI a0)] (wPre D dA vwCl (z_tys dA) wC nC b M)) (va_Qi (wQi (fun z9 u9 => u9 = M ∧ Q z9)) (zB D dA vwCl wC nC b) (zA nC b)) 0 0 (zA nC b) := by
  unfold wC_Ring_heardBehind at h
  refine Met.ofW (cc := cX6_heardBehind) (maxL := 2) (ret := (some .int)) (by decide) rfl ?_
  intro p e s m args below meth c s₁ B hml hv
  obtain ⟨hargs, hS, hK⟩ := hv
  have hx := B.exec
  have hb := B.bytes
  have hr := B.returns
  have hts := atoms_spec (ws := .code yX6_heardBehind cX6_heardBehind 2 (some .int) :: zt) B.pre
  have hown : s.vm.findClass RX6 = some m.cls := findClass_of_methodNamed B.named
  have hlocks := B.notSynchronized
  have hS0 : va_S (zA nC b) s.heap s.heap [] := va_S.rf
  have hl := lv_entry ([.ref (b + j), .int (iI a0)]) (n := 2) (Nat.le_of_ble_eq_true rfl)
  have hent : entryFrame m args 2 = F0 m 0 ((lg_sl ([.ref (b + j), .int (iI a0)]) ++ List.replicate (2 - (lg_sl ([.ref (b + j), .int (iI a0)])).length) Slot.unset).toArray) [] := by rw [hargs]; exact lg_entry_eq m ([.ref (b + j), .int (iI a0)]) 2
  rw [hent]
  generalize (lg_sl ([.ref (b + j), .int (iI a0)]) ++ List.replicate (2 - (lg_sl ([.ref (b + j), .int (iI a0)])).length) Slot.unset).toArray = ls at hl ⊢
  have hl : lv_has ls 2 [(0, .ref (b + j)), (1, .int (iI a0))] := hl
  obtain ⟨lt1, cd2, lt3, cd4, lt5, cd6⟩ := nx_ring j lt_j cd_j
  refine lv_aload_n hx hb dX6_heardBehind_0 rfl (lv_at hl 0 rfl) ?_
  refine w_getr (j2 := (j + 3)) hx hb hts (z_memU u6) hown hK.1 hS f6_5 lt_j (zkd_of cd_j rfl) (zrf_of cd_j rfl) (Or.inl (hts _ (z_mem k109))) dX6_heardBehind_1 ?_
  refine lv_aload_n hx hb dX6_heardBehind_4 rfl (lv_at hl 0 rfl) ?_
  refine w_geti hx hb hts (z_memU u6) hown hK.1 hS f6_2 lt_j (zkd_of cd_j rfl) (Or.inl (hts _ (z_mem k101))) dX6_heardBehind_5 ?_
  refine lv_iload_n hx hb dX6_heardBehind_8 rfl (lv_at hl 1 rfl) ?_
  refine z_iadd hx hb dX6_heardBehind_9 ?_
  refine w_i2l hx hb rfl dX6_heardBehind_10 ?_
  refine lv_aload_n hx hb dX6_heardBehind_11 rfl (lv_at hl 0 rfl) ?_
  refine w_getr (j2 := (j + 1)) hx hb hts (z_memU u6) hown hK.1 hS f6_0 lt_j (zkd_of cd_j rfl) (zrf_of cd_j rfl) (Or.inl (hts _ (z_mem k93))) dX6_heardBehind_12 ?_
  refine w_geti hx hb hts (z_memU u8) hown hK.1 hS f8_1 lt1 (zkd_of cd2 rfl) (Or.inl (hts _ (z_mem k45))) dX6_heardBehind_15 ?_
  refine w_calli (va_runSN (As := [.long (iL (sI ((M j 2) + a0))), .int (iI (M (j + 1) 1))]) (rest := [.ref (b + (j + 3))]) ⟨hx, hb, hml, hown, hts⟩ (cC_by l D dA b M (sI ((M j 2) + a0)) (M (j + 1) 1) _ h) ⟨va_cnB 2 hts (z_gN k406) rfl rfl rfl (hK.2 (RX6, 56, yX11_by, RX11) (List.mem_of_getElem? (i := 10) rfl)) (hts _ (z_mem k1)) dm_X11_by.2 ⟨Nat.le_of_ble_eq_true rfl, Nat.le_of_ble_eq_true rfl⟩, (hts _ (z_mem k405)), trivial⟩ ⟨wPre_blind, w_pre hS hK⟩ rfl rfl hl.1 rfl (lv_room (Nat.le_of_ble_eq_true rfl)) dX6_heardBehind_18 ⟨Nat.le_refl _, Nat.le_refl _⟩) hS0 (fun z8 M7 H locs r9 h hS hS0 => ?_)
  obtain ⟨e10, h⟩ := h
  rw [e10] at hS
  obtain ⟨o11, h⟩ := h
  refine w_iald (n := 24) (i := z8) hx hb hK.1 (t0 := 0) rfl hS lt5 (zkd_of cd6 rfl) (zln_of cd6 rfl) (sI_of r9) o11.1 o11.2 (by decide) dX6_heardBehind_21 ?_
  exact w_iret hx hb hr hlocks hS hS0 rfl ⟨rfl, h⟩ dX6_heardBehind_22

set_option maxRecDepth 100000 in
def wC_Studio_heardOf (a0 : Nat) (a1 : Int) (M : zM) (Q : Int → Prop) : Prop := wC_Studio_motorOf (M a0 1) M (fun z8 => ∃ q10, z8 = some q10 ∧ (q10 < nC ∧ zcd wC q10 = 11) ∧ (wC_Motor_wayBy q10 a1 (M (a0 + 1) 1) M (fun z18 => wC_Ring_heardBehind a0 z18 M (fun z22 => Q z22))))
set_option maxHeartbeats 4000000 in
set_option maxRecDepth 100000 in
theorem cC_Studio_heardOf (l : Launch) (D : va_G) (dA : Nat → ClassId) (b : Nat) (M : zM) (a0 : Nat) (a1 : Int) (lt_a0 : a0 < nC) (cd_a0 : zcd wC a0 = 14) (Q : Int → Prop) (h : wC_Studio_heardOf a0 a1 M Q) : Met l yX9_heardOf (.code yX9_heardOf cX9_heardOf 4 (some .int) :: zt) (z_rm 2) (va_Pc [.ref (b + 32), .ref (b + a0), .long (iL a1)] (wPre D dA vwCl (z_tys dA) wC nC b M)) (va_Qi (wQi (fun z9 u9 => u9 = M ∧ Q z9)) (zB D dA vwCl wC nC b) (zA nC b)) 0 0 (zA nC b) := by
  unfold wC_Studio_heardOf at h
  refine Met.ofW (cc := cX9_heardOf) (maxL := 4) (ret := (some .int)) (by decide) rfl ?_
  intro p e s m args below meth c s₁ B hml hv
  obtain ⟨hargs, hS, hK⟩ := hv
  have hx := B.exec
  have hb := B.bytes
  have hr := B.returns
  have hts := atoms_spec (ws := .code yX9_heardOf cX9_heardOf 4 (some .int) :: zt) B.pre
  have hown : s.vm.findClass RX9 = some m.cls := findClass_of_methodNamed B.named
  have hlocks := B.notSynchronized
  have hS0 : va_S (zA nC b) s.heap s.heap [] := va_S.rf
  have hl := lv_entry ([.ref (b + 32), .ref (b + a0), .long (iL a1)]) (n := 4) (Nat.le_of_ble_eq_true rfl)
  have hent : entryFrame m args 4 = F0 m 0 ((lg_sl ([.ref (b + 32), .ref (b + a0), .long (iL a1)]) ++ List.replicate (4 - (lg_sl ([.ref (b + 32), .ref (b + a0), .long (iL a1)])).length) Slot.unset).toArray) [] := by rw [hargs]; exact lg_entry_eq m ([.ref (b + 32), .ref (b + a0), .long (iL a1)]) 4
  rw [hent]
  generalize (lg_sl ([.ref (b + 32), .ref (b + a0), .long (iL a1)]) ++ List.replicate (4 - (lg_sl ([.ref (b + 32), .ref (b + a0), .long (iL a1)])).length) Slot.unset).toArray = ls at hl ⊢
  have hl : lv_has ls 4 [(0, .ref (b + 32)), (1, .ref (b + a0)), (2, .long (iL a1))] := hl
  obtain ⟨lt1, cd2, lt3, cd4, lt5, cd6⟩ := nx_ring a0 lt_a0 cd_a0
  refine lv_aload_n hx hb dX9_heardOf_0 rfl (lv_at hl 1 rfl) ?_
  refine lv_aload_n hx hb dX9_heardOf_1 rfl (lv_at hl 0 rfl) ?_
  refine lv_aload_n hx hb dX9_heardOf_2 rfl (lv_at hl 1 rfl) ?_
  refine w_geti hx hb hts (z_memU u6) hown hK.1 hS f6_1 lt_a0 (zkd_of cd_a0 rfl) (Or.inl (hts _ (z_mem k99))) dX9_heardOf_3 ?_
  refine w_callq (va_runV (As := [.int (iI (M a0 1))]) (rest := [.ref (b + a0)]) ⟨hx, hb, hml, hown, hts⟩ (cC_Studio_motorOf l D dA b M (M a0 1) _ h) (cwV 1 hts (z_gV k482 k443 k444 k4 k445) rfl rfl rfl dm_X9_motorOf ⟨Nat.le_of_ble_eq_true rfl, Nat.le_of_ble_eq_true rfl⟩) ⟨wPre_blind, (w_recv hS hK.1 (by decide) (zkd_of (rfl : zcd wC 32 = 8) rfl) (by decide) (rfl : vwCl[9]? = some (RX9, TX9, 3))), w_pre hS hK⟩ rfl rfl hl.1 rfl (lv_room (Nat.le_of_ble_eq_true rfl)) dX9_heardOf_6 ⟨Nat.le_refl _, Nat.le_refl _⟩) hS0 (fun z8 M7 H locs h hS hS0 => ?_)
  obtain ⟨e9, h⟩ := h
  rw [e9] at hS
  obtain ⟨q10, rfl, ⟨lt11, cd12⟩, h⟩ := h
  obtain ⟨lt13, cd14, lt15, cd16⟩ := nx_motor q10 lt11 cd12
  refine lv_lload_n hx hb dX9_heardOf_9 rfl (lv_at hl 2 rfl) ?_
  refine lv_aload_n hx hb dX9_heardOf_10 rfl (lv_at hl 1 rfl) ?_
  refine w_getr (j2 := (a0 + 1)) hx hb hts (z_memU u6) hown hK.1 hS f6_0 lt_a0 (zkd_of cd_a0 rfl) (zrf_of cd_a0 rfl) (Or.inl (hts _ (z_mem k95))) dX9_heardOf_11 ?_
  refine w_geti hx hb hts (z_memU u8) hown hK.1 hS f8_1 lt1 (zkd_of cd2 rfl) (Or.inl (hts _ (z_mem k49))) dX9_heardOf_14 ?_
  refine w_calli (va_runV (As := [.long (iL a1), .int (iI (M (a0 + 1) 1))]) (rest := [.ref (b + a0)]) ⟨hx, hb, hml, hown, hts⟩ (cC_Motor_wayBy l D dA b M q10 a1 (M (a0 + 1) 1) lt11 cd12 _ h) (cwV 2 hts (z_gV k483 k484 k485 k5 k486) rfl rfl rfl dm_X2_wayBy ⟨Nat.le_of_ble_eq_true rfl, Nat.le_of_ble_eq_true rfl⟩) ⟨wPre_blind, (w_recv hS hK.1 lt11 (zkd_of cd12 rfl) (by decide) (rfl : vwCl[2]? = some (RX2, TX2, 3))), w_pre hS hK⟩ rfl rfl hl.1 rfl (lv_room (Nat.le_of_ble_eq_true rfl)) dX9_heardOf_17 ⟨Nat.le_refl _, Nat.le_refl _⟩) hS0 (fun z18 M17 H locs r19 h hS hS0 => ?_)
  obtain ⟨e20, h⟩ := h
  rw [e20] at hS
  refine w_calli (va_runV (As := [.int (iI z18)]) (rest := []) ⟨hx, hb, hml, hown, hts⟩ (cC_Ring_heardBehind l D dA b M a0 z18 lt_a0 cd_a0 _ h) (cwV 1 hts (z_gV k502 k503 k504 k6 k505) rfl rfl rfl dm_X6_heardBehind ⟨Nat.le_of_ble_eq_true rfl, Nat.le_of_ble_eq_true rfl⟩) ⟨wPre_blind, (w_recv hS hK.1 lt_a0 (zkd_of cd_a0 rfl) (by decide) (rfl : vwCl[6]? = some (RX6, TX6, 6))), w_pre hS hK⟩ rfl rfl hl.1 rfl (lv_room (Nat.le_of_ble_eq_true rfl)) dX9_heardOf_20 ⟨Nat.le_refl _, Nat.le_refl _⟩) hS0 (fun z22 M21 H locs r23 h hS hS0 => ?_)
  obtain ⟨e24, h⟩ := h
  rw [e24] at hS
  exact w_iret hx hb hr hlocks hS hS0 (sI_of r23) ⟨rfl, h⟩ dX9_heardOf_23

set_option maxRecDepth 100000 in
def wC_Studio_heardInAll (a0 : Int) (M : zM) (Q : Int → Prop) : Prop := pL2 (fun K5 x1 x2 => ((sI (M 32 2)) ≤ (sI x2) → Q (sI x1)) ∧ ((sI x2) < (sI (M 32 2)) → ((0 ≤ (sI x2) ∧ (sI x2) < 4) ∧ wC_Studio_heardOf (41 + 4 * (sI x2).toNat) a0 M (fun z21 => K5 (orI x1 z21) (x2 + 1))))) 0 0
set_option maxHeartbeats 4000000 in
set_option maxRecDepth 100000 in
theorem cC_Studio_heardInAll (l : Launch) (D : va_G) (dA : Nat → ClassId) (b : Nat) (M : zM) (a0 : Int)  (Q : Int → Prop) (h : wC_Studio_heardInAll a0 M Q) : Met l yX9_heardInAll (.code yX9_heardInAll cX9_heardInAll 5 (some .int) :: zt) (z_rm 3) (va_Pc [.ref (b + 32), .long (iL a0)] (wPre D dA vwCl (z_tys dA) wC nC b M)) (va_Qi (wQi (fun z9 u9 => u9 = M ∧ Q z9)) (zB D dA vwCl wC nC b) (zA nC b)) 0 0 (zA nC b) := by
  unfold wC_Studio_heardInAll at h
  refine Met.ofW (cc := cX9_heardInAll) (maxL := 5) (ret := (some .int)) (by decide) rfl ?_
  intro p e s m args below meth c s₁ B hml hv
  obtain ⟨hargs, hS, hK⟩ := hv
  have hx := B.exec
  have hb := B.bytes
  have hr := B.returns
  have hts := atoms_spec (ws := .code yX9_heardInAll cX9_heardInAll 5 (some .int) :: zt) B.pre
  have hown : s.vm.findClass RX9 = some m.cls := findClass_of_methodNamed B.named
  have hlocks := B.notSynchronized
  have hS0 : va_S (zA nC b) s.heap s.heap [] := va_S.rf
  have hl := lv_entry ([.ref (b + 32), .long (iL a0)]) (n := 5) (Nat.le_of_ble_eq_true rfl)
  have hent : entryFrame m args 5 = F0 m 0 ((lg_sl ([.ref (b + 32), .long (iL a0)]) ++ List.replicate (5 - (lg_sl ([.ref (b + 32), .long (iL a0)])).length) Slot.unset).toArray) [] := by rw [hargs]; exact lg_entry_eq m ([.ref (b + 32), .long (iL a0)]) 5
  rw [hent]
  generalize (lg_sl ([.ref (b + 32), .long (iL a0)]) ++ List.replicate (5 - (lg_sl ([.ref (b + 32), .long (iL a0)])).length) Slot.unset).toArray = ls at hl ⊢
  have hl : lv_has ls 5 [(0, .ref (b + 32)), (1, .long (iL a0))] := hl
  refine z_iconst hx hb dX9_heardInAll_0 ?_
  refine lv_istore_n (lv' := [(3, .int (iI 0)), (0, .ref (b + 32)), (1, .long (iL a0))]) hx hb dX9_heardInAll_1 rfl hl (by decide) rfl (fun ls hl => ?_)
  refine z_iconst hx hb dX9_heardInAll_2 ?_
  refine lv_istore (lv' := [(4, .int (iI 0)), (3, .int (iI 0)), (0, .ref (b + 32)), (1, .long (iL a0))]) hx hb dX9_heardInAll_3 hl (by decide) rfl (fun ls hl => ?_)
  obtain ⟨I3, ⟨n4, h5⟩, h6⟩ := h
  have L7 : ∀ (n8 : Nat) (x1 x2 : Int) (H : Heap) (locs : List Loc) (ls : Array Slot), I3 n8 x1 x2 → zR D dA vwCl wC nC b M H → va_S (zA nC b) s.heap H locs → lv_has ls 5 [(0, .ref (b + 32)), (1, .long (iL a0)), (3, .int (iI x1)), (4, .int (iI x2))] → W p l e (headSpec (.code yX9_heardInAll cX9_heardInAll 5 (some .int) :: zt) (z_rm 3)).room s m args below meth c H locs 0 0 (MQ below (va_Qi (wQi (fun z9 u9 => u9 = M ∧ Q z9)) (zB D dA vwCl wC nC b) (zA nC b)) args s 0 0 (zA nC b)) (F0 m 5 ls []) := by
    intro n8
    induction n8 using Nat.strongRecOn with
    | ind n8 i9 =>
      intro x1 x2 H locs ls h hS hS0 hl
      have h := h6 n8 x1 x2 h
      refine lv_iload hx hb dX9_heardInAll_5 (lv_at hl 3 rfl) ?_
      refine lv_aload_n hx hb dX9_heardInAll_7 rfl (lv_at hl 0 rfl) ?_
      refine w_geti hx hb hts (z_memU u9) hown hK.1 hS f9_2 (by decide) (zkd_of (rfl : zcd wC 32 = 8) rfl) (Or.inl (hts _ (z_mem k118))) dX9_heardInAll_8 ?_
      refine w_icmp_ge (tgt := 35) hx hb rfl rfl dX9_heardInAll_11 (by decide) (fun c10 => ?_) (fun c10 => ?_)
      · skip
        have h := h.1 c10
        refine lv_iload_n hx hb dX9_heardInAll_35 rfl (lv_at hl 2 rfl) ?_
        exact w_iret hx hb hr hlocks hS hS0 rfl ⟨rfl, h⟩ dX9_heardInAll_36
      · skip
        have h := h.2 c10
        refine lv_iload_n hx hb dX9_heardInAll_14 rfl (lv_at hl 2 rfl) ?_
        refine lv_aload_n hx hb dX9_heardInAll_15 rfl (lv_at hl 0 rfl) ?_
        refine lv_aload_n hx hb dX9_heardInAll_16 rfl (lv_at hl 0 rfl) ?_
        refine w_getr (j2 := 34) hx hb hts (z_memU u9) hown hK.1 hS f9_1 (by decide) (zkd_of (rfl : zcd wC 32 = 8) rfl) (zrf_of (rfl : zcd wC 32 = 8) rfl) (Or.inl (hts _ (z_mem k117))) dX9_heardInAll_17 ?_
        refine lv_iload hx hb dX9_heardInAll_20 (lv_at hl 3 rfl) ?_
        obtain ⟨o11, h⟩ := h
        refine w_aald (n := 4) (i := (sI x2)) (j2 := (41 + 4 * (sI x2).toNat)) hx hb hK.1 (t0 := 6) (r := 6) (by decide) rfl rfl hS (by decide) (zkd_of (rfl : zcd wC 34 = 10) rfl) (zln_of (rfl : zcd wC 34 = 10) rfl) rfl o11.1 o11.2 (by decide) (zrf_of (rfl : zcd wC 34 = 10) rfl) dX9_heardInAll_22 ?_
        obtain ⟨lt12, cd13⟩ : (41 + 4 * (sI x2).toNat) < nC ∧ zcd wC (41 + 4 * (sI x2).toNat) = 14 := (by decide : ∀ k : Nat, k < 4 → (41 + 4 * k) < nC ∧ zcd wC (41 + 4 * k) = 14) (sI x2).toNat (by clear h; have h0 := o11.1; have h1 := o11.2; omega)
        obtain ⟨lt14, cd15, lt16, cd17, lt18, cd19⟩ := nx_ring (41 + 4 * (sI x2).toNat) lt12 cd13
        refine lv_lload_n hx hb dX9_heardInAll_23 rfl (lv_at hl 1 rfl) ?_
        refine w_calli (va_runV (As := [.ref (b + (41 + 4 * (sI x2).toNat)), .long (iL a0)]) (rest := [.int (iI x1)]) ⟨hx, hb, hml, hown, hts⟩ (cC_Studio_heardOf l D dA b M (41 + 4 * (sI x2).toNat) a0 lt12 cd13 _ h) (cwV 2 hts (z_gV k478 k479 k480 k4 k481) rfl rfl rfl dm_X9_heardOf ⟨Nat.le_of_ble_eq_true rfl, Nat.le_of_ble_eq_true rfl⟩) ⟨wPre_blind, (w_recv hS hK.1 (by decide) (zkd_of (rfl : zcd wC 32 = 8) rfl) (by decide) (rfl : vwCl[9]? = some (RX9, TX9, 3))), w_pre hS hK⟩ rfl rfl hl.1 rfl (lv_room (Nat.le_of_ble_eq_true rfl)) dX9_heardInAll_24 ⟨Nat.le_refl _, Nat.le_refl _⟩) hS0 (fun z21 M20 H locs r22 h hS hS0 => ?_)
        obtain ⟨e23, h⟩ := h
        rw [e23] at hS
        refine w_ior hx hb dX9_heardInAll_27 ?_
        refine lv_istore_n (lv' := [(3, .int (iI (orI x1 z21))), (0, .ref (b + 32)), (1, .long (iL a0)), (4, .int (iI x2))]) hx hb dX9_heardInAll_28 rfl hl (by decide) rfl (fun ls hl => ?_)
        refine z_iinc (lv' := [(4, .int (iI (x2 + 1))), (3, .int (iI (orI x1 z21))), (0, .ref (b + 32)), (1, .long (iL a0))]) hx hb dX9_heardInAll_29 hl (k := 3) rfl (by decide) rfl (fun ls hl => ?_)
        refine lv_goto (tgt := 5) hx hb dX9_heardInAll_32 (by decide) ?_
        obtain ⟨n24, h25, h⟩ := h
        exact i9 n24 h25 (orI x1 z21) (x2 + 1) _ _ _ h hS hS0 (lv_sub hl [2, 3, 1, 0] rfl)
  exact L7 n4 0 0 _ _ _ h5 hS hS0 (lv_sub hl [2, 3, 1, 0] rfl)

set_option maxRecDepth 100000 in
def wC_heard (a0 : Int) (a1 : Int) (M : zM) (Q : Int → Prop) : Prop := (0 ≤ (sL a1) → ((sI a0) ≠ (-1) → wC_Studio_find a0 M (fun z4 => (z4 = none → Q (-1)) ∧ (∀ q6, z4 = some q6 → (q6 < nC ∧ zcd wC q6 = 14) ∧ (wC_Studio_heardOf q6 a1 M (fun z16 => Q z16))))) ∧ ((sI a0) = (-1) → wC_Studio_heardInAll a1 M (fun z20 => Q z20))) ∧ ((sL a1) < 0 → Q (-1))
set_option maxHeartbeats 4000000 in
set_option maxRecDepth 100000 in
theorem cC_heard (l : Launch) (D : va_G) (dA : Nat → ClassId) (b : Nat) (M : zM) (a0 : Int) (a1 : Int)  (Q : Int → Prop) (h : wC_heard a0 a1 M Q) : Met l yX11_heard (.code yX11_heard cX11_heard 5 (some .int) :: zt) (z_rm 4) (va_Pc [.ref (b + 0), .int (iI a0), .long (iL a1)] (wPre D dA vwCl (z_tys dA) wC nC b M)) (va_Qi (wQi (fun z9 u9 => u9 = M ∧ Q z9)) (zB D dA vwCl wC nC b) (zA nC b)) 0 0 (zA nC b) := by
  unfold wC_heard at h
  refine Met.ofW (cc := cX11_heard) (maxL := 5) (ret := (some .int)) (by decide) rfl ?_
  intro p e s m args below meth c s₁ B hml hv
  obtain ⟨hargs, hS, hK⟩ := hv
  have hx := B.exec
  have hb := B.bytes
  have hr := B.returns
  have hts := atoms_spec (ws := .code yX11_heard cX11_heard 5 (some .int) :: zt) B.pre
  have hown : s.vm.findClass RX11 = some m.cls := findClass_of_methodNamed B.named
  have hlocks := B.notSynchronized
  have hS0 : va_S (zA nC b) s.heap s.heap [] := va_S.rf
  have hl := lv_entry ([.ref (b + 0), .int (iI a0), .long (iL a1)]) (n := 5) (Nat.le_of_ble_eq_true rfl)
  have hent : entryFrame m args 5 = F0 m 0 ((lg_sl ([.ref (b + 0), .int (iI a0), .long (iL a1)]) ++ List.replicate (5 - (lg_sl ([.ref (b + 0), .int (iI a0), .long (iL a1)])).length) Slot.unset).toArray) [] := by rw [hargs]; exact lg_entry_eq m ([.ref (b + 0), .int (iI a0), .long (iL a1)]) 5
  rw [hent]
  generalize (lg_sl ([.ref (b + 0), .int (iI a0), .long (iL a1)]) ++ List.replicate (5 - (lg_sl ([.ref (b + 0), .int (iI a0), .long (iL a1)])).length) Slot.unset).toArray = ls at hl ⊢
  have hl : lv_has ls 5 [(0, .ref (b + 0)), (1, .int (iI a0)), (2, .long (iL a1))] := hl
  refine lv_lload_n hx hb dX11_heard_0 rfl (lv_at hl 2 rfl) ?_
  refine z_lconst0 hx hb dX11_heard_1 ?_
  refine w_lcmp_ge hx hb rfl (sL_of (by decide)) dX11_heard_2 dX11_heard_3 (tgt := 8) (by decide) (fun c1 => ?_) (fun c1 => ?_)
  · skip
    have h := h.1 c1
    refine lv_iload_n hx hb dX11_heard_8 rfl (lv_at hl 1 rfl) ?_
    refine z_iconst hx hb dX11_heard_9 ?_
    refine w_icmp_ne (tgt := 22) hx hb rfl (sI_of (by decide)) dX11_heard_10 (by decide) (fun c2 => ?_) (fun c2 => ?_)
    · skip
      have h := h.1 c2
      refine lv_aload_n hx hb dX11_heard_22 rfl (lv_at hl 0 rfl) ?_
      refine w_getr (j2 := 32) hx hb hts (z_memU u11) hown hK.1 hS f11_2 (by decide) (zkd_of (rfl : zcd wC 0 = 0) rfl) (zrf_of (rfl : zcd wC 0 = 0) rfl) (Or.inl (hts _ (z_mem k244))) dX11_heard_23 ?_
      refine lv_iload_n hx hb dX11_heard_26 rfl (lv_at hl 1 rfl) ?_
      refine w_callq (va_runV (As := [.int (iI a0)]) (rest := []) ⟨hx, hb, hml, hown, hts⟩ (cC_Studio_find l D dA b M a0 _ h) (cwV 1 hts (z_gV k411 k412 k413 k4 k414) rfl rfl rfl dm_X9_find ⟨Nat.le_of_ble_eq_true rfl, Nat.le_of_ble_eq_true rfl⟩) ⟨wPre_blind, (w_recv hS hK.1 (by decide) (zkd_of (rfl : zcd wC 32 = 8) rfl) (by decide) (rfl : vwCl[9]? = some (RX9, TX9, 3))), w_pre hS hK⟩ rfl rfl hl.1 rfl (lv_room (Nat.le_of_ble_eq_true rfl)) dX11_heard_27 ⟨Nat.le_refl _, Nat.le_refl _⟩) hS0 (fun z4 M3 H locs h hS hS0 => ?_)
      obtain ⟨e5, h⟩ := h
      rw [e5] at hS
      rcases z4 with _ | q6
      · skip
        have h := h.1 rfl
        refine lv_astoreN (lv' := [(4, .null), (0, .ref (b + 0)), (1, .int (iI a0)), (2, .long (iL a1))]) hx hb dX11_heard_30 hl (by decide) rfl (fun ls hl => ?_)
        refine lv_aloadN hx hb dX11_heard_32 (lv_at hl 0 rfl) ?_
        refine lv_ifnonnullN hx hb dX11_heard_34 ?_
        refine z_iconst hx hb dX11_heard_37 ?_
        refine lv_goto (tgt := 51) hx hb dX11_heard_38 (by decide) ?_
        exact w_iret hx hb hr hlocks hS hS0 (sI_of (by decide)) ⟨rfl, h⟩ dX11_heard_51
      · skip
        obtain ⟨⟨lt7, cd8⟩, h⟩ := h.2 q6 rfl
        obtain ⟨lt9, cd10, lt11, cd12, lt13, cd14⟩ := nx_ring q6 lt7 cd8
        refine lv_astore (lv' := [(4, .ref (b + q6)), (0, .ref (b + 0)), (1, .int (iI a0)), (2, .long (iL a1))]) hx hb dX11_heard_30 hl (by decide) rfl (fun ls hl => ?_)
        refine lv_aload hx hb dX11_heard_32 (lv_at hl 0 rfl) ?_
        refine lv_ifnonnull (tgt := 41) hx hb dX11_heard_34 (by decide) ?_
        refine lv_aload_n hx hb dX11_heard_41 rfl (lv_at hl 1 rfl) ?_
        refine w_getr (j2 := 32) hx hb hts (z_memU u11) hown hK.1 hS f11_2 (by decide) (zkd_of (rfl : zcd wC 0 = 0) rfl) (zrf_of (rfl : zcd wC 0 = 0) rfl) (Or.inl (hts _ (z_mem k244))) dX11_heard_42 ?_
        refine lv_aload hx hb dX11_heard_45 (lv_at hl 0 rfl) ?_
        refine lv_lload_n hx hb dX11_heard_47 rfl (lv_at hl 3 rfl) ?_
        refine w_calli (va_runV (As := [.ref (b + q6), .long (iL a1)]) (rest := []) ⟨hx, hb, hml, hown, hts⟩ (cC_Studio_heardOf l D dA b M q6 a1 lt7 cd8 _ h) (cwV 2 hts (z_gV k506 k479 k480 k4 k481) rfl rfl rfl dm_X9_heardOf ⟨Nat.le_of_ble_eq_true rfl, Nat.le_of_ble_eq_true rfl⟩) ⟨wPre_blind, (w_recv hS hK.1 (by decide) (zkd_of (rfl : zcd wC 32 = 8) rfl) (by decide) (rfl : vwCl[9]? = some (RX9, TX9, 3))), w_pre hS hK⟩ rfl rfl hl.1 rfl (lv_room (Nat.le_of_ble_eq_true rfl)) dX11_heard_48 ⟨Nat.le_refl _, Nat.le_refl _⟩) hS0 (fun z16 M15 H locs r17 h hS hS0 => ?_)
        obtain ⟨e18, h⟩ := h
        rw [e18] at hS
        exact w_iret hx hb hr hlocks hS hS0 (sI_of r17) ⟨rfl, h⟩ dX11_heard_51
    · skip
      have h := h.2 c2
      refine lv_aload_n hx hb dX11_heard_13 rfl (lv_at hl 0 rfl) ?_
      refine w_getr (j2 := 32) hx hb hts (z_memU u11) hown hK.1 hS f11_2 (by decide) (zkd_of (rfl : zcd wC 0 = 0) rfl) (zrf_of (rfl : zcd wC 0 = 0) rfl) (Or.inl (hts _ (z_mem k244))) dX11_heard_14 ?_
      refine lv_lload_n hx hb dX11_heard_17 rfl (lv_at hl 2 rfl) ?_
      refine w_calli (va_runV (As := [.long (iL a1)]) (rest := []) ⟨hx, hb, hml, hown, hts⟩ (cC_Studio_heardInAll l D dA b M a1 _ h) (cwV 1 hts (z_gV k474 k475 k476 k4 k477) rfl rfl rfl dm_X9_heardInAll ⟨Nat.le_of_ble_eq_true rfl, Nat.le_of_ble_eq_true rfl⟩) ⟨wPre_blind, (w_recv hS hK.1 (by decide) (zkd_of (rfl : zcd wC 32 = 8) rfl) (by decide) (rfl : vwCl[9]? = some (RX9, TX9, 3))), w_pre hS hK⟩ rfl rfl hl.1 rfl (lv_room (Nat.le_of_ble_eq_true rfl)) dX11_heard_18 ⟨Nat.le_refl _, Nat.le_refl _⟩) hS0 (fun z20 M19 H locs r21 h hS hS0 => ?_)
      obtain ⟨e22, h⟩ := h
      rw [e22] at hS
      exact w_iret hx hb hr hlocks hS hS0 (sI_of r21) ⟨rfl, h⟩ dX11_heard_21
  · skip
    have h := h.2 c1
    refine z_iconst hx hb dX11_heard_6 ?_
    exact w_iret hx hb hr hlocks hS hS0 (sI_of (by decide)) ⟨rfl, h⟩ dX11_heard_7

set_option maxRecDepth 100000 in
def wC_Studio_steady  (M : zM) (Q : Int → Prop) : Prop := wC_Motor_steady 35 M (fun z2 => wC_Motor_steady 38 M (fun z6 => Q (max z2 z6)))
set_option maxHeartbeats 4000000 in
set_option maxRecDepth 100000 in
theorem cC_Studio_steady (l : Launch) (D : va_G) (dA : Nat → ClassId) (b : Nat) (M : zM)   (Q : Int → Prop) (h : wC_Studio_steady  M Q) : Met l yX9_steady (.code yX9_steady cX9_steady 1 (some .int) :: zt) (z_rm 1) (va_Pc [.ref (b + 32)] (wPre D dA vwCl (z_tys dA) wC nC b M)) (va_Qi (wQi (fun z9 u9 => u9 = M ∧ Q z9)) (zB D dA vwCl wC nC b) (zA nC b)) 0 0 (zA nC b) := by
  unfold wC_Studio_steady at h
  refine Met.ofW (cc := cX9_steady) (maxL := 1) (ret := (some .int)) (by decide) rfl ?_
  intro p e s m args below meth c s₁ B hml hv
  obtain ⟨hargs, hS, hK⟩ := hv
  have hx := B.exec
  have hb := B.bytes
  have hr := B.returns
  have hts := atoms_spec (ws := .code yX9_steady cX9_steady 1 (some .int) :: zt) B.pre
  have hown : s.vm.findClass RX9 = some m.cls := findClass_of_methodNamed B.named
  have hlocks := B.notSynchronized
  have hS0 : va_S (zA nC b) s.heap s.heap [] := va_S.rf
  have hl := lv_entry ([.ref (b + 32)]) (n := 1) (Nat.le_of_ble_eq_true rfl)
  have hent : entryFrame m args 1 = F0 m 0 ((lg_sl ([.ref (b + 32)]) ++ List.replicate (1 - (lg_sl ([.ref (b + 32)])).length) Slot.unset).toArray) [] := by rw [hargs]; exact lg_entry_eq m ([.ref (b + 32)]) 1
  rw [hent]
  generalize (lg_sl ([.ref (b + 32)]) ++ List.replicate (1 - (lg_sl ([.ref (b + 32)])).length) Slot.unset).toArray = ls at hl ⊢
  have hl : lv_has ls 1 [(0, .ref (b + 32))] := hl
  refine lv_aload_n hx hb dX9_steady_0 rfl (lv_at hl 0 rfl) ?_
  refine w_getr (j2 := 33) hx hb hts (z_memU u9) hown hK.1 hS f9_0 (by decide) (zkd_of (rfl : zcd wC 32 = 8) rfl) (zrf_of (rfl : zcd wC 32 = 8) rfl) (Or.inl (hts _ (z_mem k116))) dX9_steady_1 ?_
  refine z_iconst hx hb dX9_steady_4 ?_
  refine w_aald (n := 2) (i := 0) (j2 := 35) hx hb hK.1 (t0 := 5) (r := 5) (by decide) rfl rfl hS (by decide) (zkd_of (rfl : zcd wC 33 = 9) rfl) (zln_of (rfl : zcd wC 33 = 9) rfl) (sI_of (by decide)) (by decide) (by decide) (by decide) (zrf_of (rfl : zcd wC 33 = 9) rfl) dX9_steady_5 ?_
  refine w_calli (va_runV (As := []) (rest := []) ⟨hx, hb, hml, hown, hts⟩ (cC_Motor_steady l D dA b M 35 (by decide) (rfl : zcd wC 35 = 11) _ h) (cwV 0 hts (z_gV k519 k488 k489 k5 k490) rfl rfl rfl dm_X2_steady ⟨Nat.le_of_ble_eq_true rfl, Nat.le_of_ble_eq_true rfl⟩) ⟨wPre_blind, (w_recv hS hK.1 (by decide) (zkd_of (rfl : zcd wC 35 = 11) rfl) (by decide) (rfl : vwCl[2]? = some (RX2, TX2, 3))), w_pre hS hK⟩ rfl rfl hl.1 rfl (lv_room (Nat.le_of_ble_eq_true rfl)) dX9_steady_6 ⟨Nat.le_refl _, Nat.le_refl _⟩) hS0 (fun z2 M1 H locs r3 h hS hS0 => ?_)
  obtain ⟨e4, h⟩ := h
  rw [e4] at hS
  refine lv_aload_n hx hb dX9_steady_9 rfl (lv_at hl 0 rfl) ?_
  refine w_getr (j2 := 33) hx hb hts (z_memU u9) hown hK.1 hS f9_0 (by decide) (zkd_of (rfl : zcd wC 32 = 8) rfl) (zrf_of (rfl : zcd wC 32 = 8) rfl) (Or.inl (hts _ (z_mem k116))) dX9_steady_10 ?_
  refine z_iconst hx hb dX9_steady_13 ?_
  refine w_aald (n := 2) (i := 1) (j2 := 38) hx hb hK.1 (t0 := 5) (r := 5) (by decide) rfl rfl hS (by decide) (zkd_of (rfl : zcd wC 33 = 9) rfl) (zln_of (rfl : zcd wC 33 = 9) rfl) (sI_of (by decide)) (by decide) (by decide) (by decide) (zrf_of (rfl : zcd wC 33 = 9) rfl) dX9_steady_14 ?_
  refine w_calli (va_runV (As := []) (rest := [.int (iI z2)]) ⟨hx, hb, hml, hown, hts⟩ (cC_Motor_steady l D dA b M 38 (by decide) (rfl : zcd wC 38 = 11) _ h) (cwV 0 hts (z_gV k519 k488 k489 k5 k490) rfl rfl rfl dm_X2_steady ⟨Nat.le_of_ble_eq_true rfl, Nat.le_of_ble_eq_true rfl⟩) ⟨wPre_blind, (w_recv hS hK.1 (by decide) (zkd_of (rfl : zcd wC 38 = 11) rfl) (by decide) (rfl : vwCl[2]? = some (RX2, TX2, 3))), w_pre hS hK⟩ rfl rfl hl.1 rfl (lv_room (Nat.le_of_ble_eq_true rfl)) dX9_steady_15 ⟨Nat.le_refl _, Nat.le_refl _⟩) hS0 (fun z6 M5 H locs r7 h hS hS0 => ?_)
  obtain ⟨e8, h⟩ := h
  rw [e8] at hS
  refine w_mmax hx hb (hml.trans hl.1.symm) hown (hts _ (z_mem k520)) (hts _ (z_mem k341)) (hts _ (z_mem k15)) (hts _ (z_mem k342)) (by exact Nat.le_of_ble_eq_true rfl) (by exact Nat.le_of_ble_eq_true rfl) (by exact Nat.le_refl _) (by exact Nat.le_refl _) (sI_of r3) (sI_of r7) dX9_steady_18 ?_
  exact w_iret hx hb hr hlocks hS hS0 (sI_of (R_max (sI_c (x := z2) (sI_of r3)) (sI_c (x := z6) (sI_of r7)))) ⟨rfl, h⟩ dX9_steady_21

set_option maxRecDepth 100000 in
def wC_Studio_grants (a0 : Nat) (a1 : Int) (M : zM) (Q : Int → Prop) : Prop := wC_Studio_heardOf a0 a1 M (fun z8 => ((andI (M a0 4) (xorI z8 (-1))) ≠ 0 → Q 0) ∧ ((andI (M a0 4) (xorI z8 (-1))) = 0 → Q 1))
set_option maxHeartbeats 4000000 in
set_option maxRecDepth 100000 in
theorem cC_Studio_grants (l : Launch) (D : va_G) (dA : Nat → ClassId) (b : Nat) (M : zM) (a0 : Nat) (a1 : Int) (lt_a0 : a0 < nC) (cd_a0 : zcd wC a0 = 14) (Q : Int → Prop) (h : wC_Studio_grants a0 a1 M Q) : Met l yX9_grants (.code yX9_grants cX9_grants 4 (some .boolean) :: zt) (z_rm 3) (va_Pc [.ref (b + 32), .ref (b + a0), .long (iL a1)] (wPre D dA vwCl (z_tys dA) wC nC b M)) (va_Qi (wQz (fun z9 u9 => u9 = M ∧ Q z9)) (zB D dA vwCl wC nC b) (zA nC b)) 0 0 (zA nC b) := by
  unfold wC_Studio_grants at h
  refine Met.ofW (cc := cX9_grants) (maxL := 4) (ret := (some .boolean)) (by decide) rfl ?_
  intro p e s m args below meth c s₁ B hml hv
  obtain ⟨hargs, hS, hK⟩ := hv
  have hx := B.exec
  have hb := B.bytes
  have hr := B.returns
  have hts := atoms_spec (ws := .code yX9_grants cX9_grants 4 (some .boolean) :: zt) B.pre
  have hown : s.vm.findClass RX9 = some m.cls := findClass_of_methodNamed B.named
  have hlocks := B.notSynchronized
  have hS0 : va_S (zA nC b) s.heap s.heap [] := va_S.rf
  have hl := lv_entry ([.ref (b + 32), .ref (b + a0), .long (iL a1)]) (n := 4) (Nat.le_of_ble_eq_true rfl)
  have hent : entryFrame m args 4 = F0 m 0 ((lg_sl ([.ref (b + 32), .ref (b + a0), .long (iL a1)]) ++ List.replicate (4 - (lg_sl ([.ref (b + 32), .ref (b + a0), .long (iL a1)])).length) Slot.unset).toArray) [] := by rw [hargs]; exact lg_entry_eq m ([.ref (b + 32), .ref (b + a0), .long (iL a1)]) 4
  rw [hent]
  generalize (lg_sl ([.ref (b + 32), .ref (b + a0), .long (iL a1)]) ++ List.replicate (4 - (lg_sl ([.ref (b + 32), .ref (b + a0), .long (iL a1)])).length) Slot.unset).toArray = ls at hl ⊢
  have hl : lv_has ls 4 [(0, .ref (b + 32)), (1, .ref (b + a0)), (2, .long (iL a1))] := hl
  obtain ⟨lt1, cd2, lt3, cd4, lt5, cd6⟩ := nx_ring a0 lt_a0 cd_a0
  refine lv_aload_n hx hb dX9_grants_0 rfl (lv_at hl 1 rfl) ?_
  refine w_geti hx hb hts (z_memU u6) hown hK.1 hS f6_4 lt_a0 (zkd_of cd_a0 rfl) (Or.inl (hts _ (z_mem k107))) dX9_grants_1 ?_
  refine lv_aload_n hx hb dX9_grants_4 rfl (lv_at hl 0 rfl) ?_
  refine lv_aload_n hx hb dX9_grants_5 rfl (lv_at hl 1 rfl) ?_
  refine lv_lload_n hx hb dX9_grants_6 rfl (lv_at hl 2 rfl) ?_
  refine w_calli (va_runV (As := [.ref (b + a0), .long (iL a1)]) (rest := [.int (iI (M a0 4))]) ⟨hx, hb, hml, hown, hts⟩ (cC_Studio_heardOf l D dA b M a0 a1 lt_a0 cd_a0 _ h) (cwV 2 hts (z_gV k478 k479 k480 k4 k481) rfl rfl rfl dm_X9_heardOf ⟨Nat.le_of_ble_eq_true rfl, Nat.le_of_ble_eq_true rfl⟩) ⟨wPre_blind, (w_recv hS hK.1 (by decide) (zkd_of (rfl : zcd wC 32 = 8) rfl) (by decide) (rfl : vwCl[9]? = some (RX9, TX9, 3))), w_pre hS hK⟩ rfl rfl hl.1 rfl (lv_room (Nat.le_of_ble_eq_true rfl)) dX9_grants_7 ⟨Nat.le_refl _, Nat.le_refl _⟩) hS0 (fun z8 M7 H locs r9 h hS hS0 => ?_)
  obtain ⟨e10, h⟩ := h
  rw [e10] at hS
  refine z_iconst hx hb dX9_grants_10 ?_
  refine w_ixor hx hb dX9_grants_11 ?_
  refine w_iand hx hb dX9_grants_12 ?_
  refine w_if_ne (tgt := 20) hx hb (sI_of (andI_R _ _)) dX9_grants_13 (by decide) (fun c11 => ?_) (fun c11 => ?_)
  · skip
    have h := h.1 c11
    refine z_iconst hx hb dX9_grants_20 ?_
    exact w_zret hx hb hr hlocks hS hS0 (sI_of (by decide)) (by decide) ⟨rfl, h⟩ dX9_grants_21
  · skip
    have h := h.2 c11
    refine z_iconst hx hb dX9_grants_16 ?_
    refine lv_goto (tgt := 21) hx hb dX9_grants_17 (by decide) ?_
    exact w_zret hx hb hr hlocks hS hS0 (sI_of (by decide)) (by decide) ⟨rfl, h⟩ dX9_grants_21

set_option maxRecDepth 100000 in
def wC_Meeting_turnsOf (a1 : Nat) (a2 : Int) (M : zM) (Q : Int → Prop) : Prop := pL2 (fun K6 x7 x8 => ((sI a2) ≤ (sI x8) → Q (sI x7)) ∧ ((sI x8) < (sI a2) → wC_Studio_grants a1 ((M 57 1) + (sI x8)) M (fun z18 => (z18 = 0 → K6 x7 (x8 + 1)) ∧ (z18 ≠ 0 → K6 (orI x7 (shlI 1 x8)) (x8 + 1))))) 0 0
set_option maxHeartbeats 4000000 in
set_option maxRecDepth 100000 in
theorem cC_Meeting_turnsOf (l : Launch) (D : va_G) (dA : Nat → ClassId) (b : Nat) (M : zM) (a1 : Nat) (a2 : Int) (lt_a1 : a1 < nC) (cd_a1 : zcd wC a1 = 14) (Q : Int → Prop) (h : wC_Meeting_turnsOf a1 a2 M Q) : Met l yX1_turnsOf (.code yX1_turnsOf cX1_turnsOf 6 (some .int) :: zt) (z_rm 4) (va_Pc [.ref (b + 57), .ref (b + 32), .ref (b + a1), .int (iI a2)] (wPre D dA vwCl (z_tys dA) wC nC b M)) (va_Qi (wQi (fun z9 u9 => u9 = M ∧ Q z9)) (zB D dA vwCl wC nC b) (zA nC b)) 0 0 (zA nC b) := by
  unfold wC_Meeting_turnsOf at h
  refine Met.ofW (cc := cX1_turnsOf) (maxL := 6) (ret := (some .int)) (by decide) rfl ?_
  intro p e s m args below meth c s₁ B hml hv
  obtain ⟨hargs, hS, hK⟩ := hv
  have hx := B.exec
  have hb := B.bytes
  have hr := B.returns
  have hts := atoms_spec (ws := .code yX1_turnsOf cX1_turnsOf 6 (some .int) :: zt) B.pre
  have hown : s.vm.findClass RX1 = some m.cls := findClass_of_methodNamed B.named
  have hlocks := B.notSynchronized
  have hS0 : va_S (zA nC b) s.heap s.heap [] := va_S.rf
  have hl := lv_entry ([.ref (b + 57), .ref (b + 32), .ref (b + a1), .int (iI a2)]) (n := 6) (Nat.le_of_ble_eq_true rfl)
  have hent : entryFrame m args 6 = F0 m 0 ((lg_sl ([.ref (b + 57), .ref (b + 32), .ref (b + a1), .int (iI a2)]) ++ List.replicate (6 - (lg_sl ([.ref (b + 57), .ref (b + 32), .ref (b + a1), .int (iI a2)])).length) Slot.unset).toArray) [] := by rw [hargs]; exact lg_entry_eq m ([.ref (b + 57), .ref (b + 32), .ref (b + a1), .int (iI a2)]) 6
  rw [hent]
  generalize (lg_sl ([.ref (b + 57), .ref (b + 32), .ref (b + a1), .int (iI a2)]) ++ List.replicate (6 - (lg_sl ([.ref (b + 57), .ref (b + 32), .ref (b + a1), .int (iI a2)])).length) Slot.unset).toArray = ls at hl ⊢
  have hl : lv_has ls 6 [(0, .ref (b + 57)), (1, .ref (b + 32)), (2, .ref (b + a1)), (3, .int (iI a2))] := hl
  obtain ⟨lt1, cd2, lt3, cd4, lt5, cd6⟩ := nx_ring a1 lt_a1 cd_a1
  refine z_iconst hx hb dX1_turnsOf_0 ?_
  refine lv_istore (lv' := [(4, .int (iI 0)), (0, .ref (b + 57)), (1, .ref (b + 32)), (2, .ref (b + a1)), (3, .int (iI a2))]) hx hb dX1_turnsOf_1 hl (by decide) rfl (fun ls hl => ?_)
  refine z_iconst hx hb dX1_turnsOf_3 ?_
  refine lv_istore (lv' := [(5, .int (iI 0)), (4, .int (iI 0)), (0, .ref (b + 57)), (1, .ref (b + 32)), (2, .ref (b + a1)), (3, .int (iI a2))]) hx hb dX1_turnsOf_4 hl (by decide) rfl (fun ls hl => ?_)
  obtain ⟨I9, ⟨n10, h11⟩, h12⟩ := h
  have L13 : ∀ (n14 : Nat) (x7 x8 : Int) (H : Heap) (locs : List Loc) (ls : Array Slot), I9 n14 x7 x8 → zR D dA vwCl wC nC b M H → va_S (zA nC b) s.heap H locs → lv_has ls 6 [(0, .ref (b + 57)), (1, .ref (b + 32)), (2, .ref (b + a1)), (3, .int (iI a2)), (4, .int (iI x7)), (5, .int (iI x8))] → W p l e (headSpec (.code yX1_turnsOf cX1_turnsOf 6 (some .int) :: zt) (z_rm 4)).room s m args below meth c H locs 0 0 (MQ below (va_Qi (wQi (fun z9 u9 => u9 = M ∧ Q z9)) (zB D dA vwCl wC nC b) (zA nC b)) args s 0 0 (zA nC b)) (F0 m 6 ls []) := by
    intro n14
    induction n14 using Nat.strongRecOn with
    | ind n14 i15 =>
      intro x7 x8 H locs ls h hS hS0 hl
      have h := h12 n14 x7 x8 h
      refine lv_iload hx hb dX1_turnsOf_6 (lv_at hl 5 rfl) ?_
      refine lv_iload_n hx hb dX1_turnsOf_8 rfl (lv_at hl 3 rfl) ?_
      refine w_icmp_ge (tgt := 43) hx hb rfl rfl dX1_turnsOf_9 (by decide) (fun c16 => ?_) (fun c16 => ?_)
      · skip
        have h := h.1 c16
        refine lv_iload hx hb dX1_turnsOf_43 (lv_at hl 4 rfl) ?_
        exact w_iret hx hb hr hlocks hS hS0 rfl ⟨rfl, h⟩ dX1_turnsOf_45
      · skip
        have h := h.2 c16
        refine lv_aload_n hx hb dX1_turnsOf_12 rfl (lv_at hl 1 rfl) ?_
        refine lv_aload_n hx hb dX1_turnsOf_13 rfl (lv_at hl 2 rfl) ?_
        refine lv_aload_n hx hb dX1_turnsOf_14 rfl (lv_at hl 0 rfl) ?_
        refine w_getl hx hb hts (z_memU u1) hown hK.1 hS f1_1 (by decide) (zkd_of (rfl : zcd wC 57 = 16) rfl) (Or.inl (hts _ (z_mem k130))) dX1_turnsOf_15 ?_
        refine lv_iload hx hb dX1_turnsOf_18 (lv_at hl 5 rfl) ?_
        refine w_i2l hx hb rfl dX1_turnsOf_20 ?_
        refine z_ladd hx hb dX1_turnsOf_21 ?_
        refine w_callz (va_runV (As := [.ref (b + a1), .long (iL ((M 57 1) + (sI x8)))]) (rest := []) ⟨hx, hb, hml, hown, hts⟩ (cC_Studio_grants l D dA b M a1 ((M 57 1) + (sI x8)) lt_a1 cd_a1 _ h) (cwV 2 hts (z_gV k538 k539 k540 k4 k541) rfl rfl rfl dm_X9_grants ⟨Nat.le_of_ble_eq_true rfl, Nat.le_of_ble_eq_true rfl⟩) ⟨wPre_blind, (w_recv hS hK.1 (by decide) (zkd_of (rfl : zcd wC 32 = 8) rfl) (by decide) (rfl : vwCl[9]? = some (RX9, TX9, 3))), w_pre hS hK⟩ rfl rfl hl.1 rfl (lv_room (Nat.le_of_ble_eq_true rfl)) dX1_turnsOf_22 ⟨Nat.le_refl _, Nat.le_refl _⟩) hS0 (fun z18 M17 H locs r19 h hS hS0 => ?_)
        obtain ⟨e20, h⟩ := h
        rw [e20] at hS
        refine w_if_eq (tgt := 37) hx hb (sI_01 r19) dX1_turnsOf_25 (by decide) (fun c21 => ?_) (fun c21 => ?_)
        · skip
          have h := h.1 c21
          refine z_iinc (lv' := [(5, .int (iI (x8 + 1))), (0, .ref (b + 57)), (1, .ref (b + 32)), (2, .ref (b + a1)), (3, .int (iI a2)), (4, .int (iI x7))]) hx hb dX1_turnsOf_37 hl (k := 5) rfl (by decide) rfl (fun ls hl => ?_)
          refine lv_goto (tgt := 6) hx hb dX1_turnsOf_40 (by decide) ?_
          obtain ⟨n22, h23, h⟩ := h
          exact i15 n22 h23 x7 (x8 + 1) _ _ _ h hS hS0 (lv_sub hl [1, 2, 3, 4, 5, 0] rfl)
        · skip
          have h := h.2 c21
          refine lv_iload hx hb dX1_turnsOf_28 (lv_at hl 4 rfl) ?_
          refine z_iconst hx hb dX1_turnsOf_30 ?_
          refine lv_iload hx hb dX1_turnsOf_31 (lv_at hl 5 rfl) ?_
          refine w_ishl hx hb dX1_turnsOf_33 ?_
          refine w_ior hx hb dX1_turnsOf_34 ?_
          refine lv_istore (lv' := [(4, .int (iI (orI x7 (shlI 1 x8)))), (0, .ref (b + 57)), (1, .ref (b + 32)), (2, .ref (b + a1)), (3, .int (iI a2)), (5, .int (iI x8))]) hx hb dX1_turnsOf_35 hl (by decide) rfl (fun ls hl => ?_)
          refine z_iinc (lv' := [(5, .int (iI (x8 + 1))), (4, .int (iI (orI x7 (shlI 1 x8)))), (0, .ref (b + 57)), (1, .ref (b + 32)), (2, .ref (b + a1)), (3, .int (iI a2))]) hx hb dX1_turnsOf_37 hl (k := 5) rfl (by decide) rfl (fun ls hl => ?_)
          refine lv_goto (tgt := 6) hx hb dX1_turnsOf_40 (by decide) ?_
          obtain ⟨n24, h25, h⟩ := h
          exact i15 n24 h25 (orI x7 (shlI 1 x8)) (x8 + 1) _ _ _ h hS hS0 (lv_sub hl [2, 3, 4, 5, 1, 0] rfl)
  exact L13 n10 0 0 _ _ _ h11 hS hS0 (lv_sub hl [2, 3, 4, 5, 1, 0] rfl)

set_option maxRecDepth 100000 in
def wC_Meeting_look  (M : zM) (Q : zM → Prop) : Prop := wC_Studio_steady  M (fun z2 => (∀ M5 : zM, M5 = zup M 57 1 z2 → (∀ M7 : zM, M7 = zup M5 57 0 0 → wL1 (fun K16 x9 M10 => (4 ≤ (sI x9) → Q M10) ∧ ((sI x9) < 4 → wC_Studio_find x9 M10 (fun z20 => (z20 = none → K16 (x9 + 1) M10) ∧ (∀ q22, z20 = some q22 → (q22 < nC ∧ zcd wC q22 = 14) ∧ (wC_Studio_roundOf q22 M10 (fun z34 => ((0 ≤ (sI x9) ∧ (sI x9) < 4) ∧ (∀ M38 : zM, M38 = zup M10 58 (sI x9).toNat z34 → ((0 ≤ (sI x9) ∧ (sI x9) < 4) ∧ wC_Meeting_turnsOf q22 (M38 58 (sI x9).toNat) M38 (fun z42 => ((0 ≤ (sI x9) ∧ (sI x9) < 4) ∧ (∀ M46 : zM, M46 = zup M38 59 (sI x9).toNat z42 → (∀ M48 : zM, M48 = zup M46 57 0 ((M46 57 0) + 1) → K16 (x9 + 1) M48))))))))))))) 0 M7)))
set_option maxHeartbeats 4000000 in
set_option maxRecDepth 100000 in
theorem cC_Meeting_look (l : Launch) (D : va_G) (dA : Nat → ClassId) (b : Nat) (M : zM)   (Q : zM → Prop) (h : wC_Meeting_look  M Q) : Met l yX1_look (.code yX1_look cX1_look 4 none :: zt) (z_rm 5) (va_Pc [.ref (b + 57), .ref (b + 32)] (wPre D dA vwCl (z_tys dA) wC nC b M)) (va_Qv (wQv Q) (zB D dA vwCl wC nC b) (zA nC b)) 0 0 (zA nC b) := by
  unfold wC_Meeting_look at h
  refine Met.ofW (cc := cX1_look) (maxL := 4) (ret := none) (by decide) rfl ?_
  intro p e s m args below meth c s₁ B hml hv
  obtain ⟨hargs, hS, hK⟩ := hv
  have hx := B.exec
  have hb := B.bytes
  have hr := B.returns
  have hts := atoms_spec (ws := .code yX1_look cX1_look 4 none :: zt) B.pre
  have hown : s.vm.findClass RX1 = some m.cls := findClass_of_methodNamed B.named
  have hlocks := B.notSynchronized
  have hS0 : va_S (zA nC b) s.heap s.heap [] := va_S.rf
  have hl := lv_entry ([.ref (b + 57), .ref (b + 32)]) (n := 4) (Nat.le_of_ble_eq_true rfl)
  have hent : entryFrame m args 4 = F0 m 0 ((lg_sl ([.ref (b + 57), .ref (b + 32)]) ++ List.replicate (4 - (lg_sl ([.ref (b + 57), .ref (b + 32)])).length) Slot.unset).toArray) [] := by rw [hargs]; exact lg_entry_eq m ([.ref (b + 57), .ref (b + 32)]) 4
  rw [hent]
  generalize (lg_sl ([.ref (b + 57), .ref (b + 32)]) ++ List.replicate (4 - (lg_sl ([.ref (b + 57), .ref (b + 32)])).length) Slot.unset).toArray = ls at hl ⊢
  have hl : lv_has ls 4 [(0, .ref (b + 57)), (1, .ref (b + 32))] := hl
  refine lv_aload_n hx hb dX1_look_0 rfl (lv_at hl 0 rfl) ?_
  refine lv_aload_n hx hb dX1_look_1 rfl (lv_at hl 1 rfl) ?_
  refine w_calli (va_runV (As := []) (rest := [.ref (b + 57)]) ⟨hx, hb, hml, hown, hts⟩ (cC_Studio_steady l D dA b M  _ h) (cwV 0 hts (z_gV k515 k516 k517 k4 k518) rfl rfl rfl dm_X9_steady ⟨Nat.le_of_ble_eq_true rfl, Nat.le_of_ble_eq_true rfl⟩) ⟨wPre_blind, (w_recv hS hK.1 (by decide) (zkd_of (rfl : zcd wC 32 = 8) rfl) (by decide) (rfl : vwCl[9]? = some (RX9, TX9, 3))), w_pre hS hK⟩ rfl rfl hl.1 rfl (lv_room (Nat.le_of_ble_eq_true rfl)) dX1_look_2 ⟨Nat.le_refl _, Nat.le_refl _⟩) hS0 (fun z2 M1 H locs r3 h hS hS0 => ?_)
  obtain ⟨e4, h⟩ := h
  rw [e4] at hS
  refine w_i2l hx hb (sI_of r3) dX1_look_5 ?_
  refine w_putl hx hb hts (z_memU u1) tyX1 tyX1_ok nmX1 hown hK.1 hS hS0 f1_1 (by decide) (zkd_of (rfl : zcd wC 57 = 16) rfl) (Or.inl (hts _ (z_mem k130))) rfl (z := z2) (by decide +kernel) dX1_look_6 (fun H locs hS hS0 => ?_)
  obtain ⟨M5, e6⟩ : ∃ M5 : zM, M5 = zup M 57 1 z2 := ⟨_, rfl⟩
  rw [← e6] at hS
  have h := h M5 e6
  refine lv_aload_n hx hb dX1_look_9 rfl (lv_at hl 0 rfl) ?_
  refine z_iconst hx hb dX1_look_10 ?_
  refine w_puti hx hb hts (z_memU u1) tyX1 tyX1_ok nmX1 hown hK.1 hS hS0 f1_0 (by decide) (zkd_of (rfl : zcd wC 57 = 16) rfl) (Or.inl (hts _ (z_mem k129))) rfl (z := 0) (by decide +kernel) dX1_look_11 (fun H locs hS hS0 => ?_)
  obtain ⟨M7, e8⟩ : ∃ M7 : zM, M7 = zup M5 57 0 0 := ⟨_, rfl⟩
  rw [← e8] at hS
  have h := h M7 e8
  refine z_iconst hx hb dX1_look_14 ?_
  refine lv_istore_n (lv' := [(2, .int (iI 0)), (0, .ref (b + 57)), (1, .ref (b + 32))]) hx hb dX1_look_15 rfl hl (by decide) rfl (fun ls hl => ?_)
  obtain ⟨I11, ⟨n12, h13⟩, h14⟩ := h
  have L15 : ∀ (n16 : Nat) (x9 : Int) (M10 : zM) (H : Heap) (locs : List Loc) (ls : Array Slot), I11 n16 x9 M10 → zR D dA vwCl wC nC b M10 H → va_S (zA nC b) s.heap H locs → lv_has ls 4 [(0, .ref (b + 57)), (1, .ref (b + 32)), (2, .int (iI x9))] → W p l e (headSpec (.code yX1_look cX1_look 4 none :: zt) (z_rm 5)).room s m args below meth c H locs 0 0 (MQ below (va_Qv (wQv Q) (zB D dA vwCl wC nC b) (zA nC b)) args s 0 0 (zA nC b)) (F0 m 16 ls []) := by
    intro n16
    induction n16 using Nat.strongRecOn with
    | ind n16 i17 =>
      intro x9 M10 H locs ls h hS hS0 hl
      have h := h14 n16 x9 M10 h
      refine lv_iload_n hx hb dX1_look_16 rfl (lv_at hl 2 rfl) ?_
      refine z_iconst hx hb dX1_look_17 ?_
      refine w_icmp_ge (tgt := 76) hx hb rfl (sI_of (by decide)) dX1_look_18 (by decide) (fun c18 => ?_) (fun c18 => ?_)
      · skip
        have h := h.1 c18
        exact w_vret hx hb hr hlocks hS hS0 h dX1_look_76
      · skip
        have h := h.2 c18
        refine lv_aload_n hx hb dX1_look_21 rfl (lv_at hl 1 rfl) ?_
        refine lv_iload_n hx hb dX1_look_22 rfl (lv_at hl 2 rfl) ?_
        refine w_callq (va_runV (As := [.int (iI x9)]) (rest := []) ⟨hx, hb, hml, hown, hts⟩ (cC_Studio_find l D dA b M10 x9 _ h) (cwV 1 hts (z_gV k521 k412 k413 k4 k414) rfl rfl rfl dm_X9_find ⟨Nat.le_of_ble_eq_true rfl, Nat.le_of_ble_eq_true rfl⟩) ⟨wPre_blind, (w_recv hS hK.1 (by decide) (zkd_of (rfl : zcd wC 32 = 8) rfl) (by decide) (rfl : vwCl[9]? = some (RX9, TX9, 3))), w_pre hS hK⟩ rfl rfl hl.1 rfl (lv_room (Nat.le_of_ble_eq_true rfl)) dX1_look_23 ⟨Nat.le_refl _, Nat.le_refl _⟩) hS0 (fun z20 M19 H locs h hS hS0 => ?_)
        obtain ⟨e21, h⟩ := h
        rw [e21] at hS
        rcases z20 with _ | q22
        · skip
          have h := h.1 rfl
          refine lv_astore_nN (lv' := [(3, .null), (0, .ref (b + 57)), (1, .ref (b + 32)), (2, .int (iI x9))]) hx hb dX1_look_26 rfl hl (by decide) rfl (fun ls hl => ?_)
          refine lv_aload_nN hx hb dX1_look_27 rfl (lv_at hl 0 rfl) ?_
          refine lv_ifnullN (tgt := 70) hx hb dX1_look_28 (by decide) ?_
          refine z_iinc (lv' := [(2, .int (iI (x9 + 1))), (3, .null), (0, .ref (b + 57)), (1, .ref (b + 32))]) hx hb dX1_look_70 hl (k := 3) rfl (by decide) rfl (fun ls hl => ?_)
          refine lv_goto (tgt := 16) hx hb dX1_look_73 (by decide) ?_
          obtain ⟨n25, h26, h⟩ := h
          exact i17 n25 h26 (x9 + 1) M10 _ _ _ h hS hS0 (lv_sub hl [2, 3, 0] rfl)
        · skip
          obtain ⟨⟨lt23, cd24⟩, h⟩ := h.2 q22 rfl
          obtain ⟨lt27, cd28, lt29, cd30, lt31, cd32⟩ := nx_ring q22 lt23 cd24
          refine lv_astore_n (lv' := [(3, .ref (b + q22)), (0, .ref (b + 57)), (1, .ref (b + 32)), (2, .int (iI x9))]) hx hb dX1_look_26 rfl hl (by decide) rfl (fun ls hl => ?_)
          refine lv_aload_n hx hb dX1_look_27 rfl (lv_at hl 0 rfl) ?_
          refine lv_ifnull hx hb dX1_look_28 ?_
          refine lv_aload_n hx hb dX1_look_31 rfl (lv_at hl 1 rfl) ?_
          refine w_getr (j2 := 58) hx hb hts (z_memU u1) hown hK.1 hS f1_2 (by decide) (zkd_of (rfl : zcd wC 57 = 16) rfl) (zrf_of (rfl : zcd wC 57 = 16) rfl) (Or.inl (hts _ (z_mem k131))) dX1_look_32 ?_
          refine lv_iload_n hx hb dX1_look_35 rfl (lv_at hl 3 rfl) ?_
          refine lv_aload_n hx hb dX1_look_36 rfl (lv_at hl 2 rfl) ?_
          refine lv_aload_n hx hb dX1_look_37 rfl (lv_at hl 0 rfl) ?_
          refine w_calli (va_runV (As := [.ref (b + q22)]) (rest := [.int (iI x9), .ref (b + 58)]) ⟨hx, hb, hml, hown, hts⟩ (cC_Studio_roundOf l D dA b M10 q22 lt23 cd24 _ h) (cwV 1 hts (z_gV k522 k523 k524 k4 k525) rfl rfl rfl dm_X9_roundOf ⟨Nat.le_of_ble_eq_true rfl, Nat.le_of_ble_eq_true rfl⟩) ⟨wPre_blind, (w_recv hS hK.1 (by decide) (zkd_of (rfl : zcd wC 32 = 8) rfl) (by decide) (rfl : vwCl[9]? = some (RX9, TX9, 3))), w_pre hS hK⟩ rfl rfl hl.1 rfl (lv_room (Nat.le_of_ble_eq_true rfl)) dX1_look_38 ⟨Nat.le_refl _, Nat.le_refl _⟩) hS0 (fun z34 M33 H locs r35 h hS hS0 => ?_)
          obtain ⟨e36, h⟩ := h
          rw [e36] at hS
          obtain ⟨o37, h⟩ := h
          refine w_iast (z := z34) (n := 4) (i := (sI x9)) hx hb hK.1 (t0 := 0) rfl hS hS0 (by decide) (zkd_of (rfl : zcd wC 58 = 17) rfl) (zln_of (rfl : zcd wC 58 = 17) rfl) rfl o37.1 o37.2 (by decide) dX1_look_41 (fun H locs hS hS0 => ?_)
          obtain ⟨M38, e39⟩ : ∃ M38 : zM, M38 = zup M10 58 (sI x9).toNat z34 := ⟨_, rfl⟩
          rw [← e39] at hS
          have h := h M38 e39
          refine lv_aload_n hx hb dX1_look_42 rfl (lv_at hl 1 rfl) ?_
          refine w_getr (j2 := 59) hx hb hts (z_memU u1) hown hK.1 hS f1_3 (by decide) (zkd_of (rfl : zcd wC 57 = 16) rfl) (zrf_of (rfl : zcd wC 57 = 16) rfl) (Or.inl (hts _ (z_mem k132))) dX1_look_43 ?_
          refine lv_iload_n hx hb dX1_look_46 rfl (lv_at hl 3 rfl) ?_
          refine lv_aload_n hx hb dX1_look_47 rfl (lv_at hl 1 rfl) ?_
          refine lv_aload_n hx hb dX1_look_48 rfl (lv_at hl 2 rfl) ?_
          refine lv_aload_n hx hb dX1_look_49 rfl (lv_at hl 0 rfl) ?_
          refine lv_aload_n hx hb dX1_look_50 rfl (lv_at hl 1 rfl) ?_
          refine w_getr (j2 := 58) hx hb hts (z_memU u1) hown hK.1 hS f1_2 (by decide) (zkd_of (rfl : zcd wC 57 = 16) rfl) (zrf_of (rfl : zcd wC 57 = 16) rfl) (Or.inl (hts _ (z_mem k131))) dX1_look_51 ?_
          refine lv_iload_n hx hb dX1_look_54 rfl (lv_at hl 3 rfl) ?_
          obtain ⟨o40, h⟩ := h
          refine w_iald (n := 4) (i := (sI x9)) hx hb hK.1 (t0 := 0) rfl hS (by decide) (zkd_of (rfl : zcd wC 58 = 17) rfl) (zln_of (rfl : zcd wC 58 = 17) rfl) rfl o40.1 o40.2 (by decide) dX1_look_55 ?_
          refine w_calli (va_runV (As := [.ref (b + 32), .ref (b + q22), .int (iI (M38 58 (sI x9).toNat))]) (rest := [.int (iI x9), .ref (b + 59)]) ⟨hx, hb, hml, hown, hts⟩ (cC_Meeting_turnsOf l D dA b M38 q22 (M38 58 (sI x9).toNat) lt23 cd24 _ h) (cwV 3 hts (z_gV k535 k536 k1365 k7 k537) rfl rfl rfl dm_X1_turnsOf ⟨Nat.le_of_ble_eq_true rfl, Nat.le_of_ble_eq_true rfl⟩) ⟨wPre_blind, (w_recv hS hK.1 (by decide) (zkd_of (rfl : zcd wC 57 = 16) rfl) (by decide) (rfl : vwCl[1]? = some (RX1, TX1, 4))), w_pre hS hK⟩ rfl rfl hl.1 rfl (lv_room (Nat.le_of_ble_eq_true rfl)) dX1_look_56 ⟨Nat.le_refl _, Nat.le_refl _⟩) hS0 (fun z42 M41 H locs r43 h hS hS0 => ?_)
          obtain ⟨e44, h⟩ := h
          rw [e44] at hS
          obtain ⟨o45, h⟩ := h
          refine w_iast (z := z42) (n := 4) (i := (sI x9)) hx hb hK.1 (t0 := 0) rfl hS hS0 (by decide) (zkd_of (rfl : zcd wC 59 = 18) rfl) (zln_of (rfl : zcd wC 59 = 18) rfl) rfl o45.1 o45.2 (by decide) dX1_look_59 (fun H locs hS hS0 => ?_)
          obtain ⟨M46, e47⟩ : ∃ M46 : zM, M46 = zup M38 59 (sI x9).toNat z42 := ⟨_, rfl⟩
          rw [← e47] at hS
          have h := h M46 e47
          refine lv_aload_n hx hb dX1_look_60 rfl (lv_at hl 1 rfl) ?_
          refine lv_dup hx hb dX1_look_61 rfl ?_
          refine w_geti hx hb hts (z_memU u1) hown hK.1 hS f1_0 (by decide) (zkd_of (rfl : zcd wC 57 = 16) rfl) (Or.inl (hts _ (z_mem k129))) dX1_look_62 ?_
          refine z_iconst hx hb dX1_look_65 ?_
          refine z_iadd hx hb dX1_look_66 ?_
          refine w_puti hx hb hts (z_memU u1) tyX1 tyX1_ok nmX1 hown hK.1 hS hS0 f1_0 (by decide) (zkd_of (rfl : zcd wC 57 = 16) rfl) (Or.inl (hts _ (z_mem k129))) rfl (z := ((M46 57 0) + 1)) (by decide +kernel) dX1_look_67 (fun H locs hS hS0 => ?_)
          obtain ⟨M48, e49⟩ : ∃ M48 : zM, M48 = zup M46 57 0 ((M46 57 0) + 1) := ⟨_, rfl⟩
          rw [← e49] at hS
          have h := h M48 e49
          refine z_iinc (lv' := [(2, .int (iI (x9 + 1))), (3, .ref (b + q22)), (0, .ref (b + 57)), (1, .ref (b + 32))]) hx hb dX1_look_70 hl (k := 3) rfl (by decide) rfl (fun ls hl => ?_)
          refine lv_goto (tgt := 16) hx hb dX1_look_73 (by decide) ?_
          obtain ⟨n50, h51, h⟩ := h
          exact i17 n50 h51 (x9 + 1) M48 _ _ _ h hS hS0 (lv_sub hl [2, 3, 0] rfl)
  exact L15 n12 0 M7 _ _ _ h13 hS hS0 (lv_sub hl [1, 2, 0] rfl)

set_option maxRecDepth 100000 in
def wC_leastMultiple (a0 : Int) (a1 : Int) (M : zM) (Q : Int → Prop) : Prop := wC_withoutShared a1 a0 M (fun z2 => Q (sL (a0 * z2)))
set_option maxHeartbeats 4000000 in
set_option maxRecDepth 100000 in
theorem cC_leastMultiple (l : Launch) (D : va_G) (dA : Nat → ClassId) (b : Nat) (M : zM) (a0 : Int) (a1 : Int)  (Q : Int → Prop) (h : wC_leastMultiple a0 a1 M Q) : Met l yX11_leastMultiple (.code yX11_leastMultiple cX11_leastMultiple 3 (some .long) :: zt) (z_rm 2) (va_Pc [.long (iL a0), .int (iI a1)] (wPre D dA vwCl (z_tys dA) wC nC b M)) (va_Ql (wQl (fun z9 u9 => u9 = M ∧ Q z9)) (zB D dA vwCl wC nC b) (zA nC b)) 0 0 (zA nC b) := by
  unfold wC_leastMultiple at h
  refine Met.ofW (cc := cX11_leastMultiple) (maxL := 3) (ret := (some .long)) (by decide) rfl ?_
  intro p e s m args below meth c s₁ B hml hv
  obtain ⟨hargs, hS, hK⟩ := hv
  have hx := B.exec
  have hb := B.bytes
  have hr := B.returns
  have hts := atoms_spec (ws := .code yX11_leastMultiple cX11_leastMultiple 3 (some .long) :: zt) B.pre
  have hown : s.vm.findClass RX11 = some m.cls := findClass_of_methodNamed B.named
  have hlocks := B.notSynchronized
  have hS0 : va_S (zA nC b) s.heap s.heap [] := va_S.rf
  have hl := lv_entry ([.long (iL a0), .int (iI a1)]) (n := 3) (Nat.le_of_ble_eq_true rfl)
  have hent : entryFrame m args 3 = F0 m 0 ((lg_sl ([.long (iL a0), .int (iI a1)]) ++ List.replicate (3 - (lg_sl ([.long (iL a0), .int (iI a1)])).length) Slot.unset).toArray) [] := by rw [hargs]; exact lg_entry_eq m ([.long (iL a0), .int (iI a1)]) 3
  rw [hent]
  generalize (lg_sl ([.long (iL a0), .int (iI a1)]) ++ List.replicate (3 - (lg_sl ([.long (iL a0), .int (iI a1)])).length) Slot.unset).toArray = ls at hl ⊢
  have hl : lv_has ls 3 [(0, .long (iL a0)), (2, .int (iI a1))] := hl
  refine lv_lload_n hx hb dX11_leastMultiple_0 rfl (lv_at hl 0 rfl) ?_
  refine lv_iload_n hx hb dX11_leastMultiple_1 rfl (lv_at hl 1 rfl) ?_
  refine lv_lload_n hx hb dX11_leastMultiple_2 rfl (lv_at hl 0 rfl) ?_
  refine w_calli (va_runS (As := [.int (iI a1), .long (iL a0)]) (rest := [.long (iL a0)]) ⟨hx, hb, hml, hown, hts⟩ (cC_withoutShared l D dA b M a1 a0 _ h) (va_cwS 2 hts (z_gS k548 k530 k1 k531) rfl rfl rfl dm_X11_withoutShared.2 ⟨Nat.le_of_ble_eq_true rfl, Nat.le_of_ble_eq_true rfl⟩) ⟨wPre_blind, w_pre hS hK⟩ rfl rfl hl.1 rfl (lv_room (Nat.le_of_ble_eq_true rfl)) dX11_leastMultiple_3 ⟨Nat.le_refl _, Nat.le_refl _⟩) hS0 (fun z2 M1 H locs r3 h hS hS0 => ?_)
  obtain ⟨e4, h⟩ := h
  rw [e4] at hS
  refine w_i2l hx hb (sI_of r3) dX11_leastMultiple_6 ?_
  refine z_lmul hx hb dX11_leastMultiple_7 ?_
  exact w_lret hx hb hr hlocks hS hS0 rfl ⟨rfl, h⟩ dX11_leastMultiple_8

set_option maxRecDepth 100000 in
def wC_Meeting_allTicks  (M : zM) (Q : Int → Prop) : Prop := pL2 (fun K4 x1 x2 => ((sI (M 57 0)) ≤ (sI x2) → Q (sL x1)) ∧ ((sI x2) < (sI (M 57 0)) → ((0 ≤ (sI x2) ∧ (sI x2) < 4) ∧ wC_leastMultiple x1 (M 58 (sI x2).toNat) M (fun z13 => K4 z13 (x2 + 1))))) 1 0
set_option maxHeartbeats 4000000 in
set_option maxRecDepth 100000 in
theorem cC_Meeting_allTicks (l : Launch) (D : va_G) (dA : Nat → ClassId) (b : Nat) (M : zM)   (Q : Int → Prop) (h : wC_Meeting_allTicks  M Q) : Met l yX1_allTicks (.code yX1_allTicks cX1_allTicks 4 (some .long) :: zt) (z_rm 3) (va_Pc [.ref (b + 57)] (wPre D dA vwCl (z_tys dA) wC nC b M)) (va_Ql (wQl (fun z9 u9 => u9 = M ∧ Q z9)) (zB D dA vwCl wC nC b) (zA nC b)) 0 0 (zA nC b) := by
  unfold wC_Meeting_allTicks at h
  refine Met.ofW (cc := cX1_allTicks) (maxL := 4) (ret := (some .long)) (by decide) rfl ?_
  intro p e s m args below meth c s₁ B hml hv
  obtain ⟨hargs, hS, hK⟩ := hv
  have hx := B.exec
  have hb := B.bytes
  have hr := B.returns
  have hts := atoms_spec (ws := .code yX1_allTicks cX1_allTicks 4 (some .long) :: zt) B.pre
  have hown : s.vm.findClass RX1 = some m.cls := findClass_of_methodNamed B.named
  have hlocks := B.notSynchronized
  have hS0 : va_S (zA nC b) s.heap s.heap [] := va_S.rf
  have hl := lv_entry ([.ref (b + 57)]) (n := 4) (Nat.le_of_ble_eq_true rfl)
  have hent : entryFrame m args 4 = F0 m 0 ((lg_sl ([.ref (b + 57)]) ++ List.replicate (4 - (lg_sl ([.ref (b + 57)])).length) Slot.unset).toArray) [] := by rw [hargs]; exact lg_entry_eq m ([.ref (b + 57)]) 4
  rw [hent]
  generalize (lg_sl ([.ref (b + 57)]) ++ List.replicate (4 - (lg_sl ([.ref (b + 57)])).length) Slot.unset).toArray = ls at hl ⊢
  have hl : lv_has ls 4 [(0, .ref (b + 57))] := hl
  refine z_lconst1 hx hb dX1_allTicks_0 ?_
  refine lv_lstore_n (lv' := [(1, .long (iL 1)), (0, .ref (b + 57))]) hx hb dX1_allTicks_1 rfl hl (by decide) rfl (fun ls hl => ?_)
  refine z_iconst hx hb dX1_allTicks_2 ?_
  refine lv_istore_n (lv' := [(3, .int (iI 0)), (1, .long (iL 1)), (0, .ref (b + 57))]) hx hb dX1_allTicks_3 rfl hl (by decide) rfl (fun ls hl => ?_)
  obtain ⟨I3, ⟨n4, h5⟩, h6⟩ := h
  have L7 : ∀ (n8 : Nat) (x1 x2 : Int) (H : Heap) (locs : List Loc) (ls : Array Slot), I3 n8 x1 x2 → zR D dA vwCl wC nC b M H → va_S (zA nC b) s.heap H locs → lv_has ls 4 [(0, .ref (b + 57)), (1, .long (iL x1)), (3, .int (iI x2))] → W p l e (headSpec (.code yX1_allTicks cX1_allTicks 4 (some .long) :: zt) (z_rm 3)).room s m args below meth c H locs 0 0 (MQ below (va_Ql (wQl (fun z9 u9 => u9 = M ∧ Q z9)) (zB D dA vwCl wC nC b) (zA nC b)) args s 0 0 (zA nC b)) (F0 m 4 ls []) := by
    intro n8
    induction n8 using Nat.strongRecOn with
    | ind n8 i9 =>
      intro x1 x2 H locs ls h hS hS0 hl
      have h := h6 n8 x1 x2 h
      refine lv_iload_n hx hb dX1_allTicks_4 rfl (lv_at hl 2 rfl) ?_
      refine lv_aload_n hx hb dX1_allTicks_5 rfl (lv_at hl 0 rfl) ?_
      refine w_geti hx hb hts (z_memU u1) hown hK.1 hS f1_0 (by decide) (zkd_of (rfl : zcd wC 57 = 16) rfl) (Or.inl (hts _ (z_mem k129))) dX1_allTicks_6 ?_
      refine w_icmp_ge (tgt := 29) hx hb rfl rfl dX1_allTicks_9 (by decide) (fun c10 => ?_) (fun c10 => ?_)
      · skip
        have h := h.1 c10
        refine lv_lload_n hx hb dX1_allTicks_29 rfl (lv_at hl 1 rfl) ?_
        exact w_lret hx hb hr hlocks hS hS0 rfl ⟨rfl, h⟩ dX1_allTicks_30
      · skip
        have h := h.2 c10
        refine lv_lload_n hx hb dX1_allTicks_12 rfl (lv_at hl 1 rfl) ?_
        refine lv_aload_n hx hb dX1_allTicks_13 rfl (lv_at hl 0 rfl) ?_
        refine w_getr (j2 := 58) hx hb hts (z_memU u1) hown hK.1 hS f1_2 (by decide) (zkd_of (rfl : zcd wC 57 = 16) rfl) (zrf_of (rfl : zcd wC 57 = 16) rfl) (Or.inl (hts _ (z_mem k131))) dX1_allTicks_14 ?_
        refine lv_iload_n hx hb dX1_allTicks_17 rfl (lv_at hl 2 rfl) ?_
        obtain ⟨o11, h⟩ := h
        refine w_iald (n := 4) (i := (sI x2)) hx hb hK.1 (t0 := 0) rfl hS (by decide) (zkd_of (rfl : zcd wC 58 = 17) rfl) (zln_of (rfl : zcd wC 58 = 17) rfl) rfl o11.1 o11.2 (by decide) dX1_allTicks_18 ?_
        refine w_calll (va_runSN (As := [.long (iL x1), .int (iI (M 58 (sI x2).toNat))]) (rest := []) ⟨hx, hb, hml, hown, hts⟩ (cC_leastMultiple l D dA b M x1 (M 58 (sI x2).toNat) _ h) ⟨va_cnB 2 hts (z_gN k547) rfl rfl rfl (hK.2 (RX1, 47, yX11_leastMultiple, RX11) (List.mem_of_getElem? (i := 13) rfl)) (hts _ (z_mem k1)) dm_X11_leastMultiple.2 ⟨Nat.le_of_ble_eq_true rfl, Nat.le_of_ble_eq_true rfl⟩, (hts _ (z_mem k546)), trivial⟩ ⟨wPre_blind, w_pre hS hK⟩ rfl rfl hl.1 rfl (lv_room (Nat.le_of_ble_eq_true rfl)) dX1_allTicks_19 ⟨Nat.le_refl _, Nat.le_refl _⟩) hS0 (fun z13 M12 H locs r14 h hS hS0 => ?_)
        obtain ⟨e15, h⟩ := h
        rw [e15] at hS
        refine lv_lstore_n (lv' := [(1, .long (iL z13)), (0, .ref (b + 57)), (3, .int (iI x2))]) hx hb dX1_allTicks_22 rfl hl (by decide) rfl (fun ls hl => ?_)
        refine z_iinc (lv' := [(3, .int (iI (x2 + 1))), (1, .long (iL z13)), (0, .ref (b + 57))]) hx hb dX1_allTicks_23 hl (k := 2) rfl (by decide) rfl (fun ls hl => ?_)
        refine lv_goto (tgt := 4) hx hb dX1_allTicks_26 (by decide) ?_
        obtain ⟨n16, h17, h⟩ := h
        exact i9 n16 h17 z13 (x2 + 1) _ _ _ h hS hS0 (lv_sub hl [2, 1, 0] rfl)
  exact L7 n4 1 0 _ _ _ h5 hS hS0 (lv_sub hl [2, 1, 0] rfl)

set_option maxRecDepth 100000 in
def wC_all  (M : zM) (Q : Int → zM → Prop) : Prop := wC_Meeting_look  M (fun M1 => wC_Meeting_allTicks  M1 (fun z3 => Q z3 M1))
set_option maxHeartbeats 4000000 in
set_option maxRecDepth 100000 in
theorem cC_all (l : Launch) (D : va_G) (dA : Nat → ClassId) (b : Nat) (M : zM)   (Q : Int → zM → Prop) (h : wC_all  M Q) : Met l yX11_all (.code yX11_all cX11_all 1 (some .long) :: zt) (z_rm 6) (va_Pc [.ref (b + 0)] (wPre D dA vwCl (z_tys dA) wC nC b M)) (va_Ql (wQl Q) (zB D dA vwCl wC nC b) (zA nC b)) 0 0 (zA nC b) := by
  unfold wC_all at h
  refine Met.ofW (cc := cX11_all) (maxL := 1) (ret := (some .long)) (by decide) rfl ?_
  intro p e s m args below meth c s₁ B hml hv
  obtain ⟨hargs, hS, hK⟩ := hv
  have hx := B.exec
  have hb := B.bytes
  have hr := B.returns
  have hts := atoms_spec (ws := .code yX11_all cX11_all 1 (some .long) :: zt) B.pre
  have hown : s.vm.findClass RX11 = some m.cls := findClass_of_methodNamed B.named
  have hlocks := B.notSynchronized
  have hS0 : va_S (zA nC b) s.heap s.heap [] := va_S.rf
  have hl := lv_entry ([.ref (b + 0)]) (n := 1) (Nat.le_of_ble_eq_true rfl)
  have hent : entryFrame m args 1 = F0 m 0 ((lg_sl ([.ref (b + 0)]) ++ List.replicate (1 - (lg_sl ([.ref (b + 0)])).length) Slot.unset).toArray) [] := by rw [hargs]; exact lg_entry_eq m ([.ref (b + 0)]) 1
  rw [hent]
  generalize (lg_sl ([.ref (b + 0)]) ++ List.replicate (1 - (lg_sl ([.ref (b + 0)])).length) Slot.unset).toArray = ls at hl ⊢
  have hl : lv_has ls 1 [(0, .ref (b + 0))] := hl
  refine lv_aload_n hx hb dX11_all_0 rfl (lv_at hl 0 rfl) ?_
  refine w_getr (j2 := 57) hx hb hts (z_memU u11) hown hK.1 hS f11_3 (by decide) (zkd_of (rfl : zcd wC 0 = 0) rfl) (zrf_of (rfl : zcd wC 0 = 0) rfl) (Or.inl (hts _ (z_mem k245))) dX11_all_1 ?_
  refine lv_aload_n hx hb dX11_all_4 rfl (lv_at hl 0 rfl) ?_
  refine w_getr (j2 := 32) hx hb hts (z_memU u11) hown hK.1 hS f11_2 (by decide) (zkd_of (rfl : zcd wC 0 = 0) rfl) (zrf_of (rfl : zcd wC 0 = 0) rfl) (Or.inl (hts _ (z_mem k244))) dX11_all_5 ?_
  refine w_callv (va_runV (As := [.ref (b + 32)]) (rest := []) ⟨hx, hb, hml, hown, hts⟩ (cC_Meeting_look l D dA b M  _ h) (cwV 1 hts (z_gV k511 k512 k513 k7 k514) rfl rfl rfl dm_X1_look ⟨Nat.le_of_ble_eq_true rfl, Nat.le_of_ble_eq_true rfl⟩) ⟨wPre_blind, (w_recv hS hK.1 (by decide) (zkd_of (rfl : zcd wC 57 = 16) rfl) (by decide) (rfl : vwCl[1]? = some (RX1, TX1, 4))), w_pre hS hK⟩ rfl rfl hl.1 rfl (lv_room (Nat.le_of_ble_eq_true rfl)) dX11_all_8 ⟨Nat.le_refl _, Nat.le_refl _⟩) hS0 (fun M1 H locs h hS hS0 => ?_)
  refine lv_aload_n hx hb dX11_all_11 rfl (lv_at hl 0 rfl) ?_
  refine w_getr (j2 := 57) hx hb hts (z_memU u11) hown hK.1 hS f11_3 (by decide) (zkd_of (rfl : zcd wC 0 = 0) rfl) (zrf_of (rfl : zcd wC 0 = 0) rfl) (Or.inl (hts _ (z_mem k245))) dX11_all_12 ?_
  refine w_calll (va_runV (As := []) (rest := []) ⟨hx, hb, hml, hown, hts⟩ (cC_Meeting_allTicks l D dA b M1  _ h) (cwV 0 hts (z_gV k542 k543 k544 k7 k545) rfl rfl rfl dm_X1_allTicks ⟨Nat.le_of_ble_eq_true rfl, Nat.le_of_ble_eq_true rfl⟩) ⟨wPre_blind, (w_recv hS hK.1 (by decide) (zkd_of (rfl : zcd wC 57 = 16) rfl) (by decide) (rfl : vwCl[1]? = some (RX1, TX1, 4))), w_pre hS hK⟩ rfl rfl hl.1 rfl (lv_room (Nat.le_of_ble_eq_true rfl)) dX11_all_15 ⟨Nat.le_refl _, Nat.le_refl _⟩) hS0 (fun z3 M2 H locs r4 h hS hS0 => ?_)
  obtain ⟨e5, h⟩ := h
  rw [e5] at hS
  exact w_lret hx hb hr hlocks hS hS0 (sL_of r4) h dX11_all_18

set_option maxRecDepth 100000 in
def wC_isSounds (a0 : Int) (M : zM) (Q : Int → Prop) : Prop := ((andI a0 (-1023)) ≠ 0 → Q 0) ∧ ((andI a0 (-1023)) = 0 → Q 1)
set_option maxHeartbeats 4000000 in
set_option maxRecDepth 100000 in
theorem cC_isSounds (l : Launch) (D : va_G) (dA : Nat → ClassId) (b : Nat) (M : zM) (a0 : Int)  (Q : Int → Prop) (h : wC_isSounds a0 M Q) : Met l yX11_isSounds (.code yX11_isSounds cX11_isSounds 1 (some .boolean) :: zt) (z_rm 0) (va_Pc [.int (iI a0)] (wPre D dA vwCl (z_tys dA) wC nC b M)) (va_Qi (wQz (fun z9 u9 => u9 = M ∧ Q z9)) (zB D dA vwCl wC nC b) (zA nC b)) 0 0 (zA nC b) := by
  unfold wC_isSounds at h
  refine Met.ofW (cc := cX11_isSounds) (maxL := 1) (ret := (some .boolean)) (by decide) rfl ?_
  intro p e s m args below meth c s₁ B hml hv
  obtain ⟨hargs, hS, hK⟩ := hv
  have hx := B.exec
  have hb := B.bytes
  have hr := B.returns
  have hts := atoms_spec (ws := .code yX11_isSounds cX11_isSounds 1 (some .boolean) :: zt) B.pre
  have hown : s.vm.findClass RX11 = some m.cls := findClass_of_methodNamed B.named
  have hlocks := B.notSynchronized
  have hS0 : va_S (zA nC b) s.heap s.heap [] := va_S.rf
  have hl := lv_entry ([.int (iI a0)]) (n := 1) (Nat.le_of_ble_eq_true rfl)
  have hent : entryFrame m args 1 = F0 m 0 ((lg_sl ([.int (iI a0)]) ++ List.replicate (1 - (lg_sl ([.int (iI a0)])).length) Slot.unset).toArray) [] := by rw [hargs]; exact lg_entry_eq m ([.int (iI a0)]) 1
  rw [hent]
  generalize (lg_sl ([.int (iI a0)]) ++ List.replicate (1 - (lg_sl ([.int (iI a0)])).length) Slot.unset).toArray = ls at hl ⊢
  have hl : lv_has ls 1 [(0, .int (iI a0))] := hl
  refine lv_iload_n hx hb dX11_isSounds_0 rfl (lv_at hl 0 rfl) ?_
  refine z_sipush hx hb (by decide) dX11_isSounds_1 ?_
  refine w_iand hx hb dX11_isSounds_4 ?_
  refine w_if_ne (tgt := 12) hx hb (sI_of (andI_R _ _)) dX11_isSounds_5 (by decide) (fun c1 => ?_) (fun c1 => ?_)
  · skip
    have h := h.1 c1
    refine z_iconst hx hb dX11_isSounds_12 ?_
    exact w_zret hx hb hr hlocks hS hS0 (sI_of (by decide)) (by decide) ⟨rfl, h⟩ dX11_isSounds_13
  · skip
    have h := h.2 c1
    refine z_iconst hx hb dX11_isSounds_8 ?_
    refine lv_goto (tgt := 13) hx hb dX11_isSounds_9 (by decide) ?_
    exact w_zret hx hb hr hlocks hS hS0 (sI_of (by decide)) (by decide) ⟨rfl, h⟩ dX11_isSounds_13
end zz10_w05
section zz10_w06
/-! the W layer, 6 -/
theorem q10w06_0_0 : (cX11_meets.data.toList.drop 0).take 23 = [31, 9, 148, 155, 0, 11, 31, 20, 0, 193, 148, 158, 0, 7, 20, 0, 195, 173, 42, 180, 0, 33, 42] := by decide +kernel
theorem q10w06_0_23 : (cX11_meets.data.toList.drop 23).take 19 = [180, 0, 26, 182, 0, 182, 42, 180, 0, 33, 42, 180, 0, 26, 31, 182, 0, 197, 173] := by decide +kernel
theorem dX11_meets_0 : decode cX11_meets 0 = .ok (.lload_n 1, 1) := dz_31 (dz_at q10w06_0_0 0)
theorem dX11_meets_1 : decode cX11_meets 1 = .ok (.lconst 0, 1) := dz_9 (dz_at q10w06_0_0 1)
theorem dX11_meets_10 : decode cX11_meets 10 = .ok (.lcmp, 1) := dz_148 (dz_at q10w06_0_0 10)
theorem dX11_meets_11 : decode cX11_meets 11 = .ok (.ifCond .le 7, 3) := dz_158 (dz_at q10w06_0_0 11) (by decide +kernel)
theorem dX11_meets_14 : decode cX11_meets 14 = .ok (.ldc2_w 195, 3) := dz_20 (dz_at q10w06_0_0 14) rfl
theorem dX11_meets_17 : decode cX11_meets 17 = .ok (.lreturn, 1) := dz_173 (dz_at q10w06_0_0 17)
theorem dX11_meets_18 : decode cX11_meets 18 = .ok (.aload_n 0, 1) := dz_42 (dz_at q10w06_0_0 18)
theorem dX11_meets_19 : decode cX11_meets 19 = .ok (.getfield 33, 3) := dz_180 (dz_at q10w06_0_0 19) rfl
theorem dX11_meets_2 : decode cX11_meets 2 = .ok (.lcmp, 1) := dz_148 (dz_at q10w06_0_0 2)
theorem dX11_meets_22 : decode cX11_meets 22 = .ok (.aload_n 0, 1) := dz_42 (dz_at q10w06_0_0 22)
theorem dX11_meets_23 : decode cX11_meets 23 = .ok (.getfield 26, 3) := dz_180 (dz_at q10w06_0_23 0) rfl
theorem dX11_meets_26 : decode cX11_meets 26 = .ok (.invokevirtual 182, 3) := dz_182 (dz_at q10w06_0_23 3) rfl
theorem dX11_meets_29 : decode cX11_meets 29 = .ok (.aload_n 0, 1) := dz_42 (dz_at q10w06_0_23 6)
theorem dX11_meets_3 : decode cX11_meets 3 = .ok (.ifCond .lt 11, 3) := dz_155 (dz_at q10w06_0_0 3) (by decide +kernel)
theorem dX11_meets_30 : decode cX11_meets 30 = .ok (.getfield 33, 3) := dz_180 (dz_at q10w06_0_23 7) rfl
theorem dX11_meets_33 : decode cX11_meets 33 = .ok (.aload_n 0, 1) := dz_42 (dz_at q10w06_0_23 10)
theorem dX11_meets_34 : decode cX11_meets 34 = .ok (.getfield 26, 3) := dz_180 (dz_at q10w06_0_23 11) rfl
theorem dX11_meets_37 : decode cX11_meets 37 = .ok (.lload_n 1, 1) := dz_31 (dz_at q10w06_0_23 14)
theorem dX11_meets_38 : decode cX11_meets 38 = .ok (.invokevirtual 197, 3) := dz_182 (dz_at q10w06_0_23 15) rfl
theorem dX11_meets_41 : decode cX11_meets 41 = .ok (.lreturn, 1) := dz_173 (dz_at q10w06_0_23 18)
theorem dX11_meets_6 : decode cX11_meets 6 = .ok (.lload_n 1, 1) := dz_31 (dz_at q10w06_0_0 6)
theorem dX11_meets_7 : decode cX11_meets 7 = .ok (.ldc2_w 193, 3) := dz_20 (dz_at q10w06_0_0 7) rfl
theorem q10w06_1_0 : (cX11_wish.data.toList.drop 0).take 24 = [42, 180, 0, 26, 27, 182, 0, 104, 78, 45, 198, 0, 10, 28, 184, 0, 190, 154, 0, 5, 3, 172, 45, 28] := by decide +kernel
theorem q10w06_1_24 : (cX11_wish.data.toList.drop 24).take 5 = [181, 0, 166, 4, 172] := by decide +kernel
theorem dX11_wish_0 : decode cX11_wish 0 = .ok (.aload_n 0, 1) := dz_42 (dz_at q10w06_1_0 0)
theorem dX11_wish_1 : decode cX11_wish 1 = .ok (.getfield 26, 3) := dz_180 (dz_at q10w06_1_0 1) rfl
theorem dX11_wish_10 : decode cX11_wish 10 = .ok (.ifnull 10, 3) := dz_198 (dz_at q10w06_1_0 10) (by decide +kernel)
theorem dX11_wish_13 : decode cX11_wish 13 = .ok (.iload_n 2, 1) := dz_28 (dz_at q10w06_1_0 13)
theorem dX11_wish_14 : decode cX11_wish 14 = .ok (.invokestatic 190, 3) := dz_184 (dz_at q10w06_1_0 14) rfl
theorem dX11_wish_17 : decode cX11_wish 17 = .ok (.ifCond .ne 5, 3) := dz_154 (dz_at q10w06_1_0 17) (by decide +kernel)
theorem dX11_wish_20 : decode cX11_wish 20 = .ok (.iconst 0, 1) := dz_3 (dz_at q10w06_1_0 20)
theorem dX11_wish_21 : decode cX11_wish 21 = .ok (.ireturn, 1) := dz_172 (dz_at q10w06_1_0 21)
theorem dX11_wish_22 : decode cX11_wish 22 = .ok (.aload_n 3, 1) := dz_45 (dz_at q10w06_1_0 22)
theorem dX11_wish_23 : decode cX11_wish 23 = .ok (.iload_n 2, 1) := dz_28 (dz_at q10w06_1_0 23)
theorem dX11_wish_24 : decode cX11_wish 24 = .ok (.putfield 166, 3) := dz_181 (dz_at q10w06_1_24 0) rfl
theorem dX11_wish_27 : decode cX11_wish 27 = .ok (.iconst 1, 1) := dz_4 (dz_at q10w06_1_24 3)
theorem dX11_wish_28 : decode cX11_wish 28 = .ok (.ireturn, 1) := dz_172 (dz_at q10w06_1_24 4)
theorem dX11_wish_4 : decode cX11_wish 4 = .ok (.iload_n 1, 1) := dz_27 (dz_at q10w06_1_0 4)
theorem dX11_wish_5 : decode cX11_wish 5 = .ok (.invokevirtual 104, 3) := dz_182 (dz_at q10w06_1_0 5) rfl
theorem dX11_wish_8 : decode cX11_wish 8 = .ok (.astore_n 3, 1) := dz_78 (dz_at q10w06_1_0 8)
theorem dX11_wish_9 : decode cX11_wish 9 = .ok (.aload_n 3, 1) := dz_45 (dz_at q10w06_1_0 9)
theorem q10w06_2_0 : (cX1_firstSteady.data.toList.drop 0).take 24 = [42, 182, 0, 89, 66, 31, 55, 5, 9, 55, 7, 22, 7, 33, 148, 156, 0, 87, 22, 5, 31, 33, 97, 148] := by decide +kernel
theorem q10w06_2_24 : (cX1_firstSteady.data.toList.drop 24).take 24 = [156, 0, 78, 22, 5, 55, 9, 3, 54, 11, 21, 11, 42, 180, 0, 9, 162, 0, 38, 22, 9, 42, 21, 11] := by decide +kernel
theorem q10w06_2_48 : (cX1_firstSteady.data.toList.drop 48).take 24 = [22, 9, 42, 180, 0, 15, 101, 42, 180, 0, 19, 21, 11, 46, 184, 0, 62, 182, 0, 92, 133, 97, 55, 9] := by decide +kernel
theorem q10w06_2_72 : (cX1_firstSteady.data.toList.drop 72).take 24 = [132, 11, 1, 167, 255, 215, 22, 9, 22, 5, 148, 154, 0, 6, 22, 5, 173, 22, 9, 55, 5, 22, 7, 10] := by decide +kernel
theorem q10w06_2_96 : (cX1_firstSteady.data.toList.drop 96).take 10 = [97, 55, 7, 167, 255, 168, 20, 0, 80, 173] := by decide +kernel
theorem dX1_firstSteady_0 : decode cX1_firstSteady 0 = .ok (.aload_n 0, 1) := dz_42 (dz_at q10w06_2_0 0)
theorem dX1_firstSteady_1 : decode cX1_firstSteady 1 = .ok (.invokevirtual 89, 3) := dz_182 (dz_at q10w06_2_0 1) rfl
theorem dX1_firstSteady_102 : decode cX1_firstSteady 102 = .ok (.ldc2_w 80, 3) := dz_20 (dz_at q10w06_2_96 6) rfl
theorem dX1_firstSteady_105 : decode cX1_firstSteady 105 = .ok (.lreturn, 1) := dz_173 (dz_at q10w06_2_96 9)
theorem dX1_firstSteady_11 : decode cX1_firstSteady 11 = .ok (.lload 7, 2) := dz_22 (dz_at q10w06_2_0 11)
theorem dX1_firstSteady_13 : decode cX1_firstSteady 13 = .ok (.lload_n 3, 1) := dz_33 (dz_at q10w06_2_0 13)
theorem dX1_firstSteady_14 : decode cX1_firstSteady 14 = .ok (.lcmp, 1) := dz_148 (dz_at q10w06_2_0 14)
theorem dX1_firstSteady_15 : decode cX1_firstSteady 15 = .ok (.ifCond .ge 87, 3) := dz_156 (dz_at q10w06_2_0 15) (by decide +kernel)
theorem dX1_firstSteady_18 : decode cX1_firstSteady 18 = .ok (.lload 5, 2) := dz_22 (dz_at q10w06_2_0 18)
theorem dX1_firstSteady_20 : decode cX1_firstSteady 20 = .ok (.lload_n 1, 1) := dz_31 (dz_at q10w06_2_0 20)
theorem dX1_firstSteady_21 : decode cX1_firstSteady 21 = .ok (.lload_n 3, 1) := dz_33 (dz_at q10w06_2_0 21)
theorem dX1_firstSteady_22 : decode cX1_firstSteady 22 = .ok (.ladd, 1) := dz_97 (dz_at q10w06_2_0 22)
theorem dX1_firstSteady_23 : decode cX1_firstSteady 23 = .ok (.lcmp, 1) := dz_148 (dz_at q10w06_2_0 23)
theorem dX1_firstSteady_24 : decode cX1_firstSteady 24 = .ok (.ifCond .ge 78, 3) := dz_156 (dz_at q10w06_2_24 0) (by decide +kernel)
theorem dX1_firstSteady_27 : decode cX1_firstSteady 27 = .ok (.lload 5, 2) := dz_22 (dz_at q10w06_2_24 3)
theorem dX1_firstSteady_29 : decode cX1_firstSteady 29 = .ok (.lstore 9, 2) := dz_55 (dz_at q10w06_2_24 5)
theorem dX1_firstSteady_31 : decode cX1_firstSteady 31 = .ok (.iconst 0, 1) := dz_3 (dz_at q10w06_2_24 7)
theorem dX1_firstSteady_32 : decode cX1_firstSteady 32 = .ok (.istore 11, 2) := dz_54 (dz_at q10w06_2_24 8)
theorem dX1_firstSteady_34 : decode cX1_firstSteady 34 = .ok (.iload 11, 2) := dz_21 (dz_at q10w06_2_24 10)
theorem dX1_firstSteady_36 : decode cX1_firstSteady 36 = .ok (.aload_n 0, 1) := dz_42 (dz_at q10w06_2_24 12)
theorem dX1_firstSteady_37 : decode cX1_firstSteady 37 = .ok (.getfield 9, 3) := dz_180 (dz_at q10w06_2_24 13) rfl
theorem dX1_firstSteady_4 : decode cX1_firstSteady 4 = .ok (.lstore_n 3, 1) := dz_66 (dz_at q10w06_2_0 4)
theorem dX1_firstSteady_40 : decode cX1_firstSteady 40 = .ok (.if_icmp .ge 38, 3) := dz_162 (dz_at q10w06_2_24 16) (by decide +kernel)
theorem dX1_firstSteady_43 : decode cX1_firstSteady 43 = .ok (.lload 9, 2) := dz_22 (dz_at q10w06_2_24 19)
theorem dX1_firstSteady_45 : decode cX1_firstSteady 45 = .ok (.aload_n 0, 1) := dz_42 (dz_at q10w06_2_24 21)
theorem dX1_firstSteady_46 : decode cX1_firstSteady 46 = .ok (.iload 11, 2) := dz_21 (dz_at q10w06_2_24 22)
theorem dX1_firstSteady_48 : decode cX1_firstSteady 48 = .ok (.lload 9, 2) := dz_22 (dz_at q10w06_2_48 0)
theorem dX1_firstSteady_5 : decode cX1_firstSteady 5 = .ok (.lload_n 1, 1) := dz_31 (dz_at q10w06_2_0 5)
theorem dX1_firstSteady_50 : decode cX1_firstSteady 50 = .ok (.aload_n 0, 1) := dz_42 (dz_at q10w06_2_48 2)
theorem dX1_firstSteady_51 : decode cX1_firstSteady 51 = .ok (.getfield 15, 3) := dz_180 (dz_at q10w06_2_48 3) rfl
theorem dX1_firstSteady_54 : decode cX1_firstSteady 54 = .ok (.lsub, 1) := dz_101 (dz_at q10w06_2_48 6)
theorem dX1_firstSteady_55 : decode cX1_firstSteady 55 = .ok (.aload_n 0, 1) := dz_42 (dz_at q10w06_2_48 7)
theorem dX1_firstSteady_56 : decode cX1_firstSteady 56 = .ok (.getfield 19, 3) := dz_180 (dz_at q10w06_2_48 8) rfl
theorem dX1_firstSteady_59 : decode cX1_firstSteady 59 = .ok (.iload 11, 2) := dz_21 (dz_at q10w06_2_48 11)
theorem dX1_firstSteady_6 : decode cX1_firstSteady 6 = .ok (.lstore 5, 2) := dz_55 (dz_at q10w06_2_0 6)
theorem dX1_firstSteady_61 : decode cX1_firstSteady 61 = .ok (.iaload, 1) := dz_46 (dz_at q10w06_2_48 13)
theorem dX1_firstSteady_62 : decode cX1_firstSteady 62 = .ok (.invokestatic 62, 3) := dz_184 (dz_at q10w06_2_48 14) rfl
theorem dX1_firstSteady_65 : decode cX1_firstSteady 65 = .ok (.invokevirtual 92, 3) := dz_182 (dz_at q10w06_2_48 17) rfl
theorem dX1_firstSteady_68 : decode cX1_firstSteady 68 = .ok (.i2l, 1) := dz_133 (dz_at q10w06_2_48 20)
theorem dX1_firstSteady_69 : decode cX1_firstSteady 69 = .ok (.ladd, 1) := dz_97 (dz_at q10w06_2_48 21)
theorem dX1_firstSteady_70 : decode cX1_firstSteady 70 = .ok (.lstore 9, 2) := dz_55 (dz_at q10w06_2_48 22)
theorem dX1_firstSteady_72 : decode cX1_firstSteady 72 = .ok (.iinc 11 1, 3) := dz_132 (dz_at q10w06_2_72 0) (by decide +kernel)
theorem dX1_firstSteady_75 : decode cX1_firstSteady 75 = .ok (.goto (-41), 3) := dz_167 (dz_at q10w06_2_72 3) (by decide +kernel)
theorem dX1_firstSteady_78 : decode cX1_firstSteady 78 = .ok (.lload 9, 2) := dz_22 (dz_at q10w06_2_72 6)
theorem dX1_firstSteady_8 : decode cX1_firstSteady 8 = .ok (.lconst 0, 1) := dz_9 (dz_at q10w06_2_0 8)
theorem dX1_firstSteady_80 : decode cX1_firstSteady 80 = .ok (.lload 5, 2) := dz_22 (dz_at q10w06_2_72 8)
theorem dX1_firstSteady_82 : decode cX1_firstSteady 82 = .ok (.lcmp, 1) := dz_148 (dz_at q10w06_2_72 10)
theorem dX1_firstSteady_83 : decode cX1_firstSteady 83 = .ok (.ifCond .ne 6, 3) := dz_154 (dz_at q10w06_2_72 11) (by decide +kernel)
theorem dX1_firstSteady_86 : decode cX1_firstSteady 86 = .ok (.lload 5, 2) := dz_22 (dz_at q10w06_2_72 14)
theorem dX1_firstSteady_88 : decode cX1_firstSteady 88 = .ok (.lreturn, 1) := dz_173 (dz_at q10w06_2_72 16)
theorem dX1_firstSteady_89 : decode cX1_firstSteady 89 = .ok (.lload 9, 2) := dz_22 (dz_at q10w06_2_72 17)
theorem dX1_firstSteady_9 : decode cX1_firstSteady 9 = .ok (.lstore 7, 2) := dz_55 (dz_at q10w06_2_0 9)
theorem dX1_firstSteady_91 : decode cX1_firstSteady 91 = .ok (.lstore 5, 2) := dz_55 (dz_at q10w06_2_72 19)
theorem dX1_firstSteady_93 : decode cX1_firstSteady 93 = .ok (.lload 7, 2) := dz_22 (dz_at q10w06_2_72 21)
theorem dX1_firstSteady_95 : decode cX1_firstSteady 95 = .ok (.lconst 1, 1) := dz_10 (dz_at q10w06_2_72 23)
theorem dX1_firstSteady_96 : decode cX1_firstSteady 96 = .ok (.ladd, 1) := dz_97 (dz_at q10w06_2_96 0)
theorem dX1_firstSteady_97 : decode cX1_firstSteady 97 = .ok (.lstore 7, 2) := dz_55 (dz_at q10w06_2_96 1)
theorem dX1_firstSteady_99 : decode cX1_firstSteady 99 = .ok (.goto (-88), 3) := dz_167 (dz_at q10w06_2_96 3) (by decide +kernel)
theorem q10w06_3_0 : (cX1_first.data.toList.drop 0).take 24 = [32, 55, 4, 22, 4, 42, 180, 0, 15, 148, 156, 0, 24, 43, 22, 4, 182, 0, 72, 153, 0, 6, 22, 4] := by decide +kernel
theorem q10w06_3_24 : (cX1_first.data.toList.drop 24).take 22 = [173, 22, 4, 10, 97, 55, 4, 167, 255, 228, 42, 182, 0, 76, 9, 148, 154, 0, 9, 20, 0, 80] := by decide +kernel
theorem q10w06_3_46 : (cX1_first.data.toList.drop 46).take 16 = [167, 0, 15, 42, 32, 42, 180, 0, 15, 184, 0, 82, 182, 0, 85, 173] := by decide +kernel
theorem dX1_first_0 : decode cX1_first 0 = .ok (.lload_n 2, 1) := dz_32 (dz_at q10w06_3_0 0)
theorem dX1_first_1 : decode cX1_first 1 = .ok (.lstore 4, 2) := dz_55 (dz_at q10w06_3_0 1)
theorem dX1_first_10 : decode cX1_first 10 = .ok (.ifCond .ge 24, 3) := dz_156 (dz_at q10w06_3_0 10) (by decide +kernel)
theorem dX1_first_13 : decode cX1_first 13 = .ok (.aload_n 1, 1) := dz_43 (dz_at q10w06_3_0 13)
theorem dX1_first_14 : decode cX1_first 14 = .ok (.lload 4, 2) := dz_22 (dz_at q10w06_3_0 14)
theorem dX1_first_16 : decode cX1_first 16 = .ok (.invokevirtual 72, 3) := dz_182 (dz_at q10w06_3_0 16) rfl
theorem dX1_first_19 : decode cX1_first 19 = .ok (.ifCond .eq 6, 3) := dz_153 (dz_at q10w06_3_0 19) (by decide +kernel)
theorem dX1_first_22 : decode cX1_first 22 = .ok (.lload 4, 2) := dz_22 (dz_at q10w06_3_0 22)
theorem dX1_first_24 : decode cX1_first 24 = .ok (.lreturn, 1) := dz_173 (dz_at q10w06_3_24 0)
theorem dX1_first_25 : decode cX1_first 25 = .ok (.lload 4, 2) := dz_22 (dz_at q10w06_3_24 1)
theorem dX1_first_27 : decode cX1_first 27 = .ok (.lconst 1, 1) := dz_10 (dz_at q10w06_3_24 3)
theorem dX1_first_28 : decode cX1_first 28 = .ok (.ladd, 1) := dz_97 (dz_at q10w06_3_24 4)
theorem dX1_first_29 : decode cX1_first 29 = .ok (.lstore 4, 2) := dz_55 (dz_at q10w06_3_24 5)
theorem dX1_first_3 : decode cX1_first 3 = .ok (.lload 4, 2) := dz_22 (dz_at q10w06_3_0 3)
theorem dX1_first_31 : decode cX1_first 31 = .ok (.goto (-28), 3) := dz_167 (dz_at q10w06_3_24 7) (by decide +kernel)
theorem dX1_first_34 : decode cX1_first 34 = .ok (.aload_n 0, 1) := dz_42 (dz_at q10w06_3_24 10)
theorem dX1_first_35 : decode cX1_first 35 = .ok (.invokevirtual 76, 3) := dz_182 (dz_at q10w06_3_24 11) rfl
theorem dX1_first_38 : decode cX1_first 38 = .ok (.lconst 0, 1) := dz_9 (dz_at q10w06_3_24 14)
theorem dX1_first_39 : decode cX1_first 39 = .ok (.lcmp, 1) := dz_148 (dz_at q10w06_3_24 15)
theorem dX1_first_40 : decode cX1_first 40 = .ok (.ifCond .ne 9, 3) := dz_154 (dz_at q10w06_3_24 16) (by decide +kernel)
theorem dX1_first_43 : decode cX1_first 43 = .ok (.ldc2_w 80, 3) := dz_20 (dz_at q10w06_3_24 19) rfl
theorem dX1_first_46 : decode cX1_first 46 = .ok (.goto 15, 3) := dz_167 (dz_at q10w06_3_46 0) (by decide +kernel)
theorem dX1_first_49 : decode cX1_first 49 = .ok (.aload_n 0, 1) := dz_42 (dz_at q10w06_3_46 3)
theorem dX1_first_5 : decode cX1_first 5 = .ok (.aload_n 0, 1) := dz_42 (dz_at q10w06_3_0 5)
theorem dX1_first_50 : decode cX1_first 50 = .ok (.lload_n 2, 1) := dz_32 (dz_at q10w06_3_46 4)
theorem dX1_first_51 : decode cX1_first 51 = .ok (.aload_n 0, 1) := dz_42 (dz_at q10w06_3_46 5)
theorem dX1_first_52 : decode cX1_first 52 = .ok (.getfield 15, 3) := dz_180 (dz_at q10w06_3_46 6) rfl
theorem dX1_first_55 : decode cX1_first 55 = .ok (.invokestatic 82, 3) := dz_184 (dz_at q10w06_3_46 9) rfl
theorem dX1_first_58 : decode cX1_first 58 = .ok (.invokevirtual 85, 3) := dz_182 (dz_at q10w06_3_46 12) rfl
theorem dX1_first_6 : decode cX1_first 6 = .ok (.getfield 15, 3) := dz_180 (dz_at q10w06_3_0 6) rfl
theorem dX1_first_61 : decode cX1_first 61 = .ok (.lreturn, 1) := dz_173 (dz_at q10w06_3_46 15)
theorem dX1_first_9 : decode cX1_first 9 = .ok (.lcmp, 1) := dz_148 (dz_at q10w06_3_0 9)
theorem q10w06_4_0 : (cX1_howOften.data.toList.drop 0).take 24 = [42, 182, 0, 51, 60, 9, 65, 3, 54, 4, 21, 4, 27, 162, 0, 61, 10, 55, 5, 3, 54, 7, 21, 7] := by decide +kernel
theorem q10w06_4_24 : (cX1_howOften.data.toList.drop 24).take 23 = [42, 180, 0, 9, 162, 0, 35, 22, 5, 42, 21, 7, 21, 4, 42, 180, 0, 19, 21, 7, 46, 27, 133] := by decide +kernel
theorem q10w06_4_47 : (cX1_howOften.data.toList.drop 47).take 24 = [184, 0, 54, 182, 0, 58, 133, 105, 55, 5, 132, 7, 1, 167, 255, 218, 32, 22, 5, 97, 65, 132, 4, 1] := by decide +kernel
theorem q10w06_4_71 : (cX1_howOften.data.toList.drop 71).take 5 = [167, 255, 195, 32, 173] := by decide +kernel
theorem dX1_howOften_0 : decode cX1_howOften 0 = .ok (.aload_n 0, 1) := dz_42 (dz_at q10w06_4_0 0)
theorem dX1_howOften_1 : decode cX1_howOften 1 = .ok (.invokevirtual 51, 3) := dz_182 (dz_at q10w06_4_0 1) rfl
theorem dX1_howOften_10 : decode cX1_howOften 10 = .ok (.iload 4, 2) := dz_21 (dz_at q10w06_4_0 10)
theorem dX1_howOften_12 : decode cX1_howOften 12 = .ok (.iload_n 1, 1) := dz_27 (dz_at q10w06_4_0 12)
theorem dX1_howOften_13 : decode cX1_howOften 13 = .ok (.if_icmp .ge 61, 3) := dz_162 (dz_at q10w06_4_0 13) (by decide +kernel)
theorem dX1_howOften_16 : decode cX1_howOften 16 = .ok (.lconst 1, 1) := dz_10 (dz_at q10w06_4_0 16)
theorem dX1_howOften_17 : decode cX1_howOften 17 = .ok (.lstore 5, 2) := dz_55 (dz_at q10w06_4_0 17)
theorem dX1_howOften_19 : decode cX1_howOften 19 = .ok (.iconst 0, 1) := dz_3 (dz_at q10w06_4_0 19)
theorem dX1_howOften_20 : decode cX1_howOften 20 = .ok (.istore 7, 2) := dz_54 (dz_at q10w06_4_0 20)
theorem dX1_howOften_22 : decode cX1_howOften 22 = .ok (.iload 7, 2) := dz_21 (dz_at q10w06_4_0 22)
theorem dX1_howOften_24 : decode cX1_howOften 24 = .ok (.aload_n 0, 1) := dz_42 (dz_at q10w06_4_24 0)
theorem dX1_howOften_25 : decode cX1_howOften 25 = .ok (.getfield 9, 3) := dz_180 (dz_at q10w06_4_24 1) rfl
theorem dX1_howOften_28 : decode cX1_howOften 28 = .ok (.if_icmp .ge 35, 3) := dz_162 (dz_at q10w06_4_24 4) (by decide +kernel)
theorem dX1_howOften_31 : decode cX1_howOften 31 = .ok (.lload 5, 2) := dz_22 (dz_at q10w06_4_24 7)
theorem dX1_howOften_33 : decode cX1_howOften 33 = .ok (.aload_n 0, 1) := dz_42 (dz_at q10w06_4_24 9)
theorem dX1_howOften_34 : decode cX1_howOften 34 = .ok (.iload 7, 2) := dz_21 (dz_at q10w06_4_24 10)
theorem dX1_howOften_36 : decode cX1_howOften 36 = .ok (.iload 4, 2) := dz_21 (dz_at q10w06_4_24 12)
theorem dX1_howOften_38 : decode cX1_howOften 38 = .ok (.aload_n 0, 1) := dz_42 (dz_at q10w06_4_24 14)
theorem dX1_howOften_39 : decode cX1_howOften 39 = .ok (.getfield 19, 3) := dz_180 (dz_at q10w06_4_24 15) rfl
theorem dX1_howOften_4 : decode cX1_howOften 4 = .ok (.istore_n 1, 1) := dz_60 (dz_at q10w06_4_0 4)
theorem dX1_howOften_42 : decode cX1_howOften 42 = .ok (.iload 7, 2) := dz_21 (dz_at q10w06_4_24 18)
theorem dX1_howOften_44 : decode cX1_howOften 44 = .ok (.iaload, 1) := dz_46 (dz_at q10w06_4_24 20)
theorem dX1_howOften_45 : decode cX1_howOften 45 = .ok (.iload_n 1, 1) := dz_27 (dz_at q10w06_4_24 21)
theorem dX1_howOften_46 : decode cX1_howOften 46 = .ok (.i2l, 1) := dz_133 (dz_at q10w06_4_24 22)
theorem dX1_howOften_47 : decode cX1_howOften 47 = .ok (.invokestatic 54, 3) := dz_184 (dz_at q10w06_4_47 0) rfl
theorem dX1_howOften_5 : decode cX1_howOften 5 = .ok (.lconst 0, 1) := dz_9 (dz_at q10w06_4_0 5)
theorem dX1_howOften_50 : decode cX1_howOften 50 = .ok (.invokevirtual 58, 3) := dz_182 (dz_at q10w06_4_47 3) rfl
theorem dX1_howOften_53 : decode cX1_howOften 53 = .ok (.i2l, 1) := dz_133 (dz_at q10w06_4_47 6)
theorem dX1_howOften_54 : decode cX1_howOften 54 = .ok (.lmul, 1) := dz_105 (dz_at q10w06_4_47 7)
theorem dX1_howOften_55 : decode cX1_howOften 55 = .ok (.lstore 5, 2) := dz_55 (dz_at q10w06_4_47 8)
theorem dX1_howOften_57 : decode cX1_howOften 57 = .ok (.iinc 7 1, 3) := dz_132 (dz_at q10w06_4_47 10) (by decide +kernel)
theorem dX1_howOften_6 : decode cX1_howOften 6 = .ok (.lstore_n 2, 1) := dz_65 (dz_at q10w06_4_0 6)
theorem dX1_howOften_60 : decode cX1_howOften 60 = .ok (.goto (-38), 3) := dz_167 (dz_at q10w06_4_47 13) (by decide +kernel)
theorem dX1_howOften_63 : decode cX1_howOften 63 = .ok (.lload_n 2, 1) := dz_32 (dz_at q10w06_4_47 16)
theorem dX1_howOften_64 : decode cX1_howOften 64 = .ok (.lload 5, 2) := dz_22 (dz_at q10w06_4_47 17)
theorem dX1_howOften_66 : decode cX1_howOften 66 = .ok (.ladd, 1) := dz_97 (dz_at q10w06_4_47 19)
theorem dX1_howOften_67 : decode cX1_howOften 67 = .ok (.lstore_n 2, 1) := dz_65 (dz_at q10w06_4_47 20)
theorem dX1_howOften_68 : decode cX1_howOften 68 = .ok (.iinc 4 1, 3) := dz_132 (dz_at q10w06_4_47 21) (by decide +kernel)
theorem dX1_howOften_7 : decode cX1_howOften 7 = .ok (.iconst 0, 1) := dz_3 (dz_at q10w06_4_0 7)
theorem dX1_howOften_71 : decode cX1_howOften 71 = .ok (.goto (-61), 3) := dz_167 (dz_at q10w06_4_71 0) (by decide +kernel)
theorem dX1_howOften_74 : decode cX1_howOften 74 = .ok (.lload_n 2, 1) := dz_32 (dz_at q10w06_4_71 3)
theorem dX1_howOften_75 : decode cX1_howOften 75 = .ok (.lreturn, 1) := dz_173 (dz_at q10w06_4_71 4)
theorem dX1_howOften_8 : decode cX1_howOften 8 = .ok (.istore 4, 2) := dz_54 (dz_at q10w06_4_0 8)
theorem q10w06_5_0 : (cX1_sharedTicks.data.toList.drop 0).take 23 = [10, 64, 3, 62, 29, 42, 180, 0, 9, 162, 0, 51, 29, 4, 96, 54, 4, 21, 4, 42, 180, 0, 9] := by decide +kernel
theorem q10w06_5_23 : (cX1_sharedTicks.data.toList.drop 23).take 24 = [162, 0, 31, 31, 42, 180, 0, 19, 29, 46, 42, 180, 0, 19, 21, 4, 46, 133, 184, 0, 54, 184, 0, 47] := by decide +kernel
theorem q10w06_5_47 : (cX1_sharedTicks.data.toList.drop 47).take 16 = [64, 132, 4, 1, 167, 255, 222, 132, 3, 1, 167, 255, 203, 31, 136, 172] := by decide +kernel
theorem dX1_sharedTicks_0 : decode cX1_sharedTicks 0 = .ok (.lconst 1, 1) := dz_10 (dz_at q10w06_5_0 0)
theorem dX1_sharedTicks_1 : decode cX1_sharedTicks 1 = .ok (.lstore_n 1, 1) := dz_64 (dz_at q10w06_5_0 1)
theorem dX1_sharedTicks_12 : decode cX1_sharedTicks 12 = .ok (.iload_n 3, 1) := dz_29 (dz_at q10w06_5_0 12)
theorem dX1_sharedTicks_13 : decode cX1_sharedTicks 13 = .ok (.iconst 1, 1) := dz_4 (dz_at q10w06_5_0 13)
theorem dX1_sharedTicks_14 : decode cX1_sharedTicks 14 = .ok (.iadd, 1) := dz_96 (dz_at q10w06_5_0 14)
theorem dX1_sharedTicks_15 : decode cX1_sharedTicks 15 = .ok (.istore 4, 2) := dz_54 (dz_at q10w06_5_0 15)
theorem dX1_sharedTicks_17 : decode cX1_sharedTicks 17 = .ok (.iload 4, 2) := dz_21 (dz_at q10w06_5_0 17)
theorem dX1_sharedTicks_19 : decode cX1_sharedTicks 19 = .ok (.aload_n 0, 1) := dz_42 (dz_at q10w06_5_0 19)
theorem dX1_sharedTicks_2 : decode cX1_sharedTicks 2 = .ok (.iconst 0, 1) := dz_3 (dz_at q10w06_5_0 2)
theorem dX1_sharedTicks_20 : decode cX1_sharedTicks 20 = .ok (.getfield 9, 3) := dz_180 (dz_at q10w06_5_0 20) rfl
theorem dX1_sharedTicks_23 : decode cX1_sharedTicks 23 = .ok (.if_icmp .ge 31, 3) := dz_162 (dz_at q10w06_5_23 0) (by decide +kernel)
theorem dX1_sharedTicks_26 : decode cX1_sharedTicks 26 = .ok (.lload_n 1, 1) := dz_31 (dz_at q10w06_5_23 3)
theorem dX1_sharedTicks_27 : decode cX1_sharedTicks 27 = .ok (.aload_n 0, 1) := dz_42 (dz_at q10w06_5_23 4)
theorem dX1_sharedTicks_28 : decode cX1_sharedTicks 28 = .ok (.getfield 19, 3) := dz_180 (dz_at q10w06_5_23 5) rfl
theorem dX1_sharedTicks_3 : decode cX1_sharedTicks 3 = .ok (.istore_n 3, 1) := dz_62 (dz_at q10w06_5_0 3)
theorem dX1_sharedTicks_31 : decode cX1_sharedTicks 31 = .ok (.iload_n 3, 1) := dz_29 (dz_at q10w06_5_23 8)
theorem dX1_sharedTicks_32 : decode cX1_sharedTicks 32 = .ok (.iaload, 1) := dz_46 (dz_at q10w06_5_23 9)
theorem dX1_sharedTicks_33 : decode cX1_sharedTicks 33 = .ok (.aload_n 0, 1) := dz_42 (dz_at q10w06_5_23 10)
theorem dX1_sharedTicks_34 : decode cX1_sharedTicks 34 = .ok (.getfield 19, 3) := dz_180 (dz_at q10w06_5_23 11) rfl
theorem dX1_sharedTicks_37 : decode cX1_sharedTicks 37 = .ok (.iload 4, 2) := dz_21 (dz_at q10w06_5_23 14)
theorem dX1_sharedTicks_39 : decode cX1_sharedTicks 39 = .ok (.iaload, 1) := dz_46 (dz_at q10w06_5_23 16)
theorem dX1_sharedTicks_4 : decode cX1_sharedTicks 4 = .ok (.iload_n 3, 1) := dz_29 (dz_at q10w06_5_0 4)
theorem dX1_sharedTicks_40 : decode cX1_sharedTicks 40 = .ok (.i2l, 1) := dz_133 (dz_at q10w06_5_23 17)
theorem dX1_sharedTicks_41 : decode cX1_sharedTicks 41 = .ok (.invokestatic 54, 3) := dz_184 (dz_at q10w06_5_23 18) rfl
theorem dX1_sharedTicks_44 : decode cX1_sharedTicks 44 = .ok (.invokestatic 47, 3) := dz_184 (dz_at q10w06_5_23 21) rfl
theorem dX1_sharedTicks_47 : decode cX1_sharedTicks 47 = .ok (.lstore_n 1, 1) := dz_64 (dz_at q10w06_5_47 0)
theorem dX1_sharedTicks_48 : decode cX1_sharedTicks 48 = .ok (.iinc 4 1, 3) := dz_132 (dz_at q10w06_5_47 1) (by decide +kernel)
theorem dX1_sharedTicks_5 : decode cX1_sharedTicks 5 = .ok (.aload_n 0, 1) := dz_42 (dz_at q10w06_5_0 5)
theorem dX1_sharedTicks_51 : decode cX1_sharedTicks 51 = .ok (.goto (-34), 3) := dz_167 (dz_at q10w06_5_47 4) (by decide +kernel)
theorem dX1_sharedTicks_54 : decode cX1_sharedTicks 54 = .ok (.iinc 3 1, 3) := dz_132 (dz_at q10w06_5_47 7) (by decide +kernel)
theorem dX1_sharedTicks_57 : decode cX1_sharedTicks 57 = .ok (.goto (-53), 3) := dz_167 (dz_at q10w06_5_47 10) (by decide +kernel)
theorem dX1_sharedTicks_6 : decode cX1_sharedTicks 6 = .ok (.getfield 9, 3) := dz_180 (dz_at q10w06_5_0 6) rfl
theorem dX1_sharedTicks_60 : decode cX1_sharedTicks 60 = .ok (.lload_n 1, 1) := dz_31 (dz_at q10w06_5_47 13)
theorem dX1_sharedTicks_61 : decode cX1_sharedTicks 61 = .ok (.l2i, 1) := dz_136 (dz_at q10w06_5_47 14)
theorem dX1_sharedTicks_62 : decode cX1_sharedTicks 62 = .ok (.ireturn, 1) := dz_172 (dz_at q10w06_5_47 15)
theorem dX1_sharedTicks_9 : decode cX1_sharedTicks 9 = .ok (.if_icmp .ge 51, 3) := dz_162 (dz_at q10w06_5_0 9) (by decide +kernel)
theorem q10w06_6_0 : (cX1_ticksToTurn.data.toList.drop 0).take 23 = [42, 180, 0, 19, 27, 46, 62, 3, 54, 4, 21, 4, 29, 162, 0, 33, 42, 180, 0, 23, 27, 46, 28] := by decide +kernel
theorem q10w06_6_23 : (cX1_ticksToTurn.data.toList.drop 23).take 24 = [21, 4, 96, 133, 29, 184, 0, 62, 122, 4, 126, 153, 0, 6, 21, 4, 172, 132, 4, 1, 167, 255, 223, 29] := by decide +kernel
theorem q10w06_6_47 : (cX1_ticksToTurn.data.toList.drop 47).take 1 = [172] := by decide +kernel
theorem dX1_ticksToTurn_0 : decode cX1_ticksToTurn 0 = .ok (.aload_n 0, 1) := dz_42 (dz_at q10w06_6_0 0)
theorem dX1_ticksToTurn_1 : decode cX1_ticksToTurn 1 = .ok (.getfield 19, 3) := dz_180 (dz_at q10w06_6_0 1) rfl
theorem dX1_ticksToTurn_10 : decode cX1_ticksToTurn 10 = .ok (.iload 4, 2) := dz_21 (dz_at q10w06_6_0 10)
theorem dX1_ticksToTurn_12 : decode cX1_ticksToTurn 12 = .ok (.iload_n 3, 1) := dz_29 (dz_at q10w06_6_0 12)
theorem dX1_ticksToTurn_13 : decode cX1_ticksToTurn 13 = .ok (.if_icmp .ge 33, 3) := dz_162 (dz_at q10w06_6_0 13) (by decide +kernel)
theorem dX1_ticksToTurn_16 : decode cX1_ticksToTurn 16 = .ok (.aload_n 0, 1) := dz_42 (dz_at q10w06_6_0 16)
theorem dX1_ticksToTurn_17 : decode cX1_ticksToTurn 17 = .ok (.getfield 23, 3) := dz_180 (dz_at q10w06_6_0 17) rfl
theorem dX1_ticksToTurn_20 : decode cX1_ticksToTurn 20 = .ok (.iload_n 1, 1) := dz_27 (dz_at q10w06_6_0 20)
theorem dX1_ticksToTurn_21 : decode cX1_ticksToTurn 21 = .ok (.iaload, 1) := dz_46 (dz_at q10w06_6_0 21)
theorem dX1_ticksToTurn_22 : decode cX1_ticksToTurn 22 = .ok (.iload_n 2, 1) := dz_28 (dz_at q10w06_6_0 22)
theorem dX1_ticksToTurn_23 : decode cX1_ticksToTurn 23 = .ok (.iload 4, 2) := dz_21 (dz_at q10w06_6_23 0)
theorem dX1_ticksToTurn_25 : decode cX1_ticksToTurn 25 = .ok (.iadd, 1) := dz_96 (dz_at q10w06_6_23 2)
theorem dX1_ticksToTurn_26 : decode cX1_ticksToTurn 26 = .ok (.i2l, 1) := dz_133 (dz_at q10w06_6_23 3)
theorem dX1_ticksToTurn_27 : decode cX1_ticksToTurn 27 = .ok (.iload_n 3, 1) := dz_29 (dz_at q10w06_6_23 4)
theorem dX1_ticksToTurn_28 : decode cX1_ticksToTurn 28 = .ok (.invokestatic 62, 3) := dz_184 (dz_at q10w06_6_23 5) rfl
theorem dX1_ticksToTurn_31 : decode cX1_ticksToTurn 31 = .ok (.ishr, 1) := dz_122 (dz_at q10w06_6_23 8)
theorem dX1_ticksToTurn_32 : decode cX1_ticksToTurn 32 = .ok (.iconst 1, 1) := dz_4 (dz_at q10w06_6_23 9)
theorem dX1_ticksToTurn_33 : decode cX1_ticksToTurn 33 = .ok (.iand, 1) := dz_126 (dz_at q10w06_6_23 10)
theorem dX1_ticksToTurn_34 : decode cX1_ticksToTurn 34 = .ok (.ifCond .eq 6, 3) := dz_153 (dz_at q10w06_6_23 11) (by decide +kernel)
theorem dX1_ticksToTurn_37 : decode cX1_ticksToTurn 37 = .ok (.iload 4, 2) := dz_21 (dz_at q10w06_6_23 14)
theorem dX1_ticksToTurn_39 : decode cX1_ticksToTurn 39 = .ok (.ireturn, 1) := dz_172 (dz_at q10w06_6_23 16)
theorem dX1_ticksToTurn_4 : decode cX1_ticksToTurn 4 = .ok (.iload_n 1, 1) := dz_27 (dz_at q10w06_6_0 4)
theorem dX1_ticksToTurn_40 : decode cX1_ticksToTurn 40 = .ok (.iinc 4 1, 3) := dz_132 (dz_at q10w06_6_23 17) (by decide +kernel)
theorem dX1_ticksToTurn_43 : decode cX1_ticksToTurn 43 = .ok (.goto (-33), 3) := dz_167 (dz_at q10w06_6_23 20) (by decide +kernel)
theorem dX1_ticksToTurn_46 : decode cX1_ticksToTurn 46 = .ok (.iload_n 3, 1) := dz_29 (dz_at q10w06_6_23 23)
theorem dX1_ticksToTurn_47 : decode cX1_ticksToTurn 47 = .ok (.ireturn, 1) := dz_172 (dz_at q10w06_6_47 0)
theorem dX1_ticksToTurn_5 : decode cX1_ticksToTurn 5 = .ok (.iaload, 1) := dz_46 (dz_at q10w06_6_0 5)
theorem dX1_ticksToTurn_6 : decode cX1_ticksToTurn 6 = .ok (.istore_n 3, 1) := dz_62 (dz_at q10w06_6_0 6)
theorem dX1_ticksToTurn_7 : decode cX1_ticksToTurn 7 = .ok (.iconst 0, 1) := dz_3 (dz_at q10w06_6_0 7)
theorem dX1_ticksToTurn_8 : decode cX1_ticksToTurn 8 = .ok (.istore 4, 2) := dz_54 (dz_at q10w06_6_0 8)
theorem q10w06_7_0 : (cX1_turnsAlike.data.toList.drop 0).take 24 = [3, 54, 4, 28, 133, 29, 184, 0, 62, 54, 5, 21, 5, 42, 180, 0, 19, 27, 46, 162, 0, 32, 21, 4] := by decide +kernel
theorem q10w06_7_24 : (cX1_turnsAlike.data.toList.drop 24).take 24 = [42, 180, 0, 23, 27, 46, 21, 5, 122, 4, 126, 96, 54, 4, 21, 5, 4, 29, 184, 0, 66, 96, 54, 5] := by decide +kernel
theorem q10w06_7_48 : (cX1_turnsAlike.data.toList.drop 48).take 6 = [167, 255, 219, 21, 4, 172] := by decide +kernel
theorem dX1_turnsAlike_0 : decode cX1_turnsAlike 0 = .ok (.iconst 0, 1) := dz_3 (dz_at q10w06_7_0 0)
theorem dX1_turnsAlike_1 : decode cX1_turnsAlike 1 = .ok (.istore 4, 2) := dz_54 (dz_at q10w06_7_0 1)
theorem dX1_turnsAlike_11 : decode cX1_turnsAlike 11 = .ok (.iload 5, 2) := dz_21 (dz_at q10w06_7_0 11)
theorem dX1_turnsAlike_13 : decode cX1_turnsAlike 13 = .ok (.aload_n 0, 1) := dz_42 (dz_at q10w06_7_0 13)
theorem dX1_turnsAlike_14 : decode cX1_turnsAlike 14 = .ok (.getfield 19, 3) := dz_180 (dz_at q10w06_7_0 14) rfl
theorem dX1_turnsAlike_17 : decode cX1_turnsAlike 17 = .ok (.iload_n 1, 1) := dz_27 (dz_at q10w06_7_0 17)
theorem dX1_turnsAlike_18 : decode cX1_turnsAlike 18 = .ok (.iaload, 1) := dz_46 (dz_at q10w06_7_0 18)
theorem dX1_turnsAlike_19 : decode cX1_turnsAlike 19 = .ok (.if_icmp .ge 32, 3) := dz_162 (dz_at q10w06_7_0 19) (by decide +kernel)
theorem dX1_turnsAlike_22 : decode cX1_turnsAlike 22 = .ok (.iload 4, 2) := dz_21 (dz_at q10w06_7_0 22)
theorem dX1_turnsAlike_24 : decode cX1_turnsAlike 24 = .ok (.aload_n 0, 1) := dz_42 (dz_at q10w06_7_24 0)
theorem dX1_turnsAlike_25 : decode cX1_turnsAlike 25 = .ok (.getfield 23, 3) := dz_180 (dz_at q10w06_7_24 1) rfl
theorem dX1_turnsAlike_28 : decode cX1_turnsAlike 28 = .ok (.iload_n 1, 1) := dz_27 (dz_at q10w06_7_24 4)
theorem dX1_turnsAlike_29 : decode cX1_turnsAlike 29 = .ok (.iaload, 1) := dz_46 (dz_at q10w06_7_24 5)
theorem dX1_turnsAlike_3 : decode cX1_turnsAlike 3 = .ok (.iload_n 2, 1) := dz_28 (dz_at q10w06_7_0 3)
theorem dX1_turnsAlike_30 : decode cX1_turnsAlike 30 = .ok (.iload 5, 2) := dz_21 (dz_at q10w06_7_24 6)
theorem dX1_turnsAlike_32 : decode cX1_turnsAlike 32 = .ok (.ishr, 1) := dz_122 (dz_at q10w06_7_24 8)
theorem dX1_turnsAlike_33 : decode cX1_turnsAlike 33 = .ok (.iconst 1, 1) := dz_4 (dz_at q10w06_7_24 9)
theorem dX1_turnsAlike_34 : decode cX1_turnsAlike 34 = .ok (.iand, 1) := dz_126 (dz_at q10w06_7_24 10)
theorem dX1_turnsAlike_35 : decode cX1_turnsAlike 35 = .ok (.iadd, 1) := dz_96 (dz_at q10w06_7_24 11)
theorem dX1_turnsAlike_36 : decode cX1_turnsAlike 36 = .ok (.istore 4, 2) := dz_54 (dz_at q10w06_7_24 12)
theorem dX1_turnsAlike_38 : decode cX1_turnsAlike 38 = .ok (.iload 5, 2) := dz_21 (dz_at q10w06_7_24 14)
theorem dX1_turnsAlike_4 : decode cX1_turnsAlike 4 = .ok (.i2l, 1) := dz_133 (dz_at q10w06_7_0 4)
theorem dX1_turnsAlike_40 : decode cX1_turnsAlike 40 = .ok (.iconst 1, 1) := dz_4 (dz_at q10w06_7_24 16)
theorem dX1_turnsAlike_41 : decode cX1_turnsAlike 41 = .ok (.iload_n 3, 1) := dz_29 (dz_at q10w06_7_24 17)
theorem dX1_turnsAlike_42 : decode cX1_turnsAlike 42 = .ok (.invokestatic 66, 3) := dz_184 (dz_at q10w06_7_24 18) rfl
theorem dX1_turnsAlike_45 : decode cX1_turnsAlike 45 = .ok (.iadd, 1) := dz_96 (dz_at q10w06_7_24 21)
theorem dX1_turnsAlike_46 : decode cX1_turnsAlike 46 = .ok (.istore 5, 2) := dz_54 (dz_at q10w06_7_24 22)
theorem dX1_turnsAlike_48 : decode cX1_turnsAlike 48 = .ok (.goto (-37), 3) := dz_167 (dz_at q10w06_7_48 0) (by decide +kernel)
theorem dX1_turnsAlike_5 : decode cX1_turnsAlike 5 = .ok (.iload_n 3, 1) := dz_29 (dz_at q10w06_7_0 5)
theorem dX1_turnsAlike_51 : decode cX1_turnsAlike 51 = .ok (.iload 4, 2) := dz_21 (dz_at q10w06_7_48 3)
theorem dX1_turnsAlike_53 : decode cX1_turnsAlike 53 = .ok (.ireturn, 1) := dz_172 (dz_at q10w06_7_48 5)
theorem dX1_turnsAlike_6 : decode cX1_turnsAlike 6 = .ok (.invokestatic 62, 3) := dz_184 (dz_at q10w06_7_0 6) rfl
theorem dX1_turnsAlike_9 : decode cX1_turnsAlike 9 = .ok (.istore 5, 2) := dz_54 (dz_at q10w06_7_0 9)
theorem q10w06_8_0 : (cX9_meetsAt.data.toList.drop 0).take 24 = [3, 62, 29, 42, 180, 0, 23, 162, 0, 25, 42, 42, 180, 0, 19, 29, 50, 31, 182, 0, 80, 154, 0, 5] := by decide +kernel
theorem q10w06_8_24 : (cX9_meetsAt.data.toList.drop 24).take 10 = [3, 172, 132, 3, 1, 167, 255, 229, 4, 172] := by decide +kernel
theorem dX9_meetsAt_0 : decode cX9_meetsAt 0 = .ok (.iconst 0, 1) := dz_3 (dz_at q10w06_8_0 0)
theorem dX9_meetsAt_1 : decode cX9_meetsAt 1 = .ok (.istore_n 3, 1) := dz_62 (dz_at q10w06_8_0 1)
theorem dX9_meetsAt_10 : decode cX9_meetsAt 10 = .ok (.aload_n 0, 1) := dz_42 (dz_at q10w06_8_0 10)
theorem dX9_meetsAt_11 : decode cX9_meetsAt 11 = .ok (.aload_n 0, 1) := dz_42 (dz_at q10w06_8_0 11)
theorem dX9_meetsAt_12 : decode cX9_meetsAt 12 = .ok (.getfield 19, 3) := dz_180 (dz_at q10w06_8_0 12) rfl
theorem dX9_meetsAt_15 : decode cX9_meetsAt 15 = .ok (.iload_n 3, 1) := dz_29 (dz_at q10w06_8_0 15)
theorem dX9_meetsAt_16 : decode cX9_meetsAt 16 = .ok (.aaload, 1) := dz_50 (dz_at q10w06_8_0 16)
theorem dX9_meetsAt_17 : decode cX9_meetsAt 17 = .ok (.lload_n 1, 1) := dz_31 (dz_at q10w06_8_0 17)
theorem dX9_meetsAt_18 : decode cX9_meetsAt 18 = .ok (.invokevirtual 80, 3) := dz_182 (dz_at q10w06_8_0 18) rfl
theorem dX9_meetsAt_2 : decode cX9_meetsAt 2 = .ok (.iload_n 3, 1) := dz_29 (dz_at q10w06_8_0 2)
theorem dX9_meetsAt_21 : decode cX9_meetsAt 21 = .ok (.ifCond .ne 5, 3) := dz_154 (dz_at q10w06_8_0 21) (by decide +kernel)
theorem dX9_meetsAt_24 : decode cX9_meetsAt 24 = .ok (.iconst 0, 1) := dz_3 (dz_at q10w06_8_24 0)
theorem dX9_meetsAt_25 : decode cX9_meetsAt 25 = .ok (.ireturn, 1) := dz_172 (dz_at q10w06_8_24 1)
theorem dX9_meetsAt_26 : decode cX9_meetsAt 26 = .ok (.iinc 3 1, 3) := dz_132 (dz_at q10w06_8_24 2) (by decide +kernel)
theorem dX9_meetsAt_29 : decode cX9_meetsAt 29 = .ok (.goto (-27), 3) := dz_167 (dz_at q10w06_8_24 5) (by decide +kernel)
theorem dX9_meetsAt_3 : decode cX9_meetsAt 3 = .ok (.aload_n 0, 1) := dz_42 (dz_at q10w06_8_0 3)
theorem dX9_meetsAt_32 : decode cX9_meetsAt 32 = .ok (.iconst 1, 1) := dz_4 (dz_at q10w06_8_24 8)
theorem dX9_meetsAt_33 : decode cX9_meetsAt 33 = .ok (.ireturn, 1) := dz_172 (dz_at q10w06_8_24 9)
theorem dX9_meetsAt_4 : decode cX9_meetsAt 4 = .ok (.getfield 23, 3) := dz_180 (dz_at q10w06_8_0 4) rfl
theorem dX9_meetsAt_7 : decode cX9_meetsAt 7 = .ok (.if_icmp .ge 25, 3) := dz_162 (dz_at q10w06_8_0 7) (by decide +kernel)
theorem dm_X11_isSounds : yX11_isSounds.cls = RX11 ∧ yX11_isSounds.cls ≠ "java/lang/invoke/MethodHandle" ∧ yX11_isSounds.cls ≠ "java/lang/invoke/VarHandle" ∧ (parseMethodDescriptor yX11_isSounds.desc).map (fun d => d.parameters.length) = some 1 := by decide +kernel
theorem dm_X1_sharedTicks : yX1_sharedTicks.cls = RX1 ∧ yX1_sharedTicks.cls ≠ "java/lang/invoke/MethodHandle" ∧ yX1_sharedTicks.cls ≠ "java/lang/invoke/VarHandle" ∧ (parseMethodDescriptor yX1_sharedTicks.desc).map (fun d => d.parameters.length) = some 0 := by decide +kernel
theorem dm_X1_turnsAlike : yX1_turnsAlike.cls = RX1 ∧ yX1_turnsAlike.cls ≠ "java/lang/invoke/MethodHandle" ∧ yX1_turnsAlike.cls ≠ "java/lang/invoke/VarHandle" ∧ (parseMethodDescriptor yX1_turnsAlike.desc).map (fun d => d.parameters.length) = some 3 := by decide +kernel
theorem dm_X1_ticksToTurn : yX1_ticksToTurn.cls = RX1 ∧ yX1_ticksToTurn.cls ≠ "java/lang/invoke/MethodHandle" ∧ yX1_ticksToTurn.cls ≠ "java/lang/invoke/VarHandle" ∧ (parseMethodDescriptor yX1_ticksToTurn.desc).map (fun d => d.parameters.length) = some 2 := by decide +kernel
theorem dm_X1_howOften : yX1_howOften.cls = RX1 ∧ yX1_howOften.cls ≠ "java/lang/invoke/MethodHandle" ∧ yX1_howOften.cls ≠ "java/lang/invoke/VarHandle" ∧ (parseMethodDescriptor yX1_howOften.desc).map (fun d => d.parameters.length) = some 0 := by decide +kernel
theorem dm_X1_firstSteady : yX1_firstSteady.cls = RX1 ∧ yX1_firstSteady.cls ≠ "java/lang/invoke/MethodHandle" ∧ yX1_firstSteady.cls ≠ "java/lang/invoke/VarHandle" ∧ (parseMethodDescriptor yX1_firstSteady.desc).map (fun d => d.parameters.length) = some 1 := by decide +kernel
theorem dm_X9_meetsAt : yX9_meetsAt.cls = RX9 ∧ yX9_meetsAt.cls ≠ "java/lang/invoke/MethodHandle" ∧ yX9_meetsAt.cls ≠ "java/lang/invoke/VarHandle" ∧ (parseMethodDescriptor yX9_meetsAt.desc).map (fun d => d.parameters.length) = some 1 := by decide +kernel
theorem dm_X1_first : yX1_first.cls = RX1 ∧ yX1_first.cls ≠ "java/lang/invoke/MethodHandle" ∧ yX1_first.cls ≠ "java/lang/invoke/VarHandle" ∧ (parseMethodDescriptor yX1_first.desc).map (fun d => d.parameters.length) = some 2 := by decide +kernel
set_option maxRecDepth 100000 in
def wC_wish (a0 : Int) (a1 : Int) (M : zM) (Q : Int → zM → Prop) : Prop := wC_Studio_find a0 M (fun z2 => (z2 = none → Q 0 M) ∧ (∀ q4, z2 = some q4 → (q4 < nC ∧ zcd wC q4 = 14) ∧ (wC_isSounds a1 M (fun z14 => (z14 ≠ 0 → (∀ M18 : zM, M18 = zup M q4 4 a1 → Q 1 M18)) ∧ (z14 = 0 → Q 0 M)))))
set_option maxHeartbeats 4000000 in
set_option maxRecDepth 100000 in
theorem cC_wish (l : Launch) (D : va_G) (dA : Nat → ClassId) (b : Nat) (M : zM) (a0 : Int) (a1 : Int)  (Q : Int → zM → Prop) (h : wC_wish a0 a1 M Q) : Met l yX11_wish (.code yX11_wish cX11_wish 4 (some .boolean) :: zt) (z_rm 1) (va_Pc [.ref (b + 0), .int (iI a0), .int (iI a1)] (wPre D dA vwCl (z_tys dA) wC nC b M)) (va_Qi (wQz Q) (zB D dA vwCl wC nC b) (zA nC b)) 0 0 (zA nC b) := by
  unfold wC_wish at h
  refine Met.ofW (cc := cX11_wish) (maxL := 4) (ret := (some .boolean)) (by decide) rfl ?_
  intro p e s m args below meth c s₁ B hml hv
  obtain ⟨hargs, hS, hK⟩ := hv
  have hx := B.exec
  have hb := B.bytes
  have hr := B.returns
  have hts := atoms_spec (ws := .code yX11_wish cX11_wish 4 (some .boolean) :: zt) B.pre
  have hown : s.vm.findClass RX11 = some m.cls := findClass_of_methodNamed B.named
  have hlocks := B.notSynchronized
  have hS0 : va_S (zA nC b) s.heap s.heap [] := va_S.rf
  have hl := lv_entry ([.ref (b + 0), .int (iI a0), .int (iI a1)]) (n := 4) (Nat.le_of_ble_eq_true rfl)
  have hent : entryFrame m args 4 = F0 m 0 ((lg_sl ([.ref (b + 0), .int (iI a0), .int (iI a1)]) ++ List.replicate (4 - (lg_sl ([.ref (b + 0), .int (iI a0), .int (iI a1)])).length) Slot.unset).toArray) [] := by rw [hargs]; exact lg_entry_eq m ([.ref (b + 0), .int (iI a0), .int (iI a1)]) 4
  rw [hent]
  generalize (lg_sl ([.ref (b + 0), .int (iI a0), .int (iI a1)]) ++ List.replicate (4 - (lg_sl ([.ref (b + 0), .int (iI a0), .int (iI a1)])).length) Slot.unset).toArray = ls at hl ⊢
  have hl : lv_has ls 4 [(0, .ref (b + 0)), (1, .int (iI a0)), (2, .int (iI a1))] := hl
  refine lv_aload_n hx hb dX11_wish_0 rfl (lv_at hl 0 rfl) ?_
  refine w_getr (j2 := 32) hx hb hts (z_memU u11) hown hK.1 hS f11_2 (by decide) (zkd_of (rfl : zcd wC 0 = 0) rfl) (zrf_of (rfl : zcd wC 0 = 0) rfl) (Or.inl (hts _ (z_mem k244))) dX11_wish_1 ?_
  refine lv_iload_n hx hb dX11_wish_4 rfl (lv_at hl 1 rfl) ?_
  refine w_callq (va_runV (As := [.int (iI a0)]) (rest := []) ⟨hx, hb, hml, hown, hts⟩ (cC_Studio_find l D dA b M a0 _ h) (cwV 1 hts (z_gV k411 k412 k413 k4 k414) rfl rfl rfl dm_X9_find ⟨Nat.le_of_ble_eq_true rfl, Nat.le_of_ble_eq_true rfl⟩) ⟨wPre_blind, (w_recv hS hK.1 (by decide) (zkd_of (rfl : zcd wC 32 = 8) rfl) (by decide) (rfl : vwCl[9]? = some (RX9, TX9, 3))), w_pre hS hK⟩ rfl rfl hl.1 rfl (lv_room (Nat.le_of_ble_eq_true rfl)) dX11_wish_5 ⟨Nat.le_refl _, Nat.le_refl _⟩) hS0 (fun z2 M1 H locs h hS hS0 => ?_)
  obtain ⟨e3, h⟩ := h
  rw [e3] at hS
  rcases z2 with _ | q4
  · skip
    have h := h.1 rfl
    refine lv_astore_nN (lv' := [(3, .null), (0, .ref (b + 0)), (1, .int (iI a0)), (2, .int (iI a1))]) hx hb dX11_wish_8 rfl hl (by decide) rfl (fun ls hl => ?_)
    refine lv_aload_nN hx hb dX11_wish_9 rfl (lv_at hl 0 rfl) ?_
    refine lv_ifnullN (tgt := 20) hx hb dX11_wish_10 (by decide) ?_
    refine z_iconst hx hb dX11_wish_20 ?_
    exact w_zret hx hb hr hlocks hS hS0 (sI_of (by decide)) (by decide) h dX11_wish_21
  · skip
    obtain ⟨⟨lt5, cd6⟩, h⟩ := h.2 q4 rfl
    obtain ⟨lt7, cd8, lt9, cd10, lt11, cd12⟩ := nx_ring q4 lt5 cd6
    refine lv_astore_n (lv' := [(3, .ref (b + q4)), (0, .ref (b + 0)), (1, .int (iI a0)), (2, .int (iI a1))]) hx hb dX11_wish_8 rfl hl (by decide) rfl (fun ls hl => ?_)
    refine lv_aload_n hx hb dX11_wish_9 rfl (lv_at hl 0 rfl) ?_
    refine lv_ifnull hx hb dX11_wish_10 ?_
    refine lv_iload_n hx hb dX11_wish_13 rfl (lv_at hl 3 rfl) ?_
    refine w_callz (va_runS (As := [.int (iI a1)]) (rest := []) ⟨hx, hb, hml, hown, hts⟩ (cC_isSounds l D dA b M a1 _ h) (va_cwS 1 hts (z_gS k553 k554 k1 k555) rfl rfl rfl dm_X11_isSounds.2 ⟨Nat.le_of_ble_eq_true rfl, Nat.le_of_ble_eq_true rfl⟩) ⟨wPre_blind, w_pre hS hK⟩ rfl rfl hl.1 rfl (lv_room (Nat.le_of_ble_eq_true rfl)) dX11_wish_14 ⟨Nat.le_refl _, Nat.le_refl _⟩) hS0 (fun z14 M13 H locs r15 h hS hS0 => ?_)
    obtain ⟨e16, h⟩ := h
    rw [e16] at hS
    refine w_if_ne (tgt := 22) hx hb (sI_01 r15) dX11_wish_17 (by decide) (fun c17 => ?_) (fun c17 => ?_)
    · skip
      have h := h.1 c17
      refine lv_aload_n hx hb dX11_wish_22 rfl (lv_at hl 0 rfl) ?_
      refine lv_iload_n hx hb dX11_wish_23 rfl (lv_at hl 3 rfl) ?_
      refine w_puti hx hb hts (z_memU u6) tyX6 tyX6_ok nmX6 hown hK.1 hS hS0 f6_4 lt5 (zkd_of cd6 rfl) (Or.inl (hts _ (z_mem k108))) rfl (z := a1) (by decide +kernel) dX11_wish_24 (fun H locs hS hS0 => ?_)
      obtain ⟨M18, e19⟩ : ∃ M18 : zM, M18 = zup M q4 4 a1 := ⟨_, rfl⟩
      rw [← e19] at hS
      have h := h M18 e19
      refine z_iconst hx hb dX11_wish_27 ?_
      exact w_zret hx hb hr hlocks hS hS0 (sI_of (by decide)) (by decide) h dX11_wish_28
    · skip
      have h := h.2 c17
      refine z_iconst hx hb dX11_wish_20 ?_
      exact w_zret hx hb hr hlocks hS hS0 (sI_of (by decide)) (by decide) h dX11_wish_21

set_option maxRecDepth 100000 in
def wC_Studio_meetsAt (a0 : Int) (M : zM) (Q : Int → Prop) : Prop := pL1 (fun K2 x1 => ((sI (M 32 2)) ≤ (sI x1) → Q 1) ∧ ((sI x1) < (sI (M 32 2)) → ((0 ≤ (sI x1) ∧ (sI x1) < 4) ∧ wC_Studio_grants (41 + 4 * (sI x1).toNat) a0 M (fun z20 => (z20 ≠ 0 → K2 (x1 + 1)) ∧ (z20 = 0 → Q 0))))) 0
set_option maxHeartbeats 4000000 in
set_option maxRecDepth 100000 in
theorem cC_Studio_meetsAt (l : Launch) (D : va_G) (dA : Nat → ClassId) (b : Nat) (M : zM) (a0 : Int)  (Q : Int → Prop) (h : wC_Studio_meetsAt a0 M Q) : Met l yX9_meetsAt (.code yX9_meetsAt cX9_meetsAt 4 (some .boolean) :: zt) (z_rm 4) (va_Pc [.ref (b + 32), .long (iL a0)] (wPre D dA vwCl (z_tys dA) wC nC b M)) (va_Qi (wQz (fun z9 u9 => u9 = M ∧ Q z9)) (zB D dA vwCl wC nC b) (zA nC b)) 0 0 (zA nC b) := by
  unfold wC_Studio_meetsAt at h
  refine Met.ofW (cc := cX9_meetsAt) (maxL := 4) (ret := (some .boolean)) (by decide) rfl ?_
  intro p e s m args below meth c s₁ B hml hv
  obtain ⟨hargs, hS, hK⟩ := hv
  have hx := B.exec
  have hb := B.bytes
  have hr := B.returns
  have hts := atoms_spec (ws := .code yX9_meetsAt cX9_meetsAt 4 (some .boolean) :: zt) B.pre
  have hown : s.vm.findClass RX9 = some m.cls := findClass_of_methodNamed B.named
  have hlocks := B.notSynchronized
  have hS0 : va_S (zA nC b) s.heap s.heap [] := va_S.rf
  have hl := lv_entry ([.ref (b + 32), .long (iL a0)]) (n := 4) (Nat.le_of_ble_eq_true rfl)
  have hent : entryFrame m args 4 = F0 m 0 ((lg_sl ([.ref (b + 32), .long (iL a0)]) ++ List.replicate (4 - (lg_sl ([.ref (b + 32), .long (iL a0)])).length) Slot.unset).toArray) [] := by rw [hargs]; exact lg_entry_eq m ([.ref (b + 32), .long (iL a0)]) 4
  rw [hent]
  generalize (lg_sl ([.ref (b + 32), .long (iL a0)]) ++ List.replicate (4 - (lg_sl ([.ref (b + 32), .long (iL a0)])).length) Slot.unset).toArray = ls at hl ⊢
  have hl : lv_has ls 4 [(0, .ref (b + 32)), (1, .long (iL a0))] := hl
  refine z_iconst hx hb dX9_meetsAt_0 ?_
  refine lv_istore_n (lv' := [(3, .int (iI 0)), (0, .ref (b + 32)), (1, .long (iL a0))]) hx hb dX9_meetsAt_1 rfl hl (by decide) rfl (fun ls hl => ?_)
  obtain ⟨I2, ⟨n3, h4⟩, h5⟩ := h
  have L6 : ∀ (n7 : Nat) (x1 : Int) (H : Heap) (locs : List Loc) (ls : Array Slot), I2 n7 x1 → zR D dA vwCl wC nC b M H → va_S (zA nC b) s.heap H locs → lv_has ls 4 [(0, .ref (b + 32)), (1, .long (iL a0)), (3, .int (iI x1))] → W p l e (headSpec (.code yX9_meetsAt cX9_meetsAt 4 (some .boolean) :: zt) (z_rm 4)).room s m args below meth c H locs 0 0 (MQ below (va_Qi (wQz (fun z9 u9 => u9 = M ∧ Q z9)) (zB D dA vwCl wC nC b) (zA nC b)) args s 0 0 (zA nC b)) (F0 m 2 ls []) := by
    intro n7
    induction n7 using Nat.strongRecOn with
    | ind n7 i8 =>
      intro x1 H locs ls h hS hS0 hl
      have h := h5 n7 x1 h
      refine lv_iload_n hx hb dX9_meetsAt_2 rfl (lv_at hl 2 rfl) ?_
      refine lv_aload_n hx hb dX9_meetsAt_3 rfl (lv_at hl 0 rfl) ?_
      refine w_geti hx hb hts (z_memU u9) hown hK.1 hS f9_2 (by decide) (zkd_of (rfl : zcd wC 32 = 8) rfl) (Or.inl (hts _ (z_mem k118))) dX9_meetsAt_4 ?_
      refine w_icmp_ge (tgt := 32) hx hb rfl rfl dX9_meetsAt_7 (by decide) (fun c9 => ?_) (fun c9 => ?_)
      · skip
        have h := h.1 c9
        refine z_iconst hx hb dX9_meetsAt_32 ?_
        exact w_zret hx hb hr hlocks hS hS0 (sI_of (by decide)) (by decide) ⟨rfl, h⟩ dX9_meetsAt_33
      · skip
        have h := h.2 c9
        refine lv_aload_n hx hb dX9_meetsAt_10 rfl (lv_at hl 0 rfl) ?_
        refine lv_aload_n hx hb dX9_meetsAt_11 rfl (lv_at hl 0 rfl) ?_
        refine w_getr (j2 := 34) hx hb hts (z_memU u9) hown hK.1 hS f9_1 (by decide) (zkd_of (rfl : zcd wC 32 = 8) rfl) (zrf_of (rfl : zcd wC 32 = 8) rfl) (Or.inl (hts _ (z_mem k117))) dX9_meetsAt_12 ?_
        refine lv_iload_n hx hb dX9_meetsAt_15 rfl (lv_at hl 2 rfl) ?_
        obtain ⟨o10, h⟩ := h
        refine w_aald (n := 4) (i := (sI x1)) (j2 := (41 + 4 * (sI x1).toNat)) hx hb hK.1 (t0 := 6) (r := 6) (by decide) rfl rfl hS (by decide) (zkd_of (rfl : zcd wC 34 = 10) rfl) (zln_of (rfl : zcd wC 34 = 10) rfl) rfl o10.1 o10.2 (by decide) (zrf_of (rfl : zcd wC 34 = 10) rfl) dX9_meetsAt_16 ?_
        obtain ⟨lt11, cd12⟩ : (41 + 4 * (sI x1).toNat) < nC ∧ zcd wC (41 + 4 * (sI x1).toNat) = 14 := (by decide : ∀ k : Nat, k < 4 → (41 + 4 * k) < nC ∧ zcd wC (41 + 4 * k) = 14) (sI x1).toNat (by clear h; have h0 := o10.1; have h1 := o10.2; omega)
        obtain ⟨lt13, cd14, lt15, cd16, lt17, cd18⟩ := nx_ring (41 + 4 * (sI x1).toNat) lt11 cd12
        refine lv_lload_n hx hb dX9_meetsAt_17 rfl (lv_at hl 1 rfl) ?_
        refine w_callz (va_runV (As := [.ref (b + (41 + 4 * (sI x1).toNat)), .long (iL a0)]) (rest := []) ⟨hx, hb, hml, hown, hts⟩ (cC_Studio_grants l D dA b M (41 + 4 * (sI x1).toNat) a0 lt11 cd12 _ h) (cwV 2 hts (z_gV k570 k539 k540 k4 k541) rfl rfl rfl dm_X9_grants ⟨Nat.le_of_ble_eq_true rfl, Nat.le_of_ble_eq_true rfl⟩) ⟨wPre_blind, (w_recv hS hK.1 (by decide) (zkd_of (rfl : zcd wC 32 = 8) rfl) (by decide) (rfl : vwCl[9]? = some (RX9, TX9, 3))), w_pre hS hK⟩ rfl rfl hl.1 rfl (lv_room (Nat.le_of_ble_eq_true rfl)) dX9_meetsAt_18 ⟨Nat.le_refl _, Nat.le_refl _⟩) hS0 (fun z20 M19 H locs r21 h hS hS0 => ?_)
        obtain ⟨e22, h⟩ := h
        rw [e22] at hS
        refine w_if_ne (tgt := 26) hx hb (sI_01 r21) dX9_meetsAt_21 (by decide) (fun c23 => ?_) (fun c23 => ?_)
        · skip
          have h := h.1 c23
          refine z_iinc (lv' := [(3, .int (iI (x1 + 1))), (0, .ref (b + 32)), (1, .long (iL a0))]) hx hb dX9_meetsAt_26 hl (k := 2) rfl (by decide) rfl (fun ls hl => ?_)
          refine lv_goto (tgt := 2) hx hb dX9_meetsAt_29 (by decide) ?_
          obtain ⟨n24, h25, h⟩ := h
          exact i8 n24 h25 (x1 + 1) _ _ _ h hS hS0 (lv_sub hl [1, 2, 0] rfl)
        · skip
          have h := h.2 c23
          refine z_iconst hx hb dX9_meetsAt_24 ?_
          exact w_zret hx hb hr hlocks hS hS0 (sI_of (by decide)) (by decide) ⟨rfl, h⟩ dX9_meetsAt_25
  exact L6 n3 0 _ _ _ h4 hS hS0 (lv_sub hl [1, 2, 0] rfl)

set_option maxRecDepth 100000 in
def wC_Meeting_sharedTicks  (M : zM) (Q : Int → Prop) : Prop := pL2 (fun K4 x1 x2 => ((sI (M 57 0)) ≤ (sI x2) → Q (sI x1)) ∧ ((sI x2) < (sI (M 57 0)) → pL2 (fun K17 x11 x12 => ((sI (M 57 0)) ≤ (sI x12) → K4 x11 (x2 + 1)) ∧ ((sI x12) < (sI (M 57 0)) → ((0 ≤ (sI x2) ∧ (sI x2) < 4) ∧ ((0 ≤ (sI x12) ∧ (sI x12) < 4) ∧ wC_greatestDivisor (M 58 (sI x2).toNat) (sI (M 58 (sI x12).toNat)) M (fun z26 => wC_leastMultiple x11 z26 M (fun z30 => K17 z30 (x12 + 1))))))) x1 (x2 + 1))) 1 0
set_option maxHeartbeats 4000000 in
set_option maxRecDepth 100000 in
theorem cC_Meeting_sharedTicks (l : Launch) (D : va_G) (dA : Nat → ClassId) (b : Nat) (M : zM)   (Q : Int → Prop) (h : wC_Meeting_sharedTicks  M Q) : Met l yX1_sharedTicks (.code yX1_sharedTicks cX1_sharedTicks 5 (some .int) :: zt) (z_rm 3) (va_Pc [.ref (b + 57)] (wPre D dA vwCl (z_tys dA) wC nC b M)) (va_Qi (wQi (fun z9 u9 => u9 = M ∧ Q z9)) (zB D dA vwCl wC nC b) (zA nC b)) 0 0 (zA nC b) := by
  unfold wC_Meeting_sharedTicks at h
  refine Met.ofW (cc := cX1_sharedTicks) (maxL := 5) (ret := (some .int)) (by decide) rfl ?_
  intro p e s m args below meth c s₁ B hml hv
  obtain ⟨hargs, hS, hK⟩ := hv
  have hx := B.exec
  have hb := B.bytes
  have hr := B.returns
  have hts := atoms_spec (ws := .code yX1_sharedTicks cX1_sharedTicks 5 (some .int) :: zt) B.pre
  have hown : s.vm.findClass RX1 = some m.cls := findClass_of_methodNamed B.named
  have hlocks := B.notSynchronized
  have hS0 : va_S (zA nC b) s.heap s.heap [] := va_S.rf
  have hl := lv_entry ([.ref (b + 57)]) (n := 5) (Nat.le_of_ble_eq_true rfl)
  have hent : entryFrame m args 5 = F0 m 0 ((lg_sl ([.ref (b + 57)]) ++ List.replicate (5 - (lg_sl ([.ref (b + 57)])).length) Slot.unset).toArray) [] := by rw [hargs]; exact lg_entry_eq m ([.ref (b + 57)]) 5
  rw [hent]
  generalize (lg_sl ([.ref (b + 57)]) ++ List.replicate (5 - (lg_sl ([.ref (b + 57)])).length) Slot.unset).toArray = ls at hl ⊢
  have hl : lv_has ls 5 [(0, .ref (b + 57))] := hl
  refine z_lconst1 hx hb dX1_sharedTicks_0 ?_
  refine lv_lstore_n (lv' := [(1, .long (iL 1)), (0, .ref (b + 57))]) hx hb dX1_sharedTicks_1 rfl hl (by decide) rfl (fun ls hl => ?_)
  refine z_iconst hx hb dX1_sharedTicks_2 ?_
  refine lv_istore_n (lv' := [(3, .int (iI 0)), (1, .long (iL 1)), (0, .ref (b + 57))]) hx hb dX1_sharedTicks_3 rfl hl (by decide) rfl (fun ls hl => ?_)
  obtain ⟨I3, ⟨n4, h5⟩, h6⟩ := h
  have L7 : ∀ (n8 : Nat) (x1 x2 : Int) (H : Heap) (locs : List Loc) (ls : Array Slot), I3 n8 x1 x2 → zR D dA vwCl wC nC b M H → va_S (zA nC b) s.heap H locs → lv_has ls 5 [(0, .ref (b + 57)), (1, .long (iL x1)), (3, .int (iI x2))] → W p l e (headSpec (.code yX1_sharedTicks cX1_sharedTicks 5 (some .int) :: zt) (z_rm 3)).room s m args below meth c H locs 0 0 (MQ below (va_Qi (wQi (fun z9 u9 => u9 = M ∧ Q z9)) (zB D dA vwCl wC nC b) (zA nC b)) args s 0 0 (zA nC b)) (F0 m 4 ls []) := by
    intro n8
    induction n8 using Nat.strongRecOn with
    | ind n8 i9 =>
      intro x1 x2 H locs ls h hS hS0 hl
      have h := h6 n8 x1 x2 h
      refine lv_iload_n hx hb dX1_sharedTicks_4 rfl (lv_at hl 2 rfl) ?_
      refine lv_aload_n hx hb dX1_sharedTicks_5 rfl (lv_at hl 0 rfl) ?_
      refine w_geti hx hb hts (z_memU u1) hown hK.1 hS f1_0 (by decide) (zkd_of (rfl : zcd wC 57 = 16) rfl) (Or.inl (hts _ (z_mem k129))) dX1_sharedTicks_6 ?_
      refine w_icmp_ge (tgt := 60) hx hb rfl rfl dX1_sharedTicks_9 (by decide) (fun c10 => ?_) (fun c10 => ?_)
      · skip
        have h := h.1 c10
        refine lv_lload_n hx hb dX1_sharedTicks_60 rfl (lv_at hl 1 rfl) ?_
        refine z_l2i hx hb dX1_sharedTicks_61 ?_
        exact w_iret hx hb hr hlocks hS hS0 rfl ⟨rfl, h⟩ dX1_sharedTicks_62
      · skip
        have h := h.2 c10
        refine lv_iload_n hx hb dX1_sharedTicks_12 rfl (lv_at hl 2 rfl) ?_
        refine z_iconst hx hb dX1_sharedTicks_13 ?_
        refine z_iadd hx hb dX1_sharedTicks_14 ?_
        refine lv_istore (lv' := [(4, .int (iI (x2 + 1))), (0, .ref (b + 57)), (1, .long (iL x1)), (3, .int (iI x2))]) hx hb dX1_sharedTicks_15 hl (by decide) rfl (fun ls hl => ?_)
        obtain ⟨I13, ⟨n14, h15⟩, h16⟩ := h
        have L17 : ∀ (n18 : Nat) (x11 x12 : Int) (H : Heap) (locs : List Loc) (ls : Array Slot), I13 n18 x11 x12 → zR D dA vwCl wC nC b M H → va_S (zA nC b) s.heap H locs → lv_has ls 5 [(0, .ref (b + 57)), (1, .long (iL x11)), (3, .int (iI x2)), (4, .int (iI x12))] → W p l e (headSpec (.code yX1_sharedTicks cX1_sharedTicks 5 (some .int) :: zt) (z_rm 3)).room s m args below meth c H locs 0 0 (MQ below (va_Qi (wQi (fun z9 u9 => u9 = M ∧ Q z9)) (zB D dA vwCl wC nC b) (zA nC b)) args s 0 0 (zA nC b)) (F0 m 17 ls []) := by
          intro n18
          induction n18 using Nat.strongRecOn with
          | ind n18 i19 =>
            intro x11 x12 H locs ls h hS hS0 hl
            have h := h16 n18 x11 x12 h
            refine lv_iload hx hb dX1_sharedTicks_17 (lv_at hl 3 rfl) ?_
            refine lv_aload_n hx hb dX1_sharedTicks_19 rfl (lv_at hl 0 rfl) ?_
            refine w_geti hx hb hts (z_memU u1) hown hK.1 hS f1_0 (by decide) (zkd_of (rfl : zcd wC 57 = 16) rfl) (Or.inl (hts _ (z_mem k129))) dX1_sharedTicks_20 ?_
            refine w_icmp_ge (tgt := 54) hx hb rfl rfl dX1_sharedTicks_23 (by decide) (fun c20 => ?_) (fun c20 => ?_)
            · skip
              have h := h.1 c20
              refine z_iinc (lv' := [(3, .int (iI (x2 + 1))), (0, .ref (b + 57)), (1, .long (iL x11)), (4, .int (iI x12))]) hx hb dX1_sharedTicks_54 hl (k := 2) rfl (by decide) rfl (fun ls hl => ?_)
              refine lv_goto (tgt := 4) hx hb dX1_sharedTicks_57 (by decide) ?_
              obtain ⟨n21, h22, h⟩ := h
              exact i9 n21 h22 x11 (x2 + 1) _ _ _ h hS hS0 (lv_sub hl [1, 2, 0] rfl)
            · skip
              have h := h.2 c20
              refine lv_lload_n hx hb dX1_sharedTicks_26 rfl (lv_at hl 1 rfl) ?_
              refine lv_aload_n hx hb dX1_sharedTicks_27 rfl (lv_at hl 0 rfl) ?_
              refine w_getr (j2 := 58) hx hb hts (z_memU u1) hown hK.1 hS f1_2 (by decide) (zkd_of (rfl : zcd wC 57 = 16) rfl) (zrf_of (rfl : zcd wC 57 = 16) rfl) (Or.inl (hts _ (z_mem k131))) dX1_sharedTicks_28 ?_
              refine lv_iload_n hx hb dX1_sharedTicks_31 rfl (lv_at hl 2 rfl) ?_
              obtain ⟨o23, h⟩ := h
              refine w_iald (n := 4) (i := (sI x2)) hx hb hK.1 (t0 := 0) rfl hS (by decide) (zkd_of (rfl : zcd wC 58 = 17) rfl) (zln_of (rfl : zcd wC 58 = 17) rfl) rfl o23.1 o23.2 (by decide) dX1_sharedTicks_32 ?_
              refine lv_aload_n hx hb dX1_sharedTicks_33 rfl (lv_at hl 0 rfl) ?_
              refine w_getr (j2 := 58) hx hb hts (z_memU u1) hown hK.1 hS f1_2 (by decide) (zkd_of (rfl : zcd wC 57 = 16) rfl) (zrf_of (rfl : zcd wC 57 = 16) rfl) (Or.inl (hts _ (z_mem k131))) dX1_sharedTicks_34 ?_
              refine lv_iload hx hb dX1_sharedTicks_37 (lv_at hl 3 rfl) ?_
              obtain ⟨o24, h⟩ := h
              refine w_iald (n := 4) (i := (sI x12)) hx hb hK.1 (t0 := 0) rfl hS (by decide) (zkd_of (rfl : zcd wC 58 = 17) rfl) (zln_of (rfl : zcd wC 58 = 17) rfl) rfl o24.1 o24.2 (by decide) dX1_sharedTicks_39 ?_
              refine w_i2l hx hb rfl dX1_sharedTicks_40 ?_
              refine w_calli (va_runSN (As := [.int (iI (M 58 (sI x2).toNat)), .long (iL (sI (M 58 (sI x12).toNat)))]) (rest := [.long (iL x11)]) ⟨hx, hb, hml, hown, hts⟩ (cC_greatestDivisor l D dA b M (M 58 (sI x2).toNat) (sI (M 58 (sI x12).toNat)) _ h) ⟨va_cnB 2 hts (z_gN k534) rfl rfl rfl (hK.2 (RX1, 54, yX11_greatestDivisor, RX11) (List.mem_of_getElem? (i := 14) rfl)) (hts _ (z_mem k1)) dm_X11_greatestDivisor.2 ⟨Nat.le_of_ble_eq_true rfl, Nat.le_of_ble_eq_true rfl⟩, (hts _ (z_mem k533)), trivial⟩ ⟨wPre_blind, w_pre hS hK⟩ rfl rfl hl.1 rfl (lv_room (Nat.le_of_ble_eq_true rfl)) dX1_sharedTicks_41 ⟨Nat.le_refl _, Nat.le_refl _⟩) hS0 (fun z26 M25 H locs r27 h hS hS0 => ?_)
              obtain ⟨e28, h⟩ := h
              rw [e28] at hS
              refine w_calll (va_runSN (As := [.long (iL x11), .int (iI z26)]) (rest := []) ⟨hx, hb, hml, hown, hts⟩ (cC_leastMultiple l D dA b M x11 z26 _ h) ⟨va_cnB 2 hts (z_gN k547) rfl rfl rfl (hK.2 (RX1, 47, yX11_leastMultiple, RX11) (List.mem_of_getElem? (i := 13) rfl)) (hts _ (z_mem k1)) dm_X11_leastMultiple.2 ⟨Nat.le_of_ble_eq_true rfl, Nat.le_of_ble_eq_true rfl⟩, (hts _ (z_mem k546)), trivial⟩ ⟨wPre_blind, w_pre hS hK⟩ rfl rfl hl.1 rfl (lv_room (Nat.le_of_ble_eq_true rfl)) dX1_sharedTicks_44 ⟨Nat.le_refl _, Nat.le_refl _⟩) hS0 (fun z30 M29 H locs r31 h hS hS0 => ?_)
              obtain ⟨e32, h⟩ := h
              rw [e32] at hS
              refine lv_lstore_n (lv' := [(1, .long (iL z30)), (0, .ref (b + 57)), (3, .int (iI x2)), (4, .int (iI x12))]) hx hb dX1_sharedTicks_47 rfl hl (by decide) rfl (fun ls hl => ?_)
              refine z_iinc (lv' := [(4, .int (iI (x12 + 1))), (1, .long (iL z30)), (0, .ref (b + 57)), (3, .int (iI x2))]) hx hb dX1_sharedTicks_48 hl (k := 3) rfl (by decide) rfl (fun ls hl => ?_)
              refine lv_goto (tgt := 17) hx hb dX1_sharedTicks_51 (by decide) ?_
              obtain ⟨n33, h34, h⟩ := h
              exact i19 n33 h34 z30 (x12 + 1) _ _ _ h hS hS0 (lv_sub hl [2, 1, 3, 0] rfl)
        exact L17 n14 x1 (x2 + 1) _ _ _ h15 hS hS0 (lv_sub hl [1, 2, 3, 0] rfl)
  exact L7 n4 1 0 _ _ _ h5 hS hS0 (lv_sub hl [2, 1, 0] rfl)

set_option maxRecDepth 100000 in
def wC_Meeting_turnsAlike (a0 : Int) (a1 : Int) (a2 : Int) (M : zM) (Q : Int → Prop) : Prop := wC_by (sI a1) a2 M (fun z2 => pL2 (fun K11 x5 x6 => ((0 ≤ (sI a0) ∧ (sI a0) < 4) ∧ ((sI (M 58 (sI a0).toNat)) ≤ (sI x6) → Q (sI x5)) ∧ ((sI x6) < (sI (M 58 (sI a0).toNat)) → ((0 ≤ (sI a0) ∧ (sI a0) < 4) ∧ (∀ t17 : Int, t17 = (x5 + (andI (shrI (M 59 (sI a0).toNat) x6) 1)) → K11 t17 (x6 + (max 1 (sI a2)))))))) 0 z2)
set_option maxHeartbeats 4000000 in
set_option maxRecDepth 100000 in
theorem cC_Meeting_turnsAlike (l : Launch) (D : va_G) (dA : Nat → ClassId) (b : Nat) (M : zM) (a0 : Int) (a1 : Int) (a2 : Int)  (Q : Int → Prop) (h : wC_Meeting_turnsAlike a0 a1 a2 M Q) : Met l yX1_turnsAlike (.code yX1_turnsAlike cX1_turnsAlike 6 (some .int) :: zt) (z_rm 1) (va_Pc [.ref (b + 57), .int (iI a0), .int (iI a1), .int (iI a2)] (wPre D dA vwCl (z_tys dA) wC nC b M)) (va_Qi (wQi (fun z9 u9 => u9 = M ∧ Q z9)) (zB D dA vwCl wC nC b) (zA nC b)) 0 0 (zA nC b) := by
  unfold wC_Meeting_turnsAlike at h
  refine Met.ofW (cc := cX1_turnsAlike) (maxL := 6) (ret := (some .int)) (by decide) rfl ?_
  intro p e s m args below meth c s₁ B hml hv
  obtain ⟨hargs, hS, hK⟩ := hv
  have hx := B.exec
  have hb := B.bytes
  have hr := B.returns
  have hts := atoms_spec (ws := .code yX1_turnsAlike cX1_turnsAlike 6 (some .int) :: zt) B.pre
  have hown : s.vm.findClass RX1 = some m.cls := findClass_of_methodNamed B.named
  have hlocks := B.notSynchronized
  have hS0 : va_S (zA nC b) s.heap s.heap [] := va_S.rf
  have hl := lv_entry ([.ref (b + 57), .int (iI a0), .int (iI a1), .int (iI a2)]) (n := 6) (Nat.le_of_ble_eq_true rfl)
  have hent : entryFrame m args 6 = F0 m 0 ((lg_sl ([.ref (b + 57), .int (iI a0), .int (iI a1), .int (iI a2)]) ++ List.replicate (6 - (lg_sl ([.ref (b + 57), .int (iI a0), .int (iI a1), .int (iI a2)])).length) Slot.unset).toArray) [] := by rw [hargs]; exact lg_entry_eq m ([.ref (b + 57), .int (iI a0), .int (iI a1), .int (iI a2)]) 6
  rw [hent]
  generalize (lg_sl ([.ref (b + 57), .int (iI a0), .int (iI a1), .int (iI a2)]) ++ List.replicate (6 - (lg_sl ([.ref (b + 57), .int (iI a0), .int (iI a1), .int (iI a2)])).length) Slot.unset).toArray = ls at hl ⊢
  have hl : lv_has ls 6 [(0, .ref (b + 57)), (1, .int (iI a0)), (2, .int (iI a1)), (3, .int (iI a2))] := hl
  refine z_iconst hx hb dX1_turnsAlike_0 ?_
  refine lv_istore (lv' := [(4, .int (iI 0)), (0, .ref (b + 57)), (1, .int (iI a0)), (2, .int (iI a1)), (3, .int (iI a2))]) hx hb dX1_turnsAlike_1 hl (by decide) rfl (fun ls hl => ?_)
  refine lv_iload_n hx hb dX1_turnsAlike_3 rfl (lv_at hl 3 rfl) ?_
  refine w_i2l hx hb rfl dX1_turnsAlike_4 ?_
  refine lv_iload_n hx hb dX1_turnsAlike_5 rfl (lv_at hl 4 rfl) ?_
  refine w_calli (va_runSN (As := [.long (iL (sI a1)), .int (iI a2)]) (rest := []) ⟨hx, hb, hml, hown, hts⟩ (cC_by l D dA b M (sI a1) a2 _ h) ⟨va_cnB 2 hts (z_gN k406) rfl rfl rfl (hK.2 (RX1, 62, yX11_by, RX11) (List.mem_of_getElem? (i := 15) rfl)) (hts _ (z_mem k1)) dm_X11_by.2 ⟨Nat.le_of_ble_eq_true rfl, Nat.le_of_ble_eq_true rfl⟩, (hts _ (z_mem k405)), trivial⟩ ⟨wPre_blind, w_pre hS hK⟩ rfl rfl hl.1 rfl (lv_room (Nat.le_of_ble_eq_true rfl)) dX1_turnsAlike_6 ⟨Nat.le_refl _, Nat.le_refl _⟩) hS0 (fun z2 M1 H locs r3 h hS hS0 => ?_)
  obtain ⟨e4, h⟩ := h
  rw [e4] at hS
  refine lv_istore (lv' := [(5, .int (iI z2)), (4, .int (iI 0)), (0, .ref (b + 57)), (1, .int (iI a0)), (2, .int (iI a1)), (3, .int (iI a2))]) hx hb dX1_turnsAlike_9 hl (by decide) rfl (fun ls hl => ?_)
  obtain ⟨I7, ⟨n8, h9⟩, h10⟩ := h
  have L11 : ∀ (n12 : Nat) (x5 x6 : Int) (H : Heap) (locs : List Loc) (ls : Array Slot), I7 n12 x5 x6 → zR D dA vwCl wC nC b M H → va_S (zA nC b) s.heap H locs → lv_has ls 6 [(0, .ref (b + 57)), (1, .int (iI a0)), (3, .int (iI a2)), (4, .int (iI x5)), (5, .int (iI x6))] → W p l e (headSpec (.code yX1_turnsAlike cX1_turnsAlike 6 (some .int) :: zt) (z_rm 1)).room s m args below meth c H locs 0 0 (MQ below (va_Qi (wQi (fun z9 u9 => u9 = M ∧ Q z9)) (zB D dA vwCl wC nC b) (zA nC b)) args s 0 0 (zA nC b)) (F0 m 11 ls []) := by
    intro n12
    induction n12 using Nat.strongRecOn with
    | ind n12 i13 =>
      intro x5 x6 H locs ls h hS hS0 hl
      have h := h10 n12 x5 x6 h
      refine lv_iload hx hb dX1_turnsAlike_11 (lv_at hl 4 rfl) ?_
      refine lv_aload_n hx hb dX1_turnsAlike_13 rfl (lv_at hl 0 rfl) ?_
      refine w_getr (j2 := 58) hx hb hts (z_memU u1) hown hK.1 hS f1_2 (by decide) (zkd_of (rfl : zcd wC 57 = 16) rfl) (zrf_of (rfl : zcd wC 57 = 16) rfl) (Or.inl (hts _ (z_mem k131))) dX1_turnsAlike_14 ?_
      refine lv_iload_n hx hb dX1_turnsAlike_17 rfl (lv_at hl 1 rfl) ?_
      obtain ⟨o14, h⟩ := h
      refine w_iald (n := 4) (i := (sI a0)) hx hb hK.1 (t0 := 0) rfl hS (by decide) (zkd_of (rfl : zcd wC 58 = 17) rfl) (zln_of (rfl : zcd wC 58 = 17) rfl) rfl o14.1 o14.2 (by decide) dX1_turnsAlike_18 ?_
      refine w_icmp_ge (tgt := 51) hx hb rfl rfl dX1_turnsAlike_19 (by decide) (fun c15 => ?_) (fun c15 => ?_)
      · skip
        have h := h.1 c15
        refine lv_iload hx hb dX1_turnsAlike_51 (lv_at hl 3 rfl) ?_
        exact w_iret hx hb hr hlocks hS hS0 rfl ⟨rfl, h⟩ dX1_turnsAlike_53
      · skip
        have h := h.2 c15
        refine lv_iload hx hb dX1_turnsAlike_22 (lv_at hl 3 rfl) ?_
        refine lv_aload_n hx hb dX1_turnsAlike_24 rfl (lv_at hl 0 rfl) ?_
        refine w_getr (j2 := 59) hx hb hts (z_memU u1) hown hK.1 hS f1_3 (by decide) (zkd_of (rfl : zcd wC 57 = 16) rfl) (zrf_of (rfl : zcd wC 57 = 16) rfl) (Or.inl (hts _ (z_mem k132))) dX1_turnsAlike_25 ?_
        refine lv_iload_n hx hb dX1_turnsAlike_28 rfl (lv_at hl 1 rfl) ?_
        obtain ⟨o16, h⟩ := h
        refine w_iald (n := 4) (i := (sI a0)) hx hb hK.1 (t0 := 0) rfl hS (by decide) (zkd_of (rfl : zcd wC 59 = 18) rfl) (zln_of (rfl : zcd wC 59 = 18) rfl) rfl o16.1 o16.2 (by decide) dX1_turnsAlike_29 ?_
        refine lv_iload hx hb dX1_turnsAlike_30 (lv_at hl 4 rfl) ?_
        refine w_ishr hx hb dX1_turnsAlike_32 ?_
        refine z_iconst hx hb dX1_turnsAlike_33 ?_
        refine w_iand hx hb dX1_turnsAlike_34 ?_
        refine z_iadd hx hb dX1_turnsAlike_35 ?_
        obtain ⟨t17, e18⟩ : ∃ t17 : Int, t17 = (x5 + (andI (shrI (M 59 (sI a0).toNat) x6) 1)) := ⟨_, rfl⟩
        refine z_top (y := t17) e18.symm ?_
        have h := h t17 e18
        refine lv_istore (lv' := [(4, .int (iI t17)), (0, .ref (b + 57)), (1, .int (iI a0)), (3, .int (iI a2)), (5, .int (iI x6))]) hx hb dX1_turnsAlike_36 hl (by decide) rfl (fun ls hl => ?_)
        refine lv_iload hx hb dX1_turnsAlike_38 (lv_at hl 4 rfl) ?_
        refine z_iconst hx hb dX1_turnsAlike_40 ?_
        refine lv_iload_n hx hb dX1_turnsAlike_41 rfl (lv_at hl 3 rfl) ?_
        refine w_mmax hx hb (hml.trans hl.1.symm) hown (hts _ (z_mem k581)) (hts _ (z_mem k341)) (hts _ (z_mem k15)) (hts _ (z_mem k342)) (by exact Nat.le_of_ble_eq_true rfl) (by exact Nat.le_of_ble_eq_true rfl) (by exact Nat.le_refl _) (by exact Nat.le_refl _) (sI_of (by decide)) rfl dX1_turnsAlike_42 ?_
        refine z_iadd hx hb dX1_turnsAlike_45 ?_
        refine lv_istore (lv' := [(5, .int (iI (x6 + (max 1 (sI a2))))), (4, .int (iI t17)), (0, .ref (b + 57)), (1, .int (iI a0)), (3, .int (iI a2))]) hx hb dX1_turnsAlike_46 hl (by decide) rfl (fun ls hl => ?_)
        refine lv_goto (tgt := 11) hx hb dX1_turnsAlike_48 (by decide) ?_
        obtain ⟨n19, h20, h⟩ := h
        exact i13 n19 h20 t17 (x6 + (max 1 (sI a2))) _ _ _ h hS hS0 (lv_sub hl [2, 3, 4, 1, 0] rfl)
  exact L11 n8 0 z2 _ _ _ h9 hS hS0 (lv_sub hl [2, 3, 5, 1, 0] rfl)

set_option maxRecDepth 100000 in
def wC_Meeting_howOften  (M : zM) (Q : Int → Prop) : Prop := wC_Meeting_sharedTicks  M (fun z2 => pL2 (fun K10 x5 x6 => (z2 ≤ (sI x6) → Q (sL x5)) ∧ ((sI x6) < z2 → pL2 (fun K22 x15 x16 => ((sI (M 57 0)) ≤ (sI x16) → K10 (x5 + x15) (x6 + 1)) ∧ ((sI x16) < (sI (M 57 0)) → ((0 ≤ (sI x16) ∧ (sI x16) < 4) ∧ wC_greatestDivisor (M 58 (sI x16).toNat) z2 M (fun z29 => wC_Meeting_turnsAlike x16 x6 z29 M (fun z33 => K22 (x15 * z33) (x16 + 1)))))) 1 0)) 0 0)
set_option maxHeartbeats 4000000 in
set_option maxRecDepth 100000 in
theorem cC_Meeting_howOften (l : Launch) (D : va_G) (dA : Nat → ClassId) (b : Nat) (M : zM)   (Q : Int → Prop) (h : wC_Meeting_howOften  M Q) : Met l yX1_howOften (.code yX1_howOften cX1_howOften 8 (some .long) :: zt) (z_rm 4) (va_Pc [.ref (b + 57)] (wPre D dA vwCl (z_tys dA) wC nC b M)) (va_Ql (wQl (fun z9 u9 => u9 = M ∧ Q z9)) (zB D dA vwCl wC nC b) (zA nC b)) 0 0 (zA nC b) := by
  unfold wC_Meeting_howOften at h
  refine Met.ofW (cc := cX1_howOften) (maxL := 8) (ret := (some .long)) (by decide) rfl ?_
  intro p e s m args below meth c s₁ B hml hv
  obtain ⟨hargs, hS, hK⟩ := hv
  have hx := B.exec
  have hb := B.bytes
  have hr := B.returns
  have hts := atoms_spec (ws := .code yX1_howOften cX1_howOften 8 (some .long) :: zt) B.pre
  have hown : s.vm.findClass RX1 = some m.cls := findClass_of_methodNamed B.named
  have hlocks := B.notSynchronized
  have hS0 : va_S (zA nC b) s.heap s.heap [] := va_S.rf
  have hl := lv_entry ([.ref (b + 57)]) (n := 8) (Nat.le_of_ble_eq_true rfl)
  have hent : entryFrame m args 8 = F0 m 0 ((lg_sl ([.ref (b + 57)]) ++ List.replicate (8 - (lg_sl ([.ref (b + 57)])).length) Slot.unset).toArray) [] := by rw [hargs]; exact lg_entry_eq m ([.ref (b + 57)]) 8
  rw [hent]
  generalize (lg_sl ([.ref (b + 57)]) ++ List.replicate (8 - (lg_sl ([.ref (b + 57)])).length) Slot.unset).toArray = ls at hl ⊢
  have hl : lv_has ls 8 [(0, .ref (b + 57))] := hl
  refine lv_aload_n hx hb dX1_howOften_0 rfl (lv_at hl 0 rfl) ?_
  refine w_calli (va_runV (As := []) (rest := []) ⟨hx, hb, hml, hown, hts⟩ (cC_Meeting_sharedTicks l D dA b M  _ h) (cwV 0 hts (z_gV k575 k576 k1366 k7 k577) rfl rfl rfl dm_X1_sharedTicks ⟨Nat.le_of_ble_eq_true rfl, Nat.le_of_ble_eq_true rfl⟩) ⟨wPre_blind, (w_recv hS hK.1 (by decide) (zkd_of (rfl : zcd wC 57 = 16) rfl) (by decide) (rfl : vwCl[1]? = some (RX1, TX1, 4))), w_pre hS hK⟩ rfl rfl hl.1 rfl (lv_room (Nat.le_of_ble_eq_true rfl)) dX1_howOften_1 ⟨Nat.le_refl _, Nat.le_refl _⟩) hS0 (fun z2 M1 H locs r3 h hS hS0 => ?_)
  obtain ⟨e4, h⟩ := h
  rw [e4] at hS
  refine lv_istore_n (lv' := [(1, .int (iI z2)), (0, .ref (b + 57))]) hx hb dX1_howOften_4 rfl hl (by decide) rfl (fun ls hl => ?_)
  refine z_lconst0 hx hb dX1_howOften_5 ?_
  refine lv_lstore_n (lv' := [(2, .long (iL 0)), (1, .int (iI z2)), (0, .ref (b + 57))]) hx hb dX1_howOften_6 rfl hl (by decide) rfl (fun ls hl => ?_)
  refine z_iconst hx hb dX1_howOften_7 ?_
  refine lv_istore (lv' := [(4, .int (iI 0)), (2, .long (iL 0)), (1, .int (iI z2)), (0, .ref (b + 57))]) hx hb dX1_howOften_8 hl (by decide) rfl (fun ls hl => ?_)
  obtain ⟨I7, ⟨n8, h9⟩, h10⟩ := h
  have L11 : ∀ (n12 : Nat) (x5 x6 : Int) (H : Heap) (locs : List Loc) (ls : Array Slot), I7 n12 x5 x6 → zR D dA vwCl wC nC b M H → va_S (zA nC b) s.heap H locs → lv_has ls 8 [(0, .ref (b + 57)), (1, .int (iI z2)), (2, .long (iL x5)), (4, .int (iI x6))] → W p l e (headSpec (.code yX1_howOften cX1_howOften 8 (some .long) :: zt) (z_rm 4)).room s m args below meth c H locs 0 0 (MQ below (va_Ql (wQl (fun z9 u9 => u9 = M ∧ Q z9)) (zB D dA vwCl wC nC b) (zA nC b)) args s 0 0 (zA nC b)) (F0 m 10 ls []) := by
    intro n12
    induction n12 using Nat.strongRecOn with
    | ind n12 i13 =>
      intro x5 x6 H locs ls h hS hS0 hl
      have h := h10 n12 x5 x6 h
      refine lv_iload hx hb dX1_howOften_10 (lv_at hl 3 rfl) ?_
      refine lv_iload_n hx hb dX1_howOften_12 rfl (lv_at hl 1 rfl) ?_
      refine w_icmp_ge (tgt := 74) hx hb rfl (sI_of r3) dX1_howOften_13 (by decide) (fun c14 => ?_) (fun c14 => ?_)
      · skip
        have h := h.1 c14
        refine lv_lload_n hx hb dX1_howOften_74 rfl (lv_at hl 2 rfl) ?_
        exact w_lret hx hb hr hlocks hS hS0 rfl ⟨rfl, h⟩ dX1_howOften_75
      · skip
        have h := h.2 c14
        refine z_lconst1 hx hb dX1_howOften_16 ?_
        refine lv_lstore (lv' := [(5, .long (iL 1)), (0, .ref (b + 57)), (1, .int (iI z2)), (2, .long (iL x5)), (4, .int (iI x6))]) hx hb dX1_howOften_17 hl (by decide) rfl (fun ls hl => ?_)
        refine z_iconst hx hb dX1_howOften_19 ?_
        refine lv_istore (lv' := [(7, .int (iI 0)), (5, .long (iL 1)), (0, .ref (b + 57)), (1, .int (iI z2)), (2, .long (iL x5)), (4, .int (iI x6))]) hx hb dX1_howOften_20 hl (by decide) rfl (fun ls hl => ?_)
        obtain ⟨I17, ⟨n18, h19⟩, h20⟩ := h
        have L21 : ∀ (n22 : Nat) (x15 x16 : Int) (H : Heap) (locs : List Loc) (ls : Array Slot), I17 n22 x15 x16 → zR D dA vwCl wC nC b M H → va_S (zA nC b) s.heap H locs → lv_has ls 8 [(0, .ref (b + 57)), (1, .int (iI z2)), (2, .long (iL x5)), (4, .int (iI x6)), (5, .long (iL x15)), (7, .int (iI x16))] → W p l e (headSpec (.code yX1_howOften cX1_howOften 8 (some .long) :: zt) (z_rm 4)).room s m args below meth c H locs 0 0 (MQ below (va_Ql (wQl (fun z9 u9 => u9 = M ∧ Q z9)) (zB D dA vwCl wC nC b) (zA nC b)) args s 0 0 (zA nC b)) (F0 m 22 ls []) := by
          intro n22
          induction n22 using Nat.strongRecOn with
          | ind n22 i23 =>
            intro x15 x16 H locs ls h hS hS0 hl
            have h := h20 n22 x15 x16 h
            refine lv_iload hx hb dX1_howOften_22 (lv_at hl 5 rfl) ?_
            refine lv_aload_n hx hb dX1_howOften_24 rfl (lv_at hl 0 rfl) ?_
            refine w_geti hx hb hts (z_memU u1) hown hK.1 hS f1_0 (by decide) (zkd_of (rfl : zcd wC 57 = 16) rfl) (Or.inl (hts _ (z_mem k129))) dX1_howOften_25 ?_
            refine w_icmp_ge (tgt := 63) hx hb rfl rfl dX1_howOften_28 (by decide) (fun c24 => ?_) (fun c24 => ?_)
            · skip
              have h := h.1 c24
              refine lv_lload_n hx hb dX1_howOften_63 rfl (lv_at hl 2 rfl) ?_
              refine lv_lload hx hb dX1_howOften_64 (lv_at hl 4 rfl) ?_
              refine z_ladd hx hb dX1_howOften_66 ?_
              refine lv_lstore_n (lv' := [(2, .long (iL (x5 + x15))), (0, .ref (b + 57)), (1, .int (iI z2)), (4, .int (iI x6)), (5, .long (iL x15)), (7, .int (iI x16))]) hx hb dX1_howOften_67 rfl hl (by decide) rfl (fun ls hl => ?_)
              refine z_iinc (lv' := [(4, .int (iI (x6 + 1))), (2, .long (iL (x5 + x15))), (0, .ref (b + 57)), (1, .int (iI z2)), (5, .long (iL x15)), (7, .int (iI x16))]) hx hb dX1_howOften_68 hl (k := 3) rfl (by decide) rfl (fun ls hl => ?_)
              refine lv_goto (tgt := 10) hx hb dX1_howOften_71 (by decide) ?_
              obtain ⟨n25, h26, h⟩ := h
              exact i13 n25 h26 (x5 + x15) (x6 + 1) _ _ _ h hS hS0 (lv_sub hl [2, 3, 1, 0] rfl)
            · skip
              have h := h.2 c24
              refine lv_lload hx hb dX1_howOften_31 (lv_at hl 4 rfl) ?_
              refine lv_aload_n hx hb dX1_howOften_33 rfl (lv_at hl 0 rfl) ?_
              refine lv_iload hx hb dX1_howOften_34 (lv_at hl 5 rfl) ?_
              refine lv_iload hx hb dX1_howOften_36 (lv_at hl 3 rfl) ?_
              refine lv_aload_n hx hb dX1_howOften_38 rfl (lv_at hl 0 rfl) ?_
              refine w_getr (j2 := 58) hx hb hts (z_memU u1) hown hK.1 hS f1_2 (by decide) (zkd_of (rfl : zcd wC 57 = 16) rfl) (zrf_of (rfl : zcd wC 57 = 16) rfl) (Or.inl (hts _ (z_mem k131))) dX1_howOften_39 ?_
              refine lv_iload hx hb dX1_howOften_42 (lv_at hl 5 rfl) ?_
              obtain ⟨o27, h⟩ := h
              refine w_iald (n := 4) (i := (sI x16)) hx hb hK.1 (t0 := 0) rfl hS (by decide) (zkd_of (rfl : zcd wC 58 = 17) rfl) (zln_of (rfl : zcd wC 58 = 17) rfl) rfl o27.1 o27.2 (by decide) dX1_howOften_44 ?_
              refine lv_iload_n hx hb dX1_howOften_45 rfl (lv_at hl 1 rfl) ?_
              refine w_i2l hx hb (sI_of r3) dX1_howOften_46 ?_
              refine w_calli (va_runSN (As := [.int (iI (M 58 (sI x16).toNat)), .long (iL z2)]) (rest := [.int (iI x6), .int (iI x16), .ref (b + 57), .long (iL x15)]) ⟨hx, hb, hml, hown, hts⟩ (cC_greatestDivisor l D dA b M (M 58 (sI x16).toNat) z2 _ h) ⟨va_cnB 2 hts (z_gN k534) rfl rfl rfl (hK.2 (RX1, 54, yX11_greatestDivisor, RX11) (List.mem_of_getElem? (i := 14) rfl)) (hts _ (z_mem k1)) dm_X11_greatestDivisor.2 ⟨Nat.le_of_ble_eq_true rfl, Nat.le_of_ble_eq_true rfl⟩, (hts _ (z_mem k533)), trivial⟩ ⟨wPre_blind, w_pre hS hK⟩ rfl rfl hl.1 rfl (lv_room (Nat.le_of_ble_eq_true rfl)) dX1_howOften_47 ⟨Nat.le_refl _, Nat.le_refl _⟩) hS0 (fun z29 M28 H locs r30 h hS hS0 => ?_)
              obtain ⟨e31, h⟩ := h
              rw [e31] at hS
              refine w_calli (va_runV (As := [.int (iI x16), .int (iI x6), .int (iI z29)]) (rest := [.long (iL x15)]) ⟨hx, hb, hml, hown, hts⟩ (cC_Meeting_turnsAlike l D dA b M x16 x6 z29 _ h) (cwV 3 hts (z_gV k578 k579 k1367 k7 k580) rfl rfl rfl dm_X1_turnsAlike ⟨Nat.le_of_ble_eq_true rfl, Nat.le_of_ble_eq_true rfl⟩) ⟨wPre_blind, (w_recv hS hK.1 (by decide) (zkd_of (rfl : zcd wC 57 = 16) rfl) (by decide) (rfl : vwCl[1]? = some (RX1, TX1, 4))), w_pre hS hK⟩ rfl rfl hl.1 rfl (lv_room (Nat.le_of_ble_eq_true rfl)) dX1_howOften_50 ⟨Nat.le_refl _, Nat.le_refl _⟩) hS0 (fun z33 M32 H locs r34 h hS hS0 => ?_)
              obtain ⟨e35, h⟩ := h
              rw [e35] at hS
              refine w_i2l hx hb (sI_of r34) dX1_howOften_53 ?_
              refine z_lmul hx hb dX1_howOften_54 ?_
              refine lv_lstore (lv' := [(5, .long (iL (x15 * z33))), (0, .ref (b + 57)), (1, .int (iI z2)), (2, .long (iL x5)), (4, .int (iI x6)), (7, .int (iI x16))]) hx hb dX1_howOften_55 hl (by decide) rfl (fun ls hl => ?_)
              refine z_iinc (lv' := [(7, .int (iI (x16 + 1))), (5, .long (iL (x15 * z33))), (0, .ref (b + 57)), (1, .int (iI z2)), (2, .long (iL x5)), (4, .int (iI x6))]) hx hb dX1_howOften_57 hl (k := 5) rfl (by decide) rfl (fun ls hl => ?_)
              refine lv_goto (tgt := 22) hx hb dX1_howOften_60 (by decide) ?_
              obtain ⟨n36, h37, h⟩ := h
              exact i23 n36 h37 (x15 * z33) (x16 + 1) _ _ _ h hS hS0 (lv_sub hl [2, 3, 4, 5, 1, 0] rfl)
        exact L21 n18 1 0 _ _ _ h19 hS hS0 (lv_sub hl [2, 3, 4, 5, 1, 0] rfl)
  exact L11 n8 0 0 _ _ _ h9 hS hS0 (lv_sub hl [3, 2, 1, 0] rfl)

set_option maxRecDepth 100000 in
def wC_Meeting_ticksToTurn (a0 : Int) (a1 : Int) (M : zM) (Q : Int → Prop) : Prop := ((0 ≤ (sI a0) ∧ (sI a0) < 4) ∧ pL1 (fun K10 x2 => ((sI (M 58 (sI a0).toNat)) ≤ (sI x2) → Q (sI (M 58 (sI a0).toNat))) ∧ ((sI x2) < (sI (M 58 (sI a0).toNat)) → ((0 ≤ (sI a0) ∧ (sI a0) < 4) ∧ wC_by (sI (a1 + x2)) (M 58 (sI a0).toNat) M (fun z13 => ((andI (shrI (M 59 (sI a0).toNat) z13) 1) = 0 → K10 (x2 + 1)) ∧ ((andI (shrI (M 59 (sI a0).toNat) z13) 1) ≠ 0 → Q (sI x2)))))) 0)
set_option maxHeartbeats 4000000 in
set_option maxRecDepth 100000 in
theorem cC_Meeting_ticksToTurn (l : Launch) (D : va_G) (dA : Nat → ClassId) (b : Nat) (M : zM) (a0 : Int) (a1 : Int)  (Q : Int → Prop) (h : wC_Meeting_ticksToTurn a0 a1 M Q) : Met l yX1_ticksToTurn (.code yX1_ticksToTurn cX1_ticksToTurn 5 (some .int) :: zt) (z_rm 1) (va_Pc [.ref (b + 57), .int (iI a0), .int (iI a1)] (wPre D dA vwCl (z_tys dA) wC nC b M)) (va_Qi (wQi (fun z9 u9 => u9 = M ∧ Q z9)) (zB D dA vwCl wC nC b) (zA nC b)) 0 0 (zA nC b) := by
  unfold wC_Meeting_ticksToTurn at h
  refine Met.ofW (cc := cX1_ticksToTurn) (maxL := 5) (ret := (some .int)) (by decide) rfl ?_
  intro p e s m args below meth c s₁ B hml hv
  obtain ⟨hargs, hS, hK⟩ := hv
  have hx := B.exec
  have hb := B.bytes
  have hr := B.returns
  have hts := atoms_spec (ws := .code yX1_ticksToTurn cX1_ticksToTurn 5 (some .int) :: zt) B.pre
  have hown : s.vm.findClass RX1 = some m.cls := findClass_of_methodNamed B.named
  have hlocks := B.notSynchronized
  have hS0 : va_S (zA nC b) s.heap s.heap [] := va_S.rf
  have hl := lv_entry ([.ref (b + 57), .int (iI a0), .int (iI a1)]) (n := 5) (Nat.le_of_ble_eq_true rfl)
  have hent : entryFrame m args 5 = F0 m 0 ((lg_sl ([.ref (b + 57), .int (iI a0), .int (iI a1)]) ++ List.replicate (5 - (lg_sl ([.ref (b + 57), .int (iI a0), .int (iI a1)])).length) Slot.unset).toArray) [] := by rw [hargs]; exact lg_entry_eq m ([.ref (b + 57), .int (iI a0), .int (iI a1)]) 5
  rw [hent]
  generalize (lg_sl ([.ref (b + 57), .int (iI a0), .int (iI a1)]) ++ List.replicate (5 - (lg_sl ([.ref (b + 57), .int (iI a0), .int (iI a1)])).length) Slot.unset).toArray = ls at hl ⊢
  have hl : lv_has ls 5 [(0, .ref (b + 57)), (1, .int (iI a0)), (2, .int (iI a1))] := hl
  refine lv_aload_n hx hb dX1_ticksToTurn_0 rfl (lv_at hl 0 rfl) ?_
  refine w_getr (j2 := 58) hx hb hts (z_memU u1) hown hK.1 hS f1_2 (by decide) (zkd_of (rfl : zcd wC 57 = 16) rfl) (zrf_of (rfl : zcd wC 57 = 16) rfl) (Or.inl (hts _ (z_mem k131))) dX1_ticksToTurn_1 ?_
  refine lv_iload_n hx hb dX1_ticksToTurn_4 rfl (lv_at hl 1 rfl) ?_
  obtain ⟨o1, h⟩ := h
  refine w_iald (n := 4) (i := (sI a0)) hx hb hK.1 (t0 := 0) rfl hS (by decide) (zkd_of (rfl : zcd wC 58 = 17) rfl) (zln_of (rfl : zcd wC 58 = 17) rfl) rfl o1.1 o1.2 (by decide) dX1_ticksToTurn_5 ?_
  refine lv_istore_n (lv' := [(3, .int (iI (M 58 (sI a0).toNat))), (0, .ref (b + 57)), (1, .int (iI a0)), (2, .int (iI a1))]) hx hb dX1_ticksToTurn_6 rfl hl (by decide) rfl (fun ls hl => ?_)
  refine z_iconst hx hb dX1_ticksToTurn_7 ?_
  refine lv_istore (lv' := [(4, .int (iI 0)), (3, .int (iI (M 58 (sI a0).toNat))), (0, .ref (b + 57)), (1, .int (iI a0)), (2, .int (iI a1))]) hx hb dX1_ticksToTurn_8 hl (by decide) rfl (fun ls hl => ?_)
  obtain ⟨I3, ⟨n4, h5⟩, h6⟩ := h
  have L7 : ∀ (n8 : Nat) (x2 : Int) (H : Heap) (locs : List Loc) (ls : Array Slot), I3 n8 x2 → zR D dA vwCl wC nC b M H → va_S (zA nC b) s.heap H locs → lv_has ls 5 [(0, .ref (b + 57)), (1, .int (iI a0)), (2, .int (iI a1)), (3, .int (iI (M 58 (sI a0).toNat))), (4, .int (iI x2))] → W p l e (headSpec (.code yX1_ticksToTurn cX1_ticksToTurn 5 (some .int) :: zt) (z_rm 1)).room s m args below meth c H locs 0 0 (MQ below (va_Qi (wQi (fun z9 u9 => u9 = M ∧ Q z9)) (zB D dA vwCl wC nC b) (zA nC b)) args s 0 0 (zA nC b)) (F0 m 10 ls []) := by
    intro n8
    induction n8 using Nat.strongRecOn with
    | ind n8 i9 =>
      intro x2 H locs ls h hS hS0 hl
      have h := h6 n8 x2 h
      refine lv_iload hx hb dX1_ticksToTurn_10 (lv_at hl 4 rfl) ?_
      refine lv_iload_n hx hb dX1_ticksToTurn_12 rfl (lv_at hl 3 rfl) ?_
      refine w_icmp_ge (tgt := 46) hx hb rfl rfl dX1_ticksToTurn_13 (by decide) (fun c10 => ?_) (fun c10 => ?_)
      · skip
        have h := h.1 c10
        refine lv_iload_n hx hb dX1_ticksToTurn_46 rfl (lv_at hl 3 rfl) ?_
        exact w_iret hx hb hr hlocks hS hS0 rfl ⟨rfl, h⟩ dX1_ticksToTurn_47
      · skip
        have h := h.2 c10
        refine lv_aload_n hx hb dX1_ticksToTurn_16 rfl (lv_at hl 0 rfl) ?_
        refine w_getr (j2 := 59) hx hb hts (z_memU u1) hown hK.1 hS f1_3 (by decide) (zkd_of (rfl : zcd wC 57 = 16) rfl) (zrf_of (rfl : zcd wC 57 = 16) rfl) (Or.inl (hts _ (z_mem k132))) dX1_ticksToTurn_17 ?_
        refine lv_iload_n hx hb dX1_ticksToTurn_20 rfl (lv_at hl 1 rfl) ?_
        obtain ⟨o11, h⟩ := h
        refine w_iald (n := 4) (i := (sI a0)) hx hb hK.1 (t0 := 0) rfl hS (by decide) (zkd_of (rfl : zcd wC 59 = 18) rfl) (zln_of (rfl : zcd wC 59 = 18) rfl) rfl o11.1 o11.2 (by decide) dX1_ticksToTurn_21 ?_
        refine lv_iload_n hx hb dX1_ticksToTurn_22 rfl (lv_at hl 2 rfl) ?_
        refine lv_iload hx hb dX1_ticksToTurn_23 (lv_at hl 4 rfl) ?_
        refine z_iadd hx hb dX1_ticksToTurn_25 ?_
        refine w_i2l hx hb rfl dX1_ticksToTurn_26 ?_
        refine lv_iload_n hx hb dX1_ticksToTurn_27 rfl (lv_at hl 3 rfl) ?_
        refine w_calli (va_runSN (As := [.long (iL (sI (a1 + x2))), .int (iI (M 58 (sI a0).toNat))]) (rest := [.int (iI (M 59 (sI a0).toNat))]) ⟨hx, hb, hml, hown, hts⟩ (cC_by l D dA b M (sI (a1 + x2)) (M 58 (sI a0).toNat) _ h) ⟨va_cnB 2 hts (z_gN k406) rfl rfl rfl (hK.2 (RX1, 62, yX11_by, RX11) (List.mem_of_getElem? (i := 15) rfl)) (hts _ (z_mem k1)) dm_X11_by.2 ⟨Nat.le_of_ble_eq_true rfl, Nat.le_of_ble_eq_true rfl⟩, (hts _ (z_mem k405)), trivial⟩ ⟨wPre_blind, w_pre hS hK⟩ rfl rfl hl.1 rfl (lv_room (Nat.le_of_ble_eq_true rfl)) dX1_ticksToTurn_28 ⟨Nat.le_refl _, Nat.le_refl _⟩) hS0 (fun z13 M12 H locs r14 h hS hS0 => ?_)
        obtain ⟨e15, h⟩ := h
        rw [e15] at hS
        refine w_ishr hx hb dX1_ticksToTurn_31 ?_
        refine z_iconst hx hb dX1_ticksToTurn_32 ?_
        refine w_iand hx hb dX1_ticksToTurn_33 ?_
        refine w_if_eq (tgt := 40) hx hb (sI_of (andI_R _ _)) dX1_ticksToTurn_34 (by decide) (fun c16 => ?_) (fun c16 => ?_)
        · skip
          have h := h.1 c16
          refine z_iinc (lv' := [(4, .int (iI (x2 + 1))), (0, .ref (b + 57)), (1, .int (iI a0)), (2, .int (iI a1)), (3, .int (iI (M 58 (sI a0).toNat)))]) hx hb dX1_ticksToTurn_40 hl (k := 4) rfl (by decide) rfl (fun ls hl => ?_)
          refine lv_goto (tgt := 10) hx hb dX1_ticksToTurn_43 (by decide) ?_
          obtain ⟨n17, h18, h⟩ := h
          exact i9 n17 h18 (x2 + 1) _ _ _ h hS hS0 (lv_sub hl [1, 2, 3, 4, 0] rfl)
        · skip
          have h := h.2 c16
          refine lv_iload hx hb dX1_ticksToTurn_37 (lv_at hl 4 rfl) ?_
          exact w_iret hx hb hr hlocks hS hS0 rfl ⟨rfl, h⟩ dX1_ticksToTurn_39
  exact L7 n4 0 _ _ _ h5 hS hS0 (lv_sub hl [2, 3, 4, 1, 0] rfl)

set_option maxRecDepth 100000 in
def wC_Meeting_firstSteady (a0 : Int) (M : zM) (Q : Int → Prop) : Prop := wC_Meeting_allTicks  M (fun z2 => pL2 (fun K11 x5 x6 => (z2 ≤ (sL x6) → Q (-1)) ∧ ((sL x6) < z2 → ((sL (a0 + z2)) ≤ (sL x5) → Q (-1)) ∧ ((sL x5) < (sL (a0 + z2)) → pL2 (fun K34 x16 x17 => ((sI (M 57 0)) ≤ (sI x17) → ((sL x16) ≠ (sL x5) → K11 x16 (x6 + 1)) ∧ ((sL x16) = (sL x5) → Q (sL x5))) ∧ ((sI x17) < (sI (M 57 0)) → ((0 ≤ (sI x17) ∧ (sI x17) < 4) ∧ wC_by (x16 - (M 57 1)) (M 58 (sI x17).toNat) M (fun z31 => wC_Meeting_ticksToTurn x17 z31 M (fun z35 => K34 (x16 + z35) (x17 + 1)))))) x5 0))) a0 0)
set_option maxHeartbeats 4000000 in
set_option maxRecDepth 100000 in
theorem cC_Meeting_firstSteady (l : Launch) (D : va_G) (dA : Nat → ClassId) (b : Nat) (M : zM) (a0 : Int)  (Q : Int → Prop) (h : wC_Meeting_firstSteady a0 M Q) : Met l yX1_firstSteady (.code yX1_firstSteady cX1_firstSteady 12 (some .long) :: zt) (z_rm 4) (va_Pc [.ref (b + 57), .long (iL a0)] (wPre D dA vwCl (z_tys dA) wC nC b M)) (va_Ql (wQl (fun z9 u9 => u9 = M ∧ Q z9)) (zB D dA vwCl wC nC b) (zA nC b)) 0 0 (zA nC b) := by
  unfold wC_Meeting_firstSteady at h
  refine Met.ofW (cc := cX1_firstSteady) (maxL := 12) (ret := (some .long)) (by decide) rfl ?_
  intro p e s m args below meth c s₁ B hml hv
  obtain ⟨hargs, hS, hK⟩ := hv
  have hx := B.exec
  have hb := B.bytes
  have hr := B.returns
  have hts := atoms_spec (ws := .code yX1_firstSteady cX1_firstSteady 12 (some .long) :: zt) B.pre
  have hown : s.vm.findClass RX1 = some m.cls := findClass_of_methodNamed B.named
  have hlocks := B.notSynchronized
  have hS0 : va_S (zA nC b) s.heap s.heap [] := va_S.rf
  have hl := lv_entry ([.ref (b + 57), .long (iL a0)]) (n := 12) (Nat.le_of_ble_eq_true rfl)
  have hent : entryFrame m args 12 = F0 m 0 ((lg_sl ([.ref (b + 57), .long (iL a0)]) ++ List.replicate (12 - (lg_sl ([.ref (b + 57), .long (iL a0)])).length) Slot.unset).toArray) [] := by rw [hargs]; exact lg_entry_eq m ([.ref (b + 57), .long (iL a0)]) 12
  rw [hent]
  generalize (lg_sl ([.ref (b + 57), .long (iL a0)]) ++ List.replicate (12 - (lg_sl ([.ref (b + 57), .long (iL a0)])).length) Slot.unset).toArray = ls at hl ⊢
  have hl : lv_has ls 12 [(0, .ref (b + 57)), (1, .long (iL a0))] := hl
  refine lv_aload_n hx hb dX1_firstSteady_0 rfl (lv_at hl 0 rfl) ?_
  refine w_calll (va_runV (As := []) (rest := []) ⟨hx, hb, hml, hown, hts⟩ (cC_Meeting_allTicks l D dA b M  _ h) (cwV 0 hts (z_gV k587 k543 k544 k7 k545) rfl rfl rfl dm_X1_allTicks ⟨Nat.le_of_ble_eq_true rfl, Nat.le_of_ble_eq_true rfl⟩) ⟨wPre_blind, (w_recv hS hK.1 (by decide) (zkd_of (rfl : zcd wC 57 = 16) rfl) (by decide) (rfl : vwCl[1]? = some (RX1, TX1, 4))), w_pre hS hK⟩ rfl rfl hl.1 rfl (lv_room (Nat.le_of_ble_eq_true rfl)) dX1_firstSteady_1 ⟨Nat.le_refl _, Nat.le_refl _⟩) hS0 (fun z2 M1 H locs r3 h hS hS0 => ?_)
  obtain ⟨e4, h⟩ := h
  rw [e4] at hS
  refine lv_lstore_n (lv' := [(3, .long (iL z2)), (0, .ref (b + 57)), (1, .long (iL a0))]) hx hb dX1_firstSteady_4 rfl hl (by decide) rfl (fun ls hl => ?_)
  refine lv_lload_n hx hb dX1_firstSteady_5 rfl (lv_at hl 2 rfl) ?_
  refine lv_lstore (lv' := [(5, .long (iL a0)), (3, .long (iL z2)), (0, .ref (b + 57)), (1, .long (iL a0))]) hx hb dX1_firstSteady_6 hl (by decide) rfl (fun ls hl => ?_)
  refine z_lconst0 hx hb dX1_firstSteady_8 ?_
  refine lv_lstore (lv' := [(7, .long (iL 0)), (5, .long (iL a0)), (3, .long (iL z2)), (0, .ref (b + 57)), (1, .long (iL a0))]) hx hb dX1_firstSteady_9 hl (by decide) rfl (fun ls hl => ?_)
  obtain ⟨I7, ⟨n8, h9⟩, h10⟩ := h
  have L11 : ∀ (n12 : Nat) (x5 x6 : Int) (H : Heap) (locs : List Loc) (ls : Array Slot), I7 n12 x5 x6 → zR D dA vwCl wC nC b M H → va_S (zA nC b) s.heap H locs → lv_has ls 12 [(0, .ref (b + 57)), (1, .long (iL a0)), (3, .long (iL z2)), (5, .long (iL x5)), (7, .long (iL x6))] → W p l e (headSpec (.code yX1_firstSteady cX1_firstSteady 12 (some .long) :: zt) (z_rm 4)).room s m args below meth c H locs 0 0 (MQ below (va_Ql (wQl (fun z9 u9 => u9 = M ∧ Q z9)) (zB D dA vwCl wC nC b) (zA nC b)) args s 0 0 (zA nC b)) (F0 m 11 ls []) := by
    intro n12
    induction n12 using Nat.strongRecOn with
    | ind n12 i13 =>
      intro x5 x6 H locs ls h hS hS0 hl
      have h := h10 n12 x5 x6 h
      refine lv_lload hx hb dX1_firstSteady_11 (lv_at hl 4 rfl) ?_
      refine lv_lload_n hx hb dX1_firstSteady_13 rfl (lv_at hl 2 rfl) ?_
      refine w_lcmp_ge hx hb rfl (sL_of r3) dX1_firstSteady_14 dX1_firstSteady_15 (tgt := 102) (by decide) (fun c14 => ?_) (fun c14 => ?_)
      · skip
        have h := h.1 c14
        refine z_ldc2 (n := -1) hx hb hown (hts _ (z_mem k582)) (by decide) dX1_firstSteady_102 ?_
        exact w_lret hx hb hr hlocks hS hS0 (sL_of (by decide)) ⟨rfl, h⟩ dX1_firstSteady_105
      · skip
        have h := h.2 c14
        refine lv_lload hx hb dX1_firstSteady_18 (lv_at hl 3 rfl) ?_
        refine lv_lload_n hx hb dX1_firstSteady_20 rfl (lv_at hl 1 rfl) ?_
        refine lv_lload_n hx hb dX1_firstSteady_21 rfl (lv_at hl 2 rfl) ?_
        refine z_ladd hx hb dX1_firstSteady_22 ?_
        refine w_lcmp_ge hx hb rfl rfl dX1_firstSteady_23 dX1_firstSteady_24 (tgt := 102) (by decide) (fun c15 => ?_) (fun c15 => ?_)
        · skip
          have h := h.1 c15
          refine z_ldc2 (n := -1) hx hb hown (hts _ (z_mem k582)) (by decide) dX1_firstSteady_102 ?_
          exact w_lret hx hb hr hlocks hS hS0 (sL_of (by decide)) ⟨rfl, h⟩ dX1_firstSteady_105
        · skip
          have h := h.2 c15
          refine lv_lload hx hb dX1_firstSteady_27 (lv_at hl 3 rfl) ?_
          refine lv_lstore (lv' := [(9, .long (iL x5)), (0, .ref (b + 57)), (1, .long (iL a0)), (3, .long (iL z2)), (5, .long (iL x5)), (7, .long (iL x6))]) hx hb dX1_firstSteady_29 hl (by decide) rfl (fun ls hl => ?_)
          refine z_iconst hx hb dX1_firstSteady_31 ?_
          refine lv_istore (lv' := [(11, .int (iI 0)), (9, .long (iL x5)), (0, .ref (b + 57)), (1, .long (iL a0)), (3, .long (iL z2)), (5, .long (iL x5)), (7, .long (iL x6))]) hx hb dX1_firstSteady_32 hl (by decide) rfl (fun ls hl => ?_)
          obtain ⟨I18, ⟨n19, h20⟩, h21⟩ := h
          have L22 : ∀ (n23 : Nat) (x16 x17 : Int) (H : Heap) (locs : List Loc) (ls : Array Slot), I18 n23 x16 x17 → zR D dA vwCl wC nC b M H → va_S (zA nC b) s.heap H locs → lv_has ls 12 [(0, .ref (b + 57)), (1, .long (iL a0)), (3, .long (iL z2)), (5, .long (iL x5)), (7, .long (iL x6)), (9, .long (iL x16)), (11, .int (iI x17))] → W p l e (headSpec (.code yX1_firstSteady cX1_firstSteady 12 (some .long) :: zt) (z_rm 4)).room s m args below meth c H locs 0 0 (MQ below (va_Ql (wQl (fun z9 u9 => u9 = M ∧ Q z9)) (zB D dA vwCl wC nC b) (zA nC b)) args s 0 0 (zA nC b)) (F0 m 34 ls []) := by
            intro n23
            induction n23 using Nat.strongRecOn with
            | ind n23 i24 =>
              intro x16 x17 H locs ls h hS hS0 hl
              have h := h21 n23 x16 x17 h
              refine lv_iload hx hb dX1_firstSteady_34 (lv_at hl 6 rfl) ?_
              refine lv_aload_n hx hb dX1_firstSteady_36 rfl (lv_at hl 0 rfl) ?_
              refine w_geti hx hb hts (z_memU u1) hown hK.1 hS f1_0 (by decide) (zkd_of (rfl : zcd wC 57 = 16) rfl) (Or.inl (hts _ (z_mem k129))) dX1_firstSteady_37 ?_
              refine w_icmp_ge (tgt := 78) hx hb rfl rfl dX1_firstSteady_40 (by decide) (fun c25 => ?_) (fun c25 => ?_)
              · skip
                have h := h.1 c25
                refine lv_lload hx hb dX1_firstSteady_78 (lv_at hl 5 rfl) ?_
                refine lv_lload hx hb dX1_firstSteady_80 (lv_at hl 3 rfl) ?_
                refine w_lcmp_ne hx hb rfl rfl dX1_firstSteady_82 dX1_firstSteady_83 (tgt := 89) (by decide) (fun c26 => ?_) (fun c26 => ?_)
                · skip
                  have h := h.1 c26
                  refine lv_lload hx hb dX1_firstSteady_89 (lv_at hl 5 rfl) ?_
                  refine lv_lstore (lv' := [(5, .long (iL x16)), (0, .ref (b + 57)), (1, .long (iL a0)), (3, .long (iL z2)), (7, .long (iL x6)), (9, .long (iL x16)), (11, .int (iI x17))]) hx hb dX1_firstSteady_91 hl (by decide) rfl (fun ls hl => ?_)
                  refine lv_lload hx hb dX1_firstSteady_93 (lv_at hl 4 rfl) ?_
                  refine z_lconst1 hx hb dX1_firstSteady_95 ?_
                  refine z_ladd hx hb dX1_firstSteady_96 ?_
                  refine lv_lstore (lv' := [(7, .long (iL (x6 + 1))), (5, .long (iL x16)), (0, .ref (b + 57)), (1, .long (iL a0)), (3, .long (iL z2)), (9, .long (iL x16)), (11, .int (iI x17))]) hx hb dX1_firstSteady_97 hl (by decide) rfl (fun ls hl => ?_)
                  refine lv_goto (tgt := 11) hx hb dX1_firstSteady_99 (by decide) ?_
                  obtain ⟨n27, h28, h⟩ := h
                  exact i13 n27 h28 x16 (x6 + 1) _ _ _ h hS hS0 (lv_sub hl [2, 3, 4, 1, 0] rfl)
                · skip
                  have h := h.2 c26
                  refine lv_lload hx hb dX1_firstSteady_86 (lv_at hl 3 rfl) ?_
                  exact w_lret hx hb hr hlocks hS hS0 rfl ⟨rfl, h⟩ dX1_firstSteady_88
              · skip
                have h := h.2 c25
                refine lv_lload hx hb dX1_firstSteady_43 (lv_at hl 5 rfl) ?_
                refine lv_aload_n hx hb dX1_firstSteady_45 rfl (lv_at hl 0 rfl) ?_
                refine lv_iload hx hb dX1_firstSteady_46 (lv_at hl 6 rfl) ?_
                refine lv_lload hx hb dX1_firstSteady_48 (lv_at hl 5 rfl) ?_
                refine lv_aload_n hx hb dX1_firstSteady_50 rfl (lv_at hl 0 rfl) ?_
                refine w_getl hx hb hts (z_memU u1) hown hK.1 hS f1_1 (by decide) (zkd_of (rfl : zcd wC 57 = 16) rfl) (Or.inl (hts _ (z_mem k130))) dX1_firstSteady_51 ?_
                refine z_lsub hx hb dX1_firstSteady_54 ?_
                refine lv_aload_n hx hb dX1_firstSteady_55 rfl (lv_at hl 0 rfl) ?_
                refine w_getr (j2 := 58) hx hb hts (z_memU u1) hown hK.1 hS f1_2 (by decide) (zkd_of (rfl : zcd wC 57 = 16) rfl) (zrf_of (rfl : zcd wC 57 = 16) rfl) (Or.inl (hts _ (z_mem k131))) dX1_firstSteady_56 ?_
                refine lv_iload hx hb dX1_firstSteady_59 (lv_at hl 6 rfl) ?_
                obtain ⟨o29, h⟩ := h
                refine w_iald (n := 4) (i := (sI x17)) hx hb hK.1 (t0 := 0) rfl hS (by decide) (zkd_of (rfl : zcd wC 58 = 17) rfl) (zln_of (rfl : zcd wC 58 = 17) rfl) rfl o29.1 o29.2 (by decide) dX1_firstSteady_61 ?_
                refine w_calli (va_runSN (As := [.long (iL (x16 - (M 57 1))), .int (iI (M 58 (sI x17).toNat))]) (rest := [.int (iI x17), .ref (b + 57), .long (iL x16)]) ⟨hx, hb, hml, hown, hts⟩ (cC_by l D dA b M (x16 - (M 57 1)) (M 58 (sI x17).toNat) _ h) ⟨va_cnB 2 hts (z_gN k406) rfl rfl rfl (hK.2 (RX1, 62, yX11_by, RX11) (List.mem_of_getElem? (i := 15) rfl)) (hts _ (z_mem k1)) dm_X11_by.2 ⟨Nat.le_of_ble_eq_true rfl, Nat.le_of_ble_eq_true rfl⟩, (hts _ (z_mem k405)), trivial⟩ ⟨wPre_blind, w_pre hS hK⟩ rfl rfl hl.1 rfl (lv_room (Nat.le_of_ble_eq_true rfl)) dX1_firstSteady_62 ⟨Nat.le_refl _, Nat.le_refl _⟩) hS0 (fun z31 M30 H locs r32 h hS hS0 => ?_)
                obtain ⟨e33, h⟩ := h
                rw [e33] at hS
                refine w_calli (va_runV (As := [.int (iI x17), .int (iI z31)]) (rest := [.long (iL x16)]) ⟨hx, hb, hml, hown, hts⟩ (cC_Meeting_ticksToTurn l D dA b M x17 z31 _ h) (cwV 2 hts (z_gV k588 k589 k1369 k7 k590) rfl rfl rfl dm_X1_ticksToTurn ⟨Nat.le_of_ble_eq_true rfl, Nat.le_of_ble_eq_true rfl⟩) ⟨wPre_blind, (w_recv hS hK.1 (by decide) (zkd_of (rfl : zcd wC 57 = 16) rfl) (by decide) (rfl : vwCl[1]? = some (RX1, TX1, 4))), w_pre hS hK⟩ rfl rfl hl.1 rfl (lv_room (Nat.le_of_ble_eq_true rfl)) dX1_firstSteady_65 ⟨Nat.le_refl _, Nat.le_refl _⟩) hS0 (fun z35 M34 H locs r36 h hS hS0 => ?_)
                obtain ⟨e37, h⟩ := h
                rw [e37] at hS
                refine w_i2l hx hb (sI_of r36) dX1_firstSteady_68 ?_
                refine z_ladd hx hb dX1_firstSteady_69 ?_
                refine lv_lstore (lv' := [(9, .long (iL (x16 + z35))), (0, .ref (b + 57)), (1, .long (iL a0)), (3, .long (iL z2)), (5, .long (iL x5)), (7, .long (iL x6)), (11, .int (iI x17))]) hx hb dX1_firstSteady_70 hl (by decide) rfl (fun ls hl => ?_)
                refine z_iinc (lv' := [(11, .int (iI (x17 + 1))), (9, .long (iL (x16 + z35))), (0, .ref (b + 57)), (1, .long (iL a0)), (3, .long (iL z2)), (5, .long (iL x5)), (7, .long (iL x6))]) hx hb dX1_firstSteady_72 hl (k := 6) rfl (by decide) rfl (fun ls hl => ?_)
                refine lv_goto (tgt := 34) hx hb dX1_firstSteady_75 (by decide) ?_
                obtain ⟨n38, h39, h⟩ := h
                exact i24 n38 h39 (x16 + z35) (x17 + 1) _ _ _ h hS hS0 (lv_sub hl [2, 3, 4, 5, 6, 1, 0] rfl)
          exact L22 n19 x5 0 _ _ _ h20 hS hS0 (lv_sub hl [2, 3, 4, 5, 6, 1, 0] rfl)
  exact L11 n8 a0 0 _ _ _ h9 hS hS0 (lv_sub hl [3, 4, 2, 1, 0] rfl)

set_option maxRecDepth 100000 in
def wC_Meeting_first (a1 : Int) (M : zM) (Q : Int → Prop) : Prop := pL1 (fun K3 x1 => ((sL (M 57 1)) ≤ (sL x1) → wC_Meeting_howOften  M (fun z11 => (z11 ≠ 0 → wC_Meeting_firstSteady (max (sL a1) (sL (M 57 1))) M (fun z16 => Q z16)) ∧ (z11 = 0 → Q (-1)))) ∧ ((sL x1) < (sL (M 57 1)) → wC_Studio_meetsAt x1 M (fun z20 => (z20 = 0 → K3 (x1 + 1)) ∧ (z20 ≠ 0 → Q (sL x1))))) a1
set_option maxHeartbeats 4000000 in
set_option maxRecDepth 100000 in
theorem cC_Meeting_first (l : Launch) (D : va_G) (dA : Nat → ClassId) (b : Nat) (M : zM) (a1 : Int)  (Q : Int → Prop) (h : wC_Meeting_first a1 M Q) : Met l yX1_first (.code yX1_first cX1_first 6 (some .long) :: zt) (z_rm 5) (va_Pc [.ref (b + 57), .ref (b + 32), .long (iL a1)] (wPre D dA vwCl (z_tys dA) wC nC b M)) (va_Ql (wQl (fun z9 u9 => u9 = M ∧ Q z9)) (zB D dA vwCl wC nC b) (zA nC b)) 0 0 (zA nC b) := by
  unfold wC_Meeting_first at h
  refine Met.ofW (cc := cX1_first) (maxL := 6) (ret := (some .long)) (by decide) rfl ?_
  intro p e s m args below meth c s₁ B hml hv
  obtain ⟨hargs, hS, hK⟩ := hv
  have hx := B.exec
  have hb := B.bytes
  have hr := B.returns
  have hts := atoms_spec (ws := .code yX1_first cX1_first 6 (some .long) :: zt) B.pre
  have hown : s.vm.findClass RX1 = some m.cls := findClass_of_methodNamed B.named
  have hlocks := B.notSynchronized
  have hS0 : va_S (zA nC b) s.heap s.heap [] := va_S.rf
  have hl := lv_entry ([.ref (b + 57), .ref (b + 32), .long (iL a1)]) (n := 6) (Nat.le_of_ble_eq_true rfl)
  have hent : entryFrame m args 6 = F0 m 0 ((lg_sl ([.ref (b + 57), .ref (b + 32), .long (iL a1)]) ++ List.replicate (6 - (lg_sl ([.ref (b + 57), .ref (b + 32), .long (iL a1)])).length) Slot.unset).toArray) [] := by rw [hargs]; exact lg_entry_eq m ([.ref (b + 57), .ref (b + 32), .long (iL a1)]) 6
  rw [hent]
  generalize (lg_sl ([.ref (b + 57), .ref (b + 32), .long (iL a1)]) ++ List.replicate (6 - (lg_sl ([.ref (b + 57), .ref (b + 32), .long (iL a1)])).length) Slot.unset).toArray = ls at hl ⊢
  have hl : lv_has ls 6 [(0, .ref (b + 57)), (1, .ref (b + 32)), (2, .long (iL a1))] := hl
  refine lv_lload_n hx hb dX1_first_0 rfl (lv_at hl 2 rfl) ?_
  refine lv_lstore (lv' := [(4, .long (iL a1)), (0, .ref (b + 57)), (1, .ref (b + 32)), (2, .long (iL a1))]) hx hb dX1_first_1 hl (by decide) rfl (fun ls hl => ?_)
  obtain ⟨I2, ⟨n3, h4⟩, h5⟩ := h
  have L6 : ∀ (n7 : Nat) (x1 : Int) (H : Heap) (locs : List Loc) (ls : Array Slot), I2 n7 x1 → zR D dA vwCl wC nC b M H → va_S (zA nC b) s.heap H locs → lv_has ls 6 [(0, .ref (b + 57)), (1, .ref (b + 32)), (2, .long (iL a1)), (4, .long (iL x1))] → W p l e (headSpec (.code yX1_first cX1_first 6 (some .long) :: zt) (z_rm 5)).room s m args below meth c H locs 0 0 (MQ below (va_Ql (wQl (fun z9 u9 => u9 = M ∧ Q z9)) (zB D dA vwCl wC nC b) (zA nC b)) args s 0 0 (zA nC b)) (F0 m 3 ls []) := by
    intro n7
    induction n7 using Nat.strongRecOn with
    | ind n7 i8 =>
      intro x1 H locs ls h hS hS0 hl
      have h := h5 n7 x1 h
      refine lv_lload hx hb dX1_first_3 (lv_at hl 3 rfl) ?_
      refine lv_aload_n hx hb dX1_first_5 rfl (lv_at hl 0 rfl) ?_
      refine w_getl hx hb hts (z_memU u1) hown hK.1 hS f1_1 (by decide) (zkd_of (rfl : zcd wC 57 = 16) rfl) (Or.inl (hts _ (z_mem k130))) dX1_first_6 ?_
      refine w_lcmp_ge hx hb rfl rfl dX1_first_9 dX1_first_10 (tgt := 34) (by decide) (fun c9 => ?_) (fun c9 => ?_)
      · skip
        have h := h.1 c9
        refine lv_aload_n hx hb dX1_first_34 rfl (lv_at hl 0 rfl) ?_
        refine w_calll (va_runV (As := []) (rest := []) ⟨hx, hb, hml, hown, hts⟩ (cC_Meeting_howOften l D dA b M  _ h) (cwV 0 hts (z_gV k571 k572 k573 k7 k574) rfl rfl rfl dm_X1_howOften ⟨Nat.le_of_ble_eq_true rfl, Nat.le_of_ble_eq_true rfl⟩) ⟨wPre_blind, (w_recv hS hK.1 (by decide) (zkd_of (rfl : zcd wC 57 = 16) rfl) (by decide) (rfl : vwCl[1]? = some (RX1, TX1, 4))), w_pre hS hK⟩ rfl rfl hl.1 rfl (lv_room (Nat.le_of_ble_eq_true rfl)) dX1_first_35 ⟨Nat.le_refl _, Nat.le_refl _⟩) hS0 (fun z11 M10 H locs r12 h hS hS0 => ?_)
        obtain ⟨e13, h⟩ := h
        rw [e13] at hS
        refine z_lconst0 hx hb dX1_first_38 ?_
        refine w_lcmp_ne hx hb (sL_of r12) (sL_of (by decide)) dX1_first_39 dX1_first_40 (tgt := 49) (by decide) (fun c14 => ?_) (fun c14 => ?_)
        · skip
          have h := h.1 c14
          refine lv_aload_n hx hb dX1_first_49 rfl (lv_at hl 0 rfl) ?_
          refine lv_lload_n hx hb dX1_first_50 rfl (lv_at hl 2 rfl) ?_
          refine lv_aload_n hx hb dX1_first_51 rfl (lv_at hl 0 rfl) ?_
          refine w_getl hx hb hts (z_memU u1) hown hK.1 hS f1_1 (by decide) (zkd_of (rfl : zcd wC 57 = 16) rfl) (Or.inl (hts _ (z_mem k130))) dX1_first_52 ?_
          refine w_mmaxl hx hb (hml.trans hl.1.symm) hown (hts _ (z_mem k583)) (hts _ (z_mem k492)) (hts _ (z_mem k15)) (hts _ (z_mem k493)) (by exact Nat.le_of_ble_eq_true rfl) (by exact Nat.le_of_ble_eq_true rfl) (by exact Nat.le_refl _) (by exact Nat.le_refl _) rfl rfl dX1_first_55 ?_
          refine w_calll (va_runV (As := [.long (iL (max (sL a1) (sL (M 57 1))))]) (rest := []) ⟨hx, hb, hml, hown, hts⟩ (cC_Meeting_firstSteady l D dA b M (max (sL a1) (sL (M 57 1))) _ h) (cwV 1 hts (z_gV k584 k585 k1368 k7 k586) rfl rfl rfl dm_X1_firstSteady ⟨Nat.le_of_ble_eq_true rfl, Nat.le_of_ble_eq_true rfl⟩) ⟨wPre_blind, (w_recv hS hK.1 (by decide) (zkd_of (rfl : zcd wC 57 = 16) rfl) (by decide) (rfl : vwCl[1]? = some (RX1, TX1, 4))), w_pre hS hK⟩ rfl rfl hl.1 rfl (lv_room (Nat.le_of_ble_eq_true rfl)) dX1_first_58 ⟨Nat.le_refl _, Nat.le_refl _⟩) hS0 (fun z16 M15 H locs r17 h hS hS0 => ?_)
          obtain ⟨e18, h⟩ := h
          rw [e18] at hS
          exact w_lret hx hb hr hlocks hS hS0 (sL_of r17) ⟨rfl, h⟩ dX1_first_61
        · skip
          have h := h.2 c14
          refine z_ldc2 (n := -1) hx hb hown (hts _ (z_mem k582)) (by decide) dX1_first_43 ?_
          refine lv_goto (tgt := 61) hx hb dX1_first_46 (by decide) ?_
          exact w_lret hx hb hr hlocks hS hS0 (sL_of (by decide)) ⟨rfl, h⟩ dX1_first_61
      · skip
        have h := h.2 c9
        refine lv_aload_n hx hb dX1_first_13 rfl (lv_at hl 1 rfl) ?_
        refine lv_lload hx hb dX1_first_14 (lv_at hl 3 rfl) ?_
        refine w_callz (va_runV (As := [.long (iL x1)]) (rest := []) ⟨hx, hb, hml, hown, hts⟩ (cC_Studio_meetsAt l D dA b M x1 _ h) (cwV 1 hts (z_gV k566 k567 k568 k4 k569) rfl rfl rfl dm_X9_meetsAt ⟨Nat.le_of_ble_eq_true rfl, Nat.le_of_ble_eq_true rfl⟩) ⟨wPre_blind, (w_recv hS hK.1 (by decide) (zkd_of (rfl : zcd wC 32 = 8) rfl) (by decide) (rfl : vwCl[9]? = some (RX9, TX9, 3))), w_pre hS hK⟩ rfl rfl hl.1 rfl (lv_room (Nat.le_of_ble_eq_true rfl)) dX1_first_16 ⟨Nat.le_refl _, Nat.le_refl _⟩) hS0 (fun z20 M19 H locs r21 h hS hS0 => ?_)
        obtain ⟨e22, h⟩ := h
        rw [e22] at hS
        refine w_if_eq (tgt := 25) hx hb (sI_01 r21) dX1_first_19 (by decide) (fun c23 => ?_) (fun c23 => ?_)
        · skip
          have h := h.1 c23
          refine lv_lload hx hb dX1_first_25 (lv_at hl 3 rfl) ?_
          refine z_lconst1 hx hb dX1_first_27 ?_
          refine z_ladd hx hb dX1_first_28 ?_
          refine lv_lstore (lv' := [(4, .long (iL (x1 + 1))), (0, .ref (b + 57)), (1, .ref (b + 32)), (2, .long (iL a1))]) hx hb dX1_first_29 hl (by decide) rfl (fun ls hl => ?_)
          refine lv_goto (tgt := 3) hx hb dX1_first_31 (by decide) ?_
          obtain ⟨n24, h25, h⟩ := h
          exact i8 n24 h25 (x1 + 1) _ _ _ h hS hS0 (lv_sub hl [1, 2, 3, 0] rfl)
        · skip
          have h := h.2 c23
          refine lv_lload hx hb dX1_first_22 (lv_at hl 3 rfl) ?_
          exact w_lret hx hb hr hlocks hS hS0 rfl ⟨rfl, h⟩ dX1_first_24
  exact L6 n3 a1 _ _ _ h4 hS hS0 (lv_sub hl [1, 2, 3, 0] rfl)

set_option maxRecDepth 100000 in
def wC_meets (a0 : Int) (M : zM) (Q : Int → zM → Prop) : Prop := ((sL a0) < 0 → Q (-1) M) ∧ (0 ≤ (sL a0) → ((sL a0) ≤ 1152921504606846976 → wC_Meeting_look  M (fun M3 => wC_Meeting_first a0 M3 (fun z5 => Q z5 M3))) ∧ (1152921504606846976 < (sL a0) → Q (-1) M))
set_option maxHeartbeats 4000000 in
set_option maxRecDepth 100000 in
theorem cC_meets (l : Launch) (D : va_G) (dA : Nat → ClassId) (b : Nat) (M : zM) (a0 : Int)  (Q : Int → zM → Prop) (h : wC_meets a0 M Q) : Met l yX11_meets (.code yX11_meets cX11_meets 3 (some .long) :: zt) (z_rm 6) (va_Pc [.ref (b + 0), .long (iL a0)] (wPre D dA vwCl (z_tys dA) wC nC b M)) (va_Ql (wQl Q) (zB D dA vwCl wC nC b) (zA nC b)) 0 0 (zA nC b) := by
  unfold wC_meets at h
  refine Met.ofW (cc := cX11_meets) (maxL := 3) (ret := (some .long)) (by decide) rfl ?_
  intro p e s m args below meth c s₁ B hml hv
  obtain ⟨hargs, hS, hK⟩ := hv
  have hx := B.exec
  have hb := B.bytes
  have hr := B.returns
  have hts := atoms_spec (ws := .code yX11_meets cX11_meets 3 (some .long) :: zt) B.pre
  have hown : s.vm.findClass RX11 = some m.cls := findClass_of_methodNamed B.named
  have hlocks := B.notSynchronized
  have hS0 : va_S (zA nC b) s.heap s.heap [] := va_S.rf
  have hl := lv_entry ([.ref (b + 0), .long (iL a0)]) (n := 3) (Nat.le_of_ble_eq_true rfl)
  have hent : entryFrame m args 3 = F0 m 0 ((lg_sl ([.ref (b + 0), .long (iL a0)]) ++ List.replicate (3 - (lg_sl ([.ref (b + 0), .long (iL a0)])).length) Slot.unset).toArray) [] := by rw [hargs]; exact lg_entry_eq m ([.ref (b + 0), .long (iL a0)]) 3
  rw [hent]
  generalize (lg_sl ([.ref (b + 0), .long (iL a0)]) ++ List.replicate (3 - (lg_sl ([.ref (b + 0), .long (iL a0)])).length) Slot.unset).toArray = ls at hl ⊢
  have hl : lv_has ls 3 [(0, .ref (b + 0)), (1, .long (iL a0))] := hl
  refine lv_lload_n hx hb dX11_meets_0 rfl (lv_at hl 1 rfl) ?_
  refine z_lconst0 hx hb dX11_meets_1 ?_
  refine w_lcmp_lt hx hb rfl (sL_of (by decide)) dX11_meets_2 dX11_meets_3 (tgt := 14) (by decide) (fun c1 => ?_) (fun c1 => ?_)
  · skip
    have h := h.1 c1
    refine z_ldc2 (n := -1) hx hb hown (hts _ (z_mem k561)) (by decide) dX11_meets_14 ?_
    exact w_lret hx hb hr hlocks hS hS0 (sL_of (by decide)) h dX11_meets_17
  · skip
    have h := h.2 c1
    refine lv_lload_n hx hb dX11_meets_6 rfl (lv_at hl 1 rfl) ?_
    refine z_ldc2 (n := 1152921504606846976) hx hb hown (hts _ (z_mem k560)) (by decide) dX11_meets_7 ?_
    refine w_lcmp_le hx hb rfl (sL_of (by decide)) dX11_meets_10 dX11_meets_11 (tgt := 18) (by decide) (fun c2 => ?_) (fun c2 => ?_)
    · skip
      have h := h.1 c2
      refine lv_aload_n hx hb dX11_meets_18 rfl (lv_at hl 0 rfl) ?_
      refine w_getr (j2 := 57) hx hb hts (z_memU u11) hown hK.1 hS f11_3 (by decide) (zkd_of (rfl : zcd wC 0 = 0) rfl) (zrf_of (rfl : zcd wC 0 = 0) rfl) (Or.inl (hts _ (z_mem k245))) dX11_meets_19 ?_
      refine lv_aload_n hx hb dX11_meets_22 rfl (lv_at hl 0 rfl) ?_
      refine w_getr (j2 := 32) hx hb hts (z_memU u11) hown hK.1 hS f11_2 (by decide) (zkd_of (rfl : zcd wC 0 = 0) rfl) (zrf_of (rfl : zcd wC 0 = 0) rfl) (Or.inl (hts _ (z_mem k244))) dX11_meets_23 ?_
      refine w_callv (va_runV (As := [.ref (b + 32)]) (rest := []) ⟨hx, hb, hml, hown, hts⟩ (cC_Meeting_look l D dA b M  _ h) (cwV 1 hts (z_gV k511 k512 k513 k7 k514) rfl rfl rfl dm_X1_look ⟨Nat.le_of_ble_eq_true rfl, Nat.le_of_ble_eq_true rfl⟩) ⟨wPre_blind, (w_recv hS hK.1 (by decide) (zkd_of (rfl : zcd wC 57 = 16) rfl) (by decide) (rfl : vwCl[1]? = some (RX1, TX1, 4))), w_pre hS hK⟩ rfl rfl hl.1 rfl (lv_room (Nat.le_of_ble_eq_true rfl)) dX11_meets_26 ⟨Nat.le_refl _, Nat.le_refl _⟩) hS0 (fun M3 H locs h hS hS0 => ?_)
      refine lv_aload_n hx hb dX11_meets_29 rfl (lv_at hl 0 rfl) ?_
      refine w_getr (j2 := 57) hx hb hts (z_memU u11) hown hK.1 hS f11_3 (by decide) (zkd_of (rfl : zcd wC 0 = 0) rfl) (zrf_of (rfl : zcd wC 0 = 0) rfl) (Or.inl (hts _ (z_mem k245))) dX11_meets_30 ?_
      refine lv_aload_n hx hb dX11_meets_33 rfl (lv_at hl 0 rfl) ?_
      refine w_getr (j2 := 32) hx hb hts (z_memU u11) hown hK.1 hS f11_2 (by decide) (zkd_of (rfl : zcd wC 0 = 0) rfl) (zrf_of (rfl : zcd wC 0 = 0) rfl) (Or.inl (hts _ (z_mem k244))) dX11_meets_34 ?_
      refine lv_lload_n hx hb dX11_meets_37 rfl (lv_at hl 1 rfl) ?_
      refine w_calll (va_runV (As := [.ref (b + 32), .long (iL a0)]) (rest := []) ⟨hx, hb, hml, hown, hts⟩ (cC_Meeting_first l D dA b M3 a0 _ h) (cwV 2 hts (z_gV k562 k563 k564 k7 k565) rfl rfl rfl dm_X1_first ⟨Nat.le_of_ble_eq_true rfl, Nat.le_of_ble_eq_true rfl⟩) ⟨wPre_blind, (w_recv hS hK.1 (by decide) (zkd_of (rfl : zcd wC 57 = 16) rfl) (by decide) (rfl : vwCl[1]? = some (RX1, TX1, 4))), w_pre hS hK⟩ rfl rfl hl.1 rfl (lv_room (Nat.le_of_ble_eq_true rfl)) dX11_meets_38 ⟨Nat.le_refl _, Nat.le_refl _⟩) hS0 (fun z5 M4 H locs r6 h hS hS0 => ?_)
      obtain ⟨e7, h⟩ := h
      rw [e7] at hS
      exact w_lret hx hb hr hlocks hS hS0 (sL_of r6) h dX11_meets_41
    · skip
      have h := h.2 c2
      refine z_ldc2 (n := -1) hx hb hown (hts _ (z_mem k561)) (by decide) dX11_meets_14 ?_
      exact w_lret hx hb hr hlocks hS hS0 (sL_of (by decide)) h dX11_meets_17
end zz10_w06
