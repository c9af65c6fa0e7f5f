/-! the W layer, 0 -/
theorem dX11_end_0 : decode cX11_end 0 = .ok (.aload_n 0, 1) := by decide +kernel
theorem dX11_end_1 : decode cX11_end 1 = .ok (.getfield 12, 3) := by decide +kernel
theorem dX11_end_4 : decode cX11_end 4 = .ok (.iload_n 1, 1) := by decide +kernel
theorem dX11_end_5 : decode cX11_end 5 = .ok (.invokevirtual 84, 3) := by decide +kernel
theorem dX11_end_8 : decode cX11_end 8 = .ok (.ireturn, 1) := by decide +kernel
theorem dX11_sign_0 : decode cX11_sign 0 = .ok (.aload_n 0, 1) := by decide +kernel
theorem dX11_sign_1 : decode cX11_sign 1 = .ok (.getfield 12, 3) := by decide +kernel
theorem dX11_sign_4 : decode cX11_sign 4 = .ok (.iload_n 1, 1) := by decide +kernel
theorem dX11_sign_5 : decode cX11_sign 5 = .ok (.invokevirtual 80, 3) := by decide +kernel
theorem dX11_sign_8 : decode cX11_sign 8 = .ok (.ireturn, 1) := by decide +kernel
theorem dX7_add_0 : decode cX7_add 0 = .ok (.aload_n 0, 1) := by decide +kernel
theorem dX7_add_1 : decode cX7_add 1 = .ok (.getfield 15, 3) := by decide +kernel
theorem dX7_add_10 : decode cX7_add 10 = .ok (.arraylength, 1) := by decide +kernel
theorem dX7_add_11 : decode cX7_add 11 = .ok (.if_icmp .le 5, 3) := by decide +kernel
theorem dX7_add_14 : decode cX7_add 14 = .ok (.iconst (-1), 1) := by decide +kernel
theorem dX7_add_15 : decode cX7_add 15 = .ok (.ireturn, 1) := by decide +kernel
theorem dX7_add_16 : decode cX7_add 16 = .ok (.bipush 24, 2) := by decide +kernel
theorem dX7_add_18 : decode cX7_add 18 = .ok (.istore_n 2, 1) := by decide +kernel
theorem dX7_add_19 : decode cX7_add 19 = .ok (.iload_n 2, 1) := by decide +kernel
theorem dX7_add_20 : decode cX7_add 20 = .ok (.ifCond .lt 35, 3) := by decide +kernel
theorem dX7_add_23 : decode cX7_add 23 = .ok (.aload_n 0, 1) := by decide +kernel
theorem dX7_add_24 : decode cX7_add 24 = .ok (.getfield 9, 3) := by decide +kernel
theorem dX7_add_27 : decode cX7_add 27 = .ok (.aload_n 0, 1) := by decide +kernel
theorem dX7_add_28 : decode cX7_add 28 = .ok (.getfield 15, 3) := by decide +kernel
theorem dX7_add_31 : decode cX7_add 31 = .ok (.iload_n 1, 1) := by decide +kernel
theorem dX7_add_32 : decode cX7_add 32 = .ok (.iload_n 2, 1) := by decide +kernel
theorem dX7_add_33 : decode cX7_add 33 = .ok (.iushr, 1) := by decide +kernel
theorem dX7_add_34 : decode cX7_add 34 = .ok (.sipush 255, 3) := by decide +kernel
theorem dX7_add_37 : decode cX7_add 37 = .ok (.iand, 1) := by decide +kernel
theorem dX7_add_38 : decode cX7_add 38 = .ok (.iastore, 1) := by decide +kernel
theorem dX7_add_39 : decode cX7_add 39 = .ok (.aload_n 0, 1) := by decide +kernel
theorem dX7_add_4 : decode cX7_add 4 = .ok (.iconst 4, 1) := by decide +kernel
theorem dX7_add_40 : decode cX7_add 40 = .ok (.dup, 1) := by decide +kernel
theorem dX7_add_41 : decode cX7_add 41 = .ok (.getfield 15, 3) := by decide +kernel
theorem dX7_add_44 : decode cX7_add 44 = .ok (.iconst 1, 1) := by decide +kernel
theorem dX7_add_45 : decode cX7_add 45 = .ok (.iadd, 1) := by decide +kernel
theorem dX7_add_46 : decode cX7_add 46 = .ok (.putfield 15, 3) := by decide +kernel
theorem dX7_add_49 : decode cX7_add 49 = .ok (.iinc 2 (-8), 3) := by decide +kernel
theorem dX7_add_5 : decode cX7_add 5 = .ok (.iadd, 1) := by decide +kernel
theorem dX7_add_52 : decode cX7_add 52 = .ok (.goto (-33), 3) := by decide +kernel
theorem dX7_add_55 : decode cX7_add 55 = .ok (.aload_n 0, 1) := by decide +kernel
theorem dX7_add_56 : decode cX7_add 56 = .ok (.getfield 15, 3) := by decide +kernel
theorem dX7_add_59 : decode cX7_add 59 = .ok (.ireturn, 1) := by decide +kernel
theorem dX7_add_6 : decode cX7_add 6 = .ok (.aload_n 0, 1) := by decide +kernel
theorem dX7_add_7 : decode cX7_add 7 = .ok (.getfield 9, 3) := by decide +kernel
theorem dX7_behindAtomStart_0 : decode cX7_behindAtomStart 0 = .ok (.iload_n 1, 1) := by decide +kernel
theorem dX7_behindAtomStart_1 : decode cX7_behindAtomStart 1 = .ok (.bipush 48, 2) := by decide +kernel
theorem dX7_behindAtomStart_10 : decode cX7_behindAtomStart 10 = .ok (.ireturn, 1) := by decide +kernel
theorem dX7_behindAtomStart_11 : decode cX7_behindAtomStart 11 = .ok (.iload_n 1, 1) := by decide +kernel
theorem dX7_behindAtomStart_12 : decode cX7_behindAtomStart 12 = .ok (.bipush 91, 2) := by decide +kernel
theorem dX7_behindAtomStart_14 : decode cX7_behindAtomStart 14 = .ok (.if_icmp .ne 5, 3) := by decide +kernel
theorem dX7_behindAtomStart_17 : decode cX7_behindAtomStart 17 = .ok (.iconst 4, 1) := by decide +kernel
theorem dX7_behindAtomStart_18 : decode cX7_behindAtomStart 18 = .ok (.ireturn, 1) := by decide +kernel
theorem dX7_behindAtomStart_19 : decode cX7_behindAtomStart 19 = .ok (.iload_n 1, 1) := by decide +kernel
theorem dX7_behindAtomStart_20 : decode cX7_behindAtomStart 20 = .ok (.bipush 40, 2) := by decide +kernel
theorem dX7_behindAtomStart_22 : decode cX7_behindAtomStart 22 = .ok (.if_icmp .ne 23, 3) := by decide +kernel
theorem dX7_behindAtomStart_25 : decode cX7_behindAtomStart 25 = .ok (.aload_n 0, 1) := by decide +kernel
theorem dX7_behindAtomStart_26 : decode cX7_behindAtomStart 26 = .ok (.getfield 19, 3) := by decide +kernel
theorem dX7_behindAtomStart_29 : decode cX7_behindAtomStart 29 = .ok (.iconst 5, 1) := by decide +kernel
theorem dX7_behindAtomStart_3 : decode cX7_behindAtomStart 3 = .ok (.invokestatic 63, 3) := by decide +kernel
theorem dX7_behindAtomStart_30 : decode cX7_behindAtomStart 30 = .ok (.if_icmp .ge 15, 3) := by decide +kernel
theorem dX7_behindAtomStart_33 : decode cX7_behindAtomStart 33 = .ok (.aload_n 0, 1) := by decide +kernel
theorem dX7_behindAtomStart_34 : decode cX7_behindAtomStart 34 = .ok (.dup, 1) := by decide +kernel
theorem dX7_behindAtomStart_35 : decode cX7_behindAtomStart 35 = .ok (.getfield 19, 3) := by decide +kernel
theorem dX7_behindAtomStart_38 : decode cX7_behindAtomStart 38 = .ok (.iconst 1, 1) := by decide +kernel
theorem dX7_behindAtomStart_39 : decode cX7_behindAtomStart 39 = .ok (.iadd, 1) := by decide +kernel
theorem dX7_behindAtomStart_40 : decode cX7_behindAtomStart 40 = .ok (.putfield 19, 3) := by decide +kernel
theorem dX7_behindAtomStart_43 : decode cX7_behindAtomStart 43 = .ok (.iconst 0, 1) := by decide +kernel
theorem dX7_behindAtomStart_44 : decode cX7_behindAtomStart 44 = .ok (.ireturn, 1) := by decide +kernel
theorem dX7_behindAtomStart_45 : decode cX7_behindAtomStart 45 = .ok (.iconst (-1), 1) := by decide +kernel
theorem dX7_behindAtomStart_46 : decode cX7_behindAtomStart 46 = .ok (.ireturn, 1) := by decide +kernel
theorem dX7_behindAtomStart_6 : decode cX7_behindAtomStart 6 = .ok (.ifCond .eq 5, 3) := by decide +kernel
theorem dX7_behindAtomStart_9 : decode cX7_behindAtomStart 9 = .ok (.iconst 1, 1) := by decide +kernel
theorem dX7_behindTermSign_0 : decode cX7_behindTermSign 0 = .ok (.iload_n 1, 1) := by decide +kernel
theorem dX7_behindTermSign_1 : decode cX7_behindTermSign 1 = .ok (.lookupswitch 72 #[(41, 49), (42, 45), (47, 47), (126, 43)], 43) := by decide +kernel
theorem dX7_behindTermSign_44 : decode cX7_behindTermSign 44 = .ok (.iconst 1, 1) := by decide +kernel
theorem dX7_behindTermSign_45 : decode cX7_behindTermSign 45 = .ok (.ireturn, 1) := by decide +kernel
theorem dX7_behindTermSign_46 : decode cX7_behindTermSign 46 = .ok (.iconst 2, 1) := by decide +kernel
theorem dX7_behindTermSign_47 : decode cX7_behindTermSign 47 = .ok (.ireturn, 1) := by decide +kernel
theorem dX7_behindTermSign_48 : decode cX7_behindTermSign 48 = .ok (.iconst 3, 1) := by decide +kernel
theorem dX7_behindTermSign_49 : decode cX7_behindTermSign 49 = .ok (.ireturn, 1) := by decide +kernel
theorem dX7_behindTermSign_50 : decode cX7_behindTermSign 50 = .ok (.aload_n 0, 1) := by decide +kernel
theorem dX7_behindTermSign_51 : decode cX7_behindTermSign 51 = .ok (.dup, 1) := by decide +kernel
theorem dX7_behindTermSign_52 : decode cX7_behindTermSign 52 = .ok (.getfield 19, 3) := by decide +kernel
theorem dX7_behindTermSign_55 : decode cX7_behindTermSign 55 = .ok (.iconst 1, 1) := by decide +kernel
theorem dX7_behindTermSign_56 : decode cX7_behindTermSign 56 = .ok (.isub, 1) := by decide +kernel
theorem dX7_behindTermSign_57 : decode cX7_behindTermSign 57 = .ok (.putfield 19, 3) := by decide +kernel
theorem dX7_behindTermSign_60 : decode cX7_behindTermSign 60 = .ok (.aload_n 0, 1) := by decide +kernel
theorem dX7_behindTermSign_61 : decode cX7_behindTermSign 61 = .ok (.getfield 19, 3) := by decide +kernel
theorem dX7_behindTermSign_64 : decode cX7_behindTermSign 64 = .ok (.ifCond .ge 7, 3) := by decide +kernel
theorem dX7_behindTermSign_67 : decode cX7_behindTermSign 67 = .ok (.iconst (-1), 1) := by decide +kernel
theorem dX7_behindTermSign_68 : decode cX7_behindTermSign 68 = .ok (.goto 4, 3) := by decide +kernel
theorem dX7_behindTermSign_71 : decode cX7_behindTermSign 71 = .ok (.iconst 1, 1) := by decide +kernel
theorem dX7_behindTermSign_72 : decode cX7_behindTermSign 72 = .ok (.ireturn, 1) := by decide +kernel
theorem dX7_behindTermSign_73 : decode cX7_behindTermSign 73 = .ok (.aload_n 0, 1) := by decide +kernel
theorem dX7_behindTermSign_74 : decode cX7_behindTermSign 74 = .ok (.iload_n 1, 1) := by decide +kernel
theorem dX7_behindTermSign_75 : decode cX7_behindTermSign 75 = .ok (.invokevirtual 56, 3) := by decide +kernel
theorem dX7_behindTermSign_78 : decode cX7_behindTermSign 78 = .ok (.ireturn, 1) := by decide +kernel
theorem dX7_behind_0 : decode cX7_behind 0 = .ok (.iload_n 1, 1) := by decide +kernel
theorem dX7_behind_1 : decode cX7_behind 1 = .ok (.tableswitch 104 0 5 #[39, 45, 51, 66, 104, 81], 39) := by decide +kernel
theorem dX7_behind_100 : decode cX7_behind 100 = .ok (.goto 4, 3) := by decide +kernel
theorem dX7_behind_103 : decode cX7_behind 103 = .ok (.iconst (-1), 1) := by decide +kernel
theorem dX7_behind_104 : decode cX7_behind 104 = .ok (.ireturn, 1) := by decide +kernel
theorem dX7_behind_105 : decode cX7_behind 105 = .ok (.iload_n 2, 1) := by decide +kernel
theorem dX7_behind_106 : decode cX7_behind 106 = .ok (.bipush 49, 2) := by decide +kernel
theorem dX7_behind_108 : decode cX7_behind 108 = .ok (.invokestatic 63, 3) := by decide +kernel
theorem dX7_behind_111 : decode cX7_behind 111 = .ok (.ifCond .eq 7, 3) := by decide +kernel
theorem dX7_behind_114 : decode cX7_behind 114 = .ok (.iconst 5, 1) := by decide +kernel
theorem dX7_behind_115 : decode cX7_behind 115 = .ok (.goto 4, 3) := by decide +kernel
theorem dX7_behind_118 : decode cX7_behind 118 = .ok (.iconst (-1), 1) := by decide +kernel
theorem dX7_behind_119 : decode cX7_behind 119 = .ok (.ireturn, 1) := by decide +kernel
theorem dX7_behind_40 : decode cX7_behind 40 = .ok (.aload_n 0, 1) := by decide +kernel
theorem dX7_behind_41 : decode cX7_behind 41 = .ok (.iload_n 2, 1) := by decide +kernel
theorem dX7_behind_42 : decode cX7_behind 42 = .ok (.invokevirtual 56, 3) := by decide +kernel
theorem dX7_behind_45 : decode cX7_behind 45 = .ok (.ireturn, 1) := by decide +kernel
theorem dX7_behind_46 : decode cX7_behind 46 = .ok (.aload_n 0, 1) := by decide +kernel
theorem dX7_behind_47 : decode cX7_behind 47 = .ok (.iload_n 2, 1) := by decide +kernel
theorem dX7_behind_48 : decode cX7_behind 48 = .ok (.invokevirtual 60, 3) := by decide +kernel
theorem dX7_behind_51 : decode cX7_behind 51 = .ok (.ireturn, 1) := by decide +kernel
theorem dX7_behind_52 : decode cX7_behind 52 = .ok (.iload_n 2, 1) := by decide +kernel
theorem dX7_behind_53 : decode cX7_behind 53 = .ok (.bipush 50, 2) := by decide +kernel
theorem dX7_behind_55 : decode cX7_behind 55 = .ok (.invokestatic 63, 3) := by decide +kernel
theorem dX7_behind_58 : decode cX7_behind 58 = .ok (.ifCond .eq 7, 3) := by decide +kernel
theorem dX7_behind_61 : decode cX7_behind 61 = .ok (.iconst 1, 1) := by decide +kernel
theorem dX7_behind_62 : decode cX7_behind 62 = .ok (.goto 4, 3) := by decide +kernel
theorem dX7_behind_65 : decode cX7_behind 65 = .ok (.iconst (-1), 1) := by decide +kernel
theorem dX7_behind_66 : decode cX7_behind 66 = .ok (.ireturn, 1) := by decide +kernel
theorem dX7_behind_67 : decode cX7_behind 67 = .ok (.iload_n 2, 1) := by decide +kernel
theorem dX7_behind_68 : decode cX7_behind 68 = .ok (.bipush 49, 2) := by decide +kernel
theorem dX7_behind_70 : decode cX7_behind 70 = .ok (.invokestatic 63, 3) := by decide +kernel
theorem dX7_behind_73 : decode cX7_behind 73 = .ok (.ifCond .eq 7, 3) := by decide +kernel
theorem dX7_behind_76 : decode cX7_behind 76 = .ok (.iconst 0, 1) := by decide +kernel
theorem dX7_behind_77 : decode cX7_behind 77 = .ok (.goto 4, 3) := by decide +kernel
theorem dX7_behind_80 : decode cX7_behind 80 = .ok (.iconst (-1), 1) := by decide +kernel
theorem dX7_behind_81 : decode cX7_behind 81 = .ok (.ireturn, 1) := by decide +kernel
theorem dX7_behind_82 : decode cX7_behind 82 = .ok (.iload_n 2, 1) := by decide +kernel
theorem dX7_behind_83 : decode cX7_behind 83 = .ok (.bipush 93, 2) := by decide +kernel
theorem dX7_behind_85 : decode cX7_behind 85 = .ok (.if_icmp .ne 5, 3) := by decide +kernel
theorem dX7_behind_88 : decode cX7_behind 88 = .ok (.iconst 1, 1) := by decide +kernel
theorem dX7_behind_89 : decode cX7_behind 89 = .ok (.ireturn, 1) := by decide +kernel
theorem dX7_behind_90 : decode cX7_behind 90 = .ok (.iload_n 2, 1) := by decide +kernel
theorem dX7_behind_91 : decode cX7_behind 91 = .ok (.bipush 49, 2) := by decide +kernel
theorem dX7_behind_93 : decode cX7_behind 93 = .ok (.invokestatic 63, 3) := by decide +kernel
theorem dX7_behind_96 : decode cX7_behind 96 = .ok (.ifCond .eq 7, 3) := by decide +kernel
theorem dX7_behind_99 : decode cX7_behind 99 = .ok (.iconst 5, 1) := by decide +kernel
theorem dX7_firstWrong_0 : decode cX7_firstWrong 0 = .ok (.iconst 0, 1) := by decide +kernel
theorem dX7_firstWrong_1 : decode cX7_firstWrong 1 = .ok (.istore_n 1, 1) := by decide +kernel
theorem dX7_firstWrong_10 : decode cX7_firstWrong 10 = .ok (.aload_n 0, 1) := by decide +kernel
theorem dX7_firstWrong_11 : decode cX7_firstWrong 11 = .ok (.getfield 15, 3) := by decide +kernel
theorem dX7_firstWrong_14 : decode cX7_firstWrong 14 = .ok (.if_icmp .ge 34, 3) := by decide +kernel
theorem dX7_firstWrong_17 : decode cX7_firstWrong 17 = .ok (.iload_n 2, 1) := by decide +kernel
theorem dX7_firstWrong_18 : decode cX7_firstWrong 18 = .ok (.bipush 60, 2) := by decide +kernel
theorem dX7_firstWrong_2 : decode cX7_firstWrong 2 = .ok (.aload_n 0, 1) := by decide +kernel
theorem dX7_firstWrong_20 : decode cX7_firstWrong 20 = .ok (.if_icmp .ge 28, 3) := by decide +kernel
theorem dX7_firstWrong_23 : decode cX7_firstWrong 23 = .ok (.aload_n 0, 1) := by decide +kernel
theorem dX7_firstWrong_24 : decode cX7_firstWrong 24 = .ok (.iload_n 1, 1) := by decide +kernel
theorem dX7_firstWrong_25 : decode cX7_firstWrong 25 = .ok (.aload_n 0, 1) := by decide +kernel
theorem dX7_firstWrong_26 : decode cX7_firstWrong 26 = .ok (.getfield 9, 3) := by decide +kernel
theorem dX7_firstWrong_29 : decode cX7_firstWrong 29 = .ok (.iload_n 2, 1) := by decide +kernel
theorem dX7_firstWrong_3 : decode cX7_firstWrong 3 = .ok (.iconst 0, 1) := by decide +kernel
theorem dX7_firstWrong_30 : decode cX7_firstWrong 30 = .ok (.iaload, 1) := by decide +kernel
theorem dX7_firstWrong_31 : decode cX7_firstWrong 31 = .ok (.invokevirtual 52, 3) := by decide +kernel
theorem dX7_firstWrong_34 : decode cX7_firstWrong 34 = .ok (.istore_n 1, 1) := by decide +kernel
theorem dX7_firstWrong_35 : decode cX7_firstWrong 35 = .ok (.iload_n 1, 1) := by decide +kernel
theorem dX7_firstWrong_36 : decode cX7_firstWrong 36 = .ok (.iconst (-1), 1) := by decide +kernel
theorem dX7_firstWrong_37 : decode cX7_firstWrong 37 = .ok (.if_icmp .ne 5, 3) := by decide +kernel
theorem dX7_firstWrong_4 : decode cX7_firstWrong 4 = .ok (.putfield 19, 3) := by decide +kernel
theorem dX7_firstWrong_40 : decode cX7_firstWrong 40 = .ok (.iload_n 2, 1) := by decide +kernel
theorem dX7_firstWrong_41 : decode cX7_firstWrong 41 = .ok (.ireturn, 1) := by decide +kernel
theorem dX7_firstWrong_42 : decode cX7_firstWrong 42 = .ok (.iinc 2 1, 3) := by decide +kernel
theorem dX7_firstWrong_45 : decode cX7_firstWrong 45 = .ok (.goto (-36), 3) := by decide +kernel
theorem dX7_firstWrong_48 : decode cX7_firstWrong 48 = .ok (.aload_n 0, 1) := by decide +kernel
theorem dX7_firstWrong_49 : decode cX7_firstWrong 49 = .ok (.getfield 15, 3) := by decide +kernel
theorem dX7_firstWrong_52 : decode cX7_firstWrong 52 = .ok (.bipush 60, 2) := by decide +kernel
theorem dX7_firstWrong_54 : decode cX7_firstWrong 54 = .ok (.if_icmp .le 6, 3) := by decide +kernel
theorem dX7_firstWrong_57 : decode cX7_firstWrong 57 = .ok (.bipush 60, 2) := by decide +kernel
theorem dX7_firstWrong_59 : decode cX7_firstWrong 59 = .ok (.ireturn, 1) := by decide +kernel
theorem dX7_firstWrong_60 : decode cX7_firstWrong 60 = .ok (.iload_n 1, 1) := by decide +kernel
theorem dX7_firstWrong_61 : decode cX7_firstWrong 61 = .ok (.iconst 1, 1) := by decide +kernel
theorem dX7_firstWrong_62 : decode cX7_firstWrong 62 = .ok (.if_icmp .ne 14, 3) := by decide +kernel
theorem dX7_firstWrong_65 : decode cX7_firstWrong 65 = .ok (.aload_n 0, 1) := by decide +kernel
theorem dX7_firstWrong_66 : decode cX7_firstWrong 66 = .ok (.getfield 19, 3) := by decide +kernel
theorem dX7_firstWrong_69 : decode cX7_firstWrong 69 = .ok (.ifCond .ne 7, 3) := by decide +kernel
theorem dX7_firstWrong_7 : decode cX7_firstWrong 7 = .ok (.iconst 0, 1) := by decide +kernel
theorem dX7_firstWrong_72 : decode cX7_firstWrong 72 = .ok (.iconst (-1), 1) := by decide +kernel
theorem dX7_firstWrong_73 : decode cX7_firstWrong 73 = .ok (.goto 7, 3) := by decide +kernel
theorem dX7_firstWrong_76 : decode cX7_firstWrong 76 = .ok (.aload_n 0, 1) := by decide +kernel
theorem dX7_firstWrong_77 : decode cX7_firstWrong 77 = .ok (.getfield 15, 3) := by decide +kernel
theorem dX7_firstWrong_8 : decode cX7_firstWrong 8 = .ok (.istore_n 2, 1) := by decide +kernel
theorem dX7_firstWrong_80 : decode cX7_firstWrong 80 = .ok (.ireturn, 1) := by decide +kernel
theorem dX7_firstWrong_9 : decode cX7_firstWrong 9 = .ok (.iload_n 2, 1) := by decide +kernel
theorem dX7_isDigit_0 : decode cX7_isDigit 0 = .ok (.iload_n 0, 1) := by decide +kernel
theorem dX7_isDigit_1 : decode cX7_isDigit 1 = .ok (.iload_n 1, 1) := by decide +kernel
theorem dX7_isDigit_11 : decode cX7_isDigit 11 = .ok (.iconst 1, 1) := by decide +kernel
theorem dX7_isDigit_12 : decode cX7_isDigit 12 = .ok (.goto 4, 3) := by decide +kernel
theorem dX7_isDigit_15 : decode cX7_isDigit 15 = .ok (.iconst 0, 1) := by decide +kernel
theorem dX7_isDigit_16 : decode cX7_isDigit 16 = .ok (.ireturn, 1) := by decide +kernel
theorem dX7_isDigit_2 : decode cX7_isDigit 2 = .ok (.if_icmp .lt 13, 3) := by decide +kernel
theorem dX7_isDigit_5 : decode cX7_isDigit 5 = .ok (.iload_n 0, 1) := by decide +kernel
theorem dX7_isDigit_6 : decode cX7_isDigit 6 = .ok (.bipush 57, 2) := by decide +kernel
theorem dX7_isDigit_8 : decode cX7_isDigit 8 = .ok (.if_icmp .gt 7, 3) := by decide +kernel
theorem dX7_keepFirst_0 : decode cX7_keepFirst 0 = .ok (.iload_n 1, 1) := by decide +kernel
theorem dX7_keepFirst_1 : decode cX7_keepFirst 1 = .ok (.ifCond .lt 11, 3) := by decide +kernel
theorem dX7_keepFirst_12 : decode cX7_keepFirst 12 = .ok (.iconst 0, 1) := by decide +kernel
theorem dX7_keepFirst_13 : decode cX7_keepFirst 13 = .ok (.ireturn, 1) := by decide +kernel
theorem dX7_keepFirst_14 : decode cX7_keepFirst 14 = .ok (.aload_n 0, 1) := by decide +kernel
theorem dX7_keepFirst_15 : decode cX7_keepFirst 15 = .ok (.iload_n 1, 1) := by decide +kernel
theorem dX7_keepFirst_16 : decode cX7_keepFirst 16 = .ok (.putfield 15, 3) := by decide +kernel
theorem dX7_keepFirst_19 : decode cX7_keepFirst 19 = .ok (.iconst 1, 1) := by decide +kernel
theorem dX7_keepFirst_20 : decode cX7_keepFirst 20 = .ok (.ireturn, 1) := by decide +kernel
theorem dX7_keepFirst_4 : decode cX7_keepFirst 4 = .ok (.iload_n 1, 1) := by decide +kernel
theorem dX7_keepFirst_5 : decode cX7_keepFirst 5 = .ok (.aload_n 0, 1) := by decide +kernel
theorem dX7_keepFirst_6 : decode cX7_keepFirst 6 = .ok (.getfield 15, 3) := by decide +kernel
theorem dX7_keepFirst_9 : decode cX7_keepFirst 9 = .ok (.if_icmp .le 5, 3) := by decide +kernel
theorem dX7_openRow_0 : decode cX7_openRow 0 = .ok (.aload_n 0, 1) := by decide +kernel
theorem dX7_openRow_1 : decode cX7_openRow 1 = .ok (.getfield 27, 3) := by decide +kernel
theorem dX7_openRow_10 : decode cX7_openRow 10 = .ok (.putfield 49, 3) := by decide +kernel
theorem dX7_openRow_13 : decode cX7_openRow 13 = .ok (.aload_n 0, 1) := by decide +kernel
theorem dX7_openRow_14 : decode cX7_openRow 14 = .ok (.getfield 31, 3) := by decide +kernel
theorem dX7_openRow_17 : decode cX7_openRow 17 = .ok (.aload_n 0, 1) := by decide +kernel
theorem dX7_openRow_18 : decode cX7_openRow 18 = .ok (.getfield 19, 3) := by decide +kernel
theorem dX7_openRow_21 : decode cX7_openRow 21 = .ok (.aaload, 1) := by decide +kernel
theorem dX7_openRow_22 : decode cX7_openRow 22 = .ok (.iconst 0, 1) := by decide +kernel
theorem dX7_openRow_23 : decode cX7_openRow 23 = .ok (.putfield 49, 3) := by decide +kernel
theorem dX7_openRow_26 : decode cX7_openRow 26 = .ok (.aload_n 0, 1) := by decide +kernel
theorem dX7_openRow_27 : decode cX7_openRow 27 = .ok (.getfield 34, 3) := by decide +kernel
theorem dX7_openRow_30 : decode cX7_openRow 30 = .ok (.aload_n 0, 1) := by decide +kernel
theorem dX7_openRow_31 : decode cX7_openRow 31 = .ok (.getfield 19, 3) := by decide +kernel
theorem dX7_openRow_34 : decode cX7_openRow 34 = .ok (.iconst 0, 1) := by decide +kernel
theorem dX7_openRow_35 : decode cX7_openRow 35 = .ok (.iastore, 1) := by decide +kernel
theorem dX7_openRow_36 : decode cX7_openRow 36 = .ok (.return_, 1) := by decide +kernel
theorem dX7_openRow_4 : decode cX7_openRow 4 = .ok (.aload_n 0, 1) := by decide +kernel
theorem dX7_openRow_5 : decode cX7_openRow 5 = .ok (.getfield 19, 3) := by decide +kernel
theorem dX7_openRow_8 : decode cX7_openRow 8 = .ok (.aaload, 1) := by decide +kernel
theorem dX7_openRow_9 : decode cX7_openRow 9 = .ok (.iconst 0, 1) := by decide +kernel
theorem dX7_repeatTerm_0 : decode cX7_repeatTerm 0 = .ok (.aload_n 0, 1) := by decide +kernel
theorem dX7_repeatTerm_1 : decode cX7_repeatTerm 1 = .ok (.getfield 31, 3) := by decide +kernel
theorem dX7_repeatTerm_12 : decode cX7_repeatTerm 12 = .ok (.iload_n 1, 1) := by decide +kernel
theorem dX7_repeatTerm_13 : decode cX7_repeatTerm 13 = .ok (.imul, 1) := by decide +kernel
theorem dX7_repeatTerm_14 : decode cX7_repeatTerm 14 = .ok (.bipush 24, 2) := by decide +kernel
theorem dX7_repeatTerm_16 : decode cX7_repeatTerm 16 = .ok (.if_icmp .le 6, 3) := by decide +kernel
theorem dX7_repeatTerm_19 : decode cX7_repeatTerm 19 = .ok (.bipush (-100), 2) := by decide +kernel
theorem dX7_repeatTerm_21 : decode cX7_repeatTerm 21 = .ok (.ireturn, 1) := by decide +kernel
theorem dX7_repeatTerm_22 : decode cX7_repeatTerm 22 = .ok (.aload_n 0, 1) := by decide +kernel
theorem dX7_repeatTerm_23 : decode cX7_repeatTerm 23 = .ok (.getfield 31, 3) := by decide +kernel
theorem dX7_repeatTerm_26 : decode cX7_repeatTerm 26 = .ok (.aload_n 0, 1) := by decide +kernel
theorem dX7_repeatTerm_27 : decode cX7_repeatTerm 27 = .ok (.getfield 19, 3) := by decide +kernel
theorem dX7_repeatTerm_30 : decode cX7_repeatTerm 30 = .ok (.aaload, 1) := by decide +kernel
theorem dX7_repeatTerm_31 : decode cX7_repeatTerm 31 = .ok (.iload_n 1, 1) := by decide +kernel
theorem dX7_repeatTerm_32 : decode cX7_repeatTerm 32 = .ok (.invokevirtual 102, 3) := by decide +kernel
theorem dX7_repeatTerm_35 : decode cX7_repeatTerm 35 = .ok (.iconst 0, 1) := by decide +kernel
theorem dX7_repeatTerm_36 : decode cX7_repeatTerm 36 = .ok (.ireturn, 1) := by decide +kernel
theorem dX7_repeatTerm_4 : decode cX7_repeatTerm 4 = .ok (.aload_n 0, 1) := by decide +kernel
theorem dX7_repeatTerm_5 : decode cX7_repeatTerm 5 = .ok (.getfield 19, 3) := by decide +kernel
theorem dX7_repeatTerm_8 : decode cX7_repeatTerm 8 = .ok (.aaload, 1) := by decide +kernel
theorem dX7_repeatTerm_9 : decode cX7_repeatTerm 9 = .ok (.getfield 49, 3) := by decide +kernel
theorem dX8_has_0 : decode cX8_has 0 = .ok (.iload_n 1, 1) := by decide +kernel
theorem dX8_has_1 : decode cX8_has 1 = .ok (.ifCond .lt 24, 3) := by decide +kernel
theorem dX8_has_12 : decode cX8_has 12 = .ok (.iload_n 1, 1) := by decide +kernel
theorem dX8_has_13 : decode cX8_has 13 = .ok (.aload_n 0, 1) := by decide +kernel
theorem dX8_has_14 : decode cX8_has 14 = .ok (.getfield 9, 3) := by decide +kernel
theorem dX8_has_17 : decode cX8_has 17 = .ok (.arraylength, 1) := by decide +kernel
theorem dX8_has_18 : decode cX8_has 18 = .ok (.if_icmp .ge 7, 3) := by decide +kernel
theorem dX8_has_21 : decode cX8_has 21 = .ok (.iconst 1, 1) := by decide +kernel
theorem dX8_has_22 : decode cX8_has 22 = .ok (.goto 4, 3) := by decide +kernel
theorem dX8_has_25 : decode cX8_has 25 = .ok (.iconst 0, 1) := by decide +kernel
theorem dX8_has_26 : decode cX8_has 26 = .ok (.ireturn, 1) := by decide +kernel
theorem dX8_has_4 : decode cX8_has 4 = .ok (.iload_n 1, 1) := by decide +kernel
theorem dX8_has_5 : decode cX8_has 5 = .ok (.aload_n 0, 1) := by decide +kernel
theorem dX8_has_6 : decode cX8_has 6 = .ok (.getfield 15, 3) := by decide +kernel
theorem dX8_has_9 : decode cX8_has 9 = .ok (.if_icmp .ge 16, 3) := by decide +kernel
theorem dX8_repeat_0 : decode cX8_repeat 0 = .ok (.aload_n 0, 1) := by decide +kernel
theorem dX8_repeat_1 : decode cX8_repeat 1 = .ok (.getfield 15, 3) := by decide +kernel
theorem dX8_repeat_10 : decode cX8_repeat 10 = .ok (.arraylength, 1) := by decide +kernel
theorem dX8_repeat_11 : decode cX8_repeat 11 = .ok (.invokestatic 29, 3) := by decide +kernel
theorem dX8_repeat_14 : decode cX8_repeat 14 = .ok (.istore_n 2, 1) := by decide +kernel
theorem dX8_repeat_15 : decode cX8_repeat 15 = .ok (.aload_n 0, 1) := by decide +kernel
theorem dX8_repeat_16 : decode cX8_repeat 16 = .ok (.getfield 15, 3) := by decide +kernel
theorem dX8_repeat_19 : decode cX8_repeat 19 = .ok (.istore_n 3, 1) := by decide +kernel
theorem dX8_repeat_20 : decode cX8_repeat 20 = .ok (.iload_n 3, 1) := by decide +kernel
theorem dX8_repeat_21 : decode cX8_repeat 21 = .ok (.iload_n 2, 1) := by decide +kernel
theorem dX8_repeat_22 : decode cX8_repeat 22 = .ok (.if_icmp .ge 26, 3) := by decide +kernel
theorem dX8_repeat_25 : decode cX8_repeat 25 = .ok (.aload_n 0, 1) := by decide +kernel
theorem dX8_repeat_26 : decode cX8_repeat 26 = .ok (.getfield 9, 3) := by decide +kernel
theorem dX8_repeat_29 : decode cX8_repeat 29 = .ok (.iload_n 3, 1) := by decide +kernel
theorem dX8_repeat_30 : decode cX8_repeat 30 = .ok (.aload_n 0, 1) := by decide +kernel
theorem dX8_repeat_31 : decode cX8_repeat 31 = .ok (.getfield 9, 3) := by decide +kernel
theorem dX8_repeat_34 : decode cX8_repeat 34 = .ok (.iload_n 3, 1) := by decide +kernel
theorem dX8_repeat_35 : decode cX8_repeat 35 = .ok (.aload_n 0, 1) := by decide +kernel
theorem dX8_repeat_36 : decode cX8_repeat 36 = .ok (.getfield 15, 3) := by decide +kernel
theorem dX8_repeat_39 : decode cX8_repeat 39 = .ok (.isub, 1) := by decide +kernel
theorem dX8_repeat_4 : decode cX8_repeat 4 = .ok (.iload_n 1, 1) := by decide +kernel
theorem dX8_repeat_40 : decode cX8_repeat 40 = .ok (.iaload, 1) := by decide +kernel
theorem dX8_repeat_41 : decode cX8_repeat 41 = .ok (.iastore, 1) := by decide +kernel
theorem dX8_repeat_42 : decode cX8_repeat 42 = .ok (.iinc 3 1, 3) := by decide +kernel
theorem dX8_repeat_45 : decode cX8_repeat 45 = .ok (.goto (-25), 3) := by decide +kernel
theorem dX8_repeat_48 : decode cX8_repeat 48 = .ok (.aload_n 0, 1) := by decide +kernel
theorem dX8_repeat_49 : decode cX8_repeat 49 = .ok (.iload_n 2, 1) := by decide +kernel
theorem dX8_repeat_5 : decode cX8_repeat 5 = .ok (.imul, 1) := by decide +kernel
theorem dX8_repeat_50 : decode cX8_repeat 50 = .ok (.putfield 15, 3) := by decide +kernel
theorem dX8_repeat_53 : decode cX8_repeat 53 = .ok (.return_, 1) := by decide +kernel
theorem dX8_repeat_6 : decode cX8_repeat 6 = .ok (.aload_n 0, 1) := by decide +kernel
theorem dX8_repeat_7 : decode cX8_repeat 7 = .ok (.getfield 9, 3) := by decide +kernel
theorem dm_X7_add : yX7_add.cls = RX7 ∧ yX7_add.cls ≠ "java/lang/invoke/MethodHandle" ∧ yX7_add.cls ≠ "java/lang/invoke/VarHandle" ∧ (parseMethodDescriptor yX7_add.desc).map (fun d => d.parameters.length) = some 1 := by decide +kernel
theorem dm_X7_keepFirst : yX7_keepFirst.cls = RX7 ∧ yX7_keepFirst.cls ≠ "java/lang/invoke/MethodHandle" ∧ yX7_keepFirst.cls ≠ "java/lang/invoke/VarHandle" ∧ (parseMethodDescriptor yX7_keepFirst.desc).map (fun d => d.parameters.length) = some 1 := by decide +kernel
theorem dm_X7_isDigit : yX7_isDigit.cls = RX7 ∧ yX7_isDigit.cls ≠ "java/lang/invoke/MethodHandle" ∧ yX7_isDigit.cls ≠ "java/lang/invoke/VarHandle" ∧ (parseMethodDescriptor yX7_isDigit.desc).map (fun d => d.parameters.length) = some 2 := by decide +kernel
theorem dm_X7_behindAtomStart : yX7_behindAtomStart.cls = RX7 ∧ yX7_behindAtomStart.cls ≠ "java/lang/invoke/MethodHandle" ∧ yX7_behindAtomStart.cls ≠ "java/lang/invoke/VarHandle" ∧ (parseMethodDescriptor yX7_behindAtomStart.desc).map (fun d => d.parameters.length) = some 1 := by decide +kernel
theorem dm_X7_behindTermSign : yX7_behindTermSign.cls = RX7 ∧ yX7_behindTermSign.cls ≠ "java/lang/invoke/MethodHandle" ∧ yX7_behindTermSign.cls ≠ "java/lang/invoke/VarHandle" ∧ (parseMethodDescriptor yX7_behindTermSign.desc).map (fun d => d.parameters.length) = some 1 := by decide +kernel
theorem dm_X7_behind : yX7_behind.cls = RX7 ∧ yX7_behind.cls ≠ "java/lang/invoke/MethodHandle" ∧ yX7_behind.cls ≠ "java/lang/invoke/VarHandle" ∧ (parseMethodDescriptor yX7_behind.desc).map (fun d => d.parameters.length) = some 2 := by decide +kernel
theorem dm_X8_repeat : yX8_repeat.cls = RX8 ∧ yX8_repeat.cls ≠ "java/lang/invoke/MethodHandle" ∧ yX8_repeat.cls ≠ "java/lang/invoke/VarHandle" ∧ (parseMethodDescriptor yX8_repeat.desc).map (fun d => d.parameters.length) = some 1 := by decide +kernel
set_option maxRecDepth 100000 in
def wC_Splicer_add (a0 : Int) (M : zM) (Q : Int → zM → Prop) : Prop := ((sI ((M 1 1) + 4)) ≤ 100 → wL1 (fun K19 x2 M3 => ((sI x2) < 0 → Q (sI (M3 1 1)) M3) ∧ (0 ≤ (sI x2) → ((0 ≤ (sI (M3 1 1)) ∧ (sI (M3 1 1)) < 100) ∧ (∀ M13 : zM, M13 = zup M3 2 (sI (M3 1 1)).toNat (andI (ushrI a0 x2) 255) → (∀ M15 : zM, M15 = zup M13 1 1 ((M13 1 1) + 1) → K19 (x2 + (-8)) M15))))) 24 M) ∧ (100 < (sI ((M 1 1) + 4)) → Q (-1) M)
set_option maxHeartbeats 4000000 in
set_option maxRecDepth 100000 in
theorem cC_Splicer_add (l : Launch) (D : va_G) (dA : Nat → ClassId) (b : Nat) (M : zM) (a0 : Int)  (Q : Int → zM → Prop) (h : wC_Splicer_add a0 M Q) : Met l yX7_add (.code yX7_add cX7_add 3 (some .int) :: zt) (z_rm 0) (va_Pc [.ref (b + 1), .int (iI a0)] (wPre D dA vwCl (z_tys dA) wC nC b M)) (va_Qi (wQi Q) (zB D dA vwCl wC nC b) (zA nC b)) 0 0 (zA nC b) := by
  unfold wC_Splicer_add at h
  refine Met.ofW (cc := cX7_add) (maxL := 3) (ret := (some .int)) (by decide) rfl ?_
  intro p e s m args below meth c s₁ B hml hv
  obtain ⟨hargs, hS, hK⟩ := hv
  have hx := B.exec
  have hb := B.bytes
  have hr := B.returns
  have hts := atoms_spec (ws := .code yX7_add cX7_add 3 (some .int) :: zt) B.pre
  have hown : s.vm.findClass RX7 = some m.cls := findClass_of_methodNamed B.named
  have hlocks := B.notSynchronized
  have hS0 : va_S (zA nC b) s.heap s.heap [] := va_S.rf
  have hl := lv_entry ([.ref (b + 1), .int (iI a0)]) (n := 3) (Nat.le_of_ble_eq_true rfl)
  have hent : entryFrame m args 3 = F0 m 0 ((lg_sl ([.ref (b + 1), .int (iI a0)]) ++ List.replicate (3 - (lg_sl ([.ref (b + 1), .int (iI a0)])).length) Slot.unset).toArray) [] := by rw [hargs]; exact lg_entry_eq m ([.ref (b + 1), .int (iI a0)]) 3
  rw [hent]
  generalize (lg_sl ([.ref (b + 1), .int (iI a0)]) ++ List.replicate (3 - (lg_sl ([.ref (b + 1), .int (iI a0)])).length) Slot.unset).toArray = ls at hl ⊢
  have hl : lv_has ls 3 [(0, .ref (b + 1)), (1, .int (iI a0))] := hl
  refine lv_aload_n hx hb dX7_add_0 rfl (lv_at hl 0 rfl) ?_
  refine w_geti hx hb hts (z_memU u7) hown hK.1 hS f7_1 (by decide) (zkd_of (rfl : zcd wC 1 = 1) rfl) (Or.inl (hts _ (z_mem k55))) dX7_add_1 ?_
  refine z_iconst hx hb dX7_add_4 ?_
  refine z_iadd hx hb dX7_add_5 ?_
  refine lv_aload_n hx hb dX7_add_6 rfl (lv_at hl 0 rfl) ?_
  refine w_getr (j2 := 2) hx hb hts (z_memU u7) hown hK.1 hS f7_0 (by decide) (zkd_of (rfl : zcd wC 1 = 1) rfl) (zrf_of (rfl : zcd wC 1 = 1) rfl) (Or.inl (hts _ (z_mem k54))) dX7_add_7 ?_
  refine w_alen (n := 100) hx hb hK.1 (t0 := 0) rfl hS (by decide) (zkd_of (rfl : zcd wC 2 = 2) rfl) (zln_of (rfl : zcd wC 2 = 2) rfl) dX7_add_10 ?_
  refine z_top (show (((100 : Nat) : Int)) = 100 from by decide) ?_
  refine w_icmp_le (tgt := 16) hx hb rfl (sI_of (by decide)) dX7_add_11 (by decide) (fun c1 => ?_) (fun c1 => ?_)
  · skip
    have h := h.1 c1
    refine z_bipush hx hb (by decide) dX7_add_16 ?_
    refine lv_istore_n (lv' := [(2, .int (iI 24)), (0, .ref (b + 1)), (1, .int (iI a0))]) hx hb dX7_add_18 rfl hl (by decide) rfl (fun ls hl => ?_)
    obtain ⟨I4, ⟨n5, h6⟩, h7⟩ := h
    have L8 : ∀ (n9 : Nat) (x2 : Int) (M3 : zM) (H : Heap) (locs : List Loc) (ls : Array Slot), I4 n9 x2 M3 → zR D dA vwCl wC nC b M3 H → va_S (zA nC b) s.heap H locs → lv_has ls 3 [(0, .ref (b + 1)), (1, .int (iI a0)), (2, .int (iI x2))] → W p l e (headSpec (.code yX7_add cX7_add 3 (some .int) :: zt) (z_rm 0)).room s m args below meth c H locs 0 0 (MQ below (va_Qi (wQi Q) (zB D dA vwCl wC nC b) (zA nC b)) args s 0 0 (zA nC b)) (F0 m 19 ls []) := by
      intro n9
      induction n9 using Nat.strongRecOn with
      | ind n9 i10 =>
        intro x2 M3 H locs ls h hS hS0 hl
        have h := h7 n9 x2 M3 h
        refine lv_iload_n hx hb dX7_add_19 rfl (lv_at hl 2 rfl) ?_
        refine w_if_lt (tgt := 55) hx hb rfl dX7_add_20 (by decide) (fun c11 => ?_) (fun c11 => ?_)
        · skip
          have h := h.1 c11
          refine lv_aload_n hx hb dX7_add_55 rfl (lv_at hl 0 rfl) ?_
          refine w_geti hx hb hts (z_memU u7) hown hK.1 hS f7_1 (by decide) (zkd_of (rfl : zcd wC 1 = 1) rfl) (Or.inl (hts _ (z_mem k55))) dX7_add_56 ?_
          exact w_iret hx hb hr hlocks hS hS0 rfl h dX7_add_59
        · skip
          have h := h.2 c11
          refine lv_aload_n hx hb dX7_add_23 rfl (lv_at hl 0 rfl) ?_
          refine w_getr (j2 := 2) hx hb hts (z_memU u7) hown hK.1 hS f7_0 (by decide) (zkd_of (rfl : zcd wC 1 = 1) rfl) (zrf_of (rfl : zcd wC 1 = 1) rfl) (Or.inl (hts _ (z_mem k54))) dX7_add_24 ?_
          refine lv_aload_n hx hb dX7_add_27 rfl (lv_at hl 0 rfl) ?_
          refine w_geti hx hb hts (z_memU u7) hown hK.1 hS f7_1 (by decide) (zkd_of (rfl : zcd wC 1 = 1) rfl) (Or.inl (hts _ (z_mem k55))) dX7_add_28 ?_
          refine lv_iload_n hx hb dX7_add_31 rfl (lv_at hl 1 rfl) ?_
          refine lv_iload_n hx hb dX7_add_32 rfl (lv_at hl 2 rfl) ?_
          refine w_iushr hx hb dX7_add_33 ?_
          refine z_sipush hx hb (by decide) dX7_add_34 ?_
          refine w_iand hx hb dX7_add_37 ?_
          obtain ⟨o12, h⟩ := h
          refine w_iast (z := (andI (ushrI a0 x2) 255)) (n := 100) (i := (sI (M3 1 1))) hx hb hK.1 (t0 := 0) rfl hS hS0 (by decide) (zkd_of (rfl : zcd wC 2 = 2) rfl) (zln_of (rfl : zcd wC 2 = 2) rfl) rfl o12.1 o12.2 (by decide) dX7_add_38 (fun H locs hS hS0 => ?_)
          obtain ⟨M13, e14⟩ : ∃ M13 : zM, M13 = zup M3 2 (sI (M3 1 1)).toNat (andI (ushrI a0 x2) 255) := ⟨_, rfl⟩
          rw [← e14] at hS
          have h := h M13 e14
          refine lv_aload_n hx hb dX7_add_39 rfl (lv_at hl 0 rfl) ?_
          refine lv_dup hx hb dX7_add_40 rfl ?_
          refine w_geti hx hb hts (z_memU u7) hown hK.1 hS f7_1 (by decide) (zkd_of (rfl : zcd wC 1 = 1) rfl) (Or.inl (hts _ (z_mem k55))) dX7_add_41 ?_
          refine z_iconst hx hb dX7_add_44 ?_
          refine z_iadd hx hb dX7_add_45 ?_
          refine w_puti hx hb hts (z_memU u7) tyX7 tyX7_ok nmX7 hown hK.1 hS hS0 f7_1 (by decide) (zkd_of (rfl : zcd wC 1 = 1) rfl) (Or.inl (hts _ (z_mem k55))) rfl (z := ((M13 1 1) + 1)) (by decide +kernel) dX7_add_46 (fun H locs hS hS0 => ?_)
          obtain ⟨M15, e16⟩ : ∃ M15 : zM, M15 = zup M13 1 1 ((M13 1 1) + 1) := ⟨_, rfl⟩
          rw [← e16] at hS
          have h := h M15 e16
          refine z_iinc (lv' := [(2, .int (iI (x2 + (-8)))), (0, .ref (b + 1)), (1, .int (iI a0))]) hx hb dX7_add_49 hl (k := 2) rfl (by decide) rfl (fun ls hl => ?_)
          refine lv_goto (tgt := 19) hx hb dX7_add_52 (by decide) ?_
          obtain ⟨n17, h18, h⟩ := h
          exact i10 n17 h18 (x2 + (-8)) M15 _ _ _ h hS hS0 (lv_sub hl [1, 2, 0] rfl)
    exact L8 n5 24 M _ _ _ h6 hS hS0 (lv_sub hl [1, 2, 0] rfl)
  · skip
    have h := h.2 c1
    refine z_iconst hx hb dX7_add_14 ?_
    exact w_iret hx hb hr hlocks hS hS0 (sI_of (by decide)) h dX7_add_15

set_option maxRecDepth 100000 in
def wC_sign (a0 : Int) (M : zM) (Q : Int → zM → Prop) : Prop := wC_Splicer_add a0 M (fun z2 M1 => Q z2 M1)
set_option maxHeartbeats 4000000 in
set_option maxRecDepth 100000 in
theorem cC_sign (l : Launch) (D : va_G) (dA : Nat → ClassId) (b : Nat) (M : zM) (a0 : Int)  (Q : Int → zM → Prop) (h : wC_sign a0 M Q) : Met l yX11_sign (.code yX11_sign cX11_sign 2 (some .int) :: zt) (z_rm 1) (va_Pc [.ref (b + 0), .int (iI a0)] (wPre D dA vwCl (z_tys dA) wC nC b M)) (va_Qi (wQi Q) (zB D dA vwCl wC nC b) (zA nC b)) 0 0 (zA nC b) := by
  unfold wC_sign at h
  refine Met.ofW (cc := cX11_sign) (maxL := 2) (ret := (some .int)) (by decide) rfl ?_
  intro p e s m args below meth c s₁ B hml hv
  obtain ⟨hargs, hS, hK⟩ := hv
  have hx := B.exec
  have hb := B.bytes
  have hr := B.returns
  have hts := atoms_spec (ws := .code yX11_sign cX11_sign 2 (some .int) :: zt) B.pre
  have hown : s.vm.findClass RX11 = some m.cls := findClass_of_methodNamed B.named
  have hlocks := B.notSynchronized
  have hS0 : va_S (zA nC b) s.heap s.heap [] := va_S.rf
  have hl := lv_entry ([.ref (b + 0), .int (iI a0)]) (n := 2) (Nat.le_of_ble_eq_true rfl)
  have hent : entryFrame m args 2 = F0 m 0 ((lg_sl ([.ref (b + 0), .int (iI a0)]) ++ List.replicate (2 - (lg_sl ([.ref (b + 0), .int (iI a0)])).length) Slot.unset).toArray) [] := by rw [hargs]; exact lg_entry_eq m ([.ref (b + 0), .int (iI a0)]) 2
  rw [hent]
  generalize (lg_sl ([.ref (b + 0), .int (iI a0)]) ++ List.replicate (2 - (lg_sl ([.ref (b + 0), .int (iI a0)])).length) Slot.unset).toArray = ls at hl ⊢
  have hl : lv_has ls 2 [(0, .ref (b + 0)), (1, .int (iI a0))] := hl
  refine lv_aload_n hx hb dX11_sign_0 rfl (lv_at hl 0 rfl) ?_
  refine w_getr (j2 := 1) hx hb hts (z_memU u11) hown hK.1 hS f11_0 (by decide) (zkd_of (rfl : zcd wC 0 = 0) rfl) (zrf_of (rfl : zcd wC 0 = 0) rfl) (Or.inl (hts _ (z_mem k242))) dX11_sign_1 ?_
  refine lv_iload_n hx hb dX11_sign_4 rfl (lv_at hl 1 rfl) ?_
  refine w_calli (va_runV (As := [.int (iI a0)]) (rest := []) ⟨hx, hb, hml, hown, hts⟩ (cC_Splicer_add l D dA b M a0 _ h) (cwV 1 hts (z_gV k268 k269 k270 k2 k271) rfl rfl rfl dm_X7_add ⟨Nat.le_of_ble_eq_true rfl, Nat.le_of_ble_eq_true rfl⟩) ⟨wPre_blind, (w_recv hS hK.1 (by decide) (zkd_of (rfl : zcd wC 1 = 1) rfl) (by decide) (rfl : vwCl[7]? = some (RX7, TX7, 7))), w_pre hS hK⟩ rfl rfl hl.1 rfl (lv_room (Nat.le_of_ble_eq_true rfl)) dX11_sign_5 ⟨Nat.le_refl _, Nat.le_refl _⟩) hS0 (fun z2 M1 H locs r3 h hS hS0 => ?_)
  exact w_iret hx hb hr hlocks hS hS0 (sI_of r3) h dX11_sign_8

set_option maxRecDepth 100000 in
def wC_Splicer_keepFirst (a0 : Int) (M : zM) (Q : Int → zM → Prop) : Prop := ((sI a0) < 0 → Q 0 M) ∧ (0 ≤ (sI a0) → ((sI a0) ≤ (sI (M 1 1)) → (∀ M3 : zM, M3 = zup M 1 1 a0 → Q 1 M3)) ∧ ((sI (M 1 1)) < (sI a0) → Q 0 M))
set_option maxHeartbeats 4000000 in
set_option maxRecDepth 100000 in
theorem cC_Splicer_keepFirst (l : Launch) (D : va_G) (dA : Nat → ClassId) (b : Nat) (M : zM) (a0 : Int)  (Q : Int → zM → Prop) (h : wC_Splicer_keepFirst a0 M Q) : Met l yX7_keepFirst (.code yX7_keepFirst cX7_keepFirst 2 (some .boolean) :: zt) (z_rm 0) (va_Pc [.ref (b + 1), .int (iI a0)] (wPre D dA vwCl (z_tys dA) wC nC b M)) (va_Qi (wQz Q) (zB D dA vwCl wC nC b) (zA nC b)) 0 0 (zA nC b) := by
  unfold wC_Splicer_keepFirst at h
  refine Met.ofW (cc := cX7_keepFirst) (maxL := 2) (ret := (some .boolean)) (by decide) rfl ?_
  intro p e s m args below meth c s₁ B hml hv
  obtain ⟨hargs, hS, hK⟩ := hv
  have hx := B.exec
  have hb := B.bytes
  have hr := B.returns
  have hts := atoms_spec (ws := .code yX7_keepFirst cX7_keepFirst 2 (some .boolean) :: zt) B.pre
  have hown : s.vm.findClass RX7 = some m.cls := findClass_of_methodNamed B.named
  have hlocks := B.notSynchronized
  have hS0 : va_S (zA nC b) s.heap s.heap [] := va_S.rf
  have hl := lv_entry ([.ref (b + 1), .int (iI a0)]) (n := 2) (Nat.le_of_ble_eq_true rfl)
  have hent : entryFrame m args 2 = F0 m 0 ((lg_sl ([.ref (b + 1), .int (iI a0)]) ++ List.replicate (2 - (lg_sl ([.ref (b + 1), .int (iI a0)])).length) Slot.unset).toArray) [] := by rw [hargs]; exact lg_entry_eq m ([.ref (b + 1), .int (iI a0)]) 2
  rw [hent]
  generalize (lg_sl ([.ref (b + 1), .int (iI a0)]) ++ List.replicate (2 - (lg_sl ([.ref (b + 1), .int (iI a0)])).length) Slot.unset).toArray = ls at hl ⊢
  have hl : lv_has ls 2 [(0, .ref (b + 1)), (1, .int (iI a0))] := hl
  refine lv_iload_n hx hb dX7_keepFirst_0 rfl (lv_at hl 1 rfl) ?_
  refine w_if_lt (tgt := 12) hx hb rfl dX7_keepFirst_1 (by decide) (fun c1 => ?_) (fun c1 => ?_)
  · skip
    have h := h.1 c1
    refine z_iconst hx hb dX7_keepFirst_12 ?_
    exact w_zret hx hb hr hlocks hS hS0 (sI_of (by decide)) (by decide) h dX7_keepFirst_13
  · skip
    have h := h.2 c1
    refine lv_iload_n hx hb dX7_keepFirst_4 rfl (lv_at hl 1 rfl) ?_
    refine lv_aload_n hx hb dX7_keepFirst_5 rfl (lv_at hl 0 rfl) ?_
    refine w_geti hx hb hts (z_memU u7) hown hK.1 hS f7_1 (by decide) (zkd_of (rfl : zcd wC 1 = 1) rfl) (Or.inl (hts _ (z_mem k55))) dX7_keepFirst_6 ?_
    refine w_icmp_le (tgt := 14) hx hb rfl rfl dX7_keepFirst_9 (by decide) (fun c2 => ?_) (fun c2 => ?_)
    · skip
      have h := h.1 c2
      refine lv_aload_n hx hb dX7_keepFirst_14 rfl (lv_at hl 0 rfl) ?_
      refine lv_iload_n hx hb dX7_keepFirst_15 rfl (lv_at hl 1 rfl) ?_
      refine w_puti hx hb hts (z_memU u7) tyX7 tyX7_ok nmX7 hown hK.1 hS hS0 f7_1 (by decide) (zkd_of (rfl : zcd wC 1 = 1) rfl) (Or.inl (hts _ (z_mem k55))) rfl (z := a0) (by decide +kernel) dX7_keepFirst_16 (fun H locs hS hS0 => ?_)
      obtain ⟨M3, e4⟩ : ∃ M3 : zM, M3 = zup M 1 1 a0 := ⟨_, rfl⟩
      rw [← e4] at hS
      have h := h M3 e4
      refine z_iconst hx hb dX7_keepFirst_19 ?_
      exact w_zret hx hb hr hlocks hS hS0 (sI_of (by decide)) (by decide) h dX7_keepFirst_20
    · skip
      have h := h.2 c2
      refine z_iconst hx hb dX7_keepFirst_12 ?_
      exact w_zret hx hb hr hlocks hS hS0 (sI_of (by decide)) (by decide) h dX7_keepFirst_13

set_option maxRecDepth 100000 in
def wC_end (a0 : Int) (M : zM) (Q : Int → zM → Prop) : Prop := wC_Splicer_keepFirst a0 M (fun z2 M1 => Q z2 M1)
set_option maxHeartbeats 4000000 in
set_option maxRecDepth 100000 in
theorem cC_end (l : Launch) (D : va_G) (dA : Nat → ClassId) (b : Nat) (M : zM) (a0 : Int)  (Q : Int → zM → Prop) (h : wC_end a0 M Q) : Met l yX11_end (.code yX11_end cX11_end 2 (some .boolean) :: zt) (z_rm 1) (va_Pc [.ref (b + 0), .int (iI a0)] (wPre D dA vwCl (z_tys dA) wC nC b M)) (va_Qi (wQz Q) (zB D dA vwCl wC nC b) (zA nC b)) 0 0 (zA nC b) := by
  unfold wC_end at h
  refine Met.ofW (cc := cX11_end) (maxL := 2) (ret := (some .boolean)) (by decide) rfl ?_
  intro p e s m args below meth c s₁ B hml hv
  obtain ⟨hargs, hS, hK⟩ := hv
  have hx := B.exec
  have hb := B.bytes
  have hr := B.returns
  have hts := atoms_spec (ws := .code yX11_end cX11_end 2 (some .boolean) :: zt) B.pre
  have hown : s.vm.findClass RX11 = some m.cls := findClass_of_methodNamed B.named
  have hlocks := B.notSynchronized
  have hS0 : va_S (zA nC b) s.heap s.heap [] := va_S.rf
  have hl := lv_entry ([.ref (b + 0), .int (iI a0)]) (n := 2) (Nat.le_of_ble_eq_true rfl)
  have hent : entryFrame m args 2 = F0 m 0 ((lg_sl ([.ref (b + 0), .int (iI a0)]) ++ List.replicate (2 - (lg_sl ([.ref (b + 0), .int (iI a0)])).length) Slot.unset).toArray) [] := by rw [hargs]; exact lg_entry_eq m ([.ref (b + 0), .int (iI a0)]) 2
  rw [hent]
  generalize (lg_sl ([.ref (b + 0), .int (iI a0)]) ++ List.replicate (2 - (lg_sl ([.ref (b + 0), .int (iI a0)])).length) Slot.unset).toArray = ls at hl ⊢
  have hl : lv_has ls 2 [(0, .ref (b + 0)), (1, .int (iI a0))] := hl
  refine lv_aload_n hx hb dX11_end_0 rfl (lv_at hl 0 rfl) ?_
  refine w_getr (j2 := 1) hx hb hts (z_memU u11) hown hK.1 hS f11_0 (by decide) (zkd_of (rfl : zcd wC 0 = 0) rfl) (zrf_of (rfl : zcd wC 0 = 0) rfl) (Or.inl (hts _ (z_mem k242))) dX11_end_1 ?_
  refine lv_iload_n hx hb dX11_end_4 rfl (lv_at hl 1 rfl) ?_
  refine w_callz (va_runV (As := [.int (iI a0)]) (rest := []) ⟨hx, hb, hml, hown, hts⟩ (cC_Splicer_keepFirst l D dA b M a0 _ h) (cwV 1 hts (z_gV k276 k277 k278 k2 k279) rfl rfl rfl dm_X7_keepFirst ⟨Nat.le_of_ble_eq_true rfl, Nat.le_of_ble_eq_true rfl⟩) ⟨wPre_blind, (w_recv hS hK.1 (by decide) (zkd_of (rfl : zcd wC 1 = 1) rfl) (by decide) (rfl : vwCl[7]? = some (RX7, TX7, 7))), w_pre hS hK⟩ rfl rfl hl.1 rfl (lv_room (Nat.le_of_ble_eq_true rfl)) dX11_end_5 ⟨Nat.le_refl _, Nat.le_refl _⟩) hS0 (fun z2 M1 H locs r3 h hS hS0 => ?_)
  exact w_zret hx hb hr hlocks hS hS0 (sI_01 r3) r3 h dX11_end_8

set_option maxRecDepth 100000 in
def wC_Splicer_isDigit (a0 : Int) (a1 : Int) (M : zM) (Q : Int → Prop) : Prop := ((sI a0) < (sI a1) → Q 0) ∧ ((sI a1) ≤ (sI a0) → (57 < (sI a0) → Q 0) ∧ ((sI a0) ≤ 57 → Q 1))
set_option maxHeartbeats 4000000 in
set_option maxRecDepth 100000 in
theorem cC_Splicer_isDigit (l : Launch) (D : va_G) (dA : Nat → ClassId) (b : Nat) (M : zM) (a0 : Int) (a1 : Int)  (Q : Int → Prop) (h : wC_Splicer_isDigit a0 a1 M Q) : Met l yX7_isDigit (.code yX7_isDigit cX7_isDigit 2 (some .boolean) :: zt) (z_rm 0) (va_Pc [.int (iI a0), .int (iI a1)] (wPre D dA vwCl (z_tys dA) wC nC b M)) (va_Qi (wQz (fun z9 u9 => u9 = M ∧ Q z9)) (zB D dA vwCl wC nC b) (zA nC b)) 0 0 (zA nC b) := by
  unfold wC_Splicer_isDigit at h
  refine Met.ofW (cc := cX7_isDigit) (maxL := 2) (ret := (some .boolean)) (by decide) rfl ?_
  intro p e s m args below meth c s₁ B hml hv
  obtain ⟨hargs, hS, hK⟩ := hv
  have hx := B.exec
  have hb := B.bytes
  have hr := B.returns
  have hts := atoms_spec (ws := .code yX7_isDigit cX7_isDigit 2 (some .boolean) :: zt) B.pre
  have hown : s.vm.findClass RX7 = some m.cls := findClass_of_methodNamed B.named
  have hlocks := B.notSynchronized
  have hS0 : va_S (zA nC b) s.heap s.heap [] := va_S.rf
  have hl := lv_entry ([.int (iI a0), .int (iI a1)]) (n := 2) (Nat.le_of_ble_eq_true rfl)
  have hent : entryFrame m args 2 = F0 m 0 ((lg_sl ([.int (iI a0), .int (iI a1)]) ++ List.replicate (2 - (lg_sl ([.int (iI a0), .int (iI a1)])).length) Slot.unset).toArray) [] := by rw [hargs]; exact lg_entry_eq m ([.int (iI a0), .int (iI a1)]) 2
  rw [hent]
  generalize (lg_sl ([.int (iI a0), .int (iI a1)]) ++ List.replicate (2 - (lg_sl ([.int (iI a0), .int (iI a1)])).length) Slot.unset).toArray = ls at hl ⊢
  have hl : lv_has ls 2 [(0, .int (iI a0)), (1, .int (iI a1))] := hl
  refine lv_iload_n hx hb dX7_isDigit_0 rfl (lv_at hl 0 rfl) ?_
  refine lv_iload_n hx hb dX7_isDigit_1 rfl (lv_at hl 1 rfl) ?_
  refine w_icmp_lt (tgt := 15) hx hb rfl rfl dX7_isDigit_2 (by decide) (fun c1 => ?_) (fun c1 => ?_)
  · skip
    have h := h.1 c1
    refine z_iconst hx hb dX7_isDigit_15 ?_
    exact w_zret hx hb hr hlocks hS hS0 (sI_of (by decide)) (by decide) ⟨rfl, h⟩ dX7_isDigit_16
  · skip
    have h := h.2 c1
    refine lv_iload_n hx hb dX7_isDigit_5 rfl (lv_at hl 0 rfl) ?_
    refine z_bipush hx hb (by decide) dX7_isDigit_6 ?_
    refine w_icmp_gt (tgt := 15) hx hb rfl (sI_of (by decide)) dX7_isDigit_8 (by decide) (fun c2 => ?_) (fun c2 => ?_)
    · skip
      have h := h.1 c2
      refine z_iconst hx hb dX7_isDigit_15 ?_
      exact w_zret hx hb hr hlocks hS hS0 (sI_of (by decide)) (by decide) ⟨rfl, h⟩ dX7_isDigit_16
    · skip
      have h := h.2 c2
      refine z_iconst hx hb dX7_isDigit_11 ?_
      refine lv_goto (tgt := 16) hx hb dX7_isDigit_12 (by decide) ?_
      exact w_zret hx hb hr hlocks hS hS0 (sI_of (by decide)) (by decide) ⟨rfl, h⟩ dX7_isDigit_16

set_option maxRecDepth 100000 in
def wC_Splicer_behindAtomStart (a0 : Int) (M : zM) (Q : Int → zM → Prop) : Prop := wC_Splicer_isDigit a0 48 M (fun z2 => (z2 = 0 → ((sI a0) ≠ 91 → ((sI a0) ≠ 40 → Q (-1) M) ∧ ((sI a0) = 40 → (5 ≤ (sI (M 1 2)) → Q (-1) M) ∧ ((sI (M 1 2)) < 5 → (∀ M9 : zM, M9 = zup M 1 2 ((M 1 2) + 1) → Q 0 M9)))) ∧ ((sI a0) = 91 → Q 4 M)) ∧ (z2 ≠ 0 → Q 1 M))
set_option maxHeartbeats 4000000 in
set_option maxRecDepth 100000 in
theorem cC_Splicer_behindAtomStart (l : Launch) (D : va_G) (dA : Nat → ClassId) (b : Nat) (M : zM) (a0 : Int)  (Q : Int → zM → Prop) (h : wC_Splicer_behindAtomStart a0 M Q) : Met l yX7_behindAtomStart (.code yX7_behindAtomStart cX7_behindAtomStart 2 (some .int) :: zt) (z_rm 1) (va_Pc [.ref (b + 1), .int (iI a0)] (wPre D dA vwCl (z_tys dA) wC nC b M)) (va_Qi (wQi Q) (zB D dA vwCl wC nC b) (zA nC b)) 0 0 (zA nC b) := by
  unfold wC_Splicer_behindAtomStart at h
  refine Met.ofW (cc := cX7_behindAtomStart) (maxL := 2) (ret := (some .int)) (by decide) rfl ?_
  intro p e s m args below meth c s₁ B hml hv
  obtain ⟨hargs, hS, hK⟩ := hv
  have hx := B.exec
  have hb := B.bytes
  have hr := B.returns
  have hts := atoms_spec (ws := .code yX7_behindAtomStart cX7_behindAtomStart 2 (some .int) :: zt) B.pre
  have hown : s.vm.findClass RX7 = some m.cls := findClass_of_methodNamed B.named
  have hlocks := B.notSynchronized
  have hS0 : va_S (zA nC b) s.heap s.heap [] := va_S.rf
  have hl := lv_entry ([.ref (b + 1), .int (iI a0)]) (n := 2) (Nat.le_of_ble_eq_true rfl)
  have hent : entryFrame m args 2 = F0 m 0 ((lg_sl ([.ref (b + 1), .int (iI a0)]) ++ List.replicate (2 - (lg_sl ([.ref (b + 1), .int (iI a0)])).length) Slot.unset).toArray) [] := by rw [hargs]; exact lg_entry_eq m ([.ref (b + 1), .int (iI a0)]) 2
  rw [hent]
  generalize (lg_sl ([.ref (b + 1), .int (iI a0)]) ++ List.replicate (2 - (lg_sl ([.ref (b + 1), .int (iI a0)])).length) Slot.unset).toArray = ls at hl ⊢
  have hl : lv_has ls 2 [(0, .ref (b + 1)), (1, .int (iI a0))] := hl
  refine lv_iload_n hx hb dX7_behindAtomStart_0 rfl (lv_at hl 1 rfl) ?_
  refine z_bipush hx hb (by decide) dX7_behindAtomStart_1 ?_
  refine w_callz (va_runS (As := [.int (iI a0), .int (iI 48)]) (rest := []) ⟨hx, hb, hml, hown, hts⟩ (cC_Splicer_isDigit l D dA b M a0 48 _ h) (va_cwS 2 hts (z_gS k297 k298 k2 k299) rfl rfl rfl dm_X7_isDigit.2 ⟨Nat.le_of_ble_eq_true rfl, Nat.le_of_ble_eq_true rfl⟩) ⟨wPre_blind, w_pre hS hK⟩ rfl rfl hl.1 rfl (lv_room (Nat.le_of_ble_eq_true rfl)) dX7_behindAtomStart_3 ⟨Nat.le_refl _, Nat.le_refl _⟩) hS0 (fun z2 M1 H locs r3 h hS hS0 => ?_)
  obtain ⟨e4, h⟩ := h
  rw [e4] at hS
  refine w_if_eq (tgt := 11) hx hb (sI_01 r3) dX7_behindAtomStart_6 (by decide) (fun c5 => ?_) (fun c5 => ?_)
  · skip
    have h := h.1 c5
    refine lv_iload_n hx hb dX7_behindAtomStart_11 rfl (lv_at hl 1 rfl) ?_
    refine z_bipush hx hb (by decide) dX7_behindAtomStart_12 ?_
    refine w_icmp_ne (tgt := 19) hx hb rfl (sI_of (by decide)) dX7_behindAtomStart_14 (by decide) (fun c6 => ?_) (fun c6 => ?_)
    · skip
      have h := h.1 c6
      refine lv_iload_n hx hb dX7_behindAtomStart_19 rfl (lv_at hl 1 rfl) ?_
      refine z_bipush hx hb (by decide) dX7_behindAtomStart_20 ?_
      refine w_icmp_ne (tgt := 45) hx hb rfl (sI_of (by decide)) dX7_behindAtomStart_22 (by decide) (fun c7 => ?_) (fun c7 => ?_)
      · skip
        have h := h.1 c7
        refine z_iconst hx hb dX7_behindAtomStart_45 ?_
        exact w_iret hx hb hr hlocks hS hS0 (sI_of (by decide)) h dX7_behindAtomStart_46
      · skip
        have h := h.2 c7
        refine lv_aload_n hx hb dX7_behindAtomStart_25 rfl (lv_at hl 0 rfl) ?_
        refine w_geti hx hb hts (z_memU u7) hown hK.1 hS f7_2 (by decide) (zkd_of (rfl : zcd wC 1 = 1) rfl) (Or.inl (hts _ (z_mem k57))) dX7_behindAtomStart_26 ?_
        refine z_iconst hx hb dX7_behindAtomStart_29 ?_
        refine w_icmp_ge (tgt := 45) hx hb rfl (sI_of (by decide)) dX7_behindAtomStart_30 (by decide) (fun c8 => ?_) (fun c8 => ?_)
        · skip
          have h := h.1 c8
          refine z_iconst hx hb dX7_behindAtomStart_45 ?_
          exact w_iret hx hb hr hlocks hS hS0 (sI_of (by decide)) h dX7_behindAtomStart_46
        · skip
          have h := h.2 c8
          refine lv_aload_n hx hb dX7_behindAtomStart_33 rfl (lv_at hl 0 rfl) ?_
          refine lv_dup hx hb dX7_behindAtomStart_34 rfl ?_
          refine w_geti hx hb hts (z_memU u7) hown hK.1 hS f7_2 (by decide) (zkd_of (rfl : zcd wC 1 = 1) rfl) (Or.inl (hts _ (z_mem k57))) dX7_behindAtomStart_35 ?_
          refine z_iconst hx hb dX7_behindAtomStart_38 ?_
          refine z_iadd hx hb dX7_behindAtomStart_39 ?_
          refine w_puti hx hb hts (z_memU u7) tyX7 tyX7_ok nmX7 hown hK.1 hS hS0 f7_2 (by decide) (zkd_of (rfl : zcd wC 1 = 1) rfl) (Or.inl (hts _ (z_mem k57))) rfl (z := ((M 1 2) + 1)) (by decide +kernel) dX7_behindAtomStart_40 (fun H locs hS hS0 => ?_)
          obtain ⟨M9, e10⟩ : ∃ M9 : zM, M9 = zup M 1 2 ((M 1 2) + 1) := ⟨_, rfl⟩
          rw [← e10] at hS
          have h := h M9 e10
          refine z_iconst hx hb dX7_behindAtomStart_43 ?_
          exact w_iret hx hb hr hlocks hS hS0 (sI_of (by decide)) h dX7_behindAtomStart_44
    · skip
      have h := h.2 c6
      refine z_iconst hx hb dX7_behindAtomStart_17 ?_
      exact w_iret hx hb hr hlocks hS hS0 (sI_of (by decide)) h dX7_behindAtomStart_18
  · skip
    have h := h.2 c5
    refine z_iconst hx hb dX7_behindAtomStart_9 ?_
    exact w_iret hx hb hr hlocks hS hS0 (sI_of (by decide)) h dX7_behindAtomStart_10

set_option maxRecDepth 100000 in
def wC_Splicer_behindTermSign (a0 : Int) (M : zM) (Q : Int → zM → Prop) : Prop := ((sI a0) = 41 → (∀ M2 : zM, M2 = zup M 1 2 ((M 1 2) - 1) → (0 ≤ (sI (M2 1 2)) → Q 1 M2) ∧ ((sI (M2 1 2)) < 0 → Q (-1) M2))) ∧ ((sI a0) ≠ 41 → ((sI a0) = 42 → Q 2 M) ∧ ((sI a0) ≠ 42 → ((sI a0) = 47 → Q 3 M) ∧ ((sI a0) ≠ 47 → ((sI a0) = 126 → Q 1 M) ∧ ((sI a0) ≠ 126 → wC_Splicer_behindAtomStart a0 M (fun z9 M8 => Q z9 M8)))))
set_option maxHeartbeats 4000000 in
set_option maxRecDepth 100000 in
theorem cC_Splicer_behindTermSign (l : Launch) (D : va_G) (dA : Nat → ClassId) (b : Nat) (M : zM) (a0 : Int)  (Q : Int → zM → Prop) (h : wC_Splicer_behindTermSign a0 M Q) : Met l yX7_behindTermSign (.code yX7_behindTermSign cX7_behindTermSign 2 (some .int) :: zt) (z_rm 2) (va_Pc [.ref (b + 1), .int (iI a0)] (wPre D dA vwCl (z_tys dA) wC nC b M)) (va_Qi (wQi Q) (zB D dA vwCl wC nC b) (zA nC b)) 0 0 (zA nC b) := by
  unfold wC_Splicer_behindTermSign at h
  refine Met.ofW (cc := cX7_behindTermSign) (maxL := 2) (ret := (some .int)) (by decide) rfl ?_
  intro p e s m args below meth c s₁ B hml hv
  obtain ⟨hargs, hS, hK⟩ := hv
  have hx := B.exec
  have hb := B.bytes
  have hr := B.returns
  have hts := atoms_spec (ws := .code yX7_behindTermSign cX7_behindTermSign 2 (some .int) :: zt) B.pre
  have hown : s.vm.findClass RX7 = some m.cls := findClass_of_methodNamed B.named
  have hlocks := B.notSynchronized
  have hS0 : va_S (zA nC b) s.heap s.heap [] := va_S.rf
  have hl := lv_entry ([.ref (b + 1), .int (iI a0)]) (n := 2) (Nat.le_of_ble_eq_true rfl)
  have hent : entryFrame m args 2 = F0 m 0 ((lg_sl ([.ref (b + 1), .int (iI a0)]) ++ List.replicate (2 - (lg_sl ([.ref (b + 1), .int (iI a0)])).length) Slot.unset).toArray) [] := by rw [hargs]; exact lg_entry_eq m ([.ref (b + 1), .int (iI a0)]) 2
  rw [hent]
  generalize (lg_sl ([.ref (b + 1), .int (iI a0)]) ++ List.replicate (2 - (lg_sl ([.ref (b + 1), .int (iI a0)])).length) Slot.unset).toArray = ls at hl ⊢
  have hl : lv_has ls 2 [(0, .ref (b + 1)), (1, .int (iI a0))] := hl
  refine lv_iload_n hx hb dX7_behindTermSign_0 rfl (lv_at hl 1 rfl) ?_
  rcases Decidable.em ((sI a0) = 41) with c1 | c1
  · skip
    have h := h.1 c1
    refine w_lookup (tgt := 50) hx hb rfl dX7_behindTermSign_1 (by decide) (by first | (rw [c1]; done) | (rw [c1]; rfl)) (by decide) ?_
    refine lv_aload_n hx hb dX7_behindTermSign_50 rfl (lv_at hl 0 rfl) ?_
    refine lv_dup hx hb dX7_behindTermSign_51 rfl ?_
    refine w_geti hx hb hts (z_memU u7) hown hK.1 hS f7_2 (by decide) (zkd_of (rfl : zcd wC 1 = 1) rfl) (Or.inl (hts _ (z_mem k57))) dX7_behindTermSign_52 ?_
    refine z_iconst hx hb dX7_behindTermSign_55 ?_
    refine z_isub hx hb dX7_behindTermSign_56 ?_
    refine w_puti hx hb hts (z_memU u7) tyX7 tyX7_ok nmX7 hown hK.1 hS hS0 f7_2 (by decide) (zkd_of (rfl : zcd wC 1 = 1) rfl) (Or.inl (hts _ (z_mem k57))) rfl (z := ((M 1 2) - 1)) (by decide +kernel) dX7_behindTermSign_57 (fun H locs hS hS0 => ?_)
    obtain ⟨M2, e3⟩ : ∃ M2 : zM, M2 = zup M 1 2 ((M 1 2) - 1) := ⟨_, rfl⟩
    rw [← e3] at hS
    have h := h M2 e3
    refine lv_aload_n hx hb dX7_behindTermSign_60 rfl (lv_at hl 0 rfl) ?_
    refine w_geti hx hb hts (z_memU u7) hown hK.1 hS f7_2 (by decide) (zkd_of (rfl : zcd wC 1 = 1) rfl) (Or.inl (hts _ (z_mem k57))) dX7_behindTermSign_61 ?_
    refine w_if_ge (tgt := 71) hx hb rfl dX7_behindTermSign_64 (by decide) (fun c4 => ?_) (fun c4 => ?_)
    · skip
      have h := h.1 c4
      refine z_iconst hx hb dX7_behindTermSign_71 ?_
      exact w_iret hx hb hr hlocks hS hS0 (sI_of (by decide)) h dX7_behindTermSign_72
    · skip
      have h := h.2 c4
      refine z_iconst hx hb dX7_behindTermSign_67 ?_
      refine lv_goto (tgt := 72) hx hb dX7_behindTermSign_68 (by decide) ?_
      exact w_iret hx hb hr hlocks hS hS0 (sI_of (by decide)) h dX7_behindTermSign_72
  have h := h.2 c1
  rcases Decidable.em ((sI a0) = 42) with c5 | c5
  · skip
    have h := h.1 c5
    refine w_lookup (tgt := 46) hx hb rfl dX7_behindTermSign_1 (by decide) (by first | (rw [c5]; done) | (rw [c5]; rfl)) (by decide) ?_
    refine z_iconst hx hb dX7_behindTermSign_46 ?_
    exact w_iret hx hb hr hlocks hS hS0 (sI_of (by decide)) h dX7_behindTermSign_47
  have h := h.2 c5
  rcases Decidable.em ((sI a0) = 47) with c6 | c6
  · skip
    have h := h.1 c6
    refine w_lookup (tgt := 48) hx hb rfl dX7_behindTermSign_1 (by decide) (by first | (rw [c6]; done) | (rw [c6]; rfl)) (by decide) ?_
    refine z_iconst hx hb dX7_behindTermSign_48 ?_
    exact w_iret hx hb hr hlocks hS hS0 (sI_of (by decide)) h dX7_behindTermSign_49
  have h := h.2 c6
  rcases Decidable.em ((sI a0) = 126) with c7 | c7
  · skip
    have h := h.1 c7
    refine w_lookup (tgt := 44) hx hb rfl dX7_behindTermSign_1 (by decide) (by first | (rw [c7]; done) | (rw [c7]; rfl)) (by decide) ?_
    refine z_iconst hx hb dX7_behindTermSign_44 ?_
    exact w_iret hx hb hr hlocks hS hS0 (sI_of (by decide)) h dX7_behindTermSign_45
  have h := h.2 c7
  refine w_lookup (tgt := 73) hx hb rfl dX7_behindTermSign_1 (by decide) (by simp only [Op.lookupswitch.offset, if_neg (Ne.symm c1), if_neg (Ne.symm c5), if_neg (Ne.symm c6), if_neg (Ne.symm c7)] <;> rfl) (by decide) ?_
  refine lv_aload_n hx hb dX7_behindTermSign_73 rfl (lv_at hl 0 rfl) ?_
  refine lv_iload_n hx hb dX7_behindTermSign_74 rfl (lv_at hl 1 rfl) ?_
  refine w_calli (va_runV (As := [.int (iI a0)]) (rest := []) ⟨hx, hb, hml, hown, hts⟩ (cC_Splicer_behindAtomStart l D dA b M a0 _ h) (cwV 1 hts (z_gV k294 k295 k1352 k2 k296) rfl rfl rfl dm_X7_behindAtomStart ⟨Nat.le_of_ble_eq_true rfl, Nat.le_of_ble_eq_true rfl⟩) ⟨wPre_blind, (w_recv hS hK.1 (by decide) (zkd_of (rfl : zcd wC 1 = 1) rfl) (by decide) (rfl : vwCl[7]? = some (RX7, TX7, 7))), w_pre hS hK⟩ rfl rfl hl.1 rfl (lv_room (Nat.le_of_ble_eq_true rfl)) dX7_behindTermSign_75 ⟨Nat.le_refl _, Nat.le_refl _⟩) hS0 (fun z9 M8 H locs r10 h hS hS0 => ?_)
  exact w_iret hx hb hr hlocks hS hS0 (sI_of r10) h dX7_behindTermSign_78

set_option maxRecDepth 100000 in
def wC_Splicer_behind (a0 : Int) (a1 : Int) (M : zM) (Q : Int → zM → Prop) : Prop := ((sI a0) = 0 → wC_Splicer_behindAtomStart a1 M (fun z3 M2 => Q z3 M2)) ∧ ((sI a0) ≠ 0 → ((sI a0) = 1 → wC_Splicer_behindTermSign a1 M (fun z7 M6 => Q z7 M6)) ∧ ((sI a0) ≠ 1 → ((sI a0) = 2 → wC_Splicer_isDigit a1 50 M (fun z11 => (z11 = 0 → Q (-1) M) ∧ (z11 ≠ 0 → Q 1 M))) ∧ ((sI a0) ≠ 2 → ((sI a0) = 3 → wC_Splicer_isDigit a1 49 M (fun z17 => (z17 = 0 → Q (-1) M) ∧ (z17 ≠ 0 → Q 0 M))) ∧ ((sI a0) ≠ 3 → ((sI a0) = 4 → wC_Splicer_isDigit a1 49 M (fun z23 => (z23 = 0 → Q (-1) M) ∧ (z23 ≠ 0 → Q 5 M))) ∧ ((sI a0) ≠ 4 → ((sI a0) = 5 → ((sI a1) ≠ 93 → wC_Splicer_isDigit a1 49 M (fun z30 => (z30 = 0 → Q (-1) M) ∧ (z30 ≠ 0 → Q 5 M))) ∧ ((sI a1) = 93 → Q 1 M)) ∧ ((sI a0) ≠ 5 → wC_Splicer_isDigit a1 49 M (fun z35 => (z35 = 0 → Q (-1) M) ∧ (z35 ≠ 0 → Q 5 M))))))))
set_option maxHeartbeats 4000000 in
set_option maxRecDepth 100000 in
theorem cC_Splicer_behind (l : Launch) (D : va_G) (dA : Nat → ClassId) (b : Nat) (M : zM) (a0 : Int) (a1 : Int)  (Q : Int → zM → Prop) (h : wC_Splicer_behind a0 a1 M Q) : Met l yX7_behind (.code yX7_behind cX7_behind 3 (some .int) :: zt) (z_rm 3) (va_Pc [.ref (b + 1), .int (iI a0), .int (iI a1)] (wPre D dA vwCl (z_tys dA) wC nC b M)) (va_Qi (wQi Q) (zB D dA vwCl wC nC b) (zA nC b)) 0 0 (zA nC b) := by
  unfold wC_Splicer_behind at h
  refine Met.ofW (cc := cX7_behind) (maxL := 3) (ret := (some .int)) (by decide) rfl ?_
  intro p e s m args below meth c s₁ B hml hv
  obtain ⟨hargs, hS, hK⟩ := hv
  have hx := B.exec
  have hb := B.bytes
  have hr := B.returns
  have hts := atoms_spec (ws := .code yX7_behind cX7_behind 3 (some .int) :: zt) B.pre
  have hown : s.vm.findClass RX7 = some m.cls := findClass_of_methodNamed B.named
  have hlocks := B.notSynchronized
  have hS0 : va_S (zA nC b) s.heap s.heap [] := va_S.rf
  have hl := lv_entry ([.ref (b + 1), .int (iI a0), .int (iI a1)]) (n := 3) (Nat.le_of_ble_eq_true rfl)
  have hent : entryFrame m args 3 = F0 m 0 ((lg_sl ([.ref (b + 1), .int (iI a0), .int (iI a1)]) ++ List.replicate (3 - (lg_sl ([.ref (b + 1), .int (iI a0), .int (iI a1)])).length) Slot.unset).toArray) [] := by rw [hargs]; exact lg_entry_eq m ([.ref (b + 1), .int (iI a0), .int (iI a1)]) 3
  rw [hent]
  generalize (lg_sl ([.ref (b + 1), .int (iI a0), .int (iI a1)]) ++ List.replicate (3 - (lg_sl ([.ref (b + 1), .int (iI a0), .int (iI a1)])).length) Slot.unset).toArray = ls at hl ⊢
  have hl : lv_has ls 3 [(0, .ref (b + 1)), (1, .int (iI a0)), (2, .int (iI a1))] := hl
  refine lv_iload_n hx hb dX7_behind_0 rfl (lv_at hl 1 rfl) ?_
  rcases Decidable.em ((sI a0) = 0) with c1 | c1
  · skip
    have h := h.1 c1
    refine w_tabIn (tgt := 40) hx hb rfl c1 dX7_behind_1 (by decide) (by decide) rfl (by decide) ?_
    refine lv_aload_n hx hb dX7_behind_40 rfl (lv_at hl 0 rfl) ?_
    refine lv_iload_n hx hb dX7_behind_41 rfl (lv_at hl 2 rfl) ?_
    refine w_calli (va_runV (As := [.int (iI a1)]) (rest := []) ⟨hx, hb, hml, hown, hts⟩ (cC_Splicer_behindAtomStart l D dA b M a1 _ h) (cwV 1 hts (z_gV k294 k295 k1352 k2 k296) rfl rfl rfl dm_X7_behindAtomStart ⟨Nat.le_of_ble_eq_true rfl, Nat.le_of_ble_eq_true rfl⟩) ⟨wPre_blind, (w_recv hS hK.1 (by decide) (zkd_of (rfl : zcd wC 1 = 1) rfl) (by decide) (rfl : vwCl[7]? = some (RX7, TX7, 7))), w_pre hS hK⟩ rfl rfl hl.1 rfl (lv_room (Nat.le_of_ble_eq_true rfl)) dX7_behind_42 ⟨Nat.le_refl _, Nat.le_refl _⟩) hS0 (fun z3 M2 H locs r4 h hS hS0 => ?_)
    exact w_iret hx hb hr hlocks hS hS0 (sI_of r4) h dX7_behind_45
  have h := h.2 c1
  rcases Decidable.em ((sI a0) = 1) with c5 | c5
  · skip
    have h := h.1 c5
    refine w_tabIn (tgt := 46) hx hb rfl c5 dX7_behind_1 (by decide) (by decide) rfl (by decide) ?_
    refine lv_aload_n hx hb dX7_behind_46 rfl (lv_at hl 0 rfl) ?_
    refine lv_iload_n hx hb dX7_behind_47 rfl (lv_at hl 2 rfl) ?_
    refine w_calli (va_runV (As := [.int (iI a1)]) (rest := []) ⟨hx, hb, hml, hown, hts⟩ (cC_Splicer_behindTermSign l D dA b M a1 _ h) (cwV 1 hts (z_gV k300 k301 k1353 k2 k302) rfl rfl rfl dm_X7_behindTermSign ⟨Nat.le_of_ble_eq_true rfl, Nat.le_of_ble_eq_true rfl⟩) ⟨wPre_blind, (w_recv hS hK.1 (by decide) (zkd_of (rfl : zcd wC 1 = 1) rfl) (by decide) (rfl : vwCl[7]? = some (RX7, TX7, 7))), w_pre hS hK⟩ rfl rfl hl.1 rfl (lv_room (Nat.le_of_ble_eq_true rfl)) dX7_behind_48 ⟨Nat.le_refl _, Nat.le_refl _⟩) hS0 (fun z7 M6 H locs r8 h hS hS0 => ?_)
    exact w_iret hx hb hr hlocks hS hS0 (sI_of r8) h dX7_behind_51
  have h := h.2 c5
  rcases Decidable.em ((sI a0) = 2) with c9 | c9
  · skip
    have h := h.1 c9
    refine w_tabIn (tgt := 52) hx hb rfl c9 dX7_behind_1 (by decide) (by decide) rfl (by decide) ?_
    refine lv_iload_n hx hb dX7_behind_52 rfl (lv_at hl 2 rfl) ?_
    refine z_bipush hx hb (by decide) dX7_behind_53 ?_
    refine w_callz (va_runS (As := [.int (iI a1), .int (iI 50)]) (rest := []) ⟨hx, hb, hml, hown, hts⟩ (cC_Splicer_isDigit l D dA b M a1 50 _ h) (va_cwS 2 hts (z_gS k297 k298 k2 k299) rfl rfl rfl dm_X7_isDigit.2 ⟨Nat.le_of_ble_eq_true rfl, Nat.le_of_ble_eq_true rfl⟩) ⟨wPre_blind, w_pre hS hK⟩ rfl rfl hl.1 rfl (lv_room (Nat.le_of_ble_eq_true rfl)) dX7_behind_55 ⟨Nat.le_refl _, Nat.le_refl _⟩) hS0 (fun z11 M10 H locs r12 h hS hS0 => ?_)
    obtain ⟨e13, h⟩ := h
    rw [e13] at hS
    refine w_if_eq (tgt := 65) hx hb (sI_01 r12) dX7_behind_58 (by decide) (fun c14 => ?_) (fun c14 => ?_)
    · skip
      have h := h.1 c14
      refine z_iconst hx hb dX7_behind_65 ?_
      exact w_iret hx hb hr hlocks hS hS0 (sI_of (by decide)) h dX7_behind_66
    · skip
      have h := h.2 c14
      refine z_iconst hx hb dX7_behind_61 ?_
      refine lv_goto (tgt := 66) hx hb dX7_behind_62 (by decide) ?_
      exact w_iret hx hb hr hlocks hS hS0 (sI_of (by decide)) h dX7_behind_66
  have h := h.2 c9
  rcases Decidable.em ((sI a0) = 3) with c15 | c15
  · skip
    have h := h.1 c15
    refine w_tabIn (tgt := 67) hx hb rfl c15 dX7_behind_1 (by decide) (by decide) rfl (by decide) ?_
    refine lv_iload_n hx hb dX7_behind_67 rfl (lv_at hl 2 rfl) ?_
    refine z_bipush hx hb (by decide) dX7_behind_68 ?_
    refine w_callz (va_runS (As := [.int (iI a1), .int (iI 49)]) (rest := []) ⟨hx, hb, hml, hown, hts⟩ (cC_Splicer_isDigit l D dA b M a1 49 _ h) (va_cwS 2 hts (z_gS k297 k298 k2 k299) rfl rfl rfl dm_X7_isDigit.2 ⟨Nat.le_of_ble_eq_true rfl, Nat.le_of_ble_eq_true rfl⟩) ⟨wPre_blind, w_pre hS hK⟩ rfl rfl hl.1 rfl (lv_room (Nat.le_of_ble_eq_true rfl)) dX7_behind_70 ⟨Nat.le_refl _, Nat.le_refl _⟩) hS0 (fun z17 M16 H locs r18 h hS hS0 => ?_)
    obtain ⟨e19, h⟩ := h
    rw [e19] at hS
    refine w_if_eq (tgt := 80) hx hb (sI_01 r18) dX7_behind_73 (by decide) (fun c20 => ?_) (fun c20 => ?_)
    · skip
      have h := h.1 c20
      refine z_iconst hx hb dX7_behind_80 ?_
      exact w_iret hx hb hr hlocks hS hS0 (sI_of (by decide)) h dX7_behind_81
    · skip
      have h := h.2 c20
      refine z_iconst hx hb dX7_behind_76 ?_
      refine lv_goto (tgt := 81) hx hb dX7_behind_77 (by decide) ?_
      exact w_iret hx hb hr hlocks hS hS0 (sI_of (by decide)) h dX7_behind_81
  have h := h.2 c15
  rcases Decidable.em ((sI a0) = 4) with c21 | c21
  · skip
    have h := h.1 c21
    refine w_tabIn (tgt := 105) hx hb rfl c21 dX7_behind_1 (by decide) (by decide) rfl (by decide) ?_
    refine lv_iload_n hx hb dX7_behind_105 rfl (lv_at hl 2 rfl) ?_
    refine z_bipush hx hb (by decide) dX7_behind_106 ?_
    refine w_callz (va_runS (As := [.int (iI a1), .int (iI 49)]) (rest := []) ⟨hx, hb, hml, hown, hts⟩ (cC_Splicer_isDigit l D dA b M a1 49 _ h) (va_cwS 2 hts (z_gS k297 k298 k2 k299) rfl rfl rfl dm_X7_isDigit.2 ⟨Nat.le_of_ble_eq_true rfl, Nat.le_of_ble_eq_true rfl⟩) ⟨wPre_blind, w_pre hS hK⟩ rfl rfl hl.1 rfl (lv_room (Nat.le_of_ble_eq_true rfl)) dX7_behind_108 ⟨Nat.le_refl _, Nat.le_refl _⟩) hS0 (fun z23 M22 H locs r24 h hS hS0 => ?_)
    obtain ⟨e25, h⟩ := h
    rw [e25] at hS
    refine w_if_eq (tgt := 118) hx hb (sI_01 r24) dX7_behind_111 (by decide) (fun c26 => ?_) (fun c26 => ?_)
    · skip
      have h := h.1 c26
      refine z_iconst hx hb dX7_behind_118 ?_
      exact w_iret hx hb hr hlocks hS hS0 (sI_of (by decide)) h dX7_behind_119
    · skip
      have h := h.2 c26
      refine z_iconst hx hb dX7_behind_114 ?_
      refine lv_goto (tgt := 119) hx hb dX7_behind_115 (by decide) ?_
      exact w_iret hx hb hr hlocks hS hS0 (sI_of (by decide)) h dX7_behind_119
  have h := h.2 c21
  rcases Decidable.em ((sI a0) = 5) with c27 | c27
  · skip
    have h := h.1 c27
    refine w_tabIn (tgt := 82) hx hb rfl c27 dX7_behind_1 (by decide) (by decide) rfl (by decide) ?_
    refine lv_iload_n hx hb dX7_behind_82 rfl (lv_at hl 2 rfl) ?_
    refine z_bipush hx hb (by decide) dX7_behind_83 ?_
    refine w_icmp_ne (tgt := 90) hx hb rfl (sI_of (by decide)) dX7_behind_85 (by decide) (fun c28 => ?_) (fun c28 => ?_)
    · skip
      have h := h.1 c28
      refine lv_iload_n hx hb dX7_behind_90 rfl (lv_at hl 2 rfl) ?_
      refine z_bipush hx hb (by decide) dX7_behind_91 ?_
      refine w_callz (va_runS (As := [.int (iI a1), .int (iI 49)]) (rest := []) ⟨hx, hb, hml, hown, hts⟩ (cC_Splicer_isDigit l D dA b M a1 49 _ h) (va_cwS 2 hts (z_gS k297 k298 k2 k299) rfl rfl rfl dm_X7_isDigit.2 ⟨Nat.le_of_ble_eq_true rfl, Nat.le_of_ble_eq_true rfl⟩) ⟨wPre_blind, w_pre hS hK⟩ rfl rfl hl.1 rfl (lv_room (Nat.le_of_ble_eq_true rfl)) dX7_behind_93 ⟨Nat.le_refl _, Nat.le_refl _⟩) hS0 (fun z30 M29 H locs r31 h hS hS0 => ?_)
      obtain ⟨e32, h⟩ := h
      rw [e32] at hS
      refine w_if_eq (tgt := 103) hx hb (sI_01 r31) dX7_behind_96 (by decide) (fun c33 => ?_) (fun c33 => ?_)
      · skip
        have h := h.1 c33
        refine z_iconst hx hb dX7_behind_103 ?_
        exact w_iret hx hb hr hlocks hS hS0 (sI_of (by decide)) h dX7_behind_104
      · skip
        have h := h.2 c33
        refine z_iconst hx hb dX7_behind_99 ?_
        refine lv_goto (tgt := 104) hx hb dX7_behind_100 (by decide) ?_
        exact w_iret hx hb hr hlocks hS hS0 (sI_of (by decide)) h dX7_behind_104
    · skip
      have h := h.2 c28
      refine z_iconst hx hb dX7_behind_88 ?_
      exact w_iret hx hb hr hlocks hS hS0 (sI_of (by decide)) h dX7_behind_89
  have h := h.2 c27
  refine w_tabOut (tgt := 105) hx hb rfl dX7_behind_1 (tb_0_5 _ c1 c5 c9 c15 c21 c27) (by decide) ?_
  refine lv_iload_n hx hb dX7_behind_105 rfl (lv_at hl 2 rfl) ?_
  refine z_bipush hx hb (by decide) dX7_behind_106 ?_
  refine w_callz (va_runS (As := [.int (iI a1), .int (iI 49)]) (rest := []) ⟨hx, hb, hml, hown, hts⟩ (cC_Splicer_isDigit l D dA b M a1 49 _ h) (va_cwS 2 hts (z_gS k297 k298 k2 k299) rfl rfl rfl dm_X7_isDigit.2 ⟨Nat.le_of_ble_eq_true rfl, Nat.le_of_ble_eq_true rfl⟩) ⟨wPre_blind, w_pre hS hK⟩ rfl rfl hl.1 rfl (lv_room (Nat.le_of_ble_eq_true rfl)) dX7_behind_108 ⟨Nat.le_refl _, Nat.le_refl _⟩) hS0 (fun z35 M34 H locs r36 h hS hS0 => ?_)
  obtain ⟨e37, h⟩ := h
  rw [e37] at hS
  refine w_if_eq (tgt := 118) hx hb (sI_01 r36) dX7_behind_111 (by decide) (fun c38 => ?_) (fun c38 => ?_)
  · skip
    have h := h.1 c38
    refine z_iconst hx hb dX7_behind_118 ?_
    exact w_iret hx hb hr hlocks hS hS0 (sI_of (by decide)) h dX7_behind_119
  · skip
    have h := h.2 c38
    refine z_iconst hx hb dX7_behind_114 ?_
    refine lv_goto (tgt := 119) hx hb dX7_behind_115 (by decide) ?_
    exact w_iret hx hb hr hlocks hS hS0 (sI_of (by decide)) h dX7_behind_119

set_option maxRecDepth 100000 in
def wC_Splicer_firstWrong  (M : zM) (Q : Int → zM → Prop) : Prop := (∀ M1 : zM, M1 = zup M 1 2 0 → wL2 (fun K9 x3 x4 M5 => pJ0 (fun J48 => ((sI (M5 1 1)) ≤ (sI x4) → J48) ∧ ((sI x4) < (sI (M5 1 1)) → (60 ≤ (sI x4) → J48) ∧ ((sI x4) < 60 → ((0 ≤ (sI x4) ∧ (sI x4) < 100) ∧ wC_Splicer_behind x3 (M5 2 (sI x4).toNat) M5 (fun z31 M30 => (z31 ≠ (-1) → K9 z31 (x4 + 1) M30) ∧ (z31 = (-1) → Q (sI x4) M30)))))) (((sI (M5 1 1)) ≤ 60 → ((sI x3) ≠ 1 → Q (sI (M5 1 1)) M5) ∧ ((sI x3) = 1 → ((sI (M5 1 2)) ≠ 0 → Q (sI (M5 1 1)) M5) ∧ ((sI (M5 1 2)) = 0 → Q (-1) M5))) ∧ (60 < (sI (M5 1 1)) → Q 60 M5))) 0 0 M1)
set_option maxHeartbeats 4000000 in
set_option maxRecDepth 100000 in
theorem cC_Splicer_firstWrong (l : Launch) (D : va_G) (dA : Nat → ClassId) (b : Nat) (M : zM)   (Q : Int → zM → Prop) (h : wC_Splicer_firstWrong  M Q) : Met l yX7_firstWrong (.code yX7_firstWrong cX7_firstWrong 3 (some .int) :: zt) (z_rm 4) (va_Pc [.ref (b + 1)] (wPre D dA vwCl (z_tys dA) wC nC b M)) (va_Qi (wQi Q) (zB D dA vwCl wC nC b) (zA nC b)) 0 0 (zA nC b) := by
  unfold wC_Splicer_firstWrong at h
  refine Met.ofW (cc := cX7_firstWrong) (maxL := 3) (ret := (some .int)) (by decide) rfl ?_
  intro p e s m args below meth c s₁ B hml hv
  obtain ⟨hargs, hS, hK⟩ := hv
  have hx := B.exec
  have hb := B.bytes
  have hr := B.returns
  have hts := atoms_spec (ws := .code yX7_firstWrong cX7_firstWrong 3 (some .int) :: zt) B.pre
  have hown : s.vm.findClass RX7 = some m.cls := findClass_of_methodNamed B.named
  have hlocks := B.notSynchronized
  have hS0 : va_S (zA nC b) s.heap s.heap [] := va_S.rf
  have hl := lv_entry ([.ref (b + 1)]) (n := 3) (Nat.le_of_ble_eq_true rfl)
  have hent : entryFrame m args 3 = F0 m 0 ((lg_sl ([.ref (b + 1)]) ++ List.replicate (3 - (lg_sl ([.ref (b + 1)])).length) Slot.unset).toArray) [] := by rw [hargs]; exact lg_entry_eq m ([.ref (b + 1)]) 3
  rw [hent]
  generalize (lg_sl ([.ref (b + 1)]) ++ List.replicate (3 - (lg_sl ([.ref (b + 1)])).length) Slot.unset).toArray = ls at hl ⊢
  have hl : lv_has ls 3 [(0, .ref (b + 1))] := hl
  refine z_iconst hx hb dX7_firstWrong_0 ?_
  refine lv_istore_n (lv' := [(1, .int (iI 0)), (0, .ref (b + 1))]) hx hb dX7_firstWrong_1 rfl hl (by decide) rfl (fun ls hl => ?_)
  refine lv_aload_n hx hb dX7_firstWrong_2 rfl (lv_at hl 1 rfl) ?_
  refine z_iconst hx hb dX7_firstWrong_3 ?_
  refine w_puti hx hb hts (z_memU u7) tyX7 tyX7_ok nmX7 hown hK.1 hS hS0 f7_2 (by decide) (zkd_of (rfl : zcd wC 1 = 1) rfl) (Or.inl (hts _ (z_mem k57))) rfl (z := 0) (by decide +kernel) dX7_firstWrong_4 (fun H locs hS hS0 => ?_)
  obtain ⟨M1, e2⟩ : ∃ M1 : zM, M1 = zup M 1 2 0 := ⟨_, rfl⟩
  rw [← e2] at hS
  have h := h M1 e2
  refine z_iconst hx hb dX7_firstWrong_7 ?_
  refine lv_istore_n (lv' := [(2, .int (iI 0)), (1, .int (iI 0)), (0, .ref (b + 1))]) hx hb dX7_firstWrong_8 rfl hl (by decide) rfl (fun ls hl => ?_)
  obtain ⟨I6, ⟨n7, h8⟩, h9⟩ := h
  have L10 : ∀ (n11 : Nat) (x3 x4 : Int) (M5 : zM) (H : Heap) (locs : List Loc) (ls : Array Slot), I6 n11 x3 x4 M5 → zR D dA vwCl wC nC b M5 H → va_S (zA nC b) s.heap H locs → lv_has ls 3 [(0, .ref (b + 1)), (1, .int (iI x3)), (2, .int (iI x4))] → W p l e (headSpec (.code yX7_firstWrong cX7_firstWrong 3 (some .int) :: zt) (z_rm 4)).room s m args below meth c H locs 0 0 (MQ below (va_Qi (wQi Q) (zB D dA vwCl wC nC b) (zA nC b)) args s 0 0 (zA nC b)) (F0 m 9 ls []) := by
    intro n11
    induction n11 using Nat.strongRecOn with
    | ind n11 i12 =>
      intro x3 x4 M5 H locs ls h hS hS0 hl
      have h := h9 n11 x3 x4 M5 h
      refine lv_iload_n hx hb dX7_firstWrong_9 rfl (lv_at hl 2 rfl) ?_
      refine lv_aload_n hx hb dX7_firstWrong_10 rfl (lv_at hl 0 rfl) ?_
      refine w_geti hx hb hts (z_memU u7) hown hK.1 hS f7_1 (by decide) (zkd_of (rfl : zcd wC 1 = 1) rfl) (Or.inl (hts _ (z_mem k55))) dX7_firstWrong_11 ?_
      obtain ⟨J48, B23, h⟩ := h
      have L22 : ∀ (H : Heap) (locs : List Loc) (ls : Array Slot), J48 → zR D dA vwCl wC nC b M5 H → va_S (zA nC b) s.heap H locs → lv_has ls 3 [(0, .ref (b + 1)), (1, .int (iI x3))] → W p l e (headSpec (.code yX7_firstWrong cX7_firstWrong 3 (some .int) :: zt) (z_rm 4)).room s m args below meth c H locs 0 0 (MQ below (va_Qi (wQi Q) (zB D dA vwCl wC nC b) (zA nC b)) args s 0 0 (zA nC b)) (F0 m 48 ls []) := by
        intro  H locs ls h hS hS0 hl
        have h := B23 h
        refine lv_aload_n hx hb dX7_firstWrong_48 rfl (lv_at hl 0 rfl) ?_
        refine w_geti hx hb hts (z_memU u7) hown hK.1 hS f7_1 (by decide) (zkd_of (rfl : zcd wC 1 = 1) rfl) (Or.inl (hts _ (z_mem k55))) dX7_firstWrong_49 ?_
        refine z_bipush hx hb (by decide) dX7_firstWrong_52 ?_
        refine w_icmp_le (tgt := 60) hx hb rfl (sI_of (by decide)) dX7_firstWrong_54 (by decide) (fun c24 => ?_) (fun c24 => ?_)
        · skip
          have h := h.1 c24
          refine lv_iload_n hx hb dX7_firstWrong_60 rfl (lv_at hl 1 rfl) ?_
          refine z_iconst hx hb dX7_firstWrong_61 ?_
          refine w_icmp_ne (tgt := 76) hx hb rfl (sI_of (by decide)) dX7_firstWrong_62 (by decide) (fun c25 => ?_) (fun c25 => ?_)
          · skip
            have h := h.1 c25
            refine lv_aload_n hx hb dX7_firstWrong_76 rfl (lv_at hl 0 rfl) ?_
            refine w_geti hx hb hts (z_memU u7) hown hK.1 hS f7_1 (by decide) (zkd_of (rfl : zcd wC 1 = 1) rfl) (Or.inl (hts _ (z_mem k55))) dX7_firstWrong_77 ?_
            exact w_iret hx hb hr hlocks hS hS0 rfl h dX7_firstWrong_80
          · skip
            have h := h.2 c25
            refine lv_aload_n hx hb dX7_firstWrong_65 rfl (lv_at hl 0 rfl) ?_
            refine w_geti hx hb hts (z_memU u7) hown hK.1 hS f7_2 (by decide) (zkd_of (rfl : zcd wC 1 = 1) rfl) (Or.inl (hts _ (z_mem k57))) dX7_firstWrong_66 ?_
            refine w_if_ne (tgt := 76) hx hb rfl dX7_firstWrong_69 (by decide) (fun c26 => ?_) (fun c26 => ?_)
            · skip
              have h := h.1 c26
              refine lv_aload_n hx hb dX7_firstWrong_76 rfl (lv_at hl 0 rfl) ?_
              refine w_geti hx hb hts (z_memU u7) hown hK.1 hS f7_1 (by decide) (zkd_of (rfl : zcd wC 1 = 1) rfl) (Or.inl (hts _ (z_mem k55))) dX7_firstWrong_77 ?_
              exact w_iret hx hb hr hlocks hS hS0 rfl h dX7_firstWrong_80
            · skip
              have h := h.2 c26
              refine z_iconst hx hb dX7_firstWrong_72 ?_
              refine lv_goto (tgt := 80) hx hb dX7_firstWrong_73 (by decide) ?_
              exact w_iret hx hb hr hlocks hS hS0 (sI_of (by decide)) h dX7_firstWrong_80
        · skip
          have h := h.2 c24
          refine z_bipush hx hb (by decide) dX7_firstWrong_57 ?_
          exact w_iret hx hb hr hlocks hS hS0 (sI_of (by decide)) h dX7_firstWrong_59
      refine w_icmp_ge (tgt := 48) hx hb rfl rfl dX7_firstWrong_14 (by decide) (fun c27 => ?_) (fun c27 => ?_)
      · skip
        have h := h.1 c27
        exact L22 _ _ _ h hS hS0 (lv_sub hl [0, 1] rfl)
      · skip
        have h := h.2 c27
        refine lv_iload_n hx hb dX7_firstWrong_17 rfl (lv_at hl 2 rfl) ?_
        refine z_bipush hx hb (by decide) dX7_firstWrong_18 ?_
        refine w_icmp_ge (tgt := 48) hx hb rfl (sI_of (by decide)) dX7_firstWrong_20 (by decide) (fun c28 => ?_) (fun c28 => ?_)
        · skip
          have h := h.1 c28
          exact L22 _ _ _ h hS hS0 (lv_sub hl [0, 1] rfl)
        · skip
          have h := h.2 c28
          refine lv_aload_n hx hb dX7_firstWrong_23 rfl (lv_at hl 0 rfl) ?_
          refine lv_iload_n hx hb dX7_firstWrong_24 rfl (lv_at hl 1 rfl) ?_
          refine lv_aload_n hx hb dX7_firstWrong_25 rfl (lv_at hl 0 rfl) ?_
          refine w_getr (j2 := 2) hx hb hts (z_memU u7) hown hK.1 hS f7_0 (by decide) (zkd_of (rfl : zcd wC 1 = 1) rfl) (zrf_of (rfl : zcd wC 1 = 1) rfl) (Or.inl (hts _ (z_mem k54))) dX7_firstWrong_26 ?_
          refine lv_iload_n hx hb dX7_firstWrong_29 rfl (lv_at hl 2 rfl) ?_
          obtain ⟨o29, h⟩ := h
          refine w_iald (n := 100) (i := (sI x4)) hx hb hK.1 (t0 := 0) rfl hS (by decide) (zkd_of (rfl : zcd wC 2 = 2) rfl) (zln_of (rfl : zcd wC 2 = 2) rfl) rfl o29.1 o29.2 (by decide) dX7_firstWrong_30 ?_
          refine w_calli (va_runV (As := [.int (iI x3), .int (iI (M5 2 (sI x4).toNat))]) (rest := []) ⟨hx, hb, hml, hown, hts⟩ (cC_Splicer_behind l D dA b M5 x3 (M5 2 (sI x4).toNat) _ h) (cwV 2 hts (z_gV k291 k292 k1351 k2 k293) rfl rfl rfl dm_X7_behind ⟨Nat.le_of_ble_eq_true rfl, Nat.le_of_ble_eq_true rfl⟩) ⟨wPre_blind, (w_recv hS hK.1 (by decide) (zkd_of (rfl : zcd wC 1 = 1) rfl) (by decide) (rfl : vwCl[7]? = some (RX7, TX7, 7))), w_pre hS hK⟩ rfl rfl hl.1 rfl (lv_room (Nat.le_of_ble_eq_true rfl)) dX7_firstWrong_31 ⟨Nat.le_refl _, Nat.le_refl _⟩) hS0 (fun z31 M30 H locs r32 h hS hS0 => ?_)
          refine lv_istore_n (lv' := [(1, .int (iI z31)), (0, .ref (b + 1)), (2, .int (iI x4))]) hx hb dX7_firstWrong_34 rfl hl (by decide) rfl (fun ls hl => ?_)
          refine lv_iload_n hx hb dX7_firstWrong_35 rfl (lv_at hl 0 rfl) ?_
          refine z_iconst hx hb dX7_firstWrong_36 ?_
          refine w_icmp_ne (tgt := 42) hx hb (sI_of r32) (sI_of (by decide)) dX7_firstWrong_37 (by decide) (fun c33 => ?_) (fun c33 => ?_)
          · skip
            have h := h.1 c33
            refine z_iinc (lv' := [(2, .int (iI (x4 + 1))), (1, .int (iI z31)), (0, .ref (b + 1))]) hx hb dX7_firstWrong_42 hl (k := 2) rfl (by decide) rfl (fun ls hl => ?_)
            refine lv_goto (tgt := 9) hx hb dX7_firstWrong_45 (by decide) ?_
            obtain ⟨n34, h35, h⟩ := h
            exact i12 n34 h35 z31 (x4 + 1) M30 _ _ _ h hS hS0 (lv_sub hl [2, 1, 0] rfl)
          · skip
            have h := h.2 c33
            refine lv_iload_n hx hb dX7_firstWrong_40 rfl (lv_at hl 2 rfl) ?_
            exact w_iret hx hb hr hlocks hS hS0 rfl h dX7_firstWrong_41
  exact L10 n7 0 0 M1 _ _ _ h8 hS hS0 (lv_sub hl [2, 1, 0] rfl)

set_option maxRecDepth 100000 in
def wC_Splicer_openRow  (M : zM) (Q : zM → Prop) : Prop := ((0 ≤ (sI (M 1 2)) ∧ (sI (M 1 2)) < 6) ∧ (∀ M6 : zM, M6 = zup M (6 + 4 * (sI (M 1 2)).toNat) 1 0 → ((0 ≤ (sI (M6 1 2)) ∧ (sI (M6 1 2)) < 6) ∧ (∀ M13 : zM, M13 = zup M6 (8 + 4 * (sI (M6 1 2)).toNat) 1 0 → ((0 ≤ (sI (M13 1 2)) ∧ (sI (M13 1 2)) < 6) ∧ (∀ M16 : zM, M16 = zup M13 5 (sI (M13 1 2)).toNat 0 → Q M16))))))
set_option maxHeartbeats 4000000 in
set_option maxRecDepth 100000 in
theorem cC_Splicer_openRow (l : Launch) (D : va_G) (dA : Nat → ClassId) (b : Nat) (M : zM)   (Q : zM → Prop) (h : wC_Splicer_openRow  M Q) : Met l yX7_openRow (.code yX7_openRow cX7_openRow 1 none :: zt) (z_rm 0) (va_Pc [.ref (b + 1)] (wPre D dA vwCl (z_tys dA) wC nC b M)) (va_Qv (wQv Q) (zB D dA vwCl wC nC b) (zA nC b)) 0 0 (zA nC b) := by
  unfold wC_Splicer_openRow at h
  refine Met.ofW (cc := cX7_openRow) (maxL := 1) (ret := none) (by decide) rfl ?_
  intro p e s m args below meth c s₁ B hml hv
  obtain ⟨hargs, hS, hK⟩ := hv
  have hx := B.exec
  have hb := B.bytes
  have hr := B.returns
  have hts := atoms_spec (ws := .code yX7_openRow cX7_openRow 1 none :: zt) B.pre
  have hown : s.vm.findClass RX7 = some m.cls := findClass_of_methodNamed B.named
  have hlocks := B.notSynchronized
  have hS0 : va_S (zA nC b) s.heap s.heap [] := va_S.rf
  have hl := lv_entry ([.ref (b + 1)]) (n := 1) (Nat.le_of_ble_eq_true rfl)
  have hent : entryFrame m args 1 = F0 m 0 ((lg_sl ([.ref (b + 1)]) ++ List.replicate (1 - (lg_sl ([.ref (b + 1)])).length) Slot.unset).toArray) [] := by rw [hargs]; exact lg_entry_eq m ([.ref (b + 1)]) 1
  rw [hent]
  generalize (lg_sl ([.ref (b + 1)]) ++ List.replicate (1 - (lg_sl ([.ref (b + 1)])).length) Slot.unset).toArray = ls at hl ⊢
  have hl : lv_has ls 1 [(0, .ref (b + 1))] := hl
  refine lv_aload_n hx hb dX7_openRow_0 rfl (lv_at hl 0 rfl) ?_
  refine w_getr (j2 := 3) hx hb hts (z_memU u7) hown hK.1 hS f7_4 (by decide) (zkd_of (rfl : zcd wC 1 = 1) rfl) (zrf_of (rfl : zcd wC 1 = 1) rfl) (Or.inl (hts _ (z_mem k59))) dX7_openRow_1 ?_
  refine lv_aload_n hx hb dX7_openRow_4 rfl (lv_at hl 0 rfl) ?_
  refine w_geti hx hb hts (z_memU u7) hown hK.1 hS f7_2 (by decide) (zkd_of (rfl : zcd wC 1 = 1) rfl) (Or.inl (hts _ (z_mem k57))) dX7_openRow_5 ?_
  obtain ⟨o1, h⟩ := h
  refine w_aald (n := 6) (i := (sI (M 1 2))) (j2 := (6 + 4 * (sI (M 1 2)).toNat)) hx hb hK.1 (t0 := 4) (r := 4) (by decide) rfl rfl hS (by decide) (zkd_of (rfl : zcd wC 3 = 3) rfl) (zln_of (rfl : zcd wC 3 = 3) rfl) rfl o1.1 o1.2 (by decide) (zrf_of (rfl : zcd wC 3 = 3) rfl) dX7_openRow_8 ?_
  obtain ⟨lt2, cd3⟩ : (6 + 4 * (sI (M 1 2)).toNat) < nC ∧ zcd wC (6 + 4 * (sI (M 1 2)).toNat) = 6 := (by decide : ∀ k : Nat, k < 6 → (6 + 4 * k) < nC ∧ zcd wC (6 + 4 * k) = 6) (sI (M 1 2)).toNat (by clear h; have h0 := o1.1; have h1 := o1.2; omega)
  obtain ⟨lt4, cd5⟩ := nx_strip (6 + 4 * (sI (M 1 2)).toNat) lt2 cd3
  refine z_iconst hx hb dX7_openRow_9 ?_
  refine w_puti hx hb hts (z_memU u8) tyX8 tyX8_ok nmX8 hown hK.1 hS hS0 f8_1 lt2 (zkd_of cd3 rfl) (Or.inl (hts _ (z_mem k46))) rfl (z := 0) (by decide +kernel) dX7_openRow_10 (fun H locs hS hS0 => ?_)
  obtain ⟨M6, e7⟩ : ∃ M6 : zM, M6 = zup M (6 + 4 * (sI (M 1 2)).toNat) 1 0 := ⟨_, rfl⟩
  rw [← e7] at hS
  have h := h M6 e7
  refine lv_aload_n hx hb dX7_openRow_13 rfl (lv_at hl 0 rfl) ?_
  refine w_getr (j2 := 4) hx hb hts (z_memU u7) hown hK.1 hS f7_5 (by decide) (zkd_of (rfl : zcd wC 1 = 1) rfl) (zrf_of (rfl : zcd wC 1 = 1) rfl) (Or.inl (hts _ (z_mem k60))) dX7_openRow_14 ?_
  refine lv_aload_n hx hb dX7_openRow_17 rfl (lv_at hl 0 rfl) ?_
  refine w_geti hx hb hts (z_memU u7) hown hK.1 hS f7_2 (by decide) (zkd_of (rfl : zcd wC 1 = 1) rfl) (Or.inl (hts _ (z_mem k57))) dX7_openRow_18 ?_
  obtain ⟨o8, h⟩ := h
  refine w_aald (n := 6) (i := (sI (M6 1 2))) (j2 := (8 + 4 * (sI (M6 1 2)).toNat)) hx hb hK.1 (t0 := 4) (r := 4) (by decide) rfl rfl hS (by decide) (zkd_of (rfl : zcd wC 4 = 4) rfl) (zln_of (rfl : zcd wC 4 = 4) rfl) rfl o8.1 o8.2 (by decide) (zrf_of (rfl : zcd wC 4 = 4) rfl) dX7_openRow_21 ?_
  obtain ⟨lt9, cd10⟩ : (8 + 4 * (sI (M6 1 2)).toNat) < nC ∧ zcd wC (8 + 4 * (sI (M6 1 2)).toNat) = 6 := (by decide : ∀ k : Nat, k < 6 → (8 + 4 * k) < nC ∧ zcd wC (8 + 4 * k) = 6) (sI (M6 1 2)).toNat (by clear h; have h0 := o8.1; have h1 := o8.2; omega)
  obtain ⟨lt11, cd12⟩ := nx_strip (8 + 4 * (sI (M6 1 2)).toNat) lt9 cd10
  refine z_iconst hx hb dX7_openRow_22 ?_
  refine w_puti hx hb hts (z_memU u8) tyX8 tyX8_ok nmX8 hown hK.1 hS hS0 f8_1 lt9 (zkd_of cd10 rfl) (Or.inl (hts _ (z_mem k46))) rfl (z := 0) (by decide +kernel) dX7_openRow_23 (fun H locs hS hS0 => ?_)
  obtain ⟨M13, e14⟩ : ∃ M13 : zM, M13 = zup M6 (8 + 4 * (sI (M6 1 2)).toNat) 1 0 := ⟨_, rfl⟩
  rw [← e14] at hS
  have h := h M13 e14
  refine lv_aload_n hx hb dX7_openRow_26 rfl (lv_at hl 0 rfl) ?_
  refine w_getr (j2 := 5) hx hb hts (z_memU u7) hown hK.1 hS f7_6 (by decide) (zkd_of (rfl : zcd wC 1 = 1) rfl) (zrf_of (rfl : zcd wC 1 = 1) rfl) (Or.inl (hts _ (z_mem k61))) dX7_openRow_27 ?_
  refine lv_aload_n hx hb dX7_openRow_30 rfl (lv_at hl 0 rfl) ?_
  refine w_geti hx hb hts (z_memU u7) hown hK.1 hS f7_2 (by decide) (zkd_of (rfl : zcd wC 1 = 1) rfl) (Or.inl (hts _ (z_mem k57))) dX7_openRow_31 ?_
  refine z_iconst hx hb dX7_openRow_34 ?_
  obtain ⟨o15, h⟩ := h
  refine w_iast (z := 0) (n := 6) (i := (sI (M13 1 2))) hx hb hK.1 (t0 := 0) rfl hS hS0 (by decide) (zkd_of (rfl : zcd wC 5 = 5) rfl) (zln_of (rfl : zcd wC 5 = 5) rfl) rfl o15.1 o15.2 (by decide) dX7_openRow_35 (fun H locs hS hS0 => ?_)
  obtain ⟨M16, e17⟩ : ∃ M16 : zM, M16 = zup M13 5 (sI (M13 1 2)).toNat 0 := ⟨_, rfl⟩
  rw [← e17] at hS
  have h := h M16 e17
  exact w_vret hx hb hr hlocks hS hS0 h dX7_openRow_36

set_option maxRecDepth 100000 in
def wC_Strip_repeat (j : Nat) (a0 : Int) (M : zM) (Q : zM → Prop) : Prop := wL1 (fun K20 x3 M4 => ((min (sI ((M j 1) * a0)) 24) ≤ (sI x3) → (∀ M13 : zM, M13 = zup M4 j 1 (min (sI ((M j 1) * a0)) 24) → Q M13)) ∧ ((sI x3) < (min (sI ((M j 1) * a0)) 24) → ((0 ≤ (sI (x3 - (M4 j 1))) ∧ (sI (x3 - (M4 j 1))) < 24) ∧ ((0 ≤ (sI x3) ∧ (sI x3) < 24) ∧ (∀ M17 : zM, M17 = zup M4 (j + 1) (sI x3).toNat (M4 (j + 1) (sI (x3 - (M4 j 1))).toNat) → K20 (x3 + 1) M17))))) (M j 1) M
set_option maxHeartbeats 4000000 in
set_option maxRecDepth 100000 in
theorem cC_Strip_repeat (l : Launch) (D : va_G) (dA : Nat → ClassId) (b : Nat) (M : zM) (j : Nat) (a0 : Int) (lt_j : j < nC) (cd_j : zcd wC j = 6) (Q : zM → Prop) (h : wC_Strip_repeat j a0 M Q) : Met l yX8_repeat (.code yX8_repeat cX8_repeat 4 none :: zt) (z_rm 1) (va_Pc [.ref (b + j), .int (iI a0)] (wPre D dA vwCl (z_tys dA) wC nC b M)) (va_Qv (wQv Q) (zB D dA vwCl wC nC b) (zA nC b)) 0 0 (zA nC b) := by
  unfold wC_Strip_repeat at h
  refine Met.ofW (cc := cX8_repeat) (maxL := 4) (ret := none) (by decide) rfl ?_
  intro p e s m args below meth c s₁ B hml hv
  obtain ⟨hargs, hS, hK⟩ := hv
  have hx := B.exec
  have hb := B.bytes
  have hr := B.returns
  have hts := atoms_spec (ws := .code yX8_repeat cX8_repeat 4 none :: zt) B.pre
  have hown : s.vm.findClass RX8 = some m.cls := findClass_of_methodNamed B.named
  have hlocks := B.notSynchronized
  have hS0 : va_S (zA nC b) s.heap s.heap [] := va_S.rf
  have hl := lv_entry ([.ref (b + j), .int (iI a0)]) (n := 4) (Nat.le_of_ble_eq_true rfl)
  have hent : entryFrame m args 4 = F0 m 0 ((lg_sl ([.ref (b + j), .int (iI a0)]) ++ List.replicate (4 - (lg_sl ([.ref (b + j), .int (iI a0)])).length) Slot.unset).toArray) [] := by rw [hargs]; exact lg_entry_eq m ([.ref (b + j), .int (iI a0)]) 4
  rw [hent]
  generalize (lg_sl ([.ref (b + j), .int (iI a0)]) ++ List.replicate (4 - (lg_sl ([.ref (b + j), .int (iI a0)])).length) Slot.unset).toArray = ls at hl ⊢
  have hl : lv_has ls 4 [(0, .ref (b + j)), (1, .int (iI a0))] := hl
  obtain ⟨lt1, cd2⟩ := nx_strip j lt_j cd_j
  refine lv_aload_n hx hb dX8_repeat_0 rfl (lv_at hl 0 rfl) ?_
  refine w_geti hx hb hts (z_memU u8) hown hK.1 hS f8_1 lt_j (zkd_of cd_j rfl) (Or.inl (hts _ (z_mem k44))) dX8_repeat_1 ?_
  refine lv_iload_n hx hb dX8_repeat_4 rfl (lv_at hl 1 rfl) ?_
  refine z_imul hx hb dX8_repeat_5 ?_
  refine lv_aload_n hx hb dX8_repeat_6 rfl (lv_at hl 0 rfl) ?_
  refine w_getr (j2 := (j + 1)) hx hb hts (z_memU u8) hown hK.1 hS f8_0 lt_j (zkd_of cd_j rfl) (zrf_of cd_j rfl) (Or.inl (hts _ (z_mem k41))) dX8_repeat_7 ?_
  refine w_alen (n := 24) hx hb hK.1 (t0 := 0) rfl hS lt1 (zkd_of cd2 rfl) (zln_of cd2 rfl) dX8_repeat_10 ?_
  refine z_top (show (((24 : Nat) : Int)) = 24 from by decide) ?_
  refine w_mmin hx hb (hml.trans hl.1.symm) hown (hts _ (z_mem k319)) (hts _ (z_mem k320)) (hts _ (z_mem k15)) (hts _ (z_mem k321)) (by exact Nat.le_of_ble_eq_true rfl) (by exact Nat.le_of_ble_eq_true rfl) (by exact Nat.le_refl _) (by exact Nat.le_refl _) rfl (sI_of (by decide)) dX8_repeat_11 ?_
  refine lv_istore_n (lv' := [(2, .int (iI (min (sI ((M j 1) * a0)) 24))), (0, .ref (b + j)), (1, .int (iI a0))]) hx hb dX8_repeat_14 rfl hl (by decide) rfl (fun ls hl => ?_)
  refine lv_aload_n hx hb dX8_repeat_15 rfl (lv_at hl 1 rfl) ?_
  refine w_geti hx hb hts (z_memU u8) hown hK.1 hS f8_1 lt_j (zkd_of cd_j rfl) (Or.inl (hts _ (z_mem k44))) dX8_repeat_16 ?_
  refine lv_istore_n (lv' := [(3, .int (iI (M j 1))), (2, .int (iI (min (sI ((M j 1) * a0)) 24))), (0, .ref (b + j)), (1, .int (iI a0))]) hx hb dX8_repeat_19 rfl hl (by decide) rfl (fun ls hl => ?_)
  obtain ⟨I5, ⟨n6, h7⟩, h8⟩ := h
  have L9 : ∀ (n10 : Nat) (x3 : Int) (M4 : zM) (H : Heap) (locs : List Loc) (ls : Array Slot), I5 n10 x3 M4 → zR D dA vwCl wC nC b M4 H → va_S (zA nC b) s.heap H locs → lv_has ls 4 [(0, .ref (b + j)), (2, .int (iI (min (sI ((M j 1) * a0)) 24))), (3, .int (iI x3))] → W p l e (headSpec (.code yX8_repeat cX8_repeat 4 none :: zt) (z_rm 1)).room s m args below meth c H locs 0 0 (MQ below (va_Qv (wQv Q) (zB D dA vwCl wC nC b) (zA nC b)) args s 0 0 (zA nC b)) (F0 m 20 ls []) := by
    intro n10
    induction n10 using Nat.strongRecOn with
    | ind n10 i11 =>
      intro x3 M4 H locs ls h hS hS0 hl
      have h := h8 n10 x3 M4 h
      refine lv_iload_n hx hb dX8_repeat_20 rfl (lv_at hl 2 rfl) ?_
      refine lv_iload_n hx hb dX8_repeat_21 rfl (lv_at hl 1 rfl) ?_
      refine w_icmp_ge (tgt := 48) hx hb rfl (sI_of (R_min (sI_c (x := ((M j 1) * a0)) rfl) (sI_c (x := 24) (sI_of (by decide))))) dX8_repeat_22 (by decide) (fun c12 => ?_) (fun c12 => ?_)
      · skip
        have h := h.1 c12
        refine lv_aload_n hx hb dX8_repeat_48 rfl (lv_at hl 0 rfl) ?_
        refine lv_iload_n hx hb dX8_repeat_49 rfl (lv_at hl 1 rfl) ?_
        refine w_puti hx hb hts (z_memU u8) tyX8 tyX8_ok nmX8 hown hK.1 hS hS0 f8_1 lt_j (zkd_of cd_j rfl) (Or.inl (hts _ (z_mem k44))) rfl (z := (min (sI ((M j 1) * a0)) 24)) (by decide +kernel) dX8_repeat_50 (fun H locs hS hS0 => ?_)
        obtain ⟨M13, e14⟩ : ∃ M13 : zM, M13 = zup M4 j 1 (min (sI ((M j 1) * a0)) 24) := ⟨_, rfl⟩
        rw [← e14] at hS
        have h := h M13 e14
        exact w_vret hx hb hr hlocks hS hS0 h dX8_repeat_53
      · skip
        have h := h.2 c12
        refine lv_aload_n hx hb dX8_repeat_25 rfl (lv_at hl 0 rfl) ?_
        refine w_getr (j2 := (j + 1)) hx hb hts (z_memU u8) hown hK.1 hS f8_0 lt_j (zkd_of cd_j rfl) (zrf_of cd_j rfl) (Or.inl (hts _ (z_mem k41))) dX8_repeat_26 ?_
        refine lv_iload_n hx hb dX8_repeat_29 rfl (lv_at hl 2 rfl) ?_
        refine lv_aload_n hx hb dX8_repeat_30 rfl (lv_at hl 0 rfl) ?_
        refine w_getr (j2 := (j + 1)) hx hb hts (z_memU u8) hown hK.1 hS f8_0 lt_j (zkd_of cd_j rfl) (zrf_of cd_j rfl) (Or.inl (hts _ (z_mem k41))) dX8_repeat_31 ?_
        refine lv_iload_n hx hb dX8_repeat_34 rfl (lv_at hl 2 rfl) ?_
        refine lv_aload_n hx hb dX8_repeat_35 rfl (lv_at hl 0 rfl) ?_
        refine w_geti hx hb hts (z_memU u8) hown hK.1 hS f8_1 lt_j (zkd_of cd_j rfl) (Or.inl (hts _ (z_mem k44))) dX8_repeat_36 ?_
        refine z_isub hx hb dX8_repeat_39 ?_
        obtain ⟨o15, h⟩ := h
        refine w_iald (n := 24) (i := (sI (x3 - (M4 j 1)))) hx hb hK.1 (t0 := 0) rfl hS lt1 (zkd_of cd2 rfl) (zln_of cd2 rfl) rfl o15.1 o15.2 (by decide) dX8_repeat_40 ?_
        obtain ⟨o16, h⟩ := h
        refine w_iast (z := (M4 (j + 1) (sI (x3 - (M4 j 1))).toNat)) (n := 24) (i := (sI x3)) hx hb hK.1 (t0 := 0) rfl hS hS0 lt1 (zkd_of cd2 rfl) (zln_of cd2 rfl) rfl o16.1 o16.2 (by decide) dX8_repeat_41 (fun H locs hS hS0 => ?_)
        obtain ⟨M17, e18⟩ : ∃ M17 : zM, M17 = zup M4 (j + 1) (sI x3).toNat (M4 (j + 1) (sI (x3 - (M4 j 1))).toNat) := ⟨_, rfl⟩
        rw [← e18] at hS
        have h := h M17 e18
        refine z_iinc (lv' := [(3, .int (iI (x3 + 1))), (0, .ref (b + j)), (2, .int (iI (min (sI ((M j 1) * a0)) 24)))]) hx hb dX8_repeat_42 hl (k := 2) rfl (by decide) rfl (fun ls hl => ?_)
        refine lv_goto (tgt := 20) hx hb dX8_repeat_45 (by decide) ?_
        obtain ⟨n19, h20, h⟩ := h
        exact i11 n19 h20 (x3 + 1) M17 _ _ _ h hS hS0 (lv_sub hl [1, 2, 0] rfl)
  exact L9 n6 (M j 1) M _ _ _ h7 hS hS0 (lv_sub hl [2, 1, 0] rfl)

set_option maxRecDepth 100000 in
def wC_Splicer_repeatTerm (a0 : Int) (M : zM) (Q : Int → zM → Prop) : Prop := ((0 ≤ (sI (M 1 2)) ∧ (sI (M 1 2)) < 6) ∧ ((sI ((M (8 + 4 * (sI (M 1 2)).toNat) 1) * a0)) ≤ 24 → ((0 ≤ (sI (M 1 2)) ∧ (sI (M 1 2)) < 6) ∧ wC_Strip_repeat (8 + 4 * (sI (M 1 2)).toNat) a0 M (fun M12 => Q 0 M12))) ∧ (24 < (sI ((M (8 + 4 * (sI (M 1 2)).toNat) 1) * a0)) → Q (-100) M))
set_option maxHeartbeats 4000000 in
set_option maxRecDepth 100000 in
theorem cC_Splicer_repeatTerm (l : Launch) (D : va_G) (dA : Nat → ClassId) (b : Nat) (M : zM) (a0 : Int)  (Q : Int → zM → Prop) (h : wC_Splicer_repeatTerm a0 M Q) : Met l yX7_repeatTerm (.code yX7_repeatTerm cX7_repeatTerm 2 (some .int) :: zt) (z_rm 2) (va_Pc [.ref (b + 1), .int (iI a0)] (wPre D dA vwCl (z_tys dA) wC nC b M)) (va_Qi (wQi Q) (zB D dA vwCl wC nC b) (zA nC b)) 0 0 (zA nC b) := by
  unfold wC_Splicer_repeatTerm at h
  refine Met.ofW (cc := cX7_repeatTerm) (maxL := 2) (ret := (some .int)) (by decide) rfl ?_
  intro p e s m args below meth c s₁ B hml hv
  obtain ⟨hargs, hS, hK⟩ := hv
  have hx := B.exec
  have hb := B.bytes
  have hr := B.returns
  have hts := atoms_spec (ws := .code yX7_repeatTerm cX7_repeatTerm 2 (some .int) :: zt) B.pre
  have hown : s.vm.findClass RX7 = some m.cls := findClass_of_methodNamed B.named
  have hlocks := B.notSynchronized
  have hS0 : va_S (zA nC b) s.heap s.heap [] := va_S.rf
  have hl := lv_entry ([.ref (b + 1), .int (iI a0)]) (n := 2) (Nat.le_of_ble_eq_true rfl)
  have hent : entryFrame m args 2 = F0 m 0 ((lg_sl ([.ref (b + 1), .int (iI a0)]) ++ List.replicate (2 - (lg_sl ([.ref (b + 1), .int (iI a0)])).length) Slot.unset).toArray) [] := by rw [hargs]; exact lg_entry_eq m ([.ref (b + 1), .int (iI a0)]) 2
  rw [hent]
  generalize (lg_sl ([.ref (b + 1), .int (iI a0)]) ++ List.replicate (2 - (lg_sl ([.ref (b + 1), .int (iI a0)])).length) Slot.unset).toArray = ls at hl ⊢
  have hl : lv_has ls 2 [(0, .ref (b + 1)), (1, .int (iI a0))] := hl
  refine lv_aload_n hx hb dX7_repeatTerm_0 rfl (lv_at hl 0 rfl) ?_
  refine w_getr (j2 := 4) hx hb hts (z_memU u7) hown hK.1 hS f7_5 (by decide) (zkd_of (rfl : zcd wC 1 = 1) rfl) (zrf_of (rfl : zcd wC 1 = 1) rfl) (Or.inl (hts _ (z_mem k60))) dX7_repeatTerm_1 ?_
  refine lv_aload_n hx hb dX7_repeatTerm_4 rfl (lv_at hl 0 rfl) ?_
  refine w_geti hx hb hts (z_memU u7) hown hK.1 hS f7_2 (by decide) (zkd_of (rfl : zcd wC 1 = 1) rfl) (Or.inl (hts _ (z_mem k57))) dX7_repeatTerm_5 ?_
  obtain ⟨o1, h⟩ := h
  refine w_aald (n := 6) (i := (sI (M 1 2))) (j2 := (8 + 4 * (sI (M 1 2)).toNat)) hx hb hK.1 (t0 := 4) (r := 4) (by decide) rfl rfl hS (by decide) (zkd_of (rfl : zcd wC 4 = 4) rfl) (zln_of (rfl : zcd wC 4 = 4) rfl) rfl o1.1 o1.2 (by decide) (zrf_of (rfl : zcd wC 4 = 4) rfl) dX7_repeatTerm_8 ?_
  obtain ⟨lt2, cd3⟩ : (8 + 4 * (sI (M 1 2)).toNat) < nC ∧ zcd wC (8 + 4 * (sI (M 1 2)).toNat) = 6 := (by decide : ∀ k : Nat, k < 6 → (8 + 4 * k) < nC ∧ zcd wC (8 + 4 * k) = 6) (sI (M 1 2)).toNat (by clear h; have h0 := o1.1; have h1 := o1.2; omega)
  obtain ⟨lt4, cd5⟩ := nx_strip (8 + 4 * (sI (M 1 2)).toNat) lt2 cd3
  refine w_geti hx hb hts (z_memU u8) hown hK.1 hS f8_1 lt2 (zkd_of cd3 rfl) (Or.inl (hts _ (z_mem k46))) dX7_repeatTerm_9 ?_
  refine lv_iload_n hx hb dX7_repeatTerm_12 rfl (lv_at hl 1 rfl) ?_
  refine z_imul hx hb dX7_repeatTerm_13 ?_
  refine z_bipush hx hb (by decide) dX7_repeatTerm_14 ?_
  refine w_icmp_le (tgt := 22) hx hb rfl (sI_of (by decide)) dX7_repeatTerm_16 (by decide) (fun c6 => ?_) (fun c6 => ?_)
  · skip
    have h := h.1 c6
    refine lv_aload_n hx hb dX7_repeatTerm_22 rfl (lv_at hl 0 rfl) ?_
    refine w_getr (j2 := 4) hx hb hts (z_memU u7) hown hK.1 hS f7_5 (by decide) (zkd_of (rfl : zcd wC 1 = 1) rfl) (zrf_of (rfl : zcd wC 1 = 1) rfl) (Or.inl (hts _ (z_mem k60))) dX7_repeatTerm_23 ?_
    refine lv_aload_n hx hb dX7_repeatTerm_26 rfl (lv_at hl 0 rfl) ?_
    refine w_geti hx hb hts (z_memU u7) hown hK.1 hS f7_2 (by decide) (zkd_of (rfl : zcd wC 1 = 1) rfl) (Or.inl (hts _ (z_mem k57))) dX7_repeatTerm_27 ?_
    obtain ⟨o7, h⟩ := h
    refine w_aald (n := 6) (i := (sI (M 1 2))) (j2 := (8 + 4 * (sI (M 1 2)).toNat)) hx hb hK.1 (t0 := 4) (r := 4) (by decide) rfl rfl hS (by decide) (zkd_of (rfl : zcd wC 4 = 4) rfl) (zln_of (rfl : zcd wC 4 = 4) rfl) rfl o7.1 o7.2 (by decide) (zrf_of (rfl : zcd wC 4 = 4) rfl) dX7_repeatTerm_30 ?_
    obtain ⟨lt8, cd9⟩ : (8 + 4 * (sI (M 1 2)).toNat) < nC ∧ zcd wC (8 + 4 * (sI (M 1 2)).toNat) = 6 := (by decide : ∀ k : Nat, k < 6 → (8 + 4 * k) < nC ∧ zcd wC (8 + 4 * k) = 6) (sI (M 1 2)).toNat (by clear h; have h0 := o7.1; have h1 := o7.2; omega)
    obtain ⟨lt10, cd11⟩ := nx_strip (8 + 4 * (sI (M 1 2)).toNat) lt8 cd9
    refine lv_iload_n hx hb dX7_repeatTerm_31 rfl (lv_at hl 1 rfl) ?_
    refine w_callv (va_runV (As := [.int (iI a0)]) (rest := []) ⟨hx, hb, hml, hown, hts⟩ (cC_Strip_repeat l D dA b M (8 + 4 * (sI (M 1 2)).toNat) a0 lt8 cd9 _ h) (cwV 1 hts (z_gV k315 k316 k317 k3 k318) rfl rfl rfl dm_X8_repeat ⟨Nat.le_of_ble_eq_true rfl, Nat.le_of_ble_eq_true rfl⟩) ⟨wPre_blind, (w_recv hS hK.1 lt8 (zkd_of cd9 rfl) (by decide) (rfl : vwCl[8]? = some (RX8, TX8, 2))), w_pre hS hK⟩ rfl rfl hl.1 rfl (lv_room (Nat.le_of_ble_eq_true rfl)) dX7_repeatTerm_32 ⟨Nat.le_refl _, Nat.le_refl _⟩) hS0 (fun M12 H locs h hS hS0 => ?_)
    refine z_iconst hx hb dX7_repeatTerm_35 ?_
    exact w_iret hx hb hr hlocks hS hS0 (sI_of (by decide)) h dX7_repeatTerm_36
  · skip
    have h := h.2 c6
    refine z_bipush hx hb (by decide) dX7_repeatTerm_19 ?_
    exact w_iret hx hb hr hlocks hS hS0 (sI_of (by decide)) h dX7_repeatTerm_21

set_option maxRecDepth 100000 in
def wC_Strip_has (j : Nat) (a0 : Int) (M : zM) (Q : Int → Prop) : Prop := ((sI a0) < 0 → Q 0) ∧ (0 ≤ (sI a0) → ((sI (M j 1)) ≤ (sI a0) → Q 0) ∧ ((sI a0) < (sI (M j 1)) → (24 ≤ (sI a0) → Q 0) ∧ ((sI a0) < 24 → Q 1)))
set_option maxHeartbeats 4000000 in
set_option maxRecDepth 100000 in
theorem cC_Strip_has (l : Launch) (D : va_G) (dA : Nat → ClassId) (b : Nat) (M : zM) (j : Nat) (a0 : Int) (lt_j : j < nC) (cd_j : zcd wC j = 6) (Q : Int → Prop) (h : wC_Strip_has j a0 M Q) : Met l yX8_has (.code yX8_has cX8_has 2 (some .boolean) :: zt) (z_rm 0) (va_Pc [.ref (b + j), .int (iI a0)] (wPre D dA vwCl (z_tys dA) wC nC b M)) (va_Qi (wQz (fun z9 u9 => u9 = M ∧ Q z9)) (zB D dA vwCl wC nC b) (zA nC b)) 0 0 (zA nC b) := by
  unfold wC_Strip_has at h
  refine Met.ofW (cc := cX8_has) (maxL := 2) (ret := (some .boolean)) (by decide) rfl ?_
  intro p e s m args below meth c s₁ B hml hv
  obtain ⟨hargs, hS, hK⟩ := hv
  have hx := B.exec
  have hb := B.bytes
  have hr := B.returns
  have hts := atoms_spec (ws := .code yX8_has cX8_has 2 (some .boolean) :: zt) B.pre
  have hown : s.vm.findClass RX8 = some m.cls := findClass_of_methodNamed B.named
  have hlocks := B.notSynchronized
  have hS0 : va_S (zA nC b) s.heap s.heap [] := va_S.rf
  have hl := lv_entry ([.ref (b + j), .int (iI a0)]) (n := 2) (Nat.le_of_ble_eq_true rfl)
  have hent : entryFrame m args 2 = F0 m 0 ((lg_sl ([.ref (b + j), .int (iI a0)]) ++ List.replicate (2 - (lg_sl ([.ref (b + j), .int (iI a0)])).length) Slot.unset).toArray) [] := by rw [hargs]; exact lg_entry_eq m ([.ref (b + j), .int (iI a0)]) 2
  rw [hent]
  generalize (lg_sl ([.ref (b + j), .int (iI a0)]) ++ List.replicate (2 - (lg_sl ([.ref (b + j), .int (iI a0)])).length) Slot.unset).toArray = ls at hl ⊢
  have hl : lv_has ls 2 [(0, .ref (b + j)), (1, .int (iI a0))] := hl
  obtain ⟨lt1, cd2⟩ := nx_strip j lt_j cd_j
  refine lv_iload_n hx hb dX8_has_0 rfl (lv_at hl 1 rfl) ?_
  refine w_if_lt (tgt := 25) hx hb rfl dX8_has_1 (by decide) (fun c3 => ?_) (fun c3 => ?_)
  · skip
    have h := h.1 c3
    refine z_iconst hx hb dX8_has_25 ?_
    exact w_zret hx hb hr hlocks hS hS0 (sI_of (by decide)) (by decide) ⟨rfl, h⟩ dX8_has_26
  · skip
    have h := h.2 c3
    refine lv_iload_n hx hb dX8_has_4 rfl (lv_at hl 1 rfl) ?_
    refine lv_aload_n hx hb dX8_has_5 rfl (lv_at hl 0 rfl) ?_
    refine w_geti hx hb hts (z_memU u8) hown hK.1 hS f8_1 lt_j (zkd_of cd_j rfl) (Or.inl (hts _ (z_mem k44))) dX8_has_6 ?_
    refine w_icmp_ge (tgt := 25) hx hb rfl rfl dX8_has_9 (by decide) (fun c4 => ?_) (fun c4 => ?_)
    · skip
      have h := h.1 c4
      refine z_iconst hx hb dX8_has_25 ?_
      exact w_zret hx hb hr hlocks hS hS0 (sI_of (by decide)) (by decide) ⟨rfl, h⟩ dX8_has_26
    · skip
      have h := h.2 c4
      refine lv_iload_n hx hb dX8_has_12 rfl (lv_at hl 1 rfl) ?_
      refine lv_aload_n hx hb dX8_has_13 rfl (lv_at hl 0 rfl) ?_
      refine w_getr (j2 := (j + 1)) hx hb hts (z_memU u8) hown hK.1 hS f8_0 lt_j (zkd_of cd_j rfl) (zrf_of cd_j rfl) (Or.inl (hts _ (z_mem k41))) dX8_has_14 ?_
      refine w_alen (n := 24) hx hb hK.1 (t0 := 0) rfl hS lt1 (zkd_of cd2 rfl) (zln_of cd2 rfl) dX8_has_17 ?_
      refine z_top (show (((24 : Nat) : Int)) = 24 from by decide) ?_
      refine w_icmp_ge (tgt := 25) hx hb rfl (sI_of (by decide)) dX8_has_18 (by decide) (fun c5 => ?_) (fun c5 => ?_)
      · skip
        have h := h.1 c5
        refine z_iconst hx hb dX8_has_25 ?_
        exact w_zret hx hb hr hlocks hS hS0 (sI_of (by decide)) (by decide) ⟨rfl, h⟩ dX8_has_26
      · skip
        have h := h.2 c5
        refine z_iconst hx hb dX8_has_21 ?_
        refine lv_goto (tgt := 26) hx hb dX8_has_22 (by decide) ?_
        exact w_zret hx hb hr hlocks hS hS0 (sI_of (by decide)) (by decide) ⟨rfl, h⟩ dX8_has_26
