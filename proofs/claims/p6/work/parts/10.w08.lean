/-! the W layer, 8 -/
theorem dX11_make_0 : decode cX11_make 0 = .ok (.aload_n 0, 1) := by decide +kernel
theorem dX11_make_1 : decode cX11_make 1 = .ok (.getfield 40, 3) := by decide +kernel
theorem dX11_make_11 : decode cX11_make 11 = .ok (.istore_n 1, 1) := by decide +kernel
theorem dX11_make_12 : decode cX11_make 12 = .ok (.iload_n 1, 1) := by decide +kernel
theorem dX11_make_13 : decode cX11_make 13 = .ok (.iconst (-1), 1) := by decide +kernel
theorem dX11_make_14 : decode cX11_make 14 = .ok (.if_icmp .eq 14, 3) := by decide +kernel
theorem dX11_make_17 : decode cX11_make 17 = .ok (.aload_n 0, 1) := by decide +kernel
theorem dX11_make_18 : decode cX11_make 18 = .ok (.getfield 40, 3) := by decide +kernel
theorem dX11_make_21 : decode cX11_make 21 = .ok (.aload_n 0, 1) := by decide +kernel
theorem dX11_make_22 : decode cX11_make 22 = .ok (.getfield 26, 3) := by decide +kernel
theorem dX11_make_25 : decode cX11_make 25 = .ok (.invokevirtual 223, 3) := by decide +kernel
theorem dX11_make_28 : decode cX11_make 28 = .ok (.iload_n 1, 1) := by decide +kernel
theorem dX11_make_29 : decode cX11_make 29 = .ok (.ireturn, 1) := by decide +kernel
theorem dX11_make_4 : decode cX11_make 4 = .ok (.aload_n 0, 1) := by decide +kernel
theorem dX11_make_5 : decode cX11_make 5 = .ok (.getfield 26, 3) := by decide +kernel
theorem dX11_make_8 : decode cX11_make 8 = .ok (.invokevirtual 215, 3) := by decide +kernel
theorem dX11_plan_0 : decode cX11_plan 0 = .ok (.aload_n 0, 1) := by decide +kernel
theorem dX11_plan_1 : decode cX11_plan 1 = .ok (.getfield 40, 3) := by decide +kernel
theorem dX11_plan_11 : decode cX11_plan 11 = .ok (.istore_n 1, 1) := by decide +kernel
theorem dX11_plan_12 : decode cX11_plan 12 = .ok (.iload_n 1, 1) := by decide +kernel
theorem dX11_plan_13 : decode cX11_plan 13 = .ok (.iconst (-1), 1) := by decide +kernel
theorem dX11_plan_14 : decode cX11_plan 14 = .ok (.if_icmp .eq 23, 3) := by decide +kernel
theorem dX11_plan_17 : decode cX11_plan 17 = .ok (.aload_n 0, 1) := by decide +kernel
theorem dX11_plan_18 : decode cX11_plan 18 = .ok (.aload_n 0, 1) := by decide +kernel
theorem dX11_plan_19 : decode cX11_plan 19 = .ok (.getfield 40, 3) := by decide +kernel
theorem dX11_plan_22 : decode cX11_plan 22 = .ok (.getfield 217, 3) := by decide +kernel
theorem dX11_plan_25 : decode cX11_plan 25 = .ok (.iconst 2, 1) := by decide +kernel
theorem dX11_plan_26 : decode cX11_plan 26 = .ok (.aload_n 0, 1) := by decide +kernel
theorem dX11_plan_27 : decode cX11_plan 27 = .ok (.getfield 26, 3) := by decide +kernel
theorem dX11_plan_30 : decode cX11_plan 30 = .ok (.getfield 151, 3) := by decide +kernel
theorem dX11_plan_33 : decode cX11_plan 33 = .ok (.imul, 1) := by decide +kernel
theorem dX11_plan_34 : decode cX11_plan 34 = .ok (.invokevirtual 220, 3) := by decide +kernel
theorem dX11_plan_37 : decode cX11_plan 37 = .ok (.iload_n 1, 1) := by decide +kernel
theorem dX11_plan_38 : decode cX11_plan 38 = .ok (.ireturn, 1) := by decide +kernel
theorem dX11_plan_4 : decode cX11_plan 4 = .ok (.aload_n 0, 1) := by decide +kernel
theorem dX11_plan_5 : decode cX11_plan 5 = .ok (.getfield 26, 3) := by decide +kernel
theorem dX11_plan_8 : decode cX11_plan 8 = .ok (.invokevirtual 215, 3) := by decide +kernel
theorem dX11_tell_0 : decode cX11_tell 0 = .ok (.aload_n 0, 1) := by decide +kernel
theorem dX11_tell_1 : decode cX11_tell 1 = .ok (.iload_n 2, 1) := by decide +kernel
theorem dX11_tell_12 : decode cX11_tell 12 = .ok (.invokestatic 288, 3) := by decide +kernel
theorem dX11_tell_15 : decode cX11_tell 15 = .ok (.putfield 76, 3) := by decide +kernel
theorem dX11_tell_18 : decode cX11_tell 18 = .ok (.aload_n 1, 1) := by decide +kernel
theorem dX11_tell_19 : decode cX11_tell 19 = .ok (.iconst 0, 1) := by decide +kernel
theorem dX11_tell_2 : decode cX11_tell 2 = .ok (.aload_n 1, 1) := by decide +kernel
theorem dX11_tell_20 : decode cX11_tell 20 = .ok (.aload_n 0, 1) := by decide +kernel
theorem dX11_tell_21 : decode cX11_tell 21 = .ok (.getfield 72, 3) := by decide +kernel
theorem dX11_tell_24 : decode cX11_tell 24 = .ok (.iconst 0, 1) := by decide +kernel
theorem dX11_tell_25 : decode cX11_tell 25 = .ok (.aload_n 0, 1) := by decide +kernel
theorem dX11_tell_26 : decode cX11_tell 26 = .ok (.getfield 76, 3) := by decide +kernel
theorem dX11_tell_29 : decode cX11_tell 29 = .ok (.invokestatic 293, 3) := by decide +kernel
theorem dX11_tell_3 : decode cX11_tell 3 = .ok (.arraylength, 1) := by decide +kernel
theorem dX11_tell_32 : decode cX11_tell 32 = .ok (.return_, 1) := by decide +kernel
theorem dX11_tell_4 : decode cX11_tell 4 = .ok (.aload_n 0, 1) := by decide +kernel
theorem dX11_tell_5 : decode cX11_tell 5 = .ok (.getfield 72, 3) := by decide +kernel
theorem dX11_tell_8 : decode cX11_tell 8 = .ok (.arraylength, 1) := by decide +kernel
theorem dX11_tell_9 : decode cX11_tell 9 = .ok (.invokestatic 288, 3) := by decide +kernel
theorem dX5_carryOut_0 : decode cX5_carryOut 0 = .ok (.iconst 0, 1) := by decide +kernel
theorem dX5_carryOut_1 : decode cX5_carryOut 1 = .ok (.istore_n 2, 1) := by decide +kernel
theorem dX5_carryOut_12 : decode cX5_carryOut 12 = .ok (.astore_n 3, 1) := by decide +kernel
theorem dX5_carryOut_13 : decode cX5_carryOut 13 = .ok (.aload_n 3, 1) := by decide +kernel
theorem dX5_carryOut_14 : decode cX5_carryOut 14 = .ok (.ifnull 29, 3) := by decide +kernel
theorem dX5_carryOut_17 : decode cX5_carryOut 17 = .ok (.aload_n 3, 1) := by decide +kernel
theorem dX5_carryOut_18 : decode cX5_carryOut 18 = .ok (.aload_n 0, 1) := by decide +kernel
theorem dX5_carryOut_19 : decode cX5_carryOut 19 = .ok (.getfield 22, 3) := by decide +kernel
theorem dX5_carryOut_2 : decode cX5_carryOut 2 = .ok (.iload_n 2, 1) := by decide +kernel
theorem dX5_carryOut_22 : decode cX5_carryOut 22 = .ok (.iconst 2, 1) := by decide +kernel
theorem dX5_carryOut_23 : decode cX5_carryOut 23 = .ok (.iload_n 2, 1) := by decide +kernel
theorem dX5_carryOut_24 : decode cX5_carryOut 24 = .ok (.imul, 1) := by decide +kernel
theorem dX5_carryOut_25 : decode cX5_carryOut 25 = .ok (.iaload, 1) := by decide +kernel
theorem dX5_carryOut_26 : decode cX5_carryOut 26 = .ok (.invokevirtual 125, 3) := by decide +kernel
theorem dX5_carryOut_29 : decode cX5_carryOut 29 = .ok (.aload_n 3, 1) := by decide +kernel
theorem dX5_carryOut_3 : decode cX5_carryOut 3 = .ok (.iconst 4, 1) := by decide +kernel
theorem dX5_carryOut_30 : decode cX5_carryOut 30 = .ok (.aload_n 0, 1) := by decide +kernel
theorem dX5_carryOut_31 : decode cX5_carryOut 31 = .ok (.getfield 22, 3) := by decide +kernel
theorem dX5_carryOut_34 : decode cX5_carryOut 34 = .ok (.iconst 2, 1) := by decide +kernel
theorem dX5_carryOut_35 : decode cX5_carryOut 35 = .ok (.iload_n 2, 1) := by decide +kernel
theorem dX5_carryOut_36 : decode cX5_carryOut 36 = .ok (.imul, 1) := by decide +kernel
theorem dX5_carryOut_37 : decode cX5_carryOut 37 = .ok (.iconst 1, 1) := by decide +kernel
theorem dX5_carryOut_38 : decode cX5_carryOut 38 = .ok (.iadd, 1) := by decide +kernel
theorem dX5_carryOut_39 : decode cX5_carryOut 39 = .ok (.iaload, 1) := by decide +kernel
theorem dX5_carryOut_4 : decode cX5_carryOut 4 = .ok (.if_icmp .ge 45, 3) := by decide +kernel
theorem dX5_carryOut_40 : decode cX5_carryOut 40 = .ok (.putfield 118, 3) := by decide +kernel
theorem dX5_carryOut_43 : decode cX5_carryOut 43 = .ok (.iinc 2 1, 3) := by decide +kernel
theorem dX5_carryOut_46 : decode cX5_carryOut 46 = .ok (.goto (-44), 3) := by decide +kernel
theorem dX5_carryOut_49 : decode cX5_carryOut 49 = .ok (.return_, 1) := by decide +kernel
theorem dX5_carryOut_7 : decode cX5_carryOut 7 = .ok (.aload_n 1, 1) := by decide +kernel
theorem dX5_carryOut_8 : decode cX5_carryOut 8 = .ok (.iload_n 2, 1) := by decide +kernel
theorem dX5_carryOut_9 : decode cX5_carryOut 9 = .ok (.invokevirtual 56, 3) := by decide +kernel
theorem dX5_choose_0 : decode cX5_choose 0 = .ok (.aload_n 1, 1) := by decide +kernel
theorem dX5_choose_1 : decode cX5_choose 1 = .ok (.ifnonnull 5, 3) := by decide +kernel
theorem dX5_choose_10 : decode cX5_choose 10 = .ok (.istore 5, 2) := by decide +kernel
theorem dX5_choose_100 : decode cX5_choose 100 = .ok (.getfield 22, 3) := by decide +kernel
theorem dX5_choose_103 : decode cX5_choose 103 = .ok (.iconst 2, 1) := by decide +kernel
theorem dX5_choose_104 : decode cX5_choose 104 = .ok (.iload_n 2, 1) := by decide +kernel
theorem dX5_choose_105 : decode cX5_choose 105 = .ok (.imul, 1) := by decide +kernel
theorem dX5_choose_106 : decode cX5_choose 106 = .ok (.iload 5, 2) := by decide +kernel
theorem dX5_choose_108 : decode cX5_choose 108 = .ok (.iastore, 1) := by decide +kernel
theorem dX5_choose_109 : decode cX5_choose 109 = .ok (.aload_n 0, 1) := by decide +kernel
theorem dX5_choose_110 : decode cX5_choose 110 = .ok (.getfield 22, 3) := by decide +kernel
theorem dX5_choose_113 : decode cX5_choose 113 = .ok (.iconst 2, 1) := by decide +kernel
theorem dX5_choose_114 : decode cX5_choose 114 = .ok (.iload_n 2, 1) := by decide +kernel
theorem dX5_choose_115 : decode cX5_choose 115 = .ok (.imul, 1) := by decide +kernel
theorem dX5_choose_116 : decode cX5_choose 116 = .ok (.iconst 1, 1) := by decide +kernel
theorem dX5_choose_117 : decode cX5_choose 117 = .ok (.iadd, 1) := by decide +kernel
theorem dX5_choose_118 : decode cX5_choose 118 = .ok (.iload 6, 2) := by decide +kernel
theorem dX5_choose_12 : decode cX5_choose 12 = .ok (.iload 5, 2) := by decide +kernel
theorem dX5_choose_120 : decode cX5_choose 120 = .ok (.iastore, 1) := by decide +kernel
theorem dX5_choose_121 : decode cX5_choose 121 = .ok (.iload 7, 2) := by decide +kernel
theorem dX5_choose_123 : decode cX5_choose 123 = .ok (.ireturn, 1) := by decide +kernel
theorem dX5_choose_124 : decode cX5_choose 124 = .ok (.iinc 6 1, 3) := by decide +kernel
theorem dX5_choose_127 : decode cX5_choose 127 = .ok (.goto (-100), 3) := by decide +kernel
theorem dX5_choose_130 : decode cX5_choose 130 = .ok (.iinc 5 1, 3) := by decide +kernel
theorem dX5_choose_133 : decode cX5_choose 133 = .ok (.goto (-121), 3) := by decide +kernel
theorem dX5_choose_136 : decode cX5_choose 136 = .ok (.iload_n 3, 1) := by decide +kernel
theorem dX5_choose_137 : decode cX5_choose 137 = .ok (.ireturn, 1) := by decide +kernel
theorem dX5_choose_14 : decode cX5_choose 14 = .ok (.aload_n 1, 1) := by decide +kernel
theorem dX5_choose_15 : decode cX5_choose 15 = .ok (.getfield 85, 3) := by decide +kernel
theorem dX5_choose_18 : decode cX5_choose 18 = .ok (.getfield 89, 3) := by decide +kernel
theorem dX5_choose_21 : decode cX5_choose 21 = .ok (.if_icmp .ge 115, 3) := by decide +kernel
theorem dX5_choose_24 : decode cX5_choose 24 = .ok (.iconst 0, 1) := by decide +kernel
theorem dX5_choose_25 : decode cX5_choose 25 = .ok (.istore 6, 2) := by decide +kernel
theorem dX5_choose_27 : decode cX5_choose 27 = .ok (.iload 6, 2) := by decide +kernel
theorem dX5_choose_29 : decode cX5_choose 29 = .ok (.aload_n 1, 1) := by decide +kernel
theorem dX5_choose_30 : decode cX5_choose 30 = .ok (.getfield 85, 3) := by decide +kernel
theorem dX5_choose_33 : decode cX5_choose 33 = .ok (.getfield 89, 3) := by decide +kernel
theorem dX5_choose_36 : decode cX5_choose 36 = .ok (.iload 5, 2) := by decide +kernel
theorem dX5_choose_38 : decode cX5_choose 38 = .ok (.isub, 1) := by decide +kernel
theorem dX5_choose_39 : decode cX5_choose 39 = .ok (.if_icmp .ge 91, 3) := by decide +kernel
theorem dX5_choose_4 : decode cX5_choose 4 = .ok (.iload_n 3, 1) := by decide +kernel
theorem dX5_choose_42 : decode cX5_choose 42 = .ok (.iload 4, 2) := by decide +kernel
theorem dX5_choose_44 : decode cX5_choose 44 = .ok (.sipush 300, 3) := by decide +kernel
theorem dX5_choose_47 : decode cX5_choose 47 = .ok (.if_icmp .ge 83, 3) := by decide +kernel
theorem dX5_choose_5 : decode cX5_choose 5 = .ok (.ireturn, 1) := by decide +kernel
theorem dX5_choose_50 : decode cX5_choose 50 = .ok (.iload_n 3, 1) := by decide +kernel
theorem dX5_choose_51 : decode cX5_choose 51 = .ok (.aload_n 0, 1) := by decide +kernel
theorem dX5_choose_52 : decode cX5_choose 52 = .ok (.getfield 27, 3) := by decide +kernel
theorem dX5_choose_55 : decode cX5_choose 55 = .ok (.iload_n 2, 1) := by decide +kernel
theorem dX5_choose_56 : decode cX5_choose 56 = .ok (.aaload, 1) := by decide +kernel
theorem dX5_choose_57 : decode cX5_choose 57 = .ok (.iload 4, 2) := by decide +kernel
theorem dX5_choose_59 : decode cX5_choose 59 = .ok (.iaload, 1) := by decide +kernel
theorem dX5_choose_6 : decode cX5_choose 6 = .ok (.iconst 0, 1) := by decide +kernel
theorem dX5_choose_60 : decode cX5_choose 60 = .ok (.iconst (-1), 1) := by decide +kernel
theorem dX5_choose_61 : decode cX5_choose 61 = .ok (.ixor, 1) := by decide +kernel
theorem dX5_choose_62 : decode cX5_choose 62 = .ok (.iand, 1) := by decide +kernel
theorem dX5_choose_63 : decode cX5_choose 63 = .ok (.istore 7, 2) := by decide +kernel
theorem dX5_choose_65 : decode cX5_choose 65 = .ok (.iinc 4 1, 3) := by decide +kernel
theorem dX5_choose_68 : decode cX5_choose 68 = .ok (.aload_n 1, 1) := by decide +kernel
theorem dX5_choose_69 : decode cX5_choose 69 = .ok (.iload 5, 2) := by decide +kernel
theorem dX5_choose_7 : decode cX5_choose 7 = .ok (.istore 4, 2) := by decide +kernel
theorem dX5_choose_71 : decode cX5_choose 71 = .ok (.iload 6, 2) := by decide +kernel
theorem dX5_choose_73 : decode cX5_choose 73 = .ok (.invokestatic 110, 3) := by decide +kernel
theorem dX5_choose_76 : decode cX5_choose 76 = .ok (.aload_n 0, 1) := by decide +kernel
theorem dX5_choose_77 : decode cX5_choose 77 = .ok (.getfield 30, 3) := by decide +kernel
theorem dX5_choose_80 : decode cX5_choose 80 = .ok (.iload_n 2, 1) := by decide +kernel
theorem dX5_choose_81 : decode cX5_choose 81 = .ok (.iconst 1, 1) := by decide +kernel
theorem dX5_choose_82 : decode cX5_choose 82 = .ok (.iadd, 1) := by decide +kernel
theorem dX5_choose_83 : decode cX5_choose 83 = .ok (.aaload, 1) := by decide +kernel
theorem dX5_choose_84 : decode cX5_choose 84 = .ok (.iload 7, 2) := by decide +kernel
theorem dX5_choose_86 : decode cX5_choose 86 = .ok (.iaload, 1) := by decide +kernel
theorem dX5_choose_87 : decode cX5_choose 87 = .ok (.iadd, 1) := by decide +kernel
theorem dX5_choose_88 : decode cX5_choose 88 = .ok (.aload_n 0, 1) := by decide +kernel
theorem dX5_choose_89 : decode cX5_choose 89 = .ok (.getfield 30, 3) := by decide +kernel
theorem dX5_choose_9 : decode cX5_choose 9 = .ok (.iconst 0, 1) := by decide +kernel
theorem dX5_choose_92 : decode cX5_choose 92 = .ok (.iload_n 2, 1) := by decide +kernel
theorem dX5_choose_93 : decode cX5_choose 93 = .ok (.aaload, 1) := by decide +kernel
theorem dX5_choose_94 : decode cX5_choose 94 = .ok (.iload_n 3, 1) := by decide +kernel
theorem dX5_choose_95 : decode cX5_choose 95 = .ok (.iaload, 1) := by decide +kernel
theorem dX5_choose_96 : decode cX5_choose 96 = .ok (.if_icmp .ne 28, 3) := by decide +kernel
theorem dX5_choose_99 : decode cX5_choose 99 = .ok (.aload_n 0, 1) := by decide +kernel
theorem dX5_find_0 : decode cX5_find 0 = .ok (.aload_n 1, 1) := by decide +kernel
theorem dX5_find_1 : decode cX5_find 1 = .ok (.getfield 48, 3) := by decide +kernel
theorem dX5_find_10 : decode cX5_find 10 = .ok (.aaload, 1) := by decide +kernel
theorem dX5_find_102 : decode cX5_find 102 = .ok (.iconst 1, 1) := by decide +kernel
theorem dX5_find_103 : decode cX5_find 103 = .ok (.aload_n 0, 1) := by decide +kernel
theorem dX5_find_104 : decode cX5_find 104 = .ok (.getfield 18, 3) := by decide +kernel
theorem dX5_find_107 : decode cX5_find 107 = .ok (.ishl, 1) := by decide +kernel
theorem dX5_find_108 : decode cX5_find 108 = .ok (.iconst 1, 1) := by decide +kernel
theorem dX5_find_109 : decode cX5_find 109 = .ok (.isub, 1) := by decide +kernel
theorem dX5_find_11 : decode cX5_find 11 = .ok (.ldc 49, 2) := by decide +kernel
theorem dX5_find_110 : decode cX5_find 110 = .ok (.istore_n 3, 1) := by decide +kernel
theorem dX5_find_111 : decode cX5_find 111 = .ok (.aload_n 0, 1) := by decide +kernel
theorem dX5_find_112 : decode cX5_find 112 = .ok (.getfield 30, 3) := by decide +kernel
theorem dX5_find_115 : decode cX5_find 115 = .ok (.iconst 0, 1) := by decide +kernel
theorem dX5_find_116 : decode cX5_find 116 = .ok (.aaload, 1) := by decide +kernel
theorem dX5_find_117 : decode cX5_find 117 = .ok (.iload_n 3, 1) := by decide +kernel
theorem dX5_find_118 : decode cX5_find 118 = .ok (.iaload, 1) := by decide +kernel
theorem dX5_find_119 : decode cX5_find 119 = .ok (.istore 4, 2) := by decide +kernel
theorem dX5_find_121 : decode cX5_find 121 = .ok (.iload 4, 2) := by decide +kernel
theorem dX5_find_123 : decode cX5_find 123 = .ok (.ldc 49, 2) := by decide +kernel
theorem dX5_find_125 : decode cX5_find 125 = .ok (.if_icmp .lt 5, 3) := by decide +kernel
theorem dX5_find_128 : decode cX5_find 128 = .ok (.iconst (-1), 1) := by decide +kernel
theorem dX5_find_129 : decode cX5_find 129 = .ok (.ireturn, 1) := by decide +kernel
theorem dX5_find_13 : decode cX5_find 13 = .ok (.invokestatic 50, 3) := by decide +kernel
theorem dX5_find_130 : decode cX5_find 130 = .ok (.iconst 0, 1) := by decide +kernel
theorem dX5_find_131 : decode cX5_find 131 = .ok (.istore 5, 2) := by decide +kernel
theorem dX5_find_133 : decode cX5_find 133 = .ok (.iload 5, 2) := by decide +kernel
theorem dX5_find_135 : decode cX5_find 135 = .ok (.iload_n 2, 1) := by decide +kernel
theorem dX5_find_136 : decode cX5_find 136 = .ok (.if_icmp .ge 23, 3) := by decide +kernel
theorem dX5_find_139 : decode cX5_find 139 = .ok (.aload_n 0, 1) := by decide +kernel
theorem dX5_find_140 : decode cX5_find 140 = .ok (.aload_n 1, 1) := by decide +kernel
theorem dX5_find_141 : decode cX5_find 141 = .ok (.iload 5, 2) := by decide +kernel
theorem dX5_find_143 : decode cX5_find 143 = .ok (.invokevirtual 56, 3) := by decide +kernel
theorem dX5_find_146 : decode cX5_find 146 = .ok (.iload 5, 2) := by decide +kernel
theorem dX5_find_148 : decode cX5_find 148 = .ok (.iload_n 3, 1) := by decide +kernel
theorem dX5_find_149 : decode cX5_find 149 = .ok (.invokevirtual 81, 3) := by decide +kernel
theorem dX5_find_152 : decode cX5_find 152 = .ok (.istore_n 3, 1) := by decide +kernel
theorem dX5_find_153 : decode cX5_find 153 = .ok (.iinc 5 1, 3) := by decide +kernel
theorem dX5_find_156 : decode cX5_find 156 = .ok (.goto (-23), 3) := by decide +kernel
theorem dX5_find_159 : decode cX5_find 159 = .ok (.iload 4, 2) := by decide +kernel
theorem dX5_find_16 : decode cX5_find 16 = .ok (.aload_n 0, 1) := by decide +kernel
theorem dX5_find_161 : decode cX5_find 161 = .ok (.ireturn, 1) := by decide +kernel
theorem dX5_find_17 : decode cX5_find 17 = .ok (.getfield 30, 3) := by decide +kernel
theorem dX5_find_20 : decode cX5_find 20 = .ok (.iload_n 2, 1) := by decide +kernel
theorem dX5_find_21 : decode cX5_find 21 = .ok (.aaload, 1) := by decide +kernel
theorem dX5_find_22 : decode cX5_find 22 = .ok (.iconst 0, 1) := by decide +kernel
theorem dX5_find_23 : decode cX5_find 23 = .ok (.iconst 0, 1) := by decide +kernel
theorem dX5_find_24 : decode cX5_find 24 = .ok (.iastore, 1) := by decide +kernel
theorem dX5_find_25 : decode cX5_find 25 = .ok (.iload_n 2, 1) := by decide +kernel
theorem dX5_find_26 : decode cX5_find 26 = .ok (.iconst 1, 1) := by decide +kernel
theorem dX5_find_27 : decode cX5_find 27 = .ok (.isub, 1) := by decide +kernel
theorem dX5_find_28 : decode cX5_find 28 = .ok (.istore_n 3, 1) := by decide +kernel
theorem dX5_find_29 : decode cX5_find 29 = .ok (.iload_n 3, 1) := by decide +kernel
theorem dX5_find_30 : decode cX5_find 30 = .ok (.ifCond .lt 72, 3) := by decide +kernel
theorem dX5_find_33 : decode cX5_find 33 = .ok (.aload_n 1, 1) := by decide +kernel
theorem dX5_find_34 : decode cX5_find 34 = .ok (.iload_n 3, 1) := by decide +kernel
theorem dX5_find_35 : decode cX5_find 35 = .ok (.invokevirtual 56, 3) := by decide +kernel
theorem dX5_find_38 : decode cX5_find 38 = .ok (.astore 4, 2) := by decide +kernel
theorem dX5_find_4 : decode cX5_find 4 = .ok (.istore_n 2, 1) := by decide +kernel
theorem dX5_find_40 : decode cX5_find 40 = .ok (.aload 4, 2) := by decide +kernel
theorem dX5_find_42 : decode cX5_find 42 = .ok (.ifnull 54, 3) := by decide +kernel
theorem dX5_find_45 : decode cX5_find 45 = .ok (.aload_n 0, 1) := by decide +kernel
theorem dX5_find_46 : decode cX5_find 46 = .ok (.aload 4, 2) := by decide +kernel
theorem dX5_find_48 : decode cX5_find 48 = .ok (.aload_n 1, 1) := by decide +kernel
theorem dX5_find_49 : decode cX5_find 49 = .ok (.aload 4, 2) := by decide +kernel
theorem dX5_find_5 : decode cX5_find 5 = .ok (.aload_n 0, 1) := by decide +kernel
theorem dX5_find_51 : decode cX5_find 51 = .ok (.getfield 60, 3) := by decide +kernel
theorem dX5_find_54 : decode cX5_find 54 = .ok (.invokevirtual 65, 3) := by decide +kernel
theorem dX5_find_57 : decode cX5_find 57 = .ok (.aload_n 0, 1) := by decide +kernel
theorem dX5_find_58 : decode cX5_find 58 = .ok (.getfield 27, 3) := by decide +kernel
theorem dX5_find_6 : decode cX5_find 6 = .ok (.getfield 30, 3) := by decide +kernel
theorem dX5_find_61 : decode cX5_find 61 = .ok (.iload_n 3, 1) := by decide +kernel
theorem dX5_find_62 : decode cX5_find 62 = .ok (.aaload, 1) := by decide +kernel
theorem dX5_find_63 : decode cX5_find 63 = .ok (.invokevirtual 69, 3) := by decide +kernel
theorem dX5_find_66 : decode cX5_find 66 = .ok (.aload_n 0, 1) := by decide +kernel
theorem dX5_find_67 : decode cX5_find 67 = .ok (.aload 4, 2) := by decide +kernel
theorem dX5_find_69 : decode cX5_find 69 = .ok (.aload_n 0, 1) := by decide +kernel
theorem dX5_find_70 : decode cX5_find 70 = .ok (.getfield 27, 3) := by decide +kernel
theorem dX5_find_73 : decode cX5_find 73 = .ok (.iload_n 3, 1) := by decide +kernel
theorem dX5_find_74 : decode cX5_find 74 = .ok (.aaload, 1) := by decide +kernel
theorem dX5_find_75 : decode cX5_find 75 = .ok (.invokevirtual 73, 3) := by decide +kernel
theorem dX5_find_78 : decode cX5_find 78 = .ok (.aload_n 0, 1) := by decide +kernel
theorem dX5_find_79 : decode cX5_find 79 = .ok (.aload_n 0, 1) := by decide +kernel
theorem dX5_find_80 : decode cX5_find 80 = .ok (.getfield 30, 3) := by decide +kernel
theorem dX5_find_83 : decode cX5_find 83 = .ok (.iload_n 3, 1) := by decide +kernel
theorem dX5_find_84 : decode cX5_find 84 = .ok (.iconst 1, 1) := by decide +kernel
theorem dX5_find_85 : decode cX5_find 85 = .ok (.iadd, 1) := by decide +kernel
theorem dX5_find_86 : decode cX5_find 86 = .ok (.aaload, 1) := by decide +kernel
theorem dX5_find_87 : decode cX5_find 87 = .ok (.aload_n 0, 1) := by decide +kernel
theorem dX5_find_88 : decode cX5_find 88 = .ok (.getfield 30, 3) := by decide +kernel
theorem dX5_find_9 : decode cX5_find 9 = .ok (.iload_n 2, 1) := by decide +kernel
theorem dX5_find_91 : decode cX5_find 91 = .ok (.iload_n 3, 1) := by decide +kernel
theorem dX5_find_92 : decode cX5_find 92 = .ok (.aaload, 1) := by decide +kernel
theorem dX5_find_93 : decode cX5_find 93 = .ok (.invokevirtual 77, 3) := by decide +kernel
theorem dX5_find_96 : decode cX5_find 96 = .ok (.iinc 3 (-1), 3) := by decide +kernel
theorem dX5_find_99 : decode cX5_find 99 = .ok (.goto (-70), 3) := by decide +kernel
theorem dX6_cutBy_0 : decode cX6_cutBy 0 = .ok (.aload_n 0, 1) := by decide +kernel
theorem dX6_cutBy_1 : decode cX6_cutBy 1 = .ok (.getfield 12, 3) := by decide +kernel
theorem dX6_cutBy_10 : decode cX6_cutBy 10 = .ok (.putfield 42, 3) := by decide +kernel
theorem dX6_cutBy_13 : decode cX6_cutBy 13 = .ok (.aload_n 0, 1) := by decide +kernel
theorem dX6_cutBy_14 : decode cX6_cutBy 14 = .ok (.aload_n 0, 1) := by decide +kernel
theorem dX6_cutBy_15 : decode cX6_cutBy 15 = .ok (.getfield 22, 3) := by decide +kernel
theorem dX6_cutBy_18 : decode cX6_cutBy 18 = .ok (.i2l, 1) := by decide +kernel
theorem dX6_cutBy_19 : decode cX6_cutBy 19 = .ok (.aload_n 0, 1) := by decide +kernel
theorem dX6_cutBy_20 : decode cX6_cutBy 20 = .ok (.getfield 12, 3) := by decide +kernel
theorem dX6_cutBy_23 : decode cX6_cutBy 23 = .ok (.getfield 42, 3) := by decide +kernel
theorem dX6_cutBy_26 : decode cX6_cutBy 26 = .ok (.invokestatic 56, 3) := by decide +kernel
theorem dX6_cutBy_29 : decode cX6_cutBy 29 = .ok (.putfield 22, 3) := by decide +kernel
theorem dX6_cutBy_32 : decode cX6_cutBy 32 = .ok (.aload_n 0, 1) := by decide +kernel
theorem dX6_cutBy_33 : decode cX6_cutBy 33 = .ok (.invokevirtual 39, 3) := by decide +kernel
theorem dX6_cutBy_36 : decode cX6_cutBy 36 = .ok (.return_, 1) := by decide +kernel
theorem dX6_cutBy_4 : decode cX6_cutBy 4 = .ok (.dup, 1) := by decide +kernel
theorem dX6_cutBy_5 : decode cX6_cutBy 5 = .ok (.getfield 42, 3) := by decide +kernel
theorem dX6_cutBy_8 : decode cX6_cutBy 8 = .ok (.iload_n 1, 1) := by decide +kernel
theorem dX6_cutBy_9 : decode cX6_cutBy 9 = .ok (.isub, 1) := by decide +kernel
theorem dm_X5_choose : yX5_choose.cls = RX5 ∧ yX5_choose.cls ≠ "java/lang/invoke/MethodHandle" ∧ yX5_choose.cls ≠ "java/lang/invoke/VarHandle" ∧ (parseMethodDescriptor yX5_choose.desc).map (fun d => d.parameters.length) = some 3 := by decide +kernel
theorem dm_X5_listTrue : yX5_listTrue.cls = RX5 ∧ yX5_listTrue.cls ≠ "java/lang/invoke/MethodHandle" ∧ yX5_listTrue.cls ≠ "java/lang/invoke/VarHandle" ∧ (parseMethodDescriptor yX5_listTrue.desc).map (fun d => d.parameters.length) = some 3 := by decide +kernel
theorem dm_X5_listCheapest : yX5_listCheapest.cls = RX5 ∧ yX5_listCheapest.cls ≠ "java/lang/invoke/MethodHandle" ∧ yX5_listCheapest.cls ≠ "java/lang/invoke/VarHandle" ∧ (parseMethodDescriptor yX5_listCheapest.desc).map (fun d => d.parameters.length) = some 2 := by decide +kernel
theorem dm_X5_addCosts : yX5_addCosts.cls = RX5 ∧ yX5_addCosts.cls ≠ "java/lang/invoke/MethodHandle" ∧ yX5_addCosts.cls ≠ "java/lang/invoke/VarHandle" ∧ (parseMethodDescriptor yX5_addCosts.desc).map (fun d => d.parameters.length) = some 2 := by decide +kernel
theorem dm_X5_find : yX5_find.cls = RX5 ∧ yX5_find.cls ≠ "java/lang/invoke/MethodHandle" ∧ yX5_find.cls ≠ "java/lang/invoke/VarHandle" ∧ (parseMethodDescriptor yX5_find.desc).map (fun d => d.parameters.length) = some 1 := by decide +kernel
theorem dm_X11_tell : yX11_tell.cls = RX11 ∧ yX11_tell.cls ≠ "java/lang/invoke/MethodHandle" ∧ yX11_tell.cls ≠ "java/lang/invoke/VarHandle" ∧ (parseMethodDescriptor yX11_tell.desc).map (fun d => d.parameters.length) = some 2 := by decide +kernel
theorem dm_X6_cutBy : yX6_cutBy.cls = RX6 ∧ yX6_cutBy.cls ≠ "java/lang/invoke/MethodHandle" ∧ yX6_cutBy.cls ≠ "java/lang/invoke/VarHandle" ∧ (parseMethodDescriptor yX6_cutBy.desc).map (fun d => d.parameters.length) = some 1 := by decide +kernel
theorem dm_X5_carryOut : yX5_carryOut.cls = RX5 ∧ yX5_carryOut.cls ≠ "java/lang/invoke/MethodHandle" ∧ yX5_carryOut.cls ≠ "java/lang/invoke/VarHandle" ∧ (parseMethodDescriptor yX5_carryOut.desc).map (fun d => d.parameters.length) = some 1 := by decide +kernel
set_option maxRecDepth 100000 in
def wC_Planner_choose (a0 : Option Nat) (a1 : Int) (a2 : Int) (M : zM) (Q : Int → zM → Prop) : Prop := (a0 = none → Q (sI a2) M) ∧ (∀ q1, a0 = some q1 → pL2 (fun K12 x10 x11 => ((sI (M (q1 + 1) 1)) ≤ (sI x11) → Q (sI a2) M) ∧ ((sI x11) < (sI (M (q1 + 1) 1)) → pL2 (fun K27 x20 x21 => ((sI ((M (q1 + 1) 1) - x11)) ≤ (sI x21) → K12 x20 (x11 + 1)) ∧ ((sI x21) < (sI ((M (q1 + 1) 1) - x11)) → (300 ≤ (sI x20) → K12 x20 (x11 + 1)) ∧ ((sI x20) < 300 → ((0 ≤ (sI a1) ∧ (sI a1) < 4) ∧ ((0 ≤ (sI x20) ∧ (sI x20) < 300) ∧ (∀ t39 : Int, t39 = (andI a2 (xorI (M (65 + 1 * (sI a1).toNat) (sI x20).toNat) (-1))) → wC_Planner_cost q1 x11 x21 M (fun z42 => ((0 ≤ (sI (a1 + 1)) ∧ (sI (a1 + 1)) < 5) ∧ ((0 ≤ t39 ∧ t39 < 64) ∧ ((0 ≤ (sI a1) ∧ (sI a1) < 5) ∧ ((0 ≤ (sI a2) ∧ (sI a2) < 64) ∧ ((sI (z42 + (M (70 + 1 * (sI (a1 + 1)).toNat) t39.toNat))) ≠ (sI (M (70 + 1 * (sI a1).toNat) (sI a2).toNat)) → K27 (x20 + 1) (x21 + 1)) ∧ ((sI (z42 + (M (70 + 1 * (sI (a1 + 1)).toNat) t39.toNat))) = (sI (M (70 + 1 * (sI a1).toNat) (sI a2).toNat)) → ((0 ≤ (sI (2 * a1)) ∧ (sI (2 * a1)) < 8) ∧ (∀ M57 : zM, M57 = zup M 63 (sI (2 * a1)).toNat x11 → ((0 ≤ (sI ((2 * a1) + 1)) ∧ (sI ((2 * a1) + 1)) < 8) ∧ (∀ M60 : zM, M60 = zup M57 63 (sI ((2 * a1) + 1)).toNat x21 → Q t39 M60)))))))))))))))) x10 0)) 0 0)
set_option maxHeartbeats 4000000 in
set_option maxRecDepth 100000 in
theorem cC_Planner_choose (l : Launch) (D : va_G) (dA : Nat → ClassId) (b : Nat) (M : zM) (a0 : Option Nat) (a1 : Int) (a2 : Int) (cd_a0 : ∀ q, a0 = some q → q < nC ∧ zcd wC q = 14) (Q : Int → zM → Prop) (h : wC_Planner_choose a0 a1 a2 M Q) : Met l yX5_choose (.code yX5_choose cX5_choose 8 (some .int) :: zt) (z_rm 2) (va_Pc [.ref (b + 60), va_rf (a0.map (b + ·)), .int (iI a1), .int (iI a2)] (wPre D dA vwCl (z_tys dA) wC nC b M)) (va_Qi (wQi Q) (zB D dA vwCl wC nC b) (zA nC b)) 0 0 (zA nC b) := by
  unfold wC_Planner_choose at h
  rcases a0 with _ | q1
  · skip
    refine Met.ofW (cc := cX5_choose) (maxL := 8) (ret := (some .int)) (by decide) rfl ?_
    intro p e s m args below meth c s₁ B hml hv
    obtain ⟨hargs, hS, hK⟩ := hv
    have hx := B.exec
    have hb := B.bytes
    have hr := B.returns
    have hts := atoms_spec (ws := .code yX5_choose cX5_choose 8 (some .int) :: zt) B.pre
    have hown : s.vm.findClass RX5 = some m.cls := findClass_of_methodNamed B.named
    have hlocks := B.notSynchronized
    have hS0 : va_S (zA nC b) s.heap s.heap [] := va_S.rf
    have hl := lv_entry ([.ref (b + 60), .null, .int (iI a1), .int (iI a2)]) (n := 8) (Nat.le_of_ble_eq_true rfl)
    have hent : entryFrame m args 8 = F0 m 0 ((lg_sl ([.ref (b + 60), .null, .int (iI a1), .int (iI a2)]) ++ List.replicate (8 - (lg_sl ([.ref (b + 60), .null, .int (iI a1), .int (iI a2)])).length) Slot.unset).toArray) [] := by rw [hargs]; exact lg_entry_eq m ([.ref (b + 60), .null, .int (iI a1), .int (iI a2)]) 8
    rw [hent]
    generalize (lg_sl ([.ref (b + 60), .null, .int (iI a1), .int (iI a2)]) ++ List.replicate (8 - (lg_sl ([.ref (b + 60), .null, .int (iI a1), .int (iI a2)])).length) Slot.unset).toArray = ls at hl ⊢
    have hl : lv_has ls 8 [(0, .ref (b + 60)), (1, .null), (2, .int (iI a1)), (3, .int (iI a2))] := hl
    have h := h.1 rfl
    refine lv_aload_nN hx hb dX5_choose_0 rfl (lv_at hl 1 rfl) ?_
    refine lv_ifnonnullN hx hb dX5_choose_1 ?_
    refine lv_iload_n hx hb dX5_choose_4 rfl (lv_at hl 3 rfl) ?_
    exact w_iret hx hb hr hlocks hS hS0 rfl h dX5_choose_5
  · skip
    refine Met.ofW (cc := cX5_choose) (maxL := 8) (ret := (some .int)) (by decide) rfl ?_
    intro p e s m args below meth c s₁ B hml hv
    obtain ⟨hargs, hS, hK⟩ := hv
    have hx := B.exec
    have hb := B.bytes
    have hr := B.returns
    have hts := atoms_spec (ws := .code yX5_choose cX5_choose 8 (some .int) :: zt) B.pre
    have hown : s.vm.findClass RX5 = some m.cls := findClass_of_methodNamed B.named
    have hlocks := B.notSynchronized
    have hS0 : va_S (zA nC b) s.heap s.heap [] := va_S.rf
    have hl := lv_entry ([.ref (b + 60), .ref (b + q1), .int (iI a1), .int (iI a2)]) (n := 8) (Nat.le_of_ble_eq_true rfl)
    have hent : entryFrame m args 8 = F0 m 0 ((lg_sl ([.ref (b + 60), .ref (b + q1), .int (iI a1), .int (iI a2)]) ++ List.replicate (8 - (lg_sl ([.ref (b + 60), .ref (b + q1), .int (iI a1), .int (iI a2)])).length) Slot.unset).toArray) [] := by rw [hargs]; exact lg_entry_eq m ([.ref (b + 60), .ref (b + q1), .int (iI a1), .int (iI a2)]) 8
    rw [hent]
    generalize (lg_sl ([.ref (b + 60), .ref (b + q1), .int (iI a1), .int (iI a2)]) ++ List.replicate (8 - (lg_sl ([.ref (b + 60), .ref (b + q1), .int (iI a1), .int (iI a2)])).length) Slot.unset).toArray = ls at hl ⊢
    have hl : lv_has ls 8 [(0, .ref (b + 60)), (1, .ref (b + q1)), (2, .int (iI a1)), (3, .int (iI a2))] := hl
    have h := h.2 q1 rfl
    obtain ⟨lt2, cd3⟩ := cd_a0 q1 rfl
    obtain ⟨lt4, cd5, lt6, cd7, lt8, cd9⟩ := nx_ring q1 lt2 cd3
    refine lv_aload_n hx hb dX5_choose_0 rfl (lv_at hl 1 rfl) ?_
    refine lv_ifnonnull (tgt := 6) hx hb dX5_choose_1 (by decide) ?_
    refine z_iconst hx hb dX5_choose_6 ?_
    refine lv_istore (lv' := [(4, .int (iI 0)), (0, .ref (b + 60)), (1, .ref (b + q1)), (2, .int (iI a1)), (3, .int (iI a2))]) hx hb dX5_choose_7 hl (by decide) rfl (fun ls hl => ?_)
    refine z_iconst hx hb dX5_choose_9 ?_
    refine lv_istore (lv' := [(5, .int (iI 0)), (4, .int (iI 0)), (0, .ref (b + 60)), (1, .ref (b + q1)), (2, .int (iI a1)), (3, .int (iI a2))]) hx hb dX5_choose_10 hl (by decide) rfl (fun ls hl => ?_)
    obtain ⟨I12, ⟨n13, h14⟩, h15⟩ := h
    have L16 : ∀ (n17 : Nat) (x10 x11 : Int) (H : Heap) (locs : List Loc) (ls : Array Slot), I12 n17 x10 x11 → zR D dA vwCl wC nC b M H → va_S (zA nC b) s.heap H locs → lv_has ls 8 [(0, .ref (b + 60)), (1, .ref (b + q1)), (2, .int (iI a1)), (3, .int (iI a2)), (4, .int (iI x10)), (5, .int (iI x11))] → W p l e (headSpec (.code yX5_choose cX5_choose 8 (some .int) :: zt) (z_rm 2)).room s m args below meth c H locs 0 0 (MQ below (va_Qi (wQi Q) (zB D dA vwCl wC nC b) (zA nC b)) args s 0 0 (zA nC b)) (F0 m 12 ls []) := by
      intro n17
      induction n17 using Nat.strongRecOn with
      | ind n17 i18 =>
        intro x10 x11 H locs ls h hS hS0 hl
        have h := h15 n17 x10 x11 h
        refine lv_iload hx hb dX5_choose_12 (lv_at hl 5 rfl) ?_
        refine lv_aload_n hx hb dX5_choose_14 rfl (lv_at hl 1 rfl) ?_
        refine w_getr (j2 := (q1 + 1)) hx hb hts (z_memU u6) hown hK.1 hS f6_0 lt2 (zkd_of cd3 rfl) (zrf_of cd3 rfl) (Or.inl (hts _ (z_mem k94))) dX5_choose_15 ?_
        refine w_geti hx hb hts (z_memU u8) hown hK.1 hS f8_1 lt4 (zkd_of cd5 rfl) (Or.inl (hts _ (z_mem k48))) dX5_choose_18 ?_
        refine w_icmp_ge (tgt := 136) hx hb rfl rfl dX5_choose_21 (by decide) (fun c19 => ?_) (fun c19 => ?_)
        · skip
          have h := h.1 c19
          refine lv_iload_n hx hb dX5_choose_136 rfl (lv_at hl 3 rfl) ?_
          exact w_iret hx hb hr hlocks hS hS0 rfl h dX5_choose_137
        · skip
          have h := h.2 c19
          refine z_iconst hx hb dX5_choose_24 ?_
          refine lv_istore (lv' := [(6, .int (iI 0)), (0, .ref (b + 60)), (1, .ref (b + q1)), (2, .int (iI a1)), (3, .int (iI a2)), (4, .int (iI x10)), (5, .int (iI x11))]) hx hb dX5_choose_25 hl (by decide) rfl (fun ls hl => ?_)
          obtain ⟨I22, ⟨n23, h24⟩, h25⟩ := h
          have L26 : ∀ (n27 : Nat) (x20 x21 : Int) (H : Heap) (locs : List Loc) (ls : Array Slot), I22 n27 x20 x21 → zR D dA vwCl wC nC b M H → va_S (zA nC b) s.heap H locs → lv_has ls 8 [(0, .ref (b + 60)), (1, .ref (b + q1)), (2, .int (iI a1)), (3, .int (iI a2)), (4, .int (iI x20)), (5, .int (iI x11)), (6, .int (iI x21))] → W p l e (headSpec (.code yX5_choose cX5_choose 8 (some .int) :: zt) (z_rm 2)).room s m args below meth c H locs 0 0 (MQ below (va_Qi (wQi Q) (zB D dA vwCl wC nC b) (zA nC b)) args s 0 0 (zA nC b)) (F0 m 27 ls []) := by
            intro n27
            induction n27 using Nat.strongRecOn with
            | ind n27 i28 =>
              intro x20 x21 H locs ls h hS hS0 hl
              have h := h25 n27 x20 x21 h
              refine lv_iload hx hb dX5_choose_27 (lv_at hl 6 rfl) ?_
              refine lv_aload_n hx hb dX5_choose_29 rfl (lv_at hl 1 rfl) ?_
              refine w_getr (j2 := (q1 + 1)) hx hb hts (z_memU u6) hown hK.1 hS f6_0 lt2 (zkd_of cd3 rfl) (zrf_of cd3 rfl) (Or.inl (hts _ (z_mem k94))) dX5_choose_30 ?_
              refine w_geti hx hb hts (z_memU u8) hown hK.1 hS f8_1 lt4 (zkd_of cd5 rfl) (Or.inl (hts _ (z_mem k48))) dX5_choose_33 ?_
              refine lv_iload hx hb dX5_choose_36 (lv_at hl 5 rfl) ?_
              refine z_isub hx hb dX5_choose_38 ?_
              refine w_icmp_ge (tgt := 130) hx hb rfl rfl dX5_choose_39 (by decide) (fun c29 => ?_) (fun c29 => ?_)
              · skip
                have h := h.1 c29
                refine z_iinc (lv' := [(5, .int (iI (x11 + 1))), (0, .ref (b + 60)), (1, .ref (b + q1)), (2, .int (iI a1)), (3, .int (iI a2)), (4, .int (iI x20)), (6, .int (iI x21))]) hx hb dX5_choose_130 hl (k := 5) rfl (by decide) rfl (fun ls hl => ?_)
                refine lv_goto (tgt := 12) hx hb dX5_choose_133 (by decide) ?_
                obtain ⟨n30, h31, h⟩ := h
                exact i18 n30 h31 x20 (x11 + 1) _ _ _ h hS hS0 (lv_sub hl [1, 2, 3, 4, 5, 0] rfl)
              · skip
                have h := h.2 c29
                refine lv_iload hx hb dX5_choose_42 (lv_at hl 4 rfl) ?_
                refine z_sipush hx hb (by decide) dX5_choose_44 ?_
                refine w_icmp_ge (tgt := 130) hx hb rfl (sI_of (by decide)) dX5_choose_47 (by decide) (fun c32 => ?_) (fun c32 => ?_)
                · skip
                  have h := h.1 c32
                  refine z_iinc (lv' := [(5, .int (iI (x11 + 1))), (0, .ref (b + 60)), (1, .ref (b + q1)), (2, .int (iI a1)), (3, .int (iI a2)), (4, .int (iI x20)), (6, .int (iI x21))]) hx hb dX5_choose_130 hl (k := 5) rfl (by decide) rfl (fun ls hl => ?_)
                  refine lv_goto (tgt := 12) hx hb dX5_choose_133 (by decide) ?_
                  obtain ⟨n33, h34, h⟩ := h
                  exact i18 n33 h34 x20 (x11 + 1) _ _ _ h hS hS0 (lv_sub hl [1, 2, 3, 4, 5, 0] rfl)
                · skip
                  have h := h.2 c32
                  refine lv_iload_n hx hb dX5_choose_50 rfl (lv_at hl 3 rfl) ?_
                  refine lv_aload_n hx hb dX5_choose_51 rfl (lv_at hl 0 rfl) ?_
                  refine w_getr (j2 := 64) hx hb hts (z_memU u5) hown hK.1 hS f5_4 (by decide) (zkd_of (rfl : zcd wC 60 = 19) rfl) (zrf_of (rfl : zcd wC 60 = 19) rfl) (Or.inl (hts _ (z_mem k149))) dX5_choose_52 ?_
                  refine lv_iload_n hx hb dX5_choose_55 rfl (lv_at hl 2 rfl) ?_
                  obtain ⟨o35, h⟩ := h
                  refine w_aald (n := 4) (i := (sI a1)) (j2 := (65 + 1 * (sI a1).toNat)) hx hb hK.1 (t0 := 7) (r := 7) (by decide) rfl rfl hS (by decide) (zkd_of (rfl : zcd wC 64 = 23) rfl) (zln_of (rfl : zcd wC 64 = 23) rfl) rfl o35.1 o35.2 (by decide) (zrf_of (rfl : zcd wC 64 = 23) rfl) dX5_choose_56 ?_
                  obtain ⟨lt36, cd37⟩ : (65 + 1 * (sI a1).toNat) < nC ∧ zcd wC (65 + 1 * (sI a1).toNat) = 24 := (by decide : ∀ k : Nat, k < 4 → (65 + 1 * k) < nC ∧ zcd wC (65 + 1 * k) = 24) (sI a1).toNat (by clear h; have h0 := o35.1; have h1 := o35.2; omega)
                  refine lv_iload hx hb dX5_choose_57 (lv_at hl 4 rfl) ?_
                  obtain ⟨o38, h⟩ := h
                  refine w_iald (n := 300) (i := (sI x20)) hx hb hK.1 (t0 := 0) rfl hS lt36 (zkd_of cd37 rfl) (zln_of cd37 rfl) rfl o38.1 o38.2 (by decide) dX5_choose_59 ?_
                  refine z_iconst hx hb dX5_choose_60 ?_
                  refine w_ixor hx hb dX5_choose_61 ?_
                  refine w_iand hx hb dX5_choose_62 ?_
                  obtain ⟨t39, e40⟩ : ∃ t39 : Int, t39 = (andI a2 (xorI (M (65 + 1 * (sI a1).toNat) (sI x20).toNat) (-1))) := ⟨_, rfl⟩
                  refine z_top (y := t39) e40.symm ?_
                  have h := h t39 e40
                  refine lv_istore (lv' := [(7, .int (iI t39)), (0, .ref (b + 60)), (1, .ref (b + q1)), (2, .int (iI a1)), (3, .int (iI a2)), (4, .int (iI x20)), (5, .int (iI x11)), (6, .int (iI x21))]) hx hb dX5_choose_63 hl (by decide) rfl (fun ls hl => ?_)
                  refine z_iinc (lv' := [(4, .int (iI (x20 + 1))), (7, .int (iI t39)), (0, .ref (b + 60)), (1, .ref (b + q1)), (2, .int (iI a1)), (3, .int (iI a2)), (5, .int (iI x11)), (6, .int (iI x21))]) hx hb dX5_choose_65 hl (k := 5) rfl (by decide) rfl (fun ls hl => ?_)
                  refine lv_aload_n hx hb dX5_choose_68 rfl (lv_at hl 3 rfl) ?_
                  refine lv_iload hx hb dX5_choose_69 (lv_at hl 6 rfl) ?_
                  refine lv_iload hx hb dX5_choose_71 (lv_at hl 7 rfl) ?_
                  refine w_calli (va_runS (As := [.ref (b + q1), .int (iI x11), .int (iI x21)]) (rest := []) ⟨hx, hb, hml, hown, hts⟩ (cC_Planner_cost l D dA b M q1 x11 x21 lt2 cd3 _ h) (va_cwS 3 hts (z_gS k640 k641 k8 k642) rfl rfl rfl dm_X5_cost.2 ⟨Nat.le_of_ble_eq_true rfl, Nat.le_of_ble_eq_true rfl⟩) ⟨wPre_blind, w_pre hS hK⟩ rfl rfl hl.1 rfl (lv_room (Nat.le_of_ble_eq_true rfl)) dX5_choose_73 ⟨Nat.le_refl _, Nat.le_refl _⟩) hS0 (fun z42 M41 H locs r43 h hS hS0 => ?_)
                  obtain ⟨e44, h⟩ := h
                  rw [e44] at hS
                  refine lv_aload_n hx hb dX5_choose_76 rfl (lv_at hl 2 rfl) ?_
                  refine w_getr (j2 := 69) hx hb hts (z_memU u5) hown hK.1 hS f5_5 (by decide) (zkd_of (rfl : zcd wC 60 = 19) rfl) (zrf_of (rfl : zcd wC 60 = 19) rfl) (Or.inl (hts _ (z_mem k150))) dX5_choose_77 ?_
                  refine lv_iload_n hx hb dX5_choose_80 rfl (lv_at hl 4 rfl) ?_
                  refine z_iconst hx hb dX5_choose_81 ?_
                  refine z_iadd hx hb dX5_choose_82 ?_
                  obtain ⟨o45, h⟩ := h
                  refine w_aald (n := 5) (i := (sI (a1 + 1))) (j2 := (70 + 1 * (sI (a1 + 1)).toNat)) hx hb hK.1 (t0 := 7) (r := 7) (by decide) rfl rfl hS (by decide) (zkd_of (rfl : zcd wC 69 = 25) rfl) (zln_of (rfl : zcd wC 69 = 25) rfl) rfl o45.1 o45.2 (by decide) (zrf_of (rfl : zcd wC 69 = 25) rfl) dX5_choose_83 ?_
                  obtain ⟨lt46, cd47⟩ : (70 + 1 * (sI (a1 + 1)).toNat) < nC ∧ zcd wC (70 + 1 * (sI (a1 + 1)).toNat) = 26 := (by decide : ∀ k : Nat, k < 5 → (70 + 1 * k) < nC ∧ zcd wC (70 + 1 * k) = 26) (sI (a1 + 1)).toNat (by clear h; have h0 := o45.1; have h1 := o45.2; omega)
                  refine lv_iload hx hb dX5_choose_84 (lv_at hl 1 rfl) ?_
                  obtain ⟨o48, h⟩ := h
                  refine w_iald (n := 64) (i := t39) hx hb hK.1 (t0 := 0) rfl hS lt46 (zkd_of cd47 rfl) (zln_of cd47 rfl) (by rw [e40]; exact (sI_of (andI_R _ _))) o48.1 o48.2 (by decide) dX5_choose_86 ?_
                  refine z_iadd hx hb dX5_choose_87 ?_
                  refine lv_aload_n hx hb dX5_choose_88 rfl (lv_at hl 2 rfl) ?_
                  refine w_getr (j2 := 69) hx hb hts (z_memU u5) hown hK.1 hS f5_5 (by decide) (zkd_of (rfl : zcd wC 60 = 19) rfl) (zrf_of (rfl : zcd wC 60 = 19) rfl) (Or.inl (hts _ (z_mem k150))) dX5_choose_89 ?_
                  refine lv_iload_n hx hb dX5_choose_92 rfl (lv_at hl 4 rfl) ?_
                  obtain ⟨o49, h⟩ := h
                  refine w_aald (n := 5) (i := (sI a1)) (j2 := (70 + 1 * (sI a1).toNat)) hx hb hK.1 (t0 := 7) (r := 7) (by decide) rfl rfl hS (by decide) (zkd_of (rfl : zcd wC 69 = 25) rfl) (zln_of (rfl : zcd wC 69 = 25) rfl) rfl o49.1 o49.2 (by decide) (zrf_of (rfl : zcd wC 69 = 25) rfl) dX5_choose_93 ?_
                  obtain ⟨lt50, cd51⟩ : (70 + 1 * (sI a1).toNat) < nC ∧ zcd wC (70 + 1 * (sI a1).toNat) = 26 := (by decide : ∀ k : Nat, k < 5 → (70 + 1 * k) < nC ∧ zcd wC (70 + 1 * k) = 26) (sI a1).toNat (by clear h; have h0 := o49.1; have h1 := o49.2; omega)
                  refine lv_iload_n hx hb dX5_choose_94 rfl (lv_at hl 5 rfl) ?_
                  obtain ⟨o52, h⟩ := h
                  refine w_iald (n := 64) (i := (sI a2)) hx hb hK.1 (t0 := 0) rfl hS lt50 (zkd_of cd51 rfl) (zln_of cd51 rfl) rfl o52.1 o52.2 (by decide) dX5_choose_95 ?_
                  refine w_icmp_ne (tgt := 124) hx hb rfl rfl dX5_choose_96 (by decide) (fun c53 => ?_) (fun c53 => ?_)
                  · skip
                    have h := h.1 c53
                    refine z_iinc (lv' := [(6, .int (iI (x21 + 1))), (4, .int (iI (x20 + 1))), (7, .int (iI t39)), (0, .ref (b + 60)), (1, .ref (b + q1)), (2, .int (iI a1)), (3, .int (iI a2)), (5, .int (iI x11))]) hx hb dX5_choose_124 hl (k := 7) rfl (by decide) rfl (fun ls hl => ?_)
                    refine lv_goto (tgt := 27) hx hb dX5_choose_127 (by decide) ?_
                    obtain ⟨n54, h55, h⟩ := h
                    exact i28 n54 h55 (x20 + 1) (x21 + 1) _ _ _ h hS hS0 (lv_sub hl [3, 4, 5, 6, 1, 7, 0] rfl)
                  · skip
                    have h := h.2 c53
                    refine lv_aload_n hx hb dX5_choose_99 rfl (lv_at hl 2 rfl) ?_
                    refine w_getr (j2 := 63) hx hb hts (z_memU u5) hown hK.1 hS f5_3 (by decide) (zkd_of (rfl : zcd wC 60 = 19) rfl) (zrf_of (rfl : zcd wC 60 = 19) rfl) (Or.inl (hts _ (z_mem k147))) dX5_choose_100 ?_
                    refine z_iconst hx hb dX5_choose_103 ?_
                    refine lv_iload_n hx hb dX5_choose_104 rfl (lv_at hl 4 rfl) ?_
                    refine z_imul hx hb dX5_choose_105 ?_
                    refine lv_iload hx hb dX5_choose_106 (lv_at hl 6 rfl) ?_
                    obtain ⟨o56, h⟩ := h
                    refine w_iast (z := x11) (n := 8) (i := (sI (2 * a1))) hx hb hK.1 (t0 := 0) rfl hS hS0 (by decide) (zkd_of (rfl : zcd wC 63 = 22) rfl) (zln_of (rfl : zcd wC 63 = 22) rfl) rfl o56.1 o56.2 (by decide) dX5_choose_108 (fun H locs hS hS0 => ?_)
                    obtain ⟨M57, e58⟩ : ∃ M57 : zM, M57 = zup M 63 (sI (2 * a1)).toNat x11 := ⟨_, rfl⟩
                    rw [← e58] at hS
                    have h := h M57 e58
                    refine lv_aload_n hx hb dX5_choose_109 rfl (lv_at hl 2 rfl) ?_
                    refine w_getr (j2 := 63) hx hb hts (z_memU u5) hown hK.1 hS f5_3 (by decide) (zkd_of (rfl : zcd wC 60 = 19) rfl) (zrf_of (rfl : zcd wC 60 = 19) rfl) (Or.inl (hts _ (z_mem k147))) dX5_choose_110 ?_
                    refine z_iconst hx hb dX5_choose_113 ?_
                    refine lv_iload_n hx hb dX5_choose_114 rfl (lv_at hl 4 rfl) ?_
                    refine z_imul hx hb dX5_choose_115 ?_
                    refine z_iconst hx hb dX5_choose_116 ?_
                    refine z_iadd hx hb dX5_choose_117 ?_
                    refine lv_iload hx hb dX5_choose_118 (lv_at hl 7 rfl) ?_
                    obtain ⟨o59, h⟩ := h
                    refine w_iast (z := x21) (n := 8) (i := (sI ((2 * a1) + 1))) hx hb hK.1 (t0 := 0) rfl hS hS0 (by decide) (zkd_of (rfl : zcd wC 63 = 22) rfl) (zln_of (rfl : zcd wC 63 = 22) rfl) rfl o59.1 o59.2 (by decide) dX5_choose_120 (fun H locs hS hS0 => ?_)
                    obtain ⟨M60, e61⟩ : ∃ M60 : zM, M60 = zup M57 63 (sI ((2 * a1) + 1)).toNat x21 := ⟨_, rfl⟩
                    rw [← e61] at hS
                    have h := h M60 e61
                    refine lv_iload hx hb dX5_choose_121 (lv_at hl 1 rfl) ?_
                    exact w_iret hx hb hr hlocks hS hS0 (by rw [e40]; exact (sI_of (andI_R _ _))) h dX5_choose_123
          exact L26 n23 x10 0 _ _ _ h24 hS hS0 (lv_sub hl [1, 2, 3, 4, 5, 6, 0] rfl)
    exact L16 n13 0 0 _ _ _ h14 hS hS0 (lv_sub hl [2, 3, 4, 5, 1, 0] rfl)

set_option maxRecDepth 100000 in
def wC_Planner_find  (M : zM) (Q : Int → zM → Prop) : Prop := ((0 ≤ (sI (M 32 2)) ∧ (sI (M 32 2)) < 5) ∧ wC_fill (70 + 1 * (sI (M 32 2)).toNat) 1000000 M (fun M4 => ((0 ≤ (sI (M 32 2)) ∧ (sI (M 32 2)) < 5) ∧ (∀ M8 : zM, M8 = zup M4 (70 + 1 * (sI (M 32 2)).toNat) 0 0 → wL1 (fun K29 x10 M11 => ((sI x10) < 0 → ((0 ≤ (sI ((shlI 1 (M11 60 2)) - 1)) ∧ (sI ((shlI 1 (M11 60 2)) - 1)) < 64) ∧ (∀ t21 : Int, t21 = (M11 70 (sI ((shlI 1 (M11 60 2)) - 1)).toNat) → ((sI t21) < 1000000 → wL2 (fun K133 x24 x25 M26 => ((sI (M 32 2)) ≤ (sI x25) → Q (sI t21) M26) ∧ ((sI x25) < (sI (M 32 2)) → wC_Studio_find x25 M26 (fun z36 => (z36 = none → wC_Planner_choose none x25 x24 M26 (fun z42 M41 => K133 z42 (x25 + 1) M41)) ∧ (∀ q38, z36 = some q38 → (q38 < nC ∧ zcd wC q38 = 14) ∧ (wC_Planner_choose (some q38) x25 x24 M26 (fun z53 M52 => K133 z53 (x25 + 1) M52)))))) ((shlI 1 (M11 60 2)) - 1) 0 M11) ∧ (1000000 ≤ (sI t21) → Q (-1) M11)))) ∧ (0 ≤ (sI x10) → wC_Studio_find x10 M11 (fun z58 => (z58 = none → K29 (x10 + (-1)) M11) ∧ (∀ q60, z58 = some q60 → (q60 < nC ∧ zcd wC q60 = 14) ∧ (wC_Studio_motorOf (M11 q60 1) M11 (fun z72 => ∃ q74, z72 = some q74 ∧ (q74 < nC ∧ zcd wC q74 = 11) ∧ (((0 ≤ (sI x10) ∧ (sI x10) < 4) ∧ wC_Planner_listTrue q60 q74 (65 + 1 * (sI x10).toNat) M11 (fun M84 => ((0 ≤ (sI x10) ∧ (sI x10) < 4) ∧ wC_Planner_listCheapest q60 (65 + 1 * (sI x10).toNat) M84 (fun M88 => ((0 ≤ (sI (x10 + 1)) ∧ (sI (x10 + 1)) < 5) ∧ ((0 ≤ (sI x10) ∧ (sI x10) < 5) ∧ wC_Planner_addCosts (70 + 1 * (sI (x10 + 1)).toNat) (70 + 1 * (sI x10).toNat) M88 (fun M95 => K29 (x10 + (-1)) M95)))))))))))))) ((M 32 2) - 1) M8))))
set_option maxHeartbeats 4000000 in
set_option maxRecDepth 100000 in
theorem cC_Planner_find (l : Launch) (D : va_G) (dA : Nat → ClassId) (b : Nat) (M : zM)   (Q : Int → zM → Prop) (h : wC_Planner_find  M Q) : Met l yX5_find (.code yX5_find cX5_find 6 (some .int) :: zt) (z_rm 4) (va_Pc [.ref (b + 60), .ref (b + 32)] (wPre D dA vwCl (z_tys dA) wC nC b M)) (va_Qi (wQi Q) (zB D dA vwCl wC nC b) (zA nC b)) 0 0 (zA nC b) := by
  unfold wC_Planner_find at h
  refine Met.ofW (cc := cX5_find) (maxL := 6) (ret := (some .int)) (by decide) rfl ?_
  intro p e s m args below meth c s₁ B hml hv
  obtain ⟨hargs, hS, hK⟩ := hv
  have hx := B.exec
  have hb := B.bytes
  have hr := B.returns
  have hts := atoms_spec (ws := .code yX5_find cX5_find 6 (some .int) :: zt) B.pre
  have hown : s.vm.findClass RX5 = some m.cls := findClass_of_methodNamed B.named
  have hlocks := B.notSynchronized
  have hS0 : va_S (zA nC b) s.heap s.heap [] := va_S.rf
  have hl := lv_entry ([.ref (b + 60), .ref (b + 32)]) (n := 6) (Nat.le_of_ble_eq_true rfl)
  have hent : entryFrame m args 6 = F0 m 0 ((lg_sl ([.ref (b + 60), .ref (b + 32)]) ++ List.replicate (6 - (lg_sl ([.ref (b + 60), .ref (b + 32)])).length) Slot.unset).toArray) [] := by rw [hargs]; exact lg_entry_eq m ([.ref (b + 60), .ref (b + 32)]) 6
  rw [hent]
  generalize (lg_sl ([.ref (b + 60), .ref (b + 32)]) ++ List.replicate (6 - (lg_sl ([.ref (b + 60), .ref (b + 32)])).length) Slot.unset).toArray = ls at hl ⊢
  have hl : lv_has ls 6 [(0, .ref (b + 60)), (1, .ref (b + 32))] := hl
  refine lv_aload_n hx hb dX5_find_0 rfl (lv_at hl 1 rfl) ?_
  refine w_geti hx hb hts (z_memU u9) hown hK.1 hS f9_2 (by decide) (zkd_of (rfl : zcd wC 32 = 8) rfl) (Or.inl (hts _ (z_mem k119))) dX5_find_1 ?_
  refine lv_istore_n (lv' := [(2, .int (iI (M 32 2))), (0, .ref (b + 60)), (1, .ref (b + 32))]) hx hb dX5_find_4 rfl hl (by decide) rfl (fun ls hl => ?_)
  refine lv_aload_n hx hb dX5_find_5 rfl (lv_at hl 1 rfl) ?_
  refine w_getr (j2 := 69) hx hb hts (z_memU u5) hown hK.1 hS f5_5 (by decide) (zkd_of (rfl : zcd wC 60 = 19) rfl) (zrf_of (rfl : zcd wC 60 = 19) rfl) (Or.inl (hts _ (z_mem k150))) dX5_find_6 ?_
  refine lv_iload_n hx hb dX5_find_9 rfl (lv_at hl 0 rfl) ?_
  obtain ⟨o1, h⟩ := h
  refine w_aald (n := 5) (i := (sI (M 32 2))) (j2 := (70 + 1 * (sI (M 32 2)).toNat)) hx hb hK.1 (t0 := 7) (r := 7) (by decide) rfl rfl hS (by decide) (zkd_of (rfl : zcd wC 69 = 25) rfl) (zln_of (rfl : zcd wC 69 = 25) rfl) rfl o1.1 o1.2 (by decide) (zrf_of (rfl : zcd wC 69 = 25) rfl) dX5_find_10 ?_
  obtain ⟨lt2, cd3⟩ : (70 + 1 * (sI (M 32 2)).toNat) < nC ∧ zcd wC (70 + 1 * (sI (M 32 2)).toNat) = 26 := (by decide : ∀ k : Nat, k < 5 → (70 + 1 * k) < nC ∧ zcd wC (70 + 1 * k) = 26) (sI (M 32 2)).toNat (by clear h; have h0 := o1.1; have h1 := o1.2; omega)
  refine z_ldc (n := 1000000) hx hb hown (hts _ (z_mem k625)) (by decide) dX5_find_11 ?_
  refine w_callv (va_runS (As := [.ref (b + (70 + 1 * (sI (M 32 2)).toNat)), .int (iI 1000000)]) (rest := []) ⟨hx, hb, hml, hown, hts⟩ (cC_fill l D dA b M (70 + 1 * (sI (M 32 2)).toNat) 1000000 lt2 (zkd_of cd3 rfl) (Nat.lt_of_le_of_lt (Nat.le_of_eq (zln_of cd3 rfl)) (by decide)) _ h) (va_cwS 2 hts (z_gS k626 k170 k10 k171) rfl rfl rfl dm_J7_fill_53178.2 ⟨Nat.le_of_ble_eq_true rfl, Nat.le_of_ble_eq_true rfl⟩) ⟨wPre_blind, w_pre hS hK⟩ rfl rfl hl.1 rfl (lv_room (Nat.le_of_ble_eq_true rfl)) dX5_find_13 ⟨Nat.le_refl _, Nat.le_refl _⟩) hS0 (fun M4 H locs h hS hS0 => ?_)
  refine lv_aload_n hx hb dX5_find_16 rfl (lv_at hl 1 rfl) ?_
  refine w_getr (j2 := 69) hx hb hts (z_memU u5) hown hK.1 hS f5_5 (by decide) (zkd_of (rfl : zcd wC 60 = 19) rfl) (zrf_of (rfl : zcd wC 60 = 19) rfl) (Or.inl (hts _ (z_mem k150))) dX5_find_17 ?_
  refine lv_iload_n hx hb dX5_find_20 rfl (lv_at hl 0 rfl) ?_
  obtain ⟨o5, h⟩ := h
  refine w_aald (n := 5) (i := (sI (M 32 2))) (j2 := (70 + 1 * (sI (M 32 2)).toNat)) hx hb hK.1 (t0 := 7) (r := 7) (by decide) rfl rfl hS (by decide) (zkd_of (rfl : zcd wC 69 = 25) rfl) (zln_of (rfl : zcd wC 69 = 25) rfl) rfl o5.1 o5.2 (by decide) (zrf_of (rfl : zcd wC 69 = 25) rfl) dX5_find_21 ?_
  obtain ⟨lt6, cd7⟩ : (70 + 1 * (sI (M 32 2)).toNat) < nC ∧ zcd wC (70 + 1 * (sI (M 32 2)).toNat) = 26 := (by decide : ∀ k : Nat, k < 5 → (70 + 1 * k) < nC ∧ zcd wC (70 + 1 * k) = 26) (sI (M 32 2)).toNat (by clear h; have h0 := o5.1; have h1 := o5.2; omega)
  refine z_iconst hx hb dX5_find_22 ?_
  refine z_iconst hx hb dX5_find_23 ?_
  refine w_iast (z := 0) (n := 64) (i := 0) hx hb hK.1 (t0 := 0) rfl hS hS0 lt6 (zkd_of cd7 rfl) (zln_of cd7 rfl) (sI_of (by decide)) (by decide) (by decide) (by decide) dX5_find_24 (fun H locs hS hS0 => ?_)
  rw [show ((0 : Int).toNat) = 0 from rfl] at hS
  obtain ⟨M8, e9⟩ : ∃ M8 : zM, M8 = zup M4 (70 + 1 * (sI (M 32 2)).toNat) 0 0 := ⟨_, rfl⟩
  rw [← e9] at hS
  have h := h M8 e9
  refine lv_iload_n hx hb dX5_find_25 rfl (lv_at hl 0 rfl) ?_
  refine z_iconst hx hb dX5_find_26 ?_
  refine z_isub hx hb dX5_find_27 ?_
  refine lv_istore_n (lv' := [(3, .int (iI ((M 32 2) - 1))), (2, .int (iI (M 32 2))), (0, .ref (b + 60)), (1, .ref (b + 32))]) hx hb dX5_find_28 rfl hl (by decide) rfl (fun ls hl => ?_)
  obtain ⟨I12, ⟨n13, h14⟩, h15⟩ := h
  have L16 : ∀ (n17 : Nat) (x10 : Int) (M11 : zM) (H : Heap) (locs : List Loc) (ls : Array Slot), I12 n17 x10 M11 → zR D dA vwCl wC nC b M11 H → va_S (zA nC b) s.heap H locs → lv_has ls 6 [(0, .ref (b + 60)), (1, .ref (b + 32)), (2, .int (iI (M 32 2))), (3, .int (iI x10))] → W p l e (headSpec (.code yX5_find cX5_find 6 (some .int) :: zt) (z_rm 4)).room s m args below meth c H locs 0 0 (MQ below (va_Qi (wQi Q) (zB D dA vwCl wC nC b) (zA nC b)) args s 0 0 (zA nC b)) (F0 m 29 ls []) := by
    intro n17
    induction n17 using Nat.strongRecOn with
    | ind n17 i18 =>
      intro x10 M11 H locs ls h hS hS0 hl
      have h := h15 n17 x10 M11 h
      refine lv_iload_n hx hb dX5_find_29 rfl (lv_at hl 3 rfl) ?_
      refine w_if_lt (tgt := 102) hx hb rfl dX5_find_30 (by decide) (fun c19 => ?_) (fun c19 => ?_)
      · skip
        have h := h.1 c19
        refine z_iconst hx hb dX5_find_102 ?_
        refine lv_aload_n hx hb dX5_find_103 rfl (lv_at hl 0 rfl) ?_
        refine w_geti hx hb hts (z_memU u5) hown hK.1 hS f5_2 (by decide) (zkd_of (rfl : zcd wC 60 = 19) rfl) (Or.inl (hts _ (z_mem k145))) dX5_find_104 ?_
        refine w_ishl hx hb dX5_find_107 ?_
        refine z_iconst hx hb dX5_find_108 ?_
        refine z_isub hx hb dX5_find_109 ?_
        refine lv_istore_n (lv' := [(3, .int (iI ((shlI 1 (M11 60 2)) - 1))), (0, .ref (b + 60)), (1, .ref (b + 32)), (2, .int (iI (M 32 2)))]) hx hb dX5_find_110 rfl hl (by decide) rfl (fun ls hl => ?_)
        refine lv_aload_n hx hb dX5_find_111 rfl (lv_at hl 1 rfl) ?_
        refine w_getr (j2 := 69) hx hb hts (z_memU u5) hown hK.1 hS f5_5 (by decide) (zkd_of (rfl : zcd wC 60 = 19) rfl) (zrf_of (rfl : zcd wC 60 = 19) rfl) (Or.inl (hts _ (z_mem k150))) dX5_find_112 ?_
        refine z_iconst hx hb dX5_find_115 ?_
        refine w_aald (n := 5) (i := 0) (j2 := 70) hx hb hK.1 (t0 := 7) (r := 7) (by decide) rfl rfl hS (by decide) (zkd_of (rfl : zcd wC 69 = 25) rfl) (zln_of (rfl : zcd wC 69 = 25) rfl) (sI_of (by decide)) (by decide) (by decide) (by decide) (zrf_of (rfl : zcd wC 69 = 25) rfl) dX5_find_116 ?_
        refine lv_iload_n hx hb dX5_find_117 rfl (lv_at hl 0 rfl) ?_
        obtain ⟨o20, h⟩ := h
        refine w_iald (n := 64) (i := (sI ((shlI 1 (M11 60 2)) - 1))) hx hb hK.1 (t0 := 0) rfl hS (by decide) (zkd_of (rfl : zcd wC 70 = 26) rfl) (zln_of (rfl : zcd wC 70 = 26) rfl) rfl o20.1 o20.2 (by decide) dX5_find_118 ?_
        obtain ⟨t21, e22⟩ : ∃ t21 : Int, t21 = (M11 70 (sI ((shlI 1 (M11 60 2)) - 1)).toNat) := ⟨_, rfl⟩
        refine z_top (y := t21) e22.symm ?_
        have h := h t21 e22
        refine lv_istore (lv' := [(4, .int (iI t21)), (3, .int (iI ((shlI 1 (M11 60 2)) - 1))), (0, .ref (b + 60)), (1, .ref (b + 32)), (2, .int (iI (M 32 2)))]) hx hb dX5_find_119 hl (by decide) rfl (fun ls hl => ?_)
        refine lv_iload hx hb dX5_find_121 (lv_at hl 0 rfl) ?_
        refine z_ldc (n := 1000000) hx hb hown (hts _ (z_mem k625)) (by decide) dX5_find_123 ?_
        refine w_icmp_lt (tgt := 130) hx hb rfl (sI_of (by decide)) dX5_find_125 (by decide) (fun c23 => ?_) (fun c23 => ?_)
        · skip
          have h := h.1 c23
          refine z_iconst hx hb dX5_find_130 ?_
          refine lv_istore (lv' := [(5, .int (iI 0)), (4, .int (iI t21)), (3, .int (iI ((shlI 1 (M11 60 2)) - 1))), (0, .ref (b + 60)), (1, .ref (b + 32)), (2, .int (iI (M 32 2)))]) hx hb dX5_find_131 hl (by decide) rfl (fun ls hl => ?_)
          obtain ⟨I27, ⟨n28, h29⟩, h30⟩ := h
          have L31 : ∀ (n32 : Nat) (x24 x25 : Int) (M26 : zM) (H : Heap) (locs : List Loc) (ls : Array Slot), I27 n32 x24 x25 M26 → zR D dA vwCl wC nC b M26 H → va_S (zA nC b) s.heap H locs → lv_has ls 6 [(0, .ref (b + 60)), (1, .ref (b + 32)), (2, .int (iI (M 32 2))), (3, .int (iI x24)), (4, .int (iI t21)), (5, .int (iI x25))] → W p l e (headSpec (.code yX5_find cX5_find 6 (some .int) :: zt) (z_rm 4)).room s m args below meth c H locs 0 0 (MQ below (va_Qi (wQi Q) (zB D dA vwCl wC nC b) (zA nC b)) args s 0 0 (zA nC b)) (F0 m 133 ls []) := by
            intro n32
            induction n32 using Nat.strongRecOn with
            | ind n32 i33 =>
              intro x24 x25 M26 H locs ls h hS hS0 hl
              have h := h30 n32 x24 x25 M26 h
              refine lv_iload hx hb dX5_find_133 (lv_at hl 5 rfl) ?_
              refine lv_iload_n hx hb dX5_find_135 rfl (lv_at hl 2 rfl) ?_
              refine w_icmp_ge (tgt := 159) hx hb rfl rfl dX5_find_136 (by decide) (fun c34 => ?_) (fun c34 => ?_)
              · skip
                have h := h.1 c34
                refine lv_iload hx hb dX5_find_159 (lv_at hl 4 rfl) ?_
                exact w_iret hx hb hr hlocks hS hS0 rfl h dX5_find_161
              · skip
                have h := h.2 c34
                refine lv_aload_n hx hb dX5_find_139 rfl (lv_at hl 0 rfl) ?_
                refine lv_aload_n hx hb dX5_find_140 rfl (lv_at hl 1 rfl) ?_
                refine lv_iload hx hb dX5_find_141 (lv_at hl 5 rfl) ?_
                refine w_callq (va_runV (As := [.int (iI x25)]) (rest := [.ref (b + 60)]) ⟨hx, hb, hml, hown, hts⟩ (cC_Studio_find l D dA b M26 x25 _ h) (cwV 1 hts (z_gV k627 k412 k413 k4 k414) rfl rfl rfl dm_X9_find ⟨Nat.le_of_ble_eq_true rfl, Nat.le_of_ble_eq_true rfl⟩) ⟨wPre_blind, (w_recv hS hK.1 (by decide) (zkd_of (rfl : zcd wC 32 = 8) rfl) (by decide) (rfl : vwCl[9]? = some (RX9, TX9, 3))), w_pre hS hK⟩ rfl rfl hl.1 rfl (lv_room (Nat.le_of_ble_eq_true rfl)) dX5_find_143 ⟨Nat.le_refl _, Nat.le_refl _⟩) hS0 (fun z36 M35 H locs h hS hS0 => ?_)
                obtain ⟨e37, h⟩ := h
                rw [e37] at hS
                rcases z36 with _ | q38
                · skip
                  have h := h.1 rfl
                  refine lv_iload hx hb dX5_find_146 (lv_at hl 5 rfl) ?_
                  refine lv_iload_n hx hb dX5_find_148 rfl (lv_at hl 3 rfl) ?_
                  refine w_calli (va_runV (As := [.null, .int (iI x25), .int (iI x24)]) (rest := []) ⟨hx, hb, hml, hown, hts⟩ (cC_Planner_choose l D dA b M26 none x25 x24 (fun _ h9 => by cases h9) _ h) (cwV 3 hts (z_gV k650 k651 k1374 k8 k652) rfl rfl rfl dm_X5_choose ⟨Nat.le_of_ble_eq_true rfl, Nat.le_of_ble_eq_true rfl⟩) ⟨wPre_blind, (w_recv hS hK.1 (by decide) (zkd_of (rfl : zcd wC 60 = 19) rfl) (by decide) (rfl : vwCl[5]? = some (RX5, TX5, 9))), w_pre hS hK⟩ rfl rfl hl.1 rfl (lv_room (Nat.le_of_ble_eq_true rfl)) dX5_find_149 ⟨Nat.le_refl _, Nat.le_refl _⟩) hS0 (fun z42 M41 H locs r43 h hS hS0 => ?_)
                  refine lv_istore_n (lv' := [(3, .int (iI z42)), (0, .ref (b + 60)), (1, .ref (b + 32)), (2, .int (iI (M 32 2))), (4, .int (iI t21)), (5, .int (iI x25))]) hx hb dX5_find_152 rfl hl (by decide) rfl (fun ls hl => ?_)
                  refine z_iinc (lv' := [(5, .int (iI (x25 + 1))), (3, .int (iI z42)), (0, .ref (b + 60)), (1, .ref (b + 32)), (2, .int (iI (M 32 2))), (4, .int (iI t21))]) hx hb dX5_find_153 hl (k := 5) rfl (by decide) rfl (fun ls hl => ?_)
                  refine lv_goto (tgt := 133) hx hb dX5_find_156 (by decide) ?_
                  obtain ⟨n44, h45, h⟩ := h
                  exact i33 n44 h45 z42 (x25 + 1) M41 _ _ _ h hS hS0 (lv_sub hl [2, 3, 4, 1, 5, 0] rfl)
                · skip
                  obtain ⟨⟨lt39, cd40⟩, h⟩ := h.2 q38 rfl
                  obtain ⟨lt46, cd47, lt48, cd49, lt50, cd51⟩ := nx_ring q38 lt39 cd40
                  refine lv_iload hx hb dX5_find_146 (lv_at hl 5 rfl) ?_
                  refine lv_iload_n hx hb dX5_find_148 rfl (lv_at hl 3 rfl) ?_
                  refine w_calli (va_runV (As := [.ref (b + q38), .int (iI x25), .int (iI x24)]) (rest := []) ⟨hx, hb, hml, hown, hts⟩ (cC_Planner_choose l D dA b M26 (some q38) x25 x24 (fun _ h9 => by cases h9; exact ⟨lt39, cd40⟩) _ h) (cwV 3 hts (z_gV k650 k651 k1374 k8 k652) rfl rfl rfl dm_X5_choose ⟨Nat.le_of_ble_eq_true rfl, Nat.le_of_ble_eq_true rfl⟩) ⟨wPre_blind, (w_recv hS hK.1 (by decide) (zkd_of (rfl : zcd wC 60 = 19) rfl) (by decide) (rfl : vwCl[5]? = some (RX5, TX5, 9))), w_pre hS hK⟩ rfl rfl hl.1 rfl (lv_room (Nat.le_of_ble_eq_true rfl)) dX5_find_149 ⟨Nat.le_refl _, Nat.le_refl _⟩) hS0 (fun z53 M52 H locs r54 h hS hS0 => ?_)
                  refine lv_istore_n (lv' := [(3, .int (iI z53)), (0, .ref (b + 60)), (1, .ref (b + 32)), (2, .int (iI (M 32 2))), (4, .int (iI t21)), (5, .int (iI x25))]) hx hb dX5_find_152 rfl hl (by decide) rfl (fun ls hl => ?_)
                  refine z_iinc (lv' := [(5, .int (iI (x25 + 1))), (3, .int (iI z53)), (0, .ref (b + 60)), (1, .ref (b + 32)), (2, .int (iI (M 32 2))), (4, .int (iI t21))]) hx hb dX5_find_153 hl (k := 5) rfl (by decide) rfl (fun ls hl => ?_)
                  refine lv_goto (tgt := 133) hx hb dX5_find_156 (by decide) ?_
                  obtain ⟨n55, h56, h⟩ := h
                  exact i33 n55 h56 z53 (x25 + 1) M52 _ _ _ h hS hS0 (lv_sub hl [2, 3, 4, 1, 5, 0] rfl)
          exact L31 n28 ((shlI 1 (M11 60 2)) - 1) 0 M11 _ _ _ h29 hS hS0 (lv_sub hl [3, 4, 5, 2, 1, 0] rfl)
        · skip
          have h := h.2 c23
          refine z_iconst hx hb dX5_find_128 ?_
          exact w_iret hx hb hr hlocks hS hS0 (sI_of (by decide)) h dX5_find_129
      · skip
        have h := h.2 c19
        refine lv_aload_n hx hb dX5_find_33 rfl (lv_at hl 1 rfl) ?_
        refine lv_iload_n hx hb dX5_find_34 rfl (lv_at hl 3 rfl) ?_
        refine w_callq (va_runV (As := [.int (iI x10)]) (rest := []) ⟨hx, hb, hml, hown, hts⟩ (cC_Studio_find l D dA b M11 x10 _ h) (cwV 1 hts (z_gV k627 k412 k413 k4 k414) rfl rfl rfl dm_X9_find ⟨Nat.le_of_ble_eq_true rfl, Nat.le_of_ble_eq_true rfl⟩) ⟨wPre_blind, (w_recv hS hK.1 (by decide) (zkd_of (rfl : zcd wC 32 = 8) rfl) (by decide) (rfl : vwCl[9]? = some (RX9, TX9, 3))), w_pre hS hK⟩ rfl rfl hl.1 rfl (lv_room (Nat.le_of_ble_eq_true rfl)) dX5_find_35 ⟨Nat.le_refl _, Nat.le_refl _⟩) hS0 (fun z58 M57 H locs h hS hS0 => ?_)
        obtain ⟨e59, h⟩ := h
        rw [e59] at hS
        rcases z58 with _ | q60
        · skip
          have h := h.1 rfl
          refine lv_astoreN (lv' := [(4, .null), (0, .ref (b + 60)), (1, .ref (b + 32)), (2, .int (iI (M 32 2))), (3, .int (iI x10))]) hx hb dX5_find_38 hl (by decide) rfl (fun ls hl => ?_)
          refine lv_aloadN hx hb dX5_find_40 (lv_at hl 0 rfl) ?_
          refine lv_ifnullN (tgt := 96) hx hb dX5_find_42 (by decide) ?_
          refine z_iinc (lv' := [(3, .int (iI (x10 + (-1)))), (4, .null), (0, .ref (b + 60)), (1, .ref (b + 32)), (2, .int (iI (M 32 2)))]) hx hb dX5_find_96 hl (k := 4) rfl (by decide) rfl (fun ls hl => ?_)
          refine lv_goto (tgt := 29) hx hb dX5_find_99 (by decide) ?_
          obtain ⟨n63, h64, h⟩ := h
          exact i18 n63 h64 (x10 + (-1)) M11 _ _ _ h hS hS0 (lv_sub hl [2, 3, 4, 0] rfl)
        · skip
          obtain ⟨⟨lt61, cd62⟩, h⟩ := h.2 q60 rfl
          obtain ⟨lt65, cd66, lt67, cd68, lt69, cd70⟩ := nx_ring q60 lt61 cd62
          refine lv_astore (lv' := [(4, .ref (b + q60)), (0, .ref (b + 60)), (1, .ref (b + 32)), (2, .int (iI (M 32 2))), (3, .int (iI x10))]) hx hb dX5_find_38 hl (by decide) rfl (fun ls hl => ?_)
          refine lv_aload hx hb dX5_find_40 (lv_at hl 0 rfl) ?_
          refine lv_ifnull hx hb dX5_find_42 ?_
          refine lv_aload_n hx hb dX5_find_45 rfl (lv_at hl 1 rfl) ?_
          refine lv_aload hx hb dX5_find_46 (lv_at hl 0 rfl) ?_
          refine lv_aload_n hx hb dX5_find_48 rfl (lv_at hl 2 rfl) ?_
          refine lv_aload hx hb dX5_find_49 (lv_at hl 0 rfl) ?_
          refine w_geti hx hb hts (z_memU u6) hown hK.1 hS f6_1 lt61 (zkd_of cd62 rfl) (Or.inl (hts _ (z_mem k98))) dX5_find_51 ?_
          refine w_callq (va_runV (As := [.int (iI (M11 q60 1))]) (rest := [.ref (b + q60), .ref (b + 60)]) ⟨hx, hb, hml, hown, hts⟩ (cC_Studio_motorOf l D dA b M11 (M11 q60 1) _ h) (cwV 1 hts (z_gV k628 k443 k444 k4 k445) rfl rfl rfl dm_X9_motorOf ⟨Nat.le_of_ble_eq_true rfl, Nat.le_of_ble_eq_true rfl⟩) ⟨wPre_blind, (w_recv hS hK.1 (by decide) (zkd_of (rfl : zcd wC 32 = 8) rfl) (by decide) (rfl : vwCl[9]? = some (RX9, TX9, 3))), w_pre hS hK⟩ rfl rfl hl.1 rfl (lv_room (Nat.le_of_ble_eq_true rfl)) dX5_find_54 ⟨Nat.le_refl _, Nat.le_refl _⟩) hS0 (fun z72 M71 H locs h hS hS0 => ?_)
          obtain ⟨e73, h⟩ := h
          rw [e73] at hS
          obtain ⟨q74, rfl, ⟨lt75, cd76⟩, h⟩ := h
          obtain ⟨lt77, cd78, lt79, cd80⟩ := nx_motor q74 lt75 cd76
          refine lv_aload_n hx hb dX5_find_57 rfl (lv_at hl 1 rfl) ?_
          refine w_getr (j2 := 64) hx hb hts (z_memU u5) hown hK.1 hS f5_4 (by decide) (zkd_of (rfl : zcd wC 60 = 19) rfl) (zrf_of (rfl : zcd wC 60 = 19) rfl) (Or.inl (hts _ (z_mem k149))) dX5_find_58 ?_
          refine lv_iload_n hx hb dX5_find_61 rfl (lv_at hl 4 rfl) ?_
          obtain ⟨o81, h⟩ := h
          refine w_aald (n := 4) (i := (sI x10)) (j2 := (65 + 1 * (sI x10).toNat)) hx hb hK.1 (t0 := 7) (r := 7) (by decide) rfl rfl hS (by decide) (zkd_of (rfl : zcd wC 64 = 23) rfl) (zln_of (rfl : zcd wC 64 = 23) rfl) rfl o81.1 o81.2 (by decide) (zrf_of (rfl : zcd wC 64 = 23) rfl) dX5_find_62 ?_
          obtain ⟨lt82, cd83⟩ : (65 + 1 * (sI x10).toNat) < nC ∧ zcd wC (65 + 1 * (sI x10).toNat) = 24 := (by decide : ∀ k : Nat, k < 4 → (65 + 1 * k) < nC ∧ zcd wC (65 + 1 * k) = 24) (sI x10).toNat (by clear h; have h0 := o81.1; have h1 := o81.2; omega)
          refine w_callv (va_runV (As := [.ref (b + q60), .ref (b + q74), .ref (b + (65 + 1 * (sI x10).toNat))]) (rest := []) ⟨hx, hb, hml, hown, hts⟩ (cC_Planner_listTrue l D dA b M11 q60 q74 (65 + 1 * (sI x10).toNat) lt61 cd62 lt75 cd76 lt82 (zkd_of cd83 rfl) (Nat.lt_of_le_of_lt (Nat.le_of_eq (zln_of cd83 rfl)) (by decide)) _ h) (cwV 3 hts (z_gV k629 k630 k1370 k8 k631) rfl rfl rfl dm_X5_listTrue ⟨Nat.le_of_ble_eq_true rfl, Nat.le_of_ble_eq_true rfl⟩) ⟨wPre_blind, (w_recv hS hK.1 (by decide) (zkd_of (rfl : zcd wC 60 = 19) rfl) (by decide) (rfl : vwCl[5]? = some (RX5, TX5, 9))), w_pre hS hK⟩ rfl rfl hl.1 rfl (lv_room (Nat.le_of_ble_eq_true rfl)) dX5_find_63 ⟨Nat.le_refl _, Nat.le_refl _⟩) hS0 (fun M84 H locs h hS hS0 => ?_)
          refine lv_aload_n hx hb dX5_find_66 rfl (lv_at hl 1 rfl) ?_
          refine lv_aload hx hb dX5_find_67 (lv_at hl 0 rfl) ?_
          refine lv_aload_n hx hb dX5_find_69 rfl (lv_at hl 1 rfl) ?_
          refine w_getr (j2 := 64) hx hb hts (z_memU u5) hown hK.1 hS f5_4 (by decide) (zkd_of (rfl : zcd wC 60 = 19) rfl) (zrf_of (rfl : zcd wC 60 = 19) rfl) (Or.inl (hts _ (z_mem k149))) dX5_find_70 ?_
          refine lv_iload_n hx hb dX5_find_73 rfl (lv_at hl 4 rfl) ?_
          obtain ⟨o85, h⟩ := h
          refine w_aald (n := 4) (i := (sI x10)) (j2 := (65 + 1 * (sI x10).toNat)) hx hb hK.1 (t0 := 7) (r := 7) (by decide) rfl rfl hS (by decide) (zkd_of (rfl : zcd wC 64 = 23) rfl) (zln_of (rfl : zcd wC 64 = 23) rfl) rfl o85.1 o85.2 (by decide) (zrf_of (rfl : zcd wC 64 = 23) rfl) dX5_find_74 ?_
          obtain ⟨lt86, cd87⟩ : (65 + 1 * (sI x10).toNat) < nC ∧ zcd wC (65 + 1 * (sI x10).toNat) = 24 := (by decide : ∀ k : Nat, k < 4 → (65 + 1 * k) < nC ∧ zcd wC (65 + 1 * k) = 24) (sI x10).toNat (by clear h; have h0 := o85.1; have h1 := o85.2; omega)
          refine w_callv (va_runV (As := [.ref (b + q60), .ref (b + (65 + 1 * (sI x10).toNat))]) (rest := []) ⟨hx, hb, hml, hown, hts⟩ (cC_Planner_listCheapest l D dA b M84 q60 (65 + 1 * (sI x10).toNat) lt61 cd62 lt86 (zkd_of cd87 rfl) (Nat.lt_of_le_of_lt (Nat.le_of_eq (zln_of cd87 rfl)) (by decide)) _ h) (cwV 2 hts (z_gV k637 k638 k1372 k8 k639) rfl rfl rfl dm_X5_listCheapest ⟨Nat.le_of_ble_eq_true rfl, Nat.le_of_ble_eq_true rfl⟩) ⟨wPre_blind, (w_recv hS hK.1 (by decide) (zkd_of (rfl : zcd wC 60 = 19) rfl) (by decide) (rfl : vwCl[5]? = some (RX5, TX5, 9))), w_pre hS hK⟩ rfl rfl hl.1 rfl (lv_room (Nat.le_of_ble_eq_true rfl)) dX5_find_75 ⟨Nat.le_refl _, Nat.le_refl _⟩) hS0 (fun M88 H locs h hS hS0 => ?_)
          refine lv_aload_n hx hb dX5_find_78 rfl (lv_at hl 1 rfl) ?_
          refine lv_aload_n hx hb dX5_find_79 rfl (lv_at hl 1 rfl) ?_
          refine w_getr (j2 := 69) hx hb hts (z_memU u5) hown hK.1 hS f5_5 (by decide) (zkd_of (rfl : zcd wC 60 = 19) rfl) (zrf_of (rfl : zcd wC 60 = 19) rfl) (Or.inl (hts _ (z_mem k150))) dX5_find_80 ?_
          refine lv_iload_n hx hb dX5_find_83 rfl (lv_at hl 4 rfl) ?_
          refine z_iconst hx hb dX5_find_84 ?_
          refine z_iadd hx hb dX5_find_85 ?_
          obtain ⟨o89, h⟩ := h
          refine w_aald (n := 5) (i := (sI (x10 + 1))) (j2 := (70 + 1 * (sI (x10 + 1)).toNat)) hx hb hK.1 (t0 := 7) (r := 7) (by decide) rfl rfl hS (by decide) (zkd_of (rfl : zcd wC 69 = 25) rfl) (zln_of (rfl : zcd wC 69 = 25) rfl) rfl o89.1 o89.2 (by decide) (zrf_of (rfl : zcd wC 69 = 25) rfl) dX5_find_86 ?_
          obtain ⟨lt90, cd91⟩ : (70 + 1 * (sI (x10 + 1)).toNat) < nC ∧ zcd wC (70 + 1 * (sI (x10 + 1)).toNat) = 26 := (by decide : ∀ k : Nat, k < 5 → (70 + 1 * k) < nC ∧ zcd wC (70 + 1 * k) = 26) (sI (x10 + 1)).toNat (by clear h; have h0 := o89.1; have h1 := o89.2; omega)
          refine lv_aload_n hx hb dX5_find_87 rfl (lv_at hl 1 rfl) ?_
          refine w_getr (j2 := 69) hx hb hts (z_memU u5) hown hK.1 hS f5_5 (by decide) (zkd_of (rfl : zcd wC 60 = 19) rfl) (zrf_of (rfl : zcd wC 60 = 19) rfl) (Or.inl (hts _ (z_mem k150))) dX5_find_88 ?_
          refine lv_iload_n hx hb dX5_find_91 rfl (lv_at hl 4 rfl) ?_
          obtain ⟨o92, h⟩ := h
          refine w_aald (n := 5) (i := (sI x10)) (j2 := (70 + 1 * (sI x10).toNat)) hx hb hK.1 (t0 := 7) (r := 7) (by decide) rfl rfl hS (by decide) (zkd_of (rfl : zcd wC 69 = 25) rfl) (zln_of (rfl : zcd wC 69 = 25) rfl) rfl o92.1 o92.2 (by decide) (zrf_of (rfl : zcd wC 69 = 25) rfl) dX5_find_92 ?_
          obtain ⟨lt93, cd94⟩ : (70 + 1 * (sI x10).toNat) < nC ∧ zcd wC (70 + 1 * (sI x10).toNat) = 26 := (by decide : ∀ k : Nat, k < 5 → (70 + 1 * k) < nC ∧ zcd wC (70 + 1 * k) = 26) (sI x10).toNat (by clear h; have h0 := o92.1; have h1 := o92.2; omega)
          refine w_callv (va_runV (As := [.ref (b + (70 + 1 * (sI (x10 + 1)).toNat)), .ref (b + (70 + 1 * (sI x10).toNat))]) (rest := []) ⟨hx, hb, hml, hown, hts⟩ (cC_Planner_addCosts l D dA b M88 (70 + 1 * (sI (x10 + 1)).toNat) (70 + 1 * (sI x10).toNat) lt90 (zkd_of cd91 rfl) (Nat.lt_of_le_of_lt (Nat.le_of_eq (zln_of cd91 rfl)) (by decide)) lt93 (zkd_of cd94 rfl) (Nat.lt_of_le_of_lt (Nat.le_of_eq (zln_of cd94 rfl)) (by decide)) _ h) (cwV 2 hts (z_gV k647 k648 k1373 k8 k649) rfl rfl rfl dm_X5_addCosts ⟨Nat.le_of_ble_eq_true rfl, Nat.le_of_ble_eq_true rfl⟩) ⟨wPre_blind, (w_recv hS hK.1 (by decide) (zkd_of (rfl : zcd wC 60 = 19) rfl) (by decide) (rfl : vwCl[5]? = some (RX5, TX5, 9))), w_pre hS hK⟩ rfl rfl hl.1 rfl (lv_room (Nat.le_of_ble_eq_true rfl)) dX5_find_93 ⟨Nat.le_refl _, Nat.le_refl _⟩) hS0 (fun M95 H locs h hS hS0 => ?_)
          refine z_iinc (lv' := [(3, .int (iI (x10 + (-1)))), (4, .ref (b + q60)), (0, .ref (b + 60)), (1, .ref (b + 32)), (2, .int (iI (M 32 2)))]) hx hb dX5_find_96 hl (k := 4) rfl (by decide) rfl (fun ls hl => ?_)
          refine lv_goto (tgt := 29) hx hb dX5_find_99 (by decide) ?_
          obtain ⟨n96, h97, h⟩ := h
          exact i18 n96 h97 (x10 + (-1)) M95 _ _ _ h hS hS0 (lv_sub hl [2, 3, 4, 0] rfl)
  exact L16 n13 ((M 32 2) - 1) M8 _ _ _ h14 hS hS0 (lv_sub hl [2, 3, 1, 0] rfl)

set_option maxRecDepth 100000 in
def wC_tell (a0 : Nat) (a1 : Int) (M : zM) (Q : zM → Prop) : Prop := (∀ M1 : zM, M1 = zup M 0 10 (min (sI a1) (min ((zln wC a0) : Int) 40)) → ((a0 ≠ 133) ∧ ((0 ≤ (sI (M1 0 10))) ∧ ((0 + (sI (M1 0 10)) ≤ (zln wC a0)) ∧ ((0 + (sI (M1 0 10)) ≤ 40) ∧ (∀ M7 : zM, M7 = zcp M1 a0 133 (0 : Int).toNat (0 : Int).toNat ((sI (M1 0 10)) : Int).toNat → Q M7))))))
set_option maxHeartbeats 4000000 in
set_option maxRecDepth 100000 in
theorem cC_tell (l : Launch) (D : va_G) (dA : Nat → ClassId) (b : Nat) (M : zM) (a0 : Nat) (a1 : Int) (lt_a0 : a0 < nC) (kd_a0 : zkd wC a0 = 100) (ln_a0 : zln wC a0 < 2147483648) (Q : zM → Prop) (h : wC_tell a0 a1 M Q) : Met l yX11_tell (.code yX11_tell cX11_tell 3 none :: zt) (z_rm 1) (va_Pc [.ref (b + 0), .ref (b + a0), .int (iI a1)] (wPre D dA vwCl (z_tys dA) wC nC b M)) (va_Qv (wQv Q) (zB D dA vwCl wC nC b) (zA nC b)) 0 0 (zA nC b) := by
  unfold wC_tell at h
  refine Met.ofW (cc := cX11_tell) (maxL := 3) (ret := none) (by decide) rfl ?_
  intro p e s m args below meth c s₁ B hml hv
  obtain ⟨hargs, hS, hK⟩ := hv
  have hx := B.exec
  have hb := B.bytes
  have hr := B.returns
  have hts := atoms_spec (ws := .code yX11_tell cX11_tell 3 none :: zt) B.pre
  have hown : s.vm.findClass RX11 = some m.cls := findClass_of_methodNamed B.named
  have hlocks := B.notSynchronized
  have hS0 : va_S (zA nC b) s.heap s.heap [] := va_S.rf
  have hl := lv_entry ([.ref (b + 0), .ref (b + a0), .int (iI a1)]) (n := 3) (Nat.le_of_ble_eq_true rfl)
  have hent : entryFrame m args 3 = F0 m 0 ((lg_sl ([.ref (b + 0), .ref (b + a0), .int (iI a1)]) ++ List.replicate (3 - (lg_sl ([.ref (b + 0), .ref (b + a0), .int (iI a1)])).length) Slot.unset).toArray) [] := by rw [hargs]; exact lg_entry_eq m ([.ref (b + 0), .ref (b + a0), .int (iI a1)]) 3
  rw [hent]
  generalize (lg_sl ([.ref (b + 0), .ref (b + a0), .int (iI a1)]) ++ List.replicate (3 - (lg_sl ([.ref (b + 0), .ref (b + a0), .int (iI a1)])).length) Slot.unset).toArray = ls at hl ⊢
  have hl : lv_has ls 3 [(0, .ref (b + 0)), (1, .ref (b + a0)), (2, .int (iI a1))] := hl
  refine lv_aload_n hx hb dX11_tell_0 rfl (lv_at hl 0 rfl) ?_
  refine lv_iload_n hx hb dX11_tell_1 rfl (lv_at hl 2 rfl) ?_
  refine lv_aload_n hx hb dX11_tell_2 rfl (lv_at hl 1 rfl) ?_
  refine w_alen (n := (zln wC a0)) hx hb hK.1 (t0 := 0) rfl hS lt_a0 kd_a0 rfl dX11_tell_3 ?_
  refine lv_aload_n hx hb dX11_tell_4 rfl (lv_at hl 0 rfl) ?_
  refine w_getr (j2 := 133) hx hb hts (z_memU u11) hown hK.1 hS f11_9 (by decide) (zkd_of (rfl : zcd wC 0 = 0) rfl) (zrf_of (rfl : zcd wC 0 = 0) rfl) (Or.inl (hts _ (z_mem k251))) dX11_tell_5 ?_
  refine w_alen (n := 40) hx hb hK.1 (t0 := 0) rfl hS (by decide) (zkd_of (rfl : zcd wC 133 = 49) rfl) (zln_of (rfl : zcd wC 133 = 49) rfl) dX11_tell_8 ?_
  refine z_top (show (((40 : Nat) : Int)) = 40 from by decide) ?_
  refine w_mmin hx hb (hml.trans hl.1.symm) hown (hts _ (z_mem k656)) (hts _ (z_mem k320)) (hts _ (z_mem k15)) (hts _ (z_mem k321)) (by exact Nat.le_of_ble_eq_true rfl) (by exact Nat.le_of_ble_eq_true rfl) (by exact Nat.le_refl _) (by exact Nat.le_refl _) (sI_of ⟨by clear h; omega, by clear h; have := ln_a0; omega⟩) (sI_of (by decide)) dX11_tell_9 ?_
  refine w_mmin hx hb (hml.trans hl.1.symm) hown (hts _ (z_mem k656)) (hts _ (z_mem k320)) (hts _ (z_mem k15)) (hts _ (z_mem k321)) (by exact Nat.le_of_ble_eq_true rfl) (by exact Nat.le_of_ble_eq_true rfl) (by exact Nat.le_refl _) (by exact Nat.le_refl _) rfl (sI_of (R_min (sI_c (x := ((zln wC a0) : Int)) (sI_of ⟨by clear h; omega, by clear h; have := ln_a0; omega⟩)) (sI_c (x := 40) (sI_of (by decide))))) dX11_tell_12 ?_
  refine w_puti hx hb hts (z_memU u11) tyX11 tyX11_ok nmX11 hown hK.1 hS hS0 f11_10 (by decide) (zkd_of (rfl : zcd wC 0 = 0) rfl) (Or.inl (hts _ (z_mem k252))) rfl (z := (min (sI a1) (min ((zln wC a0) : Int) 40))) (by decide +kernel) dX11_tell_15 (fun H locs hS hS0 => ?_)
  obtain ⟨M1, e2⟩ : ∃ M1 : zM, M1 = zup M 0 10 (min (sI a1) (min ((zln wC a0) : Int) 40)) := ⟨_, rfl⟩
  rw [← e2] at hS
  have h := h M1 e2
  refine lv_aload_n hx hb dX11_tell_18 rfl (lv_at hl 1 rfl) ?_
  refine z_iconst hx hb dX11_tell_19 ?_
  refine lv_aload_n hx hb dX11_tell_20 rfl (lv_at hl 0 rfl) ?_
  refine w_getr (j2 := 133) hx hb hts (z_memU u11) hown hK.1 hS f11_9 (by decide) (zkd_of (rfl : zcd wC 0 = 0) rfl) (zrf_of (rfl : zcd wC 0 = 0) rfl) (Or.inl (hts _ (z_mem k251))) dX11_tell_21 ?_
  refine z_iconst hx hb dX11_tell_24 ?_
  refine lv_aload_n hx hb dX11_tell_25 rfl (lv_at hl 0 rfl) ?_
  refine w_geti hx hb hts (z_memU u11) hown hK.1 hS f11_10 (by decide) (zkd_of (rfl : zcd wC 0 = 0) rfl) (Or.inl (hts _ (z_mem k252))) dX11_tell_26 ?_
  obtain ⟨o3, h⟩ := h
  obtain ⟨o4, h⟩ := h
  obtain ⟨o5, h⟩ := h
  obtain ⟨o6, h⟩ := h
  refine w_acopy (n0 := (zln wC a0)) (n1 := 40) (sp := 0) (dp := 0) (n := (sI (M1 0 10))) hx hb (hml.trans hl.1.symm) hown (hts _ (z_mem k657)) (hts _ (z_mem k366)) (hts _ (z_mem k365)) (hts _ (z_mem k16)) hK.1 (t0 := 0) rfl hS hS0 lt_a0 (by decide) o3 kd_a0 (zkd_of (rfl : zcd wC 133 = 49) rfl) rfl (zln_of (rfl : zcd wC 133 = 49) rfl) ln_a0 (by decide) (sI_of (by decide)) (sI_of (by decide)) rfl (by decide) (by decide) o4 o5 o6 (by exact Nat.le_of_ble_eq_true rfl) (by exact Nat.le_of_ble_eq_true rfl) dX11_tell_29 (fun H locs hS hS0 => ?_)
  obtain ⟨M7, e8⟩ : ∃ M7 : zM, M7 = zcp M1 a0 133 (0 : Int).toNat (0 : Int).toNat ((sI (M1 0 10)) : Int).toNat := ⟨_, rfl⟩
  rw [← e8] at hS
  have h := h M7 e8
  exact w_vret hx hb hr hlocks hS hS0 h dX11_tell_32

set_option maxRecDepth 100000 in
def wC_plan  (M : zM) (Q : Int → zM → Prop) : Prop := wC_Planner_find  M (fun z2 M1 => (z2 = (-1) → Q z2 M1) ∧ (z2 ≠ (-1) → wC_tell 63 (2 * (M1 32 2)) M1 (fun M5 => Q z2 M5)))
set_option maxHeartbeats 4000000 in
set_option maxRecDepth 100000 in
theorem cC_plan (l : Launch) (D : va_G) (dA : Nat → ClassId) (b : Nat) (M : zM)   (Q : Int → zM → Prop) (h : wC_plan  M Q) : Met l yX11_plan (.code yX11_plan cX11_plan 2 (some .int) :: zt) (z_rm 5) (va_Pc [.ref (b + 0)] (wPre D dA vwCl (z_tys dA) wC nC b M)) (va_Qi (wQi Q) (zB D dA vwCl wC nC b) (zA nC b)) 0 0 (zA nC b) := by
  unfold wC_plan at h
  refine Met.ofW (cc := cX11_plan) (maxL := 2) (ret := (some .int)) (by decide) rfl ?_
  intro p e s m args below meth c s₁ B hml hv
  obtain ⟨hargs, hS, hK⟩ := hv
  have hx := B.exec
  have hb := B.bytes
  have hr := B.returns
  have hts := atoms_spec (ws := .code yX11_plan cX11_plan 2 (some .int) :: zt) B.pre
  have hown : s.vm.findClass RX11 = some m.cls := findClass_of_methodNamed B.named
  have hlocks := B.notSynchronized
  have hS0 : va_S (zA nC b) s.heap s.heap [] := va_S.rf
  have hl := lv_entry ([.ref (b + 0)]) (n := 2) (Nat.le_of_ble_eq_true rfl)
  have hent : entryFrame m args 2 = F0 m 0 ((lg_sl ([.ref (b + 0)]) ++ List.replicate (2 - (lg_sl ([.ref (b + 0)])).length) Slot.unset).toArray) [] := by rw [hargs]; exact lg_entry_eq m ([.ref (b + 0)]) 2
  rw [hent]
  generalize (lg_sl ([.ref (b + 0)]) ++ List.replicate (2 - (lg_sl ([.ref (b + 0)])).length) Slot.unset).toArray = ls at hl ⊢
  have hl : lv_has ls 2 [(0, .ref (b + 0))] := hl
  refine lv_aload_n hx hb dX11_plan_0 rfl (lv_at hl 0 rfl) ?_
  refine w_getr (j2 := 60) hx hb hts (z_memU u11) hown hK.1 hS f11_4 (by decide) (zkd_of (rfl : zcd wC 0 = 0) rfl) (zrf_of (rfl : zcd wC 0 = 0) rfl) (Or.inl (hts _ (z_mem k246))) dX11_plan_1 ?_
  refine lv_aload_n hx hb dX11_plan_4 rfl (lv_at hl 0 rfl) ?_
  refine w_getr (j2 := 32) hx hb hts (z_memU u11) hown hK.1 hS f11_2 (by decide) (zkd_of (rfl : zcd wC 0 = 0) rfl) (zrf_of (rfl : zcd wC 0 = 0) rfl) (Or.inl (hts _ (z_mem k244))) dX11_plan_5 ?_
  refine w_calli (va_runV (As := [.ref (b + 32)]) (rest := []) ⟨hx, hb, hml, hown, hts⟩ (cC_Planner_find l D dA b M  _ h) (cwV 1 hts (z_gV k621 k622 k623 k8 k624) rfl rfl rfl dm_X5_find ⟨Nat.le_of_ble_eq_true rfl, Nat.le_of_ble_eq_true rfl⟩) ⟨wPre_blind, (w_recv hS hK.1 (by decide) (zkd_of (rfl : zcd wC 60 = 19) rfl) (by decide) (rfl : vwCl[5]? = some (RX5, TX5, 9))), w_pre hS hK⟩ rfl rfl hl.1 rfl (lv_room (Nat.le_of_ble_eq_true rfl)) dX11_plan_8 ⟨Nat.le_refl _, Nat.le_refl _⟩) hS0 (fun z2 M1 H locs r3 h hS hS0 => ?_)
  refine lv_istore_n (lv' := [(1, .int (iI z2)), (0, .ref (b + 0))]) hx hb dX11_plan_11 rfl hl (by decide) rfl (fun ls hl => ?_)
  refine lv_iload_n hx hb dX11_plan_12 rfl (lv_at hl 0 rfl) ?_
  refine z_iconst hx hb dX11_plan_13 ?_
  refine w_icmp_eq (tgt := 37) hx hb (sI_of r3) (sI_of (by decide)) dX11_plan_14 (by decide) (fun c4 => ?_) (fun c4 => ?_)
  · skip
    have h := h.1 c4
    refine lv_iload_n hx hb dX11_plan_37 rfl (lv_at hl 0 rfl) ?_
    exact w_iret hx hb hr hlocks hS hS0 (sI_of r3) h dX11_plan_38
  · skip
    have h := h.2 c4
    refine lv_aload_n hx hb dX11_plan_17 rfl (lv_at hl 1 rfl) ?_
    refine lv_aload_n hx hb dX11_plan_18 rfl (lv_at hl 1 rfl) ?_
    refine w_getr (j2 := 60) hx hb hts (z_memU u11) hown hK.1 hS f11_4 (by decide) (zkd_of (rfl : zcd wC 0 = 0) rfl) (zrf_of (rfl : zcd wC 0 = 0) rfl) (Or.inl (hts _ (z_mem k246))) dX11_plan_19 ?_
    refine w_getr (j2 := 63) hx hb hts (z_memU u5) hown hK.1 hS f5_3 (by decide) (zkd_of (rfl : zcd wC 60 = 19) rfl) (zrf_of (rfl : zcd wC 60 = 19) rfl) (Or.inl (hts _ (z_mem k148))) dX11_plan_22 ?_
    refine z_iconst hx hb dX11_plan_25 ?_
    refine lv_aload_n hx hb dX11_plan_26 rfl (lv_at hl 1 rfl) ?_
    refine w_getr (j2 := 32) hx hb hts (z_memU u11) hown hK.1 hS f11_2 (by decide) (zkd_of (rfl : zcd wC 0 = 0) rfl) (zrf_of (rfl : zcd wC 0 = 0) rfl) (Or.inl (hts _ (z_mem k244))) dX11_plan_27 ?_
    refine w_geti hx hb hts (z_memU u9) hown hK.1 hS f9_2 (by decide) (zkd_of (rfl : zcd wC 32 = 8) rfl) (Or.inl (hts _ (z_mem k120))) dX11_plan_30 ?_
    refine z_imul hx hb dX11_plan_33 ?_
    refine w_callv (va_runV (As := [.ref (b + 63), .int (iI (2 * (M1 32 2)))]) (rest := []) ⟨hx, hb, hml, hown, hts⟩ (cC_tell l D dA b M1 63 (2 * (M1 32 2)) (by decide) (zkd_of (rfl : zcd wC 63 = 22) rfl) (Nat.lt_of_le_of_lt (Nat.le_of_eq (zln_of (rfl : zcd wC 63 = 22) rfl)) (by decide)) _ h) (cwV 2 hts (z_gV k653 k654 k1375 k1 k655) rfl rfl rfl dm_X11_tell ⟨Nat.le_of_ble_eq_true rfl, Nat.le_of_ble_eq_true rfl⟩) ⟨wPre_blind, (w_recv hS hK.1 (by decide) (zkd_of (rfl : zcd wC 0 = 0) rfl) (by decide) (rfl : vwCl[11]? = some (RX11, TX11, 11))), w_pre hS hK⟩ rfl rfl hl.1 rfl (lv_room (Nat.le_of_ble_eq_true rfl)) dX11_plan_34 ⟨Nat.le_refl _, Nat.le_refl _⟩) hS0 (fun M5 H locs h hS hS0 => ?_)
    refine lv_iload_n hx hb dX11_plan_37 rfl (lv_at hl 0 rfl) ?_
    exact w_iret hx hb hr hlocks hS hS0 (sI_of r3) h dX11_plan_38

set_option maxRecDepth 100000 in
def wC_Ring_cutBy (j : Nat) (a0 : Int) (M : zM) (Q : zM → Prop) : Prop := (∀ M7 : zM, M7 = zup M (j + 1) 1 ((M (j + 1) 1) - a0) → wC_by (sI (M7 j 2)) (M7 (j + 1) 1) M7 (fun z10 => (∀ M13 : zM, M13 = zup M7 j 2 z10 → wC_Ring_listen j M13 (fun M15 => Q M15))))
set_option maxHeartbeats 4000000 in
set_option maxRecDepth 100000 in
theorem cC_Ring_cutBy (l : Launch) (D : va_G) (dA : Nat → ClassId) (b : Nat) (M : zM) (j : Nat) (a0 : Int) (lt_j : j < nC) (cd_j : zcd wC j = 14) (Q : zM → Prop) (h : wC_Ring_cutBy j a0 M Q) : Met l yX6_cutBy (.code yX6_cutBy cX6_cutBy 2 none :: zt) (z_rm 4) (va_Pc [.ref (b + j), .int (iI a0)] (wPre D dA vwCl (z_tys dA) wC nC b M)) (va_Qv (wQv Q) (zB D dA vwCl wC nC b) (zA nC b)) 0 0 (zA nC b) := by
  unfold wC_Ring_cutBy at h
  refine Met.ofW (cc := cX6_cutBy) (maxL := 2) (ret := none) (by decide) rfl ?_
  intro p e s m args below meth c s₁ B hml hv
  obtain ⟨hargs, hS, hK⟩ := hv
  have hx := B.exec
  have hb := B.bytes
  have hr := B.returns
  have hts := atoms_spec (ws := .code yX6_cutBy cX6_cutBy 2 none :: zt) B.pre
  have hown : s.vm.findClass RX6 = some m.cls := findClass_of_methodNamed B.named
  have hlocks := B.notSynchronized
  have hS0 : va_S (zA nC b) s.heap s.heap [] := va_S.rf
  have hl := lv_entry ([.ref (b + j), .int (iI a0)]) (n := 2) (Nat.le_of_ble_eq_true rfl)
  have hent : entryFrame m args 2 = F0 m 0 ((lg_sl ([.ref (b + j), .int (iI a0)]) ++ List.replicate (2 - (lg_sl ([.ref (b + j), .int (iI a0)])).length) Slot.unset).toArray) [] := by rw [hargs]; exact lg_entry_eq m ([.ref (b + j), .int (iI a0)]) 2
  rw [hent]
  generalize (lg_sl ([.ref (b + j), .int (iI a0)]) ++ List.replicate (2 - (lg_sl ([.ref (b + j), .int (iI a0)])).length) Slot.unset).toArray = ls at hl ⊢
  have hl : lv_has ls 2 [(0, .ref (b + j)), (1, .int (iI a0))] := hl
  obtain ⟨lt1, cd2, lt3, cd4, lt5, cd6⟩ := nx_ring j lt_j cd_j
  refine lv_aload_n hx hb dX6_cutBy_0 rfl (lv_at hl 0 rfl) ?_
  refine w_getr (j2 := (j + 1)) hx hb hts (z_memU u6) hown hK.1 hS f6_0 lt_j (zkd_of cd_j rfl) (zrf_of cd_j rfl) (Or.inl (hts _ (z_mem k93))) dX6_cutBy_1 ?_
  refine lv_dup hx hb dX6_cutBy_4 rfl ?_
  refine w_geti hx hb hts (z_memU u8) hown hK.1 hS f8_1 lt1 (zkd_of cd2 rfl) (Or.inl (hts _ (z_mem k45))) dX6_cutBy_5 ?_
  refine lv_iload_n hx hb dX6_cutBy_8 rfl (lv_at hl 1 rfl) ?_
  refine z_isub hx hb dX6_cutBy_9 ?_
  refine w_puti hx hb hts (z_memU u8) tyX8 tyX8_ok nmX8 hown hK.1 hS hS0 f8_1 lt1 (zkd_of cd2 rfl) (Or.inl (hts _ (z_mem k45))) rfl (z := ((M (j + 1) 1) - a0)) (by decide +kernel) dX6_cutBy_10 (fun H locs hS hS0 => ?_)
  obtain ⟨M7, e8⟩ : ∃ M7 : zM, M7 = zup M (j + 1) 1 ((M (j + 1) 1) - a0) := ⟨_, rfl⟩
  rw [← e8] at hS
  have h := h M7 e8
  refine lv_aload_n hx hb dX6_cutBy_13 rfl (lv_at hl 0 rfl) ?_
  refine lv_aload_n hx hb dX6_cutBy_14 rfl (lv_at hl 0 rfl) ?_
  refine w_geti hx hb hts (z_memU u6) hown hK.1 hS f6_2 lt_j (zkd_of cd_j rfl) (Or.inl (hts _ (z_mem k101))) dX6_cutBy_15 ?_
  refine w_i2l hx hb rfl dX6_cutBy_18 ?_
  refine lv_aload_n hx hb dX6_cutBy_19 rfl (lv_at hl 0 rfl) ?_
  refine w_getr (j2 := (j + 1)) hx hb hts (z_memU u6) hown hK.1 hS f6_0 lt_j (zkd_of cd_j rfl) (zrf_of cd_j rfl) (Or.inl (hts _ (z_mem k93))) dX6_cutBy_20 ?_
  refine w_geti hx hb hts (z_memU u8) hown hK.1 hS f8_1 lt1 (zkd_of cd2 rfl) (Or.inl (hts _ (z_mem k45))) dX6_cutBy_23 ?_
  refine w_calli (va_runSN (As := [.long (iL (sI (M7 j 2))), .int (iI (M7 (j + 1) 1))]) (rest := [.ref (b + j)]) ⟨hx, hb, hml, hown, hts⟩ (cC_by l D dA b M7 (sI (M7 j 2)) (M7 (j + 1) 1) _ h) ⟨va_cnB 2 hts (z_gN k406) rfl rfl rfl (hK.2 (RX6, 56, yX11_by, RX11) (List.mem_of_getElem? (i := 10) rfl)) (hts _ (z_mem k1)) dm_X11_by.2 ⟨Nat.le_of_ble_eq_true rfl, Nat.le_of_ble_eq_true rfl⟩, (hts _ (z_mem k405)), trivial⟩ ⟨wPre_blind, w_pre hS hK⟩ rfl rfl hl.1 rfl (lv_room (Nat.le_of_ble_eq_true rfl)) dX6_cutBy_26 ⟨Nat.le_refl _, Nat.le_refl _⟩) hS0 (fun z10 M9 H locs r11 h hS hS0 => ?_)
  obtain ⟨e12, h⟩ := h
  rw [e12] at hS
  refine w_puti hx hb hts (z_memU u6) tyX6 tyX6_ok nmX6 hown hK.1 hS hS0 f6_2 lt_j (zkd_of cd_j rfl) (Or.inl (hts _ (z_mem k101))) rfl (z := z10) (by decide +kernel) dX6_cutBy_29 (fun H locs hS hS0 => ?_)
  obtain ⟨M13, e14⟩ : ∃ M13 : zM, M13 = zup M7 j 2 z10 := ⟨_, rfl⟩
  rw [← e14] at hS
  have h := h M13 e14
  refine lv_aload_n hx hb dX6_cutBy_32 rfl (lv_at hl 0 rfl) ?_
  refine w_callv (va_runV (As := []) (rest := []) ⟨hx, hb, hml, hown, hts⟩ (cC_Ring_listen l D dA b M13 j lt_j cd_j _ h) (cwV 0 hts (z_gV k395 k396 k1363 k6 k397) rfl rfl rfl dm_X6_listen ⟨Nat.le_of_ble_eq_true rfl, Nat.le_of_ble_eq_true rfl⟩) ⟨wPre_blind, (w_recv hS hK.1 lt_j (zkd_of cd_j rfl) (by decide) (rfl : vwCl[6]? = some (RX6, TX6, 6))), w_pre hS hK⟩ rfl rfl hl.1 rfl (lv_room (Nat.le_of_ble_eq_true rfl)) dX6_cutBy_33 ⟨Nat.le_refl _, Nat.le_refl _⟩) hS0 (fun M15 H locs h hS hS0 => ?_)
  exact w_vret hx hb hr hlocks hS hS0 h dX6_cutBy_36

set_option maxRecDepth 100000 in
def wC_Planner_carryOut  (M : zM) (Q : zM → Prop) : Prop := wL1 (fun K2 x1 M2 => (4 ≤ (sI x1) → Q M2) ∧ ((sI x1) < 4 → wC_Studio_find x1 M2 (fun z12 => (z12 = none → K2 (x1 + 1) M2) ∧ (∀ q14, z12 = some q14 → (q14 < nC ∧ zcd wC q14 = 14) ∧ (((0 ≤ (sI (2 * x1)) ∧ (sI (2 * x1)) < 8) ∧ wC_Ring_cutBy q14 (M2 63 (sI (2 * x1)).toNat) M2 (fun M26 => ((0 ≤ (sI ((2 * x1) + 1)) ∧ (sI ((2 * x1) + 1)) < 8) ∧ (∀ M28 : zM, M28 = zup M26 q14 2 (M26 63 (sI ((2 * x1) + 1)).toNat) → K2 (x1 + 1) M28))))))))) 0 M
set_option maxHeartbeats 4000000 in
set_option maxRecDepth 100000 in
theorem cC_Planner_carryOut (l : Launch) (D : va_G) (dA : Nat → ClassId) (b : Nat) (M : zM)   (Q : zM → Prop) (h : wC_Planner_carryOut  M Q) : Met l yX5_carryOut (.code yX5_carryOut cX5_carryOut 4 none :: zt) (z_rm 5) (va_Pc [.ref (b + 60), .ref (b + 32)] (wPre D dA vwCl (z_tys dA) wC nC b M)) (va_Qv (wQv Q) (zB D dA vwCl wC nC b) (zA nC b)) 0 0 (zA nC b) := by
  unfold wC_Planner_carryOut at h
  refine Met.ofW (cc := cX5_carryOut) (maxL := 4) (ret := none) (by decide) rfl ?_
  intro p e s m args below meth c s₁ B hml hv
  obtain ⟨hargs, hS, hK⟩ := hv
  have hx := B.exec
  have hb := B.bytes
  have hr := B.returns
  have hts := atoms_spec (ws := .code yX5_carryOut cX5_carryOut 4 none :: zt) B.pre
  have hown : s.vm.findClass RX5 = some m.cls := findClass_of_methodNamed B.named
  have hlocks := B.notSynchronized
  have hS0 : va_S (zA nC b) s.heap s.heap [] := va_S.rf
  have hl := lv_entry ([.ref (b + 60), .ref (b + 32)]) (n := 4) (Nat.le_of_ble_eq_true rfl)
  have hent : entryFrame m args 4 = F0 m 0 ((lg_sl ([.ref (b + 60), .ref (b + 32)]) ++ List.replicate (4 - (lg_sl ([.ref (b + 60), .ref (b + 32)])).length) Slot.unset).toArray) [] := by rw [hargs]; exact lg_entry_eq m ([.ref (b + 60), .ref (b + 32)]) 4
  rw [hent]
  generalize (lg_sl ([.ref (b + 60), .ref (b + 32)]) ++ List.replicate (4 - (lg_sl ([.ref (b + 60), .ref (b + 32)])).length) Slot.unset).toArray = ls at hl ⊢
  have hl : lv_has ls 4 [(0, .ref (b + 60)), (1, .ref (b + 32))] := hl
  refine z_iconst hx hb dX5_carryOut_0 ?_
  refine lv_istore_n (lv' := [(2, .int (iI 0)), (0, .ref (b + 60)), (1, .ref (b + 32))]) hx hb dX5_carryOut_1 rfl hl (by decide) rfl (fun ls hl => ?_)
  obtain ⟨I3, ⟨n4, h5⟩, h6⟩ := h
  have L7 : ∀ (n8 : Nat) (x1 : Int) (M2 : zM) (H : Heap) (locs : List Loc) (ls : Array Slot), I3 n8 x1 M2 → zR D dA vwCl wC nC b M2 H → va_S (zA nC b) s.heap H locs → lv_has ls 4 [(0, .ref (b + 60)), (1, .ref (b + 32)), (2, .int (iI x1))] → W p l e (headSpec (.code yX5_carryOut cX5_carryOut 4 none :: zt) (z_rm 5)).room s m args below meth c H locs 0 0 (MQ below (va_Qv (wQv Q) (zB D dA vwCl wC nC b) (zA nC b)) args s 0 0 (zA nC b)) (F0 m 2 ls []) := by
    intro n8
    induction n8 using Nat.strongRecOn with
    | ind n8 i9 =>
      intro x1 M2 H locs ls h hS hS0 hl
      have h := h6 n8 x1 M2 h
      refine lv_iload_n hx hb dX5_carryOut_2 rfl (lv_at hl 2 rfl) ?_
      refine z_iconst hx hb dX5_carryOut_3 ?_
      refine w_icmp_ge (tgt := 49) hx hb rfl (sI_of (by decide)) dX5_carryOut_4 (by decide) (fun c10 => ?_) (fun c10 => ?_)
      · skip
        have h := h.1 c10
        exact w_vret hx hb hr hlocks hS hS0 h dX5_carryOut_49
      · skip
        have h := h.2 c10
        refine lv_aload_n hx hb dX5_carryOut_7 rfl (lv_at hl 1 rfl) ?_
        refine lv_iload_n hx hb dX5_carryOut_8 rfl (lv_at hl 2 rfl) ?_
        refine w_callq (va_runV (As := [.int (iI x1)]) (rest := []) ⟨hx, hb, hml, hown, hts⟩ (cC_Studio_find l D dA b M2 x1 _ h) (cwV 1 hts (z_gV k627 k412 k413 k4 k414) rfl rfl rfl dm_X9_find ⟨Nat.le_of_ble_eq_true rfl, Nat.le_of_ble_eq_true rfl⟩) ⟨wPre_blind, (w_recv hS hK.1 (by decide) (zkd_of (rfl : zcd wC 32 = 8) rfl) (by decide) (rfl : vwCl[9]? = some (RX9, TX9, 3))), w_pre hS hK⟩ rfl rfl hl.1 rfl (lv_room (Nat.le_of_ble_eq_true rfl)) dX5_carryOut_9 ⟨Nat.le_refl _, Nat.le_refl _⟩) hS0 (fun z12 M11 H locs h hS hS0 => ?_)
        obtain ⟨e13, h⟩ := h
        rw [e13] at hS
        rcases z12 with _ | q14
        · skip
          have h := h.1 rfl
          refine lv_astore_nN (lv' := [(3, .null), (0, .ref (b + 60)), (1, .ref (b + 32)), (2, .int (iI x1))]) hx hb dX5_carryOut_12 rfl hl (by decide) rfl (fun ls hl => ?_)
          refine lv_aload_nN hx hb dX5_carryOut_13 rfl (lv_at hl 0 rfl) ?_
          refine lv_ifnullN (tgt := 43) hx hb dX5_carryOut_14 (by decide) ?_
          refine z_iinc (lv' := [(2, .int (iI (x1 + 1))), (3, .null), (0, .ref (b + 60)), (1, .ref (b + 32))]) hx hb dX5_carryOut_43 hl (k := 3) rfl (by decide) rfl (fun ls hl => ?_)
          refine lv_goto (tgt := 2) hx hb dX5_carryOut_46 (by decide) ?_
          obtain ⟨n17, h18, h⟩ := h
          exact i9 n17 h18 (x1 + 1) M2 _ _ _ h hS hS0 (lv_sub hl [2, 3, 0] rfl)
        · skip
          obtain ⟨⟨lt15, cd16⟩, h⟩ := h.2 q14 rfl
          obtain ⟨lt19, cd20, lt21, cd22, lt23, cd24⟩ := nx_ring q14 lt15 cd16
          refine lv_astore_n (lv' := [(3, .ref (b + q14)), (0, .ref (b + 60)), (1, .ref (b + 32)), (2, .int (iI x1))]) hx hb dX5_carryOut_12 rfl hl (by decide) rfl (fun ls hl => ?_)
          refine lv_aload_n hx hb dX5_carryOut_13 rfl (lv_at hl 0 rfl) ?_
          refine lv_ifnull hx hb dX5_carryOut_14 ?_
          refine lv_aload_n hx hb dX5_carryOut_17 rfl (lv_at hl 0 rfl) ?_
          refine lv_aload_n hx hb dX5_carryOut_18 rfl (lv_at hl 1 rfl) ?_
          refine w_getr (j2 := 63) hx hb hts (z_memU u5) hown hK.1 hS f5_3 (by decide) (zkd_of (rfl : zcd wC 60 = 19) rfl) (zrf_of (rfl : zcd wC 60 = 19) rfl) (Or.inl (hts _ (z_mem k147))) dX5_carryOut_19 ?_
          refine z_iconst hx hb dX5_carryOut_22 ?_
          refine lv_iload_n hx hb dX5_carryOut_23 rfl (lv_at hl 3 rfl) ?_
          refine z_imul hx hb dX5_carryOut_24 ?_
          obtain ⟨o25, h⟩ := h
          refine w_iald (n := 8) (i := (sI (2 * x1))) hx hb hK.1 (t0 := 0) rfl hS (by decide) (zkd_of (rfl : zcd wC 63 = 22) rfl) (zln_of (rfl : zcd wC 63 = 22) rfl) rfl o25.1 o25.2 (by decide) dX5_carryOut_25 ?_
          refine w_callv (va_runV (As := [.int (iI (M2 63 (sI (2 * x1)).toNat))]) (rest := []) ⟨hx, hb, hml, hown, hts⟩ (cC_Ring_cutBy l D dA b M2 q14 (M2 63 (sI (2 * x1)).toNat) lt15 cd16 _ h) (cwV 1 hts (z_gV k666 k667 k668 k6 k669) rfl rfl rfl dm_X6_cutBy ⟨Nat.le_of_ble_eq_true rfl, Nat.le_of_ble_eq_true rfl⟩) ⟨wPre_blind, (w_recv hS hK.1 lt15 (zkd_of cd16 rfl) (by decide) (rfl : vwCl[6]? = some (RX6, TX6, 6))), w_pre hS hK⟩ rfl rfl hl.1 rfl (lv_room (Nat.le_of_ble_eq_true rfl)) dX5_carryOut_26 ⟨Nat.le_refl _, Nat.le_refl _⟩) hS0 (fun M26 H locs h hS hS0 => ?_)
          refine lv_aload_n hx hb dX5_carryOut_29 rfl (lv_at hl 0 rfl) ?_
          refine lv_aload_n hx hb dX5_carryOut_30 rfl (lv_at hl 1 rfl) ?_
          refine w_getr (j2 := 63) hx hb hts (z_memU u5) hown hK.1 hS f5_3 (by decide) (zkd_of (rfl : zcd wC 60 = 19) rfl) (zrf_of (rfl : zcd wC 60 = 19) rfl) (Or.inl (hts _ (z_mem k147))) dX5_carryOut_31 ?_
          refine z_iconst hx hb dX5_carryOut_34 ?_
          refine lv_iload_n hx hb dX5_carryOut_35 rfl (lv_at hl 3 rfl) ?_
          refine z_imul hx hb dX5_carryOut_36 ?_
          refine z_iconst hx hb dX5_carryOut_37 ?_
          refine z_iadd hx hb dX5_carryOut_38 ?_
          obtain ⟨o27, h⟩ := h
          refine w_iald (n := 8) (i := (sI ((2 * x1) + 1))) hx hb hK.1 (t0 := 0) rfl hS (by decide) (zkd_of (rfl : zcd wC 63 = 22) rfl) (zln_of (rfl : zcd wC 63 = 22) rfl) rfl o27.1 o27.2 (by decide) dX5_carryOut_39 ?_
          refine w_puti hx hb hts (z_memU u6) tyX6 tyX6_ok nmX6 hown hK.1 hS hS0 f6_2 lt15 (zkd_of cd16 rfl) (Or.inl (hts _ (z_mem k102))) rfl (z := (M26 63 (sI ((2 * x1) + 1)).toNat)) (by decide +kernel) dX5_carryOut_40 (fun H locs hS hS0 => ?_)
          obtain ⟨M28, e29⟩ : ∃ M28 : zM, M28 = zup M26 q14 2 (M26 63 (sI ((2 * x1) + 1)).toNat) := ⟨_, rfl⟩
          rw [← e29] at hS
          have h := h M28 e29
          refine z_iinc (lv' := [(2, .int (iI (x1 + 1))), (3, .ref (b + q14)), (0, .ref (b + 60)), (1, .ref (b + 32))]) hx hb dX5_carryOut_43 hl (k := 3) rfl (by decide) rfl (fun ls hl => ?_)
          refine lv_goto (tgt := 2) hx hb dX5_carryOut_46 (by decide) ?_
          obtain ⟨n30, h31, h⟩ := h
          exact i9 n30 h31 (x1 + 1) M28 _ _ _ h hS hS0 (lv_sub hl [2, 3, 0] rfl)
  exact L7 n4 0 M _ _ _ h5 hS hS0 (lv_sub hl [1, 2, 0] rfl)

set_option maxRecDepth 100000 in
def wC_make  (M : zM) (Q : Int → zM → Prop) : Prop := wC_Planner_find  M (fun z2 M1 => (z2 = (-1) → Q z2 M1) ∧ (z2 ≠ (-1) → wC_Planner_carryOut  M1 (fun M5 => Q z2 M5)))
set_option maxHeartbeats 4000000 in
set_option maxRecDepth 100000 in
theorem cC_make (l : Launch) (D : va_G) (dA : Nat → ClassId) (b : Nat) (M : zM)   (Q : Int → zM → Prop) (h : wC_make  M Q) : Met l yX11_make (.code yX11_make cX11_make 2 (some .int) :: zt) (z_rm 6) (va_Pc [.ref (b + 0)] (wPre D dA vwCl (z_tys dA) wC nC b M)) (va_Qi (wQi Q) (zB D dA vwCl wC nC b) (zA nC b)) 0 0 (zA nC b) := by
  unfold wC_make at h
  refine Met.ofW (cc := cX11_make) (maxL := 2) (ret := (some .int)) (by decide) rfl ?_
  intro p e s m args below meth c s₁ B hml hv
  obtain ⟨hargs, hS, hK⟩ := hv
  have hx := B.exec
  have hb := B.bytes
  have hr := B.returns
  have hts := atoms_spec (ws := .code yX11_make cX11_make 2 (some .int) :: zt) B.pre
  have hown : s.vm.findClass RX11 = some m.cls := findClass_of_methodNamed B.named
  have hlocks := B.notSynchronized
  have hS0 : va_S (zA nC b) s.heap s.heap [] := va_S.rf
  have hl := lv_entry ([.ref (b + 0)]) (n := 2) (Nat.le_of_ble_eq_true rfl)
  have hent : entryFrame m args 2 = F0 m 0 ((lg_sl ([.ref (b + 0)]) ++ List.replicate (2 - (lg_sl ([.ref (b + 0)])).length) Slot.unset).toArray) [] := by rw [hargs]; exact lg_entry_eq m ([.ref (b + 0)]) 2
  rw [hent]
  generalize (lg_sl ([.ref (b + 0)]) ++ List.replicate (2 - (lg_sl ([.ref (b + 0)])).length) Slot.unset).toArray = ls at hl ⊢
  have hl : lv_has ls 2 [(0, .ref (b + 0))] := hl
  refine lv_aload_n hx hb dX11_make_0 rfl (lv_at hl 0 rfl) ?_
  refine w_getr (j2 := 60) hx hb hts (z_memU u11) hown hK.1 hS f11_4 (by decide) (zkd_of (rfl : zcd wC 0 = 0) rfl) (zrf_of (rfl : zcd wC 0 = 0) rfl) (Or.inl (hts _ (z_mem k246))) dX11_make_1 ?_
  refine lv_aload_n hx hb dX11_make_4 rfl (lv_at hl 0 rfl) ?_
  refine w_getr (j2 := 32) hx hb hts (z_memU u11) hown hK.1 hS f11_2 (by decide) (zkd_of (rfl : zcd wC 0 = 0) rfl) (zrf_of (rfl : zcd wC 0 = 0) rfl) (Or.inl (hts _ (z_mem k244))) dX11_make_5 ?_
  refine w_calli (va_runV (As := [.ref (b + 32)]) (rest := []) ⟨hx, hb, hml, hown, hts⟩ (cC_Planner_find l D dA b M  _ h) (cwV 1 hts (z_gV k621 k622 k623 k8 k624) rfl rfl rfl dm_X5_find ⟨Nat.le_of_ble_eq_true rfl, Nat.le_of_ble_eq_true rfl⟩) ⟨wPre_blind, (w_recv hS hK.1 (by decide) (zkd_of (rfl : zcd wC 60 = 19) rfl) (by decide) (rfl : vwCl[5]? = some (RX5, TX5, 9))), w_pre hS hK⟩ rfl rfl hl.1 rfl (lv_room (Nat.le_of_ble_eq_true rfl)) dX11_make_8 ⟨Nat.le_refl _, Nat.le_refl _⟩) hS0 (fun z2 M1 H locs r3 h hS hS0 => ?_)
  refine lv_istore_n (lv' := [(1, .int (iI z2)), (0, .ref (b + 0))]) hx hb dX11_make_11 rfl hl (by decide) rfl (fun ls hl => ?_)
  refine lv_iload_n hx hb dX11_make_12 rfl (lv_at hl 0 rfl) ?_
  refine z_iconst hx hb dX11_make_13 ?_
  refine w_icmp_eq (tgt := 28) hx hb (sI_of r3) (sI_of (by decide)) dX11_make_14 (by decide) (fun c4 => ?_) (fun c4 => ?_)
  · skip
    have h := h.1 c4
    refine lv_iload_n hx hb dX11_make_28 rfl (lv_at hl 0 rfl) ?_
    exact w_iret hx hb hr hlocks hS hS0 (sI_of r3) h dX11_make_29
  · skip
    have h := h.2 c4
    refine lv_aload_n hx hb dX11_make_17 rfl (lv_at hl 1 rfl) ?_
    refine w_getr (j2 := 60) hx hb hts (z_memU u11) hown hK.1 hS f11_4 (by decide) (zkd_of (rfl : zcd wC 0 = 0) rfl) (zrf_of (rfl : zcd wC 0 = 0) rfl) (Or.inl (hts _ (z_mem k246))) dX11_make_18 ?_
    refine lv_aload_n hx hb dX11_make_21 rfl (lv_at hl 1 rfl) ?_
    refine w_getr (j2 := 32) hx hb hts (z_memU u11) hown hK.1 hS f11_2 (by decide) (zkd_of (rfl : zcd wC 0 = 0) rfl) (zrf_of (rfl : zcd wC 0 = 0) rfl) (Or.inl (hts _ (z_mem k244))) dX11_make_22 ?_
    refine w_callv (va_runV (As := [.ref (b + 32)]) (rest := []) ⟨hx, hb, hml, hown, hts⟩ (cC_Planner_carryOut l D dA b M1  _ h) (cwV 1 hts (z_gV k662 k663 k664 k8 k665) rfl rfl rfl dm_X5_carryOut ⟨Nat.le_of_ble_eq_true rfl, Nat.le_of_ble_eq_true rfl⟩) ⟨wPre_blind, (w_recv hS hK.1 (by decide) (zkd_of (rfl : zcd wC 60 = 19) rfl) (by decide) (rfl : vwCl[5]? = some (RX5, TX5, 9))), w_pre hS hK⟩ rfl rfl hl.1 rfl (lv_room (Nat.le_of_ble_eq_true rfl)) dX11_make_25 ⟨Nat.le_refl _, Nat.le_refl _⟩) hS0 (fun M5 H locs h hS hS0 => ?_)
    refine lv_iload_n hx hb dX11_make_28 rfl (lv_at hl 0 rfl) ?_
    exact w_iret hx hb hr hlocks hS hS0 (sI_of r3) h dX11_make_29
