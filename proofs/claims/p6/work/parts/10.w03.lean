/-! the W layer, 3 -/
theorem dJ6_bitCount_0f7a4_0 : decode cJ6_bitCount_0f7a4 0 = .ok (.iload_n 0, 1) := by decide +kernel
theorem dJ6_bitCount_0f7a4_1 : decode cJ6_bitCount_0f7a4 1 = .ok (.iload_n 0, 1) := by decide +kernel
theorem dJ6_bitCount_0f7a4_10 : decode cJ6_bitCount_0f7a4 10 = .ok (.iload_n 0, 1) := by decide +kernel
theorem dJ6_bitCount_0f7a4_11 : decode cJ6_bitCount_0f7a4 11 = .ok (.ldc_w 266, 3) := by decide +kernel
theorem dJ6_bitCount_0f7a4_14 : decode cJ6_bitCount_0f7a4 14 = .ok (.iand, 1) := by decide +kernel
theorem dJ6_bitCount_0f7a4_15 : decode cJ6_bitCount_0f7a4 15 = .ok (.iload_n 0, 1) := by decide +kernel
theorem dJ6_bitCount_0f7a4_16 : decode cJ6_bitCount_0f7a4 16 = .ok (.iconst 2, 1) := by decide +kernel
theorem dJ6_bitCount_0f7a4_17 : decode cJ6_bitCount_0f7a4 17 = .ok (.iushr, 1) := by decide +kernel
theorem dJ6_bitCount_0f7a4_18 : decode cJ6_bitCount_0f7a4 18 = .ok (.ldc_w 266, 3) := by decide +kernel
theorem dJ6_bitCount_0f7a4_2 : decode cJ6_bitCount_0f7a4 2 = .ok (.iconst 1, 1) := by decide +kernel
theorem dJ6_bitCount_0f7a4_21 : decode cJ6_bitCount_0f7a4 21 = .ok (.iand, 1) := by decide +kernel
theorem dJ6_bitCount_0f7a4_22 : decode cJ6_bitCount_0f7a4 22 = .ok (.iadd, 1) := by decide +kernel
theorem dJ6_bitCount_0f7a4_23 : decode cJ6_bitCount_0f7a4 23 = .ok (.istore_n 0, 1) := by decide +kernel
theorem dJ6_bitCount_0f7a4_24 : decode cJ6_bitCount_0f7a4 24 = .ok (.iload_n 0, 1) := by decide +kernel
theorem dJ6_bitCount_0f7a4_25 : decode cJ6_bitCount_0f7a4 25 = .ok (.iload_n 0, 1) := by decide +kernel
theorem dJ6_bitCount_0f7a4_26 : decode cJ6_bitCount_0f7a4 26 = .ok (.iconst 4, 1) := by decide +kernel
theorem dJ6_bitCount_0f7a4_27 : decode cJ6_bitCount_0f7a4 27 = .ok (.iushr, 1) := by decide +kernel
theorem dJ6_bitCount_0f7a4_28 : decode cJ6_bitCount_0f7a4 28 = .ok (.iadd, 1) := by decide +kernel
theorem dJ6_bitCount_0f7a4_29 : decode cJ6_bitCount_0f7a4 29 = .ok (.ldc_w 267, 3) := by decide +kernel
theorem dJ6_bitCount_0f7a4_3 : decode cJ6_bitCount_0f7a4 3 = .ok (.iushr, 1) := by decide +kernel
theorem dJ6_bitCount_0f7a4_32 : decode cJ6_bitCount_0f7a4 32 = .ok (.iand, 1) := by decide +kernel
theorem dJ6_bitCount_0f7a4_33 : decode cJ6_bitCount_0f7a4 33 = .ok (.istore_n 0, 1) := by decide +kernel
theorem dJ6_bitCount_0f7a4_34 : decode cJ6_bitCount_0f7a4 34 = .ok (.iload_n 0, 1) := by decide +kernel
theorem dJ6_bitCount_0f7a4_35 : decode cJ6_bitCount_0f7a4 35 = .ok (.iload_n 0, 1) := by decide +kernel
theorem dJ6_bitCount_0f7a4_36 : decode cJ6_bitCount_0f7a4 36 = .ok (.bipush 8, 2) := by decide +kernel
theorem dJ6_bitCount_0f7a4_38 : decode cJ6_bitCount_0f7a4 38 = .ok (.iushr, 1) := by decide +kernel
theorem dJ6_bitCount_0f7a4_39 : decode cJ6_bitCount_0f7a4 39 = .ok (.iadd, 1) := by decide +kernel
theorem dJ6_bitCount_0f7a4_4 : decode cJ6_bitCount_0f7a4 4 = .ok (.ldc_w 265, 3) := by decide +kernel
theorem dJ6_bitCount_0f7a4_40 : decode cJ6_bitCount_0f7a4 40 = .ok (.istore_n 0, 1) := by decide +kernel
theorem dJ6_bitCount_0f7a4_41 : decode cJ6_bitCount_0f7a4 41 = .ok (.iload_n 0, 1) := by decide +kernel
theorem dJ6_bitCount_0f7a4_42 : decode cJ6_bitCount_0f7a4 42 = .ok (.iload_n 0, 1) := by decide +kernel
theorem dJ6_bitCount_0f7a4_43 : decode cJ6_bitCount_0f7a4 43 = .ok (.bipush 16, 2) := by decide +kernel
theorem dJ6_bitCount_0f7a4_45 : decode cJ6_bitCount_0f7a4 45 = .ok (.iushr, 1) := by decide +kernel
theorem dJ6_bitCount_0f7a4_46 : decode cJ6_bitCount_0f7a4 46 = .ok (.iadd, 1) := by decide +kernel
theorem dJ6_bitCount_0f7a4_47 : decode cJ6_bitCount_0f7a4 47 = .ok (.istore_n 0, 1) := by decide +kernel
theorem dJ6_bitCount_0f7a4_48 : decode cJ6_bitCount_0f7a4 48 = .ok (.iload_n 0, 1) := by decide +kernel
theorem dJ6_bitCount_0f7a4_49 : decode cJ6_bitCount_0f7a4 49 = .ok (.bipush 63, 2) := by decide +kernel
theorem dJ6_bitCount_0f7a4_51 : decode cJ6_bitCount_0f7a4 51 = .ok (.iand, 1) := by decide +kernel
theorem dJ6_bitCount_0f7a4_52 : decode cJ6_bitCount_0f7a4 52 = .ok (.ireturn, 1) := by decide +kernel
theorem dJ6_bitCount_0f7a4_7 : decode cJ6_bitCount_0f7a4 7 = .ok (.iand, 1) := by decide +kernel
theorem dJ6_bitCount_0f7a4_8 : decode cJ6_bitCount_0f7a4 8 = .ok (.isub, 1) := by decide +kernel
theorem dJ6_bitCount_0f7a4_9 : decode cJ6_bitCount_0f7a4 9 = .ok (.istore_n 0, 1) := by decide +kernel
theorem dX11_head_0 : decode cX11_head 0 = .ok (.aload_n 0, 1) := by decide +kernel
theorem dX11_head_1 : decode cX11_head 1 = .ok (.getfield 26, 3) := by decide +kernel
theorem dX11_head_10 : decode cX11_head 10 = .ok (.aload 4, 2) := by decide +kernel
theorem dX11_head_12 : decode cX11_head 12 = .ok (.ifnull 13, 3) := by decide +kernel
theorem dX11_head_15 : decode cX11_head 15 = .ok (.iload_n 2, 1) := by decide +kernel
theorem dX11_head_16 : decode cX11_head 16 = .ok (.iconst 0, 1) := by decide +kernel
theorem dX11_head_17 : decode cX11_head 17 = .ok (.bipush 23, 2) := by decide +kernel
theorem dX11_head_19 : decode cX11_head 19 = .ok (.invokestatic 113, 3) := by decide +kernel
theorem dX11_head_22 : decode cX11_head 22 = .ok (.ifCond .ne 5, 3) := by decide +kernel
theorem dX11_head_25 : decode cX11_head 25 = .ok (.iconst (-1), 1) := by decide +kernel
theorem dX11_head_26 : decode cX11_head 26 = .ok (.ireturn, 1) := by decide +kernel
theorem dX11_head_27 : decode cX11_head 27 = .ok (.aload 4, 2) := by decide +kernel
theorem dX11_head_29 : decode cX11_head 29 = .ok (.iload_n 2, 1) := by decide +kernel
theorem dX11_head_30 : decode cX11_head 30 = .ok (.iload_n 3, 1) := by decide +kernel
theorem dX11_head_31 : decode cX11_head 31 = .ok (.invokevirtual 130, 3) := by decide +kernel
theorem dX11_head_34 : decode cX11_head 34 = .ok (.ireturn, 1) := by decide +kernel
theorem dX11_head_4 : decode cX11_head 4 = .ok (.iload_n 1, 1) := by decide +kernel
theorem dX11_head_5 : decode cX11_head 5 = .ok (.invokevirtual 104, 3) := by decide +kernel
theorem dX11_head_8 : decode cX11_head 8 = .ok (.astore 4, 2) := by decide +kernel
theorem dX11_over_0 : decode cX11_over 0 = .ok (.aload_n 0, 1) := by decide +kernel
theorem dX11_over_1 : decode cX11_over 1 = .ok (.getfield 26, 3) := by decide +kernel
theorem dX11_over_10 : decode cX11_over 10 = .ok (.aload 4, 2) := by decide +kernel
theorem dX11_over_12 : decode cX11_over 12 = .ok (.ifnull 34, 3) := by decide +kernel
theorem dX11_over_15 : decode cX11_over 15 = .ok (.aload 4, 2) := by decide +kernel
theorem dX11_over_17 : decode cX11_over 17 = .ok (.getfield 108, 3) := by decide +kernel
theorem dX11_over_20 : decode cX11_over 20 = .ok (.iload_n 2, 1) := by decide +kernel
theorem dX11_over_21 : decode cX11_over 21 = .ok (.invokevirtual 98, 3) := by decide +kernel
theorem dX11_over_24 : decode cX11_over 24 = .ok (.ifCond .eq 22, 3) := by decide +kernel
theorem dX11_over_27 : decode cX11_over 27 = .ok (.iload_n 3, 1) := by decide +kernel
theorem dX11_over_28 : decode cX11_over 28 = .ok (.iconst 0, 1) := by decide +kernel
theorem dX11_over_29 : decode cX11_over 29 = .ok (.iconst 1, 1) := by decide +kernel
theorem dX11_over_30 : decode cX11_over 30 = .ok (.invokestatic 113, 3) := by decide +kernel
theorem dX11_over_33 : decode cX11_over 33 = .ok (.ifCond .eq 13, 3) := by decide +kernel
theorem dX11_over_36 : decode cX11_over 36 = .ok (.aload_n 0, 1) := by decide +kernel
theorem dX11_over_37 : decode cX11_over 37 = .ok (.getfield 19, 3) := by decide +kernel
theorem dX11_over_4 : decode cX11_over 4 = .ok (.iload_n 1, 1) := by decide +kernel
theorem dX11_over_40 : decode cX11_over 40 = .ok (.getfield 117, 3) := by decide +kernel
theorem dX11_over_43 : decode cX11_over 43 = .ok (.ifCond .ne 5, 3) := by decide +kernel
theorem dX11_over_46 : decode cX11_over 46 = .ok (.iconst (-1), 1) := by decide +kernel
theorem dX11_over_47 : decode cX11_over 47 = .ok (.ireturn, 1) := by decide +kernel
theorem dX11_over_48 : decode cX11_over 48 = .ok (.aload 4, 2) := by decide +kernel
theorem dX11_over_5 : decode cX11_over 5 = .ok (.invokevirtual 104, 3) := by decide +kernel
theorem dX11_over_50 : decode cX11_over 50 = .ok (.aload_n 0, 1) := by decide +kernel
theorem dX11_over_51 : decode cX11_over 51 = .ok (.getfield 19, 3) := by decide +kernel
theorem dX11_over_54 : decode cX11_over 54 = .ok (.iload_n 2, 1) := by decide +kernel
theorem dX11_over_55 : decode cX11_over 55 = .ok (.iload_n 3, 1) := by decide +kernel
theorem dX11_over_56 : decode cX11_over 56 = .ok (.iconst 1, 1) := by decide +kernel
theorem dX11_over_57 : decode cX11_over 57 = .ok (.if_icmp .ne 7, 3) := by decide +kernel
theorem dX11_over_60 : decode cX11_over 60 = .ok (.iconst 1, 1) := by decide +kernel
theorem dX11_over_61 : decode cX11_over 61 = .ok (.goto 4, 3) := by decide +kernel
theorem dX11_over_64 : decode cX11_over 64 = .ok (.iconst 0, 1) := by decide +kernel
theorem dX11_over_65 : decode cX11_over 65 = .ok (.invokevirtual 120, 3) := by decide +kernel
theorem dX11_over_68 : decode cX11_over 68 = .ok (.ireturn, 1) := by decide +kernel
theorem dX11_over_8 : decode cX11_over 8 = .ok (.astore 4, 2) := by decide +kernel
theorem dX11_set_0 : decode cX11_set 0 = .ok (.aload_n 0, 1) := by decide +kernel
theorem dX11_set_1 : decode cX11_set 1 = .ok (.getfield 26, 3) := by decide +kernel
theorem dX11_set_10 : decode cX11_set 10 = .ok (.aload 4, 2) := by decide +kernel
theorem dX11_set_12 : decode cX11_set 12 = .ok (.ifnonnull 5, 3) := by decide +kernel
theorem dX11_set_15 : decode cX11_set 15 = .ok (.iconst (-1), 1) := by decide +kernel
theorem dX11_set_16 : decode cX11_set 16 = .ok (.ireturn, 1) := by decide +kernel
theorem dX11_set_17 : decode cX11_set 17 = .ok (.iconst (-1), 1) := by decide +kernel
theorem dX11_set_18 : decode cX11_set 18 = .ok (.istore 5, 2) := by decide +kernel
theorem dX11_set_20 : decode cX11_set 20 = .ok (.iload_n 2, 1) := by decide +kernel
theorem dX11_set_21 : decode cX11_set 21 = .ok (.ifCond .ne 26, 3) := by decide +kernel
theorem dX11_set_24 : decode cX11_set 24 = .ok (.iload_n 3, 1) := by decide +kernel
theorem dX11_set_25 : decode cX11_set 25 = .ok (.invokestatic 95, 3) := by decide +kernel
theorem dX11_set_28 : decode cX11_set 28 = .ok (.ifCond .eq 19, 3) := by decide +kernel
theorem dX11_set_31 : decode cX11_set 31 = .ok (.aload 4, 2) := by decide +kernel
theorem dX11_set_33 : decode cX11_set 33 = .ok (.getfield 124, 3) := by decide +kernel
theorem dX11_set_36 : decode cX11_set 36 = .ok (.istore 5, 2) := by decide +kernel
theorem dX11_set_38 : decode cX11_set 38 = .ok (.aload 4, 2) := by decide +kernel
theorem dX11_set_4 : decode cX11_set 4 = .ok (.iload_n 1, 1) := by decide +kernel
theorem dX11_set_40 : decode cX11_set 40 = .ok (.iload_n 3, 1) := by decide +kernel
theorem dX11_set_41 : decode cX11_set 41 = .ok (.putfield 124, 3) := by decide +kernel
theorem dX11_set_44 : decode cX11_set 44 = .ok (.goto 33, 3) := by decide +kernel
theorem dX11_set_47 : decode cX11_set 47 = .ok (.iload_n 2, 1) := by decide +kernel
theorem dX11_set_48 : decode cX11_set 48 = .ok (.iconst 1, 1) := by decide +kernel
theorem dX11_set_49 : decode cX11_set 49 = .ok (.if_icmp .ne 28, 3) := by decide +kernel
theorem dX11_set_5 : decode cX11_set 5 = .ok (.invokevirtual 104, 3) := by decide +kernel
theorem dX11_set_52 : decode cX11_set 52 = .ok (.aload 4, 2) := by decide +kernel
theorem dX11_set_54 : decode cX11_set 54 = .ok (.getfield 108, 3) := by decide +kernel
theorem dX11_set_57 : decode cX11_set 57 = .ok (.iload_n 3, 1) := by decide +kernel
theorem dX11_set_58 : decode cX11_set 58 = .ok (.invokevirtual 98, 3) := by decide +kernel
theorem dX11_set_61 : decode cX11_set 61 = .ok (.ifCond .eq 16, 3) := by decide +kernel
theorem dX11_set_64 : decode cX11_set 64 = .ok (.aload 4, 2) := by decide +kernel
theorem dX11_set_66 : decode cX11_set 66 = .ok (.getfield 127, 3) := by decide +kernel
theorem dX11_set_69 : decode cX11_set 69 = .ok (.istore 5, 2) := by decide +kernel
theorem dX11_set_71 : decode cX11_set 71 = .ok (.aload 4, 2) := by decide +kernel
theorem dX11_set_73 : decode cX11_set 73 = .ok (.iload_n 3, 1) := by decide +kernel
theorem dX11_set_74 : decode cX11_set 74 = .ok (.putfield 127, 3) := by decide +kernel
theorem dX11_set_77 : decode cX11_set 77 = .ok (.iload 5, 2) := by decide +kernel
theorem dX11_set_79 : decode cX11_set 79 = .ok (.ireturn, 1) := by decide +kernel
theorem dX11_set_8 : decode cX11_set 8 = .ok (.astore 4, 2) := by decide +kernel
theorem dX2_tell_0 : decode cX2_tell 0 = .ok (.iconst 0, 1) := by decide +kernel
theorem dX2_tell_1 : decode cX2_tell 1 = .ok (.istore_n 3, 1) := by decide +kernel
theorem dX2_tell_10 : decode cX2_tell 10 = .ok (.aload_n 0, 1) := by decide +kernel
theorem dX2_tell_102 : decode cX2_tell 102 = .ok (.iload 4, 2) := by decide +kernel
theorem dX2_tell_104 : decode cX2_tell 104 = .ok (.iconst 1, 1) := by decide +kernel
theorem dX2_tell_105 : decode cX2_tell 105 = .ok (.isub, 1) := by decide +kernel
theorem dX2_tell_106 : decode cX2_tell 106 = .ok (.iaload, 1) := by decide +kernel
theorem dX2_tell_107 : decode cX2_tell 107 = .ok (.iastore, 1) := by decide +kernel
theorem dX2_tell_108 : decode cX2_tell 108 = .ok (.iinc 4 (-1), 3) := by decide +kernel
theorem dX2_tell_11 : decode cX2_tell 11 = .ok (.getfield 9, 3) := by decide +kernel
theorem dX2_tell_111 : decode cX2_tell 111 = .ok (.goto (-41), 3) := by decide +kernel
theorem dX2_tell_114 : decode cX2_tell 114 = .ok (.aload_n 0, 1) := by decide +kernel
theorem dX2_tell_115 : decode cX2_tell 115 = .ok (.getfield 9, 3) := by decide +kernel
theorem dX2_tell_118 : decode cX2_tell 118 = .ok (.iload_n 3, 1) := by decide +kernel
theorem dX2_tell_119 : decode cX2_tell 119 = .ok (.iload_n 1, 1) := by decide +kernel
theorem dX2_tell_120 : decode cX2_tell 120 = .ok (.iastore, 1) := by decide +kernel
theorem dX2_tell_121 : decode cX2_tell 121 = .ok (.aload_n 0, 1) := by decide +kernel
theorem dX2_tell_122 : decode cX2_tell 122 = .ok (.getfield 15, 3) := by decide +kernel
theorem dX2_tell_125 : decode cX2_tell 125 = .ok (.iload_n 3, 1) := by decide +kernel
theorem dX2_tell_126 : decode cX2_tell 126 = .ok (.iload_n 2, 1) := by decide +kernel
theorem dX2_tell_127 : decode cX2_tell 127 = .ok (.iastore, 1) := by decide +kernel
theorem dX2_tell_128 : decode cX2_tell 128 = .ok (.aload_n 0, 1) := by decide +kernel
theorem dX2_tell_129 : decode cX2_tell 129 = .ok (.dup, 1) := by decide +kernel
theorem dX2_tell_130 : decode cX2_tell 130 = .ok (.getfield 18, 3) := by decide +kernel
theorem dX2_tell_133 : decode cX2_tell 133 = .ok (.iconst 1, 1) := by decide +kernel
theorem dX2_tell_134 : decode cX2_tell 134 = .ok (.iadd, 1) := by decide +kernel
theorem dX2_tell_135 : decode cX2_tell 135 = .ok (.putfield 18, 3) := by decide +kernel
theorem dX2_tell_138 : decode cX2_tell 138 = .ok (.iconst 1, 1) := by decide +kernel
theorem dX2_tell_139 : decode cX2_tell 139 = .ok (.ireturn, 1) := by decide +kernel
theorem dX2_tell_14 : decode cX2_tell 14 = .ok (.iload_n 3, 1) := by decide +kernel
theorem dX2_tell_15 : decode cX2_tell 15 = .ok (.iaload, 1) := by decide +kernel
theorem dX2_tell_16 : decode cX2_tell 16 = .ok (.iload_n 1, 1) := by decide +kernel
theorem dX2_tell_17 : decode cX2_tell 17 = .ok (.if_icmp .ge 9, 3) := by decide +kernel
theorem dX2_tell_2 : decode cX2_tell 2 = .ok (.iload_n 3, 1) := by decide +kernel
theorem dX2_tell_20 : decode cX2_tell 20 = .ok (.iinc 3 1, 3) := by decide +kernel
theorem dX2_tell_23 : decode cX2_tell 23 = .ok (.goto (-21), 3) := by decide +kernel
theorem dX2_tell_26 : decode cX2_tell 26 = .ok (.iload_n 3, 1) := by decide +kernel
theorem dX2_tell_27 : decode cX2_tell 27 = .ok (.aload_n 0, 1) := by decide +kernel
theorem dX2_tell_28 : decode cX2_tell 28 = .ok (.getfield 18, 3) := by decide +kernel
theorem dX2_tell_3 : decode cX2_tell 3 = .ok (.aload_n 0, 1) := by decide +kernel
theorem dX2_tell_31 : decode cX2_tell 31 = .ok (.if_icmp .ge 22, 3) := by decide +kernel
theorem dX2_tell_34 : decode cX2_tell 34 = .ok (.aload_n 0, 1) := by decide +kernel
theorem dX2_tell_35 : decode cX2_tell 35 = .ok (.getfield 9, 3) := by decide +kernel
theorem dX2_tell_38 : decode cX2_tell 38 = .ok (.iload_n 3, 1) := by decide +kernel
theorem dX2_tell_39 : decode cX2_tell 39 = .ok (.iaload, 1) := by decide +kernel
theorem dX2_tell_4 : decode cX2_tell 4 = .ok (.getfield 18, 3) := by decide +kernel
theorem dX2_tell_40 : decode cX2_tell 40 = .ok (.iload_n 1, 1) := by decide +kernel
theorem dX2_tell_41 : decode cX2_tell 41 = .ok (.if_icmp .ne 12, 3) := by decide +kernel
theorem dX2_tell_44 : decode cX2_tell 44 = .ok (.aload_n 0, 1) := by decide +kernel
theorem dX2_tell_45 : decode cX2_tell 45 = .ok (.getfield 15, 3) := by decide +kernel
theorem dX2_tell_48 : decode cX2_tell 48 = .ok (.iload_n 3, 1) := by decide +kernel
theorem dX2_tell_49 : decode cX2_tell 49 = .ok (.iload_n 2, 1) := by decide +kernel
theorem dX2_tell_50 : decode cX2_tell 50 = .ok (.iastore, 1) := by decide +kernel
theorem dX2_tell_51 : decode cX2_tell 51 = .ok (.iconst 1, 1) := by decide +kernel
theorem dX2_tell_52 : decode cX2_tell 52 = .ok (.ireturn, 1) := by decide +kernel
theorem dX2_tell_53 : decode cX2_tell 53 = .ok (.aload_n 0, 1) := by decide +kernel
theorem dX2_tell_54 : decode cX2_tell 54 = .ok (.getfield 18, 3) := by decide +kernel
theorem dX2_tell_57 : decode cX2_tell 57 = .ok (.bipush 12, 2) := by decide +kernel
theorem dX2_tell_59 : decode cX2_tell 59 = .ok (.if_icmp .lt 5, 3) := by decide +kernel
theorem dX2_tell_62 : decode cX2_tell 62 = .ok (.iconst 0, 1) := by decide +kernel
theorem dX2_tell_63 : decode cX2_tell 63 = .ok (.ireturn, 1) := by decide +kernel
theorem dX2_tell_64 : decode cX2_tell 64 = .ok (.aload_n 0, 1) := by decide +kernel
theorem dX2_tell_65 : decode cX2_tell 65 = .ok (.getfield 18, 3) := by decide +kernel
theorem dX2_tell_68 : decode cX2_tell 68 = .ok (.istore 4, 2) := by decide +kernel
theorem dX2_tell_7 : decode cX2_tell 7 = .ok (.if_icmp .ge 19, 3) := by decide +kernel
theorem dX2_tell_70 : decode cX2_tell 70 = .ok (.iload 4, 2) := by decide +kernel
theorem dX2_tell_72 : decode cX2_tell 72 = .ok (.iload_n 3, 1) := by decide +kernel
theorem dX2_tell_73 : decode cX2_tell 73 = .ok (.if_icmp .le 41, 3) := by decide +kernel
theorem dX2_tell_76 : decode cX2_tell 76 = .ok (.aload_n 0, 1) := by decide +kernel
theorem dX2_tell_77 : decode cX2_tell 77 = .ok (.getfield 9, 3) := by decide +kernel
theorem dX2_tell_80 : decode cX2_tell 80 = .ok (.iload 4, 2) := by decide +kernel
theorem dX2_tell_82 : decode cX2_tell 82 = .ok (.aload_n 0, 1) := by decide +kernel
theorem dX2_tell_83 : decode cX2_tell 83 = .ok (.getfield 9, 3) := by decide +kernel
theorem dX2_tell_86 : decode cX2_tell 86 = .ok (.iload 4, 2) := by decide +kernel
theorem dX2_tell_88 : decode cX2_tell 88 = .ok (.iconst 1, 1) := by decide +kernel
theorem dX2_tell_89 : decode cX2_tell 89 = .ok (.isub, 1) := by decide +kernel
theorem dX2_tell_90 : decode cX2_tell 90 = .ok (.iaload, 1) := by decide +kernel
theorem dX2_tell_91 : decode cX2_tell 91 = .ok (.iastore, 1) := by decide +kernel
theorem dX2_tell_92 : decode cX2_tell 92 = .ok (.aload_n 0, 1) := by decide +kernel
theorem dX2_tell_93 : decode cX2_tell 93 = .ok (.getfield 15, 3) := by decide +kernel
theorem dX2_tell_96 : decode cX2_tell 96 = .ok (.iload 4, 2) := by decide +kernel
theorem dX2_tell_98 : decode cX2_tell 98 = .ok (.aload_n 0, 1) := by decide +kernel
theorem dX2_tell_99 : decode cX2_tell 99 = .ok (.getfield 15, 3) := by decide +kernel
theorem dX6_layOver_0 : decode cX6_layOver 0 = .ok (.iconst 0, 1) := by decide +kernel
theorem dX6_layOver_1 : decode cX6_layOver 1 = .ok (.istore 4, 2) := by decide +kernel
theorem dX6_layOver_100 : decode cX6_layOver 100 = .ok (.iinc 5 1, 3) := by decide +kernel
theorem dX6_layOver_103 : decode cX6_layOver 103 = .ok (.goto (-97), 3) := by decide +kernel
theorem dX6_layOver_106 : decode cX6_layOver 106 = .ok (.aload_n 0, 1) := by decide +kernel
theorem dX6_layOver_107 : decode cX6_layOver 107 = .ok (.invokevirtual 39, 3) := by decide +kernel
theorem dX6_layOver_110 : decode cX6_layOver 110 = .ok (.iload 4, 2) := by decide +kernel
theorem dX6_layOver_112 : decode cX6_layOver 112 = .ok (.ireturn, 1) := by decide +kernel
theorem dX6_layOver_12 : decode cX6_layOver 12 = .ok (.if_icmp .ge 94, 3) := by decide +kernel
theorem dX6_layOver_15 : decode cX6_layOver 15 = .ok (.aload_n 0, 1) := by decide +kernel
theorem dX6_layOver_16 : decode cX6_layOver 16 = .ok (.getfield 12, 3) := by decide +kernel
theorem dX6_layOver_19 : decode cX6_layOver 19 = .ok (.iload_n 2, 1) := by decide +kernel
theorem dX6_layOver_20 : decode cX6_layOver 20 = .ok (.iload 5, 2) := by decide +kernel
theorem dX6_layOver_22 : decode cX6_layOver 22 = .ok (.iadd, 1) := by decide +kernel
theorem dX6_layOver_23 : decode cX6_layOver 23 = .ok (.invokevirtual 60, 3) := by decide +kernel
theorem dX6_layOver_26 : decode cX6_layOver 26 = .ok (.ifCond .eq 80, 3) := by decide +kernel
theorem dX6_layOver_29 : decode cX6_layOver 29 = .ok (.aload_n 0, 1) := by decide +kernel
theorem dX6_layOver_3 : decode cX6_layOver 3 = .ok (.iconst 0, 1) := by decide +kernel
theorem dX6_layOver_30 : decode cX6_layOver 30 = .ok (.getfield 12, 3) := by decide +kernel
theorem dX6_layOver_33 : decode cX6_layOver 33 = .ok (.getfield 53, 3) := by decide +kernel
theorem dX6_layOver_36 : decode cX6_layOver 36 = .ok (.iload_n 2, 1) := by decide +kernel
theorem dX6_layOver_37 : decode cX6_layOver 37 = .ok (.iload 5, 2) := by decide +kernel
theorem dX6_layOver_39 : decode cX6_layOver 39 = .ok (.iadd, 1) := by decide +kernel
theorem dX6_layOver_4 : decode cX6_layOver 4 = .ok (.istore 5, 2) := by decide +kernel
theorem dX6_layOver_40 : decode cX6_layOver 40 = .ok (.iaload, 1) := by decide +kernel
theorem dX6_layOver_41 : decode cX6_layOver 41 = .ok (.istore 6, 2) := by decide +kernel
theorem dX6_layOver_43 : decode cX6_layOver 43 = .ok (.iload_n 3, 1) := by decide +kernel
theorem dX6_layOver_44 : decode cX6_layOver 44 = .ok (.ifCond .eq 16, 3) := by decide +kernel
theorem dX6_layOver_47 : decode cX6_layOver 47 = .ok (.iload 6, 2) := by decide +kernel
theorem dX6_layOver_49 : decode cX6_layOver 49 = .ok (.aload_n 1, 1) := by decide +kernel
theorem dX6_layOver_50 : decode cX6_layOver 50 = .ok (.getfield 53, 3) := by decide +kernel
theorem dX6_layOver_53 : decode cX6_layOver 53 = .ok (.iload 5, 2) := by decide +kernel
theorem dX6_layOver_55 : decode cX6_layOver 55 = .ok (.iaload, 1) := by decide +kernel
theorem dX6_layOver_56 : decode cX6_layOver 56 = .ok (.ior, 1) := by decide +kernel
theorem dX6_layOver_57 : decode cX6_layOver 57 = .ok (.goto 10, 3) := by decide +kernel
theorem dX6_layOver_6 : decode cX6_layOver 6 = .ok (.iload 5, 2) := by decide +kernel
theorem dX6_layOver_60 : decode cX6_layOver 60 = .ok (.aload_n 1, 1) := by decide +kernel
theorem dX6_layOver_61 : decode cX6_layOver 61 = .ok (.getfield 53, 3) := by decide +kernel
theorem dX6_layOver_64 : decode cX6_layOver 64 = .ok (.iload 5, 2) := by decide +kernel
theorem dX6_layOver_66 : decode cX6_layOver 66 = .ok (.iaload, 1) := by decide +kernel
theorem dX6_layOver_67 : decode cX6_layOver 67 = .ok (.istore 7, 2) := by decide +kernel
theorem dX6_layOver_69 : decode cX6_layOver 69 = .ok (.aload_n 0, 1) := by decide +kernel
theorem dX6_layOver_70 : decode cX6_layOver 70 = .ok (.getfield 12, 3) := by decide +kernel
theorem dX6_layOver_73 : decode cX6_layOver 73 = .ok (.getfield 53, 3) := by decide +kernel
theorem dX6_layOver_76 : decode cX6_layOver 76 = .ok (.iload_n 2, 1) := by decide +kernel
theorem dX6_layOver_77 : decode cX6_layOver 77 = .ok (.iload 5, 2) := by decide +kernel
theorem dX6_layOver_79 : decode cX6_layOver 79 = .ok (.iadd, 1) := by decide +kernel
theorem dX6_layOver_8 : decode cX6_layOver 8 = .ok (.aload_n 1, 1) := by decide +kernel
theorem dX6_layOver_80 : decode cX6_layOver 80 = .ok (.iload 7, 2) := by decide +kernel
theorem dX6_layOver_82 : decode cX6_layOver 82 = .ok (.iastore, 1) := by decide +kernel
theorem dX6_layOver_83 : decode cX6_layOver 83 = .ok (.iload 4, 2) := by decide +kernel
theorem dX6_layOver_85 : decode cX6_layOver 85 = .ok (.iload 7, 2) := by decide +kernel
theorem dX6_layOver_87 : decode cX6_layOver 87 = .ok (.iload 6, 2) := by decide +kernel
theorem dX6_layOver_89 : decode cX6_layOver 89 = .ok (.if_icmp .ne 7, 3) := by decide +kernel
theorem dX6_layOver_9 : decode cX6_layOver 9 = .ok (.getfield 42, 3) := by decide +kernel
theorem dX6_layOver_92 : decode cX6_layOver 92 = .ok (.iconst 0, 1) := by decide +kernel
theorem dX6_layOver_93 : decode cX6_layOver 93 = .ok (.goto 4, 3) := by decide +kernel
theorem dX6_layOver_96 : decode cX6_layOver 96 = .ok (.iconst 1, 1) := by decide +kernel
theorem dX6_layOver_97 : decode cX6_layOver 97 = .ok (.iadd, 1) := by decide +kernel
theorem dX6_layOver_98 : decode cX6_layOver 98 = .ok (.istore 4, 2) := by decide +kernel
theorem dX6_putHead_0 : decode cX6_putHead 0 = .ok (.iload_n 2, 1) := by decide +kernel
theorem dX6_putHead_1 : decode cX6_putHead 1 = .ok (.ifCond .eq 14, 3) := by decide +kernel
theorem dX6_putHead_10 : decode cX6_putHead 10 = .ok (.ishl, 1) := by decide +kernel
theorem dX6_putHead_11 : decode cX6_putHead 11 = .ok (.ior, 1) := by decide +kernel
theorem dX6_putHead_12 : decode cX6_putHead 12 = .ok (.goto 13, 3) := by decide +kernel
theorem dX6_putHead_15 : decode cX6_putHead 15 = .ok (.aload_n 0, 1) := by decide +kernel
theorem dX6_putHead_16 : decode cX6_putHead 16 = .ok (.getfield 25, 3) := by decide +kernel
theorem dX6_putHead_19 : decode cX6_putHead 19 = .ok (.iconst 1, 1) := by decide +kernel
theorem dX6_putHead_20 : decode cX6_putHead 20 = .ok (.iload_n 1, 1) := by decide +kernel
theorem dX6_putHead_21 : decode cX6_putHead 21 = .ok (.ishl, 1) := by decide +kernel
theorem dX6_putHead_22 : decode cX6_putHead 22 = .ok (.iconst (-1), 1) := by decide +kernel
theorem dX6_putHead_23 : decode cX6_putHead 23 = .ok (.ixor, 1) := by decide +kernel
theorem dX6_putHead_24 : decode cX6_putHead 24 = .ok (.iand, 1) := by decide +kernel
theorem dX6_putHead_25 : decode cX6_putHead 25 = .ok (.istore_n 3, 1) := by decide +kernel
theorem dX6_putHead_26 : decode cX6_putHead 26 = .ok (.iload_n 3, 1) := by decide +kernel
theorem dX6_putHead_27 : decode cX6_putHead 27 = .ok (.ifCond .ne 5, 3) := by decide +kernel
theorem dX6_putHead_30 : decode cX6_putHead 30 = .ok (.iconst (-1), 1) := by decide +kernel
theorem dX6_putHead_31 : decode cX6_putHead 31 = .ok (.ireturn, 1) := by decide +kernel
theorem dX6_putHead_32 : decode cX6_putHead 32 = .ok (.aload_n 0, 1) := by decide +kernel
theorem dX6_putHead_33 : decode cX6_putHead 33 = .ok (.iload_n 3, 1) := by decide +kernel
theorem dX6_putHead_34 : decode cX6_putHead 34 = .ok (.putfield 25, 3) := by decide +kernel
theorem dX6_putHead_37 : decode cX6_putHead 37 = .ok (.aload_n 0, 1) := by decide +kernel
theorem dX6_putHead_38 : decode cX6_putHead 38 = .ok (.invokevirtual 39, 3) := by decide +kernel
theorem dX6_putHead_4 : decode cX6_putHead 4 = .ok (.aload_n 0, 1) := by decide +kernel
theorem dX6_putHead_41 : decode cX6_putHead 41 = .ok (.aload_n 0, 1) := by decide +kernel
theorem dX6_putHead_42 : decode cX6_putHead 42 = .ok (.getfield 25, 3) := by decide +kernel
theorem dX6_putHead_45 : decode cX6_putHead 45 = .ok (.invokestatic 64, 3) := by decide +kernel
theorem dX6_putHead_48 : decode cX6_putHead 48 = .ok (.ireturn, 1) := by decide +kernel
theorem dX6_putHead_5 : decode cX6_putHead 5 = .ok (.getfield 25, 3) := by decide +kernel
theorem dX6_putHead_8 : decode cX6_putHead 8 = .ok (.iconst 1, 1) := by decide +kernel
theorem dX6_putHead_9 : decode cX6_putHead 9 = .ok (.iload_n 1, 1) := by decide +kernel
theorem dX9_find_0 : decode cX9_find 0 = .ok (.iload_n 1, 1) := by decide +kernel
theorem dX9_find_1 : decode cX9_find 1 = .ok (.ifCond .lt 25, 3) := by decide +kernel
theorem dX9_find_12 : decode cX9_find 12 = .ok (.iload_n 1, 1) := by decide +kernel
theorem dX9_find_13 : decode cX9_find 13 = .ok (.iconst 4, 1) := by decide +kernel
theorem dX9_find_14 : decode cX9_find 14 = .ok (.if_icmp .ge 12, 3) := by decide +kernel
theorem dX9_find_17 : decode cX9_find 17 = .ok (.aload_n 0, 1) := by decide +kernel
theorem dX9_find_18 : decode cX9_find 18 = .ok (.getfield 19, 3) := by decide +kernel
theorem dX9_find_21 : decode cX9_find 21 = .ok (.iload_n 1, 1) := by decide +kernel
theorem dX9_find_22 : decode cX9_find 22 = .ok (.aaload, 1) := by decide +kernel
theorem dX9_find_23 : decode cX9_find 23 = .ok (.goto 4, 3) := by decide +kernel
theorem dX9_find_26 : decode cX9_find 26 = .ok (.aconst_null, 1) := by decide +kernel
theorem dX9_find_27 : decode cX9_find 27 = .ok (.areturn, 1) := by decide +kernel
theorem dX9_find_4 : decode cX9_find 4 = .ok (.iload_n 1, 1) := by decide +kernel
theorem dX9_find_5 : decode cX9_find 5 = .ok (.aload_n 0, 1) := by decide +kernel
theorem dX9_find_6 : decode cX9_find 6 = .ok (.getfield 23, 3) := by decide +kernel
theorem dX9_find_9 : decode cX9_find 9 = .ok (.if_icmp .ge 17, 3) := by decide +kernel
theorem dX9_motorOf_0 : decode cX9_motorOf 0 = .ok (.aload_n 0, 1) := by decide +kernel
theorem dX9_motorOf_1 : decode cX9_motorOf 1 = .ok (.getfield 11, 3) := by decide +kernel
theorem dX9_motorOf_12 : decode cX9_motorOf 12 = .ok (.iconst 1, 1) := by decide +kernel
theorem dX9_motorOf_13 : decode cX9_motorOf 13 = .ok (.aaload, 1) := by decide +kernel
theorem dX9_motorOf_14 : decode cX9_motorOf 14 = .ok (.areturn, 1) := by decide +kernel
theorem dX9_motorOf_4 : decode cX9_motorOf 4 = .ok (.iload_n 1, 1) := by decide +kernel
theorem dX9_motorOf_5 : decode cX9_motorOf 5 = .ok (.ifCond .ne 7, 3) := by decide +kernel
theorem dX9_motorOf_8 : decode cX9_motorOf 8 = .ok (.iconst 0, 1) := by decide +kernel
theorem dX9_motorOf_9 : decode cX9_motorOf 9 = .ok (.goto 4, 3) := by decide +kernel
theorem dm_X9_find : yX9_find.cls = RX9 ∧ yX9_find.cls ≠ "java/lang/invoke/MethodHandle" ∧ yX9_find.cls ≠ "java/lang/invoke/VarHandle" ∧ (parseMethodDescriptor yX9_find.desc).map (fun d => d.parameters.length) = some 1 := by decide +kernel
theorem dm_X6_layOver : yX6_layOver.cls = RX6 ∧ yX6_layOver.cls ≠ "java/lang/invoke/MethodHandle" ∧ yX6_layOver.cls ≠ "java/lang/invoke/VarHandle" ∧ (parseMethodDescriptor yX6_layOver.desc).map (fun d => d.parameters.length) = some 3 := by decide +kernel
theorem dm_J6_bitCount_0f7a4 : yJ6_bitCount_0f7a4.cls = RJ6 ∧ yJ6_bitCount_0f7a4.cls ≠ "java/lang/invoke/MethodHandle" ∧ yJ6_bitCount_0f7a4.cls ≠ "java/lang/invoke/VarHandle" ∧ (parseMethodDescriptor yJ6_bitCount_0f7a4.desc).map (fun d => d.parameters.length) = some 1 := by decide +kernel
theorem dm_X6_putHead : yX6_putHead.cls = RX6 ∧ yX6_putHead.cls ≠ "java/lang/invoke/MethodHandle" ∧ yX6_putHead.cls ≠ "java/lang/invoke/VarHandle" ∧ (parseMethodDescriptor yX6_putHead.desc).map (fun d => d.parameters.length) = some 2 := by decide +kernel
set_option maxRecDepth 100000 in
def wC_Studio_find (a0 : Int) (M : zM) (Q : Option Nat → Prop) : Prop := ((sI a0) < 0 → Q none) ∧ (0 ≤ (sI a0) → ((sI (M 32 2)) ≤ (sI a0) → Q none) ∧ ((sI a0) < (sI (M 32 2)) → (4 ≤ (sI a0) → Q none) ∧ ((sI a0) < 4 → ((0 ≤ (sI a0) ∧ (sI a0) < 4) ∧ Q (some (41 + 4 * (sI a0).toNat))))))
set_option maxHeartbeats 4000000 in
set_option maxRecDepth 100000 in
theorem cC_Studio_find (l : Launch) (D : va_G) (dA : Nat → ClassId) (b : Nat) (M : zM) (a0 : Int)  (Q : Option Nat → Prop) (h : wC_Studio_find a0 M Q) : Met l yX9_find (.code yX9_find cX9_find 2 (some (.object "TapeRings$Ring")) :: zt) (z_rm 0) (va_Pc [.ref (b + 32), .int (iI a0)] (wPre D dA vwCl (z_tys dA) wC nC b M)) (va_Qq (wQq b (fun z9 u9 => u9 = M ∧ Q z9)) (zB D dA vwCl wC nC b) (zA nC b)) 0 0 (zA nC b) := by
  unfold wC_Studio_find at h
  refine Met.ofW (cc := cX9_find) (maxL := 2) (ret := (some (.object "TapeRings$Ring"))) (by decide) rfl ?_
  intro p e s m args below meth c s₁ B hml hv
  obtain ⟨hargs, hS, hK⟩ := hv
  have hx := B.exec
  have hb := B.bytes
  have hr := B.returns
  have hts := atoms_spec (ws := .code yX9_find cX9_find 2 (some (.object "TapeRings$Ring")) :: zt) B.pre
  have hown : s.vm.findClass RX9 = some m.cls := findClass_of_methodNamed B.named
  have hlocks := B.notSynchronized
  have hS0 : va_S (zA nC b) s.heap s.heap [] := va_S.rf
  have hl := lv_entry ([.ref (b + 32), .int (iI a0)]) (n := 2) (Nat.le_of_ble_eq_true rfl)
  have hent : entryFrame m args 2 = F0 m 0 ((lg_sl ([.ref (b + 32), .int (iI a0)]) ++ List.replicate (2 - (lg_sl ([.ref (b + 32), .int (iI a0)])).length) Slot.unset).toArray) [] := by rw [hargs]; exact lg_entry_eq m ([.ref (b + 32), .int (iI a0)]) 2
  rw [hent]
  generalize (lg_sl ([.ref (b + 32), .int (iI a0)]) ++ List.replicate (2 - (lg_sl ([.ref (b + 32), .int (iI a0)])).length) Slot.unset).toArray = ls at hl ⊢
  have hl : lv_has ls 2 [(0, .ref (b + 32)), (1, .int (iI a0))] := hl
  refine lv_iload_n hx hb dX9_find_0 rfl (lv_at hl 1 rfl) ?_
  refine w_if_lt (tgt := 26) hx hb rfl dX9_find_1 (by decide) (fun c1 => ?_) (fun c1 => ?_)
  · skip
    have h := h.1 c1
    refine lv_null hx hb dX9_find_26 ?_
    exact w_aret hx hb hr (Or.inl ⟨_, rfl⟩) hlocks hS hS0 none rfl ⟨rfl, h⟩ dX9_find_27
  · skip
    have h := h.2 c1
    refine lv_iload_n hx hb dX9_find_4 rfl (lv_at hl 1 rfl) ?_
    refine lv_aload_n hx hb dX9_find_5 rfl (lv_at hl 0 rfl) ?_
    refine w_geti hx hb hts (z_memU u9) hown hK.1 hS f9_2 (by decide) (zkd_of (rfl : zcd wC 32 = 8) rfl) (Or.inl (hts _ (z_mem k118))) dX9_find_6 ?_
    refine w_icmp_ge (tgt := 26) hx hb rfl rfl dX9_find_9 (by decide) (fun c2 => ?_) (fun c2 => ?_)
    · skip
      have h := h.1 c2
      refine lv_null hx hb dX9_find_26 ?_
      exact w_aret hx hb hr (Or.inl ⟨_, rfl⟩) hlocks hS hS0 none rfl ⟨rfl, h⟩ dX9_find_27
    · skip
      have h := h.2 c2
      refine lv_iload_n hx hb dX9_find_12 rfl (lv_at hl 1 rfl) ?_
      refine z_iconst hx hb dX9_find_13 ?_
      refine w_icmp_ge (tgt := 26) hx hb rfl (sI_of (by decide)) dX9_find_14 (by decide) (fun c3 => ?_) (fun c3 => ?_)
      · skip
        have h := h.1 c3
        refine lv_null hx hb dX9_find_26 ?_
        exact w_aret hx hb hr (Or.inl ⟨_, rfl⟩) hlocks hS hS0 none rfl ⟨rfl, h⟩ dX9_find_27
      · skip
        have h := h.2 c3
        refine lv_aload_n hx hb dX9_find_17 rfl (lv_at hl 0 rfl) ?_
        refine w_getr (j2 := 34) hx hb hts (z_memU u9) hown hK.1 hS f9_1 (by decide) (zkd_of (rfl : zcd wC 32 = 8) rfl) (zrf_of (rfl : zcd wC 32 = 8) rfl) (Or.inl (hts _ (z_mem k117))) dX9_find_18 ?_
        refine lv_iload_n hx hb dX9_find_21 rfl (lv_at hl 1 rfl) ?_
        obtain ⟨o4, h⟩ := h
        refine w_aald (n := 4) (i := (sI a0)) (j2 := (41 + 4 * (sI a0).toNat)) hx hb hK.1 (t0 := 6) (r := 6) (by decide) rfl rfl hS (by decide) (zkd_of (rfl : zcd wC 34 = 10) rfl) (zln_of (rfl : zcd wC 34 = 10) rfl) rfl o4.1 o4.2 (by decide) (zrf_of (rfl : zcd wC 34 = 10) rfl) dX9_find_22 ?_
        obtain ⟨lt5, cd6⟩ : (41 + 4 * (sI a0).toNat) < nC ∧ zcd wC (41 + 4 * (sI a0).toNat) = 14 := (by decide : ∀ k : Nat, k < 4 → (41 + 4 * k) < nC ∧ zcd wC (41 + 4 * k) = 14) (sI a0).toNat (by clear h; have h0 := o4.1; have h1 := o4.2; omega)
        obtain ⟨lt7, cd8, lt9, cd10, lt11, cd12⟩ := nx_ring (41 + 4 * (sI a0).toNat) lt5 cd6
        refine lv_goto (tgt := 27) hx hb dX9_find_23 (by decide) ?_
        exact w_aret hx hb hr (Or.inl ⟨_, rfl⟩) hlocks hS hS0 (some (41 + 4 * (sI a0).toNat)) rfl ⟨rfl, h⟩ dX9_find_27

set_option maxRecDepth 100000 in
def wC_Ring_layOver (j : Nat) (a0 : Nat) (a1 : Int) (a2 : Int) (M : zM) (Q : Int → zM → Prop) : Prop := wL2 (fun K6 x9 x10 M11 => ((sI (M11 a0 1)) ≤ (sI x10) → wC_Ring_listen j M11 (fun M20 => Q (sI x9) M20)) ∧ ((sI x10) < (sI (M11 a0 1)) → wC_Strip_has (j + 1) (a1 + x10) M11 (fun z22 => (z22 = 0 → wC_Ring_listen j M11 (fun M26 => Q (sI x9) M26)) ∧ (z22 ≠ 0 → ((0 ≤ (sI (a1 + x10)) ∧ (sI (a1 + x10)) < 24) ∧ pJ1 (fun J67 => ((sI a2) = 0 → ((0 ≤ (sI x10) ∧ (sI x10) < 24) ∧ J67 (M11 (a0 + 1) (sI x10).toNat))) ∧ ((sI a2) ≠ 0 → ((0 ≤ (sI x10) ∧ (sI x10) < 24) ∧ J67 (orI (M11 (j + 2) (sI (a1 + x10)).toNat) (M11 (a0 + 1) (sI x10).toNat))))) (fun (x31 : Int) => ((0 ≤ (sI (a1 + x10)) ∧ (sI (a1 + x10)) < 24) ∧ (∀ M35 : zM, M35 = zup M11 (j + 2) (sI (a1 + x10)).toNat x31 → ((sI x31) ≠ (sI (M11 (j + 2) (sI (a1 + x10)).toNat)) → K6 (x9 + 1) (x10 + 1) M35) ∧ ((sI x31) = (sI (M11 (j + 2) (sI (a1 + x10)).toNat)) → K6 (x9 + 0) (x10 + 1) M35))))))))) 0 0 M
set_option maxHeartbeats 4000000 in
set_option maxRecDepth 100000 in
theorem cC_Ring_layOver (l : Launch) (D : va_G) (dA : Nat → ClassId) (b : Nat) (M : zM) (j : Nat) (a0 : Nat) (a1 : Int) (a2 : Int) (lt_j : j < nC) (cd_j : zcd wC j = 14) (lt_a0 : a0 < nC) (cd_a0 : zcd wC a0 = 6) (Q : Int → zM → Prop) (h : wC_Ring_layOver j a0 a1 a2 M Q) : Met l yX6_layOver (.code yX6_layOver cX6_layOver 8 (some .int) :: zt) (z_rm 4) (va_Pc [.ref (b + j), .ref (b + a0), .int (iI a1), .int (iI a2)] (wPre D dA vwCl (z_tys dA) wC nC b M)) (va_Qi (wQi Q) (zB D dA vwCl wC nC b) (zA nC b)) 0 0 (zA nC b) := by
  unfold wC_Ring_layOver at h
  refine Met.ofW (cc := cX6_layOver) (maxL := 8) (ret := (some .int)) (by decide) rfl ?_
  intro p e s m args below meth c s₁ B hml hv
  obtain ⟨hargs, hS, hK⟩ := hv
  have hx := B.exec
  have hb := B.bytes
  have hr := B.returns
  have hts := atoms_spec (ws := .code yX6_layOver cX6_layOver 8 (some .int) :: zt) B.pre
  have hown : s.vm.findClass RX6 = some m.cls := findClass_of_methodNamed B.named
  have hlocks := B.notSynchronized
  have hS0 : va_S (zA nC b) s.heap s.heap [] := va_S.rf
  have hl := lv_entry ([.ref (b + j), .ref (b + a0), .int (iI a1), .int (iI a2)]) (n := 8) (Nat.le_of_ble_eq_true rfl)
  have hent : entryFrame m args 8 = F0 m 0 ((lg_sl ([.ref (b + j), .ref (b + a0), .int (iI a1), .int (iI a2)]) ++ List.replicate (8 - (lg_sl ([.ref (b + j), .ref (b + a0), .int (iI a1), .int (iI a2)])).length) Slot.unset).toArray) [] := by rw [hargs]; exact lg_entry_eq m ([.ref (b + j), .ref (b + a0), .int (iI a1), .int (iI a2)]) 8
  rw [hent]
  generalize (lg_sl ([.ref (b + j), .ref (b + a0), .int (iI a1), .int (iI a2)]) ++ List.replicate (8 - (lg_sl ([.ref (b + j), .ref (b + a0), .int (iI a1), .int (iI a2)])).length) Slot.unset).toArray = ls at hl ⊢
  have hl : lv_has ls 8 [(0, .ref (b + j)), (1, .ref (b + a0)), (2, .int (iI a1)), (3, .int (iI a2))] := hl
  obtain ⟨lt1, cd2, lt3, cd4, lt5, cd6⟩ := nx_ring j lt_j cd_j
  obtain ⟨lt7, cd8⟩ := nx_strip a0 lt_a0 cd_a0
  refine z_iconst hx hb dX6_layOver_0 ?_
  refine lv_istore (lv' := [(4, .int (iI 0)), (0, .ref (b + j)), (1, .ref (b + a0)), (2, .int (iI a1)), (3, .int (iI a2))]) hx hb dX6_layOver_1 hl (by decide) rfl (fun ls hl => ?_)
  refine z_iconst hx hb dX6_layOver_3 ?_
  refine lv_istore (lv' := [(5, .int (iI 0)), (4, .int (iI 0)), (0, .ref (b + j)), (1, .ref (b + a0)), (2, .int (iI a1)), (3, .int (iI a2))]) hx hb dX6_layOver_4 hl (by decide) rfl (fun ls hl => ?_)
  obtain ⟨I12, ⟨n13, h14⟩, h15⟩ := h
  have L16 : ∀ (n17 : Nat) (x9 x10 : Int) (M11 : zM) (H : Heap) (locs : List Loc) (ls : Array Slot), I12 n17 x9 x10 M11 → zR D dA vwCl wC nC b M11 H → va_S (zA nC b) s.heap H locs → lv_has ls 8 [(0, .ref (b + j)), (1, .ref (b + a0)), (2, .int (iI a1)), (3, .int (iI a2)), (4, .int (iI x9)), (5, .int (iI x10))] → W p l e (headSpec (.code yX6_layOver cX6_layOver 8 (some .int) :: zt) (z_rm 4)).room s m args below meth c H locs 0 0 (MQ below (va_Qi (wQi Q) (zB D dA vwCl wC nC b) (zA nC b)) args s 0 0 (zA nC b)) (F0 m 6 ls []) := by
    intro n17
    induction n17 using Nat.strongRecOn with
    | ind n17 i18 =>
      intro x9 x10 M11 H locs ls h hS hS0 hl
      have h := h15 n17 x9 x10 M11 h
      refine lv_iload hx hb dX6_layOver_6 (lv_at hl 5 rfl) ?_
      refine lv_aload_n hx hb dX6_layOver_8 rfl (lv_at hl 1 rfl) ?_
      refine w_geti hx hb hts (z_memU u8) hown hK.1 hS f8_1 lt_a0 (zkd_of cd_a0 rfl) (Or.inl (hts _ (z_mem k45))) dX6_layOver_9 ?_
      refine w_icmp_ge (tgt := 106) hx hb rfl rfl dX6_layOver_12 (by decide) (fun c19 => ?_) (fun c19 => ?_)
      · skip
        have h := h.1 c19
        refine lv_aload_n hx hb dX6_layOver_106 rfl (lv_at hl 0 rfl) ?_
        refine w_callv (va_runV (As := []) (rest := []) ⟨hx, hb, hml, hown, hts⟩ (cC_Ring_listen l D dA b M11 j lt_j cd_j _ h) (cwV 0 hts (z_gV k395 k396 k1363 k6 k397) rfl rfl rfl dm_X6_listen ⟨Nat.le_of_ble_eq_true rfl, Nat.le_of_ble_eq_true rfl⟩) ⟨wPre_blind, (w_recv hS hK.1 lt_j (zkd_of cd_j rfl) (by decide) (rfl : vwCl[6]? = some (RX6, TX6, 6))), w_pre hS hK⟩ rfl rfl hl.1 rfl (lv_room (Nat.le_of_ble_eq_true rfl)) dX6_layOver_107 ⟨Nat.le_refl _, Nat.le_refl _⟩) hS0 (fun M20 H locs h hS hS0 => ?_)
        refine lv_iload hx hb dX6_layOver_110 (lv_at hl 4 rfl) ?_
        exact w_iret hx hb hr hlocks hS hS0 rfl h dX6_layOver_112
      · skip
        have h := h.2 c19
        refine lv_aload_n hx hb dX6_layOver_15 rfl (lv_at hl 0 rfl) ?_
        refine w_getr (j2 := (j + 1)) hx hb hts (z_memU u6) hown hK.1 hS f6_0 lt_j (zkd_of cd_j rfl) (zrf_of cd_j rfl) (Or.inl (hts _ (z_mem k93))) dX6_layOver_16 ?_
        refine lv_iload_n hx hb dX6_layOver_19 rfl (lv_at hl 2 rfl) ?_
        refine lv_iload hx hb dX6_layOver_20 (lv_at hl 5 rfl) ?_
        refine z_iadd hx hb dX6_layOver_22 ?_
        refine w_callz (va_runV (As := [.int (iI (a1 + x10))]) (rest := []) ⟨hx, hb, hml, hown, hts⟩ (cC_Strip_has l D dA b M11 (j + 1) (a1 + x10) lt1 cd2 _ h) (cwV 1 hts (z_gV k419 k327 k328 k3 k329) rfl rfl rfl dm_X8_has ⟨Nat.le_of_ble_eq_true rfl, Nat.le_of_ble_eq_true rfl⟩) ⟨wPre_blind, (w_recv hS hK.1 lt1 (zkd_of cd2 rfl) (by decide) (rfl : vwCl[8]? = some (RX8, TX8, 2))), w_pre hS hK⟩ rfl rfl hl.1 rfl (lv_room (Nat.le_of_ble_eq_true rfl)) dX6_layOver_23 ⟨Nat.le_refl _, Nat.le_refl _⟩) hS0 (fun z22 M21 H locs r23 h hS hS0 => ?_)
        obtain ⟨e24, h⟩ := h
        rw [e24] at hS
        refine w_if_eq (tgt := 106) hx hb (sI_01 r23) dX6_layOver_26 (by decide) (fun c25 => ?_) (fun c25 => ?_)
        · skip
          have h := h.1 c25
          refine lv_aload_n hx hb dX6_layOver_106 rfl (lv_at hl 0 rfl) ?_
          refine w_callv (va_runV (As := []) (rest := []) ⟨hx, hb, hml, hown, hts⟩ (cC_Ring_listen l D dA b M11 j lt_j cd_j _ h) (cwV 0 hts (z_gV k395 k396 k1363 k6 k397) rfl rfl rfl dm_X6_listen ⟨Nat.le_of_ble_eq_true rfl, Nat.le_of_ble_eq_true rfl⟩) ⟨wPre_blind, (w_recv hS hK.1 lt_j (zkd_of cd_j rfl) (by decide) (rfl : vwCl[6]? = some (RX6, TX6, 6))), w_pre hS hK⟩ rfl rfl hl.1 rfl (lv_room (Nat.le_of_ble_eq_true rfl)) dX6_layOver_107 ⟨Nat.le_refl _, Nat.le_refl _⟩) hS0 (fun M26 H locs h hS hS0 => ?_)
          refine lv_iload hx hb dX6_layOver_110 (lv_at hl 4 rfl) ?_
          exact w_iret hx hb hr hlocks hS hS0 rfl h dX6_layOver_112
        · skip
          have h := h.2 c25
          refine lv_aload_n hx hb dX6_layOver_29 rfl (lv_at hl 0 rfl) ?_
          refine w_getr (j2 := (j + 1)) hx hb hts (z_memU u6) hown hK.1 hS f6_0 lt_j (zkd_of cd_j rfl) (zrf_of cd_j rfl) (Or.inl (hts _ (z_mem k93))) dX6_layOver_30 ?_
          refine w_getr (j2 := (j + 2)) hx hb hts (z_memU u8) hown hK.1 hS f8_0 lt1 (zkd_of cd2 rfl) (zrf_of cd2 rfl) (Or.inl (hts _ (z_mem k42))) dX6_layOver_33 ?_
          refine lv_iload_n hx hb dX6_layOver_36 rfl (lv_at hl 2 rfl) ?_
          refine lv_iload hx hb dX6_layOver_37 (lv_at hl 5 rfl) ?_
          refine z_iadd hx hb dX6_layOver_39 ?_
          obtain ⟨o27, h⟩ := h
          refine w_iald (n := 24) (i := (sI (a1 + x10))) hx hb hK.1 (t0 := 0) rfl hS lt3 (zkd_of cd4 rfl) (zln_of cd4 rfl) rfl o27.1 o27.2 (by decide) dX6_layOver_40 ?_
          refine lv_istore (lv' := [(6, .int (iI (M11 (j + 2) (sI (a1 + x10)).toNat))), (0, .ref (b + j)), (1, .ref (b + a0)), (2, .int (iI a1)), (3, .int (iI a2)), (4, .int (iI x9)), (5, .int (iI x10))]) hx hb dX6_layOver_41 hl (by decide) rfl (fun ls hl => ?_)
          refine lv_iload_n hx hb dX6_layOver_43 rfl (lv_at hl 4 rfl) ?_
          obtain ⟨J67, B33, h⟩ := h
          have L32 : ∀ (x31 : Int) (H : Heap) (locs : List Loc) (ls : Array Slot), J67 x31 → zR D dA vwCl wC nC b M11 H → va_S (zA nC b) s.heap H locs → lv_has ls 8 [(0, .ref (b + j)), (1, .ref (b + a0)), (2, .int (iI a1)), (3, .int (iI a2)), (4, .int (iI x9)), (5, .int (iI x10)), (6, .int (iI (M11 (j + 2) (sI (a1 + x10)).toNat)))] → W p l e (headSpec (.code yX6_layOver cX6_layOver 8 (some .int) :: zt) (z_rm 4)).room s m args below meth c H locs 0 0 (MQ below (va_Qi (wQi Q) (zB D dA vwCl wC nC b) (zA nC b)) args s 0 0 (zA nC b)) (F0 m 67 ls [.int (iI x31)]) := by
            intro x31 H locs ls h hS hS0 hl
            have h := B33 x31 h
            refine lv_istore (lv' := [(7, .int (iI x31)), (0, .ref (b + j)), (1, .ref (b + a0)), (2, .int (iI a1)), (3, .int (iI a2)), (4, .int (iI x9)), (5, .int (iI x10)), (6, .int (iI (M11 (j + 2) (sI (a1 + x10)).toNat)))]) hx hb dX6_layOver_67 hl (by decide) rfl (fun ls hl => ?_)
            refine lv_aload_n hx hb dX6_layOver_69 rfl (lv_at hl 1 rfl) ?_
            refine w_getr (j2 := (j + 1)) hx hb hts (z_memU u6) hown hK.1 hS f6_0 lt_j (zkd_of cd_j rfl) (zrf_of cd_j rfl) (Or.inl (hts _ (z_mem k93))) dX6_layOver_70 ?_
            refine w_getr (j2 := (j + 2)) hx hb hts (z_memU u8) hown hK.1 hS f8_0 lt1 (zkd_of cd2 rfl) (zrf_of cd2 rfl) (Or.inl (hts _ (z_mem k42))) dX6_layOver_73 ?_
            refine lv_iload_n hx hb dX6_layOver_76 rfl (lv_at hl 3 rfl) ?_
            refine lv_iload hx hb dX6_layOver_77 (lv_at hl 6 rfl) ?_
            refine z_iadd hx hb dX6_layOver_79 ?_
            refine lv_iload hx hb dX6_layOver_80 (lv_at hl 0 rfl) ?_
            obtain ⟨o34, h⟩ := h
            refine w_iast (z := x31) (n := 24) (i := (sI (a1 + x10))) hx hb hK.1 (t0 := 0) rfl hS hS0 lt3 (zkd_of cd4 rfl) (zln_of cd4 rfl) rfl o34.1 o34.2 (by decide) dX6_layOver_82 (fun H locs hS hS0 => ?_)
            obtain ⟨M35, e36⟩ : ∃ M35 : zM, M35 = zup M11 (j + 2) (sI (a1 + x10)).toNat x31 := ⟨_, rfl⟩
            rw [← e36] at hS
            have h := h M35 e36
            refine lv_iload hx hb dX6_layOver_83 (lv_at hl 5 rfl) ?_
            refine lv_iload hx hb dX6_layOver_85 (lv_at hl 0 rfl) ?_
            refine lv_iload hx hb dX6_layOver_87 (lv_at hl 7 rfl) ?_
            refine w_icmp_ne (tgt := 96) hx hb rfl rfl dX6_layOver_89 (by decide) (fun c37 => ?_) (fun c37 => ?_)
            · skip
              have h := h.1 c37
              refine z_iconst hx hb dX6_layOver_96 ?_
              refine z_iadd hx hb dX6_layOver_97 ?_
              refine lv_istore (lv' := [(4, .int (iI (x9 + 1))), (7, .int (iI x31)), (0, .ref (b + j)), (1, .ref (b + a0)), (2, .int (iI a1)), (3, .int (iI a2)), (5, .int (iI x10)), (6, .int (iI (M11 (j + 2) (sI (a1 + x10)).toNat)))]) hx hb dX6_layOver_98 hl (by decide) rfl (fun ls hl => ?_)
              refine z_iinc (lv' := [(5, .int (iI (x10 + 1))), (4, .int (iI (x9 + 1))), (7, .int (iI x31)), (0, .ref (b + j)), (1, .ref (b + a0)), (2, .int (iI a1)), (3, .int (iI a2)), (6, .int (iI (M11 (j + 2) (sI (a1 + x10)).toNat)))]) hx hb dX6_layOver_100 hl (k := 6) rfl (by decide) rfl (fun ls hl => ?_)
              refine lv_goto (tgt := 6) hx hb dX6_layOver_103 (by decide) ?_
              obtain ⟨n38, h39, h⟩ := h
              exact i18 n38 h39 (x9 + 1) (x10 + 1) M35 _ _ _ h hS hS0 (lv_sub hl [3, 4, 5, 6, 1, 0] rfl)
            · skip
              have h := h.2 c37
              refine z_iconst hx hb dX6_layOver_92 ?_
              refine lv_goto (tgt := 97) hx hb dX6_layOver_93 (by decide) ?_
              refine z_iadd hx hb dX6_layOver_97 ?_
              refine lv_istore (lv' := [(4, .int (iI (x9 + 0))), (7, .int (iI x31)), (0, .ref (b + j)), (1, .ref (b + a0)), (2, .int (iI a1)), (3, .int (iI a2)), (5, .int (iI x10)), (6, .int (iI (M11 (j + 2) (sI (a1 + x10)).toNat)))]) hx hb dX6_layOver_98 hl (by decide) rfl (fun ls hl => ?_)
              refine z_iinc (lv' := [(5, .int (iI (x10 + 1))), (4, .int (iI (x9 + 0))), (7, .int (iI x31)), (0, .ref (b + j)), (1, .ref (b + a0)), (2, .int (iI a1)), (3, .int (iI a2)), (6, .int (iI (M11 (j + 2) (sI (a1 + x10)).toNat)))]) hx hb dX6_layOver_100 hl (k := 6) rfl (by decide) rfl (fun ls hl => ?_)
              refine lv_goto (tgt := 6) hx hb dX6_layOver_103 (by decide) ?_
              obtain ⟨n40, h41, h⟩ := h
              exact i18 n40 h41 (x9 + 0) (x10 + 1) M35 _ _ _ h hS hS0 (lv_sub hl [3, 4, 5, 6, 1, 0] rfl)
          refine w_if_eq (tgt := 60) hx hb rfl dX6_layOver_44 (by decide) (fun c42 => ?_) (fun c42 => ?_)
          · skip
            have h := h.1 c42
            refine lv_aload_n hx hb dX6_layOver_60 rfl (lv_at hl 2 rfl) ?_
            refine w_getr (j2 := (a0 + 1)) hx hb hts (z_memU u8) hown hK.1 hS f8_0 lt_a0 (zkd_of cd_a0 rfl) (zrf_of cd_a0 rfl) (Or.inl (hts _ (z_mem k42))) dX6_layOver_61 ?_
            refine lv_iload hx hb dX6_layOver_64 (lv_at hl 6 rfl) ?_
            obtain ⟨o43, h⟩ := h
            refine w_iald (n := 24) (i := (sI x10)) hx hb hK.1 (t0 := 0) rfl hS lt7 (zkd_of cd8 rfl) (zln_of cd8 rfl) rfl o43.1 o43.2 (by decide) dX6_layOver_66 ?_
            exact L32 (M11 (a0 + 1) (sI x10).toNat) _ _ _ h hS hS0 (lv_sub hl [1, 2, 3, 4, 5, 6, 0] rfl)
          · skip
            have h := h.2 c42
            refine lv_iload hx hb dX6_layOver_47 (lv_at hl 0 rfl) ?_
            refine lv_aload_n hx hb dX6_layOver_49 rfl (lv_at hl 2 rfl) ?_
            refine w_getr (j2 := (a0 + 1)) hx hb hts (z_memU u8) hown hK.1 hS f8_0 lt_a0 (zkd_of cd_a0 rfl) (zrf_of cd_a0 rfl) (Or.inl (hts _ (z_mem k42))) dX6_layOver_50 ?_
            refine lv_iload hx hb dX6_layOver_53 (lv_at hl 6 rfl) ?_
            obtain ⟨o44, h⟩ := h
            refine w_iald (n := 24) (i := (sI x10)) hx hb hK.1 (t0 := 0) rfl hS lt7 (zkd_of cd8 rfl) (zln_of cd8 rfl) rfl o44.1 o44.2 (by decide) dX6_layOver_55 ?_
            refine w_ior hx hb dX6_layOver_56 ?_
            refine lv_goto (tgt := 67) hx hb dX6_layOver_57 (by decide) ?_
            exact L32 (orI (M11 (j + 2) (sI (a1 + x10)).toNat) (M11 (a0 + 1) (sI x10).toNat)) _ _ _ h hS hS0 (lv_sub hl [1, 2, 3, 4, 5, 6, 0] rfl)
  exact L16 n13 0 0 M _ _ _ h14 hS hS0 (lv_sub hl [2, 3, 4, 5, 1, 0] rfl)

set_option maxRecDepth 100000 in
def wC_over (a0 : Int) (a1 : Int) (a2 : Int) (M : zM) (Q : Int → zM → Prop) : Prop := wC_Studio_find a0 M (fun z2 => (z2 = none → Q (-1) M) ∧ (∀ q4, z2 = some q4 → (q4 < nC ∧ zcd wC q4 = 14) ∧ (wC_Strip_has (q4 + 1) a1 M (fun z14 => (z14 = 0 → Q (-1) M) ∧ (z14 ≠ 0 → wC_within a2 0 1 M (fun z19 => (z19 = 0 → Q (-1) M) ∧ (z19 ≠ 0 → ((sI (M 30 1)) ≠ 0 → ((sI a2) ≠ 1 → wC_Ring_layOver q4 30 a1 0 M (fun z26 M25 => Q z26 M25)) ∧ ((sI a2) = 1 → wC_Ring_layOver q4 30 a1 1 M (fun z29 M28 => Q z29 M28))) ∧ ((sI (M 30 1)) = 0 → Q (-1) M))))))))
set_option maxHeartbeats 4000000 in
set_option maxRecDepth 100000 in
theorem cC_over (l : Launch) (D : va_G) (dA : Nat → ClassId) (b : Nat) (M : zM) (a0 : Int) (a1 : Int) (a2 : Int)  (Q : Int → zM → Prop) (h : wC_over a0 a1 a2 M Q) : Met l yX11_over (.code yX11_over cX11_over 5 (some .int) :: zt) (z_rm 5) (va_Pc [.ref (b + 0), .int (iI a0), .int (iI a1), .int (iI a2)] (wPre D dA vwCl (z_tys dA) wC nC b M)) (va_Qi (wQi Q) (zB D dA vwCl wC nC b) (zA nC b)) 0 0 (zA nC b) := by
  unfold wC_over at h
  refine Met.ofW (cc := cX11_over) (maxL := 5) (ret := (some .int)) (by decide) rfl ?_
  intro p e s m args below meth c s₁ B hml hv
  obtain ⟨hargs, hS, hK⟩ := hv
  have hx := B.exec
  have hb := B.bytes
  have hr := B.returns
  have hts := atoms_spec (ws := .code yX11_over cX11_over 5 (some .int) :: zt) B.pre
  have hown : s.vm.findClass RX11 = some m.cls := findClass_of_methodNamed B.named
  have hlocks := B.notSynchronized
  have hS0 : va_S (zA nC b) s.heap s.heap [] := va_S.rf
  have hl := lv_entry ([.ref (b + 0), .int (iI a0), .int (iI a1), .int (iI a2)]) (n := 5) (Nat.le_of_ble_eq_true rfl)
  have hent : entryFrame m args 5 = F0 m 0 ((lg_sl ([.ref (b + 0), .int (iI a0), .int (iI a1), .int (iI a2)]) ++ List.replicate (5 - (lg_sl ([.ref (b + 0), .int (iI a0), .int (iI a1), .int (iI a2)])).length) Slot.unset).toArray) [] := by rw [hargs]; exact lg_entry_eq m ([.ref (b + 0), .int (iI a0), .int (iI a1), .int (iI a2)]) 5
  rw [hent]
  generalize (lg_sl ([.ref (b + 0), .int (iI a0), .int (iI a1), .int (iI a2)]) ++ List.replicate (5 - (lg_sl ([.ref (b + 0), .int (iI a0), .int (iI a1), .int (iI a2)])).length) Slot.unset).toArray = ls at hl ⊢
  have hl : lv_has ls 5 [(0, .ref (b + 0)), (1, .int (iI a0)), (2, .int (iI a1)), (3, .int (iI a2))] := hl
  refine lv_aload_n hx hb dX11_over_0 rfl (lv_at hl 0 rfl) ?_
  refine w_getr (j2 := 32) hx hb hts (z_memU u11) hown hK.1 hS f11_2 (by decide) (zkd_of (rfl : zcd wC 0 = 0) rfl) (zrf_of (rfl : zcd wC 0 = 0) rfl) (Or.inl (hts _ (z_mem k244))) dX11_over_1 ?_
  refine lv_iload_n hx hb dX11_over_4 rfl (lv_at hl 1 rfl) ?_
  refine w_callq (va_runV (As := [.int (iI a0)]) (rest := []) ⟨hx, hb, hml, hown, hts⟩ (cC_Studio_find l D dA b M a0 _ h) (cwV 1 hts (z_gV k411 k412 k413 k4 k414) rfl rfl rfl dm_X9_find ⟨Nat.le_of_ble_eq_true rfl, Nat.le_of_ble_eq_true rfl⟩) ⟨wPre_blind, (w_recv hS hK.1 (by decide) (zkd_of (rfl : zcd wC 32 = 8) rfl) (by decide) (rfl : vwCl[9]? = some (RX9, TX9, 3))), w_pre hS hK⟩ rfl rfl hl.1 rfl (lv_room (Nat.le_of_ble_eq_true rfl)) dX11_over_5 ⟨Nat.le_refl _, Nat.le_refl _⟩) hS0 (fun z2 M1 H locs h hS hS0 => ?_)
  obtain ⟨e3, h⟩ := h
  rw [e3] at hS
  rcases z2 with _ | q4
  · skip
    have h := h.1 rfl
    refine lv_astoreN (lv' := [(4, .null), (0, .ref (b + 0)), (1, .int (iI a0)), (2, .int (iI a1)), (3, .int (iI a2))]) hx hb dX11_over_8 hl (by decide) rfl (fun ls hl => ?_)
    refine lv_aloadN hx hb dX11_over_10 (lv_at hl 0 rfl) ?_
    refine lv_ifnullN (tgt := 46) hx hb dX11_over_12 (by decide) ?_
    refine z_iconst hx hb dX11_over_46 ?_
    exact w_iret hx hb hr hlocks hS hS0 (sI_of (by decide)) h dX11_over_47
  · skip
    obtain ⟨⟨lt5, cd6⟩, h⟩ := h.2 q4 rfl
    obtain ⟨lt7, cd8, lt9, cd10, lt11, cd12⟩ := nx_ring q4 lt5 cd6
    refine lv_astore (lv' := [(4, .ref (b + q4)), (0, .ref (b + 0)), (1, .int (iI a0)), (2, .int (iI a1)), (3, .int (iI a2))]) hx hb dX11_over_8 hl (by decide) rfl (fun ls hl => ?_)
    refine lv_aload hx hb dX11_over_10 (lv_at hl 0 rfl) ?_
    refine lv_ifnull hx hb dX11_over_12 ?_
    refine lv_aload hx hb dX11_over_15 (lv_at hl 0 rfl) ?_
    refine w_getr (j2 := (q4 + 1)) hx hb hts (z_memU u6) hown hK.1 hS f6_0 lt5 (zkd_of cd6 rfl) (zrf_of cd6 rfl) (Or.inl (hts _ (z_mem k96))) dX11_over_17 ?_
    refine lv_iload_n hx hb dX11_over_20 rfl (lv_at hl 3 rfl) ?_
    refine w_callz (va_runV (As := [.int (iI a1)]) (rest := []) ⟨hx, hb, hml, hown, hts⟩ (cC_Strip_has l D dA b M (q4 + 1) a1 lt7 cd8 _ h) (cwV 1 hts (z_gV k385 k327 k328 k3 k329) rfl rfl rfl dm_X8_has ⟨Nat.le_of_ble_eq_true rfl, Nat.le_of_ble_eq_true rfl⟩) ⟨wPre_blind, (w_recv hS hK.1 lt7 (zkd_of cd8 rfl) (by decide) (rfl : vwCl[8]? = some (RX8, TX8, 2))), w_pre hS hK⟩ rfl rfl hl.1 rfl (lv_room (Nat.le_of_ble_eq_true rfl)) dX11_over_21 ⟨Nat.le_refl _, Nat.le_refl _⟩) hS0 (fun z14 M13 H locs r15 h hS hS0 => ?_)
    obtain ⟨e16, h⟩ := h
    rw [e16] at hS
    refine w_if_eq (tgt := 46) hx hb (sI_01 r15) dX11_over_24 (by decide) (fun c17 => ?_) (fun c17 => ?_)
    · skip
      have h := h.1 c17
      refine z_iconst hx hb dX11_over_46 ?_
      exact w_iret hx hb hr hlocks hS hS0 (sI_of (by decide)) h dX11_over_47
    · skip
      have h := h.2 c17
      refine lv_iload_n hx hb dX11_over_27 rfl (lv_at hl 4 rfl) ?_
      refine z_iconst hx hb dX11_over_28 ?_
      refine z_iconst hx hb dX11_over_29 ?_
      refine w_callz (va_runS (As := [.int (iI a2), .int (iI 0), .int (iI 1)]) (rest := []) ⟨hx, hb, hml, hown, hts⟩ (cC_within l D dA b M a2 0 1 _ h) (va_cwS 3 hts (z_gS k382 k383 k1 k384) rfl rfl rfl dm_X11_within.2 ⟨Nat.le_of_ble_eq_true rfl, Nat.le_of_ble_eq_true rfl⟩) ⟨wPre_blind, w_pre hS hK⟩ rfl rfl hl.1 rfl (lv_room (Nat.le_of_ble_eq_true rfl)) dX11_over_30 ⟨Nat.le_refl _, Nat.le_refl _⟩) hS0 (fun z19 M18 H locs r20 h hS hS0 => ?_)
      obtain ⟨e21, h⟩ := h
      rw [e21] at hS
      refine w_if_eq (tgt := 46) hx hb (sI_01 r20) dX11_over_33 (by decide) (fun c22 => ?_) (fun c22 => ?_)
      · skip
        have h := h.1 c22
        refine z_iconst hx hb dX11_over_46 ?_
        exact w_iret hx hb hr hlocks hS hS0 (sI_of (by decide)) h dX11_over_47
      · skip
        have h := h.2 c22
        refine lv_aload_n hx hb dX11_over_36 rfl (lv_at hl 1 rfl) ?_
        refine w_getr (j2 := 30) hx hb hts (z_memU u11) hown hK.1 hS f11_1 (by decide) (zkd_of (rfl : zcd wC 0 = 0) rfl) (zrf_of (rfl : zcd wC 0 = 0) rfl) (Or.inl (hts _ (z_mem k243))) dX11_over_37 ?_
        refine w_geti hx hb hts (z_memU u8) hown hK.1 hS f8_1 (by decide) (zkd_of (rfl : zcd wC 30 = 6) rfl) (Or.inl (hts _ (z_mem k50))) dX11_over_40 ?_
        refine w_if_ne (tgt := 48) hx hb rfl dX11_over_43 (by decide) (fun c23 => ?_) (fun c23 => ?_)
        · skip
          have h := h.1 c23
          refine lv_aload hx hb dX11_over_48 (lv_at hl 0 rfl) ?_
          refine lv_aload_n hx hb dX11_over_50 rfl (lv_at hl 1 rfl) ?_
          refine w_getr (j2 := 30) hx hb hts (z_memU u11) hown hK.1 hS f11_1 (by decide) (zkd_of (rfl : zcd wC 0 = 0) rfl) (zrf_of (rfl : zcd wC 0 = 0) rfl) (Or.inl (hts _ (z_mem k243))) dX11_over_51 ?_
          refine lv_iload_n hx hb dX11_over_54 rfl (lv_at hl 3 rfl) ?_
          refine lv_iload_n hx hb dX11_over_55 rfl (lv_at hl 4 rfl) ?_
          refine z_iconst hx hb dX11_over_56 ?_
          refine w_icmp_ne (tgt := 64) hx hb rfl (sI_of (by decide)) dX11_over_57 (by decide) (fun c24 => ?_) (fun c24 => ?_)
          · skip
            have h := h.1 c24
            refine z_iconst hx hb dX11_over_64 ?_
            refine w_calli (va_runV (As := [.ref (b + 30), .int (iI a1), .int (iI 0)]) (rest := []) ⟨hx, hb, hml, hown, hts⟩ (cC_Ring_layOver l D dA b M q4 30 a1 0 lt5 cd6 (by decide) (rfl : zcd wC 30 = 6) _ h) (cwV 3 hts (z_gV k415 k416 k417 k6 k418) rfl rfl rfl dm_X6_layOver ⟨Nat.le_of_ble_eq_true rfl, Nat.le_of_ble_eq_true rfl⟩) ⟨wPre_blind, (w_recv hS hK.1 lt5 (zkd_of cd6 rfl) (by decide) (rfl : vwCl[6]? = some (RX6, TX6, 6))), w_pre hS hK⟩ rfl rfl hl.1 rfl (lv_room (Nat.le_of_ble_eq_true rfl)) dX11_over_65 ⟨Nat.le_refl _, Nat.le_refl _⟩) hS0 (fun z26 M25 H locs r27 h hS hS0 => ?_)
            exact w_iret hx hb hr hlocks hS hS0 (sI_of r27) h dX11_over_68
          · skip
            have h := h.2 c24
            refine z_iconst hx hb dX11_over_60 ?_
            refine lv_goto (tgt := 65) hx hb dX11_over_61 (by decide) ?_
            refine w_calli (va_runV (As := [.ref (b + 30), .int (iI a1), .int (iI 1)]) (rest := []) ⟨hx, hb, hml, hown, hts⟩ (cC_Ring_layOver l D dA b M q4 30 a1 1 lt5 cd6 (by decide) (rfl : zcd wC 30 = 6) _ h) (cwV 3 hts (z_gV k415 k416 k417 k6 k418) rfl rfl rfl dm_X6_layOver ⟨Nat.le_of_ble_eq_true rfl, Nat.le_of_ble_eq_true rfl⟩) ⟨wPre_blind, (w_recv hS hK.1 lt5 (zkd_of cd6 rfl) (by decide) (rfl : vwCl[6]? = some (RX6, TX6, 6))), w_pre hS hK⟩ rfl rfl hl.1 rfl (lv_room (Nat.le_of_ble_eq_true rfl)) dX11_over_65 ⟨Nat.le_refl _, Nat.le_refl _⟩) hS0 (fun z29 M28 H locs r30 h hS hS0 => ?_)
            exact w_iret hx hb hr hlocks hS hS0 (sI_of r30) h dX11_over_68
        · skip
          have h := h.2 c23
          refine z_iconst hx hb dX11_over_46 ?_
          exact w_iret hx hb hr hlocks hS hS0 (sI_of (by decide)) h dX11_over_47

set_option maxRecDepth 100000 in
def wC_set (a0 : Int) (a1 : Int) (a2 : Int) (M : zM) (Q : Int → zM → Prop) : Prop := wC_Studio_find a0 M (fun z2 => (z2 = none → Q (-1) M) ∧ (∀ q4, z2 = some q4 → (q4 < nC ∧ zcd wC q4 = 14) ∧ (pJ0 (fun J47 => ((sI a1) ≠ 0 → J47) ∧ ((sI a1) = 0 → wC_isMotor a2 M (fun z33 => (z33 = 0 → J47) ∧ (z33 ≠ 0 → (∀ M37 : zM, M37 = zup M q4 1 a2 → Q (sI (M q4 1)) M37))))) (((sI a1) ≠ 1 → Q (-1) M) ∧ ((sI a1) = 1 → wC_Strip_has (q4 + 1) a2 M (fun z25 => (z25 = 0 → Q (-1) M) ∧ (z25 ≠ 0 → (∀ M29 : zM, M29 = zup M q4 2 a2 → Q (sI (M q4 2)) M29))))))))
set_option maxHeartbeats 4000000 in
set_option maxRecDepth 100000 in
theorem cC_set (l : Launch) (D : va_G) (dA : Nat → ClassId) (b : Nat) (M : zM) (a0 : Int) (a1 : Int) (a2 : Int)  (Q : Int → zM → Prop) (h : wC_set a0 a1 a2 M Q) : Met l yX11_set (.code yX11_set cX11_set 6 (some .int) :: zt) (z_rm 2) (va_Pc [.ref (b + 0), .int (iI a0), .int (iI a1), .int (iI a2)] (wPre D dA vwCl (z_tys dA) wC nC b M)) (va_Qi (wQi Q) (zB D dA vwCl wC nC b) (zA nC b)) 0 0 (zA nC b) := by
  unfold wC_set at h
  refine Met.ofW (cc := cX11_set) (maxL := 6) (ret := (some .int)) (by decide) rfl ?_
  intro p e s m args below meth c s₁ B hml hv
  obtain ⟨hargs, hS, hK⟩ := hv
  have hx := B.exec
  have hb := B.bytes
  have hr := B.returns
  have hts := atoms_spec (ws := .code yX11_set cX11_set 6 (some .int) :: zt) B.pre
  have hown : s.vm.findClass RX11 = some m.cls := findClass_of_methodNamed B.named
  have hlocks := B.notSynchronized
  have hS0 : va_S (zA nC b) s.heap s.heap [] := va_S.rf
  have hl := lv_entry ([.ref (b + 0), .int (iI a0), .int (iI a1), .int (iI a2)]) (n := 6) (Nat.le_of_ble_eq_true rfl)
  have hent : entryFrame m args 6 = F0 m 0 ((lg_sl ([.ref (b + 0), .int (iI a0), .int (iI a1), .int (iI a2)]) ++ List.replicate (6 - (lg_sl ([.ref (b + 0), .int (iI a0), .int (iI a1), .int (iI a2)])).length) Slot.unset).toArray) [] := by rw [hargs]; exact lg_entry_eq m ([.ref (b + 0), .int (iI a0), .int (iI a1), .int (iI a2)]) 6
  rw [hent]
  generalize (lg_sl ([.ref (b + 0), .int (iI a0), .int (iI a1), .int (iI a2)]) ++ List.replicate (6 - (lg_sl ([.ref (b + 0), .int (iI a0), .int (iI a1), .int (iI a2)])).length) Slot.unset).toArray = ls at hl ⊢
  have hl : lv_has ls 6 [(0, .ref (b + 0)), (1, .int (iI a0)), (2, .int (iI a1)), (3, .int (iI a2))] := hl
  refine lv_aload_n hx hb dX11_set_0 rfl (lv_at hl 0 rfl) ?_
  refine w_getr (j2 := 32) hx hb hts (z_memU u11) hown hK.1 hS f11_2 (by decide) (zkd_of (rfl : zcd wC 0 = 0) rfl) (zrf_of (rfl : zcd wC 0 = 0) rfl) (Or.inl (hts _ (z_mem k244))) dX11_set_1 ?_
  refine lv_iload_n hx hb dX11_set_4 rfl (lv_at hl 1 rfl) ?_
  refine w_callq (va_runV (As := [.int (iI a0)]) (rest := []) ⟨hx, hb, hml, hown, hts⟩ (cC_Studio_find l D dA b M a0 _ h) (cwV 1 hts (z_gV k411 k412 k413 k4 k414) rfl rfl rfl dm_X9_find ⟨Nat.le_of_ble_eq_true rfl, Nat.le_of_ble_eq_true rfl⟩) ⟨wPre_blind, (w_recv hS hK.1 (by decide) (zkd_of (rfl : zcd wC 32 = 8) rfl) (by decide) (rfl : vwCl[9]? = some (RX9, TX9, 3))), w_pre hS hK⟩ rfl rfl hl.1 rfl (lv_room (Nat.le_of_ble_eq_true rfl)) dX11_set_5 ⟨Nat.le_refl _, Nat.le_refl _⟩) hS0 (fun z2 M1 H locs h hS hS0 => ?_)
  obtain ⟨e3, h⟩ := h
  rw [e3] at hS
  rcases z2 with _ | q4
  · skip
    have h := h.1 rfl
    refine lv_astoreN (lv' := [(4, .null), (0, .ref (b + 0)), (1, .int (iI a0)), (2, .int (iI a1)), (3, .int (iI a2))]) hx hb dX11_set_8 hl (by decide) rfl (fun ls hl => ?_)
    refine lv_aloadN hx hb dX11_set_10 (lv_at hl 0 rfl) ?_
    refine lv_ifnonnullN hx hb dX11_set_12 ?_
    refine z_iconst hx hb dX11_set_15 ?_
    exact w_iret hx hb hr hlocks hS hS0 (sI_of (by decide)) h dX11_set_16
  · skip
    obtain ⟨⟨lt5, cd6⟩, h⟩ := h.2 q4 rfl
    obtain ⟨lt7, cd8, lt9, cd10, lt11, cd12⟩ := nx_ring q4 lt5 cd6
    refine lv_astore (lv' := [(4, .ref (b + q4)), (0, .ref (b + 0)), (1, .int (iI a0)), (2, .int (iI a1)), (3, .int (iI a2))]) hx hb dX11_set_8 hl (by decide) rfl (fun ls hl => ?_)
    refine lv_aload hx hb dX11_set_10 (lv_at hl 0 rfl) ?_
    refine lv_ifnonnull (tgt := 17) hx hb dX11_set_12 (by decide) ?_
    refine z_iconst hx hb dX11_set_17 ?_
    refine lv_istore (lv' := [(5, .int (iI (-1))), (4, .ref (b + q4)), (0, .ref (b + 0)), (1, .int (iI a0)), (2, .int (iI a1)), (3, .int (iI a2))]) hx hb dX11_set_18 hl (by decide) rfl (fun ls hl => ?_)
    refine lv_iload_n hx hb dX11_set_20 rfl (lv_at hl 4 rfl) ?_
    obtain ⟨J47, B22, h⟩ := h
    have L21 : ∀ (H : Heap) (locs : List Loc) (ls : Array Slot), J47 → zR D dA vwCl wC nC b M H → va_S (zA nC b) s.heap H locs → lv_has ls 6 [(2, .int (iI a1)), (3, .int (iI a2)), (4, .ref (b + q4)), (5, .int (iI (-1)))] → W p l e (headSpec (.code yX11_set cX11_set 6 (some .int) :: zt) (z_rm 2)).room s m args below meth c H locs 0 0 (MQ below (va_Qi (wQi Q) (zB D dA vwCl wC nC b) (zA nC b)) args s 0 0 (zA nC b)) (F0 m 47 ls []) := by
      intro  H locs ls h hS hS0 hl
      have h := B22 h
      refine lv_iload_n hx hb dX11_set_47 rfl (lv_at hl 0 rfl) ?_
      refine z_iconst hx hb dX11_set_48 ?_
      refine w_icmp_ne (tgt := 77) hx hb rfl (sI_of (by decide)) dX11_set_49 (by decide) (fun c23 => ?_) (fun c23 => ?_)
      · skip
        have h := h.1 c23
        refine lv_iload hx hb dX11_set_77 (lv_at hl 3 rfl) ?_
        exact w_iret hx hb hr hlocks hS hS0 (sI_of (by decide)) h dX11_set_79
      · skip
        have h := h.2 c23
        refine lv_aload hx hb dX11_set_52 (lv_at hl 2 rfl) ?_
        refine w_getr (j2 := (q4 + 1)) hx hb hts (z_memU u6) hown hK.1 hS f6_0 lt5 (zkd_of cd6 rfl) (zrf_of cd6 rfl) (Or.inl (hts _ (z_mem k96))) dX11_set_54 ?_
        refine lv_iload_n hx hb dX11_set_57 rfl (lv_at hl 1 rfl) ?_
        refine w_callz (va_runV (As := [.int (iI a2)]) (rest := []) ⟨hx, hb, hml, hown, hts⟩ (cC_Strip_has l D dA b M (q4 + 1) a2 lt7 cd8 _ h) (cwV 1 hts (z_gV k385 k327 k328 k3 k329) rfl rfl rfl dm_X8_has ⟨Nat.le_of_ble_eq_true rfl, Nat.le_of_ble_eq_true rfl⟩) ⟨wPre_blind, (w_recv hS hK.1 lt7 (zkd_of cd8 rfl) (by decide) (rfl : vwCl[8]? = some (RX8, TX8, 2))), w_pre hS hK⟩ rfl rfl hl.1 rfl (lv_room (Nat.le_of_ble_eq_true rfl)) dX11_set_58 ⟨Nat.le_refl _, Nat.le_refl _⟩) hS0 (fun z25 M24 H locs r26 h hS hS0 => ?_)
        obtain ⟨e27, h⟩ := h
        rw [e27] at hS
        refine w_if_eq (tgt := 77) hx hb (sI_01 r26) dX11_set_61 (by decide) (fun c28 => ?_) (fun c28 => ?_)
        · skip
          have h := h.1 c28
          refine lv_iload hx hb dX11_set_77 (lv_at hl 3 rfl) ?_
          exact w_iret hx hb hr hlocks hS hS0 (sI_of (by decide)) h dX11_set_79
        · skip
          have h := h.2 c28
          refine lv_aload hx hb dX11_set_64 (lv_at hl 2 rfl) ?_
          refine w_geti hx hb hts (z_memU u6) hown hK.1 hS f6_2 lt5 (zkd_of cd6 rfl) (Or.inl (hts _ (z_mem k103))) dX11_set_66 ?_
          refine lv_istore (lv' := [(5, .int (iI (M q4 2))), (2, .int (iI a1)), (3, .int (iI a2)), (4, .ref (b + q4))]) hx hb dX11_set_69 hl (by decide) rfl (fun ls hl => ?_)
          refine lv_aload hx hb dX11_set_71 (lv_at hl 3 rfl) ?_
          refine lv_iload_n hx hb dX11_set_73 rfl (lv_at hl 2 rfl) ?_
          refine w_puti hx hb hts (z_memU u6) tyX6 tyX6_ok nmX6 hown hK.1 hS hS0 f6_2 lt5 (zkd_of cd6 rfl) (Or.inl (hts _ (z_mem k103))) rfl (z := a2) (by decide +kernel) dX11_set_74 (fun H locs hS hS0 => ?_)
          obtain ⟨M29, e30⟩ : ∃ M29 : zM, M29 = zup M q4 2 a2 := ⟨_, rfl⟩
          rw [← e30] at hS
          have h := h M29 e30
          refine lv_iload hx hb dX11_set_77 (lv_at hl 0 rfl) ?_
          exact w_iret hx hb hr hlocks hS hS0 rfl h dX11_set_79
    refine w_if_ne (tgt := 47) hx hb rfl dX11_set_21 (by decide) (fun c31 => ?_) (fun c31 => ?_)
    · skip
      have h := h.1 c31
      exact L21 _ _ _ h hS hS0 (lv_sub hl [4, 5, 1, 0] rfl)
    · skip
      have h := h.2 c31
      refine lv_iload_n hx hb dX11_set_24 rfl (lv_at hl 5 rfl) ?_
      refine w_callz (va_runS (As := [.int (iI a2)]) (rest := []) ⟨hx, hb, hml, hown, hts⟩ (cC_isMotor l D dA b M a2 _ h) (va_cwS 1 hts (z_gS k379 k380 k1 k381) rfl rfl rfl dm_X11_isMotor.2 ⟨Nat.le_of_ble_eq_true rfl, Nat.le_of_ble_eq_true rfl⟩) ⟨wPre_blind, w_pre hS hK⟩ rfl rfl hl.1 rfl (lv_room (Nat.le_of_ble_eq_true rfl)) dX11_set_25 ⟨Nat.le_refl _, Nat.le_refl _⟩) hS0 (fun z33 M32 H locs r34 h hS hS0 => ?_)
      obtain ⟨e35, h⟩ := h
      rw [e35] at hS
      refine w_if_eq (tgt := 47) hx hb (sI_01 r34) dX11_set_28 (by decide) (fun c36 => ?_) (fun c36 => ?_)
      · skip
        have h := h.1 c36
        exact L21 _ _ _ h hS hS0 (lv_sub hl [4, 5, 1, 0] rfl)
      · skip
        have h := h.2 c36
        refine lv_aload hx hb dX11_set_31 (lv_at hl 1 rfl) ?_
        refine w_geti hx hb hts (z_memU u6) hown hK.1 hS f6_1 lt5 (zkd_of cd6 rfl) (Or.inl (hts _ (z_mem k100))) dX11_set_33 ?_
        refine lv_istore (lv' := [(5, .int (iI (M q4 1))), (4, .ref (b + q4)), (0, .ref (b + 0)), (1, .int (iI a0)), (2, .int (iI a1)), (3, .int (iI a2))]) hx hb dX11_set_36 hl (by decide) rfl (fun ls hl => ?_)
        refine lv_aload hx hb dX11_set_38 (lv_at hl 1 rfl) ?_
        refine lv_iload_n hx hb dX11_set_40 rfl (lv_at hl 5 rfl) ?_
        refine w_puti hx hb hts (z_memU u6) tyX6 tyX6_ok nmX6 hown hK.1 hS hS0 f6_1 lt5 (zkd_of cd6 rfl) (Or.inl (hts _ (z_mem k100))) rfl (z := a2) (by decide +kernel) dX11_set_41 (fun H locs hS hS0 => ?_)
        obtain ⟨M37, e38⟩ : ∃ M37 : zM, M37 = zup M q4 1 a2 := ⟨_, rfl⟩
        rw [← e38] at hS
        have h := h M37 e38
        refine lv_goto (tgt := 77) hx hb dX11_set_44 (by decide) ?_
        refine lv_iload hx hb dX11_set_77 (lv_at hl 0 rfl) ?_
        exact w_iret hx hb hr hlocks hS hS0 rfl h dX11_set_79

set_option maxRecDepth 100000 in
def wC_bitCount (a0 : Int) (M : zM) (Q : Int → Prop) : Prop := (∀ t1 : Int, t1 = ((andI (a0 - (andI (ushrI a0 1) 1431655765)) 858993459) + (andI (ushrI (a0 - (andI (ushrI a0 1) 1431655765)) 2) 858993459)) → (∀ t3 : Int, t3 = ((andI (t1 + (ushrI t1 4)) 252645135) + (ushrI (andI (t1 + (ushrI t1 4)) 252645135) 8)) → Q (andI (t3 + (ushrI t3 16)) 63)))
set_option maxHeartbeats 4000000 in
set_option maxRecDepth 100000 in
theorem cC_bitCount (l : Launch) (D : va_G) (dA : Nat → ClassId) (b : Nat) (M : zM) (a0 : Int)  (Q : Int → Prop) (h : wC_bitCount a0 M Q) : Met l yJ6_bitCount_0f7a4 (.code yJ6_bitCount_0f7a4 cJ6_bitCount_0f7a4 1 (some .int) :: zt) (z_rm 0) (va_Pc [.int (iI a0)] (wPre D dA vwCl (z_tys dA) wC nC b M)) (va_Qi (wQi (fun z9 u9 => u9 = M ∧ Q z9)) (zB D dA vwCl wC nC b) (zA nC b)) 0 0 (zA nC b) := by
  unfold wC_bitCount at h
  refine Met.ofW (cc := cJ6_bitCount_0f7a4) (maxL := 1) (ret := (some .int)) (by decide) rfl ?_
  intro p e s m args below meth c s₁ B hml hv
  obtain ⟨hargs, hS, hK⟩ := hv
  have hx := B.exec
  have hb := B.bytes
  have hr := B.returns
  have hts := atoms_spec (ws := .code yJ6_bitCount_0f7a4 cJ6_bitCount_0f7a4 1 (some .int) :: zt) B.pre
  have hown : s.vm.findClass RJ6 = some m.cls := findClass_of_methodNamed B.named
  have hlocks := B.notSynchronized
  have hS0 : va_S (zA nC b) s.heap s.heap [] := va_S.rf
  have hl := lv_entry ([.int (iI a0)]) (n := 1) (Nat.le_of_ble_eq_true rfl)
  have hent : entryFrame m args 1 = F0 m 0 ((lg_sl ([.int (iI a0)]) ++ List.replicate (1 - (lg_sl ([.int (iI a0)])).length) Slot.unset).toArray) [] := by rw [hargs]; exact lg_entry_eq m ([.int (iI a0)]) 1
  rw [hent]
  generalize (lg_sl ([.int (iI a0)]) ++ List.replicate (1 - (lg_sl ([.int (iI a0)])).length) Slot.unset).toArray = ls at hl ⊢
  have hl : lv_has ls 1 [(0, .int (iI a0))] := hl
  refine lv_iload_n hx hb dJ6_bitCount_0f7a4_0 rfl (lv_at hl 0 rfl) ?_
  refine lv_iload_n hx hb dJ6_bitCount_0f7a4_1 rfl (lv_at hl 0 rfl) ?_
  refine z_iconst hx hb dJ6_bitCount_0f7a4_2 ?_
  refine w_iushr hx hb dJ6_bitCount_0f7a4_3 ?_
  refine z_ldcw (n := 1431655765) hx hb hown (hts _ (z_mem k435)) (by decide) dJ6_bitCount_0f7a4_4 ?_
  refine w_iand hx hb dJ6_bitCount_0f7a4_7 ?_
  refine z_isub hx hb dJ6_bitCount_0f7a4_8 ?_
  refine lv_istore_n (lv' := [(0, .int (iI (a0 - (andI (ushrI a0 1) 1431655765))))]) hx hb dJ6_bitCount_0f7a4_9 rfl hl (by decide) rfl (fun ls hl => ?_)
  refine lv_iload_n hx hb dJ6_bitCount_0f7a4_10 rfl (lv_at hl 0 rfl) ?_
  refine z_ldcw (n := 858993459) hx hb hown (hts _ (z_mem k436)) (by decide) dJ6_bitCount_0f7a4_11 ?_
  refine w_iand hx hb dJ6_bitCount_0f7a4_14 ?_
  refine lv_iload_n hx hb dJ6_bitCount_0f7a4_15 rfl (lv_at hl 0 rfl) ?_
  refine z_iconst hx hb dJ6_bitCount_0f7a4_16 ?_
  refine w_iushr hx hb dJ6_bitCount_0f7a4_17 ?_
  refine z_ldcw (n := 858993459) hx hb hown (hts _ (z_mem k436)) (by decide) dJ6_bitCount_0f7a4_18 ?_
  refine w_iand hx hb dJ6_bitCount_0f7a4_21 ?_
  refine z_iadd hx hb dJ6_bitCount_0f7a4_22 ?_
  obtain ⟨t1, e2⟩ : ∃ t1 : Int, t1 = ((andI (a0 - (andI (ushrI a0 1) 1431655765)) 858993459) + (andI (ushrI (a0 - (andI (ushrI a0 1) 1431655765)) 2) 858993459)) := ⟨_, rfl⟩
  refine z_top (y := t1) e2.symm ?_
  have h := h t1 e2
  refine lv_istore_n (lv' := [(0, .int (iI t1))]) hx hb dJ6_bitCount_0f7a4_23 rfl hl (by decide) rfl (fun ls hl => ?_)
  refine lv_iload_n hx hb dJ6_bitCount_0f7a4_24 rfl (lv_at hl 0 rfl) ?_
  refine lv_iload_n hx hb dJ6_bitCount_0f7a4_25 rfl (lv_at hl 0 rfl) ?_
  refine z_iconst hx hb dJ6_bitCount_0f7a4_26 ?_
  refine w_iushr hx hb dJ6_bitCount_0f7a4_27 ?_
  refine z_iadd hx hb dJ6_bitCount_0f7a4_28 ?_
  refine z_ldcw (n := 252645135) hx hb hown (hts _ (z_mem k437)) (by decide) dJ6_bitCount_0f7a4_29 ?_
  refine w_iand hx hb dJ6_bitCount_0f7a4_32 ?_
  refine lv_istore_n (lv' := [(0, .int (iI (andI (t1 + (ushrI t1 4)) 252645135)))]) hx hb dJ6_bitCount_0f7a4_33 rfl hl (by decide) rfl (fun ls hl => ?_)
  refine lv_iload_n hx hb dJ6_bitCount_0f7a4_34 rfl (lv_at hl 0 rfl) ?_
  refine lv_iload_n hx hb dJ6_bitCount_0f7a4_35 rfl (lv_at hl 0 rfl) ?_
  refine z_bipush hx hb (by decide) dJ6_bitCount_0f7a4_36 ?_
  refine w_iushr hx hb dJ6_bitCount_0f7a4_38 ?_
  refine z_iadd hx hb dJ6_bitCount_0f7a4_39 ?_
  obtain ⟨t3, e4⟩ : ∃ t3 : Int, t3 = ((andI (t1 + (ushrI t1 4)) 252645135) + (ushrI (andI (t1 + (ushrI t1 4)) 252645135) 8)) := ⟨_, rfl⟩
  refine z_top (y := t3) e4.symm ?_
  have h := h t3 e4
  refine lv_istore_n (lv' := [(0, .int (iI t3))]) hx hb dJ6_bitCount_0f7a4_40 rfl hl (by decide) rfl (fun ls hl => ?_)
  refine lv_iload_n hx hb dJ6_bitCount_0f7a4_41 rfl (lv_at hl 0 rfl) ?_
  refine lv_iload_n hx hb dJ6_bitCount_0f7a4_42 rfl (lv_at hl 0 rfl) ?_
  refine z_bipush hx hb (by decide) dJ6_bitCount_0f7a4_43 ?_
  refine w_iushr hx hb dJ6_bitCount_0f7a4_45 ?_
  refine z_iadd hx hb dJ6_bitCount_0f7a4_46 ?_
  refine lv_istore_n (lv' := [(0, .int (iI (t3 + (ushrI t3 16))))]) hx hb dJ6_bitCount_0f7a4_47 rfl hl (by decide) rfl (fun ls hl => ?_)
  refine lv_iload_n hx hb dJ6_bitCount_0f7a4_48 rfl (lv_at hl 0 rfl) ?_
  refine z_bipush hx hb (by decide) dJ6_bitCount_0f7a4_49 ?_
  refine w_iand hx hb dJ6_bitCount_0f7a4_51 ?_
  exact w_iret hx hb hr hlocks hS hS0 (sI_of (andI_R _ _)) ⟨rfl, h⟩ dJ6_bitCount_0f7a4_52

set_option maxRecDepth 100000 in
def wC_Ring_putHead (j : Nat) (a0 : Int) (a1 : Int) (M : zM) (Q : Int → zM → Prop) : Prop := pJ1 (fun J25 => ((sI a1) = 0 → J25 (andI (M j 3) (xorI (shlI 1 a0) (-1)))) ∧ ((sI a1) ≠ 0 → J25 (orI (M j 3) (shlI 1 a0)))) (fun (x8 : Int) => ((sI x8) ≠ 0 → (∀ M12 : zM, M12 = zup M j 3 x8 → wC_Ring_listen j M12 (fun M14 => wC_bitCount (M14 j 3) M14 (fun z16 => Q z16 M14)))) ∧ ((sI x8) = 0 → Q (-1) M))
set_option maxHeartbeats 4000000 in
set_option maxRecDepth 100000 in
theorem cC_Ring_putHead (l : Launch) (D : va_G) (dA : Nat → ClassId) (b : Nat) (M : zM) (j : Nat) (a0 : Int) (a1 : Int) (lt_j : j < nC) (cd_j : zcd wC j = 14) (Q : Int → zM → Prop) (h : wC_Ring_putHead j a0 a1 M Q) : Met l yX6_putHead (.code yX6_putHead cX6_putHead 4 (some .int) :: zt) (z_rm 4) (va_Pc [.ref (b + j), .int (iI a0), .int (iI a1)] (wPre D dA vwCl (z_tys dA) wC nC b M)) (va_Qi (wQi Q) (zB D dA vwCl wC nC b) (zA nC b)) 0 0 (zA nC b) := by
  unfold wC_Ring_putHead at h
  refine Met.ofW (cc := cX6_putHead) (maxL := 4) (ret := (some .int)) (by decide) rfl ?_
  intro p e s m args below meth c s₁ B hml hv
  obtain ⟨hargs, hS, hK⟩ := hv
  have hx := B.exec
  have hb := B.bytes
  have hr := B.returns
  have hts := atoms_spec (ws := .code yX6_putHead cX6_putHead 4 (some .int) :: zt) B.pre
  have hown : s.vm.findClass RX6 = some m.cls := findClass_of_methodNamed B.named
  have hlocks := B.notSynchronized
  have hS0 : va_S (zA nC b) s.heap s.heap [] := va_S.rf
  have hl := lv_entry ([.ref (b + j), .int (iI a0), .int (iI a1)]) (n := 4) (Nat.le_of_ble_eq_true rfl)
  have hent : entryFrame m args 4 = F0 m 0 ((lg_sl ([.ref (b + j), .int (iI a0), .int (iI a1)]) ++ List.replicate (4 - (lg_sl ([.ref (b + j), .int (iI a0), .int (iI a1)])).length) Slot.unset).toArray) [] := by rw [hargs]; exact lg_entry_eq m ([.ref (b + j), .int (iI a0), .int (iI a1)]) 4
  rw [hent]
  generalize (lg_sl ([.ref (b + j), .int (iI a0), .int (iI a1)]) ++ List.replicate (4 - (lg_sl ([.ref (b + j), .int (iI a0), .int (iI a1)])).length) Slot.unset).toArray = ls at hl ⊢
  have hl : lv_has ls 4 [(0, .ref (b + j)), (1, .int (iI a0)), (2, .int (iI a1))] := hl
  obtain ⟨lt1, cd2, lt3, cd4, lt5, cd6⟩ := nx_ring j lt_j cd_j
  refine lv_iload_n hx hb dX6_putHead_0 rfl (lv_at hl 2 rfl) ?_
  obtain ⟨J25, B10, h⟩ := h
  have L9 : ∀ (x8 : Int) (H : Heap) (locs : List Loc) (ls : Array Slot), J25 x8 → zR D dA vwCl wC nC b M H → va_S (zA nC b) s.heap H locs → lv_has ls 4 [(0, .ref (b + j))] → W p l e (headSpec (.code yX6_putHead cX6_putHead 4 (some .int) :: zt) (z_rm 4)).room s m args below meth c H locs 0 0 (MQ below (va_Qi (wQi Q) (zB D dA vwCl wC nC b) (zA nC b)) args s 0 0 (zA nC b)) (F0 m 25 ls [.int (iI x8)]) := by
    intro x8 H locs ls h hS hS0 hl
    have h := B10 x8 h
    refine lv_istore_n (lv' := [(3, .int (iI x8)), (0, .ref (b + j))]) hx hb dX6_putHead_25 rfl hl (by decide) rfl (fun ls hl => ?_)
    refine lv_iload_n hx hb dX6_putHead_26 rfl (lv_at hl 0 rfl) ?_
    refine w_if_ne (tgt := 32) hx hb rfl dX6_putHead_27 (by decide) (fun c11 => ?_) (fun c11 => ?_)
    · skip
      have h := h.1 c11
      refine lv_aload_n hx hb dX6_putHead_32 rfl (lv_at hl 1 rfl) ?_
      refine lv_iload_n hx hb dX6_putHead_33 rfl (lv_at hl 0 rfl) ?_
      refine w_puti hx hb hts (z_memU u6) tyX6 tyX6_ok nmX6 hown hK.1 hS hS0 f6_3 lt_j (zkd_of cd_j rfl) (Or.inl (hts _ (z_mem k104))) rfl (z := x8) (by decide +kernel) dX6_putHead_34 (fun H locs hS hS0 => ?_)
      obtain ⟨M12, e13⟩ : ∃ M12 : zM, M12 = zup M j 3 x8 := ⟨_, rfl⟩
      rw [← e13] at hS
      have h := h M12 e13
      refine lv_aload_n hx hb dX6_putHead_37 rfl (lv_at hl 1 rfl) ?_
      refine w_callv (va_runV (As := []) (rest := []) ⟨hx, hb, hml, hown, hts⟩ (cC_Ring_listen l D dA b M12 j lt_j cd_j _ h) (cwV 0 hts (z_gV k395 k396 k1363 k6 k397) rfl rfl rfl dm_X6_listen ⟨Nat.le_of_ble_eq_true rfl, Nat.le_of_ble_eq_true rfl⟩) ⟨wPre_blind, (w_recv hS hK.1 lt_j (zkd_of cd_j rfl) (by decide) (rfl : vwCl[6]? = some (RX6, TX6, 6))), w_pre hS hK⟩ rfl rfl hl.1 rfl (lv_room (Nat.le_of_ble_eq_true rfl)) dX6_putHead_38 ⟨Nat.le_refl _, Nat.le_refl _⟩) hS0 (fun M14 H locs h hS hS0 => ?_)
      refine lv_aload_n hx hb dX6_putHead_41 rfl (lv_at hl 1 rfl) ?_
      refine w_geti hx hb hts (z_memU u6) hown hK.1 hS f6_3 lt_j (zkd_of cd_j rfl) (Or.inl (hts _ (z_mem k104))) dX6_putHead_42 ?_
      refine w_calli (va_runS (As := [.int (iI (M14 j 3))]) (rest := []) ⟨hx, hb, hml, hown, hts⟩ (cC_bitCount l D dA b M14 (M14 j 3) _ h) (va_cwS 1 hts (z_gS k432 k433 k17 k434) rfl rfl rfl dm_J6_bitCount_0f7a4.2 ⟨Nat.le_of_ble_eq_true rfl, Nat.le_of_ble_eq_true rfl⟩) ⟨wPre_blind, w_pre hS hK⟩ rfl rfl hl.1 rfl (lv_room (Nat.le_of_ble_eq_true rfl)) dX6_putHead_45 ⟨Nat.le_refl _, Nat.le_refl _⟩) hS0 (fun z16 M15 H locs r17 h hS hS0 => ?_)
      obtain ⟨e18, h⟩ := h
      rw [e18] at hS
      exact w_iret hx hb hr hlocks hS hS0 (sI_of r17) h dX6_putHead_48
    · skip
      have h := h.2 c11
      refine z_iconst hx hb dX6_putHead_30 ?_
      exact w_iret hx hb hr hlocks hS hS0 (sI_of (by decide)) h dX6_putHead_31
  refine w_if_eq (tgt := 15) hx hb rfl dX6_putHead_1 (by decide) (fun c19 => ?_) (fun c19 => ?_)
  · skip
    have h := h.1 c19
    refine lv_aload_n hx hb dX6_putHead_15 rfl (lv_at hl 0 rfl) ?_
    refine w_geti hx hb hts (z_memU u6) hown hK.1 hS f6_3 lt_j (zkd_of cd_j rfl) (Or.inl (hts _ (z_mem k104))) dX6_putHead_16 ?_
    refine z_iconst hx hb dX6_putHead_19 ?_
    refine lv_iload_n hx hb dX6_putHead_20 rfl (lv_at hl 1 rfl) ?_
    refine w_ishl hx hb dX6_putHead_21 ?_
    refine z_iconst hx hb dX6_putHead_22 ?_
    refine w_ixor hx hb dX6_putHead_23 ?_
    refine w_iand hx hb dX6_putHead_24 ?_
    exact L9 (andI (M j 3) (xorI (shlI 1 a0) (-1))) _ _ _ h hS hS0 (lv_sub hl [0] rfl)
  · skip
    have h := h.2 c19
    refine lv_aload_n hx hb dX6_putHead_4 rfl (lv_at hl 0 rfl) ?_
    refine w_geti hx hb hts (z_memU u6) hown hK.1 hS f6_3 lt_j (zkd_of cd_j rfl) (Or.inl (hts _ (z_mem k104))) dX6_putHead_5 ?_
    refine z_iconst hx hb dX6_putHead_8 ?_
    refine lv_iload_n hx hb dX6_putHead_9 rfl (lv_at hl 1 rfl) ?_
    refine w_ishl hx hb dX6_putHead_10 ?_
    refine w_ior hx hb dX6_putHead_11 ?_
    refine lv_goto (tgt := 25) hx hb dX6_putHead_12 (by decide) ?_
    exact L9 (orI (M j 3) (shlI 1 a0)) _ _ _ h hS hS0 (lv_sub hl [0] rfl)

set_option maxRecDepth 100000 in
def wC_head (a0 : Int) (a1 : Int) (a2 : Int) (M : zM) (Q : Int → zM → Prop) : Prop := wC_Studio_find a0 M (fun z2 => (z2 = none → Q (-1) M) ∧ (∀ q4, z2 = some q4 → (q4 < nC ∧ zcd wC q4 = 14) ∧ (wC_within a1 0 23 M (fun z14 => (z14 ≠ 0 → wC_Ring_putHead q4 a1 a2 M (fun z19 M18 => Q z19 M18)) ∧ (z14 = 0 → Q (-1) M)))))
set_option maxHeartbeats 4000000 in
set_option maxRecDepth 100000 in
theorem cC_head (l : Launch) (D : va_G) (dA : Nat → ClassId) (b : Nat) (M : zM) (a0 : Int) (a1 : Int) (a2 : Int)  (Q : Int → zM → Prop) (h : wC_head a0 a1 a2 M Q) : Met l yX11_head (.code yX11_head cX11_head 5 (some .int) :: zt) (z_rm 5) (va_Pc [.ref (b + 0), .int (iI a0), .int (iI a1), .int (iI a2)] (wPre D dA vwCl (z_tys dA) wC nC b M)) (va_Qi (wQi Q) (zB D dA vwCl wC nC b) (zA nC b)) 0 0 (zA nC b) := by
  unfold wC_head at h
  refine Met.ofW (cc := cX11_head) (maxL := 5) (ret := (some .int)) (by decide) rfl ?_
  intro p e s m args below meth c s₁ B hml hv
  obtain ⟨hargs, hS, hK⟩ := hv
  have hx := B.exec
  have hb := B.bytes
  have hr := B.returns
  have hts := atoms_spec (ws := .code yX11_head cX11_head 5 (some .int) :: zt) B.pre
  have hown : s.vm.findClass RX11 = some m.cls := findClass_of_methodNamed B.named
  have hlocks := B.notSynchronized
  have hS0 : va_S (zA nC b) s.heap s.heap [] := va_S.rf
  have hl := lv_entry ([.ref (b + 0), .int (iI a0), .int (iI a1), .int (iI a2)]) (n := 5) (Nat.le_of_ble_eq_true rfl)
  have hent : entryFrame m args 5 = F0 m 0 ((lg_sl ([.ref (b + 0), .int (iI a0), .int (iI a1), .int (iI a2)]) ++ List.replicate (5 - (lg_sl ([.ref (b + 0), .int (iI a0), .int (iI a1), .int (iI a2)])).length) Slot.unset).toArray) [] := by rw [hargs]; exact lg_entry_eq m ([.ref (b + 0), .int (iI a0), .int (iI a1), .int (iI a2)]) 5
  rw [hent]
  generalize (lg_sl ([.ref (b + 0), .int (iI a0), .int (iI a1), .int (iI a2)]) ++ List.replicate (5 - (lg_sl ([.ref (b + 0), .int (iI a0), .int (iI a1), .int (iI a2)])).length) Slot.unset).toArray = ls at hl ⊢
  have hl : lv_has ls 5 [(0, .ref (b + 0)), (1, .int (iI a0)), (2, .int (iI a1)), (3, .int (iI a2))] := hl
  refine lv_aload_n hx hb dX11_head_0 rfl (lv_at hl 0 rfl) ?_
  refine w_getr (j2 := 32) hx hb hts (z_memU u11) hown hK.1 hS f11_2 (by decide) (zkd_of (rfl : zcd wC 0 = 0) rfl) (zrf_of (rfl : zcd wC 0 = 0) rfl) (Or.inl (hts _ (z_mem k244))) dX11_head_1 ?_
  refine lv_iload_n hx hb dX11_head_4 rfl (lv_at hl 1 rfl) ?_
  refine w_callq (va_runV (As := [.int (iI a0)]) (rest := []) ⟨hx, hb, hml, hown, hts⟩ (cC_Studio_find l D dA b M a0 _ h) (cwV 1 hts (z_gV k411 k412 k413 k4 k414) rfl rfl rfl dm_X9_find ⟨Nat.le_of_ble_eq_true rfl, Nat.le_of_ble_eq_true rfl⟩) ⟨wPre_blind, (w_recv hS hK.1 (by decide) (zkd_of (rfl : zcd wC 32 = 8) rfl) (by decide) (rfl : vwCl[9]? = some (RX9, TX9, 3))), w_pre hS hK⟩ rfl rfl hl.1 rfl (lv_room (Nat.le_of_ble_eq_true rfl)) dX11_head_5 ⟨Nat.le_refl _, Nat.le_refl _⟩) hS0 (fun z2 M1 H locs h hS hS0 => ?_)
  obtain ⟨e3, h⟩ := h
  rw [e3] at hS
  rcases z2 with _ | q4
  · skip
    have h := h.1 rfl
    refine lv_astoreN (lv' := [(4, .null), (0, .ref (b + 0)), (1, .int (iI a0)), (2, .int (iI a1)), (3, .int (iI a2))]) hx hb dX11_head_8 hl (by decide) rfl (fun ls hl => ?_)
    refine lv_aloadN hx hb dX11_head_10 (lv_at hl 0 rfl) ?_
    refine lv_ifnullN (tgt := 25) hx hb dX11_head_12 (by decide) ?_
    refine z_iconst hx hb dX11_head_25 ?_
    exact w_iret hx hb hr hlocks hS hS0 (sI_of (by decide)) h dX11_head_26
  · skip
    obtain ⟨⟨lt5, cd6⟩, h⟩ := h.2 q4 rfl
    obtain ⟨lt7, cd8, lt9, cd10, lt11, cd12⟩ := nx_ring q4 lt5 cd6
    refine lv_astore (lv' := [(4, .ref (b + q4)), (0, .ref (b + 0)), (1, .int (iI a0)), (2, .int (iI a1)), (3, .int (iI a2))]) hx hb dX11_head_8 hl (by decide) rfl (fun ls hl => ?_)
    refine lv_aload hx hb dX11_head_10 (lv_at hl 0 rfl) ?_
    refine lv_ifnull hx hb dX11_head_12 ?_
    refine lv_iload_n hx hb dX11_head_15 rfl (lv_at hl 3 rfl) ?_
    refine z_iconst hx hb dX11_head_16 ?_
    refine z_bipush hx hb (by decide) dX11_head_17 ?_
    refine w_callz (va_runS (As := [.int (iI a1), .int (iI 0), .int (iI 23)]) (rest := []) ⟨hx, hb, hml, hown, hts⟩ (cC_within l D dA b M a1 0 23 _ h) (va_cwS 3 hts (z_gS k382 k383 k1 k384) rfl rfl rfl dm_X11_within.2 ⟨Nat.le_of_ble_eq_true rfl, Nat.le_of_ble_eq_true rfl⟩) ⟨wPre_blind, w_pre hS hK⟩ rfl rfl hl.1 rfl (lv_room (Nat.le_of_ble_eq_true rfl)) dX11_head_19 ⟨Nat.le_refl _, Nat.le_refl _⟩) hS0 (fun z14 M13 H locs r15 h hS hS0 => ?_)
    obtain ⟨e16, h⟩ := h
    rw [e16] at hS
    refine w_if_ne (tgt := 27) hx hb (sI_01 r15) dX11_head_22 (by decide) (fun c17 => ?_) (fun c17 => ?_)
    · skip
      have h := h.1 c17
      refine lv_aload hx hb dX11_head_27 (lv_at hl 0 rfl) ?_
      refine lv_iload_n hx hb dX11_head_29 rfl (lv_at hl 3 rfl) ?_
      refine lv_iload_n hx hb dX11_head_30 rfl (lv_at hl 4 rfl) ?_
      refine w_calli (va_runV (As := [.int (iI a1), .int (iI a2)]) (rest := []) ⟨hx, hb, hml, hown, hts⟩ (cC_Ring_putHead l D dA b M q4 a1 a2 lt5 cd6 _ h) (cwV 2 hts (z_gV k428 k429 k430 k6 k431) rfl rfl rfl dm_X6_putHead ⟨Nat.le_of_ble_eq_true rfl, Nat.le_of_ble_eq_true rfl⟩) ⟨wPre_blind, (w_recv hS hK.1 lt5 (zkd_of cd6 rfl) (by decide) (rfl : vwCl[6]? = some (RX6, TX6, 6))), w_pre hS hK⟩ rfl rfl hl.1 rfl (lv_room (Nat.le_of_ble_eq_true rfl)) dX11_head_31 ⟨Nat.le_refl _, Nat.le_refl _⟩) hS0 (fun z19 M18 H locs r20 h hS hS0 => ?_)
      exact w_iret hx hb hr hlocks hS hS0 (sI_of r20) h dX11_head_34
    · skip
      have h := h.2 c17
      refine z_iconst hx hb dX11_head_25 ?_
      exact w_iret hx hb hr hlocks hS hS0 (sI_of (by decide)) h dX11_head_26

set_option maxRecDepth 100000 in
def wC_Studio_motorOf (a0 : Int) (M : zM) (Q : Option Nat → Prop) : Prop := ((sI a0) ≠ 0 → Q (some 38)) ∧ ((sI a0) = 0 → Q (some 35))
set_option maxHeartbeats 4000000 in
set_option maxRecDepth 100000 in
theorem cC_Studio_motorOf (l : Launch) (D : va_G) (dA : Nat → ClassId) (b : Nat) (M : zM) (a0 : Int)  (Q : Option Nat → Prop) (h : wC_Studio_motorOf a0 M Q) : Met l yX9_motorOf (.code yX9_motorOf cX9_motorOf 2 (some (.object "TapeRings$Motor")) :: zt) (z_rm 0) (va_Pc [.ref (b + 32), .int (iI a0)] (wPre D dA vwCl (z_tys dA) wC nC b M)) (va_Qq (wQq b (fun z9 u9 => u9 = M ∧ Q z9)) (zB D dA vwCl wC nC b) (zA nC b)) 0 0 (zA nC b) := by
  unfold wC_Studio_motorOf at h
  refine Met.ofW (cc := cX9_motorOf) (maxL := 2) (ret := (some (.object "TapeRings$Motor"))) (by decide) rfl ?_
  intro p e s m args below meth c s₁ B hml hv
  obtain ⟨hargs, hS, hK⟩ := hv
  have hx := B.exec
  have hb := B.bytes
  have hr := B.returns
  have hts := atoms_spec (ws := .code yX9_motorOf cX9_motorOf 2 (some (.object "TapeRings$Motor")) :: zt) B.pre
  have hown : s.vm.findClass RX9 = some m.cls := findClass_of_methodNamed B.named
  have hlocks := B.notSynchronized
  have hS0 : va_S (zA nC b) s.heap s.heap [] := va_S.rf
  have hl := lv_entry ([.ref (b + 32), .int (iI a0)]) (n := 2) (Nat.le_of_ble_eq_true rfl)
  have hent : entryFrame m args 2 = F0 m 0 ((lg_sl ([.ref (b + 32), .int (iI a0)]) ++ List.replicate (2 - (lg_sl ([.ref (b + 32), .int (iI a0)])).length) Slot.unset).toArray) [] := by rw [hargs]; exact lg_entry_eq m ([.ref (b + 32), .int (iI a0)]) 2
  rw [hent]
  generalize (lg_sl ([.ref (b + 32), .int (iI a0)]) ++ List.replicate (2 - (lg_sl ([.ref (b + 32), .int (iI a0)])).length) Slot.unset).toArray = ls at hl ⊢
  have hl : lv_has ls 2 [(0, .ref (b + 32)), (1, .int (iI a0))] := hl
  refine lv_aload_n hx hb dX9_motorOf_0 rfl (lv_at hl 0 rfl) ?_
  refine w_getr (j2 := 33) hx hb hts (z_memU u9) hown hK.1 hS f9_0 (by decide) (zkd_of (rfl : zcd wC 32 = 8) rfl) (zrf_of (rfl : zcd wC 32 = 8) rfl) (Or.inl (hts _ (z_mem k116))) dX9_motorOf_1 ?_
  refine lv_iload_n hx hb dX9_motorOf_4 rfl (lv_at hl 1 rfl) ?_
  refine w_if_ne (tgt := 12) hx hb rfl dX9_motorOf_5 (by decide) (fun c1 => ?_) (fun c1 => ?_)
  · skip
    have h := h.1 c1
    refine z_iconst hx hb dX9_motorOf_12 ?_
    refine w_aald (n := 2) (i := 1) (j2 := 38) hx hb hK.1 (t0 := 5) (r := 5) (by decide) rfl rfl hS (by decide) (zkd_of (rfl : zcd wC 33 = 9) rfl) (zln_of (rfl : zcd wC 33 = 9) rfl) (sI_of (by decide)) (by decide) (by decide) (by decide) (zrf_of (rfl : zcd wC 33 = 9) rfl) dX9_motorOf_13 ?_
    exact w_aret hx hb hr (Or.inl ⟨_, rfl⟩) hlocks hS hS0 (some 38) rfl ⟨rfl, h⟩ dX9_motorOf_14
  · skip
    have h := h.2 c1
    refine z_iconst hx hb dX9_motorOf_8 ?_
    refine lv_goto (tgt := 13) hx hb dX9_motorOf_9 (by decide) ?_
    refine w_aald (n := 2) (i := 0) (j2 := 35) hx hb hK.1 (t0 := 5) (r := 5) (by decide) rfl rfl hS (by decide) (zkd_of (rfl : zcd wC 33 = 9) rfl) (zln_of (rfl : zcd wC 33 = 9) rfl) (sI_of (by decide)) (by decide) (by decide) (by decide) (zrf_of (rfl : zcd wC 33 = 9) rfl) dX9_motorOf_13 ?_
    exact w_aret hx hb hr (Or.inl ⟨_, rfl⟩) hlocks hS hS0 (some 35) rfl ⟨rfl, h⟩ dX9_motorOf_14

set_option maxRecDepth 100000 in
def wC_Motor_tell (j : Nat) (a0 : Int) (a1 : Int) (M : zM) (Q : Int → zM → Prop) : Prop := pL1 (fun K2 x5 => pJ0 (fun J26 => ((sI (M j 2)) ≤ (sI x5) → J26) ∧ ((sI x5) < (sI (M j 2)) → ((0 ≤ (sI x5) ∧ (sI x5) < 12) ∧ ((sI a0) ≤ (sI (M (j + 1) (sI x5).toNat)) → J26) ∧ ((sI (M (j + 1) (sI x5).toNat)) < (sI a0) → K2 (x5 + 1))))) (pJ0 (fun J53 => ((sI (M j 2)) ≤ (sI x5) → J53) ∧ ((sI x5) < (sI (M j 2)) → ((0 ≤ (sI x5) ∧ (sI x5) < 12) ∧ ((sI (M (j + 1) (sI x5).toNat)) ≠ (sI a0) → J53) ∧ ((sI (M (j + 1) (sI x5).toNat)) = (sI a0) → ((0 ≤ (sI x5) ∧ (sI x5) < 12) ∧ (∀ M61 : zM, M61 = zup M (j + 2) (sI x5).toNat a1 → Q 1 M61)))))) (((sI (M j 2)) < 12 → wL1 (fun K70 x29 M30 => ((sI x29) ≤ (sI x5) → ((0 ≤ (sI x5) ∧ (sI x5) < 12) ∧ (∀ M40 : zM, M40 = zup M30 (j + 1) (sI x5).toNat a0 → ((0 ≤ (sI x5) ∧ (sI x5) < 12) ∧ (∀ M43 : zM, M43 = zup M40 (j + 2) (sI x5).toNat a1 → (∀ M45 : zM, M45 = zup M43 j 2 ((M43 j 2) + 1) → Q 1 M45)))))) ∧ ((sI x5) < (sI x29) → ((0 ≤ (sI (x29 - 1)) ∧ (sI (x29 - 1)) < 12) ∧ ((0 ≤ (sI x29) ∧ (sI x29) < 12) ∧ (∀ M49 : zM, M49 = zup M30 (j + 1) (sI x29).toNat (M30 (j + 1) (sI (x29 - 1)).toNat) → ((0 ≤ (sI (x29 - 1)) ∧ (sI (x29 - 1)) < 12) ∧ ((0 ≤ (sI x29) ∧ (sI x29) < 12) ∧ (∀ M53 : zM, M53 = zup M49 (j + 2) (sI x29).toNat (M49 (j + 2) (sI (x29 - 1)).toNat) → K70 (x29 + (-1)) M53)))))))) (M j 2) M) ∧ (12 ≤ (sI (M j 2)) → Q 0 M)))) 0
set_option maxHeartbeats 4000000 in
set_option maxRecDepth 100000 in
theorem cC_Motor_tell (l : Launch) (D : va_G) (dA : Nat → ClassId) (b : Nat) (M : zM) (j : Nat) (a0 : Int) (a1 : Int) (lt_j : j < nC) (cd_j : zcd wC j = 11) (Q : Int → zM → Prop) (h : wC_Motor_tell j a0 a1 M Q) : Met l yX2_tell (.code yX2_tell cX2_tell 5 (some .boolean) :: zt) (z_rm 0) (va_Pc [.ref (b + j), .int (iI a0), .int (iI a1)] (wPre D dA vwCl (z_tys dA) wC nC b M)) (va_Qi (wQz Q) (zB D dA vwCl wC nC b) (zA nC b)) 0 0 (zA nC b) := by
  unfold wC_Motor_tell at h
  refine Met.ofW (cc := cX2_tell) (maxL := 5) (ret := (some .boolean)) (by decide) rfl ?_
  intro p e s m args below meth c s₁ B hml hv
  obtain ⟨hargs, hS, hK⟩ := hv
  have hx := B.exec
  have hb := B.bytes
  have hr := B.returns
  have hts := atoms_spec (ws := .code yX2_tell cX2_tell 5 (some .boolean) :: zt) B.pre
  have hown : s.vm.findClass RX2 = some m.cls := findClass_of_methodNamed B.named
  have hlocks := B.notSynchronized
  have hS0 : va_S (zA nC b) s.heap s.heap [] := va_S.rf
  have hl := lv_entry ([.ref (b + j), .int (iI a0), .int (iI a1)]) (n := 5) (Nat.le_of_ble_eq_true rfl)
  have hent : entryFrame m args 5 = F0 m 0 ((lg_sl ([.ref (b + j), .int (iI a0), .int (iI a1)]) ++ List.replicate (5 - (lg_sl ([.ref (b + j), .int (iI a0), .int (iI a1)])).length) Slot.unset).toArray) [] := by rw [hargs]; exact lg_entry_eq m ([.ref (b + j), .int (iI a0), .int (iI a1)]) 5
  rw [hent]
  generalize (lg_sl ([.ref (b + j), .int (iI a0), .int (iI a1)]) ++ List.replicate (5 - (lg_sl ([.ref (b + j), .int (iI a0), .int (iI a1)])).length) Slot.unset).toArray = ls at hl ⊢
  have hl : lv_has ls 5 [(0, .ref (b + j)), (1, .int (iI a0)), (2, .int (iI a1))] := hl
  obtain ⟨lt1, cd2, lt3, cd4⟩ := nx_motor j lt_j cd_j
  refine z_iconst hx hb dX2_tell_0 ?_
  refine lv_istore_n (lv' := [(3, .int (iI 0)), (0, .ref (b + j)), (1, .int (iI a0)), (2, .int (iI a1))]) hx hb dX2_tell_1 rfl hl (by decide) rfl (fun ls hl => ?_)
  obtain ⟨I6, ⟨n7, h8⟩, h9⟩ := h
  have L10 : ∀ (n11 : Nat) (x5 : Int) (H : Heap) (locs : List Loc) (ls : Array Slot), I6 n11 x5 → zR D dA vwCl wC nC b M H → va_S (zA nC b) s.heap H locs → lv_has ls 5 [(0, .ref (b + j)), (1, .int (iI a0)), (2, .int (iI a1)), (3, .int (iI x5))] → W p l e (headSpec (.code yX2_tell cX2_tell 5 (some .boolean) :: zt) (z_rm 0)).room s m args below meth c H locs 0 0 (MQ below (va_Qi (wQz Q) (zB D dA vwCl wC nC b) (zA nC b)) args s 0 0 (zA nC b)) (F0 m 2 ls []) := by
    intro n11
    induction n11 using Nat.strongRecOn with
    | ind n11 i12 =>
      intro x5 H locs ls h hS hS0 hl
      have h := h9 n11 x5 h
      refine lv_iload_n hx hb dX2_tell_2 rfl (lv_at hl 3 rfl) ?_
      refine lv_aload_n hx hb dX2_tell_3 rfl (lv_at hl 0 rfl) ?_
      refine w_geti hx hb hts (z_memU u2) hown hK.1 hS f2_2 lt_j (zkd_of cd_j rfl) (Or.inl (hts _ (z_mem k84))) dX2_tell_4 ?_
      obtain ⟨J26, B19, h⟩ := h
      have L18 : ∀ (H : Heap) (locs : List Loc) (ls : Array Slot), J26 → zR D dA vwCl wC nC b M H → va_S (zA nC b) s.heap H locs → lv_has ls 5 [(0, .ref (b + j)), (1, .int (iI a0)), (2, .int (iI a1)), (3, .int (iI x5))] → W p l e (headSpec (.code yX2_tell cX2_tell 5 (some .boolean) :: zt) (z_rm 0)).room s m args below meth c H locs 0 0 (MQ below (va_Qi (wQz Q) (zB D dA vwCl wC nC b) (zA nC b)) args s 0 0 (zA nC b)) (F0 m 26 ls []) := by
        intro  H locs ls h hS hS0 hl
        have h := B19 h
        refine lv_iload_n hx hb dX2_tell_26 rfl (lv_at hl 3 rfl) ?_
        refine lv_aload_n hx hb dX2_tell_27 rfl (lv_at hl 0 rfl) ?_
        refine w_geti hx hb hts (z_memU u2) hown hK.1 hS f2_2 lt_j (zkd_of cd_j rfl) (Or.inl (hts _ (z_mem k84))) dX2_tell_28 ?_
        obtain ⟨J53, B27, h⟩ := h
        have L26 : ∀ (H : Heap) (locs : List Loc) (ls : Array Slot), J53 → zR D dA vwCl wC nC b M H → va_S (zA nC b) s.heap H locs → lv_has ls 5 [(0, .ref (b + j)), (1, .int (iI a0)), (2, .int (iI a1)), (3, .int (iI x5))] → W p l e (headSpec (.code yX2_tell cX2_tell 5 (some .boolean) :: zt) (z_rm 0)).room s m args below meth c H locs 0 0 (MQ below (va_Qi (wQz Q) (zB D dA vwCl wC nC b) (zA nC b)) args s 0 0 (zA nC b)) (F0 m 53 ls []) := by
          intro  H locs ls h hS hS0 hl
          have h := B27 h
          refine lv_aload_n hx hb dX2_tell_53 rfl (lv_at hl 0 rfl) ?_
          refine w_geti hx hb hts (z_memU u2) hown hK.1 hS f2_2 lt_j (zkd_of cd_j rfl) (Or.inl (hts _ (z_mem k84))) dX2_tell_54 ?_
          refine z_bipush hx hb (by decide) dX2_tell_57 ?_
          refine w_icmp_lt (tgt := 64) hx hb rfl (sI_of (by decide)) dX2_tell_59 (by decide) (fun c28 => ?_) (fun c28 => ?_)
          · skip
            have h := h.1 c28
            refine lv_aload_n hx hb dX2_tell_64 rfl (lv_at hl 0 rfl) ?_
            refine w_geti hx hb hts (z_memU u2) hown hK.1 hS f2_2 lt_j (zkd_of cd_j rfl) (Or.inl (hts _ (z_mem k84))) dX2_tell_65 ?_
            refine lv_istore (lv' := [(4, .int (iI (M j 2))), (0, .ref (b + j)), (1, .int (iI a0)), (2, .int (iI a1)), (3, .int (iI x5))]) hx hb dX2_tell_68 hl (by decide) rfl (fun ls hl => ?_)
            obtain ⟨I31, ⟨n32, h33⟩, h34⟩ := h
            have L35 : ∀ (n36 : Nat) (x29 : Int) (M30 : zM) (H : Heap) (locs : List Loc) (ls : Array Slot), I31 n36 x29 M30 → zR D dA vwCl wC nC b M30 H → va_S (zA nC b) s.heap H locs → lv_has ls 5 [(0, .ref (b + j)), (1, .int (iI a0)), (2, .int (iI a1)), (3, .int (iI x5)), (4, .int (iI x29))] → W p l e (headSpec (.code yX2_tell cX2_tell 5 (some .boolean) :: zt) (z_rm 0)).room s m args below meth c H locs 0 0 (MQ below (va_Qi (wQz Q) (zB D dA vwCl wC nC b) (zA nC b)) args s 0 0 (zA nC b)) (F0 m 70 ls []) := by
              intro n36
              induction n36 using Nat.strongRecOn with
              | ind n36 i37 =>
                intro x29 M30 H locs ls h hS hS0 hl
                have h := h34 n36 x29 M30 h
                refine lv_iload hx hb dX2_tell_70 (lv_at hl 4 rfl) ?_
                refine lv_iload_n hx hb dX2_tell_72 rfl (lv_at hl 3 rfl) ?_
                refine w_icmp_le (tgt := 114) hx hb rfl rfl dX2_tell_73 (by decide) (fun c38 => ?_) (fun c38 => ?_)
                · skip
                  have h := h.1 c38
                  refine lv_aload_n hx hb dX2_tell_114 rfl (lv_at hl 0 rfl) ?_
                  refine w_getr (j2 := (j + 1)) hx hb hts (z_memU u2) hown hK.1 hS f2_0 lt_j (zkd_of cd_j rfl) (zrf_of cd_j rfl) (Or.inl (hts _ (z_mem k82))) dX2_tell_115 ?_
                  refine lv_iload_n hx hb dX2_tell_118 rfl (lv_at hl 3 rfl) ?_
                  refine lv_iload_n hx hb dX2_tell_119 rfl (lv_at hl 1 rfl) ?_
                  obtain ⟨o39, h⟩ := h
                  refine w_iast (z := a0) (n := 12) (i := (sI x5)) hx hb hK.1 (t0 := 0) rfl hS hS0 lt1 (zkd_of cd2 rfl) (zln_of cd2 rfl) rfl o39.1 o39.2 (by decide) dX2_tell_120 (fun H locs hS hS0 => ?_)
                  obtain ⟨M40, e41⟩ : ∃ M40 : zM, M40 = zup M30 (j + 1) (sI x5).toNat a0 := ⟨_, rfl⟩
                  rw [← e41] at hS
                  have h := h M40 e41
                  refine lv_aload_n hx hb dX2_tell_121 rfl (lv_at hl 0 rfl) ?_
                  refine w_getr (j2 := (j + 2)) hx hb hts (z_memU u2) hown hK.1 hS f2_1 lt_j (zkd_of cd_j rfl) (zrf_of cd_j rfl) (Or.inl (hts _ (z_mem k83))) dX2_tell_122 ?_
                  refine lv_iload_n hx hb dX2_tell_125 rfl (lv_at hl 3 rfl) ?_
                  refine lv_iload_n hx hb dX2_tell_126 rfl (lv_at hl 2 rfl) ?_
                  obtain ⟨o42, h⟩ := h
                  refine w_iast (z := a1) (n := 12) (i := (sI x5)) hx hb hK.1 (t0 := 0) rfl hS hS0 lt3 (zkd_of cd4 rfl) (zln_of cd4 rfl) rfl o42.1 o42.2 (by decide) dX2_tell_127 (fun H locs hS hS0 => ?_)
                  obtain ⟨M43, e44⟩ : ∃ M43 : zM, M43 = zup M40 (j + 2) (sI x5).toNat a1 := ⟨_, rfl⟩
                  rw [← e44] at hS
                  have h := h M43 e44
                  refine lv_aload_n hx hb dX2_tell_128 rfl (lv_at hl 0 rfl) ?_
                  refine lv_dup hx hb dX2_tell_129 rfl ?_
                  refine w_geti hx hb hts (z_memU u2) hown hK.1 hS f2_2 lt_j (zkd_of cd_j rfl) (Or.inl (hts _ (z_mem k84))) dX2_tell_130 ?_
                  refine z_iconst hx hb dX2_tell_133 ?_
                  refine z_iadd hx hb dX2_tell_134 ?_
                  refine w_puti hx hb hts (z_memU u2) tyX2 tyX2_ok nmX2 hown hK.1 hS hS0 f2_2 lt_j (zkd_of cd_j rfl) (Or.inl (hts _ (z_mem k84))) rfl (z := ((M43 j 2) + 1)) (by decide +kernel) dX2_tell_135 (fun H locs hS hS0 => ?_)
                  obtain ⟨M45, e46⟩ : ∃ M45 : zM, M45 = zup M43 j 2 ((M43 j 2) + 1) := ⟨_, rfl⟩
                  rw [← e46] at hS
                  have h := h M45 e46
                  refine z_iconst hx hb dX2_tell_138 ?_
                  exact w_zret hx hb hr hlocks hS hS0 (sI_of (by decide)) (by decide) h dX2_tell_139
                · skip
                  have h := h.2 c38
                  refine lv_aload_n hx hb dX2_tell_76 rfl (lv_at hl 0 rfl) ?_
                  refine w_getr (j2 := (j + 1)) hx hb hts (z_memU u2) hown hK.1 hS f2_0 lt_j (zkd_of cd_j rfl) (zrf_of cd_j rfl) (Or.inl (hts _ (z_mem k82))) dX2_tell_77 ?_
                  refine lv_iload hx hb dX2_tell_80 (lv_at hl 4 rfl) ?_
                  refine lv_aload_n hx hb dX2_tell_82 rfl (lv_at hl 0 rfl) ?_
                  refine w_getr (j2 := (j + 1)) hx hb hts (z_memU u2) hown hK.1 hS f2_0 lt_j (zkd_of cd_j rfl) (zrf_of cd_j rfl) (Or.inl (hts _ (z_mem k82))) dX2_tell_83 ?_
                  refine lv_iload hx hb dX2_tell_86 (lv_at hl 4 rfl) ?_
                  refine z_iconst hx hb dX2_tell_88 ?_
                  refine z_isub hx hb dX2_tell_89 ?_
                  obtain ⟨o47, h⟩ := h
                  refine w_iald (n := 12) (i := (sI (x29 - 1))) hx hb hK.1 (t0 := 0) rfl hS lt1 (zkd_of cd2 rfl) (zln_of cd2 rfl) rfl o47.1 o47.2 (by decide) dX2_tell_90 ?_
                  obtain ⟨o48, h⟩ := h
                  refine w_iast (z := (M30 (j + 1) (sI (x29 - 1)).toNat)) (n := 12) (i := (sI x29)) hx hb hK.1 (t0 := 0) rfl hS hS0 lt1 (zkd_of cd2 rfl) (zln_of cd2 rfl) rfl o48.1 o48.2 (by decide) dX2_tell_91 (fun H locs hS hS0 => ?_)
                  obtain ⟨M49, e50⟩ : ∃ M49 : zM, M49 = zup M30 (j + 1) (sI x29).toNat (M30 (j + 1) (sI (x29 - 1)).toNat) := ⟨_, rfl⟩
                  rw [← e50] at hS
                  have h := h M49 e50
                  refine lv_aload_n hx hb dX2_tell_92 rfl (lv_at hl 0 rfl) ?_
                  refine w_getr (j2 := (j + 2)) hx hb hts (z_memU u2) hown hK.1 hS f2_1 lt_j (zkd_of cd_j rfl) (zrf_of cd_j rfl) (Or.inl (hts _ (z_mem k83))) dX2_tell_93 ?_
                  refine lv_iload hx hb dX2_tell_96 (lv_at hl 4 rfl) ?_
                  refine lv_aload_n hx hb dX2_tell_98 rfl (lv_at hl 0 rfl) ?_
                  refine w_getr (j2 := (j + 2)) hx hb hts (z_memU u2) hown hK.1 hS f2_1 lt_j (zkd_of cd_j rfl) (zrf_of cd_j rfl) (Or.inl (hts _ (z_mem k83))) dX2_tell_99 ?_
                  refine lv_iload hx hb dX2_tell_102 (lv_at hl 4 rfl) ?_
                  refine z_iconst hx hb dX2_tell_104 ?_
                  refine z_isub hx hb dX2_tell_105 ?_
                  obtain ⟨o51, h⟩ := h
                  refine w_iald (n := 12) (i := (sI (x29 - 1))) hx hb hK.1 (t0 := 0) rfl hS lt3 (zkd_of cd4 rfl) (zln_of cd4 rfl) rfl o51.1 o51.2 (by decide) dX2_tell_106 ?_
                  obtain ⟨o52, h⟩ := h
                  refine w_iast (z := (M49 (j + 2) (sI (x29 - 1)).toNat)) (n := 12) (i := (sI x29)) hx hb hK.1 (t0 := 0) rfl hS hS0 lt3 (zkd_of cd4 rfl) (zln_of cd4 rfl) rfl o52.1 o52.2 (by decide) dX2_tell_107 (fun H locs hS hS0 => ?_)
                  obtain ⟨M53, e54⟩ : ∃ M53 : zM, M53 = zup M49 (j + 2) (sI x29).toNat (M49 (j + 2) (sI (x29 - 1)).toNat) := ⟨_, rfl⟩
                  rw [← e54] at hS
                  have h := h M53 e54
                  refine z_iinc (lv' := [(4, .int (iI (x29 + (-1)))), (0, .ref (b + j)), (1, .int (iI a0)), (2, .int (iI a1)), (3, .int (iI x5))]) hx hb dX2_tell_108 hl (k := 4) rfl (by decide) rfl (fun ls hl => ?_)
                  refine lv_goto (tgt := 70) hx hb dX2_tell_111 (by decide) ?_
                  obtain ⟨n55, h56, h⟩ := h
                  exact i37 n55 h56 (x29 + (-1)) M53 _ _ _ h hS hS0 (lv_sub hl [1, 2, 3, 4, 0] rfl)
            exact L35 n32 (M j 2) M _ _ _ h33 hS hS0 (lv_sub hl [1, 2, 3, 4, 0] rfl)
          · skip
            have h := h.2 c28
            refine z_iconst hx hb dX2_tell_62 ?_
            exact w_zret hx hb hr hlocks hS hS0 (sI_of (by decide)) (by decide) h dX2_tell_63
        refine w_icmp_ge (tgt := 53) hx hb rfl rfl dX2_tell_31 (by decide) (fun c57 => ?_) (fun c57 => ?_)
        · skip
          have h := h.1 c57
          exact L26 _ _ _ h hS hS0 (lv_sub hl [0, 1, 2, 3] rfl)
        · skip
          have h := h.2 c57
          refine lv_aload_n hx hb dX2_tell_34 rfl (lv_at hl 0 rfl) ?_
          refine w_getr (j2 := (j + 1)) hx hb hts (z_memU u2) hown hK.1 hS f2_0 lt_j (zkd_of cd_j rfl) (zrf_of cd_j rfl) (Or.inl (hts _ (z_mem k82))) dX2_tell_35 ?_
          refine lv_iload_n hx hb dX2_tell_38 rfl (lv_at hl 3 rfl) ?_
          obtain ⟨o58, h⟩ := h
          refine w_iald (n := 12) (i := (sI x5)) hx hb hK.1 (t0 := 0) rfl hS lt1 (zkd_of cd2 rfl) (zln_of cd2 rfl) rfl o58.1 o58.2 (by decide) dX2_tell_39 ?_
          refine lv_iload_n hx hb dX2_tell_40 rfl (lv_at hl 1 rfl) ?_
          refine w_icmp_ne (tgt := 53) hx hb rfl rfl dX2_tell_41 (by decide) (fun c59 => ?_) (fun c59 => ?_)
          · skip
            have h := h.1 c59
            exact L26 _ _ _ h hS hS0 (lv_sub hl [0, 1, 2, 3] rfl)
          · skip
            have h := h.2 c59
            refine lv_aload_n hx hb dX2_tell_44 rfl (lv_at hl 0 rfl) ?_
            refine w_getr (j2 := (j + 2)) hx hb hts (z_memU u2) hown hK.1 hS f2_1 lt_j (zkd_of cd_j rfl) (zrf_of cd_j rfl) (Or.inl (hts _ (z_mem k83))) dX2_tell_45 ?_
            refine lv_iload_n hx hb dX2_tell_48 rfl (lv_at hl 3 rfl) ?_
            refine lv_iload_n hx hb dX2_tell_49 rfl (lv_at hl 2 rfl) ?_
            obtain ⟨o60, h⟩ := h
            refine w_iast (z := a1) (n := 12) (i := (sI x5)) hx hb hK.1 (t0 := 0) rfl hS hS0 lt3 (zkd_of cd4 rfl) (zln_of cd4 rfl) rfl o60.1 o60.2 (by decide) dX2_tell_50 (fun H locs hS hS0 => ?_)
            obtain ⟨M61, e62⟩ : ∃ M61 : zM, M61 = zup M (j + 2) (sI x5).toNat a1 := ⟨_, rfl⟩
            rw [← e62] at hS
            have h := h M61 e62
            refine z_iconst hx hb dX2_tell_51 ?_
            exact w_zret hx hb hr hlocks hS hS0 (sI_of (by decide)) (by decide) h dX2_tell_52
      refine w_icmp_ge (tgt := 26) hx hb rfl rfl dX2_tell_7 (by decide) (fun c63 => ?_) (fun c63 => ?_)
      · skip
        have h := h.1 c63
        exact L18 _ _ _ h hS hS0 (lv_sub hl [0, 1, 2, 3] rfl)
      · skip
        have h := h.2 c63
        refine lv_aload_n hx hb dX2_tell_10 rfl (lv_at hl 0 rfl) ?_
        refine w_getr (j2 := (j + 1)) hx hb hts (z_memU u2) hown hK.1 hS f2_0 lt_j (zkd_of cd_j rfl) (zrf_of cd_j rfl) (Or.inl (hts _ (z_mem k82))) dX2_tell_11 ?_
        refine lv_iload_n hx hb dX2_tell_14 rfl (lv_at hl 3 rfl) ?_
        obtain ⟨o64, h⟩ := h
        refine w_iald (n := 12) (i := (sI x5)) hx hb hK.1 (t0 := 0) rfl hS lt1 (zkd_of cd2 rfl) (zln_of cd2 rfl) rfl o64.1 o64.2 (by decide) dX2_tell_15 ?_
        refine lv_iload_n hx hb dX2_tell_16 rfl (lv_at hl 1 rfl) ?_
        refine w_icmp_ge (tgt := 26) hx hb rfl rfl dX2_tell_17 (by decide) (fun c65 => ?_) (fun c65 => ?_)
        · skip
          have h := h.1 c65
          exact L18 _ _ _ h hS hS0 (lv_sub hl [0, 1, 2, 3] rfl)
        · skip
          have h := h.2 c65
          refine z_iinc (lv' := [(3, .int (iI (x5 + 1))), (0, .ref (b + j)), (1, .int (iI a0)), (2, .int (iI a1))]) hx hb dX2_tell_20 hl (k := 3) rfl (by decide) rfl (fun ls hl => ?_)
          refine lv_goto (tgt := 2) hx hb dX2_tell_23 (by decide) ?_
          obtain ⟨n66, h67, h⟩ := h
          exact i12 n66 h67 (x5 + 1) _ _ _ h hS hS0 (lv_sub hl [1, 2, 3, 0] rfl)
  exact L10 n7 0 _ _ _ h8 hS hS0 (lv_sub hl [1, 2, 3, 0] rfl)
