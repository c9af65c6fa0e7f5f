/-! the W layer, 15 -/
theorem dX12_hand_0 : decode cX12_hand 0 = .ok (.aload_n 0, 1) := by decide +kernel
theorem dX12_hand_1 : decode cX12_hand 1 = .ok (.iconst 0, 1) := by decide +kernel
theorem dX12_hand_11 : decode cX12_hand 11 = .ok (.iconst 1, 1) := by decide +kernel
theorem dX12_hand_12 : decode cX12_hand 12 = .ok (.isub, 1) := by decide +kernel
theorem dX12_hand_13 : decode cX12_hand 13 = .ok (.invokestatic 124, 3) := by decide +kernel
theorem dX12_hand_16 : decode cX12_hand 16 = .ok (.ifCond .eq 12, 3) := by decide +kernel
theorem dX12_hand_19 : decode cX12_hand 19 = .ok (.aload_n 0, 1) := by decide +kernel
theorem dX12_hand_2 : decode cX12_hand 2 = .ok (.putfield 118, 3) := by decide +kernel
theorem dX12_hand_20 : decode cX12_hand 20 = .ok (.getfield 13, 3) := by decide +kernel
theorem dX12_hand_23 : decode cX12_hand 23 = .ok (.iload_n 1, 1) := by decide +kernel
theorem dX12_hand_24 : decode cX12_hand 24 = .ok (.iaload, 1) := by decide +kernel
theorem dX12_hand_25 : decode cX12_hand 25 = .ok (.goto 4, 3) := by decide +kernel
theorem dX12_hand_28 : decode cX12_hand 28 = .ok (.iconst (-1), 1) := by decide +kernel
theorem dX12_hand_29 : decode cX12_hand 29 = .ok (.ireturn, 1) := by decide +kernel
theorem dX12_hand_5 : decode cX12_hand 5 = .ok (.iload_n 1, 1) := by decide +kernel
theorem dX12_hand_6 : decode cX12_hand 6 = .ok (.iconst 0, 1) := by decide +kernel
theorem dX12_hand_7 : decode cX12_hand 7 = .ok (.aload_n 0, 1) := by decide +kernel
theorem dX12_hand_8 : decode cX12_hand 8 = .ok (.getfield 162, 3) := by decide +kernel
theorem dX12_over_0 : decode cX12_over 0 = .ok (.aload_n 0, 1) := by decide +kernel
theorem dX12_over_1 : decode cX12_over 1 = .ok (.iconst 0, 1) := by decide +kernel
theorem dX12_over_10 : decode cX12_over 10 = .ok (.ifCond .eq 35, 3) := by decide +kernel
theorem dX12_over_100 : decode cX12_over 100 = .ok (.aload_n 0, 1) := by decide +kernel
theorem dX12_over_101 : decode cX12_over 101 = .ok (.getfield 17, 3) := by decide +kernel
theorem dX12_over_104 : decode cX12_over 104 = .ok (.iload 6, 2) := by decide +kernel
theorem dX12_over_106 : decode cX12_over 106 = .ok (.iaload, 1) := by decide +kernel
theorem dX12_over_107 : decode cX12_over 107 = .ok (.aload_n 0, 1) := by decide +kernel
theorem dX12_over_108 : decode cX12_over 108 = .ok (.getfield 13, 3) := by decide +kernel
theorem dX12_over_111 : decode cX12_over 111 = .ok (.iload 5, 2) := by decide +kernel
theorem dX12_over_113 : decode cX12_over 113 = .ok (.iaload, 1) := by decide +kernel
theorem dX12_over_114 : decode cX12_over 114 = .ok (.ior, 1) := by decide +kernel
theorem dX12_over_115 : decode cX12_over 115 = .ok (.istore 7, 2) := by decide +kernel
theorem dX12_over_117 : decode cX12_over 117 = .ok (.iload 7, 2) := by decide +kernel
theorem dX12_over_119 : decode cX12_over 119 = .ok (.aload_n 0, 1) := by decide +kernel
theorem dX12_over_120 : decode cX12_over 120 = .ok (.getfield 17, 3) := by decide +kernel
theorem dX12_over_123 : decode cX12_over 123 = .ok (.iload 6, 2) := by decide +kernel
theorem dX12_over_125 : decode cX12_over 125 = .ok (.iaload, 1) := by decide +kernel
theorem dX12_over_126 : decode cX12_over 126 = .ok (.if_icmp .eq 6, 3) := by decide +kernel
theorem dX12_over_129 : decode cX12_over 129 = .ok (.iinc 4 1, 3) := by decide +kernel
theorem dX12_over_13 : decode cX12_over 13 = .ok (.iload_n 2, 1) := by decide +kernel
theorem dX12_over_132 : decode cX12_over 132 = .ok (.aload_n 0, 1) := by decide +kernel
theorem dX12_over_133 : decode cX12_over 133 = .ok (.getfield 17, 3) := by decide +kernel
theorem dX12_over_136 : decode cX12_over 136 = .ok (.iload 6, 2) := by decide +kernel
theorem dX12_over_138 : decode cX12_over 138 = .ok (.iload 7, 2) := by decide +kernel
theorem dX12_over_14 : decode cX12_over 14 = .ok (.iconst 0, 1) := by decide +kernel
theorem dX12_over_140 : decode cX12_over 140 = .ok (.iastore, 1) := by decide +kernel
theorem dX12_over_141 : decode cX12_over 141 = .ok (.iinc 5 1, 3) := by decide +kernel
theorem dX12_over_144 : decode cX12_over 144 = .ok (.goto (-91), 3) := by decide +kernel
theorem dX12_over_147 : decode cX12_over 147 = .ok (.iload 4, 2) := by decide +kernel
theorem dX12_over_149 : decode cX12_over 149 = .ok (.ireturn, 1) := by decide +kernel
theorem dX12_over_15 : decode cX12_over 15 = .ok (.aload_n 0, 1) := by decide +kernel
theorem dX12_over_16 : decode cX12_over 16 = .ok (.getfield 20, 3) := by decide +kernel
theorem dX12_over_19 : decode cX12_over 19 = .ok (.iload_n 1, 1) := by decide +kernel
theorem dX12_over_2 : decode cX12_over 2 = .ok (.putfield 118, 3) := by decide +kernel
theorem dX12_over_20 : decode cX12_over 20 = .ok (.iaload, 1) := by decide +kernel
theorem dX12_over_21 : decode cX12_over 21 = .ok (.iconst 1, 1) := by decide +kernel
theorem dX12_over_22 : decode cX12_over 22 = .ok (.isub, 1) := by decide +kernel
theorem dX12_over_23 : decode cX12_over 23 = .ok (.invokestatic 124, 3) := by decide +kernel
theorem dX12_over_26 : decode cX12_over 26 = .ok (.ifCond .eq 19, 3) := by decide +kernel
theorem dX12_over_29 : decode cX12_over 29 = .ok (.iload_n 3, 1) := by decide +kernel
theorem dX12_over_30 : decode cX12_over 30 = .ok (.iconst 0, 1) := by decide +kernel
theorem dX12_over_31 : decode cX12_over 31 = .ok (.iconst 1, 1) := by decide +kernel
theorem dX12_over_32 : decode cX12_over 32 = .ok (.invokestatic 124, 3) := by decide +kernel
theorem dX12_over_35 : decode cX12_over 35 = .ok (.ifCond .eq 10, 3) := by decide +kernel
theorem dX12_over_38 : decode cX12_over 38 = .ok (.aload_n 0, 1) := by decide +kernel
theorem dX12_over_39 : decode cX12_over 39 = .ok (.getfield 162, 3) := by decide +kernel
theorem dX12_over_42 : decode cX12_over 42 = .ok (.ifCond .ne 5, 3) := by decide +kernel
theorem dX12_over_45 : decode cX12_over 45 = .ok (.iconst (-1), 1) := by decide +kernel
theorem dX12_over_46 : decode cX12_over 46 = .ok (.ireturn, 1) := by decide +kernel
theorem dX12_over_47 : decode cX12_over 47 = .ok (.iconst 0, 1) := by decide +kernel
theorem dX12_over_48 : decode cX12_over 48 = .ok (.istore 4, 2) := by decide +kernel
theorem dX12_over_5 : decode cX12_over 5 = .ok (.aload_n 0, 1) := by decide +kernel
theorem dX12_over_50 : decode cX12_over 50 = .ok (.iconst 0, 1) := by decide +kernel
theorem dX12_over_51 : decode cX12_over 51 = .ok (.istore 5, 2) := by decide +kernel
theorem dX12_over_53 : decode cX12_over 53 = .ok (.iload 5, 2) := by decide +kernel
theorem dX12_over_55 : decode cX12_over 55 = .ok (.aload_n 0, 1) := by decide +kernel
theorem dX12_over_56 : decode cX12_over 56 = .ok (.getfield 162, 3) := by decide +kernel
theorem dX12_over_59 : decode cX12_over 59 = .ok (.if_icmp .ge 88, 3) := by decide +kernel
theorem dX12_over_6 : decode cX12_over 6 = .ok (.iload_n 1, 1) := by decide +kernel
theorem dX12_over_62 : decode cX12_over 62 = .ok (.iload_n 2, 1) := by decide +kernel
theorem dX12_over_63 : decode cX12_over 63 = .ok (.iload 5, 2) := by decide +kernel
theorem dX12_over_65 : decode cX12_over 65 = .ok (.iadd, 1) := by decide +kernel
theorem dX12_over_66 : decode cX12_over 66 = .ok (.aload_n 0, 1) := by decide +kernel
theorem dX12_over_67 : decode cX12_over 67 = .ok (.getfield 20, 3) := by decide +kernel
theorem dX12_over_7 : decode cX12_over 7 = .ok (.invokevirtual 168, 3) := by decide +kernel
theorem dX12_over_70 : decode cX12_over 70 = .ok (.iload_n 1, 1) := by decide +kernel
theorem dX12_over_71 : decode cX12_over 71 = .ok (.iaload, 1) := by decide +kernel
theorem dX12_over_72 : decode cX12_over 72 = .ok (.if_icmp .ge 75, 3) := by decide +kernel
theorem dX12_over_75 : decode cX12_over 75 = .ok (.bipush 24, 2) := by decide +kernel
theorem dX12_over_77 : decode cX12_over 77 = .ok (.iload_n 1, 1) := by decide +kernel
theorem dX12_over_78 : decode cX12_over 78 = .ok (.imul, 1) := by decide +kernel
theorem dX12_over_79 : decode cX12_over 79 = .ok (.iload_n 2, 1) := by decide +kernel
theorem dX12_over_80 : decode cX12_over 80 = .ok (.iadd, 1) := by decide +kernel
theorem dX12_over_81 : decode cX12_over 81 = .ok (.iload 5, 2) := by decide +kernel
theorem dX12_over_83 : decode cX12_over 83 = .ok (.iadd, 1) := by decide +kernel
theorem dX12_over_84 : decode cX12_over 84 = .ok (.istore 6, 2) := by decide +kernel
theorem dX12_over_86 : decode cX12_over 86 = .ok (.iload_n 3, 1) := by decide +kernel
theorem dX12_over_87 : decode cX12_over 87 = .ok (.ifCond .ne 13, 3) := by decide +kernel
theorem dX12_over_90 : decode cX12_over 90 = .ok (.aload_n 0, 1) := by decide +kernel
theorem dX12_over_91 : decode cX12_over 91 = .ok (.getfield 13, 3) := by decide +kernel
theorem dX12_over_94 : decode cX12_over 94 = .ok (.iload 5, 2) := by decide +kernel
theorem dX12_over_96 : decode cX12_over 96 = .ok (.iaload, 1) := by decide +kernel
theorem dX12_over_97 : decode cX12_over 97 = .ok (.goto 18, 3) := by decide +kernel
theorem dX12_ring_0 : decode cX12_ring 0 = .ok (.aload_n 0, 1) := by decide +kernel
theorem dX12_ring_1 : decode cX12_ring 1 = .ok (.iconst 0, 1) := by decide +kernel
theorem dX12_ring_100 : decode cX12_ring 100 = .ok (.iload_n 1, 1) := by decide +kernel
theorem dX12_ring_101 : decode cX12_ring 101 = .ok (.iastore, 1) := by decide +kernel
theorem dX12_ring_102 : decode cX12_ring 102 = .ok (.aload_n 0, 1) := by decide +kernel
theorem dX12_ring_103 : decode cX12_ring 103 = .ok (.getfield 26, 3) := by decide +kernel
theorem dX12_ring_106 : decode cX12_ring 106 = .ok (.aload_n 0, 1) := by decide +kernel
theorem dX12_ring_107 : decode cX12_ring 107 = .ok (.getfield 121, 3) := by decide +kernel
theorem dX12_ring_110 : decode cX12_ring 110 = .ok (.iload_n 2, 1) := by decide +kernel
theorem dX12_ring_111 : decode cX12_ring 111 = .ok (.iastore, 1) := by decide +kernel
theorem dX12_ring_112 : decode cX12_ring 112 = .ok (.aload_n 0, 1) := by decide +kernel
theorem dX12_ring_113 : decode cX12_ring 113 = .ok (.getfield 29, 3) := by decide +kernel
theorem dX12_ring_116 : decode cX12_ring 116 = .ok (.aload_n 0, 1) := by decide +kernel
theorem dX12_ring_117 : decode cX12_ring 117 = .ok (.getfield 121, 3) := by decide +kernel
theorem dX12_ring_12 : decode cX12_ring 12 = .ok (.iload_n 1, 1) := by decide +kernel
theorem dX12_ring_120 : decode cX12_ring 120 = .ok (.iconst 1, 1) := by decide +kernel
theorem dX12_ring_121 : decode cX12_ring 121 = .ok (.iastore, 1) := by decide +kernel
theorem dX12_ring_122 : decode cX12_ring 122 = .ok (.aload_n 0, 1) := by decide +kernel
theorem dX12_ring_123 : decode cX12_ring 123 = .ok (.getfield 32, 3) := by decide +kernel
theorem dX12_ring_126 : decode cX12_ring 126 = .ok (.aload_n 0, 1) := by decide +kernel
theorem dX12_ring_127 : decode cX12_ring 127 = .ok (.getfield 121, 3) := by decide +kernel
theorem dX12_ring_13 : decode cX12_ring 13 = .ok (.invokestatic 165, 3) := by decide +kernel
theorem dX12_ring_130 : decode cX12_ring 130 = .ok (.iconst 0, 1) := by decide +kernel
theorem dX12_ring_131 : decode cX12_ring 131 = .ok (.iastore, 1) := by decide +kernel
theorem dX12_ring_132 : decode cX12_ring 132 = .ok (.aload_n 0, 1) := by decide +kernel
theorem dX12_ring_133 : decode cX12_ring 133 = .ok (.dup, 1) := by decide +kernel
theorem dX12_ring_134 : decode cX12_ring 134 = .ok (.getfield 121, 3) := by decide +kernel
theorem dX12_ring_137 : decode cX12_ring 137 = .ok (.iconst 1, 1) := by decide +kernel
theorem dX12_ring_138 : decode cX12_ring 138 = .ok (.iadd, 1) := by decide +kernel
theorem dX12_ring_139 : decode cX12_ring 139 = .ok (.putfield 121, 3) := by decide +kernel
theorem dX12_ring_142 : decode cX12_ring 142 = .ok (.aload_n 0, 1) := by decide +kernel
theorem dX12_ring_143 : decode cX12_ring 143 = .ok (.getfield 121, 3) := by decide +kernel
theorem dX12_ring_146 : decode cX12_ring 146 = .ok (.iconst 1, 1) := by decide +kernel
theorem dX12_ring_147 : decode cX12_ring 147 = .ok (.isub, 1) := by decide +kernel
theorem dX12_ring_148 : decode cX12_ring 148 = .ok (.ireturn, 1) := by decide +kernel
theorem dX12_ring_16 : decode cX12_ring 16 = .ok (.ifCond .eq 25, 3) := by decide +kernel
theorem dX12_ring_19 : decode cX12_ring 19 = .ok (.iload_n 2, 1) := by decide +kernel
theorem dX12_ring_2 : decode cX12_ring 2 = .ok (.putfield 118, 3) := by decide +kernel
theorem dX12_ring_20 : decode cX12_ring 20 = .ok (.iconst 0, 1) := by decide +kernel
theorem dX12_ring_21 : decode cX12_ring 21 = .ok (.aload_n 0, 1) := by decide +kernel
theorem dX12_ring_22 : decode cX12_ring 22 = .ok (.getfield 162, 3) := by decide +kernel
theorem dX12_ring_25 : decode cX12_ring 25 = .ok (.iconst 1, 1) := by decide +kernel
theorem dX12_ring_26 : decode cX12_ring 26 = .ok (.isub, 1) := by decide +kernel
theorem dX12_ring_27 : decode cX12_ring 27 = .ok (.invokestatic 124, 3) := by decide +kernel
theorem dX12_ring_30 : decode cX12_ring 30 = .ok (.ifCond .eq 11, 3) := by decide +kernel
theorem dX12_ring_33 : decode cX12_ring 33 = .ok (.aload_n 0, 1) := by decide +kernel
theorem dX12_ring_34 : decode cX12_ring 34 = .ok (.getfield 121, 3) := by decide +kernel
theorem dX12_ring_37 : decode cX12_ring 37 = .ok (.iconst 4, 1) := by decide +kernel
theorem dX12_ring_38 : decode cX12_ring 38 = .ok (.if_icmp .ne 5, 3) := by decide +kernel
theorem dX12_ring_41 : decode cX12_ring 41 = .ok (.iconst (-1), 1) := by decide +kernel
theorem dX12_ring_42 : decode cX12_ring 42 = .ok (.ireturn, 1) := by decide +kernel
theorem dX12_ring_43 : decode cX12_ring 43 = .ok (.aload_n 0, 1) := by decide +kernel
theorem dX12_ring_44 : decode cX12_ring 44 = .ok (.getfield 20, 3) := by decide +kernel
theorem dX12_ring_47 : decode cX12_ring 47 = .ok (.aload_n 0, 1) := by decide +kernel
theorem dX12_ring_48 : decode cX12_ring 48 = .ok (.getfield 121, 3) := by decide +kernel
theorem dX12_ring_5 : decode cX12_ring 5 = .ok (.aload_n 0, 1) := by decide +kernel
theorem dX12_ring_51 : decode cX12_ring 51 = .ok (.aload_n 0, 1) := by decide +kernel
theorem dX12_ring_52 : decode cX12_ring 52 = .ok (.getfield 162, 3) := by decide +kernel
theorem dX12_ring_55 : decode cX12_ring 55 = .ok (.iastore, 1) := by decide +kernel
theorem dX12_ring_56 : decode cX12_ring 56 = .ok (.iconst 0, 1) := by decide +kernel
theorem dX12_ring_57 : decode cX12_ring 57 = .ok (.istore_n 3, 1) := by decide +kernel
theorem dX12_ring_58 : decode cX12_ring 58 = .ok (.iload_n 3, 1) := by decide +kernel
theorem dX12_ring_59 : decode cX12_ring 59 = .ok (.aload_n 0, 1) := by decide +kernel
theorem dX12_ring_6 : decode cX12_ring 6 = .ok (.getfield 162, 3) := by decide +kernel
theorem dX12_ring_60 : decode cX12_ring 60 = .ok (.getfield 162, 3) := by decide +kernel
theorem dX12_ring_63 : decode cX12_ring 63 = .ok (.if_icmp .ge 29, 3) := by decide +kernel
theorem dX12_ring_66 : decode cX12_ring 66 = .ok (.aload_n 0, 1) := by decide +kernel
theorem dX12_ring_67 : decode cX12_ring 67 = .ok (.getfield 17, 3) := by decide +kernel
theorem dX12_ring_70 : decode cX12_ring 70 = .ok (.bipush 24, 2) := by decide +kernel
theorem dX12_ring_72 : decode cX12_ring 72 = .ok (.aload_n 0, 1) := by decide +kernel
theorem dX12_ring_73 : decode cX12_ring 73 = .ok (.getfield 121, 3) := by decide +kernel
theorem dX12_ring_76 : decode cX12_ring 76 = .ok (.imul, 1) := by decide +kernel
theorem dX12_ring_77 : decode cX12_ring 77 = .ok (.iload_n 3, 1) := by decide +kernel
theorem dX12_ring_78 : decode cX12_ring 78 = .ok (.iadd, 1) := by decide +kernel
theorem dX12_ring_79 : decode cX12_ring 79 = .ok (.aload_n 0, 1) := by decide +kernel
theorem dX12_ring_80 : decode cX12_ring 80 = .ok (.getfield 13, 3) := by decide +kernel
theorem dX12_ring_83 : decode cX12_ring 83 = .ok (.iload_n 3, 1) := by decide +kernel
theorem dX12_ring_84 : decode cX12_ring 84 = .ok (.iaload, 1) := by decide +kernel
theorem dX12_ring_85 : decode cX12_ring 85 = .ok (.iastore, 1) := by decide +kernel
theorem dX12_ring_86 : decode cX12_ring 86 = .ok (.iinc 3 1, 3) := by decide +kernel
theorem dX12_ring_89 : decode cX12_ring 89 = .ok (.goto (-31), 3) := by decide +kernel
theorem dX12_ring_9 : decode cX12_ring 9 = .ok (.ifCond .eq 32, 3) := by decide +kernel
theorem dX12_ring_92 : decode cX12_ring 92 = .ok (.aload_n 0, 1) := by decide +kernel
theorem dX12_ring_93 : decode cX12_ring 93 = .ok (.getfield 23, 3) := by decide +kernel
theorem dX12_ring_96 : decode cX12_ring 96 = .ok (.aload_n 0, 1) := by decide +kernel
theorem dX12_ring_97 : decode cX12_ring 97 = .ok (.getfield 121, 3) := by decide +kernel
theorem dX12_set_0 : decode cX12_set 0 = .ok (.aload_n 0, 1) := by decide +kernel
theorem dX12_set_1 : decode cX12_set 1 = .ok (.iconst 0, 1) := by decide +kernel
theorem dX12_set_10 : decode cX12_set 10 = .ok (.ifCond .eq 42, 3) := by decide +kernel
theorem dX12_set_13 : decode cX12_set 13 = .ok (.iload_n 2, 1) := by decide +kernel
theorem dX12_set_14 : decode cX12_set 14 = .ok (.iconst 0, 1) := by decide +kernel
theorem dX12_set_15 : decode cX12_set 15 = .ok (.iconst 1, 1) := by decide +kernel
theorem dX12_set_16 : decode cX12_set 16 = .ok (.invokestatic 124, 3) := by decide +kernel
theorem dX12_set_19 : decode cX12_set 19 = .ok (.ifCond .eq 33, 3) := by decide +kernel
theorem dX12_set_2 : decode cX12_set 2 = .ok (.putfield 118, 3) := by decide +kernel
theorem dX12_set_22 : decode cX12_set 22 = .ok (.iload_n 2, 1) := by decide +kernel
theorem dX12_set_23 : decode cX12_set 23 = .ok (.ifCond .ne 13, 3) := by decide +kernel
theorem dX12_set_26 : decode cX12_set 26 = .ok (.iload_n 3, 1) := by decide +kernel
theorem dX12_set_27 : decode cX12_set 27 = .ok (.invokestatic 165, 3) := by decide +kernel
theorem dX12_set_30 : decode cX12_set 30 = .ok (.ifCond .ne 24, 3) := by decide +kernel
theorem dX12_set_33 : decode cX12_set 33 = .ok (.goto 19, 3) := by decide +kernel
theorem dX12_set_36 : decode cX12_set 36 = .ok (.iload_n 3, 1) := by decide +kernel
theorem dX12_set_37 : decode cX12_set 37 = .ok (.iconst 0, 1) := by decide +kernel
theorem dX12_set_38 : decode cX12_set 38 = .ok (.aload_n 0, 1) := by decide +kernel
theorem dX12_set_39 : decode cX12_set 39 = .ok (.getfield 20, 3) := by decide +kernel
theorem dX12_set_42 : decode cX12_set 42 = .ok (.iload_n 1, 1) := by decide +kernel
theorem dX12_set_43 : decode cX12_set 43 = .ok (.iaload, 1) := by decide +kernel
theorem dX12_set_44 : decode cX12_set 44 = .ok (.iconst 1, 1) := by decide +kernel
theorem dX12_set_45 : decode cX12_set 45 = .ok (.isub, 1) := by decide +kernel
theorem dX12_set_46 : decode cX12_set 46 = .ok (.invokestatic 124, 3) := by decide +kernel
theorem dX12_set_49 : decode cX12_set 49 = .ok (.ifCond .ne 5, 3) := by decide +kernel
theorem dX12_set_5 : decode cX12_set 5 = .ok (.aload_n 0, 1) := by decide +kernel
theorem dX12_set_52 : decode cX12_set 52 = .ok (.iconst (-1), 1) := by decide +kernel
theorem dX12_set_53 : decode cX12_set 53 = .ok (.ireturn, 1) := by decide +kernel
theorem dX12_set_54 : decode cX12_set 54 = .ok (.iload_n 2, 1) := by decide +kernel
theorem dX12_set_55 : decode cX12_set 55 = .ok (.ifCond .ne 12, 3) := by decide +kernel
theorem dX12_set_58 : decode cX12_set 58 = .ok (.aload_n 0, 1) := by decide +kernel
theorem dX12_set_59 : decode cX12_set 59 = .ok (.getfield 23, 3) := by decide +kernel
theorem dX12_set_6 : decode cX12_set 6 = .ok (.iload_n 1, 1) := by decide +kernel
theorem dX12_set_62 : decode cX12_set 62 = .ok (.iload_n 1, 1) := by decide +kernel
theorem dX12_set_63 : decode cX12_set 63 = .ok (.iaload, 1) := by decide +kernel
theorem dX12_set_64 : decode cX12_set 64 = .ok (.goto 9, 3) := by decide +kernel
theorem dX12_set_67 : decode cX12_set 67 = .ok (.aload_n 0, 1) := by decide +kernel
theorem dX12_set_68 : decode cX12_set 68 = .ok (.getfield 26, 3) := by decide +kernel
theorem dX12_set_7 : decode cX12_set 7 = .ok (.invokevirtual 168, 3) := by decide +kernel
theorem dX12_set_71 : decode cX12_set 71 = .ok (.iload_n 1, 1) := by decide +kernel
theorem dX12_set_72 : decode cX12_set 72 = .ok (.iaload, 1) := by decide +kernel
theorem dX12_set_73 : decode cX12_set 73 = .ok (.istore 4, 2) := by decide +kernel
theorem dX12_set_75 : decode cX12_set 75 = .ok (.iload_n 2, 1) := by decide +kernel
theorem dX12_set_76 : decode cX12_set 76 = .ok (.ifCond .ne 13, 3) := by decide +kernel
theorem dX12_set_79 : decode cX12_set 79 = .ok (.aload_n 0, 1) := by decide +kernel
theorem dX12_set_80 : decode cX12_set 80 = .ok (.getfield 23, 3) := by decide +kernel
theorem dX12_set_83 : decode cX12_set 83 = .ok (.iload_n 1, 1) := by decide +kernel
theorem dX12_set_84 : decode cX12_set 84 = .ok (.iload_n 3, 1) := by decide +kernel
theorem dX12_set_85 : decode cX12_set 85 = .ok (.iastore, 1) := by decide +kernel
theorem dX12_set_86 : decode cX12_set 86 = .ok (.goto 10, 3) := by decide +kernel
theorem dX12_set_89 : decode cX12_set 89 = .ok (.aload_n 0, 1) := by decide +kernel
theorem dX12_set_90 : decode cX12_set 90 = .ok (.getfield 26, 3) := by decide +kernel
theorem dX12_set_93 : decode cX12_set 93 = .ok (.iload_n 1, 1) := by decide +kernel
theorem dX12_set_94 : decode cX12_set 94 = .ok (.iload_n 3, 1) := by decide +kernel
theorem dX12_set_95 : decode cX12_set 95 = .ok (.iastore, 1) := by decide +kernel
theorem dX12_set_96 : decode cX12_set 96 = .ok (.iload 4, 2) := by decide +kernel
theorem dX12_set_98 : decode cX12_set 98 = .ok (.ireturn, 1) := by decide +kernel
theorem dX12_splice_0 : decode cX12_splice 0 = .ok (.aload_n 0, 1) := by decide +kernel
theorem dX12_splice_1 : decode cX12_splice 1 = .ok (.iconst 0, 1) := by decide +kernel
theorem dX12_splice_10 : decode cX12_splice 10 = .ok (.aload_n 0, 1) := by decide +kernel
theorem dX12_splice_100 : decode cX12_splice 100 = .ok (.aload_n 0, 1) := by decide +kernel
theorem dX12_splice_101 : decode cX12_splice 101 = .ok (.getfield 13, 3) := by decide +kernel
theorem dX12_splice_104 : decode cX12_splice 104 = .ok (.iload_n 3, 1) := by decide +kernel
theorem dX12_splice_105 : decode cX12_splice 105 = .ok (.aload_n 0, 1) := by decide +kernel
theorem dX12_splice_106 : decode cX12_splice 106 = .ok (.getfield 84, 3) := by decide +kernel
theorem dX12_splice_109 : decode cX12_splice 109 = .ok (.iload_n 3, 1) := by decide +kernel
theorem dX12_splice_11 : decode cX12_splice 11 = .ok (.iconst (-1), 1) := by decide +kernel
theorem dX12_splice_110 : decode cX12_splice 110 = .ok (.iaload, 1) := by decide +kernel
theorem dX12_splice_111 : decode cX12_splice 111 = .ok (.iastore, 1) := by decide +kernel
theorem dX12_splice_112 : decode cX12_splice 112 = .ok (.iinc 3 1, 3) := by decide +kernel
theorem dX12_splice_115 : decode cX12_splice 115 = .ok (.goto (-23), 3) := by decide +kernel
theorem dX12_splice_118 : decode cX12_splice 118 = .ok (.aload_n 0, 1) := by decide +kernel
theorem dX12_splice_119 : decode cX12_splice 119 = .ok (.getfield 162, 3) := by decide +kernel
theorem dX12_splice_12 : decode cX12_splice 12 = .ok (.putfield 134, 3) := by decide +kernel
theorem dX12_splice_122 : decode cX12_splice 122 = .ok (.ireturn, 1) := by decide +kernel
theorem dX12_splice_15 : decode cX12_splice 15 = .ok (.aload_n 0, 1) := by decide +kernel
theorem dX12_splice_16 : decode cX12_splice 16 = .ok (.iconst 0, 1) := by decide +kernel
theorem dX12_splice_17 : decode cX12_splice 17 = .ok (.invokevirtual 152, 3) := by decide +kernel
theorem dX12_splice_2 : decode cX12_splice 2 = .ok (.putfield 118, 3) := by decide +kernel
theorem dX12_splice_20 : decode cX12_splice 20 = .ok (.istore_n 1, 1) := by decide +kernel
theorem dX12_splice_21 : decode cX12_splice 21 = .ok (.iload_n 1, 1) := by decide +kernel
theorem dX12_splice_22 : decode cX12_splice 22 = .ok (.ifCond .eq 19, 3) := by decide +kernel
theorem dX12_splice_25 : decode cX12_splice 25 = .ok (.aload_n 0, 1) := by decide +kernel
theorem dX12_splice_26 : decode cX12_splice 26 = .ok (.getfield 131, 3) := by decide +kernel
theorem dX12_splice_29 : decode cX12_splice 29 = .ok (.aload_n 0, 1) := by decide +kernel
theorem dX12_splice_30 : decode cX12_splice 30 = .ok (.getfield 128, 3) := by decide +kernel
theorem dX12_splice_33 : decode cX12_splice 33 = .ok (.if_icmp .ge 8, 3) := by decide +kernel
theorem dX12_splice_36 : decode cX12_splice 36 = .ok (.aload_n 0, 1) := by decide +kernel
theorem dX12_splice_37 : decode cX12_splice 37 = .ok (.invokevirtual 145, 3) := by decide +kernel
theorem dX12_splice_40 : decode cX12_splice 40 = .ok (.istore_n 1, 1) := by decide +kernel
theorem dX12_splice_41 : decode cX12_splice 41 = .ok (.iconst 0, 1) := by decide +kernel
theorem dX12_splice_42 : decode cX12_splice 42 = .ok (.istore_n 2, 1) := by decide +kernel
theorem dX12_splice_43 : decode cX12_splice 43 = .ok (.iload_n 1, 1) := by decide +kernel
theorem dX12_splice_44 : decode cX12_splice 44 = .ok (.ifCond .eq 14, 3) := by decide +kernel
theorem dX12_splice_47 : decode cX12_splice 47 = .ok (.aload_n 0, 1) := by decide +kernel
theorem dX12_splice_48 : decode cX12_splice 48 = .ok (.iconst 0, 1) := by decide +kernel
theorem dX12_splice_49 : decode cX12_splice 49 = .ok (.putfield 131, 3) := by decide +kernel
theorem dX12_splice_5 : decode cX12_splice 5 = .ok (.aload_n 0, 1) := by decide +kernel
theorem dX12_splice_52 : decode cX12_splice 52 = .ok (.aload_n 0, 1) := by decide +kernel
theorem dX12_splice_53 : decode cX12_splice 53 = .ok (.iconst 0, 1) := by decide +kernel
theorem dX12_splice_54 : decode cX12_splice 54 = .ok (.invokevirtual 159, 3) := by decide +kernel
theorem dX12_splice_57 : decode cX12_splice 57 = .ok (.istore_n 2, 1) := by decide +kernel
theorem dX12_splice_58 : decode cX12_splice 58 = .ok (.aload_n 0, 1) := by decide +kernel
theorem dX12_splice_59 : decode cX12_splice 59 = .ok (.iconst 0, 1) := by decide +kernel
theorem dX12_splice_6 : decode cX12_splice 6 = .ok (.iconst 0, 1) := by decide +kernel
theorem dX12_splice_60 : decode cX12_splice 60 = .ok (.putfield 128, 3) := by decide +kernel
theorem dX12_splice_63 : decode cX12_splice 63 = .ok (.iload_n 1, 1) := by decide +kernel
theorem dX12_splice_64 : decode cX12_splice 64 = .ok (.ifCond .ne 10, 3) := by decide +kernel
theorem dX12_splice_67 : decode cX12_splice 67 = .ok (.iconst (-1), 1) := by decide +kernel
theorem dX12_splice_68 : decode cX12_splice 68 = .ok (.aload_n 0, 1) := by decide +kernel
theorem dX12_splice_69 : decode cX12_splice 69 = .ok (.getfield 134, 3) := by decide +kernel
theorem dX12_splice_7 : decode cX12_splice 7 = .ok (.putfield 131, 3) := by decide +kernel
theorem dX12_splice_72 : decode cX12_splice 72 = .ok (.isub, 1) := by decide +kernel
theorem dX12_splice_73 : decode cX12_splice 73 = .ok (.ireturn, 1) := by decide +kernel
theorem dX12_splice_74 : decode cX12_splice 74 = .ok (.iload_n 2, 1) := by decide +kernel
theorem dX12_splice_75 : decode cX12_splice 75 = .ok (.ifCond .ge 5, 3) := by decide +kernel
theorem dX12_splice_78 : decode cX12_splice 78 = .ok (.iload_n 2, 1) := by decide +kernel
theorem dX12_splice_79 : decode cX12_splice 79 = .ok (.ireturn, 1) := by decide +kernel
theorem dX12_splice_80 : decode cX12_splice 80 = .ok (.aload_n 0, 1) := by decide +kernel
theorem dX12_splice_81 : decode cX12_splice 81 = .ok (.aload_n 0, 1) := by decide +kernel
theorem dX12_splice_82 : decode cX12_splice 82 = .ok (.getfield 87, 3) := by decide +kernel
theorem dX12_splice_85 : decode cX12_splice 85 = .ok (.iconst 0, 1) := by decide +kernel
theorem dX12_splice_86 : decode cX12_splice 86 = .ok (.iaload, 1) := by decide +kernel
theorem dX12_splice_87 : decode cX12_splice 87 = .ok (.putfield 162, 3) := by decide +kernel
theorem dX12_splice_90 : decode cX12_splice 90 = .ok (.iconst 0, 1) := by decide +kernel
theorem dX12_splice_91 : decode cX12_splice 91 = .ok (.istore_n 3, 1) := by decide +kernel
theorem dX12_splice_92 : decode cX12_splice 92 = .ok (.iload_n 3, 1) := by decide +kernel
theorem dX12_splice_93 : decode cX12_splice 93 = .ok (.aload_n 0, 1) := by decide +kernel
theorem dX12_splice_94 : decode cX12_splice 94 = .ok (.getfield 162, 3) := by decide +kernel
theorem dX12_splice_97 : decode cX12_splice 97 = .ok (.if_icmp .ge 21, 3) := by decide +kernel
theorem dm_X12_isMotor : yX12_isMotor.cls = RX12 ∧ yX12_isMotor.cls ≠ "java/lang/invoke/MethodHandle" ∧ yX12_isMotor.cls ≠ "java/lang/invoke/VarHandle" ∧ (parseMethodDescriptor yX12_isMotor.desc).map (fun d => d.parameters.length) = some 1 := by decide +kernel
theorem dm_X12_isRing : yX12_isRing.cls = RX12 ∧ yX12_isRing.cls ≠ "java/lang/invoke/MethodHandle" ∧ yX12_isRing.cls ≠ "java/lang/invoke/VarHandle" ∧ (parseMethodDescriptor yX12_isRing.desc).map (fun d => d.parameters.length) = some 1 := by decide +kernel
set_option maxRecDepth 100000 in
def wR_splice  (M : zM) (Q : Int → zM → Prop) : Prop := (∀ M1 : zM, M1 = zup M 0 35 0 → (∀ M3 : zM, M3 = zup M1 0 36 0 → (∀ M5 : zM, M5 = zup M3 0 37 (-1) → wR_skipRow 6 0 M5 (fun z8 M7 => wJ1 (fun J41 => (z8 = 0 → J41 z8 M7) ∧ (z8 ≠ 0 → ((sI (M7 0 1)) ≤ (sI (M7 0 36)) → J41 z8 M7) ∧ ((sI (M7 0 36)) < (sI (M7 0 1)) → wR_isWrong  M7 (fun z60 M59 => J41 z60 M59)))) (fun (x15 : Int) (M16 : zM) => wJ1 (fun J58 => ((sI x15) = 0 → J58 0 M16) ∧ ((sI x15) ≠ 0 → (∀ M52 : zM, M52 = zup M16 0 36 0 → wR_makeRow 6 0 M52 (fun z55 M54 => J58 z55 M54)))) (fun (x25 : Int) (M26 : zM) => (∀ M29 : zM, M29 = zup M26 0 1 0 → ((sI x15) ≠ 0 → (0 ≤ (sI x25) → (∀ M33 : zM, M33 = zup M29 0 3 (M29 24 0) → wL1 (fun K92 x35 M36 => ((sI (M36 0 3)) ≤ (sI x35) → Q (sI (M36 0 3)) M36) ∧ ((sI x35) < (sI (M36 0 3)) → ((0 ≤ (sI x35) ∧ (sI x35) < 144) ∧ ((0 ≤ (sI x35) ∧ (sI x35) < 24) ∧ (∀ M47 : zM, M47 = zup M36 2 (sI x35).toNat (M36 23 (sI x35).toNat) → K92 (x35 + 1) M47))))) 0 M33)) ∧ ((sI x25) < 0 → Q (sI x25) M29)) ∧ ((sI x15) = 0 → Q (sI ((-1) - (M29 0 37))) M29))))))))
set_option maxHeartbeats 4000000 in
set_option maxRecDepth 100000 in
theorem cR_splice (l : Launch) (D : va_G) (dA : Nat → ClassId) (b : Nat) (M : zM)   (Q : Int → zM → Prop) (h : wR_splice  M Q) : Met l yX12_splice (.code yX12_splice cX12_splice 4 (some .int) :: zt) (z_rm 20) (va_Pc [.ref (b + 0)] (wPre D dA vwCl (z_tys dA) wR nR b M)) (va_Qi (wQi Q) (zB D dA vwCl wR nR b) (zA nR b)) 0 0 (zA nR b) := by
  unfold wR_splice at h
  refine Met.ofW (cc := cX12_splice) (maxL := 4) (ret := (some .int)) (by decide) rfl ?_
  intro p e s m args below meth c s₁ B hml hv
  obtain ⟨hargs, hS, hK⟩ := hv
  have hx := B.exec
  have hb := B.bytes
  have hr := B.returns
  have hts := atoms_spec (ws := .code yX12_splice cX12_splice 4 (some .int) :: zt) B.pre
  have hown : s.vm.findClass RX12 = some m.cls := findClass_of_methodNamed B.named
  have hlocks := B.notSynchronized
  have hS0 : va_S (zA nR b) s.heap s.heap [] := va_S.rf
  have hl := lv_entry ([.ref (b + 0)]) (n := 4) (Nat.le_of_ble_eq_true rfl)
  have hent : entryFrame m args 4 = F0 m 0 ((lg_sl ([.ref (b + 0)]) ++ List.replicate (4 - (lg_sl ([.ref (b + 0)])).length) Slot.unset).toArray) [] := by rw [hargs]; exact lg_entry_eq m ([.ref (b + 0)]) 4
  rw [hent]
  generalize (lg_sl ([.ref (b + 0)]) ++ List.replicate (4 - (lg_sl ([.ref (b + 0)])).length) Slot.unset).toArray = ls at hl ⊢
  have hl : lv_has ls 4 [(0, .ref (b + 0))] := hl
  refine lv_aload_n hx hb dX12_splice_0 rfl (lv_at hl 0 rfl) ?_
  refine z_iconst hx hb dX12_splice_1 ?_
  refine w_puti hx hb hts (z_memU u12) tyX12 tyX12_ok nmX12 hown hK.1 hS hS0 f12_35 (by decide) (zkd_of (rfl : zcd wR 0 = 50) rfl) (Or.inl (hts _ (z_mem k979))) rfl (z := 0) (by decide +kernel) dX12_splice_2 (fun H locs hS hS0 => ?_)
  obtain ⟨M1, e2⟩ : ∃ M1 : zM, M1 = zup M 0 35 0 := ⟨_, rfl⟩
  rw [← e2] at hS
  have h := h M1 e2
  refine lv_aload_n hx hb dX12_splice_5 rfl (lv_at hl 0 rfl) ?_
  refine z_iconst hx hb dX12_splice_6 ?_
  refine w_puti hx hb hts (z_memU u12) tyX12 tyX12_ok nmX12 hown hK.1 hS hS0 f12_36 (by decide) (zkd_of (rfl : zcd wR 0 = 50) rfl) (Or.inl (hts _ (z_mem k980))) rfl (z := 0) (by decide +kernel) dX12_splice_7 (fun H locs hS hS0 => ?_)
  obtain ⟨M3, e4⟩ : ∃ M3 : zM, M3 = zup M1 0 36 0 := ⟨_, rfl⟩
  rw [← e4] at hS
  have h := h M3 e4
  refine lv_aload_n hx hb dX12_splice_10 rfl (lv_at hl 0 rfl) ?_
  refine z_iconst hx hb dX12_splice_11 ?_
  refine w_puti hx hb hts (z_memU u12) tyX12 tyX12_ok nmX12 hown hK.1 hS hS0 f12_37 (by decide) (zkd_of (rfl : zcd wR 0 = 50) rfl) (Or.inl (hts _ (z_mem k981))) rfl (z := (-1)) (by decide +kernel) dX12_splice_12 (fun H locs hS hS0 => ?_)
  obtain ⟨M5, e6⟩ : ∃ M5 : zM, M5 = zup M3 0 37 (-1) := ⟨_, rfl⟩
  rw [← e6] at hS
  have h := h M5 e6
  refine lv_aload_n hx hb dX12_splice_15 rfl (lv_at hl 0 rfl) ?_
  refine z_iconst hx hb dX12_splice_16 ?_
  refine w_callz (va_runV (As := [.int (iI 0)]) (rest := []) ⟨hx, hb, hml, hown, hts⟩ (cR_skipRow 6 l D dA b M5 0 _ h) (cwV 1 hts (z_gV k1058 k1059 k1390 k14 k1060) rfl rfl rfl dm_X12_skipRow ⟨Nat.le_of_ble_eq_true rfl, Nat.le_of_ble_eq_true rfl⟩) ⟨wPre_blind, (w_recv hS hK.1 (by decide) (zkd_of (rfl : zcd wR 0 = 50) rfl) (by decide) (rfl : vwCl[12]? = some (RX12, TX12, 50))), w_pre hS hK⟩ rfl rfl hl.1 rfl (lv_room (Nat.le_of_ble_eq_true rfl)) dX12_splice_17 ⟨Nat.le_refl _, Nat.le_refl _⟩) hS0 (fun z8 M7 H locs r9 h hS hS0 => ?_)
  refine lv_istore_n (lv' := [(1, .int (iI z8)), (0, .ref (b + 0))]) hx hb dX12_splice_20 rfl hl (by decide) rfl (fun ls hl => ?_)
  refine lv_iload_n hx hb dX12_splice_21 rfl (lv_at hl 0 rfl) ?_
  obtain ⟨J41, B18, h⟩ := h
  have L17 : ∀ (x15 : Int) (M16 : zM) (H : Heap) (locs : List Loc) (ls : Array Slot), J41 x15 M16 → zR D dA vwCl wR nR b M16 H → va_S (zA nR b) s.heap H locs → lv_has ls 4 [(0, .ref (b + 0)), (1, .int (iI x15))] → W p l e (headSpec (.code yX12_splice cX12_splice 4 (some .int) :: zt) (z_rm 20)).room s m args below meth c H locs 0 0 (MQ below (va_Qi (wQi Q) (zB D dA vwCl wR nR b) (zA nR b)) args s 0 0 (zA nR b)) (F0 m 41 ls []) := by
    intro x15 M16 H locs ls h hS hS0 hl
    have h := B18 x15 M16 h
    refine z_iconst hx hb dX12_splice_41 ?_
    refine lv_istore_n (lv' := [(2, .int (iI 0)), (0, .ref (b + 0)), (1, .int (iI x15))]) hx hb dX12_splice_42 rfl hl (by decide) rfl (fun ls hl => ?_)
    refine lv_iload_n hx hb dX12_splice_43 rfl (lv_at hl 2 rfl) ?_
    obtain ⟨J58, B28, h⟩ := h
    have L27 : ∀ (x25 : Int) (M26 : zM) (H : Heap) (locs : List Loc) (ls : Array Slot), J58 x25 M26 → zR D dA vwCl wR nR b M26 H → va_S (zA nR b) s.heap H locs → lv_has ls 4 [(0, .ref (b + 0)), (1, .int (iI x15)), (2, .int (iI x25))] → W p l e (headSpec (.code yX12_splice cX12_splice 4 (some .int) :: zt) (z_rm 20)).room s m args below meth c H locs 0 0 (MQ below (va_Qi (wQi Q) (zB D dA vwCl wR nR b) (zA nR b)) args s 0 0 (zA nR b)) (F0 m 58 ls []) := by
      intro x25 M26 H locs ls h hS hS0 hl
      have h := B28 x25 M26 h
      refine lv_aload_n hx hb dX12_splice_58 rfl (lv_at hl 0 rfl) ?_
      refine z_iconst hx hb dX12_splice_59 ?_
      refine w_puti hx hb hts (z_memU u12) tyX12 tyX12_ok nmX12 hown hK.1 hS hS0 f12_1 (by decide) (zkd_of (rfl : zcd wR 0 = 50) rfl) (Or.inl (hts _ (z_mem k945))) rfl (z := 0) (by decide +kernel) dX12_splice_60 (fun H locs hS hS0 => ?_)
      obtain ⟨M29, e30⟩ : ∃ M29 : zM, M29 = zup M26 0 1 0 := ⟨_, rfl⟩
      rw [← e30] at hS
      have h := h M29 e30
      refine lv_iload_n hx hb dX12_splice_63 rfl (lv_at hl 1 rfl) ?_
      refine w_if_ne (tgt := 74) hx hb rfl dX12_splice_64 (by decide) (fun c31 => ?_) (fun c31 => ?_)
      · skip
        have h := h.1 c31
        refine lv_iload_n hx hb dX12_splice_74 rfl (lv_at hl 2 rfl) ?_
        refine w_if_ge (tgt := 80) hx hb rfl dX12_splice_75 (by decide) (fun c32 => ?_) (fun c32 => ?_)
        · skip
          have h := h.1 c32
          refine lv_aload_n hx hb dX12_splice_80 rfl (lv_at hl 0 rfl) ?_
          refine lv_aload_n hx hb dX12_splice_81 rfl (lv_at hl 0 rfl) ?_
          refine w_getr (j2 := 24) hx hb hts (z_memU u12) hown hK.1 hS f12_39 (by decide) (zkd_of (rfl : zcd wR 0 = 50) rfl) (zrf_of (rfl : zcd wR 0 = 50) rfl) (Or.inl (hts _ (z_mem k983))) dX12_splice_82 ?_
          refine z_iconst hx hb dX12_splice_85 ?_
          refine w_iald (n := 6) (i := 0) hx hb hK.1 (t0 := 0) rfl hS (by decide) (zkd_of (rfl : zcd wR 24 = 74) rfl) (zln_of (rfl : zcd wR 24 = 74) rfl) (sI_of (by decide)) (by decide) (by decide) (by decide) dX12_splice_86 ?_
          refine w_puti hx hb hts (z_memU u12) tyX12 tyX12_ok nmX12 hown hK.1 hS hS0 f12_3 (by decide) (zkd_of (rfl : zcd wR 0 = 50) rfl) (Or.inl (hts _ (z_mem k947))) rfl (z := (M29 24 0)) (by decide +kernel) dX12_splice_87 (fun H locs hS hS0 => ?_)
          obtain ⟨M33, e34⟩ : ∃ M33 : zM, M33 = zup M29 0 3 (M29 24 0) := ⟨_, rfl⟩
          rw [← e34] at hS
          have h := h M33 e34
          refine z_iconst hx hb dX12_splice_90 ?_
          refine lv_istore_n (lv' := [(3, .int (iI 0)), (0, .ref (b + 0)), (1, .int (iI x15)), (2, .int (iI x25))]) hx hb dX12_splice_91 rfl hl (by decide) rfl (fun ls hl => ?_)
          obtain ⟨I37, ⟨n38, h39⟩, h40⟩ := h
          have L41 : ∀ (n42 : Nat) (x35 : Int) (M36 : zM) (H : Heap) (locs : List Loc) (ls : Array Slot), I37 n42 x35 M36 → zR D dA vwCl wR nR b M36 H → va_S (zA nR b) s.heap H locs → lv_has ls 4 [(0, .ref (b + 0)), (3, .int (iI x35))] → W p l e (headSpec (.code yX12_splice cX12_splice 4 (some .int) :: zt) (z_rm 20)).room s m args below meth c H locs 0 0 (MQ below (va_Qi (wQi Q) (zB D dA vwCl wR nR b) (zA nR b)) args s 0 0 (zA nR b)) (F0 m 92 ls []) := by
            intro n42
            induction n42 using Nat.strongRecOn with
            | ind n42 i43 =>
              intro x35 M36 H locs ls h hS hS0 hl
              have h := h40 n42 x35 M36 h
              refine lv_iload_n hx hb dX12_splice_92 rfl (lv_at hl 1 rfl) ?_
              refine lv_aload_n hx hb dX12_splice_93 rfl (lv_at hl 0 rfl) ?_
              refine w_geti hx hb hts (z_memU u12) hown hK.1 hS f12_3 (by decide) (zkd_of (rfl : zcd wR 0 = 50) rfl) (Or.inl (hts _ (z_mem k947))) dX12_splice_94 ?_
              refine w_icmp_ge (tgt := 118) hx hb rfl rfl dX12_splice_97 (by decide) (fun c44 => ?_) (fun c44 => ?_)
              · skip
                have h := h.1 c44
                refine lv_aload_n hx hb dX12_splice_118 rfl (lv_at hl 0 rfl) ?_
                refine w_geti hx hb hts (z_memU u12) hown hK.1 hS f12_3 (by decide) (zkd_of (rfl : zcd wR 0 = 50) rfl) (Or.inl (hts _ (z_mem k947))) dX12_splice_119 ?_
                exact w_iret hx hb hr hlocks hS hS0 rfl h dX12_splice_122
              · skip
                have h := h.2 c44
                refine lv_aload_n hx hb dX12_splice_100 rfl (lv_at hl 0 rfl) ?_
                refine w_getr (j2 := 2) hx hb hts (z_memU u12) hown hK.1 hS f12_2 (by decide) (zkd_of (rfl : zcd wR 0 = 50) rfl) (zrf_of (rfl : zcd wR 0 = 50) rfl) (Or.inl (hts _ (z_mem k946))) dX12_splice_101 ?_
                refine lv_iload_n hx hb dX12_splice_104 rfl (lv_at hl 1 rfl) ?_
                refine lv_aload_n hx hb dX12_splice_105 rfl (lv_at hl 0 rfl) ?_
                refine w_getr (j2 := 23) hx hb hts (z_memU u12) hown hK.1 hS f12_38 (by decide) (zkd_of (rfl : zcd wR 0 = 50) rfl) (zrf_of (rfl : zcd wR 0 = 50) rfl) (Or.inl (hts _ (z_mem k982))) dX12_splice_106 ?_
                refine lv_iload_n hx hb dX12_splice_109 rfl (lv_at hl 1 rfl) ?_
                obtain ⟨o45, h⟩ := h
                refine w_iald (n := 144) (i := (sI x35)) hx hb hK.1 (t0 := 0) rfl hS (by decide) (zkd_of (rfl : zcd wR 23 = 73) rfl) (zln_of (rfl : zcd wR 23 = 73) rfl) rfl o45.1 o45.2 (by decide) dX12_splice_110 ?_
                obtain ⟨o46, h⟩ := h
                refine w_iast (z := (M36 23 (sI x35).toNat)) (n := 24) (i := (sI x35)) hx hb hK.1 (t0 := 0) rfl hS hS0 (by decide) (zkd_of (rfl : zcd wR 2 = 52) rfl) (zln_of (rfl : zcd wR 2 = 52) rfl) rfl o46.1 o46.2 (by decide) dX12_splice_111 (fun H locs hS hS0 => ?_)
                obtain ⟨M47, e48⟩ : ∃ M47 : zM, M47 = zup M36 2 (sI x35).toNat (M36 23 (sI x35).toNat) := ⟨_, rfl⟩
                rw [← e48] at hS
                have h := h M47 e48
                refine z_iinc (lv' := [(3, .int (iI (x35 + 1))), (0, .ref (b + 0))]) hx hb dX12_splice_112 hl (k := 1) rfl (by decide) rfl (fun ls hl => ?_)
                refine lv_goto (tgt := 92) hx hb dX12_splice_115 (by decide) ?_
                obtain ⟨n49, h50, h⟩ := h
                exact i43 n49 h50 (x35 + 1) M47 _ _ _ h hS hS0 (lv_sub hl [1, 0] rfl)
          exact L41 n38 0 M33 _ _ _ h39 hS hS0 (lv_sub hl [1, 0] rfl)
        · skip
          have h := h.2 c32
          refine lv_iload_n hx hb dX12_splice_78 rfl (lv_at hl 2 rfl) ?_
          exact w_iret hx hb hr hlocks hS hS0 rfl h dX12_splice_79
      · skip
        have h := h.2 c31
        refine z_iconst hx hb dX12_splice_67 ?_
        refine lv_aload_n hx hb dX12_splice_68 rfl (lv_at hl 0 rfl) ?_
        refine w_geti hx hb hts (z_memU u12) hown hK.1 hS f12_37 (by decide) (zkd_of (rfl : zcd wR 0 = 50) rfl) (Or.inl (hts _ (z_mem k981))) dX12_splice_69 ?_
        refine z_isub hx hb dX12_splice_72 ?_
        exact w_iret hx hb hr hlocks hS hS0 rfl h dX12_splice_73
    refine w_if_eq (tgt := 58) hx hb rfl dX12_splice_44 (by decide) (fun c51 => ?_) (fun c51 => ?_)
    · skip
      have h := h.1 c51
      exact L27 0 M16 _ _ _ h hS hS0 (lv_sub hl [1, 2, 0] rfl)
    · skip
      have h := h.2 c51
      refine lv_aload_n hx hb dX12_splice_47 rfl (lv_at hl 1 rfl) ?_
      refine z_iconst hx hb dX12_splice_48 ?_
      refine w_puti hx hb hts (z_memU u12) tyX12 tyX12_ok nmX12 hown hK.1 hS hS0 f12_36 (by decide) (zkd_of (rfl : zcd wR 0 = 50) rfl) (Or.inl (hts _ (z_mem k980))) rfl (z := 0) (by decide +kernel) dX12_splice_49 (fun H locs hS hS0 => ?_)
      obtain ⟨M52, e53⟩ : ∃ M52 : zM, M52 = zup M16 0 36 0 := ⟨_, rfl⟩
      rw [← e53] at hS
      have h := h M52 e53
      refine lv_aload_n hx hb dX12_splice_52 rfl (lv_at hl 1 rfl) ?_
      refine z_iconst hx hb dX12_splice_53 ?_
      refine w_calli (va_runV (As := [.int (iI 0)]) (rest := []) ⟨hx, hb, hml, hown, hts⟩ (cR_makeRow 6 l D dA b M52 0 _ h) (cwV 1 hts (z_gV k1073 k1074 k1395 k14 k1075) rfl rfl rfl dm_X12_makeRow ⟨Nat.le_of_ble_eq_true rfl, Nat.le_of_ble_eq_true rfl⟩) ⟨wPre_blind, (w_recv hS hK.1 (by decide) (zkd_of (rfl : zcd wR 0 = 50) rfl) (by decide) (rfl : vwCl[12]? = some (RX12, TX12, 50))), w_pre hS hK⟩ rfl rfl hl.1 rfl (lv_room (Nat.le_of_ble_eq_true rfl)) dX12_splice_54 ⟨Nat.le_refl _, Nat.le_refl _⟩) hS0 (fun z55 M54 H locs r56 h hS hS0 => ?_)
      refine lv_istore_n (lv' := [(2, .int (iI z55)), (0, .ref (b + 0)), (1, .int (iI x15))]) hx hb dX12_splice_57 rfl hl (by decide) rfl (fun ls hl => ?_)
      exact L27 z55 M54 _ _ _ h hS hS0 (lv_sub hl [1, 2, 0] rfl)
  refine w_if_eq (tgt := 41) hx hb (sI_01 r9) dX12_splice_22 (by decide) (fun c57 => ?_) (fun c57 => ?_)
  · skip
    have h := h.1 c57
    exact L17 z8 M7 _ _ _ h hS hS0 (lv_sub hl [1, 0] rfl)
  · skip
    have h := h.2 c57
    refine lv_aload_n hx hb dX12_splice_25 rfl (lv_at hl 1 rfl) ?_
    refine w_geti hx hb hts (z_memU u12) hown hK.1 hS f12_36 (by decide) (zkd_of (rfl : zcd wR 0 = 50) rfl) (Or.inl (hts _ (z_mem k980))) dX12_splice_26 ?_
    refine lv_aload_n hx hb dX12_splice_29 rfl (lv_at hl 1 rfl) ?_
    refine w_geti hx hb hts (z_memU u12) hown hK.1 hS f12_1 (by decide) (zkd_of (rfl : zcd wR 0 = 50) rfl) (Or.inl (hts _ (z_mem k945))) dX12_splice_30 ?_
    refine w_icmp_ge (tgt := 41) hx hb rfl rfl dX12_splice_33 (by decide) (fun c58 => ?_) (fun c58 => ?_)
    · skip
      have h := h.1 c58
      exact L17 z8 M7 _ _ _ h hS hS0 (lv_sub hl [1, 0] rfl)
    · skip
      have h := h.2 c58
      refine lv_aload_n hx hb dX12_splice_36 rfl (lv_at hl 1 rfl) ?_
      refine w_callz (va_runV (As := []) (rest := []) ⟨hx, hb, hml, hown, hts⟩ (cR_isWrong l D dA b M7  _ h) (cwV 0 hts (z_gV k1070 k1071 k1394 k14 k1072) rfl rfl rfl dm_X12_isWrong ⟨Nat.le_of_ble_eq_true rfl, Nat.le_of_ble_eq_true rfl⟩) ⟨wPre_blind, (w_recv hS hK.1 (by decide) (zkd_of (rfl : zcd wR 0 = 50) rfl) (by decide) (rfl : vwCl[12]? = some (RX12, TX12, 50))), w_pre hS hK⟩ rfl rfl hl.1 rfl (lv_room (Nat.le_of_ble_eq_true rfl)) dX12_splice_37 ⟨Nat.le_refl _, Nat.le_refl _⟩) hS0 (fun z60 M59 H locs r61 h hS hS0 => ?_)
      refine lv_istore_n (lv' := [(1, .int (iI z60)), (0, .ref (b + 0))]) hx hb dX12_splice_40 rfl hl (by decide) rfl (fun ls hl => ?_)
      exact L17 z60 M59 _ _ _ h hS hS0 (lv_sub hl [1, 0] rfl)

set_option maxRecDepth 100000 in
def wR_hand (a0 : Int) (M : zM) (Q : Int → zM → Prop) : Prop := (∀ M1 : zM, M1 = zup M 0 35 0 → wR_in a0 0 ((M1 0 3) - 1) M1 (fun z4 => (z4 = 0 → Q (-1) M1) ∧ (z4 ≠ 0 → ((0 ≤ (sI a0) ∧ (sI a0) < 24) ∧ Q (sI (M1 2 (sI a0).toNat)) M1))))
set_option maxHeartbeats 4000000 in
set_option maxRecDepth 100000 in
theorem cR_hand (l : Launch) (D : va_G) (dA : Nat → ClassId) (b : Nat) (M : zM) (a0 : Int)  (Q : Int → zM → Prop) (h : wR_hand a0 M Q) : Met l yX12_hand (.code yX12_hand cX12_hand 2 (some .int) :: zt) (z_rm 1) (va_Pc [.ref (b + 0), .int (iI a0)] (wPre D dA vwCl (z_tys dA) wR nR b M)) (va_Qi (wQi Q) (zB D dA vwCl wR nR b) (zA nR b)) 0 0 (zA nR b) := by
  unfold wR_hand at h
  refine Met.ofW (cc := cX12_hand) (maxL := 2) (ret := (some .int)) (by decide) rfl ?_
  intro p e s m args below meth c s₁ B hml hv
  obtain ⟨hargs, hS, hK⟩ := hv
  have hx := B.exec
  have hb := B.bytes
  have hr := B.returns
  have hts := atoms_spec (ws := .code yX12_hand cX12_hand 2 (some .int) :: zt) B.pre
  have hown : s.vm.findClass RX12 = some m.cls := findClass_of_methodNamed B.named
  have hlocks := B.notSynchronized
  have hS0 : va_S (zA nR b) s.heap s.heap [] := va_S.rf
  have hl := lv_entry ([.ref (b + 0), .int (iI a0)]) (n := 2) (Nat.le_of_ble_eq_true rfl)
  have hent : entryFrame m args 2 = F0 m 0 ((lg_sl ([.ref (b + 0), .int (iI a0)]) ++ List.replicate (2 - (lg_sl ([.ref (b + 0), .int (iI a0)])).length) Slot.unset).toArray) [] := by rw [hargs]; exact lg_entry_eq m ([.ref (b + 0), .int (iI a0)]) 2
  rw [hent]
  generalize (lg_sl ([.ref (b + 0), .int (iI a0)]) ++ List.replicate (2 - (lg_sl ([.ref (b + 0), .int (iI a0)])).length) Slot.unset).toArray = ls at hl ⊢
  have hl : lv_has ls 2 [(0, .ref (b + 0)), (1, .int (iI a0))] := hl
  refine lv_aload_n hx hb dX12_hand_0 rfl (lv_at hl 0 rfl) ?_
  refine z_iconst hx hb dX12_hand_1 ?_
  refine w_puti hx hb hts (z_memU u12) tyX12 tyX12_ok nmX12 hown hK.1 hS hS0 f12_35 (by decide) (zkd_of (rfl : zcd wR 0 = 50) rfl) (Or.inl (hts _ (z_mem k979))) rfl (z := 0) (by decide +kernel) dX12_hand_2 (fun H locs hS hS0 => ?_)
  obtain ⟨M1, e2⟩ : ∃ M1 : zM, M1 = zup M 0 35 0 := ⟨_, rfl⟩
  rw [← e2] at hS
  have h := h M1 e2
  refine lv_iload_n hx hb dX12_hand_5 rfl (lv_at hl 1 rfl) ?_
  refine z_iconst hx hb dX12_hand_6 ?_
  refine lv_aload_n hx hb dX12_hand_7 rfl (lv_at hl 0 rfl) ?_
  refine w_geti hx hb hts (z_memU u12) hown hK.1 hS f12_3 (by decide) (zkd_of (rfl : zcd wR 0 = 50) rfl) (Or.inl (hts _ (z_mem k947))) dX12_hand_8 ?_
  refine z_iconst hx hb dX12_hand_11 ?_
  refine z_isub hx hb dX12_hand_12 ?_
  refine w_callz (va_runS (As := [.int (iI a0), .int (iI 0), .int (iI ((M1 0 3) - 1))]) (rest := []) ⟨hx, hb, hml, hown, hts⟩ (cR_in l D dA b M1 a0 0 ((M1 0 3) - 1) _ h) (va_cwS 3 hts (z_gS k1083 k1084 k14 k1085) rfl rfl rfl dm_X12_in.2 ⟨Nat.le_of_ble_eq_true rfl, Nat.le_of_ble_eq_true rfl⟩) ⟨wPre_blind, w_pre hS hK⟩ rfl rfl hl.1 rfl (lv_room (Nat.le_of_ble_eq_true rfl)) dX12_hand_13 ⟨Nat.le_refl _, Nat.le_refl _⟩) hS0 (fun z4 M3 H locs r5 h hS hS0 => ?_)
  obtain ⟨e6, h⟩ := h
  rw [e6] at hS
  refine w_if_eq (tgt := 28) hx hb (sI_01 r5) dX12_hand_16 (by decide) (fun c7 => ?_) (fun c7 => ?_)
  · skip
    have h := h.1 c7
    refine z_iconst hx hb dX12_hand_28 ?_
    exact w_iret hx hb hr hlocks hS hS0 (sI_of (by decide)) h dX12_hand_29
  · skip
    have h := h.2 c7
    refine lv_aload_n hx hb dX12_hand_19 rfl (lv_at hl 0 rfl) ?_
    refine w_getr (j2 := 2) hx hb hts (z_memU u12) hown hK.1 hS f12_2 (by decide) (zkd_of (rfl : zcd wR 0 = 50) rfl) (zrf_of (rfl : zcd wR 0 = 50) rfl) (Or.inl (hts _ (z_mem k946))) dX12_hand_20 ?_
    refine lv_iload_n hx hb dX12_hand_23 rfl (lv_at hl 1 rfl) ?_
    obtain ⟨o8, h⟩ := h
    refine w_iald (n := 24) (i := (sI a0)) hx hb hK.1 (t0 := 0) rfl hS (by decide) (zkd_of (rfl : zcd wR 2 = 52) rfl) (zln_of (rfl : zcd wR 2 = 52) rfl) rfl o8.1 o8.2 (by decide) dX12_hand_24 ?_
    refine lv_goto (tgt := 29) hx hb dX12_hand_25 (by decide) ?_
    exact w_iret hx hb hr hlocks hS hS0 rfl h dX12_hand_29

set_option maxRecDepth 100000 in
def wR_ring (a0 : Int) (a1 : Int) (M : zM) (Q : Int → zM → Prop) : Prop := (∀ M1 : zM, M1 = zup M 0 35 0 → ((sI (M1 0 3)) = 0 → Q (-1) M1) ∧ ((sI (M1 0 3)) ≠ 0 → wR_isMotor a0 M1 (fun z5 => (z5 = 0 → Q (-1) M1) ∧ (z5 ≠ 0 → wR_in a1 0 ((M1 0 3) - 1) M1 (fun z10 => (z10 = 0 → Q (-1) M1) ∧ (z10 ≠ 0 → ((sI (M1 0 10)) ≠ 4 → ((0 ≤ (sI (M1 0 10)) ∧ (sI (M1 0 10)) < 4) ∧ (∀ M16 : zM, M16 = zup M1 4 (sI (M1 0 10)).toNat (M1 0 3) → wL1 (fun K58 x18 M19 => ((sI (M19 0 3)) ≤ (sI x18) → ((0 ≤ (sI (M19 0 10)) ∧ (sI (M19 0 10)) < 4) ∧ (∀ M29 : zM, M29 = zup M19 5 (sI (M19 0 10)).toNat a0 → ((0 ≤ (sI (M29 0 10)) ∧ (sI (M29 0 10)) < 4) ∧ (∀ M32 : zM, M32 = zup M29 6 (sI (M29 0 10)).toNat a1 → ((0 ≤ (sI (M32 0 10)) ∧ (sI (M32 0 10)) < 4) ∧ (∀ M35 : zM, M35 = zup M32 7 (sI (M32 0 10)).toNat 1 → ((0 ≤ (sI (M35 0 10)) ∧ (sI (M35 0 10)) < 4) ∧ (∀ M38 : zM, M38 = zup M35 8 (sI (M35 0 10)).toNat 0 → (∀ M40 : zM, M40 = zup M38 0 10 ((M38 0 10) + 1) → Q (sI ((M40 0 10) - 1)) M40)))))))))) ∧ ((sI x18) < (sI (M19 0 3)) → ((0 ≤ (sI x18) ∧ (sI x18) < 24) ∧ ((0 ≤ (sI ((24 * (M19 0 10)) + x18)) ∧ (sI ((24 * (M19 0 10)) + x18)) < 96) ∧ (∀ M44 : zM, M44 = zup M19 3 (sI ((24 * (M19 0 10)) + x18)).toNat (M19 2 (sI x18).toNat) → K58 (x18 + 1) M44))))) 0 M16))) ∧ ((sI (M1 0 10)) = 4 → Q (-1) M1)))))))
set_option maxHeartbeats 4000000 in
set_option maxRecDepth 100000 in
theorem cR_ring (l : Launch) (D : va_G) (dA : Nat → ClassId) (b : Nat) (M : zM) (a0 : Int) (a1 : Int)  (Q : Int → zM → Prop) (h : wR_ring a0 a1 M Q) : Met l yX12_ring (.code yX12_ring cX12_ring 4 (some .int) :: zt) (z_rm 1) (va_Pc [.ref (b + 0), .int (iI a0), .int (iI a1)] (wPre D dA vwCl (z_tys dA) wR nR b M)) (va_Qi (wQi Q) (zB D dA vwCl wR nR b) (zA nR b)) 0 0 (zA nR b) := by
  unfold wR_ring at h
  refine Met.ofW (cc := cX12_ring) (maxL := 4) (ret := (some .int)) (by decide) rfl ?_
  intro p e s m args below meth c s₁ B hml hv
  obtain ⟨hargs, hS, hK⟩ := hv
  have hx := B.exec
  have hb := B.bytes
  have hr := B.returns
  have hts := atoms_spec (ws := .code yX12_ring cX12_ring 4 (some .int) :: zt) B.pre
  have hown : s.vm.findClass RX12 = some m.cls := findClass_of_methodNamed B.named
  have hlocks := B.notSynchronized
  have hS0 : va_S (zA nR b) s.heap s.heap [] := va_S.rf
  have hl := lv_entry ([.ref (b + 0), .int (iI a0), .int (iI a1)]) (n := 4) (Nat.le_of_ble_eq_true rfl)
  have hent : entryFrame m args 4 = F0 m 0 ((lg_sl ([.ref (b + 0), .int (iI a0), .int (iI a1)]) ++ List.replicate (4 - (lg_sl ([.ref (b + 0), .int (iI a0), .int (iI a1)])).length) Slot.unset).toArray) [] := by rw [hargs]; exact lg_entry_eq m ([.ref (b + 0), .int (iI a0), .int (iI a1)]) 4
  rw [hent]
  generalize (lg_sl ([.ref (b + 0), .int (iI a0), .int (iI a1)]) ++ List.replicate (4 - (lg_sl ([.ref (b + 0), .int (iI a0), .int (iI a1)])).length) Slot.unset).toArray = ls at hl ⊢
  have hl : lv_has ls 4 [(0, .ref (b + 0)), (1, .int (iI a0)), (2, .int (iI a1))] := hl
  refine lv_aload_n hx hb dX12_ring_0 rfl (lv_at hl 0 rfl) ?_
  refine z_iconst hx hb dX12_ring_1 ?_
  refine w_puti hx hb hts (z_memU u12) tyX12 tyX12_ok nmX12 hown hK.1 hS hS0 f12_35 (by decide) (zkd_of (rfl : zcd wR 0 = 50) rfl) (Or.inl (hts _ (z_mem k979))) rfl (z := 0) (by decide +kernel) dX12_ring_2 (fun H locs hS hS0 => ?_)
  obtain ⟨M1, e2⟩ : ∃ M1 : zM, M1 = zup M 0 35 0 := ⟨_, rfl⟩
  rw [← e2] at hS
  have h := h M1 e2
  refine lv_aload_n hx hb dX12_ring_5 rfl (lv_at hl 0 rfl) ?_
  refine w_geti hx hb hts (z_memU u12) hown hK.1 hS f12_3 (by decide) (zkd_of (rfl : zcd wR 0 = 50) rfl) (Or.inl (hts _ (z_mem k947))) dX12_ring_6 ?_
  refine w_if_eq (tgt := 41) hx hb rfl dX12_ring_9 (by decide) (fun c3 => ?_) (fun c3 => ?_)
  · skip
    have h := h.1 c3
    refine z_iconst hx hb dX12_ring_41 ?_
    exact w_iret hx hb hr hlocks hS hS0 (sI_of (by decide)) h dX12_ring_42
  · skip
    have h := h.2 c3
    refine lv_iload_n hx hb dX12_ring_12 rfl (lv_at hl 1 rfl) ?_
    refine w_callz (va_runS (As := [.int (iI a0)]) (rest := []) ⟨hx, hb, hml, hown, hts⟩ (cR_isMotor l D dA b M1 a0 _ h) (va_cwS 1 hts (z_gS k1090 k1091 k14 k1092) rfl rfl rfl dm_X12_isMotor.2 ⟨Nat.le_of_ble_eq_true rfl, Nat.le_of_ble_eq_true rfl⟩) ⟨wPre_blind, w_pre hS hK⟩ rfl rfl hl.1 rfl (lv_room (Nat.le_of_ble_eq_true rfl)) dX12_ring_13 ⟨Nat.le_refl _, Nat.le_refl _⟩) hS0 (fun z5 M4 H locs r6 h hS hS0 => ?_)
    obtain ⟨e7, h⟩ := h
    rw [e7] at hS
    refine w_if_eq (tgt := 41) hx hb (sI_01 r6) dX12_ring_16 (by decide) (fun c8 => ?_) (fun c8 => ?_)
    · skip
      have h := h.1 c8
      refine z_iconst hx hb dX12_ring_41 ?_
      exact w_iret hx hb hr hlocks hS hS0 (sI_of (by decide)) h dX12_ring_42
    · skip
      have h := h.2 c8
      refine lv_iload_n hx hb dX12_ring_19 rfl (lv_at hl 2 rfl) ?_
      refine z_iconst hx hb dX12_ring_20 ?_
      refine lv_aload_n hx hb dX12_ring_21 rfl (lv_at hl 0 rfl) ?_
      refine w_geti hx hb hts (z_memU u12) hown hK.1 hS f12_3 (by decide) (zkd_of (rfl : zcd wR 0 = 50) rfl) (Or.inl (hts _ (z_mem k947))) dX12_ring_22 ?_
      refine z_iconst hx hb dX12_ring_25 ?_
      refine z_isub hx hb dX12_ring_26 ?_
      refine w_callz (va_runS (As := [.int (iI a1), .int (iI 0), .int (iI ((M1 0 3) - 1))]) (rest := []) ⟨hx, hb, hml, hown, hts⟩ (cR_in l D dA b M1 a1 0 ((M1 0 3) - 1) _ h) (va_cwS 3 hts (z_gS k1083 k1084 k14 k1085) rfl rfl rfl dm_X12_in.2 ⟨Nat.le_of_ble_eq_true rfl, Nat.le_of_ble_eq_true rfl⟩) ⟨wPre_blind, w_pre hS hK⟩ rfl rfl hl.1 rfl (lv_room (Nat.le_of_ble_eq_true rfl)) dX12_ring_27 ⟨Nat.le_refl _, Nat.le_refl _⟩) hS0 (fun z10 M9 H locs r11 h hS hS0 => ?_)
      obtain ⟨e12, h⟩ := h
      rw [e12] at hS
      refine w_if_eq (tgt := 41) hx hb (sI_01 r11) dX12_ring_30 (by decide) (fun c13 => ?_) (fun c13 => ?_)
      · skip
        have h := h.1 c13
        refine z_iconst hx hb dX12_ring_41 ?_
        exact w_iret hx hb hr hlocks hS hS0 (sI_of (by decide)) h dX12_ring_42
      · skip
        have h := h.2 c13
        refine lv_aload_n hx hb dX12_ring_33 rfl (lv_at hl 0 rfl) ?_
        refine w_geti hx hb hts (z_memU u12) hown hK.1 hS f12_10 (by decide) (zkd_of (rfl : zcd wR 0 = 50) rfl) (Or.inl (hts _ (z_mem k954))) dX12_ring_34 ?_
        refine z_iconst hx hb dX12_ring_37 ?_
        refine w_icmp_ne (tgt := 43) hx hb rfl (sI_of (by decide)) dX12_ring_38 (by decide) (fun c14 => ?_) (fun c14 => ?_)
        · skip
          have h := h.1 c14
          refine lv_aload_n hx hb dX12_ring_43 rfl (lv_at hl 0 rfl) ?_
          refine w_getr (j2 := 4) hx hb hts (z_memU u12) hown hK.1 hS f12_5 (by decide) (zkd_of (rfl : zcd wR 0 = 50) rfl) (zrf_of (rfl : zcd wR 0 = 50) rfl) (Or.inl (hts _ (z_mem k949))) dX12_ring_44 ?_
          refine lv_aload_n hx hb dX12_ring_47 rfl (lv_at hl 0 rfl) ?_
          refine w_geti hx hb hts (z_memU u12) hown hK.1 hS f12_10 (by decide) (zkd_of (rfl : zcd wR 0 = 50) rfl) (Or.inl (hts _ (z_mem k954))) dX12_ring_48 ?_
          refine lv_aload_n hx hb dX12_ring_51 rfl (lv_at hl 0 rfl) ?_
          refine w_geti hx hb hts (z_memU u12) hown hK.1 hS f12_3 (by decide) (zkd_of (rfl : zcd wR 0 = 50) rfl) (Or.inl (hts _ (z_mem k947))) dX12_ring_52 ?_
          obtain ⟨o15, h⟩ := h
          refine w_iast (z := (M1 0 3)) (n := 4) (i := (sI (M1 0 10))) hx hb hK.1 (t0 := 0) rfl hS hS0 (by decide) (zkd_of (rfl : zcd wR 4 = 54) rfl) (zln_of (rfl : zcd wR 4 = 54) rfl) rfl o15.1 o15.2 (by decide) dX12_ring_55 (fun H locs hS hS0 => ?_)
          obtain ⟨M16, e17⟩ : ∃ M16 : zM, M16 = zup M1 4 (sI (M1 0 10)).toNat (M1 0 3) := ⟨_, rfl⟩
          rw [← e17] at hS
          have h := h M16 e17
          refine z_iconst hx hb dX12_ring_56 ?_
          refine lv_istore_n (lv' := [(3, .int (iI 0)), (0, .ref (b + 0)), (1, .int (iI a0)), (2, .int (iI a1))]) hx hb dX12_ring_57 rfl hl (by decide) rfl (fun ls hl => ?_)
          obtain ⟨I20, ⟨n21, h22⟩, h23⟩ := h
          have L24 : ∀ (n25 : Nat) (x18 : Int) (M19 : zM) (H : Heap) (locs : List Loc) (ls : Array Slot), I20 n25 x18 M19 → zR D dA vwCl wR nR b M19 H → va_S (zA nR b) s.heap H locs → lv_has ls 4 [(0, .ref (b + 0)), (1, .int (iI a0)), (2, .int (iI a1)), (3, .int (iI x18))] → W p l e (headSpec (.code yX12_ring cX12_ring 4 (some .int) :: zt) (z_rm 1)).room s m args below meth c H locs 0 0 (MQ below (va_Qi (wQi Q) (zB D dA vwCl wR nR b) (zA nR b)) args s 0 0 (zA nR b)) (F0 m 58 ls []) := by
            intro n25
            induction n25 using Nat.strongRecOn with
            | ind n25 i26 =>
              intro x18 M19 H locs ls h hS hS0 hl
              have h := h23 n25 x18 M19 h
              refine lv_iload_n hx hb dX12_ring_58 rfl (lv_at hl 3 rfl) ?_
              refine lv_aload_n hx hb dX12_ring_59 rfl (lv_at hl 0 rfl) ?_
              refine w_geti hx hb hts (z_memU u12) hown hK.1 hS f12_3 (by decide) (zkd_of (rfl : zcd wR 0 = 50) rfl) (Or.inl (hts _ (z_mem k947))) dX12_ring_60 ?_
              refine w_icmp_ge (tgt := 92) hx hb rfl rfl dX12_ring_63 (by decide) (fun c27 => ?_) (fun c27 => ?_)
              · skip
                have h := h.1 c27
                refine lv_aload_n hx hb dX12_ring_92 rfl (lv_at hl 0 rfl) ?_
                refine w_getr (j2 := 5) hx hb hts (z_memU u12) hown hK.1 hS f12_6 (by decide) (zkd_of (rfl : zcd wR 0 = 50) rfl) (zrf_of (rfl : zcd wR 0 = 50) rfl) (Or.inl (hts _ (z_mem k950))) dX12_ring_93 ?_
                refine lv_aload_n hx hb dX12_ring_96 rfl (lv_at hl 0 rfl) ?_
                refine w_geti hx hb hts (z_memU u12) hown hK.1 hS f12_10 (by decide) (zkd_of (rfl : zcd wR 0 = 50) rfl) (Or.inl (hts _ (z_mem k954))) dX12_ring_97 ?_
                refine lv_iload_n hx hb dX12_ring_100 rfl (lv_at hl 1 rfl) ?_
                obtain ⟨o28, h⟩ := h
                refine w_iast (z := a0) (n := 4) (i := (sI (M19 0 10))) hx hb hK.1 (t0 := 0) rfl hS hS0 (by decide) (zkd_of (rfl : zcd wR 5 = 55) rfl) (zln_of (rfl : zcd wR 5 = 55) rfl) rfl o28.1 o28.2 (by decide) dX12_ring_101 (fun H locs hS hS0 => ?_)
                obtain ⟨M29, e30⟩ : ∃ M29 : zM, M29 = zup M19 5 (sI (M19 0 10)).toNat a0 := ⟨_, rfl⟩
                rw [← e30] at hS
                have h := h M29 e30
                refine lv_aload_n hx hb dX12_ring_102 rfl (lv_at hl 0 rfl) ?_
                refine w_getr (j2 := 6) hx hb hts (z_memU u12) hown hK.1 hS f12_7 (by decide) (zkd_of (rfl : zcd wR 0 = 50) rfl) (zrf_of (rfl : zcd wR 0 = 50) rfl) (Or.inl (hts _ (z_mem k951))) dX12_ring_103 ?_
                refine lv_aload_n hx hb dX12_ring_106 rfl (lv_at hl 0 rfl) ?_
                refine w_geti hx hb hts (z_memU u12) hown hK.1 hS f12_10 (by decide) (zkd_of (rfl : zcd wR 0 = 50) rfl) (Or.inl (hts _ (z_mem k954))) dX12_ring_107 ?_
                refine lv_iload_n hx hb dX12_ring_110 rfl (lv_at hl 2 rfl) ?_
                obtain ⟨o31, h⟩ := h
                refine w_iast (z := a1) (n := 4) (i := (sI (M29 0 10))) hx hb hK.1 (t0 := 0) rfl hS hS0 (by decide) (zkd_of (rfl : zcd wR 6 = 56) rfl) (zln_of (rfl : zcd wR 6 = 56) rfl) rfl o31.1 o31.2 (by decide) dX12_ring_111 (fun H locs hS hS0 => ?_)
                obtain ⟨M32, e33⟩ : ∃ M32 : zM, M32 = zup M29 6 (sI (M29 0 10)).toNat a1 := ⟨_, rfl⟩
                rw [← e33] at hS
                have h := h M32 e33
                refine lv_aload_n hx hb dX12_ring_112 rfl (lv_at hl 0 rfl) ?_
                refine w_getr (j2 := 7) hx hb hts (z_memU u12) hown hK.1 hS f12_8 (by decide) (zkd_of (rfl : zcd wR 0 = 50) rfl) (zrf_of (rfl : zcd wR 0 = 50) rfl) (Or.inl (hts _ (z_mem k952))) dX12_ring_113 ?_
                refine lv_aload_n hx hb dX12_ring_116 rfl (lv_at hl 0 rfl) ?_
                refine w_geti hx hb hts (z_memU u12) hown hK.1 hS f12_10 (by decide) (zkd_of (rfl : zcd wR 0 = 50) rfl) (Or.inl (hts _ (z_mem k954))) dX12_ring_117 ?_
                refine z_iconst hx hb dX12_ring_120 ?_
                obtain ⟨o34, h⟩ := h
                refine w_iast (z := 1) (n := 4) (i := (sI (M32 0 10))) hx hb hK.1 (t0 := 0) rfl hS hS0 (by decide) (zkd_of (rfl : zcd wR 7 = 57) rfl) (zln_of (rfl : zcd wR 7 = 57) rfl) rfl o34.1 o34.2 (by decide) dX12_ring_121 (fun H locs hS hS0 => ?_)
                obtain ⟨M35, e36⟩ : ∃ M35 : zM, M35 = zup M32 7 (sI (M32 0 10)).toNat 1 := ⟨_, rfl⟩
                rw [← e36] at hS
                have h := h M35 e36
                refine lv_aload_n hx hb dX12_ring_122 rfl (lv_at hl 0 rfl) ?_
                refine w_getr (j2 := 8) hx hb hts (z_memU u12) hown hK.1 hS f12_9 (by decide) (zkd_of (rfl : zcd wR 0 = 50) rfl) (zrf_of (rfl : zcd wR 0 = 50) rfl) (Or.inl (hts _ (z_mem k953))) dX12_ring_123 ?_
                refine lv_aload_n hx hb dX12_ring_126 rfl (lv_at hl 0 rfl) ?_
                refine w_geti hx hb hts (z_memU u12) hown hK.1 hS f12_10 (by decide) (zkd_of (rfl : zcd wR 0 = 50) rfl) (Or.inl (hts _ (z_mem k954))) dX12_ring_127 ?_
                refine z_iconst hx hb dX12_ring_130 ?_
                obtain ⟨o37, h⟩ := h
                refine w_iast (z := 0) (n := 4) (i := (sI (M35 0 10))) hx hb hK.1 (t0 := 0) rfl hS hS0 (by decide) (zkd_of (rfl : zcd wR 8 = 58) rfl) (zln_of (rfl : zcd wR 8 = 58) rfl) rfl o37.1 o37.2 (by decide) dX12_ring_131 (fun H locs hS hS0 => ?_)
                obtain ⟨M38, e39⟩ : ∃ M38 : zM, M38 = zup M35 8 (sI (M35 0 10)).toNat 0 := ⟨_, rfl⟩
                rw [← e39] at hS
                have h := h M38 e39
                refine lv_aload_n hx hb dX12_ring_132 rfl (lv_at hl 0 rfl) ?_
                refine lv_dup hx hb dX12_ring_133 rfl ?_
                refine w_geti hx hb hts (z_memU u12) hown hK.1 hS f12_10 (by decide) (zkd_of (rfl : zcd wR 0 = 50) rfl) (Or.inl (hts _ (z_mem k954))) dX12_ring_134 ?_
                refine z_iconst hx hb dX12_ring_137 ?_
                refine z_iadd hx hb dX12_ring_138 ?_
                refine w_puti hx hb hts (z_memU u12) tyX12 tyX12_ok nmX12 hown hK.1 hS hS0 f12_10 (by decide) (zkd_of (rfl : zcd wR 0 = 50) rfl) (Or.inl (hts _ (z_mem k954))) rfl (z := ((M38 0 10) + 1)) (by decide +kernel) dX12_ring_139 (fun H locs hS hS0 => ?_)
                obtain ⟨M40, e41⟩ : ∃ M40 : zM, M40 = zup M38 0 10 ((M38 0 10) + 1) := ⟨_, rfl⟩
                rw [← e41] at hS
                have h := h M40 e41
                refine lv_aload_n hx hb dX12_ring_142 rfl (lv_at hl 0 rfl) ?_
                refine w_geti hx hb hts (z_memU u12) hown hK.1 hS f12_10 (by decide) (zkd_of (rfl : zcd wR 0 = 50) rfl) (Or.inl (hts _ (z_mem k954))) dX12_ring_143 ?_
                refine z_iconst hx hb dX12_ring_146 ?_
                refine z_isub hx hb dX12_ring_147 ?_
                exact w_iret hx hb hr hlocks hS hS0 rfl h dX12_ring_148
              · skip
                have h := h.2 c27
                refine lv_aload_n hx hb dX12_ring_66 rfl (lv_at hl 0 rfl) ?_
                refine w_getr (j2 := 3) hx hb hts (z_memU u12) hown hK.1 hS f12_4 (by decide) (zkd_of (rfl : zcd wR 0 = 50) rfl) (zrf_of (rfl : zcd wR 0 = 50) rfl) (Or.inl (hts _ (z_mem k948))) dX12_ring_67 ?_
                refine z_bipush hx hb (by decide) dX12_ring_70 ?_
                refine lv_aload_n hx hb dX12_ring_72 rfl (lv_at hl 0 rfl) ?_
                refine w_geti hx hb hts (z_memU u12) hown hK.1 hS f12_10 (by decide) (zkd_of (rfl : zcd wR 0 = 50) rfl) (Or.inl (hts _ (z_mem k954))) dX12_ring_73 ?_
                refine z_imul hx hb dX12_ring_76 ?_
                refine lv_iload_n hx hb dX12_ring_77 rfl (lv_at hl 3 rfl) ?_
                refine z_iadd hx hb dX12_ring_78 ?_
                refine lv_aload_n hx hb dX12_ring_79 rfl (lv_at hl 0 rfl) ?_
                refine w_getr (j2 := 2) hx hb hts (z_memU u12) hown hK.1 hS f12_2 (by decide) (zkd_of (rfl : zcd wR 0 = 50) rfl) (zrf_of (rfl : zcd wR 0 = 50) rfl) (Or.inl (hts _ (z_mem k946))) dX12_ring_80 ?_
                refine lv_iload_n hx hb dX12_ring_83 rfl (lv_at hl 3 rfl) ?_
                obtain ⟨o42, h⟩ := h
                refine w_iald (n := 24) (i := (sI x18)) hx hb hK.1 (t0 := 0) rfl hS (by decide) (zkd_of (rfl : zcd wR 2 = 52) rfl) (zln_of (rfl : zcd wR 2 = 52) rfl) rfl o42.1 o42.2 (by decide) dX12_ring_84 ?_
                obtain ⟨o43, h⟩ := h
                refine w_iast (z := (M19 2 (sI x18).toNat)) (n := 96) (i := (sI ((24 * (M19 0 10)) + x18))) hx hb hK.1 (t0 := 0) rfl hS hS0 (by decide) (zkd_of (rfl : zcd wR 3 = 53) rfl) (zln_of (rfl : zcd wR 3 = 53) rfl) rfl o43.1 o43.2 (by decide) dX12_ring_85 (fun H locs hS hS0 => ?_)
                obtain ⟨M44, e45⟩ : ∃ M44 : zM, M44 = zup M19 3 (sI ((24 * (M19 0 10)) + x18)).toNat (M19 2 (sI x18).toNat) := ⟨_, rfl⟩
                rw [← e45] at hS
                have h := h M44 e45
                refine z_iinc (lv' := [(3, .int (iI (x18 + 1))), (0, .ref (b + 0)), (1, .int (iI a0)), (2, .int (iI a1))]) hx hb dX12_ring_86 hl (k := 3) rfl (by decide) rfl (fun ls hl => ?_)
                refine lv_goto (tgt := 58) hx hb dX12_ring_89 (by decide) ?_
                obtain ⟨n46, h47, h⟩ := h
                exact i26 n46 h47 (x18 + 1) M44 _ _ _ h hS hS0 (lv_sub hl [1, 2, 3, 0] rfl)
          exact L24 n21 0 M16 _ _ _ h22 hS hS0 (lv_sub hl [1, 2, 3, 0] rfl)
        · skip
          have h := h.2 c14
          refine z_iconst hx hb dX12_ring_41 ?_
          exact w_iret hx hb hr hlocks hS hS0 (sI_of (by decide)) h dX12_ring_42

set_option maxRecDepth 100000 in
def wR_over (a0 : Int) (a1 : Int) (a2 : Int) (M : zM) (Q : Int → zM → Prop) : Prop := (∀ M1 : zM, M1 = zup M 0 35 0 → wR_isRing a0 M1 (fun z4 => (z4 = 0 → Q (-1) M1) ∧ (z4 ≠ 0 → ((0 ≤ (sI a0) ∧ (sI a0) < 4) ∧ wR_in a1 0 ((M1 4 (sI a0).toNat) - 1) M1 (fun z10 => (z10 = 0 → Q (-1) M1) ∧ (z10 ≠ 0 → wR_in a2 0 1 M1 (fun z15 => (z15 = 0 → Q (-1) M1) ∧ (z15 ≠ 0 → ((sI (M1 0 3)) ≠ 0 → wL2 (fun K53 x20 x21 M22 => ((sI (M22 0 3)) ≤ (sI x21) → Q (sI x20) M22) ∧ ((sI x21) < (sI (M22 0 3)) → ((0 ≤ (sI a0) ∧ (sI a0) < 4) ∧ ((sI (M22 4 (sI a0).toNat)) ≤ (sI (a1 + x21)) → Q (sI x20) M22) ∧ ((sI (a1 + x21)) < (sI (M22 4 (sI a0).toNat)) → pJ1 (fun J115 => ((sI a2) ≠ 0 → ((0 ≤ (sI (((24 * a0) + a1) + x21)) ∧ (sI (((24 * a0) + a1) + x21)) < 96) ∧ ((0 ≤ (sI x21) ∧ (sI x21) < 24) ∧ J115 (orI (M22 3 (sI (((24 * a0) + a1) + x21)).toNat) (M22 2 (sI x21).toNat))))) ∧ ((sI a2) = 0 → ((0 ≤ (sI x21) ∧ (sI x21) < 24) ∧ J115 (M22 2 (sI x21).toNat)))) (fun (x37 : Int) => ((0 ≤ (sI (((24 * a0) + a1) + x21)) ∧ (sI (((24 * a0) + a1) + x21)) < 96) ∧ ((sI x37) = (sI (M22 3 (sI (((24 * a0) + a1) + x21)).toNat)) → ((0 ≤ (sI (((24 * a0) + a1) + x21)) ∧ (sI (((24 * a0) + a1) + x21)) < 96) ∧ (∀ M43 : zM, M43 = zup M22 3 (sI (((24 * a0) + a1) + x21)).toNat x37 → K53 x20 (x21 + 1) M43))) ∧ ((sI x37) ≠ (sI (M22 3 (sI (((24 * a0) + a1) + x21)).toNat)) → ((0 ≤ (sI (((24 * a0) + a1) + x21)) ∧ (sI (((24 * a0) + a1) + x21)) < 96) ∧ (∀ M48 : zM, M48 = zup M22 3 (sI (((24 * a0) + a1) + x21)).toNat x37 → K53 (x20 + 1) (x21 + 1) M48))))))))) 0 0 M1) ∧ ((sI (M1 0 3)) = 0 → Q (-1) M1)))))))))
set_option maxHeartbeats 4000000 in
set_option maxRecDepth 100000 in
theorem cR_over (l : Launch) (D : va_G) (dA : Nat → ClassId) (b : Nat) (M : zM) (a0 : Int) (a1 : Int) (a2 : Int)  (Q : Int → zM → Prop) (h : wR_over a0 a1 a2 M Q) : Met l yX12_over (.code yX12_over cX12_over 8 (some .int) :: zt) (z_rm 2) (va_Pc [.ref (b + 0), .int (iI a0), .int (iI a1), .int (iI a2)] (wPre D dA vwCl (z_tys dA) wR nR b M)) (va_Qi (wQi Q) (zB D dA vwCl wR nR b) (zA nR b)) 0 0 (zA nR b) := by
  unfold wR_over at h
  refine Met.ofW (cc := cX12_over) (maxL := 8) (ret := (some .int)) (by decide) rfl ?_
  intro p e s m args below meth c s₁ B hml hv
  obtain ⟨hargs, hS, hK⟩ := hv
  have hx := B.exec
  have hb := B.bytes
  have hr := B.returns
  have hts := atoms_spec (ws := .code yX12_over cX12_over 8 (some .int) :: zt) B.pre
  have hown : s.vm.findClass RX12 = some m.cls := findClass_of_methodNamed B.named
  have hlocks := B.notSynchronized
  have hS0 : va_S (zA nR b) s.heap s.heap [] := va_S.rf
  have hl := lv_entry ([.ref (b + 0), .int (iI a0), .int (iI a1), .int (iI a2)]) (n := 8) (Nat.le_of_ble_eq_true rfl)
  have hent : entryFrame m args 8 = F0 m 0 ((lg_sl ([.ref (b + 0), .int (iI a0), .int (iI a1), .int (iI a2)]) ++ List.replicate (8 - (lg_sl ([.ref (b + 0), .int (iI a0), .int (iI a1), .int (iI a2)])).length) Slot.unset).toArray) [] := by rw [hargs]; exact lg_entry_eq m ([.ref (b + 0), .int (iI a0), .int (iI a1), .int (iI a2)]) 8
  rw [hent]
  generalize (lg_sl ([.ref (b + 0), .int (iI a0), .int (iI a1), .int (iI a2)]) ++ List.replicate (8 - (lg_sl ([.ref (b + 0), .int (iI a0), .int (iI a1), .int (iI a2)])).length) Slot.unset).toArray = ls at hl ⊢
  have hl : lv_has ls 8 [(0, .ref (b + 0)), (1, .int (iI a0)), (2, .int (iI a1)), (3, .int (iI a2))] := hl
  refine lv_aload_n hx hb dX12_over_0 rfl (lv_at hl 0 rfl) ?_
  refine z_iconst hx hb dX12_over_1 ?_
  refine w_puti hx hb hts (z_memU u12) tyX12 tyX12_ok nmX12 hown hK.1 hS hS0 f12_35 (by decide) (zkd_of (rfl : zcd wR 0 = 50) rfl) (Or.inl (hts _ (z_mem k979))) rfl (z := 0) (by decide +kernel) dX12_over_2 (fun H locs hS hS0 => ?_)
  obtain ⟨M1, e2⟩ : ∃ M1 : zM, M1 = zup M 0 35 0 := ⟨_, rfl⟩
  rw [← e2] at hS
  have h := h M1 e2
  refine lv_aload_n hx hb dX12_over_5 rfl (lv_at hl 0 rfl) ?_
  refine lv_iload_n hx hb dX12_over_6 rfl (lv_at hl 1 rfl) ?_
  refine w_callz (va_runV (As := [.int (iI a0)]) (rest := []) ⟨hx, hb, hml, hown, hts⟩ (cR_isRing l D dA b M1 a0 _ h) (cwV 1 hts (z_gV k1097 k1098 k1397 k14 k1099) rfl rfl rfl dm_X12_isRing ⟨Nat.le_of_ble_eq_true rfl, Nat.le_of_ble_eq_true rfl⟩) ⟨wPre_blind, (w_recv hS hK.1 (by decide) (zkd_of (rfl : zcd wR 0 = 50) rfl) (by decide) (rfl : vwCl[12]? = some (RX12, TX12, 50))), w_pre hS hK⟩ rfl rfl hl.1 rfl (lv_room (Nat.le_of_ble_eq_true rfl)) dX12_over_7 ⟨Nat.le_refl _, Nat.le_refl _⟩) hS0 (fun z4 M3 H locs r5 h hS hS0 => ?_)
  obtain ⟨e6, h⟩ := h
  rw [e6] at hS
  refine w_if_eq (tgt := 45) hx hb (sI_01 r5) dX12_over_10 (by decide) (fun c7 => ?_) (fun c7 => ?_)
  · skip
    have h := h.1 c7
    refine z_iconst hx hb dX12_over_45 ?_
    exact w_iret hx hb hr hlocks hS hS0 (sI_of (by decide)) h dX12_over_46
  · skip
    have h := h.2 c7
    refine lv_iload_n hx hb dX12_over_13 rfl (lv_at hl 2 rfl) ?_
    refine z_iconst hx hb dX12_over_14 ?_
    refine lv_aload_n hx hb dX12_over_15 rfl (lv_at hl 0 rfl) ?_
    refine w_getr (j2 := 4) hx hb hts (z_memU u12) hown hK.1 hS f12_5 (by decide) (zkd_of (rfl : zcd wR 0 = 50) rfl) (zrf_of (rfl : zcd wR 0 = 50) rfl) (Or.inl (hts _ (z_mem k949))) dX12_over_16 ?_
    refine lv_iload_n hx hb dX12_over_19 rfl (lv_at hl 1 rfl) ?_
    obtain ⟨o8, h⟩ := h
    refine w_iald (n := 4) (i := (sI a0)) hx hb hK.1 (t0 := 0) rfl hS (by decide) (zkd_of (rfl : zcd wR 4 = 54) rfl) (zln_of (rfl : zcd wR 4 = 54) rfl) rfl o8.1 o8.2 (by decide) dX12_over_20 ?_
    refine z_iconst hx hb dX12_over_21 ?_
    refine z_isub hx hb dX12_over_22 ?_
    refine w_callz (va_runS (As := [.int (iI a1), .int (iI 0), .int (iI ((M1 4 (sI a0).toNat) - 1))]) (rest := []) ⟨hx, hb, hml, hown, hts⟩ (cR_in l D dA b M1 a1 0 ((M1 4 (sI a0).toNat) - 1) _ h) (va_cwS 3 hts (z_gS k1083 k1084 k14 k1085) rfl rfl rfl dm_X12_in.2 ⟨Nat.le_of_ble_eq_true rfl, Nat.le_of_ble_eq_true rfl⟩) ⟨wPre_blind, w_pre hS hK⟩ rfl rfl hl.1 rfl (lv_room (Nat.le_of_ble_eq_true rfl)) dX12_over_23 ⟨Nat.le_refl _, Nat.le_refl _⟩) hS0 (fun z10 M9 H locs r11 h hS hS0 => ?_)
    obtain ⟨e12, h⟩ := h
    rw [e12] at hS
    refine w_if_eq (tgt := 45) hx hb (sI_01 r11) dX12_over_26 (by decide) (fun c13 => ?_) (fun c13 => ?_)
    · skip
      have h := h.1 c13
      refine z_iconst hx hb dX12_over_45 ?_
      exact w_iret hx hb hr hlocks hS hS0 (sI_of (by decide)) h dX12_over_46
    · skip
      have h := h.2 c13
      refine lv_iload_n hx hb dX12_over_29 rfl (lv_at hl 3 rfl) ?_
      refine z_iconst hx hb dX12_over_30 ?_
      refine z_iconst hx hb dX12_over_31 ?_
      refine w_callz (va_runS (As := [.int (iI a2), .int (iI 0), .int (iI 1)]) (rest := []) ⟨hx, hb, hml, hown, hts⟩ (cR_in l D dA b M1 a2 0 1 _ h) (va_cwS 3 hts (z_gS k1083 k1084 k14 k1085) rfl rfl rfl dm_X12_in.2 ⟨Nat.le_of_ble_eq_true rfl, Nat.le_of_ble_eq_true rfl⟩) ⟨wPre_blind, w_pre hS hK⟩ rfl rfl hl.1 rfl (lv_room (Nat.le_of_ble_eq_true rfl)) dX12_over_32 ⟨Nat.le_refl _, Nat.le_refl _⟩) hS0 (fun z15 M14 H locs r16 h hS hS0 => ?_)
      obtain ⟨e17, h⟩ := h
      rw [e17] at hS
      refine w_if_eq (tgt := 45) hx hb (sI_01 r16) dX12_over_35 (by decide) (fun c18 => ?_) (fun c18 => ?_)
      · skip
        have h := h.1 c18
        refine z_iconst hx hb dX12_over_45 ?_
        exact w_iret hx hb hr hlocks hS hS0 (sI_of (by decide)) h dX12_over_46
      · skip
        have h := h.2 c18
        refine lv_aload_n hx hb dX12_over_38 rfl (lv_at hl 0 rfl) ?_
        refine w_geti hx hb hts (z_memU u12) hown hK.1 hS f12_3 (by decide) (zkd_of (rfl : zcd wR 0 = 50) rfl) (Or.inl (hts _ (z_mem k947))) dX12_over_39 ?_
        refine w_if_ne (tgt := 47) hx hb rfl dX12_over_42 (by decide) (fun c19 => ?_) (fun c19 => ?_)
        · skip
          have h := h.1 c19
          refine z_iconst hx hb dX12_over_47 ?_
          refine lv_istore (lv' := [(4, .int (iI 0)), (0, .ref (b + 0)), (1, .int (iI a0)), (2, .int (iI a1)), (3, .int (iI a2))]) hx hb dX12_over_48 hl (by decide) rfl (fun ls hl => ?_)
          refine z_iconst hx hb dX12_over_50 ?_
          refine lv_istore (lv' := [(5, .int (iI 0)), (4, .int (iI 0)), (0, .ref (b + 0)), (1, .int (iI a0)), (2, .int (iI a1)), (3, .int (iI a2))]) hx hb dX12_over_51 hl (by decide) rfl (fun ls hl => ?_)
          obtain ⟨I23, ⟨n24, h25⟩, h26⟩ := h
          have L27 : ∀ (n28 : Nat) (x20 x21 : Int) (M22 : zM) (H : Heap) (locs : List Loc) (ls : Array Slot), I23 n28 x20 x21 M22 → zR D dA vwCl wR nR b M22 H → va_S (zA nR b) s.heap H locs → lv_has ls 8 [(0, .ref (b + 0)), (1, .int (iI a0)), (2, .int (iI a1)), (3, .int (iI a2)), (4, .int (iI x20)), (5, .int (iI x21))] → W p l e (headSpec (.code yX12_over cX12_over 8 (some .int) :: zt) (z_rm 2)).room s m args below meth c H locs 0 0 (MQ below (va_Qi (wQi Q) (zB D dA vwCl wR nR b) (zA nR b)) args s 0 0 (zA nR b)) (F0 m 53 ls []) := by
            intro n28
            induction n28 using Nat.strongRecOn with
            | ind n28 i29 =>
              intro x20 x21 M22 H locs ls h hS hS0 hl
              have h := h26 n28 x20 x21 M22 h
              refine lv_iload hx hb dX12_over_53 (lv_at hl 5 rfl) ?_
              refine lv_aload_n hx hb dX12_over_55 rfl (lv_at hl 0 rfl) ?_
              refine w_geti hx hb hts (z_memU u12) hown hK.1 hS f12_3 (by decide) (zkd_of (rfl : zcd wR 0 = 50) rfl) (Or.inl (hts _ (z_mem k947))) dX12_over_56 ?_
              refine w_icmp_ge (tgt := 147) hx hb rfl rfl dX12_over_59 (by decide) (fun c30 => ?_) (fun c30 => ?_)
              · skip
                have h := h.1 c30
                refine lv_iload hx hb dX12_over_147 (lv_at hl 4 rfl) ?_
                exact w_iret hx hb hr hlocks hS hS0 rfl h dX12_over_149
              · skip
                have h := h.2 c30
                refine lv_iload_n hx hb dX12_over_62 rfl (lv_at hl 2 rfl) ?_
                refine lv_iload hx hb dX12_over_63 (lv_at hl 5 rfl) ?_
                refine z_iadd hx hb dX12_over_65 ?_
                refine lv_aload_n hx hb dX12_over_66 rfl (lv_at hl 0 rfl) ?_
                refine w_getr (j2 := 4) hx hb hts (z_memU u12) hown hK.1 hS f12_5 (by decide) (zkd_of (rfl : zcd wR 0 = 50) rfl) (zrf_of (rfl : zcd wR 0 = 50) rfl) (Or.inl (hts _ (z_mem k949))) dX12_over_67 ?_
                refine lv_iload_n hx hb dX12_over_70 rfl (lv_at hl 1 rfl) ?_
                obtain ⟨o31, h⟩ := h
                refine w_iald (n := 4) (i := (sI a0)) hx hb hK.1 (t0 := 0) rfl hS (by decide) (zkd_of (rfl : zcd wR 4 = 54) rfl) (zln_of (rfl : zcd wR 4 = 54) rfl) rfl o31.1 o31.2 (by decide) dX12_over_71 ?_
                refine w_icmp_ge (tgt := 147) hx hb rfl rfl dX12_over_72 (by decide) (fun c32 => ?_) (fun c32 => ?_)
                · skip
                  have h := h.1 c32
                  refine lv_iload hx hb dX12_over_147 (lv_at hl 4 rfl) ?_
                  exact w_iret hx hb hr hlocks hS hS0 rfl h dX12_over_149
                · skip
                  have h := h.2 c32
                  refine z_bipush hx hb (by decide) dX12_over_75 ?_
                  refine lv_iload_n hx hb dX12_over_77 rfl (lv_at hl 1 rfl) ?_
                  refine z_imul hx hb dX12_over_78 ?_
                  refine lv_iload_n hx hb dX12_over_79 rfl (lv_at hl 2 rfl) ?_
                  refine z_iadd hx hb dX12_over_80 ?_
                  refine lv_iload hx hb dX12_over_81 (lv_at hl 5 rfl) ?_
                  refine z_iadd hx hb dX12_over_83 ?_
                  refine lv_istore (lv' := [(6, .int (iI (((24 * a0) + a1) + x21))), (0, .ref (b + 0)), (1, .int (iI a0)), (2, .int (iI a1)), (3, .int (iI a2)), (4, .int (iI x20)), (5, .int (iI x21))]) hx hb dX12_over_84 hl (by decide) rfl (fun ls hl => ?_)
                  refine lv_iload_n hx hb dX12_over_86 rfl (lv_at hl 4 rfl) ?_
                  obtain ⟨J115, B39, h⟩ := h
                  have L38 : ∀ (x37 : Int) (H : Heap) (locs : List Loc) (ls : Array Slot), J115 x37 → zR D dA vwCl wR nR b M22 H → va_S (zA nR b) s.heap H locs → lv_has ls 8 [(0, .ref (b + 0)), (1, .int (iI a0)), (2, .int (iI a1)), (3, .int (iI a2)), (4, .int (iI x20)), (5, .int (iI x21)), (6, .int (iI (((24 * a0) + a1) + x21)))] → W p l e (headSpec (.code yX12_over cX12_over 8 (some .int) :: zt) (z_rm 2)).room s m args below meth c H locs 0 0 (MQ below (va_Qi (wQi Q) (zB D dA vwCl wR nR b) (zA nR b)) args s 0 0 (zA nR b)) (F0 m 115 ls [.int (iI x37)]) := by
                    intro x37 H locs ls h hS hS0 hl
                    have h := B39 x37 h
                    refine lv_istore (lv' := [(7, .int (iI x37)), (0, .ref (b + 0)), (1, .int (iI a0)), (2, .int (iI a1)), (3, .int (iI a2)), (4, .int (iI x20)), (5, .int (iI x21)), (6, .int (iI (((24 * a0) + a1) + x21)))]) hx hb dX12_over_115 hl (by decide) rfl (fun ls hl => ?_)
                    refine lv_iload hx hb dX12_over_117 (lv_at hl 0 rfl) ?_
                    refine lv_aload_n hx hb dX12_over_119 rfl (lv_at hl 1 rfl) ?_
                    refine w_getr (j2 := 3) hx hb hts (z_memU u12) hown hK.1 hS f12_4 (by decide) (zkd_of (rfl : zcd wR 0 = 50) rfl) (zrf_of (rfl : zcd wR 0 = 50) rfl) (Or.inl (hts _ (z_mem k948))) dX12_over_120 ?_
                    refine lv_iload hx hb dX12_over_123 (lv_at hl 7 rfl) ?_
                    obtain ⟨o40, h⟩ := h
                    refine w_iald (n := 96) (i := (sI (((24 * a0) + a1) + x21))) hx hb hK.1 (t0 := 0) rfl hS (by decide) (zkd_of (rfl : zcd wR 3 = 53) rfl) (zln_of (rfl : zcd wR 3 = 53) rfl) rfl o40.1 o40.2 (by decide) dX12_over_125 ?_
                    refine w_icmp_eq (tgt := 132) hx hb rfl rfl dX12_over_126 (by decide) (fun c41 => ?_) (fun c41 => ?_)
                    · skip
                      have h := h.1 c41
                      refine lv_aload_n hx hb dX12_over_132 rfl (lv_at hl 1 rfl) ?_
                      refine w_getr (j2 := 3) hx hb hts (z_memU u12) hown hK.1 hS f12_4 (by decide) (zkd_of (rfl : zcd wR 0 = 50) rfl) (zrf_of (rfl : zcd wR 0 = 50) rfl) (Or.inl (hts _ (z_mem k948))) dX12_over_133 ?_
                      refine lv_iload hx hb dX12_over_136 (lv_at hl 7 rfl) ?_
                      refine lv_iload hx hb dX12_over_138 (lv_at hl 0 rfl) ?_
                      obtain ⟨o42, h⟩ := h
                      refine w_iast (z := x37) (n := 96) (i := (sI (((24 * a0) + a1) + x21))) hx hb hK.1 (t0 := 0) rfl hS hS0 (by decide) (zkd_of (rfl : zcd wR 3 = 53) rfl) (zln_of (rfl : zcd wR 3 = 53) rfl) rfl o42.1 o42.2 (by decide) dX12_over_140 (fun H locs hS hS0 => ?_)
                      obtain ⟨M43, e44⟩ : ∃ M43 : zM, M43 = zup M22 3 (sI (((24 * a0) + a1) + x21)).toNat x37 := ⟨_, rfl⟩
                      rw [← e44] at hS
                      have h := h M43 e44
                      refine z_iinc (lv' := [(5, .int (iI (x21 + 1))), (7, .int (iI x37)), (0, .ref (b + 0)), (1, .int (iI a0)), (2, .int (iI a1)), (3, .int (iI a2)), (4, .int (iI x20)), (6, .int (iI (((24 * a0) + a1) + x21)))]) hx hb dX12_over_141 hl (k := 6) rfl (by decide) rfl (fun ls hl => ?_)
                      refine lv_goto (tgt := 53) hx hb dX12_over_144 (by decide) ?_
                      obtain ⟨n45, h46, h⟩ := h
                      exact i29 n45 h46 x20 (x21 + 1) M43 _ _ _ h hS hS0 (lv_sub hl [2, 3, 4, 5, 6, 0] rfl)
                    · skip
                      have h := h.2 c41
                      refine z_iinc (lv' := [(4, .int (iI (x20 + 1))), (7, .int (iI x37)), (0, .ref (b + 0)), (1, .int (iI a0)), (2, .int (iI a1)), (3, .int (iI a2)), (5, .int (iI x21)), (6, .int (iI (((24 * a0) + a1) + x21)))]) hx hb dX12_over_129 hl (k := 5) rfl (by decide) rfl (fun ls hl => ?_)
                      refine lv_aload_n hx hb dX12_over_132 rfl (lv_at hl 2 rfl) ?_
                      refine w_getr (j2 := 3) hx hb hts (z_memU u12) hown hK.1 hS f12_4 (by decide) (zkd_of (rfl : zcd wR 0 = 50) rfl) (zrf_of (rfl : zcd wR 0 = 50) rfl) (Or.inl (hts _ (z_mem k948))) dX12_over_133 ?_
                      refine lv_iload hx hb dX12_over_136 (lv_at hl 7 rfl) ?_
                      refine lv_iload hx hb dX12_over_138 (lv_at hl 1 rfl) ?_
                      obtain ⟨o47, h⟩ := h
                      refine w_iast (z := x37) (n := 96) (i := (sI (((24 * a0) + a1) + x21))) hx hb hK.1 (t0 := 0) rfl hS hS0 (by decide) (zkd_of (rfl : zcd wR 3 = 53) rfl) (zln_of (rfl : zcd wR 3 = 53) rfl) rfl o47.1 o47.2 (by decide) dX12_over_140 (fun H locs hS hS0 => ?_)
                      obtain ⟨M48, e49⟩ : ∃ M48 : zM, M48 = zup M22 3 (sI (((24 * a0) + a1) + x21)).toNat x37 := ⟨_, rfl⟩
                      rw [← e49] at hS
                      have h := h M48 e49
                      refine z_iinc (lv' := [(5, .int (iI (x21 + 1))), (4, .int (iI (x20 + 1))), (7, .int (iI x37)), (0, .ref (b + 0)), (1, .int (iI a0)), (2, .int (iI a1)), (3, .int (iI a2)), (6, .int (iI (((24 * a0) + a1) + x21)))]) hx hb dX12_over_141 hl (k := 6) rfl (by decide) rfl (fun ls hl => ?_)
                      refine lv_goto (tgt := 53) hx hb dX12_over_144 (by decide) ?_
                      obtain ⟨n50, h51, h⟩ := h
                      exact i29 n50 h51 (x20 + 1) (x21 + 1) M48 _ _ _ h hS hS0 (lv_sub hl [3, 4, 5, 6, 1, 0] rfl)
                  refine w_if_ne (tgt := 100) hx hb rfl dX12_over_87 (by decide) (fun c52 => ?_) (fun c52 => ?_)
                  · skip
                    have h := h.1 c52
                    refine lv_aload_n hx hb dX12_over_100 rfl (lv_at hl 1 rfl) ?_
                    refine w_getr (j2 := 3) hx hb hts (z_memU u12) hown hK.1 hS f12_4 (by decide) (zkd_of (rfl : zcd wR 0 = 50) rfl) (zrf_of (rfl : zcd wR 0 = 50) rfl) (Or.inl (hts _ (z_mem k948))) dX12_over_101 ?_
                    refine lv_iload hx hb dX12_over_104 (lv_at hl 0 rfl) ?_
                    obtain ⟨o53, h⟩ := h
                    refine w_iald (n := 96) (i := (sI (((24 * a0) + a1) + x21))) hx hb hK.1 (t0 := 0) rfl hS (by decide) (zkd_of (rfl : zcd wR 3 = 53) rfl) (zln_of (rfl : zcd wR 3 = 53) rfl) rfl o53.1 o53.2 (by decide) dX12_over_106 ?_
                    refine lv_aload_n hx hb dX12_over_107 rfl (lv_at hl 1 rfl) ?_
                    refine w_getr (j2 := 2) hx hb hts (z_memU u12) hown hK.1 hS f12_2 (by decide) (zkd_of (rfl : zcd wR 0 = 50) rfl) (zrf_of (rfl : zcd wR 0 = 50) rfl) (Or.inl (hts _ (z_mem k946))) dX12_over_108 ?_
                    refine lv_iload hx hb dX12_over_111 (lv_at hl 6 rfl) ?_
                    obtain ⟨o54, h⟩ := h
                    refine w_iald (n := 24) (i := (sI x21)) hx hb hK.1 (t0 := 0) rfl hS (by decide) (zkd_of (rfl : zcd wR 2 = 52) rfl) (zln_of (rfl : zcd wR 2 = 52) rfl) rfl o54.1 o54.2 (by decide) dX12_over_113 ?_
                    refine w_ior hx hb dX12_over_114 ?_
                    exact L38 (orI (M22 3 (sI (((24 * a0) + a1) + x21)).toNat) (M22 2 (sI x21).toNat)) _ _ _ h hS hS0 (lv_sub hl [1, 2, 3, 4, 5, 6, 0] rfl)
                  · skip
                    have h := h.2 c52
                    refine lv_aload_n hx hb dX12_over_90 rfl (lv_at hl 1 rfl) ?_
                    refine w_getr (j2 := 2) hx hb hts (z_memU u12) hown hK.1 hS f12_2 (by decide) (zkd_of (rfl : zcd wR 0 = 50) rfl) (zrf_of (rfl : zcd wR 0 = 50) rfl) (Or.inl (hts _ (z_mem k946))) dX12_over_91 ?_
                    refine lv_iload hx hb dX12_over_94 (lv_at hl 6 rfl) ?_
                    obtain ⟨o55, h⟩ := h
                    refine w_iald (n := 24) (i := (sI x21)) hx hb hK.1 (t0 := 0) rfl hS (by decide) (zkd_of (rfl : zcd wR 2 = 52) rfl) (zln_of (rfl : zcd wR 2 = 52) rfl) rfl o55.1 o55.2 (by decide) dX12_over_96 ?_
                    refine lv_goto (tgt := 115) hx hb dX12_over_97 (by decide) ?_
                    exact L38 (M22 2 (sI x21).toNat) _ _ _ h hS hS0 (lv_sub hl [1, 2, 3, 4, 5, 6, 0] rfl)
          exact L27 n24 0 0 M1 _ _ _ h25 hS hS0 (lv_sub hl [2, 3, 4, 5, 1, 0] rfl)
        · skip
          have h := h.2 c19
          refine z_iconst hx hb dX12_over_45 ?_
          exact w_iret hx hb hr hlocks hS hS0 (sI_of (by decide)) h dX12_over_46

set_option maxRecDepth 100000 in
def wR_set (a0 : Int) (a1 : Int) (a2 : Int) (M : zM) (Q : Int → zM → Prop) : Prop := (∀ M1 : zM, M1 = zup M 0 35 0 → wR_isRing a0 M1 (fun z4 => (z4 = 0 → Q (-1) M1) ∧ (z4 ≠ 0 → wR_in a1 0 1 M1 (fun z9 => (z9 = 0 → Q (-1) M1) ∧ (z9 ≠ 0 → pJ0 (fun J54 => ((sI a1) ≠ 0 → ((0 ≤ (sI a0) ∧ (sI a0) < 4) ∧ wR_in a2 0 ((M1 4 (sI a0).toNat) - 1) M1 (fun z46 => (z46 ≠ 0 → J54) ∧ (z46 = 0 → Q (-1) M1)))) ∧ ((sI a1) = 0 → wR_isMotor a2 M1 (fun z51 => (z51 ≠ 0 → J54) ∧ (z51 = 0 → Q (-1) M1)))) (pJ1 (fun J73 => ((sI a1) ≠ 0 → ((0 ≤ (sI a0) ∧ (sI a0) < 4) ∧ J73 (M1 6 (sI a0).toNat))) ∧ ((sI a1) = 0 → ((0 ≤ (sI a0) ∧ (sI a0) < 4) ∧ J73 (M1 5 (sI a0).toNat)))) (fun (x30 : Int) => ((sI a1) ≠ 0 → ((0 ≤ (sI a0) ∧ (sI a0) < 4) ∧ (∀ M35 : zM, M35 = zup M1 6 (sI a0).toNat a2 → Q (sI x30) M35))) ∧ ((sI a1) = 0 → ((0 ≤ (sI a0) ∧ (sI a0) < 4) ∧ (∀ M38 : zM, M38 = zup M1 5 (sI a0).toNat a2 → Q (sI x30) M38))))))))))
set_option maxHeartbeats 4000000 in
set_option maxRecDepth 100000 in
theorem cR_set (l : Launch) (D : va_G) (dA : Nat → ClassId) (b : Nat) (M : zM) (a0 : Int) (a1 : Int) (a2 : Int)  (Q : Int → zM → Prop) (h : wR_set a0 a1 a2 M Q) : Met l yX12_set (.code yX12_set cX12_set 5 (some .int) :: zt) (z_rm 2) (va_Pc [.ref (b + 0), .int (iI a0), .int (iI a1), .int (iI a2)] (wPre D dA vwCl (z_tys dA) wR nR b M)) (va_Qi (wQi Q) (zB D dA vwCl wR nR b) (zA nR b)) 0 0 (zA nR b) := by
  unfold wR_set at h
  refine Met.ofW (cc := cX12_set) (maxL := 5) (ret := (some .int)) (by decide) rfl ?_
  intro p e s m args below meth c s₁ B hml hv
  obtain ⟨hargs, hS, hK⟩ := hv
  have hx := B.exec
  have hb := B.bytes
  have hr := B.returns
  have hts := atoms_spec (ws := .code yX12_set cX12_set 5 (some .int) :: zt) B.pre
  have hown : s.vm.findClass RX12 = some m.cls := findClass_of_methodNamed B.named
  have hlocks := B.notSynchronized
  have hS0 : va_S (zA nR b) s.heap s.heap [] := va_S.rf
  have hl := lv_entry ([.ref (b + 0), .int (iI a0), .int (iI a1), .int (iI a2)]) (n := 5) (Nat.le_of_ble_eq_true rfl)
  have hent : entryFrame m args 5 = F0 m 0 ((lg_sl ([.ref (b + 0), .int (iI a0), .int (iI a1), .int (iI a2)]) ++ List.replicate (5 - (lg_sl ([.ref (b + 0), .int (iI a0), .int (iI a1), .int (iI a2)])).length) Slot.unset).toArray) [] := by rw [hargs]; exact lg_entry_eq m ([.ref (b + 0), .int (iI a0), .int (iI a1), .int (iI a2)]) 5
  rw [hent]
  generalize (lg_sl ([.ref (b + 0), .int (iI a0), .int (iI a1), .int (iI a2)]) ++ List.replicate (5 - (lg_sl ([.ref (b + 0), .int (iI a0), .int (iI a1), .int (iI a2)])).length) Slot.unset).toArray = ls at hl ⊢
  have hl : lv_has ls 5 [(0, .ref (b + 0)), (1, .int (iI a0)), (2, .int (iI a1)), (3, .int (iI a2))] := hl
  refine lv_aload_n hx hb dX12_set_0 rfl (lv_at hl 0 rfl) ?_
  refine z_iconst hx hb dX12_set_1 ?_
  refine w_puti hx hb hts (z_memU u12) tyX12 tyX12_ok nmX12 hown hK.1 hS hS0 f12_35 (by decide) (zkd_of (rfl : zcd wR 0 = 50) rfl) (Or.inl (hts _ (z_mem k979))) rfl (z := 0) (by decide +kernel) dX12_set_2 (fun H locs hS hS0 => ?_)
  obtain ⟨M1, e2⟩ : ∃ M1 : zM, M1 = zup M 0 35 0 := ⟨_, rfl⟩
  rw [← e2] at hS
  have h := h M1 e2
  refine lv_aload_n hx hb dX12_set_5 rfl (lv_at hl 0 rfl) ?_
  refine lv_iload_n hx hb dX12_set_6 rfl (lv_at hl 1 rfl) ?_
  refine w_callz (va_runV (As := [.int (iI a0)]) (rest := []) ⟨hx, hb, hml, hown, hts⟩ (cR_isRing l D dA b M1 a0 _ h) (cwV 1 hts (z_gV k1097 k1098 k1397 k14 k1099) rfl rfl rfl dm_X12_isRing ⟨Nat.le_of_ble_eq_true rfl, Nat.le_of_ble_eq_true rfl⟩) ⟨wPre_blind, (w_recv hS hK.1 (by decide) (zkd_of (rfl : zcd wR 0 = 50) rfl) (by decide) (rfl : vwCl[12]? = some (RX12, TX12, 50))), w_pre hS hK⟩ rfl rfl hl.1 rfl (lv_room (Nat.le_of_ble_eq_true rfl)) dX12_set_7 ⟨Nat.le_refl _, Nat.le_refl _⟩) hS0 (fun z4 M3 H locs r5 h hS hS0 => ?_)
  obtain ⟨e6, h⟩ := h
  rw [e6] at hS
  refine w_if_eq (tgt := 52) hx hb (sI_01 r5) dX12_set_10 (by decide) (fun c7 => ?_) (fun c7 => ?_)
  · skip
    have h := h.1 c7
    refine z_iconst hx hb dX12_set_52 ?_
    exact w_iret hx hb hr hlocks hS hS0 (sI_of (by decide)) h dX12_set_53
  · skip
    have h := h.2 c7
    refine lv_iload_n hx hb dX12_set_13 rfl (lv_at hl 2 rfl) ?_
    refine z_iconst hx hb dX12_set_14 ?_
    refine z_iconst hx hb dX12_set_15 ?_
    refine w_callz (va_runS (As := [.int (iI a1), .int (iI 0), .int (iI 1)]) (rest := []) ⟨hx, hb, hml, hown, hts⟩ (cR_in l D dA b M1 a1 0 1 _ h) (va_cwS 3 hts (z_gS k1083 k1084 k14 k1085) rfl rfl rfl dm_X12_in.2 ⟨Nat.le_of_ble_eq_true rfl, Nat.le_of_ble_eq_true rfl⟩) ⟨wPre_blind, w_pre hS hK⟩ rfl rfl hl.1 rfl (lv_room (Nat.le_of_ble_eq_true rfl)) dX12_set_16 ⟨Nat.le_refl _, Nat.le_refl _⟩) hS0 (fun z9 M8 H locs r10 h hS hS0 => ?_)
    obtain ⟨e11, h⟩ := h
    rw [e11] at hS
    refine w_if_eq (tgt := 52) hx hb (sI_01 r10) dX12_set_19 (by decide) (fun c12 => ?_) (fun c12 => ?_)
    · skip
      have h := h.1 c12
      refine z_iconst hx hb dX12_set_52 ?_
      exact w_iret hx hb hr hlocks hS hS0 (sI_of (by decide)) h dX12_set_53
    · skip
      have h := h.2 c12
      refine lv_iload_n hx hb dX12_set_22 rfl (lv_at hl 2 rfl) ?_
      obtain ⟨J54, B26, h⟩ := h
      have L25 : ∀ (H : Heap) (locs : List Loc) (ls : Array Slot), J54 → zR D dA vwCl wR nR b M1 H → va_S (zA nR b) s.heap H locs → lv_has ls 5 [(0, .ref (b + 0)), (1, .int (iI a0)), (2, .int (iI a1)), (3, .int (iI a2))] → W p l e (headSpec (.code yX12_set cX12_set 5 (some .int) :: zt) (z_rm 2)).room s m args below meth c H locs 0 0 (MQ below (va_Qi (wQi Q) (zB D dA vwCl wR nR b) (zA nR b)) args s 0 0 (zA nR b)) (F0 m 54 ls []) := by
        intro  H locs ls h hS hS0 hl
        have h := B26 h
        refine lv_iload_n hx hb dX12_set_54 rfl (lv_at hl 2 rfl) ?_
        obtain ⟨J73, B32, h⟩ := h
        have L31 : ∀ (x30 : Int) (H : Heap) (locs : List Loc) (ls : Array Slot), J73 x30 → zR D dA vwCl wR nR b M1 H → va_S (zA nR b) s.heap H locs → lv_has ls 5 [(0, .ref (b + 0)), (1, .int (iI a0)), (2, .int (iI a1)), (3, .int (iI a2))] → W p l e (headSpec (.code yX12_set cX12_set 5 (some .int) :: zt) (z_rm 2)).room s m args below meth c H locs 0 0 (MQ below (va_Qi (wQi Q) (zB D dA vwCl wR nR b) (zA nR b)) args s 0 0 (zA nR b)) (F0 m 73 ls [.int (iI x30)]) := by
          intro x30 H locs ls h hS hS0 hl
          have h := B32 x30 h
          refine lv_istore (lv' := [(4, .int (iI x30)), (0, .ref (b + 0)), (1, .int (iI a0)), (2, .int (iI a1)), (3, .int (iI a2))]) hx hb dX12_set_73 hl (by decide) rfl (fun ls hl => ?_)
          refine lv_iload_n hx hb dX12_set_75 rfl (lv_at hl 3 rfl) ?_
          refine w_if_ne (tgt := 89) hx hb rfl dX12_set_76 (by decide) (fun c33 => ?_) (fun c33 => ?_)
          · skip
            have h := h.1 c33
            refine lv_aload_n hx hb dX12_set_89 rfl (lv_at hl 1 rfl) ?_
            refine w_getr (j2 := 6) hx hb hts (z_memU u12) hown hK.1 hS f12_7 (by decide) (zkd_of (rfl : zcd wR 0 = 50) rfl) (zrf_of (rfl : zcd wR 0 = 50) rfl) (Or.inl (hts _ (z_mem k951))) dX12_set_90 ?_
            refine lv_iload_n hx hb dX12_set_93 rfl (lv_at hl 2 rfl) ?_
            refine lv_iload_n hx hb dX12_set_94 rfl (lv_at hl 4 rfl) ?_
            obtain ⟨o34, h⟩ := h
            refine w_iast (z := a2) (n := 4) (i := (sI a0)) hx hb hK.1 (t0 := 0) rfl hS hS0 (by decide) (zkd_of (rfl : zcd wR 6 = 56) rfl) (zln_of (rfl : zcd wR 6 = 56) rfl) rfl o34.1 o34.2 (by decide) dX12_set_95 (fun H locs hS hS0 => ?_)
            obtain ⟨M35, e36⟩ : ∃ M35 : zM, M35 = zup M1 6 (sI a0).toNat a2 := ⟨_, rfl⟩
            rw [← e36] at hS
            have h := h M35 e36
            refine lv_iload hx hb dX12_set_96 (lv_at hl 0 rfl) ?_
            exact w_iret hx hb hr hlocks hS hS0 rfl h dX12_set_98
          · skip
            have h := h.2 c33
            refine lv_aload_n hx hb dX12_set_79 rfl (lv_at hl 1 rfl) ?_
            refine w_getr (j2 := 5) hx hb hts (z_memU u12) hown hK.1 hS f12_6 (by decide) (zkd_of (rfl : zcd wR 0 = 50) rfl) (zrf_of (rfl : zcd wR 0 = 50) rfl) (Or.inl (hts _ (z_mem k950))) dX12_set_80 ?_
            refine lv_iload_n hx hb dX12_set_83 rfl (lv_at hl 2 rfl) ?_
            refine lv_iload_n hx hb dX12_set_84 rfl (lv_at hl 4 rfl) ?_
            obtain ⟨o37, h⟩ := h
            refine w_iast (z := a2) (n := 4) (i := (sI a0)) hx hb hK.1 (t0 := 0) rfl hS hS0 (by decide) (zkd_of (rfl : zcd wR 5 = 55) rfl) (zln_of (rfl : zcd wR 5 = 55) rfl) rfl o37.1 o37.2 (by decide) dX12_set_85 (fun H locs hS hS0 => ?_)
            obtain ⟨M38, e39⟩ : ∃ M38 : zM, M38 = zup M1 5 (sI a0).toNat a2 := ⟨_, rfl⟩
            rw [← e39] at hS
            have h := h M38 e39
            refine lv_goto (tgt := 96) hx hb dX12_set_86 (by decide) ?_
            refine lv_iload hx hb dX12_set_96 (lv_at hl 0 rfl) ?_
            exact w_iret hx hb hr hlocks hS hS0 rfl h dX12_set_98
        refine w_if_ne (tgt := 67) hx hb rfl dX12_set_55 (by decide) (fun c40 => ?_) (fun c40 => ?_)
        · skip
          have h := h.1 c40
          refine lv_aload_n hx hb dX12_set_67 rfl (lv_at hl 0 rfl) ?_
          refine w_getr (j2 := 6) hx hb hts (z_memU u12) hown hK.1 hS f12_7 (by decide) (zkd_of (rfl : zcd wR 0 = 50) rfl) (zrf_of (rfl : zcd wR 0 = 50) rfl) (Or.inl (hts _ (z_mem k951))) dX12_set_68 ?_
          refine lv_iload_n hx hb dX12_set_71 rfl (lv_at hl 1 rfl) ?_
          obtain ⟨o41, h⟩ := h
          refine w_iald (n := 4) (i := (sI a0)) hx hb hK.1 (t0 := 0) rfl hS (by decide) (zkd_of (rfl : zcd wR 6 = 56) rfl) (zln_of (rfl : zcd wR 6 = 56) rfl) rfl o41.1 o41.2 (by decide) dX12_set_72 ?_
          exact L31 (M1 6 (sI a0).toNat) _ _ _ h hS hS0 (lv_sub hl [0, 1, 2, 3] rfl)
        · skip
          have h := h.2 c40
          refine lv_aload_n hx hb dX12_set_58 rfl (lv_at hl 0 rfl) ?_
          refine w_getr (j2 := 5) hx hb hts (z_memU u12) hown hK.1 hS f12_6 (by decide) (zkd_of (rfl : zcd wR 0 = 50) rfl) (zrf_of (rfl : zcd wR 0 = 50) rfl) (Or.inl (hts _ (z_mem k950))) dX12_set_59 ?_
          refine lv_iload_n hx hb dX12_set_62 rfl (lv_at hl 1 rfl) ?_
          obtain ⟨o42, h⟩ := h
          refine w_iald (n := 4) (i := (sI a0)) hx hb hK.1 (t0 := 0) rfl hS (by decide) (zkd_of (rfl : zcd wR 5 = 55) rfl) (zln_of (rfl : zcd wR 5 = 55) rfl) rfl o42.1 o42.2 (by decide) dX12_set_63 ?_
          refine lv_goto (tgt := 73) hx hb dX12_set_64 (by decide) ?_
          exact L31 (M1 5 (sI a0).toNat) _ _ _ h hS hS0 (lv_sub hl [0, 1, 2, 3] rfl)
      refine w_if_ne (tgt := 36) hx hb rfl dX12_set_23 (by decide) (fun c43 => ?_) (fun c43 => ?_)
      · skip
        have h := h.1 c43
        refine lv_iload_n hx hb dX12_set_36 rfl (lv_at hl 3 rfl) ?_
        refine z_iconst hx hb dX12_set_37 ?_
        refine lv_aload_n hx hb dX12_set_38 rfl (lv_at hl 0 rfl) ?_
        refine w_getr (j2 := 4) hx hb hts (z_memU u12) hown hK.1 hS f12_5 (by decide) (zkd_of (rfl : zcd wR 0 = 50) rfl) (zrf_of (rfl : zcd wR 0 = 50) rfl) (Or.inl (hts _ (z_mem k949))) dX12_set_39 ?_
        refine lv_iload_n hx hb dX12_set_42 rfl (lv_at hl 1 rfl) ?_
        obtain ⟨o44, h⟩ := h
        refine w_iald (n := 4) (i := (sI a0)) hx hb hK.1 (t0 := 0) rfl hS (by decide) (zkd_of (rfl : zcd wR 4 = 54) rfl) (zln_of (rfl : zcd wR 4 = 54) rfl) rfl o44.1 o44.2 (by decide) dX12_set_43 ?_
        refine z_iconst hx hb dX12_set_44 ?_
        refine z_isub hx hb dX12_set_45 ?_
        refine w_callz (va_runS (As := [.int (iI a2), .int (iI 0), .int (iI ((M1 4 (sI a0).toNat) - 1))]) (rest := []) ⟨hx, hb, hml, hown, hts⟩ (cR_in l D dA b M1 a2 0 ((M1 4 (sI a0).toNat) - 1) _ h) (va_cwS 3 hts (z_gS k1083 k1084 k14 k1085) rfl rfl rfl dm_X12_in.2 ⟨Nat.le_of_ble_eq_true rfl, Nat.le_of_ble_eq_true rfl⟩) ⟨wPre_blind, w_pre hS hK⟩ rfl rfl hl.1 rfl (lv_room (Nat.le_of_ble_eq_true rfl)) dX12_set_46 ⟨Nat.le_refl _, Nat.le_refl _⟩) hS0 (fun z46 M45 H locs r47 h hS hS0 => ?_)
        obtain ⟨e48, h⟩ := h
        rw [e48] at hS
        refine w_if_ne (tgt := 54) hx hb (sI_01 r47) dX12_set_49 (by decide) (fun c49 => ?_) (fun c49 => ?_)
        · skip
          have h := h.1 c49
          exact L25 _ _ _ h hS hS0 (lv_sub hl [0, 1, 2, 3] rfl)
        · skip
          have h := h.2 c49
          refine z_iconst hx hb dX12_set_52 ?_
          exact w_iret hx hb hr hlocks hS hS0 (sI_of (by decide)) h dX12_set_53
      · skip
        have h := h.2 c43
        refine lv_iload_n hx hb dX12_set_26 rfl (lv_at hl 3 rfl) ?_
        refine w_callz (va_runS (As := [.int (iI a2)]) (rest := []) ⟨hx, hb, hml, hown, hts⟩ (cR_isMotor l D dA b M1 a2 _ h) (va_cwS 1 hts (z_gS k1090 k1091 k14 k1092) rfl rfl rfl dm_X12_isMotor.2 ⟨Nat.le_of_ble_eq_true rfl, Nat.le_of_ble_eq_true rfl⟩) ⟨wPre_blind, w_pre hS hK⟩ rfl rfl hl.1 rfl (lv_room (Nat.le_of_ble_eq_true rfl)) dX12_set_27 ⟨Nat.le_refl _, Nat.le_refl _⟩) hS0 (fun z51 M50 H locs r52 h hS hS0 => ?_)
        obtain ⟨e53, h⟩ := h
        rw [e53] at hS
        refine w_if_ne (tgt := 54) hx hb (sI_01 r52) dX12_set_30 (by decide) (fun c54 => ?_) (fun c54 => ?_)
        · skip
          have h := h.1 c54
          exact L25 _ _ _ h hS hS0 (lv_sub hl [0, 1, 2, 3] rfl)
        · skip
          have h := h.2 c54
          refine lv_goto (tgt := 52) hx hb dX12_set_33 (by decide) ?_
          refine z_iconst hx hb dX12_set_52 ?_
          exact w_iret hx hb hr hlocks hS hS0 (sI_of (by decide)) h dX12_set_53

set_option maxRecDepth 100000 in
def wR_bitCount (a0 : Int) (M : zM) (Q : Int → Prop) : Prop := (∀ t1 : Int, t1 = ((andI (a0 - (andI (ushrI a0 1) 1431655765)) 858993459) + (andI (ushrI (a0 - (andI (ushrI a0 1) 1431655765)) 2) 858993459)) → (∀ t3 : Int, t3 = ((andI (t1 + (ushrI t1 4)) 252645135) + (ushrI (andI (t1 + (ushrI t1 4)) 252645135) 8)) → Q (andI (t3 + (ushrI t3 16)) 63)))
set_option maxHeartbeats 4000000 in
set_option maxRecDepth 100000 in
theorem cR_bitCount (l : Launch) (D : va_G) (dA : Nat → ClassId) (b : Nat) (M : zM) (a0 : Int)  (Q : Int → Prop) (h : wR_bitCount a0 M Q) : Met l yJ6_bitCount_0f7a4 (.code yJ6_bitCount_0f7a4 cJ6_bitCount_0f7a4 1 (some .int) :: zt) (z_rm 0) (va_Pc [.int (iI a0)] (wPre D dA vwCl (z_tys dA) wR nR b M)) (va_Qi (wQi (fun z9 u9 => u9 = M ∧ Q z9)) (zB D dA vwCl wR nR b) (zA nR b)) 0 0 (zA nR b) := by
  unfold wR_bitCount at h
  refine Met.ofW (cc := cJ6_bitCount_0f7a4) (maxL := 1) (ret := (some .int)) (by decide) rfl ?_
  intro p e s m args below meth c s₁ B hml hv
  obtain ⟨hargs, hS, hK⟩ := hv
  have hx := B.exec
  have hb := B.bytes
  have hr := B.returns
  have hts := atoms_spec (ws := .code yJ6_bitCount_0f7a4 cJ6_bitCount_0f7a4 1 (some .int) :: zt) B.pre
  have hown : s.vm.findClass RJ6 = some m.cls := findClass_of_methodNamed B.named
  have hlocks := B.notSynchronized
  have hS0 : va_S (zA nR b) s.heap s.heap [] := va_S.rf
  have hl := lv_entry ([.int (iI a0)]) (n := 1) (Nat.le_of_ble_eq_true rfl)
  have hent : entryFrame m args 1 = F0 m 0 ((lg_sl ([.int (iI a0)]) ++ List.replicate (1 - (lg_sl ([.int (iI a0)])).length) Slot.unset).toArray) [] := by rw [hargs]; exact lg_entry_eq m ([.int (iI a0)]) 1
  rw [hent]
  generalize (lg_sl ([.int (iI a0)]) ++ List.replicate (1 - (lg_sl ([.int (iI a0)])).length) Slot.unset).toArray = ls at hl ⊢
  have hl : lv_has ls 1 [(0, .int (iI a0))] := hl
  refine lv_iload_n hx hb dJ6_bitCount_0f7a4_0 rfl (lv_at hl 0 rfl) ?_
  refine lv_iload_n hx hb dJ6_bitCount_0f7a4_1 rfl (lv_at hl 0 rfl) ?_
  refine z_iconst hx hb dJ6_bitCount_0f7a4_2 ?_
  refine w_iushr hx hb dJ6_bitCount_0f7a4_3 ?_
  refine z_ldcw (n := 1431655765) hx hb hown (hts _ (z_mem k435)) (by decide) dJ6_bitCount_0f7a4_4 ?_
  refine w_iand hx hb dJ6_bitCount_0f7a4_7 ?_
  refine z_isub hx hb dJ6_bitCount_0f7a4_8 ?_
  refine lv_istore_n (lv' := [(0, .int (iI (a0 - (andI (ushrI a0 1) 1431655765))))]) hx hb dJ6_bitCount_0f7a4_9 rfl hl (by decide) rfl (fun ls hl => ?_)
  refine lv_iload_n hx hb dJ6_bitCount_0f7a4_10 rfl (lv_at hl 0 rfl) ?_
  refine z_ldcw (n := 858993459) hx hb hown (hts _ (z_mem k436)) (by decide) dJ6_bitCount_0f7a4_11 ?_
  refine w_iand hx hb dJ6_bitCount_0f7a4_14 ?_
  refine lv_iload_n hx hb dJ6_bitCount_0f7a4_15 rfl (lv_at hl 0 rfl) ?_
  refine z_iconst hx hb dJ6_bitCount_0f7a4_16 ?_
  refine w_iushr hx hb dJ6_bitCount_0f7a4_17 ?_
  refine z_ldcw (n := 858993459) hx hb hown (hts _ (z_mem k436)) (by decide) dJ6_bitCount_0f7a4_18 ?_
  refine w_iand hx hb dJ6_bitCount_0f7a4_21 ?_
  refine z_iadd hx hb dJ6_bitCount_0f7a4_22 ?_
  obtain ⟨t1, e2⟩ : ∃ t1 : Int, t1 = ((andI (a0 - (andI (ushrI a0 1) 1431655765)) 858993459) + (andI (ushrI (a0 - (andI (ushrI a0 1) 1431655765)) 2) 858993459)) := ⟨_, rfl⟩
  refine z_top (y := t1) e2.symm ?_
  have h := h t1 e2
  refine lv_istore_n (lv' := [(0, .int (iI t1))]) hx hb dJ6_bitCount_0f7a4_23 rfl hl (by decide) rfl (fun ls hl => ?_)
  refine lv_iload_n hx hb dJ6_bitCount_0f7a4_24 rfl (lv_at hl 0 rfl) ?_
  refine lv_iload_n hx hb dJ6_bitCount_0f7a4_25 rfl (lv_at hl 0 rfl) ?_
  refine z_iconst hx hb dJ6_bitCount_0f7a4_26 ?_
  refine w_iushr hx hb dJ6_bitCount_0f7a4_27 ?_
  refine z_iadd hx hb dJ6_bitCount_0f7a4_28 ?_
  refine z_ldcw (n := 252645135) hx hb hown (hts _ (z_mem k437)) (by decide) dJ6_bitCount_0f7a4_29 ?_
  refine w_iand hx hb dJ6_bitCount_0f7a4_32 ?_
  refine lv_istore_n (lv' := [(0, .int (iI (andI (t1 + (ushrI t1 4)) 252645135)))]) hx hb dJ6_bitCount_0f7a4_33 rfl hl (by decide) rfl (fun ls hl => ?_)
  refine lv_iload_n hx hb dJ6_bitCount_0f7a4_34 rfl (lv_at hl 0 rfl) ?_
  refine lv_iload_n hx hb dJ6_bitCount_0f7a4_35 rfl (lv_at hl 0 rfl) ?_
  refine z_bipush hx hb (by decide) dJ6_bitCount_0f7a4_36 ?_
  refine w_iushr hx hb dJ6_bitCount_0f7a4_38 ?_
  refine z_iadd hx hb dJ6_bitCount_0f7a4_39 ?_
  obtain ⟨t3, e4⟩ : ∃ t3 : Int, t3 = ((andI (t1 + (ushrI t1 4)) 252645135) + (ushrI (andI (t1 + (ushrI t1 4)) 252645135) 8)) := ⟨_, rfl⟩
  refine z_top (y := t3) e4.symm ?_
  have h := h t3 e4
  refine lv_istore_n (lv' := [(0, .int (iI t3))]) hx hb dJ6_bitCount_0f7a4_40 rfl hl (by decide) rfl (fun ls hl => ?_)
  refine lv_iload_n hx hb dJ6_bitCount_0f7a4_41 rfl (lv_at hl 0 rfl) ?_
  refine lv_iload_n hx hb dJ6_bitCount_0f7a4_42 rfl (lv_at hl 0 rfl) ?_
  refine z_bipush hx hb (by decide) dJ6_bitCount_0f7a4_43 ?_
  refine w_iushr hx hb dJ6_bitCount_0f7a4_45 ?_
  refine z_iadd hx hb dJ6_bitCount_0f7a4_46 ?_
  refine lv_istore_n (lv' := [(0, .int (iI (t3 + (ushrI t3 16))))]) hx hb dJ6_bitCount_0f7a4_47 rfl hl (by decide) rfl (fun ls hl => ?_)
  refine lv_iload_n hx hb dJ6_bitCount_0f7a4_48 rfl (lv_at hl 0 rfl) ?_
  refine z_bipush hx hb (by decide) dJ6_bitCount_0f7a4_49 ?_
  refine w_iand hx hb dJ6_bitCount_0f7a4_51 ?_
  exact w_iret hx hb hr hlocks hS hS0 (sI_of (andI_R _ _)) ⟨rfl, h⟩ dJ6_bitCount_0f7a4_52
