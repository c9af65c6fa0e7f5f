/-! the W layer, 16 -/
theorem dX12_clear_0 : decode cX12_clear 0 = .ok (.aload_n 0, 1) := by decide +kernel
theorem dX12_clear_1 : decode cX12_clear 1 = .ok (.iconst 0, 1) := by decide +kernel
theorem dX12_clear_10 : decode cX12_clear 10 = .ok (.aload_n 0, 1) := by decide +kernel
theorem dX12_clear_11 : decode cX12_clear 11 = .ok (.iconst 0, 1) := by decide +kernel
theorem dX12_clear_12 : decode cX12_clear 12 = .ok (.putfield 121, 3) := by decide +kernel
theorem dX12_clear_15 : decode cX12_clear 15 = .ok (.aload_n 0, 1) := by decide +kernel
theorem dX12_clear_16 : decode cX12_clear 16 = .ok (.iconst 0, 1) := by decide +kernel
theorem dX12_clear_17 : decode cX12_clear 17 = .ok (.putfield 176, 3) := by decide +kernel
theorem dX12_clear_2 : decode cX12_clear 2 = .ok (.putfield 118, 3) := by decide +kernel
theorem dX12_clear_20 : decode cX12_clear 20 = .ok (.iconst 0, 1) := by decide +kernel
theorem dX12_clear_21 : decode cX12_clear 21 = .ok (.istore_n 2, 1) := by decide +kernel
theorem dX12_clear_22 : decode cX12_clear 22 = .ok (.iload_n 2, 1) := by decide +kernel
theorem dX12_clear_23 : decode cX12_clear 23 = .ok (.iconst 2, 1) := by decide +kernel
theorem dX12_clear_24 : decode cX12_clear 24 = .ok (.if_icmp .ge 16, 3) := by decide +kernel
theorem dX12_clear_27 : decode cX12_clear 27 = .ok (.aload_n 0, 1) := by decide +kernel
theorem dX12_clear_28 : decode cX12_clear 28 = .ok (.getfield 41, 3) := by decide +kernel
theorem dX12_clear_31 : decode cX12_clear 31 = .ok (.iload_n 2, 1) := by decide +kernel
theorem dX12_clear_32 : decode cX12_clear 32 = .ok (.iconst 0, 1) := by decide +kernel
theorem dX12_clear_33 : decode cX12_clear 33 = .ok (.iastore, 1) := by decide +kernel
theorem dX12_clear_34 : decode cX12_clear 34 = .ok (.iinc 2 1, 3) := by decide +kernel
theorem dX12_clear_37 : decode cX12_clear 37 = .ok (.goto (-15), 3) := by decide +kernel
theorem dX12_clear_40 : decode cX12_clear 40 = .ok (.iload_n 1, 1) := by decide +kernel
theorem dX12_clear_41 : decode cX12_clear 41 = .ok (.ireturn, 1) := by decide +kernel
theorem dX12_clear_5 : decode cX12_clear 5 = .ok (.aload_n 0, 1) := by decide +kernel
theorem dX12_clear_6 : decode cX12_clear 6 = .ok (.getfield 121, 3) := by decide +kernel
theorem dX12_clear_9 : decode cX12_clear 9 = .ok (.istore_n 1, 1) := by decide +kernel
theorem dX12_common_0 : decode cX12_common 0 = .ok (.iload_n 1, 1) := by decide +kernel
theorem dX12_common_1 : decode cX12_common 1 = .ok (.ifCond .ne 7, 3) := by decide +kernel
theorem dX12_common_10 : decode cX12_common 10 = .ok (.iload_n 1, 1) := by decide +kernel
theorem dX12_common_11 : decode cX12_common 11 = .ok (.irem, 1) := by decide +kernel
theorem dX12_common_12 : decode cX12_common 12 = .ok (.invokestatic 191, 3) := by decide +kernel
theorem dX12_common_15 : decode cX12_common 15 = .ok (.ireturn, 1) := by decide +kernel
theorem dX12_common_4 : decode cX12_common 4 = .ok (.iload_n 0, 1) := by decide +kernel
theorem dX12_common_5 : decode cX12_common 5 = .ok (.goto 10, 3) := by decide +kernel
theorem dX12_common_8 : decode cX12_common 8 = .ok (.iload_n 1, 1) := by decide +kernel
theorem dX12_common_9 : decode cX12_common 9 = .ok (.iload_n 0, 1) := by decide +kernel
theorem dX12_count_0 : decode cX12_count 0 = .ok (.aload_n 0, 1) := by decide +kernel
theorem dX12_count_1 : decode cX12_count 1 = .ok (.iconst 0, 1) := by decide +kernel
theorem dX12_count_2 : decode cX12_count 2 = .ok (.putfield 118, 3) := by decide +kernel
theorem dX12_count_5 : decode cX12_count 5 = .ok (.iload_n 1, 1) := by decide +kernel
theorem dX12_count_52 : decode cX12_count 52 = .ok (.aload_n 0, 1) := by decide +kernel
theorem dX12_count_53 : decode cX12_count 53 = .ok (.getfield 121, 3) := by decide +kernel
theorem dX12_count_56 : decode cX12_count 56 = .ok (.ireturn, 1) := by decide +kernel
theorem dX12_count_57 : decode cX12_count 57 = .ok (.aload_n 0, 1) := by decide +kernel
theorem dX12_count_58 : decode cX12_count 58 = .ok (.getfield 176, 3) := by decide +kernel
theorem dX12_count_6 : decode cX12_count 6 = .ok (.tableswitch 86 0 7 #[46, 51, 56, 61, 66, 71, 76, 81], 46) := by decide +kernel
theorem dX12_count_61 : decode cX12_count 61 = .ok (.ireturn, 1) := by decide +kernel
theorem dX12_count_62 : decode cX12_count 62 = .ok (.aload_n 0, 1) := by decide +kernel
theorem dX12_count_63 : decode cX12_count 63 = .ok (.getfield 179, 3) := by decide +kernel
theorem dX12_count_66 : decode cX12_count 66 = .ok (.ireturn, 1) := by decide +kernel
theorem dX12_count_67 : decode cX12_count 67 = .ok (.aload_n 0, 1) := by decide +kernel
theorem dX12_count_68 : decode cX12_count 68 = .ok (.getfield 182, 3) := by decide +kernel
theorem dX12_count_71 : decode cX12_count 71 = .ok (.ireturn, 1) := by decide +kernel
theorem dX12_count_72 : decode cX12_count 72 = .ok (.aload_n 0, 1) := by decide +kernel
theorem dX12_count_73 : decode cX12_count 73 = .ok (.getfield 185, 3) := by decide +kernel
theorem dX12_count_76 : decode cX12_count 76 = .ok (.ireturn, 1) := by decide +kernel
theorem dX12_count_77 : decode cX12_count 77 = .ok (.aload_n 0, 1) := by decide +kernel
theorem dX12_count_78 : decode cX12_count 78 = .ok (.getfield 188, 3) := by decide +kernel
theorem dX12_count_81 : decode cX12_count 81 = .ok (.ireturn, 1) := by decide +kernel
theorem dX12_count_82 : decode cX12_count 82 = .ok (.aload_n 0, 1) := by decide +kernel
theorem dX12_count_83 : decode cX12_count 83 = .ok (.getfield 128, 3) := by decide +kernel
theorem dX12_count_86 : decode cX12_count 86 = .ok (.ireturn, 1) := by decide +kernel
theorem dX12_count_87 : decode cX12_count 87 = .ok (.aload_n 0, 1) := by decide +kernel
theorem dX12_count_88 : decode cX12_count 88 = .ok (.getfield 162, 3) := by decide +kernel
theorem dX12_count_91 : decode cX12_count 91 = .ok (.ireturn, 1) := by decide +kernel
theorem dX12_count_92 : decode cX12_count 92 = .ok (.iconst (-1), 1) := by decide +kernel
theorem dX12_count_93 : decode cX12_count 93 = .ok (.ireturn, 1) := by decide +kernel
theorem dX12_head_0 : decode cX12_head 0 = .ok (.aload_n 0, 1) := by decide +kernel
theorem dX12_head_1 : decode cX12_head 1 = .ok (.iconst 0, 1) := by decide +kernel
theorem dX12_head_10 : decode cX12_head 10 = .ok (.ifCond .eq 13, 3) := by decide +kernel
theorem dX12_head_13 : decode cX12_head 13 = .ok (.iload_n 2, 1) := by decide +kernel
theorem dX12_head_14 : decode cX12_head 14 = .ok (.iconst 0, 1) := by decide +kernel
theorem dX12_head_15 : decode cX12_head 15 = .ok (.bipush 23, 2) := by decide +kernel
theorem dX12_head_17 : decode cX12_head 17 = .ok (.invokestatic 124, 3) := by decide +kernel
theorem dX12_head_2 : decode cX12_head 2 = .ok (.putfield 118, 3) := by decide +kernel
theorem dX12_head_20 : decode cX12_head 20 = .ok (.ifCond .ne 5, 3) := by decide +kernel
theorem dX12_head_23 : decode cX12_head 23 = .ok (.iconst (-1), 1) := by decide +kernel
theorem dX12_head_24 : decode cX12_head 24 = .ok (.ireturn, 1) := by decide +kernel
theorem dX12_head_25 : decode cX12_head 25 = .ok (.iload_n 3, 1) := by decide +kernel
theorem dX12_head_26 : decode cX12_head 26 = .ok (.ifCond .eq 16, 3) := by decide +kernel
theorem dX12_head_29 : decode cX12_head 29 = .ok (.aload_n 0, 1) := by decide +kernel
theorem dX12_head_30 : decode cX12_head 30 = .ok (.getfield 29, 3) := by decide +kernel
theorem dX12_head_33 : decode cX12_head 33 = .ok (.iload_n 1, 1) := by decide +kernel
theorem dX12_head_34 : decode cX12_head 34 = .ok (.iaload, 1) := by decide +kernel
theorem dX12_head_35 : decode cX12_head 35 = .ok (.iconst 1, 1) := by decide +kernel
theorem dX12_head_36 : decode cX12_head 36 = .ok (.iload_n 2, 1) := by decide +kernel
theorem dX12_head_37 : decode cX12_head 37 = .ok (.ishl, 1) := by decide +kernel
theorem dX12_head_38 : decode cX12_head 38 = .ok (.ior, 1) := by decide +kernel
theorem dX12_head_39 : decode cX12_head 39 = .ok (.goto 15, 3) := by decide +kernel
theorem dX12_head_42 : decode cX12_head 42 = .ok (.aload_n 0, 1) := by decide +kernel
theorem dX12_head_43 : decode cX12_head 43 = .ok (.getfield 29, 3) := by decide +kernel
theorem dX12_head_46 : decode cX12_head 46 = .ok (.iload_n 1, 1) := by decide +kernel
theorem dX12_head_47 : decode cX12_head 47 = .ok (.iaload, 1) := by decide +kernel
theorem dX12_head_48 : decode cX12_head 48 = .ok (.iconst 1, 1) := by decide +kernel
theorem dX12_head_49 : decode cX12_head 49 = .ok (.iload_n 2, 1) := by decide +kernel
theorem dX12_head_5 : decode cX12_head 5 = .ok (.aload_n 0, 1) := by decide +kernel
theorem dX12_head_50 : decode cX12_head 50 = .ok (.ishl, 1) := by decide +kernel
theorem dX12_head_51 : decode cX12_head 51 = .ok (.iconst (-1), 1) := by decide +kernel
theorem dX12_head_52 : decode cX12_head 52 = .ok (.ixor, 1) := by decide +kernel
theorem dX12_head_53 : decode cX12_head 53 = .ok (.iand, 1) := by decide +kernel
theorem dX12_head_54 : decode cX12_head 54 = .ok (.istore 4, 2) := by decide +kernel
theorem dX12_head_56 : decode cX12_head 56 = .ok (.iload 4, 2) := by decide +kernel
theorem dX12_head_58 : decode cX12_head 58 = .ok (.ifCond .ne 5, 3) := by decide +kernel
theorem dX12_head_6 : decode cX12_head 6 = .ok (.iload_n 1, 1) := by decide +kernel
theorem dX12_head_61 : decode cX12_head 61 = .ok (.iconst (-1), 1) := by decide +kernel
theorem dX12_head_62 : decode cX12_head 62 = .ok (.ireturn, 1) := by decide +kernel
theorem dX12_head_63 : decode cX12_head 63 = .ok (.aload_n 0, 1) := by decide +kernel
theorem dX12_head_64 : decode cX12_head 64 = .ok (.getfield 29, 3) := by decide +kernel
theorem dX12_head_67 : decode cX12_head 67 = .ok (.iload_n 1, 1) := by decide +kernel
theorem dX12_head_68 : decode cX12_head 68 = .ok (.iload 4, 2) := by decide +kernel
theorem dX12_head_7 : decode cX12_head 7 = .ok (.invokevirtual 168, 3) := by decide +kernel
theorem dX12_head_70 : decode cX12_head 70 = .ok (.iastore, 1) := by decide +kernel
theorem dX12_head_71 : decode cX12_head 71 = .ok (.iload 4, 2) := by decide +kernel
theorem dX12_head_73 : decode cX12_head 73 = .ok (.invokestatic 171, 3) := by decide +kernel
theorem dX12_head_76 : decode cX12_head 76 = .ok (.ireturn, 1) := by decide +kernel
theorem dX12_lastSpeed_0 : decode cX12_lastSpeed 0 = .ok (.aload_n 0, 1) := by decide +kernel
theorem dX12_lastSpeed_1 : decode cX12_lastSpeed 1 = .ok (.getfield 41, 3) := by decide +kernel
theorem dX12_lastSpeed_10 : decode cX12_lastSpeed 10 = .ok (.goto 21, 3) := by decide +kernel
theorem dX12_lastSpeed_13 : decode cX12_lastSpeed 13 = .ok (.aload_n 0, 1) := by decide +kernel
theorem dX12_lastSpeed_14 : decode cX12_lastSpeed 14 = .ok (.getfield 38, 3) := by decide +kernel
theorem dX12_lastSpeed_17 : decode cX12_lastSpeed 17 = .ok (.bipush 12, 2) := by decide +kernel
theorem dX12_lastSpeed_19 : decode cX12_lastSpeed 19 = .ok (.iload_n 1, 1) := by decide +kernel
theorem dX12_lastSpeed_20 : decode cX12_lastSpeed 20 = .ok (.imul, 1) := by decide +kernel
theorem dX12_lastSpeed_21 : decode cX12_lastSpeed 21 = .ok (.aload_n 0, 1) := by decide +kernel
theorem dX12_lastSpeed_22 : decode cX12_lastSpeed 22 = .ok (.getfield 41, 3) := by decide +kernel
theorem dX12_lastSpeed_25 : decode cX12_lastSpeed 25 = .ok (.iload_n 1, 1) := by decide +kernel
theorem dX12_lastSpeed_26 : decode cX12_lastSpeed 26 = .ok (.iaload, 1) := by decide +kernel
theorem dX12_lastSpeed_27 : decode cX12_lastSpeed 27 = .ok (.iadd, 1) := by decide +kernel
theorem dX12_lastSpeed_28 : decode cX12_lastSpeed 28 = .ok (.iconst 1, 1) := by decide +kernel
theorem dX12_lastSpeed_29 : decode cX12_lastSpeed 29 = .ok (.isub, 1) := by decide +kernel
theorem dX12_lastSpeed_30 : decode cX12_lastSpeed 30 = .ok (.iaload, 1) := by decide +kernel
theorem dX12_lastSpeed_31 : decode cX12_lastSpeed 31 = .ok (.ireturn, 1) := by decide +kernel
theorem dX12_lastSpeed_4 : decode cX12_lastSpeed 4 = .ok (.iload_n 1, 1) := by decide +kernel
theorem dX12_lastSpeed_5 : decode cX12_lastSpeed 5 = .ok (.iaload, 1) := by decide +kernel
theorem dX12_lastSpeed_6 : decode cX12_lastSpeed 6 = .ok (.ifCond .ne 7, 3) := by decide +kernel
theorem dX12_lastSpeed_9 : decode cX12_lastSpeed 9 = .ok (.iconst 1, 1) := by decide +kernel
theorem dX12_motor_0 : decode cX12_motor 0 = .ok (.aload_n 0, 1) := by decide +kernel
theorem dX12_motor_1 : decode cX12_motor 1 = .ok (.iconst 0, 1) := by decide +kernel
theorem dX12_motor_101 : decode cX12_motor 101 = .ok (.bipush 12, 2) := by decide +kernel
theorem dX12_motor_103 : decode cX12_motor 103 = .ok (.if_icmp .ne 5, 3) := by decide +kernel
theorem dX12_motor_106 : decode cX12_motor 106 = .ok (.iconst 0, 1) := by decide +kernel
theorem dX12_motor_107 : decode cX12_motor 107 = .ok (.ireturn, 1) := by decide +kernel
theorem dX12_motor_108 : decode cX12_motor 108 = .ok (.iload 4, 2) := by decide +kernel
theorem dX12_motor_110 : decode cX12_motor 110 = .ok (.istore 6, 2) := by decide +kernel
theorem dX12_motor_112 : decode cX12_motor 112 = .ok (.iload 6, 2) := by decide +kernel
theorem dX12_motor_114 : decode cX12_motor 114 = .ok (.iload 5, 2) := by decide +kernel
theorem dX12_motor_116 : decode cX12_motor 116 = .ok (.if_icmp .le 61, 3) := by decide +kernel
theorem dX12_motor_119 : decode cX12_motor 119 = .ok (.aload_n 0, 1) := by decide +kernel
theorem dX12_motor_12 : decode cX12_motor 12 = .ok (.iload_n 2, 1) := by decide +kernel
theorem dX12_motor_120 : decode cX12_motor 120 = .ok (.getfield 35, 3) := by decide +kernel
theorem dX12_motor_123 : decode cX12_motor 123 = .ok (.bipush 12, 2) := by decide +kernel
theorem dX12_motor_125 : decode cX12_motor 125 = .ok (.iload_n 1, 1) := by decide +kernel
theorem dX12_motor_126 : decode cX12_motor 126 = .ok (.imul, 1) := by decide +kernel
theorem dX12_motor_127 : decode cX12_motor 127 = .ok (.iload 6, 2) := by decide +kernel
theorem dX12_motor_129 : decode cX12_motor 129 = .ok (.iadd, 1) := by decide +kernel
theorem dX12_motor_13 : decode cX12_motor 13 = .ok (.iconst 0, 1) := by decide +kernel
theorem dX12_motor_130 : decode cX12_motor 130 = .ok (.aload_n 0, 1) := by decide +kernel
theorem dX12_motor_131 : decode cX12_motor 131 = .ok (.getfield 35, 3) := by decide +kernel
theorem dX12_motor_134 : decode cX12_motor 134 = .ok (.bipush 12, 2) := by decide +kernel
theorem dX12_motor_136 : decode cX12_motor 136 = .ok (.iload_n 1, 1) := by decide +kernel
theorem dX12_motor_137 : decode cX12_motor 137 = .ok (.imul, 1) := by decide +kernel
theorem dX12_motor_138 : decode cX12_motor 138 = .ok (.iload 6, 2) := by decide +kernel
theorem dX12_motor_14 : decode cX12_motor 14 = .ok (.sipush 5000, 3) := by decide +kernel
theorem dX12_motor_140 : decode cX12_motor 140 = .ok (.iadd, 1) := by decide +kernel
theorem dX12_motor_141 : decode cX12_motor 141 = .ok (.iconst 1, 1) := by decide +kernel
theorem dX12_motor_142 : decode cX12_motor 142 = .ok (.isub, 1) := by decide +kernel
theorem dX12_motor_143 : decode cX12_motor 143 = .ok (.iaload, 1) := by decide +kernel
theorem dX12_motor_144 : decode cX12_motor 144 = .ok (.iastore, 1) := by decide +kernel
theorem dX12_motor_145 : decode cX12_motor 145 = .ok (.aload_n 0, 1) := by decide +kernel
theorem dX12_motor_146 : decode cX12_motor 146 = .ok (.getfield 38, 3) := by decide +kernel
theorem dX12_motor_149 : decode cX12_motor 149 = .ok (.bipush 12, 2) := by decide +kernel
theorem dX12_motor_151 : decode cX12_motor 151 = .ok (.iload_n 1, 1) := by decide +kernel
theorem dX12_motor_152 : decode cX12_motor 152 = .ok (.imul, 1) := by decide +kernel
theorem dX12_motor_153 : decode cX12_motor 153 = .ok (.iload 6, 2) := by decide +kernel
theorem dX12_motor_155 : decode cX12_motor 155 = .ok (.iadd, 1) := by decide +kernel
theorem dX12_motor_156 : decode cX12_motor 156 = .ok (.aload_n 0, 1) := by decide +kernel
theorem dX12_motor_157 : decode cX12_motor 157 = .ok (.getfield 38, 3) := by decide +kernel
theorem dX12_motor_160 : decode cX12_motor 160 = .ok (.bipush 12, 2) := by decide +kernel
theorem dX12_motor_162 : decode cX12_motor 162 = .ok (.iload_n 1, 1) := by decide +kernel
theorem dX12_motor_163 : decode cX12_motor 163 = .ok (.imul, 1) := by decide +kernel
theorem dX12_motor_164 : decode cX12_motor 164 = .ok (.iload 6, 2) := by decide +kernel
theorem dX12_motor_166 : decode cX12_motor 166 = .ok (.iadd, 1) := by decide +kernel
theorem dX12_motor_167 : decode cX12_motor 167 = .ok (.iconst 1, 1) := by decide +kernel
theorem dX12_motor_168 : decode cX12_motor 168 = .ok (.isub, 1) := by decide +kernel
theorem dX12_motor_169 : decode cX12_motor 169 = .ok (.iaload, 1) := by decide +kernel
theorem dX12_motor_17 : decode cX12_motor 17 = .ok (.invokestatic 124, 3) := by decide +kernel
theorem dX12_motor_170 : decode cX12_motor 170 = .ok (.iastore, 1) := by decide +kernel
theorem dX12_motor_171 : decode cX12_motor 171 = .ok (.iinc 6 (-1), 3) := by decide +kernel
theorem dX12_motor_174 : decode cX12_motor 174 = .ok (.goto (-62), 3) := by decide +kernel
theorem dX12_motor_177 : decode cX12_motor 177 = .ok (.aload_n 0, 1) := by decide +kernel
theorem dX12_motor_178 : decode cX12_motor 178 = .ok (.getfield 41, 3) := by decide +kernel
theorem dX12_motor_181 : decode cX12_motor 181 = .ok (.iload_n 1, 1) := by decide +kernel
theorem dX12_motor_182 : decode cX12_motor 182 = .ok (.dup2, 1) := by decide +kernel
theorem dX12_motor_183 : decode cX12_motor 183 = .ok (.iaload, 1) := by decide +kernel
theorem dX12_motor_184 : decode cX12_motor 184 = .ok (.iconst 1, 1) := by decide +kernel
theorem dX12_motor_185 : decode cX12_motor 185 = .ok (.iadd, 1) := by decide +kernel
theorem dX12_motor_186 : decode cX12_motor 186 = .ok (.iastore, 1) := by decide +kernel
theorem dX12_motor_187 : decode cX12_motor 187 = .ok (.aload_n 0, 1) := by decide +kernel
theorem dX12_motor_188 : decode cX12_motor 188 = .ok (.getfield 35, 3) := by decide +kernel
theorem dX12_motor_191 : decode cX12_motor 191 = .ok (.bipush 12, 2) := by decide +kernel
theorem dX12_motor_193 : decode cX12_motor 193 = .ok (.iload_n 1, 1) := by decide +kernel
theorem dX12_motor_194 : decode cX12_motor 194 = .ok (.imul, 1) := by decide +kernel
theorem dX12_motor_195 : decode cX12_motor 195 = .ok (.iload 5, 2) := by decide +kernel
theorem dX12_motor_197 : decode cX12_motor 197 = .ok (.iadd, 1) := by decide +kernel
theorem dX12_motor_198 : decode cX12_motor 198 = .ok (.iload_n 2, 1) := by decide +kernel
theorem dX12_motor_199 : decode cX12_motor 199 = .ok (.iastore, 1) := by decide +kernel
theorem dX12_motor_2 : decode cX12_motor 2 = .ok (.putfield 118, 3) := by decide +kernel
theorem dX12_motor_20 : decode cX12_motor 20 = .ok (.ifCond .eq 14, 3) := by decide +kernel
theorem dX12_motor_200 : decode cX12_motor 200 = .ok (.aload_n 0, 1) := by decide +kernel
theorem dX12_motor_201 : decode cX12_motor 201 = .ok (.getfield 38, 3) := by decide +kernel
theorem dX12_motor_204 : decode cX12_motor 204 = .ok (.bipush 12, 2) := by decide +kernel
theorem dX12_motor_206 : decode cX12_motor 206 = .ok (.iload_n 1, 1) := by decide +kernel
theorem dX12_motor_207 : decode cX12_motor 207 = .ok (.imul, 1) := by decide +kernel
theorem dX12_motor_208 : decode cX12_motor 208 = .ok (.iload 5, 2) := by decide +kernel
theorem dX12_motor_210 : decode cX12_motor 210 = .ok (.iadd, 1) := by decide +kernel
theorem dX12_motor_211 : decode cX12_motor 211 = .ok (.iload_n 3, 1) := by decide +kernel
theorem dX12_motor_212 : decode cX12_motor 212 = .ok (.iastore, 1) := by decide +kernel
theorem dX12_motor_213 : decode cX12_motor 213 = .ok (.iconst 1, 1) := by decide +kernel
theorem dX12_motor_214 : decode cX12_motor 214 = .ok (.ireturn, 1) := by decide +kernel
theorem dX12_motor_23 : decode cX12_motor 23 = .ok (.iload_n 3, 1) := by decide +kernel
theorem dX12_motor_24 : decode cX12_motor 24 = .ok (.bipush (-9), 2) := by decide +kernel
theorem dX12_motor_26 : decode cX12_motor 26 = .ok (.bipush 9, 2) := by decide +kernel
theorem dX12_motor_28 : decode cX12_motor 28 = .ok (.invokestatic 124, 3) := by decide +kernel
theorem dX12_motor_31 : decode cX12_motor 31 = .ok (.ifCond .ne 5, 3) := by decide +kernel
theorem dX12_motor_34 : decode cX12_motor 34 = .ok (.iconst 0, 1) := by decide +kernel
theorem dX12_motor_35 : decode cX12_motor 35 = .ok (.ireturn, 1) := by decide +kernel
theorem dX12_motor_36 : decode cX12_motor 36 = .ok (.aload_n 0, 1) := by decide +kernel
theorem dX12_motor_37 : decode cX12_motor 37 = .ok (.getfield 41, 3) := by decide +kernel
theorem dX12_motor_40 : decode cX12_motor 40 = .ok (.iload_n 1, 1) := by decide +kernel
theorem dX12_motor_41 : decode cX12_motor 41 = .ok (.iaload, 1) := by decide +kernel
theorem dX12_motor_42 : decode cX12_motor 42 = .ok (.istore 4, 2) := by decide +kernel
theorem dX12_motor_44 : decode cX12_motor 44 = .ok (.iconst 0, 1) := by decide +kernel
theorem dX12_motor_45 : decode cX12_motor 45 = .ok (.istore 5, 2) := by decide +kernel
theorem dX12_motor_47 : decode cX12_motor 47 = .ok (.iload 5, 2) := by decide +kernel
theorem dX12_motor_49 : decode cX12_motor 49 = .ok (.iload 4, 2) := by decide +kernel
theorem dX12_motor_5 : decode cX12_motor 5 = .ok (.iload_n 1, 1) := by decide +kernel
theorem dX12_motor_51 : decode cX12_motor 51 = .ok (.if_icmp .ge 25, 3) := by decide +kernel
theorem dX12_motor_54 : decode cX12_motor 54 = .ok (.aload_n 0, 1) := by decide +kernel
theorem dX12_motor_55 : decode cX12_motor 55 = .ok (.getfield 35, 3) := by decide +kernel
theorem dX12_motor_58 : decode cX12_motor 58 = .ok (.bipush 12, 2) := by decide +kernel
theorem dX12_motor_6 : decode cX12_motor 6 = .ok (.invokestatic 165, 3) := by decide +kernel
theorem dX12_motor_60 : decode cX12_motor 60 = .ok (.iload_n 1, 1) := by decide +kernel
theorem dX12_motor_61 : decode cX12_motor 61 = .ok (.imul, 1) := by decide +kernel
theorem dX12_motor_62 : decode cX12_motor 62 = .ok (.iload 5, 2) := by decide +kernel
theorem dX12_motor_64 : decode cX12_motor 64 = .ok (.iadd, 1) := by decide +kernel
theorem dX12_motor_65 : decode cX12_motor 65 = .ok (.iaload, 1) := by decide +kernel
theorem dX12_motor_66 : decode cX12_motor 66 = .ok (.iload_n 2, 1) := by decide +kernel
theorem dX12_motor_67 : decode cX12_motor 67 = .ok (.if_icmp .ge 9, 3) := by decide +kernel
theorem dX12_motor_70 : decode cX12_motor 70 = .ok (.iinc 5 1, 3) := by decide +kernel
theorem dX12_motor_73 : decode cX12_motor 73 = .ok (.goto (-26), 3) := by decide +kernel
theorem dX12_motor_76 : decode cX12_motor 76 = .ok (.iload 5, 2) := by decide +kernel
theorem dX12_motor_78 : decode cX12_motor 78 = .ok (.iload 4, 2) := by decide +kernel
theorem dX12_motor_80 : decode cX12_motor 80 = .ok (.if_icmp .eq 19, 3) := by decide +kernel
theorem dX12_motor_83 : decode cX12_motor 83 = .ok (.aload_n 0, 1) := by decide +kernel
theorem dX12_motor_84 : decode cX12_motor 84 = .ok (.getfield 35, 3) := by decide +kernel
theorem dX12_motor_87 : decode cX12_motor 87 = .ok (.bipush 12, 2) := by decide +kernel
theorem dX12_motor_89 : decode cX12_motor 89 = .ok (.iload_n 1, 1) := by decide +kernel
theorem dX12_motor_9 : decode cX12_motor 9 = .ok (.ifCond .eq 25, 3) := by decide +kernel
theorem dX12_motor_90 : decode cX12_motor 90 = .ok (.imul, 1) := by decide +kernel
theorem dX12_motor_91 : decode cX12_motor 91 = .ok (.iload 5, 2) := by decide +kernel
theorem dX12_motor_93 : decode cX12_motor 93 = .ok (.iadd, 1) := by decide +kernel
theorem dX12_motor_94 : decode cX12_motor 94 = .ok (.iaload, 1) := by decide +kernel
theorem dX12_motor_95 : decode cX12_motor 95 = .ok (.iload_n 2, 1) := by decide +kernel
theorem dX12_motor_96 : decode cX12_motor 96 = .ok (.if_icmp .eq 91, 3) := by decide +kernel
theorem dX12_motor_99 : decode cX12_motor 99 = .ok (.iload 4, 2) := by decide +kernel
theorem dX12_of_0 : decode cX12_of 0 = .ok (.aload_n 0, 1) := by decide +kernel
theorem dX12_of_1 : decode cX12_of 1 = .ok (.iconst 0, 1) := by decide +kernel
theorem dX12_of_10 : decode cX12_of 10 = .ok (.ifCond .eq 12, 3) := by decide +kernel
theorem dX12_of_102 : decode cX12_of 102 = .ok (.iload_n 1, 1) := by decide +kernel
theorem dX12_of_103 : decode cX12_of 103 = .ok (.iaload, 1) := by decide +kernel
theorem dX12_of_104 : decode cX12_of 104 = .ok (.ireturn, 1) := by decide +kernel
theorem dX12_of_13 : decode cX12_of 13 = .ok (.iload_n 2, 1) := by decide +kernel
theorem dX12_of_14 : decode cX12_of 14 = .ok (.iconst 0, 1) := by decide +kernel
theorem dX12_of_15 : decode cX12_of 15 = .ok (.iconst 5, 1) := by decide +kernel
theorem dX12_of_16 : decode cX12_of 16 = .ok (.invokestatic 124, 3) := by decide +kernel
theorem dX12_of_19 : decode cX12_of 19 = .ok (.ifCond .ne 10, 3) := by decide +kernel
theorem dX12_of_2 : decode cX12_of 2 = .ok (.putfield 118, 3) := by decide +kernel
theorem dX12_of_22 : decode cX12_of 22 = .ok (.aload_n 0, 1) := by decide +kernel
theorem dX12_of_23 : decode cX12_of 23 = .ok (.iconst 1, 1) := by decide +kernel
theorem dX12_of_24 : decode cX12_of 24 = .ok (.putfield 118, 3) := by decide +kernel
theorem dX12_of_27 : decode cX12_of 27 = .ok (.iconst 0, 1) := by decide +kernel
theorem dX12_of_28 : decode cX12_of 28 = .ok (.ireturn, 1) := by decide +kernel
theorem dX12_of_29 : decode cX12_of 29 = .ok (.iload_n 2, 1) := by decide +kernel
theorem dX12_of_30 : decode cX12_of 30 = .ok (.tableswitch 68 0 4 #[34, 41, 48, 55, 62], 34) := by decide +kernel
theorem dX12_of_5 : decode cX12_of 5 = .ok (.aload_n 0, 1) := by decide +kernel
theorem dX12_of_6 : decode cX12_of 6 = .ok (.iload_n 1, 1) := by decide +kernel
theorem dX12_of_64 : decode cX12_of 64 = .ok (.aload_n 0, 1) := by decide +kernel
theorem dX12_of_65 : decode cX12_of 65 = .ok (.getfield 20, 3) := by decide +kernel
theorem dX12_of_68 : decode cX12_of 68 = .ok (.iload_n 1, 1) := by decide +kernel
theorem dX12_of_69 : decode cX12_of 69 = .ok (.iaload, 1) := by decide +kernel
theorem dX12_of_7 : decode cX12_of 7 = .ok (.invokevirtual 168, 3) := by decide +kernel
theorem dX12_of_70 : decode cX12_of 70 = .ok (.ireturn, 1) := by decide +kernel
theorem dX12_of_71 : decode cX12_of 71 = .ok (.aload_n 0, 1) := by decide +kernel
theorem dX12_of_72 : decode cX12_of 72 = .ok (.getfield 23, 3) := by decide +kernel
theorem dX12_of_75 : decode cX12_of 75 = .ok (.iload_n 1, 1) := by decide +kernel
theorem dX12_of_76 : decode cX12_of 76 = .ok (.iaload, 1) := by decide +kernel
theorem dX12_of_77 : decode cX12_of 77 = .ok (.ireturn, 1) := by decide +kernel
theorem dX12_of_78 : decode cX12_of 78 = .ok (.aload_n 0, 1) := by decide +kernel
theorem dX12_of_79 : decode cX12_of 79 = .ok (.getfield 26, 3) := by decide +kernel
theorem dX12_of_82 : decode cX12_of 82 = .ok (.iload_n 1, 1) := by decide +kernel
theorem dX12_of_83 : decode cX12_of 83 = .ok (.iaload, 1) := by decide +kernel
theorem dX12_of_84 : decode cX12_of 84 = .ok (.ireturn, 1) := by decide +kernel
theorem dX12_of_85 : decode cX12_of 85 = .ok (.aload_n 0, 1) := by decide +kernel
theorem dX12_of_86 : decode cX12_of 86 = .ok (.getfield 29, 3) := by decide +kernel
theorem dX12_of_89 : decode cX12_of 89 = .ok (.iload_n 1, 1) := by decide +kernel
theorem dX12_of_90 : decode cX12_of 90 = .ok (.iaload, 1) := by decide +kernel
theorem dX12_of_91 : decode cX12_of 91 = .ok (.ireturn, 1) := by decide +kernel
theorem dX12_of_92 : decode cX12_of 92 = .ok (.aload_n 0, 1) := by decide +kernel
theorem dX12_of_93 : decode cX12_of 93 = .ok (.iload_n 1, 1) := by decide +kernel
theorem dX12_of_94 : decode cX12_of 94 = .ok (.invokevirtual 203, 3) := by decide +kernel
theorem dX12_of_97 : decode cX12_of 97 = .ok (.ireturn, 1) := by decide +kernel
theorem dX12_of_98 : decode cX12_of 98 = .ok (.aload_n 0, 1) := by decide +kernel
theorem dX12_of_99 : decode cX12_of 99 = .ok (.getfield 32, 3) := by decide +kernel
theorem dX12_round_0 : decode cX12_round 0 = .ok (.aload_n 0, 1) := by decide +kernel
theorem dX12_round_1 : decode cX12_round 1 = .ok (.getfield 20, 3) := by decide +kernel
theorem dX12_round_10 : decode cX12_round 10 = .ok (.iload_n 1, 1) := by decide +kernel
theorem dX12_round_11 : decode cX12_round 11 = .ok (.iaload, 1) := by decide +kernel
theorem dX12_round_12 : decode cX12_round 12 = .ok (.aload_n 0, 1) := by decide +kernel
theorem dX12_round_13 : decode cX12_round 13 = .ok (.aload_n 0, 1) := by decide +kernel
theorem dX12_round_14 : decode cX12_round 14 = .ok (.getfield 23, 3) := by decide +kernel
theorem dX12_round_17 : decode cX12_round 17 = .ok (.iload_n 1, 1) := by decide +kernel
theorem dX12_round_18 : decode cX12_round 18 = .ok (.iaload, 1) := by decide +kernel
theorem dX12_round_19 : decode cX12_round 19 = .ok (.invokevirtual 195, 3) := by decide +kernel
theorem dX12_round_22 : decode cX12_round 22 = .ok (.invokestatic 198, 3) := by decide +kernel
theorem dX12_round_25 : decode cX12_round 25 = .ok (.invokestatic 191, 3) := by decide +kernel
theorem dX12_round_28 : decode cX12_round 28 = .ok (.idiv, 1) := by decide +kernel
theorem dX12_round_29 : decode cX12_round 29 = .ok (.ireturn, 1) := by decide +kernel
theorem dX12_round_4 : decode cX12_round 4 = .ok (.iload_n 1, 1) := by decide +kernel
theorem dX12_round_5 : decode cX12_round 5 = .ok (.iaload, 1) := by decide +kernel
theorem dX12_round_6 : decode cX12_round 6 = .ok (.aload_n 0, 1) := by decide +kernel
theorem dX12_round_7 : decode cX12_round 7 = .ok (.getfield 20, 3) := by decide +kernel
theorem dX12_steady_0 : decode cX12_steady 0 = .ok (.aload_n 0, 1) := by decide +kernel
theorem dX12_steady_1 : decode cX12_steady 1 = .ok (.getfield 41, 3) := by decide +kernel
theorem dX12_steady_10 : decode cX12_steady 10 = .ok (.goto 21, 3) := by decide +kernel
theorem dX12_steady_13 : decode cX12_steady 13 = .ok (.aload_n 0, 1) := by decide +kernel
theorem dX12_steady_14 : decode cX12_steady 14 = .ok (.getfield 35, 3) := by decide +kernel
theorem dX12_steady_17 : decode cX12_steady 17 = .ok (.bipush 12, 2) := by decide +kernel
theorem dX12_steady_19 : decode cX12_steady 19 = .ok (.iload_n 1, 1) := by decide +kernel
theorem dX12_steady_20 : decode cX12_steady 20 = .ok (.imul, 1) := by decide +kernel
theorem dX12_steady_21 : decode cX12_steady 21 = .ok (.aload_n 0, 1) := by decide +kernel
theorem dX12_steady_22 : decode cX12_steady 22 = .ok (.getfield 41, 3) := by decide +kernel
theorem dX12_steady_25 : decode cX12_steady 25 = .ok (.iload_n 1, 1) := by decide +kernel
theorem dX12_steady_26 : decode cX12_steady 26 = .ok (.iaload, 1) := by decide +kernel
theorem dX12_steady_27 : decode cX12_steady 27 = .ok (.iadd, 1) := by decide +kernel
theorem dX12_steady_28 : decode cX12_steady 28 = .ok (.iconst 1, 1) := by decide +kernel
theorem dX12_steady_29 : decode cX12_steady 29 = .ok (.isub, 1) := by decide +kernel
theorem dX12_steady_30 : decode cX12_steady 30 = .ok (.iaload, 1) := by decide +kernel
theorem dX12_steady_31 : decode cX12_steady 31 = .ok (.ireturn, 1) := by decide +kernel
theorem dX12_steady_4 : decode cX12_steady 4 = .ok (.iload_n 1, 1) := by decide +kernel
theorem dX12_steady_5 : decode cX12_steady 5 = .ok (.iaload, 1) := by decide +kernel
theorem dX12_steady_6 : decode cX12_steady 6 = .ok (.ifCond .ne 7, 3) := by decide +kernel
theorem dX12_steady_9 : decode cX12_steady 9 = .ok (.iconst 0, 1) := by decide +kernel
theorem dm_X12_common : yX12_common.cls = RX12 ∧ yX12_common.cls ≠ "java/lang/invoke/MethodHandle" ∧ yX12_common.cls ≠ "java/lang/invoke/VarHandle" ∧ (parseMethodDescriptor yX12_common.desc).map (fun d => d.parameters.length) = some 2 := by decide +kernel
theorem dm_X12_lastSpeed : yX12_lastSpeed.cls = RX12 ∧ yX12_lastSpeed.cls ≠ "java/lang/invoke/MethodHandle" ∧ yX12_lastSpeed.cls ≠ "java/lang/invoke/VarHandle" ∧ (parseMethodDescriptor yX12_lastSpeed.desc).map (fun d => d.parameters.length) = some 1 := by decide +kernel
theorem dm_X12_round : yX12_round.cls = RX12 ∧ yX12_round.cls ≠ "java/lang/invoke/MethodHandle" ∧ yX12_round.cls ≠ "java/lang/invoke/VarHandle" ∧ (parseMethodDescriptor yX12_round.desc).map (fun d => d.parameters.length) = some 1 := by decide +kernel
theorem tb_0_4 (x : Int) (h0 : x ≠ 0) (h1 : x ≠ 1) (h2 : x ≠ 2) (h3 : x ≠ 3) (h4 : x ≠ 4) : x < 0 ∨ 4 < x := by omega
set_option maxRecDepth 100000 in
def wR_head (a0 : Int) (a1 : Int) (a2 : Int) (M : zM) (Q : Int → zM → Prop) : Prop := (∀ M1 : zM, M1 = zup M 0 35 0 → wR_isRing a0 M1 (fun z4 => (z4 = 0 → Q (-1) M1) ∧ (z4 ≠ 0 → wR_in a1 0 23 M1 (fun z9 => (z9 ≠ 0 → pJ1 (fun J54 => ((sI a2) = 0 → ((0 ≤ (sI a0) ∧ (sI a0) < 4) ∧ J54 (andI (M1 7 (sI a0).toNat) (xorI (shlI 1 a1) (-1))))) ∧ ((sI a2) ≠ 0 → ((0 ≤ (sI a0) ∧ (sI a0) < 4) ∧ J54 (orI (M1 7 (sI a0).toNat) (shlI 1 a1))))) (fun (x16 : Int) => ((sI x16) ≠ 0 → ((0 ≤ (sI a0) ∧ (sI a0) < 4) ∧ (∀ M21 : zM, M21 = zup M1 7 (sI a0).toNat x16 → wR_bitCount x16 M21 (fun z24 => Q z24 M21)))) ∧ ((sI x16) = 0 → Q (-1) M1))) ∧ (z9 = 0 → Q (-1) M1)))))
set_option maxHeartbeats 4000000 in
set_option maxRecDepth 100000 in
theorem cR_head (l : Launch) (D : va_G) (dA : Nat → ClassId) (b : Nat) (M : zM) (a0 : Int) (a1 : Int) (a2 : Int)  (Q : Int → zM → Prop) (h : wR_head a0 a1 a2 M Q) : Met l yX12_head (.code yX12_head cX12_head 5 (some .int) :: zt) (z_rm 2) (va_Pc [.ref (b + 0), .int (iI a0), .int (iI a1), .int (iI a2)] (wPre D dA vwCl (z_tys dA) wR nR b M)) (va_Qi (wQi Q) (zB D dA vwCl wR nR b) (zA nR b)) 0 0 (zA nR b) := by
  unfold wR_head at h
  refine Met.ofW (cc := cX12_head) (maxL := 5) (ret := (some .int)) (by decide) rfl ?_
  intro p e s m args below meth c s₁ B hml hv
  obtain ⟨hargs, hS, hK⟩ := hv
  have hx := B.exec
  have hb := B.bytes
  have hr := B.returns
  have hts := atoms_spec (ws := .code yX12_head cX12_head 5 (some .int) :: zt) B.pre
  have hown : s.vm.findClass RX12 = some m.cls := findClass_of_methodNamed B.named
  have hlocks := B.notSynchronized
  have hS0 : va_S (zA nR b) s.heap s.heap [] := va_S.rf
  have hl := lv_entry ([.ref (b + 0), .int (iI a0), .int (iI a1), .int (iI a2)]) (n := 5) (Nat.le_of_ble_eq_true rfl)
  have hent : entryFrame m args 5 = F0 m 0 ((lg_sl ([.ref (b + 0), .int (iI a0), .int (iI a1), .int (iI a2)]) ++ List.replicate (5 - (lg_sl ([.ref (b + 0), .int (iI a0), .int (iI a1), .int (iI a2)])).length) Slot.unset).toArray) [] := by rw [hargs]; exact lg_entry_eq m ([.ref (b + 0), .int (iI a0), .int (iI a1), .int (iI a2)]) 5
  rw [hent]
  generalize (lg_sl ([.ref (b + 0), .int (iI a0), .int (iI a1), .int (iI a2)]) ++ List.replicate (5 - (lg_sl ([.ref (b + 0), .int (iI a0), .int (iI a1), .int (iI a2)])).length) Slot.unset).toArray = ls at hl ⊢
  have hl : lv_has ls 5 [(0, .ref (b + 0)), (1, .int (iI a0)), (2, .int (iI a1)), (3, .int (iI a2))] := hl
  refine lv_aload_n hx hb dX12_head_0 rfl (lv_at hl 0 rfl) ?_
  refine z_iconst hx hb dX12_head_1 ?_
  refine w_puti hx hb hts (z_memU u12) tyX12 tyX12_ok nmX12 hown hK.1 hS hS0 f12_35 (by decide) (zkd_of (rfl : zcd wR 0 = 50) rfl) (Or.inl (hts _ (z_mem k979))) rfl (z := 0) (by decide +kernel) dX12_head_2 (fun H locs hS hS0 => ?_)
  obtain ⟨M1, e2⟩ : ∃ M1 : zM, M1 = zup M 0 35 0 := ⟨_, rfl⟩
  rw [← e2] at hS
  have h := h M1 e2
  refine lv_aload_n hx hb dX12_head_5 rfl (lv_at hl 0 rfl) ?_
  refine lv_iload_n hx hb dX12_head_6 rfl (lv_at hl 1 rfl) ?_
  refine w_callz (va_runV (As := [.int (iI a0)]) (rest := []) ⟨hx, hb, hml, hown, hts⟩ (cR_isRing l D dA b M1 a0 _ h) (cwV 1 hts (z_gV k1097 k1098 k1397 k14 k1099) rfl rfl rfl dm_X12_isRing ⟨Nat.le_of_ble_eq_true rfl, Nat.le_of_ble_eq_true rfl⟩) ⟨wPre_blind, (w_recv hS hK.1 (by decide) (zkd_of (rfl : zcd wR 0 = 50) rfl) (by decide) (rfl : vwCl[12]? = some (RX12, TX12, 50))), w_pre hS hK⟩ rfl rfl hl.1 rfl (lv_room (Nat.le_of_ble_eq_true rfl)) dX12_head_7 ⟨Nat.le_refl _, Nat.le_refl _⟩) hS0 (fun z4 M3 H locs r5 h hS hS0 => ?_)
  obtain ⟨e6, h⟩ := h
  rw [e6] at hS
  refine w_if_eq (tgt := 23) hx hb (sI_01 r5) dX12_head_10 (by decide) (fun c7 => ?_) (fun c7 => ?_)
  · skip
    have h := h.1 c7
    refine z_iconst hx hb dX12_head_23 ?_
    exact w_iret hx hb hr hlocks hS hS0 (sI_of (by decide)) h dX12_head_24
  · skip
    have h := h.2 c7
    refine lv_iload_n hx hb dX12_head_13 rfl (lv_at hl 2 rfl) ?_
    refine z_iconst hx hb dX12_head_14 ?_
    refine z_bipush hx hb (by decide) dX12_head_15 ?_
    refine w_callz (va_runS (As := [.int (iI a1), .int (iI 0), .int (iI 23)]) (rest := []) ⟨hx, hb, hml, hown, hts⟩ (cR_in l D dA b M1 a1 0 23 _ h) (va_cwS 3 hts (z_gS k1083 k1084 k14 k1085) rfl rfl rfl dm_X12_in.2 ⟨Nat.le_of_ble_eq_true rfl, Nat.le_of_ble_eq_true rfl⟩) ⟨wPre_blind, w_pre hS hK⟩ rfl rfl hl.1 rfl (lv_room (Nat.le_of_ble_eq_true rfl)) dX12_head_17 ⟨Nat.le_refl _, Nat.le_refl _⟩) hS0 (fun z9 M8 H locs r10 h hS hS0 => ?_)
    obtain ⟨e11, h⟩ := h
    rw [e11] at hS
    refine w_if_ne (tgt := 25) hx hb (sI_01 r10) dX12_head_20 (by decide) (fun c12 => ?_) (fun c12 => ?_)
    · skip
      have h := h.1 c12
      refine lv_iload_n hx hb dX12_head_25 rfl (lv_at hl 3 rfl) ?_
      obtain ⟨J54, B18, h⟩ := h
      have L17 : ∀ (x16 : Int) (H : Heap) (locs : List Loc) (ls : Array Slot), J54 x16 → zR D dA vwCl wR nR b M1 H → va_S (zA nR b) s.heap H locs → lv_has ls 5 [(0, .ref (b + 0)), (1, .int (iI a0))] → W p l e (headSpec (.code yX12_head cX12_head 5 (some .int) :: zt) (z_rm 2)).room s m args below meth c H locs 0 0 (MQ below (va_Qi (wQi Q) (zB D dA vwCl wR nR b) (zA nR b)) args s 0 0 (zA nR b)) (F0 m 54 ls [.int (iI x16)]) := by
        intro x16 H locs ls h hS hS0 hl
        have h := B18 x16 h
        refine lv_istore (lv' := [(4, .int (iI x16)), (0, .ref (b + 0)), (1, .int (iI a0))]) hx hb dX12_head_54 hl (by decide) rfl (fun ls hl => ?_)
        refine lv_iload hx hb dX12_head_56 (lv_at hl 0 rfl) ?_
        refine w_if_ne (tgt := 63) hx hb rfl dX12_head_58 (by decide) (fun c19 => ?_) (fun c19 => ?_)
        · skip
          have h := h.1 c19
          refine lv_aload_n hx hb dX12_head_63 rfl (lv_at hl 1 rfl) ?_
          refine w_getr (j2 := 7) hx hb hts (z_memU u12) hown hK.1 hS f12_8 (by decide) (zkd_of (rfl : zcd wR 0 = 50) rfl) (zrf_of (rfl : zcd wR 0 = 50) rfl) (Or.inl (hts _ (z_mem k952))) dX12_head_64 ?_
          refine lv_iload_n hx hb dX12_head_67 rfl (lv_at hl 2 rfl) ?_
          refine lv_iload hx hb dX12_head_68 (lv_at hl 0 rfl) ?_
          obtain ⟨o20, h⟩ := h
          refine w_iast (z := x16) (n := 4) (i := (sI a0)) hx hb hK.1 (t0 := 0) rfl hS hS0 (by decide) (zkd_of (rfl : zcd wR 7 = 57) rfl) (zln_of (rfl : zcd wR 7 = 57) rfl) rfl o20.1 o20.2 (by decide) dX12_head_70 (fun H locs hS hS0 => ?_)
          obtain ⟨M21, e22⟩ : ∃ M21 : zM, M21 = zup M1 7 (sI a0).toNat x16 := ⟨_, rfl⟩
          rw [← e22] at hS
          have h := h M21 e22
          refine lv_iload hx hb dX12_head_71 (lv_at hl 0 rfl) ?_
          refine w_calli (va_runS (As := [.int (iI x16)]) (rest := []) ⟨hx, hb, hml, hown, hts⟩ (cR_bitCount l D dA b M21 x16 _ h) (va_cwS 1 hts (z_gS k1108 k433 k17 k434) rfl rfl rfl dm_J6_bitCount_0f7a4.2 ⟨Nat.le_of_ble_eq_true rfl, Nat.le_of_ble_eq_true rfl⟩) ⟨wPre_blind, w_pre hS hK⟩ rfl rfl hl.1 rfl (lv_room (Nat.le_of_ble_eq_true rfl)) dX12_head_73 ⟨Nat.le_refl _, Nat.le_refl _⟩) hS0 (fun z24 M23 H locs r25 h hS hS0 => ?_)
          obtain ⟨e26, h⟩ := h
          rw [e26] at hS
          exact w_iret hx hb hr hlocks hS hS0 (sI_of r25) h dX12_head_76
        · skip
          have h := h.2 c19
          refine z_iconst hx hb dX12_head_61 ?_
          exact w_iret hx hb hr hlocks hS hS0 (sI_of (by decide)) h dX12_head_62
      refine w_if_eq (tgt := 42) hx hb rfl dX12_head_26 (by decide) (fun c27 => ?_) (fun c27 => ?_)
      · skip
        have h := h.1 c27
        refine lv_aload_n hx hb dX12_head_42 rfl (lv_at hl 0 rfl) ?_
        refine w_getr (j2 := 7) hx hb hts (z_memU u12) hown hK.1 hS f12_8 (by decide) (zkd_of (rfl : zcd wR 0 = 50) rfl) (zrf_of (rfl : zcd wR 0 = 50) rfl) (Or.inl (hts _ (z_mem k952))) dX12_head_43 ?_
        refine lv_iload_n hx hb dX12_head_46 rfl (lv_at hl 1 rfl) ?_
        obtain ⟨o28, h⟩ := h
        refine w_iald (n := 4) (i := (sI a0)) hx hb hK.1 (t0 := 0) rfl hS (by decide) (zkd_of (rfl : zcd wR 7 = 57) rfl) (zln_of (rfl : zcd wR 7 = 57) rfl) rfl o28.1 o28.2 (by decide) dX12_head_47 ?_
        refine z_iconst hx hb dX12_head_48 ?_
        refine lv_iload_n hx hb dX12_head_49 rfl (lv_at hl 2 rfl) ?_
        refine w_ishl hx hb dX12_head_50 ?_
        refine z_iconst hx hb dX12_head_51 ?_
        refine w_ixor hx hb dX12_head_52 ?_
        refine w_iand hx hb dX12_head_53 ?_
        exact L17 (andI (M1 7 (sI a0).toNat) (xorI (shlI 1 a1) (-1))) _ _ _ h hS hS0 (lv_sub hl [0, 1] rfl)
      · skip
        have h := h.2 c27
        refine lv_aload_n hx hb dX12_head_29 rfl (lv_at hl 0 rfl) ?_
        refine w_getr (j2 := 7) hx hb hts (z_memU u12) hown hK.1 hS f12_8 (by decide) (zkd_of (rfl : zcd wR 0 = 50) rfl) (zrf_of (rfl : zcd wR 0 = 50) rfl) (Or.inl (hts _ (z_mem k952))) dX12_head_30 ?_
        refine lv_iload_n hx hb dX12_head_33 rfl (lv_at hl 1 rfl) ?_
        obtain ⟨o29, h⟩ := h
        refine w_iald (n := 4) (i := (sI a0)) hx hb hK.1 (t0 := 0) rfl hS (by decide) (zkd_of (rfl : zcd wR 7 = 57) rfl) (zln_of (rfl : zcd wR 7 = 57) rfl) rfl o29.1 o29.2 (by decide) dX12_head_34 ?_
        refine z_iconst hx hb dX12_head_35 ?_
        refine lv_iload_n hx hb dX12_head_36 rfl (lv_at hl 2 rfl) ?_
        refine w_ishl hx hb dX12_head_37 ?_
        refine w_ior hx hb dX12_head_38 ?_
        refine lv_goto (tgt := 54) hx hb dX12_head_39 (by decide) ?_
        exact L17 (orI (M1 7 (sI a0).toNat) (shlI 1 a1)) _ _ _ h hS hS0 (lv_sub hl [0, 1] rfl)
    · skip
      have h := h.2 c12
      refine z_iconst hx hb dX12_head_23 ?_
      exact w_iret hx hb hr hlocks hS hS0 (sI_of (by decide)) h dX12_head_24

set_option maxRecDepth 100000 in
def wR_motor (a0 : Int) (a1 : Int) (a2 : Int) (M : zM) (Q : Int → zM → Prop) : Prop := (∀ M1 : zM, M1 = zup M 0 35 0 → wR_isMotor a0 M1 (fun z4 => (z4 = 0 → Q 0 M1) ∧ (z4 ≠ 0 → wR_in a1 0 5000 M1 (fun z9 => (z9 = 0 → Q 0 M1) ∧ (z9 ≠ 0 → wR_in a2 (-9) 9 M1 (fun z14 => (z14 ≠ 0 → ((0 ≤ (sI a0) ∧ (sI a0) < 2) ∧ pL1 (fun K47 x19 => pJ0 (fun J76 => ((sI (M1 11 (sI a0).toNat)) ≤ (sI x19) → J76) ∧ ((sI x19) < (sI (M1 11 (sI a0).toNat)) → ((0 ≤ (sI ((12 * a0) + x19)) ∧ (sI ((12 * a0) + x19)) < 24) ∧ ((sI a1) ≤ (sI (M1 9 (sI ((12 * a0) + x19)).toNat)) → J76) ∧ ((sI (M1 9 (sI ((12 * a0) + x19)).toNat)) < (sI a1) → K47 (x19 + 1))))) (wJ0 (fun J187 => pJ0 (fun J99 => ((sI x19) = (sI (M1 11 (sI a0).toNat)) → J99) ∧ ((sI x19) ≠ (sI (M1 11 (sI a0).toNat)) → ((0 ≤ (sI ((12 * a0) + x19)) ∧ (sI ((12 * a0) + x19)) < 24) ∧ ((sI (M1 9 (sI ((12 * a0) + x19)).toNat)) = (sI a1) → J187 M1) ∧ ((sI (M1 9 (sI ((12 * a0) + x19)).toNat)) ≠ (sI a1) → J99)))) (((sI (M1 11 (sI a0).toNat)) ≠ 12 → wL1 (fun K112 x102 M103 => ((sI x102) ≤ (sI x19) → ((0 ≤ (sI a0) ∧ (sI a0) < 2) ∧ ((0 ≤ (sI a0) ∧ (sI a0) < 2) ∧ (∀ M114 : zM, M114 = zup M103 11 (sI a0).toNat ((M103 11 (sI a0).toNat) + 1) → J187 M114)))) ∧ ((sI x19) < (sI x102) → ((0 ≤ (sI (((12 * a0) + x102) - 1)) ∧ (sI (((12 * a0) + x102) - 1)) < 24) ∧ ((0 ≤ (sI ((12 * a0) + x102)) ∧ (sI ((12 * a0) + x102)) < 24) ∧ (∀ M118 : zM, M118 = zup M103 9 (sI ((12 * a0) + x102)).toNat (M103 9 (sI (((12 * a0) + x102) - 1)).toNat) → ((0 ≤ (sI (((12 * a0) + x102) - 1)) ∧ (sI (((12 * a0) + x102) - 1)) < 24) ∧ ((0 ≤ (sI ((12 * a0) + x102)) ∧ (sI ((12 * a0) + x102)) < 24) ∧ (∀ M122 : zM, M122 = zup M118 10 (sI ((12 * a0) + x102)).toNat (M118 10 (sI (((12 * a0) + x102) - 1)).toNat) → K112 (x102 + (-1)) M122)))))))) (M1 11 (sI a0).toNat) M1) ∧ ((sI (M1 11 (sI a0).toNat)) = 12 → Q 0 M1))) (fun (M87 : zM) => ((0 ≤ (sI ((12 * a0) + x19)) ∧ (sI ((12 * a0) + x19)) < 24) ∧ (∀ M91 : zM, M91 = zup M87 9 (sI ((12 * a0) + x19)).toNat a1 → ((0 ≤ (sI ((12 * a0) + x19)) ∧ (sI ((12 * a0) + x19)) < 24) ∧ (∀ M94 : zM, M94 = zup M91 10 (sI ((12 * a0) + x19)).toNat a2 → Q 1 M94))))))) 0)) ∧ (z14 = 0 → Q 0 M1)))))))
set_option maxHeartbeats 4000000 in
set_option maxRecDepth 100000 in
theorem cR_motor (l : Launch) (D : va_G) (dA : Nat → ClassId) (b : Nat) (M : zM) (a0 : Int) (a1 : Int) (a2 : Int)  (Q : Int → zM → Prop) (h : wR_motor a0 a1 a2 M Q) : Met l yX12_motor (.code yX12_motor cX12_motor 7 (some .boolean) :: zt) (z_rm 1) (va_Pc [.ref (b + 0), .int (iI a0), .int (iI a1), .int (iI a2)] (wPre D dA vwCl (z_tys dA) wR nR b M)) (va_Qi (wQz Q) (zB D dA vwCl wR nR b) (zA nR b)) 0 0 (zA nR b) := by
  unfold wR_motor at h
  refine Met.ofW (cc := cX12_motor) (maxL := 7) (ret := (some .boolean)) (by decide) rfl ?_
  intro p e s m args below meth c s₁ B hml hv
  obtain ⟨hargs, hS, hK⟩ := hv
  have hx := B.exec
  have hb := B.bytes
  have hr := B.returns
  have hts := atoms_spec (ws := .code yX12_motor cX12_motor 7 (some .boolean) :: zt) B.pre
  have hown : s.vm.findClass RX12 = some m.cls := findClass_of_methodNamed B.named
  have hlocks := B.notSynchronized
  have hS0 : va_S (zA nR b) s.heap s.heap [] := va_S.rf
  have hl := lv_entry ([.ref (b + 0), .int (iI a0), .int (iI a1), .int (iI a2)]) (n := 7) (Nat.le_of_ble_eq_true rfl)
  have hent : entryFrame m args 7 = F0 m 0 ((lg_sl ([.ref (b + 0), .int (iI a0), .int (iI a1), .int (iI a2)]) ++ List.replicate (7 - (lg_sl ([.ref (b + 0), .int (iI a0), .int (iI a1), .int (iI a2)])).length) Slot.unset).toArray) [] := by rw [hargs]; exact lg_entry_eq m ([.ref (b + 0), .int (iI a0), .int (iI a1), .int (iI a2)]) 7
  rw [hent]
  generalize (lg_sl ([.ref (b + 0), .int (iI a0), .int (iI a1), .int (iI a2)]) ++ List.replicate (7 - (lg_sl ([.ref (b + 0), .int (iI a0), .int (iI a1), .int (iI a2)])).length) Slot.unset).toArray = ls at hl ⊢
  have hl : lv_has ls 7 [(0, .ref (b + 0)), (1, .int (iI a0)), (2, .int (iI a1)), (3, .int (iI a2))] := hl
  refine lv_aload_n hx hb dX12_motor_0 rfl (lv_at hl 0 rfl) ?_
  refine z_iconst hx hb dX12_motor_1 ?_
  refine w_puti hx hb hts (z_memU u12) tyX12 tyX12_ok nmX12 hown hK.1 hS hS0 f12_35 (by decide) (zkd_of (rfl : zcd wR 0 = 50) rfl) (Or.inl (hts _ (z_mem k979))) rfl (z := 0) (by decide +kernel) dX12_motor_2 (fun H locs hS hS0 => ?_)
  obtain ⟨M1, e2⟩ : ∃ M1 : zM, M1 = zup M 0 35 0 := ⟨_, rfl⟩
  rw [← e2] at hS
  have h := h M1 e2
  refine lv_iload_n hx hb dX12_motor_5 rfl (lv_at hl 1 rfl) ?_
  refine w_callz (va_runS (As := [.int (iI a0)]) (rest := []) ⟨hx, hb, hml, hown, hts⟩ (cR_isMotor l D dA b M1 a0 _ h) (va_cwS 1 hts (z_gS k1090 k1091 k14 k1092) rfl rfl rfl dm_X12_isMotor.2 ⟨Nat.le_of_ble_eq_true rfl, Nat.le_of_ble_eq_true rfl⟩) ⟨wPre_blind, w_pre hS hK⟩ rfl rfl hl.1 rfl (lv_room (Nat.le_of_ble_eq_true rfl)) dX12_motor_6 ⟨Nat.le_refl _, Nat.le_refl _⟩) hS0 (fun z4 M3 H locs r5 h hS hS0 => ?_)
  obtain ⟨e6, h⟩ := h
  rw [e6] at hS
  refine w_if_eq (tgt := 34) hx hb (sI_01 r5) dX12_motor_9 (by decide) (fun c7 => ?_) (fun c7 => ?_)
  · skip
    have h := h.1 c7
    refine z_iconst hx hb dX12_motor_34 ?_
    exact w_zret hx hb hr hlocks hS hS0 (sI_of (by decide)) (by decide) h dX12_motor_35
  · skip
    have h := h.2 c7
    refine lv_iload_n hx hb dX12_motor_12 rfl (lv_at hl 2 rfl) ?_
    refine z_iconst hx hb dX12_motor_13 ?_
    refine z_sipush hx hb (by decide) dX12_motor_14 ?_
    refine w_callz (va_runS (As := [.int (iI a1), .int (iI 0), .int (iI 5000)]) (rest := []) ⟨hx, hb, hml, hown, hts⟩ (cR_in l D dA b M1 a1 0 5000 _ h) (va_cwS 3 hts (z_gS k1083 k1084 k14 k1085) rfl rfl rfl dm_X12_in.2 ⟨Nat.le_of_ble_eq_true rfl, Nat.le_of_ble_eq_true rfl⟩) ⟨wPre_blind, w_pre hS hK⟩ rfl rfl hl.1 rfl (lv_room (Nat.le_of_ble_eq_true rfl)) dX12_motor_17 ⟨Nat.le_refl _, Nat.le_refl _⟩) hS0 (fun z9 M8 H locs r10 h hS hS0 => ?_)
    obtain ⟨e11, h⟩ := h
    rw [e11] at hS
    refine w_if_eq (tgt := 34) hx hb (sI_01 r10) dX12_motor_20 (by decide) (fun c12 => ?_) (fun c12 => ?_)
    · skip
      have h := h.1 c12
      refine z_iconst hx hb dX12_motor_34 ?_
      exact w_zret hx hb hr hlocks hS hS0 (sI_of (by decide)) (by decide) h dX12_motor_35
    · skip
      have h := h.2 c12
      refine lv_iload_n hx hb dX12_motor_23 rfl (lv_at hl 3 rfl) ?_
      refine z_bipush hx hb (by decide) dX12_motor_24 ?_
      refine z_bipush hx hb (by decide) dX12_motor_26 ?_
      refine w_callz (va_runS (As := [.int (iI a2), .int (iI (-9)), .int (iI 9)]) (rest := []) ⟨hx, hb, hml, hown, hts⟩ (cR_in l D dA b M1 a2 (-9) 9 _ h) (va_cwS 3 hts (z_gS k1083 k1084 k14 k1085) rfl rfl rfl dm_X12_in.2 ⟨Nat.le_of_ble_eq_true rfl, Nat.le_of_ble_eq_true rfl⟩) ⟨wPre_blind, w_pre hS hK⟩ rfl rfl hl.1 rfl (lv_room (Nat.le_of_ble_eq_true rfl)) dX12_motor_28 ⟨Nat.le_refl _, Nat.le_refl _⟩) hS0 (fun z14 M13 H locs r15 h hS hS0 => ?_)
      obtain ⟨e16, h⟩ := h
      rw [e16] at hS
      refine w_if_ne (tgt := 36) hx hb (sI_01 r15) dX12_motor_31 (by decide) (fun c17 => ?_) (fun c17 => ?_)
      · skip
        have h := h.1 c17
        refine lv_aload_n hx hb dX12_motor_36 rfl (lv_at hl 0 rfl) ?_
        refine w_getr (j2 := 11) hx hb hts (z_memU u12) hown hK.1 hS f12_13 (by decide) (zkd_of (rfl : zcd wR 0 = 50) rfl) (zrf_of (rfl : zcd wR 0 = 50) rfl) (Or.inl (hts _ (z_mem k957))) dX12_motor_37 ?_
        refine lv_iload_n hx hb dX12_motor_40 rfl (lv_at hl 1 rfl) ?_
        obtain ⟨o18, h⟩ := h
        refine w_iald (n := 2) (i := (sI a0)) hx hb hK.1 (t0 := 0) rfl hS (by decide) (zkd_of (rfl : zcd wR 11 = 61) rfl) (zln_of (rfl : zcd wR 11 = 61) rfl) rfl o18.1 o18.2 (by decide) dX12_motor_41 ?_
        refine lv_istore (lv' := [(4, .int (iI (M1 11 (sI a0).toNat))), (0, .ref (b + 0)), (1, .int (iI a0)), (2, .int (iI a1)), (3, .int (iI a2))]) hx hb dX12_motor_42 hl (by decide) rfl (fun ls hl => ?_)
        refine z_iconst hx hb dX12_motor_44 ?_
        refine lv_istore (lv' := [(5, .int (iI 0)), (4, .int (iI (M1 11 (sI a0).toNat))), (0, .ref (b + 0)), (1, .int (iI a0)), (2, .int (iI a1)), (3, .int (iI a2))]) hx hb dX12_motor_45 hl (by decide) rfl (fun ls hl => ?_)
        obtain ⟨I20, ⟨n21, h22⟩, h23⟩ := h
        have L24 : ∀ (n25 : Nat) (x19 : Int) (H : Heap) (locs : List Loc) (ls : Array Slot), I20 n25 x19 → zR D dA vwCl wR nR b M1 H → va_S (zA nR b) s.heap H locs → lv_has ls 7 [(0, .ref (b + 0)), (1, .int (iI a0)), (2, .int (iI a1)), (3, .int (iI a2)), (4, .int (iI (M1 11 (sI a0).toNat))), (5, .int (iI x19))] → W p l e (headSpec (.code yX12_motor cX12_motor 7 (some .boolean) :: zt) (z_rm 1)).room s m args below meth c H locs 0 0 (MQ below (va_Qi (wQz Q) (zB D dA vwCl wR nR b) (zA nR b)) args s 0 0 (zA nR b)) (F0 m 47 ls []) := by
          intro n25
          induction n25 using Nat.strongRecOn with
          | ind n25 i26 =>
            intro x19 H locs ls h hS hS0 hl
            have h := h23 n25 x19 h
            refine lv_iload hx hb dX12_motor_47 (lv_at hl 5 rfl) ?_
            refine lv_iload hx hb dX12_motor_49 (lv_at hl 4 rfl) ?_
            obtain ⟨J76, B33, h⟩ := h
            have L32 : ∀ (H : Heap) (locs : List Loc) (ls : Array Slot), J76 → zR D dA vwCl wR nR b M1 H → va_S (zA nR b) s.heap H locs → lv_has ls 7 [(0, .ref (b + 0)), (1, .int (iI a0)), (2, .int (iI a1)), (3, .int (iI a2)), (4, .int (iI (M1 11 (sI a0).toNat))), (5, .int (iI x19))] → W p l e (headSpec (.code yX12_motor cX12_motor 7 (some .boolean) :: zt) (z_rm 1)).room s m args below meth c H locs 0 0 (MQ below (va_Qi (wQz Q) (zB D dA vwCl wR nR b) (zA nR b)) args s 0 0 (zA nR b)) (F0 m 76 ls []) := by
              intro  H locs ls h hS hS0 hl
              have h := B33 h
              refine lv_iload hx hb dX12_motor_76 (lv_at hl 5 rfl) ?_
              refine lv_iload hx hb dX12_motor_78 (lv_at hl 4 rfl) ?_
              obtain ⟨J187, B89, h⟩ := h
              have L88 : ∀ (M87 : zM) (H : Heap) (locs : List Loc) (ls : Array Slot), J187 M87 → zR D dA vwCl wR nR b M87 H → va_S (zA nR b) s.heap H locs → lv_has ls 7 [(0, .ref (b + 0)), (1, .int (iI a0)), (2, .int (iI a1)), (3, .int (iI a2)), (5, .int (iI x19))] → W p l e (headSpec (.code yX12_motor cX12_motor 7 (some .boolean) :: zt) (z_rm 1)).room s m args below meth c H locs 0 0 (MQ below (va_Qi (wQz Q) (zB D dA vwCl wR nR b) (zA nR b)) args s 0 0 (zA nR b)) (F0 m 187 ls []) := by
                intro M87 H locs ls h hS hS0 hl
                have h := B89 M87 h
                refine lv_aload_n hx hb dX12_motor_187 rfl (lv_at hl 0 rfl) ?_
                refine w_getr (j2 := 9) hx hb hts (z_memU u12) hown hK.1 hS f12_11 (by decide) (zkd_of (rfl : zcd wR 0 = 50) rfl) (zrf_of (rfl : zcd wR 0 = 50) rfl) (Or.inl (hts _ (z_mem k955))) dX12_motor_188 ?_
                refine z_bipush hx hb (by decide) dX12_motor_191 ?_
                refine lv_iload_n hx hb dX12_motor_193 rfl (lv_at hl 1 rfl) ?_
                refine z_imul hx hb dX12_motor_194 ?_
                refine lv_iload hx hb dX12_motor_195 (lv_at hl 4 rfl) ?_
                refine z_iadd hx hb dX12_motor_197 ?_
                refine lv_iload_n hx hb dX12_motor_198 rfl (lv_at hl 2 rfl) ?_
                obtain ⟨o90, h⟩ := h
                refine w_iast (z := a1) (n := 24) (i := (sI ((12 * a0) + x19))) hx hb hK.1 (t0 := 0) rfl hS hS0 (by decide) (zkd_of (rfl : zcd wR 9 = 59) rfl) (zln_of (rfl : zcd wR 9 = 59) rfl) rfl o90.1 o90.2 (by decide) dX12_motor_199 (fun H locs hS hS0 => ?_)
                obtain ⟨M91, e92⟩ : ∃ M91 : zM, M91 = zup M87 9 (sI ((12 * a0) + x19)).toNat a1 := ⟨_, rfl⟩
                rw [← e92] at hS
                have h := h M91 e92
                refine lv_aload_n hx hb dX12_motor_200 rfl (lv_at hl 0 rfl) ?_
                refine w_getr (j2 := 10) hx hb hts (z_memU u12) hown hK.1 hS f12_12 (by decide) (zkd_of (rfl : zcd wR 0 = 50) rfl) (zrf_of (rfl : zcd wR 0 = 50) rfl) (Or.inl (hts _ (z_mem k956))) dX12_motor_201 ?_
                refine z_bipush hx hb (by decide) dX12_motor_204 ?_
                refine lv_iload_n hx hb dX12_motor_206 rfl (lv_at hl 1 rfl) ?_
                refine z_imul hx hb dX12_motor_207 ?_
                refine lv_iload hx hb dX12_motor_208 (lv_at hl 4 rfl) ?_
                refine z_iadd hx hb dX12_motor_210 ?_
                refine lv_iload_n hx hb dX12_motor_211 rfl (lv_at hl 3 rfl) ?_
                obtain ⟨o93, h⟩ := h
                refine w_iast (z := a2) (n := 24) (i := (sI ((12 * a0) + x19))) hx hb hK.1 (t0 := 0) rfl hS hS0 (by decide) (zkd_of (rfl : zcd wR 10 = 60) rfl) (zln_of (rfl : zcd wR 10 = 60) rfl) rfl o93.1 o93.2 (by decide) dX12_motor_212 (fun H locs hS hS0 => ?_)
                obtain ⟨M94, e95⟩ : ∃ M94 : zM, M94 = zup M91 10 (sI ((12 * a0) + x19)).toNat a2 := ⟨_, rfl⟩
                rw [← e95] at hS
                have h := h M94 e95
                refine z_iconst hx hb dX12_motor_213 ?_
                exact w_zret hx hb hr hlocks hS hS0 (sI_of (by decide)) (by decide) h dX12_motor_214
              obtain ⟨J99, B100, h⟩ := h
              have L99 : ∀ (H : Heap) (locs : List Loc) (ls : Array Slot), J99 → zR D dA vwCl wR nR b M1 H → va_S (zA nR b) s.heap H locs → lv_has ls 7 [(0, .ref (b + 0)), (1, .int (iI a0)), (2, .int (iI a1)), (3, .int (iI a2)), (4, .int (iI (M1 11 (sI a0).toNat))), (5, .int (iI x19))] → W p l e (headSpec (.code yX12_motor cX12_motor 7 (some .boolean) :: zt) (z_rm 1)).room s m args below meth c H locs 0 0 (MQ below (va_Qi (wQz Q) (zB D dA vwCl wR nR b) (zA nR b)) args s 0 0 (zA nR b)) (F0 m 99 ls []) := by
                intro  H locs ls h hS hS0 hl
                have h := B100 h
                refine lv_iload hx hb dX12_motor_99 (lv_at hl 4 rfl) ?_
                refine z_bipush hx hb (by decide) dX12_motor_101 ?_
                refine w_icmp_ne (tgt := 108) hx hb rfl (sI_of (by decide)) dX12_motor_103 (by decide) (fun c101 => ?_) (fun c101 => ?_)
                · skip
                  have h := h.1 c101
                  refine lv_iload hx hb dX12_motor_108 (lv_at hl 4 rfl) ?_
                  refine lv_istore (lv' := [(6, .int (iI (M1 11 (sI a0).toNat))), (0, .ref (b + 0)), (1, .int (iI a0)), (2, .int (iI a1)), (3, .int (iI a2)), (4, .int (iI (M1 11 (sI a0).toNat))), (5, .int (iI x19))]) hx hb dX12_motor_110 hl (by decide) rfl (fun ls hl => ?_)
                  obtain ⟨I104, ⟨n105, h106⟩, h107⟩ := h
                  have L108 : ∀ (n109 : Nat) (x102 : Int) (M103 : zM) (H : Heap) (locs : List Loc) (ls : Array Slot), I104 n109 x102 M103 → zR D dA vwCl wR nR b M103 H → va_S (zA nR b) s.heap H locs → lv_has ls 7 [(0, .ref (b + 0)), (1, .int (iI a0)), (2, .int (iI a1)), (3, .int (iI a2)), (5, .int (iI x19)), (6, .int (iI x102))] → W p l e (headSpec (.code yX12_motor cX12_motor 7 (some .boolean) :: zt) (z_rm 1)).room s m args below meth c H locs 0 0 (MQ below (va_Qi (wQz Q) (zB D dA vwCl wR nR b) (zA nR b)) args s 0 0 (zA nR b)) (F0 m 112 ls []) := by
                    intro n109
                    induction n109 using Nat.strongRecOn with
                    | ind n109 i110 =>
                      intro x102 M103 H locs ls h hS hS0 hl
                      have h := h107 n109 x102 M103 h
                      refine lv_iload hx hb dX12_motor_112 (lv_at hl 5 rfl) ?_
                      refine lv_iload hx hb dX12_motor_114 (lv_at hl 4 rfl) ?_
                      refine w_icmp_le (tgt := 177) hx hb rfl rfl dX12_motor_116 (by decide) (fun c111 => ?_) (fun c111 => ?_)
                      · skip
                        have h := h.1 c111
                        refine lv_aload_n hx hb dX12_motor_177 rfl (lv_at hl 0 rfl) ?_
                        refine w_getr (j2 := 11) hx hb hts (z_memU u12) hown hK.1 hS f12_13 (by decide) (zkd_of (rfl : zcd wR 0 = 50) rfl) (zrf_of (rfl : zcd wR 0 = 50) rfl) (Or.inl (hts _ (z_mem k957))) dX12_motor_178 ?_
                        refine lv_iload_n hx hb dX12_motor_181 rfl (lv_at hl 1 rfl) ?_
                        refine lv_dup2_11 hx hb dX12_motor_182 rfl rfl ?_
                        obtain ⟨o112, h⟩ := h
                        refine w_iald (n := 2) (i := (sI a0)) hx hb hK.1 (t0 := 0) rfl hS (by decide) (zkd_of (rfl : zcd wR 11 = 61) rfl) (zln_of (rfl : zcd wR 11 = 61) rfl) rfl o112.1 o112.2 (by decide) dX12_motor_183 ?_
                        refine z_iconst hx hb dX12_motor_184 ?_
                        refine z_iadd hx hb dX12_motor_185 ?_
                        obtain ⟨o113, h⟩ := h
                        refine w_iast (z := ((M103 11 (sI a0).toNat) + 1)) (n := 2) (i := (sI a0)) hx hb hK.1 (t0 := 0) rfl hS hS0 (by decide) (zkd_of (rfl : zcd wR 11 = 61) rfl) (zln_of (rfl : zcd wR 11 = 61) rfl) rfl o113.1 o113.2 (by decide) dX12_motor_186 (fun H locs hS hS0 => ?_)
                        obtain ⟨M114, e115⟩ : ∃ M114 : zM, M114 = zup M103 11 (sI a0).toNat ((M103 11 (sI a0).toNat) + 1) := ⟨_, rfl⟩
                        rw [← e115] at hS
                        have h := h M114 e115
                        exact L88 M114 _ _ _ h hS hS0 (lv_sub hl [0, 1, 2, 3, 4] rfl)
                      · skip
                        have h := h.2 c111
                        refine lv_aload_n hx hb dX12_motor_119 rfl (lv_at hl 0 rfl) ?_
                        refine w_getr (j2 := 9) hx hb hts (z_memU u12) hown hK.1 hS f12_11 (by decide) (zkd_of (rfl : zcd wR 0 = 50) rfl) (zrf_of (rfl : zcd wR 0 = 50) rfl) (Or.inl (hts _ (z_mem k955))) dX12_motor_120 ?_
                        refine z_bipush hx hb (by decide) dX12_motor_123 ?_
                        refine lv_iload_n hx hb dX12_motor_125 rfl (lv_at hl 1 rfl) ?_
                        refine z_imul hx hb dX12_motor_126 ?_
                        refine lv_iload hx hb dX12_motor_127 (lv_at hl 5 rfl) ?_
                        refine z_iadd hx hb dX12_motor_129 ?_
                        refine lv_aload_n hx hb dX12_motor_130 rfl (lv_at hl 0 rfl) ?_
                        refine w_getr (j2 := 9) hx hb hts (z_memU u12) hown hK.1 hS f12_11 (by decide) (zkd_of (rfl : zcd wR 0 = 50) rfl) (zrf_of (rfl : zcd wR 0 = 50) rfl) (Or.inl (hts _ (z_mem k955))) dX12_motor_131 ?_
                        refine z_bipush hx hb (by decide) dX12_motor_134 ?_
                        refine lv_iload_n hx hb dX12_motor_136 rfl (lv_at hl 1 rfl) ?_
                        refine z_imul hx hb dX12_motor_137 ?_
                        refine lv_iload hx hb dX12_motor_138 (lv_at hl 5 rfl) ?_
                        refine z_iadd hx hb dX12_motor_140 ?_
                        refine z_iconst hx hb dX12_motor_141 ?_
                        refine z_isub hx hb dX12_motor_142 ?_
                        obtain ⟨o116, h⟩ := h
                        refine w_iald (n := 24) (i := (sI (((12 * a0) + x102) - 1))) hx hb hK.1 (t0 := 0) rfl hS (by decide) (zkd_of (rfl : zcd wR 9 = 59) rfl) (zln_of (rfl : zcd wR 9 = 59) rfl) rfl o116.1 o116.2 (by decide) dX12_motor_143 ?_
                        obtain ⟨o117, h⟩ := h
                        refine w_iast (z := (M103 9 (sI (((12 * a0) + x102) - 1)).toNat)) (n := 24) (i := (sI ((12 * a0) + x102))) hx hb hK.1 (t0 := 0) rfl hS hS0 (by decide) (zkd_of (rfl : zcd wR 9 = 59) rfl) (zln_of (rfl : zcd wR 9 = 59) rfl) rfl o117.1 o117.2 (by decide) dX12_motor_144 (fun H locs hS hS0 => ?_)
                        obtain ⟨M118, e119⟩ : ∃ M118 : zM, M118 = zup M103 9 (sI ((12 * a0) + x102)).toNat (M103 9 (sI (((12 * a0) + x102) - 1)).toNat) := ⟨_, rfl⟩
                        rw [← e119] at hS
                        have h := h M118 e119
                        refine lv_aload_n hx hb dX12_motor_145 rfl (lv_at hl 0 rfl) ?_
                        refine w_getr (j2 := 10) hx hb hts (z_memU u12) hown hK.1 hS f12_12 (by decide) (zkd_of (rfl : zcd wR 0 = 50) rfl) (zrf_of (rfl : zcd wR 0 = 50) rfl) (Or.inl (hts _ (z_mem k956))) dX12_motor_146 ?_
                        refine z_bipush hx hb (by decide) dX12_motor_149 ?_
                        refine lv_iload_n hx hb dX12_motor_151 rfl (lv_at hl 1 rfl) ?_
                        refine z_imul hx hb dX12_motor_152 ?_
                        refine lv_iload hx hb dX12_motor_153 (lv_at hl 5 rfl) ?_
                        refine z_iadd hx hb dX12_motor_155 ?_
                        refine lv_aload_n hx hb dX12_motor_156 rfl (lv_at hl 0 rfl) ?_
                        refine w_getr (j2 := 10) hx hb hts (z_memU u12) hown hK.1 hS f12_12 (by decide) (zkd_of (rfl : zcd wR 0 = 50) rfl) (zrf_of (rfl : zcd wR 0 = 50) rfl) (Or.inl (hts _ (z_mem k956))) dX12_motor_157 ?_
                        refine z_bipush hx hb (by decide) dX12_motor_160 ?_
                        refine lv_iload_n hx hb dX12_motor_162 rfl (lv_at hl 1 rfl) ?_
                        refine z_imul hx hb dX12_motor_163 ?_
                        refine lv_iload hx hb dX12_motor_164 (lv_at hl 5 rfl) ?_
                        refine z_iadd hx hb dX12_motor_166 ?_
                        refine z_iconst hx hb dX12_motor_167 ?_
                        refine z_isub hx hb dX12_motor_168 ?_
                        obtain ⟨o120, h⟩ := h
                        refine w_iald (n := 24) (i := (sI (((12 * a0) + x102) - 1))) hx hb hK.1 (t0 := 0) rfl hS (by decide) (zkd_of (rfl : zcd wR 10 = 60) rfl) (zln_of (rfl : zcd wR 10 = 60) rfl) rfl o120.1 o120.2 (by decide) dX12_motor_169 ?_
                        obtain ⟨o121, h⟩ := h
                        refine w_iast (z := (M118 10 (sI (((12 * a0) + x102) - 1)).toNat)) (n := 24) (i := (sI ((12 * a0) + x102))) hx hb hK.1 (t0 := 0) rfl hS hS0 (by decide) (zkd_of (rfl : zcd wR 10 = 60) rfl) (zln_of (rfl : zcd wR 10 = 60) rfl) rfl o121.1 o121.2 (by decide) dX12_motor_170 (fun H locs hS hS0 => ?_)
                        obtain ⟨M122, e123⟩ : ∃ M122 : zM, M122 = zup M118 10 (sI ((12 * a0) + x102)).toNat (M118 10 (sI (((12 * a0) + x102) - 1)).toNat) := ⟨_, rfl⟩
                        rw [← e123] at hS
                        have h := h M122 e123
                        refine z_iinc (lv' := [(6, .int (iI (x102 + (-1)))), (0, .ref (b + 0)), (1, .int (iI a0)), (2, .int (iI a1)), (3, .int (iI a2)), (5, .int (iI x19))]) hx hb dX12_motor_171 hl (k := 5) rfl (by decide) rfl (fun ls hl => ?_)
                        refine lv_goto (tgt := 112) hx hb dX12_motor_174 (by decide) ?_
                        obtain ⟨n124, h125, h⟩ := h
                        exact i110 n124 h125 (x102 + (-1)) M122 _ _ _ h hS hS0 (lv_sub hl [1, 2, 3, 4, 5, 0] rfl)
                  exact L108 n105 (M1 11 (sI a0).toNat) M1 _ _ _ h106 hS hS0 (lv_sub hl [1, 2, 3, 4, 6, 0] rfl)
                · skip
                  have h := h.2 c101
                  refine z_iconst hx hb dX12_motor_106 ?_
                  exact w_zret hx hb hr hlocks hS hS0 (sI_of (by decide)) (by decide) h dX12_motor_107
              refine w_icmp_eq (tgt := 99) hx hb rfl rfl dX12_motor_80 (by decide) (fun c126 => ?_) (fun c126 => ?_)
              · skip
                have h := h.1 c126
                exact L99 _ _ _ h hS hS0 (lv_sub hl [0, 1, 2, 3, 4, 5] rfl)
              · skip
                have h := h.2 c126
                refine lv_aload_n hx hb dX12_motor_83 rfl (lv_at hl 0 rfl) ?_
                refine w_getr (j2 := 9) hx hb hts (z_memU u12) hown hK.1 hS f12_11 (by decide) (zkd_of (rfl : zcd wR 0 = 50) rfl) (zrf_of (rfl : zcd wR 0 = 50) rfl) (Or.inl (hts _ (z_mem k955))) dX12_motor_84 ?_
                refine z_bipush hx hb (by decide) dX12_motor_87 ?_
                refine lv_iload_n hx hb dX12_motor_89 rfl (lv_at hl 1 rfl) ?_
                refine z_imul hx hb dX12_motor_90 ?_
                refine lv_iload hx hb dX12_motor_91 (lv_at hl 5 rfl) ?_
                refine z_iadd hx hb dX12_motor_93 ?_
                obtain ⟨o127, h⟩ := h
                refine w_iald (n := 24) (i := (sI ((12 * a0) + x19))) hx hb hK.1 (t0 := 0) rfl hS (by decide) (zkd_of (rfl : zcd wR 9 = 59) rfl) (zln_of (rfl : zcd wR 9 = 59) rfl) rfl o127.1 o127.2 (by decide) dX12_motor_94 ?_
                refine lv_iload_n hx hb dX12_motor_95 rfl (lv_at hl 2 rfl) ?_
                refine w_icmp_eq (tgt := 187) hx hb rfl rfl dX12_motor_96 (by decide) (fun c128 => ?_) (fun c128 => ?_)
                · skip
                  have h := h.1 c128
                  exact L88 M1 _ _ _ h hS hS0 (lv_sub hl [0, 1, 2, 3, 5] rfl)
                · skip
                  have h := h.2 c128
                  exact L99 _ _ _ h hS hS0 (lv_sub hl [0, 1, 2, 3, 4, 5] rfl)
            refine w_icmp_ge (tgt := 76) hx hb rfl rfl dX12_motor_51 (by decide) (fun c129 => ?_) (fun c129 => ?_)
            · skip
              have h := h.1 c129
              exact L32 _ _ _ h hS hS0 (lv_sub hl [0, 1, 2, 3, 4, 5] rfl)
            · skip
              have h := h.2 c129
              refine lv_aload_n hx hb dX12_motor_54 rfl (lv_at hl 0 rfl) ?_
              refine w_getr (j2 := 9) hx hb hts (z_memU u12) hown hK.1 hS f12_11 (by decide) (zkd_of (rfl : zcd wR 0 = 50) rfl) (zrf_of (rfl : zcd wR 0 = 50) rfl) (Or.inl (hts _ (z_mem k955))) dX12_motor_55 ?_
              refine z_bipush hx hb (by decide) dX12_motor_58 ?_
              refine lv_iload_n hx hb dX12_motor_60 rfl (lv_at hl 1 rfl) ?_
              refine z_imul hx hb dX12_motor_61 ?_
              refine lv_iload hx hb dX12_motor_62 (lv_at hl 5 rfl) ?_
              refine z_iadd hx hb dX12_motor_64 ?_
              obtain ⟨o130, h⟩ := h
              refine w_iald (n := 24) (i := (sI ((12 * a0) + x19))) hx hb hK.1 (t0 := 0) rfl hS (by decide) (zkd_of (rfl : zcd wR 9 = 59) rfl) (zln_of (rfl : zcd wR 9 = 59) rfl) rfl o130.1 o130.2 (by decide) dX12_motor_65 ?_
              refine lv_iload_n hx hb dX12_motor_66 rfl (lv_at hl 2 rfl) ?_
              refine w_icmp_ge (tgt := 76) hx hb rfl rfl dX12_motor_67 (by decide) (fun c131 => ?_) (fun c131 => ?_)
              · skip
                have h := h.1 c131
                exact L32 _ _ _ h hS hS0 (lv_sub hl [0, 1, 2, 3, 4, 5] rfl)
              · skip
                have h := h.2 c131
                refine z_iinc (lv' := [(5, .int (iI (x19 + 1))), (0, .ref (b + 0)), (1, .int (iI a0)), (2, .int (iI a1)), (3, .int (iI a2)), (4, .int (iI (M1 11 (sI a0).toNat)))]) hx hb dX12_motor_70 hl (k := 5) rfl (by decide) rfl (fun ls hl => ?_)
                refine lv_goto (tgt := 47) hx hb dX12_motor_73 (by decide) ?_
                obtain ⟨n132, h133, h⟩ := h
                exact i26 n132 h133 (x19 + 1) _ _ _ h hS hS0 (lv_sub hl [1, 2, 3, 4, 5, 0] rfl)
        exact L24 n21 0 _ _ _ h22 hS hS0 (lv_sub hl [2, 3, 4, 5, 1, 0] rfl)
      · skip
        have h := h.2 c17
        refine z_iconst hx hb dX12_motor_34 ?_
        exact w_zret hx hb hr hlocks hS hS0 (sI_of (by decide)) (by decide) h dX12_motor_35

set_option maxRecDepth 100000 in
def wR_clear  (M : zM) (Q : Int → zM → Prop) : Prop := (∀ M1 : zM, M1 = zup M 0 35 0 → (∀ M3 : zM, M3 = zup M1 0 10 0 → (∀ M5 : zM, M5 = zup M3 0 16 0 → wL1 (fun K22 x7 M8 => (2 ≤ (sI x7) → Q (sI (M1 0 10)) M8) ∧ ((sI x7) < 2 → ((0 ≤ (sI x7) ∧ (sI x7) < 2) ∧ (∀ M18 : zM, M18 = zup M8 11 (sI x7).toNat 0 → K22 (x7 + 1) M18)))) 0 M5)))
set_option maxHeartbeats 4000000 in
set_option maxRecDepth 100000 in
theorem cR_clear (l : Launch) (D : va_G) (dA : Nat → ClassId) (b : Nat) (M : zM)   (Q : Int → zM → Prop) (h : wR_clear  M Q) : Met l yX12_clear (.code yX12_clear cX12_clear 3 (some .int) :: zt) (z_rm 0) (va_Pc [.ref (b + 0)] (wPre D dA vwCl (z_tys dA) wR nR b M)) (va_Qi (wQi Q) (zB D dA vwCl wR nR b) (zA nR b)) 0 0 (zA nR b) := by
  unfold wR_clear at h
  refine Met.ofW (cc := cX12_clear) (maxL := 3) (ret := (some .int)) (by decide) rfl ?_
  intro p e s m args below meth c s₁ B hml hv
  obtain ⟨hargs, hS, hK⟩ := hv
  have hx := B.exec
  have hb := B.bytes
  have hr := B.returns
  have hts := atoms_spec (ws := .code yX12_clear cX12_clear 3 (some .int) :: zt) B.pre
  have hown : s.vm.findClass RX12 = some m.cls := findClass_of_methodNamed B.named
  have hlocks := B.notSynchronized
  have hS0 : va_S (zA nR b) s.heap s.heap [] := va_S.rf
  have hl := lv_entry ([.ref (b + 0)]) (n := 3) (Nat.le_of_ble_eq_true rfl)
  have hent : entryFrame m args 3 = F0 m 0 ((lg_sl ([.ref (b + 0)]) ++ List.replicate (3 - (lg_sl ([.ref (b + 0)])).length) Slot.unset).toArray) [] := by rw [hargs]; exact lg_entry_eq m ([.ref (b + 0)]) 3
  rw [hent]
  generalize (lg_sl ([.ref (b + 0)]) ++ List.replicate (3 - (lg_sl ([.ref (b + 0)])).length) Slot.unset).toArray = ls at hl ⊢
  have hl : lv_has ls 3 [(0, .ref (b + 0))] := hl
  refine lv_aload_n hx hb dX12_clear_0 rfl (lv_at hl 0 rfl) ?_
  refine z_iconst hx hb dX12_clear_1 ?_
  refine w_puti hx hb hts (z_memU u12) tyX12 tyX12_ok nmX12 hown hK.1 hS hS0 f12_35 (by decide) (zkd_of (rfl : zcd wR 0 = 50) rfl) (Or.inl (hts _ (z_mem k979))) rfl (z := 0) (by decide +kernel) dX12_clear_2 (fun H locs hS hS0 => ?_)
  obtain ⟨M1, e2⟩ : ∃ M1 : zM, M1 = zup M 0 35 0 := ⟨_, rfl⟩
  rw [← e2] at hS
  have h := h M1 e2
  refine lv_aload_n hx hb dX12_clear_5 rfl (lv_at hl 0 rfl) ?_
  refine w_geti hx hb hts (z_memU u12) hown hK.1 hS f12_10 (by decide) (zkd_of (rfl : zcd wR 0 = 50) rfl) (Or.inl (hts _ (z_mem k954))) dX12_clear_6 ?_
  refine lv_istore_n (lv' := [(1, .int (iI (M1 0 10))), (0, .ref (b + 0))]) hx hb dX12_clear_9 rfl hl (by decide) rfl (fun ls hl => ?_)
  refine lv_aload_n hx hb dX12_clear_10 rfl (lv_at hl 1 rfl) ?_
  refine z_iconst hx hb dX12_clear_11 ?_
  refine w_puti hx hb hts (z_memU u12) tyX12 tyX12_ok nmX12 hown hK.1 hS hS0 f12_10 (by decide) (zkd_of (rfl : zcd wR 0 = 50) rfl) (Or.inl (hts _ (z_mem k954))) rfl (z := 0) (by decide +kernel) dX12_clear_12 (fun H locs hS hS0 => ?_)
  obtain ⟨M3, e4⟩ : ∃ M3 : zM, M3 = zup M1 0 10 0 := ⟨_, rfl⟩
  rw [← e4] at hS
  have h := h M3 e4
  refine lv_aload_n hx hb dX12_clear_15 rfl (lv_at hl 1 rfl) ?_
  refine z_iconst hx hb dX12_clear_16 ?_
  refine w_puti hx hb hts (z_memU u12) tyX12 tyX12_ok nmX12 hown hK.1 hS hS0 f12_16 (by decide) (zkd_of (rfl : zcd wR 0 = 50) rfl) (Or.inl (hts _ (z_mem k960))) rfl (z := 0) (by decide +kernel) dX12_clear_17 (fun H locs hS hS0 => ?_)
  obtain ⟨M5, e6⟩ : ∃ M5 : zM, M5 = zup M3 0 16 0 := ⟨_, rfl⟩
  rw [← e6] at hS
  have h := h M5 e6
  refine z_iconst hx hb dX12_clear_20 ?_
  refine lv_istore_n (lv' := [(2, .int (iI 0)), (1, .int (iI (M1 0 10))), (0, .ref (b + 0))]) hx hb dX12_clear_21 rfl hl (by decide) rfl (fun ls hl => ?_)
  obtain ⟨I9, ⟨n10, h11⟩, h12⟩ := h
  have L13 : ∀ (n14 : Nat) (x7 : Int) (M8 : zM) (H : Heap) (locs : List Loc) (ls : Array Slot), I9 n14 x7 M8 → zR D dA vwCl wR nR b M8 H → va_S (zA nR b) s.heap H locs → lv_has ls 3 [(0, .ref (b + 0)), (1, .int (iI (M1 0 10))), (2, .int (iI x7))] → W p l e (headSpec (.code yX12_clear cX12_clear 3 (some .int) :: zt) (z_rm 0)).room s m args below meth c H locs 0 0 (MQ below (va_Qi (wQi Q) (zB D dA vwCl wR nR b) (zA nR b)) args s 0 0 (zA nR b)) (F0 m 22 ls []) := by
    intro n14
    induction n14 using Nat.strongRecOn with
    | ind n14 i15 =>
      intro x7 M8 H locs ls h hS hS0 hl
      have h := h12 n14 x7 M8 h
      refine lv_iload_n hx hb dX12_clear_22 rfl (lv_at hl 2 rfl) ?_
      refine z_iconst hx hb dX12_clear_23 ?_
      refine w_icmp_ge (tgt := 40) hx hb rfl (sI_of (by decide)) dX12_clear_24 (by decide) (fun c16 => ?_) (fun c16 => ?_)
      · skip
        have h := h.1 c16
        refine lv_iload_n hx hb dX12_clear_40 rfl (lv_at hl 1 rfl) ?_
        exact w_iret hx hb hr hlocks hS hS0 rfl h dX12_clear_41
      · skip
        have h := h.2 c16
        refine lv_aload_n hx hb dX12_clear_27 rfl (lv_at hl 0 rfl) ?_
        refine w_getr (j2 := 11) hx hb hts (z_memU u12) hown hK.1 hS f12_13 (by decide) (zkd_of (rfl : zcd wR 0 = 50) rfl) (zrf_of (rfl : zcd wR 0 = 50) rfl) (Or.inl (hts _ (z_mem k957))) dX12_clear_28 ?_
        refine lv_iload_n hx hb dX12_clear_31 rfl (lv_at hl 2 rfl) ?_
        refine z_iconst hx hb dX12_clear_32 ?_
        obtain ⟨o17, h⟩ := h
        refine w_iast (z := 0) (n := 2) (i := (sI x7)) hx hb hK.1 (t0 := 0) rfl hS hS0 (by decide) (zkd_of (rfl : zcd wR 11 = 61) rfl) (zln_of (rfl : zcd wR 11 = 61) rfl) rfl o17.1 o17.2 (by decide) dX12_clear_33 (fun H locs hS hS0 => ?_)
        obtain ⟨M18, e19⟩ : ∃ M18 : zM, M18 = zup M8 11 (sI x7).toNat 0 := ⟨_, rfl⟩
        rw [← e19] at hS
        have h := h M18 e19
        refine z_iinc (lv' := [(2, .int (iI (x7 + 1))), (0, .ref (b + 0)), (1, .int (iI (M1 0 10)))]) hx hb dX12_clear_34 hl (k := 2) rfl (by decide) rfl (fun ls hl => ?_)
        refine lv_goto (tgt := 22) hx hb dX12_clear_37 (by decide) ?_
        obtain ⟨n20, h21, h⟩ := h
        exact i15 n20 h21 (x7 + 1) M18 _ _ _ h hS hS0 (lv_sub hl [1, 2, 0] rfl)
  exact L13 n10 0 M5 _ _ _ h11 hS hS0 (lv_sub hl [2, 1, 0] rfl)

set_option maxRecDepth 100000 in
def wR_count (a0 : Int) (M : zM) (Q : Int → zM → Prop) : Prop := (∀ M1 : zM, M1 = zup M 0 35 0 → ((sI a0) = 0 → Q (sI (M1 0 10)) M1) ∧ ((sI a0) ≠ 0 → ((sI a0) = 1 → Q (sI (M1 0 16)) M1) ∧ ((sI a0) ≠ 1 → ((sI a0) = 2 → Q (sI (M1 0 24)) M1) ∧ ((sI a0) ≠ 2 → ((sI a0) = 3 → Q (sI (M1 0 27)) M1) ∧ ((sI a0) ≠ 3 → ((sI a0) = 4 → Q (sI (M1 0 32)) M1) ∧ ((sI a0) ≠ 4 → ((sI a0) = 5 → Q (sI (M1 0 34)) M1) ∧ ((sI a0) ≠ 5 → ((sI a0) = 6 → Q (sI (M1 0 1)) M1) ∧ ((sI a0) ≠ 6 → ((sI a0) = 7 → Q (sI (M1 0 3)) M1) ∧ ((sI a0) ≠ 7 → Q (-1) M1)))))))))
set_option maxHeartbeats 4000000 in
set_option maxRecDepth 100000 in
theorem cR_count (l : Launch) (D : va_G) (dA : Nat → ClassId) (b : Nat) (M : zM) (a0 : Int)  (Q : Int → zM → Prop) (h : wR_count a0 M Q) : Met l yX12_count (.code yX12_count cX12_count 2 (some .int) :: zt) (z_rm 0) (va_Pc [.ref (b + 0), .int (iI a0)] (wPre D dA vwCl (z_tys dA) wR nR b M)) (va_Qi (wQi Q) (zB D dA vwCl wR nR b) (zA nR b)) 0 0 (zA nR b) := by
  unfold wR_count at h
  refine Met.ofW (cc := cX12_count) (maxL := 2) (ret := (some .int)) (by decide) rfl ?_
  intro p e s m args below meth c s₁ B hml hv
  obtain ⟨hargs, hS, hK⟩ := hv
  have hx := B.exec
  have hb := B.bytes
  have hr := B.returns
  have hts := atoms_spec (ws := .code yX12_count cX12_count 2 (some .int) :: zt) B.pre
  have hown : s.vm.findClass RX12 = some m.cls := findClass_of_methodNamed B.named
  have hlocks := B.notSynchronized
  have hS0 : va_S (zA nR b) s.heap s.heap [] := va_S.rf
  have hl := lv_entry ([.ref (b + 0), .int (iI a0)]) (n := 2) (Nat.le_of_ble_eq_true rfl)
  have hent : entryFrame m args 2 = F0 m 0 ((lg_sl ([.ref (b + 0), .int (iI a0)]) ++ List.replicate (2 - (lg_sl ([.ref (b + 0), .int (iI a0)])).length) Slot.unset).toArray) [] := by rw [hargs]; exact lg_entry_eq m ([.ref (b + 0), .int (iI a0)]) 2
  rw [hent]
  generalize (lg_sl ([.ref (b + 0), .int (iI a0)]) ++ List.replicate (2 - (lg_sl ([.ref (b + 0), .int (iI a0)])).length) Slot.unset).toArray = ls at hl ⊢
  have hl : lv_has ls 2 [(0, .ref (b + 0)), (1, .int (iI a0))] := hl
  refine lv_aload_n hx hb dX12_count_0 rfl (lv_at hl 0 rfl) ?_
  refine z_iconst hx hb dX12_count_1 ?_
  refine w_puti hx hb hts (z_memU u12) tyX12 tyX12_ok nmX12 hown hK.1 hS hS0 f12_35 (by decide) (zkd_of (rfl : zcd wR 0 = 50) rfl) (Or.inl (hts _ (z_mem k979))) rfl (z := 0) (by decide +kernel) dX12_count_2 (fun H locs hS hS0 => ?_)
  obtain ⟨M1, e2⟩ : ∃ M1 : zM, M1 = zup M 0 35 0 := ⟨_, rfl⟩
  rw [← e2] at hS
  have h := h M1 e2
  refine lv_iload_n hx hb dX12_count_5 rfl (lv_at hl 1 rfl) ?_
  rcases Decidable.em ((sI a0) = 0) with c3 | c3
  · skip
    have h := h.1 c3
    refine w_tabIn (tgt := 52) hx hb rfl c3 dX12_count_6 (by decide) (by decide) rfl (by decide) ?_
    refine lv_aload_n hx hb dX12_count_52 rfl (lv_at hl 0 rfl) ?_
    refine w_geti hx hb hts (z_memU u12) hown hK.1 hS f12_10 (by decide) (zkd_of (rfl : zcd wR 0 = 50) rfl) (Or.inl (hts _ (z_mem k954))) dX12_count_53 ?_
    exact w_iret hx hb hr hlocks hS hS0 rfl h dX12_count_56
  have h := h.2 c3
  rcases Decidable.em ((sI a0) = 1) with c4 | c4
  · skip
    have h := h.1 c4
    refine w_tabIn (tgt := 57) hx hb rfl c4 dX12_count_6 (by decide) (by decide) rfl (by decide) ?_
    refine lv_aload_n hx hb dX12_count_57 rfl (lv_at hl 0 rfl) ?_
    refine w_geti hx hb hts (z_memU u12) hown hK.1 hS f12_16 (by decide) (zkd_of (rfl : zcd wR 0 = 50) rfl) (Or.inl (hts _ (z_mem k960))) dX12_count_58 ?_
    exact w_iret hx hb hr hlocks hS hS0 rfl h dX12_count_61
  have h := h.2 c4
  rcases Decidable.em ((sI a0) = 2) with c5 | c5
  · skip
    have h := h.1 c5
    refine w_tabIn (tgt := 62) hx hb rfl c5 dX12_count_6 (by decide) (by decide) rfl (by decide) ?_
    refine lv_aload_n hx hb dX12_count_62 rfl (lv_at hl 0 rfl) ?_
    refine w_geti hx hb hts (z_memU u12) hown hK.1 hS f12_24 (by decide) (zkd_of (rfl : zcd wR 0 = 50) rfl) (Or.inl (hts _ (z_mem k968))) dX12_count_63 ?_
    exact w_iret hx hb hr hlocks hS hS0 rfl h dX12_count_66
  have h := h.2 c5
  rcases Decidable.em ((sI a0) = 3) with c6 | c6
  · skip
    have h := h.1 c6
    refine w_tabIn (tgt := 67) hx hb rfl c6 dX12_count_6 (by decide) (by decide) rfl (by decide) ?_
    refine lv_aload_n hx hb dX12_count_67 rfl (lv_at hl 0 rfl) ?_
    refine w_geti hx hb hts (z_memU u12) hown hK.1 hS f12_27 (by decide) (zkd_of (rfl : zcd wR 0 = 50) rfl) (Or.inl (hts _ (z_mem k971))) dX12_count_68 ?_
    exact w_iret hx hb hr hlocks hS hS0 rfl h dX12_count_71
  have h := h.2 c6
  rcases Decidable.em ((sI a0) = 4) with c7 | c7
  · skip
    have h := h.1 c7
    refine w_tabIn (tgt := 72) hx hb rfl c7 dX12_count_6 (by decide) (by decide) rfl (by decide) ?_
    refine lv_aload_n hx hb dX12_count_72 rfl (lv_at hl 0 rfl) ?_
    refine w_geti hx hb hts (z_memU u12) hown hK.1 hS f12_32 (by decide) (zkd_of (rfl : zcd wR 0 = 50) rfl) (Or.inl (hts _ (z_mem k976))) dX12_count_73 ?_
    exact w_iret hx hb hr hlocks hS hS0 rfl h dX12_count_76
  have h := h.2 c7
  rcases Decidable.em ((sI a0) = 5) with c8 | c8
  · skip
    have h := h.1 c8
    refine w_tabIn (tgt := 77) hx hb rfl c8 dX12_count_6 (by decide) (by decide) rfl (by decide) ?_
    refine lv_aload_n hx hb dX12_count_77 rfl (lv_at hl 0 rfl) ?_
    refine w_geti hx hb hts (z_memU u12) hown hK.1 hS f12_34 (by decide) (zkd_of (rfl : zcd wR 0 = 50) rfl) (Or.inl (hts _ (z_mem k978))) dX12_count_78 ?_
    exact w_iret hx hb hr hlocks hS hS0 rfl h dX12_count_81
  have h := h.2 c8
  rcases Decidable.em ((sI a0) = 6) with c9 | c9
  · skip
    have h := h.1 c9
    refine w_tabIn (tgt := 82) hx hb rfl c9 dX12_count_6 (by decide) (by decide) rfl (by decide) ?_
    refine lv_aload_n hx hb dX12_count_82 rfl (lv_at hl 0 rfl) ?_
    refine w_geti hx hb hts (z_memU u12) hown hK.1 hS f12_1 (by decide) (zkd_of (rfl : zcd wR 0 = 50) rfl) (Or.inl (hts _ (z_mem k945))) dX12_count_83 ?_
    exact w_iret hx hb hr hlocks hS hS0 rfl h dX12_count_86
  have h := h.2 c9
  rcases Decidable.em ((sI a0) = 7) with c10 | c10
  · skip
    have h := h.1 c10
    refine w_tabIn (tgt := 87) hx hb rfl c10 dX12_count_6 (by decide) (by decide) rfl (by decide) ?_
    refine lv_aload_n hx hb dX12_count_87 rfl (lv_at hl 0 rfl) ?_
    refine w_geti hx hb hts (z_memU u12) hown hK.1 hS f12_3 (by decide) (zkd_of (rfl : zcd wR 0 = 50) rfl) (Or.inl (hts _ (z_mem k947))) dX12_count_88 ?_
    exact w_iret hx hb hr hlocks hS hS0 rfl h dX12_count_91
  have h := h.2 c10
  refine w_tabOut (tgt := 92) hx hb rfl dX12_count_6 (tb_0_7 _ c3 c4 c5 c6 c7 c8 c9 c10) (by decide) ?_
  refine z_iconst hx hb dX12_count_92 ?_
  exact w_iret hx hb hr hlocks hS hS0 (sI_of (by decide)) h dX12_count_93

set_option maxRecDepth 100000 in
def wR_common_F (R9 : Int → Int → zM → (Int → Prop) → Prop) (a0 : Int) (a1 : Int) (M : zM) (Q : Int → Prop) : Prop := ((sI a1) ≠ 0 → (((sI a1) ≠ 0) ∧ R9 a1 ((sI a0).tmod (sI a1)) M (fun z4 => Q z4))) ∧ ((sI a1) = 0 → Q (sI a0))
set_option maxHeartbeats 4000000 in
set_option maxRecDepth 100000 in
theorem cR_common_F (dd : Nat) (R9 : Int → Int → zM → (Int → Prop) → Prop) (l : Launch) (D : va_G) (dA : Nat → ClassId) (hdd : 0 ≤ dd) (hrec : ∀ (b : Nat) (M : zM) (a0 : Int) (a1 : Int)  (Q : Int → Prop), R9 a0 a1 M Q → Met l yX12_common (.code yX12_common cX12_common 2 (some .int) :: zt) (z_rm dd) (va_Pc [.int (iI a0), .int (iI a1)] (wPre D dA vwCl (z_tys dA) wR nR b M)) (va_Qi (wQi (fun z9 u9 => u9 = M ∧ Q z9)) (zB D dA vwCl wR nR b) (zA nR b)) 0 0 (zA nR b)) (b : Nat) (M : zM) (a0 : Int) (a1 : Int)  (Q : Int → Prop) (h : wR_common_F R9 a0 a1 M Q) : Met l yX12_common (.code yX12_common cX12_common 2 (some .int) :: zt) (z_rm (dd + 1)) (va_Pc [.int (iI a0), .int (iI a1)] (wPre D dA vwCl (z_tys dA) wR nR b M)) (va_Qi (wQi (fun z9 u9 => u9 = M ∧ Q z9)) (zB D dA vwCl wR nR b) (zA nR b)) 0 0 (zA nR b) := by
  unfold wR_common_F at h
  refine Met.ofW (cc := cX12_common) (maxL := 2) (ret := (some .int)) (by decide) rfl ?_
  intro p e s m args below meth c s₁ B hml hv
  obtain ⟨hargs, hS, hK⟩ := hv
  have hx := B.exec
  have hb := B.bytes
  have hr := B.returns
  have hts := atoms_spec (ws := .code yX12_common cX12_common 2 (some .int) :: zt) B.pre
  have hown : s.vm.findClass RX12 = some m.cls := findClass_of_methodNamed B.named
  have hlocks := B.notSynchronized
  have hS0 : va_S (zA nR b) s.heap s.heap [] := va_S.rf
  have hl := lv_entry ([.int (iI a0), .int (iI a1)]) (n := 2) (Nat.le_of_ble_eq_true rfl)
  have hent : entryFrame m args 2 = F0 m 0 ((lg_sl ([.int (iI a0), .int (iI a1)]) ++ List.replicate (2 - (lg_sl ([.int (iI a0), .int (iI a1)])).length) Slot.unset).toArray) [] := by rw [hargs]; exact lg_entry_eq m ([.int (iI a0), .int (iI a1)]) 2
  rw [hent]
  generalize (lg_sl ([.int (iI a0), .int (iI a1)]) ++ List.replicate (2 - (lg_sl ([.int (iI a0), .int (iI a1)])).length) Slot.unset).toArray = ls at hl ⊢
  have hl : lv_has ls 2 [(0, .int (iI a0)), (1, .int (iI a1))] := hl
  refine lv_iload_n hx hb dX12_common_0 rfl (lv_at hl 1 rfl) ?_
  refine w_if_ne (tgt := 8) hx hb rfl dX12_common_1 (by decide) (fun c1 => ?_) (fun c1 => ?_)
  · skip
    have h := h.1 c1
    refine lv_iload_n hx hb dX12_common_8 rfl (lv_at hl 1 rfl) ?_
    refine lv_iload_n hx hb dX12_common_9 rfl (lv_at hl 0 rfl) ?_
    refine lv_iload_n hx hb dX12_common_10 rfl (lv_at hl 1 rfl) ?_
    obtain ⟨o2, h⟩ := h
    refine w_irem hx hb rfl rfl o2 dX12_common_11 ?_
    refine w_calli (va_runS (As := [.int (iI a1), .int (iI ((sI a0).tmod (sI a1)))]) (rest := []) ⟨hx, hb, hml, hown, hts⟩ (hrec b M a1 ((sI a0).tmod (sI a1)) _ h) (va_cwS 2 hts (z_gS k1132 k1133 k14 k1134) rfl rfl rfl dm_X12_common.2 ⟨by simp only [z_rm, headSpec]; omega, by simp only [z_rm, headSpec]; omega⟩) ⟨wPre_blind, w_pre hS hK⟩ rfl rfl hl.1 rfl (lv_room (Nat.le_of_ble_eq_true rfl)) dX12_common_12 ⟨Nat.le_refl _, Nat.le_refl _⟩) hS0 (fun z4 M3 H locs r5 h hS hS0 => ?_)
    obtain ⟨e6, h⟩ := h
    rw [e6] at hS
    exact w_iret hx hb hr hlocks hS hS0 (sI_of r5) ⟨rfl, h⟩ dX12_common_15
  · skip
    have h := h.2 c1
    refine lv_iload_n hx hb dX12_common_4 rfl (lv_at hl 0 rfl) ?_
    refine lv_goto (tgt := 15) hx hb dX12_common_5 (by decide) ?_
    exact w_iret hx hb hr hlocks hS hS0 rfl ⟨rfl, h⟩ dX12_common_15

def wR_common : Nat → Int → Int → zM → (Int → Prop) → Prop
  | 0 => fun _ _ _ _ => False
  | n + 1 => wR_common_F (wR_common n)
set_option maxHeartbeats 4000000 in
set_option maxRecDepth 100000 in
theorem cR_common (n : Nat) (l : Launch) (D : va_G) (dA : Nat → ClassId) : ∀ (b : Nat) (M : zM) (a0 : Int) (a1 : Int)  (Q : Int → Prop), wR_common n a0 a1 M Q → Met l yX12_common (.code yX12_common cX12_common 2 (some .int) :: zt) (z_rm (1 * n + 0)) (va_Pc [.int (iI a0), .int (iI a1)] (wPre D dA vwCl (z_tys dA) wR nR b M)) (va_Qi (wQi (fun z9 u9 => u9 = M ∧ Q z9)) (zB D dA vwCl wR nR b) (zA nR b)) 0 0 (zA nR b) := by
  induction n with
  | zero => intro b M a0 a1  Q h; exact h.elim
  | succ n ih =>
    intro b M a0 a1  Q h
    rw [show 1 * (n + 1) + 0 = 1 * n + 0 + 0 + 1 from by omega]
    exact cR_common_F (1 * n + 0) _ l D dA (by omega) ih b M a0 a1  Q h

set_option maxRecDepth 100000 in
def wR_steady (a0 : Int) (M : zM) (Q : Int → Prop) : Prop := ((0 ≤ (sI a0) ∧ (sI a0) < 2) ∧ ((sI (M 11 (sI a0).toNat)) ≠ 0 → ((0 ≤ (sI a0) ∧ (sI a0) < 2) ∧ ((0 ≤ (sI (((12 * a0) + (M 11 (sI a0).toNat)) - 1)) ∧ (sI (((12 * a0) + (M 11 (sI a0).toNat)) - 1)) < 24) ∧ Q (sI (M 9 (sI (((12 * a0) + (M 11 (sI a0).toNat)) - 1)).toNat))))) ∧ ((sI (M 11 (sI a0).toNat)) = 0 → Q 0))
set_option maxHeartbeats 4000000 in
set_option maxRecDepth 100000 in
theorem cR_steady (l : Launch) (D : va_G) (dA : Nat → ClassId) (b : Nat) (M : zM) (a0 : Int)  (Q : Int → Prop) (h : wR_steady a0 M Q) : Met l yX12_steady (.code yX12_steady cX12_steady 2 (some .int) :: zt) (z_rm 0) (va_Pc [.ref (b + 0), .int (iI a0)] (wPre D dA vwCl (z_tys dA) wR nR b M)) (va_Qi (wQi (fun z9 u9 => u9 = M ∧ Q z9)) (zB D dA vwCl wR nR b) (zA nR b)) 0 0 (zA nR b) := by
  unfold wR_steady at h
  refine Met.ofW (cc := cX12_steady) (maxL := 2) (ret := (some .int)) (by decide) rfl ?_
  intro p e s m args below meth c s₁ B hml hv
  obtain ⟨hargs, hS, hK⟩ := hv
  have hx := B.exec
  have hb := B.bytes
  have hr := B.returns
  have hts := atoms_spec (ws := .code yX12_steady cX12_steady 2 (some .int) :: zt) B.pre
  have hown : s.vm.findClass RX12 = some m.cls := findClass_of_methodNamed B.named
  have hlocks := B.notSynchronized
  have hS0 : va_S (zA nR b) s.heap s.heap [] := va_S.rf
  have hl := lv_entry ([.ref (b + 0), .int (iI a0)]) (n := 2) (Nat.le_of_ble_eq_true rfl)
  have hent : entryFrame m args 2 = F0 m 0 ((lg_sl ([.ref (b + 0), .int (iI a0)]) ++ List.replicate (2 - (lg_sl ([.ref (b + 0), .int (iI a0)])).length) Slot.unset).toArray) [] := by rw [hargs]; exact lg_entry_eq m ([.ref (b + 0), .int (iI a0)]) 2
  rw [hent]
  generalize (lg_sl ([.ref (b + 0), .int (iI a0)]) ++ List.replicate (2 - (lg_sl ([.ref (b + 0), .int (iI a0)])).length) Slot.unset).toArray = ls at hl ⊢
  have hl : lv_has ls 2 [(0, .ref (b + 0)), (1, .int (iI a0))] := hl
  refine lv_aload_n hx hb dX12_steady_0 rfl (lv_at hl 0 rfl) ?_
  refine w_getr (j2 := 11) hx hb hts (z_memU u12) hown hK.1 hS f12_13 (by decide) (zkd_of (rfl : zcd wR 0 = 50) rfl) (zrf_of (rfl : zcd wR 0 = 50) rfl) (Or.inl (hts _ (z_mem k957))) dX12_steady_1 ?_
  refine lv_iload_n hx hb dX12_steady_4 rfl (lv_at hl 1 rfl) ?_
  obtain ⟨o1, h⟩ := h
  refine w_iald (n := 2) (i := (sI a0)) hx hb hK.1 (t0 := 0) rfl hS (by decide) (zkd_of (rfl : zcd wR 11 = 61) rfl) (zln_of (rfl : zcd wR 11 = 61) rfl) rfl o1.1 o1.2 (by decide) dX12_steady_5 ?_
  refine w_if_ne (tgt := 13) hx hb rfl dX12_steady_6 (by decide) (fun c2 => ?_) (fun c2 => ?_)
  · skip
    have h := h.1 c2
    refine lv_aload_n hx hb dX12_steady_13 rfl (lv_at hl 0 rfl) ?_
    refine w_getr (j2 := 9) hx hb hts (z_memU u12) hown hK.1 hS f12_11 (by decide) (zkd_of (rfl : zcd wR 0 = 50) rfl) (zrf_of (rfl : zcd wR 0 = 50) rfl) (Or.inl (hts _ (z_mem k955))) dX12_steady_14 ?_
    refine z_bipush hx hb (by decide) dX12_steady_17 ?_
    refine lv_iload_n hx hb dX12_steady_19 rfl (lv_at hl 1 rfl) ?_
    refine z_imul hx hb dX12_steady_20 ?_
    refine lv_aload_n hx hb dX12_steady_21 rfl (lv_at hl 0 rfl) ?_
    refine w_getr (j2 := 11) hx hb hts (z_memU u12) hown hK.1 hS f12_13 (by decide) (zkd_of (rfl : zcd wR 0 = 50) rfl) (zrf_of (rfl : zcd wR 0 = 50) rfl) (Or.inl (hts _ (z_mem k957))) dX12_steady_22 ?_
    refine lv_iload_n hx hb dX12_steady_25 rfl (lv_at hl 1 rfl) ?_
    obtain ⟨o3, h⟩ := h
    refine w_iald (n := 2) (i := (sI a0)) hx hb hK.1 (t0 := 0) rfl hS (by decide) (zkd_of (rfl : zcd wR 11 = 61) rfl) (zln_of (rfl : zcd wR 11 = 61) rfl) rfl o3.1 o3.2 (by decide) dX12_steady_26 ?_
    refine z_iadd hx hb dX12_steady_27 ?_
    refine z_iconst hx hb dX12_steady_28 ?_
    refine z_isub hx hb dX12_steady_29 ?_
    obtain ⟨o4, h⟩ := h
    refine w_iald (n := 24) (i := (sI (((12 * a0) + (M 11 (sI a0).toNat)) - 1))) hx hb hK.1 (t0 := 0) rfl hS (by decide) (zkd_of (rfl : zcd wR 9 = 59) rfl) (zln_of (rfl : zcd wR 9 = 59) rfl) rfl o4.1 o4.2 (by decide) dX12_steady_30 ?_
    exact w_iret hx hb hr hlocks hS hS0 rfl ⟨rfl, h⟩ dX12_steady_31
  · skip
    have h := h.2 c2
    refine z_iconst hx hb dX12_steady_9 ?_
    refine lv_goto (tgt := 31) hx hb dX12_steady_10 (by decide) ?_
    exact w_iret hx hb hr hlocks hS hS0 (sI_of (by decide)) ⟨rfl, h⟩ dX12_steady_31

set_option maxRecDepth 100000 in
def wR_lastSpeed (a0 : Int) (M : zM) (Q : Int → Prop) : Prop := ((0 ≤ (sI a0) ∧ (sI a0) < 2) ∧ ((sI (M 11 (sI a0).toNat)) ≠ 0 → ((0 ≤ (sI a0) ∧ (sI a0) < 2) ∧ ((0 ≤ (sI (((12 * a0) + (M 11 (sI a0).toNat)) - 1)) ∧ (sI (((12 * a0) + (M 11 (sI a0).toNat)) - 1)) < 24) ∧ Q (sI (M 10 (sI (((12 * a0) + (M 11 (sI a0).toNat)) - 1)).toNat))))) ∧ ((sI (M 11 (sI a0).toNat)) = 0 → Q 1))
set_option maxHeartbeats 4000000 in
set_option maxRecDepth 100000 in
theorem cR_lastSpeed (l : Launch) (D : va_G) (dA : Nat → ClassId) (b : Nat) (M : zM) (a0 : Int)  (Q : Int → Prop) (h : wR_lastSpeed a0 M Q) : Met l yX12_lastSpeed (.code yX12_lastSpeed cX12_lastSpeed 2 (some .int) :: zt) (z_rm 0) (va_Pc [.ref (b + 0), .int (iI a0)] (wPre D dA vwCl (z_tys dA) wR nR b M)) (va_Qi (wQi (fun z9 u9 => u9 = M ∧ Q z9)) (zB D dA vwCl wR nR b) (zA nR b)) 0 0 (zA nR b) := by
  unfold wR_lastSpeed at h
  refine Met.ofW (cc := cX12_lastSpeed) (maxL := 2) (ret := (some .int)) (by decide) rfl ?_
  intro p e s m args below meth c s₁ B hml hv
  obtain ⟨hargs, hS, hK⟩ := hv
  have hx := B.exec
  have hb := B.bytes
  have hr := B.returns
  have hts := atoms_spec (ws := .code yX12_lastSpeed cX12_lastSpeed 2 (some .int) :: zt) B.pre
  have hown : s.vm.findClass RX12 = some m.cls := findClass_of_methodNamed B.named
  have hlocks := B.notSynchronized
  have hS0 : va_S (zA nR b) s.heap s.heap [] := va_S.rf
  have hl := lv_entry ([.ref (b + 0), .int (iI a0)]) (n := 2) (Nat.le_of_ble_eq_true rfl)
  have hent : entryFrame m args 2 = F0 m 0 ((lg_sl ([.ref (b + 0), .int (iI a0)]) ++ List.replicate (2 - (lg_sl ([.ref (b + 0), .int (iI a0)])).length) Slot.unset).toArray) [] := by rw [hargs]; exact lg_entry_eq m ([.ref (b + 0), .int (iI a0)]) 2
  rw [hent]
  generalize (lg_sl ([.ref (b + 0), .int (iI a0)]) ++ List.replicate (2 - (lg_sl ([.ref (b + 0), .int (iI a0)])).length) Slot.unset).toArray = ls at hl ⊢
  have hl : lv_has ls 2 [(0, .ref (b + 0)), (1, .int (iI a0))] := hl
  refine lv_aload_n hx hb dX12_lastSpeed_0 rfl (lv_at hl 0 rfl) ?_
  refine w_getr (j2 := 11) hx hb hts (z_memU u12) hown hK.1 hS f12_13 (by decide) (zkd_of (rfl : zcd wR 0 = 50) rfl) (zrf_of (rfl : zcd wR 0 = 50) rfl) (Or.inl (hts _ (z_mem k957))) dX12_lastSpeed_1 ?_
  refine lv_iload_n hx hb dX12_lastSpeed_4 rfl (lv_at hl 1 rfl) ?_
  obtain ⟨o1, h⟩ := h
  refine w_iald (n := 2) (i := (sI a0)) hx hb hK.1 (t0 := 0) rfl hS (by decide) (zkd_of (rfl : zcd wR 11 = 61) rfl) (zln_of (rfl : zcd wR 11 = 61) rfl) rfl o1.1 o1.2 (by decide) dX12_lastSpeed_5 ?_
  refine w_if_ne (tgt := 13) hx hb rfl dX12_lastSpeed_6 (by decide) (fun c2 => ?_) (fun c2 => ?_)
  · skip
    have h := h.1 c2
    refine lv_aload_n hx hb dX12_lastSpeed_13 rfl (lv_at hl 0 rfl) ?_
    refine w_getr (j2 := 10) hx hb hts (z_memU u12) hown hK.1 hS f12_12 (by decide) (zkd_of (rfl : zcd wR 0 = 50) rfl) (zrf_of (rfl : zcd wR 0 = 50) rfl) (Or.inl (hts _ (z_mem k956))) dX12_lastSpeed_14 ?_
    refine z_bipush hx hb (by decide) dX12_lastSpeed_17 ?_
    refine lv_iload_n hx hb dX12_lastSpeed_19 rfl (lv_at hl 1 rfl) ?_
    refine z_imul hx hb dX12_lastSpeed_20 ?_
    refine lv_aload_n hx hb dX12_lastSpeed_21 rfl (lv_at hl 0 rfl) ?_
    refine w_getr (j2 := 11) hx hb hts (z_memU u12) hown hK.1 hS f12_13 (by decide) (zkd_of (rfl : zcd wR 0 = 50) rfl) (zrf_of (rfl : zcd wR 0 = 50) rfl) (Or.inl (hts _ (z_mem k957))) dX12_lastSpeed_22 ?_
    refine lv_iload_n hx hb dX12_lastSpeed_25 rfl (lv_at hl 1 rfl) ?_
    obtain ⟨o3, h⟩ := h
    refine w_iald (n := 2) (i := (sI a0)) hx hb hK.1 (t0 := 0) rfl hS (by decide) (zkd_of (rfl : zcd wR 11 = 61) rfl) (zln_of (rfl : zcd wR 11 = 61) rfl) rfl o3.1 o3.2 (by decide) dX12_lastSpeed_26 ?_
    refine z_iadd hx hb dX12_lastSpeed_27 ?_
    refine z_iconst hx hb dX12_lastSpeed_28 ?_
    refine z_isub hx hb dX12_lastSpeed_29 ?_
    obtain ⟨o4, h⟩ := h
    refine w_iald (n := 24) (i := (sI (((12 * a0) + (M 11 (sI a0).toNat)) - 1))) hx hb hK.1 (t0 := 0) rfl hS (by decide) (zkd_of (rfl : zcd wR 10 = 60) rfl) (zln_of (rfl : zcd wR 10 = 60) rfl) rfl o4.1 o4.2 (by decide) dX12_lastSpeed_30 ?_
    exact w_iret hx hb hr hlocks hS hS0 rfl ⟨rfl, h⟩ dX12_lastSpeed_31
  · skip
    have h := h.2 c2
    refine z_iconst hx hb dX12_lastSpeed_9 ?_
    refine lv_goto (tgt := 31) hx hb dX12_lastSpeed_10 (by decide) ?_
    exact w_iret hx hb hr hlocks hS hS0 (sI_of (by decide)) ⟨rfl, h⟩ dX12_lastSpeed_31

set_option maxRecDepth 100000 in
def wR_round (a0 : Int) (M : zM) (Q : Int → Prop) : Prop := ((0 ≤ (sI a0) ∧ (sI a0) < 4) ∧ ((0 ≤ (sI a0) ∧ (sI a0) < 4) ∧ ((0 ≤ (sI a0) ∧ (sI a0) < 4) ∧ wR_lastSpeed (M 5 (sI a0).toNat) M (fun z5 => wR_common 48 (M 4 (sI a0).toNat) (absI z5) M (fun z9 => ((z9 ≠ 0) ∧ Q (sI ((sI (M 4 (sI a0).toNat)).tdiv z9))))))))
set_option maxHeartbeats 4000000 in
set_option maxRecDepth 100000 in
theorem cR_round (l : Launch) (D : va_G) (dA : Nat → ClassId) (b : Nat) (M : zM) (a0 : Int)  (Q : Int → Prop) (h : wR_round a0 M Q) : Met l yX12_round (.code yX12_round cX12_round 2 (some .int) :: zt) (z_rm 49) (va_Pc [.ref (b + 0), .int (iI a0)] (wPre D dA vwCl (z_tys dA) wR nR b M)) (va_Qi (wQi (fun z9 u9 => u9 = M ∧ Q z9)) (zB D dA vwCl wR nR b) (zA nR b)) 0 0 (zA nR b) := by
  unfold wR_round at h
  refine Met.ofW (cc := cX12_round) (maxL := 2) (ret := (some .int)) (by decide) rfl ?_
  intro p e s m args below meth c s₁ B hml hv
  obtain ⟨hargs, hS, hK⟩ := hv
  have hx := B.exec
  have hb := B.bytes
  have hr := B.returns
  have hts := atoms_spec (ws := .code yX12_round cX12_round 2 (some .int) :: zt) B.pre
  have hown : s.vm.findClass RX12 = some m.cls := findClass_of_methodNamed B.named
  have hlocks := B.notSynchronized
  have hS0 : va_S (zA nR b) s.heap s.heap [] := va_S.rf
  have hl := lv_entry ([.ref (b + 0), .int (iI a0)]) (n := 2) (Nat.le_of_ble_eq_true rfl)
  have hent : entryFrame m args 2 = F0 m 0 ((lg_sl ([.ref (b + 0), .int (iI a0)]) ++ List.replicate (2 - (lg_sl ([.ref (b + 0), .int (iI a0)])).length) Slot.unset).toArray) [] := by rw [hargs]; exact lg_entry_eq m ([.ref (b + 0), .int (iI a0)]) 2
  rw [hent]
  generalize (lg_sl ([.ref (b + 0), .int (iI a0)]) ++ List.replicate (2 - (lg_sl ([.ref (b + 0), .int (iI a0)])).length) Slot.unset).toArray = ls at hl ⊢
  have hl : lv_has ls 2 [(0, .ref (b + 0)), (1, .int (iI a0))] := hl
  refine lv_aload_n hx hb dX12_round_0 rfl (lv_at hl 0 rfl) ?_
  refine w_getr (j2 := 4) hx hb hts (z_memU u12) hown hK.1 hS f12_5 (by decide) (zkd_of (rfl : zcd wR 0 = 50) rfl) (zrf_of (rfl : zcd wR 0 = 50) rfl) (Or.inl (hts _ (z_mem k949))) dX12_round_1 ?_
  refine lv_iload_n hx hb dX12_round_4 rfl (lv_at hl 1 rfl) ?_
  obtain ⟨o1, h⟩ := h
  refine w_iald (n := 4) (i := (sI a0)) hx hb hK.1 (t0 := 0) rfl hS (by decide) (zkd_of (rfl : zcd wR 4 = 54) rfl) (zln_of (rfl : zcd wR 4 = 54) rfl) rfl o1.1 o1.2 (by decide) dX12_round_5 ?_
  refine lv_aload_n hx hb dX12_round_6 rfl (lv_at hl 0 rfl) ?_
  refine w_getr (j2 := 4) hx hb hts (z_memU u12) hown hK.1 hS f12_5 (by decide) (zkd_of (rfl : zcd wR 0 = 50) rfl) (zrf_of (rfl : zcd wR 0 = 50) rfl) (Or.inl (hts _ (z_mem k949))) dX12_round_7 ?_
  refine lv_iload_n hx hb dX12_round_10 rfl (lv_at hl 1 rfl) ?_
  obtain ⟨o2, h⟩ := h
  refine w_iald (n := 4) (i := (sI a0)) hx hb hK.1 (t0 := 0) rfl hS (by decide) (zkd_of (rfl : zcd wR 4 = 54) rfl) (zln_of (rfl : zcd wR 4 = 54) rfl) rfl o2.1 o2.2 (by decide) dX12_round_11 ?_
  refine lv_aload_n hx hb dX12_round_12 rfl (lv_at hl 0 rfl) ?_
  refine lv_aload_n hx hb dX12_round_13 rfl (lv_at hl 0 rfl) ?_
  refine w_getr (j2 := 5) hx hb hts (z_memU u12) hown hK.1 hS f12_6 (by decide) (zkd_of (rfl : zcd wR 0 = 50) rfl) (zrf_of (rfl : zcd wR 0 = 50) rfl) (Or.inl (hts _ (z_mem k950))) dX12_round_14 ?_
  refine lv_iload_n hx hb dX12_round_17 rfl (lv_at hl 1 rfl) ?_
  obtain ⟨o3, h⟩ := h
  refine w_iald (n := 4) (i := (sI a0)) hx hb hK.1 (t0 := 0) rfl hS (by decide) (zkd_of (rfl : zcd wR 5 = 55) rfl) (zln_of (rfl : zcd wR 5 = 55) rfl) rfl o3.1 o3.2 (by decide) dX12_round_18 ?_
  refine w_calli (va_runV (As := [.int (iI (M 5 (sI a0).toNat))]) (rest := [.int (iI (M 4 (sI a0).toNat)), .int (iI (M 4 (sI a0).toNat))]) ⟨hx, hb, hml, hown, hts⟩ (cR_lastSpeed l D dA b M (M 5 (sI a0).toNat) _ h) (cwV 1 hts (z_gV k1128 k1129 k1399 k14 k1130) rfl rfl rfl dm_X12_lastSpeed ⟨Nat.le_of_ble_eq_true rfl, Nat.le_of_ble_eq_true rfl⟩) ⟨wPre_blind, (w_recv hS hK.1 (by decide) (zkd_of (rfl : zcd wR 0 = 50) rfl) (by decide) (rfl : vwCl[12]? = some (RX12, TX12, 50))), w_pre hS hK⟩ rfl rfl hl.1 rfl (lv_room (Nat.le_of_ble_eq_true rfl)) dX12_round_19 ⟨Nat.le_refl _, Nat.le_refl _⟩) hS0 (fun z5 M4 H locs r6 h hS hS0 => ?_)
  obtain ⟨e7, h⟩ := h
  rw [e7] at hS
  refine w_mabs hx hb (hml.trans hl.1.symm) hown (hts _ (z_mem k1131)) (hts _ (z_mem k644)) (hts _ (z_mem k15)) (hts _ (z_mem k645)) (by exact Nat.le_of_ble_eq_true rfl) (by exact Nat.le_of_ble_eq_true rfl) (by exact Nat.le_refl _) (by exact Nat.le_refl _) (sI_of r6) dX12_round_22 ?_
  refine w_calli (va_runS (As := [.int (iI (M 4 (sI a0).toNat)), .int (iI (absI z5))]) (rest := [.int (iI (M 4 (sI a0).toNat))]) ⟨hx, hb, hml, hown, hts⟩ (cR_common 48 l D dA b M (M 4 (sI a0).toNat) (absI z5) _ h) (va_cwS 2 hts (z_gS k1132 k1133 k14 k1134) rfl rfl rfl dm_X12_common.2 ⟨Nat.le_of_ble_eq_true rfl, Nat.le_of_ble_eq_true rfl⟩) ⟨wPre_blind, w_pre hS hK⟩ rfl rfl hl.1 rfl (lv_room (Nat.le_of_ble_eq_true rfl)) dX12_round_25 ⟨Nat.le_refl _, Nat.le_refl _⟩) hS0 (fun z9 M8 H locs r10 h hS hS0 => ?_)
  obtain ⟨e11, h⟩ := h
  rw [e11] at hS
  obtain ⟨o12, h⟩ := h
  refine w_idiv hx hb rfl (sI_of r10) o12 dX12_round_28 ?_
  exact w_iret hx hb hr hlocks hS hS0 rfl ⟨rfl, h⟩ dX12_round_29

set_option maxRecDepth 100000 in
def wR_of (a0 : Int) (a1 : Int) (M : zM) (Q : Int → zM → Prop) : Prop := (∀ M1 : zM, M1 = zup M 0 35 0 → wR_isRing a0 M1 (fun z4 => (z4 = 0 → (∀ M8 : zM, M8 = zup M1 0 35 1 → Q 0 M8)) ∧ (z4 ≠ 0 → wR_in a1 0 5 M1 (fun z11 => (z11 ≠ 0 → ((sI a1) = 0 → ((0 ≤ (sI a0) ∧ (sI a0) < 4) ∧ Q (sI (M1 4 (sI a0).toNat)) M1)) ∧ ((sI a1) ≠ 0 → ((sI a1) = 1 → ((0 ≤ (sI a0) ∧ (sI a0) < 4) ∧ Q (sI (M1 5 (sI a0).toNat)) M1)) ∧ ((sI a1) ≠ 1 → ((sI a1) = 2 → ((0 ≤ (sI a0) ∧ (sI a0) < 4) ∧ Q (sI (M1 6 (sI a0).toNat)) M1)) ∧ ((sI a1) ≠ 2 → ((sI a1) = 3 → ((0 ≤ (sI a0) ∧ (sI a0) < 4) ∧ Q (sI (M1 7 (sI a0).toNat)) M1)) ∧ ((sI a1) ≠ 3 → ((sI a1) = 4 → wR_round a0 M1 (fun z25 => Q z25 M1)) ∧ ((sI a1) ≠ 4 → ((0 ≤ (sI a0) ∧ (sI a0) < 4) ∧ Q (sI (M1 8 (sI a0).toNat)) M1))))))) ∧ (z11 = 0 → (∀ M29 : zM, M29 = zup M1 0 35 1 → Q 0 M29))))))
set_option maxHeartbeats 4000000 in
set_option maxRecDepth 100000 in
theorem cR_of (l : Launch) (D : va_G) (dA : Nat → ClassId) (b : Nat) (M : zM) (a0 : Int) (a1 : Int)  (Q : Int → zM → Prop) (h : wR_of a0 a1 M Q) : Met l yX12_of (.code yX12_of cX12_of 3 (some .int) :: zt) (z_rm 50) (va_Pc [.ref (b + 0), .int (iI a0), .int (iI a1)] (wPre D dA vwCl (z_tys dA) wR nR b M)) (va_Qi (wQi Q) (zB D dA vwCl wR nR b) (zA nR b)) 0 0 (zA nR b) := by
  unfold wR_of at h
  refine Met.ofW (cc := cX12_of) (maxL := 3) (ret := (some .int)) (by decide) rfl ?_
  intro p e s m args below meth c s₁ B hml hv
  obtain ⟨hargs, hS, hK⟩ := hv
  have hx := B.exec
  have hb := B.bytes
  have hr := B.returns
  have hts := atoms_spec (ws := .code yX12_of cX12_of 3 (some .int) :: zt) B.pre
  have hown : s.vm.findClass RX12 = some m.cls := findClass_of_methodNamed B.named
  have hlocks := B.notSynchronized
  have hS0 : va_S (zA nR b) s.heap s.heap [] := va_S.rf
  have hl := lv_entry ([.ref (b + 0), .int (iI a0), .int (iI a1)]) (n := 3) (Nat.le_of_ble_eq_true rfl)
  have hent : entryFrame m args 3 = F0 m 0 ((lg_sl ([.ref (b + 0), .int (iI a0), .int (iI a1)]) ++ List.replicate (3 - (lg_sl ([.ref (b + 0), .int (iI a0), .int (iI a1)])).length) Slot.unset).toArray) [] := by rw [hargs]; exact lg_entry_eq m ([.ref (b + 0), .int (iI a0), .int (iI a1)]) 3
  rw [hent]
  generalize (lg_sl ([.ref (b + 0), .int (iI a0), .int (iI a1)]) ++ List.replicate (3 - (lg_sl ([.ref (b + 0), .int (iI a0), .int (iI a1)])).length) Slot.unset).toArray = ls at hl ⊢
  have hl : lv_has ls 3 [(0, .ref (b + 0)), (1, .int (iI a0)), (2, .int (iI a1))] := hl
  refine lv_aload_n hx hb dX12_of_0 rfl (lv_at hl 0 rfl) ?_
  refine z_iconst hx hb dX12_of_1 ?_
  refine w_puti hx hb hts (z_memU u12) tyX12 tyX12_ok nmX12 hown hK.1 hS hS0 f12_35 (by decide) (zkd_of (rfl : zcd wR 0 = 50) rfl) (Or.inl (hts _ (z_mem k979))) rfl (z := 0) (by decide +kernel) dX12_of_2 (fun H locs hS hS0 => ?_)
  obtain ⟨M1, e2⟩ : ∃ M1 : zM, M1 = zup M 0 35 0 := ⟨_, rfl⟩
  rw [← e2] at hS
  have h := h M1 e2
  refine lv_aload_n hx hb dX12_of_5 rfl (lv_at hl 0 rfl) ?_
  refine lv_iload_n hx hb dX12_of_6 rfl (lv_at hl 1 rfl) ?_
  refine w_callz (va_runV (As := [.int (iI a0)]) (rest := []) ⟨hx, hb, hml, hown, hts⟩ (cR_isRing l D dA b M1 a0 _ h) (cwV 1 hts (z_gV k1097 k1098 k1397 k14 k1099) rfl rfl rfl dm_X12_isRing ⟨Nat.le_of_ble_eq_true rfl, Nat.le_of_ble_eq_true rfl⟩) ⟨wPre_blind, (w_recv hS hK.1 (by decide) (zkd_of (rfl : zcd wR 0 = 50) rfl) (by decide) (rfl : vwCl[12]? = some (RX12, TX12, 50))), w_pre hS hK⟩ rfl rfl hl.1 rfl (lv_room (Nat.le_of_ble_eq_true rfl)) dX12_of_7 ⟨Nat.le_refl _, Nat.le_refl _⟩) hS0 (fun z4 M3 H locs r5 h hS hS0 => ?_)
  obtain ⟨e6, h⟩ := h
  rw [e6] at hS
  refine w_if_eq (tgt := 22) hx hb (sI_01 r5) dX12_of_10 (by decide) (fun c7 => ?_) (fun c7 => ?_)
  · skip
    have h := h.1 c7
    refine lv_aload_n hx hb dX12_of_22 rfl (lv_at hl 0 rfl) ?_
    refine z_iconst hx hb dX12_of_23 ?_
    refine w_puti hx hb hts (z_memU u12) tyX12 tyX12_ok nmX12 hown hK.1 hS hS0 f12_35 (by decide) (zkd_of (rfl : zcd wR 0 = 50) rfl) (Or.inl (hts _ (z_mem k979))) rfl (z := 1) (by decide +kernel) dX12_of_24 (fun H locs hS hS0 => ?_)
    obtain ⟨M8, e9⟩ : ∃ M8 : zM, M8 = zup M1 0 35 1 := ⟨_, rfl⟩
    rw [← e9] at hS
    have h := h M8 e9
    refine z_iconst hx hb dX12_of_27 ?_
    exact w_iret hx hb hr hlocks hS hS0 (sI_of (by decide)) h dX12_of_28
  · skip
    have h := h.2 c7
    refine lv_iload_n hx hb dX12_of_13 rfl (lv_at hl 2 rfl) ?_
    refine z_iconst hx hb dX12_of_14 ?_
    refine z_iconst hx hb dX12_of_15 ?_
    refine w_callz (va_runS (As := [.int (iI a1), .int (iI 0), .int (iI 5)]) (rest := []) ⟨hx, hb, hml, hown, hts⟩ (cR_in l D dA b M1 a1 0 5 _ h) (va_cwS 3 hts (z_gS k1083 k1084 k14 k1085) rfl rfl rfl dm_X12_in.2 ⟨Nat.le_of_ble_eq_true rfl, Nat.le_of_ble_eq_true rfl⟩) ⟨wPre_blind, w_pre hS hK⟩ rfl rfl hl.1 rfl (lv_room (Nat.le_of_ble_eq_true rfl)) dX12_of_16 ⟨Nat.le_refl _, Nat.le_refl _⟩) hS0 (fun z11 M10 H locs r12 h hS hS0 => ?_)
    obtain ⟨e13, h⟩ := h
    rw [e13] at hS
    refine w_if_ne (tgt := 29) hx hb (sI_01 r12) dX12_of_19 (by decide) (fun c14 => ?_) (fun c14 => ?_)
    · skip
      have h := h.1 c14
      refine lv_iload_n hx hb dX12_of_29 rfl (lv_at hl 2 rfl) ?_
      rcases Decidable.em ((sI a1) = 0) with c15 | c15
      · skip
        have h := h.1 c15
        refine w_tabIn (tgt := 64) hx hb rfl c15 dX12_of_30 (by decide) (by decide) rfl (by decide) ?_
        refine lv_aload_n hx hb dX12_of_64 rfl (lv_at hl 0 rfl) ?_
        refine w_getr (j2 := 4) hx hb hts (z_memU u12) hown hK.1 hS f12_5 (by decide) (zkd_of (rfl : zcd wR 0 = 50) rfl) (zrf_of (rfl : zcd wR 0 = 50) rfl) (Or.inl (hts _ (z_mem k949))) dX12_of_65 ?_
        refine lv_iload_n hx hb dX12_of_68 rfl (lv_at hl 1 rfl) ?_
        obtain ⟨o16, h⟩ := h
        refine w_iald (n := 4) (i := (sI a0)) hx hb hK.1 (t0 := 0) rfl hS (by decide) (zkd_of (rfl : zcd wR 4 = 54) rfl) (zln_of (rfl : zcd wR 4 = 54) rfl) rfl o16.1 o16.2 (by decide) dX12_of_69 ?_
        exact w_iret hx hb hr hlocks hS hS0 rfl h dX12_of_70
      have h := h.2 c15
      rcases Decidable.em ((sI a1) = 1) with c17 | c17
      · skip
        have h := h.1 c17
        refine w_tabIn (tgt := 71) hx hb rfl c17 dX12_of_30 (by decide) (by decide) rfl (by decide) ?_
        refine lv_aload_n hx hb dX12_of_71 rfl (lv_at hl 0 rfl) ?_
        refine w_getr (j2 := 5) hx hb hts (z_memU u12) hown hK.1 hS f12_6 (by decide) (zkd_of (rfl : zcd wR 0 = 50) rfl) (zrf_of (rfl : zcd wR 0 = 50) rfl) (Or.inl (hts _ (z_mem k950))) dX12_of_72 ?_
        refine lv_iload_n hx hb dX12_of_75 rfl (lv_at hl 1 rfl) ?_
        obtain ⟨o18, h⟩ := h
        refine w_iald (n := 4) (i := (sI a0)) hx hb hK.1 (t0 := 0) rfl hS (by decide) (zkd_of (rfl : zcd wR 5 = 55) rfl) (zln_of (rfl : zcd wR 5 = 55) rfl) rfl o18.1 o18.2 (by decide) dX12_of_76 ?_
        exact w_iret hx hb hr hlocks hS hS0 rfl h dX12_of_77
      have h := h.2 c17
      rcases Decidable.em ((sI a1) = 2) with c19 | c19
      · skip
        have h := h.1 c19
        refine w_tabIn (tgt := 78) hx hb rfl c19 dX12_of_30 (by decide) (by decide) rfl (by decide) ?_
        refine lv_aload_n hx hb dX12_of_78 rfl (lv_at hl 0 rfl) ?_
        refine w_getr (j2 := 6) hx hb hts (z_memU u12) hown hK.1 hS f12_7 (by decide) (zkd_of (rfl : zcd wR 0 = 50) rfl) (zrf_of (rfl : zcd wR 0 = 50) rfl) (Or.inl (hts _ (z_mem k951))) dX12_of_79 ?_
        refine lv_iload_n hx hb dX12_of_82 rfl (lv_at hl 1 rfl) ?_
        obtain ⟨o20, h⟩ := h
        refine w_iald (n := 4) (i := (sI a0)) hx hb hK.1 (t0 := 0) rfl hS (by decide) (zkd_of (rfl : zcd wR 6 = 56) rfl) (zln_of (rfl : zcd wR 6 = 56) rfl) rfl o20.1 o20.2 (by decide) dX12_of_83 ?_
        exact w_iret hx hb hr hlocks hS hS0 rfl h dX12_of_84
      have h := h.2 c19
      rcases Decidable.em ((sI a1) = 3) with c21 | c21
      · skip
        have h := h.1 c21
        refine w_tabIn (tgt := 85) hx hb rfl c21 dX12_of_30 (by decide) (by decide) rfl (by decide) ?_
        refine lv_aload_n hx hb dX12_of_85 rfl (lv_at hl 0 rfl) ?_
        refine w_getr (j2 := 7) hx hb hts (z_memU u12) hown hK.1 hS f12_8 (by decide) (zkd_of (rfl : zcd wR 0 = 50) rfl) (zrf_of (rfl : zcd wR 0 = 50) rfl) (Or.inl (hts _ (z_mem k952))) dX12_of_86 ?_
        refine lv_iload_n hx hb dX12_of_89 rfl (lv_at hl 1 rfl) ?_
        obtain ⟨o22, h⟩ := h
        refine w_iald (n := 4) (i := (sI a0)) hx hb hK.1 (t0 := 0) rfl hS (by decide) (zkd_of (rfl : zcd wR 7 = 57) rfl) (zln_of (rfl : zcd wR 7 = 57) rfl) rfl o22.1 o22.2 (by decide) dX12_of_90 ?_
        exact w_iret hx hb hr hlocks hS hS0 rfl h dX12_of_91
      have h := h.2 c21
      rcases Decidable.em ((sI a1) = 4) with c23 | c23
      · skip
        have h := h.1 c23
        refine w_tabIn (tgt := 92) hx hb rfl c23 dX12_of_30 (by decide) (by decide) rfl (by decide) ?_
        refine lv_aload_n hx hb dX12_of_92 rfl (lv_at hl 0 rfl) ?_
        refine lv_iload_n hx hb dX12_of_93 rfl (lv_at hl 1 rfl) ?_
        refine w_calli (va_runV (As := [.int (iI a0)]) (rest := []) ⟨hx, hb, hml, hown, hts⟩ (cR_round l D dA b M1 a0 _ h) (cwV 1 hts (z_gV k1125 k1126 k1398 k14 k1127) rfl rfl rfl dm_X12_round ⟨Nat.le_of_ble_eq_true rfl, Nat.le_of_ble_eq_true rfl⟩) ⟨wPre_blind, (w_recv hS hK.1 (by decide) (zkd_of (rfl : zcd wR 0 = 50) rfl) (by decide) (rfl : vwCl[12]? = some (RX12, TX12, 50))), w_pre hS hK⟩ rfl rfl hl.1 rfl (lv_room (Nat.le_of_ble_eq_true rfl)) dX12_of_94 ⟨Nat.le_refl _, Nat.le_refl _⟩) hS0 (fun z25 M24 H locs r26 h hS hS0 => ?_)
        obtain ⟨e27, h⟩ := h
        rw [e27] at hS
        exact w_iret hx hb hr hlocks hS hS0 (sI_of r26) h dX12_of_97
      have h := h.2 c23
      refine w_tabOut (tgt := 98) hx hb rfl dX12_of_30 (tb_0_4 _ c15 c17 c19 c21 c23) (by decide) ?_
      refine lv_aload_n hx hb dX12_of_98 rfl (lv_at hl 0 rfl) ?_
      refine w_getr (j2 := 8) hx hb hts (z_memU u12) hown hK.1 hS f12_9 (by decide) (zkd_of (rfl : zcd wR 0 = 50) rfl) (zrf_of (rfl : zcd wR 0 = 50) rfl) (Or.inl (hts _ (z_mem k953))) dX12_of_99 ?_
      refine lv_iload_n hx hb dX12_of_102 rfl (lv_at hl 1 rfl) ?_
      obtain ⟨o28, h⟩ := h
      refine w_iald (n := 4) (i := (sI a0)) hx hb hK.1 (t0 := 0) rfl hS (by decide) (zkd_of (rfl : zcd wR 8 = 58) rfl) (zln_of (rfl : zcd wR 8 = 58) rfl) rfl o28.1 o28.2 (by decide) dX12_of_103 ?_
      exact w_iret hx hb hr hlocks hS hS0 rfl h dX12_of_104
    · skip
      have h := h.2 c14
      refine lv_aload_n hx hb dX12_of_22 rfl (lv_at hl 0 rfl) ?_
      refine z_iconst hx hb dX12_of_23 ?_
      refine w_puti hx hb hts (z_memU u12) tyX12 tyX12_ok nmX12 hown hK.1 hS hS0 f12_35 (by decide) (zkd_of (rfl : zcd wR 0 = 50) rfl) (Or.inl (hts _ (z_mem k979))) rfl (z := 1) (by decide +kernel) dX12_of_24 (fun H locs hS hS0 => ?_)
      obtain ⟨M29, e30⟩ : ∃ M29 : zM, M29 = zup M1 0 35 1 := ⟨_, rfl⟩
      rw [← e30] at hS
      have h := h M29 e30
      refine z_iconst hx hb dX12_of_27 ?_
      exact w_iret hx hb hr hlocks hS hS0 (sI_of (by decide)) h dX12_of_28
