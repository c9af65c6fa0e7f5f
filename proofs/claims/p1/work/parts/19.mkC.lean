theorem dX0_init_0 : decode cX0_init 0 = .ok (.aload_n 0, 1) := by decide +kernel
theorem dX0_init_1 : decode cX0_init 1 = .ok (.invokespecial 3, 3) := by decide +kernel
theorem dX0_init_10 : decode cX0_init 10 = .ok (.iconst 2, 1) := by decide +kernel
theorem dX0_init_11 : decode cX0_init 11 = .ok (.newarray .int, 2) := by decide +kernel
theorem dX0_init_13 : decode cX0_init 13 = .ok (.putfield 15, 3) := by decide +kernel
theorem dX0_init_16 : decode cX0_init 16 = .ok (.aload_n 0, 1) := by decide +kernel
theorem dX0_init_17 : decode cX0_init 17 = .ok (.bipush 10, 2) := by decide +kernel
theorem dX0_init_19 : decode cX0_init 19 = .ok (.newarray .int, 2) := by decide +kernel
theorem dX0_init_21 : decode cX0_init 21 = .ok (.putfield 19, 3) := by decide +kernel
theorem dX0_init_24 : decode cX0_init 24 = .ok (.aload_n 0, 1) := by decide +kernel
theorem dX0_init_25 : decode cX0_init 25 = .ok (.iconst 1, 1) := by decide +kernel
theorem dX0_init_26 : decode cX0_init 26 = .ok (.putfield 22, 3) := by decide +kernel
theorem dX0_init_29 : decode cX0_init 29 = .ok (.aload_n 0, 1) := by decide +kernel
theorem dX0_init_30 : decode cX0_init 30 = .ok (.iconst 0, 1) := by decide +kernel
theorem dX0_init_31 : decode cX0_init 31 = .ok (.putfield 25, 3) := by decide +kernel
theorem dX0_init_34 : decode cX0_init 34 = .ok (.aload_n 0, 1) := by decide +kernel
theorem dX0_init_35 : decode cX0_init 35 = .ok (.iconst 1, 1) := by decide +kernel
theorem dX0_init_36 : decode cX0_init 36 = .ok (.putfield 28, 3) := by decide +kernel
theorem dX0_init_39 : decode cX0_init 39 = .ok (.aload_n 0, 1) := by decide +kernel
theorem dX0_init_4 : decode cX0_init 4 = .ok (.aload_n 0, 1) := by decide +kernel
theorem dX0_init_40 : decode cX0_init 40 = .ok (.iconst 0, 1) := by decide +kernel
theorem dX0_init_41 : decode cX0_init 41 = .ok (.putfield 31, 3) := by decide +kernel
theorem dX0_init_44 : decode cX0_init 44 = .ok (.aload_n 0, 1) := by decide +kernel
theorem dX0_init_45 : decode cX0_init 45 = .ok (.sipush 4001, 3) := by decide +kernel
theorem dX0_init_48 : decode cX0_init 48 = .ok (.newarray .int, 2) := by decide +kernel
theorem dX0_init_5 : decode cX0_init 5 = .ok (.iconst 0, 1) := by decide +kernel
theorem dX0_init_50 : decode cX0_init 50 = .ok (.putfield 34, 3) := by decide +kernel
theorem dX0_init_53 : decode cX0_init 53 = .ok (.aload_n 0, 1) := by decide +kernel
theorem dX0_init_54 : decode cX0_init 54 = .ok (.getfield 19, 3) := by decide +kernel
theorem dX0_init_57 : decode cX0_init 57 = .ok (.bipush 100, 2) := by decide +kernel
theorem dX0_init_59 : decode cX0_init 59 = .ok (.invokestatic 37, 3) := by decide +kernel
theorem dX0_init_6 : decode cX0_init 6 = .ok (.putfield 9, 3) := by decide +kernel
theorem dX0_init_62 : decode cX0_init 62 = .ok (.return_, 1) := by decide +kernel
theorem dX0_init_9 : decode cX0_init 9 = .ok (.aload_n 0, 1) := by decide +kernel
theorem dX10_init_0 : decode cX10_init 0 = .ok (.aload_n 0, 1) := by decide +kernel
theorem dX10_init_1 : decode cX10_init 1 = .ok (.invokespecial 3, 3) := by decide +kernel
theorem dX10_init_10 : decode cX10_init 10 = .ok (.bipush 16, 2) := by decide +kernel
theorem dX10_init_12 : decode cX10_init 12 = .ok (.anewarray 15, 3) := by decide +kernel
theorem dX10_init_15 : decode cX10_init 15 = .ok (.putfield 17, 3) := by decide +kernel
theorem dX10_init_18 : decode cX10_init 18 = .ok (.aload_n 0, 1) := by decide +kernel
theorem dX10_init_19 : decode cX10_init 19 = .ok (.bipush 16, 2) := by decide +kernel
theorem dX10_init_21 : decode cX10_init 21 = .ok (.newarray .int, 2) := by decide +kernel
theorem dX10_init_23 : decode cX10_init 23 = .ok (.putfield 21, 3) := by decide +kernel
theorem dX10_init_26 : decode cX10_init 26 = .ok (.aload_n 0, 1) := by decide +kernel
theorem dX10_init_27 : decode cX10_init 27 = .ok (.bipush 16, 2) := by decide +kernel
theorem dX10_init_29 : decode cX10_init 29 = .ok (.newarray .int, 2) := by decide +kernel
theorem dX10_init_31 : decode cX10_init 31 = .ok (.putfield 25, 3) := by decide +kernel
theorem dX10_init_34 : decode cX10_init 34 = .ok (.aload_n 0, 1) := by decide +kernel
theorem dX10_init_35 : decode cX10_init 35 = .ok (.bipush 25, 2) := by decide +kernel
theorem dX10_init_37 : decode cX10_init 37 = .ok (.newarray .int, 2) := by decide +kernel
theorem dX10_init_39 : decode cX10_init 39 = .ok (.putfield 28, 3) := by decide +kernel
theorem dX10_init_4 : decode cX10_init 4 = .ok (.aload_n 0, 1) := by decide +kernel
theorem dX10_init_42 : decode cX10_init 42 = .ok (.iconst 0, 1) := by decide +kernel
theorem dX10_init_43 : decode cX10_init 43 = .ok (.istore_n 1, 1) := by decide +kernel
theorem dX10_init_44 : decode cX10_init 44 = .ok (.iload_n 1, 1) := by decide +kernel
theorem dX10_init_45 : decode cX10_init 45 = .ok (.bipush 16, 2) := by decide +kernel
theorem dX10_init_47 : decode cX10_init 47 = .ok (.if_icmp .ge 22, 3) := by decide +kernel
theorem dX10_init_5 : decode cX10_init 5 = .ok (.iconst 0, 1) := by decide +kernel
theorem dX10_init_50 : decode cX10_init 50 = .ok (.aload_n 0, 1) := by decide +kernel
theorem dX10_init_51 : decode cX10_init 51 = .ok (.getfield 17, 3) := by decide +kernel
theorem dX10_init_54 : decode cX10_init 54 = .ok (.iload_n 1, 1) := by decide +kernel
theorem dX10_init_55 : decode cX10_init 55 = .ok (.new 15, 3) := by decide +kernel
theorem dX10_init_58 : decode cX10_init 58 = .ok (.dup, 1) := by decide +kernel
theorem dX10_init_59 : decode cX10_init 59 = .ok (.invokespecial 31, 3) := by decide +kernel
theorem dX10_init_6 : decode cX10_init 6 = .ok (.putfield 9, 3) := by decide +kernel
theorem dX10_init_62 : decode cX10_init 62 = .ok (.aastore, 1) := by decide +kernel
theorem dX10_init_63 : decode cX10_init 63 = .ok (.iinc 1 1, 3) := by decide +kernel
theorem dX10_init_66 : decode cX10_init 66 = .ok (.goto (-22), 3) := by decide +kernel
theorem dX10_init_69 : decode cX10_init 69 = .ok (.return_, 1) := by decide +kernel
theorem dX10_init_9 : decode cX10_init 9 = .ok (.aload_n 0, 1) := by decide +kernel
theorem dX11_init_0 : decode cX11_init 0 = .ok (.aload_n 0, 1) := by decide +kernel
theorem dX11_init_1 : decode cX11_init 1 = .ok (.invokespecial 3, 3) := by decide +kernel
theorem dX11_init_100 : decode cX11_init 100 = .ok (.putfield 68, 3) := by decide +kernel
theorem dX11_init_103 : decode cX11_init 103 = .ok (.aload_n 0, 1) := by decide +kernel
theorem dX11_init_104 : decode cX11_init 104 = .ok (.bipush 40, 2) := by decide +kernel
theorem dX11_init_106 : decode cX11_init 106 = .ok (.newarray .int, 2) := by decide +kernel
theorem dX11_init_108 : decode cX11_init 108 = .ok (.putfield 72, 3) := by decide +kernel
theorem dX11_init_111 : decode cX11_init 111 = .ok (.aload_n 0, 1) := by decide +kernel
theorem dX11_init_112 : decode cX11_init 112 = .ok (.iconst 0, 1) := by decide +kernel
theorem dX11_init_113 : decode cX11_init 113 = .ok (.putfield 76, 3) := by decide +kernel
theorem dX11_init_116 : decode cX11_init 116 = .ok (.return_, 1) := by decide +kernel
theorem dX11_init_12 : decode cX11_init 12 = .ok (.putfield 12, 3) := by decide +kernel
theorem dX11_init_15 : decode cX11_init 15 = .ok (.aload_n 0, 1) := by decide +kernel
theorem dX11_init_16 : decode cX11_init 16 = .ok (.new 16, 3) := by decide +kernel
theorem dX11_init_19 : decode cX11_init 19 = .ok (.dup, 1) := by decide +kernel
theorem dX11_init_20 : decode cX11_init 20 = .ok (.invokespecial 18, 3) := by decide +kernel
theorem dX11_init_23 : decode cX11_init 23 = .ok (.putfield 19, 3) := by decide +kernel
theorem dX11_init_26 : decode cX11_init 26 = .ok (.aload_n 0, 1) := by decide +kernel
theorem dX11_init_27 : decode cX11_init 27 = .ok (.new 23, 3) := by decide +kernel
theorem dX11_init_30 : decode cX11_init 30 = .ok (.dup, 1) := by decide +kernel
theorem dX11_init_31 : decode cX11_init 31 = .ok (.invokespecial 25, 3) := by decide +kernel
theorem dX11_init_34 : decode cX11_init 34 = .ok (.putfield 26, 3) := by decide +kernel
theorem dX11_init_37 : decode cX11_init 37 = .ok (.aload_n 0, 1) := by decide +kernel
theorem dX11_init_38 : decode cX11_init 38 = .ok (.new 30, 3) := by decide +kernel
theorem dX11_init_4 : decode cX11_init 4 = .ok (.aload_n 0, 1) := by decide +kernel
theorem dX11_init_41 : decode cX11_init 41 = .ok (.dup, 1) := by decide +kernel
theorem dX11_init_42 : decode cX11_init 42 = .ok (.invokespecial 32, 3) := by decide +kernel
theorem dX11_init_45 : decode cX11_init 45 = .ok (.putfield 33, 3) := by decide +kernel
theorem dX11_init_48 : decode cX11_init 48 = .ok (.aload_n 0, 1) := by decide +kernel
theorem dX11_init_49 : decode cX11_init 49 = .ok (.new 37, 3) := by decide +kernel
theorem dX11_init_5 : decode cX11_init 5 = .ok (.new 9, 3) := by decide +kernel
theorem dX11_init_52 : decode cX11_init 52 = .ok (.dup, 1) := by decide +kernel
theorem dX11_init_53 : decode cX11_init 53 = .ok (.invokespecial 39, 3) := by decide +kernel
theorem dX11_init_56 : decode cX11_init 56 = .ok (.putfield 40, 3) := by decide +kernel
theorem dX11_init_59 : decode cX11_init 59 = .ok (.aload_n 0, 1) := by decide +kernel
theorem dX11_init_60 : decode cX11_init 60 = .ok (.new 44, 3) := by decide +kernel
theorem dX11_init_63 : decode cX11_init 63 = .ok (.dup, 1) := by decide +kernel
theorem dX11_init_64 : decode cX11_init 64 = .ok (.invokespecial 46, 3) := by decide +kernel
theorem dX11_init_67 : decode cX11_init 67 = .ok (.putfield 47, 3) := by decide +kernel
theorem dX11_init_70 : decode cX11_init 70 = .ok (.aload_n 0, 1) := by decide +kernel
theorem dX11_init_71 : decode cX11_init 71 = .ok (.new 51, 3) := by decide +kernel
theorem dX11_init_74 : decode cX11_init 74 = .ok (.dup, 1) := by decide +kernel
theorem dX11_init_75 : decode cX11_init 75 = .ok (.invokespecial 53, 3) := by decide +kernel
theorem dX11_init_78 : decode cX11_init 78 = .ok (.putfield 54, 3) := by decide +kernel
theorem dX11_init_8 : decode cX11_init 8 = .ok (.dup, 1) := by decide +kernel
theorem dX11_init_81 : decode cX11_init 81 = .ok (.aload_n 0, 1) := by decide +kernel
theorem dX11_init_82 : decode cX11_init 82 = .ok (.new 58, 3) := by decide +kernel
theorem dX11_init_85 : decode cX11_init 85 = .ok (.dup, 1) := by decide +kernel
theorem dX11_init_86 : decode cX11_init 86 = .ok (.invokespecial 60, 3) := by decide +kernel
theorem dX11_init_89 : decode cX11_init 89 = .ok (.putfield 61, 3) := by decide +kernel
theorem dX11_init_9 : decode cX11_init 9 = .ok (.invokespecial 11, 3) := by decide +kernel
theorem dX11_init_92 : decode cX11_init 92 = .ok (.aload_n 0, 1) := by decide +kernel
theorem dX11_init_93 : decode cX11_init 93 = .ok (.new 65, 3) := by decide +kernel
theorem dX11_init_96 : decode cX11_init 96 = .ok (.dup, 1) := by decide +kernel
theorem dX11_init_97 : decode cX11_init 97 = .ok (.invokespecial 67, 3) := by decide +kernel
theorem dX1_init_0 : decode cX1_init 0 = .ok (.aload_n 0, 1) := by decide +kernel
theorem dX1_init_1 : decode cX1_init 1 = .ok (.invokespecial 3, 3) := by decide +kernel
theorem dX1_init_10 : decode cX1_init 10 = .ok (.lconst 0, 1) := by decide +kernel
theorem dX1_init_11 : decode cX1_init 11 = .ok (.putfield 15, 3) := by decide +kernel
theorem dX1_init_14 : decode cX1_init 14 = .ok (.aload_n 0, 1) := by decide +kernel
theorem dX1_init_15 : decode cX1_init 15 = .ok (.iconst 4, 1) := by decide +kernel
theorem dX1_init_16 : decode cX1_init 16 = .ok (.newarray .int, 2) := by decide +kernel
theorem dX1_init_18 : decode cX1_init 18 = .ok (.putfield 19, 3) := by decide +kernel
theorem dX1_init_21 : decode cX1_init 21 = .ok (.aload_n 0, 1) := by decide +kernel
theorem dX1_init_22 : decode cX1_init 22 = .ok (.iconst 4, 1) := by decide +kernel
theorem dX1_init_23 : decode cX1_init 23 = .ok (.newarray .int, 2) := by decide +kernel
theorem dX1_init_25 : decode cX1_init 25 = .ok (.putfield 23, 3) := by decide +kernel
theorem dX1_init_28 : decode cX1_init 28 = .ok (.return_, 1) := by decide +kernel
theorem dX1_init_4 : decode cX1_init 4 = .ok (.aload_n 0, 1) := by decide +kernel
theorem dX1_init_5 : decode cX1_init 5 = .ok (.iconst 0, 1) := by decide +kernel
theorem dX1_init_6 : decode cX1_init 6 = .ok (.putfield 9, 3) := by decide +kernel
theorem dX1_init_9 : decode cX1_init 9 = .ok (.aload_n 0, 1) := by decide +kernel
theorem dX2_init_0 : decode cX2_init 0 = .ok (.aload_n 0, 1) := by decide +kernel
theorem dX2_init_1 : decode cX2_init 1 = .ok (.invokespecial 3, 3) := by decide +kernel
theorem dX2_init_12 : decode cX2_init 12 = .ok (.aload_n 0, 1) := by decide +kernel
theorem dX2_init_13 : decode cX2_init 13 = .ok (.bipush 12, 2) := by decide +kernel
theorem dX2_init_15 : decode cX2_init 15 = .ok (.newarray .int, 2) := by decide +kernel
theorem dX2_init_17 : decode cX2_init 17 = .ok (.putfield 15, 3) := by decide +kernel
theorem dX2_init_20 : decode cX2_init 20 = .ok (.aload_n 0, 1) := by decide +kernel
theorem dX2_init_21 : decode cX2_init 21 = .ok (.iconst 0, 1) := by decide +kernel
theorem dX2_init_22 : decode cX2_init 22 = .ok (.putfield 18, 3) := by decide +kernel
theorem dX2_init_25 : decode cX2_init 25 = .ok (.return_, 1) := by decide +kernel
theorem dX2_init_4 : decode cX2_init 4 = .ok (.aload_n 0, 1) := by decide +kernel
theorem dX2_init_5 : decode cX2_init 5 = .ok (.bipush 12, 2) := by decide +kernel
theorem dX2_init_7 : decode cX2_init 7 = .ok (.newarray .int, 2) := by decide +kernel
theorem dX2_init_9 : decode cX2_init 9 = .ok (.putfield 9, 3) := by decide +kernel
theorem dX3_init_0 : decode cX3_init 0 = .ok (.aload_n 0, 1) := by decide +kernel
theorem dX3_init_1 : decode cX3_init 1 = .ok (.invokespecial 3, 3) := by decide +kernel
theorem dX3_init_12 : decode cX3_init 12 = .ok (.aload_n 0, 1) := by decide +kernel
theorem dX3_init_13 : decode cX3_init 13 = .ok (.iconst 0, 1) := by decide +kernel
theorem dX3_init_14 : decode cX3_init 14 = .ok (.putfield 15, 3) := by decide +kernel
theorem dX3_init_17 : decode cX3_init 17 = .ok (.aload_n 0, 1) := by decide +kernel
theorem dX3_init_18 : decode cX3_init 18 = .ok (.bipush 24, 2) := by decide +kernel
theorem dX3_init_20 : decode cX3_init 20 = .ok (.newarray .int, 2) := by decide +kernel
theorem dX3_init_22 : decode cX3_init 22 = .ok (.putfield 19, 3) := by decide +kernel
theorem dX3_init_25 : decode cX3_init 25 = .ok (.aload_n 0, 1) := by decide +kernel
theorem dX3_init_26 : decode cX3_init 26 = .ok (.bipush 24, 2) := by decide +kernel
theorem dX3_init_28 : decode cX3_init 28 = .ok (.newarray .int, 2) := by decide +kernel
theorem dX3_init_30 : decode cX3_init 30 = .ok (.putfield 22, 3) := by decide +kernel
theorem dX3_init_33 : decode cX3_init 33 = .ok (.return_, 1) := by decide +kernel
theorem dX3_init_4 : decode cX3_init 4 = .ok (.aload_n 0, 1) := by decide +kernel
theorem dX3_init_5 : decode cX3_init 5 = .ok (.bipush 60, 2) := by decide +kernel
theorem dX3_init_7 : decode cX3_init 7 = .ok (.newarray .int, 2) := by decide +kernel
theorem dX3_init_9 : decode cX3_init 9 = .ok (.putfield 9, 3) := by decide +kernel
theorem dX4_init_0 : decode cX4_init 0 = .ok (.aload_n 0, 1) := by decide +kernel
theorem dX4_init_1 : decode cX4_init 1 = .ok (.invokespecial 3, 3) := by decide +kernel
theorem dX4_init_10 : decode cX4_init 10 = .ok (.bipush 40, 2) := by decide +kernel
theorem dX4_init_12 : decode cX4_init 12 = .ok (.newarray .int, 2) := by decide +kernel
theorem dX4_init_14 : decode cX4_init 14 = .ok (.putfield 15, 3) := by decide +kernel
theorem dX4_init_17 : decode cX4_init 17 = .ok (.aload_n 0, 1) := by decide +kernel
theorem dX4_init_18 : decode cX4_init 18 = .ok (.iconst 0, 1) := by decide +kernel
theorem dX4_init_19 : decode cX4_init 19 = .ok (.putfield 19, 3) := by decide +kernel
theorem dX4_init_22 : decode cX4_init 22 = .ok (.aload_n 0, 1) := by decide +kernel
theorem dX4_init_23 : decode cX4_init 23 = .ok (.iconst 5, 1) := by decide +kernel
theorem dX4_init_24 : decode cX4_init 24 = .ok (.bipush 8, 2) := by decide +kernel
theorem dX4_init_26 : decode cX4_init 26 = .ok (.multianewarray 22 2, 4) := by decide +kernel
theorem dX4_init_30 : decode cX4_init 30 = .ok (.putfield 24, 3) := by decide +kernel
theorem dX4_init_33 : decode cX4_init 33 = .ok (.aload_n 0, 1) := by decide +kernel
theorem dX4_init_34 : decode cX4_init 34 = .ok (.iconst 5, 1) := by decide +kernel
theorem dX4_init_35 : decode cX4_init 35 = .ok (.newarray .int, 2) := by decide +kernel
theorem dX4_init_37 : decode cX4_init 37 = .ok (.putfield 27, 3) := by decide +kernel
theorem dX4_init_4 : decode cX4_init 4 = .ok (.aload_n 0, 1) := by decide +kernel
theorem dX4_init_40 : decode cX4_init 40 = .ok (.aload_n 0, 1) := by decide +kernel
theorem dX4_init_41 : decode cX4_init 41 = .ok (.bipush 40, 2) := by decide +kernel
theorem dX4_init_43 : decode cX4_init 43 = .ok (.newarray .int, 2) := by decide +kernel
theorem dX4_init_45 : decode cX4_init 45 = .ok (.putfield 30, 3) := by decide +kernel
theorem dX4_init_48 : decode cX4_init 48 = .ok (.return_, 1) := by decide +kernel
theorem dX4_init_5 : decode cX4_init 5 = .ok (.iconst 0, 1) := by decide +kernel
theorem dX4_init_6 : decode cX4_init 6 = .ok (.putfield 9, 3) := by decide +kernel
theorem dX4_init_9 : decode cX4_init 9 = .ok (.aload_n 0, 1) := by decide +kernel
theorem dX5_init_0 : decode cX5_init 0 = .ok (.aload_n 0, 1) := by decide +kernel
theorem dX5_init_1 : decode cX5_init 1 = .ok (.invokespecial 3, 3) := by decide +kernel
theorem dX5_init_12 : decode cX5_init 12 = .ok (.aload_n 0, 1) := by decide +kernel
theorem dX5_init_13 : decode cX5_init 13 = .ok (.bipush 6, 2) := by decide +kernel
theorem dX5_init_15 : decode cX5_init 15 = .ok (.newarray .int, 2) := by decide +kernel
theorem dX5_init_17 : decode cX5_init 17 = .ok (.putfield 15, 3) := by decide +kernel
theorem dX5_init_20 : decode cX5_init 20 = .ok (.aload_n 0, 1) := by decide +kernel
theorem dX5_init_21 : decode cX5_init 21 = .ok (.iconst 0, 1) := by decide +kernel
theorem dX5_init_22 : decode cX5_init 22 = .ok (.putfield 18, 3) := by decide +kernel
theorem dX5_init_25 : decode cX5_init 25 = .ok (.aload_n 0, 1) := by decide +kernel
theorem dX5_init_26 : decode cX5_init 26 = .ok (.bipush 8, 2) := by decide +kernel
theorem dX5_init_28 : decode cX5_init 28 = .ok (.newarray .int, 2) := by decide +kernel
theorem dX5_init_30 : decode cX5_init 30 = .ok (.putfield 22, 3) := by decide +kernel
theorem dX5_init_33 : decode cX5_init 33 = .ok (.aload_n 0, 1) := by decide +kernel
theorem dX5_init_34 : decode cX5_init 34 = .ok (.iconst 4, 1) := by decide +kernel
theorem dX5_init_35 : decode cX5_init 35 = .ok (.sipush 300, 3) := by decide +kernel
theorem dX5_init_38 : decode cX5_init 38 = .ok (.multianewarray 25 2, 4) := by decide +kernel
theorem dX5_init_4 : decode cX5_init 4 = .ok (.aload_n 0, 1) := by decide +kernel
theorem dX5_init_42 : decode cX5_init 42 = .ok (.putfield 27, 3) := by decide +kernel
theorem dX5_init_45 : decode cX5_init 45 = .ok (.aload_n 0, 1) := by decide +kernel
theorem dX5_init_46 : decode cX5_init 46 = .ok (.iconst 5, 1) := by decide +kernel
theorem dX5_init_47 : decode cX5_init 47 = .ok (.bipush 64, 2) := by decide +kernel
theorem dX5_init_49 : decode cX5_init 49 = .ok (.multianewarray 25 2, 4) := by decide +kernel
theorem dX5_init_5 : decode cX5_init 5 = .ok (.bipush 6, 2) := by decide +kernel
theorem dX5_init_53 : decode cX5_init 53 = .ok (.putfield 30, 3) := by decide +kernel
theorem dX5_init_56 : decode cX5_init 56 = .ok (.aload_n 0, 1) := by decide +kernel
theorem dX5_init_57 : decode cX5_init 57 = .ok (.bipush 64, 2) := by decide +kernel
theorem dX5_init_59 : decode cX5_init 59 = .ok (.newarray .int, 2) := by decide +kernel
theorem dX5_init_61 : decode cX5_init 61 = .ok (.putfield 33, 3) := by decide +kernel
theorem dX5_init_64 : decode cX5_init 64 = .ok (.aload_n 0, 1) := by decide +kernel
theorem dX5_init_65 : decode cX5_init 65 = .ok (.bipush 24, 2) := by decide +kernel
theorem dX5_init_67 : decode cX5_init 67 = .ok (.newarray .int, 2) := by decide +kernel
theorem dX5_init_69 : decode cX5_init 69 = .ok (.putfield 36, 3) := by decide +kernel
theorem dX5_init_7 : decode cX5_init 7 = .ok (.newarray .int, 2) := by decide +kernel
theorem dX5_init_72 : decode cX5_init 72 = .ok (.aload_n 0, 1) := by decide +kernel
theorem dX5_init_73 : decode cX5_init 73 = .ok (.bipush 6, 2) := by decide +kernel
theorem dX5_init_75 : decode cX5_init 75 = .ok (.newarray .int, 2) := by decide +kernel
theorem dX5_init_77 : decode cX5_init 77 = .ok (.putfield 39, 3) := by decide +kernel
theorem dX5_init_80 : decode cX5_init 80 = .ok (.return_, 1) := by decide +kernel
theorem dX5_init_9 : decode cX5_init 9 = .ok (.putfield 9, 3) := by decide +kernel
theorem dX6_init_0 : decode cX6_init 0 = .ok (.aload_n 0, 1) := by decide +kernel
theorem dX6_init_1 : decode cX6_init 1 = .ok (.invokespecial 3, 3) := by decide +kernel
theorem dX6_init_12 : decode cX6_init 12 = .ok (.putfield 12, 3) := by decide +kernel
theorem dX6_init_15 : decode cX6_init 15 = .ok (.aload_n 0, 1) := by decide +kernel
theorem dX6_init_16 : decode cX6_init 16 = .ok (.iconst 0, 1) := by decide +kernel
theorem dX6_init_17 : decode cX6_init 17 = .ok (.putfield 18, 3) := by decide +kernel
theorem dX6_init_20 : decode cX6_init 20 = .ok (.aload_n 0, 1) := by decide +kernel
theorem dX6_init_21 : decode cX6_init 21 = .ok (.iconst 0, 1) := by decide +kernel
theorem dX6_init_22 : decode cX6_init 22 = .ok (.putfield 22, 3) := by decide +kernel
theorem dX6_init_25 : decode cX6_init 25 = .ok (.aload_n 0, 1) := by decide +kernel
theorem dX6_init_26 : decode cX6_init 26 = .ok (.iconst 1, 1) := by decide +kernel
theorem dX6_init_27 : decode cX6_init 27 = .ok (.putfield 25, 3) := by decide +kernel
theorem dX6_init_30 : decode cX6_init 30 = .ok (.aload_n 0, 1) := by decide +kernel
theorem dX6_init_31 : decode cX6_init 31 = .ok (.iconst 0, 1) := by decide +kernel
theorem dX6_init_32 : decode cX6_init 32 = .ok (.putfield 28, 3) := by decide +kernel
theorem dX6_init_35 : decode cX6_init 35 = .ok (.aload_n 0, 1) := by decide +kernel
theorem dX6_init_36 : decode cX6_init 36 = .ok (.bipush 24, 2) := by decide +kernel
theorem dX6_init_38 : decode cX6_init 38 = .ok (.newarray .int, 2) := by decide +kernel
theorem dX6_init_4 : decode cX6_init 4 = .ok (.aload_n 0, 1) := by decide +kernel
theorem dX6_init_40 : decode cX6_init 40 = .ok (.putfield 31, 3) := by decide +kernel
theorem dX6_init_43 : decode cX6_init 43 = .ok (.return_, 1) := by decide +kernel
theorem dX6_init_5 : decode cX6_init 5 = .ok (.new 9, 3) := by decide +kernel
theorem dX6_init_8 : decode cX6_init 8 = .ok (.dup, 1) := by decide +kernel
theorem dX6_init_9 : decode cX6_init 9 = .ok (.invokespecial 11, 3) := by decide +kernel
theorem dX7_init_0 : decode cX7_init 0 = .ok (.aload_n 0, 1) := by decide +kernel
theorem dX7_init_1 : decode cX7_init 1 = .ok (.invokespecial 3, 3) := by decide +kernel
theorem dX7_init_12 : decode cX7_init 12 = .ok (.aload_n 0, 1) := by decide +kernel
theorem dX7_init_13 : decode cX7_init 13 = .ok (.iconst 0, 1) := by decide +kernel
theorem dX7_init_14 : decode cX7_init 14 = .ok (.putfield 15, 3) := by decide +kernel
theorem dX7_init_17 : decode cX7_init 17 = .ok (.aload_n 0, 1) := by decide +kernel
theorem dX7_init_18 : decode cX7_init 18 = .ok (.iconst 0, 1) := by decide +kernel
theorem dX7_init_19 : decode cX7_init 19 = .ok (.putfield 19, 3) := by decide +kernel
theorem dX7_init_22 : decode cX7_init 22 = .ok (.aload_n 0, 1) := by decide +kernel
theorem dX7_init_23 : decode cX7_init 23 = .ok (.iconst 0, 1) := by decide +kernel
theorem dX7_init_24 : decode cX7_init 24 = .ok (.putfield 22, 3) := by decide +kernel
theorem dX7_init_27 : decode cX7_init 27 = .ok (.aload_n 0, 1) := by decide +kernel
theorem dX7_init_28 : decode cX7_init 28 = .ok (.bipush 6, 2) := by decide +kernel
theorem dX7_init_30 : decode cX7_init 30 = .ok (.anewarray 25, 3) := by decide +kernel
theorem dX7_init_33 : decode cX7_init 33 = .ok (.putfield 27, 3) := by decide +kernel
theorem dX7_init_36 : decode cX7_init 36 = .ok (.aload_n 0, 1) := by decide +kernel
theorem dX7_init_37 : decode cX7_init 37 = .ok (.bipush 6, 2) := by decide +kernel
theorem dX7_init_39 : decode cX7_init 39 = .ok (.anewarray 25, 3) := by decide +kernel
theorem dX7_init_4 : decode cX7_init 4 = .ok (.aload_n 0, 1) := by decide +kernel
theorem dX7_init_42 : decode cX7_init 42 = .ok (.putfield 31, 3) := by decide +kernel
theorem dX7_init_45 : decode cX7_init 45 = .ok (.aload_n 0, 1) := by decide +kernel
theorem dX7_init_46 : decode cX7_init 46 = .ok (.bipush 6, 2) := by decide +kernel
theorem dX7_init_48 : decode cX7_init 48 = .ok (.newarray .int, 2) := by decide +kernel
theorem dX7_init_5 : decode cX7_init 5 = .ok (.bipush 100, 2) := by decide +kernel
theorem dX7_init_50 : decode cX7_init 50 = .ok (.putfield 34, 3) := by decide +kernel
theorem dX7_init_53 : decode cX7_init 53 = .ok (.iconst 0, 1) := by decide +kernel
theorem dX7_init_54 : decode cX7_init 54 = .ok (.istore_n 1, 1) := by decide +kernel
theorem dX7_init_55 : decode cX7_init 55 = .ok (.iload_n 1, 1) := by decide +kernel
theorem dX7_init_56 : decode cX7_init 56 = .ok (.iconst 5, 1) := by decide +kernel
theorem dX7_init_57 : decode cX7_init 57 = .ok (.if_icmp .gt 35, 3) := by decide +kernel
theorem dX7_init_60 : decode cX7_init 60 = .ok (.aload_n 0, 1) := by decide +kernel
theorem dX7_init_61 : decode cX7_init 61 = .ok (.getfield 27, 3) := by decide +kernel
theorem dX7_init_64 : decode cX7_init 64 = .ok (.iload_n 1, 1) := by decide +kernel
theorem dX7_init_65 : decode cX7_init 65 = .ok (.new 25, 3) := by decide +kernel
theorem dX7_init_68 : decode cX7_init 68 = .ok (.dup, 1) := by decide +kernel
theorem dX7_init_69 : decode cX7_init 69 = .ok (.invokespecial 37, 3) := by decide +kernel
theorem dX7_init_7 : decode cX7_init 7 = .ok (.newarray .int, 2) := by decide +kernel
theorem dX7_init_72 : decode cX7_init 72 = .ok (.aastore, 1) := by decide +kernel
theorem dX7_init_73 : decode cX7_init 73 = .ok (.aload_n 0, 1) := by decide +kernel
theorem dX7_init_74 : decode cX7_init 74 = .ok (.getfield 31, 3) := by decide +kernel
theorem dX7_init_77 : decode cX7_init 77 = .ok (.iload_n 1, 1) := by decide +kernel
theorem dX7_init_78 : decode cX7_init 78 = .ok (.new 25, 3) := by decide +kernel
theorem dX7_init_81 : decode cX7_init 81 = .ok (.dup, 1) := by decide +kernel
theorem dX7_init_82 : decode cX7_init 82 = .ok (.invokespecial 37, 3) := by decide +kernel
theorem dX7_init_85 : decode cX7_init 85 = .ok (.aastore, 1) := by decide +kernel
theorem dX7_init_86 : decode cX7_init 86 = .ok (.iinc 1 1, 3) := by decide +kernel
theorem dX7_init_89 : decode cX7_init 89 = .ok (.goto (-34), 3) := by decide +kernel
theorem dX7_init_9 : decode cX7_init 9 = .ok (.putfield 9, 3) := by decide +kernel
theorem dX7_init_92 : decode cX7_init 92 = .ok (.return_, 1) := by decide +kernel
theorem dX8_init_0 : decode cX8_init 0 = .ok (.aload_n 0, 1) := by decide +kernel
theorem dX8_init_1 : decode cX8_init 1 = .ok (.invokespecial 3, 3) := by decide +kernel
theorem dX8_init_12 : decode cX8_init 12 = .ok (.aload_n 0, 1) := by decide +kernel
theorem dX8_init_13 : decode cX8_init 13 = .ok (.iconst 0, 1) := by decide +kernel
theorem dX8_init_14 : decode cX8_init 14 = .ok (.putfield 15, 3) := by decide +kernel
theorem dX8_init_17 : decode cX8_init 17 = .ok (.return_, 1) := by decide +kernel
theorem dX8_init_4 : decode cX8_init 4 = .ok (.aload_n 0, 1) := by decide +kernel
theorem dX8_init_5 : decode cX8_init 5 = .ok (.bipush 24, 2) := by decide +kernel
theorem dX8_init_7 : decode cX8_init 7 = .ok (.newarray .int, 2) := by decide +kernel
theorem dX8_init_9 : decode cX8_init 9 = .ok (.putfield 9, 3) := by decide +kernel
theorem dX9_init_0 : decode cX9_init 0 = .ok (.aload_n 0, 1) := by decide +kernel
theorem dX9_init_1 : decode cX9_init 1 = .ok (.invokespecial 3, 3) := by decide +kernel
theorem dX9_init_12 : decode cX9_init 12 = .ok (.aload_n 0, 1) := by decide +kernel
theorem dX9_init_13 : decode cX9_init 13 = .ok (.iconst 4, 1) := by decide +kernel
theorem dX9_init_14 : decode cX9_init 14 = .ok (.anewarray 17, 3) := by decide +kernel
theorem dX9_init_17 : decode cX9_init 17 = .ok (.putfield 19, 3) := by decide +kernel
theorem dX9_init_20 : decode cX9_init 20 = .ok (.aload_n 0, 1) := by decide +kernel
theorem dX9_init_21 : decode cX9_init 21 = .ok (.iconst 0, 1) := by decide +kernel
theorem dX9_init_22 : decode cX9_init 22 = .ok (.putfield 23, 3) := by decide +kernel
theorem dX9_init_25 : decode cX9_init 25 = .ok (.iconst 0, 1) := by decide +kernel
theorem dX9_init_26 : decode cX9_init 26 = .ok (.istore_n 1, 1) := by decide +kernel
theorem dX9_init_27 : decode cX9_init 27 = .ok (.iload_n 1, 1) := by decide +kernel
theorem dX9_init_28 : decode cX9_init 28 = .ok (.iconst 2, 1) := by decide +kernel
theorem dX9_init_29 : decode cX9_init 29 = .ok (.if_icmp .ge 22, 3) := by decide +kernel
theorem dX9_init_32 : decode cX9_init 32 = .ok (.aload_n 0, 1) := by decide +kernel
theorem dX9_init_33 : decode cX9_init 33 = .ok (.getfield 11, 3) := by decide +kernel
theorem dX9_init_36 : decode cX9_init 36 = .ok (.iload_n 1, 1) := by decide +kernel
theorem dX9_init_37 : decode cX9_init 37 = .ok (.new 9, 3) := by decide +kernel
theorem dX9_init_4 : decode cX9_init 4 = .ok (.aload_n 0, 1) := by decide +kernel
theorem dX9_init_40 : decode cX9_init 40 = .ok (.dup, 1) := by decide +kernel
theorem dX9_init_41 : decode cX9_init 41 = .ok (.invokespecial 27, 3) := by decide +kernel
theorem dX9_init_44 : decode cX9_init 44 = .ok (.aastore, 1) := by decide +kernel
theorem dX9_init_45 : decode cX9_init 45 = .ok (.iinc 1 1, 3) := by decide +kernel
theorem dX9_init_48 : decode cX9_init 48 = .ok (.goto (-21), 3) := by decide +kernel
theorem dX9_init_5 : decode cX9_init 5 = .ok (.iconst 2, 1) := by decide +kernel
theorem dX9_init_51 : decode cX9_init 51 = .ok (.iconst 0, 1) := by decide +kernel
theorem dX9_init_52 : decode cX9_init 52 = .ok (.istore_n 1, 1) := by decide +kernel
theorem dX9_init_53 : decode cX9_init 53 = .ok (.iload_n 1, 1) := by decide +kernel
theorem dX9_init_54 : decode cX9_init 54 = .ok (.iconst 4, 1) := by decide +kernel
theorem dX9_init_55 : decode cX9_init 55 = .ok (.if_icmp .ge 22, 3) := by decide +kernel
theorem dX9_init_58 : decode cX9_init 58 = .ok (.aload_n 0, 1) := by decide +kernel
theorem dX9_init_59 : decode cX9_init 59 = .ok (.getfield 19, 3) := by decide +kernel
theorem dX9_init_6 : decode cX9_init 6 = .ok (.anewarray 9, 3) := by decide +kernel
theorem dX9_init_62 : decode cX9_init 62 = .ok (.iload_n 1, 1) := by decide +kernel
theorem dX9_init_63 : decode cX9_init 63 = .ok (.new 17, 3) := by decide +kernel
theorem dX9_init_66 : decode cX9_init 66 = .ok (.dup, 1) := by decide +kernel
theorem dX9_init_67 : decode cX9_init 67 = .ok (.invokespecial 28, 3) := by decide +kernel
theorem dX9_init_70 : decode cX9_init 70 = .ok (.aastore, 1) := by decide +kernel
theorem dX9_init_71 : decode cX9_init 71 = .ok (.iinc 1 1, 3) := by decide +kernel
theorem dX9_init_74 : decode cX9_init 74 = .ok (.goto (-21), 3) := by decide +kernel
theorem dX9_init_77 : decode cX9_init 77 = .ok (.return_, 1) := by decide +kernel
theorem dX9_init_9 : decode cX9_init 9 = .ok (.putfield 11, 3) := by decide +kernel
set_option maxHeartbeats 4000000 in
set_option maxRecDepth 100000 in
theorem mk_Strip (l : Launch) (D : va_G) (dA : Nat → ClassId) (b : Nat) (M : zM) (T : zT) (n j : Nat) (lt_j : j < n) (cd_j : zcd wC j = 6) (cd_n : zcd wC n = 7) : Met l yX8_init (.code yX8_init cX8_init 1 none :: zt) (y_rm 1 1 24) (va_Pc [.ref (b + j)] (yP D dA vwCl (z_tys dA) wC n b M T)) (va_Qv (fun _ => True) (yB D dA vwCl wC (n + 1) b (zup M j 1 0) (tup T j 0 n)) (yA b)) 1 24 (yA b) := by
  refine Met.ofW (cc := cX8_init) (maxL := 1) (ret := none) (by decide) rfl ?_
  intro p e s m args below meth c s₁ B hml hv
  obtain ⟨hargs, hY, hK, hO⟩ := hv
  have hx := B.exec
  have hb := B.bytes
  have hr := B.returns
  have hts := atoms_spec (ws := .code yX8_init cX8_init 1 none :: zt) B.pre
  have hown : s.vm.findClass RX8 = some m.cls := findClass_of_methodNamed B.named
  have hlocks := B.notSynchronized
  have hin : meth.name = "<init>" := (name_of_methodNamed B.named B.method).1
  have hS0 : va_S (yA b) s.heap s.heap [] := va_S.rf
  have hl := lv_entry ([.ref (b + j)]) (n := 1) (Nat.le_of_ble_eq_true rfl)
  have hent : entryFrame m args 1 = F0 m 0 ((lg_sl ([.ref (b + j)]) ++ List.replicate (1 - (lg_sl ([.ref (b + j)])).length) Slot.unset).toArray) [] := by rw [hargs]; exact lg_entry_eq m ([.ref (b + j)]) 1
  rw [hent]
  generalize (lg_sl ([.ref (b + j)]) ++ List.replicate (1 - (lg_sl ([.ref (b + j)])).length) Slot.unset).toArray = ls at hl ⊢
  have hl : lv_has ls 1 [(0, .ref (b + j))] := hl
  refine lv_aload_n hx hb dX8_init_0 rfl (lv_at hl 0 rfl) ?_
  refine W.objInit hx hb hown (hts _ (z_mem k40)) (hts _ (z_mem k28)) (hts _ (z_mem k29)) rfl (by rw [hml]; exact hl.1) rfl dX8_init_1 (Nat.le_of_ble_eq_true rfl) (Nat.le_of_ble_eq_true rfl) ?_
  refine W.eq (g2 := F0 m 4 ls []) rfl ?_
  refine lv_aload_n hx hb dX8_init_4 rfl (lv_at hl 0 rfl) ?_
  refine z_bipush hx hb (by decide) dX8_init_5 ?_
  refine y_newa (atype := .int) hx hb (hts _ (z_mem k53)) (t0 := 0) (N := 24) (by decide) (by decide) (hK.1.2 0 _ rfl).2 rfl hY hS0 (zkd_of cd_n rfl) (zln_of cd_n rfl) (by decide) rfl (by decide) (by decide) (Nat.le_of_ble_eq_true rfl) (Nat.le_of_ble_eq_true rfl) dX8_init_7 (fun H hY hS0 => ?_)
  have hY : yS D dA vwCl wC (n + 1) b _ _ H := hY
  refine y_putrF (t := n) hx hb hts (z_memU u8) tyX8 tyX8_ok nmX8 hown hK.1 hY hS0 f8_0 (by omega) (zkd_of cd_j rfl) (hts _ (z_mem k41)) rfl hin rfl (tyX8_ok 0 (by decide)) (fun _ => rfl) (fun _ => rfl) dX8_init_9 (fun H locs hY hS0 => ?_)
  refine lv_aload_n hx hb dX8_init_12 rfl (lv_at hl 0 rfl) ?_
  refine z_iconst hx hb dX8_init_13 ?_
  refine y_puti (z := 0) hx hb hts (z_memU u8) tyX8 tyX8_ok nmX8 hown hK.1 hY hS0 f8_1 (by omega) (zkd_of cd_j rfl) (Or.inl (hts _ (z_mem k44))) rfl (by decide +kernel) (zbd_in cd_j rfl (by decide)) dX8_init_14 (fun H locs hY hS0 => ?_)
  exact y_ret hx hb hr hlocks hY hS0 dX8_init_17
def mT_C1 (T : zT) : zT := (tup (tup (tup (tup (tup (tup (tup (tup (tup (tup (tup (tup (tup (tup (tup (tup (tup (tup (tup (tup (tup (tup (tup (tup (tup (tup (tup (tup T 1 0 2) 1 4 3) 1 5 4) 1 6 5) 6 0 7) 3 (0 : Int).toNat 6) 8 0 9) 4 (0 : Int).toNat 8) 10 0 11) 3 (1 : Int).toNat 10) 12 0 13) 4 (1 : Int).toNat 12) 14 0 15) 3 (2 : Int).toNat 14) 16 0 17) 4 (2 : Int).toNat 16) 18 0 19) 3 (3 : Int).toNat 18) 20 0 21) 4 (3 : Int).toNat 20) 22 0 23) 3 (4 : Int).toNat 22) 24 0 25) 4 (4 : Int).toNat 24) 26 0 27) 3 (5 : Int).toNat 26) 28 0 29) 4 (5 : Int).toNat 28)
def mM_C1 (M : zM) : zM := (zup (zup (zup (zup (zup (zup (zup (zup (zup (zup (zup (zup (zup (zup (zup M 1 1 0) 1 2 0) 1 3 0) 6 1 0) 8 1 0) 10 1 0) 12 1 0) 14 1 0) 16 1 0) 18 1 0) 20 1 0) 22 1 0) 24 1 0) 26 1 0) 28 1 0)
set_option maxHeartbeats 4000000 in
set_option maxRecDepth 100000 in
theorem mk_C1 (l : Launch) (D : va_G) (dA : Nat → ClassId) (b : Nat) (M : zM) (T : zT) : Met l yX7_init (.code yX7_init cX7_init 2 none :: zt) (y_rm 2 28 430) (va_Pc [.ref (b + 1)] (yP D dA vwCl (z_tys dA) wC 2 b M T)) (va_Qv (fun _ => True) (yB D dA vwCl wC 30 b (mM_C1 M) (mT_C1 T)) (yA b)) 28 430 (yA b) := by
  refine Met.ofW (cc := cX7_init) (maxL := 2) (ret := none) (by decide) rfl ?_
  intro p e s m args below meth c s₁ B hml hv
  obtain ⟨hargs, hY, hK, hO⟩ := hv
  have hx := B.exec
  have hb := B.bytes
  have hr := B.returns
  have hts := atoms_spec (ws := .code yX7_init cX7_init 2 none :: zt) B.pre
  have hown : s.vm.findClass RX7 = some m.cls := findClass_of_methodNamed B.named
  have hlocks := B.notSynchronized
  have hin : meth.name = "<init>" := (name_of_methodNamed B.named B.method).1
  have hS0 : va_S (yA b) s.heap s.heap [] := va_S.rf
  have hl := lv_entry ([.ref (b + 1)]) (n := 2) (Nat.le_of_ble_eq_true rfl)
  have hent : entryFrame m args 2 = F0 m 0 ((lg_sl ([.ref (b + 1)]) ++ List.replicate (2 - (lg_sl ([.ref (b + 1)])).length) Slot.unset).toArray) [] := by rw [hargs]; exact lg_entry_eq m ([.ref (b + 1)]) 2
  rw [hent]
  generalize (lg_sl ([.ref (b + 1)]) ++ List.replicate (2 - (lg_sl ([.ref (b + 1)])).length) Slot.unset).toArray = ls at hl ⊢
  have hl : lv_has ls 2 [(0, .ref (b + 1))] := hl
  refine lv_aload_n hx hb dX7_init_0 rfl (lv_at hl 0 rfl) ?_
  refine W.objInit hx hb hown (hts _ (z_mem k35)) (hts _ (z_mem k28)) (hts _ (z_mem k29)) rfl (by rw [hml]; exact hl.1) rfl dX7_init_1 (Nat.le_of_ble_eq_true rfl) (Nat.le_of_ble_eq_true rfl) ?_
  refine W.eq (g2 := F0 m 4 ls []) rfl ?_
  refine lv_aload_n hx hb dX7_init_4 rfl (lv_at hl 0 rfl) ?_
  refine z_bipush hx hb (by decide) dX7_init_5 ?_
  refine y_newa (atype := .int) hx hb (hts _ (z_mem k53)) (t0 := 0) (N := 100) (by decide) (by decide) (hK.1.2 0 _ rfl).2 rfl hY hS0 (zkd_of (rfl : zcd wC 2 = 2) rfl) (zln_of (rfl : zcd wC 2 = 2) rfl) (by decide) rfl (by decide) (by decide) (Nat.le_of_ble_eq_true rfl) (Nat.le_of_ble_eq_true rfl) dX7_init_7 (fun H hY hS0 => ?_)
  have hY : yS D dA vwCl wC 3 b _ _ H := hY
  refine y_putrF (t := 2) hx hb hts (z_memU u7) tyX7 tyX7_ok nmX7 hown hK.1 hY hS0 f7_0 (by decide) (zkd_of (rfl : zcd wC 1 = 1) rfl) (hts _ (z_mem k54)) rfl hin rfl (tyX7_ok 0 (by decide)) (fun _ => rfl) (fun _ => rfl) dX7_init_9 (fun H locs hY hS0 => ?_)
  refine lv_aload_n hx hb dX7_init_12 rfl (lv_at hl 0 rfl) ?_
  refine z_iconst hx hb dX7_init_13 ?_
  refine y_puti (z := 0) hx hb hts (z_memU u7) tyX7 tyX7_ok nmX7 hown hK.1 hY hS0 f7_1 (by decide) (zkd_of (rfl : zcd wC 1 = 1) rfl) (Or.inl (hts _ (z_mem k55))) rfl (by decide +kernel) (zbd_in (rfl : zcd wC 1 = 1) rfl (by decide)) dX7_init_14 (fun H locs hY hS0 => ?_)
  refine lv_aload_n hx hb dX7_init_17 rfl (lv_at hl 0 rfl) ?_
  refine z_iconst hx hb dX7_init_18 ?_
  refine y_puti (z := 0) hx hb hts (z_memU u7) tyX7 tyX7_ok nmX7 hown hK.1 hY hS0 f7_2 (by decide) (zkd_of (rfl : zcd wC 1 = 1) rfl) (Or.inl (hts _ (z_mem k57))) rfl (by decide +kernel) (zbd_in (rfl : zcd wC 1 = 1) rfl (by decide)) dX7_init_19 (fun H locs hY hS0 => ?_)
  refine lv_aload_n hx hb dX7_init_22 rfl (lv_at hl 0 rfl) ?_
  refine z_iconst hx hb dX7_init_23 ?_
  refine y_puti (z := 0) hx hb hts (z_memU u7) tyX7 tyX7_ok nmX7 hown hK.1 hY hS0 f7_3 (by decide) (zkd_of (rfl : zcd wC 1 = 1) rfl) (Or.inl (hts _ (z_mem k58))) rfl (by decide +kernel) (zbd_in (rfl : zcd wC 1 = 1) rfl (by decide)) dX7_init_24 (fun H locs hY hS0 => ?_)
  refine lv_aload_n hx hb dX7_init_27 rfl (lv_at hl 0 rfl) ?_
  refine z_bipush hx hb (by decide) dX7_init_28 ?_
  refine y_newq (C := "TapeRings$Strip") (t0 := 4) (N := 6) hx hb hown (hts _ (z_mem k36)) hO.1 (by decide) (hK.1.2 4 _ rfl).2 hY hS0 (zkd_of (rfl : zcd wC 3 = 3) rfl) (zln_of (rfl : zcd wC 3 = 3) rfl) (by decide) rfl (by decide) (by decide) (Nat.le_of_ble_eq_true rfl) (Nat.le_of_ble_eq_true rfl) dX7_init_30 (fun H hY hS0 => ?_)
  have hY : yS D dA vwCl wC 4 b _ _ H := hY
  refine y_putrF (t := 3) hx hb hts (z_memU u7) tyX7 tyX7_ok nmX7 hown hK.1 hY hS0 f7_4 (by decide) (zkd_of (rfl : zcd wC 1 = 1) rfl) (hts _ (z_mem k59)) rfl hin rfl (tyX7_ok 4 (by decide)) (fun _ => rfl) (fun _ => rfl) dX7_init_33 (fun H locs hY hS0 => ?_)
  refine lv_aload_n hx hb dX7_init_36 rfl (lv_at hl 0 rfl) ?_
  refine z_bipush hx hb (by decide) dX7_init_37 ?_
  refine y_newq (C := "TapeRings$Strip") (t0 := 4) (N := 6) hx hb hown (hts _ (z_mem k36)) hO.1 (by decide) (hK.1.2 4 _ rfl).2 hY hS0 (zkd_of (rfl : zcd wC 4 = 4) rfl) (zln_of (rfl : zcd wC 4 = 4) rfl) (by decide) rfl (by decide) (by decide) (Nat.le_of_ble_eq_true rfl) (Nat.le_of_ble_eq_true rfl) dX7_init_39 (fun H hY hS0 => ?_)
  have hY : yS D dA vwCl wC 5 b _ _ H := hY
  refine y_putrF (t := 4) hx hb hts (z_memU u7) tyX7 tyX7_ok nmX7 hown hK.1 hY hS0 f7_5 (by decide) (zkd_of (rfl : zcd wC 1 = 1) rfl) (hts _ (z_mem k60)) rfl hin rfl (tyX7_ok 5 (by decide)) (fun _ => rfl) (fun _ => rfl) dX7_init_42 (fun H locs hY hS0 => ?_)
  refine lv_aload_n hx hb dX7_init_45 rfl (lv_at hl 0 rfl) ?_
  refine z_bipush hx hb (by decide) dX7_init_46 ?_
  refine y_newa (atype := .int) hx hb (hts _ (z_mem k53)) (t0 := 0) (N := 6) (by decide) (by decide) (hK.1.2 0 _ rfl).2 rfl hY hS0 (zkd_of (rfl : zcd wC 5 = 5) rfl) (zln_of (rfl : zcd wC 5 = 5) rfl) (by decide) rfl (by decide) (by decide) (Nat.le_of_ble_eq_true rfl) (Nat.le_of_ble_eq_true rfl) dX7_init_48 (fun H hY hS0 => ?_)
  have hY : yS D dA vwCl wC 6 b _ _ H := hY
  refine y_putrF (t := 5) hx hb hts (z_memU u7) tyX7 tyX7_ok nmX7 hown hK.1 hY hS0 f7_6 (by decide) (zkd_of (rfl : zcd wC 1 = 1) rfl) (hts _ (z_mem k61)) rfl hin rfl (tyX7_ok 6 (by decide)) (fun _ => rfl) (fun _ => rfl) dX7_init_50 (fun H locs hY hS0 => ?_)
  refine z_iconst hx hb dX7_init_53 ?_
  refine lv_istore_n (lv' := [(1, .int (iI 0)), (0, .ref (b + 1))]) hx hb dX7_init_54 rfl hl (by decide) rfl (fun ls hl => ?_)
  refine lv_iload_n hx hb dX7_init_55 rfl (lv_at hl 0 rfl) ?_
  refine z_iconst hx hb dX7_init_56 ?_
  refine z_icmp_gt (tgt := 92) hx hb (by decide) (by decide) dX7_init_57 (by decide) (fun c9 => absurd c9 (by decide)) (fun _ => ?_)
  refine lv_aload_n hx hb dX7_init_60 rfl (lv_at hl 1 rfl) ?_
  refine y_getr (t := 3) hx hb hts (z_memU u7) hown hK.1 hY f7_4 (by decide) (zkd_of (rfl : zcd wC 1 = 1) rfl) (by first | rfl | simp [tup]) (Or.inl (hts _ (z_mem k59))) dX7_init_61 ?_
  refine lv_iload_n hx hb dX7_init_64 rfl (lv_at hl 0 rfl) ?_
  refine y_new hx hb hts (z_memU u8) tyX8 tyX8_ok hown (hts _ (z_mem k36)) (hts _ (z_mem k37)) (hts _ (z_mem k3)) hK.1 hY hS0 (rfl : vwCl[8]? = some (RX8, TX8, 2)) (by decide) (zkd_of (rfl : zcd wC 6 = 6) rfl) rfl (fun k hk => by rcases (show k = 0 ∨ k = 1 by omega) with rfl | rfl <;> rfl) (Nat.le_of_ble_eq_true rfl) (Nat.le_of_ble_eq_true rfl) dX7_init_65 (fun H hY hS0 => ?_)
  have hY : yS D dA vwCl wC 7 b _ _ H := hY
  refine lv_dup hx hb dX7_init_68 rfl ?_
  refine y_call (va_runIN (As := []) (rest := [.ref (b + 6), .int (iI 0), .ref (b + 3)]) ⟨hx, hb, hml, hown, hts⟩ (mk_Strip l D dA b _ _ 7 6 (by decide) (rfl : zcd wC 6 = 6) (rfl : zcd wC 7 = 7)) ⟨va_cnB 0 hts (z_gN k39) rfl rfl rfl (hK.2 _ (List.mem_of_getElem? (i := 0) rfl)) (hts _ (z_mem k3)) (by decide +kernel) ⟨(Nat.le_of_ble_eq_true rfl), (Nat.le_of_ble_eq_true rfl)⟩, rfl, (hts _ (z_mem k38))⟩ ⟨yP_blind, y_pre hY hK hO⟩ rfl rfl hl.1 rfl (lv_room (Nat.le_of_ble_eq_true rfl)) dX7_init_69 ⟨(Nat.le_of_ble_eq_true rfl), (Nat.le_of_ble_eq_true rfl)⟩) hS0 (fun H locs hY hS0 => ?_)
  have hY : yS D dA vwCl wC 8 b _ _ H := hY
  refine y_aast (t0 := 4) (N := 6) (i := 0) hx hb hK.1 (by decide) (hK.1.2 4 _ rfl).2 (rfl : vwCl[8]? = some (RX8, TX8, 2)) (by decide) hY hS0 (by decide) (zkd_of (rfl : zcd wC 3 = 3) rfl) (zln_of (rfl : zcd wC 3 = 3) rfl) (by decide) (zkd_of (rfl : zcd wC 6 = 6) rfl) (by decide) (by decide) (by decide) dX7_init_72 (fun H locs hY hS0 => ?_)
  refine lv_aload_n hx hb dX7_init_73 rfl (lv_at hl 1 rfl) ?_
  refine y_getr (t := 4) hx hb hts (z_memU u7) hown hK.1 hY f7_5 (by decide) (zkd_of (rfl : zcd wC 1 = 1) rfl) (by first | rfl | simp [tup]) (Or.inl (hts _ (z_mem k60))) dX7_init_74 ?_
  refine lv_iload_n hx hb dX7_init_77 rfl (lv_at hl 0 rfl) ?_
  refine y_new hx hb hts (z_memU u8) tyX8 tyX8_ok hown (hts _ (z_mem k36)) (hts _ (z_mem k37)) (hts _ (z_mem k3)) hK.1 hY hS0 (rfl : vwCl[8]? = some (RX8, TX8, 2)) (by decide) (zkd_of (rfl : zcd wC 8 = 6) rfl) rfl (fun k hk => by rcases (show k = 0 ∨ k = 1 by omega) with rfl | rfl <;> rfl) (Nat.le_of_ble_eq_true rfl) (Nat.le_of_ble_eq_true rfl) dX7_init_78 (fun H hY hS0 => ?_)
  have hY : yS D dA vwCl wC 9 b _ _ H := hY
  refine lv_dup hx hb dX7_init_81 rfl ?_
  refine y_call (va_runIN (As := []) (rest := [.ref (b + 8), .int (iI 0), .ref (b + 4)]) ⟨hx, hb, hml, hown, hts⟩ (mk_Strip l D dA b _ _ 9 8 (by decide) (rfl : zcd wC 8 = 6) (rfl : zcd wC 9 = 7)) ⟨va_cnB 0 hts (z_gN k39) rfl rfl rfl (hK.2 _ (List.mem_of_getElem? (i := 0) rfl)) (hts _ (z_mem k3)) (by decide +kernel) ⟨(Nat.le_of_ble_eq_true rfl), (Nat.le_of_ble_eq_true rfl)⟩, rfl, (hts _ (z_mem k38))⟩ ⟨yP_blind, y_pre hY hK hO⟩ rfl rfl hl.1 rfl (lv_room (Nat.le_of_ble_eq_true rfl)) dX7_init_82 ⟨(Nat.le_of_ble_eq_true rfl), (Nat.le_of_ble_eq_true rfl)⟩) hS0 (fun H locs hY hS0 => ?_)
  have hY : yS D dA vwCl wC 10 b _ _ H := hY
  refine y_aast (t0 := 4) (N := 6) (i := 0) hx hb hK.1 (by decide) (hK.1.2 4 _ rfl).2 (rfl : vwCl[8]? = some (RX8, TX8, 2)) (by decide) hY hS0 (by decide) (zkd_of (rfl : zcd wC 4 = 4) rfl) (zln_of (rfl : zcd wC 4 = 4) rfl) (by decide) (zkd_of (rfl : zcd wC 8 = 6) rfl) (by decide) (by decide) (by decide) dX7_init_85 (fun H locs hY hS0 => ?_)
  refine z_iinc (lv' := [(1, .int (iI (0 + 1))), (0, .ref (b + 1))]) hx hb dX7_init_86 hl (k := 0) rfl (by decide) rfl (fun ls hl => ?_)
  rw [show ((0 + 1) : Int) = 1 from by decide] at hl
  refine lv_goto (tgt := 55) hx hb dX7_init_89 (by decide) ?_
  refine lv_iload_n hx hb dX7_init_55 rfl (lv_at hl 0 rfl) ?_
  refine z_iconst hx hb dX7_init_56 ?_
  refine z_icmp_gt (tgt := 92) hx hb (by decide) (by decide) dX7_init_57 (by decide) (fun c9 => absurd c9 (by decide)) (fun _ => ?_)
  refine lv_aload_n hx hb dX7_init_60 rfl (lv_at hl 1 rfl) ?_
  refine y_getr (t := 3) hx hb hts (z_memU u7) hown hK.1 hY f7_4 (by decide) (zkd_of (rfl : zcd wC 1 = 1) rfl) (by first | rfl | simp [tup]) (Or.inl (hts _ (z_mem k59))) dX7_init_61 ?_
  refine lv_iload_n hx hb dX7_init_64 rfl (lv_at hl 0 rfl) ?_
  refine y_new hx hb hts (z_memU u8) tyX8 tyX8_ok hown (hts _ (z_mem k36)) (hts _ (z_mem k37)) (hts _ (z_mem k3)) hK.1 hY hS0 (rfl : vwCl[8]? = some (RX8, TX8, 2)) (by decide) (zkd_of (rfl : zcd wC 10 = 6) rfl) rfl (fun k hk => by rcases (show k = 0 ∨ k = 1 by omega) with rfl | rfl <;> rfl) (Nat.le_of_ble_eq_true rfl) (Nat.le_of_ble_eq_true rfl) dX7_init_65 (fun H hY hS0 => ?_)
  have hY : yS D dA vwCl wC 11 b _ _ H := hY
  refine lv_dup hx hb dX7_init_68 rfl ?_
  refine y_call (va_runIN (As := []) (rest := [.ref (b + 10), .int (iI 1), .ref (b + 3)]) ⟨hx, hb, hml, hown, hts⟩ (mk_Strip l D dA b _ _ 11 10 (by decide) (rfl : zcd wC 10 = 6) (rfl : zcd wC 11 = 7)) ⟨va_cnB 0 hts (z_gN k39) rfl rfl rfl (hK.2 _ (List.mem_of_getElem? (i := 0) rfl)) (hts _ (z_mem k3)) (by decide +kernel) ⟨(Nat.le_of_ble_eq_true rfl), (Nat.le_of_ble_eq_true rfl)⟩, rfl, (hts _ (z_mem k38))⟩ ⟨yP_blind, y_pre hY hK hO⟩ rfl rfl hl.1 rfl (lv_room (Nat.le_of_ble_eq_true rfl)) dX7_init_69 ⟨(Nat.le_of_ble_eq_true rfl), (Nat.le_of_ble_eq_true rfl)⟩) hS0 (fun H locs hY hS0 => ?_)
  have hY : yS D dA vwCl wC 12 b _ _ H := hY
  refine y_aast (t0 := 4) (N := 6) (i := 1) hx hb hK.1 (by decide) (hK.1.2 4 _ rfl).2 (rfl : vwCl[8]? = some (RX8, TX8, 2)) (by decide) hY hS0 (by decide) (zkd_of (rfl : zcd wC 3 = 3) rfl) (zln_of (rfl : zcd wC 3 = 3) rfl) (by decide) (zkd_of (rfl : zcd wC 10 = 6) rfl) (by decide) (by decide) (by decide) dX7_init_72 (fun H locs hY hS0 => ?_)
  refine lv_aload_n hx hb dX7_init_73 rfl (lv_at hl 1 rfl) ?_
  refine y_getr (t := 4) hx hb hts (z_memU u7) hown hK.1 hY f7_5 (by decide) (zkd_of (rfl : zcd wC 1 = 1) rfl) (by first | rfl | simp [tup]) (Or.inl (hts _ (z_mem k60))) dX7_init_74 ?_
  refine lv_iload_n hx hb dX7_init_77 rfl (lv_at hl 0 rfl) ?_
  refine y_new hx hb hts (z_memU u8) tyX8 tyX8_ok hown (hts _ (z_mem k36)) (hts _ (z_mem k37)) (hts _ (z_mem k3)) hK.1 hY hS0 (rfl : vwCl[8]? = some (RX8, TX8, 2)) (by decide) (zkd_of (rfl : zcd wC 12 = 6) rfl) rfl (fun k hk => by rcases (show k = 0 ∨ k = 1 by omega) with rfl | rfl <;> rfl) (Nat.le_of_ble_eq_true rfl) (Nat.le_of_ble_eq_true rfl) dX7_init_78 (fun H hY hS0 => ?_)
  have hY : yS D dA vwCl wC 13 b _ _ H := hY
  refine lv_dup hx hb dX7_init_81 rfl ?_
  refine y_call (va_runIN (As := []) (rest := [.ref (b + 12), .int (iI 1), .ref (b + 4)]) ⟨hx, hb, hml, hown, hts⟩ (mk_Strip l D dA b _ _ 13 12 (by decide) (rfl : zcd wC 12 = 6) (rfl : zcd wC 13 = 7)) ⟨va_cnB 0 hts (z_gN k39) rfl rfl rfl (hK.2 _ (List.mem_of_getElem? (i := 0) rfl)) (hts _ (z_mem k3)) (by decide +kernel) ⟨(Nat.le_of_ble_eq_true rfl), (Nat.le_of_ble_eq_true rfl)⟩, rfl, (hts _ (z_mem k38))⟩ ⟨yP_blind, y_pre hY hK hO⟩ rfl rfl hl.1 rfl (lv_room (Nat.le_of_ble_eq_true rfl)) dX7_init_82 ⟨(Nat.le_of_ble_eq_true rfl), (Nat.le_of_ble_eq_true rfl)⟩) hS0 (fun H locs hY hS0 => ?_)
  have hY : yS D dA vwCl wC 14 b _ _ H := hY
  refine y_aast (t0 := 4) (N := 6) (i := 1) hx hb hK.1 (by decide) (hK.1.2 4 _ rfl).2 (rfl : vwCl[8]? = some (RX8, TX8, 2)) (by decide) hY hS0 (by decide) (zkd_of (rfl : zcd wC 4 = 4) rfl) (zln_of (rfl : zcd wC 4 = 4) rfl) (by decide) (zkd_of (rfl : zcd wC 12 = 6) rfl) (by decide) (by decide) (by decide) dX7_init_85 (fun H locs hY hS0 => ?_)
  refine z_iinc (lv' := [(1, .int (iI (1 + 1))), (0, .ref (b + 1))]) hx hb dX7_init_86 hl (k := 0) rfl (by decide) rfl (fun ls hl => ?_)
  rw [show ((1 + 1) : Int) = 2 from by decide] at hl
  refine lv_goto (tgt := 55) hx hb dX7_init_89 (by decide) ?_
  refine lv_iload_n hx hb dX7_init_55 rfl (lv_at hl 0 rfl) ?_
  refine z_iconst hx hb dX7_init_56 ?_
  refine z_icmp_gt (tgt := 92) hx hb (by decide) (by decide) dX7_init_57 (by decide) (fun c9 => absurd c9 (by decide)) (fun _ => ?_)
  refine lv_aload_n hx hb dX7_init_60 rfl (lv_at hl 1 rfl) ?_
  refine y_getr (t := 3) hx hb hts (z_memU u7) hown hK.1 hY f7_4 (by decide) (zkd_of (rfl : zcd wC 1 = 1) rfl) (by first | rfl | simp [tup]) (Or.inl (hts _ (z_mem k59))) dX7_init_61 ?_
  refine lv_iload_n hx hb dX7_init_64 rfl (lv_at hl 0 rfl) ?_
  refine y_new hx hb hts (z_memU u8) tyX8 tyX8_ok hown (hts _ (z_mem k36)) (hts _ (z_mem k37)) (hts _ (z_mem k3)) hK.1 hY hS0 (rfl : vwCl[8]? = some (RX8, TX8, 2)) (by decide) (zkd_of (rfl : zcd wC 14 = 6) rfl) rfl (fun k hk => by rcases (show k = 0 ∨ k = 1 by omega) with rfl | rfl <;> rfl) (Nat.le_of_ble_eq_true rfl) (Nat.le_of_ble_eq_true rfl) dX7_init_65 (fun H hY hS0 => ?_)
  have hY : yS D dA vwCl wC 15 b _ _ H := hY
  refine lv_dup hx hb dX7_init_68 rfl ?_
  refine y_call (va_runIN (As := []) (rest := [.ref (b + 14), .int (iI 2), .ref (b + 3)]) ⟨hx, hb, hml, hown, hts⟩ (mk_Strip l D dA b _ _ 15 14 (by decide) (rfl : zcd wC 14 = 6) (rfl : zcd wC 15 = 7)) ⟨va_cnB 0 hts (z_gN k39) rfl rfl rfl (hK.2 _ (List.mem_of_getElem? (i := 0) rfl)) (hts _ (z_mem k3)) (by decide +kernel) ⟨(Nat.le_of_ble_eq_true rfl), (Nat.le_of_ble_eq_true rfl)⟩, rfl, (hts _ (z_mem k38))⟩ ⟨yP_blind, y_pre hY hK hO⟩ rfl rfl hl.1 rfl (lv_room (Nat.le_of_ble_eq_true rfl)) dX7_init_69 ⟨(Nat.le_of_ble_eq_true rfl), (Nat.le_of_ble_eq_true rfl)⟩) hS0 (fun H locs hY hS0 => ?_)
  have hY : yS D dA vwCl wC 16 b _ _ H := hY
  refine y_aast (t0 := 4) (N := 6) (i := 2) hx hb hK.1 (by decide) (hK.1.2 4 _ rfl).2 (rfl : vwCl[8]? = some (RX8, TX8, 2)) (by decide) hY hS0 (by decide) (zkd_of (rfl : zcd wC 3 = 3) rfl) (zln_of (rfl : zcd wC 3 = 3) rfl) (by decide) (zkd_of (rfl : zcd wC 14 = 6) rfl) (by decide) (by decide) (by decide) dX7_init_72 (fun H locs hY hS0 => ?_)
  refine lv_aload_n hx hb dX7_init_73 rfl (lv_at hl 1 rfl) ?_
  refine y_getr (t := 4) hx hb hts (z_memU u7) hown hK.1 hY f7_5 (by decide) (zkd_of (rfl : zcd wC 1 = 1) rfl) (by first | rfl | simp [tup]) (Or.inl (hts _ (z_mem k60))) dX7_init_74 ?_
  refine lv_iload_n hx hb dX7_init_77 rfl (lv_at hl 0 rfl) ?_
  refine y_new hx hb hts (z_memU u8) tyX8 tyX8_ok hown (hts _ (z_mem k36)) (hts _ (z_mem k37)) (hts _ (z_mem k3)) hK.1 hY hS0 (rfl : vwCl[8]? = some (RX8, TX8, 2)) (by decide) (zkd_of (rfl : zcd wC 16 = 6) rfl) rfl (fun k hk => by rcases (show k = 0 ∨ k = 1 by omega) with rfl | rfl <;> rfl) (Nat.le_of_ble_eq_true rfl) (Nat.le_of_ble_eq_true rfl) dX7_init_78 (fun H hY hS0 => ?_)
  have hY : yS D dA vwCl wC 17 b _ _ H := hY
  refine lv_dup hx hb dX7_init_81 rfl ?_
  refine y_call (va_runIN (As := []) (rest := [.ref (b + 16), .int (iI 2), .ref (b + 4)]) ⟨hx, hb, hml, hown, hts⟩ (mk_Strip l D dA b _ _ 17 16 (by decide) (rfl : zcd wC 16 = 6) (rfl : zcd wC 17 = 7)) ⟨va_cnB 0 hts (z_gN k39) rfl rfl rfl (hK.2 _ (List.mem_of_getElem? (i := 0) rfl)) (hts _ (z_mem k3)) (by decide +kernel) ⟨(Nat.le_of_ble_eq_true rfl), (Nat.le_of_ble_eq_true rfl)⟩, rfl, (hts _ (z_mem k38))⟩ ⟨yP_blind, y_pre hY hK hO⟩ rfl rfl hl.1 rfl (lv_room (Nat.le_of_ble_eq_true rfl)) dX7_init_82 ⟨(Nat.le_of_ble_eq_true rfl), (Nat.le_of_ble_eq_true rfl)⟩) hS0 (fun H locs hY hS0 => ?_)
  have hY : yS D dA vwCl wC 18 b _ _ H := hY
  refine y_aast (t0 := 4) (N := 6) (i := 2) hx hb hK.1 (by decide) (hK.1.2 4 _ rfl).2 (rfl : vwCl[8]? = some (RX8, TX8, 2)) (by decide) hY hS0 (by decide) (zkd_of (rfl : zcd wC 4 = 4) rfl) (zln_of (rfl : zcd wC 4 = 4) rfl) (by decide) (zkd_of (rfl : zcd wC 16 = 6) rfl) (by decide) (by decide) (by decide) dX7_init_85 (fun H locs hY hS0 => ?_)
  refine z_iinc (lv' := [(1, .int (iI (2 + 1))), (0, .ref (b + 1))]) hx hb dX7_init_86 hl (k := 0) rfl (by decide) rfl (fun ls hl => ?_)
  rw [show ((2 + 1) : Int) = 3 from by decide] at hl
  refine lv_goto (tgt := 55) hx hb dX7_init_89 (by decide) ?_
  refine lv_iload_n hx hb dX7_init_55 rfl (lv_at hl 0 rfl) ?_
  refine z_iconst hx hb dX7_init_56 ?_
  refine z_icmp_gt (tgt := 92) hx hb (by decide) (by decide) dX7_init_57 (by decide) (fun c9 => absurd c9 (by decide)) (fun _ => ?_)
  refine lv_aload_n hx hb dX7_init_60 rfl (lv_at hl 1 rfl) ?_
  refine y_getr (t := 3) hx hb hts (z_memU u7) hown hK.1 hY f7_4 (by decide) (zkd_of (rfl : zcd wC 1 = 1) rfl) (by first | rfl | simp [tup]) (Or.inl (hts _ (z_mem k59))) dX7_init_61 ?_
  refine lv_iload_n hx hb dX7_init_64 rfl (lv_at hl 0 rfl) ?_
  refine y_new hx hb hts (z_memU u8) tyX8 tyX8_ok hown (hts _ (z_mem k36)) (hts _ (z_mem k37)) (hts _ (z_mem k3)) hK.1 hY hS0 (rfl : vwCl[8]? = some (RX8, TX8, 2)) (by decide) (zkd_of (rfl : zcd wC 18 = 6) rfl) rfl (fun k hk => by rcases (show k = 0 ∨ k = 1 by omega) with rfl | rfl <;> rfl) (Nat.le_of_ble_eq_true rfl) (Nat.le_of_ble_eq_true rfl) dX7_init_65 (fun H hY hS0 => ?_)
  have hY : yS D dA vwCl wC 19 b _ _ H := hY
  refine lv_dup hx hb dX7_init_68 rfl ?_
  refine y_call (va_runIN (As := []) (rest := [.ref (b + 18), .int (iI 3), .ref (b + 3)]) ⟨hx, hb, hml, hown, hts⟩ (mk_Strip l D dA b _ _ 19 18 (by decide) (rfl : zcd wC 18 = 6) (rfl : zcd wC 19 = 7)) ⟨va_cnB 0 hts (z_gN k39) rfl rfl rfl (hK.2 _ (List.mem_of_getElem? (i := 0) rfl)) (hts _ (z_mem k3)) (by decide +kernel) ⟨(Nat.le_of_ble_eq_true rfl), (Nat.le_of_ble_eq_true rfl)⟩, rfl, (hts _ (z_mem k38))⟩ ⟨yP_blind, y_pre hY hK hO⟩ rfl rfl hl.1 rfl (lv_room (Nat.le_of_ble_eq_true rfl)) dX7_init_69 ⟨(Nat.le_of_ble_eq_true rfl), (Nat.le_of_ble_eq_true rfl)⟩) hS0 (fun H locs hY hS0 => ?_)
  have hY : yS D dA vwCl wC 20 b _ _ H := hY
  refine y_aast (t0 := 4) (N := 6) (i := 3) hx hb hK.1 (by decide) (hK.1.2 4 _ rfl).2 (rfl : vwCl[8]? = some (RX8, TX8, 2)) (by decide) hY hS0 (by decide) (zkd_of (rfl : zcd wC 3 = 3) rfl) (zln_of (rfl : zcd wC 3 = 3) rfl) (by decide) (zkd_of (rfl : zcd wC 18 = 6) rfl) (by decide) (by decide) (by decide) dX7_init_72 (fun H locs hY hS0 => ?_)
  refine lv_aload_n hx hb dX7_init_73 rfl (lv_at hl 1 rfl) ?_
  refine y_getr (t := 4) hx hb hts (z_memU u7) hown hK.1 hY f7_5 (by decide) (zkd_of (rfl : zcd wC 1 = 1) rfl) (by first | rfl | simp [tup]) (Or.inl (hts _ (z_mem k60))) dX7_init_74 ?_
  refine lv_iload_n hx hb dX7_init_77 rfl (lv_at hl 0 rfl) ?_
  refine y_new hx hb hts (z_memU u8) tyX8 tyX8_ok hown (hts _ (z_mem k36)) (hts _ (z_mem k37)) (hts _ (z_mem k3)) hK.1 hY hS0 (rfl : vwCl[8]? = some (RX8, TX8, 2)) (by decide) (zkd_of (rfl : zcd wC 20 = 6) rfl) rfl (fun k hk => by rcases (show k = 0 ∨ k = 1 by omega) with rfl | rfl <;> rfl) (Nat.le_of_ble_eq_true rfl) (Nat.le_of_ble_eq_true rfl) dX7_init_78 (fun H hY hS0 => ?_)
  have hY : yS D dA vwCl wC 21 b _ _ H := hY
  refine lv_dup hx hb dX7_init_81 rfl ?_
  refine y_call (va_runIN (As := []) (rest := [.ref (b + 20), .int (iI 3), .ref (b + 4)]) ⟨hx, hb, hml, hown, hts⟩ (mk_Strip l D dA b _ _ 21 20 (by decide) (rfl : zcd wC 20 = 6) (rfl : zcd wC 21 = 7)) ⟨va_cnB 0 hts (z_gN k39) rfl rfl rfl (hK.2 _ (List.mem_of_getElem? (i := 0) rfl)) (hts _ (z_mem k3)) (by decide +kernel) ⟨(Nat.le_of_ble_eq_true rfl), (Nat.le_of_ble_eq_true rfl)⟩, rfl, (hts _ (z_mem k38))⟩ ⟨yP_blind, y_pre hY hK hO⟩ rfl rfl hl.1 rfl (lv_room (Nat.le_of_ble_eq_true rfl)) dX7_init_82 ⟨(Nat.le_of_ble_eq_true rfl), (Nat.le_of_ble_eq_true rfl)⟩) hS0 (fun H locs hY hS0 => ?_)
  have hY : yS D dA vwCl wC 22 b _ _ H := hY
  refine y_aast (t0 := 4) (N := 6) (i := 3) hx hb hK.1 (by decide) (hK.1.2 4 _ rfl).2 (rfl : vwCl[8]? = some (RX8, TX8, 2)) (by decide) hY hS0 (by decide) (zkd_of (rfl : zcd wC 4 = 4) rfl) (zln_of (rfl : zcd wC 4 = 4) rfl) (by decide) (zkd_of (rfl : zcd wC 20 = 6) rfl) (by decide) (by decide) (by decide) dX7_init_85 (fun H locs hY hS0 => ?_)
  refine z_iinc (lv' := [(1, .int (iI (3 + 1))), (0, .ref (b + 1))]) hx hb dX7_init_86 hl (k := 0) rfl (by decide) rfl (fun ls hl => ?_)
  rw [show ((3 + 1) : Int) = 4 from by decide] at hl
  refine lv_goto (tgt := 55) hx hb dX7_init_89 (by decide) ?_
  refine lv_iload_n hx hb dX7_init_55 rfl (lv_at hl 0 rfl) ?_
  refine z_iconst hx hb dX7_init_56 ?_
  refine z_icmp_gt (tgt := 92) hx hb (by decide) (by decide) dX7_init_57 (by decide) (fun c9 => absurd c9 (by decide)) (fun _ => ?_)
  refine lv_aload_n hx hb dX7_init_60 rfl (lv_at hl 1 rfl) ?_
  refine y_getr (t := 3) hx hb hts (z_memU u7) hown hK.1 hY f7_4 (by decide) (zkd_of (rfl : zcd wC 1 = 1) rfl) (by first | rfl | simp [tup]) (Or.inl (hts _ (z_mem k59))) dX7_init_61 ?_
  refine lv_iload_n hx hb dX7_init_64 rfl (lv_at hl 0 rfl) ?_
  refine y_new hx hb hts (z_memU u8) tyX8 tyX8_ok hown (hts _ (z_mem k36)) (hts _ (z_mem k37)) (hts _ (z_mem k3)) hK.1 hY hS0 (rfl : vwCl[8]? = some (RX8, TX8, 2)) (by decide) (zkd_of (rfl : zcd wC 22 = 6) rfl) rfl (fun k hk => by rcases (show k = 0 ∨ k = 1 by omega) with rfl | rfl <;> rfl) (Nat.le_of_ble_eq_true rfl) (Nat.le_of_ble_eq_true rfl) dX7_init_65 (fun H hY hS0 => ?_)
  have hY : yS D dA vwCl wC 23 b _ _ H := hY
  refine lv_dup hx hb dX7_init_68 rfl ?_
  refine y_call (va_runIN (As := []) (rest := [.ref (b + 22), .int (iI 4), .ref (b + 3)]) ⟨hx, hb, hml, hown, hts⟩ (mk_Strip l D dA b _ _ 23 22 (by decide) (rfl : zcd wC 22 = 6) (rfl : zcd wC 23 = 7)) ⟨va_cnB 0 hts (z_gN k39) rfl rfl rfl (hK.2 _ (List.mem_of_getElem? (i := 0) rfl)) (hts _ (z_mem k3)) (by decide +kernel) ⟨(Nat.le_of_ble_eq_true rfl), (Nat.le_of_ble_eq_true rfl)⟩, rfl, (hts _ (z_mem k38))⟩ ⟨yP_blind, y_pre hY hK hO⟩ rfl rfl hl.1 rfl (lv_room (Nat.le_of_ble_eq_true rfl)) dX7_init_69 ⟨(Nat.le_of_ble_eq_true rfl), (Nat.le_of_ble_eq_true rfl)⟩) hS0 (fun H locs hY hS0 => ?_)
  have hY : yS D dA vwCl wC 24 b _ _ H := hY
  refine y_aast (t0 := 4) (N := 6) (i := 4) hx hb hK.1 (by decide) (hK.1.2 4 _ rfl).2 (rfl : vwCl[8]? = some (RX8, TX8, 2)) (by decide) hY hS0 (by decide) (zkd_of (rfl : zcd wC 3 = 3) rfl) (zln_of (rfl : zcd wC 3 = 3) rfl) (by decide) (zkd_of (rfl : zcd wC 22 = 6) rfl) (by decide) (by decide) (by decide) dX7_init_72 (fun H locs hY hS0 => ?_)
  refine lv_aload_n hx hb dX7_init_73 rfl (lv_at hl 1 rfl) ?_
  refine y_getr (t := 4) hx hb hts (z_memU u7) hown hK.1 hY f7_5 (by decide) (zkd_of (rfl : zcd wC 1 = 1) rfl) (by first | rfl | simp [tup]) (Or.inl (hts _ (z_mem k60))) dX7_init_74 ?_
  refine lv_iload_n hx hb dX7_init_77 rfl (lv_at hl 0 rfl) ?_
  refine y_new hx hb hts (z_memU u8) tyX8 tyX8_ok hown (hts _ (z_mem k36)) (hts _ (z_mem k37)) (hts _ (z_mem k3)) hK.1 hY hS0 (rfl : vwCl[8]? = some (RX8, TX8, 2)) (by decide) (zkd_of (rfl : zcd wC 24 = 6) rfl) rfl (fun k hk => by rcases (show k = 0 ∨ k = 1 by omega) with rfl | rfl <;> rfl) (Nat.le_of_ble_eq_true rfl) (Nat.le_of_ble_eq_true rfl) dX7_init_78 (fun H hY hS0 => ?_)
  have hY : yS D dA vwCl wC 25 b _ _ H := hY
  refine lv_dup hx hb dX7_init_81 rfl ?_
  refine y_call (va_runIN (As := []) (rest := [.ref (b + 24), .int (iI 4), .ref (b + 4)]) ⟨hx, hb, hml, hown, hts⟩ (mk_Strip l D dA b _ _ 25 24 (by decide) (rfl : zcd wC 24 = 6) (rfl : zcd wC 25 = 7)) ⟨va_cnB 0 hts (z_gN k39) rfl rfl rfl (hK.2 _ (List.mem_of_getElem? (i := 0) rfl)) (hts _ (z_mem k3)) (by decide +kernel) ⟨(Nat.le_of_ble_eq_true rfl), (Nat.le_of_ble_eq_true rfl)⟩, rfl, (hts _ (z_mem k38))⟩ ⟨yP_blind, y_pre hY hK hO⟩ rfl rfl hl.1 rfl (lv_room (Nat.le_of_ble_eq_true rfl)) dX7_init_82 ⟨(Nat.le_of_ble_eq_true rfl), (Nat.le_of_ble_eq_true rfl)⟩) hS0 (fun H locs hY hS0 => ?_)
  have hY : yS D dA vwCl wC 26 b _ _ H := hY
  refine y_aast (t0 := 4) (N := 6) (i := 4) hx hb hK.1 (by decide) (hK.1.2 4 _ rfl).2 (rfl : vwCl[8]? = some (RX8, TX8, 2)) (by decide) hY hS0 (by decide) (zkd_of (rfl : zcd wC 4 = 4) rfl) (zln_of (rfl : zcd wC 4 = 4) rfl) (by decide) (zkd_of (rfl : zcd wC 24 = 6) rfl) (by decide) (by decide) (by decide) dX7_init_85 (fun H locs hY hS0 => ?_)
  refine z_iinc (lv' := [(1, .int (iI (4 + 1))), (0, .ref (b + 1))]) hx hb dX7_init_86 hl (k := 0) rfl (by decide) rfl (fun ls hl => ?_)
  rw [show ((4 + 1) : Int) = 5 from by decide] at hl
  refine lv_goto (tgt := 55) hx hb dX7_init_89 (by decide) ?_
  refine lv_iload_n hx hb dX7_init_55 rfl (lv_at hl 0 rfl) ?_
  refine z_iconst hx hb dX7_init_56 ?_
  refine z_icmp_gt (tgt := 92) hx hb (by decide) (by decide) dX7_init_57 (by decide) (fun c9 => absurd c9 (by decide)) (fun _ => ?_)
  refine lv_aload_n hx hb dX7_init_60 rfl (lv_at hl 1 rfl) ?_
  refine y_getr (t := 3) hx hb hts (z_memU u7) hown hK.1 hY f7_4 (by decide) (zkd_of (rfl : zcd wC 1 = 1) rfl) (by first | rfl | simp [tup]) (Or.inl (hts _ (z_mem k59))) dX7_init_61 ?_
  refine lv_iload_n hx hb dX7_init_64 rfl (lv_at hl 0 rfl) ?_
  refine y_new hx hb hts (z_memU u8) tyX8 tyX8_ok hown (hts _ (z_mem k36)) (hts _ (z_mem k37)) (hts _ (z_mem k3)) hK.1 hY hS0 (rfl : vwCl[8]? = some (RX8, TX8, 2)) (by decide) (zkd_of (rfl : zcd wC 26 = 6) rfl) rfl (fun k hk => by rcases (show k = 0 ∨ k = 1 by omega) with rfl | rfl <;> rfl) (Nat.le_of_ble_eq_true rfl) (Nat.le_of_ble_eq_true rfl) dX7_init_65 (fun H hY hS0 => ?_)
  have hY : yS D dA vwCl wC 27 b _ _ H := hY
  refine lv_dup hx hb dX7_init_68 rfl ?_
  refine y_call (va_runIN (As := []) (rest := [.ref (b + 26), .int (iI 5), .ref (b + 3)]) ⟨hx, hb, hml, hown, hts⟩ (mk_Strip l D dA b _ _ 27 26 (by decide) (rfl : zcd wC 26 = 6) (rfl : zcd wC 27 = 7)) ⟨va_cnB 0 hts (z_gN k39) rfl rfl rfl (hK.2 _ (List.mem_of_getElem? (i := 0) rfl)) (hts _ (z_mem k3)) (by decide +kernel) ⟨(Nat.le_of_ble_eq_true rfl), (Nat.le_of_ble_eq_true rfl)⟩, rfl, (hts _ (z_mem k38))⟩ ⟨yP_blind, y_pre hY hK hO⟩ rfl rfl hl.1 rfl (lv_room (Nat.le_of_ble_eq_true rfl)) dX7_init_69 ⟨(Nat.le_of_ble_eq_true rfl), (Nat.le_of_ble_eq_true rfl)⟩) hS0 (fun H locs hY hS0 => ?_)
  have hY : yS D dA vwCl wC 28 b _ _ H := hY
  refine y_aast (t0 := 4) (N := 6) (i := 5) hx hb hK.1 (by decide) (hK.1.2 4 _ rfl).2 (rfl : vwCl[8]? = some (RX8, TX8, 2)) (by decide) hY hS0 (by decide) (zkd_of (rfl : zcd wC 3 = 3) rfl) (zln_of (rfl : zcd wC 3 = 3) rfl) (by decide) (zkd_of (rfl : zcd wC 26 = 6) rfl) (by decide) (by decide) (by decide) dX7_init_72 (fun H locs hY hS0 => ?_)
  refine lv_aload_n hx hb dX7_init_73 rfl (lv_at hl 1 rfl) ?_
  refine y_getr (t := 4) hx hb hts (z_memU u7) hown hK.1 hY f7_5 (by decide) (zkd_of (rfl : zcd wC 1 = 1) rfl) (by first | rfl | simp [tup]) (Or.inl (hts _ (z_mem k60))) dX7_init_74 ?_
  refine lv_iload_n hx hb dX7_init_77 rfl (lv_at hl 0 rfl) ?_
  refine y_new hx hb hts (z_memU u8) tyX8 tyX8_ok hown (hts _ (z_mem k36)) (hts _ (z_mem k37)) (hts _ (z_mem k3)) hK.1 hY hS0 (rfl : vwCl[8]? = some (RX8, TX8, 2)) (by decide) (zkd_of (rfl : zcd wC 28 = 6) rfl) rfl (fun k hk => by rcases (show k = 0 ∨ k = 1 by omega) with rfl | rfl <;> rfl) (Nat.le_of_ble_eq_true rfl) (Nat.le_of_ble_eq_true rfl) dX7_init_78 (fun H hY hS0 => ?_)
  have hY : yS D dA vwCl wC 29 b _ _ H := hY
  refine lv_dup hx hb dX7_init_81 rfl ?_
  refine y_call (va_runIN (As := []) (rest := [.ref (b + 28), .int (iI 5), .ref (b + 4)]) ⟨hx, hb, hml, hown, hts⟩ (mk_Strip l D dA b _ _ 29 28 (by decide) (rfl : zcd wC 28 = 6) (rfl : zcd wC 29 = 7)) ⟨va_cnB 0 hts (z_gN k39) rfl rfl rfl (hK.2 _ (List.mem_of_getElem? (i := 0) rfl)) (hts _ (z_mem k3)) (by decide +kernel) ⟨(Nat.le_of_ble_eq_true rfl), (Nat.le_of_ble_eq_true rfl)⟩, rfl, (hts _ (z_mem k38))⟩ ⟨yP_blind, y_pre hY hK hO⟩ rfl rfl hl.1 rfl (lv_room (Nat.le_of_ble_eq_true rfl)) dX7_init_82 ⟨(Nat.le_of_ble_eq_true rfl), (Nat.le_of_ble_eq_true rfl)⟩) hS0 (fun H locs hY hS0 => ?_)
  have hY : yS D dA vwCl wC 30 b _ _ H := hY
  refine y_aast (t0 := 4) (N := 6) (i := 5) hx hb hK.1 (by decide) (hK.1.2 4 _ rfl).2 (rfl : vwCl[8]? = some (RX8, TX8, 2)) (by decide) hY hS0 (by decide) (zkd_of (rfl : zcd wC 4 = 4) rfl) (zln_of (rfl : zcd wC 4 = 4) rfl) (by decide) (zkd_of (rfl : zcd wC 28 = 6) rfl) (by decide) (by decide) (by decide) dX7_init_85 (fun H locs hY hS0 => ?_)
  refine z_iinc (lv' := [(1, .int (iI (5 + 1))), (0, .ref (b + 1))]) hx hb dX7_init_86 hl (k := 0) rfl (by decide) rfl (fun ls hl => ?_)
  rw [show ((5 + 1) : Int) = 6 from by decide] at hl
  refine lv_goto (tgt := 55) hx hb dX7_init_89 (by decide) ?_
  refine lv_iload_n hx hb dX7_init_55 rfl (lv_at hl 0 rfl) ?_
  refine z_iconst hx hb dX7_init_56 ?_
  refine z_icmp_gt (tgt := 92) hx hb (by decide) (by decide) dX7_init_57 (by decide) (fun _ => ?_) (fun c9 => absurd c9 (by decide))
  exact y_ret hx hb hr hlocks hY hS0 dX7_init_92
def mT_C35 (T : zT) : zT := (tup (tup T 35 0 36) 35 1 37)
def mM_C35 (M : zM) : zM := (zup M 35 2 0)
set_option maxHeartbeats 4000000 in
set_option maxRecDepth 100000 in
theorem mk_C35 (l : Launch) (D : va_G) (dA : Nat → ClassId) (b : Nat) (M : zM) (T : zT) : Met l yX2_init (.code yX2_init cX2_init 1 none :: zt) (y_rm 1 2 24) (va_Pc [.ref (b + 35)] (yP D dA vwCl (z_tys dA) wC 36 b M T)) (va_Qv (fun _ => True) (yB D dA vwCl wC 38 b (mM_C35 M) (mT_C35 T)) (yA b)) 2 24 (yA b) := by
  refine Met.ofW (cc := cX2_init) (maxL := 1) (ret := none) (by decide) rfl ?_
  intro p e s m args below meth c s₁ B hml hv
  obtain ⟨hargs, hY, hK, hO⟩ := hv
  have hx := B.exec
  have hb := B.bytes
  have hr := B.returns
  have hts := atoms_spec (ws := .code yX2_init cX2_init 1 none :: zt) B.pre
  have hown : s.vm.findClass RX2 = some m.cls := findClass_of_methodNamed B.named
  have hlocks := B.notSynchronized
  have hin : meth.name = "<init>" := (name_of_methodNamed B.named B.method).1
  have hS0 : va_S (yA b) s.heap s.heap [] := va_S.rf
  have hl := lv_entry ([.ref (b + 35)]) (n := 1) (Nat.le_of_ble_eq_true rfl)
  have hent : entryFrame m args 1 = F0 m 0 ((lg_sl ([.ref (b + 35)]) ++ List.replicate (1 - (lg_sl ([.ref (b + 35)])).length) Slot.unset).toArray) [] := by rw [hargs]; exact lg_entry_eq m ([.ref (b + 35)]) 1
  rw [hent]
  generalize (lg_sl ([.ref (b + 35)]) ++ List.replicate (1 - (lg_sl ([.ref (b + 35)])).length) Slot.unset).toArray = ls at hl ⊢
  have hl : lv_has ls 1 [(0, .ref (b + 35))] := hl
  refine lv_aload_n hx hb dX2_init_0 rfl (lv_at hl 0 rfl) ?_
  refine W.objInit hx hb hown (hts _ (z_mem k81)) (hts _ (z_mem k28)) (hts _ (z_mem k29)) rfl (by rw [hml]; exact hl.1) rfl dX2_init_1 (Nat.le_of_ble_eq_true rfl) (Nat.le_of_ble_eq_true rfl) ?_
  refine W.eq (g2 := F0 m 4 ls []) rfl ?_
  refine lv_aload_n hx hb dX2_init_4 rfl (lv_at hl 0 rfl) ?_
  refine z_bipush hx hb (by decide) dX2_init_5 ?_
  refine y_newa (atype := .int) hx hb (hts _ (z_mem k53)) (t0 := 0) (N := 12) (by decide) (by decide) (hK.1.2 0 _ rfl).2 rfl hY hS0 (zkd_of (rfl : zcd wC 36 = 12) rfl) (zln_of (rfl : zcd wC 36 = 12) rfl) (by decide) rfl (by decide) (by decide) (Nat.le_of_ble_eq_true rfl) (Nat.le_of_ble_eq_true rfl) dX2_init_7 (fun H hY hS0 => ?_)
  have hY : yS D dA vwCl wC 37 b _ _ H := hY
  refine y_putrF (t := 36) hx hb hts (z_memU u2) tyX2 tyX2_ok nmX2 hown hK.1 hY hS0 f2_0 (by decide) (zkd_of (rfl : zcd wC 35 = 11) rfl) (hts _ (z_mem k82)) rfl hin rfl (tyX2_ok 0 (by decide)) (fun _ => rfl) (fun _ => rfl) dX2_init_9 (fun H locs hY hS0 => ?_)
  refine lv_aload_n hx hb dX2_init_12 rfl (lv_at hl 0 rfl) ?_
  refine z_bipush hx hb (by decide) dX2_init_13 ?_
  refine y_newa (atype := .int) hx hb (hts _ (z_mem k53)) (t0 := 0) (N := 12) (by decide) (by decide) (hK.1.2 0 _ rfl).2 rfl hY hS0 (zkd_of (rfl : zcd wC 37 = 13) rfl) (zln_of (rfl : zcd wC 37 = 13) rfl) (by decide) rfl (by decide) (by decide) (Nat.le_of_ble_eq_true rfl) (Nat.le_of_ble_eq_true rfl) dX2_init_15 (fun H hY hS0 => ?_)
  have hY : yS D dA vwCl wC 38 b _ _ H := hY
  refine y_putrF (t := 37) hx hb hts (z_memU u2) tyX2 tyX2_ok nmX2 hown hK.1 hY hS0 f2_1 (by decide) (zkd_of (rfl : zcd wC 35 = 11) rfl) (hts _ (z_mem k83)) rfl hin rfl (tyX2_ok 1 (by decide)) (fun _ => rfl) (fun _ => rfl) dX2_init_17 (fun H locs hY hS0 => ?_)
  refine lv_aload_n hx hb dX2_init_20 rfl (lv_at hl 0 rfl) ?_
  refine z_iconst hx hb dX2_init_21 ?_
  refine y_puti (z := 0) hx hb hts (z_memU u2) tyX2 tyX2_ok nmX2 hown hK.1 hY hS0 f2_2 (by decide) (zkd_of (rfl : zcd wC 35 = 11) rfl) (Or.inl (hts _ (z_mem k84))) rfl (by decide +kernel) (zbd_in (rfl : zcd wC 35 = 11) rfl (by decide)) dX2_init_22 (fun H locs hY hS0 => ?_)
  exact y_ret hx hb hr hlocks hY hS0 dX2_init_25
def mT_C38 (T : zT) : zT := (tup (tup T 38 0 39) 38 1 40)
def mM_C38 (M : zM) : zM := (zup M 38 2 0)
set_option maxHeartbeats 4000000 in
set_option maxRecDepth 100000 in
theorem mk_C38 (l : Launch) (D : va_G) (dA : Nat → ClassId) (b : Nat) (M : zM) (T : zT) : Met l yX2_init (.code yX2_init cX2_init 1 none :: zt) (y_rm 1 2 24) (va_Pc [.ref (b + 38)] (yP D dA vwCl (z_tys dA) wC 39 b M T)) (va_Qv (fun _ => True) (yB D dA vwCl wC 41 b (mM_C38 M) (mT_C38 T)) (yA b)) 2 24 (yA b) := by
  refine Met.ofW (cc := cX2_init) (maxL := 1) (ret := none) (by decide) rfl ?_
  intro p e s m args below meth c s₁ B hml hv
  obtain ⟨hargs, hY, hK, hO⟩ := hv
  have hx := B.exec
  have hb := B.bytes
  have hr := B.returns
  have hts := atoms_spec (ws := .code yX2_init cX2_init 1 none :: zt) B.pre
  have hown : s.vm.findClass RX2 = some m.cls := findClass_of_methodNamed B.named
  have hlocks := B.notSynchronized
  have hin : meth.name = "<init>" := (name_of_methodNamed B.named B.method).1
  have hS0 : va_S (yA b) s.heap s.heap [] := va_S.rf
  have hl := lv_entry ([.ref (b + 38)]) (n := 1) (Nat.le_of_ble_eq_true rfl)
  have hent : entryFrame m args 1 = F0 m 0 ((lg_sl ([.ref (b + 38)]) ++ List.replicate (1 - (lg_sl ([.ref (b + 38)])).length) Slot.unset).toArray) [] := by rw [hargs]; exact lg_entry_eq m ([.ref (b + 38)]) 1
  rw [hent]
  generalize (lg_sl ([.ref (b + 38)]) ++ List.replicate (1 - (lg_sl ([.ref (b + 38)])).length) Slot.unset).toArray = ls at hl ⊢
  have hl : lv_has ls 1 [(0, .ref (b + 38))] := hl
  refine lv_aload_n hx hb dX2_init_0 rfl (lv_at hl 0 rfl) ?_
  refine W.objInit hx hb hown (hts _ (z_mem k81)) (hts _ (z_mem k28)) (hts _ (z_mem k29)) rfl (by rw [hml]; exact hl.1) rfl dX2_init_1 (Nat.le_of_ble_eq_true rfl) (Nat.le_of_ble_eq_true rfl) ?_
  refine W.eq (g2 := F0 m 4 ls []) rfl ?_
  refine lv_aload_n hx hb dX2_init_4 rfl (lv_at hl 0 rfl) ?_
  refine z_bipush hx hb (by decide) dX2_init_5 ?_
  refine y_newa (atype := .int) hx hb (hts _ (z_mem k53)) (t0 := 0) (N := 12) (by decide) (by decide) (hK.1.2 0 _ rfl).2 rfl hY hS0 (zkd_of (rfl : zcd wC 39 = 12) rfl) (zln_of (rfl : zcd wC 39 = 12) rfl) (by decide) rfl (by decide) (by decide) (Nat.le_of_ble_eq_true rfl) (Nat.le_of_ble_eq_true rfl) dX2_init_7 (fun H hY hS0 => ?_)
  have hY : yS D dA vwCl wC 40 b _ _ H := hY
  refine y_putrF (t := 39) hx hb hts (z_memU u2) tyX2 tyX2_ok nmX2 hown hK.1 hY hS0 f2_0 (by decide) (zkd_of (rfl : zcd wC 38 = 11) rfl) (hts _ (z_mem k82)) rfl hin rfl (tyX2_ok 0 (by decide)) (fun _ => rfl) (fun _ => rfl) dX2_init_9 (fun H locs hY hS0 => ?_)
  refine lv_aload_n hx hb dX2_init_12 rfl (lv_at hl 0 rfl) ?_
  refine z_bipush hx hb (by decide) dX2_init_13 ?_
  refine y_newa (atype := .int) hx hb (hts _ (z_mem k53)) (t0 := 0) (N := 12) (by decide) (by decide) (hK.1.2 0 _ rfl).2 rfl hY hS0 (zkd_of (rfl : zcd wC 40 = 13) rfl) (zln_of (rfl : zcd wC 40 = 13) rfl) (by decide) rfl (by decide) (by decide) (Nat.le_of_ble_eq_true rfl) (Nat.le_of_ble_eq_true rfl) dX2_init_15 (fun H hY hS0 => ?_)
  have hY : yS D dA vwCl wC 41 b _ _ H := hY
  refine y_putrF (t := 40) hx hb hts (z_memU u2) tyX2 tyX2_ok nmX2 hown hK.1 hY hS0 f2_1 (by decide) (zkd_of (rfl : zcd wC 38 = 11) rfl) (hts _ (z_mem k83)) rfl hin rfl (tyX2_ok 1 (by decide)) (fun _ => rfl) (fun _ => rfl) dX2_init_17 (fun H locs hY hS0 => ?_)
  refine lv_aload_n hx hb dX2_init_20 rfl (lv_at hl 0 rfl) ?_
  refine z_iconst hx hb dX2_init_21 ?_
  refine y_puti (z := 0) hx hb hts (z_memU u2) tyX2 tyX2_ok nmX2 hown hK.1 hY hS0 f2_2 (by decide) (zkd_of (rfl : zcd wC 38 = 11) rfl) (Or.inl (hts _ (z_mem k84))) rfl (by decide +kernel) (zbd_in (rfl : zcd wC 38 = 11) rfl (by decide)) dX2_init_22 (fun H locs hY hS0 => ?_)
  exact y_ret hx hb hr hlocks hY hS0 dX2_init_25
def mT_C41 (T : zT) : zT := (tup (tup (tup T 42 0 43) 41 0 42) 41 5 44)
def mM_C41 (M : zM) : zM := (zup (zup (zup (zup (zup M 42 1 0) 41 1 0) 41 2 0) 41 3 1) 41 4 0)
set_option maxHeartbeats 4000000 in
set_option maxRecDepth 100000 in
theorem mk_C41 (l : Launch) (D : va_G) (dA : Nat → ClassId) (b : Nat) (M : zM) (T : zT) : Met l yX6_init (.code yX6_init cX6_init 1 none :: zt) (y_rm 2 3 50) (va_Pc [.ref (b + 41)] (yP D dA vwCl (z_tys dA) wC 42 b M T)) (va_Qv (fun _ => True) (yB D dA vwCl wC 45 b (mM_C41 M) (mT_C41 T)) (yA b)) 3 50 (yA b) := by
  refine Met.ofW (cc := cX6_init) (maxL := 1) (ret := none) (by decide) rfl ?_
  intro p e s m args below meth c s₁ B hml hv
  obtain ⟨hargs, hY, hK, hO⟩ := hv
  have hx := B.exec
  have hb := B.bytes
  have hr := B.returns
  have hts := atoms_spec (ws := .code yX6_init cX6_init 1 none :: zt) B.pre
  have hown : s.vm.findClass RX6 = some m.cls := findClass_of_methodNamed B.named
  have hlocks := B.notSynchronized
  have hin : meth.name = "<init>" := (name_of_methodNamed B.named B.method).1
  have hS0 : va_S (yA b) s.heap s.heap [] := va_S.rf
  have hl := lv_entry ([.ref (b + 41)]) (n := 1) (Nat.le_of_ble_eq_true rfl)
  have hent : entryFrame m args 1 = F0 m 0 ((lg_sl ([.ref (b + 41)]) ++ List.replicate (1 - (lg_sl ([.ref (b + 41)])).length) Slot.unset).toArray) [] := by rw [hargs]; exact lg_entry_eq m ([.ref (b + 41)]) 1
  rw [hent]
  generalize (lg_sl ([.ref (b + 41)]) ++ List.replicate (1 - (lg_sl ([.ref (b + 41)])).length) Slot.unset).toArray = ls at hl ⊢
  have hl : lv_has ls 1 [(0, .ref (b + 41))] := hl
  refine lv_aload_n hx hb dX6_init_0 rfl (lv_at hl 0 rfl) ?_
  refine W.objInit hx hb hown (hts _ (z_mem k91)) (hts _ (z_mem k28)) (hts _ (z_mem k29)) rfl (by rw [hml]; exact hl.1) rfl dX6_init_1 (Nat.le_of_ble_eq_true rfl) (Nat.le_of_ble_eq_true rfl) ?_
  refine W.eq (g2 := F0 m 4 ls []) rfl ?_
  refine lv_aload_n hx hb dX6_init_4 rfl (lv_at hl 0 rfl) ?_
  refine y_new hx hb hts (z_memU u8) tyX8 tyX8_ok hown (hts _ (z_mem k92)) (hts _ (z_mem k37)) (hts _ (z_mem k3)) hK.1 hY hS0 (rfl : vwCl[8]? = some (RX8, TX8, 2)) (by decide) (zkd_of (rfl : zcd wC 42 = 6) rfl) rfl (fun k hk => by rcases (show k = 0 ∨ k = 1 by omega) with rfl | rfl <;> rfl) (Nat.le_of_ble_eq_true rfl) (Nat.le_of_ble_eq_true rfl) dX6_init_5 (fun H hY hS0 => ?_)
  have hY : yS D dA vwCl wC 43 b _ _ H := hY
  refine lv_dup hx hb dX6_init_8 rfl ?_
  refine y_call (va_runIN (As := []) (rest := [.ref (b + 42), .ref (b + 41)]) ⟨hx, hb, hml, hown, hts⟩ (mk_Strip l D dA b _ _ 43 42 (by decide) (rfl : zcd wC 42 = 6) (rfl : zcd wC 43 = 7)) ⟨va_cnB 0 hts (z_gN k39) rfl rfl rfl (hK.2 _ (List.mem_of_getElem? (i := 4) rfl)) (hts _ (z_mem k3)) (by decide +kernel) ⟨(Nat.le_of_ble_eq_true rfl), (Nat.le_of_ble_eq_true rfl)⟩, rfl, (hts _ (z_mem k38))⟩ ⟨yP_blind, y_pre hY hK hO⟩ rfl rfl hl.1 rfl (lv_room (Nat.le_of_ble_eq_true rfl)) dX6_init_9 ⟨(Nat.le_of_ble_eq_true rfl), (Nat.le_of_ble_eq_true rfl)⟩) hS0 (fun H locs hY hS0 => ?_)
  have hY : yS D dA vwCl wC 44 b _ _ H := hY
  refine y_putrF (t := 42) hx hb hts (z_memU u6) tyX6 tyX6_ok nmX6 hown hK.1 hY hS0 f6_0 (by decide) (zkd_of (rfl : zcd wC 41 = 14) rfl) (hts _ (z_mem k93)) rfl hin rfl (tyX6_ok 0 (by decide)) (fun _ => rfl) (fun _ => rfl) dX6_init_12 (fun H locs hY hS0 => ?_)
  refine lv_aload_n hx hb dX6_init_15 rfl (lv_at hl 0 rfl) ?_
  refine z_iconst hx hb dX6_init_16 ?_
  refine y_puti (z := 0) hx hb hts (z_memU u6) tyX6 tyX6_ok nmX6 hown hK.1 hY hS0 f6_1 (by decide) (zkd_of (rfl : zcd wC 41 = 14) rfl) (Or.inl (hts _ (z_mem k97))) rfl (by decide +kernel) (zbd_in (rfl : zcd wC 41 = 14) rfl (by decide)) dX6_init_17 (fun H locs hY hS0 => ?_)
  refine lv_aload_n hx hb dX6_init_20 rfl (lv_at hl 0 rfl) ?_
  refine z_iconst hx hb dX6_init_21 ?_
  refine y_puti (z := 0) hx hb hts (z_memU u6) tyX6 tyX6_ok nmX6 hown hK.1 hY hS0 f6_2 (by decide) (zkd_of (rfl : zcd wC 41 = 14) rfl) (Or.inl (hts _ (z_mem k101))) rfl (by decide +kernel) (zbd_in (rfl : zcd wC 41 = 14) rfl (by decide)) dX6_init_22 (fun H locs hY hS0 => ?_)
  refine lv_aload_n hx hb dX6_init_25 rfl (lv_at hl 0 rfl) ?_
  refine z_iconst hx hb dX6_init_26 ?_
  refine y_puti (z := 1) hx hb hts (z_memU u6) tyX6 tyX6_ok nmX6 hown hK.1 hY hS0 f6_3 (by decide) (zkd_of (rfl : zcd wC 41 = 14) rfl) (Or.inl (hts _ (z_mem k104))) rfl (by decide +kernel) (zbd_in (rfl : zcd wC 41 = 14) rfl (by decide)) dX6_init_27 (fun H locs hY hS0 => ?_)
  refine lv_aload_n hx hb dX6_init_30 rfl (lv_at hl 0 rfl) ?_
  refine z_iconst hx hb dX6_init_31 ?_
  refine y_puti (z := 0) hx hb hts (z_memU u6) tyX6 tyX6_ok nmX6 hown hK.1 hY hS0 f6_4 (by decide) (zkd_of (rfl : zcd wC 41 = 14) rfl) (Or.inl (hts _ (z_mem k106))) rfl (by decide +kernel) (zbd_in (rfl : zcd wC 41 = 14) rfl (by decide)) dX6_init_32 (fun H locs hY hS0 => ?_)
  refine lv_aload_n hx hb dX6_init_35 rfl (lv_at hl 0 rfl) ?_
  refine z_bipush hx hb (by decide) dX6_init_36 ?_
  refine y_newa (atype := .int) hx hb (hts _ (z_mem k53)) (t0 := 0) (N := 24) (by decide) (by decide) (hK.1.2 0 _ rfl).2 rfl hY hS0 (zkd_of (rfl : zcd wC 44 = 15) rfl) (zln_of (rfl : zcd wC 44 = 15) rfl) (by decide) rfl (by decide) (by decide) (Nat.le_of_ble_eq_true rfl) (Nat.le_of_ble_eq_true rfl) dX6_init_38 (fun H hY hS0 => ?_)
  have hY : yS D dA vwCl wC 45 b _ _ H := hY
  refine y_putrF (t := 44) hx hb hts (z_memU u6) tyX6 tyX6_ok nmX6 hown hK.1 hY hS0 f6_5 (by decide) (zkd_of (rfl : zcd wC 41 = 14) rfl) (hts _ (z_mem k109)) rfl hin rfl (tyX6_ok 5 (by decide)) (fun _ => rfl) (fun _ => rfl) dX6_init_40 (fun H locs hY hS0 => ?_)
  exact y_ret hx hb hr hlocks hY hS0 dX6_init_43
def mT_C45 (T : zT) : zT := (tup (tup (tup T 46 0 47) 45 0 46) 45 5 48)
def mM_C45 (M : zM) : zM := (zup (zup (zup (zup (zup M 46 1 0) 45 1 0) 45 2 0) 45 3 1) 45 4 0)
set_option maxHeartbeats 4000000 in
set_option maxRecDepth 100000 in
theorem mk_C45 (l : Launch) (D : va_G) (dA : Nat → ClassId) (b : Nat) (M : zM) (T : zT) : Met l yX6_init (.code yX6_init cX6_init 1 none :: zt) (y_rm 2 3 50) (va_Pc [.ref (b + 45)] (yP D dA vwCl (z_tys dA) wC 46 b M T)) (va_Qv (fun _ => True) (yB D dA vwCl wC 49 b (mM_C45 M) (mT_C45 T)) (yA b)) 3 50 (yA b) := by
  refine Met.ofW (cc := cX6_init) (maxL := 1) (ret := none) (by decide) rfl ?_
  intro p e s m args below meth c s₁ B hml hv
  obtain ⟨hargs, hY, hK, hO⟩ := hv
  have hx := B.exec
  have hb := B.bytes
  have hr := B.returns
  have hts := atoms_spec (ws := .code yX6_init cX6_init 1 none :: zt) B.pre
  have hown : s.vm.findClass RX6 = some m.cls := findClass_of_methodNamed B.named
  have hlocks := B.notSynchronized
  have hin : meth.name = "<init>" := (name_of_methodNamed B.named B.method).1
  have hS0 : va_S (yA b) s.heap s.heap [] := va_S.rf
  have hl := lv_entry ([.ref (b + 45)]) (n := 1) (Nat.le_of_ble_eq_true rfl)
  have hent : entryFrame m args 1 = F0 m 0 ((lg_sl ([.ref (b + 45)]) ++ List.replicate (1 - (lg_sl ([.ref (b + 45)])).length) Slot.unset).toArray) [] := by rw [hargs]; exact lg_entry_eq m ([.ref (b + 45)]) 1
  rw [hent]
  generalize (lg_sl ([.ref (b + 45)]) ++ List.replicate (1 - (lg_sl ([.ref (b + 45)])).length) Slot.unset).toArray = ls at hl ⊢
  have hl : lv_has ls 1 [(0, .ref (b + 45))] := hl
  refine lv_aload_n hx hb dX6_init_0 rfl (lv_at hl 0 rfl) ?_
  refine W.objInit hx hb hown (hts _ (z_mem k91)) (hts _ (z_mem k28)) (hts _ (z_mem k29)) rfl (by rw [hml]; exact hl.1) rfl dX6_init_1 (Nat.le_of_ble_eq_true rfl) (Nat.le_of_ble_eq_true rfl) ?_
  refine W.eq (g2 := F0 m 4 ls []) rfl ?_
  refine lv_aload_n hx hb dX6_init_4 rfl (lv_at hl 0 rfl) ?_
  refine y_new hx hb hts (z_memU u8) tyX8 tyX8_ok hown (hts _ (z_mem k92)) (hts _ (z_mem k37)) (hts _ (z_mem k3)) hK.1 hY hS0 (rfl : vwCl[8]? = some (RX8, TX8, 2)) (by decide) (zkd_of (rfl : zcd wC 46 = 6) rfl) rfl (fun k hk => by rcases (show k = 0 ∨ k = 1 by omega) with rfl | rfl <;> rfl) (Nat.le_of_ble_eq_true rfl) (Nat.le_of_ble_eq_true rfl) dX6_init_5 (fun H hY hS0 => ?_)
  have hY : yS D dA vwCl wC 47 b _ _ H := hY
  refine lv_dup hx hb dX6_init_8 rfl ?_
  refine y_call (va_runIN (As := []) (rest := [.ref (b + 46), .ref (b + 45)]) ⟨hx, hb, hml, hown, hts⟩ (mk_Strip l D dA b _ _ 47 46 (by decide) (rfl : zcd wC 46 = 6) (rfl : zcd wC 47 = 7)) ⟨va_cnB 0 hts (z_gN k39) rfl rfl rfl (hK.2 _ (List.mem_of_getElem? (i := 4) rfl)) (hts _ (z_mem k3)) (by decide +kernel) ⟨(Nat.le_of_ble_eq_true rfl), (Nat.le_of_ble_eq_true rfl)⟩, rfl, (hts _ (z_mem k38))⟩ ⟨yP_blind, y_pre hY hK hO⟩ rfl rfl hl.1 rfl (lv_room (Nat.le_of_ble_eq_true rfl)) dX6_init_9 ⟨(Nat.le_of_ble_eq_true rfl), (Nat.le_of_ble_eq_true rfl)⟩) hS0 (fun H locs hY hS0 => ?_)
  have hY : yS D dA vwCl wC 48 b _ _ H := hY
  refine y_putrF (t := 46) hx hb hts (z_memU u6) tyX6 tyX6_ok nmX6 hown hK.1 hY hS0 f6_0 (by decide) (zkd_of (rfl : zcd wC 45 = 14) rfl) (hts _ (z_mem k93)) rfl hin rfl (tyX6_ok 0 (by decide)) (fun _ => rfl) (fun _ => rfl) dX6_init_12 (fun H locs hY hS0 => ?_)
  refine lv_aload_n hx hb dX6_init_15 rfl (lv_at hl 0 rfl) ?_
  refine z_iconst hx hb dX6_init_16 ?_
  refine y_puti (z := 0) hx hb hts (z_memU u6) tyX6 tyX6_ok nmX6 hown hK.1 hY hS0 f6_1 (by decide) (zkd_of (rfl : zcd wC 45 = 14) rfl) (Or.inl (hts _ (z_mem k97))) rfl (by decide +kernel) (zbd_in (rfl : zcd wC 45 = 14) rfl (by decide)) dX6_init_17 (fun H locs hY hS0 => ?_)
  refine lv_aload_n hx hb dX6_init_20 rfl (lv_at hl 0 rfl) ?_
  refine z_iconst hx hb dX6_init_21 ?_
  refine y_puti (z := 0) hx hb hts (z_memU u6) tyX6 tyX6_ok nmX6 hown hK.1 hY hS0 f6_2 (by decide) (zkd_of (rfl : zcd wC 45 = 14) rfl) (Or.inl (hts _ (z_mem k101))) rfl (by decide +kernel) (zbd_in (rfl : zcd wC 45 = 14) rfl (by decide)) dX6_init_22 (fun H locs hY hS0 => ?_)
  refine lv_aload_n hx hb dX6_init_25 rfl (lv_at hl 0 rfl) ?_
  refine z_iconst hx hb dX6_init_26 ?_
  refine y_puti (z := 1) hx hb hts (z_memU u6) tyX6 tyX6_ok nmX6 hown hK.1 hY hS0 f6_3 (by decide) (zkd_of (rfl : zcd wC 45 = 14) rfl) (Or.inl (hts _ (z_mem k104))) rfl (by decide +kernel) (zbd_in (rfl : zcd wC 45 = 14) rfl (by decide)) dX6_init_27 (fun H locs hY hS0 => ?_)
  refine lv_aload_n hx hb dX6_init_30 rfl (lv_at hl 0 rfl) ?_
  refine z_iconst hx hb dX6_init_31 ?_
  refine y_puti (z := 0) hx hb hts (z_memU u6) tyX6 tyX6_ok nmX6 hown hK.1 hY hS0 f6_4 (by decide) (zkd_of (rfl : zcd wC 45 = 14) rfl) (Or.inl (hts _ (z_mem k106))) rfl (by decide +kernel) (zbd_in (rfl : zcd wC 45 = 14) rfl (by decide)) dX6_init_32 (fun H locs hY hS0 => ?_)
  refine lv_aload_n hx hb dX6_init_35 rfl (lv_at hl 0 rfl) ?_
  refine z_bipush hx hb (by decide) dX6_init_36 ?_
  refine y_newa (atype := .int) hx hb (hts _ (z_mem k53)) (t0 := 0) (N := 24) (by decide) (by decide) (hK.1.2 0 _ rfl).2 rfl hY hS0 (zkd_of (rfl : zcd wC 48 = 15) rfl) (zln_of (rfl : zcd wC 48 = 15) rfl) (by decide) rfl (by decide) (by decide) (Nat.le_of_ble_eq_true rfl) (Nat.le_of_ble_eq_true rfl) dX6_init_38 (fun H hY hS0 => ?_)
  have hY : yS D dA vwCl wC 49 b _ _ H := hY
  refine y_putrF (t := 48) hx hb hts (z_memU u6) tyX6 tyX6_ok nmX6 hown hK.1 hY hS0 f6_5 (by decide) (zkd_of (rfl : zcd wC 45 = 14) rfl) (hts _ (z_mem k109)) rfl hin rfl (tyX6_ok 5 (by decide)) (fun _ => rfl) (fun _ => rfl) dX6_init_40 (fun H locs hY hS0 => ?_)
  exact y_ret hx hb hr hlocks hY hS0 dX6_init_43
def mT_C49 (T : zT) : zT := (tup (tup (tup T 50 0 51) 49 0 50) 49 5 52)
def mM_C49 (M : zM) : zM := (zup (zup (zup (zup (zup M 50 1 0) 49 1 0) 49 2 0) 49 3 1) 49 4 0)
set_option maxHeartbeats 4000000 in
set_option maxRecDepth 100000 in
theorem mk_C49 (l : Launch) (D : va_G) (dA : Nat → ClassId) (b : Nat) (M : zM) (T : zT) : Met l yX6_init (.code yX6_init cX6_init 1 none :: zt) (y_rm 2 3 50) (va_Pc [.ref (b + 49)] (yP D dA vwCl (z_tys dA) wC 50 b M T)) (va_Qv (fun _ => True) (yB D dA vwCl wC 53 b (mM_C49 M) (mT_C49 T)) (yA b)) 3 50 (yA b) := by
  refine Met.ofW (cc := cX6_init) (maxL := 1) (ret := none) (by decide) rfl ?_
  intro p e s m args below meth c s₁ B hml hv
  obtain ⟨hargs, hY, hK, hO⟩ := hv
  have hx := B.exec
  have hb := B.bytes
  have hr := B.returns
  have hts := atoms_spec (ws := .code yX6_init cX6_init 1 none :: zt) B.pre
  have hown : s.vm.findClass RX6 = some m.cls := findClass_of_methodNamed B.named
  have hlocks := B.notSynchronized
  have hin : meth.name = "<init>" := (name_of_methodNamed B.named B.method).1
  have hS0 : va_S (yA b) s.heap s.heap [] := va_S.rf
  have hl := lv_entry ([.ref (b + 49)]) (n := 1) (Nat.le_of_ble_eq_true rfl)
  have hent : entryFrame m args 1 = F0 m 0 ((lg_sl ([.ref (b + 49)]) ++ List.replicate (1 - (lg_sl ([.ref (b + 49)])).length) Slot.unset).toArray) [] := by rw [hargs]; exact lg_entry_eq m ([.ref (b + 49)]) 1
  rw [hent]
  generalize (lg_sl ([.ref (b + 49)]) ++ List.replicate (1 - (lg_sl ([.ref (b + 49)])).length) Slot.unset).toArray = ls at hl ⊢
  have hl : lv_has ls 1 [(0, .ref (b + 49))] := hl
  refine lv_aload_n hx hb dX6_init_0 rfl (lv_at hl 0 rfl) ?_
  refine W.objInit hx hb hown (hts _ (z_mem k91)) (hts _ (z_mem k28)) (hts _ (z_mem k29)) rfl (by rw [hml]; exact hl.1) rfl dX6_init_1 (Nat.le_of_ble_eq_true rfl) (Nat.le_of_ble_eq_true rfl) ?_
  refine W.eq (g2 := F0 m 4 ls []) rfl ?_
  refine lv_aload_n hx hb dX6_init_4 rfl (lv_at hl 0 rfl) ?_
  refine y_new hx hb hts (z_memU u8) tyX8 tyX8_ok hown (hts _ (z_mem k92)) (hts _ (z_mem k37)) (hts _ (z_mem k3)) hK.1 hY hS0 (rfl : vwCl[8]? = some (RX8, TX8, 2)) (by decide) (zkd_of (rfl : zcd wC 50 = 6) rfl) rfl (fun k hk => by rcases (show k = 0 ∨ k = 1 by omega) with rfl | rfl <;> rfl) (Nat.le_of_ble_eq_true rfl) (Nat.le_of_ble_eq_true rfl) dX6_init_5 (fun H hY hS0 => ?_)
  have hY : yS D dA vwCl wC 51 b _ _ H := hY
  refine lv_dup hx hb dX6_init_8 rfl ?_
  refine y_call (va_runIN (As := []) (rest := [.ref (b + 50), .ref (b + 49)]) ⟨hx, hb, hml, hown, hts⟩ (mk_Strip l D dA b _ _ 51 50 (by decide) (rfl : zcd wC 50 = 6) (rfl : zcd wC 51 = 7)) ⟨va_cnB 0 hts (z_gN k39) rfl rfl rfl (hK.2 _ (List.mem_of_getElem? (i := 4) rfl)) (hts _ (z_mem k3)) (by decide +kernel) ⟨(Nat.le_of_ble_eq_true rfl), (Nat.le_of_ble_eq_true rfl)⟩, rfl, (hts _ (z_mem k38))⟩ ⟨yP_blind, y_pre hY hK hO⟩ rfl rfl hl.1 rfl (lv_room (Nat.le_of_ble_eq_true rfl)) dX6_init_9 ⟨(Nat.le_of_ble_eq_true rfl), (Nat.le_of_ble_eq_true rfl)⟩) hS0 (fun H locs hY hS0 => ?_)
  have hY : yS D dA vwCl wC 52 b _ _ H := hY
  refine y_putrF (t := 50) hx hb hts (z_memU u6) tyX6 tyX6_ok nmX6 hown hK.1 hY hS0 f6_0 (by decide) (zkd_of (rfl : zcd wC 49 = 14) rfl) (hts _ (z_mem k93)) rfl hin rfl (tyX6_ok 0 (by decide)) (fun _ => rfl) (fun _ => rfl) dX6_init_12 (fun H locs hY hS0 => ?_)
  refine lv_aload_n hx hb dX6_init_15 rfl (lv_at hl 0 rfl) ?_
  refine z_iconst hx hb dX6_init_16 ?_
  refine y_puti (z := 0) hx hb hts (z_memU u6) tyX6 tyX6_ok nmX6 hown hK.1 hY hS0 f6_1 (by decide) (zkd_of (rfl : zcd wC 49 = 14) rfl) (Or.inl (hts _ (z_mem k97))) rfl (by decide +kernel) (zbd_in (rfl : zcd wC 49 = 14) rfl (by decide)) dX6_init_17 (fun H locs hY hS0 => ?_)
  refine lv_aload_n hx hb dX6_init_20 rfl (lv_at hl 0 rfl) ?_
  refine z_iconst hx hb dX6_init_21 ?_
  refine y_puti (z := 0) hx hb hts (z_memU u6) tyX6 tyX6_ok nmX6 hown hK.1 hY hS0 f6_2 (by decide) (zkd_of (rfl : zcd wC 49 = 14) rfl) (Or.inl (hts _ (z_mem k101))) rfl (by decide +kernel) (zbd_in (rfl : zcd wC 49 = 14) rfl (by decide)) dX6_init_22 (fun H locs hY hS0 => ?_)
  refine lv_aload_n hx hb dX6_init_25 rfl (lv_at hl 0 rfl) ?_
  refine z_iconst hx hb dX6_init_26 ?_
  refine y_puti (z := 1) hx hb hts (z_memU u6) tyX6 tyX6_ok nmX6 hown hK.1 hY hS0 f6_3 (by decide) (zkd_of (rfl : zcd wC 49 = 14) rfl) (Or.inl (hts _ (z_mem k104))) rfl (by decide +kernel) (zbd_in (rfl : zcd wC 49 = 14) rfl (by decide)) dX6_init_27 (fun H locs hY hS0 => ?_)
  refine lv_aload_n hx hb dX6_init_30 rfl (lv_at hl 0 rfl) ?_
  refine z_iconst hx hb dX6_init_31 ?_
  refine y_puti (z := 0) hx hb hts (z_memU u6) tyX6 tyX6_ok nmX6 hown hK.1 hY hS0 f6_4 (by decide) (zkd_of (rfl : zcd wC 49 = 14) rfl) (Or.inl (hts _ (z_mem k106))) rfl (by decide +kernel) (zbd_in (rfl : zcd wC 49 = 14) rfl (by decide)) dX6_init_32 (fun H locs hY hS0 => ?_)
  refine lv_aload_n hx hb dX6_init_35 rfl (lv_at hl 0 rfl) ?_
  refine z_bipush hx hb (by decide) dX6_init_36 ?_
  refine y_newa (atype := .int) hx hb (hts _ (z_mem k53)) (t0 := 0) (N := 24) (by decide) (by decide) (hK.1.2 0 _ rfl).2 rfl hY hS0 (zkd_of (rfl : zcd wC 52 = 15) rfl) (zln_of (rfl : zcd wC 52 = 15) rfl) (by decide) rfl (by decide) (by decide) (Nat.le_of_ble_eq_true rfl) (Nat.le_of_ble_eq_true rfl) dX6_init_38 (fun H hY hS0 => ?_)
  have hY : yS D dA vwCl wC 53 b _ _ H := hY
  refine y_putrF (t := 52) hx hb hts (z_memU u6) tyX6 tyX6_ok nmX6 hown hK.1 hY hS0 f6_5 (by decide) (zkd_of (rfl : zcd wC 49 = 14) rfl) (hts _ (z_mem k109)) rfl hin rfl (tyX6_ok 5 (by decide)) (fun _ => rfl) (fun _ => rfl) dX6_init_40 (fun H locs hY hS0 => ?_)
  exact y_ret hx hb hr hlocks hY hS0 dX6_init_43
def mT_C53 (T : zT) : zT := (tup (tup (tup T 54 0 55) 53 0 54) 53 5 56)
def mM_C53 (M : zM) : zM := (zup (zup (zup (zup (zup M 54 1 0) 53 1 0) 53 2 0) 53 3 1) 53 4 0)
set_option maxHeartbeats 4000000 in
set_option maxRecDepth 100000 in
theorem mk_C53 (l : Launch) (D : va_G) (dA : Nat → ClassId) (b : Nat) (M : zM) (T : zT) : Met l yX6_init (.code yX6_init cX6_init 1 none :: zt) (y_rm 2 3 50) (va_Pc [.ref (b + 53)] (yP D dA vwCl (z_tys dA) wC 54 b M T)) (va_Qv (fun _ => True) (yB D dA vwCl wC 57 b (mM_C53 M) (mT_C53 T)) (yA b)) 3 50 (yA b) := by
  refine Met.ofW (cc := cX6_init) (maxL := 1) (ret := none) (by decide) rfl ?_
  intro p e s m args below meth c s₁ B hml hv
  obtain ⟨hargs, hY, hK, hO⟩ := hv
  have hx := B.exec
  have hb := B.bytes
  have hr := B.returns
  have hts := atoms_spec (ws := .code yX6_init cX6_init 1 none :: zt) B.pre
  have hown : s.vm.findClass RX6 = some m.cls := findClass_of_methodNamed B.named
  have hlocks := B.notSynchronized
  have hin : meth.name = "<init>" := (name_of_methodNamed B.named B.method).1
  have hS0 : va_S (yA b) s.heap s.heap [] := va_S.rf
  have hl := lv_entry ([.ref (b + 53)]) (n := 1) (Nat.le_of_ble_eq_true rfl)
  have hent : entryFrame m args 1 = F0 m 0 ((lg_sl ([.ref (b + 53)]) ++ List.replicate (1 - (lg_sl ([.ref (b + 53)])).length) Slot.unset).toArray) [] := by rw [hargs]; exact lg_entry_eq m ([.ref (b + 53)]) 1
  rw [hent]
  generalize (lg_sl ([.ref (b + 53)]) ++ List.replicate (1 - (lg_sl ([.ref (b + 53)])).length) Slot.unset).toArray = ls at hl ⊢
  have hl : lv_has ls 1 [(0, .ref (b + 53))] := hl
  refine lv_aload_n hx hb dX6_init_0 rfl (lv_at hl 0 rfl) ?_
  refine W.objInit hx hb hown (hts _ (z_mem k91)) (hts _ (z_mem k28)) (hts _ (z_mem k29)) rfl (by rw [hml]; exact hl.1) rfl dX6_init_1 (Nat.le_of_ble_eq_true rfl) (Nat.le_of_ble_eq_true rfl) ?_
  refine W.eq (g2 := F0 m 4 ls []) rfl ?_
  refine lv_aload_n hx hb dX6_init_4 rfl (lv_at hl 0 rfl) ?_
  refine y_new hx hb hts (z_memU u8) tyX8 tyX8_ok hown (hts _ (z_mem k92)) (hts _ (z_mem k37)) (hts _ (z_mem k3)) hK.1 hY hS0 (rfl : vwCl[8]? = some (RX8, TX8, 2)) (by decide) (zkd_of (rfl : zcd wC 54 = 6) rfl) rfl (fun k hk => by rcases (show k = 0 ∨ k = 1 by omega) with rfl | rfl <;> rfl) (Nat.le_of_ble_eq_true rfl) (Nat.le_of_ble_eq_true rfl) dX6_init_5 (fun H hY hS0 => ?_)
  have hY : yS D dA vwCl wC 55 b _ _ H := hY
  refine lv_dup hx hb dX6_init_8 rfl ?_
  refine y_call (va_runIN (As := []) (rest := [.ref (b + 54), .ref (b + 53)]) ⟨hx, hb, hml, hown, hts⟩ (mk_Strip l D dA b _ _ 55 54 (by decide) (rfl : zcd wC 54 = 6) (rfl : zcd wC 55 = 7)) ⟨va_cnB 0 hts (z_gN k39) rfl rfl rfl (hK.2 _ (List.mem_of_getElem? (i := 4) rfl)) (hts _ (z_mem k3)) (by decide +kernel) ⟨(Nat.le_of_ble_eq_true rfl), (Nat.le_of_ble_eq_true rfl)⟩, rfl, (hts _ (z_mem k38))⟩ ⟨yP_blind, y_pre hY hK hO⟩ rfl rfl hl.1 rfl (lv_room (Nat.le_of_ble_eq_true rfl)) dX6_init_9 ⟨(Nat.le_of_ble_eq_true rfl), (Nat.le_of_ble_eq_true rfl)⟩) hS0 (fun H locs hY hS0 => ?_)
  have hY : yS D dA vwCl wC 56 b _ _ H := hY
  refine y_putrF (t := 54) hx hb hts (z_memU u6) tyX6 tyX6_ok nmX6 hown hK.1 hY hS0 f6_0 (by decide) (zkd_of (rfl : zcd wC 53 = 14) rfl) (hts _ (z_mem k93)) rfl hin rfl (tyX6_ok 0 (by decide)) (fun _ => rfl) (fun _ => rfl) dX6_init_12 (fun H locs hY hS0 => ?_)
  refine lv_aload_n hx hb dX6_init_15 rfl (lv_at hl 0 rfl) ?_
  refine z_iconst hx hb dX6_init_16 ?_
  refine y_puti (z := 0) hx hb hts (z_memU u6) tyX6 tyX6_ok nmX6 hown hK.1 hY hS0 f6_1 (by decide) (zkd_of (rfl : zcd wC 53 = 14) rfl) (Or.inl (hts _ (z_mem k97))) rfl (by decide +kernel) (zbd_in (rfl : zcd wC 53 = 14) rfl (by decide)) dX6_init_17 (fun H locs hY hS0 => ?_)
  refine lv_aload_n hx hb dX6_init_20 rfl (lv_at hl 0 rfl) ?_
  refine z_iconst hx hb dX6_init_21 ?_
  refine y_puti (z := 0) hx hb hts (z_memU u6) tyX6 tyX6_ok nmX6 hown hK.1 hY hS0 f6_2 (by decide) (zkd_of (rfl : zcd wC 53 = 14) rfl) (Or.inl (hts _ (z_mem k101))) rfl (by decide +kernel) (zbd_in (rfl : zcd wC 53 = 14) rfl (by decide)) dX6_init_22 (fun H locs hY hS0 => ?_)
  refine lv_aload_n hx hb dX6_init_25 rfl (lv_at hl 0 rfl) ?_
  refine z_iconst hx hb dX6_init_26 ?_
  refine y_puti (z := 1) hx hb hts (z_memU u6) tyX6 tyX6_ok nmX6 hown hK.1 hY hS0 f6_3 (by decide) (zkd_of (rfl : zcd wC 53 = 14) rfl) (Or.inl (hts _ (z_mem k104))) rfl (by decide +kernel) (zbd_in (rfl : zcd wC 53 = 14) rfl (by decide)) dX6_init_27 (fun H locs hY hS0 => ?_)
  refine lv_aload_n hx hb dX6_init_30 rfl (lv_at hl 0 rfl) ?_
  refine z_iconst hx hb dX6_init_31 ?_
  refine y_puti (z := 0) hx hb hts (z_memU u6) tyX6 tyX6_ok nmX6 hown hK.1 hY hS0 f6_4 (by decide) (zkd_of (rfl : zcd wC 53 = 14) rfl) (Or.inl (hts _ (z_mem k106))) rfl (by decide +kernel) (zbd_in (rfl : zcd wC 53 = 14) rfl (by decide)) dX6_init_32 (fun H locs hY hS0 => ?_)
  refine lv_aload_n hx hb dX6_init_35 rfl (lv_at hl 0 rfl) ?_
  refine z_bipush hx hb (by decide) dX6_init_36 ?_
  refine y_newa (atype := .int) hx hb (hts _ (z_mem k53)) (t0 := 0) (N := 24) (by decide) (by decide) (hK.1.2 0 _ rfl).2 rfl hY hS0 (zkd_of (rfl : zcd wC 56 = 15) rfl) (zln_of (rfl : zcd wC 56 = 15) rfl) (by decide) rfl (by decide) (by decide) (Nat.le_of_ble_eq_true rfl) (Nat.le_of_ble_eq_true rfl) dX6_init_38 (fun H hY hS0 => ?_)
  have hY : yS D dA vwCl wC 57 b _ _ H := hY
  refine y_putrF (t := 56) hx hb hts (z_memU u6) tyX6 tyX6_ok nmX6 hown hK.1 hY hS0 f6_5 (by decide) (zkd_of (rfl : zcd wC 53 = 14) rfl) (hts _ (z_mem k109)) rfl hin rfl (tyX6_ok 5 (by decide)) (fun _ => rfl) (fun _ => rfl) dX6_init_40 (fun H locs hY hS0 => ?_)
  exact y_ret hx hb hr hlocks hY hS0 dX6_init_43
def mT_C32 (T : zT) : zT := (tup (mT_C53 (tup (mT_C49 (tup (mT_C45 (tup (mT_C41 (tup (mT_C38 (tup (mT_C35 (tup (tup T 32 0 33) 32 1 34)) 33 (0 : Int).toNat 35)) 33 (1 : Int).toNat 38)) 34 (0 : Int).toNat 41)) 34 (1 : Int).toNat 45)) 34 (2 : Int).toNat 49)) 34 (3 : Int).toNat 53)
def mM_C32 (M : zM) : zM := (mM_C53 (mM_C49 (mM_C45 (mM_C41 (mM_C38 (mM_C35 (zup M 32 2 0)))))))
set_option maxHeartbeats 4000000 in
set_option maxRecDepth 100000 in
theorem mk_C32 (l : Launch) (D : va_G) (dA : Nat → ClassId) (b : Nat) (M : zM) (T : zT) : Met l yX9_init (.code yX9_init cX9_init 2 none :: zt) (y_rm 3 24 284) (va_Pc [.ref (b + 32)] (yP D dA vwCl (z_tys dA) wC 33 b M T)) (va_Qv (fun _ => True) (yB D dA vwCl wC 57 b (mM_C32 M) (mT_C32 T)) (yA b)) 24 284 (yA b) := by
  refine Met.ofW (cc := cX9_init) (maxL := 2) (ret := none) (by decide) rfl ?_
  intro p e s m args below meth c s₁ B hml hv
  obtain ⟨hargs, hY, hK, hO⟩ := hv
  have hx := B.exec
  have hb := B.bytes
  have hr := B.returns
  have hts := atoms_spec (ws := .code yX9_init cX9_init 2 none :: zt) B.pre
  have hown : s.vm.findClass RX9 = some m.cls := findClass_of_methodNamed B.named
  have hlocks := B.notSynchronized
  have hin : meth.name = "<init>" := (name_of_methodNamed B.named B.method).1
  have hS0 : va_S (yA b) s.heap s.heap [] := va_S.rf
  have hl := lv_entry ([.ref (b + 32)]) (n := 2) (Nat.le_of_ble_eq_true rfl)
  have hent : entryFrame m args 2 = F0 m 0 ((lg_sl ([.ref (b + 32)]) ++ List.replicate (2 - (lg_sl ([.ref (b + 32)])).length) Slot.unset).toArray) [] := by rw [hargs]; exact lg_entry_eq m ([.ref (b + 32)]) 2
  rw [hent]
  generalize (lg_sl ([.ref (b + 32)]) ++ List.replicate (2 - (lg_sl ([.ref (b + 32)])).length) Slot.unset).toArray = ls at hl ⊢
  have hl : lv_has ls 2 [(0, .ref (b + 32))] := hl
  refine lv_aload_n hx hb dX9_init_0 rfl (lv_at hl 0 rfl) ?_
  refine W.objInit hx hb hown (hts _ (z_mem k75)) (hts _ (z_mem k28)) (hts _ (z_mem k29)) rfl (by rw [hml]; exact hl.1) rfl dX9_init_1 (Nat.le_of_ble_eq_true rfl) (Nat.le_of_ble_eq_true rfl) ?_
  refine W.eq (g2 := F0 m 4 ls []) rfl ?_
  refine lv_aload_n hx hb dX9_init_4 rfl (lv_at hl 0 rfl) ?_
  refine z_iconst hx hb dX9_init_5 ?_
  refine y_newq (C := "TapeRings$Motor") (t0 := 5) (N := 2) hx hb hown (hts _ (z_mem k76)) hO.2.1 (by decide) (hK.1.2 5 _ rfl).2 hY hS0 (zkd_of (rfl : zcd wC 33 = 9) rfl) (zln_of (rfl : zcd wC 33 = 9) rfl) (by decide) rfl (by decide) (by decide) (Nat.le_of_ble_eq_true rfl) (Nat.le_of_ble_eq_true rfl) dX9_init_6 (fun H hY hS0 => ?_)
  have hY : yS D dA vwCl wC 34 b _ _ H := hY
  refine y_putrF (t := 33) hx hb hts (z_memU u9) tyX9 tyX9_ok nmX9 hown hK.1 hY hS0 f9_0 (by decide) (zkd_of (rfl : zcd wC 32 = 8) rfl) (hts _ (z_mem k116)) rfl hin rfl (tyX9_ok 0 (by decide)) (fun _ => rfl) (fun _ => rfl) dX9_init_9 (fun H locs hY hS0 => ?_)
  refine lv_aload_n hx hb dX9_init_12 rfl (lv_at hl 0 rfl) ?_
  refine z_iconst hx hb dX9_init_13 ?_
  refine y_newq (C := "TapeRings$Ring") (t0 := 6) (N := 4) hx hb hown (hts _ (z_mem k77)) hO.2.2.1 (by decide) (hK.1.2 6 _ rfl).2 hY hS0 (zkd_of (rfl : zcd wC 34 = 10) rfl) (zln_of (rfl : zcd wC 34 = 10) rfl) (by decide) rfl (by decide) (by decide) (Nat.le_of_ble_eq_true rfl) (Nat.le_of_ble_eq_true rfl) dX9_init_14 (fun H hY hS0 => ?_)
  have hY : yS D dA vwCl wC 35 b _ _ H := hY
  refine y_putrF (t := 34) hx hb hts (z_memU u9) tyX9 tyX9_ok nmX9 hown hK.1 hY hS0 f9_1 (by decide) (zkd_of (rfl : zcd wC 32 = 8) rfl) (hts _ (z_mem k117)) rfl hin rfl (tyX9_ok 1 (by decide)) (fun _ => rfl) (fun _ => rfl) dX9_init_17 (fun H locs hY hS0 => ?_)
  refine lv_aload_n hx hb dX9_init_20 rfl (lv_at hl 0 rfl) ?_
  refine z_iconst hx hb dX9_init_21 ?_
  refine y_puti (z := 0) hx hb hts (z_memU u9) tyX9 tyX9_ok nmX9 hown hK.1 hY hS0 f9_2 (by decide) (zkd_of (rfl : zcd wC 32 = 8) rfl) (Or.inl (hts _ (z_mem k118))) rfl (by decide +kernel) (zbd_in (rfl : zcd wC 32 = 8) rfl (by decide)) dX9_init_22 (fun H locs hY hS0 => ?_)
  refine z_iconst hx hb dX9_init_25 ?_
  refine lv_istore_n (lv' := [(1, .int (iI 0)), (0, .ref (b + 32))]) hx hb dX9_init_26 rfl hl (by decide) rfl (fun ls hl => ?_)
  refine lv_iload_n hx hb dX9_init_27 rfl (lv_at hl 0 rfl) ?_
  refine z_iconst hx hb dX9_init_28 ?_
  refine z_icmp_ge (tgt := 51) hx hb (by decide) (by decide) dX9_init_29 (by decide) (fun c9 => absurd c9 (by decide)) (fun _ => ?_)
  refine lv_aload_n hx hb dX9_init_32 rfl (lv_at hl 1 rfl) ?_
  refine y_getr (t := 33) hx hb hts (z_memU u9) hown hK.1 hY f9_0 (by decide) (zkd_of (rfl : zcd wC 32 = 8) rfl) (by first | rfl | simp [tup]) (Or.inl (hts _ (z_mem k116))) dX9_init_33 ?_
  refine lv_iload_n hx hb dX9_init_36 rfl (lv_at hl 0 rfl) ?_
  refine y_new hx hb hts (z_memU u2) tyX2 tyX2_ok hown (hts _ (z_mem k76)) (hts _ (z_mem k78)) (hts _ (z_mem k5)) hK.1 hY hS0 (rfl : vwCl[2]? = some (RX2, TX2, 3)) (by decide) (zkd_of (rfl : zcd wC 35 = 11) rfl) rfl (fun k hk => by rcases (show k = 0 ∨ k = 1 ∨ k = 2 by omega) with rfl | rfl | rfl <;> rfl) (Nat.le_of_ble_eq_true rfl) (Nat.le_of_ble_eq_true rfl) dX9_init_37 (fun H hY hS0 => ?_)
  have hY : yS D dA vwCl wC 36 b _ _ H := hY
  refine lv_dup hx hb dX9_init_40 rfl ?_
  refine y_call (va_runIN (As := []) (rest := [.ref (b + 35), .int (iI 0), .ref (b + 33)]) ⟨hx, hb, hml, hown, hts⟩ (mk_C35 l D dA b _ _) ⟨va_cnB 0 hts (z_gN k80) rfl rfl rfl (hK.2 _ (List.mem_of_getElem? (i := 2) rfl)) (hts _ (z_mem k5)) (by decide +kernel) ⟨(Nat.le_of_ble_eq_true rfl), (Nat.le_of_ble_eq_true rfl)⟩, rfl, (hts _ (z_mem k79))⟩ ⟨yP_blind, y_pre hY hK hO⟩ rfl rfl hl.1 rfl (lv_room (Nat.le_of_ble_eq_true rfl)) dX9_init_41 ⟨(Nat.le_of_ble_eq_true rfl), (Nat.le_of_ble_eq_true rfl)⟩) hS0 (fun H locs hY hS0 => ?_)
  have hY : yS D dA vwCl wC 38 b _ _ H := hY
  refine y_aast (t0 := 5) (N := 2) (i := 0) hx hb hK.1 (by decide) (hK.1.2 5 _ rfl).2 (rfl : vwCl[2]? = some (RX2, TX2, 3)) (by decide) hY hS0 (by decide) (zkd_of (rfl : zcd wC 33 = 9) rfl) (zln_of (rfl : zcd wC 33 = 9) rfl) (by decide) (zkd_of (rfl : zcd wC 35 = 11) rfl) (by decide) (by decide) (by decide) dX9_init_44 (fun H locs hY hS0 => ?_)
  refine z_iinc (lv' := [(1, .int (iI (0 + 1))), (0, .ref (b + 32))]) hx hb dX9_init_45 hl (k := 0) rfl (by decide) rfl (fun ls hl => ?_)
  rw [show ((0 + 1) : Int) = 1 from by decide] at hl
  refine lv_goto (tgt := 27) hx hb dX9_init_48 (by decide) ?_
  refine lv_iload_n hx hb dX9_init_27 rfl (lv_at hl 0 rfl) ?_
  refine z_iconst hx hb dX9_init_28 ?_
  refine z_icmp_ge (tgt := 51) hx hb (by decide) (by decide) dX9_init_29 (by decide) (fun c9 => absurd c9 (by decide)) (fun _ => ?_)
  refine lv_aload_n hx hb dX9_init_32 rfl (lv_at hl 1 rfl) ?_
  refine y_getr (t := 33) hx hb hts (z_memU u9) hown hK.1 hY f9_0 (by decide) (zkd_of (rfl : zcd wC 32 = 8) rfl) (by first | rfl | simp [tup]) (Or.inl (hts _ (z_mem k116))) dX9_init_33 ?_
  refine lv_iload_n hx hb dX9_init_36 rfl (lv_at hl 0 rfl) ?_
  refine y_new hx hb hts (z_memU u2) tyX2 tyX2_ok hown (hts _ (z_mem k76)) (hts _ (z_mem k78)) (hts _ (z_mem k5)) hK.1 hY hS0 (rfl : vwCl[2]? = some (RX2, TX2, 3)) (by decide) (zkd_of (rfl : zcd wC 38 = 11) rfl) rfl (fun k hk => by rcases (show k = 0 ∨ k = 1 ∨ k = 2 by omega) with rfl | rfl | rfl <;> rfl) (Nat.le_of_ble_eq_true rfl) (Nat.le_of_ble_eq_true rfl) dX9_init_37 (fun H hY hS0 => ?_)
  have hY : yS D dA vwCl wC 39 b _ _ H := hY
  refine lv_dup hx hb dX9_init_40 rfl ?_
  refine y_call (va_runIN (As := []) (rest := [.ref (b + 38), .int (iI 1), .ref (b + 33)]) ⟨hx, hb, hml, hown, hts⟩ (mk_C38 l D dA b _ _) ⟨va_cnB 0 hts (z_gN k80) rfl rfl rfl (hK.2 _ (List.mem_of_getElem? (i := 2) rfl)) (hts _ (z_mem k5)) (by decide +kernel) ⟨(Nat.le_of_ble_eq_true rfl), (Nat.le_of_ble_eq_true rfl)⟩, rfl, (hts _ (z_mem k79))⟩ ⟨yP_blind, y_pre hY hK hO⟩ rfl rfl hl.1 rfl (lv_room (Nat.le_of_ble_eq_true rfl)) dX9_init_41 ⟨(Nat.le_of_ble_eq_true rfl), (Nat.le_of_ble_eq_true rfl)⟩) hS0 (fun H locs hY hS0 => ?_)
  have hY : yS D dA vwCl wC 41 b _ _ H := hY
  refine y_aast (t0 := 5) (N := 2) (i := 1) hx hb hK.1 (by decide) (hK.1.2 5 _ rfl).2 (rfl : vwCl[2]? = some (RX2, TX2, 3)) (by decide) hY hS0 (by decide) (zkd_of (rfl : zcd wC 33 = 9) rfl) (zln_of (rfl : zcd wC 33 = 9) rfl) (by decide) (zkd_of (rfl : zcd wC 38 = 11) rfl) (by decide) (by decide) (by decide) dX9_init_44 (fun H locs hY hS0 => ?_)
  refine z_iinc (lv' := [(1, .int (iI (1 + 1))), (0, .ref (b + 32))]) hx hb dX9_init_45 hl (k := 0) rfl (by decide) rfl (fun ls hl => ?_)
  rw [show ((1 + 1) : Int) = 2 from by decide] at hl
  refine lv_goto (tgt := 27) hx hb dX9_init_48 (by decide) ?_
  refine lv_iload_n hx hb dX9_init_27 rfl (lv_at hl 0 rfl) ?_
  refine z_iconst hx hb dX9_init_28 ?_
  refine z_icmp_ge (tgt := 51) hx hb (by decide) (by decide) dX9_init_29 (by decide) (fun _ => ?_) (fun c9 => absurd c9 (by decide))
  refine z_iconst hx hb dX9_init_51 ?_
  refine lv_istore_n (lv' := [(1, .int (iI 0)), (0, .ref (b + 32))]) hx hb dX9_init_52 rfl hl (by decide) rfl (fun ls hl => ?_)
  refine lv_iload_n hx hb dX9_init_53 rfl (lv_at hl 0 rfl) ?_
  refine z_iconst hx hb dX9_init_54 ?_
  refine z_icmp_ge (tgt := 77) hx hb (by decide) (by decide) dX9_init_55 (by decide) (fun c9 => absurd c9 (by decide)) (fun _ => ?_)
  refine lv_aload_n hx hb dX9_init_58 rfl (lv_at hl 1 rfl) ?_
  refine y_getr (t := 34) hx hb hts (z_memU u9) hown hK.1 hY f9_1 (by decide) (zkd_of (rfl : zcd wC 32 = 8) rfl) (by first | rfl | simp [tup]) (Or.inl (hts _ (z_mem k117))) dX9_init_59 ?_
  refine lv_iload_n hx hb dX9_init_62 rfl (lv_at hl 0 rfl) ?_
  refine y_new hx hb hts (z_memU u6) tyX6 tyX6_ok hown (hts _ (z_mem k77)) (hts _ (z_mem k88)) (hts _ (z_mem k6)) hK.1 hY hS0 (rfl : vwCl[6]? = some (RX6, TX6, 6)) (by decide) (zkd_of (rfl : zcd wC 41 = 14) rfl) rfl (fun k hk => by rcases (show k = 0 ∨ k = 1 ∨ k = 2 ∨ k = 3 ∨ k = 4 ∨ k = 5 by omega) with rfl | rfl | rfl | rfl | rfl | rfl <;> rfl) (Nat.le_of_ble_eq_true rfl) (Nat.le_of_ble_eq_true rfl) dX9_init_63 (fun H hY hS0 => ?_)
  have hY : yS D dA vwCl wC 42 b _ _ H := hY
  refine lv_dup hx hb dX9_init_66 rfl ?_
  refine y_call (va_runIN (As := []) (rest := [.ref (b + 41), .int (iI 0), .ref (b + 34)]) ⟨hx, hb, hml, hown, hts⟩ (mk_C41 l D dA b _ _) ⟨va_cnB 0 hts (z_gN k90) rfl rfl rfl (hK.2 _ (List.mem_of_getElem? (i := 3) rfl)) (hts _ (z_mem k6)) (by decide +kernel) ⟨(Nat.le_of_ble_eq_true rfl), (Nat.le_of_ble_eq_true rfl)⟩, rfl, (hts _ (z_mem k89))⟩ ⟨yP_blind, y_pre hY hK hO⟩ rfl rfl hl.1 rfl (lv_room (Nat.le_of_ble_eq_true rfl)) dX9_init_67 ⟨(Nat.le_of_ble_eq_true rfl), (Nat.le_of_ble_eq_true rfl)⟩) hS0 (fun H locs hY hS0 => ?_)
  have hY : yS D dA vwCl wC 45 b _ _ H := hY
  refine y_aast (t0 := 6) (N := 4) (i := 0) hx hb hK.1 (by decide) (hK.1.2 6 _ rfl).2 (rfl : vwCl[6]? = some (RX6, TX6, 6)) (by decide) hY hS0 (by decide) (zkd_of (rfl : zcd wC 34 = 10) rfl) (zln_of (rfl : zcd wC 34 = 10) rfl) (by decide) (zkd_of (rfl : zcd wC 41 = 14) rfl) (by decide) (by decide) (by decide) dX9_init_70 (fun H locs hY hS0 => ?_)
  refine z_iinc (lv' := [(1, .int (iI (0 + 1))), (0, .ref (b + 32))]) hx hb dX9_init_71 hl (k := 0) rfl (by decide) rfl (fun ls hl => ?_)
  rw [show ((0 + 1) : Int) = 1 from by decide] at hl
  refine lv_goto (tgt := 53) hx hb dX9_init_74 (by decide) ?_
  refine lv_iload_n hx hb dX9_init_53 rfl (lv_at hl 0 rfl) ?_
  refine z_iconst hx hb dX9_init_54 ?_
  refine z_icmp_ge (tgt := 77) hx hb (by decide) (by decide) dX9_init_55 (by decide) (fun c9 => absurd c9 (by decide)) (fun _ => ?_)
  refine lv_aload_n hx hb dX9_init_58 rfl (lv_at hl 1 rfl) ?_
  refine y_getr (t := 34) hx hb hts (z_memU u9) hown hK.1 hY f9_1 (by decide) (zkd_of (rfl : zcd wC 32 = 8) rfl) (by first | rfl | simp [tup]) (Or.inl (hts _ (z_mem k117))) dX9_init_59 ?_
  refine lv_iload_n hx hb dX9_init_62 rfl (lv_at hl 0 rfl) ?_
  refine y_new hx hb hts (z_memU u6) tyX6 tyX6_ok hown (hts _ (z_mem k77)) (hts _ (z_mem k88)) (hts _ (z_mem k6)) hK.1 hY hS0 (rfl : vwCl[6]? = some (RX6, TX6, 6)) (by decide) (zkd_of (rfl : zcd wC 45 = 14) rfl) rfl (fun k hk => by rcases (show k = 0 ∨ k = 1 ∨ k = 2 ∨ k = 3 ∨ k = 4 ∨ k = 5 by omega) with rfl | rfl | rfl | rfl | rfl | rfl <;> rfl) (Nat.le_of_ble_eq_true rfl) (Nat.le_of_ble_eq_true rfl) dX9_init_63 (fun H hY hS0 => ?_)
  have hY : yS D dA vwCl wC 46 b _ _ H := hY
  refine lv_dup hx hb dX9_init_66 rfl ?_
  refine y_call (va_runIN (As := []) (rest := [.ref (b + 45), .int (iI 1), .ref (b + 34)]) ⟨hx, hb, hml, hown, hts⟩ (mk_C45 l D dA b _ _) ⟨va_cnB 0 hts (z_gN k90) rfl rfl rfl (hK.2 _ (List.mem_of_getElem? (i := 3) rfl)) (hts _ (z_mem k6)) (by decide +kernel) ⟨(Nat.le_of_ble_eq_true rfl), (Nat.le_of_ble_eq_true rfl)⟩, rfl, (hts _ (z_mem k89))⟩ ⟨yP_blind, y_pre hY hK hO⟩ rfl rfl hl.1 rfl (lv_room (Nat.le_of_ble_eq_true rfl)) dX9_init_67 ⟨(Nat.le_of_ble_eq_true rfl), (Nat.le_of_ble_eq_true rfl)⟩) hS0 (fun H locs hY hS0 => ?_)
  have hY : yS D dA vwCl wC 49 b _ _ H := hY
  refine y_aast (t0 := 6) (N := 4) (i := 1) hx hb hK.1 (by decide) (hK.1.2 6 _ rfl).2 (rfl : vwCl[6]? = some (RX6, TX6, 6)) (by decide) hY hS0 (by decide) (zkd_of (rfl : zcd wC 34 = 10) rfl) (zln_of (rfl : zcd wC 34 = 10) rfl) (by decide) (zkd_of (rfl : zcd wC 45 = 14) rfl) (by decide) (by decide) (by decide) dX9_init_70 (fun H locs hY hS0 => ?_)
  refine z_iinc (lv' := [(1, .int (iI (1 + 1))), (0, .ref (b + 32))]) hx hb dX9_init_71 hl (k := 0) rfl (by decide) rfl (fun ls hl => ?_)
  rw [show ((1 + 1) : Int) = 2 from by decide] at hl
  refine lv_goto (tgt := 53) hx hb dX9_init_74 (by decide) ?_
  refine lv_iload_n hx hb dX9_init_53 rfl (lv_at hl 0 rfl) ?_
  refine z_iconst hx hb dX9_init_54 ?_
  refine z_icmp_ge (tgt := 77) hx hb (by decide) (by decide) dX9_init_55 (by decide) (fun c9 => absurd c9 (by decide)) (fun _ => ?_)
  refine lv_aload_n hx hb dX9_init_58 rfl (lv_at hl 1 rfl) ?_
  refine y_getr (t := 34) hx hb hts (z_memU u9) hown hK.1 hY f9_1 (by decide) (zkd_of (rfl : zcd wC 32 = 8) rfl) (by first | rfl | simp [tup]) (Or.inl (hts _ (z_mem k117))) dX9_init_59 ?_
  refine lv_iload_n hx hb dX9_init_62 rfl (lv_at hl 0 rfl) ?_
  refine y_new hx hb hts (z_memU u6) tyX6 tyX6_ok hown (hts _ (z_mem k77)) (hts _ (z_mem k88)) (hts _ (z_mem k6)) hK.1 hY hS0 (rfl : vwCl[6]? = some (RX6, TX6, 6)) (by decide) (zkd_of (rfl : zcd wC 49 = 14) rfl) rfl (fun k hk => by rcases (show k = 0 ∨ k = 1 ∨ k = 2 ∨ k = 3 ∨ k = 4 ∨ k = 5 by omega) with rfl | rfl | rfl | rfl | rfl | rfl <;> rfl) (Nat.le_of_ble_eq_true rfl) (Nat.le_of_ble_eq_true rfl) dX9_init_63 (fun H hY hS0 => ?_)
  have hY : yS D dA vwCl wC 50 b _ _ H := hY
  refine lv_dup hx hb dX9_init_66 rfl ?_
  refine y_call (va_runIN (As := []) (rest := [.ref (b + 49), .int (iI 2), .ref (b + 34)]) ⟨hx, hb, hml, hown, hts⟩ (mk_C49 l D dA b _ _) ⟨va_cnB 0 hts (z_gN k90) rfl rfl rfl (hK.2 _ (List.mem_of_getElem? (i := 3) rfl)) (hts _ (z_mem k6)) (by decide +kernel) ⟨(Nat.le_of_ble_eq_true rfl), (Nat.le_of_ble_eq_true rfl)⟩, rfl, (hts _ (z_mem k89))⟩ ⟨yP_blind, y_pre hY hK hO⟩ rfl rfl hl.1 rfl (lv_room (Nat.le_of_ble_eq_true rfl)) dX9_init_67 ⟨(Nat.le_of_ble_eq_true rfl), (Nat.le_of_ble_eq_true rfl)⟩) hS0 (fun H locs hY hS0 => ?_)
  have hY : yS D dA vwCl wC 53 b _ _ H := hY
  refine y_aast (t0 := 6) (N := 4) (i := 2) hx hb hK.1 (by decide) (hK.1.2 6 _ rfl).2 (rfl : vwCl[6]? = some (RX6, TX6, 6)) (by decide) hY hS0 (by decide) (zkd_of (rfl : zcd wC 34 = 10) rfl) (zln_of (rfl : zcd wC 34 = 10) rfl) (by decide) (zkd_of (rfl : zcd wC 49 = 14) rfl) (by decide) (by decide) (by decide) dX9_init_70 (fun H locs hY hS0 => ?_)
  refine z_iinc (lv' := [(1, .int (iI (2 + 1))), (0, .ref (b + 32))]) hx hb dX9_init_71 hl (k := 0) rfl (by decide) rfl (fun ls hl => ?_)
  rw [show ((2 + 1) : Int) = 3 from by decide] at hl
  refine lv_goto (tgt := 53) hx hb dX9_init_74 (by decide) ?_
  refine lv_iload_n hx hb dX9_init_53 rfl (lv_at hl 0 rfl) ?_
  refine z_iconst hx hb dX9_init_54 ?_
  refine z_icmp_ge (tgt := 77) hx hb (by decide) (by decide) dX9_init_55 (by decide) (fun c9 => absurd c9 (by decide)) (fun _ => ?_)
  refine lv_aload_n hx hb dX9_init_58 rfl (lv_at hl 1 rfl) ?_
  refine y_getr (t := 34) hx hb hts (z_memU u9) hown hK.1 hY f9_1 (by decide) (zkd_of (rfl : zcd wC 32 = 8) rfl) (by first | rfl | simp [tup]) (Or.inl (hts _ (z_mem k117))) dX9_init_59 ?_
  refine lv_iload_n hx hb dX9_init_62 rfl (lv_at hl 0 rfl) ?_
  refine y_new hx hb hts (z_memU u6) tyX6 tyX6_ok hown (hts _ (z_mem k77)) (hts _ (z_mem k88)) (hts _ (z_mem k6)) hK.1 hY hS0 (rfl : vwCl[6]? = some (RX6, TX6, 6)) (by decide) (zkd_of (rfl : zcd wC 53 = 14) rfl) rfl (fun k hk => by rcases (show k = 0 ∨ k = 1 ∨ k = 2 ∨ k = 3 ∨ k = 4 ∨ k = 5 by omega) with rfl | rfl | rfl | rfl | rfl | rfl <;> rfl) (Nat.le_of_ble_eq_true rfl) (Nat.le_of_ble_eq_true rfl) dX9_init_63 (fun H hY hS0 => ?_)
  have hY : yS D dA vwCl wC 54 b _ _ H := hY
  refine lv_dup hx hb dX9_init_66 rfl ?_
  refine y_call (va_runIN (As := []) (rest := [.ref (b + 53), .int (iI 3), .ref (b + 34)]) ⟨hx, hb, hml, hown, hts⟩ (mk_C53 l D dA b _ _) ⟨va_cnB 0 hts (z_gN k90) rfl rfl rfl (hK.2 _ (List.mem_of_getElem? (i := 3) rfl)) (hts _ (z_mem k6)) (by decide +kernel) ⟨(Nat.le_of_ble_eq_true rfl), (Nat.le_of_ble_eq_true rfl)⟩, rfl, (hts _ (z_mem k89))⟩ ⟨yP_blind, y_pre hY hK hO⟩ rfl rfl hl.1 rfl (lv_room (Nat.le_of_ble_eq_true rfl)) dX9_init_67 ⟨(Nat.le_of_ble_eq_true rfl), (Nat.le_of_ble_eq_true rfl)⟩) hS0 (fun H locs hY hS0 => ?_)
  have hY : yS D dA vwCl wC 57 b _ _ H := hY
  refine y_aast (t0 := 6) (N := 4) (i := 3) hx hb hK.1 (by decide) (hK.1.2 6 _ rfl).2 (rfl : vwCl[6]? = some (RX6, TX6, 6)) (by decide) hY hS0 (by decide) (zkd_of (rfl : zcd wC 34 = 10) rfl) (zln_of (rfl : zcd wC 34 = 10) rfl) (by decide) (zkd_of (rfl : zcd wC 53 = 14) rfl) (by decide) (by decide) (by decide) dX9_init_70 (fun H locs hY hS0 => ?_)
  refine z_iinc (lv' := [(1, .int (iI (3 + 1))), (0, .ref (b + 32))]) hx hb dX9_init_71 hl (k := 0) rfl (by decide) rfl (fun ls hl => ?_)
  rw [show ((3 + 1) : Int) = 4 from by decide] at hl
  refine lv_goto (tgt := 53) hx hb dX9_init_74 (by decide) ?_
  refine lv_iload_n hx hb dX9_init_53 rfl (lv_at hl 0 rfl) ?_
  refine z_iconst hx hb dX9_init_54 ?_
  refine z_icmp_ge (tgt := 77) hx hb (by decide) (by decide) dX9_init_55 (by decide) (fun _ => ?_) (fun c9 => absurd c9 (by decide))
  exact y_ret hx hb hr hlocks hY hS0 dX9_init_77
def mT_C57 (T : zT) : zT := (tup (tup T 57 2 58) 57 3 59)
def mM_C57 (M : zM) : zM := (zup (zup M 57 0 0) 57 1 0)
set_option maxHeartbeats 4000000 in
set_option maxRecDepth 100000 in
theorem mk_C57 (l : Launch) (D : va_G) (dA : Nat → ClassId) (b : Nat) (M : zM) (T : zT) : Met l yX1_init (.code yX1_init cX1_init 1 none :: zt) (y_rm 1 2 8) (va_Pc [.ref (b + 57)] (yP D dA vwCl (z_tys dA) wC 58 b M T)) (va_Qv (fun _ => True) (yB D dA vwCl wC 60 b (mM_C57 M) (mT_C57 T)) (yA b)) 2 8 (yA b) := by
  refine Met.ofW (cc := cX1_init) (maxL := 1) (ret := none) (by decide) rfl ?_
  intro p e s m args below meth c s₁ B hml hv
  obtain ⟨hargs, hY, hK, hO⟩ := hv
  have hx := B.exec
  have hb := B.bytes
  have hr := B.returns
  have hts := atoms_spec (ws := .code yX1_init cX1_init 1 none :: zt) B.pre
  have hown : s.vm.findClass RX1 = some m.cls := findClass_of_methodNamed B.named
  have hlocks := B.notSynchronized
  have hin : meth.name = "<init>" := (name_of_methodNamed B.named B.method).1
  have hS0 : va_S (yA b) s.heap s.heap [] := va_S.rf
  have hl := lv_entry ([.ref (b + 57)]) (n := 1) (Nat.le_of_ble_eq_true rfl)
  have hent : entryFrame m args 1 = F0 m 0 ((lg_sl ([.ref (b + 57)]) ++ List.replicate (1 - (lg_sl ([.ref (b + 57)])).length) Slot.unset).toArray) [] := by rw [hargs]; exact lg_entry_eq m ([.ref (b + 57)]) 1
  rw [hent]
  generalize (lg_sl ([.ref (b + 57)]) ++ List.replicate (1 - (lg_sl ([.ref (b + 57)])).length) Slot.unset).toArray = ls at hl ⊢
  have hl : lv_has ls 1 [(0, .ref (b + 57))] := hl
  refine lv_aload_n hx hb dX1_init_0 rfl (lv_at hl 0 rfl) ?_
  refine W.objInit hx hb hown (hts _ (z_mem k128)) (hts _ (z_mem k28)) (hts _ (z_mem k29)) rfl (by rw [hml]; exact hl.1) rfl dX1_init_1 (Nat.le_of_ble_eq_true rfl) (Nat.le_of_ble_eq_true rfl) ?_
  refine W.eq (g2 := F0 m 4 ls []) rfl ?_
  refine lv_aload_n hx hb dX1_init_4 rfl (lv_at hl 0 rfl) ?_
  refine z_iconst hx hb dX1_init_5 ?_
  refine y_puti (z := 0) hx hb hts (z_memU u1) tyX1 tyX1_ok nmX1 hown hK.1 hY hS0 f1_0 (by decide) (zkd_of (rfl : zcd wC 57 = 16) rfl) (Or.inl (hts _ (z_mem k129))) rfl (by decide +kernel) (zbd_in (rfl : zcd wC 57 = 16) rfl (by decide)) dX1_init_6 (fun H locs hY hS0 => ?_)
  refine lv_aload_n hx hb dX1_init_9 rfl (lv_at hl 0 rfl) ?_
  refine z_lconst0 hx hb dX1_init_10 ?_
  refine y_putl (z := 0) hx hb hts (z_memU u1) tyX1 tyX1_ok nmX1 hown hK.1 hY hS0 f1_1 (by decide) (zkd_of (rfl : zcd wC 57 = 16) rfl) (Or.inl (hts _ (z_mem k130))) rfl (by decide +kernel) (zbd_in (rfl : zcd wC 57 = 16) rfl (by decide)) dX1_init_11 (fun H locs hY hS0 => ?_)
  refine lv_aload_n hx hb dX1_init_14 rfl (lv_at hl 0 rfl) ?_
  refine z_iconst hx hb dX1_init_15 ?_
  refine y_newa (atype := .int) hx hb (hts _ (z_mem k53)) (t0 := 0) (N := 4) (by decide) (by decide) (hK.1.2 0 _ rfl).2 rfl hY hS0 (zkd_of (rfl : zcd wC 58 = 17) rfl) (zln_of (rfl : zcd wC 58 = 17) rfl) (by decide) rfl (by decide) (by decide) (Nat.le_of_ble_eq_true rfl) (Nat.le_of_ble_eq_true rfl) dX1_init_16 (fun H hY hS0 => ?_)
  have hY : yS D dA vwCl wC 59 b _ _ H := hY
  refine y_putrF (t := 58) hx hb hts (z_memU u1) tyX1 tyX1_ok nmX1 hown hK.1 hY hS0 f1_2 (by decide) (zkd_of (rfl : zcd wC 57 = 16) rfl) (hts _ (z_mem k131)) rfl hin rfl (tyX1_ok 2 (by decide)) (fun _ => rfl) (fun _ => rfl) dX1_init_18 (fun H locs hY hS0 => ?_)
  refine lv_aload_n hx hb dX1_init_21 rfl (lv_at hl 0 rfl) ?_
  refine z_iconst hx hb dX1_init_22 ?_
  refine y_newa (atype := .int) hx hb (hts _ (z_mem k53)) (t0 := 0) (N := 4) (by decide) (by decide) (hK.1.2 0 _ rfl).2 rfl hY hS0 (zkd_of (rfl : zcd wC 59 = 18) rfl) (zln_of (rfl : zcd wC 59 = 18) rfl) (by decide) rfl (by decide) (by decide) (Nat.le_of_ble_eq_true rfl) (Nat.le_of_ble_eq_true rfl) dX1_init_23 (fun H hY hS0 => ?_)
  have hY : yS D dA vwCl wC 60 b _ _ H := hY
  refine y_putrF (t := 59) hx hb hts (z_memU u1) tyX1 tyX1_ok nmX1 hown hK.1 hY hS0 f1_3 (by decide) (zkd_of (rfl : zcd wC 57 = 16) rfl) (hts _ (z_mem k132)) rfl hin rfl (tyX1_ok 3 (by decide)) (fun _ => rfl) (fun _ => rfl) dX1_init_25 (fun H locs hY hS0 => ?_)
  exact y_ret hx hb hr hlocks hY hS0 dX1_init_28
def mT_C60 (T : zT) : zT := (tup (tup (tup (tup (fun a c => if a = 69 ∧ c < 5 then some (69 + 1 + c) else (tup (fun a c => if a = 64 ∧ c < 4 then some (64 + 1 + c) else (tup (tup (tup T 60 0 61) 60 1 62) 60 3 63) a c) 60 4 64) a c) 60 5 69) 60 6 75) 60 7 76) 60 8 77)
def mM_C60 (M : zM) : zM := (zup M 60 2 0)
set_option maxHeartbeats 4000000 in
set_option maxRecDepth 100000 in
theorem mk_C60 (l : Launch) (D : va_G) (dA : Nat → ClassId) (b : Nat) (M : zM) (T : zT) : Met l yX5_init (.code yX5_init cX5_init 1 none :: zt) (y_rm 1 17 1643) (va_Pc [.ref (b + 60)] (yP D dA vwCl (z_tys dA) wC 61 b M T)) (va_Qv (fun _ => True) (yB D dA vwCl wC 78 b (mM_C60 M) (mT_C60 T)) (yA b)) 17 1643 (yA b) := by
  refine Met.ofW (cc := cX5_init) (maxL := 1) (ret := none) (by decide) rfl ?_
  intro p e s m args below meth c s₁ B hml hv
  obtain ⟨hargs, hY, hK, hO⟩ := hv
  have hx := B.exec
  have hb := B.bytes
  have hr := B.returns
  have hts := atoms_spec (ws := .code yX5_init cX5_init 1 none :: zt) B.pre
  have hown : s.vm.findClass RX5 = some m.cls := findClass_of_methodNamed B.named
  have hlocks := B.notSynchronized
  have hin : meth.name = "<init>" := (name_of_methodNamed B.named B.method).1
  have hS0 : va_S (yA b) s.heap s.heap [] := va_S.rf
  have hl := lv_entry ([.ref (b + 60)]) (n := 1) (Nat.le_of_ble_eq_true rfl)
  have hent : entryFrame m args 1 = F0 m 0 ((lg_sl ([.ref (b + 60)]) ++ List.replicate (1 - (lg_sl ([.ref (b + 60)])).length) Slot.unset).toArray) [] := by rw [hargs]; exact lg_entry_eq m ([.ref (b + 60)]) 1
  rw [hent]
  generalize (lg_sl ([.ref (b + 60)]) ++ List.replicate (1 - (lg_sl ([.ref (b + 60)])).length) Slot.unset).toArray = ls at hl ⊢
  have hl : lv_has ls 1 [(0, .ref (b + 60))] := hl
  refine lv_aload_n hx hb dX5_init_0 rfl (lv_at hl 0 rfl) ?_
  refine W.objInit hx hb hown (hts _ (z_mem k141)) (hts _ (z_mem k28)) (hts _ (z_mem k29)) rfl (by rw [hml]; exact hl.1) rfl dX5_init_1 (Nat.le_of_ble_eq_true rfl) (Nat.le_of_ble_eq_true rfl) ?_
  refine W.eq (g2 := F0 m 4 ls []) rfl ?_
  refine lv_aload_n hx hb dX5_init_4 rfl (lv_at hl 0 rfl) ?_
  refine z_bipush hx hb (by decide) dX5_init_5 ?_
  refine y_newa (atype := .int) hx hb (hts _ (z_mem k53)) (t0 := 0) (N := 6) (by decide) (by decide) (hK.1.2 0 _ rfl).2 rfl hY hS0 (zkd_of (rfl : zcd wC 61 = 20) rfl) (zln_of (rfl : zcd wC 61 = 20) rfl) (by decide) rfl (by decide) (by decide) (Nat.le_of_ble_eq_true rfl) (Nat.le_of_ble_eq_true rfl) dX5_init_7 (fun H hY hS0 => ?_)
  have hY : yS D dA vwCl wC 62 b _ _ H := hY
  refine y_putrF (t := 61) hx hb hts (z_memU u5) tyX5 tyX5_ok nmX5 hown hK.1 hY hS0 f5_0 (by decide) (zkd_of (rfl : zcd wC 60 = 19) rfl) (hts _ (z_mem k143)) rfl hin rfl (tyX5_ok 0 (by decide)) (fun _ => rfl) (fun _ => rfl) dX5_init_9 (fun H locs hY hS0 => ?_)
  refine lv_aload_n hx hb dX5_init_12 rfl (lv_at hl 0 rfl) ?_
  refine z_bipush hx hb (by decide) dX5_init_13 ?_
  refine y_newa (atype := .int) hx hb (hts _ (z_mem k53)) (t0 := 0) (N := 6) (by decide) (by decide) (hK.1.2 0 _ rfl).2 rfl hY hS0 (zkd_of (rfl : zcd wC 62 = 21) rfl) (zln_of (rfl : zcd wC 62 = 21) rfl) (by decide) rfl (by decide) (by decide) (Nat.le_of_ble_eq_true rfl) (Nat.le_of_ble_eq_true rfl) dX5_init_15 (fun H hY hS0 => ?_)
  have hY : yS D dA vwCl wC 63 b _ _ H := hY
  refine y_putrF (t := 62) hx hb hts (z_memU u5) tyX5 tyX5_ok nmX5 hown hK.1 hY hS0 f5_1 (by decide) (zkd_of (rfl : zcd wC 60 = 19) rfl) (hts _ (z_mem k144)) rfl hin rfl (tyX5_ok 1 (by decide)) (fun _ => rfl) (fun _ => rfl) dX5_init_17 (fun H locs hY hS0 => ?_)
  refine lv_aload_n hx hb dX5_init_20 rfl (lv_at hl 0 rfl) ?_
  refine z_iconst hx hb dX5_init_21 ?_
  refine y_puti (z := 0) hx hb hts (z_memU u5) tyX5 tyX5_ok nmX5 hown hK.1 hY hS0 f5_2 (by decide) (zkd_of (rfl : zcd wC 60 = 19) rfl) (Or.inl (hts _ (z_mem k145))) rfl (by decide +kernel) (zbd_in (rfl : zcd wC 60 = 19) rfl (by decide)) dX5_init_22 (fun H locs hY hS0 => ?_)
  refine lv_aload_n hx hb dX5_init_25 rfl (lv_at hl 0 rfl) ?_
  refine z_bipush hx hb (by decide) dX5_init_26 ?_
  refine y_newa (atype := .int) hx hb (hts _ (z_mem k53)) (t0 := 0) (N := 8) (by decide) (by decide) (hK.1.2 0 _ rfl).2 rfl hY hS0 (zkd_of (rfl : zcd wC 63 = 22) rfl) (zln_of (rfl : zcd wC 63 = 22) rfl) (by decide) rfl (by decide) (by decide) (Nat.le_of_ble_eq_true rfl) (Nat.le_of_ble_eq_true rfl) dX5_init_28 (fun H hY hS0 => ?_)
  have hY : yS D dA vwCl wC 64 b _ _ H := hY
  refine y_putrF (t := 63) hx hb hts (z_memU u5) tyX5 tyX5_ok nmX5 hown hK.1 hY hS0 f5_3 (by decide) (zkd_of (rfl : zcd wC 60 = 19) rfl) (hts _ (z_mem k147)) rfl hin rfl (tyX5_ok 3 (by decide)) (fun _ => rfl) (fun _ => rfl) dX5_init_30 (fun H locs hY hS0 => ?_)
  refine lv_aload_n hx hb dX5_init_33 rfl (lv_at hl 0 rfl) ?_
  refine z_iconst hx hb dX5_init_34 ?_
  refine z_sipush hx hb (by decide) dX5_init_35 ?_
  refine y_mna (N := 4) (K := 300) hx hb hown (hts _ (z_mem k142)) hO.2.2.2 (hts _ (z_mem k53)) (hK.1.2 0 _ rfl).2 (hK.1.2 7 _ rfl).2 hY hS0 (zkd_of (rfl : zcd wC 64 = 23) rfl) (zln_of (rfl : zcd wC 64 = 23) rfl) (by decide +kernel) (by decide) (by decide) rfl rfl (by decide) (by decide) (by decide) (by decide) (by decide) (Nat.le_of_ble_eq_true rfl) (Nat.le_of_ble_eq_true rfl) dX5_init_38 (fun H hY hS0 => ?_)
  have hY : yS D dA vwCl wC 69 b _ _ H := hY
  refine y_putrF (t := 64) hx hb hts (z_memU u5) tyX5 tyX5_ok nmX5 hown hK.1 hY hS0 f5_4 (by decide) (zkd_of (rfl : zcd wC 60 = 19) rfl) (hts _ (z_mem k149)) rfl hin rfl (tyX5_ok 4 (by decide)) (fun _ => rfl) (fun _ => rfl) dX5_init_42 (fun H locs hY hS0 => ?_)
  refine lv_aload_n hx hb dX5_init_45 rfl (lv_at hl 0 rfl) ?_
  refine z_iconst hx hb dX5_init_46 ?_
  refine z_bipush hx hb (by decide) dX5_init_47 ?_
  refine y_mna (N := 5) (K := 64) hx hb hown (hts _ (z_mem k142)) hO.2.2.2 (hts _ (z_mem k53)) (hK.1.2 0 _ rfl).2 (hK.1.2 7 _ rfl).2 hY hS0 (zkd_of (rfl : zcd wC 69 = 25) rfl) (zln_of (rfl : zcd wC 69 = 25) rfl) (by decide +kernel) (by decide) (by decide) rfl rfl (by decide) (by decide) (by decide) (by decide) (by decide) (Nat.le_of_ble_eq_true rfl) (Nat.le_of_ble_eq_true rfl) dX5_init_49 (fun H hY hS0 => ?_)
  have hY : yS D dA vwCl wC 75 b _ _ H := hY
  refine y_putrF (t := 69) hx hb hts (z_memU u5) tyX5 tyX5_ok nmX5 hown hK.1 hY hS0 f5_5 (by decide) (zkd_of (rfl : zcd wC 60 = 19) rfl) (hts _ (z_mem k150)) rfl hin rfl (tyX5_ok 5 (by decide)) (fun _ => rfl) (fun _ => rfl) dX5_init_53 (fun H locs hY hS0 => ?_)
  refine lv_aload_n hx hb dX5_init_56 rfl (lv_at hl 0 rfl) ?_
  refine z_bipush hx hb (by decide) dX5_init_57 ?_
  refine y_newa (atype := .int) hx hb (hts _ (z_mem k53)) (t0 := 0) (N := 64) (by decide) (by decide) (hK.1.2 0 _ rfl).2 rfl hY hS0 (zkd_of (rfl : zcd wC 75 = 27) rfl) (zln_of (rfl : zcd wC 75 = 27) rfl) (by decide) rfl (by decide) (by decide) (Nat.le_of_ble_eq_true rfl) (Nat.le_of_ble_eq_true rfl) dX5_init_59 (fun H hY hS0 => ?_)
  have hY : yS D dA vwCl wC 76 b _ _ H := hY
  refine y_putrF (t := 75) hx hb hts (z_memU u5) tyX5 tyX5_ok nmX5 hown hK.1 hY hS0 f5_6 (by decide) (zkd_of (rfl : zcd wC 60 = 19) rfl) (hts _ (z_mem k151)) rfl hin rfl (tyX5_ok 6 (by decide)) (fun _ => rfl) (fun _ => rfl) dX5_init_61 (fun H locs hY hS0 => ?_)
  refine lv_aload_n hx hb dX5_init_64 rfl (lv_at hl 0 rfl) ?_
  refine z_bipush hx hb (by decide) dX5_init_65 ?_
  refine y_newa (atype := .int) hx hb (hts _ (z_mem k53)) (t0 := 0) (N := 24) (by decide) (by decide) (hK.1.2 0 _ rfl).2 rfl hY hS0 (zkd_of (rfl : zcd wC 76 = 28) rfl) (zln_of (rfl : zcd wC 76 = 28) rfl) (by decide) rfl (by decide) (by decide) (Nat.le_of_ble_eq_true rfl) (Nat.le_of_ble_eq_true rfl) dX5_init_67 (fun H hY hS0 => ?_)
  have hY : yS D dA vwCl wC 77 b _ _ H := hY
  refine y_putrF (t := 76) hx hb hts (z_memU u5) tyX5 tyX5_ok nmX5 hown hK.1 hY hS0 f5_7 (by decide) (zkd_of (rfl : zcd wC 60 = 19) rfl) (hts _ (z_mem k152)) rfl hin rfl (tyX5_ok 7 (by decide)) (fun _ => rfl) (fun _ => rfl) dX5_init_69 (fun H locs hY hS0 => ?_)
  refine lv_aload_n hx hb dX5_init_72 rfl (lv_at hl 0 rfl) ?_
  refine z_bipush hx hb (by decide) dX5_init_73 ?_
  refine y_newa (atype := .int) hx hb (hts _ (z_mem k53)) (t0 := 0) (N := 6) (by decide) (by decide) (hK.1.2 0 _ rfl).2 rfl hY hS0 (zkd_of (rfl : zcd wC 77 = 29) rfl) (zln_of (rfl : zcd wC 77 = 29) rfl) (by decide) rfl (by decide) (by decide) (Nat.le_of_ble_eq_true rfl) (Nat.le_of_ble_eq_true rfl) dX5_init_75 (fun H hY hS0 => ?_)
  have hY : yS D dA vwCl wC 78 b _ _ H := hY
  refine y_putrF (t := 77) hx hb hts (z_memU u5) tyX5 tyX5_ok nmX5 hown hK.1 hY hS0 f5_8 (by decide) (zkd_of (rfl : zcd wC 60 = 19) rfl) (hts _ (z_mem k153)) rfl hin rfl (tyX5_ok 8 (by decide)) (fun _ => rfl) (fun _ => rfl) dX5_init_77 (fun H locs hY hS0 => ?_)
  exact y_ret hx hb hr hlocks hY hS0 dX5_init_80
def mT_C78 (T : zT) : zT := (tup (tup (tup T 78 1 79) 78 2 80) 78 7 81)
def mM_C78 (M : zM) : zM := (zfill (zup (zup (zup (zup (zup M 78 0 0) 78 3 1) 78 4 0) 78 5 1) 78 6 0) 80 10 100)
set_option maxHeartbeats 4000000 in
set_option maxRecDepth 100000 in
theorem mk_C78 (l : Launch) (D : va_G) (dA : Nat → ClassId) (b : Nat) (M : zM) (T : zT) : Met l yX0_init (.code yX0_init cX0_init 1 none :: zt) (y_rm 1 3 4013) (va_Pc [.ref (b + 78)] (yP D dA vwCl (z_tys dA) wC 79 b M T)) (va_Qv (fun _ => True) (yB D dA vwCl wC 82 b (mM_C78 M) (mT_C78 T)) (yA b)) 3 4013 (yA b) := by
  refine Met.ofW (cc := cX0_init) (maxL := 1) (ret := none) (by decide) rfl ?_
  intro p e s m args below meth c s₁ B hml hv
  obtain ⟨hargs, hY, hK, hO⟩ := hv
  have hx := B.exec
  have hb := B.bytes
  have hr := B.returns
  have hts := atoms_spec (ws := .code yX0_init cX0_init 1 none :: zt) B.pre
  have hown : s.vm.findClass RX0 = some m.cls := findClass_of_methodNamed B.named
  have hlocks := B.notSynchronized
  have hin : meth.name = "<init>" := (name_of_methodNamed B.named B.method).1
  have hS0 : va_S (yA b) s.heap s.heap [] := va_S.rf
  have hl := lv_entry ([.ref (b + 78)]) (n := 1) (Nat.le_of_ble_eq_true rfl)
  have hent : entryFrame m args 1 = F0 m 0 ((lg_sl ([.ref (b + 78)]) ++ List.replicate (1 - (lg_sl ([.ref (b + 78)])).length) Slot.unset).toArray) [] := by rw [hargs]; exact lg_entry_eq m ([.ref (b + 78)]) 1
  rw [hent]
  generalize (lg_sl ([.ref (b + 78)]) ++ List.replicate (1 - (lg_sl ([.ref (b + 78)])).length) Slot.unset).toArray = ls at hl ⊢
  have hl : lv_has ls 1 [(0, .ref (b + 78))] := hl
  refine lv_aload_n hx hb dX0_init_0 rfl (lv_at hl 0 rfl) ?_
  refine W.objInit hx hb hown (hts _ (z_mem k168)) (hts _ (z_mem k28)) (hts _ (z_mem k29)) rfl (by rw [hml]; exact hl.1) rfl dX0_init_1 (Nat.le_of_ble_eq_true rfl) (Nat.le_of_ble_eq_true rfl) ?_
  refine W.eq (g2 := F0 m 4 ls []) rfl ?_
  refine lv_aload_n hx hb dX0_init_4 rfl (lv_at hl 0 rfl) ?_
  refine z_iconst hx hb dX0_init_5 ?_
  refine y_puti (z := 0) hx hb hts (z_memU u0) tyX0 tyX0_ok nmX0 hown hK.1 hY hS0 f0_0 (by decide) (zkd_of (rfl : zcd wC 78 = 30) rfl) (Or.inl (hts _ (z_mem k172))) rfl (by decide +kernel) (zbd_in (rfl : zcd wC 78 = 30) rfl (by decide)) dX0_init_6 (fun H locs hY hS0 => ?_)
  refine lv_aload_n hx hb dX0_init_9 rfl (lv_at hl 0 rfl) ?_
  refine z_iconst hx hb dX0_init_10 ?_
  refine y_newa (atype := .int) hx hb (hts _ (z_mem k53)) (t0 := 0) (N := 2) (by decide) (by decide) (hK.1.2 0 _ rfl).2 rfl hY hS0 (zkd_of (rfl : zcd wC 79 = 31) rfl) (zln_of (rfl : zcd wC 79 = 31) rfl) (by decide) rfl (by decide) (by decide) (Nat.le_of_ble_eq_true rfl) (Nat.le_of_ble_eq_true rfl) dX0_init_11 (fun H hY hS0 => ?_)
  have hY : yS D dA vwCl wC 80 b _ _ H := hY
  refine y_putrF (t := 79) hx hb hts (z_memU u0) tyX0 tyX0_ok nmX0 hown hK.1 hY hS0 f0_1 (by decide) (zkd_of (rfl : zcd wC 78 = 30) rfl) (hts _ (z_mem k174)) rfl hin rfl (tyX0_ok 1 (by decide)) (fun _ => rfl) (fun _ => rfl) dX0_init_13 (fun H locs hY hS0 => ?_)
  refine lv_aload_n hx hb dX0_init_16 rfl (lv_at hl 0 rfl) ?_
  refine z_bipush hx hb (by decide) dX0_init_17 ?_
  refine y_newa (atype := .int) hx hb (hts _ (z_mem k53)) (t0 := 0) (N := 10) (by decide) (by decide) (hK.1.2 0 _ rfl).2 rfl hY hS0 (zkd_of (rfl : zcd wC 80 = 32) rfl) (zln_of (rfl : zcd wC 80 = 32) rfl) (by decide) rfl (by decide) (by decide) (Nat.le_of_ble_eq_true rfl) (Nat.le_of_ble_eq_true rfl) dX0_init_19 (fun H hY hS0 => ?_)
  have hY : yS D dA vwCl wC 81 b _ _ H := hY
  refine y_putrF (t := 80) hx hb hts (z_memU u0) tyX0 tyX0_ok nmX0 hown hK.1 hY hS0 f0_2 (by decide) (zkd_of (rfl : zcd wC 78 = 30) rfl) (hts _ (z_mem k176)) rfl hin rfl (tyX0_ok 2 (by decide)) (fun _ => rfl) (fun _ => rfl) dX0_init_21 (fun H locs hY hS0 => ?_)
  refine lv_aload_n hx hb dX0_init_24 rfl (lv_at hl 0 rfl) ?_
  refine z_iconst hx hb dX0_init_25 ?_
  refine y_puti (z := 1) hx hb hts (z_memU u0) tyX0 tyX0_ok nmX0 hown hK.1 hY hS0 f0_3 (by decide) (zkd_of (rfl : zcd wC 78 = 30) rfl) (Or.inl (hts _ (z_mem k177))) rfl (by decide +kernel) (zbd_in (rfl : zcd wC 78 = 30) rfl (by decide)) dX0_init_26 (fun H locs hY hS0 => ?_)
  refine lv_aload_n hx hb dX0_init_29 rfl (lv_at hl 0 rfl) ?_
  refine z_iconst hx hb dX0_init_30 ?_
  refine y_puti (z := 0) hx hb hts (z_memU u0) tyX0 tyX0_ok nmX0 hown hK.1 hY hS0 f0_4 (by decide) (zkd_of (rfl : zcd wC 78 = 30) rfl) (Or.inl (hts _ (z_mem k178))) rfl (by decide +kernel) (zbd_in (rfl : zcd wC 78 = 30) rfl (by decide)) dX0_init_31 (fun H locs hY hS0 => ?_)
  refine lv_aload_n hx hb dX0_init_34 rfl (lv_at hl 0 rfl) ?_
  refine z_iconst hx hb dX0_init_35 ?_
  refine y_puti (z := 1) hx hb hts (z_memU u0) tyX0 tyX0_ok nmX0 hown hK.1 hY hS0 f0_5 (by decide) (zkd_of (rfl : zcd wC 78 = 30) rfl) (Or.inl (hts _ (z_mem k179))) rfl (by decide +kernel) (zbd_in (rfl : zcd wC 78 = 30) rfl (by decide)) dX0_init_36 (fun H locs hY hS0 => ?_)
  refine lv_aload_n hx hb dX0_init_39 rfl (lv_at hl 0 rfl) ?_
  refine z_iconst hx hb dX0_init_40 ?_
  refine y_puti (z := 0) hx hb hts (z_memU u0) tyX0 tyX0_ok nmX0 hown hK.1 hY hS0 f0_6 (by decide) (zkd_of (rfl : zcd wC 78 = 30) rfl) (Or.inl (hts _ (z_mem k180))) rfl (by decide +kernel) (zbd_in (rfl : zcd wC 78 = 30) rfl (by decide)) dX0_init_41 (fun H locs hY hS0 => ?_)
  refine lv_aload_n hx hb dX0_init_44 rfl (lv_at hl 0 rfl) ?_
  refine z_sipush hx hb (by decide) dX0_init_45 ?_
  refine y_newa (atype := .int) hx hb (hts _ (z_mem k53)) (t0 := 0) (N := 4001) (by decide) (by decide) (hK.1.2 0 _ rfl).2 rfl hY hS0 (zkd_of (rfl : zcd wC 81 = 33) rfl) (zln_of (rfl : zcd wC 81 = 33) rfl) (by decide) rfl (by decide) (by decide) (Nat.le_of_ble_eq_true rfl) (Nat.le_of_ble_eq_true rfl) dX0_init_48 (fun H hY hS0 => ?_)
  have hY : yS D dA vwCl wC 82 b _ _ H := hY
  refine y_putrF (t := 81) hx hb hts (z_memU u0) tyX0 tyX0_ok nmX0 hown hK.1 hY hS0 f0_7 (by decide) (zkd_of (rfl : zcd wC 78 = 30) rfl) (hts _ (z_mem k181)) rfl hin rfl (tyX0_ok 7 (by decide)) (fun _ => rfl) (fun _ => rfl) dX0_init_50 (fun H locs hY hS0 => ?_)
  refine lv_aload_n hx hb dX0_init_53 rfl (lv_at hl 0 rfl) ?_
  refine y_getr (t := 80) hx hb hts (z_memU u0) hown hK.1 hY f0_2 (by decide) (zkd_of (rfl : zcd wC 78 = 30) rfl) (by first | rfl | simp [tup]) (Or.inl (hts _ (z_mem k176))) dX0_init_54 ?_
  refine z_bipush hx hb (by decide) dX0_init_57 ?_
  refine y_call (va_runS (As := [.ref (b + 80), .int (iI 100)]) (rest := []) ⟨hx, hb, hml, hown, hts⟩ (mk_fill l D dA b wC _ _ 82 80 10 100 (by decide) (zkd_of (rfl : zcd wC 80 = 32) rfl) (zln_of (rfl : zcd wC 80 = 32) rfl) (by decide) (by decide) (fun k => zbd_in (rfl : zcd wC 80 = 32) rfl (by decide))) (va_cwS 2 hts (z_gS k169 k170 k10 k171) rfl rfl rfl (by decide +kernel) ⟨(Nat.le_of_ble_eq_true rfl), (Nat.le_of_ble_eq_true rfl)⟩) ⟨yP_blind, y_pre hY hK hO⟩ rfl rfl hl.1 rfl (lv_room (Nat.le_of_ble_eq_true rfl)) dX0_init_59 ⟨(Nat.le_of_ble_eq_true rfl), (Nat.le_of_ble_eq_true rfl)⟩) hS0 (fun H locs hY hS0 => ?_)
  have hY : yS D dA vwCl wC 82 b _ _ H := hY
  exact y_ret hx hb hr hlocks hY hS0 dX0_init_62
def mT_C82 (T : zT) : zT := (tup (tup (tup T 82 0 83) 82 2 84) 82 3 85)
def mM_C82 (M : zM) : zM := (zup M 82 1 0)
set_option maxHeartbeats 4000000 in
set_option maxRecDepth 100000 in
theorem mk_C82 (l : Launch) (D : va_G) (dA : Nat → ClassId) (b : Nat) (M : zM) (T : zT) : Met l yX3_init (.code yX3_init cX3_init 1 none :: zt) (y_rm 1 3 108) (va_Pc [.ref (b + 82)] (yP D dA vwCl (z_tys dA) wC 83 b M T)) (va_Qv (fun _ => True) (yB D dA vwCl wC 86 b (mM_C82 M) (mT_C82 T)) (yA b)) 3 108 (yA b) := by
  refine Met.ofW (cc := cX3_init) (maxL := 1) (ret := none) (by decide) rfl ?_
  intro p e s m args below meth c s₁ B hml hv
  obtain ⟨hargs, hY, hK, hO⟩ := hv
  have hx := B.exec
  have hb := B.bytes
  have hr := B.returns
  have hts := atoms_spec (ws := .code yX3_init cX3_init 1 none :: zt) B.pre
  have hown : s.vm.findClass RX3 = some m.cls := findClass_of_methodNamed B.named
  have hlocks := B.notSynchronized
  have hin : meth.name = "<init>" := (name_of_methodNamed B.named B.method).1
  have hS0 : va_S (yA b) s.heap s.heap [] := va_S.rf
  have hl := lv_entry ([.ref (b + 82)]) (n := 1) (Nat.le_of_ble_eq_true rfl)
  have hent : entryFrame m args 1 = F0 m 0 ((lg_sl ([.ref (b + 82)]) ++ List.replicate (1 - (lg_sl ([.ref (b + 82)])).length) Slot.unset).toArray) [] := by rw [hargs]; exact lg_entry_eq m ([.ref (b + 82)]) 1
  rw [hent]
  generalize (lg_sl ([.ref (b + 82)]) ++ List.replicate (1 - (lg_sl ([.ref (b + 82)])).length) Slot.unset).toArray = ls at hl ⊢
  have hl : lv_has ls 1 [(0, .ref (b + 82))] := hl
  refine lv_aload_n hx hb dX3_init_0 rfl (lv_at hl 0 rfl) ?_
  refine W.objInit hx hb hown (hts _ (z_mem k194)) (hts _ (z_mem k28)) (hts _ (z_mem k29)) rfl (by rw [hml]; exact hl.1) rfl dX3_init_1 (Nat.le_of_ble_eq_true rfl) (Nat.le_of_ble_eq_true rfl) ?_
  refine W.eq (g2 := F0 m 4 ls []) rfl ?_
  refine lv_aload_n hx hb dX3_init_4 rfl (lv_at hl 0 rfl) ?_
  refine z_bipush hx hb (by decide) dX3_init_5 ?_
  refine y_newa (atype := .int) hx hb (hts _ (z_mem k53)) (t0 := 0) (N := 60) (by decide) (by decide) (hK.1.2 0 _ rfl).2 rfl hY hS0 (zkd_of (rfl : zcd wC 83 = 35) rfl) (zln_of (rfl : zcd wC 83 = 35) rfl) (by decide) rfl (by decide) (by decide) (Nat.le_of_ble_eq_true rfl) (Nat.le_of_ble_eq_true rfl) dX3_init_7 (fun H hY hS0 => ?_)
  have hY : yS D dA vwCl wC 84 b _ _ H := hY
  refine y_putrF (t := 83) hx hb hts (z_memU u3) tyX3 tyX3_ok nmX3 hown hK.1 hY hS0 f3_0 (by decide) (zkd_of (rfl : zcd wC 82 = 34) rfl) (hts _ (z_mem k195)) rfl hin rfl (tyX3_ok 0 (by decide)) (fun _ => rfl) (fun _ => rfl) dX3_init_9 (fun H locs hY hS0 => ?_)
  refine lv_aload_n hx hb dX3_init_12 rfl (lv_at hl 0 rfl) ?_
  refine z_iconst hx hb dX3_init_13 ?_
  refine y_puti (z := 0) hx hb hts (z_memU u3) tyX3 tyX3_ok nmX3 hown hK.1 hY hS0 f3_1 (by decide) (zkd_of (rfl : zcd wC 82 = 34) rfl) (Or.inl (hts _ (z_mem k196))) rfl (by decide +kernel) (zbd_in (rfl : zcd wC 82 = 34) rfl (by decide)) dX3_init_14 (fun H locs hY hS0 => ?_)
  refine lv_aload_n hx hb dX3_init_17 rfl (lv_at hl 0 rfl) ?_
  refine z_bipush hx hb (by decide) dX3_init_18 ?_
  refine y_newa (atype := .int) hx hb (hts _ (z_mem k53)) (t0 := 0) (N := 24) (by decide) (by decide) (hK.1.2 0 _ rfl).2 rfl hY hS0 (zkd_of (rfl : zcd wC 84 = 36) rfl) (zln_of (rfl : zcd wC 84 = 36) rfl) (by decide) rfl (by decide) (by decide) (Nat.le_of_ble_eq_true rfl) (Nat.le_of_ble_eq_true rfl) dX3_init_20 (fun H hY hS0 => ?_)
  have hY : yS D dA vwCl wC 85 b _ _ H := hY
  refine y_putrF (t := 84) hx hb hts (z_memU u3) tyX3 tyX3_ok nmX3 hown hK.1 hY hS0 f3_2 (by decide) (zkd_of (rfl : zcd wC 82 = 34) rfl) (hts _ (z_mem k198)) rfl hin rfl (tyX3_ok 2 (by decide)) (fun _ => rfl) (fun _ => rfl) dX3_init_22 (fun H locs hY hS0 => ?_)
  refine lv_aload_n hx hb dX3_init_25 rfl (lv_at hl 0 rfl) ?_
  refine z_bipush hx hb (by decide) dX3_init_26 ?_
  refine y_newa (atype := .int) hx hb (hts _ (z_mem k53)) (t0 := 0) (N := 24) (by decide) (by decide) (hK.1.2 0 _ rfl).2 rfl hY hS0 (zkd_of (rfl : zcd wC 85 = 37) rfl) (zln_of (rfl : zcd wC 85 = 37) rfl) (by decide) rfl (by decide) (by decide) (Nat.le_of_ble_eq_true rfl) (Nat.le_of_ble_eq_true rfl) dX3_init_28 (fun H hY hS0 => ?_)
  have hY : yS D dA vwCl wC 86 b _ _ H := hY
  refine y_putrF (t := 85) hx hb hts (z_memU u3) tyX3 tyX3_ok nmX3 hown hK.1 hY hS0 f3_3 (by decide) (zkd_of (rfl : zcd wC 82 = 34) rfl) (hts _ (z_mem k199)) rfl hin rfl (tyX3_ok 3 (by decide)) (fun _ => rfl) (fun _ => rfl) dX3_init_30 (fun H locs hY hS0 => ?_)
  exact y_ret hx hb hr hlocks hY hS0 dX3_init_33
def mT_C86 (T : zT) : zT := (tup (tup (tup (fun a c => if a = 88 ∧ c < 5 then some (88 + 1 + c) else (tup T 86 1 87) a c) 86 3 88) 86 4 94) 86 5 95)
def mM_C86 (M : zM) : zM := (zup (zup M 86 0 0) 86 2 0)
set_option maxHeartbeats 4000000 in
set_option maxRecDepth 100000 in
theorem mk_C86 (l : Launch) (D : va_G) (dA : Nat → ClassId) (b : Nat) (M : zM) (T : zT) : Met l yX4_init (.code yX4_init cX4_init 1 none :: zt) (y_rm 1 9 130) (va_Pc [.ref (b + 86)] (yP D dA vwCl (z_tys dA) wC 87 b M T)) (va_Qv (fun _ => True) (yB D dA vwCl wC 96 b (mM_C86 M) (mT_C86 T)) (yA b)) 9 130 (yA b) := by
  refine Met.ofW (cc := cX4_init) (maxL := 1) (ret := none) (by decide) rfl ?_
  intro p e s m args below meth c s₁ B hml hv
  obtain ⟨hargs, hY, hK, hO⟩ := hv
  have hx := B.exec
  have hb := B.bytes
  have hr := B.returns
  have hts := atoms_spec (ws := .code yX4_init cX4_init 1 none :: zt) B.pre
  have hown : s.vm.findClass RX4 = some m.cls := findClass_of_methodNamed B.named
  have hlocks := B.notSynchronized
  have hin : meth.name = "<init>" := (name_of_methodNamed B.named B.method).1
  have hS0 : va_S (yA b) s.heap s.heap [] := va_S.rf
  have hl := lv_entry ([.ref (b + 86)]) (n := 1) (Nat.le_of_ble_eq_true rfl)
  have hent : entryFrame m args 1 = F0 m 0 ((lg_sl ([.ref (b + 86)]) ++ List.replicate (1 - (lg_sl ([.ref (b + 86)])).length) Slot.unset).toArray) [] := by rw [hargs]; exact lg_entry_eq m ([.ref (b + 86)]) 1
  rw [hent]
  generalize (lg_sl ([.ref (b + 86)]) ++ List.replicate (1 - (lg_sl ([.ref (b + 86)])).length) Slot.unset).toArray = ls at hl ⊢
  have hl : lv_has ls 1 [(0, .ref (b + 86))] := hl
  refine lv_aload_n hx hb dX4_init_0 rfl (lv_at hl 0 rfl) ?_
  refine W.objInit hx hb hown (hts _ (z_mem k208)) (hts _ (z_mem k28)) (hts _ (z_mem k29)) rfl (by rw [hml]; exact hl.1) rfl dX4_init_1 (Nat.le_of_ble_eq_true rfl) (Nat.le_of_ble_eq_true rfl) ?_
  refine W.eq (g2 := F0 m 4 ls []) rfl ?_
  refine lv_aload_n hx hb dX4_init_4 rfl (lv_at hl 0 rfl) ?_
  refine z_iconst hx hb dX4_init_5 ?_
  refine y_puti (z := 0) hx hb hts (z_memU u4) tyX4 tyX4_ok nmX4 hown hK.1 hY hS0 f4_0 (by decide) (zkd_of (rfl : zcd wC 86 = 38) rfl) (Or.inl (hts _ (z_mem k210))) rfl (by decide +kernel) (zbd_in (rfl : zcd wC 86 = 38) rfl (by decide)) dX4_init_6 (fun H locs hY hS0 => ?_)
  refine lv_aload_n hx hb dX4_init_9 rfl (lv_at hl 0 rfl) ?_
  refine z_bipush hx hb (by decide) dX4_init_10 ?_
  refine y_newa (atype := .int) hx hb (hts _ (z_mem k53)) (t0 := 0) (N := 40) (by decide) (by decide) (hK.1.2 0 _ rfl).2 rfl hY hS0 (zkd_of (rfl : zcd wC 87 = 39) rfl) (zln_of (rfl : zcd wC 87 = 39) rfl) (by decide) rfl (by decide) (by decide) (Nat.le_of_ble_eq_true rfl) (Nat.le_of_ble_eq_true rfl) dX4_init_12 (fun H hY hS0 => ?_)
  have hY : yS D dA vwCl wC 88 b _ _ H := hY
  refine y_putrF (t := 87) hx hb hts (z_memU u4) tyX4 tyX4_ok nmX4 hown hK.1 hY hS0 f4_1 (by decide) (zkd_of (rfl : zcd wC 86 = 38) rfl) (hts _ (z_mem k212)) rfl hin rfl (tyX4_ok 1 (by decide)) (fun _ => rfl) (fun _ => rfl) dX4_init_14 (fun H locs hY hS0 => ?_)
  refine lv_aload_n hx hb dX4_init_17 rfl (lv_at hl 0 rfl) ?_
  refine z_iconst hx hb dX4_init_18 ?_
  refine y_puti (z := 0) hx hb hts (z_memU u4) tyX4 tyX4_ok nmX4 hown hK.1 hY hS0 f4_2 (by decide) (zkd_of (rfl : zcd wC 86 = 38) rfl) (Or.inl (hts _ (z_mem k214))) rfl (by decide +kernel) (zbd_in (rfl : zcd wC 86 = 38) rfl (by decide)) dX4_init_19 (fun H locs hY hS0 => ?_)
  refine lv_aload_n hx hb dX4_init_22 rfl (lv_at hl 0 rfl) ?_
  refine z_iconst hx hb dX4_init_23 ?_
  refine z_bipush hx hb (by decide) dX4_init_24 ?_
  refine y_mna (N := 5) (K := 8) hx hb hown (hts _ (z_mem k209)) hO.2.2.2 (hts _ (z_mem k53)) (hK.1.2 0 _ rfl).2 (hK.1.2 7 _ rfl).2 hY hS0 (zkd_of (rfl : zcd wC 88 = 40) rfl) (zln_of (rfl : zcd wC 88 = 40) rfl) (by decide +kernel) (by decide) (by decide) rfl rfl (by decide) (by decide) (by decide) (by decide) (by decide) (Nat.le_of_ble_eq_true rfl) (Nat.le_of_ble_eq_true rfl) dX4_init_26 (fun H hY hS0 => ?_)
  have hY : yS D dA vwCl wC 94 b _ _ H := hY
  refine y_putrF (t := 88) hx hb hts (z_memU u4) tyX4 tyX4_ok nmX4 hown hK.1 hY hS0 f4_3 (by decide) (zkd_of (rfl : zcd wC 86 = 38) rfl) (hts _ (z_mem k215)) rfl hin rfl (tyX4_ok 3 (by decide)) (fun _ => rfl) (fun _ => rfl) dX4_init_30 (fun H locs hY hS0 => ?_)
  refine lv_aload_n hx hb dX4_init_33 rfl (lv_at hl 0 rfl) ?_
  refine z_iconst hx hb dX4_init_34 ?_
  refine y_newa (atype := .int) hx hb (hts _ (z_mem k53)) (t0 := 0) (N := 5) (by decide) (by decide) (hK.1.2 0 _ rfl).2 rfl hY hS0 (zkd_of (rfl : zcd wC 94 = 42) rfl) (zln_of (rfl : zcd wC 94 = 42) rfl) (by decide) rfl (by decide) (by decide) (Nat.le_of_ble_eq_true rfl) (Nat.le_of_ble_eq_true rfl) dX4_init_35 (fun H hY hS0 => ?_)
  have hY : yS D dA vwCl wC 95 b _ _ H := hY
  refine y_putrF (t := 94) hx hb hts (z_memU u4) tyX4 tyX4_ok nmX4 hown hK.1 hY hS0 f4_4 (by decide) (zkd_of (rfl : zcd wC 86 = 38) rfl) (hts _ (z_mem k216)) rfl hin rfl (tyX4_ok 4 (by decide)) (fun _ => rfl) (fun _ => rfl) dX4_init_37 (fun H locs hY hS0 => ?_)
  refine lv_aload_n hx hb dX4_init_40 rfl (lv_at hl 0 rfl) ?_
  refine z_bipush hx hb (by decide) dX4_init_41 ?_
  refine y_newa (atype := .int) hx hb (hts _ (z_mem k53)) (t0 := 0) (N := 40) (by decide) (by decide) (hK.1.2 0 _ rfl).2 rfl hY hS0 (zkd_of (rfl : zcd wC 95 = 43) rfl) (zln_of (rfl : zcd wC 95 = 43) rfl) (by decide) rfl (by decide) (by decide) (Nat.le_of_ble_eq_true rfl) (Nat.le_of_ble_eq_true rfl) dX4_init_43 (fun H hY hS0 => ?_)
  have hY : yS D dA vwCl wC 96 b _ _ H := hY
  refine y_putrF (t := 95) hx hb hts (z_memU u4) tyX4 tyX4_ok nmX4 hown hK.1 hY hS0 f4_5 (by decide) (zkd_of (rfl : zcd wC 86 = 38) rfl) (hts _ (z_mem k217)) rfl hin rfl (tyX4_ok 5 (by decide)) (fun _ => rfl) (fun _ => rfl) dX4_init_45 (fun H locs hY hS0 => ?_)
  exact y_ret hx hb hr hlocks hY hS0 dX4_init_48
def mT_C96 (T : zT) : zT := (tup (tup (tup (tup (tup (tup (tup (tup (tup (tup (tup (tup (tup (tup (tup (tup (tup (tup (tup (tup (tup (tup (tup (tup (tup (tup (tup (tup (tup (tup (tup (tup (tup (tup (tup (tup T 96 1 97) 96 2 98) 96 3 99) 96 4 100) 101 0 102) 97 (0 : Int).toNat 101) 103 0 104) 97 (1 : Int).toNat 103) 105 0 106) 97 (2 : Int).toNat 105) 107 0 108) 97 (3 : Int).toNat 107) 109 0 110) 97 (4 : Int).toNat 109) 111 0 112) 97 (5 : Int).toNat 111) 113 0 114) 97 (6 : Int).toNat 113) 115 0 116) 97 (7 : Int).toNat 115) 117 0 118) 97 (8 : Int).toNat 117) 119 0 120) 97 (9 : Int).toNat 119) 121 0 122) 97 (10 : Int).toNat 121) 123 0 124) 97 (11 : Int).toNat 123) 125 0 126) 97 (12 : Int).toNat 125) 127 0 128) 97 (13 : Int).toNat 127) 129 0 130) 97 (14 : Int).toNat 129) 131 0 132) 97 (15 : Int).toNat 131)
def mM_C96 (M : zM) : zM := (zup (zup (zup (zup (zup (zup (zup (zup (zup (zup (zup (zup (zup (zup (zup (zup (zup M 96 0 0) 101 1 0) 103 1 0) 105 1 0) 107 1 0) 109 1 0) 111 1 0) 113 1 0) 115 1 0) 117 1 0) 119 1 0) 121 1 0) 123 1 0) 125 1 0) 127 1 0) 129 1 0) 131 1 0)
set_option maxHeartbeats 4000000 in
set_option maxRecDepth 100000 in
theorem mk_C96 (l : Launch) (D : va_G) (dA : Nat → ClassId) (b : Nat) (M : zM) (T : zT) : Met l yX10_init (.code yX10_init cX10_init 2 none :: zt) (y_rm 2 36 489) (va_Pc [.ref (b + 96)] (yP D dA vwCl (z_tys dA) wC 97 b M T)) (va_Qv (fun _ => True) (yB D dA vwCl wC 133 b (mM_C96 M) (mT_C96 T)) (yA b)) 36 489 (yA b) := by
  refine Met.ofW (cc := cX10_init) (maxL := 2) (ret := none) (by decide) rfl ?_
  intro p e s m args below meth c s₁ B hml hv
  obtain ⟨hargs, hY, hK, hO⟩ := hv
  have hx := B.exec
  have hb := B.bytes
  have hr := B.returns
  have hts := atoms_spec (ws := .code yX10_init cX10_init 2 none :: zt) B.pre
  have hown : s.vm.findClass RX10 = some m.cls := findClass_of_methodNamed B.named
  have hlocks := B.notSynchronized
  have hin : meth.name = "<init>" := (name_of_methodNamed B.named B.method).1
  have hS0 : va_S (yA b) s.heap s.heap [] := va_S.rf
  have hl := lv_entry ([.ref (b + 96)]) (n := 2) (Nat.le_of_ble_eq_true rfl)
  have hent : entryFrame m args 2 = F0 m 0 ((lg_sl ([.ref (b + 96)]) ++ List.replicate (2 - (lg_sl ([.ref (b + 96)])).length) Slot.unset).toArray) [] := by rw [hargs]; exact lg_entry_eq m ([.ref (b + 96)]) 2
  rw [hent]
  generalize (lg_sl ([.ref (b + 96)]) ++ List.replicate (2 - (lg_sl ([.ref (b + 96)])).length) Slot.unset).toArray = ls at hl ⊢
  have hl : lv_has ls 2 [(0, .ref (b + 96))] := hl
  refine lv_aload_n hx hb dX10_init_0 rfl (lv_at hl 0 rfl) ?_
  refine W.objInit hx hb hown (hts _ (z_mem k229)) (hts _ (z_mem k28)) (hts _ (z_mem k29)) rfl (by rw [hml]; exact hl.1) rfl dX10_init_1 (Nat.le_of_ble_eq_true rfl) (Nat.le_of_ble_eq_true rfl) ?_
  refine W.eq (g2 := F0 m 4 ls []) rfl ?_
  refine lv_aload_n hx hb dX10_init_4 rfl (lv_at hl 0 rfl) ?_
  refine z_iconst hx hb dX10_init_5 ?_
  refine y_puti (z := 0) hx hb hts (z_memU u10) tyX10 tyX10_ok nmX10 hown hK.1 hY hS0 f10_0 (by decide) (zkd_of (rfl : zcd wC 96 = 44) rfl) (Or.inl (hts _ (z_mem k231))) rfl (by decide +kernel) (zbd_in (rfl : zcd wC 96 = 44) rfl (by decide)) dX10_init_6 (fun H locs hY hS0 => ?_)
  refine lv_aload_n hx hb dX10_init_9 rfl (lv_at hl 0 rfl) ?_
  refine z_bipush hx hb (by decide) dX10_init_10 ?_
  refine y_newq (C := "TapeRings$Strip") (t0 := 4) (N := 16) hx hb hown (hts _ (z_mem k230)) hO.1 (by decide) (hK.1.2 4 _ rfl).2 hY hS0 (zkd_of (rfl : zcd wC 97 = 45) rfl) (zln_of (rfl : zcd wC 97 = 45) rfl) (by decide) rfl (by decide) (by decide) (Nat.le_of_ble_eq_true rfl) (Nat.le_of_ble_eq_true rfl) dX10_init_12 (fun H hY hS0 => ?_)
  have hY : yS D dA vwCl wC 98 b _ _ H := hY
  refine y_putrF (t := 97) hx hb hts (z_memU u10) tyX10 tyX10_ok nmX10 hown hK.1 hY hS0 f10_1 (by decide) (zkd_of (rfl : zcd wC 96 = 44) rfl) (hts _ (z_mem k233)) rfl hin rfl (tyX10_ok 1 (by decide)) (fun _ => rfl) (fun _ => rfl) dX10_init_15 (fun H locs hY hS0 => ?_)
  refine lv_aload_n hx hb dX10_init_18 rfl (lv_at hl 0 rfl) ?_
  refine z_bipush hx hb (by decide) dX10_init_19 ?_
  refine y_newa (atype := .int) hx hb (hts _ (z_mem k53)) (t0 := 0) (N := 16) (by decide) (by decide) (hK.1.2 0 _ rfl).2 rfl hY hS0 (zkd_of (rfl : zcd wC 98 = 46) rfl) (zln_of (rfl : zcd wC 98 = 46) rfl) (by decide) rfl (by decide) (by decide) (Nat.le_of_ble_eq_true rfl) (Nat.le_of_ble_eq_true rfl) dX10_init_21 (fun H hY hS0 => ?_)
  have hY : yS D dA vwCl wC 99 b _ _ H := hY
  refine y_putrF (t := 98) hx hb hts (z_memU u10) tyX10 tyX10_ok nmX10 hown hK.1 hY hS0 f10_2 (by decide) (zkd_of (rfl : zcd wC 96 = 44) rfl) (hts _ (z_mem k234)) rfl hin rfl (tyX10_ok 2 (by decide)) (fun _ => rfl) (fun _ => rfl) dX10_init_23 (fun H locs hY hS0 => ?_)
  refine lv_aload_n hx hb dX10_init_26 rfl (lv_at hl 0 rfl) ?_
  refine z_bipush hx hb (by decide) dX10_init_27 ?_
  refine y_newa (atype := .int) hx hb (hts _ (z_mem k53)) (t0 := 0) (N := 16) (by decide) (by decide) (hK.1.2 0 _ rfl).2 rfl hY hS0 (zkd_of (rfl : zcd wC 99 = 47) rfl) (zln_of (rfl : zcd wC 99 = 47) rfl) (by decide) rfl (by decide) (by decide) (Nat.le_of_ble_eq_true rfl) (Nat.le_of_ble_eq_true rfl) dX10_init_29 (fun H hY hS0 => ?_)
  have hY : yS D dA vwCl wC 100 b _ _ H := hY
  refine y_putrF (t := 99) hx hb hts (z_memU u10) tyX10 tyX10_ok nmX10 hown hK.1 hY hS0 f10_3 (by decide) (zkd_of (rfl : zcd wC 96 = 44) rfl) (hts _ (z_mem k235)) rfl hin rfl (tyX10_ok 3 (by decide)) (fun _ => rfl) (fun _ => rfl) dX10_init_31 (fun H locs hY hS0 => ?_)
  refine lv_aload_n hx hb dX10_init_34 rfl (lv_at hl 0 rfl) ?_
  refine z_bipush hx hb (by decide) dX10_init_35 ?_
  refine y_newa (atype := .int) hx hb (hts _ (z_mem k53)) (t0 := 0) (N := 25) (by decide) (by decide) (hK.1.2 0 _ rfl).2 rfl hY hS0 (zkd_of (rfl : zcd wC 100 = 48) rfl) (zln_of (rfl : zcd wC 100 = 48) rfl) (by decide) rfl (by decide) (by decide) (Nat.le_of_ble_eq_true rfl) (Nat.le_of_ble_eq_true rfl) dX10_init_37 (fun H hY hS0 => ?_)
  have hY : yS D dA vwCl wC 101 b _ _ H := hY
  refine y_putrF (t := 100) hx hb hts (z_memU u10) tyX10 tyX10_ok nmX10 hown hK.1 hY hS0 f10_4 (by decide) (zkd_of (rfl : zcd wC 96 = 44) rfl) (hts _ (z_mem k236)) rfl hin rfl (tyX10_ok 4 (by decide)) (fun _ => rfl) (fun _ => rfl) dX10_init_39 (fun H locs hY hS0 => ?_)
  refine z_iconst hx hb dX10_init_42 ?_
  refine lv_istore_n (lv' := [(1, .int (iI 0)), (0, .ref (b + 96))]) hx hb dX10_init_43 rfl hl (by decide) rfl (fun ls hl => ?_)
  refine lv_iload_n hx hb dX10_init_44 rfl (lv_at hl 0 rfl) ?_
  refine z_bipush hx hb (by decide) dX10_init_45 ?_
  refine z_icmp_ge (tgt := 69) hx hb (by decide) (by decide) dX10_init_47 (by decide) (fun c9 => absurd c9 (by decide)) (fun _ => ?_)
  refine lv_aload_n hx hb dX10_init_50 rfl (lv_at hl 1 rfl) ?_
  refine y_getr (t := 97) hx hb hts (z_memU u10) hown hK.1 hY f10_1 (by decide) (zkd_of (rfl : zcd wC 96 = 44) rfl) (by first | rfl | simp [tup]) (Or.inl (hts _ (z_mem k233))) dX10_init_51 ?_
  refine lv_iload_n hx hb dX10_init_54 rfl (lv_at hl 0 rfl) ?_
  refine y_new hx hb hts (z_memU u8) tyX8 tyX8_ok hown (hts _ (z_mem k230)) (hts _ (z_mem k37)) (hts _ (z_mem k3)) hK.1 hY hS0 (rfl : vwCl[8]? = some (RX8, TX8, 2)) (by decide) (zkd_of (rfl : zcd wC 101 = 6) rfl) rfl (fun k hk => by rcases (show k = 0 ∨ k = 1 by omega) with rfl | rfl <;> rfl) (Nat.le_of_ble_eq_true rfl) (Nat.le_of_ble_eq_true rfl) dX10_init_55 (fun H hY hS0 => ?_)
  have hY : yS D dA vwCl wC 102 b _ _ H := hY
  refine lv_dup hx hb dX10_init_58 rfl ?_
  refine y_call (va_runIN (As := []) (rest := [.ref (b + 101), .int (iI 0), .ref (b + 97)]) ⟨hx, hb, hml, hown, hts⟩ (mk_Strip l D dA b _ _ 102 101 (by decide) (rfl : zcd wC 101 = 6) (rfl : zcd wC 102 = 7)) ⟨va_cnB 0 hts (z_gN k39) rfl rfl rfl (hK.2 _ (List.mem_of_getElem? (i := 9) rfl)) (hts _ (z_mem k3)) (by decide +kernel) ⟨(Nat.le_of_ble_eq_true rfl), (Nat.le_of_ble_eq_true rfl)⟩, rfl, (hts _ (z_mem k38))⟩ ⟨yP_blind, y_pre hY hK hO⟩ rfl rfl hl.1 rfl (lv_room (Nat.le_of_ble_eq_true rfl)) dX10_init_59 ⟨(Nat.le_of_ble_eq_true rfl), (Nat.le_of_ble_eq_true rfl)⟩) hS0 (fun H locs hY hS0 => ?_)
  have hY : yS D dA vwCl wC 103 b _ _ H := hY
  refine y_aast (t0 := 4) (N := 16) (i := 0) hx hb hK.1 (by decide) (hK.1.2 4 _ rfl).2 (rfl : vwCl[8]? = some (RX8, TX8, 2)) (by decide) hY hS0 (by decide) (zkd_of (rfl : zcd wC 97 = 45) rfl) (zln_of (rfl : zcd wC 97 = 45) rfl) (by decide) (zkd_of (rfl : zcd wC 101 = 6) rfl) (by decide) (by decide) (by decide) dX10_init_62 (fun H locs hY hS0 => ?_)
  refine z_iinc (lv' := [(1, .int (iI (0 + 1))), (0, .ref (b + 96))]) hx hb dX10_init_63 hl (k := 0) rfl (by decide) rfl (fun ls hl => ?_)
  rw [show ((0 + 1) : Int) = 1 from by decide] at hl
  refine lv_goto (tgt := 44) hx hb dX10_init_66 (by decide) ?_
  refine lv_iload_n hx hb dX10_init_44 rfl (lv_at hl 0 rfl) ?_
  refine z_bipush hx hb (by decide) dX10_init_45 ?_
  refine z_icmp_ge (tgt := 69) hx hb (by decide) (by decide) dX10_init_47 (by decide) (fun c9 => absurd c9 (by decide)) (fun _ => ?_)
  refine lv_aload_n hx hb dX10_init_50 rfl (lv_at hl 1 rfl) ?_
  refine y_getr (t := 97) hx hb hts (z_memU u10) hown hK.1 hY f10_1 (by decide) (zkd_of (rfl : zcd wC 96 = 44) rfl) (by first | rfl | simp [tup]) (Or.inl (hts _ (z_mem k233))) dX10_init_51 ?_
  refine lv_iload_n hx hb dX10_init_54 rfl (lv_at hl 0 rfl) ?_
  refine y_new hx hb hts (z_memU u8) tyX8 tyX8_ok hown (hts _ (z_mem k230)) (hts _ (z_mem k37)) (hts _ (z_mem k3)) hK.1 hY hS0 (rfl : vwCl[8]? = some (RX8, TX8, 2)) (by decide) (zkd_of (rfl : zcd wC 103 = 6) rfl) rfl (fun k hk => by rcases (show k = 0 ∨ k = 1 by omega) with rfl | rfl <;> rfl) (Nat.le_of_ble_eq_true rfl) (Nat.le_of_ble_eq_true rfl) dX10_init_55 (fun H hY hS0 => ?_)
  have hY : yS D dA vwCl wC 104 b _ _ H := hY
  refine lv_dup hx hb dX10_init_58 rfl ?_
  refine y_call (va_runIN (As := []) (rest := [.ref (b + 103), .int (iI 1), .ref (b + 97)]) ⟨hx, hb, hml, hown, hts⟩ (mk_Strip l D dA b _ _ 104 103 (by decide) (rfl : zcd wC 103 = 6) (rfl : zcd wC 104 = 7)) ⟨va_cnB 0 hts (z_gN k39) rfl rfl rfl (hK.2 _ (List.mem_of_getElem? (i := 9) rfl)) (hts _ (z_mem k3)) (by decide +kernel) ⟨(Nat.le_of_ble_eq_true rfl), (Nat.le_of_ble_eq_true rfl)⟩, rfl, (hts _ (z_mem k38))⟩ ⟨yP_blind, y_pre hY hK hO⟩ rfl rfl hl.1 rfl (lv_room (Nat.le_of_ble_eq_true rfl)) dX10_init_59 ⟨(Nat.le_of_ble_eq_true rfl), (Nat.le_of_ble_eq_true rfl)⟩) hS0 (fun H locs hY hS0 => ?_)
  have hY : yS D dA vwCl wC 105 b _ _ H := hY
  refine y_aast (t0 := 4) (N := 16) (i := 1) hx hb hK.1 (by decide) (hK.1.2 4 _ rfl).2 (rfl : vwCl[8]? = some (RX8, TX8, 2)) (by decide) hY hS0 (by decide) (zkd_of (rfl : zcd wC 97 = 45) rfl) (zln_of (rfl : zcd wC 97 = 45) rfl) (by decide) (zkd_of (rfl : zcd wC 103 = 6) rfl) (by decide) (by decide) (by decide) dX10_init_62 (fun H locs hY hS0 => ?_)
  refine z_iinc (lv' := [(1, .int (iI (1 + 1))), (0, .ref (b + 96))]) hx hb dX10_init_63 hl (k := 0) rfl (by decide) rfl (fun ls hl => ?_)
  rw [show ((1 + 1) : Int) = 2 from by decide] at hl
  refine lv_goto (tgt := 44) hx hb dX10_init_66 (by decide) ?_
  refine lv_iload_n hx hb dX10_init_44 rfl (lv_at hl 0 rfl) ?_
  refine z_bipush hx hb (by decide) dX10_init_45 ?_
  refine z_icmp_ge (tgt := 69) hx hb (by decide) (by decide) dX10_init_47 (by decide) (fun c9 => absurd c9 (by decide)) (fun _ => ?_)
  refine lv_aload_n hx hb dX10_init_50 rfl (lv_at hl 1 rfl) ?_
  refine y_getr (t := 97) hx hb hts (z_memU u10) hown hK.1 hY f10_1 (by decide) (zkd_of (rfl : zcd wC 96 = 44) rfl) (by first | rfl | simp [tup]) (Or.inl (hts _ (z_mem k233))) dX10_init_51 ?_
  refine lv_iload_n hx hb dX10_init_54 rfl (lv_at hl 0 rfl) ?_
  refine y_new hx hb hts (z_memU u8) tyX8 tyX8_ok hown (hts _ (z_mem k230)) (hts _ (z_mem k37)) (hts _ (z_mem k3)) hK.1 hY hS0 (rfl : vwCl[8]? = some (RX8, TX8, 2)) (by decide) (zkd_of (rfl : zcd wC 105 = 6) rfl) rfl (fun k hk => by rcases (show k = 0 ∨ k = 1 by omega) with rfl | rfl <;> rfl) (Nat.le_of_ble_eq_true rfl) (Nat.le_of_ble_eq_true rfl) dX10_init_55 (fun H hY hS0 => ?_)
  have hY : yS D dA vwCl wC 106 b _ _ H := hY
  refine lv_dup hx hb dX10_init_58 rfl ?_
  refine y_call (va_runIN (As := []) (rest := [.ref (b + 105), .int (iI 2), .ref (b + 97)]) ⟨hx, hb, hml, hown, hts⟩ (mk_Strip l D dA b _ _ 106 105 (by decide) (rfl : zcd wC 105 = 6) (rfl : zcd wC 106 = 7)) ⟨va_cnB 0 hts (z_gN k39) rfl rfl rfl (hK.2 _ (List.mem_of_getElem? (i := 9) rfl)) (hts _ (z_mem k3)) (by decide +kernel) ⟨(Nat.le_of_ble_eq_true rfl), (Nat.le_of_ble_eq_true rfl)⟩, rfl, (hts _ (z_mem k38))⟩ ⟨yP_blind, y_pre hY hK hO⟩ rfl rfl hl.1 rfl (lv_room (Nat.le_of_ble_eq_true rfl)) dX10_init_59 ⟨(Nat.le_of_ble_eq_true rfl), (Nat.le_of_ble_eq_true rfl)⟩) hS0 (fun H locs hY hS0 => ?_)
  have hY : yS D dA vwCl wC 107 b _ _ H := hY
  refine y_aast (t0 := 4) (N := 16) (i := 2) hx hb hK.1 (by decide) (hK.1.2 4 _ rfl).2 (rfl : vwCl[8]? = some (RX8, TX8, 2)) (by decide) hY hS0 (by decide) (zkd_of (rfl : zcd wC 97 = 45) rfl) (zln_of (rfl : zcd wC 97 = 45) rfl) (by decide) (zkd_of (rfl : zcd wC 105 = 6) rfl) (by decide) (by decide) (by decide) dX10_init_62 (fun H locs hY hS0 => ?_)
  refine z_iinc (lv' := [(1, .int (iI (2 + 1))), (0, .ref (b + 96))]) hx hb dX10_init_63 hl (k := 0) rfl (by decide) rfl (fun ls hl => ?_)
  rw [show ((2 + 1) : Int) = 3 from by decide] at hl
  refine lv_goto (tgt := 44) hx hb dX10_init_66 (by decide) ?_
  refine lv_iload_n hx hb dX10_init_44 rfl (lv_at hl 0 rfl) ?_
  refine z_bipush hx hb (by decide) dX10_init_45 ?_
  refine z_icmp_ge (tgt := 69) hx hb (by decide) (by decide) dX10_init_47 (by decide) (fun c9 => absurd c9 (by decide)) (fun _ => ?_)
  refine lv_aload_n hx hb dX10_init_50 rfl (lv_at hl 1 rfl) ?_
  refine y_getr (t := 97) hx hb hts (z_memU u10) hown hK.1 hY f10_1 (by decide) (zkd_of (rfl : zcd wC 96 = 44) rfl) (by first | rfl | simp [tup]) (Or.inl (hts _ (z_mem k233))) dX10_init_51 ?_
  refine lv_iload_n hx hb dX10_init_54 rfl (lv_at hl 0 rfl) ?_
  refine y_new hx hb hts (z_memU u8) tyX8 tyX8_ok hown (hts _ (z_mem k230)) (hts _ (z_mem k37)) (hts _ (z_mem k3)) hK.1 hY hS0 (rfl : vwCl[8]? = some (RX8, TX8, 2)) (by decide) (zkd_of (rfl : zcd wC 107 = 6) rfl) rfl (fun k hk => by rcases (show k = 0 ∨ k = 1 by omega) with rfl | rfl <;> rfl) (Nat.le_of_ble_eq_true rfl) (Nat.le_of_ble_eq_true rfl) dX10_init_55 (fun H hY hS0 => ?_)
  have hY : yS D dA vwCl wC 108 b _ _ H := hY
  refine lv_dup hx hb dX10_init_58 rfl ?_
  refine y_call (va_runIN (As := []) (rest := [.ref (b + 107), .int (iI 3), .ref (b + 97)]) ⟨hx, hb, hml, hown, hts⟩ (mk_Strip l D dA b _ _ 108 107 (by decide) (rfl : zcd wC 107 = 6) (rfl : zcd wC 108 = 7)) ⟨va_cnB 0 hts (z_gN k39) rfl rfl rfl (hK.2 _ (List.mem_of_getElem? (i := 9) rfl)) (hts _ (z_mem k3)) (by decide +kernel) ⟨(Nat.le_of_ble_eq_true rfl), (Nat.le_of_ble_eq_true rfl)⟩, rfl, (hts _ (z_mem k38))⟩ ⟨yP_blind, y_pre hY hK hO⟩ rfl rfl hl.1 rfl (lv_room (Nat.le_of_ble_eq_true rfl)) dX10_init_59 ⟨(Nat.le_of_ble_eq_true rfl), (Nat.le_of_ble_eq_true rfl)⟩) hS0 (fun H locs hY hS0 => ?_)
  have hY : yS D dA vwCl wC 109 b _ _ H := hY
  refine y_aast (t0 := 4) (N := 16) (i := 3) hx hb hK.1 (by decide) (hK.1.2 4 _ rfl).2 (rfl : vwCl[8]? = some (RX8, TX8, 2)) (by decide) hY hS0 (by decide) (zkd_of (rfl : zcd wC 97 = 45) rfl) (zln_of (rfl : zcd wC 97 = 45) rfl) (by decide) (zkd_of (rfl : zcd wC 107 = 6) rfl) (by decide) (by decide) (by decide) dX10_init_62 (fun H locs hY hS0 => ?_)
  refine z_iinc (lv' := [(1, .int (iI (3 + 1))), (0, .ref (b + 96))]) hx hb dX10_init_63 hl (k := 0) rfl (by decide) rfl (fun ls hl => ?_)
  rw [show ((3 + 1) : Int) = 4 from by decide] at hl
  refine lv_goto (tgt := 44) hx hb dX10_init_66 (by decide) ?_
  refine lv_iload_n hx hb dX10_init_44 rfl (lv_at hl 0 rfl) ?_
  refine z_bipush hx hb (by decide) dX10_init_45 ?_
  refine z_icmp_ge (tgt := 69) hx hb (by decide) (by decide) dX10_init_47 (by decide) (fun c9 => absurd c9 (by decide)) (fun _ => ?_)
  refine lv_aload_n hx hb dX10_init_50 rfl (lv_at hl 1 rfl) ?_
  refine y_getr (t := 97) hx hb hts (z_memU u10) hown hK.1 hY f10_1 (by decide) (zkd_of (rfl : zcd wC 96 = 44) rfl) (by first | rfl | simp [tup]) (Or.inl (hts _ (z_mem k233))) dX10_init_51 ?_
  refine lv_iload_n hx hb dX10_init_54 rfl (lv_at hl 0 rfl) ?_
  refine y_new hx hb hts (z_memU u8) tyX8 tyX8_ok hown (hts _ (z_mem k230)) (hts _ (z_mem k37)) (hts _ (z_mem k3)) hK.1 hY hS0 (rfl : vwCl[8]? = some (RX8, TX8, 2)) (by decide) (zkd_of (rfl : zcd wC 109 = 6) rfl) rfl (fun k hk => by rcases (show k = 0 ∨ k = 1 by omega) with rfl | rfl <;> rfl) (Nat.le_of_ble_eq_true rfl) (Nat.le_of_ble_eq_true rfl) dX10_init_55 (fun H hY hS0 => ?_)
  have hY : yS D dA vwCl wC 110 b _ _ H := hY
  refine lv_dup hx hb dX10_init_58 rfl ?_
  refine y_call (va_runIN (As := []) (rest := [.ref (b + 109), .int (iI 4), .ref (b + 97)]) ⟨hx, hb, hml, hown, hts⟩ (mk_Strip l D dA b _ _ 110 109 (by decide) (rfl : zcd wC 109 = 6) (rfl : zcd wC 110 = 7)) ⟨va_cnB 0 hts (z_gN k39) rfl rfl rfl (hK.2 _ (List.mem_of_getElem? (i := 9) rfl)) (hts _ (z_mem k3)) (by decide +kernel) ⟨(Nat.le_of_ble_eq_true rfl), (Nat.le_of_ble_eq_true rfl)⟩, rfl, (hts _ (z_mem k38))⟩ ⟨yP_blind, y_pre hY hK hO⟩ rfl rfl hl.1 rfl (lv_room (Nat.le_of_ble_eq_true rfl)) dX10_init_59 ⟨(Nat.le_of_ble_eq_true rfl), (Nat.le_of_ble_eq_true rfl)⟩) hS0 (fun H locs hY hS0 => ?_)
  have hY : yS D dA vwCl wC 111 b _ _ H := hY
  refine y_aast (t0 := 4) (N := 16) (i := 4) hx hb hK.1 (by decide) (hK.1.2 4 _ rfl).2 (rfl : vwCl[8]? = some (RX8, TX8, 2)) (by decide) hY hS0 (by decide) (zkd_of (rfl : zcd wC 97 = 45) rfl) (zln_of (rfl : zcd wC 97 = 45) rfl) (by decide) (zkd_of (rfl : zcd wC 109 = 6) rfl) (by decide) (by decide) (by decide) dX10_init_62 (fun H locs hY hS0 => ?_)
  refine z_iinc (lv' := [(1, .int (iI (4 + 1))), (0, .ref (b + 96))]) hx hb dX10_init_63 hl (k := 0) rfl (by decide) rfl (fun ls hl => ?_)
  rw [show ((4 + 1) : Int) = 5 from by decide] at hl
  refine lv_goto (tgt := 44) hx hb dX10_init_66 (by decide) ?_
  refine lv_iload_n hx hb dX10_init_44 rfl (lv_at hl 0 rfl) ?_
  refine z_bipush hx hb (by decide) dX10_init_45 ?_
  refine z_icmp_ge (tgt := 69) hx hb (by decide) (by decide) dX10_init_47 (by decide) (fun c9 => absurd c9 (by decide)) (fun _ => ?_)
  refine lv_aload_n hx hb dX10_init_50 rfl (lv_at hl 1 rfl) ?_
  refine y_getr (t := 97) hx hb hts (z_memU u10) hown hK.1 hY f10_1 (by decide) (zkd_of (rfl : zcd wC 96 = 44) rfl) (by first | rfl | simp [tup]) (Or.inl (hts _ (z_mem k233))) dX10_init_51 ?_
  refine lv_iload_n hx hb dX10_init_54 rfl (lv_at hl 0 rfl) ?_
  refine y_new hx hb hts (z_memU u8) tyX8 tyX8_ok hown (hts _ (z_mem k230)) (hts _ (z_mem k37)) (hts _ (z_mem k3)) hK.1 hY hS0 (rfl : vwCl[8]? = some (RX8, TX8, 2)) (by decide) (zkd_of (rfl : zcd wC 111 = 6) rfl) rfl (fun k hk => by rcases (show k = 0 ∨ k = 1 by omega) with rfl | rfl <;> rfl) (Nat.le_of_ble_eq_true rfl) (Nat.le_of_ble_eq_true rfl) dX10_init_55 (fun H hY hS0 => ?_)
  have hY : yS D dA vwCl wC 112 b _ _ H := hY
  refine lv_dup hx hb dX10_init_58 rfl ?_
  refine y_call (va_runIN (As := []) (rest := [.ref (b + 111), .int (iI 5), .ref (b + 97)]) ⟨hx, hb, hml, hown, hts⟩ (mk_Strip l D dA b _ _ 112 111 (by decide) (rfl : zcd wC 111 = 6) (rfl : zcd wC 112 = 7)) ⟨va_cnB 0 hts (z_gN k39) rfl rfl rfl (hK.2 _ (List.mem_of_getElem? (i := 9) rfl)) (hts _ (z_mem k3)) (by decide +kernel) ⟨(Nat.le_of_ble_eq_true rfl), (Nat.le_of_ble_eq_true rfl)⟩, rfl, (hts _ (z_mem k38))⟩ ⟨yP_blind, y_pre hY hK hO⟩ rfl rfl hl.1 rfl (lv_room (Nat.le_of_ble_eq_true rfl)) dX10_init_59 ⟨(Nat.le_of_ble_eq_true rfl), (Nat.le_of_ble_eq_true rfl)⟩) hS0 (fun H locs hY hS0 => ?_)
  have hY : yS D dA vwCl wC 113 b _ _ H := hY
  refine y_aast (t0 := 4) (N := 16) (i := 5) hx hb hK.1 (by decide) (hK.1.2 4 _ rfl).2 (rfl : vwCl[8]? = some (RX8, TX8, 2)) (by decide) hY hS0 (by decide) (zkd_of (rfl : zcd wC 97 = 45) rfl) (zln_of (rfl : zcd wC 97 = 45) rfl) (by decide) (zkd_of (rfl : zcd wC 111 = 6) rfl) (by decide) (by decide) (by decide) dX10_init_62 (fun H locs hY hS0 => ?_)
  refine z_iinc (lv' := [(1, .int (iI (5 + 1))), (0, .ref (b + 96))]) hx hb dX10_init_63 hl (k := 0) rfl (by decide) rfl (fun ls hl => ?_)
  rw [show ((5 + 1) : Int) = 6 from by decide] at hl
  refine lv_goto (tgt := 44) hx hb dX10_init_66 (by decide) ?_
  refine lv_iload_n hx hb dX10_init_44 rfl (lv_at hl 0 rfl) ?_
  refine z_bipush hx hb (by decide) dX10_init_45 ?_
  refine z_icmp_ge (tgt := 69) hx hb (by decide) (by decide) dX10_init_47 (by decide) (fun c9 => absurd c9 (by decide)) (fun _ => ?_)
  refine lv_aload_n hx hb dX10_init_50 rfl (lv_at hl 1 rfl) ?_
  refine y_getr (t := 97) hx hb hts (z_memU u10) hown hK.1 hY f10_1 (by decide) (zkd_of (rfl : zcd wC 96 = 44) rfl) (by first | rfl | simp [tup]) (Or.inl (hts _ (z_mem k233))) dX10_init_51 ?_
  refine lv_iload_n hx hb dX10_init_54 rfl (lv_at hl 0 rfl) ?_
  refine y_new hx hb hts (z_memU u8) tyX8 tyX8_ok hown (hts _ (z_mem k230)) (hts _ (z_mem k37)) (hts _ (z_mem k3)) hK.1 hY hS0 (rfl : vwCl[8]? = some (RX8, TX8, 2)) (by decide) (zkd_of (rfl : zcd wC 113 = 6) rfl) rfl (fun k hk => by rcases (show k = 0 ∨ k = 1 by omega) with rfl | rfl <;> rfl) (Nat.le_of_ble_eq_true rfl) (Nat.le_of_ble_eq_true rfl) dX10_init_55 (fun H hY hS0 => ?_)
  have hY : yS D dA vwCl wC 114 b _ _ H := hY
  refine lv_dup hx hb dX10_init_58 rfl ?_
  refine y_call (va_runIN (As := []) (rest := [.ref (b + 113), .int (iI 6), .ref (b + 97)]) ⟨hx, hb, hml, hown, hts⟩ (mk_Strip l D dA b _ _ 114 113 (by decide) (rfl : zcd wC 113 = 6) (rfl : zcd wC 114 = 7)) ⟨va_cnB 0 hts (z_gN k39) rfl rfl rfl (hK.2 _ (List.mem_of_getElem? (i := 9) rfl)) (hts _ (z_mem k3)) (by decide +kernel) ⟨(Nat.le_of_ble_eq_true rfl), (Nat.le_of_ble_eq_true rfl)⟩, rfl, (hts _ (z_mem k38))⟩ ⟨yP_blind, y_pre hY hK hO⟩ rfl rfl hl.1 rfl (lv_room (Nat.le_of_ble_eq_true rfl)) dX10_init_59 ⟨(Nat.le_of_ble_eq_true rfl), (Nat.le_of_ble_eq_true rfl)⟩) hS0 (fun H locs hY hS0 => ?_)
  have hY : yS D dA vwCl wC 115 b _ _ H := hY
  refine y_aast (t0 := 4) (N := 16) (i := 6) hx hb hK.1 (by decide) (hK.1.2 4 _ rfl).2 (rfl : vwCl[8]? = some (RX8, TX8, 2)) (by decide) hY hS0 (by decide) (zkd_of (rfl : zcd wC 97 = 45) rfl) (zln_of (rfl : zcd wC 97 = 45) rfl) (by decide) (zkd_of (rfl : zcd wC 113 = 6) rfl) (by decide) (by decide) (by decide) dX10_init_62 (fun H locs hY hS0 => ?_)
  refine z_iinc (lv' := [(1, .int (iI (6 + 1))), (0, .ref (b + 96))]) hx hb dX10_init_63 hl (k := 0) rfl (by decide) rfl (fun ls hl => ?_)
  rw [show ((6 + 1) : Int) = 7 from by decide] at hl
  refine lv_goto (tgt := 44) hx hb dX10_init_66 (by decide) ?_
  refine lv_iload_n hx hb dX10_init_44 rfl (lv_at hl 0 rfl) ?_
  refine z_bipush hx hb (by decide) dX10_init_45 ?_
  refine z_icmp_ge (tgt := 69) hx hb (by decide) (by decide) dX10_init_47 (by decide) (fun c9 => absurd c9 (by decide)) (fun _ => ?_)
  refine lv_aload_n hx hb dX10_init_50 rfl (lv_at hl 1 rfl) ?_
  refine y_getr (t := 97) hx hb hts (z_memU u10) hown hK.1 hY f10_1 (by decide) (zkd_of (rfl : zcd wC 96 = 44) rfl) (by first | rfl | simp [tup]) (Or.inl (hts _ (z_mem k233))) dX10_init_51 ?_
  refine lv_iload_n hx hb dX10_init_54 rfl (lv_at hl 0 rfl) ?_
  refine y_new hx hb hts (z_memU u8) tyX8 tyX8_ok hown (hts _ (z_mem k230)) (hts _ (z_mem k37)) (hts _ (z_mem k3)) hK.1 hY hS0 (rfl : vwCl[8]? = some (RX8, TX8, 2)) (by decide) (zkd_of (rfl : zcd wC 115 = 6) rfl) rfl (fun k hk => by rcases (show k = 0 ∨ k = 1 by omega) with rfl | rfl <;> rfl) (Nat.le_of_ble_eq_true rfl) (Nat.le_of_ble_eq_true rfl) dX10_init_55 (fun H hY hS0 => ?_)
  have hY : yS D dA vwCl wC 116 b _ _ H := hY
  refine lv_dup hx hb dX10_init_58 rfl ?_
  refine y_call (va_runIN (As := []) (rest := [.ref (b + 115), .int (iI 7), .ref (b + 97)]) ⟨hx, hb, hml, hown, hts⟩ (mk_Strip l D dA b _ _ 116 115 (by decide) (rfl : zcd wC 115 = 6) (rfl : zcd wC 116 = 7)) ⟨va_cnB 0 hts (z_gN k39) rfl rfl rfl (hK.2 _ (List.mem_of_getElem? (i := 9) rfl)) (hts _ (z_mem k3)) (by decide +kernel) ⟨(Nat.le_of_ble_eq_true rfl), (Nat.le_of_ble_eq_true rfl)⟩, rfl, (hts _ (z_mem k38))⟩ ⟨yP_blind, y_pre hY hK hO⟩ rfl rfl hl.1 rfl (lv_room (Nat.le_of_ble_eq_true rfl)) dX10_init_59 ⟨(Nat.le_of_ble_eq_true rfl), (Nat.le_of_ble_eq_true rfl)⟩) hS0 (fun H locs hY hS0 => ?_)
  have hY : yS D dA vwCl wC 117 b _ _ H := hY
  refine y_aast (t0 := 4) (N := 16) (i := 7) hx hb hK.1 (by decide) (hK.1.2 4 _ rfl).2 (rfl : vwCl[8]? = some (RX8, TX8, 2)) (by decide) hY hS0 (by decide) (zkd_of (rfl : zcd wC 97 = 45) rfl) (zln_of (rfl : zcd wC 97 = 45) rfl) (by decide) (zkd_of (rfl : zcd wC 115 = 6) rfl) (by decide) (by decide) (by decide) dX10_init_62 (fun H locs hY hS0 => ?_)
  refine z_iinc (lv' := [(1, .int (iI (7 + 1))), (0, .ref (b + 96))]) hx hb dX10_init_63 hl (k := 0) rfl (by decide) rfl (fun ls hl => ?_)
  rw [show ((7 + 1) : Int) = 8 from by decide] at hl
  refine lv_goto (tgt := 44) hx hb dX10_init_66 (by decide) ?_
  refine lv_iload_n hx hb dX10_init_44 rfl (lv_at hl 0 rfl) ?_
  refine z_bipush hx hb (by decide) dX10_init_45 ?_
  refine z_icmp_ge (tgt := 69) hx hb (by decide) (by decide) dX10_init_47 (by decide) (fun c9 => absurd c9 (by decide)) (fun _ => ?_)
  refine lv_aload_n hx hb dX10_init_50 rfl (lv_at hl 1 rfl) ?_
  refine y_getr (t := 97) hx hb hts (z_memU u10) hown hK.1 hY f10_1 (by decide) (zkd_of (rfl : zcd wC 96 = 44) rfl) (by first | rfl | simp [tup]) (Or.inl (hts _ (z_mem k233))) dX10_init_51 ?_
  refine lv_iload_n hx hb dX10_init_54 rfl (lv_at hl 0 rfl) ?_
  refine y_new hx hb hts (z_memU u8) tyX8 tyX8_ok hown (hts _ (z_mem k230)) (hts _ (z_mem k37)) (hts _ (z_mem k3)) hK.1 hY hS0 (rfl : vwCl[8]? = some (RX8, TX8, 2)) (by decide) (zkd_of (rfl : zcd wC 117 = 6) rfl) rfl (fun k hk => by rcases (show k = 0 ∨ k = 1 by omega) with rfl | rfl <;> rfl) (Nat.le_of_ble_eq_true rfl) (Nat.le_of_ble_eq_true rfl) dX10_init_55 (fun H hY hS0 => ?_)
  have hY : yS D dA vwCl wC 118 b _ _ H := hY
  refine lv_dup hx hb dX10_init_58 rfl ?_
  refine y_call (va_runIN (As := []) (rest := [.ref (b + 117), .int (iI 8), .ref (b + 97)]) ⟨hx, hb, hml, hown, hts⟩ (mk_Strip l D dA b _ _ 118 117 (by decide) (rfl : zcd wC 117 = 6) (rfl : zcd wC 118 = 7)) ⟨va_cnB 0 hts (z_gN k39) rfl rfl rfl (hK.2 _ (List.mem_of_getElem? (i := 9) rfl)) (hts _ (z_mem k3)) (by decide +kernel) ⟨(Nat.le_of_ble_eq_true rfl), (Nat.le_of_ble_eq_true rfl)⟩, rfl, (hts _ (z_mem k38))⟩ ⟨yP_blind, y_pre hY hK hO⟩ rfl rfl hl.1 rfl (lv_room (Nat.le_of_ble_eq_true rfl)) dX10_init_59 ⟨(Nat.le_of_ble_eq_true rfl), (Nat.le_of_ble_eq_true rfl)⟩) hS0 (fun H locs hY hS0 => ?_)
  have hY : yS D dA vwCl wC 119 b _ _ H := hY
  refine y_aast (t0 := 4) (N := 16) (i := 8) hx hb hK.1 (by decide) (hK.1.2 4 _ rfl).2 (rfl : vwCl[8]? = some (RX8, TX8, 2)) (by decide) hY hS0 (by decide) (zkd_of (rfl : zcd wC 97 = 45) rfl) (zln_of (rfl : zcd wC 97 = 45) rfl) (by decide) (zkd_of (rfl : zcd wC 117 = 6) rfl) (by decide) (by decide) (by decide) dX10_init_62 (fun H locs hY hS0 => ?_)
  refine z_iinc (lv' := [(1, .int (iI (8 + 1))), (0, .ref (b + 96))]) hx hb dX10_init_63 hl (k := 0) rfl (by decide) rfl (fun ls hl => ?_)
  rw [show ((8 + 1) : Int) = 9 from by decide] at hl
  refine lv_goto (tgt := 44) hx hb dX10_init_66 (by decide) ?_
  refine lv_iload_n hx hb dX10_init_44 rfl (lv_at hl 0 rfl) ?_
  refine z_bipush hx hb (by decide) dX10_init_45 ?_
  refine z_icmp_ge (tgt := 69) hx hb (by decide) (by decide) dX10_init_47 (by decide) (fun c9 => absurd c9 (by decide)) (fun _ => ?_)
  refine lv_aload_n hx hb dX10_init_50 rfl (lv_at hl 1 rfl) ?_
  refine y_getr (t := 97) hx hb hts (z_memU u10) hown hK.1 hY f10_1 (by decide) (zkd_of (rfl : zcd wC 96 = 44) rfl) (by first | rfl | simp [tup]) (Or.inl (hts _ (z_mem k233))) dX10_init_51 ?_
  refine lv_iload_n hx hb dX10_init_54 rfl (lv_at hl 0 rfl) ?_
  refine y_new hx hb hts (z_memU u8) tyX8 tyX8_ok hown (hts _ (z_mem k230)) (hts _ (z_mem k37)) (hts _ (z_mem k3)) hK.1 hY hS0 (rfl : vwCl[8]? = some (RX8, TX8, 2)) (by decide) (zkd_of (rfl : zcd wC 119 = 6) rfl) rfl (fun k hk => by rcases (show k = 0 ∨ k = 1 by omega) with rfl | rfl <;> rfl) (Nat.le_of_ble_eq_true rfl) (Nat.le_of_ble_eq_true rfl) dX10_init_55 (fun H hY hS0 => ?_)
  have hY : yS D dA vwCl wC 120 b _ _ H := hY
  refine lv_dup hx hb dX10_init_58 rfl ?_
  refine y_call (va_runIN (As := []) (rest := [.ref (b + 119), .int (iI 9), .ref (b + 97)]) ⟨hx, hb, hml, hown, hts⟩ (mk_Strip l D dA b _ _ 120 119 (by decide) (rfl : zcd wC 119 = 6) (rfl : zcd wC 120 = 7)) ⟨va_cnB 0 hts (z_gN k39) rfl rfl rfl (hK.2 _ (List.mem_of_getElem? (i := 9) rfl)) (hts _ (z_mem k3)) (by decide +kernel) ⟨(Nat.le_of_ble_eq_true rfl), (Nat.le_of_ble_eq_true rfl)⟩, rfl, (hts _ (z_mem k38))⟩ ⟨yP_blind, y_pre hY hK hO⟩ rfl rfl hl.1 rfl (lv_room (Nat.le_of_ble_eq_true rfl)) dX10_init_59 ⟨(Nat.le_of_ble_eq_true rfl), (Nat.le_of_ble_eq_true rfl)⟩) hS0 (fun H locs hY hS0 => ?_)
  have hY : yS D dA vwCl wC 121 b _ _ H := hY
  refine y_aast (t0 := 4) (N := 16) (i := 9) hx hb hK.1 (by decide) (hK.1.2 4 _ rfl).2 (rfl : vwCl[8]? = some (RX8, TX8, 2)) (by decide) hY hS0 (by decide) (zkd_of (rfl : zcd wC 97 = 45) rfl) (zln_of (rfl : zcd wC 97 = 45) rfl) (by decide) (zkd_of (rfl : zcd wC 119 = 6) rfl) (by decide) (by decide) (by decide) dX10_init_62 (fun H locs hY hS0 => ?_)
  refine z_iinc (lv' := [(1, .int (iI (9 + 1))), (0, .ref (b + 96))]) hx hb dX10_init_63 hl (k := 0) rfl (by decide) rfl (fun ls hl => ?_)
  rw [show ((9 + 1) : Int) = 10 from by decide] at hl
  refine lv_goto (tgt := 44) hx hb dX10_init_66 (by decide) ?_
  refine lv_iload_n hx hb dX10_init_44 rfl (lv_at hl 0 rfl) ?_
  refine z_bipush hx hb (by decide) dX10_init_45 ?_
  refine z_icmp_ge (tgt := 69) hx hb (by decide) (by decide) dX10_init_47 (by decide) (fun c9 => absurd c9 (by decide)) (fun _ => ?_)
  refine lv_aload_n hx hb dX10_init_50 rfl (lv_at hl 1 rfl) ?_
  refine y_getr (t := 97) hx hb hts (z_memU u10) hown hK.1 hY f10_1 (by decide) (zkd_of (rfl : zcd wC 96 = 44) rfl) (by first | rfl | simp [tup]) (Or.inl (hts _ (z_mem k233))) dX10_init_51 ?_
  refine lv_iload_n hx hb dX10_init_54 rfl (lv_at hl 0 rfl) ?_
  refine y_new hx hb hts (z_memU u8) tyX8 tyX8_ok hown (hts _ (z_mem k230)) (hts _ (z_mem k37)) (hts _ (z_mem k3)) hK.1 hY hS0 (rfl : vwCl[8]? = some (RX8, TX8, 2)) (by decide) (zkd_of (rfl : zcd wC 121 = 6) rfl) rfl (fun k hk => by rcases (show k = 0 ∨ k = 1 by omega) with rfl | rfl <;> rfl) (Nat.le_of_ble_eq_true rfl) (Nat.le_of_ble_eq_true rfl) dX10_init_55 (fun H hY hS0 => ?_)
  have hY : yS D dA vwCl wC 122 b _ _ H := hY
  refine lv_dup hx hb dX10_init_58 rfl ?_
  refine y_call (va_runIN (As := []) (rest := [.ref (b + 121), .int (iI 10), .ref (b + 97)]) ⟨hx, hb, hml, hown, hts⟩ (mk_Strip l D dA b _ _ 122 121 (by decide) (rfl : zcd wC 121 = 6) (rfl : zcd wC 122 = 7)) ⟨va_cnB 0 hts (z_gN k39) rfl rfl rfl (hK.2 _ (List.mem_of_getElem? (i := 9) rfl)) (hts _ (z_mem k3)) (by decide +kernel) ⟨(Nat.le_of_ble_eq_true rfl), (Nat.le_of_ble_eq_true rfl)⟩, rfl, (hts _ (z_mem k38))⟩ ⟨yP_blind, y_pre hY hK hO⟩ rfl rfl hl.1 rfl (lv_room (Nat.le_of_ble_eq_true rfl)) dX10_init_59 ⟨(Nat.le_of_ble_eq_true rfl), (Nat.le_of_ble_eq_true rfl)⟩) hS0 (fun H locs hY hS0 => ?_)
  have hY : yS D dA vwCl wC 123 b _ _ H := hY
  refine y_aast (t0 := 4) (N := 16) (i := 10) hx hb hK.1 (by decide) (hK.1.2 4 _ rfl).2 (rfl : vwCl[8]? = some (RX8, TX8, 2)) (by decide) hY hS0 (by decide) (zkd_of (rfl : zcd wC 97 = 45) rfl) (zln_of (rfl : zcd wC 97 = 45) rfl) (by decide) (zkd_of (rfl : zcd wC 121 = 6) rfl) (by decide) (by decide) (by decide) dX10_init_62 (fun H locs hY hS0 => ?_)
  refine z_iinc (lv' := [(1, .int (iI (10 + 1))), (0, .ref (b + 96))]) hx hb dX10_init_63 hl (k := 0) rfl (by decide) rfl (fun ls hl => ?_)
  rw [show ((10 + 1) : Int) = 11 from by decide] at hl
  refine lv_goto (tgt := 44) hx hb dX10_init_66 (by decide) ?_
  refine lv_iload_n hx hb dX10_init_44 rfl (lv_at hl 0 rfl) ?_
  refine z_bipush hx hb (by decide) dX10_init_45 ?_
  refine z_icmp_ge (tgt := 69) hx hb (by decide) (by decide) dX10_init_47 (by decide) (fun c9 => absurd c9 (by decide)) (fun _ => ?_)
  refine lv_aload_n hx hb dX10_init_50 rfl (lv_at hl 1 rfl) ?_
  refine y_getr (t := 97) hx hb hts (z_memU u10) hown hK.1 hY f10_1 (by decide) (zkd_of (rfl : zcd wC 96 = 44) rfl) (by first | rfl | simp [tup]) (Or.inl (hts _ (z_mem k233))) dX10_init_51 ?_
  refine lv_iload_n hx hb dX10_init_54 rfl (lv_at hl 0 rfl) ?_
  refine y_new hx hb hts (z_memU u8) tyX8 tyX8_ok hown (hts _ (z_mem k230)) (hts _ (z_mem k37)) (hts _ (z_mem k3)) hK.1 hY hS0 (rfl : vwCl[8]? = some (RX8, TX8, 2)) (by decide) (zkd_of (rfl : zcd wC 123 = 6) rfl) rfl (fun k hk => by rcases (show k = 0 ∨ k = 1 by omega) with rfl | rfl <;> rfl) (Nat.le_of_ble_eq_true rfl) (Nat.le_of_ble_eq_true rfl) dX10_init_55 (fun H hY hS0 => ?_)
  have hY : yS D dA vwCl wC 124 b _ _ H := hY
  refine lv_dup hx hb dX10_init_58 rfl ?_
  refine y_call (va_runIN (As := []) (rest := [.ref (b + 123), .int (iI 11), .ref (b + 97)]) ⟨hx, hb, hml, hown, hts⟩ (mk_Strip l D dA b _ _ 124 123 (by decide) (rfl : zcd wC 123 = 6) (rfl : zcd wC 124 = 7)) ⟨va_cnB 0 hts (z_gN k39) rfl rfl rfl (hK.2 _ (List.mem_of_getElem? (i := 9) rfl)) (hts _ (z_mem k3)) (by decide +kernel) ⟨(Nat.le_of_ble_eq_true rfl), (Nat.le_of_ble_eq_true rfl)⟩, rfl, (hts _ (z_mem k38))⟩ ⟨yP_blind, y_pre hY hK hO⟩ rfl rfl hl.1 rfl (lv_room (Nat.le_of_ble_eq_true rfl)) dX10_init_59 ⟨(Nat.le_of_ble_eq_true rfl), (Nat.le_of_ble_eq_true rfl)⟩) hS0 (fun H locs hY hS0 => ?_)
  have hY : yS D dA vwCl wC 125 b _ _ H := hY
  refine y_aast (t0 := 4) (N := 16) (i := 11) hx hb hK.1 (by decide) (hK.1.2 4 _ rfl).2 (rfl : vwCl[8]? = some (RX8, TX8, 2)) (by decide) hY hS0 (by decide) (zkd_of (rfl : zcd wC 97 = 45) rfl) (zln_of (rfl : zcd wC 97 = 45) rfl) (by decide) (zkd_of (rfl : zcd wC 123 = 6) rfl) (by decide) (by decide) (by decide) dX10_init_62 (fun H locs hY hS0 => ?_)
  refine z_iinc (lv' := [(1, .int (iI (11 + 1))), (0, .ref (b + 96))]) hx hb dX10_init_63 hl (k := 0) rfl (by decide) rfl (fun ls hl => ?_)
  rw [show ((11 + 1) : Int) = 12 from by decide] at hl
  refine lv_goto (tgt := 44) hx hb dX10_init_66 (by decide) ?_
  refine lv_iload_n hx hb dX10_init_44 rfl (lv_at hl 0 rfl) ?_
  refine z_bipush hx hb (by decide) dX10_init_45 ?_
  refine z_icmp_ge (tgt := 69) hx hb (by decide) (by decide) dX10_init_47 (by decide) (fun c9 => absurd c9 (by decide)) (fun _ => ?_)
  refine lv_aload_n hx hb dX10_init_50 rfl (lv_at hl 1 rfl) ?_
  refine y_getr (t := 97) hx hb hts (z_memU u10) hown hK.1 hY f10_1 (by decide) (zkd_of (rfl : zcd wC 96 = 44) rfl) (by first | rfl | simp [tup]) (Or.inl (hts _ (z_mem k233))) dX10_init_51 ?_
  refine lv_iload_n hx hb dX10_init_54 rfl (lv_at hl 0 rfl) ?_
  refine y_new hx hb hts (z_memU u8) tyX8 tyX8_ok hown (hts _ (z_mem k230)) (hts _ (z_mem k37)) (hts _ (z_mem k3)) hK.1 hY hS0 (rfl : vwCl[8]? = some (RX8, TX8, 2)) (by decide) (zkd_of (rfl : zcd wC 125 = 6) rfl) rfl (fun k hk => by rcases (show k = 0 ∨ k = 1 by omega) with rfl | rfl <;> rfl) (Nat.le_of_ble_eq_true rfl) (Nat.le_of_ble_eq_true rfl) dX10_init_55 (fun H hY hS0 => ?_)
  have hY : yS D dA vwCl wC 126 b _ _ H := hY
  refine lv_dup hx hb dX10_init_58 rfl ?_
  refine y_call (va_runIN (As := []) (rest := [.ref (b + 125), .int (iI 12), .ref (b + 97)]) ⟨hx, hb, hml, hown, hts⟩ (mk_Strip l D dA b _ _ 126 125 (by decide) (rfl : zcd wC 125 = 6) (rfl : zcd wC 126 = 7)) ⟨va_cnB 0 hts (z_gN k39) rfl rfl rfl (hK.2 _ (List.mem_of_getElem? (i := 9) rfl)) (hts _ (z_mem k3)) (by decide +kernel) ⟨(Nat.le_of_ble_eq_true rfl), (Nat.le_of_ble_eq_true rfl)⟩, rfl, (hts _ (z_mem k38))⟩ ⟨yP_blind, y_pre hY hK hO⟩ rfl rfl hl.1 rfl (lv_room (Nat.le_of_ble_eq_true rfl)) dX10_init_59 ⟨(Nat.le_of_ble_eq_true rfl), (Nat.le_of_ble_eq_true rfl)⟩) hS0 (fun H locs hY hS0 => ?_)
  have hY : yS D dA vwCl wC 127 b _ _ H := hY
  refine y_aast (t0 := 4) (N := 16) (i := 12) hx hb hK.1 (by decide) (hK.1.2 4 _ rfl).2 (rfl : vwCl[8]? = some (RX8, TX8, 2)) (by decide) hY hS0 (by decide) (zkd_of (rfl : zcd wC 97 = 45) rfl) (zln_of (rfl : zcd wC 97 = 45) rfl) (by decide) (zkd_of (rfl : zcd wC 125 = 6) rfl) (by decide) (by decide) (by decide) dX10_init_62 (fun H locs hY hS0 => ?_)
  refine z_iinc (lv' := [(1, .int (iI (12 + 1))), (0, .ref (b + 96))]) hx hb dX10_init_63 hl (k := 0) rfl (by decide) rfl (fun ls hl => ?_)
  rw [show ((12 + 1) : Int) = 13 from by decide] at hl
  refine lv_goto (tgt := 44) hx hb dX10_init_66 (by decide) ?_
  refine lv_iload_n hx hb dX10_init_44 rfl (lv_at hl 0 rfl) ?_
  refine z_bipush hx hb (by decide) dX10_init_45 ?_
  refine z_icmp_ge (tgt := 69) hx hb (by decide) (by decide) dX10_init_47 (by decide) (fun c9 => absurd c9 (by decide)) (fun _ => ?_)
  refine lv_aload_n hx hb dX10_init_50 rfl (lv_at hl 1 rfl) ?_
  refine y_getr (t := 97) hx hb hts (z_memU u10) hown hK.1 hY f10_1 (by decide) (zkd_of (rfl : zcd wC 96 = 44) rfl) (by first | rfl | simp [tup]) (Or.inl (hts _ (z_mem k233))) dX10_init_51 ?_
  refine lv_iload_n hx hb dX10_init_54 rfl (lv_at hl 0 rfl) ?_
  refine y_new hx hb hts (z_memU u8) tyX8 tyX8_ok hown (hts _ (z_mem k230)) (hts _ (z_mem k37)) (hts _ (z_mem k3)) hK.1 hY hS0 (rfl : vwCl[8]? = some (RX8, TX8, 2)) (by decide) (zkd_of (rfl : zcd wC 127 = 6) rfl) rfl (fun k hk => by rcases (show k = 0 ∨ k = 1 by omega) with rfl | rfl <;> rfl) (Nat.le_of_ble_eq_true rfl) (Nat.le_of_ble_eq_true rfl) dX10_init_55 (fun H hY hS0 => ?_)
  have hY : yS D dA vwCl wC 128 b _ _ H := hY
  refine lv_dup hx hb dX10_init_58 rfl ?_
  refine y_call (va_runIN (As := []) (rest := [.ref (b + 127), .int (iI 13), .ref (b + 97)]) ⟨hx, hb, hml, hown, hts⟩ (mk_Strip l D dA b _ _ 128 127 (by decide) (rfl : zcd wC 127 = 6) (rfl : zcd wC 128 = 7)) ⟨va_cnB 0 hts (z_gN k39) rfl rfl rfl (hK.2 _ (List.mem_of_getElem? (i := 9) rfl)) (hts _ (z_mem k3)) (by decide +kernel) ⟨(Nat.le_of_ble_eq_true rfl), (Nat.le_of_ble_eq_true rfl)⟩, rfl, (hts _ (z_mem k38))⟩ ⟨yP_blind, y_pre hY hK hO⟩ rfl rfl hl.1 rfl (lv_room (Nat.le_of_ble_eq_true rfl)) dX10_init_59 ⟨(Nat.le_of_ble_eq_true rfl), (Nat.le_of_ble_eq_true rfl)⟩) hS0 (fun H locs hY hS0 => ?_)
  have hY : yS D dA vwCl wC 129 b _ _ H := hY
  refine y_aast (t0 := 4) (N := 16) (i := 13) hx hb hK.1 (by decide) (hK.1.2 4 _ rfl).2 (rfl : vwCl[8]? = some (RX8, TX8, 2)) (by decide) hY hS0 (by decide) (zkd_of (rfl : zcd wC 97 = 45) rfl) (zln_of (rfl : zcd wC 97 = 45) rfl) (by decide) (zkd_of (rfl : zcd wC 127 = 6) rfl) (by decide) (by decide) (by decide) dX10_init_62 (fun H locs hY hS0 => ?_)
  refine z_iinc (lv' := [(1, .int (iI (13 + 1))), (0, .ref (b + 96))]) hx hb dX10_init_63 hl (k := 0) rfl (by decide) rfl (fun ls hl => ?_)
  rw [show ((13 + 1) : Int) = 14 from by decide] at hl
  refine lv_goto (tgt := 44) hx hb dX10_init_66 (by decide) ?_
  refine lv_iload_n hx hb dX10_init_44 rfl (lv_at hl 0 rfl) ?_
  refine z_bipush hx hb (by decide) dX10_init_45 ?_
  refine z_icmp_ge (tgt := 69) hx hb (by decide) (by decide) dX10_init_47 (by decide) (fun c9 => absurd c9 (by decide)) (fun _ => ?_)
  refine lv_aload_n hx hb dX10_init_50 rfl (lv_at hl 1 rfl) ?_
  refine y_getr (t := 97) hx hb hts (z_memU u10) hown hK.1 hY f10_1 (by decide) (zkd_of (rfl : zcd wC 96 = 44) rfl) (by first | rfl | simp [tup]) (Or.inl (hts _ (z_mem k233))) dX10_init_51 ?_
  refine lv_iload_n hx hb dX10_init_54 rfl (lv_at hl 0 rfl) ?_
  refine y_new hx hb hts (z_memU u8) tyX8 tyX8_ok hown (hts _ (z_mem k230)) (hts _ (z_mem k37)) (hts _ (z_mem k3)) hK.1 hY hS0 (rfl : vwCl[8]? = some (RX8, TX8, 2)) (by decide) (zkd_of (rfl : zcd wC 129 = 6) rfl) rfl (fun k hk => by rcases (show k = 0 ∨ k = 1 by omega) with rfl | rfl <;> rfl) (Nat.le_of_ble_eq_true rfl) (Nat.le_of_ble_eq_true rfl) dX10_init_55 (fun H hY hS0 => ?_)
  have hY : yS D dA vwCl wC 130 b _ _ H := hY
  refine lv_dup hx hb dX10_init_58 rfl ?_
  refine y_call (va_runIN (As := []) (rest := [.ref (b + 129), .int (iI 14), .ref (b + 97)]) ⟨hx, hb, hml, hown, hts⟩ (mk_Strip l D dA b _ _ 130 129 (by decide) (rfl : zcd wC 129 = 6) (rfl : zcd wC 130 = 7)) ⟨va_cnB 0 hts (z_gN k39) rfl rfl rfl (hK.2 _ (List.mem_of_getElem? (i := 9) rfl)) (hts _ (z_mem k3)) (by decide +kernel) ⟨(Nat.le_of_ble_eq_true rfl), (Nat.le_of_ble_eq_true rfl)⟩, rfl, (hts _ (z_mem k38))⟩ ⟨yP_blind, y_pre hY hK hO⟩ rfl rfl hl.1 rfl (lv_room (Nat.le_of_ble_eq_true rfl)) dX10_init_59 ⟨(Nat.le_of_ble_eq_true rfl), (Nat.le_of_ble_eq_true rfl)⟩) hS0 (fun H locs hY hS0 => ?_)
  have hY : yS D dA vwCl wC 131 b _ _ H := hY
  refine y_aast (t0 := 4) (N := 16) (i := 14) hx hb hK.1 (by decide) (hK.1.2 4 _ rfl).2 (rfl : vwCl[8]? = some (RX8, TX8, 2)) (by decide) hY hS0 (by decide) (zkd_of (rfl : zcd wC 97 = 45) rfl) (zln_of (rfl : zcd wC 97 = 45) rfl) (by decide) (zkd_of (rfl : zcd wC 129 = 6) rfl) (by decide) (by decide) (by decide) dX10_init_62 (fun H locs hY hS0 => ?_)
  refine z_iinc (lv' := [(1, .int (iI (14 + 1))), (0, .ref (b + 96))]) hx hb dX10_init_63 hl (k := 0) rfl (by decide) rfl (fun ls hl => ?_)
  rw [show ((14 + 1) : Int) = 15 from by decide] at hl
  refine lv_goto (tgt := 44) hx hb dX10_init_66 (by decide) ?_
  refine lv_iload_n hx hb dX10_init_44 rfl (lv_at hl 0 rfl) ?_
  refine z_bipush hx hb (by decide) dX10_init_45 ?_
  refine z_icmp_ge (tgt := 69) hx hb (by decide) (by decide) dX10_init_47 (by decide) (fun c9 => absurd c9 (by decide)) (fun _ => ?_)
  refine lv_aload_n hx hb dX10_init_50 rfl (lv_at hl 1 rfl) ?_
  refine y_getr (t := 97) hx hb hts (z_memU u10) hown hK.1 hY f10_1 (by decide) (zkd_of (rfl : zcd wC 96 = 44) rfl) (by first | rfl | simp [tup]) (Or.inl (hts _ (z_mem k233))) dX10_init_51 ?_
  refine lv_iload_n hx hb dX10_init_54 rfl (lv_at hl 0 rfl) ?_
  refine y_new hx hb hts (z_memU u8) tyX8 tyX8_ok hown (hts _ (z_mem k230)) (hts _ (z_mem k37)) (hts _ (z_mem k3)) hK.1 hY hS0 (rfl : vwCl[8]? = some (RX8, TX8, 2)) (by decide) (zkd_of (rfl : zcd wC 131 = 6) rfl) rfl (fun k hk => by rcases (show k = 0 ∨ k = 1 by omega) with rfl | rfl <;> rfl) (Nat.le_of_ble_eq_true rfl) (Nat.le_of_ble_eq_true rfl) dX10_init_55 (fun H hY hS0 => ?_)
  have hY : yS D dA vwCl wC 132 b _ _ H := hY
  refine lv_dup hx hb dX10_init_58 rfl ?_
  refine y_call (va_runIN (As := []) (rest := [.ref (b + 131), .int (iI 15), .ref (b + 97)]) ⟨hx, hb, hml, hown, hts⟩ (mk_Strip l D dA b _ _ 132 131 (by decide) (rfl : zcd wC 131 = 6) (rfl : zcd wC 132 = 7)) ⟨va_cnB 0 hts (z_gN k39) rfl rfl rfl (hK.2 _ (List.mem_of_getElem? (i := 9) rfl)) (hts _ (z_mem k3)) (by decide +kernel) ⟨(Nat.le_of_ble_eq_true rfl), (Nat.le_of_ble_eq_true rfl)⟩, rfl, (hts _ (z_mem k38))⟩ ⟨yP_blind, y_pre hY hK hO⟩ rfl rfl hl.1 rfl (lv_room (Nat.le_of_ble_eq_true rfl)) dX10_init_59 ⟨(Nat.le_of_ble_eq_true rfl), (Nat.le_of_ble_eq_true rfl)⟩) hS0 (fun H locs hY hS0 => ?_)
  have hY : yS D dA vwCl wC 133 b _ _ H := hY
  refine y_aast (t0 := 4) (N := 16) (i := 15) hx hb hK.1 (by decide) (hK.1.2 4 _ rfl).2 (rfl : vwCl[8]? = some (RX8, TX8, 2)) (by decide) hY hS0 (by decide) (zkd_of (rfl : zcd wC 97 = 45) rfl) (zln_of (rfl : zcd wC 97 = 45) rfl) (by decide) (zkd_of (rfl : zcd wC 131 = 6) rfl) (by decide) (by decide) (by decide) dX10_init_62 (fun H locs hY hS0 => ?_)
  refine z_iinc (lv' := [(1, .int (iI (15 + 1))), (0, .ref (b + 96))]) hx hb dX10_init_63 hl (k := 0) rfl (by decide) rfl (fun ls hl => ?_)
  rw [show ((15 + 1) : Int) = 16 from by decide] at hl
  refine lv_goto (tgt := 44) hx hb dX10_init_66 (by decide) ?_
  refine lv_iload_n hx hb dX10_init_44 rfl (lv_at hl 0 rfl) ?_
  refine z_bipush hx hb (by decide) dX10_init_45 ?_
  refine z_icmp_ge (tgt := 69) hx hb (by decide) (by decide) dX10_init_47 (by decide) (fun _ => ?_) (fun c9 => absurd c9 (by decide))
  exact y_ret hx hb hr hlocks hY hS0 dX10_init_69
def mT_C0 (T : zT) : zT := (tup (tup (mT_C96 (tup (mT_C86 (tup (mT_C82 (tup (mT_C78 (tup (mT_C60 (tup (mT_C57 (tup (mT_C32 (tup (tup (tup (mT_C1 T) 0 0 1) 30 0 31) 0 1 30)) 0 2 32)) 0 3 57)) 0 4 60)) 0 5 78)) 0 6 82)) 0 7 86)) 0 8 96) 0 9 133)
def mM_C0 (M : zM) : zM := (zup (mM_C96 (mM_C86 (mM_C82 (mM_C78 (mM_C60 (mM_C57 (mM_C32 (zup (mM_C1 M) 30 1 0)))))))) 0 10 0)
set_option maxHeartbeats 4000000 in
set_option maxRecDepth 100000 in
theorem mk_C0 (l : Launch) (D : va_G) (dA : Nat → ClassId) (b : Nat) (M : zM) (T : zT) : Met l yX11_init (.code yX11_init cX11_init 1 none :: zt) (y_rm 4 133 7217) (va_Pc [.ref (b + 0)] (yP D dA vwCl (z_tys dA) wC 1 b M T)) (va_Qv (fun _ => True) (yB D dA vwCl wC 134 b (mM_C0 M) (mT_C0 T)) (yA b)) 133 7217 (yA b) := by
  refine Met.ofW (cc := cX11_init) (maxL := 1) (ret := none) (by decide) rfl ?_
  intro p e s m args below meth c s₁ B hml hv
  obtain ⟨hargs, hY, hK, hO⟩ := hv
  have hx := B.exec
  have hb := B.bytes
  have hr := B.returns
  have hts := atoms_spec (ws := .code yX11_init cX11_init 1 none :: zt) B.pre
  have hown : s.vm.findClass RX11 = some m.cls := findClass_of_methodNamed B.named
  have hlocks := B.notSynchronized
  have hin : meth.name = "<init>" := (name_of_methodNamed B.named B.method).1
  have hS0 : va_S (yA b) s.heap s.heap [] := va_S.rf
  have hl := lv_entry ([.ref (b + 0)]) (n := 1) (Nat.le_of_ble_eq_true rfl)
  have hent : entryFrame m args 1 = F0 m 0 ((lg_sl ([.ref (b + 0)]) ++ List.replicate (1 - (lg_sl ([.ref (b + 0)])).length) Slot.unset).toArray) [] := by rw [hargs]; exact lg_entry_eq m ([.ref (b + 0)]) 1
  rw [hent]
  generalize (lg_sl ([.ref (b + 0)]) ++ List.replicate (1 - (lg_sl ([.ref (b + 0)])).length) Slot.unset).toArray = ls at hl ⊢
  have hl : lv_has ls 1 [(0, .ref (b + 0))] := hl
  refine lv_aload_n hx hb dX11_init_0 rfl (lv_at hl 0 rfl) ?_
  refine W.objInit hx hb hown (hts _ (z_mem k27)) (hts _ (z_mem k28)) (hts _ (z_mem k29)) rfl (by rw [hml]; exact hl.1) rfl dX11_init_1 (Nat.le_of_ble_eq_true rfl) (Nat.le_of_ble_eq_true rfl) ?_
  refine W.eq (g2 := F0 m 4 ls []) rfl ?_
  refine lv_aload_n hx hb dX11_init_4 rfl (lv_at hl 0 rfl) ?_
  refine y_new hx hb hts (z_memU u7) tyX7 tyX7_ok hown (hts _ (z_mem k30)) (hts _ (z_mem k31)) (hts _ (z_mem k2)) hK.1 hY hS0 (rfl : vwCl[7]? = some (RX7, TX7, 7)) (by decide) (zkd_of (rfl : zcd wC 1 = 1) rfl) rfl (fun k hk => by rcases (show k = 0 ∨ k = 1 ∨ k = 2 ∨ k = 3 ∨ k = 4 ∨ k = 5 ∨ k = 6 by omega) with rfl | rfl | rfl | rfl | rfl | rfl | rfl <;> rfl) (Nat.le_of_ble_eq_true rfl) (Nat.le_of_ble_eq_true rfl) dX11_init_5 (fun H hY hS0 => ?_)
  have hY : yS D dA vwCl wC 2 b _ _ H := hY
  refine lv_dup hx hb dX11_init_8 rfl ?_
  refine y_call (va_runI (As := []) (rest := [.ref (b + 1), .ref (b + 0)]) ⟨hx, hb, hml, hown, hts⟩ (mk_C1 l D dA b _ _) (cwI 0 hts (z_gN k34) rfl rfl rfl (hts _ (z_mem k2)) (hts _ (z_mem k32)) (hts _ (z_mem k33)) rfl (by decide +kernel) ⟨(Nat.le_of_ble_eq_true rfl), (Nat.le_of_ble_eq_true rfl)⟩) ⟨yP_blind, y_pre hY hK hO⟩ rfl rfl hl.1 rfl (lv_room (Nat.le_of_ble_eq_true rfl)) dX11_init_9 ⟨(Nat.le_of_ble_eq_true rfl), (Nat.le_of_ble_eq_true rfl)⟩) hS0 (fun H locs hY hS0 => ?_)
  have hY : yS D dA vwCl wC 30 b _ _ H := hY
  refine y_putrF (t := 1) hx hb hts (z_memU u11) tyX11 tyX11_ok nmX11 hown hK.1 hY hS0 f11_0 (by decide) (zkd_of (rfl : zcd wC 0 = 0) rfl) (hts _ (z_mem k242)) rfl hin rfl (tyX11_ok 0 (by decide)) (fun _ => rfl) (fun _ => rfl) dX11_init_12 (fun H locs hY hS0 => ?_)
  refine lv_aload_n hx hb dX11_init_15 rfl (lv_at hl 0 rfl) ?_
  refine y_new hx hb hts (z_memU u8) tyX8 tyX8_ok hown (hts _ (z_mem k69)) (hts _ (z_mem k37)) (hts _ (z_mem k3)) hK.1 hY hS0 (rfl : vwCl[8]? = some (RX8, TX8, 2)) (by decide) (zkd_of (rfl : zcd wC 30 = 6) rfl) rfl (fun k hk => by rcases (show k = 0 ∨ k = 1 by omega) with rfl | rfl <;> rfl) (Nat.le_of_ble_eq_true rfl) (Nat.le_of_ble_eq_true rfl) dX11_init_16 (fun H hY hS0 => ?_)
  have hY : yS D dA vwCl wC 31 b _ _ H := hY
  refine lv_dup hx hb dX11_init_19 rfl ?_
  refine y_call (va_runIN (As := []) (rest := [.ref (b + 30), .ref (b + 0)]) ⟨hx, hb, hml, hown, hts⟩ (mk_Strip l D dA b _ _ 31 30 (by decide) (rfl : zcd wC 30 = 6) (rfl : zcd wC 31 = 7)) ⟨va_cnB 0 hts (z_gN k39) rfl rfl rfl (hK.2 _ (List.mem_of_getElem? (i := 1) rfl)) (hts _ (z_mem k3)) (by decide +kernel) ⟨(Nat.le_of_ble_eq_true rfl), (Nat.le_of_ble_eq_true rfl)⟩, rfl, (hts _ (z_mem k38))⟩ ⟨yP_blind, y_pre hY hK hO⟩ rfl rfl hl.1 rfl (lv_room (Nat.le_of_ble_eq_true rfl)) dX11_init_20 ⟨(Nat.le_of_ble_eq_true rfl), (Nat.le_of_ble_eq_true rfl)⟩) hS0 (fun H locs hY hS0 => ?_)
  have hY : yS D dA vwCl wC 32 b _ _ H := hY
  refine y_putrF (t := 30) hx hb hts (z_memU u11) tyX11 tyX11_ok nmX11 hown hK.1 hY hS0 f11_1 (by decide) (zkd_of (rfl : zcd wC 0 = 0) rfl) (hts _ (z_mem k243)) rfl hin rfl (tyX11_ok 1 (by decide)) (fun _ => rfl) (fun _ => rfl) dX11_init_23 (fun H locs hY hS0 => ?_)
  refine lv_aload_n hx hb dX11_init_26 rfl (lv_at hl 0 rfl) ?_
  refine y_new hx hb hts (z_memU u9) tyX9 tyX9_ok hown (hts _ (z_mem k70)) (hts _ (z_mem k71)) (hts _ (z_mem k4)) hK.1 hY hS0 (rfl : vwCl[9]? = some (RX9, TX9, 3)) (by decide) (zkd_of (rfl : zcd wC 32 = 8) rfl) rfl (fun k hk => by rcases (show k = 0 ∨ k = 1 ∨ k = 2 by omega) with rfl | rfl | rfl <;> rfl) (Nat.le_of_ble_eq_true rfl) (Nat.le_of_ble_eq_true rfl) dX11_init_27 (fun H hY hS0 => ?_)
  have hY : yS D dA vwCl wC 33 b _ _ H := hY
  refine lv_dup hx hb dX11_init_30 rfl ?_
  refine y_call (va_runI (As := []) (rest := [.ref (b + 32), .ref (b + 0)]) ⟨hx, hb, hml, hown, hts⟩ (mk_C32 l D dA b _ _) (cwI 0 hts (z_gN k74) rfl rfl rfl (hts _ (z_mem k4)) (hts _ (z_mem k72)) (hts _ (z_mem k73)) rfl (by decide +kernel) ⟨(Nat.le_of_ble_eq_true rfl), (Nat.le_of_ble_eq_true rfl)⟩) ⟨yP_blind, y_pre hY hK hO⟩ rfl rfl hl.1 rfl (lv_room (Nat.le_of_ble_eq_true rfl)) dX11_init_31 ⟨(Nat.le_of_ble_eq_true rfl), (Nat.le_of_ble_eq_true rfl)⟩) hS0 (fun H locs hY hS0 => ?_)
  have hY : yS D dA vwCl wC 57 b _ _ H := hY
  refine y_putrF (t := 32) hx hb hts (z_memU u11) tyX11 tyX11_ok nmX11 hown hK.1 hY hS0 f11_2 (by decide) (zkd_of (rfl : zcd wC 0 = 0) rfl) (hts _ (z_mem k244)) rfl hin rfl (tyX11_ok 2 (by decide)) (fun _ => rfl) (fun _ => rfl) dX11_init_34 (fun H locs hY hS0 => ?_)
  refine lv_aload_n hx hb dX11_init_37 rfl (lv_at hl 0 rfl) ?_
  refine y_new hx hb hts (z_memU u1) tyX1 tyX1_ok hown (hts _ (z_mem k124)) (hts _ (z_mem k125)) (hts _ (z_mem k7)) hK.1 hY hS0 (rfl : vwCl[1]? = some (RX1, TX1, 4)) (by decide) (zkd_of (rfl : zcd wC 57 = 16) rfl) rfl (fun k hk => by rcases (show k = 0 ∨ k = 1 ∨ k = 2 ∨ k = 3 by omega) with rfl | rfl | rfl | rfl <;> rfl) (Nat.le_of_ble_eq_true rfl) (Nat.le_of_ble_eq_true rfl) dX11_init_38 (fun H hY hS0 => ?_)
  have hY : yS D dA vwCl wC 58 b _ _ H := hY
  refine lv_dup hx hb dX11_init_41 rfl ?_
  refine y_call (va_runIN (As := []) (rest := [.ref (b + 57), .ref (b + 0)]) ⟨hx, hb, hml, hown, hts⟩ (mk_C57 l D dA b _ _) ⟨va_cnB 0 hts (z_gN k127) rfl rfl rfl (hK.2 _ (List.mem_of_getElem? (i := 5) rfl)) (hts _ (z_mem k7)) (by decide +kernel) ⟨(Nat.le_of_ble_eq_true rfl), (Nat.le_of_ble_eq_true rfl)⟩, rfl, (hts _ (z_mem k126))⟩ ⟨yP_blind, y_pre hY hK hO⟩ rfl rfl hl.1 rfl (lv_room (Nat.le_of_ble_eq_true rfl)) dX11_init_42 ⟨(Nat.le_of_ble_eq_true rfl), (Nat.le_of_ble_eq_true rfl)⟩) hS0 (fun H locs hY hS0 => ?_)
  have hY : yS D dA vwCl wC 60 b _ _ H := hY
  refine y_putrF (t := 57) hx hb hts (z_memU u11) tyX11 tyX11_ok nmX11 hown hK.1 hY hS0 f11_3 (by decide) (zkd_of (rfl : zcd wC 0 = 0) rfl) (hts _ (z_mem k245)) rfl hin rfl (tyX11_ok 3 (by decide)) (fun _ => rfl) (fun _ => rfl) dX11_init_45 (fun H locs hY hS0 => ?_)
  refine lv_aload_n hx hb dX11_init_48 rfl (lv_at hl 0 rfl) ?_
  refine y_new hx hb hts (z_memU u5) tyX5 tyX5_ok hown (hts _ (z_mem k137)) (hts _ (z_mem k138)) (hts _ (z_mem k8)) hK.1 hY hS0 (rfl : vwCl[5]? = some (RX5, TX5, 9)) (by decide) (zkd_of (rfl : zcd wC 60 = 19) rfl) rfl (fun k hk => by rcases (show k = 0 ∨ k = 1 ∨ k = 2 ∨ k = 3 ∨ k = 4 ∨ k = 5 ∨ k = 6 ∨ k = 7 ∨ k = 8 by omega) with rfl | rfl | rfl | rfl | rfl | rfl | rfl | rfl | rfl <;> rfl) (Nat.le_of_ble_eq_true rfl) (Nat.le_of_ble_eq_true rfl) dX11_init_49 (fun H hY hS0 => ?_)
  have hY : yS D dA vwCl wC 61 b _ _ H := hY
  refine lv_dup hx hb dX11_init_52 rfl ?_
  refine y_call (va_runIN (As := []) (rest := [.ref (b + 60), .ref (b + 0)]) ⟨hx, hb, hml, hown, hts⟩ (mk_C60 l D dA b _ _) ⟨va_cnB 0 hts (z_gN k140) rfl rfl rfl (hK.2 _ (List.mem_of_getElem? (i := 6) rfl)) (hts _ (z_mem k8)) (by decide +kernel) ⟨(Nat.le_of_ble_eq_true rfl), (Nat.le_of_ble_eq_true rfl)⟩, rfl, (hts _ (z_mem k139))⟩ ⟨yP_blind, y_pre hY hK hO⟩ rfl rfl hl.1 rfl (lv_room (Nat.le_of_ble_eq_true rfl)) dX11_init_53 ⟨(Nat.le_of_ble_eq_true rfl), (Nat.le_of_ble_eq_true rfl)⟩) hS0 (fun H locs hY hS0 => ?_)
  have hY : yS D dA vwCl wC 78 b _ _ H := hY
  refine y_putrF (t := 60) hx hb hts (z_memU u11) tyX11 tyX11_ok nmX11 hown hK.1 hY hS0 f11_4 (by decide) (zkd_of (rfl : zcd wC 0 = 0) rfl) (hts _ (z_mem k246)) rfl hin rfl (tyX11_ok 4 (by decide)) (fun _ => rfl) (fun _ => rfl) dX11_init_56 (fun H locs hY hS0 => ?_)
  refine lv_aload_n hx hb dX11_init_59 rfl (lv_at hl 0 rfl) ?_
  refine y_new hx hb hts (z_memU u0) tyX0 tyX0_ok hown (hts _ (z_mem k163)) (hts _ (z_mem k164)) (hts _ (z_mem k9)) hK.1 hY hS0 (rfl : vwCl[0]? = some (RX0, TX0, 8)) (by decide) (zkd_of (rfl : zcd wC 78 = 30) rfl) rfl (fun k hk => by rcases (show k = 0 ∨ k = 1 ∨ k = 2 ∨ k = 3 ∨ k = 4 ∨ k = 5 ∨ k = 6 ∨ k = 7 by omega) with rfl | rfl | rfl | rfl | rfl | rfl | rfl | rfl <;> rfl) (Nat.le_of_ble_eq_true rfl) (Nat.le_of_ble_eq_true rfl) dX11_init_60 (fun H hY hS0 => ?_)
  have hY : yS D dA vwCl wC 79 b _ _ H := hY
  refine lv_dup hx hb dX11_init_63 rfl ?_
  refine y_call (va_runI (As := []) (rest := [.ref (b + 78), .ref (b + 0)]) ⟨hx, hb, hml, hown, hts⟩ (mk_C78 l D dA b _ _) (cwI 0 hts (z_gN k167) rfl rfl rfl (hts _ (z_mem k9)) (hts _ (z_mem k165)) (hts _ (z_mem k166)) rfl (by decide +kernel) ⟨(Nat.le_of_ble_eq_true rfl), (Nat.le_of_ble_eq_true rfl)⟩) ⟨yP_blind, y_pre hY hK hO⟩ rfl rfl hl.1 rfl (lv_room (Nat.le_of_ble_eq_true rfl)) dX11_init_64 ⟨(Nat.le_of_ble_eq_true rfl), (Nat.le_of_ble_eq_true rfl)⟩) hS0 (fun H locs hY hS0 => ?_)
  have hY : yS D dA vwCl wC 82 b _ _ H := hY
  refine y_putrF (t := 78) hx hb hts (z_memU u11) tyX11 tyX11_ok nmX11 hown hK.1 hY hS0 f11_5 (by decide) (zkd_of (rfl : zcd wC 0 = 0) rfl) (hts _ (z_mem k247)) rfl hin rfl (tyX11_ok 5 (by decide)) (fun _ => rfl) (fun _ => rfl) dX11_init_67 (fun H locs hY hS0 => ?_)
  refine lv_aload_n hx hb dX11_init_70 rfl (lv_at hl 0 rfl) ?_
  refine y_new hx hb hts (z_memU u3) tyX3 tyX3_ok hown (hts _ (z_mem k190)) (hts _ (z_mem k191)) (hts _ (z_mem k11)) hK.1 hY hS0 (rfl : vwCl[3]? = some (RX3, TX3, 4)) (by decide) (zkd_of (rfl : zcd wC 82 = 34) rfl) rfl (fun k hk => by rcases (show k = 0 ∨ k = 1 ∨ k = 2 ∨ k = 3 by omega) with rfl | rfl | rfl | rfl <;> rfl) (Nat.le_of_ble_eq_true rfl) (Nat.le_of_ble_eq_true rfl) dX11_init_71 (fun H hY hS0 => ?_)
  have hY : yS D dA vwCl wC 83 b _ _ H := hY
  refine lv_dup hx hb dX11_init_74 rfl ?_
  refine y_call (va_runIN (As := []) (rest := [.ref (b + 82), .ref (b + 0)]) ⟨hx, hb, hml, hown, hts⟩ (mk_C82 l D dA b _ _) ⟨va_cnB 0 hts (z_gN k193) rfl rfl rfl (hK.2 _ (List.mem_of_getElem? (i := 7) rfl)) (hts _ (z_mem k11)) (by decide +kernel) ⟨(Nat.le_of_ble_eq_true rfl), (Nat.le_of_ble_eq_true rfl)⟩, rfl, (hts _ (z_mem k192))⟩ ⟨yP_blind, y_pre hY hK hO⟩ rfl rfl hl.1 rfl (lv_room (Nat.le_of_ble_eq_true rfl)) dX11_init_75 ⟨(Nat.le_of_ble_eq_true rfl), (Nat.le_of_ble_eq_true rfl)⟩) hS0 (fun H locs hY hS0 => ?_)
  have hY : yS D dA vwCl wC 86 b _ _ H := hY
  refine y_putrF (t := 82) hx hb hts (z_memU u11) tyX11 tyX11_ok nmX11 hown hK.1 hY hS0 f11_6 (by decide) (zkd_of (rfl : zcd wC 0 = 0) rfl) (hts _ (z_mem k248)) rfl hin rfl (tyX11_ok 6 (by decide)) (fun _ => rfl) (fun _ => rfl) dX11_init_78 (fun H locs hY hS0 => ?_)
  refine lv_aload_n hx hb dX11_init_81 rfl (lv_at hl 0 rfl) ?_
  refine y_new hx hb hts (z_memU u4) tyX4 tyX4_ok hown (hts _ (z_mem k204)) (hts _ (z_mem k205)) (hts _ (z_mem k12)) hK.1 hY hS0 (rfl : vwCl[4]? = some (RX4, TX4, 6)) (by decide) (zkd_of (rfl : zcd wC 86 = 38) rfl) rfl (fun k hk => by rcases (show k = 0 ∨ k = 1 ∨ k = 2 ∨ k = 3 ∨ k = 4 ∨ k = 5 by omega) with rfl | rfl | rfl | rfl | rfl | rfl <;> rfl) (Nat.le_of_ble_eq_true rfl) (Nat.le_of_ble_eq_true rfl) dX11_init_82 (fun H hY hS0 => ?_)
  have hY : yS D dA vwCl wC 87 b _ _ H := hY
  refine lv_dup hx hb dX11_init_85 rfl ?_
  refine y_call (va_runIN (As := []) (rest := [.ref (b + 86), .ref (b + 0)]) ⟨hx, hb, hml, hown, hts⟩ (mk_C86 l D dA b _ _) ⟨va_cnB 0 hts (z_gN k207) rfl rfl rfl (hK.2 _ (List.mem_of_getElem? (i := 8) rfl)) (hts _ (z_mem k12)) (by decide +kernel) ⟨(Nat.le_of_ble_eq_true rfl), (Nat.le_of_ble_eq_true rfl)⟩, rfl, (hts _ (z_mem k206))⟩ ⟨yP_blind, y_pre hY hK hO⟩ rfl rfl hl.1 rfl (lv_room (Nat.le_of_ble_eq_true rfl)) dX11_init_86 ⟨(Nat.le_of_ble_eq_true rfl), (Nat.le_of_ble_eq_true rfl)⟩) hS0 (fun H locs hY hS0 => ?_)
  have hY : yS D dA vwCl wC 96 b _ _ H := hY
  refine y_putrF (t := 86) hx hb hts (z_memU u11) tyX11 tyX11_ok nmX11 hown hK.1 hY hS0 f11_7 (by decide) (zkd_of (rfl : zcd wC 0 = 0) rfl) (hts _ (z_mem k249)) rfl hin rfl (tyX11_ok 7 (by decide)) (fun _ => rfl) (fun _ => rfl) dX11_init_89 (fun H locs hY hS0 => ?_)
  refine lv_aload_n hx hb dX11_init_92 rfl (lv_at hl 0 rfl) ?_
  refine y_new hx hb hts (z_memU u10) tyX10 tyX10_ok hown (hts _ (z_mem k224)) (hts _ (z_mem k225)) (hts _ (z_mem k13)) hK.1 hY hS0 (rfl : vwCl[10]? = some (RX10, TX10, 5)) (by decide) (zkd_of (rfl : zcd wC 96 = 44) rfl) rfl (fun k hk => by rcases (show k = 0 ∨ k = 1 ∨ k = 2 ∨ k = 3 ∨ k = 4 by omega) with rfl | rfl | rfl | rfl | rfl <;> rfl) (Nat.le_of_ble_eq_true rfl) (Nat.le_of_ble_eq_true rfl) dX11_init_93 (fun H hY hS0 => ?_)
  have hY : yS D dA vwCl wC 97 b _ _ H := hY
  refine lv_dup hx hb dX11_init_96 rfl ?_
  refine y_call (va_runI (As := []) (rest := [.ref (b + 96), .ref (b + 0)]) ⟨hx, hb, hml, hown, hts⟩ (mk_C96 l D dA b _ _) (cwI 0 hts (z_gN k228) rfl rfl rfl (hts _ (z_mem k13)) (hts _ (z_mem k226)) (hts _ (z_mem k227)) rfl (by decide +kernel) ⟨(Nat.le_of_ble_eq_true rfl), (Nat.le_of_ble_eq_true rfl)⟩) ⟨yP_blind, y_pre hY hK hO⟩ rfl rfl hl.1 rfl (lv_room (Nat.le_of_ble_eq_true rfl)) dX11_init_97 ⟨(Nat.le_of_ble_eq_true rfl), (Nat.le_of_ble_eq_true rfl)⟩) hS0 (fun H locs hY hS0 => ?_)
  have hY : yS D dA vwCl wC 133 b _ _ H := hY
  refine y_putrF (t := 96) hx hb hts (z_memU u11) tyX11 tyX11_ok nmX11 hown hK.1 hY hS0 f11_8 (by decide) (zkd_of (rfl : zcd wC 0 = 0) rfl) (hts _ (z_mem k250)) rfl hin rfl (tyX11_ok 8 (by decide)) (fun _ => rfl) (fun _ => rfl) dX11_init_100 (fun H locs hY hS0 => ?_)
  refine lv_aload_n hx hb dX11_init_103 rfl (lv_at hl 0 rfl) ?_
  refine z_bipush hx hb (by decide) dX11_init_104 ?_
  refine y_newa (atype := .int) hx hb (hts _ (z_mem k53)) (t0 := 0) (N := 40) (by decide) (by decide) (hK.1.2 0 _ rfl).2 rfl hY hS0 (zkd_of (rfl : zcd wC 133 = 49) rfl) (zln_of (rfl : zcd wC 133 = 49) rfl) (by decide) rfl (by decide) (by decide) (Nat.le_of_ble_eq_true rfl) (Nat.le_of_ble_eq_true rfl) dX11_init_106 (fun H hY hS0 => ?_)
  have hY : yS D dA vwCl wC 134 b _ _ H := hY
  refine y_putrF (t := 133) hx hb hts (z_memU u11) tyX11 tyX11_ok nmX11 hown hK.1 hY hS0 f11_9 (by decide) (zkd_of (rfl : zcd wC 0 = 0) rfl) (hts _ (z_mem k251)) rfl hin rfl (tyX11_ok 9 (by decide)) (fun _ => rfl) (fun _ => rfl) dX11_init_108 (fun H locs hY hS0 => ?_)
  refine lv_aload_n hx hb dX11_init_111 rfl (lv_at hl 0 rfl) ?_
  refine z_iconst hx hb dX11_init_112 ?_
  refine y_puti (z := 0) hx hb hts (z_memU u11) tyX11 tyX11_ok nmX11 hown hK.1 hY hS0 f11_10 (by decide) (zkd_of (rfl : zcd wC 0 = 0) rfl) (Or.inl (hts _ (z_mem k252))) rfl (by decide +kernel) (zbd_in (rfl : zcd wC 0 = 0) rfl (by decide)) dX11_init_113 (fun H locs hY hS0 => ?_)
  exact y_ret hx hb hr hlocks hY hS0 dX11_init_116
