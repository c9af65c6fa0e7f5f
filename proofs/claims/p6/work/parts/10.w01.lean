/-! the W layer, 1 -/
theorem dX7_beginTerm_0 : decode cX7_beginTerm 0 = .ok (.aload_n 0, 1) := by decide +kernel
theorem dX7_beginTerm_1 : decode cX7_beginTerm 1 = .ok (.invokevirtual 76, 3) := by decide +kernel
theorem dX7_beginTerm_10 : decode cX7_beginTerm 10 = .ok (.getfield 31, 3) := by decide +kernel
theorem dX7_beginTerm_13 : decode cX7_beginTerm 13 = .ok (.aload_n 0, 1) := by decide +kernel
theorem dX7_beginTerm_14 : decode cX7_beginTerm 14 = .ok (.getfield 19, 3) := by decide +kernel
theorem dX7_beginTerm_17 : decode cX7_beginTerm 17 = .ok (.aaload, 1) := by decide +kernel
theorem dX7_beginTerm_18 : decode cX7_beginTerm 18 = .ok (.iload_n 1, 1) := by decide +kernel
theorem dX7_beginTerm_19 : decode cX7_beginTerm 19 = .ok (.invokevirtual 98, 3) := by decide +kernel
theorem dX7_beginTerm_22 : decode cX7_beginTerm 22 = .ok (.iload_n 2, 1) := by decide +kernel
theorem dX7_beginTerm_23 : decode cX7_beginTerm 23 = .ok (.ireturn, 1) := by decide +kernel
theorem dX7_beginTerm_4 : decode cX7_beginTerm 4 = .ok (.istore_n 2, 1) := by decide +kernel
theorem dX7_beginTerm_5 : decode cX7_beginTerm 5 = .ok (.iload_n 2, 1) := by decide +kernel
theorem dX7_beginTerm_6 : decode cX7_beginTerm 6 = .ok (.ifCond .ne 16, 3) := by decide +kernel
theorem dX7_beginTerm_9 : decode cX7_beginTerm 9 = .ok (.aload_n 0, 1) := by decide +kernel
theorem dX7_close_0 : decode cX7_close 0 = .ok (.aload_n 0, 1) := by decide +kernel
theorem dX7_close_1 : decode cX7_close 1 = .ok (.invokevirtual 76, 3) := by decide +kernel
theorem dX7_close_10 : decode cX7_close 10 = .ok (.getfield 19, 3) := by decide +kernel
theorem dX7_close_13 : decode cX7_close 13 = .ok (.ifCond .le 36, 3) := by decide +kernel
theorem dX7_close_16 : decode cX7_close 16 = .ok (.aload_n 0, 1) := by decide +kernel
theorem dX7_close_17 : decode cX7_close 17 = .ok (.dup, 1) := by decide +kernel
theorem dX7_close_18 : decode cX7_close 18 = .ok (.getfield 19, 3) := by decide +kernel
theorem dX7_close_21 : decode cX7_close 21 = .ok (.iconst 1, 1) := by decide +kernel
theorem dX7_close_22 : decode cX7_close 22 = .ok (.isub, 1) := by decide +kernel
theorem dX7_close_23 : decode cX7_close 23 = .ok (.putfield 19, 3) := by decide +kernel
theorem dX7_close_26 : decode cX7_close 26 = .ok (.aload_n 0, 1) := by decide +kernel
theorem dX7_close_27 : decode cX7_close 27 = .ok (.getfield 31, 3) := by decide +kernel
theorem dX7_close_30 : decode cX7_close 30 = .ok (.aload_n 0, 1) := by decide +kernel
theorem dX7_close_31 : decode cX7_close 31 = .ok (.getfield 19, 3) := by decide +kernel
theorem dX7_close_34 : decode cX7_close 34 = .ok (.aaload, 1) := by decide +kernel
theorem dX7_close_35 : decode cX7_close 35 = .ok (.aload_n 0, 1) := by decide +kernel
theorem dX7_close_36 : decode cX7_close 36 = .ok (.getfield 27, 3) := by decide +kernel
theorem dX7_close_39 : decode cX7_close 39 = .ok (.aload_n 0, 1) := by decide +kernel
theorem dX7_close_4 : decode cX7_close 4 = .ok (.istore_n 1, 1) := by decide +kernel
theorem dX7_close_40 : decode cX7_close 40 = .ok (.getfield 19, 3) := by decide +kernel
theorem dX7_close_43 : decode cX7_close 43 = .ok (.iconst 1, 1) := by decide +kernel
theorem dX7_close_44 : decode cX7_close 44 = .ok (.iadd, 1) := by decide +kernel
theorem dX7_close_45 : decode cX7_close 45 = .ok (.aaload, 1) := by decide +kernel
theorem dX7_close_46 : decode cX7_close 46 = .ok (.invokevirtual 45, 3) := by decide +kernel
theorem dX7_close_49 : decode cX7_close 49 = .ok (.iload_n 1, 1) := by decide +kernel
theorem dX7_close_5 : decode cX7_close 5 = .ok (.iload_n 1, 1) := by decide +kernel
theorem dX7_close_50 : decode cX7_close 50 = .ok (.ireturn, 1) := by decide +kernel
theorem dX7_close_6 : decode cX7_close 6 = .ok (.ifCond .ne 43, 3) := by decide +kernel
theorem dX7_close_9 : decode cX7_close 9 = .ok (.aload_n 0, 1) := by decide +kernel
theorem dX7_layTerm_0 : decode cX7_layTerm 0 = .ok (.aload_n 0, 1) := by decide +kernel
theorem dX7_layTerm_1 : decode cX7_layTerm 1 = .ok (.getfield 27, 3) := by decide +kernel
theorem dX7_layTerm_10 : decode cX7_layTerm 10 = .ok (.aload_n 0, 1) := by decide +kernel
theorem dX7_layTerm_11 : decode cX7_layTerm 11 = .ok (.getfield 31, 3) := by decide +kernel
theorem dX7_layTerm_14 : decode cX7_layTerm 14 = .ok (.aload_n 0, 1) := by decide +kernel
theorem dX7_layTerm_15 : decode cX7_layTerm 15 = .ok (.getfield 19, 3) := by decide +kernel
theorem dX7_layTerm_18 : decode cX7_layTerm 18 = .ok (.aaload, 1) := by decide +kernel
theorem dX7_layTerm_19 : decode cX7_layTerm 19 = .ok (.astore_n 2, 1) := by decide +kernel
theorem dX7_layTerm_20 : decode cX7_layTerm 20 = .ok (.aload_n 2, 1) := by decide +kernel
theorem dX7_layTerm_21 : decode cX7_layTerm 21 = .ok (.getfield 49, 3) := by decide +kernel
theorem dX7_layTerm_24 : decode cX7_layTerm 24 = .ok (.ifCond .ne 5, 3) := by decide +kernel
theorem dX7_layTerm_27 : decode cX7_layTerm 27 = .ok (.iconst 0, 1) := by decide +kernel
theorem dX7_layTerm_28 : decode cX7_layTerm 28 = .ok (.ireturn, 1) := by decide +kernel
theorem dX7_layTerm_29 : decode cX7_layTerm 29 = .ok (.aload_n 0, 1) := by decide +kernel
theorem dX7_layTerm_30 : decode cX7_layTerm 30 = .ok (.getfield 34, 3) := by decide +kernel
theorem dX7_layTerm_33 : decode cX7_layTerm 33 = .ok (.aload_n 0, 1) := by decide +kernel
theorem dX7_layTerm_34 : decode cX7_layTerm 34 = .ok (.getfield 19, 3) := by decide +kernel
theorem dX7_layTerm_37 : decode cX7_layTerm 37 = .ok (.iaload, 1) := by decide +kernel
theorem dX7_layTerm_38 : decode cX7_layTerm 38 = .ok (.istore_n 3, 1) := by decide +kernel
theorem dX7_layTerm_39 : decode cX7_layTerm 39 = .ok (.iload_n 3, 1) := by decide +kernel
theorem dX7_layTerm_4 : decode cX7_layTerm 4 = .ok (.aload_n 0, 1) := by decide +kernel
theorem dX7_layTerm_40 : decode cX7_layTerm 40 = .ok (.aload_n 2, 1) := by decide +kernel
theorem dX7_layTerm_41 : decode cX7_layTerm 41 = .ok (.getfield 49, 3) := by decide +kernel
theorem dX7_layTerm_44 : decode cX7_layTerm 44 = .ok (.if_icmp .le 6, 3) := by decide +kernel
theorem dX7_layTerm_47 : decode cX7_layTerm 47 = .ok (.bipush (-101), 2) := by decide +kernel
theorem dX7_layTerm_49 : decode cX7_layTerm 49 = .ok (.ireturn, 1) := by decide +kernel
theorem dX7_layTerm_5 : decode cX7_layTerm 5 = .ok (.getfield 19, 3) := by decide +kernel
theorem dX7_layTerm_50 : decode cX7_layTerm 50 = .ok (.aload_n 1, 1) := by decide +kernel
theorem dX7_layTerm_51 : decode cX7_layTerm 51 = .ok (.getfield 49, 3) := by decide +kernel
theorem dX7_layTerm_54 : decode cX7_layTerm 54 = .ok (.aload_n 2, 1) := by decide +kernel
theorem dX7_layTerm_55 : decode cX7_layTerm 55 = .ok (.getfield 49, 3) := by decide +kernel
theorem dX7_layTerm_58 : decode cX7_layTerm 58 = .ok (.iadd, 1) := by decide +kernel
theorem dX7_layTerm_59 : decode cX7_layTerm 59 = .ok (.iload_n 3, 1) := by decide +kernel
theorem dX7_layTerm_60 : decode cX7_layTerm 60 = .ok (.isub, 1) := by decide +kernel
theorem dX7_layTerm_61 : decode cX7_layTerm 61 = .ok (.bipush 24, 2) := by decide +kernel
theorem dX7_layTerm_63 : decode cX7_layTerm 63 = .ok (.if_icmp .le 6, 3) := by decide +kernel
theorem dX7_layTerm_66 : decode cX7_layTerm 66 = .ok (.bipush (-100), 2) := by decide +kernel
theorem dX7_layTerm_68 : decode cX7_layTerm 68 = .ok (.ireturn, 1) := by decide +kernel
theorem dX7_layTerm_69 : decode cX7_layTerm 69 = .ok (.aload_n 1, 1) := by decide +kernel
theorem dX7_layTerm_70 : decode cX7_layTerm 70 = .ok (.aload_n 2, 1) := by decide +kernel
theorem dX7_layTerm_71 : decode cX7_layTerm 71 = .ok (.iload_n 3, 1) := by decide +kernel
theorem dX7_layTerm_72 : decode cX7_layTerm 72 = .ok (.invokevirtual 105, 3) := by decide +kernel
theorem dX7_layTerm_75 : decode cX7_layTerm 75 = .ok (.aload_n 2, 1) := by decide +kernel
theorem dX7_layTerm_76 : decode cX7_layTerm 76 = .ok (.iconst 0, 1) := by decide +kernel
theorem dX7_layTerm_77 : decode cX7_layTerm 77 = .ok (.putfield 49, 3) := by decide +kernel
theorem dX7_layTerm_8 : decode cX7_layTerm 8 = .ok (.aaload, 1) := by decide +kernel
theorem dX7_layTerm_80 : decode cX7_layTerm 80 = .ok (.aload_n 0, 1) := by decide +kernel
theorem dX7_layTerm_81 : decode cX7_layTerm 81 = .ok (.getfield 34, 3) := by decide +kernel
theorem dX7_layTerm_84 : decode cX7_layTerm 84 = .ok (.aload_n 0, 1) := by decide +kernel
theorem dX7_layTerm_85 : decode cX7_layTerm 85 = .ok (.getfield 19, 3) := by decide +kernel
theorem dX7_layTerm_88 : decode cX7_layTerm 88 = .ok (.iconst 0, 1) := by decide +kernel
theorem dX7_layTerm_89 : decode cX7_layTerm 89 = .ok (.iastore, 1) := by decide +kernel
theorem dX7_layTerm_9 : decode cX7_layTerm 9 = .ok (.astore_n 1, 1) := by decide +kernel
theorem dX7_layTerm_90 : decode cX7_layTerm 90 = .ok (.iconst 0, 1) := by decide +kernel
theorem dX7_layTerm_91 : decode cX7_layTerm 91 = .ok (.ireturn, 1) := by decide +kernel
theorem dX7_open_0 : decode cX7_open 0 = .ok (.aload_n 0, 1) := by decide +kernel
theorem dX7_open_1 : decode cX7_open 1 = .ok (.invokevirtual 76, 3) := by decide +kernel
theorem dX7_open_10 : decode cX7_open 10 = .ok (.getfield 19, 3) := by decide +kernel
theorem dX7_open_13 : decode cX7_open 13 = .ok (.iconst 5, 1) := by decide +kernel
theorem dX7_open_14 : decode cX7_open 14 = .ok (.if_icmp .ge 17, 3) := by decide +kernel
theorem dX7_open_17 : decode cX7_open 17 = .ok (.aload_n 0, 1) := by decide +kernel
theorem dX7_open_18 : decode cX7_open 18 = .ok (.dup, 1) := by decide +kernel
theorem dX7_open_19 : decode cX7_open 19 = .ok (.getfield 19, 3) := by decide +kernel
theorem dX7_open_22 : decode cX7_open 22 = .ok (.iconst 1, 1) := by decide +kernel
theorem dX7_open_23 : decode cX7_open 23 = .ok (.iadd, 1) := by decide +kernel
theorem dX7_open_24 : decode cX7_open 24 = .ok (.putfield 19, 3) := by decide +kernel
theorem dX7_open_27 : decode cX7_open 27 = .ok (.aload_n 0, 1) := by decide +kernel
theorem dX7_open_28 : decode cX7_open 28 = .ok (.invokevirtual 67, 3) := by decide +kernel
theorem dX7_open_31 : decode cX7_open 31 = .ok (.iload_n 1, 1) := by decide +kernel
theorem dX7_open_32 : decode cX7_open 32 = .ok (.ireturn, 1) := by decide +kernel
theorem dX7_open_4 : decode cX7_open 4 = .ok (.istore_n 1, 1) := by decide +kernel
theorem dX7_open_5 : decode cX7_open 5 = .ok (.iload_n 1, 1) := by decide +kernel
theorem dX7_open_6 : decode cX7_open 6 = .ok (.ifCond .ne 25, 3) := by decide +kernel
theorem dX7_open_9 : decode cX7_open 9 = .ok (.aload_n 0, 1) := by decide +kernel
theorem dX7_readDigit_0 : decode cX7_readDigit 0 = .ok (.aload_n 0, 1) := by decide +kernel
theorem dX7_readDigit_1 : decode cX7_readDigit 1 = .ok (.getfield 22, 3) := by decide +kernel
theorem dX7_readDigit_100 : decode cX7_readDigit 100 = .ok (.iload_n 1, 1) := by decide +kernel
theorem dX7_readDigit_101 : decode cX7_readDigit 101 = .ok (.ishl, 1) := by decide +kernel
theorem dX7_readDigit_102 : decode cX7_readDigit 102 = .ok (.invokevirtual 94, 3) := by decide +kernel
theorem dX7_readDigit_105 : decode cX7_readDigit 105 = .ok (.iconst 0, 1) := by decide +kernel
theorem dX7_readDigit_106 : decode cX7_readDigit 106 = .ok (.ireturn, 1) := by decide +kernel
theorem dX7_readDigit_107 : decode cX7_readDigit 107 = .ok (.aload_n 0, 1) := by decide +kernel
theorem dX7_readDigit_108 : decode cX7_readDigit 108 = .ok (.iload_n 1, 1) := by decide +kernel
theorem dX7_readDigit_109 : decode cX7_readDigit 109 = .ok (.ifCond .ne 7, 3) := by decide +kernel
theorem dX7_readDigit_112 : decode cX7_readDigit 112 = .ok (.iconst 0, 1) := by decide +kernel
theorem dX7_readDigit_113 : decode cX7_readDigit 113 = .ok (.goto 6, 3) := by decide +kernel
theorem dX7_readDigit_116 : decode cX7_readDigit 116 = .ok (.iconst 1, 1) := by decide +kernel
theorem dX7_readDigit_117 : decode cX7_readDigit 117 = .ok (.iload_n 1, 1) := by decide +kernel
theorem dX7_readDigit_118 : decode cX7_readDigit 118 = .ok (.ishl, 1) := by decide +kernel
theorem dX7_readDigit_119 : decode cX7_readDigit 119 = .ok (.invokevirtual 82, 3) := by decide +kernel
theorem dX7_readDigit_122 : decode cX7_readDigit 122 = .ok (.ireturn, 1) := by decide +kernel
theorem dX7_readDigit_4 : decode cX7_readDigit 4 = .ok (.lookupswitch 103 #[(42, 36), (47, 47), (91, 85)], 36) := by decide +kernel
theorem dX7_readDigit_40 : decode cX7_readDigit 40 = .ok (.aload_n 0, 1) := by decide +kernel
theorem dX7_readDigit_41 : decode cX7_readDigit 41 = .ok (.iconst 0, 1) := by decide +kernel
theorem dX7_readDigit_42 : decode cX7_readDigit 42 = .ok (.putfield 22, 3) := by decide +kernel
theorem dX7_readDigit_45 : decode cX7_readDigit 45 = .ok (.aload_n 0, 1) := by decide +kernel
theorem dX7_readDigit_46 : decode cX7_readDigit 46 = .ok (.iload_n 1, 1) := by decide +kernel
theorem dX7_readDigit_47 : decode cX7_readDigit 47 = .ok (.invokevirtual 91, 3) := by decide +kernel
theorem dX7_readDigit_50 : decode cX7_readDigit 50 = .ok (.ireturn, 1) := by decide +kernel
theorem dX7_readDigit_51 : decode cX7_readDigit 51 = .ok (.aload_n 0, 1) := by decide +kernel
theorem dX7_readDigit_52 : decode cX7_readDigit 52 = .ok (.iconst 0, 1) := by decide +kernel
theorem dX7_readDigit_53 : decode cX7_readDigit 53 = .ok (.putfield 22, 3) := by decide +kernel
theorem dX7_readDigit_56 : decode cX7_readDigit 56 = .ok (.aload_n 0, 1) := by decide +kernel
theorem dX7_readDigit_57 : decode cX7_readDigit 57 = .ok (.getfield 34, 3) := by decide +kernel
theorem dX7_readDigit_60 : decode cX7_readDigit 60 = .ok (.aload_n 0, 1) := by decide +kernel
theorem dX7_readDigit_61 : decode cX7_readDigit 61 = .ok (.getfield 19, 3) := by decide +kernel
theorem dX7_readDigit_64 : decode cX7_readDigit 64 = .ok (.iload_n 1, 1) := by decide +kernel
theorem dX7_readDigit_65 : decode cX7_readDigit 65 = .ok (.iastore, 1) := by decide +kernel
theorem dX7_readDigit_66 : decode cX7_readDigit 66 = .ok (.iload_n 1, 1) := by decide +kernel
theorem dX7_readDigit_67 : decode cX7_readDigit 67 = .ok (.aload_n 0, 1) := by decide +kernel
theorem dX7_readDigit_68 : decode cX7_readDigit 68 = .ok (.getfield 27, 3) := by decide +kernel
theorem dX7_readDigit_71 : decode cX7_readDigit 71 = .ok (.aload_n 0, 1) := by decide +kernel
theorem dX7_readDigit_72 : decode cX7_readDigit 72 = .ok (.getfield 19, 3) := by decide +kernel
theorem dX7_readDigit_75 : decode cX7_readDigit 75 = .ok (.aaload, 1) := by decide +kernel
theorem dX7_readDigit_76 : decode cX7_readDigit 76 = .ok (.getfield 49, 3) := by decide +kernel
theorem dX7_readDigit_79 : decode cX7_readDigit 79 = .ok (.if_icmp .le 8, 3) := by decide +kernel
theorem dX7_readDigit_82 : decode cX7_readDigit 82 = .ok (.bipush (-101), 2) := by decide +kernel
theorem dX7_readDigit_84 : decode cX7_readDigit 84 = .ok (.goto 4, 3) := by decide +kernel
theorem dX7_readDigit_87 : decode cX7_readDigit 87 = .ok (.iconst 0, 1) := by decide +kernel
theorem dX7_readDigit_88 : decode cX7_readDigit 88 = .ok (.ireturn, 1) := by decide +kernel
theorem dX7_readDigit_89 : decode cX7_readDigit 89 = .ok (.aload_n 0, 1) := by decide +kernel
theorem dX7_readDigit_90 : decode cX7_readDigit 90 = .ok (.getfield 31, 3) := by decide +kernel
theorem dX7_readDigit_93 : decode cX7_readDigit 93 = .ok (.aload_n 0, 1) := by decide +kernel
theorem dX7_readDigit_94 : decode cX7_readDigit 94 = .ok (.getfield 19, 3) := by decide +kernel
theorem dX7_readDigit_97 : decode cX7_readDigit 97 = .ok (.aaload, 1) := by decide +kernel
theorem dX7_readDigit_98 : decode cX7_readDigit 98 = .ok (.iconst 0, 1) := by decide +kernel
theorem dX7_readDigit_99 : decode cX7_readDigit 99 = .ok (.iconst 1, 1) := by decide +kernel
theorem dX7_readSign_0 : decode cX7_readSign 0 = .ok (.iload_n 1, 1) := by decide +kernel
theorem dX7_readSign_1 : decode cX7_readSign 1 = .ok (.lookupswitch 126 #[(40, 116), (41, 121), (42, 67), (47, 88), (91, 98), (93, 109), (126, 74)], 67) := by decide +kernel
theorem dX7_readSign_100 : decode cX7_readSign 100 = .ok (.iload_n 1, 1) := by decide +kernel
theorem dX7_readSign_101 : decode cX7_readSign 101 = .ok (.putfield 22, 3) := by decide +kernel
theorem dX7_readSign_104 : decode cX7_readSign 104 = .ok (.aload_n 0, 1) := by decide +kernel
theorem dX7_readSign_105 : decode cX7_readSign 105 = .ok (.iconst 0, 1) := by decide +kernel
theorem dX7_readSign_106 : decode cX7_readSign 106 = .ok (.invokevirtual 82, 3) := by decide +kernel
theorem dX7_readSign_109 : decode cX7_readSign 109 = .ok (.ireturn, 1) := by decide +kernel
theorem dX7_readSign_110 : decode cX7_readSign 110 = .ok (.aload_n 0, 1) := by decide +kernel
theorem dX7_readSign_111 : decode cX7_readSign 111 = .ok (.iconst 0, 1) := by decide +kernel
theorem dX7_readSign_112 : decode cX7_readSign 112 = .ok (.putfield 22, 3) := by decide +kernel
theorem dX7_readSign_115 : decode cX7_readSign 115 = .ok (.iconst 0, 1) := by decide +kernel
theorem dX7_readSign_116 : decode cX7_readSign 116 = .ok (.ireturn, 1) := by decide +kernel
theorem dX7_readSign_117 : decode cX7_readSign 117 = .ok (.aload_n 0, 1) := by decide +kernel
theorem dX7_readSign_118 : decode cX7_readSign 118 = .ok (.invokevirtual 85, 3) := by decide +kernel
theorem dX7_readSign_121 : decode cX7_readSign 121 = .ok (.ireturn, 1) := by decide +kernel
theorem dX7_readSign_122 : decode cX7_readSign 122 = .ok (.aload_n 0, 1) := by decide +kernel
theorem dX7_readSign_123 : decode cX7_readSign 123 = .ok (.invokevirtual 88, 3) := by decide +kernel
theorem dX7_readSign_126 : decode cX7_readSign 126 = .ok (.ireturn, 1) := by decide +kernel
theorem dX7_readSign_127 : decode cX7_readSign 127 = .ok (.iconst 0, 1) := by decide +kernel
theorem dX7_readSign_128 : decode cX7_readSign 128 = .ok (.ireturn, 1) := by decide +kernel
theorem dX7_readSign_68 : decode cX7_readSign 68 = .ok (.aload_n 0, 1) := by decide +kernel
theorem dX7_readSign_69 : decode cX7_readSign 69 = .ok (.iload_n 1, 1) := by decide +kernel
theorem dX7_readSign_70 : decode cX7_readSign 70 = .ok (.putfield 22, 3) := by decide +kernel
theorem dX7_readSign_73 : decode cX7_readSign 73 = .ok (.iconst 0, 1) := by decide +kernel
theorem dX7_readSign_74 : decode cX7_readSign 74 = .ok (.ireturn, 1) := by decide +kernel
theorem dX7_readSign_75 : decode cX7_readSign 75 = .ok (.aload_n 0, 1) := by decide +kernel
theorem dX7_readSign_76 : decode cX7_readSign 76 = .ok (.getfield 31, 3) := by decide +kernel
theorem dX7_readSign_79 : decode cX7_readSign 79 = .ok (.aload_n 0, 1) := by decide +kernel
theorem dX7_readSign_80 : decode cX7_readSign 80 = .ok (.getfield 19, 3) := by decide +kernel
theorem dX7_readSign_83 : decode cX7_readSign 83 = .ok (.aaload, 1) := by decide +kernel
theorem dX7_readSign_84 : decode cX7_readSign 84 = .ok (.invokevirtual 79, 3) := by decide +kernel
theorem dX7_readSign_87 : decode cX7_readSign 87 = .ok (.iconst 0, 1) := by decide +kernel
theorem dX7_readSign_88 : decode cX7_readSign 88 = .ok (.ireturn, 1) := by decide +kernel
theorem dX7_readSign_89 : decode cX7_readSign 89 = .ok (.aload_n 0, 1) := by decide +kernel
theorem dX7_readSign_90 : decode cX7_readSign 90 = .ok (.iload_n 1, 1) := by decide +kernel
theorem dX7_readSign_91 : decode cX7_readSign 91 = .ok (.putfield 22, 3) := by decide +kernel
theorem dX7_readSign_94 : decode cX7_readSign 94 = .ok (.aload_n 0, 1) := by decide +kernel
theorem dX7_readSign_95 : decode cX7_readSign 95 = .ok (.invokevirtual 76, 3) := by decide +kernel
theorem dX7_readSign_98 : decode cX7_readSign 98 = .ok (.ireturn, 1) := by decide +kernel
theorem dX7_readSign_99 : decode cX7_readSign 99 = .ok (.aload_n 0, 1) := by decide +kernel
theorem dX8_addTo_0 : decode cX8_addTo 0 = .ok (.aload_n 0, 1) := by decide +kernel
theorem dX8_addTo_1 : decode cX8_addTo 1 = .ok (.iload_n 1, 1) := by decide +kernel
theorem dX8_addTo_12 : decode cX8_addTo 12 = .ok (.iload_n 1, 1) := by decide +kernel
theorem dX8_addTo_13 : decode cX8_addTo 13 = .ok (.dup2, 1) := by decide +kernel
theorem dX8_addTo_14 : decode cX8_addTo 14 = .ok (.iaload, 1) := by decide +kernel
theorem dX8_addTo_15 : decode cX8_addTo 15 = .ok (.iload_n 2, 1) := by decide +kernel
theorem dX8_addTo_16 : decode cX8_addTo 16 = .ok (.ior, 1) := by decide +kernel
theorem dX8_addTo_17 : decode cX8_addTo 17 = .ok (.iastore, 1) := by decide +kernel
theorem dX8_addTo_18 : decode cX8_addTo 18 = .ok (.return_, 1) := by decide +kernel
theorem dX8_addTo_2 : decode cX8_addTo 2 = .ok (.invokevirtual 19, 3) := by decide +kernel
theorem dX8_addTo_5 : decode cX8_addTo 5 = .ok (.ifCond .eq 13, 3) := by decide +kernel
theorem dX8_addTo_8 : decode cX8_addTo 8 = .ok (.aload_n 0, 1) := by decide +kernel
theorem dX8_addTo_9 : decode cX8_addTo 9 = .ok (.getfield 9, 3) := by decide +kernel
theorem dX8_becomeInch_0 : decode cX8_becomeInch 0 = .ok (.aload_n 0, 1) := by decide +kernel
theorem dX8_becomeInch_1 : decode cX8_becomeInch 1 = .ok (.getfield 9, 3) := by decide +kernel
theorem dX8_becomeInch_12 : decode cX8_becomeInch 12 = .ok (.return_, 1) := by decide +kernel
theorem dX8_becomeInch_4 : decode cX8_becomeInch 4 = .ok (.iconst 0, 1) := by decide +kernel
theorem dX8_becomeInch_5 : decode cX8_becomeInch 5 = .ok (.iload_n 1, 1) := by decide +kernel
theorem dX8_becomeInch_6 : decode cX8_becomeInch 6 = .ok (.iastore, 1) := by decide +kernel
theorem dX8_becomeInch_7 : decode cX8_becomeInch 7 = .ok (.aload_n 0, 1) := by decide +kernel
theorem dX8_becomeInch_8 : decode cX8_becomeInch 8 = .ok (.iconst 1, 1) := by decide +kernel
theorem dX8_becomeInch_9 : decode cX8_becomeInch 9 = .ok (.putfield 15, 3) := by decide +kernel
theorem dX8_copy_0 : decode cX8_copy 0 = .ok (.aload_n 0, 1) := by decide +kernel
theorem dX8_copy_1 : decode cX8_copy 1 = .ok (.aload_n 1, 1) := by decide +kernel
theorem dX8_copy_12 : decode cX8_copy 12 = .ok (.iconst 0, 1) := by decide +kernel
theorem dX8_copy_13 : decode cX8_copy 13 = .ok (.aload_n 0, 1) := by decide +kernel
theorem dX8_copy_14 : decode cX8_copy 14 = .ok (.getfield 9, 3) := by decide +kernel
theorem dX8_copy_17 : decode cX8_copy 17 = .ok (.iconst 0, 1) := by decide +kernel
theorem dX8_copy_18 : decode cX8_copy 18 = .ok (.bipush 24, 2) := by decide +kernel
theorem dX8_copy_2 : decode cX8_copy 2 = .ok (.getfield 15, 3) := by decide +kernel
theorem dX8_copy_20 : decode cX8_copy 20 = .ok (.invokestatic 23, 3) := by decide +kernel
theorem dX8_copy_23 : decode cX8_copy 23 = .ok (.return_, 1) := by decide +kernel
theorem dX8_copy_5 : decode cX8_copy 5 = .ok (.putfield 15, 3) := by decide +kernel
theorem dX8_copy_8 : decode cX8_copy 8 = .ok (.aload_n 1, 1) := by decide +kernel
theorem dX8_copy_9 : decode cX8_copy 9 = .ok (.getfield 9, 3) := by decide +kernel
theorem dX8_putBehind_0 : decode cX8_putBehind 0 = .ok (.iconst 0, 1) := by decide +kernel
theorem dX8_putBehind_1 : decode cX8_putBehind 1 = .ok (.aload_n 0, 1) := by decide +kernel
theorem dX8_putBehind_10 : decode cX8_putBehind 10 = .ok (.istore_n 3, 1) := by decide +kernel
theorem dX8_putBehind_11 : decode cX8_putBehind 11 = .ok (.iconst 0, 1) := by decide +kernel
theorem dX8_putBehind_12 : decode cX8_putBehind 12 = .ok (.istore 4, 2) := by decide +kernel
theorem dX8_putBehind_14 : decode cX8_putBehind 14 = .ok (.iload 4, 2) := by decide +kernel
theorem dX8_putBehind_16 : decode cX8_putBehind 16 = .ok (.aload_n 1, 1) := by decide +kernel
theorem dX8_putBehind_17 : decode cX8_putBehind 17 = .ok (.getfield 15, 3) := by decide +kernel
theorem dX8_putBehind_2 : decode cX8_putBehind 2 = .ok (.getfield 15, 3) := by decide +kernel
theorem dX8_putBehind_20 : decode cX8_putBehind 20 = .ok (.if_icmp .ge 53, 3) := by decide +kernel
theorem dX8_putBehind_23 : decode cX8_putBehind 23 = .ok (.iload_n 3, 1) := by decide +kernel
theorem dX8_putBehind_24 : decode cX8_putBehind 24 = .ok (.aload_n 0, 1) := by decide +kernel
theorem dX8_putBehind_25 : decode cX8_putBehind 25 = .ok (.getfield 9, 3) := by decide +kernel
theorem dX8_putBehind_28 : decode cX8_putBehind 28 = .ok (.arraylength, 1) := by decide +kernel
theorem dX8_putBehind_29 : decode cX8_putBehind 29 = .ok (.if_icmp .ge 44, 3) := by decide +kernel
theorem dX8_putBehind_32 : decode cX8_putBehind 32 = .ok (.aload_n 0, 1) := by decide +kernel
theorem dX8_putBehind_33 : decode cX8_putBehind 33 = .ok (.getfield 9, 3) := by decide +kernel
theorem dX8_putBehind_36 : decode cX8_putBehind 36 = .ok (.iload_n 3, 1) := by decide +kernel
theorem dX8_putBehind_37 : decode cX8_putBehind 37 = .ok (.aload_n 1, 1) := by decide +kernel
theorem dX8_putBehind_38 : decode cX8_putBehind 38 = .ok (.getfield 9, 3) := by decide +kernel
theorem dX8_putBehind_41 : decode cX8_putBehind 41 = .ok (.iload 4, 2) := by decide +kernel
theorem dX8_putBehind_43 : decode cX8_putBehind 43 = .ok (.iaload, 1) := by decide +kernel
theorem dX8_putBehind_44 : decode cX8_putBehind 44 = .ok (.iload_n 3, 1) := by decide +kernel
theorem dX8_putBehind_45 : decode cX8_putBehind 45 = .ok (.aload_n 0, 1) := by decide +kernel
theorem dX8_putBehind_46 : decode cX8_putBehind 46 = .ok (.getfield 15, 3) := by decide +kernel
theorem dX8_putBehind_49 : decode cX8_putBehind 49 = .ok (.if_icmp .ge 12, 3) := by decide +kernel
theorem dX8_putBehind_5 : decode cX8_putBehind 5 = .ok (.iload_n 2, 1) := by decide +kernel
theorem dX8_putBehind_52 : decode cX8_putBehind 52 = .ok (.aload_n 0, 1) := by decide +kernel
theorem dX8_putBehind_53 : decode cX8_putBehind 53 = .ok (.getfield 9, 3) := by decide +kernel
theorem dX8_putBehind_56 : decode cX8_putBehind 56 = .ok (.iload_n 3, 1) := by decide +kernel
theorem dX8_putBehind_57 : decode cX8_putBehind 57 = .ok (.iaload, 1) := by decide +kernel
theorem dX8_putBehind_58 : decode cX8_putBehind 58 = .ok (.goto 4, 3) := by decide +kernel
theorem dX8_putBehind_6 : decode cX8_putBehind 6 = .ok (.isub, 1) := by decide +kernel
theorem dX8_putBehind_61 : decode cX8_putBehind 61 = .ok (.iconst 0, 1) := by decide +kernel
theorem dX8_putBehind_62 : decode cX8_putBehind 62 = .ok (.ior, 1) := by decide +kernel
theorem dX8_putBehind_63 : decode cX8_putBehind 63 = .ok (.iastore, 1) := by decide +kernel
theorem dX8_putBehind_64 : decode cX8_putBehind 64 = .ok (.iinc 3 1, 3) := by decide +kernel
theorem dX8_putBehind_67 : decode cX8_putBehind 67 = .ok (.iinc 4 1, 3) := by decide +kernel
theorem dX8_putBehind_7 : decode cX8_putBehind 7 = .ok (.invokestatic 35, 3) := by decide +kernel
theorem dX8_putBehind_70 : decode cX8_putBehind 70 = .ok (.goto (-56), 3) := by decide +kernel
theorem dX8_putBehind_73 : decode cX8_putBehind 73 = .ok (.aload_n 0, 1) := by decide +kernel
theorem dX8_putBehind_74 : decode cX8_putBehind 74 = .ok (.aload_n 0, 1) := by decide +kernel
theorem dX8_putBehind_75 : decode cX8_putBehind 75 = .ok (.getfield 15, 3) := by decide +kernel
theorem dX8_putBehind_78 : decode cX8_putBehind 78 = .ok (.iload_n 3, 1) := by decide +kernel
theorem dX8_putBehind_79 : decode cX8_putBehind 79 = .ok (.invokestatic 35, 3) := by decide +kernel
theorem dX8_putBehind_82 : decode cX8_putBehind 82 = .ok (.putfield 15, 3) := by decide +kernel
theorem dX8_putBehind_85 : decode cX8_putBehind 85 = .ok (.return_, 1) := by decide +kernel
theorem dX8_turn_0 : decode cX8_turn 0 = .ok (.iconst 0, 1) := by decide +kernel
theorem dX8_turn_1 : decode cX8_turn 1 = .ok (.istore_n 1, 1) := by decide +kernel
theorem dX8_turn_12 : decode cX8_turn 12 = .ok (.aload_n 0, 1) := by decide +kernel
theorem dX8_turn_13 : decode cX8_turn 13 = .ok (.getfield 9, 3) := by decide +kernel
theorem dX8_turn_16 : decode cX8_turn 16 = .ok (.iload_n 1, 1) := by decide +kernel
theorem dX8_turn_17 : decode cX8_turn 17 = .ok (.iaload, 1) := by decide +kernel
theorem dX8_turn_18 : decode cX8_turn 18 = .ok (.istore_n 2, 1) := by decide +kernel
theorem dX8_turn_19 : decode cX8_turn 19 = .ok (.aload_n 0, 1) := by decide +kernel
theorem dX8_turn_2 : decode cX8_turn 2 = .ok (.iload_n 1, 1) := by decide +kernel
theorem dX8_turn_20 : decode cX8_turn 20 = .ok (.getfield 9, 3) := by decide +kernel
theorem dX8_turn_23 : decode cX8_turn 23 = .ok (.iload_n 1, 1) := by decide +kernel
theorem dX8_turn_24 : decode cX8_turn 24 = .ok (.aload_n 0, 1) := by decide +kernel
theorem dX8_turn_25 : decode cX8_turn 25 = .ok (.getfield 9, 3) := by decide +kernel
theorem dX8_turn_28 : decode cX8_turn 28 = .ok (.aload_n 0, 1) := by decide +kernel
theorem dX8_turn_29 : decode cX8_turn 29 = .ok (.getfield 15, 3) := by decide +kernel
theorem dX8_turn_3 : decode cX8_turn 3 = .ok (.aload_n 0, 1) := by decide +kernel
theorem dX8_turn_32 : decode cX8_turn 32 = .ok (.iconst 1, 1) := by decide +kernel
theorem dX8_turn_33 : decode cX8_turn 33 = .ok (.isub, 1) := by decide +kernel
theorem dX8_turn_34 : decode cX8_turn 34 = .ok (.iload_n 1, 1) := by decide +kernel
theorem dX8_turn_35 : decode cX8_turn 35 = .ok (.isub, 1) := by decide +kernel
theorem dX8_turn_36 : decode cX8_turn 36 = .ok (.iaload, 1) := by decide +kernel
theorem dX8_turn_37 : decode cX8_turn 37 = .ok (.iastore, 1) := by decide +kernel
theorem dX8_turn_38 : decode cX8_turn 38 = .ok (.aload_n 0, 1) := by decide +kernel
theorem dX8_turn_39 : decode cX8_turn 39 = .ok (.getfield 9, 3) := by decide +kernel
theorem dX8_turn_4 : decode cX8_turn 4 = .ok (.getfield 15, 3) := by decide +kernel
theorem dX8_turn_42 : decode cX8_turn 42 = .ok (.aload_n 0, 1) := by decide +kernel
theorem dX8_turn_43 : decode cX8_turn 43 = .ok (.getfield 15, 3) := by decide +kernel
theorem dX8_turn_46 : decode cX8_turn 46 = .ok (.iconst 1, 1) := by decide +kernel
theorem dX8_turn_47 : decode cX8_turn 47 = .ok (.isub, 1) := by decide +kernel
theorem dX8_turn_48 : decode cX8_turn 48 = .ok (.iload_n 1, 1) := by decide +kernel
theorem dX8_turn_49 : decode cX8_turn 49 = .ok (.isub, 1) := by decide +kernel
theorem dX8_turn_50 : decode cX8_turn 50 = .ok (.iload_n 2, 1) := by decide +kernel
theorem dX8_turn_51 : decode cX8_turn 51 = .ok (.iastore, 1) := by decide +kernel
theorem dX8_turn_52 : decode cX8_turn 52 = .ok (.iinc 1 1, 3) := by decide +kernel
theorem dX8_turn_55 : decode cX8_turn 55 = .ok (.goto (-53), 3) := by decide +kernel
theorem dX8_turn_58 : decode cX8_turn 58 = .ok (.return_, 1) := by decide +kernel
theorem dX8_turn_7 : decode cX8_turn 7 = .ok (.iconst 2, 1) := by decide +kernel
theorem dX8_turn_8 : decode cX8_turn 8 = .ok (.idiv, 1) := by decide +kernel
theorem dX8_turn_9 : decode cX8_turn 9 = .ok (.if_icmp .ge 49, 3) := by decide +kernel
theorem dm_X8_has : yX8_has.cls = RX8 ∧ yX8_has.cls ≠ "java/lang/invoke/MethodHandle" ∧ yX8_has.cls ≠ "java/lang/invoke/VarHandle" ∧ (parseMethodDescriptor yX8_has.desc).map (fun d => d.parameters.length) = some 1 := by decide +kernel
theorem dm_X8_putBehind : yX8_putBehind.cls = RX8 ∧ yX8_putBehind.cls ≠ "java/lang/invoke/MethodHandle" ∧ yX8_putBehind.cls ≠ "java/lang/invoke/VarHandle" ∧ (parseMethodDescriptor yX8_putBehind.desc).map (fun d => d.parameters.length) = some 2 := by decide +kernel
theorem dm_X7_layTerm : yX7_layTerm.cls = RX7 ∧ yX7_layTerm.cls ≠ "java/lang/invoke/MethodHandle" ∧ yX7_layTerm.cls ≠ "java/lang/invoke/VarHandle" ∧ (parseMethodDescriptor yX7_layTerm.desc).map (fun d => d.parameters.length) = some 0 := by decide +kernel
theorem dm_X8_becomeInch : yX8_becomeInch.cls = RX8 ∧ yX8_becomeInch.cls ≠ "java/lang/invoke/MethodHandle" ∧ yX8_becomeInch.cls ≠ "java/lang/invoke/VarHandle" ∧ (parseMethodDescriptor yX8_becomeInch.desc).map (fun d => d.parameters.length) = some 1 := by decide +kernel
theorem dm_X7_repeatTerm : yX7_repeatTerm.cls = RX7 ∧ yX7_repeatTerm.cls ≠ "java/lang/invoke/MethodHandle" ∧ yX7_repeatTerm.cls ≠ "java/lang/invoke/VarHandle" ∧ (parseMethodDescriptor yX7_repeatTerm.desc).map (fun d => d.parameters.length) = some 1 := by decide +kernel
theorem dm_X8_addTo : yX8_addTo.cls = RX8 ∧ yX8_addTo.cls ≠ "java/lang/invoke/MethodHandle" ∧ yX8_addTo.cls ≠ "java/lang/invoke/VarHandle" ∧ (parseMethodDescriptor yX8_addTo.desc).map (fun d => d.parameters.length) = some 2 := by decide +kernel
theorem dm_X7_beginTerm : yX7_beginTerm.cls = RX7 ∧ yX7_beginTerm.cls ≠ "java/lang/invoke/MethodHandle" ∧ yX7_beginTerm.cls ≠ "java/lang/invoke/VarHandle" ∧ (parseMethodDescriptor yX7_beginTerm.desc).map (fun d => d.parameters.length) = some 1 := by decide +kernel
theorem dm_X7_openRow : yX7_openRow.cls = RX7 ∧ yX7_openRow.cls ≠ "java/lang/invoke/MethodHandle" ∧ yX7_openRow.cls ≠ "java/lang/invoke/VarHandle" ∧ (parseMethodDescriptor yX7_openRow.desc).map (fun d => d.parameters.length) = some 0 := by decide +kernel
theorem dm_X8_copy : yX8_copy.cls = RX8 ∧ yX8_copy.cls ≠ "java/lang/invoke/MethodHandle" ∧ yX8_copy.cls ≠ "java/lang/invoke/VarHandle" ∧ (parseMethodDescriptor yX8_copy.desc).map (fun d => d.parameters.length) = some 1 := by decide +kernel
theorem dm_X7_open : yX7_open.cls = RX7 ∧ yX7_open.cls ≠ "java/lang/invoke/MethodHandle" ∧ yX7_open.cls ≠ "java/lang/invoke/VarHandle" ∧ (parseMethodDescriptor yX7_open.desc).map (fun d => d.parameters.length) = some 0 := by decide +kernel
theorem dm_X7_close : yX7_close.cls = RX7 ∧ yX7_close.cls ≠ "java/lang/invoke/MethodHandle" ∧ yX7_close.cls ≠ "java/lang/invoke/VarHandle" ∧ (parseMethodDescriptor yX7_close.desc).map (fun d => d.parameters.length) = some 0 := by decide +kernel
theorem dm_X8_turn : yX8_turn.cls = RX8 ∧ yX8_turn.cls ≠ "java/lang/invoke/MethodHandle" ∧ yX8_turn.cls ≠ "java/lang/invoke/VarHandle" ∧ (parseMethodDescriptor yX8_turn.desc).map (fun d => d.parameters.length) = some 0 := by decide +kernel
set_option maxRecDepth 100000 in
def wC_Strip_addTo (j : Nat) (a0 : Int) (a1 : Int) (M : zM) (Q : zM → Prop) : Prop := wC_Strip_has j a0 M (fun z4 => (z4 = 0 → Q M) ∧ (z4 ≠ 0 → ((0 ≤ (sI a0) ∧ (sI a0) < 24) ∧ ((0 ≤ (sI a0) ∧ (sI a0) < 24) ∧ (∀ M10 : zM, M10 = zup M (j + 1) (sI a0).toNat (orI (M (j + 1) (sI a0).toNat) a1) → Q M10)))))
set_option maxHeartbeats 4000000 in
set_option maxRecDepth 100000 in
theorem cC_Strip_addTo (l : Launch) (D : va_G) (dA : Nat → ClassId) (b : Nat) (M : zM) (j : Nat) (a0 : Int) (a1 : Int) (lt_j : j < nC) (cd_j : zcd wC j = 6) (Q : zM → Prop) (h : wC_Strip_addTo j a0 a1 M Q) : Met l yX8_addTo (.code yX8_addTo cX8_addTo 3 none :: zt) (z_rm 1) (va_Pc [.ref (b + j), .int (iI a0), .int (iI a1)] (wPre D dA vwCl (z_tys dA) wC nC b M)) (va_Qv (wQv Q) (zB D dA vwCl wC nC b) (zA nC b)) 0 0 (zA nC b) := by
  unfold wC_Strip_addTo at h
  refine Met.ofW (cc := cX8_addTo) (maxL := 3) (ret := none) (by decide) rfl ?_
  intro p e s m args below meth c s₁ B hml hv
  obtain ⟨hargs, hS, hK⟩ := hv
  have hx := B.exec
  have hb := B.bytes
  have hr := B.returns
  have hts := atoms_spec (ws := .code yX8_addTo cX8_addTo 3 none :: zt) B.pre
  have hown : s.vm.findClass RX8 = some m.cls := findClass_of_methodNamed B.named
  have hlocks := B.notSynchronized
  have hS0 : va_S (zA nC b) s.heap s.heap [] := va_S.rf
  have hl := lv_entry ([.ref (b + j), .int (iI a0), .int (iI a1)]) (n := 3) (Nat.le_of_ble_eq_true rfl)
  have hent : entryFrame m args 3 = F0 m 0 ((lg_sl ([.ref (b + j), .int (iI a0), .int (iI a1)]) ++ List.replicate (3 - (lg_sl ([.ref (b + j), .int (iI a0), .int (iI a1)])).length) Slot.unset).toArray) [] := by rw [hargs]; exact lg_entry_eq m ([.ref (b + j), .int (iI a0), .int (iI a1)]) 3
  rw [hent]
  generalize (lg_sl ([.ref (b + j), .int (iI a0), .int (iI a1)]) ++ List.replicate (3 - (lg_sl ([.ref (b + j), .int (iI a0), .int (iI a1)])).length) Slot.unset).toArray = ls at hl ⊢
  have hl : lv_has ls 3 [(0, .ref (b + j)), (1, .int (iI a0)), (2, .int (iI a1))] := hl
  obtain ⟨lt1, cd2⟩ := nx_strip j lt_j cd_j
  refine lv_aload_n hx hb dX8_addTo_0 rfl (lv_at hl 0 rfl) ?_
  refine lv_iload_n hx hb dX8_addTo_1 rfl (lv_at hl 1 rfl) ?_
  refine w_callz (va_runV (As := [.int (iI a0)]) (rest := []) ⟨hx, hb, hml, hown, hts⟩ (cC_Strip_has l D dA b M j a0 lt_j cd_j _ h) (cwV 1 hts (z_gV k326 k327 k328 k3 k329) rfl rfl rfl dm_X8_has ⟨Nat.le_of_ble_eq_true rfl, Nat.le_of_ble_eq_true rfl⟩) ⟨wPre_blind, (w_recv hS hK.1 lt_j (zkd_of cd_j rfl) (by decide) (rfl : vwCl[8]? = some (RX8, TX8, 2))), w_pre hS hK⟩ rfl rfl hl.1 rfl (lv_room (Nat.le_of_ble_eq_true rfl)) dX8_addTo_2 ⟨Nat.le_refl _, Nat.le_refl _⟩) hS0 (fun z4 M3 H locs r5 h hS hS0 => ?_)
  obtain ⟨e6, h⟩ := h
  rw [e6] at hS
  refine w_if_eq (tgt := 18) hx hb (sI_01 r5) dX8_addTo_5 (by decide) (fun c7 => ?_) (fun c7 => ?_)
  · skip
    have h := h.1 c7
    exact w_vret hx hb hr hlocks hS hS0 h dX8_addTo_18
  · skip
    have h := h.2 c7
    refine lv_aload_n hx hb dX8_addTo_8 rfl (lv_at hl 0 rfl) ?_
    refine w_getr (j2 := (j + 1)) hx hb hts (z_memU u8) hown hK.1 hS f8_0 lt_j (zkd_of cd_j rfl) (zrf_of cd_j rfl) (Or.inl (hts _ (z_mem k41))) dX8_addTo_9 ?_
    refine lv_iload_n hx hb dX8_addTo_12 rfl (lv_at hl 1 rfl) ?_
    refine lv_dup2_11 hx hb dX8_addTo_13 rfl rfl ?_
    obtain ⟨o8, h⟩ := h
    refine w_iald (n := 24) (i := (sI a0)) hx hb hK.1 (t0 := 0) rfl hS lt1 (zkd_of cd2 rfl) (zln_of cd2 rfl) rfl o8.1 o8.2 (by decide) dX8_addTo_14 ?_
    refine lv_iload_n hx hb dX8_addTo_15 rfl (lv_at hl 2 rfl) ?_
    refine w_ior hx hb dX8_addTo_16 ?_
    obtain ⟨o9, h⟩ := h
    refine w_iast (z := (orI (M (j + 1) (sI a0).toNat) a1)) (n := 24) (i := (sI a0)) hx hb hK.1 (t0 := 0) rfl hS hS0 lt1 (zkd_of cd2 rfl) (zln_of cd2 rfl) rfl o9.1 o9.2 (by decide) dX8_addTo_17 (fun H locs hS hS0 => ?_)
    obtain ⟨M10, e11⟩ : ∃ M10 : zM, M10 = zup M (j + 1) (sI a0).toNat (orI (M (j + 1) (sI a0).toNat) a1) := ⟨_, rfl⟩
    rw [← e11] at hS
    have h := h M10 e11
    exact w_vret hx hb hr hlocks hS hS0 h dX8_addTo_18

set_option maxRecDepth 100000 in
def wC_Strip_putBehind (j : Nat) (a0 : Nat) (a1 : Int) (M : zM) (Q : zM → Prop) : Prop := wL2 (fun K14 x5 x6 M7 => ((sI (M7 a0 1)) ≤ (sI x6) → (∀ M16 : zM, M16 = zup M7 j 1 (max (sI (M7 j 1)) (sI x5)) → Q M16)) ∧ ((sI x6) < (sI (M7 a0 1)) → (24 ≤ (sI x5) → (∀ M19 : zM, M19 = zup M7 j 1 (max (sI (M7 j 1)) (sI x5)) → Q M19)) ∧ ((sI x5) < 24 → ((0 ≤ (sI x6) ∧ (sI x6) < 24) ∧ ((sI (M7 j 1)) ≤ (sI x5) → ((0 ≤ (sI x5) ∧ (sI x5) < 24) ∧ (∀ M24 : zM, M24 = zup M7 (j + 1) (sI x5).toNat (orI (M7 (a0 + 1) (sI x6).toNat) 0) → K14 (x5 + 1) (x6 + 1) M24))) ∧ ((sI x5) < (sI (M7 j 1)) → ((0 ≤ (sI x5) ∧ (sI x5) < 24) ∧ ((0 ≤ (sI x5) ∧ (sI x5) < 24) ∧ (∀ M30 : zM, M30 = zup M7 (j + 1) (sI x5).toNat (orI (M7 (a0 + 1) (sI x6).toNat) (M7 (j + 1) (sI x5).toNat)) → K14 (x5 + 1) (x6 + 1) M30)))))))) (max 0 (sI ((M j 1) - a1))) 0 M
set_option maxHeartbeats 4000000 in
set_option maxRecDepth 100000 in
theorem cC_Strip_putBehind (l : Launch) (D : va_G) (dA : Nat → ClassId) (b : Nat) (M : zM) (j : Nat) (a0 : Nat) (a1 : Int) (lt_j : j < nC) (cd_j : zcd wC j = 6) (lt_a0 : a0 < nC) (cd_a0 : zcd wC a0 = 6) (Q : zM → Prop) (h : wC_Strip_putBehind j a0 a1 M Q) : Met l yX8_putBehind (.code yX8_putBehind cX8_putBehind 5 none :: zt) (z_rm 1) (va_Pc [.ref (b + j), .ref (b + a0), .int (iI a1)] (wPre D dA vwCl (z_tys dA) wC nC b M)) (va_Qv (wQv Q) (zB D dA vwCl wC nC b) (zA nC b)) 0 0 (zA nC b) := by
  unfold wC_Strip_putBehind at h
  refine Met.ofW (cc := cX8_putBehind) (maxL := 5) (ret := none) (by decide) rfl ?_
  intro p e s m args below meth c s₁ B hml hv
  obtain ⟨hargs, hS, hK⟩ := hv
  have hx := B.exec
  have hb := B.bytes
  have hr := B.returns
  have hts := atoms_spec (ws := .code yX8_putBehind cX8_putBehind 5 none :: zt) B.pre
  have hown : s.vm.findClass RX8 = some m.cls := findClass_of_methodNamed B.named
  have hlocks := B.notSynchronized
  have hS0 : va_S (zA nC b) s.heap s.heap [] := va_S.rf
  have hl := lv_entry ([.ref (b + j), .ref (b + a0), .int (iI a1)]) (n := 5) (Nat.le_of_ble_eq_true rfl)
  have hent : entryFrame m args 5 = F0 m 0 ((lg_sl ([.ref (b + j), .ref (b + a0), .int (iI a1)]) ++ List.replicate (5 - (lg_sl ([.ref (b + j), .ref (b + a0), .int (iI a1)])).length) Slot.unset).toArray) [] := by rw [hargs]; exact lg_entry_eq m ([.ref (b + j), .ref (b + a0), .int (iI a1)]) 5
  rw [hent]
  generalize (lg_sl ([.ref (b + j), .ref (b + a0), .int (iI a1)]) ++ List.replicate (5 - (lg_sl ([.ref (b + j), .ref (b + a0), .int (iI a1)])).length) Slot.unset).toArray = ls at hl ⊢
  have hl : lv_has ls 5 [(0, .ref (b + j)), (1, .ref (b + a0)), (2, .int (iI a1))] := hl
  obtain ⟨lt1, cd2⟩ := nx_strip j lt_j cd_j
  obtain ⟨lt3, cd4⟩ := nx_strip a0 lt_a0 cd_a0
  refine z_iconst hx hb dX8_putBehind_0 ?_
  refine lv_aload_n hx hb dX8_putBehind_1 rfl (lv_at hl 0 rfl) ?_
  refine w_geti hx hb hts (z_memU u8) hown hK.1 hS f8_1 lt_j (zkd_of cd_j rfl) (Or.inl (hts _ (z_mem k44))) dX8_putBehind_2 ?_
  refine lv_iload_n hx hb dX8_putBehind_5 rfl (lv_at hl 2 rfl) ?_
  refine z_isub hx hb dX8_putBehind_6 ?_
  refine w_mmax hx hb (hml.trans hl.1.symm) hown (hts _ (z_mem k340)) (hts _ (z_mem k341)) (hts _ (z_mem k15)) (hts _ (z_mem k342)) (by exact Nat.le_of_ble_eq_true rfl) (by exact Nat.le_of_ble_eq_true rfl) (by exact Nat.le_refl _) (by exact Nat.le_refl _) (sI_of (by decide)) rfl dX8_putBehind_7 ?_
  refine lv_istore_n (lv' := [(3, .int (iI (max 0 (sI ((M j 1) - a1))))), (0, .ref (b + j)), (1, .ref (b + a0)), (2, .int (iI a1))]) hx hb dX8_putBehind_10 rfl hl (by decide) rfl (fun ls hl => ?_)
  refine z_iconst hx hb dX8_putBehind_11 ?_
  refine lv_istore (lv' := [(4, .int (iI 0)), (3, .int (iI (max 0 (sI ((M j 1) - a1))))), (0, .ref (b + j)), (1, .ref (b + a0)), (2, .int (iI a1))]) hx hb dX8_putBehind_12 hl (by decide) rfl (fun ls hl => ?_)
  obtain ⟨I8, ⟨n9, h10⟩, h11⟩ := h
  have L12 : ∀ (n13 : Nat) (x5 x6 : Int) (M7 : zM) (H : Heap) (locs : List Loc) (ls : Array Slot), I8 n13 x5 x6 M7 → zR D dA vwCl wC nC b M7 H → va_S (zA nC b) s.heap H locs → lv_has ls 5 [(0, .ref (b + j)), (1, .ref (b + a0)), (3, .int (iI x5)), (4, .int (iI x6))] → W p l e (headSpec (.code yX8_putBehind cX8_putBehind 5 none :: zt) (z_rm 1)).room s m args below meth c H locs 0 0 (MQ below (va_Qv (wQv Q) (zB D dA vwCl wC nC b) (zA nC b)) args s 0 0 (zA nC b)) (F0 m 14 ls []) := by
    intro n13
    induction n13 using Nat.strongRecOn with
    | ind n13 i14 =>
      intro x5 x6 M7 H locs ls h hS hS0 hl
      have h := h11 n13 x5 x6 M7 h
      refine lv_iload hx hb dX8_putBehind_14 (lv_at hl 3 rfl) ?_
      refine lv_aload_n hx hb dX8_putBehind_16 rfl (lv_at hl 1 rfl) ?_
      refine w_geti hx hb hts (z_memU u8) hown hK.1 hS f8_1 lt_a0 (zkd_of cd_a0 rfl) (Or.inl (hts _ (z_mem k44))) dX8_putBehind_17 ?_
      refine w_icmp_ge (tgt := 73) hx hb rfl rfl dX8_putBehind_20 (by decide) (fun c15 => ?_) (fun c15 => ?_)
      · skip
        have h := h.1 c15
        refine lv_aload_n hx hb dX8_putBehind_73 rfl (lv_at hl 0 rfl) ?_
        refine lv_aload_n hx hb dX8_putBehind_74 rfl (lv_at hl 0 rfl) ?_
        refine w_geti hx hb hts (z_memU u8) hown hK.1 hS f8_1 lt_j (zkd_of cd_j rfl) (Or.inl (hts _ (z_mem k44))) dX8_putBehind_75 ?_
        refine lv_iload_n hx hb dX8_putBehind_78 rfl (lv_at hl 2 rfl) ?_
        refine w_mmax hx hb (hml.trans hl.1.symm) hown (hts _ (z_mem k340)) (hts _ (z_mem k341)) (hts _ (z_mem k15)) (hts _ (z_mem k342)) (by exact Nat.le_of_ble_eq_true rfl) (by exact Nat.le_of_ble_eq_true rfl) (by exact Nat.le_refl _) (by exact Nat.le_refl _) rfl rfl dX8_putBehind_79 ?_
        refine w_puti hx hb hts (z_memU u8) tyX8 tyX8_ok nmX8 hown hK.1 hS hS0 f8_1 lt_j (zkd_of cd_j rfl) (Or.inl (hts _ (z_mem k44))) rfl (z := (max (sI (M7 j 1)) (sI x5))) (by decide +kernel) dX8_putBehind_82 (fun H locs hS hS0 => ?_)
        obtain ⟨M16, e17⟩ : ∃ M16 : zM, M16 = zup M7 j 1 (max (sI (M7 j 1)) (sI x5)) := ⟨_, rfl⟩
        rw [← e17] at hS
        have h := h M16 e17
        exact w_vret hx hb hr hlocks hS hS0 h dX8_putBehind_85
      · skip
        have h := h.2 c15
        refine lv_iload_n hx hb dX8_putBehind_23 rfl (lv_at hl 2 rfl) ?_
        refine lv_aload_n hx hb dX8_putBehind_24 rfl (lv_at hl 0 rfl) ?_
        refine w_getr (j2 := (j + 1)) hx hb hts (z_memU u8) hown hK.1 hS f8_0 lt_j (zkd_of cd_j rfl) (zrf_of cd_j rfl) (Or.inl (hts _ (z_mem k41))) dX8_putBehind_25 ?_
        refine w_alen (n := 24) hx hb hK.1 (t0 := 0) rfl hS lt1 (zkd_of cd2 rfl) (zln_of cd2 rfl) dX8_putBehind_28 ?_
        refine z_top (show (((24 : Nat) : Int)) = 24 from by decide) ?_
        refine w_icmp_ge (tgt := 73) hx hb rfl (sI_of (by decide)) dX8_putBehind_29 (by decide) (fun c18 => ?_) (fun c18 => ?_)
        · skip
          have h := h.1 c18
          refine lv_aload_n hx hb dX8_putBehind_73 rfl (lv_at hl 0 rfl) ?_
          refine lv_aload_n hx hb dX8_putBehind_74 rfl (lv_at hl 0 rfl) ?_
          refine w_geti hx hb hts (z_memU u8) hown hK.1 hS f8_1 lt_j (zkd_of cd_j rfl) (Or.inl (hts _ (z_mem k44))) dX8_putBehind_75 ?_
          refine lv_iload_n hx hb dX8_putBehind_78 rfl (lv_at hl 2 rfl) ?_
          refine w_mmax hx hb (hml.trans hl.1.symm) hown (hts _ (z_mem k340)) (hts _ (z_mem k341)) (hts _ (z_mem k15)) (hts _ (z_mem k342)) (by exact Nat.le_of_ble_eq_true rfl) (by exact Nat.le_of_ble_eq_true rfl) (by exact Nat.le_refl _) (by exact Nat.le_refl _) rfl rfl dX8_putBehind_79 ?_
          refine w_puti hx hb hts (z_memU u8) tyX8 tyX8_ok nmX8 hown hK.1 hS hS0 f8_1 lt_j (zkd_of cd_j rfl) (Or.inl (hts _ (z_mem k44))) rfl (z := (max (sI (M7 j 1)) (sI x5))) (by decide +kernel) dX8_putBehind_82 (fun H locs hS hS0 => ?_)
          obtain ⟨M19, e20⟩ : ∃ M19 : zM, M19 = zup M7 j 1 (max (sI (M7 j 1)) (sI x5)) := ⟨_, rfl⟩
          rw [← e20] at hS
          have h := h M19 e20
          exact w_vret hx hb hr hlocks hS hS0 h dX8_putBehind_85
        · skip
          have h := h.2 c18
          refine lv_aload_n hx hb dX8_putBehind_32 rfl (lv_at hl 0 rfl) ?_
          refine w_getr (j2 := (j + 1)) hx hb hts (z_memU u8) hown hK.1 hS f8_0 lt_j (zkd_of cd_j rfl) (zrf_of cd_j rfl) (Or.inl (hts _ (z_mem k41))) dX8_putBehind_33 ?_
          refine lv_iload_n hx hb dX8_putBehind_36 rfl (lv_at hl 2 rfl) ?_
          refine lv_aload_n hx hb dX8_putBehind_37 rfl (lv_at hl 1 rfl) ?_
          refine w_getr (j2 := (a0 + 1)) hx hb hts (z_memU u8) hown hK.1 hS f8_0 lt_a0 (zkd_of cd_a0 rfl) (zrf_of cd_a0 rfl) (Or.inl (hts _ (z_mem k41))) dX8_putBehind_38 ?_
          refine lv_iload hx hb dX8_putBehind_41 (lv_at hl 3 rfl) ?_
          obtain ⟨o21, h⟩ := h
          refine w_iald (n := 24) (i := (sI x6)) hx hb hK.1 (t0 := 0) rfl hS lt3 (zkd_of cd4 rfl) (zln_of cd4 rfl) rfl o21.1 o21.2 (by decide) dX8_putBehind_43 ?_
          refine lv_iload_n hx hb dX8_putBehind_44 rfl (lv_at hl 2 rfl) ?_
          refine lv_aload_n hx hb dX8_putBehind_45 rfl (lv_at hl 0 rfl) ?_
          refine w_geti hx hb hts (z_memU u8) hown hK.1 hS f8_1 lt_j (zkd_of cd_j rfl) (Or.inl (hts _ (z_mem k44))) dX8_putBehind_46 ?_
          refine w_icmp_ge (tgt := 61) hx hb rfl rfl dX8_putBehind_49 (by decide) (fun c22 => ?_) (fun c22 => ?_)
          · skip
            have h := h.1 c22
            refine z_iconst hx hb dX8_putBehind_61 ?_
            refine w_ior hx hb dX8_putBehind_62 ?_
            obtain ⟨o23, h⟩ := h
            refine w_iast (z := (orI (M7 (a0 + 1) (sI x6).toNat) 0)) (n := 24) (i := (sI x5)) hx hb hK.1 (t0 := 0) rfl hS hS0 lt1 (zkd_of cd2 rfl) (zln_of cd2 rfl) rfl o23.1 o23.2 (by decide) dX8_putBehind_63 (fun H locs hS hS0 => ?_)
            obtain ⟨M24, e25⟩ : ∃ M24 : zM, M24 = zup M7 (j + 1) (sI x5).toNat (orI (M7 (a0 + 1) (sI x6).toNat) 0) := ⟨_, rfl⟩
            rw [← e25] at hS
            have h := h M24 e25
            refine z_iinc (lv' := [(3, .int (iI (x5 + 1))), (0, .ref (b + j)), (1, .ref (b + a0)), (4, .int (iI x6))]) hx hb dX8_putBehind_64 hl (k := 2) rfl (by decide) rfl (fun ls hl => ?_)
            refine z_iinc (lv' := [(4, .int (iI (x6 + 1))), (3, .int (iI (x5 + 1))), (0, .ref (b + j)), (1, .ref (b + a0))]) hx hb dX8_putBehind_67 hl (k := 3) rfl (by decide) rfl (fun ls hl => ?_)
            refine lv_goto (tgt := 14) hx hb dX8_putBehind_70 (by decide) ?_
            obtain ⟨n26, h27, h⟩ := h
            exact i14 n26 h27 (x5 + 1) (x6 + 1) M24 _ _ _ h hS hS0 (lv_sub hl [2, 3, 1, 0] rfl)
          · skip
            have h := h.2 c22
            refine lv_aload_n hx hb dX8_putBehind_52 rfl (lv_at hl 0 rfl) ?_
            refine w_getr (j2 := (j + 1)) hx hb hts (z_memU u8) hown hK.1 hS f8_0 lt_j (zkd_of cd_j rfl) (zrf_of cd_j rfl) (Or.inl (hts _ (z_mem k41))) dX8_putBehind_53 ?_
            refine lv_iload_n hx hb dX8_putBehind_56 rfl (lv_at hl 2 rfl) ?_
            obtain ⟨o28, h⟩ := h
            refine w_iald (n := 24) (i := (sI x5)) hx hb hK.1 (t0 := 0) rfl hS lt1 (zkd_of cd2 rfl) (zln_of cd2 rfl) rfl o28.1 o28.2 (by decide) dX8_putBehind_57 ?_
            refine lv_goto (tgt := 62) hx hb dX8_putBehind_58 (by decide) ?_
            refine w_ior hx hb dX8_putBehind_62 ?_
            obtain ⟨o29, h⟩ := h
            refine w_iast (z := (orI (M7 (a0 + 1) (sI x6).toNat) (M7 (j + 1) (sI x5).toNat))) (n := 24) (i := (sI x5)) hx hb hK.1 (t0 := 0) rfl hS hS0 lt1 (zkd_of cd2 rfl) (zln_of cd2 rfl) rfl o29.1 o29.2 (by decide) dX8_putBehind_63 (fun H locs hS hS0 => ?_)
            obtain ⟨M30, e31⟩ : ∃ M30 : zM, M30 = zup M7 (j + 1) (sI x5).toNat (orI (M7 (a0 + 1) (sI x6).toNat) (M7 (j + 1) (sI x5).toNat)) := ⟨_, rfl⟩
            rw [← e31] at hS
            have h := h M30 e31
            refine z_iinc (lv' := [(3, .int (iI (x5 + 1))), (0, .ref (b + j)), (1, .ref (b + a0)), (4, .int (iI x6))]) hx hb dX8_putBehind_64 hl (k := 2) rfl (by decide) rfl (fun ls hl => ?_)
            refine z_iinc (lv' := [(4, .int (iI (x6 + 1))), (3, .int (iI (x5 + 1))), (0, .ref (b + j)), (1, .ref (b + a0))]) hx hb dX8_putBehind_67 hl (k := 3) rfl (by decide) rfl (fun ls hl => ?_)
            refine lv_goto (tgt := 14) hx hb dX8_putBehind_70 (by decide) ?_
            obtain ⟨n32, h33, h⟩ := h
            exact i14 n32 h33 (x5 + 1) (x6 + 1) M30 _ _ _ h hS hS0 (lv_sub hl [2, 3, 1, 0] rfl)
  exact L12 n9 (max 0 (sI ((M j 1) - a1))) 0 M _ _ _ h10 hS hS0 (lv_sub hl [2, 3, 1, 0] rfl)

set_option maxRecDepth 100000 in
def wC_Splicer_layTerm  (M : zM) (Q : Int → zM → Prop) : Prop := ((0 ≤ (sI (M 1 2)) ∧ (sI (M 1 2)) < 6) ∧ ((0 ≤ (sI (M 1 2)) ∧ (sI (M 1 2)) < 6) ∧ ((sI (M (8 + 4 * (sI (M 1 2)).toNat) 1)) ≠ 0 → ((0 ≤ (sI (M 1 2)) ∧ (sI (M 1 2)) < 6) ∧ ((sI (M 5 (sI (M 1 2)).toNat)) ≤ (sI (M (8 + 4 * (sI (M 1 2)).toNat) 1)) → ((sI (((M (6 + 4 * (sI (M 1 2)).toNat) 1) + (M (8 + 4 * (sI (M 1 2)).toNat) 1)) - (M 5 (sI (M 1 2)).toNat))) ≤ 24 → wC_Strip_putBehind (6 + 4 * (sI (M 1 2)).toNat) (8 + 4 * (sI (M 1 2)).toNat) (M 5 (sI (M 1 2)).toNat) M (fun M15 => (∀ M16 : zM, M16 = zup M15 (8 + 4 * (sI (M 1 2)).toNat) 1 0 → ((0 ≤ (sI (M16 1 2)) ∧ (sI (M16 1 2)) < 6) ∧ (∀ M19 : zM, M19 = zup M16 5 (sI (M16 1 2)).toNat 0 → Q 0 M19))))) ∧ (24 < (sI (((M (6 + 4 * (sI (M 1 2)).toNat) 1) + (M (8 + 4 * (sI (M 1 2)).toNat) 1)) - (M 5 (sI (M 1 2)).toNat))) → Q (-100) M)) ∧ ((sI (M (8 + 4 * (sI (M 1 2)).toNat) 1)) < (sI (M 5 (sI (M 1 2)).toNat)) → Q (-101) M))) ∧ ((sI (M (8 + 4 * (sI (M 1 2)).toNat) 1)) = 0 → Q 0 M)))
set_option maxHeartbeats 4000000 in
set_option maxRecDepth 100000 in
theorem cC_Splicer_layTerm (l : Launch) (D : va_G) (dA : Nat → ClassId) (b : Nat) (M : zM)   (Q : Int → zM → Prop) (h : wC_Splicer_layTerm  M Q) : Met l yX7_layTerm (.code yX7_layTerm cX7_layTerm 4 (some .int) :: zt) (z_rm 2) (va_Pc [.ref (b + 1)] (wPre D dA vwCl (z_tys dA) wC nC b M)) (va_Qi (wQi Q) (zB D dA vwCl wC nC b) (zA nC b)) 0 0 (zA nC b) := by
  unfold wC_Splicer_layTerm at h
  refine Met.ofW (cc := cX7_layTerm) (maxL := 4) (ret := (some .int)) (by decide) rfl ?_
  intro p e s m args below meth c s₁ B hml hv
  obtain ⟨hargs, hS, hK⟩ := hv
  have hx := B.exec
  have hb := B.bytes
  have hr := B.returns
  have hts := atoms_spec (ws := .code yX7_layTerm cX7_layTerm 4 (some .int) :: zt) B.pre
  have hown : s.vm.findClass RX7 = some m.cls := findClass_of_methodNamed B.named
  have hlocks := B.notSynchronized
  have hS0 : va_S (zA nC b) s.heap s.heap [] := va_S.rf
  have hl := lv_entry ([.ref (b + 1)]) (n := 4) (Nat.le_of_ble_eq_true rfl)
  have hent : entryFrame m args 4 = F0 m 0 ((lg_sl ([.ref (b + 1)]) ++ List.replicate (4 - (lg_sl ([.ref (b + 1)])).length) Slot.unset).toArray) [] := by rw [hargs]; exact lg_entry_eq m ([.ref (b + 1)]) 4
  rw [hent]
  generalize (lg_sl ([.ref (b + 1)]) ++ List.replicate (4 - (lg_sl ([.ref (b + 1)])).length) Slot.unset).toArray = ls at hl ⊢
  have hl : lv_has ls 4 [(0, .ref (b + 1))] := hl
  refine lv_aload_n hx hb dX7_layTerm_0 rfl (lv_at hl 0 rfl) ?_
  refine w_getr (j2 := 3) hx hb hts (z_memU u7) hown hK.1 hS f7_4 (by decide) (zkd_of (rfl : zcd wC 1 = 1) rfl) (zrf_of (rfl : zcd wC 1 = 1) rfl) (Or.inl (hts _ (z_mem k59))) dX7_layTerm_1 ?_
  refine lv_aload_n hx hb dX7_layTerm_4 rfl (lv_at hl 0 rfl) ?_
  refine w_geti hx hb hts (z_memU u7) hown hK.1 hS f7_2 (by decide) (zkd_of (rfl : zcd wC 1 = 1) rfl) (Or.inl (hts _ (z_mem k57))) dX7_layTerm_5 ?_
  obtain ⟨o1, h⟩ := h
  refine w_aald (n := 6) (i := (sI (M 1 2))) (j2 := (6 + 4 * (sI (M 1 2)).toNat)) hx hb hK.1 (t0 := 4) (r := 4) (by decide) rfl rfl hS (by decide) (zkd_of (rfl : zcd wC 3 = 3) rfl) (zln_of (rfl : zcd wC 3 = 3) rfl) rfl o1.1 o1.2 (by decide) (zrf_of (rfl : zcd wC 3 = 3) rfl) dX7_layTerm_8 ?_
  obtain ⟨lt2, cd3⟩ : (6 + 4 * (sI (M 1 2)).toNat) < nC ∧ zcd wC (6 + 4 * (sI (M 1 2)).toNat) = 6 := (by decide : ∀ k : Nat, k < 6 → (6 + 4 * k) < nC ∧ zcd wC (6 + 4 * k) = 6) (sI (M 1 2)).toNat (by clear h; have h0 := o1.1; have h1 := o1.2; omega)
  obtain ⟨lt4, cd5⟩ := nx_strip (6 + 4 * (sI (M 1 2)).toNat) lt2 cd3
  refine lv_astore_n (lv' := [(1, .ref (b + (6 + 4 * (sI (M 1 2)).toNat))), (0, .ref (b + 1))]) hx hb dX7_layTerm_9 rfl hl (by decide) rfl (fun ls hl => ?_)
  refine lv_aload_n hx hb dX7_layTerm_10 rfl (lv_at hl 1 rfl) ?_
  refine w_getr (j2 := 4) hx hb hts (z_memU u7) hown hK.1 hS f7_5 (by decide) (zkd_of (rfl : zcd wC 1 = 1) rfl) (zrf_of (rfl : zcd wC 1 = 1) rfl) (Or.inl (hts _ (z_mem k60))) dX7_layTerm_11 ?_
  refine lv_aload_n hx hb dX7_layTerm_14 rfl (lv_at hl 1 rfl) ?_
  refine w_geti hx hb hts (z_memU u7) hown hK.1 hS f7_2 (by decide) (zkd_of (rfl : zcd wC 1 = 1) rfl) (Or.inl (hts _ (z_mem k57))) dX7_layTerm_15 ?_
  obtain ⟨o6, h⟩ := h
  refine w_aald (n := 6) (i := (sI (M 1 2))) (j2 := (8 + 4 * (sI (M 1 2)).toNat)) hx hb hK.1 (t0 := 4) (r := 4) (by decide) rfl rfl hS (by decide) (zkd_of (rfl : zcd wC 4 = 4) rfl) (zln_of (rfl : zcd wC 4 = 4) rfl) rfl o6.1 o6.2 (by decide) (zrf_of (rfl : zcd wC 4 = 4) rfl) dX7_layTerm_18 ?_
  obtain ⟨lt7, cd8⟩ : (8 + 4 * (sI (M 1 2)).toNat) < nC ∧ zcd wC (8 + 4 * (sI (M 1 2)).toNat) = 6 := (by decide : ∀ k : Nat, k < 6 → (8 + 4 * k) < nC ∧ zcd wC (8 + 4 * k) = 6) (sI (M 1 2)).toNat (by clear h; have h0 := o6.1; have h1 := o6.2; omega)
  obtain ⟨lt9, cd10⟩ := nx_strip (8 + 4 * (sI (M 1 2)).toNat) lt7 cd8
  refine lv_astore_n (lv' := [(2, .ref (b + (8 + 4 * (sI (M 1 2)).toNat))), (1, .ref (b + (6 + 4 * (sI (M 1 2)).toNat))), (0, .ref (b + 1))]) hx hb dX7_layTerm_19 rfl hl (by decide) rfl (fun ls hl => ?_)
  refine lv_aload_n hx hb dX7_layTerm_20 rfl (lv_at hl 0 rfl) ?_
  refine w_geti hx hb hts (z_memU u8) hown hK.1 hS f8_1 lt7 (zkd_of cd8 rfl) (Or.inl (hts _ (z_mem k46))) dX7_layTerm_21 ?_
  refine w_if_ne (tgt := 29) hx hb rfl dX7_layTerm_24 (by decide) (fun c11 => ?_) (fun c11 => ?_)
  · skip
    have h := h.1 c11
    refine lv_aload_n hx hb dX7_layTerm_29 rfl (lv_at hl 2 rfl) ?_
    refine w_getr (j2 := 5) hx hb hts (z_memU u7) hown hK.1 hS f7_6 (by decide) (zkd_of (rfl : zcd wC 1 = 1) rfl) (zrf_of (rfl : zcd wC 1 = 1) rfl) (Or.inl (hts _ (z_mem k61))) dX7_layTerm_30 ?_
    refine lv_aload_n hx hb dX7_layTerm_33 rfl (lv_at hl 2 rfl) ?_
    refine w_geti hx hb hts (z_memU u7) hown hK.1 hS f7_2 (by decide) (zkd_of (rfl : zcd wC 1 = 1) rfl) (Or.inl (hts _ (z_mem k57))) dX7_layTerm_34 ?_
    obtain ⟨o12, h⟩ := h
    refine w_iald (n := 6) (i := (sI (M 1 2))) hx hb hK.1 (t0 := 0) rfl hS (by decide) (zkd_of (rfl : zcd wC 5 = 5) rfl) (zln_of (rfl : zcd wC 5 = 5) rfl) rfl o12.1 o12.2 (by decide) dX7_layTerm_37 ?_
    refine lv_istore_n (lv' := [(3, .int (iI (M 5 (sI (M 1 2)).toNat))), (2, .ref (b + (8 + 4 * (sI (M 1 2)).toNat))), (1, .ref (b + (6 + 4 * (sI (M 1 2)).toNat))), (0, .ref (b + 1))]) hx hb dX7_layTerm_38 rfl hl (by decide) rfl (fun ls hl => ?_)
    refine lv_iload_n hx hb dX7_layTerm_39 rfl (lv_at hl 0 rfl) ?_
    refine lv_aload_n hx hb dX7_layTerm_40 rfl (lv_at hl 1 rfl) ?_
    refine w_geti hx hb hts (z_memU u8) hown hK.1 hS f8_1 lt7 (zkd_of cd8 rfl) (Or.inl (hts _ (z_mem k46))) dX7_layTerm_41 ?_
    refine w_icmp_le (tgt := 50) hx hb rfl rfl dX7_layTerm_44 (by decide) (fun c13 => ?_) (fun c13 => ?_)
    · skip
      have h := h.1 c13
      refine lv_aload_n hx hb dX7_layTerm_50 rfl (lv_at hl 2 rfl) ?_
      refine w_geti hx hb hts (z_memU u8) hown hK.1 hS f8_1 lt2 (zkd_of cd3 rfl) (Or.inl (hts _ (z_mem k46))) dX7_layTerm_51 ?_
      refine lv_aload_n hx hb dX7_layTerm_54 rfl (lv_at hl 1 rfl) ?_
      refine w_geti hx hb hts (z_memU u8) hown hK.1 hS f8_1 lt7 (zkd_of cd8 rfl) (Or.inl (hts _ (z_mem k46))) dX7_layTerm_55 ?_
      refine z_iadd hx hb dX7_layTerm_58 ?_
      refine lv_iload_n hx hb dX7_layTerm_59 rfl (lv_at hl 0 rfl) ?_
      refine z_isub hx hb dX7_layTerm_60 ?_
      refine z_bipush hx hb (by decide) dX7_layTerm_61 ?_
      refine w_icmp_le (tgt := 69) hx hb rfl (sI_of (by decide)) dX7_layTerm_63 (by decide) (fun c14 => ?_) (fun c14 => ?_)
      · skip
        have h := h.1 c14
        refine lv_aload_n hx hb dX7_layTerm_69 rfl (lv_at hl 2 rfl) ?_
        refine lv_aload_n hx hb dX7_layTerm_70 rfl (lv_at hl 1 rfl) ?_
        refine lv_iload_n hx hb dX7_layTerm_71 rfl (lv_at hl 0 rfl) ?_
        refine w_callv (va_runV (As := [.ref (b + (8 + 4 * (sI (M 1 2)).toNat)), .int (iI (M 5 (sI (M 1 2)).toNat))]) (rest := []) ⟨hx, hb, hml, hown, hts⟩ (cC_Strip_putBehind l D dA b M (6 + 4 * (sI (M 1 2)).toNat) (8 + 4 * (sI (M 1 2)).toNat) (M 5 (sI (M 1 2)).toNat) lt2 cd3 lt7 cd8 _ h) (cwV 2 hts (z_gV k336 k337 k338 k3 k339) rfl rfl rfl dm_X8_putBehind ⟨Nat.le_of_ble_eq_true rfl, Nat.le_of_ble_eq_true rfl⟩) ⟨wPre_blind, (w_recv hS hK.1 lt2 (zkd_of cd3 rfl) (by decide) (rfl : vwCl[8]? = some (RX8, TX8, 2))), w_pre hS hK⟩ rfl rfl hl.1 rfl (lv_room (Nat.le_of_ble_eq_true rfl)) dX7_layTerm_72 ⟨Nat.le_refl _, Nat.le_refl _⟩) hS0 (fun M15 H locs h hS hS0 => ?_)
        refine lv_aload_n hx hb dX7_layTerm_75 rfl (lv_at hl 1 rfl) ?_
        refine z_iconst hx hb dX7_layTerm_76 ?_
        refine w_puti hx hb hts (z_memU u8) tyX8 tyX8_ok nmX8 hown hK.1 hS hS0 f8_1 lt7 (zkd_of cd8 rfl) (Or.inl (hts _ (z_mem k46))) rfl (z := 0) (by decide +kernel) dX7_layTerm_77 (fun H locs hS hS0 => ?_)
        obtain ⟨M16, e17⟩ : ∃ M16 : zM, M16 = zup M15 (8 + 4 * (sI (M 1 2)).toNat) 1 0 := ⟨_, rfl⟩
        rw [← e17] at hS
        have h := h M16 e17
        refine lv_aload_n hx hb dX7_layTerm_80 rfl (lv_at hl 3 rfl) ?_
        refine w_getr (j2 := 5) hx hb hts (z_memU u7) hown hK.1 hS f7_6 (by decide) (zkd_of (rfl : zcd wC 1 = 1) rfl) (zrf_of (rfl : zcd wC 1 = 1) rfl) (Or.inl (hts _ (z_mem k61))) dX7_layTerm_81 ?_
        refine lv_aload_n hx hb dX7_layTerm_84 rfl (lv_at hl 3 rfl) ?_
        refine w_geti hx hb hts (z_memU u7) hown hK.1 hS f7_2 (by decide) (zkd_of (rfl : zcd wC 1 = 1) rfl) (Or.inl (hts _ (z_mem k57))) dX7_layTerm_85 ?_
        refine z_iconst hx hb dX7_layTerm_88 ?_
        obtain ⟨o18, h⟩ := h
        refine w_iast (z := 0) (n := 6) (i := (sI (M16 1 2))) hx hb hK.1 (t0 := 0) rfl hS hS0 (by decide) (zkd_of (rfl : zcd wC 5 = 5) rfl) (zln_of (rfl : zcd wC 5 = 5) rfl) rfl o18.1 o18.2 (by decide) dX7_layTerm_89 (fun H locs hS hS0 => ?_)
        obtain ⟨M19, e20⟩ : ∃ M19 : zM, M19 = zup M16 5 (sI (M16 1 2)).toNat 0 := ⟨_, rfl⟩
        rw [← e20] at hS
        have h := h M19 e20
        refine z_iconst hx hb dX7_layTerm_90 ?_
        exact w_iret hx hb hr hlocks hS hS0 (sI_of (by decide)) h dX7_layTerm_91
      · skip
        have h := h.2 c14
        refine z_bipush hx hb (by decide) dX7_layTerm_66 ?_
        exact w_iret hx hb hr hlocks hS hS0 (sI_of (by decide)) h dX7_layTerm_68
    · skip
      have h := h.2 c13
      refine z_bipush hx hb (by decide) dX7_layTerm_47 ?_
      exact w_iret hx hb hr hlocks hS hS0 (sI_of (by decide)) h dX7_layTerm_49
  · skip
    have h := h.2 c11
    refine z_iconst hx hb dX7_layTerm_27 ?_
    exact w_iret hx hb hr hlocks hS hS0 (sI_of (by decide)) h dX7_layTerm_28

set_option maxRecDepth 100000 in
def wC_Strip_becomeInch (j : Nat) (a0 : Int) (M : zM) (Q : zM → Prop) : Prop := (∀ M3 : zM, M3 = zup M (j + 1) 0 a0 → (∀ M5 : zM, M5 = zup M3 j 1 1 → Q M5))
set_option maxHeartbeats 4000000 in
set_option maxRecDepth 100000 in
theorem cC_Strip_becomeInch (l : Launch) (D : va_G) (dA : Nat → ClassId) (b : Nat) (M : zM) (j : Nat) (a0 : Int) (lt_j : j < nC) (cd_j : zcd wC j = 6) (Q : zM → Prop) (h : wC_Strip_becomeInch j a0 M Q) : Met l yX8_becomeInch (.code yX8_becomeInch cX8_becomeInch 2 none :: zt) (z_rm 0) (va_Pc [.ref (b + j), .int (iI a0)] (wPre D dA vwCl (z_tys dA) wC nC b M)) (va_Qv (wQv Q) (zB D dA vwCl wC nC b) (zA nC b)) 0 0 (zA nC b) := by
  unfold wC_Strip_becomeInch at h
  refine Met.ofW (cc := cX8_becomeInch) (maxL := 2) (ret := none) (by decide) rfl ?_
  intro p e s m args below meth c s₁ B hml hv
  obtain ⟨hargs, hS, hK⟩ := hv
  have hx := B.exec
  have hb := B.bytes
  have hr := B.returns
  have hts := atoms_spec (ws := .code yX8_becomeInch cX8_becomeInch 2 none :: zt) B.pre
  have hown : s.vm.findClass RX8 = some m.cls := findClass_of_methodNamed B.named
  have hlocks := B.notSynchronized
  have hS0 : va_S (zA nC b) s.heap s.heap [] := va_S.rf
  have hl := lv_entry ([.ref (b + j), .int (iI a0)]) (n := 2) (Nat.le_of_ble_eq_true rfl)
  have hent : entryFrame m args 2 = F0 m 0 ((lg_sl ([.ref (b + j), .int (iI a0)]) ++ List.replicate (2 - (lg_sl ([.ref (b + j), .int (iI a0)])).length) Slot.unset).toArray) [] := by rw [hargs]; exact lg_entry_eq m ([.ref (b + j), .int (iI a0)]) 2
  rw [hent]
  generalize (lg_sl ([.ref (b + j), .int (iI a0)]) ++ List.replicate (2 - (lg_sl ([.ref (b + j), .int (iI a0)])).length) Slot.unset).toArray = ls at hl ⊢
  have hl : lv_has ls 2 [(0, .ref (b + j)), (1, .int (iI a0))] := hl
  obtain ⟨lt1, cd2⟩ := nx_strip j lt_j cd_j
  refine lv_aload_n hx hb dX8_becomeInch_0 rfl (lv_at hl 0 rfl) ?_
  refine w_getr (j2 := (j + 1)) hx hb hts (z_memU u8) hown hK.1 hS f8_0 lt_j (zkd_of cd_j rfl) (zrf_of cd_j rfl) (Or.inl (hts _ (z_mem k41))) dX8_becomeInch_1 ?_
  refine z_iconst hx hb dX8_becomeInch_4 ?_
  refine lv_iload_n hx hb dX8_becomeInch_5 rfl (lv_at hl 1 rfl) ?_
  refine w_iast (z := a0) (n := 24) (i := 0) hx hb hK.1 (t0 := 0) rfl hS hS0 lt1 (zkd_of cd2 rfl) (zln_of cd2 rfl) (sI_of (by decide)) (by decide) (by decide) (by decide) dX8_becomeInch_6 (fun H locs hS hS0 => ?_)
  rw [show ((0 : Int).toNat) = 0 from rfl] at hS
  obtain ⟨M3, e4⟩ : ∃ M3 : zM, M3 = zup M (j + 1) 0 a0 := ⟨_, rfl⟩
  rw [← e4] at hS
  have h := h M3 e4
  refine lv_aload_n hx hb dX8_becomeInch_7 rfl (lv_at hl 0 rfl) ?_
  refine z_iconst hx hb dX8_becomeInch_8 ?_
  refine w_puti hx hb hts (z_memU u8) tyX8 tyX8_ok nmX8 hown hK.1 hS hS0 f8_1 lt_j (zkd_of cd_j rfl) (Or.inl (hts _ (z_mem k44))) rfl (z := 1) (by decide +kernel) dX8_becomeInch_9 (fun H locs hS hS0 => ?_)
  obtain ⟨M5, e6⟩ : ∃ M5 : zM, M5 = zup M3 j 1 1 := ⟨_, rfl⟩
  rw [← e6] at hS
  have h := h M5 e6
  exact w_vret hx hb hr hlocks hS hS0 h dX8_becomeInch_12

set_option maxRecDepth 100000 in
def wC_Splicer_beginTerm (a0 : Int) (M : zM) (Q : Int → zM → Prop) : Prop := wC_Splicer_layTerm  M (fun z2 M1 => (z2 ≠ 0 → Q z2 M1) ∧ (z2 = 0 → ((0 ≤ (sI (M1 1 2)) ∧ (sI (M1 1 2)) < 6) ∧ wC_Strip_becomeInch (8 + 4 * (sI (M1 1 2)).toNat) a0 M1 (fun M10 => Q z2 M10))))
set_option maxHeartbeats 4000000 in
set_option maxRecDepth 100000 in
theorem cC_Splicer_beginTerm (l : Launch) (D : va_G) (dA : Nat → ClassId) (b : Nat) (M : zM) (a0 : Int)  (Q : Int → zM → Prop) (h : wC_Splicer_beginTerm a0 M Q) : Met l yX7_beginTerm (.code yX7_beginTerm cX7_beginTerm 3 (some .int) :: zt) (z_rm 3) (va_Pc [.ref (b + 1), .int (iI a0)] (wPre D dA vwCl (z_tys dA) wC nC b M)) (va_Qi (wQi Q) (zB D dA vwCl wC nC b) (zA nC b)) 0 0 (zA nC b) := by
  unfold wC_Splicer_beginTerm at h
  refine Met.ofW (cc := cX7_beginTerm) (maxL := 3) (ret := (some .int)) (by decide) rfl ?_
  intro p e s m args below meth c s₁ B hml hv
  obtain ⟨hargs, hS, hK⟩ := hv
  have hx := B.exec
  have hb := B.bytes
  have hr := B.returns
  have hts := atoms_spec (ws := .code yX7_beginTerm cX7_beginTerm 3 (some .int) :: zt) B.pre
  have hown : s.vm.findClass RX7 = some m.cls := findClass_of_methodNamed B.named
  have hlocks := B.notSynchronized
  have hS0 : va_S (zA nC b) s.heap s.heap [] := va_S.rf
  have hl := lv_entry ([.ref (b + 1), .int (iI a0)]) (n := 3) (Nat.le_of_ble_eq_true rfl)
  have hent : entryFrame m args 3 = F0 m 0 ((lg_sl ([.ref (b + 1), .int (iI a0)]) ++ List.replicate (3 - (lg_sl ([.ref (b + 1), .int (iI a0)])).length) Slot.unset).toArray) [] := by rw [hargs]; exact lg_entry_eq m ([.ref (b + 1), .int (iI a0)]) 3
  rw [hent]
  generalize (lg_sl ([.ref (b + 1), .int (iI a0)]) ++ List.replicate (3 - (lg_sl ([.ref (b + 1), .int (iI a0)])).length) Slot.unset).toArray = ls at hl ⊢
  have hl : lv_has ls 3 [(0, .ref (b + 1)), (1, .int (iI a0))] := hl
  refine lv_aload_n hx hb dX7_beginTerm_0 rfl (lv_at hl 0 rfl) ?_
  refine w_calli (va_runV (As := []) (rest := []) ⟨hx, hb, hml, hown, hts⟩ (cC_Splicer_layTerm l D dA b M  _ h) (cwV 0 hts (z_gV k333 k334 k1359 k2 k335) rfl rfl rfl dm_X7_layTerm ⟨Nat.le_of_ble_eq_true rfl, Nat.le_of_ble_eq_true rfl⟩) ⟨wPre_blind, (w_recv hS hK.1 (by decide) (zkd_of (rfl : zcd wC 1 = 1) rfl) (by decide) (rfl : vwCl[7]? = some (RX7, TX7, 7))), w_pre hS hK⟩ rfl rfl hl.1 rfl (lv_room (Nat.le_of_ble_eq_true rfl)) dX7_beginTerm_1 ⟨Nat.le_refl _, Nat.le_refl _⟩) hS0 (fun z2 M1 H locs r3 h hS hS0 => ?_)
  refine lv_istore_n (lv' := [(2, .int (iI z2)), (0, .ref (b + 1)), (1, .int (iI a0))]) hx hb dX7_beginTerm_4 rfl hl (by decide) rfl (fun ls hl => ?_)
  refine lv_iload_n hx hb dX7_beginTerm_5 rfl (lv_at hl 0 rfl) ?_
  refine w_if_ne (tgt := 22) hx hb (sI_of r3) dX7_beginTerm_6 (by decide) (fun c4 => ?_) (fun c4 => ?_)
  · skip
    have h := h.1 c4
    refine lv_iload_n hx hb dX7_beginTerm_22 rfl (lv_at hl 0 rfl) ?_
    exact w_iret hx hb hr hlocks hS hS0 (sI_of r3) h dX7_beginTerm_23
  · skip
    have h := h.2 c4
    refine lv_aload_n hx hb dX7_beginTerm_9 rfl (lv_at hl 1 rfl) ?_
    refine w_getr (j2 := 4) hx hb hts (z_memU u7) hown hK.1 hS f7_5 (by decide) (zkd_of (rfl : zcd wC 1 = 1) rfl) (zrf_of (rfl : zcd wC 1 = 1) rfl) (Or.inl (hts _ (z_mem k60))) dX7_beginTerm_10 ?_
    refine lv_aload_n hx hb dX7_beginTerm_13 rfl (lv_at hl 1 rfl) ?_
    refine w_geti hx hb hts (z_memU u7) hown hK.1 hS f7_2 (by decide) (zkd_of (rfl : zcd wC 1 = 1) rfl) (Or.inl (hts _ (z_mem k57))) dX7_beginTerm_14 ?_
    obtain ⟨o5, h⟩ := h
    refine w_aald (n := 6) (i := (sI (M1 1 2))) (j2 := (8 + 4 * (sI (M1 1 2)).toNat)) hx hb hK.1 (t0 := 4) (r := 4) (by decide) rfl rfl hS (by decide) (zkd_of (rfl : zcd wC 4 = 4) rfl) (zln_of (rfl : zcd wC 4 = 4) rfl) rfl o5.1 o5.2 (by decide) (zrf_of (rfl : zcd wC 4 = 4) rfl) dX7_beginTerm_17 ?_
    obtain ⟨lt6, cd7⟩ : (8 + 4 * (sI (M1 1 2)).toNat) < nC ∧ zcd wC (8 + 4 * (sI (M1 1 2)).toNat) = 6 := (by decide : ∀ k : Nat, k < 6 → (8 + 4 * k) < nC ∧ zcd wC (8 + 4 * k) = 6) (sI (M1 1 2)).toNat (by clear h; have h0 := o5.1; have h1 := o5.2; omega)
    obtain ⟨lt8, cd9⟩ := nx_strip (8 + 4 * (sI (M1 1 2)).toNat) lt6 cd7
    refine lv_iload_n hx hb dX7_beginTerm_18 rfl (lv_at hl 2 rfl) ?_
    refine w_callv (va_runV (As := [.int (iI a0)]) (rest := []) ⟨hx, hb, hml, hown, hts⟩ (cC_Strip_becomeInch l D dA b M1 (8 + 4 * (sI (M1 1 2)).toNat) a0 lt6 cd7 _ h) (cwV 1 hts (z_gV k343 k344 k345 k3 k346) rfl rfl rfl dm_X8_becomeInch ⟨Nat.le_of_ble_eq_true rfl, Nat.le_of_ble_eq_true rfl⟩) ⟨wPre_blind, (w_recv hS hK.1 lt6 (zkd_of cd7 rfl) (by decide) (rfl : vwCl[8]? = some (RX8, TX8, 2))), w_pre hS hK⟩ rfl rfl hl.1 rfl (lv_room (Nat.le_of_ble_eq_true rfl)) dX7_beginTerm_19 ⟨Nat.le_refl _, Nat.le_refl _⟩) hS0 (fun M10 H locs h hS hS0 => ?_)
    refine lv_iload_n hx hb dX7_beginTerm_22 rfl (lv_at hl 0 rfl) ?_
    exact w_iret hx hb hr hlocks hS hS0 (sI_of r3) h dX7_beginTerm_23

set_option maxRecDepth 100000 in
def wC_Splicer_readDigit (a0 : Int) (M : zM) (Q : Int → zM → Prop) : Prop := ((sI (M 1 3)) = 42 → (∀ M2 : zM, M2 = zup M 1 3 0 → wC_Splicer_repeatTerm a0 M2 (fun z5 M4 => Q z5 M4))) ∧ ((sI (M 1 3)) ≠ 42 → ((sI (M 1 3)) = 47 → (∀ M8 : zM, M8 = zup M 1 3 0 → ((0 ≤ (sI (M8 1 2)) ∧ (sI (M8 1 2)) < 6) ∧ (∀ M11 : zM, M11 = zup M8 5 (sI (M8 1 2)).toNat a0 → ((0 ≤ (sI (M11 1 2)) ∧ (sI (M11 1 2)) < 6) ∧ ((sI a0) ≤ (sI (M11 (6 + 4 * (sI (M11 1 2)).toNat) 1)) → Q 0 M11) ∧ ((sI (M11 (6 + 4 * (sI (M11 1 2)).toNat) 1)) < (sI a0) → Q (-101) M11)))))) ∧ ((sI (M 1 3)) ≠ 47 → ((sI (M 1 3)) = 91 → ((0 ≤ (sI (M 1 2)) ∧ (sI (M 1 2)) < 6) ∧ wC_Strip_addTo (8 + 4 * (sI (M 1 2)).toNat) 0 (shlI 1 a0) M (fun M25 => Q 0 M25))) ∧ ((sI (M 1 3)) ≠ 91 → ((sI a0) ≠ 0 → wC_Splicer_beginTerm (shlI 1 a0) M (fun z28 M27 => Q z28 M27)) ∧ ((sI a0) = 0 → wC_Splicer_beginTerm 0 M (fun z31 M30 => Q z31 M30)))))
set_option maxHeartbeats 4000000 in
set_option maxRecDepth 100000 in
theorem cC_Splicer_readDigit (l : Launch) (D : va_G) (dA : Nat → ClassId) (b : Nat) (M : zM) (a0 : Int)  (Q : Int → zM → Prop) (h : wC_Splicer_readDigit a0 M Q) : Met l yX7_readDigit (.code yX7_readDigit cX7_readDigit 2 (some .int) :: zt) (z_rm 4) (va_Pc [.ref (b + 1), .int (iI a0)] (wPre D dA vwCl (z_tys dA) wC nC b M)) (va_Qi (wQi Q) (zB D dA vwCl wC nC b) (zA nC b)) 0 0 (zA nC b) := by
  unfold wC_Splicer_readDigit at h
  refine Met.ofW (cc := cX7_readDigit) (maxL := 2) (ret := (some .int)) (by decide) rfl ?_
  intro p e s m args below meth c s₁ B hml hv
  obtain ⟨hargs, hS, hK⟩ := hv
  have hx := B.exec
  have hb := B.bytes
  have hr := B.returns
  have hts := atoms_spec (ws := .code yX7_readDigit cX7_readDigit 2 (some .int) :: zt) B.pre
  have hown : s.vm.findClass RX7 = some m.cls := findClass_of_methodNamed B.named
  have hlocks := B.notSynchronized
  have hS0 : va_S (zA nC b) s.heap s.heap [] := va_S.rf
  have hl := lv_entry ([.ref (b + 1), .int (iI a0)]) (n := 2) (Nat.le_of_ble_eq_true rfl)
  have hent : entryFrame m args 2 = F0 m 0 ((lg_sl ([.ref (b + 1), .int (iI a0)]) ++ List.replicate (2 - (lg_sl ([.ref (b + 1), .int (iI a0)])).length) Slot.unset).toArray) [] := by rw [hargs]; exact lg_entry_eq m ([.ref (b + 1), .int (iI a0)]) 2
  rw [hent]
  generalize (lg_sl ([.ref (b + 1), .int (iI a0)]) ++ List.replicate (2 - (lg_sl ([.ref (b + 1), .int (iI a0)])).length) Slot.unset).toArray = ls at hl ⊢
  have hl : lv_has ls 2 [(0, .ref (b + 1)), (1, .int (iI a0))] := hl
  refine lv_aload_n hx hb dX7_readDigit_0 rfl (lv_at hl 0 rfl) ?_
  refine w_geti hx hb hts (z_memU u7) hown hK.1 hS f7_3 (by decide) (zkd_of (rfl : zcd wC 1 = 1) rfl) (Or.inl (hts _ (z_mem k58))) dX7_readDigit_1 ?_
  rcases Decidable.em ((sI (M 1 3)) = 42) with c1 | c1
  · skip
    have h := h.1 c1
    refine w_lookup (tgt := 40) hx hb rfl dX7_readDigit_4 (by decide) (by first | (rw [c1]; done) | (rw [c1]; rfl)) (by decide) ?_
    refine lv_aload_n hx hb dX7_readDigit_40 rfl (lv_at hl 0 rfl) ?_
    refine z_iconst hx hb dX7_readDigit_41 ?_
    refine w_puti hx hb hts (z_memU u7) tyX7 tyX7_ok nmX7 hown hK.1 hS hS0 f7_3 (by decide) (zkd_of (rfl : zcd wC 1 = 1) rfl) (Or.inl (hts _ (z_mem k58))) rfl (z := 0) (by decide +kernel) dX7_readDigit_42 (fun H locs hS hS0 => ?_)
    obtain ⟨M2, e3⟩ : ∃ M2 : zM, M2 = zup M 1 3 0 := ⟨_, rfl⟩
    rw [← e3] at hS
    have h := h M2 e3
    refine lv_aload_n hx hb dX7_readDigit_45 rfl (lv_at hl 0 rfl) ?_
    refine lv_iload_n hx hb dX7_readDigit_46 rfl (lv_at hl 1 rfl) ?_
    refine w_calli (va_runV (As := [.int (iI a0)]) (rest := []) ⟨hx, hb, hml, hown, hts⟩ (cC_Splicer_repeatTerm l D dA b M2 a0 _ h) (cwV 1 hts (z_gV k312 k313 k1357 k2 k314) rfl rfl rfl dm_X7_repeatTerm ⟨Nat.le_of_ble_eq_true rfl, Nat.le_of_ble_eq_true rfl⟩) ⟨wPre_blind, (w_recv hS hK.1 (by decide) (zkd_of (rfl : zcd wC 1 = 1) rfl) (by decide) (rfl : vwCl[7]? = some (RX7, TX7, 7))), w_pre hS hK⟩ rfl rfl hl.1 rfl (lv_room (Nat.le_of_ble_eq_true rfl)) dX7_readDigit_47 ⟨Nat.le_refl _, Nat.le_refl _⟩) hS0 (fun z5 M4 H locs r6 h hS hS0 => ?_)
    exact w_iret hx hb hr hlocks hS hS0 (sI_of r6) h dX7_readDigit_50
  have h := h.2 c1
  rcases Decidable.em ((sI (M 1 3)) = 47) with c7 | c7
  · skip
    have h := h.1 c7
    refine w_lookup (tgt := 51) hx hb rfl dX7_readDigit_4 (by decide) (by first | (rw [c7]; done) | (rw [c7]; rfl)) (by decide) ?_
    refine lv_aload_n hx hb dX7_readDigit_51 rfl (lv_at hl 0 rfl) ?_
    refine z_iconst hx hb dX7_readDigit_52 ?_
    refine w_puti hx hb hts (z_memU u7) tyX7 tyX7_ok nmX7 hown hK.1 hS hS0 f7_3 (by decide) (zkd_of (rfl : zcd wC 1 = 1) rfl) (Or.inl (hts _ (z_mem k58))) rfl (z := 0) (by decide +kernel) dX7_readDigit_53 (fun H locs hS hS0 => ?_)
    obtain ⟨M8, e9⟩ : ∃ M8 : zM, M8 = zup M 1 3 0 := ⟨_, rfl⟩
    rw [← e9] at hS
    have h := h M8 e9
    refine lv_aload_n hx hb dX7_readDigit_56 rfl (lv_at hl 0 rfl) ?_
    refine w_getr (j2 := 5) hx hb hts (z_memU u7) hown hK.1 hS f7_6 (by decide) (zkd_of (rfl : zcd wC 1 = 1) rfl) (zrf_of (rfl : zcd wC 1 = 1) rfl) (Or.inl (hts _ (z_mem k61))) dX7_readDigit_57 ?_
    refine lv_aload_n hx hb dX7_readDigit_60 rfl (lv_at hl 0 rfl) ?_
    refine w_geti hx hb hts (z_memU u7) hown hK.1 hS f7_2 (by decide) (zkd_of (rfl : zcd wC 1 = 1) rfl) (Or.inl (hts _ (z_mem k57))) dX7_readDigit_61 ?_
    refine lv_iload_n hx hb dX7_readDigit_64 rfl (lv_at hl 1 rfl) ?_
    obtain ⟨o10, h⟩ := h
    refine w_iast (z := a0) (n := 6) (i := (sI (M8 1 2))) hx hb hK.1 (t0 := 0) rfl hS hS0 (by decide) (zkd_of (rfl : zcd wC 5 = 5) rfl) (zln_of (rfl : zcd wC 5 = 5) rfl) rfl o10.1 o10.2 (by decide) dX7_readDigit_65 (fun H locs hS hS0 => ?_)
    obtain ⟨M11, e12⟩ : ∃ M11 : zM, M11 = zup M8 5 (sI (M8 1 2)).toNat a0 := ⟨_, rfl⟩
    rw [← e12] at hS
    have h := h M11 e12
    refine lv_iload_n hx hb dX7_readDigit_66 rfl (lv_at hl 1 rfl) ?_
    refine lv_aload_n hx hb dX7_readDigit_67 rfl (lv_at hl 0 rfl) ?_
    refine w_getr (j2 := 3) hx hb hts (z_memU u7) hown hK.1 hS f7_4 (by decide) (zkd_of (rfl : zcd wC 1 = 1) rfl) (zrf_of (rfl : zcd wC 1 = 1) rfl) (Or.inl (hts _ (z_mem k59))) dX7_readDigit_68 ?_
    refine lv_aload_n hx hb dX7_readDigit_71 rfl (lv_at hl 0 rfl) ?_
    refine w_geti hx hb hts (z_memU u7) hown hK.1 hS f7_2 (by decide) (zkd_of (rfl : zcd wC 1 = 1) rfl) (Or.inl (hts _ (z_mem k57))) dX7_readDigit_72 ?_
    obtain ⟨o13, h⟩ := h
    refine w_aald (n := 6) (i := (sI (M11 1 2))) (j2 := (6 + 4 * (sI (M11 1 2)).toNat)) hx hb hK.1 (t0 := 4) (r := 4) (by decide) rfl rfl hS (by decide) (zkd_of (rfl : zcd wC 3 = 3) rfl) (zln_of (rfl : zcd wC 3 = 3) rfl) rfl o13.1 o13.2 (by decide) (zrf_of (rfl : zcd wC 3 = 3) rfl) dX7_readDigit_75 ?_
    obtain ⟨lt14, cd15⟩ : (6 + 4 * (sI (M11 1 2)).toNat) < nC ∧ zcd wC (6 + 4 * (sI (M11 1 2)).toNat) = 6 := (by decide : ∀ k : Nat, k < 6 → (6 + 4 * k) < nC ∧ zcd wC (6 + 4 * k) = 6) (sI (M11 1 2)).toNat (by clear h; have h0 := o13.1; have h1 := o13.2; omega)
    obtain ⟨lt16, cd17⟩ := nx_strip (6 + 4 * (sI (M11 1 2)).toNat) lt14 cd15
    refine w_geti hx hb hts (z_memU u8) hown hK.1 hS f8_1 lt14 (zkd_of cd15 rfl) (Or.inl (hts _ (z_mem k46))) dX7_readDigit_76 ?_
    refine w_icmp_le (tgt := 87) hx hb rfl rfl dX7_readDigit_79 (by decide) (fun c18 => ?_) (fun c18 => ?_)
    · skip
      have h := h.1 c18
      refine z_iconst hx hb dX7_readDigit_87 ?_
      exact w_iret hx hb hr hlocks hS hS0 (sI_of (by decide)) h dX7_readDigit_88
    · skip
      have h := h.2 c18
      refine z_bipush hx hb (by decide) dX7_readDigit_82 ?_
      refine lv_goto (tgt := 88) hx hb dX7_readDigit_84 (by decide) ?_
      exact w_iret hx hb hr hlocks hS hS0 (sI_of (by decide)) h dX7_readDigit_88
  have h := h.2 c7
  rcases Decidable.em ((sI (M 1 3)) = 91) with c19 | c19
  · skip
    have h := h.1 c19
    refine w_lookup (tgt := 89) hx hb rfl dX7_readDigit_4 (by decide) (by first | (rw [c19]; done) | (rw [c19]; rfl)) (by decide) ?_
    refine lv_aload_n hx hb dX7_readDigit_89 rfl (lv_at hl 0 rfl) ?_
    refine w_getr (j2 := 4) hx hb hts (z_memU u7) hown hK.1 hS f7_5 (by decide) (zkd_of (rfl : zcd wC 1 = 1) rfl) (zrf_of (rfl : zcd wC 1 = 1) rfl) (Or.inl (hts _ (z_mem k60))) dX7_readDigit_90 ?_
    refine lv_aload_n hx hb dX7_readDigit_93 rfl (lv_at hl 0 rfl) ?_
    refine w_geti hx hb hts (z_memU u7) hown hK.1 hS f7_2 (by decide) (zkd_of (rfl : zcd wC 1 = 1) rfl) (Or.inl (hts _ (z_mem k57))) dX7_readDigit_94 ?_
    obtain ⟨o20, h⟩ := h
    refine w_aald (n := 6) (i := (sI (M 1 2))) (j2 := (8 + 4 * (sI (M 1 2)).toNat)) hx hb hK.1 (t0 := 4) (r := 4) (by decide) rfl rfl hS (by decide) (zkd_of (rfl : zcd wC 4 = 4) rfl) (zln_of (rfl : zcd wC 4 = 4) rfl) rfl o20.1 o20.2 (by decide) (zrf_of (rfl : zcd wC 4 = 4) rfl) dX7_readDigit_97 ?_
    obtain ⟨lt21, cd22⟩ : (8 + 4 * (sI (M 1 2)).toNat) < nC ∧ zcd wC (8 + 4 * (sI (M 1 2)).toNat) = 6 := (by decide : ∀ k : Nat, k < 6 → (8 + 4 * k) < nC ∧ zcd wC (8 + 4 * k) = 6) (sI (M 1 2)).toNat (by clear h; have h0 := o20.1; have h1 := o20.2; omega)
    obtain ⟨lt23, cd24⟩ := nx_strip (8 + 4 * (sI (M 1 2)).toNat) lt21 cd22
    refine z_iconst hx hb dX7_readDigit_98 ?_
    refine z_iconst hx hb dX7_readDigit_99 ?_
    refine lv_iload_n hx hb dX7_readDigit_100 rfl (lv_at hl 1 rfl) ?_
    refine w_ishl hx hb dX7_readDigit_101 ?_
    refine w_callv (va_runV (As := [.int (iI 0), .int (iI (shlI 1 a0))]) (rest := []) ⟨hx, hb, hml, hown, hts⟩ (cC_Strip_addTo l D dA b M (8 + 4 * (sI (M 1 2)).toNat) 0 (shlI 1 a0) lt21 cd22 _ h) (cwV 2 hts (z_gV k322 k323 k324 k3 k325) rfl rfl rfl dm_X8_addTo ⟨Nat.le_of_ble_eq_true rfl, Nat.le_of_ble_eq_true rfl⟩) ⟨wPre_blind, (w_recv hS hK.1 lt21 (zkd_of cd22 rfl) (by decide) (rfl : vwCl[8]? = some (RX8, TX8, 2))), w_pre hS hK⟩ rfl rfl hl.1 rfl (lv_room (Nat.le_of_ble_eq_true rfl)) dX7_readDigit_102 ⟨Nat.le_refl _, Nat.le_refl _⟩) hS0 (fun M25 H locs h hS hS0 => ?_)
    refine z_iconst hx hb dX7_readDigit_105 ?_
    exact w_iret hx hb hr hlocks hS hS0 (sI_of (by decide)) h dX7_readDigit_106
  have h := h.2 c19
  refine w_lookup (tgt := 107) hx hb rfl dX7_readDigit_4 (by decide) (by simp only [Op.lookupswitch.offset, if_neg (Ne.symm c1), if_neg (Ne.symm c7), if_neg (Ne.symm c19)] <;> rfl) (by decide) ?_
  refine lv_aload_n hx hb dX7_readDigit_107 rfl (lv_at hl 0 rfl) ?_
  refine lv_iload_n hx hb dX7_readDigit_108 rfl (lv_at hl 1 rfl) ?_
  refine w_if_ne (tgt := 116) hx hb rfl dX7_readDigit_109 (by decide) (fun c26 => ?_) (fun c26 => ?_)
  · skip
    have h := h.1 c26
    refine z_iconst hx hb dX7_readDigit_116 ?_
    refine lv_iload_n hx hb dX7_readDigit_117 rfl (lv_at hl 1 rfl) ?_
    refine w_ishl hx hb dX7_readDigit_118 ?_
    refine w_calli (va_runV (As := [.int (iI (shlI 1 a0))]) (rest := []) ⟨hx, hb, hml, hown, hts⟩ (cC_Splicer_beginTerm l D dA b M (shlI 1 a0) _ h) (cwV 1 hts (z_gV k330 k331 k1358 k2 k332) rfl rfl rfl dm_X7_beginTerm ⟨Nat.le_of_ble_eq_true rfl, Nat.le_of_ble_eq_true rfl⟩) ⟨wPre_blind, (w_recv hS hK.1 (by decide) (zkd_of (rfl : zcd wC 1 = 1) rfl) (by decide) (rfl : vwCl[7]? = some (RX7, TX7, 7))), w_pre hS hK⟩ rfl rfl hl.1 rfl (lv_room (Nat.le_of_ble_eq_true rfl)) dX7_readDigit_119 ⟨Nat.le_refl _, Nat.le_refl _⟩) hS0 (fun z28 M27 H locs r29 h hS hS0 => ?_)
    exact w_iret hx hb hr hlocks hS hS0 (sI_of r29) h dX7_readDigit_122
  · skip
    have h := h.2 c26
    refine z_iconst hx hb dX7_readDigit_112 ?_
    refine lv_goto (tgt := 119) hx hb dX7_readDigit_113 (by decide) ?_
    refine w_calli (va_runV (As := [.int (iI 0)]) (rest := []) ⟨hx, hb, hml, hown, hts⟩ (cC_Splicer_beginTerm l D dA b M 0 _ h) (cwV 1 hts (z_gV k330 k331 k1358 k2 k332) rfl rfl rfl dm_X7_beginTerm ⟨Nat.le_of_ble_eq_true rfl, Nat.le_of_ble_eq_true rfl⟩) ⟨wPre_blind, (w_recv hS hK.1 (by decide) (zkd_of (rfl : zcd wC 1 = 1) rfl) (by decide) (rfl : vwCl[7]? = some (RX7, TX7, 7))), w_pre hS hK⟩ rfl rfl hl.1 rfl (lv_room (Nat.le_of_ble_eq_true rfl)) dX7_readDigit_119 ⟨Nat.le_refl _, Nat.le_refl _⟩) hS0 (fun z31 M30 H locs r32 h hS hS0 => ?_)
    exact w_iret hx hb hr hlocks hS hS0 (sI_of r32) h dX7_readDigit_122

set_option maxRecDepth 100000 in
def wC_Strip_turn (j : Nat) (M : zM) (Q : zM → Prop) : Prop := wL1 (fun K2 x3 M4 => ((sI ((sI (M4 j 1)).tdiv 2)) ≤ (sI x3) → Q M4) ∧ ((sI x3) < (sI ((sI (M4 j 1)).tdiv 2)) → ((0 ≤ (sI x3) ∧ (sI x3) < 24) ∧ ((0 ≤ (sI (((M4 j 1) - 1) - x3)) ∧ (sI (((M4 j 1) - 1) - x3)) < 24) ∧ ((0 ≤ (sI x3) ∧ (sI x3) < 24) ∧ (∀ M16 : zM, M16 = zup M4 (j + 1) (sI x3).toNat (M4 (j + 1) (sI (((M4 j 1) - 1) - x3)).toNat) → ((0 ≤ (sI (((M16 j 1) - 1) - x3)) ∧ (sI (((M16 j 1) - 1) - x3)) < 24) ∧ (∀ M19 : zM, M19 = zup M16 (j + 1) (sI (((M16 j 1) - 1) - x3)).toNat (M4 (j + 1) (sI x3).toNat) → K2 (x3 + 1) M19)))))))) 0 M
set_option maxHeartbeats 4000000 in
set_option maxRecDepth 100000 in
theorem cC_Strip_turn (l : Launch) (D : va_G) (dA : Nat → ClassId) (b : Nat) (M : zM) (j : Nat) (lt_j : j < nC) (cd_j : zcd wC j = 6) (Q : zM → Prop) (h : wC_Strip_turn j M Q) : Met l yX8_turn (.code yX8_turn cX8_turn 3 none :: zt) (z_rm 0) (va_Pc [.ref (b + j)] (wPre D dA vwCl (z_tys dA) wC nC b M)) (va_Qv (wQv Q) (zB D dA vwCl wC nC b) (zA nC b)) 0 0 (zA nC b) := by
  unfold wC_Strip_turn at h
  refine Met.ofW (cc := cX8_turn) (maxL := 3) (ret := none) (by decide) rfl ?_
  intro p e s m args below meth c s₁ B hml hv
  obtain ⟨hargs, hS, hK⟩ := hv
  have hx := B.exec
  have hb := B.bytes
  have hr := B.returns
  have hts := atoms_spec (ws := .code yX8_turn cX8_turn 3 none :: zt) B.pre
  have hown : s.vm.findClass RX8 = some m.cls := findClass_of_methodNamed B.named
  have hlocks := B.notSynchronized
  have hS0 : va_S (zA nC b) s.heap s.heap [] := va_S.rf
  have hl := lv_entry ([.ref (b + j)]) (n := 3) (Nat.le_of_ble_eq_true rfl)
  have hent : entryFrame m args 3 = F0 m 0 ((lg_sl ([.ref (b + j)]) ++ List.replicate (3 - (lg_sl ([.ref (b + j)])).length) Slot.unset).toArray) [] := by rw [hargs]; exact lg_entry_eq m ([.ref (b + j)]) 3
  rw [hent]
  generalize (lg_sl ([.ref (b + j)]) ++ List.replicate (3 - (lg_sl ([.ref (b + j)])).length) Slot.unset).toArray = ls at hl ⊢
  have hl : lv_has ls 3 [(0, .ref (b + j))] := hl
  obtain ⟨lt1, cd2⟩ := nx_strip j lt_j cd_j
  refine z_iconst hx hb dX8_turn_0 ?_
  refine lv_istore_n (lv' := [(1, .int (iI 0)), (0, .ref (b + j))]) hx hb dX8_turn_1 rfl hl (by decide) rfl (fun ls hl => ?_)
  obtain ⟨I5, ⟨n6, h7⟩, h8⟩ := h
  have L9 : ∀ (n10 : Nat) (x3 : Int) (M4 : zM) (H : Heap) (locs : List Loc) (ls : Array Slot), I5 n10 x3 M4 → zR D dA vwCl wC nC b M4 H → va_S (zA nC b) s.heap H locs → lv_has ls 3 [(0, .ref (b + j)), (1, .int (iI x3))] → W p l e (headSpec (.code yX8_turn cX8_turn 3 none :: zt) (z_rm 0)).room s m args below meth c H locs 0 0 (MQ below (va_Qv (wQv Q) (zB D dA vwCl wC nC b) (zA nC b)) args s 0 0 (zA nC b)) (F0 m 2 ls []) := by
    intro n10
    induction n10 using Nat.strongRecOn with
    | ind n10 i11 =>
      intro x3 M4 H locs ls h hS hS0 hl
      have h := h8 n10 x3 M4 h
      refine lv_iload_n hx hb dX8_turn_2 rfl (lv_at hl 1 rfl) ?_
      refine lv_aload_n hx hb dX8_turn_3 rfl (lv_at hl 0 rfl) ?_
      refine w_geti hx hb hts (z_memU u8) hown hK.1 hS f8_1 lt_j (zkd_of cd_j rfl) (Or.inl (hts _ (z_mem k44))) dX8_turn_4 ?_
      refine z_iconst hx hb dX8_turn_7 ?_
      refine w_idiv hx hb rfl (sI_of (by decide)) (by decide) dX8_turn_8 ?_
      refine w_icmp_ge (tgt := 58) hx hb rfl rfl dX8_turn_9 (by decide) (fun c12 => ?_) (fun c12 => ?_)
      · skip
        have h := h.1 c12
        exact w_vret hx hb hr hlocks hS hS0 h dX8_turn_58
      · skip
        have h := h.2 c12
        refine lv_aload_n hx hb dX8_turn_12 rfl (lv_at hl 0 rfl) ?_
        refine w_getr (j2 := (j + 1)) hx hb hts (z_memU u8) hown hK.1 hS f8_0 lt_j (zkd_of cd_j rfl) (zrf_of cd_j rfl) (Or.inl (hts _ (z_mem k41))) dX8_turn_13 ?_
        refine lv_iload_n hx hb dX8_turn_16 rfl (lv_at hl 1 rfl) ?_
        obtain ⟨o13, h⟩ := h
        refine w_iald (n := 24) (i := (sI x3)) hx hb hK.1 (t0 := 0) rfl hS lt1 (zkd_of cd2 rfl) (zln_of cd2 rfl) rfl o13.1 o13.2 (by decide) dX8_turn_17 ?_
        refine lv_istore_n (lv' := [(2, .int (iI (M4 (j + 1) (sI x3).toNat))), (0, .ref (b + j)), (1, .int (iI x3))]) hx hb dX8_turn_18 rfl hl (by decide) rfl (fun ls hl => ?_)
        refine lv_aload_n hx hb dX8_turn_19 rfl (lv_at hl 1 rfl) ?_
        refine w_getr (j2 := (j + 1)) hx hb hts (z_memU u8) hown hK.1 hS f8_0 lt_j (zkd_of cd_j rfl) (zrf_of cd_j rfl) (Or.inl (hts _ (z_mem k41))) dX8_turn_20 ?_
        refine lv_iload_n hx hb dX8_turn_23 rfl (lv_at hl 2 rfl) ?_
        refine lv_aload_n hx hb dX8_turn_24 rfl (lv_at hl 1 rfl) ?_
        refine w_getr (j2 := (j + 1)) hx hb hts (z_memU u8) hown hK.1 hS f8_0 lt_j (zkd_of cd_j rfl) (zrf_of cd_j rfl) (Or.inl (hts _ (z_mem k41))) dX8_turn_25 ?_
        refine lv_aload_n hx hb dX8_turn_28 rfl (lv_at hl 1 rfl) ?_
        refine w_geti hx hb hts (z_memU u8) hown hK.1 hS f8_1 lt_j (zkd_of cd_j rfl) (Or.inl (hts _ (z_mem k44))) dX8_turn_29 ?_
        refine z_iconst hx hb dX8_turn_32 ?_
        refine z_isub hx hb dX8_turn_33 ?_
        refine lv_iload_n hx hb dX8_turn_34 rfl (lv_at hl 2 rfl) ?_
        refine z_isub hx hb dX8_turn_35 ?_
        obtain ⟨o14, h⟩ := h
        refine w_iald (n := 24) (i := (sI (((M4 j 1) - 1) - x3))) hx hb hK.1 (t0 := 0) rfl hS lt1 (zkd_of cd2 rfl) (zln_of cd2 rfl) rfl o14.1 o14.2 (by decide) dX8_turn_36 ?_
        obtain ⟨o15, h⟩ := h
        refine w_iast (z := (M4 (j + 1) (sI (((M4 j 1) - 1) - x3)).toNat)) (n := 24) (i := (sI x3)) hx hb hK.1 (t0 := 0) rfl hS hS0 lt1 (zkd_of cd2 rfl) (zln_of cd2 rfl) rfl o15.1 o15.2 (by decide) dX8_turn_37 (fun H locs hS hS0 => ?_)
        obtain ⟨M16, e17⟩ : ∃ M16 : zM, M16 = zup M4 (j + 1) (sI x3).toNat (M4 (j + 1) (sI (((M4 j 1) - 1) - x3)).toNat) := ⟨_, rfl⟩
        rw [← e17] at hS
        have h := h M16 e17
        refine lv_aload_n hx hb dX8_turn_38 rfl (lv_at hl 1 rfl) ?_
        refine w_getr (j2 := (j + 1)) hx hb hts (z_memU u8) hown hK.1 hS f8_0 lt_j (zkd_of cd_j rfl) (zrf_of cd_j rfl) (Or.inl (hts _ (z_mem k41))) dX8_turn_39 ?_
        refine lv_aload_n hx hb dX8_turn_42 rfl (lv_at hl 1 rfl) ?_
        refine w_geti hx hb hts (z_memU u8) hown hK.1 hS f8_1 lt_j (zkd_of cd_j rfl) (Or.inl (hts _ (z_mem k44))) dX8_turn_43 ?_
        refine z_iconst hx hb dX8_turn_46 ?_
        refine z_isub hx hb dX8_turn_47 ?_
        refine lv_iload_n hx hb dX8_turn_48 rfl (lv_at hl 2 rfl) ?_
        refine z_isub hx hb dX8_turn_49 ?_
        refine lv_iload_n hx hb dX8_turn_50 rfl (lv_at hl 0 rfl) ?_
        obtain ⟨o18, h⟩ := h
        refine w_iast (z := (M4 (j + 1) (sI x3).toNat)) (n := 24) (i := (sI (((M16 j 1) - 1) - x3))) hx hb hK.1 (t0 := 0) rfl hS hS0 lt1 (zkd_of cd2 rfl) (zln_of cd2 rfl) rfl o18.1 o18.2 (by decide) dX8_turn_51 (fun H locs hS hS0 => ?_)
        obtain ⟨M19, e20⟩ : ∃ M19 : zM, M19 = zup M16 (j + 1) (sI (((M16 j 1) - 1) - x3)).toNat (M4 (j + 1) (sI x3).toNat) := ⟨_, rfl⟩
        rw [← e20] at hS
        have h := h M19 e20
        refine z_iinc (lv' := [(1, .int (iI (x3 + 1))), (2, .int (iI (M4 (j + 1) (sI x3).toNat))), (0, .ref (b + j))]) hx hb dX8_turn_52 hl (k := 2) rfl (by decide) rfl (fun ls hl => ?_)
        refine lv_goto (tgt := 2) hx hb dX8_turn_55 (by decide) ?_
        obtain ⟨n21, h22, h⟩ := h
        exact i11 n21 h22 (x3 + 1) M19 _ _ _ h hS hS0 (lv_sub hl [2, 0] rfl)
  exact L9 n6 0 M _ _ _ h7 hS hS0 (lv_sub hl [1, 0] rfl)

set_option maxRecDepth 100000 in
def wC_Splicer_open  (M : zM) (Q : Int → zM → Prop) : Prop := wC_Splicer_layTerm  M (fun z2 M1 => (z2 ≠ 0 → Q z2 M1) ∧ (z2 = 0 → (5 ≤ (sI (M1 1 2)) → Q z2 M1) ∧ ((sI (M1 1 2)) < 5 → (∀ M6 : zM, M6 = zup M1 1 2 ((M1 1 2) + 1) → wC_Splicer_openRow  M6 (fun M8 => Q z2 M8)))))
set_option maxHeartbeats 4000000 in
set_option maxRecDepth 100000 in
theorem cC_Splicer_open (l : Launch) (D : va_G) (dA : Nat → ClassId) (b : Nat) (M : zM)   (Q : Int → zM → Prop) (h : wC_Splicer_open  M Q) : Met l yX7_open (.code yX7_open cX7_open 2 (some .int) :: zt) (z_rm 3) (va_Pc [.ref (b + 1)] (wPre D dA vwCl (z_tys dA) wC nC b M)) (va_Qi (wQi Q) (zB D dA vwCl wC nC b) (zA nC b)) 0 0 (zA nC b) := by
  unfold wC_Splicer_open at h
  refine Met.ofW (cc := cX7_open) (maxL := 2) (ret := (some .int)) (by decide) rfl ?_
  intro p e s m args below meth c s₁ B hml hv
  obtain ⟨hargs, hS, hK⟩ := hv
  have hx := B.exec
  have hb := B.bytes
  have hr := B.returns
  have hts := atoms_spec (ws := .code yX7_open cX7_open 2 (some .int) :: zt) B.pre
  have hown : s.vm.findClass RX7 = some m.cls := findClass_of_methodNamed B.named
  have hlocks := B.notSynchronized
  have hS0 : va_S (zA nC b) s.heap s.heap [] := va_S.rf
  have hl := lv_entry ([.ref (b + 1)]) (n := 2) (Nat.le_of_ble_eq_true rfl)
  have hent : entryFrame m args 2 = F0 m 0 ((lg_sl ([.ref (b + 1)]) ++ List.replicate (2 - (lg_sl ([.ref (b + 1)])).length) Slot.unset).toArray) [] := by rw [hargs]; exact lg_entry_eq m ([.ref (b + 1)]) 2
  rw [hent]
  generalize (lg_sl ([.ref (b + 1)]) ++ List.replicate (2 - (lg_sl ([.ref (b + 1)])).length) Slot.unset).toArray = ls at hl ⊢
  have hl : lv_has ls 2 [(0, .ref (b + 1))] := hl
  refine lv_aload_n hx hb dX7_open_0 rfl (lv_at hl 0 rfl) ?_
  refine w_calli (va_runV (As := []) (rest := []) ⟨hx, hb, hml, hown, hts⟩ (cC_Splicer_layTerm l D dA b M  _ h) (cwV 0 hts (z_gV k333 k334 k1359 k2 k335) rfl rfl rfl dm_X7_layTerm ⟨Nat.le_of_ble_eq_true rfl, Nat.le_of_ble_eq_true rfl⟩) ⟨wPre_blind, (w_recv hS hK.1 (by decide) (zkd_of (rfl : zcd wC 1 = 1) rfl) (by decide) (rfl : vwCl[7]? = some (RX7, TX7, 7))), w_pre hS hK⟩ rfl rfl hl.1 rfl (lv_room (Nat.le_of_ble_eq_true rfl)) dX7_open_1 ⟨Nat.le_refl _, Nat.le_refl _⟩) hS0 (fun z2 M1 H locs r3 h hS hS0 => ?_)
  refine lv_istore_n (lv' := [(1, .int (iI z2)), (0, .ref (b + 1))]) hx hb dX7_open_4 rfl hl (by decide) rfl (fun ls hl => ?_)
  refine lv_iload_n hx hb dX7_open_5 rfl (lv_at hl 0 rfl) ?_
  refine w_if_ne (tgt := 31) hx hb (sI_of r3) dX7_open_6 (by decide) (fun c4 => ?_) (fun c4 => ?_)
  · skip
    have h := h.1 c4
    refine lv_iload_n hx hb dX7_open_31 rfl (lv_at hl 0 rfl) ?_
    exact w_iret hx hb hr hlocks hS hS0 (sI_of r3) h dX7_open_32
  · skip
    have h := h.2 c4
    refine lv_aload_n hx hb dX7_open_9 rfl (lv_at hl 1 rfl) ?_
    refine w_geti hx hb hts (z_memU u7) hown hK.1 hS f7_2 (by decide) (zkd_of (rfl : zcd wC 1 = 1) rfl) (Or.inl (hts _ (z_mem k57))) dX7_open_10 ?_
    refine z_iconst hx hb dX7_open_13 ?_
    refine w_icmp_ge (tgt := 31) hx hb rfl (sI_of (by decide)) dX7_open_14 (by decide) (fun c5 => ?_) (fun c5 => ?_)
    · skip
      have h := h.1 c5
      refine lv_iload_n hx hb dX7_open_31 rfl (lv_at hl 0 rfl) ?_
      exact w_iret hx hb hr hlocks hS hS0 (sI_of r3) h dX7_open_32
    · skip
      have h := h.2 c5
      refine lv_aload_n hx hb dX7_open_17 rfl (lv_at hl 1 rfl) ?_
      refine lv_dup hx hb dX7_open_18 rfl ?_
      refine w_geti hx hb hts (z_memU u7) hown hK.1 hS f7_2 (by decide) (zkd_of (rfl : zcd wC 1 = 1) rfl) (Or.inl (hts _ (z_mem k57))) dX7_open_19 ?_
      refine z_iconst hx hb dX7_open_22 ?_
      refine z_iadd hx hb dX7_open_23 ?_
      refine w_puti hx hb hts (z_memU u7) tyX7 tyX7_ok nmX7 hown hK.1 hS hS0 f7_2 (by decide) (zkd_of (rfl : zcd wC 1 = 1) rfl) (Or.inl (hts _ (z_mem k57))) rfl (z := ((M1 1 2) + 1)) (by decide +kernel) dX7_open_24 (fun H locs hS hS0 => ?_)
      obtain ⟨M6, e7⟩ : ∃ M6 : zM, M6 = zup M1 1 2 ((M1 1 2) + 1) := ⟨_, rfl⟩
      rw [← e7] at hS
      have h := h M6 e7
      refine lv_aload_n hx hb dX7_open_27 rfl (lv_at hl 1 rfl) ?_
      refine w_callv (va_runV (As := []) (rest := []) ⟨hx, hb, hml, hown, hts⟩ (cC_Splicer_openRow l D dA b M6  _ h) (cwV 0 hts (z_gV k306 k307 k1355 k2 k308) rfl rfl rfl dm_X7_openRow ⟨Nat.le_of_ble_eq_true rfl, Nat.le_of_ble_eq_true rfl⟩) ⟨wPre_blind, (w_recv hS hK.1 (by decide) (zkd_of (rfl : zcd wC 1 = 1) rfl) (by decide) (rfl : vwCl[7]? = some (RX7, TX7, 7))), w_pre hS hK⟩ rfl rfl hl.1 rfl (lv_room (Nat.le_of_ble_eq_true rfl)) dX7_open_28 ⟨Nat.le_refl _, Nat.le_refl _⟩) hS0 (fun M8 H locs h hS hS0 => ?_)
      refine lv_iload_n hx hb dX7_open_31 rfl (lv_at hl 0 rfl) ?_
      exact w_iret hx hb hr hlocks hS hS0 (sI_of r3) h dX7_open_32

set_option maxRecDepth 100000 in
def wC_Strip_copy (j : Nat) (a0 : Nat) (M : zM) (Q : zM → Prop) : Prop := (∀ M5 : zM, M5 = zup M j 1 (M a0 1) → (((a0 + 1) ≠ (j + 1)) ∧ (∀ M8 : zM, M8 = zcp M5 (a0 + 1) (j + 1) (0 : Int).toNat (0 : Int).toNat (24 : Int).toNat → Q M8)))
set_option maxHeartbeats 4000000 in
set_option maxRecDepth 100000 in
theorem cC_Strip_copy (l : Launch) (D : va_G) (dA : Nat → ClassId) (b : Nat) (M : zM) (j : Nat) (a0 : Nat) (lt_j : j < nC) (cd_j : zcd wC j = 6) (lt_a0 : a0 < nC) (cd_a0 : zcd wC a0 = 6) (Q : zM → Prop) (h : wC_Strip_copy j a0 M Q) : Met l yX8_copy (.code yX8_copy cX8_copy 2 none :: zt) (z_rm 1) (va_Pc [.ref (b + j), .ref (b + a0)] (wPre D dA vwCl (z_tys dA) wC nC b M)) (va_Qv (wQv Q) (zB D dA vwCl wC nC b) (zA nC b)) 0 0 (zA nC b) := by
  unfold wC_Strip_copy at h
  refine Met.ofW (cc := cX8_copy) (maxL := 2) (ret := none) (by decide) rfl ?_
  intro p e s m args below meth c s₁ B hml hv
  obtain ⟨hargs, hS, hK⟩ := hv
  have hx := B.exec
  have hb := B.bytes
  have hr := B.returns
  have hts := atoms_spec (ws := .code yX8_copy cX8_copy 2 none :: zt) B.pre
  have hown : s.vm.findClass RX8 = some m.cls := findClass_of_methodNamed B.named
  have hlocks := B.notSynchronized
  have hS0 : va_S (zA nC b) s.heap s.heap [] := va_S.rf
  have hl := lv_entry ([.ref (b + j), .ref (b + a0)]) (n := 2) (Nat.le_of_ble_eq_true rfl)
  have hent : entryFrame m args 2 = F0 m 0 ((lg_sl ([.ref (b + j), .ref (b + a0)]) ++ List.replicate (2 - (lg_sl ([.ref (b + j), .ref (b + a0)])).length) Slot.unset).toArray) [] := by rw [hargs]; exact lg_entry_eq m ([.ref (b + j), .ref (b + a0)]) 2
  rw [hent]
  generalize (lg_sl ([.ref (b + j), .ref (b + a0)]) ++ List.replicate (2 - (lg_sl ([.ref (b + j), .ref (b + a0)])).length) Slot.unset).toArray = ls at hl ⊢
  have hl : lv_has ls 2 [(0, .ref (b + j)), (1, .ref (b + a0))] := hl
  obtain ⟨lt1, cd2⟩ := nx_strip j lt_j cd_j
  obtain ⟨lt3, cd4⟩ := nx_strip a0 lt_a0 cd_a0
  refine lv_aload_n hx hb dX8_copy_0 rfl (lv_at hl 0 rfl) ?_
  refine lv_aload_n hx hb dX8_copy_1 rfl (lv_at hl 1 rfl) ?_
  refine w_geti hx hb hts (z_memU u8) hown hK.1 hS f8_1 lt_a0 (zkd_of cd_a0 rfl) (Or.inl (hts _ (z_mem k44))) dX8_copy_2 ?_
  refine w_puti hx hb hts (z_memU u8) tyX8 tyX8_ok nmX8 hown hK.1 hS hS0 f8_1 lt_j (zkd_of cd_j rfl) (Or.inl (hts _ (z_mem k44))) rfl (z := (M a0 1)) (by decide +kernel) dX8_copy_5 (fun H locs hS hS0 => ?_)
  obtain ⟨M5, e6⟩ : ∃ M5 : zM, M5 = zup M j 1 (M a0 1) := ⟨_, rfl⟩
  rw [← e6] at hS
  have h := h M5 e6
  refine lv_aload_n hx hb dX8_copy_8 rfl (lv_at hl 1 rfl) ?_
  refine w_getr (j2 := (a0 + 1)) hx hb hts (z_memU u8) hown hK.1 hS f8_0 lt_a0 (zkd_of cd_a0 rfl) (zrf_of cd_a0 rfl) (Or.inl (hts _ (z_mem k41))) dX8_copy_9 ?_
  refine z_iconst hx hb dX8_copy_12 ?_
  refine lv_aload_n hx hb dX8_copy_13 rfl (lv_at hl 0 rfl) ?_
  refine w_getr (j2 := (j + 1)) hx hb hts (z_memU u8) hown hK.1 hS f8_0 lt_j (zkd_of cd_j rfl) (zrf_of cd_j rfl) (Or.inl (hts _ (z_mem k41))) dX8_copy_14 ?_
  refine z_iconst hx hb dX8_copy_17 ?_
  refine z_bipush hx hb (by decide) dX8_copy_18 ?_
  obtain ⟨o7, h⟩ := h
  refine w_acopy (n0 := 24) (n1 := 24) (sp := 0) (dp := 0) (n := 24) hx hb (hml.trans hl.1.symm) hown (hts _ (z_mem k364)) (hts _ (z_mem k366)) (hts _ (z_mem k365)) (hts _ (z_mem k16)) hK.1 (t0 := 0) rfl hS hS0 lt3 lt1 o7 (zkd_of cd4 rfl) (zkd_of cd2 rfl) (zln_of cd4 rfl) (zln_of cd2 rfl) (by decide) (by decide) (sI_of (by decide)) (sI_of (by decide)) (sI_of (by decide)) (by decide) (by decide) (by decide) (by decide) (by decide) (by exact Nat.le_of_ble_eq_true rfl) (by exact Nat.le_of_ble_eq_true rfl) dX8_copy_20 (fun H locs hS hS0 => ?_)
  obtain ⟨M8, e9⟩ : ∃ M8 : zM, M8 = zcp M5 (a0 + 1) (j + 1) (0 : Int).toNat (0 : Int).toNat (24 : Int).toNat := ⟨_, rfl⟩
  rw [← e9] at hS
  have h := h M8 e9
  exact w_vret hx hb hr hlocks hS hS0 h dX8_copy_23

set_option maxRecDepth 100000 in
def wC_Splicer_close  (M : zM) (Q : Int → zM → Prop) : Prop := wC_Splicer_layTerm  M (fun z2 M1 => (z2 ≠ 0 → Q z2 M1) ∧ (z2 = 0 → ((sI (M1 1 2)) ≤ 0 → Q z2 M1) ∧ (0 < (sI (M1 1 2)) → (∀ M6 : zM, M6 = zup M1 1 2 ((M1 1 2) - 1) → ((0 ≤ (sI (M6 1 2)) ∧ (sI (M6 1 2)) < 6) ∧ ((0 ≤ (sI ((M6 1 2) + 1)) ∧ (sI ((M6 1 2) + 1)) < 6) ∧ wC_Strip_copy (8 + 4 * (sI (M6 1 2)).toNat) (6 + 4 * (sI ((M6 1 2) + 1)).toNat) M6 (fun M18 => Q z2 M18)))))))
set_option maxHeartbeats 4000000 in
set_option maxRecDepth 100000 in
theorem cC_Splicer_close (l : Launch) (D : va_G) (dA : Nat → ClassId) (b : Nat) (M : zM)   (Q : Int → zM → Prop) (h : wC_Splicer_close  M Q) : Met l yX7_close (.code yX7_close cX7_close 2 (some .int) :: zt) (z_rm 3) (va_Pc [.ref (b + 1)] (wPre D dA vwCl (z_tys dA) wC nC b M)) (va_Qi (wQi Q) (zB D dA vwCl wC nC b) (zA nC b)) 0 0 (zA nC b) := by
  unfold wC_Splicer_close at h
  refine Met.ofW (cc := cX7_close) (maxL := 2) (ret := (some .int)) (by decide) rfl ?_
  intro p e s m args below meth c s₁ B hml hv
  obtain ⟨hargs, hS, hK⟩ := hv
  have hx := B.exec
  have hb := B.bytes
  have hr := B.returns
  have hts := atoms_spec (ws := .code yX7_close cX7_close 2 (some .int) :: zt) B.pre
  have hown : s.vm.findClass RX7 = some m.cls := findClass_of_methodNamed B.named
  have hlocks := B.notSynchronized
  have hS0 : va_S (zA nC b) s.heap s.heap [] := va_S.rf
  have hl := lv_entry ([.ref (b + 1)]) (n := 2) (Nat.le_of_ble_eq_true rfl)
  have hent : entryFrame m args 2 = F0 m 0 ((lg_sl ([.ref (b + 1)]) ++ List.replicate (2 - (lg_sl ([.ref (b + 1)])).length) Slot.unset).toArray) [] := by rw [hargs]; exact lg_entry_eq m ([.ref (b + 1)]) 2
  rw [hent]
  generalize (lg_sl ([.ref (b + 1)]) ++ List.replicate (2 - (lg_sl ([.ref (b + 1)])).length) Slot.unset).toArray = ls at hl ⊢
  have hl : lv_has ls 2 [(0, .ref (b + 1))] := hl
  refine lv_aload_n hx hb dX7_close_0 rfl (lv_at hl 0 rfl) ?_
  refine w_calli (va_runV (As := []) (rest := []) ⟨hx, hb, hml, hown, hts⟩ (cC_Splicer_layTerm l D dA b M  _ h) (cwV 0 hts (z_gV k333 k334 k1359 k2 k335) rfl rfl rfl dm_X7_layTerm ⟨Nat.le_of_ble_eq_true rfl, Nat.le_of_ble_eq_true rfl⟩) ⟨wPre_blind, (w_recv hS hK.1 (by decide) (zkd_of (rfl : zcd wC 1 = 1) rfl) (by decide) (rfl : vwCl[7]? = some (RX7, TX7, 7))), w_pre hS hK⟩ rfl rfl hl.1 rfl (lv_room (Nat.le_of_ble_eq_true rfl)) dX7_close_1 ⟨Nat.le_refl _, Nat.le_refl _⟩) hS0 (fun z2 M1 H locs r3 h hS hS0 => ?_)
  refine lv_istore_n (lv' := [(1, .int (iI z2)), (0, .ref (b + 1))]) hx hb dX7_close_4 rfl hl (by decide) rfl (fun ls hl => ?_)
  refine lv_iload_n hx hb dX7_close_5 rfl (lv_at hl 0 rfl) ?_
  refine w_if_ne (tgt := 49) hx hb (sI_of r3) dX7_close_6 (by decide) (fun c4 => ?_) (fun c4 => ?_)
  · skip
    have h := h.1 c4
    refine lv_iload_n hx hb dX7_close_49 rfl (lv_at hl 0 rfl) ?_
    exact w_iret hx hb hr hlocks hS hS0 (sI_of r3) h dX7_close_50
  · skip
    have h := h.2 c4
    refine lv_aload_n hx hb dX7_close_9 rfl (lv_at hl 1 rfl) ?_
    refine w_geti hx hb hts (z_memU u7) hown hK.1 hS f7_2 (by decide) (zkd_of (rfl : zcd wC 1 = 1) rfl) (Or.inl (hts _ (z_mem k57))) dX7_close_10 ?_
    refine w_if_le (tgt := 49) hx hb rfl dX7_close_13 (by decide) (fun c5 => ?_) (fun c5 => ?_)
    · skip
      have h := h.1 c5
      refine lv_iload_n hx hb dX7_close_49 rfl (lv_at hl 0 rfl) ?_
      exact w_iret hx hb hr hlocks hS hS0 (sI_of r3) h dX7_close_50
    · skip
      have h := h.2 c5
      refine lv_aload_n hx hb dX7_close_16 rfl (lv_at hl 1 rfl) ?_
      refine lv_dup hx hb dX7_close_17 rfl ?_
      refine w_geti hx hb hts (z_memU u7) hown hK.1 hS f7_2 (by decide) (zkd_of (rfl : zcd wC 1 = 1) rfl) (Or.inl (hts _ (z_mem k57))) dX7_close_18 ?_
      refine z_iconst hx hb dX7_close_21 ?_
      refine z_isub hx hb dX7_close_22 ?_
      refine w_puti hx hb hts (z_memU u7) tyX7 tyX7_ok nmX7 hown hK.1 hS hS0 f7_2 (by decide) (zkd_of (rfl : zcd wC 1 = 1) rfl) (Or.inl (hts _ (z_mem k57))) rfl (z := ((M1 1 2) - 1)) (by decide +kernel) dX7_close_23 (fun H locs hS hS0 => ?_)
      obtain ⟨M6, e7⟩ : ∃ M6 : zM, M6 = zup M1 1 2 ((M1 1 2) - 1) := ⟨_, rfl⟩
      rw [← e7] at hS
      have h := h M6 e7
      refine lv_aload_n hx hb dX7_close_26 rfl (lv_at hl 1 rfl) ?_
      refine w_getr (j2 := 4) hx hb hts (z_memU u7) hown hK.1 hS f7_5 (by decide) (zkd_of (rfl : zcd wC 1 = 1) rfl) (zrf_of (rfl : zcd wC 1 = 1) rfl) (Or.inl (hts _ (z_mem k60))) dX7_close_27 ?_
      refine lv_aload_n hx hb dX7_close_30 rfl (lv_at hl 1 rfl) ?_
      refine w_geti hx hb hts (z_memU u7) hown hK.1 hS f7_2 (by decide) (zkd_of (rfl : zcd wC 1 = 1) rfl) (Or.inl (hts _ (z_mem k57))) dX7_close_31 ?_
      obtain ⟨o8, h⟩ := h
      refine w_aald (n := 6) (i := (sI (M6 1 2))) (j2 := (8 + 4 * (sI (M6 1 2)).toNat)) hx hb hK.1 (t0 := 4) (r := 4) (by decide) rfl rfl hS (by decide) (zkd_of (rfl : zcd wC 4 = 4) rfl) (zln_of (rfl : zcd wC 4 = 4) rfl) rfl o8.1 o8.2 (by decide) (zrf_of (rfl : zcd wC 4 = 4) rfl) dX7_close_34 ?_
      obtain ⟨lt9, cd10⟩ : (8 + 4 * (sI (M6 1 2)).toNat) < nC ∧ zcd wC (8 + 4 * (sI (M6 1 2)).toNat) = 6 := (by decide : ∀ k : Nat, k < 6 → (8 + 4 * k) < nC ∧ zcd wC (8 + 4 * k) = 6) (sI (M6 1 2)).toNat (by clear h; have h0 := o8.1; have h1 := o8.2; omega)
      obtain ⟨lt11, cd12⟩ := nx_strip (8 + 4 * (sI (M6 1 2)).toNat) lt9 cd10
      refine lv_aload_n hx hb dX7_close_35 rfl (lv_at hl 1 rfl) ?_
      refine w_getr (j2 := 3) hx hb hts (z_memU u7) hown hK.1 hS f7_4 (by decide) (zkd_of (rfl : zcd wC 1 = 1) rfl) (zrf_of (rfl : zcd wC 1 = 1) rfl) (Or.inl (hts _ (z_mem k59))) dX7_close_36 ?_
      refine lv_aload_n hx hb dX7_close_39 rfl (lv_at hl 1 rfl) ?_
      refine w_geti hx hb hts (z_memU u7) hown hK.1 hS f7_2 (by decide) (zkd_of (rfl : zcd wC 1 = 1) rfl) (Or.inl (hts _ (z_mem k57))) dX7_close_40 ?_
      refine z_iconst hx hb dX7_close_43 ?_
      refine z_iadd hx hb dX7_close_44 ?_
      obtain ⟨o13, h⟩ := h
      refine w_aald (n := 6) (i := (sI ((M6 1 2) + 1))) (j2 := (6 + 4 * (sI ((M6 1 2) + 1)).toNat)) hx hb hK.1 (t0 := 4) (r := 4) (by decide) rfl rfl hS (by decide) (zkd_of (rfl : zcd wC 3 = 3) rfl) (zln_of (rfl : zcd wC 3 = 3) rfl) rfl o13.1 o13.2 (by decide) (zrf_of (rfl : zcd wC 3 = 3) rfl) dX7_close_45 ?_
      obtain ⟨lt14, cd15⟩ : (6 + 4 * (sI ((M6 1 2) + 1)).toNat) < nC ∧ zcd wC (6 + 4 * (sI ((M6 1 2) + 1)).toNat) = 6 := (by decide : ∀ k : Nat, k < 6 → (6 + 4 * k) < nC ∧ zcd wC (6 + 4 * k) = 6) (sI ((M6 1 2) + 1)).toNat (by clear h; have h0 := o13.1; have h1 := o13.2; omega)
      obtain ⟨lt16, cd17⟩ := nx_strip (6 + 4 * (sI ((M6 1 2) + 1)).toNat) lt14 cd15
      refine w_callv (va_runV (As := [.ref (b + (6 + 4 * (sI ((M6 1 2) + 1)).toNat))]) (rest := []) ⟨hx, hb, hml, hown, hts⟩ (cC_Strip_copy l D dA b M6 (8 + 4 * (sI (M6 1 2)).toNat) (6 + 4 * (sI ((M6 1 2) + 1)).toNat) lt9 cd10 lt14 cd15 _ h) (cwV 1 hts (z_gV k360 k361 k362 k3 k363) rfl rfl rfl dm_X8_copy ⟨Nat.le_of_ble_eq_true rfl, Nat.le_of_ble_eq_true rfl⟩) ⟨wPre_blind, (w_recv hS hK.1 lt9 (zkd_of cd10 rfl) (by decide) (rfl : vwCl[8]? = some (RX8, TX8, 2))), w_pre hS hK⟩ rfl rfl hl.1 rfl (lv_room (Nat.le_of_ble_eq_true rfl)) dX7_close_46 ⟨Nat.le_refl _, Nat.le_refl _⟩) hS0 (fun M18 H locs h hS hS0 => ?_)
      refine lv_iload_n hx hb dX7_close_49 rfl (lv_at hl 0 rfl) ?_
      exact w_iret hx hb hr hlocks hS hS0 (sI_of r3) h dX7_close_50

set_option maxRecDepth 100000 in
def wC_Splicer_readSign (a0 : Int) (M : zM) (Q : Int → zM → Prop) : Prop := ((sI a0) = 40 → wC_Splicer_open  M (fun z3 M2 => Q z3 M2)) ∧ ((sI a0) ≠ 40 → ((sI a0) = 41 → wC_Splicer_close  M (fun z7 M6 => Q z7 M6)) ∧ ((sI a0) ≠ 41 → ((sI a0) = 42 → (∀ M10 : zM, M10 = zup M 1 3 a0 → Q 0 M10)) ∧ ((sI a0) ≠ 42 → ((sI a0) = 47 → (∀ M13 : zM, M13 = zup M 1 3 a0 → wC_Splicer_layTerm  M13 (fun z16 M15 => Q z16 M15))) ∧ ((sI a0) ≠ 47 → ((sI a0) = 91 → (∀ M19 : zM, M19 = zup M 1 3 a0 → wC_Splicer_beginTerm 0 M19 (fun z22 M21 => Q z22 M21))) ∧ ((sI a0) ≠ 91 → ((sI a0) = 93 → (∀ M25 : zM, M25 = zup M 1 3 0 → Q 0 M25)) ∧ ((sI a0) ≠ 93 → ((sI a0) = 126 → ((0 ≤ (sI (M 1 2)) ∧ (sI (M 1 2)) < 6) ∧ wC_Strip_turn (8 + 4 * (sI (M 1 2)).toNat) M (fun M33 => Q 0 M33))) ∧ ((sI a0) ≠ 126 → Q 0 M)))))))
set_option maxHeartbeats 4000000 in
set_option maxRecDepth 100000 in
theorem cC_Splicer_readSign (l : Launch) (D : va_G) (dA : Nat → ClassId) (b : Nat) (M : zM) (a0 : Int)  (Q : Int → zM → Prop) (h : wC_Splicer_readSign a0 M Q) : Met l yX7_readSign (.code yX7_readSign cX7_readSign 2 (some .int) :: zt) (z_rm 4) (va_Pc [.ref (b + 1), .int (iI a0)] (wPre D dA vwCl (z_tys dA) wC nC b M)) (va_Qi (wQi Q) (zB D dA vwCl wC nC b) (zA nC b)) 0 0 (zA nC b) := by
  unfold wC_Splicer_readSign at h
  refine Met.ofW (cc := cX7_readSign) (maxL := 2) (ret := (some .int)) (by decide) rfl ?_
  intro p e s m args below meth c s₁ B hml hv
  obtain ⟨hargs, hS, hK⟩ := hv
  have hx := B.exec
  have hb := B.bytes
  have hr := B.returns
  have hts := atoms_spec (ws := .code yX7_readSign cX7_readSign 2 (some .int) :: zt) B.pre
  have hown : s.vm.findClass RX7 = some m.cls := findClass_of_methodNamed B.named
  have hlocks := B.notSynchronized
  have hS0 : va_S (zA nC b) s.heap s.heap [] := va_S.rf
  have hl := lv_entry ([.ref (b + 1), .int (iI a0)]) (n := 2) (Nat.le_of_ble_eq_true rfl)
  have hent : entryFrame m args 2 = F0 m 0 ((lg_sl ([.ref (b + 1), .int (iI a0)]) ++ List.replicate (2 - (lg_sl ([.ref (b + 1), .int (iI a0)])).length) Slot.unset).toArray) [] := by rw [hargs]; exact lg_entry_eq m ([.ref (b + 1), .int (iI a0)]) 2
  rw [hent]
  generalize (lg_sl ([.ref (b + 1), .int (iI a0)]) ++ List.replicate (2 - (lg_sl ([.ref (b + 1), .int (iI a0)])).length) Slot.unset).toArray = ls at hl ⊢
  have hl : lv_has ls 2 [(0, .ref (b + 1)), (1, .int (iI a0))] := hl
  refine lv_iload_n hx hb dX7_readSign_0 rfl (lv_at hl 1 rfl) ?_
  rcases Decidable.em ((sI a0) = 40) with c1 | c1
  · skip
    have h := h.1 c1
    refine w_lookup (tgt := 117) hx hb rfl dX7_readSign_1 (by decide) (by first | (rw [c1]; done) | (rw [c1]; rfl)) (by decide) ?_
    refine lv_aload_n hx hb dX7_readSign_117 rfl (lv_at hl 0 rfl) ?_
    refine w_calli (va_runV (As := []) (rest := []) ⟨hx, hb, hml, hown, hts⟩ (cC_Splicer_open l D dA b M  _ h) (cwV 0 hts (z_gV k354 k355 k1361 k2 k356) rfl rfl rfl dm_X7_open ⟨Nat.le_of_ble_eq_true rfl, Nat.le_of_ble_eq_true rfl⟩) ⟨wPre_blind, (w_recv hS hK.1 (by decide) (zkd_of (rfl : zcd wC 1 = 1) rfl) (by decide) (rfl : vwCl[7]? = some (RX7, TX7, 7))), w_pre hS hK⟩ rfl rfl hl.1 rfl (lv_room (Nat.le_of_ble_eq_true rfl)) dX7_readSign_118 ⟨Nat.le_refl _, Nat.le_refl _⟩) hS0 (fun z3 M2 H locs r4 h hS hS0 => ?_)
    exact w_iret hx hb hr hlocks hS hS0 (sI_of r4) h dX7_readSign_121
  have h := h.2 c1
  rcases Decidable.em ((sI a0) = 41) with c5 | c5
  · skip
    have h := h.1 c5
    refine w_lookup (tgt := 122) hx hb rfl dX7_readSign_1 (by decide) (by first | (rw [c5]; done) | (rw [c5]; rfl)) (by decide) ?_
    refine lv_aload_n hx hb dX7_readSign_122 rfl (lv_at hl 0 rfl) ?_
    refine w_calli (va_runV (As := []) (rest := []) ⟨hx, hb, hml, hown, hts⟩ (cC_Splicer_close l D dA b M  _ h) (cwV 0 hts (z_gV k357 k358 k1362 k2 k359) rfl rfl rfl dm_X7_close ⟨Nat.le_of_ble_eq_true rfl, Nat.le_of_ble_eq_true rfl⟩) ⟨wPre_blind, (w_recv hS hK.1 (by decide) (zkd_of (rfl : zcd wC 1 = 1) rfl) (by decide) (rfl : vwCl[7]? = some (RX7, TX7, 7))), w_pre hS hK⟩ rfl rfl hl.1 rfl (lv_room (Nat.le_of_ble_eq_true rfl)) dX7_readSign_123 ⟨Nat.le_refl _, Nat.le_refl _⟩) hS0 (fun z7 M6 H locs r8 h hS hS0 => ?_)
    exact w_iret hx hb hr hlocks hS hS0 (sI_of r8) h dX7_readSign_126
  have h := h.2 c5
  rcases Decidable.em ((sI a0) = 42) with c9 | c9
  · skip
    have h := h.1 c9
    refine w_lookup (tgt := 68) hx hb rfl dX7_readSign_1 (by decide) (by first | (rw [c9]; done) | (rw [c9]; rfl)) (by decide) ?_
    refine lv_aload_n hx hb dX7_readSign_68 rfl (lv_at hl 0 rfl) ?_
    refine lv_iload_n hx hb dX7_readSign_69 rfl (lv_at hl 1 rfl) ?_
    refine w_puti hx hb hts (z_memU u7) tyX7 tyX7_ok nmX7 hown hK.1 hS hS0 f7_3 (by decide) (zkd_of (rfl : zcd wC 1 = 1) rfl) (Or.inl (hts _ (z_mem k58))) rfl (z := a0) (by decide +kernel) dX7_readSign_70 (fun H locs hS hS0 => ?_)
    obtain ⟨M10, e11⟩ : ∃ M10 : zM, M10 = zup M 1 3 a0 := ⟨_, rfl⟩
    rw [← e11] at hS
    have h := h M10 e11
    refine z_iconst hx hb dX7_readSign_73 ?_
    exact w_iret hx hb hr hlocks hS hS0 (sI_of (by decide)) h dX7_readSign_74
  have h := h.2 c9
  rcases Decidable.em ((sI a0) = 47) with c12 | c12
  · skip
    have h := h.1 c12
    refine w_lookup (tgt := 89) hx hb rfl dX7_readSign_1 (by decide) (by first | (rw [c12]; done) | (rw [c12]; rfl)) (by decide) ?_
    refine lv_aload_n hx hb dX7_readSign_89 rfl (lv_at hl 0 rfl) ?_
    refine lv_iload_n hx hb dX7_readSign_90 rfl (lv_at hl 1 rfl) ?_
    refine w_puti hx hb hts (z_memU u7) tyX7 tyX7_ok nmX7 hown hK.1 hS hS0 f7_3 (by decide) (zkd_of (rfl : zcd wC 1 = 1) rfl) (Or.inl (hts _ (z_mem k58))) rfl (z := a0) (by decide +kernel) dX7_readSign_91 (fun H locs hS hS0 => ?_)
    obtain ⟨M13, e14⟩ : ∃ M13 : zM, M13 = zup M 1 3 a0 := ⟨_, rfl⟩
    rw [← e14] at hS
    have h := h M13 e14
    refine lv_aload_n hx hb dX7_readSign_94 rfl (lv_at hl 0 rfl) ?_
    refine w_calli (va_runV (As := []) (rest := []) ⟨hx, hb, hml, hown, hts⟩ (cC_Splicer_layTerm l D dA b M13  _ h) (cwV 0 hts (z_gV k333 k334 k1359 k2 k335) rfl rfl rfl dm_X7_layTerm ⟨Nat.le_of_ble_eq_true rfl, Nat.le_of_ble_eq_true rfl⟩) ⟨wPre_blind, (w_recv hS hK.1 (by decide) (zkd_of (rfl : zcd wC 1 = 1) rfl) (by decide) (rfl : vwCl[7]? = some (RX7, TX7, 7))), w_pre hS hK⟩ rfl rfl hl.1 rfl (lv_room (Nat.le_of_ble_eq_true rfl)) dX7_readSign_95 ⟨Nat.le_refl _, Nat.le_refl _⟩) hS0 (fun z16 M15 H locs r17 h hS hS0 => ?_)
    exact w_iret hx hb hr hlocks hS hS0 (sI_of r17) h dX7_readSign_98
  have h := h.2 c12
  rcases Decidable.em ((sI a0) = 91) with c18 | c18
  · skip
    have h := h.1 c18
    refine w_lookup (tgt := 99) hx hb rfl dX7_readSign_1 (by decide) (by first | (rw [c18]; done) | (rw [c18]; rfl)) (by decide) ?_
    refine lv_aload_n hx hb dX7_readSign_99 rfl (lv_at hl 0 rfl) ?_
    refine lv_iload_n hx hb dX7_readSign_100 rfl (lv_at hl 1 rfl) ?_
    refine w_puti hx hb hts (z_memU u7) tyX7 tyX7_ok nmX7 hown hK.1 hS hS0 f7_3 (by decide) (zkd_of (rfl : zcd wC 1 = 1) rfl) (Or.inl (hts _ (z_mem k58))) rfl (z := a0) (by decide +kernel) dX7_readSign_101 (fun H locs hS hS0 => ?_)
    obtain ⟨M19, e20⟩ : ∃ M19 : zM, M19 = zup M 1 3 a0 := ⟨_, rfl⟩
    rw [← e20] at hS
    have h := h M19 e20
    refine lv_aload_n hx hb dX7_readSign_104 rfl (lv_at hl 0 rfl) ?_
    refine z_iconst hx hb dX7_readSign_105 ?_
    refine w_calli (va_runV (As := [.int (iI 0)]) (rest := []) ⟨hx, hb, hml, hown, hts⟩ (cC_Splicer_beginTerm l D dA b M19 0 _ h) (cwV 1 hts (z_gV k330 k331 k1358 k2 k332) rfl rfl rfl dm_X7_beginTerm ⟨Nat.le_of_ble_eq_true rfl, Nat.le_of_ble_eq_true rfl⟩) ⟨wPre_blind, (w_recv hS hK.1 (by decide) (zkd_of (rfl : zcd wC 1 = 1) rfl) (by decide) (rfl : vwCl[7]? = some (RX7, TX7, 7))), w_pre hS hK⟩ rfl rfl hl.1 rfl (lv_room (Nat.le_of_ble_eq_true rfl)) dX7_readSign_106 ⟨Nat.le_refl _, Nat.le_refl _⟩) hS0 (fun z22 M21 H locs r23 h hS hS0 => ?_)
    exact w_iret hx hb hr hlocks hS hS0 (sI_of r23) h dX7_readSign_109
  have h := h.2 c18
  rcases Decidable.em ((sI a0) = 93) with c24 | c24
  · skip
    have h := h.1 c24
    refine w_lookup (tgt := 110) hx hb rfl dX7_readSign_1 (by decide) (by first | (rw [c24]; done) | (rw [c24]; rfl)) (by decide) ?_
    refine lv_aload_n hx hb dX7_readSign_110 rfl (lv_at hl 0 rfl) ?_
    refine z_iconst hx hb dX7_readSign_111 ?_
    refine w_puti hx hb hts (z_memU u7) tyX7 tyX7_ok nmX7 hown hK.1 hS hS0 f7_3 (by decide) (zkd_of (rfl : zcd wC 1 = 1) rfl) (Or.inl (hts _ (z_mem k58))) rfl (z := 0) (by decide +kernel) dX7_readSign_112 (fun H locs hS hS0 => ?_)
    obtain ⟨M25, e26⟩ : ∃ M25 : zM, M25 = zup M 1 3 0 := ⟨_, rfl⟩
    rw [← e26] at hS
    have h := h M25 e26
    refine z_iconst hx hb dX7_readSign_115 ?_
    exact w_iret hx hb hr hlocks hS hS0 (sI_of (by decide)) h dX7_readSign_116
  have h := h.2 c24
  rcases Decidable.em ((sI a0) = 126) with c27 | c27
  · skip
    have h := h.1 c27
    refine w_lookup (tgt := 75) hx hb rfl dX7_readSign_1 (by decide) (by first | (rw [c27]; done) | (rw [c27]; rfl)) (by decide) ?_
    refine lv_aload_n hx hb dX7_readSign_75 rfl (lv_at hl 0 rfl) ?_
    refine w_getr (j2 := 4) hx hb hts (z_memU u7) hown hK.1 hS f7_5 (by decide) (zkd_of (rfl : zcd wC 1 = 1) rfl) (zrf_of (rfl : zcd wC 1 = 1) rfl) (Or.inl (hts _ (z_mem k60))) dX7_readSign_76 ?_
    refine lv_aload_n hx hb dX7_readSign_79 rfl (lv_at hl 0 rfl) ?_
    refine w_geti hx hb hts (z_memU u7) hown hK.1 hS f7_2 (by decide) (zkd_of (rfl : zcd wC 1 = 1) rfl) (Or.inl (hts _ (z_mem k57))) dX7_readSign_80 ?_
    obtain ⟨o28, h⟩ := h
    refine w_aald (n := 6) (i := (sI (M 1 2))) (j2 := (8 + 4 * (sI (M 1 2)).toNat)) hx hb hK.1 (t0 := 4) (r := 4) (by decide) rfl rfl hS (by decide) (zkd_of (rfl : zcd wC 4 = 4) rfl) (zln_of (rfl : zcd wC 4 = 4) rfl) rfl o28.1 o28.2 (by decide) (zrf_of (rfl : zcd wC 4 = 4) rfl) dX7_readSign_83 ?_
    obtain ⟨lt29, cd30⟩ : (8 + 4 * (sI (M 1 2)).toNat) < nC ∧ zcd wC (8 + 4 * (sI (M 1 2)).toNat) = 6 := (by decide : ∀ k : Nat, k < 6 → (8 + 4 * k) < nC ∧ zcd wC (8 + 4 * k) = 6) (sI (M 1 2)).toNat (by clear h; have h0 := o28.1; have h1 := o28.2; omega)
    obtain ⟨lt31, cd32⟩ := nx_strip (8 + 4 * (sI (M 1 2)).toNat) lt29 cd30
    refine w_callv (va_runV (As := []) (rest := []) ⟨hx, hb, hml, hown, hts⟩ (cC_Strip_turn l D dA b M (8 + 4 * (sI (M 1 2)).toNat) lt29 cd30 _ h) (cwV 0 hts (z_gV k350 k351 k352 k3 k353) rfl rfl rfl dm_X8_turn ⟨Nat.le_of_ble_eq_true rfl, Nat.le_of_ble_eq_true rfl⟩) ⟨wPre_blind, (w_recv hS hK.1 lt29 (zkd_of cd30 rfl) (by decide) (rfl : vwCl[8]? = some (RX8, TX8, 2))), w_pre hS hK⟩ rfl rfl hl.1 rfl (lv_room (Nat.le_of_ble_eq_true rfl)) dX7_readSign_84 ⟨Nat.le_refl _, Nat.le_refl _⟩) hS0 (fun M33 H locs h hS hS0 => ?_)
    refine z_iconst hx hb dX7_readSign_87 ?_
    exact w_iret hx hb hr hlocks hS hS0 (sI_of (by decide)) h dX7_readSign_88
  have h := h.2 c27
  refine w_lookup (tgt := 127) hx hb rfl dX7_readSign_1 (by decide) (by simp only [Op.lookupswitch.offset, if_neg (Ne.symm c1), if_neg (Ne.symm c5), if_neg (Ne.symm c9), if_neg (Ne.symm c12), if_neg (Ne.symm c18), if_neg (Ne.symm c24), if_neg (Ne.symm c27)] <;> rfl) (by decide) ?_
  refine z_iconst hx hb dX7_readSign_127 ?_
  exact w_iret hx hb hr hlocks hS hS0 (sI_of (by decide)) h dX7_readSign_128
