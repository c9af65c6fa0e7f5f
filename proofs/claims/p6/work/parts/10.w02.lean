/-! the W layer, 2 -/
theorem dX11_by_0 : decode cX11_by 0 = .ok (.iload_n 2, 1) := by decide +kernel
theorem dX11_by_1 : decode cX11_by 1 = .ok (.iconst 1, 1) := by decide +kernel
theorem dX11_by_10 : decode cX11_by 10 = .ok (.lrem, 1) := by decide +kernel
theorem dX11_by_11 : decode cX11_by 11 = .ok (.l2i, 1) := by decide +kernel
theorem dX11_by_12 : decode cX11_by 12 = .ok (.istore_n 3, 1) := by decide +kernel
theorem dX11_by_13 : decode cX11_by 13 = .ok (.iload_n 3, 1) := by decide +kernel
theorem dX11_by_14 : decode cX11_by 14 = .ok (.ifCond .ge 9, 3) := by decide +kernel
theorem dX11_by_17 : decode cX11_by 17 = .ok (.iload_n 3, 1) := by decide +kernel
theorem dX11_by_18 : decode cX11_by 18 = .ok (.iload_n 2, 1) := by decide +kernel
theorem dX11_by_19 : decode cX11_by 19 = .ok (.iadd, 1) := by decide +kernel
theorem dX11_by_2 : decode cX11_by 2 = .ok (.if_icmp .ge 5, 3) := by decide +kernel
theorem dX11_by_20 : decode cX11_by 20 = .ok (.goto 4, 3) := by decide +kernel
theorem dX11_by_23 : decode cX11_by 23 = .ok (.iload_n 3, 1) := by decide +kernel
theorem dX11_by_24 : decode cX11_by 24 = .ok (.ireturn, 1) := by decide +kernel
theorem dX11_by_5 : decode cX11_by 5 = .ok (.iconst 0, 1) := by decide +kernel
theorem dX11_by_6 : decode cX11_by 6 = .ok (.ireturn, 1) := by decide +kernel
theorem dX11_by_7 : decode cX11_by 7 = .ok (.lload_n 0, 1) := by decide +kernel
theorem dX11_by_8 : decode cX11_by 8 = .ok (.iload_n 2, 1) := by decide +kernel
theorem dX11_by_9 : decode cX11_by 9 = .ok (.i2l, 1) := by decide +kernel
theorem dX11_hand_0 : decode cX11_hand 0 = .ok (.aload_n 0, 1) := by decide +kernel
theorem dX11_hand_1 : decode cX11_hand 1 = .ok (.getfield 19, 3) := by decide +kernel
theorem dX11_hand_4 : decode cX11_hand 4 = .ok (.iload_n 1, 1) := by decide +kernel
theorem dX11_hand_5 : decode cX11_hand 5 = .ok (.invokevirtual 92, 3) := by decide +kernel
theorem dX11_hand_8 : decode cX11_hand 8 = .ok (.ireturn, 1) := by decide +kernel
theorem dX11_isMotor_0 : decode cX11_isMotor 0 = .ok (.iload_n 0, 1) := by decide +kernel
theorem dX11_isMotor_1 : decode cX11_isMotor 1 = .ok (.iconst 0, 1) := by decide +kernel
theorem dX11_isMotor_2 : decode cX11_isMotor 2 = .ok (.iconst 1, 1) := by decide +kernel
theorem dX11_isMotor_3 : decode cX11_isMotor 3 = .ok (.invokestatic 113, 3) := by decide +kernel
theorem dX11_isMotor_6 : decode cX11_isMotor 6 = .ok (.ireturn, 1) := by decide +kernel
theorem dX11_ring_0 : decode cX11_ring 0 = .ok (.iload_n 1, 1) := by decide +kernel
theorem dX11_ring_1 : decode cX11_ring 1 = .ok (.invokestatic 95, 3) := by decide +kernel
theorem dX11_ring_11 : decode cX11_ring 11 = .ok (.iload_n 2, 1) := by decide +kernel
theorem dX11_ring_12 : decode cX11_ring 12 = .ok (.invokevirtual 98, 3) := by decide +kernel
theorem dX11_ring_15 : decode cX11_ring 15 = .ok (.ifCond .ne 5, 3) := by decide +kernel
theorem dX11_ring_18 : decode cX11_ring 18 = .ok (.iconst (-1), 1) := by decide +kernel
theorem dX11_ring_19 : decode cX11_ring 19 = .ok (.ireturn, 1) := by decide +kernel
theorem dX11_ring_20 : decode cX11_ring 20 = .ok (.aload_n 0, 1) := by decide +kernel
theorem dX11_ring_21 : decode cX11_ring 21 = .ok (.getfield 26, 3) := by decide +kernel
theorem dX11_ring_24 : decode cX11_ring 24 = .ok (.aload_n 0, 1) := by decide +kernel
theorem dX11_ring_25 : decode cX11_ring 25 = .ok (.getfield 19, 3) := by decide +kernel
theorem dX11_ring_28 : decode cX11_ring 28 = .ok (.iload_n 1, 1) := by decide +kernel
theorem dX11_ring_29 : decode cX11_ring 29 = .ok (.iload_n 2, 1) := by decide +kernel
theorem dX11_ring_30 : decode cX11_ring 30 = .ok (.invokevirtual 101, 3) := by decide +kernel
theorem dX11_ring_33 : decode cX11_ring 33 = .ok (.ireturn, 1) := by decide +kernel
theorem dX11_ring_4 : decode cX11_ring 4 = .ok (.ifCond .eq 14, 3) := by decide +kernel
theorem dX11_ring_7 : decode cX11_ring 7 = .ok (.aload_n 0, 1) := by decide +kernel
theorem dX11_ring_8 : decode cX11_ring 8 = .ok (.getfield 19, 3) := by decide +kernel
theorem dX11_splice_0 : decode cX11_splice 0 = .ok (.aload_n 0, 1) := by decide +kernel
theorem dX11_splice_1 : decode cX11_splice 1 = .ok (.getfield 12, 3) := by decide +kernel
theorem dX11_splice_11 : decode cX11_splice 11 = .ok (.ireturn, 1) := by decide +kernel
theorem dX11_splice_4 : decode cX11_splice 4 = .ok (.aload_n 0, 1) := by decide +kernel
theorem dX11_splice_5 : decode cX11_splice 5 = .ok (.getfield 19, 3) := by decide +kernel
theorem dX11_splice_8 : decode cX11_splice 8 = .ok (.invokevirtual 88, 3) := by decide +kernel
theorem dX11_within_0 : decode cX11_within 0 = .ok (.iload_n 0, 1) := by decide +kernel
theorem dX11_within_1 : decode cX11_within 1 = .ok (.iload_n 1, 1) := by decide +kernel
theorem dX11_within_10 : decode cX11_within 10 = .ok (.iconst 1, 1) := by decide +kernel
theorem dX11_within_11 : decode cX11_within 11 = .ok (.goto 4, 3) := by decide +kernel
theorem dX11_within_14 : decode cX11_within 14 = .ok (.iconst 0, 1) := by decide +kernel
theorem dX11_within_15 : decode cX11_within 15 = .ok (.ireturn, 1) := by decide +kernel
theorem dX11_within_2 : decode cX11_within 2 = .ok (.if_icmp .lt 12, 3) := by decide +kernel
theorem dX11_within_5 : decode cX11_within 5 = .ok (.iload_n 0, 1) := by decide +kernel
theorem dX11_within_6 : decode cX11_within 6 = .ok (.iload_n 2, 1) := by decide +kernel
theorem dX11_within_7 : decode cX11_within 7 = .ok (.if_icmp .gt 7, 3) := by decide +kernel
theorem dX6_begin_0 : decode cX6_begin 0 = .ok (.aload_n 0, 1) := by decide +kernel
theorem dX6_begin_1 : decode cX6_begin 1 = .ok (.getfield 12, 3) := by decide +kernel
theorem dX6_begin_10 : decode cX6_begin 10 = .ok (.putfield 18, 3) := by decide +kernel
theorem dX6_begin_13 : decode cX6_begin 13 = .ok (.aload_n 0, 1) := by decide +kernel
theorem dX6_begin_14 : decode cX6_begin 14 = .ok (.iload_n 3, 1) := by decide +kernel
theorem dX6_begin_15 : decode cX6_begin 15 = .ok (.putfield 22, 3) := by decide +kernel
theorem dX6_begin_18 : decode cX6_begin 18 = .ok (.aload_n 0, 1) := by decide +kernel
theorem dX6_begin_19 : decode cX6_begin 19 = .ok (.iconst 1, 1) := by decide +kernel
theorem dX6_begin_20 : decode cX6_begin 20 = .ok (.putfield 25, 3) := by decide +kernel
theorem dX6_begin_23 : decode cX6_begin 23 = .ok (.aload_n 0, 1) := by decide +kernel
theorem dX6_begin_24 : decode cX6_begin 24 = .ok (.iconst 0, 1) := by decide +kernel
theorem dX6_begin_25 : decode cX6_begin 25 = .ok (.putfield 28, 3) := by decide +kernel
theorem dX6_begin_28 : decode cX6_begin 28 = .ok (.aload_n 0, 1) := by decide +kernel
theorem dX6_begin_29 : decode cX6_begin 29 = .ok (.invokevirtual 39, 3) := by decide +kernel
theorem dX6_begin_32 : decode cX6_begin 32 = .ok (.return_, 1) := by decide +kernel
theorem dX6_begin_4 : decode cX6_begin 4 = .ok (.aload_n 1, 1) := by decide +kernel
theorem dX6_begin_5 : decode cX6_begin 5 = .ok (.invokevirtual 35, 3) := by decide +kernel
theorem dX6_begin_8 : decode cX6_begin 8 = .ok (.aload_n 0, 1) := by decide +kernel
theorem dX6_begin_9 : decode cX6_begin 9 = .ok (.iload_n 2, 1) := by decide +kernel
theorem dX6_fillUnder_0 : decode cX6_fillUnder 0 = .ok (.iconst 0, 1) := by decide +kernel
theorem dX6_fillUnder_1 : decode cX6_fillUnder 1 = .ok (.istore_n 3, 1) := by decide +kernel
theorem dX6_fillUnder_10 : decode cX6_fillUnder 10 = .ok (.if_icmp .ge 18, 3) := by decide +kernel
theorem dX6_fillUnder_13 : decode cX6_fillUnder 13 = .ok (.aload_n 1, 1) := by decide +kernel
theorem dX6_fillUnder_14 : decode cX6_fillUnder 14 = .ok (.iload_n 3, 1) := by decide +kernel
theorem dX6_fillUnder_15 : decode cX6_fillUnder 15 = .ok (.aload_n 0, 1) := by decide +kernel
theorem dX6_fillUnder_16 : decode cX6_fillUnder 16 = .ok (.iload_n 3, 1) := by decide +kernel
theorem dX6_fillUnder_17 : decode cX6_fillUnder 17 = .ok (.iload_n 2, 1) := by decide +kernel
theorem dX6_fillUnder_18 : decode cX6_fillUnder 18 = .ok (.invokevirtual 49, 3) := by decide +kernel
theorem dX6_fillUnder_2 : decode cX6_fillUnder 2 = .ok (.iload_n 3, 1) := by decide +kernel
theorem dX6_fillUnder_21 : decode cX6_fillUnder 21 = .ok (.iastore, 1) := by decide +kernel
theorem dX6_fillUnder_22 : decode cX6_fillUnder 22 = .ok (.iinc 3 1, 3) := by decide +kernel
theorem dX6_fillUnder_25 : decode cX6_fillUnder 25 = .ok (.goto (-23), 3) := by decide +kernel
theorem dX6_fillUnder_28 : decode cX6_fillUnder 28 = .ok (.return_, 1) := by decide +kernel
theorem dX6_fillUnder_3 : decode cX6_fillUnder 3 = .ok (.iload_n 2, 1) := by decide +kernel
theorem dX6_fillUnder_4 : decode cX6_fillUnder 4 = .ok (.if_icmp .ge 24, 3) := by decide +kernel
theorem dX6_fillUnder_7 : decode cX6_fillUnder 7 = .ok (.iload_n 3, 1) := by decide +kernel
theorem dX6_fillUnder_8 : decode cX6_fillUnder 8 = .ok (.aload_n 1, 1) := by decide +kernel
theorem dX6_fillUnder_9 : decode cX6_fillUnder 9 = .ok (.arraylength, 1) := by decide +kernel
theorem dX6_listen_0 : decode cX6_listen 0 = .ok (.aload_n 0, 1) := by decide +kernel
theorem dX6_listen_1 : decode cX6_listen 1 = .ok (.aload_n 0, 1) := by decide +kernel
theorem dX6_listen_12 : decode cX6_listen 12 = .ok (.invokevirtual 45, 3) := by decide +kernel
theorem dX6_listen_15 : decode cX6_listen 15 = .ok (.return_, 1) := by decide +kernel
theorem dX6_listen_2 : decode cX6_listen 2 = .ok (.getfield 31, 3) := by decide +kernel
theorem dX6_listen_5 : decode cX6_listen 5 = .ok (.aload_n 0, 1) := by decide +kernel
theorem dX6_listen_6 : decode cX6_listen 6 = .ok (.getfield 12, 3) := by decide +kernel
theorem dX6_listen_9 : decode cX6_listen 9 = .ok (.getfield 42, 3) := by decide +kernel
theorem dX6_soundsUnder_0 : decode cX6_soundsUnder 0 = .ok (.iconst 0, 1) := by decide +kernel
theorem dX6_soundsUnder_1 : decode cX6_soundsUnder 1 = .ok (.istore_n 3, 1) := by decide +kernel
theorem dX6_soundsUnder_12 : decode cX6_soundsUnder 12 = .ok (.aload_n 0, 1) := by decide +kernel
theorem dX6_soundsUnder_13 : decode cX6_soundsUnder 13 = .ok (.getfield 25, 3) := by decide +kernel
theorem dX6_soundsUnder_16 : decode cX6_soundsUnder 16 = .ok (.iload 4, 2) := by decide +kernel
theorem dX6_soundsUnder_18 : decode cX6_soundsUnder 18 = .ok (.ishr, 1) := by decide +kernel
theorem dX6_soundsUnder_19 : decode cX6_soundsUnder 19 = .ok (.iconst 1, 1) := by decide +kernel
theorem dX6_soundsUnder_2 : decode cX6_soundsUnder 2 = .ok (.iconst 0, 1) := by decide +kernel
theorem dX6_soundsUnder_20 : decode cX6_soundsUnder 20 = .ok (.iand, 1) := by decide +kernel
theorem dX6_soundsUnder_21 : decode cX6_soundsUnder 21 = .ok (.ifCond .eq 23, 3) := by decide +kernel
theorem dX6_soundsUnder_24 : decode cX6_soundsUnder 24 = .ok (.iload_n 3, 1) := by decide +kernel
theorem dX6_soundsUnder_25 : decode cX6_soundsUnder 25 = .ok (.aload_n 0, 1) := by decide +kernel
theorem dX6_soundsUnder_26 : decode cX6_soundsUnder 26 = .ok (.getfield 12, 3) := by decide +kernel
theorem dX6_soundsUnder_29 : decode cX6_soundsUnder 29 = .ok (.getfield 53, 3) := by decide +kernel
theorem dX6_soundsUnder_3 : decode cX6_soundsUnder 3 = .ok (.istore 4, 2) := by decide +kernel
theorem dX6_soundsUnder_32 : decode cX6_soundsUnder 32 = .ok (.iload_n 1, 1) := by decide +kernel
theorem dX6_soundsUnder_33 : decode cX6_soundsUnder 33 = .ok (.iload 4, 2) := by decide +kernel
theorem dX6_soundsUnder_35 : decode cX6_soundsUnder 35 = .ok (.iadd, 1) := by decide +kernel
theorem dX6_soundsUnder_36 : decode cX6_soundsUnder 36 = .ok (.i2l, 1) := by decide +kernel
theorem dX6_soundsUnder_37 : decode cX6_soundsUnder 37 = .ok (.iload_n 2, 1) := by decide +kernel
theorem dX6_soundsUnder_38 : decode cX6_soundsUnder 38 = .ok (.invokestatic 56, 3) := by decide +kernel
theorem dX6_soundsUnder_41 : decode cX6_soundsUnder 41 = .ok (.iaload, 1) := by decide +kernel
theorem dX6_soundsUnder_42 : decode cX6_soundsUnder 42 = .ok (.ior, 1) := by decide +kernel
theorem dX6_soundsUnder_43 : decode cX6_soundsUnder 43 = .ok (.istore_n 3, 1) := by decide +kernel
theorem dX6_soundsUnder_44 : decode cX6_soundsUnder 44 = .ok (.iinc 4 1, 3) := by decide +kernel
theorem dX6_soundsUnder_47 : decode cX6_soundsUnder 47 = .ok (.goto (-42), 3) := by decide +kernel
theorem dX6_soundsUnder_5 : decode cX6_soundsUnder 5 = .ok (.iload 4, 2) := by decide +kernel
theorem dX6_soundsUnder_50 : decode cX6_soundsUnder 50 = .ok (.iload_n 3, 1) := by decide +kernel
theorem dX6_soundsUnder_51 : decode cX6_soundsUnder 51 = .ok (.ireturn, 1) := by decide +kernel
theorem dX6_soundsUnder_7 : decode cX6_soundsUnder 7 = .ok (.bipush 24, 2) := by decide +kernel
theorem dX6_soundsUnder_9 : decode cX6_soundsUnder 9 = .ok (.if_icmp .ge 41, 3) := by decide +kernel
theorem dX7_putInto_0 : decode cX7_putInto 0 = .ok (.aload_n 0, 1) := by decide +kernel
theorem dX7_putInto_1 : decode cX7_putInto 1 = .ok (.invokevirtual 38, 3) := by decide +kernel
theorem dX7_putInto_10 : decode cX7_putInto 10 = .ok (.aload_n 0, 1) := by decide +kernel
theorem dX7_putInto_11 : decode cX7_putInto 11 = .ok (.invokevirtual 42, 3) := by decide +kernel
theorem dX7_putInto_14 : decode cX7_putInto 14 = .ok (.goto 6, 3) := by decide +kernel
theorem dX7_putInto_17 : decode cX7_putInto 17 = .ok (.iconst (-1), 1) := by decide +kernel
theorem dX7_putInto_18 : decode cX7_putInto 18 = .ok (.iload_n 2, 1) := by decide +kernel
theorem dX7_putInto_19 : decode cX7_putInto 19 = .ok (.isub, 1) := by decide +kernel
theorem dX7_putInto_20 : decode cX7_putInto 20 = .ok (.istore_n 3, 1) := by decide +kernel
theorem dX7_putInto_21 : decode cX7_putInto 21 = .ok (.aload_n 0, 1) := by decide +kernel
theorem dX7_putInto_22 : decode cX7_putInto 22 = .ok (.iconst 0, 1) := by decide +kernel
theorem dX7_putInto_23 : decode cX7_putInto 23 = .ok (.putfield 15, 3) := by decide +kernel
theorem dX7_putInto_26 : decode cX7_putInto 26 = .ok (.iload_n 3, 1) := by decide +kernel
theorem dX7_putInto_27 : decode cX7_putInto 27 = .ok (.ifCond .ne 18, 3) := by decide +kernel
theorem dX7_putInto_30 : decode cX7_putInto 30 = .ok (.aload_n 1, 1) := by decide +kernel
theorem dX7_putInto_31 : decode cX7_putInto 31 = .ok (.aload_n 0, 1) := by decide +kernel
theorem dX7_putInto_32 : decode cX7_putInto 32 = .ok (.getfield 27, 3) := by decide +kernel
theorem dX7_putInto_35 : decode cX7_putInto 35 = .ok (.iconst 0, 1) := by decide +kernel
theorem dX7_putInto_36 : decode cX7_putInto 36 = .ok (.aaload, 1) := by decide +kernel
theorem dX7_putInto_37 : decode cX7_putInto 37 = .ok (.invokevirtual 45, 3) := by decide +kernel
theorem dX7_putInto_4 : decode cX7_putInto 4 = .ok (.istore_n 2, 1) := by decide +kernel
theorem dX7_putInto_40 : decode cX7_putInto 40 = .ok (.aload_n 1, 1) := by decide +kernel
theorem dX7_putInto_41 : decode cX7_putInto 41 = .ok (.getfield 49, 3) := by decide +kernel
theorem dX7_putInto_44 : decode cX7_putInto 44 = .ok (.istore_n 3, 1) := by decide +kernel
theorem dX7_putInto_45 : decode cX7_putInto 45 = .ok (.iload_n 3, 1) := by decide +kernel
theorem dX7_putInto_46 : decode cX7_putInto 46 = .ok (.ireturn, 1) := by decide +kernel
theorem dX7_putInto_5 : decode cX7_putInto 5 = .ok (.iload_n 2, 1) := by decide +kernel
theorem dX7_putInto_6 : decode cX7_putInto 6 = .ok (.iconst (-1), 1) := by decide +kernel
theorem dX7_putInto_7 : decode cX7_putInto 7 = .ok (.if_icmp .ne 10, 3) := by decide +kernel
theorem dX7_putTogether_0 : decode cX7_putTogether 0 = .ok (.aload_n 0, 1) := by decide +kernel
theorem dX7_putTogether_1 : decode cX7_putTogether 1 = .ok (.iconst 0, 1) := by decide +kernel
theorem dX7_putTogether_10 : decode cX7_putTogether 10 = .ok (.aload_n 0, 1) := by decide +kernel
theorem dX7_putTogether_11 : decode cX7_putTogether 11 = .ok (.invokevirtual 67, 3) := by decide +kernel
theorem dX7_putTogether_14 : decode cX7_putTogether 14 = .ok (.iconst 0, 1) := by decide +kernel
theorem dX7_putTogether_15 : decode cX7_putTogether 15 = .ok (.istore_n 1, 1) := by decide +kernel
theorem dX7_putTogether_16 : decode cX7_putTogether 16 = .ok (.iconst 0, 1) := by decide +kernel
theorem dX7_putTogether_17 : decode cX7_putTogether 17 = .ok (.istore_n 2, 1) := by decide +kernel
theorem dX7_putTogether_18 : decode cX7_putTogether 18 = .ok (.iload_n 2, 1) := by decide +kernel
theorem dX7_putTogether_19 : decode cX7_putTogether 19 = .ok (.aload_n 0, 1) := by decide +kernel
theorem dX7_putTogether_2 : decode cX7_putTogether 2 = .ok (.putfield 19, 3) := by decide +kernel
theorem dX7_putTogether_20 : decode cX7_putTogether 20 = .ok (.getfield 15, 3) := by decide +kernel
theorem dX7_putTogether_23 : decode cX7_putTogether 23 = .ok (.if_icmp .ge 54, 3) := by decide +kernel
theorem dX7_putTogether_26 : decode cX7_putTogether 26 = .ok (.iload_n 1, 1) := by decide +kernel
theorem dX7_putTogether_27 : decode cX7_putTogether 27 = .ok (.ifCond .ne 50, 3) := by decide +kernel
theorem dX7_putTogether_30 : decode cX7_putTogether 30 = .ok (.aload_n 0, 1) := by decide +kernel
theorem dX7_putTogether_31 : decode cX7_putTogether 31 = .ok (.getfield 9, 3) := by decide +kernel
theorem dX7_putTogether_34 : decode cX7_putTogether 34 = .ok (.iload_n 2, 1) := by decide +kernel
theorem dX7_putTogether_35 : decode cX7_putTogether 35 = .ok (.iaload, 1) := by decide +kernel
theorem dX7_putTogether_36 : decode cX7_putTogether 36 = .ok (.bipush 48, 2) := by decide +kernel
theorem dX7_putTogether_38 : decode cX7_putTogether 38 = .ok (.invokestatic 63, 3) := by decide +kernel
theorem dX7_putTogether_41 : decode cX7_putTogether 41 = .ok (.ifCond .eq 19, 3) := by decide +kernel
theorem dX7_putTogether_44 : decode cX7_putTogether 44 = .ok (.aload_n 0, 1) := by decide +kernel
theorem dX7_putTogether_45 : decode cX7_putTogether 45 = .ok (.aload_n 0, 1) := by decide +kernel
theorem dX7_putTogether_46 : decode cX7_putTogether 46 = .ok (.getfield 9, 3) := by decide +kernel
theorem dX7_putTogether_49 : decode cX7_putTogether 49 = .ok (.iload_n 2, 1) := by decide +kernel
theorem dX7_putTogether_5 : decode cX7_putTogether 5 = .ok (.aload_n 0, 1) := by decide +kernel
theorem dX7_putTogether_50 : decode cX7_putTogether 50 = .ok (.iaload, 1) := by decide +kernel
theorem dX7_putTogether_51 : decode cX7_putTogether 51 = .ok (.bipush 48, 2) := by decide +kernel
theorem dX7_putTogether_53 : decode cX7_putTogether 53 = .ok (.isub, 1) := by decide +kernel
theorem dX7_putTogether_54 : decode cX7_putTogether 54 = .ok (.invokevirtual 70, 3) := by decide +kernel
theorem dX7_putTogether_57 : decode cX7_putTogether 57 = .ok (.goto 13, 3) := by decide +kernel
theorem dX7_putTogether_6 : decode cX7_putTogether 6 = .ok (.iconst 0, 1) := by decide +kernel
theorem dX7_putTogether_60 : decode cX7_putTogether 60 = .ok (.aload_n 0, 1) := by decide +kernel
theorem dX7_putTogether_61 : decode cX7_putTogether 61 = .ok (.aload_n 0, 1) := by decide +kernel
theorem dX7_putTogether_62 : decode cX7_putTogether 62 = .ok (.getfield 9, 3) := by decide +kernel
theorem dX7_putTogether_65 : decode cX7_putTogether 65 = .ok (.iload_n 2, 1) := by decide +kernel
theorem dX7_putTogether_66 : decode cX7_putTogether 66 = .ok (.iaload, 1) := by decide +kernel
theorem dX7_putTogether_67 : decode cX7_putTogether 67 = .ok (.invokevirtual 73, 3) := by decide +kernel
theorem dX7_putTogether_7 : decode cX7_putTogether 7 = .ok (.putfield 22, 3) := by decide +kernel
theorem dX7_putTogether_70 : decode cX7_putTogether 70 = .ok (.istore_n 1, 1) := by decide +kernel
theorem dX7_putTogether_71 : decode cX7_putTogether 71 = .ok (.iinc 2 1, 3) := by decide +kernel
theorem dX7_putTogether_74 : decode cX7_putTogether 74 = .ok (.goto (-56), 3) := by decide +kernel
theorem dX7_putTogether_77 : decode cX7_putTogether 77 = .ok (.iload_n 1, 1) := by decide +kernel
theorem dX7_putTogether_78 : decode cX7_putTogether 78 = .ok (.ifCond .ne 10, 3) := by decide +kernel
theorem dX7_putTogether_81 : decode cX7_putTogether 81 = .ok (.aload_n 0, 1) := by decide +kernel
theorem dX7_putTogether_82 : decode cX7_putTogether 82 = .ok (.invokevirtual 76, 3) := by decide +kernel
theorem dX7_putTogether_85 : decode cX7_putTogether 85 = .ok (.goto 4, 3) := by decide +kernel
theorem dX7_putTogether_88 : decode cX7_putTogether 88 = .ok (.iload_n 1, 1) := by decide +kernel
theorem dX7_putTogether_89 : decode cX7_putTogether 89 = .ok (.ireturn, 1) := by decide +kernel
theorem dX8_at_0 : decode cX8_at 0 = .ok (.aload_n 0, 1) := by decide +kernel
theorem dX8_at_1 : decode cX8_at 1 = .ok (.iload_n 1, 1) := by decide +kernel
theorem dX8_at_12 : decode cX8_at 12 = .ok (.iload_n 1, 1) := by decide +kernel
theorem dX8_at_13 : decode cX8_at 13 = .ok (.iaload, 1) := by decide +kernel
theorem dX8_at_14 : decode cX8_at 14 = .ok (.goto 4, 3) := by decide +kernel
theorem dX8_at_17 : decode cX8_at 17 = .ok (.iconst (-1), 1) := by decide +kernel
theorem dX8_at_18 : decode cX8_at 18 = .ok (.ireturn, 1) := by decide +kernel
theorem dX8_at_2 : decode cX8_at 2 = .ok (.invokevirtual 19, 3) := by decide +kernel
theorem dX8_at_5 : decode cX8_at 5 = .ok (.ifCond .eq 12, 3) := by decide +kernel
theorem dX8_at_8 : decode cX8_at 8 = .ok (.aload_n 0, 1) := by decide +kernel
theorem dX8_at_9 : decode cX8_at 9 = .ok (.getfield 9, 3) := by decide +kernel
theorem dX9_add_0 : decode cX9_add 0 = .ok (.aload_n 0, 1) := by decide +kernel
theorem dX9_add_1 : decode cX9_add 1 = .ok (.getfield 23, 3) := by decide +kernel
theorem dX9_add_10 : decode cX9_add 10 = .ok (.aload_n 0, 1) := by decide +kernel
theorem dX9_add_11 : decode cX9_add 11 = .ok (.getfield 19, 3) := by decide +kernel
theorem dX9_add_14 : decode cX9_add 14 = .ok (.aload_n 0, 1) := by decide +kernel
theorem dX9_add_15 : decode cX9_add 15 = .ok (.getfield 23, 3) := by decide +kernel
theorem dX9_add_18 : decode cX9_add 18 = .ok (.aaload, 1) := by decide +kernel
theorem dX9_add_19 : decode cX9_add 19 = .ok (.aload_n 1, 1) := by decide +kernel
theorem dX9_add_20 : decode cX9_add 20 = .ok (.iload_n 2, 1) := by decide +kernel
theorem dX9_add_21 : decode cX9_add 21 = .ok (.iload_n 3, 1) := by decide +kernel
theorem dX9_add_22 : decode cX9_add 22 = .ok (.invokevirtual 29, 3) := by decide +kernel
theorem dX9_add_25 : decode cX9_add 25 = .ok (.aload_n 0, 1) := by decide +kernel
theorem dX9_add_26 : decode cX9_add 26 = .ok (.dup, 1) := by decide +kernel
theorem dX9_add_27 : decode cX9_add 27 = .ok (.getfield 23, 3) := by decide +kernel
theorem dX9_add_30 : decode cX9_add 30 = .ok (.iconst 1, 1) := by decide +kernel
theorem dX9_add_31 : decode cX9_add 31 = .ok (.iadd, 1) := by decide +kernel
theorem dX9_add_32 : decode cX9_add 32 = .ok (.putfield 23, 3) := by decide +kernel
theorem dX9_add_35 : decode cX9_add 35 = .ok (.aload_n 0, 1) := by decide +kernel
theorem dX9_add_36 : decode cX9_add 36 = .ok (.getfield 23, 3) := by decide +kernel
theorem dX9_add_39 : decode cX9_add 39 = .ok (.iconst 1, 1) := by decide +kernel
theorem dX9_add_4 : decode cX9_add 4 = .ok (.iconst 4, 1) := by decide +kernel
theorem dX9_add_40 : decode cX9_add 40 = .ok (.isub, 1) := by decide +kernel
theorem dX9_add_41 : decode cX9_add 41 = .ok (.ireturn, 1) := by decide +kernel
theorem dX9_add_5 : decode cX9_add 5 = .ok (.if_icmp .lt 5, 3) := by decide +kernel
theorem dX9_add_8 : decode cX9_add 8 = .ok (.iconst (-1), 1) := by decide +kernel
theorem dX9_add_9 : decode cX9_add 9 = .ok (.ireturn, 1) := by decide +kernel
theorem dm_X7_readSign : yX7_readSign.cls = RX7 ∧ yX7_readSign.cls ≠ "java/lang/invoke/MethodHandle" ∧ yX7_readSign.cls ≠ "java/lang/invoke/VarHandle" ∧ (parseMethodDescriptor yX7_readSign.desc).map (fun d => d.parameters.length) = some 1 := by decide +kernel
theorem dm_X7_readDigit : yX7_readDigit.cls = RX7 ∧ yX7_readDigit.cls ≠ "java/lang/invoke/MethodHandle" ∧ yX7_readDigit.cls ≠ "java/lang/invoke/VarHandle" ∧ (parseMethodDescriptor yX7_readDigit.desc).map (fun d => d.parameters.length) = some 1 := by decide +kernel
theorem dm_X7_firstWrong : yX7_firstWrong.cls = RX7 ∧ yX7_firstWrong.cls ≠ "java/lang/invoke/MethodHandle" ∧ yX7_firstWrong.cls ≠ "java/lang/invoke/VarHandle" ∧ (parseMethodDescriptor yX7_firstWrong.desc).map (fun d => d.parameters.length) = some 0 := by decide +kernel
theorem dm_X7_putTogether : yX7_putTogether.cls = RX7 ∧ yX7_putTogether.cls ≠ "java/lang/invoke/MethodHandle" ∧ yX7_putTogether.cls ≠ "java/lang/invoke/VarHandle" ∧ (parseMethodDescriptor yX7_putTogether.desc).map (fun d => d.parameters.length) = some 0 := by decide +kernel
theorem dm_X7_putInto : yX7_putInto.cls = RX7 ∧ yX7_putInto.cls ≠ "java/lang/invoke/MethodHandle" ∧ yX7_putInto.cls ≠ "java/lang/invoke/VarHandle" ∧ (parseMethodDescriptor yX7_putInto.desc).map (fun d => d.parameters.length) = some 1 := by decide +kernel
theorem dm_X8_at : yX8_at.cls = RX8 ∧ yX8_at.cls ≠ "java/lang/invoke/MethodHandle" ∧ yX8_at.cls ≠ "java/lang/invoke/VarHandle" ∧ (parseMethodDescriptor yX8_at.desc).map (fun d => d.parameters.length) = some 1 := by decide +kernel
theorem dm_X11_within : yX11_within.cls = RX11 ∧ yX11_within.cls ≠ "java/lang/invoke/MethodHandle" ∧ yX11_within.cls ≠ "java/lang/invoke/VarHandle" ∧ (parseMethodDescriptor yX11_within.desc).map (fun d => d.parameters.length) = some 3 := by decide +kernel
theorem dm_X11_by : yX11_by.cls = RX11 ∧ yX11_by.cls ≠ "java/lang/invoke/MethodHandle" ∧ yX11_by.cls ≠ "java/lang/invoke/VarHandle" ∧ (parseMethodDescriptor yX11_by.desc).map (fun d => d.parameters.length) = some 2 := by decide +kernel
theorem dm_X6_soundsUnder : yX6_soundsUnder.cls = RX6 ∧ yX6_soundsUnder.cls ≠ "java/lang/invoke/MethodHandle" ∧ yX6_soundsUnder.cls ≠ "java/lang/invoke/VarHandle" ∧ (parseMethodDescriptor yX6_soundsUnder.desc).map (fun d => d.parameters.length) = some 2 := by decide +kernel
theorem dm_X6_fillUnder : yX6_fillUnder.cls = RX6 ∧ yX6_fillUnder.cls ≠ "java/lang/invoke/MethodHandle" ∧ yX6_fillUnder.cls ≠ "java/lang/invoke/VarHandle" ∧ (parseMethodDescriptor yX6_fillUnder.desc).map (fun d => d.parameters.length) = some 2 := by decide +kernel
theorem dm_X6_listen : yX6_listen.cls = RX6 ∧ yX6_listen.cls ≠ "java/lang/invoke/MethodHandle" ∧ yX6_listen.cls ≠ "java/lang/invoke/VarHandle" ∧ (parseMethodDescriptor yX6_listen.desc).map (fun d => d.parameters.length) = some 0 := by decide +kernel
theorem dm_X6_begin : yX6_begin.cls = RX6 ∧ yX6_begin.cls ≠ "java/lang/invoke/MethodHandle" ∧ yX6_begin.cls ≠ "java/lang/invoke/VarHandle" ∧ (parseMethodDescriptor yX6_begin.desc).map (fun d => d.parameters.length) = some 3 := by decide +kernel
theorem dm_X11_isMotor : yX11_isMotor.cls = RX11 ∧ yX11_isMotor.cls ≠ "java/lang/invoke/MethodHandle" ∧ yX11_isMotor.cls ≠ "java/lang/invoke/VarHandle" ∧ (parseMethodDescriptor yX11_isMotor.desc).map (fun d => d.parameters.length) = some 1 := by decide +kernel
theorem dm_X9_add : yX9_add.cls = RX9 ∧ yX9_add.cls ≠ "java/lang/invoke/MethodHandle" ∧ yX9_add.cls ≠ "java/lang/invoke/VarHandle" ∧ (parseMethodDescriptor yX9_add.desc).map (fun d => d.parameters.length) = some 3 := by decide +kernel
set_option maxRecDepth 100000 in
def wC_Splicer_putTogether  (M : zM) (Q : Int → zM → Prop) : Prop := (∀ M1 : zM, M1 = zup M 1 2 0 → (∀ M3 : zM, M3 = zup M1 1 3 0 → wC_Splicer_openRow  M3 (fun M5 => wL2 (fun K18 x6 x7 M8 => ((sI (M8 1 1)) ≤ (sI x7) → ((sI x6) ≠ 0 → Q (sI x6) M8) ∧ ((sI x6) = 0 → wC_Splicer_layTerm  M8 (fun z19 M18 => Q z19 M18))) ∧ ((sI x7) < (sI (M8 1 1)) → ((sI x6) ≠ 0 → ((sI x6) ≠ 0 → Q (sI x6) M8) ∧ ((sI x6) = 0 → wC_Splicer_layTerm  M8 (fun z24 M23 => Q z24 M23))) ∧ ((sI x6) = 0 → ((0 ≤ (sI x7) ∧ (sI x7) < 100) ∧ wC_Splicer_isDigit (M8 2 (sI x7).toNat) 48 M8 (fun z28 => (z28 = 0 → ((0 ≤ (sI x7) ∧ (sI x7) < 100) ∧ wC_Splicer_readSign (M8 2 (sI x7).toNat) M8 (fun z34 M33 => K18 z34 (x7 + 1) M33))) ∧ (z28 ≠ 0 → ((0 ≤ (sI x7) ∧ (sI x7) < 100) ∧ wC_Splicer_readDigit ((M8 2 (sI x7).toNat) - 48) M8 (fun z40 M39 => K18 z40 (x7 + 1) M39)))))))) 0 0 M5)))
set_option maxHeartbeats 4000000 in
set_option maxRecDepth 100000 in
theorem cC_Splicer_putTogether (l : Launch) (D : va_G) (dA : Nat → ClassId) (b : Nat) (M : zM)   (Q : Int → zM → Prop) (h : wC_Splicer_putTogether  M Q) : Met l yX7_putTogether (.code yX7_putTogether cX7_putTogether 3 (some .int) :: zt) (z_rm 5) (va_Pc [.ref (b + 1)] (wPre D dA vwCl (z_tys dA) wC nC b M)) (va_Qi (wQi Q) (zB D dA vwCl wC nC b) (zA nC b)) 0 0 (zA nC b) := by
  unfold wC_Splicer_putTogether at h
  refine Met.ofW (cc := cX7_putTogether) (maxL := 3) (ret := (some .int)) (by decide) rfl ?_
  intro p e s m args below meth c s₁ B hml hv
  obtain ⟨hargs, hS, hK⟩ := hv
  have hx := B.exec
  have hb := B.bytes
  have hr := B.returns
  have hts := atoms_spec (ws := .code yX7_putTogether cX7_putTogether 3 (some .int) :: zt) B.pre
  have hown : s.vm.findClass RX7 = some m.cls := findClass_of_methodNamed B.named
  have hlocks := B.notSynchronized
  have hS0 : va_S (zA nC b) s.heap s.heap [] := va_S.rf
  have hl := lv_entry ([.ref (b + 1)]) (n := 3) (Nat.le_of_ble_eq_true rfl)
  have hent : entryFrame m args 3 = F0 m 0 ((lg_sl ([.ref (b + 1)]) ++ List.replicate (3 - (lg_sl ([.ref (b + 1)])).length) Slot.unset).toArray) [] := by rw [hargs]; exact lg_entry_eq m ([.ref (b + 1)]) 3
  rw [hent]
  generalize (lg_sl ([.ref (b + 1)]) ++ List.replicate (3 - (lg_sl ([.ref (b + 1)])).length) Slot.unset).toArray = ls at hl ⊢
  have hl : lv_has ls 3 [(0, .ref (b + 1))] := hl
  refine lv_aload_n hx hb dX7_putTogether_0 rfl (lv_at hl 0 rfl) ?_
  refine z_iconst hx hb dX7_putTogether_1 ?_
  refine w_puti hx hb hts (z_memU u7) tyX7 tyX7_ok nmX7 hown hK.1 hS hS0 f7_2 (by decide) (zkd_of (rfl : zcd wC 1 = 1) rfl) (Or.inl (hts _ (z_mem k57))) rfl (z := 0) (by decide +kernel) dX7_putTogether_2 (fun H locs hS hS0 => ?_)
  obtain ⟨M1, e2⟩ : ∃ M1 : zM, M1 = zup M 1 2 0 := ⟨_, rfl⟩
  rw [← e2] at hS
  have h := h M1 e2
  refine lv_aload_n hx hb dX7_putTogether_5 rfl (lv_at hl 0 rfl) ?_
  refine z_iconst hx hb dX7_putTogether_6 ?_
  refine w_puti hx hb hts (z_memU u7) tyX7 tyX7_ok nmX7 hown hK.1 hS hS0 f7_3 (by decide) (zkd_of (rfl : zcd wC 1 = 1) rfl) (Or.inl (hts _ (z_mem k58))) rfl (z := 0) (by decide +kernel) dX7_putTogether_7 (fun H locs hS hS0 => ?_)
  obtain ⟨M3, e4⟩ : ∃ M3 : zM, M3 = zup M1 1 3 0 := ⟨_, rfl⟩
  rw [← e4] at hS
  have h := h M3 e4
  refine lv_aload_n hx hb dX7_putTogether_10 rfl (lv_at hl 0 rfl) ?_
  refine w_callv (va_runV (As := []) (rest := []) ⟨hx, hb, hml, hown, hts⟩ (cC_Splicer_openRow l D dA b M3  _ h) (cwV 0 hts (z_gV k306 k307 k1355 k2 k308) rfl rfl rfl dm_X7_openRow ⟨Nat.le_of_ble_eq_true rfl, Nat.le_of_ble_eq_true rfl⟩) ⟨wPre_blind, (w_recv hS hK.1 (by decide) (zkd_of (rfl : zcd wC 1 = 1) rfl) (by decide) (rfl : vwCl[7]? = some (RX7, TX7, 7))), w_pre hS hK⟩ rfl rfl hl.1 rfl (lv_room (Nat.le_of_ble_eq_true rfl)) dX7_putTogether_11 ⟨Nat.le_refl _, Nat.le_refl _⟩) hS0 (fun M5 H locs h hS hS0 => ?_)
  refine z_iconst hx hb dX7_putTogether_14 ?_
  refine lv_istore_n (lv' := [(1, .int (iI 0)), (0, .ref (b + 1))]) hx hb dX7_putTogether_15 rfl hl (by decide) rfl (fun ls hl => ?_)
  refine z_iconst hx hb dX7_putTogether_16 ?_
  refine lv_istore_n (lv' := [(2, .int (iI 0)), (1, .int (iI 0)), (0, .ref (b + 1))]) hx hb dX7_putTogether_17 rfl hl (by decide) rfl (fun ls hl => ?_)
  obtain ⟨I9, ⟨n10, h11⟩, h12⟩ := h
  have L13 : ∀ (n14 : Nat) (x6 x7 : Int) (M8 : zM) (H : Heap) (locs : List Loc) (ls : Array Slot), I9 n14 x6 x7 M8 → zR D dA vwCl wC nC b M8 H → va_S (zA nC b) s.heap H locs → lv_has ls 3 [(0, .ref (b + 1)), (1, .int (iI x6)), (2, .int (iI x7))] → W p l e (headSpec (.code yX7_putTogether cX7_putTogether 3 (some .int) :: zt) (z_rm 5)).room s m args below meth c H locs 0 0 (MQ below (va_Qi (wQi Q) (zB D dA vwCl wC nC b) (zA nC b)) args s 0 0 (zA nC b)) (F0 m 18 ls []) := by
    intro n14
    induction n14 using Nat.strongRecOn with
    | ind n14 i15 =>
      intro x6 x7 M8 H locs ls h hS hS0 hl
      have h := h12 n14 x6 x7 M8 h
      refine lv_iload_n hx hb dX7_putTogether_18 rfl (lv_at hl 2 rfl) ?_
      refine lv_aload_n hx hb dX7_putTogether_19 rfl (lv_at hl 0 rfl) ?_
      refine w_geti hx hb hts (z_memU u7) hown hK.1 hS f7_1 (by decide) (zkd_of (rfl : zcd wC 1 = 1) rfl) (Or.inl (hts _ (z_mem k55))) dX7_putTogether_20 ?_
      refine w_icmp_ge (tgt := 77) hx hb rfl rfl dX7_putTogether_23 (by decide) (fun c16 => ?_) (fun c16 => ?_)
      · skip
        have h := h.1 c16
        refine lv_iload_n hx hb dX7_putTogether_77 rfl (lv_at hl 1 rfl) ?_
        refine w_if_ne (tgt := 88) hx hb rfl dX7_putTogether_78 (by decide) (fun c17 => ?_) (fun c17 => ?_)
        · skip
          have h := h.1 c17
          refine lv_iload_n hx hb dX7_putTogether_88 rfl (lv_at hl 1 rfl) ?_
          exact w_iret hx hb hr hlocks hS hS0 rfl h dX7_putTogether_89
        · skip
          have h := h.2 c17
          refine lv_aload_n hx hb dX7_putTogether_81 rfl (lv_at hl 0 rfl) ?_
          refine w_calli (va_runV (As := []) (rest := []) ⟨hx, hb, hml, hown, hts⟩ (cC_Splicer_layTerm l D dA b M8  _ h) (cwV 0 hts (z_gV k333 k334 k1359 k2 k335) rfl rfl rfl dm_X7_layTerm ⟨Nat.le_of_ble_eq_true rfl, Nat.le_of_ble_eq_true rfl⟩) ⟨wPre_blind, (w_recv hS hK.1 (by decide) (zkd_of (rfl : zcd wC 1 = 1) rfl) (by decide) (rfl : vwCl[7]? = some (RX7, TX7, 7))), w_pre hS hK⟩ rfl rfl hl.1 rfl (lv_room (Nat.le_of_ble_eq_true rfl)) dX7_putTogether_82 ⟨Nat.le_refl _, Nat.le_refl _⟩) hS0 (fun z19 M18 H locs r20 h hS hS0 => ?_)
          refine lv_goto (tgt := 89) hx hb dX7_putTogether_85 (by decide) ?_
          exact w_iret hx hb hr hlocks hS hS0 (sI_of r20) h dX7_putTogether_89
      · skip
        have h := h.2 c16
        refine lv_iload_n hx hb dX7_putTogether_26 rfl (lv_at hl 1 rfl) ?_
        refine w_if_ne (tgt := 77) hx hb rfl dX7_putTogether_27 (by decide) (fun c21 => ?_) (fun c21 => ?_)
        · skip
          have h := h.1 c21
          refine lv_iload_n hx hb dX7_putTogether_77 rfl (lv_at hl 1 rfl) ?_
          refine w_if_ne (tgt := 88) hx hb rfl dX7_putTogether_78 (by decide) (fun c22 => ?_) (fun c22 => ?_)
          · skip
            have h := h.1 c22
            refine lv_iload_n hx hb dX7_putTogether_88 rfl (lv_at hl 1 rfl) ?_
            exact w_iret hx hb hr hlocks hS hS0 rfl h dX7_putTogether_89
          · skip
            have h := h.2 c22
            refine lv_aload_n hx hb dX7_putTogether_81 rfl (lv_at hl 0 rfl) ?_
            refine w_calli (va_runV (As := []) (rest := []) ⟨hx, hb, hml, hown, hts⟩ (cC_Splicer_layTerm l D dA b M8  _ h) (cwV 0 hts (z_gV k333 k334 k1359 k2 k335) rfl rfl rfl dm_X7_layTerm ⟨Nat.le_of_ble_eq_true rfl, Nat.le_of_ble_eq_true rfl⟩) ⟨wPre_blind, (w_recv hS hK.1 (by decide) (zkd_of (rfl : zcd wC 1 = 1) rfl) (by decide) (rfl : vwCl[7]? = some (RX7, TX7, 7))), w_pre hS hK⟩ rfl rfl hl.1 rfl (lv_room (Nat.le_of_ble_eq_true rfl)) dX7_putTogether_82 ⟨Nat.le_refl _, Nat.le_refl _⟩) hS0 (fun z24 M23 H locs r25 h hS hS0 => ?_)
            refine lv_goto (tgt := 89) hx hb dX7_putTogether_85 (by decide) ?_
            exact w_iret hx hb hr hlocks hS hS0 (sI_of r25) h dX7_putTogether_89
        · skip
          have h := h.2 c21
          refine lv_aload_n hx hb dX7_putTogether_30 rfl (lv_at hl 0 rfl) ?_
          refine w_getr (j2 := 2) hx hb hts (z_memU u7) hown hK.1 hS f7_0 (by decide) (zkd_of (rfl : zcd wC 1 = 1) rfl) (zrf_of (rfl : zcd wC 1 = 1) rfl) (Or.inl (hts _ (z_mem k54))) dX7_putTogether_31 ?_
          refine lv_iload_n hx hb dX7_putTogether_34 rfl (lv_at hl 2 rfl) ?_
          obtain ⟨o26, h⟩ := h
          refine w_iald (n := 100) (i := (sI x7)) hx hb hK.1 (t0 := 0) rfl hS (by decide) (zkd_of (rfl : zcd wC 2 = 2) rfl) (zln_of (rfl : zcd wC 2 = 2) rfl) rfl o26.1 o26.2 (by decide) dX7_putTogether_35 ?_
          refine z_bipush hx hb (by decide) dX7_putTogether_36 ?_
          refine w_callz (va_runS (As := [.int (iI (M8 2 (sI x7).toNat)), .int (iI 48)]) (rest := []) ⟨hx, hb, hml, hown, hts⟩ (cC_Splicer_isDigit l D dA b M8 (M8 2 (sI x7).toNat) 48 _ h) (va_cwS 2 hts (z_gS k297 k298 k2 k299) rfl rfl rfl dm_X7_isDigit.2 ⟨Nat.le_of_ble_eq_true rfl, Nat.le_of_ble_eq_true rfl⟩) ⟨wPre_blind, w_pre hS hK⟩ rfl rfl hl.1 rfl (lv_room (Nat.le_of_ble_eq_true rfl)) dX7_putTogether_38 ⟨Nat.le_refl _, Nat.le_refl _⟩) hS0 (fun z28 M27 H locs r29 h hS hS0 => ?_)
          obtain ⟨e30, h⟩ := h
          rw [e30] at hS
          refine w_if_eq (tgt := 60) hx hb (sI_01 r29) dX7_putTogether_41 (by decide) (fun c31 => ?_) (fun c31 => ?_)
          · skip
            have h := h.1 c31
            refine lv_aload_n hx hb dX7_putTogether_60 rfl (lv_at hl 0 rfl) ?_
            refine lv_aload_n hx hb dX7_putTogether_61 rfl (lv_at hl 0 rfl) ?_
            refine w_getr (j2 := 2) hx hb hts (z_memU u7) hown hK.1 hS f7_0 (by decide) (zkd_of (rfl : zcd wC 1 = 1) rfl) (zrf_of (rfl : zcd wC 1 = 1) rfl) (Or.inl (hts _ (z_mem k54))) dX7_putTogether_62 ?_
            refine lv_iload_n hx hb dX7_putTogether_65 rfl (lv_at hl 2 rfl) ?_
            obtain ⟨o32, h⟩ := h
            refine w_iald (n := 100) (i := (sI x7)) hx hb hK.1 (t0 := 0) rfl hS (by decide) (zkd_of (rfl : zcd wC 2 = 2) rfl) (zln_of (rfl : zcd wC 2 = 2) rfl) rfl o32.1 o32.2 (by decide) dX7_putTogether_66 ?_
            refine w_calli (va_runV (As := [.int (iI (M8 2 (sI x7).toNat))]) (rest := []) ⟨hx, hb, hml, hown, hts⟩ (cC_Splicer_readSign l D dA b M8 (M8 2 (sI x7).toNat) _ h) (cwV 1 hts (z_gV k347 k348 k1360 k2 k349) rfl rfl rfl dm_X7_readSign ⟨Nat.le_of_ble_eq_true rfl, Nat.le_of_ble_eq_true rfl⟩) ⟨wPre_blind, (w_recv hS hK.1 (by decide) (zkd_of (rfl : zcd wC 1 = 1) rfl) (by decide) (rfl : vwCl[7]? = some (RX7, TX7, 7))), w_pre hS hK⟩ rfl rfl hl.1 rfl (lv_room (Nat.le_of_ble_eq_true rfl)) dX7_putTogether_67 ⟨Nat.le_refl _, Nat.le_refl _⟩) hS0 (fun z34 M33 H locs r35 h hS hS0 => ?_)
            refine lv_istore_n (lv' := [(1, .int (iI z34)), (0, .ref (b + 1)), (2, .int (iI x7))]) hx hb dX7_putTogether_70 rfl hl (by decide) rfl (fun ls hl => ?_)
            refine z_iinc (lv' := [(2, .int (iI (x7 + 1))), (1, .int (iI z34)), (0, .ref (b + 1))]) hx hb dX7_putTogether_71 hl (k := 2) rfl (by decide) rfl (fun ls hl => ?_)
            refine lv_goto (tgt := 18) hx hb dX7_putTogether_74 (by decide) ?_
            obtain ⟨n36, h37, h⟩ := h
            exact i15 n36 h37 z34 (x7 + 1) M33 _ _ _ h hS hS0 (lv_sub hl [2, 1, 0] rfl)
          · skip
            have h := h.2 c31
            refine lv_aload_n hx hb dX7_putTogether_44 rfl (lv_at hl 0 rfl) ?_
            refine lv_aload_n hx hb dX7_putTogether_45 rfl (lv_at hl 0 rfl) ?_
            refine w_getr (j2 := 2) hx hb hts (z_memU u7) hown hK.1 hS f7_0 (by decide) (zkd_of (rfl : zcd wC 1 = 1) rfl) (zrf_of (rfl : zcd wC 1 = 1) rfl) (Or.inl (hts _ (z_mem k54))) dX7_putTogether_46 ?_
            refine lv_iload_n hx hb dX7_putTogether_49 rfl (lv_at hl 2 rfl) ?_
            obtain ⟨o38, h⟩ := h
            refine w_iald (n := 100) (i := (sI x7)) hx hb hK.1 (t0 := 0) rfl hS (by decide) (zkd_of (rfl : zcd wC 2 = 2) rfl) (zln_of (rfl : zcd wC 2 = 2) rfl) rfl o38.1 o38.2 (by decide) dX7_putTogether_50 ?_
            refine z_bipush hx hb (by decide) dX7_putTogether_51 ?_
            refine z_isub hx hb dX7_putTogether_53 ?_
            refine w_calli (va_runV (As := [.int (iI ((M8 2 (sI x7).toNat) - 48))]) (rest := []) ⟨hx, hb, hml, hown, hts⟩ (cC_Splicer_readDigit l D dA b M8 ((M8 2 (sI x7).toNat) - 48) _ h) (cwV 1 hts (z_gV k309 k310 k1356 k2 k311) rfl rfl rfl dm_X7_readDigit ⟨Nat.le_of_ble_eq_true rfl, Nat.le_of_ble_eq_true rfl⟩) ⟨wPre_blind, (w_recv hS hK.1 (by decide) (zkd_of (rfl : zcd wC 1 = 1) rfl) (by decide) (rfl : vwCl[7]? = some (RX7, TX7, 7))), w_pre hS hK⟩ rfl rfl hl.1 rfl (lv_room (Nat.le_of_ble_eq_true rfl)) dX7_putTogether_54 ⟨Nat.le_refl _, Nat.le_refl _⟩) hS0 (fun z40 M39 H locs r41 h hS hS0 => ?_)
            refine lv_goto (tgt := 70) hx hb dX7_putTogether_57 (by decide) ?_
            refine lv_istore_n (lv' := [(1, .int (iI z40)), (0, .ref (b + 1)), (2, .int (iI x7))]) hx hb dX7_putTogether_70 rfl hl (by decide) rfl (fun ls hl => ?_)
            refine z_iinc (lv' := [(2, .int (iI (x7 + 1))), (1, .int (iI z40)), (0, .ref (b + 1))]) hx hb dX7_putTogether_71 hl (k := 2) rfl (by decide) rfl (fun ls hl => ?_)
            refine lv_goto (tgt := 18) hx hb dX7_putTogether_74 (by decide) ?_
            obtain ⟨n42, h43, h⟩ := h
            exact i15 n42 h43 z40 (x7 + 1) M39 _ _ _ h hS hS0 (lv_sub hl [2, 1, 0] rfl)
  exact L13 n10 0 0 M5 _ _ _ h11 hS hS0 (lv_sub hl [2, 1, 0] rfl)

set_option maxRecDepth 100000 in
def wC_Splicer_putInto (a0 : Nat) (M : zM) (Q : Int → zM → Prop) : Prop := wC_Splicer_firstWrong  M (fun z4 M3 => wJ1 (fun J20 => (z4 ≠ (-1) → J20 ((-1) - z4) M3) ∧ (z4 = (-1) → wC_Splicer_putTogether  M3 (fun z20 M19 => J20 z20 M19))) (fun (x10 : Int) (M11 : zM) => (∀ M14 : zM, M14 = zup M11 1 1 0 → ((sI x10) ≠ 0 → Q (sI x10) M14) ∧ ((sI x10) = 0 → wC_Strip_copy a0 6 M14 (fun M17 => Q (sI (M17 a0 1)) M17)))))
set_option maxHeartbeats 4000000 in
set_option maxRecDepth 100000 in
theorem cC_Splicer_putInto (l : Launch) (D : va_G) (dA : Nat → ClassId) (b : Nat) (M : zM) (a0 : Nat) (lt_a0 : a0 < nC) (cd_a0 : zcd wC a0 = 6) (Q : Int → zM → Prop) (h : wC_Splicer_putInto a0 M Q) : Met l yX7_putInto (.code yX7_putInto cX7_putInto 4 (some .int) :: zt) (z_rm 6) (va_Pc [.ref (b + 1), .ref (b + a0)] (wPre D dA vwCl (z_tys dA) wC nC b M)) (va_Qi (wQi Q) (zB D dA vwCl wC nC b) (zA nC b)) 0 0 (zA nC b) := by
  unfold wC_Splicer_putInto at h
  refine Met.ofW (cc := cX7_putInto) (maxL := 4) (ret := (some .int)) (by decide) rfl ?_
  intro p e s m args below meth c s₁ B hml hv
  obtain ⟨hargs, hS, hK⟩ := hv
  have hx := B.exec
  have hb := B.bytes
  have hr := B.returns
  have hts := atoms_spec (ws := .code yX7_putInto cX7_putInto 4 (some .int) :: zt) B.pre
  have hown : s.vm.findClass RX7 = some m.cls := findClass_of_methodNamed B.named
  have hlocks := B.notSynchronized
  have hS0 : va_S (zA nC b) s.heap s.heap [] := va_S.rf
  have hl := lv_entry ([.ref (b + 1), .ref (b + a0)]) (n := 4) (Nat.le_of_ble_eq_true rfl)
  have hent : entryFrame m args 4 = F0 m 0 ((lg_sl ([.ref (b + 1), .ref (b + a0)]) ++ List.replicate (4 - (lg_sl ([.ref (b + 1), .ref (b + a0)])).length) Slot.unset).toArray) [] := by rw [hargs]; exact lg_entry_eq m ([.ref (b + 1), .ref (b + a0)]) 4
  rw [hent]
  generalize (lg_sl ([.ref (b + 1), .ref (b + a0)]) ++ List.replicate (4 - (lg_sl ([.ref (b + 1), .ref (b + a0)])).length) Slot.unset).toArray = ls at hl ⊢
  have hl : lv_has ls 4 [(0, .ref (b + 1)), (1, .ref (b + a0))] := hl
  obtain ⟨lt1, cd2⟩ := nx_strip a0 lt_a0 cd_a0
  refine lv_aload_n hx hb dX7_putInto_0 rfl (lv_at hl 0 rfl) ?_
  refine w_calli (va_runV (As := []) (rest := []) ⟨hx, hb, hml, hown, hts⟩ (cC_Splicer_firstWrong l D dA b M  _ h) (cwV 0 hts (z_gV k288 k289 k1350 k2 k290) rfl rfl rfl dm_X7_firstWrong ⟨Nat.le_of_ble_eq_true rfl, Nat.le_of_ble_eq_true rfl⟩) ⟨wPre_blind, (w_recv hS hK.1 (by decide) (zkd_of (rfl : zcd wC 1 = 1) rfl) (by decide) (rfl : vwCl[7]? = some (RX7, TX7, 7))), w_pre hS hK⟩ rfl rfl hl.1 rfl (lv_room (Nat.le_of_ble_eq_true rfl)) dX7_putInto_1 ⟨Nat.le_refl _, Nat.le_refl _⟩) hS0 (fun z4 M3 H locs r5 h hS hS0 => ?_)
  refine lv_istore_n (lv' := [(2, .int (iI z4)), (0, .ref (b + 1)), (1, .ref (b + a0))]) hx hb dX7_putInto_4 rfl hl (by decide) rfl (fun ls hl => ?_)
  refine lv_iload_n hx hb dX7_putInto_5 rfl (lv_at hl 0 rfl) ?_
  refine z_iconst hx hb dX7_putInto_6 ?_
  obtain ⟨J20, B13, h⟩ := h
  have L12 : ∀ (x10 : Int) (M11 : zM) (H : Heap) (locs : List Loc) (ls : Array Slot), J20 x10 M11 → zR D dA vwCl wC nC b M11 H → va_S (zA nC b) s.heap H locs → lv_has ls 4 [(0, .ref (b + 1)), (1, .ref (b + a0))] → W p l e (headSpec (.code yX7_putInto cX7_putInto 4 (some .int) :: zt) (z_rm 6)).room s m args below meth c H locs 0 0 (MQ below (va_Qi (wQi Q) (zB D dA vwCl wC nC b) (zA nC b)) args s 0 0 (zA nC b)) (F0 m 20 ls [.int (iI x10)]) := by
    intro x10 M11 H locs ls h hS hS0 hl
    have h := B13 x10 M11 h
    refine lv_istore_n (lv' := [(3, .int (iI x10)), (0, .ref (b + 1)), (1, .ref (b + a0))]) hx hb dX7_putInto_20 rfl hl (by decide) rfl (fun ls hl => ?_)
    refine lv_aload_n hx hb dX7_putInto_21 rfl (lv_at hl 1 rfl) ?_
    refine z_iconst hx hb dX7_putInto_22 ?_
    refine w_puti hx hb hts (z_memU u7) tyX7 tyX7_ok nmX7 hown hK.1 hS hS0 f7_1 (by decide) (zkd_of (rfl : zcd wC 1 = 1) rfl) (Or.inl (hts _ (z_mem k55))) rfl (z := 0) (by decide +kernel) dX7_putInto_23 (fun H locs hS hS0 => ?_)
    obtain ⟨M14, e15⟩ : ∃ M14 : zM, M14 = zup M11 1 1 0 := ⟨_, rfl⟩
    rw [← e15] at hS
    have h := h M14 e15
    refine lv_iload_n hx hb dX7_putInto_26 rfl (lv_at hl 0 rfl) ?_
    refine w_if_ne (tgt := 45) hx hb rfl dX7_putInto_27 (by decide) (fun c16 => ?_) (fun c16 => ?_)
    · skip
      have h := h.1 c16
      refine lv_iload_n hx hb dX7_putInto_45 rfl (lv_at hl 0 rfl) ?_
      exact w_iret hx hb hr hlocks hS hS0 rfl h dX7_putInto_46
    · skip
      have h := h.2 c16
      refine lv_aload_n hx hb dX7_putInto_30 rfl (lv_at hl 2 rfl) ?_
      refine lv_aload_n hx hb dX7_putInto_31 rfl (lv_at hl 1 rfl) ?_
      refine w_getr (j2 := 3) hx hb hts (z_memU u7) hown hK.1 hS f7_4 (by decide) (zkd_of (rfl : zcd wC 1 = 1) rfl) (zrf_of (rfl : zcd wC 1 = 1) rfl) (Or.inl (hts _ (z_mem k59))) dX7_putInto_32 ?_
      refine z_iconst hx hb dX7_putInto_35 ?_
      refine w_aald (n := 6) (i := 0) (j2 := 6) hx hb hK.1 (t0 := 4) (r := 4) (by decide) rfl rfl hS (by decide) (zkd_of (rfl : zcd wC 3 = 3) rfl) (zln_of (rfl : zcd wC 3 = 3) rfl) (sI_of (by decide)) (by decide) (by decide) (by decide) (zrf_of (rfl : zcd wC 3 = 3) rfl) dX7_putInto_36 ?_
      refine w_callv (va_runV (As := [.ref (b + 6)]) (rest := []) ⟨hx, hb, hml, hown, hts⟩ (cC_Strip_copy l D dA b M14 a0 6 lt_a0 cd_a0 (by decide) (rfl : zcd wC 6 = 6) _ h) (cwV 1 hts (z_gV k360 k361 k362 k3 k363) rfl rfl rfl dm_X8_copy ⟨Nat.le_of_ble_eq_true rfl, Nat.le_of_ble_eq_true rfl⟩) ⟨wPre_blind, (w_recv hS hK.1 lt_a0 (zkd_of cd_a0 rfl) (by decide) (rfl : vwCl[8]? = some (RX8, TX8, 2))), w_pre hS hK⟩ rfl rfl hl.1 rfl (lv_room (Nat.le_of_ble_eq_true rfl)) dX7_putInto_37 ⟨Nat.le_refl _, Nat.le_refl _⟩) hS0 (fun M17 H locs h hS hS0 => ?_)
      refine lv_aload_n hx hb dX7_putInto_40 rfl (lv_at hl 2 rfl) ?_
      refine w_geti hx hb hts (z_memU u8) hown hK.1 hS f8_1 lt_a0 (zkd_of cd_a0 rfl) (Or.inl (hts _ (z_mem k46))) dX7_putInto_41 ?_
      refine lv_istore_n (lv' := [(3, .int (iI (M17 a0 1))), (0, .ref (b + 1)), (1, .ref (b + a0))]) hx hb dX7_putInto_44 rfl hl (by decide) rfl (fun ls hl => ?_)
      refine lv_iload_n hx hb dX7_putInto_45 rfl (lv_at hl 0 rfl) ?_
      exact w_iret hx hb hr hlocks hS hS0 rfl h dX7_putInto_46
  refine w_icmp_ne (tgt := 17) hx hb (sI_of r5) (sI_of (by decide)) dX7_putInto_7 (by decide) (fun c18 => ?_) (fun c18 => ?_)
  · skip
    have h := h.1 c18
    refine z_iconst hx hb dX7_putInto_17 ?_
    refine lv_iload_n hx hb dX7_putInto_18 rfl (lv_at hl 0 rfl) ?_
    refine z_isub hx hb dX7_putInto_19 ?_
    exact L12 ((-1) - z4) M3 _ _ _ h hS hS0 (lv_sub hl [1, 2] rfl)
  · skip
    have h := h.2 c18
    refine lv_aload_n hx hb dX7_putInto_10 rfl (lv_at hl 1 rfl) ?_
    refine w_calli (va_runV (As := []) (rest := []) ⟨hx, hb, hml, hown, hts⟩ (cC_Splicer_putTogether l D dA b M3  _ h) (cwV 0 hts (z_gV k303 k304 k1354 k2 k305) rfl rfl rfl dm_X7_putTogether ⟨Nat.le_of_ble_eq_true rfl, Nat.le_of_ble_eq_true rfl⟩) ⟨wPre_blind, (w_recv hS hK.1 (by decide) (zkd_of (rfl : zcd wC 1 = 1) rfl) (by decide) (rfl : vwCl[7]? = some (RX7, TX7, 7))), w_pre hS hK⟩ rfl rfl hl.1 rfl (lv_room (Nat.le_of_ble_eq_true rfl)) dX7_putInto_11 ⟨Nat.le_refl _, Nat.le_refl _⟩) hS0 (fun z20 M19 H locs r21 h hS hS0 => ?_)
    refine lv_goto (tgt := 20) hx hb dX7_putInto_14 (by decide) ?_
    exact L12 z20 M19 _ _ _ h hS hS0 (lv_sub hl [1, 2] rfl)

set_option maxRecDepth 100000 in
def wC_splice  (M : zM) (Q : Int → zM → Prop) : Prop := wC_Splicer_putInto 30 M (fun z2 M1 => Q z2 M1)
set_option maxHeartbeats 4000000 in
set_option maxRecDepth 100000 in
theorem cC_splice (l : Launch) (D : va_G) (dA : Nat → ClassId) (b : Nat) (M : zM)   (Q : Int → zM → Prop) (h : wC_splice  M Q) : Met l yX11_splice (.code yX11_splice cX11_splice 1 (some .int) :: zt) (z_rm 7) (va_Pc [.ref (b + 0)] (wPre D dA vwCl (z_tys dA) wC nC b M)) (va_Qi (wQi Q) (zB D dA vwCl wC nC b) (zA nC b)) 0 0 (zA nC b) := by
  unfold wC_splice at h
  refine Met.ofW (cc := cX11_splice) (maxL := 1) (ret := (some .int)) (by decide) rfl ?_
  intro p e s m args below meth c s₁ B hml hv
  obtain ⟨hargs, hS, hK⟩ := hv
  have hx := B.exec
  have hb := B.bytes
  have hr := B.returns
  have hts := atoms_spec (ws := .code yX11_splice cX11_splice 1 (some .int) :: zt) B.pre
  have hown : s.vm.findClass RX11 = some m.cls := findClass_of_methodNamed B.named
  have hlocks := B.notSynchronized
  have hS0 : va_S (zA nC b) s.heap s.heap [] := va_S.rf
  have hl := lv_entry ([.ref (b + 0)]) (n := 1) (Nat.le_of_ble_eq_true rfl)
  have hent : entryFrame m args 1 = F0 m 0 ((lg_sl ([.ref (b + 0)]) ++ List.replicate (1 - (lg_sl ([.ref (b + 0)])).length) Slot.unset).toArray) [] := by rw [hargs]; exact lg_entry_eq m ([.ref (b + 0)]) 1
  rw [hent]
  generalize (lg_sl ([.ref (b + 0)]) ++ List.replicate (1 - (lg_sl ([.ref (b + 0)])).length) Slot.unset).toArray = ls at hl ⊢
  have hl : lv_has ls 1 [(0, .ref (b + 0))] := hl
  refine lv_aload_n hx hb dX11_splice_0 rfl (lv_at hl 0 rfl) ?_
  refine w_getr (j2 := 1) hx hb hts (z_memU u11) hown hK.1 hS f11_0 (by decide) (zkd_of (rfl : zcd wC 0 = 0) rfl) (zrf_of (rfl : zcd wC 0 = 0) rfl) (Or.inl (hts _ (z_mem k242))) dX11_splice_1 ?_
  refine lv_aload_n hx hb dX11_splice_4 rfl (lv_at hl 0 rfl) ?_
  refine w_getr (j2 := 30) hx hb hts (z_memU u11) hown hK.1 hS f11_1 (by decide) (zkd_of (rfl : zcd wC 0 = 0) rfl) (zrf_of (rfl : zcd wC 0 = 0) rfl) (Or.inl (hts _ (z_mem k243))) dX11_splice_5 ?_
  refine w_calli (va_runV (As := [.ref (b + 30)]) (rest := []) ⟨hx, hb, hml, hown, hts⟩ (cC_Splicer_putInto l D dA b M 30 (by decide) (rfl : zcd wC 30 = 6) _ h) (cwV 1 hts (z_gV k284 k285 k286 k2 k287) rfl rfl rfl dm_X7_putInto ⟨Nat.le_of_ble_eq_true rfl, Nat.le_of_ble_eq_true rfl⟩) ⟨wPre_blind, (w_recv hS hK.1 (by decide) (zkd_of (rfl : zcd wC 1 = 1) rfl) (by decide) (rfl : vwCl[7]? = some (RX7, TX7, 7))), w_pre hS hK⟩ rfl rfl hl.1 rfl (lv_room (Nat.le_of_ble_eq_true rfl)) dX11_splice_8 ⟨Nat.le_refl _, Nat.le_refl _⟩) hS0 (fun z2 M1 H locs r3 h hS hS0 => ?_)
  exact w_iret hx hb hr hlocks hS hS0 (sI_of r3) h dX11_splice_11

set_option maxRecDepth 100000 in
def wC_Strip_at (j : Nat) (a0 : Int) (M : zM) (Q : Int → Prop) : Prop := wC_Strip_has j a0 M (fun z4 => (z4 = 0 → Q (-1)) ∧ (z4 ≠ 0 → ((0 ≤ (sI a0) ∧ (sI a0) < 24) ∧ Q (sI (M (j + 1) (sI a0).toNat)))))
set_option maxHeartbeats 4000000 in
set_option maxRecDepth 100000 in
theorem cC_Strip_at (l : Launch) (D : va_G) (dA : Nat → ClassId) (b : Nat) (M : zM) (j : Nat) (a0 : Int) (lt_j : j < nC) (cd_j : zcd wC j = 6) (Q : Int → Prop) (h : wC_Strip_at j a0 M Q) : Met l yX8_at (.code yX8_at cX8_at 2 (some .int) :: zt) (z_rm 1) (va_Pc [.ref (b + j), .int (iI a0)] (wPre D dA vwCl (z_tys dA) wC nC b M)) (va_Qi (wQi (fun z9 u9 => u9 = M ∧ Q z9)) (zB D dA vwCl wC nC b) (zA nC b)) 0 0 (zA nC b) := by
  unfold wC_Strip_at at h
  refine Met.ofW (cc := cX8_at) (maxL := 2) (ret := (some .int)) (by decide) rfl ?_
  intro p e s m args below meth c s₁ B hml hv
  obtain ⟨hargs, hS, hK⟩ := hv
  have hx := B.exec
  have hb := B.bytes
  have hr := B.returns
  have hts := atoms_spec (ws := .code yX8_at cX8_at 2 (some .int) :: zt) B.pre
  have hown : s.vm.findClass RX8 = some m.cls := findClass_of_methodNamed B.named
  have hlocks := B.notSynchronized
  have hS0 : va_S (zA nC b) s.heap s.heap [] := va_S.rf
  have hl := lv_entry ([.ref (b + j), .int (iI a0)]) (n := 2) (Nat.le_of_ble_eq_true rfl)
  have hent : entryFrame m args 2 = F0 m 0 ((lg_sl ([.ref (b + j), .int (iI a0)]) ++ List.replicate (2 - (lg_sl ([.ref (b + j), .int (iI a0)])).length) Slot.unset).toArray) [] := by rw [hargs]; exact lg_entry_eq m ([.ref (b + j), .int (iI a0)]) 2
  rw [hent]
  generalize (lg_sl ([.ref (b + j), .int (iI a0)]) ++ List.replicate (2 - (lg_sl ([.ref (b + j), .int (iI a0)])).length) Slot.unset).toArray = ls at hl ⊢
  have hl : lv_has ls 2 [(0, .ref (b + j)), (1, .int (iI a0))] := hl
  obtain ⟨lt1, cd2⟩ := nx_strip j lt_j cd_j
  refine lv_aload_n hx hb dX8_at_0 rfl (lv_at hl 0 rfl) ?_
  refine lv_iload_n hx hb dX8_at_1 rfl (lv_at hl 1 rfl) ?_
  refine w_callz (va_runV (As := [.int (iI a0)]) (rest := []) ⟨hx, hb, hml, hown, hts⟩ (cC_Strip_has l D dA b M j a0 lt_j cd_j _ h) (cwV 1 hts (z_gV k326 k327 k328 k3 k329) rfl rfl rfl dm_X8_has ⟨Nat.le_of_ble_eq_true rfl, Nat.le_of_ble_eq_true rfl⟩) ⟨wPre_blind, (w_recv hS hK.1 lt_j (zkd_of cd_j rfl) (by decide) (rfl : vwCl[8]? = some (RX8, TX8, 2))), w_pre hS hK⟩ rfl rfl hl.1 rfl (lv_room (Nat.le_of_ble_eq_true rfl)) dX8_at_2 ⟨Nat.le_refl _, Nat.le_refl _⟩) hS0 (fun z4 M3 H locs r5 h hS hS0 => ?_)
  obtain ⟨e6, h⟩ := h
  rw [e6] at hS
  refine w_if_eq (tgt := 17) hx hb (sI_01 r5) dX8_at_5 (by decide) (fun c7 => ?_) (fun c7 => ?_)
  · skip
    have h := h.1 c7
    refine z_iconst hx hb dX8_at_17 ?_
    exact w_iret hx hb hr hlocks hS hS0 (sI_of (by decide)) ⟨rfl, h⟩ dX8_at_18
  · skip
    have h := h.2 c7
    refine lv_aload_n hx hb dX8_at_8 rfl (lv_at hl 0 rfl) ?_
    refine w_getr (j2 := (j + 1)) hx hb hts (z_memU u8) hown hK.1 hS f8_0 lt_j (zkd_of cd_j rfl) (zrf_of cd_j rfl) (Or.inl (hts _ (z_mem k41))) dX8_at_9 ?_
    refine lv_iload_n hx hb dX8_at_12 rfl (lv_at hl 1 rfl) ?_
    obtain ⟨o8, h⟩ := h
    refine w_iald (n := 24) (i := (sI a0)) hx hb hK.1 (t0 := 0) rfl hS lt1 (zkd_of cd2 rfl) (zln_of cd2 rfl) rfl o8.1 o8.2 (by decide) dX8_at_13 ?_
    refine lv_goto (tgt := 18) hx hb dX8_at_14 (by decide) ?_
    exact w_iret hx hb hr hlocks hS hS0 rfl ⟨rfl, h⟩ dX8_at_18

set_option maxRecDepth 100000 in
def wC_hand (a0 : Int) (M : zM) (Q : Int → Prop) : Prop := wC_Strip_at 30 a0 M (fun z2 => Q z2)
set_option maxHeartbeats 4000000 in
set_option maxRecDepth 100000 in
theorem cC_hand (l : Launch) (D : va_G) (dA : Nat → ClassId) (b : Nat) (M : zM) (a0 : Int)  (Q : Int → Prop) (h : wC_hand a0 M Q) : Met l yX11_hand (.code yX11_hand cX11_hand 2 (some .int) :: zt) (z_rm 2) (va_Pc [.ref (b + 0), .int (iI a0)] (wPre D dA vwCl (z_tys dA) wC nC b M)) (va_Qi (wQi (fun z9 u9 => u9 = M ∧ Q z9)) (zB D dA vwCl wC nC b) (zA nC b)) 0 0 (zA nC b) := by
  unfold wC_hand at h
  refine Met.ofW (cc := cX11_hand) (maxL := 2) (ret := (some .int)) (by decide) rfl ?_
  intro p e s m args below meth c s₁ B hml hv
  obtain ⟨hargs, hS, hK⟩ := hv
  have hx := B.exec
  have hb := B.bytes
  have hr := B.returns
  have hts := atoms_spec (ws := .code yX11_hand cX11_hand 2 (some .int) :: zt) B.pre
  have hown : s.vm.findClass RX11 = some m.cls := findClass_of_methodNamed B.named
  have hlocks := B.notSynchronized
  have hS0 : va_S (zA nC b) s.heap s.heap [] := va_S.rf
  have hl := lv_entry ([.ref (b + 0), .int (iI a0)]) (n := 2) (Nat.le_of_ble_eq_true rfl)
  have hent : entryFrame m args 2 = F0 m 0 ((lg_sl ([.ref (b + 0), .int (iI a0)]) ++ List.replicate (2 - (lg_sl ([.ref (b + 0), .int (iI a0)])).length) Slot.unset).toArray) [] := by rw [hargs]; exact lg_entry_eq m ([.ref (b + 0), .int (iI a0)]) 2
  rw [hent]
  generalize (lg_sl ([.ref (b + 0), .int (iI a0)]) ++ List.replicate (2 - (lg_sl ([.ref (b + 0), .int (iI a0)])).length) Slot.unset).toArray = ls at hl ⊢
  have hl : lv_has ls 2 [(0, .ref (b + 0)), (1, .int (iI a0))] := hl
  refine lv_aload_n hx hb dX11_hand_0 rfl (lv_at hl 0 rfl) ?_
  refine w_getr (j2 := 30) hx hb hts (z_memU u11) hown hK.1 hS f11_1 (by decide) (zkd_of (rfl : zcd wC 0 = 0) rfl) (zrf_of (rfl : zcd wC 0 = 0) rfl) (Or.inl (hts _ (z_mem k243))) dX11_hand_1 ?_
  refine lv_iload_n hx hb dX11_hand_4 rfl (lv_at hl 1 rfl) ?_
  refine w_calli (va_runV (As := [.int (iI a0)]) (rest := []) ⟨hx, hb, hml, hown, hts⟩ (cC_Strip_at l D dA b M 30 a0 (by decide) (rfl : zcd wC 30 = 6) _ h) (cwV 1 hts (z_gV k371 k372 k373 k3 k374) rfl rfl rfl dm_X8_at ⟨Nat.le_of_ble_eq_true rfl, Nat.le_of_ble_eq_true rfl⟩) ⟨wPre_blind, (w_recv hS hK.1 (by decide) (zkd_of (rfl : zcd wC 30 = 6) rfl) (by decide) (rfl : vwCl[8]? = some (RX8, TX8, 2))), w_pre hS hK⟩ rfl rfl hl.1 rfl (lv_room (Nat.le_of_ble_eq_true rfl)) dX11_hand_5 ⟨Nat.le_refl _, Nat.le_refl _⟩) hS0 (fun z2 M1 H locs r3 h hS hS0 => ?_)
  obtain ⟨e4, h⟩ := h
  rw [e4] at hS
  exact w_iret hx hb hr hlocks hS hS0 (sI_of r3) ⟨rfl, h⟩ dX11_hand_8

set_option maxRecDepth 100000 in
def wC_within (a0 : Int) (a1 : Int) (a2 : Int) (M : zM) (Q : Int → Prop) : Prop := ((sI a0) < (sI a1) → Q 0) ∧ ((sI a1) ≤ (sI a0) → ((sI a2) < (sI a0) → Q 0) ∧ ((sI a0) ≤ (sI a2) → Q 1))
set_option maxHeartbeats 4000000 in
set_option maxRecDepth 100000 in
theorem cC_within (l : Launch) (D : va_G) (dA : Nat → ClassId) (b : Nat) (M : zM) (a0 : Int) (a1 : Int) (a2 : Int)  (Q : Int → Prop) (h : wC_within a0 a1 a2 M Q) : Met l yX11_within (.code yX11_within cX11_within 3 (some .boolean) :: zt) (z_rm 0) (va_Pc [.int (iI a0), .int (iI a1), .int (iI a2)] (wPre D dA vwCl (z_tys dA) wC nC b M)) (va_Qi (wQz (fun z9 u9 => u9 = M ∧ Q z9)) (zB D dA vwCl wC nC b) (zA nC b)) 0 0 (zA nC b) := by
  unfold wC_within at h
  refine Met.ofW (cc := cX11_within) (maxL := 3) (ret := (some .boolean)) (by decide) rfl ?_
  intro p e s m args below meth c s₁ B hml hv
  obtain ⟨hargs, hS, hK⟩ := hv
  have hx := B.exec
  have hb := B.bytes
  have hr := B.returns
  have hts := atoms_spec (ws := .code yX11_within cX11_within 3 (some .boolean) :: zt) B.pre
  have hown : s.vm.findClass RX11 = some m.cls := findClass_of_methodNamed B.named
  have hlocks := B.notSynchronized
  have hS0 : va_S (zA nC b) s.heap s.heap [] := va_S.rf
  have hl := lv_entry ([.int (iI a0), .int (iI a1), .int (iI a2)]) (n := 3) (Nat.le_of_ble_eq_true rfl)
  have hent : entryFrame m args 3 = F0 m 0 ((lg_sl ([.int (iI a0), .int (iI a1), .int (iI a2)]) ++ List.replicate (3 - (lg_sl ([.int (iI a0), .int (iI a1), .int (iI a2)])).length) Slot.unset).toArray) [] := by rw [hargs]; exact lg_entry_eq m ([.int (iI a0), .int (iI a1), .int (iI a2)]) 3
  rw [hent]
  generalize (lg_sl ([.int (iI a0), .int (iI a1), .int (iI a2)]) ++ List.replicate (3 - (lg_sl ([.int (iI a0), .int (iI a1), .int (iI a2)])).length) Slot.unset).toArray = ls at hl ⊢
  have hl : lv_has ls 3 [(0, .int (iI a0)), (1, .int (iI a1)), (2, .int (iI a2))] := hl
  refine lv_iload_n hx hb dX11_within_0 rfl (lv_at hl 0 rfl) ?_
  refine lv_iload_n hx hb dX11_within_1 rfl (lv_at hl 1 rfl) ?_
  refine w_icmp_lt (tgt := 14) hx hb rfl rfl dX11_within_2 (by decide) (fun c1 => ?_) (fun c1 => ?_)
  · skip
    have h := h.1 c1
    refine z_iconst hx hb dX11_within_14 ?_
    exact w_zret hx hb hr hlocks hS hS0 (sI_of (by decide)) (by decide) ⟨rfl, h⟩ dX11_within_15
  · skip
    have h := h.2 c1
    refine lv_iload_n hx hb dX11_within_5 rfl (lv_at hl 0 rfl) ?_
    refine lv_iload_n hx hb dX11_within_6 rfl (lv_at hl 2 rfl) ?_
    refine w_icmp_gt (tgt := 14) hx hb rfl rfl dX11_within_7 (by decide) (fun c2 => ?_) (fun c2 => ?_)
    · skip
      have h := h.1 c2
      refine z_iconst hx hb dX11_within_14 ?_
      exact w_zret hx hb hr hlocks hS hS0 (sI_of (by decide)) (by decide) ⟨rfl, h⟩ dX11_within_15
    · skip
      have h := h.2 c2
      refine z_iconst hx hb dX11_within_10 ?_
      refine lv_goto (tgt := 15) hx hb dX11_within_11 (by decide) ?_
      exact w_zret hx hb hr hlocks hS hS0 (sI_of (by decide)) (by decide) ⟨rfl, h⟩ dX11_within_15

set_option maxRecDepth 100000 in
def wC_isMotor (a0 : Int) (M : zM) (Q : Int → Prop) : Prop := wC_within a0 0 1 M (fun z2 => Q z2)
set_option maxHeartbeats 4000000 in
set_option maxRecDepth 100000 in
theorem cC_isMotor (l : Launch) (D : va_G) (dA : Nat → ClassId) (b : Nat) (M : zM) (a0 : Int)  (Q : Int → Prop) (h : wC_isMotor a0 M Q) : Met l yX11_isMotor (.code yX11_isMotor cX11_isMotor 1 (some .boolean) :: zt) (z_rm 1) (va_Pc [.int (iI a0)] (wPre D dA vwCl (z_tys dA) wC nC b M)) (va_Qi (wQz (fun z9 u9 => u9 = M ∧ Q z9)) (zB D dA vwCl wC nC b) (zA nC b)) 0 0 (zA nC b) := by
  unfold wC_isMotor at h
  refine Met.ofW (cc := cX11_isMotor) (maxL := 1) (ret := (some .boolean)) (by decide) rfl ?_
  intro p e s m args below meth c s₁ B hml hv
  obtain ⟨hargs, hS, hK⟩ := hv
  have hx := B.exec
  have hb := B.bytes
  have hr := B.returns
  have hts := atoms_spec (ws := .code yX11_isMotor cX11_isMotor 1 (some .boolean) :: zt) B.pre
  have hown : s.vm.findClass RX11 = some m.cls := findClass_of_methodNamed B.named
  have hlocks := B.notSynchronized
  have hS0 : va_S (zA nC b) s.heap s.heap [] := va_S.rf
  have hl := lv_entry ([.int (iI a0)]) (n := 1) (Nat.le_of_ble_eq_true rfl)
  have hent : entryFrame m args 1 = F0 m 0 ((lg_sl ([.int (iI a0)]) ++ List.replicate (1 - (lg_sl ([.int (iI a0)])).length) Slot.unset).toArray) [] := by rw [hargs]; exact lg_entry_eq m ([.int (iI a0)]) 1
  rw [hent]
  generalize (lg_sl ([.int (iI a0)]) ++ List.replicate (1 - (lg_sl ([.int (iI a0)])).length) Slot.unset).toArray = ls at hl ⊢
  have hl : lv_has ls 1 [(0, .int (iI a0))] := hl
  refine lv_iload_n hx hb dX11_isMotor_0 rfl (lv_at hl 0 rfl) ?_
  refine z_iconst hx hb dX11_isMotor_1 ?_
  refine z_iconst hx hb dX11_isMotor_2 ?_
  refine w_callz (va_runS (As := [.int (iI a0), .int (iI 0), .int (iI 1)]) (rest := []) ⟨hx, hb, hml, hown, hts⟩ (cC_within l D dA b M a0 0 1 _ h) (va_cwS 3 hts (z_gS k382 k383 k1 k384) rfl rfl rfl dm_X11_within.2 ⟨Nat.le_of_ble_eq_true rfl, Nat.le_of_ble_eq_true rfl⟩) ⟨wPre_blind, w_pre hS hK⟩ rfl rfl hl.1 rfl (lv_room (Nat.le_of_ble_eq_true rfl)) dX11_isMotor_3 ⟨Nat.le_refl _, Nat.le_refl _⟩) hS0 (fun z2 M1 H locs r3 h hS hS0 => ?_)
  obtain ⟨e4, h⟩ := h
  rw [e4] at hS
  exact w_zret hx hb hr hlocks hS hS0 (sI_01 r3) r3 ⟨rfl, h⟩ dX11_isMotor_6

set_option maxRecDepth 100000 in
def wC_by (a0 : Int) (a1 : Int) (M : zM) (Q : Int → Prop) : Prop := (1 ≤ (sI a1) → (((sI a1) ≠ 0) ∧ (0 ≤ (sI ((sL a0).tmod (sI a1))) → Q (sI ((sL a0).tmod (sI a1)))) ∧ ((sI ((sL a0).tmod (sI a1))) < 0 → Q (sI (((sL a0).tmod (sI a1)) + a1))))) ∧ ((sI a1) < 1 → Q 0)
set_option maxHeartbeats 4000000 in
set_option maxRecDepth 100000 in
theorem cC_by (l : Launch) (D : va_G) (dA : Nat → ClassId) (b : Nat) (M : zM) (a0 : Int) (a1 : Int)  (Q : Int → Prop) (h : wC_by a0 a1 M Q) : Met l yX11_by (.code yX11_by cX11_by 4 (some .int) :: zt) (z_rm 0) (va_Pc [.long (iL a0), .int (iI a1)] (wPre D dA vwCl (z_tys dA) wC nC b M)) (va_Qi (wQi (fun z9 u9 => u9 = M ∧ Q z9)) (zB D dA vwCl wC nC b) (zA nC b)) 0 0 (zA nC b) := by
  unfold wC_by at h
  refine Met.ofW (cc := cX11_by) (maxL := 4) (ret := (some .int)) (by decide) rfl ?_
  intro p e s m args below meth c s₁ B hml hv
  obtain ⟨hargs, hS, hK⟩ := hv
  have hx := B.exec
  have hb := B.bytes
  have hr := B.returns
  have hts := atoms_spec (ws := .code yX11_by cX11_by 4 (some .int) :: zt) B.pre
  have hown : s.vm.findClass RX11 = some m.cls := findClass_of_methodNamed B.named
  have hlocks := B.notSynchronized
  have hS0 : va_S (zA nC b) s.heap s.heap [] := va_S.rf
  have hl := lv_entry ([.long (iL a0), .int (iI a1)]) (n := 4) (Nat.le_of_ble_eq_true rfl)
  have hent : entryFrame m args 4 = F0 m 0 ((lg_sl ([.long (iL a0), .int (iI a1)]) ++ List.replicate (4 - (lg_sl ([.long (iL a0), .int (iI a1)])).length) Slot.unset).toArray) [] := by rw [hargs]; exact lg_entry_eq m ([.long (iL a0), .int (iI a1)]) 4
  rw [hent]
  generalize (lg_sl ([.long (iL a0), .int (iI a1)]) ++ List.replicate (4 - (lg_sl ([.long (iL a0), .int (iI a1)])).length) Slot.unset).toArray = ls at hl ⊢
  have hl : lv_has ls 4 [(0, .long (iL a0)), (2, .int (iI a1))] := hl
  refine lv_iload_n hx hb dX11_by_0 rfl (lv_at hl 1 rfl) ?_
  refine z_iconst hx hb dX11_by_1 ?_
  refine w_icmp_ge (tgt := 7) hx hb rfl (sI_of (by decide)) dX11_by_2 (by decide) (fun c1 => ?_) (fun c1 => ?_)
  · skip
    have h := h.1 c1
    refine lv_lload_n hx hb dX11_by_7 rfl (lv_at hl 0 rfl) ?_
    refine lv_iload_n hx hb dX11_by_8 rfl (lv_at hl 1 rfl) ?_
    refine w_i2l hx hb rfl dX11_by_9 ?_
    obtain ⟨o2, h⟩ := h
    refine w_lrem hx hb rfl (sL_ofI rfl) o2 dX11_by_10 ?_
    refine z_l2i hx hb dX11_by_11 ?_
    refine lv_istore_n (lv' := [(3, .int (iI ((sL a0).tmod (sI a1)))), (0, .long (iL a0)), (2, .int (iI a1))]) hx hb dX11_by_12 rfl hl (by decide) rfl (fun ls hl => ?_)
    refine lv_iload_n hx hb dX11_by_13 rfl (lv_at hl 0 rfl) ?_
    refine w_if_ge (tgt := 23) hx hb rfl dX11_by_14 (by decide) (fun c3 => ?_) (fun c3 => ?_)
    · skip
      have h := h.1 c3
      refine lv_iload_n hx hb dX11_by_23 rfl (lv_at hl 0 rfl) ?_
      exact w_iret hx hb hr hlocks hS hS0 rfl ⟨rfl, h⟩ dX11_by_24
    · skip
      have h := h.2 c3
      refine lv_iload_n hx hb dX11_by_17 rfl (lv_at hl 0 rfl) ?_
      refine lv_iload_n hx hb dX11_by_18 rfl (lv_at hl 2 rfl) ?_
      refine z_iadd hx hb dX11_by_19 ?_
      refine lv_goto (tgt := 24) hx hb dX11_by_20 (by decide) ?_
      exact w_iret hx hb hr hlocks hS hS0 rfl ⟨rfl, h⟩ dX11_by_24
  · skip
    have h := h.2 c1
    refine z_iconst hx hb dX11_by_5 ?_
    exact w_iret hx hb hr hlocks hS hS0 (sI_of (by decide)) ⟨rfl, h⟩ dX11_by_6

set_option maxRecDepth 100000 in
def wC_Ring_soundsUnder (j : Nat) (a0 : Int) (a1 : Int) (M : zM) (Q : Int → Prop) : Prop := pL2 (fun K5 x7 x8 => (24 ≤ (sI x8) → Q (sI x7)) ∧ ((sI x8) < 24 → ((andI (shrI (M j 3) x8) 1) = 0 → K5 x7 (x8 + 1)) ∧ ((andI (shrI (M j 3) x8) 1) ≠ 0 → wC_by (sI (a0 + x8)) a1 M (fun z21 => ((0 ≤ z21 ∧ z21 < 24) ∧ K5 (orI x7 (M (j + 2) z21.toNat)) (x8 + 1)))))) 0 0
set_option maxHeartbeats 4000000 in
set_option maxRecDepth 100000 in
theorem cC_Ring_soundsUnder (l : Launch) (D : va_G) (dA : Nat → ClassId) (b : Nat) (M : zM) (j : Nat) (a0 : Int) (a1 : Int) (lt_j : j < nC) (cd_j : zcd wC j = 14) (Q : Int → Prop) (h : wC_Ring_soundsUnder j a0 a1 M Q) : Met l yX6_soundsUnder (.code yX6_soundsUnder cX6_soundsUnder 5 (some .int) :: zt) (z_rm 1) (va_Pc [.ref (b + j), .int (iI a0), .int (iI a1)] (wPre D dA vwCl (z_tys dA) wC nC b M)) (va_Qi (wQi (fun z9 u9 => u9 = M ∧ Q z9)) (zB D dA vwCl wC nC b) (zA nC b)) 0 0 (zA nC b) := by
  unfold wC_Ring_soundsUnder at h
  refine Met.ofW (cc := cX6_soundsUnder) (maxL := 5) (ret := (some .int)) (by decide) rfl ?_
  intro p e s m args below meth c s₁ B hml hv
  obtain ⟨hargs, hS, hK⟩ := hv
  have hx := B.exec
  have hb := B.bytes
  have hr := B.returns
  have hts := atoms_spec (ws := .code yX6_soundsUnder cX6_soundsUnder 5 (some .int) :: zt) B.pre
  have hown : s.vm.findClass RX6 = some m.cls := findClass_of_methodNamed B.named
  have hlocks := B.notSynchronized
  have hS0 : va_S (zA nC b) s.heap s.heap [] := va_S.rf
  have hl := lv_entry ([.ref (b + j), .int (iI a0), .int (iI a1)]) (n := 5) (Nat.le_of_ble_eq_true rfl)
  have hent : entryFrame m args 5 = F0 m 0 ((lg_sl ([.ref (b + j), .int (iI a0), .int (iI a1)]) ++ List.replicate (5 - (lg_sl ([.ref (b + j), .int (iI a0), .int (iI a1)])).length) Slot.unset).toArray) [] := by rw [hargs]; exact lg_entry_eq m ([.ref (b + j), .int (iI a0), .int (iI a1)]) 5
  rw [hent]
  generalize (lg_sl ([.ref (b + j), .int (iI a0), .int (iI a1)]) ++ List.replicate (5 - (lg_sl ([.ref (b + j), .int (iI a0), .int (iI a1)])).length) Slot.unset).toArray = ls at hl ⊢
  have hl : lv_has ls 5 [(0, .ref (b + j)), (1, .int (iI a0)), (2, .int (iI a1))] := hl
  obtain ⟨lt1, cd2, lt3, cd4, lt5, cd6⟩ := nx_ring j lt_j cd_j
  refine z_iconst hx hb dX6_soundsUnder_0 ?_
  refine lv_istore_n (lv' := [(3, .int (iI 0)), (0, .ref (b + j)), (1, .int (iI a0)), (2, .int (iI a1))]) hx hb dX6_soundsUnder_1 rfl hl (by decide) rfl (fun ls hl => ?_)
  refine z_iconst hx hb dX6_soundsUnder_2 ?_
  refine lv_istore (lv' := [(4, .int (iI 0)), (3, .int (iI 0)), (0, .ref (b + j)), (1, .int (iI a0)), (2, .int (iI a1))]) hx hb dX6_soundsUnder_3 hl (by decide) rfl (fun ls hl => ?_)
  obtain ⟨I9, ⟨n10, h11⟩, h12⟩ := h
  have L13 : ∀ (n14 : Nat) (x7 x8 : Int) (H : Heap) (locs : List Loc) (ls : Array Slot), I9 n14 x7 x8 → zR D dA vwCl wC nC b M H → va_S (zA nC b) s.heap H locs → lv_has ls 5 [(0, .ref (b + j)), (1, .int (iI a0)), (2, .int (iI a1)), (3, .int (iI x7)), (4, .int (iI x8))] → W p l e (headSpec (.code yX6_soundsUnder cX6_soundsUnder 5 (some .int) :: zt) (z_rm 1)).room s m args below meth c H locs 0 0 (MQ below (va_Qi (wQi (fun z9 u9 => u9 = M ∧ Q z9)) (zB D dA vwCl wC nC b) (zA nC b)) args s 0 0 (zA nC b)) (F0 m 5 ls []) := by
    intro n14
    induction n14 using Nat.strongRecOn with
    | ind n14 i15 =>
      intro x7 x8 H locs ls h hS hS0 hl
      have h := h12 n14 x7 x8 h
      refine lv_iload hx hb dX6_soundsUnder_5 (lv_at hl 4 rfl) ?_
      refine z_bipush hx hb (by decide) dX6_soundsUnder_7 ?_
      refine w_icmp_ge (tgt := 50) hx hb rfl (sI_of (by decide)) dX6_soundsUnder_9 (by decide) (fun c16 => ?_) (fun c16 => ?_)
      · skip
        have h := h.1 c16
        refine lv_iload_n hx hb dX6_soundsUnder_50 rfl (lv_at hl 3 rfl) ?_
        exact w_iret hx hb hr hlocks hS hS0 rfl ⟨rfl, h⟩ dX6_soundsUnder_51
      · skip
        have h := h.2 c16
        refine lv_aload_n hx hb dX6_soundsUnder_12 rfl (lv_at hl 0 rfl) ?_
        refine w_geti hx hb hts (z_memU u6) hown hK.1 hS f6_3 lt_j (zkd_of cd_j rfl) (Or.inl (hts _ (z_mem k104))) dX6_soundsUnder_13 ?_
        refine lv_iload hx hb dX6_soundsUnder_16 (lv_at hl 4 rfl) ?_
        refine w_ishr hx hb dX6_soundsUnder_18 ?_
        refine z_iconst hx hb dX6_soundsUnder_19 ?_
        refine w_iand hx hb dX6_soundsUnder_20 ?_
        refine w_if_eq (tgt := 44) hx hb (sI_of (andI_R _ _)) dX6_soundsUnder_21 (by decide) (fun c17 => ?_) (fun c17 => ?_)
        · skip
          have h := h.1 c17
          refine z_iinc (lv' := [(4, .int (iI (x8 + 1))), (0, .ref (b + j)), (1, .int (iI a0)), (2, .int (iI a1)), (3, .int (iI x7))]) hx hb dX6_soundsUnder_44 hl (k := 4) rfl (by decide) rfl (fun ls hl => ?_)
          refine lv_goto (tgt := 5) hx hb dX6_soundsUnder_47 (by decide) ?_
          obtain ⟨n18, h19, h⟩ := h
          exact i15 n18 h19 x7 (x8 + 1) _ _ _ h hS hS0 (lv_sub hl [1, 2, 3, 4, 0] rfl)
        · skip
          have h := h.2 c17
          refine lv_iload_n hx hb dX6_soundsUnder_24 rfl (lv_at hl 3 rfl) ?_
          refine lv_aload_n hx hb dX6_soundsUnder_25 rfl (lv_at hl 0 rfl) ?_
          refine w_getr (j2 := (j + 1)) hx hb hts (z_memU u6) hown hK.1 hS f6_0 lt_j (zkd_of cd_j rfl) (zrf_of cd_j rfl) (Or.inl (hts _ (z_mem k93))) dX6_soundsUnder_26 ?_
          refine w_getr (j2 := (j + 2)) hx hb hts (z_memU u8) hown hK.1 hS f8_0 lt1 (zkd_of cd2 rfl) (zrf_of cd2 rfl) (Or.inl (hts _ (z_mem k42))) dX6_soundsUnder_29 ?_
          refine lv_iload_n hx hb dX6_soundsUnder_32 rfl (lv_at hl 1 rfl) ?_
          refine lv_iload hx hb dX6_soundsUnder_33 (lv_at hl 4 rfl) ?_
          refine z_iadd hx hb dX6_soundsUnder_35 ?_
          refine w_i2l hx hb rfl dX6_soundsUnder_36 ?_
          refine lv_iload_n hx hb dX6_soundsUnder_37 rfl (lv_at hl 2 rfl) ?_
          refine w_calli (va_runSN (As := [.long (iL (sI (a0 + x8))), .int (iI a1)]) (rest := [.ref (b + (j + 2)), .int (iI x7)]) ⟨hx, hb, hml, hown, hts⟩ (cC_by l D dA b M (sI (a0 + x8)) a1 _ h) ⟨va_cnB 2 hts (z_gN k406) rfl rfl rfl (hK.2 (RX6, 56, yX11_by, RX11) (List.mem_of_getElem? (i := 10) rfl)) (hts _ (z_mem k1)) dm_X11_by.2 ⟨Nat.le_of_ble_eq_true rfl, Nat.le_of_ble_eq_true rfl⟩, (hts _ (z_mem k405)), trivial⟩ ⟨wPre_blind, w_pre hS hK⟩ rfl rfl hl.1 rfl (lv_room (Nat.le_of_ble_eq_true rfl)) dX6_soundsUnder_38 ⟨Nat.le_refl _, Nat.le_refl _⟩) hS0 (fun z21 M20 H locs r22 h hS hS0 => ?_)
          obtain ⟨e23, h⟩ := h
          rw [e23] at hS
          obtain ⟨o24, h⟩ := h
          refine w_iald (n := 24) (i := z21) hx hb hK.1 (t0 := 0) rfl hS lt3 (zkd_of cd4 rfl) (zln_of cd4 rfl) (sI_of r22) o24.1 o24.2 (by decide) dX6_soundsUnder_41 ?_
          refine w_ior hx hb dX6_soundsUnder_42 ?_
          refine lv_istore_n (lv' := [(3, .int (iI (orI x7 (M (j + 2) z21.toNat)))), (0, .ref (b + j)), (1, .int (iI a0)), (2, .int (iI a1)), (4, .int (iI x8))]) hx hb dX6_soundsUnder_43 rfl hl (by decide) rfl (fun ls hl => ?_)
          refine z_iinc (lv' := [(4, .int (iI (x8 + 1))), (3, .int (iI (orI x7 (M (j + 2) z21.toNat)))), (0, .ref (b + j)), (1, .int (iI a0)), (2, .int (iI a1))]) hx hb dX6_soundsUnder_44 hl (k := 4) rfl (by decide) rfl (fun ls hl => ?_)
          refine lv_goto (tgt := 5) hx hb dX6_soundsUnder_47 (by decide) ?_
          obtain ⟨n25, h26, h⟩ := h
          exact i15 n25 h26 (orI x7 (M (j + 2) z21.toNat)) (x8 + 1) _ _ _ h hS hS0 (lv_sub hl [2, 3, 4, 1, 0] rfl)
  exact L13 n10 0 0 _ _ _ h11 hS hS0 (lv_sub hl [2, 3, 4, 1, 0] rfl)

set_option maxRecDepth 100000 in
def wC_Ring_fillUnder (j : Nat) (a0 : Nat) (a1 : Int) (M : zM) (Q : zM → Prop) : Prop := wL1 (fun K2 x7 M8 => ((sI a1) ≤ (sI x7) → Q M8) ∧ ((sI x7) < (sI a1) → (((zln wC a0) : Int) ≤ (sI x7) → Q M8) ∧ ((sI x7) < ((zln wC a0) : Int) → wC_Ring_soundsUnder j x7 a1 M8 (fun z19 => ((0 ≤ (sI x7) ∧ (sI x7) < (zln wC a0)) ∧ (∀ M23 : zM, M23 = zup M8 a0 (sI x7).toNat z19 → K2 (x7 + 1) M23)))))) 0 M
set_option maxHeartbeats 4000000 in
set_option maxRecDepth 100000 in
theorem cC_Ring_fillUnder (l : Launch) (D : va_G) (dA : Nat → ClassId) (b : Nat) (M : zM) (j : Nat) (a0 : Nat) (a1 : Int) (lt_j : j < nC) (cd_j : zcd wC j = 14) (lt_a0 : a0 < nC) (kd_a0 : zkd wC a0 = 100) (ln_a0 : zln wC a0 < 2147483648) (Q : zM → Prop) (h : wC_Ring_fillUnder j a0 a1 M Q) : Met l yX6_fillUnder (.code yX6_fillUnder cX6_fillUnder 4 none :: zt) (z_rm 2) (va_Pc [.ref (b + j), .ref (b + a0), .int (iI a1)] (wPre D dA vwCl (z_tys dA) wC nC b M)) (va_Qv (wQv Q) (zB D dA vwCl wC nC b) (zA nC b)) 0 0 (zA nC b) := by
  unfold wC_Ring_fillUnder at h
  refine Met.ofW (cc := cX6_fillUnder) (maxL := 4) (ret := none) (by decide) rfl ?_
  intro p e s m args below meth c s₁ B hml hv
  obtain ⟨hargs, hS, hK⟩ := hv
  have hx := B.exec
  have hb := B.bytes
  have hr := B.returns
  have hts := atoms_spec (ws := .code yX6_fillUnder cX6_fillUnder 4 none :: zt) B.pre
  have hown : s.vm.findClass RX6 = some m.cls := findClass_of_methodNamed B.named
  have hlocks := B.notSynchronized
  have hS0 : va_S (zA nC b) s.heap s.heap [] := va_S.rf
  have hl := lv_entry ([.ref (b + j), .ref (b + a0), .int (iI a1)]) (n := 4) (Nat.le_of_ble_eq_true rfl)
  have hent : entryFrame m args 4 = F0 m 0 ((lg_sl ([.ref (b + j), .ref (b + a0), .int (iI a1)]) ++ List.replicate (4 - (lg_sl ([.ref (b + j), .ref (b + a0), .int (iI a1)])).length) Slot.unset).toArray) [] := by rw [hargs]; exact lg_entry_eq m ([.ref (b + j), .ref (b + a0), .int (iI a1)]) 4
  rw [hent]
  generalize (lg_sl ([.ref (b + j), .ref (b + a0), .int (iI a1)]) ++ List.replicate (4 - (lg_sl ([.ref (b + j), .ref (b + a0), .int (iI a1)])).length) Slot.unset).toArray = ls at hl ⊢
  have hl : lv_has ls 4 [(0, .ref (b + j)), (1, .ref (b + a0)), (2, .int (iI a1))] := hl
  obtain ⟨lt1, cd2, lt3, cd4, lt5, cd6⟩ := nx_ring j lt_j cd_j
  refine z_iconst hx hb dX6_fillUnder_0 ?_
  refine lv_istore_n (lv' := [(3, .int (iI 0)), (0, .ref (b + j)), (1, .ref (b + a0)), (2, .int (iI a1))]) hx hb dX6_fillUnder_1 rfl hl (by decide) rfl (fun ls hl => ?_)
  obtain ⟨I9, ⟨n10, h11⟩, h12⟩ := h
  have L13 : ∀ (n14 : Nat) (x7 : Int) (M8 : zM) (H : Heap) (locs : List Loc) (ls : Array Slot), I9 n14 x7 M8 → zR D dA vwCl wC nC b M8 H → va_S (zA nC b) s.heap H locs → lv_has ls 4 [(0, .ref (b + j)), (1, .ref (b + a0)), (2, .int (iI a1)), (3, .int (iI x7))] → W p l e (headSpec (.code yX6_fillUnder cX6_fillUnder 4 none :: zt) (z_rm 2)).room s m args below meth c H locs 0 0 (MQ below (va_Qv (wQv Q) (zB D dA vwCl wC nC b) (zA nC b)) args s 0 0 (zA nC b)) (F0 m 2 ls []) := by
    intro n14
    induction n14 using Nat.strongRecOn with
    | ind n14 i15 =>
      intro x7 M8 H locs ls h hS hS0 hl
      have h := h12 n14 x7 M8 h
      refine lv_iload_n hx hb dX6_fillUnder_2 rfl (lv_at hl 3 rfl) ?_
      refine lv_iload_n hx hb dX6_fillUnder_3 rfl (lv_at hl 2 rfl) ?_
      refine w_icmp_ge (tgt := 28) hx hb rfl rfl dX6_fillUnder_4 (by decide) (fun c16 => ?_) (fun c16 => ?_)
      · skip
        have h := h.1 c16
        exact w_vret hx hb hr hlocks hS hS0 h dX6_fillUnder_28
      · skip
        have h := h.2 c16
        refine lv_iload_n hx hb dX6_fillUnder_7 rfl (lv_at hl 3 rfl) ?_
        refine lv_aload_n hx hb dX6_fillUnder_8 rfl (lv_at hl 1 rfl) ?_
        refine w_alen (n := (zln wC a0)) hx hb hK.1 (t0 := 0) rfl hS lt_a0 kd_a0 rfl dX6_fillUnder_9 ?_
        refine w_icmp_ge (tgt := 28) hx hb rfl (sI_of ⟨by clear h; omega, by clear h; have := ln_a0; omega⟩) dX6_fillUnder_10 (by decide) (fun c17 => ?_) (fun c17 => ?_)
        · skip
          have h := h.1 c17
          exact w_vret hx hb hr hlocks hS hS0 h dX6_fillUnder_28
        · skip
          have h := h.2 c17
          refine lv_aload_n hx hb dX6_fillUnder_13 rfl (lv_at hl 1 rfl) ?_
          refine lv_iload_n hx hb dX6_fillUnder_14 rfl (lv_at hl 3 rfl) ?_
          refine lv_aload_n hx hb dX6_fillUnder_15 rfl (lv_at hl 0 rfl) ?_
          refine lv_iload_n hx hb dX6_fillUnder_16 rfl (lv_at hl 3 rfl) ?_
          refine lv_iload_n hx hb dX6_fillUnder_17 rfl (lv_at hl 2 rfl) ?_
          refine w_calli (va_runV (As := [.int (iI x7), .int (iI a1)]) (rest := [.int (iI x7), .ref (b + a0)]) ⟨hx, hb, hml, hown, hts⟩ (cC_Ring_soundsUnder l D dA b M8 j x7 a1 lt_j cd_j _ h) (cwV 2 hts (z_gV k402 k403 k1364 k6 k404) rfl rfl rfl dm_X6_soundsUnder ⟨Nat.le_of_ble_eq_true rfl, Nat.le_of_ble_eq_true rfl⟩) ⟨wPre_blind, (w_recv hS hK.1 lt_j (zkd_of cd_j rfl) (by decide) (rfl : vwCl[6]? = some (RX6, TX6, 6))), w_pre hS hK⟩ rfl rfl hl.1 rfl (lv_room (Nat.le_of_ble_eq_true rfl)) dX6_fillUnder_18 ⟨Nat.le_refl _, Nat.le_refl _⟩) hS0 (fun z19 M18 H locs r20 h hS hS0 => ?_)
          obtain ⟨e21, h⟩ := h
          rw [e21] at hS
          obtain ⟨o22, h⟩ := h
          refine w_iast (z := z19) (n := (zln wC a0)) (i := (sI x7)) hx hb hK.1 (t0 := 0) rfl hS hS0 lt_a0 kd_a0 rfl rfl o22.1 o22.2 ln_a0 dX6_fillUnder_21 (fun H locs hS hS0 => ?_)
          obtain ⟨M23, e24⟩ : ∃ M23 : zM, M23 = zup M8 a0 (sI x7).toNat z19 := ⟨_, rfl⟩
          rw [← e24] at hS
          have h := h M23 e24
          refine z_iinc (lv' := [(3, .int (iI (x7 + 1))), (0, .ref (b + j)), (1, .ref (b + a0)), (2, .int (iI a1))]) hx hb dX6_fillUnder_22 hl (k := 3) rfl (by decide) rfl (fun ls hl => ?_)
          refine lv_goto (tgt := 2) hx hb dX6_fillUnder_25 (by decide) ?_
          obtain ⟨n25, h26, h⟩ := h
          exact i15 n25 h26 (x7 + 1) M23 _ _ _ h hS hS0 (lv_sub hl [1, 2, 3, 0] rfl)
  exact L13 n10 0 M _ _ _ h11 hS hS0 (lv_sub hl [1, 2, 3, 0] rfl)

set_option maxRecDepth 100000 in
def wC_Ring_listen (j : Nat) (M : zM) (Q : zM → Prop) : Prop := wC_Ring_fillUnder j (j + 3) (M (j + 1) 1) M (fun M7 => Q M7)
set_option maxHeartbeats 4000000 in
set_option maxRecDepth 100000 in
theorem cC_Ring_listen (l : Launch) (D : va_G) (dA : Nat → ClassId) (b : Nat) (M : zM) (j : Nat) (lt_j : j < nC) (cd_j : zcd wC j = 14) (Q : zM → Prop) (h : wC_Ring_listen j M Q) : Met l yX6_listen (.code yX6_listen cX6_listen 1 none :: zt) (z_rm 3) (va_Pc [.ref (b + j)] (wPre D dA vwCl (z_tys dA) wC nC b M)) (va_Qv (wQv Q) (zB D dA vwCl wC nC b) (zA nC b)) 0 0 (zA nC b) := by
  unfold wC_Ring_listen at h
  refine Met.ofW (cc := cX6_listen) (maxL := 1) (ret := none) (by decide) rfl ?_
  intro p e s m args below meth c s₁ B hml hv
  obtain ⟨hargs, hS, hK⟩ := hv
  have hx := B.exec
  have hb := B.bytes
  have hr := B.returns
  have hts := atoms_spec (ws := .code yX6_listen cX6_listen 1 none :: zt) B.pre
  have hown : s.vm.findClass RX6 = some m.cls := findClass_of_methodNamed B.named
  have hlocks := B.notSynchronized
  have hS0 : va_S (zA nC b) s.heap s.heap [] := va_S.rf
  have hl := lv_entry ([.ref (b + j)]) (n := 1) (Nat.le_of_ble_eq_true rfl)
  have hent : entryFrame m args 1 = F0 m 0 ((lg_sl ([.ref (b + j)]) ++ List.replicate (1 - (lg_sl ([.ref (b + j)])).length) Slot.unset).toArray) [] := by rw [hargs]; exact lg_entry_eq m ([.ref (b + j)]) 1
  rw [hent]
  generalize (lg_sl ([.ref (b + j)]) ++ List.replicate (1 - (lg_sl ([.ref (b + j)])).length) Slot.unset).toArray = ls at hl ⊢
  have hl : lv_has ls 1 [(0, .ref (b + j))] := hl
  obtain ⟨lt1, cd2, lt3, cd4, lt5, cd6⟩ := nx_ring j lt_j cd_j
  refine lv_aload_n hx hb dX6_listen_0 rfl (lv_at hl 0 rfl) ?_
  refine lv_aload_n hx hb dX6_listen_1 rfl (lv_at hl 0 rfl) ?_
  refine w_getr (j2 := (j + 3)) hx hb hts (z_memU u6) hown hK.1 hS f6_5 lt_j (zkd_of cd_j rfl) (zrf_of cd_j rfl) (Or.inl (hts _ (z_mem k109))) dX6_listen_2 ?_
  refine lv_aload_n hx hb dX6_listen_5 rfl (lv_at hl 0 rfl) ?_
  refine w_getr (j2 := (j + 1)) hx hb hts (z_memU u6) hown hK.1 hS f6_0 lt_j (zkd_of cd_j rfl) (zrf_of cd_j rfl) (Or.inl (hts _ (z_mem k93))) dX6_listen_6 ?_
  refine w_geti hx hb hts (z_memU u8) hown hK.1 hS f8_1 lt1 (zkd_of cd2 rfl) (Or.inl (hts _ (z_mem k45))) dX6_listen_9 ?_
  refine w_callv (va_runV (As := [.ref (b + (j + 3)), .int (iI (M (j + 1) 1))]) (rest := []) ⟨hx, hb, hml, hown, hts⟩ (cC_Ring_fillUnder l D dA b M j (j + 3) (M (j + 1) 1) lt_j cd_j lt5 (zkd_of cd6 rfl) (Nat.lt_of_le_of_lt (Nat.le_of_eq (zln_of cd6 rfl)) (by decide)) _ h) (cwV 2 hts (z_gV k398 k399 k400 k6 k401) rfl rfl rfl dm_X6_fillUnder ⟨Nat.le_of_ble_eq_true rfl, Nat.le_of_ble_eq_true rfl⟩) ⟨wPre_blind, (w_recv hS hK.1 lt_j (zkd_of cd_j rfl) (by decide) (rfl : vwCl[6]? = some (RX6, TX6, 6))), w_pre hS hK⟩ rfl rfl hl.1 rfl (lv_room (Nat.le_of_ble_eq_true rfl)) dX6_listen_12 ⟨Nat.le_refl _, Nat.le_refl _⟩) hS0 (fun M7 H locs h hS hS0 => ?_)
  exact w_vret hx hb hr hlocks hS hS0 h dX6_listen_15

set_option maxRecDepth 100000 in
def wC_Ring_begin (j : Nat) (a0 : Nat) (a1 : Int) (a2 : Int) (M : zM) (Q : zM → Prop) : Prop := wC_Strip_copy (j + 1) a0 M (fun M9 => (∀ M10 : zM, M10 = zup M9 j 1 a1 → (∀ M12 : zM, M12 = zup M10 j 2 a2 → (∀ M14 : zM, M14 = zup M12 j 3 1 → (∀ M16 : zM, M16 = zup M14 j 4 0 → wC_Ring_listen j M16 (fun M18 => Q M18))))))
set_option maxHeartbeats 4000000 in
set_option maxRecDepth 100000 in
theorem cC_Ring_begin (l : Launch) (D : va_G) (dA : Nat → ClassId) (b : Nat) (M : zM) (j : Nat) (a0 : Nat) (a1 : Int) (a2 : Int) (lt_j : j < nC) (cd_j : zcd wC j = 14) (lt_a0 : a0 < nC) (cd_a0 : zcd wC a0 = 6) (Q : zM → Prop) (h : wC_Ring_begin j a0 a1 a2 M Q) : Met l yX6_begin (.code yX6_begin cX6_begin 4 none :: zt) (z_rm 4) (va_Pc [.ref (b + j), .ref (b + a0), .int (iI a1), .int (iI a2)] (wPre D dA vwCl (z_tys dA) wC nC b M)) (va_Qv (wQv Q) (zB D dA vwCl wC nC b) (zA nC b)) 0 0 (zA nC b) := by
  unfold wC_Ring_begin at h
  refine Met.ofW (cc := cX6_begin) (maxL := 4) (ret := none) (by decide) rfl ?_
  intro p e s m args below meth c s₁ B hml hv
  obtain ⟨hargs, hS, hK⟩ := hv
  have hx := B.exec
  have hb := B.bytes
  have hr := B.returns
  have hts := atoms_spec (ws := .code yX6_begin cX6_begin 4 none :: zt) B.pre
  have hown : s.vm.findClass RX6 = some m.cls := findClass_of_methodNamed B.named
  have hlocks := B.notSynchronized
  have hS0 : va_S (zA nC b) s.heap s.heap [] := va_S.rf
  have hl := lv_entry ([.ref (b + j), .ref (b + a0), .int (iI a1), .int (iI a2)]) (n := 4) (Nat.le_of_ble_eq_true rfl)
  have hent : entryFrame m args 4 = F0 m 0 ((lg_sl ([.ref (b + j), .ref (b + a0), .int (iI a1), .int (iI a2)]) ++ List.replicate (4 - (lg_sl ([.ref (b + j), .ref (b + a0), .int (iI a1), .int (iI a2)])).length) Slot.unset).toArray) [] := by rw [hargs]; exact lg_entry_eq m ([.ref (b + j), .ref (b + a0), .int (iI a1), .int (iI a2)]) 4
  rw [hent]
  generalize (lg_sl ([.ref (b + j), .ref (b + a0), .int (iI a1), .int (iI a2)]) ++ List.replicate (4 - (lg_sl ([.ref (b + j), .ref (b + a0), .int (iI a1), .int (iI a2)])).length) Slot.unset).toArray = ls at hl ⊢
  have hl : lv_has ls 4 [(0, .ref (b + j)), (1, .ref (b + a0)), (2, .int (iI a1)), (3, .int (iI a2))] := hl
  obtain ⟨lt1, cd2, lt3, cd4, lt5, cd6⟩ := nx_ring j lt_j cd_j
  obtain ⟨lt7, cd8⟩ := nx_strip a0 lt_a0 cd_a0
  refine lv_aload_n hx hb dX6_begin_0 rfl (lv_at hl 0 rfl) ?_
  refine w_getr (j2 := (j + 1)) hx hb hts (z_memU u6) hown hK.1 hS f6_0 lt_j (zkd_of cd_j rfl) (zrf_of cd_j rfl) (Or.inl (hts _ (z_mem k93))) dX6_begin_1 ?_
  refine lv_aload_n hx hb dX6_begin_4 rfl (lv_at hl 1 rfl) ?_
  refine w_callv (va_runV (As := [.ref (b + a0)]) (rest := []) ⟨hx, hb, hml, hown, hts⟩ (cC_Strip_copy l D dA b M (j + 1) a0 lt1 cd2 lt_a0 cd_a0 _ h) (cwV 1 hts (z_gV k394 k361 k362 k3 k363) rfl rfl rfl dm_X8_copy ⟨Nat.le_of_ble_eq_true rfl, Nat.le_of_ble_eq_true rfl⟩) ⟨wPre_blind, (w_recv hS hK.1 lt1 (zkd_of cd2 rfl) (by decide) (rfl : vwCl[8]? = some (RX8, TX8, 2))), w_pre hS hK⟩ rfl rfl hl.1 rfl (lv_room (Nat.le_of_ble_eq_true rfl)) dX6_begin_5 ⟨Nat.le_refl _, Nat.le_refl _⟩) hS0 (fun M9 H locs h hS hS0 => ?_)
  refine lv_aload_n hx hb dX6_begin_8 rfl (lv_at hl 0 rfl) ?_
  refine lv_iload_n hx hb dX6_begin_9 rfl (lv_at hl 2 rfl) ?_
  refine w_puti hx hb hts (z_memU u6) tyX6 tyX6_ok nmX6 hown hK.1 hS hS0 f6_1 lt_j (zkd_of cd_j rfl) (Or.inl (hts _ (z_mem k97))) rfl (z := a1) (by decide +kernel) dX6_begin_10 (fun H locs hS hS0 => ?_)
  obtain ⟨M10, e11⟩ : ∃ M10 : zM, M10 = zup M9 j 1 a1 := ⟨_, rfl⟩
  rw [← e11] at hS
  have h := h M10 e11
  refine lv_aload_n hx hb dX6_begin_13 rfl (lv_at hl 0 rfl) ?_
  refine lv_iload_n hx hb dX6_begin_14 rfl (lv_at hl 3 rfl) ?_
  refine w_puti hx hb hts (z_memU u6) tyX6 tyX6_ok nmX6 hown hK.1 hS hS0 f6_2 lt_j (zkd_of cd_j rfl) (Or.inl (hts _ (z_mem k101))) rfl (z := a2) (by decide +kernel) dX6_begin_15 (fun H locs hS hS0 => ?_)
  obtain ⟨M12, e13⟩ : ∃ M12 : zM, M12 = zup M10 j 2 a2 := ⟨_, rfl⟩
  rw [← e13] at hS
  have h := h M12 e13
  refine lv_aload_n hx hb dX6_begin_18 rfl (lv_at hl 0 rfl) ?_
  refine z_iconst hx hb dX6_begin_19 ?_
  refine w_puti hx hb hts (z_memU u6) tyX6 tyX6_ok nmX6 hown hK.1 hS hS0 f6_3 lt_j (zkd_of cd_j rfl) (Or.inl (hts _ (z_mem k104))) rfl (z := 1) (by decide +kernel) dX6_begin_20 (fun H locs hS hS0 => ?_)
  obtain ⟨M14, e15⟩ : ∃ M14 : zM, M14 = zup M12 j 3 1 := ⟨_, rfl⟩
  rw [← e15] at hS
  have h := h M14 e15
  refine lv_aload_n hx hb dX6_begin_23 rfl (lv_at hl 0 rfl) ?_
  refine z_iconst hx hb dX6_begin_24 ?_
  refine w_puti hx hb hts (z_memU u6) tyX6 tyX6_ok nmX6 hown hK.1 hS hS0 f6_4 lt_j (zkd_of cd_j rfl) (Or.inl (hts _ (z_mem k106))) rfl (z := 0) (by decide +kernel) dX6_begin_25 (fun H locs hS hS0 => ?_)
  obtain ⟨M16, e17⟩ : ∃ M16 : zM, M16 = zup M14 j 4 0 := ⟨_, rfl⟩
  rw [← e17] at hS
  have h := h M16 e17
  refine lv_aload_n hx hb dX6_begin_28 rfl (lv_at hl 0 rfl) ?_
  refine w_callv (va_runV (As := []) (rest := []) ⟨hx, hb, hml, hown, hts⟩ (cC_Ring_listen l D dA b M16 j lt_j cd_j _ h) (cwV 0 hts (z_gV k395 k396 k1363 k6 k397) rfl rfl rfl dm_X6_listen ⟨Nat.le_of_ble_eq_true rfl, Nat.le_of_ble_eq_true rfl⟩) ⟨wPre_blind, (w_recv hS hK.1 lt_j (zkd_of cd_j rfl) (by decide) (rfl : vwCl[6]? = some (RX6, TX6, 6))), w_pre hS hK⟩ rfl rfl hl.1 rfl (lv_room (Nat.le_of_ble_eq_true rfl)) dX6_begin_29 ⟨Nat.le_refl _, Nat.le_refl _⟩) hS0 (fun M18 H locs h hS hS0 => ?_)
  exact w_vret hx hb hr hlocks hS hS0 h dX6_begin_32

set_option maxRecDepth 100000 in
def wC_Studio_add (a0 : Nat) (a1 : Int) (a2 : Int) (M : zM) (Q : Int → zM → Prop) : Prop := ((sI (M 32 2)) < 4 → ((0 ≤ (sI (M 32 2)) ∧ (sI (M 32 2)) < 4) ∧ wC_Ring_begin (41 + 4 * (sI (M 32 2)).toNat) a0 a1 a2 M (fun M13 => (∀ M14 : zM, M14 = zup M13 32 2 ((M13 32 2) + 1) → Q (sI ((M14 32 2) - 1)) M14)))) ∧ (4 ≤ (sI (M 32 2)) → Q (-1) M)
set_option maxHeartbeats 4000000 in
set_option maxRecDepth 100000 in
theorem cC_Studio_add (l : Launch) (D : va_G) (dA : Nat → ClassId) (b : Nat) (M : zM) (a0 : Nat) (a1 : Int) (a2 : Int) (lt_a0 : a0 < nC) (cd_a0 : zcd wC a0 = 6) (Q : Int → zM → Prop) (h : wC_Studio_add a0 a1 a2 M Q) : Met l yX9_add (.code yX9_add cX9_add 4 (some .int) :: zt) (z_rm 5) (va_Pc [.ref (b + 32), .ref (b + a0), .int (iI a1), .int (iI a2)] (wPre D dA vwCl (z_tys dA) wC nC b M)) (va_Qi (wQi Q) (zB D dA vwCl wC nC b) (zA nC b)) 0 0 (zA nC b) := by
  unfold wC_Studio_add at h
  refine Met.ofW (cc := cX9_add) (maxL := 4) (ret := (some .int)) (by decide) rfl ?_
  intro p e s m args below meth c s₁ B hml hv
  obtain ⟨hargs, hS, hK⟩ := hv
  have hx := B.exec
  have hb := B.bytes
  have hr := B.returns
  have hts := atoms_spec (ws := .code yX9_add cX9_add 4 (some .int) :: zt) B.pre
  have hown : s.vm.findClass RX9 = some m.cls := findClass_of_methodNamed B.named
  have hlocks := B.notSynchronized
  have hS0 : va_S (zA nC b) s.heap s.heap [] := va_S.rf
  have hl := lv_entry ([.ref (b + 32), .ref (b + a0), .int (iI a1), .int (iI a2)]) (n := 4) (Nat.le_of_ble_eq_true rfl)
  have hent : entryFrame m args 4 = F0 m 0 ((lg_sl ([.ref (b + 32), .ref (b + a0), .int (iI a1), .int (iI a2)]) ++ List.replicate (4 - (lg_sl ([.ref (b + 32), .ref (b + a0), .int (iI a1), .int (iI a2)])).length) Slot.unset).toArray) [] := by rw [hargs]; exact lg_entry_eq m ([.ref (b + 32), .ref (b + a0), .int (iI a1), .int (iI a2)]) 4
  rw [hent]
  generalize (lg_sl ([.ref (b + 32), .ref (b + a0), .int (iI a1), .int (iI a2)]) ++ List.replicate (4 - (lg_sl ([.ref (b + 32), .ref (b + a0), .int (iI a1), .int (iI a2)])).length) Slot.unset).toArray = ls at hl ⊢
  have hl : lv_has ls 4 [(0, .ref (b + 32)), (1, .ref (b + a0)), (2, .int (iI a1)), (3, .int (iI a2))] := hl
  obtain ⟨lt1, cd2⟩ := nx_strip a0 lt_a0 cd_a0
  refine lv_aload_n hx hb dX9_add_0 rfl (lv_at hl 0 rfl) ?_
  refine w_geti hx hb hts (z_memU u9) hown hK.1 hS f9_2 (by decide) (zkd_of (rfl : zcd wC 32 = 8) rfl) (Or.inl (hts _ (z_mem k118))) dX9_add_1 ?_
  refine z_iconst hx hb dX9_add_4 ?_
  refine w_icmp_lt (tgt := 10) hx hb rfl (sI_of (by decide)) dX9_add_5 (by decide) (fun c3 => ?_) (fun c3 => ?_)
  · skip
    have h := h.1 c3
    refine lv_aload_n hx hb dX9_add_10 rfl (lv_at hl 0 rfl) ?_
    refine w_getr (j2 := 34) hx hb hts (z_memU u9) hown hK.1 hS f9_1 (by decide) (zkd_of (rfl : zcd wC 32 = 8) rfl) (zrf_of (rfl : zcd wC 32 = 8) rfl) (Or.inl (hts _ (z_mem k117))) dX9_add_11 ?_
    refine lv_aload_n hx hb dX9_add_14 rfl (lv_at hl 0 rfl) ?_
    refine w_geti hx hb hts (z_memU u9) hown hK.1 hS f9_2 (by decide) (zkd_of (rfl : zcd wC 32 = 8) rfl) (Or.inl (hts _ (z_mem k118))) dX9_add_15 ?_
    obtain ⟨o4, h⟩ := h
    refine w_aald (n := 4) (i := (sI (M 32 2))) (j2 := (41 + 4 * (sI (M 32 2)).toNat)) hx hb hK.1 (t0 := 6) (r := 6) (by decide) rfl rfl hS (by decide) (zkd_of (rfl : zcd wC 34 = 10) rfl) (zln_of (rfl : zcd wC 34 = 10) rfl) rfl o4.1 o4.2 (by decide) (zrf_of (rfl : zcd wC 34 = 10) rfl) dX9_add_18 ?_
    obtain ⟨lt5, cd6⟩ : (41 + 4 * (sI (M 32 2)).toNat) < nC ∧ zcd wC (41 + 4 * (sI (M 32 2)).toNat) = 14 := (by decide : ∀ k : Nat, k < 4 → (41 + 4 * k) < nC ∧ zcd wC (41 + 4 * k) = 14) (sI (M 32 2)).toNat (by clear h; have h0 := o4.1; have h1 := o4.2; omega)
    obtain ⟨lt7, cd8, lt9, cd10, lt11, cd12⟩ := nx_ring (41 + 4 * (sI (M 32 2)).toNat) lt5 cd6
    refine lv_aload_n hx hb dX9_add_19 rfl (lv_at hl 1 rfl) ?_
    refine lv_iload_n hx hb dX9_add_20 rfl (lv_at hl 2 rfl) ?_
    refine lv_iload_n hx hb dX9_add_21 rfl (lv_at hl 3 rfl) ?_
    refine w_callv (va_runV (As := [.ref (b + a0), .int (iI a1), .int (iI a2)]) (rest := []) ⟨hx, hb, hml, hown, hts⟩ (cC_Ring_begin l D dA b M (41 + 4 * (sI (M 32 2)).toNat) a0 a1 a2 lt5 cd6 lt_a0 cd_a0 _ h) (cwV 3 hts (z_gV k390 k391 k392 k6 k393) rfl rfl rfl dm_X6_begin ⟨Nat.le_of_ble_eq_true rfl, Nat.le_of_ble_eq_true rfl⟩) ⟨wPre_blind, (w_recv hS hK.1 lt5 (zkd_of cd6 rfl) (by decide) (rfl : vwCl[6]? = some (RX6, TX6, 6))), w_pre hS hK⟩ rfl rfl hl.1 rfl (lv_room (Nat.le_of_ble_eq_true rfl)) dX9_add_22 ⟨Nat.le_refl _, Nat.le_refl _⟩) hS0 (fun M13 H locs h hS hS0 => ?_)
    refine lv_aload_n hx hb dX9_add_25 rfl (lv_at hl 0 rfl) ?_
    refine lv_dup hx hb dX9_add_26 rfl ?_
    refine w_geti hx hb hts (z_memU u9) hown hK.1 hS f9_2 (by decide) (zkd_of (rfl : zcd wC 32 = 8) rfl) (Or.inl (hts _ (z_mem k118))) dX9_add_27 ?_
    refine z_iconst hx hb dX9_add_30 ?_
    refine z_iadd hx hb dX9_add_31 ?_
    refine w_puti hx hb hts (z_memU u9) tyX9 tyX9_ok nmX9 hown hK.1 hS hS0 f9_2 (by decide) (zkd_of (rfl : zcd wC 32 = 8) rfl) (Or.inl (hts _ (z_mem k118))) rfl (z := ((M13 32 2) + 1)) (by decide +kernel) dX9_add_32 (fun H locs hS hS0 => ?_)
    obtain ⟨M14, e15⟩ : ∃ M14 : zM, M14 = zup M13 32 2 ((M13 32 2) + 1) := ⟨_, rfl⟩
    rw [← e15] at hS
    have h := h M14 e15
    refine lv_aload_n hx hb dX9_add_35 rfl (lv_at hl 0 rfl) ?_
    refine w_geti hx hb hts (z_memU u9) hown hK.1 hS f9_2 (by decide) (zkd_of (rfl : zcd wC 32 = 8) rfl) (Or.inl (hts _ (z_mem k118))) dX9_add_36 ?_
    refine z_iconst hx hb dX9_add_39 ?_
    refine z_isub hx hb dX9_add_40 ?_
    exact w_iret hx hb hr hlocks hS hS0 rfl h dX9_add_41
  · skip
    have h := h.2 c3
    refine z_iconst hx hb dX9_add_8 ?_
    exact w_iret hx hb hr hlocks hS hS0 (sI_of (by decide)) h dX9_add_9

set_option maxRecDepth 100000 in
def wC_ring (a0 : Int) (a1 : Int) (M : zM) (Q : Int → zM → Prop) : Prop := wC_isMotor a0 M (fun z2 => (z2 = 0 → Q (-1) M) ∧ (z2 ≠ 0 → wC_Strip_has 30 a1 M (fun z7 => (z7 ≠ 0 → wC_Studio_add 30 a0 a1 M (fun z12 M11 => Q z12 M11)) ∧ (z7 = 0 → Q (-1) M))))
set_option maxHeartbeats 4000000 in
set_option maxRecDepth 100000 in
theorem cC_ring (l : Launch) (D : va_G) (dA : Nat → ClassId) (b : Nat) (M : zM) (a0 : Int) (a1 : Int)  (Q : Int → zM → Prop) (h : wC_ring a0 a1 M Q) : Met l yX11_ring (.code yX11_ring cX11_ring 3 (some .int) :: zt) (z_rm 6) (va_Pc [.ref (b + 0), .int (iI a0), .int (iI a1)] (wPre D dA vwCl (z_tys dA) wC nC b M)) (va_Qi (wQi Q) (zB D dA vwCl wC nC b) (zA nC b)) 0 0 (zA nC b) := by
  unfold wC_ring at h
  refine Met.ofW (cc := cX11_ring) (maxL := 3) (ret := (some .int)) (by decide) rfl ?_
  intro p e s m args below meth c s₁ B hml hv
  obtain ⟨hargs, hS, hK⟩ := hv
  have hx := B.exec
  have hb := B.bytes
  have hr := B.returns
  have hts := atoms_spec (ws := .code yX11_ring cX11_ring 3 (some .int) :: zt) B.pre
  have hown : s.vm.findClass RX11 = some m.cls := findClass_of_methodNamed B.named
  have hlocks := B.notSynchronized
  have hS0 : va_S (zA nC b) s.heap s.heap [] := va_S.rf
  have hl := lv_entry ([.ref (b + 0), .int (iI a0), .int (iI a1)]) (n := 3) (Nat.le_of_ble_eq_true rfl)
  have hent : entryFrame m args 3 = F0 m 0 ((lg_sl ([.ref (b + 0), .int (iI a0), .int (iI a1)]) ++ List.replicate (3 - (lg_sl ([.ref (b + 0), .int (iI a0), .int (iI a1)])).length) Slot.unset).toArray) [] := by rw [hargs]; exact lg_entry_eq m ([.ref (b + 0), .int (iI a0), .int (iI a1)]) 3
  rw [hent]
  generalize (lg_sl ([.ref (b + 0), .int (iI a0), .int (iI a1)]) ++ List.replicate (3 - (lg_sl ([.ref (b + 0), .int (iI a0), .int (iI a1)])).length) Slot.unset).toArray = ls at hl ⊢
  have hl : lv_has ls 3 [(0, .ref (b + 0)), (1, .int (iI a0)), (2, .int (iI a1))] := hl
  refine lv_iload_n hx hb dX11_ring_0 rfl (lv_at hl 1 rfl) ?_
  refine w_callz (va_runS (As := [.int (iI a0)]) (rest := []) ⟨hx, hb, hml, hown, hts⟩ (cC_isMotor l D dA b M a0 _ h) (va_cwS 1 hts (z_gS k379 k380 k1 k381) rfl rfl rfl dm_X11_isMotor.2 ⟨Nat.le_of_ble_eq_true rfl, Nat.le_of_ble_eq_true rfl⟩) ⟨wPre_blind, w_pre hS hK⟩ rfl rfl hl.1 rfl (lv_room (Nat.le_of_ble_eq_true rfl)) dX11_ring_1 ⟨Nat.le_refl _, Nat.le_refl _⟩) hS0 (fun z2 M1 H locs r3 h hS hS0 => ?_)
  obtain ⟨e4, h⟩ := h
  rw [e4] at hS
  refine w_if_eq (tgt := 18) hx hb (sI_01 r3) dX11_ring_4 (by decide) (fun c5 => ?_) (fun c5 => ?_)
  · skip
    have h := h.1 c5
    refine z_iconst hx hb dX11_ring_18 ?_
    exact w_iret hx hb hr hlocks hS hS0 (sI_of (by decide)) h dX11_ring_19
  · skip
    have h := h.2 c5
    refine lv_aload_n hx hb dX11_ring_7 rfl (lv_at hl 0 rfl) ?_
    refine w_getr (j2 := 30) hx hb hts (z_memU u11) hown hK.1 hS f11_1 (by decide) (zkd_of (rfl : zcd wC 0 = 0) rfl) (zrf_of (rfl : zcd wC 0 = 0) rfl) (Or.inl (hts _ (z_mem k243))) dX11_ring_8 ?_
    refine lv_iload_n hx hb dX11_ring_11 rfl (lv_at hl 2 rfl) ?_
    refine w_callz (va_runV (As := [.int (iI a1)]) (rest := []) ⟨hx, hb, hml, hown, hts⟩ (cC_Strip_has l D dA b M 30 a1 (by decide) (rfl : zcd wC 30 = 6) _ h) (cwV 1 hts (z_gV k385 k327 k328 k3 k329) rfl rfl rfl dm_X8_has ⟨Nat.le_of_ble_eq_true rfl, Nat.le_of_ble_eq_true rfl⟩) ⟨wPre_blind, (w_recv hS hK.1 (by decide) (zkd_of (rfl : zcd wC 30 = 6) rfl) (by decide) (rfl : vwCl[8]? = some (RX8, TX8, 2))), w_pre hS hK⟩ rfl rfl hl.1 rfl (lv_room (Nat.le_of_ble_eq_true rfl)) dX11_ring_12 ⟨Nat.le_refl _, Nat.le_refl _⟩) hS0 (fun z7 M6 H locs r8 h hS hS0 => ?_)
    obtain ⟨e9, h⟩ := h
    rw [e9] at hS
    refine w_if_ne (tgt := 20) hx hb (sI_01 r8) dX11_ring_15 (by decide) (fun c10 => ?_) (fun c10 => ?_)
    · skip
      have h := h.1 c10
      refine lv_aload_n hx hb dX11_ring_20 rfl (lv_at hl 0 rfl) ?_
      refine w_getr (j2 := 32) hx hb hts (z_memU u11) hown hK.1 hS f11_2 (by decide) (zkd_of (rfl : zcd wC 0 = 0) rfl) (zrf_of (rfl : zcd wC 0 = 0) rfl) (Or.inl (hts _ (z_mem k244))) dX11_ring_21 ?_
      refine lv_aload_n hx hb dX11_ring_24 rfl (lv_at hl 0 rfl) ?_
      refine w_getr (j2 := 30) hx hb hts (z_memU u11) hown hK.1 hS f11_1 (by decide) (zkd_of (rfl : zcd wC 0 = 0) rfl) (zrf_of (rfl : zcd wC 0 = 0) rfl) (Or.inl (hts _ (z_mem k243))) dX11_ring_25 ?_
      refine lv_iload_n hx hb dX11_ring_28 rfl (lv_at hl 1 rfl) ?_
      refine lv_iload_n hx hb dX11_ring_29 rfl (lv_at hl 2 rfl) ?_
      refine w_calli (va_runV (As := [.ref (b + 30), .int (iI a0), .int (iI a1)]) (rest := []) ⟨hx, hb, hml, hown, hts⟩ (cC_Studio_add l D dA b M 30 a0 a1 (by decide) (rfl : zcd wC 30 = 6) _ h) (cwV 3 hts (z_gV k386 k387 k388 k4 k389) rfl rfl rfl dm_X9_add ⟨Nat.le_of_ble_eq_true rfl, Nat.le_of_ble_eq_true rfl⟩) ⟨wPre_blind, (w_recv hS hK.1 (by decide) (zkd_of (rfl : zcd wC 32 = 8) rfl) (by decide) (rfl : vwCl[9]? = some (RX9, TX9, 3))), w_pre hS hK⟩ rfl rfl hl.1 rfl (lv_room (Nat.le_of_ble_eq_true rfl)) dX11_ring_30 ⟨Nat.le_refl _, Nat.le_refl _⟩) hS0 (fun z12 M11 H locs r13 h hS hS0 => ?_)
      exact w_iret hx hb hr hlocks hS hS0 (sI_of r13) h dX11_ring_33
    · skip
      have h := h.2 c10
      refine z_iconst hx hb dX11_ring_18 ?_
      exact w_iret hx hb hr hlocks hS hS0 (sI_of (by decide)) h dX11_ring_19
