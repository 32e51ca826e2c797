/-! Decode rows. -/
theorem d_T_init_0 : decode b_T_init 0 = .ok (.aload_n 0, 1) := by decide +kernel
theorem d_T_init_1 : decode b_T_init 1 = .ok (.invokespecial 3, 3) := by decide +kernel
theorem d_T_init_4 : decode b_T_init 4 = .ok (.aload_n 0, 1) := by decide +kernel
theorem d_T_init_5 : decode b_T_init 5 = .ok (.iload_n 1, 1) := by decide +kernel
theorem d_T_init_6 : decode b_T_init 6 = .ok (.putfield 9, 3) := by decide +kernel
theorem d_T_init_9 : decode b_T_init 9 = .ok (.aload_n 0, 1) := by decide +kernel
theorem d_T_init_10 : decode b_T_init 10 = .ok (.iload_n 2, 1) := by decide +kernel
theorem d_T_init_11 : decode b_T_init 11 = .ok (.ifCond .lt 7, 3) := by decide +kernel
theorem d_T_init_14 : decode b_T_init 14 = .ok (.iload_n 2, 1) := by decide +kernel
theorem d_T_init_15 : decode b_T_init 15 = .ok (.goto 4, 3) := by decide +kernel
theorem d_T_init_18 : decode b_T_init 18 = .ok (.iconst 0, 1) := by decide +kernel
theorem d_T_init_19 : decode b_T_init 19 = .ok (.newarray .int, 2) := by decide +kernel
theorem d_T_init_21 : decode b_T_init 21 = .ok (.putfield 15, 3) := by decide +kernel
theorem d_T_init_24 : decode b_T_init 24 = .ok (.aload_n 0, 1) := by decide +kernel
theorem d_T_init_25 : decode b_T_init 25 = .ok (.iconst 0, 1) := by decide +kernel
theorem d_T_init_26 : decode b_T_init 26 = .ok (.putfield 19, 3) := by decide +kernel
theorem d_T_init_29 : decode b_T_init 29 = .ok (.aload_n 0, 1) := by decide +kernel
theorem d_T_init_30 : decode b_T_init 30 = .ok (.iconst (-1), 1) := by decide +kernel
theorem d_T_init_31 : decode b_T_init 31 = .ok (.putfield 23, 3) := by decide +kernel
theorem d_T_init_34 : decode b_T_init 34 = .ok (.iconst 0, 1) := by decide +kernel
theorem d_T_init_35 : decode b_T_init 35 = .ok (.istore_n 3, 1) := by decide +kernel
theorem d_T_init_36 : decode b_T_init 36 = .ok (.iload_n 3, 1) := by decide +kernel
theorem d_T_init_37 : decode b_T_init 37 = .ok (.aload_n 0, 1) := by decide +kernel
theorem d_T_init_38 : decode b_T_init 38 = .ok (.getfield 15, 3) := by decide +kernel
theorem d_T_init_41 : decode b_T_init 41 = .ok (.arraylength, 1) := by decide +kernel
theorem d_T_init_42 : decode b_T_init 42 = .ok (.if_icmp .ge 16, 3) := by decide +kernel
theorem d_T_init_45 : decode b_T_init 45 = .ok (.aload_n 0, 1) := by decide +kernel
theorem d_T_init_46 : decode b_T_init 46 = .ok (.getfield 15, 3) := by decide +kernel
theorem d_T_init_49 : decode b_T_init 49 = .ok (.iload_n 3, 1) := by decide +kernel
theorem d_T_init_50 : decode b_T_init 50 = .ok (.iconst (-1), 1) := by decide +kernel
theorem d_T_init_51 : decode b_T_init 51 = .ok (.iastore, 1) := by decide +kernel
theorem d_T_init_52 : decode b_T_init 52 = .ok (.iinc 3 1, 3) := by decide +kernel
theorem d_T_init_55 : decode b_T_init 55 = .ok (.goto (-19), 3) := by decide +kernel
theorem d_T_init_58 : decode b_T_init 58 = .ok (.return_, 1) := by decide +kernel
theorem d_T_hasField_0 : decode b_T_hasField 0 = .ok (.iload_n 1, 1) := by decide +kernel
theorem d_T_hasField_1 : decode b_T_hasField 1 = .ok (.ifCond .lt 16, 3) := by decide +kernel
theorem d_T_hasField_4 : decode b_T_hasField 4 = .ok (.iload_n 1, 1) := by decide +kernel
theorem d_T_hasField_5 : decode b_T_hasField 5 = .ok (.aload_n 0, 1) := by decide +kernel
theorem d_T_hasField_6 : decode b_T_hasField 6 = .ok (.getfield 15, 3) := by decide +kernel
theorem d_T_hasField_9 : decode b_T_hasField 9 = .ok (.arraylength, 1) := by decide +kernel
theorem d_T_hasField_10 : decode b_T_hasField 10 = .ok (.if_icmp .ge 7, 3) := by decide +kernel
theorem d_T_hasField_13 : decode b_T_hasField 13 = .ok (.iconst 1, 1) := by decide +kernel
theorem d_T_hasField_14 : decode b_T_hasField 14 = .ok (.goto 4, 3) := by decide +kernel
theorem d_T_hasField_17 : decode b_T_hasField 17 = .ok (.iconst 0, 1) := by decide +kernel
theorem d_T_hasField_18 : decode b_T_hasField 18 = .ok (.ireturn, 1) := by decide +kernel
theorem d_T_hasWeakField_0 : decode b_T_hasWeakField 0 = .ok (.aload_n 0, 1) := by decide +kernel
theorem d_T_hasWeakField_1 : decode b_T_hasWeakField 1 = .ok (.getfield 9, 3) := by decide +kernel
theorem d_T_hasWeakField_4 : decode b_T_hasWeakField 4 = .ok (.iconst 1, 1) := by decide +kernel
theorem d_T_hasWeakField_5 : decode b_T_hasWeakField 5 = .ok (.if_icmp .ne 15, 3) := by decide +kernel
theorem d_T_hasWeakField_8 : decode b_T_hasWeakField 8 = .ok (.aload_n 0, 1) := by decide +kernel
theorem d_T_hasWeakField_9 : decode b_T_hasWeakField 9 = .ok (.iconst 0, 1) := by decide +kernel
theorem d_T_hasWeakField_10 : decode b_T_hasWeakField 10 = .ok (.invokevirtual 26, 3) := by decide +kernel
theorem d_T_hasWeakField_13 : decode b_T_hasWeakField 13 = .ok (.ifCond .eq 7, 3) := by decide +kernel
theorem d_T_hasWeakField_16 : decode b_T_hasWeakField 16 = .ok (.iconst 1, 1) := by decide +kernel
theorem d_T_hasWeakField_17 : decode b_T_hasWeakField 17 = .ok (.goto 4, 3) := by decide +kernel
theorem d_T_hasWeakField_20 : decode b_T_hasWeakField 20 = .ok (.iconst 0, 1) := by decide +kernel
theorem d_T_hasWeakField_21 : decode b_T_hasWeakField 21 = .ok (.ireturn, 1) := by decide +kernel
theorem d_T_waitsForQueue_0 : decode b_T_waitsForQueue 0 = .ok (.aload_n 0, 1) := by decide +kernel
theorem d_T_waitsForQueue_1 : decode b_T_waitsForQueue 1 = .ok (.getfield 9, 3) := by decide +kernel
theorem d_T_waitsForQueue_4 : decode b_T_waitsForQueue 4 = .ok (.iconst 2, 1) := by decide +kernel
theorem d_T_waitsForQueue_5 : decode b_T_waitsForQueue 5 = .ok (.if_icmp .ne 14, 3) := by decide +kernel
theorem d_T_waitsForQueue_8 : decode b_T_waitsForQueue 8 = .ok (.aload_n 0, 1) := by decide +kernel
theorem d_T_waitsForQueue_9 : decode b_T_waitsForQueue 9 = .ok (.getfield 19, 3) := by decide +kernel
theorem d_T_waitsForQueue_12 : decode b_T_waitsForQueue 12 = .ok (.ifCond .ne 7, 3) := by decide +kernel
theorem d_T_waitsForQueue_15 : decode b_T_waitsForQueue 15 = .ok (.iconst 1, 1) := by decide +kernel
theorem d_T_waitsForQueue_16 : decode b_T_waitsForQueue 16 = .ok (.goto 4, 3) := by decide +kernel
theorem d_T_waitsForQueue_19 : decode b_T_waitsForQueue 19 = .ok (.iconst 0, 1) := by decide +kernel
theorem d_T_waitsForQueue_20 : decode b_T_waitsForQueue 20 = .ok (.ireturn, 1) := by decide +kernel
theorem d_S_init_0 : decode b_S_init 0 = .ok (.aload_n 0, 1) := by decide +kernel
theorem d_S_init_1 : decode b_S_init 1 = .ok (.invokespecial 3, 3) := by decide +kernel
theorem d_S_init_4 : decode b_S_init 4 = .ok (.aload_n 0, 1) := by decide +kernel
theorem d_S_init_5 : decode b_S_init 5 = .ok (.sipush 300, 3) := by decide +kernel
theorem d_S_init_8 : decode b_S_init 8 = .ok (.newarray .boolean, 2) := by decide +kernel
theorem d_S_init_10 : decode b_S_init 10 = .ok (.putfield 9, 3) := by decide +kernel
theorem d_S_init_13 : decode b_S_init 13 = .ok (.aload_n 0, 1) := by decide +kernel
theorem d_S_init_14 : decode b_S_init 14 = .ok (.sipush 300, 3) := by decide +kernel
theorem d_S_init_17 : decode b_S_init 17 = .ok (.newarray .int, 2) := by decide +kernel
theorem d_S_init_19 : decode b_S_init 19 = .ok (.putfield 15, 3) := by decide +kernel
theorem d_S_init_22 : decode b_S_init 22 = .ok (.aload_n 0, 1) := by decide +kernel
theorem d_S_init_23 : decode b_S_init 23 = .ok (.iconst 0, 1) := by decide +kernel
theorem d_S_init_24 : decode b_S_init 24 = .ok (.putfield 19, 3) := by decide +kernel
theorem d_S_init_27 : decode b_S_init 27 = .ok (.return_, 1) := by decide +kernel
theorem d_S_forgetAll_0 : decode b_S_forgetAll 0 = .ok (.iconst 0, 1) := by decide +kernel
theorem d_S_forgetAll_1 : decode b_S_forgetAll 1 = .ok (.istore_n 1, 1) := by decide +kernel
theorem d_S_forgetAll_2 : decode b_S_forgetAll 2 = .ok (.iload_n 1, 1) := by decide +kernel
theorem d_S_forgetAll_3 : decode b_S_forgetAll 3 = .ok (.aload_n 0, 1) := by decide +kernel
theorem d_S_forgetAll_4 : decode b_S_forgetAll 4 = .ok (.getfield 9, 3) := by decide +kernel
theorem d_S_forgetAll_7 : decode b_S_forgetAll 7 = .ok (.arraylength, 1) := by decide +kernel
theorem d_S_forgetAll_8 : decode b_S_forgetAll 8 = .ok (.if_icmp .ge 16, 3) := by decide +kernel
theorem d_S_forgetAll_11 : decode b_S_forgetAll 11 = .ok (.aload_n 0, 1) := by decide +kernel
theorem d_S_forgetAll_12 : decode b_S_forgetAll 12 = .ok (.getfield 9, 3) := by decide +kernel
theorem d_S_forgetAll_15 : decode b_S_forgetAll 15 = .ok (.iload_n 1, 1) := by decide +kernel
theorem d_S_forgetAll_16 : decode b_S_forgetAll 16 = .ok (.iconst 0, 1) := by decide +kernel
theorem d_S_forgetAll_17 : decode b_S_forgetAll 17 = .ok (.bastore, 1) := by decide +kernel
theorem d_S_forgetAll_18 : decode b_S_forgetAll 18 = .ok (.iinc 1 1, 3) := by decide +kernel
theorem d_S_forgetAll_21 : decode b_S_forgetAll 21 = .ok (.goto (-19), 3) := by decide +kernel
theorem d_S_forgetAll_24 : decode b_S_forgetAll 24 = .ok (.aload_n 0, 1) := by decide +kernel
theorem d_S_forgetAll_25 : decode b_S_forgetAll 25 = .ok (.iconst 0, 1) := by decide +kernel
theorem d_S_forgetAll_26 : decode b_S_forgetAll 26 = .ok (.putfield 19, 3) := by decide +kernel
theorem d_S_forgetAll_29 : decode b_S_forgetAll 29 = .ok (.return_, 1) := by decide +kernel
theorem d_S_add_0 : decode b_S_add 0 = .ok (.iload_n 1, 1) := by decide +kernel
theorem d_S_add_1 : decode b_S_add 1 = .ok (.ifCond .lt 40, 3) := by decide +kernel
theorem d_S_add_4 : decode b_S_add 4 = .ok (.iload_n 1, 1) := by decide +kernel
theorem d_S_add_5 : decode b_S_add 5 = .ok (.aload_n 0, 1) := by decide +kernel
theorem d_S_add_6 : decode b_S_add 6 = .ok (.getfield 9, 3) := by decide +kernel
theorem d_S_add_9 : decode b_S_add 9 = .ok (.arraylength, 1) := by decide +kernel
theorem d_S_add_10 : decode b_S_add 10 = .ok (.if_icmp .ge 31, 3) := by decide +kernel
theorem d_S_add_13 : decode b_S_add 13 = .ok (.aload_n 0, 1) := by decide +kernel
theorem d_S_add_14 : decode b_S_add 14 = .ok (.getfield 9, 3) := by decide +kernel
theorem d_S_add_17 : decode b_S_add 17 = .ok (.iload_n 1, 1) := by decide +kernel
theorem d_S_add_18 : decode b_S_add 18 = .ok (.baload, 1) := by decide +kernel
theorem d_S_add_19 : decode b_S_add 19 = .ok (.ifCond .ne 22, 3) := by decide +kernel
theorem d_S_add_22 : decode b_S_add 22 = .ok (.aload_n 0, 1) := by decide +kernel
theorem d_S_add_23 : decode b_S_add 23 = .ok (.getfield 19, 3) := by decide +kernel
theorem d_S_add_26 : decode b_S_add 26 = .ok (.ifCond .lt 15, 3) := by decide +kernel
theorem d_S_add_29 : decode b_S_add 29 = .ok (.aload_n 0, 1) := by decide +kernel
theorem d_S_add_30 : decode b_S_add 30 = .ok (.getfield 19, 3) := by decide +kernel
theorem d_S_add_33 : decode b_S_add 33 = .ok (.aload_n 0, 1) := by decide +kernel
theorem d_S_add_34 : decode b_S_add 34 = .ok (.getfield 15, 3) := by decide +kernel
theorem d_S_add_37 : decode b_S_add 37 = .ok (.arraylength, 1) := by decide +kernel
theorem d_S_add_38 : decode b_S_add 38 = .ok (.if_icmp .lt 4, 3) := by decide +kernel
theorem d_S_add_41 : decode b_S_add 41 = .ok (.return_, 1) := by decide +kernel
theorem d_S_add_42 : decode b_S_add 42 = .ok (.aload_n 0, 1) := by decide +kernel
theorem d_S_add_43 : decode b_S_add 43 = .ok (.getfield 9, 3) := by decide +kernel
theorem d_S_add_46 : decode b_S_add 46 = .ok (.iload_n 1, 1) := by decide +kernel
theorem d_S_add_47 : decode b_S_add 47 = .ok (.iconst 1, 1) := by decide +kernel
theorem d_S_add_48 : decode b_S_add 48 = .ok (.bastore, 1) := by decide +kernel
theorem d_S_add_49 : decode b_S_add 49 = .ok (.aload_n 0, 1) := by decide +kernel
theorem d_S_add_50 : decode b_S_add 50 = .ok (.getfield 15, 3) := by decide +kernel
theorem d_S_add_53 : decode b_S_add 53 = .ok (.aload_n 0, 1) := by decide +kernel
theorem d_S_add_54 : decode b_S_add 54 = .ok (.getfield 19, 3) := by decide +kernel
theorem d_S_add_57 : decode b_S_add 57 = .ok (.iload_n 1, 1) := by decide +kernel
theorem d_S_add_58 : decode b_S_add 58 = .ok (.iastore, 1) := by decide +kernel
theorem d_S_add_59 : decode b_S_add 59 = .ok (.aload_n 0, 1) := by decide +kernel
theorem d_S_add_60 : decode b_S_add 60 = .ok (.dup, 1) := by decide +kernel
theorem d_S_add_61 : decode b_S_add 61 = .ok (.getfield 19, 3) := by decide +kernel
theorem d_S_add_64 : decode b_S_add 64 = .ok (.iconst 1, 1) := by decide +kernel
theorem d_S_add_65 : decode b_S_add 65 = .ok (.iadd, 1) := by decide +kernel
theorem d_S_add_66 : decode b_S_add 66 = .ok (.putfield 19, 3) := by decide +kernel
theorem d_S_add_69 : decode b_S_add 69 = .ok (.return_, 1) := by decide +kernel
theorem d_S_has_0 : decode b_S_has 0 = .ok (.iload_n 1, 1) := by decide +kernel
theorem d_S_has_1 : decode b_S_has 1 = .ok (.ifCond .lt 25, 3) := by decide +kernel
theorem d_S_has_4 : decode b_S_has 4 = .ok (.iload_n 1, 1) := by decide +kernel
theorem d_S_has_5 : decode b_S_has 5 = .ok (.aload_n 0, 1) := by decide +kernel
theorem d_S_has_6 : decode b_S_has 6 = .ok (.getfield 9, 3) := by decide +kernel
theorem d_S_has_9 : decode b_S_has 9 = .ok (.arraylength, 1) := by decide +kernel
theorem d_S_has_10 : decode b_S_has 10 = .ok (.if_icmp .ge 16, 3) := by decide +kernel
theorem d_S_has_13 : decode b_S_has 13 = .ok (.aload_n 0, 1) := by decide +kernel
theorem d_S_has_14 : decode b_S_has 14 = .ok (.getfield 9, 3) := by decide +kernel
theorem d_S_has_17 : decode b_S_has 17 = .ok (.iload_n 1, 1) := by decide +kernel
theorem d_S_has_18 : decode b_S_has 18 = .ok (.baload, 1) := by decide +kernel
theorem d_S_has_19 : decode b_S_has 19 = .ok (.ifCond .eq 7, 3) := by decide +kernel
theorem d_S_has_22 : decode b_S_has 22 = .ok (.iconst 1, 1) := by decide +kernel
theorem d_S_has_23 : decode b_S_has 23 = .ok (.goto 4, 3) := by decide +kernel
theorem d_S_has_26 : decode b_S_has 26 = .ok (.iconst 0, 1) := by decide +kernel
theorem d_S_has_27 : decode b_S_has 27 = .ok (.ireturn, 1) := by decide +kernel
theorem d_S_at_0 : decode b_S_at 0 = .ok (.iload_n 1, 1) := by decide +kernel
theorem d_S_at_1 : decode b_S_at 1 = .ok (.ifCond .lt 29, 3) := by decide +kernel
theorem d_S_at_4 : decode b_S_at 4 = .ok (.iload_n 1, 1) := by decide +kernel
theorem d_S_at_5 : decode b_S_at 5 = .ok (.aload_n 0, 1) := by decide +kernel
theorem d_S_at_6 : decode b_S_at 6 = .ok (.getfield 19, 3) := by decide +kernel
theorem d_S_at_9 : decode b_S_at 9 = .ok (.if_icmp .ge 21, 3) := by decide +kernel
theorem d_S_at_12 : decode b_S_at 12 = .ok (.iload_n 1, 1) := by decide +kernel
theorem d_S_at_13 : decode b_S_at 13 = .ok (.aload_n 0, 1) := by decide +kernel
theorem d_S_at_14 : decode b_S_at 14 = .ok (.getfield 15, 3) := by decide +kernel
theorem d_S_at_17 : decode b_S_at 17 = .ok (.arraylength, 1) := by decide +kernel
theorem d_S_at_18 : decode b_S_at 18 = .ok (.if_icmp .ge 12, 3) := by decide +kernel
theorem d_S_at_21 : decode b_S_at 21 = .ok (.aload_n 0, 1) := by decide +kernel
theorem d_S_at_22 : decode b_S_at 22 = .ok (.getfield 15, 3) := by decide +kernel
theorem d_S_at_25 : decode b_S_at 25 = .ok (.iload_n 1, 1) := by decide +kernel
theorem d_S_at_26 : decode b_S_at 26 = .ok (.iaload, 1) := by decide +kernel
theorem d_S_at_27 : decode b_S_at 27 = .ok (.goto 4, 3) := by decide +kernel
theorem d_S_at_30 : decode b_S_at 30 = .ok (.iconst (-1), 1) := by decide +kernel
theorem d_S_at_31 : decode b_S_at 31 = .ok (.ireturn, 1) := by decide +kernel
