/-! Decode rows. -/
theorem d_M_init_0 : decode b_M_init 0 = .ok (.aload_n 0, 1) := by decide +kernel
theorem d_M_init_1 : decode b_M_init 1 = .ok (.invokespecial 1, 3) := by decide +kernel
theorem d_M_init_4 : decode b_M_init 4 = .ok (.aload_n 0, 1) := by decide +kernel
theorem d_M_init_5 : decode b_M_init 5 = .ok (.sipush 300, 3) := by decide +kernel
theorem d_M_init_8 : decode b_M_init 8 = .ok (.newarray .boolean, 2) := by decide +kernel
theorem d_M_init_10 : decode b_M_init 10 = .ok (.putfield 7, 3) := by decide +kernel
theorem d_M_init_13 : decode b_M_init 13 = .ok (.aload_n 0, 1) := by decide +kernel
theorem d_M_init_14 : decode b_M_init 14 = .ok (.sipush 300, 3) := by decide +kernel
theorem d_M_init_17 : decode b_M_init 17 = .ok (.newarray .int, 2) := by decide +kernel
theorem d_M_init_19 : decode b_M_init 19 = .ok (.putfield 13, 3) := by decide +kernel
theorem d_M_init_22 : decode b_M_init 22 = .ok (.aload_n 0, 1) := by decide +kernel
theorem d_M_init_23 : decode b_M_init 23 = .ok (.sipush 300, 3) := by decide +kernel
theorem d_M_init_26 : decode b_M_init 26 = .ok (.newarray .int, 2) := by decide +kernel
theorem d_M_init_28 : decode b_M_init 28 = .ok (.putfield 17, 3) := by decide +kernel
theorem d_M_init_31 : decode b_M_init 31 = .ok (.aload_n 0, 1) := by decide +kernel
theorem d_M_init_32 : decode b_M_init 32 = .ok (.sipush 3600, 3) := by decide +kernel
theorem d_M_init_35 : decode b_M_init 35 = .ok (.newarray .int, 2) := by decide +kernel
theorem d_M_init_37 : decode b_M_init 37 = .ok (.putfield 20, 3) := by decide +kernel
theorem d_M_init_40 : decode b_M_init 40 = .ok (.aload_n 0, 1) := by decide +kernel
theorem d_M_init_41 : decode b_M_init 41 = .ok (.sipush 300, 3) := by decide +kernel
theorem d_M_init_44 : decode b_M_init 44 = .ok (.newarray .int, 2) := by decide +kernel
theorem d_M_init_46 : decode b_M_init 46 = .ok (.putfield 23, 3) := by decide +kernel
theorem d_M_init_49 : decode b_M_init 49 = .ok (.aload_n 0, 1) := by decide +kernel
theorem d_M_init_50 : decode b_M_init 50 = .ok (.sipush 300, 3) := by decide +kernel
theorem d_M_init_53 : decode b_M_init 53 = .ok (.newarray .boolean, 2) := by decide +kernel
theorem d_M_init_55 : decode b_M_init 55 = .ok (.putfield 26, 3) := by decide +kernel
theorem d_M_init_58 : decode b_M_init 58 = .ok (.aload_n 0, 1) := by decide +kernel
theorem d_M_init_59 : decode b_M_init 59 = .ok (.bipush 16, 2) := by decide +kernel
theorem d_M_init_61 : decode b_M_init 61 = .ok (.newarray .int, 2) := by decide +kernel
theorem d_M_init_63 : decode b_M_init 63 = .ok (.putfield 29, 3) := by decide +kernel
theorem d_M_init_66 : decode b_M_init 66 = .ok (.aload_n 0, 1) := by decide +kernel
theorem d_M_init_67 : decode b_M_init 67 = .ok (.sipush 300, 3) := by decide +kernel
theorem d_M_init_70 : decode b_M_init 70 = .ok (.newarray .int, 2) := by decide +kernel
theorem d_M_init_72 : decode b_M_init 72 = .ok (.putfield 32, 3) := by decide +kernel
theorem d_M_init_75 : decode b_M_init 75 = .ok (.aload_n 0, 1) := by decide +kernel
theorem d_M_init_76 : decode b_M_init 76 = .ok (.sipush 300, 3) := by decide +kernel
theorem d_M_init_79 : decode b_M_init 79 = .ok (.newarray .boolean, 2) := by decide +kernel
theorem d_M_init_81 : decode b_M_init 81 = .ok (.putfield 35, 3) := by decide +kernel
theorem d_M_init_84 : decode b_M_init 84 = .ok (.aload_n 0, 1) := by decide +kernel
theorem d_M_init_85 : decode b_M_init 85 = .ok (.sipush 300, 3) := by decide +kernel
theorem d_M_init_88 : decode b_M_init 88 = .ok (.newarray .boolean, 2) := by decide +kernel
theorem d_M_init_90 : decode b_M_init 90 = .ok (.putfield 38, 3) := by decide +kernel
theorem d_M_init_93 : decode b_M_init 93 = .ok (.return_, 1) := by decide +kernel
theorem d_M_thrown_0 : decode b_M_thrown 0 = .ok (.aload_n 0, 1) := by decide +kernel
theorem d_M_thrown_1 : decode b_M_thrown 1 = .ok (.getfield 41, 3) := by decide +kernel
theorem d_M_thrown_4 : decode b_M_thrown 4 = .ok (.ireturn, 1) := by decide +kernel
theorem d_M_goes_0 : decode b_M_goes 0 = .ok (.aload_n 0, 1) := by decide +kernel
theorem d_M_goes_1 : decode b_M_goes 1 = .ok (.iload_n 1, 1) := by decide +kernel
theorem d_M_goes_2 : decode b_M_goes 2 = .ok (.ifCond .ne 7, 3) := by decide +kernel
theorem d_M_goes_5 : decode b_M_goes 5 = .ok (.iconst 1, 1) := by decide +kernel
theorem d_M_goes_6 : decode b_M_goes 6 = .ok (.goto 12, 3) := by decide +kernel
theorem d_M_goes_9 : decode b_M_goes 9 = .ok (.iload_n 2, 1) := by decide +kernel
theorem d_M_goes_10 : decode b_M_goes 10 = .ok (.ifCond .ne 7, 3) := by decide +kernel
theorem d_M_goes_13 : decode b_M_goes 13 = .ok (.iconst 2, 1) := by decide +kernel
theorem d_M_goes_14 : decode b_M_goes 14 = .ok (.goto 4, 3) := by decide +kernel
theorem d_M_goes_17 : decode b_M_goes 17 = .ok (.iconst 0, 1) := by decide +kernel
theorem d_M_goes_18 : decode b_M_goes 18 = .ok (.putfield 41, 3) := by decide +kernel
theorem d_M_goes_21 : decode b_M_goes 21 = .ok (.aload_n 0, 1) := by decide +kernel
theorem d_M_goes_22 : decode b_M_goes 22 = .ok (.getfield 41, 3) := by decide +kernel
theorem d_M_goes_25 : decode b_M_goes 25 = .ok (.ifCond .ne 7, 3) := by decide +kernel
theorem d_M_goes_28 : decode b_M_goes 28 = .ok (.iconst 1, 1) := by decide +kernel
theorem d_M_goes_29 : decode b_M_goes 29 = .ok (.goto 4, 3) := by decide +kernel
theorem d_M_goes_32 : decode b_M_goes 32 = .ok (.iconst 0, 1) := by decide +kernel
theorem d_M_goes_33 : decode b_M_goes 33 = .ok (.ireturn, 1) := by decide +kernel
theorem d_M_isThere_0 : decode b_M_isThere 0 = .ok (.iload_n 1, 1) := by decide +kernel
theorem d_M_isThere_1 : decode b_M_isThere 1 = .ok (.ifCond .lt 24, 3) := by decide +kernel
theorem d_M_isThere_4 : decode b_M_isThere 4 = .ok (.iload_n 1, 1) := by decide +kernel
theorem d_M_isThere_5 : decode b_M_isThere 5 = .ok (.aload_n 0, 1) := by decide +kernel
theorem d_M_isThere_6 : decode b_M_isThere 6 = .ok (.getfield 45, 3) := by decide +kernel
theorem d_M_isThere_9 : decode b_M_isThere 9 = .ok (.if_icmp .ge 16, 3) := by decide +kernel
theorem d_M_isThere_12 : decode b_M_isThere 12 = .ok (.aload_n 0, 1) := by decide +kernel
theorem d_M_isThere_13 : decode b_M_isThere 13 = .ok (.getfield 7, 3) := by decide +kernel
theorem d_M_isThere_16 : decode b_M_isThere 16 = .ok (.iload_n 1, 1) := by decide +kernel
theorem d_M_isThere_17 : decode b_M_isThere 17 = .ok (.baload, 1) := by decide +kernel
theorem d_M_isThere_18 : decode b_M_isThere 18 = .ok (.ifCond .eq 7, 3) := by decide +kernel
theorem d_M_isThere_21 : decode b_M_isThere 21 = .ok (.iconst 1, 1) := by decide +kernel
theorem d_M_isThere_22 : decode b_M_isThere 22 = .ok (.goto 4, 3) := by decide +kernel
theorem d_M_isThere_25 : decode b_M_isThere 25 = .ok (.iconst 0, 1) := by decide +kernel
theorem d_M_isThere_26 : decode b_M_isThere 26 = .ok (.ireturn, 1) := by decide +kernel
theorem d_M_isOrNone_0 : decode b_M_isOrNone 0 = .ok (.iload_n 1, 1) := by decide +kernel
theorem d_M_isOrNone_1 : decode b_M_isOrNone 1 = .ok (.iconst (-1), 1) := by decide +kernel
theorem d_M_isOrNone_2 : decode b_M_isOrNone 2 = .ok (.if_icmp .eq 11, 3) := by decide +kernel
theorem d_M_isOrNone_5 : decode b_M_isOrNone 5 = .ok (.aload_n 0, 1) := by decide +kernel
theorem d_M_isOrNone_6 : decode b_M_isOrNone 6 = .ok (.iload_n 1, 1) := by decide +kernel
theorem d_M_isOrNone_7 : decode b_M_isOrNone 7 = .ok (.invokevirtual 48, 3) := by decide +kernel
theorem d_M_isOrNone_10 : decode b_M_isOrNone 10 = .ok (.ifCond .eq 7, 3) := by decide +kernel
theorem d_M_isOrNone_13 : decode b_M_isOrNone 13 = .ok (.iconst 1, 1) := by decide +kernel
theorem d_M_isOrNone_14 : decode b_M_isOrNone 14 = .ok (.goto 4, 3) := by decide +kernel
theorem d_M_isOrNone_17 : decode b_M_isOrNone 17 = .ok (.iconst 0, 1) := by decide +kernel
theorem d_M_isOrNone_18 : decode b_M_isOrNone 18 = .ok (.ireturn, 1) := by decide +kernel
theorem d_M_isField_0 : decode b_M_isField 0 = .ok (.aload_n 0, 1) := by decide +kernel
theorem d_M_isField_1 : decode b_M_isField 1 = .ok (.iload_n 1, 1) := by decide +kernel
theorem d_M_isField_2 : decode b_M_isField 2 = .ok (.invokevirtual 48, 3) := by decide +kernel
theorem d_M_isField_5 : decode b_M_isField 5 = .ok (.ifCond .eq 21, 3) := by decide +kernel
theorem d_M_isField_8 : decode b_M_isField 8 = .ok (.iload_n 2, 1) := by decide +kernel
theorem d_M_isField_9 : decode b_M_isField 9 = .ok (.ifCond .lt 17, 3) := by decide +kernel
theorem d_M_isField_12 : decode b_M_isField 12 = .ok (.iload_n 2, 1) := by decide +kernel
theorem d_M_isField_13 : decode b_M_isField 13 = .ok (.aload_n 0, 1) := by decide +kernel
theorem d_M_isField_14 : decode b_M_isField 14 = .ok (.getfield 17, 3) := by decide +kernel
theorem d_M_isField_17 : decode b_M_isField 17 = .ok (.iload_n 1, 1) := by decide +kernel
theorem d_M_isField_18 : decode b_M_isField 18 = .ok (.iaload, 1) := by decide +kernel
theorem d_M_isField_19 : decode b_M_isField 19 = .ok (.if_icmp .ge 7, 3) := by decide +kernel
theorem d_M_isField_22 : decode b_M_isField 22 = .ok (.iconst 1, 1) := by decide +kernel
theorem d_M_isField_23 : decode b_M_isField 23 = .ok (.goto 4, 3) := by decide +kernel
theorem d_M_isField_26 : decode b_M_isField 26 = .ok (.iconst 0, 1) := by decide +kernel
theorem d_M_isField_27 : decode b_M_isField 27 = .ok (.ireturn, 1) := by decide +kernel
theorem d_M_make_0 : decode b_M_make 0 = .ok (.aload_n 0, 1) := by decide +kernel
theorem d_M_make_1 : decode b_M_make 1 = .ok (.iload_n 1, 1) := by decide +kernel
theorem d_M_make_2 : decode b_M_make 2 = .ok (.ifCond .lt 31, 3) := by decide +kernel
theorem d_M_make_5 : decode b_M_make 5 = .ok (.iload_n 1, 1) := by decide +kernel
theorem d_M_make_6 : decode b_M_make 6 = .ok (.iconst 2, 1) := by decide +kernel
theorem d_M_make_7 : decode b_M_make 7 = .ok (.if_icmp .gt 26, 3) := by decide +kernel
theorem d_M_make_10 : decode b_M_make 10 = .ok (.iload_n 2, 1) := by decide +kernel
theorem d_M_make_11 : decode b_M_make 11 = .ok (.ifCond .lt 22, 3) := by decide +kernel
theorem d_M_make_14 : decode b_M_make 14 = .ok (.iload_n 2, 1) := by decide +kernel
theorem d_M_make_15 : decode b_M_make 15 = .ok (.bipush 12, 2) := by decide +kernel
theorem d_M_make_17 : decode b_M_make 17 = .ok (.if_icmp .gt 16, 3) := by decide +kernel
theorem d_M_make_20 : decode b_M_make 20 = .ok (.iload_n 1, 1) := by decide +kernel
theorem d_M_make_21 : decode b_M_make 21 = .ok (.iconst 1, 1) := by decide +kernel
theorem d_M_make_22 : decode b_M_make 22 = .ok (.if_icmp .ne 7, 3) := by decide +kernel
theorem d_M_make_25 : decode b_M_make 25 = .ok (.iload_n 2, 1) := by decide +kernel
theorem d_M_make_26 : decode b_M_make 26 = .ok (.ifCond .le 7, 3) := by decide +kernel
theorem d_M_make_29 : decode b_M_make 29 = .ok (.iconst 1, 1) := by decide +kernel
theorem d_M_make_30 : decode b_M_make 30 = .ok (.goto 4, 3) := by decide +kernel
theorem d_M_make_33 : decode b_M_make 33 = .ok (.iconst 0, 1) := by decide +kernel
theorem d_M_make_34 : decode b_M_make 34 = .ok (.aload_n 0, 1) := by decide +kernel
theorem d_M_make_35 : decode b_M_make 35 = .ok (.getfield 45, 3) := by decide +kernel
theorem d_M_make_38 : decode b_M_make 38 = .ok (.sipush 300, 3) := by decide +kernel
theorem d_M_make_41 : decode b_M_make 41 = .ok (.if_icmp .ge 7, 3) := by decide +kernel
theorem d_M_make_44 : decode b_M_make 44 = .ok (.iconst 1, 1) := by decide +kernel
theorem d_M_make_45 : decode b_M_make 45 = .ok (.goto 4, 3) := by decide +kernel
theorem d_M_make_48 : decode b_M_make 48 = .ok (.iconst 0, 1) := by decide +kernel
theorem d_M_make_49 : decode b_M_make 49 = .ok (.invokevirtual 52, 3) := by decide +kernel
theorem d_M_make_52 : decode b_M_make 52 = .ok (.ifCond .ne 5, 3) := by decide +kernel
theorem d_M_make_55 : decode b_M_make 55 = .ok (.iconst 0, 1) := by decide +kernel
theorem d_M_make_56 : decode b_M_make 56 = .ok (.ireturn, 1) := by decide +kernel
theorem d_M_make_57 : decode b_M_make 57 = .ok (.aload_n 0, 1) := by decide +kernel
theorem d_M_make_58 : decode b_M_make 58 = .ok (.getfield 7, 3) := by decide +kernel
theorem d_M_make_61 : decode b_M_make 61 = .ok (.aload_n 0, 1) := by decide +kernel
theorem d_M_make_62 : decode b_M_make 62 = .ok (.getfield 45, 3) := by decide +kernel
theorem d_M_make_65 : decode b_M_make 65 = .ok (.iconst 1, 1) := by decide +kernel
theorem d_M_make_66 : decode b_M_make 66 = .ok (.bastore, 1) := by decide +kernel
theorem d_M_make_67 : decode b_M_make 67 = .ok (.aload_n 0, 1) := by decide +kernel
theorem d_M_make_68 : decode b_M_make 68 = .ok (.getfield 13, 3) := by decide +kernel
theorem d_M_make_71 : decode b_M_make 71 = .ok (.aload_n 0, 1) := by decide +kernel
theorem d_M_make_72 : decode b_M_make 72 = .ok (.getfield 45, 3) := by decide +kernel
theorem d_M_make_75 : decode b_M_make 75 = .ok (.iload_n 1, 1) := by decide +kernel
theorem d_M_make_76 : decode b_M_make 76 = .ok (.iastore, 1) := by decide +kernel
theorem d_M_make_77 : decode b_M_make 77 = .ok (.aload_n 0, 1) := by decide +kernel
theorem d_M_make_78 : decode b_M_make 78 = .ok (.getfield 17, 3) := by decide +kernel
theorem d_M_make_81 : decode b_M_make 81 = .ok (.aload_n 0, 1) := by decide +kernel
theorem d_M_make_82 : decode b_M_make 82 = .ok (.getfield 45, 3) := by decide +kernel
theorem d_M_make_85 : decode b_M_make 85 = .ok (.iload_n 2, 1) := by decide +kernel
theorem d_M_make_86 : decode b_M_make 86 = .ok (.iastore, 1) := by decide +kernel
theorem d_M_make_87 : decode b_M_make 87 = .ok (.aload_n 0, 1) := by decide +kernel
theorem d_M_make_88 : decode b_M_make 88 = .ok (.dup, 1) := by decide +kernel
theorem d_M_make_89 : decode b_M_make 89 = .ok (.getfield 45, 3) := by decide +kernel
theorem d_M_make_92 : decode b_M_make 92 = .ok (.iconst 1, 1) := by decide +kernel
theorem d_M_make_93 : decode b_M_make 93 = .ok (.iadd, 1) := by decide +kernel
theorem d_M_make_94 : decode b_M_make 94 = .ok (.putfield 45, 3) := by decide +kernel
theorem d_M_make_97 : decode b_M_make 97 = .ok (.aload_n 0, 1) := by decide +kernel
theorem d_M_make_98 : decode b_M_make 98 = .ok (.getfield 45, 3) := by decide +kernel
theorem d_M_make_101 : decode b_M_make 101 = .ok (.iconst 1, 1) := by decide +kernel
theorem d_M_make_102 : decode b_M_make 102 = .ok (.isub, 1) := by decide +kernel
theorem d_M_make_103 : decode b_M_make 103 = .ok (.ireturn, 1) := by decide +kernel
theorem d_M_set_0 : decode b_M_set 0 = .ok (.aload_n 0, 1) := by decide +kernel
theorem d_M_set_1 : decode b_M_set 1 = .ok (.aload_n 0, 1) := by decide +kernel
theorem d_M_set_2 : decode b_M_set 2 = .ok (.iload_n 1, 1) := by decide +kernel
theorem d_M_set_3 : decode b_M_set 3 = .ok (.iload_n 2, 1) := by decide +kernel
theorem d_M_set_4 : decode b_M_set 4 = .ok (.invokevirtual 56, 3) := by decide +kernel
theorem d_M_set_7 : decode b_M_set 7 = .ok (.ifCond .eq 15, 3) := by decide +kernel
theorem d_M_set_10 : decode b_M_set 10 = .ok (.aload_n 0, 1) := by decide +kernel
theorem d_M_set_11 : decode b_M_set 11 = .ok (.iload_n 3, 1) := by decide +kernel
theorem d_M_set_12 : decode b_M_set 12 = .ok (.invokevirtual 60, 3) := by decide +kernel
theorem d_M_set_15 : decode b_M_set 15 = .ok (.ifCond .eq 7, 3) := by decide +kernel
theorem d_M_set_18 : decode b_M_set 18 = .ok (.iconst 1, 1) := by decide +kernel
theorem d_M_set_19 : decode b_M_set 19 = .ok (.goto 4, 3) := by decide +kernel
theorem d_M_set_22 : decode b_M_set 22 = .ok (.iconst 0, 1) := by decide +kernel
theorem d_M_set_23 : decode b_M_set 23 = .ok (.iconst 1, 1) := by decide +kernel
theorem d_M_set_24 : decode b_M_set 24 = .ok (.invokevirtual 52, 3) := by decide +kernel
theorem d_M_set_27 : decode b_M_set 27 = .ok (.ifCond .ne 5, 3) := by decide +kernel
theorem d_M_set_30 : decode b_M_set 30 = .ok (.iconst 0, 1) := by decide +kernel
theorem d_M_set_31 : decode b_M_set 31 = .ok (.ireturn, 1) := by decide +kernel
theorem d_M_set_32 : decode b_M_set 32 = .ok (.aload_n 0, 1) := by decide +kernel
theorem d_M_set_33 : decode b_M_set 33 = .ok (.getfield 20, 3) := by decide +kernel
theorem d_M_set_36 : decode b_M_set 36 = .ok (.bipush 12, 2) := by decide +kernel
theorem d_M_set_38 : decode b_M_set 38 = .ok (.iload_n 1, 1) := by decide +kernel
theorem d_M_set_39 : decode b_M_set 39 = .ok (.imul, 1) := by decide +kernel
theorem d_M_set_40 : decode b_M_set 40 = .ok (.iload_n 2, 1) := by decide +kernel
theorem d_M_set_41 : decode b_M_set 41 = .ok (.iadd, 1) := by decide +kernel
theorem d_M_set_42 : decode b_M_set 42 = .ok (.iaload, 1) := by decide +kernel
theorem d_M_set_43 : decode b_M_set 43 = .ok (.istore 4, 2) := by decide +kernel
theorem d_M_set_45 : decode b_M_set 45 = .ok (.aload_n 0, 1) := by decide +kernel
theorem d_M_set_46 : decode b_M_set 46 = .ok (.getfield 20, 3) := by decide +kernel
theorem d_M_set_49 : decode b_M_set 49 = .ok (.bipush 12, 2) := by decide +kernel
theorem d_M_set_51 : decode b_M_set 51 = .ok (.iload_n 1, 1) := by decide +kernel
theorem d_M_set_52 : decode b_M_set 52 = .ok (.imul, 1) := by decide +kernel
theorem d_M_set_53 : decode b_M_set 53 = .ok (.iload_n 2, 1) := by decide +kernel
theorem d_M_set_54 : decode b_M_set 54 = .ok (.iadd, 1) := by decide +kernel
theorem d_M_set_55 : decode b_M_set 55 = .ok (.iload_n 3, 1) := by decide +kernel
theorem d_M_set_56 : decode b_M_set 56 = .ok (.iconst 1, 1) := by decide +kernel
theorem d_M_set_57 : decode b_M_set 57 = .ok (.iadd, 1) := by decide +kernel
theorem d_M_set_58 : decode b_M_set 58 = .ok (.iastore, 1) := by decide +kernel
theorem d_M_set_59 : decode b_M_set 59 = .ok (.iload 4, 2) := by decide +kernel
theorem d_M_set_61 : decode b_M_set 61 = .ok (.iconst 1, 1) := by decide +kernel
theorem d_M_set_62 : decode b_M_set 62 = .ok (.isub, 1) := by decide +kernel
theorem d_M_set_63 : decode b_M_set 63 = .ok (.ireturn, 1) := by decide +kernel
theorem d_M_get_0 : decode b_M_get 0 = .ok (.aload_n 0, 1) := by decide +kernel
theorem d_M_get_1 : decode b_M_get 1 = .ok (.aload_n 0, 1) := by decide +kernel
theorem d_M_get_2 : decode b_M_get 2 = .ok (.iload_n 1, 1) := by decide +kernel
theorem d_M_get_3 : decode b_M_get 3 = .ok (.iload_n 2, 1) := by decide +kernel
theorem d_M_get_4 : decode b_M_get 4 = .ok (.invokevirtual 56, 3) := by decide +kernel
theorem d_M_get_7 : decode b_M_get 7 = .ok (.iconst 1, 1) := by decide +kernel
theorem d_M_get_8 : decode b_M_get 8 = .ok (.invokevirtual 52, 3) := by decide +kernel
theorem d_M_get_11 : decode b_M_get 11 = .ok (.ifCond .eq 19, 3) := by decide +kernel
theorem d_M_get_14 : decode b_M_get 14 = .ok (.aload_n 0, 1) := by decide +kernel
theorem d_M_get_15 : decode b_M_get 15 = .ok (.getfield 20, 3) := by decide +kernel
theorem d_M_get_18 : decode b_M_get 18 = .ok (.bipush 12, 2) := by decide +kernel
theorem d_M_get_20 : decode b_M_get 20 = .ok (.iload_n 1, 1) := by decide +kernel
theorem d_M_get_21 : decode b_M_get 21 = .ok (.imul, 1) := by decide +kernel
theorem d_M_get_22 : decode b_M_get 22 = .ok (.iload_n 2, 1) := by decide +kernel
theorem d_M_get_23 : decode b_M_get 23 = .ok (.iadd, 1) := by decide +kernel
theorem d_M_get_24 : decode b_M_get 24 = .ok (.iaload, 1) := by decide +kernel
theorem d_M_get_25 : decode b_M_get 25 = .ok (.iconst 1, 1) := by decide +kernel
theorem d_M_get_26 : decode b_M_get 26 = .ok (.isub, 1) := by decide +kernel
theorem d_M_get_27 : decode b_M_get 27 = .ok (.goto 4, 3) := by decide +kernel
theorem d_M_get_30 : decode b_M_get 30 = .ok (.iconst 0, 1) := by decide +kernel
theorem d_M_get_31 : decode b_M_get 31 = .ok (.ireturn, 1) := by decide +kernel
theorem d_M_root_0 : decode b_M_root 0 = .ok (.aload_n 0, 1) := by decide +kernel
theorem d_M_root_1 : decode b_M_root 1 = .ok (.iload_n 1, 1) := by decide +kernel
theorem d_M_root_2 : decode b_M_root 2 = .ok (.ifCond .lt 21, 3) := by decide +kernel
theorem d_M_root_5 : decode b_M_root 5 = .ok (.iload_n 1, 1) := by decide +kernel
theorem d_M_root_6 : decode b_M_root 6 = .ok (.bipush 16, 2) := by decide +kernel
theorem d_M_root_8 : decode b_M_root 8 = .ok (.if_icmp .ge 15, 3) := by decide +kernel
theorem d_M_root_11 : decode b_M_root 11 = .ok (.aload_n 0, 1) := by decide +kernel
theorem d_M_root_12 : decode b_M_root 12 = .ok (.iload_n 2, 1) := by decide +kernel
theorem d_M_root_13 : decode b_M_root 13 = .ok (.invokevirtual 60, 3) := by decide +kernel
theorem d_M_root_16 : decode b_M_root 16 = .ok (.ifCond .eq 7, 3) := by decide +kernel
theorem d_M_root_19 : decode b_M_root 19 = .ok (.iconst 1, 1) := by decide +kernel
theorem d_M_root_20 : decode b_M_root 20 = .ok (.goto 4, 3) := by decide +kernel
theorem d_M_root_23 : decode b_M_root 23 = .ok (.iconst 0, 1) := by decide +kernel
theorem d_M_root_24 : decode b_M_root 24 = .ok (.iconst 1, 1) := by decide +kernel
theorem d_M_root_25 : decode b_M_root 25 = .ok (.invokevirtual 52, 3) := by decide +kernel
theorem d_M_root_28 : decode b_M_root 28 = .ok (.ifCond .ne 5, 3) := by decide +kernel
theorem d_M_root_31 : decode b_M_root 31 = .ok (.iconst 0, 1) := by decide +kernel
theorem d_M_root_32 : decode b_M_root 32 = .ok (.ireturn, 1) := by decide +kernel
theorem d_M_root_33 : decode b_M_root 33 = .ok (.aload_n 0, 1) := by decide +kernel
theorem d_M_root_34 : decode b_M_root 34 = .ok (.getfield 29, 3) := by decide +kernel
theorem d_M_root_37 : decode b_M_root 37 = .ok (.iload_n 1, 1) := by decide +kernel
theorem d_M_root_38 : decode b_M_root 38 = .ok (.iaload, 1) := by decide +kernel
theorem d_M_root_39 : decode b_M_root 39 = .ok (.istore_n 3, 1) := by decide +kernel
theorem d_M_root_40 : decode b_M_root 40 = .ok (.aload_n 0, 1) := by decide +kernel
theorem d_M_root_41 : decode b_M_root 41 = .ok (.getfield 29, 3) := by decide +kernel
theorem d_M_root_44 : decode b_M_root 44 = .ok (.iload_n 1, 1) := by decide +kernel
theorem d_M_root_45 : decode b_M_root 45 = .ok (.iload_n 2, 1) := by decide +kernel
theorem d_M_root_46 : decode b_M_root 46 = .ok (.iconst 1, 1) := by decide +kernel
theorem d_M_root_47 : decode b_M_root 47 = .ok (.iadd, 1) := by decide +kernel
theorem d_M_root_48 : decode b_M_root 48 = .ok (.iastore, 1) := by decide +kernel
theorem d_M_root_49 : decode b_M_root 49 = .ok (.iload_n 3, 1) := by decide +kernel
theorem d_M_root_50 : decode b_M_root 50 = .ok (.iconst 1, 1) := by decide +kernel
theorem d_M_root_51 : decode b_M_root 51 = .ok (.isub, 1) := by decide +kernel
theorem d_M_root_52 : decode b_M_root 52 = .ok (.ireturn, 1) := by decide +kernel
theorem d_M_find_0 : decode b_M_find 0 = .ok (.iconst 0, 1) := by decide +kernel
theorem d_M_find_1 : decode b_M_find 1 = .ok (.istore_n 2, 1) := by decide +kernel
theorem d_M_find_2 : decode b_M_find 2 = .ok (.iload_n 2, 1) := by decide +kernel
theorem d_M_find_3 : decode b_M_find 3 = .ok (.aload_n 0, 1) := by decide +kernel
theorem d_M_find_4 : decode b_M_find 4 = .ok (.getfield 45, 3) := by decide +kernel
theorem d_M_find_7 : decode b_M_find 7 = .ok (.if_icmp .ge 52, 3) := by decide +kernel
theorem d_M_find_10 : decode b_M_find 10 = .ok (.aload_n 0, 1) := by decide +kernel
theorem d_M_find_11 : decode b_M_find 11 = .ok (.getfield 35, 3) := by decide +kernel
theorem d_M_find_14 : decode b_M_find 14 = .ok (.iload_n 2, 1) := by decide +kernel
theorem d_M_find_15 : decode b_M_find 15 = .ok (.iload_n 1, 1) := by decide +kernel
theorem d_M_find_16 : decode b_M_find 16 = .ok (.ifCond .eq 35, 3) := by decide +kernel
theorem d_M_find_19 : decode b_M_find 19 = .ok (.aload_n 0, 1) := by decide +kernel
theorem d_M_find_20 : decode b_M_find 20 = .ok (.getfield 7, 3) := by decide +kernel
theorem d_M_find_23 : decode b_M_find 23 = .ok (.iload_n 2, 1) := by decide +kernel
theorem d_M_find_24 : decode b_M_find 24 = .ok (.baload, 1) := by decide +kernel
theorem d_M_find_25 : decode b_M_find 25 = .ok (.ifCond .eq 26, 3) := by decide +kernel
theorem d_M_find_28 : decode b_M_find 28 = .ok (.aload_n 0, 1) := by decide +kernel
theorem d_M_find_29 : decode b_M_find 29 = .ok (.getfield 13, 3) := by decide +kernel
theorem d_M_find_32 : decode b_M_find 32 = .ok (.iload_n 2, 1) := by decide +kernel
theorem d_M_find_33 : decode b_M_find 33 = .ok (.iaload, 1) := by decide +kernel
theorem d_M_find_34 : decode b_M_find 34 = .ok (.iconst 2, 1) := by decide +kernel
theorem d_M_find_35 : decode b_M_find 35 = .ok (.if_icmp .ne 16, 3) := by decide +kernel
theorem d_M_find_38 : decode b_M_find 38 = .ok (.aload_n 0, 1) := by decide +kernel
theorem d_M_find_39 : decode b_M_find 39 = .ok (.getfield 26, 3) := by decide +kernel
theorem d_M_find_42 : decode b_M_find 42 = .ok (.iload_n 2, 1) := by decide +kernel
theorem d_M_find_43 : decode b_M_find 43 = .ok (.baload, 1) := by decide +kernel
theorem d_M_find_44 : decode b_M_find 44 = .ok (.ifCond .ne 7, 3) := by decide +kernel
theorem d_M_find_47 : decode b_M_find 47 = .ok (.iconst 1, 1) := by decide +kernel
theorem d_M_find_48 : decode b_M_find 48 = .ok (.goto 4, 3) := by decide +kernel
theorem d_M_find_51 : decode b_M_find 51 = .ok (.iconst 0, 1) := by decide +kernel
theorem d_M_find_52 : decode b_M_find 52 = .ok (.bastore, 1) := by decide +kernel
theorem d_M_find_53 : decode b_M_find 53 = .ok (.iinc 2 1, 3) := by decide +kernel
theorem d_M_find_56 : decode b_M_find 56 = .ok (.goto (-54), 3) := by decide +kernel
theorem d_M_find_59 : decode b_M_find 59 = .ok (.iconst 0, 1) := by decide +kernel
theorem d_M_find_60 : decode b_M_find 60 = .ok (.istore_n 2, 1) := by decide +kernel
theorem d_M_find_61 : decode b_M_find 61 = .ok (.iload_n 2, 1) := by decide +kernel
theorem d_M_find_62 : decode b_M_find 62 = .ok (.bipush 16, 2) := by decide +kernel
theorem d_M_find_64 : decode b_M_find 64 = .ok (.if_icmp .ge 32, 3) := by decide +kernel
theorem d_M_find_67 : decode b_M_find 67 = .ok (.aload_n 0, 1) := by decide +kernel
theorem d_M_find_68 : decode b_M_find 68 = .ok (.getfield 29, 3) := by decide +kernel
theorem d_M_find_71 : decode b_M_find 71 = .ok (.iload_n 2, 1) := by decide +kernel
theorem d_M_find_72 : decode b_M_find 72 = .ok (.iaload, 1) := by decide +kernel
theorem d_M_find_73 : decode b_M_find 73 = .ok (.ifCond .le 17, 3) := by decide +kernel
theorem d_M_find_76 : decode b_M_find 76 = .ok (.aload_n 0, 1) := by decide +kernel
theorem d_M_find_77 : decode b_M_find 77 = .ok (.getfield 35, 3) := by decide +kernel
theorem d_M_find_80 : decode b_M_find 80 = .ok (.aload_n 0, 1) := by decide +kernel
theorem d_M_find_81 : decode b_M_find 81 = .ok (.getfield 29, 3) := by decide +kernel
theorem d_M_find_84 : decode b_M_find 84 = .ok (.iload_n 2, 1) := by decide +kernel
theorem d_M_find_85 : decode b_M_find 85 = .ok (.iaload, 1) := by decide +kernel
theorem d_M_find_86 : decode b_M_find 86 = .ok (.iconst 1, 1) := by decide +kernel
theorem d_M_find_87 : decode b_M_find 87 = .ok (.isub, 1) := by decide +kernel
theorem d_M_find_88 : decode b_M_find 88 = .ok (.iconst 1, 1) := by decide +kernel
theorem d_M_find_89 : decode b_M_find 89 = .ok (.bastore, 1) := by decide +kernel
theorem d_M_find_90 : decode b_M_find 90 = .ok (.iinc 2 1, 3) := by decide +kernel
theorem d_M_find_93 : decode b_M_find 93 = .ok (.goto (-32), 3) := by decide +kernel
theorem d_M_find_96 : decode b_M_find 96 = .ok (.iconst 0, 1) := by decide +kernel
theorem d_M_find_97 : decode b_M_find 97 = .ok (.istore_n 2, 1) := by decide +kernel
theorem d_M_find_98 : decode b_M_find 98 = .ok (.iload_n 2, 1) := by decide +kernel
theorem d_M_find_99 : decode b_M_find 99 = .ok (.aload_n 0, 1) := by decide +kernel
theorem d_M_find_100 : decode b_M_find 100 = .ok (.getfield 63, 3) := by decide +kernel
theorem d_M_find_103 : decode b_M_find 103 = .ok (.if_icmp .ge 21, 3) := by decide +kernel
theorem d_M_find_106 : decode b_M_find 106 = .ok (.aload_n 0, 1) := by decide +kernel
theorem d_M_find_107 : decode b_M_find 107 = .ok (.getfield 35, 3) := by decide +kernel
theorem d_M_find_110 : decode b_M_find 110 = .ok (.aload_n 0, 1) := by decide +kernel
theorem d_M_find_111 : decode b_M_find 111 = .ok (.getfield 32, 3) := by decide +kernel
theorem d_M_find_114 : decode b_M_find 114 = .ok (.iload_n 2, 1) := by decide +kernel
theorem d_M_find_115 : decode b_M_find 115 = .ok (.iaload, 1) := by decide +kernel
theorem d_M_find_116 : decode b_M_find 116 = .ok (.iconst 1, 1) := by decide +kernel
theorem d_M_find_117 : decode b_M_find 117 = .ok (.bastore, 1) := by decide +kernel
theorem d_M_find_118 : decode b_M_find 118 = .ok (.iinc 2 1, 3) := by decide +kernel
theorem d_M_find_121 : decode b_M_find 121 = .ok (.goto (-23), 3) := by decide +kernel
theorem d_M_find_124 : decode b_M_find 124 = .ok (.iconst 1, 1) := by decide +kernel
theorem d_M_find_125 : decode b_M_find 125 = .ok (.istore_n 2, 1) := by decide +kernel
theorem d_M_find_126 : decode b_M_find 126 = .ok (.iload_n 2, 1) := by decide +kernel
theorem d_M_find_127 : decode b_M_find 127 = .ok (.ifCond .eq 112, 3) := by decide +kernel
theorem d_M_find_130 : decode b_M_find 130 = .ok (.iconst 0, 1) := by decide +kernel
theorem d_M_find_131 : decode b_M_find 131 = .ok (.istore_n 2, 1) := by decide +kernel
theorem d_M_find_132 : decode b_M_find 132 = .ok (.iconst 0, 1) := by decide +kernel
theorem d_M_find_133 : decode b_M_find 133 = .ok (.istore_n 3, 1) := by decide +kernel
theorem d_M_find_134 : decode b_M_find 134 = .ok (.iload_n 3, 1) := by decide +kernel
theorem d_M_find_135 : decode b_M_find 135 = .ok (.aload_n 0, 1) := by decide +kernel
theorem d_M_find_136 : decode b_M_find 136 = .ok (.getfield 45, 3) := by decide +kernel
theorem d_M_find_139 : decode b_M_find 139 = .ok (.if_icmp .ge 97, 3) := by decide +kernel
theorem d_M_find_142 : decode b_M_find 142 = .ok (.aload_n 0, 1) := by decide +kernel
theorem d_M_find_143 : decode b_M_find 143 = .ok (.getfield 13, 3) := by decide +kernel
theorem d_M_find_146 : decode b_M_find 146 = .ok (.iload_n 3, 1) := by decide +kernel
theorem d_M_find_147 : decode b_M_find 147 = .ok (.iaload, 1) := by decide +kernel
theorem d_M_find_148 : decode b_M_find 148 = .ok (.iconst 1, 1) := by decide +kernel
theorem d_M_find_149 : decode b_M_find 149 = .ok (.if_icmp .ne 11, 3) := by decide +kernel
theorem d_M_find_152 : decode b_M_find 152 = .ok (.iload_n 1, 1) := by decide +kernel
theorem d_M_find_153 : decode b_M_find 153 = .ok (.ifCond .ne 7, 3) := by decide +kernel
theorem d_M_find_156 : decode b_M_find 156 = .ok (.iconst 1, 1) := by decide +kernel
theorem d_M_find_157 : decode b_M_find 157 = .ok (.goto 4, 3) := by decide +kernel
theorem d_M_find_160 : decode b_M_find 160 = .ok (.iconst 0, 1) := by decide +kernel
theorem d_M_find_161 : decode b_M_find 161 = .ok (.istore 4, 2) := by decide +kernel
theorem d_M_find_163 : decode b_M_find 163 = .ok (.iload 4, 2) := by decide +kernel
theorem d_M_find_165 : decode b_M_find 165 = .ok (.aload_n 0, 1) := by decide +kernel
theorem d_M_find_166 : decode b_M_find 166 = .ok (.getfield 17, 3) := by decide +kernel
theorem d_M_find_169 : decode b_M_find 169 = .ok (.iload_n 3, 1) := by decide +kernel
theorem d_M_find_170 : decode b_M_find 170 = .ok (.iaload, 1) := by decide +kernel
theorem d_M_find_171 : decode b_M_find 171 = .ok (.if_icmp .ge 59, 3) := by decide +kernel
theorem d_M_find_174 : decode b_M_find 174 = .ok (.aload_n 0, 1) := by decide +kernel
theorem d_M_find_175 : decode b_M_find 175 = .ok (.getfield 35, 3) := by decide +kernel
theorem d_M_find_178 : decode b_M_find 178 = .ok (.iload_n 3, 1) := by decide +kernel
theorem d_M_find_179 : decode b_M_find 179 = .ok (.baload, 1) := by decide +kernel
theorem d_M_find_180 : decode b_M_find 180 = .ok (.ifCond .eq 50, 3) := by decide +kernel
theorem d_M_find_183 : decode b_M_find 183 = .ok (.aload_n 0, 1) := by decide +kernel
theorem d_M_find_184 : decode b_M_find 184 = .ok (.getfield 20, 3) := by decide +kernel
theorem d_M_find_187 : decode b_M_find 187 = .ok (.bipush 12, 2) := by decide +kernel
theorem d_M_find_189 : decode b_M_find 189 = .ok (.iload_n 3, 1) := by decide +kernel
theorem d_M_find_190 : decode b_M_find 190 = .ok (.imul, 1) := by decide +kernel
theorem d_M_find_191 : decode b_M_find 191 = .ok (.iload 4, 2) := by decide +kernel
theorem d_M_find_193 : decode b_M_find 193 = .ok (.iadd, 1) := by decide +kernel
theorem d_M_find_194 : decode b_M_find 194 = .ok (.iaload, 1) := by decide +kernel
theorem d_M_find_195 : decode b_M_find 195 = .ok (.iconst 1, 1) := by decide +kernel
theorem d_M_find_196 : decode b_M_find 196 = .ok (.isub, 1) := by decide +kernel
theorem d_M_find_197 : decode b_M_find 197 = .ok (.istore 5, 2) := by decide +kernel
theorem d_M_find_199 : decode b_M_find 199 = .ok (.iload 5, 2) := by decide +kernel
theorem d_M_find_201 : decode b_M_find 201 = .ok (.ifCond .lt 23, 3) := by decide +kernel
theorem d_M_find_204 : decode b_M_find 204 = .ok (.aload_n 0, 1) := by decide +kernel
theorem d_M_find_205 : decode b_M_find 205 = .ok (.getfield 35, 3) := by decide +kernel
theorem d_M_find_208 : decode b_M_find 208 = .ok (.iload 5, 2) := by decide +kernel
theorem d_M_find_210 : decode b_M_find 210 = .ok (.baload, 1) := by decide +kernel
theorem d_M_find_211 : decode b_M_find 211 = .ok (.ifCond .ne 13, 3) := by decide +kernel
theorem d_M_find_214 : decode b_M_find 214 = .ok (.aload_n 0, 1) := by decide +kernel
theorem d_M_find_215 : decode b_M_find 215 = .ok (.getfield 35, 3) := by decide +kernel
theorem d_M_find_218 : decode b_M_find 218 = .ok (.iload 5, 2) := by decide +kernel
theorem d_M_find_220 : decode b_M_find 220 = .ok (.iconst 1, 1) := by decide +kernel
theorem d_M_find_221 : decode b_M_find 221 = .ok (.bastore, 1) := by decide +kernel
theorem d_M_find_222 : decode b_M_find 222 = .ok (.iconst 1, 1) := by decide +kernel
theorem d_M_find_223 : decode b_M_find 223 = .ok (.istore_n 2, 1) := by decide +kernel
theorem d_M_find_224 : decode b_M_find 224 = .ok (.iinc 4 1, 3) := by decide +kernel
theorem d_M_find_227 : decode b_M_find 227 = .ok (.goto (-64), 3) := by decide +kernel
theorem d_M_find_230 : decode b_M_find 230 = .ok (.iinc 3 1, 3) := by decide +kernel
theorem d_M_find_233 : decode b_M_find 233 = .ok (.goto (-99), 3) := by decide +kernel
theorem d_M_find_236 : decode b_M_find 236 = .ok (.goto (-110), 3) := by decide +kernel
theorem d_M_find_239 : decode b_M_find 239 = .ok (.iconst 0, 1) := by decide +kernel
theorem d_M_find_240 : decode b_M_find 240 = .ok (.istore_n 3, 1) := by decide +kernel
theorem d_M_find_241 : decode b_M_find 241 = .ok (.iconst 0, 1) := by decide +kernel
theorem d_M_find_242 : decode b_M_find 242 = .ok (.istore 4, 2) := by decide +kernel
theorem d_M_find_244 : decode b_M_find 244 = .ok (.iload 4, 2) := by decide +kernel
theorem d_M_find_246 : decode b_M_find 246 = .ok (.aload_n 0, 1) := by decide +kernel
theorem d_M_find_247 : decode b_M_find 247 = .ok (.getfield 45, 3) := by decide +kernel
theorem d_M_find_250 : decode b_M_find 250 = .ok (.if_icmp .ge 27, 3) := by decide +kernel
theorem d_M_find_253 : decode b_M_find 253 = .ok (.aload_n 0, 1) := by decide +kernel
theorem d_M_find_254 : decode b_M_find 254 = .ok (.getfield 35, 3) := by decide +kernel
theorem d_M_find_257 : decode b_M_find 257 = .ok (.iload 4, 2) := by decide +kernel
theorem d_M_find_259 : decode b_M_find 259 = .ok (.baload, 1) := by decide +kernel
theorem d_M_find_260 : decode b_M_find 260 = .ok (.ifCond .eq 9, 3) := by decide +kernel
theorem d_M_find_263 : decode b_M_find 263 = .ok (.iload_n 3, 1) := by decide +kernel
theorem d_M_find_264 : decode b_M_find 264 = .ok (.iconst 1, 1) := by decide +kernel
theorem d_M_find_265 : decode b_M_find 265 = .ok (.iadd, 1) := by decide +kernel
theorem d_M_find_266 : decode b_M_find 266 = .ok (.goto 4, 3) := by decide +kernel
theorem d_M_find_269 : decode b_M_find 269 = .ok (.iload_n 3, 1) := by decide +kernel
theorem d_M_find_270 : decode b_M_find 270 = .ok (.istore_n 3, 1) := by decide +kernel
theorem d_M_find_271 : decode b_M_find 271 = .ok (.iinc 4 1, 3) := by decide +kernel
theorem d_M_find_274 : decode b_M_find 274 = .ok (.goto (-30), 3) := by decide +kernel
theorem d_M_find_277 : decode b_M_find 277 = .ok (.iload_n 3, 1) := by decide +kernel
theorem d_M_find_278 : decode b_M_find 278 = .ok (.ireturn, 1) := by decide +kernel
theorem d_M_clear_0 : decode b_M_clear 0 = .ok (.aload_n 0, 1) := by decide +kernel
theorem d_M_clear_1 : decode b_M_clear 1 = .ok (.iconst 0, 1) := by decide +kernel
theorem d_M_clear_2 : decode b_M_clear 2 = .ok (.putfield 41, 3) := by decide +kernel
theorem d_M_clear_5 : decode b_M_clear 5 = .ok (.aload_n 0, 1) := by decide +kernel
theorem d_M_clear_6 : decode b_M_clear 6 = .ok (.dup, 1) := by decide +kernel
theorem d_M_clear_7 : decode b_M_clear 7 = .ok (.getfield 66, 3) := by decide +kernel
theorem d_M_clear_10 : decode b_M_clear 10 = .ok (.iconst 1, 1) := by decide +kernel
theorem d_M_clear_11 : decode b_M_clear 11 = .ok (.iadd, 1) := by decide +kernel
theorem d_M_clear_12 : decode b_M_clear 12 = .ok (.putfield 66, 3) := by decide +kernel
theorem d_M_clear_15 : decode b_M_clear 15 = .ok (.aload_n 0, 1) := by decide +kernel
theorem d_M_clear_16 : decode b_M_clear 16 = .ok (.iconst 0, 1) := by decide +kernel
theorem d_M_clear_17 : decode b_M_clear 17 = .ok (.invokevirtual 69, 3) := by decide +kernel
theorem d_M_clear_20 : decode b_M_clear 20 = .ok (.istore_n 1, 1) := by decide +kernel
theorem d_M_clear_21 : decode b_M_clear 21 = .ok (.aload_n 0, 1) := by decide +kernel
theorem d_M_clear_22 : decode b_M_clear 22 = .ok (.getfield 63, 3) := by decide +kernel
theorem d_M_clear_25 : decode b_M_clear 25 = .ok (.istore_n 2, 1) := by decide +kernel
theorem d_M_clear_26 : decode b_M_clear 26 = .ok (.iconst 0, 1) := by decide +kernel
theorem d_M_clear_27 : decode b_M_clear 27 = .ok (.istore_n 3, 1) := by decide +kernel
theorem d_M_clear_28 : decode b_M_clear 28 = .ok (.iload_n 3, 1) := by decide +kernel
theorem d_M_clear_29 : decode b_M_clear 29 = .ok (.aload_n 0, 1) := by decide +kernel
theorem d_M_clear_30 : decode b_M_clear 30 = .ok (.getfield 45, 3) := by decide +kernel
theorem d_M_clear_33 : decode b_M_clear 33 = .ok (.if_icmp .ge 85, 3) := by decide +kernel
theorem d_M_clear_36 : decode b_M_clear 36 = .ok (.aload_n 0, 1) := by decide +kernel
theorem d_M_clear_37 : decode b_M_clear 37 = .ok (.getfield 38, 3) := by decide +kernel
theorem d_M_clear_40 : decode b_M_clear 40 = .ok (.iload_n 3, 1) := by decide +kernel
theorem d_M_clear_41 : decode b_M_clear 41 = .ok (.aload_n 0, 1) := by decide +kernel
theorem d_M_clear_42 : decode b_M_clear 42 = .ok (.getfield 35, 3) := by decide +kernel
theorem d_M_clear_45 : decode b_M_clear 45 = .ok (.iload_n 3, 1) := by decide +kernel
theorem d_M_clear_46 : decode b_M_clear 46 = .ok (.baload, 1) := by decide +kernel
theorem d_M_clear_47 : decode b_M_clear 47 = .ok (.bastore, 1) := by decide +kernel
theorem d_M_clear_48 : decode b_M_clear 48 = .ok (.aload_n 0, 1) := by decide +kernel
theorem d_M_clear_49 : decode b_M_clear 49 = .ok (.getfield 7, 3) := by decide +kernel
theorem d_M_clear_52 : decode b_M_clear 52 = .ok (.iload_n 3, 1) := by decide +kernel
theorem d_M_clear_53 : decode b_M_clear 53 = .ok (.baload, 1) := by decide +kernel
theorem d_M_clear_54 : decode b_M_clear 54 = .ok (.ifCond .eq 58, 3) := by decide +kernel
theorem d_M_clear_57 : decode b_M_clear 57 = .ok (.aload_n 0, 1) := by decide +kernel
theorem d_M_clear_58 : decode b_M_clear 58 = .ok (.getfield 13, 3) := by decide +kernel
theorem d_M_clear_61 : decode b_M_clear 61 = .ok (.iload_n 3, 1) := by decide +kernel
theorem d_M_clear_62 : decode b_M_clear 62 = .ok (.iaload, 1) := by decide +kernel
theorem d_M_clear_63 : decode b_M_clear 63 = .ok (.iconst 2, 1) := by decide +kernel
theorem d_M_clear_64 : decode b_M_clear 64 = .ok (.if_icmp .ne 48, 3) := by decide +kernel
theorem d_M_clear_67 : decode b_M_clear 67 = .ok (.aload_n 0, 1) := by decide +kernel
theorem d_M_clear_68 : decode b_M_clear 68 = .ok (.getfield 26, 3) := by decide +kernel
theorem d_M_clear_71 : decode b_M_clear 71 = .ok (.iload_n 3, 1) := by decide +kernel
theorem d_M_clear_72 : decode b_M_clear 72 = .ok (.baload, 1) := by decide +kernel
theorem d_M_clear_73 : decode b_M_clear 73 = .ok (.ifCond .ne 39, 3) := by decide +kernel
theorem d_M_clear_76 : decode b_M_clear 76 = .ok (.aload_n 0, 1) := by decide +kernel
theorem d_M_clear_77 : decode b_M_clear 77 = .ok (.getfield 35, 3) := by decide +kernel
theorem d_M_clear_80 : decode b_M_clear 80 = .ok (.iload_n 3, 1) := by decide +kernel
theorem d_M_clear_81 : decode b_M_clear 81 = .ok (.baload, 1) := by decide +kernel
theorem d_M_clear_82 : decode b_M_clear 82 = .ok (.ifCond .ne 30, 3) := by decide +kernel
theorem d_M_clear_85 : decode b_M_clear 85 = .ok (.aload_n 0, 1) := by decide +kernel
theorem d_M_clear_86 : decode b_M_clear 86 = .ok (.getfield 26, 3) := by decide +kernel
theorem d_M_clear_89 : decode b_M_clear 89 = .ok (.iload_n 3, 1) := by decide +kernel
theorem d_M_clear_90 : decode b_M_clear 90 = .ok (.iconst 1, 1) := by decide +kernel
theorem d_M_clear_91 : decode b_M_clear 91 = .ok (.bastore, 1) := by decide +kernel
theorem d_M_clear_92 : decode b_M_clear 92 = .ok (.aload_n 0, 1) := by decide +kernel
theorem d_M_clear_93 : decode b_M_clear 93 = .ok (.getfield 32, 3) := by decide +kernel
theorem d_M_clear_96 : decode b_M_clear 96 = .ok (.aload_n 0, 1) := by decide +kernel
theorem d_M_clear_97 : decode b_M_clear 97 = .ok (.getfield 63, 3) := by decide +kernel
theorem d_M_clear_100 : decode b_M_clear 100 = .ok (.iload_n 3, 1) := by decide +kernel
theorem d_M_clear_101 : decode b_M_clear 101 = .ok (.iastore, 1) := by decide +kernel
theorem d_M_clear_102 : decode b_M_clear 102 = .ok (.aload_n 0, 1) := by decide +kernel
theorem d_M_clear_103 : decode b_M_clear 103 = .ok (.dup, 1) := by decide +kernel
theorem d_M_clear_104 : decode b_M_clear 104 = .ok (.getfield 63, 3) := by decide +kernel
theorem d_M_clear_107 : decode b_M_clear 107 = .ok (.iconst 1, 1) := by decide +kernel
theorem d_M_clear_108 : decode b_M_clear 108 = .ok (.iadd, 1) := by decide +kernel
theorem d_M_clear_109 : decode b_M_clear 109 = .ok (.putfield 63, 3) := by decide +kernel
theorem d_M_clear_112 : decode b_M_clear 112 = .ok (.iinc 3 1, 3) := by decide +kernel
theorem d_M_clear_115 : decode b_M_clear 115 = .ok (.goto (-87), 3) := by decide +kernel
theorem d_M_clear_118 : decode b_M_clear 118 = .ok (.aload_n 0, 1) := by decide +kernel
theorem d_M_clear_119 : decode b_M_clear 119 = .ok (.iconst 0, 1) := by decide +kernel
theorem d_M_clear_120 : decode b_M_clear 120 = .ok (.invokevirtual 69, 3) := by decide +kernel
theorem d_M_clear_123 : decode b_M_clear 123 = .ok (.istore_n 3, 1) := by decide +kernel
theorem d_M_clear_124 : decode b_M_clear 124 = .ok (.iconst 0, 1) := by decide +kernel
theorem d_M_clear_125 : decode b_M_clear 125 = .ok (.istore 4, 2) := by decide +kernel
theorem d_M_clear_127 : decode b_M_clear 127 = .ok (.iload 4, 2) := by decide +kernel
theorem d_M_clear_129 : decode b_M_clear 129 = .ok (.aload_n 0, 1) := by decide +kernel
theorem d_M_clear_130 : decode b_M_clear 130 = .ok (.getfield 45, 3) := by decide +kernel
theorem d_M_clear_133 : decode b_M_clear 133 = .ok (.if_icmp .ge 96, 3) := by decide +kernel
theorem d_M_clear_136 : decode b_M_clear 136 = .ok (.aload_n 0, 1) := by decide +kernel
theorem d_M_clear_137 : decode b_M_clear 137 = .ok (.getfield 35, 3) := by decide +kernel
theorem d_M_clear_140 : decode b_M_clear 140 = .ok (.iload 4, 2) := by decide +kernel
theorem d_M_clear_142 : decode b_M_clear 142 = .ok (.baload, 1) := by decide +kernel
theorem d_M_clear_143 : decode b_M_clear 143 = .ok (.ifCond .eq 31, 3) := by decide +kernel
theorem d_M_clear_146 : decode b_M_clear 146 = .ok (.aload_n 0, 1) := by decide +kernel
theorem d_M_clear_147 : decode b_M_clear 147 = .ok (.getfield 13, 3) := by decide +kernel
theorem d_M_clear_150 : decode b_M_clear 150 = .ok (.iload 4, 2) := by decide +kernel
theorem d_M_clear_152 : decode b_M_clear 152 = .ok (.iaload, 1) := by decide +kernel
theorem d_M_clear_153 : decode b_M_clear 153 = .ok (.iconst 1, 1) := by decide +kernel
theorem d_M_clear_154 : decode b_M_clear 154 = .ok (.if_icmp .ne 20, 3) := by decide +kernel
theorem d_M_clear_157 : decode b_M_clear 157 = .ok (.aload_n 0, 1) := by decide +kernel
theorem d_M_clear_158 : decode b_M_clear 158 = .ok (.getfield 20, 3) := by decide +kernel
theorem d_M_clear_161 : decode b_M_clear 161 = .ok (.bipush 12, 2) := by decide +kernel
theorem d_M_clear_163 : decode b_M_clear 163 = .ok (.iload 4, 2) := by decide +kernel
theorem d_M_clear_165 : decode b_M_clear 165 = .ok (.imul, 1) := by decide +kernel
theorem d_M_clear_166 : decode b_M_clear 166 = .ok (.iaload, 1) := by decide +kernel
theorem d_M_clear_167 : decode b_M_clear 167 = .ok (.ifCond .le 7, 3) := by decide +kernel
theorem d_M_clear_170 : decode b_M_clear 170 = .ok (.iconst 1, 1) := by decide +kernel
theorem d_M_clear_171 : decode b_M_clear 171 = .ok (.goto 4, 3) := by decide +kernel
theorem d_M_clear_174 : decode b_M_clear 174 = .ok (.iconst 0, 1) := by decide +kernel
theorem d_M_clear_175 : decode b_M_clear 175 = .ok (.istore 5, 2) := by decide +kernel
theorem d_M_clear_177 : decode b_M_clear 177 = .ok (.iload 5, 2) := by decide +kernel
theorem d_M_clear_179 : decode b_M_clear 179 = .ok (.ifCond .eq 44, 3) := by decide +kernel
theorem d_M_clear_182 : decode b_M_clear 182 = .ok (.aload_n 0, 1) := by decide +kernel
theorem d_M_clear_183 : decode b_M_clear 183 = .ok (.getfield 38, 3) := by decide +kernel
theorem d_M_clear_186 : decode b_M_clear 186 = .ok (.aload_n 0, 1) := by decide +kernel
theorem d_M_clear_187 : decode b_M_clear 187 = .ok (.getfield 20, 3) := by decide +kernel
theorem d_M_clear_190 : decode b_M_clear 190 = .ok (.bipush 12, 2) := by decide +kernel
theorem d_M_clear_192 : decode b_M_clear 192 = .ok (.iload 4, 2) := by decide +kernel
theorem d_M_clear_194 : decode b_M_clear 194 = .ok (.imul, 1) := by decide +kernel
theorem d_M_clear_195 : decode b_M_clear 195 = .ok (.iaload, 1) := by decide +kernel
theorem d_M_clear_196 : decode b_M_clear 196 = .ok (.iconst 1, 1) := by decide +kernel
theorem d_M_clear_197 : decode b_M_clear 197 = .ok (.isub, 1) := by decide +kernel
theorem d_M_clear_198 : decode b_M_clear 198 = .ok (.baload, 1) := by decide +kernel
theorem d_M_clear_199 : decode b_M_clear 199 = .ok (.ifCond .ne 24, 3) := by decide +kernel
theorem d_M_clear_202 : decode b_M_clear 202 = .ok (.aload_n 0, 1) := by decide +kernel
theorem d_M_clear_203 : decode b_M_clear 203 = .ok (.getfield 20, 3) := by decide +kernel
theorem d_M_clear_206 : decode b_M_clear 206 = .ok (.bipush 12, 2) := by decide +kernel
theorem d_M_clear_208 : decode b_M_clear 208 = .ok (.iload 4, 2) := by decide +kernel
theorem d_M_clear_210 : decode b_M_clear 210 = .ok (.imul, 1) := by decide +kernel
theorem d_M_clear_211 : decode b_M_clear 211 = .ok (.iconst 0, 1) := by decide +kernel
theorem d_M_clear_212 : decode b_M_clear 212 = .ok (.iastore, 1) := by decide +kernel
theorem d_M_clear_213 : decode b_M_clear 213 = .ok (.aload_n 0, 1) := by decide +kernel
theorem d_M_clear_214 : decode b_M_clear 214 = .ok (.dup, 1) := by decide +kernel
theorem d_M_clear_215 : decode b_M_clear 215 = .ok (.getfield 73, 3) := by decide +kernel
theorem d_M_clear_218 : decode b_M_clear 218 = .ok (.iconst 1, 1) := by decide +kernel
theorem d_M_clear_219 : decode b_M_clear 219 = .ok (.iadd, 1) := by decide +kernel
theorem d_M_clear_220 : decode b_M_clear 220 = .ok (.putfield 73, 3) := by decide +kernel
theorem d_M_clear_223 : decode b_M_clear 223 = .ok (.iinc 4 1, 3) := by decide +kernel
theorem d_M_clear_226 : decode b_M_clear 226 = .ok (.goto (-99), 3) := by decide +kernel
theorem d_M_clear_229 : decode b_M_clear 229 = .ok (.aload_n 0, 1) := by decide +kernel
theorem d_M_clear_230 : decode b_M_clear 230 = .ok (.getfield 63, 3) := by decide +kernel
theorem d_M_clear_233 : decode b_M_clear 233 = .ok (.iload_n 2, 1) := by decide +kernel
theorem d_M_clear_234 : decode b_M_clear 234 = .ok (.isub, 1) := by decide +kernel
theorem d_M_clear_235 : decode b_M_clear 235 = .ok (.ireturn, 1) := by decide +kernel
theorem d_M_take_0 : decode b_M_take 0 = .ok (.aload_n 0, 1) := by decide +kernel
theorem d_M_take_1 : decode b_M_take 1 = .ok (.iconst 0, 1) := by decide +kernel
theorem d_M_take_2 : decode b_M_take 2 = .ok (.putfield 41, 3) := by decide +kernel
theorem d_M_take_5 : decode b_M_take 5 = .ok (.aload_n 0, 1) := by decide +kernel
theorem d_M_take_6 : decode b_M_take 6 = .ok (.getfield 63, 3) := by decide +kernel
theorem d_M_take_9 : decode b_M_take 9 = .ok (.ifCond .ne 5, 3) := by decide +kernel
theorem d_M_take_12 : decode b_M_take 12 = .ok (.iconst (-1), 1) := by decide +kernel
theorem d_M_take_13 : decode b_M_take 13 = .ok (.ireturn, 1) := by decide +kernel
theorem d_M_take_14 : decode b_M_take 14 = .ok (.aload_n 0, 1) := by decide +kernel
theorem d_M_take_15 : decode b_M_take 15 = .ok (.getfield 32, 3) := by decide +kernel
theorem d_M_take_18 : decode b_M_take 18 = .ok (.iconst 0, 1) := by decide +kernel
theorem d_M_take_19 : decode b_M_take 19 = .ok (.iaload, 1) := by decide +kernel
theorem d_M_take_20 : decode b_M_take 20 = .ok (.istore_n 1, 1) := by decide +kernel
theorem d_M_take_21 : decode b_M_take 21 = .ok (.aload_n 0, 1) := by decide +kernel
theorem d_M_take_22 : decode b_M_take 22 = .ok (.dup, 1) := by decide +kernel
theorem d_M_take_23 : decode b_M_take 23 = .ok (.getfield 63, 3) := by decide +kernel
theorem d_M_take_26 : decode b_M_take 26 = .ok (.iconst 1, 1) := by decide +kernel
theorem d_M_take_27 : decode b_M_take 27 = .ok (.isub, 1) := by decide +kernel
theorem d_M_take_28 : decode b_M_take 28 = .ok (.putfield 63, 3) := by decide +kernel
theorem d_M_take_31 : decode b_M_take 31 = .ok (.iconst 0, 1) := by decide +kernel
theorem d_M_take_32 : decode b_M_take 32 = .ok (.istore_n 2, 1) := by decide +kernel
theorem d_M_take_33 : decode b_M_take 33 = .ok (.iload_n 2, 1) := by decide +kernel
theorem d_M_take_34 : decode b_M_take 34 = .ok (.aload_n 0, 1) := by decide +kernel
theorem d_M_take_35 : decode b_M_take 35 = .ok (.getfield 63, 3) := by decide +kernel
theorem d_M_take_38 : decode b_M_take 38 = .ok (.if_icmp .ge 23, 3) := by decide +kernel
theorem d_M_take_41 : decode b_M_take 41 = .ok (.aload_n 0, 1) := by decide +kernel
theorem d_M_take_42 : decode b_M_take 42 = .ok (.getfield 32, 3) := by decide +kernel
theorem d_M_take_45 : decode b_M_take 45 = .ok (.iload_n 2, 1) := by decide +kernel
theorem d_M_take_46 : decode b_M_take 46 = .ok (.aload_n 0, 1) := by decide +kernel
theorem d_M_take_47 : decode b_M_take 47 = .ok (.getfield 32, 3) := by decide +kernel
theorem d_M_take_50 : decode b_M_take 50 = .ok (.iload_n 2, 1) := by decide +kernel
theorem d_M_take_51 : decode b_M_take 51 = .ok (.iconst 1, 1) := by decide +kernel
theorem d_M_take_52 : decode b_M_take 52 = .ok (.iadd, 1) := by decide +kernel
theorem d_M_take_53 : decode b_M_take 53 = .ok (.iaload, 1) := by decide +kernel
theorem d_M_take_54 : decode b_M_take 54 = .ok (.iastore, 1) := by decide +kernel
theorem d_M_take_55 : decode b_M_take 55 = .ok (.iinc 2 1, 3) := by decide +kernel
theorem d_M_take_58 : decode b_M_take 58 = .ok (.goto (-25), 3) := by decide +kernel
theorem d_M_take_61 : decode b_M_take 61 = .ok (.aload_n 0, 1) := by decide +kernel
theorem d_M_take_62 : decode b_M_take 62 = .ok (.getfield 13, 3) := by decide +kernel
theorem d_M_take_65 : decode b_M_take 65 = .ok (.iload_n 1, 1) := by decide +kernel
theorem d_M_take_66 : decode b_M_take 66 = .ok (.iconst 0, 1) := by decide +kernel
theorem d_M_take_67 : decode b_M_take 67 = .ok (.iastore, 1) := by decide +kernel
theorem d_M_take_68 : decode b_M_take 68 = .ok (.iload_n 1, 1) := by decide +kernel
theorem d_M_take_69 : decode b_M_take 69 = .ok (.ireturn, 1) := by decide +kernel
theorem d_M_queued_0 : decode b_M_queued 0 = .ok (.aload_n 0, 1) := by decide +kernel
theorem d_M_queued_1 : decode b_M_queued 1 = .ok (.iload_n 1, 1) := by decide +kernel
theorem d_M_queued_2 : decode b_M_queued 2 = .ok (.ifCond .lt 7, 3) := by decide +kernel
theorem d_M_queued_5 : decode b_M_queued 5 = .ok (.iconst 1, 1) := by decide +kernel
theorem d_M_queued_6 : decode b_M_queued 6 = .ok (.goto 4, 3) := by decide +kernel
theorem d_M_queued_9 : decode b_M_queued 9 = .ok (.iconst 0, 1) := by decide +kernel
theorem d_M_queued_10 : decode b_M_queued 10 = .ok (.iconst 1, 1) := by decide +kernel
theorem d_M_queued_11 : decode b_M_queued 11 = .ok (.invokevirtual 52, 3) := by decide +kernel
theorem d_M_queued_14 : decode b_M_queued 14 = .ok (.ifCond .ne 5, 3) := by decide +kernel
theorem d_M_queued_17 : decode b_M_queued 17 = .ok (.iconst 0, 1) := by decide +kernel
theorem d_M_queued_18 : decode b_M_queued 18 = .ok (.ireturn, 1) := by decide +kernel
theorem d_M_queued_19 : decode b_M_queued 19 = .ok (.iload_n 1, 1) := by decide +kernel
theorem d_M_queued_20 : decode b_M_queued 20 = .ok (.aload_n 0, 1) := by decide +kernel
theorem d_M_queued_21 : decode b_M_queued 21 = .ok (.getfield 63, 3) := by decide +kernel
theorem d_M_queued_24 : decode b_M_queued 24 = .ok (.if_icmp .ge 12, 3) := by decide +kernel
theorem d_M_queued_27 : decode b_M_queued 27 = .ok (.aload_n 0, 1) := by decide +kernel
theorem d_M_queued_28 : decode b_M_queued 28 = .ok (.getfield 32, 3) := by decide +kernel
theorem d_M_queued_31 : decode b_M_queued 31 = .ok (.iload_n 1, 1) := by decide +kernel
theorem d_M_queued_32 : decode b_M_queued 32 = .ok (.iaload, 1) := by decide +kernel
theorem d_M_queued_33 : decode b_M_queued 33 = .ok (.goto 4, 3) := by decide +kernel
theorem d_M_queued_36 : decode b_M_queued 36 = .ok (.iconst (-1), 1) := by decide +kernel
theorem d_M_queued_37 : decode b_M_queued 37 = .ok (.ireturn, 1) := by decide +kernel
theorem d_M_sweep_0 : decode b_M_sweep 0 = .ok (.aload_n 0, 1) := by decide +kernel
theorem d_M_sweep_1 : decode b_M_sweep 1 = .ok (.iconst 0, 1) := by decide +kernel
theorem d_M_sweep_2 : decode b_M_sweep 2 = .ok (.putfield 41, 3) := by decide +kernel
theorem d_M_sweep_5 : decode b_M_sweep 5 = .ok (.aload_n 0, 1) := by decide +kernel
theorem d_M_sweep_6 : decode b_M_sweep 6 = .ok (.iconst 1, 1) := by decide +kernel
theorem d_M_sweep_7 : decode b_M_sweep 7 = .ok (.invokevirtual 69, 3) := by decide +kernel
theorem d_M_sweep_10 : decode b_M_sweep 10 = .ok (.istore_n 1, 1) := by decide +kernel
theorem d_M_sweep_11 : decode b_M_sweep 11 = .ok (.iconst 0, 1) := by decide +kernel
theorem d_M_sweep_12 : decode b_M_sweep 12 = .ok (.istore_n 2, 1) := by decide +kernel
theorem d_M_sweep_13 : decode b_M_sweep 13 = .ok (.iconst 0, 1) := by decide +kernel
theorem d_M_sweep_14 : decode b_M_sweep 14 = .ok (.istore_n 3, 1) := by decide +kernel
theorem d_M_sweep_15 : decode b_M_sweep 15 = .ok (.iload_n 3, 1) := by decide +kernel
theorem d_M_sweep_16 : decode b_M_sweep 16 = .ok (.aload_n 0, 1) := by decide +kernel
theorem d_M_sweep_17 : decode b_M_sweep 17 = .ok (.getfield 45, 3) := by decide +kernel
theorem d_M_sweep_20 : decode b_M_sweep 20 = .ok (.if_icmp .ge 64, 3) := by decide +kernel
theorem d_M_sweep_23 : decode b_M_sweep 23 = .ok (.aload_n 0, 1) := by decide +kernel
theorem d_M_sweep_24 : decode b_M_sweep 24 = .ok (.getfield 7, 3) := by decide +kernel
theorem d_M_sweep_27 : decode b_M_sweep 27 = .ok (.iload_n 3, 1) := by decide +kernel
theorem d_M_sweep_28 : decode b_M_sweep 28 = .ok (.baload, 1) := by decide +kernel
theorem d_M_sweep_29 : decode b_M_sweep 29 = .ok (.ifCond .eq 18, 3) := by decide +kernel
theorem d_M_sweep_32 : decode b_M_sweep 32 = .ok (.aload_n 0, 1) := by decide +kernel
theorem d_M_sweep_33 : decode b_M_sweep 33 = .ok (.getfield 35, 3) := by decide +kernel
theorem d_M_sweep_36 : decode b_M_sweep 36 = .ok (.iload_n 3, 1) := by decide +kernel
theorem d_M_sweep_37 : decode b_M_sweep 37 = .ok (.baload, 1) := by decide +kernel
theorem d_M_sweep_38 : decode b_M_sweep 38 = .ok (.ifCond .ne 9, 3) := by decide +kernel
theorem d_M_sweep_41 : decode b_M_sweep 41 = .ok (.iload_n 2, 1) := by decide +kernel
theorem d_M_sweep_42 : decode b_M_sweep 42 = .ok (.iconst 1, 1) := by decide +kernel
theorem d_M_sweep_43 : decode b_M_sweep 43 = .ok (.iadd, 1) := by decide +kernel
theorem d_M_sweep_44 : decode b_M_sweep 44 = .ok (.goto 4, 3) := by decide +kernel
theorem d_M_sweep_47 : decode b_M_sweep 47 = .ok (.iload_n 2, 1) := by decide +kernel
theorem d_M_sweep_48 : decode b_M_sweep 48 = .ok (.istore_n 2, 1) := by decide +kernel
theorem d_M_sweep_49 : decode b_M_sweep 49 = .ok (.aload_n 0, 1) := by decide +kernel
theorem d_M_sweep_50 : decode b_M_sweep 50 = .ok (.getfield 7, 3) := by decide +kernel
theorem d_M_sweep_53 : decode b_M_sweep 53 = .ok (.iload_n 3, 1) := by decide +kernel
theorem d_M_sweep_54 : decode b_M_sweep 54 = .ok (.aload_n 0, 1) := by decide +kernel
theorem d_M_sweep_55 : decode b_M_sweep 55 = .ok (.getfield 7, 3) := by decide +kernel
theorem d_M_sweep_58 : decode b_M_sweep 58 = .ok (.iload_n 3, 1) := by decide +kernel
theorem d_M_sweep_59 : decode b_M_sweep 59 = .ok (.baload, 1) := by decide +kernel
theorem d_M_sweep_60 : decode b_M_sweep 60 = .ok (.ifCond .eq 16, 3) := by decide +kernel
theorem d_M_sweep_63 : decode b_M_sweep 63 = .ok (.aload_n 0, 1) := by decide +kernel
theorem d_M_sweep_64 : decode b_M_sweep 64 = .ok (.getfield 35, 3) := by decide +kernel
theorem d_M_sweep_67 : decode b_M_sweep 67 = .ok (.iload_n 3, 1) := by decide +kernel
theorem d_M_sweep_68 : decode b_M_sweep 68 = .ok (.baload, 1) := by decide +kernel
theorem d_M_sweep_69 : decode b_M_sweep 69 = .ok (.ifCond .eq 7, 3) := by decide +kernel
theorem d_M_sweep_72 : decode b_M_sweep 72 = .ok (.iconst 1, 1) := by decide +kernel
theorem d_M_sweep_73 : decode b_M_sweep 73 = .ok (.goto 4, 3) := by decide +kernel
theorem d_M_sweep_76 : decode b_M_sweep 76 = .ok (.iconst 0, 1) := by decide +kernel
theorem d_M_sweep_77 : decode b_M_sweep 77 = .ok (.bastore, 1) := by decide +kernel
theorem d_M_sweep_78 : decode b_M_sweep 78 = .ok (.iinc 3 1, 3) := by decide +kernel
theorem d_M_sweep_81 : decode b_M_sweep 81 = .ok (.goto (-66), 3) := by decide +kernel
theorem d_M_sweep_84 : decode b_M_sweep 84 = .ok (.iload_n 2, 1) := by decide +kernel
theorem d_M_sweep_85 : decode b_M_sweep 85 = .ok (.ireturn, 1) := by decide +kernel
theorem d_M_identity_0 : decode b_M_identity 0 = .ok (.aload_n 0, 1) := by decide +kernel
theorem d_M_identity_1 : decode b_M_identity 1 = .ok (.aload_n 0, 1) := by decide +kernel
theorem d_M_identity_2 : decode b_M_identity 2 = .ok (.iload_n 1, 1) := by decide +kernel
theorem d_M_identity_3 : decode b_M_identity 3 = .ok (.invokevirtual 48, 3) := by decide +kernel
theorem d_M_identity_6 : decode b_M_identity 6 = .ok (.iconst 1, 1) := by decide +kernel
theorem d_M_identity_7 : decode b_M_identity 7 = .ok (.invokevirtual 52, 3) := by decide +kernel
theorem d_M_identity_10 : decode b_M_identity 10 = .ok (.ifCond .ne 5, 3) := by decide +kernel
theorem d_M_identity_13 : decode b_M_identity 13 = .ok (.iconst 0, 1) := by decide +kernel
theorem d_M_identity_14 : decode b_M_identity 14 = .ok (.ireturn, 1) := by decide +kernel
theorem d_M_identity_15 : decode b_M_identity 15 = .ok (.aload_n 0, 1) := by decide +kernel
theorem d_M_identity_16 : decode b_M_identity 16 = .ok (.getfield 23, 3) := by decide +kernel
theorem d_M_identity_19 : decode b_M_identity 19 = .ok (.iload_n 1, 1) := by decide +kernel
theorem d_M_identity_20 : decode b_M_identity 20 = .ok (.iaload, 1) := by decide +kernel
theorem d_M_identity_21 : decode b_M_identity 21 = .ok (.ifCond .ne 23, 3) := by decide +kernel
theorem d_M_identity_24 : decode b_M_identity 24 = .ok (.aload_n 0, 1) := by decide +kernel
theorem d_M_identity_25 : decode b_M_identity 25 = .ok (.dup, 1) := by decide +kernel
theorem d_M_identity_26 : decode b_M_identity 26 = .ok (.getfield 76, 3) := by decide +kernel
theorem d_M_identity_29 : decode b_M_identity 29 = .ok (.iconst 1, 1) := by decide +kernel
theorem d_M_identity_30 : decode b_M_identity 30 = .ok (.iadd, 1) := by decide +kernel
theorem d_M_identity_31 : decode b_M_identity 31 = .ok (.putfield 76, 3) := by decide +kernel
theorem d_M_identity_34 : decode b_M_identity 34 = .ok (.aload_n 0, 1) := by decide +kernel
theorem d_M_identity_35 : decode b_M_identity 35 = .ok (.getfield 23, 3) := by decide +kernel
theorem d_M_identity_38 : decode b_M_identity 38 = .ok (.iload_n 1, 1) := by decide +kernel
theorem d_M_identity_39 : decode b_M_identity 39 = .ok (.aload_n 0, 1) := by decide +kernel
theorem d_M_identity_40 : decode b_M_identity 40 = .ok (.getfield 76, 3) := by decide +kernel
theorem d_M_identity_43 : decode b_M_identity 43 = .ok (.iastore, 1) := by decide +kernel
theorem d_M_identity_44 : decode b_M_identity 44 = .ok (.aload_n 0, 1) := by decide +kernel
theorem d_M_identity_45 : decode b_M_identity 45 = .ok (.getfield 23, 3) := by decide +kernel
theorem d_M_identity_48 : decode b_M_identity 48 = .ok (.iload_n 1, 1) := by decide +kernel
theorem d_M_identity_49 : decode b_M_identity 49 = .ok (.iaload, 1) := by decide +kernel
theorem d_M_identity_50 : decode b_M_identity 50 = .ok (.iconst 1, 1) := by decide +kernel
theorem d_M_identity_51 : decode b_M_identity 51 = .ok (.isub, 1) := by decide +kernel
theorem d_M_identity_52 : decode b_M_identity 52 = .ok (.ireturn, 1) := by decide +kernel
theorem d_M_about_0 : decode b_M_about 0 = .ok (.aload_n 0, 1) := by decide +kernel
theorem d_M_about_1 : decode b_M_about 1 = .ok (.aload_n 0, 1) := by decide +kernel
theorem d_M_about_2 : decode b_M_about 2 = .ok (.iload_n 1, 1) := by decide +kernel
theorem d_M_about_3 : decode b_M_about 3 = .ok (.invokevirtual 48, 3) := by decide +kernel
theorem d_M_about_6 : decode b_M_about 6 = .ok (.iload_n 2, 1) := by decide +kernel
theorem d_M_about_7 : decode b_M_about 7 = .ok (.ifCond .lt 12, 3) := by decide +kernel
theorem d_M_about_10 : decode b_M_about 10 = .ok (.iload_n 2, 1) := by decide +kernel
theorem d_M_about_11 : decode b_M_about 11 = .ok (.iconst 3, 1) := by decide +kernel
theorem d_M_about_12 : decode b_M_about 12 = .ok (.if_icmp .gt 7, 3) := by decide +kernel
theorem d_M_about_15 : decode b_M_about 15 = .ok (.iconst 1, 1) := by decide +kernel
theorem d_M_about_16 : decode b_M_about 16 = .ok (.goto 4, 3) := by decide +kernel
theorem d_M_about_19 : decode b_M_about 19 = .ok (.iconst 0, 1) := by decide +kernel
theorem d_M_about_20 : decode b_M_about 20 = .ok (.invokevirtual 52, 3) := by decide +kernel
theorem d_M_about_23 : decode b_M_about 23 = .ok (.ifCond .ne 5, 3) := by decide +kernel
theorem d_M_about_26 : decode b_M_about 26 = .ok (.iconst 0, 1) := by decide +kernel
theorem d_M_about_27 : decode b_M_about 27 = .ok (.ireturn, 1) := by decide +kernel
theorem d_M_about_28 : decode b_M_about 28 = .ok (.iload_n 2, 1) := by decide +kernel
theorem d_M_about_29 : decode b_M_about 29 = .ok (.iconst 2, 1) := by decide +kernel
theorem d_M_about_30 : decode b_M_about 30 = .ok (.if_icmp .ge 23, 3) := by decide +kernel
theorem d_M_about_33 : decode b_M_about 33 = .ok (.iload_n 2, 1) := by decide +kernel
theorem d_M_about_34 : decode b_M_about 34 = .ok (.ifCond .ne 12, 3) := by decide +kernel
theorem d_M_about_37 : decode b_M_about 37 = .ok (.aload_n 0, 1) := by decide +kernel
theorem d_M_about_38 : decode b_M_about 38 = .ok (.getfield 13, 3) := by decide +kernel
theorem d_M_about_41 : decode b_M_about 41 = .ok (.iload_n 1, 1) := by decide +kernel
theorem d_M_about_42 : decode b_M_about 42 = .ok (.iaload, 1) := by decide +kernel
theorem d_M_about_43 : decode b_M_about 43 = .ok (.goto 9, 3) := by decide +kernel
theorem d_M_about_46 : decode b_M_about 46 = .ok (.aload_n 0, 1) := by decide +kernel
theorem d_M_about_47 : decode b_M_about 47 = .ok (.getfield 17, 3) := by decide +kernel
theorem d_M_about_50 : decode b_M_about 50 = .ok (.iload_n 1, 1) := by decide +kernel
theorem d_M_about_51 : decode b_M_about 51 = .ok (.iaload, 1) := by decide +kernel
theorem d_M_about_52 : decode b_M_about 52 = .ok (.ireturn, 1) := by decide +kernel
theorem d_M_about_53 : decode b_M_about 53 = .ok (.aload_n 0, 1) := by decide +kernel
theorem d_M_about_54 : decode b_M_about 54 = .ok (.iload_n 2, 1) := by decide +kernel
theorem d_M_about_55 : decode b_M_about 55 = .ok (.iconst 3, 1) := by decide +kernel
theorem d_M_about_56 : decode b_M_about 56 = .ok (.if_icmp .ne 7, 3) := by decide +kernel
theorem d_M_about_59 : decode b_M_about 59 = .ok (.iconst 1, 1) := by decide +kernel
theorem d_M_about_60 : decode b_M_about 60 = .ok (.goto 4, 3) := by decide +kernel
theorem d_M_about_63 : decode b_M_about 63 = .ok (.iconst 0, 1) := by decide +kernel
theorem d_M_about_64 : decode b_M_about 64 = .ok (.invokevirtual 69, 3) := by decide +kernel
theorem d_M_about_67 : decode b_M_about 67 = .ok (.istore_n 3, 1) := by decide +kernel
theorem d_M_about_68 : decode b_M_about 68 = .ok (.aload_n 0, 1) := by decide +kernel
theorem d_M_about_69 : decode b_M_about 69 = .ok (.getfield 35, 3) := by decide +kernel
theorem d_M_about_72 : decode b_M_about 72 = .ok (.iload_n 1, 1) := by decide +kernel
theorem d_M_about_73 : decode b_M_about 73 = .ok (.baload, 1) := by decide +kernel
theorem d_M_about_74 : decode b_M_about 74 = .ok (.ifCond .eq 7, 3) := by decide +kernel
theorem d_M_about_77 : decode b_M_about 77 = .ok (.iconst 1, 1) := by decide +kernel
theorem d_M_about_78 : decode b_M_about 78 = .ok (.goto 4, 3) := by decide +kernel
theorem d_M_about_81 : decode b_M_about 81 = .ok (.iconst 0, 1) := by decide +kernel
theorem d_M_about_82 : decode b_M_about 82 = .ok (.ireturn, 1) := by decide +kernel
theorem d_M_many_0 : decode b_M_many 0 = .ok (.iconst 0, 1) := by decide +kernel
theorem d_M_many_1 : decode b_M_many 1 = .ok (.istore_n 1, 1) := by decide +kernel
theorem d_M_many_2 : decode b_M_many 2 = .ok (.iconst 0, 1) := by decide +kernel
theorem d_M_many_3 : decode b_M_many 3 = .ok (.istore_n 2, 1) := by decide +kernel
theorem d_M_many_4 : decode b_M_many 4 = .ok (.iload_n 2, 1) := by decide +kernel
theorem d_M_many_5 : decode b_M_many 5 = .ok (.aload_n 0, 1) := by decide +kernel
theorem d_M_many_6 : decode b_M_many 6 = .ok (.getfield 45, 3) := by decide +kernel
theorem d_M_many_9 : decode b_M_many 9 = .ok (.if_icmp .ge 26, 3) := by decide +kernel
theorem d_M_many_12 : decode b_M_many 12 = .ok (.aload_n 0, 1) := by decide +kernel
theorem d_M_many_13 : decode b_M_many 13 = .ok (.getfield 7, 3) := by decide +kernel
theorem d_M_many_16 : decode b_M_many 16 = .ok (.iload_n 2, 1) := by decide +kernel
theorem d_M_many_17 : decode b_M_many 17 = .ok (.baload, 1) := by decide +kernel
theorem d_M_many_18 : decode b_M_many 18 = .ok (.ifCond .eq 9, 3) := by decide +kernel
theorem d_M_many_21 : decode b_M_many 21 = .ok (.iload_n 1, 1) := by decide +kernel
theorem d_M_many_22 : decode b_M_many 22 = .ok (.iconst 1, 1) := by decide +kernel
theorem d_M_many_23 : decode b_M_many 23 = .ok (.iadd, 1) := by decide +kernel
theorem d_M_many_24 : decode b_M_many 24 = .ok (.goto 4, 3) := by decide +kernel
theorem d_M_many_27 : decode b_M_many 27 = .ok (.iload_n 1, 1) := by decide +kernel
theorem d_M_many_28 : decode b_M_many 28 = .ok (.istore_n 1, 1) := by decide +kernel
theorem d_M_many_29 : decode b_M_many 29 = .ok (.iinc 2 1, 3) := by decide +kernel
theorem d_M_many_32 : decode b_M_many 32 = .ok (.goto (-28), 3) := by decide +kernel
theorem d_M_many_35 : decode b_M_many 35 = .ok (.iload_n 1, 1) := by decide +kernel
theorem d_M_many_36 : decode b_M_many 36 = .ok (.ireturn, 1) := by decide +kernel
theorem d_M_waiting_0 : decode b_M_waiting 0 = .ok (.iconst 0, 1) := by decide +kernel
theorem d_M_waiting_1 : decode b_M_waiting 1 = .ok (.istore_n 1, 1) := by decide +kernel
theorem d_M_waiting_2 : decode b_M_waiting 2 = .ok (.iconst 0, 1) := by decide +kernel
theorem d_M_waiting_3 : decode b_M_waiting 3 = .ok (.istore_n 2, 1) := by decide +kernel
theorem d_M_waiting_4 : decode b_M_waiting 4 = .ok (.iload_n 2, 1) := by decide +kernel
theorem d_M_waiting_5 : decode b_M_waiting 5 = .ok (.aload_n 0, 1) := by decide +kernel
theorem d_M_waiting_6 : decode b_M_waiting 6 = .ok (.getfield 45, 3) := by decide +kernel
theorem d_M_waiting_9 : decode b_M_waiting 9 = .ok (.if_icmp .ge 45, 3) := by decide +kernel
theorem d_M_waiting_12 : decode b_M_waiting 12 = .ok (.aload_n 0, 1) := by decide +kernel
theorem d_M_waiting_13 : decode b_M_waiting 13 = .ok (.getfield 7, 3) := by decide +kernel
theorem d_M_waiting_16 : decode b_M_waiting 16 = .ok (.iload_n 2, 1) := by decide +kernel
theorem d_M_waiting_17 : decode b_M_waiting 17 = .ok (.baload, 1) := by decide +kernel
theorem d_M_waiting_18 : decode b_M_waiting 18 = .ok (.ifCond .eq 28, 3) := by decide +kernel
theorem d_M_waiting_21 : decode b_M_waiting 21 = .ok (.aload_n 0, 1) := by decide +kernel
theorem d_M_waiting_22 : decode b_M_waiting 22 = .ok (.getfield 13, 3) := by decide +kernel
theorem d_M_waiting_25 : decode b_M_waiting 25 = .ok (.iload_n 2, 1) := by decide +kernel
theorem d_M_waiting_26 : decode b_M_waiting 26 = .ok (.iaload, 1) := by decide +kernel
theorem d_M_waiting_27 : decode b_M_waiting 27 = .ok (.iconst 2, 1) := by decide +kernel
theorem d_M_waiting_28 : decode b_M_waiting 28 = .ok (.if_icmp .ne 18, 3) := by decide +kernel
theorem d_M_waiting_31 : decode b_M_waiting 31 = .ok (.aload_n 0, 1) := by decide +kernel
theorem d_M_waiting_32 : decode b_M_waiting 32 = .ok (.getfield 26, 3) := by decide +kernel
theorem d_M_waiting_35 : decode b_M_waiting 35 = .ok (.iload_n 2, 1) := by decide +kernel
theorem d_M_waiting_36 : decode b_M_waiting 36 = .ok (.baload, 1) := by decide +kernel
theorem d_M_waiting_37 : decode b_M_waiting 37 = .ok (.ifCond .ne 9, 3) := by decide +kernel
theorem d_M_waiting_40 : decode b_M_waiting 40 = .ok (.iload_n 1, 1) := by decide +kernel
theorem d_M_waiting_41 : decode b_M_waiting 41 = .ok (.iconst 1, 1) := by decide +kernel
theorem d_M_waiting_42 : decode b_M_waiting 42 = .ok (.iadd, 1) := by decide +kernel
theorem d_M_waiting_43 : decode b_M_waiting 43 = .ok (.goto 4, 3) := by decide +kernel
theorem d_M_waiting_46 : decode b_M_waiting 46 = .ok (.iload_n 1, 1) := by decide +kernel
theorem d_M_waiting_47 : decode b_M_waiting 47 = .ok (.istore_n 1, 1) := by decide +kernel
theorem d_M_waiting_48 : decode b_M_waiting 48 = .ok (.iinc 2 1, 3) := by decide +kernel
theorem d_M_waiting_51 : decode b_M_waiting 51 = .ok (.goto (-47), 3) := by decide +kernel
theorem d_M_waiting_54 : decode b_M_waiting 54 = .ok (.iload_n 1, 1) := by decide +kernel
theorem d_M_waiting_55 : decode b_M_waiting 55 = .ok (.ireturn, 1) := by decide +kernel
theorem d_M_count_0 : decode b_M_count 0 = .ok (.aload_n 0, 1) := by decide +kernel
theorem d_M_count_1 : decode b_M_count 1 = .ok (.iload_n 1, 1) := by decide +kernel
theorem d_M_count_2 : decode b_M_count 2 = .ok (.ifCond .lt 13, 3) := by decide +kernel
theorem d_M_count_5 : decode b_M_count 5 = .ok (.iload_n 1, 1) := by decide +kernel
theorem d_M_count_6 : decode b_M_count 6 = .ok (.bipush 8, 2) := by decide +kernel
theorem d_M_count_8 : decode b_M_count 8 = .ok (.if_icmp .gt 7, 3) := by decide +kernel
theorem d_M_count_11 : decode b_M_count 11 = .ok (.iconst 1, 1) := by decide +kernel
theorem d_M_count_12 : decode b_M_count 12 = .ok (.goto 4, 3) := by decide +kernel
theorem d_M_count_15 : decode b_M_count 15 = .ok (.iconst 0, 1) := by decide +kernel
theorem d_M_count_16 : decode b_M_count 16 = .ok (.iconst 1, 1) := by decide +kernel
theorem d_M_count_17 : decode b_M_count 17 = .ok (.invokevirtual 52, 3) := by decide +kernel
theorem d_M_count_20 : decode b_M_count 20 = .ok (.ifCond .ne 5, 3) := by decide +kernel
theorem d_M_count_23 : decode b_M_count 23 = .ok (.iconst 0, 1) := by decide +kernel
theorem d_M_count_24 : decode b_M_count 24 = .ok (.ireturn, 1) := by decide +kernel
theorem d_M_count_25 : decode b_M_count 25 = .ok (.iload_n 1, 1) := by decide +kernel
theorem d_M_count_26 : decode b_M_count 26 = .ok (.tableswitch 88 0 7 #[46, 51, 57, 63, 68, 73, 78, 83], 46) := by decide +kernel
theorem d_M_count_72 : decode b_M_count 72 = .ok (.aload_n 0, 1) := by decide +kernel
theorem d_M_count_73 : decode b_M_count 73 = .ok (.invokevirtual 79, 3) := by decide +kernel
theorem d_M_count_76 : decode b_M_count 76 = .ok (.ireturn, 1) := by decide +kernel
theorem d_M_count_77 : decode b_M_count 77 = .ok (.aload_n 0, 1) := by decide +kernel
theorem d_M_count_78 : decode b_M_count 78 = .ok (.iconst 0, 1) := by decide +kernel
theorem d_M_count_79 : decode b_M_count 79 = .ok (.invokevirtual 69, 3) := by decide +kernel
theorem d_M_count_82 : decode b_M_count 82 = .ok (.ireturn, 1) := by decide +kernel
theorem d_M_count_83 : decode b_M_count 83 = .ok (.aload_n 0, 1) := by decide +kernel
theorem d_M_count_84 : decode b_M_count 84 = .ok (.iconst 1, 1) := by decide +kernel
theorem d_M_count_85 : decode b_M_count 85 = .ok (.invokevirtual 69, 3) := by decide +kernel
theorem d_M_count_88 : decode b_M_count 88 = .ok (.ireturn, 1) := by decide +kernel
theorem d_M_count_89 : decode b_M_count 89 = .ok (.aload_n 0, 1) := by decide +kernel
theorem d_M_count_90 : decode b_M_count 90 = .ok (.getfield 63, 3) := by decide +kernel
theorem d_M_count_93 : decode b_M_count 93 = .ok (.ireturn, 1) := by decide +kernel
theorem d_M_count_94 : decode b_M_count 94 = .ok (.aload_n 0, 1) := by decide +kernel
theorem d_M_count_95 : decode b_M_count 95 = .ok (.invokevirtual 83, 3) := by decide +kernel
theorem d_M_count_98 : decode b_M_count 98 = .ok (.ireturn, 1) := by decide +kernel
theorem d_M_count_99 : decode b_M_count 99 = .ok (.aload_n 0, 1) := by decide +kernel
theorem d_M_count_100 : decode b_M_count 100 = .ok (.getfield 73, 3) := by decide +kernel
theorem d_M_count_103 : decode b_M_count 103 = .ok (.ireturn, 1) := by decide +kernel
theorem d_M_count_104 : decode b_M_count 104 = .ok (.aload_n 0, 1) := by decide +kernel
theorem d_M_count_105 : decode b_M_count 105 = .ok (.getfield 66, 3) := by decide +kernel
theorem d_M_count_108 : decode b_M_count 108 = .ok (.ireturn, 1) := by decide +kernel
theorem d_M_count_109 : decode b_M_count 109 = .ok (.aload_n 0, 1) := by decide +kernel
theorem d_M_count_110 : decode b_M_count 110 = .ok (.getfield 76, 3) := by decide +kernel
theorem d_M_count_113 : decode b_M_count 113 = .ok (.ireturn, 1) := by decide +kernel
theorem d_M_count_114 : decode b_M_count 114 = .ok (.aload_n 0, 1) := by decide +kernel
theorem d_M_count_115 : decode b_M_count 115 = .ok (.getfield 45, 3) := by decide +kernel
theorem d_M_count_118 : decode b_M_count 118 = .ok (.ireturn, 1) := by decide +kernel
