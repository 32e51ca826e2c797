/-! Decode rows. -/
theorem d_K_init_0 : decode b_K_init 0 = .ok (.aload_n 0, 1) := by decide +kernel
theorem d_K_init_1 : decode b_K_init 1 = .ok (.invokespecial 1, 3) := by decide +kernel
theorem d_K_init_4 : decode b_K_init 4 = .ok (.aload_n 0, 1) := by decide +kernel
theorem d_K_init_5 : decode b_K_init 5 = .ok (.sipush 300, 3) := by decide +kernel
theorem d_K_init_8 : decode b_K_init 8 = .ok (.anewarray 9, 3) := by decide +kernel
theorem d_K_init_11 : decode b_K_init 11 = .ok (.putfield 11, 3) := by decide +kernel
theorem d_K_init_14 : decode b_K_init 14 = .ok (.aload_n 0, 1) := by decide +kernel
theorem d_K_init_15 : decode b_K_init 15 = .ok (.bipush 16, 2) := by decide +kernel
theorem d_K_init_17 : decode b_K_init 17 = .ok (.newarray .int, 2) := by decide +kernel
theorem d_K_init_19 : decode b_K_init 19 = .ok (.putfield 15, 3) := by decide +kernel
theorem d_K_init_22 : decode b_K_init 22 = .ok (.iconst 0, 1) := by decide +kernel
theorem d_K_init_23 : decode b_K_init 23 = .ok (.istore_n 1, 1) := by decide +kernel
theorem d_K_init_24 : decode b_K_init 24 = .ok (.iload_n 1, 1) := by decide +kernel
theorem d_K_init_25 : decode b_K_init 25 = .ok (.aload_n 0, 1) := by decide +kernel
theorem d_K_init_26 : decode b_K_init 26 = .ok (.getfield 15, 3) := by decide +kernel
theorem d_K_init_29 : decode b_K_init 29 = .ok (.arraylength, 1) := by decide +kernel
theorem d_K_init_30 : decode b_K_init 30 = .ok (.if_icmp .ge 16, 3) := by decide +kernel
theorem d_K_init_33 : decode b_K_init 33 = .ok (.aload_n 0, 1) := by decide +kernel
theorem d_K_init_34 : decode b_K_init 34 = .ok (.getfield 15, 3) := by decide +kernel
theorem d_K_init_37 : decode b_K_init 37 = .ok (.iload_n 1, 1) := by decide +kernel
theorem d_K_init_38 : decode b_K_init 38 = .ok (.iconst (-1), 1) := by decide +kernel
theorem d_K_init_39 : decode b_K_init 39 = .ok (.iastore, 1) := by decide +kernel
theorem d_K_init_40 : decode b_K_init 40 = .ok (.iinc 1 1, 3) := by decide +kernel
theorem d_K_init_43 : decode b_K_init 43 = .ok (.goto (-19), 3) := by decide +kernel
theorem d_K_init_46 : decode b_K_init 46 = .ok (.aload_n 0, 1) := by decide +kernel
theorem d_K_init_47 : decode b_K_init 47 = .ok (.sipush 300, 3) := by decide +kernel
theorem d_K_init_50 : decode b_K_init 50 = .ok (.newarray .int, 2) := by decide +kernel
theorem d_K_init_52 : decode b_K_init 52 = .ok (.putfield 19, 3) := by decide +kernel
theorem d_K_init_55 : decode b_K_init 55 = .ok (.aload_n 0, 1) := by decide +kernel
theorem d_K_init_56 : decode b_K_init 56 = .ok (.new 22, 3) := by decide +kernel
theorem d_K_init_59 : decode b_K_init 59 = .ok (.dup, 1) := by decide +kernel
theorem d_K_init_60 : decode b_K_init 60 = .ok (.invokespecial 24, 3) := by decide +kernel
theorem d_K_init_63 : decode b_K_init 63 = .ok (.putfield 25, 3) := by decide +kernel
theorem d_K_init_66 : decode b_K_init 66 = .ok (.aload_n 0, 1) := by decide +kernel
theorem d_K_init_67 : decode b_K_init 67 = .ok (.new 22, 3) := by decide +kernel
theorem d_K_init_70 : decode b_K_init 70 = .ok (.dup, 1) := by decide +kernel
theorem d_K_init_71 : decode b_K_init 71 = .ok (.invokespecial 24, 3) := by decide +kernel
theorem d_K_init_74 : decode b_K_init 74 = .ok (.putfield 29, 3) := by decide +kernel
theorem d_K_init_77 : decode b_K_init 77 = .ok (.return_, 1) := by decide +kernel
theorem d_K_make_0 : decode b_K_make 0 = .ok (.iload_n 1, 1) := by decide +kernel
theorem d_K_make_1 : decode b_K_make 1 = .ok (.ifCond .lt 8, 3) := by decide +kernel
theorem d_K_make_4 : decode b_K_make 4 = .ok (.iload_n 1, 1) := by decide +kernel
theorem d_K_make_5 : decode b_K_make 5 = .ok (.iconst 2, 1) := by decide +kernel
theorem d_K_make_6 : decode b_K_make 6 = .ok (.if_icmp .le 13, 3) := by decide +kernel
theorem d_K_make_9 : decode b_K_make 9 = .ok (.new 32, 3) := by decide +kernel
theorem d_K_make_12 : decode b_K_make 12 = .ok (.dup, 1) := by decide +kernel
theorem d_K_make_13 : decode b_K_make 13 = .ok (.ldc 34, 2) := by decide +kernel
theorem d_K_make_15 : decode b_K_make 15 = .ok (.invokespecial 36, 3) := by decide +kernel
theorem d_K_make_18 : decode b_K_make 18 = .ok (.athrow, 1) := by decide +kernel
theorem d_K_make_19 : decode b_K_make 19 = .ok (.iload_n 2, 1) := by decide +kernel
theorem d_K_make_20 : decode b_K_make 20 = .ok (.ifCond .lt 9, 3) := by decide +kernel
theorem d_K_make_23 : decode b_K_make 23 = .ok (.iload_n 2, 1) := by decide +kernel
theorem d_K_make_24 : decode b_K_make 24 = .ok (.bipush 12, 2) := by decide +kernel
theorem d_K_make_26 : decode b_K_make 26 = .ok (.if_icmp .le 13, 3) := by decide +kernel
theorem d_K_make_29 : decode b_K_make 29 = .ok (.new 32, 3) := by decide +kernel
theorem d_K_make_32 : decode b_K_make 32 = .ok (.dup, 1) := by decide +kernel
theorem d_K_make_33 : decode b_K_make 33 = .ok (.ldc 39, 2) := by decide +kernel
theorem d_K_make_35 : decode b_K_make 35 = .ok (.invokespecial 36, 3) := by decide +kernel
theorem d_K_make_38 : decode b_K_make 38 = .ok (.athrow, 1) := by decide +kernel
theorem d_K_make_39 : decode b_K_make 39 = .ok (.iload_n 1, 1) := by decide +kernel
theorem d_K_make_40 : decode b_K_make 40 = .ok (.iconst 1, 1) := by decide +kernel
theorem d_K_make_41 : decode b_K_make 41 = .ok (.if_icmp .ne 17, 3) := by decide +kernel
theorem d_K_make_44 : decode b_K_make 44 = .ok (.iload_n 2, 1) := by decide +kernel
theorem d_K_make_45 : decode b_K_make 45 = .ok (.ifCond .ne 13, 3) := by decide +kernel
theorem d_K_make_48 : decode b_K_make 48 = .ok (.new 32, 3) := by decide +kernel
theorem d_K_make_51 : decode b_K_make 51 = .ok (.dup, 1) := by decide +kernel
theorem d_K_make_52 : decode b_K_make 52 = .ok (.ldc 41, 2) := by decide +kernel
theorem d_K_make_54 : decode b_K_make 54 = .ok (.invokespecial 36, 3) := by decide +kernel
theorem d_K_make_57 : decode b_K_make 57 = .ok (.athrow, 1) := by decide +kernel
theorem d_K_make_58 : decode b_K_make 58 = .ok (.aload_n 0, 1) := by decide +kernel
theorem d_K_make_59 : decode b_K_make 59 = .ok (.getfield 43, 3) := by decide +kernel
theorem d_K_make_62 : decode b_K_make 62 = .ok (.ifCond .lt 15, 3) := by decide +kernel
theorem d_K_make_65 : decode b_K_make 65 = .ok (.aload_n 0, 1) := by decide +kernel
theorem d_K_make_66 : decode b_K_make 66 = .ok (.getfield 43, 3) := by decide +kernel
theorem d_K_make_69 : decode b_K_make 69 = .ok (.aload_n 0, 1) := by decide +kernel
theorem d_K_make_70 : decode b_K_make 70 = .ok (.getfield 11, 3) := by decide +kernel
theorem d_K_make_73 : decode b_K_make 73 = .ok (.arraylength, 1) := by decide +kernel
theorem d_K_make_74 : decode b_K_make 74 = .ok (.if_icmp .lt 13, 3) := by decide +kernel
theorem d_K_make_77 : decode b_K_make 77 = .ok (.new 47, 3) := by decide +kernel
theorem d_K_make_80 : decode b_K_make 80 = .ok (.dup, 1) := by decide +kernel
theorem d_K_make_81 : decode b_K_make 81 = .ok (.ldc 49, 2) := by decide +kernel
theorem d_K_make_83 : decode b_K_make 83 = .ok (.invokespecial 51, 3) := by decide +kernel
theorem d_K_make_86 : decode b_K_make 86 = .ok (.athrow, 1) := by decide +kernel
theorem d_K_make_87 : decode b_K_make 87 = .ok (.aload_n 0, 1) := by decide +kernel
theorem d_K_make_88 : decode b_K_make 88 = .ok (.getfield 43, 3) := by decide +kernel
theorem d_K_make_91 : decode b_K_make 91 = .ok (.istore_n 3, 1) := by decide +kernel
theorem d_K_make_92 : decode b_K_make 92 = .ok (.aload_n 0, 1) := by decide +kernel
theorem d_K_make_93 : decode b_K_make 93 = .ok (.getfield 11, 3) := by decide +kernel
theorem d_K_make_96 : decode b_K_make 96 = .ok (.iload_n 3, 1) := by decide +kernel
theorem d_K_make_97 : decode b_K_make 97 = .ok (.new 9, 3) := by decide +kernel
theorem d_K_make_100 : decode b_K_make 100 = .ok (.dup, 1) := by decide +kernel
theorem d_K_make_101 : decode b_K_make 101 = .ok (.iload_n 1, 1) := by decide +kernel
theorem d_K_make_102 : decode b_K_make 102 = .ok (.iload_n 2, 1) := by decide +kernel
theorem d_K_make_103 : decode b_K_make 103 = .ok (.invokespecial 52, 3) := by decide +kernel
theorem d_K_make_106 : decode b_K_make 106 = .ok (.aastore, 1) := by decide +kernel
theorem d_K_make_107 : decode b_K_make 107 = .ok (.aload_n 0, 1) := by decide +kernel
theorem d_K_make_108 : decode b_K_make 108 = .ok (.dup, 1) := by decide +kernel
theorem d_K_make_109 : decode b_K_make 109 = .ok (.getfield 43, 3) := by decide +kernel
theorem d_K_make_112 : decode b_K_make 112 = .ok (.iconst 1, 1) := by decide +kernel
theorem d_K_make_113 : decode b_K_make 113 = .ok (.iadd, 1) := by decide +kernel
theorem d_K_make_114 : decode b_K_make 114 = .ok (.putfield 43, 3) := by decide +kernel
theorem d_K_make_117 : decode b_K_make 117 = .ok (.aload_n 0, 1) := by decide +kernel
theorem d_K_make_118 : decode b_K_make 118 = .ok (.dup, 1) := by decide +kernel
theorem d_K_make_119 : decode b_K_make 119 = .ok (.getfield 55, 3) := by decide +kernel
theorem d_K_make_122 : decode b_K_make 122 = .ok (.iconst 1, 1) := by decide +kernel
theorem d_K_make_123 : decode b_K_make 123 = .ok (.iadd, 1) := by decide +kernel
theorem d_K_make_124 : decode b_K_make 124 = .ok (.putfield 55, 3) := by decide +kernel
theorem d_K_make_127 : decode b_K_make 127 = .ok (.iload_n 3, 1) := by decide +kernel
theorem d_K_make_128 : decode b_K_make 128 = .ok (.ireturn, 1) := by decide +kernel
theorem d_K_set_0 : decode b_K_set 0 = .ok (.aload_n 0, 1) := by decide +kernel
theorem d_K_set_1 : decode b_K_set 1 = .ok (.iload_n 1, 1) := by decide +kernel
theorem d_K_set_2 : decode b_K_set 2 = .ok (.iload_n 2, 1) := by decide +kernel
theorem d_K_set_3 : decode b_K_set 3 = .ok (.invokevirtual 58, 3) := by decide +kernel
theorem d_K_set_6 : decode b_K_set 6 = .ok (.astore 4, 2) := by decide +kernel
theorem d_K_set_8 : decode b_K_set 8 = .ok (.aload_n 0, 1) := by decide +kernel
theorem d_K_set_9 : decode b_K_set 9 = .ok (.iload_n 3, 1) := by decide +kernel
theorem d_K_set_10 : decode b_K_set 10 = .ok (.invokevirtual 62, 3) := by decide +kernel
theorem d_K_set_13 : decode b_K_set 13 = .ok (.aload 4, 2) := by decide +kernel
theorem d_K_set_15 : decode b_K_set 15 = .ok (.getfield 66, 3) := by decide +kernel
theorem d_K_set_18 : decode b_K_set 18 = .ok (.iload_n 2, 1) := by decide +kernel
theorem d_K_set_19 : decode b_K_set 19 = .ok (.iaload, 1) := by decide +kernel
theorem d_K_set_20 : decode b_K_set 20 = .ok (.istore 5, 2) := by decide +kernel
theorem d_K_set_22 : decode b_K_set 22 = .ok (.aload 4, 2) := by decide +kernel
theorem d_K_set_24 : decode b_K_set 24 = .ok (.getfield 66, 3) := by decide +kernel
theorem d_K_set_27 : decode b_K_set 27 = .ok (.iload_n 2, 1) := by decide +kernel
theorem d_K_set_28 : decode b_K_set 28 = .ok (.iload_n 3, 1) := by decide +kernel
theorem d_K_set_29 : decode b_K_set 29 = .ok (.iastore, 1) := by decide +kernel
theorem d_K_set_30 : decode b_K_set 30 = .ok (.iload 5, 2) := by decide +kernel
theorem d_K_set_32 : decode b_K_set 32 = .ok (.ireturn, 1) := by decide +kernel
theorem d_K_get_0 : decode b_K_get 0 = .ok (.aload_n 0, 1) := by decide +kernel
theorem d_K_get_1 : decode b_K_get 1 = .ok (.iload_n 1, 1) := by decide +kernel
theorem d_K_get_2 : decode b_K_get 2 = .ok (.iload_n 2, 1) := by decide +kernel
theorem d_K_get_3 : decode b_K_get 3 = .ok (.invokevirtual 58, 3) := by decide +kernel
theorem d_K_get_6 : decode b_K_get 6 = .ok (.getfield 66, 3) := by decide +kernel
theorem d_K_get_9 : decode b_K_get 9 = .ok (.iload_n 2, 1) := by decide +kernel
theorem d_K_get_10 : decode b_K_get 10 = .ok (.iaload, 1) := by decide +kernel
theorem d_K_get_11 : decode b_K_get 11 = .ok (.ireturn, 1) := by decide +kernel
theorem d_K_root_0 : decode b_K_root 0 = .ok (.iload_n 1, 1) := by decide +kernel
theorem d_K_root_1 : decode b_K_root 1 = .ok (.ifCond .lt 12, 3) := by decide +kernel
theorem d_K_root_4 : decode b_K_root 4 = .ok (.iload_n 1, 1) := by decide +kernel
theorem d_K_root_5 : decode b_K_root 5 = .ok (.aload_n 0, 1) := by decide +kernel
theorem d_K_root_6 : decode b_K_root 6 = .ok (.getfield 15, 3) := by decide +kernel
theorem d_K_root_9 : decode b_K_root 9 = .ok (.arraylength, 1) := by decide +kernel
theorem d_K_root_10 : decode b_K_root 10 = .ok (.if_icmp .lt 13, 3) := by decide +kernel
theorem d_K_root_13 : decode b_K_root 13 = .ok (.new 69, 3) := by decide +kernel
theorem d_K_root_16 : decode b_K_root 16 = .ok (.dup, 1) := by decide +kernel
theorem d_K_root_17 : decode b_K_root 17 = .ok (.ldc 71, 2) := by decide +kernel
theorem d_K_root_19 : decode b_K_root 19 = .ok (.invokespecial 73, 3) := by decide +kernel
theorem d_K_root_22 : decode b_K_root 22 = .ok (.athrow, 1) := by decide +kernel
theorem d_K_root_23 : decode b_K_root 23 = .ok (.aload_n 0, 1) := by decide +kernel
theorem d_K_root_24 : decode b_K_root 24 = .ok (.iload_n 2, 1) := by decide +kernel
theorem d_K_root_25 : decode b_K_root 25 = .ok (.invokevirtual 62, 3) := by decide +kernel
theorem d_K_root_28 : decode b_K_root 28 = .ok (.aload_n 0, 1) := by decide +kernel
theorem d_K_root_29 : decode b_K_root 29 = .ok (.getfield 15, 3) := by decide +kernel
theorem d_K_root_32 : decode b_K_root 32 = .ok (.iload_n 1, 1) := by decide +kernel
theorem d_K_root_33 : decode b_K_root 33 = .ok (.iaload, 1) := by decide +kernel
theorem d_K_root_34 : decode b_K_root 34 = .ok (.istore_n 3, 1) := by decide +kernel
theorem d_K_root_35 : decode b_K_root 35 = .ok (.aload_n 0, 1) := by decide +kernel
theorem d_K_root_36 : decode b_K_root 36 = .ok (.getfield 15, 3) := by decide +kernel
theorem d_K_root_39 : decode b_K_root 39 = .ok (.iload_n 1, 1) := by decide +kernel
theorem d_K_root_40 : decode b_K_root 40 = .ok (.iload_n 2, 1) := by decide +kernel
theorem d_K_root_41 : decode b_K_root 41 = .ok (.iastore, 1) := by decide +kernel
theorem d_K_root_42 : decode b_K_root 42 = .ok (.iload_n 3, 1) := by decide +kernel
theorem d_K_root_43 : decode b_K_root 43 = .ok (.ireturn, 1) := by decide +kernel
theorem d_K_clear_0 : decode b_K_clear 0 = .ok (.aload_n 0, 1) := by decide +kernel
theorem d_K_clear_1 : decode b_K_clear 1 = .ok (.aload_n 0, 1) := by decide +kernel
theorem d_K_clear_2 : decode b_K_clear 2 = .ok (.getfield 25, 3) := by decide +kernel
theorem d_K_clear_5 : decode b_K_clear 5 = .ok (.invokevirtual 74, 3) := by decide +kernel
theorem d_K_clear_8 : decode b_K_clear 8 = .ok (.aload_n 0, 1) := by decide +kernel
theorem d_K_clear_9 : decode b_K_clear 9 = .ok (.invokevirtual 78, 3) := by decide +kernel
theorem d_K_clear_12 : decode b_K_clear 12 = .ok (.istore_n 1, 1) := by decide +kernel
theorem d_K_clear_13 : decode b_K_clear 13 = .ok (.aload_n 0, 1) := by decide +kernel
theorem d_K_clear_14 : decode b_K_clear 14 = .ok (.aload_n 0, 1) := by decide +kernel
theorem d_K_clear_15 : decode b_K_clear 15 = .ok (.getfield 29, 3) := by decide +kernel
theorem d_K_clear_18 : decode b_K_clear 18 = .ok (.invokevirtual 74, 3) := by decide +kernel
theorem d_K_clear_21 : decode b_K_clear 21 = .ok (.aload_n 0, 1) := by decide +kernel
theorem d_K_clear_22 : decode b_K_clear 22 = .ok (.invokevirtual 82, 3) := by decide +kernel
theorem d_K_clear_25 : decode b_K_clear 25 = .ok (.aload_n 0, 1) := by decide +kernel
theorem d_K_clear_26 : decode b_K_clear 26 = .ok (.dup, 1) := by decide +kernel
theorem d_K_clear_27 : decode b_K_clear 27 = .ok (.getfield 85, 3) := by decide +kernel
theorem d_K_clear_30 : decode b_K_clear 30 = .ok (.iconst 1, 1) := by decide +kernel
theorem d_K_clear_31 : decode b_K_clear 31 = .ok (.iadd, 1) := by decide +kernel
theorem d_K_clear_32 : decode b_K_clear 32 = .ok (.putfield 85, 3) := by decide +kernel
theorem d_K_clear_35 : decode b_K_clear 35 = .ok (.iload_n 1, 1) := by decide +kernel
theorem d_K_clear_36 : decode b_K_clear 36 = .ok (.ireturn, 1) := by decide +kernel
theorem d_K_take_0 : decode b_K_take 0 = .ok (.aload_n 0, 1) := by decide +kernel
theorem d_K_take_1 : decode b_K_take 1 = .ok (.invokevirtual 88, 3) := by decide +kernel
theorem d_K_take_4 : decode b_K_take 4 = .ok (.ifCond .gt 5, 3) := by decide +kernel
theorem d_K_take_7 : decode b_K_take 7 = .ok (.iconst (-1), 1) := by decide +kernel
theorem d_K_take_8 : decode b_K_take 8 = .ok (.ireturn, 1) := by decide +kernel
theorem d_K_take_9 : decode b_K_take 9 = .ok (.aload_n 0, 1) := by decide +kernel
theorem d_K_take_10 : decode b_K_take 10 = .ok (.iconst 0, 1) := by decide +kernel
theorem d_K_take_11 : decode b_K_take 11 = .ok (.invokevirtual 91, 3) := by decide +kernel
theorem d_K_take_14 : decode b_K_take 14 = .ok (.istore_n 1, 1) := by decide +kernel
theorem d_K_take_15 : decode b_K_take 15 = .ok (.aload_n 0, 1) := by decide +kernel
theorem d_K_take_16 : decode b_K_take 16 = .ok (.dup, 1) := by decide +kernel
theorem d_K_take_17 : decode b_K_take 17 = .ok (.getfield 95, 3) := by decide +kernel
theorem d_K_take_20 : decode b_K_take 20 = .ok (.iconst 1, 1) := by decide +kernel
theorem d_K_take_21 : decode b_K_take 21 = .ok (.iadd, 1) := by decide +kernel
theorem d_K_take_22 : decode b_K_take 22 = .ok (.putfield 95, 3) := by decide +kernel
theorem d_K_take_25 : decode b_K_take 25 = .ok (.aload_n 0, 1) := by decide +kernel
theorem d_K_take_26 : decode b_K_take 26 = .ok (.iload_n 1, 1) := by decide +kernel
theorem d_K_take_27 : decode b_K_take 27 = .ok (.invokevirtual 98, 3) := by decide +kernel
theorem d_K_take_30 : decode b_K_take 30 = .ok (.astore_n 2, 1) := by decide +kernel
theorem d_K_take_31 : decode b_K_take 31 = .ok (.aload_n 2, 1) := by decide +kernel
theorem d_K_take_32 : decode b_K_take 32 = .ok (.ifnull 8, 3) := by decide +kernel
theorem d_K_take_35 : decode b_K_take 35 = .ok (.aload_n 2, 1) := by decide +kernel
theorem d_K_take_36 : decode b_K_take 36 = .ok (.iconst 0, 1) := by decide +kernel
theorem d_K_take_37 : decode b_K_take 37 = .ok (.putfield 102, 3) := by decide +kernel
theorem d_K_take_40 : decode b_K_take 40 = .ok (.iload_n 1, 1) := by decide +kernel
theorem d_K_take_41 : decode b_K_take 41 = .ok (.ireturn, 1) := by decide +kernel
theorem d_K_queued_0 : decode b_K_queued 0 = .ok (.iload_n 1, 1) := by decide +kernel
theorem d_K_queued_1 : decode b_K_queued 1 = .ok (.ifCond .ge 13, 3) := by decide +kernel
theorem d_K_queued_4 : decode b_K_queued 4 = .ok (.new 32, 3) := by decide +kernel
theorem d_K_queued_7 : decode b_K_queued 7 = .ok (.dup, 1) := by decide +kernel
theorem d_K_queued_8 : decode b_K_queued 8 = .ok (.ldc 105, 2) := by decide +kernel
theorem d_K_queued_10 : decode b_K_queued 10 = .ok (.invokespecial 36, 3) := by decide +kernel
theorem d_K_queued_13 : decode b_K_queued 13 = .ok (.athrow, 1) := by decide +kernel
theorem d_K_queued_14 : decode b_K_queued 14 = .ok (.aload_n 0, 1) := by decide +kernel
theorem d_K_queued_15 : decode b_K_queued 15 = .ok (.iload_n 1, 1) := by decide +kernel
theorem d_K_queued_16 : decode b_K_queued 16 = .ok (.invokevirtual 91, 3) := by decide +kernel
theorem d_K_queued_19 : decode b_K_queued 19 = .ok (.ireturn, 1) := by decide +kernel
theorem d_K_sweep_0 : decode b_K_sweep 0 = .ok (.aload_n 0, 1) := by decide +kernel
theorem d_K_sweep_1 : decode b_K_sweep 1 = .ok (.aload_n 0, 1) := by decide +kernel
theorem d_K_sweep_2 : decode b_K_sweep 2 = .ok (.getfield 29, 3) := by decide +kernel
theorem d_K_sweep_5 : decode b_K_sweep 5 = .ok (.invokevirtual 107, 3) := by decide +kernel
theorem d_K_sweep_8 : decode b_K_sweep 8 = .ok (.iconst 0, 1) := by decide +kernel
theorem d_K_sweep_9 : decode b_K_sweep 9 = .ok (.istore_n 1, 1) := by decide +kernel
theorem d_K_sweep_10 : decode b_K_sweep 10 = .ok (.iconst 0, 1) := by decide +kernel
theorem d_K_sweep_11 : decode b_K_sweep 11 = .ok (.istore_n 2, 1) := by decide +kernel
theorem d_K_sweep_12 : decode b_K_sweep 12 = .ok (.iload_n 2, 1) := by decide +kernel
theorem d_K_sweep_13 : decode b_K_sweep 13 = .ok (.aload_n 0, 1) := by decide +kernel
theorem d_K_sweep_14 : decode b_K_sweep 14 = .ok (.getfield 11, 3) := by decide +kernel
theorem d_K_sweep_17 : decode b_K_sweep 17 = .ok (.arraylength, 1) := by decide +kernel
theorem d_K_sweep_18 : decode b_K_sweep 18 = .ok (.if_icmp .ge 39, 3) := by decide +kernel
theorem d_K_sweep_21 : decode b_K_sweep 21 = .ok (.aload_n 0, 1) := by decide +kernel
theorem d_K_sweep_22 : decode b_K_sweep 22 = .ok (.getfield 11, 3) := by decide +kernel
theorem d_K_sweep_25 : decode b_K_sweep 25 = .ok (.iload_n 2, 1) := by decide +kernel
theorem d_K_sweep_26 : decode b_K_sweep 26 = .ok (.aaload, 1) := by decide +kernel
theorem d_K_sweep_27 : decode b_K_sweep 27 = .ok (.ifnull 24, 3) := by decide +kernel
theorem d_K_sweep_30 : decode b_K_sweep 30 = .ok (.aload_n 0, 1) := by decide +kernel
theorem d_K_sweep_31 : decode b_K_sweep 31 = .ok (.getfield 29, 3) := by decide +kernel
theorem d_K_sweep_34 : decode b_K_sweep 34 = .ok (.iload_n 2, 1) := by decide +kernel
theorem d_K_sweep_35 : decode b_K_sweep 35 = .ok (.invokevirtual 110, 3) := by decide +kernel
theorem d_K_sweep_38 : decode b_K_sweep 38 = .ok (.ifCond .ne 13, 3) := by decide +kernel
theorem d_K_sweep_41 : decode b_K_sweep 41 = .ok (.aload_n 0, 1) := by decide +kernel
theorem d_K_sweep_42 : decode b_K_sweep 42 = .ok (.getfield 11, 3) := by decide +kernel
theorem d_K_sweep_45 : decode b_K_sweep 45 = .ok (.iload_n 2, 1) := by decide +kernel
theorem d_K_sweep_46 : decode b_K_sweep 46 = .ok (.aconst_null, 1) := by decide +kernel
theorem d_K_sweep_47 : decode b_K_sweep 47 = .ok (.aastore, 1) := by decide +kernel
theorem d_K_sweep_48 : decode b_K_sweep 48 = .ok (.iinc 1 1, 3) := by decide +kernel
theorem d_K_sweep_51 : decode b_K_sweep 51 = .ok (.iinc 2 1, 3) := by decide +kernel
theorem d_K_sweep_54 : decode b_K_sweep 54 = .ok (.goto (-42), 3) := by decide +kernel
theorem d_K_sweep_57 : decode b_K_sweep 57 = .ok (.aload_n 0, 1) := by decide +kernel
theorem d_K_sweep_58 : decode b_K_sweep 58 = .ok (.dup, 1) := by decide +kernel
theorem d_K_sweep_59 : decode b_K_sweep 59 = .ok (.getfield 55, 3) := by decide +kernel
theorem d_K_sweep_62 : decode b_K_sweep 62 = .ok (.iload_n 1, 1) := by decide +kernel
theorem d_K_sweep_63 : decode b_K_sweep 63 = .ok (.isub, 1) := by decide +kernel
theorem d_K_sweep_64 : decode b_K_sweep 64 = .ok (.putfield 55, 3) := by decide +kernel
theorem d_K_sweep_67 : decode b_K_sweep 67 = .ok (.iload_n 1, 1) := by decide +kernel
theorem d_K_sweep_68 : decode b_K_sweep 68 = .ok (.ireturn, 1) := by decide +kernel
theorem d_K_identity_0 : decode b_K_identity 0 = .ok (.aload_n 0, 1) := by decide +kernel
theorem d_K_identity_1 : decode b_K_identity 1 = .ok (.iload_n 1, 1) := by decide +kernel
theorem d_K_identity_2 : decode b_K_identity 2 = .ok (.invokevirtual 114, 3) := by decide +kernel
theorem d_K_identity_5 : decode b_K_identity 5 = .ok (.astore_n 2, 1) := by decide +kernel
theorem d_K_identity_6 : decode b_K_identity 6 = .ok (.aload_n 2, 1) := by decide +kernel
theorem d_K_identity_7 : decode b_K_identity 7 = .ok (.getfield 117, 3) := by decide +kernel
theorem d_K_identity_10 : decode b_K_identity 10 = .ok (.iconst (-1), 1) := by decide +kernel
theorem d_K_identity_11 : decode b_K_identity 11 = .ok (.if_icmp .ne 21, 3) := by decide +kernel
theorem d_K_identity_14 : decode b_K_identity 14 = .ok (.aload_n 2, 1) := by decide +kernel
theorem d_K_identity_15 : decode b_K_identity 15 = .ok (.aload_n 0, 1) := by decide +kernel
theorem d_K_identity_16 : decode b_K_identity 16 = .ok (.getfield 120, 3) := by decide +kernel
theorem d_K_identity_19 : decode b_K_identity 19 = .ok (.putfield 117, 3) := by decide +kernel
theorem d_K_identity_22 : decode b_K_identity 22 = .ok (.aload_n 0, 1) := by decide +kernel
theorem d_K_identity_23 : decode b_K_identity 23 = .ok (.dup, 1) := by decide +kernel
theorem d_K_identity_24 : decode b_K_identity 24 = .ok (.getfield 120, 3) := by decide +kernel
theorem d_K_identity_27 : decode b_K_identity 27 = .ok (.iconst 1, 1) := by decide +kernel
theorem d_K_identity_28 : decode b_K_identity 28 = .ok (.iadd, 1) := by decide +kernel
theorem d_K_identity_29 : decode b_K_identity 29 = .ok (.putfield 120, 3) := by decide +kernel
theorem d_K_identity_32 : decode b_K_identity 32 = .ok (.aload_n 2, 1) := by decide +kernel
theorem d_K_identity_33 : decode b_K_identity 33 = .ok (.getfield 117, 3) := by decide +kernel
theorem d_K_identity_36 : decode b_K_identity 36 = .ok (.ireturn, 1) := by decide +kernel
theorem d_K_about_0 : decode b_K_about 0 = .ok (.aload_n 0, 1) := by decide +kernel
theorem d_K_about_1 : decode b_K_about 1 = .ok (.iload_n 1, 1) := by decide +kernel
theorem d_K_about_2 : decode b_K_about 2 = .ok (.invokevirtual 114, 3) := by decide +kernel
theorem d_K_about_5 : decode b_K_about 5 = .ok (.astore_n 3, 1) := by decide +kernel
theorem d_K_about_6 : decode b_K_about 6 = .ok (.iload_n 2, 1) := by decide +kernel
theorem d_K_about_7 : decode b_K_about 7 = .ok (.tableswitch 90 0 3 #[29, 34, 40, 65], 29) := by decide +kernel
theorem d_K_about_36 : decode b_K_about 36 = .ok (.aload_n 3, 1) := by decide +kernel
theorem d_K_about_37 : decode b_K_about 37 = .ok (.getfield 102, 3) := by decide +kernel
theorem d_K_about_40 : decode b_K_about 40 = .ok (.ireturn, 1) := by decide +kernel
theorem d_K_about_41 : decode b_K_about 41 = .ok (.aload_n 3, 1) := by decide +kernel
theorem d_K_about_42 : decode b_K_about 42 = .ok (.getfield 66, 3) := by decide +kernel
theorem d_K_about_45 : decode b_K_about 45 = .ok (.arraylength, 1) := by decide +kernel
theorem d_K_about_46 : decode b_K_about 46 = .ok (.ireturn, 1) := by decide +kernel
theorem d_K_about_47 : decode b_K_about 47 = .ok (.aload_n 0, 1) := by decide +kernel
theorem d_K_about_48 : decode b_K_about 48 = .ok (.aload_n 0, 1) := by decide +kernel
theorem d_K_about_49 : decode b_K_about 49 = .ok (.getfield 29, 3) := by decide +kernel
theorem d_K_about_52 : decode b_K_about 52 = .ok (.invokevirtual 74, 3) := by decide +kernel
theorem d_K_about_55 : decode b_K_about 55 = .ok (.aload_n 0, 1) := by decide +kernel
theorem d_K_about_56 : decode b_K_about 56 = .ok (.getfield 29, 3) := by decide +kernel
theorem d_K_about_59 : decode b_K_about 59 = .ok (.iload_n 1, 1) := by decide +kernel
theorem d_K_about_60 : decode b_K_about 60 = .ok (.invokevirtual 110, 3) := by decide +kernel
theorem d_K_about_63 : decode b_K_about 63 = .ok (.ifCond .eq 7, 3) := by decide +kernel
theorem d_K_about_66 : decode b_K_about 66 = .ok (.iconst 1, 1) := by decide +kernel
theorem d_K_about_67 : decode b_K_about 67 = .ok (.goto 4, 3) := by decide +kernel
theorem d_K_about_70 : decode b_K_about 70 = .ok (.iconst 0, 1) := by decide +kernel
theorem d_K_about_71 : decode b_K_about 71 = .ok (.ireturn, 1) := by decide +kernel
theorem d_K_about_72 : decode b_K_about 72 = .ok (.aload_n 0, 1) := by decide +kernel
theorem d_K_about_73 : decode b_K_about 73 = .ok (.aload_n 0, 1) := by decide +kernel
theorem d_K_about_74 : decode b_K_about 74 = .ok (.getfield 29, 3) := by decide +kernel
theorem d_K_about_77 : decode b_K_about 77 = .ok (.invokevirtual 107, 3) := by decide +kernel
theorem d_K_about_80 : decode b_K_about 80 = .ok (.aload_n 0, 1) := by decide +kernel
theorem d_K_about_81 : decode b_K_about 81 = .ok (.getfield 29, 3) := by decide +kernel
theorem d_K_about_84 : decode b_K_about 84 = .ok (.iload_n 1, 1) := by decide +kernel
theorem d_K_about_85 : decode b_K_about 85 = .ok (.invokevirtual 110, 3) := by decide +kernel
theorem d_K_about_88 : decode b_K_about 88 = .ok (.ifCond .eq 7, 3) := by decide +kernel
theorem d_K_about_91 : decode b_K_about 91 = .ok (.iconst 1, 1) := by decide +kernel
theorem d_K_about_92 : decode b_K_about 92 = .ok (.goto 4, 3) := by decide +kernel
theorem d_K_about_95 : decode b_K_about 95 = .ok (.iconst 0, 1) := by decide +kernel
theorem d_K_about_96 : decode b_K_about 96 = .ok (.ireturn, 1) := by decide +kernel
theorem d_K_about_97 : decode b_K_about 97 = .ok (.new 32, 3) := by decide +kernel
theorem d_K_about_100 : decode b_K_about 100 = .ok (.dup, 1) := by decide +kernel
theorem d_K_about_101 : decode b_K_about 101 = .ok (.ldc 123, 2) := by decide +kernel
theorem d_K_about_103 : decode b_K_about 103 = .ok (.invokespecial 36, 3) := by decide +kernel
theorem d_K_about_106 : decode b_K_about 106 = .ok (.athrow, 1) := by decide +kernel
theorem d_K_count_0 : decode b_K_count 0 = .ok (.iload_n 1, 1) := by decide +kernel
theorem d_K_count_1 : decode b_K_count 1 = .ok (.tableswitch 118 0 8 #[51, 56, 72, 88, 93, 98, 103, 108, 113], 51) := by decide +kernel
theorem d_K_count_52 : decode b_K_count 52 = .ok (.aload_n 0, 1) := by decide +kernel
theorem d_K_count_53 : decode b_K_count 53 = .ok (.getfield 55, 3) := by decide +kernel
theorem d_K_count_56 : decode b_K_count 56 = .ok (.ireturn, 1) := by decide +kernel
theorem d_K_count_57 : decode b_K_count 57 = .ok (.aload_n 0, 1) := by decide +kernel
theorem d_K_count_58 : decode b_K_count 58 = .ok (.aload_n 0, 1) := by decide +kernel
theorem d_K_count_59 : decode b_K_count 59 = .ok (.getfield 29, 3) := by decide +kernel
theorem d_K_count_62 : decode b_K_count 62 = .ok (.invokevirtual 74, 3) := by decide +kernel
theorem d_K_count_65 : decode b_K_count 65 = .ok (.aload_n 0, 1) := by decide +kernel
theorem d_K_count_66 : decode b_K_count 66 = .ok (.getfield 29, 3) := by decide +kernel
theorem d_K_count_69 : decode b_K_count 69 = .ok (.getfield 125, 3) := by decide +kernel
theorem d_K_count_72 : decode b_K_count 72 = .ok (.ireturn, 1) := by decide +kernel
theorem d_K_count_73 : decode b_K_count 73 = .ok (.aload_n 0, 1) := by decide +kernel
theorem d_K_count_74 : decode b_K_count 74 = .ok (.aload_n 0, 1) := by decide +kernel
theorem d_K_count_75 : decode b_K_count 75 = .ok (.getfield 29, 3) := by decide +kernel
theorem d_K_count_78 : decode b_K_count 78 = .ok (.invokevirtual 107, 3) := by decide +kernel
theorem d_K_count_81 : decode b_K_count 81 = .ok (.aload_n 0, 1) := by decide +kernel
theorem d_K_count_82 : decode b_K_count 82 = .ok (.getfield 29, 3) := by decide +kernel
theorem d_K_count_85 : decode b_K_count 85 = .ok (.getfield 125, 3) := by decide +kernel
theorem d_K_count_88 : decode b_K_count 88 = .ok (.ireturn, 1) := by decide +kernel
theorem d_K_count_89 : decode b_K_count 89 = .ok (.aload_n 0, 1) := by decide +kernel
theorem d_K_count_90 : decode b_K_count 90 = .ok (.invokevirtual 88, 3) := by decide +kernel
theorem d_K_count_93 : decode b_K_count 93 = .ok (.ireturn, 1) := by decide +kernel
theorem d_K_count_94 : decode b_K_count 94 = .ok (.aload_n 0, 1) := by decide +kernel
theorem d_K_count_95 : decode b_K_count 95 = .ok (.invokevirtual 128, 3) := by decide +kernel
theorem d_K_count_98 : decode b_K_count 98 = .ok (.ireturn, 1) := by decide +kernel
theorem d_K_count_99 : decode b_K_count 99 = .ok (.aload_n 0, 1) := by decide +kernel
theorem d_K_count_100 : decode b_K_count 100 = .ok (.getfield 131, 3) := by decide +kernel
theorem d_K_count_103 : decode b_K_count 103 = .ok (.ireturn, 1) := by decide +kernel
theorem d_K_count_104 : decode b_K_count 104 = .ok (.aload_n 0, 1) := by decide +kernel
theorem d_K_count_105 : decode b_K_count 105 = .ok (.getfield 85, 3) := by decide +kernel
theorem d_K_count_108 : decode b_K_count 108 = .ok (.ireturn, 1) := by decide +kernel
theorem d_K_count_109 : decode b_K_count 109 = .ok (.aload_n 0, 1) := by decide +kernel
theorem d_K_count_110 : decode b_K_count 110 = .ok (.getfield 120, 3) := by decide +kernel
theorem d_K_count_113 : decode b_K_count 113 = .ok (.ireturn, 1) := by decide +kernel
theorem d_K_count_114 : decode b_K_count 114 = .ok (.aload_n 0, 1) := by decide +kernel
theorem d_K_count_115 : decode b_K_count 115 = .ok (.getfield 43, 3) := by decide +kernel
theorem d_K_count_118 : decode b_K_count 118 = .ok (.ireturn, 1) := by decide +kernel
theorem d_K_count_119 : decode b_K_count 119 = .ok (.new 32, 3) := by decide +kernel
theorem d_K_count_122 : decode b_K_count 122 = .ok (.dup, 1) := by decide +kernel
theorem d_K_count_123 : decode b_K_count 123 = .ok (.ldc 134, 2) := by decide +kernel
theorem d_K_count_125 : decode b_K_count 125 = .ok (.invokespecial 36, 3) := by decide +kernel
theorem d_K_count_128 : decode b_K_count 128 = .ok (.athrow, 1) := by decide +kernel
theorem d_K_thingOrNull_0 : decode b_K_thingOrNull 0 = .ok (.iload_n 1, 1) := by decide +kernel
theorem d_K_thingOrNull_1 : decode b_K_thingOrNull 1 = .ok (.ifCond .lt 21, 3) := by decide +kernel
theorem d_K_thingOrNull_4 : decode b_K_thingOrNull 4 = .ok (.iload_n 1, 1) := by decide +kernel
theorem d_K_thingOrNull_5 : decode b_K_thingOrNull 5 = .ok (.aload_n 0, 1) := by decide +kernel
theorem d_K_thingOrNull_6 : decode b_K_thingOrNull 6 = .ok (.getfield 11, 3) := by decide +kernel
theorem d_K_thingOrNull_9 : decode b_K_thingOrNull 9 = .ok (.arraylength, 1) := by decide +kernel
theorem d_K_thingOrNull_10 : decode b_K_thingOrNull 10 = .ok (.if_icmp .ge 12, 3) := by decide +kernel
theorem d_K_thingOrNull_13 : decode b_K_thingOrNull 13 = .ok (.aload_n 0, 1) := by decide +kernel
theorem d_K_thingOrNull_14 : decode b_K_thingOrNull 14 = .ok (.getfield 11, 3) := by decide +kernel
theorem d_K_thingOrNull_17 : decode b_K_thingOrNull 17 = .ok (.iload_n 1, 1) := by decide +kernel
theorem d_K_thingOrNull_18 : decode b_K_thingOrNull 18 = .ok (.aaload, 1) := by decide +kernel
theorem d_K_thingOrNull_19 : decode b_K_thingOrNull 19 = .ok (.goto 4, 3) := by decide +kernel
theorem d_K_thingOrNull_22 : decode b_K_thingOrNull 22 = .ok (.aconst_null, 1) := by decide +kernel
theorem d_K_thingOrNull_23 : decode b_K_thingOrNull 23 = .ok (.areturn, 1) := by decide +kernel
theorem d_K_thingThere_0 : decode b_K_thingThere 0 = .ok (.aload_n 0, 1) := by decide +kernel
theorem d_K_thingThere_1 : decode b_K_thingThere 1 = .ok (.iload_n 1, 1) := by decide +kernel
theorem d_K_thingThere_2 : decode b_K_thingThere 2 = .ok (.invokevirtual 98, 3) := by decide +kernel
theorem d_K_thingThere_5 : decode b_K_thingThere 5 = .ok (.astore_n 2, 1) := by decide +kernel
theorem d_K_thingThere_6 : decode b_K_thingThere 6 = .ok (.aload_n 2, 1) := by decide +kernel
theorem d_K_thingThere_7 : decode b_K_thingThere 7 = .ok (.ifnonnull 13, 3) := by decide +kernel
theorem d_K_thingThere_10 : decode b_K_thingThere 10 = .ok (.new 69, 3) := by decide +kernel
theorem d_K_thingThere_13 : decode b_K_thingThere 13 = .ok (.dup, 1) := by decide +kernel
theorem d_K_thingThere_14 : decode b_K_thingThere 14 = .ok (.ldc 136, 2) := by decide +kernel
theorem d_K_thingThere_16 : decode b_K_thingThere 16 = .ok (.invokespecial 73, 3) := by decide +kernel
theorem d_K_thingThere_19 : decode b_K_thingThere 19 = .ok (.athrow, 1) := by decide +kernel
theorem d_K_thingThere_20 : decode b_K_thingThere 20 = .ok (.aload_n 2, 1) := by decide +kernel
theorem d_K_thingThere_21 : decode b_K_thingThere 21 = .ok (.areturn, 1) := by decide +kernel
theorem d_K_thingWithField_0 : decode b_K_thingWithField 0 = .ok (.aload_n 0, 1) := by decide +kernel
theorem d_K_thingWithField_1 : decode b_K_thingWithField 1 = .ok (.iload_n 1, 1) := by decide +kernel
theorem d_K_thingWithField_2 : decode b_K_thingWithField 2 = .ok (.invokevirtual 114, 3) := by decide +kernel
theorem d_K_thingWithField_5 : decode b_K_thingWithField 5 = .ok (.astore_n 3, 1) := by decide +kernel
theorem d_K_thingWithField_6 : decode b_K_thingWithField 6 = .ok (.aload_n 3, 1) := by decide +kernel
theorem d_K_thingWithField_7 : decode b_K_thingWithField 7 = .ok (.iload_n 2, 1) := by decide +kernel
theorem d_K_thingWithField_8 : decode b_K_thingWithField 8 = .ok (.invokevirtual 138, 3) := by decide +kernel
theorem d_K_thingWithField_11 : decode b_K_thingWithField 11 = .ok (.ifCond .ne 13, 3) := by decide +kernel
theorem d_K_thingWithField_14 : decode b_K_thingWithField 14 = .ok (.new 69, 3) := by decide +kernel
theorem d_K_thingWithField_17 : decode b_K_thingWithField 17 = .ok (.dup, 1) := by decide +kernel
theorem d_K_thingWithField_18 : decode b_K_thingWithField 18 = .ok (.ldc 141, 2) := by decide +kernel
theorem d_K_thingWithField_20 : decode b_K_thingWithField 20 = .ok (.invokespecial 73, 3) := by decide +kernel
theorem d_K_thingWithField_23 : decode b_K_thingWithField 23 = .ok (.athrow, 1) := by decide +kernel
theorem d_K_thingWithField_24 : decode b_K_thingWithField 24 = .ok (.aload_n 3, 1) := by decide +kernel
theorem d_K_thingWithField_25 : decode b_K_thingWithField 25 = .ok (.areturn, 1) := by decide +kernel
theorem d_K_needThingOrNone_0 : decode b_K_needThingOrNone 0 = .ok (.iload_n 1, 1) := by decide +kernel
theorem d_K_needThingOrNone_1 : decode b_K_needThingOrNone 1 = .ok (.iconst (-1), 1) := by decide +kernel
theorem d_K_needThingOrNone_2 : decode b_K_needThingOrNone 2 = .ok (.if_icmp .eq 21, 3) := by decide +kernel
theorem d_K_needThingOrNone_5 : decode b_K_needThingOrNone 5 = .ok (.aload_n 0, 1) := by decide +kernel
theorem d_K_needThingOrNone_6 : decode b_K_needThingOrNone 6 = .ok (.iload_n 1, 1) := by decide +kernel
theorem d_K_needThingOrNone_7 : decode b_K_needThingOrNone 7 = .ok (.invokevirtual 98, 3) := by decide +kernel
theorem d_K_needThingOrNone_10 : decode b_K_needThingOrNone 10 = .ok (.ifnonnull 13, 3) := by decide +kernel
theorem d_K_needThingOrNone_13 : decode b_K_needThingOrNone 13 = .ok (.new 69, 3) := by decide +kernel
theorem d_K_needThingOrNone_16 : decode b_K_needThingOrNone 16 = .ok (.dup, 1) := by decide +kernel
theorem d_K_needThingOrNone_17 : decode b_K_needThingOrNone 17 = .ok (.ldc 136, 2) := by decide +kernel
theorem d_K_needThingOrNone_19 : decode b_K_needThingOrNone 19 = .ok (.invokespecial 73, 3) := by decide +kernel
theorem d_K_needThingOrNone_22 : decode b_K_needThingOrNone 22 = .ok (.athrow, 1) := by decide +kernel
theorem d_K_needThingOrNone_23 : decode b_K_needThingOrNone 23 = .ok (.return_, 1) := by decide +kernel
theorem d_K_queueSize_0 : decode b_K_queueSize 0 = .ok (.aload_n 0, 1) := by decide +kernel
theorem d_K_queueSize_1 : decode b_K_queueSize 1 = .ok (.getfield 143, 3) := by decide +kernel
theorem d_K_queueSize_4 : decode b_K_queueSize 4 = .ok (.aload_n 0, 1) := by decide +kernel
theorem d_K_queueSize_5 : decode b_K_queueSize 5 = .ok (.getfield 95, 3) := by decide +kernel
theorem d_K_queueSize_8 : decode b_K_queueSize 8 = .ok (.isub, 1) := by decide +kernel
theorem d_K_queueSize_9 : decode b_K_queueSize 9 = .ok (.ireturn, 1) := by decide +kernel
theorem d_K_queuePlace_0 : decode b_K_queuePlace 0 = .ok (.iload_n 1, 1) := by decide +kernel
theorem d_K_queuePlace_1 : decode b_K_queuePlace 1 = .ok (.ifCond .lt 11, 3) := by decide +kernel
theorem d_K_queuePlace_4 : decode b_K_queuePlace 4 = .ok (.iload_n 1, 1) := by decide +kernel
theorem d_K_queuePlace_5 : decode b_K_queuePlace 5 = .ok (.aload_n 0, 1) := by decide +kernel
theorem d_K_queuePlace_6 : decode b_K_queuePlace 6 = .ok (.invokevirtual 88, 3) := by decide +kernel
theorem d_K_queuePlace_9 : decode b_K_queuePlace 9 = .ok (.if_icmp .lt 5, 3) := by decide +kernel
theorem d_K_queuePlace_12 : decode b_K_queuePlace 12 = .ok (.iconst (-1), 1) := by decide +kernel
theorem d_K_queuePlace_13 : decode b_K_queuePlace 13 = .ok (.ireturn, 1) := by decide +kernel
theorem d_K_queuePlace_14 : decode b_K_queuePlace 14 = .ok (.aload_n 0, 1) := by decide +kernel
theorem d_K_queuePlace_15 : decode b_K_queuePlace 15 = .ok (.getfield 95, 3) := by decide +kernel
theorem d_K_queuePlace_18 : decode b_K_queuePlace 18 = .ok (.iload_n 1, 1) := by decide +kernel
theorem d_K_queuePlace_19 : decode b_K_queuePlace 19 = .ok (.iadd, 1) := by decide +kernel
theorem d_K_queuePlace_20 : decode b_K_queuePlace 20 = .ok (.istore_n 2, 1) := by decide +kernel
theorem d_K_queuePlace_21 : decode b_K_queuePlace 21 = .ok (.iload_n 2, 1) := by decide +kernel
theorem d_K_queuePlace_22 : decode b_K_queuePlace 22 = .ok (.ifCond .lt 21, 3) := by decide +kernel
theorem d_K_queuePlace_25 : decode b_K_queuePlace 25 = .ok (.iload_n 2, 1) := by decide +kernel
theorem d_K_queuePlace_26 : decode b_K_queuePlace 26 = .ok (.aload_n 0, 1) := by decide +kernel
theorem d_K_queuePlace_27 : decode b_K_queuePlace 27 = .ok (.getfield 19, 3) := by decide +kernel
theorem d_K_queuePlace_30 : decode b_K_queuePlace 30 = .ok (.arraylength, 1) := by decide +kernel
theorem d_K_queuePlace_31 : decode b_K_queuePlace 31 = .ok (.if_icmp .ge 12, 3) := by decide +kernel
theorem d_K_queuePlace_34 : decode b_K_queuePlace 34 = .ok (.aload_n 0, 1) := by decide +kernel
theorem d_K_queuePlace_35 : decode b_K_queuePlace 35 = .ok (.getfield 19, 3) := by decide +kernel
theorem d_K_queuePlace_38 : decode b_K_queuePlace 38 = .ok (.iload_n 2, 1) := by decide +kernel
theorem d_K_queuePlace_39 : decode b_K_queuePlace 39 = .ok (.iaload, 1) := by decide +kernel
theorem d_K_queuePlace_40 : decode b_K_queuePlace 40 = .ok (.goto 4, 3) := by decide +kernel
theorem d_K_queuePlace_43 : decode b_K_queuePlace 43 = .ok (.iconst (-1), 1) := by decide +kernel
theorem d_K_queuePlace_44 : decode b_K_queuePlace 44 = .ok (.ireturn, 1) := by decide +kernel
theorem d_K_putInQueue_0 : decode b_K_putInQueue 0 = .ok (.aload_n 0, 1) := by decide +kernel
theorem d_K_putInQueue_1 : decode b_K_putInQueue 1 = .ok (.getfield 143, 3) := by decide +kernel
theorem d_K_putInQueue_4 : decode b_K_putInQueue 4 = .ok (.ifCond .lt 15, 3) := by decide +kernel
theorem d_K_putInQueue_7 : decode b_K_putInQueue 7 = .ok (.aload_n 0, 1) := by decide +kernel
theorem d_K_putInQueue_8 : decode b_K_putInQueue 8 = .ok (.getfield 143, 3) := by decide +kernel
theorem d_K_putInQueue_11 : decode b_K_putInQueue 11 = .ok (.aload_n 0, 1) := by decide +kernel
theorem d_K_putInQueue_12 : decode b_K_putInQueue 12 = .ok (.getfield 19, 3) := by decide +kernel
theorem d_K_putInQueue_15 : decode b_K_putInQueue 15 = .ok (.arraylength, 1) := by decide +kernel
theorem d_K_putInQueue_16 : decode b_K_putInQueue 16 = .ok (.if_icmp .lt 4, 3) := by decide +kernel
theorem d_K_putInQueue_19 : decode b_K_putInQueue 19 = .ok (.return_, 1) := by decide +kernel
theorem d_K_putInQueue_20 : decode b_K_putInQueue 20 = .ok (.aload_n 0, 1) := by decide +kernel
theorem d_K_putInQueue_21 : decode b_K_putInQueue 21 = .ok (.getfield 19, 3) := by decide +kernel
theorem d_K_putInQueue_24 : decode b_K_putInQueue 24 = .ok (.aload_n 0, 1) := by decide +kernel
theorem d_K_putInQueue_25 : decode b_K_putInQueue 25 = .ok (.getfield 143, 3) := by decide +kernel
theorem d_K_putInQueue_28 : decode b_K_putInQueue 28 = .ok (.iload_n 1, 1) := by decide +kernel
theorem d_K_putInQueue_29 : decode b_K_putInQueue 29 = .ok (.iastore, 1) := by decide +kernel
theorem d_K_putInQueue_30 : decode b_K_putInQueue 30 = .ok (.aload_n 0, 1) := by decide +kernel
theorem d_K_putInQueue_31 : decode b_K_putInQueue 31 = .ok (.dup, 1) := by decide +kernel
theorem d_K_putInQueue_32 : decode b_K_putInQueue 32 = .ok (.getfield 143, 3) := by decide +kernel
theorem d_K_putInQueue_35 : decode b_K_putInQueue 35 = .ok (.iconst 1, 1) := by decide +kernel
theorem d_K_putInQueue_36 : decode b_K_putInQueue 36 = .ok (.iadd, 1) := by decide +kernel
theorem d_K_putInQueue_37 : decode b_K_putInQueue 37 = .ok (.putfield 143, 3) := by decide +kernel
theorem d_K_putInQueue_40 : decode b_K_putInQueue 40 = .ok (.aload_n 2, 1) := by decide +kernel
theorem d_K_putInQueue_41 : decode b_K_putInQueue 41 = .ok (.iconst 1, 1) := by decide +kernel
theorem d_K_putInQueue_42 : decode b_K_putInQueue 42 = .ok (.putfield 146, 3) := by decide +kernel
theorem d_K_putInQueue_45 : decode b_K_putInQueue 45 = .ok (.return_, 1) := by decide +kernel
theorem d_K_waitingFinals_0 : decode b_K_waitingFinals 0 = .ok (.iconst 0, 1) := by decide +kernel
theorem d_K_waitingFinals_1 : decode b_K_waitingFinals 1 = .ok (.istore_n 1, 1) := by decide +kernel
theorem d_K_waitingFinals_2 : decode b_K_waitingFinals 2 = .ok (.iconst 0, 1) := by decide +kernel
theorem d_K_waitingFinals_3 : decode b_K_waitingFinals 3 = .ok (.istore_n 2, 1) := by decide +kernel
theorem d_K_waitingFinals_4 : decode b_K_waitingFinals 4 = .ok (.iload_n 2, 1) := by decide +kernel
theorem d_K_waitingFinals_5 : decode b_K_waitingFinals 5 = .ok (.aload_n 0, 1) := by decide +kernel
theorem d_K_waitingFinals_6 : decode b_K_waitingFinals 6 = .ok (.getfield 11, 3) := by decide +kernel
theorem d_K_waitingFinals_9 : decode b_K_waitingFinals 9 = .ok (.arraylength, 1) := by decide +kernel
theorem d_K_waitingFinals_10 : decode b_K_waitingFinals 10 = .ok (.if_icmp .ge 30, 3) := by decide +kernel
theorem d_K_waitingFinals_13 : decode b_K_waitingFinals 13 = .ok (.aload_n 0, 1) := by decide +kernel
theorem d_K_waitingFinals_14 : decode b_K_waitingFinals 14 = .ok (.getfield 11, 3) := by decide +kernel
theorem d_K_waitingFinals_17 : decode b_K_waitingFinals 17 = .ok (.iload_n 2, 1) := by decide +kernel
theorem d_K_waitingFinals_18 : decode b_K_waitingFinals 18 = .ok (.aaload, 1) := by decide +kernel
theorem d_K_waitingFinals_19 : decode b_K_waitingFinals 19 = .ok (.astore_n 3, 1) := by decide +kernel
theorem d_K_waitingFinals_20 : decode b_K_waitingFinals 20 = .ok (.aload_n 3, 1) := by decide +kernel
theorem d_K_waitingFinals_21 : decode b_K_waitingFinals 21 = .ok (.ifnull 13, 3) := by decide +kernel
theorem d_K_waitingFinals_24 : decode b_K_waitingFinals 24 = .ok (.aload_n 3, 1) := by decide +kernel
theorem d_K_waitingFinals_25 : decode b_K_waitingFinals 25 = .ok (.invokevirtual 150, 3) := by decide +kernel
theorem d_K_waitingFinals_28 : decode b_K_waitingFinals 28 = .ok (.ifCond .eq 6, 3) := by decide +kernel
theorem d_K_waitingFinals_31 : decode b_K_waitingFinals 31 = .ok (.iinc 1 1, 3) := by decide +kernel
theorem d_K_waitingFinals_34 : decode b_K_waitingFinals 34 = .ok (.iinc 2 1, 3) := by decide +kernel
theorem d_K_waitingFinals_37 : decode b_K_waitingFinals 37 = .ok (.goto (-33), 3) := by decide +kernel
theorem d_K_waitingFinals_40 : decode b_K_waitingFinals 40 = .ok (.iload_n 1, 1) := by decide +kernel
theorem d_K_waitingFinals_41 : decode b_K_waitingFinals 41 = .ok (.ireturn, 1) := by decide +kernel
theorem d_K_searchReached_0 : decode b_K_searchReached 0 = .ok (.aload_n 1, 1) := by decide +kernel
theorem d_K_searchReached_1 : decode b_K_searchReached 1 = .ok (.invokevirtual 154, 3) := by decide +kernel
theorem d_K_searchReached_4 : decode b_K_searchReached 4 = .ok (.aload_n 0, 1) := by decide +kernel
theorem d_K_searchReached_5 : decode b_K_searchReached 5 = .ok (.aload_n 1, 1) := by decide +kernel
theorem d_K_searchReached_6 : decode b_K_searchReached 6 = .ok (.invokevirtual 157, 3) := by decide +kernel
theorem d_K_searchReached_9 : decode b_K_searchReached 9 = .ok (.aload_n 0, 1) := by decide +kernel
theorem d_K_searchReached_10 : decode b_K_searchReached 10 = .ok (.aload_n 1, 1) := by decide +kernel
theorem d_K_searchReached_11 : decode b_K_searchReached 11 = .ok (.iconst 0, 1) := by decide +kernel
theorem d_K_searchReached_12 : decode b_K_searchReached 12 = .ok (.invokevirtual 160, 3) := by decide +kernel
theorem d_K_searchReached_15 : decode b_K_searchReached 15 = .ok (.return_, 1) := by decide +kernel
theorem d_K_searchKept_0 : decode b_K_searchKept 0 = .ok (.aload_n 1, 1) := by decide +kernel
theorem d_K_searchKept_1 : decode b_K_searchKept 1 = .ok (.invokevirtual 154, 3) := by decide +kernel
theorem d_K_searchKept_4 : decode b_K_searchKept 4 = .ok (.aload_n 0, 1) := by decide +kernel
theorem d_K_searchKept_5 : decode b_K_searchKept 5 = .ok (.aload_n 1, 1) := by decide +kernel
theorem d_K_searchKept_6 : decode b_K_searchKept 6 = .ok (.invokevirtual 157, 3) := by decide +kernel
theorem d_K_searchKept_9 : decode b_K_searchKept 9 = .ok (.iconst 0, 1) := by decide +kernel
theorem d_K_searchKept_10 : decode b_K_searchKept 10 = .ok (.istore_n 2, 1) := by decide +kernel
theorem d_K_searchKept_11 : decode b_K_searchKept 11 = .ok (.iload_n 2, 1) := by decide +kernel
theorem d_K_searchKept_12 : decode b_K_searchKept 12 = .ok (.aload_n 0, 1) := by decide +kernel
theorem d_K_searchKept_13 : decode b_K_searchKept 13 = .ok (.getfield 11, 3) := by decide +kernel
theorem d_K_searchKept_16 : decode b_K_searchKept 16 = .ok (.arraylength, 1) := by decide +kernel
theorem d_K_searchKept_17 : decode b_K_searchKept 17 = .ok (.if_icmp .ge 32, 3) := by decide +kernel
theorem d_K_searchKept_20 : decode b_K_searchKept 20 = .ok (.aload_n 0, 1) := by decide +kernel
theorem d_K_searchKept_21 : decode b_K_searchKept 21 = .ok (.getfield 11, 3) := by decide +kernel
theorem d_K_searchKept_24 : decode b_K_searchKept 24 = .ok (.iload_n 2, 1) := by decide +kernel
theorem d_K_searchKept_25 : decode b_K_searchKept 25 = .ok (.aaload, 1) := by decide +kernel
theorem d_K_searchKept_26 : decode b_K_searchKept 26 = .ok (.astore_n 3, 1) := by decide +kernel
theorem d_K_searchKept_27 : decode b_K_searchKept 27 = .ok (.aload_n 3, 1) := by decide +kernel
theorem d_K_searchKept_28 : decode b_K_searchKept 28 = .ok (.ifnull 15, 3) := by decide +kernel
theorem d_K_searchKept_31 : decode b_K_searchKept 31 = .ok (.aload_n 3, 1) := by decide +kernel
theorem d_K_searchKept_32 : decode b_K_searchKept 32 = .ok (.invokevirtual 150, 3) := by decide +kernel
theorem d_K_searchKept_35 : decode b_K_searchKept 35 = .ok (.ifCond .eq 8, 3) := by decide +kernel
theorem d_K_searchKept_38 : decode b_K_searchKept 38 = .ok (.aload_n 1, 1) := by decide +kernel
theorem d_K_searchKept_39 : decode b_K_searchKept 39 = .ok (.iload_n 2, 1) := by decide +kernel
theorem d_K_searchKept_40 : decode b_K_searchKept 40 = .ok (.invokevirtual 164, 3) := by decide +kernel
theorem d_K_searchKept_43 : decode b_K_searchKept 43 = .ok (.iinc 2 1, 3) := by decide +kernel
theorem d_K_searchKept_46 : decode b_K_searchKept 46 = .ok (.goto (-35), 3) := by decide +kernel
theorem d_K_searchKept_49 : decode b_K_searchKept 49 = .ok (.aload_n 0, 1) := by decide +kernel
theorem d_K_searchKept_50 : decode b_K_searchKept 50 = .ok (.aload_n 1, 1) := by decide +kernel
theorem d_K_searchKept_51 : decode b_K_searchKept 51 = .ok (.iconst 1, 1) := by decide +kernel
theorem d_K_searchKept_52 : decode b_K_searchKept 52 = .ok (.invokevirtual 160, 3) := by decide +kernel
theorem d_K_searchKept_55 : decode b_K_searchKept 55 = .ok (.return_, 1) := by decide +kernel
theorem d_K_addRootsAndQueue_0 : decode b_K_addRootsAndQueue 0 = .ok (.iconst 0, 1) := by decide +kernel
theorem d_K_addRootsAndQueue_1 : decode b_K_addRootsAndQueue 1 = .ok (.istore_n 2, 1) := by decide +kernel
theorem d_K_addRootsAndQueue_2 : decode b_K_addRootsAndQueue 2 = .ok (.iload_n 2, 1) := by decide +kernel
theorem d_K_addRootsAndQueue_3 : decode b_K_addRootsAndQueue 3 = .ok (.aload_n 0, 1) := by decide +kernel
theorem d_K_addRootsAndQueue_4 : decode b_K_addRootsAndQueue 4 = .ok (.getfield 15, 3) := by decide +kernel
theorem d_K_addRootsAndQueue_7 : decode b_K_addRootsAndQueue 7 = .ok (.arraylength, 1) := by decide +kernel
theorem d_K_addRootsAndQueue_8 : decode b_K_addRootsAndQueue 8 = .ok (.if_icmp .ge 19, 3) := by decide +kernel
theorem d_K_addRootsAndQueue_11 : decode b_K_addRootsAndQueue 11 = .ok (.aload_n 1, 1) := by decide +kernel
theorem d_K_addRootsAndQueue_12 : decode b_K_addRootsAndQueue 12 = .ok (.aload_n 0, 1) := by decide +kernel
theorem d_K_addRootsAndQueue_13 : decode b_K_addRootsAndQueue 13 = .ok (.getfield 15, 3) := by decide +kernel
theorem d_K_addRootsAndQueue_16 : decode b_K_addRootsAndQueue 16 = .ok (.iload_n 2, 1) := by decide +kernel
theorem d_K_addRootsAndQueue_17 : decode b_K_addRootsAndQueue 17 = .ok (.iaload, 1) := by decide +kernel
theorem d_K_addRootsAndQueue_18 : decode b_K_addRootsAndQueue 18 = .ok (.invokevirtual 164, 3) := by decide +kernel
theorem d_K_addRootsAndQueue_21 : decode b_K_addRootsAndQueue 21 = .ok (.iinc 2 1, 3) := by decide +kernel
theorem d_K_addRootsAndQueue_24 : decode b_K_addRootsAndQueue 24 = .ok (.goto (-22), 3) := by decide +kernel
theorem d_K_addRootsAndQueue_27 : decode b_K_addRootsAndQueue 27 = .ok (.aload_n 0, 1) := by decide +kernel
theorem d_K_addRootsAndQueue_28 : decode b_K_addRootsAndQueue 28 = .ok (.invokevirtual 88, 3) := by decide +kernel
theorem d_K_addRootsAndQueue_31 : decode b_K_addRootsAndQueue 31 = .ok (.istore_n 2, 1) := by decide +kernel
theorem d_K_addRootsAndQueue_32 : decode b_K_addRootsAndQueue 32 = .ok (.iconst 0, 1) := by decide +kernel
theorem d_K_addRootsAndQueue_33 : decode b_K_addRootsAndQueue 33 = .ok (.istore_n 3, 1) := by decide +kernel
theorem d_K_addRootsAndQueue_34 : decode b_K_addRootsAndQueue 34 = .ok (.iload_n 3, 1) := by decide +kernel
theorem d_K_addRootsAndQueue_35 : decode b_K_addRootsAndQueue 35 = .ok (.iload_n 2, 1) := by decide +kernel
theorem d_K_addRootsAndQueue_36 : decode b_K_addRootsAndQueue 36 = .ok (.if_icmp .ge 18, 3) := by decide +kernel
theorem d_K_addRootsAndQueue_39 : decode b_K_addRootsAndQueue 39 = .ok (.aload_n 1, 1) := by decide +kernel
theorem d_K_addRootsAndQueue_40 : decode b_K_addRootsAndQueue 40 = .ok (.aload_n 0, 1) := by decide +kernel
theorem d_K_addRootsAndQueue_41 : decode b_K_addRootsAndQueue 41 = .ok (.iload_n 3, 1) := by decide +kernel
theorem d_K_addRootsAndQueue_42 : decode b_K_addRootsAndQueue 42 = .ok (.invokevirtual 91, 3) := by decide +kernel
theorem d_K_addRootsAndQueue_45 : decode b_K_addRootsAndQueue 45 = .ok (.invokevirtual 164, 3) := by decide +kernel
theorem d_K_addRootsAndQueue_48 : decode b_K_addRootsAndQueue 48 = .ok (.iinc 3 1, 3) := by decide +kernel
theorem d_K_addRootsAndQueue_51 : decode b_K_addRootsAndQueue 51 = .ok (.goto (-17), 3) := by decide +kernel
theorem d_K_addRootsAndQueue_54 : decode b_K_addRootsAndQueue 54 = .ok (.return_, 1) := by decide +kernel
theorem d_K_followFields_0 : decode b_K_followFields 0 = .ok (.iconst 0, 1) := by decide +kernel
theorem d_K_followFields_1 : decode b_K_followFields 1 = .ok (.istore_n 3, 1) := by decide +kernel
theorem d_K_followFields_2 : decode b_K_followFields 2 = .ok (.iload_n 3, 1) := by decide +kernel
theorem d_K_followFields_3 : decode b_K_followFields 3 = .ok (.sipush 300, 3) := by decide +kernel
theorem d_K_followFields_6 : decode b_K_followFields 6 = .ok (.if_icmp .ge 88, 3) := by decide +kernel
theorem d_K_followFields_9 : decode b_K_followFields 9 = .ok (.iload_n 3, 1) := by decide +kernel
theorem d_K_followFields_10 : decode b_K_followFields 10 = .ok (.aload_n 1, 1) := by decide +kernel
theorem d_K_followFields_11 : decode b_K_followFields 11 = .ok (.getfield 125, 3) := by decide +kernel
theorem d_K_followFields_14 : decode b_K_followFields 14 = .ok (.if_icmp .ge 80, 3) := by decide +kernel
theorem d_K_followFields_17 : decode b_K_followFields 17 = .ok (.aload_n 0, 1) := by decide +kernel
theorem d_K_followFields_18 : decode b_K_followFields 18 = .ok (.aload_n 1, 1) := by decide +kernel
theorem d_K_followFields_19 : decode b_K_followFields 19 = .ok (.iload_n 3, 1) := by decide +kernel
theorem d_K_followFields_20 : decode b_K_followFields 20 = .ok (.invokevirtual 167, 3) := by decide +kernel
theorem d_K_followFields_23 : decode b_K_followFields 23 = .ok (.invokevirtual 98, 3) := by decide +kernel
theorem d_K_followFields_26 : decode b_K_followFields 26 = .ok (.astore 4, 2) := by decide +kernel
theorem d_K_followFields_28 : decode b_K_followFields 28 = .ok (.aload 4, 2) := by decide +kernel
theorem d_K_followFields_30 : decode b_K_followFields 30 = .ok (.ifnonnull 6, 3) := by decide +kernel
theorem d_K_followFields_33 : decode b_K_followFields 33 = .ok (.goto 55, 3) := by decide +kernel
theorem d_K_followFields_36 : decode b_K_followFields 36 = .ok (.iload_n 2, 1) := by decide +kernel
theorem d_K_followFields_37 : decode b_K_followFields 37 = .ok (.ifCond .ne 15, 3) := by decide +kernel
theorem d_K_followFields_40 : decode b_K_followFields 40 = .ok (.aload 4, 2) := by decide +kernel
theorem d_K_followFields_42 : decode b_K_followFields 42 = .ok (.invokevirtual 170, 3) := by decide +kernel
theorem d_K_followFields_45 : decode b_K_followFields 45 = .ok (.ifCond .eq 7, 3) := by decide +kernel
theorem d_K_followFields_48 : decode b_K_followFields 48 = .ok (.iconst 1, 1) := by decide +kernel
theorem d_K_followFields_49 : decode b_K_followFields 49 = .ok (.goto 4, 3) := by decide +kernel
theorem d_K_followFields_52 : decode b_K_followFields 52 = .ok (.iconst 0, 1) := by decide +kernel
theorem d_K_followFields_53 : decode b_K_followFields 53 = .ok (.istore 5, 2) := by decide +kernel
theorem d_K_followFields_55 : decode b_K_followFields 55 = .ok (.iload 5, 2) := by decide +kernel
theorem d_K_followFields_57 : decode b_K_followFields 57 = .ok (.istore 6, 2) := by decide +kernel
theorem d_K_followFields_59 : decode b_K_followFields 59 = .ok (.iload 6, 2) := by decide +kernel
theorem d_K_followFields_61 : decode b_K_followFields 61 = .ok (.aload 4, 2) := by decide +kernel
theorem d_K_followFields_63 : decode b_K_followFields 63 = .ok (.getfield 66, 3) := by decide +kernel
theorem d_K_followFields_66 : decode b_K_followFields 66 = .ok (.arraylength, 1) := by decide +kernel
theorem d_K_followFields_67 : decode b_K_followFields 67 = .ok (.if_icmp .ge 21, 3) := by decide +kernel
theorem d_K_followFields_70 : decode b_K_followFields 70 = .ok (.aload_n 1, 1) := by decide +kernel
theorem d_K_followFields_71 : decode b_K_followFields 71 = .ok (.aload 4, 2) := by decide +kernel
theorem d_K_followFields_73 : decode b_K_followFields 73 = .ok (.getfield 66, 3) := by decide +kernel
theorem d_K_followFields_76 : decode b_K_followFields 76 = .ok (.iload 6, 2) := by decide +kernel
theorem d_K_followFields_78 : decode b_K_followFields 78 = .ok (.iaload, 1) := by decide +kernel
theorem d_K_followFields_79 : decode b_K_followFields 79 = .ok (.invokevirtual 164, 3) := by decide +kernel
theorem d_K_followFields_82 : decode b_K_followFields 82 = .ok (.iinc 6 1, 3) := by decide +kernel
theorem d_K_followFields_85 : decode b_K_followFields 85 = .ok (.goto (-26), 3) := by decide +kernel
theorem d_K_followFields_88 : decode b_K_followFields 88 = .ok (.iinc 3 1, 3) := by decide +kernel
theorem d_K_followFields_91 : decode b_K_followFields 91 = .ok (.goto (-89), 3) := by decide +kernel
theorem d_K_followFields_94 : decode b_K_followFields 94 = .ok (.return_, 1) := by decide +kernel
theorem d_K_queueUnreached_0 : decode b_K_queueUnreached 0 = .ok (.iconst 0, 1) := by decide +kernel
theorem d_K_queueUnreached_1 : decode b_K_queueUnreached 1 = .ok (.istore_n 1, 1) := by decide +kernel
theorem d_K_queueUnreached_2 : decode b_K_queueUnreached 2 = .ok (.iconst 0, 1) := by decide +kernel
theorem d_K_queueUnreached_3 : decode b_K_queueUnreached 3 = .ok (.istore_n 2, 1) := by decide +kernel
theorem d_K_queueUnreached_4 : decode b_K_queueUnreached 4 = .ok (.iload_n 2, 1) := by decide +kernel
theorem d_K_queueUnreached_5 : decode b_K_queueUnreached 5 = .ok (.aload_n 0, 1) := by decide +kernel
theorem d_K_queueUnreached_6 : decode b_K_queueUnreached 6 = .ok (.getfield 11, 3) := by decide +kernel
theorem d_K_queueUnreached_9 : decode b_K_queueUnreached 9 = .ok (.arraylength, 1) := by decide +kernel
theorem d_K_queueUnreached_10 : decode b_K_queueUnreached 10 = .ok (.if_icmp .ge 47, 3) := by decide +kernel
theorem d_K_queueUnreached_13 : decode b_K_queueUnreached 13 = .ok (.aload_n 0, 1) := by decide +kernel
theorem d_K_queueUnreached_14 : decode b_K_queueUnreached 14 = .ok (.getfield 11, 3) := by decide +kernel
theorem d_K_queueUnreached_17 : decode b_K_queueUnreached 17 = .ok (.iload_n 2, 1) := by decide +kernel
theorem d_K_queueUnreached_18 : decode b_K_queueUnreached 18 = .ok (.aaload, 1) := by decide +kernel
theorem d_K_queueUnreached_19 : decode b_K_queueUnreached 19 = .ok (.astore_n 3, 1) := by decide +kernel
theorem d_K_queueUnreached_20 : decode b_K_queueUnreached 20 = .ok (.aload_n 3, 1) := by decide +kernel
theorem d_K_queueUnreached_21 : decode b_K_queueUnreached 21 = .ok (.ifnull 30, 3) := by decide +kernel
theorem d_K_queueUnreached_24 : decode b_K_queueUnreached 24 = .ok (.aload_n 3, 1) := by decide +kernel
theorem d_K_queueUnreached_25 : decode b_K_queueUnreached 25 = .ok (.invokevirtual 150, 3) := by decide +kernel
theorem d_K_queueUnreached_28 : decode b_K_queueUnreached 28 = .ok (.ifCond .eq 23, 3) := by decide +kernel
theorem d_K_queueUnreached_31 : decode b_K_queueUnreached 31 = .ok (.aload_n 0, 1) := by decide +kernel
theorem d_K_queueUnreached_32 : decode b_K_queueUnreached 32 = .ok (.getfield 25, 3) := by decide +kernel
theorem d_K_queueUnreached_35 : decode b_K_queueUnreached 35 = .ok (.iload_n 2, 1) := by decide +kernel
theorem d_K_queueUnreached_36 : decode b_K_queueUnreached 36 = .ok (.invokevirtual 110, 3) := by decide +kernel
theorem d_K_queueUnreached_39 : decode b_K_queueUnreached 39 = .ok (.ifCond .ne 12, 3) := by decide +kernel
theorem d_K_queueUnreached_42 : decode b_K_queueUnreached 42 = .ok (.aload_n 0, 1) := by decide +kernel
theorem d_K_queueUnreached_43 : decode b_K_queueUnreached 43 = .ok (.iload_n 2, 1) := by decide +kernel
theorem d_K_queueUnreached_44 : decode b_K_queueUnreached 44 = .ok (.aload_n 3, 1) := by decide +kernel
theorem d_K_queueUnreached_45 : decode b_K_queueUnreached 45 = .ok (.invokevirtual 173, 3) := by decide +kernel
theorem d_K_queueUnreached_48 : decode b_K_queueUnreached 48 = .ok (.iinc 1 1, 3) := by decide +kernel
theorem d_K_queueUnreached_51 : decode b_K_queueUnreached 51 = .ok (.iinc 2 1, 3) := by decide +kernel
theorem d_K_queueUnreached_54 : decode b_K_queueUnreached 54 = .ok (.goto (-50), 3) := by decide +kernel
theorem d_K_queueUnreached_57 : decode b_K_queueUnreached 57 = .ok (.iload_n 1, 1) := by decide +kernel
theorem d_K_queueUnreached_58 : decode b_K_queueUnreached 58 = .ok (.ireturn, 1) := by decide +kernel
theorem d_K_forgetUnreached_0 : decode b_K_forgetUnreached 0 = .ok (.iconst 0, 1) := by decide +kernel
theorem d_K_forgetUnreached_1 : decode b_K_forgetUnreached 1 = .ok (.istore_n 1, 1) := by decide +kernel
theorem d_K_forgetUnreached_2 : decode b_K_forgetUnreached 2 = .ok (.iload_n 1, 1) := by decide +kernel
theorem d_K_forgetUnreached_3 : decode b_K_forgetUnreached 3 = .ok (.aload_n 0, 1) := by decide +kernel
theorem d_K_forgetUnreached_4 : decode b_K_forgetUnreached 4 = .ok (.getfield 11, 3) := by decide +kernel
theorem d_K_forgetUnreached_7 : decode b_K_forgetUnreached 7 = .ok (.arraylength, 1) := by decide +kernel
theorem d_K_forgetUnreached_8 : decode b_K_forgetUnreached 8 = .ok (.if_icmp .ge 81, 3) := by decide +kernel
theorem d_K_forgetUnreached_11 : decode b_K_forgetUnreached 11 = .ok (.aload_n 0, 1) := by decide +kernel
theorem d_K_forgetUnreached_12 : decode b_K_forgetUnreached 12 = .ok (.getfield 11, 3) := by decide +kernel
theorem d_K_forgetUnreached_15 : decode b_K_forgetUnreached 15 = .ok (.iload_n 1, 1) := by decide +kernel
theorem d_K_forgetUnreached_16 : decode b_K_forgetUnreached 16 = .ok (.aaload, 1) := by decide +kernel
theorem d_K_forgetUnreached_17 : decode b_K_forgetUnreached 17 = .ok (.astore_n 2, 1) := by decide +kernel
theorem d_K_forgetUnreached_18 : decode b_K_forgetUnreached 18 = .ok (.aload_n 2, 1) := by decide +kernel
theorem d_K_forgetUnreached_19 : decode b_K_forgetUnreached 19 = .ok (.ifnull 64, 3) := by decide +kernel
theorem d_K_forgetUnreached_22 : decode b_K_forgetUnreached 22 = .ok (.aload_n 2, 1) := by decide +kernel
theorem d_K_forgetUnreached_23 : decode b_K_forgetUnreached 23 = .ok (.invokevirtual 170, 3) := by decide +kernel
theorem d_K_forgetUnreached_26 : decode b_K_forgetUnreached 26 = .ok (.ifCond .eq 57, 3) := by decide +kernel
theorem d_K_forgetUnreached_29 : decode b_K_forgetUnreached 29 = .ok (.aload_n 0, 1) := by decide +kernel
theorem d_K_forgetUnreached_30 : decode b_K_forgetUnreached 30 = .ok (.getfield 29, 3) := by decide +kernel
theorem d_K_forgetUnreached_33 : decode b_K_forgetUnreached 33 = .ok (.iload_n 1, 1) := by decide +kernel
theorem d_K_forgetUnreached_34 : decode b_K_forgetUnreached 34 = .ok (.invokevirtual 110, 3) := by decide +kernel
theorem d_K_forgetUnreached_37 : decode b_K_forgetUnreached 37 = .ok (.ifCond .ne 6, 3) := by decide +kernel
theorem d_K_forgetUnreached_40 : decode b_K_forgetUnreached 40 = .ok (.goto 43, 3) := by decide +kernel
theorem d_K_forgetUnreached_43 : decode b_K_forgetUnreached 43 = .ok (.aload_n 2, 1) := by decide +kernel
theorem d_K_forgetUnreached_44 : decode b_K_forgetUnreached 44 = .ok (.getfield 66, 3) := by decide +kernel
theorem d_K_forgetUnreached_47 : decode b_K_forgetUnreached 47 = .ok (.iconst 0, 1) := by decide +kernel
theorem d_K_forgetUnreached_48 : decode b_K_forgetUnreached 48 = .ok (.iaload, 1) := by decide +kernel
theorem d_K_forgetUnreached_49 : decode b_K_forgetUnreached 49 = .ok (.istore_n 3, 1) := by decide +kernel
theorem d_K_forgetUnreached_50 : decode b_K_forgetUnreached 50 = .ok (.iload_n 3, 1) := by decide +kernel
theorem d_K_forgetUnreached_51 : decode b_K_forgetUnreached 51 = .ok (.iconst (-1), 1) := by decide +kernel
theorem d_K_forgetUnreached_52 : decode b_K_forgetUnreached 52 = .ok (.if_icmp .eq 31, 3) := by decide +kernel
theorem d_K_forgetUnreached_55 : decode b_K_forgetUnreached 55 = .ok (.aload_n 0, 1) := by decide +kernel
theorem d_K_forgetUnreached_56 : decode b_K_forgetUnreached 56 = .ok (.getfield 25, 3) := by decide +kernel
theorem d_K_forgetUnreached_59 : decode b_K_forgetUnreached 59 = .ok (.iload_n 3, 1) := by decide +kernel
theorem d_K_forgetUnreached_60 : decode b_K_forgetUnreached 60 = .ok (.invokevirtual 110, 3) := by decide +kernel
theorem d_K_forgetUnreached_63 : decode b_K_forgetUnreached 63 = .ok (.ifCond .ne 20, 3) := by decide +kernel
theorem d_K_forgetUnreached_66 : decode b_K_forgetUnreached 66 = .ok (.aload_n 2, 1) := by decide +kernel
theorem d_K_forgetUnreached_67 : decode b_K_forgetUnreached 67 = .ok (.getfield 66, 3) := by decide +kernel
theorem d_K_forgetUnreached_70 : decode b_K_forgetUnreached 70 = .ok (.iconst 0, 1) := by decide +kernel
theorem d_K_forgetUnreached_71 : decode b_K_forgetUnreached 71 = .ok (.iconst (-1), 1) := by decide +kernel
theorem d_K_forgetUnreached_72 : decode b_K_forgetUnreached 72 = .ok (.iastore, 1) := by decide +kernel
theorem d_K_forgetUnreached_73 : decode b_K_forgetUnreached 73 = .ok (.aload_n 0, 1) := by decide +kernel
theorem d_K_forgetUnreached_74 : decode b_K_forgetUnreached 74 = .ok (.dup, 1) := by decide +kernel
theorem d_K_forgetUnreached_75 : decode b_K_forgetUnreached 75 = .ok (.getfield 131, 3) := by decide +kernel
theorem d_K_forgetUnreached_78 : decode b_K_forgetUnreached 78 = .ok (.iconst 1, 1) := by decide +kernel
theorem d_K_forgetUnreached_79 : decode b_K_forgetUnreached 79 = .ok (.iadd, 1) := by decide +kernel
theorem d_K_forgetUnreached_80 : decode b_K_forgetUnreached 80 = .ok (.putfield 131, 3) := by decide +kernel
theorem d_K_forgetUnreached_83 : decode b_K_forgetUnreached 83 = .ok (.iinc 1 1, 3) := by decide +kernel
theorem d_K_forgetUnreached_86 : decode b_K_forgetUnreached 86 = .ok (.goto (-84), 3) := by decide +kernel
theorem d_K_forgetUnreached_89 : decode b_K_forgetUnreached 89 = .ok (.return_, 1) := by decide +kernel
