theorem dX0_init_0 : decode cX0_init 0 = .ok (.aload_n 0, 1) := by decide +kernel
theorem dX0_init_1 : decode cX0_init 1 = .ok (.invokespecial 3, 3) := by decide +kernel
theorem dX0_init_4 : decode cX0_init 4 = .ok (.aload_n 0, 1) := by decide +kernel
theorem dX0_init_5 : decode cX0_init 5 = .ok (.bipush 6, 2) := by decide +kernel
theorem dX0_init_7 : decode cX0_init 7 = .ok (.newarray .int, 2) := by decide +kernel
theorem dX0_init_9 : decode cX0_init 9 = .ok (.putfield 9, 3) := by decide +kernel
theorem dX0_init_12 : decode cX0_init 12 = .ok (.aload_n 0, 1) := by decide +kernel
theorem dX0_init_13 : decode cX0_init 13 = .ok (.getfield 9, 3) := by decide +kernel
theorem dX0_init_16 : decode cX0_init 16 = .ok (.iconst (-1), 1) := by decide +kernel
theorem dX0_init_17 : decode cX0_init 17 = .ok (.invokestatic 15, 3) := by decide +kernel
theorem dX0_init_20 : decode cX0_init 20 = .ok (.return_, 1) := by decide +kernel
theorem dX0_clear_0 : decode cX0_clear 0 = .ok (.aload_n 0, 1) := by decide +kernel
theorem dX0_clear_1 : decode cX0_clear 1 = .ok (.iconst 0, 1) := by decide +kernel
theorem dX0_clear_2 : decode cX0_clear 2 = .ok (.putfield 21, 3) := by decide +kernel
theorem dX0_clear_5 : decode cX0_clear 5 = .ok (.aload_n 0, 1) := by decide +kernel
theorem dX0_clear_6 : decode cX0_clear 6 = .ok (.getfield 9, 3) := by decide +kernel
theorem dX0_clear_9 : decode cX0_clear 9 = .ok (.iconst (-1), 1) := by decide +kernel
theorem dX0_clear_10 : decode cX0_clear 10 = .ok (.invokestatic 15, 3) := by decide +kernel
theorem dX0_clear_13 : decode cX0_clear 13 = .ok (.return_, 1) := by decide +kernel
theorem dX0_copyFrom_0 : decode cX0_copyFrom 0 = .ok (.aload_n 0, 1) := by decide +kernel
theorem dX0_copyFrom_1 : decode cX0_copyFrom 1 = .ok (.aload_n 1, 1) := by decide +kernel
theorem dX0_copyFrom_2 : decode cX0_copyFrom 2 = .ok (.getfield 21, 3) := by decide +kernel
theorem dX0_copyFrom_5 : decode cX0_copyFrom 5 = .ok (.putfield 21, 3) := by decide +kernel
theorem dX0_copyFrom_8 : decode cX0_copyFrom 8 = .ok (.aload_n 1, 1) := by decide +kernel
theorem dX0_copyFrom_9 : decode cX0_copyFrom 9 = .ok (.getfield 9, 3) := by decide +kernel
theorem dX0_copyFrom_12 : decode cX0_copyFrom 12 = .ok (.iconst 0, 1) := by decide +kernel
theorem dX0_copyFrom_13 : decode cX0_copyFrom 13 = .ok (.aload_n 0, 1) := by decide +kernel
theorem dX0_copyFrom_14 : decode cX0_copyFrom 14 = .ok (.getfield 9, 3) := by decide +kernel
theorem dX0_copyFrom_17 : decode cX0_copyFrom 17 = .ok (.iconst 0, 1) := by decide +kernel
theorem dX0_copyFrom_18 : decode cX0_copyFrom 18 = .ok (.aload_n 1, 1) := by decide +kernel
theorem dX0_copyFrom_19 : decode cX0_copyFrom 19 = .ok (.getfield 9, 3) := by decide +kernel
theorem dX0_copyFrom_22 : decode cX0_copyFrom 22 = .ok (.arraylength, 1) := by decide +kernel
theorem dX0_copyFrom_23 : decode cX0_copyFrom 23 = .ok (.aload_n 0, 1) := by decide +kernel
theorem dX0_copyFrom_24 : decode cX0_copyFrom 24 = .ok (.getfield 9, 3) := by decide +kernel
theorem dX0_copyFrom_27 : decode cX0_copyFrom 27 = .ok (.arraylength, 1) := by decide +kernel
theorem dX0_copyFrom_28 : decode cX0_copyFrom 28 = .ok (.invokestatic 25, 3) := by decide +kernel
theorem dX0_copyFrom_31 : decode cX0_copyFrom 31 = .ok (.invokestatic 31, 3) := by decide +kernel
theorem dX0_copyFrom_34 : decode cX0_copyFrom 34 = .ok (.return_, 1) := by decide +kernel
theorem dX0_read_0 : decode cX0_read 0 = .ok (.aload_n 0, 1) := by decide +kernel
theorem dX0_read_1 : decode cX0_read 1 = .ok (.invokevirtual 37, 3) := by decide +kernel
theorem dX0_read_4 : decode cX0_read 4 = .ok (.iconst 0, 1) := by decide +kernel
theorem dX0_read_5 : decode cX0_read 5 = .ok (.istore_n 3, 1) := by decide +kernel
theorem dX0_read_6 : decode cX0_read 6 = .ok (.iload_n 3, 1) := by decide +kernel
theorem dX0_read_7 : decode cX0_read 7 = .ok (.bipush 100, 2) := by decide +kernel
theorem dX0_read_9 : decode cX0_read 9 = .ok (.if_icmp .gt 100, 3) := by decide +kernel
theorem dX0_read_12 : decode cX0_read 12 = .ok (.aload_n 1, 1) := by decide +kernel
theorem dX0_read_13 : decode cX0_read 13 = .ok (.invokevirtual 40, 3) := by decide +kernel
theorem dX0_read_16 : decode cX0_read 16 = .ok (.iconst (-1), 1) := by decide +kernel
theorem dX0_read_17 : decode cX0_read 17 = .ok (.if_icmp .eq 92, 3) := by decide +kernel
theorem dX0_read_20 : decode cX0_read 20 = .ok (.aload_n 1, 1) := by decide +kernel
theorem dX0_read_21 : decode cX0_read 21 = .ok (.getfield 46, 3) := by decide +kernel
theorem dX0_read_24 : decode cX0_read 24 = .ok (.istore 4, 2) := by decide +kernel
theorem dX0_read_26 : decode cX0_read 26 = .ok (.aload_n 1, 1) := by decide +kernel
theorem dX0_read_27 : decode cX0_read 27 = .ok (.iconst 0, 1) := by decide +kernel
theorem dX0_read_28 : decode cX0_read 28 = .ok (.iload_n 2, 1) := by decide +kernel
theorem dX0_read_29 : decode cX0_read 29 = .ok (.iconst 1, 1) := by decide +kernel
theorem dX0_read_30 : decode cX0_read 30 = .ok (.isub, 1) := by decide +kernel
theorem dX0_read_31 : decode cX0_read 31 = .ok (.invokevirtual 49, 3) := by decide +kernel
theorem dX0_read_34 : decode cX0_read 34 = .ok (.istore 5, 2) := by decide +kernel
theorem dX0_read_36 : decode cX0_read 36 = .ok (.aload_n 1, 1) := by decide +kernel
theorem dX0_read_37 : decode cX0_read 37 = .ok (.invokevirtual 52, 3) := by decide +kernel
theorem dX0_read_40 : decode cX0_read 40 = .ok (.ifCond .eq 12, 3) := by decide +kernel
theorem dX0_read_43 : decode cX0_read 43 = .ok (.aload_n 0, 1) := by decide +kernel
theorem dX0_read_44 : decode cX0_read 44 = .ok (.aload_n 1, 1) := by decide +kernel
theorem dX0_read_45 : decode cX0_read 45 = .ok (.iload 5, 2) := by decide +kernel
theorem dX0_read_47 : decode cX0_read 47 = .ok (.iload 4, 2) := by decide +kernel
theorem dX0_read_49 : decode cX0_read 49 = .ok (.invokevirtual 56, 3) := by decide +kernel
theorem dX0_read_52 : decode cX0_read 52 = .ok (.aload_n 1, 1) := by decide +kernel
theorem dX0_read_53 : decode cX0_read 53 = .ok (.iconst 0, 1) := by decide +kernel
theorem dX0_read_54 : decode cX0_read 54 = .ok (.bipush 99, 2) := by decide +kernel
theorem dX0_read_56 : decode cX0_read 56 = .ok (.invokevirtual 49, 3) := by decide +kernel
theorem dX0_read_59 : decode cX0_read 59 = .ok (.istore 6, 2) := by decide +kernel
theorem dX0_read_61 : decode cX0_read 61 = .ok (.aload_n 1, 1) := by decide +kernel
theorem dX0_read_62 : decode cX0_read 62 = .ok (.bipush 59, 2) := by decide +kernel
theorem dX0_read_64 : decode cX0_read 64 = .ok (.invokevirtual 60, 3) := by decide +kernel
theorem dX0_read_67 : decode cX0_read 67 = .ok (.aload_n 1, 1) := by decide +kernel
theorem dX0_read_68 : decode cX0_read 68 = .ok (.invokevirtual 52, 3) := by decide +kernel
theorem dX0_read_71 : decode cX0_read 71 = .ok (.ifCond .eq 32, 3) := by decide +kernel
theorem dX0_read_74 : decode cX0_read 74 = .ok (.iload 5, 2) := by decide +kernel
theorem dX0_read_76 : decode cX0_read 76 = .ok (.aload_n 0, 1) := by decide +kernel
theorem dX0_read_77 : decode cX0_read 77 = .ok (.getfield 9, 3) := by decide +kernel
theorem dX0_read_80 : decode cX0_read 80 = .ok (.arraylength, 1) := by decide +kernel
theorem dX0_read_81 : decode cX0_read 81 = .ok (.if_icmp .ge 22, 3) := by decide +kernel
theorem dX0_read_84 : decode cX0_read 84 = .ok (.aload_n 0, 1) := by decide +kernel
theorem dX0_read_85 : decode cX0_read 85 = .ok (.getfield 9, 3) := by decide +kernel
theorem dX0_read_88 : decode cX0_read 88 = .ok (.iload 5, 2) := by decide +kernel
theorem dX0_read_90 : decode cX0_read 90 = .ok (.iload 6, 2) := by decide +kernel
theorem dX0_read_92 : decode cX0_read 92 = .ok (.iastore, 1) := by decide +kernel
theorem dX0_read_93 : decode cX0_read 93 = .ok (.aload_n 0, 1) := by decide +kernel
theorem dX0_read_94 : decode cX0_read 94 = .ok (.dup, 1) := by decide +kernel
theorem dX0_read_95 : decode cX0_read 95 = .ok (.getfield 21, 3) := by decide +kernel
theorem dX0_read_98 : decode cX0_read 98 = .ok (.iconst 1, 1) := by decide +kernel
theorem dX0_read_99 : decode cX0_read 99 = .ok (.iadd, 1) := by decide +kernel
theorem dX0_read_100 : decode cX0_read 100 = .ok (.putfield 21, 3) := by decide +kernel
theorem dX0_read_103 : decode cX0_read 103 = .ok (.iinc 3 1, 3) := by decide +kernel
theorem dX0_read_106 : decode cX0_read 106 = .ok (.goto (-100), 3) := by decide +kernel
theorem dX0_read_109 : decode cX0_read 109 = .ok (.return_, 1) := by decide +kernel
theorem dX0_begin_0 : decode cX0_begin 0 = .ok (.iload_n 2, 1) := by decide +kernel
theorem dX0_begin_1 : decode cX0_begin 1 = .ok (.ifCond .lt 22, 3) := by decide +kernel
theorem dX0_begin_4 : decode cX0_begin 4 = .ok (.iload_n 2, 1) := by decide +kernel
theorem dX0_begin_5 : decode cX0_begin 5 = .ok (.aload_n 0, 1) := by decide +kernel
theorem dX0_begin_6 : decode cX0_begin 6 = .ok (.getfield 9, 3) := by decide +kernel
theorem dX0_begin_9 : decode cX0_begin 9 = .ok (.arraylength, 1) := by decide +kernel
theorem dX0_begin_10 : decode cX0_begin 10 = .ok (.if_icmp .ge 13, 3) := by decide +kernel
theorem dX0_begin_13 : decode cX0_begin 13 = .ok (.aload_n 0, 1) := by decide +kernel
theorem dX0_begin_14 : decode cX0_begin 14 = .ok (.getfield 9, 3) := by decide +kernel
theorem dX0_begin_17 : decode cX0_begin 17 = .ok (.iload_n 2, 1) := by decide +kernel
theorem dX0_begin_18 : decode cX0_begin 18 = .ok (.iaload, 1) := by decide +kernel
theorem dX0_begin_19 : decode cX0_begin 19 = .ok (.iconst (-1), 1) := by decide +kernel
theorem dX0_begin_20 : decode cX0_begin 20 = .ok (.if_icmp .eq 12, 3) := by decide +kernel
theorem dX0_begin_23 : decode cX0_begin 23 = .ok (.aload_n 1, 1) := by decide +kernel
theorem dX0_begin_24 : decode cX0_begin 24 = .ok (.iconst 2, 1) := by decide +kernel
theorem dX0_begin_25 : decode cX0_begin 25 = .ok (.iload_n 3, 1) := by decide +kernel
theorem dX0_begin_26 : decode cX0_begin 26 = .ok (.invokevirtual 64, 3) := by decide +kernel
theorem dX0_begin_29 : decode cX0_begin 29 = .ok (.goto 18, 3) := by decide +kernel
theorem dX0_begin_32 : decode cX0_begin 32 = .ok (.aload_n 0, 1) := by decide +kernel
theorem dX0_begin_33 : decode cX0_begin 33 = .ok (.getfield 21, 3) := by decide +kernel
theorem dX0_begin_36 : decode cX0_begin 36 = .ok (.bipush 6, 2) := by decide +kernel
theorem dX0_begin_38 : decode cX0_begin 38 = .ok (.if_icmp .lt 9, 3) := by decide +kernel
theorem dX0_begin_41 : decode cX0_begin 41 = .ok (.aload_n 1, 1) := by decide +kernel
theorem dX0_begin_42 : decode cX0_begin 42 = .ok (.iconst 3, 1) := by decide +kernel
theorem dX0_begin_43 : decode cX0_begin 43 = .ok (.iload_n 3, 1) := by decide +kernel
theorem dX0_begin_44 : decode cX0_begin 44 = .ok (.invokevirtual 64, 3) := by decide +kernel
theorem dX0_begin_47 : decode cX0_begin 47 = .ok (.return_, 1) := by decide +kernel
theorem dX0_isRight_0 : decode cX0_isRight 0 = .ok (.iconst 0, 1) := by decide +kernel
theorem dX0_isRight_1 : decode cX0_isRight 1 = .ok (.istore_n 3, 1) := by decide +kernel
theorem dX0_isRight_2 : decode cX0_isRight 2 = .ok (.iload_n 3, 1) := by decide +kernel
theorem dX0_isRight_3 : decode cX0_isRight 3 = .ok (.aload_n 1, 1) := by decide +kernel
theorem dX0_isRight_4 : decode cX0_isRight 4 = .ok (.getfield 68, 3) := by decide +kernel
theorem dX0_isRight_7 : decode cX0_isRight 7 = .ok (.getfield 74, 3) := by decide +kernel
theorem dX0_isRight_10 : decode cX0_isRight 10 = .ok (.if_icmp .ge 45, 3) := by decide +kernel
theorem dX0_isRight_13 : decode cX0_isRight 13 = .ok (.iload_n 3, 1) := by decide +kernel
theorem dX0_isRight_14 : decode cX0_isRight 14 = .ok (.aload_n 0, 1) := by decide +kernel
theorem dX0_isRight_15 : decode cX0_isRight 15 = .ok (.getfield 9, 3) := by decide +kernel
theorem dX0_isRight_18 : decode cX0_isRight 18 = .ok (.arraylength, 1) := by decide +kernel
theorem dX0_isRight_19 : decode cX0_isRight 19 = .ok (.if_icmp .ge 36, 3) := by decide +kernel
theorem dX0_isRight_22 : decode cX0_isRight 22 = .ok (.aload_n 0, 1) := by decide +kernel
theorem dX0_isRight_23 : decode cX0_isRight 23 = .ok (.getfield 9, 3) := by decide +kernel
theorem dX0_isRight_26 : decode cX0_isRight 26 = .ok (.iload_n 3, 1) := by decide +kernel
theorem dX0_isRight_27 : decode cX0_isRight 27 = .ok (.iaload, 1) := by decide +kernel
theorem dX0_isRight_28 : decode cX0_isRight 28 = .ok (.iconst (-1), 1) := by decide +kernel
theorem dX0_isRight_29 : decode cX0_isRight 29 = .ok (.if_icmp .eq 20, 3) := by decide +kernel
theorem dX0_isRight_32 : decode cX0_isRight 32 = .ok (.aload_n 0, 1) := by decide +kernel
theorem dX0_isRight_33 : decode cX0_isRight 33 = .ok (.getfield 9, 3) := by decide +kernel
theorem dX0_isRight_36 : decode cX0_isRight 36 = .ok (.iload_n 3, 1) := by decide +kernel
theorem dX0_isRight_37 : decode cX0_isRight 37 = .ok (.iaload, 1) := by decide +kernel
theorem dX0_isRight_38 : decode cX0_isRight 38 = .ok (.aload_n 1, 1) := by decide +kernel
theorem dX0_isRight_39 : decode cX0_isRight 39 = .ok (.iload_n 3, 1) := by decide +kernel
theorem dX0_isRight_40 : decode cX0_isRight 40 = .ok (.iload_n 2, 1) := by decide +kernel
theorem dX0_isRight_41 : decode cX0_isRight 41 = .ok (.invokevirtual 79, 3) := by decide +kernel
theorem dX0_isRight_44 : decode cX0_isRight 44 = .ok (.if_icmp .eq 5, 3) := by decide +kernel
theorem dX0_isRight_47 : decode cX0_isRight 47 = .ok (.iconst 0, 1) := by decide +kernel
theorem dX0_isRight_48 : decode cX0_isRight 48 = .ok (.ireturn, 1) := by decide +kernel
theorem dX0_isRight_49 : decode cX0_isRight 49 = .ok (.iinc 3 1, 3) := by decide +kernel
theorem dX0_isRight_52 : decode cX0_isRight 52 = .ok (.goto (-50), 3) := by decide +kernel
theorem dX0_isRight_55 : decode cX0_isRight 55 = .ok (.iconst 1, 1) := by decide +kernel
theorem dX0_isRight_56 : decode cX0_isRight 56 = .ok (.ireturn, 1) := by decide +kernel
theorem dX0_leakySets_0 : decode cX0_leakySets 0 = .ok (.iconst 1, 1) := by decide +kernel
theorem dX0_leakySets_1 : decode cX0_leakySets 1 = .ok (.aload_n 1, 1) := by decide +kernel
theorem dX0_leakySets_2 : decode cX0_leakySets 2 = .ok (.getfield 68, 3) := by decide +kernel
theorem dX0_leakySets_5 : decode cX0_leakySets 5 = .ok (.getfield 74, 3) := by decide +kernel
theorem dX0_leakySets_8 : decode cX0_leakySets 8 = .ok (.ishl, 1) := by decide +kernel
theorem dX0_leakySets_9 : decode cX0_leakySets 9 = .ok (.iconst 1, 1) := by decide +kernel
theorem dX0_leakySets_10 : decode cX0_leakySets 10 = .ok (.isub, 1) := by decide +kernel
theorem dX0_leakySets_11 : decode cX0_leakySets 11 = .ok (.istore_n 3, 1) := by decide +kernel
theorem dX0_leakySets_12 : decode cX0_leakySets 12 = .ok (.iconst 0, 1) := by decide +kernel
theorem dX0_leakySets_13 : decode cX0_leakySets 13 = .ok (.istore 4, 2) := by decide +kernel
theorem dX0_leakySets_15 : decode cX0_leakySets 15 = .ok (.iconst (-1), 1) := by decide +kernel
theorem dX0_leakySets_16 : decode cX0_leakySets 16 = .ok (.istore 5, 2) := by decide +kernel
theorem dX0_leakySets_18 : decode cX0_leakySets 18 = .ok (.iload_n 3, 1) := by decide +kernel
theorem dX0_leakySets_19 : decode cX0_leakySets 19 = .ok (.istore 6, 2) := by decide +kernel
theorem dX0_leakySets_21 : decode cX0_leakySets 21 = .ok (.iconst 0, 1) := by decide +kernel
theorem dX0_leakySets_22 : decode cX0_leakySets 22 = .ok (.istore 7, 2) := by decide +kernel
theorem dX0_leakySets_24 : decode cX0_leakySets 24 = .ok (.iconst 0, 1) := by decide +kernel
theorem dX0_leakySets_25 : decode cX0_leakySets 25 = .ok (.istore 8, 2) := by decide +kernel
theorem dX0_leakySets_27 : decode cX0_leakySets 27 = .ok (.iload 8, 2) := by decide +kernel
theorem dX0_leakySets_29 : decode cX0_leakySets 29 = .ok (.iload_n 3, 1) := by decide +kernel
theorem dX0_leakySets_30 : decode cX0_leakySets 30 = .ok (.if_icmp .gt 50, 3) := by decide +kernel
theorem dX0_leakySets_33 : decode cX0_leakySets 33 = .ok (.aload_n 0, 1) := by decide +kernel
theorem dX0_leakySets_34 : decode cX0_leakySets 34 = .ok (.aload_n 1, 1) := by decide +kernel
theorem dX0_leakySets_35 : decode cX0_leakySets 35 = .ok (.iload 8, 2) := by decide +kernel
theorem dX0_leakySets_37 : decode cX0_leakySets 37 = .ok (.invokevirtual 81, 3) := by decide +kernel
theorem dX0_leakySets_40 : decode cX0_leakySets 40 = .ok (.ifCond .eq 34, 3) := by decide +kernel
theorem dX0_leakySets_43 : decode cX0_leakySets 43 = .ok (.iload 4, 2) := by decide +kernel
theorem dX0_leakySets_45 : decode cX0_leakySets 45 = .ok (.ifCond .ne 8, 3) := by decide +kernel
theorem dX0_leakySets_48 : decode cX0_leakySets 48 = .ok (.iload 8, 2) := by decide +kernel
theorem dX0_leakySets_50 : decode cX0_leakySets 50 = .ok (.goto 5, 3) := by decide +kernel
theorem dX0_leakySets_53 : decode cX0_leakySets 53 = .ok (.iload 5, 2) := by decide +kernel
theorem dX0_leakySets_55 : decode cX0_leakySets 55 = .ok (.istore 5, 2) := by decide +kernel
theorem dX0_leakySets_57 : decode cX0_leakySets 57 = .ok (.iload 6, 2) := by decide +kernel
theorem dX0_leakySets_59 : decode cX0_leakySets 59 = .ok (.iload 8, 2) := by decide +kernel
theorem dX0_leakySets_61 : decode cX0_leakySets 61 = .ok (.iand, 1) := by decide +kernel
theorem dX0_leakySets_62 : decode cX0_leakySets 62 = .ok (.istore 6, 2) := by decide +kernel
theorem dX0_leakySets_64 : decode cX0_leakySets 64 = .ok (.iload 7, 2) := by decide +kernel
theorem dX0_leakySets_66 : decode cX0_leakySets 66 = .ok (.iload 8, 2) := by decide +kernel
theorem dX0_leakySets_68 : decode cX0_leakySets 68 = .ok (.ior, 1) := by decide +kernel
theorem dX0_leakySets_69 : decode cX0_leakySets 69 = .ok (.istore 7, 2) := by decide +kernel
theorem dX0_leakySets_71 : decode cX0_leakySets 71 = .ok (.iinc 4 1, 3) := by decide +kernel
theorem dX0_leakySets_74 : decode cX0_leakySets 74 = .ok (.iinc 8 1, 3) := by decide +kernel
theorem dX0_leakySets_77 : decode cX0_leakySets 77 = .ok (.goto (-50), 3) := by decide +kernel
theorem dX0_leakySets_80 : decode cX0_leakySets 80 = .ok (.iload_n 2, 1) := by decide +kernel
theorem dX0_leakySets_81 : decode cX0_leakySets 81 = .ok (.ifCond .ne 6, 3) := by decide +kernel
theorem dX0_leakySets_84 : decode cX0_leakySets 84 = .ok (.iload 4, 2) := by decide +kernel
theorem dX0_leakySets_86 : decode cX0_leakySets 86 = .ok (.ireturn, 1) := by decide +kernel
theorem dX0_leakySets_87 : decode cX0_leakySets 87 = .ok (.iload_n 2, 1) := by decide +kernel
theorem dX0_leakySets_88 : decode cX0_leakySets 88 = .ok (.iconst 1, 1) := by decide +kernel
theorem dX0_leakySets_89 : decode cX0_leakySets 89 = .ok (.if_icmp .ne 6, 3) := by decide +kernel
theorem dX0_leakySets_92 : decode cX0_leakySets 92 = .ok (.iload 5, 2) := by decide +kernel
theorem dX0_leakySets_94 : decode cX0_leakySets 94 = .ok (.ireturn, 1) := by decide +kernel
theorem dX0_leakySets_95 : decode cX0_leakySets 95 = .ok (.iload 4, 2) := by decide +kernel
theorem dX0_leakySets_97 : decode cX0_leakySets 97 = .ok (.ifCond .ne 5, 3) := by decide +kernel
theorem dX0_leakySets_100 : decode cX0_leakySets 100 = .ok (.iconst 0, 1) := by decide +kernel
theorem dX0_leakySets_101 : decode cX0_leakySets 101 = .ok (.ireturn, 1) := by decide +kernel
theorem dX0_leakySets_102 : decode cX0_leakySets 102 = .ok (.iload_n 2, 1) := by decide +kernel
theorem dX0_leakySets_103 : decode cX0_leakySets 103 = .ok (.iconst 2, 1) := by decide +kernel
theorem dX0_leakySets_104 : decode cX0_leakySets 104 = .ok (.if_icmp .ne 8, 3) := by decide +kernel
theorem dX0_leakySets_107 : decode cX0_leakySets 107 = .ok (.iload 6, 2) := by decide +kernel
theorem dX0_leakySets_109 : decode cX0_leakySets 109 = .ok (.goto 9, 3) := by decide +kernel
theorem dX0_leakySets_112 : decode cX0_leakySets 112 = .ok (.iload_n 3, 1) := by decide +kernel
theorem dX0_leakySets_113 : decode cX0_leakySets 113 = .ok (.iload 7, 2) := by decide +kernel
theorem dX0_leakySets_115 : decode cX0_leakySets 115 = .ok (.iconst (-1), 1) := by decide +kernel
theorem dX0_leakySets_116 : decode cX0_leakySets 116 = .ok (.ixor, 1) := by decide +kernel
theorem dX0_leakySets_117 : decode cX0_leakySets 117 = .ok (.iand, 1) := by decide +kernel
theorem dX0_leakySets_118 : decode cX0_leakySets 118 = .ok (.ireturn, 1) := by decide +kernel
theorem dX1_init_0 : decode cX1_init 0 = .ok (.aload_n 0, 1) := by decide +kernel
theorem dX1_init_1 : decode cX1_init 1 = .ok (.invokespecial 3, 3) := by decide +kernel
theorem dX1_init_4 : decode cX1_init 4 = .ok (.aload_n 0, 1) := by decide +kernel
theorem dX1_init_5 : decode cX1_init 5 = .ok (.new 9, 3) := by decide +kernel
theorem dX1_init_8 : decode cX1_init 8 = .ok (.dup, 1) := by decide +kernel
theorem dX1_init_9 : decode cX1_init 9 = .ok (.bipush 24, 2) := by decide +kernel
theorem dX1_init_11 : decode cX1_init 11 = .ok (.newarray .int, 2) := by decide +kernel
theorem dX1_init_13 : decode cX1_init 13 = .ok (.iconst 4, 1) := by decide +kernel
theorem dX1_init_14 : decode cX1_init 14 = .ok (.invokespecial 11, 3) := by decide +kernel
theorem dX1_init_17 : decode cX1_init 17 = .ok (.putfield 14, 3) := by decide +kernel
theorem dX1_init_20 : decode cX1_init 20 = .ok (.aload_n 0, 1) := by decide +kernel
theorem dX1_init_21 : decode cX1_init 21 = .ok (.new 9, 3) := by decide +kernel
theorem dX1_init_24 : decode cX1_init 24 = .ok (.dup, 1) := by decide +kernel
theorem dX1_init_25 : decode cX1_init 25 = .ok (.bipush 48, 2) := by decide +kernel
theorem dX1_init_27 : decode cX1_init 27 = .ok (.newarray .int, 2) := by decide +kernel
theorem dX1_init_29 : decode cX1_init 29 = .ok (.iconst 4, 1) := by decide +kernel
theorem dX1_init_30 : decode cX1_init 30 = .ok (.invokespecial 11, 3) := by decide +kernel
theorem dX1_init_33 : decode cX1_init 33 = .ok (.putfield 20, 3) := by decide +kernel
theorem dX1_init_36 : decode cX1_init 36 = .ok (.aload_n 0, 1) := by decide +kernel
theorem dX1_init_37 : decode cX1_init 37 = .ok (.new 9, 3) := by decide +kernel
theorem dX1_init_40 : decode cX1_init 40 = .ok (.dup, 1) := by decide +kernel
theorem dX1_init_41 : decode cX1_init 41 = .ok (.bipush 9, 2) := by decide +kernel
theorem dX1_init_43 : decode cX1_init 43 = .ok (.newarray .int, 2) := by decide +kernel
theorem dX1_init_45 : decode cX1_init 45 = .ok (.iconst 3, 1) := by decide +kernel
theorem dX1_init_46 : decode cX1_init 46 = .ok (.invokespecial 11, 3) := by decide +kernel
theorem dX1_init_49 : decode cX1_init 49 = .ok (.putfield 23, 3) := by decide +kernel
theorem dX1_init_52 : decode cX1_init 52 = .ok (.aload_n 0, 1) := by decide +kernel
theorem dX1_init_53 : decode cX1_init 53 = .ok (.new 9, 3) := by decide +kernel
theorem dX1_init_56 : decode cX1_init 56 = .ok (.dup, 1) := by decide +kernel
theorem dX1_init_57 : decode cX1_init 57 = .ok (.bipush 6, 2) := by decide +kernel
theorem dX1_init_59 : decode cX1_init 59 = .ok (.newarray .int, 2) := by decide +kernel
theorem dX1_init_61 : decode cX1_init 61 = .ok (.iconst 2, 1) := by decide +kernel
theorem dX1_init_62 : decode cX1_init 62 = .ok (.invokespecial 11, 3) := by decide +kernel
theorem dX1_init_65 : decode cX1_init 65 = .ok (.putfield 26, 3) := by decide +kernel
theorem dX1_init_68 : decode cX1_init 68 = .ok (.aload_n 0, 1) := by decide +kernel
theorem dX1_init_69 : decode cX1_init 69 = .ok (.iconst 1, 1) := by decide +kernel
theorem dX1_init_70 : decode cX1_init 70 = .ok (.putfield 29, 3) := by decide +kernel
theorem dX1_init_73 : decode cX1_init 73 = .ok (.aload_n 0, 1) := by decide +kernel
theorem dX1_init_74 : decode cX1_init 74 = .ok (.iconst 3, 1) := by decide +kernel
theorem dX1_init_75 : decode cX1_init 75 = .ok (.putfield 33, 3) := by decide +kernel
theorem dX1_init_78 : decode cX1_init 78 = .ok (.return_, 1) := by decide +kernel
theorem dX1_read_0 : decode cX1_read 0 = .ok (.aload_n 0, 1) := by decide +kernel
theorem dX1_read_1 : decode cX1_read 1 = .ok (.getfield 14, 3) := by decide +kernel
theorem dX1_read_4 : decode cX1_read 4 = .ok (.invokevirtual 36, 3) := by decide +kernel
theorem dX1_read_7 : decode cX1_read 7 = .ok (.aload_n 0, 1) := by decide +kernel
theorem dX1_read_8 : decode cX1_read 8 = .ok (.getfield 20, 3) := by decide +kernel
theorem dX1_read_11 : decode cX1_read 11 = .ok (.invokevirtual 36, 3) := by decide +kernel
theorem dX1_read_14 : decode cX1_read 14 = .ok (.aload_n 0, 1) := by decide +kernel
theorem dX1_read_15 : decode cX1_read 15 = .ok (.getfield 23, 3) := by decide +kernel
theorem dX1_read_18 : decode cX1_read 18 = .ok (.invokevirtual 36, 3) := by decide +kernel
theorem dX1_read_21 : decode cX1_read 21 = .ok (.aload_n 0, 1) := by decide +kernel
theorem dX1_read_22 : decode cX1_read 22 = .ok (.getfield 26, 3) := by decide +kernel
theorem dX1_read_25 : decode cX1_read 25 = .ok (.invokevirtual 36, 3) := by decide +kernel
theorem dX1_read_28 : decode cX1_read 28 = .ok (.aload_n 0, 1) := by decide +kernel
theorem dX1_read_29 : decode cX1_read 29 = .ok (.iconst 1, 1) := by decide +kernel
theorem dX1_read_30 : decode cX1_read 30 = .ok (.putfield 29, 3) := by decide +kernel
theorem dX1_read_33 : decode cX1_read 33 = .ok (.aload_n 0, 1) := by decide +kernel
theorem dX1_read_34 : decode cX1_read 34 = .ok (.iconst 3, 1) := by decide +kernel
theorem dX1_read_35 : decode cX1_read 35 = .ok (.putfield 33, 3) := by decide +kernel
theorem dX1_read_38 : decode cX1_read 38 = .ok (.iconst 0, 1) := by decide +kernel
theorem dX1_read_39 : decode cX1_read 39 = .ok (.istore_n 2, 1) := by decide +kernel
theorem dX1_read_40 : decode cX1_read 40 = .ok (.iload_n 2, 1) := by decide +kernel
theorem dX1_read_41 : decode cX1_read 41 = .ok (.sipush 600, 3) := by decide +kernel
theorem dX1_read_44 : decode cX1_read 44 = .ok (.if_icmp .gt 39, 3) := by decide +kernel
theorem dX1_read_47 : decode cX1_read 47 = .ok (.aload_n 1, 1) := by decide +kernel
theorem dX1_read_48 : decode cX1_read 48 = .ok (.invokevirtual 39, 3) := by decide +kernel
theorem dX1_read_51 : decode cX1_read 51 = .ok (.iconst (-1), 1) := by decide +kernel
theorem dX1_read_52 : decode cX1_read 52 = .ok (.if_icmp .eq 31, 3) := by decide +kernel
theorem dX1_read_55 : decode cX1_read 55 = .ok (.aload_n 0, 1) := by decide +kernel
theorem dX1_read_56 : decode cX1_read 56 = .ok (.aload_n 1, 1) := by decide +kernel
theorem dX1_read_57 : decode cX1_read 57 = .ok (.iload_n 2, 1) := by decide +kernel
theorem dX1_read_58 : decode cX1_read 58 = .ok (.bipush 60, 2) := by decide +kernel
theorem dX1_read_60 : decode cX1_read 60 = .ok (.if_icmp .lt 7, 3) := by decide +kernel
theorem dX1_read_63 : decode cX1_read 63 = .ok (.iconst 1, 1) := by decide +kernel
theorem dX1_read_64 : decode cX1_read 64 = .ok (.goto 4, 3) := by decide +kernel
theorem dX1_read_67 : decode cX1_read 67 = .ok (.iconst 0, 1) := by decide +kernel
theorem dX1_read_68 : decode cX1_read 68 = .ok (.invokevirtual 45, 3) := by decide +kernel
theorem dX1_read_71 : decode cX1_read 71 = .ok (.aload_n 1, 1) := by decide +kernel
theorem dX1_read_72 : decode cX1_read 72 = .ok (.bipush 59, 2) := by decide +kernel
theorem dX1_read_74 : decode cX1_read 74 = .ok (.invokevirtual 49, 3) := by decide +kernel
theorem dX1_read_77 : decode cX1_read 77 = .ok (.iinc 2 1, 3) := by decide +kernel
theorem dX1_read_80 : decode cX1_read 80 = .ok (.goto (-40), 3) := by decide +kernel
theorem dX1_read_83 : decode cX1_read 83 = .ok (.return_, 1) := by decide +kernel
theorem dX1_readClause_0 : decode cX1_readClause 0 = .ok (.aload_n 1, 1) := by decide +kernel
theorem dX1_readClause_1 : decode cX1_readClause 1 = .ok (.invokevirtual 53, 3) := by decide +kernel
theorem dX1_readClause_4 : decode cX1_readClause 4 = .ok (.aload_n 1, 1) := by decide +kernel
theorem dX1_readClause_5 : decode cX1_readClause 5 = .ok (.invokevirtual 56, 3) := by decide +kernel
theorem dX1_readClause_8 : decode cX1_readClause 8 = .ok (.ifCond .ne 4, 3) := by decide +kernel
theorem dX1_readClause_11 : decode cX1_readClause 11 = .ok (.return_, 1) := by decide +kernel
theorem dX1_readClause_12 : decode cX1_readClause 12 = .ok (.aload_n 1, 1) := by decide +kernel
theorem dX1_readClause_13 : decode cX1_readClause 13 = .ok (.ldc 60, 2) := by decide +kernel
theorem dX1_readClause_15 : decode cX1_readClause 15 = .ok (.invokevirtual 62, 3) := by decide +kernel
theorem dX1_readClause_18 : decode cX1_readClause 18 = .ok (.ifCond .eq 12, 3) := by decide +kernel
theorem dX1_readClause_21 : decode cX1_readClause 21 = .ok (.aload_n 0, 1) := by decide +kernel
theorem dX1_readClause_22 : decode cX1_readClause 22 = .ok (.aload_n 1, 1) := by decide +kernel
theorem dX1_readClause_23 : decode cX1_readClause 23 = .ok (.iload_n 2, 1) := by decide +kernel
theorem dX1_readClause_24 : decode cX1_readClause 24 = .ok (.invokevirtual 66, 3) := by decide +kernel
theorem dX1_readClause_27 : decode cX1_readClause 27 = .ok (.goto 112, 3) := by decide +kernel
theorem dX1_readClause_30 : decode cX1_readClause 30 = .ok (.aload_n 1, 1) := by decide +kernel
theorem dX1_readClause_31 : decode cX1_readClause 31 = .ok (.ldc 69, 2) := by decide +kernel
theorem dX1_readClause_33 : decode cX1_readClause 33 = .ok (.invokevirtual 62, 3) := by decide +kernel
theorem dX1_readClause_36 : decode cX1_readClause 36 = .ok (.ifCond .eq 12, 3) := by decide +kernel
theorem dX1_readClause_39 : decode cX1_readClause 39 = .ok (.aload_n 0, 1) := by decide +kernel
theorem dX1_readClause_40 : decode cX1_readClause 40 = .ok (.aload_n 1, 1) := by decide +kernel
theorem dX1_readClause_41 : decode cX1_readClause 41 = .ok (.iload_n 2, 1) := by decide +kernel
theorem dX1_readClause_42 : decode cX1_readClause 42 = .ok (.invokevirtual 71, 3) := by decide +kernel
theorem dX1_readClause_45 : decode cX1_readClause 45 = .ok (.goto 94, 3) := by decide +kernel
theorem dX1_readClause_48 : decode cX1_readClause 48 = .ok (.aload_n 1, 1) := by decide +kernel
theorem dX1_readClause_49 : decode cX1_readClause 49 = .ok (.ldc 74, 2) := by decide +kernel
theorem dX1_readClause_51 : decode cX1_readClause 51 = .ok (.invokevirtual 62, 3) := by decide +kernel
theorem dX1_readClause_54 : decode cX1_readClause 54 = .ok (.ifCond .eq 12, 3) := by decide +kernel
theorem dX1_readClause_57 : decode cX1_readClause 57 = .ok (.aload_n 0, 1) := by decide +kernel
theorem dX1_readClause_58 : decode cX1_readClause 58 = .ok (.aload_n 1, 1) := by decide +kernel
theorem dX1_readClause_59 : decode cX1_readClause 59 = .ok (.iload_n 2, 1) := by decide +kernel
theorem dX1_readClause_60 : decode cX1_readClause 60 = .ok (.invokevirtual 76, 3) := by decide +kernel
theorem dX1_readClause_63 : decode cX1_readClause 63 = .ok (.goto 76, 3) := by decide +kernel
theorem dX1_readClause_66 : decode cX1_readClause 66 = .ok (.aload_n 1, 1) := by decide +kernel
theorem dX1_readClause_67 : decode cX1_readClause 67 = .ok (.ldc 79, 2) := by decide +kernel
theorem dX1_readClause_69 : decode cX1_readClause 69 = .ok (.invokevirtual 62, 3) := by decide +kernel
theorem dX1_readClause_72 : decode cX1_readClause 72 = .ok (.ifCond .eq 12, 3) := by decide +kernel
theorem dX1_readClause_75 : decode cX1_readClause 75 = .ok (.aload_n 0, 1) := by decide +kernel
theorem dX1_readClause_76 : decode cX1_readClause 76 = .ok (.aload_n 1, 1) := by decide +kernel
theorem dX1_readClause_77 : decode cX1_readClause 77 = .ok (.iload_n 2, 1) := by decide +kernel
theorem dX1_readClause_78 : decode cX1_readClause 78 = .ok (.invokevirtual 81, 3) := by decide +kernel
theorem dX1_readClause_81 : decode cX1_readClause 81 = .ok (.goto 58, 3) := by decide +kernel
theorem dX1_readClause_84 : decode cX1_readClause 84 = .ok (.aload_n 1, 1) := by decide +kernel
theorem dX1_readClause_85 : decode cX1_readClause 85 = .ok (.ldc 84, 2) := by decide +kernel
theorem dX1_readClause_87 : decode cX1_readClause 87 = .ok (.invokevirtual 62, 3) := by decide +kernel
theorem dX1_readClause_90 : decode cX1_readClause 90 = .ok (.ifCond .eq 17, 3) := by decide +kernel
theorem dX1_readClause_93 : decode cX1_readClause 93 = .ok (.aload_n 0, 1) := by decide +kernel
theorem dX1_readClause_94 : decode cX1_readClause 94 = .ok (.aload_n 1, 1) := by decide +kernel
theorem dX1_readClause_95 : decode cX1_readClause 95 = .ok (.iload_n 2, 1) := by decide +kernel
theorem dX1_readClause_96 : decode cX1_readClause 96 = .ok (.bipush 8, 2) := by decide +kernel
theorem dX1_readClause_98 : decode cX1_readClause 98 = .ok (.invokestatic 86, 3) := by decide +kernel
theorem dX1_readClause_101 : decode cX1_readClause 101 = .ok (.putfield 29, 3) := by decide +kernel
theorem dX1_readClause_104 : decode cX1_readClause 104 = .ok (.goto 35, 3) := by decide +kernel
theorem dX1_readClause_107 : decode cX1_readClause 107 = .ok (.aload_n 1, 1) := by decide +kernel
theorem dX1_readClause_108 : decode cX1_readClause 108 = .ok (.ldc 90, 2) := by decide +kernel
theorem dX1_readClause_110 : decode cX1_readClause 110 = .ok (.invokevirtual 62, 3) := by decide +kernel
theorem dX1_readClause_113 : decode cX1_readClause 113 = .ok (.ifCond .eq 17, 3) := by decide +kernel
theorem dX1_readClause_116 : decode cX1_readClause 116 = .ok (.aload_n 0, 1) := by decide +kernel
theorem dX1_readClause_117 : decode cX1_readClause 117 = .ok (.aload_n 1, 1) := by decide +kernel
theorem dX1_readClause_118 : decode cX1_readClause 118 = .ok (.iload_n 2, 1) := by decide +kernel
theorem dX1_readClause_119 : decode cX1_readClause 119 = .ok (.bipush 99, 2) := by decide +kernel
theorem dX1_readClause_121 : decode cX1_readClause 121 = .ok (.invokestatic 86, 3) := by decide +kernel
theorem dX1_readClause_124 : decode cX1_readClause 124 = .ok (.putfield 33, 3) := by decide +kernel
theorem dX1_readClause_127 : decode cX1_readClause 127 = .ok (.goto 12, 3) := by decide +kernel
theorem dX1_readClause_130 : decode cX1_readClause 130 = .ok (.aload_n 1, 1) := by decide +kernel
theorem dX1_readClause_131 : decode cX1_readClause 131 = .ok (.iconst 1, 1) := by decide +kernel
theorem dX1_readClause_132 : decode cX1_readClause 132 = .ok (.aload_n 1, 1) := by decide +kernel
theorem dX1_readClause_133 : decode cX1_readClause 133 = .ok (.getfield 91, 3) := by decide +kernel
theorem dX1_readClause_136 : decode cX1_readClause 136 = .ok (.invokevirtual 94, 3) := by decide +kernel
theorem dX1_readClause_139 : decode cX1_readClause 139 = .ok (.return_, 1) := by decide +kernel
theorem dX1_readPlace_0 : decode cX1_readPlace 0 = .ok (.aload_n 1, 1) := by decide +kernel
theorem dX1_readPlace_1 : decode cX1_readPlace 1 = .ok (.aload_n 0, 1) := by decide +kernel
theorem dX1_readPlace_2 : decode cX1_readPlace 2 = .ok (.getfield 14, 3) := by decide +kernel
theorem dX1_readPlace_5 : decode cX1_readPlace 5 = .ok (.iload_n 2, 1) := by decide +kernel
theorem dX1_readPlace_6 : decode cX1_readPlace 6 = .ok (.invokestatic 98, 3) := by decide +kernel
theorem dX1_readPlace_9 : decode cX1_readPlace 9 = .ok (.istore_n 3, 1) := by decide +kernel
theorem dX1_readPlace_10 : decode cX1_readPlace 10 = .ok (.aload_n 0, 1) := by decide +kernel
theorem dX1_readPlace_11 : decode cX1_readPlace 11 = .ok (.getfield 14, 3) := by decide +kernel
theorem dX1_readPlace_14 : decode cX1_readPlace 14 = .ok (.iload_n 3, 1) := by decide +kernel
theorem dX1_readPlace_15 : decode cX1_readPlace 15 = .ok (.iconst 0, 1) := by decide +kernel
theorem dX1_readPlace_16 : decode cX1_readPlace 16 = .ok (.aload_n 1, 1) := by decide +kernel
theorem dX1_readPlace_17 : decode cX1_readPlace 17 = .ok (.iconst 0, 1) := by decide +kernel
theorem dX1_readPlace_18 : decode cX1_readPlace 18 = .ok (.bipush 40, 2) := by decide +kernel
theorem dX1_readPlace_20 : decode cX1_readPlace 20 = .ok (.invokevirtual 102, 3) := by decide +kernel
theorem dX1_readPlace_23 : decode cX1_readPlace 23 = .ok (.invokevirtual 106, 3) := by decide +kernel
theorem dX1_readPlace_26 : decode cX1_readPlace 26 = .ok (.aload_n 0, 1) := by decide +kernel
theorem dX1_readPlace_27 : decode cX1_readPlace 27 = .ok (.getfield 14, 3) := by decide +kernel
theorem dX1_readPlace_30 : decode cX1_readPlace 30 = .ok (.iload_n 3, 1) := by decide +kernel
theorem dX1_readPlace_31 : decode cX1_readPlace 31 = .ok (.iconst 1, 1) := by decide +kernel
theorem dX1_readPlace_32 : decode cX1_readPlace 32 = .ok (.aload_n 1, 1) := by decide +kernel
theorem dX1_readPlace_33 : decode cX1_readPlace 33 = .ok (.iconst 0, 1) := by decide +kernel
theorem dX1_readPlace_34 : decode cX1_readPlace 34 = .ok (.bipush 99, 2) := by decide +kernel
theorem dX1_readPlace_36 : decode cX1_readPlace 36 = .ok (.invokevirtual 102, 3) := by decide +kernel
theorem dX1_readPlace_39 : decode cX1_readPlace 39 = .ok (.invokevirtual 106, 3) := by decide +kernel
theorem dX1_readPlace_42 : decode cX1_readPlace 42 = .ok (.aload_n 0, 1) := by decide +kernel
theorem dX1_readPlace_43 : decode cX1_readPlace 43 = .ok (.getfield 14, 3) := by decide +kernel
theorem dX1_readPlace_46 : decode cX1_readPlace 46 = .ok (.iload_n 3, 1) := by decide +kernel
theorem dX1_readPlace_47 : decode cX1_readPlace 47 = .ok (.iconst 2, 1) := by decide +kernel
theorem dX1_readPlace_48 : decode cX1_readPlace 48 = .ok (.aload_n 1, 1) := by decide +kernel
theorem dX1_readPlace_49 : decode cX1_readPlace 49 = .ok (.iconst 0, 1) := by decide +kernel
theorem dX1_readPlace_50 : decode cX1_readPlace 50 = .ok (.bipush 99, 2) := by decide +kernel
theorem dX1_readPlace_52 : decode cX1_readPlace 52 = .ok (.invokevirtual 102, 3) := by decide +kernel
theorem dX1_readPlace_55 : decode cX1_readPlace 55 = .ok (.invokevirtual 106, 3) := by decide +kernel
theorem dX1_readPlace_58 : decode cX1_readPlace 58 = .ok (.aload_n 0, 1) := by decide +kernel
theorem dX1_readPlace_59 : decode cX1_readPlace 59 = .ok (.getfield 14, 3) := by decide +kernel
theorem dX1_readPlace_62 : decode cX1_readPlace 62 = .ok (.iload_n 3, 1) := by decide +kernel
theorem dX1_readPlace_63 : decode cX1_readPlace 63 = .ok (.iconst 3, 1) := by decide +kernel
theorem dX1_readPlace_64 : decode cX1_readPlace 64 = .ok (.aload_n 1, 1) := by decide +kernel
theorem dX1_readPlace_65 : decode cX1_readPlace 65 = .ok (.iconst 0, 1) := by decide +kernel
theorem dX1_readPlace_66 : decode cX1_readPlace 66 = .ok (.bipush 99, 2) := by decide +kernel
theorem dX1_readPlace_68 : decode cX1_readPlace 68 = .ok (.invokevirtual 102, 3) := by decide +kernel
theorem dX1_readPlace_71 : decode cX1_readPlace 71 = .ok (.invokevirtual 106, 3) := by decide +kernel
theorem dX1_readPlace_74 : decode cX1_readPlace 74 = .ok (.return_, 1) := by decide +kernel
theorem dX1_readWant_0 : decode cX1_readWant 0 = .ok (.aload_n 1, 1) := by decide +kernel
theorem dX1_readWant_1 : decode cX1_readWant 1 = .ok (.aload_n 0, 1) := by decide +kernel
theorem dX1_readWant_2 : decode cX1_readWant 2 = .ok (.getfield 20, 3) := by decide +kernel
theorem dX1_readWant_5 : decode cX1_readWant 5 = .ok (.iload_n 2, 1) := by decide +kernel
theorem dX1_readWant_6 : decode cX1_readWant 6 = .ok (.invokestatic 98, 3) := by decide +kernel
theorem dX1_readWant_9 : decode cX1_readWant 9 = .ok (.istore_n 3, 1) := by decide +kernel
theorem dX1_readWant_10 : decode cX1_readWant 10 = .ok (.aload_n 0, 1) := by decide +kernel
theorem dX1_readWant_11 : decode cX1_readWant 11 = .ok (.getfield 20, 3) := by decide +kernel
theorem dX1_readWant_14 : decode cX1_readWant 14 = .ok (.iload_n 3, 1) := by decide +kernel
theorem dX1_readWant_15 : decode cX1_readWant 15 = .ok (.iconst 0, 1) := by decide +kernel
theorem dX1_readWant_16 : decode cX1_readWant 16 = .ok (.aload_n 1, 1) := by decide +kernel
theorem dX1_readWant_17 : decode cX1_readWant 17 = .ok (.iconst 0, 1) := by decide +kernel
theorem dX1_readWant_18 : decode cX1_readWant 18 = .ok (.aload_n 0, 1) := by decide +kernel
theorem dX1_readWant_19 : decode cX1_readWant 19 = .ok (.getfield 14, 3) := by decide +kernel
theorem dX1_readWant_22 : decode cX1_readWant 22 = .ok (.getfield 110, 3) := by decide +kernel
theorem dX1_readWant_25 : decode cX1_readWant 25 = .ok (.iconst 1, 1) := by decide +kernel
theorem dX1_readWant_26 : decode cX1_readWant 26 = .ok (.isub, 1) := by decide +kernel
theorem dX1_readWant_27 : decode cX1_readWant 27 = .ok (.invokevirtual 102, 3) := by decide +kernel
theorem dX1_readWant_30 : decode cX1_readWant 30 = .ok (.invokevirtual 106, 3) := by decide +kernel
theorem dX1_readWant_33 : decode cX1_readWant 33 = .ok (.aload_n 0, 1) := by decide +kernel
theorem dX1_readWant_34 : decode cX1_readWant 34 = .ok (.getfield 20, 3) := by decide +kernel
theorem dX1_readWant_37 : decode cX1_readWant 37 = .ok (.iload_n 3, 1) := by decide +kernel
theorem dX1_readWant_38 : decode cX1_readWant 38 = .ok (.iconst 1, 1) := by decide +kernel
theorem dX1_readWant_39 : decode cX1_readWant 39 = .ok (.aload_n 1, 1) := by decide +kernel
theorem dX1_readWant_40 : decode cX1_readWant 40 = .ok (.iconst 1, 1) := by decide +kernel
theorem dX1_readWant_41 : decode cX1_readWant 41 = .ok (.bipush 12, 2) := by decide +kernel
theorem dX1_readWant_43 : decode cX1_readWant 43 = .ok (.invokevirtual 102, 3) := by decide +kernel
theorem dX1_readWant_46 : decode cX1_readWant 46 = .ok (.invokevirtual 106, 3) := by decide +kernel
theorem dX1_readWant_49 : decode cX1_readWant 49 = .ok (.aload_n 0, 1) := by decide +kernel
theorem dX1_readWant_50 : decode cX1_readWant 50 = .ok (.getfield 20, 3) := by decide +kernel
theorem dX1_readWant_53 : decode cX1_readWant 53 = .ok (.iload_n 3, 1) := by decide +kernel
theorem dX1_readWant_54 : decode cX1_readWant 54 = .ok (.iconst 2, 1) := by decide +kernel
theorem dX1_readWant_55 : decode cX1_readWant 55 = .ok (.aload_n 1, 1) := by decide +kernel
theorem dX1_readWant_56 : decode cX1_readWant 56 = .ok (.iconst 0, 1) := by decide +kernel
theorem dX1_readWant_57 : decode cX1_readWant 57 = .ok (.iconst 1, 1) := by decide +kernel
theorem dX1_readWant_58 : decode cX1_readWant 58 = .ok (.invokevirtual 102, 3) := by decide +kernel
theorem dX1_readWant_61 : decode cX1_readWant 61 = .ok (.invokevirtual 106, 3) := by decide +kernel
theorem dX1_readWant_64 : decode cX1_readWant 64 = .ok (.aload_n 0, 1) := by decide +kernel
theorem dX1_readWant_65 : decode cX1_readWant 65 = .ok (.getfield 20, 3) := by decide +kernel
theorem dX1_readWant_68 : decode cX1_readWant 68 = .ok (.iload_n 3, 1) := by decide +kernel
theorem dX1_readWant_69 : decode cX1_readWant 69 = .ok (.iconst 3, 1) := by decide +kernel
theorem dX1_readWant_70 : decode cX1_readWant 70 = .ok (.aload_n 1, 1) := by decide +kernel
theorem dX1_readWant_71 : decode cX1_readWant 71 = .ok (.iconst 0, 1) := by decide +kernel
theorem dX1_readWant_72 : decode cX1_readWant 72 = .ok (.bipush 99, 2) := by decide +kernel
theorem dX1_readWant_74 : decode cX1_readWant 74 = .ok (.invokevirtual 102, 3) := by decide +kernel
theorem dX1_readWant_77 : decode cX1_readWant 77 = .ok (.invokevirtual 106, 3) := by decide +kernel
theorem dX1_readWant_80 : decode cX1_readWant 80 = .ok (.return_, 1) := by decide +kernel
theorem dX1_readMine_0 : decode cX1_readMine 0 = .ok (.aload_n 1, 1) := by decide +kernel
theorem dX1_readMine_1 : decode cX1_readMine 1 = .ok (.aload_n 0, 1) := by decide +kernel
theorem dX1_readMine_2 : decode cX1_readMine 2 = .ok (.getfield 23, 3) := by decide +kernel
theorem dX1_readMine_5 : decode cX1_readMine 5 = .ok (.iload_n 2, 1) := by decide +kernel
theorem dX1_readMine_6 : decode cX1_readMine 6 = .ok (.invokestatic 98, 3) := by decide +kernel
theorem dX1_readMine_9 : decode cX1_readMine 9 = .ok (.istore_n 3, 1) := by decide +kernel
theorem dX1_readMine_10 : decode cX1_readMine 10 = .ok (.aload_n 0, 1) := by decide +kernel
theorem dX1_readMine_11 : decode cX1_readMine 11 = .ok (.getfield 23, 3) := by decide +kernel
theorem dX1_readMine_14 : decode cX1_readMine 14 = .ok (.iload_n 3, 1) := by decide +kernel
theorem dX1_readMine_15 : decode cX1_readMine 15 = .ok (.iconst 0, 1) := by decide +kernel
theorem dX1_readMine_16 : decode cX1_readMine 16 = .ok (.aload_n 1, 1) := by decide +kernel
theorem dX1_readMine_17 : decode cX1_readMine 17 = .ok (.iconst 0, 1) := by decide +kernel
theorem dX1_readMine_18 : decode cX1_readMine 18 = .ok (.aload_n 0, 1) := by decide +kernel
theorem dX1_readMine_19 : decode cX1_readMine 19 = .ok (.getfield 14, 3) := by decide +kernel
theorem dX1_readMine_22 : decode cX1_readMine 22 = .ok (.getfield 110, 3) := by decide +kernel
theorem dX1_readMine_25 : decode cX1_readMine 25 = .ok (.iconst 1, 1) := by decide +kernel
theorem dX1_readMine_26 : decode cX1_readMine 26 = .ok (.isub, 1) := by decide +kernel
theorem dX1_readMine_27 : decode cX1_readMine 27 = .ok (.invokevirtual 102, 3) := by decide +kernel
theorem dX1_readMine_30 : decode cX1_readMine 30 = .ok (.invokevirtual 106, 3) := by decide +kernel
theorem dX1_readMine_33 : decode cX1_readMine 33 = .ok (.aload_n 0, 1) := by decide +kernel
theorem dX1_readMine_34 : decode cX1_readMine 34 = .ok (.getfield 23, 3) := by decide +kernel
theorem dX1_readMine_37 : decode cX1_readMine 37 = .ok (.iload_n 3, 1) := by decide +kernel
theorem dX1_readMine_38 : decode cX1_readMine 38 = .ok (.iconst 1, 1) := by decide +kernel
theorem dX1_readMine_39 : decode cX1_readMine 39 = .ok (.aload_n 1, 1) := by decide +kernel
theorem dX1_readMine_40 : decode cX1_readMine 40 = .ok (.iconst 0, 1) := by decide +kernel
theorem dX1_readMine_41 : decode cX1_readMine 41 = .ok (.sipush 400, 3) := by decide +kernel
theorem dX1_readMine_44 : decode cX1_readMine 44 = .ok (.invokevirtual 102, 3) := by decide +kernel
theorem dX1_readMine_47 : decode cX1_readMine 47 = .ok (.invokevirtual 106, 3) := by decide +kernel
theorem dX1_readMine_50 : decode cX1_readMine 50 = .ok (.aload_n 0, 1) := by decide +kernel
theorem dX1_readMine_51 : decode cX1_readMine 51 = .ok (.getfield 23, 3) := by decide +kernel
theorem dX1_readMine_54 : decode cX1_readMine 54 = .ok (.iload_n 3, 1) := by decide +kernel
theorem dX1_readMine_55 : decode cX1_readMine 55 = .ok (.iconst 2, 1) := by decide +kernel
theorem dX1_readMine_56 : decode cX1_readMine 56 = .ok (.aload_n 1, 1) := by decide +kernel
theorem dX1_readMine_57 : decode cX1_readMine 57 = .ok (.iconst 0, 1) := by decide +kernel
theorem dX1_readMine_58 : decode cX1_readMine 58 = .ok (.bipush 11, 2) := by decide +kernel
theorem dX1_readMine_60 : decode cX1_readMine 60 = .ok (.invokevirtual 102, 3) := by decide +kernel
theorem dX1_readMine_63 : decode cX1_readMine 63 = .ok (.invokevirtual 106, 3) := by decide +kernel
theorem dX1_readMine_66 : decode cX1_readMine 66 = .ok (.return_, 1) := by decide +kernel
theorem dX1_readMoon_0 : decode cX1_readMoon 0 = .ok (.aload_n 1, 1) := by decide +kernel
theorem dX1_readMoon_1 : decode cX1_readMoon 1 = .ok (.aload_n 0, 1) := by decide +kernel
theorem dX1_readMoon_2 : decode cX1_readMoon 2 = .ok (.getfield 26, 3) := by decide +kernel
theorem dX1_readMoon_5 : decode cX1_readMoon 5 = .ok (.iload_n 2, 1) := by decide +kernel
theorem dX1_readMoon_6 : decode cX1_readMoon 6 = .ok (.invokestatic 98, 3) := by decide +kernel
theorem dX1_readMoon_9 : decode cX1_readMoon 9 = .ok (.istore_n 3, 1) := by decide +kernel
theorem dX1_readMoon_10 : decode cX1_readMoon 10 = .ok (.aload_n 1, 1) := by decide +kernel
theorem dX1_readMoon_11 : decode cX1_readMoon 11 = .ok (.iconst 1, 1) := by decide +kernel
theorem dX1_readMoon_12 : decode cX1_readMoon 12 = .ok (.bipush 30, 2) := by decide +kernel
theorem dX1_readMoon_14 : decode cX1_readMoon 14 = .ok (.invokevirtual 102, 3) := by decide +kernel
theorem dX1_readMoon_17 : decode cX1_readMoon 17 = .ok (.istore 4, 2) := by decide +kernel
theorem dX1_readMoon_19 : decode cX1_readMoon 19 = .ok (.aload_n 0, 1) := by decide +kernel
theorem dX1_readMoon_20 : decode cX1_readMoon 20 = .ok (.getfield 26, 3) := by decide +kernel
theorem dX1_readMoon_23 : decode cX1_readMoon 23 = .ok (.iload_n 3, 1) := by decide +kernel
theorem dX1_readMoon_24 : decode cX1_readMoon 24 = .ok (.iconst 0, 1) := by decide +kernel
theorem dX1_readMoon_25 : decode cX1_readMoon 25 = .ok (.iload 4, 2) := by decide +kernel
theorem dX1_readMoon_27 : decode cX1_readMoon 27 = .ok (.invokevirtual 106, 3) := by decide +kernel
theorem dX1_readMoon_30 : decode cX1_readMoon 30 = .ok (.aload_n 0, 1) := by decide +kernel
theorem dX1_readMoon_31 : decode cX1_readMoon 31 = .ok (.getfield 26, 3) := by decide +kernel
theorem dX1_readMoon_34 : decode cX1_readMoon 34 = .ok (.iload_n 3, 1) := by decide +kernel
theorem dX1_readMoon_35 : decode cX1_readMoon 35 = .ok (.iconst 1, 1) := by decide +kernel
theorem dX1_readMoon_36 : decode cX1_readMoon 36 = .ok (.aload_n 1, 1) := by decide +kernel
theorem dX1_readMoon_37 : decode cX1_readMoon 37 = .ok (.iconst 0, 1) := by decide +kernel
theorem dX1_readMoon_38 : decode cX1_readMoon 38 = .ok (.iload 4, 2) := by decide +kernel
theorem dX1_readMoon_40 : decode cX1_readMoon 40 = .ok (.iconst 1, 1) := by decide +kernel
theorem dX1_readMoon_41 : decode cX1_readMoon 41 = .ok (.isub, 1) := by decide +kernel
theorem dX1_readMoon_42 : decode cX1_readMoon 42 = .ok (.invokevirtual 102, 3) := by decide +kernel
theorem dX1_readMoon_45 : decode cX1_readMoon 45 = .ok (.invokevirtual 106, 3) := by decide +kernel
theorem dX1_readMoon_48 : decode cX1_readMoon 48 = .ok (.return_, 1) := by decide +kernel
theorem dX1_readSetting_0 : decode cX1_readSetting 0 = .ok (.iload_n 1, 1) := by decide +kernel
theorem dX1_readSetting_1 : decode cX1_readSetting 1 = .ok (.ifCond .eq 12, 3) := by decide +kernel
theorem dX1_readSetting_4 : decode cX1_readSetting 4 = .ok (.aload_n 0, 1) := by decide +kernel
theorem dX1_readSetting_5 : decode cX1_readSetting 5 = .ok (.iconst 3, 1) := by decide +kernel
theorem dX1_readSetting_6 : decode cX1_readSetting 6 = .ok (.aload_n 0, 1) := by decide +kernel
theorem dX1_readSetting_7 : decode cX1_readSetting 7 = .ok (.getfield 91, 3) := by decide +kernel
theorem dX1_readSetting_10 : decode cX1_readSetting 10 = .ok (.invokevirtual 94, 3) := by decide +kernel
theorem dX1_readSetting_13 : decode cX1_readSetting 13 = .ok (.aload_n 0, 1) := by decide +kernel
theorem dX1_readSetting_14 : decode cX1_readSetting 14 = .ok (.iconst 0, 1) := by decide +kernel
theorem dX1_readSetting_15 : decode cX1_readSetting 15 = .ok (.iload_n 2, 1) := by decide +kernel
theorem dX1_readSetting_16 : decode cX1_readSetting 16 = .ok (.invokevirtual 102, 3) := by decide +kernel
theorem dX1_readSetting_19 : decode cX1_readSetting 19 = .ok (.ireturn, 1) := by decide +kernel
theorem dX1_beginRow_0 : decode cX1_beginRow 0 = .ok (.iload_n 2, 1) := by decide +kernel
theorem dX1_beginRow_1 : decode cX1_beginRow 1 = .ok (.ifCond .ne 10, 3) := by decide +kernel
theorem dX1_beginRow_4 : decode cX1_beginRow 4 = .ok (.aload_n 1, 1) := by decide +kernel
theorem dX1_beginRow_5 : decode cX1_beginRow 5 = .ok (.invokevirtual 113, 3) := by decide +kernel
theorem dX1_beginRow_8 : decode cX1_beginRow 8 = .ok (.ifCond .eq 12, 3) := by decide +kernel
theorem dX1_beginRow_11 : decode cX1_beginRow 11 = .ok (.aload_n 0, 1) := by decide +kernel
theorem dX1_beginRow_12 : decode cX1_beginRow 12 = .ok (.iconst 3, 1) := by decide +kernel
theorem dX1_beginRow_13 : decode cX1_beginRow 13 = .ok (.aload_n 0, 1) := by decide +kernel
theorem dX1_beginRow_14 : decode cX1_beginRow 14 = .ok (.getfield 91, 3) := by decide +kernel
theorem dX1_beginRow_17 : decode cX1_beginRow 17 = .ok (.invokevirtual 94, 3) := by decide +kernel
theorem dX1_beginRow_20 : decode cX1_beginRow 20 = .ok (.aload_n 1, 1) := by decide +kernel
theorem dX1_beginRow_21 : decode cX1_beginRow 21 = .ok (.invokevirtual 116, 3) := by decide +kernel
theorem dX1_beginRow_24 : decode cX1_beginRow 24 = .ok (.ireturn, 1) := by decide +kernel
theorem dX1_copyFrom_0 : decode cX1_copyFrom 0 = .ok (.aload_n 0, 1) := by decide +kernel
theorem dX1_copyFrom_1 : decode cX1_copyFrom 1 = .ok (.getfield 14, 3) := by decide +kernel
theorem dX1_copyFrom_4 : decode cX1_copyFrom 4 = .ok (.aload_n 1, 1) := by decide +kernel
theorem dX1_copyFrom_5 : decode cX1_copyFrom 5 = .ok (.getfield 14, 3) := by decide +kernel
theorem dX1_copyFrom_8 : decode cX1_copyFrom 8 = .ok (.invokevirtual 119, 3) := by decide +kernel
theorem dX1_copyFrom_11 : decode cX1_copyFrom 11 = .ok (.aload_n 0, 1) := by decide +kernel
theorem dX1_copyFrom_12 : decode cX1_copyFrom 12 = .ok (.getfield 20, 3) := by decide +kernel
theorem dX1_copyFrom_15 : decode cX1_copyFrom 15 = .ok (.aload_n 1, 1) := by decide +kernel
theorem dX1_copyFrom_16 : decode cX1_copyFrom 16 = .ok (.getfield 20, 3) := by decide +kernel
theorem dX1_copyFrom_19 : decode cX1_copyFrom 19 = .ok (.invokevirtual 119, 3) := by decide +kernel
theorem dX1_copyFrom_22 : decode cX1_copyFrom 22 = .ok (.aload_n 0, 1) := by decide +kernel
theorem dX1_copyFrom_23 : decode cX1_copyFrom 23 = .ok (.getfield 23, 3) := by decide +kernel
theorem dX1_copyFrom_26 : decode cX1_copyFrom 26 = .ok (.aload_n 1, 1) := by decide +kernel
theorem dX1_copyFrom_27 : decode cX1_copyFrom 27 = .ok (.getfield 23, 3) := by decide +kernel
theorem dX1_copyFrom_30 : decode cX1_copyFrom 30 = .ok (.invokevirtual 119, 3) := by decide +kernel
theorem dX1_copyFrom_33 : decode cX1_copyFrom 33 = .ok (.aload_n 0, 1) := by decide +kernel
theorem dX1_copyFrom_34 : decode cX1_copyFrom 34 = .ok (.getfield 26, 3) := by decide +kernel
theorem dX1_copyFrom_37 : decode cX1_copyFrom 37 = .ok (.aload_n 1, 1) := by decide +kernel
theorem dX1_copyFrom_38 : decode cX1_copyFrom 38 = .ok (.getfield 26, 3) := by decide +kernel
theorem dX1_copyFrom_41 : decode cX1_copyFrom 41 = .ok (.invokevirtual 119, 3) := by decide +kernel
theorem dX1_copyFrom_44 : decode cX1_copyFrom 44 = .ok (.aload_n 0, 1) := by decide +kernel
theorem dX1_copyFrom_45 : decode cX1_copyFrom 45 = .ok (.aload_n 1, 1) := by decide +kernel
theorem dX1_copyFrom_46 : decode cX1_copyFrom 46 = .ok (.getfield 29, 3) := by decide +kernel
theorem dX1_copyFrom_49 : decode cX1_copyFrom 49 = .ok (.putfield 29, 3) := by decide +kernel
theorem dX1_copyFrom_52 : decode cX1_copyFrom 52 = .ok (.aload_n 0, 1) := by decide +kernel
theorem dX1_copyFrom_53 : decode cX1_copyFrom 53 = .ok (.aload_n 1, 1) := by decide +kernel
theorem dX1_copyFrom_54 : decode cX1_copyFrom 54 = .ok (.getfield 33, 3) := by decide +kernel
theorem dX1_copyFrom_57 : decode cX1_copyFrom 57 = .ok (.putfield 33, 3) := by decide +kernel
theorem dX1_copyFrom_60 : decode cX1_copyFrom 60 = .ok (.return_, 1) := by decide +kernel
theorem dX1_milesBetween_0 : decode cX1_milesBetween 0 = .ok (.aload_n 0, 1) := by decide +kernel
theorem dX1_milesBetween_1 : decode cX1_milesBetween 1 = .ok (.getfield 14, 3) := by decide +kernel
theorem dX1_milesBetween_4 : decode cX1_milesBetween 4 = .ok (.iload_n 1, 1) := by decide +kernel
theorem dX1_milesBetween_5 : decode cX1_milesBetween 5 = .ok (.iconst 0, 1) := by decide +kernel
theorem dX1_milesBetween_6 : decode cX1_milesBetween 6 = .ok (.invokevirtual 123, 3) := by decide +kernel
theorem dX1_milesBetween_9 : decode cX1_milesBetween 9 = .ok (.aload_n 0, 1) := by decide +kernel
theorem dX1_milesBetween_10 : decode cX1_milesBetween 10 = .ok (.getfield 14, 3) := by decide +kernel
theorem dX1_milesBetween_13 : decode cX1_milesBetween 13 = .ok (.iload_n 2, 1) := by decide +kernel
theorem dX1_milesBetween_14 : decode cX1_milesBetween 14 = .ok (.iconst 0, 1) := by decide +kernel
theorem dX1_milesBetween_15 : decode cX1_milesBetween 15 = .ok (.invokevirtual 123, 3) := by decide +kernel
theorem dX1_milesBetween_18 : decode cX1_milesBetween 18 = .ok (.isub, 1) := by decide +kernel
theorem dX1_milesBetween_19 : decode cX1_milesBetween 19 = .ok (.invokestatic 126, 3) := by decide +kernel
theorem dX1_milesBetween_22 : decode cX1_milesBetween 22 = .ok (.ireturn, 1) := by decide +kernel
theorem dX1_standsAhead_0 : decode cX1_standsAhead 0 = .ok (.aload_n 0, 1) := by decide +kernel
theorem dX1_standsAhead_1 : decode cX1_standsAhead 1 = .ok (.getfield 14, 3) := by decide +kernel
theorem dX1_standsAhead_4 : decode cX1_standsAhead 4 = .ok (.iload_n 1, 1) := by decide +kernel
theorem dX1_standsAhead_5 : decode cX1_standsAhead 5 = .ok (.iconst 0, 1) := by decide +kernel
theorem dX1_standsAhead_6 : decode cX1_standsAhead 6 = .ok (.invokevirtual 123, 3) := by decide +kernel
theorem dX1_standsAhead_9 : decode cX1_standsAhead 9 = .ok (.istore_n 3, 1) := by decide +kernel
theorem dX1_standsAhead_10 : decode cX1_standsAhead 10 = .ok (.aload_n 0, 1) := by decide +kernel
theorem dX1_standsAhead_11 : decode cX1_standsAhead 11 = .ok (.getfield 14, 3) := by decide +kernel
theorem dX1_standsAhead_14 : decode cX1_standsAhead 14 = .ok (.iload_n 2, 1) := by decide +kernel
theorem dX1_standsAhead_15 : decode cX1_standsAhead 15 = .ok (.iconst 0, 1) := by decide +kernel
theorem dX1_standsAhead_16 : decode cX1_standsAhead 16 = .ok (.invokevirtual 123, 3) := by decide +kernel
theorem dX1_standsAhead_19 : decode cX1_standsAhead 19 = .ok (.istore 4, 2) := by decide +kernel
theorem dX1_standsAhead_21 : decode cX1_standsAhead 21 = .ok (.iload_n 3, 1) := by decide +kernel
theorem dX1_standsAhead_22 : decode cX1_standsAhead 22 = .ok (.iload 4, 2) := by decide +kernel
theorem dX1_standsAhead_24 : decode cX1_standsAhead 24 = .ok (.if_icmp .lt 14, 3) := by decide +kernel
theorem dX1_standsAhead_27 : decode cX1_standsAhead 27 = .ok (.iload_n 3, 1) := by decide +kernel
theorem dX1_standsAhead_28 : decode cX1_standsAhead 28 = .ok (.iload 4, 2) := by decide +kernel
theorem dX1_standsAhead_30 : decode cX1_standsAhead 30 = .ok (.if_icmp .ne 12, 3) := by decide +kernel
theorem dX1_standsAhead_33 : decode cX1_standsAhead 33 = .ok (.iload_n 1, 1) := by decide +kernel
theorem dX1_standsAhead_34 : decode cX1_standsAhead 34 = .ok (.iload_n 2, 1) := by decide +kernel
theorem dX1_standsAhead_35 : decode cX1_standsAhead 35 = .ok (.if_icmp .ge 7, 3) := by decide +kernel
theorem dX1_standsAhead_38 : decode cX1_standsAhead 38 = .ok (.iconst 1, 1) := by decide +kernel
theorem dX1_standsAhead_39 : decode cX1_standsAhead 39 = .ok (.goto 4, 3) := by decide +kernel
theorem dX1_standsAhead_42 : decode cX1_standsAhead 42 = .ok (.iconst 0, 1) := by decide +kernel
theorem dX1_standsAhead_43 : decode cX1_standsAhead 43 = .ok (.ireturn, 1) := by decide +kernel
theorem dX1_neighbour_0 : decode cX1_neighbour 0 = .ok (.iconst (-1), 1) := by decide +kernel
theorem dX1_neighbour_1 : decode cX1_neighbour 1 = .ok (.istore_n 3, 1) := by decide +kernel
theorem dX1_neighbour_2 : decode cX1_neighbour 2 = .ok (.iconst 0, 1) := by decide +kernel
theorem dX1_neighbour_3 : decode cX1_neighbour 3 = .ok (.istore 4, 2) := by decide +kernel
theorem dX1_neighbour_5 : decode cX1_neighbour 5 = .ok (.iload 4, 2) := by decide +kernel
theorem dX1_neighbour_7 : decode cX1_neighbour 7 = .ok (.aload_n 0, 1) := by decide +kernel
theorem dX1_neighbour_8 : decode cX1_neighbour 8 = .ok (.getfield 14, 3) := by decide +kernel
theorem dX1_neighbour_11 : decode cX1_neighbour 11 = .ok (.getfield 110, 3) := by decide +kernel
theorem dX1_neighbour_14 : decode cX1_neighbour 14 = .ok (.if_icmp .ge 45, 3) := by decide +kernel
theorem dX1_neighbour_17 : decode cX1_neighbour 17 = .ok (.iload 4, 2) := by decide +kernel
theorem dX1_neighbour_19 : decode cX1_neighbour 19 = .ok (.iload_n 1, 1) := by decide +kernel
theorem dX1_neighbour_20 : decode cX1_neighbour 20 = .ok (.if_icmp .eq 33, 3) := by decide +kernel
theorem dX1_neighbour_23 : decode cX1_neighbour 23 = .ok (.aload_n 0, 1) := by decide +kernel
theorem dX1_neighbour_24 : decode cX1_neighbour 24 = .ok (.iload 4, 2) := by decide +kernel
theorem dX1_neighbour_26 : decode cX1_neighbour 26 = .ok (.iload_n 1, 1) := by decide +kernel
theorem dX1_neighbour_27 : decode cX1_neighbour 27 = .ok (.invokevirtual 132, 3) := by decide +kernel
theorem dX1_neighbour_30 : decode cX1_neighbour 30 = .ok (.iload_n 2, 1) := by decide +kernel
theorem dX1_neighbour_31 : decode cX1_neighbour 31 = .ok (.if_icmp .ne 22, 3) := by decide +kernel
theorem dX1_neighbour_34 : decode cX1_neighbour 34 = .ok (.iload_n 3, 1) := by decide +kernel
theorem dX1_neighbour_35 : decode cX1_neighbour 35 = .ok (.iconst (-1), 1) := by decide +kernel
theorem dX1_neighbour_36 : decode cX1_neighbour 36 = .ok (.if_icmp .eq 14, 3) := by decide +kernel
theorem dX1_neighbour_39 : decode cX1_neighbour 39 = .ok (.aload_n 0, 1) := by decide +kernel
theorem dX1_neighbour_40 : decode cX1_neighbour 40 = .ok (.iload_n 3, 1) := by decide +kernel
theorem dX1_neighbour_41 : decode cX1_neighbour 41 = .ok (.iload 4, 2) := by decide +kernel
theorem dX1_neighbour_43 : decode cX1_neighbour 43 = .ok (.invokevirtual 132, 3) := by decide +kernel
theorem dX1_neighbour_46 : decode cX1_neighbour 46 = .ok (.iload_n 2, 1) := by decide +kernel
theorem dX1_neighbour_47 : decode cX1_neighbour 47 = .ok (.if_icmp .ne 6, 3) := by decide +kernel
theorem dX1_neighbour_50 : decode cX1_neighbour 50 = .ok (.iload 4, 2) := by decide +kernel
theorem dX1_neighbour_52 : decode cX1_neighbour 52 = .ok (.istore_n 3, 1) := by decide +kernel
theorem dX1_neighbour_53 : decode cX1_neighbour 53 = .ok (.iinc 4 1, 3) := by decide +kernel
theorem dX1_neighbour_56 : decode cX1_neighbour 56 = .ok (.goto (-51), 3) := by decide +kernel
theorem dX1_neighbour_59 : decode cX1_neighbour 59 = .ok (.iload_n 3, 1) := by decide +kernel
theorem dX1_neighbour_60 : decode cX1_neighbour 60 = .ok (.ireturn, 1) := by decide +kernel
theorem dX1_missing_0 : decode cX1_missing 0 = .ok (.iconst 2, 1) := by decide +kernel
theorem dX1_missing_1 : decode cX1_missing 1 = .ok (.iload_n 2, 1) := by decide +kernel
theorem dX1_missing_2 : decode cX1_missing 2 = .ok (.iload_n 1, 1) := by decide +kernel
theorem dX1_missing_3 : decode cX1_missing 3 = .ok (.invokestatic 136, 3) := by decide +kernel
theorem dX1_missing_6 : decode cX1_missing 6 = .ok (.imul, 1) := by decide +kernel
theorem dX1_missing_7 : decode cX1_missing 7 = .ok (.iload_n 2, 1) := by decide +kernel
theorem dX1_missing_8 : decode cX1_missing 8 = .ok (.aload_n 0, 1) := by decide +kernel
theorem dX1_missing_9 : decode cX1_missing 9 = .ok (.iload_n 1, 1) := by decide +kernel
theorem dX1_missing_10 : decode cX1_missing 10 = .ok (.iconst 1, 1) := by decide +kernel
theorem dX1_missing_11 : decode cX1_missing 11 = .ok (.invokevirtual 139, 3) := by decide +kernel
theorem dX1_missing_14 : decode cX1_missing 14 = .ok (.invokestatic 136, 3) := by decide +kernel
theorem dX1_missing_17 : decode cX1_missing 17 = .ok (.iadd, 1) := by decide +kernel
theorem dX1_missing_18 : decode cX1_missing 18 = .ok (.iload_n 2, 1) := by decide +kernel
theorem dX1_missing_19 : decode cX1_missing 19 = .ok (.aload_n 0, 1) := by decide +kernel
theorem dX1_missing_20 : decode cX1_missing 20 = .ok (.iload_n 1, 1) := by decide +kernel
theorem dX1_missing_21 : decode cX1_missing 21 = .ok (.iconst 0, 1) := by decide +kernel
theorem dX1_missing_22 : decode cX1_missing 22 = .ok (.invokevirtual 139, 3) := by decide +kernel
theorem dX1_missing_25 : decode cX1_missing 25 = .ok (.invokestatic 136, 3) := by decide +kernel
theorem dX1_missing_28 : decode cX1_missing 28 = .ok (.iadd, 1) := by decide +kernel
theorem dX1_missing_29 : decode cX1_missing 29 = .ok (.ireturn, 1) := by decide +kernel
theorem dX1_bitOf_0 : decode cX1_bitOf 0 = .ok (.iload_n 1, 1) := by decide +kernel
theorem dX1_bitOf_1 : decode cX1_bitOf 1 = .ok (.ifCond .lt 11, 3) := by decide +kernel
theorem dX1_bitOf_4 : decode cX1_bitOf 4 = .ok (.iload_n 0, 1) := by decide +kernel
theorem dX1_bitOf_5 : decode cX1_bitOf 5 = .ok (.iload_n 1, 1) := by decide +kernel
theorem dX1_bitOf_6 : decode cX1_bitOf 6 = .ok (.ishr, 1) := by decide +kernel
theorem dX1_bitOf_7 : decode cX1_bitOf 7 = .ok (.iconst 1, 1) := by decide +kernel
theorem dX1_bitOf_8 : decode cX1_bitOf 8 = .ok (.iand, 1) := by decide +kernel
theorem dX1_bitOf_9 : decode cX1_bitOf 9 = .ok (.goto 4, 3) := by decide +kernel
theorem dX1_bitOf_12 : decode cX1_bitOf 12 = .ok (.iconst 0, 1) := by decide +kernel
theorem dX1_bitOf_13 : decode cX1_bitOf 13 = .ok (.ireturn, 1) := by decide +kernel
theorem dX1_moonsOn_0 : decode cX1_moonsOn 0 = .ok (.iconst 0, 1) := by decide +kernel
theorem dX1_moonsOn_1 : decode cX1_moonsOn 1 = .ok (.istore_n 2, 1) := by decide +kernel
theorem dX1_moonsOn_2 : decode cX1_moonsOn 2 = .ok (.iconst 0, 1) := by decide +kernel
theorem dX1_moonsOn_3 : decode cX1_moonsOn 3 = .ok (.istore_n 3, 1) := by decide +kernel
theorem dX1_moonsOn_4 : decode cX1_moonsOn 4 = .ok (.iload_n 3, 1) := by decide +kernel
theorem dX1_moonsOn_5 : decode cX1_moonsOn 5 = .ok (.aload_n 0, 1) := by decide +kernel
theorem dX1_moonsOn_6 : decode cX1_moonsOn 6 = .ok (.getfield 26, 3) := by decide +kernel
theorem dX1_moonsOn_9 : decode cX1_moonsOn 9 = .ok (.getfield 110, 3) := by decide +kernel
theorem dX1_moonsOn_12 : decode cX1_moonsOn 12 = .ok (.if_icmp .ge 47, 3) := by decide +kernel
theorem dX1_moonsOn_15 : decode cX1_moonsOn 15 = .ok (.aload_n 0, 1) := by decide +kernel
theorem dX1_moonsOn_16 : decode cX1_moonsOn 16 = .ok (.getfield 26, 3) := by decide +kernel
theorem dX1_moonsOn_19 : decode cX1_moonsOn 19 = .ok (.iload_n 3, 1) := by decide +kernel
theorem dX1_moonsOn_20 : decode cX1_moonsOn 20 = .ok (.iconst 0, 1) := by decide +kernel
theorem dX1_moonsOn_21 : decode cX1_moonsOn 21 = .ok (.invokevirtual 123, 3) := by decide +kernel
theorem dX1_moonsOn_24 : decode cX1_moonsOn 24 = .ok (.istore 4, 2) := by decide +kernel
theorem dX1_moonsOn_26 : decode cX1_moonsOn 26 = .ok (.iload 4, 2) := by decide +kernel
theorem dX1_moonsOn_28 : decode cX1_moonsOn 28 = .ok (.ifCond .le 25, 3) := by decide +kernel
theorem dX1_moonsOn_31 : decode cX1_moonsOn 31 = .ok (.iload_n 1, 1) := by decide +kernel
theorem dX1_moonsOn_32 : decode cX1_moonsOn 32 = .ok (.iload 4, 2) := by decide +kernel
theorem dX1_moonsOn_34 : decode cX1_moonsOn 34 = .ok (.irem, 1) := by decide +kernel
theorem dX1_moonsOn_35 : decode cX1_moonsOn 35 = .ok (.aload_n 0, 1) := by decide +kernel
theorem dX1_moonsOn_36 : decode cX1_moonsOn 36 = .ok (.getfield 26, 3) := by decide +kernel
theorem dX1_moonsOn_39 : decode cX1_moonsOn 39 = .ok (.iload_n 3, 1) := by decide +kernel
theorem dX1_moonsOn_40 : decode cX1_moonsOn 40 = .ok (.iconst 1, 1) := by decide +kernel
theorem dX1_moonsOn_41 : decode cX1_moonsOn 41 = .ok (.invokevirtual 123, 3) := by decide +kernel
theorem dX1_moonsOn_44 : decode cX1_moonsOn 44 = .ok (.if_icmp .ne 9, 3) := by decide +kernel
theorem dX1_moonsOn_47 : decode cX1_moonsOn 47 = .ok (.iload_n 2, 1) := by decide +kernel
theorem dX1_moonsOn_48 : decode cX1_moonsOn 48 = .ok (.iconst 1, 1) := by decide +kernel
theorem dX1_moonsOn_49 : decode cX1_moonsOn 49 = .ok (.iload_n 3, 1) := by decide +kernel
theorem dX1_moonsOn_50 : decode cX1_moonsOn 50 = .ok (.ishl, 1) := by decide +kernel
theorem dX1_moonsOn_51 : decode cX1_moonsOn 51 = .ok (.ior, 1) := by decide +kernel
theorem dX1_moonsOn_52 : decode cX1_moonsOn 52 = .ok (.istore_n 2, 1) := by decide +kernel
theorem dX1_moonsOn_53 : decode cX1_moonsOn 53 = .ok (.iinc 3 1, 3) := by decide +kernel
theorem dX1_moonsOn_56 : decode cX1_moonsOn 56 = .ok (.goto (-52), 3) := by decide +kernel
theorem dX1_moonsOn_59 : decode cX1_moonsOn 59 = .ok (.iload_n 2, 1) := by decide +kernel
theorem dX1_moonsOn_60 : decode cX1_moonsOn 60 = .ok (.ireturn, 1) := by decide +kernel
theorem dX1_firstDay_0 : decode cX1_firstDay 0 = .ok (.iload_n 1, 1) := by decide +kernel
theorem dX1_firstDay_1 : decode cX1_firstDay 1 = .ok (.istore_n 3, 1) := by decide +kernel
theorem dX1_firstDay_2 : decode cX1_firstDay 2 = .ok (.iload_n 3, 1) := by decide +kernel
theorem dX1_firstDay_3 : decode cX1_firstDay 3 = .ok (.sipush 9999, 3) := by decide +kernel
theorem dX1_firstDay_6 : decode cX1_firstDay 6 = .ok (.if_icmp .gt 20, 3) := by decide +kernel
theorem dX1_firstDay_9 : decode cX1_firstDay 9 = .ok (.aload_n 0, 1) := by decide +kernel
theorem dX1_firstDay_10 : decode cX1_firstDay 10 = .ok (.iload_n 3, 1) := by decide +kernel
theorem dX1_firstDay_11 : decode cX1_firstDay 11 = .ok (.invokevirtual 143, 3) := by decide +kernel
theorem dX1_firstDay_14 : decode cX1_firstDay 14 = .ok (.iload_n 2, 1) := by decide +kernel
theorem dX1_firstDay_15 : decode cX1_firstDay 15 = .ok (.if_icmp .ne 5, 3) := by decide +kernel
theorem dX1_firstDay_18 : decode cX1_firstDay 18 = .ok (.iload_n 3, 1) := by decide +kernel
theorem dX1_firstDay_19 : decode cX1_firstDay 19 = .ok (.ireturn, 1) := by decide +kernel
theorem dX1_firstDay_20 : decode cX1_firstDay 20 = .ok (.iinc 3 1, 3) := by decide +kernel
theorem dX1_firstDay_23 : decode cX1_firstDay 23 = .ok (.goto (-21), 3) := by decide +kernel
theorem dX1_firstDay_26 : decode cX1_firstDay 26 = .ok (.iconst (-1), 1) := by decide +kernel
theorem dX1_firstDay_27 : decode cX1_firstDay 27 = .ok (.ireturn, 1) := by decide +kernel
theorem dX1_clouded_0 : decode cX1_clouded 0 = .ok (.iload_n 1, 1) := by decide +kernel
theorem dX1_clouded_1 : decode cX1_clouded 1 = .ok (.istore 6, 2) := by decide +kernel
theorem dX1_clouded_3 : decode cX1_clouded 3 = .ok (.iconst 0, 1) := by decide +kernel
theorem dX1_clouded_4 : decode cX1_clouded 4 = .ok (.istore 7, 2) := by decide +kernel
theorem dX1_clouded_6 : decode cX1_clouded 6 = .ok (.iconst 0, 1) := by decide +kernel
theorem dX1_clouded_7 : decode cX1_clouded 7 = .ok (.istore 8, 2) := by decide +kernel
theorem dX1_clouded_9 : decode cX1_clouded 9 = .ok (.iconst 0, 1) := by decide +kernel
theorem dX1_clouded_10 : decode cX1_clouded 10 = .ok (.istore 9, 2) := by decide +kernel
theorem dX1_clouded_12 : decode cX1_clouded 12 = .ok (.iconst 0, 1) := by decide +kernel
theorem dX1_clouded_13 : decode cX1_clouded 13 = .ok (.istore 10, 2) := by decide +kernel
theorem dX1_clouded_15 : decode cX1_clouded 15 = .ok (.iconst 0, 1) := by decide +kernel
theorem dX1_clouded_16 : decode cX1_clouded 16 = .ok (.istore 11, 2) := by decide +kernel
theorem dX1_clouded_18 : decode cX1_clouded 18 = .ok (.iload 11, 2) := by decide +kernel
theorem dX1_clouded_20 : decode cX1_clouded 20 = .ok (.iload 4, 2) := by decide +kernel
theorem dX1_clouded_22 : decode cX1_clouded 22 = .ok (.if_icmp .ge 125, 3) := by decide +kernel
theorem dX1_clouded_25 : decode cX1_clouded 25 = .ok (.iload 6, 2) := by decide +kernel
theorem dX1_clouded_27 : decode cX1_clouded 27 = .ok (.ldc 146, 2) := by decide +kernel
theorem dX1_clouded_29 : decode cX1_clouded 29 = .ok (.imul, 1) := by decide +kernel
theorem dX1_clouded_30 : decode cX1_clouded 30 = .ok (.sipush 12345, 3) := by decide +kernel
theorem dX1_clouded_33 : decode cX1_clouded 33 = .ok (.iadd, 1) := by decide +kernel
theorem dX1_clouded_34 : decode cX1_clouded 34 = .ok (.istore 6, 2) := by decide +kernel
theorem dX1_clouded_36 : decode cX1_clouded 36 = .ok (.iload 6, 2) := by decide +kernel
theorem dX1_clouded_38 : decode cX1_clouded 38 = .ok (.bipush 16, 2) := by decide +kernel
theorem dX1_clouded_40 : decode cX1_clouded 40 = .ok (.iushr, 1) := by decide +kernel
theorem dX1_clouded_41 : decode cX1_clouded 41 = .ok (.sipush 32767, 3) := by decide +kernel
theorem dX1_clouded_44 : decode cX1_clouded 44 = .ok (.iand, 1) := by decide +kernel
theorem dX1_clouded_45 : decode cX1_clouded 45 = .ok (.bipush 16, 2) := by decide +kernel
theorem dX1_clouded_47 : decode cX1_clouded 47 = .ok (.irem, 1) := by decide +kernel
theorem dX1_clouded_48 : decode cX1_clouded 48 = .ok (.iload_n 2, 1) := by decide +kernel
theorem dX1_clouded_49 : decode cX1_clouded 49 = .ok (.if_icmp .ge 7, 3) := by decide +kernel
theorem dX1_clouded_52 : decode cX1_clouded 52 = .ok (.iconst 1, 1) := by decide +kernel
theorem dX1_clouded_53 : decode cX1_clouded 53 = .ok (.goto 4, 3) := by decide +kernel
theorem dX1_clouded_56 : decode cX1_clouded 56 = .ok (.iconst 0, 1) := by decide +kernel
theorem dX1_clouded_57 : decode cX1_clouded 57 = .ok (.istore 12, 2) := by decide +kernel
theorem dX1_clouded_59 : decode cX1_clouded 59 = .ok (.aload_n 0, 1) := by decide +kernel
theorem dX1_clouded_60 : decode cX1_clouded 60 = .ok (.iload_n 3, 1) := by decide +kernel
theorem dX1_clouded_61 : decode cX1_clouded 61 = .ok (.iload 11, 2) := by decide +kernel
theorem dX1_clouded_63 : decode cX1_clouded 63 = .ok (.iadd, 1) := by decide +kernel
theorem dX1_clouded_64 : decode cX1_clouded 64 = .ok (.invokevirtual 143, 3) := by decide +kernel
theorem dX1_clouded_67 : decode cX1_clouded 67 = .ok (.ifCond .ne 7, 3) := by decide +kernel
theorem dX1_clouded_70 : decode cX1_clouded 70 = .ok (.iconst 1, 1) := by decide +kernel
theorem dX1_clouded_71 : decode cX1_clouded 71 = .ok (.goto 4, 3) := by decide +kernel
theorem dX1_clouded_74 : decode cX1_clouded 74 = .ok (.iconst 0, 1) := by decide +kernel
theorem dX1_clouded_75 : decode cX1_clouded 75 = .ok (.istore 13, 2) := by decide +kernel
theorem dX1_clouded_77 : decode cX1_clouded 77 = .ok (.iload 12, 2) := by decide +kernel
theorem dX1_clouded_79 : decode cX1_clouded 79 = .ok (.ifCond .ne 8, 3) := by decide +kernel
theorem dX1_clouded_82 : decode cX1_clouded 82 = .ok (.iload 13, 2) := by decide +kernel
theorem dX1_clouded_84 : decode cX1_clouded 84 = .ok (.ifCond .eq 10, 3) := by decide +kernel
theorem dX1_clouded_87 : decode cX1_clouded 87 = .ok (.iload 8, 2) := by decide +kernel
theorem dX1_clouded_89 : decode cX1_clouded 89 = .ok (.iconst 1, 1) := by decide +kernel
theorem dX1_clouded_90 : decode cX1_clouded 90 = .ok (.iadd, 1) := by decide +kernel
theorem dX1_clouded_91 : decode cX1_clouded 91 = .ok (.goto 4, 3) := by decide +kernel
theorem dX1_clouded_94 : decode cX1_clouded 94 = .ok (.iconst 0, 1) := by decide +kernel
theorem dX1_clouded_95 : decode cX1_clouded 95 = .ok (.istore 8, 2) := by decide +kernel
theorem dX1_clouded_97 : decode cX1_clouded 97 = .ok (.iload 7, 2) := by decide +kernel
theorem dX1_clouded_99 : decode cX1_clouded 99 = .ok (.iload 8, 2) := by decide +kernel
theorem dX1_clouded_101 : decode cX1_clouded 101 = .ok (.ifCond .le 7, 3) := by decide +kernel
theorem dX1_clouded_104 : decode cX1_clouded 104 = .ok (.iconst 1, 1) := by decide +kernel
theorem dX1_clouded_105 : decode cX1_clouded 105 = .ok (.goto 4, 3) := by decide +kernel
theorem dX1_clouded_108 : decode cX1_clouded 108 = .ok (.iconst 0, 1) := by decide +kernel
theorem dX1_clouded_109 : decode cX1_clouded 109 = .ok (.iadd, 1) := by decide +kernel
theorem dX1_clouded_110 : decode cX1_clouded 110 = .ok (.istore 7, 2) := by decide +kernel
theorem dX1_clouded_112 : decode cX1_clouded 112 = .ok (.iload 9, 2) := by decide +kernel
theorem dX1_clouded_114 : decode cX1_clouded 114 = .ok (.iload 8, 2) := by decide +kernel
theorem dX1_clouded_116 : decode cX1_clouded 116 = .ok (.invokestatic 147, 3) := by decide +kernel
theorem dX1_clouded_119 : decode cX1_clouded 119 = .ok (.istore 9, 2) := by decide +kernel
theorem dX1_clouded_121 : decode cX1_clouded 121 = .ok (.iload 10, 2) := by decide +kernel
theorem dX1_clouded_123 : decode cX1_clouded 123 = .ok (.iload 12, 2) := by decide +kernel
theorem dX1_clouded_125 : decode cX1_clouded 125 = .ok (.ifCond .eq 12, 3) := by decide +kernel
theorem dX1_clouded_128 : decode cX1_clouded 128 = .ok (.iload 13, 2) := by decide +kernel
theorem dX1_clouded_130 : decode cX1_clouded 130 = .ok (.ifCond .eq 7, 3) := by decide +kernel
theorem dX1_clouded_133 : decode cX1_clouded 133 = .ok (.iconst 1, 1) := by decide +kernel
theorem dX1_clouded_134 : decode cX1_clouded 134 = .ok (.goto 4, 3) := by decide +kernel
theorem dX1_clouded_137 : decode cX1_clouded 137 = .ok (.iconst 0, 1) := by decide +kernel
theorem dX1_clouded_138 : decode cX1_clouded 138 = .ok (.iadd, 1) := by decide +kernel
theorem dX1_clouded_139 : decode cX1_clouded 139 = .ok (.istore 10, 2) := by decide +kernel
theorem dX1_clouded_141 : decode cX1_clouded 141 = .ok (.iinc 11 1, 3) := by decide +kernel
theorem dX1_clouded_144 : decode cX1_clouded 144 = .ok (.goto (-126), 3) := by decide +kernel
theorem dX1_clouded_147 : decode cX1_clouded 147 = .ok (.iload 5, 2) := by decide +kernel
theorem dX1_clouded_149 : decode cX1_clouded 149 = .ok (.ifCond .ne 6, 3) := by decide +kernel
theorem dX1_clouded_152 : decode cX1_clouded 152 = .ok (.iload 7, 2) := by decide +kernel
theorem dX1_clouded_154 : decode cX1_clouded 154 = .ok (.ireturn, 1) := by decide +kernel
theorem dX1_clouded_155 : decode cX1_clouded 155 = .ok (.iload 5, 2) := by decide +kernel
theorem dX1_clouded_157 : decode cX1_clouded 157 = .ok (.iconst 1, 1) := by decide +kernel
theorem dX1_clouded_158 : decode cX1_clouded 158 = .ok (.if_icmp .ne 8, 3) := by decide +kernel
theorem dX1_clouded_161 : decode cX1_clouded 161 = .ok (.iload 9, 2) := by decide +kernel
theorem dX1_clouded_163 : decode cX1_clouded 163 = .ok (.goto 5, 3) := by decide +kernel
theorem dX1_clouded_166 : decode cX1_clouded 166 = .ok (.iload 10, 2) := by decide +kernel
theorem dX1_clouded_168 : decode cX1_clouded 168 = .ok (.ireturn, 1) := by decide +kernel
theorem dX2_init_0 : decode cX2_init 0 = .ok (.aload_n 0, 1) := by decide +kernel
theorem dX2_init_1 : decode cX2_init 1 = .ok (.invokespecial 3, 3) := by decide +kernel
theorem dX2_init_4 : decode cX2_init 4 = .ok (.aload_n 0, 1) := by decide +kernel
theorem dX2_init_5 : decode cX2_init 5 = .ok (.sipush 150, 3) := by decide +kernel
theorem dX2_init_8 : decode cX2_init 8 = .ok (.newarray .int, 2) := by decide +kernel
theorem dX2_init_10 : decode cX2_init 10 = .ok (.putfield 9, 3) := by decide +kernel
theorem dX2_init_13 : decode cX2_init 13 = .ok (.aload_n 0, 1) := by decide +kernel
theorem dX2_init_14 : decode cX2_init 14 = .ok (.bipush 7, 2) := by decide +kernel
theorem dX2_init_16 : decode cX2_init 16 = .ok (.newarray .int, 2) := by decide +kernel
theorem dX2_init_18 : decode cX2_init 18 = .ok (.putfield 15, 3) := by decide +kernel
theorem dX2_init_21 : decode cX2_init 21 = .ok (.aload_n 0, 1) := by decide +kernel
theorem dX2_init_22 : decode cX2_init 22 = .ok (.bipush 32, 2) := by decide +kernel
theorem dX2_init_24 : decode cX2_init 24 = .ok (.newarray .int, 2) := by decide +kernel
theorem dX2_init_26 : decode cX2_init 26 = .ok (.putfield 18, 3) := by decide +kernel
theorem dX2_init_29 : decode cX2_init 29 = .ok (.return_, 1) := by decide +kernel
theorem dX2_read_0 : decode cX2_read 0 = .ok (.aload_n 0, 1) := by decide +kernel
theorem dX2_read_1 : decode cX2_read 1 = .ok (.iconst 0, 1) := by decide +kernel
theorem dX2_read_2 : decode cX2_read 2 = .ok (.putfield 21, 3) := by decide +kernel
theorem dX2_read_5 : decode cX2_read 5 = .ok (.aload_n 0, 1) := by decide +kernel
theorem dX2_read_6 : decode cX2_read 6 = .ok (.aload_n 1, 1) := by decide +kernel
theorem dX2_read_7 : decode cX2_read 7 = .ok (.iconst 0, 1) := by decide +kernel
theorem dX2_read_8 : decode cX2_read 8 = .ok (.invokevirtual 25, 3) := by decide +kernel
theorem dX2_read_11 : decode cX2_read 11 = .ok (.aload_n 1, 1) := by decide +kernel
theorem dX2_read_12 : decode cX2_read 12 = .ok (.invokevirtual 29, 3) := by decide +kernel
theorem dX2_read_15 : decode cX2_read 15 = .ok (.iconst (-1), 1) := by decide +kernel
theorem dX2_read_16 : decode cX2_read 16 = .ok (.if_icmp .eq 12, 3) := by decide +kernel
theorem dX2_read_19 : decode cX2_read 19 = .ok (.aload_n 1, 1) := by decide +kernel
theorem dX2_read_20 : decode cX2_read 20 = .ok (.iconst 1, 1) := by decide +kernel
theorem dX2_read_21 : decode cX2_read 21 = .ok (.aload_n 1, 1) := by decide +kernel
theorem dX2_read_22 : decode cX2_read 22 = .ok (.getfield 35, 3) := by decide +kernel
theorem dX2_read_25 : decode cX2_read 25 = .ok (.invokevirtual 38, 3) := by decide +kernel
theorem dX2_read_28 : decode cX2_read 28 = .ok (.return_, 1) := by decide +kernel
theorem dX2_readSum_0 : decode cX2_readSum 0 = .ok (.aload_n 0, 1) := by decide +kernel
theorem dX2_readSum_1 : decode cX2_readSum 1 = .ok (.aload_n 1, 1) := by decide +kernel
theorem dX2_readSum_2 : decode cX2_readSum 2 = .ok (.iload_n 2, 1) := by decide +kernel
theorem dX2_readSum_3 : decode cX2_readSum 3 = .ok (.invokevirtual 42, 3) := by decide +kernel
theorem dX2_readSum_6 : decode cX2_readSum 6 = .ok (.iconst 0, 1) := by decide +kernel
theorem dX2_readSum_7 : decode cX2_readSum 7 = .ok (.istore_n 3, 1) := by decide +kernel
theorem dX2_readSum_8 : decode cX2_readSum 8 = .ok (.iload_n 3, 1) := by decide +kernel
theorem dX2_readSum_9 : decode cX2_readSum 9 = .ok (.sipush 150, 3) := by decide +kernel
theorem dX2_readSum_12 : decode cX2_readSum 12 = .ok (.if_icmp .ge 67, 3) := by decide +kernel
theorem dX2_readSum_15 : decode cX2_readSum 15 = .ok (.aload_n 1, 1) := by decide +kernel
theorem dX2_readSum_16 : decode cX2_readSum 16 = .ok (.invokevirtual 29, 3) := by decide +kernel
theorem dX2_readSum_19 : decode cX2_readSum 19 = .ok (.bipush 43, 2) := by decide +kernel
theorem dX2_readSum_21 : decode cX2_readSum 21 = .ok (.if_icmp .eq 12, 3) := by decide +kernel
theorem dX2_readSum_24 : decode cX2_readSum 24 = .ok (.aload_n 1, 1) := by decide +kernel
theorem dX2_readSum_25 : decode cX2_readSum 25 = .ok (.invokevirtual 29, 3) := by decide +kernel
theorem dX2_readSum_28 : decode cX2_readSum 28 = .ok (.bipush 45, 2) := by decide +kernel
theorem dX2_readSum_30 : decode cX2_readSum 30 = .ok (.if_icmp .ne 49, 3) := by decide +kernel
theorem dX2_readSum_33 : decode cX2_readSum 33 = .ok (.aload_n 1, 1) := by decide +kernel
theorem dX2_readSum_34 : decode cX2_readSum 34 = .ok (.invokevirtual 29, 3) := by decide +kernel
theorem dX2_readSum_37 : decode cX2_readSum 37 = .ok (.bipush 43, 2) := by decide +kernel
theorem dX2_readSum_39 : decode cX2_readSum 39 = .ok (.if_icmp .ne 9, 3) := by decide +kernel
theorem dX2_readSum_42 : decode cX2_readSum 42 = .ok (.sipush 2000, 3) := by decide +kernel
theorem dX2_readSum_45 : decode cX2_readSum 45 = .ok (.goto 6, 3) := by decide +kernel
theorem dX2_readSum_48 : decode cX2_readSum 48 = .ok (.sipush 2001, 3) := by decide +kernel
theorem dX2_readSum_51 : decode cX2_readSum 51 = .ok (.istore 4, 2) := by decide +kernel
theorem dX2_readSum_53 : decode cX2_readSum 53 = .ok (.aload_n 1, 1) := by decide +kernel
theorem dX2_readSum_54 : decode cX2_readSum 54 = .ok (.aload_n 1, 1) := by decide +kernel
theorem dX2_readSum_55 : decode cX2_readSum 55 = .ok (.invokevirtual 29, 3) := by decide +kernel
theorem dX2_readSum_58 : decode cX2_readSum 58 = .ok (.invokevirtual 45, 3) := by decide +kernel
theorem dX2_readSum_61 : decode cX2_readSum 61 = .ok (.aload_n 0, 1) := by decide +kernel
theorem dX2_readSum_62 : decode cX2_readSum 62 = .ok (.aload_n 1, 1) := by decide +kernel
theorem dX2_readSum_63 : decode cX2_readSum 63 = .ok (.iload_n 2, 1) := by decide +kernel
theorem dX2_readSum_64 : decode cX2_readSum 64 = .ok (.invokevirtual 42, 3) := by decide +kernel
theorem dX2_readSum_67 : decode cX2_readSum 67 = .ok (.aload_n 0, 1) := by decide +kernel
theorem dX2_readSum_68 : decode cX2_readSum 68 = .ok (.iload 4, 2) := by decide +kernel
theorem dX2_readSum_70 : decode cX2_readSum 70 = .ok (.invokevirtual 49, 3) := by decide +kernel
theorem dX2_readSum_73 : decode cX2_readSum 73 = .ok (.iinc 3 1, 3) := by decide +kernel
theorem dX2_readSum_76 : decode cX2_readSum 76 = .ok (.goto (-68), 3) := by decide +kernel
theorem dX2_readSum_79 : decode cX2_readSum 79 = .ok (.return_, 1) := by decide +kernel
theorem dX2_readProduct_0 : decode cX2_readProduct 0 = .ok (.aload_n 0, 1) := by decide +kernel
theorem dX2_readProduct_1 : decode cX2_readProduct 1 = .ok (.aload_n 1, 1) := by decide +kernel
theorem dX2_readProduct_2 : decode cX2_readProduct 2 = .ok (.iload_n 2, 1) := by decide +kernel
theorem dX2_readProduct_3 : decode cX2_readProduct 3 = .ok (.invokevirtual 52, 3) := by decide +kernel
theorem dX2_readProduct_6 : decode cX2_readProduct 6 = .ok (.iconst 0, 1) := by decide +kernel
theorem dX2_readProduct_7 : decode cX2_readProduct 7 = .ok (.istore_n 3, 1) := by decide +kernel
theorem dX2_readProduct_8 : decode cX2_readProduct 8 = .ok (.iload_n 3, 1) := by decide +kernel
theorem dX2_readProduct_9 : decode cX2_readProduct 9 = .ok (.sipush 150, 3) := by decide +kernel
theorem dX2_readProduct_12 : decode cX2_readProduct 12 = .ok (.if_icmp .ge 67, 3) := by decide +kernel
theorem dX2_readProduct_15 : decode cX2_readProduct 15 = .ok (.aload_n 1, 1) := by decide +kernel
theorem dX2_readProduct_16 : decode cX2_readProduct 16 = .ok (.invokevirtual 29, 3) := by decide +kernel
theorem dX2_readProduct_19 : decode cX2_readProduct 19 = .ok (.bipush 42, 2) := by decide +kernel
theorem dX2_readProduct_21 : decode cX2_readProduct 21 = .ok (.if_icmp .eq 12, 3) := by decide +kernel
theorem dX2_readProduct_24 : decode cX2_readProduct 24 = .ok (.aload_n 1, 1) := by decide +kernel
theorem dX2_readProduct_25 : decode cX2_readProduct 25 = .ok (.invokevirtual 29, 3) := by decide +kernel
theorem dX2_readProduct_28 : decode cX2_readProduct 28 = .ok (.bipush 47, 2) := by decide +kernel
theorem dX2_readProduct_30 : decode cX2_readProduct 30 = .ok (.if_icmp .ne 49, 3) := by decide +kernel
theorem dX2_readProduct_33 : decode cX2_readProduct 33 = .ok (.aload_n 1, 1) := by decide +kernel
theorem dX2_readProduct_34 : decode cX2_readProduct 34 = .ok (.invokevirtual 29, 3) := by decide +kernel
theorem dX2_readProduct_37 : decode cX2_readProduct 37 = .ok (.bipush 42, 2) := by decide +kernel
theorem dX2_readProduct_39 : decode cX2_readProduct 39 = .ok (.if_icmp .ne 9, 3) := by decide +kernel
theorem dX2_readProduct_42 : decode cX2_readProduct 42 = .ok (.sipush 2002, 3) := by decide +kernel
theorem dX2_readProduct_45 : decode cX2_readProduct 45 = .ok (.goto 6, 3) := by decide +kernel
theorem dX2_readProduct_48 : decode cX2_readProduct 48 = .ok (.sipush 2003, 3) := by decide +kernel
theorem dX2_readProduct_51 : decode cX2_readProduct 51 = .ok (.istore 4, 2) := by decide +kernel
theorem dX2_readProduct_53 : decode cX2_readProduct 53 = .ok (.aload_n 1, 1) := by decide +kernel
theorem dX2_readProduct_54 : decode cX2_readProduct 54 = .ok (.aload_n 1, 1) := by decide +kernel
theorem dX2_readProduct_55 : decode cX2_readProduct 55 = .ok (.invokevirtual 29, 3) := by decide +kernel
theorem dX2_readProduct_58 : decode cX2_readProduct 58 = .ok (.invokevirtual 45, 3) := by decide +kernel
theorem dX2_readProduct_61 : decode cX2_readProduct 61 = .ok (.aload_n 0, 1) := by decide +kernel
theorem dX2_readProduct_62 : decode cX2_readProduct 62 = .ok (.aload_n 1, 1) := by decide +kernel
theorem dX2_readProduct_63 : decode cX2_readProduct 63 = .ok (.iload_n 2, 1) := by decide +kernel
theorem dX2_readProduct_64 : decode cX2_readProduct 64 = .ok (.invokevirtual 52, 3) := by decide +kernel
theorem dX2_readProduct_67 : decode cX2_readProduct 67 = .ok (.aload_n 0, 1) := by decide +kernel
theorem dX2_readProduct_68 : decode cX2_readProduct 68 = .ok (.iload 4, 2) := by decide +kernel
theorem dX2_readProduct_70 : decode cX2_readProduct 70 = .ok (.invokevirtual 49, 3) := by decide +kernel
theorem dX2_readProduct_73 : decode cX2_readProduct 73 = .ok (.iinc 3 1, 3) := by decide +kernel
theorem dX2_readProduct_76 : decode cX2_readProduct 76 = .ok (.goto (-68), 3) := by decide +kernel
theorem dX2_readProduct_79 : decode cX2_readProduct 79 = .ok (.return_, 1) := by decide +kernel
theorem dX2_readUnit_0 : decode cX2_readUnit 0 = .ok (.aload_n 1, 1) := by decide +kernel
theorem dX2_readUnit_1 : decode cX2_readUnit 1 = .ok (.invokevirtual 29, 3) := by decide +kernel
theorem dX2_readUnit_4 : decode cX2_readUnit 4 = .ok (.istore_n 3, 1) := by decide +kernel
theorem dX2_readUnit_5 : decode cX2_readUnit 5 = .ok (.iload_n 3, 1) := by decide +kernel
theorem dX2_readUnit_6 : decode cX2_readUnit 6 = .ok (.bipush 48, 2) := by decide +kernel
theorem dX2_readUnit_8 : decode cX2_readUnit 8 = .ok (.bipush 57, 2) := by decide +kernel
theorem dX2_readUnit_10 : decode cX2_readUnit 10 = .ok (.invokestatic 55, 3) := by decide +kernel
theorem dX2_readUnit_13 : decode cX2_readUnit 13 = .ok (.ifCond .eq 18, 3) := by decide +kernel
theorem dX2_readUnit_16 : decode cX2_readUnit 16 = .ok (.aload_n 0, 1) := by decide +kernel
theorem dX2_readUnit_17 : decode cX2_readUnit 17 = .ok (.aload_n 1, 1) := by decide +kernel
theorem dX2_readUnit_18 : decode cX2_readUnit 18 = .ok (.iconst 0, 1) := by decide +kernel
theorem dX2_readUnit_19 : decode cX2_readUnit 19 = .ok (.sipush 999, 3) := by decide +kernel
theorem dX2_readUnit_22 : decode cX2_readUnit 22 = .ok (.invokevirtual 59, 3) := by decide +kernel
theorem dX2_readUnit_25 : decode cX2_readUnit 25 = .ok (.invokevirtual 49, 3) := by decide +kernel
theorem dX2_readUnit_28 : decode cX2_readUnit 28 = .ok (.goto 47, 3) := by decide +kernel
theorem dX2_readUnit_31 : decode cX2_readUnit 31 = .ok (.iload_n 3, 1) := by decide +kernel
theorem dX2_readUnit_32 : decode cX2_readUnit 32 = .ok (.bipush 97, 2) := by decide +kernel
theorem dX2_readUnit_34 : decode cX2_readUnit 34 = .ok (.bipush 122, 2) := by decide +kernel
theorem dX2_readUnit_36 : decode cX2_readUnit 36 = .ok (.invokestatic 55, 3) := by decide +kernel
theorem dX2_readUnit_39 : decode cX2_readUnit 39 = .ok (.ifCond .eq 12, 3) := by decide +kernel
theorem dX2_readUnit_42 : decode cX2_readUnit 42 = .ok (.aload_n 0, 1) := by decide +kernel
theorem dX2_readUnit_43 : decode cX2_readUnit 43 = .ok (.aload_n 1, 1) := by decide +kernel
theorem dX2_readUnit_44 : decode cX2_readUnit 44 = .ok (.iload_n 2, 1) := by decide +kernel
theorem dX2_readUnit_45 : decode cX2_readUnit 45 = .ok (.invokevirtual 63, 3) := by decide +kernel
theorem dX2_readUnit_48 : decode cX2_readUnit 48 = .ok (.goto 27, 3) := by decide +kernel
theorem dX2_readUnit_51 : decode cX2_readUnit 51 = .ok (.iload_n 3, 1) := by decide +kernel
theorem dX2_readUnit_52 : decode cX2_readUnit 52 = .ok (.bipush 40, 2) := by decide +kernel
theorem dX2_readUnit_54 : decode cX2_readUnit 54 = .ok (.if_icmp .ne 12, 3) := by decide +kernel
theorem dX2_readUnit_57 : decode cX2_readUnit 57 = .ok (.aload_n 0, 1) := by decide +kernel
theorem dX2_readUnit_58 : decode cX2_readUnit 58 = .ok (.aload_n 1, 1) := by decide +kernel
theorem dX2_readUnit_59 : decode cX2_readUnit 59 = .ok (.iload_n 2, 1) := by decide +kernel
theorem dX2_readUnit_60 : decode cX2_readUnit 60 = .ok (.invokevirtual 66, 3) := by decide +kernel
theorem dX2_readUnit_63 : decode cX2_readUnit 63 = .ok (.goto 12, 3) := by decide +kernel
theorem dX2_readUnit_66 : decode cX2_readUnit 66 = .ok (.aload_n 1, 1) := by decide +kernel
theorem dX2_readUnit_67 : decode cX2_readUnit 67 = .ok (.iconst 1, 1) := by decide +kernel
theorem dX2_readUnit_68 : decode cX2_readUnit 68 = .ok (.aload_n 1, 1) := by decide +kernel
theorem dX2_readUnit_69 : decode cX2_readUnit 69 = .ok (.getfield 35, 3) := by decide +kernel
theorem dX2_readUnit_72 : decode cX2_readUnit 72 = .ok (.invokevirtual 38, 3) := by decide +kernel
theorem dX2_readUnit_75 : decode cX2_readUnit 75 = .ok (.return_, 1) := by decide +kernel
theorem dX2_readBracket_0 : decode cX2_readBracket 0 = .ok (.iload_n 2, 1) := by decide +kernel
theorem dX2_readBracket_1 : decode cX2_readBracket 1 = .ok (.bipush 6, 2) := by decide +kernel
theorem dX2_readBracket_3 : decode cX2_readBracket 3 = .ok (.if_icmp .lt 13, 3) := by decide +kernel
theorem dX2_readBracket_6 : decode cX2_readBracket 6 = .ok (.aload_n 1, 1) := by decide +kernel
theorem dX2_readBracket_7 : decode cX2_readBracket 7 = .ok (.iconst 3, 1) := by decide +kernel
theorem dX2_readBracket_8 : decode cX2_readBracket 8 = .ok (.aload_n 1, 1) := by decide +kernel
theorem dX2_readBracket_9 : decode cX2_readBracket 9 = .ok (.getfield 35, 3) := by decide +kernel
theorem dX2_readBracket_12 : decode cX2_readBracket 12 = .ok (.invokevirtual 38, 3) := by decide +kernel
theorem dX2_readBracket_15 : decode cX2_readBracket 15 = .ok (.return_, 1) := by decide +kernel
theorem dX2_readBracket_16 : decode cX2_readBracket 16 = .ok (.aload_n 1, 1) := by decide +kernel
theorem dX2_readBracket_17 : decode cX2_readBracket 17 = .ok (.bipush 40, 2) := by decide +kernel
theorem dX2_readBracket_19 : decode cX2_readBracket 19 = .ok (.invokevirtual 45, 3) := by decide +kernel
theorem dX2_readBracket_22 : decode cX2_readBracket 22 = .ok (.aload_n 0, 1) := by decide +kernel
theorem dX2_readBracket_23 : decode cX2_readBracket 23 = .ok (.aload_n 1, 1) := by decide +kernel
theorem dX2_readBracket_24 : decode cX2_readBracket 24 = .ok (.iload_n 2, 1) := by decide +kernel
theorem dX2_readBracket_25 : decode cX2_readBracket 25 = .ok (.iconst 1, 1) := by decide +kernel
theorem dX2_readBracket_26 : decode cX2_readBracket 26 = .ok (.iadd, 1) := by decide +kernel
theorem dX2_readBracket_27 : decode cX2_readBracket 27 = .ok (.invokevirtual 25, 3) := by decide +kernel
theorem dX2_readBracket_30 : decode cX2_readBracket 30 = .ok (.aload_n 1, 1) := by decide +kernel
theorem dX2_readBracket_31 : decode cX2_readBracket 31 = .ok (.bipush 41, 2) := by decide +kernel
theorem dX2_readBracket_33 : decode cX2_readBracket 33 = .ok (.invokevirtual 45, 3) := by decide +kernel
theorem dX2_readBracket_36 : decode cX2_readBracket 36 = .ok (.return_, 1) := by decide +kernel
theorem dX2_readWord_0 : decode cX2_readWord 0 = .ok (.aload_n 1, 1) := by decide +kernel
theorem dX2_readWord_1 : decode cX2_readWord 1 = .ok (.invokevirtual 69, 3) := by decide +kernel
theorem dX2_readWord_4 : decode cX2_readWord 4 = .ok (.aload_n 1, 1) := by decide +kernel
theorem dX2_readWord_5 : decode cX2_readWord 5 = .ok (.ldc 72, 2) := by decide +kernel
theorem dX2_readWord_7 : decode cX2_readWord 7 = .ok (.invokevirtual 74, 3) := by decide +kernel
theorem dX2_readWord_10 : decode cX2_readWord 10 = .ok (.ifCond .eq 15, 3) := by decide +kernel
theorem dX2_readWord_13 : decode cX2_readWord 13 = .ok (.aload_n 0, 1) := by decide +kernel
theorem dX2_readWord_14 : decode cX2_readWord 14 = .ok (.aload_n 1, 1) := by decide +kernel
theorem dX2_readWord_15 : decode cX2_readWord 15 = .ok (.iload_n 2, 1) := by decide +kernel
theorem dX2_readWord_16 : decode cX2_readWord 16 = .ok (.sipush 2004, 3) := by decide +kernel
theorem dX2_readWord_19 : decode cX2_readWord 19 = .ok (.invokevirtual 78, 3) := by decide +kernel
theorem dX2_readWord_22 : decode cX2_readWord 22 = .ok (.goto 52, 3) := by decide +kernel
theorem dX2_readWord_25 : decode cX2_readWord 25 = .ok (.aload_n 1, 1) := by decide +kernel
theorem dX2_readWord_26 : decode cX2_readWord 26 = .ok (.ldc 82, 2) := by decide +kernel
theorem dX2_readWord_28 : decode cX2_readWord 28 = .ok (.invokevirtual 74, 3) := by decide +kernel
theorem dX2_readWord_31 : decode cX2_readWord 31 = .ok (.ifCond .eq 15, 3) := by decide +kernel
theorem dX2_readWord_34 : decode cX2_readWord 34 = .ok (.aload_n 0, 1) := by decide +kernel
theorem dX2_readWord_35 : decode cX2_readWord 35 = .ok (.aload_n 1, 1) := by decide +kernel
theorem dX2_readWord_36 : decode cX2_readWord 36 = .ok (.iload_n 2, 1) := by decide +kernel
theorem dX2_readWord_37 : decode cX2_readWord 37 = .ok (.sipush 2005, 3) := by decide +kernel
theorem dX2_readWord_40 : decode cX2_readWord 40 = .ok (.invokevirtual 78, 3) := by decide +kernel
theorem dX2_readWord_43 : decode cX2_readWord 43 = .ok (.goto 31, 3) := by decide +kernel
theorem dX2_readWord_46 : decode cX2_readWord 46 = .ok (.aload_n 1, 1) := by decide +kernel
theorem dX2_readWord_47 : decode cX2_readWord 47 = .ok (.invokestatic 84, 3) := by decide +kernel
theorem dX2_readWord_50 : decode cX2_readWord 50 = .ok (.istore_n 3, 1) := by decide +kernel
theorem dX2_readWord_51 : decode cX2_readWord 51 = .ok (.iload_n 3, 1) := by decide +kernel
theorem dX2_readWord_52 : decode cX2_readWord 52 = .ok (.iconst (-1), 1) := by decide +kernel
theorem dX2_readWord_53 : decode cX2_readWord 53 = .ok (.if_icmp .ne 12, 3) := by decide +kernel
theorem dX2_readWord_56 : decode cX2_readWord 56 = .ok (.aload_n 1, 1) := by decide +kernel
theorem dX2_readWord_57 : decode cX2_readWord 57 = .ok (.iconst 1, 1) := by decide +kernel
theorem dX2_readWord_58 : decode cX2_readWord 58 = .ok (.aload_n 1, 1) := by decide +kernel
theorem dX2_readWord_59 : decode cX2_readWord 59 = .ok (.getfield 88, 3) := by decide +kernel
theorem dX2_readWord_62 : decode cX2_readWord 62 = .ok (.invokevirtual 38, 3) := by decide +kernel
theorem dX2_readWord_65 : decode cX2_readWord 65 = .ok (.aload_n 0, 1) := by decide +kernel
theorem dX2_readWord_66 : decode cX2_readWord 66 = .ok (.sipush 1000, 3) := by decide +kernel
theorem dX2_readWord_69 : decode cX2_readWord 69 = .ok (.iload_n 3, 1) := by decide +kernel
theorem dX2_readWord_70 : decode cX2_readWord 70 = .ok (.iadd, 1) := by decide +kernel
theorem dX2_readWord_71 : decode cX2_readWord 71 = .ok (.invokevirtual 49, 3) := by decide +kernel
theorem dX2_readWord_74 : decode cX2_readWord 74 = .ok (.return_, 1) := by decide +kernel
theorem dX2_readPair_0 : decode cX2_readPair 0 = .ok (.iload_n 2, 1) := by decide +kernel
theorem dX2_readPair_1 : decode cX2_readPair 1 = .ok (.bipush 6, 2) := by decide +kernel
theorem dX2_readPair_3 : decode cX2_readPair 3 = .ok (.if_icmp .lt 13, 3) := by decide +kernel
theorem dX2_readPair_6 : decode cX2_readPair 6 = .ok (.aload_n 1, 1) := by decide +kernel
theorem dX2_readPair_7 : decode cX2_readPair 7 = .ok (.iconst 3, 1) := by decide +kernel
theorem dX2_readPair_8 : decode cX2_readPair 8 = .ok (.aload_n 1, 1) := by decide +kernel
theorem dX2_readPair_9 : decode cX2_readPair 9 = .ok (.getfield 88, 3) := by decide +kernel
theorem dX2_readPair_12 : decode cX2_readPair 12 = .ok (.invokevirtual 38, 3) := by decide +kernel
theorem dX2_readPair_15 : decode cX2_readPair 15 = .ok (.return_, 1) := by decide +kernel
theorem dX2_readPair_16 : decode cX2_readPair 16 = .ok (.aload_n 1, 1) := by decide +kernel
theorem dX2_readPair_17 : decode cX2_readPair 17 = .ok (.bipush 91, 2) := by decide +kernel
theorem dX2_readPair_19 : decode cX2_readPair 19 = .ok (.invokevirtual 45, 3) := by decide +kernel
theorem dX2_readPair_22 : decode cX2_readPair 22 = .ok (.aload_n 0, 1) := by decide +kernel
theorem dX2_readPair_23 : decode cX2_readPair 23 = .ok (.aload_n 1, 1) := by decide +kernel
theorem dX2_readPair_24 : decode cX2_readPair 24 = .ok (.iload_n 2, 1) := by decide +kernel
theorem dX2_readPair_25 : decode cX2_readPair 25 = .ok (.iconst 1, 1) := by decide +kernel
theorem dX2_readPair_26 : decode cX2_readPair 26 = .ok (.iadd, 1) := by decide +kernel
theorem dX2_readPair_27 : decode cX2_readPair 27 = .ok (.invokevirtual 25, 3) := by decide +kernel
theorem dX2_readPair_30 : decode cX2_readPair 30 = .ok (.aload_n 1, 1) := by decide +kernel
theorem dX2_readPair_31 : decode cX2_readPair 31 = .ok (.bipush 44, 2) := by decide +kernel
theorem dX2_readPair_33 : decode cX2_readPair 33 = .ok (.invokevirtual 45, 3) := by decide +kernel
theorem dX2_readPair_36 : decode cX2_readPair 36 = .ok (.aload_n 0, 1) := by decide +kernel
theorem dX2_readPair_37 : decode cX2_readPair 37 = .ok (.aload_n 1, 1) := by decide +kernel
theorem dX2_readPair_38 : decode cX2_readPair 38 = .ok (.iload_n 2, 1) := by decide +kernel
theorem dX2_readPair_39 : decode cX2_readPair 39 = .ok (.iconst 1, 1) := by decide +kernel
theorem dX2_readPair_40 : decode cX2_readPair 40 = .ok (.iadd, 1) := by decide +kernel
theorem dX2_readPair_41 : decode cX2_readPair 41 = .ok (.invokevirtual 25, 3) := by decide +kernel
theorem dX2_readPair_44 : decode cX2_readPair 44 = .ok (.aload_n 1, 1) := by decide +kernel
theorem dX2_readPair_45 : decode cX2_readPair 45 = .ok (.bipush 93, 2) := by decide +kernel
theorem dX2_readPair_47 : decode cX2_readPair 47 = .ok (.invokevirtual 45, 3) := by decide +kernel
theorem dX2_readPair_50 : decode cX2_readPair 50 = .ok (.aload_n 0, 1) := by decide +kernel
theorem dX2_readPair_51 : decode cX2_readPair 51 = .ok (.iload_n 3, 1) := by decide +kernel
theorem dX2_readPair_52 : decode cX2_readPair 52 = .ok (.invokevirtual 49, 3) := by decide +kernel
theorem dX2_readPair_55 : decode cX2_readPair 55 = .ok (.return_, 1) := by decide +kernel
theorem dX2_inputNamed_0 : decode cX2_inputNamed 0 = .ok (.aload_n 0, 1) := by decide +kernel
theorem dX2_inputNamed_1 : decode cX2_inputNamed 1 = .ok (.ldc 91, 2) := by decide +kernel
theorem dX2_inputNamed_3 : decode cX2_inputNamed 3 = .ok (.invokevirtual 74, 3) := by decide +kernel
theorem dX2_inputNamed_6 : decode cX2_inputNamed 6 = .ok (.ifCond .eq 5, 3) := by decide +kernel
theorem dX2_inputNamed_9 : decode cX2_inputNamed 9 = .ok (.iconst 0, 1) := by decide +kernel
theorem dX2_inputNamed_10 : decode cX2_inputNamed 10 = .ok (.ireturn, 1) := by decide +kernel
theorem dX2_inputNamed_11 : decode cX2_inputNamed 11 = .ok (.aload_n 0, 1) := by decide +kernel
theorem dX2_inputNamed_12 : decode cX2_inputNamed 12 = .ok (.ldc 93, 2) := by decide +kernel
theorem dX2_inputNamed_14 : decode cX2_inputNamed 14 = .ok (.invokevirtual 74, 3) := by decide +kernel
theorem dX2_inputNamed_17 : decode cX2_inputNamed 17 = .ok (.ifCond .eq 5, 3) := by decide +kernel
theorem dX2_inputNamed_20 : decode cX2_inputNamed 20 = .ok (.iconst 1, 1) := by decide +kernel
theorem dX2_inputNamed_21 : decode cX2_inputNamed 21 = .ok (.ireturn, 1) := by decide +kernel
theorem dX2_inputNamed_22 : decode cX2_inputNamed 22 = .ok (.aload_n 0, 1) := by decide +kernel
theorem dX2_inputNamed_23 : decode cX2_inputNamed 23 = .ok (.ldc 95, 2) := by decide +kernel
theorem dX2_inputNamed_25 : decode cX2_inputNamed 25 = .ok (.invokevirtual 74, 3) := by decide +kernel
theorem dX2_inputNamed_28 : decode cX2_inputNamed 28 = .ok (.ifCond .eq 5, 3) := by decide +kernel
theorem dX2_inputNamed_31 : decode cX2_inputNamed 31 = .ok (.iconst 2, 1) := by decide +kernel
theorem dX2_inputNamed_32 : decode cX2_inputNamed 32 = .ok (.ireturn, 1) := by decide +kernel
theorem dX2_inputNamed_33 : decode cX2_inputNamed 33 = .ok (.aload_n 0, 1) := by decide +kernel
theorem dX2_inputNamed_34 : decode cX2_inputNamed 34 = .ok (.ldc 97, 2) := by decide +kernel
theorem dX2_inputNamed_36 : decode cX2_inputNamed 36 = .ok (.invokevirtual 74, 3) := by decide +kernel
theorem dX2_inputNamed_39 : decode cX2_inputNamed 39 = .ok (.ifCond .eq 5, 3) := by decide +kernel
theorem dX2_inputNamed_42 : decode cX2_inputNamed 42 = .ok (.iconst 3, 1) := by decide +kernel
theorem dX2_inputNamed_43 : decode cX2_inputNamed 43 = .ok (.ireturn, 1) := by decide +kernel
theorem dX2_inputNamed_44 : decode cX2_inputNamed 44 = .ok (.aload_n 0, 1) := by decide +kernel
theorem dX2_inputNamed_45 : decode cX2_inputNamed 45 = .ok (.ldc 99, 2) := by decide +kernel
theorem dX2_inputNamed_47 : decode cX2_inputNamed 47 = .ok (.invokevirtual 74, 3) := by decide +kernel
theorem dX2_inputNamed_50 : decode cX2_inputNamed 50 = .ok (.ifCond .eq 5, 3) := by decide +kernel
theorem dX2_inputNamed_53 : decode cX2_inputNamed 53 = .ok (.iconst 4, 1) := by decide +kernel
theorem dX2_inputNamed_54 : decode cX2_inputNamed 54 = .ok (.ireturn, 1) := by decide +kernel
theorem dX2_inputNamed_55 : decode cX2_inputNamed 55 = .ok (.aload_n 0, 1) := by decide +kernel
theorem dX2_inputNamed_56 : decode cX2_inputNamed 56 = .ok (.ldc 101, 2) := by decide +kernel
theorem dX2_inputNamed_58 : decode cX2_inputNamed 58 = .ok (.invokevirtual 74, 3) := by decide +kernel
theorem dX2_inputNamed_61 : decode cX2_inputNamed 61 = .ok (.ifCond .eq 5, 3) := by decide +kernel
theorem dX2_inputNamed_64 : decode cX2_inputNamed 64 = .ok (.iconst 5, 1) := by decide +kernel
theorem dX2_inputNamed_65 : decode cX2_inputNamed 65 = .ok (.ireturn, 1) := by decide +kernel
theorem dX2_inputNamed_66 : decode cX2_inputNamed 66 = .ok (.aload_n 0, 1) := by decide +kernel
theorem dX2_inputNamed_67 : decode cX2_inputNamed 67 = .ok (.ldc 103, 2) := by decide +kernel
theorem dX2_inputNamed_69 : decode cX2_inputNamed 69 = .ok (.invokevirtual 74, 3) := by decide +kernel
theorem dX2_inputNamed_72 : decode cX2_inputNamed 72 = .ok (.ifCond .eq 8, 3) := by decide +kernel
theorem dX2_inputNamed_75 : decode cX2_inputNamed 75 = .ok (.bipush 6, 2) := by decide +kernel
theorem dX2_inputNamed_77 : decode cX2_inputNamed 77 = .ok (.goto 4, 3) := by decide +kernel
theorem dX2_inputNamed_80 : decode cX2_inputNamed 80 = .ok (.iconst (-1), 1) := by decide +kernel
theorem dX2_inputNamed_81 : decode cX2_inputNamed 81 = .ok (.ireturn, 1) := by decide +kernel
theorem dX2_append_0 : decode cX2_append 0 = .ok (.aload_n 0, 1) := by decide +kernel
theorem dX2_append_1 : decode cX2_append 1 = .ok (.getfield 21, 3) := by decide +kernel
theorem dX2_append_4 : decode cX2_append 4 = .ok (.aload_n 0, 1) := by decide +kernel
theorem dX2_append_5 : decode cX2_append 5 = .ok (.getfield 9, 3) := by decide +kernel
theorem dX2_append_8 : decode cX2_append 8 = .ok (.arraylength, 1) := by decide +kernel
theorem dX2_append_9 : decode cX2_append 9 = .ok (.if_icmp .ge 23, 3) := by decide +kernel
theorem dX2_append_12 : decode cX2_append 12 = .ok (.aload_n 0, 1) := by decide +kernel
theorem dX2_append_13 : decode cX2_append 13 = .ok (.getfield 9, 3) := by decide +kernel
theorem dX2_append_16 : decode cX2_append 16 = .ok (.aload_n 0, 1) := by decide +kernel
theorem dX2_append_17 : decode cX2_append 17 = .ok (.getfield 21, 3) := by decide +kernel
theorem dX2_append_20 : decode cX2_append 20 = .ok (.iload_n 1, 1) := by decide +kernel
theorem dX2_append_21 : decode cX2_append 21 = .ok (.iastore, 1) := by decide +kernel
theorem dX2_append_22 : decode cX2_append 22 = .ok (.aload_n 0, 1) := by decide +kernel
theorem dX2_append_23 : decode cX2_append 23 = .ok (.dup, 1) := by decide +kernel
theorem dX2_append_24 : decode cX2_append 24 = .ok (.getfield 21, 3) := by decide +kernel
theorem dX2_append_27 : decode cX2_append 27 = .ok (.iconst 1, 1) := by decide +kernel
theorem dX2_append_28 : decode cX2_append 28 = .ok (.iadd, 1) := by decide +kernel
theorem dX2_append_29 : decode cX2_append 29 = .ok (.putfield 21, 3) := by decide +kernel
theorem dX2_append_32 : decode cX2_append 32 = .ok (.return_, 1) := by decide +kernel
theorem dX2_copyFrom_0 : decode cX2_copyFrom 0 = .ok (.aload_n 0, 1) := by decide +kernel
theorem dX2_copyFrom_1 : decode cX2_copyFrom 1 = .ok (.aload_n 1, 1) := by decide +kernel
theorem dX2_copyFrom_2 : decode cX2_copyFrom 2 = .ok (.getfield 21, 3) := by decide +kernel
theorem dX2_copyFrom_5 : decode cX2_copyFrom 5 = .ok (.putfield 21, 3) := by decide +kernel
theorem dX2_copyFrom_8 : decode cX2_copyFrom 8 = .ok (.aload_n 1, 1) := by decide +kernel
theorem dX2_copyFrom_9 : decode cX2_copyFrom 9 = .ok (.getfield 9, 3) := by decide +kernel
theorem dX2_copyFrom_12 : decode cX2_copyFrom 12 = .ok (.iconst 0, 1) := by decide +kernel
theorem dX2_copyFrom_13 : decode cX2_copyFrom 13 = .ok (.aload_n 0, 1) := by decide +kernel
theorem dX2_copyFrom_14 : decode cX2_copyFrom 14 = .ok (.getfield 9, 3) := by decide +kernel
theorem dX2_copyFrom_17 : decode cX2_copyFrom 17 = .ok (.iconst 0, 1) := by decide +kernel
theorem dX2_copyFrom_18 : decode cX2_copyFrom 18 = .ok (.aload_n 1, 1) := by decide +kernel
theorem dX2_copyFrom_19 : decode cX2_copyFrom 19 = .ok (.getfield 9, 3) := by decide +kernel
theorem dX2_copyFrom_22 : decode cX2_copyFrom 22 = .ok (.arraylength, 1) := by decide +kernel
theorem dX2_copyFrom_23 : decode cX2_copyFrom 23 = .ok (.aload_n 0, 1) := by decide +kernel
theorem dX2_copyFrom_24 : decode cX2_copyFrom 24 = .ok (.getfield 9, 3) := by decide +kernel
theorem dX2_copyFrom_27 : decode cX2_copyFrom 27 = .ok (.arraylength, 1) := by decide +kernel
theorem dX2_copyFrom_28 : decode cX2_copyFrom 28 = .ok (.invokestatic 105, 3) := by decide +kernel
theorem dX2_copyFrom_31 : decode cX2_copyFrom 31 = .ok (.invokestatic 110, 3) := by decide +kernel
theorem dX2_copyFrom_34 : decode cX2_copyFrom 34 = .ok (.return_, 1) := by decide +kernel
theorem dX2_isTold_0 : decode cX2_isTold 0 = .ok (.aload_n 0, 1) := by decide +kernel
theorem dX2_isTold_1 : decode cX2_isTold 1 = .ok (.getfield 21, 3) := by decide +kernel
theorem dX2_isTold_4 : decode cX2_isTold 4 = .ok (.ifCond .le 7, 3) := by decide +kernel
theorem dX2_isTold_7 : decode cX2_isTold 7 = .ok (.iconst 1, 1) := by decide +kernel
theorem dX2_isTold_8 : decode cX2_isTold 8 = .ok (.goto 4, 3) := by decide +kernel
theorem dX2_isTold_11 : decode cX2_isTold 11 = .ok (.iconst 0, 1) := by decide +kernel
theorem dX2_isTold_12 : decode cX2_isTold 12 = .ok (.ireturn, 1) := by decide +kernel
theorem dX2_value_0 : decode cX2_value 0 = .ok (.aload_n 0, 1) := by decide +kernel
theorem dX2_value_1 : decode cX2_value 1 = .ok (.getfield 15, 3) := by decide +kernel
theorem dX2_value_4 : decode cX2_value 4 = .ok (.iconst 0, 1) := by decide +kernel
theorem dX2_value_5 : decode cX2_value 5 = .ok (.iload_n 1, 1) := by decide +kernel
theorem dX2_value_6 : decode cX2_value 6 = .ok (.iastore, 1) := by decide +kernel
theorem dX2_value_7 : decode cX2_value 7 = .ok (.aload_n 0, 1) := by decide +kernel
theorem dX2_value_8 : decode cX2_value 8 = .ok (.getfield 15, 3) := by decide +kernel
theorem dX2_value_11 : decode cX2_value 11 = .ok (.iconst 1, 1) := by decide +kernel
theorem dX2_value_12 : decode cX2_value 12 = .ok (.iload_n 2, 1) := by decide +kernel
theorem dX2_value_13 : decode cX2_value 13 = .ok (.iastore, 1) := by decide +kernel
theorem dX2_value_14 : decode cX2_value 14 = .ok (.aload_n 0, 1) := by decide +kernel
theorem dX2_value_15 : decode cX2_value 15 = .ok (.getfield 15, 3) := by decide +kernel
theorem dX2_value_18 : decode cX2_value 18 = .ok (.iconst 2, 1) := by decide +kernel
theorem dX2_value_19 : decode cX2_value 19 = .ok (.iload_n 3, 1) := by decide +kernel
theorem dX2_value_20 : decode cX2_value 20 = .ok (.iastore, 1) := by decide +kernel
theorem dX2_value_21 : decode cX2_value 21 = .ok (.aload_n 0, 1) := by decide +kernel
theorem dX2_value_22 : decode cX2_value 22 = .ok (.getfield 15, 3) := by decide +kernel
theorem dX2_value_25 : decode cX2_value 25 = .ok (.iconst 3, 1) := by decide +kernel
theorem dX2_value_26 : decode cX2_value 26 = .ok (.iload 4, 2) := by decide +kernel
theorem dX2_value_28 : decode cX2_value 28 = .ok (.iastore, 1) := by decide +kernel
theorem dX2_value_29 : decode cX2_value 29 = .ok (.aload_n 0, 1) := by decide +kernel
theorem dX2_value_30 : decode cX2_value 30 = .ok (.getfield 15, 3) := by decide +kernel
theorem dX2_value_33 : decode cX2_value 33 = .ok (.iconst 4, 1) := by decide +kernel
theorem dX2_value_34 : decode cX2_value 34 = .ok (.iload 5, 2) := by decide +kernel
theorem dX2_value_36 : decode cX2_value 36 = .ok (.iastore, 1) := by decide +kernel
theorem dX2_value_37 : decode cX2_value 37 = .ok (.aload_n 0, 1) := by decide +kernel
theorem dX2_value_38 : decode cX2_value 38 = .ok (.getfield 15, 3) := by decide +kernel
theorem dX2_value_41 : decode cX2_value 41 = .ok (.iconst 5, 1) := by decide +kernel
theorem dX2_value_42 : decode cX2_value 42 = .ok (.iload 6, 2) := by decide +kernel
theorem dX2_value_44 : decode cX2_value 44 = .ok (.bipush 12, 2) := by decide +kernel
theorem dX2_value_46 : decode cX2_value 46 = .ok (.irem, 1) := by decide +kernel
theorem dX2_value_47 : decode cX2_value 47 = .ok (.iastore, 1) := by decide +kernel
theorem dX2_value_48 : decode cX2_value 48 = .ok (.aload_n 0, 1) := by decide +kernel
theorem dX2_value_49 : decode cX2_value 49 = .ok (.getfield 15, 3) := by decide +kernel
theorem dX2_value_52 : decode cX2_value 52 = .ok (.bipush 6, 2) := by decide +kernel
theorem dX2_value_54 : decode cX2_value 54 = .ok (.iload 6, 2) := by decide +kernel
theorem dX2_value_56 : decode cX2_value 56 = .ok (.bipush 12, 2) := by decide +kernel
theorem dX2_value_58 : decode cX2_value 58 = .ok (.idiv, 1) := by decide +kernel
theorem dX2_value_59 : decode cX2_value 59 = .ok (.iastore, 1) := by decide +kernel
theorem dX2_value_60 : decode cX2_value 60 = .ok (.aload_n 0, 1) := by decide +kernel
theorem dX2_value_61 : decode cX2_value 61 = .ok (.iconst 0, 1) := by decide +kernel
theorem dX2_value_62 : decode cX2_value 62 = .ok (.putfield 116, 3) := by decide +kernel
theorem dX2_value_65 : decode cX2_value 65 = .ok (.iconst 0, 1) := by decide +kernel
theorem dX2_value_66 : decode cX2_value 66 = .ok (.istore 7, 2) := by decide +kernel
theorem dX2_value_68 : decode cX2_value 68 = .ok (.iload 7, 2) := by decide +kernel
theorem dX2_value_70 : decode cX2_value 70 = .ok (.aload_n 0, 1) := by decide +kernel
theorem dX2_value_71 : decode cX2_value 71 = .ok (.getfield 21, 3) := by decide +kernel
theorem dX2_value_74 : decode cX2_value 74 = .ok (.if_icmp .ge 110, 3) := by decide +kernel
theorem dX2_value_77 : decode cX2_value 77 = .ok (.iload 7, 2) := by decide +kernel
theorem dX2_value_79 : decode cX2_value 79 = .ok (.aload_n 0, 1) := by decide +kernel
theorem dX2_value_80 : decode cX2_value 80 = .ok (.getfield 9, 3) := by decide +kernel
theorem dX2_value_83 : decode cX2_value 83 = .ok (.arraylength, 1) := by decide +kernel
theorem dX2_value_84 : decode cX2_value 84 = .ok (.if_icmp .ge 100, 3) := by decide +kernel
theorem dX2_value_87 : decode cX2_value 87 = .ok (.aload_n 0, 1) := by decide +kernel
theorem dX2_value_88 : decode cX2_value 88 = .ok (.getfield 9, 3) := by decide +kernel
theorem dX2_value_91 : decode cX2_value 91 = .ok (.iload 7, 2) := by decide +kernel
theorem dX2_value_93 : decode cX2_value 93 = .ok (.iaload, 1) := by decide +kernel
theorem dX2_value_94 : decode cX2_value 94 = .ok (.istore 8, 2) := by decide +kernel
theorem dX2_value_96 : decode cX2_value 96 = .ok (.iload 8, 2) := by decide +kernel
theorem dX2_value_98 : decode cX2_value 98 = .ok (.sipush 1000, 3) := by decide +kernel
theorem dX2_value_101 : decode cX2_value 101 = .ok (.if_icmp .ge 12, 3) := by decide +kernel
theorem dX2_value_104 : decode cX2_value 104 = .ok (.aload_n 0, 1) := by decide +kernel
theorem dX2_value_105 : decode cX2_value 105 = .ok (.iload 8, 2) := by decide +kernel
theorem dX2_value_107 : decode cX2_value 107 = .ok (.invokevirtual 119, 3) := by decide +kernel
theorem dX2_value_110 : decode cX2_value 110 = .ok (.goto 68, 3) := by decide +kernel
theorem dX2_value_113 : decode cX2_value 113 = .ok (.iload 8, 2) := by decide +kernel
theorem dX2_value_115 : decode cX2_value 115 = .ok (.sipush 2000, 3) := by decide +kernel
theorem dX2_value_118 : decode cX2_value 118 = .ok (.if_icmp .ge 39, 3) := by decide +kernel
theorem dX2_value_121 : decode cX2_value 121 = .ok (.aload_n 0, 1) := by decide +kernel
theorem dX2_value_122 : decode cX2_value 122 = .ok (.iload 8, 2) := by decide +kernel
theorem dX2_value_124 : decode cX2_value 124 = .ok (.sipush 1000, 3) := by decide +kernel
theorem dX2_value_127 : decode cX2_value 127 = .ok (.isub, 1) := by decide +kernel
theorem dX2_value_128 : decode cX2_value 128 = .ok (.aload_n 0, 1) := by decide +kernel
theorem dX2_value_129 : decode cX2_value 129 = .ok (.getfield 15, 3) := by decide +kernel
theorem dX2_value_132 : decode cX2_value 132 = .ok (.arraylength, 1) := by decide +kernel
theorem dX2_value_133 : decode cX2_value 133 = .ok (.if_icmp .ge 17, 3) := by decide +kernel
theorem dX2_value_136 : decode cX2_value 136 = .ok (.aload_n 0, 1) := by decide +kernel
theorem dX2_value_137 : decode cX2_value 137 = .ok (.getfield 15, 3) := by decide +kernel
theorem dX2_value_140 : decode cX2_value 140 = .ok (.iload 8, 2) := by decide +kernel
theorem dX2_value_142 : decode cX2_value 142 = .ok (.sipush 1000, 3) := by decide +kernel
theorem dX2_value_145 : decode cX2_value 145 = .ok (.isub, 1) := by decide +kernel
theorem dX2_value_146 : decode cX2_value 146 = .ok (.iaload, 1) := by decide +kernel
theorem dX2_value_147 : decode cX2_value 147 = .ok (.goto 4, 3) := by decide +kernel
theorem dX2_value_150 : decode cX2_value 150 = .ok (.iconst 0, 1) := by decide +kernel
theorem dX2_value_151 : decode cX2_value 151 = .ok (.invokevirtual 119, 3) := by decide +kernel
theorem dX2_value_154 : decode cX2_value 154 = .ok (.goto 24, 3) := by decide +kernel
theorem dX2_value_157 : decode cX2_value 157 = .ok (.aload_n 0, 1) := by decide +kernel
theorem dX2_value_158 : decode cX2_value 158 = .ok (.invokevirtual 122, 3) := by decide +kernel
theorem dX2_value_161 : decode cX2_value 161 = .ok (.istore 9, 2) := by decide +kernel
theorem dX2_value_163 : decode cX2_value 163 = .ok (.aload_n 0, 1) := by decide +kernel
theorem dX2_value_164 : decode cX2_value 164 = .ok (.iload 8, 2) := by decide +kernel
theorem dX2_value_166 : decode cX2_value 166 = .ok (.aload_n 0, 1) := by decide +kernel
theorem dX2_value_167 : decode cX2_value 167 = .ok (.invokevirtual 122, 3) := by decide +kernel
theorem dX2_value_170 : decode cX2_value 170 = .ok (.iload 9, 2) := by decide +kernel
theorem dX2_value_172 : decode cX2_value 172 = .ok (.invokestatic 125, 3) := by decide +kernel
theorem dX2_value_175 : decode cX2_value 175 = .ok (.invokevirtual 119, 3) := by decide +kernel
theorem dX2_value_178 : decode cX2_value 178 = .ok (.iinc 7 1, 3) := by decide +kernel
theorem dX2_value_181 : decode cX2_value 181 = .ok (.goto (-113), 3) := by decide +kernel
theorem dX2_value_184 : decode cX2_value 184 = .ok (.aload_n 0, 1) := by decide +kernel
theorem dX2_value_185 : decode cX2_value 185 = .ok (.invokevirtual 122, 3) := by decide +kernel
theorem dX2_value_188 : decode cX2_value 188 = .ok (.ireturn, 1) := by decide +kernel
theorem dX2_joined_0 : decode cX2_joined 0 = .ok (.iload_n 0, 1) := by decide +kernel
theorem dX2_joined_1 : decode cX2_joined 1 = .ok (.tableswitch 65 2000 2004 #[35, 39, 43, 47, 59], 35) := by decide +kernel
theorem dX2_joined_36 : decode cX2_joined 36 = .ok (.iload_n 1, 1) := by decide +kernel
theorem dX2_joined_37 : decode cX2_joined 37 = .ok (.iload_n 2, 1) := by decide +kernel
theorem dX2_joined_38 : decode cX2_joined 38 = .ok (.iadd, 1) := by decide +kernel
theorem dX2_joined_39 : decode cX2_joined 39 = .ok (.ireturn, 1) := by decide +kernel
theorem dX2_joined_40 : decode cX2_joined 40 = .ok (.iload_n 1, 1) := by decide +kernel
theorem dX2_joined_41 : decode cX2_joined 41 = .ok (.iload_n 2, 1) := by decide +kernel
theorem dX2_joined_42 : decode cX2_joined 42 = .ok (.isub, 1) := by decide +kernel
theorem dX2_joined_43 : decode cX2_joined 43 = .ok (.ireturn, 1) := by decide +kernel
theorem dX2_joined_44 : decode cX2_joined 44 = .ok (.iload_n 1, 1) := by decide +kernel
theorem dX2_joined_45 : decode cX2_joined 45 = .ok (.iload_n 2, 1) := by decide +kernel
theorem dX2_joined_46 : decode cX2_joined 46 = .ok (.imul, 1) := by decide +kernel
theorem dX2_joined_47 : decode cX2_joined 47 = .ok (.ireturn, 1) := by decide +kernel
theorem dX2_joined_48 : decode cX2_joined 48 = .ok (.iload_n 2, 1) := by decide +kernel
theorem dX2_joined_49 : decode cX2_joined 49 = .ok (.ifCond .ne 7, 3) := by decide +kernel
theorem dX2_joined_52 : decode cX2_joined 52 = .ok (.iconst 0, 1) := by decide +kernel
theorem dX2_joined_53 : decode cX2_joined 53 = .ok (.goto 6, 3) := by decide +kernel
theorem dX2_joined_56 : decode cX2_joined 56 = .ok (.iload_n 1, 1) := by decide +kernel
theorem dX2_joined_57 : decode cX2_joined 57 = .ok (.iload_n 2, 1) := by decide +kernel
theorem dX2_joined_58 : decode cX2_joined 58 = .ok (.idiv, 1) := by decide +kernel
theorem dX2_joined_59 : decode cX2_joined 59 = .ok (.ireturn, 1) := by decide +kernel
theorem dX2_joined_60 : decode cX2_joined 60 = .ok (.iload_n 1, 1) := by decide +kernel
theorem dX2_joined_61 : decode cX2_joined 61 = .ok (.iload_n 2, 1) := by decide +kernel
theorem dX2_joined_62 : decode cX2_joined 62 = .ok (.invokestatic 105, 3) := by decide +kernel
theorem dX2_joined_65 : decode cX2_joined 65 = .ok (.ireturn, 1) := by decide +kernel
theorem dX2_joined_66 : decode cX2_joined 66 = .ok (.iload_n 1, 1) := by decide +kernel
theorem dX2_joined_67 : decode cX2_joined 67 = .ok (.iload_n 2, 1) := by decide +kernel
theorem dX2_joined_68 : decode cX2_joined 68 = .ok (.invokestatic 129, 3) := by decide +kernel
theorem dX2_joined_71 : decode cX2_joined 71 = .ok (.ireturn, 1) := by decide +kernel
theorem dX2_push_0 : decode cX2_push 0 = .ok (.aload_n 0, 1) := by decide +kernel
theorem dX2_push_1 : decode cX2_push 1 = .ok (.getfield 116, 3) := by decide +kernel
theorem dX2_push_4 : decode cX2_push 4 = .ok (.ifCond .lt 35, 3) := by decide +kernel
theorem dX2_push_7 : decode cX2_push 7 = .ok (.aload_n 0, 1) := by decide +kernel
theorem dX2_push_8 : decode cX2_push 8 = .ok (.getfield 116, 3) := by decide +kernel
theorem dX2_push_11 : decode cX2_push 11 = .ok (.aload_n 0, 1) := by decide +kernel
theorem dX2_push_12 : decode cX2_push 12 = .ok (.getfield 18, 3) := by decide +kernel
theorem dX2_push_15 : decode cX2_push 15 = .ok (.arraylength, 1) := by decide +kernel
theorem dX2_push_16 : decode cX2_push 16 = .ok (.if_icmp .ge 23, 3) := by decide +kernel
theorem dX2_push_19 : decode cX2_push 19 = .ok (.aload_n 0, 1) := by decide +kernel
theorem dX2_push_20 : decode cX2_push 20 = .ok (.getfield 18, 3) := by decide +kernel
theorem dX2_push_23 : decode cX2_push 23 = .ok (.aload_n 0, 1) := by decide +kernel
theorem dX2_push_24 : decode cX2_push 24 = .ok (.getfield 116, 3) := by decide +kernel
theorem dX2_push_27 : decode cX2_push 27 = .ok (.iload_n 1, 1) := by decide +kernel
theorem dX2_push_28 : decode cX2_push 28 = .ok (.iastore, 1) := by decide +kernel
theorem dX2_push_29 : decode cX2_push 29 = .ok (.aload_n 0, 1) := by decide +kernel
theorem dX2_push_30 : decode cX2_push 30 = .ok (.dup, 1) := by decide +kernel
theorem dX2_push_31 : decode cX2_push 31 = .ok (.getfield 116, 3) := by decide +kernel
theorem dX2_push_34 : decode cX2_push 34 = .ok (.iconst 1, 1) := by decide +kernel
theorem dX2_push_35 : decode cX2_push 35 = .ok (.iadd, 1) := by decide +kernel
theorem dX2_push_36 : decode cX2_push 36 = .ok (.putfield 116, 3) := by decide +kernel
theorem dX2_push_39 : decode cX2_push 39 = .ok (.return_, 1) := by decide +kernel
theorem dX2_pop_0 : decode cX2_pop 0 = .ok (.aload_n 0, 1) := by decide +kernel
theorem dX2_pop_1 : decode cX2_pop 1 = .ok (.getfield 116, 3) := by decide +kernel
theorem dX2_pop_4 : decode cX2_pop 4 = .ok (.ifCond .le 15, 3) := by decide +kernel
theorem dX2_pop_7 : decode cX2_pop 7 = .ok (.aload_n 0, 1) := by decide +kernel
theorem dX2_pop_8 : decode cX2_pop 8 = .ok (.getfield 116, 3) := by decide +kernel
theorem dX2_pop_11 : decode cX2_pop 11 = .ok (.aload_n 0, 1) := by decide +kernel
theorem dX2_pop_12 : decode cX2_pop 12 = .ok (.getfield 18, 3) := by decide +kernel
theorem dX2_pop_15 : decode cX2_pop 15 = .ok (.arraylength, 1) := by decide +kernel
theorem dX2_pop_16 : decode cX2_pop 16 = .ok (.if_icmp .le 5, 3) := by decide +kernel
theorem dX2_pop_19 : decode cX2_pop 19 = .ok (.iconst 0, 1) := by decide +kernel
theorem dX2_pop_20 : decode cX2_pop 20 = .ok (.ireturn, 1) := by decide +kernel
theorem dX2_pop_21 : decode cX2_pop 21 = .ok (.aload_n 0, 1) := by decide +kernel
theorem dX2_pop_22 : decode cX2_pop 22 = .ok (.dup, 1) := by decide +kernel
theorem dX2_pop_23 : decode cX2_pop 23 = .ok (.getfield 116, 3) := by decide +kernel
theorem dX2_pop_26 : decode cX2_pop 26 = .ok (.iconst 1, 1) := by decide +kernel
theorem dX2_pop_27 : decode cX2_pop 27 = .ok (.isub, 1) := by decide +kernel
theorem dX2_pop_28 : decode cX2_pop 28 = .ok (.putfield 116, 3) := by decide +kernel
theorem dX2_pop_31 : decode cX2_pop 31 = .ok (.aload_n 0, 1) := by decide +kernel
theorem dX2_pop_32 : decode cX2_pop 32 = .ok (.getfield 18, 3) := by decide +kernel
theorem dX2_pop_35 : decode cX2_pop 35 = .ok (.aload_n 0, 1) := by decide +kernel
theorem dX2_pop_36 : decode cX2_pop 36 = .ok (.getfield 116, 3) := by decide +kernel
theorem dX2_pop_39 : decode cX2_pop 39 = .ok (.iaload, 1) := by decide +kernel
theorem dX2_pop_40 : decode cX2_pop 40 = .ok (.ireturn, 1) := by decide +kernel
theorem dX3_init_0 : decode cX3_init 0 = .ok (.aload_n 0, 1) := by decide +kernel
theorem dX3_init_1 : decode cX3_init 1 = .ok (.invokespecial 3, 3) := by decide +kernel
theorem dX3_init_4 : decode cX3_init 4 = .ok (.aload_n 0, 1) := by decide +kernel
theorem dX3_init_5 : decode cX3_init 5 = .ok (.sipush 145, 3) := by decide +kernel
theorem dX3_init_8 : decode cX3_init 8 = .ok (.newarray .int, 2) := by decide +kernel
theorem dX3_init_10 : decode cX3_init 10 = .ok (.putfield 11, 3) := by decide +kernel
theorem dX3_init_13 : decode cX3_init 13 = .ok (.aload_n 0, 1) := by decide +kernel
theorem dX3_init_14 : decode cX3_init 14 = .ok (.sipush 145, 3) := by decide +kernel
theorem dX3_init_17 : decode cX3_init 17 = .ok (.newarray .int, 2) := by decide +kernel
theorem dX3_init_19 : decode cX3_init 19 = .ok (.putfield 15, 3) := by decide +kernel
theorem dX3_init_22 : decode cX3_init 22 = .ok (.aload_n 0, 1) := by decide +kernel
theorem dX3_init_23 : decode cX3_init 23 = .ok (.bipush 21, 2) := by decide +kernel
theorem dX3_init_25 : decode cX3_init 25 = .ok (.newarray .int, 2) := by decide +kernel
theorem dX3_init_27 : decode cX3_init 27 = .ok (.putfield 18, 3) := by decide +kernel
theorem dX3_init_30 : decode cX3_init 30 = .ok (.aload_n 0, 1) := by decide +kernel
theorem dX3_init_31 : decode cX3_init 31 = .ok (.aload_n 1, 1) := by decide +kernel
theorem dX3_init_32 : decode cX3_init 32 = .ok (.putfield 21, 3) := by decide +kernel
theorem dX3_init_35 : decode cX3_init 35 = .ok (.return_, 1) := by decide +kernel
theorem dX3_worthOf_0 : decode cX3_worthOf 0 = .ok (.iload_n 0, 1) := by decide +kernel
theorem dX3_worthOf_1 : decode cX3_worthOf 1 = .ok (.sipush 4096, 3) := by decide +kernel
theorem dX3_worthOf_4 : decode cX3_worthOf 4 = .ok (.idiv, 1) := by decide +kernel
theorem dX3_worthOf_5 : decode cX3_worthOf 5 = .ok (.ireturn, 1) := by decide +kernel
theorem dX3_bitsOf_0 : decode cX3_bitsOf 0 = .ok (.sipush 4095, 3) := by decide +kernel
theorem dX3_bitsOf_3 : decode cX3_bitsOf 3 = .ok (.iload_n 0, 1) := by decide +kernel
theorem dX3_bitsOf_4 : decode cX3_bitsOf 4 = .ok (.sipush 4096, 3) := by decide +kernel
theorem dX3_bitsOf_7 : decode cX3_bitsOf 7 = .ok (.irem, 1) := by decide +kernel
theorem dX3_bitsOf_8 : decode cX3_bitsOf 8 = .ok (.isub, 1) := by decide +kernel
theorem dX3_bitsOf_9 : decode cX3_bitsOf 9 = .ok (.ireturn, 1) := by decide +kernel
theorem dX3_weigh_0 : decode cX3_weigh 0 = .ok (.aload_n 2, 1) := by decide +kernel
theorem dX3_weigh_1 : decode cX3_weigh 1 = .ok (.sipush 4095, 3) := by decide +kernel
theorem dX3_weigh_4 : decode cX3_weigh 4 = .ok (.invokestatic 25, 3) := by decide +kernel
theorem dX3_weigh_7 : decode cX3_weigh 7 = .ok (.aload_n 0, 1) := by decide +kernel
theorem dX3_weigh_8 : decode cX3_weigh 8 = .ok (.iload_n 1, 1) := by decide +kernel
theorem dX3_weigh_9 : decode cX3_weigh 9 = .ok (.iconst 0, 1) := by decide +kernel
theorem dX3_weigh_10 : decode cX3_weigh 10 = .ok (.aload_n 2, 1) := by decide +kernel
theorem dX3_weigh_11 : decode cX3_weigh 11 = .ok (.iconst 0, 1) := by decide +kernel
theorem dX3_weigh_12 : decode cX3_weigh 12 = .ok (.aload_n 0, 1) := by decide +kernel
theorem dX3_weigh_13 : decode cX3_weigh 13 = .ok (.getfield 21, 3) := by decide +kernel
theorem dX3_weigh_16 : decode cX3_weigh 16 = .ok (.getfield 31, 3) := by decide +kernel
theorem dX3_weigh_19 : decode cX3_weigh 19 = .ok (.getfield 37, 3) := by decide +kernel
theorem dX3_weigh_22 : decode cX3_weigh 22 = .ok (.iload_n 1, 1) := by decide +kernel
theorem dX3_weigh_23 : decode cX3_weigh 23 = .ok (.iconst 1, 1) := by decide +kernel
theorem dX3_weigh_24 : decode cX3_weigh 24 = .ok (.invokevirtual 43, 3) := by decide +kernel
theorem dX3_weigh_27 : decode cX3_weigh 27 = .ok (.ineg, 1) := by decide +kernel
theorem dX3_weigh_28 : decode cX3_weigh 28 = .ok (.sipush 4095, 3) := by decide +kernel
theorem dX3_weigh_31 : decode cX3_weigh 31 = .ok (.invokevirtual 49, 3) := by decide +kernel
theorem dX3_weigh_34 : decode cX3_weigh 34 = .ok (.iconst 1, 1) := by decide +kernel
theorem dX3_weigh_35 : decode cX3_weigh 35 = .ok (.istore_n 3, 1) := by decide +kernel
theorem dX3_weigh_36 : decode cX3_weigh 36 = .ok (.iload_n 3, 1) := by decide +kernel
theorem dX3_weigh_37 : decode cX3_weigh 37 = .ok (.aload_n 2, 1) := by decide +kernel
theorem dX3_weigh_38 : decode cX3_weigh 38 = .ok (.arraylength, 1) := by decide +kernel
theorem dX3_weigh_39 : decode cX3_weigh 39 = .ok (.if_icmp .ge 23, 3) := by decide +kernel
theorem dX3_weigh_42 : decode cX3_weigh 42 = .ok (.aload_n 2, 1) := by decide +kernel
theorem dX3_weigh_43 : decode cX3_weigh 43 = .ok (.iload_n 3, 1) := by decide +kernel
theorem dX3_weigh_44 : decode cX3_weigh 44 = .ok (.aload_n 2, 1) := by decide +kernel
theorem dX3_weigh_45 : decode cX3_weigh 45 = .ok (.iload_n 3, 1) := by decide +kernel
theorem dX3_weigh_46 : decode cX3_weigh 46 = .ok (.iaload, 1) := by decide +kernel
theorem dX3_weigh_47 : decode cX3_weigh 47 = .ok (.aload_n 2, 1) := by decide +kernel
theorem dX3_weigh_48 : decode cX3_weigh 48 = .ok (.iload_n 3, 1) := by decide +kernel
theorem dX3_weigh_49 : decode cX3_weigh 49 = .ok (.iconst 1, 1) := by decide +kernel
theorem dX3_weigh_50 : decode cX3_weigh 50 = .ok (.isub, 1) := by decide +kernel
theorem dX3_weigh_51 : decode cX3_weigh 51 = .ok (.iaload, 1) := by decide +kernel
theorem dX3_weigh_52 : decode cX3_weigh 52 = .ok (.invokestatic 53, 3) := by decide +kernel
theorem dX3_weigh_55 : decode cX3_weigh 55 = .ok (.iastore, 1) := by decide +kernel
theorem dX3_weigh_56 : decode cX3_weigh 56 = .ok (.iinc 3 1, 3) := by decide +kernel
theorem dX3_weigh_59 : decode cX3_weigh 59 = .ok (.goto (-23), 3) := by decide +kernel
theorem dX3_weigh_62 : decode cX3_weigh 62 = .ok (.return_, 1) := by decide +kernel
theorem dX3_tryWants_0 : decode cX3_tryWants 0 = .ok (.iload_n 2, 1) := by decide +kernel
theorem dX3_tryWants_1 : decode cX3_tryWants 1 = .ok (.aload_n 0, 1) := by decide +kernel
theorem dX3_tryWants_2 : decode cX3_tryWants 2 = .ok (.getfield 21, 3) := by decide +kernel
theorem dX3_tryWants_5 : decode cX3_tryWants 5 = .ok (.getfield 58, 3) := by decide +kernel
theorem dX3_tryWants_8 : decode cX3_tryWants 8 = .ok (.getfield 62, 3) := by decide +kernel
theorem dX3_tryWants_11 : decode cX3_tryWants 11 = .ok (.getfield 67, 3) := by decide +kernel
theorem dX3_tryWants_14 : decode cX3_tryWants 14 = .ok (.if_icmp .lt 38, 3) := by decide +kernel
theorem dX3_tryWants_17 : decode cX3_tryWants 17 = .ok (.iload 4, 2) := by decide +kernel
theorem dX3_tryWants_19 : decode cX3_tryWants 19 = .ok (.iload 5, 2) := by decide +kernel
theorem dX3_tryWants_21 : decode cX3_tryWants 21 = .ok (.invokestatic 53, 3) := by decide +kernel
theorem dX3_tryWants_24 : decode cX3_tryWants 24 = .ok (.istore 7, 2) := by decide +kernel
theorem dX3_tryWants_26 : decode cX3_tryWants 26 = .ok (.iload 7, 2) := by decide +kernel
theorem dX3_tryWants_28 : decode cX3_tryWants 28 = .ok (.ifCond .lt 23, 3) := by decide +kernel
theorem dX3_tryWants_31 : decode cX3_tryWants 31 = .ok (.iload 7, 2) := by decide +kernel
theorem dX3_tryWants_33 : decode cX3_tryWants 33 = .ok (.aload_n 3, 1) := by decide +kernel
theorem dX3_tryWants_34 : decode cX3_tryWants 34 = .ok (.arraylength, 1) := by decide +kernel
theorem dX3_tryWants_35 : decode cX3_tryWants 35 = .ok (.if_icmp .ge 16, 3) := by decide +kernel
theorem dX3_tryWants_38 : decode cX3_tryWants 38 = .ok (.aload_n 3, 1) := by decide +kernel
theorem dX3_tryWants_39 : decode cX3_tryWants 39 = .ok (.iload 7, 2) := by decide +kernel
theorem dX3_tryWants_41 : decode cX3_tryWants 41 = .ok (.aload_n 3, 1) := by decide +kernel
theorem dX3_tryWants_42 : decode cX3_tryWants 42 = .ok (.iload 7, 2) := by decide +kernel
theorem dX3_tryWants_44 : decode cX3_tryWants 44 = .ok (.iaload, 1) := by decide +kernel
theorem dX3_tryWants_45 : decode cX3_tryWants 45 = .ok (.iload 6, 2) := by decide +kernel
theorem dX3_tryWants_47 : decode cX3_tryWants 47 = .ok (.invokestatic 53, 3) := by decide +kernel
theorem dX3_tryWants_50 : decode cX3_tryWants 50 = .ok (.iastore, 1) := by decide +kernel
theorem dX3_tryWants_51 : decode cX3_tryWants 51 = .ok (.return_, 1) := by decide +kernel
theorem dX3_tryWants_52 : decode cX3_tryWants 52 = .ok (.aload_n 0, 1) := by decide +kernel
theorem dX3_tryWants_53 : decode cX3_tryWants 53 = .ok (.iload_n 1, 1) := by decide +kernel
theorem dX3_tryWants_54 : decode cX3_tryWants 54 = .ok (.iload_n 2, 1) := by decide +kernel
theorem dX3_tryWants_55 : decode cX3_tryWants 55 = .ok (.iconst 1, 1) := by decide +kernel
theorem dX3_tryWants_56 : decode cX3_tryWants 56 = .ok (.iadd, 1) := by decide +kernel
theorem dX3_tryWants_57 : decode cX3_tryWants 57 = .ok (.aload_n 3, 1) := by decide +kernel
theorem dX3_tryWants_58 : decode cX3_tryWants 58 = .ok (.iload 4, 2) := by decide +kernel
theorem dX3_tryWants_60 : decode cX3_tryWants 60 = .ok (.iload 5, 2) := by decide +kernel
theorem dX3_tryWants_62 : decode cX3_tryWants 62 = .ok (.iload 6, 2) := by decide +kernel
theorem dX3_tryWants_64 : decode cX3_tryWants 64 = .ok (.invokevirtual 49, 3) := by decide +kernel
theorem dX3_tryWants_67 : decode cX3_tryWants 67 = .ok (.aload_n 0, 1) := by decide +kernel
theorem dX3_tryWants_68 : decode cX3_tryWants 68 = .ok (.getfield 21, 3) := by decide +kernel
theorem dX3_tryWants_71 : decode cX3_tryWants 71 = .ok (.iload_n 2, 1) := by decide +kernel
theorem dX3_tryWants_72 : decode cX3_tryWants 72 = .ok (.iload_n 1, 1) := by decide +kernel
theorem dX3_tryWants_73 : decode cX3_tryWants 73 = .ok (.invokevirtual 71, 3) := by decide +kernel
theorem dX3_tryWants_76 : decode cX3_tryWants 76 = .ok (.ifCond .eq 85, 3) := by decide +kernel
theorem dX3_tryWants_79 : decode cX3_tryWants 79 = .ok (.aload_n 0, 1) := by decide +kernel
theorem dX3_tryWants_80 : decode cX3_tryWants 80 = .ok (.getfield 21, 3) := by decide +kernel
theorem dX3_tryWants_83 : decode cX3_tryWants 83 = .ok (.getfield 58, 3) := by decide +kernel
theorem dX3_tryWants_86 : decode cX3_tryWants 86 = .ok (.getfield 62, 3) := by decide +kernel
theorem dX3_tryWants_89 : decode cX3_tryWants 89 = .ok (.iload_n 2, 1) := by decide +kernel
theorem dX3_tryWants_90 : decode cX3_tryWants 90 = .ok (.iconst 1, 1) := by decide +kernel
theorem dX3_tryWants_91 : decode cX3_tryWants 91 = .ok (.invokevirtual 43, 3) := by decide +kernel
theorem dX3_tryWants_94 : decode cX3_tryWants 94 = .ok (.istore 7, 2) := by decide +kernel
theorem dX3_tryWants_96 : decode cX3_tryWants 96 = .ok (.aload_n 0, 1) := by decide +kernel
theorem dX3_tryWants_97 : decode cX3_tryWants 97 = .ok (.getfield 21, 3) := by decide +kernel
theorem dX3_tryWants_100 : decode cX3_tryWants 100 = .ok (.getfield 58, 3) := by decide +kernel
theorem dX3_tryWants_103 : decode cX3_tryWants 103 = .ok (.getfield 62, 3) := by decide +kernel
theorem dX3_tryWants_106 : decode cX3_tryWants 106 = .ok (.iload_n 2, 1) := by decide +kernel
theorem dX3_tryWants_107 : decode cX3_tryWants 107 = .ok (.iconst 3, 1) := by decide +kernel
theorem dX3_tryWants_108 : decode cX3_tryWants 108 = .ok (.invokevirtual 43, 3) := by decide +kernel
theorem dX3_tryWants_111 : decode cX3_tryWants 111 = .ok (.istore 8, 2) := by decide +kernel
theorem dX3_tryWants_113 : decode cX3_tryWants 113 = .ok (.aload_n 0, 1) := by decide +kernel
theorem dX3_tryWants_114 : decode cX3_tryWants 114 = .ok (.iload_n 1, 1) := by decide +kernel
theorem dX3_tryWants_115 : decode cX3_tryWants 115 = .ok (.iload_n 2, 1) := by decide +kernel
theorem dX3_tryWants_116 : decode cX3_tryWants 116 = .ok (.iconst 1, 1) := by decide +kernel
theorem dX3_tryWants_117 : decode cX3_tryWants 117 = .ok (.iadd, 1) := by decide +kernel
theorem dX3_tryWants_118 : decode cX3_tryWants 118 = .ok (.aload_n 3, 1) := by decide +kernel
theorem dX3_tryWants_119 : decode cX3_tryWants 119 = .ok (.iload 4, 2) := by decide +kernel
theorem dX3_tryWants_121 : decode cX3_tryWants 121 = .ok (.iload 7, 2) := by decide +kernel
theorem dX3_tryWants_123 : decode cX3_tryWants 123 = .ok (.aload_n 0, 1) := by decide +kernel
theorem dX3_tryWants_124 : decode cX3_tryWants 124 = .ok (.getfield 21, 3) := by decide +kernel
theorem dX3_tryWants_127 : decode cX3_tryWants 127 = .ok (.getfield 58, 3) := by decide +kernel
theorem dX3_tryWants_130 : decode cX3_tryWants 130 = .ok (.getfield 62, 3) := by decide +kernel
theorem dX3_tryWants_133 : decode cX3_tryWants 133 = .ok (.iload_n 2, 1) := by decide +kernel
theorem dX3_tryWants_134 : decode cX3_tryWants 134 = .ok (.iconst 2, 1) := by decide +kernel
theorem dX3_tryWants_135 : decode cX3_tryWants 135 = .ok (.invokevirtual 43, 3) := by decide +kernel
theorem dX3_tryWants_138 : decode cX3_tryWants 138 = .ok (.imul, 1) := by decide +kernel
theorem dX3_tryWants_139 : decode cX3_tryWants 139 = .ok (.iadd, 1) := by decide +kernel
theorem dX3_tryWants_140 : decode cX3_tryWants 140 = .ok (.iload 5, 2) := by decide +kernel
theorem dX3_tryWants_142 : decode cX3_tryWants 142 = .ok (.iload 7, 2) := by decide +kernel
theorem dX3_tryWants_144 : decode cX3_tryWants 144 = .ok (.iadd, 1) := by decide +kernel
theorem dX3_tryWants_145 : decode cX3_tryWants 145 = .ok (.iload 6, 2) := by decide +kernel
theorem dX3_tryWants_147 : decode cX3_tryWants 147 = .ok (.iload 8, 2) := by decide +kernel
theorem dX3_tryWants_149 : decode cX3_tryWants 149 = .ok (.sipush 4096, 3) := by decide +kernel
theorem dX3_tryWants_152 : decode cX3_tryWants 152 = .ok (.imul, 1) := by decide +kernel
theorem dX3_tryWants_153 : decode cX3_tryWants 153 = .ok (.iadd, 1) := by decide +kernel
theorem dX3_tryWants_154 : decode cX3_tryWants 154 = .ok (.iconst 1, 1) := by decide +kernel
theorem dX3_tryWants_155 : decode cX3_tryWants 155 = .ok (.iload_n 2, 1) := by decide +kernel
theorem dX3_tryWants_156 : decode cX3_tryWants 156 = .ok (.ishl, 1) := by decide +kernel
theorem dX3_tryWants_157 : decode cX3_tryWants 157 = .ok (.isub, 1) := by decide +kernel
theorem dX3_tryWants_158 : decode cX3_tryWants 158 = .ok (.invokevirtual 49, 3) := by decide +kernel
theorem dX3_tryWants_161 : decode cX3_tryWants 161 = .ok (.return_, 1) := by decide +kernel
theorem dX3_bestBy_0 : decode cX3_bestBy 0 = .ok (.iload_n 1, 1) := by decide +kernel
theorem dX3_bestBy_1 : decode cX3_bestBy 1 = .ok (.aload_n 0, 1) := by decide +kernel
theorem dX3_bestBy_2 : decode cX3_bestBy 2 = .ok (.arraylength, 1) := by decide +kernel
theorem dX3_bestBy_3 : decode cX3_bestBy 3 = .ok (.iconst 1, 1) := by decide +kernel
theorem dX3_bestBy_4 : decode cX3_bestBy 4 = .ok (.isub, 1) := by decide +kernel
theorem dX3_bestBy_5 : decode cX3_bestBy 5 = .ok (.invokestatic 75, 3) := by decide +kernel
theorem dX3_bestBy_8 : decode cX3_bestBy 8 = .ok (.istore_n 2, 1) := by decide +kernel
theorem dX3_bestBy_9 : decode cX3_bestBy 9 = .ok (.iload_n 2, 1) := by decide +kernel
theorem dX3_bestBy_10 : decode cX3_bestBy 10 = .ok (.ifCond .lt 9, 3) := by decide +kernel
theorem dX3_bestBy_13 : decode cX3_bestBy 13 = .ok (.aload_n 0, 1) := by decide +kernel
theorem dX3_bestBy_14 : decode cX3_bestBy 14 = .ok (.iload_n 2, 1) := by decide +kernel
theorem dX3_bestBy_15 : decode cX3_bestBy 15 = .ok (.iaload, 1) := by decide +kernel
theorem dX3_bestBy_16 : decode cX3_bestBy 16 = .ok (.goto 6, 3) := by decide +kernel
theorem dX3_bestBy_19 : decode cX3_bestBy 19 = .ok (.sipush 4095, 3) := by decide +kernel
theorem dX3_bestBy_22 : decode cX3_bestBy 22 = .ok (.ireturn, 1) := by decide +kernel
theorem dX3_bestWorth_0 : decode cX3_bestWorth 0 = .ok (.iconst 0, 1) := by decide +kernel
theorem dX3_bestWorth_1 : decode cX3_bestWorth 1 = .ok (.istore_n 3, 1) := by decide +kernel
theorem dX3_bestWorth_2 : decode cX3_bestWorth 2 = .ok (.iconst 0, 1) := by decide +kernel
theorem dX3_bestWorth_3 : decode cX3_bestWorth 3 = .ok (.istore 4, 2) := by decide +kernel
theorem dX3_bestWorth_5 : decode cX3_bestWorth 5 = .ok (.iload 4, 2) := by decide +kernel
theorem dX3_bestWorth_7 : decode cX3_bestWorth 7 = .ok (.aload_n 0, 1) := by decide +kernel
theorem dX3_bestWorth_8 : decode cX3_bestWorth 8 = .ok (.getfield 21, 3) := by decide +kernel
theorem dX3_bestWorth_11 : decode cX3_bestWorth 11 = .ok (.getfield 58, 3) := by decide +kernel
theorem dX3_bestWorth_14 : decode cX3_bestWorth 14 = .ok (.getfield 78, 3) := by decide +kernel
theorem dX3_bestWorth_17 : decode cX3_bestWorth 17 = .ok (.getfield 67, 3) := by decide +kernel
theorem dX3_bestWorth_20 : decode cX3_bestWorth 20 = .ok (.if_icmp .ge 64, 3) := by decide +kernel
theorem dX3_bestWorth_23 : decode cX3_bestWorth 23 = .ok (.aload_n 0, 1) := by decide +kernel
theorem dX3_bestWorth_24 : decode cX3_bestWorth 24 = .ok (.iload 4, 2) := by decide +kernel
theorem dX3_bestWorth_26 : decode cX3_bestWorth 26 = .ok (.aload_n 0, 1) := by decide +kernel
theorem dX3_bestWorth_27 : decode cX3_bestWorth 27 = .ok (.getfield 11, 3) := by decide +kernel
theorem dX3_bestWorth_30 : decode cX3_bestWorth 30 = .ok (.invokevirtual 81, 3) := by decide +kernel
theorem dX3_bestWorth_33 : decode cX3_bestWorth 33 = .ok (.aload_n 0, 1) := by decide +kernel
theorem dX3_bestWorth_34 : decode cX3_bestWorth 34 = .ok (.getfield 21, 3) := by decide +kernel
theorem dX3_bestWorth_37 : decode cX3_bestWorth 37 = .ok (.getfield 31, 3) := by decide +kernel
theorem dX3_bestWorth_40 : decode cX3_bestWorth 40 = .ok (.getfield 37, 3) := by decide +kernel
theorem dX3_bestWorth_43 : decode cX3_bestWorth 43 = .ok (.iload 4, 2) := by decide +kernel
theorem dX3_bestWorth_45 : decode cX3_bestWorth 45 = .ok (.iconst 0, 1) := by decide +kernel
theorem dX3_bestWorth_46 : decode cX3_bestWorth 46 = .ok (.invokevirtual 43, 3) := by decide +kernel
theorem dX3_bestWorth_49 : decode cX3_bestWorth 49 = .ok (.iload 4, 2) := by decide +kernel
theorem dX3_bestWorth_51 : decode cX3_bestWorth 51 = .ok (.iload_n 1, 1) := by decide +kernel
theorem dX3_bestWorth_52 : decode cX3_bestWorth 52 = .ok (.if_icmp .ne 7, 3) := by decide +kernel
theorem dX3_bestWorth_55 : decode cX3_bestWorth 55 = .ok (.iload_n 2, 1) := by decide +kernel
theorem dX3_bestWorth_56 : decode cX3_bestWorth 56 = .ok (.goto 4, 3) := by decide +kernel
theorem dX3_bestWorth_59 : decode cX3_bestWorth 59 = .ok (.iconst 0, 1) := by decide +kernel
theorem dX3_bestWorth_60 : decode cX3_bestWorth 60 = .ok (.iadd, 1) := by decide +kernel
theorem dX3_bestWorth_61 : decode cX3_bestWorth 61 = .ok (.istore 5, 2) := by decide +kernel
theorem dX3_bestWorth_63 : decode cX3_bestWorth 63 = .ok (.iload_n 3, 1) := by decide +kernel
theorem dX3_bestWorth_64 : decode cX3_bestWorth 64 = .ok (.aload_n 0, 1) := by decide +kernel
theorem dX3_bestWorth_65 : decode cX3_bestWorth 65 = .ok (.getfield 11, 3) := by decide +kernel
theorem dX3_bestWorth_68 : decode cX3_bestWorth 68 = .ok (.iload 5, 2) := by decide +kernel
theorem dX3_bestWorth_70 : decode cX3_bestWorth 70 = .ok (.invokestatic 85, 3) := by decide +kernel
theorem dX3_bestWorth_73 : decode cX3_bestWorth 73 = .ok (.invokestatic 89, 3) := by decide +kernel
theorem dX3_bestWorth_76 : decode cX3_bestWorth 76 = .ok (.iadd, 1) := by decide +kernel
theorem dX3_bestWorth_77 : decode cX3_bestWorth 77 = .ok (.istore_n 3, 1) := by decide +kernel
theorem dX3_bestWorth_78 : decode cX3_bestWorth 78 = .ok (.iinc 4 1, 3) := by decide +kernel
theorem dX3_bestWorth_81 : decode cX3_bestWorth 81 = .ok (.goto (-76), 3) := by decide +kernel
theorem dX3_bestWorth_84 : decode cX3_bestWorth 84 = .ok (.iload_n 3, 1) := by decide +kernel
theorem dX3_bestWorth_85 : decode cX3_bestWorth 85 = .ok (.ireturn, 1) := by decide +kernel
theorem dX3_bestBits_0 : decode cX3_bestBits 0 = .ok (.iconst 0, 1) := by decide +kernel
theorem dX3_bestBits_1 : decode cX3_bestBits 1 = .ok (.istore_n 1, 1) := by decide +kernel
theorem dX3_bestBits_2 : decode cX3_bestBits 2 = .ok (.iconst 0, 1) := by decide +kernel
theorem dX3_bestBits_3 : decode cX3_bestBits 3 = .ok (.istore_n 2, 1) := by decide +kernel
theorem dX3_bestBits_4 : decode cX3_bestBits 4 = .ok (.iload_n 2, 1) := by decide +kernel
theorem dX3_bestBits_5 : decode cX3_bestBits 5 = .ok (.aload_n 0, 1) := by decide +kernel
theorem dX3_bestBits_6 : decode cX3_bestBits 6 = .ok (.getfield 21, 3) := by decide +kernel
theorem dX3_bestBits_9 : decode cX3_bestBits 9 = .ok (.getfield 58, 3) := by decide +kernel
theorem dX3_bestBits_12 : decode cX3_bestBits 12 = .ok (.getfield 78, 3) := by decide +kernel
theorem dX3_bestBits_15 : decode cX3_bestBits 15 = .ok (.getfield 67, 3) := by decide +kernel
theorem dX3_bestBits_18 : decode cX3_bestBits 18 = .ok (.if_icmp .ge 46, 3) := by decide +kernel
theorem dX3_bestBits_21 : decode cX3_bestBits 21 = .ok (.aload_n 0, 1) := by decide +kernel
theorem dX3_bestBits_22 : decode cX3_bestBits 22 = .ok (.iload_n 2, 1) := by decide +kernel
theorem dX3_bestBits_23 : decode cX3_bestBits 23 = .ok (.aload_n 0, 1) := by decide +kernel
theorem dX3_bestBits_24 : decode cX3_bestBits 24 = .ok (.getfield 11, 3) := by decide +kernel
theorem dX3_bestBits_27 : decode cX3_bestBits 27 = .ok (.invokevirtual 81, 3) := by decide +kernel
theorem dX3_bestBits_30 : decode cX3_bestBits 30 = .ok (.iload_n 1, 1) := by decide +kernel
theorem dX3_bestBits_31 : decode cX3_bestBits 31 = .ok (.aload_n 0, 1) := by decide +kernel
theorem dX3_bestBits_32 : decode cX3_bestBits 32 = .ok (.getfield 11, 3) := by decide +kernel
theorem dX3_bestBits_35 : decode cX3_bestBits 35 = .ok (.aload_n 0, 1) := by decide +kernel
theorem dX3_bestBits_36 : decode cX3_bestBits 36 = .ok (.getfield 21, 3) := by decide +kernel
theorem dX3_bestBits_39 : decode cX3_bestBits 39 = .ok (.getfield 31, 3) := by decide +kernel
theorem dX3_bestBits_42 : decode cX3_bestBits 42 = .ok (.getfield 37, 3) := by decide +kernel
theorem dX3_bestBits_45 : decode cX3_bestBits 45 = .ok (.iload_n 2, 1) := by decide +kernel
theorem dX3_bestBits_46 : decode cX3_bestBits 46 = .ok (.iconst 0, 1) := by decide +kernel
theorem dX3_bestBits_47 : decode cX3_bestBits 47 = .ok (.invokevirtual 43, 3) := by decide +kernel
theorem dX3_bestBits_50 : decode cX3_bestBits 50 = .ok (.invokestatic 85, 3) := by decide +kernel
theorem dX3_bestBits_53 : decode cX3_bestBits 53 = .ok (.invokestatic 93, 3) := by decide +kernel
theorem dX3_bestBits_56 : decode cX3_bestBits 56 = .ok (.ior, 1) := by decide +kernel
theorem dX3_bestBits_57 : decode cX3_bestBits 57 = .ok (.istore_n 1, 1) := by decide +kernel
theorem dX3_bestBits_58 : decode cX3_bestBits 58 = .ok (.iinc 2 1, 3) := by decide +kernel
theorem dX3_bestBits_61 : decode cX3_bestBits 61 = .ok (.goto (-57), 3) := by decide +kernel
theorem dX3_bestBits_64 : decode cX3_bestBits 64 = .ok (.iload_n 1, 1) := by decide +kernel
theorem dX3_bestBits_65 : decode cX3_bestBits 65 = .ok (.ireturn, 1) := by decide +kernel
theorem dX3_findBestCarrying_0 : decode cX3_findBestCarrying 0 = .ok (.aload_n 0, 1) := by decide +kernel
theorem dX3_findBestCarrying_1 : decode cX3_findBestCarrying 1 = .ok (.getfield 21, 3) := by decide +kernel
theorem dX3_findBestCarrying_4 : decode cX3_findBestCarrying 4 = .ok (.getfield 31, 3) := by decide +kernel
theorem dX3_findBestCarrying_7 : decode cX3_findBestCarrying 7 = .ok (.getfield 37, 3) := by decide +kernel
theorem dX3_findBestCarrying_10 : decode cX3_findBestCarrying 10 = .ok (.iload_n 1, 1) := by decide +kernel
theorem dX3_findBestCarrying_11 : decode cX3_findBestCarrying 11 = .ok (.iconst 0, 1) := by decide +kernel
theorem dX3_findBestCarrying_12 : decode cX3_findBestCarrying 12 = .ok (.invokevirtual 43, 3) := by decide +kernel
theorem dX3_findBestCarrying_15 : decode cX3_findBestCarrying 15 = .ok (.istore_n 3, 1) := by decide +kernel
theorem dX3_findBestCarrying_16 : decode cX3_findBestCarrying 16 = .ok (.aload_n 0, 1) := by decide +kernel
theorem dX3_findBestCarrying_17 : decode cX3_findBestCarrying 17 = .ok (.getfield 21, 3) := by decide +kernel
theorem dX3_findBestCarrying_20 : decode cX3_findBestCarrying 20 = .ok (.getfield 31, 3) := by decide +kernel
theorem dX3_findBestCarrying_23 : decode cX3_findBestCarrying 23 = .ok (.getfield 37, 3) := by decide +kernel
theorem dX3_findBestCarrying_26 : decode cX3_findBestCarrying 26 = .ok (.iload_n 2, 1) := by decide +kernel
theorem dX3_findBestCarrying_27 : decode cX3_findBestCarrying 27 = .ok (.iconst 0, 1) := by decide +kernel
theorem dX3_findBestCarrying_28 : decode cX3_findBestCarrying 28 = .ok (.invokevirtual 43, 3) := by decide +kernel
theorem dX3_findBestCarrying_31 : decode cX3_findBestCarrying 31 = .ok (.istore 4, 2) := by decide +kernel
theorem dX3_findBestCarrying_33 : decode cX3_findBestCarrying 33 = .ok (.aload_n 0, 1) := by decide +kernel
theorem dX3_findBestCarrying_34 : decode cX3_findBestCarrying 34 = .ok (.iconst (-1), 1) := by decide +kernel
theorem dX3_findBestCarrying_35 : decode cX3_findBestCarrying 35 = .ok (.iconst 0, 1) := by decide +kernel
theorem dX3_findBestCarrying_36 : decode cX3_findBestCarrying 36 = .ok (.invokevirtual 96, 3) := by decide +kernel
theorem dX3_findBestCarrying_39 : decode cX3_findBestCarrying 39 = .ok (.istore 5, 2) := by decide +kernel
theorem dX3_findBestCarrying_41 : decode cX3_findBestCarrying 41 = .ok (.aload_n 0, 1) := by decide +kernel
theorem dX3_findBestCarrying_42 : decode cX3_findBestCarrying 42 = .ok (.iload_n 1, 1) := by decide +kernel
theorem dX3_findBestCarrying_43 : decode cX3_findBestCarrying 43 = .ok (.aload_n 0, 1) := by decide +kernel
theorem dX3_findBestCarrying_44 : decode cX3_findBestCarrying 44 = .ok (.getfield 11, 3) := by decide +kernel
theorem dX3_findBestCarrying_47 : decode cX3_findBestCarrying 47 = .ok (.invokevirtual 81, 3) := by decide +kernel
theorem dX3_findBestCarrying_50 : decode cX3_findBestCarrying 50 = .ok (.aload_n 0, 1) := by decide +kernel
theorem dX3_findBestCarrying_51 : decode cX3_findBestCarrying 51 = .ok (.iload_n 2, 1) := by decide +kernel
theorem dX3_findBestCarrying_52 : decode cX3_findBestCarrying 52 = .ok (.aload_n 0, 1) := by decide +kernel
theorem dX3_findBestCarrying_53 : decode cX3_findBestCarrying 53 = .ok (.getfield 15, 3) := by decide +kernel
theorem dX3_findBestCarrying_56 : decode cX3_findBestCarrying 56 = .ok (.invokevirtual 81, 3) := by decide +kernel
theorem dX3_findBestCarrying_59 : decode cX3_findBestCarrying 59 = .ok (.iload 5, 2) := by decide +kernel
theorem dX3_findBestCarrying_61 : decode cX3_findBestCarrying 61 = .ok (.aload_n 0, 1) := by decide +kernel
theorem dX3_findBestCarrying_62 : decode cX3_findBestCarrying 62 = .ok (.getfield 11, 3) := by decide +kernel
theorem dX3_findBestCarrying_65 : decode cX3_findBestCarrying 65 = .ok (.iload_n 3, 1) := by decide +kernel
theorem dX3_findBestCarrying_66 : decode cX3_findBestCarrying 66 = .ok (.invokestatic 85, 3) := by decide +kernel
theorem dX3_findBestCarrying_69 : decode cX3_findBestCarrying 69 = .ok (.invokestatic 89, 3) := by decide +kernel
theorem dX3_findBestCarrying_72 : decode cX3_findBestCarrying 72 = .ok (.isub, 1) := by decide +kernel
theorem dX3_findBestCarrying_73 : decode cX3_findBestCarrying 73 = .ok (.aload_n 0, 1) := by decide +kernel
theorem dX3_findBestCarrying_74 : decode cX3_findBestCarrying 74 = .ok (.getfield 15, 3) := by decide +kernel
theorem dX3_findBestCarrying_77 : decode cX3_findBestCarrying 77 = .ok (.iload 4, 2) := by decide +kernel
theorem dX3_findBestCarrying_79 : decode cX3_findBestCarrying 79 = .ok (.invokestatic 85, 3) := by decide +kernel
theorem dX3_findBestCarrying_82 : decode cX3_findBestCarrying 82 = .ok (.invokestatic 89, 3) := by decide +kernel
theorem dX3_findBestCarrying_85 : decode cX3_findBestCarrying 85 = .ok (.isub, 1) := by decide +kernel
theorem dX3_findBestCarrying_86 : decode cX3_findBestCarrying 86 = .ok (.istore 6, 2) := by decide +kernel
theorem dX3_findBestCarrying_88 : decode cX3_findBestCarrying 88 = .ok (.aload_n 0, 1) := by decide +kernel
theorem dX3_findBestCarrying_89 : decode cX3_findBestCarrying 89 = .ok (.iconst 0, 1) := by decide +kernel
theorem dX3_findBestCarrying_90 : decode cX3_findBestCarrying 90 = .ok (.putfield 99, 3) := by decide +kernel
theorem dX3_findBestCarrying_93 : decode cX3_findBestCarrying 93 = .ok (.aload_n 0, 1) := by decide +kernel
theorem dX3_findBestCarrying_94 : decode cX3_findBestCarrying 94 = .ok (.iconst (-1), 1) := by decide +kernel
theorem dX3_findBestCarrying_95 : decode cX3_findBestCarrying 95 = .ok (.putfield 102, 3) := by decide +kernel
theorem dX3_findBestCarrying_98 : decode cX3_findBestCarrying 98 = .ok (.iconst 0, 1) := by decide +kernel
theorem dX3_findBestCarrying_99 : decode cX3_findBestCarrying 99 = .ok (.istore 7, 2) := by decide +kernel
theorem dX3_findBestCarrying_101 : decode cX3_findBestCarrying 101 = .ok (.iload 7, 2) := by decide +kernel
theorem dX3_findBestCarrying_103 : decode cX3_findBestCarrying 103 = .ok (.iload_n 3, 1) := by decide +kernel
theorem dX3_findBestCarrying_104 : decode cX3_findBestCarrying 104 = .ok (.if_icmp .gt 79, 3) := by decide +kernel
theorem dX3_findBestCarrying_107 : decode cX3_findBestCarrying 107 = .ok (.aload_n 0, 1) := by decide +kernel
theorem dX3_findBestCarrying_108 : decode cX3_findBestCarrying 108 = .ok (.getfield 21, 3) := by decide +kernel
theorem dX3_findBestCarrying_111 : decode cX3_findBestCarrying 111 = .ok (.iload_n 1, 1) := by decide +kernel
theorem dX3_findBestCarrying_112 : decode cX3_findBestCarrying 112 = .ok (.iload_n 2, 1) := by decide +kernel
theorem dX3_findBestCarrying_113 : decode cX3_findBestCarrying 113 = .ok (.iload 7, 2) := by decide +kernel
theorem dX3_findBestCarrying_115 : decode cX3_findBestCarrying 115 = .ok (.iconst 1, 1) := by decide +kernel
theorem dX3_findBestCarrying_116 : decode cX3_findBestCarrying 116 = .ok (.invokevirtual 105, 3) := by decide +kernel
theorem dX3_findBestCarrying_119 : decode cX3_findBestCarrying 119 = .ok (.istore 8, 2) := by decide +kernel
theorem dX3_findBestCarrying_121 : decode cX3_findBestCarrying 121 = .ok (.iload 6, 2) := by decide +kernel
theorem dX3_findBestCarrying_123 : decode cX3_findBestCarrying 123 = .ok (.aload_n 0, 1) := by decide +kernel
theorem dX3_findBestCarrying_124 : decode cX3_findBestCarrying 124 = .ok (.getfield 11, 3) := by decide +kernel
theorem dX3_findBestCarrying_127 : decode cX3_findBestCarrying 127 = .ok (.iload_n 3, 1) := by decide +kernel
theorem dX3_findBestCarrying_128 : decode cX3_findBestCarrying 128 = .ok (.iload 7, 2) := by decide +kernel
theorem dX3_findBestCarrying_130 : decode cX3_findBestCarrying 130 = .ok (.isub, 1) := by decide +kernel
theorem dX3_findBestCarrying_131 : decode cX3_findBestCarrying 131 = .ok (.invokestatic 85, 3) := by decide +kernel
theorem dX3_findBestCarrying_134 : decode cX3_findBestCarrying 134 = .ok (.invokestatic 89, 3) := by decide +kernel
theorem dX3_findBestCarrying_137 : decode cX3_findBestCarrying 137 = .ok (.iadd, 1) := by decide +kernel
theorem dX3_findBestCarrying_138 : decode cX3_findBestCarrying 138 = .ok (.aload_n 0, 1) := by decide +kernel
theorem dX3_findBestCarrying_139 : decode cX3_findBestCarrying 139 = .ok (.getfield 15, 3) := by decide +kernel
theorem dX3_findBestCarrying_142 : decode cX3_findBestCarrying 142 = .ok (.iload 4, 2) := by decide +kernel
theorem dX3_findBestCarrying_144 : decode cX3_findBestCarrying 144 = .ok (.iload 8, 2) := by decide +kernel
theorem dX3_findBestCarrying_146 : decode cX3_findBestCarrying 146 = .ok (.iadd, 1) := by decide +kernel
theorem dX3_findBestCarrying_147 : decode cX3_findBestCarrying 147 = .ok (.invokestatic 85, 3) := by decide +kernel
theorem dX3_findBestCarrying_150 : decode cX3_findBestCarrying 150 = .ok (.invokestatic 89, 3) := by decide +kernel
theorem dX3_findBestCarrying_153 : decode cX3_findBestCarrying 153 = .ok (.iadd, 1) := by decide +kernel
theorem dX3_findBestCarrying_154 : decode cX3_findBestCarrying 154 = .ok (.istore 9, 2) := by decide +kernel
theorem dX3_findBestCarrying_156 : decode cX3_findBestCarrying 156 = .ok (.iload 9, 2) := by decide +kernel
theorem dX3_findBestCarrying_158 : decode cX3_findBestCarrying 158 = .ok (.aload_n 0, 1) := by decide +kernel
theorem dX3_findBestCarrying_159 : decode cX3_findBestCarrying 159 = .ok (.getfield 102, 3) := by decide +kernel
theorem dX3_findBestCarrying_162 : decode cX3_findBestCarrying 162 = .ok (.if_icmp .le 15, 3) := by decide +kernel
theorem dX3_findBestCarrying_165 : decode cX3_findBestCarrying 165 = .ok (.aload_n 0, 1) := by decide +kernel
theorem dX3_findBestCarrying_166 : decode cX3_findBestCarrying 166 = .ok (.iload 7, 2) := by decide +kernel
theorem dX3_findBestCarrying_168 : decode cX3_findBestCarrying 168 = .ok (.putfield 99, 3) := by decide +kernel
theorem dX3_findBestCarrying_171 : decode cX3_findBestCarrying 171 = .ok (.aload_n 0, 1) := by decide +kernel
theorem dX3_findBestCarrying_172 : decode cX3_findBestCarrying 172 = .ok (.iload 9, 2) := by decide +kernel
theorem dX3_findBestCarrying_174 : decode cX3_findBestCarrying 174 = .ok (.putfield 102, 3) := by decide +kernel
theorem dX3_findBestCarrying_177 : decode cX3_findBestCarrying 177 = .ok (.iinc 7 1, 3) := by decide +kernel
theorem dX3_findBestCarrying_180 : decode cX3_findBestCarrying 180 = .ok (.goto (-79), 3) := by decide +kernel
theorem dX3_findBestCarrying_183 : decode cX3_findBestCarrying 183 = .ok (.return_, 1) := by decide +kernel
theorem dX3_clearingPrice_0 : decode cX3_clearingPrice 0 = .ok (.aload_n 0, 1) := by decide +kernel
theorem dX3_clearingPrice_1 : decode cX3_clearingPrice 1 = .ok (.getfield 21, 3) := by decide +kernel
theorem dX3_clearingPrice_4 : decode cX3_clearingPrice 4 = .ok (.iload_n 1, 1) := by decide +kernel
theorem dX3_clearingPrice_5 : decode cX3_clearingPrice 5 = .ok (.invokevirtual 109, 3) := by decide +kernel
theorem dX3_clearingPrice_8 : decode cX3_clearingPrice 8 = .ok (.istore_n 2, 1) := by decide +kernel
theorem dX3_clearingPrice_9 : decode cX3_clearingPrice 9 = .ok (.iconst 0, 1) := by decide +kernel
theorem dX3_clearingPrice_10 : decode cX3_clearingPrice 10 = .ok (.istore_n 3, 1) := by decide +kernel
theorem dX3_clearingPrice_11 : decode cX3_clearingPrice 11 = .ok (.iload_n 3, 1) := by decide +kernel
theorem dX3_clearingPrice_12 : decode cX3_clearingPrice 12 = .ok (.bipush 100, 2) := by decide +kernel
theorem dX3_clearingPrice_14 : decode cX3_clearingPrice 14 = .ok (.if_icmp .ge 22, 3) := by decide +kernel
theorem dX3_clearingPrice_17 : decode cX3_clearingPrice 17 = .ok (.aload_n 0, 1) := by decide +kernel
theorem dX3_clearingPrice_18 : decode cX3_clearingPrice 18 = .ok (.getfield 21, 3) := by decide +kernel
theorem dX3_clearingPrice_21 : decode cX3_clearingPrice 21 = .ok (.iload_n 1, 1) := by decide +kernel
theorem dX3_clearingPrice_22 : decode cX3_clearingPrice 22 = .ok (.iload_n 3, 1) := by decide +kernel
theorem dX3_clearingPrice_23 : decode cX3_clearingPrice 23 = .ok (.invokevirtual 112, 3) := by decide +kernel
theorem dX3_clearingPrice_26 : decode cX3_clearingPrice 26 = .ok (.iload_n 2, 1) := by decide +kernel
theorem dX3_clearingPrice_27 : decode cX3_clearingPrice 27 = .ok (.if_icmp .le 9, 3) := by decide +kernel
theorem dX3_clearingPrice_30 : decode cX3_clearingPrice 30 = .ok (.iinc 3 1, 3) := by decide +kernel
theorem dX3_clearingPrice_33 : decode cX3_clearingPrice 33 = .ok (.goto (-22), 3) := by decide +kernel
theorem dX3_clearingPrice_36 : decode cX3_clearingPrice 36 = .ok (.iload_n 3, 1) := by decide +kernel
theorem dX3_clearingPrice_37 : decode cX3_clearingPrice 37 = .ok (.ireturn, 1) := by decide +kernel
theorem dX3_hoursToCorner_0 : decode cX3_hoursToCorner 0 = .ok (.iload_n 2, 1) := by decide +kernel
theorem dX3_hoursToCorner_1 : decode cX3_hoursToCorner 1 = .ok (.ifCond .ne 5, 3) := by decide +kernel
theorem dX3_hoursToCorner_4 : decode cX3_hoursToCorner 4 = .ok (.iconst 0, 1) := by decide +kernel
theorem dX3_hoursToCorner_5 : decode cX3_hoursToCorner 5 = .ok (.ireturn, 1) := by decide +kernel
theorem dX3_hoursToCorner_6 : decode cX3_hoursToCorner 6 = .ok (.iconst 0, 1) := by decide +kernel
theorem dX3_hoursToCorner_7 : decode cX3_hoursToCorner 7 = .ok (.aload_n 0, 1) := by decide +kernel
theorem dX3_hoursToCorner_8 : decode cX3_hoursToCorner 8 = .ok (.getfield 21, 3) := by decide +kernel
theorem dX3_hoursToCorner_11 : decode cX3_hoursToCorner 11 = .ok (.iload_n 1, 1) := by decide +kernel
theorem dX3_hoursToCorner_12 : decode cX3_hoursToCorner 12 = .ok (.invokevirtual 109, 3) := by decide +kernel
theorem dX3_hoursToCorner_15 : decode cX3_hoursToCorner 15 = .ok (.aload_n 0, 1) := by decide +kernel
theorem dX3_hoursToCorner_16 : decode cX3_hoursToCorner 16 = .ok (.getfield 21, 3) := by decide +kernel
theorem dX3_hoursToCorner_19 : decode cX3_hoursToCorner 19 = .ok (.iload_n 1, 1) := by decide +kernel
theorem dX3_hoursToCorner_20 : decode cX3_hoursToCorner 20 = .ok (.iload_n 2, 1) := by decide +kernel
theorem dX3_hoursToCorner_21 : decode cX3_hoursToCorner 21 = .ok (.iconst 1, 1) := by decide +kernel
theorem dX3_hoursToCorner_22 : decode cX3_hoursToCorner 22 = .ok (.isub, 1) := by decide +kernel
theorem dX3_hoursToCorner_23 : decode cX3_hoursToCorner 23 = .ok (.invokevirtual 112, 3) := by decide +kernel
theorem dX3_hoursToCorner_26 : decode cX3_hoursToCorner 26 = .ok (.isub, 1) := by decide +kernel
theorem dX3_hoursToCorner_27 : decode cX3_hoursToCorner 27 = .ok (.iconst 1, 1) := by decide +kernel
theorem dX3_hoursToCorner_28 : decode cX3_hoursToCorner 28 = .ok (.iadd, 1) := by decide +kernel
theorem dX3_hoursToCorner_29 : decode cX3_hoursToCorner 29 = .ok (.invokestatic 53, 3) := by decide +kernel
theorem dX3_hoursToCorner_32 : decode cX3_hoursToCorner 32 = .ok (.istore_n 3, 1) := by decide +kernel
theorem dX3_hoursToCorner_33 : decode cX3_hoursToCorner 33 = .ok (.iload_n 3, 1) := by decide +kernel
theorem dX3_hoursToCorner_34 : decode cX3_hoursToCorner 34 = .ok (.aload_n 0, 1) := by decide +kernel
theorem dX3_hoursToCorner_35 : decode cX3_hoursToCorner 35 = .ok (.getfield 21, 3) := by decide +kernel
theorem dX3_hoursToCorner_38 : decode cX3_hoursToCorner 38 = .ok (.getfield 31, 3) := by decide +kernel
theorem dX3_hoursToCorner_41 : decode cX3_hoursToCorner 41 = .ok (.getfield 37, 3) := by decide +kernel
theorem dX3_hoursToCorner_44 : decode cX3_hoursToCorner 44 = .ok (.iload_n 1, 1) := by decide +kernel
theorem dX3_hoursToCorner_45 : decode cX3_hoursToCorner 45 = .ok (.iconst 0, 1) := by decide +kernel
theorem dX3_hoursToCorner_46 : decode cX3_hoursToCorner 46 = .ok (.invokevirtual 43, 3) := by decide +kernel
theorem dX3_hoursToCorner_49 : decode cX3_hoursToCorner 49 = .ok (.if_icmp .gt 7, 3) := by decide +kernel
theorem dX3_hoursToCorner_52 : decode cX3_hoursToCorner 52 = .ok (.iload_n 3, 1) := by decide +kernel
theorem dX3_hoursToCorner_53 : decode cX3_hoursToCorner 53 = .ok (.goto 4, 3) := by decide +kernel
theorem dX3_hoursToCorner_56 : decode cX3_hoursToCorner 56 = .ok (.iconst (-1), 1) := by decide +kernel
theorem dX3_hoursToCorner_57 : decode cX3_hoursToCorner 57 = .ok (.ireturn, 1) := by decide +kernel
theorem dX3_gained_0 : decode cX3_gained 0 = .ok (.iload_n 2, 1) := by decide +kernel
theorem dX3_gained_1 : decode cX3_gained 1 = .ok (.iload_n 3, 1) := by decide +kernel
theorem dX3_gained_2 : decode cX3_gained 2 = .ok (.if_icmp .le 5, 3) := by decide +kernel
theorem dX3_gained_5 : decode cX3_gained 5 = .ok (.iconst 0, 1) := by decide +kernel
theorem dX3_gained_6 : decode cX3_gained 6 = .ok (.ireturn, 1) := by decide +kernel
theorem dX3_gained_7 : decode cX3_gained 7 = .ok (.iconst 0, 1) := by decide +kernel
theorem dX3_gained_8 : decode cX3_gained 8 = .ok (.istore 4, 2) := by decide +kernel
theorem dX3_gained_10 : decode cX3_gained 10 = .ok (.iconst 0, 1) := by decide +kernel
theorem dX3_gained_11 : decode cX3_gained 11 = .ok (.istore 5, 2) := by decide +kernel
theorem dX3_gained_13 : decode cX3_gained 13 = .ok (.iload 5, 2) := by decide +kernel
theorem dX3_gained_15 : decode cX3_gained 15 = .ok (.aload_n 0, 1) := by decide +kernel
theorem dX3_gained_16 : decode cX3_gained 16 = .ok (.getfield 21, 3) := by decide +kernel
theorem dX3_gained_19 : decode cX3_gained 19 = .ok (.getfield 58, 3) := by decide +kernel
theorem dX3_gained_22 : decode cX3_gained 22 = .ok (.getfield 62, 3) := by decide +kernel
theorem dX3_gained_25 : decode cX3_gained 25 = .ok (.getfield 67, 3) := by decide +kernel
theorem dX3_gained_28 : decode cX3_gained 28 = .ok (.if_icmp .ge 79, 3) := by decide +kernel
theorem dX3_gained_31 : decode cX3_gained 31 = .ok (.aload_n 0, 1) := by decide +kernel
theorem dX3_gained_32 : decode cX3_gained 32 = .ok (.getfield 21, 3) := by decide +kernel
theorem dX3_gained_35 : decode cX3_gained 35 = .ok (.iload 5, 2) := by decide +kernel
theorem dX3_gained_37 : decode cX3_gained 37 = .ok (.iload_n 1, 1) := by decide +kernel
theorem dX3_gained_38 : decode cX3_gained 38 = .ok (.invokevirtual 71, 3) := by decide +kernel
theorem dX3_gained_41 : decode cX3_gained 41 = .ok (.ifCond .eq 60, 3) := by decide +kernel
theorem dX3_gained_44 : decode cX3_gained 44 = .ok (.aload_n 0, 1) := by decide +kernel
theorem dX3_gained_45 : decode cX3_gained 45 = .ok (.getfield 21, 3) := by decide +kernel
theorem dX3_gained_48 : decode cX3_gained 48 = .ok (.getfield 58, 3) := by decide +kernel
theorem dX3_gained_51 : decode cX3_gained 51 = .ok (.getfield 62, 3) := by decide +kernel
theorem dX3_gained_54 : decode cX3_gained 54 = .ok (.iload 5, 2) := by decide +kernel
theorem dX3_gained_56 : decode cX3_gained 56 = .ok (.iconst 3, 1) := by decide +kernel
theorem dX3_gained_57 : decode cX3_gained 57 = .ok (.invokevirtual 43, 3) := by decide +kernel
theorem dX3_gained_60 : decode cX3_gained 60 = .ok (.iload_n 2, 1) := by decide +kernel
theorem dX3_gained_61 : decode cX3_gained 61 = .ok (.if_icmp .lt 40, 3) := by decide +kernel
theorem dX3_gained_64 : decode cX3_gained 64 = .ok (.aload_n 0, 1) := by decide +kernel
theorem dX3_gained_65 : decode cX3_gained 65 = .ok (.getfield 21, 3) := by decide +kernel
theorem dX3_gained_68 : decode cX3_gained 68 = .ok (.getfield 58, 3) := by decide +kernel
theorem dX3_gained_71 : decode cX3_gained 71 = .ok (.getfield 62, 3) := by decide +kernel
theorem dX3_gained_74 : decode cX3_gained 74 = .ok (.iload 5, 2) := by decide +kernel
theorem dX3_gained_76 : decode cX3_gained 76 = .ok (.iconst 1, 1) := by decide +kernel
theorem dX3_gained_77 : decode cX3_gained 77 = .ok (.invokevirtual 43, 3) := by decide +kernel
theorem dX3_gained_80 : decode cX3_gained 80 = .ok (.istore 6, 2) := by decide +kernel
theorem dX3_gained_82 : decode cX3_gained 82 = .ok (.iload 4, 2) := by decide +kernel
theorem dX3_gained_84 : decode cX3_gained 84 = .ok (.iload_n 2, 1) := by decide +kernel
theorem dX3_gained_85 : decode cX3_gained 85 = .ok (.iload_n 3, 1) := by decide +kernel
theorem dX3_gained_86 : decode cX3_gained 86 = .ok (.if_icmp .ge 8, 3) := by decide +kernel
theorem dX3_gained_89 : decode cX3_gained 89 = .ok (.iload 6, 2) := by decide +kernel
theorem dX3_gained_91 : decode cX3_gained 91 = .ok (.goto 7, 3) := by decide +kernel
theorem dX3_gained_94 : decode cX3_gained 94 = .ok (.iload 6, 2) := by decide +kernel
theorem dX3_gained_96 : decode cX3_gained 96 = .ok (.iconst 2, 1) := by decide +kernel
theorem dX3_gained_97 : decode cX3_gained 97 = .ok (.idiv, 1) := by decide +kernel
theorem dX3_gained_98 : decode cX3_gained 98 = .ok (.iadd, 1) := by decide +kernel
theorem dX3_gained_99 : decode cX3_gained 99 = .ok (.istore 4, 2) := by decide +kernel
theorem dX3_gained_101 : decode cX3_gained 101 = .ok (.iinc 5 1, 3) := by decide +kernel
theorem dX3_gained_104 : decode cX3_gained 104 = .ok (.goto (-91), 3) := by decide +kernel
theorem dX3_gained_107 : decode cX3_gained 107 = .ok (.iload 4, 2) := by decide +kernel
theorem dX3_gained_109 : decode cX3_gained 109 = .ok (.iload_n 2, 1) := by decide +kernel
theorem dX3_gained_110 : decode cX3_gained 110 = .ok (.imul, 1) := by decide +kernel
theorem dX3_gained_111 : decode cX3_gained 111 = .ok (.ireturn, 1) := by decide +kernel
theorem dX3_findRests_0 : decode cX3_findRests 0 = .ok (.iconst 0, 1) := by decide +kernel
theorem dX3_findRests_1 : decode cX3_findRests 1 = .ok (.istore_n 3, 1) := by decide +kernel
theorem dX3_findRests_2 : decode cX3_findRests 2 = .ok (.iload_n 3, 1) := by decide +kernel
theorem dX3_findRests_3 : decode cX3_findRests 3 = .ok (.iload_n 2, 1) := by decide +kernel
theorem dX3_findRests_4 : decode cX3_findRests 4 = .ok (.if_icmp .gt 63, 3) := by decide +kernel
theorem dX3_findRests_7 : decode cX3_findRests 7 = .ok (.iload_n 3, 1) := by decide +kernel
theorem dX3_findRests_8 : decode cX3_findRests 8 = .ok (.aload_n 0, 1) := by decide +kernel
theorem dX3_findRests_9 : decode cX3_findRests 9 = .ok (.getfield 18, 3) := by decide +kernel
theorem dX3_findRests_12 : decode cX3_findRests 12 = .ok (.arraylength, 1) := by decide +kernel
theorem dX3_findRests_13 : decode cX3_findRests 13 = .ok (.if_icmp .ge 54, 3) := by decide +kernel
theorem dX3_findRests_16 : decode cX3_findRests 16 = .ok (.aload_n 0, 1) := by decide +kernel
theorem dX3_findRests_17 : decode cX3_findRests 17 = .ok (.getfield 18, 3) := by decide +kernel
theorem dX3_findRests_20 : decode cX3_findRests 20 = .ok (.iload_n 3, 1) := by decide +kernel
theorem dX3_findRests_21 : decode cX3_findRests 21 = .ok (.iconst 0, 1) := by decide +kernel
theorem dX3_findRests_22 : decode cX3_findRests 22 = .ok (.iastore, 1) := by decide +kernel
theorem dX3_findRests_23 : decode cX3_findRests 23 = .ok (.iconst 0, 1) := by decide +kernel
theorem dX3_findRests_24 : decode cX3_findRests 24 = .ok (.istore 4, 2) := by decide +kernel
theorem dX3_findRests_26 : decode cX3_findRests 26 = .ok (.iload 4, 2) := by decide +kernel
theorem dX3_findRests_28 : decode cX3_findRests 28 = .ok (.iload_n 2, 1) := by decide +kernel
theorem dX3_findRests_29 : decode cX3_findRests 29 = .ok (.if_icmp .gt 32, 3) := by decide +kernel
theorem dX3_findRests_32 : decode cX3_findRests 32 = .ok (.aload_n 0, 1) := by decide +kernel
theorem dX3_findRests_33 : decode cX3_findRests 33 = .ok (.getfield 18, 3) := by decide +kernel
theorem dX3_findRests_36 : decode cX3_findRests 36 = .ok (.iload_n 3, 1) := by decide +kernel
theorem dX3_findRests_37 : decode cX3_findRests 37 = .ok (.aload_n 0, 1) := by decide +kernel
theorem dX3_findRests_38 : decode cX3_findRests 38 = .ok (.getfield 18, 3) := by decide +kernel
theorem dX3_findRests_41 : decode cX3_findRests 41 = .ok (.iload_n 3, 1) := by decide +kernel
theorem dX3_findRests_42 : decode cX3_findRests 42 = .ok (.iaload, 1) := by decide +kernel
theorem dX3_findRests_43 : decode cX3_findRests 43 = .ok (.aload_n 0, 1) := by decide +kernel
theorem dX3_findRests_44 : decode cX3_findRests 44 = .ok (.iload_n 1, 1) := by decide +kernel
theorem dX3_findRests_45 : decode cX3_findRests 45 = .ok (.iload 4, 2) := by decide +kernel
theorem dX3_findRests_47 : decode cX3_findRests 47 = .ok (.iload_n 3, 1) := by decide +kernel
theorem dX3_findRests_48 : decode cX3_findRests 48 = .ok (.invokevirtual 115, 3) := by decide +kernel
theorem dX3_findRests_51 : decode cX3_findRests 51 = .ok (.invokestatic 53, 3) := by decide +kernel
theorem dX3_findRests_54 : decode cX3_findRests 54 = .ok (.iastore, 1) := by decide +kernel
theorem dX3_findRests_55 : decode cX3_findRests 55 = .ok (.iinc 4 1, 3) := by decide +kernel
theorem dX3_findRests_58 : decode cX3_findRests 58 = .ok (.goto (-32), 3) := by decide +kernel
theorem dX3_findRests_61 : decode cX3_findRests 61 = .ok (.iinc 3 1, 3) := by decide +kernel
theorem dX3_findRests_64 : decode cX3_findRests 64 = .ok (.goto (-62), 3) := by decide +kernel
theorem dX3_findRests_67 : decode cX3_findRests 67 = .ok (.aload_n 0, 1) := by decide +kernel
theorem dX3_findRests_68 : decode cX3_findRests 68 = .ok (.iconst 0, 1) := by decide +kernel
theorem dX3_findRests_69 : decode cX3_findRests 69 = .ok (.putfield 119, 3) := by decide +kernel
theorem dX3_findRests_72 : decode cX3_findRests 72 = .ok (.aload_n 0, 1) := by decide +kernel
theorem dX3_findRests_73 : decode cX3_findRests 73 = .ok (.iconst (-1), 1) := by decide +kernel
theorem dX3_findRests_74 : decode cX3_findRests 74 = .ok (.putfield 122, 3) := by decide +kernel
theorem dX3_findRests_77 : decode cX3_findRests 77 = .ok (.aload_n 0, 1) := by decide +kernel
theorem dX3_findRests_78 : decode cX3_findRests 78 = .ok (.iconst 0, 1) := by decide +kernel
theorem dX3_findRests_79 : decode cX3_findRests 79 = .ok (.putfield 125, 3) := by decide +kernel
theorem dX3_findRests_82 : decode cX3_findRests 82 = .ok (.iconst 0, 1) := by decide +kernel
theorem dX3_findRests_83 : decode cX3_findRests 83 = .ok (.istore_n 3, 1) := by decide +kernel
theorem dX3_findRests_84 : decode cX3_findRests 84 = .ok (.iload_n 3, 1) := by decide +kernel
theorem dX3_findRests_85 : decode cX3_findRests 85 = .ok (.iload_n 2, 1) := by decide +kernel
theorem dX3_findRests_86 : decode cX3_findRests 86 = .ok (.if_icmp .gt 43, 3) := by decide +kernel
theorem dX3_findRests_89 : decode cX3_findRests 89 = .ok (.iconst 0, 1) := by decide +kernel
theorem dX3_findRests_90 : decode cX3_findRests 90 = .ok (.istore 4, 2) := by decide +kernel
theorem dX3_findRests_92 : decode cX3_findRests 92 = .ok (.iload 4, 2) := by decide +kernel
theorem dX3_findRests_94 : decode cX3_findRests 94 = .ok (.iload_n 2, 1) := by decide +kernel
theorem dX3_findRests_95 : decode cX3_findRests 95 = .ok (.if_icmp .gt 28, 3) := by decide +kernel
theorem dX3_findRests_98 : decode cX3_findRests 98 = .ok (.aload_n 0, 1) := by decide +kernel
theorem dX3_findRests_99 : decode cX3_findRests 99 = .ok (.iload_n 1, 1) := by decide +kernel
theorem dX3_findRests_100 : decode cX3_findRests 100 = .ok (.iload_n 3, 1) := by decide +kernel
theorem dX3_findRests_101 : decode cX3_findRests 101 = .ok (.iload 4, 2) := by decide +kernel
theorem dX3_findRests_103 : decode cX3_findRests 103 = .ok (.invokevirtual 128, 3) := by decide +kernel
theorem dX3_findRests_106 : decode cX3_findRests 106 = .ok (.ifCond .eq 11, 3) := by decide +kernel
theorem dX3_findRests_109 : decode cX3_findRests 109 = .ok (.aload_n 0, 1) := by decide +kernel
theorem dX3_findRests_110 : decode cX3_findRests 110 = .ok (.iload_n 1, 1) := by decide +kernel
theorem dX3_findRests_111 : decode cX3_findRests 111 = .ok (.iload_n 3, 1) := by decide +kernel
theorem dX3_findRests_112 : decode cX3_findRests 112 = .ok (.iload 4, 2) := by decide +kernel
theorem dX3_findRests_114 : decode cX3_findRests 114 = .ok (.invokevirtual 132, 3) := by decide +kernel
theorem dX3_findRests_117 : decode cX3_findRests 117 = .ok (.iinc 4 1, 3) := by decide +kernel
theorem dX3_findRests_120 : decode cX3_findRests 120 = .ok (.goto (-28), 3) := by decide +kernel
theorem dX3_findRests_123 : decode cX3_findRests 123 = .ok (.iinc 3 1, 3) := by decide +kernel
theorem dX3_findRests_126 : decode cX3_findRests 126 = .ok (.goto (-42), 3) := by decide +kernel
theorem dX3_findRests_129 : decode cX3_findRests 129 = .ok (.return_, 1) := by decide +kernel
theorem dX3_isRest_0 : decode cX3_isRest 0 = .ok (.aload_n 0, 1) := by decide +kernel
theorem dX3_isRest_1 : decode cX3_isRest 1 = .ok (.iload_n 1, 1) := by decide +kernel
theorem dX3_isRest_2 : decode cX3_isRest 2 = .ok (.iload_n 2, 1) := by decide +kernel
theorem dX3_isRest_3 : decode cX3_isRest 3 = .ok (.iload_n 3, 1) := by decide +kernel
theorem dX3_isRest_4 : decode cX3_isRest 4 = .ok (.invokevirtual 136, 3) := by decide +kernel
theorem dX3_isRest_7 : decode cX3_isRest 7 = .ok (.ifCond .eq 17, 3) := by decide +kernel
theorem dX3_isRest_10 : decode cX3_isRest 10 = .ok (.aload_n 0, 1) := by decide +kernel
theorem dX3_isRest_11 : decode cX3_isRest 11 = .ok (.iload_n 1, 1) := by decide +kernel
theorem dX3_isRest_12 : decode cX3_isRest 12 = .ok (.iload_n 3, 1) := by decide +kernel
theorem dX3_isRest_13 : decode cX3_isRest 13 = .ok (.iload_n 2, 1) := by decide +kernel
theorem dX3_isRest_14 : decode cX3_isRest 14 = .ok (.invokevirtual 136, 3) := by decide +kernel
theorem dX3_isRest_17 : decode cX3_isRest 17 = .ok (.ifCond .eq 7, 3) := by decide +kernel
theorem dX3_isRest_20 : decode cX3_isRest 20 = .ok (.iconst 1, 1) := by decide +kernel
theorem dX3_isRest_21 : decode cX3_isRest 21 = .ok (.goto 4, 3) := by decide +kernel
theorem dX3_isRest_24 : decode cX3_isRest 24 = .ok (.iconst 0, 1) := by decide +kernel
theorem dX3_isRest_25 : decode cX3_isRest 25 = .ok (.ireturn, 1) := by decide +kernel
theorem dX3_isBestAgainst_0 : decode cX3_isBestAgainst 0 = .ok (.iload_n 3, 1) := by decide +kernel
theorem dX3_isBestAgainst_1 : decode cX3_isBestAgainst 1 = .ok (.ifCond .lt 32, 3) := by decide +kernel
theorem dX3_isBestAgainst_4 : decode cX3_isBestAgainst 4 = .ok (.iload_n 3, 1) := by decide +kernel
theorem dX3_isBestAgainst_5 : decode cX3_isBestAgainst 5 = .ok (.aload_n 0, 1) := by decide +kernel
theorem dX3_isBestAgainst_6 : decode cX3_isBestAgainst 6 = .ok (.getfield 18, 3) := by decide +kernel
theorem dX3_isBestAgainst_9 : decode cX3_isBestAgainst 9 = .ok (.arraylength, 1) := by decide +kernel
theorem dX3_isBestAgainst_10 : decode cX3_isBestAgainst 10 = .ok (.if_icmp .ge 23, 3) := by decide +kernel
theorem dX3_isBestAgainst_13 : decode cX3_isBestAgainst 13 = .ok (.aload_n 0, 1) := by decide +kernel
theorem dX3_isBestAgainst_14 : decode cX3_isBestAgainst 14 = .ok (.iload_n 1, 1) := by decide +kernel
theorem dX3_isBestAgainst_15 : decode cX3_isBestAgainst 15 = .ok (.iload_n 2, 1) := by decide +kernel
theorem dX3_isBestAgainst_16 : decode cX3_isBestAgainst 16 = .ok (.iload_n 3, 1) := by decide +kernel
theorem dX3_isBestAgainst_17 : decode cX3_isBestAgainst 17 = .ok (.invokevirtual 115, 3) := by decide +kernel
theorem dX3_isBestAgainst_20 : decode cX3_isBestAgainst 20 = .ok (.aload_n 0, 1) := by decide +kernel
theorem dX3_isBestAgainst_21 : decode cX3_isBestAgainst 21 = .ok (.getfield 18, 3) := by decide +kernel
theorem dX3_isBestAgainst_24 : decode cX3_isBestAgainst 24 = .ok (.iload_n 3, 1) := by decide +kernel
theorem dX3_isBestAgainst_25 : decode cX3_isBestAgainst 25 = .ok (.iaload, 1) := by decide +kernel
theorem dX3_isBestAgainst_26 : decode cX3_isBestAgainst 26 = .ok (.if_icmp .ne 7, 3) := by decide +kernel
theorem dX3_isBestAgainst_29 : decode cX3_isBestAgainst 29 = .ok (.iconst 1, 1) := by decide +kernel
theorem dX3_isBestAgainst_30 : decode cX3_isBestAgainst 30 = .ok (.goto 4, 3) := by decide +kernel
theorem dX3_isBestAgainst_33 : decode cX3_isBestAgainst 33 = .ok (.iconst 0, 1) := by decide +kernel
theorem dX3_isBestAgainst_34 : decode cX3_isBestAgainst 34 = .ok (.ireturn, 1) := by decide +kernel
theorem dX3_keepRest_0 : decode cX3_keepRest 0 = .ok (.aload_n 0, 1) := by decide +kernel
theorem dX3_keepRest_1 : decode cX3_keepRest 1 = .ok (.getfield 119, 3) := by decide +kernel
theorem dX3_keepRest_4 : decode cX3_keepRest 4 = .ok (.ifCond .ne 24, 3) := by decide +kernel
theorem dX3_keepRest_7 : decode cX3_keepRest 7 = .ok (.aload_n 0, 1) := by decide +kernel
theorem dX3_keepRest_8 : decode cX3_keepRest 8 = .ok (.bipush 100, 2) := by decide +kernel
theorem dX3_keepRest_10 : decode cX3_keepRest 10 = .ok (.iload_n 2, 1) := by decide +kernel
theorem dX3_keepRest_11 : decode cX3_keepRest 11 = .ok (.imul, 1) := by decide +kernel
theorem dX3_keepRest_12 : decode cX3_keepRest 12 = .ok (.iload_n 3, 1) := by decide +kernel
theorem dX3_keepRest_13 : decode cX3_keepRest 13 = .ok (.iadd, 1) := by decide +kernel
theorem dX3_keepRest_14 : decode cX3_keepRest 14 = .ok (.putfield 122, 3) := by decide +kernel
theorem dX3_keepRest_17 : decode cX3_keepRest 17 = .ok (.aload_n 0, 1) := by decide +kernel
theorem dX3_keepRest_18 : decode cX3_keepRest 18 = .ok (.aload_n 0, 1) := by decide +kernel
theorem dX3_keepRest_19 : decode cX3_keepRest 19 = .ok (.iload_n 1, 1) := by decide +kernel
theorem dX3_keepRest_20 : decode cX3_keepRest 20 = .ok (.iload_n 2, 1) := by decide +kernel
theorem dX3_keepRest_21 : decode cX3_keepRest 21 = .ok (.iload_n 3, 1) := by decide +kernel
theorem dX3_keepRest_22 : decode cX3_keepRest 22 = .ok (.invokevirtual 115, 3) := by decide +kernel
theorem dX3_keepRest_25 : decode cX3_keepRest 25 = .ok (.putfield 125, 3) := by decide +kernel
theorem dX3_keepRest_28 : decode cX3_keepRest 28 = .ok (.aload_n 0, 1) := by decide +kernel
theorem dX3_keepRest_29 : decode cX3_keepRest 29 = .ok (.dup, 1) := by decide +kernel
theorem dX3_keepRest_30 : decode cX3_keepRest 30 = .ok (.getfield 119, 3) := by decide +kernel
theorem dX3_keepRest_33 : decode cX3_keepRest 33 = .ok (.iconst 1, 1) := by decide +kernel
theorem dX3_keepRest_34 : decode cX3_keepRest 34 = .ok (.iadd, 1) := by decide +kernel
theorem dX3_keepRest_35 : decode cX3_keepRest 35 = .ok (.putfield 119, 3) := by decide +kernel
theorem dX3_keepRest_38 : decode cX3_keepRest 38 = .ok (.return_, 1) := by decide +kernel
theorem dX4_init_0 : decode cX4_init 0 = .ok (.aload_n 0, 1) := by decide +kernel
theorem dX4_init_1 : decode cX4_init 1 = .ok (.invokespecial 5, 3) := by decide +kernel
theorem dX4_init_4 : decode cX4_init 4 = .ok (.aload_n 0, 1) := by decide +kernel
theorem dX4_init_5 : decode cX4_init 5 = .ok (.bipush 12, 2) := by decide +kernel
theorem dX4_init_7 : decode cX4_init 7 = .ok (.newarray .int, 2) := by decide +kernel
theorem dX4_init_9 : decode cX4_init 9 = .ok (.putfield 11, 3) := by decide +kernel
theorem dX4_init_12 : decode cX4_init 12 = .ok (.aload_n 0, 1) := by decide +kernel
theorem dX4_init_13 : decode cX4_init 13 = .ok (.bipush 12, 2) := by decide +kernel
theorem dX4_init_15 : decode cX4_init 15 = .ok (.newarray .int, 2) := by decide +kernel
theorem dX4_init_17 : decode cX4_init 17 = .ok (.putfield 15, 3) := by decide +kernel
theorem dX4_init_20 : decode cX4_init 20 = .ok (.aload_n 0, 1) := by decide +kernel
theorem dX4_init_21 : decode cX4_init 21 = .ok (.bipush 12, 2) := by decide +kernel
theorem dX4_init_23 : decode cX4_init 23 = .ok (.newarray .int, 2) := by decide +kernel
theorem dX4_init_25 : decode cX4_init 25 = .ok (.putfield 18, 3) := by decide +kernel
theorem dX4_init_28 : decode cX4_init 28 = .ok (.aload_n 0, 1) := by decide +kernel
theorem dX4_init_29 : decode cX4_init 29 = .ok (.aload_n 1, 1) := by decide +kernel
theorem dX4_init_30 : decode cX4_init 30 = .ok (.putfield 21, 3) := by decide +kernel
theorem dX4_init_33 : decode cX4_init 33 = .ok (.return_, 1) := by decide +kernel
theorem dX4_nightOf_0 : decode cX4_nightOf 0 = .ok (.iconst 0, 1) := by decide +kernel
theorem dX4_nightOf_1 : decode cX4_nightOf 1 = .ok (.istore_n 2, 1) := by decide +kernel
theorem dX4_nightOf_2 : decode cX4_nightOf 2 = .ok (.iload_n 2, 1) := by decide +kernel
theorem dX4_nightOf_3 : decode cX4_nightOf 3 = .ok (.aload_n 0, 1) := by decide +kernel
theorem dX4_nightOf_4 : decode cX4_nightOf 4 = .ok (.getfield 25, 3) := by decide +kernel
theorem dX4_nightOf_7 : decode cX4_nightOf 7 = .ok (.if_icmp .ge 47, 3) := by decide +kernel
theorem dX4_nightOf_10 : decode cX4_nightOf 10 = .ok (.iload_n 2, 1) := by decide +kernel
theorem dX4_nightOf_11 : decode cX4_nightOf 11 = .ok (.aload_n 0, 1) := by decide +kernel
theorem dX4_nightOf_12 : decode cX4_nightOf 12 = .ok (.getfield 11, 3) := by decide +kernel
theorem dX4_nightOf_15 : decode cX4_nightOf 15 = .ok (.arraylength, 1) := by decide +kernel
theorem dX4_nightOf_16 : decode cX4_nightOf 16 = .ok (.if_icmp .ge 38, 3) := by decide +kernel
theorem dX4_nightOf_19 : decode cX4_nightOf 19 = .ok (.aload_n 0, 1) := by decide +kernel
theorem dX4_nightOf_20 : decode cX4_nightOf 20 = .ok (.getfield 11, 3) := by decide +kernel
theorem dX4_nightOf_23 : decode cX4_nightOf 23 = .ok (.iload_n 2, 1) := by decide +kernel
theorem dX4_nightOf_24 : decode cX4_nightOf 24 = .ok (.iaload, 1) := by decide +kernel
theorem dX4_nightOf_25 : decode cX4_nightOf 25 = .ok (.iload_n 1, 1) := by decide +kernel
theorem dX4_nightOf_26 : decode cX4_nightOf 26 = .ok (.if_icmp .ne 22, 3) := by decide +kernel
theorem dX4_nightOf_29 : decode cX4_nightOf 29 = .ok (.aload_n 0, 1) := by decide +kernel
theorem dX4_nightOf_30 : decode cX4_nightOf 30 = .ok (.getfield 29, 3) := by decide +kernel
theorem dX4_nightOf_33 : decode cX4_nightOf 33 = .ok (.iconst (-1), 1) := by decide +kernel
theorem dX4_nightOf_34 : decode cX4_nightOf 34 = .ok (.if_icmp .ne 7, 3) := by decide +kernel
theorem dX4_nightOf_37 : decode cX4_nightOf 37 = .ok (.iconst (-1), 1) := by decide +kernel
theorem dX4_nightOf_38 : decode cX4_nightOf 38 = .ok (.goto 9, 3) := by decide +kernel
theorem dX4_nightOf_41 : decode cX4_nightOf 41 = .ok (.aload_n 0, 1) := by decide +kernel
theorem dX4_nightOf_42 : decode cX4_nightOf 42 = .ok (.getfield 18, 3) := by decide +kernel
theorem dX4_nightOf_45 : decode cX4_nightOf 45 = .ok (.iload_n 2, 1) := by decide +kernel
theorem dX4_nightOf_46 : decode cX4_nightOf 46 = .ok (.iaload, 1) := by decide +kernel
theorem dX4_nightOf_47 : decode cX4_nightOf 47 = .ok (.ireturn, 1) := by decide +kernel
theorem dX4_nightOf_48 : decode cX4_nightOf 48 = .ok (.iinc 2 1, 3) := by decide +kernel
theorem dX4_nightOf_51 : decode cX4_nightOf 51 = .ok (.goto (-49), 3) := by decide +kernel
theorem dX4_nightOf_54 : decode cX4_nightOf 54 = .ok (.iconst (-1), 1) := by decide +kernel
theorem dX4_nightOf_55 : decode cX4_nightOf 55 = .ok (.ireturn, 1) := by decide +kernel
theorem dX4_pack_0 : decode cX4_pack 0 = .ok (.aload_n 0, 1) := by decide +kernel
theorem dX4_pack_1 : decode cX4_pack 1 = .ok (.iload_n 1, 1) := by decide +kernel
theorem dX4_pack_2 : decode cX4_pack 2 = .ok (.invokevirtual 32, 3) := by decide +kernel
theorem dX4_pack_5 : decode cX4_pack 5 = .ok (.aload_n 0, 1) := by decide +kernel
theorem dX4_pack_6 : decode cX4_pack 6 = .ok (.getfield 15, 3) := by decide +kernel
theorem dX4_pack_9 : decode cX4_pack 9 = .ok (.iconst 0, 1) := by decide +kernel
theorem dX4_pack_10 : decode cX4_pack 10 = .ok (.invokestatic 36, 3) := by decide +kernel
theorem dX4_pack_13 : decode cX4_pack 13 = .ok (.aload_n 0, 1) := by decide +kernel
theorem dX4_pack_14 : decode cX4_pack 14 = .ok (.iconst 0, 1) := by decide +kernel
theorem dX4_pack_15 : decode cX4_pack 15 = .ok (.iload_n 2, 1) := by decide +kernel
theorem dX4_pack_16 : decode cX4_pack 16 = .ok (.aload_n 0, 1) := by decide +kernel
theorem dX4_pack_17 : decode cX4_pack 17 = .ok (.getfield 25, 3) := by decide +kernel
theorem dX4_pack_20 : decode cX4_pack 20 = .ok (.invokevirtual 42, 3) := by decide +kernel
theorem dX4_pack_23 : decode cX4_pack 23 = .ok (.istore_n 3, 1) := by decide +kernel
theorem dX4_pack_24 : decode cX4_pack 24 = .ok (.aload_n 0, 1) := by decide +kernel
theorem dX4_pack_25 : decode cX4_pack 25 = .ok (.iload_n 3, 1) := by decide +kernel
theorem dX4_pack_26 : decode cX4_pack 26 = .ok (.sipush 1024, 3) := by decide +kernel
theorem dX4_pack_29 : decode cX4_pack 29 = .ok (.if_icmp .ne 7, 3) := by decide +kernel
theorem dX4_pack_32 : decode cX4_pack 32 = .ok (.iconst (-1), 1) := by decide +kernel
theorem dX4_pack_33 : decode cX4_pack 33 = .ok (.goto 4, 3) := by decide +kernel
theorem dX4_pack_36 : decode cX4_pack 36 = .ok (.iload_n 3, 1) := by decide +kernel
theorem dX4_pack_37 : decode cX4_pack 37 = .ok (.putfield 29, 3) := by decide +kernel
theorem dX4_pack_40 : decode cX4_pack 40 = .ok (.aload_n 0, 1) := by decide +kernel
theorem dX4_pack_41 : decode cX4_pack 41 = .ok (.getfield 29, 3) := by decide +kernel
theorem dX4_pack_44 : decode cX4_pack 44 = .ok (.iconst (-1), 1) := by decide +kernel
theorem dX4_pack_45 : decode cX4_pack 45 = .ok (.if_icmp .ne 4, 3) := by decide +kernel
theorem dX4_pack_48 : decode cX4_pack 48 = .ok (.return_, 1) := by decide +kernel
theorem dX4_pack_49 : decode cX4_pack 49 = .ok (.iconst 0, 1) := by decide +kernel
theorem dX4_pack_50 : decode cX4_pack 50 = .ok (.istore 4, 2) := by decide +kernel
theorem dX4_pack_52 : decode cX4_pack 52 = .ok (.iload 4, 2) := by decide +kernel
theorem dX4_pack_54 : decode cX4_pack 54 = .ok (.aload_n 0, 1) := by decide +kernel
theorem dX4_pack_55 : decode cX4_pack 55 = .ok (.getfield 25, 3) := by decide +kernel
theorem dX4_pack_58 : decode cX4_pack 58 = .ok (.if_icmp .ge 33, 3) := by decide +kernel
theorem dX4_pack_61 : decode cX4_pack 61 = .ok (.iload 4, 2) := by decide +kernel
theorem dX4_pack_63 : decode cX4_pack 63 = .ok (.aload_n 0, 1) := by decide +kernel
theorem dX4_pack_64 : decode cX4_pack 64 = .ok (.getfield 11, 3) := by decide +kernel
theorem dX4_pack_67 : decode cX4_pack 67 = .ok (.arraylength, 1) := by decide +kernel
theorem dX4_pack_68 : decode cX4_pack 68 = .ok (.if_icmp .ge 23, 3) := by decide +kernel
theorem dX4_pack_71 : decode cX4_pack 71 = .ok (.aload_n 0, 1) := by decide +kernel
theorem dX4_pack_72 : decode cX4_pack 72 = .ok (.getfield 18, 3) := by decide +kernel
theorem dX4_pack_75 : decode cX4_pack 75 = .ok (.iload 4, 2) := by decide +kernel
theorem dX4_pack_77 : decode cX4_pack 77 = .ok (.aload_n 0, 1) := by decide +kernel
theorem dX4_pack_78 : decode cX4_pack 78 = .ok (.iload 4, 2) := by decide +kernel
theorem dX4_pack_80 : decode cX4_pack 80 = .ok (.iload_n 2, 1) := by decide +kernel
theorem dX4_pack_81 : decode cX4_pack 81 = .ok (.invokevirtual 46, 3) := by decide +kernel
theorem dX4_pack_84 : decode cX4_pack 84 = .ok (.iastore, 1) := by decide +kernel
theorem dX4_pack_85 : decode cX4_pack 85 = .ok (.iinc 4 1, 3) := by decide +kernel
theorem dX4_pack_88 : decode cX4_pack 88 = .ok (.goto (-36), 3) := by decide +kernel
theorem dX4_pack_91 : decode cX4_pack 91 = .ok (.return_, 1) := by decide +kernel
theorem dX4_gather_0 : decode cX4_gather 0 = .ok (.aload_n 0, 1) := by decide +kernel
theorem dX4_gather_1 : decode cX4_gather 1 = .ok (.iconst 0, 1) := by decide +kernel
theorem dX4_gather_2 : decode cX4_gather 2 = .ok (.putfield 25, 3) := by decide +kernel
theorem dX4_gather_5 : decode cX4_gather 5 = .ok (.iconst 0, 1) := by decide +kernel
theorem dX4_gather_6 : decode cX4_gather 6 = .ok (.istore_n 2, 1) := by decide +kernel
theorem dX4_gather_7 : decode cX4_gather 7 = .ok (.iload_n 2, 1) := by decide +kernel
theorem dX4_gather_8 : decode cX4_gather 8 = .ok (.aload_n 0, 1) := by decide +kernel
theorem dX4_gather_9 : decode cX4_gather 9 = .ok (.getfield 21, 3) := by decide +kernel
theorem dX4_gather_12 : decode cX4_gather 12 = .ok (.getfield 50, 3) := by decide +kernel
theorem dX4_gather_15 : decode cX4_gather 15 = .ok (.getfield 56, 3) := by decide +kernel
theorem dX4_gather_18 : decode cX4_gather 18 = .ok (.getfield 62, 3) := by decide +kernel
theorem dX4_gather_21 : decode cX4_gather 21 = .ok (.if_icmp .ge 60, 3) := by decide +kernel
theorem dX4_gather_24 : decode cX4_gather 24 = .ok (.aload_n 0, 1) := by decide +kernel
theorem dX4_gather_25 : decode cX4_gather 25 = .ok (.getfield 21, 3) := by decide +kernel
theorem dX4_gather_28 : decode cX4_gather 28 = .ok (.getfield 50, 3) := by decide +kernel
theorem dX4_gather_31 : decode cX4_gather 31 = .ok (.getfield 56, 3) := by decide +kernel
theorem dX4_gather_34 : decode cX4_gather 34 = .ok (.iload_n 2, 1) := by decide +kernel
theorem dX4_gather_35 : decode cX4_gather 35 = .ok (.iconst 0, 1) := by decide +kernel
theorem dX4_gather_36 : decode cX4_gather 36 = .ok (.invokevirtual 67, 3) := by decide +kernel
theorem dX4_gather_39 : decode cX4_gather 39 = .ok (.iload_n 1, 1) := by decide +kernel
theorem dX4_gather_40 : decode cX4_gather 40 = .ok (.if_icmp .ne 35, 3) := by decide +kernel
theorem dX4_gather_43 : decode cX4_gather 43 = .ok (.aload_n 0, 1) := by decide +kernel
theorem dX4_gather_44 : decode cX4_gather 44 = .ok (.getfield 25, 3) := by decide +kernel
theorem dX4_gather_47 : decode cX4_gather 47 = .ok (.aload_n 0, 1) := by decide +kernel
theorem dX4_gather_48 : decode cX4_gather 48 = .ok (.getfield 11, 3) := by decide +kernel
theorem dX4_gather_51 : decode cX4_gather 51 = .ok (.arraylength, 1) := by decide +kernel
theorem dX4_gather_52 : decode cX4_gather 52 = .ok (.if_icmp .ge 23, 3) := by decide +kernel
theorem dX4_gather_55 : decode cX4_gather 55 = .ok (.aload_n 0, 1) := by decide +kernel
theorem dX4_gather_56 : decode cX4_gather 56 = .ok (.getfield 11, 3) := by decide +kernel
theorem dX4_gather_59 : decode cX4_gather 59 = .ok (.aload_n 0, 1) := by decide +kernel
theorem dX4_gather_60 : decode cX4_gather 60 = .ok (.getfield 25, 3) := by decide +kernel
theorem dX4_gather_63 : decode cX4_gather 63 = .ok (.iload_n 2, 1) := by decide +kernel
theorem dX4_gather_64 : decode cX4_gather 64 = .ok (.iastore, 1) := by decide +kernel
theorem dX4_gather_65 : decode cX4_gather 65 = .ok (.aload_n 0, 1) := by decide +kernel
theorem dX4_gather_66 : decode cX4_gather 66 = .ok (.dup, 1) := by decide +kernel
theorem dX4_gather_67 : decode cX4_gather 67 = .ok (.getfield 25, 3) := by decide +kernel
theorem dX4_gather_70 : decode cX4_gather 70 = .ok (.iconst 1, 1) := by decide +kernel
theorem dX4_gather_71 : decode cX4_gather 71 = .ok (.iadd, 1) := by decide +kernel
theorem dX4_gather_72 : decode cX4_gather 72 = .ok (.putfield 25, 3) := by decide +kernel
theorem dX4_gather_75 : decode cX4_gather 75 = .ok (.iinc 2 1, 3) := by decide +kernel
theorem dX4_gather_78 : decode cX4_gather 78 = .ok (.goto (-71), 3) := by decide +kernel
theorem dX4_gather_81 : decode cX4_gather 81 = .ok (.return_, 1) := by decide +kernel
theorem dX4_hoursOf_0 : decode cX4_hoursOf 0 = .ok (.iload_n 1, 1) := by decide +kernel
theorem dX4_hoursOf_1 : decode cX4_hoursOf 1 = .ok (.ifCond .lt 35, 3) := by decide +kernel
theorem dX4_hoursOf_4 : decode cX4_hoursOf 4 = .ok (.iload_n 1, 1) := by decide +kernel
theorem dX4_hoursOf_5 : decode cX4_hoursOf 5 = .ok (.aload_n 0, 1) := by decide +kernel
theorem dX4_hoursOf_6 : decode cX4_hoursOf 6 = .ok (.getfield 11, 3) := by decide +kernel
theorem dX4_hoursOf_9 : decode cX4_hoursOf 9 = .ok (.arraylength, 1) := by decide +kernel
theorem dX4_hoursOf_10 : decode cX4_hoursOf 10 = .ok (.if_icmp .ge 26, 3) := by decide +kernel
theorem dX4_hoursOf_13 : decode cX4_hoursOf 13 = .ok (.aload_n 0, 1) := by decide +kernel
theorem dX4_hoursOf_14 : decode cX4_hoursOf 14 = .ok (.getfield 21, 3) := by decide +kernel
theorem dX4_hoursOf_17 : decode cX4_hoursOf 17 = .ok (.getfield 50, 3) := by decide +kernel
theorem dX4_hoursOf_20 : decode cX4_hoursOf 20 = .ok (.getfield 56, 3) := by decide +kernel
theorem dX4_hoursOf_23 : decode cX4_hoursOf 23 = .ok (.aload_n 0, 1) := by decide +kernel
theorem dX4_hoursOf_24 : decode cX4_hoursOf 24 = .ok (.getfield 11, 3) := by decide +kernel
theorem dX4_hoursOf_27 : decode cX4_hoursOf 27 = .ok (.iload_n 1, 1) := by decide +kernel
theorem dX4_hoursOf_28 : decode cX4_hoursOf 28 = .ok (.iaload, 1) := by decide +kernel
theorem dX4_hoursOf_29 : decode cX4_hoursOf 29 = .ok (.iconst 1, 1) := by decide +kernel
theorem dX4_hoursOf_30 : decode cX4_hoursOf 30 = .ok (.invokevirtual 67, 3) := by decide +kernel
theorem dX4_hoursOf_33 : decode cX4_hoursOf 33 = .ok (.goto 4, 3) := by decide +kernel
theorem dX4_hoursOf_36 : decode cX4_hoursOf 36 = .ok (.iconst 0, 1) := by decide +kernel
theorem dX4_hoursOf_37 : decode cX4_hoursOf 37 = .ok (.ireturn, 1) := by decide +kernel
theorem dX4_takenOf_0 : decode cX4_takenOf 0 = .ok (.iload_n 1, 1) := by decide +kernel
theorem dX4_takenOf_1 : decode cX4_takenOf 1 = .ok (.ifCond .lt 21, 3) := by decide +kernel
theorem dX4_takenOf_4 : decode cX4_takenOf 4 = .ok (.iload_n 1, 1) := by decide +kernel
theorem dX4_takenOf_5 : decode cX4_takenOf 5 = .ok (.aload_n 0, 1) := by decide +kernel
theorem dX4_takenOf_6 : decode cX4_takenOf 6 = .ok (.getfield 15, 3) := by decide +kernel
theorem dX4_takenOf_9 : decode cX4_takenOf 9 = .ok (.arraylength, 1) := by decide +kernel
theorem dX4_takenOf_10 : decode cX4_takenOf 10 = .ok (.if_icmp .ge 12, 3) := by decide +kernel
theorem dX4_takenOf_13 : decode cX4_takenOf 13 = .ok (.aload_n 0, 1) := by decide +kernel
theorem dX4_takenOf_14 : decode cX4_takenOf 14 = .ok (.getfield 15, 3) := by decide +kernel
theorem dX4_takenOf_17 : decode cX4_takenOf 17 = .ok (.iload_n 1, 1) := by decide +kernel
theorem dX4_takenOf_18 : decode cX4_takenOf 18 = .ok (.iaload, 1) := by decide +kernel
theorem dX4_takenOf_19 : decode cX4_takenOf 19 = .ok (.goto 5, 3) := by decide +kernel
theorem dX4_takenOf_22 : decode cX4_takenOf 22 = .ok (.bipush 25, 2) := by decide +kernel
theorem dX4_takenOf_24 : decode cX4_takenOf 24 = .ok (.ireturn, 1) := by decide +kernel
theorem dX4_take_0 : decode cX4_take 0 = .ok (.iload_n 1, 1) := by decide +kernel
theorem dX4_take_1 : decode cX4_take 1 = .ok (.ifCond .lt 22, 3) := by decide +kernel
theorem dX4_take_4 : decode cX4_take 4 = .ok (.iload_n 1, 1) := by decide +kernel
theorem dX4_take_5 : decode cX4_take 5 = .ok (.aload_n 0, 1) := by decide +kernel
theorem dX4_take_6 : decode cX4_take 6 = .ok (.getfield 15, 3) := by decide +kernel
theorem dX4_take_9 : decode cX4_take 9 = .ok (.arraylength, 1) := by decide +kernel
theorem dX4_take_10 : decode cX4_take 10 = .ok (.if_icmp .ge 13, 3) := by decide +kernel
theorem dX4_take_13 : decode cX4_take 13 = .ok (.aload_n 0, 1) := by decide +kernel
theorem dX4_take_14 : decode cX4_take 14 = .ok (.getfield 15, 3) := by decide +kernel
theorem dX4_take_17 : decode cX4_take 17 = .ok (.iload_n 1, 1) := by decide +kernel
theorem dX4_take_18 : decode cX4_take 18 = .ok (.dup2, 1) := by decide +kernel
theorem dX4_take_19 : decode cX4_take 19 = .ok (.iaload, 1) := by decide +kernel
theorem dX4_take_20 : decode cX4_take 20 = .ok (.iload_n 2, 1) := by decide +kernel
theorem dX4_take_21 : decode cX4_take 21 = .ok (.iadd, 1) := by decide +kernel
theorem dX4_take_22 : decode cX4_take 22 = .ok (.iastore, 1) := by decide +kernel
theorem dX4_take_23 : decode cX4_take 23 = .ok (.return_, 1) := by decide +kernel
theorem dX4_leastNight_0 : decode cX4_leastNight 0 = .ok (.aload_n 0, 1) := by decide +kernel
theorem dX4_leastNight_1 : decode cX4_leastNight 1 = .ok (.iload_n 1, 1) := by decide +kernel
theorem dX4_leastNight_2 : decode cX4_leastNight 2 = .ok (.invokevirtual 70, 3) := by decide +kernel
theorem dX4_leastNight_5 : decode cX4_leastNight 5 = .ok (.istore_n 3, 1) := by decide +kernel
theorem dX4_leastNight_6 : decode cX4_leastNight 6 = .ok (.iconst 0, 1) := by decide +kernel
theorem dX4_leastNight_7 : decode cX4_leastNight 7 = .ok (.istore 4, 2) := by decide +kernel
theorem dX4_leastNight_9 : decode cX4_leastNight 9 = .ok (.iload 4, 2) := by decide +kernel
theorem dX4_leastNight_11 : decode cX4_leastNight 11 = .ok (.aload_n 0, 1) := by decide +kernel
theorem dX4_leastNight_12 : decode cX4_leastNight 12 = .ok (.getfield 29, 3) := by decide +kernel
theorem dX4_leastNight_15 : decode cX4_leastNight 15 = .ok (.if_icmp .ge 57, 3) := by decide +kernel
theorem dX4_leastNight_18 : decode cX4_leastNight 18 = .ok (.aload_n 0, 1) := by decide +kernel
theorem dX4_leastNight_19 : decode cX4_leastNight 19 = .ok (.iload 4, 2) := by decide +kernel
theorem dX4_leastNight_21 : decode cX4_leastNight 21 = .ok (.invokevirtual 74, 3) := by decide +kernel
theorem dX4_leastNight_24 : decode cX4_leastNight 24 = .ok (.iload_n 3, 1) := by decide +kernel
theorem dX4_leastNight_25 : decode cX4_leastNight 25 = .ok (.iadd, 1) := by decide +kernel
theorem dX4_leastNight_26 : decode cX4_leastNight 26 = .ok (.iload_n 2, 1) := by decide +kernel
theorem dX4_leastNight_27 : decode cX4_leastNight 27 = .ok (.if_icmp .gt 39, 3) := by decide +kernel
theorem dX4_leastNight_30 : decode cX4_leastNight 30 = .ok (.aload_n 0, 1) := by decide +kernel
theorem dX4_leastNight_31 : decode cX4_leastNight 31 = .ok (.iload 4, 2) := by decide +kernel
theorem dX4_leastNight_33 : decode cX4_leastNight 33 = .ok (.iload_n 3, 1) := by decide +kernel
theorem dX4_leastNight_34 : decode cX4_leastNight 34 = .ok (.invokevirtual 77, 3) := by decide +kernel
theorem dX4_leastNight_37 : decode cX4_leastNight 37 = .ok (.aload_n 0, 1) := by decide +kernel
theorem dX4_leastNight_38 : decode cX4_leastNight 38 = .ok (.iload_n 1, 1) := by decide +kernel
theorem dX4_leastNight_39 : decode cX4_leastNight 39 = .ok (.iconst 1, 1) := by decide +kernel
theorem dX4_leastNight_40 : decode cX4_leastNight 40 = .ok (.iadd, 1) := by decide +kernel
theorem dX4_leastNight_41 : decode cX4_leastNight 41 = .ok (.iload_n 2, 1) := by decide +kernel
theorem dX4_leastNight_42 : decode cX4_leastNight 42 = .ok (.aload_n 0, 1) := by decide +kernel
theorem dX4_leastNight_43 : decode cX4_leastNight 43 = .ok (.getfield 29, 3) := by decide +kernel
theorem dX4_leastNight_46 : decode cX4_leastNight 46 = .ok (.invokevirtual 42, 3) := by decide +kernel
theorem dX4_leastNight_49 : decode cX4_leastNight 49 = .ok (.sipush 1024, 3) := by decide +kernel
theorem dX4_leastNight_52 : decode cX4_leastNight 52 = .ok (.if_icmp .eq 6, 3) := by decide +kernel
theorem dX4_leastNight_55 : decode cX4_leastNight 55 = .ok (.iload 4, 2) := by decide +kernel
theorem dX4_leastNight_57 : decode cX4_leastNight 57 = .ok (.ireturn, 1) := by decide +kernel
theorem dX4_leastNight_58 : decode cX4_leastNight 58 = .ok (.aload_n 0, 1) := by decide +kernel
theorem dX4_leastNight_59 : decode cX4_leastNight 59 = .ok (.iload 4, 2) := by decide +kernel
theorem dX4_leastNight_61 : decode cX4_leastNight 61 = .ok (.iload_n 3, 1) := by decide +kernel
theorem dX4_leastNight_62 : decode cX4_leastNight 62 = .ok (.ineg, 1) := by decide +kernel
theorem dX4_leastNight_63 : decode cX4_leastNight 63 = .ok (.invokevirtual 77, 3) := by decide +kernel
theorem dX4_leastNight_66 : decode cX4_leastNight 66 = .ok (.iinc 4 1, 3) := by decide +kernel
theorem dX4_leastNight_69 : decode cX4_leastNight 69 = .ok (.goto (-60), 3) := by decide +kernel
theorem dX4_leastNight_72 : decode cX4_leastNight 72 = .ok (.iconst (-1), 1) := by decide +kernel
theorem dX4_leastNight_73 : decode cX4_leastNight 73 = .ok (.ireturn, 1) := by decide +kernel
theorem dX4_lastNight_0 : decode cX4_lastNight 0 = .ok (.aload_n 0, 1) := by decide +kernel
theorem dX4_lastNight_1 : decode cX4_lastNight 1 = .ok (.getfield 25, 3) := by decide +kernel
theorem dX4_lastNight_4 : decode cX4_lastNight 4 = .ok (.iload_n 1, 1) := by decide +kernel
theorem dX4_lastNight_5 : decode cX4_lastNight 5 = .ok (.isub, 1) := by decide +kernel
theorem dX4_lastNight_6 : decode cX4_lastNight 6 = .ok (.istore 4, 2) := by decide +kernel
theorem dX4_lastNight_8 : decode cX4_lastNight 8 = .ok (.iload 4, 2) := by decide +kernel
theorem dX4_lastNight_10 : decode cX4_lastNight 10 = .ok (.ifCond .gt 5, 3) := by decide +kernel
theorem dX4_lastNight_13 : decode cX4_lastNight 13 = .ok (.iconst 0, 1) := by decide +kernel
theorem dX4_lastNight_14 : decode cX4_lastNight 14 = .ok (.ireturn, 1) := by decide +kernel
theorem dX4_lastNight_15 : decode cX4_lastNight 15 = .ok (.aload_n 0, 1) := by decide +kernel
theorem dX4_lastNight_16 : decode cX4_lastNight 16 = .ok (.getfield 81, 3) := by decide +kernel
theorem dX4_lastNight_19 : decode cX4_lastNight 19 = .ok (.ifnonnull 12, 3) := by decide +kernel
theorem dX4_lastNight_22 : decode cX4_lastNight 22 = .ok (.aload_n 0, 1) := by decide +kernel
theorem dX4_lastNight_23 : decode cX4_lastNight 23 = .ok (.sipush 4096, 3) := by decide +kernel
theorem dX4_lastNight_26 : decode cX4_lastNight 26 = .ok (.newarray .int, 2) := by decide +kernel
theorem dX4_lastNight_28 : decode cX4_lastNight 28 = .ok (.putfield 81, 3) := by decide +kernel
theorem dX4_lastNight_31 : decode cX4_lastNight 31 = .ok (.aload_n 0, 1) := by decide +kernel
theorem dX4_lastNight_32 : decode cX4_lastNight 32 = .ok (.getfield 81, 3) := by decide +kernel
theorem dX4_lastNight_35 : decode cX4_lastNight 35 = .ok (.iconst 0, 1) := by decide +kernel
theorem dX4_lastNight_36 : decode cX4_lastNight 36 = .ok (.aload_n 0, 1) := by decide +kernel
theorem dX4_lastNight_37 : decode cX4_lastNight 37 = .ok (.iconst 0, 1) := by decide +kernel
theorem dX4_lastNight_38 : decode cX4_lastNight 38 = .ok (.invokevirtual 74, 3) := by decide +kernel
theorem dX4_lastNight_41 : decode cX4_lastNight 41 = .ok (.iastore, 1) := by decide +kernel
theorem dX4_lastNight_42 : decode cX4_lastNight 42 = .ok (.iconst 1, 1) := by decide +kernel
theorem dX4_lastNight_43 : decode cX4_lastNight 43 = .ok (.iload 4, 2) := by decide +kernel
theorem dX4_lastNight_45 : decode cX4_lastNight 45 = .ok (.ishl, 1) := by decide +kernel
theorem dX4_lastNight_46 : decode cX4_lastNight 46 = .ok (.aload_n 0, 1) := by decide +kernel
theorem dX4_lastNight_47 : decode cX4_lastNight 47 = .ok (.getfield 81, 3) := by decide +kernel
theorem dX4_lastNight_50 : decode cX4_lastNight 50 = .ok (.arraylength, 1) := by decide +kernel
theorem dX4_lastNight_51 : decode cX4_lastNight 51 = .ok (.invokestatic 84, 3) := by decide +kernel
theorem dX4_lastNight_54 : decode cX4_lastNight 54 = .ok (.istore 5, 2) := by decide +kernel
theorem dX4_lastNight_56 : decode cX4_lastNight 56 = .ok (.iconst 1, 1) := by decide +kernel
theorem dX4_lastNight_57 : decode cX4_lastNight 57 = .ok (.istore 6, 2) := by decide +kernel
theorem dX4_lastNight_59 : decode cX4_lastNight 59 = .ok (.iload 6, 2) := by decide +kernel
theorem dX4_lastNight_61 : decode cX4_lastNight 61 = .ok (.iload 5, 2) := by decide +kernel
theorem dX4_lastNight_63 : decode cX4_lastNight 63 = .ok (.if_icmp .ge 25, 3) := by decide +kernel
theorem dX4_lastNight_66 : decode cX4_lastNight 66 = .ok (.aload_n 0, 1) := by decide +kernel
theorem dX4_lastNight_67 : decode cX4_lastNight 67 = .ok (.getfield 81, 3) := by decide +kernel
theorem dX4_lastNight_70 : decode cX4_lastNight 70 = .ok (.iload 6, 2) := by decide +kernel
theorem dX4_lastNight_72 : decode cX4_lastNight 72 = .ok (.aload_n 0, 1) := by decide +kernel
theorem dX4_lastNight_73 : decode cX4_lastNight 73 = .ok (.iload 6, 2) := by decide +kernel
theorem dX4_lastNight_75 : decode cX4_lastNight 75 = .ok (.iload_n 1, 1) := by decide +kernel
theorem dX4_lastNight_76 : decode cX4_lastNight 76 = .ok (.iload_n 2, 1) := by decide +kernel
theorem dX4_lastNight_77 : decode cX4_lastNight 77 = .ok (.iload_n 3, 1) := by decide +kernel
theorem dX4_lastNight_78 : decode cX4_lastNight 78 = .ok (.invokevirtual 89, 3) := by decide +kernel
theorem dX4_lastNight_81 : decode cX4_lastNight 81 = .ok (.iastore, 1) := by decide +kernel
theorem dX4_lastNight_82 : decode cX4_lastNight 82 = .ok (.iinc 6 1, 3) := by decide +kernel
theorem dX4_lastNight_85 : decode cX4_lastNight 85 = .ok (.goto (-26), 3) := by decide +kernel
theorem dX4_lastNight_88 : decode cX4_lastNight 88 = .ok (.aload_n 0, 1) := by decide +kernel
theorem dX4_lastNight_89 : decode cX4_lastNight 89 = .ok (.getfield 81, 3) := by decide +kernel
theorem dX4_lastNight_92 : decode cX4_lastNight 92 = .ok (.iload 5, 2) := by decide +kernel
theorem dX4_lastNight_94 : decode cX4_lastNight 94 = .ok (.iconst 1, 1) := by decide +kernel
theorem dX4_lastNight_95 : decode cX4_lastNight 95 = .ok (.isub, 1) := by decide +kernel
theorem dX4_lastNight_96 : decode cX4_lastNight 96 = .ok (.iaload, 1) := by decide +kernel
theorem dX4_lastNight_97 : decode cX4_lastNight 97 = .ok (.istore 6, 2) := by decide +kernel
theorem dX4_lastNight_99 : decode cX4_lastNight 99 = .ok (.iload 6, 2) := by decide +kernel
theorem dX4_lastNight_101 : decode cX4_lastNight 101 = .ok (.sipush 1024, 3) := by decide +kernel
theorem dX4_lastNight_104 : decode cX4_lastNight 104 = .ok (.if_icmp .lt 9, 3) := by decide +kernel
theorem dX4_lastNight_107 : decode cX4_lastNight 107 = .ok (.sipush 1024, 3) := by decide +kernel
theorem dX4_lastNight_110 : decode cX4_lastNight 110 = .ok (.goto 10, 3) := by decide +kernel
theorem dX4_lastNight_113 : decode cX4_lastNight 113 = .ok (.iload 6, 2) := by decide +kernel
theorem dX4_lastNight_115 : decode cX4_lastNight 115 = .ok (.bipush 32, 2) := by decide +kernel
theorem dX4_lastNight_117 : decode cX4_lastNight 117 = .ok (.idiv, 1) := by decide +kernel
theorem dX4_lastNight_118 : decode cX4_lastNight 118 = .ok (.iconst 1, 1) := by decide +kernel
theorem dX4_lastNight_119 : decode cX4_lastNight 119 = .ok (.iadd, 1) := by decide +kernel
theorem dX4_lastNight_120 : decode cX4_lastNight 120 = .ok (.ireturn, 1) := by decide +kernel
theorem dX4_bestOfSet_0 : decode cX4_bestOfSet 0 = .ok (.sipush 1024, 3) := by decide +kernel
theorem dX4_bestOfSet_3 : decode cX4_bestOfSet 3 = .ok (.istore 5, 2) := by decide +kernel
theorem dX4_bestOfSet_5 : decode cX4_bestOfSet 5 = .ok (.iconst 0, 1) := by decide +kernel
theorem dX4_bestOfSet_6 : decode cX4_bestOfSet 6 = .ok (.istore 6, 2) := by decide +kernel
theorem dX4_bestOfSet_8 : decode cX4_bestOfSet 8 = .ok (.iload_n 1, 1) := by decide +kernel
theorem dX4_bestOfSet_9 : decode cX4_bestOfSet 9 = .ok (.iload 6, 2) := by decide +kernel
theorem dX4_bestOfSet_11 : decode cX4_bestOfSet 11 = .ok (.ishr, 1) := by decide +kernel
theorem dX4_bestOfSet_12 : decode cX4_bestOfSet 12 = .ok (.ifCond .eq 76, 3) := by decide +kernel
theorem dX4_bestOfSet_15 : decode cX4_bestOfSet 15 = .ok (.iload 6, 2) := by decide +kernel
theorem dX4_bestOfSet_17 : decode cX4_bestOfSet 17 = .ok (.bipush 12, 2) := by decide +kernel
theorem dX4_bestOfSet_19 : decode cX4_bestOfSet 19 = .ok (.if_icmp .ge 69, 3) := by decide +kernel
theorem dX4_bestOfSet_22 : decode cX4_bestOfSet 22 = .ok (.iload_n 1, 1) := by decide +kernel
theorem dX4_bestOfSet_23 : decode cX4_bestOfSet 23 = .ok (.iconst 1, 1) := by decide +kernel
theorem dX4_bestOfSet_24 : decode cX4_bestOfSet 24 = .ok (.iload 6, 2) := by decide +kernel
theorem dX4_bestOfSet_26 : decode cX4_bestOfSet 26 = .ok (.ishl, 1) := by decide +kernel
theorem dX4_bestOfSet_27 : decode cX4_bestOfSet 27 = .ok (.iconst (-1), 1) := by decide +kernel
theorem dX4_bestOfSet_28 : decode cX4_bestOfSet 28 = .ok (.ixor, 1) := by decide +kernel
theorem dX4_bestOfSet_29 : decode cX4_bestOfSet 29 = .ok (.iand, 1) := by decide +kernel
theorem dX4_bestOfSet_30 : decode cX4_bestOfSet 30 = .ok (.istore 7, 2) := by decide +kernel
theorem dX4_bestOfSet_32 : decode cX4_bestOfSet 32 = .ok (.iload 7, 2) := by decide +kernel
theorem dX4_bestOfSet_34 : decode cX4_bestOfSet 34 = .ok (.iload_n 1, 1) := by decide +kernel
theorem dX4_bestOfSet_35 : decode cX4_bestOfSet 35 = .ok (.if_icmp .eq 47, 3) := by decide +kernel
theorem dX4_bestOfSet_38 : decode cX4_bestOfSet 38 = .ok (.iload 7, 2) := by decide +kernel
theorem dX4_bestOfSet_40 : decode cX4_bestOfSet 40 = .ok (.ifCond .lt 42, 3) := by decide +kernel
theorem dX4_bestOfSet_43 : decode cX4_bestOfSet 43 = .ok (.iload 7, 2) := by decide +kernel
theorem dX4_bestOfSet_45 : decode cX4_bestOfSet 45 = .ok (.aload_n 0, 1) := by decide +kernel
theorem dX4_bestOfSet_46 : decode cX4_bestOfSet 46 = .ok (.getfield 81, 3) := by decide +kernel
theorem dX4_bestOfSet_49 : decode cX4_bestOfSet 49 = .ok (.arraylength, 1) := by decide +kernel
theorem dX4_bestOfSet_50 : decode cX4_bestOfSet 50 = .ok (.if_icmp .ge 32, 3) := by decide +kernel
theorem dX4_bestOfSet_53 : decode cX4_bestOfSet 53 = .ok (.iload 5, 2) := by decide +kernel
theorem dX4_bestOfSet_55 : decode cX4_bestOfSet 55 = .ok (.aload_n 0, 1) := by decide +kernel
theorem dX4_bestOfSet_56 : decode cX4_bestOfSet 56 = .ok (.aload_n 0, 1) := by decide +kernel
theorem dX4_bestOfSet_57 : decode cX4_bestOfSet 57 = .ok (.getfield 81, 3) := by decide +kernel
theorem dX4_bestOfSet_60 : decode cX4_bestOfSet 60 = .ok (.iload 7, 2) := by decide +kernel
theorem dX4_bestOfSet_62 : decode cX4_bestOfSet 62 = .ok (.iaload, 1) := by decide +kernel
theorem dX4_bestOfSet_63 : decode cX4_bestOfSet 63 = .ok (.aload_n 0, 1) := by decide +kernel
theorem dX4_bestOfSet_64 : decode cX4_bestOfSet 64 = .ok (.iload_n 2, 1) := by decide +kernel
theorem dX4_bestOfSet_65 : decode cX4_bestOfSet 65 = .ok (.iload 6, 2) := by decide +kernel
theorem dX4_bestOfSet_67 : decode cX4_bestOfSet 67 = .ok (.iadd, 1) := by decide +kernel
theorem dX4_bestOfSet_68 : decode cX4_bestOfSet 68 = .ok (.invokevirtual 70, 3) := by decide +kernel
theorem dX4_bestOfSet_71 : decode cX4_bestOfSet 71 = .ok (.iload_n 3, 1) := by decide +kernel
theorem dX4_bestOfSet_72 : decode cX4_bestOfSet 72 = .ok (.iload 4, 2) := by decide +kernel
theorem dX4_bestOfSet_74 : decode cX4_bestOfSet 74 = .ok (.invokevirtual 93, 3) := by decide +kernel
theorem dX4_bestOfSet_77 : decode cX4_bestOfSet 77 = .ok (.invokestatic 84, 3) := by decide +kernel
theorem dX4_bestOfSet_80 : decode cX4_bestOfSet 80 = .ok (.istore 5, 2) := by decide +kernel
theorem dX4_bestOfSet_82 : decode cX4_bestOfSet 82 = .ok (.iinc 6 1, 3) := by decide +kernel
theorem dX4_bestOfSet_85 : decode cX4_bestOfSet 85 = .ok (.goto (-77), 3) := by decide +kernel
theorem dX4_bestOfSet_88 : decode cX4_bestOfSet 88 = .ok (.iload 5, 2) := by decide +kernel
theorem dX4_bestOfSet_90 : decode cX4_bestOfSet 90 = .ok (.ireturn, 1) := by decide +kernel
theorem dX4_putIn_0 : decode cX4_putIn 0 = .ok (.iload_n 1, 1) := by decide +kernel
theorem dX4_putIn_1 : decode cX4_putIn 1 = .ok (.sipush 1024, 3) := by decide +kernel
theorem dX4_putIn_4 : decode cX4_putIn 4 = .ok (.if_icmp .lt 7, 3) := by decide +kernel
theorem dX4_putIn_7 : decode cX4_putIn 7 = .ok (.sipush 1024, 3) := by decide +kernel
theorem dX4_putIn_10 : decode cX4_putIn 10 = .ok (.ireturn, 1) := by decide +kernel
theorem dX4_putIn_11 : decode cX4_putIn 11 = .ok (.iload_n 1, 1) := by decide +kernel
theorem dX4_putIn_12 : decode cX4_putIn 12 = .ok (.bipush 32, 2) := by decide +kernel
theorem dX4_putIn_14 : decode cX4_putIn 14 = .ok (.irem, 1) := by decide +kernel
theorem dX4_putIn_15 : decode cX4_putIn 15 = .ok (.iload_n 2, 1) := by decide +kernel
theorem dX4_putIn_16 : decode cX4_putIn 16 = .ok (.iadd, 1) := by decide +kernel
theorem dX4_putIn_17 : decode cX4_putIn 17 = .ok (.iload_n 3, 1) := by decide +kernel
theorem dX4_putIn_18 : decode cX4_putIn 18 = .ok (.if_icmp .gt 7, 3) := by decide +kernel
theorem dX4_putIn_21 : decode cX4_putIn 21 = .ok (.iload_n 1, 1) := by decide +kernel
theorem dX4_putIn_22 : decode cX4_putIn 22 = .ok (.iload_n 2, 1) := by decide +kernel
theorem dX4_putIn_23 : decode cX4_putIn 23 = .ok (.iadd, 1) := by decide +kernel
theorem dX4_putIn_24 : decode cX4_putIn 24 = .ok (.ireturn, 1) := by decide +kernel
theorem dX4_putIn_25 : decode cX4_putIn 25 = .ok (.iload_n 1, 1) := by decide +kernel
theorem dX4_putIn_26 : decode cX4_putIn 26 = .ok (.bipush 32, 2) := by decide +kernel
theorem dX4_putIn_28 : decode cX4_putIn 28 = .ok (.idiv, 1) := by decide +kernel
theorem dX4_putIn_29 : decode cX4_putIn 29 = .ok (.iconst 1, 1) := by decide +kernel
theorem dX4_putIn_30 : decode cX4_putIn 30 = .ok (.iadd, 1) := by decide +kernel
theorem dX4_putIn_31 : decode cX4_putIn 31 = .ok (.istore 5, 2) := by decide +kernel
theorem dX4_putIn_33 : decode cX4_putIn 33 = .ok (.iload 5, 2) := by decide +kernel
theorem dX4_putIn_35 : decode cX4_putIn 35 = .ok (.iload 4, 2) := by decide +kernel
theorem dX4_putIn_37 : decode cX4_putIn 37 = .ok (.if_icmp .ge 36, 3) := by decide +kernel
theorem dX4_putIn_40 : decode cX4_putIn 40 = .ok (.aload_n 0, 1) := by decide +kernel
theorem dX4_putIn_41 : decode cX4_putIn 41 = .ok (.iload 5, 2) := by decide +kernel
theorem dX4_putIn_43 : decode cX4_putIn 43 = .ok (.invokevirtual 74, 3) := by decide +kernel
theorem dX4_putIn_46 : decode cX4_putIn 46 = .ok (.iload_n 2, 1) := by decide +kernel
theorem dX4_putIn_47 : decode cX4_putIn 47 = .ok (.iadd, 1) := by decide +kernel
theorem dX4_putIn_48 : decode cX4_putIn 48 = .ok (.iload_n 3, 1) := by decide +kernel
theorem dX4_putIn_49 : decode cX4_putIn 49 = .ok (.if_icmp .gt 18, 3) := by decide +kernel
theorem dX4_putIn_52 : decode cX4_putIn 52 = .ok (.iload 5, 2) := by decide +kernel
theorem dX4_putIn_54 : decode cX4_putIn 54 = .ok (.bipush 32, 2) := by decide +kernel
theorem dX4_putIn_56 : decode cX4_putIn 56 = .ok (.imul, 1) := by decide +kernel
theorem dX4_putIn_57 : decode cX4_putIn 57 = .ok (.aload_n 0, 1) := by decide +kernel
theorem dX4_putIn_58 : decode cX4_putIn 58 = .ok (.iload 5, 2) := by decide +kernel
theorem dX4_putIn_60 : decode cX4_putIn 60 = .ok (.invokevirtual 74, 3) := by decide +kernel
theorem dX4_putIn_63 : decode cX4_putIn 63 = .ok (.iadd, 1) := by decide +kernel
theorem dX4_putIn_64 : decode cX4_putIn 64 = .ok (.iload_n 2, 1) := by decide +kernel
theorem dX4_putIn_65 : decode cX4_putIn 65 = .ok (.iadd, 1) := by decide +kernel
theorem dX4_putIn_66 : decode cX4_putIn 66 = .ok (.ireturn, 1) := by decide +kernel
theorem dX4_putIn_67 : decode cX4_putIn 67 = .ok (.iinc 5 1, 3) := by decide +kernel
theorem dX4_putIn_70 : decode cX4_putIn 70 = .ok (.goto (-37), 3) := by decide +kernel
theorem dX4_putIn_73 : decode cX4_putIn 73 = .ok (.sipush 1024, 3) := by decide +kernel
theorem dX4_putIn_76 : decode cX4_putIn 76 = .ok (.ireturn, 1) := by decide +kernel
theorem dX5_init_0 : decode cX5_init 0 = .ok (.aload_n 0, 1) := by decide +kernel
theorem dX5_init_1 : decode cX5_init 1 = .ok (.invokespecial 3, 3) := by decide +kernel
theorem dX5_init_4 : decode cX5_init 4 = .ok (.aload_n 0, 1) := by decide +kernel
theorem dX5_init_5 : decode cX5_init 5 = .ok (.bipush 17, 2) := by decide +kernel
theorem dX5_init_7 : decode cX5_init 7 = .ok (.anewarray 9, 3) := by decide +kernel
theorem dX5_init_10 : decode cX5_init 10 = .ok (.putfield 11, 3) := by decide +kernel
theorem dX5_init_13 : decode cX5_init 13 = .ok (.return_, 1) := by decide +kernel
theorem dX5_push_0 : decode cX5_push 0 = .ok (.aload_n 0, 1) := by decide +kernel
theorem dX5_push_1 : decode cX5_push 1 = .ok (.getfield 17, 3) := by decide +kernel
theorem dX5_push_4 : decode cX5_push 4 = .ok (.ifCond .lt 15, 3) := by decide +kernel
theorem dX5_push_7 : decode cX5_push 7 = .ok (.aload_n 0, 1) := by decide +kernel
theorem dX5_push_8 : decode cX5_push 8 = .ok (.getfield 17, 3) := by decide +kernel
theorem dX5_push_11 : decode cX5_push 11 = .ok (.aload_n 0, 1) := by decide +kernel
theorem dX5_push_12 : decode cX5_push 12 = .ok (.getfield 11, 3) := by decide +kernel
theorem dX5_push_15 : decode cX5_push 15 = .ok (.arraylength, 1) := by decide +kernel
theorem dX5_push_16 : decode cX5_push 16 = .ok (.if_icmp .lt 4, 3) := by decide +kernel
theorem dX5_push_19 : decode cX5_push 19 = .ok (.return_, 1) := by decide +kernel
theorem dX5_push_20 : decode cX5_push 20 = .ok (.aload_n 0, 1) := by decide +kernel
theorem dX5_push_21 : decode cX5_push 21 = .ok (.getfield 11, 3) := by decide +kernel
theorem dX5_push_24 : decode cX5_push 24 = .ok (.aload_n 0, 1) := by decide +kernel
theorem dX5_push_25 : decode cX5_push 25 = .ok (.getfield 17, 3) := by decide +kernel
theorem dX5_push_28 : decode cX5_push 28 = .ok (.aaload, 1) := by decide +kernel
theorem dX5_push_29 : decode cX5_push 29 = .ok (.ifnonnull 19, 3) := by decide +kernel
theorem dX5_push_32 : decode cX5_push 32 = .ok (.aload_n 0, 1) := by decide +kernel
theorem dX5_push_33 : decode cX5_push 33 = .ok (.getfield 11, 3) := by decide +kernel
theorem dX5_push_36 : decode cX5_push 36 = .ok (.aload_n 0, 1) := by decide +kernel
theorem dX5_push_37 : decode cX5_push 37 = .ok (.getfield 17, 3) := by decide +kernel
theorem dX5_push_40 : decode cX5_push 40 = .ok (.new 9, 3) := by decide +kernel
theorem dX5_push_43 : decode cX5_push 43 = .ok (.dup, 1) := by decide +kernel
theorem dX5_push_44 : decode cX5_push 44 = .ok (.invokespecial 21, 3) := by decide +kernel
theorem dX5_push_47 : decode cX5_push 47 = .ok (.aastore, 1) := by decide +kernel
theorem dX5_push_48 : decode cX5_push 48 = .ok (.aload_n 0, 1) := by decide +kernel
theorem dX5_push_49 : decode cX5_push 49 = .ok (.getfield 11, 3) := by decide +kernel
theorem dX5_push_52 : decode cX5_push 52 = .ok (.aload_n 0, 1) := by decide +kernel
theorem dX5_push_53 : decode cX5_push 53 = .ok (.getfield 17, 3) := by decide +kernel
theorem dX5_push_56 : decode cX5_push 56 = .ok (.aaload, 1) := by decide +kernel
theorem dX5_push_57 : decode cX5_push 57 = .ok (.aload_n 1, 1) := by decide +kernel
theorem dX5_push_58 : decode cX5_push 58 = .ok (.invokevirtual 22, 3) := by decide +kernel
theorem dX5_push_61 : decode cX5_push 61 = .ok (.aload_n 0, 1) := by decide +kernel
theorem dX5_push_62 : decode cX5_push 62 = .ok (.dup, 1) := by decide +kernel
theorem dX5_push_63 : decode cX5_push 63 = .ok (.getfield 17, 3) := by decide +kernel
theorem dX5_push_66 : decode cX5_push 66 = .ok (.iconst 1, 1) := by decide +kernel
theorem dX5_push_67 : decode cX5_push 67 = .ok (.iadd, 1) := by decide +kernel
theorem dX5_push_68 : decode cX5_push 68 = .ok (.putfield 17, 3) := by decide +kernel
theorem dX5_push_71 : decode cX5_push 71 = .ok (.return_, 1) := by decide +kernel
theorem dX5_pop_0 : decode cX5_pop 0 = .ok (.aload_n 0, 1) := by decide +kernel
theorem dX5_pop_1 : decode cX5_pop 1 = .ok (.getfield 17, 3) := by decide +kernel
theorem dX5_pop_4 : decode cX5_pop 4 = .ok (.ifCond .le 29, 3) := by decide +kernel
theorem dX5_pop_7 : decode cX5_pop 7 = .ok (.aload_n 0, 1) := by decide +kernel
theorem dX5_pop_8 : decode cX5_pop 8 = .ok (.getfield 17, 3) := by decide +kernel
theorem dX5_pop_11 : decode cX5_pop 11 = .ok (.aload_n 0, 1) := by decide +kernel
theorem dX5_pop_12 : decode cX5_pop 12 = .ok (.getfield 11, 3) := by decide +kernel
theorem dX5_pop_15 : decode cX5_pop 15 = .ok (.arraylength, 1) := by decide +kernel
theorem dX5_pop_16 : decode cX5_pop 16 = .ok (.if_icmp .gt 17, 3) := by decide +kernel
theorem dX5_pop_19 : decode cX5_pop 19 = .ok (.aload_n 0, 1) := by decide +kernel
theorem dX5_pop_20 : decode cX5_pop 20 = .ok (.getfield 11, 3) := by decide +kernel
theorem dX5_pop_23 : decode cX5_pop 23 = .ok (.aload_n 0, 1) := by decide +kernel
theorem dX5_pop_24 : decode cX5_pop 24 = .ok (.getfield 17, 3) := by decide +kernel
theorem dX5_pop_27 : decode cX5_pop 27 = .ok (.iconst 1, 1) := by decide +kernel
theorem dX5_pop_28 : decode cX5_pop 28 = .ok (.isub, 1) := by decide +kernel
theorem dX5_pop_29 : decode cX5_pop 29 = .ok (.aaload, 1) := by decide +kernel
theorem dX5_pop_30 : decode cX5_pop 30 = .ok (.ifnonnull 4, 3) := by decide +kernel
theorem dX5_pop_33 : decode cX5_pop 33 = .ok (.return_, 1) := by decide +kernel
theorem dX5_pop_34 : decode cX5_pop 34 = .ok (.aload_n 0, 1) := by decide +kernel
theorem dX5_pop_35 : decode cX5_pop 35 = .ok (.dup, 1) := by decide +kernel
theorem dX5_pop_36 : decode cX5_pop 36 = .ok (.getfield 17, 3) := by decide +kernel
theorem dX5_pop_39 : decode cX5_pop 39 = .ok (.iconst 1, 1) := by decide +kernel
theorem dX5_pop_40 : decode cX5_pop 40 = .ok (.isub, 1) := by decide +kernel
theorem dX5_pop_41 : decode cX5_pop 41 = .ok (.putfield 17, 3) := by decide +kernel
theorem dX5_pop_44 : decode cX5_pop 44 = .ok (.aload_n 1, 1) := by decide +kernel
theorem dX5_pop_45 : decode cX5_pop 45 = .ok (.aload_n 0, 1) := by decide +kernel
theorem dX5_pop_46 : decode cX5_pop 46 = .ok (.getfield 11, 3) := by decide +kernel
theorem dX5_pop_49 : decode cX5_pop 49 = .ok (.aload_n 0, 1) := by decide +kernel
theorem dX5_pop_50 : decode cX5_pop 50 = .ok (.getfield 17, 3) := by decide +kernel
theorem dX5_pop_53 : decode cX5_pop 53 = .ok (.aaload, 1) := by decide +kernel
theorem dX5_pop_54 : decode cX5_pop 54 = .ok (.invokevirtual 22, 3) := by decide +kernel
theorem dX5_pop_57 : decode cX5_pop 57 = .ok (.return_, 1) := by decide +kernel
theorem dX5_copyFrom_0 : decode cX5_copyFrom 0 = .ok (.aload_n 0, 1) := by decide +kernel
theorem dX5_copyFrom_1 : decode cX5_copyFrom 1 = .ok (.iconst 0, 1) := by decide +kernel
