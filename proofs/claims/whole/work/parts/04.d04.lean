theorem dX12_corner_36 : decode cX12_corner 36 = .ok (.iconst 0, 1) := by decide +kernel
theorem dX12_corner_37 : decode cX12_corner 37 = .ok (.istore_n 3, 1) := by decide +kernel
theorem dX12_corner_38 : decode cX12_corner 38 = .ok (.aload_n 0, 1) := by decide +kernel
theorem dX12_corner_39 : decode cX12_corner 39 = .ok (.getfield 77, 3) := by decide +kernel
theorem dX12_corner_42 : decode cX12_corner 42 = .ok (.iconst 0, 1) := by decide +kernel
theorem dX12_corner_43 : decode cX12_corner 43 = .ok (.iload_n 1, 1) := by decide +kernel
theorem dX12_corner_44 : decode cX12_corner 44 = .ok (.iadd, 1) := by decide +kernel
theorem dX12_corner_45 : decode cX12_corner 45 = .ok (.iaload, 1) := by decide +kernel
theorem dX12_corner_46 : decode cX12_corner 46 = .ok (.ifCond .lt 32, 3) := by decide +kernel
theorem dX12_corner_49 : decode cX12_corner 49 = .ok (.aload_n 0, 1) := by decide +kernel
theorem dX12_corner_50 : decode cX12_corner 50 = .ok (.iload_n 1, 1) := by decide +kernel
theorem dX12_corner_51 : decode cX12_corner 51 = .ok (.invokevirtual 417, 3) := by decide +kernel
theorem dX12_corner_54 : decode cX12_corner 54 = .ok (.iload_n 2, 1) := by decide +kernel
theorem dX12_corner_55 : decode cX12_corner 55 = .ok (.if_icmp .lt 5, 3) := by decide +kernel
theorem dX12_corner_58 : decode cX12_corner 58 = .ok (.iload_n 3, 1) := by decide +kernel
theorem dX12_corner_59 : decode cX12_corner 59 = .ok (.ireturn, 1) := by decide +kernel
theorem dX12_corner_60 : decode cX12_corner 60 = .ok (.aload_n 0, 1) := by decide +kernel
theorem dX12_corner_61 : decode cX12_corner 61 = .ok (.getfield 77, 3) := by decide +kernel
theorem dX12_corner_64 : decode cX12_corner 64 = .ok (.iconst 0, 1) := by decide +kernel
theorem dX12_corner_65 : decode cX12_corner 65 = .ok (.iload_n 1, 1) := by decide +kernel
theorem dX12_corner_66 : decode cX12_corner 66 = .ok (.iadd, 1) := by decide +kernel
theorem dX12_corner_67 : decode cX12_corner 67 = .ok (.dup2, 1) := by decide +kernel
theorem dX12_corner_68 : decode cX12_corner 68 = .ok (.iaload, 1) := by decide +kernel
theorem dX12_corner_69 : decode cX12_corner 69 = .ok (.iconst 1, 1) := by decide +kernel
theorem dX12_corner_70 : decode cX12_corner 70 = .ok (.isub, 1) := by decide +kernel
theorem dX12_corner_71 : decode cX12_corner 71 = .ok (.iastore, 1) := by decide +kernel
theorem dX12_corner_72 : decode cX12_corner 72 = .ok (.iinc 3 1, 3) := by decide +kernel
theorem dX12_corner_75 : decode cX12_corner 75 = .ok (.goto (-37), 3) := by decide +kernel
theorem dX12_corner_78 : decode cX12_corner 78 = .ok (.iconst (-1), 1) := by decide +kernel
theorem dX12_corner_79 : decode cX12_corner 79 = .ok (.ireturn, 1) := by decide +kernel
theorem dX12_worthOf_0 : decode cX12_worthOf 0 = .ok (.iload_n 1, 1) := by decide +kernel
theorem dX12_worthOf_1 : decode cX12_worthOf 1 = .ok (.aload_n 0, 1) := by decide +kernel
theorem dX12_worthOf_2 : decode cX12_worthOf 2 = .ok (.getfield 420, 3) := by decide +kernel
theorem dX12_worthOf_5 : decode cX12_worthOf 5 = .ok (.if_icmp .le 13, 3) := by decide +kernel
theorem dX12_worthOf_8 : decode cX12_worthOf 8 = .ok (.iload_n 1, 1) := by decide +kernel
theorem dX12_worthOf_9 : decode cX12_worthOf 9 = .ok (.aload_n 0, 1) := by decide +kernel
theorem dX12_worthOf_10 : decode cX12_worthOf 10 = .ok (.getfield 420, 3) := by decide +kernel
theorem dX12_worthOf_13 : decode cX12_worthOf 13 = .ok (.isub, 1) := by decide +kernel
theorem dX12_worthOf_14 : decode cX12_worthOf 14 = .ok (.i2l, 1) := by decide +kernel
theorem dX12_worthOf_15 : decode cX12_worthOf 15 = .ok (.goto 4, 3) := by decide +kernel
theorem dX12_worthOf_18 : decode cX12_worthOf 18 = .ok (.lconst 0, 1) := by decide +kernel
theorem dX12_worthOf_19 : decode cX12_worthOf 19 = .ok (.lstore 4, 2) := by decide +kernel
theorem dX12_worthOf_21 : decode cX12_worthOf 21 = .ok (.iload_n 2, 1) := by decide +kernel
theorem dX12_worthOf_22 : decode cX12_worthOf 22 = .ok (.ifCond .ne 6, 3) := by decide +kernel
theorem dX12_worthOf_25 : decode cX12_worthOf 25 = .ok (.lload 4, 2) := by decide +kernel
theorem dX12_worthOf_27 : decode cX12_worthOf 27 = .ok (.lreturn, 1) := by decide +kernel
theorem dX12_worthOf_28 : decode cX12_worthOf 28 = .ok (.iload_n 1, 1) := by decide +kernel
theorem dX12_worthOf_29 : decode cX12_worthOf 29 = .ok (.aload_n 0, 1) := by decide +kernel
theorem dX12_worthOf_30 : decode cX12_worthOf 30 = .ok (.getfield 423, 3) := by decide +kernel
theorem dX12_worthOf_33 : decode cX12_worthOf 33 = .ok (.if_icmp .le 12, 3) := by decide +kernel
theorem dX12_worthOf_36 : decode cX12_worthOf 36 = .ok (.iload_n 1, 1) := by decide +kernel
theorem dX12_worthOf_37 : decode cX12_worthOf 37 = .ok (.aload_n 0, 1) := by decide +kernel
theorem dX12_worthOf_38 : decode cX12_worthOf 38 = .ok (.getfield 423, 3) := by decide +kernel
theorem dX12_worthOf_41 : decode cX12_worthOf 41 = .ok (.isub, 1) := by decide +kernel
theorem dX12_worthOf_42 : decode cX12_worthOf 42 = .ok (.goto 4, 3) := by decide +kernel
theorem dX12_worthOf_45 : decode cX12_worthOf 45 = .ok (.iconst 0, 1) := by decide +kernel
theorem dX12_worthOf_46 : decode cX12_worthOf 46 = .ok (.istore 6, 2) := by decide +kernel
theorem dX12_worthOf_48 : decode cX12_worthOf 48 = .ok (.aload_n 0, 1) := by decide +kernel
theorem dX12_worthOf_49 : decode cX12_worthOf 49 = .ok (.getfield 426, 3) := by decide +kernel
theorem dX12_worthOf_52 : decode cX12_worthOf 52 = .ok (.i2l, 1) := by decide +kernel
theorem dX12_worthOf_53 : decode cX12_worthOf 53 = .ok (.aload_n 0, 1) := by decide +kernel
theorem dX12_worthOf_54 : decode cX12_worthOf 54 = .ok (.iload_n 1, 1) := by decide +kernel
theorem dX12_worthOf_55 : decode cX12_worthOf 55 = .ok (.aload_n 0, 1) := by decide +kernel
theorem dX12_worthOf_56 : decode cX12_worthOf 56 = .ok (.getfield 429, 3) := by decide +kernel
theorem dX12_worthOf_59 : decode cX12_worthOf 59 = .ok (.iadd, 1) := by decide +kernel
theorem dX12_worthOf_60 : decode cX12_worthOf 60 = .ok (.iload_n 2, 1) := by decide +kernel
theorem dX12_worthOf_61 : decode cX12_worthOf 61 = .ok (.iconst 1, 1) := by decide +kernel
theorem dX12_worthOf_62 : decode cX12_worthOf 62 = .ok (.isub, 1) := by decide +kernel
theorem dX12_worthOf_63 : decode cX12_worthOf 63 = .ok (.iload_n 3, 1) := by decide +kernel
theorem dX12_worthOf_64 : decode cX12_worthOf 64 = .ok (.invokevirtual 432, 3) := by decide +kernel
theorem dX12_worthOf_67 : decode cX12_worthOf 67 = .ok (.lmul, 1) := by decide +kernel
theorem dX12_worthOf_68 : decode cX12_worthOf 68 = .ok (.bipush 16, 2) := by decide +kernel
theorem dX12_worthOf_70 : decode cX12_worthOf 70 = .ok (.aload_n 0, 1) := by decide +kernel
theorem dX12_worthOf_71 : decode cX12_worthOf 71 = .ok (.getfield 426, 3) := by decide +kernel
theorem dX12_worthOf_74 : decode cX12_worthOf 74 = .ok (.isub, 1) := by decide +kernel
theorem dX12_worthOf_75 : decode cX12_worthOf 75 = .ok (.i2l, 1) := by decide +kernel
theorem dX12_worthOf_76 : decode cX12_worthOf 76 = .ok (.aload_n 0, 1) := by decide +kernel
theorem dX12_worthOf_77 : decode cX12_worthOf 77 = .ok (.iload 6, 2) := by decide +kernel
theorem dX12_worthOf_79 : decode cX12_worthOf 79 = .ok (.iload_n 2, 1) := by decide +kernel
theorem dX12_worthOf_80 : decode cX12_worthOf 80 = .ok (.iconst 1, 1) := by decide +kernel
theorem dX12_worthOf_81 : decode cX12_worthOf 81 = .ok (.isub, 1) := by decide +kernel
theorem dX12_worthOf_82 : decode cX12_worthOf 82 = .ok (.iload_n 3, 1) := by decide +kernel
theorem dX12_worthOf_83 : decode cX12_worthOf 83 = .ok (.invokevirtual 432, 3) := by decide +kernel
theorem dX12_worthOf_86 : decode cX12_worthOf 86 = .ok (.lmul, 1) := by decide +kernel
theorem dX12_worthOf_87 : decode cX12_worthOf 87 = .ok (.ladd, 1) := by decide +kernel
theorem dX12_worthOf_88 : decode cX12_worthOf 88 = .ok (.lstore 7, 2) := by decide +kernel
theorem dX12_worthOf_90 : decode cX12_worthOf 90 = .ok (.lload 4, 2) := by decide +kernel
theorem dX12_worthOf_92 : decode cX12_worthOf 92 = .ok (.iconst 4, 1) := by decide +kernel
theorem dX12_worthOf_93 : decode cX12_worthOf 93 = .ok (.iload_n 2, 1) := by decide +kernel
theorem dX12_worthOf_94 : decode cX12_worthOf 94 = .ok (.imul, 1) := by decide +kernel
theorem dX12_worthOf_95 : decode cX12_worthOf 95 = .ok (.lshl, 1) := by decide +kernel
theorem dX12_worthOf_96 : decode cX12_worthOf 96 = .ok (.lstore 9, 2) := by decide +kernel
theorem dX12_worthOf_98 : decode cX12_worthOf 98 = .ok (.iload_n 3, 1) := by decide +kernel
theorem dX12_worthOf_99 : decode cX12_worthOf 99 = .ok (.ifCond .ne 11, 3) := by decide +kernel
theorem dX12_worthOf_102 : decode cX12_worthOf 102 = .ok (.lload 7, 2) := by decide +kernel
theorem dX12_worthOf_104 : decode cX12_worthOf 104 = .ok (.lload 9, 2) := by decide +kernel
theorem dX12_worthOf_106 : decode cX12_worthOf 106 = .ok (.lcmp, 1) := by decide +kernel
theorem dX12_worthOf_107 : decode cX12_worthOf 107 = .ok (.ifCond .le 8, 3) := by decide +kernel
theorem dX12_worthOf_110 : decode cX12_worthOf 110 = .ok (.lload 7, 2) := by decide +kernel
theorem dX12_worthOf_112 : decode cX12_worthOf 112 = .ok (.goto 5, 3) := by decide +kernel
theorem dX12_worthOf_115 : decode cX12_worthOf 115 = .ok (.lload 9, 2) := by decide +kernel
theorem dX12_worthOf_117 : decode cX12_worthOf 117 = .ok (.lreturn, 1) := by decide +kernel
theorem dX12_isOption_0 : decode cX12_isOption 0 = .ok (.aload_n 0, 1) := by decide +kernel
theorem dX12_isOption_1 : decode cX12_isOption 1 = .ok (.iload_n 1, 1) := by decide +kernel
theorem dX12_isOption_2 : decode cX12_isOption 2 = .ok (.iconst 0, 1) := by decide +kernel
theorem dX12_isOption_3 : decode cX12_isOption 3 = .ok (.sipush 999, 3) := by decide +kernel
theorem dX12_isOption_6 : decode cX12_isOption 6 = .ok (.invokestatic 303, 3) := by decide +kernel
theorem dX12_isOption_9 : decode cX12_isOption 9 = .ok (.ifCond .eq 66, 3) := by decide +kernel
theorem dX12_isOption_12 : decode cX12_isOption 12 = .ok (.iload_n 2, 1) := by decide +kernel
theorem dX12_isOption_13 : decode cX12_isOption 13 = .ok (.iconst 0, 1) := by decide +kernel
theorem dX12_isOption_14 : decode cX12_isOption 14 = .ok (.bipush 99, 2) := by decide +kernel
theorem dX12_isOption_16 : decode cX12_isOption 16 = .ok (.invokestatic 303, 3) := by decide +kernel
theorem dX12_isOption_19 : decode cX12_isOption 19 = .ok (.ifCond .eq 56, 3) := by decide +kernel
theorem dX12_isOption_22 : decode cX12_isOption 22 = .ok (.iload_n 3, 1) := by decide +kernel
theorem dX12_isOption_23 : decode cX12_isOption 23 = .ok (.iconst 0, 1) := by decide +kernel
theorem dX12_isOption_24 : decode cX12_isOption 24 = .ok (.bipush 99, 2) := by decide +kernel
theorem dX12_isOption_26 : decode cX12_isOption 26 = .ok (.invokestatic 303, 3) := by decide +kernel
theorem dX12_isOption_29 : decode cX12_isOption 29 = .ok (.ifCond .eq 46, 3) := by decide +kernel
theorem dX12_isOption_32 : decode cX12_isOption 32 = .ok (.iload 4, 2) := by decide +kernel
theorem dX12_isOption_34 : decode cX12_isOption 34 = .ok (.iconst 0, 1) := by decide +kernel
theorem dX12_isOption_35 : decode cX12_isOption 35 = .ok (.bipush 16, 2) := by decide +kernel
theorem dX12_isOption_37 : decode cX12_isOption 37 = .ok (.invokestatic 303, 3) := by decide +kernel
theorem dX12_isOption_40 : decode cX12_isOption 40 = .ok (.ifCond .eq 35, 3) := by decide +kernel
theorem dX12_isOption_43 : decode cX12_isOption 43 = .ok (.iload 5, 2) := by decide +kernel
theorem dX12_isOption_45 : decode cX12_isOption 45 = .ok (.iconst 0, 1) := by decide +kernel
theorem dX12_isOption_46 : decode cX12_isOption 46 = .ok (.sipush 999, 3) := by decide +kernel
theorem dX12_isOption_49 : decode cX12_isOption 49 = .ok (.invokestatic 303, 3) := by decide +kernel
theorem dX12_isOption_52 : decode cX12_isOption 52 = .ok (.ifCond .eq 23, 3) := by decide +kernel
theorem dX12_isOption_55 : decode cX12_isOption 55 = .ok (.iload 6, 2) := by decide +kernel
theorem dX12_isOption_57 : decode cX12_isOption 57 = .ok (.iconst 0, 1) := by decide +kernel
theorem dX12_isOption_58 : decode cX12_isOption 58 = .ok (.bipush 6, 2) := by decide +kernel
theorem dX12_isOption_60 : decode cX12_isOption 60 = .ok (.invokestatic 303, 3) := by decide +kernel
theorem dX12_isOption_63 : decode cX12_isOption 63 = .ok (.ifCond .eq 12, 3) := by decide +kernel
theorem dX12_isOption_66 : decode cX12_isOption 66 = .ok (.iload 7, 2) := by decide +kernel
theorem dX12_isOption_68 : decode cX12_isOption 68 = .ok (.ifCond .eq 7, 3) := by decide +kernel
theorem dX12_isOption_71 : decode cX12_isOption 71 = .ok (.iconst 1, 1) := by decide +kernel
theorem dX12_isOption_72 : decode cX12_isOption 72 = .ok (.goto 4, 3) := by decide +kernel
theorem dX12_isOption_75 : decode cX12_isOption 75 = .ok (.iconst 0, 1) := by decide +kernel
theorem dX12_isOption_76 : decode cX12_isOption 76 = .ok (.iconst 1, 1) := by decide +kernel
theorem dX12_isOption_77 : decode cX12_isOption 77 = .ok (.iconst 1, 1) := by decide +kernel
theorem dX12_isOption_78 : decode cX12_isOption 78 = .ok (.invokevirtual 229, 3) := by decide +kernel
theorem dX12_isOption_81 : decode cX12_isOption 81 = .ok (.ifCond .ne 5, 3) := by decide +kernel
theorem dX12_isOption_84 : decode cX12_isOption 84 = .ok (.iconst 0, 1) := by decide +kernel
theorem dX12_isOption_85 : decode cX12_isOption 85 = .ok (.ireturn, 1) := by decide +kernel
theorem dX12_isOption_86 : decode cX12_isOption 86 = .ok (.aload_n 0, 1) := by decide +kernel
theorem dX12_isOption_87 : decode cX12_isOption 87 = .ok (.iload_n 2, 1) := by decide +kernel
theorem dX12_isOption_88 : decode cX12_isOption 88 = .ok (.putfield 429, 3) := by decide +kernel
theorem dX12_isOption_91 : decode cX12_isOption 91 = .ok (.aload_n 0, 1) := by decide +kernel
theorem dX12_isOption_92 : decode cX12_isOption 92 = .ok (.iload_n 3, 1) := by decide +kernel
theorem dX12_isOption_93 : decode cX12_isOption 93 = .ok (.putfield 423, 3) := by decide +kernel
theorem dX12_isOption_96 : decode cX12_isOption 96 = .ok (.aload_n 0, 1) := by decide +kernel
theorem dX12_isOption_97 : decode cX12_isOption 97 = .ok (.iload 4, 2) := by decide +kernel
theorem dX12_isOption_99 : decode cX12_isOption 99 = .ok (.putfield 426, 3) := by decide +kernel
theorem dX12_isOption_102 : decode cX12_isOption 102 = .ok (.aload_n 0, 1) := by decide +kernel
theorem dX12_isOption_103 : decode cX12_isOption 103 = .ok (.iload 5, 2) := by decide +kernel
theorem dX12_isOption_105 : decode cX12_isOption 105 = .ok (.putfield 420, 3) := by decide +kernel
theorem dX12_isOption_108 : decode cX12_isOption 108 = .ok (.iconst 1, 1) := by decide +kernel
theorem dX12_isOption_109 : decode cX12_isOption 109 = .ok (.ireturn, 1) := by decide +kernel
theorem dX12_least_0 : decode cX12_least 0 = .ok (.lload_n 0, 1) := by decide +kernel
theorem dX12_least_1 : decode cX12_least 1 = .ok (.lstore 5, 2) := by decide +kernel
theorem dX12_least_3 : decode cX12_least 3 = .ok (.lload_n 2, 1) := by decide +kernel
theorem dX12_least_4 : decode cX12_least 4 = .ok (.lstore 7, 2) := by decide +kernel
theorem dX12_least_6 : decode cX12_least 6 = .ok (.lload 7, 2) := by decide +kernel
theorem dX12_least_8 : decode cX12_least 8 = .ok (.lconst 0, 1) := by decide +kernel
theorem dX12_least_9 : decode cX12_least 9 = .ok (.lcmp, 1) := by decide +kernel
theorem dX12_least_10 : decode cX12_least 10 = .ok (.ifCond .eq 21, 3) := by decide +kernel
theorem dX12_least_13 : decode cX12_least 13 = .ok (.lload 5, 2) := by decide +kernel
theorem dX12_least_15 : decode cX12_least 15 = .ok (.lload 7, 2) := by decide +kernel
theorem dX12_least_17 : decode cX12_least 17 = .ok (.lrem, 1) := by decide +kernel
theorem dX12_least_18 : decode cX12_least 18 = .ok (.lstore 9, 2) := by decide +kernel
theorem dX12_least_20 : decode cX12_least 20 = .ok (.lload 7, 2) := by decide +kernel
theorem dX12_least_22 : decode cX12_least 22 = .ok (.lstore 5, 2) := by decide +kernel
theorem dX12_least_24 : decode cX12_least 24 = .ok (.lload 9, 2) := by decide +kernel
theorem dX12_least_26 : decode cX12_least 26 = .ok (.lstore 7, 2) := by decide +kernel
theorem dX12_least_28 : decode cX12_least 28 = .ok (.goto (-22), 3) := by decide +kernel
theorem dX12_least_31 : decode cX12_least 31 = .ok (.iload 4, 2) := by decide +kernel
theorem dX12_least_33 : decode cX12_least 33 = .ok (.ifCond .ne 7, 3) := by decide +kernel
theorem dX12_least_36 : decode cX12_least 36 = .ok (.lload_n 0, 1) := by decide +kernel
theorem dX12_least_37 : decode cX12_least 37 = .ok (.goto 4, 3) := by decide +kernel
theorem dX12_least_40 : decode cX12_least 40 = .ok (.lload_n 2, 1) := by decide +kernel
theorem dX12_least_41 : decode cX12_least 41 = .ok (.lload 5, 2) := by decide +kernel
theorem dX12_least_43 : decode cX12_least 43 = .ok (.ldiv, 1) := by decide +kernel
theorem dX12_least_44 : decode cX12_least 44 = .ok (.lreturn, 1) := by decide +kernel
theorem dX12_option_0 : decode cX12_option 0 = .ok (.aload_n 0, 1) := by decide +kernel
theorem dX12_option_1 : decode cX12_option 1 = .ok (.iconst 0, 1) := by decide +kernel
theorem dX12_option_2 : decode cX12_option 2 = .ok (.putfield 3, 3) := by decide +kernel
theorem dX12_option_5 : decode cX12_option 5 = .ok (.aload_n 0, 1) := by decide +kernel
theorem dX12_option_6 : decode cX12_option 6 = .ok (.iload_n 1, 1) := by decide +kernel
theorem dX12_option_7 : decode cX12_option 7 = .ok (.iload_n 2, 1) := by decide +kernel
theorem dX12_option_8 : decode cX12_option 8 = .ok (.iload_n 3, 1) := by decide +kernel
theorem dX12_option_9 : decode cX12_option 9 = .ok (.iload 4, 2) := by decide +kernel
theorem dX12_option_11 : decode cX12_option 11 = .ok (.iload 5, 2) := by decide +kernel
theorem dX12_option_13 : decode cX12_option 13 = .ok (.iload 6, 2) := by decide +kernel
theorem dX12_option_15 : decode cX12_option 15 = .ok (.iload 7, 2) := by decide +kernel
theorem dX12_option_17 : decode cX12_option 17 = .ok (.iconst 0, 1) := by decide +kernel
theorem dX12_option_18 : decode cX12_option 18 = .ok (.iconst 1, 1) := by decide +kernel
theorem dX12_option_19 : decode cX12_option 19 = .ok (.invokestatic 303, 3) := by decide +kernel
theorem dX12_option_22 : decode cX12_option 22 = .ok (.invokevirtual 436, 3) := by decide +kernel
theorem dX12_option_25 : decode cX12_option 25 = .ok (.ifCond .ne 5, 3) := by decide +kernel
theorem dX12_option_28 : decode cX12_option 28 = .ok (.lconst 0, 1) := by decide +kernel
theorem dX12_option_29 : decode cX12_option 29 = .ok (.lreturn, 1) := by decide +kernel
theorem dX12_option_30 : decode cX12_option 30 = .ok (.aload_n 0, 1) := by decide +kernel
theorem dX12_option_31 : decode cX12_option 31 = .ok (.iload_n 1, 1) := by decide +kernel
theorem dX12_option_32 : decode cX12_option 32 = .ok (.iload 6, 2) := by decide +kernel
theorem dX12_option_34 : decode cX12_option 34 = .ok (.iconst 0, 1) := by decide +kernel
theorem dX12_option_35 : decode cX12_option 35 = .ok (.invokevirtual 432, 3) := by decide +kernel
theorem dX12_option_38 : decode cX12_option 38 = .ok (.lconst 1, 1) := by decide +kernel
theorem dX12_option_39 : decode cX12_option 39 = .ok (.iconst 4, 1) := by decide +kernel
theorem dX12_option_40 : decode cX12_option 40 = .ok (.iload 6, 2) := by decide +kernel
theorem dX12_option_42 : decode cX12_option 42 = .ok (.imul, 1) := by decide +kernel
theorem dX12_option_43 : decode cX12_option 43 = .ok (.lshl, 1) := by decide +kernel
theorem dX12_option_44 : decode cX12_option 44 = .ok (.iload 7, 2) := by decide +kernel
theorem dX12_option_46 : decode cX12_option 46 = .ok (.invokestatic 440, 3) := by decide +kernel
theorem dX12_option_49 : decode cX12_option 49 = .ok (.lreturn, 1) := by decide +kernel
theorem dX12_late_0 : decode cX12_late 0 = .ok (.aload_n 0, 1) := by decide +kernel
theorem dX12_late_1 : decode cX12_late 1 = .ok (.iconst 0, 1) := by decide +kernel
theorem dX12_late_2 : decode cX12_late 2 = .ok (.putfield 3, 3) := by decide +kernel
theorem dX12_late_5 : decode cX12_late 5 = .ok (.aload_n 0, 1) := by decide +kernel
theorem dX12_late_6 : decode cX12_late 6 = .ok (.iload_n 1, 1) := by decide +kernel
theorem dX12_late_7 : decode cX12_late 7 = .ok (.iload_n 2, 1) := by decide +kernel
theorem dX12_late_8 : decode cX12_late 8 = .ok (.iload_n 3, 1) := by decide +kernel
theorem dX12_late_9 : decode cX12_late 9 = .ok (.iload 4, 2) := by decide +kernel
theorem dX12_late_11 : decode cX12_late 11 = .ok (.iload 5, 2) := by decide +kernel
theorem dX12_late_13 : decode cX12_late 13 = .ok (.iload 6, 2) := by decide +kernel
theorem dX12_late_15 : decode cX12_late 15 = .ok (.iload 7, 2) := by decide +kernel
theorem dX12_late_17 : decode cX12_late 17 = .ok (.iconst 0, 1) := by decide +kernel
theorem dX12_late_18 : decode cX12_late 18 = .ok (.iconst 1, 1) := by decide +kernel
theorem dX12_late_19 : decode cX12_late 19 = .ok (.invokestatic 303, 3) := by decide +kernel
theorem dX12_late_22 : decode cX12_late 22 = .ok (.invokevirtual 436, 3) := by decide +kernel
theorem dX12_late_25 : decode cX12_late 25 = .ok (.ifCond .ne 5, 3) := by decide +kernel
theorem dX12_late_28 : decode cX12_late 28 = .ok (.lconst 0, 1) := by decide +kernel
theorem dX12_late_29 : decode cX12_late 29 = .ok (.lreturn, 1) := by decide +kernel
theorem dX12_late_30 : decode cX12_late 30 = .ok (.aload_n 0, 1) := by decide +kernel
theorem dX12_late_31 : decode cX12_late 31 = .ok (.iload_n 1, 1) := by decide +kernel
theorem dX12_late_32 : decode cX12_late 32 = .ok (.iload 6, 2) := by decide +kernel
theorem dX12_late_34 : decode cX12_late 34 = .ok (.iconst 1, 1) := by decide +kernel
theorem dX12_late_35 : decode cX12_late 35 = .ok (.invokevirtual 432, 3) := by decide +kernel
theorem dX12_late_38 : decode cX12_late 38 = .ok (.lconst 1, 1) := by decide +kernel
theorem dX12_late_39 : decode cX12_late 39 = .ok (.iconst 4, 1) := by decide +kernel
theorem dX12_late_40 : decode cX12_late 40 = .ok (.iload 6, 2) := by decide +kernel
theorem dX12_late_42 : decode cX12_late 42 = .ok (.imul, 1) := by decide +kernel
theorem dX12_late_43 : decode cX12_late 43 = .ok (.lshl, 1) := by decide +kernel
theorem dX12_late_44 : decode cX12_late 44 = .ok (.iload 7, 2) := by decide +kernel
theorem dX12_late_46 : decode cX12_late 46 = .ok (.invokestatic 440, 3) := by decide +kernel
theorem dX12_late_49 : decode cX12_late 49 = .ok (.lreturn, 1) := by decide +kernel
theorem dX12_now_0 : decode cX12_now 0 = .ok (.aload_n 0, 1) := by decide +kernel
theorem dX12_now_1 : decode cX12_now 1 = .ok (.iconst 0, 1) := by decide +kernel
theorem dX12_now_2 : decode cX12_now 2 = .ok (.putfield 3, 3) := by decide +kernel
theorem dX12_now_5 : decode cX12_now 5 = .ok (.aload_n 0, 1) := by decide +kernel
theorem dX12_now_6 : decode cX12_now 6 = .ok (.iload_n 1, 1) := by decide +kernel
theorem dX12_now_7 : decode cX12_now 7 = .ok (.iload_n 2, 1) := by decide +kernel
theorem dX12_now_8 : decode cX12_now 8 = .ok (.iload_n 3, 1) := by decide +kernel
theorem dX12_now_9 : decode cX12_now 9 = .ok (.iload 4, 2) := by decide +kernel
theorem dX12_now_11 : decode cX12_now 11 = .ok (.iload 5, 2) := by decide +kernel
theorem dX12_now_13 : decode cX12_now 13 = .ok (.iload 6, 2) := by decide +kernel
theorem dX12_now_15 : decode cX12_now 15 = .ok (.iconst 1, 1) := by decide +kernel
theorem dX12_now_16 : decode cX12_now 16 = .ok (.invokevirtual 436, 3) := by decide +kernel
theorem dX12_now_19 : decode cX12_now 19 = .ok (.ifCond .ne 5, 3) := by decide +kernel
theorem dX12_now_22 : decode cX12_now 22 = .ok (.iconst 0, 1) := by decide +kernel
theorem dX12_now_23 : decode cX12_now 23 = .ok (.ireturn, 1) := by decide +kernel
theorem dX12_now_24 : decode cX12_now 24 = .ok (.iload_n 1, 1) := by decide +kernel
theorem dX12_now_25 : decode cX12_now 25 = .ok (.iload 5, 2) := by decide +kernel
theorem dX12_now_27 : decode cX12_now 27 = .ok (.if_icmp .le 29, 3) := by decide +kernel
theorem dX12_now_30 : decode cX12_now 30 = .ok (.iload_n 1, 1) := by decide +kernel
theorem dX12_now_31 : decode cX12_now 31 = .ok (.iload 5, 2) := by decide +kernel
theorem dX12_now_33 : decode cX12_now 33 = .ok (.isub, 1) := by decide +kernel
theorem dX12_now_34 : decode cX12_now 34 = .ok (.i2l, 1) := by decide +kernel
theorem dX12_now_35 : decode cX12_now 35 = .ok (.iconst 4, 1) := by decide +kernel
theorem dX12_now_36 : decode cX12_now 36 = .ok (.iload 6, 2) := by decide +kernel
theorem dX12_now_38 : decode cX12_now 38 = .ok (.imul, 1) := by decide +kernel
theorem dX12_now_39 : decode cX12_now 39 = .ok (.lshl, 1) := by decide +kernel
theorem dX12_now_40 : decode cX12_now 40 = .ok (.aload_n 0, 1) := by decide +kernel
theorem dX12_now_41 : decode cX12_now 41 = .ok (.iload_n 1, 1) := by decide +kernel
theorem dX12_now_42 : decode cX12_now 42 = .ok (.iload 6, 2) := by decide +kernel
theorem dX12_now_44 : decode cX12_now 44 = .ok (.iconst 0, 1) := by decide +kernel
theorem dX12_now_45 : decode cX12_now 45 = .ok (.invokevirtual 432, 3) := by decide +kernel
theorem dX12_now_48 : decode cX12_now 48 = .ok (.lcmp, 1) := by decide +kernel
theorem dX12_now_49 : decode cX12_now 49 = .ok (.ifCond .lt 7, 3) := by decide +kernel
theorem dX12_now_52 : decode cX12_now 52 = .ok (.iconst 1, 1) := by decide +kernel
theorem dX12_now_53 : decode cX12_now 53 = .ok (.goto 4, 3) := by decide +kernel
theorem dX12_now_56 : decode cX12_now 56 = .ok (.iconst 0, 1) := by decide +kernel
theorem dX12_now_57 : decode cX12_now 57 = .ok (.ireturn, 1) := by decide +kernel
theorem dX12_fitsOn_0 : decode cX12_fitsOn 0 = .ok (.iload_n 1, 1) := by decide +kernel
theorem dX12_fitsOn_1 : decode cX12_fitsOn 1 = .ok (.aload_n 0, 1) := by decide +kernel
theorem dX12_fitsOn_2 : decode cX12_fitsOn 2 = .ok (.getfield 443, 3) := by decide +kernel
theorem dX12_fitsOn_5 : decode cX12_fitsOn 5 = .ok (.if_icmp .ne 5, 3) := by decide +kernel
theorem dX12_fitsOn_8 : decode cX12_fitsOn 8 = .ok (.iconst 1, 1) := by decide +kernel
theorem dX12_fitsOn_9 : decode cX12_fitsOn 9 = .ok (.ireturn, 1) := by decide +kernel
theorem dX12_fitsOn_10 : decode cX12_fitsOn 10 = .ok (.aload_n 0, 1) := by decide +kernel
theorem dX12_fitsOn_11 : decode cX12_fitsOn 11 = .ok (.getfield 38, 3) := by decide +kernel
theorem dX12_fitsOn_14 : decode cX12_fitsOn 14 = .ok (.iconst 4, 1) := by decide +kernel
theorem dX12_fitsOn_15 : decode cX12_fitsOn 15 = .ok (.aload_n 0, 1) := by decide +kernel
theorem dX12_fitsOn_16 : decode cX12_fitsOn 16 = .ok (.getfield 89, 3) := by decide +kernel
theorem dX12_fitsOn_19 : decode cX12_fitsOn 19 = .ok (.iload_n 1, 1) := by decide +kernel
theorem dX12_fitsOn_20 : decode cX12_fitsOn 20 = .ok (.iaload, 1) := by decide +kernel
theorem dX12_fitsOn_21 : decode cX12_fitsOn 21 = .ok (.imul, 1) := by decide +kernel
theorem dX12_fitsOn_22 : decode cX12_fitsOn 22 = .ok (.iconst 1, 1) := by decide +kernel
theorem dX12_fitsOn_23 : decode cX12_fitsOn 23 = .ok (.iadd, 1) := by decide +kernel
theorem dX12_fitsOn_24 : decode cX12_fitsOn 24 = .ok (.iaload, 1) := by decide +kernel
theorem dX12_fitsOn_25 : decode cX12_fitsOn 25 = .ok (.istore_n 3, 1) := by decide +kernel
theorem dX12_fitsOn_26 : decode cX12_fitsOn 26 = .ok (.iconst 0, 1) := by decide +kernel
theorem dX12_fitsOn_27 : decode cX12_fitsOn 27 = .ok (.istore 4, 2) := by decide +kernel
theorem dX12_fitsOn_29 : decode cX12_fitsOn 29 = .ok (.iload 4, 2) := by decide +kernel
theorem dX12_fitsOn_31 : decode cX12_fitsOn 31 = .ok (.iload_n 2, 1) := by decide +kernel
theorem dX12_fitsOn_32 : decode cX12_fitsOn 32 = .ok (.if_icmp .ge 75, 3) := by decide +kernel
theorem dX12_fitsOn_35 : decode cX12_fitsOn 35 = .ok (.aload_n 0, 1) := by decide +kernel
theorem dX12_fitsOn_36 : decode cX12_fitsOn 36 = .ok (.getfield 95, 3) := by decide +kernel
theorem dX12_fitsOn_39 : decode cX12_fitsOn 39 = .ok (.iload 4, 2) := by decide +kernel
theorem dX12_fitsOn_41 : decode cX12_fitsOn 41 = .ok (.iaload, 1) := by decide +kernel
theorem dX12_fitsOn_42 : decode cX12_fitsOn 42 = .ok (.iload_n 3, 1) := by decide +kernel
theorem dX12_fitsOn_43 : decode cX12_fitsOn 43 = .ok (.if_icmp .ge 6, 3) := by decide +kernel
theorem dX12_fitsOn_46 : decode cX12_fitsOn 46 = .ok (.goto 55, 3) := by decide +kernel
theorem dX12_fitsOn_49 : decode cX12_fitsOn 49 = .ok (.aload_n 0, 1) := by decide +kernel
theorem dX12_fitsOn_50 : decode cX12_fitsOn 50 = .ok (.getfield 95, 3) := by decide +kernel
theorem dX12_fitsOn_53 : decode cX12_fitsOn 53 = .ok (.iload 4, 2) := by decide +kernel
theorem dX12_fitsOn_55 : decode cX12_fitsOn 55 = .ok (.dup2, 1) := by decide +kernel
theorem dX12_fitsOn_56 : decode cX12_fitsOn 56 = .ok (.iaload, 1) := by decide +kernel
theorem dX12_fitsOn_57 : decode cX12_fitsOn 57 = .ok (.iload_n 3, 1) := by decide +kernel
theorem dX12_fitsOn_58 : decode cX12_fitsOn 58 = .ok (.isub, 1) := by decide +kernel
theorem dX12_fitsOn_59 : decode cX12_fitsOn 59 = .ok (.iastore, 1) := by decide +kernel
theorem dX12_fitsOn_60 : decode cX12_fitsOn 60 = .ok (.aload_n 0, 1) := by decide +kernel
theorem dX12_fitsOn_61 : decode cX12_fitsOn 61 = .ok (.getfield 92, 3) := by decide +kernel
theorem dX12_fitsOn_64 : decode cX12_fitsOn 64 = .ok (.aload_n 0, 1) := by decide +kernel
theorem dX12_fitsOn_65 : decode cX12_fitsOn 65 = .ok (.getfield 89, 3) := by decide +kernel
theorem dX12_fitsOn_68 : decode cX12_fitsOn 68 = .ok (.iload_n 1, 1) := by decide +kernel
theorem dX12_fitsOn_69 : decode cX12_fitsOn 69 = .ok (.iaload, 1) := by decide +kernel
theorem dX12_fitsOn_70 : decode cX12_fitsOn 70 = .ok (.iload 4, 2) := by decide +kernel
theorem dX12_fitsOn_72 : decode cX12_fitsOn 72 = .ok (.iastore, 1) := by decide +kernel
theorem dX12_fitsOn_73 : decode cX12_fitsOn 73 = .ok (.aload_n 0, 1) := by decide +kernel
theorem dX12_fitsOn_74 : decode cX12_fitsOn 74 = .ok (.iload_n 1, 1) := by decide +kernel
theorem dX12_fitsOn_75 : decode cX12_fitsOn 75 = .ok (.iconst 1, 1) := by decide +kernel
theorem dX12_fitsOn_76 : decode cX12_fitsOn 76 = .ok (.iadd, 1) := by decide +kernel
theorem dX12_fitsOn_77 : decode cX12_fitsOn 77 = .ok (.iload_n 2, 1) := by decide +kernel
theorem dX12_fitsOn_78 : decode cX12_fitsOn 78 = .ok (.invokevirtual 446, 3) := by decide +kernel
theorem dX12_fitsOn_81 : decode cX12_fitsOn 81 = .ok (.istore 5, 2) := by decide +kernel
theorem dX12_fitsOn_83 : decode cX12_fitsOn 83 = .ok (.aload_n 0, 1) := by decide +kernel
theorem dX12_fitsOn_84 : decode cX12_fitsOn 84 = .ok (.getfield 95, 3) := by decide +kernel
theorem dX12_fitsOn_87 : decode cX12_fitsOn 87 = .ok (.iload 4, 2) := by decide +kernel
theorem dX12_fitsOn_89 : decode cX12_fitsOn 89 = .ok (.dup2, 1) := by decide +kernel
theorem dX12_fitsOn_90 : decode cX12_fitsOn 90 = .ok (.iaload, 1) := by decide +kernel
theorem dX12_fitsOn_91 : decode cX12_fitsOn 91 = .ok (.iload_n 3, 1) := by decide +kernel
theorem dX12_fitsOn_92 : decode cX12_fitsOn 92 = .ok (.iadd, 1) := by decide +kernel
theorem dX12_fitsOn_93 : decode cX12_fitsOn 93 = .ok (.iastore, 1) := by decide +kernel
theorem dX12_fitsOn_94 : decode cX12_fitsOn 94 = .ok (.iload 5, 2) := by decide +kernel
theorem dX12_fitsOn_96 : decode cX12_fitsOn 96 = .ok (.ifCond .eq 5, 3) := by decide +kernel
theorem dX12_fitsOn_99 : decode cX12_fitsOn 99 = .ok (.iconst 1, 1) := by decide +kernel
theorem dX12_fitsOn_100 : decode cX12_fitsOn 100 = .ok (.ireturn, 1) := by decide +kernel
theorem dX12_fitsOn_101 : decode cX12_fitsOn 101 = .ok (.iinc 4 1, 3) := by decide +kernel
theorem dX12_fitsOn_104 : decode cX12_fitsOn 104 = .ok (.goto (-75), 3) := by decide +kernel
theorem dX12_fitsOn_107 : decode cX12_fitsOn 107 = .ok (.iconst 0, 1) := by decide +kernel
theorem dX12_fitsOn_108 : decode cX12_fitsOn 108 = .ok (.ireturn, 1) := by decide +kernel
theorem dX12_findNights_0 : decode cX12_findNights 0 = .ok (.aload_n 0, 1) := by decide +kernel
theorem dX12_findNights_1 : decode cX12_findNights 1 = .ok (.iconst 0, 1) := by decide +kernel
theorem dX12_findNights_2 : decode cX12_findNights 2 = .ok (.putfield 443, 3) := by decide +kernel
theorem dX12_findNights_5 : decode cX12_findNights 5 = .ok (.iconst 0, 1) := by decide +kernel
theorem dX12_findNights_6 : decode cX12_findNights 6 = .ok (.istore_n 3, 1) := by decide +kernel
theorem dX12_findNights_7 : decode cX12_findNights 7 = .ok (.iload_n 3, 1) := by decide +kernel
theorem dX12_findNights_8 : decode cX12_findNights 8 = .ok (.aload_n 0, 1) := by decide +kernel
theorem dX12_findNights_9 : decode cX12_findNights 9 = .ok (.getfield 183, 3) := by decide +kernel
theorem dX12_findNights_12 : decode cX12_findNights 12 = .ok (.if_icmp .ge 60, 3) := by decide +kernel
theorem dX12_findNights_15 : decode cX12_findNights 15 = .ok (.aload_n 0, 1) := by decide +kernel
theorem dX12_findNights_16 : decode cX12_findNights 16 = .ok (.getfield 38, 3) := by decide +kernel
theorem dX12_findNights_19 : decode cX12_findNights 19 = .ok (.iconst 4, 1) := by decide +kernel
theorem dX12_findNights_20 : decode cX12_findNights 20 = .ok (.iload_n 3, 1) := by decide +kernel
theorem dX12_findNights_21 : decode cX12_findNights 21 = .ok (.imul, 1) := by decide +kernel
theorem dX12_findNights_22 : decode cX12_findNights 22 = .ok (.iaload, 1) := by decide +kernel
theorem dX12_findNights_23 : decode cX12_findNights 23 = .ok (.iload_n 1, 1) := by decide +kernel
theorem dX12_findNights_24 : decode cX12_findNights 24 = .ok (.if_icmp .eq 6, 3) := by decide +kernel
theorem dX12_findNights_27 : decode cX12_findNights 27 = .ok (.goto 39, 3) := by decide +kernel
theorem dX12_findNights_30 : decode cX12_findNights 30 = .ok (.aload_n 0, 1) := by decide +kernel
theorem dX12_findNights_31 : decode cX12_findNights 31 = .ok (.getfield 38, 3) := by decide +kernel
theorem dX12_findNights_34 : decode cX12_findNights 34 = .ok (.iconst 4, 1) := by decide +kernel
theorem dX12_findNights_35 : decode cX12_findNights 35 = .ok (.iload_n 3, 1) := by decide +kernel
theorem dX12_findNights_36 : decode cX12_findNights 36 = .ok (.imul, 1) := by decide +kernel
theorem dX12_findNights_37 : decode cX12_findNights 37 = .ok (.iconst 1, 1) := by decide +kernel
theorem dX12_findNights_38 : decode cX12_findNights 38 = .ok (.iadd, 1) := by decide +kernel
theorem dX12_findNights_39 : decode cX12_findNights 39 = .ok (.iaload, 1) := by decide +kernel
theorem dX12_findNights_40 : decode cX12_findNights 40 = .ok (.iload_n 2, 1) := by decide +kernel
theorem dX12_findNights_41 : decode cX12_findNights 41 = .ok (.if_icmp .le 5, 3) := by decide +kernel
theorem dX12_findNights_44 : decode cX12_findNights 44 = .ok (.iconst (-1), 1) := by decide +kernel
theorem dX12_findNights_45 : decode cX12_findNights 45 = .ok (.ireturn, 1) := by decide +kernel
theorem dX12_findNights_46 : decode cX12_findNights 46 = .ok (.aload_n 0, 1) := by decide +kernel
theorem dX12_findNights_47 : decode cX12_findNights 47 = .ok (.getfield 89, 3) := by decide +kernel
theorem dX12_findNights_50 : decode cX12_findNights 50 = .ok (.aload_n 0, 1) := by decide +kernel
theorem dX12_findNights_51 : decode cX12_findNights 51 = .ok (.getfield 443, 3) := by decide +kernel
theorem dX12_findNights_54 : decode cX12_findNights 54 = .ok (.iload_n 3, 1) := by decide +kernel
theorem dX12_findNights_55 : decode cX12_findNights 55 = .ok (.iastore, 1) := by decide +kernel
theorem dX12_findNights_56 : decode cX12_findNights 56 = .ok (.aload_n 0, 1) := by decide +kernel
theorem dX12_findNights_57 : decode cX12_findNights 57 = .ok (.dup, 1) := by decide +kernel
theorem dX12_findNights_58 : decode cX12_findNights 58 = .ok (.getfield 443, 3) := by decide +kernel
theorem dX12_findNights_61 : decode cX12_findNights 61 = .ok (.iconst 1, 1) := by decide +kernel
theorem dX12_findNights_62 : decode cX12_findNights 62 = .ok (.iadd, 1) := by decide +kernel
theorem dX12_findNights_63 : decode cX12_findNights 63 = .ok (.putfield 443, 3) := by decide +kernel
theorem dX12_findNights_66 : decode cX12_findNights 66 = .ok (.iinc 3 1, 3) := by decide +kernel
theorem dX12_findNights_69 : decode cX12_findNights 69 = .ok (.goto (-62), 3) := by decide +kernel
theorem dX12_findNights_72 : decode cX12_findNights 72 = .ok (.iconst 0, 1) := by decide +kernel
theorem dX12_findNights_73 : decode cX12_findNights 73 = .ok (.istore_n 3, 1) := by decide +kernel
theorem dX12_findNights_74 : decode cX12_findNights 74 = .ok (.iload_n 3, 1) := by decide +kernel
theorem dX12_findNights_75 : decode cX12_findNights 75 = .ok (.aload_n 0, 1) := by decide +kernel
theorem dX12_findNights_76 : decode cX12_findNights 76 = .ok (.getfield 443, 3) := by decide +kernel
theorem dX12_findNights_79 : decode cX12_findNights 79 = .ok (.if_icmp .gt 43, 3) := by decide +kernel
theorem dX12_findNights_82 : decode cX12_findNights 82 = .ok (.iconst 0, 1) := by decide +kernel
theorem dX12_findNights_83 : decode cX12_findNights 83 = .ok (.istore 4, 2) := by decide +kernel
theorem dX12_findNights_85 : decode cX12_findNights 85 = .ok (.iload 4, 2) := by decide +kernel
theorem dX12_findNights_87 : decode cX12_findNights 87 = .ok (.iload_n 3, 1) := by decide +kernel
theorem dX12_findNights_88 : decode cX12_findNights 88 = .ok (.if_icmp .ge 17, 3) := by decide +kernel
theorem dX12_findNights_91 : decode cX12_findNights 91 = .ok (.aload_n 0, 1) := by decide +kernel
theorem dX12_findNights_92 : decode cX12_findNights 92 = .ok (.getfield 95, 3) := by decide +kernel
theorem dX12_findNights_95 : decode cX12_findNights 95 = .ok (.iload 4, 2) := by decide +kernel
theorem dX12_findNights_97 : decode cX12_findNights 97 = .ok (.iload_n 2, 1) := by decide +kernel
theorem dX12_findNights_98 : decode cX12_findNights 98 = .ok (.iastore, 1) := by decide +kernel
theorem dX12_findNights_99 : decode cX12_findNights 99 = .ok (.iinc 4 1, 3) := by decide +kernel
theorem dX12_findNights_102 : decode cX12_findNights 102 = .ok (.goto (-17), 3) := by decide +kernel
theorem dX12_findNights_105 : decode cX12_findNights 105 = .ok (.aload_n 0, 1) := by decide +kernel
theorem dX12_findNights_106 : decode cX12_findNights 106 = .ok (.iconst 0, 1) := by decide +kernel
theorem dX12_findNights_107 : decode cX12_findNights 107 = .ok (.iload_n 3, 1) := by decide +kernel
theorem dX12_findNights_108 : decode cX12_findNights 108 = .ok (.invokevirtual 446, 3) := by decide +kernel
theorem dX12_findNights_111 : decode cX12_findNights 111 = .ok (.ifCond .eq 5, 3) := by decide +kernel
theorem dX12_findNights_114 : decode cX12_findNights 114 = .ok (.iload_n 3, 1) := by decide +kernel
theorem dX12_findNights_115 : decode cX12_findNights 115 = .ok (.ireturn, 1) := by decide +kernel
theorem dX12_findNights_116 : decode cX12_findNights 116 = .ok (.iinc 3 1, 3) := by decide +kernel
theorem dX12_findNights_119 : decode cX12_findNights 119 = .ok (.goto (-45), 3) := by decide +kernel
theorem dX12_findNights_122 : decode cX12_findNights 122 = .ok (.iconst (-1), 1) := by decide +kernel
theorem dX12_findNights_123 : decode cX12_findNights 123 = .ok (.ireturn, 1) := by decide +kernel
theorem dX12_nights_0 : decode cX12_nights 0 = .ok (.aload_n 0, 1) := by decide +kernel
theorem dX12_nights_1 : decode cX12_nights 1 = .ok (.iconst 0, 1) := by decide +kernel
theorem dX12_nights_2 : decode cX12_nights 2 = .ok (.putfield 3, 3) := by decide +kernel
theorem dX12_nights_5 : decode cX12_nights 5 = .ok (.aload_n 0, 1) := by decide +kernel
theorem dX12_nights_6 : decode cX12_nights 6 = .ok (.iload_n 1, 1) := by decide +kernel
theorem dX12_nights_7 : decode cX12_nights 7 = .ok (.iconst 1, 1) := by decide +kernel
theorem dX12_nights_8 : decode cX12_nights 8 = .ok (.invokevirtual 393, 3) := by decide +kernel
theorem dX12_nights_11 : decode cX12_nights 11 = .ok (.ifCond .eq 19, 3) := by decide +kernel
theorem dX12_nights_14 : decode cX12_nights 14 = .ok (.aload_n 0, 1) := by decide +kernel
theorem dX12_nights_15 : decode cX12_nights 15 = .ok (.iload_n 2, 1) := by decide +kernel
theorem dX12_nights_16 : decode cX12_nights 16 = .ok (.iconst 1, 1) := by decide +kernel
theorem dX12_nights_17 : decode cX12_nights 17 = .ok (.bipush 24, 2) := by decide +kernel
theorem dX12_nights_19 : decode cX12_nights 19 = .ok (.invokestatic 303, 3) := by decide +kernel
theorem dX12_nights_22 : decode cX12_nights 22 = .ok (.iconst 2, 1) := by decide +kernel
theorem dX12_nights_23 : decode cX12_nights 23 = .ok (.iconst 1, 1) := by decide +kernel
theorem dX12_nights_24 : decode cX12_nights 24 = .ok (.invokevirtual 229, 3) := by decide +kernel
theorem dX12_nights_27 : decode cX12_nights 27 = .ok (.ifCond .ne 5, 3) := by decide +kernel
theorem dX12_nights_30 : decode cX12_nights 30 = .ok (.iconst 0, 1) := by decide +kernel
theorem dX12_nights_31 : decode cX12_nights 31 = .ok (.ireturn, 1) := by decide +kernel
theorem dX12_nights_32 : decode cX12_nights 32 = .ok (.aload_n 0, 1) := by decide +kernel
theorem dX12_nights_33 : decode cX12_nights 33 = .ok (.iload_n 1, 1) := by decide +kernel
theorem dX12_nights_34 : decode cX12_nights 34 = .ok (.iload_n 2, 1) := by decide +kernel
theorem dX12_nights_35 : decode cX12_nights 35 = .ok (.invokevirtual 449, 3) := by decide +kernel
theorem dX12_nights_38 : decode cX12_nights 38 = .ok (.ireturn, 1) := by decide +kernel
theorem dX12_night_0 : decode cX12_night 0 = .ok (.aload_n 0, 1) := by decide +kernel
theorem dX12_night_1 : decode cX12_night 1 = .ok (.iconst 0, 1) := by decide +kernel
theorem dX12_night_2 : decode cX12_night 2 = .ok (.putfield 3, 3) := by decide +kernel
theorem dX12_night_5 : decode cX12_night 5 = .ok (.aload_n 0, 1) := by decide +kernel
theorem dX12_night_6 : decode cX12_night 6 = .ok (.iload_n 1, 1) := by decide +kernel
theorem dX12_night_7 : decode cX12_night 7 = .ok (.iconst 1, 1) := by decide +kernel
theorem dX12_night_8 : decode cX12_night 8 = .ok (.invokevirtual 402, 3) := by decide +kernel
theorem dX12_night_11 : decode cX12_night 11 = .ok (.ifCond .eq 19, 3) := by decide +kernel
theorem dX12_night_14 : decode cX12_night 14 = .ok (.aload_n 0, 1) := by decide +kernel
theorem dX12_night_15 : decode cX12_night 15 = .ok (.iload_n 2, 1) := by decide +kernel
theorem dX12_night_16 : decode cX12_night 16 = .ok (.iconst 1, 1) := by decide +kernel
theorem dX12_night_17 : decode cX12_night 17 = .ok (.bipush 24, 2) := by decide +kernel
theorem dX12_night_19 : decode cX12_night 19 = .ok (.invokestatic 303, 3) := by decide +kernel
theorem dX12_night_22 : decode cX12_night 22 = .ok (.iconst 2, 1) := by decide +kernel
theorem dX12_night_23 : decode cX12_night 23 = .ok (.iconst 1, 1) := by decide +kernel
theorem dX12_night_24 : decode cX12_night 24 = .ok (.invokevirtual 229, 3) := by decide +kernel
theorem dX12_night_27 : decode cX12_night 27 = .ok (.ifCond .ne 5, 3) := by decide +kernel
theorem dX12_night_30 : decode cX12_night 30 = .ok (.iconst 0, 1) := by decide +kernel
theorem dX12_night_31 : decode cX12_night 31 = .ok (.ireturn, 1) := by decide +kernel
theorem dX12_night_32 : decode cX12_night 32 = .ok (.aload_n 0, 1) := by decide +kernel
theorem dX12_night_33 : decode cX12_night 33 = .ok (.aload_n 0, 1) := by decide +kernel
theorem dX12_night_34 : decode cX12_night 34 = .ok (.getfield 38, 3) := by decide +kernel
theorem dX12_night_37 : decode cX12_night 37 = .ok (.iconst 4, 1) := by decide +kernel
theorem dX12_night_38 : decode cX12_night 38 = .ok (.iload_n 1, 1) := by decide +kernel
theorem dX12_night_39 : decode cX12_night 39 = .ok (.imul, 1) := by decide +kernel
theorem dX12_night_40 : decode cX12_night 40 = .ok (.iaload, 1) := by decide +kernel
theorem dX12_night_41 : decode cX12_night 41 = .ok (.iload_n 2, 1) := by decide +kernel
theorem dX12_night_42 : decode cX12_night 42 = .ok (.invokevirtual 449, 3) := by decide +kernel
theorem dX12_night_45 : decode cX12_night 45 = .ok (.iconst (-1), 1) := by decide +kernel
theorem dX12_night_46 : decode cX12_night 46 = .ok (.if_icmp .ne 7, 3) := by decide +kernel
theorem dX12_night_49 : decode cX12_night 49 = .ok (.iconst (-1), 1) := by decide +kernel
theorem dX12_night_50 : decode cX12_night 50 = .ok (.goto 9, 3) := by decide +kernel
theorem dX12_night_53 : decode cX12_night 53 = .ok (.aload_n 0, 1) := by decide +kernel
theorem dX12_night_54 : decode cX12_night 54 = .ok (.getfield 92, 3) := by decide +kernel
theorem dX12_night_57 : decode cX12_night 57 = .ok (.iload_n 1, 1) := by decide +kernel
theorem dX12_night_58 : decode cX12_night 58 = .ok (.iaload, 1) := by decide +kernel
theorem dX12_night_59 : decode cX12_night 59 = .ok (.ireturn, 1) := by decide +kernel
theorem dX12_looks_0 : decode cX12_looks 0 = .ok (.aload_n 0, 1) := by decide +kernel
theorem dX12_looks_1 : decode cX12_looks 1 = .ok (.iconst 0, 1) := by decide +kernel
theorem dX12_looks_2 : decode cX12_looks 2 = .ok (.putfield 3, 3) := by decide +kernel
theorem dX12_looks_5 : decode cX12_looks 5 = .ok (.aload_n 0, 1) := by decide +kernel
theorem dX12_looks_6 : decode cX12_looks 6 = .ok (.iload_n 1, 1) := by decide +kernel
theorem dX12_looks_7 : decode cX12_looks 7 = .ok (.iconst 1, 1) := by decide +kernel
theorem dX12_looks_8 : decode cX12_looks 8 = .ok (.bipush 40, 2) := by decide +kernel
theorem dX12_looks_10 : decode cX12_looks 10 = .ok (.invokestatic 303, 3) := by decide +kernel
theorem dX12_looks_13 : decode cX12_looks 13 = .ok (.ifCond .eq 26, 3) := by decide +kernel
theorem dX12_looks_16 : decode cX12_looks 16 = .ok (.iload_n 2, 1) := by decide +kernel
theorem dX12_looks_17 : decode cX12_looks 17 = .ok (.iconst 1, 1) := by decide +kernel
theorem dX12_looks_18 : decode cX12_looks 18 = .ok (.bipush 40, 2) := by decide +kernel
theorem dX12_looks_20 : decode cX12_looks 20 = .ok (.invokestatic 303, 3) := by decide +kernel
theorem dX12_looks_23 : decode cX12_looks 23 = .ok (.ifCond .eq 16, 3) := by decide +kernel
theorem dX12_looks_26 : decode cX12_looks 26 = .ok (.iload_n 3, 1) := by decide +kernel
theorem dX12_looks_27 : decode cX12_looks 27 = .ok (.iconst 0, 1) := by decide +kernel
theorem dX12_looks_28 : decode cX12_looks 28 = .ok (.iconst 1, 1) := by decide +kernel
theorem dX12_looks_29 : decode cX12_looks 29 = .ok (.invokestatic 303, 3) := by decide +kernel
theorem dX12_looks_32 : decode cX12_looks 32 = .ok (.ifCond .eq 7, 3) := by decide +kernel
theorem dX12_looks_35 : decode cX12_looks 35 = .ok (.iconst 1, 1) := by decide +kernel
theorem dX12_looks_36 : decode cX12_looks 36 = .ok (.goto 4, 3) := by decide +kernel
theorem dX12_looks_39 : decode cX12_looks 39 = .ok (.iconst 0, 1) := by decide +kernel
theorem dX12_looks_40 : decode cX12_looks 40 = .ok (.iconst 1, 1) := by decide +kernel
theorem dX12_looks_41 : decode cX12_looks 41 = .ok (.iconst 1, 1) := by decide +kernel
theorem dX12_looks_42 : decode cX12_looks 42 = .ok (.invokevirtual 229, 3) := by decide +kernel
theorem dX12_looks_45 : decode cX12_looks 45 = .ok (.ifCond .ne 5, 3) := by decide +kernel
theorem dX12_looks_48 : decode cX12_looks 48 = .ok (.iconst 0, 1) := by decide +kernel
theorem dX12_looks_49 : decode cX12_looks 49 = .ok (.ireturn, 1) := by decide +kernel
theorem dX12_looks_50 : decode cX12_looks 50 = .ok (.aload_n 0, 1) := by decide +kernel
theorem dX12_looks_51 : decode cX12_looks 51 = .ok (.getfield 98, 3) := by decide +kernel
theorem dX12_looks_54 : decode cX12_looks 54 = .ok (.iconst 1, 1) := by decide +kernel
theorem dX12_looks_55 : decode cX12_looks 55 = .ok (.iconst 0, 1) := by decide +kernel
theorem dX12_looks_56 : decode cX12_looks 56 = .ok (.iastore, 1) := by decide +kernel
theorem dX12_looks_57 : decode cX12_looks 57 = .ok (.aload_n 0, 1) := by decide +kernel
theorem dX12_looks_58 : decode cX12_looks 58 = .ok (.getfield 101, 3) := by decide +kernel
theorem dX12_looks_61 : decode cX12_looks 61 = .ok (.iconst 1, 1) := by decide +kernel
theorem dX12_looks_62 : decode cX12_looks 62 = .ok (.iconst 0, 1) := by decide +kernel
theorem dX12_looks_63 : decode cX12_looks 63 = .ok (.iastore, 1) := by decide +kernel
theorem dX12_looks_64 : decode cX12_looks 64 = .ok (.iconst 2, 1) := by decide +kernel
theorem dX12_looks_65 : decode cX12_looks 65 = .ok (.istore 4, 2) := by decide +kernel
theorem dX12_looks_67 : decode cX12_looks 67 = .ok (.iload 4, 2) := by decide +kernel
theorem dX12_looks_69 : decode cX12_looks 69 = .ok (.iload_n 1, 1) := by decide +kernel
theorem dX12_looks_70 : decode cX12_looks 70 = .ok (.if_icmp .gt 127, 3) := by decide +kernel
theorem dX12_looks_73 : decode cX12_looks 73 = .ok (.aload_n 0, 1) := by decide +kernel
theorem dX12_looks_74 : decode cX12_looks 74 = .ok (.getfield 98, 3) := by decide +kernel
theorem dX12_looks_77 : decode cX12_looks 77 = .ok (.iload 4, 2) := by decide +kernel
theorem dX12_looks_79 : decode cX12_looks 79 = .ok (.iconst (-1), 1) := by decide +kernel
theorem dX12_looks_80 : decode cX12_looks 80 = .ok (.iastore, 1) := by decide +kernel
theorem dX12_looks_81 : decode cX12_looks 81 = .ok (.iconst 1, 1) := by decide +kernel
theorem dX12_looks_82 : decode cX12_looks 82 = .ok (.istore 5, 2) := by decide +kernel
theorem dX12_looks_84 : decode cX12_looks 84 = .ok (.iload 5, 2) := by decide +kernel
theorem dX12_looks_86 : decode cX12_looks 86 = .ok (.iload_n 2, 1) := by decide +kernel
theorem dX12_looks_87 : decode cX12_looks 87 = .ok (.if_icmp .gt 104, 3) := by decide +kernel
theorem dX12_looks_90 : decode cX12_looks 90 = .ok (.iload 5, 2) := by decide +kernel
theorem dX12_looks_92 : decode cX12_looks 92 = .ok (.iload 4, 2) := by decide +kernel
theorem dX12_looks_94 : decode cX12_looks 94 = .ok (.if_icmp .ge 97, 3) := by decide +kernel
theorem dX12_looks_97 : decode cX12_looks 97 = .ok (.iconst 1, 1) := by decide +kernel
theorem dX12_looks_98 : decode cX12_looks 98 = .ok (.aload_n 0, 1) := by decide +kernel
theorem dX12_looks_99 : decode cX12_looks 99 = .ok (.getfield 98, 3) := by decide +kernel
theorem dX12_looks_102 : decode cX12_looks 102 = .ok (.iload 5, 2) := by decide +kernel
theorem dX12_looks_104 : decode cX12_looks 104 = .ok (.iaload, 1) := by decide +kernel
theorem dX12_looks_105 : decode cX12_looks 105 = .ok (.aload_n 0, 1) := by decide +kernel
theorem dX12_looks_106 : decode cX12_looks 106 = .ok (.getfield 98, 3) := by decide +kernel
theorem dX12_looks_109 : decode cX12_looks 109 = .ok (.iload 4, 2) := by decide +kernel
theorem dX12_looks_111 : decode cX12_looks 111 = .ok (.iload 5, 2) := by decide +kernel
theorem dX12_looks_113 : decode cX12_looks 113 = .ok (.isub, 1) := by decide +kernel
theorem dX12_looks_114 : decode cX12_looks 114 = .ok (.iaload, 1) := by decide +kernel
theorem dX12_looks_115 : decode cX12_looks 115 = .ok (.if_icmp .le 13, 3) := by decide +kernel
theorem dX12_looks_118 : decode cX12_looks 118 = .ok (.aload_n 0, 1) := by decide +kernel
theorem dX12_looks_119 : decode cX12_looks 119 = .ok (.getfield 98, 3) := by decide +kernel
theorem dX12_looks_122 : decode cX12_looks 122 = .ok (.iload 5, 2) := by decide +kernel
theorem dX12_looks_124 : decode cX12_looks 124 = .ok (.iaload, 1) := by decide +kernel
theorem dX12_looks_125 : decode cX12_looks 125 = .ok (.goto 13, 3) := by decide +kernel
theorem dX12_looks_128 : decode cX12_looks 128 = .ok (.aload_n 0, 1) := by decide +kernel
theorem dX12_looks_129 : decode cX12_looks 129 = .ok (.getfield 98, 3) := by decide +kernel
theorem dX12_looks_132 : decode cX12_looks 132 = .ok (.iload 4, 2) := by decide +kernel
theorem dX12_looks_134 : decode cX12_looks 134 = .ok (.iload 5, 2) := by decide +kernel
theorem dX12_looks_136 : decode cX12_looks 136 = .ok (.isub, 1) := by decide +kernel
theorem dX12_looks_137 : decode cX12_looks 137 = .ok (.iaload, 1) := by decide +kernel
theorem dX12_looks_138 : decode cX12_looks 138 = .ok (.iadd, 1) := by decide +kernel
theorem dX12_looks_139 : decode cX12_looks 139 = .ok (.istore 6, 2) := by decide +kernel
theorem dX12_looks_141 : decode cX12_looks 141 = .ok (.aload_n 0, 1) := by decide +kernel
theorem dX12_looks_142 : decode cX12_looks 142 = .ok (.getfield 98, 3) := by decide +kernel
theorem dX12_looks_145 : decode cX12_looks 145 = .ok (.iload 4, 2) := by decide +kernel
theorem dX12_looks_147 : decode cX12_looks 147 = .ok (.iaload, 1) := by decide +kernel
theorem dX12_looks_148 : decode cX12_looks 148 = .ok (.iconst (-1), 1) := by decide +kernel
theorem dX12_looks_149 : decode cX12_looks 149 = .ok (.if_icmp .eq 18, 3) := by decide +kernel
theorem dX12_looks_152 : decode cX12_looks 152 = .ok (.iload 6, 2) := by decide +kernel
theorem dX12_looks_154 : decode cX12_looks 154 = .ok (.aload_n 0, 1) := by decide +kernel
theorem dX12_looks_155 : decode cX12_looks 155 = .ok (.getfield 98, 3) := by decide +kernel
theorem dX12_looks_158 : decode cX12_looks 158 = .ok (.iload 4, 2) := by decide +kernel
theorem dX12_looks_160 : decode cX12_looks 160 = .ok (.iaload, 1) := by decide +kernel
theorem dX12_looks_161 : decode cX12_looks 161 = .ok (.if_icmp .lt 6, 3) := by decide +kernel
theorem dX12_looks_164 : decode cX12_looks 164 = .ok (.goto 21, 3) := by decide +kernel
theorem dX12_looks_167 : decode cX12_looks 167 = .ok (.aload_n 0, 1) := by decide +kernel
theorem dX12_looks_168 : decode cX12_looks 168 = .ok (.getfield 98, 3) := by decide +kernel
theorem dX12_looks_171 : decode cX12_looks 171 = .ok (.iload 4, 2) := by decide +kernel
theorem dX12_looks_173 : decode cX12_looks 173 = .ok (.iload 6, 2) := by decide +kernel
theorem dX12_looks_175 : decode cX12_looks 175 = .ok (.iastore, 1) := by decide +kernel
theorem dX12_looks_176 : decode cX12_looks 176 = .ok (.aload_n 0, 1) := by decide +kernel
theorem dX12_looks_177 : decode cX12_looks 177 = .ok (.getfield 101, 3) := by decide +kernel
theorem dX12_looks_180 : decode cX12_looks 180 = .ok (.iload 4, 2) := by decide +kernel
theorem dX12_looks_182 : decode cX12_looks 182 = .ok (.iload 5, 2) := by decide +kernel
theorem dX12_looks_184 : decode cX12_looks 184 = .ok (.iastore, 1) := by decide +kernel
theorem dX12_looks_185 : decode cX12_looks 185 = .ok (.iinc 5 1, 3) := by decide +kernel
theorem dX12_looks_188 : decode cX12_looks 188 = .ok (.goto (-104), 3) := by decide +kernel
theorem dX12_looks_191 : decode cX12_looks 191 = .ok (.iinc 4 1, 3) := by decide +kernel
theorem dX12_looks_194 : decode cX12_looks 194 = .ok (.goto (-127), 3) := by decide +kernel
theorem dX12_looks_197 : decode cX12_looks 197 = .ok (.iload_n 3, 1) := by decide +kernel
theorem dX12_looks_198 : decode cX12_looks 198 = .ok (.ifCond .ne 12, 3) := by decide +kernel
theorem dX12_looks_201 : decode cX12_looks 201 = .ok (.aload_n 0, 1) := by decide +kernel
theorem dX12_looks_202 : decode cX12_looks 202 = .ok (.getfield 98, 3) := by decide +kernel
theorem dX12_looks_205 : decode cX12_looks 205 = .ok (.iload_n 1, 1) := by decide +kernel
theorem dX12_looks_206 : decode cX12_looks 206 = .ok (.iaload, 1) := by decide +kernel
theorem dX12_looks_207 : decode cX12_looks 207 = .ok (.goto 9, 3) := by decide +kernel
theorem dX12_looks_210 : decode cX12_looks 210 = .ok (.aload_n 0, 1) := by decide +kernel
theorem dX12_looks_211 : decode cX12_looks 211 = .ok (.getfield 101, 3) := by decide +kernel
theorem dX12_looks_214 : decode cX12_looks 214 = .ok (.iload_n 1, 1) := by decide +kernel
theorem dX12_looks_215 : decode cX12_looks 215 = .ok (.iaload, 1) := by decide +kernel
theorem dX12_looks_216 : decode cX12_looks 216 = .ok (.ireturn, 1) := by decide +kernel
theorem dX12_findAlong_0 : decode cX12_findAlong 0 = .ok (.iconst 0, 1) := by decide +kernel
theorem dX12_findAlong_1 : decode cX12_findAlong 1 = .ok (.istore_n 1, 1) := by decide +kernel
theorem dX12_findAlong_2 : decode cX12_findAlong 2 = .ok (.iload_n 1, 1) := by decide +kernel
theorem dX12_findAlong_3 : decode cX12_findAlong 3 = .ok (.aload_n 0, 1) := by decide +kernel
theorem dX12_findAlong_4 : decode cX12_findAlong 4 = .ok (.getfield 180, 3) := by decide +kernel
theorem dX12_findAlong_7 : decode cX12_findAlong 7 = .ok (.if_icmp .ge 68, 3) := by decide +kernel
theorem dX12_findAlong_10 : decode cX12_findAlong 10 = .ok (.iload_n 1, 1) := by decide +kernel
theorem dX12_findAlong_11 : decode cX12_findAlong 11 = .ok (.istore_n 2, 1) := by decide +kernel
theorem dX12_findAlong_12 : decode cX12_findAlong 12 = .ok (.iload_n 2, 1) := by decide +kernel
theorem dX12_findAlong_13 : decode cX12_findAlong 13 = .ok (.ifCond .le 49, 3) := by decide +kernel
theorem dX12_findAlong_16 : decode cX12_findAlong 16 = .ok (.aload_n 0, 1) := by decide +kernel
theorem dX12_findAlong_17 : decode cX12_findAlong 17 = .ok (.getfield 35, 3) := by decide +kernel
theorem dX12_findAlong_20 : decode cX12_findAlong 20 = .ok (.iconst 4, 1) := by decide +kernel
theorem dX12_findAlong_21 : decode cX12_findAlong 21 = .ok (.aload_n 0, 1) := by decide +kernel
theorem dX12_findAlong_22 : decode cX12_findAlong 22 = .ok (.getfield 104, 3) := by decide +kernel
theorem dX12_findAlong_25 : decode cX12_findAlong 25 = .ok (.iload_n 2, 1) := by decide +kernel
theorem dX12_findAlong_26 : decode cX12_findAlong 26 = .ok (.iconst 1, 1) := by decide +kernel
theorem dX12_findAlong_27 : decode cX12_findAlong 27 = .ok (.isub, 1) := by decide +kernel
theorem dX12_findAlong_28 : decode cX12_findAlong 28 = .ok (.iaload, 1) := by decide +kernel
theorem dX12_findAlong_29 : decode cX12_findAlong 29 = .ok (.imul, 1) := by decide +kernel
theorem dX12_findAlong_30 : decode cX12_findAlong 30 = .ok (.iaload, 1) := by decide +kernel
theorem dX12_findAlong_31 : decode cX12_findAlong 31 = .ok (.aload_n 0, 1) := by decide +kernel
theorem dX12_findAlong_32 : decode cX12_findAlong 32 = .ok (.getfield 35, 3) := by decide +kernel
theorem dX12_findAlong_35 : decode cX12_findAlong 35 = .ok (.iconst 4, 1) := by decide +kernel
theorem dX12_findAlong_36 : decode cX12_findAlong 36 = .ok (.iload_n 1, 1) := by decide +kernel
theorem dX12_findAlong_37 : decode cX12_findAlong 37 = .ok (.imul, 1) := by decide +kernel
theorem dX12_findAlong_38 : decode cX12_findAlong 38 = .ok (.iaload, 1) := by decide +kernel
theorem dX12_findAlong_39 : decode cX12_findAlong 39 = .ok (.if_icmp .le 23, 3) := by decide +kernel
theorem dX12_findAlong_42 : decode cX12_findAlong 42 = .ok (.aload_n 0, 1) := by decide +kernel
theorem dX12_findAlong_43 : decode cX12_findAlong 43 = .ok (.getfield 104, 3) := by decide +kernel
theorem dX12_findAlong_46 : decode cX12_findAlong 46 = .ok (.iload_n 2, 1) := by decide +kernel
theorem dX12_findAlong_47 : decode cX12_findAlong 47 = .ok (.aload_n 0, 1) := by decide +kernel
theorem dX12_findAlong_48 : decode cX12_findAlong 48 = .ok (.getfield 104, 3) := by decide +kernel
theorem dX12_findAlong_51 : decode cX12_findAlong 51 = .ok (.iload_n 2, 1) := by decide +kernel
theorem dX12_findAlong_52 : decode cX12_findAlong 52 = .ok (.iconst 1, 1) := by decide +kernel
theorem dX12_findAlong_53 : decode cX12_findAlong 53 = .ok (.isub, 1) := by decide +kernel
theorem dX12_findAlong_54 : decode cX12_findAlong 54 = .ok (.iaload, 1) := by decide +kernel
theorem dX12_findAlong_55 : decode cX12_findAlong 55 = .ok (.iastore, 1) := by decide +kernel
theorem dX12_findAlong_56 : decode cX12_findAlong 56 = .ok (.iinc 2 (-1), 3) := by decide +kernel
theorem dX12_findAlong_59 : decode cX12_findAlong 59 = .ok (.goto (-47), 3) := by decide +kernel
theorem dX12_findAlong_62 : decode cX12_findAlong 62 = .ok (.aload_n 0, 1) := by decide +kernel
theorem dX12_findAlong_63 : decode cX12_findAlong 63 = .ok (.getfield 104, 3) := by decide +kernel
theorem dX12_findAlong_66 : decode cX12_findAlong 66 = .ok (.iload_n 2, 1) := by decide +kernel
theorem dX12_findAlong_67 : decode cX12_findAlong 67 = .ok (.iload_n 1, 1) := by decide +kernel
theorem dX12_findAlong_68 : decode cX12_findAlong 68 = .ok (.iastore, 1) := by decide +kernel
theorem dX12_findAlong_69 : decode cX12_findAlong 69 = .ok (.iinc 1 1, 3) := by decide +kernel
theorem dX12_findAlong_72 : decode cX12_findAlong 72 = .ok (.goto (-70), 3) := by decide +kernel
theorem dX12_findAlong_75 : decode cX12_findAlong 75 = .ok (.return_, 1) := by decide +kernel
theorem dX12_missOf_0 : decode cX12_missOf 0 = .ok (.iconst 2, 1) := by decide +kernel
theorem dX12_missOf_1 : decode cX12_missOf 1 = .ok (.iload_n 2, 1) := by decide +kernel
theorem dX12_missOf_2 : decode cX12_missOf 2 = .ok (.iload_n 1, 1) := by decide +kernel
theorem dX12_missOf_3 : decode cX12_missOf 3 = .ok (.ishr, 1) := by decide +kernel
theorem dX12_missOf_4 : decode cX12_missOf 4 = .ok (.iconst 1, 1) := by decide +kernel
theorem dX12_missOf_5 : decode cX12_missOf 5 = .ok (.iand, 1) := by decide +kernel
theorem dX12_missOf_6 : decode cX12_missOf 6 = .ok (.imul, 1) := by decide +kernel
theorem dX12_missOf_7 : decode cX12_missOf 7 = .ok (.istore_n 3, 1) := by decide +kernel
theorem dX12_missOf_8 : decode cX12_missOf 8 = .ok (.iconst 0, 1) := by decide +kernel
theorem dX12_missOf_9 : decode cX12_missOf 9 = .ok (.istore 4, 2) := by decide +kernel
theorem dX12_missOf_11 : decode cX12_missOf 11 = .ok (.iload 4, 2) := by decide +kernel
theorem dX12_missOf_13 : decode cX12_missOf 13 = .ok (.aload_n 0, 1) := by decide +kernel
theorem dX12_missOf_14 : decode cX12_missOf 14 = .ok (.getfield 180, 3) := by decide +kernel
theorem dX12_missOf_17 : decode cX12_missOf 17 = .ok (.if_icmp .ge 71, 3) := by decide +kernel
theorem dX12_missOf_20 : decode cX12_missOf 20 = .ok (.aload_n 0, 1) := by decide +kernel
theorem dX12_missOf_21 : decode cX12_missOf 21 = .ok (.getfield 104, 3) := by decide +kernel
theorem dX12_missOf_24 : decode cX12_missOf 24 = .ok (.iload 4, 2) := by decide +kernel
theorem dX12_missOf_26 : decode cX12_missOf 26 = .ok (.iaload, 1) := by decide +kernel
theorem dX12_missOf_27 : decode cX12_missOf 27 = .ok (.iload_n 1, 1) := by decide +kernel
theorem dX12_missOf_28 : decode cX12_missOf 28 = .ok (.if_icmp .eq 6, 3) := by decide +kernel
theorem dX12_missOf_31 : decode cX12_missOf 31 = .ok (.goto 51, 3) := by decide +kernel
theorem dX12_missOf_34 : decode cX12_missOf 34 = .ok (.iload 4, 2) := by decide +kernel
theorem dX12_missOf_36 : decode cX12_missOf 36 = .ok (.ifCond .le 19, 3) := by decide +kernel
theorem dX12_missOf_39 : decode cX12_missOf 39 = .ok (.iload_n 3, 1) := by decide +kernel
theorem dX12_missOf_40 : decode cX12_missOf 40 = .ok (.iload_n 2, 1) := by decide +kernel
theorem dX12_missOf_41 : decode cX12_missOf 41 = .ok (.aload_n 0, 1) := by decide +kernel
theorem dX12_missOf_42 : decode cX12_missOf 42 = .ok (.getfield 104, 3) := by decide +kernel
theorem dX12_missOf_45 : decode cX12_missOf 45 = .ok (.iload 4, 2) := by decide +kernel
theorem dX12_missOf_47 : decode cX12_missOf 47 = .ok (.iconst 1, 1) := by decide +kernel
theorem dX12_missOf_48 : decode cX12_missOf 48 = .ok (.isub, 1) := by decide +kernel
theorem dX12_missOf_49 : decode cX12_missOf 49 = .ok (.iaload, 1) := by decide +kernel
theorem dX12_missOf_50 : decode cX12_missOf 50 = .ok (.ishr, 1) := by decide +kernel
theorem dX12_missOf_51 : decode cX12_missOf 51 = .ok (.iconst 1, 1) := by decide +kernel
theorem dX12_missOf_52 : decode cX12_missOf 52 = .ok (.iand, 1) := by decide +kernel
theorem dX12_missOf_53 : decode cX12_missOf 53 = .ok (.iadd, 1) := by decide +kernel
theorem dX12_missOf_54 : decode cX12_missOf 54 = .ok (.istore_n 3, 1) := by decide +kernel
theorem dX12_missOf_55 : decode cX12_missOf 55 = .ok (.iload 4, 2) := by decide +kernel
theorem dX12_missOf_57 : decode cX12_missOf 57 = .ok (.iconst 1, 1) := by decide +kernel
theorem dX12_missOf_58 : decode cX12_missOf 58 = .ok (.iadd, 1) := by decide +kernel
theorem dX12_missOf_59 : decode cX12_missOf 59 = .ok (.aload_n 0, 1) := by decide +kernel
theorem dX12_missOf_60 : decode cX12_missOf 60 = .ok (.getfield 180, 3) := by decide +kernel
theorem dX12_missOf_63 : decode cX12_missOf 63 = .ok (.if_icmp .ge 19, 3) := by decide +kernel
theorem dX12_missOf_66 : decode cX12_missOf 66 = .ok (.iload_n 3, 1) := by decide +kernel
theorem dX12_missOf_67 : decode cX12_missOf 67 = .ok (.iload_n 2, 1) := by decide +kernel
theorem dX12_missOf_68 : decode cX12_missOf 68 = .ok (.aload_n 0, 1) := by decide +kernel
theorem dX12_missOf_69 : decode cX12_missOf 69 = .ok (.getfield 104, 3) := by decide +kernel
theorem dX12_missOf_72 : decode cX12_missOf 72 = .ok (.iload 4, 2) := by decide +kernel
theorem dX12_missOf_74 : decode cX12_missOf 74 = .ok (.iconst 1, 1) := by decide +kernel
theorem dX12_missOf_75 : decode cX12_missOf 75 = .ok (.iadd, 1) := by decide +kernel
theorem dX12_missOf_76 : decode cX12_missOf 76 = .ok (.iaload, 1) := by decide +kernel
theorem dX12_missOf_77 : decode cX12_missOf 77 = .ok (.ishr, 1) := by decide +kernel
theorem dX12_missOf_78 : decode cX12_missOf 78 = .ok (.iconst 1, 1) := by decide +kernel
theorem dX12_missOf_79 : decode cX12_missOf 79 = .ok (.iand, 1) := by decide +kernel
theorem dX12_missOf_80 : decode cX12_missOf 80 = .ok (.iadd, 1) := by decide +kernel
theorem dX12_missOf_81 : decode cX12_missOf 81 = .ok (.istore_n 3, 1) := by decide +kernel
theorem dX12_missOf_82 : decode cX12_missOf 82 = .ok (.iinc 4 1, 3) := by decide +kernel
theorem dX12_missOf_85 : decode cX12_missOf 85 = .ok (.goto (-74), 3) := by decide +kernel
theorem dX12_missOf_88 : decode cX12_missOf 88 = .ok (.iload_n 3, 1) := by decide +kernel
theorem dX12_missOf_89 : decode cX12_missOf 89 = .ok (.ireturn, 1) := by decide +kernel
theorem dX12_leaky_0 : decode cX12_leaky 0 = .ok (.aload_n 0, 1) := by decide +kernel
theorem dX12_leaky_1 : decode cX12_leaky 1 = .ok (.iconst 0, 1) := by decide +kernel
theorem dX12_leaky_2 : decode cX12_leaky 2 = .ok (.putfield 3, 3) := by decide +kernel
theorem dX12_leaky_5 : decode cX12_leaky 5 = .ok (.aload_n 0, 1) := by decide +kernel
theorem dX12_leaky_6 : decode cX12_leaky 6 = .ok (.iload_n 1, 1) := by decide +kernel
theorem dX12_leaky_7 : decode cX12_leaky 7 = .ok (.iconst 0, 1) := by decide +kernel
theorem dX12_leaky_8 : decode cX12_leaky 8 = .ok (.iconst 3, 1) := by decide +kernel
theorem dX12_leaky_9 : decode cX12_leaky 9 = .ok (.invokestatic 303, 3) := by decide +kernel
theorem dX12_leaky_12 : decode cX12_leaky 12 = .ok (.iconst 1, 1) := by decide +kernel
theorem dX12_leaky_13 : decode cX12_leaky 13 = .ok (.iconst 1, 1) := by decide +kernel
theorem dX12_leaky_14 : decode cX12_leaky 14 = .ok (.invokevirtual 229, 3) := by decide +kernel
theorem dX12_leaky_17 : decode cX12_leaky 17 = .ok (.ifCond .ne 5, 3) := by decide +kernel
theorem dX12_leaky_20 : decode cX12_leaky 20 = .ok (.iconst 0, 1) := by decide +kernel
theorem dX12_leaky_21 : decode cX12_leaky 21 = .ok (.ireturn, 1) := by decide +kernel
theorem dX12_leaky_22 : decode cX12_leaky 22 = .ok (.aload_n 0, 1) := by decide +kernel
theorem dX12_leaky_23 : decode cX12_leaky 23 = .ok (.invokevirtual 452, 3) := by decide +kernel
theorem dX12_leaky_26 : decode cX12_leaky 26 = .ok (.iconst 0, 1) := by decide +kernel
theorem dX12_leaky_27 : decode cX12_leaky 27 = .ok (.istore_n 2, 1) := by decide +kernel
theorem dX12_leaky_28 : decode cX12_leaky 28 = .ok (.iconst (-1), 1) := by decide +kernel
theorem dX12_leaky_29 : decode cX12_leaky 29 = .ok (.istore_n 3, 1) := by decide +kernel
theorem dX12_leaky_30 : decode cX12_leaky 30 = .ok (.iconst 1, 1) := by decide +kernel
theorem dX12_leaky_31 : decode cX12_leaky 31 = .ok (.aload_n 0, 1) := by decide +kernel
theorem dX12_leaky_32 : decode cX12_leaky 32 = .ok (.getfield 180, 3) := by decide +kernel
theorem dX12_leaky_35 : decode cX12_leaky 35 = .ok (.ishl, 1) := by decide +kernel
theorem dX12_leaky_36 : decode cX12_leaky 36 = .ok (.iconst 1, 1) := by decide +kernel
theorem dX12_leaky_37 : decode cX12_leaky 37 = .ok (.isub, 1) := by decide +kernel
theorem dX12_leaky_38 : decode cX12_leaky 38 = .ok (.istore 4, 2) := by decide +kernel
theorem dX12_leaky_40 : decode cX12_leaky 40 = .ok (.iconst 0, 1) := by decide +kernel
theorem dX12_leaky_41 : decode cX12_leaky 41 = .ok (.istore 5, 2) := by decide +kernel
theorem dX12_leaky_43 : decode cX12_leaky 43 = .ok (.iconst 0, 1) := by decide +kernel
theorem dX12_leaky_44 : decode cX12_leaky 44 = .ok (.istore 6, 2) := by decide +kernel
theorem dX12_leaky_46 : decode cX12_leaky 46 = .ok (.iload 6, 2) := by decide +kernel
theorem dX12_leaky_48 : decode cX12_leaky 48 = .ok (.iconst 1, 1) := by decide +kernel
theorem dX12_leaky_49 : decode cX12_leaky 49 = .ok (.aload_n 0, 1) := by decide +kernel
theorem dX12_leaky_50 : decode cX12_leaky 50 = .ok (.getfield 180, 3) := by decide +kernel
theorem dX12_leaky_53 : decode cX12_leaky 53 = .ok (.ishl, 1) := by decide +kernel
theorem dX12_leaky_54 : decode cX12_leaky 54 = .ok (.if_icmp .ge 108, 3) := by decide +kernel
theorem dX12_leaky_57 : decode cX12_leaky 57 = .ok (.iconst 1, 1) := by decide +kernel
theorem dX12_leaky_58 : decode cX12_leaky 58 = .ok (.istore 7, 2) := by decide +kernel
theorem dX12_leaky_60 : decode cX12_leaky 60 = .ok (.iconst 0, 1) := by decide +kernel
theorem dX12_leaky_61 : decode cX12_leaky 61 = .ok (.istore 8, 2) := by decide +kernel
theorem dX12_leaky_63 : decode cX12_leaky 63 = .ok (.iload 8, 2) := by decide +kernel
theorem dX12_leaky_65 : decode cX12_leaky 65 = .ok (.aload_n 0, 1) := by decide +kernel
theorem dX12_leaky_66 : decode cX12_leaky 66 = .ok (.getfield 202, 3) := by decide +kernel
theorem dX12_leaky_69 : decode cX12_leaky 69 = .ok (.if_icmp .ge 50, 3) := by decide +kernel
theorem dX12_leaky_72 : decode cX12_leaky 72 = .ok (.iload 7, 2) := by decide +kernel
theorem dX12_leaky_74 : decode cX12_leaky 74 = .ok (.ifCond .eq 36, 3) := by decide +kernel
theorem dX12_leaky_77 : decode cX12_leaky 77 = .ok (.aload_n 0, 1) := by decide +kernel
theorem dX12_leaky_78 : decode cX12_leaky 78 = .ok (.aload_n 0, 1) := by decide +kernel
theorem dX12_leaky_79 : decode cX12_leaky 79 = .ok (.getfield 86, 3) := by decide +kernel
theorem dX12_leaky_82 : decode cX12_leaky 82 = .ok (.iconst 2, 1) := by decide +kernel
theorem dX12_leaky_83 : decode cX12_leaky 83 = .ok (.iload 8, 2) := by decide +kernel
theorem dX12_leaky_85 : decode cX12_leaky 85 = .ok (.imul, 1) := by decide +kernel
theorem dX12_leaky_86 : decode cX12_leaky 86 = .ok (.iaload, 1) := by decide +kernel
theorem dX12_leaky_87 : decode cX12_leaky 87 = .ok (.iload 6, 2) := by decide +kernel
theorem dX12_leaky_89 : decode cX12_leaky 89 = .ok (.invokevirtual 455, 3) := by decide +kernel
theorem dX12_leaky_92 : decode cX12_leaky 92 = .ok (.aload_n 0, 1) := by decide +kernel
theorem dX12_leaky_93 : decode cX12_leaky 93 = .ok (.getfield 86, 3) := by decide +kernel
theorem dX12_leaky_96 : decode cX12_leaky 96 = .ok (.iconst 2, 1) := by decide +kernel
theorem dX12_leaky_97 : decode cX12_leaky 97 = .ok (.iload 8, 2) := by decide +kernel
theorem dX12_leaky_99 : decode cX12_leaky 99 = .ok (.imul, 1) := by decide +kernel
theorem dX12_leaky_100 : decode cX12_leaky 100 = .ok (.iconst 1, 1) := by decide +kernel
theorem dX12_leaky_101 : decode cX12_leaky 101 = .ok (.iadd, 1) := by decide +kernel
theorem dX12_leaky_102 : decode cX12_leaky 102 = .ok (.iaload, 1) := by decide +kernel
theorem dX12_leaky_103 : decode cX12_leaky 103 = .ok (.if_icmp .ne 7, 3) := by decide +kernel
theorem dX12_leaky_106 : decode cX12_leaky 106 = .ok (.iconst 1, 1) := by decide +kernel
theorem dX12_leaky_107 : decode cX12_leaky 107 = .ok (.goto 4, 3) := by decide +kernel
theorem dX12_leaky_110 : decode cX12_leaky 110 = .ok (.iconst 0, 1) := by decide +kernel
theorem dX12_leaky_111 : decode cX12_leaky 111 = .ok (.istore 7, 2) := by decide +kernel
theorem dX12_leaky_113 : decode cX12_leaky 113 = .ok (.iinc 8 1, 3) := by decide +kernel
theorem dX12_leaky_116 : decode cX12_leaky 116 = .ok (.goto (-53), 3) := by decide +kernel
theorem dX12_leaky_119 : decode cX12_leaky 119 = .ok (.iload 7, 2) := by decide +kernel
theorem dX12_leaky_121 : decode cX12_leaky 121 = .ok (.ifCond .ne 6, 3) := by decide +kernel
theorem dX12_leaky_124 : decode cX12_leaky 124 = .ok (.goto 32, 3) := by decide +kernel
theorem dX12_leaky_127 : decode cX12_leaky 127 = .ok (.iinc 2 1, 3) := by decide +kernel
theorem dX12_leaky_130 : decode cX12_leaky 130 = .ok (.iload_n 3, 1) := by decide +kernel
theorem dX12_leaky_131 : decode cX12_leaky 131 = .ok (.iconst (-1), 1) := by decide +kernel
theorem dX12_leaky_132 : decode cX12_leaky 132 = .ok (.if_icmp .ne 8, 3) := by decide +kernel
theorem dX12_leaky_135 : decode cX12_leaky 135 = .ok (.iload 6, 2) := by decide +kernel
theorem dX12_leaky_137 : decode cX12_leaky 137 = .ok (.goto 4, 3) := by decide +kernel
theorem dX12_leaky_140 : decode cX12_leaky 140 = .ok (.iload_n 3, 1) := by decide +kernel
theorem dX12_leaky_141 : decode cX12_leaky 141 = .ok (.istore_n 3, 1) := by decide +kernel
theorem dX12_leaky_142 : decode cX12_leaky 142 = .ok (.iload 4, 2) := by decide +kernel
theorem dX12_leaky_144 : decode cX12_leaky 144 = .ok (.iload 6, 2) := by decide +kernel
theorem dX12_leaky_146 : decode cX12_leaky 146 = .ok (.iand, 1) := by decide +kernel
theorem dX12_leaky_147 : decode cX12_leaky 147 = .ok (.istore 4, 2) := by decide +kernel
theorem dX12_leaky_149 : decode cX12_leaky 149 = .ok (.iload 5, 2) := by decide +kernel
theorem dX12_leaky_151 : decode cX12_leaky 151 = .ok (.iload 6, 2) := by decide +kernel
theorem dX12_leaky_153 : decode cX12_leaky 153 = .ok (.ior, 1) := by decide +kernel
theorem dX12_leaky_154 : decode cX12_leaky 154 = .ok (.istore 5, 2) := by decide +kernel
theorem dX12_leaky_156 : decode cX12_leaky 156 = .ok (.iinc 6 1, 3) := by decide +kernel
theorem dX12_leaky_159 : decode cX12_leaky 159 = .ok (.goto (-113), 3) := by decide +kernel
theorem dX12_leaky_162 : decode cX12_leaky 162 = .ok (.iload_n 1, 1) := by decide +kernel
theorem dX12_leaky_163 : decode cX12_leaky 163 = .ok (.iconst 2, 1) := by decide +kernel
theorem dX12_leaky_164 : decode cX12_leaky 164 = .ok (.if_icmp .ge 13, 3) := by decide +kernel
theorem dX12_leaky_167 : decode cX12_leaky 167 = .ok (.iload_n 1, 1) := by decide +kernel
theorem dX12_leaky_168 : decode cX12_leaky 168 = .ok (.ifCond .ne 7, 3) := by decide +kernel
theorem dX12_leaky_171 : decode cX12_leaky 171 = .ok (.iload_n 2, 1) := by decide +kernel
theorem dX12_leaky_172 : decode cX12_leaky 172 = .ok (.goto 4, 3) := by decide +kernel
theorem dX12_leaky_175 : decode cX12_leaky 175 = .ok (.iload_n 3, 1) := by decide +kernel
theorem dX12_leaky_176 : decode cX12_leaky 176 = .ok (.ireturn, 1) := by decide +kernel
theorem dX12_leaky_177 : decode cX12_leaky 177 = .ok (.iload_n 2, 1) := by decide +kernel
theorem dX12_leaky_178 : decode cX12_leaky 178 = .ok (.ifCond .ne 7, 3) := by decide +kernel
theorem dX12_leaky_181 : decode cX12_leaky 181 = .ok (.iconst 0, 1) := by decide +kernel
theorem dX12_leaky_182 : decode cX12_leaky 182 = .ok (.goto 26, 3) := by decide +kernel
theorem dX12_leaky_185 : decode cX12_leaky 185 = .ok (.iload_n 1, 1) := by decide +kernel
theorem dX12_leaky_186 : decode cX12_leaky 186 = .ok (.iconst 2, 1) := by decide +kernel
theorem dX12_leaky_187 : decode cX12_leaky 187 = .ok (.if_icmp .ne 8, 3) := by decide +kernel
theorem dX12_leaky_190 : decode cX12_leaky 190 = .ok (.iload 4, 2) := by decide +kernel
theorem dX12_leaky_192 : decode cX12_leaky 192 = .ok (.goto 16, 3) := by decide +kernel
theorem dX12_leaky_195 : decode cX12_leaky 195 = .ok (.iconst 1, 1) := by decide +kernel
theorem dX12_leaky_196 : decode cX12_leaky 196 = .ok (.aload_n 0, 1) := by decide +kernel
theorem dX12_leaky_197 : decode cX12_leaky 197 = .ok (.getfield 180, 3) := by decide +kernel
theorem dX12_leaky_200 : decode cX12_leaky 200 = .ok (.ishl, 1) := by decide +kernel
theorem dX12_leaky_201 : decode cX12_leaky 201 = .ok (.iconst 1, 1) := by decide +kernel
theorem dX12_leaky_202 : decode cX12_leaky 202 = .ok (.isub, 1) := by decide +kernel
theorem dX12_leaky_203 : decode cX12_leaky 203 = .ok (.iload 5, 2) := by decide +kernel
theorem dX12_leaky_205 : decode cX12_leaky 205 = .ok (.iconst (-1), 1) := by decide +kernel
theorem dX12_leaky_206 : decode cX12_leaky 206 = .ok (.ixor, 1) := by decide +kernel
theorem dX12_leaky_207 : decode cX12_leaky 207 = .ok (.iand, 1) := by decide +kernel
theorem dX12_leaky_208 : decode cX12_leaky 208 = .ok (.ireturn, 1) := by decide +kernel
theorem dX12_misses_0 : decode cX12_misses 0 = .ok (.aload_n 0, 1) := by decide +kernel
theorem dX12_misses_1 : decode cX12_misses 1 = .ok (.iconst 0, 1) := by decide +kernel
theorem dX12_misses_2 : decode cX12_misses 2 = .ok (.putfield 3, 3) := by decide +kernel
theorem dX12_misses_5 : decode cX12_misses 5 = .ok (.aload_n 0, 1) := by decide +kernel
theorem dX12_misses_6 : decode cX12_misses 6 = .ok (.iload_n 1, 1) := by decide +kernel
theorem dX12_misses_7 : decode cX12_misses 7 = .ok (.iconst 1, 1) := by decide +kernel
theorem dX12_misses_8 : decode cX12_misses 8 = .ok (.invokevirtual 393, 3) := by decide +kernel
theorem dX12_misses_11 : decode cX12_misses 11 = .ok (.ifCond .eq 25, 3) := by decide +kernel
theorem dX12_misses_14 : decode cX12_misses 14 = .ok (.aload_n 0, 1) := by decide +kernel
theorem dX12_misses_15 : decode cX12_misses 15 = .ok (.iload_n 2, 1) := by decide +kernel
theorem dX12_misses_16 : decode cX12_misses 16 = .ok (.iconst 0, 1) := by decide +kernel
theorem dX12_misses_17 : decode cX12_misses 17 = .ok (.iconst 1, 1) := by decide +kernel
theorem dX12_misses_18 : decode cX12_misses 18 = .ok (.aload_n 0, 1) := by decide +kernel
theorem dX12_misses_19 : decode cX12_misses 19 = .ok (.getfield 180, 3) := by decide +kernel
theorem dX12_misses_22 : decode cX12_misses 22 = .ok (.ishl, 1) := by decide +kernel
theorem dX12_misses_23 : decode cX12_misses 23 = .ok (.iconst 1, 1) := by decide +kernel
theorem dX12_misses_24 : decode cX12_misses 24 = .ok (.isub, 1) := by decide +kernel
theorem dX12_misses_25 : decode cX12_misses 25 = .ok (.invokestatic 303, 3) := by decide +kernel
theorem dX12_misses_28 : decode cX12_misses 28 = .ok (.iconst 2, 1) := by decide +kernel
theorem dX12_misses_29 : decode cX12_misses 29 = .ok (.iconst 1, 1) := by decide +kernel
theorem dX12_misses_30 : decode cX12_misses 30 = .ok (.invokevirtual 229, 3) := by decide +kernel
theorem dX12_misses_33 : decode cX12_misses 33 = .ok (.ifCond .ne 5, 3) := by decide +kernel
theorem dX12_misses_36 : decode cX12_misses 36 = .ok (.iconst 0, 1) := by decide +kernel
theorem dX12_misses_37 : decode cX12_misses 37 = .ok (.ireturn, 1) := by decide +kernel
theorem dX12_misses_38 : decode cX12_misses 38 = .ok (.aload_n 0, 1) := by decide +kernel
theorem dX12_misses_39 : decode cX12_misses 39 = .ok (.invokevirtual 452, 3) := by decide +kernel
theorem dX12_misses_42 : decode cX12_misses 42 = .ok (.aload_n 0, 1) := by decide +kernel
theorem dX12_misses_43 : decode cX12_misses 43 = .ok (.iload_n 1, 1) := by decide +kernel
theorem dX12_misses_44 : decode cX12_misses 44 = .ok (.iload_n 2, 1) := by decide +kernel
theorem dX12_misses_45 : decode cX12_misses 45 = .ok (.invokevirtual 455, 3) := by decide +kernel
theorem dX12_misses_48 : decode cX12_misses 48 = .ok (.ireturn, 1) := by decide +kernel
theorem dX12_seams_0 : decode cX12_seams 0 = .ok (.iload_n 2, 1) := by decide +kernel
theorem dX12_seams_1 : decode cX12_seams 1 = .ok (.ifCond .ne 26, 3) := by decide +kernel
theorem dX12_seams_4 : decode cX12_seams 4 = .ok (.iload 4, 2) := by decide +kernel
theorem dX12_seams_6 : decode cX12_seams 6 = .ok (.aload_n 0, 1) := by decide +kernel
theorem dX12_seams_7 : decode cX12_seams 7 = .ok (.getfield 458, 3) := by decide +kernel
theorem dX12_seams_10 : decode cX12_seams 10 = .ok (.if_icmp .gt 4, 3) := by decide +kernel
theorem dX12_seams_13 : decode cX12_seams 13 = .ok (.return_, 1) := by decide +kernel
theorem dX12_seams_14 : decode cX12_seams 14 = .ok (.aload_n 0, 1) := by decide +kernel
theorem dX12_seams_15 : decode cX12_seams 15 = .ok (.iload 4, 2) := by decide +kernel
theorem dX12_seams_17 : decode cX12_seams 17 = .ok (.putfield 458, 3) := by decide +kernel
theorem dX12_seams_20 : decode cX12_seams 20 = .ok (.aload_n 0, 1) := by decide +kernel
theorem dX12_seams_21 : decode cX12_seams 21 = .ok (.iload 5, 2) := by decide +kernel
theorem dX12_seams_23 : decode cX12_seams 23 = .ok (.putfield 461, 3) := by decide +kernel
theorem dX12_seams_26 : decode cX12_seams 26 = .ok (.return_, 1) := by decide +kernel
theorem dX12_seams_27 : decode cX12_seams 27 = .ok (.aload_n 0, 1) := by decide +kernel
theorem dX12_seams_28 : decode cX12_seams 28 = .ok (.getfield 77, 3) := by decide +kernel
theorem dX12_seams_31 : decode cX12_seams 31 = .ok (.bipush 42, 2) := by decide +kernel
theorem dX12_seams_33 : decode cX12_seams 33 = .ok (.iload_n 1, 1) := by decide +kernel
theorem dX12_seams_34 : decode cX12_seams 34 = .ok (.iadd, 1) := by decide +kernel
theorem dX12_seams_35 : decode cX12_seams 35 = .ok (.iaload, 1) := by decide +kernel
theorem dX12_seams_36 : decode cX12_seams 36 = .ok (.istore 6, 2) := by decide +kernel
theorem dX12_seams_38 : decode cX12_seams 38 = .ok (.iconst 0, 1) := by decide +kernel
theorem dX12_seams_39 : decode cX12_seams 39 = .ok (.istore 7, 2) := by decide +kernel
theorem dX12_seams_41 : decode cX12_seams 41 = .ok (.iload 7, 2) := by decide +kernel
theorem dX12_seams_43 : decode cX12_seams 43 = .ok (.iload_n 3, 1) := by decide +kernel
theorem dX12_seams_44 : decode cX12_seams 44 = .ok (.if_icmp .gt 115, 3) := by decide +kernel
theorem dX12_seams_47 : decode cX12_seams 47 = .ok (.iload 7, 2) := by decide +kernel
theorem dX12_seams_49 : decode cX12_seams 49 = .ok (.ifCond .le 14, 3) := by decide +kernel
theorem dX12_seams_52 : decode cX12_seams 52 = .ok (.aload_n 0, 1) := by decide +kernel
theorem dX12_seams_53 : decode cX12_seams 53 = .ok (.iload_n 1, 1) := by decide +kernel
theorem dX12_seams_54 : decode cX12_seams 54 = .ok (.invokevirtual 371, 3) := by decide +kernel
theorem dX12_seams_57 : decode cX12_seams 57 = .ok (.ifCond .ne 6, 3) := by decide +kernel
theorem dX12_seams_60 : decode cX12_seams 60 = .ok (.goto 99, 3) := by decide +kernel
theorem dX12_seams_63 : decode cX12_seams 63 = .ok (.iload 7, 2) := by decide +kernel
theorem dX12_seams_65 : decode cX12_seams 65 = .ok (.ifCond .ne 7, 3) := by decide +kernel
theorem dX12_seams_68 : decode cX12_seams 68 = .ok (.iconst 0, 1) := by decide +kernel
theorem dX12_seams_69 : decode cX12_seams 69 = .ok (.goto 10, 3) := by decide +kernel
theorem dX12_seams_72 : decode cX12_seams 72 = .ok (.aload_n 0, 1) := by decide +kernel
theorem dX12_seams_73 : decode cX12_seams 73 = .ok (.iload_n 1, 1) := by decide +kernel
theorem dX12_seams_74 : decode cX12_seams 74 = .ok (.iload 7, 2) := by decide +kernel
theorem dX12_seams_76 : decode cX12_seams 76 = .ok (.invokevirtual 374, 3) := by decide +kernel
theorem dX12_seams_79 : decode cX12_seams 79 = .ok (.istore 8, 2) := by decide +kernel
theorem dX12_seams_81 : decode cX12_seams 81 = .ok (.aload_n 0, 1) := by decide +kernel
theorem dX12_seams_82 : decode cX12_seams 82 = .ok (.getfield 77, 3) := by decide +kernel
theorem dX12_seams_85 : decode cX12_seams 85 = .ok (.bipush 42, 2) := by decide +kernel
theorem dX12_seams_87 : decode cX12_seams 87 = .ok (.iload_n 1, 1) := by decide +kernel
theorem dX12_seams_88 : decode cX12_seams 88 = .ok (.iadd, 1) := by decide +kernel
theorem dX12_seams_89 : decode cX12_seams 89 = .ok (.dup2, 1) := by decide +kernel
theorem dX12_seams_90 : decode cX12_seams 90 = .ok (.iaload, 1) := by decide +kernel
theorem dX12_seams_91 : decode cX12_seams 91 = .ok (.iload 8, 2) := by decide +kernel
theorem dX12_seams_93 : decode cX12_seams 93 = .ok (.isub, 1) := by decide +kernel
theorem dX12_seams_94 : decode cX12_seams 94 = .ok (.iastore, 1) := by decide +kernel
theorem dX12_seams_95 : decode cX12_seams 95 = .ok (.aload_n 0, 1) := by decide +kernel
theorem dX12_seams_96 : decode cX12_seams 96 = .ok (.getfield 77, 3) := by decide +kernel
theorem dX12_seams_99 : decode cX12_seams 99 = .ok (.bipush 48, 2) := by decide +kernel
theorem dX12_seams_101 : decode cX12_seams 101 = .ok (.dup2, 1) := by decide +kernel
theorem dX12_seams_102 : decode cX12_seams 102 = .ok (.iaload, 1) := by decide +kernel
theorem dX12_seams_103 : decode cX12_seams 103 = .ok (.iconst 1, 1) := by decide +kernel
theorem dX12_seams_104 : decode cX12_seams 104 = .ok (.iadd, 1) := by decide +kernel
theorem dX12_seams_105 : decode cX12_seams 105 = .ok (.iastore, 1) := by decide +kernel
theorem dX12_seams_106 : decode cX12_seams 106 = .ok (.aload_n 0, 1) := by decide +kernel
theorem dX12_seams_107 : decode cX12_seams 107 = .ok (.iload_n 1, 1) := by decide +kernel
theorem dX12_seams_108 : decode cX12_seams 108 = .ok (.iload_n 2, 1) := by decide +kernel
theorem dX12_seams_109 : decode cX12_seams 109 = .ok (.iconst 1, 1) := by decide +kernel
theorem dX12_seams_110 : decode cX12_seams 110 = .ok (.isub, 1) := by decide +kernel
theorem dX12_seams_111 : decode cX12_seams 111 = .ok (.iload_n 3, 1) := by decide +kernel
theorem dX12_seams_112 : decode cX12_seams 112 = .ok (.iload 4, 2) := by decide +kernel
theorem dX12_seams_114 : decode cX12_seams 114 = .ok (.iload 8, 2) := by decide +kernel
theorem dX12_seams_116 : decode cX12_seams 116 = .ok (.iadd, 1) := by decide +kernel
theorem dX12_seams_117 : decode cX12_seams 117 = .ok (.iload 7, 2) := by decide +kernel
theorem dX12_seams_119 : decode cX12_seams 119 = .ok (.isub, 1) := by decide +kernel
theorem dX12_seams_120 : decode cX12_seams 120 = .ok (.bipush 10, 2) := by decide +kernel
theorem dX12_seams_122 : decode cX12_seams 122 = .ok (.iload 5, 2) := by decide +kernel
theorem dX12_seams_124 : decode cX12_seams 124 = .ok (.imul, 1) := by decide +kernel
theorem dX12_seams_125 : decode cX12_seams 125 = .ok (.iload 7, 2) := by decide +kernel
theorem dX12_seams_127 : decode cX12_seams 127 = .ok (.iadd, 1) := by decide +kernel
theorem dX12_seams_128 : decode cX12_seams 128 = .ok (.invokevirtual 464, 3) := by decide +kernel
theorem dX12_seams_131 : decode cX12_seams 131 = .ok (.aload_n 0, 1) := by decide +kernel
theorem dX12_seams_132 : decode cX12_seams 132 = .ok (.getfield 77, 3) := by decide +kernel
theorem dX12_seams_135 : decode cX12_seams 135 = .ok (.bipush 48, 2) := by decide +kernel
theorem dX12_seams_137 : decode cX12_seams 137 = .ok (.dup2, 1) := by decide +kernel
theorem dX12_seams_138 : decode cX12_seams 138 = .ok (.iaload, 1) := by decide +kernel
theorem dX12_seams_139 : decode cX12_seams 139 = .ok (.iconst 1, 1) := by decide +kernel
theorem dX12_seams_140 : decode cX12_seams 140 = .ok (.isub, 1) := by decide +kernel
theorem dX12_seams_141 : decode cX12_seams 141 = .ok (.iastore, 1) := by decide +kernel
theorem dX12_seams_142 : decode cX12_seams 142 = .ok (.aload_n 0, 1) := by decide +kernel
theorem dX12_seams_143 : decode cX12_seams 143 = .ok (.getfield 77, 3) := by decide +kernel
theorem dX12_seams_146 : decode cX12_seams 146 = .ok (.bipush 42, 2) := by decide +kernel
theorem dX12_seams_148 : decode cX12_seams 148 = .ok (.iload_n 1, 1) := by decide +kernel
theorem dX12_seams_149 : decode cX12_seams 149 = .ok (.iadd, 1) := by decide +kernel
theorem dX12_seams_150 : decode cX12_seams 150 = .ok (.iload 6, 2) := by decide +kernel
theorem dX12_seams_152 : decode cX12_seams 152 = .ok (.iastore, 1) := by decide +kernel
theorem dX12_seams_153 : decode cX12_seams 153 = .ok (.iinc 7 1, 3) := by decide +kernel
theorem dX12_seams_156 : decode cX12_seams 156 = .ok (.goto (-115), 3) := by decide +kernel
theorem dX12_seams_159 : decode cX12_seams 159 = .ok (.return_, 1) := by decide +kernel
theorem dX12_seam_0 : decode cX12_seam 0 = .ok (.aload_n 0, 1) := by decide +kernel
theorem dX12_seam_1 : decode cX12_seam 1 = .ok (.iconst 0, 1) := by decide +kernel
theorem dX12_seam_2 : decode cX12_seam 2 = .ok (.putfield 3, 3) := by decide +kernel
theorem dX12_seam_5 : decode cX12_seam 5 = .ok (.aload_n 0, 1) := by decide +kernel
theorem dX12_seam_6 : decode cX12_seam 6 = .ok (.iload_n 1, 1) := by decide +kernel
theorem dX12_seam_7 : decode cX12_seam 7 = .ok (.iconst 1, 1) := by decide +kernel
theorem dX12_seam_8 : decode cX12_seam 8 = .ok (.invokevirtual 405, 3) := by decide +kernel
theorem dX12_seam_11 : decode cX12_seam 11 = .ok (.ifCond .eq 46, 3) := by decide +kernel
theorem dX12_seam_14 : decode cX12_seam 14 = .ok (.aload_n 0, 1) := by decide +kernel
theorem dX12_seam_15 : decode cX12_seam 15 = .ok (.iload_n 2, 1) := by decide +kernel
theorem dX12_seam_16 : decode cX12_seam 16 = .ok (.iconst 1, 1) := by decide +kernel
theorem dX12_seam_17 : decode cX12_seam 17 = .ok (.iconst 4, 1) := by decide +kernel
theorem dX12_seam_18 : decode cX12_seam 18 = .ok (.invokestatic 303, 3) := by decide +kernel
theorem dX12_seam_21 : decode cX12_seam 21 = .ok (.ifCond .eq 27, 3) := by decide +kernel
theorem dX12_seam_24 : decode cX12_seam 24 = .ok (.iload_n 3, 1) := by decide +kernel
theorem dX12_seam_25 : decode cX12_seam 25 = .ok (.iconst 0, 1) := by decide +kernel
theorem dX12_seam_26 : decode cX12_seam 26 = .ok (.bipush 9, 2) := by decide +kernel
theorem dX12_seam_28 : decode cX12_seam 28 = .ok (.invokestatic 303, 3) := by decide +kernel
theorem dX12_seam_31 : decode cX12_seam 31 = .ok (.ifCond .eq 17, 3) := by decide +kernel
theorem dX12_seam_34 : decode cX12_seam 34 = .ok (.iload 4, 2) := by decide +kernel
theorem dX12_seam_36 : decode cX12_seam 36 = .ok (.iconst 0, 1) := by decide +kernel
theorem dX12_seam_37 : decode cX12_seam 37 = .ok (.iconst 1, 1) := by decide +kernel
theorem dX12_seam_38 : decode cX12_seam 38 = .ok (.invokestatic 303, 3) := by decide +kernel
theorem dX12_seam_41 : decode cX12_seam 41 = .ok (.ifCond .eq 7, 3) := by decide +kernel
theorem dX12_seam_44 : decode cX12_seam 44 = .ok (.iconst 1, 1) := by decide +kernel
theorem dX12_seam_45 : decode cX12_seam 45 = .ok (.goto 4, 3) := by decide +kernel
theorem dX12_seam_48 : decode cX12_seam 48 = .ok (.iconst 0, 1) := by decide +kernel
theorem dX12_seam_49 : decode cX12_seam 49 = .ok (.iconst 2, 1) := by decide +kernel
theorem dX12_seam_50 : decode cX12_seam 50 = .ok (.iconst 1, 1) := by decide +kernel
theorem dX12_seam_51 : decode cX12_seam 51 = .ok (.invokevirtual 229, 3) := by decide +kernel
theorem dX12_seam_54 : decode cX12_seam 54 = .ok (.ifCond .ne 5, 3) := by decide +kernel
theorem dX12_seam_57 : decode cX12_seam 57 = .ok (.iconst 0, 1) := by decide +kernel
theorem dX12_seam_58 : decode cX12_seam 58 = .ok (.ireturn, 1) := by decide +kernel
theorem dX12_seam_59 : decode cX12_seam 59 = .ok (.aload_n 0, 1) := by decide +kernel
theorem dX12_seam_60 : decode cX12_seam 60 = .ok (.invokevirtual 396, 3) := by decide +kernel
theorem dX12_seam_63 : decode cX12_seam 63 = .ok (.aload_n 0, 1) := by decide +kernel
theorem dX12_seam_64 : decode cX12_seam 64 = .ok (.ldc_w 467, 3) := by decide +kernel
theorem dX12_seam_67 : decode cX12_seam 67 = .ok (.putfield 458, 3) := by decide +kernel
theorem dX12_seam_70 : decode cX12_seam 70 = .ok (.aload_n 0, 1) := by decide +kernel
theorem dX12_seam_71 : decode cX12_seam 71 = .ok (.iload_n 1, 1) := by decide +kernel
theorem dX12_seam_72 : decode cX12_seam 72 = .ok (.iload_n 2, 1) := by decide +kernel
theorem dX12_seam_73 : decode cX12_seam 73 = .ok (.iload_n 3, 1) := by decide +kernel
theorem dX12_seam_74 : decode cX12_seam 74 = .ok (.iconst 0, 1) := by decide +kernel
theorem dX12_seam_75 : decode cX12_seam 75 = .ok (.iconst 0, 1) := by decide +kernel
theorem dX12_seam_76 : decode cX12_seam 76 = .ok (.invokevirtual 464, 3) := by decide +kernel
theorem dX12_seam_79 : decode cX12_seam 79 = .ok (.iload 4, 2) := by decide +kernel
theorem dX12_seam_81 : decode cX12_seam 81 = .ok (.ifCond .ne 10, 3) := by decide +kernel
theorem dX12_seam_84 : decode cX12_seam 84 = .ok (.aload_n 0, 1) := by decide +kernel
theorem dX12_seam_85 : decode cX12_seam 85 = .ok (.getfield 458, 3) := by decide +kernel
theorem dX12_seam_88 : decode cX12_seam 88 = .ok (.goto 7, 3) := by decide +kernel
theorem dX12_seam_91 : decode cX12_seam 91 = .ok (.aload_n 0, 1) := by decide +kernel
theorem dX12_seam_92 : decode cX12_seam 92 = .ok (.getfield 461, 3) := by decide +kernel
theorem dX12_seam_95 : decode cX12_seam 95 = .ok (.ireturn, 1) := by decide +kernel
theorem dX12_getsOf_0 : decode cX12_getsOf 0 = .ok (.iload_n 2, 1) := by decide +kernel
theorem dX12_getsOf_1 : decode cX12_getsOf 1 = .ok (.iload_n 3, 1) := by decide +kernel
theorem dX12_getsOf_2 : decode cX12_getsOf 2 = .ok (.if_icmp .le 5, 3) := by decide +kernel
theorem dX12_getsOf_5 : decode cX12_getsOf 5 = .ok (.iconst 0, 1) := by decide +kernel
theorem dX12_getsOf_6 : decode cX12_getsOf 6 = .ok (.ireturn, 1) := by decide +kernel
theorem dX12_getsOf_7 : decode cX12_getsOf 7 = .ok (.iconst 0, 1) := by decide +kernel
theorem dX12_getsOf_8 : decode cX12_getsOf 8 = .ok (.istore 4, 2) := by decide +kernel
theorem dX12_getsOf_10 : decode cX12_getsOf 10 = .ok (.iconst 0, 1) := by decide +kernel
theorem dX12_getsOf_11 : decode cX12_getsOf 11 = .ok (.istore 5, 2) := by decide +kernel
theorem dX12_getsOf_13 : decode cX12_getsOf 13 = .ok (.iload 5, 2) := by decide +kernel
theorem dX12_getsOf_15 : decode cX12_getsOf 15 = .ok (.aload_n 0, 1) := by decide +kernel
theorem dX12_getsOf_16 : decode cX12_getsOf 16 = .ok (.getfield 183, 3) := by decide +kernel
theorem dX12_getsOf_19 : decode cX12_getsOf 19 = .ok (.if_icmp .ge 92, 3) := by decide +kernel
theorem dX12_getsOf_22 : decode cX12_getsOf 22 = .ok (.aload_n 0, 1) := by decide +kernel
theorem dX12_getsOf_23 : decode cX12_getsOf 23 = .ok (.getfield 77, 3) := by decide +kernel
theorem dX12_getsOf_26 : decode cX12_getsOf 26 = .ok (.bipush 18, 2) := by decide +kernel
theorem dX12_getsOf_28 : decode cX12_getsOf 28 = .ok (.iload 5, 2) := by decide +kernel
theorem dX12_getsOf_30 : decode cX12_getsOf 30 = .ok (.iadd, 1) := by decide +kernel
theorem dX12_getsOf_31 : decode cX12_getsOf 31 = .ok (.iaload, 1) := by decide +kernel
theorem dX12_getsOf_32 : decode cX12_getsOf 32 = .ok (.ifCond .eq 73, 3) := by decide +kernel
theorem dX12_getsOf_35 : decode cX12_getsOf 35 = .ok (.aload_n 0, 1) := by decide +kernel
theorem dX12_getsOf_36 : decode cX12_getsOf 36 = .ok (.getfield 38, 3) := by decide +kernel
theorem dX12_getsOf_39 : decode cX12_getsOf 39 = .ok (.iconst 4, 1) := by decide +kernel
theorem dX12_getsOf_40 : decode cX12_getsOf 40 = .ok (.iload 5, 2) := by decide +kernel
theorem dX12_getsOf_42 : decode cX12_getsOf 42 = .ok (.imul, 1) := by decide +kernel
theorem dX12_getsOf_43 : decode cX12_getsOf 43 = .ok (.iaload, 1) := by decide +kernel
theorem dX12_getsOf_44 : decode cX12_getsOf 44 = .ok (.iload_n 1, 1) := by decide +kernel
theorem dX12_getsOf_45 : decode cX12_getsOf 45 = .ok (.if_icmp .ne 60, 3) := by decide +kernel
theorem dX12_getsOf_48 : decode cX12_getsOf 48 = .ok (.aload_n 0, 1) := by decide +kernel
theorem dX12_getsOf_49 : decode cX12_getsOf 49 = .ok (.getfield 38, 3) := by decide +kernel
theorem dX12_getsOf_52 : decode cX12_getsOf 52 = .ok (.iconst 4, 1) := by decide +kernel
theorem dX12_getsOf_53 : decode cX12_getsOf 53 = .ok (.iload 5, 2) := by decide +kernel
theorem dX12_getsOf_55 : decode cX12_getsOf 55 = .ok (.imul, 1) := by decide +kernel
theorem dX12_getsOf_56 : decode cX12_getsOf 56 = .ok (.iconst 3, 1) := by decide +kernel
theorem dX12_getsOf_57 : decode cX12_getsOf 57 = .ok (.iadd, 1) := by decide +kernel
theorem dX12_getsOf_58 : decode cX12_getsOf 58 = .ok (.iaload, 1) := by decide +kernel
theorem dX12_getsOf_59 : decode cX12_getsOf 59 = .ok (.iload_n 2, 1) := by decide +kernel
theorem dX12_getsOf_60 : decode cX12_getsOf 60 = .ok (.if_icmp .ge 6, 3) := by decide +kernel
theorem dX12_getsOf_63 : decode cX12_getsOf 63 = .ok (.goto 42, 3) := by decide +kernel
theorem dX12_getsOf_66 : decode cX12_getsOf 66 = .ok (.iload 4, 2) := by decide +kernel
theorem dX12_getsOf_68 : decode cX12_getsOf 68 = .ok (.iload_n 2, 1) := by decide +kernel
theorem dX12_getsOf_69 : decode cX12_getsOf 69 = .ok (.iload_n 2, 1) := by decide +kernel
theorem dX12_getsOf_70 : decode cX12_getsOf 70 = .ok (.iload_n 3, 1) := by decide +kernel
theorem dX12_getsOf_71 : decode cX12_getsOf 71 = .ok (.if_icmp .ne 19, 3) := by decide +kernel
theorem dX12_getsOf_74 : decode cX12_getsOf 74 = .ok (.aload_n 0, 1) := by decide +kernel
theorem dX12_getsOf_75 : decode cX12_getsOf 75 = .ok (.getfield 38, 3) := by decide +kernel
theorem dX12_getsOf_78 : decode cX12_getsOf 78 = .ok (.iconst 4, 1) := by decide +kernel
theorem dX12_getsOf_79 : decode cX12_getsOf 79 = .ok (.iload 5, 2) := by decide +kernel
theorem dX12_getsOf_81 : decode cX12_getsOf 81 = .ok (.imul, 1) := by decide +kernel
theorem dX12_getsOf_82 : decode cX12_getsOf 82 = .ok (.iconst 1, 1) := by decide +kernel
theorem dX12_getsOf_83 : decode cX12_getsOf 83 = .ok (.iadd, 1) := by decide +kernel
theorem dX12_getsOf_84 : decode cX12_getsOf 84 = .ok (.iaload, 1) := by decide +kernel
theorem dX12_getsOf_85 : decode cX12_getsOf 85 = .ok (.iconst 2, 1) := by decide +kernel
theorem dX12_getsOf_86 : decode cX12_getsOf 86 = .ok (.idiv, 1) := by decide +kernel
theorem dX12_getsOf_87 : decode cX12_getsOf 87 = .ok (.goto 14, 3) := by decide +kernel
theorem dX12_getsOf_90 : decode cX12_getsOf 90 = .ok (.aload_n 0, 1) := by decide +kernel
theorem dX12_getsOf_91 : decode cX12_getsOf 91 = .ok (.getfield 38, 3) := by decide +kernel
theorem dX12_getsOf_94 : decode cX12_getsOf 94 = .ok (.iconst 4, 1) := by decide +kernel
theorem dX12_getsOf_95 : decode cX12_getsOf 95 = .ok (.iload 5, 2) := by decide +kernel
theorem dX12_getsOf_97 : decode cX12_getsOf 97 = .ok (.imul, 1) := by decide +kernel
theorem dX12_getsOf_98 : decode cX12_getsOf 98 = .ok (.iconst 1, 1) := by decide +kernel
theorem dX12_getsOf_99 : decode cX12_getsOf 99 = .ok (.iadd, 1) := by decide +kernel
theorem dX12_getsOf_100 : decode cX12_getsOf 100 = .ok (.iaload, 1) := by decide +kernel
theorem dX12_getsOf_101 : decode cX12_getsOf 101 = .ok (.imul, 1) := by decide +kernel
theorem dX12_getsOf_102 : decode cX12_getsOf 102 = .ok (.iadd, 1) := by decide +kernel
theorem dX12_getsOf_103 : decode cX12_getsOf 103 = .ok (.istore 4, 2) := by decide +kernel
theorem dX12_getsOf_105 : decode cX12_getsOf 105 = .ok (.iinc 5 1, 3) := by decide +kernel
theorem dX12_getsOf_108 : decode cX12_getsOf 108 = .ok (.goto (-95), 3) := by decide +kernel
theorem dX12_getsOf_111 : decode cX12_getsOf 111 = .ok (.iload 4, 2) := by decide +kernel
theorem dX12_getsOf_113 : decode cX12_getsOf 113 = .ok (.ireturn, 1) := by decide +kernel
theorem dX12_isBest_0 : decode cX12_isBest 0 = .ok (.iconst 0, 1) := by decide +kernel
theorem dX12_isBest_1 : decode cX12_isBest 1 = .ok (.istore 5, 2) := by decide +kernel
theorem dX12_isBest_3 : decode cX12_isBest 3 = .ok (.iload 5, 2) := by decide +kernel
theorem dX12_isBest_5 : decode cX12_isBest 5 = .ok (.iload 4, 2) := by decide +kernel
theorem dX12_isBest_7 : decode cX12_isBest 7 = .ok (.if_icmp .gt 29, 3) := by decide +kernel
theorem dX12_isBest_10 : decode cX12_isBest 10 = .ok (.aload_n 0, 1) := by decide +kernel
theorem dX12_isBest_11 : decode cX12_isBest 11 = .ok (.iload_n 1, 1) := by decide +kernel
theorem dX12_isBest_12 : decode cX12_isBest 12 = .ok (.iload 5, 2) := by decide +kernel
theorem dX12_isBest_14 : decode cX12_isBest 14 = .ok (.iload_n 3, 1) := by decide +kernel
theorem dX12_isBest_15 : decode cX12_isBest 15 = .ok (.invokevirtual 468, 3) := by decide +kernel
theorem dX12_isBest_18 : decode cX12_isBest 18 = .ok (.aload_n 0, 1) := by decide +kernel
theorem dX12_isBest_19 : decode cX12_isBest 19 = .ok (.iload_n 1, 1) := by decide +kernel
theorem dX12_isBest_20 : decode cX12_isBest 20 = .ok (.iload_n 2, 1) := by decide +kernel
theorem dX12_isBest_21 : decode cX12_isBest 21 = .ok (.iload_n 3, 1) := by decide +kernel
theorem dX12_isBest_22 : decode cX12_isBest 22 = .ok (.invokevirtual 468, 3) := by decide +kernel
theorem dX12_isBest_25 : decode cX12_isBest 25 = .ok (.if_icmp .le 5, 3) := by decide +kernel
theorem dX12_isBest_28 : decode cX12_isBest 28 = .ok (.iconst 0, 1) := by decide +kernel
theorem dX12_isBest_29 : decode cX12_isBest 29 = .ok (.ireturn, 1) := by decide +kernel
theorem dX12_isBest_30 : decode cX12_isBest 30 = .ok (.iinc 5 1, 3) := by decide +kernel
theorem dX12_isBest_33 : decode cX12_isBest 33 = .ok (.goto (-30), 3) := by decide +kernel
theorem dX12_isBest_36 : decode cX12_isBest 36 = .ok (.iconst 1, 1) := by decide +kernel
theorem dX12_isBest_37 : decode cX12_isBest 37 = .ok (.ireturn, 1) := by decide +kernel
theorem dX12_sellers_0 : decode cX12_sellers 0 = .ok (.aload_n 0, 1) := by decide +kernel
theorem dX12_sellers_1 : decode cX12_sellers 1 = .ok (.iconst 0, 1) := by decide +kernel
theorem dX12_sellers_2 : decode cX12_sellers 2 = .ok (.putfield 3, 3) := by decide +kernel
theorem dX12_sellers_5 : decode cX12_sellers 5 = .ok (.aload_n 0, 1) := by decide +kernel
theorem dX12_sellers_6 : decode cX12_sellers 6 = .ok (.iload_n 1, 1) := by decide +kernel
theorem dX12_sellers_7 : decode cX12_sellers 7 = .ok (.iconst 1, 1) := by decide +kernel
theorem dX12_sellers_8 : decode cX12_sellers 8 = .ok (.invokevirtual 393, 3) := by decide +kernel
theorem dX12_sellers_11 : decode cX12_sellers 11 = .ok (.ifCond .eq 36, 3) := by decide +kernel
theorem dX12_sellers_14 : decode cX12_sellers 14 = .ok (.aload_n 0, 1) := by decide +kernel
theorem dX12_sellers_15 : decode cX12_sellers 15 = .ok (.iload_n 2, 1) := by decide +kernel
theorem dX12_sellers_16 : decode cX12_sellers 16 = .ok (.iconst 0, 1) := by decide +kernel
theorem dX12_sellers_17 : decode cX12_sellers 17 = .ok (.bipush 20, 2) := by decide +kernel
theorem dX12_sellers_19 : decode cX12_sellers 19 = .ok (.invokestatic 303, 3) := by decide +kernel
theorem dX12_sellers_22 : decode cX12_sellers 22 = .ok (.ifCond .eq 16, 3) := by decide +kernel
theorem dX12_sellers_25 : decode cX12_sellers 25 = .ok (.iload_n 3, 1) := by decide +kernel
theorem dX12_sellers_26 : decode cX12_sellers 26 = .ok (.iconst 0, 1) := by decide +kernel
theorem dX12_sellers_27 : decode cX12_sellers 27 = .ok (.iconst 2, 1) := by decide +kernel
theorem dX12_sellers_28 : decode cX12_sellers 28 = .ok (.invokestatic 303, 3) := by decide +kernel
theorem dX12_sellers_31 : decode cX12_sellers 31 = .ok (.ifCond .eq 7, 3) := by decide +kernel
theorem dX12_sellers_34 : decode cX12_sellers 34 = .ok (.iconst 1, 1) := by decide +kernel
theorem dX12_sellers_35 : decode cX12_sellers 35 = .ok (.goto 4, 3) := by decide +kernel
theorem dX12_sellers_38 : decode cX12_sellers 38 = .ok (.iconst 0, 1) := by decide +kernel
theorem dX12_sellers_39 : decode cX12_sellers 39 = .ok (.iconst 2, 1) := by decide +kernel
theorem dX12_sellers_40 : decode cX12_sellers 40 = .ok (.iconst 1, 1) := by decide +kernel
theorem dX12_sellers_41 : decode cX12_sellers 41 = .ok (.invokevirtual 229, 3) := by decide +kernel
theorem dX12_sellers_44 : decode cX12_sellers 44 = .ok (.ifCond .ne 5, 3) := by decide +kernel
theorem dX12_sellers_47 : decode cX12_sellers 47 = .ok (.iconst 0, 1) := by decide +kernel
theorem dX12_sellers_48 : decode cX12_sellers 48 = .ok (.ireturn, 1) := by decide +kernel
theorem dX12_sellers_49 : decode cX12_sellers 49 = .ok (.aload_n 0, 1) := by decide +kernel
theorem dX12_sellers_50 : decode cX12_sellers 50 = .ok (.invokevirtual 396, 3) := by decide +kernel
theorem dX12_sellers_53 : decode cX12_sellers 53 = .ok (.iconst 0, 1) := by decide +kernel
theorem dX12_sellers_54 : decode cX12_sellers 54 = .ok (.istore 4, 2) := by decide +kernel
theorem dX12_sellers_56 : decode cX12_sellers 56 = .ok (.iconst (-1), 1) := by decide +kernel
theorem dX12_sellers_57 : decode cX12_sellers 57 = .ok (.istore 5, 2) := by decide +kernel
theorem dX12_sellers_59 : decode cX12_sellers 59 = .ok (.iconst 0, 1) := by decide +kernel
theorem dX12_sellers_60 : decode cX12_sellers 60 = .ok (.istore 6, 2) := by decide +kernel
theorem dX12_sellers_62 : decode cX12_sellers 62 = .ok (.iload 6, 2) := by decide +kernel
theorem dX12_sellers_64 : decode cX12_sellers 64 = .ok (.iload_n 2, 1) := by decide +kernel
theorem dX12_sellers_65 : decode cX12_sellers 65 = .ok (.if_icmp .gt 77, 3) := by decide +kernel
theorem dX12_sellers_68 : decode cX12_sellers 68 = .ok (.iconst 0, 1) := by decide +kernel
theorem dX12_sellers_69 : decode cX12_sellers 69 = .ok (.istore 7, 2) := by decide +kernel
theorem dX12_sellers_71 : decode cX12_sellers 71 = .ok (.iload 7, 2) := by decide +kernel
theorem dX12_sellers_73 : decode cX12_sellers 73 = .ok (.iload_n 2, 1) := by decide +kernel
theorem dX12_sellers_74 : decode cX12_sellers 74 = .ok (.if_icmp .gt 62, 3) := by decide +kernel
theorem dX12_sellers_77 : decode cX12_sellers 77 = .ok (.aload_n 0, 1) := by decide +kernel
theorem dX12_sellers_78 : decode cX12_sellers 78 = .ok (.iload_n 1, 1) := by decide +kernel
theorem dX12_sellers_79 : decode cX12_sellers 79 = .ok (.iload 6, 2) := by decide +kernel
theorem dX12_sellers_81 : decode cX12_sellers 81 = .ok (.iload 7, 2) := by decide +kernel
theorem dX12_sellers_83 : decode cX12_sellers 83 = .ok (.iload_n 2, 1) := by decide +kernel
theorem dX12_sellers_84 : decode cX12_sellers 84 = .ok (.invokevirtual 471, 3) := by decide +kernel
theorem dX12_sellers_87 : decode cX12_sellers 87 = .ok (.ifCond .eq 43, 3) := by decide +kernel
theorem dX12_sellers_90 : decode cX12_sellers 90 = .ok (.aload_n 0, 1) := by decide +kernel
theorem dX12_sellers_91 : decode cX12_sellers 91 = .ok (.iload_n 1, 1) := by decide +kernel
theorem dX12_sellers_92 : decode cX12_sellers 92 = .ok (.iload 7, 2) := by decide +kernel
theorem dX12_sellers_94 : decode cX12_sellers 94 = .ok (.iload 6, 2) := by decide +kernel
theorem dX12_sellers_96 : decode cX12_sellers 96 = .ok (.iload_n 2, 1) := by decide +kernel
theorem dX12_sellers_97 : decode cX12_sellers 97 = .ok (.invokevirtual 471, 3) := by decide +kernel
theorem dX12_sellers_100 : decode cX12_sellers 100 = .ok (.ifCond .ne 6, 3) := by decide +kernel
theorem dX12_sellers_103 : decode cX12_sellers 103 = .ok (.goto 27, 3) := by decide +kernel
theorem dX12_sellers_106 : decode cX12_sellers 106 = .ok (.iinc 4 1, 3) := by decide +kernel
theorem dX12_sellers_109 : decode cX12_sellers 109 = .ok (.iload 5, 2) := by decide +kernel
theorem dX12_sellers_111 : decode cX12_sellers 111 = .ok (.iconst (-1), 1) := by decide +kernel
theorem dX12_sellers_112 : decode cX12_sellers 112 = .ok (.if_icmp .ne 14, 3) := by decide +kernel
theorem dX12_sellers_115 : decode cX12_sellers 115 = .ok (.bipush 100, 2) := by decide +kernel
theorem dX12_sellers_117 : decode cX12_sellers 117 = .ok (.iload 6, 2) := by decide +kernel
theorem dX12_sellers_119 : decode cX12_sellers 119 = .ok (.imul, 1) := by decide +kernel
theorem dX12_sellers_120 : decode cX12_sellers 120 = .ok (.iload 7, 2) := by decide +kernel
theorem dX12_sellers_122 : decode cX12_sellers 122 = .ok (.iadd, 1) := by decide +kernel
theorem dX12_sellers_123 : decode cX12_sellers 123 = .ok (.goto 5, 3) := by decide +kernel
theorem dX12_sellers_126 : decode cX12_sellers 126 = .ok (.iload 5, 2) := by decide +kernel
theorem dX12_sellers_128 : decode cX12_sellers 128 = .ok (.istore 5, 2) := by decide +kernel
theorem dX12_sellers_130 : decode cX12_sellers 130 = .ok (.iinc 7 1, 3) := by decide +kernel
theorem dX12_sellers_133 : decode cX12_sellers 133 = .ok (.goto (-62), 3) := by decide +kernel
theorem dX12_sellers_136 : decode cX12_sellers 136 = .ok (.iinc 6 1, 3) := by decide +kernel
theorem dX12_sellers_139 : decode cX12_sellers 139 = .ok (.goto (-77), 3) := by decide +kernel
theorem dX12_sellers_142 : decode cX12_sellers 142 = .ok (.iload_n 3, 1) := by decide +kernel
theorem dX12_sellers_143 : decode cX12_sellers 143 = .ok (.ifCond .ne 8, 3) := by decide +kernel
theorem dX12_sellers_146 : decode cX12_sellers 146 = .ok (.iload 4, 2) := by decide +kernel
theorem dX12_sellers_148 : decode cX12_sellers 148 = .ok (.goto 38, 3) := by decide +kernel
theorem dX12_sellers_151 : decode cX12_sellers 151 = .ok (.iload_n 3, 1) := by decide +kernel
theorem dX12_sellers_152 : decode cX12_sellers 152 = .ok (.iconst 1, 1) := by decide +kernel
theorem dX12_sellers_153 : decode cX12_sellers 153 = .ok (.if_icmp .ne 8, 3) := by decide +kernel
theorem dX12_sellers_156 : decode cX12_sellers 156 = .ok (.iload 5, 2) := by decide +kernel
theorem dX12_sellers_158 : decode cX12_sellers 158 = .ok (.goto 28, 3) := by decide +kernel
theorem dX12_sellers_161 : decode cX12_sellers 161 = .ok (.iload 5, 2) := by decide +kernel
theorem dX12_sellers_163 : decode cX12_sellers 163 = .ok (.iconst (-1), 1) := by decide +kernel
theorem dX12_sellers_164 : decode cX12_sellers 164 = .ok (.if_icmp .ne 7, 3) := by decide +kernel
theorem dX12_sellers_167 : decode cX12_sellers 167 = .ok (.iconst 0, 1) := by decide +kernel
theorem dX12_sellers_168 : decode cX12_sellers 168 = .ok (.goto 18, 3) := by decide +kernel
theorem dX12_sellers_171 : decode cX12_sellers 171 = .ok (.aload_n 0, 1) := by decide +kernel
theorem dX12_sellers_172 : decode cX12_sellers 172 = .ok (.iload_n 1, 1) := by decide +kernel
theorem dX12_sellers_173 : decode cX12_sellers 173 = .ok (.iload 5, 2) := by decide +kernel
theorem dX12_sellers_175 : decode cX12_sellers 175 = .ok (.bipush 100, 2) := by decide +kernel
theorem dX12_sellers_177 : decode cX12_sellers 177 = .ok (.idiv, 1) := by decide +kernel
theorem dX12_sellers_178 : decode cX12_sellers 178 = .ok (.iload 5, 2) := by decide +kernel
theorem dX12_sellers_180 : decode cX12_sellers 180 = .ok (.bipush 100, 2) := by decide +kernel
theorem dX12_sellers_182 : decode cX12_sellers 182 = .ok (.irem, 1) := by decide +kernel
theorem dX12_sellers_183 : decode cX12_sellers 183 = .ok (.invokevirtual 468, 3) := by decide +kernel
theorem dX12_sellers_186 : decode cX12_sellers 186 = .ok (.ireturn, 1) := by decide +kernel
theorem dX12_gets_0 : decode cX12_gets 0 = .ok (.aload_n 0, 1) := by decide +kernel
theorem dX12_gets_1 : decode cX12_gets 1 = .ok (.iconst 0, 1) := by decide +kernel
theorem dX12_gets_2 : decode cX12_gets 2 = .ok (.putfield 3, 3) := by decide +kernel
theorem dX12_gets_5 : decode cX12_gets 5 = .ok (.aload_n 0, 1) := by decide +kernel
theorem dX12_gets_6 : decode cX12_gets 6 = .ok (.iload_n 1, 1) := by decide +kernel
theorem dX12_gets_7 : decode cX12_gets 7 = .ok (.iconst 1, 1) := by decide +kernel
theorem dX12_gets_8 : decode cX12_gets 8 = .ok (.invokevirtual 393, 3) := by decide +kernel
theorem dX12_gets_11 : decode cX12_gets 11 = .ok (.ifCond .eq 37, 3) := by decide +kernel
theorem dX12_gets_14 : decode cX12_gets 14 = .ok (.aload_n 0, 1) := by decide +kernel
theorem dX12_gets_15 : decode cX12_gets 15 = .ok (.iload_n 2, 1) := by decide +kernel
theorem dX12_gets_16 : decode cX12_gets 16 = .ok (.iconst 0, 1) := by decide +kernel
theorem dX12_gets_17 : decode cX12_gets 17 = .ok (.bipush 99, 2) := by decide +kernel
theorem dX12_gets_19 : decode cX12_gets 19 = .ok (.invokestatic 303, 3) := by decide +kernel
theorem dX12_gets_22 : decode cX12_gets 22 = .ok (.ifCond .eq 17, 3) := by decide +kernel
theorem dX12_gets_25 : decode cX12_gets 25 = .ok (.iload_n 3, 1) := by decide +kernel
theorem dX12_gets_26 : decode cX12_gets 26 = .ok (.iconst 0, 1) := by decide +kernel
theorem dX12_gets_27 : decode cX12_gets 27 = .ok (.bipush 99, 2) := by decide +kernel
theorem dX12_gets_29 : decode cX12_gets 29 = .ok (.invokestatic 303, 3) := by decide +kernel
theorem dX12_gets_32 : decode cX12_gets 32 = .ok (.ifCond .eq 7, 3) := by decide +kernel
theorem dX12_gets_35 : decode cX12_gets 35 = .ok (.iconst 1, 1) := by decide +kernel
theorem dX12_gets_36 : decode cX12_gets 36 = .ok (.goto 4, 3) := by decide +kernel
theorem dX12_gets_39 : decode cX12_gets 39 = .ok (.iconst 0, 1) := by decide +kernel
theorem dX12_gets_40 : decode cX12_gets 40 = .ok (.iconst 2, 1) := by decide +kernel
theorem dX12_gets_41 : decode cX12_gets 41 = .ok (.iconst 1, 1) := by decide +kernel
theorem dX12_gets_42 : decode cX12_gets 42 = .ok (.invokevirtual 229, 3) := by decide +kernel
theorem dX12_gets_45 : decode cX12_gets 45 = .ok (.ifCond .ne 5, 3) := by decide +kernel
theorem dX12_gets_48 : decode cX12_gets 48 = .ok (.iconst 0, 1) := by decide +kernel
theorem dX12_gets_49 : decode cX12_gets 49 = .ok (.ireturn, 1) := by decide +kernel
theorem dX12_gets_50 : decode cX12_gets 50 = .ok (.aload_n 0, 1) := by decide +kernel
theorem dX12_gets_51 : decode cX12_gets 51 = .ok (.invokevirtual 396, 3) := by decide +kernel
theorem dX12_gets_54 : decode cX12_gets 54 = .ok (.aload_n 0, 1) := by decide +kernel
theorem dX12_gets_55 : decode cX12_gets 55 = .ok (.iload_n 1, 1) := by decide +kernel
theorem dX12_gets_56 : decode cX12_gets 56 = .ok (.iload_n 2, 1) := by decide +kernel
theorem dX12_gets_57 : decode cX12_gets 57 = .ok (.iload_n 3, 1) := by decide +kernel
theorem dX12_gets_58 : decode cX12_gets 58 = .ok (.invokevirtual 468, 3) := by decide +kernel
theorem dX12_gets_61 : decode cX12_gets 61 = .ok (.ireturn, 1) := by decide +kernel
theorem dX12_moonsOn_0 : decode cX12_moonsOn 0 = .ok (.iconst 0, 1) := by decide +kernel
theorem dX12_moonsOn_1 : decode cX12_moonsOn 1 = .ok (.istore_n 2, 1) := by decide +kernel
theorem dX12_moonsOn_2 : decode cX12_moonsOn 2 = .ok (.iconst 0, 1) := by decide +kernel
theorem dX12_moonsOn_3 : decode cX12_moonsOn 3 = .ok (.istore_n 3, 1) := by decide +kernel
theorem dX12_moonsOn_4 : decode cX12_moonsOn 4 = .ok (.iload_n 3, 1) := by decide +kernel
theorem dX12_moonsOn_5 : decode cX12_moonsOn 5 = .ok (.aload_n 0, 1) := by decide +kernel
theorem dX12_moonsOn_6 : decode cX12_moonsOn 6 = .ok (.getfield 189, 3) := by decide +kernel
theorem dX12_moonsOn_9 : decode cX12_moonsOn 9 = .ok (.if_icmp .ge 42, 3) := by decide +kernel
theorem dX12_moonsOn_12 : decode cX12_moonsOn 12 = .ok (.iload_n 2, 1) := by decide +kernel
theorem dX12_moonsOn_13 : decode cX12_moonsOn 13 = .ok (.iload_n 1, 1) := by decide +kernel
theorem dX12_moonsOn_14 : decode cX12_moonsOn 14 = .ok (.aload_n 0, 1) := by decide +kernel
theorem dX12_moonsOn_15 : decode cX12_moonsOn 15 = .ok (.getfield 44, 3) := by decide +kernel
theorem dX12_moonsOn_18 : decode cX12_moonsOn 18 = .ok (.iconst 2, 1) := by decide +kernel
theorem dX12_moonsOn_19 : decode cX12_moonsOn 19 = .ok (.iload_n 3, 1) := by decide +kernel
theorem dX12_moonsOn_20 : decode cX12_moonsOn 20 = .ok (.imul, 1) := by decide +kernel
theorem dX12_moonsOn_21 : decode cX12_moonsOn 21 = .ok (.iaload, 1) := by decide +kernel
theorem dX12_moonsOn_22 : decode cX12_moonsOn 22 = .ok (.irem, 1) := by decide +kernel
theorem dX12_moonsOn_23 : decode cX12_moonsOn 23 = .ok (.aload_n 0, 1) := by decide +kernel
theorem dX12_moonsOn_24 : decode cX12_moonsOn 24 = .ok (.getfield 44, 3) := by decide +kernel
theorem dX12_moonsOn_27 : decode cX12_moonsOn 27 = .ok (.iconst 2, 1) := by decide +kernel
theorem dX12_moonsOn_28 : decode cX12_moonsOn 28 = .ok (.iload_n 3, 1) := by decide +kernel
theorem dX12_moonsOn_29 : decode cX12_moonsOn 29 = .ok (.imul, 1) := by decide +kernel
theorem dX12_moonsOn_30 : decode cX12_moonsOn 30 = .ok (.iconst 1, 1) := by decide +kernel
theorem dX12_moonsOn_31 : decode cX12_moonsOn 31 = .ok (.iadd, 1) := by decide +kernel
theorem dX12_moonsOn_32 : decode cX12_moonsOn 32 = .ok (.iaload, 1) := by decide +kernel
theorem dX12_moonsOn_33 : decode cX12_moonsOn 33 = .ok (.if_icmp .ne 9, 3) := by decide +kernel
theorem dX12_moonsOn_36 : decode cX12_moonsOn 36 = .ok (.iconst 1, 1) := by decide +kernel
theorem dX12_moonsOn_37 : decode cX12_moonsOn 37 = .ok (.iload_n 3, 1) := by decide +kernel
theorem dX12_moonsOn_38 : decode cX12_moonsOn 38 = .ok (.ishl, 1) := by decide +kernel
theorem dX12_moonsOn_39 : decode cX12_moonsOn 39 = .ok (.goto 4, 3) := by decide +kernel
theorem dX12_moonsOn_42 : decode cX12_moonsOn 42 = .ok (.iconst 0, 1) := by decide +kernel
theorem dX12_moonsOn_43 : decode cX12_moonsOn 43 = .ok (.ior, 1) := by decide +kernel
theorem dX12_moonsOn_44 : decode cX12_moonsOn 44 = .ok (.istore_n 2, 1) := by decide +kernel
theorem dX12_moonsOn_45 : decode cX12_moonsOn 45 = .ok (.iinc 3 1, 3) := by decide +kernel
theorem dX12_moonsOn_48 : decode cX12_moonsOn 48 = .ok (.goto (-44), 3) := by decide +kernel
theorem dX12_moonsOn_51 : decode cX12_moonsOn 51 = .ok (.iload_n 2, 1) := by decide +kernel
theorem dX12_moonsOn_52 : decode cX12_moonsOn 52 = .ok (.ireturn, 1) := by decide +kernel
theorem dX12_isDay_0 : decode cX12_isDay 0 = .ok (.iload_n 0, 1) := by decide +kernel
theorem dX12_isDay_1 : decode cX12_isDay 1 = .ok (.ifCond .lt 14, 3) := by decide +kernel
theorem dX12_isDay_4 : decode cX12_isDay 4 = .ok (.iload_n 0, 1) := by decide +kernel
theorem dX12_isDay_5 : decode cX12_isDay 5 = .ok (.sipush 9999, 3) := by decide +kernel
theorem dX12_isDay_8 : decode cX12_isDay 8 = .ok (.if_icmp .gt 7, 3) := by decide +kernel
theorem dX12_isDay_11 : decode cX12_isDay 11 = .ok (.iconst 1, 1) := by decide +kernel
theorem dX12_isDay_12 : decode cX12_isDay 12 = .ok (.goto 4, 3) := by decide +kernel
theorem dX12_isDay_15 : decode cX12_isDay 15 = .ok (.iconst 0, 1) := by decide +kernel
theorem dX12_isDay_16 : decode cX12_isDay 16 = .ok (.ireturn, 1) := by decide +kernel
theorem dX12_moons_0 : decode cX12_moons 0 = .ok (.aload_n 0, 1) := by decide +kernel
theorem dX12_moons_1 : decode cX12_moons 1 = .ok (.iconst 0, 1) := by decide +kernel
theorem dX12_moons_2 : decode cX12_moons 2 = .ok (.putfield 3, 3) := by decide +kernel
theorem dX12_moons_5 : decode cX12_moons 5 = .ok (.aload_n 0, 1) := by decide +kernel
theorem dX12_moons_6 : decode cX12_moons 6 = .ok (.iload_n 1, 1) := by decide +kernel
theorem dX12_moons_7 : decode cX12_moons 7 = .ok (.invokestatic 474, 3) := by decide +kernel
theorem dX12_moons_10 : decode cX12_moons 10 = .ok (.iconst 1, 1) := by decide +kernel
theorem dX12_moons_11 : decode cX12_moons 11 = .ok (.iconst 1, 1) := by decide +kernel
theorem dX12_moons_12 : decode cX12_moons 12 = .ok (.invokevirtual 229, 3) := by decide +kernel
theorem dX12_moons_15 : decode cX12_moons 15 = .ok (.ifCond .ne 5, 3) := by decide +kernel
theorem dX12_moons_18 : decode cX12_moons 18 = .ok (.iconst 0, 1) := by decide +kernel
theorem dX12_moons_19 : decode cX12_moons 19 = .ok (.ireturn, 1) := by decide +kernel
theorem dX12_moons_20 : decode cX12_moons 20 = .ok (.aload_n 0, 1) := by decide +kernel
theorem dX12_moons_21 : decode cX12_moons 21 = .ok (.iload_n 1, 1) := by decide +kernel
theorem dX12_moons_22 : decode cX12_moons 22 = .ok (.invokevirtual 477, 3) := by decide +kernel
theorem dX12_moons_25 : decode cX12_moons 25 = .ok (.ireturn, 1) := by decide +kernel
theorem dX12_firstWith_0 : decode cX12_firstWith 0 = .ok (.iload_n 1, 1) := by decide +kernel
theorem dX12_firstWith_1 : decode cX12_firstWith 1 = .ok (.istore_n 3, 1) := by decide +kernel
theorem dX12_firstWith_2 : decode cX12_firstWith 2 = .ok (.iload_n 3, 1) := by decide +kernel
theorem dX12_firstWith_3 : decode cX12_firstWith 3 = .ok (.sipush 9999, 3) := by decide +kernel
theorem dX12_firstWith_6 : decode cX12_firstWith 6 = .ok (.if_icmp .gt 20, 3) := by decide +kernel
theorem dX12_firstWith_9 : decode cX12_firstWith 9 = .ok (.aload_n 0, 1) := by decide +kernel
theorem dX12_firstWith_10 : decode cX12_firstWith 10 = .ok (.iload_n 3, 1) := by decide +kernel
theorem dX12_firstWith_11 : decode cX12_firstWith 11 = .ok (.invokevirtual 477, 3) := by decide +kernel
theorem dX12_firstWith_14 : decode cX12_firstWith 14 = .ok (.iload_n 2, 1) := by decide +kernel
theorem dX12_firstWith_15 : decode cX12_firstWith 15 = .ok (.if_icmp .ne 5, 3) := by decide +kernel
theorem dX12_firstWith_18 : decode cX12_firstWith 18 = .ok (.iload_n 3, 1) := by decide +kernel
theorem dX12_firstWith_19 : decode cX12_firstWith 19 = .ok (.ireturn, 1) := by decide +kernel
theorem dX12_firstWith_20 : decode cX12_firstWith 20 = .ok (.iinc 3 1, 3) := by decide +kernel
theorem dX12_firstWith_23 : decode cX12_firstWith 23 = .ok (.goto (-21), 3) := by decide +kernel
theorem dX12_firstWith_26 : decode cX12_firstWith 26 = .ok (.iconst (-1), 1) := by decide +kernel
theorem dX12_firstWith_27 : decode cX12_firstWith 27 = .ok (.ireturn, 1) := by decide +kernel
theorem dX12_dark_0 : decode cX12_dark 0 = .ok (.aload_n 0, 1) := by decide +kernel
theorem dX12_dark_1 : decode cX12_dark 1 = .ok (.iconst 0, 1) := by decide +kernel
theorem dX12_dark_2 : decode cX12_dark 2 = .ok (.putfield 3, 3) := by decide +kernel
theorem dX12_dark_5 : decode cX12_dark 5 = .ok (.aload_n 0, 1) := by decide +kernel
theorem dX12_dark_6 : decode cX12_dark 6 = .ok (.iload_n 1, 1) := by decide +kernel
theorem dX12_dark_7 : decode cX12_dark 7 = .ok (.invokestatic 474, 3) := by decide +kernel
theorem dX12_dark_10 : decode cX12_dark 10 = .ok (.iconst 1, 1) := by decide +kernel
theorem dX12_dark_11 : decode cX12_dark 11 = .ok (.iconst 1, 1) := by decide +kernel
theorem dX12_dark_12 : decode cX12_dark 12 = .ok (.invokevirtual 229, 3) := by decide +kernel
theorem dX12_dark_15 : decode cX12_dark 15 = .ok (.ifCond .ne 5, 3) := by decide +kernel
theorem dX12_dark_18 : decode cX12_dark 18 = .ok (.iconst 0, 1) := by decide +kernel
theorem dX12_dark_19 : decode cX12_dark 19 = .ok (.ireturn, 1) := by decide +kernel
theorem dX12_dark_20 : decode cX12_dark 20 = .ok (.aload_n 0, 1) := by decide +kernel
theorem dX12_dark_21 : decode cX12_dark 21 = .ok (.iload_n 1, 1) := by decide +kernel
theorem dX12_dark_22 : decode cX12_dark 22 = .ok (.iconst 0, 1) := by decide +kernel
theorem dX12_dark_23 : decode cX12_dark 23 = .ok (.invokevirtual 480, 3) := by decide +kernel
theorem dX12_dark_26 : decode cX12_dark 26 = .ok (.ireturn, 1) := by decide +kernel
theorem dX12_bright_0 : decode cX12_bright 0 = .ok (.aload_n 0, 1) := by decide +kernel
theorem dX12_bright_1 : decode cX12_bright 1 = .ok (.iconst 0, 1) := by decide +kernel
theorem dX12_bright_2 : decode cX12_bright 2 = .ok (.putfield 3, 3) := by decide +kernel
theorem dX12_bright_5 : decode cX12_bright 5 = .ok (.aload_n 0, 1) := by decide +kernel
theorem dX12_bright_6 : decode cX12_bright 6 = .ok (.iload_n 1, 1) := by decide +kernel
theorem dX12_bright_7 : decode cX12_bright 7 = .ok (.invokestatic 474, 3) := by decide +kernel
theorem dX12_bright_10 : decode cX12_bright 10 = .ok (.iconst 1, 1) := by decide +kernel
theorem dX12_bright_11 : decode cX12_bright 11 = .ok (.iconst 1, 1) := by decide +kernel
theorem dX12_bright_12 : decode cX12_bright 12 = .ok (.invokevirtual 229, 3) := by decide +kernel
theorem dX12_bright_15 : decode cX12_bright 15 = .ok (.ifCond .ne 5, 3) := by decide +kernel
theorem dX12_bright_18 : decode cX12_bright 18 = .ok (.iconst 0, 1) := by decide +kernel
theorem dX12_bright_19 : decode cX12_bright 19 = .ok (.ireturn, 1) := by decide +kernel
theorem dX12_bright_20 : decode cX12_bright 20 = .ok (.aload_n 0, 1) := by decide +kernel
theorem dX12_bright_21 : decode cX12_bright 21 = .ok (.iload_n 1, 1) := by decide +kernel
theorem dX12_bright_22 : decode cX12_bright 22 = .ok (.iconst 1, 1) := by decide +kernel
theorem dX12_bright_23 : decode cX12_bright 23 = .ok (.aload_n 0, 1) := by decide +kernel
theorem dX12_bright_24 : decode cX12_bright 24 = .ok (.getfield 189, 3) := by decide +kernel
theorem dX12_bright_27 : decode cX12_bright 27 = .ok (.ishl, 1) := by decide +kernel
theorem dX12_bright_28 : decode cX12_bright 28 = .ok (.iconst 1, 1) := by decide +kernel
theorem dX12_bright_29 : decode cX12_bright 29 = .ok (.isub, 1) := by decide +kernel
theorem dX12_bright_30 : decode cX12_bright 30 = .ok (.invokevirtual 480, 3) := by decide +kernel
theorem dX12_bright_33 : decode cX12_bright 33 = .ok (.ireturn, 1) := by decide +kernel
theorem dX12_darks_0 : decode cX12_darks 0 = .ok (.aload_n 0, 1) := by decide +kernel
theorem dX12_darks_1 : decode cX12_darks 1 = .ok (.iconst 0, 1) := by decide +kernel
theorem dX12_darks_2 : decode cX12_darks 2 = .ok (.putfield 3, 3) := by decide +kernel
theorem dX12_darks_5 : decode cX12_darks 5 = .ok (.aload_n 0, 1) := by decide +kernel
theorem dX12_darks_6 : decode cX12_darks 6 = .ok (.iload_n 1, 1) := by decide +kernel
theorem dX12_darks_7 : decode cX12_darks 7 = .ok (.invokestatic 474, 3) := by decide +kernel
theorem dX12_darks_10 : decode cX12_darks 10 = .ok (.ifCond .eq 19, 3) := by decide +kernel
theorem dX12_darks_13 : decode cX12_darks 13 = .ok (.iload_n 2, 1) := by decide +kernel
theorem dX12_darks_14 : decode cX12_darks 14 = .ok (.invokestatic 474, 3) := by decide +kernel
theorem dX12_darks_17 : decode cX12_darks 17 = .ok (.ifCond .eq 12, 3) := by decide +kernel
theorem dX12_darks_20 : decode cX12_darks 20 = .ok (.iload_n 1, 1) := by decide +kernel
theorem dX12_darks_21 : decode cX12_darks 21 = .ok (.iload_n 2, 1) := by decide +kernel
theorem dX12_darks_22 : decode cX12_darks 22 = .ok (.if_icmp .gt 7, 3) := by decide +kernel
theorem dX12_darks_25 : decode cX12_darks 25 = .ok (.iconst 1, 1) := by decide +kernel
theorem dX12_darks_26 : decode cX12_darks 26 = .ok (.goto 4, 3) := by decide +kernel
theorem dX12_darks_29 : decode cX12_darks 29 = .ok (.iconst 0, 1) := by decide +kernel
theorem dX12_darks_30 : decode cX12_darks 30 = .ok (.iconst 1, 1) := by decide +kernel
theorem dX12_darks_31 : decode cX12_darks 31 = .ok (.iconst 1, 1) := by decide +kernel
theorem dX12_darks_32 : decode cX12_darks 32 = .ok (.invokevirtual 229, 3) := by decide +kernel
theorem dX12_darks_35 : decode cX12_darks 35 = .ok (.ifCond .ne 5, 3) := by decide +kernel
theorem dX12_darks_38 : decode cX12_darks 38 = .ok (.iconst 0, 1) := by decide +kernel
theorem dX12_darks_39 : decode cX12_darks 39 = .ok (.ireturn, 1) := by decide +kernel
theorem dX12_darks_40 : decode cX12_darks 40 = .ok (.iconst 0, 1) := by decide +kernel
theorem dX12_darks_41 : decode cX12_darks 41 = .ok (.istore_n 3, 1) := by decide +kernel
theorem dX12_darks_42 : decode cX12_darks 42 = .ok (.iload_n 1, 1) := by decide +kernel
theorem dX12_darks_43 : decode cX12_darks 43 = .ok (.istore 4, 2) := by decide +kernel
theorem dX12_darks_45 : decode cX12_darks 45 = .ok (.iload 4, 2) := by decide +kernel
theorem dX12_darks_47 : decode cX12_darks 47 = .ok (.iload_n 2, 1) := by decide +kernel
theorem dX12_darks_48 : decode cX12_darks 48 = .ok (.if_icmp .gt 26, 3) := by decide +kernel
theorem dX12_darks_51 : decode cX12_darks 51 = .ok (.iload_n 3, 1) := by decide +kernel
theorem dX12_darks_52 : decode cX12_darks 52 = .ok (.aload_n 0, 1) := by decide +kernel
theorem dX12_darks_53 : decode cX12_darks 53 = .ok (.iload 4, 2) := by decide +kernel
theorem dX12_darks_55 : decode cX12_darks 55 = .ok (.invokevirtual 477, 3) := by decide +kernel
theorem dX12_darks_58 : decode cX12_darks 58 = .ok (.ifCond .ne 7, 3) := by decide +kernel
theorem dX12_darks_61 : decode cX12_darks 61 = .ok (.iconst 1, 1) := by decide +kernel
theorem dX12_darks_62 : decode cX12_darks 62 = .ok (.goto 4, 3) := by decide +kernel
theorem dX12_darks_65 : decode cX12_darks 65 = .ok (.iconst 0, 1) := by decide +kernel
theorem dX12_darks_66 : decode cX12_darks 66 = .ok (.iadd, 1) := by decide +kernel
theorem dX12_darks_67 : decode cX12_darks 67 = .ok (.istore_n 3, 1) := by decide +kernel
theorem dX12_darks_68 : decode cX12_darks 68 = .ok (.iinc 4 1, 3) := by decide +kernel
theorem dX12_darks_71 : decode cX12_darks 71 = .ok (.goto (-26), 3) := by decide +kernel
theorem dX12_darks_74 : decode cX12_darks 74 = .ok (.iload_n 3, 1) := by decide +kernel
theorem dX12_darks_75 : decode cX12_darks 75 = .ok (.ireturn, 1) := by decide +kernel
theorem dX12_findClouds_0 : decode cX12_findClouds 0 = .ok (.aload_n 0, 1) := by decide +kernel
theorem dX12_findClouds_1 : decode cX12_findClouds 1 = .ok (.iload_n 1, 1) := by decide +kernel
theorem dX12_findClouds_2 : decode cX12_findClouds 2 = .ok (.putfield 483, 3) := by decide +kernel
theorem dX12_findClouds_5 : decode cX12_findClouds 5 = .ok (.aload_n 0, 1) := by decide +kernel
theorem dX12_findClouds_6 : decode cX12_findClouds 6 = .ok (.iconst 0, 1) := by decide +kernel
theorem dX12_findClouds_7 : decode cX12_findClouds 7 = .ok (.putfield 486, 3) := by decide +kernel
theorem dX12_findClouds_10 : decode cX12_findClouds 10 = .ok (.aload_n 0, 1) := by decide +kernel
theorem dX12_findClouds_11 : decode cX12_findClouds 11 = .ok (.iconst 0, 1) := by decide +kernel
theorem dX12_findClouds_12 : decode cX12_findClouds 12 = .ok (.putfield 489, 3) := by decide +kernel
theorem dX12_findClouds_15 : decode cX12_findClouds 15 = .ok (.aload_n 0, 1) := by decide +kernel
theorem dX12_findClouds_16 : decode cX12_findClouds 16 = .ok (.iconst 0, 1) := by decide +kernel
theorem dX12_findClouds_17 : decode cX12_findClouds 17 = .ok (.putfield 492, 3) := by decide +kernel
theorem dX12_findClouds_20 : decode cX12_findClouds 20 = .ok (.iconst 0, 1) := by decide +kernel
theorem dX12_findClouds_21 : decode cX12_findClouds 21 = .ok (.istore 5, 2) := by decide +kernel
theorem dX12_findClouds_23 : decode cX12_findClouds 23 = .ok (.iload_n 3, 1) := by decide +kernel
theorem dX12_findClouds_24 : decode cX12_findClouds 24 = .ok (.istore 6, 2) := by decide +kernel
theorem dX12_findClouds_26 : decode cX12_findClouds 26 = .ok (.iload 6, 2) := by decide +kernel
theorem dX12_findClouds_28 : decode cX12_findClouds 28 = .ok (.iload_n 3, 1) := by decide +kernel
theorem dX12_findClouds_29 : decode cX12_findClouds 29 = .ok (.iload 4, 2) := by decide +kernel
theorem dX12_findClouds_31 : decode cX12_findClouds 31 = .ok (.iadd, 1) := by decide +kernel
theorem dX12_findClouds_32 : decode cX12_findClouds 32 = .ok (.if_icmp .ge 156, 3) := by decide +kernel
theorem dX12_findClouds_35 : decode cX12_findClouds 35 = .ok (.aload_n 0, 1) := by decide +kernel
theorem dX12_findClouds_36 : decode cX12_findClouds 36 = .ok (.aload_n 0, 1) := by decide +kernel
theorem dX12_findClouds_37 : decode cX12_findClouds 37 = .ok (.getfield 483, 3) := by decide +kernel
theorem dX12_findClouds_40 : decode cX12_findClouds 40 = .ok (.ldc_w 495, 3) := by decide +kernel
theorem dX12_findClouds_43 : decode cX12_findClouds 43 = .ok (.imul, 1) := by decide +kernel
theorem dX12_findClouds_44 : decode cX12_findClouds 44 = .ok (.sipush 12345, 3) := by decide +kernel
theorem dX12_findClouds_47 : decode cX12_findClouds 47 = .ok (.iadd, 1) := by decide +kernel
theorem dX12_findClouds_48 : decode cX12_findClouds 48 = .ok (.putfield 483, 3) := by decide +kernel
theorem dX12_findClouds_51 : decode cX12_findClouds 51 = .ok (.aload_n 0, 1) := by decide +kernel
theorem dX12_findClouds_52 : decode cX12_findClouds 52 = .ok (.getfield 483, 3) := by decide +kernel
theorem dX12_findClouds_55 : decode cX12_findClouds 55 = .ok (.bipush 16, 2) := by decide +kernel
theorem dX12_findClouds_57 : decode cX12_findClouds 57 = .ok (.ishr, 1) := by decide +kernel
theorem dX12_findClouds_58 : decode cX12_findClouds 58 = .ok (.sipush 32767, 3) := by decide +kernel
theorem dX12_findClouds_61 : decode cX12_findClouds 61 = .ok (.iand, 1) := by decide +kernel
theorem dX12_findClouds_62 : decode cX12_findClouds 62 = .ok (.bipush 16, 2) := by decide +kernel
theorem dX12_findClouds_64 : decode cX12_findClouds 64 = .ok (.irem, 1) := by decide +kernel
theorem dX12_findClouds_65 : decode cX12_findClouds 65 = .ok (.iload_n 2, 1) := by decide +kernel
theorem dX12_findClouds_66 : decode cX12_findClouds 66 = .ok (.if_icmp .ge 7, 3) := by decide +kernel
theorem dX12_findClouds_69 : decode cX12_findClouds 69 = .ok (.iconst 1, 1) := by decide +kernel
theorem dX12_findClouds_70 : decode cX12_findClouds 70 = .ok (.goto 4, 3) := by decide +kernel
theorem dX12_findClouds_73 : decode cX12_findClouds 73 = .ok (.iconst 0, 1) := by decide +kernel
theorem dX12_findClouds_74 : decode cX12_findClouds 74 = .ok (.istore 7, 2) := by decide +kernel
theorem dX12_findClouds_76 : decode cX12_findClouds 76 = .ok (.aload_n 0, 1) := by decide +kernel
theorem dX12_findClouds_77 : decode cX12_findClouds 77 = .ok (.iload 6, 2) := by decide +kernel
theorem dX12_findClouds_79 : decode cX12_findClouds 79 = .ok (.invokevirtual 477, 3) := by decide +kernel
theorem dX12_findClouds_82 : decode cX12_findClouds 82 = .ok (.ifCond .ne 7, 3) := by decide +kernel
theorem dX12_findClouds_85 : decode cX12_findClouds 85 = .ok (.iconst 1, 1) := by decide +kernel
theorem dX12_findClouds_86 : decode cX12_findClouds 86 = .ok (.goto 4, 3) := by decide +kernel
theorem dX12_findClouds_89 : decode cX12_findClouds 89 = .ok (.iconst 0, 1) := by decide +kernel
theorem dX12_findClouds_90 : decode cX12_findClouds 90 = .ok (.istore 8, 2) := by decide +kernel
theorem dX12_findClouds_92 : decode cX12_findClouds 92 = .ok (.aload_n 0, 1) := by decide +kernel
theorem dX12_findClouds_93 : decode cX12_findClouds 93 = .ok (.dup, 1) := by decide +kernel
theorem dX12_findClouds_94 : decode cX12_findClouds 94 = .ok (.getfield 486, 3) := by decide +kernel
theorem dX12_findClouds_97 : decode cX12_findClouds 97 = .ok (.iload 8, 2) := by decide +kernel
theorem dX12_findClouds_99 : decode cX12_findClouds 99 = .ok (.ifCond .ne 8, 3) := by decide +kernel
theorem dX12_findClouds_102 : decode cX12_findClouds 102 = .ok (.iload 7, 2) := by decide +kernel
theorem dX12_findClouds_104 : decode cX12_findClouds 104 = .ok (.ifCond .eq 7, 3) := by decide +kernel
theorem dX12_findClouds_107 : decode cX12_findClouds 107 = .ok (.iconst 1, 1) := by decide +kernel
theorem dX12_findClouds_108 : decode cX12_findClouds 108 = .ok (.goto 4, 3) := by decide +kernel
theorem dX12_findClouds_111 : decode cX12_findClouds 111 = .ok (.iconst 0, 1) := by decide +kernel
theorem dX12_findClouds_112 : decode cX12_findClouds 112 = .ok (.iadd, 1) := by decide +kernel
theorem dX12_findClouds_113 : decode cX12_findClouds 113 = .ok (.putfield 486, 3) := by decide +kernel
theorem dX12_findClouds_116 : decode cX12_findClouds 116 = .ok (.iload 8, 2) := by decide +kernel
theorem dX12_findClouds_118 : decode cX12_findClouds 118 = .ok (.ifCond .ne 8, 3) := by decide +kernel
theorem dX12_findClouds_121 : decode cX12_findClouds 121 = .ok (.iload 7, 2) := by decide +kernel
theorem dX12_findClouds_123 : decode cX12_findClouds 123 = .ok (.ifCond .eq 10, 3) := by decide +kernel
theorem dX12_findClouds_126 : decode cX12_findClouds 126 = .ok (.iload 5, 2) := by decide +kernel
theorem dX12_findClouds_128 : decode cX12_findClouds 128 = .ok (.iconst 1, 1) := by decide +kernel
theorem dX12_findClouds_129 : decode cX12_findClouds 129 = .ok (.iadd, 1) := by decide +kernel
theorem dX12_findClouds_130 : decode cX12_findClouds 130 = .ok (.goto 4, 3) := by decide +kernel
theorem dX12_findClouds_133 : decode cX12_findClouds 133 = .ok (.iconst 0, 1) := by decide +kernel
theorem dX12_findClouds_134 : decode cX12_findClouds 134 = .ok (.istore 5, 2) := by decide +kernel
theorem dX12_findClouds_136 : decode cX12_findClouds 136 = .ok (.aload_n 0, 1) := by decide +kernel
theorem dX12_findClouds_137 : decode cX12_findClouds 137 = .ok (.iload 5, 2) := by decide +kernel
theorem dX12_findClouds_139 : decode cX12_findClouds 139 = .ok (.aload_n 0, 1) := by decide +kernel
theorem dX12_findClouds_140 : decode cX12_findClouds 140 = .ok (.getfield 489, 3) := by decide +kernel
theorem dX12_findClouds_143 : decode cX12_findClouds 143 = .ok (.if_icmp .le 8, 3) := by decide +kernel
theorem dX12_findClouds_146 : decode cX12_findClouds 146 = .ok (.iload 5, 2) := by decide +kernel
theorem dX12_findClouds_148 : decode cX12_findClouds 148 = .ok (.goto 7, 3) := by decide +kernel
theorem dX12_findClouds_151 : decode cX12_findClouds 151 = .ok (.aload_n 0, 1) := by decide +kernel
theorem dX12_findClouds_152 : decode cX12_findClouds 152 = .ok (.getfield 489, 3) := by decide +kernel
theorem dX12_findClouds_155 : decode cX12_findClouds 155 = .ok (.putfield 489, 3) := by decide +kernel
theorem dX12_findClouds_158 : decode cX12_findClouds 158 = .ok (.aload_n 0, 1) := by decide +kernel
theorem dX12_findClouds_159 : decode cX12_findClouds 159 = .ok (.dup, 1) := by decide +kernel
theorem dX12_findClouds_160 : decode cX12_findClouds 160 = .ok (.getfield 492, 3) := by decide +kernel
theorem dX12_findClouds_163 : decode cX12_findClouds 163 = .ok (.iload 8, 2) := by decide +kernel
theorem dX12_findClouds_165 : decode cX12_findClouds 165 = .ok (.ifCond .eq 12, 3) := by decide +kernel
theorem dX12_findClouds_168 : decode cX12_findClouds 168 = .ok (.iload 7, 2) := by decide +kernel
theorem dX12_findClouds_170 : decode cX12_findClouds 170 = .ok (.ifCond .eq 7, 3) := by decide +kernel
theorem dX12_findClouds_173 : decode cX12_findClouds 173 = .ok (.iconst 1, 1) := by decide +kernel
theorem dX12_findClouds_174 : decode cX12_findClouds 174 = .ok (.goto 4, 3) := by decide +kernel
theorem dX12_findClouds_177 : decode cX12_findClouds 177 = .ok (.iconst 0, 1) := by decide +kernel
theorem dX12_findClouds_178 : decode cX12_findClouds 178 = .ok (.iadd, 1) := by decide +kernel
theorem dX12_findClouds_179 : decode cX12_findClouds 179 = .ok (.putfield 492, 3) := by decide +kernel
theorem dX12_findClouds_182 : decode cX12_findClouds 182 = .ok (.iinc 6 1, 3) := by decide +kernel
theorem dX12_findClouds_185 : decode cX12_findClouds 185 = .ok (.goto (-159), 3) := by decide +kernel
theorem dX12_findClouds_188 : decode cX12_findClouds 188 = .ok (.return_, 1) := by decide +kernel
theorem dX12_isCloudy_0 : decode cX12_isCloudy 0 = .ok (.iload_n 0, 1) := by decide +kernel
theorem dX12_isCloudy_1 : decode cX12_isCloudy 1 = .ok (.ifCond .lt 31, 3) := by decide +kernel
theorem dX12_isCloudy_4 : decode cX12_isCloudy 4 = .ok (.iload_n 0, 1) := by decide +kernel
theorem dX12_isCloudy_5 : decode cX12_isCloudy 5 = .ok (.bipush 16, 2) := by decide +kernel
theorem dX12_isCloudy_7 : decode cX12_isCloudy 7 = .ok (.if_icmp .gt 25, 3) := by decide +kernel
theorem dX12_isCloudy_10 : decode cX12_isCloudy 10 = .ok (.iload_n 1, 1) := by decide +kernel
theorem dX12_isCloudy_11 : decode cX12_isCloudy 11 = .ok (.invokestatic 474, 3) := by decide +kernel
theorem dX12_isCloudy_14 : decode cX12_isCloudy 14 = .ok (.ifCond .eq 18, 3) := by decide +kernel
theorem dX12_isCloudy_17 : decode cX12_isCloudy 17 = .ok (.iload_n 2, 1) := by decide +kernel
theorem dX12_isCloudy_18 : decode cX12_isCloudy 18 = .ok (.iconst 1, 1) := by decide +kernel
theorem dX12_isCloudy_19 : decode cX12_isCloudy 19 = .ok (.if_icmp .lt 13, 3) := by decide +kernel
theorem dX12_isCloudy_22 : decode cX12_isCloudy 22 = .ok (.iload_n 2, 1) := by decide +kernel
theorem dX12_isCloudy_23 : decode cX12_isCloudy 23 = .ok (.bipush 60, 2) := by decide +kernel
theorem dX12_isCloudy_25 : decode cX12_isCloudy 25 = .ok (.if_icmp .gt 7, 3) := by decide +kernel
theorem dX12_isCloudy_28 : decode cX12_isCloudy 28 = .ok (.iconst 1, 1) := by decide +kernel
theorem dX12_isCloudy_29 : decode cX12_isCloudy 29 = .ok (.goto 4, 3) := by decide +kernel
theorem dX12_isCloudy_32 : decode cX12_isCloudy 32 = .ok (.iconst 0, 1) := by decide +kernel
theorem dX12_isCloudy_33 : decode cX12_isCloudy 33 = .ok (.ireturn, 1) := by decide +kernel
theorem dX12_clouds_0 : decode cX12_clouds 0 = .ok (.aload_n 0, 1) := by decide +kernel
theorem dX12_clouds_1 : decode cX12_clouds 1 = .ok (.iconst 0, 1) := by decide +kernel
theorem dX12_clouds_2 : decode cX12_clouds 2 = .ok (.putfield 3, 3) := by decide +kernel
theorem dX12_clouds_5 : decode cX12_clouds 5 = .ok (.aload_n 0, 1) := by decide +kernel
theorem dX12_clouds_6 : decode cX12_clouds 6 = .ok (.iload_n 2, 1) := by decide +kernel
theorem dX12_clouds_7 : decode cX12_clouds 7 = .ok (.iload_n 3, 1) := by decide +kernel
theorem dX12_clouds_8 : decode cX12_clouds 8 = .ok (.iload 4, 2) := by decide +kernel
theorem dX12_clouds_10 : decode cX12_clouds 10 = .ok (.invokestatic 496, 3) := by decide +kernel
theorem dX12_clouds_13 : decode cX12_clouds 13 = .ok (.ifCond .eq 17, 3) := by decide +kernel
theorem dX12_clouds_16 : decode cX12_clouds 16 = .ok (.iload 5, 2) := by decide +kernel
theorem dX12_clouds_18 : decode cX12_clouds 18 = .ok (.iconst 0, 1) := by decide +kernel
theorem dX12_clouds_19 : decode cX12_clouds 19 = .ok (.iconst 2, 1) := by decide +kernel
theorem dX12_clouds_20 : decode cX12_clouds 20 = .ok (.invokestatic 303, 3) := by decide +kernel
theorem dX12_clouds_23 : decode cX12_clouds 23 = .ok (.ifCond .eq 7, 3) := by decide +kernel
theorem dX12_clouds_26 : decode cX12_clouds 26 = .ok (.iconst 1, 1) := by decide +kernel
theorem dX12_clouds_27 : decode cX12_clouds 27 = .ok (.goto 4, 3) := by decide +kernel
theorem dX12_clouds_30 : decode cX12_clouds 30 = .ok (.iconst 0, 1) := by decide +kernel
theorem dX12_clouds_31 : decode cX12_clouds 31 = .ok (.iconst 1, 1) := by decide +kernel
theorem dX12_clouds_32 : decode cX12_clouds 32 = .ok (.iconst 1, 1) := by decide +kernel
theorem dX12_clouds_33 : decode cX12_clouds 33 = .ok (.invokevirtual 229, 3) := by decide +kernel
theorem dX12_clouds_36 : decode cX12_clouds 36 = .ok (.ifCond .ne 5, 3) := by decide +kernel
theorem dX12_clouds_39 : decode cX12_clouds 39 = .ok (.iconst 0, 1) := by decide +kernel
theorem dX12_clouds_40 : decode cX12_clouds 40 = .ok (.ireturn, 1) := by decide +kernel
theorem dX12_clouds_41 : decode cX12_clouds 41 = .ok (.aload_n 0, 1) := by decide +kernel
theorem dX12_clouds_42 : decode cX12_clouds 42 = .ok (.iload_n 1, 1) := by decide +kernel
theorem dX12_clouds_43 : decode cX12_clouds 43 = .ok (.iload_n 2, 1) := by decide +kernel
theorem dX12_clouds_44 : decode cX12_clouds 44 = .ok (.iload_n 3, 1) := by decide +kernel
theorem dX12_clouds_45 : decode cX12_clouds 45 = .ok (.iload 4, 2) := by decide +kernel
theorem dX12_clouds_47 : decode cX12_clouds 47 = .ok (.invokevirtual 499, 3) := by decide +kernel
theorem dX12_clouds_50 : decode cX12_clouds 50 = .ok (.iload 5, 2) := by decide +kernel
theorem dX12_clouds_52 : decode cX12_clouds 52 = .ok (.ifCond .ne 10, 3) := by decide +kernel
theorem dX12_clouds_55 : decode cX12_clouds 55 = .ok (.aload_n 0, 1) := by decide +kernel
theorem dX12_clouds_56 : decode cX12_clouds 56 = .ok (.getfield 486, 3) := by decide +kernel
theorem dX12_clouds_59 : decode cX12_clouds 59 = .ok (.goto 20, 3) := by decide +kernel
theorem dX12_clouds_62 : decode cX12_clouds 62 = .ok (.iload 5, 2) := by decide +kernel
theorem dX12_clouds_64 : decode cX12_clouds 64 = .ok (.iconst 1, 1) := by decide +kernel
theorem dX12_clouds_65 : decode cX12_clouds 65 = .ok (.if_icmp .ne 10, 3) := by decide +kernel
theorem dX12_clouds_68 : decode cX12_clouds 68 = .ok (.aload_n 0, 1) := by decide +kernel
theorem dX12_clouds_69 : decode cX12_clouds 69 = .ok (.getfield 489, 3) := by decide +kernel
theorem dX12_clouds_72 : decode cX12_clouds 72 = .ok (.goto 7, 3) := by decide +kernel
theorem dX12_clouds_75 : decode cX12_clouds 75 = .ok (.aload_n 0, 1) := by decide +kernel
theorem dX12_clouds_76 : decode cX12_clouds 76 = .ok (.getfield 492, 3) := by decide +kernel
theorem dX12_clouds_79 : decode cX12_clouds 79 = .ok (.ireturn, 1) := by decide +kernel
theorem dX12_span_0 : decode cX12_span 0 = .ok (.aload_n 0, 1) := by decide +kernel
theorem dX12_span_1 : decode cX12_span 1 = .ok (.iconst 0, 1) := by decide +kernel
theorem dX12_span_2 : decode cX12_span 2 = .ok (.putfield 3, 3) := by decide +kernel
theorem dX12_span_5 : decode cX12_span 5 = .ok (.aload_n 0, 1) := by decide +kernel
theorem dX12_span_6 : decode cX12_span 6 = .ok (.iload_n 2, 1) := by decide +kernel
theorem dX12_span_7 : decode cX12_span 7 = .ok (.iconst 1, 1) := by decide +kernel
theorem dX12_span_8 : decode cX12_span 8 = .ok (.bipush 40, 2) := by decide +kernel
theorem dX12_span_10 : decode cX12_span 10 = .ok (.invokestatic 303, 3) := by decide +kernel
theorem dX12_span_13 : decode cX12_span 13 = .ok (.ifCond .eq 28, 3) := by decide +kernel
theorem dX12_span_16 : decode cX12_span 16 = .ok (.iload_n 3, 1) := by decide +kernel
theorem dX12_span_17 : decode cX12_span 17 = .ok (.iload 4, 2) := by decide +kernel
theorem dX12_span_19 : decode cX12_span 19 = .ok (.iload 5, 2) := by decide +kernel
theorem dX12_span_21 : decode cX12_span 21 = .ok (.invokestatic 496, 3) := by decide +kernel
theorem dX12_span_24 : decode cX12_span 24 = .ok (.ifCond .eq 17, 3) := by decide +kernel
theorem dX12_span_27 : decode cX12_span 27 = .ok (.iload 6, 2) := by decide +kernel
theorem dX12_span_29 : decode cX12_span 29 = .ok (.iconst 0, 1) := by decide +kernel
theorem dX12_span_30 : decode cX12_span 30 = .ok (.iconst 2, 1) := by decide +kernel
theorem dX12_span_31 : decode cX12_span 31 = .ok (.invokestatic 303, 3) := by decide +kernel
theorem dX12_span_34 : decode cX12_span 34 = .ok (.ifCond .eq 7, 3) := by decide +kernel
theorem dX12_span_37 : decode cX12_span 37 = .ok (.iconst 1, 1) := by decide +kernel
theorem dX12_span_38 : decode cX12_span 38 = .ok (.goto 4, 3) := by decide +kernel
theorem dX12_span_41 : decode cX12_span 41 = .ok (.iconst 0, 1) := by decide +kernel
theorem dX12_span_42 : decode cX12_span 42 = .ok (.iconst 1, 1) := by decide +kernel
theorem dX12_span_43 : decode cX12_span 43 = .ok (.iconst 1, 1) := by decide +kernel
theorem dX12_span_44 : decode cX12_span 44 = .ok (.invokevirtual 229, 3) := by decide +kernel
theorem dX12_span_47 : decode cX12_span 47 = .ok (.ifCond .ne 5, 3) := by decide +kernel
theorem dX12_span_50 : decode cX12_span 50 = .ok (.iconst 0, 1) := by decide +kernel
theorem dX12_span_51 : decode cX12_span 51 = .ok (.ireturn, 1) := by decide +kernel
theorem dX12_span_52 : decode cX12_span 52 = .ok (.iconst (-1), 1) := by decide +kernel
theorem dX12_span_53 : decode cX12_span 53 = .ok (.istore 7, 2) := by decide +kernel
theorem dX12_span_55 : decode cX12_span 55 = .ok (.iconst 0, 1) := by decide +kernel
theorem dX12_span_56 : decode cX12_span 56 = .ok (.istore 8, 2) := by decide +kernel
theorem dX12_span_58 : decode cX12_span 58 = .ok (.iconst 0, 1) := by decide +kernel
theorem dX12_span_59 : decode cX12_span 59 = .ok (.istore 9, 2) := by decide +kernel
theorem dX12_span_61 : decode cX12_span 61 = .ok (.iconst 0, 1) := by decide +kernel
theorem dX12_span_62 : decode cX12_span 62 = .ok (.istore 10, 2) := by decide +kernel
theorem dX12_span_64 : decode cX12_span 64 = .ok (.iload 10, 2) := by decide +kernel
theorem dX12_span_66 : decode cX12_span 66 = .ok (.iload_n 2, 1) := by decide +kernel
theorem dX12_span_67 : decode cX12_span 67 = .ok (.if_icmp .ge 77, 3) := by decide +kernel
theorem dX12_span_70 : decode cX12_span 70 = .ok (.aload_n 0, 1) := by decide +kernel
theorem dX12_span_71 : decode cX12_span 71 = .ok (.iload_n 1, 1) := by decide +kernel
theorem dX12_span_72 : decode cX12_span 72 = .ok (.iload 10, 2) := by decide +kernel
theorem dX12_span_74 : decode cX12_span 74 = .ok (.iadd, 1) := by decide +kernel
theorem dX12_span_75 : decode cX12_span 75 = .ok (.iload_n 3, 1) := by decide +kernel
theorem dX12_span_76 : decode cX12_span 76 = .ok (.iload 4, 2) := by decide +kernel
theorem dX12_span_78 : decode cX12_span 78 = .ok (.iload 5, 2) := by decide +kernel
theorem dX12_span_80 : decode cX12_span 80 = .ok (.invokevirtual 499, 3) := by decide +kernel
theorem dX12_span_83 : decode cX12_span 83 = .ok (.iload 7, 2) := by decide +kernel
theorem dX12_span_85 : decode cX12_span 85 = .ok (.iconst (-1), 1) := by decide +kernel
theorem dX12_span_86 : decode cX12_span 86 = .ok (.if_icmp .eq 12, 3) := by decide +kernel
theorem dX12_span_89 : decode cX12_span 89 = .ok (.aload_n 0, 1) := by decide +kernel
theorem dX12_span_90 : decode cX12_span 90 = .ok (.getfield 486, 3) := by decide +kernel
theorem dX12_span_93 : decode cX12_span 93 = .ok (.iload 7, 2) := by decide +kernel
theorem dX12_span_95 : decode cX12_span 95 = .ok (.if_icmp .ge 10, 3) := by decide +kernel
theorem dX12_span_98 : decode cX12_span 98 = .ok (.aload_n 0, 1) := by decide +kernel
theorem dX12_span_99 : decode cX12_span 99 = .ok (.getfield 486, 3) := by decide +kernel
theorem dX12_span_102 : decode cX12_span 102 = .ok (.goto 5, 3) := by decide +kernel
theorem dX12_span_105 : decode cX12_span 105 = .ok (.iload 7, 2) := by decide +kernel
theorem dX12_span_107 : decode cX12_span 107 = .ok (.istore 7, 2) := by decide +kernel
theorem dX12_span_109 : decode cX12_span 109 = .ok (.aload_n 0, 1) := by decide +kernel
theorem dX12_span_110 : decode cX12_span 110 = .ok (.getfield 486, 3) := by decide +kernel
theorem dX12_span_113 : decode cX12_span 113 = .ok (.iload 8, 2) := by decide +kernel
theorem dX12_span_115 : decode cX12_span 115 = .ok (.if_icmp .le 10, 3) := by decide +kernel
theorem dX12_span_118 : decode cX12_span 118 = .ok (.aload_n 0, 1) := by decide +kernel
theorem dX12_span_119 : decode cX12_span 119 = .ok (.getfield 486, 3) := by decide +kernel
theorem dX12_span_122 : decode cX12_span 122 = .ok (.goto 5, 3) := by decide +kernel
theorem dX12_span_125 : decode cX12_span 125 = .ok (.iload 8, 2) := by decide +kernel
theorem dX12_span_127 : decode cX12_span 127 = .ok (.istore 8, 2) := by decide +kernel
theorem dX12_span_129 : decode cX12_span 129 = .ok (.iload 9, 2) := by decide +kernel
theorem dX12_span_131 : decode cX12_span 131 = .ok (.aload_n 0, 1) := by decide +kernel
theorem dX12_span_132 : decode cX12_span 132 = .ok (.getfield 486, 3) := by decide +kernel
theorem dX12_span_135 : decode cX12_span 135 = .ok (.iadd, 1) := by decide +kernel
theorem dX12_span_136 : decode cX12_span 136 = .ok (.istore 9, 2) := by decide +kernel
theorem dX12_span_138 : decode cX12_span 138 = .ok (.iinc 10 1, 3) := by decide +kernel
theorem dX12_span_141 : decode cX12_span 141 = .ok (.goto (-77), 3) := by decide +kernel
theorem dX12_span_144 : decode cX12_span 144 = .ok (.iload 6, 2) := by decide +kernel
theorem dX12_span_146 : decode cX12_span 146 = .ok (.ifCond .ne 8, 3) := by decide +kernel
theorem dX12_span_149 : decode cX12_span 149 = .ok (.iload 7, 2) := by decide +kernel
theorem dX12_span_151 : decode cX12_span 151 = .ok (.goto 16, 3) := by decide +kernel
theorem dX12_span_154 : decode cX12_span 154 = .ok (.iload 6, 2) := by decide +kernel
theorem dX12_span_156 : decode cX12_span 156 = .ok (.iconst 1, 1) := by decide +kernel
theorem dX12_span_157 : decode cX12_span 157 = .ok (.if_icmp .ne 8, 3) := by decide +kernel
theorem dX12_span_160 : decode cX12_span 160 = .ok (.iload 8, 2) := by decide +kernel
theorem dX12_span_162 : decode cX12_span 162 = .ok (.goto 5, 3) := by decide +kernel
theorem dX12_span_165 : decode cX12_span 165 = .ok (.iload 9, 2) := by decide +kernel
theorem dX12_span_167 : decode cX12_span 167 = .ok (.ireturn, 1) := by decide +kernel
theorem dX12_ahead_0 : decode cX12_ahead 0 = .ok (.aload_n 0, 1) := by decide +kernel
theorem dX12_ahead_1 : decode cX12_ahead 1 = .ok (.iconst 0, 1) := by decide +kernel
theorem dX12_ahead_2 : decode cX12_ahead 2 = .ok (.putfield 3, 3) := by decide +kernel
theorem dX12_ahead_5 : decode cX12_ahead 5 = .ok (.aload_n 0, 1) := by decide +kernel
theorem dX12_ahead_6 : decode cX12_ahead 6 = .ok (.iload_n 1, 1) := by decide +kernel
theorem dX12_ahead_7 : decode cX12_ahead 7 = .ok (.iconst 1, 1) := by decide +kernel
theorem dX12_ahead_8 : decode cX12_ahead 8 = .ok (.invokevirtual 393, 3) := by decide +kernel
theorem dX12_ahead_11 : decode cX12_ahead 11 = .ok (.ifCond .eq 36, 3) := by decide +kernel
theorem dX12_ahead_14 : decode cX12_ahead 14 = .ok (.aload_n 0, 1) := by decide +kernel
theorem dX12_ahead_15 : decode cX12_ahead 15 = .ok (.iload_n 2, 1) := by decide +kernel
theorem dX12_ahead_16 : decode cX12_ahead 16 = .ok (.iconst 0, 1) := by decide +kernel
theorem dX12_ahead_17 : decode cX12_ahead 17 = .ok (.bipush 60, 2) := by decide +kernel
theorem dX12_ahead_19 : decode cX12_ahead 19 = .ok (.invokestatic 303, 3) := by decide +kernel
theorem dX12_ahead_22 : decode cX12_ahead 22 = .ok (.ifCond .eq 16, 3) := by decide +kernel
theorem dX12_ahead_25 : decode cX12_ahead 25 = .ok (.iload_n 3, 1) := by decide +kernel
theorem dX12_ahead_26 : decode cX12_ahead 26 = .ok (.iconst 0, 1) := by decide +kernel
theorem dX12_ahead_27 : decode cX12_ahead 27 = .ok (.iconst 1, 1) := by decide +kernel
theorem dX12_ahead_28 : decode cX12_ahead 28 = .ok (.invokestatic 303, 3) := by decide +kernel
theorem dX12_ahead_31 : decode cX12_ahead 31 = .ok (.ifCond .eq 7, 3) := by decide +kernel
theorem dX12_ahead_34 : decode cX12_ahead 34 = .ok (.iconst 1, 1) := by decide +kernel
theorem dX12_ahead_35 : decode cX12_ahead 35 = .ok (.goto 4, 3) := by decide +kernel
theorem dX12_ahead_38 : decode cX12_ahead 38 = .ok (.iconst 0, 1) := by decide +kernel
theorem dX12_ahead_39 : decode cX12_ahead 39 = .ok (.iconst 2, 1) := by decide +kernel
theorem dX12_ahead_40 : decode cX12_ahead 40 = .ok (.iconst 1, 1) := by decide +kernel
theorem dX12_ahead_41 : decode cX12_ahead 41 = .ok (.invokevirtual 229, 3) := by decide +kernel
theorem dX12_ahead_44 : decode cX12_ahead 44 = .ok (.ifCond .ne 5, 3) := by decide +kernel
theorem dX12_ahead_47 : decode cX12_ahead 47 = .ok (.iconst 0, 1) := by decide +kernel
theorem dX12_ahead_48 : decode cX12_ahead 48 = .ok (.ireturn, 1) := by decide +kernel
theorem dX12_ahead_49 : decode cX12_ahead 49 = .ok (.aload_n 0, 1) := by decide +kernel
theorem dX12_ahead_50 : decode cX12_ahead 50 = .ok (.invokevirtual 396, 3) := by decide +kernel
theorem dX12_ahead_53 : decode cX12_ahead 53 = .ok (.iconst 0, 1) := by decide +kernel
theorem dX12_ahead_54 : decode cX12_ahead 54 = .ok (.istore 4, 2) := by decide +kernel
theorem dX12_ahead_56 : decode cX12_ahead 56 = .ok (.iload 4, 2) := by decide +kernel
theorem dX12_ahead_58 : decode cX12_ahead 58 = .ok (.iload_n 2, 1) := by decide +kernel
theorem dX12_ahead_59 : decode cX12_ahead 59 = .ok (.if_icmp .ge 13, 3) := by decide +kernel
theorem dX12_ahead_62 : decode cX12_ahead 62 = .ok (.aload_n 0, 1) := by decide +kernel
theorem dX12_ahead_63 : decode cX12_ahead 63 = .ok (.invokevirtual 388, 3) := by decide +kernel
theorem dX12_ahead_66 : decode cX12_ahead 66 = .ok (.iinc 4 1, 3) := by decide +kernel
theorem dX12_ahead_69 : decode cX12_ahead 69 = .ok (.goto (-13), 3) := by decide +kernel
theorem dX12_ahead_72 : decode cX12_ahead 72 = .ok (.iload_n 3, 1) := by decide +kernel
theorem dX12_ahead_73 : decode cX12_ahead 73 = .ok (.ifCond .ne 14, 3) := by decide +kernel
theorem dX12_ahead_76 : decode cX12_ahead 76 = .ok (.aload_n 0, 1) := by decide +kernel
theorem dX12_ahead_77 : decode cX12_ahead 77 = .ok (.getfield 77, 3) := by decide +kernel
theorem dX12_ahead_80 : decode cX12_ahead 80 = .ok (.iconst 0, 1) := by decide +kernel
theorem dX12_ahead_81 : decode cX12_ahead 81 = .ok (.iload_n 1, 1) := by decide +kernel
theorem dX12_ahead_82 : decode cX12_ahead 82 = .ok (.iadd, 1) := by decide +kernel
theorem dX12_ahead_83 : decode cX12_ahead 83 = .ok (.iaload, 1) := by decide +kernel
theorem dX12_ahead_84 : decode cX12_ahead 84 = .ok (.goto 12, 3) := by decide +kernel
theorem dX12_ahead_87 : decode cX12_ahead 87 = .ok (.aload_n 0, 1) := by decide +kernel
theorem dX12_ahead_88 : decode cX12_ahead 88 = .ok (.getfield 77, 3) := by decide +kernel
theorem dX12_ahead_91 : decode cX12_ahead 91 = .ok (.bipush 6, 2) := by decide +kernel
theorem dX12_ahead_93 : decode cX12_ahead 93 = .ok (.iload_n 1, 1) := by decide +kernel
theorem dX12_ahead_94 : decode cX12_ahead 94 = .ok (.iadd, 1) := by decide +kernel
theorem dX12_ahead_95 : decode cX12_ahead 95 = .ok (.iaload, 1) := by decide +kernel
theorem dX12_ahead_96 : decode cX12_ahead 96 = .ok (.ireturn, 1) := by decide +kernel
theorem dX12_chosen_0 : decode cX12_chosen 0 = .ok (.aload_n 0, 1) := by decide +kernel
theorem dX12_chosen_1 : decode cX12_chosen 1 = .ok (.iconst 0, 1) := by decide +kernel
theorem dX12_chosen_2 : decode cX12_chosen 2 = .ok (.putfield 3, 3) := by decide +kernel
theorem dX12_chosen_5 : decode cX12_chosen 5 = .ok (.aload_n 0, 1) := by decide +kernel
theorem dX12_chosen_6 : decode cX12_chosen 6 = .ok (.iload_n 1, 1) := by decide +kernel
theorem dX12_chosen_7 : decode cX12_chosen 7 = .ok (.iconst 0, 1) := by decide +kernel
theorem dX12_chosen_8 : decode cX12_chosen 8 = .ok (.iconst 1, 1) := by decide +kernel
theorem dX12_chosen_9 : decode cX12_chosen 9 = .ok (.invokestatic 303, 3) := by decide +kernel
theorem dX12_chosen_12 : decode cX12_chosen 12 = .ok (.iconst 1, 1) := by decide +kernel
theorem dX12_chosen_13 : decode cX12_chosen 13 = .ok (.iconst 1, 1) := by decide +kernel
theorem dX12_chosen_14 : decode cX12_chosen 14 = .ok (.invokevirtual 229, 3) := by decide +kernel
theorem dX12_chosen_17 : decode cX12_chosen 17 = .ok (.ifCond .ne 5, 3) := by decide +kernel
theorem dX12_chosen_20 : decode cX12_chosen 20 = .ok (.iconst 0, 1) := by decide +kernel
theorem dX12_chosen_21 : decode cX12_chosen 21 = .ok (.ireturn, 1) := by decide +kernel
theorem dX12_chosen_22 : decode cX12_chosen 22 = .ok (.iconst (-1), 1) := by decide +kernel
theorem dX12_chosen_23 : decode cX12_chosen 23 = .ok (.istore_n 2, 1) := by decide +kernel
theorem dX12_chosen_24 : decode cX12_chosen 24 = .ok (.iconst 0, 1) := by decide +kernel
theorem dX12_chosen_25 : decode cX12_chosen 25 = .ok (.istore_n 3, 1) := by decide +kernel
theorem dX12_chosen_26 : decode cX12_chosen 26 = .ok (.iload_n 3, 1) := by decide +kernel
theorem dX12_chosen_27 : decode cX12_chosen 27 = .ok (.iload_n 1, 1) := by decide +kernel
theorem dX12_chosen_28 : decode cX12_chosen 28 = .ok (.ifCond .ne 10, 3) := by decide +kernel
theorem dX12_chosen_31 : decode cX12_chosen 31 = .ok (.aload_n 0, 1) := by decide +kernel
theorem dX12_chosen_32 : decode cX12_chosen 32 = .ok (.getfield 180, 3) := by decide +kernel
theorem dX12_chosen_35 : decode cX12_chosen 35 = .ok (.goto 7, 3) := by decide +kernel
theorem dX12_chosen_38 : decode cX12_chosen 38 = .ok (.aload_n 0, 1) := by decide +kernel
theorem dX12_chosen_39 : decode cX12_chosen 39 = .ok (.getfield 183, 3) := by decide +kernel
theorem dX12_chosen_42 : decode cX12_chosen 42 = .ok (.if_icmp .ge 46, 3) := by decide +kernel
theorem dX12_chosen_45 : decode cX12_chosen 45 = .ok (.iload_n 1, 1) := by decide +kernel
theorem dX12_chosen_46 : decode cX12_chosen 46 = .ok (.iconst 1, 1) := by decide +kernel
theorem dX12_chosen_47 : decode cX12_chosen 47 = .ok (.if_icmp .ne 18, 3) := by decide +kernel
theorem dX12_chosen_50 : decode cX12_chosen 50 = .ok (.aload_n 0, 1) := by decide +kernel
theorem dX12_chosen_51 : decode cX12_chosen 51 = .ok (.getfield 74, 3) := by decide +kernel
theorem dX12_chosen_54 : decode cX12_chosen 54 = .ok (.bipush 18, 2) := by decide +kernel
theorem dX12_chosen_56 : decode cX12_chosen 56 = .ok (.iload_n 3, 1) := by decide +kernel
theorem dX12_chosen_57 : decode cX12_chosen 57 = .ok (.iadd, 1) := by decide +kernel
theorem dX12_chosen_58 : decode cX12_chosen 58 = .ok (.iaload, 1) := by decide +kernel
theorem dX12_chosen_59 : decode cX12_chosen 59 = .ok (.ifCond .ne 6, 3) := by decide +kernel
theorem dX12_chosen_62 : decode cX12_chosen 62 = .ok (.goto 20, 3) := by decide +kernel
theorem dX12_chosen_65 : decode cX12_chosen 65 = .ok (.iload_n 2, 1) := by decide +kernel
theorem dX12_chosen_66 : decode cX12_chosen 66 = .ok (.iconst (-1), 1) := by decide +kernel
theorem dX12_chosen_67 : decode cX12_chosen 67 = .ok (.if_icmp .eq 13, 3) := by decide +kernel
theorem dX12_chosen_70 : decode cX12_chosen 70 = .ok (.aload_n 0, 1) := by decide +kernel
theorem dX12_chosen_71 : decode cX12_chosen 71 = .ok (.iload_n 1, 1) := by decide +kernel
theorem dX12_chosen_72 : decode cX12_chosen 72 = .ok (.iload_n 3, 1) := by decide +kernel
theorem dX12_chosen_73 : decode cX12_chosen 73 = .ok (.iload_n 2, 1) := by decide +kernel
theorem dX12_chosen_74 : decode cX12_chosen 74 = .ok (.invokevirtual 503, 3) := by decide +kernel
theorem dX12_chosen_77 : decode cX12_chosen 77 = .ok (.ifCond .eq 5, 3) := by decide +kernel
theorem dX12_chosen_80 : decode cX12_chosen 80 = .ok (.iload_n 3, 1) := by decide +kernel
theorem dX12_chosen_81 : decode cX12_chosen 81 = .ok (.istore_n 2, 1) := by decide +kernel
theorem dX12_chosen_82 : decode cX12_chosen 82 = .ok (.iinc 3 1, 3) := by decide +kernel
theorem dX12_chosen_85 : decode cX12_chosen 85 = .ok (.goto (-59), 3) := by decide +kernel
theorem dX12_chosen_88 : decode cX12_chosen 88 = .ok (.iload_n 2, 1) := by decide +kernel
theorem dX12_chosen_89 : decode cX12_chosen 89 = .ok (.ireturn, 1) := by decide +kernel
theorem dX12_isAbove_0 : decode cX12_isAbove 0 = .ok (.iload_n 1, 1) := by decide +kernel
theorem dX12_isAbove_1 : decode cX12_isAbove 1 = .ok (.ifCond .ne 48, 3) := by decide +kernel
theorem dX12_isAbove_4 : decode cX12_isAbove 4 = .ok (.aload_n 0, 1) := by decide +kernel
theorem dX12_isAbove_5 : decode cX12_isAbove 5 = .ok (.getfield 74, 3) := by decide +kernel
theorem dX12_isAbove_8 : decode cX12_isAbove 8 = .ok (.iconst 0, 1) := by decide +kernel
theorem dX12_isAbove_9 : decode cX12_isAbove 9 = .ok (.iload_n 2, 1) := by decide +kernel
theorem dX12_isAbove_10 : decode cX12_isAbove 10 = .ok (.iadd, 1) := by decide +kernel
theorem dX12_isAbove_11 : decode cX12_isAbove 11 = .ok (.iaload, 1) := by decide +kernel
theorem dX12_isAbove_12 : decode cX12_isAbove 12 = .ok (.aload_n 0, 1) := by decide +kernel
theorem dX12_isAbove_13 : decode cX12_isAbove 13 = .ok (.getfield 74, 3) := by decide +kernel
theorem dX12_isAbove_16 : decode cX12_isAbove 16 = .ok (.bipush 6, 2) := by decide +kernel
theorem dX12_isAbove_18 : decode cX12_isAbove 18 = .ok (.iload_n 2, 1) := by decide +kernel
theorem dX12_isAbove_19 : decode cX12_isAbove 19 = .ok (.iadd, 1) := by decide +kernel
theorem dX12_isAbove_20 : decode cX12_isAbove 20 = .ok (.iaload, 1) := by decide +kernel
theorem dX12_isAbove_21 : decode cX12_isAbove 21 = .ok (.iadd, 1) := by decide +kernel
theorem dX12_isAbove_22 : decode cX12_isAbove 22 = .ok (.aload_n 0, 1) := by decide +kernel
theorem dX12_isAbove_23 : decode cX12_isAbove 23 = .ok (.getfield 74, 3) := by decide +kernel
theorem dX12_isAbove_26 : decode cX12_isAbove 26 = .ok (.iconst 0, 1) := by decide +kernel
theorem dX12_isAbove_27 : decode cX12_isAbove 27 = .ok (.iload_n 3, 1) := by decide +kernel
theorem dX12_isAbove_28 : decode cX12_isAbove 28 = .ok (.iadd, 1) := by decide +kernel
theorem dX12_isAbove_29 : decode cX12_isAbove 29 = .ok (.iaload, 1) := by decide +kernel
theorem dX12_isAbove_30 : decode cX12_isAbove 30 = .ok (.aload_n 0, 1) := by decide +kernel
theorem dX12_isAbove_31 : decode cX12_isAbove 31 = .ok (.getfield 74, 3) := by decide +kernel
theorem dX12_isAbove_34 : decode cX12_isAbove 34 = .ok (.bipush 6, 2) := by decide +kernel
theorem dX12_isAbove_36 : decode cX12_isAbove 36 = .ok (.iload_n 3, 1) := by decide +kernel
theorem dX12_isAbove_37 : decode cX12_isAbove 37 = .ok (.iadd, 1) := by decide +kernel
theorem dX12_isAbove_38 : decode cX12_isAbove 38 = .ok (.iaload, 1) := by decide +kernel
theorem dX12_isAbove_39 : decode cX12_isAbove 39 = .ok (.iadd, 1) := by decide +kernel
theorem dX12_isAbove_40 : decode cX12_isAbove 40 = .ok (.if_icmp .le 7, 3) := by decide +kernel
theorem dX12_isAbove_43 : decode cX12_isAbove 43 = .ok (.iconst 1, 1) := by decide +kernel
theorem dX12_isAbove_44 : decode cX12_isAbove 44 = .ok (.goto 4, 3) := by decide +kernel
theorem dX12_isAbove_47 : decode cX12_isAbove 47 = .ok (.iconst 0, 1) := by decide +kernel
theorem dX12_isAbove_48 : decode cX12_isAbove 48 = .ok (.ireturn, 1) := by decide +kernel
theorem dX12_isAbove_49 : decode cX12_isAbove 49 = .ok (.aload_n 0, 1) := by decide +kernel
theorem dX12_isAbove_50 : decode cX12_isAbove 50 = .ok (.getfield 38, 3) := by decide +kernel
theorem dX12_isAbove_53 : decode cX12_isAbove 53 = .ok (.iconst 4, 1) := by decide +kernel
theorem dX12_isAbove_54 : decode cX12_isAbove 54 = .ok (.iload_n 2, 1) := by decide +kernel
theorem dX12_isAbove_55 : decode cX12_isAbove 55 = .ok (.imul, 1) := by decide +kernel
theorem dX12_isAbove_56 : decode cX12_isAbove 56 = .ok (.iconst 3, 1) := by decide +kernel
theorem dX12_isAbove_57 : decode cX12_isAbove 57 = .ok (.iadd, 1) := by decide +kernel
theorem dX12_isAbove_58 : decode cX12_isAbove 58 = .ok (.iaload, 1) := by decide +kernel
theorem dX12_isAbove_59 : decode cX12_isAbove 59 = .ok (.aload_n 0, 1) := by decide +kernel
theorem dX12_isAbove_60 : decode cX12_isAbove 60 = .ok (.getfield 38, 3) := by decide +kernel
theorem dX12_isAbove_63 : decode cX12_isAbove 63 = .ok (.iconst 4, 1) := by decide +kernel
theorem dX12_isAbove_64 : decode cX12_isAbove 64 = .ok (.iload_n 3, 1) := by decide +kernel
theorem dX12_isAbove_65 : decode cX12_isAbove 65 = .ok (.imul, 1) := by decide +kernel
theorem dX12_isAbove_66 : decode cX12_isAbove 66 = .ok (.iconst 1, 1) := by decide +kernel
theorem dX12_isAbove_67 : decode cX12_isAbove 67 = .ok (.iadd, 1) := by decide +kernel
theorem dX12_isAbove_68 : decode cX12_isAbove 68 = .ok (.iaload, 1) := by decide +kernel
theorem dX12_isAbove_69 : decode cX12_isAbove 69 = .ok (.imul, 1) := by decide +kernel
theorem dX12_isAbove_70 : decode cX12_isAbove 70 = .ok (.aload_n 0, 1) := by decide +kernel
theorem dX12_isAbove_71 : decode cX12_isAbove 71 = .ok (.getfield 38, 3) := by decide +kernel
theorem dX12_isAbove_74 : decode cX12_isAbove 74 = .ok (.iconst 4, 1) := by decide +kernel
theorem dX12_isAbove_75 : decode cX12_isAbove 75 = .ok (.iload_n 3, 1) := by decide +kernel
theorem dX12_isAbove_76 : decode cX12_isAbove 76 = .ok (.imul, 1) := by decide +kernel
theorem dX12_isAbove_77 : decode cX12_isAbove 77 = .ok (.iconst 3, 1) := by decide +kernel
theorem dX12_isAbove_78 : decode cX12_isAbove 78 = .ok (.iadd, 1) := by decide +kernel
theorem dX12_isAbove_79 : decode cX12_isAbove 79 = .ok (.iaload, 1) := by decide +kernel
theorem dX12_isAbove_80 : decode cX12_isAbove 80 = .ok (.aload_n 0, 1) := by decide +kernel
theorem dX12_isAbove_81 : decode cX12_isAbove 81 = .ok (.getfield 38, 3) := by decide +kernel
theorem dX12_isAbove_84 : decode cX12_isAbove 84 = .ok (.iconst 4, 1) := by decide +kernel
theorem dX12_isAbove_85 : decode cX12_isAbove 85 = .ok (.iload_n 2, 1) := by decide +kernel
theorem dX12_isAbove_86 : decode cX12_isAbove 86 = .ok (.imul, 1) := by decide +kernel
theorem dX12_isAbove_87 : decode cX12_isAbove 87 = .ok (.iconst 1, 1) := by decide +kernel
theorem dX12_isAbove_88 : decode cX12_isAbove 88 = .ok (.iadd, 1) := by decide +kernel
theorem dX12_isAbove_89 : decode cX12_isAbove 89 = .ok (.iaload, 1) := by decide +kernel
theorem dX12_isAbove_90 : decode cX12_isAbove 90 = .ok (.imul, 1) := by decide +kernel
theorem dX12_isAbove_91 : decode cX12_isAbove 91 = .ok (.if_icmp .le 7, 3) := by decide +kernel
theorem dX12_isAbove_94 : decode cX12_isAbove 94 = .ok (.iconst 1, 1) := by decide +kernel
theorem dX12_isAbove_95 : decode cX12_isAbove 95 = .ok (.goto 4, 3) := by decide +kernel
theorem dX12_isAbove_98 : decode cX12_isAbove 98 = .ok (.iconst 0, 1) := by decide +kernel
theorem dX12_isAbove_99 : decode cX12_isAbove 99 = .ok (.ireturn, 1) := by decide +kernel
theorem dX12_keepsRow_0 : decode cX12_keepsRow 0 = .ok (.iconst 0, 1) := by decide +kernel
theorem dX12_keepsRow_1 : decode cX12_keepsRow 1 = .ok (.istore 5, 2) := by decide +kernel
theorem dX12_keepsRow_3 : decode cX12_keepsRow 3 = .ok (.iload 5, 2) := by decide +kernel
theorem dX12_keepsRow_5 : decode cX12_keepsRow 5 = .ok (.iload_n 3, 1) := by decide +kernel
theorem dX12_keepsRow_6 : decode cX12_keepsRow 6 = .ok (.if_icmp .ge 43, 3) := by decide +kernel
theorem dX12_keepsRow_9 : decode cX12_keepsRow 9 = .ok (.iload 4, 2) := by decide +kernel
theorem dX12_keepsRow_11 : decode cX12_keepsRow 11 = .ok (.ifCond .eq 19, 3) := by decide +kernel
theorem dX12_keepsRow_14 : decode cX12_keepsRow 14 = .ok (.aload_n 0, 1) := by decide +kernel
theorem dX12_keepsRow_15 : decode cX12_keepsRow 15 = .ok (.getfield 107, 3) := by decide +kernel
theorem dX12_keepsRow_18 : decode cX12_keepsRow 18 = .ok (.iload_n 1, 1) := by decide +kernel
theorem dX12_keepsRow_19 : decode cX12_keepsRow 19 = .ok (.iload 5, 2) := by decide +kernel
theorem dX12_keepsRow_21 : decode cX12_keepsRow 21 = .ok (.iadd, 1) := by decide +kernel
theorem dX12_keepsRow_22 : decode cX12_keepsRow 22 = .ok (.aload_n 2, 1) := by decide +kernel
theorem dX12_keepsRow_23 : decode cX12_keepsRow 23 = .ok (.iload 5, 2) := by decide +kernel
theorem dX12_keepsRow_25 : decode cX12_keepsRow 25 = .ok (.iaload, 1) := by decide +kernel
theorem dX12_keepsRow_26 : decode cX12_keepsRow 26 = .ok (.iastore, 1) := by decide +kernel
theorem dX12_keepsRow_27 : decode cX12_keepsRow 27 = .ok (.goto 16, 3) := by decide +kernel
theorem dX12_keepsRow_30 : decode cX12_keepsRow 30 = .ok (.aload_n 2, 1) := by decide +kernel
theorem dX12_keepsRow_31 : decode cX12_keepsRow 31 = .ok (.iload 5, 2) := by decide +kernel
theorem dX12_keepsRow_33 : decode cX12_keepsRow 33 = .ok (.aload_n 0, 1) := by decide +kernel
theorem dX12_keepsRow_34 : decode cX12_keepsRow 34 = .ok (.getfield 107, 3) := by decide +kernel
theorem dX12_keepsRow_37 : decode cX12_keepsRow 37 = .ok (.iload_n 1, 1) := by decide +kernel
theorem dX12_keepsRow_38 : decode cX12_keepsRow 38 = .ok (.iload 5, 2) := by decide +kernel
theorem dX12_keepsRow_40 : decode cX12_keepsRow 40 = .ok (.iadd, 1) := by decide +kernel
theorem dX12_keepsRow_41 : decode cX12_keepsRow 41 = .ok (.iaload, 1) := by decide +kernel
theorem dX12_keepsRow_42 : decode cX12_keepsRow 42 = .ok (.iastore, 1) := by decide +kernel
theorem dX12_keepsRow_43 : decode cX12_keepsRow 43 = .ok (.iinc 5 1, 3) := by decide +kernel
theorem dX12_keepsRow_46 : decode cX12_keepsRow 46 = .ok (.goto (-43), 3) := by decide +kernel
theorem dX12_keepsRow_49 : decode cX12_keepsRow 49 = .ok (.iload_n 1, 1) := by decide +kernel
theorem dX12_keepsRow_50 : decode cX12_keepsRow 50 = .ok (.iload_n 3, 1) := by decide +kernel
theorem dX12_keepsRow_51 : decode cX12_keepsRow 51 = .ok (.iadd, 1) := by decide +kernel
theorem dX12_keepsRow_52 : decode cX12_keepsRow 52 = .ok (.ireturn, 1) := by decide +kernel
theorem dX12_keepsAll_0 : decode cX12_keepsAll 0 = .ok (.aload_n 0, 1) := by decide +kernel
theorem dX12_keepsAll_1 : decode cX12_keepsAll 1 = .ok (.sipush 851, 3) := by decide +kernel
theorem dX12_keepsAll_4 : decode cX12_keepsAll 4 = .ok (.iload_n 1, 1) := by decide +kernel
theorem dX12_keepsAll_5 : decode cX12_keepsAll 5 = .ok (.imul, 1) := by decide +kernel
theorem dX12_keepsAll_6 : decode cX12_keepsAll 6 = .ok (.aload_n 0, 1) := by decide +kernel
theorem dX12_keepsAll_7 : decode cX12_keepsAll 7 = .ok (.getfield 74, 3) := by decide +kernel
theorem dX12_keepsAll_10 : decode cX12_keepsAll 10 = .ok (.bipush 50, 2) := by decide +kernel
theorem dX12_keepsAll_12 : decode cX12_keepsAll 12 = .ok (.iload_n 2, 1) := by decide +kernel
theorem dX12_keepsAll_13 : decode cX12_keepsAll 13 = .ok (.invokevirtual 506, 3) := by decide +kernel
theorem dX12_keepsAll_16 : decode cX12_keepsAll 16 = .ok (.istore_n 3, 1) := by decide +kernel
theorem dX12_keepsAll_17 : decode cX12_keepsAll 17 = .ok (.aload_n 0, 1) := by decide +kernel
theorem dX12_keepsAll_18 : decode cX12_keepsAll 18 = .ok (.iload_n 3, 1) := by decide +kernel
theorem dX12_keepsAll_19 : decode cX12_keepsAll 19 = .ok (.aload_n 0, 1) := by decide +kernel
theorem dX12_keepsAll_20 : decode cX12_keepsAll 20 = .ok (.getfield 80, 3) := by decide +kernel
theorem dX12_keepsAll_23 : decode cX12_keepsAll 23 = .ok (.sipush 800, 3) := by decide +kernel
theorem dX12_keepsAll_26 : decode cX12_keepsAll 26 = .ok (.iload_n 2, 1) := by decide +kernel
theorem dX12_keepsAll_27 : decode cX12_keepsAll 27 = .ok (.invokevirtual 506, 3) := by decide +kernel
theorem dX12_keepsAll_30 : decode cX12_keepsAll 30 = .ok (.istore_n 3, 1) := by decide +kernel
theorem dX12_keepsAll_31 : decode cX12_keepsAll 31 = .ok (.iload_n 2, 1) := by decide +kernel
theorem dX12_keepsAll_32 : decode cX12_keepsAll 32 = .ok (.ifCond .eq 16, 3) := by decide +kernel
theorem dX12_keepsAll_35 : decode cX12_keepsAll 35 = .ok (.aload_n 0, 1) := by decide +kernel
theorem dX12_keepsAll_36 : decode cX12_keepsAll 36 = .ok (.getfield 107, 3) := by decide +kernel
theorem dX12_keepsAll_39 : decode cX12_keepsAll 39 = .ok (.iload_n 3, 1) := by decide +kernel
theorem dX12_keepsAll_40 : decode cX12_keepsAll 40 = .ok (.aload_n 0, 1) := by decide +kernel
theorem dX12_keepsAll_41 : decode cX12_keepsAll 41 = .ok (.getfield 205, 3) := by decide +kernel
theorem dX12_keepsAll_44 : decode cX12_keepsAll 44 = .ok (.iastore, 1) := by decide +kernel
theorem dX12_keepsAll_45 : decode cX12_keepsAll 45 = .ok (.goto 13, 3) := by decide +kernel
theorem dX12_keepsAll_48 : decode cX12_keepsAll 48 = .ok (.aload_n 0, 1) := by decide +kernel
theorem dX12_keepsAll_49 : decode cX12_keepsAll 49 = .ok (.aload_n 0, 1) := by decide +kernel
theorem dX12_keepsAll_50 : decode cX12_keepsAll 50 = .ok (.getfield 107, 3) := by decide +kernel
theorem dX12_keepsAll_53 : decode cX12_keepsAll 53 = .ok (.iload_n 3, 1) := by decide +kernel
theorem dX12_keepsAll_54 : decode cX12_keepsAll 54 = .ok (.iaload, 1) := by decide +kernel
theorem dX12_keepsAll_55 : decode cX12_keepsAll 55 = .ok (.putfield 205, 3) := by decide +kernel
theorem dX12_keepsAll_58 : decode cX12_keepsAll 58 = .ok (.return_, 1) := by decide +kernel
theorem dX12_image_0 : decode cX12_image 0 = .ok (.aload_n 0, 1) := by decide +kernel
theorem dX12_image_1 : decode cX12_image 1 = .ok (.iconst 0, 1) := by decide +kernel
theorem dX12_image_2 : decode cX12_image 2 = .ok (.putfield 3, 3) := by decide +kernel
theorem dX12_image_5 : decode cX12_image 5 = .ok (.aload_n 0, 1) := by decide +kernel
theorem dX12_image_6 : decode cX12_image 6 = .ok (.getfield 208, 3) := by decide +kernel
theorem dX12_image_9 : decode cX12_image 9 = .ok (.iconst 3, 1) := by decide +kernel
theorem dX12_image_10 : decode cX12_image 10 = .ok (.if_icmp .ne 5, 3) := by decide +kernel
theorem dX12_image_13 : decode cX12_image 13 = .ok (.iconst (-1), 1) := by decide +kernel
theorem dX12_image_14 : decode cX12_image 14 = .ok (.ireturn, 1) := by decide +kernel
theorem dX12_image_15 : decode cX12_image 15 = .ok (.aload_n 0, 1) := by decide +kernel
theorem dX12_image_16 : decode cX12_image 16 = .ok (.aload_n 0, 1) := by decide +kernel
theorem dX12_image_17 : decode cX12_image 17 = .ok (.getfield 208, 3) := by decide +kernel
theorem dX12_image_20 : decode cX12_image 20 = .ok (.iconst 1, 1) := by decide +kernel
theorem dX12_image_21 : decode cX12_image 21 = .ok (.invokevirtual 510, 3) := by decide +kernel
theorem dX12_image_24 : decode cX12_image 24 = .ok (.aload_n 0, 1) := by decide +kernel
theorem dX12_image_25 : decode cX12_image 25 = .ok (.dup, 1) := by decide +kernel
theorem dX12_image_26 : decode cX12_image 26 = .ok (.getfield 208, 3) := by decide +kernel
theorem dX12_image_29 : decode cX12_image 29 = .ok (.iconst 1, 1) := by decide +kernel
theorem dX12_image_30 : decode cX12_image 30 = .ok (.iadd, 1) := by decide +kernel
theorem dX12_image_31 : decode cX12_image 31 = .ok (.putfield 208, 3) := by decide +kernel
theorem dX12_image_34 : decode cX12_image 34 = .ok (.aload_n 0, 1) := by decide +kernel
theorem dX12_image_35 : decode cX12_image 35 = .ok (.getfield 208, 3) := by decide +kernel
theorem dX12_image_38 : decode cX12_image 38 = .ok (.ireturn, 1) := by decide +kernel
theorem dX12_restore_0 : decode cX12_restore 0 = .ok (.aload_n 0, 1) := by decide +kernel
theorem dX12_restore_1 : decode cX12_restore 1 = .ok (.iconst 0, 1) := by decide +kernel
theorem dX12_restore_2 : decode cX12_restore 2 = .ok (.putfield 3, 3) := by decide +kernel
theorem dX12_restore_5 : decode cX12_restore 5 = .ok (.aload_n 0, 1) := by decide +kernel
theorem dX12_restore_6 : decode cX12_restore 6 = .ok (.getfield 208, 3) := by decide +kernel
theorem dX12_restore_9 : decode cX12_restore 9 = .ok (.ifCond .ne 5, 3) := by decide +kernel
theorem dX12_restore_12 : decode cX12_restore 12 = .ok (.iconst (-1), 1) := by decide +kernel
theorem dX12_restore_13 : decode cX12_restore 13 = .ok (.ireturn, 1) := by decide +kernel
theorem dX12_restore_14 : decode cX12_restore 14 = .ok (.aload_n 0, 1) := by decide +kernel
theorem dX12_restore_15 : decode cX12_restore 15 = .ok (.dup, 1) := by decide +kernel
theorem dX12_restore_16 : decode cX12_restore 16 = .ok (.getfield 208, 3) := by decide +kernel
theorem dX12_restore_19 : decode cX12_restore 19 = .ok (.iconst 1, 1) := by decide +kernel
theorem dX12_restore_20 : decode cX12_restore 20 = .ok (.isub, 1) := by decide +kernel
theorem dX12_restore_21 : decode cX12_restore 21 = .ok (.putfield 208, 3) := by decide +kernel
theorem dX12_restore_24 : decode cX12_restore 24 = .ok (.aload_n 0, 1) := by decide +kernel
theorem dX12_restore_25 : decode cX12_restore 25 = .ok (.aload_n 0, 1) := by decide +kernel
theorem dX12_restore_26 : decode cX12_restore 26 = .ok (.getfield 208, 3) := by decide +kernel
theorem dX12_restore_29 : decode cX12_restore 29 = .ok (.iconst 0, 1) := by decide +kernel
theorem dX12_restore_30 : decode cX12_restore 30 = .ok (.invokevirtual 510, 3) := by decide +kernel
theorem dX12_restore_33 : decode cX12_restore 33 = .ok (.aload_n 0, 1) := by decide +kernel
theorem dX12_restore_34 : decode cX12_restore 34 = .ok (.iconst 0, 1) := by decide +kernel
theorem dX12_restore_35 : decode cX12_restore 35 = .ok (.putfield 211, 3) := by decide +kernel
theorem dX12_restore_38 : decode cX12_restore 38 = .ok (.aload_n 0, 1) := by decide +kernel
theorem dX12_restore_39 : decode cX12_restore 39 = .ok (.getfield 208, 3) := by decide +kernel
theorem dX12_restore_42 : decode cX12_restore 42 = .ok (.ireturn, 1) := by decide +kernel
theorem dX12_status_0 : decode cX12_status 0 = .ok (.aload_n 0, 1) := by decide +kernel
theorem dX12_status_1 : decode cX12_status 1 = .ok (.iconst 0, 1) := by decide +kernel
theorem dX12_status_2 : decode cX12_status 2 = .ok (.putfield 3, 3) := by decide +kernel
theorem dX12_status_5 : decode cX12_status 5 = .ok (.iload_n 1, 1) := by decide +kernel
theorem dX12_status_6 : decode cX12_status 6 = .ok (.iconst 0, 1) := by decide +kernel
theorem dX12_status_7 : decode cX12_status 7 = .ok (.iconst 1, 1) := by decide +kernel
theorem dX12_status_8 : decode cX12_status 8 = .ok (.invokestatic 303, 3) := by decide +kernel
theorem dX12_status_11 : decode cX12_status 11 = .ok (.ifCond .eq 12, 3) := by decide +kernel
theorem dX12_status_14 : decode cX12_status 14 = .ok (.aload_n 0, 1) := by decide +kernel
theorem dX12_status_15 : decode cX12_status 15 = .ok (.getfield 7, 3) := by decide +kernel
theorem dX12_status_18 : decode cX12_status 18 = .ok (.iload_n 1, 1) := by decide +kernel
theorem dX12_status_19 : decode cX12_status 19 = .ok (.iaload, 1) := by decide +kernel
theorem dX12_status_20 : decode cX12_status 20 = .ok (.goto 4, 3) := by decide +kernel
theorem dX12_status_23 : decode cX12_status 23 = .ok (.iconst (-1), 1) := by decide +kernel
theorem dX12_status_24 : decode cX12_status 24 = .ok (.ireturn, 1) := by decide +kernel
theorem dX12_count_0 : decode cX12_count 0 = .ok (.aload_n 0, 1) := by decide +kernel
theorem dX12_count_1 : decode cX12_count 1 = .ok (.iconst 0, 1) := by decide +kernel
theorem dX12_count_2 : decode cX12_count 2 = .ok (.putfield 3, 3) := by decide +kernel
theorem dX12_count_5 : decode cX12_count 5 = .ok (.iload_n 1, 1) := by decide +kernel
theorem dX12_count_6 : decode cX12_count 6 = .ok (.ifCond .ne 10, 3) := by decide +kernel
theorem dX12_count_9 : decode cX12_count 9 = .ok (.aload_n 0, 1) := by decide +kernel
theorem dX12_count_10 : decode cX12_count 10 = .ok (.getfield 208, 3) := by decide +kernel
theorem dX12_count_13 : decode cX12_count 13 = .ok (.goto 28, 3) := by decide +kernel
theorem dX12_count_16 : decode cX12_count 16 = .ok (.iload_n 1, 1) := by decide +kernel
theorem dX12_count_17 : decode cX12_count 17 = .ok (.iconst 1, 1) := by decide +kernel
theorem dX12_count_18 : decode cX12_count 18 = .ok (.if_icmp .ne 10, 3) := by decide +kernel
theorem dX12_count_21 : decode cX12_count 21 = .ok (.aload_n 0, 1) := by decide +kernel
theorem dX12_count_22 : decode cX12_count 22 = .ok (.getfield 116, 3) := by decide +kernel
theorem dX12_count_25 : decode cX12_count 25 = .ok (.goto 16, 3) := by decide +kernel
theorem dX12_count_28 : decode cX12_count 28 = .ok (.iload_n 1, 1) := by decide +kernel
theorem dX12_count_29 : decode cX12_count 29 = .ok (.iconst 2, 1) := by decide +kernel
theorem dX12_count_30 : decode cX12_count 30 = .ok (.if_icmp .ne 10, 3) := by decide +kernel
theorem dX12_count_33 : decode cX12_count 33 = .ok (.aload_n 0, 1) := by decide +kernel
theorem dX12_count_34 : decode cX12_count 34 = .ok (.getfield 205, 3) := by decide +kernel
theorem dX12_count_37 : decode cX12_count 37 = .ok (.goto 4, 3) := by decide +kernel
theorem dX12_count_40 : decode cX12_count 40 = .ok (.iconst (-1), 1) := by decide +kernel
theorem dX12_count_41 : decode cX12_count 41 = .ok (.ireturn, 1) := by decide +kernel
theorem dJ9_abs_0f7a4_0 : decode cJ9_abs_0f7a4 0 = .ok (.iload_n 0, 1) := by decide +kernel
theorem dJ9_abs_0f7a4_1 : decode cJ9_abs_0f7a4 1 = .ok (.ifCond .ge 8, 3) := by decide +kernel
theorem dJ9_abs_0f7a4_4 : decode cJ9_abs_0f7a4 4 = .ok (.iload_n 0, 1) := by decide +kernel
theorem dJ9_abs_0f7a4_5 : decode cJ9_abs_0f7a4 5 = .ok (.ineg, 1) := by decide +kernel
theorem dJ9_abs_0f7a4_6 : decode cJ9_abs_0f7a4 6 = .ok (.goto 4, 3) := by decide +kernel
theorem dJ9_abs_0f7a4_9 : decode cJ9_abs_0f7a4 9 = .ok (.iload_n 0, 1) := by decide +kernel
theorem dJ9_abs_0f7a4_10 : decode cJ9_abs_0f7a4 10 = .ok (.ireturn, 1) := by decide +kernel
theorem dJ9_max_7cf53_0 : decode cJ9_max_7cf53 0 = .ok (.iload_n 0, 1) := by decide +kernel
theorem dJ9_max_7cf53_1 : decode cJ9_max_7cf53 1 = .ok (.iload_n 1, 1) := by decide +kernel
theorem dJ9_max_7cf53_2 : decode cJ9_max_7cf53 2 = .ok (.if_icmp .lt 7, 3) := by decide +kernel
theorem dJ9_max_7cf53_5 : decode cJ9_max_7cf53 5 = .ok (.iload_n 0, 1) := by decide +kernel
theorem dJ9_max_7cf53_6 : decode cJ9_max_7cf53 6 = .ok (.goto 4, 3) := by decide +kernel
theorem dJ9_max_7cf53_9 : decode cJ9_max_7cf53 9 = .ok (.iload_n 1, 1) := by decide +kernel
theorem dJ9_max_7cf53_10 : decode cJ9_max_7cf53 10 = .ok (.ireturn, 1) := by decide +kernel
theorem dJ9_max_f86c9_0 : decode cJ9_max_f86c9 0 = .ok (.lload_n 0, 1) := by decide +kernel
theorem dJ9_max_f86c9_1 : decode cJ9_max_f86c9 1 = .ok (.lload_n 2, 1) := by decide +kernel
theorem dJ9_max_f86c9_2 : decode cJ9_max_f86c9 2 = .ok (.lcmp, 1) := by decide +kernel
theorem dJ9_max_f86c9_3 : decode cJ9_max_f86c9 3 = .ok (.ifCond .lt 7, 3) := by decide +kernel
theorem dJ9_max_f86c9_6 : decode cJ9_max_f86c9 6 = .ok (.lload_n 0, 1) := by decide +kernel
theorem dJ9_max_f86c9_7 : decode cJ9_max_f86c9 7 = .ok (.goto 4, 3) := by decide +kernel
theorem dJ9_max_f86c9_10 : decode cJ9_max_f86c9 10 = .ok (.lload_n 2, 1) := by decide +kernel
theorem dJ9_max_f86c9_11 : decode cJ9_max_f86c9 11 = .ok (.lreturn, 1) := by decide +kernel
theorem dJ9_min_7cf53_0 : decode cJ9_min_7cf53 0 = .ok (.iload_n 0, 1) := by decide +kernel
theorem dJ9_min_7cf53_1 : decode cJ9_min_7cf53 1 = .ok (.iload_n 1, 1) := by decide +kernel
theorem dJ9_min_7cf53_2 : decode cJ9_min_7cf53 2 = .ok (.if_icmp .gt 7, 3) := by decide +kernel
theorem dJ9_min_7cf53_5 : decode cJ9_min_7cf53 5 = .ok (.iload_n 0, 1) := by decide +kernel
theorem dJ9_min_7cf53_6 : decode cJ9_min_7cf53 6 = .ok (.goto 4, 3) := by decide +kernel
theorem dJ9_min_7cf53_9 : decode cJ9_min_7cf53 9 = .ok (.iload_n 1, 1) := by decide +kernel
theorem dJ9_min_7cf53_10 : decode cJ9_min_7cf53 10 = .ok (.ireturn, 1) := by decide +kernel
theorem dJ0_length_8abf5_0 : decode cJ0_length_8abf5 0 = .ok (.aload_n 0, 1) := by decide +kernel
theorem dJ0_length_8abf5_1 : decode cJ0_length_8abf5 1 = .ok (.getfield 9, 3) := by decide +kernel
theorem dJ0_length_8abf5_4 : decode cJ0_length_8abf5 4 = .ok (.arraylength, 1) := by decide +kernel
theorem dJ0_length_8abf5_5 : decode cJ0_length_8abf5 5 = .ok (.aload_n 0, 1) := by decide +kernel
theorem dJ0_length_8abf5_6 : decode cJ0_length_8abf5 6 = .ok (.invokevirtual 335, 3) := by decide +kernel
theorem dJ0_length_8abf5_9 : decode cJ0_length_8abf5 9 = .ok (.ishr, 1) := by decide +kernel
theorem dJ0_length_8abf5_10 : decode cJ0_length_8abf5 10 = .ok (.ireturn, 1) := by decide +kernel
theorem dJ0_charAt_5068e_0 : decode cJ0_charAt_5068e 0 = .ok (.aload_n 0, 1) := by decide +kernel
theorem dJ0_charAt_5068e_1 : decode cJ0_charAt_5068e 1 = .ok (.invokevirtual 492, 3) := by decide +kernel
theorem dJ0_charAt_5068e_4 : decode cJ0_charAt_5068e 4 = .ok (.ifCond .eq 12, 3) := by decide +kernel
theorem dJ0_charAt_5068e_7 : decode cJ0_charAt_5068e 7 = .ok (.aload_n 0, 1) := by decide +kernel
theorem dJ0_charAt_5068e_8 : decode cJ0_charAt_5068e 8 = .ok (.getfield 9, 3) := by decide +kernel
theorem dJ0_charAt_5068e_11 : decode cJ0_charAt_5068e 11 = .ok (.iload_n 1, 1) := by decide +kernel
theorem dJ0_charAt_5068e_12 : decode cJ0_charAt_5068e 12 = .ok (.invokestatic 495, 3) := by decide +kernel
theorem dJ0_charAt_5068e_15 : decode cJ0_charAt_5068e 15 = .ok (.ireturn, 1) := by decide +kernel
theorem dJ0_charAt_5068e_16 : decode cJ0_charAt_5068e 16 = .ok (.aload_n 0, 1) := by decide +kernel
theorem dJ0_charAt_5068e_17 : decode cJ0_charAt_5068e 17 = .ok (.getfield 9, 3) := by decide +kernel
theorem dJ0_charAt_5068e_20 : decode cJ0_charAt_5068e 20 = .ok (.iload_n 1, 1) := by decide +kernel
theorem dJ0_charAt_5068e_21 : decode cJ0_charAt_5068e 21 = .ok (.invokestatic 498, 3) := by decide +kernel
theorem dJ0_charAt_5068e_24 : decode cJ0_charAt_5068e 24 = .ok (.ireturn, 1) := by decide +kernel
theorem dJ0_coder_7d493_0 : decode cJ0_coder_7d493 0 = .ok (.getstatic 38, 3) := by decide +kernel
theorem dJ0_coder_7d493_3 : decode cJ0_coder_7d493 3 = .ok (.ifCond .eq 10, 3) := by decide +kernel
theorem dJ0_coder_7d493_6 : decode cJ0_coder_7d493 6 = .ok (.aload_n 0, 1) := by decide +kernel
theorem dJ0_coder_7d493_7 : decode cJ0_coder_7d493 7 = .ok (.getfield 15, 3) := by decide +kernel
theorem dJ0_coder_7d493_10 : decode cJ0_coder_7d493 10 = .ok (.goto 4, 3) := by decide +kernel
theorem dJ0_coder_7d493_13 : decode cJ0_coder_7d493 13 = .ok (.iconst 1, 1) := by decide +kernel
theorem dJ0_coder_7d493_14 : decode cJ0_coder_7d493 14 = .ok (.ireturn, 1) := by decide +kernel
theorem dJ0_isLatin1_aae02_0 : decode cJ0_isLatin1_aae02 0 = .ok (.getstatic 38, 3) := by decide +kernel
theorem dJ0_isLatin1_aae02_3 : decode cJ0_isLatin1_aae02 3 = .ok (.ifCond .eq 14, 3) := by decide +kernel
theorem dJ0_isLatin1_aae02_6 : decode cJ0_isLatin1_aae02 6 = .ok (.aload_n 0, 1) := by decide +kernel
theorem dJ0_isLatin1_aae02_7 : decode cJ0_isLatin1_aae02 7 = .ok (.getfield 15, 3) := by decide +kernel
theorem dJ0_isLatin1_aae02_10 : decode cJ0_isLatin1_aae02 10 = .ok (.ifCond .ne 7, 3) := by decide +kernel
theorem dJ0_isLatin1_aae02_13 : decode cJ0_isLatin1_aae02 13 = .ok (.iconst 1, 1) := by decide +kernel
theorem dJ0_isLatin1_aae02_14 : decode cJ0_isLatin1_aae02 14 = .ok (.goto 4, 3) := by decide +kernel
theorem dJ0_isLatin1_aae02_17 : decode cJ0_isLatin1_aae02 17 = .ok (.iconst 0, 1) := by decide +kernel
theorem dJ0_isLatin1_aae02_18 : decode cJ0_isLatin1_aae02 18 = .ok (.ireturn, 1) := by decide +kernel
theorem dJ0_checkIndex_df160_0 : decode cJ0_checkIndex_df160 0 = .ok (.iload_n 0, 1) := by decide +kernel
theorem dJ0_checkIndex_df160_1 : decode cJ0_checkIndex_df160 1 = .ok (.iload_n 1, 1) := by decide +kernel
theorem dJ0_checkIndex_df160_2 : decode cJ0_checkIndex_df160 2 = .ok (.getstatic 1053, 3) := by decide +kernel
theorem dJ0_checkIndex_df160_5 : decode cJ0_checkIndex_df160 5 = .ok (.invokestatic 1059, 3) := by decide +kernel
theorem dJ0_checkIndex_df160_8 : decode cJ0_checkIndex_df160 8 = .ok (.pop, 1) := by decide +kernel
theorem dJ0_checkIndex_df160_9 : decode cJ0_checkIndex_df160 9 = .ok (.return_, 1) := by decide +kernel
theorem dJ1_charAt_3b067_0 : decode cJ1_charAt_3b067 0 = .ok (.iload_n 1, 1) := by decide +kernel
theorem dJ1_charAt_3b067_1 : decode cJ1_charAt_3b067 1 = .ok (.aload_n 0, 1) := by decide +kernel
theorem dJ1_charAt_3b067_2 : decode cJ1_charAt_3b067 2 = .ok (.arraylength, 1) := by decide +kernel
theorem dJ1_charAt_3b067_3 : decode cJ1_charAt_3b067 3 = .ok (.invokestatic 9, 3) := by decide +kernel
theorem dJ1_charAt_3b067_6 : decode cJ1_charAt_3b067 6 = .ok (.aload_n 0, 1) := by decide +kernel
theorem dJ1_charAt_3b067_7 : decode cJ1_charAt_3b067 7 = .ok (.iload_n 1, 1) := by decide +kernel
theorem dJ1_charAt_3b067_8 : decode cJ1_charAt_3b067 8 = .ok (.baload, 1) := by decide +kernel
theorem dJ1_charAt_3b067_9 : decode cJ1_charAt_3b067 9 = .ok (.sipush 255, 3) := by decide +kernel
theorem dJ1_charAt_3b067_12 : decode cJ1_charAt_3b067 12 = .ok (.iand, 1) := by decide +kernel
theorem dJ1_charAt_3b067_13 : decode cJ1_charAt_3b067 13 = .ok (.i2c, 1) := by decide +kernel
theorem dJ1_charAt_3b067_14 : decode cJ1_charAt_3b067 14 = .ok (.ireturn, 1) := by decide +kernel
theorem dJ2_getChar_3b067_0 : decode cJ2_getChar_3b067 0 = .ok (.getstatic 44, 3) := by decide +kernel
theorem dJ2_getChar_3b067_3 : decode cJ2_getChar_3b067 3 = .ok (.ifCond .ne 25, 3) := by decide +kernel
theorem dJ2_getChar_3b067_6 : decode cJ2_getChar_3b067 6 = .ok (.iload_n 1, 1) := by decide +kernel
theorem dJ2_getChar_3b067_7 : decode cJ2_getChar_3b067 7 = .ok (.ifCond .lt 11, 3) := by decide +kernel
theorem dJ2_getChar_3b067_10 : decode cJ2_getChar_3b067 10 = .ok (.iload_n 1, 1) := by decide +kernel
theorem dJ2_getChar_3b067_11 : decode cJ2_getChar_3b067 11 = .ok (.aload_n 0, 1) := by decide +kernel
theorem dJ2_getChar_3b067_12 : decode cJ2_getChar_3b067 12 = .ok (.invokestatic 48, 3) := by decide +kernel
theorem dJ2_getChar_3b067_15 : decode cJ2_getChar_3b067 15 = .ok (.if_icmp .lt 13, 3) := by decide +kernel
theorem dJ2_getChar_3b067_18 : decode cJ2_getChar_3b067 18 = .ok (.new 52, 3) := by decide +kernel
theorem dJ2_getChar_3b067_21 : decode cJ2_getChar_3b067 21 = .ok (.dup, 1) := by decide +kernel
theorem dJ2_getChar_3b067_22 : decode cJ2_getChar_3b067 22 = .ok (.ldc 54, 2) := by decide +kernel
theorem dJ2_getChar_3b067_24 : decode cJ2_getChar_3b067 24 = .ok (.invokespecial 56, 3) := by decide +kernel
theorem dJ2_getChar_3b067_27 : decode cJ2_getChar_3b067 27 = .ok (.athrow, 1) := by decide +kernel
theorem dJ2_getChar_3b067_28 : decode cJ2_getChar_3b067 28 = .ok (.iload_n 1, 1) := by decide +kernel
theorem dJ2_getChar_3b067_29 : decode cJ2_getChar_3b067 29 = .ok (.iconst 1, 1) := by decide +kernel
theorem dJ2_getChar_3b067_30 : decode cJ2_getChar_3b067 30 = .ok (.ishl, 1) := by decide +kernel
theorem dJ2_getChar_3b067_31 : decode cJ2_getChar_3b067 31 = .ok (.istore_n 1, 1) := by decide +kernel
theorem dJ2_getChar_3b067_32 : decode cJ2_getChar_3b067 32 = .ok (.aload_n 0, 1) := by decide +kernel
theorem dJ2_getChar_3b067_33 : decode cJ2_getChar_3b067 33 = .ok (.iload_n 1, 1) := by decide +kernel
theorem dJ2_getChar_3b067_34 : decode cJ2_getChar_3b067 34 = .ok (.iinc 1 1, 3) := by decide +kernel
theorem dJ2_getChar_3b067_37 : decode cJ2_getChar_3b067 37 = .ok (.baload, 1) := by decide +kernel
theorem dJ2_getChar_3b067_38 : decode cJ2_getChar_3b067 38 = .ok (.sipush 255, 3) := by decide +kernel
theorem dJ2_getChar_3b067_41 : decode cJ2_getChar_3b067 41 = .ok (.iand, 1) := by decide +kernel
theorem dJ2_getChar_3b067_42 : decode cJ2_getChar_3b067 42 = .ok (.getstatic 59, 3) := by decide +kernel
theorem dJ2_getChar_3b067_45 : decode cJ2_getChar_3b067 45 = .ok (.ishl, 1) := by decide +kernel
theorem dJ2_getChar_3b067_46 : decode cJ2_getChar_3b067 46 = .ok (.aload_n 0, 1) := by decide +kernel
theorem dJ2_getChar_3b067_47 : decode cJ2_getChar_3b067 47 = .ok (.iload_n 1, 1) := by decide +kernel
theorem dJ2_getChar_3b067_48 : decode cJ2_getChar_3b067 48 = .ok (.baload, 1) := by decide +kernel
theorem dJ2_getChar_3b067_49 : decode cJ2_getChar_3b067 49 = .ok (.sipush 255, 3) := by decide +kernel
theorem dJ2_getChar_3b067_52 : decode cJ2_getChar_3b067 52 = .ok (.iand, 1) := by decide +kernel
theorem dJ2_getChar_3b067_53 : decode cJ2_getChar_3b067 53 = .ok (.getstatic 63, 3) := by decide +kernel
theorem dJ2_getChar_3b067_56 : decode cJ2_getChar_3b067 56 = .ok (.ishl, 1) := by decide +kernel
theorem dJ2_getChar_3b067_57 : decode cJ2_getChar_3b067 57 = .ok (.ior, 1) := by decide +kernel
theorem dJ2_getChar_3b067_58 : decode cJ2_getChar_3b067 58 = .ok (.i2c, 1) := by decide +kernel
theorem dJ2_getChar_3b067_59 : decode cJ2_getChar_3b067 59 = .ok (.ireturn, 1) := by decide +kernel
theorem dJ2_length_9d52b_0 : decode cJ2_length_9d52b 0 = .ok (.aload_n 0, 1) := by decide +kernel
theorem dJ2_length_9d52b_1 : decode cJ2_length_9d52b 1 = .ok (.arraylength, 1) := by decide +kernel
theorem dJ2_length_9d52b_2 : decode cJ2_length_9d52b 2 = .ok (.iconst 1, 1) := by decide +kernel
theorem dJ2_length_9d52b_3 : decode cJ2_length_9d52b 3 = .ok (.ishr, 1) := by decide +kernel
theorem dJ2_length_9d52b_4 : decode cJ2_length_9d52b 4 = .ok (.ireturn, 1) := by decide +kernel
theorem dJ2_charAt_3b067_0 : decode cJ2_charAt_3b067 0 = .ok (.iload_n 1, 1) := by decide +kernel
theorem dJ2_charAt_3b067_1 : decode cJ2_charAt_3b067 1 = .ok (.aload_n 0, 1) := by decide +kernel
theorem dJ2_charAt_3b067_2 : decode cJ2_charAt_3b067 2 = .ok (.invokestatic 67, 3) := by decide +kernel
theorem dJ2_charAt_3b067_5 : decode cJ2_charAt_3b067 5 = .ok (.aload_n 0, 1) := by decide +kernel
theorem dJ2_charAt_3b067_6 : decode cJ2_charAt_3b067 6 = .ok (.iload_n 1, 1) := by decide +kernel
theorem dJ2_charAt_3b067_7 : decode cJ2_charAt_3b067 7 = .ok (.invokestatic 71, 3) := by decide +kernel
theorem dJ2_charAt_3b067_10 : decode cJ2_charAt_3b067 10 = .ok (.ireturn, 1) := by decide +kernel
theorem dJ2_checkIndex_2214a_0 : decode cJ2_checkIndex_2214a 0 = .ok (.iload_n 0, 1) := by decide +kernel
theorem dJ2_checkIndex_2214a_1 : decode cJ2_checkIndex_2214a 1 = .ok (.aload_n 1, 1) := by decide +kernel
theorem dJ2_checkIndex_2214a_2 : decode cJ2_checkIndex_2214a 2 = .ok (.invokestatic 48, 3) := by decide +kernel
theorem dJ2_checkIndex_2214a_5 : decode cJ2_checkIndex_2214a 5 = .ok (.invokestatic 414, 3) := by decide +kernel
theorem dJ2_checkIndex_2214a_8 : decode cJ2_checkIndex_2214a 8 = .ok (.return_, 1) := by decide +kernel
theorem dJ7_fill_53178_0 : decode cJ7_fill_53178 0 = .ok (.iconst 0, 1) := by decide +kernel
theorem dJ7_fill_53178_1 : decode cJ7_fill_53178 1 = .ok (.istore_n 2, 1) := by decide +kernel
theorem dJ7_fill_53178_2 : decode cJ7_fill_53178 2 = .ok (.aload_n 0, 1) := by decide +kernel
theorem dJ7_fill_53178_3 : decode cJ7_fill_53178 3 = .ok (.arraylength, 1) := by decide +kernel
theorem dJ7_fill_53178_4 : decode cJ7_fill_53178 4 = .ok (.istore_n 3, 1) := by decide +kernel
theorem dJ7_fill_53178_5 : decode cJ7_fill_53178 5 = .ok (.iload_n 2, 1) := by decide +kernel
theorem dJ7_fill_53178_6 : decode cJ7_fill_53178 6 = .ok (.iload_n 3, 1) := by decide +kernel
theorem dJ7_fill_53178_7 : decode cJ7_fill_53178 7 = .ok (.if_icmp .ge 13, 3) := by decide +kernel
theorem dJ7_fill_53178_10 : decode cJ7_fill_53178 10 = .ok (.aload_n 0, 1) := by decide +kernel
theorem dJ7_fill_53178_11 : decode cJ7_fill_53178 11 = .ok (.iload_n 2, 1) := by decide +kernel
theorem dJ7_fill_53178_12 : decode cJ7_fill_53178 12 = .ok (.iload_n 1, 1) := by decide +kernel
theorem dJ7_fill_53178_13 : decode cJ7_fill_53178 13 = .ok (.iastore, 1) := by decide +kernel
theorem dJ7_fill_53178_14 : decode cJ7_fill_53178 14 = .ok (.iinc 2 1, 3) := by decide +kernel
theorem dJ7_fill_53178_17 : decode cJ7_fill_53178 17 = .ok (.goto (-12), 3) := by decide +kernel
theorem dJ7_fill_53178_20 : decode cJ7_fill_53178 20 = .ok (.return_, 1) := by decide +kernel
theorem dJ3_checkIndex_8e157_0 : decode cJ3_checkIndex_8e157 0 = .ok (.iload_n 0, 1) := by decide +kernel
theorem dJ3_checkIndex_8e157_1 : decode cJ3_checkIndex_8e157 1 = .ok (.ifCond .lt 8, 3) := by decide +kernel
theorem dJ3_checkIndex_8e157_4 : decode cJ3_checkIndex_8e157 4 = .ok (.iload_n 0, 1) := by decide +kernel
theorem dJ3_checkIndex_8e157_5 : decode cJ3_checkIndex_8e157 5 = .ok (.iload_n 1, 1) := by decide +kernel
theorem dJ3_checkIndex_8e157_6 : decode cJ3_checkIndex_8e157 6 = .ok (.if_icmp .lt 10, 3) := by decide +kernel
theorem dJ3_checkIndex_8e157_9 : decode cJ3_checkIndex_8e157 9 = .ok (.aload_n 2, 1) := by decide +kernel
theorem dJ3_checkIndex_8e157_10 : decode cJ3_checkIndex_8e157 10 = .ok (.iload_n 0, 1) := by decide +kernel
theorem dJ3_checkIndex_8e157_11 : decode cJ3_checkIndex_8e157 11 = .ok (.iload_n 1, 1) := by decide +kernel
theorem dJ3_checkIndex_8e157_12 : decode cJ3_checkIndex_8e157 12 = .ok (.invokestatic 95, 3) := by decide +kernel
theorem dJ3_checkIndex_8e157_15 : decode cJ3_checkIndex_8e157 15 = .ok (.athrow, 1) := by decide +kernel
theorem dJ3_checkIndex_8e157_16 : decode cJ3_checkIndex_8e157 16 = .ok (.iload_n 0, 1) := by decide +kernel
theorem dJ3_checkIndex_8e157_17 : decode cJ3_checkIndex_8e157 17 = .ok (.ireturn, 1) := by decide +kernel
theorem dL_coast_0 : decode cL_coast 0 = .ok (.aload_n 2, 1) := by decide +kernel
theorem dL_coast_1 : decode cL_coast 1 = .ok (.iconst 0, 1) := by decide +kernel
theorem dL_coast_2 : decode cL_coast 2 = .ok (.aload_n 0, 1) := by decide +kernel
theorem dL_coast_3 : decode cL_coast 3 = .ok (.iload_n 1, 1) := by decide +kernel
theorem dL_coast_4 : decode cL_coast 4 = .ok (.invokevirtual 7, 3) := by decide +kernel
theorem dL_coast_7 : decode cL_coast 7 = .ok (.i2l, 1) := by decide +kernel
theorem dL_coast_8 : decode cL_coast 8 = .ok (.lastore, 1) := by decide +kernel
theorem dL_coast_9 : decode cL_coast 9 = .ok (.goto 6, 3) := by decide +kernel
theorem dL_coast_12 : decode cL_coast 12 = .ok (.astore_n 3, 1) := by decide +kernel
theorem dL_coast_13 : decode cL_coast 13 = .ok (.iconst 1, 1) := by decide +kernel
theorem dL_coast_14 : decode cL_coast 14 = .ok (.ireturn, 1) := by decide +kernel
theorem dL_coast_15 : decode cL_coast 15 = .ok (.iconst 0, 1) := by decide +kernel
theorem dL_coast_16 : decode cL_coast 16 = .ok (.ireturn, 1) := by decide +kernel
theorem dL_law_0 : decode cL_law 0 = .ok (.aload_n 3, 1) := by decide +kernel
theorem dL_law_1 : decode cL_law 1 = .ok (.iconst 0, 1) := by decide +kernel
theorem dL_law_2 : decode cL_law 2 = .ok (.aload_n 0, 1) := by decide +kernel
theorem dL_law_3 : decode cL_law 3 = .ok (.iload_n 1, 1) := by decide +kernel
theorem dL_law_4 : decode cL_law 4 = .ok (.iload_n 2, 1) := by decide +kernel
theorem dL_law_5 : decode cL_law 5 = .ok (.invokevirtual 15, 3) := by decide +kernel
theorem dL_law_8 : decode cL_law 8 = .ok (.i2l, 1) := by decide +kernel
theorem dL_law_9 : decode cL_law 9 = .ok (.lastore, 1) := by decide +kernel
theorem dL_law_10 : decode cL_law 10 = .ok (.goto 7, 3) := by decide +kernel
theorem dL_law_13 : decode cL_law 13 = .ok (.astore 4, 2) := by decide +kernel
theorem dL_law_15 : decode cL_law 15 = .ok (.iconst 1, 1) := by decide +kernel
theorem dL_law_16 : decode cL_law 16 = .ok (.ireturn, 1) := by decide +kernel
theorem dL_law_17 : decode cL_law 17 = .ok (.iconst 0, 1) := by decide +kernel
theorem dL_law_18 : decode cL_law 18 = .ok (.ireturn, 1) := by decide +kernel
theorem dL_work_0 : decode cL_work 0 = .ok (.aload_n 2, 1) := by decide +kernel
theorem dL_work_1 : decode cL_work 1 = .ok (.iconst 0, 1) := by decide +kernel
theorem dL_work_2 : decode cL_work 2 = .ok (.aload_n 0, 1) := by decide +kernel
theorem dL_work_3 : decode cL_work 3 = .ok (.iload_n 1, 1) := by decide +kernel
theorem dL_work_4 : decode cL_work 4 = .ok (.invokevirtual 19, 3) := by decide +kernel
theorem dL_work_7 : decode cL_work 7 = .ok (.i2l, 1) := by decide +kernel
theorem dL_work_8 : decode cL_work 8 = .ok (.lastore, 1) := by decide +kernel
theorem dL_work_9 : decode cL_work 9 = .ok (.goto 6, 3) := by decide +kernel
theorem dL_work_12 : decode cL_work 12 = .ok (.astore_n 3, 1) := by decide +kernel
theorem dL_work_13 : decode cL_work 13 = .ok (.iconst 1, 1) := by decide +kernel
theorem dL_work_14 : decode cL_work 14 = .ok (.ireturn, 1) := by decide +kernel
theorem dL_work_15 : decode cL_work 15 = .ok (.iconst 0, 1) := by decide +kernel
theorem dL_work_16 : decode cL_work 16 = .ok (.ireturn, 1) := by decide +kernel
theorem dL_book_0 : decode cL_book 0 = .ok (.aload_n 2, 1) := by decide +kernel
theorem dL_book_1 : decode cL_book 1 = .ok (.iconst 0, 1) := by decide +kernel
theorem dL_book_2 : decode cL_book 2 = .ok (.aload_n 0, 1) := by decide +kernel
theorem dL_book_3 : decode cL_book 3 = .ok (.iload_n 1, 1) := by decide +kernel
theorem dL_book_4 : decode cL_book 4 = .ok (.invokevirtual 22, 3) := by decide +kernel
theorem dL_book_7 : decode cL_book 7 = .ok (.i2l, 1) := by decide +kernel
theorem dL_book_8 : decode cL_book 8 = .ok (.lastore, 1) := by decide +kernel
theorem dL_book_9 : decode cL_book 9 = .ok (.goto 6, 3) := by decide +kernel
theorem dL_book_12 : decode cL_book 12 = .ok (.astore_n 3, 1) := by decide +kernel
theorem dL_book_13 : decode cL_book 13 = .ok (.iconst 1, 1) := by decide +kernel
theorem dL_book_14 : decode cL_book 14 = .ok (.ireturn, 1) := by decide +kernel
theorem dL_book_15 : decode cL_book 15 = .ok (.iconst 0, 1) := by decide +kernel
theorem dL_book_16 : decode cL_book 16 = .ok (.ireturn, 1) := by decide +kernel
theorem dL_told_0 : decode cL_told 0 = .ok (.aload_n 2, 1) := by decide +kernel
theorem dL_told_1 : decode cL_told 1 = .ok (.iconst 0, 1) := by decide +kernel
theorem dL_told_2 : decode cL_told 2 = .ok (.aload_n 0, 1) := by decide +kernel
theorem dL_told_3 : decode cL_told 3 = .ok (.iload_n 1, 1) := by decide +kernel
theorem dL_told_4 : decode cL_told 4 = .ok (.invokevirtual 25, 3) := by decide +kernel
theorem dL_told_7 : decode cL_told 7 = .ok (.i2l, 1) := by decide +kernel
theorem dL_told_8 : decode cL_told 8 = .ok (.lastore, 1) := by decide +kernel
theorem dL_told_9 : decode cL_told 9 = .ok (.goto 6, 3) := by decide +kernel
theorem dL_told_12 : decode cL_told 12 = .ok (.astore_n 3, 1) := by decide +kernel
theorem dL_told_13 : decode cL_told 13 = .ok (.iconst 1, 1) := by decide +kernel
theorem dL_told_14 : decode cL_told 14 = .ok (.ireturn, 1) := by decide +kernel
theorem dL_told_15 : decode cL_told 15 = .ok (.iconst 0, 1) := by decide +kernel
theorem dL_told_16 : decode cL_told 16 = .ok (.ireturn, 1) := by decide +kernel
theorem dL_place_0 : decode cL_place 0 = .ok (.aload_n 3, 1) := by decide +kernel
theorem dL_place_1 : decode cL_place 1 = .ok (.iconst 0, 1) := by decide +kernel
theorem dL_place_2 : decode cL_place 2 = .ok (.aload_n 0, 1) := by decide +kernel
theorem dL_place_3 : decode cL_place 3 = .ok (.iload_n 1, 1) := by decide +kernel
theorem dL_place_4 : decode cL_place 4 = .ok (.iload_n 2, 1) := by decide +kernel
theorem dL_place_5 : decode cL_place 5 = .ok (.invokevirtual 28, 3) := by decide +kernel
theorem dL_place_8 : decode cL_place 8 = .ok (.i2l, 1) := by decide +kernel
theorem dL_place_9 : decode cL_place 9 = .ok (.lastore, 1) := by decide +kernel
theorem dL_place_10 : decode cL_place 10 = .ok (.goto 11, 3) := by decide +kernel
theorem dL_place_13 : decode cL_place 13 = .ok (.astore 4, 2) := by decide +kernel
theorem dL_place_15 : decode cL_place 15 = .ok (.iconst 1, 1) := by decide +kernel
theorem dL_place_16 : decode cL_place 16 = .ok (.ireturn, 1) := by decide +kernel
theorem dL_place_17 : decode cL_place 17 = .ok (.astore 4, 2) := by decide +kernel
theorem dL_place_19 : decode cL_place 19 = .ok (.iconst 2, 1) := by decide +kernel
theorem dL_place_20 : decode cL_place 20 = .ok (.ireturn, 1) := by decide +kernel
theorem dL_place_21 : decode cL_place 21 = .ok (.iconst 0, 1) := by decide +kernel
theorem dL_place_22 : decode cL_place 22 = .ok (.ireturn, 1) := by decide +kernel
theorem dL_want_0 : decode cL_want 0 = .ok (.aload_n 3, 1) := by decide +kernel
theorem dL_want_1 : decode cL_want 1 = .ok (.iconst 0, 1) := by decide +kernel
theorem dL_want_2 : decode cL_want 2 = .ok (.aload_n 0, 1) := by decide +kernel
theorem dL_want_3 : decode cL_want 3 = .ok (.iload_n 1, 1) := by decide +kernel
theorem dL_want_4 : decode cL_want 4 = .ok (.iload_n 2, 1) := by decide +kernel
theorem dL_want_5 : decode cL_want 5 = .ok (.invokevirtual 33, 3) := by decide +kernel
theorem dL_want_8 : decode cL_want 8 = .ok (.i2l, 1) := by decide +kernel
theorem dL_want_9 : decode cL_want 9 = .ok (.lastore, 1) := by decide +kernel
theorem dL_want_10 : decode cL_want 10 = .ok (.goto 11, 3) := by decide +kernel
theorem dL_want_13 : decode cL_want 13 = .ok (.astore 4, 2) := by decide +kernel
theorem dL_want_15 : decode cL_want 15 = .ok (.iconst 1, 1) := by decide +kernel
theorem dL_want_16 : decode cL_want 16 = .ok (.ireturn, 1) := by decide +kernel
theorem dL_want_17 : decode cL_want 17 = .ok (.astore 4, 2) := by decide +kernel
theorem dL_want_19 : decode cL_want 19 = .ok (.iconst 2, 1) := by decide +kernel
theorem dL_want_20 : decode cL_want 20 = .ok (.ireturn, 1) := by decide +kernel
theorem dL_want_21 : decode cL_want 21 = .ok (.iconst 0, 1) := by decide +kernel
theorem dL_want_22 : decode cL_want 22 = .ok (.ireturn, 1) := by decide +kernel
theorem dL_mine_0 : decode cL_mine 0 = .ok (.aload_n 3, 1) := by decide +kernel
theorem dL_mine_1 : decode cL_mine 1 = .ok (.iconst 0, 1) := by decide +kernel
theorem dL_mine_2 : decode cL_mine 2 = .ok (.aload_n 0, 1) := by decide +kernel
theorem dL_mine_3 : decode cL_mine 3 = .ok (.iload_n 1, 1) := by decide +kernel
theorem dL_mine_4 : decode cL_mine 4 = .ok (.iload_n 2, 1) := by decide +kernel
theorem dL_mine_5 : decode cL_mine 5 = .ok (.invokevirtual 36, 3) := by decide +kernel
theorem dL_mine_8 : decode cL_mine 8 = .ok (.i2l, 1) := by decide +kernel
theorem dL_mine_9 : decode cL_mine 9 = .ok (.lastore, 1) := by decide +kernel
theorem dL_mine_10 : decode cL_mine 10 = .ok (.goto 11, 3) := by decide +kernel
theorem dL_mine_13 : decode cL_mine 13 = .ok (.astore 4, 2) := by decide +kernel
theorem dL_mine_15 : decode cL_mine 15 = .ok (.iconst 1, 1) := by decide +kernel
theorem dL_mine_16 : decode cL_mine 16 = .ok (.ireturn, 1) := by decide +kernel
theorem dL_mine_17 : decode cL_mine 17 = .ok (.astore 4, 2) := by decide +kernel
theorem dL_mine_19 : decode cL_mine 19 = .ok (.iconst 2, 1) := by decide +kernel
theorem dL_mine_20 : decode cL_mine 20 = .ok (.ireturn, 1) := by decide +kernel
theorem dL_mine_21 : decode cL_mine 21 = .ok (.iconst 0, 1) := by decide +kernel
theorem dL_mine_22 : decode cL_mine 22 = .ok (.ireturn, 1) := by decide +kernel
theorem dL_arrives_0 : decode cL_arrives 0 = .ok (.aload 5, 2) := by decide +kernel
theorem dL_arrives_2 : decode cL_arrives 2 = .ok (.iconst 0, 1) := by decide +kernel
theorem dL_arrives_3 : decode cL_arrives 3 = .ok (.aload_n 0, 1) := by decide +kernel
theorem dL_arrives_4 : decode cL_arrives 4 = .ok (.iload_n 1, 1) := by decide +kernel
theorem dL_arrives_5 : decode cL_arrives 5 = .ok (.iload_n 2, 1) := by decide +kernel
theorem dL_arrives_6 : decode cL_arrives 6 = .ok (.iload_n 3, 1) := by decide +kernel
theorem dL_arrives_7 : decode cL_arrives 7 = .ok (.iload 4, 2) := by decide +kernel
theorem dL_arrives_9 : decode cL_arrives 9 = .ok (.invokevirtual 39, 3) := by decide +kernel
theorem dL_arrives_12 : decode cL_arrives 12 = .ok (.i2l, 1) := by decide +kernel
theorem dL_arrives_13 : decode cL_arrives 13 = .ok (.lastore, 1) := by decide +kernel
theorem dL_arrives_14 : decode cL_arrives 14 = .ok (.goto 11, 3) := by decide +kernel
theorem dL_arrives_17 : decode cL_arrives 17 = .ok (.astore 6, 2) := by decide +kernel
theorem dL_arrives_19 : decode cL_arrives 19 = .ok (.iconst 1, 1) := by decide +kernel
theorem dL_arrives_20 : decode cL_arrives 20 = .ok (.ireturn, 1) := by decide +kernel
theorem dL_arrives_21 : decode cL_arrives 21 = .ok (.astore 6, 2) := by decide +kernel
theorem dL_arrives_23 : decode cL_arrives 23 = .ok (.iconst 2, 1) := by decide +kernel
theorem dL_arrives_24 : decode cL_arrives 24 = .ok (.ireturn, 1) := by decide +kernel
theorem dL_arrives_25 : decode cL_arrives 25 = .ok (.iconst 0, 1) := by decide +kernel
theorem dL_arrives_26 : decode cL_arrives 26 = .ok (.ireturn, 1) := by decide +kernel
theorem dL_digs_0 : decode cL_digs 0 = .ok (.aload_n 3, 1) := by decide +kernel
theorem dL_digs_1 : decode cL_digs 1 = .ok (.iconst 0, 1) := by decide +kernel
theorem dL_digs_2 : decode cL_digs 2 = .ok (.aload_n 0, 1) := by decide +kernel
theorem dL_digs_3 : decode cL_digs 3 = .ok (.iload_n 1, 1) := by decide +kernel
theorem dL_digs_4 : decode cL_digs 4 = .ok (.iload_n 2, 1) := by decide +kernel
theorem dL_digs_5 : decode cL_digs 5 = .ok (.invokevirtual 43, 3) := by decide +kernel
theorem dL_digs_8 : decode cL_digs 8 = .ok (.i2l, 1) := by decide +kernel
theorem dL_digs_9 : decode cL_digs 9 = .ok (.lastore, 1) := by decide +kernel
theorem dL_digs_10 : decode cL_digs 10 = .ok (.goto 11, 3) := by decide +kernel
theorem dL_digs_13 : decode cL_digs 13 = .ok (.astore 4, 2) := by decide +kernel
theorem dL_digs_15 : decode cL_digs 15 = .ok (.iconst 1, 1) := by decide +kernel
theorem dL_digs_16 : decode cL_digs 16 = .ok (.ireturn, 1) := by decide +kernel
theorem dL_digs_17 : decode cL_digs 17 = .ok (.astore 4, 2) := by decide +kernel
theorem dL_digs_19 : decode cL_digs 19 = .ok (.iconst 2, 1) := by decide +kernel
theorem dL_digs_20 : decode cL_digs 20 = .ok (.ireturn, 1) := by decide +kernel
theorem dL_digs_21 : decode cL_digs 21 = .ok (.iconst 0, 1) := by decide +kernel
theorem dL_digs_22 : decode cL_digs 22 = .ok (.ireturn, 1) := by decide +kernel
theorem dL_can_0 : decode cL_can 0 = .ok (.aload_n 2, 1) := by decide +kernel
theorem dL_can_1 : decode cL_can 1 = .ok (.iconst 0, 1) := by decide +kernel
theorem dL_can_2 : decode cL_can 2 = .ok (.aload_n 0, 1) := by decide +kernel
theorem dL_can_3 : decode cL_can 3 = .ok (.iload_n 1, 1) := by decide +kernel
theorem dL_can_4 : decode cL_can 4 = .ok (.invokevirtual 46, 3) := by decide +kernel
theorem dL_can_7 : decode cL_can 7 = .ok (.ifCond .eq 7, 3) := by decide +kernel
theorem dL_can_10 : decode cL_can 10 = .ok (.lconst 1, 1) := by decide +kernel
theorem dL_can_11 : decode cL_can 11 = .ok (.goto 4, 3) := by decide +kernel
theorem dL_can_14 : decode cL_can 14 = .ok (.lconst 0, 1) := by decide +kernel
theorem dL_can_15 : decode cL_can 15 = .ok (.lastore, 1) := by decide +kernel
theorem dL_can_16 : decode cL_can 16 = .ok (.goto 6, 3) := by decide +kernel
theorem dL_can_19 : decode cL_can 19 = .ok (.astore_n 3, 1) := by decide +kernel
theorem dL_can_20 : decode cL_can 20 = .ok (.iconst 1, 1) := by decide +kernel
theorem dL_can_21 : decode cL_can 21 = .ok (.ireturn, 1) := by decide +kernel
theorem dL_can_22 : decode cL_can 22 = .ok (.iconst 0, 1) := by decide +kernel
theorem dL_can_23 : decode cL_can 23 = .ok (.ireturn, 1) := by decide +kernel
theorem dL_sales_0 : decode cL_sales 0 = .ok (.aload_n 2, 1) := by decide +kernel
theorem dL_sales_1 : decode cL_sales 1 = .ok (.iconst 0, 1) := by decide +kernel
theorem dL_sales_2 : decode cL_sales 2 = .ok (.aload_n 0, 1) := by decide +kernel
theorem dL_sales_3 : decode cL_sales 3 = .ok (.iload_n 1, 1) := by decide +kernel
theorem dL_sales_4 : decode cL_sales 4 = .ok (.invokevirtual 50, 3) := by decide +kernel
theorem dL_sales_7 : decode cL_sales 7 = .ok (.i2l, 1) := by decide +kernel
theorem dL_sales_8 : decode cL_sales 8 = .ok (.lastore, 1) := by decide +kernel
theorem dL_sales_9 : decode cL_sales 9 = .ok (.goto 6, 3) := by decide +kernel
theorem dL_sales_12 : decode cL_sales 12 = .ok (.astore_n 3, 1) := by decide +kernel
theorem dL_sales_13 : decode cL_sales 13 = .ok (.iconst 1, 1) := by decide +kernel
theorem dL_sales_14 : decode cL_sales 14 = .ok (.ireturn, 1) := by decide +kernel
theorem dL_sales_15 : decode cL_sales 15 = .ok (.iconst 0, 1) := by decide +kernel
theorem dL_sales_16 : decode cL_sales 16 = .ok (.ireturn, 1) := by decide +kernel
theorem dL_more_0 : decode cL_more 0 = .ok (.aload_n 3, 1) := by decide +kernel
theorem dL_more_1 : decode cL_more 1 = .ok (.iconst 0, 1) := by decide +kernel
theorem dL_more_2 : decode cL_more 2 = .ok (.aload_n 0, 1) := by decide +kernel
theorem dL_more_3 : decode cL_more 3 = .ok (.iload_n 1, 1) := by decide +kernel
theorem dL_more_4 : decode cL_more 4 = .ok (.iload_n 2, 1) := by decide +kernel
theorem dL_more_5 : decode cL_more 5 = .ok (.invokevirtual 53, 3) := by decide +kernel
theorem dL_more_8 : decode cL_more 8 = .ok (.i2l, 1) := by decide +kernel
theorem dL_more_9 : decode cL_more 9 = .ok (.lastore, 1) := by decide +kernel
theorem dL_more_10 : decode cL_more 10 = .ok (.goto 11, 3) := by decide +kernel
theorem dL_more_13 : decode cL_more 13 = .ok (.astore 4, 2) := by decide +kernel
theorem dL_more_15 : decode cL_more 15 = .ok (.iconst 1, 1) := by decide +kernel
theorem dL_more_16 : decode cL_more 16 = .ok (.ireturn, 1) := by decide +kernel
theorem dL_more_17 : decode cL_more 17 = .ok (.astore 4, 2) := by decide +kernel
theorem dL_more_19 : decode cL_more 19 = .ok (.iconst 2, 1) := by decide +kernel
theorem dL_more_20 : decode cL_more 20 = .ok (.ireturn, 1) := by decide +kernel
theorem dL_more_21 : decode cL_more 21 = .ok (.iconst 0, 1) := by decide +kernel
theorem dL_more_22 : decode cL_more 22 = .ok (.ireturn, 1) := by decide +kernel
theorem dL_brings_0 : decode cL_brings 0 = .ok (.aload 4, 2) := by decide +kernel
theorem dL_brings_2 : decode cL_brings 2 = .ok (.iconst 0, 1) := by decide +kernel
theorem dL_brings_3 : decode cL_brings 3 = .ok (.aload_n 0, 1) := by decide +kernel
theorem dL_brings_4 : decode cL_brings 4 = .ok (.iload_n 1, 1) := by decide +kernel
theorem dL_brings_5 : decode cL_brings 5 = .ok (.iload_n 2, 1) := by decide +kernel
theorem dL_brings_6 : decode cL_brings 6 = .ok (.iload_n 3, 1) := by decide +kernel
theorem dL_brings_7 : decode cL_brings 7 = .ok (.invokevirtual 56, 3) := by decide +kernel
theorem dL_brings_10 : decode cL_brings 10 = .ok (.i2l, 1) := by decide +kernel
theorem dL_brings_11 : decode cL_brings 11 = .ok (.lastore, 1) := by decide +kernel
theorem dL_brings_12 : decode cL_brings 12 = .ok (.goto 11, 3) := by decide +kernel
theorem dL_brings_15 : decode cL_brings 15 = .ok (.astore 5, 2) := by decide +kernel
theorem dL_brings_17 : decode cL_brings 17 = .ok (.iconst 1, 1) := by decide +kernel
theorem dL_brings_18 : decode cL_brings 18 = .ok (.ireturn, 1) := by decide +kernel
theorem dL_brings_19 : decode cL_brings 19 = .ok (.astore 5, 2) := by decide +kernel
theorem dL_brings_21 : decode cL_brings 21 = .ok (.iconst 2, 1) := by decide +kernel
theorem dL_brings_22 : decode cL_brings 22 = .ok (.ireturn, 1) := by decide +kernel
theorem dL_brings_23 : decode cL_brings 23 = .ok (.iconst 0, 1) := by decide +kernel
theorem dL_brings_24 : decode cL_brings 24 = .ok (.ireturn, 1) := by decide +kernel
theorem dL_price_0 : decode cL_price 0 = .ok (.aload_n 2, 1) := by decide +kernel
theorem dL_price_1 : decode cL_price 1 = .ok (.iconst 0, 1) := by decide +kernel
theorem dL_price_2 : decode cL_price 2 = .ok (.aload_n 0, 1) := by decide +kernel
theorem dL_price_3 : decode cL_price 3 = .ok (.iload_n 1, 1) := by decide +kernel
theorem dL_price_4 : decode cL_price 4 = .ok (.invokevirtual 60, 3) := by decide +kernel
theorem dL_price_7 : decode cL_price 7 = .ok (.i2l, 1) := by decide +kernel
theorem dL_price_8 : decode cL_price 8 = .ok (.lastore, 1) := by decide +kernel
theorem dL_price_9 : decode cL_price 9 = .ok (.goto 6, 3) := by decide +kernel
theorem dL_price_12 : decode cL_price 12 = .ok (.astore_n 3, 1) := by decide +kernel
theorem dL_price_13 : decode cL_price 13 = .ok (.iconst 1, 1) := by decide +kernel
theorem dL_price_14 : decode cL_price 14 = .ok (.ireturn, 1) := by decide +kernel
theorem dL_price_15 : decode cL_price 15 = .ok (.iconst 0, 1) := by decide +kernel
theorem dL_price_16 : decode cL_price 16 = .ok (.ireturn, 1) := by decide +kernel
theorem dL_corner_0 : decode cL_corner 0 = .ok (.aload_n 3, 1) := by decide +kernel
theorem dL_corner_1 : decode cL_corner 1 = .ok (.iconst 0, 1) := by decide +kernel
theorem dL_corner_2 : decode cL_corner 2 = .ok (.aload_n 0, 1) := by decide +kernel
theorem dL_corner_3 : decode cL_corner 3 = .ok (.iload_n 1, 1) := by decide +kernel
theorem dL_corner_4 : decode cL_corner 4 = .ok (.iload_n 2, 1) := by decide +kernel
theorem dL_corner_5 : decode cL_corner 5 = .ok (.invokevirtual 63, 3) := by decide +kernel
theorem dL_corner_8 : decode cL_corner 8 = .ok (.i2l, 1) := by decide +kernel
theorem dL_corner_9 : decode cL_corner 9 = .ok (.lastore, 1) := by decide +kernel
theorem dL_corner_10 : decode cL_corner 10 = .ok (.goto 11, 3) := by decide +kernel
theorem dL_corner_13 : decode cL_corner 13 = .ok (.astore 4, 2) := by decide +kernel
theorem dL_corner_15 : decode cL_corner 15 = .ok (.iconst 1, 1) := by decide +kernel
theorem dL_corner_16 : decode cL_corner 16 = .ok (.ireturn, 1) := by decide +kernel
theorem dL_corner_17 : decode cL_corner 17 = .ok (.astore 4, 2) := by decide +kernel
theorem dL_corner_19 : decode cL_corner 19 = .ok (.iconst 2, 1) := by decide +kernel
theorem dL_corner_20 : decode cL_corner 20 = .ok (.ireturn, 1) := by decide +kernel
theorem dL_corner_21 : decode cL_corner 21 = .ok (.iconst 0, 1) := by decide +kernel
theorem dL_corner_22 : decode cL_corner 22 = .ok (.ireturn, 1) := by decide +kernel
theorem dL_option_0 : decode cL_option 0 = .ok (.aload 8, 2) := by decide +kernel
theorem dL_option_2 : decode cL_option 2 = .ok (.iconst 0, 1) := by decide +kernel
theorem dL_option_3 : decode cL_option 3 = .ok (.aload_n 0, 1) := by decide +kernel
theorem dL_option_4 : decode cL_option 4 = .ok (.iload_n 1, 1) := by decide +kernel
theorem dL_option_5 : decode cL_option 5 = .ok (.iload_n 2, 1) := by decide +kernel
theorem dL_option_6 : decode cL_option 6 = .ok (.iload_n 3, 1) := by decide +kernel
theorem dL_option_7 : decode cL_option 7 = .ok (.iload 4, 2) := by decide +kernel
theorem dL_option_9 : decode cL_option 9 = .ok (.iload 5, 2) := by decide +kernel
theorem dL_option_11 : decode cL_option 11 = .ok (.iload 6, 2) := by decide +kernel
theorem dL_option_13 : decode cL_option 13 = .ok (.iload 7, 2) := by decide +kernel
theorem dL_option_15 : decode cL_option 15 = .ok (.invokevirtual 66, 3) := by decide +kernel
theorem dL_option_18 : decode cL_option 18 = .ok (.lastore, 1) := by decide +kernel
theorem dL_option_19 : decode cL_option 19 = .ok (.goto 7, 3) := by decide +kernel
theorem dL_option_22 : decode cL_option 22 = .ok (.astore 9, 2) := by decide +kernel
theorem dL_option_24 : decode cL_option 24 = .ok (.iconst 1, 1) := by decide +kernel
theorem dL_option_25 : decode cL_option 25 = .ok (.ireturn, 1) := by decide +kernel
theorem dL_option_26 : decode cL_option 26 = .ok (.iconst 0, 1) := by decide +kernel
