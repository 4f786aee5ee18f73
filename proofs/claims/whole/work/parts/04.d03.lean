theorem dX12_readUnit_34 : decode cX12_readUnit 34 = .ok (.getfield 159, 3) := by decide +kernel
theorem dX12_readUnit_37 : decode cX12_readUnit 37 = .ok (.iconst 1, 1) := by decide +kernel
theorem dX12_readUnit_38 : decode cX12_readUnit 38 = .ok (.isub, 1) := by decide +kernel
theorem dX12_readUnit_39 : decode cX12_readUnit 39 = .ok (.putfield 159, 3) := by decide +kernel
theorem dX12_readUnit_42 : decode cX12_readUnit 42 = .ok (.goto 112, 3) := by decide +kernel
theorem dX12_readUnit_45 : decode cX12_readUnit 45 = .ok (.aload_n 0, 1) := by decide +kernel
theorem dX12_readUnit_46 : decode cX12_readUnit 46 = .ok (.invokevirtual 131, 3) := by decide +kernel
theorem dX12_readUnit_49 : decode cX12_readUnit 49 = .ok (.invokestatic 152, 3) := by decide +kernel
theorem dX12_readUnit_52 : decode cX12_readUnit 52 = .ok (.ifCond .eq 19, 3) := by decide +kernel
theorem dX12_readUnit_55 : decode cX12_readUnit 55 = .ok (.aload_n 0, 1) := by decide +kernel
theorem dX12_readUnit_56 : decode cX12_readUnit 56 = .ok (.iconst 0, 1) := by decide +kernel
theorem dX12_readUnit_57 : decode cX12_readUnit 57 = .ok (.aload_n 0, 1) := by decide +kernel
theorem dX12_readUnit_58 : decode cX12_readUnit 58 = .ok (.iconst 0, 1) := by decide +kernel
theorem dX12_readUnit_59 : decode cX12_readUnit 59 = .ok (.sipush 999, 3) := by decide +kernel
theorem dX12_readUnit_62 : decode cX12_readUnit 62 = .ok (.invokevirtual 220, 3) := by decide +kernel
theorem dX12_readUnit_65 : decode cX12_readUnit 65 = .ok (.invokevirtual 267, 3) := by decide +kernel
theorem dX12_readUnit_68 : decode cX12_readUnit 68 = .ok (.goto 86, 3) := by decide +kernel
theorem dX12_readUnit_71 : decode cX12_readUnit 71 = .ok (.aload_n 0, 1) := by decide +kernel
theorem dX12_readUnit_72 : decode cX12_readUnit 72 = .ok (.invokevirtual 240, 3) := by decide +kernel
theorem dX12_readUnit_75 : decode cX12_readUnit 75 = .ok (.ldc_w 293, 3) := by decide +kernel
theorem dX12_readUnit_78 : decode cX12_readUnit 78 = .ok (.invokestatic 216, 3) := by decide +kernel
theorem dX12_readUnit_81 : decode cX12_readUnit 81 = .ok (.if_icmp .ne 13, 3) := by decide +kernel
theorem dX12_readUnit_84 : decode cX12_readUnit 84 = .ok (.aload_n 0, 1) := by decide +kernel
theorem dX12_readUnit_85 : decode cX12_readUnit 85 = .ok (.iconst 5, 1) := by decide +kernel
theorem dX12_readUnit_86 : decode cX12_readUnit 86 = .ok (.bipush 6, 2) := by decide +kernel
theorem dX12_readUnit_88 : decode cX12_readUnit 88 = .ok (.invokevirtual 295, 3) := by decide +kernel
theorem dX12_readUnit_91 : decode cX12_readUnit 91 = .ok (.goto 63, 3) := by decide +kernel
theorem dX12_readUnit_94 : decode cX12_readUnit 94 = .ok (.aload_n 0, 1) := by decide +kernel
theorem dX12_readUnit_95 : decode cX12_readUnit 95 = .ok (.invokevirtual 240, 3) := by decide +kernel
theorem dX12_readUnit_98 : decode cX12_readUnit 98 = .ok (.ldc_w 298, 3) := by decide +kernel
theorem dX12_readUnit_101 : decode cX12_readUnit 101 = .ok (.invokestatic 216, 3) := by decide +kernel
theorem dX12_readUnit_104 : decode cX12_readUnit 104 = .ok (.if_icmp .ne 13, 3) := by decide +kernel
theorem dX12_readUnit_107 : decode cX12_readUnit 107 = .ok (.aload_n 0, 1) := by decide +kernel
theorem dX12_readUnit_108 : decode cX12_readUnit 108 = .ok (.iconst 4, 1) := by decide +kernel
theorem dX12_readUnit_109 : decode cX12_readUnit 109 = .ok (.bipush 7, 2) := by decide +kernel
theorem dX12_readUnit_111 : decode cX12_readUnit 111 = .ok (.invokevirtual 295, 3) := by decide +kernel
theorem dX12_readUnit_114 : decode cX12_readUnit 114 = .ok (.goto 40, 3) := by decide +kernel
theorem dX12_readUnit_117 : decode cX12_readUnit 117 = .ok (.aload_n 0, 1) := by decide +kernel
theorem dX12_readUnit_118 : decode cX12_readUnit 118 = .ok (.invokevirtual 300, 3) := by decide +kernel
theorem dX12_readUnit_121 : decode cX12_readUnit 121 = .ok (.istore_n 1, 1) := by decide +kernel
theorem dX12_readUnit_122 : decode cX12_readUnit 122 = .ok (.iload_n 1, 1) := by decide +kernel
theorem dX12_readUnit_123 : decode cX12_readUnit 123 = .ok (.iconst (-1), 1) := by decide +kernel
theorem dX12_readUnit_124 : decode cX12_readUnit 124 = .ok (.if_icmp .ne 12, 3) := by decide +kernel
theorem dX12_readUnit_127 : decode cX12_readUnit 127 = .ok (.aload_n 0, 1) := by decide +kernel
theorem dX12_readUnit_128 : decode cX12_readUnit 128 = .ok (.iconst 1, 1) := by decide +kernel
theorem dX12_readUnit_129 : decode cX12_readUnit 129 = .ok (.aload_n 0, 1) := by decide +kernel
theorem dX12_readUnit_130 : decode cX12_readUnit 130 = .ok (.getfield 125, 3) := by decide +kernel
theorem dX12_readUnit_133 : decode cX12_readUnit 133 = .ok (.invokevirtual 155, 3) := by decide +kernel
theorem dX12_readUnit_136 : decode cX12_readUnit 136 = .ok (.aload_n 0, 1) := by decide +kernel
theorem dX12_readUnit_137 : decode cX12_readUnit 137 = .ok (.invokevirtual 148, 3) := by decide +kernel
theorem dX12_readUnit_140 : decode cX12_readUnit 140 = .ok (.ifCond .ne 4, 3) := by decide +kernel
theorem dX12_readUnit_143 : decode cX12_readUnit 143 = .ok (.return_, 1) := by decide +kernel
theorem dX12_readUnit_144 : decode cX12_readUnit 144 = .ok (.aload_n 0, 1) := by decide +kernel
theorem dX12_readUnit_145 : decode cX12_readUnit 145 = .ok (.invokevirtual 248, 3) := by decide +kernel
theorem dX12_readUnit_148 : decode cX12_readUnit 148 = .ok (.aload_n 0, 1) := by decide +kernel
theorem dX12_readUnit_149 : decode cX12_readUnit 149 = .ok (.iconst 1, 1) := by decide +kernel
theorem dX12_readUnit_150 : decode cX12_readUnit 150 = .ok (.iload_n 1, 1) := by decide +kernel
theorem dX12_readUnit_151 : decode cX12_readUnit 151 = .ok (.invokevirtual 267, 3) := by decide +kernel
theorem dX12_readUnit_154 : decode cX12_readUnit 154 = .ok (.return_, 1) := by decide +kernel
theorem dX12_law_0 : decode cX12_law 0 = .ok (.aload_n 0, 1) := by decide +kernel
theorem dX12_law_1 : decode cX12_law 1 = .ok (.iconst 0, 1) := by decide +kernel
theorem dX12_law_2 : decode cX12_law 2 = .ok (.putfield 3, 3) := by decide +kernel
theorem dX12_law_5 : decode cX12_law 5 = .ok (.aload_n 0, 1) := by decide +kernel
theorem dX12_law_6 : decode cX12_law 6 = .ok (.iload_n 1, 1) := by decide +kernel
theorem dX12_law_7 : decode cX12_law 7 = .ok (.iconst 0, 1) := by decide +kernel
theorem dX12_law_8 : decode cX12_law 8 = .ok (.iconst 1, 1) := by decide +kernel
theorem dX12_law_9 : decode cX12_law 9 = .ok (.invokestatic 303, 3) := by decide +kernel
theorem dX12_law_12 : decode cX12_law 12 = .ok (.ifCond .eq 26, 3) := by decide +kernel
theorem dX12_law_15 : decode cX12_law 15 = .ok (.iload_n 2, 1) := by decide +kernel
theorem dX12_law_16 : decode cX12_law 16 = .ok (.ifCond .lt 22, 3) := by decide +kernel
theorem dX12_law_19 : decode cX12_law 19 = .ok (.iload_n 2, 1) := by decide +kernel
theorem dX12_law_20 : decode cX12_law 20 = .ok (.aload_n 0, 1) := by decide +kernel
theorem dX12_law_21 : decode cX12_law 21 = .ok (.getfield 116, 3) := by decide +kernel
theorem dX12_law_24 : decode cX12_law 24 = .ok (.if_icmp .gt 14, 3) := by decide +kernel
theorem dX12_law_27 : decode cX12_law 27 = .ok (.iload_n 2, 1) := by decide +kernel
theorem dX12_law_28 : decode cX12_law 28 = .ok (.sipush 150, 3) := by decide +kernel
theorem dX12_law_31 : decode cX12_law 31 = .ok (.if_icmp .gt 7, 3) := by decide +kernel
theorem dX12_law_34 : decode cX12_law 34 = .ok (.iconst 1, 1) := by decide +kernel
theorem dX12_law_35 : decode cX12_law 35 = .ok (.goto 4, 3) := by decide +kernel
theorem dX12_law_38 : decode cX12_law 38 = .ok (.iconst 0, 1) := by decide +kernel
theorem dX12_law_39 : decode cX12_law 39 = .ok (.iconst 1, 1) := by decide +kernel
theorem dX12_law_40 : decode cX12_law 40 = .ok (.iconst 1, 1) := by decide +kernel
theorem dX12_law_41 : decode cX12_law 41 = .ok (.invokevirtual 229, 3) := by decide +kernel
theorem dX12_law_44 : decode cX12_law 44 = .ok (.ifCond .ne 5, 3) := by decide +kernel
theorem dX12_law_47 : decode cX12_law 47 = .ok (.iconst 0, 1) := by decide +kernel
theorem dX12_law_48 : decode cX12_law 48 = .ok (.ireturn, 1) := by decide +kernel
theorem dX12_law_49 : decode cX12_law 49 = .ok (.aload_n 0, 1) := by decide +kernel
theorem dX12_law_50 : decode cX12_law 50 = .ok (.iload_n 2, 1) := by decide +kernel
theorem dX12_law_51 : decode cX12_law 51 = .ok (.invokevirtual 233, 3) := by decide +kernel
theorem dX12_law_54 : decode cX12_law 54 = .ok (.aload_n 0, 1) := by decide +kernel
theorem dX12_law_55 : decode cX12_law 55 = .ok (.iconst 0, 1) := by decide +kernel
theorem dX12_law_56 : decode cX12_law 56 = .ok (.putfield 261, 3) := by decide +kernel
theorem dX12_law_59 : decode cX12_law 59 = .ok (.aload_n 0, 1) := by decide +kernel
theorem dX12_law_60 : decode cX12_law 60 = .ok (.invokevirtual 276, 3) := by decide +kernel
theorem dX12_law_63 : decode cX12_law 63 = .ok (.aload_n 0, 1) := by decide +kernel
theorem dX12_law_64 : decode cX12_law 64 = .ok (.invokevirtual 148, 3) := by decide +kernel
theorem dX12_law_67 : decode cX12_law 67 = .ok (.ifCond .eq 19, 3) := by decide +kernel
theorem dX12_law_70 : decode cX12_law 70 = .ok (.aload_n 0, 1) := by decide +kernel
theorem dX12_law_71 : decode cX12_law 71 = .ok (.invokevirtual 237, 3) := by decide +kernel
theorem dX12_law_74 : decode cX12_law 74 = .ok (.ifCond .eq 12, 3) := by decide +kernel
theorem dX12_law_77 : decode cX12_law 77 = .ok (.aload_n 0, 1) := by decide +kernel
theorem dX12_law_78 : decode cX12_law 78 = .ok (.iconst 1, 1) := by decide +kernel
theorem dX12_law_79 : decode cX12_law 79 = .ok (.aload_n 0, 1) := by decide +kernel
theorem dX12_law_80 : decode cX12_law 80 = .ok (.getfield 125, 3) := by decide +kernel
theorem dX12_law_83 : decode cX12_law 83 = .ok (.invokevirtual 155, 3) := by decide +kernel
theorem dX12_law_86 : decode cX12_law 86 = .ok (.aload_n 0, 1) := by decide +kernel
theorem dX12_law_87 : decode cX12_law 87 = .ok (.iconst 1, 1) := by decide +kernel
theorem dX12_law_88 : decode cX12_law 88 = .ok (.invokevirtual 257, 3) := by decide +kernel
theorem dX12_law_91 : decode cX12_law 91 = .ok (.istore_n 3, 1) := by decide +kernel
theorem dX12_law_92 : decode cX12_law 92 = .ok (.aload_n 0, 1) := by decide +kernel
theorem dX12_law_93 : decode cX12_law 93 = .ok (.getfield 119, 3) := by decide +kernel
theorem dX12_law_96 : decode cX12_law 96 = .ok (.iconst (-1), 1) := by decide +kernel
theorem dX12_law_97 : decode cX12_law 97 = .ok (.if_icmp .eq 5, 3) := by decide +kernel
theorem dX12_law_100 : decode cX12_law 100 = .ok (.iload_n 3, 1) := by decide +kernel
theorem dX12_law_101 : decode cX12_law 101 = .ok (.ireturn, 1) := by decide +kernel
theorem dX12_law_102 : decode cX12_law 102 = .ok (.aload_n 0, 1) := by decide +kernel
theorem dX12_law_103 : decode cX12_law 103 = .ok (.getfield 59, 3) := by decide +kernel
theorem dX12_law_106 : decode cX12_law 106 = .ok (.iload_n 1, 1) := by decide +kernel
theorem dX12_law_107 : decode cX12_law 107 = .ok (.aload_n 0, 1) := by decide +kernel
theorem dX12_law_108 : decode cX12_law 108 = .ok (.getfield 261, 3) := by decide +kernel
theorem dX12_law_111 : decode cX12_law 111 = .ok (.iastore, 1) := by decide +kernel
theorem dX12_law_112 : decode cX12_law 112 = .ok (.iconst 0, 1) := by decide +kernel
theorem dX12_law_113 : decode cX12_law 113 = .ok (.istore 4, 2) := by decide +kernel
theorem dX12_law_115 : decode cX12_law 115 = .ok (.iload 4, 2) := by decide +kernel
theorem dX12_law_117 : decode cX12_law 117 = .ok (.aload_n 0, 1) := by decide +kernel
theorem dX12_law_118 : decode cX12_law 118 = .ok (.getfield 261, 3) := by decide +kernel
theorem dX12_law_121 : decode cX12_law 121 = .ok (.if_icmp .ge 49, 3) := by decide +kernel
theorem dX12_law_124 : decode cX12_law 124 = .ok (.aload_n 0, 1) := by decide +kernel
theorem dX12_law_125 : decode cX12_law 125 = .ok (.getfield 53, 3) := by decide +kernel
theorem dX12_law_128 : decode cX12_law 128 = .ok (.sipush 150, 3) := by decide +kernel
theorem dX12_law_131 : decode cX12_law 131 = .ok (.iload_n 1, 1) := by decide +kernel
theorem dX12_law_132 : decode cX12_law 132 = .ok (.imul, 1) := by decide +kernel
theorem dX12_law_133 : decode cX12_law 133 = .ok (.iload 4, 2) := by decide +kernel
theorem dX12_law_135 : decode cX12_law 135 = .ok (.iadd, 1) := by decide +kernel
theorem dX12_law_136 : decode cX12_law 136 = .ok (.aload_n 0, 1) := by decide +kernel
theorem dX12_law_137 : decode cX12_law 137 = .ok (.getfield 47, 3) := by decide +kernel
theorem dX12_law_140 : decode cX12_law 140 = .ok (.iload 4, 2) := by decide +kernel
theorem dX12_law_142 : decode cX12_law 142 = .ok (.iaload, 1) := by decide +kernel
theorem dX12_law_143 : decode cX12_law 143 = .ok (.iastore, 1) := by decide +kernel
theorem dX12_law_144 : decode cX12_law 144 = .ok (.aload_n 0, 1) := by decide +kernel
theorem dX12_law_145 : decode cX12_law 145 = .ok (.getfield 56, 3) := by decide +kernel
theorem dX12_law_148 : decode cX12_law 148 = .ok (.sipush 150, 3) := by decide +kernel
theorem dX12_law_151 : decode cX12_law 151 = .ok (.iload_n 1, 1) := by decide +kernel
theorem dX12_law_152 : decode cX12_law 152 = .ok (.imul, 1) := by decide +kernel
theorem dX12_law_153 : decode cX12_law 153 = .ok (.iload 4, 2) := by decide +kernel
theorem dX12_law_155 : decode cX12_law 155 = .ok (.iadd, 1) := by decide +kernel
theorem dX12_law_156 : decode cX12_law 156 = .ok (.aload_n 0, 1) := by decide +kernel
theorem dX12_law_157 : decode cX12_law 157 = .ok (.getfield 50, 3) := by decide +kernel
theorem dX12_law_160 : decode cX12_law 160 = .ok (.iload 4, 2) := by decide +kernel
theorem dX12_law_162 : decode cX12_law 162 = .ok (.iaload, 1) := by decide +kernel
theorem dX12_law_163 : decode cX12_law 163 = .ok (.iastore, 1) := by decide +kernel
theorem dX12_law_164 : decode cX12_law 164 = .ok (.iinc 4 1, 3) := by decide +kernel
theorem dX12_law_167 : decode cX12_law 167 = .ok (.goto (-52), 3) := by decide +kernel
theorem dX12_law_170 : decode cX12_law 170 = .ok (.iload_n 3, 1) := by decide +kernel
theorem dX12_law_171 : decode cX12_law 171 = .ok (.ireturn, 1) := by decide +kernel
theorem dX12_valueOf_0 : decode cX12_valueOf 0 = .ok (.iconst 0, 1) := by decide +kernel
theorem dX12_valueOf_1 : decode cX12_valueOf 1 = .ok (.istore_n 2, 1) := by decide +kernel
theorem dX12_valueOf_2 : decode cX12_valueOf 2 = .ok (.sipush 150, 3) := by decide +kernel
theorem dX12_valueOf_5 : decode cX12_valueOf 5 = .ok (.iload_n 1, 1) := by decide +kernel
theorem dX12_valueOf_6 : decode cX12_valueOf 6 = .ok (.imul, 1) := by decide +kernel
theorem dX12_valueOf_7 : decode cX12_valueOf 7 = .ok (.istore_n 3, 1) := by decide +kernel
theorem dX12_valueOf_8 : decode cX12_valueOf 8 = .ok (.iload_n 3, 1) := by decide +kernel
theorem dX12_valueOf_9 : decode cX12_valueOf 9 = .ok (.sipush 150, 3) := by decide +kernel
theorem dX12_valueOf_12 : decode cX12_valueOf 12 = .ok (.iload_n 1, 1) := by decide +kernel
theorem dX12_valueOf_13 : decode cX12_valueOf 13 = .ok (.imul, 1) := by decide +kernel
theorem dX12_valueOf_14 : decode cX12_valueOf 14 = .ok (.aload_n 0, 1) := by decide +kernel
theorem dX12_valueOf_15 : decode cX12_valueOf 15 = .ok (.getfield 59, 3) := by decide +kernel
theorem dX12_valueOf_18 : decode cX12_valueOf 18 = .ok (.iload_n 1, 1) := by decide +kernel
theorem dX12_valueOf_19 : decode cX12_valueOf 19 = .ok (.iaload, 1) := by decide +kernel
theorem dX12_valueOf_20 : decode cX12_valueOf 20 = .ok (.iadd, 1) := by decide +kernel
theorem dX12_valueOf_21 : decode cX12_valueOf 21 = .ok (.if_icmp .ge 90, 3) := by decide +kernel
theorem dX12_valueOf_24 : decode cX12_valueOf 24 = .ok (.aload_n 0, 1) := by decide +kernel
theorem dX12_valueOf_25 : decode cX12_valueOf 25 = .ok (.getfield 53, 3) := by decide +kernel
theorem dX12_valueOf_28 : decode cX12_valueOf 28 = .ok (.iload_n 3, 1) := by decide +kernel
theorem dX12_valueOf_29 : decode cX12_valueOf 29 = .ok (.iaload, 1) := by decide +kernel
theorem dX12_valueOf_30 : decode cX12_valueOf 30 = .ok (.istore 4, 2) := by decide +kernel
theorem dX12_valueOf_32 : decode cX12_valueOf 32 = .ok (.iload 4, 2) := by decide +kernel
theorem dX12_valueOf_34 : decode cX12_valueOf 34 = .ok (.iconst 1, 1) := by decide +kernel
theorem dX12_valueOf_35 : decode cX12_valueOf 35 = .ok (.if_icmp .gt 40, 3) := by decide +kernel
theorem dX12_valueOf_38 : decode cX12_valueOf 38 = .ok (.aload_n 0, 1) := by decide +kernel
theorem dX12_valueOf_39 : decode cX12_valueOf 39 = .ok (.getfield 62, 3) := by decide +kernel
theorem dX12_valueOf_42 : decode cX12_valueOf 42 = .ok (.iload_n 2, 1) := by decide +kernel
theorem dX12_valueOf_43 : decode cX12_valueOf 43 = .ok (.iload 4, 2) := by decide +kernel
theorem dX12_valueOf_45 : decode cX12_valueOf 45 = .ok (.ifCond .ne 12, 3) := by decide +kernel
theorem dX12_valueOf_48 : decode cX12_valueOf 48 = .ok (.aload_n 0, 1) := by decide +kernel
theorem dX12_valueOf_49 : decode cX12_valueOf 49 = .ok (.getfield 56, 3) := by decide +kernel
theorem dX12_valueOf_52 : decode cX12_valueOf 52 = .ok (.iload_n 3, 1) := by decide +kernel
theorem dX12_valueOf_53 : decode cX12_valueOf 53 = .ok (.iaload, 1) := by decide +kernel
theorem dX12_valueOf_54 : decode cX12_valueOf 54 = .ok (.goto 14, 3) := by decide +kernel
theorem dX12_valueOf_57 : decode cX12_valueOf 57 = .ok (.aload_n 0, 1) := by decide +kernel
theorem dX12_valueOf_58 : decode cX12_valueOf 58 = .ok (.getfield 65, 3) := by decide +kernel
theorem dX12_valueOf_61 : decode cX12_valueOf 61 = .ok (.aload_n 0, 1) := by decide +kernel
theorem dX12_valueOf_62 : decode cX12_valueOf 62 = .ok (.getfield 56, 3) := by decide +kernel
theorem dX12_valueOf_65 : decode cX12_valueOf 65 = .ok (.iload_n 3, 1) := by decide +kernel
theorem dX12_valueOf_66 : decode cX12_valueOf 66 = .ok (.iaload, 1) := by decide +kernel
theorem dX12_valueOf_67 : decode cX12_valueOf 67 = .ok (.iaload, 1) := by decide +kernel
theorem dX12_valueOf_68 : decode cX12_valueOf 68 = .ok (.iastore, 1) := by decide +kernel
theorem dX12_valueOf_69 : decode cX12_valueOf 69 = .ok (.iinc 2 1, 3) := by decide +kernel
theorem dX12_valueOf_72 : decode cX12_valueOf 72 = .ok (.goto 33, 3) := by decide +kernel
theorem dX12_valueOf_75 : decode cX12_valueOf 75 = .ok (.iinc 2 (-1), 3) := by decide +kernel
theorem dX12_valueOf_78 : decode cX12_valueOf 78 = .ok (.aload_n 0, 1) := by decide +kernel
theorem dX12_valueOf_79 : decode cX12_valueOf 79 = .ok (.getfield 62, 3) := by decide +kernel
theorem dX12_valueOf_82 : decode cX12_valueOf 82 = .ok (.iload_n 2, 1) := by decide +kernel
theorem dX12_valueOf_83 : decode cX12_valueOf 83 = .ok (.iconst 1, 1) := by decide +kernel
theorem dX12_valueOf_84 : decode cX12_valueOf 84 = .ok (.isub, 1) := by decide +kernel
theorem dX12_valueOf_85 : decode cX12_valueOf 85 = .ok (.iload 4, 2) := by decide +kernel
theorem dX12_valueOf_87 : decode cX12_valueOf 87 = .ok (.aload_n 0, 1) := by decide +kernel
theorem dX12_valueOf_88 : decode cX12_valueOf 88 = .ok (.getfield 62, 3) := by decide +kernel
theorem dX12_valueOf_91 : decode cX12_valueOf 91 = .ok (.iload_n 2, 1) := by decide +kernel
theorem dX12_valueOf_92 : decode cX12_valueOf 92 = .ok (.iconst 1, 1) := by decide +kernel
theorem dX12_valueOf_93 : decode cX12_valueOf 93 = .ok (.isub, 1) := by decide +kernel
theorem dX12_valueOf_94 : decode cX12_valueOf 94 = .ok (.iaload, 1) := by decide +kernel
theorem dX12_valueOf_95 : decode cX12_valueOf 95 = .ok (.aload_n 0, 1) := by decide +kernel
theorem dX12_valueOf_96 : decode cX12_valueOf 96 = .ok (.getfield 62, 3) := by decide +kernel
theorem dX12_valueOf_99 : decode cX12_valueOf 99 = .ok (.iload_n 2, 1) := by decide +kernel
theorem dX12_valueOf_100 : decode cX12_valueOf 100 = .ok (.iaload, 1) := by decide +kernel
theorem dX12_valueOf_101 : decode cX12_valueOf 101 = .ok (.invokestatic 307, 3) := by decide +kernel
theorem dX12_valueOf_104 : decode cX12_valueOf 104 = .ok (.iastore, 1) := by decide +kernel
theorem dX12_valueOf_105 : decode cX12_valueOf 105 = .ok (.iinc 3 1, 3) := by decide +kernel
theorem dX12_valueOf_108 : decode cX12_valueOf 108 = .ok (.goto (-100), 3) := by decide +kernel
theorem dX12_valueOf_111 : decode cX12_valueOf 111 = .ok (.aload_n 0, 1) := by decide +kernel
theorem dX12_valueOf_112 : decode cX12_valueOf 112 = .ok (.getfield 62, 3) := by decide +kernel
theorem dX12_valueOf_115 : decode cX12_valueOf 115 = .ok (.iconst 0, 1) := by decide +kernel
theorem dX12_valueOf_116 : decode cX12_valueOf 116 = .ok (.iaload, 1) := by decide +kernel
theorem dX12_valueOf_117 : decode cX12_valueOf 117 = .ok (.ireturn, 1) := by decide +kernel
theorem dX12_both_0 : decode cX12_both 0 = .ok (.iload_n 0, 1) := by decide +kernel
theorem dX12_both_1 : decode cX12_both 1 = .ok (.iconst 2, 1) := by decide +kernel
theorem dX12_both_2 : decode cX12_both 2 = .ok (.if_icmp .ne 7, 3) := by decide +kernel
theorem dX12_both_5 : decode cX12_both 5 = .ok (.iload_n 1, 1) := by decide +kernel
theorem dX12_both_6 : decode cX12_both 6 = .ok (.iload_n 2, 1) := by decide +kernel
theorem dX12_both_7 : decode cX12_both 7 = .ok (.iadd, 1) := by decide +kernel
theorem dX12_both_8 : decode cX12_both 8 = .ok (.ireturn, 1) := by decide +kernel
theorem dX12_both_9 : decode cX12_both 9 = .ok (.iload_n 0, 1) := by decide +kernel
theorem dX12_both_10 : decode cX12_both 10 = .ok (.iconst 3, 1) := by decide +kernel
theorem dX12_both_11 : decode cX12_both 11 = .ok (.if_icmp .ne 7, 3) := by decide +kernel
theorem dX12_both_14 : decode cX12_both 14 = .ok (.iload_n 1, 1) := by decide +kernel
theorem dX12_both_15 : decode cX12_both 15 = .ok (.iload_n 2, 1) := by decide +kernel
theorem dX12_both_16 : decode cX12_both 16 = .ok (.isub, 1) := by decide +kernel
theorem dX12_both_17 : decode cX12_both 17 = .ok (.ireturn, 1) := by decide +kernel
theorem dX12_both_18 : decode cX12_both 18 = .ok (.iload_n 0, 1) := by decide +kernel
theorem dX12_both_19 : decode cX12_both 19 = .ok (.iconst 4, 1) := by decide +kernel
theorem dX12_both_20 : decode cX12_both 20 = .ok (.if_icmp .ne 7, 3) := by decide +kernel
theorem dX12_both_23 : decode cX12_both 23 = .ok (.iload_n 1, 1) := by decide +kernel
theorem dX12_both_24 : decode cX12_both 24 = .ok (.iload_n 2, 1) := by decide +kernel
theorem dX12_both_25 : decode cX12_both 25 = .ok (.imul, 1) := by decide +kernel
theorem dX12_both_26 : decode cX12_both 26 = .ok (.ireturn, 1) := by decide +kernel
theorem dX12_both_27 : decode cX12_both 27 = .ok (.iload_n 0, 1) := by decide +kernel
theorem dX12_both_28 : decode cX12_both 28 = .ok (.iconst 5, 1) := by decide +kernel
theorem dX12_both_29 : decode cX12_both 29 = .ok (.if_icmp .ne 15, 3) := by decide +kernel
theorem dX12_both_32 : decode cX12_both 32 = .ok (.iload_n 2, 1) := by decide +kernel
theorem dX12_both_33 : decode cX12_both 33 = .ok (.ifCond .ne 7, 3) := by decide +kernel
theorem dX12_both_36 : decode cX12_both 36 = .ok (.iconst 0, 1) := by decide +kernel
theorem dX12_both_37 : decode cX12_both 37 = .ok (.goto 6, 3) := by decide +kernel
theorem dX12_both_40 : decode cX12_both 40 = .ok (.iload_n 1, 1) := by decide +kernel
theorem dX12_both_41 : decode cX12_both 41 = .ok (.iload_n 2, 1) := by decide +kernel
theorem dX12_both_42 : decode cX12_both 42 = .ok (.idiv, 1) := by decide +kernel
theorem dX12_both_43 : decode cX12_both 43 = .ok (.ireturn, 1) := by decide +kernel
theorem dX12_both_44 : decode cX12_both 44 = .ok (.iload_n 1, 1) := by decide +kernel
theorem dX12_both_45 : decode cX12_both 45 = .ok (.iload_n 2, 1) := by decide +kernel
theorem dX12_both_46 : decode cX12_both 46 = .ok (.if_icmp .ge 7, 3) := by decide +kernel
theorem dX12_both_49 : decode cX12_both 49 = .ok (.iconst 1, 1) := by decide +kernel
theorem dX12_both_50 : decode cX12_both 50 = .ok (.goto 4, 3) := by decide +kernel
theorem dX12_both_53 : decode cX12_both 53 = .ok (.iconst 0, 1) := by decide +kernel
theorem dX12_both_54 : decode cX12_both 54 = .ok (.iload_n 0, 1) := by decide +kernel
theorem dX12_both_55 : decode cX12_both 55 = .ok (.bipush 6, 2) := by decide +kernel
theorem dX12_both_57 : decode cX12_both 57 = .ok (.if_icmp .ne 7, 3) := by decide +kernel
theorem dX12_both_60 : decode cX12_both 60 = .ok (.iconst 1, 1) := by decide +kernel
theorem dX12_both_61 : decode cX12_both 61 = .ok (.goto 4, 3) := by decide +kernel
theorem dX12_both_64 : decode cX12_both 64 = .ok (.iconst 0, 1) := by decide +kernel
theorem dX12_both_65 : decode cX12_both 65 = .ok (.if_icmp .ne 7, 3) := by decide +kernel
theorem dX12_both_68 : decode cX12_both 68 = .ok (.iload_n 1, 1) := by decide +kernel
theorem dX12_both_69 : decode cX12_both 69 = .ok (.goto 4, 3) := by decide +kernel
theorem dX12_both_72 : decode cX12_both 72 = .ok (.iload_n 2, 1) := by decide +kernel
theorem dX12_both_73 : decode cX12_both 73 = .ok (.ireturn, 1) := by decide +kernel
theorem dX12_clamp_0 : decode cX12_clamp 0 = .ok (.iload_n 0, 1) := by decide +kernel
theorem dX12_clamp_1 : decode cX12_clamp 1 = .ok (.ifCond .ge 7, 3) := by decide +kernel
theorem dX12_clamp_4 : decode cX12_clamp 4 = .ok (.iconst 0, 1) := by decide +kernel
theorem dX12_clamp_5 : decode cX12_clamp 5 = .ok (.goto 13, 3) := by decide +kernel
theorem dX12_clamp_8 : decode cX12_clamp 8 = .ok (.iload_n 0, 1) := by decide +kernel
theorem dX12_clamp_9 : decode cX12_clamp 9 = .ok (.iload_n 1, 1) := by decide +kernel
theorem dX12_clamp_10 : decode cX12_clamp 10 = .ok (.if_icmp .le 7, 3) := by decide +kernel
theorem dX12_clamp_13 : decode cX12_clamp 13 = .ok (.iload_n 1, 1) := by decide +kernel
theorem dX12_clamp_14 : decode cX12_clamp 14 = .ok (.goto 4, 3) := by decide +kernel
theorem dX12_clamp_17 : decode cX12_clamp 17 = .ok (.iload_n 0, 1) := by decide +kernel
theorem dX12_clamp_18 : decode cX12_clamp 18 = .ok (.ireturn, 1) := by decide +kernel
theorem dX12_findFacts_0 : decode cX12_findFacts 0 = .ok (.iconst 0, 1) := by decide +kernel
theorem dX12_findFacts_1 : decode cX12_findFacts 1 = .ok (.istore_n 1, 1) := by decide +kernel
theorem dX12_findFacts_2 : decode cX12_findFacts 2 = .ok (.iload_n 1, 1) := by decide +kernel
theorem dX12_findFacts_3 : decode cX12_findFacts 3 = .ok (.iconst 5, 1) := by decide +kernel
theorem dX12_findFacts_4 : decode cX12_findFacts 4 = .ok (.if_icmp .ge 16, 3) := by decide +kernel
theorem dX12_findFacts_7 : decode cX12_findFacts 7 = .ok (.aload_n 0, 1) := by decide +kernel
theorem dX12_findFacts_8 : decode cX12_findFacts 8 = .ok (.getfield 65, 3) := by decide +kernel
theorem dX12_findFacts_11 : decode cX12_findFacts 11 = .ok (.iload_n 1, 1) := by decide +kernel
theorem dX12_findFacts_12 : decode cX12_findFacts 12 = .ok (.iconst 0, 1) := by decide +kernel
theorem dX12_findFacts_13 : decode cX12_findFacts 13 = .ok (.iastore, 1) := by decide +kernel
theorem dX12_findFacts_14 : decode cX12_findFacts 14 = .ok (.iinc 1 1, 3) := by decide +kernel
theorem dX12_findFacts_17 : decode cX12_findFacts 17 = .ok (.goto (-15), 3) := by decide +kernel
theorem dX12_findFacts_20 : decode cX12_findFacts 20 = .ok (.aload_n 0, 1) := by decide +kernel
theorem dX12_findFacts_21 : decode cX12_findFacts 21 = .ok (.getfield 65, 3) := by decide +kernel
theorem dX12_findFacts_24 : decode cX12_findFacts 24 = .ok (.iconst 5, 1) := by decide +kernel
theorem dX12_findFacts_25 : decode cX12_findFacts 25 = .ok (.aload_n 0, 1) := by decide +kernel
theorem dX12_findFacts_26 : decode cX12_findFacts 26 = .ok (.getfield 77, 3) := by decide +kernel
theorem dX12_findFacts_29 : decode cX12_findFacts 29 = .ok (.bipush 48, 2) := by decide +kernel
theorem dX12_findFacts_31 : decode cX12_findFacts 31 = .ok (.iaload, 1) := by decide +kernel
theorem dX12_findFacts_32 : decode cX12_findFacts 32 = .ok (.bipush 12, 2) := by decide +kernel
theorem dX12_findFacts_34 : decode cX12_findFacts 34 = .ok (.irem, 1) := by decide +kernel
theorem dX12_findFacts_35 : decode cX12_findFacts 35 = .ok (.iastore, 1) := by decide +kernel
theorem dX12_findFacts_36 : decode cX12_findFacts 36 = .ok (.aload_n 0, 1) := by decide +kernel
theorem dX12_findFacts_37 : decode cX12_findFacts 37 = .ok (.getfield 65, 3) := by decide +kernel
theorem dX12_findFacts_40 : decode cX12_findFacts 40 = .ok (.bipush 6, 2) := by decide +kernel
theorem dX12_findFacts_42 : decode cX12_findFacts 42 = .ok (.aload_n 0, 1) := by decide +kernel
theorem dX12_findFacts_43 : decode cX12_findFacts 43 = .ok (.getfield 77, 3) := by decide +kernel
theorem dX12_findFacts_46 : decode cX12_findFacts 46 = .ok (.bipush 48, 2) := by decide +kernel
theorem dX12_findFacts_48 : decode cX12_findFacts 48 = .ok (.iaload, 1) := by decide +kernel
theorem dX12_findFacts_49 : decode cX12_findFacts 49 = .ok (.bipush 12, 2) := by decide +kernel
theorem dX12_findFacts_51 : decode cX12_findFacts 51 = .ok (.idiv, 1) := by decide +kernel
theorem dX12_findFacts_52 : decode cX12_findFacts 52 = .ok (.iastore, 1) := by decide +kernel
theorem dX12_findFacts_53 : decode cX12_findFacts 53 = .ok (.return_, 1) := by decide +kernel
theorem dX12_arriveOf_0 : decode cX12_arriveOf 0 = .ok (.aload_n 0, 1) := by decide +kernel
theorem dX12_arriveOf_1 : decode cX12_arriveOf 1 = .ok (.invokevirtual 311, 3) := by decide +kernel
theorem dX12_arriveOf_4 : decode cX12_arriveOf 4 = .ok (.aload_n 0, 1) := by decide +kernel
theorem dX12_arriveOf_5 : decode cX12_arriveOf 5 = .ok (.getfield 65, 3) := by decide +kernel
theorem dX12_arriveOf_8 : decode cX12_arriveOf 8 = .ok (.iconst 0, 1) := by decide +kernel
theorem dX12_arriveOf_9 : decode cX12_arriveOf 9 = .ok (.iload_n 3, 1) := by decide +kernel
theorem dX12_arriveOf_10 : decode cX12_arriveOf 10 = .ok (.iastore, 1) := by decide +kernel
theorem dX12_arriveOf_11 : decode cX12_arriveOf 11 = .ok (.aload_n 0, 1) := by decide +kernel
theorem dX12_arriveOf_12 : decode cX12_arriveOf 12 = .ok (.getfield 65, 3) := by decide +kernel
theorem dX12_arriveOf_15 : decode cX12_arriveOf 15 = .ok (.iconst 1, 1) := by decide +kernel
theorem dX12_arriveOf_16 : decode cX12_arriveOf 16 = .ok (.aload_n 0, 1) := by decide +kernel
theorem dX12_arriveOf_17 : decode cX12_arriveOf 17 = .ok (.getfield 35, 3) := by decide +kernel
theorem dX12_arriveOf_20 : decode cX12_arriveOf 20 = .ok (.iconst 4, 1) := by decide +kernel
theorem dX12_arriveOf_21 : decode cX12_arriveOf 21 = .ok (.iload_n 1, 1) := by decide +kernel
theorem dX12_arriveOf_22 : decode cX12_arriveOf 22 = .ok (.imul, 1) := by decide +kernel
theorem dX12_arriveOf_23 : decode cX12_arriveOf 23 = .ok (.iaload, 1) := by decide +kernel
theorem dX12_arriveOf_24 : decode cX12_arriveOf 24 = .ok (.aload_n 0, 1) := by decide +kernel
theorem dX12_arriveOf_25 : decode cX12_arriveOf 25 = .ok (.getfield 35, 3) := by decide +kernel
theorem dX12_arriveOf_28 : decode cX12_arriveOf 28 = .ok (.iconst 4, 1) := by decide +kernel
theorem dX12_arriveOf_29 : decode cX12_arriveOf 29 = .ok (.iload_n 2, 1) := by decide +kernel
theorem dX12_arriveOf_30 : decode cX12_arriveOf 30 = .ok (.imul, 1) := by decide +kernel
theorem dX12_arriveOf_31 : decode cX12_arriveOf 31 = .ok (.iaload, 1) := by decide +kernel
theorem dX12_arriveOf_32 : decode cX12_arriveOf 32 = .ok (.invokestatic 314, 3) := by decide +kernel
theorem dX12_arriveOf_35 : decode cX12_arriveOf 35 = .ok (.iastore, 1) := by decide +kernel
theorem dX12_arriveOf_36 : decode cX12_arriveOf 36 = .ok (.aload_n 0, 1) := by decide +kernel
theorem dX12_arriveOf_37 : decode cX12_arriveOf 37 = .ok (.getfield 65, 3) := by decide +kernel
theorem dX12_arriveOf_40 : decode cX12_arriveOf 40 = .ok (.iconst 2, 1) := by decide +kernel
theorem dX12_arriveOf_41 : decode cX12_arriveOf 41 = .ok (.iload 4, 2) := by decide +kernel
theorem dX12_arriveOf_43 : decode cX12_arriveOf 43 = .ok (.iastore, 1) := by decide +kernel
theorem dX12_arriveOf_44 : decode cX12_arriveOf 44 = .ok (.aload_n 0, 1) := by decide +kernel
theorem dX12_arriveOf_45 : decode cX12_arriveOf 45 = .ok (.getfield 59, 3) := by decide +kernel
theorem dX12_arriveOf_48 : decode cX12_arriveOf 48 = .ok (.iconst 0, 1) := by decide +kernel
theorem dX12_arriveOf_49 : decode cX12_arriveOf 49 = .ok (.iaload, 1) := by decide +kernel
theorem dX12_arriveOf_50 : decode cX12_arriveOf 50 = .ok (.ifCond .ne 19, 3) := by decide +kernel
theorem dX12_arriveOf_53 : decode cX12_arriveOf 53 = .ok (.iload_n 3, 1) := by decide +kernel
theorem dX12_arriveOf_54 : decode cX12_arriveOf 54 = .ok (.iload_n 3, 1) := by decide +kernel
theorem dX12_arriveOf_55 : decode cX12_arriveOf 55 = .ok (.aload_n 0, 1) := by decide +kernel
theorem dX12_arriveOf_56 : decode cX12_arriveOf 56 = .ok (.getfield 65, 3) := by decide +kernel
theorem dX12_arriveOf_59 : decode cX12_arriveOf 59 = .ok (.iconst 1, 1) := by decide +kernel
theorem dX12_arriveOf_60 : decode cX12_arriveOf 60 = .ok (.iaload, 1) := by decide +kernel
theorem dX12_arriveOf_61 : decode cX12_arriveOf 61 = .ok (.imul, 1) := by decide +kernel
theorem dX12_arriveOf_62 : decode cX12_arriveOf 62 = .ok (.bipush 40, 2) := by decide +kernel
theorem dX12_arriveOf_64 : decode cX12_arriveOf 64 = .ok (.idiv, 1) := by decide +kernel
theorem dX12_arriveOf_65 : decode cX12_arriveOf 65 = .ok (.isub, 1) := by decide +kernel
theorem dX12_arriveOf_66 : decode cX12_arriveOf 66 = .ok (.goto 8, 3) := by decide +kernel
theorem dX12_arriveOf_69 : decode cX12_arriveOf 69 = .ok (.aload_n 0, 1) := by decide +kernel
theorem dX12_arriveOf_70 : decode cX12_arriveOf 70 = .ok (.iconst 0, 1) := by decide +kernel
theorem dX12_arriveOf_71 : decode cX12_arriveOf 71 = .ok (.invokevirtual 317, 3) := by decide +kernel
theorem dX12_arriveOf_74 : decode cX12_arriveOf 74 = .ok (.iload_n 3, 1) := by decide +kernel
theorem dX12_arriveOf_75 : decode cX12_arriveOf 75 = .ok (.invokestatic 320, 3) := by decide +kernel
theorem dX12_arriveOf_78 : decode cX12_arriveOf 78 = .ok (.ireturn, 1) := by decide +kernel
theorem dX12_digOf_0 : decode cX12_digOf 0 = .ok (.iload_n 2, 1) := by decide +kernel
theorem dX12_digOf_1 : decode cX12_digOf 1 = .ok (.ifCond .ne 5, 3) := by decide +kernel
theorem dX12_digOf_4 : decode cX12_digOf 4 = .ok (.iconst 0, 1) := by decide +kernel
theorem dX12_digOf_5 : decode cX12_digOf 5 = .ok (.ireturn, 1) := by decide +kernel
theorem dX12_digOf_6 : decode cX12_digOf 6 = .ok (.aload_n 0, 1) := by decide +kernel
theorem dX12_digOf_7 : decode cX12_digOf 7 = .ok (.invokevirtual 311, 3) := by decide +kernel
theorem dX12_digOf_10 : decode cX12_digOf 10 = .ok (.aload_n 0, 1) := by decide +kernel
theorem dX12_digOf_11 : decode cX12_digOf 11 = .ok (.getfield 65, 3) := by decide +kernel
theorem dX12_digOf_14 : decode cX12_digOf 14 = .ok (.iconst 2, 1) := by decide +kernel
theorem dX12_digOf_15 : decode cX12_digOf 15 = .ok (.iconst 1, 1) := by decide +kernel
theorem dX12_digOf_16 : decode cX12_digOf 16 = .ok (.iastore, 1) := by decide +kernel
theorem dX12_digOf_17 : decode cX12_digOf 17 = .ok (.aload_n 0, 1) := by decide +kernel
theorem dX12_digOf_18 : decode cX12_digOf 18 = .ok (.getfield 65, 3) := by decide +kernel
theorem dX12_digOf_21 : decode cX12_digOf 21 = .ok (.iconst 3, 1) := by decide +kernel
theorem dX12_digOf_22 : decode cX12_digOf 22 = .ok (.iload_n 2, 1) := by decide +kernel
theorem dX12_digOf_23 : decode cX12_digOf 23 = .ok (.iastore, 1) := by decide +kernel
theorem dX12_digOf_24 : decode cX12_digOf 24 = .ok (.aload_n 0, 1) := by decide +kernel
theorem dX12_digOf_25 : decode cX12_digOf 25 = .ok (.getfield 65, 3) := by decide +kernel
theorem dX12_digOf_28 : decode cX12_digOf 28 = .ok (.iconst 4, 1) := by decide +kernel
theorem dX12_digOf_29 : decode cX12_digOf 29 = .ok (.aload_n 0, 1) := by decide +kernel
theorem dX12_digOf_30 : decode cX12_digOf 30 = .ok (.getfield 77, 3) := by decide +kernel
theorem dX12_digOf_33 : decode cX12_digOf 33 = .ok (.bipush 42, 2) := by decide +kernel
theorem dX12_digOf_35 : decode cX12_digOf 35 = .ok (.iload_n 1, 1) := by decide +kernel
theorem dX12_digOf_36 : decode cX12_digOf 36 = .ok (.iadd, 1) := by decide +kernel
theorem dX12_digOf_37 : decode cX12_digOf 37 = .ok (.iaload, 1) := by decide +kernel
theorem dX12_digOf_38 : decode cX12_digOf 38 = .ok (.iastore, 1) := by decide +kernel
theorem dX12_digOf_39 : decode cX12_digOf 39 = .ok (.aload_n 0, 1) := by decide +kernel
theorem dX12_digOf_40 : decode cX12_digOf 40 = .ok (.getfield 59, 3) := by decide +kernel
theorem dX12_digOf_43 : decode cX12_digOf 43 = .ok (.iconst 1, 1) := by decide +kernel
theorem dX12_digOf_44 : decode cX12_digOf 44 = .ok (.iaload, 1) := by decide +kernel
theorem dX12_digOf_45 : decode cX12_digOf 45 = .ok (.ifCond .ne 9, 3) := by decide +kernel
theorem dX12_digOf_48 : decode cX12_digOf 48 = .ok (.iconst 3, 1) := by decide +kernel
theorem dX12_digOf_49 : decode cX12_digOf 49 = .ok (.iload_n 2, 1) := by decide +kernel
theorem dX12_digOf_50 : decode cX12_digOf 50 = .ok (.imul, 1) := by decide +kernel
theorem dX12_digOf_51 : decode cX12_digOf 51 = .ok (.goto 8, 3) := by decide +kernel
theorem dX12_digOf_54 : decode cX12_digOf 54 = .ok (.aload_n 0, 1) := by decide +kernel
theorem dX12_digOf_55 : decode cX12_digOf 55 = .ok (.iconst 1, 1) := by decide +kernel
theorem dX12_digOf_56 : decode cX12_digOf 56 = .ok (.invokevirtual 317, 3) := by decide +kernel
theorem dX12_digOf_59 : decode cX12_digOf 59 = .ok (.aload_n 0, 1) := by decide +kernel
theorem dX12_digOf_60 : decode cX12_digOf 60 = .ok (.getfield 77, 3) := by decide +kernel
theorem dX12_digOf_63 : decode cX12_digOf 63 = .ok (.bipush 42, 2) := by decide +kernel
theorem dX12_digOf_65 : decode cX12_digOf 65 = .ok (.iload_n 1, 1) := by decide +kernel
theorem dX12_digOf_66 : decode cX12_digOf 66 = .ok (.iadd, 1) := by decide +kernel
theorem dX12_digOf_67 : decode cX12_digOf 67 = .ok (.iaload, 1) := by decide +kernel
theorem dX12_digOf_68 : decode cX12_digOf 68 = .ok (.invokestatic 320, 3) := by decide +kernel
theorem dX12_digOf_71 : decode cX12_digOf 71 = .ok (.ireturn, 1) := by decide +kernel
theorem dX12_apart_0 : decode cX12_apart 0 = .ok (.iload_n 0, 1) := by decide +kernel
theorem dX12_apart_1 : decode cX12_apart 1 = .ok (.iload_n 1, 1) := by decide +kernel
theorem dX12_apart_2 : decode cX12_apart 2 = .ok (.if_icmp .ge 9, 3) := by decide +kernel
theorem dX12_apart_5 : decode cX12_apart 5 = .ok (.iload_n 1, 1) := by decide +kernel
theorem dX12_apart_6 : decode cX12_apart 6 = .ok (.iload_n 0, 1) := by decide +kernel
theorem dX12_apart_7 : decode cX12_apart 7 = .ok (.isub, 1) := by decide +kernel
theorem dX12_apart_8 : decode cX12_apart 8 = .ok (.goto 6, 3) := by decide +kernel
theorem dX12_apart_11 : decode cX12_apart 11 = .ok (.iload_n 0, 1) := by decide +kernel
theorem dX12_apart_12 : decode cX12_apart 12 = .ok (.iload_n 1, 1) := by decide +kernel
theorem dX12_apart_13 : decode cX12_apart 13 = .ok (.isub, 1) := by decide +kernel
theorem dX12_apart_14 : decode cX12_apart 14 = .ok (.ireturn, 1) := by decide +kernel
theorem dX12_tellsStep_0 : decode cX12_tellsStep 0 = .ok (.aload_n 0, 1) := by decide +kernel
theorem dX12_tellsStep_1 : decode cX12_tellsStep 1 = .ok (.invokevirtual 148, 3) := by decide +kernel
theorem dX12_tellsStep_4 : decode cX12_tellsStep 4 = .ok (.ifCond .ne 4, 3) := by decide +kernel
theorem dX12_tellsStep_7 : decode cX12_tellsStep 7 = .ok (.return_, 1) := by decide +kernel
theorem dX12_tellsStep_8 : decode cX12_tellsStep 8 = .ok (.aload_n 0, 1) := by decide +kernel
theorem dX12_tellsStep_9 : decode cX12_tellsStep 9 = .ok (.getfield 68, 3) := by decide +kernel
theorem dX12_tellsStep_12 : decode cX12_tellsStep 12 = .ok (.aload_n 0, 1) := by decide +kernel
theorem dX12_tellsStep_13 : decode cX12_tellsStep 13 = .ok (.getfield 323, 3) := by decide +kernel
theorem dX12_tellsStep_16 : decode cX12_tellsStep 16 = .ok (.iload_n 1, 1) := by decide +kernel
theorem dX12_tellsStep_17 : decode cX12_tellsStep 17 = .ok (.iastore, 1) := by decide +kernel
theorem dX12_tellsStep_18 : decode cX12_tellsStep 18 = .ok (.aload_n 0, 1) := by decide +kernel
theorem dX12_tellsStep_19 : decode cX12_tellsStep 19 = .ok (.getfield 68, 3) := by decide +kernel
theorem dX12_tellsStep_22 : decode cX12_tellsStep 22 = .ok (.aload_n 0, 1) := by decide +kernel
theorem dX12_tellsStep_23 : decode cX12_tellsStep 23 = .ok (.getfield 323, 3) := by decide +kernel
theorem dX12_tellsStep_26 : decode cX12_tellsStep 26 = .ok (.iconst 1, 1) := by decide +kernel
theorem dX12_tellsStep_27 : decode cX12_tellsStep 27 = .ok (.iadd, 1) := by decide +kernel
theorem dX12_tellsStep_28 : decode cX12_tellsStep 28 = .ok (.iload_n 2, 1) := by decide +kernel
theorem dX12_tellsStep_29 : decode cX12_tellsStep 29 = .ok (.iastore, 1) := by decide +kernel
theorem dX12_tellsStep_30 : decode cX12_tellsStep 30 = .ok (.aload_n 0, 1) := by decide +kernel
theorem dX12_tellsStep_31 : decode cX12_tellsStep 31 = .ok (.getfield 68, 3) := by decide +kernel
theorem dX12_tellsStep_34 : decode cX12_tellsStep 34 = .ok (.aload_n 0, 1) := by decide +kernel
theorem dX12_tellsStep_35 : decode cX12_tellsStep 35 = .ok (.getfield 323, 3) := by decide +kernel
theorem dX12_tellsStep_38 : decode cX12_tellsStep 38 = .ok (.iconst 2, 1) := by decide +kernel
theorem dX12_tellsStep_39 : decode cX12_tellsStep 39 = .ok (.iadd, 1) := by decide +kernel
theorem dX12_tellsStep_40 : decode cX12_tellsStep 40 = .ok (.iload_n 3, 1) := by decide +kernel
theorem dX12_tellsStep_41 : decode cX12_tellsStep 41 = .ok (.iastore, 1) := by decide +kernel
theorem dX12_tellsStep_42 : decode cX12_tellsStep 42 = .ok (.aload_n 0, 1) := by decide +kernel
theorem dX12_tellsStep_43 : decode cX12_tellsStep 43 = .ok (.getfield 68, 3) := by decide +kernel
theorem dX12_tellsStep_46 : decode cX12_tellsStep 46 = .ok (.aload_n 0, 1) := by decide +kernel
theorem dX12_tellsStep_47 : decode cX12_tellsStep 47 = .ok (.getfield 323, 3) := by decide +kernel
theorem dX12_tellsStep_50 : decode cX12_tellsStep 50 = .ok (.iconst 3, 1) := by decide +kernel
theorem dX12_tellsStep_51 : decode cX12_tellsStep 51 = .ok (.iadd, 1) := by decide +kernel
theorem dX12_tellsStep_52 : decode cX12_tellsStep 52 = .ok (.iload 4, 2) := by decide +kernel
theorem dX12_tellsStep_54 : decode cX12_tellsStep 54 = .ok (.iastore, 1) := by decide +kernel
theorem dX12_tellsStep_55 : decode cX12_tellsStep 55 = .ok (.aload_n 0, 1) := by decide +kernel
theorem dX12_tellsStep_56 : decode cX12_tellsStep 56 = .ok (.getfield 68, 3) := by decide +kernel
theorem dX12_tellsStep_59 : decode cX12_tellsStep 59 = .ok (.aload_n 0, 1) := by decide +kernel
theorem dX12_tellsStep_60 : decode cX12_tellsStep 60 = .ok (.getfield 323, 3) := by decide +kernel
theorem dX12_tellsStep_63 : decode cX12_tellsStep 63 = .ok (.iconst 4, 1) := by decide +kernel
theorem dX12_tellsStep_64 : decode cX12_tellsStep 64 = .ok (.iadd, 1) := by decide +kernel
theorem dX12_tellsStep_65 : decode cX12_tellsStep 65 = .ok (.iload 5, 2) := by decide +kernel
theorem dX12_tellsStep_67 : decode cX12_tellsStep 67 = .ok (.iastore, 1) := by decide +kernel
theorem dX12_tellsStep_68 : decode cX12_tellsStep 68 = .ok (.aload_n 0, 1) := by decide +kernel
theorem dX12_tellsStep_69 : decode cX12_tellsStep 69 = .ok (.dup, 1) := by decide +kernel
theorem dX12_tellsStep_70 : decode cX12_tellsStep 70 = .ok (.getfield 323, 3) := by decide +kernel
theorem dX12_tellsStep_73 : decode cX12_tellsStep 73 = .ok (.iconst 5, 1) := by decide +kernel
theorem dX12_tellsStep_74 : decode cX12_tellsStep 74 = .ok (.iadd, 1) := by decide +kernel
theorem dX12_tellsStep_75 : decode cX12_tellsStep 75 = .ok (.putfield 323, 3) := by decide +kernel
theorem dX12_tellsStep_78 : decode cX12_tellsStep 78 = .ok (.return_, 1) := by decide +kernel
theorem dX12_readCarry_0 : decode cX12_readCarry 0 = .ok (.aload_n 0, 1) := by decide +kernel
theorem dX12_readCarry_1 : decode cX12_readCarry 1 = .ok (.iconst 0, 1) := by decide +kernel
theorem dX12_readCarry_2 : decode cX12_readCarry 2 = .ok (.aload_n 0, 1) := by decide +kernel
theorem dX12_readCarry_3 : decode cX12_readCarry 3 = .ok (.getfield 180, 3) := by decide +kernel
theorem dX12_readCarry_6 : decode cX12_readCarry 6 = .ok (.iconst 1, 1) := by decide +kernel
theorem dX12_readCarry_7 : decode cX12_readCarry 7 = .ok (.isub, 1) := by decide +kernel
theorem dX12_readCarry_8 : decode cX12_readCarry 8 = .ok (.invokevirtual 220, 3) := by decide +kernel
theorem dX12_readCarry_11 : decode cX12_readCarry 11 = .ok (.istore_n 1, 1) := by decide +kernel
theorem dX12_readCarry_12 : decode cX12_readCarry 12 = .ok (.aload_n 0, 1) := by decide +kernel
theorem dX12_readCarry_13 : decode cX12_readCarry 13 = .ok (.invokevirtual 131, 3) := by decide +kernel
theorem dX12_readCarry_16 : decode cX12_readCarry 16 = .ok (.pop, 1) := by decide +kernel
theorem dX12_readCarry_17 : decode cX12_readCarry 17 = .ok (.aload_n 0, 1) := by decide +kernel
theorem dX12_readCarry_18 : decode cX12_readCarry 18 = .ok (.getfield 125, 3) := by decide +kernel
theorem dX12_readCarry_21 : decode cX12_readCarry 21 = .ok (.istore_n 2, 1) := by decide +kernel
theorem dX12_readCarry_22 : decode cX12_readCarry 22 = .ok (.aload_n 0, 1) := by decide +kernel
theorem dX12_readCarry_23 : decode cX12_readCarry 23 = .ok (.iconst 0, 1) := by decide +kernel
theorem dX12_readCarry_24 : decode cX12_readCarry 24 = .ok (.aload_n 0, 1) := by decide +kernel
theorem dX12_readCarry_25 : decode cX12_readCarry 25 = .ok (.getfield 180, 3) := by decide +kernel
theorem dX12_readCarry_28 : decode cX12_readCarry 28 = .ok (.iconst 1, 1) := by decide +kernel
theorem dX12_readCarry_29 : decode cX12_readCarry 29 = .ok (.isub, 1) := by decide +kernel
theorem dX12_readCarry_30 : decode cX12_readCarry 30 = .ok (.invokevirtual 220, 3) := by decide +kernel
theorem dX12_readCarry_33 : decode cX12_readCarry 33 = .ok (.istore_n 3, 1) := by decide +kernel
theorem dX12_readCarry_34 : decode cX12_readCarry 34 = .ok (.aload_n 0, 1) := by decide +kernel
theorem dX12_readCarry_35 : decode cX12_readCarry 35 = .ok (.invokevirtual 148, 3) := by decide +kernel
theorem dX12_readCarry_38 : decode cX12_readCarry 38 = .ok (.ifCond .eq 14, 3) := by decide +kernel
theorem dX12_readCarry_41 : decode cX12_readCarry 41 = .ok (.iload_n 1, 1) := by decide +kernel
theorem dX12_readCarry_42 : decode cX12_readCarry 42 = .ok (.iload_n 3, 1) := by decide +kernel
theorem dX12_readCarry_43 : decode cX12_readCarry 43 = .ok (.if_icmp .ne 9, 3) := by decide +kernel
theorem dX12_readCarry_46 : decode cX12_readCarry 46 = .ok (.aload_n 0, 1) := by decide +kernel
theorem dX12_readCarry_47 : decode cX12_readCarry 47 = .ok (.iconst 2, 1) := by decide +kernel
theorem dX12_readCarry_48 : decode cX12_readCarry 48 = .ok (.iload_n 2, 1) := by decide +kernel
theorem dX12_readCarry_49 : decode cX12_readCarry 49 = .ok (.invokevirtual 155, 3) := by decide +kernel
theorem dX12_readCarry_52 : decode cX12_readCarry 52 = .ok (.aload_n 0, 1) := by decide +kernel
theorem dX12_readCarry_53 : decode cX12_readCarry 53 = .ok (.iconst 1, 1) := by decide +kernel
theorem dX12_readCarry_54 : decode cX12_readCarry 54 = .ok (.bipush 99, 2) := by decide +kernel
theorem dX12_readCarry_56 : decode cX12_readCarry 56 = .ok (.invokevirtual 220, 3) := by decide +kernel
theorem dX12_readCarry_59 : decode cX12_readCarry 59 = .ok (.istore 4, 2) := by decide +kernel
theorem dX12_readCarry_61 : decode cX12_readCarry 61 = .ok (.aload_n 0, 1) := by decide +kernel
theorem dX12_readCarry_62 : decode cX12_readCarry 62 = .ok (.iconst 0, 1) := by decide +kernel
theorem dX12_readCarry_63 : decode cX12_readCarry 63 = .ok (.iload_n 1, 1) := by decide +kernel
theorem dX12_readCarry_64 : decode cX12_readCarry 64 = .ok (.iload_n 3, 1) := by decide +kernel
theorem dX12_readCarry_65 : decode cX12_readCarry 65 = .ok (.iload 4, 2) := by decide +kernel
theorem dX12_readCarry_67 : decode cX12_readCarry 67 = .ok (.aload_n 0, 1) := by decide +kernel
theorem dX12_readCarry_68 : decode cX12_readCarry 68 = .ok (.iconst 0, 1) := by decide +kernel
theorem dX12_readCarry_69 : decode cX12_readCarry 69 = .ok (.iconst 1, 1) := by decide +kernel
theorem dX12_readCarry_70 : decode cX12_readCarry 70 = .ok (.invokevirtual 220, 3) := by decide +kernel
theorem dX12_readCarry_73 : decode cX12_readCarry 73 = .ok (.invokevirtual 326, 3) := by decide +kernel
theorem dX12_readCarry_76 : decode cX12_readCarry 76 = .ok (.return_, 1) := by decide +kernel
theorem dX12_readStep_0 : decode cX12_readStep 0 = .ok (.aload_n 0, 1) := by decide +kernel
theorem dX12_readStep_1 : decode cX12_readStep 1 = .ok (.invokevirtual 240, 3) := by decide +kernel
theorem dX12_readStep_4 : decode cX12_readStep 4 = .ok (.istore_n 1, 1) := by decide +kernel
theorem dX12_readStep_5 : decode cX12_readStep 5 = .ok (.iload_n 1, 1) := by decide +kernel
theorem dX12_readStep_6 : decode cX12_readStep 6 = .ok (.ldc_w 330, 3) := by decide +kernel
theorem dX12_readStep_9 : decode cX12_readStep 9 = .ok (.invokestatic 216, 3) := by decide +kernel
theorem dX12_readStep_12 : decode cX12_readStep 12 = .ok (.if_icmp .ne 14, 3) := by decide +kernel
theorem dX12_readStep_15 : decode cX12_readStep 15 = .ok (.aload_n 0, 1) := by decide +kernel
theorem dX12_readStep_16 : decode cX12_readStep 16 = .ok (.invokevirtual 248, 3) := by decide +kernel
theorem dX12_readStep_19 : decode cX12_readStep 19 = .ok (.aload_n 0, 1) := by decide +kernel
theorem dX12_readStep_20 : decode cX12_readStep 20 = .ok (.invokevirtual 332, 3) := by decide +kernel
theorem dX12_readStep_23 : decode cX12_readStep 23 = .ok (.goto 266, 3) := by decide +kernel
theorem dX12_readStep_26 : decode cX12_readStep 26 = .ok (.iload_n 1, 1) := by decide +kernel
theorem dX12_readStep_27 : decode cX12_readStep 27 = .ok (.ldc_w 335, 3) := by decide +kernel
theorem dX12_readStep_30 : decode cX12_readStep 30 = .ok (.invokestatic 216, 3) := by decide +kernel
theorem dX12_readStep_33 : decode cX12_readStep 33 = .ok (.if_icmp .ne 29, 3) := by decide +kernel
theorem dX12_readStep_36 : decode cX12_readStep 36 = .ok (.aload_n 0, 1) := by decide +kernel
theorem dX12_readStep_37 : decode cX12_readStep 37 = .ok (.invokevirtual 248, 3) := by decide +kernel
theorem dX12_readStep_40 : decode cX12_readStep 40 = .ok (.aload_n 0, 1) := by decide +kernel
theorem dX12_readStep_41 : decode cX12_readStep 41 = .ok (.iconst 1, 1) := by decide +kernel
theorem dX12_readStep_42 : decode cX12_readStep 42 = .ok (.aload_n 0, 1) := by decide +kernel
theorem dX12_readStep_43 : decode cX12_readStep 43 = .ok (.iconst 0, 1) := by decide +kernel
theorem dX12_readStep_44 : decode cX12_readStep 44 = .ok (.aload_n 0, 1) := by decide +kernel
theorem dX12_readStep_45 : decode cX12_readStep 45 = .ok (.getfield 183, 3) := by decide +kernel
theorem dX12_readStep_48 : decode cX12_readStep 48 = .ok (.iconst 1, 1) := by decide +kernel
theorem dX12_readStep_49 : decode cX12_readStep 49 = .ok (.isub, 1) := by decide +kernel
theorem dX12_readStep_50 : decode cX12_readStep 50 = .ok (.invokevirtual 220, 3) := by decide +kernel
theorem dX12_readStep_53 : decode cX12_readStep 53 = .ok (.iconst 0, 1) := by decide +kernel
theorem dX12_readStep_54 : decode cX12_readStep 54 = .ok (.iconst 0, 1) := by decide +kernel
theorem dX12_readStep_55 : decode cX12_readStep 55 = .ok (.iconst 0, 1) := by decide +kernel
theorem dX12_readStep_56 : decode cX12_readStep 56 = .ok (.invokevirtual 326, 3) := by decide +kernel
theorem dX12_readStep_59 : decode cX12_readStep 59 = .ok (.goto 230, 3) := by decide +kernel
theorem dX12_readStep_62 : decode cX12_readStep 62 = .ok (.iload_n 1, 1) := by decide +kernel
theorem dX12_readStep_63 : decode cX12_readStep 63 = .ok (.ldc_w 337, 3) := by decide +kernel
theorem dX12_readStep_66 : decode cX12_readStep 66 = .ok (.invokestatic 216, 3) := by decide +kernel
theorem dX12_readStep_69 : decode cX12_readStep 69 = .ok (.if_icmp .ne 37, 3) := by decide +kernel
theorem dX12_readStep_72 : decode cX12_readStep 72 = .ok (.aload_n 0, 1) := by decide +kernel
theorem dX12_readStep_73 : decode cX12_readStep 73 = .ok (.invokevirtual 248, 3) := by decide +kernel
theorem dX12_readStep_76 : decode cX12_readStep 76 = .ok (.aload_n 0, 1) := by decide +kernel
theorem dX12_readStep_77 : decode cX12_readStep 77 = .ok (.iconst 0, 1) := by decide +kernel
theorem dX12_readStep_78 : decode cX12_readStep 78 = .ok (.aload_n 0, 1) := by decide +kernel
theorem dX12_readStep_79 : decode cX12_readStep 79 = .ok (.getfield 180, 3) := by decide +kernel
theorem dX12_readStep_82 : decode cX12_readStep 82 = .ok (.iconst 1, 1) := by decide +kernel
theorem dX12_readStep_83 : decode cX12_readStep 83 = .ok (.isub, 1) := by decide +kernel
theorem dX12_readStep_84 : decode cX12_readStep 84 = .ok (.invokevirtual 220, 3) := by decide +kernel
theorem dX12_readStep_87 : decode cX12_readStep 87 = .ok (.istore_n 2, 1) := by decide +kernel
theorem dX12_readStep_88 : decode cX12_readStep 88 = .ok (.aload_n 0, 1) := by decide +kernel
theorem dX12_readStep_89 : decode cX12_readStep 89 = .ok (.iconst 2, 1) := by decide +kernel
theorem dX12_readStep_90 : decode cX12_readStep 90 = .ok (.iload_n 2, 1) := by decide +kernel
theorem dX12_readStep_91 : decode cX12_readStep 91 = .ok (.aload_n 0, 1) := by decide +kernel
theorem dX12_readStep_92 : decode cX12_readStep 92 = .ok (.iconst 1, 1) := by decide +kernel
theorem dX12_readStep_93 : decode cX12_readStep 93 = .ok (.bipush 99, 2) := by decide +kernel
theorem dX12_readStep_95 : decode cX12_readStep 95 = .ok (.invokevirtual 220, 3) := by decide +kernel
theorem dX12_readStep_98 : decode cX12_readStep 98 = .ok (.iconst 0, 1) := by decide +kernel
theorem dX12_readStep_99 : decode cX12_readStep 99 = .ok (.iconst 0, 1) := by decide +kernel
theorem dX12_readStep_100 : decode cX12_readStep 100 = .ok (.invokevirtual 326, 3) := by decide +kernel
theorem dX12_readStep_103 : decode cX12_readStep 103 = .ok (.goto 186, 3) := by decide +kernel
theorem dX12_readStep_106 : decode cX12_readStep 106 = .ok (.iload_n 1, 1) := by decide +kernel
theorem dX12_readStep_107 : decode cX12_readStep 107 = .ok (.ldc_w 339, 3) := by decide +kernel
theorem dX12_readStep_110 : decode cX12_readStep 110 = .ok (.invokestatic 216, 3) := by decide +kernel
theorem dX12_readStep_113 : decode cX12_readStep 113 = .ok (.if_icmp .ne 37, 3) := by decide +kernel
theorem dX12_readStep_116 : decode cX12_readStep 116 = .ok (.aload_n 0, 1) := by decide +kernel
theorem dX12_readStep_117 : decode cX12_readStep 117 = .ok (.invokevirtual 248, 3) := by decide +kernel
theorem dX12_readStep_120 : decode cX12_readStep 120 = .ok (.aload_n 0, 1) := by decide +kernel
theorem dX12_readStep_121 : decode cX12_readStep 121 = .ok (.iconst 0, 1) := by decide +kernel
theorem dX12_readStep_122 : decode cX12_readStep 122 = .ok (.aload_n 0, 1) := by decide +kernel
theorem dX12_readStep_123 : decode cX12_readStep 123 = .ok (.getfield 186, 3) := by decide +kernel
theorem dX12_readStep_126 : decode cX12_readStep 126 = .ok (.iconst 1, 1) := by decide +kernel
theorem dX12_readStep_127 : decode cX12_readStep 127 = .ok (.isub, 1) := by decide +kernel
theorem dX12_readStep_128 : decode cX12_readStep 128 = .ok (.invokevirtual 220, 3) := by decide +kernel
theorem dX12_readStep_131 : decode cX12_readStep 131 = .ok (.istore_n 2, 1) := by decide +kernel
theorem dX12_readStep_132 : decode cX12_readStep 132 = .ok (.aload_n 0, 1) := by decide +kernel
theorem dX12_readStep_133 : decode cX12_readStep 133 = .ok (.iconst 3, 1) := by decide +kernel
theorem dX12_readStep_134 : decode cX12_readStep 134 = .ok (.iload_n 2, 1) := by decide +kernel
theorem dX12_readStep_135 : decode cX12_readStep 135 = .ok (.aload_n 0, 1) := by decide +kernel
theorem dX12_readStep_136 : decode cX12_readStep 136 = .ok (.iconst 1, 1) := by decide +kernel
theorem dX12_readStep_137 : decode cX12_readStep 137 = .ok (.bipush 9, 2) := by decide +kernel
theorem dX12_readStep_139 : decode cX12_readStep 139 = .ok (.invokevirtual 220, 3) := by decide +kernel
theorem dX12_readStep_142 : decode cX12_readStep 142 = .ok (.iconst 0, 1) := by decide +kernel
theorem dX12_readStep_143 : decode cX12_readStep 143 = .ok (.iconst 0, 1) := by decide +kernel
theorem dX12_readStep_144 : decode cX12_readStep 144 = .ok (.invokevirtual 326, 3) := by decide +kernel
theorem dX12_readStep_147 : decode cX12_readStep 147 = .ok (.goto 142, 3) := by decide +kernel
theorem dX12_readStep_150 : decode cX12_readStep 150 = .ok (.iload_n 1, 1) := by decide +kernel
theorem dX12_readStep_151 : decode cX12_readStep 151 = .ok (.ldc_w 289, 3) := by decide +kernel
theorem dX12_readStep_154 : decode cX12_readStep 154 = .ok (.invokestatic 216, 3) := by decide +kernel
theorem dX12_readStep_157 : decode cX12_readStep 157 = .ok (.if_icmp .ne 19, 3) := by decide +kernel
theorem dX12_readStep_160 : decode cX12_readStep 160 = .ok (.aload_n 0, 1) := by decide +kernel
theorem dX12_readStep_161 : decode cX12_readStep 161 = .ok (.invokevirtual 248, 3) := by decide +kernel
theorem dX12_readStep_164 : decode cX12_readStep 164 = .ok (.aload_n 0, 1) := by decide +kernel
theorem dX12_readStep_165 : decode cX12_readStep 165 = .ok (.iconst 4, 1) := by decide +kernel
theorem dX12_readStep_166 : decode cX12_readStep 166 = .ok (.iconst 0, 1) := by decide +kernel
theorem dX12_readStep_167 : decode cX12_readStep 167 = .ok (.iconst 0, 1) := by decide +kernel
theorem dX12_readStep_168 : decode cX12_readStep 168 = .ok (.iconst 0, 1) := by decide +kernel
theorem dX12_readStep_169 : decode cX12_readStep 169 = .ok (.iconst 0, 1) := by decide +kernel
theorem dX12_readStep_170 : decode cX12_readStep 170 = .ok (.invokevirtual 326, 3) := by decide +kernel
theorem dX12_readStep_173 : decode cX12_readStep 173 = .ok (.goto 116, 3) := by decide +kernel
theorem dX12_readStep_176 : decode cX12_readStep 176 = .ok (.iload_n 1, 1) := by decide +kernel
theorem dX12_readStep_177 : decode cX12_readStep 177 = .ok (.ldc_w 341, 3) := by decide +kernel
theorem dX12_readStep_180 : decode cX12_readStep 180 = .ok (.invokestatic 216, 3) := by decide +kernel
theorem dX12_readStep_183 : decode cX12_readStep 183 = .ok (.if_icmp .ne 97, 3) := by decide +kernel
theorem dX12_readStep_186 : decode cX12_readStep 186 = .ok (.aload_n 0, 1) := by decide +kernel
theorem dX12_readStep_187 : decode cX12_readStep 187 = .ok (.iconst 5, 1) := by decide +kernel
theorem dX12_readStep_188 : decode cX12_readStep 188 = .ok (.invokevirtual 273, 3) := by decide +kernel
theorem dX12_readStep_191 : decode cX12_readStep 191 = .ok (.aload_n 0, 1) := by decide +kernel
theorem dX12_readStep_192 : decode cX12_readStep 192 = .ok (.iconst 0, 1) := by decide +kernel
theorem dX12_readStep_193 : decode cX12_readStep 193 = .ok (.bipush 20, 2) := by decide +kernel
theorem dX12_readStep_195 : decode cX12_readStep 195 = .ok (.invokevirtual 220, 3) := by decide +kernel
theorem dX12_readStep_198 : decode cX12_readStep 198 = .ok (.istore_n 2, 1) := by decide +kernel
theorem dX12_readStep_199 : decode cX12_readStep 199 = .ok (.aload_n 0, 1) := by decide +kernel
theorem dX12_readStep_200 : decode cX12_readStep 200 = .ok (.bipush 91, 2) := by decide +kernel
theorem dX12_readStep_202 : decode cX12_readStep 202 = .ok (.invokevirtual 254, 3) := by decide +kernel
theorem dX12_readStep_205 : decode cX12_readStep 205 = .ok (.aload_n 0, 1) := by decide +kernel
theorem dX12_readStep_206 : decode cX12_readStep 206 = .ok (.getfield 323, 3) := by decide +kernel
theorem dX12_readStep_209 : decode cX12_readStep 209 = .ok (.istore_n 3, 1) := by decide +kernel
theorem dX12_readStep_210 : decode cX12_readStep 210 = .ok (.aload_n 0, 1) := by decide +kernel
theorem dX12_readStep_211 : decode cX12_readStep 211 = .ok (.iconst 5, 1) := by decide +kernel
theorem dX12_readStep_212 : decode cX12_readStep 212 = .ok (.iload_n 2, 1) := by decide +kernel
theorem dX12_readStep_213 : decode cX12_readStep 213 = .ok (.iconst 0, 1) := by decide +kernel
theorem dX12_readStep_214 : decode cX12_readStep 214 = .ok (.iconst 0, 1) := by decide +kernel
theorem dX12_readStep_215 : decode cX12_readStep 215 = .ok (.iconst 0, 1) := by decide +kernel
theorem dX12_readStep_216 : decode cX12_readStep 216 = .ok (.invokevirtual 326, 3) := by decide +kernel
theorem dX12_readStep_219 : decode cX12_readStep 219 = .ok (.aload_n 0, 1) := by decide +kernel
theorem dX12_readStep_220 : decode cX12_readStep 220 = .ok (.invokevirtual 148, 3) := by decide +kernel
theorem dX12_readStep_223 : decode cX12_readStep 223 = .ok (.ifCond .eq 19, 3) := by decide +kernel
theorem dX12_readStep_226 : decode cX12_readStep 226 = .ok (.aload_n 0, 1) := by decide +kernel
theorem dX12_readStep_227 : decode cX12_readStep 227 = .ok (.invokevirtual 131, 3) := by decide +kernel
theorem dX12_readStep_230 : decode cX12_readStep 230 = .ok (.bipush 93, 2) := by decide +kernel
theorem dX12_readStep_232 : decode cX12_readStep 232 = .ok (.if_icmp .eq 10, 3) := by decide +kernel
theorem dX12_readStep_235 : decode cX12_readStep 235 = .ok (.aload_n 0, 1) := by decide +kernel
theorem dX12_readStep_236 : decode cX12_readStep 236 = .ok (.invokevirtual 343, 3) := by decide +kernel
theorem dX12_readStep_239 : decode cX12_readStep 239 = .ok (.goto (-20), 3) := by decide +kernel
theorem dX12_readStep_242 : decode cX12_readStep 242 = .ok (.aload_n 0, 1) := by decide +kernel
theorem dX12_readStep_243 : decode cX12_readStep 243 = .ok (.bipush 93, 2) := by decide +kernel
theorem dX12_readStep_245 : decode cX12_readStep 245 = .ok (.invokevirtual 254, 3) := by decide +kernel
theorem dX12_readStep_248 : decode cX12_readStep 248 = .ok (.aload_n 0, 1) := by decide +kernel
theorem dX12_readStep_249 : decode cX12_readStep 249 = .ok (.dup, 1) := by decide +kernel
theorem dX12_readStep_250 : decode cX12_readStep 250 = .ok (.getfield 159, 3) := by decide +kernel
theorem dX12_readStep_253 : decode cX12_readStep 253 = .ok (.iconst 1, 1) := by decide +kernel
theorem dX12_readStep_254 : decode cX12_readStep 254 = .ok (.isub, 1) := by decide +kernel
theorem dX12_readStep_255 : decode cX12_readStep 255 = .ok (.putfield 159, 3) := by decide +kernel
theorem dX12_readStep_258 : decode cX12_readStep 258 = .ok (.aload_n 0, 1) := by decide +kernel
theorem dX12_readStep_259 : decode cX12_readStep 259 = .ok (.invokevirtual 148, 3) := by decide +kernel
theorem dX12_readStep_262 : decode cX12_readStep 262 = .ok (.ifCond .eq 15, 3) := by decide +kernel
theorem dX12_readStep_265 : decode cX12_readStep 265 = .ok (.aload_n 0, 1) := by decide +kernel
theorem dX12_readStep_266 : decode cX12_readStep 266 = .ok (.getfield 68, 3) := by decide +kernel
theorem dX12_readStep_269 : decode cX12_readStep 269 = .ok (.iload_n 3, 1) := by decide +kernel
theorem dX12_readStep_270 : decode cX12_readStep 270 = .ok (.iconst 2, 1) := by decide +kernel
theorem dX12_readStep_271 : decode cX12_readStep 271 = .ok (.iadd, 1) := by decide +kernel
theorem dX12_readStep_272 : decode cX12_readStep 272 = .ok (.aload_n 0, 1) := by decide +kernel
theorem dX12_readStep_273 : decode cX12_readStep 273 = .ok (.getfield 323, 3) := by decide +kernel
theorem dX12_readStep_276 : decode cX12_readStep 276 = .ok (.iastore, 1) := by decide +kernel
theorem dX12_readStep_277 : decode cX12_readStep 277 = .ok (.goto 12, 3) := by decide +kernel
theorem dX12_readStep_280 : decode cX12_readStep 280 = .ok (.aload_n 0, 1) := by decide +kernel
theorem dX12_readStep_281 : decode cX12_readStep 281 = .ok (.iconst 1, 1) := by decide +kernel
theorem dX12_readStep_282 : decode cX12_readStep 282 = .ok (.aload_n 0, 1) := by decide +kernel
theorem dX12_readStep_283 : decode cX12_readStep 283 = .ok (.getfield 125, 3) := by decide +kernel
theorem dX12_readStep_286 : decode cX12_readStep 286 = .ok (.invokevirtual 155, 3) := by decide +kernel
theorem dX12_readStep_289 : decode cX12_readStep 289 = .ok (.aload_n 0, 1) := by decide +kernel
theorem dX12_readStep_290 : decode cX12_readStep 290 = .ok (.bipush 59, 2) := by decide +kernel
theorem dX12_readStep_292 : decode cX12_readStep 292 = .ok (.invokevirtual 254, 3) := by decide +kernel
theorem dX12_readStep_295 : decode cX12_readStep 295 = .ok (.return_, 1) := by decide +kernel
theorem dX12_work_0 : decode cX12_work 0 = .ok (.aload_n 0, 1) := by decide +kernel
theorem dX12_work_1 : decode cX12_work 1 = .ok (.iconst 0, 1) := by decide +kernel
theorem dX12_work_2 : decode cX12_work 2 = .ok (.putfield 3, 3) := by decide +kernel
theorem dX12_work_5 : decode cX12_work 5 = .ok (.aload_n 0, 1) := by decide +kernel
theorem dX12_work_6 : decode cX12_work 6 = .ok (.iload_n 1, 1) := by decide +kernel
theorem dX12_work_7 : decode cX12_work 7 = .ok (.ifCond .lt 22, 3) := by decide +kernel
theorem dX12_work_10 : decode cX12_work 10 = .ok (.iload_n 1, 1) := by decide +kernel
theorem dX12_work_11 : decode cX12_work 11 = .ok (.aload_n 0, 1) := by decide +kernel
theorem dX12_work_12 : decode cX12_work 12 = .ok (.getfield 116, 3) := by decide +kernel
theorem dX12_work_15 : decode cX12_work 15 = .ok (.if_icmp .gt 14, 3) := by decide +kernel
theorem dX12_work_18 : decode cX12_work 18 = .ok (.iload_n 1, 1) := by decide +kernel
theorem dX12_work_19 : decode cX12_work 19 = .ok (.sipush 150, 3) := by decide +kernel
theorem dX12_work_22 : decode cX12_work 22 = .ok (.if_icmp .gt 7, 3) := by decide +kernel
theorem dX12_work_25 : decode cX12_work 25 = .ok (.iconst 1, 1) := by decide +kernel
theorem dX12_work_26 : decode cX12_work 26 = .ok (.goto 4, 3) := by decide +kernel
theorem dX12_work_29 : decode cX12_work 29 = .ok (.iconst 0, 1) := by decide +kernel
theorem dX12_work_30 : decode cX12_work 30 = .ok (.iconst 1, 1) := by decide +kernel
theorem dX12_work_31 : decode cX12_work 31 = .ok (.iconst 1, 1) := by decide +kernel
theorem dX12_work_32 : decode cX12_work 32 = .ok (.invokevirtual 229, 3) := by decide +kernel
theorem dX12_work_35 : decode cX12_work 35 = .ok (.ifCond .ne 5, 3) := by decide +kernel
theorem dX12_work_38 : decode cX12_work 38 = .ok (.iconst 0, 1) := by decide +kernel
theorem dX12_work_39 : decode cX12_work 39 = .ok (.ireturn, 1) := by decide +kernel
theorem dX12_work_40 : decode cX12_work 40 = .ok (.aload_n 0, 1) := by decide +kernel
theorem dX12_work_41 : decode cX12_work 41 = .ok (.iload_n 1, 1) := by decide +kernel
theorem dX12_work_42 : decode cX12_work 42 = .ok (.invokevirtual 233, 3) := by decide +kernel
theorem dX12_work_45 : decode cX12_work 45 = .ok (.aload_n 0, 1) := by decide +kernel
theorem dX12_work_46 : decode cX12_work 46 = .ok (.getfield 205, 3) := by decide +kernel
theorem dX12_work_49 : decode cX12_work 49 = .ok (.bipush 16, 2) := by decide +kernel
theorem dX12_work_51 : decode cX12_work 51 = .ok (.if_icmp .ne 12, 3) := by decide +kernel
theorem dX12_work_54 : decode cX12_work 54 = .ok (.aload_n 0, 1) := by decide +kernel
theorem dX12_work_55 : decode cX12_work 55 = .ok (.iconst 0, 1) := by decide +kernel
theorem dX12_work_56 : decode cX12_work 56 = .ok (.invokevirtual 257, 3) := by decide +kernel
theorem dX12_work_59 : decode cX12_work 59 = .ok (.pop, 1) := by decide +kernel
theorem dX12_work_60 : decode cX12_work 60 = .ok (.bipush (-20), 2) := by decide +kernel
theorem dX12_work_62 : decode cX12_work 62 = .ok (.ireturn, 1) := by decide +kernel
theorem dX12_work_63 : decode cX12_work 63 = .ok (.aload_n 0, 1) := by decide +kernel
theorem dX12_work_64 : decode cX12_work 64 = .ok (.iconst 0, 1) := by decide +kernel
theorem dX12_work_65 : decode cX12_work 65 = .ok (.putfield 323, 3) := by decide +kernel
theorem dX12_work_68 : decode cX12_work 68 = .ok (.aload_n 0, 1) := by decide +kernel
theorem dX12_work_69 : decode cX12_work 69 = .ok (.invokevirtual 148, 3) := by decide +kernel
theorem dX12_work_72 : decode cX12_work 72 = .ok (.ifCond .eq 17, 3) := by decide +kernel
theorem dX12_work_75 : decode cX12_work 75 = .ok (.aload_n 0, 1) := by decide +kernel
theorem dX12_work_76 : decode cX12_work 76 = .ok (.invokevirtual 237, 3) := by decide +kernel
theorem dX12_work_79 : decode cX12_work 79 = .ok (.ifCond .eq 10, 3) := by decide +kernel
theorem dX12_work_82 : decode cX12_work 82 = .ok (.aload_n 0, 1) := by decide +kernel
theorem dX12_work_83 : decode cX12_work 83 = .ok (.invokevirtual 343, 3) := by decide +kernel
theorem dX12_work_86 : decode cX12_work 86 = .ok (.goto (-18), 3) := by decide +kernel
theorem dX12_work_89 : decode cX12_work 89 = .ok (.aload_n 0, 1) := by decide +kernel
theorem dX12_work_90 : decode cX12_work 90 = .ok (.iconst 0, 1) := by decide +kernel
theorem dX12_work_91 : decode cX12_work 91 = .ok (.invokevirtual 257, 3) := by decide +kernel
theorem dX12_work_94 : decode cX12_work 94 = .ok (.istore_n 2, 1) := by decide +kernel
theorem dX12_work_95 : decode cX12_work 95 = .ok (.aload_n 0, 1) := by decide +kernel
theorem dX12_work_96 : decode cX12_work 96 = .ok (.getfield 119, 3) := by decide +kernel
theorem dX12_work_99 : decode cX12_work 99 = .ok (.iconst (-1), 1) := by decide +kernel
theorem dX12_work_100 : decode cX12_work 100 = .ok (.if_icmp .eq 5, 3) := by decide +kernel
theorem dX12_work_103 : decode cX12_work 103 = .ok (.iload_n 2, 1) := by decide +kernel
theorem dX12_work_104 : decode cX12_work 104 = .ok (.ireturn, 1) := by decide +kernel
theorem dX12_work_105 : decode cX12_work 105 = .ok (.aload_n 0, 1) := by decide +kernel
theorem dX12_work_106 : decode cX12_work 106 = .ok (.aload_n 0, 1) := by decide +kernel
theorem dX12_work_107 : decode cX12_work 107 = .ok (.getfield 68, 3) := by decide +kernel
theorem dX12_work_110 : decode cX12_work 110 = .ok (.aload_n 0, 1) := by decide +kernel
theorem dX12_work_111 : decode cX12_work 111 = .ok (.getfield 71, 3) := by decide +kernel
theorem dX12_work_114 : decode cX12_work 114 = .ok (.aload_n 0, 1) := by decide +kernel
theorem dX12_work_115 : decode cX12_work 115 = .ok (.getfield 323, 3) := by decide +kernel
theorem dX12_work_118 : decode cX12_work 118 = .ok (.invokevirtual 198, 3) := by decide +kernel
theorem dX12_work_121 : decode cX12_work 121 = .ok (.iconst 0, 1) := by decide +kernel
theorem dX12_work_122 : decode cX12_work 122 = .ok (.istore_n 3, 1) := by decide +kernel
theorem dX12_work_123 : decode cX12_work 123 = .ok (.iload_n 3, 1) := by decide +kernel
theorem dX12_work_124 : decode cX12_work 124 = .ok (.bipush 50, 2) := by decide +kernel
theorem dX12_work_126 : decode cX12_work 126 = .ok (.if_icmp .ge 29, 3) := by decide +kernel
theorem dX12_work_129 : decode cX12_work 129 = .ok (.aload_n 0, 1) := by decide +kernel
theorem dX12_work_130 : decode cX12_work 130 = .ok (.getfield 80, 3) := by decide +kernel
theorem dX12_work_133 : decode cX12_work 133 = .ok (.bipush 50, 2) := by decide +kernel
theorem dX12_work_135 : decode cX12_work 135 = .ok (.aload_n 0, 1) := by decide +kernel
theorem dX12_work_136 : decode cX12_work 136 = .ok (.getfield 205, 3) := by decide +kernel
theorem dX12_work_139 : decode cX12_work 139 = .ok (.imul, 1) := by decide +kernel
theorem dX12_work_140 : decode cX12_work 140 = .ok (.iload_n 3, 1) := by decide +kernel
theorem dX12_work_141 : decode cX12_work 141 = .ok (.iadd, 1) := by decide +kernel
theorem dX12_work_142 : decode cX12_work 142 = .ok (.aload_n 0, 1) := by decide +kernel
theorem dX12_work_143 : decode cX12_work 143 = .ok (.getfield 74, 3) := by decide +kernel
theorem dX12_work_146 : decode cX12_work 146 = .ok (.iload_n 3, 1) := by decide +kernel
theorem dX12_work_147 : decode cX12_work 147 = .ok (.iaload, 1) := by decide +kernel
theorem dX12_work_148 : decode cX12_work 148 = .ok (.iastore, 1) := by decide +kernel
theorem dX12_work_149 : decode cX12_work 149 = .ok (.iinc 3 1, 3) := by decide +kernel
theorem dX12_work_152 : decode cX12_work 152 = .ok (.goto (-29), 3) := by decide +kernel
theorem dX12_work_155 : decode cX12_work 155 = .ok (.aload_n 0, 1) := by decide +kernel
theorem dX12_work_156 : decode cX12_work 156 = .ok (.dup, 1) := by decide +kernel
theorem dX12_work_157 : decode cX12_work 157 = .ok (.getfield 205, 3) := by decide +kernel
theorem dX12_work_160 : decode cX12_work 160 = .ok (.iconst 1, 1) := by decide +kernel
theorem dX12_work_161 : decode cX12_work 161 = .ok (.iadd, 1) := by decide +kernel
theorem dX12_work_162 : decode cX12_work 162 = .ok (.putfield 205, 3) := by decide +kernel
theorem dX12_work_165 : decode cX12_work 165 = .ok (.aload_n 0, 1) := by decide +kernel
theorem dX12_work_166 : decode cX12_work 166 = .ok (.aload_n 0, 1) := by decide +kernel
theorem dX12_work_167 : decode cX12_work 167 = .ok (.getfield 74, 3) := by decide +kernel
theorem dX12_work_170 : decode cX12_work 170 = .ok (.aload_n 0, 1) := by decide +kernel
theorem dX12_work_171 : decode cX12_work 171 = .ok (.getfield 77, 3) := by decide +kernel
theorem dX12_work_174 : decode cX12_work 174 = .ok (.bipush 50, 2) := by decide +kernel
theorem dX12_work_176 : decode cX12_work 176 = .ok (.invokevirtual 198, 3) := by decide +kernel
theorem dX12_work_179 : decode cX12_work 179 = .ok (.aload_n 0, 1) := by decide +kernel
theorem dX12_work_180 : decode cX12_work 180 = .ok (.iconst 0, 1) := by decide +kernel
theorem dX12_work_181 : decode cX12_work 181 = .ok (.putfield 346, 3) := by decide +kernel
theorem dX12_work_184 : decode cX12_work 184 = .ok (.aload_n 0, 1) := by decide +kernel
theorem dX12_work_185 : decode cX12_work 185 = .ok (.iconst 0, 1) := by decide +kernel
theorem dX12_work_186 : decode cX12_work 186 = .ok (.putfield 349, 3) := by decide +kernel
theorem dX12_work_189 : decode cX12_work 189 = .ok (.aload_n 0, 1) := by decide +kernel
theorem dX12_work_190 : decode cX12_work 190 = .ok (.iconst 0, 1) := by decide +kernel
theorem dX12_work_191 : decode cX12_work 191 = .ok (.putfield 352, 3) := by decide +kernel
theorem dX12_work_194 : decode cX12_work 194 = .ok (.aload_n 0, 1) := by decide +kernel
theorem dX12_work_195 : decode cX12_work 195 = .ok (.iconst 0, 1) := by decide +kernel
theorem dX12_work_196 : decode cX12_work 196 = .ok (.aload_n 0, 1) := by decide +kernel
theorem dX12_work_197 : decode cX12_work 197 = .ok (.getfield 323, 3) := by decide +kernel
theorem dX12_work_200 : decode cX12_work 200 = .ok (.invokevirtual 355, 3) := by decide +kernel
theorem dX12_work_203 : decode cX12_work 203 = .ok (.aload_n 0, 1) := by decide +kernel
theorem dX12_work_204 : decode cX12_work 204 = .ok (.aload_n 0, 1) := by decide +kernel
theorem dX12_work_205 : decode cX12_work 205 = .ok (.getfield 77, 3) := by decide +kernel
theorem dX12_work_208 : decode cX12_work 208 = .ok (.aload_n 0, 1) := by decide +kernel
theorem dX12_work_209 : decode cX12_work 209 = .ok (.getfield 74, 3) := by decide +kernel
theorem dX12_work_212 : decode cX12_work 212 = .ok (.bipush 50, 2) := by decide +kernel
theorem dX12_work_214 : decode cX12_work 214 = .ok (.invokevirtual 198, 3) := by decide +kernel
theorem dX12_work_217 : decode cX12_work 217 = .ok (.aload_n 0, 1) := by decide +kernel
theorem dX12_work_218 : decode cX12_work 218 = .ok (.aload_n 0, 1) := by decide +kernel
theorem dX12_work_219 : decode cX12_work 219 = .ok (.getfield 352, 3) := by decide +kernel
theorem dX12_work_222 : decode cX12_work 222 = .ok (.putfield 211, 3) := by decide +kernel
theorem dX12_work_225 : decode cX12_work 225 = .ok (.aload_n 0, 1) := by decide +kernel
theorem dX12_work_226 : decode cX12_work 226 = .ok (.getfield 349, 3) := by decide +kernel
theorem dX12_work_229 : decode cX12_work 229 = .ok (.ireturn, 1) := by decide +kernel
theorem dX12_goesSteps_0 : decode cX12_goesSteps 0 = .ok (.iload_n 1, 1) := by decide +kernel
theorem dX12_goesSteps_1 : decode cX12_goesSteps 1 = .ok (.istore_n 3, 1) := by decide +kernel
theorem dX12_goesSteps_2 : decode cX12_goesSteps 2 = .ok (.iload_n 3, 1) := by decide +kernel
theorem dX12_goesSteps_3 : decode cX12_goesSteps 3 = .ok (.iload_n 2, 1) := by decide +kernel
theorem dX12_goesSteps_4 : decode cX12_goesSteps 4 = .ok (.if_icmp .ge 127, 3) := by decide +kernel
theorem dX12_goesSteps_7 : decode cX12_goesSteps 7 = .ok (.aload_n 0, 1) := by decide +kernel
theorem dX12_goesSteps_8 : decode cX12_goesSteps 8 = .ok (.getfield 346, 3) := by decide +kernel
theorem dX12_goesSteps_11 : decode cX12_goesSteps 11 = .ok (.sipush 200, 3) := by decide +kernel
theorem dX12_goesSteps_14 : decode cX12_goesSteps 14 = .ok (.if_icmp .ge 117, 3) := by decide +kernel
theorem dX12_goesSteps_17 : decode cX12_goesSteps 17 = .ok (.aload_n 0, 1) := by decide +kernel
theorem dX12_goesSteps_18 : decode cX12_goesSteps 18 = .ok (.dup, 1) := by decide +kernel
theorem dX12_goesSteps_19 : decode cX12_goesSteps 19 = .ok (.getfield 346, 3) := by decide +kernel
theorem dX12_goesSteps_22 : decode cX12_goesSteps 22 = .ok (.iconst 1, 1) := by decide +kernel
theorem dX12_goesSteps_23 : decode cX12_goesSteps 23 = .ok (.iadd, 1) := by decide +kernel
theorem dX12_goesSteps_24 : decode cX12_goesSteps 24 = .ok (.putfield 346, 3) := by decide +kernel
theorem dX12_goesSteps_27 : decode cX12_goesSteps 27 = .ok (.aload_n 0, 1) := by decide +kernel
theorem dX12_goesSteps_28 : decode cX12_goesSteps 28 = .ok (.getfield 71, 3) := by decide +kernel
theorem dX12_goesSteps_31 : decode cX12_goesSteps 31 = .ok (.iload_n 3, 1) := by decide +kernel
theorem dX12_goesSteps_32 : decode cX12_goesSteps 32 = .ok (.iaload, 1) := by decide +kernel
theorem dX12_goesSteps_33 : decode cX12_goesSteps 33 = .ok (.iconst 5, 1) := by decide +kernel
theorem dX12_goesSteps_34 : decode cX12_goesSteps 34 = .ok (.if_icmp .ne 60, 3) := by decide +kernel
theorem dX12_goesSteps_37 : decode cX12_goesSteps 37 = .ok (.aload_n 0, 1) := by decide +kernel
theorem dX12_goesSteps_38 : decode cX12_goesSteps 38 = .ok (.getfield 71, 3) := by decide +kernel
theorem dX12_goesSteps_41 : decode cX12_goesSteps 41 = .ok (.iload_n 3, 1) := by decide +kernel
theorem dX12_goesSteps_42 : decode cX12_goesSteps 42 = .ok (.iconst 2, 1) := by decide +kernel
theorem dX12_goesSteps_43 : decode cX12_goesSteps 43 = .ok (.iadd, 1) := by decide +kernel
theorem dX12_goesSteps_44 : decode cX12_goesSteps 44 = .ok (.iaload, 1) := by decide +kernel
theorem dX12_goesSteps_45 : decode cX12_goesSteps 45 = .ok (.istore 4, 2) := by decide +kernel
theorem dX12_goesSteps_47 : decode cX12_goesSteps 47 = .ok (.iconst 0, 1) := by decide +kernel
theorem dX12_goesSteps_48 : decode cX12_goesSteps 48 = .ok (.istore 5, 2) := by decide +kernel
theorem dX12_goesSteps_50 : decode cX12_goesSteps 50 = .ok (.iload 5, 2) := by decide +kernel
theorem dX12_goesSteps_52 : decode cX12_goesSteps 52 = .ok (.aload_n 0, 1) := by decide +kernel
theorem dX12_goesSteps_53 : decode cX12_goesSteps 53 = .ok (.getfield 71, 3) := by decide +kernel
theorem dX12_goesSteps_56 : decode cX12_goesSteps 56 = .ok (.iload_n 3, 1) := by decide +kernel
theorem dX12_goesSteps_57 : decode cX12_goesSteps 57 = .ok (.iconst 1, 1) := by decide +kernel
theorem dX12_goesSteps_58 : decode cX12_goesSteps 58 = .ok (.iadd, 1) := by decide +kernel
theorem dX12_goesSteps_59 : decode cX12_goesSteps 59 = .ok (.iaload, 1) := by decide +kernel
theorem dX12_goesSteps_60 : decode cX12_goesSteps 60 = .ok (.if_icmp .ge 28, 3) := by decide +kernel
theorem dX12_goesSteps_63 : decode cX12_goesSteps 63 = .ok (.aload_n 0, 1) := by decide +kernel
theorem dX12_goesSteps_64 : decode cX12_goesSteps 64 = .ok (.getfield 346, 3) := by decide +kernel
theorem dX12_goesSteps_67 : decode cX12_goesSteps 67 = .ok (.sipush 200, 3) := by decide +kernel
theorem dX12_goesSteps_70 : decode cX12_goesSteps 70 = .ok (.if_icmp .ge 18, 3) := by decide +kernel
theorem dX12_goesSteps_73 : decode cX12_goesSteps 73 = .ok (.aload_n 0, 1) := by decide +kernel
theorem dX12_goesSteps_74 : decode cX12_goesSteps 74 = .ok (.iload_n 3, 1) := by decide +kernel
theorem dX12_goesSteps_75 : decode cX12_goesSteps 75 = .ok (.iconst 5, 1) := by decide +kernel
theorem dX12_goesSteps_76 : decode cX12_goesSteps 76 = .ok (.iadd, 1) := by decide +kernel
theorem dX12_goesSteps_77 : decode cX12_goesSteps 77 = .ok (.iload 4, 2) := by decide +kernel
theorem dX12_goesSteps_79 : decode cX12_goesSteps 79 = .ok (.invokevirtual 355, 3) := by decide +kernel
theorem dX12_goesSteps_82 : decode cX12_goesSteps 82 = .ok (.iinc 5 1, 3) := by decide +kernel
theorem dX12_goesSteps_85 : decode cX12_goesSteps 85 = .ok (.goto (-35), 3) := by decide +kernel
theorem dX12_goesSteps_88 : decode cX12_goesSteps 88 = .ok (.iload 4, 2) := by decide +kernel
theorem dX12_goesSteps_90 : decode cX12_goesSteps 90 = .ok (.istore_n 3, 1) := by decide +kernel
theorem dX12_goesSteps_91 : decode cX12_goesSteps 91 = .ok (.goto (-89), 3) := by decide +kernel
theorem dX12_goesSteps_94 : decode cX12_goesSteps 94 = .ok (.aload_n 0, 1) := by decide +kernel
theorem dX12_goesSteps_95 : decode cX12_goesSteps 95 = .ok (.iload_n 3, 1) := by decide +kernel
theorem dX12_goesSteps_96 : decode cX12_goesSteps 96 = .ok (.invokevirtual 358, 3) := by decide +kernel
theorem dX12_goesSteps_99 : decode cX12_goesSteps 99 = .ok (.ifCond .eq 16, 3) := by decide +kernel
theorem dX12_goesSteps_102 : decode cX12_goesSteps 102 = .ok (.aload_n 0, 1) := by decide +kernel
theorem dX12_goesSteps_103 : decode cX12_goesSteps 103 = .ok (.dup, 1) := by decide +kernel
theorem dX12_goesSteps_104 : decode cX12_goesSteps 104 = .ok (.getfield 349, 3) := by decide +kernel
theorem dX12_goesSteps_107 : decode cX12_goesSteps 107 = .ok (.iconst 1, 1) := by decide +kernel
theorem dX12_goesSteps_108 : decode cX12_goesSteps 108 = .ok (.iadd, 1) := by decide +kernel
theorem dX12_goesSteps_109 : decode cX12_goesSteps 109 = .ok (.putfield 349, 3) := by decide +kernel
theorem dX12_goesSteps_112 : decode cX12_goesSteps 112 = .ok (.goto 13, 3) := by decide +kernel
theorem dX12_goesSteps_115 : decode cX12_goesSteps 115 = .ok (.aload_n 0, 1) := by decide +kernel
theorem dX12_goesSteps_116 : decode cX12_goesSteps 116 = .ok (.dup, 1) := by decide +kernel
theorem dX12_goesSteps_117 : decode cX12_goesSteps 117 = .ok (.getfield 352, 3) := by decide +kernel
theorem dX12_goesSteps_120 : decode cX12_goesSteps 120 = .ok (.iconst 1, 1) := by decide +kernel
theorem dX12_goesSteps_121 : decode cX12_goesSteps 121 = .ok (.iadd, 1) := by decide +kernel
theorem dX12_goesSteps_122 : decode cX12_goesSteps 122 = .ok (.putfield 352, 3) := by decide +kernel
theorem dX12_goesSteps_125 : decode cX12_goesSteps 125 = .ok (.iinc 3 5, 3) := by decide +kernel
theorem dX12_goesSteps_128 : decode cX12_goesSteps 128 = .ok (.goto (-126), 3) := by decide +kernel
theorem dX12_goesSteps_131 : decode cX12_goesSteps 131 = .ok (.return_, 1) := by decide +kernel
theorem dX12_adds_0 : decode cX12_adds 0 = .ok (.aload_n 0, 1) := by decide +kernel
theorem dX12_adds_1 : decode cX12_adds 1 = .ok (.getfield 77, 3) := by decide +kernel
theorem dX12_adds_4 : decode cX12_adds 4 = .ok (.iload_n 1, 1) := by decide +kernel
theorem dX12_adds_5 : decode cX12_adds 5 = .ok (.aload_n 0, 1) := by decide +kernel
theorem dX12_adds_6 : decode cX12_adds 6 = .ok (.getfield 77, 3) := by decide +kernel
theorem dX12_adds_9 : decode cX12_adds 9 = .ok (.iload_n 1, 1) := by decide +kernel
theorem dX12_adds_10 : decode cX12_adds 10 = .ok (.iaload, 1) := by decide +kernel
theorem dX12_adds_11 : decode cX12_adds 11 = .ok (.iload_n 2, 1) := by decide +kernel
theorem dX12_adds_12 : decode cX12_adds 12 = .ok (.iadd, 1) := by decide +kernel
theorem dX12_adds_13 : decode cX12_adds 13 = .ok (.sipush 999, 3) := by decide +kernel
theorem dX12_adds_16 : decode cX12_adds 16 = .ok (.if_icmp .le 9, 3) := by decide +kernel
theorem dX12_adds_19 : decode cX12_adds 19 = .ok (.sipush 999, 3) := by decide +kernel
theorem dX12_adds_22 : decode cX12_adds 22 = .ok (.goto 11, 3) := by decide +kernel
theorem dX12_adds_25 : decode cX12_adds 25 = .ok (.aload_n 0, 1) := by decide +kernel
theorem dX12_adds_26 : decode cX12_adds 26 = .ok (.getfield 77, 3) := by decide +kernel
theorem dX12_adds_29 : decode cX12_adds 29 = .ok (.iload_n 1, 1) := by decide +kernel
theorem dX12_adds_30 : decode cX12_adds 30 = .ok (.iaload, 1) := by decide +kernel
theorem dX12_adds_31 : decode cX12_adds 31 = .ok (.iload_n 2, 1) := by decide +kernel
theorem dX12_adds_32 : decode cX12_adds 32 = .ok (.iadd, 1) := by decide +kernel
theorem dX12_adds_33 : decode cX12_adds 33 = .ok (.iastore, 1) := by decide +kernel
theorem dX12_adds_34 : decode cX12_adds 34 = .ok (.return_, 1) := by decide +kernel
theorem dX12_isOpenMine_0 : decode cX12_isOpenMine 0 = .ok (.aload_n 0, 1) := by decide +kernel
theorem dX12_isOpenMine_1 : decode cX12_isOpenMine 1 = .ok (.getfield 77, 3) := by decide +kernel
theorem dX12_isOpenMine_4 : decode cX12_isOpenMine 4 = .ok (.bipush 48, 2) := by decide +kernel
theorem dX12_isOpenMine_6 : decode cX12_isOpenMine 6 = .ok (.iaload, 1) := by decide +kernel
theorem dX12_isOpenMine_7 : decode cX12_isOpenMine 7 = .ok (.bipush 12, 2) := by decide +kernel
theorem dX12_isOpenMine_9 : decode cX12_isOpenMine 9 = .ok (.irem, 1) := by decide +kernel
theorem dX12_isOpenMine_10 : decode cX12_isOpenMine 10 = .ok (.aload_n 0, 1) := by decide +kernel
theorem dX12_isOpenMine_11 : decode cX12_isOpenMine 11 = .ok (.getfield 41, 3) := by decide +kernel
theorem dX12_isOpenMine_14 : decode cX12_isOpenMine 14 = .ok (.iconst 3, 1) := by decide +kernel
theorem dX12_isOpenMine_15 : decode cX12_isOpenMine 15 = .ok (.iload_n 1, 1) := by decide +kernel
theorem dX12_isOpenMine_16 : decode cX12_isOpenMine 16 = .ok (.imul, 1) := by decide +kernel
theorem dX12_isOpenMine_17 : decode cX12_isOpenMine 17 = .ok (.iconst 2, 1) := by decide +kernel
theorem dX12_isOpenMine_18 : decode cX12_isOpenMine 18 = .ok (.iadd, 1) := by decide +kernel
theorem dX12_isOpenMine_19 : decode cX12_isOpenMine 19 = .ok (.iaload, 1) := by decide +kernel
theorem dX12_isOpenMine_20 : decode cX12_isOpenMine 20 = .ok (.if_icmp .lt 7, 3) := by decide +kernel
theorem dX12_isOpenMine_23 : decode cX12_isOpenMine 23 = .ok (.iconst 1, 1) := by decide +kernel
theorem dX12_isOpenMine_24 : decode cX12_isOpenMine 24 = .ok (.goto 4, 3) := by decide +kernel
theorem dX12_isOpenMine_27 : decode cX12_isOpenMine 27 = .ok (.iconst 0, 1) := by decide +kernel
theorem dX12_isOpenMine_28 : decode cX12_isOpenMine 28 = .ok (.ireturn, 1) := by decide +kernel
theorem dX12_canSell_0 : decode cX12_canSell 0 = .ok (.aload_n 0, 1) := by decide +kernel
theorem dX12_canSell_1 : decode cX12_canSell 1 = .ok (.getfield 77, 3) := by decide +kernel
theorem dX12_canSell_4 : decode cX12_canSell 4 = .ok (.bipush 18, 2) := by decide +kernel
theorem dX12_canSell_6 : decode cX12_canSell 6 = .ok (.iload_n 1, 1) := by decide +kernel
theorem dX12_canSell_7 : decode cX12_canSell 7 = .ok (.iadd, 1) := by decide +kernel
theorem dX12_canSell_8 : decode cX12_canSell 8 = .ok (.iaload, 1) := by decide +kernel
theorem dX12_canSell_9 : decode cX12_canSell 9 = .ok (.ifCond .ne 5, 3) := by decide +kernel
theorem dX12_canSell_12 : decode cX12_canSell 12 = .ok (.iconst 0, 1) := by decide +kernel
theorem dX12_canSell_13 : decode cX12_canSell 13 = .ok (.ireturn, 1) := by decide +kernel
theorem dX12_canSell_14 : decode cX12_canSell 14 = .ok (.aload_n 0, 1) := by decide +kernel
theorem dX12_canSell_15 : decode cX12_canSell 15 = .ok (.getfield 38, 3) := by decide +kernel
theorem dX12_canSell_18 : decode cX12_canSell 18 = .ok (.iconst 4, 1) := by decide +kernel
theorem dX12_canSell_19 : decode cX12_canSell 19 = .ok (.iload_n 1, 1) := by decide +kernel
theorem dX12_canSell_20 : decode cX12_canSell 20 = .ok (.imul, 1) := by decide +kernel
theorem dX12_canSell_21 : decode cX12_canSell 21 = .ok (.iaload, 1) := by decide +kernel
theorem dX12_canSell_22 : decode cX12_canSell 22 = .ok (.istore_n 2, 1) := by decide +kernel
theorem dX12_canSell_23 : decode cX12_canSell 23 = .ok (.aload_n 0, 1) := by decide +kernel
theorem dX12_canSell_24 : decode cX12_canSell 24 = .ok (.getfield 77, 3) := by decide +kernel
theorem dX12_canSell_27 : decode cX12_canSell 27 = .ok (.iconst 0, 1) := by decide +kernel
theorem dX12_canSell_28 : decode cX12_canSell 28 = .ok (.iload_n 2, 1) := by decide +kernel
theorem dX12_canSell_29 : decode cX12_canSell 29 = .ok (.iadd, 1) := by decide +kernel
theorem dX12_canSell_30 : decode cX12_canSell 30 = .ok (.iaload, 1) := by decide +kernel
theorem dX12_canSell_31 : decode cX12_canSell 31 = .ok (.aload_n 0, 1) := by decide +kernel
theorem dX12_canSell_32 : decode cX12_canSell 32 = .ok (.getfield 38, 3) := by decide +kernel
theorem dX12_canSell_35 : decode cX12_canSell 35 = .ok (.iconst 4, 1) := by decide +kernel
theorem dX12_canSell_36 : decode cX12_canSell 36 = .ok (.iload_n 1, 1) := by decide +kernel
theorem dX12_canSell_37 : decode cX12_canSell 37 = .ok (.imul, 1) := by decide +kernel
theorem dX12_canSell_38 : decode cX12_canSell 38 = .ok (.iconst 2, 1) := by decide +kernel
theorem dX12_canSell_39 : decode cX12_canSell 39 = .ok (.iadd, 1) := by decide +kernel
theorem dX12_canSell_40 : decode cX12_canSell 40 = .ok (.iaload, 1) := by decide +kernel
theorem dX12_canSell_41 : decode cX12_canSell 41 = .ok (.iconst 1, 1) := by decide +kernel
theorem dX12_canSell_42 : decode cX12_canSell 42 = .ok (.if_icmp .ne 7, 3) := by decide +kernel
theorem dX12_canSell_45 : decode cX12_canSell 45 = .ok (.iconst 0, 1) := by decide +kernel
theorem dX12_canSell_46 : decode cX12_canSell 46 = .ok (.goto 12, 3) := by decide +kernel
theorem dX12_canSell_49 : decode cX12_canSell 49 = .ok (.aload_n 0, 1) := by decide +kernel
theorem dX12_canSell_50 : decode cX12_canSell 50 = .ok (.getfield 77, 3) := by decide +kernel
theorem dX12_canSell_53 : decode cX12_canSell 53 = .ok (.bipush 6, 2) := by decide +kernel
theorem dX12_canSell_55 : decode cX12_canSell 55 = .ok (.iload_n 2, 1) := by decide +kernel
theorem dX12_canSell_56 : decode cX12_canSell 56 = .ok (.iadd, 1) := by decide +kernel
theorem dX12_canSell_57 : decode cX12_canSell 57 = .ok (.iaload, 1) := by decide +kernel
theorem dX12_canSell_58 : decode cX12_canSell 58 = .ok (.iadd, 1) := by decide +kernel
theorem dX12_canSell_59 : decode cX12_canSell 59 = .ok (.aload_n 0, 1) := by decide +kernel
theorem dX12_canSell_60 : decode cX12_canSell 60 = .ok (.getfield 38, 3) := by decide +kernel
theorem dX12_canSell_63 : decode cX12_canSell 63 = .ok (.iconst 4, 1) := by decide +kernel
theorem dX12_canSell_64 : decode cX12_canSell 64 = .ok (.iload_n 1, 1) := by decide +kernel
theorem dX12_canSell_65 : decode cX12_canSell 65 = .ok (.imul, 1) := by decide +kernel
theorem dX12_canSell_66 : decode cX12_canSell 66 = .ok (.iconst 1, 1) := by decide +kernel
theorem dX12_canSell_67 : decode cX12_canSell 67 = .ok (.iadd, 1) := by decide +kernel
theorem dX12_canSell_68 : decode cX12_canSell 68 = .ok (.iaload, 1) := by decide +kernel
theorem dX12_canSell_69 : decode cX12_canSell 69 = .ok (.if_icmp .lt 7, 3) := by decide +kernel
theorem dX12_canSell_72 : decode cX12_canSell 72 = .ok (.iconst 1, 1) := by decide +kernel
theorem dX12_canSell_73 : decode cX12_canSell 73 = .ok (.goto 4, 3) := by decide +kernel
theorem dX12_canSell_76 : decode cX12_canSell 76 = .ok (.iconst 0, 1) := by decide +kernel
theorem dX12_canSell_77 : decode cX12_canSell 77 = .ok (.ireturn, 1) := by decide +kernel
theorem dX12_sells_0 : decode cX12_sells 0 = .ok (.aload_n 0, 1) := by decide +kernel
theorem dX12_sells_1 : decode cX12_sells 1 = .ok (.iload_n 1, 1) := by decide +kernel
theorem dX12_sells_2 : decode cX12_sells 2 = .ok (.invokevirtual 361, 3) := by decide +kernel
theorem dX12_sells_5 : decode cX12_sells 5 = .ok (.ifCond .ne 5, 3) := by decide +kernel
theorem dX12_sells_8 : decode cX12_sells 8 = .ok (.iconst 0, 1) := by decide +kernel
theorem dX12_sells_9 : decode cX12_sells 9 = .ok (.ireturn, 1) := by decide +kernel
theorem dX12_sells_10 : decode cX12_sells 10 = .ok (.aload_n 0, 1) := by decide +kernel
theorem dX12_sells_11 : decode cX12_sells 11 = .ok (.getfield 38, 3) := by decide +kernel
theorem dX12_sells_14 : decode cX12_sells 14 = .ok (.iconst 4, 1) := by decide +kernel
theorem dX12_sells_15 : decode cX12_sells 15 = .ok (.iload_n 1, 1) := by decide +kernel
theorem dX12_sells_16 : decode cX12_sells 16 = .ok (.imul, 1) := by decide +kernel
theorem dX12_sells_17 : decode cX12_sells 17 = .ok (.iaload, 1) := by decide +kernel
theorem dX12_sells_18 : decode cX12_sells 18 = .ok (.istore_n 2, 1) := by decide +kernel
theorem dX12_sells_19 : decode cX12_sells 19 = .ok (.aload_n 0, 1) := by decide +kernel
theorem dX12_sells_20 : decode cX12_sells 20 = .ok (.getfield 38, 3) := by decide +kernel
theorem dX12_sells_23 : decode cX12_sells 23 = .ok (.iconst 4, 1) := by decide +kernel
theorem dX12_sells_24 : decode cX12_sells 24 = .ok (.iload_n 1, 1) := by decide +kernel
theorem dX12_sells_25 : decode cX12_sells 25 = .ok (.imul, 1) := by decide +kernel
theorem dX12_sells_26 : decode cX12_sells 26 = .ok (.iconst 1, 1) := by decide +kernel
theorem dX12_sells_27 : decode cX12_sells 27 = .ok (.iadd, 1) := by decide +kernel
theorem dX12_sells_28 : decode cX12_sells 28 = .ok (.iaload, 1) := by decide +kernel
theorem dX12_sells_29 : decode cX12_sells 29 = .ok (.istore_n 3, 1) := by decide +kernel
theorem dX12_sells_30 : decode cX12_sells 30 = .ok (.aload_n 0, 1) := by decide +kernel
theorem dX12_sells_31 : decode cX12_sells 31 = .ok (.getfield 38, 3) := by decide +kernel
theorem dX12_sells_34 : decode cX12_sells 34 = .ok (.iconst 4, 1) := by decide +kernel
theorem dX12_sells_35 : decode cX12_sells 35 = .ok (.iload_n 1, 1) := by decide +kernel
theorem dX12_sells_36 : decode cX12_sells 36 = .ok (.imul, 1) := by decide +kernel
theorem dX12_sells_37 : decode cX12_sells 37 = .ok (.iconst 2, 1) := by decide +kernel
theorem dX12_sells_38 : decode cX12_sells 38 = .ok (.iadd, 1) := by decide +kernel
theorem dX12_sells_39 : decode cX12_sells 39 = .ok (.iaload, 1) := by decide +kernel
theorem dX12_sells_40 : decode cX12_sells 40 = .ok (.iconst 1, 1) := by decide +kernel
theorem dX12_sells_41 : decode cX12_sells 41 = .ok (.if_icmp .ne 7, 3) := by decide +kernel
theorem dX12_sells_44 : decode cX12_sells 44 = .ok (.iconst 0, 1) := by decide +kernel
theorem dX12_sells_45 : decode cX12_sells 45 = .ok (.goto 29, 3) := by decide +kernel
theorem dX12_sells_48 : decode cX12_sells 48 = .ok (.iload_n 3, 1) := by decide +kernel
theorem dX12_sells_49 : decode cX12_sells 49 = .ok (.aload_n 0, 1) := by decide +kernel
theorem dX12_sells_50 : decode cX12_sells 50 = .ok (.getfield 77, 3) := by decide +kernel
theorem dX12_sells_53 : decode cX12_sells 53 = .ok (.bipush 6, 2) := by decide +kernel
theorem dX12_sells_55 : decode cX12_sells 55 = .ok (.iload_n 2, 1) := by decide +kernel
theorem dX12_sells_56 : decode cX12_sells 56 = .ok (.iadd, 1) := by decide +kernel
theorem dX12_sells_57 : decode cX12_sells 57 = .ok (.iaload, 1) := by decide +kernel
theorem dX12_sells_58 : decode cX12_sells 58 = .ok (.if_icmp .ge 7, 3) := by decide +kernel
theorem dX12_sells_61 : decode cX12_sells 61 = .ok (.iload_n 3, 1) := by decide +kernel
theorem dX12_sells_62 : decode cX12_sells 62 = .ok (.goto 12, 3) := by decide +kernel
theorem dX12_sells_65 : decode cX12_sells 65 = .ok (.aload_n 0, 1) := by decide +kernel
theorem dX12_sells_66 : decode cX12_sells 66 = .ok (.getfield 77, 3) := by decide +kernel
theorem dX12_sells_69 : decode cX12_sells 69 = .ok (.bipush 6, 2) := by decide +kernel
theorem dX12_sells_71 : decode cX12_sells 71 = .ok (.iload_n 2, 1) := by decide +kernel
theorem dX12_sells_72 : decode cX12_sells 72 = .ok (.iadd, 1) := by decide +kernel
theorem dX12_sells_73 : decode cX12_sells 73 = .ok (.iaload, 1) := by decide +kernel
theorem dX12_sells_74 : decode cX12_sells 74 = .ok (.istore 4, 2) := by decide +kernel
theorem dX12_sells_76 : decode cX12_sells 76 = .ok (.aload_n 0, 1) := by decide +kernel
theorem dX12_sells_77 : decode cX12_sells 77 = .ok (.getfield 77, 3) := by decide +kernel
theorem dX12_sells_80 : decode cX12_sells 80 = .ok (.bipush 6, 2) := by decide +kernel
theorem dX12_sells_82 : decode cX12_sells 82 = .ok (.iload_n 2, 1) := by decide +kernel
theorem dX12_sells_83 : decode cX12_sells 83 = .ok (.iadd, 1) := by decide +kernel
theorem dX12_sells_84 : decode cX12_sells 84 = .ok (.dup2, 1) := by decide +kernel
theorem dX12_sells_85 : decode cX12_sells 85 = .ok (.iaload, 1) := by decide +kernel
theorem dX12_sells_86 : decode cX12_sells 86 = .ok (.iload 4, 2) := by decide +kernel
theorem dX12_sells_88 : decode cX12_sells 88 = .ok (.isub, 1) := by decide +kernel
theorem dX12_sells_89 : decode cX12_sells 89 = .ok (.iastore, 1) := by decide +kernel
theorem dX12_sells_90 : decode cX12_sells 90 = .ok (.aload_n 0, 1) := by decide +kernel
theorem dX12_sells_91 : decode cX12_sells 91 = .ok (.getfield 77, 3) := by decide +kernel
theorem dX12_sells_94 : decode cX12_sells 94 = .ok (.iconst 0, 1) := by decide +kernel
theorem dX12_sells_95 : decode cX12_sells 95 = .ok (.iload_n 2, 1) := by decide +kernel
theorem dX12_sells_96 : decode cX12_sells 96 = .ok (.iadd, 1) := by decide +kernel
theorem dX12_sells_97 : decode cX12_sells 97 = .ok (.dup2, 1) := by decide +kernel
theorem dX12_sells_98 : decode cX12_sells 98 = .ok (.iaload, 1) := by decide +kernel
theorem dX12_sells_99 : decode cX12_sells 99 = .ok (.iload_n 3, 1) := by decide +kernel
theorem dX12_sells_100 : decode cX12_sells 100 = .ok (.iload 4, 2) := by decide +kernel
theorem dX12_sells_102 : decode cX12_sells 102 = .ok (.isub, 1) := by decide +kernel
theorem dX12_sells_103 : decode cX12_sells 103 = .ok (.isub, 1) := by decide +kernel
theorem dX12_sells_104 : decode cX12_sells 104 = .ok (.iastore, 1) := by decide +kernel
theorem dX12_sells_105 : decode cX12_sells 105 = .ok (.aload_n 0, 1) := by decide +kernel
theorem dX12_sells_106 : decode cX12_sells 106 = .ok (.getfield 77, 3) := by decide +kernel
theorem dX12_sells_109 : decode cX12_sells 109 = .ok (.bipush 49, 2) := by decide +kernel
theorem dX12_sells_111 : decode cX12_sells 111 = .ok (.dup2, 1) := by decide +kernel
theorem dX12_sells_112 : decode cX12_sells 112 = .ok (.iaload, 1) := by decide +kernel
theorem dX12_sells_113 : decode cX12_sells 113 = .ok (.aload_n 0, 1) := by decide +kernel
theorem dX12_sells_114 : decode cX12_sells 114 = .ok (.getfield 38, 3) := by decide +kernel
theorem dX12_sells_117 : decode cX12_sells 117 = .ok (.iconst 4, 1) := by decide +kernel
theorem dX12_sells_118 : decode cX12_sells 118 = .ok (.iload_n 1, 1) := by decide +kernel
theorem dX12_sells_119 : decode cX12_sells 119 = .ok (.imul, 1) := by decide +kernel
theorem dX12_sells_120 : decode cX12_sells 120 = .ok (.iconst 3, 1) := by decide +kernel
theorem dX12_sells_121 : decode cX12_sells 121 = .ok (.iadd, 1) := by decide +kernel
theorem dX12_sells_122 : decode cX12_sells 122 = .ok (.iaload, 1) := by decide +kernel
theorem dX12_sells_123 : decode cX12_sells 123 = .ok (.iadd, 1) := by decide +kernel
theorem dX12_sells_124 : decode cX12_sells 124 = .ok (.iastore, 1) := by decide +kernel
theorem dX12_sells_125 : decode cX12_sells 125 = .ok (.aload_n 0, 1) := by decide +kernel
theorem dX12_sells_126 : decode cX12_sells 126 = .ok (.getfield 77, 3) := by decide +kernel
theorem dX12_sells_129 : decode cX12_sells 129 = .ok (.bipush 18, 2) := by decide +kernel
theorem dX12_sells_131 : decode cX12_sells 131 = .ok (.iload_n 1, 1) := by decide +kernel
theorem dX12_sells_132 : decode cX12_sells 132 = .ok (.iadd, 1) := by decide +kernel
theorem dX12_sells_133 : decode cX12_sells 133 = .ok (.iconst 0, 1) := by decide +kernel
theorem dX12_sells_134 : decode cX12_sells 134 = .ok (.iastore, 1) := by decide +kernel
theorem dX12_sells_135 : decode cX12_sells 135 = .ok (.aload_n 0, 1) := by decide +kernel
theorem dX12_sells_136 : decode cX12_sells 136 = .ok (.getfield 77, 3) := by decide +kernel
theorem dX12_sells_139 : decode cX12_sells 139 = .ok (.bipush 30, 2) := by decide +kernel
theorem dX12_sells_141 : decode cX12_sells 141 = .ok (.iload_n 1, 1) := by decide +kernel
theorem dX12_sells_142 : decode cX12_sells 142 = .ok (.iadd, 1) := by decide +kernel
theorem dX12_sells_143 : decode cX12_sells 143 = .ok (.dup2, 1) := by decide +kernel
theorem dX12_sells_144 : decode cX12_sells 144 = .ok (.iaload, 1) := by decide +kernel
theorem dX12_sells_145 : decode cX12_sells 145 = .ok (.iconst 1, 1) := by decide +kernel
theorem dX12_sells_146 : decode cX12_sells 146 = .ok (.iadd, 1) := by decide +kernel
theorem dX12_sells_147 : decode cX12_sells 147 = .ok (.iastore, 1) := by decide +kernel
theorem dX12_sells_148 : decode cX12_sells 148 = .ok (.iconst 1, 1) := by decide +kernel
theorem dX12_sells_149 : decode cX12_sells 149 = .ok (.ireturn, 1) := by decide +kernel
theorem dX12_carries_0 : decode cX12_carries 0 = .ok (.iload 4, 2) := by decide +kernel
theorem dX12_carries_2 : decode cX12_carries 2 = .ok (.iconst 1, 1) := by decide +kernel
theorem dX12_carries_3 : decode cX12_carries 3 = .ok (.if_icmp .ne 7, 3) := by decide +kernel
theorem dX12_carries_6 : decode cX12_carries 6 = .ok (.iconst 0, 1) := by decide +kernel
theorem dX12_carries_7 : decode cX12_carries 7 = .ok (.goto 5, 3) := by decide +kernel
theorem dX12_carries_10 : decode cX12_carries 10 = .ok (.bipush 6, 2) := by decide +kernel
theorem dX12_carries_12 : decode cX12_carries 12 = .ok (.iload_n 1, 1) := by decide +kernel
theorem dX12_carries_13 : decode cX12_carries 13 = .ok (.iadd, 1) := by decide +kernel
theorem dX12_carries_14 : decode cX12_carries 14 = .ok (.istore 5, 2) := by decide +kernel
theorem dX12_carries_16 : decode cX12_carries 16 = .ok (.aload_n 0, 1) := by decide +kernel
theorem dX12_carries_17 : decode cX12_carries 17 = .ok (.getfield 77, 3) := by decide +kernel
theorem dX12_carries_20 : decode cX12_carries 20 = .ok (.iload 5, 2) := by decide +kernel
theorem dX12_carries_22 : decode cX12_carries 22 = .ok (.iaload, 1) := by decide +kernel
theorem dX12_carries_23 : decode cX12_carries 23 = .ok (.iload_n 3, 1) := by decide +kernel
theorem dX12_carries_24 : decode cX12_carries 24 = .ok (.if_icmp .ge 5, 3) := by decide +kernel
theorem dX12_carries_27 : decode cX12_carries 27 = .ok (.iconst 0, 1) := by decide +kernel
theorem dX12_carries_28 : decode cX12_carries 28 = .ok (.ireturn, 1) := by decide +kernel
theorem dX12_carries_29 : decode cX12_carries 29 = .ok (.aload_n 0, 1) := by decide +kernel
theorem dX12_carries_30 : decode cX12_carries 30 = .ok (.iload_n 1, 1) := by decide +kernel
theorem dX12_carries_31 : decode cX12_carries 31 = .ok (.iload_n 2, 1) := by decide +kernel
theorem dX12_carries_32 : decode cX12_carries 32 = .ok (.iload_n 3, 1) := by decide +kernel
theorem dX12_carries_33 : decode cX12_carries 33 = .ok (.iload 4, 2) := by decide +kernel
theorem dX12_carries_35 : decode cX12_carries 35 = .ok (.invokevirtual 364, 3) := by decide +kernel
theorem dX12_carries_38 : decode cX12_carries 38 = .ok (.istore 6, 2) := by decide +kernel
theorem dX12_carries_40 : decode cX12_carries 40 = .ok (.aload_n 0, 1) := by decide +kernel
theorem dX12_carries_41 : decode cX12_carries 41 = .ok (.getfield 77, 3) := by decide +kernel
theorem dX12_carries_44 : decode cX12_carries 44 = .ok (.iload 5, 2) := by decide +kernel
theorem dX12_carries_46 : decode cX12_carries 46 = .ok (.dup2, 1) := by decide +kernel
theorem dX12_carries_47 : decode cX12_carries 47 = .ok (.iaload, 1) := by decide +kernel
theorem dX12_carries_48 : decode cX12_carries 48 = .ok (.iload_n 3, 1) := by decide +kernel
theorem dX12_carries_49 : decode cX12_carries 49 = .ok (.isub, 1) := by decide +kernel
theorem dX12_carries_50 : decode cX12_carries 50 = .ok (.iastore, 1) := by decide +kernel
theorem dX12_carries_51 : decode cX12_carries 51 = .ok (.aload_n 0, 1) := by decide +kernel
theorem dX12_carries_52 : decode cX12_carries 52 = .ok (.iload 4, 2) := by decide +kernel
theorem dX12_carries_54 : decode cX12_carries 54 = .ok (.iconst 1, 1) := by decide +kernel
theorem dX12_carries_55 : decode cX12_carries 55 = .ok (.if_icmp .ne 7, 3) := by decide +kernel
theorem dX12_carries_58 : decode cX12_carries 58 = .ok (.iconst 0, 1) := by decide +kernel
theorem dX12_carries_59 : decode cX12_carries 59 = .ok (.goto 5, 3) := by decide +kernel
theorem dX12_carries_62 : decode cX12_carries 62 = .ok (.bipush 6, 2) := by decide +kernel
theorem dX12_carries_64 : decode cX12_carries 64 = .ok (.iload_n 2, 1) := by decide +kernel
theorem dX12_carries_65 : decode cX12_carries 65 = .ok (.iadd, 1) := by decide +kernel
theorem dX12_carries_66 : decode cX12_carries 66 = .ok (.iload 6, 2) := by decide +kernel
theorem dX12_carries_68 : decode cX12_carries 68 = .ok (.invokevirtual 368, 3) := by decide +kernel
theorem dX12_carries_71 : decode cX12_carries 71 = .ok (.iconst 1, 1) := by decide +kernel
theorem dX12_carries_72 : decode cX12_carries 72 = .ok (.ireturn, 1) := by decide +kernel
theorem dX12_digsNow_0 : decode cX12_digsNow 0 = .ok (.aload_n 0, 1) := by decide +kernel
theorem dX12_digsNow_1 : decode cX12_digsNow 1 = .ok (.iload_n 2, 1) := by decide +kernel
theorem dX12_digsNow_2 : decode cX12_digsNow 2 = .ok (.invokevirtual 371, 3) := by decide +kernel
theorem dX12_digsNow_5 : decode cX12_digsNow 5 = .ok (.ifCond .eq 15, 3) := by decide +kernel
theorem dX12_digsNow_8 : decode cX12_digsNow 8 = .ok (.aload_n 0, 1) := by decide +kernel
theorem dX12_digsNow_9 : decode cX12_digsNow 9 = .ok (.getfield 77, 3) := by decide +kernel
theorem dX12_digsNow_12 : decode cX12_digsNow 12 = .ok (.bipush 42, 2) := by decide +kernel
theorem dX12_digsNow_14 : decode cX12_digsNow 14 = .ok (.iload_n 2, 1) := by decide +kernel
theorem dX12_digsNow_15 : decode cX12_digsNow 15 = .ok (.iadd, 1) := by decide +kernel
theorem dX12_digsNow_16 : decode cX12_digsNow 16 = .ok (.iaload, 1) := by decide +kernel
theorem dX12_digsNow_17 : decode cX12_digsNow 17 = .ok (.ifCond .ne 5, 3) := by decide +kernel
theorem dX12_digsNow_20 : decode cX12_digsNow 20 = .ok (.iconst 0, 1) := by decide +kernel
theorem dX12_digsNow_21 : decode cX12_digsNow 21 = .ok (.ireturn, 1) := by decide +kernel
theorem dX12_digsNow_22 : decode cX12_digsNow 22 = .ok (.aload_n 0, 1) := by decide +kernel
theorem dX12_digsNow_23 : decode cX12_digsNow 23 = .ok (.iload_n 2, 1) := by decide +kernel
theorem dX12_digsNow_24 : decode cX12_digsNow 24 = .ok (.iload_n 1, 1) := by decide +kernel
theorem dX12_digsNow_25 : decode cX12_digsNow 25 = .ok (.invokevirtual 374, 3) := by decide +kernel
theorem dX12_digsNow_28 : decode cX12_digsNow 28 = .ok (.istore_n 3, 1) := by decide +kernel
theorem dX12_digsNow_29 : decode cX12_digsNow 29 = .ok (.aload_n 0, 1) := by decide +kernel
theorem dX12_digsNow_30 : decode cX12_digsNow 30 = .ok (.getfield 77, 3) := by decide +kernel
theorem dX12_digsNow_33 : decode cX12_digsNow 33 = .ok (.bipush 49, 2) := by decide +kernel
theorem dX12_digsNow_35 : decode cX12_digsNow 35 = .ok (.dup2, 1) := by decide +kernel
theorem dX12_digsNow_36 : decode cX12_digsNow 36 = .ok (.iaload, 1) := by decide +kernel
theorem dX12_digsNow_37 : decode cX12_digsNow 37 = .ok (.aload_n 0, 1) := by decide +kernel
theorem dX12_digsNow_38 : decode cX12_digsNow 38 = .ok (.getfield 195, 3) := by decide +kernel
theorem dX12_digsNow_41 : decode cX12_digsNow 41 = .ok (.iload_n 1, 1) := by decide +kernel
theorem dX12_digsNow_42 : decode cX12_digsNow 42 = .ok (.imul, 1) := by decide +kernel
theorem dX12_digsNow_43 : decode cX12_digsNow 43 = .ok (.isub, 1) := by decide +kernel
theorem dX12_digsNow_44 : decode cX12_digsNow 44 = .ok (.iastore, 1) := by decide +kernel
theorem dX12_digsNow_45 : decode cX12_digsNow 45 = .ok (.aload_n 0, 1) := by decide +kernel
theorem dX12_digsNow_46 : decode cX12_digsNow 46 = .ok (.getfield 77, 3) := by decide +kernel
theorem dX12_digsNow_49 : decode cX12_digsNow 49 = .ok (.bipush 42, 2) := by decide +kernel
theorem dX12_digsNow_51 : decode cX12_digsNow 51 = .ok (.iload_n 2, 1) := by decide +kernel
theorem dX12_digsNow_52 : decode cX12_digsNow 52 = .ok (.iadd, 1) := by decide +kernel
theorem dX12_digsNow_53 : decode cX12_digsNow 53 = .ok (.dup2, 1) := by decide +kernel
theorem dX12_digsNow_54 : decode cX12_digsNow 54 = .ok (.iaload, 1) := by decide +kernel
theorem dX12_digsNow_55 : decode cX12_digsNow 55 = .ok (.iload_n 3, 1) := by decide +kernel
theorem dX12_digsNow_56 : decode cX12_digsNow 56 = .ok (.isub, 1) := by decide +kernel
theorem dX12_digsNow_57 : decode cX12_digsNow 57 = .ok (.iastore, 1) := by decide +kernel
theorem dX12_digsNow_58 : decode cX12_digsNow 58 = .ok (.aload_n 0, 1) := by decide +kernel
theorem dX12_digsNow_59 : decode cX12_digsNow 59 = .ok (.getfield 77, 3) := by decide +kernel
theorem dX12_digsNow_62 : decode cX12_digsNow 62 = .ok (.bipush 45, 2) := by decide +kernel
theorem dX12_digsNow_64 : decode cX12_digsNow 64 = .ok (.iload_n 2, 1) := by decide +kernel
theorem dX12_digsNow_65 : decode cX12_digsNow 65 = .ok (.iadd, 1) := by decide +kernel
theorem dX12_digsNow_66 : decode cX12_digsNow 66 = .ok (.dup2, 1) := by decide +kernel
theorem dX12_digsNow_67 : decode cX12_digsNow 67 = .ok (.iaload, 1) := by decide +kernel
theorem dX12_digsNow_68 : decode cX12_digsNow 68 = .ok (.iload_n 3, 1) := by decide +kernel
theorem dX12_digsNow_69 : decode cX12_digsNow 69 = .ok (.iadd, 1) := by decide +kernel
theorem dX12_digsNow_70 : decode cX12_digsNow 70 = .ok (.iastore, 1) := by decide +kernel
theorem dX12_digsNow_71 : decode cX12_digsNow 71 = .ok (.aload_n 0, 1) := by decide +kernel
theorem dX12_digsNow_72 : decode cX12_digsNow 72 = .ok (.iconst 0, 1) := by decide +kernel
theorem dX12_digsNow_73 : decode cX12_digsNow 73 = .ok (.aload_n 0, 1) := by decide +kernel
theorem dX12_digsNow_74 : decode cX12_digsNow 74 = .ok (.getfield 41, 3) := by decide +kernel
theorem dX12_digsNow_77 : decode cX12_digsNow 77 = .ok (.iconst 3, 1) := by decide +kernel
theorem dX12_digsNow_78 : decode cX12_digsNow 78 = .ok (.iload_n 2, 1) := by decide +kernel
theorem dX12_digsNow_79 : decode cX12_digsNow 79 = .ok (.imul, 1) := by decide +kernel
theorem dX12_digsNow_80 : decode cX12_digsNow 80 = .ok (.iaload, 1) := by decide +kernel
theorem dX12_digsNow_81 : decode cX12_digsNow 81 = .ok (.iadd, 1) := by decide +kernel
theorem dX12_digsNow_82 : decode cX12_digsNow 82 = .ok (.iload_n 3, 1) := by decide +kernel
theorem dX12_digsNow_83 : decode cX12_digsNow 83 = .ok (.invokevirtual 368, 3) := by decide +kernel
theorem dX12_digsNow_86 : decode cX12_digsNow 86 = .ok (.iconst 1, 1) := by decide +kernel
theorem dX12_digsNow_87 : decode cX12_digsNow 87 = .ok (.ireturn, 1) := by decide +kernel
theorem dX12_month_0 : decode cX12_month 0 = .ok (.iconst 0, 1) := by decide +kernel
theorem dX12_month_1 : decode cX12_month 1 = .ok (.istore_n 1, 1) := by decide +kernel
theorem dX12_month_2 : decode cX12_month 2 = .ok (.iload_n 1, 1) := by decide +kernel
theorem dX12_month_3 : decode cX12_month 3 = .ok (.aload_n 0, 1) := by decide +kernel
theorem dX12_month_4 : decode cX12_month 4 = .ok (.getfield 180, 3) := by decide +kernel
theorem dX12_month_7 : decode cX12_month 7 = .ok (.if_icmp .ge 101, 3) := by decide +kernel
theorem dX12_month_10 : decode cX12_month 10 = .ok (.aload_n 0, 1) := by decide +kernel
theorem dX12_month_11 : decode cX12_month 11 = .ok (.getfield 77, 3) := by decide +kernel
theorem dX12_month_14 : decode cX12_month 14 = .ok (.iconst 0, 1) := by decide +kernel
theorem dX12_month_15 : decode cX12_month 15 = .ok (.iload_n 1, 1) := by decide +kernel
theorem dX12_month_16 : decode cX12_month 16 = .ok (.iadd, 1) := by decide +kernel
theorem dX12_month_17 : decode cX12_month 17 = .ok (.iaload, 1) := by decide +kernel
theorem dX12_month_18 : decode cX12_month 18 = .ok (.aload_n 0, 1) := by decide +kernel
theorem dX12_month_19 : decode cX12_month 19 = .ok (.getfield 192, 3) := by decide +kernel
theorem dX12_month_22 : decode cX12_month 22 = .ok (.imul, 1) := by decide +kernel
theorem dX12_month_23 : decode cX12_month 23 = .ok (.bipush 8, 2) := by decide +kernel
theorem dX12_month_25 : decode cX12_month 25 = .ok (.idiv, 1) := by decide +kernel
theorem dX12_month_26 : decode cX12_month 26 = .ok (.istore_n 2, 1) := by decide +kernel
theorem dX12_month_27 : decode cX12_month 27 = .ok (.aload_n 0, 1) := by decide +kernel
theorem dX12_month_28 : decode cX12_month 28 = .ok (.getfield 77, 3) := by decide +kernel
theorem dX12_month_31 : decode cX12_month 31 = .ok (.bipush 6, 2) := by decide +kernel
theorem dX12_month_33 : decode cX12_month 33 = .ok (.iload_n 1, 1) := by decide +kernel
theorem dX12_month_34 : decode cX12_month 34 = .ok (.iadd, 1) := by decide +kernel
theorem dX12_month_35 : decode cX12_month 35 = .ok (.iaload, 1) := by decide +kernel
theorem dX12_month_36 : decode cX12_month 36 = .ok (.aload_n 0, 1) := by decide +kernel
theorem dX12_month_37 : decode cX12_month 37 = .ok (.getfield 192, 3) := by decide +kernel
theorem dX12_month_40 : decode cX12_month 40 = .ok (.imul, 1) := by decide +kernel
theorem dX12_month_41 : decode cX12_month 41 = .ok (.bipush 8, 2) := by decide +kernel
theorem dX12_month_43 : decode cX12_month 43 = .ok (.idiv, 1) := by decide +kernel
theorem dX12_month_44 : decode cX12_month 44 = .ok (.istore_n 3, 1) := by decide +kernel
theorem dX12_month_45 : decode cX12_month 45 = .ok (.aload_n 0, 1) := by decide +kernel
theorem dX12_month_46 : decode cX12_month 46 = .ok (.getfield 77, 3) := by decide +kernel
theorem dX12_month_49 : decode cX12_month 49 = .ok (.iconst 0, 1) := by decide +kernel
theorem dX12_month_50 : decode cX12_month 50 = .ok (.iload_n 1, 1) := by decide +kernel
theorem dX12_month_51 : decode cX12_month 51 = .ok (.iadd, 1) := by decide +kernel
theorem dX12_month_52 : decode cX12_month 52 = .ok (.dup2, 1) := by decide +kernel
theorem dX12_month_53 : decode cX12_month 53 = .ok (.iaload, 1) := by decide +kernel
theorem dX12_month_54 : decode cX12_month 54 = .ok (.iload_n 2, 1) := by decide +kernel
theorem dX12_month_55 : decode cX12_month 55 = .ok (.isub, 1) := by decide +kernel
theorem dX12_month_56 : decode cX12_month 56 = .ok (.iastore, 1) := by decide +kernel
theorem dX12_month_57 : decode cX12_month 57 = .ok (.aload_n 0, 1) := by decide +kernel
theorem dX12_month_58 : decode cX12_month 58 = .ok (.getfield 77, 3) := by decide +kernel
theorem dX12_month_61 : decode cX12_month 61 = .ok (.bipush 6, 2) := by decide +kernel
theorem dX12_month_63 : decode cX12_month 63 = .ok (.iload_n 1, 1) := by decide +kernel
theorem dX12_month_64 : decode cX12_month 64 = .ok (.iadd, 1) := by decide +kernel
theorem dX12_month_65 : decode cX12_month 65 = .ok (.dup2, 1) := by decide +kernel
theorem dX12_month_66 : decode cX12_month 66 = .ok (.iaload, 1) := by decide +kernel
theorem dX12_month_67 : decode cX12_month 67 = .ok (.iload_n 3, 1) := by decide +kernel
theorem dX12_month_68 : decode cX12_month 68 = .ok (.isub, 1) := by decide +kernel
theorem dX12_month_69 : decode cX12_month 69 = .ok (.iastore, 1) := by decide +kernel
theorem dX12_month_70 : decode cX12_month 70 = .ok (.aload_n 0, 1) := by decide +kernel
theorem dX12_month_71 : decode cX12_month 71 = .ok (.getfield 77, 3) := by decide +kernel
theorem dX12_month_74 : decode cX12_month 74 = .ok (.bipush 12, 2) := by decide +kernel
theorem dX12_month_76 : decode cX12_month 76 = .ok (.iload_n 1, 1) := by decide +kernel
theorem dX12_month_77 : decode cX12_month 77 = .ok (.iadd, 1) := by decide +kernel
theorem dX12_month_78 : decode cX12_month 78 = .ok (.dup2, 1) := by decide +kernel
theorem dX12_month_79 : decode cX12_month 79 = .ok (.iaload, 1) := by decide +kernel
theorem dX12_month_80 : decode cX12_month 80 = .ok (.iload_n 2, 1) := by decide +kernel
theorem dX12_month_81 : decode cX12_month 81 = .ok (.iload_n 3, 1) := by decide +kernel
theorem dX12_month_82 : decode cX12_month 82 = .ok (.iadd, 1) := by decide +kernel
theorem dX12_month_83 : decode cX12_month 83 = .ok (.iadd, 1) := by decide +kernel
theorem dX12_month_84 : decode cX12_month 84 = .ok (.iastore, 1) := by decide +kernel
theorem dX12_month_85 : decode cX12_month 85 = .ok (.aload_n 0, 1) := by decide +kernel
theorem dX12_month_86 : decode cX12_month 86 = .ok (.iconst 0, 1) := by decide +kernel
theorem dX12_month_87 : decode cX12_month 87 = .ok (.iload_n 1, 1) := by decide +kernel
theorem dX12_month_88 : decode cX12_month 88 = .ok (.iadd, 1) := by decide +kernel
theorem dX12_month_89 : decode cX12_month 89 = .ok (.aload_n 0, 1) := by decide +kernel
theorem dX12_month_90 : decode cX12_month 90 = .ok (.getfield 35, 3) := by decide +kernel
theorem dX12_month_93 : decode cX12_month 93 = .ok (.iconst 4, 1) := by decide +kernel
theorem dX12_month_94 : decode cX12_month 94 = .ok (.iload_n 1, 1) := by decide +kernel
theorem dX12_month_95 : decode cX12_month 95 = .ok (.imul, 1) := by decide +kernel
theorem dX12_month_96 : decode cX12_month 96 = .ok (.iconst 3, 1) := by decide +kernel
theorem dX12_month_97 : decode cX12_month 97 = .ok (.iadd, 1) := by decide +kernel
theorem dX12_month_98 : decode cX12_month 98 = .ok (.iaload, 1) := by decide +kernel
theorem dX12_month_99 : decode cX12_month 99 = .ok (.invokevirtual 368, 3) := by decide +kernel
theorem dX12_month_102 : decode cX12_month 102 = .ok (.iinc 1 1, 3) := by decide +kernel
theorem dX12_month_105 : decode cX12_month 105 = .ok (.goto (-103), 3) := by decide +kernel
theorem dX12_month_108 : decode cX12_month 108 = .ok (.iconst 0, 1) := by decide +kernel
theorem dX12_month_109 : decode cX12_month 109 = .ok (.istore_n 1, 1) := by decide +kernel
theorem dX12_month_110 : decode cX12_month 110 = .ok (.iload_n 1, 1) := by decide +kernel
theorem dX12_month_111 : decode cX12_month 111 = .ok (.aload_n 0, 1) := by decide +kernel
theorem dX12_month_112 : decode cX12_month 112 = .ok (.getfield 183, 3) := by decide +kernel
theorem dX12_month_115 : decode cX12_month 115 = .ok (.if_icmp .ge 19, 3) := by decide +kernel
theorem dX12_month_118 : decode cX12_month 118 = .ok (.aload_n 0, 1) := by decide +kernel
theorem dX12_month_119 : decode cX12_month 119 = .ok (.getfield 77, 3) := by decide +kernel
theorem dX12_month_122 : decode cX12_month 122 = .ok (.bipush 18, 2) := by decide +kernel
theorem dX12_month_124 : decode cX12_month 124 = .ok (.iload_n 1, 1) := by decide +kernel
theorem dX12_month_125 : decode cX12_month 125 = .ok (.iadd, 1) := by decide +kernel
theorem dX12_month_126 : decode cX12_month 126 = .ok (.iconst 1, 1) := by decide +kernel
theorem dX12_month_127 : decode cX12_month 127 = .ok (.iastore, 1) := by decide +kernel
theorem dX12_month_128 : decode cX12_month 128 = .ok (.iinc 1 1, 3) := by decide +kernel
theorem dX12_month_131 : decode cX12_month 131 = .ok (.goto (-21), 3) := by decide +kernel
theorem dX12_month_134 : decode cX12_month 134 = .ok (.aload_n 0, 1) := by decide +kernel
theorem dX12_month_135 : decode cX12_month 135 = .ok (.getfield 77, 3) := by decide +kernel
theorem dX12_month_138 : decode cX12_month 138 = .ok (.bipush 48, 2) := by decide +kernel
theorem dX12_month_140 : decode cX12_month 140 = .ok (.dup2, 1) := by decide +kernel
theorem dX12_month_141 : decode cX12_month 141 = .ok (.iaload, 1) := by decide +kernel
theorem dX12_month_142 : decode cX12_month 142 = .ok (.iconst 1, 1) := by decide +kernel
theorem dX12_month_143 : decode cX12_month 143 = .ok (.iadd, 1) := by decide +kernel
theorem dX12_month_144 : decode cX12_month 144 = .ok (.iastore, 1) := by decide +kernel
theorem dX12_month_145 : decode cX12_month 145 = .ok (.return_, 1) := by decide +kernel
theorem dX12_goes_0 : decode cX12_goes 0 = .ok (.aload_n 0, 1) := by decide +kernel
theorem dX12_goes_1 : decode cX12_goes 1 = .ok (.getfield 71, 3) := by decide +kernel
theorem dX12_goes_4 : decode cX12_goes 4 = .ok (.iload_n 1, 1) := by decide +kernel
theorem dX12_goes_5 : decode cX12_goes 5 = .ok (.iaload, 1) := by decide +kernel
theorem dX12_goes_6 : decode cX12_goes 6 = .ok (.istore_n 2, 1) := by decide +kernel
theorem dX12_goes_7 : decode cX12_goes 7 = .ok (.aload_n 0, 1) := by decide +kernel
theorem dX12_goes_8 : decode cX12_goes 8 = .ok (.getfield 71, 3) := by decide +kernel
theorem dX12_goes_11 : decode cX12_goes 11 = .ok (.iload_n 1, 1) := by decide +kernel
theorem dX12_goes_12 : decode cX12_goes 12 = .ok (.iconst 1, 1) := by decide +kernel
theorem dX12_goes_13 : decode cX12_goes 13 = .ok (.iadd, 1) := by decide +kernel
theorem dX12_goes_14 : decode cX12_goes 14 = .ok (.iaload, 1) := by decide +kernel
theorem dX12_goes_15 : decode cX12_goes 15 = .ok (.istore_n 3, 1) := by decide +kernel
theorem dX12_goes_16 : decode cX12_goes 16 = .ok (.aload_n 0, 1) := by decide +kernel
theorem dX12_goes_17 : decode cX12_goes 17 = .ok (.getfield 71, 3) := by decide +kernel
theorem dX12_goes_20 : decode cX12_goes 20 = .ok (.iload_n 1, 1) := by decide +kernel
theorem dX12_goes_21 : decode cX12_goes 21 = .ok (.iconst 2, 1) := by decide +kernel
theorem dX12_goes_22 : decode cX12_goes 22 = .ok (.iadd, 1) := by decide +kernel
theorem dX12_goes_23 : decode cX12_goes 23 = .ok (.iaload, 1) := by decide +kernel
theorem dX12_goes_24 : decode cX12_goes 24 = .ok (.istore 4, 2) := by decide +kernel
theorem dX12_goes_26 : decode cX12_goes 26 = .ok (.iload_n 2, 1) := by decide +kernel
theorem dX12_goes_27 : decode cX12_goes 27 = .ok (.ifCond .ne 27, 3) := by decide +kernel
theorem dX12_goes_30 : decode cX12_goes 30 = .ok (.aload_n 0, 1) := by decide +kernel
theorem dX12_goes_31 : decode cX12_goes 31 = .ok (.iload_n 3, 1) := by decide +kernel
theorem dX12_goes_32 : decode cX12_goes 32 = .ok (.iload 4, 2) := by decide +kernel
theorem dX12_goes_34 : decode cX12_goes 34 = .ok (.aload_n 0, 1) := by decide +kernel
theorem dX12_goes_35 : decode cX12_goes 35 = .ok (.getfield 71, 3) := by decide +kernel
theorem dX12_goes_38 : decode cX12_goes 38 = .ok (.iload_n 1, 1) := by decide +kernel
theorem dX12_goes_39 : decode cX12_goes 39 = .ok (.iconst 3, 1) := by decide +kernel
theorem dX12_goes_40 : decode cX12_goes 40 = .ok (.iadd, 1) := by decide +kernel
theorem dX12_goes_41 : decode cX12_goes 41 = .ok (.iaload, 1) := by decide +kernel
theorem dX12_goes_42 : decode cX12_goes 42 = .ok (.aload_n 0, 1) := by decide +kernel
theorem dX12_goes_43 : decode cX12_goes 43 = .ok (.getfield 71, 3) := by decide +kernel
theorem dX12_goes_46 : decode cX12_goes 46 = .ok (.iload_n 1, 1) := by decide +kernel
theorem dX12_goes_47 : decode cX12_goes 47 = .ok (.iconst 4, 1) := by decide +kernel
theorem dX12_goes_48 : decode cX12_goes 48 = .ok (.iadd, 1) := by decide +kernel
theorem dX12_goes_49 : decode cX12_goes 49 = .ok (.iaload, 1) := by decide +kernel
theorem dX12_goes_50 : decode cX12_goes 50 = .ok (.invokevirtual 377, 3) := by decide +kernel
theorem dX12_goes_53 : decode cX12_goes 53 = .ok (.ireturn, 1) := by decide +kernel
theorem dX12_goes_54 : decode cX12_goes 54 = .ok (.iload_n 2, 1) := by decide +kernel
theorem dX12_goes_55 : decode cX12_goes 55 = .ok (.iconst 1, 1) := by decide +kernel
theorem dX12_goes_56 : decode cX12_goes 56 = .ok (.if_icmp .ne 9, 3) := by decide +kernel
theorem dX12_goes_59 : decode cX12_goes 59 = .ok (.aload_n 0, 1) := by decide +kernel
theorem dX12_goes_60 : decode cX12_goes 60 = .ok (.iload_n 3, 1) := by decide +kernel
theorem dX12_goes_61 : decode cX12_goes 61 = .ok (.invokevirtual 381, 3) := by decide +kernel
theorem dX12_goes_64 : decode cX12_goes 64 = .ok (.ireturn, 1) := by decide +kernel
theorem dX12_goes_65 : decode cX12_goes 65 = .ok (.iload_n 2, 1) := by decide +kernel
theorem dX12_goes_66 : decode cX12_goes 66 = .ok (.iconst 3, 1) := by decide +kernel
theorem dX12_goes_67 : decode cX12_goes 67 = .ok (.if_icmp .ne 11, 3) := by decide +kernel
theorem dX12_goes_70 : decode cX12_goes 70 = .ok (.aload_n 0, 1) := by decide +kernel
theorem dX12_goes_71 : decode cX12_goes 71 = .ok (.iload 4, 2) := by decide +kernel
theorem dX12_goes_73 : decode cX12_goes 73 = .ok (.iload_n 3, 1) := by decide +kernel
theorem dX12_goes_74 : decode cX12_goes 74 = .ok (.invokevirtual 384, 3) := by decide +kernel
theorem dX12_goes_77 : decode cX12_goes 77 = .ok (.ireturn, 1) := by decide +kernel
theorem dX12_goes_78 : decode cX12_goes 78 = .ok (.iload_n 2, 1) := by decide +kernel
theorem dX12_goes_79 : decode cX12_goes 79 = .ok (.iconst 4, 1) := by decide +kernel
theorem dX12_goes_80 : decode cX12_goes 80 = .ok (.if_icmp .ne 9, 3) := by decide +kernel
theorem dX12_goes_83 : decode cX12_goes 83 = .ok (.aload_n 0, 1) := by decide +kernel
theorem dX12_goes_84 : decode cX12_goes 84 = .ok (.invokevirtual 388, 3) := by decide +kernel
theorem dX12_goes_87 : decode cX12_goes 87 = .ok (.iconst 1, 1) := by decide +kernel
theorem dX12_goes_88 : decode cX12_goes 88 = .ok (.ireturn, 1) := by decide +kernel
theorem dX12_goes_89 : decode cX12_goes 89 = .ok (.aload_n 0, 1) := by decide +kernel
theorem dX12_goes_90 : decode cX12_goes 90 = .ok (.getfield 77, 3) := by decide +kernel
theorem dX12_goes_93 : decode cX12_goes 93 = .ok (.iconst 0, 1) := by decide +kernel
theorem dX12_goes_94 : decode cX12_goes 94 = .ok (.iload_n 3, 1) := by decide +kernel
theorem dX12_goes_95 : decode cX12_goes 95 = .ok (.iadd, 1) := by decide +kernel
theorem dX12_goes_96 : decode cX12_goes 96 = .ok (.iaload, 1) := by decide +kernel
theorem dX12_goes_97 : decode cX12_goes 97 = .ok (.iload 4, 2) := by decide +kernel
theorem dX12_goes_99 : decode cX12_goes 99 = .ok (.if_icmp .ge 5, 3) := by decide +kernel
theorem dX12_goes_102 : decode cX12_goes 102 = .ok (.iconst 0, 1) := by decide +kernel
theorem dX12_goes_103 : decode cX12_goes 103 = .ok (.ireturn, 1) := by decide +kernel
theorem dX12_goes_104 : decode cX12_goes 104 = .ok (.aload_n 0, 1) := by decide +kernel
theorem dX12_goes_105 : decode cX12_goes 105 = .ok (.getfield 77, 3) := by decide +kernel
theorem dX12_goes_108 : decode cX12_goes 108 = .ok (.iconst 0, 1) := by decide +kernel
theorem dX12_goes_109 : decode cX12_goes 109 = .ok (.iload_n 3, 1) := by decide +kernel
theorem dX12_goes_110 : decode cX12_goes 110 = .ok (.iadd, 1) := by decide +kernel
theorem dX12_goes_111 : decode cX12_goes 111 = .ok (.dup2, 1) := by decide +kernel
theorem dX12_goes_112 : decode cX12_goes 112 = .ok (.iaload, 1) := by decide +kernel
theorem dX12_goes_113 : decode cX12_goes 113 = .ok (.iload 4, 2) := by decide +kernel
theorem dX12_goes_115 : decode cX12_goes 115 = .ok (.isub, 1) := by decide +kernel
theorem dX12_goes_116 : decode cX12_goes 116 = .ok (.iastore, 1) := by decide +kernel
theorem dX12_goes_117 : decode cX12_goes 117 = .ok (.aload_n 0, 1) := by decide +kernel
theorem dX12_goes_118 : decode cX12_goes 118 = .ok (.bipush 6, 2) := by decide +kernel
theorem dX12_goes_120 : decode cX12_goes 120 = .ok (.iload_n 3, 1) := by decide +kernel
theorem dX12_goes_121 : decode cX12_goes 121 = .ok (.iadd, 1) := by decide +kernel
theorem dX12_goes_122 : decode cX12_goes 122 = .ok (.iconst 2, 1) := by decide +kernel
theorem dX12_goes_123 : decode cX12_goes 123 = .ok (.iload 4, 2) := by decide +kernel
theorem dX12_goes_125 : decode cX12_goes 125 = .ok (.imul, 1) := by decide +kernel
theorem dX12_goes_126 : decode cX12_goes 126 = .ok (.invokevirtual 368, 3) := by decide +kernel
theorem dX12_goes_129 : decode cX12_goes 129 = .ok (.iconst 1, 1) := by decide +kernel
theorem dX12_goes_130 : decode cX12_goes 130 = .ok (.ireturn, 1) := by decide +kernel
theorem dX12_take_0 : decode cX12_take 0 = .ok (.aload_n 0, 1) := by decide +kernel
theorem dX12_take_1 : decode cX12_take 1 = .ok (.aload_n 0, 1) := by decide +kernel
theorem dX12_take_2 : decode cX12_take 2 = .ok (.getfield 74, 3) := by decide +kernel
theorem dX12_take_5 : decode cX12_take 5 = .ok (.aload_n 0, 1) := by decide +kernel
theorem dX12_take_6 : decode cX12_take 6 = .ok (.getfield 77, 3) := by decide +kernel
theorem dX12_take_9 : decode cX12_take 9 = .ok (.bipush 50, 2) := by decide +kernel
theorem dX12_take_11 : decode cX12_take 11 = .ok (.invokevirtual 198, 3) := by decide +kernel
theorem dX12_take_14 : decode cX12_take 14 = .ok (.return_, 1) := by decide +kernel
theorem dX12_book_0 : decode cX12_book 0 = .ok (.aload_n 0, 1) := by decide +kernel
theorem dX12_book_1 : decode cX12_book 1 = .ok (.iconst 0, 1) := by decide +kernel
theorem dX12_book_2 : decode cX12_book 2 = .ok (.putfield 3, 3) := by decide +kernel
theorem dX12_book_5 : decode cX12_book 5 = .ok (.aload_n 0, 1) := by decide +kernel
theorem dX12_book_6 : decode cX12_book 6 = .ok (.iload_n 1, 1) := by decide +kernel
theorem dX12_book_7 : decode cX12_book 7 = .ok (.ifCond .lt 21, 3) := by decide +kernel
theorem dX12_book_10 : decode cX12_book 10 = .ok (.iload_n 1, 1) := by decide +kernel
theorem dX12_book_11 : decode cX12_book 11 = .ok (.aload_n 0, 1) := by decide +kernel
theorem dX12_book_12 : decode cX12_book 12 = .ok (.getfield 116, 3) := by decide +kernel
theorem dX12_book_15 : decode cX12_book 15 = .ok (.if_icmp .gt 13, 3) := by decide +kernel
theorem dX12_book_18 : decode cX12_book 18 = .ok (.iload_n 1, 1) := by decide +kernel
theorem dX12_book_19 : decode cX12_book 19 = .ok (.bipush 100, 2) := by decide +kernel
theorem dX12_book_21 : decode cX12_book 21 = .ok (.if_icmp .gt 7, 3) := by decide +kernel
theorem dX12_book_24 : decode cX12_book 24 = .ok (.iconst 1, 1) := by decide +kernel
theorem dX12_book_25 : decode cX12_book 25 = .ok (.goto 4, 3) := by decide +kernel
theorem dX12_book_28 : decode cX12_book 28 = .ok (.iconst 0, 1) := by decide +kernel
theorem dX12_book_29 : decode cX12_book 29 = .ok (.iconst 1, 1) := by decide +kernel
theorem dX12_book_30 : decode cX12_book 30 = .ok (.iconst 1, 1) := by decide +kernel
theorem dX12_book_31 : decode cX12_book 31 = .ok (.invokevirtual 229, 3) := by decide +kernel
theorem dX12_book_34 : decode cX12_book 34 = .ok (.ifCond .ne 5, 3) := by decide +kernel
theorem dX12_book_37 : decode cX12_book 37 = .ok (.iconst 0, 1) := by decide +kernel
theorem dX12_book_38 : decode cX12_book 38 = .ok (.ireturn, 1) := by decide +kernel
theorem dX12_book_39 : decode cX12_book 39 = .ok (.aload_n 0, 1) := by decide +kernel
theorem dX12_book_40 : decode cX12_book 40 = .ok (.iload_n 1, 1) := by decide +kernel
theorem dX12_book_41 : decode cX12_book 41 = .ok (.invokevirtual 233, 3) := by decide +kernel
theorem dX12_book_44 : decode cX12_book 44 = .ok (.iconst 0, 1) := by decide +kernel
theorem dX12_book_45 : decode cX12_book 45 = .ok (.istore_n 2, 1) := by decide +kernel
theorem dX12_book_46 : decode cX12_book 46 = .ok (.iconst 0, 1) := by decide +kernel
theorem dX12_book_47 : decode cX12_book 47 = .ok (.istore_n 3, 1) := by decide +kernel
theorem dX12_book_48 : decode cX12_book 48 = .ok (.aload_n 0, 1) := by decide +kernel
theorem dX12_book_49 : decode cX12_book 49 = .ok (.invokevirtual 148, 3) := by decide +kernel
theorem dX12_book_52 : decode cX12_book 52 = .ok (.ifCond .eq 133, 3) := by decide +kernel
theorem dX12_book_55 : decode cX12_book 55 = .ok (.aload_n 0, 1) := by decide +kernel
theorem dX12_book_56 : decode cX12_book 56 = .ok (.invokevirtual 237, 3) := by decide +kernel
theorem dX12_book_59 : decode cX12_book 59 = .ok (.ifCond .eq 126, 3) := by decide +kernel
theorem dX12_book_62 : decode cX12_book 62 = .ok (.aload_n 0, 1) := by decide +kernel
theorem dX12_book_63 : decode cX12_book 63 = .ok (.getfield 125, 3) := by decide +kernel
theorem dX12_book_66 : decode cX12_book 66 = .ok (.istore 4, 2) := by decide +kernel
theorem dX12_book_68 : decode cX12_book 68 = .ok (.aload_n 0, 1) := by decide +kernel
theorem dX12_book_69 : decode cX12_book 69 = .ok (.iconst 0, 1) := by decide +kernel
theorem dX12_book_70 : decode cX12_book 70 = .ok (.aload_n 0, 1) := by decide +kernel
theorem dX12_book_71 : decode cX12_book 71 = .ok (.getfield 180, 3) := by decide +kernel
theorem dX12_book_74 : decode cX12_book 74 = .ok (.iconst 1, 1) := by decide +kernel
theorem dX12_book_75 : decode cX12_book 75 = .ok (.isub, 1) := by decide +kernel
theorem dX12_book_76 : decode cX12_book 76 = .ok (.invokevirtual 220, 3) := by decide +kernel
theorem dX12_book_79 : decode cX12_book 79 = .ok (.istore 5, 2) := by decide +kernel
theorem dX12_book_81 : decode cX12_book 81 = .ok (.aload_n 0, 1) := by decide +kernel
theorem dX12_book_82 : decode cX12_book 82 = .ok (.invokevirtual 148, 3) := by decide +kernel
theorem dX12_book_85 : decode cX12_book 85 = .ok (.ifCond .eq 20, 3) := by decide +kernel
theorem dX12_book_88 : decode cX12_book 88 = .ok (.iload_n 3, 1) := by decide +kernel
theorem dX12_book_89 : decode cX12_book 89 = .ok (.iload 5, 2) := by decide +kernel
theorem dX12_book_91 : decode cX12_book 91 = .ok (.ishr, 1) := by decide +kernel
theorem dX12_book_92 : decode cX12_book 92 = .ok (.iconst 1, 1) := by decide +kernel
theorem dX12_book_93 : decode cX12_book 93 = .ok (.iand, 1) := by decide +kernel
theorem dX12_book_94 : decode cX12_book 94 = .ok (.iconst 1, 1) := by decide +kernel
theorem dX12_book_95 : decode cX12_book 95 = .ok (.if_icmp .ne 10, 3) := by decide +kernel
theorem dX12_book_98 : decode cX12_book 98 = .ok (.aload_n 0, 1) := by decide +kernel
theorem dX12_book_99 : decode cX12_book 99 = .ok (.iconst 2, 1) := by decide +kernel
theorem dX12_book_100 : decode cX12_book 100 = .ok (.iload 4, 2) := by decide +kernel
theorem dX12_book_102 : decode cX12_book 102 = .ok (.invokevirtual 155, 3) := by decide +kernel
theorem dX12_book_105 : decode cX12_book 105 = .ok (.aload_n 0, 1) := by decide +kernel
theorem dX12_book_106 : decode cX12_book 106 = .ok (.invokevirtual 148, 3) := by decide +kernel
theorem dX12_book_109 : decode cX12_book 109 = .ok (.ifCond .eq 16, 3) := by decide +kernel
theorem dX12_book_112 : decode cX12_book 112 = .ok (.iload_n 2, 1) := by decide +kernel
theorem dX12_book_113 : decode cX12_book 113 = .ok (.bipush 6, 2) := by decide +kernel
theorem dX12_book_115 : decode cX12_book 115 = .ok (.if_icmp .ne 10, 3) := by decide +kernel
theorem dX12_book_118 : decode cX12_book 118 = .ok (.aload_n 0, 1) := by decide +kernel
theorem dX12_book_119 : decode cX12_book 119 = .ok (.iconst 3, 1) := by decide +kernel
theorem dX12_book_120 : decode cX12_book 120 = .ok (.iload 4, 2) := by decide +kernel
theorem dX12_book_122 : decode cX12_book 122 = .ok (.invokevirtual 155, 3) := by decide +kernel
theorem dX12_book_125 : decode cX12_book 125 = .ok (.aload_n 0, 1) := by decide +kernel
theorem dX12_book_126 : decode cX12_book 126 = .ok (.iconst 0, 1) := by decide +kernel
theorem dX12_book_127 : decode cX12_book 127 = .ok (.bipush 99, 2) := by decide +kernel
theorem dX12_book_129 : decode cX12_book 129 = .ok (.invokevirtual 220, 3) := by decide +kernel
theorem dX12_book_132 : decode cX12_book 132 = .ok (.istore 6, 2) := by decide +kernel
theorem dX12_book_134 : decode cX12_book 134 = .ok (.aload_n 0, 1) := by decide +kernel
theorem dX12_book_135 : decode cX12_book 135 = .ok (.bipush 59, 2) := by decide +kernel
theorem dX12_book_137 : decode cX12_book 137 = .ok (.invokevirtual 254, 3) := by decide +kernel
theorem dX12_book_140 : decode cX12_book 140 = .ok (.aload_n 0, 1) := by decide +kernel
theorem dX12_book_141 : decode cX12_book 141 = .ok (.invokevirtual 148, 3) := by decide +kernel
theorem dX12_book_144 : decode cX12_book 144 = .ok (.ifCond .ne 6, 3) := by decide +kernel
theorem dX12_book_147 : decode cX12_book 147 = .ok (.goto 38, 3) := by decide +kernel
theorem dX12_book_150 : decode cX12_book 150 = .ok (.iload_n 3, 1) := by decide +kernel
theorem dX12_book_151 : decode cX12_book 151 = .ok (.iconst 1, 1) := by decide +kernel
theorem dX12_book_152 : decode cX12_book 152 = .ok (.iload 5, 2) := by decide +kernel
theorem dX12_book_154 : decode cX12_book 154 = .ok (.ishl, 1) := by decide +kernel
theorem dX12_book_155 : decode cX12_book 155 = .ok (.ior, 1) := by decide +kernel
theorem dX12_book_156 : decode cX12_book 156 = .ok (.istore_n 3, 1) := by decide +kernel
theorem dX12_book_157 : decode cX12_book 157 = .ok (.aload_n 0, 1) := by decide +kernel
theorem dX12_book_158 : decode cX12_book 158 = .ok (.getfield 83, 3) := by decide +kernel
theorem dX12_book_161 : decode cX12_book 161 = .ok (.iconst 2, 1) := by decide +kernel
theorem dX12_book_162 : decode cX12_book 162 = .ok (.iload_n 2, 1) := by decide +kernel
theorem dX12_book_163 : decode cX12_book 163 = .ok (.imul, 1) := by decide +kernel
theorem dX12_book_164 : decode cX12_book 164 = .ok (.iload 5, 2) := by decide +kernel
theorem dX12_book_166 : decode cX12_book 166 = .ok (.iastore, 1) := by decide +kernel
theorem dX12_book_167 : decode cX12_book 167 = .ok (.aload_n 0, 1) := by decide +kernel
theorem dX12_book_168 : decode cX12_book 168 = .ok (.getfield 83, 3) := by decide +kernel
theorem dX12_book_171 : decode cX12_book 171 = .ok (.iconst 2, 1) := by decide +kernel
theorem dX12_book_172 : decode cX12_book 172 = .ok (.iload_n 2, 1) := by decide +kernel
theorem dX12_book_173 : decode cX12_book 173 = .ok (.imul, 1) := by decide +kernel
theorem dX12_book_174 : decode cX12_book 174 = .ok (.iconst 1, 1) := by decide +kernel
theorem dX12_book_175 : decode cX12_book 175 = .ok (.iadd, 1) := by decide +kernel
theorem dX12_book_176 : decode cX12_book 176 = .ok (.iload 6, 2) := by decide +kernel
theorem dX12_book_178 : decode cX12_book 178 = .ok (.iastore, 1) := by decide +kernel
theorem dX12_book_179 : decode cX12_book 179 = .ok (.iinc 2 1, 3) := by decide +kernel
theorem dX12_book_182 : decode cX12_book 182 = .ok (.goto (-134), 3) := by decide +kernel
theorem dX12_book_185 : decode cX12_book 185 = .ok (.aload_n 0, 1) := by decide +kernel
theorem dX12_book_186 : decode cX12_book 186 = .ok (.iload_n 2, 1) := by decide +kernel
theorem dX12_book_187 : decode cX12_book 187 = .ok (.invokevirtual 257, 3) := by decide +kernel
theorem dX12_book_190 : decode cX12_book 190 = .ok (.istore 4, 2) := by decide +kernel
theorem dX12_book_192 : decode cX12_book 192 = .ok (.aload_n 0, 1) := by decide +kernel
theorem dX12_book_193 : decode cX12_book 193 = .ok (.getfield 119, 3) := by decide +kernel
theorem dX12_book_196 : decode cX12_book 196 = .ok (.iconst (-1), 1) := by decide +kernel
theorem dX12_book_197 : decode cX12_book 197 = .ok (.if_icmp .eq 6, 3) := by decide +kernel
theorem dX12_book_200 : decode cX12_book 200 = .ok (.iload 4, 2) := by decide +kernel
theorem dX12_book_202 : decode cX12_book 202 = .ok (.ireturn, 1) := by decide +kernel
theorem dX12_book_203 : decode cX12_book 203 = .ok (.aload_n 0, 1) := by decide +kernel
theorem dX12_book_204 : decode cX12_book 204 = .ok (.iload_n 2, 1) := by decide +kernel
theorem dX12_book_205 : decode cX12_book 205 = .ok (.putfield 202, 3) := by decide +kernel
theorem dX12_book_208 : decode cX12_book 208 = .ok (.aload_n 0, 1) := by decide +kernel
theorem dX12_book_209 : decode cX12_book 209 = .ok (.aload_n 0, 1) := by decide +kernel
theorem dX12_book_210 : decode cX12_book 210 = .ok (.getfield 83, 3) := by decide +kernel
theorem dX12_book_213 : decode cX12_book 213 = .ok (.aload_n 0, 1) := by decide +kernel
theorem dX12_book_214 : decode cX12_book 214 = .ok (.getfield 86, 3) := by decide +kernel
theorem dX12_book_217 : decode cX12_book 217 = .ok (.iconst 2, 1) := by decide +kernel
theorem dX12_book_218 : decode cX12_book 218 = .ok (.iload_n 2, 1) := by decide +kernel
theorem dX12_book_219 : decode cX12_book 219 = .ok (.imul, 1) := by decide +kernel
theorem dX12_book_220 : decode cX12_book 220 = .ok (.invokevirtual 198, 3) := by decide +kernel
theorem dX12_book_223 : decode cX12_book 223 = .ok (.iload 4, 2) := by decide +kernel
theorem dX12_book_225 : decode cX12_book 225 = .ok (.ireturn, 1) := by decide +kernel
theorem dX12_undo_0 : decode cX12_undo 0 = .ok (.aload_n 0, 1) := by decide +kernel
theorem dX12_undo_1 : decode cX12_undo 1 = .ok (.iconst 0, 1) := by decide +kernel
theorem dX12_undo_2 : decode cX12_undo 2 = .ok (.putfield 3, 3) := by decide +kernel
theorem dX12_undo_5 : decode cX12_undo 5 = .ok (.aload_n 0, 1) := by decide +kernel
theorem dX12_undo_6 : decode cX12_undo 6 = .ok (.getfield 205, 3) := by decide +kernel
theorem dX12_undo_9 : decode cX12_undo 9 = .ok (.ifCond .ne 5, 3) := by decide +kernel
theorem dX12_undo_12 : decode cX12_undo 12 = .ok (.iconst (-1), 1) := by decide +kernel
theorem dX12_undo_13 : decode cX12_undo 13 = .ok (.ireturn, 1) := by decide +kernel
theorem dX12_undo_14 : decode cX12_undo 14 = .ok (.aload_n 0, 1) := by decide +kernel
theorem dX12_undo_15 : decode cX12_undo 15 = .ok (.dup, 1) := by decide +kernel
theorem dX12_undo_16 : decode cX12_undo 16 = .ok (.getfield 205, 3) := by decide +kernel
theorem dX12_undo_19 : decode cX12_undo 19 = .ok (.iconst 1, 1) := by decide +kernel
theorem dX12_undo_20 : decode cX12_undo 20 = .ok (.isub, 1) := by decide +kernel
theorem dX12_undo_21 : decode cX12_undo 21 = .ok (.putfield 205, 3) := by decide +kernel
theorem dX12_undo_24 : decode cX12_undo 24 = .ok (.iconst 0, 1) := by decide +kernel
theorem dX12_undo_25 : decode cX12_undo 25 = .ok (.istore_n 1, 1) := by decide +kernel
theorem dX12_undo_26 : decode cX12_undo 26 = .ok (.iload_n 1, 1) := by decide +kernel
theorem dX12_undo_27 : decode cX12_undo 27 = .ok (.bipush 50, 2) := by decide +kernel
theorem dX12_undo_29 : decode cX12_undo 29 = .ok (.if_icmp .ge 29, 3) := by decide +kernel
theorem dX12_undo_32 : decode cX12_undo 32 = .ok (.aload_n 0, 1) := by decide +kernel
theorem dX12_undo_33 : decode cX12_undo 33 = .ok (.getfield 74, 3) := by decide +kernel
theorem dX12_undo_36 : decode cX12_undo 36 = .ok (.iload_n 1, 1) := by decide +kernel
theorem dX12_undo_37 : decode cX12_undo 37 = .ok (.aload_n 0, 1) := by decide +kernel
theorem dX12_undo_38 : decode cX12_undo 38 = .ok (.getfield 80, 3) := by decide +kernel
theorem dX12_undo_41 : decode cX12_undo 41 = .ok (.bipush 50, 2) := by decide +kernel
theorem dX12_undo_43 : decode cX12_undo 43 = .ok (.aload_n 0, 1) := by decide +kernel
theorem dX12_undo_44 : decode cX12_undo 44 = .ok (.getfield 205, 3) := by decide +kernel
theorem dX12_undo_47 : decode cX12_undo 47 = .ok (.imul, 1) := by decide +kernel
theorem dX12_undo_48 : decode cX12_undo 48 = .ok (.iload_n 1, 1) := by decide +kernel
theorem dX12_undo_49 : decode cX12_undo 49 = .ok (.iadd, 1) := by decide +kernel
theorem dX12_undo_50 : decode cX12_undo 50 = .ok (.iaload, 1) := by decide +kernel
theorem dX12_undo_51 : decode cX12_undo 51 = .ok (.iastore, 1) := by decide +kernel
theorem dX12_undo_52 : decode cX12_undo 52 = .ok (.iinc 1 1, 3) := by decide +kernel
theorem dX12_undo_55 : decode cX12_undo 55 = .ok (.goto (-29), 3) := by decide +kernel
theorem dX12_undo_58 : decode cX12_undo 58 = .ok (.aload_n 0, 1) := by decide +kernel
theorem dX12_undo_59 : decode cX12_undo 59 = .ok (.iconst 0, 1) := by decide +kernel
theorem dX12_undo_60 : decode cX12_undo 60 = .ok (.putfield 211, 3) := by decide +kernel
theorem dX12_undo_63 : decode cX12_undo 63 = .ok (.aload_n 0, 1) := by decide +kernel
theorem dX12_undo_64 : decode cX12_undo 64 = .ok (.getfield 205, 3) := by decide +kernel
theorem dX12_undo_67 : decode cX12_undo 67 = .ok (.ireturn, 1) := by decide +kernel
theorem dX12_sum_0 : decode cX12_sum 0 = .ok (.iconst 0, 1) := by decide +kernel
theorem dX12_sum_1 : decode cX12_sum 1 = .ok (.istore_n 2, 1) := by decide +kernel
theorem dX12_sum_2 : decode cX12_sum 2 = .ok (.iconst 0, 1) := by decide +kernel
theorem dX12_sum_3 : decode cX12_sum 3 = .ok (.istore_n 3, 1) := by decide +kernel
theorem dX12_sum_4 : decode cX12_sum 4 = .ok (.iload_n 3, 1) := by decide +kernel
theorem dX12_sum_5 : decode cX12_sum 5 = .ok (.aload_n 0, 1) := by decide +kernel
theorem dX12_sum_6 : decode cX12_sum 6 = .ok (.getfield 180, 3) := by decide +kernel
theorem dX12_sum_9 : decode cX12_sum 9 = .ok (.if_icmp .ge 20, 3) := by decide +kernel
theorem dX12_sum_12 : decode cX12_sum 12 = .ok (.iload_n 2, 1) := by decide +kernel
theorem dX12_sum_13 : decode cX12_sum 13 = .ok (.aload_n 0, 1) := by decide +kernel
theorem dX12_sum_14 : decode cX12_sum 14 = .ok (.getfield 74, 3) := by decide +kernel
theorem dX12_sum_17 : decode cX12_sum 17 = .ok (.iload_n 1, 1) := by decide +kernel
theorem dX12_sum_18 : decode cX12_sum 18 = .ok (.iload_n 3, 1) := by decide +kernel
theorem dX12_sum_19 : decode cX12_sum 19 = .ok (.iadd, 1) := by decide +kernel
theorem dX12_sum_20 : decode cX12_sum 20 = .ok (.iaload, 1) := by decide +kernel
theorem dX12_sum_21 : decode cX12_sum 21 = .ok (.iadd, 1) := by decide +kernel
theorem dX12_sum_22 : decode cX12_sum 22 = .ok (.istore_n 2, 1) := by decide +kernel
theorem dX12_sum_23 : decode cX12_sum 23 = .ok (.iinc 3 1, 3) := by decide +kernel
theorem dX12_sum_26 : decode cX12_sum 26 = .ok (.goto (-22), 3) := by decide +kernel
theorem dX12_sum_29 : decode cX12_sum 29 = .ok (.iload_n 2, 1) := by decide +kernel
theorem dX12_sum_30 : decode cX12_sum 30 = .ok (.ireturn, 1) := by decide +kernel
theorem dX12_told_0 : decode cX12_told 0 = .ok (.aload_n 0, 1) := by decide +kernel
theorem dX12_told_1 : decode cX12_told 1 = .ok (.iconst 0, 1) := by decide +kernel
theorem dX12_told_2 : decode cX12_told 2 = .ok (.putfield 3, 3) := by decide +kernel
theorem dX12_told_5 : decode cX12_told 5 = .ok (.aload_n 0, 1) := by decide +kernel
theorem dX12_told_6 : decode cX12_told 6 = .ok (.iload_n 1, 1) := by decide +kernel
theorem dX12_told_7 : decode cX12_told 7 = .ok (.iconst 0, 1) := by decide +kernel
theorem dX12_told_8 : decode cX12_told 8 = .ok (.bipush 9, 2) := by decide +kernel
theorem dX12_told_10 : decode cX12_told 10 = .ok (.invokestatic 303, 3) := by decide +kernel
theorem dX12_told_13 : decode cX12_told 13 = .ok (.iconst 1, 1) := by decide +kernel
theorem dX12_told_14 : decode cX12_told 14 = .ok (.iconst 1, 1) := by decide +kernel
theorem dX12_told_15 : decode cX12_told 15 = .ok (.invokevirtual 229, 3) := by decide +kernel
theorem dX12_told_18 : decode cX12_told 18 = .ok (.ifCond .ne 5, 3) := by decide +kernel
theorem dX12_told_21 : decode cX12_told 21 = .ok (.iconst 0, 1) := by decide +kernel
theorem dX12_told_22 : decode cX12_told 22 = .ok (.ireturn, 1) := by decide +kernel
theorem dX12_told_23 : decode cX12_told 23 = .ok (.iload_n 1, 1) := by decide +kernel
theorem dX12_told_24 : decode cX12_told 24 = .ok (.iconst 4, 1) := by decide +kernel
theorem dX12_told_25 : decode cX12_told 25 = .ok (.if_icmp .ge 43, 3) := by decide +kernel
theorem dX12_told_28 : decode cX12_told 28 = .ok (.iload_n 1, 1) := by decide +kernel
theorem dX12_told_29 : decode cX12_told 29 = .ok (.ifCond .ne 10, 3) := by decide +kernel
theorem dX12_told_32 : decode cX12_told 32 = .ok (.aload_n 0, 1) := by decide +kernel
theorem dX12_told_33 : decode cX12_told 33 = .ok (.getfield 180, 3) := by decide +kernel
theorem dX12_told_36 : decode cX12_told 36 = .ok (.goto 31, 3) := by decide +kernel
theorem dX12_told_39 : decode cX12_told 39 = .ok (.iload_n 1, 1) := by decide +kernel
theorem dX12_told_40 : decode cX12_told 40 = .ok (.iconst 1, 1) := by decide +kernel
theorem dX12_told_41 : decode cX12_told 41 = .ok (.if_icmp .ne 10, 3) := by decide +kernel
theorem dX12_told_44 : decode cX12_told 44 = .ok (.aload_n 0, 1) := by decide +kernel
theorem dX12_told_45 : decode cX12_told 45 = .ok (.getfield 183, 3) := by decide +kernel
theorem dX12_told_48 : decode cX12_told 48 = .ok (.goto 19, 3) := by decide +kernel
theorem dX12_told_51 : decode cX12_told 51 = .ok (.iload_n 1, 1) := by decide +kernel
theorem dX12_told_52 : decode cX12_told 52 = .ok (.iconst 2, 1) := by decide +kernel
theorem dX12_told_53 : decode cX12_told 53 = .ok (.if_icmp .ne 10, 3) := by decide +kernel
theorem dX12_told_56 : decode cX12_told 56 = .ok (.aload_n 0, 1) := by decide +kernel
theorem dX12_told_57 : decode cX12_told 57 = .ok (.getfield 186, 3) := by decide +kernel
theorem dX12_told_60 : decode cX12_told 60 = .ok (.goto 7, 3) := by decide +kernel
theorem dX12_told_63 : decode cX12_told 63 = .ok (.aload_n 0, 1) := by decide +kernel
theorem dX12_told_64 : decode cX12_told 64 = .ok (.getfield 189, 3) := by decide +kernel
theorem dX12_told_67 : decode cX12_told 67 = .ok (.ireturn, 1) := by decide +kernel
theorem dX12_told_68 : decode cX12_told 68 = .ok (.iload_n 1, 1) := by decide +kernel
theorem dX12_told_69 : decode cX12_told 69 = .ok (.bipush 6, 2) := by decide +kernel
theorem dX12_told_71 : decode cX12_told 71 = .ok (.if_icmp .ge 26, 3) := by decide +kernel
theorem dX12_told_74 : decode cX12_told 74 = .ok (.iload_n 1, 1) := by decide +kernel
theorem dX12_told_75 : decode cX12_told 75 = .ok (.iconst 4, 1) := by decide +kernel
theorem dX12_told_76 : decode cX12_told 76 = .ok (.if_icmp .ne 13, 3) := by decide +kernel
theorem dX12_told_79 : decode cX12_told 79 = .ok (.aload_n 0, 1) := by decide +kernel
theorem dX12_told_80 : decode cX12_told 80 = .ok (.getfield 74, 3) := by decide +kernel
theorem dX12_told_83 : decode cX12_told 83 = .ok (.bipush 48, 2) := by decide +kernel
theorem dX12_told_85 : decode cX12_told 85 = .ok (.iaload, 1) := by decide +kernel
theorem dX12_told_86 : decode cX12_told 86 = .ok (.goto 10, 3) := by decide +kernel
theorem dX12_told_89 : decode cX12_told 89 = .ok (.aload_n 0, 1) := by decide +kernel
theorem dX12_told_90 : decode cX12_told 90 = .ok (.getfield 74, 3) := by decide +kernel
theorem dX12_told_93 : decode cX12_told 93 = .ok (.bipush 49, 2) := by decide +kernel
theorem dX12_told_95 : decode cX12_told 95 = .ok (.iaload, 1) := by decide +kernel
theorem dX12_told_96 : decode cX12_told 96 = .ok (.ireturn, 1) := by decide +kernel
theorem dX12_told_97 : decode cX12_told 97 = .ok (.iload_n 1, 1) := by decide +kernel
theorem dX12_told_98 : decode cX12_told 98 = .ok (.bipush 8, 2) := by decide +kernel
theorem dX12_told_100 : decode cX12_told 100 = .ok (.if_icmp .ge 20, 3) := by decide +kernel
theorem dX12_told_103 : decode cX12_told 103 = .ok (.aload_n 0, 1) := by decide +kernel
theorem dX12_told_104 : decode cX12_told 104 = .ok (.iload_n 1, 1) := by decide +kernel
theorem dX12_told_105 : decode cX12_told 105 = .ok (.bipush 6, 2) := by decide +kernel
theorem dX12_told_107 : decode cX12_told 107 = .ok (.if_icmp .ne 7, 3) := by decide +kernel
theorem dX12_told_110 : decode cX12_told 110 = .ok (.iconst 0, 1) := by decide +kernel
theorem dX12_told_111 : decode cX12_told 111 = .ok (.goto 5, 3) := by decide +kernel
theorem dX12_told_114 : decode cX12_told 114 = .ok (.bipush 6, 2) := by decide +kernel
theorem dX12_told_116 : decode cX12_told 116 = .ok (.invokevirtual 390, 3) := by decide +kernel
theorem dX12_told_119 : decode cX12_told 119 = .ok (.ireturn, 1) := by decide +kernel
theorem dX12_told_120 : decode cX12_told 120 = .ok (.iload_n 1, 1) := by decide +kernel
theorem dX12_told_121 : decode cX12_told 121 = .ok (.bipush 8, 2) := by decide +kernel
theorem dX12_told_123 : decode cX12_told 123 = .ok (.if_icmp .ne 10, 3) := by decide +kernel
theorem dX12_told_126 : decode cX12_told 126 = .ok (.aload_n 0, 1) := by decide +kernel
theorem dX12_told_127 : decode cX12_told 127 = .ok (.getfield 202, 3) := by decide +kernel
theorem dX12_told_130 : decode cX12_told 130 = .ok (.goto 7, 3) := by decide +kernel
theorem dX12_told_133 : decode cX12_told 133 = .ok (.aload_n 0, 1) := by decide +kernel
theorem dX12_told_134 : decode cX12_told 134 = .ok (.getfield 211, 3) := by decide +kernel
theorem dX12_told_137 : decode cX12_told 137 = .ok (.ireturn, 1) := by decide +kernel
theorem dX12_isPlace_0 : decode cX12_isPlace 0 = .ok (.aload_n 0, 1) := by decide +kernel
theorem dX12_isPlace_1 : decode cX12_isPlace 1 = .ok (.iload_n 1, 1) := by decide +kernel
theorem dX12_isPlace_2 : decode cX12_isPlace 2 = .ok (.iconst 0, 1) := by decide +kernel
theorem dX12_isPlace_3 : decode cX12_isPlace 3 = .ok (.aload_n 0, 1) := by decide +kernel
theorem dX12_isPlace_4 : decode cX12_isPlace 4 = .ok (.getfield 180, 3) := by decide +kernel
theorem dX12_isPlace_7 : decode cX12_isPlace 7 = .ok (.iconst 1, 1) := by decide +kernel
theorem dX12_isPlace_8 : decode cX12_isPlace 8 = .ok (.isub, 1) := by decide +kernel
theorem dX12_isPlace_9 : decode cX12_isPlace 9 = .ok (.invokestatic 303, 3) := by decide +kernel
theorem dX12_isPlace_12 : decode cX12_isPlace 12 = .ok (.iload_n 2, 1) := by decide +kernel
theorem dX12_isPlace_13 : decode cX12_isPlace 13 = .ok (.iconst 0, 1) := by decide +kernel
theorem dX12_isPlace_14 : decode cX12_isPlace 14 = .ok (.invokevirtual 229, 3) := by decide +kernel
theorem dX12_isPlace_17 : decode cX12_isPlace 17 = .ok (.ireturn, 1) := by decide +kernel
theorem dX12_isMine_0 : decode cX12_isMine 0 = .ok (.aload_n 0, 1) := by decide +kernel
theorem dX12_isMine_1 : decode cX12_isMine 1 = .ok (.iload_n 1, 1) := by decide +kernel
theorem dX12_isMine_2 : decode cX12_isMine 2 = .ok (.iconst 0, 1) := by decide +kernel
theorem dX12_isMine_3 : decode cX12_isMine 3 = .ok (.aload_n 0, 1) := by decide +kernel
theorem dX12_isMine_4 : decode cX12_isMine 4 = .ok (.getfield 186, 3) := by decide +kernel
theorem dX12_isMine_7 : decode cX12_isMine 7 = .ok (.iconst 1, 1) := by decide +kernel
theorem dX12_isMine_8 : decode cX12_isMine 8 = .ok (.isub, 1) := by decide +kernel
theorem dX12_isMine_9 : decode cX12_isMine 9 = .ok (.invokestatic 303, 3) := by decide +kernel
theorem dX12_isMine_12 : decode cX12_isMine 12 = .ok (.iload_n 2, 1) := by decide +kernel
theorem dX12_isMine_13 : decode cX12_isMine 13 = .ok (.iconst 0, 1) := by decide +kernel
theorem dX12_isMine_14 : decode cX12_isMine 14 = .ok (.invokevirtual 229, 3) := by decide +kernel
theorem dX12_isMine_17 : decode cX12_isMine 17 = .ok (.ireturn, 1) := by decide +kernel
theorem dX12_isWant_0 : decode cX12_isWant 0 = .ok (.aload_n 0, 1) := by decide +kernel
theorem dX12_isWant_1 : decode cX12_isWant 1 = .ok (.iload_n 1, 1) := by decide +kernel
theorem dX12_isWant_2 : decode cX12_isWant 2 = .ok (.iconst 0, 1) := by decide +kernel
theorem dX12_isWant_3 : decode cX12_isWant 3 = .ok (.aload_n 0, 1) := by decide +kernel
theorem dX12_isWant_4 : decode cX12_isWant 4 = .ok (.getfield 183, 3) := by decide +kernel
theorem dX12_isWant_7 : decode cX12_isWant 7 = .ok (.iconst 1, 1) := by decide +kernel
theorem dX12_isWant_8 : decode cX12_isWant 8 = .ok (.isub, 1) := by decide +kernel
theorem dX12_isWant_9 : decode cX12_isWant 9 = .ok (.invokestatic 303, 3) := by decide +kernel
theorem dX12_isWant_12 : decode cX12_isWant 12 = .ok (.iload_n 2, 1) := by decide +kernel
theorem dX12_isWant_13 : decode cX12_isWant 13 = .ok (.iconst 0, 1) := by decide +kernel
theorem dX12_isWant_14 : decode cX12_isWant 14 = .ok (.invokevirtual 229, 3) := by decide +kernel
theorem dX12_isWant_17 : decode cX12_isWant 17 = .ok (.ireturn, 1) := by decide +kernel
theorem dX12_hoursOf_0 : decode cX12_hoursOf 0 = .ok (.iconst 0, 1) := by decide +kernel
theorem dX12_hoursOf_1 : decode cX12_hoursOf 1 = .ok (.istore_n 3, 1) := by decide +kernel
theorem dX12_hoursOf_2 : decode cX12_hoursOf 2 = .ok (.iconst 0, 1) := by decide +kernel
theorem dX12_hoursOf_3 : decode cX12_hoursOf 3 = .ok (.istore 4, 2) := by decide +kernel
theorem dX12_hoursOf_5 : decode cX12_hoursOf 5 = .ok (.iload 4, 2) := by decide +kernel
theorem dX12_hoursOf_7 : decode cX12_hoursOf 7 = .ok (.aload_n 0, 1) := by decide +kernel
theorem dX12_hoursOf_8 : decode cX12_hoursOf 8 = .ok (.getfield 183, 3) := by decide +kernel
theorem dX12_hoursOf_11 : decode cX12_hoursOf 11 = .ok (.if_icmp .ge 69, 3) := by decide +kernel
theorem dX12_hoursOf_14 : decode cX12_hoursOf 14 = .ok (.iload_n 3, 1) := by decide +kernel
theorem dX12_hoursOf_15 : decode cX12_hoursOf 15 = .ok (.aload_n 0, 1) := by decide +kernel
theorem dX12_hoursOf_16 : decode cX12_hoursOf 16 = .ok (.getfield 77, 3) := by decide +kernel
theorem dX12_hoursOf_19 : decode cX12_hoursOf 19 = .ok (.bipush 18, 2) := by decide +kernel
theorem dX12_hoursOf_21 : decode cX12_hoursOf 21 = .ok (.iload 4, 2) := by decide +kernel
theorem dX12_hoursOf_23 : decode cX12_hoursOf 23 = .ok (.iadd, 1) := by decide +kernel
theorem dX12_hoursOf_24 : decode cX12_hoursOf 24 = .ok (.iaload, 1) := by decide +kernel
theorem dX12_hoursOf_25 : decode cX12_hoursOf 25 = .ok (.iconst 1, 1) := by decide +kernel
theorem dX12_hoursOf_26 : decode cX12_hoursOf 26 = .ok (.if_icmp .ne 45, 3) := by decide +kernel
theorem dX12_hoursOf_29 : decode cX12_hoursOf 29 = .ok (.aload_n 0, 1) := by decide +kernel
theorem dX12_hoursOf_30 : decode cX12_hoursOf 30 = .ok (.getfield 38, 3) := by decide +kernel
theorem dX12_hoursOf_33 : decode cX12_hoursOf 33 = .ok (.iconst 4, 1) := by decide +kernel
theorem dX12_hoursOf_34 : decode cX12_hoursOf 34 = .ok (.iload 4, 2) := by decide +kernel
theorem dX12_hoursOf_36 : decode cX12_hoursOf 36 = .ok (.imul, 1) := by decide +kernel
theorem dX12_hoursOf_37 : decode cX12_hoursOf 37 = .ok (.iaload, 1) := by decide +kernel
theorem dX12_hoursOf_38 : decode cX12_hoursOf 38 = .ok (.iload_n 1, 1) := by decide +kernel
theorem dX12_hoursOf_39 : decode cX12_hoursOf 39 = .ok (.if_icmp .ne 32, 3) := by decide +kernel
theorem dX12_hoursOf_42 : decode cX12_hoursOf 42 = .ok (.aload_n 0, 1) := by decide +kernel
theorem dX12_hoursOf_43 : decode cX12_hoursOf 43 = .ok (.getfield 38, 3) := by decide +kernel
theorem dX12_hoursOf_46 : decode cX12_hoursOf 46 = .ok (.iconst 4, 1) := by decide +kernel
theorem dX12_hoursOf_47 : decode cX12_hoursOf 47 = .ok (.iload 4, 2) := by decide +kernel
theorem dX12_hoursOf_49 : decode cX12_hoursOf 49 = .ok (.imul, 1) := by decide +kernel
theorem dX12_hoursOf_50 : decode cX12_hoursOf 50 = .ok (.iconst 3, 1) := by decide +kernel
theorem dX12_hoursOf_51 : decode cX12_hoursOf 51 = .ok (.iadd, 1) := by decide +kernel
theorem dX12_hoursOf_52 : decode cX12_hoursOf 52 = .ok (.iaload, 1) := by decide +kernel
theorem dX12_hoursOf_53 : decode cX12_hoursOf 53 = .ok (.iload_n 2, 1) := by decide +kernel
theorem dX12_hoursOf_54 : decode cX12_hoursOf 54 = .ok (.if_icmp .lt 17, 3) := by decide +kernel
theorem dX12_hoursOf_57 : decode cX12_hoursOf 57 = .ok (.aload_n 0, 1) := by decide +kernel
theorem dX12_hoursOf_58 : decode cX12_hoursOf 58 = .ok (.getfield 38, 3) := by decide +kernel
theorem dX12_hoursOf_61 : decode cX12_hoursOf 61 = .ok (.iconst 4, 1) := by decide +kernel
theorem dX12_hoursOf_62 : decode cX12_hoursOf 62 = .ok (.iload 4, 2) := by decide +kernel
theorem dX12_hoursOf_64 : decode cX12_hoursOf 64 = .ok (.imul, 1) := by decide +kernel
theorem dX12_hoursOf_65 : decode cX12_hoursOf 65 = .ok (.iconst 1, 1) := by decide +kernel
theorem dX12_hoursOf_66 : decode cX12_hoursOf 66 = .ok (.iadd, 1) := by decide +kernel
theorem dX12_hoursOf_67 : decode cX12_hoursOf 67 = .ok (.iaload, 1) := by decide +kernel
theorem dX12_hoursOf_68 : decode cX12_hoursOf 68 = .ok (.goto 4, 3) := by decide +kernel
theorem dX12_hoursOf_71 : decode cX12_hoursOf 71 = .ok (.iconst 0, 1) := by decide +kernel
theorem dX12_hoursOf_72 : decode cX12_hoursOf 72 = .ok (.iadd, 1) := by decide +kernel
theorem dX12_hoursOf_73 : decode cX12_hoursOf 73 = .ok (.istore_n 3, 1) := by decide +kernel
theorem dX12_hoursOf_74 : decode cX12_hoursOf 74 = .ok (.iinc 4 1, 3) := by decide +kernel
theorem dX12_hoursOf_77 : decode cX12_hoursOf 77 = .ok (.goto (-72), 3) := by decide +kernel
theorem dX12_hoursOf_80 : decode cX12_hoursOf 80 = .ok (.iload_n 3, 1) := by decide +kernel
theorem dX12_hoursOf_81 : decode cX12_hoursOf 81 = .ok (.ireturn, 1) := by decide +kernel
theorem dX12_place_0 : decode cX12_place 0 = .ok (.aload_n 0, 1) := by decide +kernel
theorem dX12_place_1 : decode cX12_place 1 = .ok (.iconst 0, 1) := by decide +kernel
theorem dX12_place_2 : decode cX12_place 2 = .ok (.putfield 3, 3) := by decide +kernel
theorem dX12_place_5 : decode cX12_place 5 = .ok (.aload_n 0, 1) := by decide +kernel
theorem dX12_place_6 : decode cX12_place 6 = .ok (.iload_n 1, 1) := by decide +kernel
theorem dX12_place_7 : decode cX12_place 7 = .ok (.iconst 1, 1) := by decide +kernel
theorem dX12_place_8 : decode cX12_place 8 = .ok (.invokevirtual 393, 3) := by decide +kernel
theorem dX12_place_11 : decode cX12_place 11 = .ok (.ifCond .eq 18, 3) := by decide +kernel
theorem dX12_place_14 : decode cX12_place 14 = .ok (.aload_n 0, 1) := by decide +kernel
theorem dX12_place_15 : decode cX12_place 15 = .ok (.iload_n 2, 1) := by decide +kernel
theorem dX12_place_16 : decode cX12_place 16 = .ok (.iconst 0, 1) := by decide +kernel
theorem dX12_place_17 : decode cX12_place 17 = .ok (.iconst 5, 1) := by decide +kernel
theorem dX12_place_18 : decode cX12_place 18 = .ok (.invokestatic 303, 3) := by decide +kernel
theorem dX12_place_21 : decode cX12_place 21 = .ok (.iconst 2, 1) := by decide +kernel
theorem dX12_place_22 : decode cX12_place 22 = .ok (.iconst 1, 1) := by decide +kernel
theorem dX12_place_23 : decode cX12_place 23 = .ok (.invokevirtual 229, 3) := by decide +kernel
theorem dX12_place_26 : decode cX12_place 26 = .ok (.ifCond .ne 5, 3) := by decide +kernel
theorem dX12_place_29 : decode cX12_place 29 = .ok (.iconst 0, 1) := by decide +kernel
theorem dX12_place_30 : decode cX12_place 30 = .ok (.ireturn, 1) := by decide +kernel
theorem dX12_place_31 : decode cX12_place 31 = .ok (.aload_n 0, 1) := by decide +kernel
theorem dX12_place_32 : decode cX12_place 32 = .ok (.invokevirtual 396, 3) := by decide +kernel
theorem dX12_place_35 : decode cX12_place 35 = .ok (.iload_n 2, 1) := by decide +kernel
theorem dX12_place_36 : decode cX12_place 36 = .ok (.iconst 2, 1) := by decide +kernel
theorem dX12_place_37 : decode cX12_place 37 = .ok (.if_icmp .ge 27, 3) := by decide +kernel
theorem dX12_place_40 : decode cX12_place 40 = .ok (.iload_n 2, 1) := by decide +kernel
theorem dX12_place_41 : decode cX12_place 41 = .ok (.ifCond .ne 14, 3) := by decide +kernel
theorem dX12_place_44 : decode cX12_place 44 = .ok (.aload_n 0, 1) := by decide +kernel
theorem dX12_place_45 : decode cX12_place 45 = .ok (.getfield 35, 3) := by decide +kernel
theorem dX12_place_48 : decode cX12_place 48 = .ok (.iconst 4, 1) := by decide +kernel
theorem dX12_place_49 : decode cX12_place 49 = .ok (.iload_n 1, 1) := by decide +kernel
theorem dX12_place_50 : decode cX12_place 50 = .ok (.imul, 1) := by decide +kernel
theorem dX12_place_51 : decode cX12_place 51 = .ok (.iaload, 1) := by decide +kernel
theorem dX12_place_52 : decode cX12_place 52 = .ok (.goto 11, 3) := by decide +kernel
theorem dX12_place_55 : decode cX12_place 55 = .ok (.aload_n 0, 1) := by decide +kernel
theorem dX12_place_56 : decode cX12_place 56 = .ok (.getfield 77, 3) := by decide +kernel
theorem dX12_place_59 : decode cX12_place 59 = .ok (.iconst 0, 1) := by decide +kernel
theorem dX12_place_60 : decode cX12_place 60 = .ok (.iload_n 1, 1) := by decide +kernel
theorem dX12_place_61 : decode cX12_place 61 = .ok (.iadd, 1) := by decide +kernel
theorem dX12_place_62 : decode cX12_place 62 = .ok (.iaload, 1) := by decide +kernel
theorem dX12_place_63 : decode cX12_place 63 = .ok (.ireturn, 1) := by decide +kernel
theorem dX12_place_64 : decode cX12_place 64 = .ok (.iload_n 2, 1) := by decide +kernel
theorem dX12_place_65 : decode cX12_place 65 = .ok (.iconst 4, 1) := by decide +kernel
theorem dX12_place_66 : decode cX12_place 66 = .ok (.if_icmp .ge 31, 3) := by decide +kernel
theorem dX12_place_69 : decode cX12_place 69 = .ok (.iload_n 2, 1) := by decide +kernel
theorem dX12_place_70 : decode cX12_place 70 = .ok (.iconst 2, 1) := by decide +kernel
theorem dX12_place_71 : decode cX12_place 71 = .ok (.if_icmp .ne 15, 3) := by decide +kernel
theorem dX12_place_74 : decode cX12_place 74 = .ok (.aload_n 0, 1) := by decide +kernel
theorem dX12_place_75 : decode cX12_place 75 = .ok (.getfield 77, 3) := by decide +kernel
theorem dX12_place_78 : decode cX12_place 78 = .ok (.bipush 6, 2) := by decide +kernel
theorem dX12_place_80 : decode cX12_place 80 = .ok (.iload_n 1, 1) := by decide +kernel
theorem dX12_place_81 : decode cX12_place 81 = .ok (.iadd, 1) := by decide +kernel
theorem dX12_place_82 : decode cX12_place 82 = .ok (.iaload, 1) := by decide +kernel
theorem dX12_place_83 : decode cX12_place 83 = .ok (.goto 13, 3) := by decide +kernel
theorem dX12_place_86 : decode cX12_place 86 = .ok (.aload_n 0, 1) := by decide +kernel
theorem dX12_place_87 : decode cX12_place 87 = .ok (.getfield 35, 3) := by decide +kernel
theorem dX12_place_90 : decode cX12_place 90 = .ok (.iconst 4, 1) := by decide +kernel
theorem dX12_place_91 : decode cX12_place 91 = .ok (.iload_n 1, 1) := by decide +kernel
theorem dX12_place_92 : decode cX12_place 92 = .ok (.imul, 1) := by decide +kernel
theorem dX12_place_93 : decode cX12_place 93 = .ok (.iconst 3, 1) := by decide +kernel
theorem dX12_place_94 : decode cX12_place 94 = .ok (.iadd, 1) := by decide +kernel
theorem dX12_place_95 : decode cX12_place 95 = .ok (.iaload, 1) := by decide +kernel
theorem dX12_place_96 : decode cX12_place 96 = .ok (.ireturn, 1) := by decide +kernel
theorem dX12_place_97 : decode cX12_place 97 = .ok (.iload_n 2, 1) := by decide +kernel
theorem dX12_place_98 : decode cX12_place 98 = .ok (.iconst 4, 1) := by decide +kernel
theorem dX12_place_99 : decode cX12_place 99 = .ok (.if_icmp .ne 15, 3) := by decide +kernel
theorem dX12_place_102 : decode cX12_place 102 = .ok (.aload_n 0, 1) := by decide +kernel
theorem dX12_place_103 : decode cX12_place 103 = .ok (.getfield 77, 3) := by decide +kernel
theorem dX12_place_106 : decode cX12_place 106 = .ok (.bipush 12, 2) := by decide +kernel
theorem dX12_place_108 : decode cX12_place 108 = .ok (.iload_n 1, 1) := by decide +kernel
theorem dX12_place_109 : decode cX12_place 109 = .ok (.iadd, 1) := by decide +kernel
theorem dX12_place_110 : decode cX12_place 110 = .ok (.iaload, 1) := by decide +kernel
theorem dX12_place_111 : decode cX12_place 111 = .ok (.goto 9, 3) := by decide +kernel
theorem dX12_place_114 : decode cX12_place 114 = .ok (.aload_n 0, 1) := by decide +kernel
theorem dX12_place_115 : decode cX12_place 115 = .ok (.iload_n 1, 1) := by decide +kernel
theorem dX12_place_116 : decode cX12_place 116 = .ok (.iconst 0, 1) := by decide +kernel
theorem dX12_place_117 : decode cX12_place 117 = .ok (.invokevirtual 399, 3) := by decide +kernel
theorem dX12_place_120 : decode cX12_place 120 = .ok (.ireturn, 1) := by decide +kernel
theorem dX12_want_0 : decode cX12_want 0 = .ok (.aload_n 0, 1) := by decide +kernel
theorem dX12_want_1 : decode cX12_want 1 = .ok (.iconst 0, 1) := by decide +kernel
theorem dX12_want_2 : decode cX12_want 2 = .ok (.putfield 3, 3) := by decide +kernel
theorem dX12_want_5 : decode cX12_want 5 = .ok (.aload_n 0, 1) := by decide +kernel
theorem dX12_want_6 : decode cX12_want 6 = .ok (.iload_n 1, 1) := by decide +kernel
theorem dX12_want_7 : decode cX12_want 7 = .ok (.iconst 1, 1) := by decide +kernel
theorem dX12_want_8 : decode cX12_want 8 = .ok (.invokevirtual 402, 3) := by decide +kernel
theorem dX12_want_11 : decode cX12_want 11 = .ok (.ifCond .eq 18, 3) := by decide +kernel
theorem dX12_want_14 : decode cX12_want 14 = .ok (.aload_n 0, 1) := by decide +kernel
theorem dX12_want_15 : decode cX12_want 15 = .ok (.iload_n 2, 1) := by decide +kernel
theorem dX12_want_16 : decode cX12_want 16 = .ok (.iconst 0, 1) := by decide +kernel
theorem dX12_want_17 : decode cX12_want 17 = .ok (.iconst 5, 1) := by decide +kernel
theorem dX12_want_18 : decode cX12_want 18 = .ok (.invokestatic 303, 3) := by decide +kernel
theorem dX12_want_21 : decode cX12_want 21 = .ok (.iconst 2, 1) := by decide +kernel
theorem dX12_want_22 : decode cX12_want 22 = .ok (.iconst 1, 1) := by decide +kernel
theorem dX12_want_23 : decode cX12_want 23 = .ok (.invokevirtual 229, 3) := by decide +kernel
theorem dX12_want_26 : decode cX12_want 26 = .ok (.ifCond .ne 5, 3) := by decide +kernel
theorem dX12_want_29 : decode cX12_want 29 = .ok (.iconst 0, 1) := by decide +kernel
theorem dX12_want_30 : decode cX12_want 30 = .ok (.ireturn, 1) := by decide +kernel
theorem dX12_want_31 : decode cX12_want 31 = .ok (.iload_n 2, 1) := by decide +kernel
theorem dX12_want_32 : decode cX12_want 32 = .ok (.iconst 4, 1) := by decide +kernel
theorem dX12_want_33 : decode cX12_want 33 = .ok (.if_icmp .ge 16, 3) := by decide +kernel
theorem dX12_want_36 : decode cX12_want 36 = .ok (.aload_n 0, 1) := by decide +kernel
theorem dX12_want_37 : decode cX12_want 37 = .ok (.getfield 38, 3) := by decide +kernel
theorem dX12_want_40 : decode cX12_want 40 = .ok (.iconst 4, 1) := by decide +kernel
theorem dX12_want_41 : decode cX12_want 41 = .ok (.iload_n 1, 1) := by decide +kernel
theorem dX12_want_42 : decode cX12_want 42 = .ok (.imul, 1) := by decide +kernel
theorem dX12_want_43 : decode cX12_want 43 = .ok (.iload_n 2, 1) := by decide +kernel
theorem dX12_want_44 : decode cX12_want 44 = .ok (.iadd, 1) := by decide +kernel
theorem dX12_want_45 : decode cX12_want 45 = .ok (.iaload, 1) := by decide +kernel
theorem dX12_want_46 : decode cX12_want 46 = .ok (.goto 29, 3) := by decide +kernel
theorem dX12_want_49 : decode cX12_want 49 = .ok (.iload_n 2, 1) := by decide +kernel
theorem dX12_want_50 : decode cX12_want 50 = .ok (.iconst 4, 1) := by decide +kernel
theorem dX12_want_51 : decode cX12_want 51 = .ok (.if_icmp .ne 15, 3) := by decide +kernel
theorem dX12_want_54 : decode cX12_want 54 = .ok (.aload_n 0, 1) := by decide +kernel
theorem dX12_want_55 : decode cX12_want 55 = .ok (.getfield 74, 3) := by decide +kernel
theorem dX12_want_58 : decode cX12_want 58 = .ok (.bipush 18, 2) := by decide +kernel
theorem dX12_want_60 : decode cX12_want 60 = .ok (.iload_n 1, 1) := by decide +kernel
theorem dX12_want_61 : decode cX12_want 61 = .ok (.iadd, 1) := by decide +kernel
theorem dX12_want_62 : decode cX12_want 62 = .ok (.iaload, 1) := by decide +kernel
theorem dX12_want_63 : decode cX12_want 63 = .ok (.goto 12, 3) := by decide +kernel
theorem dX12_want_66 : decode cX12_want 66 = .ok (.aload_n 0, 1) := by decide +kernel
theorem dX12_want_67 : decode cX12_want 67 = .ok (.getfield 74, 3) := by decide +kernel
theorem dX12_want_70 : decode cX12_want 70 = .ok (.bipush 30, 2) := by decide +kernel
theorem dX12_want_72 : decode cX12_want 72 = .ok (.iload_n 1, 1) := by decide +kernel
theorem dX12_want_73 : decode cX12_want 73 = .ok (.iadd, 1) := by decide +kernel
theorem dX12_want_74 : decode cX12_want 74 = .ok (.iaload, 1) := by decide +kernel
theorem dX12_want_75 : decode cX12_want 75 = .ok (.ireturn, 1) := by decide +kernel
theorem dX12_mine_0 : decode cX12_mine 0 = .ok (.aload_n 0, 1) := by decide +kernel
theorem dX12_mine_1 : decode cX12_mine 1 = .ok (.iconst 0, 1) := by decide +kernel
theorem dX12_mine_2 : decode cX12_mine 2 = .ok (.putfield 3, 3) := by decide +kernel
theorem dX12_mine_5 : decode cX12_mine 5 = .ok (.aload_n 0, 1) := by decide +kernel
theorem dX12_mine_6 : decode cX12_mine 6 = .ok (.iload_n 1, 1) := by decide +kernel
theorem dX12_mine_7 : decode cX12_mine 7 = .ok (.iconst 1, 1) := by decide +kernel
theorem dX12_mine_8 : decode cX12_mine 8 = .ok (.invokevirtual 405, 3) := by decide +kernel
theorem dX12_mine_11 : decode cX12_mine 11 = .ok (.ifCond .eq 18, 3) := by decide +kernel
theorem dX12_mine_14 : decode cX12_mine 14 = .ok (.aload_n 0, 1) := by decide +kernel
theorem dX12_mine_15 : decode cX12_mine 15 = .ok (.iload_n 2, 1) := by decide +kernel
theorem dX12_mine_16 : decode cX12_mine 16 = .ok (.iconst 0, 1) := by decide +kernel
theorem dX12_mine_17 : decode cX12_mine 17 = .ok (.iconst 4, 1) := by decide +kernel
theorem dX12_mine_18 : decode cX12_mine 18 = .ok (.invokestatic 303, 3) := by decide +kernel
theorem dX12_mine_21 : decode cX12_mine 21 = .ok (.iconst 2, 1) := by decide +kernel
theorem dX12_mine_22 : decode cX12_mine 22 = .ok (.iconst 1, 1) := by decide +kernel
theorem dX12_mine_23 : decode cX12_mine 23 = .ok (.invokevirtual 229, 3) := by decide +kernel
theorem dX12_mine_26 : decode cX12_mine 26 = .ok (.ifCond .ne 5, 3) := by decide +kernel
theorem dX12_mine_29 : decode cX12_mine 29 = .ok (.iconst 0, 1) := by decide +kernel
theorem dX12_mine_30 : decode cX12_mine 30 = .ok (.ireturn, 1) := by decide +kernel
theorem dX12_mine_31 : decode cX12_mine 31 = .ok (.aload_n 0, 1) := by decide +kernel
theorem dX12_mine_32 : decode cX12_mine 32 = .ok (.invokevirtual 396, 3) := by decide +kernel
theorem dX12_mine_35 : decode cX12_mine 35 = .ok (.iload_n 2, 1) := by decide +kernel
theorem dX12_mine_36 : decode cX12_mine 36 = .ok (.iconst 2, 1) := by decide +kernel
theorem dX12_mine_37 : decode cX12_mine 37 = .ok (.if_icmp .ge 28, 3) := by decide +kernel
theorem dX12_mine_40 : decode cX12_mine 40 = .ok (.iload_n 2, 1) := by decide +kernel
theorem dX12_mine_41 : decode cX12_mine 41 = .ok (.ifCond .ne 14, 3) := by decide +kernel
theorem dX12_mine_44 : decode cX12_mine 44 = .ok (.aload_n 0, 1) := by decide +kernel
theorem dX12_mine_45 : decode cX12_mine 45 = .ok (.getfield 41, 3) := by decide +kernel
theorem dX12_mine_48 : decode cX12_mine 48 = .ok (.iconst 3, 1) := by decide +kernel
theorem dX12_mine_49 : decode cX12_mine 49 = .ok (.iload_n 1, 1) := by decide +kernel
theorem dX12_mine_50 : decode cX12_mine 50 = .ok (.imul, 1) := by decide +kernel
theorem dX12_mine_51 : decode cX12_mine 51 = .ok (.iaload, 1) := by decide +kernel
theorem dX12_mine_52 : decode cX12_mine 52 = .ok (.goto 12, 3) := by decide +kernel
theorem dX12_mine_55 : decode cX12_mine 55 = .ok (.aload_n 0, 1) := by decide +kernel
theorem dX12_mine_56 : decode cX12_mine 56 = .ok (.getfield 77, 3) := by decide +kernel
theorem dX12_mine_59 : decode cX12_mine 59 = .ok (.bipush 42, 2) := by decide +kernel
theorem dX12_mine_61 : decode cX12_mine 61 = .ok (.iload_n 1, 1) := by decide +kernel
theorem dX12_mine_62 : decode cX12_mine 62 = .ok (.iadd, 1) := by decide +kernel
theorem dX12_mine_63 : decode cX12_mine 63 = .ok (.iaload, 1) := by decide +kernel
theorem dX12_mine_64 : decode cX12_mine 64 = .ok (.ireturn, 1) := by decide +kernel
theorem dX12_mine_65 : decode cX12_mine 65 = .ok (.iload_n 2, 1) := by decide +kernel
theorem dX12_mine_66 : decode cX12_mine 66 = .ok (.iconst 2, 1) := by decide +kernel
theorem dX12_mine_67 : decode cX12_mine 67 = .ok (.if_icmp .ne 16, 3) := by decide +kernel
theorem dX12_mine_70 : decode cX12_mine 70 = .ok (.aload_n 0, 1) := by decide +kernel
theorem dX12_mine_71 : decode cX12_mine 71 = .ok (.getfield 41, 3) := by decide +kernel
theorem dX12_mine_74 : decode cX12_mine 74 = .ok (.iconst 3, 1) := by decide +kernel
theorem dX12_mine_75 : decode cX12_mine 75 = .ok (.iload_n 1, 1) := by decide +kernel
theorem dX12_mine_76 : decode cX12_mine 76 = .ok (.imul, 1) := by decide +kernel
theorem dX12_mine_77 : decode cX12_mine 77 = .ok (.iconst 2, 1) := by decide +kernel
theorem dX12_mine_78 : decode cX12_mine 78 = .ok (.iadd, 1) := by decide +kernel
theorem dX12_mine_79 : decode cX12_mine 79 = .ok (.iaload, 1) := by decide +kernel
theorem dX12_mine_80 : decode cX12_mine 80 = .ok (.goto 33, 3) := by decide +kernel
theorem dX12_mine_83 : decode cX12_mine 83 = .ok (.iload_n 2, 1) := by decide +kernel
theorem dX12_mine_84 : decode cX12_mine 84 = .ok (.iconst 3, 1) := by decide +kernel
theorem dX12_mine_85 : decode cX12_mine 85 = .ok (.if_icmp .ne 19, 3) := by decide +kernel
theorem dX12_mine_88 : decode cX12_mine 88 = .ok (.aload_n 0, 1) := by decide +kernel
theorem dX12_mine_89 : decode cX12_mine 89 = .ok (.iload_n 1, 1) := by decide +kernel
theorem dX12_mine_90 : decode cX12_mine 90 = .ok (.invokevirtual 371, 3) := by decide +kernel
theorem dX12_mine_93 : decode cX12_mine 93 = .ok (.ifCond .eq 7, 3) := by decide +kernel
theorem dX12_mine_96 : decode cX12_mine 96 = .ok (.iconst 1, 1) := by decide +kernel
theorem dX12_mine_97 : decode cX12_mine 97 = .ok (.goto 16, 3) := by decide +kernel
theorem dX12_mine_100 : decode cX12_mine 100 = .ok (.iconst 0, 1) := by decide +kernel
theorem dX12_mine_101 : decode cX12_mine 101 = .ok (.goto 12, 3) := by decide +kernel
theorem dX12_mine_104 : decode cX12_mine 104 = .ok (.aload_n 0, 1) := by decide +kernel
theorem dX12_mine_105 : decode cX12_mine 105 = .ok (.getfield 77, 3) := by decide +kernel
theorem dX12_mine_108 : decode cX12_mine 108 = .ok (.bipush 45, 2) := by decide +kernel
theorem dX12_mine_110 : decode cX12_mine 110 = .ok (.iload_n 1, 1) := by decide +kernel
theorem dX12_mine_111 : decode cX12_mine 111 = .ok (.iadd, 1) := by decide +kernel
theorem dX12_mine_112 : decode cX12_mine 112 = .ok (.iaload, 1) := by decide +kernel
theorem dX12_mine_113 : decode cX12_mine 113 = .ok (.ireturn, 1) := by decide +kernel
theorem dX12_arrives_0 : decode cX12_arrives 0 = .ok (.aload_n 0, 1) := by decide +kernel
theorem dX12_arrives_1 : decode cX12_arrives 1 = .ok (.iconst 0, 1) := by decide +kernel
theorem dX12_arrives_2 : decode cX12_arrives 2 = .ok (.putfield 3, 3) := by decide +kernel
theorem dX12_arrives_5 : decode cX12_arrives 5 = .ok (.aload_n 0, 1) := by decide +kernel
theorem dX12_arrives_6 : decode cX12_arrives 6 = .ok (.iload_n 1, 1) := by decide +kernel
theorem dX12_arrives_7 : decode cX12_arrives 7 = .ok (.iconst 1, 1) := by decide +kernel
theorem dX12_arrives_8 : decode cX12_arrives 8 = .ok (.invokevirtual 393, 3) := by decide +kernel
theorem dX12_arrives_11 : decode cX12_arrives 11 = .ok (.ifCond .eq 52, 3) := by decide +kernel
theorem dX12_arrives_14 : decode cX12_arrives 14 = .ok (.aload_n 0, 1) := by decide +kernel
theorem dX12_arrives_15 : decode cX12_arrives 15 = .ok (.iload_n 2, 1) := by decide +kernel
theorem dX12_arrives_16 : decode cX12_arrives 16 = .ok (.iconst 1, 1) := by decide +kernel
theorem dX12_arrives_17 : decode cX12_arrives 17 = .ok (.invokevirtual 393, 3) := by decide +kernel
theorem dX12_arrives_20 : decode cX12_arrives 20 = .ok (.ifCond .eq 43, 3) := by decide +kernel
theorem dX12_arrives_23 : decode cX12_arrives 23 = .ok (.aload_n 0, 1) := by decide +kernel
theorem dX12_arrives_24 : decode cX12_arrives 24 = .ok (.iload_n 1, 1) := by decide +kernel
theorem dX12_arrives_25 : decode cX12_arrives 25 = .ok (.iload_n 2, 1) := by decide +kernel
theorem dX12_arrives_26 : decode cX12_arrives 26 = .ok (.if_icmp .eq 28, 3) := by decide +kernel
theorem dX12_arrives_29 : decode cX12_arrives 29 = .ok (.iload_n 3, 1) := by decide +kernel
theorem dX12_arrives_30 : decode cX12_arrives 30 = .ok (.iconst 0, 1) := by decide +kernel
theorem dX12_arrives_31 : decode cX12_arrives 31 = .ok (.sipush 999, 3) := by decide +kernel
theorem dX12_arrives_34 : decode cX12_arrives 34 = .ok (.invokestatic 303, 3) := by decide +kernel
theorem dX12_arrives_37 : decode cX12_arrives 37 = .ok (.ifCond .eq 17, 3) := by decide +kernel
theorem dX12_arrives_40 : decode cX12_arrives 40 = .ok (.iload 4, 2) := by decide +kernel
theorem dX12_arrives_42 : decode cX12_arrives 42 = .ok (.iconst 0, 1) := by decide +kernel
theorem dX12_arrives_43 : decode cX12_arrives 43 = .ok (.iconst 1, 1) := by decide +kernel
theorem dX12_arrives_44 : decode cX12_arrives 44 = .ok (.invokestatic 303, 3) := by decide +kernel
theorem dX12_arrives_47 : decode cX12_arrives 47 = .ok (.ifCond .eq 7, 3) := by decide +kernel
theorem dX12_arrives_50 : decode cX12_arrives 50 = .ok (.iconst 1, 1) := by decide +kernel
theorem dX12_arrives_51 : decode cX12_arrives 51 = .ok (.goto 4, 3) := by decide +kernel
theorem dX12_arrives_54 : decode cX12_arrives 54 = .ok (.iconst 0, 1) := by decide +kernel
theorem dX12_arrives_55 : decode cX12_arrives 55 = .ok (.iconst 2, 1) := by decide +kernel
theorem dX12_arrives_56 : decode cX12_arrives 56 = .ok (.iconst 1, 1) := by decide +kernel
theorem dX12_arrives_57 : decode cX12_arrives 57 = .ok (.invokevirtual 229, 3) := by decide +kernel
theorem dX12_arrives_60 : decode cX12_arrives 60 = .ok (.ifCond .ne 5, 3) := by decide +kernel
theorem dX12_arrives_63 : decode cX12_arrives 63 = .ok (.iconst 0, 1) := by decide +kernel
theorem dX12_arrives_64 : decode cX12_arrives 64 = .ok (.ireturn, 1) := by decide +kernel
theorem dX12_arrives_65 : decode cX12_arrives 65 = .ok (.aload_n 0, 1) := by decide +kernel
theorem dX12_arrives_66 : decode cX12_arrives 66 = .ok (.invokevirtual 396, 3) := by decide +kernel
theorem dX12_arrives_69 : decode cX12_arrives 69 = .ok (.aload_n 0, 1) := by decide +kernel
theorem dX12_arrives_70 : decode cX12_arrives 70 = .ok (.iload_n 1, 1) := by decide +kernel
theorem dX12_arrives_71 : decode cX12_arrives 71 = .ok (.iload_n 2, 1) := by decide +kernel
theorem dX12_arrives_72 : decode cX12_arrives 72 = .ok (.iload_n 3, 1) := by decide +kernel
theorem dX12_arrives_73 : decode cX12_arrives 73 = .ok (.iload 4, 2) := by decide +kernel
theorem dX12_arrives_75 : decode cX12_arrives 75 = .ok (.invokevirtual 364, 3) := by decide +kernel
theorem dX12_arrives_78 : decode cX12_arrives 78 = .ok (.ireturn, 1) := by decide +kernel
theorem dX12_digs_0 : decode cX12_digs 0 = .ok (.aload_n 0, 1) := by decide +kernel
theorem dX12_digs_1 : decode cX12_digs 1 = .ok (.iconst 0, 1) := by decide +kernel
theorem dX12_digs_2 : decode cX12_digs 2 = .ok (.putfield 3, 3) := by decide +kernel
theorem dX12_digs_5 : decode cX12_digs 5 = .ok (.aload_n 0, 1) := by decide +kernel
theorem dX12_digs_6 : decode cX12_digs 6 = .ok (.iload_n 1, 1) := by decide +kernel
theorem dX12_digs_7 : decode cX12_digs 7 = .ok (.iconst 1, 1) := by decide +kernel
theorem dX12_digs_8 : decode cX12_digs 8 = .ok (.invokevirtual 405, 3) := by decide +kernel
theorem dX12_digs_11 : decode cX12_digs 11 = .ok (.ifCond .eq 19, 3) := by decide +kernel
theorem dX12_digs_14 : decode cX12_digs 14 = .ok (.aload_n 0, 1) := by decide +kernel
theorem dX12_digs_15 : decode cX12_digs 15 = .ok (.iload_n 2, 1) := by decide +kernel
theorem dX12_digs_16 : decode cX12_digs 16 = .ok (.iconst 0, 1) := by decide +kernel
theorem dX12_digs_17 : decode cX12_digs 17 = .ok (.bipush 9, 2) := by decide +kernel
theorem dX12_digs_19 : decode cX12_digs 19 = .ok (.invokestatic 303, 3) := by decide +kernel
theorem dX12_digs_22 : decode cX12_digs 22 = .ok (.iconst 2, 1) := by decide +kernel
theorem dX12_digs_23 : decode cX12_digs 23 = .ok (.iconst 1, 1) := by decide +kernel
theorem dX12_digs_24 : decode cX12_digs 24 = .ok (.invokevirtual 229, 3) := by decide +kernel
theorem dX12_digs_27 : decode cX12_digs 27 = .ok (.ifCond .ne 5, 3) := by decide +kernel
theorem dX12_digs_30 : decode cX12_digs 30 = .ok (.iconst 0, 1) := by decide +kernel
theorem dX12_digs_31 : decode cX12_digs 31 = .ok (.ireturn, 1) := by decide +kernel
theorem dX12_digs_32 : decode cX12_digs 32 = .ok (.aload_n 0, 1) := by decide +kernel
theorem dX12_digs_33 : decode cX12_digs 33 = .ok (.invokevirtual 396, 3) := by decide +kernel
theorem dX12_digs_36 : decode cX12_digs 36 = .ok (.aload_n 0, 1) := by decide +kernel
theorem dX12_digs_37 : decode cX12_digs 37 = .ok (.iload_n 1, 1) := by decide +kernel
theorem dX12_digs_38 : decode cX12_digs 38 = .ok (.iload_n 2, 1) := by decide +kernel
theorem dX12_digs_39 : decode cX12_digs 39 = .ok (.invokevirtual 374, 3) := by decide +kernel
theorem dX12_digs_42 : decode cX12_digs 42 = .ok (.ireturn, 1) := by decide +kernel
theorem dX12_can_0 : decode cX12_can 0 = .ok (.aload_n 0, 1) := by decide +kernel
theorem dX12_can_1 : decode cX12_can 1 = .ok (.iconst 0, 1) := by decide +kernel
theorem dX12_can_2 : decode cX12_can 2 = .ok (.putfield 3, 3) := by decide +kernel
theorem dX12_can_5 : decode cX12_can 5 = .ok (.aload_n 0, 1) := by decide +kernel
theorem dX12_can_6 : decode cX12_can 6 = .ok (.iload_n 1, 1) := by decide +kernel
theorem dX12_can_7 : decode cX12_can 7 = .ok (.iconst 1, 1) := by decide +kernel
theorem dX12_can_8 : decode cX12_can 8 = .ok (.invokevirtual 402, 3) := by decide +kernel
theorem dX12_can_11 : decode cX12_can 11 = .ok (.ifCond .ne 5, 3) := by decide +kernel
theorem dX12_can_14 : decode cX12_can 14 = .ok (.iconst 0, 1) := by decide +kernel
theorem dX12_can_15 : decode cX12_can 15 = .ok (.ireturn, 1) := by decide +kernel
theorem dX12_can_16 : decode cX12_can 16 = .ok (.aload_n 0, 1) := by decide +kernel
theorem dX12_can_17 : decode cX12_can 17 = .ok (.invokevirtual 396, 3) := by decide +kernel
theorem dX12_can_20 : decode cX12_can 20 = .ok (.aload_n 0, 1) := by decide +kernel
theorem dX12_can_21 : decode cX12_can 21 = .ok (.iload_n 1, 1) := by decide +kernel
theorem dX12_can_22 : decode cX12_can 22 = .ok (.invokevirtual 361, 3) := by decide +kernel
theorem dX12_can_25 : decode cX12_can 25 = .ok (.ireturn, 1) := by decide +kernel
theorem dX12_findSales_0 : decode cX12_findSales 0 = .ok (.aload_n 0, 1) := by decide +kernel
theorem dX12_findSales_1 : decode cX12_findSales 1 = .ok (.iconst 0, 1) := by decide +kernel
theorem dX12_findSales_2 : decode cX12_findSales 2 = .ok (.putfield 408, 3) := by decide +kernel
theorem dX12_findSales_5 : decode cX12_findSales 5 = .ok (.aload_n 0, 1) := by decide +kernel
theorem dX12_findSales_6 : decode cX12_findSales 6 = .ok (.iconst 0, 1) := by decide +kernel
theorem dX12_findSales_7 : decode cX12_findSales 7 = .ok (.putfield 411, 3) := by decide +kernel
theorem dX12_findSales_10 : decode cX12_findSales 10 = .ok (.iconst 0, 1) := by decide +kernel
theorem dX12_findSales_11 : decode cX12_findSales 11 = .ok (.istore_n 1, 1) := by decide +kernel
theorem dX12_findSales_12 : decode cX12_findSales 12 = .ok (.iload_n 1, 1) := by decide +kernel
theorem dX12_findSales_13 : decode cX12_findSales 13 = .ok (.aload_n 0, 1) := by decide +kernel
theorem dX12_findSales_14 : decode cX12_findSales 14 = .ok (.getfield 180, 3) := by decide +kernel
theorem dX12_findSales_17 : decode cX12_findSales 17 = .ok (.if_icmp .ge 295, 3) := by decide +kernel
theorem dX12_findSales_20 : decode cX12_findSales 20 = .ok (.iconst 0, 1) := by decide +kernel
theorem dX12_findSales_21 : decode cX12_findSales 21 = .ok (.istore_n 2, 1) := by decide +kernel
theorem dX12_findSales_22 : decode cX12_findSales 22 = .ok (.iconst 0, 1) := by decide +kernel
theorem dX12_findSales_23 : decode cX12_findSales 23 = .ok (.istore_n 3, 1) := by decide +kernel
theorem dX12_findSales_24 : decode cX12_findSales 24 = .ok (.iload_n 3, 1) := by decide +kernel
theorem dX12_findSales_25 : decode cX12_findSales 25 = .ok (.aload_n 0, 1) := by decide +kernel
theorem dX12_findSales_26 : decode cX12_findSales 26 = .ok (.getfield 183, 3) := by decide +kernel
theorem dX12_findSales_29 : decode cX12_findSales 29 = .ok (.if_icmp .ge 46, 3) := by decide +kernel
theorem dX12_findSales_32 : decode cX12_findSales 32 = .ok (.aload_n 0, 1) := by decide +kernel
theorem dX12_findSales_33 : decode cX12_findSales 33 = .ok (.getfield 77, 3) := by decide +kernel
theorem dX12_findSales_36 : decode cX12_findSales 36 = .ok (.bipush 18, 2) := by decide +kernel
theorem dX12_findSales_38 : decode cX12_findSales 38 = .ok (.iload_n 3, 1) := by decide +kernel
theorem dX12_findSales_39 : decode cX12_findSales 39 = .ok (.iadd, 1) := by decide +kernel
theorem dX12_findSales_40 : decode cX12_findSales 40 = .ok (.iaload, 1) := by decide +kernel
theorem dX12_findSales_41 : decode cX12_findSales 41 = .ok (.ifCond .eq 28, 3) := by decide +kernel
theorem dX12_findSales_44 : decode cX12_findSales 44 = .ok (.aload_n 0, 1) := by decide +kernel
theorem dX12_findSales_45 : decode cX12_findSales 45 = .ok (.getfield 38, 3) := by decide +kernel
theorem dX12_findSales_48 : decode cX12_findSales 48 = .ok (.iconst 4, 1) := by decide +kernel
theorem dX12_findSales_49 : decode cX12_findSales 49 = .ok (.iload_n 3, 1) := by decide +kernel
theorem dX12_findSales_50 : decode cX12_findSales 50 = .ok (.imul, 1) := by decide +kernel
theorem dX12_findSales_51 : decode cX12_findSales 51 = .ok (.iaload, 1) := by decide +kernel
theorem dX12_findSales_52 : decode cX12_findSales 52 = .ok (.iload_n 1, 1) := by decide +kernel
theorem dX12_findSales_53 : decode cX12_findSales 53 = .ok (.if_icmp .eq 6, 3) := by decide +kernel
theorem dX12_findSales_56 : decode cX12_findSales 56 = .ok (.goto 13, 3) := by decide +kernel
theorem dX12_findSales_59 : decode cX12_findSales 59 = .ok (.aload_n 0, 1) := by decide +kernel
theorem dX12_findSales_60 : decode cX12_findSales 60 = .ok (.getfield 89, 3) := by decide +kernel
theorem dX12_findSales_63 : decode cX12_findSales 63 = .ok (.iload_n 2, 1) := by decide +kernel
theorem dX12_findSales_64 : decode cX12_findSales 64 = .ok (.iload_n 3, 1) := by decide +kernel
theorem dX12_findSales_65 : decode cX12_findSales 65 = .ok (.iastore, 1) := by decide +kernel
theorem dX12_findSales_66 : decode cX12_findSales 66 = .ok (.iinc 2 1, 3) := by decide +kernel
theorem dX12_findSales_69 : decode cX12_findSales 69 = .ok (.iinc 3 1, 3) := by decide +kernel
theorem dX12_findSales_72 : decode cX12_findSales 72 = .ok (.goto (-48), 3) := by decide +kernel
theorem dX12_findSales_75 : decode cX12_findSales 75 = .ok (.iconst 0, 1) := by decide +kernel
theorem dX12_findSales_76 : decode cX12_findSales 76 = .ok (.istore_n 3, 1) := by decide +kernel
theorem dX12_findSales_77 : decode cX12_findSales 77 = .ok (.iconst 0, 1) := by decide +kernel
theorem dX12_findSales_78 : decode cX12_findSales 78 = .ok (.istore 4, 2) := by decide +kernel
theorem dX12_findSales_80 : decode cX12_findSales 80 = .ok (.iconst 1, 1) := by decide +kernel
theorem dX12_findSales_81 : decode cX12_findSales 81 = .ok (.istore 5, 2) := by decide +kernel
theorem dX12_findSales_83 : decode cX12_findSales 83 = .ok (.iload 5, 2) := by decide +kernel
theorem dX12_findSales_85 : decode cX12_findSales 85 = .ok (.iconst 1, 1) := by decide +kernel
theorem dX12_findSales_86 : decode cX12_findSales 86 = .ok (.iload_n 2, 1) := by decide +kernel
theorem dX12_findSales_87 : decode cX12_findSales 87 = .ok (.ishl, 1) := by decide +kernel
theorem dX12_findSales_88 : decode cX12_findSales 88 = .ok (.if_icmp .ge 169, 3) := by decide +kernel
theorem dX12_findSales_91 : decode cX12_findSales 91 = .ok (.iconst 0, 1) := by decide +kernel
theorem dX12_findSales_92 : decode cX12_findSales 92 = .ok (.istore 6, 2) := by decide +kernel
theorem dX12_findSales_94 : decode cX12_findSales 94 = .ok (.iconst 0, 1) := by decide +kernel
theorem dX12_findSales_95 : decode cX12_findSales 95 = .ok (.istore 7, 2) := by decide +kernel
theorem dX12_findSales_97 : decode cX12_findSales 97 = .ok (.iconst 0, 1) := by decide +kernel
theorem dX12_findSales_98 : decode cX12_findSales 98 = .ok (.istore 8, 2) := by decide +kernel
theorem dX12_findSales_100 : decode cX12_findSales 100 = .ok (.iconst 0, 1) := by decide +kernel
theorem dX12_findSales_101 : decode cX12_findSales 101 = .ok (.istore 9, 2) := by decide +kernel
theorem dX12_findSales_103 : decode cX12_findSales 103 = .ok (.iload 9, 2) := by decide +kernel
theorem dX12_findSales_105 : decode cX12_findSales 105 = .ok (.iload_n 2, 1) := by decide +kernel
theorem dX12_findSales_106 : decode cX12_findSales 106 = .ok (.if_icmp .ge 92, 3) := by decide +kernel
theorem dX12_findSales_109 : decode cX12_findSales 109 = .ok (.iload 5, 2) := by decide +kernel
theorem dX12_findSales_111 : decode cX12_findSales 111 = .ok (.iload 9, 2) := by decide +kernel
theorem dX12_findSales_113 : decode cX12_findSales 113 = .ok (.ishr, 1) := by decide +kernel
theorem dX12_findSales_114 : decode cX12_findSales 114 = .ok (.iconst 1, 1) := by decide +kernel
theorem dX12_findSales_115 : decode cX12_findSales 115 = .ok (.iand, 1) := by decide +kernel
theorem dX12_findSales_116 : decode cX12_findSales 116 = .ok (.ifCond .ne 6, 3) := by decide +kernel
theorem dX12_findSales_119 : decode cX12_findSales 119 = .ok (.goto 73, 3) := by decide +kernel
theorem dX12_findSales_122 : decode cX12_findSales 122 = .ok (.iconst 4, 1) := by decide +kernel
theorem dX12_findSales_123 : decode cX12_findSales 123 = .ok (.aload_n 0, 1) := by decide +kernel
theorem dX12_findSales_124 : decode cX12_findSales 124 = .ok (.getfield 89, 3) := by decide +kernel
theorem dX12_findSales_127 : decode cX12_findSales 127 = .ok (.iload 9, 2) := by decide +kernel
theorem dX12_findSales_129 : decode cX12_findSales 129 = .ok (.iaload, 1) := by decide +kernel
theorem dX12_findSales_130 : decode cX12_findSales 130 = .ok (.imul, 1) := by decide +kernel
theorem dX12_findSales_131 : decode cX12_findSales 131 = .ok (.istore 10, 2) := by decide +kernel
theorem dX12_findSales_133 : decode cX12_findSales 133 = .ok (.iload 7, 2) := by decide +kernel
theorem dX12_findSales_135 : decode cX12_findSales 135 = .ok (.aload_n 0, 1) := by decide +kernel
theorem dX12_findSales_136 : decode cX12_findSales 136 = .ok (.getfield 38, 3) := by decide +kernel
theorem dX12_findSales_139 : decode cX12_findSales 139 = .ok (.iload 10, 2) := by decide +kernel
theorem dX12_findSales_141 : decode cX12_findSales 141 = .ok (.iconst 1, 1) := by decide +kernel
theorem dX12_findSales_142 : decode cX12_findSales 142 = .ok (.iadd, 1) := by decide +kernel
theorem dX12_findSales_143 : decode cX12_findSales 143 = .ok (.iaload, 1) := by decide +kernel
theorem dX12_findSales_144 : decode cX12_findSales 144 = .ok (.iadd, 1) := by decide +kernel
theorem dX12_findSales_145 : decode cX12_findSales 145 = .ok (.istore 7, 2) := by decide +kernel
theorem dX12_findSales_147 : decode cX12_findSales 147 = .ok (.iload 6, 2) := by decide +kernel
theorem dX12_findSales_149 : decode cX12_findSales 149 = .ok (.aload_n 0, 1) := by decide +kernel
theorem dX12_findSales_150 : decode cX12_findSales 150 = .ok (.getfield 38, 3) := by decide +kernel
theorem dX12_findSales_153 : decode cX12_findSales 153 = .ok (.iload 10, 2) := by decide +kernel
theorem dX12_findSales_155 : decode cX12_findSales 155 = .ok (.iconst 2, 1) := by decide +kernel
theorem dX12_findSales_156 : decode cX12_findSales 156 = .ok (.iadd, 1) := by decide +kernel
theorem dX12_findSales_157 : decode cX12_findSales 157 = .ok (.iaload, 1) := by decide +kernel
theorem dX12_findSales_158 : decode cX12_findSales 158 = .ok (.iconst 1, 1) := by decide +kernel
theorem dX12_findSales_159 : decode cX12_findSales 159 = .ok (.if_icmp .ne 15, 3) := by decide +kernel
theorem dX12_findSales_162 : decode cX12_findSales 162 = .ok (.aload_n 0, 1) := by decide +kernel
theorem dX12_findSales_163 : decode cX12_findSales 163 = .ok (.getfield 38, 3) := by decide +kernel
theorem dX12_findSales_166 : decode cX12_findSales 166 = .ok (.iload 10, 2) := by decide +kernel
theorem dX12_findSales_168 : decode cX12_findSales 168 = .ok (.iconst 1, 1) := by decide +kernel
theorem dX12_findSales_169 : decode cX12_findSales 169 = .ok (.iadd, 1) := by decide +kernel
theorem dX12_findSales_170 : decode cX12_findSales 170 = .ok (.iaload, 1) := by decide +kernel
theorem dX12_findSales_171 : decode cX12_findSales 171 = .ok (.goto 4, 3) := by decide +kernel
theorem dX12_findSales_174 : decode cX12_findSales 174 = .ok (.iconst 0, 1) := by decide +kernel
theorem dX12_findSales_175 : decode cX12_findSales 175 = .ok (.iadd, 1) := by decide +kernel
theorem dX12_findSales_176 : decode cX12_findSales 176 = .ok (.istore 6, 2) := by decide +kernel
theorem dX12_findSales_178 : decode cX12_findSales 178 = .ok (.iload 8, 2) := by decide +kernel
theorem dX12_findSales_180 : decode cX12_findSales 180 = .ok (.aload_n 0, 1) := by decide +kernel
theorem dX12_findSales_181 : decode cX12_findSales 181 = .ok (.getfield 38, 3) := by decide +kernel
theorem dX12_findSales_184 : decode cX12_findSales 184 = .ok (.iload 10, 2) := by decide +kernel
theorem dX12_findSales_186 : decode cX12_findSales 186 = .ok (.iconst 3, 1) := by decide +kernel
theorem dX12_findSales_187 : decode cX12_findSales 187 = .ok (.iadd, 1) := by decide +kernel
theorem dX12_findSales_188 : decode cX12_findSales 188 = .ok (.iaload, 1) := by decide +kernel
theorem dX12_findSales_189 : decode cX12_findSales 189 = .ok (.iadd, 1) := by decide +kernel
theorem dX12_findSales_190 : decode cX12_findSales 190 = .ok (.istore 8, 2) := by decide +kernel
theorem dX12_findSales_192 : decode cX12_findSales 192 = .ok (.iinc 9 1, 3) := by decide +kernel
theorem dX12_findSales_195 : decode cX12_findSales 195 = .ok (.goto (-92), 3) := by decide +kernel
theorem dX12_findSales_198 : decode cX12_findSales 198 = .ok (.iload 6, 2) := by decide +kernel
theorem dX12_findSales_200 : decode cX12_findSales 200 = .ok (.aload_n 0, 1) := by decide +kernel
theorem dX12_findSales_201 : decode cX12_findSales 201 = .ok (.getfield 77, 3) := by decide +kernel
theorem dX12_findSales_204 : decode cX12_findSales 204 = .ok (.iconst 0, 1) := by decide +kernel
theorem dX12_findSales_205 : decode cX12_findSales 205 = .ok (.iload_n 1, 1) := by decide +kernel
theorem dX12_findSales_206 : decode cX12_findSales 206 = .ok (.iadd, 1) := by decide +kernel
theorem dX12_findSales_207 : decode cX12_findSales 207 = .ok (.iaload, 1) := by decide +kernel
theorem dX12_findSales_208 : decode cX12_findSales 208 = .ok (.if_icmp .gt 43, 3) := by decide +kernel
theorem dX12_findSales_211 : decode cX12_findSales 211 = .ok (.iload 7, 2) := by decide +kernel
theorem dX12_findSales_213 : decode cX12_findSales 213 = .ok (.aload_n 0, 1) := by decide +kernel
theorem dX12_findSales_214 : decode cX12_findSales 214 = .ok (.getfield 77, 3) := by decide +kernel
theorem dX12_findSales_217 : decode cX12_findSales 217 = .ok (.iconst 0, 1) := by decide +kernel
theorem dX12_findSales_218 : decode cX12_findSales 218 = .ok (.iload_n 1, 1) := by decide +kernel
theorem dX12_findSales_219 : decode cX12_findSales 219 = .ok (.iadd, 1) := by decide +kernel
theorem dX12_findSales_220 : decode cX12_findSales 220 = .ok (.iaload, 1) := by decide +kernel
theorem dX12_findSales_221 : decode cX12_findSales 221 = .ok (.aload_n 0, 1) := by decide +kernel
theorem dX12_findSales_222 : decode cX12_findSales 222 = .ok (.getfield 77, 3) := by decide +kernel
theorem dX12_findSales_225 : decode cX12_findSales 225 = .ok (.bipush 6, 2) := by decide +kernel
theorem dX12_findSales_227 : decode cX12_findSales 227 = .ok (.iload_n 1, 1) := by decide +kernel
theorem dX12_findSales_228 : decode cX12_findSales 228 = .ok (.iadd, 1) := by decide +kernel
theorem dX12_findSales_229 : decode cX12_findSales 229 = .ok (.iaload, 1) := by decide +kernel
theorem dX12_findSales_230 : decode cX12_findSales 230 = .ok (.iadd, 1) := by decide +kernel
theorem dX12_findSales_231 : decode cX12_findSales 231 = .ok (.if_icmp .gt 20, 3) := by decide +kernel
theorem dX12_findSales_234 : decode cX12_findSales 234 = .ok (.iload 8, 2) := by decide +kernel
theorem dX12_findSales_236 : decode cX12_findSales 236 = .ok (.iload 4, 2) := by decide +kernel
theorem dX12_findSales_238 : decode cX12_findSales 238 = .ok (.if_icmp .gt 6, 3) := by decide +kernel
theorem dX12_findSales_241 : decode cX12_findSales 241 = .ok (.goto 10, 3) := by decide +kernel
theorem dX12_findSales_244 : decode cX12_findSales 244 = .ok (.iload 5, 2) := by decide +kernel
theorem dX12_findSales_246 : decode cX12_findSales 246 = .ok (.istore_n 3, 1) := by decide +kernel
theorem dX12_findSales_247 : decode cX12_findSales 247 = .ok (.iload 8, 2) := by decide +kernel
theorem dX12_findSales_249 : decode cX12_findSales 249 = .ok (.istore 4, 2) := by decide +kernel
theorem dX12_findSales_251 : decode cX12_findSales 251 = .ok (.iinc 5 1, 3) := by decide +kernel
theorem dX12_findSales_254 : decode cX12_findSales 254 = .ok (.goto (-171), 3) := by decide +kernel
theorem dX12_findSales_257 : decode cX12_findSales 257 = .ok (.aload_n 0, 1) := by decide +kernel
theorem dX12_findSales_258 : decode cX12_findSales 258 = .ok (.dup, 1) := by decide +kernel
theorem dX12_findSales_259 : decode cX12_findSales 259 = .ok (.getfield 408, 3) := by decide +kernel
theorem dX12_findSales_262 : decode cX12_findSales 262 = .ok (.iload 4, 2) := by decide +kernel
theorem dX12_findSales_264 : decode cX12_findSales 264 = .ok (.iadd, 1) := by decide +kernel
theorem dX12_findSales_265 : decode cX12_findSales 265 = .ok (.putfield 408, 3) := by decide +kernel
theorem dX12_findSales_268 : decode cX12_findSales 268 = .ok (.iconst 0, 1) := by decide +kernel
theorem dX12_findSales_269 : decode cX12_findSales 269 = .ok (.istore 5, 2) := by decide +kernel
theorem dX12_findSales_271 : decode cX12_findSales 271 = .ok (.iload 5, 2) := by decide +kernel
theorem dX12_findSales_273 : decode cX12_findSales 273 = .ok (.iload_n 2, 1) := by decide +kernel
theorem dX12_findSales_274 : decode cX12_findSales 274 = .ok (.if_icmp .ge 32, 3) := by decide +kernel
theorem dX12_findSales_277 : decode cX12_findSales 277 = .ok (.aload_n 0, 1) := by decide +kernel
theorem dX12_findSales_278 : decode cX12_findSales 278 = .ok (.dup, 1) := by decide +kernel
theorem dX12_findSales_279 : decode cX12_findSales 279 = .ok (.getfield 411, 3) := by decide +kernel
theorem dX12_findSales_282 : decode cX12_findSales 282 = .ok (.iload_n 3, 1) := by decide +kernel
theorem dX12_findSales_283 : decode cX12_findSales 283 = .ok (.iload 5, 2) := by decide +kernel
theorem dX12_findSales_285 : decode cX12_findSales 285 = .ok (.ishr, 1) := by decide +kernel
theorem dX12_findSales_286 : decode cX12_findSales 286 = .ok (.iconst 1, 1) := by decide +kernel
theorem dX12_findSales_287 : decode cX12_findSales 287 = .ok (.iand, 1) := by decide +kernel
theorem dX12_findSales_288 : decode cX12_findSales 288 = .ok (.aload_n 0, 1) := by decide +kernel
theorem dX12_findSales_289 : decode cX12_findSales 289 = .ok (.getfield 89, 3) := by decide +kernel
theorem dX12_findSales_292 : decode cX12_findSales 292 = .ok (.iload 5, 2) := by decide +kernel
theorem dX12_findSales_294 : decode cX12_findSales 294 = .ok (.iaload, 1) := by decide +kernel
theorem dX12_findSales_295 : decode cX12_findSales 295 = .ok (.ishl, 1) := by decide +kernel
theorem dX12_findSales_296 : decode cX12_findSales 296 = .ok (.ior, 1) := by decide +kernel
theorem dX12_findSales_297 : decode cX12_findSales 297 = .ok (.putfield 411, 3) := by decide +kernel
theorem dX12_findSales_300 : decode cX12_findSales 300 = .ok (.iinc 5 1, 3) := by decide +kernel
theorem dX12_findSales_303 : decode cX12_findSales 303 = .ok (.goto (-32), 3) := by decide +kernel
theorem dX12_findSales_306 : decode cX12_findSales 306 = .ok (.iinc 1 1, 3) := by decide +kernel
theorem dX12_findSales_309 : decode cX12_findSales 309 = .ok (.goto (-297), 3) := by decide +kernel
theorem dX12_findSales_312 : decode cX12_findSales 312 = .ok (.return_, 1) := by decide +kernel
theorem dX12_sales_0 : decode cX12_sales 0 = .ok (.aload_n 0, 1) := by decide +kernel
theorem dX12_sales_1 : decode cX12_sales 1 = .ok (.iconst 0, 1) := by decide +kernel
theorem dX12_sales_2 : decode cX12_sales 2 = .ok (.putfield 3, 3) := by decide +kernel
theorem dX12_sales_5 : decode cX12_sales 5 = .ok (.aload_n 0, 1) := by decide +kernel
theorem dX12_sales_6 : decode cX12_sales 6 = .ok (.iload_n 1, 1) := by decide +kernel
theorem dX12_sales_7 : decode cX12_sales 7 = .ok (.iconst 0, 1) := by decide +kernel
theorem dX12_sales_8 : decode cX12_sales 8 = .ok (.iconst 1, 1) := by decide +kernel
theorem dX12_sales_9 : decode cX12_sales 9 = .ok (.invokestatic 303, 3) := by decide +kernel
theorem dX12_sales_12 : decode cX12_sales 12 = .ok (.iconst 1, 1) := by decide +kernel
theorem dX12_sales_13 : decode cX12_sales 13 = .ok (.iconst 1, 1) := by decide +kernel
theorem dX12_sales_14 : decode cX12_sales 14 = .ok (.invokevirtual 229, 3) := by decide +kernel
theorem dX12_sales_17 : decode cX12_sales 17 = .ok (.ifCond .ne 5, 3) := by decide +kernel
theorem dX12_sales_20 : decode cX12_sales 20 = .ok (.iconst 0, 1) := by decide +kernel
theorem dX12_sales_21 : decode cX12_sales 21 = .ok (.ireturn, 1) := by decide +kernel
theorem dX12_sales_22 : decode cX12_sales 22 = .ok (.aload_n 0, 1) := by decide +kernel
theorem dX12_sales_23 : decode cX12_sales 23 = .ok (.invokevirtual 396, 3) := by decide +kernel
theorem dX12_sales_26 : decode cX12_sales 26 = .ok (.aload_n 0, 1) := by decide +kernel
theorem dX12_sales_27 : decode cX12_sales 27 = .ok (.invokevirtual 414, 3) := by decide +kernel
theorem dX12_sales_30 : decode cX12_sales 30 = .ok (.iload_n 1, 1) := by decide +kernel
theorem dX12_sales_31 : decode cX12_sales 31 = .ok (.ifCond .ne 10, 3) := by decide +kernel
theorem dX12_sales_34 : decode cX12_sales 34 = .ok (.aload_n 0, 1) := by decide +kernel
theorem dX12_sales_35 : decode cX12_sales 35 = .ok (.getfield 408, 3) := by decide +kernel
theorem dX12_sales_38 : decode cX12_sales 38 = .ok (.goto 7, 3) := by decide +kernel
theorem dX12_sales_41 : decode cX12_sales 41 = .ok (.aload_n 0, 1) := by decide +kernel
theorem dX12_sales_42 : decode cX12_sales 42 = .ok (.getfield 411, 3) := by decide +kernel
theorem dX12_sales_45 : decode cX12_sales 45 = .ok (.ireturn, 1) := by decide +kernel
theorem dX12_more_0 : decode cX12_more 0 = .ok (.aload_n 0, 1) := by decide +kernel
theorem dX12_more_1 : decode cX12_more 1 = .ok (.iconst 0, 1) := by decide +kernel
theorem dX12_more_2 : decode cX12_more 2 = .ok (.putfield 3, 3) := by decide +kernel
theorem dX12_more_5 : decode cX12_more 5 = .ok (.aload_n 0, 1) := by decide +kernel
theorem dX12_more_6 : decode cX12_more 6 = .ok (.iload_n 1, 1) := by decide +kernel
theorem dX12_more_7 : decode cX12_more 7 = .ok (.iconst 1, 1) := by decide +kernel
theorem dX12_more_8 : decode cX12_more 8 = .ok (.invokevirtual 393, 3) := by decide +kernel
theorem dX12_more_11 : decode cX12_more 11 = .ok (.ifCond .eq 19, 3) := by decide +kernel
theorem dX12_more_14 : decode cX12_more 14 = .ok (.aload_n 0, 1) := by decide +kernel
theorem dX12_more_15 : decode cX12_more 15 = .ok (.iload_n 2, 1) := by decide +kernel
theorem dX12_more_16 : decode cX12_more 16 = .ok (.iconst 0, 1) := by decide +kernel
theorem dX12_more_17 : decode cX12_more 17 = .ok (.bipush 99, 2) := by decide +kernel
theorem dX12_more_19 : decode cX12_more 19 = .ok (.invokestatic 303, 3) := by decide +kernel
theorem dX12_more_22 : decode cX12_more 22 = .ok (.iconst 2, 1) := by decide +kernel
theorem dX12_more_23 : decode cX12_more 23 = .ok (.iconst 1, 1) := by decide +kernel
theorem dX12_more_24 : decode cX12_more 24 = .ok (.invokevirtual 229, 3) := by decide +kernel
theorem dX12_more_27 : decode cX12_more 27 = .ok (.ifCond .ne 5, 3) := by decide +kernel
theorem dX12_more_30 : decode cX12_more 30 = .ok (.iconst 0, 1) := by decide +kernel
theorem dX12_more_31 : decode cX12_more 31 = .ok (.ireturn, 1) := by decide +kernel
theorem dX12_more_32 : decode cX12_more 32 = .ok (.aload_n 0, 1) := by decide +kernel
theorem dX12_more_33 : decode cX12_more 33 = .ok (.invokevirtual 396, 3) := by decide +kernel
theorem dX12_more_36 : decode cX12_more 36 = .ok (.aload_n 0, 1) := by decide +kernel
theorem dX12_more_37 : decode cX12_more 37 = .ok (.iconst 0, 1) := by decide +kernel
theorem dX12_more_38 : decode cX12_more 38 = .ok (.iload_n 1, 1) := by decide +kernel
theorem dX12_more_39 : decode cX12_more 39 = .ok (.iadd, 1) := by decide +kernel
theorem dX12_more_40 : decode cX12_more 40 = .ok (.iload_n 2, 1) := by decide +kernel
theorem dX12_more_41 : decode cX12_more 41 = .ok (.invokevirtual 368, 3) := by decide +kernel
theorem dX12_more_44 : decode cX12_more 44 = .ok (.aload_n 0, 1) := by decide +kernel
theorem dX12_more_45 : decode cX12_more 45 = .ok (.invokevirtual 414, 3) := by decide +kernel
theorem dX12_more_48 : decode cX12_more 48 = .ok (.aload_n 0, 1) := by decide +kernel
theorem dX12_more_49 : decode cX12_more 49 = .ok (.getfield 408, 3) := by decide +kernel
theorem dX12_more_52 : decode cX12_more 52 = .ok (.ireturn, 1) := by decide +kernel
theorem dX12_brings_0 : decode cX12_brings 0 = .ok (.aload_n 0, 1) := by decide +kernel
theorem dX12_brings_1 : decode cX12_brings 1 = .ok (.iconst 0, 1) := by decide +kernel
theorem dX12_brings_2 : decode cX12_brings 2 = .ok (.putfield 3, 3) := by decide +kernel
theorem dX12_brings_5 : decode cX12_brings 5 = .ok (.aload_n 0, 1) := by decide +kernel
theorem dX12_brings_6 : decode cX12_brings 6 = .ok (.iload_n 1, 1) := by decide +kernel
theorem dX12_brings_7 : decode cX12_brings 7 = .ok (.iconst 1, 1) := by decide +kernel
theorem dX12_brings_8 : decode cX12_brings 8 = .ok (.invokevirtual 393, 3) := by decide +kernel
theorem dX12_brings_11 : decode cX12_brings 11 = .ok (.ifCond .eq 40, 3) := by decide +kernel
theorem dX12_brings_14 : decode cX12_brings 14 = .ok (.aload_n 0, 1) := by decide +kernel
theorem dX12_brings_15 : decode cX12_brings 15 = .ok (.iload_n 2, 1) := by decide +kernel
theorem dX12_brings_16 : decode cX12_brings 16 = .ok (.iconst 1, 1) := by decide +kernel
theorem dX12_brings_17 : decode cX12_brings 17 = .ok (.invokevirtual 393, 3) := by decide +kernel
theorem dX12_brings_20 : decode cX12_brings 20 = .ok (.ifCond .eq 31, 3) := by decide +kernel
theorem dX12_brings_23 : decode cX12_brings 23 = .ok (.aload_n 0, 1) := by decide +kernel
theorem dX12_brings_24 : decode cX12_brings 24 = .ok (.iload_n 1, 1) := by decide +kernel
theorem dX12_brings_25 : decode cX12_brings 25 = .ok (.iload_n 2, 1) := by decide +kernel
theorem dX12_brings_26 : decode cX12_brings 26 = .ok (.if_icmp .eq 16, 3) := by decide +kernel
theorem dX12_brings_29 : decode cX12_brings 29 = .ok (.iload_n 3, 1) := by decide +kernel
theorem dX12_brings_30 : decode cX12_brings 30 = .ok (.iconst 0, 1) := by decide +kernel
theorem dX12_brings_31 : decode cX12_brings 31 = .ok (.iconst 1, 1) := by decide +kernel
theorem dX12_brings_32 : decode cX12_brings 32 = .ok (.invokestatic 303, 3) := by decide +kernel
theorem dX12_brings_35 : decode cX12_brings 35 = .ok (.ifCond .eq 7, 3) := by decide +kernel
theorem dX12_brings_38 : decode cX12_brings 38 = .ok (.iconst 1, 1) := by decide +kernel
theorem dX12_brings_39 : decode cX12_brings 39 = .ok (.goto 4, 3) := by decide +kernel
theorem dX12_brings_42 : decode cX12_brings 42 = .ok (.iconst 0, 1) := by decide +kernel
theorem dX12_brings_43 : decode cX12_brings 43 = .ok (.iconst 2, 1) := by decide +kernel
theorem dX12_brings_44 : decode cX12_brings 44 = .ok (.iconst 1, 1) := by decide +kernel
theorem dX12_brings_45 : decode cX12_brings 45 = .ok (.invokevirtual 229, 3) := by decide +kernel
theorem dX12_brings_48 : decode cX12_brings 48 = .ok (.ifCond .ne 5, 3) := by decide +kernel
theorem dX12_brings_51 : decode cX12_brings 51 = .ok (.iconst 0, 1) := by decide +kernel
theorem dX12_brings_52 : decode cX12_brings 52 = .ok (.ireturn, 1) := by decide +kernel
theorem dX12_brings_53 : decode cX12_brings 53 = .ok (.iconst 0, 1) := by decide +kernel
theorem dX12_brings_54 : decode cX12_brings 54 = .ok (.istore 4, 2) := by decide +kernel
theorem dX12_brings_56 : decode cX12_brings 56 = .ok (.iconst (-1), 1) := by decide +kernel
theorem dX12_brings_57 : decode cX12_brings 57 = .ok (.istore 5, 2) := by decide +kernel
theorem dX12_brings_59 : decode cX12_brings 59 = .ok (.iconst 0, 1) := by decide +kernel
theorem dX12_brings_60 : decode cX12_brings 60 = .ok (.istore 6, 2) := by decide +kernel
theorem dX12_brings_62 : decode cX12_brings 62 = .ok (.iload 6, 2) := by decide +kernel
theorem dX12_brings_64 : decode cX12_brings 64 = .ok (.aload_n 0, 1) := by decide +kernel
theorem dX12_brings_65 : decode cX12_brings 65 = .ok (.getfield 74, 3) := by decide +kernel
theorem dX12_brings_68 : decode cX12_brings 68 = .ok (.iconst 0, 1) := by decide +kernel
theorem dX12_brings_69 : decode cX12_brings 69 = .ok (.iload_n 1, 1) := by decide +kernel
theorem dX12_brings_70 : decode cX12_brings 70 = .ok (.iadd, 1) := by decide +kernel
theorem dX12_brings_71 : decode cX12_brings 71 = .ok (.iaload, 1) := by decide +kernel
theorem dX12_brings_72 : decode cX12_brings 72 = .ok (.if_icmp .gt 49, 3) := by decide +kernel
theorem dX12_brings_75 : decode cX12_brings 75 = .ok (.aload_n 0, 1) := by decide +kernel
theorem dX12_brings_76 : decode cX12_brings 76 = .ok (.invokevirtual 396, 3) := by decide +kernel
theorem dX12_brings_79 : decode cX12_brings 79 = .ok (.aload_n 0, 1) := by decide +kernel
theorem dX12_brings_80 : decode cX12_brings 80 = .ok (.iload_n 1, 1) := by decide +kernel
theorem dX12_brings_81 : decode cX12_brings 81 = .ok (.iload_n 2, 1) := by decide +kernel
theorem dX12_brings_82 : decode cX12_brings 82 = .ok (.iload 6, 2) := by decide +kernel
theorem dX12_brings_84 : decode cX12_brings 84 = .ok (.iconst 1, 1) := by decide +kernel
theorem dX12_brings_85 : decode cX12_brings 85 = .ok (.invokevirtual 377, 3) := by decide +kernel
theorem dX12_brings_88 : decode cX12_brings 88 = .ok (.pop, 1) := by decide +kernel
theorem dX12_brings_89 : decode cX12_brings 89 = .ok (.aload_n 0, 1) := by decide +kernel
theorem dX12_brings_90 : decode cX12_brings 90 = .ok (.invokevirtual 414, 3) := by decide +kernel
theorem dX12_brings_93 : decode cX12_brings 93 = .ok (.aload_n 0, 1) := by decide +kernel
theorem dX12_brings_94 : decode cX12_brings 94 = .ok (.getfield 408, 3) := by decide +kernel
theorem dX12_brings_97 : decode cX12_brings 97 = .ok (.iload 5, 2) := by decide +kernel
theorem dX12_brings_99 : decode cX12_brings 99 = .ok (.if_icmp .gt 6, 3) := by decide +kernel
theorem dX12_brings_102 : decode cX12_brings 102 = .ok (.goto 13, 3) := by decide +kernel
theorem dX12_brings_105 : decode cX12_brings 105 = .ok (.iload 6, 2) := by decide +kernel
theorem dX12_brings_107 : decode cX12_brings 107 = .ok (.istore 4, 2) := by decide +kernel
theorem dX12_brings_109 : decode cX12_brings 109 = .ok (.aload_n 0, 1) := by decide +kernel
theorem dX12_brings_110 : decode cX12_brings 110 = .ok (.getfield 408, 3) := by decide +kernel
theorem dX12_brings_113 : decode cX12_brings 113 = .ok (.istore 5, 2) := by decide +kernel
theorem dX12_brings_115 : decode cX12_brings 115 = .ok (.iinc 6 1, 3) := by decide +kernel
theorem dX12_brings_118 : decode cX12_brings 118 = .ok (.goto (-56), 3) := by decide +kernel
theorem dX12_brings_121 : decode cX12_brings 121 = .ok (.iload_n 3, 1) := by decide +kernel
theorem dX12_brings_122 : decode cX12_brings 122 = .ok (.ifCond .ne 8, 3) := by decide +kernel
theorem dX12_brings_125 : decode cX12_brings 125 = .ok (.iload 4, 2) := by decide +kernel
theorem dX12_brings_127 : decode cX12_brings 127 = .ok (.goto 5, 3) := by decide +kernel
theorem dX12_brings_130 : decode cX12_brings 130 = .ok (.iload 5, 2) := by decide +kernel
theorem dX12_brings_132 : decode cX12_brings 132 = .ok (.ireturn, 1) := by decide +kernel
theorem dX12_priceAt_0 : decode cX12_priceAt 0 = .ok (.iconst 0, 1) := by decide +kernel
theorem dX12_priceAt_1 : decode cX12_priceAt 1 = .ok (.istore_n 2, 1) := by decide +kernel
theorem dX12_priceAt_2 : decode cX12_priceAt 2 = .ok (.aload_n 0, 1) := by decide +kernel
theorem dX12_priceAt_3 : decode cX12_priceAt 3 = .ok (.iload_n 1, 1) := by decide +kernel
theorem dX12_priceAt_4 : decode cX12_priceAt 4 = .ok (.iload_n 2, 1) := by decide +kernel
theorem dX12_priceAt_5 : decode cX12_priceAt 5 = .ok (.invokevirtual 399, 3) := by decide +kernel
theorem dX12_priceAt_8 : decode cX12_priceAt 8 = .ok (.aload_n 0, 1) := by decide +kernel
theorem dX12_priceAt_9 : decode cX12_priceAt 9 = .ok (.getfield 77, 3) := by decide +kernel
theorem dX12_priceAt_12 : decode cX12_priceAt 12 = .ok (.iconst 0, 1) := by decide +kernel
theorem dX12_priceAt_13 : decode cX12_priceAt 13 = .ok (.iload_n 1, 1) := by decide +kernel
theorem dX12_priceAt_14 : decode cX12_priceAt 14 = .ok (.iadd, 1) := by decide +kernel
theorem dX12_priceAt_15 : decode cX12_priceAt 15 = .ok (.iaload, 1) := by decide +kernel
theorem dX12_priceAt_16 : decode cX12_priceAt 16 = .ok (.aload_n 0, 1) := by decide +kernel
theorem dX12_priceAt_17 : decode cX12_priceAt 17 = .ok (.getfield 77, 3) := by decide +kernel
theorem dX12_priceAt_20 : decode cX12_priceAt 20 = .ok (.bipush 6, 2) := by decide +kernel
theorem dX12_priceAt_22 : decode cX12_priceAt 22 = .ok (.iload_n 1, 1) := by decide +kernel
theorem dX12_priceAt_23 : decode cX12_priceAt 23 = .ok (.iadd, 1) := by decide +kernel
theorem dX12_priceAt_24 : decode cX12_priceAt 24 = .ok (.iaload, 1) := by decide +kernel
theorem dX12_priceAt_25 : decode cX12_priceAt 25 = .ok (.iadd, 1) := by decide +kernel
theorem dX12_priceAt_26 : decode cX12_priceAt 26 = .ok (.if_icmp .le 9, 3) := by decide +kernel
theorem dX12_priceAt_29 : decode cX12_priceAt 29 = .ok (.iinc 2 1, 3) := by decide +kernel
theorem dX12_priceAt_32 : decode cX12_priceAt 32 = .ok (.goto (-30), 3) := by decide +kernel
theorem dX12_priceAt_35 : decode cX12_priceAt 35 = .ok (.iload_n 2, 1) := by decide +kernel
theorem dX12_priceAt_36 : decode cX12_priceAt 36 = .ok (.ireturn, 1) := by decide +kernel
theorem dX12_price_0 : decode cX12_price 0 = .ok (.aload_n 0, 1) := by decide +kernel
theorem dX12_price_1 : decode cX12_price 1 = .ok (.iconst 0, 1) := by decide +kernel
theorem dX12_price_2 : decode cX12_price 2 = .ok (.putfield 3, 3) := by decide +kernel
theorem dX12_price_5 : decode cX12_price 5 = .ok (.aload_n 0, 1) := by decide +kernel
theorem dX12_price_6 : decode cX12_price 6 = .ok (.iload_n 1, 1) := by decide +kernel
theorem dX12_price_7 : decode cX12_price 7 = .ok (.iconst 1, 1) := by decide +kernel
theorem dX12_price_8 : decode cX12_price 8 = .ok (.invokevirtual 393, 3) := by decide +kernel
theorem dX12_price_11 : decode cX12_price 11 = .ok (.ifCond .ne 5, 3) := by decide +kernel
theorem dX12_price_14 : decode cX12_price 14 = .ok (.iconst 0, 1) := by decide +kernel
theorem dX12_price_15 : decode cX12_price 15 = .ok (.ireturn, 1) := by decide +kernel
theorem dX12_price_16 : decode cX12_price 16 = .ok (.aload_n 0, 1) := by decide +kernel
theorem dX12_price_17 : decode cX12_price 17 = .ok (.invokevirtual 396, 3) := by decide +kernel
theorem dX12_price_20 : decode cX12_price 20 = .ok (.aload_n 0, 1) := by decide +kernel
theorem dX12_price_21 : decode cX12_price 21 = .ok (.iload_n 1, 1) := by decide +kernel
theorem dX12_price_22 : decode cX12_price 22 = .ok (.invokevirtual 417, 3) := by decide +kernel
theorem dX12_price_25 : decode cX12_price 25 = .ok (.ireturn, 1) := by decide +kernel
theorem dX12_corner_0 : decode cX12_corner 0 = .ok (.aload_n 0, 1) := by decide +kernel
theorem dX12_corner_1 : decode cX12_corner 1 = .ok (.iconst 0, 1) := by decide +kernel
theorem dX12_corner_2 : decode cX12_corner 2 = .ok (.putfield 3, 3) := by decide +kernel
theorem dX12_corner_5 : decode cX12_corner 5 = .ok (.aload_n 0, 1) := by decide +kernel
theorem dX12_corner_6 : decode cX12_corner 6 = .ok (.iload_n 1, 1) := by decide +kernel
theorem dX12_corner_7 : decode cX12_corner 7 = .ok (.iconst 1, 1) := by decide +kernel
theorem dX12_corner_8 : decode cX12_corner 8 = .ok (.invokevirtual 393, 3) := by decide +kernel
theorem dX12_corner_11 : decode cX12_corner 11 = .ok (.ifCond .eq 19, 3) := by decide +kernel
theorem dX12_corner_14 : decode cX12_corner 14 = .ok (.aload_n 0, 1) := by decide +kernel
theorem dX12_corner_15 : decode cX12_corner 15 = .ok (.iload_n 2, 1) := by decide +kernel
theorem dX12_corner_16 : decode cX12_corner 16 = .ok (.iconst 0, 1) := by decide +kernel
theorem dX12_corner_17 : decode cX12_corner 17 = .ok (.bipush 100, 2) := by decide +kernel
theorem dX12_corner_19 : decode cX12_corner 19 = .ok (.invokestatic 303, 3) := by decide +kernel
theorem dX12_corner_22 : decode cX12_corner 22 = .ok (.iconst 2, 1) := by decide +kernel
theorem dX12_corner_23 : decode cX12_corner 23 = .ok (.iconst 1, 1) := by decide +kernel
theorem dX12_corner_24 : decode cX12_corner 24 = .ok (.invokevirtual 229, 3) := by decide +kernel
theorem dX12_corner_27 : decode cX12_corner 27 = .ok (.ifCond .ne 5, 3) := by decide +kernel
theorem dX12_corner_30 : decode cX12_corner 30 = .ok (.iconst 0, 1) := by decide +kernel
theorem dX12_corner_31 : decode cX12_corner 31 = .ok (.ireturn, 1) := by decide +kernel
theorem dX12_corner_32 : decode cX12_corner 32 = .ok (.aload_n 0, 1) := by decide +kernel
theorem dX12_corner_33 : decode cX12_corner 33 = .ok (.invokevirtual 396, 3) := by decide +kernel
